/-! numbers, loops' measures, booleans -/
theorem i_add {a b : Int32} (h1 : -2147483648 ≤ a.toInt + b.toInt) (h2 : a.toInt + b.toInt < 2147483648) : (a + b).toInt = a.toInt + b.toInt := by
  rw [Int32.toInt_add]; exact Int.bmod_eq_of_le (by omega) (by omega)
theorem i_sub {a b : Int32} (h1 : -2147483648 ≤ a.toInt - b.toInt) (h2 : a.toInt - b.toInt < 2147483648) : (a - b).toInt = a.toInt - b.toInt := by
  rw [Int32.toInt_sub]; exact Int.bmod_eq_of_le (by omega) (by omega)
theorem i_mul {a b : Int32} (h1 : -2147483648 ≤ a.toInt * b.toInt) (h2 : a.toInt * b.toInt < 2147483648) : (a * b).toInt = a.toInt * b.toInt := by
  rw [Int32.toInt_mul]; exact Int.bmod_eq_of_le (by omega) (by omega)
theorem i_one : (1 : Int32).toInt = 1 := rfl
theorem cnt_lt {i b : Int32} {n : Nat} (c : ¬ b ≤ i) (h : b.toInt ≤ i.toInt + (n + 1 : Nat)) : b.toInt ≤ (i + (1 : Int32)).toInt + (n : Nat) := by
  have h1 := Int32.toInt_lt b
  have h2 := Int32.le_toInt i
  rw [Int32.le_iff_toInt_le] at c
  rw [i_add (by rw [i_one]; omega) (by rw [i_one]; omega), i_one]
  omega
theorem cnt_lt0 {i b : Int32} (c : ¬ b ≤ i) (h : b.toInt ≤ i.toInt + (0 : Nat)) : False := by
  rw [Int32.le_iff_toInt_le] at c
  omega
theorem cnt_le {i b : Int32} {n : Nat} (hb : b.toInt < 2147483647) (c : ¬ b < i) (h : b.toInt < i.toInt + (n + 1 : Nat)) : b.toInt < (i + (1 : Int32)).toInt + (n : Nat) := by
  have h2 := Int32.le_toInt i
  rw [Int32.lt_iff_toInt_lt] at c
  rw [i_add (by rw [i_one]; omega) (by rw [i_one]; omega), i_one]
  omega
theorem cnt_le0 {i b : Int32} (c : ¬ b < i) (h : b.toInt < i.toInt + (0 : Nat)) : False := by
  rw [Int32.lt_iff_toInt_lt] at c
  omega
theorem nar_z {x : Int32} (h : x = 0 ∨ x = 1) : narrow .boolean (.int x) = .int x := by rcases h with rfl | rfl <;> rfl
theorem fit_z {x : Int32} (h : x = 0 ∨ x = 1) : fits .boolean (.int x) = true := by rcases h with rfl | rfl <;> rfl
abbrev mmax (x y : Int32) : Int32 := if x < y then y else x
abbrev mmin (x y : Int32) : Int32 := if y < x then y else x
abbrev mabs (x : Int32) : Int32 := if 0 ≤ x then x else 0 - x
theorem inb_of {x : Int32} {n : Nat} (h0 : ¬ x < 0) (hn : n < 2 ^ 31) (h : ¬ nI n ≤ x) : vp_in x n := by
  obtain ⟨j, hj, rfl⟩ := nI_of h0
  refine vp_in_nI ?_ hn
  rcases Nat.lt_or_ge j n with q | q
  · exact q
  · exact absurd (nI_le q hj) h
/-- a place is in, by numbers -/
theorem inb_i {x : Int32} {n : Nat} (h0 : 0 ≤ x.toInt) (h : x.toInt < n) : vp_in x n := vp_in_iff.mpr ⟨h0, h⟩
theorem cnt_lt_pos {i b : Int32} (c : ¬ b ≤ i) (h : 0 ≤ i.toInt) : 0 ≤ (i + (1 : Int32)).toInt := by
  have h1 := Int32.toInt_lt b
  rw [Int32.le_iff_toInt_le] at c
  rw [i_add (by rw [i_one]; omega) (by rw [i_one]; omega), i_one]
  omega
theorem cnt_le_pos {i b : Int32} (hb : b.toInt < 2147483647) (c : ¬ b < i) (h : 0 ≤ i.toInt) : 0 ≤ (i + (1 : Int32)).toInt := by
  rw [Int32.lt_iff_toInt_lt] at c
  rw [i_add (by rw [i_one]; omega) (by rw [i_one]; omega), i_one]
  omega
theorem inb_j {x : Int32} {n : Nat} (h0 : 0 ≤ x.toInt) (hn : n < 2 ^ 31) (h : ¬ nI n ≤ x) : vp_in x n := by
  rw [Int32.le_iff_toInt_le, nI_toInt hn] at h
  exact inb_i h0 (by omega)
theorem inb_c {x k : Int32} {n : Nat} (h0 : 0 ≤ x.toInt) (h : ¬ k ≤ x) (hk : k.toInt = n) : vp_in x n := by
  rw [Int32.le_iff_toInt_le] at h
  exact inb_i h0 (by omega)
theorem i_nn {x : Int32} (h : ¬ x < 0) : 0 ≤ x.toInt := by
  rw [Int32.lt_iff_toInt_lt] at h
  have : (0 : Int32).toInt = 0 := rfl
  omega
theorem i_nn' {x : Int32} (h : ¬ x ≤ 0) : 0 ≤ x.toInt := by
  rw [Int32.le_iff_toInt_le] at h
  have : (0 : Int32).toInt = 0 := rfl
  omega
theorem gust_nz {x : Int32} (c : 0 ≤ x) : ¬ (Int32.toInt64 (x + (1 : Int32))) = 0 := by
  intro h
  have h1 : (Int32.toInt64 (x + (1 : Int32))).toInt = (x + (1 : Int32)).toInt := Int32.toInt_toInt64 _
  rw [h] at h1
  have h0 : (0 : Int64).toInt = 0 := rfl
  rw [Int32.le_iff_toInt_le] at c
  have hz : (0 : Int32).toInt = 0 := rfl
  have hx := Int32.toInt_lt x
  by_cases h3 : x.toInt + 1 < 2147483648
  · rw [i_add (by rw [i_one]; omega) (by rw [i_one]; omega), i_one] at h1
    omega
  · have e : x = 2147483647 := Int32.toInt_inj.mp (by
      have : (2147483647 : Int32).toInt = 2147483647 := rfl
      omega)
    subst e
    exact absurd h1 (by decide)
theorem cnt_step10 {i b : Int32} {n : Nat} (hb : b.toInt < 1000000) (c : ¬ b < i) (h : b.toInt < i.toInt + 10 * (n + 1 : Nat)) (h0 : 0 ≤ i.toInt) : b.toInt < (i + (10 : Int32)).toInt + 10 * (n : Nat) ∧ 0 ≤ (i + (10 : Int32)).toInt := by
  have h10 : (10 : Int32).toInt = 10 := rfl
  rw [Int32.lt_iff_toInt_lt] at c
  rw [i_add (by rw [h10]; omega) (by rw [h10]; omega), h10]
  omega
theorem kc0 {x : Int32} (c : x = 0) : x.toNatClampNeg = 0 := by rw [c]; rfl
theorem kc1 {x : Int32} (h0 : ¬ x < 0) (h2 : x < 2) (c : ¬ x = 0) : x = 1 := by
  rw [Int32.lt_iff_toInt_lt] at h0 h2
  have e0 : (0 : Int32).toInt = 0 := rfl
  have e1 : (1 : Int32).toInt = 1 := rfl
  have e2 : (2 : Int32).toInt = 2 := rfl
  have hne : ¬ x.toInt = 0 := fun q => c (Int32.toInt_inj.mp (by omega))
  exact Int32.toInt_inj.mp (by omega)
theorem kc_b {x v : Int32} (h1 : ¬ x < 1) (h2 : x ≤ 2) (e : v = x - (1 : Int32)) : ¬ v < 0 ∧ v < 2 := by
  rw [Int32.lt_iff_toInt_lt] at h1
  rw [Int32.le_iff_toInt_le] at h2
  have e0 : (0 : Int32).toInt = 0 := rfl
  have e1 : (1 : Int32).toInt = 1 := rfl
  have e2 : (2 : Int32).toInt = 2 := rfl
  have ev : v.toInt = x.toInt - 1 := by rw [e, i_sub (by rw [e1]; omega) (by rw [e1]; omega), e1]
  rw [Int32.lt_iff_toInt_lt, Int32.lt_iff_toInt_lt]
  omega
theorem kc_in {x : Int32} (h0 : ¬ x < 0) (h2 : x < 2) : vp_in x 2 := by
  rw [Int32.lt_iff_toInt_lt] at h0 h2
  have e0 : (0 : Int32).toInt = 0 := rfl
  have e2 : (2 : Int32).toInt = 2 := rfl
  exact inb_i (by omega) (by omega)
section AREF
variable {p : Program} {l : Launch} {e : Env} {R : Room} {s : State} {m : MethodId} {args : Array Value} {below : List Frame} {meth : Method} {c : Code} {H : Heap} {locs : List Loc} {cells slots : Nat} {Q : State → Prop}
variable {cc : ByteArray} {pc : Nat} {ls : Array Slot} {rest : List Value} {E : wV} {ws : va_W} {a n k y : Nat} {f : Nat → Option Nat} {i v : Int32}
theorem ar_ald (hx : p.tables.exec = Jvm.exec) (hb : c.code = cc) (hE : wE E s) (hP : va_P E.1 vwCl ws H) (q0 : Nat) (ha : ws[q0]? = some (a, .inl (E.2.2.2, n, .inr (.inr (.inr (.inr f)))))) (hin : vp_in i n) (hk : i.toNatClampNeg = k) (hv : f k = some y) (hdg : decode cc pc = .ok (.aaload, 1))
    (kk : W p l e R s m args below meth c H locs cells slots Q (F0 m (pc + 1) ls (.ref y :: rest))) : W p l e R s m args below meth c H locs cells slots Q (F0 m pc ls (.int i :: .ref a :: rest)) := by
  subst hk
  refine va_aldq (C := "BandBoat$Motion") hx hb hE.1 hP q0 2 ha rfl hin hdg ?_
  rw [hv]
  exact kk
theorem ar_mlen (hx : p.tables.exec = Jvm.exec) (hb : c.code = cc) (hE : wE E s) (hP : va_P E.1 vwCl ws H) (q0 : Nat) (ha : ws[q0]? = some (a, .inl (E.2.2.2, n, .inr (.inr (.inr (.inr f)))))) (hv : Int32.ofNat n = v) (hdg : decode cc pc = .ok (.arraylength, 1))
    (kk : W p l e R s m args below meth c H locs cells slots Q (F0 m (pc + 1) ls (.int v :: rest))) : W p l e R s m args below meth c H locs cells slots Q (F0 m pc ls (.ref a :: rest)) :=
  va_alen (x := (n, .inr (.inr (.inr (.inr f))))) (ty := .object "BandBoat$Motion") hx hb hE.1 hP q0 2 ha rfl hv hdg kk
end AREF
theorem lt_nle {x k : Int32} (c : ¬ k ≤ x) : x.toInt < k.toInt := by
  rw [Int32.le_iff_toInt_le] at c
  omega
theorem le_nlt {x k : Int32} (c : ¬ k < x) : x.toInt ≤ k.toInt := by
  rw [Int32.lt_iff_toInt_lt] at c
  omega
theorem cnt_step10' {i : Int32} {n : Nat} (c : ¬ (401 : Int32) ≤ i) (h : (400 : Int32).toInt < i.toInt + 10 * (n + 1 : Nat) ∧ 0 ≤ i.toInt) : (400 : Int32).toInt < (i + (10 : Int32)).toInt + 10 * (n : Nat) ∧ 0 ≤ (i + (10 : Int32)).toInt := by
  have h10 : (10 : Int32).toInt = 10 := rfl
  have h401 : (401 : Int32).toInt = 401 := rfl
  have c := lt_nle c
  rw [i_add (by rw [h10]; omega) (by rw [h10]; omega), h10]
  omega

abbrev xBand (h : Nat) (r : Nat → Int32) : Nat × va_E := (h, .inr (0, [.int (r 0), .int (r 1), .int (r 2), .int (r 3), .int (r 4), .int (r 5), .int (r 6)]))
abbrev xGauge (h : Nat) (ad : Nat → Nat) (r : Nat → Int32) : Nat × va_E := (h, .inr (1, [.ref (ad 0), .ref (ad 1), .ref (ad 2), .int (r 3)]))
abbrev xMarks (h : Nat) (ad : Nat → Nat) (r : Nat → Int32) : Nat × va_E := (h, .inr (2, [.ref (ad 0), .ref (ad 1), .int (r 2)]))
abbrev xMemo (h : Nat) (ad : Nat → Nat) (r : Nat → Int32) : Nat × va_E := (h, .inr (3, [.ref (ad 0), .int (r 1), .int (r 2), .int (r 3)]))
abbrev xMotion (h : Nat) (r : Nat → Int32) : Nat × va_E := (h, .inr (4, [.int (r 0), .int (r 1), .int (r 2), .int (r 3), .int (r 4), .int (r 5), .int (r 6)]))
abbrev xReader (h : Nat) (ad : Nat → Nat) : Nat × va_E := (h, .inr (5, [.ref (ad 0), .ref (ad 1), .ref (ad 2)]))
abbrev xRig (h : Nat) (r : Nat → Int32) : Nat × va_E := (h, .inr (6, [.int (r 0), .int (r 1), .int (r 2), .int (r 3), .int (r 4), .int (r 5), .int (r 6), .int (r 7), .int (r 8), .int (r 9), .int (r 10), .int (r 11), .int (r 12), .int (r 13), .int (r 14), .int (r 15), .int (r 16)]))
abbrev xScript (h : Nat) (ad : Nat → Nat) (r : Nat → Int32) : Nat × va_E := (h, .inr (7, [.ref (ad 0), .int (r 1)]))
abbrev xTrial (h : Nat) (ad : Nat → Nat) (r : Nat → Int32) : Nat × va_E := (h, .inr (8, [.ref (ad 0), .ref (ad 1), .ref (ad 2), .int (r 3), .int (r 4), .int (r 5)]))
abbrev xBandBoat (h : Nat) (ad : Nat → Nat) (r : Nat → Int32) : Nat × va_E := (h, .inr (9, [.ref (ad 0), .ref (ad 1), .ref (ad 2), .ref (ad 3), .ref (ad 4), .ref (ad 5), .ref (ad 6), .ref (ad 7), .ref (ad 8), .ref (ad 9), .int (r 10), .ref (ad 11), .int (r 12), .ref (ad 13), .ref (ad 14), .ref (ad 15), .ref (ad 16), .ref (ad 17)]))
abbrev xModel (h : Nat) (ad : Nat → Nat) (r : Nat → Int32) : Nat × va_E := (h, .inr (10, [.int (r 0), .ref (ad 1), .int (r 2), .int (r 3), .int (r 4), .ref (ad 5), .int (r 6), .int (r 7), .int (r 8), .int (r 9), .int (r 10), .int (r 11), .int (r 12), .ref (ad 13), .ref (ad 14), .ref (ad 15), .int (r 16), .int (r 17), .int (r 18), .int (r 19), .int (r 20), .ref (ad 21), .int (r 22), .ref (ad 23), .ref (ad 24), .int (r 25), .ref (ad 26)]))
abbrev xI (E : wV) (h n : Nat) (f : Nat → Int32) : Nat × va_E := (h, .inl (E.2.1, n, .inl f))
abbrev xB (E : wV) (h n : Nat) (f : Nat → Int32) : Nat × va_E := (h, .inl (E.2.2.1, n, .inl f))
abbrev xM (E : wV) (h n : Nat) (f : Nat → Option Nat) : Nat × va_E := (h, .inl (E.2.2.2, n, .inr (.inr (.inr (.inr f)))))
