/-! numbers, loops' measures, booleans -/
theorem i_add {a b : Int32} (h1 : -2147483648 ≤ a.toInt + b.toInt) (h2 : a.toInt + b.toInt < 2147483648) : (a + b).toInt = a.toInt + b.toInt := by
  rw [Int32.toInt_add]; exact Int.bmod_eq_of_le (by omega) (by omega)
theorem i_sub {a b : Int32} (h1 : -2147483648 ≤ a.toInt - b.toInt) (h2 : a.toInt - b.toInt < 2147483648) : (a - b).toInt = a.toInt - b.toInt := by
  rw [Int32.toInt_sub]; exact Int.bmod_eq_of_le (by omega) (by omega)
theorem i_mul {a b : Int32} (h1 : -2147483648 ≤ a.toInt * b.toInt) (h2 : a.toInt * b.toInt < 2147483648) : (a * b).toInt = a.toInt * b.toInt := by
  rw [Int32.toInt_mul]; exact Int.bmod_eq_of_le (by omega) (by omega)
theorem i_one : (1 : Int32).toInt = 1 := rfl
theorem cnt_lt {i b : Int32} {n : Nat} (c : ¬ b ≤ i) (h : b.toInt ≤ i.toInt + (n + 1 : Nat)) : b.toInt ≤ (i + (1 : Int32)).toInt + (n : Nat) := by
  have h1 := Int32.toInt_lt b
  have h2 := Int32.le_toInt i
  rw [Int32.le_iff_toInt_le] at c
  rw [i_add (by rw [i_one]; omega) (by rw [i_one]; omega), i_one]
  omega
theorem cnt_lt0 {i b : Int32} (c : ¬ b ≤ i) (h : b.toInt ≤ i.toInt + (0 : Nat)) : False := by
  rw [Int32.le_iff_toInt_le] at c
  omega
theorem cnt_le {i b : Int32} {n : Nat} (hb : b.toInt < 2147483647) (c : ¬ b < i) (h : b.toInt < i.toInt + (n + 1 : Nat)) : b.toInt < (i + (1 : Int32)).toInt + (n : Nat) := by
  have h2 := Int32.le_toInt i
  rw [Int32.lt_iff_toInt_lt] at c
  rw [i_add (by rw [i_one]; omega) (by rw [i_one]; omega), i_one]
  omega
theorem cnt_le0 {i b : Int32} (c : ¬ b < i) (h : b.toInt < i.toInt + (0 : Nat)) : False := by
  rw [Int32.lt_iff_toInt_lt] at c
  omega
theorem nar_z {x : Int32} (h : x = 0 ∨ x = 1) : narrow .boolean (.int x) = .int x := by rcases h with rfl | rfl <;> rfl
theorem fit_z {x : Int32} (h : x = 0 ∨ x = 1) : fits .boolean (.int x) = true := by rcases h with rfl | rfl <;> rfl
abbrev mmax (x y : Int32) : Int32 := if x < y then y else x
abbrev mmin (x y : Int32) : Int32 := if y < x then y else x
abbrev mabs (x : Int32) : Int32 := if 0 ≤ x then x else 0 - x
theorem inb_of {x : Int32} {n : Nat} (h0 : ¬ x < 0) (hn : n < 2 ^ 31) (h : ¬ nI n ≤ x) : vp_in x n := by
  obtain ⟨j, hj, rfl⟩ := nI_of h0
  refine vp_in_nI ?_ hn
  rcases Nat.lt_or_ge j n with q | q
  · exact q
  · exact absurd (nI_le q hj) h
/-- a place is in, by numbers -/
theorem inb_i {x : Int32} {n : Nat} (h0 : 0 ≤ x.toInt) (h : x.toInt < n) : vp_in x n := vp_in_iff.mpr ⟨h0, h⟩

abbrev xBand (h : Nat) (r : Nat → Int32) : Nat × va_E := (h, .inr (0, [.int (r 0), .int (r 1), .int (r 2), .int (r 3), .int (r 4), .int (r 5), .int (r 6)]))
abbrev xGauge (h : Nat) (ad : Nat → Nat) (r : Nat → Int32) : Nat × va_E := (h, .inr (1, [.ref (ad 0), .ref (ad 1), .ref (ad 2), .int (r 3)]))
abbrev xMarks (h : Nat) (ad : Nat → Nat) (r : Nat → Int32) : Nat × va_E := (h, .inr (2, [.ref (ad 0), .ref (ad 1), .int (r 2)]))
abbrev xMemo (h : Nat) (ad : Nat → Nat) (r : Nat → Int32) : Nat × va_E := (h, .inr (3, [.ref (ad 0), .int (r 1), .int (r 2), .int (r 3)]))
abbrev xMotion (h : Nat) (r : Nat → Int32) : Nat × va_E := (h, .inr (4, [.int (r 0), .int (r 1), .int (r 2), .int (r 3), .int (r 4), .int (r 5), .int (r 6)]))
abbrev xReader (h : Nat) (ad : Nat → Nat) : Nat × va_E := (h, .inr (5, [.ref (ad 0), .ref (ad 1), .ref (ad 2)]))
abbrev xRig (h : Nat) (r : Nat → Int32) : Nat × va_E := (h, .inr (6, [.int (r 0), .int (r 1), .int (r 2), .int (r 3), .int (r 4), .int (r 5), .int (r 6), .int (r 7), .int (r 8), .int (r 9), .int (r 10), .int (r 11), .int (r 12), .int (r 13), .int (r 14), .int (r 15), .int (r 16)]))
abbrev xScript (h : Nat) (ad : Nat → Nat) (r : Nat → Int32) : Nat × va_E := (h, .inr (7, [.ref (ad 0), .int (r 1)]))
abbrev xTrial (h : Nat) (ad : Nat → Nat) (r : Nat → Int32) : Nat × va_E := (h, .inr (8, [.ref (ad 0), .ref (ad 1), .ref (ad 2), .int (r 3), .int (r 4), .int (r 5)]))
abbrev xBandBoat (h : Nat) (ad : Nat → Nat) (r : Nat → Int32) : Nat × va_E := (h, .inr (9, [.ref (ad 0), .ref (ad 1), .ref (ad 2), .ref (ad 3), .ref (ad 4), .ref (ad 5), .ref (ad 6), .ref (ad 7), .ref (ad 8), .ref (ad 9), .int (r 10), .ref (ad 11), .int (r 12), .ref (ad 13), .ref (ad 14), .ref (ad 15), .ref (ad 16), .ref (ad 17)]))
abbrev xModel (h : Nat) (ad : Nat → Nat) (r : Nat → Int32) : Nat × va_E := (h, .inr (10, [.int (r 0), .ref (ad 1), .int (r 2), .int (r 3), .int (r 4), .ref (ad 5), .int (r 6), .int (r 7), .int (r 8), .int (r 9), .int (r 10), .int (r 11), .int (r 12), .ref (ad 13), .ref (ad 14), .ref (ad 15), .int (r 16), .int (r 17), .int (r 18), .int (r 19), .int (r 20), .ref (ad 21), .int (r 22), .ref (ad 23), .ref (ad 24), .int (r 25), .ref (ad 26)]))
abbrev xI (E : wV) (h n : Nat) (f : Nat → Int32) : Nat × va_E := (h, .inl (E.2.1, n, .inl f))
abbrev xB (E : wV) (h n : Nat) (f : Nat → Int32) : Nat × va_E := (h, .inl (E.2.2.1, n, .inl f))
abbrev xM (E : wV) (h n : Nat) (f : Nat → Option Nat) : Nat × va_E := (h, .inl (E.2.2.2, n, .inr (.inr (.inr (.inr f)))))
