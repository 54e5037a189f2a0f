/-! fits -/
theorem wid_c {N w : Nat} (hw : w + 1 < N) (hN : N < 1000) (g : Nat → Int32) (fst x : Int32) (i : Nat) : F_X3_widen N g (nI w) fst x i = if i = w then (if fst = 0 ∧ g w ≤ x then g w else x) else if i = w + 1 then (if fst = 0 ∧ x ≤ g (w + 1) then g (w + 1) else x) else g i := by
  have e19 : ∀ f : Nat → Int32, F_X3_widen_j19 N (nI w) fst x f = if fst = 0 ∧ x ≤ f (w + 1) then f else upd f (w + 1) x := by
    intro f
    unfold F_X3_widen_j19 F_X3_widen_j34 F_X3_widen_k39
    rw [nI_1, m_ans hw hN, m_put hw hN]
    by_cases q : fst = 0
    · rw [if_pos q]
      by_cases q1 : x ≤ f (w + 1)
      · rw [if_pos q1, if_pos ⟨q, q1⟩]
      · rw [if_neg q1, if_neg (fun z => q1 z.2)]
    · rw [if_neg q, if_neg (fun z => q z.1)]
  have e : F_X3_widen N g (nI w) fst x = F_X3_widen_j19 N (nI w) fst x (if fst = 0 ∧ g w ≤ x then g else upd g w x) := by
    unfold F_X3_widen F_X3_widen_j13 F_X3_widen_k16
    rw [m_ans (by omega) hN, m_put (by omega) hN]
    by_cases q : fst = 0
    · rw [if_pos q]
      by_cases q1 : g w ≤ x
      · rw [if_pos q1, if_pos ⟨q, q1⟩]
      · rw [if_neg q1, if_neg (fun z => q1 z.2)]
    · rw [if_neg q, if_neg (fun z => q z.1)]
  rw [e, e19]
  have s1 : (if fst = 0 ∧ g w ≤ x then g else upd g w x) (w + 1) = g (w + 1) := by
    split
    · rfl
    · exact pk_un (by omega)
  rw [s1]
  have s2 : ∀ i, (if fst = 0 ∧ g w ≤ x then g else upd g w x) i = if i = w then (if fst = 0 ∧ g w ≤ x then g w else x) else g i := by
    intro i
    by_cases q : i = w
    · subst q
      rw [if_pos rfl]
      split
      · rfl
      · exact pk_us
    · rw [if_neg q]
      split
      · rfl
      · exact pk_un q
  by_cases q : fst = 0 ∧ x ≤ g (w + 1)
  · rw [if_pos q, s2, if_pos q]
    by_cases q1 : i = w
    · rw [if_pos q1, if_pos q1]
    · rw [if_neg q1, if_neg q1]
      by_cases q2 : i = w + 1
      · rw [if_pos q2, q2]
      · rw [if_neg q2]
  · rw [if_neg q, if_neg q]
    by_cases q2 : i = w + 1
    · subst q2
      rw [pk_us, if_neg (show ¬ w + 1 = w by omega), if_pos rfl]
    · rw [pk_un q2, s2, if_neg q2]
theorem wid_m {w : Nat} (hw : 1 ≤ w ∧ w < 1000) (an : Nat → Int32) (v : Int32) (i : Nat) : F_X10_widens an (nI w) v i = if i = w then (if ¬ an 0 = 0 ∧ an w ≤ v then an w else v) else if i = w + 1 then (if ¬ an 0 = 0 ∧ v ≤ an (w + 1) then an (w + 1) else v) else an i := by
  have e34 : ∀ y, F_X10_widens_j34 an (nI w) v y = upd (upd an w y) (w + 1) (if ¬ an 0 = 0 ∧ v ≤ an (w + 1) then an (w + 1) else v) := by
    intro y
    unfold F_X10_widens_j34 F_X10_widens_j63 F_X10_widens_k75
    rw [nI_1, nI_clamp (by omega), nI_clamp (by omega), pk_un (show 0 ≠ w by omega), pk_un (show w + 1 ≠ w by omega)]
    by_cases q : an 0 = 0
    · rw [if_pos q, if_neg (fun z => z.1 q)]
    · rw [if_neg q]
      by_cases q1 : v ≤ an (w + 1)
      · rw [if_pos q1, if_pos ⟨q, q1⟩]
      · rw [if_neg q1, if_neg (fun z => q1 z.2)]
  have e : F_X10_widens an (nI w) v = F_X10_widens_j34 an (nI w) v (if ¬ an 0 = 0 ∧ an w ≤ v then an w else v) := by
    unfold F_X10_widens F_X10_widens_j24
    rw [nI_clamp (by omega)]
    by_cases q : an 0 = 0
    · rw [if_pos q, if_neg (fun z => z.1 q)]
    · rw [if_neg q]
      by_cases q1 : an w ≤ v
      · rw [if_pos q1, if_pos ⟨q, q1⟩]
      · rw [if_neg q1, if_neg (fun z => q1 z.2)]
  rw [e, e34]
  by_cases q2 : i = w + 1
  · subst q2
    rw [pk_us, if_neg (show ¬ w + 1 = w by omega), if_pos rfl]
  · rw [pk_un q2]
    by_cases q1 : i = w
    · subst q1
      rw [pk_us, if_pos rfl]
    · rw [pk_un q1, if_neg q1, if_neg q2]
/-- a widening of both: agreeing numbers stay so, and the two that are widened agree behind it -/
theorem wid_both {N w : Nat} (hw : w + 1 < N) (hw1 : 1 ≤ w) (hN : N < 1000) {g an : Nat → Int32} {fst : Int32} (x : Int32) (hf : fst = 0 ↔ ¬ an 0 = 0) (hz : fst = 0 → g w = an w ∧ g (w + 1) = an (w + 1)) : (∀ i, i ≠ w → i ≠ w + 1 → F_X3_widen N g (nI w) fst x i = g i ∧ F_X10_widens an (nI w) x i = an i) ∧ F_X3_widen N g (nI w) fst x w = F_X10_widens an (nI w) x w ∧ F_X3_widen N g (nI w) fst x (w + 1) = F_X10_widens an (nI w) x (w + 1) := by
  refine ⟨fun i h1 h2 => ?_, ?_, ?_⟩
  · rw [wid_c hw hN, wid_m ⟨hw1, by omega⟩, if_neg h1, if_neg h2, if_neg h1, if_neg h2]; exact ⟨rfl, rfl⟩
  · rw [wid_c hw hN, wid_m ⟨hw1, by omega⟩, if_pos rfl, if_pos rfl]
    by_cases q : fst = 0
    · obtain ⟨z1, z2⟩ := hz q
      rw [z1]
      have qa := hf.mp q
      by_cases q1 : an w ≤ x
      · rw [if_pos ⟨q, q1⟩, if_pos ⟨qa, q1⟩]
      · rw [if_neg (fun z => q1 z.2), if_neg (fun z => q1 z.2)]
    · rw [if_neg (fun z => q z.1), if_neg (fun z => q (hf.mpr z.1))]
  · rw [wid_c hw hN, wid_m ⟨hw1, by omega⟩, if_neg (show ¬ w + 1 = w by omega), if_pos rfl, if_neg (show ¬ w + 1 = w by omega), if_pos rfl]
    by_cases q : fst = 0
    · obtain ⟨z1, z2⟩ := hz q
      rw [z2]
      have qa := hf.mp q
      by_cases q1 : x ≤ an (w + 1)
      · rw [if_pos ⟨q, q1⟩, if_pos ⟨qa, q1⟩]
      · rw [if_neg (fun z => q1 z.2), if_neg (fun z => q1 z.2)]
    · rw [if_neg (fun z => q z.1), if_neg (fun z => q (hf.mpr z.1))]
def RGauge (ga gt gu gd mm rd : Nat → Int32) : Prop := ∃ R : Nat, R ≤ 6 ∧ ga 3 = nI R ∧ mm 22 = nI R ∧ ∀ k : Nat, k < R → gt k = rd (3 * k) ∧ gu k = rd (3 * k + 1) ∧ gd k = rd (3 * k + 2) ∧ (0 ≤ (gt k).toInt ∧ (gt k).toInt ≤ 400) ∧ (0 ≤ (gu k).toInt ∧ (gu k).toInt ≤ 9999) ∧ (0 ≤ (gd k).toInt ∧ (gd k).toInt ≤ 9999)
theorem near_iff {v to e : Int32} (hv : 0 ≤ v.toInt ∧ v.toInt ≤ 10000000) (ht : 0 ≤ to.toInt ∧ to.toInt ≤ 9999) : mabs (v - to) ≤ e ↔ ¬ F_X10_isNear v to e = 0 := by
  have s1 : (v - to).toInt = v.toInt - to.toInt := i_sub (by omega) (by omega)
  have s2 : (to - v).toInt = to.toInt - v.toInt := i_sub (by omega) (by omega)
  have s3 : ((0 : Int32) - (v - to)).toInt = to.toInt - v.toInt := by rw [i_sub (by rw [i_z]; omega) (by rw [i_z]; omega), i_z]; omega
  unfold mabs F_X10_isNear
  by_cases q : (0 : Int32) ≤ v - to
  · rw [if_pos q]
    rw [Int32.le_iff_toInt_le, i_z] at q
    by_cases q1 : e < v - to
    · rw [if_pos q1]
      rw [Int32.lt_iff_toInt_lt] at q1
      rw [Int32.le_iff_toInt_le]
      exact ⟨fun h => by omega, fun h => absurd rfl h⟩
    · rw [if_neg q1]
      by_cases q2 : e < to - v
      · rw [Int32.lt_iff_toInt_lt] at q1 q2
        omega
      · rw [if_neg q2]
        rw [Int32.lt_iff_toInt_lt] at q1
        rw [Int32.le_iff_toInt_le]
        exact ⟨fun _ => by decide, fun _ => by omega⟩
  · rw [if_neg q]
    rw [Int32.le_iff_toInt_le, i_z] at q
    by_cases q2 : e < to - v
    · rw [if_pos q2]
      rw [Int32.lt_iff_toInt_lt] at q2
      rw [Int32.le_iff_toInt_le]
      refine ⟨fun h => by omega, fun h => ?_⟩
      split at h <;> exact absurd rfl h
    · rw [if_neg q2]
      by_cases q1 : e < v - to
      · rw [Int32.lt_iff_toInt_lt] at q1 q2
        omega
      · rw [if_neg q1]
        rw [Int32.lt_iff_toInt_lt] at q2
        rw [Int32.le_iff_toInt_le]
        exact ⟨fun _ => by decide, fun _ => by omega⟩
theorem agr_iff {ga gt gu gd bd : Nat → Int32} {e dn : Int32} {R : Nat} (hR : R ≤ 6) (h3 : ga 3 = nI R) : ∀ (j k : Nat), j + k = 6 → ((¬ F_X1_agrees_l3 ga gt gu gd bd e dn j (nI k) = 0) ↔ ∀ i : Nat, k ≤ i → i < R → mabs (if dn = 0 then F_X0_wound bd ((100 : Int32) * gt i) - gu i else F_X0_loosed bd ((100 : Int32) * gt i) - gd i) ≤ e) := by
  intro j
  induction j with
  | zero =>
    intro k hk
    exact ⟨fun _ i h1 h2 => by omega, fun _ => by show ¬ (1 : Int32) = 0; decide⟩
  | succ j ih =>
    intro k hk
    rw [F_X1_agrees_l3]
    unfold F_X1_agrees_b3
    rw [h3]
    by_cases q : nI R ≤ nI k
    · rw [if_pos q]
      rw [nI_leI (by omega) (by omega)] at q
      exact ⟨fun _ i h1 h2 => by omega, fun _ => by show ¬ (1 : Int32) = 0; decide⟩
    · rw [if_neg q, if_neg (show ¬ (6 : Int32) ≤ nI k from nI_ge (a := k) (b := 6) (by omega) (by omega)), nI_clamp (by omega)]
      rw [nI_leI (by omega) (by omega)] at q
      have e29 : F_X1_agrees_k29 gu gd bd e dn (nI k) ((100 : Int32) * gt k) = F_X1_agrees_j66 e (nI k) (if dn = 0 then F_X0_wound bd ((100 : Int32) * gt k) - gu k else F_X0_loosed bd ((100 : Int32) * gt k) - gd k) := by
        unfold F_X1_agrees_k29
        rw [nI_clamp (by omega)]
        by_cases c : dn = 0
        · rw [if_pos c, if_pos c]
        · rw [if_neg c, if_neg c]
      rw [e29]
      unfold F_X1_agrees_j66
      by_cases c : mabs (if dn = 0 then F_X0_wound bd ((100 : Int32) * gt k) - gu k else F_X0_loosed bd ((100 : Int32) * gt k) - gd k) ≤ e
      · rw [if_pos c, nI_1]
        dsimp only
        rw [ih (k + 1) (by omega)]
        refine ⟨fun hh i h1 h2 => ?_, fun hh i h1 h2 => hh i (by omega) h2⟩
        by_cases ek : i = k
        · rw [ek]; exact c
        · exact hh i (by omega) h2
      · rw [if_neg c]
        exact ⟨fun hh => absurd rfl hh, fun hh => absurd (hh k (by omega) (by omega)) c⟩
theorem all_iff {mm bt rd : Nat → Int32} {e : Int32} {R : Nat} (hR : R ≤ 6) (h3 : mm 22 = nI R) : ∀ (j k : Nat), j + k = 6 → ((¬ F_X10_fitsAll_l2 mm bt rd e j (nI k) = 0) ↔ ∀ i : Nat, k ≤ i → i < R → ¬ F_X10_isNear (F_X10_woundPull mm bt ((100 : Int32) * rd (3 * i))) (rd (3 * i + 1)) e = 0 ∧ ¬ F_X10_isNear (F_X10_freePull mm bt ((100 : Int32) * rd (3 * i))) (rd (3 * i + 2)) e = 0) := by
  intro j
  induction j with
  | zero =>
    intro k hk
    exact ⟨fun _ i h1 h2 => by omega, fun _ => by show ¬ (1 : Int32) = 0; decide⟩
  | succ j ih =>
    intro k hk
    rw [F_X10_fitsAll_l2]
    unfold F_X10_fitsAll_b2
    rw [h3]
    by_cases q : nI R ≤ nI k
    · rw [if_pos q]
      rw [nI_leI (by omega) (by omega)] at q
      exact ⟨fun _ i h1 h2 => by omega, fun _ => by show ¬ (1 : Int32) = 0; decide⟩
    · rw [if_neg q]
      rw [nI_leI (by omega) (by omega)] at q
      unfold F_X10_fitsAll_k21
      rw [show (3 : Int32) = nI 3 from rfl, show (2 : Int32) = nI 2 from rfl, pk_mul, show (1 : Int32) = nI 1 from rfl, nI_add, nI_add, nI_clamp (by omega), nI_clamp (by omega), nI_clamp (by omega)]
      by_cases c : F_X10_isNear (F_X10_woundPull mm bt ((100 : Int32) * rd (3 * k))) (rd (3 * k + 1)) e = 0
      · rw [if_pos c]
        exact ⟨fun hh => absurd rfl hh, fun hh => absurd c (hh k (by omega) (by omega)).1⟩
      · rw [if_neg c]
        by_cases c2 : F_X10_isNear (F_X10_freePull mm bt ((100 : Int32) * rd (3 * k))) (rd (3 * k + 2)) e = 0
        · rw [if_pos c2]
          exact ⟨fun hh => absurd rfl hh, fun hh => absurd c2 (hh k (by omega) (by omega)).2⟩
        · rw [if_neg c2, nI_add]
          dsimp only
          rw [ih (k + 1) (by omega)]
          refine ⟨fun hh i h1 h2 => ?_, fun hh i h1 h2 => hh i (by omega) h2⟩
          by_cases ek : i = k
          · rw [ek]; exact ⟨c, c2⟩
          · exact hh i (by omega) h2
def tdF (td la : Nat → Int32) (u : Nat) (d : Int32) : Nat → Int32 := upd (upd (F_X6_copy td la) 2 (nI u)) 3 d
def mmF (mm la : Nat → Int32) (u d : Nat) : Nat → Int32 := upd (upd (upd (upd (upd (upd (upd (upd mm 0 (0 : Int32)) 6 (nI u)) 7 (nI d)) 8 (la 4)) 9 (la 6)) 10 (la 7)) 11 (la 8)) 12 (la 13)
theorem fitsRig {la bt : Nat → Int32} (h : RRig la bt) (td mm : Nat → Int32) {u d : Nat} (hu : 1 ≤ u ∧ u ≤ 99) (hd : d ≤ 90) (x3 : Int32) : RigOK (upd (tdF td la u x3) 3 (nI d)) ∧ MRig (upd (tdF td la u x3) 3 (nI d)) (mmF mm la u d) bt := by
  obtain ⟨⟨h2, h3, h4, h5, h6, h7, h8, h9, h10, h11, h12, h13, h14, h15, h16⟩, -, -, q, hq, e16, e2, e3, e4, e5, e6, e7, e8, e9, e10, e11, e12, e13, e14, e15, e16'⟩ := h
  have es : (nI u).toInt = u := nI_toInt (by omega)
  have el : (nI d).toInt = d := nI_toInt (by omega)
  exact ⟨⟨(by show 1 ≤ (nI u).toInt ∧ (nI u).toInt ≤ 99; omega), (by show 0 ≤ (nI d).toInt ∧ (nI d).toInt ≤ 90; omega), h4, h5, h6, h7, h8, h9, h10, h11, h12, h13, h14, h15, h16⟩, ⟨rfl, rfl, rfl, rfl, rfl, rfl, rfl, e9, e10, e11, e12, e14, e15, e16'⟩⟩
theorem wound_free (b b' td la : Nat → Int32) (u : Nat) (x d : Int32) (T : Int32) : F_X0_wound (F_X0_fit b (tdF td la u x)) T = F_X0_wound (F_X0_fit b' (upd (tdF td la u x) 3 d)) T := rfl
/-- the reference's look at all readings, by the class's two -/
theorem all_split {la bt : Nat → Int32} (h : RRig la bt) {ga gt gu gd mm rd : Nat → Int32} (hg : RGauge ga gt gu gd mm rd) (td b b' : Nat → Int32) {u d : Nat} (hu : 1 ≤ u ∧ u ≤ 99) (hd : d ≤ 90) (x3 e : Int32) : (¬ F_X10_fitsAll (mmF mm la u d) bt rd e = 0) ↔ (¬ F_X1_agrees ga gt gu gd (F_X0_fit b (tdF td la u x3)) e 0 = 0) ∧ ¬ F_X1_agrees ga gt gu gd (F_X0_fit b' (upd (tdF td la u x3) 3 (nI d))) e 1 = 0 := by
  obtain ⟨R, hR, g3, m22, hk⟩ := hg
  obtain ⟨hok, hmr⟩ := fitsRig h td mm hu hd x3
  have hA : (¬ F_X10_fitsAll (mmF mm la u d) bt rd e = 0) ↔ _ := all_iff (mm := mmF mm la u d) (bt := bt) (rd := rd) (e := e) hR m22 6 0 rfl
  have hU : (¬ F_X1_agrees ga gt gu gd (F_X0_fit b (tdF td la u x3)) e 0 = 0) ↔ _ := agr_iff (gt := gt) (gu := gu) (gd := gd) (bd := F_X0_fit b (tdF td la u x3)) (e := e) (dn := 0) hR g3 6 0 rfl
  have hD : (¬ F_X1_agrees ga gt gu gd (F_X0_fit b' (upd (tdF td la u x3) 3 (nI d))) e 1 = 0) ↔ _ := agr_iff (gt := gt) (gu := gu) (gd := gd) (bd := F_X0_fit b' (upd (tdF td la u x3) 3 (nI d))) (e := e) (dn := 1) hR g3 6 0 rfl
  have one : ∀ i : Nat, i < R → (mabs (F_X0_wound (F_X0_fit b (tdF td la u x3)) ((100 : Int32) * gt i) - gu i) ≤ e ↔ ¬ F_X10_isNear (F_X10_woundPull (mmF mm la u d) bt ((100 : Int32) * rd (3 * i))) (rd (3 * i + 1)) e = 0) ∧ (mabs (F_X0_loosed (F_X0_fit b' (upd (tdF td la u x3) 3 (nI d))) ((100 : Int32) * gt i) - gd i) ≤ e ↔ ¬ F_X10_isNear (F_X10_freePull (mmF mm la u d) bt ((100 : Int32) * rd (3 * i))) (rd (3 * i + 2)) e = 0) := by
    intro i hi
    obtain ⟨k1, k2, k3, k4, k5, k6⟩ := hk i hi
    have c100 : (100 : Int32).toInt = 100 := rfl
    have hT : 0 ≤ ((100 : Int32) * gt i).toInt ∧ ((100 : Int32) * gt i).toInt ≤ 40000 := by rw [i_mul (by rw [c100]; omega) (by rw [c100]; omega), c100]; omega
    have w1 := wound_bd (b := b') hok hT
    have w2 := loosed_bd (b := b') hok hT
    rw [← k1, ← k2, ← k3, ← wound_eq (b := b') hmr hok.nz, ← loosed_eq (b := b') hmr hok.nz, wound_free b b' td la u x3 (nI d)]
    exact ⟨near_iff w1 k5, near_iff w2 k6⟩
  rw [hA, hU, hD]
  constructor
  · intro hh
    refine ⟨fun i h1 h2 => ?_, fun i h1 h2 => ?_⟩
    · rw [if_pos rfl]; exact (one i h2).1.mpr (hh i h1 h2).1
    · rw [if_neg (by decide)]; exact (one i h2).2.mpr (hh i h1 h2).2
  · intro hh i h1 h2
    have a1 := hh.1 i h1 h2
    have a2 := hh.2 i h1 h2
    rw [if_pos rfl] at a1
    rw [if_neg (by decide)] at a2
    exact ⟨(one i h2).1.mp a1, (one i h2).2.mp a2⟩
def FR (N : Nat) (g an : Nat → Int32) : Prop := g 0 = an 0 ∧ (g 0 = 0 ∨ ∀ i : Nat, i < N → g i = an i)
theorem loses_loop {la bt : Nat → Int32} (h : RRig la bt) {ga gt gu gd mm rd : Nat → Int32} (hg : RGauge ga gt gu gd mm rd) (td b : Nat → Int32) {u : Nat} (hu : 1 ≤ u ∧ u ≤ 99) (x3 e : Int32) (hup : ¬ F_X1_agrees ga gt gu gd (F_X0_fit b (tdF td la u x3)) e 0 = 0) : ∀ (j k : Nat) (s3 : Int32) (band g an : Nat → Int32), j + k = 91 → FR 5 g an → ∃ (x y3 : Int32) (band' g' : Nat → Int32) (y : Int32) (an' : Nat → Int32), F_X9_searchLoses_l2 (tdF td la u x3) ga gt gu gd e j (nI k) s3 band g = (x, y3, band', g') ∧ F_X10_fits_l57 mm bt rd e (la 4) (la 6) (la 7) (la 8) (la 13) (nI u) j (nI k) an = (y, an') ∧ FR 5 g' an' := by
  intro j
  induction j with
  | zero =>
    intro k s3 band g an hk hr
    exact ⟨_, _, _, _, _, _, rfl, rfl, hr⟩
  | succ j ih =>
    intro k s3 band g an hk hr
    have gd' : ¬ (90 : Int32) < nI k := nI_nlt (a := 90) (by omega) (by omega)
    have gm : ¬ (91 : Int32) ≤ nI k := nI_ge (a := k) (b := 91) (by omega) (by omega)
    have sp := all_split h hg td b band hu (show k ≤ 90 by omega) x3 e
    unfold mmF at sp
    rw [F_X9_searchLoses_l2, F_X10_fits_l57]
    unfold F_X9_searchLoses_b2 F_X10_fits_b57
    rw [if_neg gd', if_neg gm]
    unfold F_X9_searchLoses_k27
    by_cases q : F_X1_agrees ga gt gu gd (F_X0_fit band (upd (tdF td la u x3) 3 (nI k))) e 1 = 0
    · have qa : F_X10_fitsAll (upd (upd (upd (upd (upd (upd (upd (upd mm 0 (0 : Int32)) 6 (nI u)) 7 (nI k)) 8 (la 4)) 9 (la 6)) 10 (la 7)) 11 (la 8)) 12 (la 13)) bt rd e = 0 := Decidable.by_contra (fun w => (sp.mp w).2 q)
      rw [if_pos q, if_pos qa]
      unfold F_X9_searchLoses_j110 F_X10_fits_j102 F_X10_fits_k109
      rw [nI_1]
      exact ih (k + 1) _ _ _ _ (by omega) hr
    · have qa : ¬ F_X10_fitsAll (upd (upd (upd (upd (upd (upd (upd (upd mm 0 (0 : Int32)) 6 (nI u)) 7 (nI k)) 8 (la 4)) 9 (la 6)) 10 (la 7)) 11 (la 8)) 12 (la 13)) bt rd e = 0 := sp.mpr ⟨hup, q⟩
      rw [if_neg q, if_neg qa]
      have a0 : F_X3_answer 5 g (0 : Int32) = g 0 := m_ans (N := 5) (w := 0) (by decide) (by decide) g
      have p0 : ∀ x, F_X3_put 5 g (0 : Int32) x = upd g 0 x := fun x => m_put (N := 5) (w := 0) (by decide) (by decide) g x
      have step : ∀ fst : Int32, (fst = 0 ↔ ¬ an 0 = 0) → ∃ (x y3 : Int32) (band' g' : Nat → Int32) (y : Int32) (an' : Nat → Int32), (match F_X9_searchLoses_j65 (tdF td la u x3) (nI k) g (F_X0_fit band (upd (tdF td la u x3) 3 (nI k))) fst with | Sum.inl (c_x2_2, c_s_td_3_2, c_g_tl_band_2, c_g_fm_answers_2) => F_X9_searchLoses_l2 (tdF td la u x3) ga gt gu gd e j c_x2_2 c_s_td_3_2 c_g_tl_band_2 c_g_fm_answers_2 | Sum.inr r_ => r_) = (x, y3, band', g') ∧ (match F_X10_fits_k80 (nI k) (F_X10_widens an (1 : Int32) (nI u)) with | Sum.inl (c_s_mm_7_57, c_g_an_57) => F_X10_fits_l57 mm bt rd e (la 4) (la 6) (la 7) (la 8) (la 13) (nI u) j c_s_mm_7_57 c_g_an_57 | Sum.inr r_ => r_) = (y, an') ∧ FR 5 g' an' := by
        intro fst hf
        unfold F_X9_searchLoses_j65 F_X9_searchLoses_k81 F_X9_searchLoses_k97 F_X9_searchLoses_k107 F_X9_searchLoses_j110 F_X10_fits_k80 F_X10_fits_k89 F_X10_fits_k101 F_X10_fits_j102 F_X10_fits_k109
        rw [a0, p0, nI_1]
        refine ih (k + 1) _ _ _ _ (by omega) ?_
        have z1 := wid_both (N := 5) (w := 1) (by decide) (by decide) (by decide) (g := upd g 0 (g 0 + 1)) (an := an) (fst := fst) (nI u) hf (fun w => by
          have := hr.2.resolve_left (fun w0 => (hf.mp w) (hr.1 ▸ w0))
          exact ⟨this 1 (by decide), this 2 (by decide)⟩)
        have b0 := (z1.1 0 (by decide) (by decide))
        have b3 := (z1.1 3 (by decide) (by decide))
        have b4 := (z1.1 4 (by decide) (by decide))
        have z2 := wid_both (N := 5) (w := 3) (by decide) (by decide) (by decide) (g := F_X3_widen 5 (upd g 0 (g 0 + 1)) (nI 1) fst (nI u)) (an := F_X10_widens an (nI 1) (nI u)) (fst := fst) (nI k) (by rw [b0.2]; exact hf) (fun w => by
          have := hr.2.resolve_left (fun w0 => (hf.mp w) (hr.1 ▸ w0))
          rw [b3.1, b3.2, b4.1, b4.2]
          exact ⟨this 3 (by decide), this 4 (by decide)⟩)
        have c0 := (z2.1 0 (by decide) (by decide))
        have c1 := (z2.1 1 (by decide) (by decide))
        have c2 := (z2.1 2 (by decide) (by decide))
        have e0 : F_X3_widen 5 (F_X3_widen 5 (upd g 0 (g 0 + 1)) (nI 1) fst (nI u)) (nI 3) fst (nI k) 0 = an 0 + 1 := by rw [c0.1, b0.1, pk_us, hr.1]
        have e0' : F_X10_widens (F_X10_widens an (nI 1) (nI u)) (nI 3) (nI k) 0 = an 0 := by rw [c0.2, b0.2]
        refine ⟨?_, Or.inr ?_⟩
        · show F_X3_widen 5 (F_X3_widen 5 (upd g 0 (g 0 + 1)) (nI 1) fst (nI u)) (nI 3) fst (nI k) 0 = upd (F_X10_widens (F_X10_widens an (nI 1) (nI u)) (nI 3) (nI k)) 0 (F_X10_widens (F_X10_widens an (nI 1) (nI u)) (nI 3) (nI k) 0 + 1) 0
          rw [pk_us, e0, e0']
        · intro i hi
          show F_X3_widen 5 (F_X3_widen 5 (upd g 0 (g 0 + 1)) (nI 1) fst (nI u)) (nI 3) fst (nI k) i = upd (F_X10_widens (F_X10_widens an (nI 1) (nI u)) (nI 3) (nI k)) 0 (F_X10_widens (F_X10_widens an (nI 1) (nI u)) (nI 3) (nI k) 0 + 1) i
          rcases (show i = 0 ∨ i = 1 ∨ i = 2 ∨ i = 3 ∨ i = 4 by omega) with rfl | rfl | rfl | rfl | rfl
          · rw [pk_us, e0, e0']
          · rw [pk_un (by decide), c1.1, c1.2]; exact z1.2.1
          · rw [pk_un (by decide), c2.1, c2.2]; exact z1.2.2
          · rw [pk_un (by decide)]; exact z2.2.1
          · rw [pk_un (by decide)]; exact z2.2.2
      rw [a0]
      by_cases q0 : g 0 = 0
      · rw [if_pos q0]
        exact step 1 ⟨fun w => absurd w (by decide), fun w => absurd (hr.1 ▸ q0) w⟩
      · rw [if_neg q0]
        exact step 0 ⟨fun _ => hr.1 ▸ q0, fun _ => rfl⟩
theorem loses_none {la bt : Nat → Int32} (h : RRig la bt) {ga gt gu gd mm rd : Nat → Int32} (hg : RGauge ga gt gu gd mm rd) (td b : Nat → Int32) {u : Nat} (hu : 1 ≤ u ∧ u ≤ 99) (x3 e : Int32) (hup : F_X1_agrees ga gt gu gd (F_X0_fit b (tdF td la u x3)) e 0 = 0) (an : Nat → Int32) : ∀ (j k : Nat), j + k = 91 → ∃ y : Int32, F_X10_fits_l57 mm bt rd e (la 4) (la 6) (la 7) (la 8) (la 13) (nI u) j (nI k) an = (y, an) := by
  intro j
  induction j with
  | zero => intro k hk; exact ⟨_, rfl⟩
  | succ j ih =>
    intro k hk
    have gm : ¬ (91 : Int32) ≤ nI k := nI_ge (a := k) (b := 91) (by omega) (by omega)
    have sp := all_split h hg td b b hu (show k ≤ 90 by omega) x3 e
    unfold mmF at sp
    have qa : F_X10_fitsAll (upd (upd (upd (upd (upd (upd (upd (upd mm 0 (0 : Int32)) 6 (nI u)) 7 (nI k)) 8 (la 4)) 9 (la 6)) 10 (la 7)) 11 (la 8)) 12 (la 13)) bt rd e = 0 := Decidable.by_contra (fun w => (sp.mp w).1 hup)
    rw [F_X10_fits_l57]
    unfold F_X10_fits_b57
    rw [if_neg gm, if_pos qa]
    unfold F_X10_fits_j102 F_X10_fits_k109
    rw [nI_1]
    exact ih (k + 1) (by omega)
theorem fits_loop {la bt : Nat → Int32} (h : RRig la bt) {ga gt gu gd mm rd : Nat → Int32} (hg : RGauge ga gt gu gd mm rd) (td : Nat → Int32) (e : Int32) : ∀ (j k : Nat) (s2 s3 : Int32) (band g : Nat → Int32) (s7 : Int32) (an : Nat → Int32), j + k = 100 → 1 ≤ k → FR 5 g an → ∃ (x y2 y3 : Int32) (band' g' : Nat → Int32) (y y7 : Int32) (an' : Nat → Int32), F_X9_searchFits_l22 ga gt gu gd e (F_X6_copy td la) j (nI k) s2 s3 band g = (x, y2, y3, band', g') ∧ F_X10_fits_l43 mm bt rd e (la 4) (la 6) (la 7) (la 8) (la 13) j (nI k) s7 an = (y, y7, an') ∧ FR 5 g' an' := by
  intro j
  induction j with
  | zero =>
    intro k s2 s3 band g s7 an hk h1 hr
    exact ⟨_, _, _, _, _, _, _, _, rfl, rfl, hr⟩
  | succ j ih =>
    intro k s2 s3 band g s7 an hk h1 hr
    have gd' : ¬ (99 : Int32) < nI k := nI_nlt (a := 99) (by omega) (by omega)
    have gm : ¬ (100 : Int32) ≤ nI k := nI_ge (a := k) (b := 100) (by omega) (by omega)
    have hu : 1 ≤ k ∧ k ≤ 99 := by omega
    rw [F_X9_searchFits_l22, F_X10_fits_l43]
    unfold F_X9_searchFits_b22 F_X10_fits_b43 F_X9_searchFits_k47
    rw [if_neg gd', if_neg gm]
    by_cases q : F_X1_agrees ga gt gu gd (F_X0_fit band (tdF td la k s3)) e 0 = 0
    · obtain ⟨y, e57⟩ := loses_none h hg td band hu s3 e q an 91 0 (by decide)
      have e57 : F_X10_fits_l57 mm bt rd e (la 4) (la 6) (la 7) (la 8) (la 13) (nI k) 91 (0 : Int32) an = _ := e57
      have q' : F_X1_agrees ga gt gu gd (F_X0_fit band (upd (upd (F_X6_copy td la) 2 (nI k)) 3 s3)) e 0 = 0 := q
      rw [if_pos q', e57]
      dsimp only
      unfold F_X9_searchFits_j74 F_X10_fits_x57 F_X10_fits_k122
      rw [nI_1]
      exact ih (k + 1) _ _ _ _ _ _ (by omega) (by omega) hr
    · obtain ⟨x, y3, band', g', y, an', w1, w2, w3⟩ := loses_loop h hg td band hu s3 e q 91 0 s3 (F_X0_fit band (tdF td la k s3)) g an (by decide) hr
      have w2 : F_X10_fits_l57 mm bt rd e (la 4) (la 6) (la 7) (la 8) (la 13) (nI k) 91 (0 : Int32) an = _ := w2
      have w1 : F_X9_searchLoses_l2 (tdF td la k s3) ga gt gu gd e 91 (0 : Int32) s3 (F_X0_fit band (tdF td la k s3)) g = _ := w1
      have q' : ¬ F_X1_agrees ga gt gu gd (F_X0_fit band (upd (upd (F_X6_copy td la) 2 (nI k)) 3 s3)) e 0 = 0 := q
      have w1' : F_X9_searchLoses (upd (upd (F_X6_copy td la) 2 (nI k)) 3 s3) (F_X0_fit band (upd (upd (F_X6_copy td la) 2 (nI k)) 3 s3)) ga gt gu gd g e = (y3, band', g') := by
        show (match F_X9_searchLoses_l2 (tdF td la k s3) ga gt gu gd e 91 (0 : Int32) s3 (F_X0_fit band (tdF td la k s3)) g with | (bx2_2, bs_td_3_2, bg_tl_band_2, bg_fm_answers_2) => F_X9_searchLoses_x2 bs_td_3_2 bg_tl_band_2 bg_fm_answers_2) = _
        rw [w1]
        rfl
      rw [if_neg q', w2, w1']
      dsimp only
      unfold F_X9_searchFits_k71 F_X9_searchFits_j74 F_X10_fits_x57 F_X10_fits_k122
      rw [nI_1]
      exact ih (k + 1) _ _ _ _ _ _ (by omega) (by omega) w3
def MFits (la ga gt gu gd : Nat → Int32) (k f : Int32) (sa : Nat → Int32) : Prop := ¬ k = 0 → ∀ (mm bt rd an : Nat → Int32) (what : Int32), RRig la bt → RGauge ga gt gu gd mm rd → ¬ F_X9_within f (0 : Int32) (999 : Int32) = 0 → ¬ F_X9_within what (0 : Int32) (4 : Int32) = 0 → (F_X10_fits mm bt rd an f what).1 = if what ≤ 0 then F_X3_answer 5 sa what else if F_X3_answer 5 sa 0 = 0 then (-4 : Int32) else F_X3_answer 5 sa what
theorem fits_search {la bt0 ga gt gu gd mm0 rd0 : Nat → Int32} (h : RRig la bt0) (hg0 : RGauge ga gt gu gd mm0 rd0) (td band fa : Nat → Int32) (e : Int32) : ∃ (td' band' g' : Nat → Int32), F_X9_searchFits la td band ga gt gu gd fa e = (td', band', 1, e, 0, g') ∧ MFits la ga gt gu gd 1 e g' := by
  obtain ⟨g0, eg, hg⟩ := mlearn 5 (by decide) fa e 0
  cases e9 : F_X9_searchFits_l22 ga gt gu gd e (F_X6_copy td la) 99 (1 : Int32) (F_X6_copy td la 2) (F_X6_copy td la 3) band g0 with
  | mk x r =>
  obtain ⟨y2, y3, band', g'⟩ := r
  refine ⟨upd (upd (F_X6_copy td la) 2 y2) 3 y3, band', g', ?_, ?_⟩
  · unfold F_X9_searchFits F_X9_searchFits_k8
    rw [eg]
    dsimp only
    unfold F_X9_searchFits_k17
    rw [e9]
    rfl
  intro _ mm bt rd an what hr hga he hw
  obtain ⟨x', z2, z3, b3, g3, y, y7, an', f1, f2, hF⟩ := fits_loop hr hga td e 99 1 (F_X6_copy td la 2) (F_X6_copy td la 3) band g0 (la 3) (upd an 0 (0 : Int32)) (by decide) (by decide) ⟨hg 0 (by decide), Or.inl (hg 0 (by decide))⟩
  have f1 : F_X9_searchFits_l22 ga gt gu gd e (F_X6_copy td la) 99 (1 : Int32) (F_X6_copy td la 2) (F_X6_copy td la 3) band g0 = _ := f1
  have f2 : F_X10_fits_l43 mm bt rd e (la 4) (la 6) (la 7) (la 8) (la 13) 99 (1 : Int32) (la 3) (upd an 0 (0 : Int32)) = _ := f2
  rw [e9] at f1
  simp only [Prod.mk.injEq] at f1
  have eg' := f1.2.2.2.2
  subst eg'
  unfold F_X10_fits
  rw [in_eq, in_eq, if_neg he, if_neg hw, asIt hr]
  dsimp only
  unfold F_X10_fits_k28
  rw [f2]
  dsimp only
  unfold F_X10_fits_x43 F_X10_fits_j146
  have hww := w_lo hw (a := 0) (b := 4) rfl rfl
  obtain ⟨w, hw3, rfl⟩ : ∃ w : Nat, w ≤ 4 ∧ what = nI w := nI_of2 (M := 4) rfl (by rw [Int32.lt_iff_toInt_lt, i_z]; omega) (by rw [Int32.le_iff_toInt_le]; exact hww.2)
  rw [m_ans (by omega) (by decide), show F_X3_answer 5 g' (0 : Int32) = g' 0 from m_ans (N := 5) (w := 0) (by decide) (by decide) g', hF.1]
  by_cases q : nI w ≤ 0
  · rw [if_pos q, if_pos q]
    have w0 : w = 0 := by
      rw [show (0 : Int32) = nI 0 from rfl, nI_leI (by omega) (by omega)] at q
      omega
    subst w0
    exact hF.1.symm
  · rw [if_neg q, if_neg q]
    by_cases q0 : an' 0 = 0
    · rw [if_pos q0, if_pos q0]
    · rw [if_neg q0, if_neg q0]
      show an' (Int32.toNatClampNeg (nI w)) = _
      rw [nI_clamp (by omega)]
      exact ((hF.2.resolve_left (fun w0 => q0 (hF.1 ▸ w0))) w (by omega)).symm
theorem a_fits {la bt ga gt gu gd mm rd fm fa : Nat → Int32} (h : RRig la bt) (hg : RGauge ga gt gu gd mm rd) (hk : MFits la ga gt gu gd (fm 1) (fm 2) fa) (td band an : Nat → Int32) (e what : Int32) : (F_X9_fits la td band ga gt gu gd fm fa e what).1 = (F_X10_fits mm bt rd an e what).1 ∧ MFits la ga gt gu gd (F_X9_fits la td band ga gt gu gd fm fa e what).2.2.2.1 (F_X9_fits la td band ga gt gu gd fm fa e what).2.2.2.2.1 (F_X9_fits la td band ga gt gu gd fm fa e what).2.2.2.2.2.2 := by
  by_cases c1 : F_X9_within e (0 : Int32) (999 : Int32) = 0
  · unfold F_X9_fits F_X10_fits
    rw [in_eq, if_pos c1, if_pos c1]; exact ⟨rfl, hk⟩
  by_cases c3 : F_X9_within what (0 : Int32) (4 : Int32) = 0
  · unfold F_X9_fits F_X10_fits
    rw [in_eq, in_eq, if_neg c1, if_neg c1, if_pos c3, if_pos c3]; exact ⟨rfl, hk⟩
  have e39 : ∀ (td' b' : Nat → Int32) (v1 v2 v3 : Int32) (g : Nat → Int32), F_X9_fits_j39 what td' b' v1 v2 v3 g = ((if what ≤ 0 then F_X3_answer 5 g what else if F_X3_answer 5 g 0 = 0 then (-4 : Int32) else F_X3_answer 5 g what), td', b', v1, v2, v3, g) := by
    intro td' b' v1 v2 v3 g
    unfold F_X9_fits_j39 F_X9_fits_j59
    by_cases q : what ≤ 0
    · rw [if_pos q, if_pos q]
    · rw [if_neg q, if_neg q]
      by_cases q0 : F_X3_answer 5 g 0 = 0
      · rw [if_pos q0, if_pos q0]
      · rw [if_neg q0, if_neg q0]
  unfold F_X9_fits
  rw [if_neg c1, if_neg c3]
  by_cases c4 : F_X3_holds fm e 0 = 0
  · rw [if_pos c4]
    obtain ⟨td', b', g', ee, hm⟩ := fits_search h hg td band fa e
    rw [ee]
    dsimp only
    unfold F_X9_fits_k36
    rw [e39]
    exact ⟨(hm (by decide) mm bt rd an what h hg c1 c3).symm, hm⟩
  · rw [if_neg c4, e39]
    obtain ⟨q1, q2, q3⟩ := holds_ne c4
    refine ⟨?_, hk⟩
    have := hk q1 mm bt rd an what h hg (by rw [q2]; exact c1) c3
    rw [q2] at this
    exact this.symm
