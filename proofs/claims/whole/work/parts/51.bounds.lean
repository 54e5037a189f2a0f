/-! bounds -/
theorem i_div {a b : Int32} (ha : 0 ≤ a.toInt) (hb : 0 < b.toInt) : (a / b).toInt = a.toInt / b.toInt := by
  rw [Int32.toInt_div_of_ne_right a b (by intro h; rw [h] at hb; exact absurd hb (by decide))]
  exact Int.tdiv_eq_ediv_of_nonneg ha
theorem mul_bd {a b : Int32} {A B : Int} (ha : 0 ≤ a.toInt ∧ a.toInt ≤ A) (hb : 0 ≤ b.toInt ∧ b.toInt ≤ B) (h : A * B < 2147483648) : 0 ≤ (a * b).toInt ∧ (a * b).toInt ≤ A * B := by
  have h1 : 0 ≤ a.toInt * b.toInt := Int.mul_nonneg ha.1 hb.1
  have h2 : a.toInt * b.toInt ≤ A * B := Int.mul_le_mul ha.2 hb.2 hb.1 (Int.le_trans ha.1 ha.2)
  rw [i_mul (by omega) (by omega)]
  exact ⟨h1, h2⟩
theorem div_bd {a b : Int32} {A : Int} (ha : 0 ≤ a.toInt ∧ a.toInt ≤ A) (hb : 0 < b.toInt) : 0 ≤ (a / b).toInt ∧ (a / b).toInt ≤ A := by
  rw [i_div ha.1 hb]
  have h1 : 0 ≤ a.toInt / b.toInt := Int.ediv_nonneg ha.1 (by omega)
  have h2 : a.toInt / b.toInt ≤ a.toInt := Int.ediv_le_self _ ha.1
  omega
theorem div_bdk {a b : Int32} {A : Int} (k : Int) (ha : 0 ≤ a.toInt ∧ a.toInt ≤ A) (hb : b.toInt = k) (hk : 0 < k) : 0 ≤ (a / b).toInt ∧ (a / b).toInt ≤ A / k := by
  rw [i_div ha.1 (by omega), hb]
  exact ⟨Int.ediv_nonneg ha.1 (by omega), Int.ediv_le_ediv hk ha.2⟩
theorem add_bd {a b : Int32} {A B : Int} (ha : 0 ≤ a.toInt ∧ a.toInt ≤ A) (hb : 0 ≤ b.toInt ∧ b.toInt ≤ B) (h : A + B < 2147483648) : 0 ≤ (a + b).toInt ∧ (a + b).toInt ≤ A + B := by
  rw [i_add (by omega) (by omega)]
  omega
/-- a rig as a text tells it -/
def RigOK (rg : Nat → Int32) : Prop := (1 ≤ (rg 2).toInt ∧ (rg 2).toInt ≤ 99) ∧ (0 ≤ (rg 3).toInt ∧ (rg 3).toInt ≤ 90) ∧ (1 ≤ (rg 4).toInt ∧ (rg 4).toInt ≤ 40) ∧ (1 ≤ (rg 5).toInt ∧ (rg 5).toInt ≤ 99) ∧ (1 ≤ (rg 6).toInt ∧ (rg 6).toInt ≤ 8) ∧ (1 ≤ (rg 7).toInt ∧ (rg 7).toInt ≤ 40) ∧ (1 ≤ (rg 8).toInt ∧ (rg 8).toInt ≤ 9) ∧ (1 ≤ (rg 9).toInt ∧ (rg 9).toInt ≤ 20) ∧ (1 ≤ (rg 10).toInt ∧ (rg 10).toInt ≤ 99) ∧ (1 ≤ (rg 11).toInt ∧ (rg 11).toInt ≤ 99) ∧ (0 ≤ (rg 12).toInt ∧ (rg 12).toInt ≤ 20) ∧ (0 ≤ (rg 13).toInt ∧ (rg 13).toInt ≤ 20) ∧ (0 ≤ (rg 14).toInt ∧ (rg 14).toInt ≤ 30) ∧ (0 ≤ (rg 15).toInt ∧ (rg 15).toInt ≤ 60) ∧ (0 ≤ (rg 16).toInt ∧ (rg 16).toInt ≤ 9)
theorem RigOK.nz {rg : Nat → Int32} (h : RigOK rg) : RigNZ rg := by
  obtain ⟨h2, h3, h4, h5, h6, h7, h8, h9, h10, h11, h12, h13, h14, h15, h16⟩ := h
  refine ⟨ne0_of h6.1, ten_l h7.1 (by omega), ne0_of h10.1, ten_p h8.1 (by omega), ?_⟩
  rw [Int32.le_iff_toInt_le, i_z]
  exact h16.1
theorem sub100 {x : Int32} {A : Int} (h : 0 ≤ x.toInt ∧ x.toInt ≤ A) (hA : A ≤ 100) : 0 ≤ ((100 : Int32) - x).toInt ∧ ((100 : Int32) - x).toInt ≤ 100 := by
  have h1 : (100 : Int32).toInt = 100 := rfl
  rw [i_sub (by rw [h1]; omega) (by rw [h1]; omega), h1]
  omega
theorem wound_bd {b rg : Nat → Int32} (h : RigOK rg) {T : Int32} (hT : 0 ≤ T.toInt ∧ T.toInt ≤ 40000) : 0 ≤ (F_X0_wound (F_X0_fit b rg) T).toInt ∧ (F_X0_wound (F_X0_fit b rg) T).toInt ≤ 10000000 := by
  have hz := h.nz
  obtain ⟨h2, h3, h4, h5, h6, h7, h8, h9, h10, h11, h12, h13, h14, h15, h16⟩ := h
  have c10 : (10 : Int32).toInt = 10 := rfl
  have c2 : (2 : Int32).toInt = 2 := rfl
  have c100 : (100 : Int32).toInt = 100 := rfl
  have f0 : 0 ≤ (F_X0_fit b rg 0).toInt ∧ (F_X0_fit b rg 0).toInt ≤ 99 * 8 := mul_bd (A := 99) (B := 8) (by omega) (by omega) (by decide)
  have f1 : 10 ≤ (F_X0_fit b rg 1).toInt := by
    rw [fit_1, i_mul (by rw [c10]; omega) (by rw [c10]; omega), c10]; omega
  have f2 : 0 ≤ (F_X0_fit b rg 2).toInt := by
    rw [fit_2, cut_nz hz.1]
    exact (div_bd (mul_bd (A := 400) (B := 40) (mul_bd (A := 10) (B := 40) (by rw [c10]; omega) (by omega) (by decide)) (by omega) (by decide)) (by omega)).1
  have f3 := sub100 h14 (by decide)
  unfold F_X0_wound
  rw [if_neg (show ¬ F_X0_fit b rg 1 = 0 from hz.2.1)]
  have q1 : 0 ≤ (F_X0_fit b rg 0 * T / F_X0_fit b rg 1).toInt ∧ (F_X0_fit b rg 0 * T / F_X0_fit b rg 1).toInt ≤ 3168000 := by
    have m1 := mul_bd (B := 40000) f0 hT (by decide)
    rw [i_div m1.1 (by omega)]
    refine ⟨Int.ediv_nonneg m1.1 (by omega), ?_⟩
    have e1 : (F_X0_fit b rg 0 * T).toInt / (F_X0_fit b rg 1).toInt ≤ (F_X0_fit b rg 0 * T).toInt / 10 := by
      refine Int.le_ediv_of_mul_le (by decide) ?_
      have e2 : (F_X0_fit b rg 0 * T).toInt / (F_X0_fit b rg 1).toInt * 10 ≤ (F_X0_fit b rg 0 * T).toInt / (F_X0_fit b rg 1).toInt * (F_X0_fit b rg 1).toInt := Int.mul_le_mul_of_nonneg_left f1 (Int.ediv_nonneg m1.1 (by omega))
      exact Int.le_trans e2 (Int.ediv_mul_le _ (by omega))
    omega
  have fin : ∀ v : Int32, 0 ≤ v.toInt ∧ v.toInt ≤ 10000000 → 0 ≤ (v * F_X0_fit b rg 3 / 100).toInt ∧ (v * F_X0_fit b rg 3 / 100).toInt ≤ 10000000 := by
    intro v hv
    exact div_bdk (A := 10000000 * 100) 100 (mul_bd hv f3 (by decide)) c100 (by decide)
  unfold F_X0_wound_k20 F_X0_wound_k49 F_X0_wound_j50
  split
  · exact fin _ (by omega)
  · rename_i hk
    refine fin _ ?_
    have hk' := lt_nle (k := T) (x := F_X0_fit b rg 2) (by rw [Int32.le_iff_toInt_le] at hk ⊢; omega)
    have ht : 0 ≤ (T - F_X0_fit b rg 2).toInt ∧ (T - F_X0_fit b rg 2).toInt ≤ 40000 := by
      rw [i_sub (by omega) (by omega)]; omega
    have m2 := mul_bd (A := 2 * (99 * 8)) (B := 40000) (mul_bd (A := 2) (by rw [c2]; omega) f0 (by decide)) ht (by decide)
    have q2 : 0 ≤ ((2 : Int32) * F_X0_fit b rg 0 * (T - F_X0_fit b rg 2) / F_X0_fit b rg 1).toInt ∧ ((2 : Int32) * F_X0_fit b rg 0 * (T - F_X0_fit b rg 2) / F_X0_fit b rg 1).toInt ≤ 6336000 := by
      rw [i_div m2.1 (by omega)]
      refine ⟨Int.ediv_nonneg m2.1 (by omega), ?_⟩
      have e1 : ((2 : Int32) * F_X0_fit b rg 0 * (T - F_X0_fit b rg 2)).toInt / (F_X0_fit b rg 1).toInt ≤ ((2 : Int32) * F_X0_fit b rg 0 * (T - F_X0_fit b rg 2)).toInt / 10 := by
        refine Int.le_ediv_of_mul_le (by decide) ?_
        have e2 : ((2 : Int32) * F_X0_fit b rg 0 * (T - F_X0_fit b rg 2)).toInt / (F_X0_fit b rg 1).toInt * 10 ≤ ((2 : Int32) * F_X0_fit b rg 0 * (T - F_X0_fit b rg 2)).toInt / (F_X0_fit b rg 1).toInt * (F_X0_fit b rg 1).toInt := Int.mul_le_mul_of_nonneg_left f1 (Int.ediv_nonneg m2.1 (by omega))
        exact Int.le_trans e2 (Int.ediv_mul_le _ (by omega))
      omega
    have := add_bd q1 q2 (by decide)
    omega
theorem loosed_bd {b rg : Nat → Int32} (h : RigOK rg) {T : Int32} (hT : 0 ≤ T.toInt ∧ T.toInt ≤ 40000) : 0 ≤ (F_X0_loosed (F_X0_fit b rg) T).toInt ∧ (F_X0_loosed (F_X0_fit b rg) T).toInt ≤ 10000000 := by
  have hw := wound_bd (b := b) h hT
  obtain ⟨h2, h3, h4, h5, h6, h7, h8, h9, h10, h11, h12, h13, h14, h15, h16⟩ := h
  have c100 : (100 : Int32).toInt = 100 := rfl
  unfold F_X0_loosed
  rw [fit_4, fit_5]
  exact div_bdk (A := 10000000 * 100) 100 (mul_bd (div_bdk (A := 10000000 * 100) 100 (mul_bd hw (sub100 h3 (by decide)) (by decide)) c100 (by decide)) (sub100 h15 (by decide)) (by decide)) c100 (by decide)
theorem spin_bd {b rg mo : Nat → Int32} (h : RigOK rg) (hT : 0 ≤ (mo 0).toInt ∧ (mo 0).toInt ≤ 40000) : 0 ≤ (spinOf (F_X0_fit b rg) mo).toInt ∧ (spinOf (F_X0_fit b rg) mo).toInt ≤ (mo 0).toInt := by
  have hl := loosed_bd (b := b) h hT
  have h8 := h.2.2.2.2.2.2.1
  have c10 : (10 : Int32).toInt = 10 := rfl
  unfold spinOf
  rw [mmin_eq, fit_6, cut_nz h.nz.2.2.2.1]
  have m8 := mul_bd (A := 9) (B := 9) (a := rg 8) (b := rg 8) (by omega) (by omega) (by decide)
  have d := div_bd hl (b := (10 : Int32) + rg 8 * rg 8) (by rw [i_add (by rw [c10]; omega) (by rw [c10]; omega), c10]; omega)
  split
  · rename_i hle
    rw [Int32.le_iff_toInt_le] at hle
    omega
  · omega
theorem lim_bd (x : Int32) {lo hi : Int32} (h : lo.toInt ≤ hi.toInt) : lo.toInt ≤ (F_X9_limit x lo hi).toInt ∧ (F_X9_limit x lo hi).toInt ≤ hi.toInt := by
  unfold F_X9_limit
  split
  · rename_i h1
    rw [Int32.le_iff_toInt_le] at h1
    split
    · rename_i h2
      rw [Int32.le_iff_toInt_le] at h2
      omega
    · omega
  · omega
theorem pace_bd (rg mo : Nat → Int32) (z p : Int32) : 0 ≤ (paceOf rg mo z p).toInt ∧ (paceOf rg mo z p).toInt ≤ 999 := by
  have h := lim_bd ((mo 1) + (F_X9_cut (p - (((((mo 1) * (mo 1)) * (rg 11)) / (1000 : Int32)) + (F_X4_gustOf mo (rg 16) z))) (rg 10))) (lo := (0 : Int32)) (hi := (999 : Int32)) (by decide)
  exact h
