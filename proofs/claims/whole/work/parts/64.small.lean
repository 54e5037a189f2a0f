/-! the boat, boats kept, readings, marks, the text -/
def KF (k : Nat → Int32) : Prop := k 6 = 0 ∨ k 6 = 1
theorem a_wind {bo nw : Nat → Int32} (h : Sim bo nw) (n : Int32) : (F_X9_wind bo n).1 = (F_X10_wind nw n).1 ∧ Sim (upd bo 0 (F_X9_wind bo n).2) (F_X10_wind nw n).2.2 := by
  unfold F_X9_wind F_X10_wind
  rw [in_eq, h 0 (by decide)]
  have hs : Sim (upd bo 0 (nw 0)) nw := by rw [← h 0 (by decide)]; exact h.upd0s
  by_cases c1 : F_X9_within n (1 : Int32) (400 : Int32) = 0
  · rw [if_pos c1, if_pos c1]; exact ⟨rfl, hs⟩
  rw [if_neg c1, if_neg c1]
  by_cases c2 : nw 0 + (100 : Int32) * n ≤ (40000 : Int32)
  · rw [if_pos c2, if_pos c2]; exact ⟨rfl, h.upd0 rfl⟩
  · rw [if_neg c2, if_neg c2]; exact ⟨rfl, hs⟩
theorem step_kf (mo rg b : Nat → Int32) (z : Int32) : KF (F_X4_step mo rg b z) := by
  unfold KF
  rw [step_6]
  unfold steadyOf
  split
  · split
    · exact Or.inr rfl
    · exact Or.inl rfl
  · exact Or.inl rfl
theorem go_loop {la bt : Nat → Int32} (h : RRig la bt) (b0 mm : Nat → Int32) {N : Nat} (hN : N ≤ 99) (z : Int32) : ∀ (j k : Nat) (bo nw : Nat → Int32), j + k = N → Sim bo nw → KF bo → ∃ (x y : Int32) (bo' nw' : Nat → Int32), F_X9_go_l25 la (F_X0_fit b0 la) (nI N) z j (nI k) bo = (x, bo') ∧ F_X10_go_l30 mm bt (nI N) z (la 2) (la 3) (la 4) (la 6) (la 7) (la 8) (la 13) j (nI k) nw = (y, nw') ∧ Sim bo' nw' ∧ KF bo' := by
  intro j
  induction j with
  | zero => intro k bo nw hk hs hf; exact ⟨_, _, _, _, rfl, rfl, hs, hf⟩
  | succ j ih =>
    intro k bo nw hk hs hf
    have g : ¬ nI N ≤ nI k := nI_ge (by omega) (by omega)
    rw [F_X9_go_l25, F_X10_go_l30]
    unfold F_X9_go_b25 F_X10_go_b30 F_X9_go_k43 F_X10_go_k41
    rw [if_neg g, if_neg g, nI_1]
    exact ih (k + 1) _ _ (by omega) (sim_step (mrigA mm h) h.1.nz hs z) (step_kf _ _ _ _)
theorem a_go {la bt bo nw : Nat → Int32} (h : RRig la bt) (hs : Sim bo nw) (hf : KF bo) (b0 mm : Nat → Int32) (t z : Int32) : (F_X9_go la (F_X0_fit b0 la) bo t z).1 = (F_X10_go mm bt nw t z).1 ∧ Sim (F_X9_go la (F_X0_fit b0 la) bo t z).2 (F_X10_go mm bt nw t z).2.2.2.2.2.2.2.2.2 ∧ KF (F_X9_go la (F_X0_fit b0 la) bo t z).2 := by
  unfold F_X9_go F_X10_go
  rw [in_eq, show F_X10_isWind z = F_X9_within z (-1 : Int32) (9999 : Int32) from rfl]
  by_cases c1 : F_X9_within t (1 : Int32) (99 : Int32) = 0
  · rw [if_pos c1, if_pos c1]; exact ⟨rfl, hs, hf⟩
  rw [if_neg c1, if_neg c1]
  by_cases c2 : F_X9_within z (-1 : Int32) (9999 : Int32) = 0
  · rw [if_pos c2, if_pos c2]; exact ⟨rfl, hs, hf⟩
  rw [if_neg c2, if_neg c2, asIt h]
  have ht := w_lo c1 (a := 1) (b := 99) rfl rfl
  obtain ⟨N, hN, rfl⟩ : ∃ N : Nat, N ≤ 99 ∧ t = nI N := nI_of2 (M := 99) rfl (by rw [Int32.lt_iff_toInt_lt, i_z]; omega) (by rw [Int32.le_iff_toInt_le]; exact ht.2)
  have eN : (Int32.toInt (nI N)).toNat = N := by rw [nI_toInt (by omega)]; omega
  obtain ⟨x, y, bo', nw', e1, e2, hs', hf'⟩ := go_loop h b0 mm hN z N 0 bo nw (by omega) hs hf
  have e1 : F_X9_go_l25 la (F_X0_fit b0 la) (nI N) z N (0 : Int32) bo = _ := e1
  have e2 : F_X10_go_l30 mm bt (nI N) z (la 2) (la 3) (la 4) (la 6) (la 7) (la 8) (la 13) N (0 : Int32) nw = _ := e2
  dsimp only
  unfold F_X10_go_k25
  rw [eN, e1, e2]
  exact ⟨hs' 2 (by decide), hs', hf'⟩
theorem a_weed {bo nw : Nat → Int32} (h : Sim bo nw) : (F_X9_weed bo).1 = (F_X10_weed nw).1 ∧ Sim (upd bo 1 (F_X9_weed bo).2) (F_X10_weed nw).2.2 := by
  refine ⟨h 1 (by decide), ?_⟩
  intro j hj
  show upd bo 1 0 j = upd nw 1 0 j
  by_cases q : j = 1
  · rw [q, pk_us, pk_us]
  · rw [pk_un q, pk_un q]; exact h j hj
theorem a_now {bo nw : Nat → Int32} (h : Sim bo nw) (what : Int32) : F_X9_now bo what = (F_X10_now nw what).1 := by
  unfold F_X9_now F_X10_now
  rw [in_eq]
  by_cases c1 : F_X9_within what (0 : Int32) (5 : Int32) = 0
  · rw [if_pos c1]
    have ne : ∀ k : Nat, k ≤ 5 → ¬ what = nI k := by
      intro k hk e
      rw [e] at c1
      unfold F_X9_within at c1
      rw [if_neg (nI_pos (n := k) (by omega)), if_neg (show ¬ (5 : Int32) < nI k from nI_nlt (a := 5) (b := k) hk (by omega))] at c1
      exact absurd c1 (by decide)
    rw [if_neg (show ¬ what = 0 from ne 0 (by decide)), if_neg (show ¬ what = 1 from ne 1 (by decide)), if_neg (show ¬ what = 2 from ne 2 (by decide)), if_neg (show ¬ what = 3 from ne 3 (by decide)), if_neg (show ¬ what = 4 from ne 4 (by decide)), if_neg (show ¬ what = 5 from ne 5 (by decide))]
  · rw [if_neg c1]
    have hw := w_lo c1 (a := 0) (b := 5) rfl rfl
    obtain ⟨w, hw5, rfl⟩ : ∃ w : Nat, w ≤ 5 ∧ what = nI w := nI_of2 (M := 5) rfl (by rw [Int32.lt_iff_toInt_lt, i_z]; omega) (by rw [Int32.le_iff_toInt_le]; exact hw.2)
    rcases (show w = 0 ∨ w = 1 ∨ w = 2 ∨ w = 3 ∨ w = 4 ∨ w = 5 by omega) with rfl | rfl | rfl | rfl | rfl | rfl
    · show bo 0 = nw 0 + 0
      rw [h 0 (by decide), Int32.add_zero]
    · show bo 1 = nw 1 + 0
      rw [h 1 (by decide), Int32.add_zero]
    · show bo 2 = nw 2 + 0
      rw [h 2 (by decide), Int32.add_zero]
    · show bo 3 + 10000 = nw 3 + 10000
      rw [h 3 (by decide)]
    · show bo 4 + 10000000 = nw 4 + 10000000
      rw [h 4 (by decide)]
    · show bo 5 = nw 5 + 0
      rw [h 5 (by decide), Int32.add_zero]
def RKept (kc km : Int32) (k0 k1 kp : Nat → Int32) : Prop := ∃ K : Nat, K ≤ 2 ∧ kc = nI K ∧ km = nI K ∧ (1 ≤ K → ∀ j : Nat, j < 6 → k0 j = kp j) ∧ (2 ≤ K → ∀ j : Nat, j < 6 → k1 j = kp (6 + j))
theorem copy_sim (mo ot : Nat → Int32) : Sim (F_X4_copy mo ot) ot := by
  intro j hj
  rcases (show j = 0 ∨ j = 1 ∨ j = 2 ∨ j = 3 ∨ j = 4 ∨ j = 5 by omega) with rfl | rfl | rfl | rfl | rfl | rfl <;> rfl
theorem copy_kf (mo : Nat → Int32) {ot : Nat → Int32} (h : KF ot) : KF (F_X4_copy mo ot) := h
theorem keep_loop {mm nw : Nat → Int32} {K : Nat} (hK : K ≤ 1) (h16 : mm 16 = nI K) (kp0 : Nat → Int32) : ∀ (j k : Nat) (kp : Nat → Int32), j + k = 6 → (∀ i : Nat, i < k → kp (6 * K + i) = nw i) → (∀ i : Nat, i < 6 * K → kp i = kp0 i) → ∃ (x : Int32) (kp' : Nat → Int32), F_X10_keep_l18 mm nw j (nI k) kp = (x, kp') ∧ (∀ i : Nat, i < 6 → kp' (6 * K + i) = nw i) ∧ ∀ i : Nat, i < 6 * K → kp' i = kp0 i := by
  intro j
  induction j with
  | zero => intro k kp hk h1 h2; exact ⟨_, _, rfl, fun i hi => h1 i (by omega), h2⟩
  | succ j ih =>
    intro k kp hk h1 h2
    have g : ¬ (6 : Int32) ≤ nI k := nI_ge (a := k) (b := 6) (by omega) (by omega)
    have e : F_X10_keep_b18 mm nw (nI k) kp = Sum.inl (nI (k + 1), upd kp (6 * K + k) (nw k)) := by
      unfold F_X10_keep_b18 F_X10_keep_k43
      rw [if_neg g, h16, nI_1, show (6 : Int32) = nI 6 from rfl, pk_mul, nI_add, nI_clamp (by omega), nI_clamp (by omega)]
    rw [F_X10_keep_l18, e]
    refine ih (k + 1) _ (by omega) (fun i hi => ?_) (fun i hi => ?_)
    · by_cases q : i = k
      · rw [q, pk_us]
      · rw [pk_un (by omega)]; exact h1 i (by omega)
    · rw [pk_un (by omega)]; exact h2 i hi
theorem back_loop {kp : Nat → Int32} {K : Nat} (hK : K ≤ 1) : ∀ (j k : Nat) (nw : Nat → Int32), j + k = 6 → (∀ i : Nat, i < k → nw i = kp (6 * K + i)) → ∃ (x : Int32) (nw' : Nat → Int32), F_X10_back_l27 kp (nI K) j (nI k) nw = (x, nw') ∧ ∀ i : Nat, i < 6 → nw' i = kp (6 * K + i) := by
  intro j
  induction j with
  | zero => intro k nw hk h1; exact ⟨_, _, rfl, fun i hi => h1 i (by omega)⟩
  | succ j ih =>
    intro k nw hk h1
    have g : ¬ (6 : Int32) ≤ nI k := nI_ge (a := k) (b := 6) (by omega) (by omega)
    have e : F_X10_back_b27 kp (nI K) (nI k) nw = Sum.inl (nI (k + 1), upd nw k (kp (6 * K + k))) := by
      unfold F_X10_back_b27 F_X10_back_k52
      rw [if_neg g, nI_1, show (6 : Int32) = nI 6 from rfl, pk_mul, nI_add, nI_clamp (by omega), nI_clamp (by omega)]
    rw [F_X10_back_l27, e]
    refine ih (k + 1) _ (by omega) (fun i hi => ?_)
    by_cases q : i = k
    · rw [q, pk_us]
    · rw [pk_un q]; exact h1 i (by omega)
theorem a_keep {bb mm k0 k1 kp bo nw : Nat → Int32} (h : RKept (bb 10) (mm 16) k0 k1 kp) (hs : Sim bo nw) (hb : KF bo) (f0 : KF k0) (f1 : KF k1) : (F_X9_keep bb bo k0 k1).1 = (F_X10_keep mm nw kp).1 ∧ RKept (F_X9_keep bb bo k0 k1).2.1 (F_X10_keep mm nw kp).2.2.1 (F_X9_keep bb bo k0 k1).2.2.1 (F_X9_keep bb bo k0 k1).2.2.2 (F_X10_keep mm nw kp).2.2.2 ∧ KF (F_X9_keep bb bo k0 k1).2.2.1 ∧ KF (F_X9_keep bb bo k0 k1).2.2.2 := by
  obtain ⟨K, hK, e10, e16, hk0, hk1⟩ := id h
  unfold F_X9_keep F_X10_keep
  rcases (show K = 0 ∨ K = 1 ∨ K = 2 by omega) with rfl | rfl | rfl
  · obtain ⟨x, kp', e, w1, w2⟩ := keep_loop (mm := mm) (nw := nw) (K := 0) (by decide) e16 kp 6 0 kp (by decide) (fun i hi => by omega) (fun i hi => by omega)
    have e : F_X10_keep_l18 mm nw 6 (0 : Int32) kp = _ := e
    rw [e10, e16, if_pos (by decide), if_neg (by decide), e]
    dsimp only
    unfold F_X9_keep_k21 F_X9_keep_k31 F_X10_keep_x18 F_X10_keep_k57
    rw [e10, e16]
    refine ⟨rfl, ⟨1, by decide, rfl, rfl, fun _ j hj => ?_, fun w => absurd w (by decide)⟩, copy_kf _ hb, f1⟩
    have := w1 j hj
    rw [show 6 * 0 + j = j by omega] at this
    show F_X4_copy k0 bo j = kp' j
    rw [this, copy_sim k0 bo j hj]
    exact hs j hj
  · obtain ⟨x, kp', e, w1, w2⟩ := keep_loop (mm := mm) (nw := nw) (K := 1) (by decide) e16 kp 6 0 kp (by decide) (fun i hi => by omega) (fun i hi => rfl)
    have e : F_X10_keep_l18 mm nw 6 (0 : Int32) kp = _ := e
    rw [e10, e16, if_neg (by decide), if_pos (by decide), if_neg (by decide), e]
    dsimp only
    unfold F_X9_keep_k21b F_X9_keep_k31b F_X10_keep_x18 F_X10_keep_k57
    rw [e10, e16]
    refine ⟨rfl, ⟨2, by decide, rfl, rfl, fun _ j hj => ?_, fun _ j hj => ?_⟩, f0, copy_kf _ hb⟩
    · show k0 j = kp' j
      rw [w2 j (by omega)]
      exact hk0 (by decide) j hj
    · show F_X4_copy k1 bo j = kp' (6 + j)
      rw [w1 j hj, copy_sim k1 bo j hj]
      exact hs j hj
  · rw [e10, e16, if_neg (by decide), if_neg (by decide), if_pos (by decide)]
    exact ⟨rfl, ⟨2, hK, rfl, rfl, hk0, hk1⟩, f0, f1⟩
theorem a_back {bb mm k0 k1 kp bo nw : Nat → Int32} (h : RKept (bb 10) (mm 16) k0 k1 kp) (hs : Sim bo nw) (hb : KF bo) (f0 : KF k0) (f1 : KF k1) : (F_X9_back bb bo k0 k1).1 = (F_X10_back mm nw kp).1 ∧ RKept (F_X9_back bb bo k0 k1).2.1 (F_X10_back mm nw kp).2.2.1 k0 k1 kp ∧ Sim (F_X9_back bb bo k0 k1).2.2 (F_X10_back mm nw kp).2.2.2 ∧ KF (F_X9_back bb bo k0 k1).2.2 := by
  obtain ⟨K, hK, e10, e16, hk0, hk1⟩ := id h
  unfold F_X9_back F_X10_back
  rcases (show K = 0 ∨ K = 1 ∨ K = 2 by omega) with rfl | rfl | rfl
  · rw [e10, e16, if_neg (by decide), if_neg (by decide), if_pos (by decide)]
    exact ⟨rfl, ⟨0, hK, rfl, rfl, hk0, hk1⟩, hs, hb⟩
  · obtain ⟨x, nw', e, w1⟩ := back_loop (kp := kp) (K := 0) (by decide) 6 0 nw (by decide) (fun i hi => by omega)
    have e : F_X10_back_l27 kp (0 : Int32) 6 (0 : Int32) nw = _ := e
    rw [e10, e16, if_pos (by decide), if_neg (by decide)]
    unfold F_X9_back_k23 F_X9_back_k33 F_X10_back_k22
    rw [e10, show nI 1 - (1 : Int32) = 0 from by decide, e]
    dsimp only
    unfold F_X10_back_x27
    refine ⟨rfl, ⟨0, by decide, rfl, rfl, fun w => absurd w (by decide), fun w => absurd w (by decide)⟩, fun j hj => ?_, copy_kf _ f0⟩
    show F_X4_copy bo k0 j = nw' j
    have := w1 j hj
    rw [show 6 * 0 + j = j by omega] at this
    rw [this, copy_sim bo k0 j hj]
    exact hk0 (by decide) j hj
  · obtain ⟨x, nw', e, w1⟩ := back_loop (kp := kp) (K := 1) (by decide) 6 0 nw (by decide) (fun i hi => by omega)
    have e : F_X10_back_l27 kp (1 : Int32) 6 (0 : Int32) nw = _ := e
    rw [e10, e16, if_neg (by decide), if_pos (by decide), if_neg (by decide)]
    unfold F_X9_back_k23b F_X9_back_k33b F_X10_back_k22
    rw [e10, show nI 2 - (1 : Int32) = 1 from by decide, e]
    dsimp only
    unfold F_X10_back_x27
    refine ⟨rfl, ⟨1, by decide, rfl, rfl, fun _ => hk0 (by decide), fun w => absurd w (by decide)⟩, fun j hj => ?_, copy_kf _ f1⟩
    show F_X4_copy bo k1 j = nw' j
    rw [w1 j hj, copy_sim bo k1 j hj]
    exact hk1 (by decide) j hj
theorem a_forget {ga mk mm : Nat → Int32} (h1 : ga 3 = mm 22) (h2 : mk 2 = mm 25) : (F_X9_forget ga mk).1 = (F_X10_forget mm).1 := by
  show ga 3 + mk 2 = mm 22 + mm 25
  rw [h1, h2]
theorem a_reading {ga gt gu gd mm rd : Nat → Int32} (h : RGauge ga gt gu gd mm rd) (fm : Nat → Int32) (n up down : Int32) : (F_X9_reading ga gt gu gd fm n up down).1 = (F_X10_reading mm rd n up down).1 ∧ RGauge (upd ga 3 (F_X9_reading ga gt gu gd fm n up down).2.1) (F_X9_reading ga gt gu gd fm n up down).2.2.1 (F_X9_reading ga gt gu gd fm n up down).2.2.2.1 (F_X9_reading ga gt gu gd fm n up down).2.2.2.2.1 (upd mm 22 (F_X10_reading mm rd n up down).2.2.1) (F_X10_reading mm rd n up down).2.2.2 ∧ ∀ (la fa : Nat → Int32), MFits la ga gt gu gd (fm 1) (fm 2) fa → MFits la (upd ga 3 (F_X9_reading ga gt gu gd fm n up down).2.1) (F_X9_reading ga gt gu gd fm n up down).2.2.1 (F_X9_reading ga gt gu gd fm n up down).2.2.2.1 (F_X9_reading ga gt gu gd fm n up down).2.2.2.2.1 (F_X9_reading ga gt gu gd fm n up down).2.2.2.2.2 (fm 2) fa := by
  have same : RGauge (upd ga 3 (ga 3)) gt gu gd (upd mm 22 (mm 22)) rd := h
  have sameF : ∀ (la fa : Nat → Int32), MFits la ga gt gu gd (fm 1) (fm 2) fa → MFits la (upd ga 3 (ga 3)) gt gu gd (fm 1) (fm 2) fa := fun la fa hm => hm
  unfold F_X9_reading F_X10_reading
  rw [arT_eq, in_eq, in_eq]
  by_cases c1 : F_X9_isTurns n = 0
  · rw [if_pos c1, if_pos c1]; exact ⟨rfl, same, sameF⟩
  rw [if_neg c1, if_neg c1]
  by_cases c2 : F_X9_within up (0 : Int32) (9999 : Int32) = 0
  · rw [if_pos c2, if_pos c2]; exact ⟨rfl, same, sameF⟩
  rw [if_neg c2, if_neg c2]
  by_cases c3 : F_X9_within down (0 : Int32) (9999 : Int32) = 0
  · rw [if_pos c3, if_pos c3]; exact ⟨rfl, same, sameF⟩
  rw [if_neg c3, if_neg c3]
  obtain ⟨R, hR, g3, m22, hk⟩ := id h
  unfold F_X1_add
  by_cases q : R = 6
  · subst q
    have w6 : F_X9_within (ga 3) (0 : Int32) (5 : Int32) = 0 := by rw [g3]; decide
    rw [if_pos w6, if_pos (show mm 22 = (6 : Int32) from m22)]
    exact ⟨rfl, same, sameF⟩
  · have w6 : ¬ F_X9_within (ga 3) (0 : Int32) (5 : Int32) = 0 := by
      rw [g3]
      unfold F_X9_within
      rw [if_neg (nI_pos (n := R) (by omega)), if_neg (show ¬ (5 : Int32) < nI R from nI_nlt (a := 5) (b := R) (by omega) (by omega))]
      decide
    have n6 : ¬ mm 22 = (6 : Int32) := by
      rw [m22]
      intro e
      have := (nI_eq (a := R) (b := 6) (by omega) (by omega)).mp e
      exact q this
    rw [if_neg w6, if_neg n6]
    unfold F_X1_add_k51 F_X10_reading_k95
    dsimp only
    unfold F_X9_reading_k38 F_X9_reading_k51
    rw [if_neg (by decide)]
    rw [g3, m22, nI_1, show (3 : Int32) = nI 3 from rfl, pk_mul, show (1 : Int32) = nI 1 from rfl, show (2 : Int32) = nI 2 from rfl, nI_add, nI_add, nI_clamp (by omega), nI_clamp (by omega), nI_clamp (by omega), nI_clamp (by omega)]
    refine ⟨rfl, ⟨R + 1, by omega, rfl, rfl, fun k hk' => ?_⟩, fun la fa hm w => absurd rfl w⟩
    show upd gt R n k = upd (upd (upd rd (3 * R) n) (3 * R + 1) up) (3 * R + 2) down (3 * k) ∧ upd gu R up k = upd (upd (upd rd (3 * R) n) (3 * R + 1) up) (3 * R + 2) down (3 * k + 1) ∧ upd gd R down k = upd (upd (upd rd (3 * R) n) (3 * R + 1) up) (3 * R + 2) down (3 * k + 2) ∧ (0 ≤ (upd gt R n k).toInt ∧ (upd gt R n k).toInt ≤ 400) ∧ (0 ≤ (upd gu R up k).toInt ∧ (upd gu R up k).toInt ≤ 9999) ∧ (0 ≤ (upd gd R down k).toInt ∧ (upd gd R down k).toInt ≤ 9999)
    by_cases ek : k = R
    · subst ek
      rw [pk_us, pk_us, pk_us, pk_un (show 3 * k ≠ 3 * k + 2 by omega), pk_un (show 3 * k ≠ 3 * k + 1 by omega), pk_us, pk_un (show 3 * k + 1 ≠ 3 * k + 2 by omega), pk_us, pk_us]
      exact ⟨rfl, rfl, rfl, isT c1, w_lo c2 rfl rfl, w_lo c3 rfl rfl⟩
    · rw [pk_un ek, pk_un ek, pk_un ek, pk_un (show 3 * k ≠ 3 * R + 2 by omega), pk_un (show 3 * k ≠ 3 * R + 1 by omega), pk_un (show 3 * k ≠ 3 * R by omega), pk_un (show 3 * k + 1 ≠ 3 * R + 2 by omega), pk_un (show 3 * k + 1 ≠ 3 * R + 1 by omega), pk_un (show 3 * k + 1 ≠ 3 * R by omega), pk_un (show 3 * k + 2 ≠ 3 * R + 2 by omega), pk_un (show 3 * k + 2 ≠ 3 * R + 1 by omega), pk_un (show 3 * k + 2 ≠ 3 * R by omega)]
      exact hk k (by omega)
theorem a_mark {mk mp mt mm ma : Nat → Int32} (h : RMarks mk mp mt mm ma) (tm : Nat → Int32) (d t : Int32) : (F_X9_mark mk mp mt tm d t).1 = (F_X10_mark mm ma d t).1 ∧ RMarks (upd mk 2 (F_X9_mark mk mp mt tm d t).2.1) (F_X9_mark mk mp mt tm d t).2.2.1 (F_X9_mark mk mp mt tm d t).2.2.2.1 (upd mm 25 (F_X10_mark mm ma d t).2.2.1) (F_X10_mark mm ma d t).2.2.2 ∧ ∀ (la ta : Nat → Int32), MTold la mk mp mt (tm 1) (tm 2) ta → MTold la (upd mk 2 (F_X9_mark mk mp mt tm d t).2.1) (F_X9_mark mk mp mt tm d t).2.2.1 (F_X9_mark mk mp mt tm d t).2.2.2.1 (F_X9_mark mk mp mt tm d t).2.2.2.2 (tm 2) ta := by
  have same : RMarks (upd mk 2 (mk 2)) mp mt (upd mm 25 (mm 25)) ma := h
  have sameF : ∀ (la ta : Nat → Int32), MTold la mk mp mt (tm 1) (tm 2) ta → MTold la (upd mk 2 (mk 2)) mp mt (tm 1) (tm 2) ta := fun la ta hm => hm
  unfold F_X9_mark F_X10_mark
  rw [in_eq, in_eq]
  by_cases c1 : F_X9_within d (1 : Int32) (99999 : Int32) = 0
  · rw [if_pos c1, if_pos c1]; exact ⟨rfl, same, sameF⟩
  rw [if_neg c1, if_neg c1]
  by_cases c2 : F_X9_within t (0 : Int32) (600 : Int32) = 0
  · rw [if_pos c2, if_pos c2]; exact ⟨rfl, same, sameF⟩
  rw [if_neg c2, if_neg c2]
  obtain ⟨R, hR, g3, m22, hk⟩ := id h
  unfold F_X2_add
  by_cases q : R = 4
  · subst q
    have w6 : F_X9_within (mk 2) (0 : Int32) (3 : Int32) = 0 := by rw [g3]; decide
    rw [if_pos w6, if_pos (show mm 25 = (4 : Int32) from m22)]
    exact ⟨rfl, same, sameF⟩
  · have w6 : ¬ F_X9_within (mk 2) (0 : Int32) (3 : Int32) = 0 := by
      rw [g3]
      unfold F_X9_within
      rw [if_neg (nI_pos (n := R) (by omega)), if_neg (show ¬ (3 : Int32) < nI R from nI_nlt (a := 3) (b := R) (by omega) (by omega))]
      decide
    have n6 : ¬ mm 25 = (4 : Int32) := by
      rw [m22]
      intro e
      have := (nI_eq (a := R) (b := 4) (by omega) (by omega)).mp e
      exact q this
    rw [if_neg w6, if_neg n6]
    unfold F_X2_add_k41 F_X10_mark_k72
    dsimp only
    unfold F_X9_mark_k29 F_X9_mark_k42
    rw [if_neg (by decide)]
    rw [g3, m22, nI_1, show (2 : Int32) = nI 2 from rfl, pk_mul, show (1 : Int32) = nI 1 from rfl, nI_add, nI_clamp (by omega), nI_clamp (by omega), nI_clamp (by omega)]
    refine ⟨rfl, ⟨R + 1, by omega, rfl, rfl, fun k hk' => ?_⟩, fun la fa hm w => absurd rfl w⟩
    show upd mp R d k = upd (upd ma (2 * R) d) (2 * R + 1) t (2 * k) ∧ upd mt R t k = upd (upd ma (2 * R) d) (2 * R + 1) t (2 * k + 1) ∧ (0 ≤ (upd mt R t k).toInt ∧ (upd mt R t k).toInt ≤ 600)
    by_cases ek : k = R
    · subst ek
      rw [pk_us, pk_us, pk_un (show 2 * k ≠ 2 * k + 1 by omega), pk_us, pk_us]
      exact ⟨rfl, rfl, w_lo c2 rfl rfl⟩
    · rw [pk_un ek, pk_un ek, pk_un (show 2 * k ≠ 2 * R + 1 by omega), pk_un (show 2 * k ≠ 2 * R by omega), pk_un (show 2 * k + 1 ≠ 2 * R + 1 by omega), pk_un (show 2 * k + 1 ≠ 2 * R by omega)]
      exact hk k (by omega)
/-! the text -/
def RText (sc sb mm tx : Nat → Int32) : Prop := ∃ L : Nat, L ≤ 300 ∧ sc 1 = nI L ∧ mm 2 = nI L ∧ ∀ j : Nat, j < L → sb j &&& (255 : Int32) = tx j
theorem byte_eq (w : Int64) : vp_nar .byte (Int8.toInt32 (Int32.toInt8 (Int64.toInt32 w))) &&& (255 : Int32) = Int64.toInt32 (w &&& (255 : Int64)) := by
  rw [pk_vb]
  apply Int32.toBitVec_inj.mp
  rw [Int32.toBitVec_and, Int8.toBitVec_toInt32, Int32.toBitVec_toInt8, Int64.toBitVec_toInt32, Int64.toBitVec_toInt32, Int64.toBitVec_and]
  apply BitVec.eq_of_getLsbD_eq
  intro i hi
  have e1 : (255 : Int32).toBitVec.getLsbD i = decide (i < 8) := by
    have h : (255 : Int32).toBitVec = BitVec.ofNat 32 (2 ^ 8 - 1) := rfl
    rw [h, BitVec.getLsbD_ofNat, Nat.testBit_two_pow_sub_one]
    simp [hi]
  have e2 : (255 : Int64).toBitVec.getLsbD i = decide (i < 8) := by
    have h : (255 : Int64).toBitVec = BitVec.ofNat 64 (2 ^ 8 - 1) := rfl
    rw [h, BitVec.getLsbD_ofNat, Nat.testBit_two_pow_sub_one]
    simp only [show i < 64 by omega, decide_true, Bool.true_and]
  rw [BitVec.getLsbD_and, e1, BitVec.getLsbD_signExtend, BitVec.getLsbD_signExtend, BitVec.getLsbD_signExtend, BitVec.getLsbD_signExtend, BitVec.getLsbD_and, e2]
  by_cases q : i < 8
  · simp [q, hi, show i < 64 by omega]
  · simp [q, show i < 64 by omega]
theorem write_loop {N : Nat} (hN : N ≤ 8) (v : Int64) : ∀ (j i L : Nat) (x4 : Int32) (sb tx : Nat → Int32), i + j = N → L + j ≤ 300 → (∀ j', j = j' + 1 → x4 = nI j') → (∀ q : Nat, q < L → sb q &&& (255 : Int32) = tx q) → ∃ (x : Int32) (sb' tx' : Nat → Int32), F_X7_append_l19 (nI N) v j (nI i) (nI L) sb = (1, nI (L + j), sb') ∧ F_X10_write_l37 v j x4 (nI L) tx = (x, nI (L + j), tx') ∧ ∀ q : Nat, q < L + j → sb' q &&& (255 : Int32) = tx' q := by
  intro j
  induction j with
  | zero => intro i L x4 sb tx h1 h2 hx ht; exact ⟨_, _, _, rfl, rfl, ht⟩
  | succ j ih =>
    intro i L x4 sb tx h1 h2 hx ht
    have ex := hx j rfl
    subst ex
    have g1 : ¬ nI N ≤ nI i := nI_ge (by omega) (by omega)
    have g3 : ¬ (300 : Int32) ≤ nI L := nI_ge (a := L) (b := 300) (by omega) (by omega)
    have es : (nI N - (1 : Int32)) - nI i = nI j := by
      rw [show (1 : Int32) = nI 1 from rfl, pk_sub (by omega), pk_sub (by omega)]
      congr 1
      omega
    have ea : F_X7_append_b19 (nI N) v (nI i) (nI L) sb = Sum.inl (nI (i + 1), nI (L + 1), upd sb L (vp_nar .byte (Int8.toInt32 (Int32.toInt8 (Int64.toInt32 (v >>> ((Int32.toInt64 ((8 : Int32) * nI j)) &&& 63))))))) := by
      unfold F_X7_append_b19 F_X7_append_k65 F_X7_append_k73
      rw [if_neg g1, if_neg (nI_pos (by omega)), if_neg g3, es, nI_1, nI_1, nI_clamp (by omega)]
    have eb : F_X10_write_b37 v (nI j) (nI L) tx = Sum.inl (nI j + (-1 : Int32), nI (L + 1), upd tx L (Int64.toInt32 ((v >>> ((Int32.toInt64 ((8 : Int32) * nI j)) &&& 63)) &&& (255 : Int64)))) := by
      unfold F_X10_write_b37 F_X10_write_k62 F_X10_write_k70
      rw [if_neg (nI_pos (by omega)), nI_1, nI_clamp (by omega)]
    rw [F_X7_append_l19, F_X10_write_l37, ea, eb]
    dsimp only
    rw [show L + (j + 1) = (L + 1) + j by omega]
    refine ih (i + 1) (L + 1) _ _ _ (by omega) (by omega) (fun j' hj' => by rw [hj']; exact pk_m1 j') (fun q hq => ?_)
    by_cases e : q = L
    · rw [e, pk_us, pk_us]
      exact byte_eq _
    · rw [pk_un e, pk_un e]
      exact ht q (by omega)
theorem a_write {sc sb mm tx : Nat → Int32} (h : RText sc sb mm tx) (n : Int32) (v : Int64) : (F_X9_write sc sb n v).1 = (F_X10_write mm tx n v).1 ∧ RText (upd sc 1 (F_X9_write sc sb n v).2.1) (F_X9_write sc sb n v).2.2 (upd mm 2 (F_X10_write mm tx n v).2.2.1) (F_X10_write mm tx n v).2.2.2 := by
  have same : RText (upd sc 1 (sc 1)) sb (upd mm 2 (mm 2)) tx := h
  obtain ⟨L, hL, e1, e2, ht⟩ := id h
  unfold F_X9_write F_X10_write
  rw [in_eq]
  by_cases c1 : F_X9_within n (1 : Int32) (8 : Int32) = 0
  · rw [if_pos c1, if_pos c1]; exact ⟨rfl, same⟩
  rw [if_neg c1, if_neg c1]
  have hn := w_lo c1 (a := 1) (b := 8) rfl rfl
  obtain ⟨N, hN, rfl⟩ : ∃ N : Nat, N ≤ 8 ∧ n = nI N := nI_of2 (M := 8) rfl (by rw [Int32.lt_iff_toInt_lt, i_z]; omega) (by rw [Int32.le_iff_toInt_le]; exact hn.2)
  have n1 : 1 ≤ N := by
    have := hn.1
    rw [nI_toInt (by omega)] at this
    omega
  unfold F_X7_append
  have g1 : nI N ≤ (300 : Int32) - nI L ↔ L + N ≤ 300 := by
    rw [show (300 : Int32) = nI 300 from rfl, pk_sub hL, nI_leI (by omega) (by omega)]
    omega
  have g2 : nI L + nI N ≤ (300 : Int32) ↔ L + N ≤ 300 := by
    rw [show (300 : Int32) = nI 300 from rfl, nI_add, nI_leI (by omega) (by omega)]
  rw [e1, e2]
  by_cases c2 : L + N ≤ 300
  · have eN : (Int32.toInt (nI N)).toNat = N := by rw [nI_toInt (by omega)]; omega
    obtain ⟨x, sb', tx', f1, f2, f3⟩ := write_loop hN v N 0 L (nI N - 1) sb tx (by omega) c2 (fun j' hj' => by rw [hj', nI_pred]) ht
    have f1 : F_X7_append_l19 (nI N) v N (0 : Int32) (nI L) sb = _ := f1
    rw [if_pos (g1.mpr c2), if_pos (g2.mpr c2)]
    unfold F_X10_write_k35
    rw [eN, f1, e2, f2]
    exact ⟨rfl, ⟨L + N, c2, rfl, rfl, f3⟩⟩
  · rw [if_neg (fun w => c2 (g1.mp w)), if_neg (fun w => c2 (g2.mp w))]
    exact ⟨rfl, ⟨L, hL, rfl, rfl, ht⟩⟩
theorem a_wipe {sc sb mm tx : Nat → Int32} (h : RText sc sb mm tx) : (F_X9_wipe sc).1 = (F_X10_wipe mm).1 ∧ RText (upd sc 1 (F_X9_wipe sc).2) sb (upd mm 2 (F_X10_wipe mm).2.2) tx := by
  obtain ⟨L, hL, e1, e2, ht⟩ := id h
  exact ⟨e1.trans e2.symm, ⟨0, by decide, rfl, rfl, fun j hj => by omega⟩⟩
