/-! where a run of 600 tenths ends; lost -/
def plc (rg : Nat → Int32) (n z : Int32) : Nat → Int32 := (F_X10_runs (mmOf rg) (btOf rg) zf n z (600 : Int32) (0 : Int32) (1 : Int32)).2.2.2.2
section PLC
variable {rg mm bt : Nat → Int32}
theorem make_plc (ho : RigOK rg) (tl tlm tlb tlp : Nat → Int32) {n : Int32} (z : Int32) (ht : 0 ≤ n.toInt ∧ n.toInt ≤ 400) : ∃ (a b c : Int32) (mo path : Nat → Int32), F_X8_make tl tlm tlb tlp rg n z (600 : Int32) (0 : Int32) = (a, b, c, mo, F_X0_fit tlb rg, path) ∧ Sim mo (plc rg n z) := by
  obtain ⟨K, top, em, f, mo, path, r2, e1, e2, hK, hs, -, -⟩ := runs_both (mrig_of rg) ho tl tlm tlb tlp zf z 0 1 ht (Or.inr rfl) 600 (by decide)
  have e2 : F_X10_runs (mmOf rg) (btOf rg) zf n z (600 : Int32) (0 : Int32) (1 : Int32) = _ := e2
  refine ⟨_, _, _, _, _, e1, ?_⟩
  unfold plc
  rw [e2]
  exact hs
theorem runs_plc (h : MRig rg mm bt) (ho : RigOK rg) (rn : Nat → Int32) {n : Int32} (z : Int32) (ht : 0 ≤ n.toInt ∧ n.toInt ≤ 400) : ∃ (a b c d : Int32) (r2 : Nat → Int32), F_X10_runs mm bt rn n z (600 : Int32) (0 : Int32) (1 : Int32) = (a, b, c, d, r2) ∧ Sim r2 (plc rg n z) := by
  obtain ⟨K, top, em, f, mo, path, r2, e1, e2, hK, hs, -, -⟩ := runs_both h ho zf zf zf zf rn z 0 1 ht (Or.inr rfl) 600 (by decide)
  obtain ⟨a, b, c, mo', path', e3, hs'⟩ := make_plc ho zf zf zf zf z ht
  have e1 : F_X8_make zf zf zf zf rg n z (600 : Int32) (0 : Int32) = _ := e1
  rw [e1] at e3
  simp only [Prod.mk.injEq] at e3
  refine ⟨_, _, _, _, _, e2, ?_⟩
  rw [← e3.2.2.2.1] at hs'
  exact hs.symm.trans hs'
theorem place_plc (h : MRig rg mm bt) (ho : RigOK rg) (rn : Nat → Int32) {n : Int32} (z : Int32) (ht : 0 ≤ n.toInt ∧ n.toInt ≤ 400) : ∃ (a b c d : Int32) (r2 : Nat → Int32), F_X10_placeOf mm bt rn n z = (plc rg n z 2, a, b, c, d, r2) ∧ Sim r2 (plc rg n z) := by
  obtain ⟨a, b, c, d, r2, e, hs⟩ := runs_plc h ho rn z ht
  refine ⟨a, b, c, d, r2, ?_, hs⟩
  unfold F_X10_placeOf
  rw [e]
  show (r2 2, a, b, c, d, r2) = _
  rw [hs 2 (by decide)]
theorem side_UU (z again n : Int32) : ∀ k : Nat, -9999999 ≤ ((UU mm bt z again n (st0 n) k).1 4).toInt ∧ ((UU mm bt z again n (st0 n) k).1 4).toInt ≤ 9999999
  | 0 => by show -9999999 ≤ (0 : Int32).toInt ∧ (0 : Int32).toInt ≤ 9999999; decide
  | k + 1 => by
    have e : (UU mm bt z again n (st0 n) (k + 1)).1 4 = F_X10_tenth mm bt (UU mm bt z again n (st0 n) k).1 z 4 := by
      show (tnx _ _ _ _ _ _).1 4 = _
      unfold tnx
      split <;> rfl
    rw [e, tenth_4]
    exact lim_bd _ (lo := (-9999999 : Int32)) (hi := (9999999 : Int32)) (by decide)
theorem plc_bd (ho : RigOK rg) {n : Int32} (z : Int32) (ht : 0 ≤ n.toInt ∧ n.toInt ≤ 400) : (0 ≤ (plc rg n z 2).toInt ∧ (plc rg n z 2).toInt ≤ 599400) ∧ (-9999999 ≤ (plc rg n z 4).toInt ∧ (plc rg n z 4).toInt ≤ 9999999) ∧ (n = 0 → plc rg n z 2 = 0) := by
  obtain ⟨K, f, r2, e2, k2, s2, rc⟩ := runs_full (mrig_of rg) ho zf z 0 1 ht (Or.inr rfl) (M := 600) (by decide)
  have e2 : F_X10_runs (mmOf rg) (btOf rg) zf n z (600 : Int32) (0 : Int32) (1 : Int32) = _ := e2
  have ep : plc rg n z = r2 := by unfold plc; rw [e2]
  have hk := k2.1
  have fr := fair_UU (mrig_of rg) ho z 0 n (Or.inr rfl) (st0_fair ht) K (by omega)
  have sd := side_UU (mm := mmOf rg) (bt := btOf rg) z 0 n K
  rw [ep, s2 2 (by decide), s2 4 (by decide)]
  refine ⟨⟨fr.2.2.1.1, ?_⟩, sd, ?_⟩
  · have := fr.2.2.1.2
    omega
  · intro hn
    rcases Nat.eq_zero_or_pos K with q | q
    · rw [q]; rfl
    · exact absurd (show over (UU (mmOf rg) (btOf rg) z 0 n (st0 n) 0) from ⟨by show (100 : Int32) * n = 0; rw [hn]; rfl, rfl⟩) (k2.2.2 0 q)
end PLC
theorem i2l_sub {a b : Int32} (h : -2147483648 ≤ a.toInt - b.toInt ∧ a.toInt - b.toInt < 2147483648) : Int32.toInt64 (a - b) = Int32.toInt64 a - Int32.toInt64 b := by
  apply Int64.toInt_inj.mp
  rw [Int32.toInt_toInt64, i_sub h.1 h.2, Int64.toInt_sub, Int32.toInt_toInt64, Int32.toInt_toInt64]
  exact (Int.bmod_eq_of_le (by omega) (by omega)).symm
theorem l4 (w l v f : Int64) : (w + v) - (l + f) = (w - l) + (v - f) := by grind
theorem turns_bd {k : Nat} (hk : k ≤ 400) : 0 ≤ ((100 : Int32) * nI k).toInt ∧ ((100 : Int32) * nI k).toInt ≤ 40000 := by
  rw [show (100 : Int32) = nI 100 from rfl, pk_mul, nI_toInt (by omega)]
  omega
theorem lost_loop {la bt : Nat → Int32} (h : RRig la bt) (b0 mm : Nat → Int32) {N : Nat} (hN : N ≤ 400) : ∀ (j k : Nat) (w l : Int64), j + k = N + 1 → 1 ≤ k → ∃ (x y : Int32) (w' l' : Int64), F_X9_lost_l28 (F_X0_fit b0 la) (nI N) j (nI k) l w = (x, l', w') ∧ F_X10_lost_l37 mm bt (nI N) (la 2) (la 3) (la 4) (la 6) (la 7) (la 8) (la 13) j (nI k) w (w - l) = (y, w', w' - l') := by
  intro j
  induction j with
  | zero => intro k w l hk h1; exact ⟨_, _, _, _, rfl, rfl⟩
  | succ j ih =>
    intro k w l hk h1
    have g : ¬ nI N < nI k := nI_nlt (by omega) (by omega)
    have hT := turns_bd (k := k) (by omega)
    have hw := wound_bd (b := b0) h.1 hT
    have hl := loosed_bd (b := b0) h.1 hT
    have e1 : F_X9_lost_b28 (F_X0_fit b0 la) (nI N) (nI k) l w = Sum.inl (nI (k + 1), l + Int32.toInt64 (F_X0_loosed (F_X0_fit b0 la) ((100 : Int32) * nI k)), w + Int32.toInt64 (F_X0_wound (F_X0_fit b0 la) ((100 : Int32) * nI k))) := by
      unfold F_X9_lost_b28 F_X9_lost_k49 F_X9_lost_k66
      rw [if_neg g, nI_1]
    have e2 : F_X10_lost_b37 mm bt (nI N) (la 2) (la 3) (la 4) (la 6) (la 7) (la 8) (la 13) (nI k) w (w - l) = Sum.inl (nI (k + 1), w + Int32.toInt64 (F_X0_wound (F_X0_fit b0 la) ((100 : Int32) * nI k)), (w + Int32.toInt64 (F_X0_wound (F_X0_fit b0 la) ((100 : Int32) * nI k))) - (l + Int32.toInt64 (F_X0_loosed (F_X0_fit b0 la) ((100 : Int32) * nI k)))) := by
      unfold F_X10_lost_b37 F_X10_lost_k52 F_X10_lost_k60 F_X10_lost_k77
      have w1 := wound_eq (b := b0) (mrigA mm h) h.1.nz ((100 : Int32) * nI k)
      have w2 := loosed_eq (b := b0) (mrigA mm h) h.1.nz ((100 : Int32) * nI k)
      unfold mmA at w1 w2
      rw [if_neg g, nI_1, ← w1, ← w2, i2l_sub (by omega), l4]
    rw [F_X9_lost_l28, F_X10_lost_l37, e1, e2]
    exact ih (k + 1) _ _ (by omega) (by omega)
theorem a_lost {la bt : Nat → Int32} (h : RRig la bt) (b0 mm : Nat → Int32) (n what : Int32) : F_X9_lost (F_X0_fit b0 la) n what = (F_X10_lost mm bt n what).1 := by
  unfold F_X9_lost F_X10_lost
  rw [arT_eq, in_eq]
  by_cases c1 : F_X9_isTurns n = 0
  · rw [if_pos c1, if_pos c1]
  rw [if_neg c1, if_neg c1]
  by_cases c2 : F_X9_within what (0 : Int32) (1 : Int32) = 0
  · rw [if_pos c2, if_pos c2]
  rw [if_neg c2, if_neg c2, asIt h]
  have ht := isT c1
  obtain ⟨N, hN, rfl⟩ : ∃ N : Nat, N ≤ 400 ∧ n = nI N := nI_of2 (M := 400) rfl (by rw [Int32.lt_iff_toInt_lt, i_z]; omega) (by rw [Int32.le_iff_toInt_le]; exact ht.2)
  have eN : (Int32.toInt (nI N)).toNat = N := by rw [nI_toInt (by omega)]; omega
  obtain ⟨x, y, w', l', e1, e2⟩ := lost_loop h b0 mm hN N 1 0 0 (by omega) (by decide)
  have e1 : F_X9_lost_l28 (F_X0_fit b0 la) (nI N) N (1 : Int32) (0 : Int64) (0 : Int64) = _ := e1
  have e2 : F_X10_lost_l37 mm bt (nI N) (la 2) (la 3) (la 4) (la 6) (la 7) (la 8) (la 13) N (1 : Int32) (0 : Int64) (0 : Int64) = _ := e2
  rw [eN, e1]
  show _ = (F_X10_lost_k26 mm bt (nI N) what (la 2) (la 3) (la 4) (la 6) (la 7) (la 8) (la 13)).1
  unfold F_X10_lost_k26
  rw [eN, e2]
  show F_X9_lost_x28 what l' w' = (F_X10_lost_x37 what (la 2) (la 3) (la 4) (la 6) (la 7) (la 8) (la 13) w' (w' - l')).1
  unfold F_X9_lost_x28 F_X10_lost_x37
  by_cases d : what = 0
  · rw [if_pos d, if_pos d]
  · rw [if_neg d, if_neg d]
