/-! the rig and the reference's boat; answers of pull, run, when, two, snap, lost -/
def RRig (la bt : Nat → Int32) : Prop := RigOK la ∧ la 1 = 1 ∧ la 0 = bt 28 ∧ ∃ q : Nat, q ≤ 3 ∧ bt 16 = nI q ∧ la 2 = bt (4 * q) ∧ la 3 = bt (4 * q + 1) ∧ la 4 = bt (4 * q + 2) ∧ la 5 = bt (4 * q + 3) ∧ la 6 = bt 17 ∧ la 7 = bt 18 ∧ la 8 = bt 19 ∧ la 9 = bt 20 ∧ la 10 = bt 21 ∧ la 11 = bt 22 ∧ la 12 = bt 23 ∧ la 13 = bt 24 ∧ la 14 = bt 25 ∧ la 15 = bt 26 ∧ la 16 = bt 27
theorem q4 {q : Nat} (hq : q ≤ 3) (j : Nat) (hj : j ≤ 3) : Int32.toNatClampNeg ((4 : Int32) * nI q + nI j) = 4 * q + j := by
  rw [show (4 : Int32) = nI 4 from rfl, pk_mul, nI_add, nI_clamp (by omega)]
theorem q40 {q : Nat} (hq : q ≤ 3) : Int32.toNatClampNeg ((4 : Int32) * nI q) = 4 * q := by
  rw [show (4 : Int32) = nI 4 from rfl, pk_mul, nI_clamp (by omega)]
theorem asIt {la bt : Nat → Int32} (h : RRig la bt) : F_X10_asItIs bt = (la 2, la 3, la 4, la 6, la 7, la 8, la 13) := by
  obtain ⟨-, -, -, q, hq, e16, e2, e3, e4, e5, e6, e7, e8, e9, e10, e11, e12, e13, -⟩ := h
  show (bt (Int32.toNatClampNeg ((4 : Int32) * (bt 16))), bt (Int32.toNatClampNeg (((4 : Int32) * (bt 16)) + (1 : Int32))), bt (Int32.toNatClampNeg (((4 : Int32) * (bt 16)) + (2 : Int32))), bt 17, bt 18, bt 19, bt 24) = _
  rw [e16, q40 hq, show (1 : Int32) = nI 1 from rfl, show (2 : Int32) = nI 2 from rfl, q4 hq 1 (by decide), q4 hq 2 (by decide), ← e2, ← e3, ← e4, ← e6, ← e7, ← e8, ← e13]
/-- the reference's numbers, as they are laid -/
def mmA (mm la : Nat → Int32) : Nat → Int32 := upd (upd (upd (upd (upd (upd (upd (upd mm 0 (0 : Int32)) 6 (la 2)) 7 (la 3)) 8 (la 4)) 9 (la 6)) 10 (la 7)) 11 (la 8)) 12 (la 13)
theorem mrigA {la bt : Nat → Int32} (mm : Nat → Int32) (h : RRig la bt) : MRig la (mmA mm la) bt := by
  obtain ⟨-, -, -, q, hq, e16, e2, e3, e4, e5, e6, e7, e8, e9, e10, e11, e12, e13, e14, e15, e16'⟩ := h
  exact ⟨rfl, rfl, rfl, rfl, rfl, rfl, rfl, e9, e10, e11, e12, e14, e15, e16'⟩
theorem RRig.ok {la bt : Nat → Int32} (h : RRig la bt) : btOK bt := by
  obtain ⟨ho, -, -, q, hq, e16, e2, e3, e4, e5, e6, e7, e8, e9, e10, e11, e12, e13, e14, e15, e16'⟩ := h
  have z := ho.nz
  refine ⟨?_, ?_, ?_, ?_, ?_, ?_⟩
  · rw [e16, nI_toInt (by omega)]; omega
  · rw [← e6]; exact z.1
  · rw [← e7]; exact z.2.1
  · rw [← e8]; exact z.2.2.2.1
  · rw [← e10]; exact z.2.2.1
  · rw [← e16']; exact z.2.2.2.2
theorem in_eq (v lo hi : Int32) : F_X10_in v lo hi = F_X9_within v lo hi := rfl
theorem arT_eq (n : Int32) : F_X10_areTurns n = F_X9_isTurns n := rfl
theorem a_pull {la bt : Nat → Int32} (h : RRig la bt) (b0 mm : Nat → Int32) (parts down : Int32) : F_X9_pull (F_X0_fit b0 la) parts down = (F_X10_pull mm bt parts down).1 := by
  unfold F_X9_pull F_X10_pull
  rw [in_eq]
  by_cases c : F_X9_within parts (0 : Int32) (40000 : Int32) = 0
  · rw [if_pos c, if_pos c]
  · rw [if_neg c, if_neg c, asIt h]
    show _ = (F_X10_pull_k18 mm bt parts down (la 2) (la 3) (la 4) (la 6) (la 7) (la 8) (la 13)).1
    unfold F_X10_pull_k18
    by_cases d : down = 0
    · rw [if_pos d, if_pos d]; exact wound_eq (mrigA mm h) h.1.nz parts
    · rw [if_neg d, if_neg d]; exact loosed_eq (mrigA mm h) h.1.nz parts
theorem a_snapOf {la bt : Nat → Int32} (h : RRig la bt) (n : Int32) : F_X9_snapOf la n = F_X10_snapOf bt n := by
  have z := h.1.nz
  obtain ⟨ho, -, -, q, hq, e16, e2, e3, e4, e5, e6, e7, e8, e9, e10, e11, e12, e13, e14, e15, e16'⟩ := h
  unfold F_X9_snapOf F_X9_snapOf_k28 F_X9_snapOf_k33 F_X10_snapOf F_X10_snapOf_k35 F_X10_snapOf_k65
  rw [cut_nz z.1, e16, show (3 : Int32) = nI 3 from rfl, q4 hq 3 (by decide), ← e5, ← e7, ← e6, ← e15, mmin_eq]
theorem a_snap {la bt : Nat → Int32} (h : RRig la bt) (n : Int32) : F_X9_snap la n = (F_X10_snap bt n).1 := by
  unfold F_X9_snap F_X10_snap
  rw [arT_eq, a_snapOf h]
  by_cases c : F_X9_isTurns n = 0
  · rw [if_pos c, if_pos c]
  · rw [if_neg c, if_neg c]
/-- both runs of a laid rig -/
theorem runs_both {la mm bt : Nat → Int32} (h : MRig la mm bt) (ho : RigOK la) (tl tlm tlb tlp rn : Nat → Int32) {n : Int32} (z tw way : Int32) (ht : 0 ≤ n.toInt ∧ n.toInt ≤ 400) (hn : 1 ≤ n.toInt ∨ tw = 0) (M : Nat) (hM : M ≤ 1200) :
    ∃ (K : Nat) (top em f : Int32) (mo path r2 : Nat → Int32), F_X8_make tl tlm tlb tlp la n z (nI M) tw = (nI K, top, em, mo, F_X0_fit tlb la, path) ∧ F_X10_runs mm bt rn n z (nI M) tw way = (nI K, top, em, f, r2) ∧ K ≤ M ∧ Sim mo r2 ∧ Rch (fun j => (UU mm bt z tw n (st0 n) j).1 2) way K f ∧ (∀ j : Nat, 1 ≤ j → j ≤ K → j ≤ 600 → path j = (UU mm bt z tw n (st0 n) j).1 2) := by
  obtain ⟨K, mo, path, e1, k1, s1, p1⟩ := make_full h ho tl tlm tlb tlp z tw ht hn hM
  obtain ⟨K', f, r2, e2, k2, s2, rc⟩ := runs_full h ho rn z tw way ht hn hM
  have e := k1.eq k2
  subst e
  exact ⟨K, _, _, f, mo, path, r2, e1, e2, k1.1, s1.trans s2.symm, rc, p1⟩
theorem a_run {la bt : Nat → Int32} (h : RRig la bt) (mm tl tlm tlb tlp rn : Nat → Int32) (n z what : Int32) : (F_X9_run la tl tlm tlb tlp n z what).1 = (F_X10_run mm bt rn n z what).1 := by
  unfold F_X9_run F_X10_run
  rw [arT_eq, show F_X10_isWind z = F_X9_within z (-1 : Int32) (9999 : Int32) from rfl, in_eq]
  by_cases c1 : F_X9_isTurns n = 0
  · rw [if_pos c1, if_pos c1]
  rw [if_neg c1, if_neg c1]
  by_cases c2 : F_X9_within z (-1 : Int32) (9999 : Int32) = 0
  · rw [if_pos c2, if_pos c2]
  rw [if_neg c2, if_neg c2]
  by_cases c3 : F_X9_within what (0 : Int32) (4 : Int32) = 0
  · rw [if_pos c3, if_pos c3]
  rw [if_neg c3, if_neg c3, asIt h]
  obtain ⟨K, top, em, f, mo, path, r2, e1, e2, hK, hs, -, -⟩ := runs_both (mrigA mm h) h.1 tl tlm tlb tlp rn z 0 1 (isT c1) (Or.inr rfl) 600 (by decide)
  have e1 : F_X8_make tl tlm tlb tlp la n z (600 : Int32) 0 = _ := e1
  have e2 : F_X10_runs (mmA mm la) bt rn n z (600 : Int32) 0 1 = _ := e2
  rw [e1]
  show (F_X9_run_k43 what (nI K) top em mo (F_X0_fit tlb la) path).1 = (F_X10_run_k31 mm bt rn n z what (la 2) (la 3) (la 4) (la 6) (la 7) (la 8) (la 13)).1
  unfold F_X10_run_k31
  have e2' : F_X10_runs (upd (upd (upd (upd (upd (upd (upd (upd mm 0 (0 : Int32)) 6 (la 2)) 7 (la 3)) 8 (la 4)) 9 (la 6)) 10 (la 7)) 11 (la 8)) 12 (la 13)) bt rn n z (600 : Int32) (0 : Int32) (1 : Int32) = _ := e2
  rw [e2']
  show _ = (F_X10_run_k42 what (la 2) (la 3) (la 4) (la 6) (la 7) (la 8) (la 13) (nI K) top em f r2).1
  unfold F_X9_run_k43 F_X10_run_k42
  by_cases d0 : what = 0
  · rw [if_pos d0, if_pos d0]
  rw [if_neg d0, if_neg d0]
  by_cases d1 : what = 1
  · rw [if_pos d1, if_pos d1]; exact hs 2 (by decide)
  rw [if_neg d1, if_neg d1]
  by_cases d2 : what = 2
  · rw [if_pos d2, if_pos d2]
  rw [if_neg d2, if_neg d2]
  by_cases d3 : what = 3
  · rw [if_pos d3, if_pos d3]; show mo 4 + _ = r2 4 + _; rw [hs 4 (by decide)]
  rw [if_neg d3, if_neg d3]
theorem a_two {la bt : Nat → Int32} (h : RRig la bt) (mm tl tlm tlb tlp rn : Nat → Int32) (n : Int32) : (F_X9_two la tl tlm tlb tlp n).1 = (F_X10_two mm bt rn n).1 := by
  unfold F_X9_two F_X10_two
  rw [in_eq]
  by_cases c1 : F_X9_within n (1 : Int32) (400 : Int32) = 0
  · rw [if_pos c1, if_pos c1]
  rw [if_neg c1, if_neg c1, asIt h]
  have hw := w_lo c1 (a := 1) (b := 400) rfl rfl
  obtain ⟨K, top, em, f, mo, path, r2, e1, e2, hK, hs, -, -⟩ := runs_both (mrigA mm h) h.1 tl tlm tlb tlp rn (-1) 1 1 ⟨by omega, hw.2⟩ (Or.inl hw.1) 1200 (by decide)
  have e1 : F_X8_make tl tlm tlb tlp la n (-1 : Int32) (1200 : Int32) 1 = _ := e1
  have e2' : F_X10_runs (upd (upd (upd (upd (upd (upd (upd (upd mm 0 (0 : Int32)) 6 (la 2)) 7 (la 3)) 8 (la 4)) 9 (la 6)) 10 (la 7)) 11 (la 8)) 12 (la 13)) bt rn n (-1 : Int32) (1200 : Int32) (1 : Int32) (1 : Int32) = _ := e2
  rw [e1]
  show mo 2 = (F_X10_two_k19 mm bt rn n (la 2) (la 3) (la 4) (la 6) (la 7) (la 8) (la 13)).1
  unfold F_X10_two_k19
  rw [e2']
  exact hs 2 (by decide)
theorem firstAt_eq {tl path seq : Nat → Int32} {d f : Int32} {K : Nat} (hK : K ≤ 600) (h3 : tl 3 = nI K) (hp : ∀ j : Nat, 1 ≤ j → j ≤ K → path j = seq j) (hr : Rch seq d K f) : ∀ (n i : Nat), n + i = 601 → 1 ≤ i → (∀ j : Nat, 1 ≤ j → j < i → j ≤ K → seq j < d) → F_X8_firstAt_l2 tl path d n (nI i) = f := by
  have none : (∀ j : Nat, 1 ≤ j → j ≤ K → seq j < d) → f = (-4 : Int32) := by
    intro ha
    rcases hr with ⟨e, -⟩ | ⟨r, r1, r2, r3, r4, -⟩
    · exact e
    · exact absurd (ha r r1 r2) r4
  intro n
  induction n with
  | zero =>
    intro i hi h1 ha
    exact (none (fun j a b => ha j a (by omega) b)).symm
  | succ n ih =>
    intro i hi h1 ha
    rw [F_X8_firstAt_l2]
    unfold F_X8_firstAt_b2
    by_cases c : tl 3 < nI i
    · rw [if_pos c]
      rw [h3, nI_ltI (by omega) (by omega)] at c
      exact (none (fun j a b => ha j a (by omega) b)).symm
    · rw [if_neg c]
      rw [h3, nI_ltI (by omega) (by omega)] at c
      have g : ¬ (601 : Int32) ≤ nI i := nI_ge (a := i) (b := 601) (by omega) (by omega)
      rw [if_neg g, nI_clamp (by omega), hp i h1 (by omega)]
      by_cases q : seq i < d
      · rw [if_pos q, nI_1]
        exact ih (i + 1) (by omega) (by omega) (fun j a b x => by
          by_cases e : j = i
          · rw [e]; exact q
          · exact ha j a (by omega) x)
      · rw [if_neg q]
        show nI i = f
        rcases hr with ⟨e, ha2⟩ | ⟨r, r1, r2, r3, r4, r5⟩
        · exact absurd (ha2 i h1 (by omega)) q
        · rcases Nat.lt_trichotomy i r with w | w | w
          · exact absurd (r5 i h1 w) q
          · rw [r3, w]
          · exact absurd (ha r r1 w (by omega)) r4
theorem a_when {la bt : Nat → Int32} (h : RRig la bt) (mm tl tlm tlb tlp rn : Nat → Int32) (n z d : Int32) : (F_X9_when la tl tlm tlb tlp n z d).1 = (F_X10_when mm bt rn n z d).1 := by
  unfold F_X9_when F_X10_when
  rw [arT_eq, show F_X10_isWind z = F_X9_within z (-1 : Int32) (9999 : Int32) from rfl, in_eq]
  by_cases c1 : F_X9_isTurns n = 0
  · rw [if_pos c1, if_pos c1]
  rw [if_neg c1, if_neg c1]
  by_cases c2 : F_X9_within z (-1 : Int32) (9999 : Int32) = 0
  · rw [if_pos c2, if_pos c2]
  rw [if_neg c2, if_neg c2]
  by_cases c3 : F_X9_within d (1 : Int32) (99999 : Int32) = 0
  · rw [if_pos c3, if_pos c3]
  rw [if_neg c3, if_neg c3, asIt h]
  obtain ⟨K, top, em, f, mo, path, r2, e1, e2, hK, hs, hr, hp⟩ := runs_both (mrigA mm h) h.1 tl tlm tlb tlp rn z 0 d (isT c1) (Or.inr rfl) 600 (by decide)
  have e1 : F_X8_make tl tlm tlb tlp la n z (600 : Int32) 0 = _ := e1
  have e2' : F_X10_runs (upd (upd (upd (upd (upd (upd (upd (upd mm 0 (0 : Int32)) 6 (la 2)) 7 (la 3)) 8 (la 4)) 9 (la 6)) 10 (la 7)) 11 (la 8)) 12 (la 13)) bt rn n z (600 : Int32) (0 : Int32) d = _ := e2
  rw [e1]
  show F_X8_firstAt (upd (upd (upd tl 3 (nI K)) 4 top) 5 em) path d = (F_X10_when_k32 mm bt rn n z d (la 2) (la 3) (la 4) (la 6) (la 7) (la 8) (la 13)).1
  unfold F_X10_when_k32
  rw [e2']
  show F_X8_firstAt_l2 _ path d 600 (nI 1) = f
  exact firstAt_eq hK rfl (fun j a b => hp j a b (by omega)) hr 600 1 rfl (by decide) (fun j a b => by omega)
