/-! the class's run follows the sequence -/
section MAKE
variable (tl rg mm bt tb : Nat → Int32) (z twice turns y0 : Int32) (s0 : (Nat → Int32) × Int32)
def TOPP : Nat → Int32
  | 0 => 0
  | k + 1 => mmax (TOPP k) (F_X10_tenth mm bt (UU mm bt z twice turns s0 k).1 z 1)
/-- what the class holds behind k tenths -/
def CInv (k : Nat) (t3 t4 t5 : Int32) (mo path : Nat → Int32) : Prop :=
  t3 = nI k ∧ t4 = TOPP mm bt z twice turns s0 k ∧ t5 = (UU mm bt z twice turns s0 k).2 ∧ Sim mo (UU mm bt z twice turns s0 k).1 ∧ (¬ mo 6 = 0 → ¬ y0 = 0 → spinOf (F_X0_fit tb rg) mo = 0 ∧ paceC rg (mo 1) = mo 1) ∧ (∀ j : Nat, 1 ≤ j → j ≤ k → j ≤ 600 → path j = (UU mm bt z twice turns s0 j).1 2)
theorem note_eq (tl' mo path : Nat → Int32) (i : Int32) : F_X8_note tl' mo path i = (i, mmax (tl' 4) (mo 1), (if mo 0 = 0 ∧ tl' 5 = (-4 : Int32) then i else tl' 5), (if (601 : Int32) ≤ i then path else upd path (Int32.toNatClampNeg i) (mo 2))) := by
  unfold F_X8_note F_X8_note_k20 F_X8_note_j45
  by_cases h1 : (601 : Int32) ≤ i <;> by_cases h2 : mo 0 = 0 <;> by_cases h3 : tl' 5 = (-4 : Int32) <;> simp [h1, h2, h3]
theorem make_j128 (i t3 t4 t5 : Int32) (path mo : Nat → Int32) : F_X8_make_j128 tl turns twice i t3 t4 t5 path mo = Sum.inl (i + (1 : Int32), i, mmax t4 (mo 1), (if mo 0 = 0 ∧ t5 = (-4 : Int32) then i else t5), upd mo 0 (if ¬ twice = 0 ∧ (if mo 0 = 0 ∧ t5 = (-4 : Int32) then i else t5) = i then (100 : Int32) * turns else mo 0), (if (601 : Int32) ≤ i then path else upd path (Int32.toNatClampNeg i) (mo 2))) := by
  have hn := note_eq (upd (upd (upd tl 3 t3) 4 t4) 5 t5) mo path i
  rw [show (upd (upd (upd tl 3 t3) 4 t4) 5 t5) 4 = t4 from rfl, show (upd (upd (upd tl 3 t3) 4 t4) 5 t5) 5 = t5 from rfl] at hn
  unfold F_X8_make_j128
  rw [hn]
  generalize (if mo 0 = 0 ∧ t5 = (-4 : Int32) then i else t5) = w
  generalize (if (601 : Int32) ≤ i then path else upd path (Int32.toNatClampNeg i) (mo 2)) = g
  show F_X8_make_k131 turns twice i mo i (mmax t4 (mo 1)) w g = _
  generalize mmax t4 (mo 1) = v
  unfold F_X8_make_k131 F_X8_make_k156 F_X8_make_j159
  by_cases h1 : twice = 0
  · rw [if_pos h1, if_neg (fun q => q.1 h1)]
  · rw [if_neg h1]
    by_cases h2 : w = i
    · rw [if_pos h2, if_pos ⟨h1, h2⟩]
    · rw [if_neg h2, if_neg (fun q => h2 q.2)]
variable {rg mm bt z y0}
/-- the motion behind a tenth of the class, by the step or by the shortcut -/
theorem make_move (h : MRig rg mm bt) (ho : RigOK rg) (hy : ¬ y0 = 0 → Calm rg z) {most i t3 t4 t5 : Int32} {mo path : Nat → Int32} (hg : ¬ most < i) (hov : F_X4_isOver mo = 0) (hp : 0 ≤ (mo 1).toInt ∧ (mo 1).toInt ≤ 999) (hst : ¬ mo 6 = 0 → ¬ y0 = 0 → spinOf (F_X0_fit tb rg) mo = 0 ∧ paceC rg (mo 1) = mo 1) :
    ∃ m1 : Nat → Int32, F_X8_make_b71 tl rg turns z most twice (F_X0_fit tb rg) y0 i t3 t4 t5 mo path = F_X8_make_j128 tl turns twice i t3 t4 t5 path m1 ∧ Sim m1 (F_X10_tenth mm bt mo z) ∧ (¬ m1 6 = 0 → m1 0 = mo 0) ∧ (¬ m1 6 = 0 → ¬ y0 = 0 → spinOf (F_X0_fit tb rg) m1 = 0 ∧ paceC rg (m1 1) = m1 1) := by
  have stepCase : Sim (F_X4_step mo rg (F_X0_fit tb rg) z) (F_X10_tenth mm bt mo z) ∧ (¬ (F_X4_step mo rg (F_X0_fit tb rg) z) 6 = 0 → (F_X4_step mo rg (F_X0_fit tb rg) z) 0 = mo 0) ∧ (¬ (F_X4_step mo rg (F_X0_fit tb rg) z) 6 = 0 → ¬ y0 = 0 → spinOf (F_X0_fit tb rg) (F_X4_step mo rg (F_X0_fit tb rg) z) = 0 ∧ paceC rg ((F_X4_step mo rg (F_X0_fit tb rg) z) 1) = (F_X4_step mo rg (F_X0_fit tb rg) z) 1) := by
    have key : ¬ (F_X4_step mo rg (F_X0_fit tb rg) z) 6 = 0 → spinOf (F_X0_fit tb rg) mo = 0 ∧ paceOf rg mo z (pushOf rg mo (spinOf (F_X0_fit tb rg) mo)) = mo 1 := fun q => steady_ne (by rw [step_6] at q; exact q)
    have k0 : ¬ (F_X4_step mo rg (F_X0_fit tb rg) z) 6 = 0 → (F_X4_step mo rg (F_X0_fit tb rg) z) 0 = mo 0 := fun q => by rw [step_0, (key q).1, Int32.sub_zero]
    refine ⟨sim_step h ho.nz (Sim.rfl' mo) z, k0, fun q hy0 => ?_⟩
    obtain ⟨q1, q2⟩ := key q
    rw [spin_congr (k0 q)]
    have e1 : (F_X4_step mo rg (F_X0_fit tb rg) z) 1 = mo 1 := by rw [step_1]; exact q2
    rw [q1, push_0 hp, pace_calm (hy hy0)] at q2
    rw [e1]
    exact ⟨q1, q2⟩
  unfold F_X8_make_b71
  rw [if_neg hg, if_pos hov]
  by_cases hy0 : y0 = 0
  · rw [if_pos hy0]
    exact ⟨_, rfl, stepCase⟩
  · rw [if_neg hy0]
    by_cases h6 : mo 6 = 0
    · rw [if_pos h6]
      exact ⟨_, rfl, stepCase⟩
    · rw [if_neg h6]
      obtain ⟨q1, q2⟩ := hst h6 hy0
      refine ⟨upd (upd (upd (upd mo 2 (mo 2 + mo 1)) 3 (turnOf rg mo (mo 1) 0)) 4 (sideOf mo (mo 1) (turnOf rg mo (mo 1) 0))) 5 (mo 5 + (1 : Int32)), rfl, ?_, fun _ => rfl, fun _ _ => ⟨?_, q2⟩⟩
      · exact (drift_step (hy hy0) hp q1 q2).trans stepCase.1
      · exact (spin_congr (b := F_X0_fit tb rg) (mo := mo) rfl).trans q1
variable (rg mm bt z y0)
theorem make_body (h : MRig rg mm bt) (ho : RigOK rg) (hy : ¬ y0 = 0 → Calm rg z) {most : Int32} {k : Nat} (hk : k < 2000) (hg : ¬ most < nI (k + 1)) {t3 t4 t5 : Int32} {mo path : Nat → Int32} (hf : Fair k (UU mm bt z twice turns s0 k)) (hc : CInv rg mm bt tb z twice turns y0 s0 k t3 t4 t5 mo path) (hov : ¬ over (UU mm bt z twice turns s0 k)) :
    ∃ (a3 a4 a5 : Int32) (m2 p2 : Nat → Int32), F_X8_make_b71 tl rg turns z most twice (F_X0_fit tb rg) y0 (nI (k + 1)) t3 t4 t5 mo path = Sum.inl (nI (k + 2), a3, a4, a5, m2, p2) ∧ CInv rg mm bt tb z twice turns y0 s0 (k + 1) a3 a4 a5 m2 p2 := by
  obtain ⟨f0, f1, f2, f5, fu, fp⟩ := hf
  obtain ⟨c3, c4, c5, cs, cst, cp⟩ := hc
  have s0' := cs 0 (by decide)
  have s1' := cs 1 (by decide)
  have hisO : F_X4_isOver mo = 0 := by
    unfold F_X4_isOver
    by_cases q0 : mo 0 = 0
    · rw [if_pos q0]
      by_cases q1 : mo 1 = 0
      · exact absurd ⟨s0'.symm.trans q0, s1'.symm.trans q1⟩ hov
      · rw [if_neg q1]
    · rw [if_neg q0]
  obtain ⟨m1, e1, hs1, hk0, hst1⟩ := make_move tl tb twice turns (i := nI (k + 1)) (t3 := t3) (t4 := t4) (t5 := t5) (path := path) h ho hy hg hisO (by rw [s1']; exact f1) cst
  have hsT := hs1.trans (tenth_congr (mm := mm) (bt := bt) z cs)
  rw [make_j128] at e1
  refine ⟨_, _, _, _, _, by rw [e1, nI_1], rfl, ?_, ?_, ?_, ?_, ?_⟩
  · show mmax t4 (m1 1) = mmax (TOPP mm bt z twice turns s0 k) _
    rw [c4, hsT 1 (by decide)]
  · show (if m1 0 = 0 ∧ t5 = (-4 : Int32) then nI (k + 1) else t5) = (tnx mm bt z twice turns (UU mm bt z twice turns s0 k)).2
    unfold tnx
    have t5e := (tenth_fair h ho z (show k < 100000 by omega) f0 f2 f5).2.2.2
    by_cases q : m1 0 = 0 ∧ t5 = (-4 : Int32)
    · rw [if_pos q, if_pos ⟨c5.symm.trans q.2, (hsT 0 (by decide)).symm.trans q.1⟩]
      exact t5e.symm
    · rw [if_neg q, if_neg (fun w => q ⟨(hsT 0 (by decide)).trans w.2, c5.trans w.1⟩)]
      exact c5
  · show Sim (upd m1 0 (if ¬ twice = 0 ∧ (if m1 0 = 0 ∧ t5 = (-4 : Int32) then nI (k + 1) else t5) = nI (k + 1) then (100 : Int32) * turns else m1 0)) (tnx mm bt z twice turns (UU mm bt z twice turns s0 k)).1
    unfold tnx
    by_cases q : m1 0 = 0 ∧ t5 = (-4 : Int32)
    · rw [if_pos q, if_pos (⟨c5.symm.trans q.2, (hsT 0 (by decide)).symm.trans q.1⟩ : (UU mm bt z twice turns s0 k).2 = (-4 : Int32) ∧ F_X10_tenth mm bt (UU mm bt z twice turns s0 k).1 z 0 = 0)]
      refine hsT.upd0 ?_
      by_cases w : twice = 0
      · rw [if_neg (fun x => x.1 w), if_pos w]; exact q.1
      · rw [if_pos ⟨w, rfl⟩, if_neg w]
    · have ne : ¬ t5 = nI (k + 1) := by
        intro x
        rw [c5] at x
        have := congrArg Int32.toInt x
        rw [nI_toInt (by omega)] at this
        omega
      rw [if_neg q, if_neg (fun x => ne x.2), if_neg (fun w => q ⟨(hsT 0 (by decide)).trans w.2, c5.trans w.1⟩)]
      exact hsT.upd0s
  · intro h6 hy0
    have h6 : ¬ m1 6 = 0 := h6
    have hne : ¬ (m1 0 = 0 ∧ t5 = (-4 : Int32)) := by
      intro q
      have e := hk0 h6
      rw [q.1, s0'] at e
      have := fp (c5.symm.trans q.2)
      rw [← e, i_z] at this
      omega
    have ne : ¬ t5 = nI (k + 1) := by
      intro x
      rw [c5] at x
      have := congrArg Int32.toInt x
      rw [nI_toInt (by omega)] at this
      omega
    obtain ⟨w1, w2⟩ := hst1 h6 hy0
    refine ⟨?_, w2⟩
    rw [if_neg hne, if_neg (fun x => ne x.2)]
    exact (spin_congr (mo := m1) rfl).trans w1
  · intro j h1 h2 h3
    by_cases hj : j = k + 1
    · subst hj
      have c601 : ¬ (601 : Int32) ≤ nI (k + 1) := by
        rw [Int32.le_iff_toInt_le, nI_toInt (by omega)]
        have : (601 : Int32).toInt = 601 := rfl
        omega
      rw [if_neg c601, nI_clamp (by omega)]
      show upd path (k + 1) (m1 2) (k + 1) = (tnx mm bt z twice turns (UU mm bt z twice turns s0 k)).1 2
      rw [pk_us, hsT 2 (by decide)]
      unfold tnx
      split <;> rfl
    · have old := cp j h1 (by omega) h3
      split
      · exact old
      · rw [nI_clamp (by omega), pk_un (by omega)]
        exact old
theorem make_loop (h : MRig rg mm bt) (ho : RigOK rg) (hy : ¬ y0 = 0 → Calm rg z) (hn : 1 ≤ turns.toInt ∧ turns.toInt ≤ 400 ∨ twice = 0) {M : Nat} (hM : M ≤ 1200) (h0 : Fair 0 s0) : ∀ (n k : Nat) (t3 t4 t5 : Int32) (mo path : Nat → Int32), n + k = M → CInv rg mm bt tb z twice turns y0 s0 k t3 t4 t5 mo path → (∀ j, j < k → ¬ over (UU mm bt z twice turns s0 j)) →
    ∃ (K : Nat) (i' a3 a4 a5 : Int32) (m2 p2 : Nat → Int32), F_X8_make_l71 tl rg turns z (nI M) twice (F_X0_fit tb rg) y0 n (nI (k + 1)) t3 t4 t5 mo path = (i', a3, a4, a5, m2, p2) ∧ K ≤ M ∧ (K = M ∨ over (UU mm bt z twice turns s0 K)) ∧ (∀ j, j < K → ¬ over (UU mm bt z twice turns s0 j)) ∧ CInv rg mm bt tb z twice turns y0 s0 K a3 a4 a5 m2 p2 := by
  intro n
  induction n with
  | zero =>
    intro k t3 t4 t5 mo path hk hc hno
    exact ⟨k, _, _, _, _, _, _, rfl, by omega, Or.inl (by omega), hno, hc⟩
  | succ n ih =>
    intro k t3 t4 t5 mo path hk hc hno
    have hf := fair_UU h ho z twice turns hn h0 k (by omega)
    have hg : ¬ nI M < nI (k + 1) := nI_nlt (by omega) (by omega)
    rw [F_X8_make_l71]
    by_cases hov : over (UU mm bt z twice turns s0 k)
    · have e : F_X8_make_b71 tl rg turns z (nI M) twice (F_X0_fit tb rg) y0 (nI (k + 1)) t3 t4 t5 mo path = Sum.inr (nI (k + 1), t3, t4, t5, mo, path) := by
        unfold F_X8_make_b71
        have s0' := hc.2.2.2.1 0 (by decide)
        have s1' := hc.2.2.2.1 1 (by decide)
        have e1 : F_X4_isOver mo = 1 := by unfold F_X4_isOver; rw [if_pos (s0'.trans hov.1), if_pos (s1'.trans hov.2)]
        rw [if_neg hg, e1, if_neg (by decide)]
      rw [e]
      exact ⟨k, _, _, _, _, _, _, rfl, by omega, Or.inr hov, hno, hc⟩
    · obtain ⟨a3, a4, a5, m2, p2, e, hc2⟩ := make_body tl rg mm bt tb z twice turns y0 s0 h ho hy (by omega) hg hf hc hov
      rw [e]
      exact ih (k + 1) a3 a4 a5 m2 p2 (by omega) hc2 (fun j hj => by
        rcases Nat.lt_or_ge j k with q | q
        · exact hno j q
        · rw [show j = k by omega]; exact hov)
end MAKE
