/-! whole runs -/
def RunTo (mm bt : Nat → Int32) (z again n : Int32) (M K : Nat) : Prop := K ≤ M ∧ (K = M ∨ over (UU mm bt z again n (st0 n) K)) ∧ ∀ j, j < K → ¬ over (UU mm bt z again n (st0 n) j)
theorem RunTo.eq {mm bt : Nat → Int32} {z again n : Int32} {M a b : Nat} (ha : RunTo mm bt z again n M a) (hb : RunTo mm bt z again n M b) : a = b := K_unique ha.1 ha.2.1 ha.2.2 hb.1 hb.2.1 hb.2.2
theorem make_full {rg mm bt : Nat → Int32} (h : MRig rg mm bt) (ho : RigOK rg) (tl tlm tlb tlp : Nat → Int32) {turns : Int32} (z twice : Int32) (ht : 0 ≤ turns.toInt ∧ turns.toInt ≤ 400) (hn : 1 ≤ turns.toInt ∨ twice = 0) {M : Nat} (hM : M ≤ 1200) :
    ∃ (K : Nat) (mo path : Nat → Int32), F_X8_make tl tlm tlb tlp rg turns z (nI M) twice = (nI K, TOPP mm bt z twice turns (st0 turns) K, (UU mm bt z twice turns (st0 turns) K).2, mo, F_X0_fit tlb rg, path) ∧ RunTo mm bt z twice turns M K ∧ Sim mo (UU mm bt z twice turns (st0 turns) K).1 ∧ (∀ j : Nat, 1 ≤ j → j ≤ K → j ≤ 600 → path j = (UU mm bt z twice turns (st0 turns) j).1 2) := by
  have hf := st0_fair ht
  have hn' : 1 ≤ turns.toInt ∧ turns.toInt ≤ 400 ∨ twice = 0 := by rcases hn with q | q; exact Or.inl ⟨q, ht.2⟩; exact Or.inr q
  have eM : (Int32.toInt (nI M)).toNat = M := by rw [nI_toInt (by omega)]; omega
  have key : ∀ y0 : Int32, (¬ y0 = 0 → Calm rg z) → ∃ (K : Nat) (mo path : Nat → Int32), F_X8_make_j66 tl tlp rg turns z (nI M) twice (F_X0_fit tlb rg) (F_X4_rest tlm) ((100 : Int32) * turns) (if turns = 0 then 0 else (-4 : Int32)) y0 = (nI K, TOPP mm bt z twice turns (st0 turns) K, (UU mm bt z twice turns (st0 turns) K).2, mo, F_X0_fit tlb rg, path) ∧ RunTo mm bt z twice turns M K ∧ Sim mo (UU mm bt z twice turns (st0 turns) K).1 ∧ (∀ j : Nat, 1 ≤ j → j ≤ K → j ≤ 600 → path j = (UU mm bt z twice turns (st0 turns) j).1 2) := by
    intro y0 hy
    have hc : CInv rg mm bt tlb z twice turns y0 (st0 turns) 0 0 0 (if turns = 0 then 0 else (-4 : Int32)) (upd (F_X4_rest tlm) 0 ((100 : Int32) * turns)) tlp := by
      refine ⟨rfl, rfl, rfl, ?_, fun q => absurd rfl q, fun j h1 h2 => by omega⟩
      intro j hj
      rcases (show j = 0 ∨ j = 1 ∨ j = 2 ∨ j = 3 ∨ j = 4 ∨ j = 5 by omega) with rfl | rfl | rfl | rfl | rfl | rfl <;> rfl
    obtain ⟨K, i', a3, a4, a5, m2, p2, e, k1, k2, k3, c3, c4, c5, cs, -, cp⟩ := make_loop tl rg mm bt tlb z twice turns y0 (st0 turns) h ho hy hn' hM hf M 0 0 0 _ _ tlp (by omega) hc (fun j hj => by omega)
    refine ⟨K, m2, p2, ?_, ⟨k1, k2, k3⟩, cs, cp⟩
    unfold F_X8_make_j66
    rw [eM]
    have e' : F_X8_make_l71 tl rg turns z (nI M) twice (F_X0_fit tlb rg) y0 M (1 : Int32) (0 : Int32) (0 : Int32) (if turns = 0 then 0 else (-4 : Int32)) (upd (F_X4_rest tlm) 0 ((100 : Int32) * turns)) tlp = (i', a3, a4, a5, m2, p2) := e
    rw [e', c3, c4, c5]
    rfl
  have e1 : F_X8_make tl tlm tlb tlp rg turns z (nI M) twice = F_X8_make_j47 tl tlp rg turns z (nI M) twice (F_X0_fit tlb rg) (F_X4_rest tlm) ((100 : Int32) * turns) (if turns = 0 then 0 else (-4 : Int32)) := by
    show F_X8_make_k23 tl tlp rg turns z (nI M) twice (F_X0_fit tlb rg) (F_X4_rest tlm) ((100 : Int32) * turns) = _
    unfold F_X8_make_k23
    by_cases q : turns = 0
    · rw [if_pos q, if_pos q]
    · rw [if_neg q, if_neg q]
  rw [e1]
  unfold F_X8_make_j47 F_X8_make_j61
  by_cases q1 : z < 0
  · rw [if_pos q1]; exact key 1 (fun _ => Or.inl q1)
  · rw [if_neg q1]
    by_cases q2 : rg 16 = 0
    · rw [if_pos q2]; exact key 1 (fun _ => Or.inr q2)
    · rw [if_neg q2]; exact key 0 (fun x => absurd rfl x)
theorem runs_full {rg mm bt : Nat → Int32} (h : MRig rg mm bt) (ho : RigOK rg) (rn : Nat → Int32) {n : Int32} (z again way : Int32) (ht : 0 ≤ n.toInt ∧ n.toInt ≤ 400) (hn : 1 ≤ n.toInt ∨ again = 0) {M : Nat} (hM : M ≤ 1200) :
    ∃ (K : Nat) (f : Int32) (r2 : Nat → Int32), F_X10_runs mm bt rn n z (nI M) again way = (nI K, TOPP mm bt z again n (st0 n) K, (UU mm bt z again n (st0 n) K).2, f, r2) ∧ RunTo mm bt z again n M K ∧ Sim r2 (UU mm bt z again n (st0 n) K).1 ∧ Rch (fun j => (UU mm bt z again n (st0 n) j).1 2) way K f := by
  have hf := st0_fair ht
  have hn' : 1 ≤ n.toInt ∧ n.toInt ≤ 400 ∨ again = 0 := by rcases hn with q | q; exact Or.inl ⟨q, ht.2⟩; exact Or.inr q
  have eM : (Int32.toInt (nI M)).toNat = M := by rw [nI_toInt (by omega)]; omega
  obtain ⟨x, g, e3, hz⟩ := zloop 6 0 rn rfl (zr_0 rn)
  have e3 : F_X10_runs_l3 6 (0 : Int32) rn = (x, g) := e3
  have hm : MInv mm bt z again n way (st0 n) 0 0 (-4 : Int32) (if n = 0 then 0 else (-4 : Int32)) (upd g 0 ((100 : Int32) * n)) := by
    refine ⟨rfl, rfl, ?_, Or.inl ⟨rfl, fun j h1 h2 => by omega⟩⟩
    intro j hj
    rcases (show j = 0 ∨ j = 1 ∨ j = 2 ∨ j = 3 ∨ j = 4 ∨ j = 5 by omega) with rfl | rfl | rfl | rfl | rfl | rfl
    · rfl
    all_goals exact hz _ (by decide)
  obtain ⟨K, a18, a20, a19, r2, e, k1, k2, k3, m18, m19, ms, mr⟩ := runs_loop z again n way (st0 n) h ho hn' hM hf M 0 _ _ _ _ (by omega) hm (fun i hi => by omega)
  have hfK := fair_UU h ho z again n hn' hf K (by omega)
  refine ⟨K, a20, r2, ?_, ⟨k1, k2, k3⟩, ms, mr⟩
  have e50 : F_X10_runs_j50 mm bt n z (nI M) again way g ((100 : Int32) * n) (if n = 0 then 0 else (-4 : Int32)) = (nI K, TOPP mm bt z again n (st0 n) K, (UU mm bt z again n (st0 n) K).2, a20, r2) := by
    unfold F_X10_runs_j50
    rw [eM, e]
    show (r2 5, a18, a19, a20, r2) = _
    rw [ms 5 (by decide), hfK.2.2.2.1, m18, m19]
  unfold F_X10_runs
  rw [e3]
  show F_X10_runs_k33 mm bt n z (nI M) again way g ((100 : Int32) * n) = _
  unfold F_X10_runs_k33
  by_cases q : n = 0
  · rw [if_pos q]; rw [if_pos q] at e50; exact e50
  · rw [if_neg q]; rw [if_neg q] at e50; exact e50
/-- a rig's words for the reference -/
def mmOf (rg : Nat → Int32) : Nat → Int32 := fun j => match j with
  | 6 => rg 2 | 7 => rg 3 | 8 => rg 4 | 9 => rg 6 | 10 => rg 7 | 11 => rg 8 | 12 => rg 13 | _ => 0
def btOf (rg : Nat → Int32) : Nat → Int32 := fun j => match j with
  | 20 => rg 9 | 21 => rg 10 | 22 => rg 11 | 23 => rg 12 | 25 => rg 14 | 26 => rg 15 | 27 => rg 16 | _ => 0
theorem mrig_of (rg : Nat → Int32) : MRig rg (mmOf rg) (btOf rg) := ⟨rfl, rfl, rfl, rfl, rfl, rfl, rfl, rfl, rfl, rfl, rfl, rfl, rfl, rfl⟩
/-- the tenth of the reference hangs on these alone -/
theorem tenth_mrig {rg mm bt mm' bt' : Nat → Int32} (h : MRig rg mm bt) (h' : MRig rg mm' bt') (ho : RigOK rg) (a : Nat → Int32) (z : Int32) : Sim (F_X10_tenth mm bt a z) (F_X10_tenth mm' bt' a z) :=
  (sim_step (b := zf) h ho.nz (Sim.rfl' a) z).symm.trans (sim_step (b := zf) h' ho.nz (Sim.rfl' a) z)
theorem UU_mrig {rg mm bt mm' bt' : Nat → Int32} (h : MRig rg mm bt) (h' : MRig rg mm' bt') (ho : RigOK rg) (z again n : Int32) (s0 : (Nat → Int32) × Int32) : ∀ k : Nat, Sim (UU mm bt z again n s0 k).1 (UU mm' bt' z again n s0 k).1 ∧ (UU mm bt z again n s0 k).2 = (UU mm' bt' z again n s0 k).2
  | 0 => ⟨Sim.rfl' _, rfl⟩
  | k + 1 => by
    obtain ⟨h1, h2⟩ := UU_mrig h h' ho z again n s0 k
    have hT := (tenth_congr (mm := mm) (bt := bt) z h1).trans (tenth_mrig h h' ho (UU mm' bt' z again n s0 k).1 z)
    show Sim (tnx _ _ _ _ _ _).1 (tnx _ _ _ _ _ _).1 ∧ (tnx _ _ _ _ _ _).2 = (tnx _ _ _ _ _ _).2
    unfold tnx
    by_cases q : (UU mm bt z again n s0 k).2 = (-4 : Int32) ∧ F_X10_tenth mm bt (UU mm bt z again n s0 k).1 z 0 = 0
    · rw [if_pos q, if_pos (⟨h2 ▸ q.1, (hT 0 (by decide)).symm.trans q.2⟩ : (UU mm' bt' z again n s0 k).2 = (-4 : Int32) ∧ F_X10_tenth mm' bt' (UU mm' bt' z again n s0 k).1 z 0 = 0)]
      exact ⟨hT.upd0 rfl, hT 5 (by decide)⟩
    · rw [if_neg q, if_neg (fun w => q ⟨h2.trans w.1, (hT 0 (by decide)).trans w.2⟩)]
      exact ⟨hT, h2⟩
