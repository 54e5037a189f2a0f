/-! a run: the sequence that both follow -/
theorem Sim.rfl' (a : Nat → Int32) : Sim a a := fun _ _ => rfl
theorem Sim.symm {a b : Nat → Int32} (h : Sim a b) : Sim b a := fun j hj => (h j hj).symm
theorem Sim.trans {a b c : Nat → Int32} (h : Sim a b) (h2 : Sim b c) : Sim a c := fun j hj => (h j hj).trans (h2 j hj)
theorem Sim.upd0 {a b : Nat → Int32} (h : Sim a b) {x y : Int32} (e : x = y) : Sim (upd a 0 x) (upd b 0 y) := by
  intro j hj
  unfold upd
  split
  · exact e
  · exact h j hj
theorem Sim.upd0s {a b : Nat → Int32} (h : Sim a b) : Sim (upd a 0 (a 0)) b := by
  intro j hj
  unfold upd
  split
  · rename_i e; rw [e]; exact h 0 (by decide)
  · exact h j hj
theorem tenth_congr {mm bt a a' : Nat → Int32} (z : Int32) (h : Sim a a') : Sim (F_X10_tenth mm bt a z) (F_X10_tenth mm bt a' z) := by
  have e1 : spinM mm bt a = spinM mm bt a' := by unfold spinM; rw [h 0 (by decide)]
  have e2 : ∀ s, pushM mm bt a s = pushM mm bt a' s := fun s => by unfold pushM; rw [h 1 (by decide)]
  have e3 : ∀ p, paceM bt a z p = paceM bt a' z p := fun p => by unfold paceM; rw [h 1 (by decide), h 5 (by decide)]
  intro j hj
  rcases (show j = 0 ∨ j = 1 ∨ j = 2 ∨ j = 3 ∨ j = 4 ∨ j = 5 by omega) with rfl | rfl | rfl | rfl | rfl | rfl
  · rw [tenth_0, tenth_0, e1, h 0 (by decide)]
  · rw [tenth_1, tenth_1, e1, e2, e3]
  · rw [tenth_2, tenth_2, e1, e2, e3, h 2 (by decide)]
  · rw [tenth_3, tenth_3, e1, e2, e3, h 3 (by decide)]
  · rw [tenth_4, tenth_4, e1, e2, e3, h 3 (by decide), h 4 (by decide)]
  · rw [tenth_5, tenth_5, h 5 (by decide)]
/-- one tenth of a run: the boat, and behind how many tenths the band is empty first -/
def tnx (mm bt : Nat → Int32) (z again n : Int32) (s : (Nat → Int32) × Int32) : (Nat → Int32) × Int32 :=
  if s.2 = (-4 : Int32) ∧ F_X10_tenth mm bt s.1 z 0 = 0 then (upd (F_X10_tenth mm bt s.1 z) 0 (if again = 0 then 0 else (100 : Int32) * n), F_X10_tenth mm bt s.1 z 5) else (F_X10_tenth mm bt s.1 z, s.2)
def UU (mm bt : Nat → Int32) (z again n : Int32) (s0 : (Nat → Int32) × Int32) : Nat → (Nat → Int32) × Int32
  | 0 => s0
  | k + 1 => tnx mm bt z again n (UU mm bt z again n s0 k)
def over (s : (Nat → Int32) × Int32) : Prop := s.1 0 = 0 ∧ s.1 1 = 0
/-- what a boat in a run is like: its tenth is k -/
def Fair (k : Nat) (s : (Nat → Int32) × Int32) : Prop := (0 ≤ (s.1 0).toInt ∧ (s.1 0).toInt ≤ 40000) ∧ (0 ≤ (s.1 1).toInt ∧ (s.1 1).toInt ≤ 999) ∧ (0 ≤ (s.1 2).toInt ∧ (s.1 2).toInt ≤ 999 * k) ∧ s.1 5 = nI k ∧ s.2.toInt ≤ k ∧ (s.2 = (-4 : Int32) → 0 < (s.1 0).toInt)
theorem tenth_fair {rg mm bt a : Nat → Int32} (h : MRig rg mm bt) (ho : RigOK rg) (z : Int32) {k : Nat} (hk : k < 100000) (h0 : 0 ≤ (a 0).toInt ∧ (a 0).toInt ≤ 40000) (h2 : 0 ≤ (a 2).toInt ∧ (a 2).toInt ≤ 999 * k) (h5 : a 5 = nI k) : (0 ≤ (F_X10_tenth mm bt a z 0).toInt ∧ (F_X10_tenth mm bt a z 0).toInt ≤ (a 0).toInt) ∧ (0 ≤ (F_X10_tenth mm bt a z 1).toInt ∧ (F_X10_tenth mm bt a z 1).toInt ≤ 999) ∧ ((a 2).toInt ≤ (F_X10_tenth mm bt a z 2).toInt ∧ (F_X10_tenth mm bt a z 2).toInt ≤ 999 * (k + 1 : Nat)) ∧ F_X10_tenth mm bt a z 5 = nI (k + 1) := by
  have hs := sim_step (b := zf) h ho.nz (Sim.rfl' a) z
  have sp := spin_bd (b := zf) ho h0
  have pc := pace_bd rg a z (pushOf rg a (spinOf (F_X0_fit zf rg) a))
  have e0 := hs 0 (by decide)
  have e1 := hs 1 (by decide)
  have e2 := hs 2 (by decide)
  have e5 := hs 5 (by decide)
  rw [step_0] at e0
  rw [step_1] at e1
  rw [step_2] at e2
  rw [step_5] at e5
  refine ⟨?_, ?_, ?_, ?_⟩
  · rw [← e0, i_sub (by omega) (by omega)]; omega
  · rw [← e1]; exact pc
  · rw [← e2, i_add (by omega) (by omega)]; omega
  · rw [← e5, h5, nI_1]
theorem fair_step {rg mm bt : Nat → Int32} (h : MRig rg mm bt) (ho : RigOK rg) (z again n : Int32) (hn : 1 ≤ n.toInt ∧ n.toInt ≤ 400 ∨ again = 0) {k : Nat} (hk : k < 100000) {s : (Nat → Int32) × Int32} (hf : Fair k s) : Fair (k + 1) (tnx mm bt z again n s) := by
  obtain ⟨f0, f1, f2, f5, fu, fp⟩ := hf
  obtain ⟨t0, t1, t2, t5⟩ := tenth_fair h ho z hk f0 f2 f5
  have c100 : (100 : Int32).toInt = 100 := rfl
  unfold tnx
  split
  · rename_i hc
    refine ⟨?_, ?_, ?_, ?_, ?_, ?_⟩
    · show 0 ≤ (if again = 0 then (0 : Int32) else (100 : Int32) * n).toInt ∧ (if again = 0 then (0 : Int32) else (100 : Int32) * n).toInt ≤ 40000
      split
      · rw [i_z]; omega
      · rename_i ha
        rcases hn with hn | hn
        · rw [i_mul (by rw [c100]; omega) (by rw [c100]; omega), c100]; omega
        · exact absurd hn ha
    · exact t1
    · exact ⟨Int.le_trans f2.1 t2.1, t2.2⟩
    · exact t5
    · show (F_X10_tenth mm bt s.1 z 5).toInt ≤ _
      rw [t5, nI_toInt (by omega)]; omega
    · intro he
      have he : F_X10_tenth mm bt s.1 z 5 = (-4 : Int32) := he
      rw [t5] at he
      have := congrArg Int32.toInt he
      rw [nI_toInt (by omega)] at this
      have h4 : (-4 : Int32).toInt = -4 := rfl
      omega
  · rename_i hc
    refine ⟨⟨t0.1, Int.le_trans t0.2 f0.2⟩, t1, ⟨Int.le_trans f2.1 t2.1, t2.2⟩, t5, by show s.2.toInt ≤ _; omega, ?_⟩
    intro he
    have he : s.2 = (-4 : Int32) := he
    have hne : ¬ F_X10_tenth mm bt s.1 z 0 = 0 := fun q => hc ⟨he, q⟩
    have : ¬ (F_X10_tenth mm bt s.1 z 0).toInt = 0 := fun q => hne (Int32.toInt_inj.mp (by rw [i_z]; exact q))
    show 0 < (F_X10_tenth mm bt s.1 z 0).toInt
    omega
theorem fair_UU {rg mm bt : Nat → Int32} (h : MRig rg mm bt) (ho : RigOK rg) (z again n : Int32) (hn : 1 ≤ n.toInt ∧ n.toInt ≤ 400 ∨ again = 0) {s0 : (Nat → Int32) × Int32} (h0 : Fair 0 s0) : ∀ k : Nat, k < 100000 → Fair k (UU mm bt z again n s0 k)
  | 0, _ => h0
  | k + 1, hk => fair_step h ho z again n hn (by omega) (fair_UU h ho z again n hn h0 k (by omega))
/-- calm: no wind -/
def Calm (rg : Nat → Int32) (z : Int32) : Prop := z < 0 ∨ rg 16 = 0
theorem gust_calm {rg mo : Nat → Int32} {z : Int32} (h : Calm rg z) : F_X4_gustOf mo (rg 16) z = 0 := by
  unfold F_X4_gustOf
  rcases h with h | h
  · rw [if_pos h]
  · by_cases hz : z < 0
    · rw [if_pos hz]
    · rw [if_neg hz, h, if_pos (by decide)]
      unfold F_X4_gustOf_k28
      have e : Int32.toInt64 ((0 : Int32) + (1 : Int32)) = 1 := by decide
      rw [e, Int64.div_one, Int64.mul_one, Int64.sub_self]
      rfl
def paceC (rg : Nat → Int32) (p : Int32) : Int32 := F_X9_limit (p + (F_X9_cut ((0 : Int32) - (((p * p) * (rg 11)) / (1000 : Int32))) (rg 10))) (0 : Int32) (999 : Int32)
theorem pace_calm {rg mo : Nat → Int32} {z : Int32} (h : Calm rg z) : paceOf rg mo z 0 = paceC rg (mo 1) := by
  unfold paceOf paceC
  rw [gust_calm h, Int32.add_zero]
theorem push_0 {rg mo : Nat → Int32} (h : 0 ≤ (mo 1).toInt ∧ (mo 1).toInt ≤ 999) : pushOf rg mo 0 = 0 := by
  unfold pushOf
  rw [Int32.mul_zero, Int32.zero_div, mmax0_eq]
  split
  · rename_i hc
    rw [Int32.le_iff_toInt_le, i_sub (by rw [i_z]; omega) (by rw [i_z]; omega), i_z] at hc
    have e : mo 1 = 0 := Int32.toInt_inj.mp (by rw [i_z]; omega)
    rw [e, Int32.sub_zero, Int32.zero_mul, Int32.zero_div]
  · rw [Int32.zero_mul, Int32.zero_div]
theorem spin_congr {b mo mo' : Nat → Int32} (h : mo' 0 = mo 0) : spinOf b mo' = spinOf b mo := by unfold spinOf; rw [h]
/-- the class's shortcut is a tenth -/
theorem drift_step {rg b mo : Nat → Int32} {z : Int32} (hc : Calm rg z) (hp : 0 ≤ (mo 1).toInt ∧ (mo 1).toInt ≤ 999) (h1 : spinOf b mo = 0) (h2 : paceC rg (mo 1) = mo 1) : Sim (upd (upd (upd (upd mo 2 (mo 2 + mo 1)) 3 (turnOf rg mo (mo 1) 0)) 4 (sideOf mo (mo 1) (turnOf rg mo (mo 1) 0))) 5 (mo 5 + (1 : Int32))) (F_X4_step mo rg b z) := by
  have e1 : pushOf rg mo (spinOf b mo) = 0 := by rw [h1]; exact push_0 hp
  have e2 : paceOf rg mo z (pushOf rg mo (spinOf b mo)) = mo 1 := by rw [e1, pace_calm hc, h2]
  intro j hj
  rcases (show j = 0 ∨ j = 1 ∨ j = 2 ∨ j = 3 ∨ j = 4 ∨ j = 5 by omega) with rfl | rfl | rfl | rfl | rfl | rfl
  · rw [step_0, h1, Int32.sub_zero]; rfl
  · rw [step_1, e2]; rfl
  · rw [step_2, e2]; rfl
  · rw [step_3, e2, e1]; rfl
  · rw [step_4, e2, e1]; rfl
  · rw [step_5]; rfl
theorem steady_ne {s p q : Int32} (h : ¬ steadyOf s p q = 0) : s = 0 ∧ p = q := by
  unfold steadyOf at h
  split at h
  · rename_i h1
    split at h
    · rename_i h2; exact ⟨h1, h2⟩
    · exact absurd rfl h
  · exact absurd rfl h
