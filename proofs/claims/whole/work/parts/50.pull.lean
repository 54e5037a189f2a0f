/-! the pull, the tenth: class and reference -/
def MRig (rg mm bt : Nat → Int32) : Prop := rg 2 = mm 6 ∧ rg 3 = mm 7 ∧ rg 4 = mm 8 ∧ rg 6 = mm 9 ∧ rg 7 = mm 10 ∧ rg 8 = mm 11 ∧ rg 13 = mm 12 ∧ rg 9 = bt 20 ∧ rg 10 = bt 21 ∧ rg 11 = bt 22 ∧ rg 12 = bt 23 ∧ rg 14 = bt 25 ∧ rg 15 = bt 26 ∧ rg 16 = bt 27
def RigNZ (rg : Nat → Int32) : Prop := ¬ rg 6 = 0 ∧ ¬ (10 : Int32) * rg 7 = 0 ∧ ¬ rg 10 = 0 ∧ ¬ (10 : Int32) + rg 8 * rg 8 = 0 ∧ (0 : Int32) ≤ rg 16
theorem fit_0 (b rg : Nat → Int32) : F_X0_fit b rg 0 = rg 2 * rg 6 := rfl
theorem fit_1 (b rg : Nat → Int32) : F_X0_fit b rg 1 = (10 : Int32) * rg 7 := rfl
theorem fit_2 (b rg : Nat → Int32) : F_X0_fit b rg 2 = F_X9_cut ((10 : Int32) * rg 4 * rg 7) (rg 6) := rfl
theorem fit_3 (b rg : Nat → Int32) : F_X0_fit b rg 3 = (100 : Int32) - rg 14 := rfl
theorem fit_4 (b rg : Nat → Int32) : F_X0_fit b rg 4 = (100 : Int32) - rg 3 := rfl
theorem fit_5 (b rg : Nat → Int32) : F_X0_fit b rg 5 = (100 : Int32) - rg 15 := rfl
theorem fit_6 (b rg : Nat → Int32) : F_X0_fit b rg 6 = (10 : Int32) + rg 8 * rg 8 := rfl
theorem cut_nz {x y : Int32} (h : ¬ y = 0) : F_X9_cut x y = x / y := by unfold F_X9_cut; rw [if_neg h]
theorem wound_eq {b rg mm bt : Nat → Int32} (h : MRig rg mm bt) (hz : RigNZ rg) (T : Int32) : F_X0_wound (F_X0_fit b rg) T = F_X10_woundPull mm bt T := by
  obtain ⟨h2, h3, h4, h6, h7, h8, h13, h9, h10, h11, h12, h14, h15, h16⟩ := h
  obtain ⟨z6, z7, z10, z8, z16⟩ := hz
  unfold F_X0_wound
  rw [fit_1, if_neg z7]
  unfold F_X0_wound_k20 F_X0_wound_k49 F_X0_wound_j50 F_X10_woundPull F_X10_woundPull_k19 F_X10_woundPull_k37 F_X10_woundPull_j71 F_X10_woundPull_k72
  rw [fit_0, fit_1, fit_2, fit_3, cut_nz z6, h2, h4, h6, h7, h14]
  split
  · rw [Int32.add_zero]
  · rw [Int32.mul_assoc 2 (mm 6) (mm 9)]
theorem loosed_eq {b rg mm bt : Nat → Int32} (h : MRig rg mm bt) (hz : RigNZ rg) (T : Int32) : F_X0_loosed (F_X0_fit b rg) T = F_X10_freePull mm bt T := by
  unfold F_X0_loosed F_X10_freePull
  rw [wound_eq h hz, fit_4, fit_5]
  obtain ⟨h2, h3, h4, h6, h7, h8, h13, h9, h10, h11, h12, h14, h15, h16⟩ := h
  rw [h3, h15]
theorem limit_eq (x lo hi : Int32) : F_X9_limit x lo hi = F_X10_within x lo hi := rfl
theorem gust_eq {mo bt : Nat → Int32} {g z t : Int32} (hg : g = bt 27) (h0 : (0 : Int32) ≤ g) (ht : mo 5 = t) : F_X4_gustOf mo g z = F_X10_windAt bt z t := by
  unfold F_X4_gustOf F_X10_windAt F_X4_gustOf_k28 F_X10_windAt_k21
  rw [if_pos h0, ht, hg]
  by_cases hz : z < 0
  · rw [if_pos hz, if_neg (by rw [Int32.le_iff_toInt_le]; rw [Int32.lt_iff_toInt_lt] at hz; omega)]
  · rw [if_neg hz, if_pos (by rw [Int32.le_iff_toInt_le]; rw [Int32.lt_iff_toInt_lt] at hz; omega)]
theorem mmin_eq (x y : Int32) : mmin x y = if x ≤ y then x else y := by
  unfold mmin
  by_cases h : y < x
  · rw [if_pos h, if_neg (by rw [Int32.le_iff_toInt_le]; rw [Int32.lt_iff_toInt_lt] at h; omega)]
  · rw [if_neg h, if_pos (by rw [Int32.le_iff_toInt_le]; rw [Int32.lt_iff_toInt_lt] at h; omega)]
theorem mmax0_eq (x : Int32) : mmax x 0 = if 0 ≤ x then x else 0 := by
  unfold mmax
  by_cases h : x < 0
  · rw [if_pos h, if_neg (by rw [Int32.le_iff_toInt_le]; rw [Int32.lt_iff_toInt_lt] at h; omega)]
  · rw [if_neg h, if_pos (by rw [Int32.le_iff_toInt_le]; rw [Int32.lt_iff_toInt_lt] at h; omega)]
/-- a tenth, in plain words: what is spun off, the push, the new pace -/
def spinOf (b mo : Nat → Int32) : Int32 := mmin (F_X9_cut (F_X0_loosed b (mo 0)) (b 6)) (mo 0)
def pushOf (rg mo : Nat → Int32) (spin : Int32) : Int32 := ((mmax ((((rg 8) * spin) / (10 : Int32)) - (mo 1)) (0 : Int32)) * (rg 9)) / (10 : Int32)
def paceOf (rg mo : Nat → Int32) (z push : Int32) : Int32 := F_X9_limit ((mo 1) + (F_X9_cut (push - (((((mo 1) * (mo 1)) * (rg 11)) / (1000 : Int32)) + (F_X4_gustOf mo (rg 16) z))) (rg 10))) (0 : Int32) (999 : Int32)
def steadyOf (spin pace before : Int32) : Int32 := if spin = 0 then (if pace = before then 1 else 0) else 0
theorem step_k125 (mo rg : Nat → Int32) (spin push parts pace : Int32) : F_X4_step_k125 mo rg spin push parts pace = F_X4_step_j148 mo rg push parts pace (steadyOf spin pace (mo 1)) := by
  unfold F_X4_step_k125 F_X4_step_j147 steadyOf
  by_cases h1 : spin = 0
  · rw [if_pos h1, if_pos h1]
    by_cases h2 : pace = mo 1
    · rw [if_pos h2, if_pos h2]
    · rw [if_neg h2, if_neg h2]
  · rw [if_neg h1, if_neg h1]
theorem step_eq (mo rg b : Nat → Int32) (z : Int32) : F_X4_step mo rg b z = F_X4_step_j148 mo rg (pushOf rg mo (spinOf b mo)) ((mo 0) - spinOf b mo) (paceOf rg mo z (pushOf rg mo (spinOf b mo))) (steadyOf (spinOf b mo) (paceOf rg mo z (pushOf rg mo (spinOf b mo))) (mo 1)) :=
  (show F_X4_step mo rg b z = F_X4_step_k125 mo rg (spinOf b mo) (pushOf rg mo (spinOf b mo)) ((mo 0) - spinOf b mo) (paceOf rg mo z (pushOf rg mo (spinOf b mo))) from rfl).trans (step_k125 _ _ _ _ _ _)
def turnOf (rg mo : Nat → Int32) (pace push : Int32) : Int32 := F_X9_limit ((mo 3) + (((push * (rg 12)) - (pace * (rg 13))) / (100 : Int32))) (-9999 : Int32) (9999 : Int32)
def sideOf (mo : Nat → Int32) (pace turn : Int32) : Int32 := F_X9_limit ((mo 4) + ((pace * turn) / (1000 : Int32))) (-9999999 : Int32) (9999999 : Int32)
theorem drift_eq (mo rg : Nat → Int32) (push : Int32) : F_X4_drift mo rg push = (mo 2 + mo 1, turnOf rg mo (mo 1) push, sideOf mo (mo 1) (turnOf rg mo (mo 1) push), mo 5 + (1 : Int32)) := rfl
section STEP
variable (mo rg b : Nat → Int32) (z : Int32)
theorem step_0 : F_X4_step mo rg b z 0 = (mo 0) - spinOf b mo := by rw [step_eq]; rfl
theorem step_1 : F_X4_step mo rg b z 1 = paceOf rg mo z (pushOf rg mo (spinOf b mo)) := by rw [step_eq]; rfl
theorem step_2 : F_X4_step mo rg b z 2 = (mo 2) + paceOf rg mo z (pushOf rg mo (spinOf b mo)) := by rw [step_eq]; rfl
theorem step_3 : F_X4_step mo rg b z 3 = turnOf rg mo (paceOf rg mo z (pushOf rg mo (spinOf b mo))) (pushOf rg mo (spinOf b mo)) := by rw [step_eq]; rfl
theorem step_4 : F_X4_step mo rg b z 4 = sideOf mo (paceOf rg mo z (pushOf rg mo (spinOf b mo))) (turnOf rg mo (paceOf rg mo z (pushOf rg mo (spinOf b mo))) (pushOf rg mo (spinOf b mo))) := by rw [step_eq]; rfl
theorem step_5 : F_X4_step mo rg b z 5 = (mo 5) + (1 : Int32) := by rw [step_eq]; rfl
theorem step_6 : F_X4_step mo rg b z 6 = steadyOf (spinOf b mo) (paceOf rg mo z (pushOf rg mo (spinOf b mo))) (mo 1) := by rw [step_eq]; rfl
end STEP
/-- the reference's tenth in the same words -/
def spinM (mm bt ar : Nat → Int32) : Int32 := if (F_X10_freePull mm bt (ar 0)) / ((10 : Int32) + ((mm 11) * (mm 11))) ≤ ar 0 then (F_X10_freePull mm bt (ar 0)) / ((10 : Int32) + ((mm 11) * (mm 11))) else ar 0
def pushM (mm bt ar : Nat → Int32) (spin : Int32) : Int32 := ((if (0 : Int32) ≤ (((mm 11) * spin) / (10 : Int32)) - (ar 1) then (((mm 11) * spin) / (10 : Int32)) - (ar 1) else 0) * (bt 20)) / (10 : Int32)
def paceM (bt ar : Nat → Int32) (z push : Int32) : Int32 := F_X10_within ((ar 1) + ((push - (((((ar 1) * (ar 1)) * (bt 22)) / (1000 : Int32)) + (F_X10_windAt bt z (ar 5)))) / (bt 21))) (0 : Int32) (999 : Int32)
theorem tenth_eq (mm bt ar : Nat → Int32) (z : Int32) : F_X10_tenth mm bt ar z = F_X10_tenth_k138 mm bt ar ((ar 0) - spinM mm bt ar) (pushM mm bt ar (spinM mm bt ar)) (paceM bt ar z (pushM mm bt ar (spinM mm bt ar))) := by
  unfold F_X10_tenth F_X10_tenth_k20 F_X10_tenth_j35 F_X10_tenth_k42 F_X10_tenth_k56 F_X10_tenth_j69 F_X10_tenth_k80 F_X10_tenth_k110
  have hs : ∀ s : Int32, (if (0 : Int32) ≤ (((mm 11) * s) / (10 : Int32)) - (ar 1) then F_X10_tenth_k138 mm bt ar ((ar 0) - s) (((((mm 11) * s) / (10 : Int32)) - (ar 1)) * (bt 20) / (10 : Int32)) (F_X10_within (ar 1 + ((((((mm 11) * s) / (10 : Int32)) - (ar 1)) * (bt 20) / (10 : Int32)) - (ar 1 * ar 1 * bt 22 / 1000 + F_X10_windAt bt z (ar 5))) / bt 21) 0 999) else F_X10_tenth_k138 mm bt ar ((ar 0) - s) ((0 : Int32) * (bt 20) / (10 : Int32)) (F_X10_within (ar 1 + (((0 : Int32) * (bt 20) / (10 : Int32)) - (ar 1 * ar 1 * bt 22 / 1000 + F_X10_windAt bt z (ar 5))) / bt 21) 0 999)) = F_X10_tenth_k138 mm bt ar ((ar 0) - s) (pushM mm bt ar s) (paceM bt ar z (pushM mm bt ar s)) := by
    intro s
    unfold pushM paceM
    by_cases h : (0 : Int32) ≤ (((mm 11) * s) / (10 : Int32)) - (ar 1)
    · rw [if_pos h, if_pos h]
    · rw [if_neg h, if_neg h]
  unfold spinM
  by_cases h : (F_X10_freePull mm bt (ar 0)) / ((10 : Int32) + ((mm 11) * (mm 11))) ≤ ar 0
  · rw [if_pos h, if_pos h]; exact hs _
  · rw [if_neg h, if_neg h]; exact hs _
section TENTH
variable (mm bt ar : Nat → Int32) (z : Int32)
theorem tenth_0 : F_X10_tenth mm bt ar z 0 = (ar 0) - spinM mm bt ar := by rw [tenth_eq]; rfl
theorem tenth_1 : F_X10_tenth mm bt ar z 1 = paceM bt ar z (pushM mm bt ar (spinM mm bt ar)) := by rw [tenth_eq]; rfl
theorem tenth_2 : F_X10_tenth mm bt ar z 2 = (ar 2) + paceM bt ar z (pushM mm bt ar (spinM mm bt ar)) := by rw [tenth_eq]; rfl
theorem tenth_3 : F_X10_tenth mm bt ar z 3 = F_X10_within ((ar 3) + (((pushM mm bt ar (spinM mm bt ar) * (bt 23)) - (paceM bt ar z (pushM mm bt ar (spinM mm bt ar)) * (mm 12))) / (100 : Int32))) (-9999 : Int32) (9999 : Int32) := by rw [tenth_eq]; rfl
theorem tenth_4 : F_X10_tenth mm bt ar z 4 = F_X10_within ((ar 4) + ((paceM bt ar z (pushM mm bt ar (spinM mm bt ar)) * (F_X10_within ((ar 3) + (((pushM mm bt ar (spinM mm bt ar) * (bt 23)) - (paceM bt ar z (pushM mm bt ar (spinM mm bt ar)) * (mm 12))) / (100 : Int32))) (-9999 : Int32) (9999 : Int32))) / (1000 : Int32))) (-9999999 : Int32) (9999999 : Int32) := by rw [tenth_eq]; rfl
theorem tenth_5 : F_X10_tenth mm bt ar z 5 = (ar 5) + (1 : Int32) := by rw [tenth_eq]; rfl
end TENTH
def Sim (mo ar : Nat → Int32) : Prop := ∀ j : Nat, j < 6 → mo j = ar j
theorem spin_eq {b rg mm bt mo ar : Nat → Int32} (h : MRig rg mm bt) (hz : RigNZ rg) (hs : Sim mo ar) : spinOf (F_X0_fit b rg) mo = spinM mm bt ar := by
  unfold spinOf spinM
  rw [mmin_eq, fit_6, cut_nz hz.2.2.2.1, loosed_eq h hz, hs 0 (by decide), h.2.2.2.2.2.1]
theorem push_eq {rg mm bt mo ar : Nat → Int32} (h : MRig rg mm bt) (hs : Sim mo ar) (s : Int32) : pushOf rg mo s = pushM mm bt ar s := by
  unfold pushOf pushM
  rw [mmax0_eq, hs 1 (by decide), h.2.2.2.2.2.1, h.2.2.2.2.2.2.2.1]
theorem pace_eq {rg mm bt mo ar : Nat → Int32} (h : MRig rg mm bt) (hz : RigNZ rg) (hs : Sim mo ar) (z p : Int32) : paceOf rg mo z p = paceM bt ar z p := by
  unfold paceOf paceM
  rw [cut_nz hz.2.2.1, limit_eq, gust_eq (bt := bt) (t := ar 5) h.2.2.2.2.2.2.2.2.2.2.2.2.2 hz.2.2.2.2 (hs 5 (by decide)), hs 1 (by decide), h.2.2.2.2.2.2.2.2.1, h.2.2.2.2.2.2.2.2.2.1]
theorem sim_step {b rg mm bt mo ar : Nat → Int32} (h : MRig rg mm bt) (hz : RigNZ rg) (hs : Sim mo ar) (z : Int32) : Sim (F_X4_step mo rg (F_X0_fit b rg) z) (F_X10_tenth mm bt ar z) := by
  intro j hj
  have e1 := spin_eq (b := b) h hz hs
  have e2 := push_eq h hs (spinM mm bt ar)
  have e3 := pace_eq h hz hs z (pushM mm bt ar (spinM mm bt ar))
  rcases (show j = 0 ∨ j = 1 ∨ j = 2 ∨ j = 3 ∨ j = 4 ∨ j = 5 by omega) with rfl | rfl | rfl | rfl | rfl | rfl
  · rw [step_0, tenth_0, e1, hs 0 (by decide)]
  · rw [step_1, tenth_1, e1, e2, e3]
  · rw [step_2, tenth_2, e1, e2, e3, hs 2 (by decide)]
  · rw [step_3, tenth_3, e1, e2, e3]; unfold turnOf; rw [limit_eq, hs 3 (by decide), h.2.2.2.2.2.2.1, h.2.2.2.2.2.2.2.2.2.2.1]
  · rw [step_4, tenth_4, e1, e2, e3]; unfold sideOf turnOf; rw [limit_eq, limit_eq, hs 3 (by decide), hs 4 (by decide), h.2.2.2.2.2.2.1, h.2.2.2.2.2.2.2.2.2.2.1]
  · rw [step_5, tenth_5, hs 5 (by decide)]
