/-! the reference's run follows the sequence; both runs end alike -/
section RUNS
variable (mm bt : Nat → Int32) (z again n way : Int32) (s0 : (Nat → Int32) × Int32)
def Rch (seq : Nat → Int32) (way : Int32) (k : Nat) (f : Int32) : Prop := (f = (-4 : Int32) ∧ ∀ j : Nat, 1 ≤ j → j ≤ k → seq j < way) ∨ ∃ r : Nat, 1 ≤ r ∧ r ≤ k ∧ f = nI r ∧ ¬ seq r < way ∧ ∀ j : Nat, 1 ≤ j → j < r → seq j < way
theorem Rch.step {seq : Nat → Int32} {way : Int32} {k : Nat} (hk : k < 100000) {f : Int32} (h : Rch seq way k f) : Rch seq way (k + 1) (if f = (-4 : Int32) ∧ ¬ seq (k + 1) < way then nI (k + 1) else f) := by
  rcases h with ⟨e, h⟩ | ⟨r, h1, h2, h3, h4, h5⟩
  · by_cases q : seq (k + 1) < way
    · rw [if_neg (fun x => x.2 q)]
      refine Or.inl ⟨e, fun j a b => ?_⟩
      by_cases hj : j = k + 1
      · rw [hj]; exact q
      · exact h j a (by omega)
    · rw [if_pos ⟨e, q⟩]
      exact Or.inr ⟨k + 1, by omega, by omega, rfl, q, fun j a b => h j a (by omega)⟩
  · have ne : ¬ f = (-4 : Int32) := by
      intro x
      rw [h3] at x
      have := congrArg Int32.toInt x
      rw [nI_toInt (by omega)] at this
      have h4 : (-4 : Int32).toInt = -4 := rfl
      omega
    rw [if_neg (fun x => ne x.1)]
    exact Or.inr ⟨r, h1, by omega, h3, h4, h5⟩
def MInv (k : Nat) (f18 f20 f19 : Int32) (rn : Nat → Int32) : Prop :=
  f18 = TOPP mm bt z again n s0 k ∧ f19 = (UU mm bt z again n s0 k).2 ∧ Sim rn (UU mm bt z again n s0 k).1 ∧ Rch (fun j => (UU mm bt z again n s0 j).1 2) way k f20
theorem k93_eq (f18 f20 f19 : Int32) (g : Nat → Int32) : F_X10_runs_k93 n again way f18 f20 f19 g = Sum.inl (mmax f18 (g 1), (if f20 = (-4 : Int32) ∧ ¬ g 2 < way then g 5 else f20), (if f19 = (-4 : Int32) ∧ g 0 = 0 then g 5 else f19), (if f19 = (-4 : Int32) ∧ g 0 = 0 then upd g 0 (if again = 0 then 0 else (100 : Int32) * n) else g)) := by
  have em : mmax f18 (g 1) = if g 1 ≤ f18 then f18 else g 1 := by
    unfold mmax
    by_cases h : f18 < g 1
    · rw [if_pos h, if_neg (by rw [Int32.le_iff_toInt_le]; rw [Int32.lt_iff_toInt_lt] at h; omega)]
    · rw [if_neg h, if_pos (by rw [Int32.le_iff_toInt_le]; rw [Int32.lt_iff_toInt_lt] at h; omega)]
  have e160 : ∀ a b : Int32, F_X10_runs_j160 n again f19 g a b = Sum.inl (a, b, (if f19 = (-4 : Int32) ∧ g 0 = 0 then g 5 else f19), (if f19 = (-4 : Int32) ∧ g 0 = 0 then upd g 0 (if again = 0 then 0 else (100 : Int32) * n) else g)) := by
    intro a b
    unfold F_X10_runs_j160 F_X10_runs_j209
    by_cases h1 : f19 = (-4 : Int32)
    · by_cases h2 : g 0 = 0
      · have h12 : f19 = (-4 : Int32) ∧ g 0 = 0 := ⟨h1, h2⟩
        rw [if_pos h1, if_pos h2]
        by_cases h3 : again = 0
        · rw [if_pos h3, if_pos h12, if_pos h12, if_pos h3]
        · rw [if_neg h3, if_pos h12, if_pos h12, if_neg h3]
      · rw [if_pos h1, if_neg h2, if_neg (fun x => h2 x.2), if_neg (fun x => h2 x.2)]
    · rw [if_neg h1, if_neg (fun x => h1 x.1), if_neg (fun x => h1 x.1)]
  have e123 : ∀ a : Int32, F_X10_runs_j123 n again way f20 f19 g a = F_X10_runs_j160 n again f19 g a (if f20 = (-4 : Int32) ∧ ¬ g 2 < way then g 5 else f20) := by
    intro a
    unfold F_X10_runs_j123 F_X10_runs_j156
    by_cases h1 : f20 = (-4 : Int32)
    · by_cases h2 : g 2 < way
      · rw [if_pos h1, if_pos h2, if_neg (fun x => x.2 h2)]
      · rw [if_pos h1, if_neg h2, if_pos ⟨h1, h2⟩]
    · rw [if_neg h1, if_neg (fun x => h1 x.1)]
  unfold F_X10_runs_k93
  rw [em]
  by_cases h : g 1 ≤ f18
  · rw [if_pos h, if_pos h, e123, e160]
  · rw [if_neg h, if_neg h, e123, e160]
variable {mm bt}
theorem runs_body {rg : Nat → Int32} (h : MRig rg mm bt) (ho : RigOK rg) {k : Nat} (hk : k < 2000) {f18 f20 f19 : Int32} {rn : Nat → Int32} (hf : Fair k (UU mm bt z again n s0 k)) (hm : MInv mm bt z again n way s0 k f18 f20 f19 rn) :
    ∃ (a18 a20 a19 : Int32) (r2 : Nat → Int32), F_X10_runs_j87 mm bt n z again way f18 f20 f19 rn = Sum.inl (a18, a20, a19, r2) ∧ MInv mm bt z again n way s0 (k + 1) a18 a20 a19 r2 := by
  obtain ⟨f0, f1, f2, f5, fu, fp⟩ := hf
  obtain ⟨m18, m19, ms, mr⟩ := hm
  have hsT := tenth_congr (mm := mm) (bt := bt) z ms
  have t5e := (tenth_fair h ho z (show k < 100000 by omega) f0 f2 f5).2.2.2
  have e87 : F_X10_runs_j87 mm bt n z again way f18 f20 f19 rn = F_X10_runs_k93 n again way f18 f20 f19 (F_X10_tenth mm bt rn z) := rfl
  have seq1 : (UU mm bt z again n s0 (k + 1)).1 2 = F_X10_tenth mm bt rn z 2 := by
    show (tnx mm bt z again n (UU mm bt z again n s0 k)).1 2 = _
    rw [hsT 2 (by decide)]
    unfold tnx
    split <;> rfl
  rw [k93_eq] at e87
  refine ⟨_, _, _, _, e87, ?_, ?_, ?_, ?_⟩
  · show mmax f18 _ = mmax (TOPP mm bt z again n s0 k) _
    rw [m18, hsT 1 (by decide)]
  · show _ = (tnx mm bt z again n (UU mm bt z again n s0 k)).2
    unfold tnx
    by_cases q : f19 = (-4 : Int32) ∧ F_X10_tenth mm bt rn z 0 = 0
    · rw [if_pos q, if_pos ⟨m19.symm.trans q.1, (hsT 0 (by decide)).symm.trans q.2⟩]
      exact hsT 5 (by decide)
    · rw [if_neg q, if_neg (fun w => q ⟨m19.trans w.1, (hsT 0 (by decide)).trans w.2⟩)]
      exact m19
  · show Sim _ (tnx mm bt z again n (UU mm bt z again n s0 k)).1
    unfold tnx
    by_cases q : f19 = (-4 : Int32) ∧ F_X10_tenth mm bt rn z 0 = 0
    · rw [if_pos q, if_pos (⟨m19.symm.trans q.1, (hsT 0 (by decide)).symm.trans q.2⟩ : (UU mm bt z again n s0 k).2 = (-4 : Int32) ∧ F_X10_tenth mm bt (UU mm bt z again n s0 k).1 z 0 = 0)]
      exact hsT.upd0 rfl
    · rw [if_neg q, if_neg (fun w => q ⟨m19.trans w.1, (hsT 0 (by decide)).trans w.2⟩)]
      exact hsT
  · have := mr.step (by omega)
    have e5 : F_X10_tenth mm bt rn z 5 = nI (k + 1) := (hsT 5 (by decide)).trans t5e
    rw [e5, ← seq1]
    exact this
theorem runs_loop {rg : Nat → Int32} (h : MRig rg mm bt) (ho : RigOK rg) (hn : 1 ≤ n.toInt ∧ n.toInt ≤ 400 ∨ again = 0) {M : Nat} (hM : M ≤ 1200) (h0 : Fair 0 s0) : ∀ (j k : Nat) (f18 f20 f19 : Int32) (rn : Nat → Int32), j + k = M → MInv mm bt z again n way s0 k f18 f20 f19 rn → (∀ i, i < k → ¬ over (UU mm bt z again n s0 i)) →
    ∃ (K : Nat) (a18 a20 a19 : Int32) (r2 : Nat → Int32), F_X10_runs_l59 mm bt n z (nI M) again way j f18 f20 f19 rn = (a18, a20, a19, r2) ∧ K ≤ M ∧ (K = M ∨ over (UU mm bt z again n s0 K)) ∧ (∀ i, i < K → ¬ over (UU mm bt z again n s0 i)) ∧ MInv mm bt z again n way s0 K a18 a20 a19 r2 := by
  intro j
  induction j with
  | zero =>
    intro k f18 f20 f19 rn hk hm hno
    exact ⟨k, _, _, _, _, rfl, by omega, Or.inl (by omega), hno, hm⟩
  | succ j ih =>
    intro k f18 f20 f19 rn hk hm hno
    have hf := fair_UU h ho z again n hn h0 k (by omega)
    obtain ⟨f0, f1, f2, f5, fu, fp⟩ := id hf
    have s0' := hm.2.2.1 0 (by decide)
    have s1' := hm.2.2.1 1 (by decide)
    have s5' := hm.2.2.1 5 (by decide)
    have hg : ¬ nI M ≤ rn 5 := by rw [s5', f5]; exact nI_ge (by omega) (by omega)
    rw [F_X10_runs_l59]
    have z0 : (0 : Int32).toInt = 0 := rfl
    by_cases hov : over (UU mm bt z again n s0 k)
    · have e : F_X10_runs_b59 mm bt n z (nI M) again way f18 f20 f19 rn = Sum.inr (f18, f20, f19, rn) := by
        unfold F_X10_runs_b59
        rw [if_neg hg, s0', hov.1, if_neg (by decide), s1', hov.2, if_pos (by decide)]
      rw [e]
      exact ⟨k, _, _, _, _, rfl, by omega, Or.inr hov, hno, hm⟩
    · obtain ⟨a18, a20, a19, r2, e87, hm2⟩ := runs_body z again n way s0 h ho (by omega) hf hm
      have e : F_X10_runs_b59 mm bt n z (nI M) again way f18 f20 f19 rn = Sum.inl (a18, a20, a19, r2) := by
        unfold F_X10_runs_b59
        rw [if_neg hg]
        by_cases q : (0 : Int32) < rn 0
        · rw [if_pos q]; exact e87
        · rw [if_neg q, if_neg ?_]
          · exact e87
          · intro q1
            rw [s0', Int32.lt_iff_toInt_lt] at q
            rw [s1', Int32.le_iff_toInt_le] at q1
            exact hov ⟨Int32.toInt_inj.mp (by omega), Int32.toInt_inj.mp (by omega)⟩
      rw [e]
      exact ih (k + 1) a18 a20 a19 r2 (by omega) hm2 (fun i hi => by
        rcases Nat.lt_or_ge i k with q | q
        · exact hno i q
        · rw [show i = k by omega]; exact hov)
end RUNS
theorem K_unique {P : Nat → Prop} {M a b : Nat} (ha : a ≤ M) (ha1 : a = M ∨ P a) (ha2 : ∀ j, j < a → ¬ P j) (hb : b ≤ M) (hb1 : b = M ∨ P b) (hb2 : ∀ j, j < b → ¬ P j) : a = b := by
  rcases Nat.lt_trichotomy a b with q | q | q
  · rcases ha1 with e | e
    · omega
    · exact absurd e (hb2 a q)
  · exact q
  · rcases hb1 with e | e
    · omega
    · exact absurd e (ha2 b q)
/-- the start of a run -/
def ini (n : Int32) : Nat → Int32 := fun j => if j = 0 then (100 : Int32) * n else 0
def st0 (n : Int32) : (Nat → Int32) × Int32 := (ini n, if n = 0 then 0 else (-4 : Int32))
theorem st0_fair {n : Int32} (h : 0 ≤ n.toInt ∧ n.toInt ≤ 400) : Fair 0 (st0 n) := by
  have c100 : (100 : Int32).toInt = 100 := rfl
  have e : ((100 : Int32) * n).toInt = 100 * n.toInt := by rw [i_mul (by rw [c100]; omega) (by rw [c100]; omega), c100]
  refine ⟨?_, (show 0 ≤ (0 : Int32).toInt ∧ (0 : Int32).toInt ≤ 999 by decide), (show 0 ≤ (0 : Int32).toInt ∧ (0 : Int32).toInt ≤ 999 * ((0 : Nat) : Int) by decide), rfl, ?_, ?_⟩
  · show 0 ≤ ((100 : Int32) * n).toInt ∧ ((100 : Int32) * n).toInt ≤ 40000
    omega
  · show (if n = 0 then (0 : Int32) else (-4 : Int32)).toInt ≤ _
    split <;> decide
  · intro q
    have q : (if n = 0 then (0 : Int32) else (-4 : Int32)) = (-4 : Int32) := q
    split at q
    · exact absurd q (by decide)
    · rename_i hne
      show 0 < ((100 : Int32) * n).toInt
      have : ¬ n.toInt = 0 := fun x => hne (Int32.toInt_inj.mp (by rw [i_z]; exact x))
      omega
theorem zloop : ∀ (n k : Nat) (f : Nat → Int32), n + k = 6 → zr f (nI k) → ∃ (x : Int32) (g : Nat → Int32), F_X10_runs_l3 n (nI k) f = (x, g) ∧ ∀ j : Nat, j < 6 → g j = 0 := by
  intro n
  induction n with
  | zero =>
    intro k f hk hz
    refine ⟨_, _, rfl, fun j hj => hz j ?_⟩
    rw [nI_toInt (by omega)]; omega
  | succ n ih =>
    intro k f hk hz
    have hg : ¬ (6 : Int32) ≤ nI k := nI_ge (a := k) (b := 6) (by omega) (by omega)
    rw [F_X10_runs_l3]
    have e : F_X10_runs_b3 (nI k) f = Sum.inl (nI (k + 1), upd f (Int32.toNatClampNeg (nI k)) 0) := by
      unfold F_X10_runs_b3
      rw [if_neg hg, nI_1]
    rw [e]
    refine ih (k + 1) _ (by omega) ?_
    have := zr_step (b := (6 : Int32)) hg (by rw [nI_toInt (by omega)]; omega) hz
    rw [nI_1] at this
    exact this
