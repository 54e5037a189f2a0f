/-! told: times at marks -/
def RMarks (mk mp mt mm ma : Nat → Int32) : Prop := ∃ R : Nat, R ≤ 4 ∧ mk 2 = nI R ∧ mm 25 = nI R ∧ ∀ k : Nat, k < R → mp k = ma (2 * k) ∧ mt k = ma (2 * k + 1) ∧ (0 ≤ (mt k).toInt ∧ (mt k).toInt ≤ 600)
theorem latest_loop {mk mt : Nat → Int32} {R : Nat} (hR : R ≤ 4) (h2 : mk 2 = nI R) (hm : ∀ k : Nat, k < R → 0 ≤ (mt k).toInt ∧ (mt k).toInt ≤ 600) : ∀ (j k M : Nat), j + k = 4 → M ≤ 600 → (∀ i : Nat, i < k → i < R → (mt i).toInt ≤ M) → ∃ (x : Int32) (M' : Nat), F_X2_latest_l4 mk mt j (nI k) (nI M) = (x, nI M') ∧ M' ≤ 600 ∧ ∀ i : Nat, i < R → (mt i).toInt ≤ M' := by
  intro j
  induction j with
  | zero =>
    intro k M hk hM ha
    exact ⟨_, M, rfl, hM, fun i hi => ha i (by omega) hi⟩
  | succ j ih =>
    intro k M hk hM ha
    rw [F_X2_latest_l4]
    unfold F_X2_latest_b4
    rw [h2]
    by_cases q : nI R ≤ nI k
    · rw [if_pos q]
      rw [nI_leI (by omega) (by omega)] at q
      exact ⟨_, M, rfl, hM, fun i hi => ha i (by omega) hi⟩
    · rw [if_neg q, if_neg (show ¬ (4 : Int32) ≤ nI k from nI_ge (a := k) (b := 4) (by omega) (by omega)), nI_clamp (by omega)]
      rw [nI_leI (by omega) (by omega)] at q
      have b := hm k (by omega)
      unfold F_X2_latest_k27
      rw [nI_1]
      have eM : (nI M).toInt = M := nI_toInt (by omega)
      have em : mmax (nI M) (mt k) = nI (max M (mt k).toInt.toNat) := by
        apply Int32.toInt_inj.mp
        rw [nI_toInt (by omega)]
        unfold mmax
        split
        · rename_i c
          rw [Int32.lt_iff_toInt_lt, eM] at c
          omega
        · rename_i c
          rw [Int32.lt_iff_toInt_lt, eM] at c
          omega
      rw [em]
      refine ih (k + 1) _ (by omega) (by omega) (fun i h1 h3 => ?_)
      by_cases ek : i = k
      · rw [ek]; omega
      · have := ha i (by omega) h3
        omega
theorem latest_ok {mk mp mt mm ma : Nat → Int32} (h : RMarks mk mp mt mm ma) : ∃ M : Nat, F_X2_latest mk mt = nI M ∧ M ≤ 600 ∧ ∀ i : Nat, ∀ R : Nat, mk 2 = nI R → R ≤ 4 → i < R → (mt i).toInt ≤ M := by
  obtain ⟨R, hR, h2, m25, hk⟩ := h
  obtain ⟨x, M, e, hM, ha⟩ := latest_loop hR h2 (fun k hk' => (hk k hk').2.2) 4 0 0 (by decide) (by decide) (fun i hi => by omega)
  refine ⟨M, ?_, hM, fun i R' h2' hR' hi => ha i ?_⟩
  · have e : F_X2_latest_l4 mk mt 4 (0 : Int32) (0 : Int32) = _ := e
    unfold F_X2_latest
    rw [e]
    rfl
  · rw [h2, nI_eq (by omega) (by omega)] at h2'
    omega
theorem place_mono {rg mm bt : Nat → Int32} (h : MRig rg mm bt) (ho : RigOK rg) (z again n : Int32) (hn : 1 ≤ n.toInt ∧ n.toInt ≤ 400 ∨ again = 0) {s0 : (Nat → Int32) × Int32} (h0 : Fair 0 s0) (i : Nat) : ∀ d : Nat, i + d < 2000 → ((UU mm bt z again n s0 i).1 2).toInt ≤ ((UU mm bt z again n s0 (i + d)).1 2).toInt
  | 0, _ => Int.le_refl _
  | d + 1, hd => by
    have ih := place_mono h ho z again n hn h0 i d (by omega)
    have hf := fair_UU h ho z again n hn h0 (i + d) (by omega)
    have t := (tenth_fair h ho z (show i + d < 100000 by omega) hf.1 hf.2.2.1 hf.2.2.2.1).2.2.1.1
    have e : (UU mm bt z again n s0 (i + d + 1)).1 2 = F_X10_tenth mm bt (UU mm bt z again n s0 (i + d)).1 z 2 := by
      show (tnx _ _ _ _ _ _).1 2 = _
      unfold tnx
      split <;> rfl
    rw [show i + (d + 1) = i + d + 1 from rfl, e]
    exact Int.le_trans ih t
theorem runTo_min {mm bt : Nat → Int32} {z again n : Int32} {M Kc Kf : Nat} (hM : M ≤ 600) (hc : RunTo mm bt z again n M Kc) (hf : RunTo mm bt z again n 600 Kf) : Kc = min M Kf := by
  obtain ⟨c1, c2, c3⟩ := hc
  obtain ⟨f1, f2, f3⟩ := hf
  rcases c2 with c2 | c2
  · have : ¬ Kf < M := by
      intro w
      rcases f2 with f2 | f2
      · omega
      · exact c3 Kf (by omega) f2
    omega
  · have : Kf = Kc := by
      rcases Nat.lt_trichotomy Kf Kc with w | w | w
      · rcases f2 with f2 | f2
        · omega
        · exact absurd f2 (c3 Kf w)
      · exact w
      · exact absurd c2 (f3 Kc w)
    omega
/-- looking at one place of the path tells whether the mark was reached -/
theorem reach_iff {tl path U : Nat → Int32} {M Kc Kf : Nat} (hM : M ≤ 600) (hK : Kc = min M Kf) (hKf : Kf ≤ 600) (h3 : tl 3 = nI Kc) (hp : ∀ j : Nat, 1 ≤ j → j ≤ Kc → path j = U j) (hmo : ∀ i d : Nat, i + d ≤ 600 → (U i).toInt ≤ (U (i + d)).toInt) {T d : Int32} (hT : T.toInt ≤ M) : (¬ F_X8_reachedBy tl path T d = 0) ↔ ∃ r : Nat, 1 ≤ r ∧ (r : Int) ≤ T.toInt ∧ r ≤ Kf ∧ ¬ U r < d := by
  unfold F_X8_reachedBy F_X8_reachedBy_k8
  have eK : (nI Kc).toInt = Kc := nI_toInt (by omega)
  have c601 : (601 : Int32).toInt = 601 := rfl
  rw [h3]
  have em : (mmin T (nI Kc)).toInt = min T.toInt Kc := by
    unfold mmin
    split
    · rename_i c
      rw [Int32.lt_iff_toInt_lt, eK] at c
      omega
    · rename_i c
      rw [Int32.lt_iff_toInt_lt, eK] at c
      omega
  generalize mmin T (nI Kc) = L at em
  by_cases q : L ≤ 0
  · rw [if_pos q]
    rw [Int32.le_iff_toInt_le, i_z] at q
    refine ⟨fun w => absurd rfl w, fun ⟨r, r1, r2, r3, r4⟩ => ?_⟩
    omega
  · rw [if_neg q]
    rw [Int32.le_iff_toInt_le, i_z] at q
    rw [if_neg (by rw [Int32.le_iff_toInt_le]; omega)]
    have eL : L = nI L.toInt.toNat := Int32.toInt_inj.mp (by rw [nI_toInt (by omega)]; omega)
    have ec : Int32.toNatClampNeg L = L.toInt.toNat := by rw [eL, nI_clamp (by omega), nI_toInt (by omega)]; omega
    rw [ec, hp _ (by omega) (by omega)]
    by_cases w : U L.toInt.toNat < d
    · rw [if_pos w]
      refine ⟨fun x => absurd rfl x, fun ⟨r, r1, r2, r3, r4⟩ => ?_⟩
      have hle : r ≤ L.toInt.toNat := by omega
      have mo := hmo r (L.toInt.toNat - r) (by omega)
      rw [show r + (L.toInt.toNat - r) = L.toInt.toNat by omega] at mo
      rw [Int32.lt_iff_toInt_lt] at w r4
      omega
    · rw [if_neg w]
      exact ⟨fun _ => ⟨L.toInt.toNat, by omega, by omega, by omega, w⟩, fun _ => by decide⟩
theorem mark_iff {tl path U : Nat → Int32} {M Kc Kf : Nat} (hM : M ≤ 600) (hK : Kc = min M Kf) (hKf : Kf ≤ 600) (h3 : tl 3 = nI Kc) (hp : ∀ j : Nat, 1 ≤ j → j ≤ Kc → path j = U j) (hmo : ∀ i d : Nat, i + d ≤ 600 → (U i).toInt ≤ (U (i + d)).toInt) {t d e f : Int32} (ht : 0 ≤ t.toInt ∧ t.toInt ≤ M) (he : 0 ≤ e.toInt ∧ e.toInt ≤ 50) (hr : Rch U d Kf f) : ((¬ F_X8_reachedBy tl path t d = 0) ∧ F_X8_reachedBy tl path ((t - e) - 1) d = 0) ↔ ¬ f = (-4 : Int32) ∧ ¬ t < f ∧ ¬ e < t - f := by
  have c1 : (1 : Int32).toInt = 1 := rfl
  have s1 : (t - e).toInt = t.toInt - e.toInt := i_sub (by omega) (by omega)
  have s2 : ((t - e) - 1).toInt = t.toInt - e.toInt - 1 := by rw [i_sub (by rw [s1, c1]; omega) (by rw [s1, c1]; omega), s1, c1]
  have a1 := reach_iff (d := d) hM hK hKf h3 hp hmo (T := t) ht.2
  have a2 := reach_iff (d := d) hM hK hKf h3 hp hmo (T := (t - e) - 1) (by rw [s2]; omega)
  rcases hr with ⟨f1, f2⟩ | ⟨r0, r1, r2, r3, r4, r5⟩
  · constructor
    · intro ⟨w, _⟩
      obtain ⟨r, x1, x2, x3, x4⟩ := a1.mp w
      exact absurd (f2 r x1 x3) x4
    · intro ⟨w, _⟩
      exact absurd f1 w
  · have ef : f.toInt = r0 := by rw [r3, nI_toInt (by omega)]
    have hne : ¬ f = (-4 : Int32) := by
      intro w
      rw [w] at ef
      have : (-4 : Int32).toInt = -4 := rfl
      omega
    have key : ∀ T : Int32, (∃ r : Nat, 1 ≤ r ∧ (r : Int) ≤ T.toInt ∧ r ≤ Kf ∧ ¬ U r < d) ↔ (r0 : Int) ≤ T.toInt := by
      intro T
      constructor
      · intro ⟨r, x1, x2, x3, x4⟩
        rcases Nat.lt_or_ge r r0 with w | w
        · exact absurd (r5 r x1 w) x4
        · omega
      · intro w
        exact ⟨r0, r1, w, r2, r4⟩
    rw [key] at a1 a2
    have s3 : (t - f).toInt = t.toInt - f.toInt := i_sub (by omega) (by omega)
    have b2 : F_X8_reachedBy tl path ((t - e) - 1) d = 0 ↔ ¬ (r0 : Int) ≤ ((t - e) - 1).toInt := ⟨fun w x => (a2.mpr x) w, fun w => Decidable.by_contra (fun x => w (a2.mp x))⟩
    rw [a1, b2, s2, Int32.lt_iff_toInt_lt, Int32.lt_iff_toInt_lt, s3, ef]
    constructor
    · intro ⟨w1, w2⟩; exact ⟨hne, by omega, by omega⟩
    · intro ⟨_, w1, w2⟩; exact ⟨by omega, by omega⟩
theorem agree_iff {mk mp mt tl path : Nat → Int32} {e : Int32} {R : Nat} (hR : R ≤ 4) (h2 : mk 2 = nI R) : ∀ (j k : Nat), j + k = 4 → ((¬ F_X2_agree_l2 mk mp mt tl path e j (nI k) = 0) ↔ ∀ i : Nat, k ≤ i → i < R → (¬ F_X8_reachedBy tl path (mt i) (mp i) = 0) ∧ F_X8_reachedBy tl path ((mt i - e) - 1) (mp i) = 0) := by
  intro j
  induction j with
  | zero =>
    intro k hk
    exact ⟨fun _ i h1 h2 => by omega, fun _ => by show ¬ (1 : Int32) = 0; decide⟩
  | succ j ih =>
    intro k hk
    rw [F_X2_agree_l2]
    unfold F_X2_agree_b2
    rw [h2]
    by_cases q : nI R ≤ nI k
    · rw [if_pos q]
      rw [nI_leI (by omega) (by omega)] at q
      exact ⟨fun _ i h1 h2 => by omega, fun _ => by show ¬ (1 : Int32) = 0; decide⟩
    · rw [if_neg q, if_neg (show ¬ (4 : Int32) ≤ nI k from nI_ge (a := k) (b := 4) (by omega) (by omega)), nI_clamp (by omega)]
      rw [nI_leI (by omega) (by omega)] at q
      by_cases c : F_X8_reachedBy tl path (mt k) (mp k) = 0
      · rw [if_pos c]
        exact ⟨fun hh => absurd rfl hh, fun hh => absurd c (hh k (by omega) (by omega)).1⟩
      · rw [if_neg c]
        by_cases c2 : F_X8_reachedBy tl path ((mt k - e) - 1) (mp k) = 0
        · rw [if_pos c2, nI_1]
          dsimp only
          rw [ih (k + 1) (by omega)]
          refine ⟨fun hh i h1 h2 => ?_, fun hh i h1 h2 => hh i (by omega) h2⟩
          by_cases ek : i = k
          · rw [ek]; exact ⟨c, c2⟩
          · exact hh i (by omega) h2
        · rw [if_neg c2]
          exact ⟨fun hh => absurd rfl hh, fun hh => absurd (hh k (by omega) (by omega)).2 c2⟩
theorem by_iff {mm ma wh : Nat → Int32} {e : Int32} {R : Nat} (hR : R ≤ 4) (h2 : mm 25 = nI R) : ∀ (j k : Nat) (x2 : Int32), j + k = 4 → ((¬ (F_X10_isByMarks_l4 mm ma wh e j (nI k) x2).2 = 0) ↔ ¬ x2 = 0 ∧ ∀ i : Nat, k ≤ i → i < R → ¬ wh i = (-4 : Int32) ∧ ¬ ma (2 * i + 1) < wh i ∧ ¬ e < ma (2 * i + 1) - wh i) := by
  intro j
  induction j with
  | zero =>
    intro k x2 hk
    exact ⟨fun w => ⟨w, fun i h1 h2 => by omega⟩, fun w => w.1⟩
  | succ j ih =>
    intro k x2 hk
    rw [F_X10_isByMarks_l4]
    unfold F_X10_isByMarks_b4 F_X10_isByMarks_j71 F_X10_isByMarks_j72
    rw [h2]
    by_cases q : nI R ≤ nI k
    · rw [if_pos q]
      rw [nI_leI (by omega) (by omega)] at q
      exact ⟨fun w => ⟨w, fun i h1 h2 => by omega⟩, fun w => w.1⟩
    · rw [if_neg q]
      rw [nI_leI (by omega) (by omega)] at q
      rw [show (2 : Int32) = nI 2 from rfl, pk_mul, show (1 : Int32) = nI 1 from rfl, nI_add, nI_add, nI_clamp (by omega), nI_clamp (by omega)]
      by_cases c0 : x2 = 0
      · rw [if_pos c0]
        dsimp only
        rw [ih (k + 1) 0 (by omega)]
        exact ⟨fun w => absurd rfl w.1, fun w => absurd c0 w.1⟩
      rw [if_neg c0]
      by_cases c1 : wh k = (-4 : Int32)
      · rw [if_pos c1]
        dsimp only
        rw [ih (k + 1) 0 (by omega)]
        exact ⟨fun w => absurd rfl w.1, fun w => absurd c1 (w.2 k (by omega) (by omega)).1⟩
      rw [if_neg c1]
      by_cases c2 : ma (2 * k + 1) < wh k
      · rw [if_pos c2]
        dsimp only
        rw [ih (k + 1) 0 (by omega)]
        exact ⟨fun w => absurd rfl w.1, fun w => absurd c2 (w.2 k (by omega) (by omega)).2.1⟩
      rw [if_neg c2]
      by_cases c3 : e < ma (2 * k + 1) - wh k
      · rw [if_pos c3]
        dsimp only
        rw [ih (k + 1) 0 (by omega)]
        exact ⟨fun w => absurd rfl w.1, fun w => absurd c3 (w.2 k (by omega) (by omega)).2.2⟩
      rw [if_neg c3]
      dsimp only
      rw [ih (k + 1) (nI 1) (by omega)]
      refine ⟨fun hh => ⟨c0, fun i h1 h2 => ?_⟩, fun hh => ⟨by decide, fun i h1 h2 => hh.2 i (by omega) h2⟩⟩
      by_cases ek : i = k
      · rw [ek]; exact ⟨c1, c2, c3⟩
      · exact hh.2 i (by omega) h2
theorem whens_loop {mm ma g2 : Nat → Int32} {R : Nat} (hR : R ≤ 4) (h2 : mm 25 = nI R) (wh0 : Nat → Int32) : ∀ (j k : Nat) (wh : Nat → Int32), j + k = 4 → (∀ i : Nat, k ≤ i → wh i = wh0 i) → (∀ i : Nat, i < k → i < R → wh i = if wh0 i = (-4 : Int32) ∧ ¬ g2 2 < ma (2 * i) then g2 5 else wh0 i) → ∃ (x : Int32) (wh' : Nat → Int32), F_X10_runsByMarks_l93 mm ma g2 j (nI k) wh = (x, wh') ∧ ∀ i : Nat, i < R → wh' i = if wh0 i = (-4 : Int32) ∧ ¬ g2 2 < ma (2 * i) then g2 5 else wh0 i := by
  intro j
  induction j with
  | zero =>
    intro k wh hk h1 h3
    exact ⟨_, _, rfl, fun i hi => h3 i (by omega) hi⟩
  | succ j ih =>
    intro k wh hk h1 h3
    rw [F_X10_runsByMarks_l93]
    unfold F_X10_runsByMarks_b93 F_X10_runsByMarks_j143 F_X10_runsByMarks_j149
    rw [h2]
    by_cases q : nI R ≤ nI k
    · rw [if_pos q]
      rw [nI_leI (by omega) (by omega)] at q
      exact ⟨_, _, rfl, fun i hi => h3 i (by omega) hi⟩
    · rw [if_neg q, nI_1]
      rw [nI_leI (by omega) (by omega)] at q
      rw [show (2 : Int32) = nI 2 from rfl, pk_mul, nI_clamp (by omega), nI_clamp (by omega), h1 k (by omega)]
      have fin : ∀ v : Int32, v = (if wh0 k = (-4 : Int32) ∧ ¬ g2 2 < ma (2 * k) then g2 5 else wh0 k) → ∃ (x : Int32) (wh' : Nat → Int32), F_X10_runsByMarks_l93 mm ma g2 j (nI (k + 1)) (upd wh k v) = (x, wh') ∧ ∀ i : Nat, i < R → wh' i = if wh0 i = (-4 : Int32) ∧ ¬ g2 2 < ma (2 * i) then g2 5 else wh0 i := by
        intro v hv
        refine ih (k + 1) _ (by omega) (fun i hi => ?_) (fun i hi hR' => ?_)
        · rw [pk_un (by omega)]; exact h1 i (by omega)
        · by_cases ek : i = k
          · rw [ek, pk_us]; exact hv
          · rw [pk_un ek]; exact h3 i (by omega) hR'
      by_cases c : wh0 k = (-4 : Int32)
      · rw [if_pos c]
        by_cases c2 : g2 2 < ma (2 * k)
        · rw [if_pos c2]
          exact fin _ (by rw [if_neg (fun w => w.2 c2)])
        · rw [if_neg c2]
          exact fin _ (by rw [if_pos ⟨c, c2⟩])
      · rw [if_neg c]
        exact fin _ (by rw [if_neg (fun w => c w.1)])
theorem tenth_tnx (mm bt : Nat → Int32) (z n : Int32) (s : (Nat → Int32) × Int32) : Sim (F_X10_tenth mm bt s.1 z) (tnx mm bt z 0 n s).1 := by
  unfold tnx
  split
  · rename_i c
    intro j hj
    show _ = upd (F_X10_tenth mm bt s.1 z) 0 (if (0 : Int32) = 0 then 0 else (100 : Int32) * n) j
    rw [if_pos rfl]
    by_cases q : j = 0
    · rw [q, pk_us]; exact c.2
    · rw [pk_un q]
  · exact Sim.rfl' _
theorem marks_loop {rg mm bt ma : Nat → Int32} (h : MRig rg mm bt) (ho : RigOK rg) {n : Int32} (ht : 0 ≤ n.toInt ∧ n.toInt ≤ 400) {R : Nat} (hR : R ≤ 4) (h2 : mm 25 = nI R) : ∀ (j k : Nat) (x : Int32) (rn wh : Nat → Int32), j + k = 600 → Sim rn (UU mm bt (-1 : Int32) 0 n (st0 n) k).1 → (∀ i : Nat, i < R → Rch (fun j => (UU mm bt (-1 : Int32) 0 n (st0 n) j).1 2) (ma (2 * i)) k (wh i)) → (∀ i, i < k → ¬ over (UU mm bt (-1 : Int32) 0 n (st0 n) i)) → ∃ (Kf : Nat) (x' : Int32) (rn' wh' : Nat → Int32), F_X10_runsByMarks_l52 mm bt ma j x rn wh = (x', rn', wh') ∧ RunTo mm bt (-1 : Int32) 0 n 600 Kf ∧ ∀ i : Nat, i < R → Rch (fun j => (UU mm bt (-1 : Int32) 0 n (st0 n) j).1 2) (ma (2 * i)) Kf (wh' i) := by
  intro j
  induction j with
  | zero =>
    intro k x rn wh hk hs hw hno
    exact ⟨k, _, _, _, rfl, ⟨by omega, Or.inl (by omega), hno⟩, hw⟩
  | succ j ih =>
    intro k x rn wh hk hs hw hno
    have hf := fair_UU h ho (-1 : Int32) 0 n (Or.inr rfl) (st0_fair ht) k (by omega)
    obtain ⟨f0, f1, f2, f5, fu, fp⟩ := id hf
    have s0' := hs 0 (by decide)
    have s1' := hs 1 (by decide)
    have s5' := hs 5 (by decide)
    have hg : ¬ (600 : Int32) ≤ rn 5 := by rw [s5', f5]; exact nI_ge (a := k) (b := 600) (by omega) (by omega)
    rw [F_X10_runsByMarks_l52]
    have z0 : (0 : Int32).toInt = 0 := rfl
    by_cases hov : over (UU mm bt (-1 : Int32) 0 n (st0 n) k)
    · have e : F_X10_runsByMarks_b52 mm bt ma x rn wh = Sum.inr (x, rn, wh) := by
        unfold F_X10_runsByMarks_b52
        rw [if_neg hg, s0', hov.1, if_neg (by decide), s1', hov.2, if_pos (by decide)]
      rw [e]
      exact ⟨k, _, _, _, rfl, ⟨by omega, Or.inr hov, hno⟩, hw⟩
    · have hsT : Sim (F_X10_tenth mm bt rn (-1 : Int32)) (UU mm bt (-1 : Int32) 0 n (st0 n) (k + 1)).1 := (tenth_congr (mm := mm) (bt := bt) (-1 : Int32) hs).trans (tenth_tnx mm bt (-1 : Int32) n _)
      have t5e : F_X10_tenth mm bt rn (-1 : Int32) 5 = nI (k + 1) := ((tenth_congr (mm := mm) (bt := bt) (-1 : Int32) hs) 5 (by decide)).trans (tenth_fair h ho (-1 : Int32) (show k < 100000 by omega) f0 f2 f5).2.2.2
      obtain ⟨x', wh', e93, hw'⟩ := whens_loop (ma := ma) (g2 := F_X10_tenth mm bt rn (-1 : Int32)) hR h2 wh 4 0 wh (by decide) (fun i _ => rfl) (fun i hi => by omega)
      have e93 : F_X10_runsByMarks_l93 mm ma (F_X10_tenth mm bt rn (-1 : Int32)) 4 (0 : Int32) wh = _ := e93
      have e82 : F_X10_runsByMarks_j82 mm bt ma rn wh = Sum.inl (x', F_X10_tenth mm bt rn (-1 : Int32), wh') := by
        unfold F_X10_runsByMarks_j82 F_X10_runsByMarks_k88
        rw [e93]
        rfl
      have e : F_X10_runsByMarks_b52 mm bt ma x rn wh = Sum.inl (x', F_X10_tenth mm bt rn (-1 : Int32), wh') := by
        unfold F_X10_runsByMarks_b52
        rw [if_neg hg]
        by_cases q : (0 : Int32) < rn 0
        · rw [if_pos q]; exact e82
        · rw [if_neg q, if_neg ?_]
          · exact e82
          · intro q1
            rw [s0', Int32.lt_iff_toInt_lt] at q
            rw [s1', Int32.le_iff_toInt_le] at q1
            exact hov ⟨Int32.toInt_inj.mp (by omega), Int32.toInt_inj.mp (by omega)⟩
      rw [e]
      refine ih (k + 1) _ _ _ (by omega) hsT (fun i hi => ?_) (fun i hi => by
        rcases Nat.lt_or_ge i k with q | q
        · exact hno i q
        · rw [show i = k by omega]; exact hov)
      have st := (hw i hi).step (by omega)
      rw [hw' i hi, t5e, hsT 2 (by decide)]
      exact st
theorem wh_loop : ∀ (j k : Nat) (f : Nat → Int32), j + k = 4 → (∀ i : Nat, i < k → f i = (-4 : Int32)) → ∃ (x : Int32) (g : Nat → Int32), F_X10_runsByMarks_l2 j (nI k) f = (x, g) ∧ ∀ i : Nat, i < 4 → g i = (-4 : Int32) := by
  intro j
  induction j with
  | zero => intro k f hk hf; exact ⟨_, _, rfl, fun i hi => hf i (by omega)⟩
  | succ j ih =>
    intro k f hk hf
    have e : F_X10_runsByMarks_b2 (nI k) f = Sum.inl (nI (k + 1), upd f k (-4 : Int32)) := by
      unfold F_X10_runsByMarks_b2
      rw [if_neg (show ¬ (4 : Int32) ≤ nI k from nI_ge (a := k) (b := 4) (by omega) (by omega)), nI_1, nI_clamp (by omega)]
    rw [F_X10_runsByMarks_l2, e]
    refine ih (k + 1) _ (by omega) (fun i hi => ?_)
    by_cases q : i = k
    · rw [q, pk_us]
    · rw [pk_un q]; exact hf i (by omega)
theorem rz_loop : ∀ (j k : Nat) (f : Nat → Int32), j + k = 6 → (∀ i : Nat, i < k → f i = 0) → ∃ (x : Int32) (g : Nat → Int32), F_X10_runsByMarks_l23 j (nI k) f = (x, g) ∧ ∀ i : Nat, i < 6 → g i = 0 := by
  intro j
  induction j with
  | zero => intro k f hk hf; exact ⟨_, _, rfl, fun i hi => hf i (by omega)⟩
  | succ j ih =>
    intro k f hk hf
    have e : F_X10_runsByMarks_b23 (nI k) f = Sum.inl (nI (k + 1), upd f k (0 : Int32)) := by
      unfold F_X10_runsByMarks_b23
      rw [if_neg (show ¬ (6 : Int32) ≤ nI k from nI_ge (a := k) (b := 6) (by omega) (by omega)), nI_1, nI_clamp (by omega)]
    rw [F_X10_runsByMarks_l23, e]
    refine ih (k + 1) _ (by omega) (fun i hi => ?_)
    by_cases q : i = k
    · rw [q, pk_us]
    · rw [pk_un q]; exact hf i (by omega)
theorem marks_full {rg mm bt : Nat → Int32} (h : MRig rg mm bt) (ho : RigOK rg) (rn ma wh : Nat → Int32) {n : Int32} (ht : 0 ≤ n.toInt ∧ n.toInt ≤ 400) {R : Nat} (hR : R ≤ 4) (h2 : mm 25 = nI R) : ∃ (Kf : Nat) (rn' wh' : Nat → Int32), F_X10_runsByMarks mm bt rn ma wh n = (rn', wh') ∧ RunTo mm bt (-1 : Int32) 0 n 600 Kf ∧ ∀ i : Nat, i < R → Rch (fun j => (UU mm bt (-1 : Int32) 0 n (st0 n) j).1 2) (ma (2 * i)) Kf (wh' i) := by
  obtain ⟨x1, w1, e1, hw1⟩ := wh_loop 4 0 wh (by decide) (fun i hi => by omega)
  have e1 : F_X10_runsByMarks_l2 4 (0 : Int32) wh = _ := e1
  obtain ⟨x2, r1, e2, hr1⟩ := rz_loop 6 0 rn (by decide) (fun i hi => by omega)
  have e2 : F_X10_runsByMarks_l23 6 (0 : Int32) rn = _ := e2
  obtain ⟨Kf, x', rn', wh', e3, k1, k2⟩ := marks_loop (ma := ma) h ho ht hR h2 600 0 x2 (upd r1 0 ((100 : Int32) * n)) w1 (by decide) (fun j hj => by
    rcases (show j = 0 ∨ j = 1 ∨ j = 2 ∨ j = 3 ∨ j = 4 ∨ j = 5 by omega) with rfl | rfl | rfl | rfl | rfl | rfl
    · rfl
    all_goals exact hr1 _ (by decide)) (fun i hi => Or.inl ⟨hw1 i (by omega), fun j h1 h2 => by omega⟩) (fun i hi => by omega)
  refine ⟨Kf, rn', wh', ?_, k1, k2⟩
  unfold F_X10_runsByMarks
  rw [e1]
  dsimp only
  unfold F_X10_runsByMarks_x2
  rw [e2]
  dsimp only
  unfold F_X10_runsByMarks_x23 F_X10_runsByMarks_k51
  rw [e3]
  rfl
