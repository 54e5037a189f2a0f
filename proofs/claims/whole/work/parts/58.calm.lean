/-! the places of calm runs: wise, just -/
def Calms (la cp : Nat → Int32) : Prop := ∀ n : Nat, n ≤ 400 → cp n = plc la (nI n) (-1 : Int32) 2
theorem nI_400 {k : Nat} (h : k ≤ 400) : 0 ≤ (nI k).toInt ∧ (nI k).toInt ≤ 400 := by rw [nI_toInt (by omega)]; omega
theorem learn_loop {la : Nat → Int32} (ho : RigOK la) (tl : Nat → Int32) : ∀ (j k : Nat) (a b c : Int32) (m d p cp : Nat → Int32), j + k = 401 → (∀ i : Nat, i < k → cp i = plc la (nI i) (-1 : Int32) 2) → ∃ (x a' b' c' : Int32) (m' d' p' cp' : Nat → Int32), F_X9_learnCalmPlaces_l10 la tl j (nI k) a b c m d p cp = (x, a', b', c', m', d', p', cp') ∧ Calms la cp' := by
  intro j
  induction j with
  | zero => intro k a b c m d p cp hk hc; exact ⟨_, _, _, _, _, _, _, _, rfl, fun i hi => hc i (by omega)⟩
  | succ j ih =>
    intro k a b c m d p cp hk hc
    have g : ¬ (401 : Int32) ≤ nI k := nI_ge (a := k) (b := 401) (by omega) (by omega)
    obtain ⟨a1, b1, c1, mo, path, e, hs⟩ := make_plc ho (upd (upd (upd tl 3 a) 4 b) 5 c) m d p (-1 : Int32) (nI_400 (show k ≤ 400 by omega))
    have eb : F_X9_learnCalmPlaces_b10 la tl (nI k) a b c m d p cp = Sum.inl (nI (k + 1), a1, b1, c1, mo, F_X0_fit d la, path, upd cp k (plc la (nI k) (-1 : Int32) 2)) := by
      unfold F_X9_learnCalmPlaces_b10
      rw [if_neg g, e]
      show Sum.inl (nI k + 1, a1, b1, c1, mo, F_X0_fit d la, path, upd cp (Int32.toNatClampNeg (nI k)) (mo 2)) = _
      rw [nI_1, nI_clamp (by omega), hs 2 (by decide)]
    rw [F_X9_learnCalmPlaces_l10, eb]
    refine ih (k + 1) _ _ _ _ _ _ _ (by omega) (fun i hi => ?_)
    by_cases q : i = k
    · rw [q, pk_us]
    · rw [pk_un q]; exact hc i (by omega)
def KCalm (la bb cp : Nat → Int32) : Prop := ¬ bb 12 = 0 → Calms la cp
theorem learn_ok {la bb cp : Nat → Int32} (ho : RigOK la) (hk : KCalm la bb cp) (tl m d p : Nat → Int32) : ∃ (v a' b' c' : Int32) (m' d' p' cp' : Nat → Int32), F_X9_learnCalmPlaces bb la tl m d p cp = (v, a', b', c', m', d', p', cp') ∧ Calms la cp' := by
  unfold F_X9_learnCalmPlaces
  by_cases q : bb 12 = 0
  · rw [if_pos q]
    obtain ⟨x, a', b', c', m', d', p', cp', e, hc⟩ := learn_loop ho tl 401 0 (tl 3) (tl 4) (tl 5) m d p cp (by decide) (fun i hi => by omega)
    have e : F_X9_learnCalmPlaces_l10 la tl 401 (0 : Int32) (tl 3) (tl 4) (tl 5) m d p cp = _ := e
    rw [e]
    exact ⟨_, _, _, _, _, _, _, _, rfl, hc⟩
  · rw [if_neg q]
    exact ⟨_, _, _, _, _, _, _, _, rfl, hk q⟩
def mmS (mm la : Nat → Int32) (a b c d : Int32) : Nat → Int32 := upd (upd (upd (upd (mmA mm la) 17 a) 18 b) 19 c) 20 d
theorem mrigS {la bt : Nat → Int32} (mm : Nat → Int32) (a b c d : Int32) (h : RRig la bt) : MRig la (mmS mm la a b c d) bt := mrigA mm h
theorem wise_loop {la bt cp : Nat → Int32} (h : RRig la bt) (hc : Calms la cp) (mm : Nat → Int32) : ∀ (j k : Nat) (x2 : Int64) (x1 a b c d : Int32) (rn : Nat → Int32), j + k = 401 → ∃ (x y : Int32) (w : Int64) (r a' b' c' d' : Int32) (rn' : Nat → Int32), F_X9_wise_l13 la cp j (nI k) x2 x1 = (x, w, r) ∧ F_X10_wise_l18 mm bt (la 2) (la 3) (la 4) (la 6) (la 7) (la 8) (la 13) j (nI k) x2 a b c d rn x1 = (y, w, a', b', c', d', rn', r) := by
  intro j
  induction j with
  | zero => intro k x2 x1 a b c d rn hk; exact ⟨_, _, _, _, _, _, _, _, _, rfl, rfl⟩
  | succ j ih =>
    intro k x2 x1 a b c d rn hk
    have g : ¬ (401 : Int32) ≤ nI k := nI_ge (a := k) (b := 401) (by omega) (by omega)
    obtain ⟨a1, b1, c1, d1, r2, e, hs⟩ := place_plc (mrigS mm a b c d h) h.1 rn (-1 : Int32) (nI_400 (show k ≤ 400 by omega))
    unfold mmS mmA at e
    have ea : F_X9_wise_b13 la cp (nI k) x2 x1 = F_X9_wise_k43 (nI k) x2 x1 (Int32.toInt64 (plc la (nI k) (-1 : Int32) 2) * Int32.toInt64 ((1000 : Int32) - F_X10_snapOf bt (nI k))) := by
      unfold F_X9_wise_b13
      rw [if_neg g, nI_clamp (by omega), hc k (by omega), a_snapOf h]
    have eb : F_X10_wise_b18 mm bt (la 2) (la 3) (la 4) (la 6) (la 7) (la 8) (la 13) (nI k) x2 a b c d rn x1 = F_X10_wise_k46 (nI k) x2 x1 a1 b1 c1 d1 r2 (Int32.toInt64 (plc la (nI k) (-1 : Int32) 2) * Int32.toInt64 ((1000 : Int32) - F_X10_snapOf bt (nI k))) := by
      unfold F_X10_wise_b18
      rw [if_neg g, e]
      dsimp only
      unfold F_X10_wise_k30
      rfl
    rw [F_X9_wise_l13, F_X10_wise_l18, ea, eb]
    generalize Int32.toInt64 (plc la (nI k) (-1 : Int32) 2) * Int32.toInt64 ((1000 : Int32) - F_X10_snapOf bt (nI k)) = v
    unfold F_X9_wise_k43 F_X10_wise_k46 F_X9_wise_j58 F_X10_wise_j61 F_X10_wise_j75
    rw [nI_1]
    by_cases q : lg_cmp v x2 ≤ (0 : Int32)
    · rw [if_pos q, if_pos q, if_pos q]
      exact ih (k + 1) _ _ _ _ _ _ _ (by omega)
    · rw [if_neg q, if_neg q, if_neg q]
      exact ih (k + 1) _ _ _ _ _ _ _ (by omega)
theorem a_wise {la bt bb cp : Nat → Int32} (h : RRig la bt) (hk : KCalm la bb cp) (mm tl m d p rn : Nat → Int32) : (F_X9_wise bb la tl m d p cp).1 = (F_X10_wise mm bt rn).1 ∧ Calms la (F_X9_wise bb la tl m d p cp).2.2.2.2.2.2.2.2 := by
  obtain ⟨v, a', b', c', m', d', p', cp', e, hc⟩ := learn_ok h.1 hk tl m d p
  obtain ⟨x, y, w, r, a1, b1, c1, d1, rn1, e1, e2⟩ := wise_loop h hc mm 401 0 (-1) 0 (mm 17) (mm 18) (mm 19) (mm 20) rn (by decide)
  have e1 : F_X9_wise_l13 la cp' 401 (0 : Int32) (-1 : Int64) (0 : Int32) = _ := e1
  have e2 : F_X10_wise_l18 mm bt (la 2) (la 3) (la 4) (la 6) (la 7) (la 8) (la 13) 401 (0 : Int32) (-1 : Int64) (mm 17) (mm 18) (mm 19) (mm 20) rn (0 : Int32) = _ := e2
  unfold F_X9_wise F_X10_wise
  rw [e, asIt h]
  dsimp only
  unfold F_X9_wise_k1 F_X10_wise_k6
  rw [e1, e2]
  exact ⟨rfl, hc⟩
theorem abs_off {v d : Int32} (hv : 0 ≤ v.toInt ∧ v.toInt ≤ 599400) (hd : 0 ≤ d.toInt ∧ d.toInt ≤ 99999) : mabs (v - d) = if d ≤ v then v - d else d - v := by
  unfold mabs
  by_cases q : d ≤ v
  · rw [if_pos q, if_pos]
    rw [Int32.le_iff_toInt_le] at q ⊢
    rw [i_sub (by omega) (by omega), i_z]
    omega
  · rw [if_neg q, if_neg]
    · apply Int32.toInt_inj.mp
      rw [i_sub (a := 0) (by rw [i_z, i_sub (by omega) (by omega)]; omega) (by rw [i_z, i_sub (by omega) (by omega)]; omega), i_z, i_sub (by omega) (by omega), i_sub (by omega) (by omega)]
      omega
    · rw [Int32.le_iff_toInt_le] at q ⊢
      rw [i_sub (by omega) (by omega), i_z]
      omega
theorem just_loop {la bt cp : Nat → Int32} (h : RRig la bt) (hc : Calms la cp) (mm : Nat → Int32) {D : Int32} (hd : 0 ≤ D.toInt ∧ D.toInt ≤ 99999) : ∀ (j k i : Nat) (a b c d : Int32) (rn : Nat → Int32), j + k = 401 → i ≤ 400 → ∃ (x y z : Int32) (i' : Nat) (a' b' c' d' : Int32) (rn' : Nat → Int32), i' ≤ 400 ∧ F_X9_just_l30 D cp j (nI k) (nI i) = (x, nI i') ∧ F_X10_just_l41 mm bt D (la 2) (la 3) (la 4) (la 6) (la 7) (la 8) (la 13) j (nI k) (mabs (cp i - D)) (cp i) (nI i) a b c d rn = (y, z, cp i', nI i', a', b', c', d', rn') := by
  intro j
  induction j with
  | zero => intro k i a b c d rn hk hi; exact ⟨_, _, _, i, _, _, _, _, _, hi, rfl, rfl⟩
  | succ j ih =>
    intro k i a b c d rn hk hi
    have g : ¬ (401 : Int32) ≤ nI k := nI_ge (a := k) (b := 401) (by omega) (by omega)
    obtain ⟨a1, b1, c1, d1, r2, e, hs⟩ := place_plc (mrigS mm a b c d h) h.1 rn (-1 : Int32) (nI_400 (show k ≤ 400 by omega))
    unfold mmS mmA at e
    have hv := (plc_bd h.1 (-1 : Int32) (nI_400 (show k ≤ 400 by omega))).1
    rw [F_X9_just_l30, F_X10_just_l41]
    have eb : F_X10_just_b41 mm bt D (la 2) (la 3) (la 4) (la 6) (la 7) (la 8) (la 13) (nI k) (mabs (cp i - D)) (cp i) (nI i) a b c d rn = if mabs (cp i - D) ≤ mabs (cp k - D) then Sum.inl (nI (k + 1), mabs (cp i - D), cp i, nI i, a1, b1, c1, d1, r2) else Sum.inl (nI (k + 1), mabs (cp k - D), cp k, nI k, a1, b1, c1, d1, r2) := by
      unfold F_X10_just_b41
      rw [if_neg g, e, hc k (by omega), abs_off hv hd]
      show F_X10_just_k53 D (nI k) (mabs (cp i - D)) (cp i) (nI i) (plc la (nI k) (-1 : Int32) 2) a1 b1 c1 d1 r2 = _
      unfold F_X10_just_k53 F_X10_just_j75 F_X10_just_j95
      rw [nI_1]
      by_cases q : D ≤ plc la (nI k) (-1 : Int32) 2
      · rw [if_pos q, if_pos q]
      · rw [if_neg q, if_neg q]
    have ea : F_X9_just_b30 D cp (nI k) (nI i) = if mabs (cp i - D) ≤ mabs (cp k - D) then Sum.inl (nI (k + 1), nI i) else Sum.inl (nI (k + 1), nI k) := by
      unfold F_X9_just_b30 F_X9_just_j69
      rw [if_neg g, nI_clamp (by omega), nI_clamp (by omega), nI_1]
    rw [ea, eb]
    by_cases q : mabs (cp i - D) ≤ mabs (cp k - D)
    · rw [if_pos q, if_pos q]
      exact ih (k + 1) i _ _ _ _ _ (by omega) hi
    · rw [if_neg q, if_neg q]
      exact ih (k + 1) k _ _ _ _ _ (by omega) (by omega)
theorem a_just {la bt bb cp : Nat → Int32} (h : RRig la bt) (hk : KCalm la bb cp) (mm tl m d p rn : Nat → Int32) (D what : Int32) : (F_X9_just bb la tl m d p cp D what).1 = (F_X10_just mm bt rn D what).1 ∧ (¬ (F_X9_just bb la tl m d p cp D what).2.1 = 0 → Calms la (F_X9_just bb la tl m d p cp D what).2.2.2.2.2.2.2.2) := by
  unfold F_X9_just F_X10_just
  rw [in_eq, in_eq]
  by_cases c1 : F_X9_within D (0 : Int32) (99999 : Int32) = 0
  · rw [if_pos c1, if_pos c1]; exact ⟨rfl, hk⟩
  rw [if_neg c1, if_neg c1]
  by_cases c2 : F_X9_within what (0 : Int32) (1 : Int32) = 0
  · rw [if_pos c2, if_pos c2]; exact ⟨rfl, hk⟩
  rw [if_neg c2, if_neg c2, asIt h]
  have hd := w_lo c1 (a := 0) (b := 99999) rfl rfl
  obtain ⟨v, a', b', c', m', d', p', cp', e, hc⟩ := learn_ok h.1 hk tl m d p
  have z0 : cp' 0 = 0 := by rw [hc 0 (by decide)]; exact (plc_bd h.1 (-1 : Int32) (nI_400 (show 0 ≤ 400 by decide))).2.2 rfl
  obtain ⟨x, y, z, i', a1, b1, c1', d1, rn1, hi, e1, e2⟩ := just_loop h hc mm hd 400 1 0 (mm 17) (mm 18) (mm 19) (mm 20) rn (by decide) (by decide)
  have e1 : F_X9_just_l30 D cp' 400 (1 : Int32) (0 : Int32) = _ := e1
  rw [z0] at e2
  have em : mabs ((0 : Int32) - D) = D := by
    rw [abs_off (by decide) hd]
    by_cases q : D ≤ 0
    · rw [if_pos q]
      rw [Int32.le_iff_toInt_le, i_z] at q
      have e0 : D = 0 := Int32.toInt_inj.mp (by rw [i_z]; omega)
      rw [e0]; rfl
    · rw [if_neg q, Int32.sub_zero]
  rw [em] at e2
  have e2 : F_X10_just_l41 mm bt D (la 2) (la 3) (la 4) (la 6) (la 7) (la 8) (la 13) 400 (1 : Int32) D (0 : Int32) (0 : Int32) (mm 17) (mm 18) (mm 19) (mm 20) rn = _ := e2
  rw [e]
  show (F_X9_just_k22 D what v a' b' c' m' d' p' cp').1 = (F_X10_just_k27 mm bt rn D what (la 2) (la 3) (la 4) (la 6) (la 7) (la 8) (la 13)).1 ∧ (_ → Calms la (F_X9_just_k22 D what v a' b' c' m' d' p' cp').2.2.2.2.2.2.2.2)
  unfold F_X9_just_k22 F_X10_just_k27
  rw [e1, e2]
  show (F_X9_just_x30 what v a' b' c' m' d' p' cp' (nI i')).1 = (F_X10_just_x41 what (la 2) (la 3) (la 4) (la 6) (la 7) (la 8) (la 13) (cp' i') (nI i') a1 b1 c1' d1 rn1).1 ∧ (_ → Calms la (F_X9_just_x30 what v a' b' c' m' d' p' cp' (nI i')).2.2.2.2.2.2.2.2)
  unfold F_X9_just_x30 F_X10_just_x41
  by_cases q : what = 0
  · rw [if_pos q, if_pos q]; exact ⟨rfl, fun _ => hc⟩
  · rw [if_neg q, if_neg q]
    refine ⟨?_, fun _ => hc⟩
    show cp' (Int32.toNatClampNeg (nI i')) = cp' i'
    rw [nI_clamp (by omega)]
