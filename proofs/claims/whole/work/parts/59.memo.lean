/-! memos: span, straight, best -/
theorem mlearn_loop (N : Nat) (hN : N < 1000) : ∀ (j k : Nat) (f : Nat → Int32), j + k = N → (∀ i : Nat, i < k → f i = 0) → ∃ (x : Int32) (g : Nat → Int32), F_X3_learn_l17 N j (nI k) f = (x, g) ∧ ∀ i : Nat, i < N → g i = 0 := by
  intro j
  induction j with
  | zero => intro k f hk hf; exact ⟨_, _, rfl, fun i hi => hf i (by omega)⟩
  | succ j ih =>
    intro k f hk hf
    have g : ¬ nI N ≤ nI k := nI_ge (by omega) (by omega)
    have e : F_X3_learn_b17 N (nI k) f = Sum.inl (nI (k + 1), upd f k 0) := by
      unfold F_X3_learn_b17
      rw [if_neg g, nI_1, nI_clamp (by omega)]
    rw [F_X3_learn_l17, e]
    refine ih (k + 1) _ (by omega) (fun i hi => ?_)
    by_cases q : i = k
    · rw [q, pk_us]
    · rw [pk_un q]; exact hf i (by omega)
theorem mlearn (N : Nat) (hN : N < 1000) (f : Nat → Int32) (a b : Int32) : ∃ g : Nat → Int32, F_X3_learn N f a b = (1, a, b, g) ∧ ∀ i : Nat, i < N → g i = 0 := by
  obtain ⟨x, g, e, hg⟩ := mlearn_loop N hN N 0 f (by omega) (fun i hi => by omega)
  have e : F_X3_learn_l17 N N (0 : Int32) f = _ := e
  unfold F_X3_learn
  rw [e]
  exact ⟨g, rfl, hg⟩
theorem m_put {N w : Nat} (hw : w < N) (hN : N < 1000) (f : Nat → Int32) (x : Int32) : F_X3_put N f (nI w) x = upd f w x := by
  unfold F_X3_put
  rw [if_neg (nI_pos (by omega)), if_neg (nI_ge hw (by omega)), nI_clamp (by omega)]
theorem m_ans {N w : Nat} (hw : w < N) (hN : N < 1000) (f : Nat → Int32) : F_X3_answer N f (nI w) = f w := by
  unfold F_X3_answer
  rw [if_neg (nI_pos (by omega)), if_neg (nI_ge hw (by omega)), nI_clamp (by omega)]
theorem holds_ne {me : Nat → Int32} {a b : Int32} (h : ¬ F_X3_holds me a b = 0) : ¬ me 1 = 0 ∧ me 2 = a ∧ me 3 = b := by
  unfold F_X3_holds at h
  split at h
  · exact absurd rfl h
  · rename_i h1
    split at h
    · rename_i h2
      split at h
      · rename_i h3; exact ⟨h1, h2, h3⟩
      · exact absurd rfl h
    · exact absurd rfl h
/-- span: from the second run on -/
theorem span_loop {la bt : Nat → Int32} (h : RRig la bt) (tl mm : Nat → Int32) {n : Int32} (z : Int32) (ht : 0 ≤ n.toInt ∧ n.toInt ≤ 400) : ∀ (j k : Nat) (a b c : Int32) (m d p g : Nat → Int32) (s17 s18 s19 s20 : Int32) (rn : Nat → Int32), j + k = 10 → 1 ≤ k → ∃ (x a' b' c' : Int32) (m' d' p' g' : Nat → Int32) (y t17 t18 t19 t20 : Int32) (rn' : Nat → Int32), F_X9_searchSpan_l11 la tl n z j (nI k) a b c m d p g = (x, a', b', c', m', d', p', g') ∧ F_X10_span_l53 mm bt n z (la 2) (la 3) (la 4) (la 6) (la 7) (la 8) (la 13) j (nI k) (g 1) (g 0) s17 s18 s19 s20 rn = (y, g' 1, g' 0, t17, t18, t19, t20, rn') := by
  intro j
  induction j with
  | zero => intro k a b c m d p g s17 s18 s19 s20 rn hk h1; exact ⟨_, _, _, _, _, _, _, _, _, _, _, _, _, _, rfl, rfl⟩
  | succ j ih =>
    intro k a b c m d p g s17 s18 s19 s20 rn hk h1
    have gd : ¬ (10 : Int32) ≤ nI k := nI_ge (a := k) (b := 10) (by omega) (by omega)
    have k0 : ¬ nI k = 0 := nI_ne0 (by omega) (by omega)
    obtain ⟨a1, b1, c1, mo, path, e, hs⟩ := make_plc h.1 (upd (upd (upd tl 3 a) 4 b) 5 c) m d p ((z + nI k) - (z + nI k) / (10000 : Int32) * (10000 : Int32)) ht
    obtain ⟨a2, b2, c2, d2, r2, e2, hs2⟩ := place_plc (mrigS mm s17 s18 s19 s20 h) h.1 rn ((z + nI k) - (z + nI k) / (10000 : Int32) * (10000 : Int32)) ht
    unfold mmS mmA at e2
    have hv := hs 2 (by decide)
    generalize plc la n ((z + nI k) - (z + nI k) / (10000 : Int32) * (10000 : Int32)) 2 = v at e2 hv
    have ea : F_X9_searchSpan_b11 la tl n z (nI k) a b c m d p g = Sum.inl (nI (k + 1), a1, b1, c1, mo, F_X0_fit d la, path, (if v ≤ (if g 0 ≤ v then g else upd g 0 v) 1 then (if g 0 ≤ v then g else upd g 0 v) else upd (if g 0 ≤ v then g else upd g 0 v) 1 v)) := by
      unfold F_X9_searchSpan_b11
      rw [if_neg gd, e]
      dsimp only
      have e79 : ∀ gg : Nat → Int32, F_X9_searchSpan_j79 (nI k) a1 b1 c1 mo (F_X0_fit d la) path gg = Sum.inl (nI (k + 1), a1, b1, c1, mo, F_X0_fit d la, path, (if v ≤ gg 1 then gg else upd gg 1 v)) := by
        intro gg
        unfold F_X9_searchSpan_j79 F_X9_searchSpan_j96 F_X9_searchSpan_k103 F_X9_searchSpan_j106
        rw [if_neg k0, show (1 : Int32) = nI 1 from rfl, m_ans (by decide) (by decide), m_put (by decide) (by decide), hv, nI_add]
        by_cases q : v ≤ gg 1
        · rw [if_pos q, if_pos q]
        · rw [if_neg q, if_neg q]
      unfold F_X9_searchSpan_k37 F_X9_searchSpan_j69 F_X9_searchSpan_k76
      rw [if_neg k0, show F_X3_answer 2 g (0 : Int32) = g 0 from m_ans (N := 2) (w := 0) (by decide) (by decide) g, show F_X3_put 2 g (0 : Int32) (mo 2) = upd g 0 (mo 2) from m_put (N := 2) (w := 0) (by decide) (by decide) g _, hv, e79, e79]
      by_cases q : g 0 ≤ v
      · rw [if_pos q, if_pos q]
      · rw [if_neg q, if_neg q]
    have eb : F_X10_span_b53 mm bt n z (la 2) (la 3) (la 4) (la 6) (la 7) (la 8) (la 13) (nI k) (g 1) (g 0) s17 s18 s19 s20 rn = Sum.inl (nI (k + 1), (if v ≤ g 1 then g 1 else v), (if g 0 ≤ v then g 0 else v), a2, b2, c2, d2, r2) := by
      unfold F_X10_span_b53
      rw [if_neg gd, e2]
      dsimp only
      unfold F_X10_span_k70 F_X10_span_j89 F_X10_span_j105
      rw [nI_1]
      by_cases q : g 0 ≤ v <;> by_cases q1 : v ≤ g 1
      · rw [if_pos q, if_pos q1, if_pos q, if_pos q1]
      · rw [if_pos q, if_neg q1, if_pos q, if_neg q1]
      · rw [if_neg q, if_pos q1, if_neg q, if_pos q1]
      · rw [if_neg q, if_neg q1, if_neg q, if_neg q1]
    rw [F_X9_searchSpan_l11, F_X10_span_l53, ea, eb]
    have i1 : (if v ≤ g 1 then g 1 else v) = (if v ≤ (if g 0 ≤ v then g else upd g 0 v) 1 then (if g 0 ≤ v then g else upd g 0 v) else upd (if g 0 ≤ v then g else upd g 0 v) 1 v) 1 := by
      have w : (if g 0 ≤ v then g else upd g 0 v) 1 = g 1 := by split <;> rfl
      rw [w]
      by_cases q1 : v ≤ g 1
      · rw [if_pos q1, if_pos q1, w]
      · rw [if_neg q1, if_neg q1, pk_us]
    have i0 : (if g 0 ≤ v then g 0 else v) = (if v ≤ (if g 0 ≤ v then g else upd g 0 v) 1 then (if g 0 ≤ v then g else upd g 0 v) else upd (if g 0 ≤ v then g else upd g 0 v) 1 v) 0 := by
      have w : (if g 0 ≤ v then g else upd g 0 v) 0 = if g 0 ≤ v then g 0 else v := by split <;> rfl
      rw [← w]
      generalize (if g 0 ≤ v then g else upd g 0 v) = G
      split
      · rfl
      · exact (pk_un (k := 1) (j := 0) (by decide)).symm
    dsimp only
    rw [i1, i0]
    exact ih (k + 1) _ _ _ _ _ _ _ _ _ _ _ _ (by omega) (by omega)
def MSpan (la : Nat → Int32) (k f s : Int32) (sa : Nat → Int32) : Prop := ¬ k = 0 → ∀ (mm bt rn : Nat → Int32) (what : Int32), RRig la bt → ¬ F_X9_isTurns f = 0 → ¬ F_X9_within s (0 : Int32) (9999 : Int32) = 0 → ¬ F_X9_within what (0 : Int32) (1 : Int32) = 0 → (F_X10_span mm bt rn f s what).1 = F_X3_answer 2 sa what
theorem w01 {what : Int32} (c : ¬ F_X9_within what (0 : Int32) (1 : Int32) = 0) : what = 0 ∨ what = 1 := by
  have h := w_lo c (a := 0) (b := 1) rfl rfl
  rcases (show what.toInt = 0 ∨ what.toInt = 1 by omega) with q | q
  · exact Or.inl (Int32.toInt_inj.mp q)
  · exact Or.inr (Int32.toInt_inj.mp q)
theorem span_search {la : Nat → Int32} (ho : RigOK la) (tl m d p sa : Nat → Int32) {n z : Int32} (ht : ¬ F_X9_isTurns n = 0) : ∃ (a b c : Int32) (m' d' p' g' : Nat → Int32), F_X9_searchSpan la tl m d p sa n z = (a, b, c, m', d', p', 1, n, z, g') ∧ MSpan la 1 n z g' := by
  have hT := isT ht
  obtain ⟨g0, eg, hg⟩ := mlearn 2 (by decide) sa n z
  obtain ⟨a1, b1, c1, mo, path, e, hs⟩ := make_plc ho (upd (upd (upd tl 3 (tl 3)) 4 (tl 4)) 5 (tl 5)) m d p ((z + 0) - (z + 0) / (10000 : Int32) * (10000 : Int32)) hT
  have hv := hs 2 (by decide)
  have ea : F_X9_searchSpan_b11 la tl n z (0 : Int32) (tl 3) (tl 4) (tl 5) m d p g0 = Sum.inl (nI 1, a1, b1, c1, mo, F_X0_fit d la, path, upd (upd g0 0 (mo 2)) 1 (mo 2)) := by
    unfold F_X9_searchSpan_b11
    rw [if_neg (by decide), e]
    dsimp only
    unfold F_X9_searchSpan_k37 F_X9_searchSpan_j69 F_X9_searchSpan_k76 F_X9_searchSpan_j79 F_X9_searchSpan_j96 F_X9_searchSpan_k103 F_X9_searchSpan_j106
    rw [if_pos rfl, if_pos rfl, show ∀ f x, F_X3_put 2 f (0 : Int32) x = upd f 0 x from fun f x => m_put (N := 2) (w := 0) (by decide) (by decide) f x, show ∀ f x, F_X3_put 2 f (1 : Int32) x = upd f 1 x from fun f x => m_put (N := 2) (w := 1) (by decide) (by decide) f x]
    rfl
  have out : ∀ g' : Nat → Int32, (∀ (x a' b' c' : Int32) (m' d' p' : Nat → Int32), F_X9_searchSpan_l11 la tl n z 9 (nI 1) a1 b1 c1 mo (F_X0_fit d la) path (upd (upd g0 0 (mo 2)) 1 (mo 2)) = (x, a', b', c', m', d', p', g') → F_X9_searchSpan la tl m d p sa n z = (a', b', c', m', d', p', 1, n, z, g')) := by
    intro g' x a' b' c' m' d' p' e9
    unfold F_X9_searchSpan
    rw [eg]
    dsimp only
    unfold F_X9_searchSpan_k6
    rw [F_X9_searchSpan_l11, ea]
    dsimp only
    rw [e9]
    rfl
  cases e9 : F_X9_searchSpan_l11 la tl n z 9 (nI 1) a1 b1 c1 mo (F_X0_fit d la) path (upd (upd g0 0 (mo 2)) 1 (mo 2)) with
  | mk x r =>
  obtain ⟨a', b', c', m', d', p', g'⟩ := r
  refine ⟨a', b', c', m', d', p', g', out g' x a' b' c' m' d' p' e9, ?_⟩
  intro _ mm bt rn what hr _ hz hw
  obtain ⟨a2, b2, c2, d2, r2, e2, hs2⟩ := place_plc (mrigA mm hr) hr.1 rn z hT
  unfold mmA at e2
  obtain ⟨x', a3, b3, c3, m3, d3, p3, g3, y, t17, t18, t19, t20, rn', f1, f2⟩ := span_loop hr tl mm z hT 9 1 a1 b1 c1 mo (F_X0_fit d la) path (upd (upd g0 0 (mo 2)) 1 (mo 2)) a2 b2 c2 d2 r2 (by decide) (by decide)
  rw [e9] at f1
  simp only [Prod.mk.injEq] at f1
  have eg' := f1.2.2.2.2.2.2.2
  subst eg'
  have zz : (z + 0) - (z + 0) / (10000 : Int32) * (10000 : Int32) = z := by
    have hzz := w_lo hz (a := 0) (b := 9999) rfl rfl
    have hd : z / (10000 : Int32) = 0 := by
      apply Int32.toInt_inj.mp
      rw [i_div hzz.1 (by decide), i_z, show (10000 : Int32).toInt = 10000 from rfl]
      omega
    rw [Int32.add_zero, hd, Int32.zero_mul, Int32.sub_zero]
  rw [zz] at hv
  have f2 : F_X10_span_l53 mm bt n z (la 2) (la 3) (la 4) (la 6) (la 7) (la 8) (la 13) 9 (1 : Int32) (mo 2) (mo 2) a2 b2 c2 d2 r2 = _ := f2
  unfold F_X10_span
  rw [arT_eq, in_eq, in_eq, if_neg ht, if_neg hz, if_neg hw, asIt hr]
  dsimp only
  unfold F_X10_span_k35
  rw [e2]
  dsimp only
  unfold F_X10_span_k41
  rw [← hv, f2]
  dsimp only
  unfold F_X10_span_x53
  rcases w01 hw with q | q
  · subst q
    rw [if_pos rfl]
    exact (m_ans (N := 2) (w := 0) (by decide) (by decide) _).symm
  · subst q
    rw [if_neg (by decide)]
    exact (m_ans (N := 2) (w := 1) (by decide) (by decide) _).symm
theorem a_span {la bt sm sa : Nat → Int32} (h : RRig la bt) (hk : MSpan la (sm 1) (sm 2) (sm 3) sa) (mm tl m d p rn : Nat → Int32) (n z what : Int32) : (F_X9_span la tl m d p sm sa n z what).1 = (F_X10_span mm bt rn n z what).1 ∧ MSpan la (F_X9_span la tl m d p sm sa n z what).2.2.2.2.2.2.2.1 (F_X9_span la tl m d p sm sa n z what).2.2.2.2.2.2.2.2.1 (F_X9_span la tl m d p sm sa n z what).2.2.2.2.2.2.2.2.2.1 (F_X9_span la tl m d p sm sa n z what).2.2.2.2.2.2.2.2.2.2 := by
  by_cases c1 : F_X9_isTurns n = 0
  · unfold F_X9_span F_X10_span
    rw [arT_eq, if_pos c1, if_pos c1]; exact ⟨rfl, hk⟩
  by_cases c2 : F_X9_within z (0 : Int32) (9999 : Int32) = 0
  · unfold F_X9_span F_X10_span
    rw [arT_eq, in_eq, if_neg c1, if_neg c1, if_pos c2, if_pos c2]; exact ⟨rfl, hk⟩
  by_cases c3 : F_X9_within what (0 : Int32) (1 : Int32) = 0
  · unfold F_X9_span F_X10_span
    rw [arT_eq, in_eq, in_eq, if_neg c1, if_neg c1, if_neg c2, if_neg c2, if_pos c3, if_pos c3]; exact ⟨rfl, hk⟩
  unfold F_X9_span
  rw [if_neg c1, if_neg c2, if_neg c3]
  by_cases c4 : F_X3_holds sm n z = 0
  · rw [if_pos c4]
    obtain ⟨a', b', c', m', d', p', g', e, hm⟩ := span_search h.1 tl m d p sa (z := z) c1
    rw [e]
    dsimp only
    exact ⟨(hm (by decide) mm bt rn what h c1 c2 c3).symm, hm⟩
  · rw [if_neg c4]
    obtain ⟨q1, q2, q3⟩ := holds_ne c4
    refine ⟨?_, hk⟩
    show F_X3_answer 2 sa what = _
    have := hk q1 mm bt rn what h (by rw [q2]; exact c1) (by rw [q3]; exact c2) c3
    rw [q2, q3] at this
    exact this.symm
