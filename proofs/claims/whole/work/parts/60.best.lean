/-! straight and best -/
theorem straightRig {la bt : Nat → Int32} (h : RRig la bt) (td mm : Nat → Int32) {k : Nat} (hk : k ≤ 20) (a b c d : Int32) : RigOK (upd (F_X6_copy td la) 13 (nI k)) ∧ MRig (upd (F_X6_copy td la) 13 (nI k)) (upd (upd (upd (upd (upd (upd (upd (upd (upd (upd (upd (upd mm 0 (0 : Int32)) 6 (la 2)) 7 (la 3)) 8 (la 4)) 9 (la 6)) 10 (la 7)) 11 (la 8)) 12 (nI k)) 17 a) 18 b) 19 c) 20 d) bt := by
  obtain ⟨⟨h2, h3, h4, h5, h6, h7, h8, h9, h10, h11, h12, h13, h14, h15, h16⟩, -, -, q, hq, e16, e2, e3, e4, e5, e6, e7, e8, e9, e10, e11, e12, e13, e14, e15, e16'⟩ := h
  have hr : 0 ≤ (nI k).toInt ∧ (nI k).toInt ≤ 20 := by rw [nI_toInt (by omega)]; omega
  exact ⟨⟨h2, h3, h4, h5, h6, h7, h8, h9, h10, h11, h12, hr, h14, h15, h16⟩, ⟨rfl, rfl, rfl, rfl, rfl, rfl, rfl, e9, e10, e11, e12, e14, e15, e16'⟩⟩
theorem neg_abs (x : Int32) : mabs x = if (0 : Int32) ≤ x then x else -x := by
  unfold mabs
  split
  · rfl
  · exact Int32.zero_sub x
theorem abs_bd {x : Int32} (h : -9999999 ≤ x.toInt ∧ x.toInt ≤ 9999999) : 0 ≤ (mabs x).toInt ∧ (mabs x).toInt ≤ 9999999 := by
  unfold mabs
  split
  · rename_i q
    rw [Int32.le_iff_toInt_le, i_z] at q
    omega
  · rename_i q
    rw [Int32.le_iff_toInt_le, i_z] at q
    rw [i_sub (by rw [i_z]; omega) (by rw [i_z]; omega), i_z]
    omega
def SR (k : Nat) (x2 x5 x4 x3 : Int32) (g : Nat → Int32) : Prop := (k = 0 ∧ x2 = (10000000 : Int32) ∧ x5 = (-1 : Int32)) ∨ (x2 = x5 ∧ 0 ≤ x5.toInt ∧ g 0 = x3 ∧ g 1 = x4 + (10000000 : Int32))
theorem straight_loop {la bt : Nat → Int32} (h : RRig la bt) (td tl mm : Nat → Int32) {n : Int32} (ht : 0 ≤ n.toInt ∧ n.toInt ≤ 400) : ∀ (j k : Nat) (x2 x5 x4 x3 s13 a b c : Int32) (m d p g : Nat → Int32) (s17 s18 s19 s20 : Int32) (rn : Nat → Int32), j + k = 21 → SR k x2 x5 x4 x3 g → ∃ (x y2 y13 a' b' c' : Int32) (m' d' p' g' : Nat → Int32) (y5 y4 y3 y t17 t18 t19 t20 : Int32) (rn' : Nat → Int32), F_X9_searchStraight_l25 tl n (F_X6_copy td la) j (nI k) x2 s13 a b c m d p g = (x, y2, y13, a', b', c', m', d', p', g') ∧ F_X10_straight_l40 mm bt n (la 2) (la 3) (la 4) (la 6) (la 7) (la 8) j x5 x4 (nI k) s17 s18 s19 s20 rn x3 = (y5, y4, y, t17, t18, t19, t20, rn', y3) ∧ SR 21 y2 y5 y4 y3 g' := by
  intro j
  induction j with
  | zero =>
    intro k x2 x5 x4 x3 s13 a b c m d p g s17 s18 s19 s20 rn hk hr
    refine ⟨_, _, _, _, _, _, _, _, _, _, _, _, _, _, _, _, _, _, _, rfl, rfl, ?_⟩
    rw [show 21 = k by omega]; exact hr
  | succ j ih =>
    intro k x2 x5 x4 x3 s13 a b c m d p g s17 s18 s19 s20 rn hk hr
    have gd : ¬ (20 : Int32) < nI k := nI_nlt (a := 20) (by omega) (by omega)
    have gm : ¬ (21 : Int32) ≤ nI k := nI_ge (a := k) (b := 21) (by omega) (by omega)
    obtain ⟨hok, hmr⟩ := straightRig h td mm (show k ≤ 20 by omega) s17 s18 s19 s20
    obtain ⟨a1, b1, c1, mo, path, e, hs⟩ := make_plc hok (upd (upd (upd tl 3 a) 4 b) 5 c) m d p (-1 : Int32) ht
    obtain ⟨a2, b2, c2, d2, r2, e2, hs2⟩ := place_plc hmr hok rn (-1 : Int32) ht
    have hv := hs 4 (by decide)
    have hv2 := hs2 4 (by decide)
    have bd := (plc_bd hok (-1 : Int32) ht).2.1
    generalize plc (upd (F_X6_copy td la) 13 (nI k)) n (-1 : Int32) 4 = v at hv hv2 bd
    have ab := abs_bd bd
    have ea : F_X9_searchStraight_b25 tl n (F_X6_copy td la) (nI k) x2 s13 a b c m d p g = Sum.inl (nI (k + 1), (if x2 ≤ mabs v then x2 else mabs v), nI k, a1, b1, c1, mo, F_X0_fit d (upd (F_X6_copy td la) 13 (nI k)), path, (if x2 ≤ mabs v then g else upd (upd g 0 (nI k)) 1 (v + (10000000 : Int32)))) := by
      unfold F_X9_searchStraight_b25
      rw [if_neg gd, e]
      dsimp only
      unfold F_X9_searchStraight_k53 F_X9_searchStraight_k69 F_X9_searchStraight_k86 F_X9_searchStraight_k107 F_X9_searchStraight_j110
      rw [hv, nI_1, show ∀ f x, F_X3_put 2 f (0 : Int32) x = upd f 0 x from fun f x => m_put (N := 2) (w := 0) (by decide) (by decide) f x, show ∀ f x, F_X3_put 2 f (1 : Int32) x = upd f 1 x from fun f x => m_put (N := 2) (w := 1) (by decide) (by decide) f x]
      by_cases q : x2 ≤ mabs v
      · rw [if_pos q, if_pos q, if_pos q]
      · rw [if_neg q, if_neg q, if_neg q]
    have eb : F_X10_straight_b40 mm bt n (la 2) (la 3) (la 4) (la 6) (la 7) (la 8) x5 x4 (nI k) s17 s18 s19 s20 rn x3 = if x5 < 0 ∨ ¬ x5 ≤ mabs v then Sum.inl (mabs v, v, nI (k + 1), a2, b2, c2, d2, r2, nI k) else Sum.inl (x5, x4, nI (k + 1), a2, b2, c2, d2, r2, x3) := by
      unfold F_X10_straight_b40
      rw [if_neg gm, e2]
      dsimp only
      unfold F_X10_straight_k52
      rw [hv2, neg_abs]
      have e81 : ∀ y, F_X10_straight_j81 x5 x4 (nI k) x3 a2 b2 c2 d2 r2 y = if x5 < 0 ∨ ¬ x5 ≤ y then Sum.inl (y, v, nI (k + 1), a2, b2, c2, d2, r2, nI k) else Sum.inl (x5, x4, nI (k + 1), a2, b2, c2, d2, r2, x3) := by
        intro y
        unfold F_X10_straight_j81 F_X10_straight_j95 F_X10_straight_j112 F_X10_straight_k119
        rw [nI_1, hv2]
        by_cases q : x5 < 0
        · rw [if_pos q, if_pos (Or.inl q)]
        · rw [if_neg q]
          by_cases q1 : x5 ≤ y
          · rw [if_pos q1, if_neg (fun w => w.elim q (fun w => w q1))]
          · rw [if_neg q1, if_pos (Or.inr q1)]
      rw [e81, e81]
      by_cases q : (0 : Int32) ≤ v
      · rw [if_pos q, if_pos q]
      · rw [if_neg q, if_neg q]
    rw [F_X9_searchStraight_l25, F_X10_straight_l40, ea, eb]
    rcases hr with ⟨r1, r2', r3⟩ | ⟨r1, r2', r3, r4⟩
    · have q : ¬ x2 ≤ mabs v := by
        rw [r2', Int32.le_iff_toInt_le]
        have : (10000000 : Int32).toInt = 10000000 := rfl
        omega
      rw [if_neg q, if_neg q, if_pos (Or.inl (by rw [r3]; decide))]
      exact ih (k + 1) _ _ _ _ _ _ _ _ _ _ _ _ _ _ _ _ _ (by omega) (Or.inr ⟨rfl, ab.1, rfl, rfl⟩)
    · subst r1
      have n0 : ¬ x2 < 0 := by rw [Int32.lt_iff_toInt_lt, i_z]; omega
      by_cases q : x2 ≤ mabs v
      · rw [if_pos q, if_pos q, if_neg (fun w => w.elim n0 (fun w => w q))]
        exact ih (k + 1) _ _ _ _ _ _ _ _ _ _ _ _ _ _ _ _ _ (by omega) (Or.inr ⟨rfl, r2', r3, r4⟩)
      · rw [if_neg q, if_neg q, if_pos (Or.inr q)]
        exact ih (k + 1) _ _ _ _ _ _ _ _ _ _ _ _ _ _ _ _ _ (by omega) (Or.inr ⟨rfl, ab.1, rfl, rfl⟩)
def MStr (la : Nat → Int32) (k f : Int32) (sa : Nat → Int32) : Prop := ¬ k = 0 → ∀ (mm bt rn : Nat → Int32) (what : Int32), RRig la bt → ¬ F_X9_isTurns f = 0 → ¬ F_X9_within what (0 : Int32) (1 : Int32) = 0 → (F_X10_straight mm bt rn f what).1 = F_X3_answer 2 sa what
theorem straight_search {la bt0 : Nat → Int32} (h : RRig la bt0) (td tl m d p sa : Nat → Int32) {n : Int32} (ht : ¬ F_X9_isTurns n = 0) : ∃ (td' : Nat → Int32) (a b c : Int32) (m' d' p' g' : Nat → Int32), F_X9_searchStraight la td tl m d p sa n = (td', a, b, c, m', d', p', 1, n, 0, g') ∧ MStr la 1 n g' := by
  have hT := isT ht
  obtain ⟨g0, eg, hg⟩ := mlearn 2 (by decide) sa n 0
  cases e9 : F_X9_searchStraight_l25 tl n (F_X6_copy td la) 21 (0 : Int32) (10000000 : Int32) (F_X6_copy td la 13) (tl 3) (tl 4) (tl 5) m d p g0 with
  | mk x r =>
  obtain ⟨y2, y13, a', b', c', m', d', p', g'⟩ := r
  refine ⟨upd (F_X6_copy td la) 13 y13, a', b', c', m', d', p', g', ?_, ?_⟩
  · unfold F_X9_searchStraight F_X9_searchStraight_k8
    rw [eg]
    dsimp only
    unfold F_X9_searchStraight_k17
    rw [e9]
    rfl
  intro _ mm bt rn what hr _ hw
  obtain ⟨x', z2, z13, a3, b3, c3, m3, d3, p3, g3, y5, y4, y3, y, t17, t18, t19, t20, rn', f1, f2, hS⟩ := straight_loop hr td tl mm hT 21 0 (10000000 : Int32) (-1 : Int32) 0 0 (F_X6_copy td la 13) (tl 3) (tl 4) (tl 5) m d p g0 (mm 17) (mm 18) (mm 19) (mm 20) rn (by decide) (Or.inl ⟨rfl, rfl, rfl⟩)
  have f1 : F_X9_searchStraight_l25 tl n (F_X6_copy td la) 21 (0 : Int32) (10000000 : Int32) (F_X6_copy td la 13) (tl 3) (tl 4) (tl 5) m d p g0 = _ := f1
  have f2 : F_X10_straight_l40 mm bt n (la 2) (la 3) (la 4) (la 6) (la 7) (la 8) 21 (-1 : Int32) (0 : Int32) (0 : Int32) (mm 17) (mm 18) (mm 19) (mm 20) rn (0 : Int32) = _ := f2
  rw [e9] at f1
  simp only [Prod.mk.injEq] at f1
  have eg' := f1.2.2.2.2.2.2.2.2.2
  subst eg'
  unfold F_X10_straight
  rw [arT_eq, in_eq, if_neg ht, if_neg hw, asIt hr]
  dsimp only
  unfold F_X10_straight_k24
  rw [f2]
  dsimp only
  unfold F_X10_straight_x40
  rcases hS with ⟨r1, -, -⟩ | ⟨-, -, r3, r4⟩
  · exact absurd r1 (by decide)
  rcases w01 hw with q | q
  · subst q
    rw [if_pos rfl]
    exact r3.symm.trans (m_ans (N := 2) (w := 0) (by decide) (by decide) _).symm
  · subst q
    rw [if_neg (by decide)]
    exact r4.symm.trans (m_ans (N := 2) (w := 1) (by decide) (by decide) _).symm
theorem a_straight {la bt st sa : Nat → Int32} (h : RRig la bt) (hk : MStr la (st 1) (st 2) sa) (mm td tl m d p rn : Nat → Int32) (n what : Int32) : (F_X9_straight la td tl m d p st sa n what).1 = (F_X10_straight mm bt rn n what).1 ∧ MStr la (F_X9_straight la td tl m d p st sa n what).2.2.2.2.2.2.2.2.1 (F_X9_straight la td tl m d p st sa n what).2.2.2.2.2.2.2.2.2.1 (F_X9_straight la td tl m d p st sa n what).2.2.2.2.2.2.2.2.2.2.2 := by
  by_cases c1 : F_X9_isTurns n = 0
  · unfold F_X9_straight F_X10_straight
    rw [arT_eq, if_pos c1, if_pos c1]; exact ⟨rfl, hk⟩
  by_cases c3 : F_X9_within what (0 : Int32) (1 : Int32) = 0
  · unfold F_X9_straight F_X10_straight
    rw [arT_eq, in_eq, if_neg c1, if_neg c1, if_pos c3, if_pos c3]; exact ⟨rfl, hk⟩
  unfold F_X9_straight
  rw [if_neg c1, if_neg c3]
  by_cases c4 : F_X3_holds st n 0 = 0
  · rw [if_pos c4]
    obtain ⟨td', a', b', c', m', d', p', g', e, hm⟩ := straight_search h td tl m d p sa c1
    rw [e]
    dsimp only
    exact ⟨(hm (by decide) mm bt rn what h c1 c3).symm, hm⟩
  · rw [if_neg c4]
    obtain ⟨q1, q2, q3⟩ := holds_ne c4
    refine ⟨?_, hk⟩
    show F_X3_answer 2 sa what = _
    have := hk q1 mm bt rn what h (by rw [q2]; exact c1) c3
    rw [q2] at this
    exact this.symm
/-! best -/
def tdB (td la : Nat → Int32) (s l : Nat) (x8 : Int32) : Nat → Int32 := upd (upd (upd (F_X6_copy td la) 6 (nI s)) 7 (nI l)) 8 x8
theorem bestRig {la bt : Nat → Int32} (h : RRig la bt) (td mm : Nat → Int32) {s l k : Nat} (hs : 1 ≤ s ∧ s ≤ 8) (hl : 1 ≤ l ∧ l ≤ 40) (hk : 1 ≤ k ∧ k ≤ 9) (x8 a b c d : Int32) : RigOK (upd (tdB td la s l x8) 8 (nI k)) ∧ MRig (upd (tdB td la s l x8) 8 (nI k)) (upd (upd (upd (upd (upd (upd (upd (upd (upd (upd (upd (upd mm 0 (0 : Int32)) 6 (la 2)) 7 (la 3)) 8 (la 4)) 9 (nI s)) 10 (nI l)) 11 (nI k)) 12 (la 13)) 17 a) 18 b) 19 c) 20 d) bt := by
  obtain ⟨⟨h2, h3, h4, h5, h6, h7, h8, h9, h10, h11, h12, h13, h14, h15, h16⟩, -, -, q, hq, e16, e2, e3, e4, e5, e6, e7, e8, e9, e10, e11, e12, e13, e14, e15, e16'⟩ := h
  have es : (nI s).toInt = s := nI_toInt (by omega)
  have el : (nI l).toInt = l := nI_toInt (by omega)
  have ek : (nI k).toInt = k := nI_toInt (by omega)
  exact ⟨⟨h2, h3, h4, h5, (by show 1 ≤ (nI s).toInt ∧ (nI s).toInt ≤ 8; omega), (by show 1 ≤ (nI l).toInt ∧ (nI l).toInt ≤ 40; omega), (by show 1 ≤ (nI k).toInt ∧ (nI k).toInt ≤ 9; omega), h9, h10, h11, h12, h13, h14, h15, h16⟩, ⟨rfl, rfl, rfl, rfl, rfl, rfl, rfl, e9, e10, e11, e12, e14, e15, e16'⟩⟩
def BFull (g an : Nat → Int32) : Prop := ∀ i : Nat, i < 4 → g i = an i
def BR (g an : Nat → Int32) : Prop := (g 0 = (-1 : Int32) ∧ an 0 = (-1 : Int32)) ∨ BFull g an
theorem BR.z {g an : Nat → Int32} (h : BR g an) : g 0 = an 0 := by
  rcases h with ⟨h1, h2⟩ | h
  · rw [h1, h2]
  · exact h 0 (by decide)
theorem pitch_loop {la bt : Nat → Int32} (h : RRig la bt) (td tl mm : Nat → Int32) {n : Int32} (ht : 0 ≤ n.toInt ∧ n.toInt ≤ 400) {s l : Nat} (hs : 1 ≤ s ∧ s ≤ 8) (hl : 1 ≤ l ∧ l ≤ 40) (x8 : Int32) : ∀ (j k : Nat) (s8 a b c : Int32) (m d p g : Nat → Int32) (s17 s18 s19 s20 : Int32) (rn an : Nat → Int32), j + k = 10 → 1 ≤ k → BR g an → (k = 1 ∨ BFull g an) → ∃ (x y8 a' b' c' : Int32) (m' d' p' g' : Nat → Int32) (y t17 t18 t19 t20 : Int32) (rn' an' : Nat → Int32), F_X9_searchPitch_l2 (tdB td la s l x8) tl n j (nI k) s8 a b c m d p g = (x, y8, a', b', c', m', d', p', g') ∧ F_X10_best_l90 mm bt n (la 2) (la 3) (la 4) (la 13) (nI s) (nI l) j (nI k) s17 s18 s19 s20 rn an = (y, t17, t18, t19, t20, rn', an') ∧ (k = 10 ∨ BFull g' an') ∧ BR g' an' := by
  intro j
  induction j with
  | zero =>
    intro k s8 a b c m d p g s17 s18 s19 s20 rn an hk h1 hr hf
    exact ⟨_, _, _, _, _, _, _, _, _, _, _, _, _, _, _, _, rfl, rfl, Or.inl (by omega), hr⟩
  | succ j ih =>
    intro k s8 a b c m d p g s17 s18 s19 s20 rn an hk h1 hr hf
    have gd : ¬ (9 : Int32) < nI k := nI_nlt (a := 9) (by omega) (by omega)
    have gm : ¬ (10 : Int32) ≤ nI k := nI_ge (a := k) (b := 10) (by omega) (by omega)
    obtain ⟨hok, hmr⟩ := bestRig h td mm hs hl (show 1 ≤ k ∧ k ≤ 9 by omega) x8 s17 s18 s19 s20
    obtain ⟨a1, b1, c1, mo, path, e, hs1⟩ := make_plc hok (upd (upd (upd tl 3 a) 4 b) 5 c) m d p (-1 : Int32) ht
    obtain ⟨a2, b2, c2, d2, r2, e2, hs2⟩ := place_plc hmr hok rn (-1 : Int32) ht
    have hv := hs1 2 (by decide)
    have bd := (plc_bd hok (-1 : Int32) ht).1
    generalize plc (upd (tdB td la s l x8) 8 (nI k)) n (-1 : Int32) 2 = v at hv e2 bd
    have ea : F_X9_searchPitch_b2 (tdB td la s l x8) tl n (nI k) s8 a b c m d p g = Sum.inl (nI (k + 1), nI k, a1, b1, c1, mo, F_X0_fit d (upd (tdB td la s l x8) 8 (nI k)), path, (if v ≤ g 0 then g else upd (upd (upd (upd g 0 v) 1 (nI s)) 2 (nI l)) 3 (nI k))) := by
      unfold F_X9_searchPitch_b2
      rw [if_neg gd, e]
      dsimp only
      unfold F_X9_searchPitch_k30 F_X9_searchPitch_k69 F_X9_searchPitch_k84 F_X9_searchPitch_k99 F_X9_searchPitch_k108 F_X9_searchPitch_j111
      rw [hv, nI_1, show F_X3_answer 4 g (0 : Int32) = g 0 from m_ans (N := 4) (w := 0) (by decide) (by decide) g, show ∀ f x, F_X3_put 4 f (0 : Int32) x = upd f 0 x from fun f x => m_put (N := 4) (w := 0) (by decide) (by decide) f x, show ∀ f x, F_X3_put 4 f (1 : Int32) x = upd f 1 x from fun f x => m_put (N := 4) (w := 1) (by decide) (by decide) f x, show ∀ f x, F_X3_put 4 f (2 : Int32) x = upd f 2 x from fun f x => m_put (N := 4) (w := 2) (by decide) (by decide) f x, show ∀ f x, F_X3_put 4 f (3 : Int32) x = upd f 3 x from fun f x => m_put (N := 4) (w := 3) (by decide) (by decide) f x]
      by_cases q : v ≤ g 0
      · rw [if_pos q, if_pos q]
      · rw [if_neg q, if_neg q]; rfl
    have eb : F_X10_best_b90 mm bt n (la 2) (la 3) (la 4) (la 13) (nI s) (nI l) (nI k) s17 s18 s19 s20 rn an = Sum.inl (nI (k + 1), a2, b2, c2, d2, r2, (if v ≤ an 0 then an else upd (upd (upd (upd an 0 v) 1 (nI s)) 2 (nI l)) 3 (nI k))) := by
      unfold F_X10_best_b90
      rw [if_neg gm, e2]
      dsimp only
      unfold F_X10_best_k102 F_X10_best_j156 F_X10_best_k163
      rw [nI_1]
      by_cases q : v ≤ an 0
      · rw [if_pos q, if_pos q]
      · rw [if_neg q, if_neg q]
    rw [F_X9_searchPitch_l2, F_X10_best_l90, ea, eb, hr.z]
    have key : BFull (if v ≤ an 0 then g else upd (upd (upd (upd g 0 v) 1 (nI s)) 2 (nI l)) 3 (nI k)) (if v ≤ an 0 then an else upd (upd (upd (upd an 0 v) 1 (nI s)) 2 (nI l)) 3 (nI k)) := by
      by_cases q : v ≤ an 0
      · rw [if_pos q, if_pos q]
        rcases hr with ⟨r1, r2⟩ | hr
        · rw [r2, Int32.le_iff_toInt_le] at q
          have : (-1 : Int32).toInt = -1 := rfl
          omega
        · exact hr
      · rw [if_neg q, if_neg q]
        intro i hi
        rcases (show i = 0 ∨ i = 1 ∨ i = 2 ∨ i = 3 by omega) with rfl | rfl | rfl | rfl <;> rfl
    dsimp only
    obtain ⟨x, y8, a', b', c', m', d', p', g', y, t17, t18, t19, t20, rn', an', w1, w2, w3, w4⟩ := ih (k + 1) (nI k) a1 b1 c1 mo _ path _ a2 b2 c2 d2 r2 _ (by omega) (by omega) (Or.inr key) (Or.inr key)
    refine ⟨x, y8, a', b', c', m', d', p', g', y, t17, t18, t19, t20, rn', an', w1, w2, Or.inr ?_, w4⟩
    rcases w3 with w3 | w3
    · have j0 : j = 0 := by omega
      subst j0
      rw [show F_X9_searchPitch_l2 (tdB td la s l x8) tl n 0 = fun x2 s8 a b c m d p g => (x2, s8, a, b, c, m, d, p, g) from rfl] at w1
      rw [show F_X10_best_l90 mm bt n (la 2) (la 3) (la 4) (la 13) (nI s) (nI l) 0 = fun x a b c d r q => (x, a, b, c, d, r, q) from rfl] at w2
      simp only [Prod.mk.injEq] at w1 w2
      rw [← w1.2.2.2.2.2.2.2.2, ← w2.2.2.2.2.2.2]
      exact key
    · exact w3
theorem len_loop {la bt : Nat → Int32} (h : RRig la bt) (td tl mm : Nat → Int32) (G : Int32) {n : Int32} (ht : 0 ≤ n.toInt ∧ n.toInt ≤ 400) {s : Nat} (hs : 1 ≤ s ∧ s ≤ 8) : ∀ (j k : Nat) (s6 s7 s8 a b c : Int32) (m d p g : Nat → Int32) (s11 s17 s18 s19 s20 : Int32) (rn an : Nat → Int32), j + k = 41 → 1 ≤ k → BR g an → ∃ (x y6 y7 y8 a' b' c' : Int32) (m' d' p' g' : Nat → Int32) (y t11 t17 t18 t19 t20 : Int32) (rn' an' : Nat → Int32), F_X9_searchBest_l40 tl G n (F_X6_copy td la) (nI s) j (nI k) s6 s7 s8 a b c m d p g = (x, y6, y7, y8, a', b', c', m', d', p', g') ∧ F_X10_best_l63 mm bt G n (la 2) (la 3) (la 4) (la 13) (nI s) j (nI k) s11 s17 s18 s19 s20 rn an = (y, t11, t17, t18, t19, t20, rn', an') ∧ BR g' an' ∧ (BFull g an → BFull g' an') ∧ (0 < j → ¬ G < nI s * nI k → BFull g' an') := by
  intro j
  induction j with
  | zero =>
    intro k s6 s7 s8 a b c m d p g s11 s17 s18 s19 s20 rn an hk h1 hr
    exact ⟨_, _, _, _, _, _, _, _, _, _, _, _, _, _, _, _, _, _, _, rfl, rfl, hr, id, fun q => absurd q (by decide)⟩
  | succ j ih =>
    intro k s6 s7 s8 a b c m d p g s11 s17 s18 s19 s20 rn an hk h1 hr
    have gd : ¬ (40 : Int32) < nI k := nI_nlt (a := 40) (by omega) (by omega)
    have gm : ¬ (41 : Int32) ≤ nI k := nI_ge (a := k) (b := 41) (by omega) (by omega)
    rw [F_X9_searchBest_l40, F_X10_best_l63]
    unfold F_X9_searchBest_b40 F_X10_best_b63
    rw [if_neg gd, if_neg gm]
    by_cases q : G < nI s * nI k
    · rw [if_pos q, if_pos q]
      exact ⟨_, _, _, _, _, _, _, _, _, _, _, _, _, _, _, _, _, _, _, rfl, rfl, hr, id, fun _ w => absurd q w⟩
    · rw [if_neg q, if_neg q]
      obtain ⟨x, y8, a', b', c', m', d', p', g', y, t17, t18, t19, t20, rn', an', w1, w2, w3, w4⟩ := pitch_loop h td (upd (upd (upd tl 3 a) 4 b) 5 c) mm ht hs (show 1 ≤ k ∧ k ≤ 40 by omega) s8 9 1 s8 a b c m d p g s17 s18 s19 s20 rn an (by decide) (by decide) hr (Or.inl rfl)
      have w1 : F_X9_searchPitch_l2 (tdB td la s k s8) (upd (upd (upd tl 3 a) 4 b) 5 c) n 9 (1 : Int32) s8 a b c m d p g = _ := w1
      have w2 : F_X10_best_l90 mm bt n (la 2) (la 3) (la 4) (la 13) (nI s) (nI k) 9 (1 : Int32) s17 s18 s19 s20 rn an = _ := w2
      have ep : F_X9_searchPitch (upd (upd (upd (F_X6_copy td la) 6 (nI s)) 7 (nI k)) 8 s8) (upd (upd (upd tl 3 a) 4 b) 5 c) m d p g n = (y8, a', b', c', m', d', p', g') := by
        show (match F_X9_searchPitch_l2 (tdB td la s k s8) (upd (upd (upd tl 3 a) 4 b) 5 c) n 9 (1 : Int32) s8 a b c m d p g with | (bx2_2, bs_td_8_2, bs_tl_3_2, bs_tl_4_2, bs_tl_5_2, bg_tl_motion_2, bg_tl_band_2, bg_tl_path_2, bg_bm_answers_2) => F_X9_searchPitch_x2 bs_td_8_2 bs_tl_3_2 bs_tl_4_2 bs_tl_5_2 bg_tl_motion_2 bg_tl_band_2 bg_tl_path_2 bg_bm_answers_2) = _
        rw [w1]
        rfl
      have w3 : BFull g' an' := by
        rcases w3 with w3 | w3
        · exact absurd w3 (by decide)
        · exact w3
      rw [ep, w2]
      dsimp only
      unfold F_X9_searchBest_k74 F_X10_best_x90 F_X10_best_k176
      rw [nI_1]
      obtain ⟨x2, y6, y7, y82, a2, b2, c2, m2, d2, p2, g2, y2, t112, t172, t182, t192, t202, rn2, an2, v1, v2, v3, v4, v5⟩ := ih (k + 1) (nI s) (nI k) y8 a' b' c' m' d' p' g' y t17 t18 t19 t20 rn' an' (by omega) (by omega) w4
      exact ⟨x2, y6, y7, y82, a2, b2, c2, m2, d2, p2, g2, y2, t112, t172, t182, t192, t202, rn2, an2, v1, v2, v3, fun _ => v4 w3, fun _ _ => v4 w3⟩
theorem best_loop {la bt : Nat → Int32} (h : RRig la bt) (td tl mm : Nat → Int32) {G : Int32} (hG : 1 ≤ G.toInt) {n : Int32} (ht : 0 ≤ n.toInt ∧ n.toInt ≤ 400) : ∀ (j k : Nat) (s6 s7 s8 a b c : Int32) (m d p g : Nat → Int32) (s10 s11 s17 s18 s19 s20 : Int32) (rn an : Nat → Int32), j + k = 9 → 1 ≤ k → BR g an → (k = 1 ∨ BFull g an) → ∃ (x y6 y7 y8 a' b' c' : Int32) (m' d' p' g' : Nat → Int32) (y t10 t11 t17 t18 t19 t20 : Int32) (rn' an' : Nat → Int32), F_X9_searchBest_l31 tl G n (F_X6_copy td la) j (nI k) s6 s7 s8 a b c m d p g = (x, y6, y7, y8, a', b', c', m', d', p', g') ∧ F_X10_best_l49 mm bt G n (la 2) (la 3) (la 4) (la 13) j (nI k) s10 s11 s17 s18 s19 s20 rn an = (y, t10, t11, t17, t18, t19, t20, rn', an') ∧ (j = 0 ∨ BFull g' an') ∧ (BFull g an → BFull g' an') := by
  intro j
  induction j with
  | zero =>
    intro k s6 s7 s8 a b c m d p g s10 s11 s17 s18 s19 s20 rn an hk h1 hr hf
    exact ⟨_, _, _, _, _, _, _, _, _, _, _, _, _, _, _, _, _, _, _, _, rfl, rfl, Or.inl rfl, id⟩
  | succ j ih =>
    intro k s6 s7 s8 a b c m d p g s10 s11 s17 s18 s19 s20 rn an hk h1 hr hf
    have gd : ¬ (8 : Int32) < nI k := nI_nlt (a := 8) (by omega) (by omega)
    have gm : ¬ (9 : Int32) ≤ nI k := nI_ge (a := k) (b := 9) (by omega) (by omega)
    obtain ⟨x, y6, y7, y8, a', b', c', m', d', p', g', y, t11, t17, t18, t19, t20, rn', an', w1, w2, w3, w4, w5⟩ := len_loop h td tl mm G ht (show 1 ≤ k ∧ k ≤ 8 by omega) 40 1 s6 s7 s8 a b c m d p g s11 s17 s18 s19 s20 rn an (by decide) (by decide) hr
    have w1 : F_X9_searchBest_l40 tl G n (F_X6_copy td la) (nI k) 40 (1 : Int32) s6 s7 s8 a b c m d p g = _ := w1
    have w2 : F_X10_best_l63 mm bt G n (la 2) (la 3) (la 4) (la 13) (nI k) 40 (1 : Int32) s11 s17 s18 s19 s20 rn an = _ := w2
    have full : BFull g' an' := by
      rcases hf with hf | hf
      · refine w5 (by decide) ?_
        rw [hf, Int32.lt_iff_toInt_lt, show (nI 1 * nI 1).toInt = 1 from rfl]
        omega
      · exact w4 hf
    rw [F_X9_searchBest_l31, F_X10_best_l49]
    unfold F_X9_searchBest_b31 F_X10_best_b49
    rw [if_neg gd, if_neg gm, w1, w2]
    dsimp only
    unfold F_X9_searchBest_x40 F_X10_best_x63 F_X10_best_k189
    rw [nI_1]
    obtain ⟨x2, y62, y72, y82, a2, b2, c2, m2, d2, p2, g2, y2, t102, t112, t172, t182, t192, t202, rn2, an2, v1, v2, v3, v4⟩ := ih (k + 1) y6 y7 y8 a' b' c' m' d' p' g' y t11 t17 t18 t19 t20 rn' an' (by omega) (by omega) (Or.inr full) (Or.inr full)
    exact ⟨x2, y62, y72, y82, a2, b2, c2, m2, d2, p2, g2, y2, t102, t112, t172, t182, t192, t202, rn2, an2, v1, v2, Or.inr (v4 full), fun _ => v4 full⟩
def MBest (la : Nat → Int32) (k f s : Int32) (sa : Nat → Int32) : Prop := ¬ k = 0 → ∀ (mm bt rn an : Nat → Int32) (what : Int32), RRig la bt → ¬ F_X9_within f (1 : Int32) (99 : Int32) = 0 → ¬ F_X9_isTurns s = 0 → ¬ F_X9_within what (0 : Int32) (3 : Int32) = 0 → (F_X10_best mm bt rn an f s what).1 = F_X3_answer 4 sa what
theorem best_search {la bt0 : Nat → Int32} (h : RRig la bt0) (td tl m d p sa : Nat → Int32) {G n : Int32} (hG : ¬ F_X9_within G (1 : Int32) (99 : Int32) = 0) (ht : ¬ F_X9_isTurns n = 0) : ∃ (td' : Nat → Int32) (a b c : Int32) (m' d' p' g' : Nat → Int32), F_X9_searchBest la td tl m d p sa G n = (td', a, b, c, m', d', p', 1, G, n, g') ∧ MBest la 1 G n g' := by
  have hT := isT ht
  have hg1 := w_lo hG (a := 1) (b := 99) rfl rfl
  obtain ⟨g0, eg, hg⟩ := mlearn 4 (by decide) sa G n
  have ep : F_X3_put 4 g0 (0 : Int32) (-1 : Int32) = upd g0 0 (-1 : Int32) := m_put (N := 4) (w := 0) (by decide) (by decide) _ _
  cases e9 : F_X9_searchBest_l31 tl G n (F_X6_copy td la) 8 (1 : Int32) (F_X6_copy td la 6) (F_X6_copy td la 7) (F_X6_copy td la 8) (tl 3) (tl 4) (tl 5) m d p (upd g0 0 (-1 : Int32)) with
  | mk x r =>
  obtain ⟨y6, y7, y8, a', b', c', m', d', p', g'⟩ := r
  refine ⟨upd (upd (upd (F_X6_copy td la) 6 y6) 7 y7) 8 y8, a', b', c', m', d', p', g', ?_, ?_⟩
  · unfold F_X9_searchBest F_X9_searchBest_k8
    rw [eg]
    dsimp only
    unfold F_X9_searchBest_k17 F_X9_searchBest_k26
    rw [ep, e9]
    rfl
  intro _ mm bt rn an what hr _ _ hw
  obtain ⟨x', z6, z7, z8, a3, b3, c3, m3, d3, p3, g3, y, t10, t11, t17, t18, t19, t20, rn', an', f1, f2, hF, -⟩ := best_loop hr td tl mm hg1.1 hT 8 1 (F_X6_copy td la 6) (F_X6_copy td la 7) (F_X6_copy td la 8) (tl 3) (tl 4) (tl 5) m d p (upd g0 0 (-1 : Int32)) (la 7) (la 8) (mm 17) (mm 18) (mm 19) (mm 20) rn (upd an 0 (-1 : Int32)) (by decide) (by decide) (Or.inl ⟨rfl, rfl⟩) (Or.inl rfl)
  have f1 : F_X9_searchBest_l31 tl G n (F_X6_copy td la) 8 (1 : Int32) (F_X6_copy td la 6) (F_X6_copy td la 7) (F_X6_copy td la 8) (tl 3) (tl 4) (tl 5) m d p (upd g0 0 (-1 : Int32)) = _ := f1
  have f2 : F_X10_best_l49 mm bt G n (la 2) (la 3) (la 4) (la 13) 8 (1 : Int32) (la 7) (la 8) (mm 17) (mm 18) (mm 19) (mm 20) rn (upd an 0 (-1 : Int32)) = _ := f2
  rw [e9] at f1
  simp only [Prod.mk.injEq] at f1
  have eg' := f1.2.2.2.2.2.2.2.2.2.2
  subst eg'
  have hF : BFull g' an' := by
    rcases hF with hF | hF
    · exact absurd hF (by decide)
    · exact hF
  unfold F_X10_best
  rw [in_eq, arT_eq, in_eq, if_neg hG, if_neg ht, if_neg hw, asIt hr]
  dsimp only
  unfold F_X10_best_k34
  rw [f2]
  dsimp only
  unfold F_X10_best_x49
  have hww := w_lo hw (a := 0) (b := 3) rfl rfl
  obtain ⟨w, hw3, rfl⟩ : ∃ w : Nat, w ≤ 3 ∧ what = nI w := nI_of2 (M := 3) rfl (by rw [Int32.lt_iff_toInt_lt, i_z]; omega) (by rw [Int32.le_iff_toInt_le]; exact hww.2)
  rw [m_ans (by omega) (by decide), hF w (by omega)]
  show an' (Int32.toNatClampNeg (nI w)) = _
  rw [nI_clamp (by omega)]
theorem a_best {la bt bm ba : Nat → Int32} (h : RRig la bt) (hk : MBest la (bm 1) (bm 2) (bm 3) ba) (mm td tl m d p rn an : Nat → Int32) (G n what : Int32) : (F_X9_best la td tl m d p bm ba G n what).1 = (F_X10_best mm bt rn an G n what).1 ∧ MBest la (F_X9_best la td tl m d p bm ba G n what).2.2.2.2.2.2.2.2.1 (F_X9_best la td tl m d p bm ba G n what).2.2.2.2.2.2.2.2.2.1 (F_X9_best la td tl m d p bm ba G n what).2.2.2.2.2.2.2.2.2.2.1 (F_X9_best la td tl m d p bm ba G n what).2.2.2.2.2.2.2.2.2.2.2 := by
  by_cases c1 : F_X9_within G (1 : Int32) (99 : Int32) = 0
  · unfold F_X9_best F_X10_best
    rw [in_eq, if_pos c1, if_pos c1]; exact ⟨rfl, hk⟩
  by_cases c2 : F_X9_isTurns n = 0
  · unfold F_X9_best F_X10_best
    rw [in_eq, arT_eq, if_neg c1, if_neg c1, if_pos c2, if_pos c2]; exact ⟨rfl, hk⟩
  by_cases c3 : F_X9_within what (0 : Int32) (3 : Int32) = 0
  · unfold F_X9_best F_X10_best
    rw [in_eq, arT_eq, in_eq, if_neg c1, if_neg c1, if_neg c2, if_neg c2, if_pos c3, if_pos c3]; exact ⟨rfl, hk⟩
  unfold F_X9_best
  rw [if_neg c1, if_neg c2, if_neg c3]
  by_cases c4 : F_X3_holds bm G n = 0
  · rw [if_pos c4]
    obtain ⟨td', a', b', c', m', d', p', g', e, hm⟩ := best_search h td tl m d p ba c1 c2
    rw [e]
    dsimp only
    exact ⟨(hm (by decide) mm bt rn an what h c1 c2 c3).symm, hm⟩
  · rw [if_neg c4]
    obtain ⟨q1, q2, q3⟩ := holds_ne c4
    refine ⟨?_, hk⟩
    show F_X3_answer 4 ba what = _
    have := hk q1 mm bt rn an what h (by rw [q2]; exact c1) (by rw [q3]; exact c2) c3
    rw [q2, q3] at this
    exact this.symm
