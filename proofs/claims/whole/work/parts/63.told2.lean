/-! told: the search -/
def A1 (an : Nat → Int32) (s p n : Int32) : Nat → Int32 := upd (upd (upd an 1 (if an 0 = 0 then s else an 1)) 2 (if an 0 = 0 then p else an 2)) 3 (if an 0 = 0 then n else an 3)
def ANw (an : Nat → Int32) (s p n : Int32) : Nat → Int32 := F_X10_widens (F_X10_widens (F_X10_widens (A1 an s p n) (nI 4) s) (nI 6) p) (nI 8) n
def ANn (an : Nat → Int32) (s p n : Int32) : Nat → Int32 := upd (ANw an s p n) 0 (ANw an s p n 0 + 1)
theorem note_both {td g an : Nat → Int32} (n : Int32) (hr : FR 10 g an) : FR 10 (F_X9_noteTold td g n) (ANn an (td 6) (td 8) n) := by
  have a0 : F_X3_answer 10 g (0 : Int32) = g 0 := m_ans (N := 10) (w := 0) (by decide) (by decide) g
  have p0 : ∀ f x, F_X3_put 10 f (0 : Int32) x = upd f 0 x := fun f x => m_put (N := 10) (w := 0) (by decide) (by decide) f x
  have p1 : ∀ f x, F_X3_put 10 f (1 : Int32) x = upd f 1 x := fun f x => m_put (N := 10) (w := 1) (by decide) (by decide) f x
  have p2 : ∀ f x, F_X3_put 10 f (2 : Int32) x = upd f 2 x := fun f x => m_put (N := 10) (w := 2) (by decide) (by decide) f x
  have p3 : ∀ f x, F_X3_put 10 f (3 : Int32) x = upd f 3 x := fun f x => m_put (N := 10) (w := 3) (by decide) (by decide) f x
  have core : ∀ (fst : Int32) (g1 : Nat → Int32), (fst = 0 ↔ ¬ an 0 = 0) → g1 0 = an 0 + 1 → (∀ i : Nat, 1 ≤ i → i ≤ 3 → g1 i = A1 an (td 6) (td 8) n i) → (fst = 0 → ∀ i : Nat, 4 ≤ i → i < 10 → g1 i = an i) → FR 10 (F_X3_widen 10 (F_X3_widen 10 (F_X3_widen 10 g1 (nI 4) fst (td 6)) (nI 6) fst (td 8)) (nI 8) fst n) (ANn an (td 6) (td 8) n) := by
    intro fst g1 hf h0 h13 h49
    have z1 := wid_both (N := 10) (w := 4) (by decide) (by decide) (by decide) (g := g1) (an := A1 an (td 6) (td 8) n) (fst := fst) (td 6) hf (fun w => ⟨h49 w 4 (by decide) (by decide), h49 w 5 (by decide) (by decide)⟩)
    have z2 := wid_both (N := 10) (w := 6) (by decide) (by decide) (by decide) (g := F_X3_widen 10 g1 (nI 4) fst (td 6)) (an := F_X10_widens (A1 an (td 6) (td 8) n) (nI 4) (td 6)) (fst := fst) (td 8) (by rw [(z1.1 0 (by decide) (by decide)).2]; exact hf) (fun w => by
      rw [(z1.1 6 (by decide) (by decide)).1, (z1.1 6 (by decide) (by decide)).2, (z1.1 7 (by decide) (by decide)).1, (z1.1 7 (by decide) (by decide)).2]
      exact ⟨h49 w 6 (by decide) (by decide), h49 w 7 (by decide) (by decide)⟩)
    have z3 := wid_both (N := 10) (w := 8) (by decide) (by decide) (by decide) (g := F_X3_widen 10 (F_X3_widen 10 g1 (nI 4) fst (td 6)) (nI 6) fst (td 8)) (an := F_X10_widens (F_X10_widens (A1 an (td 6) (td 8) n) (nI 4) (td 6)) (nI 6) (td 8)) (fst := fst) n (by rw [(z2.1 0 (by decide) (by decide)).2, (z1.1 0 (by decide) (by decide)).2]; exact hf) (fun w => by
      rw [(z2.1 8 (by decide) (by decide)).1, (z2.1 8 (by decide) (by decide)).2, (z2.1 9 (by decide) (by decide)).1, (z2.1 9 (by decide) (by decide)).2, (z1.1 8 (by decide) (by decide)).1, (z1.1 8 (by decide) (by decide)).2, (z1.1 9 (by decide) (by decide)).1, (z1.1 9 (by decide) (by decide)).2]
      exact ⟨h49 w 8 (by decide) (by decide), h49 w 9 (by decide) (by decide)⟩)
    have e0 : F_X3_widen 10 (F_X3_widen 10 (F_X3_widen 10 g1 (nI 4) fst (td 6)) (nI 6) fst (td 8)) (nI 8) fst n 0 = ANn an (td 6) (td 8) n 0 := by
      rw [(z3.1 0 (by decide) (by decide)).1, (z2.1 0 (by decide) (by decide)).1, (z1.1 0 (by decide) (by decide)).1, h0]
      unfold ANn
      rw [pk_us]
      unfold ANw
      rw [(z3.1 0 (by decide) (by decide)).2, (z2.1 0 (by decide) (by decide)).2, (z1.1 0 (by decide) (by decide)).2]
      rfl
    refine ⟨e0, Or.inr (fun i hi => ?_)⟩
    by_cases i0 : i = 0
    · rw [i0]; exact e0
    unfold ANn
    rw [pk_un i0]
    unfold ANw
    by_cases c1 : i ≤ 3
    · rw [(z3.1 i (by omega) (by omega)).1, (z3.1 i (by omega) (by omega)).2, (z2.1 i (by omega) (by omega)).1, (z2.1 i (by omega) (by omega)).2, (z1.1 i (by omega) (by omega)).1, (z1.1 i (by omega) (by omega)).2]
      exact h13 i (by omega) c1
    by_cases c4 : i = 4 ∨ i = 5
    · rw [(z3.1 i (by omega) (by omega)).1, (z3.1 i (by omega) (by omega)).2, (z2.1 i (by omega) (by omega)).1, (z2.1 i (by omega) (by omega)).2]
      rcases c4 with rfl | rfl
      · exact z1.2.1
      · exact z1.2.2
    by_cases c6 : i = 6 ∨ i = 7
    · rw [(z3.1 i (by omega) (by omega)).1, (z3.1 i (by omega) (by omega)).2]
      rcases c6 with rfl | rfl
      · exact z2.2.1
      · exact z2.2.2
    rcases (show i = 8 ∨ i = 9 by omega) with rfl | rfl
    · exact z3.2.1
    · exact z3.2.2
  unfold F_X9_noteTold F_X9_noteTold_j16 F_X9_noteTold_k32 F_X9_noteTold_k51 F_X9_noteTold_k66 F_X9_noteTold_k75 F_X9_noteTold_j78 F_X9_noteTold_k91 F_X9_noteTold_k108 F_X9_noteTold_k119
  rw [a0, p0, p1, p2, p3]
  by_cases q : g 0 = 0
  · have qa : an 0 = 0 := hr.1 ▸ q
    rw [if_pos q, if_neg (by decide)]
    refine core 1 _ ⟨fun w => absurd w (by decide), fun w => absurd qa w⟩ ?_ ?_ (fun w => absurd w (by decide))
    · show g 0 + 1 = _
      rw [hr.1]
    · intro i h1 h3
      unfold A1
      rw [if_pos qa, if_pos qa, if_pos qa]
      rcases (show i = 1 ∨ i = 2 ∨ i = 3 by omega) with rfl | rfl | rfl <;> rfl
  · have qa : ¬ an 0 = 0 := hr.1 ▸ q
    have full := hr.2.resolve_left q
    rw [if_neg q, if_pos rfl]
    refine core 0 _ ⟨fun _ => qa, fun _ => rfl⟩ ?_ ?_ (fun _ i h1 h2 => ?_)
    · show g 0 + 1 = _
      rw [hr.1]
    · intro i h1 h3
      unfold A1
      rw [if_neg qa, if_neg qa, if_neg qa, pk_un (by omega), full i (by omega)]
      rcases (show i = 1 ∨ i = 2 ∨ i = 3 by omega) with rfl | rfl | rfl <;> rfl
    · rw [pk_un (by omega)]
      exact full i h2
def tdT (td la : Nat → Int32) (s p : Nat) : Nat → Int32 := upd (upd (F_X6_copy td la) 6 (nI s)) 8 (nI p)
def mmT (mm la : Nat → Int32) (s p : Nat) : Nat → Int32 := upd (upd (upd (upd (upd (upd (upd (upd mm 0 (0 : Int32)) 6 (la 2)) 7 (la 3)) 8 (la 4)) 9 (nI s)) 10 (la 7)) 11 (nI p)) 12 (la 13)
theorem toldRig {la bt : Nat → Int32} (h : RRig la bt) (td mm : Nat → Int32) {s p : Nat} (hs : 1 ≤ s ∧ s ≤ 8) (hp : 1 ≤ p ∧ p ≤ 9) : RigOK (tdT td la s p) ∧ MRig (tdT td la s p) (mmT mm la s p) bt := by
  obtain ⟨⟨h2, h3, h4, h5, h6, h7, h8, h9, h10, h11, h12, h13, h14, h15, h16⟩, -, -, q, hq, e16, e2, e3, e4, e5, e6, e7, e8, e9, e10, e11, e12, e13, e14, e15, e16'⟩ := h
  have es : (nI s).toInt = s := nI_toInt (by omega)
  have el : (nI p).toInt = p := nI_toInt (by omega)
  exact ⟨⟨h2, h3, h4, h5, (by show 1 ≤ (nI s).toInt ∧ (nI s).toInt ≤ 8; omega), h7, (by show 1 ≤ (nI p).toInt ∧ (nI p).toInt ≤ 9; omega), h9, h10, h11, h12, h13, h14, h15, h16⟩, ⟨rfl, rfl, rfl, rfl, rfl, rfl, rfl, e9, e10, e11, e12, e14, e15, e16'⟩⟩
theorem turn_loop {la bt : Nat → Int32} (h : RRig la bt) {mk mp mt mm ma : Nat → Int32} (hm : RMarks mk mp mt mm ma) (td tl : Nat → Int32) {e : Int32} (he : 0 ≤ e.toInt ∧ e.toInt ≤ 50) {s p : Nat} (hs : 1 ≤ s ∧ s ≤ 8) (hp : 1 ≤ p ∧ p ≤ 9) : ∀ (j k : Nat) (a b c : Int32) (m d pa g rn wh an : Nat → Int32), j + k = 41 → 1 ≤ k → FR 10 g an → ∃ (x a' b' c' : Int32) (m' d' pa' g' : Nat → Int32) (y : Int32) (rn' wh' an' : Nat → Int32), F_X9_searchTold_l67 tl mk mp mt e (F_X6_copy td la) (F_X2_latest mk mt) (nI s) (nI p) j (nI (10 * k)) a b c m d pa g = (x, a', b', c', m', d', pa', g') ∧ F_X10_told_l69 mm bt ma e (la 2) (la 3) (la 4) (la 7) (la 13) (nI s) (nI p) j (nI (10 * k)) rn wh an = (y, rn', wh', an') ∧ FR 10 g' an' := by
  obtain ⟨M, eM, hM, hlat⟩ := latest_ok hm
  obtain ⟨R, hR, k2, m25, hk2⟩ := id hm
  intro j
  induction j with
  | zero =>
    intro k a b c m d pa g rn wh an hk h1 hr
    exact ⟨_, _, _, _, _, _, _, _, _, _, _, _, rfl, rfl, hr⟩
  | succ j ih =>
    intro k a b c m d pa g rn wh an hk h1 hr
    have gd : ¬ (400 : Int32) < nI (10 * k) := nI_nlt (a := 400) (by omega) (by omega)
    have gm : ¬ (401 : Int32) ≤ nI (10 * k) := nI_ge (a := 10 * k) (b := 401) (by omega) (by omega)
    have ht : 0 ≤ (nI (10 * k)).toInt ∧ (nI (10 * k)).toInt ≤ 400 := nI_400 (by omega)
    obtain ⟨hok, hmr⟩ := toldRig h td mm hs hp
    obtain ⟨Kc, mo, path, e1, rc, sm, pth⟩ := make_full hmr hok (upd (upd (upd tl 3 a) 4 b) 5 c) m d pa (-1 : Int32) 0 ht (Or.inr rfl) (M := M) (by omega)
    obtain ⟨Kf, rn1, wh1, e2, rf, hw⟩ := marks_full hmr hok rn ma wh ht hR (show mmT mm la s p 25 = nI R from m25)
    have eK := runTo_min hM rc rf
    have hmo : ∀ i d : Nat, i + d ≤ 600 → ((fun j => (UU (mmT mm la s p) bt (-1 : Int32) 0 (nI (10 * k)) (st0 (nI (10 * k))) j).1 2) i).toInt ≤ ((fun j => (UU (mmT mm la s p) bt (-1 : Int32) 0 (nI (10 * k)) (st0 (nI (10 * k))) j).1 2) (i + d)).toInt := fun i d hid => place_mono hmr hok (-1 : Int32) 0 (nI (10 * k)) (Or.inr rfl) (st0_fair ht) i d (by omega)
    have e2 : F_X10_runsByMarks (upd (upd (upd (upd (upd (upd (upd (upd mm 0 (0 : Int32)) 6 (la 2)) 7 (la 3)) 8 (la 4)) 9 (nI s)) 10 (la 7)) 11 (nI p)) 12 (la 13)) bt rn ma wh (nI (10 * k)) = (rn1, wh1) := e2
    have e1 : F_X8_make (upd (upd (upd tl 3 a) 4 b) 5 c) m d pa (upd (upd (F_X6_copy td la) 6 (nI s)) 8 (nI p)) (nI (10 * k)) (-1 : Int32) (F_X2_latest mk mt) (0 : Int32) = _ := (congrArg (fun v => F_X8_make (upd (upd (upd tl 3 a) 4 b) 5 c) m d pa (upd (upd (F_X6_copy td la) 6 (nI s)) 8 (nI p)) (nI (10 * k)) (-1 : Int32) v (0 : Int32)) eM).trans e1
    generalize hT : TOPP (mmT mm la s p) bt (-1 : Int32) 0 (nI (10 * k)) (st0 (nI (10 * k))) Kc = tp at e1
    generalize hE : (UU (mmT mm la s p) bt (-1 : Int32) 0 (nI (10 * k)) (st0 (nI (10 * k))) Kc).2 = em at e1
    have iff1 : (¬ F_X2_agree mk mp mt (upd (upd (upd tl 3 (nI Kc)) 4 tp) 5 em) path e = 0) ↔ ¬ F_X10_isByMarks (upd (upd (upd (upd (upd (upd (upd (upd mm 0 (0 : Int32)) 6 (la 2)) 7 (la 3)) 8 (la 4)) 9 (nI s)) 10 (la 7)) 11 (nI p)) 12 (la 13)) ma wh1 e = 0 := by
      have ia : (¬ F_X2_agree mk mp mt (upd (upd (upd tl 3 (nI Kc)) 4 tp) 5 em) path e = 0) ↔ _ := agree_iff (mp := mp) (mt := mt) (tl := upd (upd (upd tl 3 (nI Kc)) 4 tp) 5 em) (path := path) (e := e) hR k2 4 0 rfl
      have ib : (¬ F_X10_isByMarks (upd (upd (upd (upd (upd (upd (upd (upd mm 0 (0 : Int32)) 6 (la 2)) 7 (la 3)) 8 (la 4)) 9 (nI s)) 10 (la 7)) 11 (nI p)) 12 (la 13)) ma wh1 e = 0) ↔ _ := by_iff (mm := upd (upd (upd (upd (upd (upd (upd (upd mm 0 (0 : Int32)) 6 (la 2)) 7 (la 3)) 8 (la 4)) 9 (nI s)) 10 (la 7)) 11 (nI p)) 12 (la 13)) (ma := ma) (wh := wh1) (e := e) hR m25 4 0 1 rfl
      rw [ia, ib]
      have one : ∀ i : Nat, i < R → (((¬ F_X8_reachedBy (upd (upd (upd tl 3 (nI Kc)) 4 tp) 5 em) path (mt i) (mp i) = 0) ∧ F_X8_reachedBy (upd (upd (upd tl 3 (nI Kc)) 4 tp) 5 em) path ((mt i - e) - 1) (mp i) = 0) ↔ ¬ wh1 i = (-4 : Int32) ∧ ¬ ma (2 * i + 1) < wh1 i ∧ ¬ e < ma (2 * i + 1) - wh1 i) := by
        intro i hi
        obtain ⟨q1, q2, q3⟩ := hk2 i hi
        have hlt := hlat i R k2 hR hi
        rw [← q2]
        have hwi := hw i hi
        rw [← q1] at hwi
        exact mark_iff hM eK rf.1 rfl (fun j h1 h2 => pth j h1 h2 (by have := rc.1; omega)) hmo ⟨q3.1, hlt⟩ he hwi
      constructor
      · intro hh
        exact ⟨by decide, fun i h1 h2 => (one i h2).mp (hh i h1 h2)⟩
      · intro hh i h1 h2
        exact (one i h2).mpr (hh.2 i h1 h2)
    rw [F_X9_searchTold_l67, F_X10_told_l69]
    unfold F_X9_searchTold_b67 F_X10_told_b69
    rw [if_neg gd, if_neg gm, e1, e2]
    dsimp only
    unfold F_X9_searchTold_k88 F_X10_told_k78
    have nx : nI (10 * k) + (10 : Int32) = nI (10 * (k + 1)) := by
      rw [show (10 : Int32) = nI 10 from rfl, nI_add]
      congr 1
    by_cases q : F_X2_agree mk mp mt (upd (upd (upd tl 3 (nI Kc)) 4 tp) 5 em) path e = 0
    · have qb : F_X10_isByMarks (upd (upd (upd (upd (upd (upd (upd (upd mm 0 (0 : Int32)) 6 (la 2)) 7 (la 3)) 8 (la 4)) 9 (nI s)) 10 (la 7)) 11 (nI p)) 12 (la 13)) ma wh1 e = 0 := Decidable.by_contra (fun w => (iff1.mpr w) q)
      rw [if_pos q, if_pos qb]
      unfold F_X9_searchTold_j112 F_X10_told_j206
      rw [nx]
      exact ih (k + 1) _ _ _ _ _ _ _ _ _ _ (by omega) (by omega) hr
    · have qb := iff1.mp q
      rw [if_neg q, if_neg qb]
      unfold F_X9_searchTold_k109 F_X9_searchTold_j112
      have ean : (if an 0 = (0 : Int32) then F_X10_told_j116 (nI s) (nI p) (nI (10 * k)) an rn1 wh1 (nI s) else F_X10_told_j116 (nI s) (nI p) (nI (10 * k)) an rn1 wh1 (an 1)) = Sum.inl (nI (10 * k) + (10 : Int32), rn1, wh1, ANn an (nI s) (nI p) (nI (10 * k))) := by
        unfold F_X10_told_j116 F_X10_told_j144 F_X10_told_j169 F_X10_told_k176 F_X10_told_k186 F_X10_told_k193 F_X10_told_k205 F_X10_told_j206 ANn ANw A1
        by_cases q0 : an 0 = 0
        · rw [if_pos q0, if_pos q0, if_pos q0, if_pos q0, if_pos q0, if_pos q0]; rfl
        · rw [if_neg q0, if_neg q0, if_neg q0, if_neg q0, if_neg q0, if_neg q0]; rfl
      rw [ean, nx]
      exact ih (k + 1) _ _ _ _ _ _ _ _ _ _ (by omega) (by omega) (note_both (td := tdT td la s p) (nI (10 * k)) hr)
theorem blade_loop {la bt : Nat → Int32} (h : RRig la bt) {mk mp mt mm ma : Nat → Int32} (hm : RMarks mk mp mt mm ma) (td tl : Nat → Int32) {e : Int32} (he : 0 ≤ e.toInt ∧ e.toInt ≤ 50) {s : Nat} (hs : 1 ≤ s ∧ s ≤ 8) : ∀ (j k : Nat) (s6 s8 a b c : Int32) (m d pa g rn wh an : Nat → Int32), j + k = 10 → 1 ≤ k → FR 10 g an → ∃ (x y6 y8 a' b' c' : Int32) (m' d' pa' g' : Nat → Int32) (y : Int32) (rn' wh' an' : Nat → Int32), F_X9_searchTold_l39 tl mk mp mt e (F_X6_copy td la) (F_X2_latest mk mt) (nI s) j (nI k) s6 s8 a b c m d pa g = (x, y6, y8, a', b', c', m', d', pa', g') ∧ F_X10_told_l57 mm bt ma e (la 2) (la 3) (la 4) (la 7) (la 13) (nI s) j (nI k) rn wh an = (y, rn', wh', an') ∧ FR 10 g' an' := by
  intro j
  induction j with
  | zero =>
    intro k s6 s8 a b c m d pa g rn wh an hk h1 hr
    exact ⟨_, _, _, _, _, _, _, _, _, _, _, _, _, _, rfl, rfl, hr⟩
  | succ j ih =>
    intro k s6 s8 a b c m d pa g rn wh an hk h1 hr
    have gd : ¬ (9 : Int32) < nI k := nI_nlt (a := 9) (by omega) (by omega)
    have gm : ¬ (10 : Int32) ≤ nI k := nI_ge (a := k) (b := 10) (by omega) (by omega)
    obtain ⟨x, a', b', c', m', d', pa', g', y, rn', wh', an', w1, w2, w3⟩ := turn_loop h hm td tl he hs (show 1 ≤ k ∧ k ≤ 9 by omega) 40 1 a b c m d pa g rn wh an (by decide) (by decide) hr
    have w1 : F_X9_searchTold_l67 tl mk mp mt e (F_X6_copy td la) (F_X2_latest mk mt) (nI s) (nI k) 40 (10 : Int32) a b c m d pa g = _ := w1
    have w2 : F_X10_told_l69 mm bt ma e (la 2) (la 3) (la 4) (la 7) (la 13) (nI s) (nI k) 40 (10 : Int32) rn wh an = _ := w2
    rw [F_X9_searchTold_l39, F_X10_told_l57]
    unfold F_X9_searchTold_b39 F_X10_told_b57
    rw [if_neg gd, if_neg gm, w1, w2]
    dsimp only
    unfold F_X9_searchTold_x67 F_X10_told_x69 F_X10_told_k219
    rw [nI_1]
    exact ih (k + 1) _ _ _ _ _ _ _ _ _ _ _ _ (by omega) (by omega) w3
theorem told_loop {la bt : Nat → Int32} (h : RRig la bt) {mk mp mt mm ma : Nat → Int32} (hm : RMarks mk mp mt mm ma) (td tl : Nat → Int32) {e : Int32} (he : 0 ≤ e.toInt ∧ e.toInt ≤ 50) : ∀ (j k : Nat) (s6 s8 a b c : Int32) (m d pa g : Nat → Int32) (s11 : Int32) (rn wh an : Nat → Int32), j + k = 9 → 1 ≤ k → FR 10 g an → ∃ (x y6 y8 a' b' c' : Int32) (m' d' pa' g' : Nat → Int32) (y y11 : Int32) (rn' wh' an' : Nat → Int32), F_X9_searchTold_l30 tl mk mp mt e (F_X6_copy td la) (F_X2_latest mk mt) j (nI k) s6 s8 a b c m d pa g = (x, y6, y8, a', b', c', m', d', pa', g') ∧ F_X10_told_l43 mm bt ma e (la 2) (la 3) (la 4) (la 7) (la 13) j (nI k) s11 rn wh an = (y, y11, rn', wh', an') ∧ FR 10 g' an' := by
  intro j
  induction j with
  | zero =>
    intro k s6 s8 a b c m d pa g s11 rn wh an hk h1 hr
    exact ⟨_, _, _, _, _, _, _, _, _, _, _, _, _, _, _, rfl, rfl, hr⟩
  | succ j ih =>
    intro k s6 s8 a b c m d pa g s11 rn wh an hk h1 hr
    have gd : ¬ (8 : Int32) < nI k := nI_nlt (a := 8) (by omega) (by omega)
    have gm : ¬ (9 : Int32) ≤ nI k := nI_ge (a := k) (b := 9) (by omega) (by omega)
    obtain ⟨x, y6, y8, a', b', c', m', d', pa', g', y, rn', wh', an', w1, w2, w3⟩ := blade_loop h hm td tl he (show 1 ≤ k ∧ k ≤ 8 by omega) 9 1 s6 s8 a b c m d pa g rn wh an (by decide) (by decide) hr
    have w1 : F_X9_searchTold_l39 tl mk mp mt e (F_X6_copy td la) (F_X2_latest mk mt) (nI k) 9 (1 : Int32) s6 s8 a b c m d pa g = _ := w1
    have w2 : F_X10_told_l57 mm bt ma e (la 2) (la 3) (la 4) (la 7) (la 13) (nI k) 9 (1 : Int32) rn wh an = _ := w2
    rw [F_X9_searchTold_l30, F_X10_told_l43]
    unfold F_X9_searchTold_b30 F_X10_told_b43
    rw [if_neg gd, if_neg gm, w1, w2]
    dsimp only
    unfold F_X9_searchTold_x39 F_X10_told_x57 F_X10_told_k232
    rw [nI_1]
    exact ih (k + 1) _ _ _ _ _ _ _ _ _ _ _ _ _ (by omega) (by omega) w3
def MTold (la mk mp mt : Nat → Int32) (k f : Int32) (sa : Nat → Int32) : Prop := ¬ k = 0 → ∀ (mm bt rn ma wh an : Nat → Int32) (what : Int32), RRig la bt → RMarks mk mp mt mm ma → ¬ F_X9_within f (0 : Int32) (50 : Int32) = 0 → ¬ F_X9_within what (0 : Int32) (9 : Int32) = 0 → (F_X10_told mm bt rn ma wh an f what).1 = if what ≤ 0 then F_X3_answer 10 sa what else if F_X3_answer 10 sa 0 = 0 then (-4 : Int32) else F_X3_answer 10 sa what
theorem told_search {la bt0 mk mp mt mm0 ma0 : Nat → Int32} (h : RRig la bt0) (hm0 : RMarks mk mp mt mm0 ma0) (td tl m d pa ta : Nat → Int32) {e : Int32} (he : ¬ F_X9_within e (0 : Int32) (50 : Int32) = 0) : ∃ (td' : Nat → Int32) (a b c : Int32) (m' d' pa' g' : Nat → Int32), F_X9_searchTold la td tl m d pa mk mp mt ta e = (td', a, b, c, m', d', pa', 1, e, 0, g') ∧ MTold la mk mp mt 1 e g' := by
  have hee := w_lo he (a := 0) (b := 50) rfl rfl
  obtain ⟨g0, eg, hg⟩ := mlearn 10 (by decide) ta e 0
  cases e9 : F_X9_searchTold_l30 tl mk mp mt e (F_X6_copy td la) (F_X2_latest mk mt) 8 (1 : Int32) (F_X6_copy td la 6) (F_X6_copy td la 8) (tl 3) (tl 4) (tl 5) m d pa g0 with
  | mk x r =>
  obtain ⟨y6, y8, a', b', c', m', d', pa', g'⟩ := r
  refine ⟨upd (upd (F_X6_copy td la) 6 y6) 8 y8, a', b', c', m', d', pa', g', ?_, ?_⟩
  · unfold F_X9_searchTold F_X9_searchTold_k8
    rw [eg]
    dsimp only
    unfold F_X9_searchTold_k17 F_X9_searchTold_k27
    rw [e9]
    rfl
  intro _ mm bt rn ma wh an what hr hma _ hw
  obtain ⟨x', z6, z8, a3, b3, c3, m3, d3, p3, g3, y, y11, rn', wh', an', f1, f2, hF⟩ := told_loop hr hma td tl hee 8 1 (F_X6_copy td la 6) (F_X6_copy td la 8) (tl 3) (tl 4) (tl 5) m d pa g0 (la 8) rn wh (upd an 0 (0 : Int32)) (by decide) (by decide) ⟨hg 0 (by decide), Or.inl (hg 0 (by decide))⟩
  have f1 : F_X9_searchTold_l30 tl mk mp mt e (F_X6_copy td la) (F_X2_latest mk mt) 8 (1 : Int32) (F_X6_copy td la 6) (F_X6_copy td la 8) (tl 3) (tl 4) (tl 5) m d pa g0 = _ := f1
  have f2 : F_X10_told_l43 mm bt ma e (la 2) (la 3) (la 4) (la 7) (la 13) 8 (1 : Int32) (la 8) rn wh (upd an 0 (0 : Int32)) = _ := f2
  rw [e9] at f1
  simp only [Prod.mk.injEq] at f1
  have eg' := f1.2.2.2.2.2.2.2.2.2
  subst eg'
  unfold F_X10_told
  rw [in_eq, in_eq, if_neg he, if_neg hw, asIt hr]
  dsimp only
  unfold F_X10_told_k28
  rw [f2]
  dsimp only
  unfold F_X10_told_x43 F_X10_told_j256
  have hww := w_lo hw (a := 0) (b := 9) rfl rfl
  obtain ⟨w, hw3, rfl⟩ : ∃ w : Nat, w ≤ 9 ∧ what = nI w := nI_of2 (M := 9) rfl (by rw [Int32.lt_iff_toInt_lt, i_z]; omega) (by rw [Int32.le_iff_toInt_le]; exact hww.2)
  rw [m_ans (by omega) (by decide), show F_X3_answer 10 g' (0 : Int32) = g' 0 from m_ans (N := 10) (w := 0) (by decide) (by decide) g', hF.1]
  by_cases q : nI w ≤ 0
  · rw [if_pos q, if_pos q]
    have w0 : w = 0 := by
      rw [show (0 : Int32) = nI 0 from rfl, nI_leI (by omega) (by omega)] at q
      omega
    subst w0
    exact hF.1.symm
  · rw [if_neg q, if_neg q]
    by_cases q0 : an' 0 = 0
    · rw [if_pos q0, if_pos q0]
    · rw [if_neg q0, if_neg q0]
      show an' (Int32.toNatClampNeg (nI w)) = _
      rw [nI_clamp (by omega)]
      exact ((hF.2.resolve_left (fun w0 => q0 (hF.1 ▸ w0))) w (by omega)).symm
theorem a_told {la bt mk mp mt mm ma tm ta : Nat → Int32} (h : RRig la bt) (hm : RMarks mk mp mt mm ma) (hk : MTold la mk mp mt (tm 1) (tm 2) ta) (td tl m d pa rn wh an : Nat → Int32) (e what : Int32) : (F_X9_told la td tl m d pa mk mp mt tm ta e what).1 = (F_X10_told mm bt rn ma wh an e what).1 ∧ MTold la mk mp mt (F_X9_told la td tl m d pa mk mp mt tm ta e what).2.2.2.2.2.2.2.2.1 (F_X9_told la td tl m d pa mk mp mt tm ta e what).2.2.2.2.2.2.2.2.2.1 (F_X9_told la td tl m d pa mk mp mt tm ta e what).2.2.2.2.2.2.2.2.2.2.2 := by
  by_cases c1 : F_X9_within e (0 : Int32) (50 : Int32) = 0
  · unfold F_X9_told F_X10_told
    rw [in_eq, if_pos c1, if_pos c1]; exact ⟨rfl, hk⟩
  by_cases c3 : F_X9_within what (0 : Int32) (9 : Int32) = 0
  · unfold F_X9_told F_X10_told
    rw [in_eq, in_eq, if_neg c1, if_neg c1, if_pos c3, if_pos c3]; exact ⟨rfl, hk⟩
  have e39 : ∀ (td' : Nat → Int32) (v3 v4 v5 : Int32) (m' b' p' : Nat → Int32) (v1 v2 v6 : Int32) (g : Nat → Int32), F_X9_told_j39 what td' v3 v4 v5 m' b' p' v1 v2 v6 g = ((if what ≤ 0 then F_X3_answer 10 g what else if F_X3_answer 10 g 0 = 0 then (-4 : Int32) else F_X3_answer 10 g what), td', v3, v4, v5, m', b', p', v1, v2, v6, g) := by
    intro td' v3 v4 v5 m' b' p' v1 v2 v6 g
    unfold F_X9_told_j39 F_X9_told_j59
    by_cases q : what ≤ 0
    · rw [if_pos q, if_pos q]
    · rw [if_neg q, if_neg q]
      by_cases q0 : F_X3_answer 10 g 0 = 0
      · rw [if_pos q0, if_pos q0]
      · rw [if_neg q0, if_neg q0]
  unfold F_X9_told
  rw [if_neg c1, if_neg c3]
  by_cases c4 : F_X3_holds tm e 0 = 0
  · rw [if_pos c4]
    obtain ⟨td', a', b', c', m', d', p', g', ee, hmm⟩ := told_search h hm td tl m d pa ta c1
    rw [ee]
    dsimp only
    unfold F_X9_told_k36
    rw [e39]
    exact ⟨(hmm (by decide) mm bt rn ma wh an what h hm c1 c3).symm, hmm⟩
  · rw [if_neg c4, e39]
    obtain ⟨q1, q2, q3⟩ := holds_ne c4
    refine ⟨?_, hk⟩
    have := hk q1 mm bt rn ma wh an what h hm (by rw [q2]; exact c1) c3
    rw [q2] at this
    exact this.symm
