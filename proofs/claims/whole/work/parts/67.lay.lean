/-! reading a text: the band, the stuff, whole texts, laying -/
theorem RTl.head {rg rg' bt bt' : Nat → Int32} (h : RTl rg bt) (hr : ∀ j : Nat, 8 ≤ j → j ≤ 16 → rg' j = rg j) (hb : ∀ j : Nat, 49 ≤ j → j ≤ 57 → bt' j = bt j) : RTl rg' bt' := by
  unfold RTl
  rw [hr 8 (by decide) (by decide), hr 9 (by decide) (by decide), hr 10 (by decide) (by decide), hr 11 (by decide) (by decide), hr 12 (by decide) (by decide), hr 13 (by decide) (by decide), hr 14 (by decide) (by decide), hr 15 (by decide) (by decide), hr 16 (by decide) (by decide), hb 49 (by decide) (by decide), hb 50 (by decide) (by decide), hb 51 (by decide) (by decide), hb 52 (by decide) (by decide), hb 53 (by decide) (by decide), hb 54 (by decide) (by decide), hb 55 (by decide) (by decide), hb 56 (by decide) (by decide), hb 57 (by decide) (by decide)]
  exact h
theorem item_b {sc sb mm tx : Nat → Int32} (h : RText sc sb mm tx) {A : Nat} (hA : A < 40000) {mm' : Nat → Int32} (h2 : mm' 2 = mm 2) (h3 : mm' 3 = nI (A + 1)) (h4 : mm' 4 = 1) {rg sn bt : Nat → Int32} (hr : RR rg sn bt) (nums : Nat → Int32) : ItemOK A (F_X5_itemEnd_l20 rg sn sc sb (98 : Int32) (nI 3) 3 (nI 0) (nI (A + 1)) nums) (F_X10_readsItem mm' tx bt (98 : Int32)) bt := by
  have em : F_X10_readsItem mm' tx bt (98 : Int32) = (match F_X10_number mm' tx (0 : Int32) (bt 58 - (1 : Int32)) (44 : Int32) with | (r, x, w) => F_X10_readsItem_k153 mm' tx bt r x w) := by
    unfold F_X10_readsItem
    rw [if_neg (by decide), if_pos rfl]
  rw [em]
  obtain ⟨Q, hQ, g0, g58, g59, g01, hS, hBd⟩ := id hr.1
  rcases N1 h (A := A + 1) (by omega) (s := 44) (Or.inl rfl) with ⟨B1, v1, hB1, hB1', hE1, hM1⟩ | ⟨hE1, hM1⟩
  rotate_left
  · obtain ⟨r, x, e⟩ := hM1 mm' 0 (bt 58 - 1) h2 h3
    rw [e, show F_X5_itemEnd_l20 rg sn sc sb (98 : Int32) (nI 3) 3 (nI 0) (nI (A + 1)) nums = (-1, rg, sn, nums) from it_no (n := 3) (i := 0) (j := 2) (by decide) (by decide) hE1]
    exact ItemOK.ex rfl (d153 mm' tx bt r x)
  obtain ⟨r1, w1, e1, hw1⟩ := hM1 mm' 0 (bt 58 - 1) h2 h3
  rw [e1, show F_X5_itemEnd_l20 rg sn sc sb (98 : Int32) (nI 3) 3 (nI 0) (nI (A + 1)) nums = _ from it_ok (n := 3) (i := 0) (j := 2) (by decide) (by decide) (by omega) hE1]
  dsimp only
  unfold F_X10_readsItem_k153
  rcases N1 h (A := B1) (by omega) (s := 44) (Or.inl rfl) with ⟨B2, v2, hB2, hB2', hE2, hM2⟩ | ⟨hE2, hM2⟩
  rotate_left
  · obtain ⟨r, x, e⟩ := hM2 (upd (upd mm' 3 (nI B1)) 4 w1) 1 8 h2 rfl
    rw [e, show F_X5_itemEnd_l20 rg sn sc sb (98 : Int32) (nI 3) 2 (nI (0 + 1)) (nI B1) (upd nums 0 v1) = (-1, rg, sn, upd nums 0 v1) from it_no (n := 3) (i := 1) (j := 1) (by decide) (by decide) hE2]
    exact ItemOK.ex rfl (d163 mm' tx bt r1 r x)
  obtain ⟨r2, w2, e2, hw2⟩ := hM2 (upd (upd mm' 3 (nI B1)) 4 w1) 1 8 h2 rfl
  rw [e2, show F_X5_itemEnd_l20 rg sn sc sb (98 : Int32) (nI 3) 2 (nI (0 + 1)) (nI B1) (upd nums 0 v1) = _ from it_ok (n := 3) (i := 1) (j := 1) (by decide) (by decide) (by omega) hE2]
  dsimp only
  unfold F_X10_readsItem_k163
  rcases N1 h (A := B2) (by omega) (s := 59) (Or.inr rfl) with ⟨B3, v3, hB3, hB3', hE3, hM3⟩ | ⟨hE3, hM3⟩
  rotate_left
  · obtain ⟨r, x, e⟩ := hM3 (upd (upd mm' 3 (nI B2)) 4 w2) 1 40 h2 rfl
    rw [e, show F_X5_itemEnd_l20 rg sn sc sb (98 : Int32) (nI 3) 1 (nI (1 + 1)) (nI B2) (upd (upd nums 0 v1) 1 v2) = (-1, rg, sn, upd (upd nums 0 v1) 1 v2) from it_no (n := 3) (i := 2) (j := 0) (by decide) (by decide) hE3]
    dsimp only
    unfold F_X10_readsItem_k174 F_X10_readsItem_k183 F_X10_readsItem_k191 F_X10_readsItem_k199 F_X10_readsItem_k206
    rw [puts0 (mm := upd (upd mm' 3 x) 4 0) rfl, puts0 (mm := upd (upd mm' 3 x) 4 0) rfl, puts0 (mm := upd (upd mm' 3 x) 4 0) rfl, puts0 (mm := upd (upd mm' 3 x) 4 0) rfl]
    exact ItemOK.no rfl rfl rfl
  obtain ⟨r3, w3, e3, hw3⟩ := hM3 (upd (upd mm' 3 (nI B2)) 4 w2) 1 40 h2 rfl
  have et : F_X5_take rg sn (upd (upd (upd nums 0 v1) 1 v2) 2 v3) (98 : Int32) = ((F_X5_takeBand rg sn (upd (upd (upd nums 0 v1) 1 v2) 2 v3)).1, (F_X5_takeBand rg sn (upd (upd (upd nums 0 v1) 1 v2) 2 v3)).2, sn) := by
    unfold F_X5_take
    rw [if_neg (by decide), if_pos rfl]
    rfl
  have etb : F_X5_takeBand rg sn (upd (upd (upd nums 0 v1) 1 v2) 2 v3) = (if F_X9_within v1 (0 : Int32) (bt 58 - (1 : Int32)) = 0 then ((0 : Int32), rg) else if F_X9_within v2 (1 : Int32) (8 : Int32) = 0 then (0, rg) else if F_X9_within v3 (1 : Int32) (40 : Int32) = 0 then (0, rg) else if F_X9_within ((4 : Int32) * v1) (0 : Int32) ((16 : Int32) - (4 : Int32)) = 0 then (0, rg) else (1, upd (upd (upd (upd (upd (upd (upd rg 1 (1 : Int32)) 2 (sn (Int32.toNatClampNeg ((4 : Int32) * v1)))) 3 (sn (Int32.toNatClampNeg ((4 : Int32) * v1 + (1 : Int32))))) 4 (sn (Int32.toNatClampNeg ((4 : Int32) * v1 + (2 : Int32))))) 5 (sn (Int32.toNatClampNeg ((4 : Int32) * v1 + (3 : Int32))))) 6 v2) 7 v3)) := by
    rw [g58, ← g0]
    rfl
  rw [e3, show F_X5_itemEnd_l20 rg sn sc sb (98 : Int32) (nI 3) 1 (nI (1 + 1)) (nI B2) (upd (upd nums 0 v1) 1 v2) = _ from it_ok (n := 3) (i := 2) (j := 0) (by decide) (by decide) (by omega) hE3, show nI (2 + 1) = nI 3 from rfl, it_end (n := 3) (by decide) (by decide), et, etb]
  dsimp only
  unfold F_X10_readsItem_k174 F_X10_readsItem_k183 F_X10_readsItem_k191 F_X10_readsItem_k199 F_X10_readsItem_k206
  rcases hw3 with ⟨rfl, rfl, q3, p3⟩ | ⟨rfl, q3⟩
  · rcases hw2 with ⟨rfl, rfl, q2, p2⟩ | ⟨rfl, -⟩
    rotate_left
    · exact absurd rfl p3
    rcases hw1 with ⟨rfl, rfl, q1, -⟩ | ⟨rfl, -⟩
    rotate_left
    · exact absurd rfl p2
    obtain ⟨q, hq, eq1⟩ : ∃ q : Nat, q < Q ∧ r1 = nI q := by
      have m1 : (nI Q - (1 : Int32)).toInt = (Q : Int) - 1 := by
        rw [i_sub (by rw [nI_toInt (by omega)]; show -2147483648 ≤ (Q : Int) - 1; omega) (by rw [nI_toInt (by omega)]; show (Q : Int) - 1 < 2147483648; omega), nI_toInt (by omega)]; rfl
      have ww := w_lo q1 (a := 0) (b := (Q : Int) - 1) rfl (by rw [g58]; exact m1)
      refine ⟨r1.toInt.toNat, by omega, Int32.toInt_inj.mp ?_⟩
      rw [nI_toInt (by omega)]
      omega
    subst eq1
    have e4 : (4 : Int32) * nI q = nI (4 * q) := by rw [show (4 : Int32) = nI 4 from rfl, pk_mul]
    have w12 : ¬ F_X9_within ((4 : Int32) * nI q) (0 : Int32) ((16 : Int32) - (4 : Int32)) = 0 := by
      rw [e4]
      unfold F_X9_within
      rw [if_neg (nI_pos (by omega)), if_neg (show ¬ (16 : Int32) - (4 : Int32) < nI (4 * q) from nI_nlt (a := 12) (b := 4 * q) (by omega) (by omega))]
      decide
    rw [if_neg q1, if_neg q2, if_neg q3, if_neg w12]
    dsimp only
    rw [if_neg (by decide), puts1 (mm := upd (upd mm' 3 (nI B3)) 4 1) (k := 16) rfl 46 rfl, puts1 (mm := upd (upd mm' 3 (nI B3)) 4 1) (k := 17) rfl 47 rfl, puts1 (mm := upd (upd mm' 3 (nI B3)) 4 1) (k := 18) rfl 48 rfl, puts1 (mm := upd (upd mm' 3 (nI B3)) 4 1) rfl 59 rfl, e4, show (1 : Int32) = nI 1 from rfl, show (2 : Int32) = nI 2 from rfl, show (3 : Int32) = nI 3 from rfl, nI_add, nI_add, nI_add, nI_clamp (by omega), nI_clamp (by omega), nI_clamp (by omega), nI_clamp (by omega)]
    have low : ∀ j : Nat, j < 46 → upd (upd (upd (upd bt 46 (nI q)) 47 r2) 48 r3) 59 (nI 1) j = bt j := fun j hj => (((pk_un (by omega)).trans (pk_un (by omega))).trans (pk_un (by omega))).trans (pk_un (by omega))
    refine ⟨fun j hj => low j (by omega), Or.inr ⟨B3, by omega, by omega, rfl, rfl, rfl, ?_, ?_⟩⟩
    · refine ⟨Q, hQ, g0, g58, rfl, Or.inr rfl, fun i hi => ?_, fun _ => ?_⟩
      · obtain ⟨s0, s1, s2, s3, s4⟩ := hS i hi
        exact ⟨s0.trans (low _ (by omega)).symm, s1.trans (low _ (by omega)).symm, s2.trans (low _ (by omega)).symm, s3.trans (low _ (by omega)).symm, s4⟩
      · obtain ⟨s0, s1, s2, s3, s4⟩ := hS q hq
        exact ⟨q, hq, rfl, s0.trans (low _ (by omega)).symm, s1.trans (low _ (by omega)).symm, s2.trans (low _ (by omega)).symm, s3.trans (low _ (by omega)).symm, rfl, rfl, w_lo q2 rfl rfl, w_lo q3 rfl rfl⟩
    · exact hr.2.head (fun j h1 h2 => by
        show upd (upd (upd (upd (upd (upd (upd rg 1 _) 2 _) 3 _) 4 _) 5 _) 6 _) 7 _ j = rg j
        rw [pk_un (by omega), pk_un (by omega), pk_un (by omega), pk_un (by omega), pk_un (by omega), pk_un (by omega), pk_un (by omega)]) (fun j h1 h2 => (((pk_un (by omega)).trans (pk_un (by omega))).trans (pk_un (by omega))).trans (pk_un (by omega)))
  · have bad : ∀ X : Int32 × (Nat → Int32), (if F_X9_within v1 (0 : Int32) (bt 58 - (1 : Int32)) = 0 then ((0 : Int32), rg) else if F_X9_within v2 (1 : Int32) (8 : Int32) = 0 then (0, rg) else if F_X9_within v3 (1 : Int32) (40 : Int32) = 0 then (0, rg) else X) = (0, rg) := by
      intro X
      rcases q3 with q3 | q3
      · have q3 : w2 = 0 := q3
        rcases hw2 with ⟨w, -⟩ | ⟨-, w⟩
        · rw [w] at q3; exact absurd q3 (by decide)
        · rcases w with w | w
          · have w : w1 = 0 := w
            rcases hw1 with ⟨ww, -⟩ | ⟨-, ww⟩
            · rw [ww] at w; exact absurd w (by decide)
            · rw [if_pos (ww.resolve_left (by rw [h4]; decide))]
          · rw [if_pos w, ite_self]
      · rw [if_pos q3, ite_self, ite_self]
    rw [bad, if_pos rfl, puts0 (mm := upd (upd mm' 3 (nI B3)) 4 0) rfl, puts0 (mm := upd (upd mm' 3 (nI B3)) 4 0) rfl, puts0 (mm := upd (upd mm' 3 (nI B3)) 4 0) rfl, puts0 (mm := upd (upd mm' 3 (nI B3)) 4 0) rfl]
    exact ItemOK.no rfl rfl rfl
theorem item_q {sc sb mm tx : Nat → Int32} (h : RText sc sb mm tx) {A : Nat} (hA : A < 40000) {mm' : Nat → Int32} (h2 : mm' 2 = mm 2) (h3 : mm' 3 = nI (A + 1)) (h4 : mm' 4 = 1) {rg sn bt : Nat → Int32} (hr : RR rg sn bt) (nums : Nat → Int32) : ItemOK A (F_X5_itemEnd_l20 rg sn sc sb (113 : Int32) (nI 4) 4 (nI 0) (nI (A + 1)) nums) (F_X10_readsItem mm' tx bt (113 : Int32)) bt := by
  have em : F_X10_readsItem mm' tx bt (113 : Int32) = (match F_X10_number mm' tx (1 : Int32) (99 : Int32) (44 : Int32) with | (r, x, w) => F_X10_readsItem_k20 mm' tx bt r x w) := by
    unfold F_X10_readsItem
    rw [if_pos rfl]
  rw [em]
  obtain ⟨Q, hQ, g0, g58, g59, g01, hS, hBd⟩ := id hr.1
  rcases N1 h (A := A + 1) (by omega) (s := 44) (Or.inl rfl) with ⟨B1, v1, hB1, hB1', hE1, hM1⟩ | ⟨hE1, hM1⟩
  rotate_left
  · obtain ⟨r, x, e⟩ := hM1 mm' 1 99 h2 h3
    rw [e, show F_X5_itemEnd_l20 rg sn sc sb (113 : Int32) (nI 4) 4 (nI 0) (nI (A + 1)) nums = (-1, rg, sn, nums) from it_no (n := 4) (i := 0) (j := 3) (by decide) (by decide) hE1]
    exact ItemOK.ex rfl (d20 mm' tx bt r x)
  obtain ⟨r1, w1, e1, hw1⟩ := hM1 mm' 1 99 h2 h3
  rw [e1, show F_X5_itemEnd_l20 rg sn sc sb (113 : Int32) (nI 4) 4 (nI 0) (nI (A + 1)) nums = _ from it_ok (n := 4) (i := 0) (j := 3) (by decide) (by decide) (by omega) hE1]
  dsimp only
  unfold F_X10_readsItem_k20
  rcases N1 h (A := B1) (by omega) (s := 44) (Or.inl rfl) with ⟨B2, v2, hB2, hB2', hE2, hM2⟩ | ⟨hE2, hM2⟩
  rotate_left
  · obtain ⟨r, x, e⟩ := hM2 (upd (upd mm' 3 (nI B1)) 4 w1) 0 90 h2 rfl
    rw [e, show F_X5_itemEnd_l20 rg sn sc sb (113 : Int32) (nI 4) 3 (nI (0 + 1)) (nI B1) (upd nums 0 v1) = (-1, rg, sn, upd nums 0 v1) from it_no (n := 4) (i := 1) (j := 2) (by decide) (by decide) hE2]
    exact ItemOK.ex rfl (d30 mm' tx bt r1 r x)
  obtain ⟨r2, w2, e2, hw2⟩ := hM2 (upd (upd mm' 3 (nI B1)) 4 w1) 0 90 h2 rfl
  rw [e2, show F_X5_itemEnd_l20 rg sn sc sb (113 : Int32) (nI 4) 3 (nI (0 + 1)) (nI B1) (upd nums 0 v1) = _ from it_ok (n := 4) (i := 1) (j := 2) (by decide) (by decide) (by omega) hE2]
  dsimp only
  unfold F_X10_readsItem_k30
  rcases N1 h (A := B2) (by omega) (s := 44) (Or.inl rfl) with ⟨B3, v3, hB3, hB3', hE3, hM3⟩ | ⟨hE3, hM3⟩
  rotate_left
  · obtain ⟨r, x, e⟩ := hM3 (upd (upd mm' 3 (nI B2)) 4 w2) 1 40 h2 rfl
    rw [e, show F_X5_itemEnd_l20 rg sn sc sb (113 : Int32) (nI 4) 2 (nI (1 + 1)) (nI B2) (upd (upd nums 0 v1) 1 v2) = (-1, rg, sn, upd (upd nums 0 v1) 1 v2) from it_no (n := 4) (i := 2) (j := 1) (by decide) (by decide) hE3]
    exact ItemOK.ex rfl (d41 mm' tx bt r1 r2 r x)
  obtain ⟨r3, w3, e3, hw3⟩ := hM3 (upd (upd mm' 3 (nI B2)) 4 w2) 1 40 h2 rfl
  rw [e3, show F_X5_itemEnd_l20 rg sn sc sb (113 : Int32) (nI 4) 2 (nI (1 + 1)) (nI B2) (upd (upd nums 0 v1) 1 v2) = _ from it_ok (n := 4) (i := 2) (j := 1) (by decide) (by decide) (by omega) hE3]
  dsimp only
  unfold F_X10_readsItem_k41
  rcases N1 h (A := B3) (by omega) (s := 59) (Or.inr rfl) with ⟨B4, v4, hB4, hB4', hE4, hM4⟩ | ⟨hE4, hM4⟩
  rotate_left
  · obtain ⟨r, x, e⟩ := hM4 (upd (upd mm' 3 (nI B3)) 4 w3) r3 99 h2 rfl
    rw [e, show F_X5_itemEnd_l20 rg sn sc sb (113 : Int32) (nI 4) 1 (nI (2 + 1)) (nI B3) (upd (upd (upd nums 0 v1) 1 v2) 2 v3) = (-1, rg, sn, upd (upd (upd nums 0 v1) 1 v2) 2 v3) from it_no (n := 4) (i := 3) (j := 0) (by decide) (by decide) hE4]
    exact ItemOK.ex rfl ⟨_, d53 mm' bt r1 r2 r3 r x⟩
  obtain ⟨r4, w4, e4, hw4⟩ := hM4 (upd (upd mm' 3 (nI B3)) 4 w3) r3 99 h2 rfl
  have et : F_X5_take rg sn (upd (upd (upd (upd nums 0 v1) 1 v2) 2 v3) 3 v4) (113 : Int32) = ((F_X5_takeStuff rg sn (upd (upd (upd (upd nums 0 v1) 1 v2) 2 v3) 3 v4)).1, upd rg 0 (F_X5_takeStuff rg sn (upd (upd (upd (upd nums 0 v1) 1 v2) 2 v3) 3 v4)).2.1, (F_X5_takeStuff rg sn (upd (upd (upd (upd nums 0 v1) 1 v2) 2 v3) 3 v4)).2.2) := by
    unfold F_X5_take
    rw [if_neg (by decide), if_neg (by decide), if_neg (by decide), if_neg (by decide), if_neg (by decide), if_neg (by decide), if_neg (by decide), if_neg (by decide), if_neg (by decide), if_neg (by decide), if_neg (by decide), if_neg (by decide), if_neg (by decide), if_neg (by decide), if_neg (by decide), if_neg (by decide), if_pos rfl]
    rfl
  have etb : F_X5_takeStuff rg sn (upd (upd (upd (upd nums 0 v1) 1 v2) 2 v3) 3 v4) = (if F_X9_within v1 (1 : Int32) (99 : Int32) = 0 then ((0 : Int32), rg 0, sn) else if F_X9_within v2 (0 : Int32) (90 : Int32) = 0 then (0, rg 0, sn) else if F_X9_within v3 (1 : Int32) (40 : Int32) = 0 then (0, rg 0, sn) else if F_X9_within v4 v3 (99 : Int32) = 0 then (0, rg 0, sn) else if F_X9_within ((4 : Int32) * rg 0) (0 : Int32) ((16 : Int32) - (4 : Int32)) = 0 then (0, rg 0, sn) else (1, rg 0 + (1 : Int32), va_cpy (upd (upd (upd (upd nums 0 v1) 1 v2) 2 v3) 3 v4) sn 0 (Int32.toNatClampNeg ((4 : Int32) * rg 0)) 4)) := rfl
  have e40 : (4 : Int32) * nI Q = nI (4 * Q) := by rw [show (4 : Int32) = nI 4 from rfl, pk_mul]
  rw [e4, show F_X5_itemEnd_l20 rg sn sc sb (113 : Int32) (nI 4) 1 (nI (2 + 1)) (nI B3) (upd (upd (upd nums 0 v1) 1 v2) 2 v3) = _ from it_ok (n := 4) (i := 3) (j := 0) (by decide) (by decide) (by omega) hE4, show nI (3 + 1) = nI 4 from rfl, it_end (n := 4) (by decide) (by decide), et, etb]
  dsimp only
  have dead : ∀ X : Int32 × Int32 × (Nat → Int32), w4 = 0 → (if F_X9_within v1 (1 : Int32) (99 : Int32) = 0 then ((0 : Int32), rg 0, sn) else if F_X9_within v2 (0 : Int32) (90 : Int32) = 0 then (0, rg 0, sn) else if F_X9_within v3 (1 : Int32) (40 : Int32) = 0 then (0, rg 0, sn) else if F_X9_within v4 v3 (99 : Int32) = 0 then (0, rg 0, sn) else X) = (0, rg 0, sn) := by
    intro X hw0
    by_cases c1 : F_X9_within v1 (1 : Int32) (99 : Int32) = 0
    · rw [if_pos c1]
    rw [if_neg c1]
    by_cases c2 : F_X9_within v2 (0 : Int32) (90 : Int32) = 0
    · rw [if_pos c2]
    rw [if_neg c2]
    by_cases c3 : F_X9_within v3 (1 : Int32) (40 : Int32) = 0
    · rw [if_pos c3]
    rw [if_neg c3]
    have i1 : w1 = 1 := by
      rcases hw1 with ⟨w, -⟩ | ⟨-, w⟩
      · exact w
      · exact absurd (w.resolve_left (by rw [h4]; decide)) c1
    have i2 : w2 = 1 := by
      rcases hw2 with ⟨w, -⟩ | ⟨-, w⟩
      · exact w
      · exact absurd (w.resolve_left (by show ¬ w1 = 0; rw [i1]; decide)) c2
    have i3 : w3 = 1 ∧ r3 = v3 := by
      rcases hw3 with ⟨w, w', -⟩ | ⟨-, w⟩
      · exact ⟨w, w'⟩
      · exact absurd (w.resolve_left (by show ¬ w2 = 0; rw [i2]; decide)) c3
    rcases hw4 with ⟨w, -⟩ | ⟨-, w⟩
    · rw [w] at hw0; exact absurd hw0 (by decide)
    · have w := w.resolve_left (by show ¬ w3 = 0; rw [i3.1]; decide)
      rw [i3.2] at w
      rw [if_pos w]
  unfold F_X10_readsItem_k53 F_X10_readsItem_j75
  rw [d76]
  by_cases z4 : w4 = 0
  · rw [dead _ z4, if_pos rfl, if_pos z4]
    exact ItemOK.no rfl rfl rfl
  · rw [if_neg z4]
    rcases hw4 with ⟨rfl, rfl, q4, p4⟩ | ⟨w, -⟩
    rotate_left
    · exact absurd w z4
    rcases hw3 with ⟨rfl, rfl, q3, p3⟩ | ⟨rfl, -⟩
    rotate_left
    · exact absurd rfl p4
    rcases hw2 with ⟨rfl, rfl, q2, p2⟩ | ⟨rfl, -⟩
    rotate_left
    · exact absurd rfl p3
    rcases hw1 with ⟨rfl, rfl, q1, -⟩ | ⟨rfl, -⟩
    rotate_left
    · exact absurd rfl p2
    rw [if_neg q1, if_neg q2, if_neg q3, if_neg q4, g0, e40, g58]
    by_cases cq : Q = 4
    · subst cq
      rw [if_pos (show F_X9_within (nI (4 * 4)) (0 : Int32) ((16 : Int32) - (4 : Int32)) = 0 by decide)]
      dsimp only
      rw [if_pos rfl, if_pos (show (4 : Int32) ≤ nI 4 by decide)]
      exact ItemOK.no rfl rfl rfl
    have w12 : ¬ F_X9_within (nI (4 * Q)) (0 : Int32) ((16 : Int32) - (4 : Int32)) = 0 := by
      unfold F_X9_within
      rw [if_neg (nI_pos (by omega)), if_neg (show ¬ (16 : Int32) - (4 : Int32) < nI (4 * Q) from nI_nlt (a := 12) (b := 4 * Q) (by omega) (by omega))]
      decide
    have ea : nI Q &&& (3 : Int32) = nI Q := by
      rw [pk_andN (by omega) 2 (by decide), Nat.mod_eq_of_lt (by omega)]
    rw [if_neg w12]
    dsimp only
    rw [if_neg (by decide), if_neg (show ¬ (4 : Int32) ≤ nI Q from nI_ge (a := Q) (b := 4) (by omega) (by omega)), nI_clamp (by omega), nI_1 Q]
    unfold F_X10_readsItem_j76 F_X10_readsItem_k86 F_X10_readsItem_k99 F_X10_readsItem_k112 F_X10_readsItem_k125 F_X10_readsItem_k134
    have a0 : Int32.toNatClampNeg ((30 : Int32) + nI (4 * Q)) = 30 + 4 * Q := by rw [show (30 : Int32) = nI 30 from rfl, nI_add, nI_clamp (by omega)]
    have a1 : Int32.toNatClampNeg ((30 : Int32) + (nI (4 * Q) + (1 : Int32))) = 30 + 4 * Q + 1 := by rw [show (30 : Int32) = nI 30 from rfl, nI_1, nI_add, nI_clamp (by omega)]; rfl
    have a2 : Int32.toNatClampNeg ((30 : Int32) + (nI (4 * Q) + (2 : Int32))) = 30 + 4 * Q + 2 := by rw [show (30 : Int32) = nI 30 from rfl, show (2 : Int32) = nI 2 from rfl, nI_add, nI_add, nI_clamp (by omega)]; rfl
    have a3 : Int32.toNatClampNeg ((30 : Int32) + (nI (4 * Q) + (3 : Int32))) = 30 + 4 * Q + 3 := by rw [show (30 : Int32) = nI 30 from rfl, show (3 : Int32) = nI 3 from rfl, nI_add, nI_add, nI_clamp (by omega)]; rfl
    rw [g58, ea, e40, nI_1 Q, puts1 (mm := upd (upd mm' 3 (nI B4)) 4 1) (k := nI (4 * Q)) rfl (30 + 4 * Q) a0, puts1 (mm := upd (upd mm' 3 (nI B4)) 4 1) (k := nI (4 * Q) + (1 : Int32)) rfl (30 + 4 * Q + 1) a1, puts1 (mm := upd (upd mm' 3 (nI B4)) 4 1) (k := nI (4 * Q) + (2 : Int32)) rfl (30 + 4 * Q + 2) a2, puts1 (mm := upd (upd mm' 3 (nI B4)) 4 1) (k := nI (4 * Q) + (3 : Int32)) rfl (30 + 4 * Q + 3) a3, puts1 (mm := upd (upd mm' 3 (nI B4)) 4 1) (k := 28) rfl 58 rfl]
    generalize hb' : upd (upd (upd (upd (upd bt (30 + 4 * Q) r1) (30 + 4 * Q + 1) r2) (30 + 4 * Q + 2) r3) (30 + 4 * Q + 3) r4) 58 (nI (Q + 1)) = bt'
    generalize hn' : (upd (upd (upd (upd nums 0 r1) 1 r2) 2 r3) 3 r4) = nn
    have oth : ∀ j : Nat, j < 30 + 4 * Q ∨ (30 + 4 * Q + 3 < j ∧ j ≠ 58) → bt' j = bt j := by
      intro j hj
      rw [← hb', pk_un (by omega), pk_un (by omega), pk_un (by omega), pk_un (by omega), pk_un (by omega)]
    have n0 : bt' (30 + 4 * Q) = r1 := by rw [← hb', pk_un (by omega), pk_un (by omega), pk_un (by omega), pk_un (by omega), pk_us]
    have n1 : bt' (30 + 4 * Q + 1) = r2 := by rw [← hb', pk_un (by omega), pk_un (by omega), pk_un (by omega), pk_us]
    have n2 : bt' (30 + 4 * Q + 2) = r3 := by rw [← hb', pk_un (by omega), pk_un (by omega), pk_us]
    have n3 : bt' (30 + 4 * Q + 3) = r4 := by rw [← hb', pk_un (by omega), pk_us]
    have n58 : bt' 58 = nI (Q + 1) := by rw [← hb', pk_us]
    have c0 : va_cpy nn sn 0 (4 * Q) 4 (4 * Q) = r1 := by rw [pk_cpy_in (by omega) (by omega), ← hn', show 0 + (4 * Q - 4 * Q) = 0 by omega]; rfl
    have c1 : va_cpy nn sn 0 (4 * Q) 4 (4 * Q + 1) = r2 := by rw [pk_cpy_in (by omega) (by omega), ← hn', show 0 + (4 * Q + 1 - 4 * Q) = 1 by omega]; rfl
    have c2 : va_cpy nn sn 0 (4 * Q) 4 (4 * Q + 2) = r3 := by rw [pk_cpy_in (by omega) (by omega), ← hn', show 0 + (4 * Q + 2 - 4 * Q) = 2 by omega]; rfl
    have c3 : va_cpy nn sn 0 (4 * Q) 4 (4 * Q + 3) = r4 := by rw [pk_cpy_in (by omega) (by omega), ← hn', show 0 + (4 * Q + 3 - 4 * Q) = 3 by omega]; rfl
    have co : ∀ j : Nat, j < 4 * Q → va_cpy nn sn 0 (4 * Q) 4 j = sn j := fun j hj => pk_cpy_out (Or.inl hj)
    have hk3 := w_lo q3 (a := 1) (b := 40) rfl rfl
    have hk4 := w_lo q4 (a := r3.toInt) (b := 99) rfl rfl
    refine ⟨fun j hj => oth j (by omega), Or.inr ⟨B4, by omega, by omega, rfl, rfl, rfl, ?_, ?_⟩⟩
    · show RH (upd rg 0 (nI (Q + 1))) (va_cpy nn sn 0 (4 * Q) 4) bt'
      refine ⟨Q + 1, by omega, rfl, n58, ?_, g01, fun i hi => ?_, fun hn => ?_⟩
      · show rg 1 = bt' 59
        rw [oth 59 (by omega)]; exact g59
      · by_cases ei : i = Q
        · subst ei
          unfold SOK
          rw [c0, c1, c2, c3, n0, n1, n2, n3]
          exact ⟨rfl, rfl, rfl, rfl, w_lo q1 rfl rfl, w_lo q2 rfl rfl, hk3, by omega, hk4.2⟩
        · obtain ⟨s0, s1, s2, s3, s4⟩ := hS i (by omega)
          unfold SOK
          rw [co _ (by omega), co _ (by omega), co _ (by omega), co _ (by omega), oth _ (by omega), oth _ (by omega), oth _ (by omega), oth _ (by omega)]
          exact ⟨s0, s1, s2, s3, s4⟩
      · obtain ⟨q, hq, b46, x2, x3, x4, x5, x6, x7, y6, y7⟩ := hBd hn
        refine ⟨q, by omega, ?_, ?_, ?_, ?_, ?_, ?_, ?_, y6, y7⟩
        · rw [oth 46 (by omega)]; exact b46
        · rw [oth _ (by omega)]; exact x2
        · rw [oth _ (by omega)]; exact x3
        · rw [oth _ (by omega)]; exact x4
        · rw [oth _ (by omega)]; exact x5
        · rw [oth 47 (by omega)]; exact x6
        · rw [oth 48 (by omega)]; exact x7
    · exact hr.2.head (fun j h1 h2 => pk_un (by omega)) (fun j h1 h2 => oth j (by omega))
theorem item_eq (rg sn nums sc sb : Nat → Int32) (A : Nat) : F_X5_itemEnd rg sn nums sc sb (nI A) = F_X5_itemEnd_l20 rg sn sc sb (F_X7_at sc sb (nI A)) (F_X5_numbersOf (F_X7_at sc sb (nI A))) ((Int32.toInt (F_X5_numbersOf (F_X7_at sc sb (nI A)))).toNat) (0 : Int32) (nI (A + 1)) nums := by
  unfold F_X5_itemEnd F_X5_itemEnd_k5 F_X5_itemEnd_k10 F_X5_itemEnd_k15
  rw [nI_1]
theorem item_all {sc sb mm tx : Nat → Int32} (h : RText sc sb mm tx) {A : Nat} (hA : A < 40000) {mm' : Nat → Int32} (h2 : mm' 2 = mm 2) (h3 : mm' 3 = nI (A + 1)) (h4 : mm' 4 = 1) {rg sn bt : Nat → Int32} (hr : RR rg sn bt) (nums : Nat → Int32) : ItemOK A (F_X5_itemEnd rg sn nums sc sb (nI A)) (F_X10_readsItem mm' tx bt (F_X7_at sc sb (nI A))) bt := by
  rw [item_eq]
  generalize F_X7_at sc sb (nI A) = ℓ
  by_cases c97 : ℓ = 97
  · subst c97; exact item_a h hA h2 h3 h4 hr nums
  by_cases c98 : ℓ = 98
  · subst c98; exact item_b h hA h2 h3 h4 hr nums
  by_cases c99 : ℓ = 99
  · subst c99; exact item_c h hA h2 h3 h4 hr nums
  by_cases c104 : ℓ = 104
  · subst c104; exact item_h h hA h2 h3 h4 hr nums
  by_cases c112 : ℓ = 112
  · subst c112; exact item_p h hA h2 h3 h4 hr nums
  by_cases c113 : ℓ = 113
  · subst c113; exact item_q h hA h2 h3 h4 hr nums
  by_cases c114 : ℓ = 114
  · subst c114; exact item_r h hA h2 h3 h4 hr nums
  by_cases c119 : ℓ = 119
  · subst c119; exact item_w h hA h2 h3 h4 hr nums
  have e0 : F_X5_numbersOf ℓ = 0 := by
    unfold F_X5_numbersOf
    rw [if_neg c97, if_neg c98, if_neg c99, if_neg c104, if_neg c112, if_neg c113, if_neg c114, if_neg c119]
    simp only [ite_self]
  have em : F_X10_readsItem mm' tx bt ℓ = (mm' 3, 0, bt) := by
    unfold F_X10_readsItem
    rw [if_neg c113, if_neg c98, if_neg c112, if_neg c104, if_neg c114, if_neg c99, if_neg c97, if_neg c119]
  rw [e0, em]
  exact ItemOK.no rfl rfl rfl
theorem reads_loop {sc sb mm tx : Nat → Int32} (h : RText sc sb mm tx) (bt0 : Nat → Int32) : ∀ (j k A : Nat) (rg sn nums bt : Nat → Int32), j + k = 300 → A ≤ 20 * k → RR rg sn bt → (∀ i : Nat, i < 30 → bt i = bt0 i) → ∃ (r : Int32) (rg' sn' nums' : Nat → Int32) (x y : Int32) (bt' : Nat → Int32), F_X5_readAll_l11 sc sb j (nI k) (nI A) rg sn nums = (r, rg', sn', nums') ∧ F_X10_reads_l16 mm tx j (nI A) 1 bt = (r, x, y, bt') ∧ (∀ i : Nat, i < 30 → bt' i = bt0 i) ∧ (r = (-4 : Int32) → RR rg' sn' bt') := by
  intro j
  induction j with
  | zero =>
    intro k A rg sn nums bt hk hA hr hb
    exact ⟨_, _, _, _, _, _, _, rfl, rfl, hb, fun _ => hr⟩
  | succ j ih =>
    intro k A rg sn nums bt hk hA hr hb
    obtain ⟨L, hL, s1, m2, -⟩ := id h
    have g3 : ¬ (300 : Int32) ≤ nI k := nI_ge (a := k) (b := 300) (by omega) (by omega)
    have it := item_all h (A := A) (by omega) (mm' := upd (upd mm 3 (nI (A + 1))) 4 1) rfl rfl rfl hr nums
    rw [F_X5_readAll_l11, F_X10_reads_l16]
    unfold F_X5_readAll_b11 F_X10_reads_b16
    rw [if_neg g3, s1, m2]
    by_cases q : nI L ≤ nI A
    · rw [if_pos q, if_pos q]
      exact ⟨_, _, _, _, _, _, _, rfl, rfl, hb, fun _ => hr⟩
    · rw [if_neg q, if_neg q]
      unfold F_X10_reads_k40 F_X10_reads_k48
      rw [← at_eq (mm' := upd (upd mm 3 (nI A)) 4 1) h rfl (by omega), nI_1]
      generalize F_X5_itemEnd rg sn nums sc sb (nI A) = cl at it
      generalize F_X10_readsItem (upd (upd mm 3 (nI (A + 1))) 4 1) tx bt (F_X7_at sc sb (nI A)) = ml at it
      obtain ⟨r2, g3', g4, g5⟩ := cl
      obtain ⟨v5, v6, g7⟩ := ml
      obtain ⟨lo, it⟩ := it
      dsimp only at lo it ⊢
      unfold F_X5_readAll_k29 F_X10_reads_k53
      rcases it with ⟨i1, i2⟩ | ⟨B, b1, b2, i1, i2, i3, i4⟩
      · subst i1 i2
        rw [if_pos rfl, if_pos rfl]
        refine ⟨_, _, _, _, _, _, _, rfl, rfl, fun i hi => (lo i hi).trans (hb i hi), fun w => ?_⟩
        have := congrArg Int32.toInt w
        rw [nI_toInt (by omega)] at this
        have m4 : (-4 : Int32).toInt = -4 := rfl
        omega
      · subst i1 i2 i3
        have nm : ¬ nI B = (-1 : Int32) := by
          intro w
          have := congrArg Int32.toInt w
          rw [nI_toInt (by omega)] at this
          have m4 : (-1 : Int32).toInt = -1 := rfl
          omega
        rw [if_neg nm, if_neg (by decide), nI_1]
        exact ih (k + 1) B _ _ _ _ (by omega) (by omega) i4 (fun i hi => (lo i hi).trans (hb i hi))
theorem begins_loop (f : Nat) (hf : f ≤ 30) (bt0 : Nat → Int32) : ∀ (j k : Nat) (bt : Nat → Int32), j + k = 30 → (∀ i : Nat, i < k → bt (f + i) = if i = 19 then 4 else if i = 20 then 10 else if i = 22 then 10 else if i = 21 then 20 else 0) → (∀ i : Nat, i < f → bt i = bt0 i) → ∃ (x : Int32) (bt' : Nat → Int32), F_X10_begins_l2 (nI f) j (nI k) bt = (x, bt') ∧ (∀ i : Nat, i < 30 → bt' (f + i) = if i = 19 then 4 else if i = 20 then 10 else if i = 22 then 10 else if i = 21 then 20 else 0) ∧ (∀ i : Nat, i < f → bt' i = bt0 i) := by
  intro j
  induction j with
  | zero => intro k bt hk h1 h2; exact ⟨_, _, rfl, fun i hi => h1 i (by omega), h2⟩
  | succ j ih =>
    intro k bt hk h1 h2
    have g : ¬ (30 : Int32) ≤ nI k := nI_ge (a := k) (b := 30) (by omega) (by omega)
    have ek : ∀ c : Nat, c < 2 ^ 31 → (nI k = nI c ↔ k = c) := fun c hc => nI_eq (by omega) hc
    have e : F_X10_begins_b2 (nI f) (nI k) bt = Sum.inl (nI (k + 1), upd bt (f + k) (if k = 19 then 4 else if k = 20 then 10 else if k = 22 then 10 else if k = 21 then 20 else 0)) := by
      unfold F_X10_begins_b2 F_X10_begins_j37 F_X10_begins_j54
      rw [if_neg g, nI_1, nI_add, nI_clamp (by omega)]
      by_cases c1 : k = 19
      · rw [if_pos (show nI k = (19 : Int32) from (ek 19 (by decide)).mpr c1), if_pos c1]
      rw [if_neg (show ¬ nI k = (19 : Int32) from fun w => c1 ((ek 19 (by decide)).mp w)), if_neg c1]
      by_cases c2 : k = 20
      · rw [if_pos (show nI k = (20 : Int32) from (ek 20 (by decide)).mpr c2), if_pos c2]
      rw [if_neg (show ¬ nI k = (20 : Int32) from fun w => c2 ((ek 20 (by decide)).mp w)), if_neg c2]
      by_cases c3 : k = 22
      · rw [if_pos (show nI k = (22 : Int32) from (ek 22 (by decide)).mpr c3), if_pos c3]
      rw [if_neg (show ¬ nI k = (22 : Int32) from fun w => c3 ((ek 22 (by decide)).mp w)), if_neg c3]
      by_cases c4 : k = 21
      · rw [if_pos (show nI k = (21 : Int32) from (ek 21 (by decide)).mpr c4), if_pos c4]
      rw [if_neg (show ¬ nI k = (21 : Int32) from fun w => c4 ((ek 21 (by decide)).mp w)), if_neg c4]
    rw [F_X10_begins_l2, e]
    refine ih (k + 1) _ (by omega) (fun i hi => ?_) (fun i hi => ?_)
    · by_cases q : i = k
      · rw [q, pk_us]
      · rw [pk_un (by omega)]; exact h1 i (by omega)
    · rw [pk_un (by omega)]; exact h2 i hi
theorem begins_ok (bt : Nat → Int32) : ∃ bt' : Nat → Int32, F_X10_begins bt (30 : Int32) = bt' ∧ (∀ i : Nat, i < 30 → bt' (30 + i) = if i = 19 then 4 else if i = 20 then 10 else if i = 22 then 10 else if i = 21 then 20 else 0) ∧ (∀ i : Nat, i < 30 → bt' i = bt i) := by
  obtain ⟨x, bt', e, h1, h2⟩ := begins_loop 30 (by decide) bt 30 0 bt (by decide) (fun i hi => by omega) (fun i hi => rfl)
  have e : F_X10_begins_l2 (30 : Int32) 30 (0 : Int32) bt = _ := e
  refine ⟨bt', ?_, h1, h2⟩
  unfold F_X10_begins
  rw [e]
  rfl
theorem clear_rr {rg bt : Nat → Int32} (sn : Nat → Int32) (h : ∀ i : Nat, i < 30 → bt (30 + i) = if i = 19 then 4 else if i = 20 then 10 else if i = 22 then 10 else if i = 21 then 20 else 0) : RR (F_X6_clear rg) sn bt := by
  refine ⟨⟨0, by decide, rfl, h 28 (by decide), (h 29 (by decide)).symm, Or.inl rfl, fun i hi => by omega, fun w => absurd rfl w⟩, ?_⟩
  have z8 : bt 49 = 4 := h 19 (by decide)
  have z9 : bt 50 = 10 := h 20 (by decide)
  have z10 : bt 51 = 20 := h 21 (by decide)
  have z11 : bt 52 = 10 := h 22 (by decide)
  have z12 : bt 53 = 0 := h 23 (by decide)
  have z13 : bt 54 = 0 := h 24 (by decide)
  have z14 : bt 55 = 0 := h 25 (by decide)
  have z15 : bt 56 = 0 := h 26 (by decide)
  have z16 : bt 57 = 0 := h 27 (by decide)
  refine ⟨⟨z8.symm, ?_⟩, ⟨z9.symm, ?_⟩, ⟨z10.symm, ?_⟩, ⟨z11.symm, ?_⟩, ⟨z12.symm, ?_⟩, ⟨z13.symm, ?_⟩, ⟨z14.symm, ?_⟩, ⟨z15.symm, ?_⟩, ⟨z16.symm, ?_⟩⟩
  · show 1 ≤ (4 : Int32).toInt ∧ (4 : Int32).toInt ≤ 9; decide
  · show 1 ≤ (10 : Int32).toInt ∧ (10 : Int32).toInt ≤ 20; decide
  · show 1 ≤ (20 : Int32).toInt ∧ (20 : Int32).toInt ≤ 99; decide
  · show 1 ≤ (10 : Int32).toInt ∧ (10 : Int32).toInt ≤ 99; decide
  · show 0 ≤ (0 : Int32).toInt ∧ (0 : Int32).toInt ≤ 20; decide
  · show 0 ≤ (0 : Int32).toInt ∧ (0 : Int32).toInt ≤ 20; decide
  · show 0 ≤ (0 : Int32).toInt ∧ (0 : Int32).toInt ≤ 30; decide
  · show 0 ≤ (0 : Int32).toInt ∧ (0 : Int32).toInt ≤ 60; decide
  · show 0 ≤ (0 : Int32).toInt ∧ (0 : Int32).toInt ≤ 9; decide
theorem reads_ok {sc sb mm tx : Nat → Int32} (h : RText sc sb mm tx) (rg sn nums bt : Nat → Int32) : ∃ (r : Int32) (rg' sn' nums' : Nat → Int32) (x y : Int32) (bt' : Nat → Int32), F_X5_readAll rg sn nums sc sb = (r, rg', sn', nums') ∧ F_X10_reads (upd mm 0 (0 : Int32)) tx bt = (r, x, y, bt') ∧ (∀ i : Nat, i < 30 → bt' i = bt i) ∧ (r = (-4 : Int32) → RR rg' sn' bt') := by
  obtain ⟨b1, eb, h1, h2⟩ := begins_ok bt
  obtain ⟨r, rg', sn', nums', x, y, bt', e1, e2, h3, h4⟩ := reads_loop (mm := upd mm 0 (0 : Int32)) h bt 300 0 0 (F_X6_clear rg) sn nums b1 (by decide) (by decide) (clear_rr sn h1) h2
  refine ⟨r, rg', sn', nums', x, y, bt', e1, ?_, h3, h4⟩
  unfold F_X10_reads F_X10_reads_k3
  rw [eb]
  exact e2
theorem RRig.low {la bt bt' : Nat → Int32} (h : RRig la bt) (hb : ∀ i : Nat, i < 30 → bt' i = bt i) : RRig la bt' := by
  obtain ⟨ho, h1, h0, q, hq, e16, e2, e3, e4, e5, e6, e7, e8, e9, e10, e11, e12, e13, e14, e15, e16'⟩ := h
  refine ⟨ho, h1, by rw [hb 28 (by decide)]; exact h0, q, hq, by rw [hb 16 (by decide)]; exact e16, ?_, ?_, ?_, ?_, ?_, ?_, ?_, ?_, ?_, ?_, ?_, ?_, ?_, ?_, ?_⟩
  · rw [hb _ (by omega)]; exact e2
  · rw [hb _ (by omega)]; exact e3
  · rw [hb _ (by omega)]; exact e4
  · rw [hb _ (by omega)]; exact e5
  · rw [hb 17 (by decide)]; exact e6
  · rw [hb 18 (by decide)]; exact e7
  · rw [hb 19 (by decide)]; exact e8
  · rw [hb 20 (by decide)]; exact e9
  · rw [hb 21 (by decide)]; exact e10
  · rw [hb 22 (by decide)]; exact e11
  · rw [hb 23 (by decide)]; exact e12
  · rw [hb 24 (by decide)]; exact e13
  · rw [hb 25 (by decide)]; exact e14
  · rw [hb 26 (by decide)]; exact e15
  · rw [hb 27 (by decide)]; exact e16'
theorem a_fault {sc sb mm tx la bt : Nat → Int32} (h : RText sc sb mm tx) (hr : RRig la bt) (rg sn nums : Nat → Int32) : (F_X9_fault rg sn nums sc sb).1 = (F_X10_fault mm tx bt).1 ∧ RRig la (F_X10_fault mm tx bt).2.2.2.2 := by
  obtain ⟨r, rg', sn', nums', x, y, bt', e1, e2, h3, h4⟩ := reads_ok h rg sn nums bt
  unfold F_X9_fault F_X10_fault
  rw [e1, e2]
  exact ⟨rfl, hr.low h3⟩
theorem lay_loop (bt0 : Nat → Int32) : ∀ (j k : Nat) (bt : Nat → Int32), j + k = 30 → (∀ i : Nat, i < k → bt i = bt0 (30 + i)) → (∀ i : Nat, k ≤ i → bt i = bt0 i) → ∃ (x : Int32) (bt' : Nat → Int32), F_X10_lay_l29 j (nI k) bt = (x, bt') ∧ ∀ i : Nat, i < 30 → bt' i = bt0 (30 + i) := by
  intro j
  induction j with
  | zero => intro k bt hk h1 h2; exact ⟨_, _, rfl, fun i hi => h1 i (by omega)⟩
  | succ j ih =>
    intro k bt hk h1 h2
    have g : ¬ (30 : Int32) ≤ nI k := nI_ge (a := k) (b := 30) (by omega) (by omega)
    have e : F_X10_lay_b29 (nI k) bt = Sum.inl (nI (k + 1), upd bt k (bt0 (30 + k))) := by
      unfold F_X10_lay_b29 F_X10_lay_k49
      rw [if_neg g, nI_1, show (30 : Int32) = nI 30 from rfl, nI_add, nI_clamp (by omega), nI_clamp (by omega), h2 _ (by omega)]
    rw [F_X10_lay_l29, e]
    refine ih (k + 1) _ (by omega) (fun i hi => ?_) (fun i hi => ?_)
    · by_cases q : i = k
      · rw [q, pk_us]
      · rw [pk_un q]; exact h1 i (by omega)
    · rw [pk_un (by omega)]; exact h2 i (by omega)
theorem now_loop : ∀ (j k : Nat) (f : Nat → Int32), j + k = 6 → (∀ i : Nat, i < k → f i = 0) → ∃ (x : Int32) (g : Nat → Int32), F_X10_lay_l58 j (nI k) f = (x, g) ∧ ∀ i : Nat, i < 6 → g i = 0 := by
  intro j
  induction j with
  | zero => intro k f hk hf; exact ⟨_, _, rfl, fun i hi => hf i (by omega)⟩
  | succ j ih =>
    intro k f hk hf
    have e : F_X10_lay_b58 (nI k) f = Sum.inl (nI (k + 1), upd f k (0 : Int32)) := by
      unfold F_X10_lay_b58
      rw [if_neg (show ¬ (6 : Int32) ≤ nI k from nI_ge (a := k) (b := 6) (by omega) (by omega)), nI_1, nI_clamp (by omega)]
    rw [F_X10_lay_l58, e]
    refine ih (k + 1) _ (by omega) (fun i hi => ?_)
    by_cases q : i = k
    · rw [q, pk_us]
    · rw [pk_un q]; exact hf i (by omega)
theorem rr_rrig {rg sn b1 la bt : Nat → Int32} (h : RR rg sn b1) (hn : ¬ rg 1 = 0) (hb : ∀ i : Nat, i < 30 → bt i = b1 (30 + i)) : RRig (F_X6_copy la rg) bt := by
  obtain ⟨⟨Q, hQ, g0, g58, g59, g01, hS, hB⟩, t8, t9, t10, t11, t12, t13, t14, t15, t16⟩ := h
  obtain ⟨q, hq, b46, x2, x3, x4, x5, x6, x7, y6, y7⟩ := hB hn
  obtain ⟨s0, s1, s2, s3, z0, z1, z2, z3⟩ := hS q hq
  have r2 : rg 2 = sn (4 * q) := x2.trans s0.symm
  have r3 : rg 3 = sn (4 * q + 1) := x3.trans s1.symm
  have r4 : rg 4 = sn (4 * q + 2) := x4.trans s2.symm
  have r5 : rg 5 = sn (4 * q + 3) := x5.trans s3.symm
  refine ⟨⟨?_, ?_, ?_, ?_, y6, y7, t8.2, t9.2, t10.2, t11.2, t12.2, t13.2, t14.2, t15.2, t16.2⟩, g01.resolve_left hn, ?_, q, by omega, ?_, ?_, ?_, ?_, ?_, ?_, ?_, ?_, ?_, ?_, ?_, ?_, ?_, ?_, ?_, ?_⟩
  · show 1 ≤ (rg 2).toInt ∧ (rg 2).toInt ≤ 99; rw [r2]; exact z0
  · show 0 ≤ (rg 3).toInt ∧ (rg 3).toInt ≤ 90; rw [r3]; exact z1
  · show 1 ≤ (rg 4).toInt ∧ (rg 4).toInt ≤ 40; rw [r4]; exact z2
  · show 1 ≤ (rg 5).toInt ∧ (rg 5).toInt ≤ 99; rw [r5]; exact z3
  · show rg 0 = bt 28
    rw [hb 28 (by decide), g0]; exact g58.symm
  · rw [hb 16 (by decide)]; exact b46
  · rw [hb _ (by omega)]; exact x2
  · rw [hb _ (by omega)]; exact x3
  · rw [hb _ (by omega)]; exact x4
  · rw [hb _ (by omega)]; exact x5
  · rw [hb 17 (by decide)]; exact x6
  · rw [hb 18 (by decide)]; exact x7
  · rw [hb 19 (by decide)]; exact t8.1
  · rw [hb 20 (by decide)]; exact t9.1
  · rw [hb 21 (by decide)]; exact t10.1
  · rw [hb 22 (by decide)]; exact t11.1
  · rw [hb 23 (by decide)]; exact t12.1
  · rw [hb 24 (by decide)]; exact t13.1
  · rw [hb 25 (by decide)]; exact t14.1
  · rw [hb 26 (by decide)]; exact t15.1
  · rw [hb 27 (by decide)]; exact t16.1
/-- what a lay does: nothing but for the reader and the scratch of the reference, or a new boat -/
theorem a_lay {sc sb mm tx la bt : Nat → Int32} (h : RText sc sb mm tx) (hr : RRig la bt) (bb rg sn nums bd bo ga mk bm sm st fm tm nw : Nat → Int32) :
    (F_X9_lay bb sc sb rg sn nums la bd bo ga mk bm sm st fm tm).1 = (F_X10_lay mm tx bt nw).1 ∧
    ((∃ g2 g3 g4 : Nat → Int32, (F_X9_lay bb sc sb rg sn nums la bd bo ga mk bm sm st fm tm).2 = (bb 10, bb 12, g2, g3, g4, la, bd, bo, ga 3, mk 2, bm 1, sm 1, st 1, fm 1, tm 1) ∧ ∃ (x y : Int32) (bt' : Nat → Int32), (F_X10_lay mm tx bt nw).2 = (0, x, y, mm 16, mm 22, mm 25, bt', nw) ∧ RRig la bt') ∨
     (∃ g2 g3 g4 : Nat → Int32, ∃ la' : Nat → Int32, (F_X9_lay bb sc sb rg sn nums la bd bo ga mk bm sm st fm tm).2 = (0, 0, g2, g3, g4, la', F_X0_fit bd la', F_X4_rest bo, 0, 0, 0, 0, 0, 0, 0) ∧ ∃ (x y : Int32) (bt' nw' : Nat → Int32), (F_X10_lay mm tx bt nw).2 = (0, x, y, 0, 0, 0, bt', nw') ∧ RRig la' bt' ∧ ∀ i : Nat, i < 6 → nw' i = 0)) := by
  obtain ⟨r, rg', sn', nums', x, y, bt', e1, e2, h3, h4⟩ := reads_ok h rg sn nums bt
  unfold F_X9_lay F_X10_lay
  rw [e1, e2]
  dsimp only
  unfold F_X9_lay_k8 F_X10_lay_k6
  by_cases q : r = (-4 : Int32)
  · rw [if_pos q, if_pos q]
    have hrr := h4 q
    have e59 : rg' 1 = bt' 59 := by
      obtain ⟨⟨Q, hQ, g0, g58, g59, -⟩, -⟩ := hrr
      exact g59
    rw [← e59]
    by_cases q1 : rg' 1 = 0
    · rw [if_pos q1, if_pos q1]
      exact ⟨rfl, Or.inl ⟨_, _, _, rfl, _, _, _, rfl, hr.low h3⟩⟩
    · rw [if_neg q1, if_neg q1]
      obtain ⟨x1, b2, e3, hb2⟩ := lay_loop bt' 30 0 bt' (by decide) (fun i hi => by omega) (fun i hi => rfl)
      have e3 : F_X10_lay_l29 30 (0 : Int32) bt' = _ := e3
      obtain ⟨x2, n2, e4, hn2⟩ := now_loop 6 0 nw (by decide) (fun i hi => by omega)
      have e4 : F_X10_lay_l58 6 (0 : Int32) nw = _ := e4
      have hR := rr_rrig (la := la) hrr q1 hb2
      rw [e3]
      dsimp only
      unfold F_X10_lay_x29
      rw [e4]
      dsimp only
      exact ⟨hR.2.2.1, Or.inr ⟨_, _, _, F_X6_copy la rg', rfl, _, _, _, _, rfl, hR, hn2⟩⟩
  · rw [if_neg q, if_neg q]
    exact ⟨rfl, Or.inl ⟨_, _, _, rfl, _, _, _, rfl, hr.low h3⟩⟩
