/-! reading a text: items -/
def SOK (sn bt : Nat → Int32) (i : Nat) : Prop := sn (4 * i) = bt (30 + 4 * i) ∧ sn (4 * i + 1) = bt (30 + 4 * i + 1) ∧ sn (4 * i + 2) = bt (30 + 4 * i + 2) ∧ sn (4 * i + 3) = bt (30 + 4 * i + 3) ∧ (1 ≤ (sn (4 * i)).toInt ∧ (sn (4 * i)).toInt ≤ 99) ∧ (0 ≤ (sn (4 * i + 1)).toInt ∧ (sn (4 * i + 1)).toInt ≤ 90) ∧ (1 ≤ (sn (4 * i + 2)).toInt ∧ (sn (4 * i + 2)).toInt ≤ 40) ∧ (1 ≤ (sn (4 * i + 3)).toInt ∧ (sn (4 * i + 3)).toInt ≤ 99)
def RH (rg sn bt : Nat → Int32) : Prop := ∃ Q : Nat, Q ≤ 4 ∧ rg 0 = nI Q ∧ bt 58 = nI Q ∧ rg 1 = bt 59 ∧ (rg 1 = 0 ∨ rg 1 = 1) ∧ (∀ i : Nat, i < Q → SOK sn bt i) ∧ (¬ rg 1 = 0 → ∃ q : Nat, q < Q ∧ bt 46 = nI q ∧ rg 2 = bt (30 + 4 * q) ∧ rg 3 = bt (30 + 4 * q + 1) ∧ rg 4 = bt (30 + 4 * q + 2) ∧ rg 5 = bt (30 + 4 * q + 3) ∧ rg 6 = bt 47 ∧ rg 7 = bt 48 ∧ (1 ≤ (rg 6).toInt ∧ (rg 6).toInt ≤ 8) ∧ (1 ≤ (rg 7).toInt ∧ (rg 7).toInt ≤ 40))
def RTl (rg bt : Nat → Int32) : Prop := (rg 8 = bt 49 ∧ 1 ≤ (rg 8).toInt ∧ (rg 8).toInt ≤ 9) ∧ (rg 9 = bt 50 ∧ 1 ≤ (rg 9).toInt ∧ (rg 9).toInt ≤ 20) ∧ (rg 10 = bt 51 ∧ 1 ≤ (rg 10).toInt ∧ (rg 10).toInt ≤ 99) ∧ (rg 11 = bt 52 ∧ 1 ≤ (rg 11).toInt ∧ (rg 11).toInt ≤ 99) ∧ (rg 12 = bt 53 ∧ 0 ≤ (rg 12).toInt ∧ (rg 12).toInt ≤ 20) ∧ (rg 13 = bt 54 ∧ 0 ≤ (rg 13).toInt ∧ (rg 13).toInt ≤ 20) ∧ (rg 14 = bt 55 ∧ 0 ≤ (rg 14).toInt ∧ (rg 14).toInt ≤ 30) ∧ (rg 15 = bt 56 ∧ 0 ≤ (rg 15).toInt ∧ (rg 15).toInt ≤ 60) ∧ (rg 16 = bt 57 ∧ 0 ≤ (rg 16).toInt ∧ (rg 16).toInt ≤ 9)
theorem RH.tail {rg rg' sn bt bt' : Nat → Int32} (h : RH rg sn bt) (hr : ∀ j : Nat, j ≤ 7 → rg' j = rg j) (hb : ∀ j : Nat, 30 ≤ j → j ≤ 48 → bt' j = bt j) (h8 : bt' 58 = bt 58) (h9 : bt' 59 = bt 59) : RH rg' sn bt' := by
  obtain ⟨Q, hQ, e0, e58, e1, e01, hs, hb2⟩ := h
  refine ⟨Q, hQ, (hr 0 (by decide)).trans e0, h8.trans e58, by rw [hr 1 (by decide), h9]; exact e1, by rw [hr 1 (by decide)]; exact e01, fun i hi => ?_, fun hn => ?_⟩
  · obtain ⟨s0, s1, s2, s3, s4⟩ := hs i hi
    exact ⟨s0.trans (hb _ (by omega) (by omega)).symm, s1.trans (hb _ (by omega) (by omega)).symm, s2.trans (hb _ (by omega) (by omega)).symm, s3.trans (hb _ (by omega) (by omega)).symm, s4⟩
  · rw [hr 1 (by decide)] at hn
    obtain ⟨q, hq, b46, r2, r3, r4, r5, r6, r7, g6, g7⟩ := hb2 hn
    refine ⟨q, hq, (hb 46 (by decide) (by decide)).trans b46, ?_, ?_, ?_, ?_, ?_, ?_, ?_, ?_⟩
    · rw [hr 2 (by decide), hb _ (by omega) (by omega)]; exact r2
    · rw [hr 3 (by decide), hb _ (by omega) (by omega)]; exact r3
    · rw [hr 4 (by decide), hb _ (by omega) (by omega)]; exact r4
    · rw [hr 5 (by decide), hb _ (by omega) (by omega)]; exact r5
    · rw [hr 6 (by decide), hb _ (by omega) (by omega)]; exact r6
    · rw [hr 7 (by decide), hb _ (by omega) (by omega)]; exact r7
    · rw [hr 6 (by decide)]; exact g6
    · rw [hr 7 (by decide)]; exact g7
def RR (rg sn bt : Nat → Int32) : Prop := RH rg sn bt ∧ RTl rg bt
def ItemOK (A : Nat) (cl : Int32 × (Nat → Int32) × (Nat → Int32) × (Nat → Int32)) (ml : Int32 × Int32 × (Nat → Int32)) (bt : Nat → Int32) : Prop := (∀ j : Nat, j < 30 → ml.2.2 j = bt j) ∧ ((cl.1 = (-1 : Int32) ∧ ml.2.1 = 0) ∨ ∃ B : Nat, A < B ∧ B ≤ A + 20 ∧ cl.1 = nI B ∧ ml.1 = nI B ∧ ml.2.1 = 1 ∧ RR cl.2.1 cl.2.2.1 ml.2.2)
theorem puts0 {mm bt : Nat → Int32} {k v : Int32} (h : mm 4 = 0) : F_X10_puts mm bt k v = bt := by unfold F_X10_puts; rw [if_pos h]
theorem puts1 {mm bt : Nat → Int32} {k : Int32} {v : Int32} (h : mm 4 = 1) (n : Nat) (hk : Int32.toNatClampNeg ((30 : Int32) + k) = n) : F_X10_puts mm bt k v = upd bt n v := by unfold F_X10_puts; rw [if_neg (by rw [h]; decide), hk]
theorem ItemOK.no {A : Nat} {cl : Int32 × (Nat → Int32) × (Nat → Int32) × (Nat → Int32)} {ml : Int32 × Int32 × (Nat → Int32)} {bt : Nat → Int32} (h1 : cl.1 = (-1 : Int32)) (h2 : ml.2.1 = 0) (h3 : ml.2.2 = bt) : ItemOK A cl ml bt := ⟨fun j _ => by rw [h3], Or.inl ⟨h1, h2⟩⟩
theorem item_r {sc sb mm tx : Nat → Int32} (h : RText sc sb mm tx) {A : Nat} (hA : A < 40000) {mm' : Nat → Int32} (h2 : mm' 2 = mm 2) (h3 : mm' 3 = nI (A + 1)) (h4 : mm' 4 = 1) {rg sn bt : Nat → Int32} (hr : RR rg sn bt) (nums : Nat → Int32) : ItemOK A (F_X5_itemEnd_l20 rg sn sc sb (114 : Int32) (nI 1) 1 (nI 0) (nI (A + 1)) nums) (F_X10_readsItem mm' tx bt (114 : Int32)) bt := by
  have em : F_X10_readsItem mm' tx bt (114 : Int32) = (match F_X10_number mm' tx (0 : Int32) (20 : Int32) (59 : Int32) with | (r, x, w) => F_X10_readsItem_k336 mm' bt r x w) := by
    unfold F_X10_readsItem
    rw [if_neg (by decide), if_neg (by decide), if_neg (by decide), if_neg (by decide), if_pos rfl]
  rw [em]
  rcases N1 h (A := A + 1) (by omega) (s := 59) (Or.inr rfl) with ⟨B, v, hB1, hB2, hE, hM⟩ | ⟨hE, hM⟩
  · obtain ⟨r, w, e, hw⟩ := hM mm' 0 20 h2 h3
    have ei : F_X5_itemEnd_l20 rg sn sc sb (114 : Int32) (nI 1) 1 (nI 0) (nI (A + 1)) nums = F_X5_itemEnd_l20 rg sn sc sb (114 : Int32) (nI 1) 0 (nI 1) (nI B) (upd nums 0 v) := it_ok (n := 1) (i := 0) (j := 0) (by decide) (by decide) (by omega) hE
    have et : F_X5_take rg sn (upd nums 0 v) (114 : Int32) = (F_X9_within v (0 : Int32) (20 : Int32), upd rg 13 v, sn) := by
      unfold F_X5_take
      rw [if_neg (by decide), if_neg (by decide), if_neg (by decide), if_neg (by decide), if_neg (by decide), if_neg (by decide), if_neg (by decide), if_neg (by decide), if_neg (by decide), if_neg (by decide), if_neg (by decide), if_neg (by decide), if_neg (by decide), if_neg (by decide), if_neg (by decide), if_neg (by decide), if_neg (by decide), if_pos rfl]
      rfl
    rw [e, ei, it_end (n := 1) (by decide) (by decide), et]
    dsimp only
    unfold F_X10_readsItem_k336 F_X10_readsItem_k339
    rcases hw with ⟨rfl, rfl, q, -⟩ | ⟨rfl, q⟩
    · rw [if_neg q, puts1 (mm := upd (upd mm' 3 (nI B)) 4 1) rfl 54 rfl]
      refine ⟨fun j hj => pk_un (by omega), Or.inr ⟨B, by omega, by omega, rfl, rfl, rfl, ?_, ?_⟩⟩
      · exact hr.1.tail (fun j hj => pk_un (by omega)) (fun j h1 h2 => pk_un (by omega)) rfl rfl
      · obtain ⟨-, t8, t9, t10, t11, t12, t13, t14, t15, t16⟩ := hr
        exact ⟨t8, t9, t10, t11, t12, ⟨rfl, w_lo q rfl rfl⟩, t14, t15, t16⟩
    · rw [if_pos (q.resolve_left (by rw [h4]; decide)), puts0 (mm := upd (upd mm' 3 (nI B)) 4 0) rfl]
      exact ItemOK.no rfl rfl rfl
  · obtain ⟨r, x, e⟩ := hM mm' 0 20 h2 h3
    have ei : F_X5_itemEnd_l20 rg sn sc sb (114 : Int32) (nI 1) 1 (nI 0) (nI (A + 1)) nums = (-1, rg, sn, nums) := it_no (n := 1) (i := 0) (j := 0) (by decide) (by decide) hE
    rw [e, ei]
    dsimp only
    unfold F_X10_readsItem_k336 F_X10_readsItem_k339
    rw [puts0 (mm := upd (upd mm' 3 x) 4 0) rfl]
    exact ItemOK.no rfl rfl rfl
theorem item_c {sc sb mm tx : Nat → Int32} (h : RText sc sb mm tx) {A : Nat} (hA : A < 40000) {mm' : Nat → Int32} (h2 : mm' 2 = mm 2) (h3 : mm' 3 = nI (A + 1)) (h4 : mm' 4 = 1) {rg sn bt : Nat → Int32} (hr : RR rg sn bt) (nums : Nat → Int32) : ItemOK A (F_X5_itemEnd_l20 rg sn sc sb (99 : Int32) (nI 1) 1 (nI 0) (nI (A + 1)) nums) (F_X10_readsItem mm' tx bt (99 : Int32)) bt := by
  have em : F_X10_readsItem mm' tx bt (99 : Int32) = (match F_X10_number mm' tx (0 : Int32) (30 : Int32) (59 : Int32) with | (r, x, w) => F_X10_readsItem_k360 mm' bt r x w) := by
    unfold F_X10_readsItem
    rw [if_neg (by decide), if_neg (by decide), if_neg (by decide), if_neg (by decide), if_neg (by decide), if_pos rfl]
  rw [em]
  rcases N1 h (A := A + 1) (by omega) (s := 59) (Or.inr rfl) with ⟨B, v, hB1, hB2, hE, hM⟩ | ⟨hE, hM⟩
  · obtain ⟨r, w, e, hw⟩ := hM mm' 0 30 h2 h3
    have ei : F_X5_itemEnd_l20 rg sn sc sb (99 : Int32) (nI 1) 1 (nI 0) (nI (A + 1)) nums = F_X5_itemEnd_l20 rg sn sc sb (99 : Int32) (nI 1) 0 (nI 1) (nI B) (upd nums 0 v) := it_ok (n := 1) (i := 0) (j := 0) (by decide) (by decide) (by omega) hE
    have et : F_X5_take rg sn (upd nums 0 v) (99 : Int32) = (F_X9_within v (0 : Int32) (30 : Int32), upd rg 14 v, sn) := by
      unfold F_X5_take
      rw [if_neg (by decide), if_neg (by decide), if_pos rfl]
      rfl
    rw [e, ei, it_end (n := 1) (by decide) (by decide), et]
    dsimp only
    unfold F_X10_readsItem_k360 F_X10_readsItem_k363
    rcases hw with ⟨rfl, rfl, q, -⟩ | ⟨rfl, q⟩
    · rw [if_neg q, puts1 (mm := upd (upd mm' 3 (nI B)) 4 1) rfl 55 rfl]
      refine ⟨fun j hj => pk_un (by omega), Or.inr ⟨B, by omega, by omega, rfl, rfl, rfl, ?_, ?_⟩⟩
      · exact hr.1.tail (fun j hj => pk_un (by omega)) (fun j h1 h2 => pk_un (by omega)) rfl rfl
      · obtain ⟨-, t8, t9, t10, t11, t12, t13, t14, t15, t16⟩ := hr
        exact ⟨t8, t9, t10, t11, t12, t13, ⟨rfl, w_lo q rfl rfl⟩, t15, t16⟩
    · rw [if_pos (q.resolve_left (by rw [h4]; decide)), puts0 (mm := upd (upd mm' 3 (nI B)) 4 0) rfl]
      exact ItemOK.no rfl rfl rfl
  · obtain ⟨r, x, e⟩ := hM mm' 0 30 h2 h3
    have ei : F_X5_itemEnd_l20 rg sn sc sb (99 : Int32) (nI 1) 1 (nI 0) (nI (A + 1)) nums = (-1, rg, sn, nums) := it_no (n := 1) (i := 0) (j := 0) (by decide) (by decide) hE
    rw [e, ei]
    dsimp only
    unfold F_X10_readsItem_k360 F_X10_readsItem_k363
    rw [puts0 (mm := upd (upd mm' 3 x) 4 0) rfl]
    exact ItemOK.no rfl rfl rfl
theorem item_a {sc sb mm tx : Nat → Int32} (h : RText sc sb mm tx) {A : Nat} (hA : A < 40000) {mm' : Nat → Int32} (h2 : mm' 2 = mm 2) (h3 : mm' 3 = nI (A + 1)) (h4 : mm' 4 = 1) {rg sn bt : Nat → Int32} (hr : RR rg sn bt) (nums : Nat → Int32) : ItemOK A (F_X5_itemEnd_l20 rg sn sc sb (97 : Int32) (nI 1) 1 (nI 0) (nI (A + 1)) nums) (F_X10_readsItem mm' tx bt (97 : Int32)) bt := by
  have em : F_X10_readsItem mm' tx bt (97 : Int32) = (match F_X10_number mm' tx (0 : Int32) (60 : Int32) (59 : Int32) with | (r, x, w) => F_X10_readsItem_k384 mm' bt r x w) := by
    unfold F_X10_readsItem
    rw [if_neg (by decide), if_neg (by decide), if_neg (by decide), if_neg (by decide), if_neg (by decide), if_neg (by decide), if_pos rfl]
  rw [em]
  rcases N1 h (A := A + 1) (by omega) (s := 59) (Or.inr rfl) with ⟨B, v, hB1, hB2, hE, hM⟩ | ⟨hE, hM⟩
  · obtain ⟨r, w, e, hw⟩ := hM mm' 0 60 h2 h3
    have ei : F_X5_itemEnd_l20 rg sn sc sb (97 : Int32) (nI 1) 1 (nI 0) (nI (A + 1)) nums = F_X5_itemEnd_l20 rg sn sc sb (97 : Int32) (nI 1) 0 (nI 1) (nI B) (upd nums 0 v) := it_ok (n := 1) (i := 0) (j := 0) (by decide) (by decide) (by omega) hE
    have et : F_X5_take rg sn (upd nums 0 v) (97 : Int32) = (F_X9_within v (0 : Int32) (60 : Int32), upd rg 15 v, sn) := by
      unfold F_X5_take
      rw [if_pos rfl]
      rfl
    rw [e, ei, it_end (n := 1) (by decide) (by decide), et]
    dsimp only
    unfold F_X10_readsItem_k384 F_X10_readsItem_k387
    rcases hw with ⟨rfl, rfl, q, -⟩ | ⟨rfl, q⟩
    · rw [if_neg q, puts1 (mm := upd (upd mm' 3 (nI B)) 4 1) rfl 56 rfl]
      refine ⟨fun j hj => pk_un (by omega), Or.inr ⟨B, by omega, by omega, rfl, rfl, rfl, ?_, ?_⟩⟩
      · exact hr.1.tail (fun j hj => pk_un (by omega)) (fun j h1 h2 => pk_un (by omega)) rfl rfl
      · obtain ⟨-, t8, t9, t10, t11, t12, t13, t14, t15, t16⟩ := hr
        exact ⟨t8, t9, t10, t11, t12, t13, t14, ⟨rfl, w_lo q rfl rfl⟩, t16⟩
    · rw [if_pos (q.resolve_left (by rw [h4]; decide)), puts0 (mm := upd (upd mm' 3 (nI B)) 4 0) rfl]
      exact ItemOK.no rfl rfl rfl
  · obtain ⟨r, x, e⟩ := hM mm' 0 60 h2 h3
    have ei : F_X5_itemEnd_l20 rg sn sc sb (97 : Int32) (nI 1) 1 (nI 0) (nI (A + 1)) nums = (-1, rg, sn, nums) := it_no (n := 1) (i := 0) (j := 0) (by decide) (by decide) hE
    rw [e, ei]
    dsimp only
    unfold F_X10_readsItem_k384 F_X10_readsItem_k387
    rw [puts0 (mm := upd (upd mm' 3 x) 4 0) rfl]
    exact ItemOK.no rfl rfl rfl
theorem item_w {sc sb mm tx : Nat → Int32} (h : RText sc sb mm tx) {A : Nat} (hA : A < 40000) {mm' : Nat → Int32} (h2 : mm' 2 = mm 2) (h3 : mm' 3 = nI (A + 1)) (h4 : mm' 4 = 1) {rg sn bt : Nat → Int32} (hr : RR rg sn bt) (nums : Nat → Int32) : ItemOK A (F_X5_itemEnd_l20 rg sn sc sb (119 : Int32) (nI 1) 1 (nI 0) (nI (A + 1)) nums) (F_X10_readsItem mm' tx bt (119 : Int32)) bt := by
  have em : F_X10_readsItem mm' tx bt (119 : Int32) = (match F_X10_number mm' tx (0 : Int32) (9 : Int32) (59 : Int32) with | (r, x, w) => F_X10_readsItem_k408 mm' bt r x w) := by
    unfold F_X10_readsItem
    rw [if_neg (by decide), if_neg (by decide), if_neg (by decide), if_neg (by decide), if_neg (by decide), if_neg (by decide), if_neg (by decide), if_pos rfl]
  rw [em]
  rcases N1 h (A := A + 1) (by omega) (s := 59) (Or.inr rfl) with ⟨B, v, hB1, hB2, hE, hM⟩ | ⟨hE, hM⟩
  · obtain ⟨r, w, e, hw⟩ := hM mm' 0 9 h2 h3
    have ei : F_X5_itemEnd_l20 rg sn sc sb (119 : Int32) (nI 1) 1 (nI 0) (nI (A + 1)) nums = F_X5_itemEnd_l20 rg sn sc sb (119 : Int32) (nI 1) 0 (nI 1) (nI B) (upd nums 0 v) := it_ok (n := 1) (i := 0) (j := 0) (by decide) (by decide) (by omega) hE
    have et : F_X5_take rg sn (upd nums 0 v) (119 : Int32) = (F_X9_within v (0 : Int32) (9 : Int32), upd rg 16 v, sn) := by
      unfold F_X5_take
      rw [if_neg (by decide), if_neg (by decide), if_neg (by decide), if_neg (by decide), if_neg (by decide), if_neg (by decide), if_neg (by decide), if_neg (by decide), if_neg (by decide), if_neg (by decide), if_neg (by decide), if_neg (by decide), if_neg (by decide), if_neg (by decide), if_neg (by decide), if_neg (by decide), if_neg (by decide), if_neg (by decide), if_neg (by decide), if_neg (by decide), if_neg (by decide), if_neg (by decide), if_pos rfl]
      rfl
    rw [e, ei, it_end (n := 1) (by decide) (by decide), et]
    dsimp only
    unfold F_X10_readsItem_k408 F_X10_readsItem_k411
    rcases hw with ⟨rfl, rfl, q, -⟩ | ⟨rfl, q⟩
    · rw [if_neg q, puts1 (mm := upd (upd mm' 3 (nI B)) 4 1) rfl 57 rfl]
      refine ⟨fun j hj => pk_un (by omega), Or.inr ⟨B, by omega, by omega, rfl, rfl, rfl, ?_, ?_⟩⟩
      · exact hr.1.tail (fun j hj => pk_un (by omega)) (fun j h1 h2 => pk_un (by omega)) rfl rfl
      · obtain ⟨-, t8, t9, t10, t11, t12, t13, t14, t15, t16⟩ := hr
        exact ⟨t8, t9, t10, t11, t12, t13, t14, t15, ⟨rfl, w_lo q rfl rfl⟩⟩
    · rw [if_pos (q.resolve_left (by rw [h4]; decide)), puts0 (mm := upd (upd mm' 3 (nI B)) 4 0) rfl]
      exact ItemOK.no rfl rfl rfl
  · obtain ⟨r, x, e⟩ := hM mm' 0 9 h2 h3
    have ei : F_X5_itemEnd_l20 rg sn sc sb (119 : Int32) (nI 1) 1 (nI 0) (nI (A + 1)) nums = (-1, rg, sn, nums) := it_no (n := 1) (i := 0) (j := 0) (by decide) (by decide) hE
    rw [e, ei]
    dsimp only
    unfold F_X10_readsItem_k408 F_X10_readsItem_k411
    rw [puts0 (mm := upd (upd mm' 3 x) 4 0) rfl]
    exact ItemOK.no rfl rfl rfl
theorem d224 (mm' tx bt : Nat → Int32) (r x : Int32) : ∃ y : Int32, F_X10_readsItem_k224 mm' tx bt r x 0 = (y, 0, bt) := by
  obtain ⟨r2, x2, e⟩ := N0 (upd (upd mm' 3 x) 4 0) tx 1 20 59 rfl
  unfold F_X10_readsItem_k224
  rw [e]
  dsimp only
  unfold F_X10_readsItem_k234 F_X10_readsItem_k243 F_X10_readsItem_k251
  rw [puts0 (mm := upd (upd mm' 3 x2) 4 0) rfl, puts0 (mm := upd (upd mm' 3 x2) 4 0) rfl]
  exact ⟨_, rfl⟩
theorem d279 (mm' tx bt : Nat → Int32) (r1 r x : Int32) : ∃ y : Int32, F_X10_readsItem_k279 mm' tx bt r1 r x 0 = (y, 0, bt) := by
  obtain ⟨r2, x2, e⟩ := N0 (upd (upd mm' 3 x) 4 0) tx 0 20 59 rfl
  unfold F_X10_readsItem_k279
  rw [e]
  dsimp only
  unfold F_X10_readsItem_k290 F_X10_readsItem_k299 F_X10_readsItem_k307 F_X10_readsItem_k315
  rw [puts0 (mm := upd (upd mm' 3 x2) 4 0) rfl, puts0 (mm := upd (upd mm' 3 x2) 4 0) rfl, puts0 (mm := upd (upd mm' 3 x2) 4 0) rfl]
  exact ⟨_, rfl⟩
theorem d269 (mm' tx bt : Nat → Int32) (r x : Int32) : ∃ y : Int32, F_X10_readsItem_k269 mm' tx bt r x 0 = (y, 0, bt) := by
  obtain ⟨r2, x2, e⟩ := N0 (upd (upd mm' 3 x) 4 0) tx 1 99 44 rfl
  unfold F_X10_readsItem_k269
  rw [e]
  exact d279 mm' tx bt r r2 x2
theorem d163 (mm' tx bt : Nat → Int32) (r1 r x : Int32) : ∃ y : Int32, F_X10_readsItem_k163 mm' tx bt r1 r x 0 = (y, 0, bt) := by
  obtain ⟨r2, x2, e⟩ := N0 (upd (upd mm' 3 x) 4 0) tx 1 40 59 rfl
  unfold F_X10_readsItem_k163
  rw [e]
  dsimp only
  unfold F_X10_readsItem_k174 F_X10_readsItem_k183 F_X10_readsItem_k191 F_X10_readsItem_k199 F_X10_readsItem_k206
  rw [puts0 (mm := upd (upd mm' 3 x2) 4 0) rfl, puts0 (mm := upd (upd mm' 3 x2) 4 0) rfl, puts0 (mm := upd (upd mm' 3 x2) 4 0) rfl, puts0 (mm := upd (upd mm' 3 x2) 4 0) rfl]
  exact ⟨_, rfl⟩
theorem d153 (mm' tx bt : Nat → Int32) (r x : Int32) : ∃ y : Int32, F_X10_readsItem_k153 mm' tx bt r x 0 = (y, 0, bt) := by
  obtain ⟨r2, x2, e⟩ := N0 (upd (upd mm' 3 x) 4 0) tx 1 8 44 rfl
  unfold F_X10_readsItem_k153
  rw [e]
  exact d163 mm' tx bt r r2 x2
theorem d76 (mm' bt : Nat → Int32) (a b c d x : Int32) : F_X10_readsItem_j76 mm' bt a b c d x 0 = (x, 0, bt) := by
  unfold F_X10_readsItem_j76 F_X10_readsItem_k86 F_X10_readsItem_k99 F_X10_readsItem_k112 F_X10_readsItem_k125 F_X10_readsItem_k134
  rw [puts0 (mm := upd (upd mm' 3 x) 4 0) rfl, puts0 (mm := upd (upd mm' 3 x) 4 0) rfl, puts0 (mm := upd (upd mm' 3 x) 4 0) rfl, puts0 (mm := upd (upd mm' 3 x) 4 0) rfl, puts0 (mm := upd (upd mm' 3 x) 4 0) rfl]
theorem d53 (mm' bt : Nat → Int32) (a b c d x : Int32) : F_X10_readsItem_k53 mm' bt a b c d x 0 = (x, 0, bt) := by
  unfold F_X10_readsItem_k53 F_X10_readsItem_j75
  rw [if_pos rfl, d76]
theorem d41 (mm' tx bt : Nat → Int32) (r0 r1 r x : Int32) : ∃ y : Int32, F_X10_readsItem_k41 mm' tx bt r0 r1 r x 0 = (y, 0, bt) := by
  obtain ⟨r2, x2, e⟩ := N0 (upd (upd mm' 3 x) 4 0) tx r 99 59 rfl
  unfold F_X10_readsItem_k41
  rw [e]
  exact ⟨_, d53 mm' bt r0 r1 r r2 x2⟩
theorem d30 (mm' tx bt : Nat → Int32) (r1 r x : Int32) : ∃ y : Int32, F_X10_readsItem_k30 mm' tx bt r1 r x 0 = (y, 0, bt) := by
  obtain ⟨r2, x2, e⟩ := N0 (upd (upd mm' 3 x) 4 0) tx 1 40 44 rfl
  unfold F_X10_readsItem_k30
  rw [e]
  exact d41 mm' tx bt r1 r r2 x2
theorem d20 (mm' tx bt : Nat → Int32) (r x : Int32) : ∃ y : Int32, F_X10_readsItem_k20 mm' tx bt r x 0 = (y, 0, bt) := by
  obtain ⟨r2, x2, e⟩ := N0 (upd (upd mm' 3 x) 4 0) tx 0 90 44 rfl
  unfold F_X10_readsItem_k20
  rw [e]
  exact d30 mm' tx bt r r2 x2
theorem ItemOK.ex {A : Nat} {cl : Int32 × (Nat → Int32) × (Nat → Int32) × (Nat → Int32)} {ml : Int32 × Int32 × (Nat → Int32)} {bt : Nat → Int32} (h1 : cl.1 = (-1 : Int32)) (h2 : ∃ y : Int32, ml = (y, 0, bt)) : ItemOK A cl ml bt := by
  obtain ⟨y, e⟩ := h2
  rw [e]
  exact ItemOK.no h1 rfl rfl
theorem item_p {sc sb mm tx : Nat → Int32} (h : RText sc sb mm tx) {A : Nat} (hA : A < 40000) {mm' : Nat → Int32} (h2 : mm' 2 = mm 2) (h3 : mm' 3 = nI (A + 1)) (h4 : mm' 4 = 1) {rg sn bt : Nat → Int32} (hr : RR rg sn bt) (nums : Nat → Int32) : ItemOK A (F_X5_itemEnd_l20 rg sn sc sb (112 : Int32) (nI 2) 2 (nI 0) (nI (A + 1)) nums) (F_X10_readsItem mm' tx bt (112 : Int32)) bt := by
  have em : F_X10_readsItem mm' tx bt (112 : Int32) = (match F_X10_number mm' tx (1 : Int32) (9 : Int32) (44 : Int32) with | (r, x, w) => F_X10_readsItem_k224 mm' tx bt r x w) := by
    unfold F_X10_readsItem
    rw [if_neg (by decide), if_neg (by decide), if_pos rfl]
  rw [em]
  rcases N1 h (A := A + 1) (by omega) (s := 44) (Or.inl rfl) with ⟨B1, v1, hB1, hB1', hE1, hM1⟩ | ⟨hE1, hM1⟩
  rotate_left
  · obtain ⟨r, x, e⟩ := hM1 mm' 1 9 h2 h3
    rw [e, show F_X5_itemEnd_l20 rg sn sc sb (112 : Int32) (nI 2) 2 (nI 0) (nI (A + 1)) nums = (-1, rg, sn, nums) from it_no (n := 2) (i := 0) (j := 1) (by decide) (by decide) hE1]
    exact ItemOK.ex rfl (d224 mm' tx bt r x)
  obtain ⟨r1, w1, e1, hw1⟩ := hM1 mm' 1 9 h2 h3
  rw [e1, show F_X5_itemEnd_l20 rg sn sc sb (112 : Int32) (nI 2) 2 (nI 0) (nI (A + 1)) nums = _ from it_ok (n := 2) (i := 0) (j := 1) (by decide) (by decide) (by omega) hE1]
  dsimp only
  unfold F_X10_readsItem_k224
  rcases N1 h (A := B1) (by omega) (s := 59) (Or.inr rfl) with ⟨B2, v2, hB2, hB2', hE2, hM2⟩ | ⟨hE2, hM2⟩
  rotate_left
  · obtain ⟨r, x, e⟩ := hM2 (upd (upd mm' 3 (nI B1)) 4 w1) 1 20 h2 rfl
    rw [e, show F_X5_itemEnd_l20 rg sn sc sb (112 : Int32) (nI 2) 1 (nI (0 + 1)) (nI B1) (upd nums 0 v1) = (-1, rg, sn, upd nums 0 v1) from it_no (n := 2) (i := 1) (j := 0) (by decide) (by decide) hE2]
    dsimp only
    unfold F_X10_readsItem_k234 F_X10_readsItem_k243 F_X10_readsItem_k251
    rw [puts0 (mm := upd (upd mm' 3 x) 4 0) rfl, puts0 (mm := upd (upd mm' 3 x) 4 0) rfl]
    exact ItemOK.no rfl rfl rfl
  obtain ⟨r2, w2, e2, hw2⟩ := hM2 (upd (upd mm' 3 (nI B1)) 4 w1) 1 20 h2 rfl
  have et : F_X5_take rg sn (upd (upd nums 0 v1) 1 v2) (112 : Int32) = (if F_X9_within v1 (1 : Int32) (9 : Int32) = 0 then (0 : Int32) else if F_X9_within v2 (1 : Int32) (20 : Int32) = 0 then 0 else 1, upd (upd rg 8 v1) 9 v2, sn) := by
    unfold F_X5_take
    rw [if_neg (by decide), if_neg (by decide), if_neg (by decide), if_neg (by decide), if_neg (by decide), if_neg (by decide), if_neg (by decide), if_neg (by decide), if_neg (by decide), if_neg (by decide), if_neg (by decide), if_neg (by decide), if_neg (by decide), if_neg (by decide), if_neg (by decide), if_pos rfl]
    unfold F_X5_takeBlade
    rw [show (upd (upd nums 0 v1) 1 v2) 0 = v1 from rfl, show (upd (upd nums 0 v1) 1 v2) 1 = v2 from rfl]
    by_cases q1 : F_X9_within v1 (1 : Int32) (9 : Int32) = 0
    · rw [if_pos q1, if_pos q1]; rfl
    · rw [if_neg q1, if_neg q1]
      by_cases q2 : F_X9_within v2 (1 : Int32) (20 : Int32) = 0
      · rw [if_pos q2, if_pos q2]; rfl
      · rw [if_neg q2, if_neg q2]; rfl
  rw [e2, show F_X5_itemEnd_l20 rg sn sc sb (112 : Int32) (nI 2) 1 (nI (0 + 1)) (nI B1) (upd nums 0 v1) = _ from it_ok (n := 2) (i := 1) (j := 0) (by decide) (by decide) (by omega) hE2, show nI (1 + 1) = nI 2 from rfl, it_end (n := 2) (by decide) (by decide), et]
  dsimp only
  unfold F_X10_readsItem_k234 F_X10_readsItem_k243 F_X10_readsItem_k251
  rcases hw2 with ⟨rfl, rfl, q2, p2⟩ | ⟨rfl, q2⟩
  · rcases hw1 with ⟨rfl, rfl, q1, -⟩ | ⟨rfl, -⟩
    rotate_left
    · exact absurd rfl p2
    rw [if_neg q1, if_neg q2, if_neg (by decide), puts1 (mm := upd (upd mm' 3 (nI B2)) 4 1) (k := 19) rfl 49 rfl, puts1 (mm := upd (upd mm' 3 (nI B2)) 4 1) rfl 50 rfl]
    refine ⟨fun j hj => (pk_un (by omega)).trans (pk_un (by omega)), Or.inr ⟨B2, by omega, by omega, rfl, rfl, rfl, ?_, ?_⟩⟩
    · exact hr.1.tail (fun j hj => (pk_un (by omega)).trans (pk_un (by omega))) (fun j h1 h2 => (pk_un (by omega)).trans (pk_un (by omega))) rfl rfl
    · obtain ⟨-, t8, t9, t10, t11, t12, t13, t14, t15, t16⟩ := hr
      exact ⟨⟨rfl, w_lo q1 rfl rfl⟩, ⟨rfl, w_lo q2 rfl rfl⟩, t10, t11, t12, t13, t14, t15, t16⟩
  · have bad : (if F_X9_within v1 (1 : Int32) (9 : Int32) = 0 then (0 : Int32) else if F_X9_within v2 (1 : Int32) (20 : Int32) = 0 then 0 else 1) = 0 := by
      rcases q2 with q2 | q2
      · have q2 : w1 = 0 := q2
        rcases hw1 with ⟨w, -⟩ | ⟨-, w⟩
        · rw [w] at q2; exact absurd q2 (by decide)
        · rw [if_pos (w.resolve_left (by rw [h4]; decide))]
      · rw [if_pos q2, ite_self]
    rw [if_pos bad, puts0 (mm := upd (upd mm' 3 (nI B2)) 4 0) rfl, puts0 (mm := upd (upd mm' 3 (nI B2)) 4 0) rfl]
    exact ItemOK.no rfl rfl rfl
theorem item_h {sc sb mm tx : Nat → Int32} (h : RText sc sb mm tx) {A : Nat} (hA : A < 40000) {mm' : Nat → Int32} (h2 : mm' 2 = mm 2) (h3 : mm' 3 = nI (A + 1)) (h4 : mm' 4 = 1) {rg sn bt : Nat → Int32} (hr : RR rg sn bt) (nums : Nat → Int32) : ItemOK A (F_X5_itemEnd_l20 rg sn sc sb (104 : Int32) (nI 3) 3 (nI 0) (nI (A + 1)) nums) (F_X10_readsItem mm' tx bt (104 : Int32)) bt := by
  have em : F_X10_readsItem mm' tx bt (104 : Int32) = (match F_X10_number mm' tx (1 : Int32) (99 : Int32) (44 : Int32) with | (r, x, w) => F_X10_readsItem_k269 mm' tx bt r x w) := by
    unfold F_X10_readsItem
    rw [if_neg (by decide), if_neg (by decide), if_neg (by decide), if_pos rfl]
  rw [em]
  rcases N1 h (A := A + 1) (by omega) (s := 44) (Or.inl rfl) with ⟨B1, v1, hB1, hB1', hE1, hM1⟩ | ⟨hE1, hM1⟩
  rotate_left
  · obtain ⟨r, x, e⟩ := hM1 mm' 1 99 h2 h3
    rw [e, show F_X5_itemEnd_l20 rg sn sc sb (104 : Int32) (nI 3) 3 (nI 0) (nI (A + 1)) nums = (-1, rg, sn, nums) from it_no (n := 3) (i := 0) (j := 2) (by decide) (by decide) hE1]
    exact ItemOK.ex rfl (d269 mm' tx bt r x)
  obtain ⟨r1, w1, e1, hw1⟩ := hM1 mm' 1 99 h2 h3
  rw [e1, show F_X5_itemEnd_l20 rg sn sc sb (104 : Int32) (nI 3) 3 (nI 0) (nI (A + 1)) nums = _ from it_ok (n := 3) (i := 0) (j := 2) (by decide) (by decide) (by omega) hE1]
  dsimp only
  unfold F_X10_readsItem_k269
  rcases N1 h (A := B1) (by omega) (s := 44) (Or.inl rfl) with ⟨B2, v2, hB2, hB2', hE2, hM2⟩ | ⟨hE2, hM2⟩
  rotate_left
  · obtain ⟨r, x, e⟩ := hM2 (upd (upd mm' 3 (nI B1)) 4 w1) 1 99 h2 rfl
    rw [e, show F_X5_itemEnd_l20 rg sn sc sb (104 : Int32) (nI 3) 2 (nI (0 + 1)) (nI B1) (upd nums 0 v1) = (-1, rg, sn, upd nums 0 v1) from it_no (n := 3) (i := 1) (j := 1) (by decide) (by decide) hE2]
    exact ItemOK.ex rfl (d279 mm' tx bt r1 r x)
  obtain ⟨r2, w2, e2, hw2⟩ := hM2 (upd (upd mm' 3 (nI B1)) 4 w1) 1 99 h2 rfl
  rw [e2, show F_X5_itemEnd_l20 rg sn sc sb (104 : Int32) (nI 3) 2 (nI (0 + 1)) (nI B1) (upd nums 0 v1) = _ from it_ok (n := 3) (i := 1) (j := 1) (by decide) (by decide) (by omega) hE2]
  dsimp only
  unfold F_X10_readsItem_k279
  rcases N1 h (A := B2) (by omega) (s := 59) (Or.inr rfl) with ⟨B3, v3, hB3, hB3', hE3, hM3⟩ | ⟨hE3, hM3⟩
  rotate_left
  · obtain ⟨r, x, e⟩ := hM3 (upd (upd mm' 3 (nI B2)) 4 w2) 0 20 h2 rfl
    rw [e, show F_X5_itemEnd_l20 rg sn sc sb (104 : Int32) (nI 3) 1 (nI (1 + 1)) (nI B2) (upd (upd nums 0 v1) 1 v2) = (-1, rg, sn, upd (upd nums 0 v1) 1 v2) from it_no (n := 3) (i := 2) (j := 0) (by decide) (by decide) hE3]
    dsimp only
    unfold F_X10_readsItem_k290 F_X10_readsItem_k299 F_X10_readsItem_k307 F_X10_readsItem_k315
    rw [puts0 (mm := upd (upd mm' 3 x) 4 0) rfl, puts0 (mm := upd (upd mm' 3 x) 4 0) rfl, puts0 (mm := upd (upd mm' 3 x) 4 0) rfl]
    exact ItemOK.no rfl rfl rfl
  obtain ⟨r3, w3, e3, hw3⟩ := hM3 (upd (upd mm' 3 (nI B2)) 4 w2) 0 20 h2 rfl
  have et : F_X5_take rg sn (upd (upd (upd nums 0 v1) 1 v2) 2 v3) (104 : Int32) = (if F_X9_within v1 (1 : Int32) (99 : Int32) = 0 then (0 : Int32) else if F_X9_within v2 (1 : Int32) (99 : Int32) = 0 then 0 else if F_X9_within v3 (0 : Int32) (20 : Int32) = 0 then 0 else 1, upd (upd (upd rg 10 v1) 11 v2) 12 v3, sn) := by
    unfold F_X5_take
    rw [if_neg (by decide), if_neg (by decide), if_neg (by decide), if_neg (by decide), if_neg (by decide), if_neg (by decide), if_neg (by decide), if_pos rfl]
    unfold F_X5_takeHull
    rw [show (upd (upd (upd nums 0 v1) 1 v2) 2 v3) 0 = v1 from rfl, show (upd (upd (upd nums 0 v1) 1 v2) 2 v3) 1 = v2 from rfl, show (upd (upd (upd nums 0 v1) 1 v2) 2 v3) 2 = v3 from rfl]
    by_cases q1 : F_X9_within v1 (1 : Int32) (99 : Int32) = 0
    · rw [if_pos q1, if_pos q1]; rfl
    · rw [if_neg q1, if_neg q1]
      by_cases q2 : F_X9_within v2 (1 : Int32) (99 : Int32) = 0
      · rw [if_pos q2, if_pos q2]; rfl
      · rw [if_neg q2, if_neg q2]
        by_cases q3 : F_X9_within v3 (0 : Int32) (20 : Int32) = 0
        · rw [if_pos q3, if_pos q3]; rfl
        · rw [if_neg q3, if_neg q3]; rfl
  rw [e3, show F_X5_itemEnd_l20 rg sn sc sb (104 : Int32) (nI 3) 1 (nI (1 + 1)) (nI B2) (upd (upd nums 0 v1) 1 v2) = _ from it_ok (n := 3) (i := 2) (j := 0) (by decide) (by decide) (by omega) hE3, show nI (2 + 1) = nI 3 from rfl, it_end (n := 3) (by decide) (by decide), et]
  dsimp only
  unfold F_X10_readsItem_k290 F_X10_readsItem_k299 F_X10_readsItem_k307 F_X10_readsItem_k315
  rcases hw3 with ⟨rfl, rfl, q3, p3⟩ | ⟨rfl, q3⟩
  · rcases hw2 with ⟨rfl, rfl, q2, p2⟩ | ⟨rfl, -⟩
    rotate_left
    · exact absurd rfl p3
    rcases hw1 with ⟨rfl, rfl, q1, -⟩ | ⟨rfl, -⟩
    rotate_left
    · exact absurd rfl p2
    rw [if_neg q1, if_neg q2, if_neg q3, if_neg (by decide), puts1 (mm := upd (upd mm' 3 (nI B3)) 4 1) (k := 21) rfl 51 rfl, puts1 (mm := upd (upd mm' 3 (nI B3)) 4 1) (k := 22) rfl 52 rfl, puts1 (mm := upd (upd mm' 3 (nI B3)) 4 1) rfl 53 rfl]
    refine ⟨fun j hj => ((pk_un (by omega)).trans (pk_un (by omega))).trans (pk_un (by omega)), Or.inr ⟨B3, by omega, by omega, rfl, rfl, rfl, ?_, ?_⟩⟩
    · exact hr.1.tail (fun j hj => ((pk_un (by omega)).trans (pk_un (by omega))).trans (pk_un (by omega))) (fun j h1 h2 => ((pk_un (by omega)).trans (pk_un (by omega))).trans (pk_un (by omega))) rfl rfl
    · obtain ⟨-, t8, t9, t10, t11, t12, t13, t14, t15, t16⟩ := hr
      exact ⟨t8, t9, ⟨rfl, w_lo q1 rfl rfl⟩, ⟨rfl, w_lo q2 rfl rfl⟩, ⟨rfl, w_lo q3 rfl rfl⟩, t13, t14, t15, t16⟩
  · have bad : (if F_X9_within v1 (1 : Int32) (99 : Int32) = 0 then (0 : Int32) else if F_X9_within v2 (1 : Int32) (99 : Int32) = 0 then 0 else if F_X9_within v3 (0 : Int32) (20 : Int32) = 0 then 0 else 1) = 0 := by
      rcases q3 with q3 | q3
      · have q3 : w2 = 0 := q3
        rcases hw2 with ⟨w, -⟩ | ⟨-, w⟩
        · rw [w] at q3; exact absurd q3 (by decide)
        · rcases w with w | w
          · have w : w1 = 0 := w
            rcases hw1 with ⟨ww, -⟩ | ⟨-, ww⟩
            · rw [ww] at w; exact absurd w (by decide)
            · rw [if_pos (ww.resolve_left (by rw [h4]; decide))]
          · rw [if_pos w, ite_self]
      · rw [if_pos q3, ite_self, ite_self]
    rw [if_pos bad, puts0 (mm := upd (upd mm' 3 (nI B3)) 4 0) rfl, puts0 (mm := upd (upd mm' 3 (nI B3)) 4 0) rfl, puts0 (mm := upd (upd mm' 3 (nI B3)) 4 0) rfl]
    exact ItemOK.no rfl rfl rfl
