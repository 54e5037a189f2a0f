def F_X10_mark_k72 (mm : Nat → Int32) (ma : Nat → Int32) (d : Int32) (t : Int32) (v3 : Int32) : Int32 × Int32 × Int32 × (Nat → Int32) := (v3, (0 : Int32), v3, (upd (upd ma (Int32.toNatClampNeg ((2 : Int32) * (mm 25))) d) (Int32.toNatClampNeg (((2 : Int32) * (mm 25)) + (1 : Int32))) t))
def F_X10_mark (mm : Nat → Int32) (ma : Nat → Int32) (d : Int32) (t : Int32) : Int32 × Int32 × Int32 × (Nat → Int32) := (if (F_X10_in d (1 : Int32) (99999 : Int32)) = (0 : Int32) then ((-1 : Int32), (0 : Int32), (mm 25), ma) else (if (F_X10_in t (0 : Int32) (600 : Int32)) = (0 : Int32) then ((-1 : Int32), (0 : Int32), (mm 25), ma) else (if (mm 25) = (4 : Int32) then ((-3 : Int32), (0 : Int32), (mm 25), ma) else F_X10_mark_k72 mm ma d t ((mm 25) + (1 : Int32)))))
theorem iX10_mark_X10 : ∀ w ∈ wsX100, w ∈ wsX10_mark := fun _ h => List.mem_cons_of_mem _ (List.mem_append_right _ h)
set_option maxHeartbeats 4000000 in
set_option maxRecDepth 100000 in
theorem c_X10_mark (l : Launch) (E : wV) (h_mm : Nat) (a_mm : Nat → Nat) (mm : Nat → Int32) (ma : Nat → Int32) (d : Int32) (t : Int32) (hMk : 0 ≤ (mm 25).toInt ∧ (mm 25).toInt ≤ 4) : MetI l yX10_mark wsX10_mark ({ frames := 1, cells := 0, slots := 0, locals := 22 } : Room) E ([.ref h_mm, .int d, .int t] : List Value) [xModel h_mm a_mm mm, xI E (a_mm 23) 8 ma] (fun (r : Int32) (u : Int32 × Int32 × (Nat → Int32)) => F_X10_mark mm ma d t = (r, u)) (fun (u : Int32 × Int32 × (Nat → Int32)) => [xModel h_mm a_mm (upd (upd mm 0 u.1) 25 u.2.1), xI E (a_mm 23) 8 u.2.2]) := by
  refine MetI.of (cc := cX10_mark) (maxL := 3) (own := RX10) (by decide) rfl rfl (Nat.le_of_ble_eq_true rfl) ?_
  intro p e s m below meth c A Q ls cx hP hD hS hl hq
  obtain ⟨hx, hb, hml, hown, hts, hE, hA⟩ := id cx
  have hl : lv_has ls 3 [(0, .ref h_mm), (1, .int d), (2, .int t)] := hl
  have hP : va_P E.1 vwCl [xModel h_mm a_mm mm, xI E (a_mm 23) 8 ma] s.heap := hP
  obtain ⟨ρ, hρ0⟩ : ∃ ρ, F_X10_mark mm ma d t = ρ := ⟨_, rfl⟩
  have hρ := hρ0.symm
  unfold F_X10_mark at hρ
  refine lv_aload_n hx hb dX10_mark_0 rfl (lv_at hl 0 rfl) ?_
  refine lv_iconst (v := (0 : Int32)) hx hb dX10_mark_1 (by decide) ?_
  refine va_put (D := E.1) (ci := 10) (v := .int (0 : Int32)) (ty := .int) (C := RX10) (T := TX10) (N := 27) hx hb hts iX10_mark_X10 tyX10 tyX10_ok nmX10 hown hE.1 hP hD hS 0 rfl rfl 0 (by decide) (hts (.fieldLink RX10 41 "BandBoatModel" "thrown" "I") (List.mem_of_getElem? (i := 1) rfl)) (fun _ h9 => h9) rfl (by decide +kernel) rfl rfl (Nat.le_of_ble_eq_true rfl) dX10_mark_2 (fun H locs hP hD hS => ?_)
  have hP : va_P E.1 vwCl [xModel h_mm a_mm (upd mm 0 (0 : Int32)), xI E (a_mm 23) 8 ma] H := hP
  have hD : va_D A [xModel h_mm a_mm (upd mm 0 (0 : Int32)), xI E (a_mm 23) 8 ma] := hD
  refine lv_iload_n hx hb dX10_mark_5 rfl (lv_at hl 1 rfl) ?_
  refine lv_iconst (v := (1 : Int32)) hx hb dX10_mark_6 (by decide) ?_
  refine lv_ldc (own := RX10) (v := (99999 : Int32)) hx hb hown (hts (.constant RX10 163 (99999)) (List.mem_of_getElem? (i := 2) rfl)) dX10_mark_7 ?_
  refine kI (wc := []) (wr := [xModel h_mm a_mm (upd mm 0 (0 : Int32)), xI E (a_mm 23) 8 ma]) (wc' := (fun (_ : Unit) => [])) (wn := (fun (_ : Unit) => [xModel h_mm a_mm (upd mm 0 (0 : Int32)), xI E (a_mm 23) 8 ma])) (isC := []) (isR := [0, 1]) (is2 := [0, 1]) cx hP hD hS ⟨rfl, rfl, by decide, by decide, by decide, by decide, fun _ => rfl⟩ (rS (As := [.int d, .int (1 : Int32), .int (99999 : Int32)]) (rest := []) cx (c_X10_in l E d (1 : Int32) (99999 : Int32) _) (va_cwS 3 hts gX10_mark_X10_in rfl rfl rfl (by decide +kernel) ⟨Nat.le_of_ble_eq_true rfl, Nat.le_of_ble_eq_true rfl⟩) rfl hl.1 rfl (Nat.le_of_ble_eq_true rfl) dX10_mark_9 ⟨Nat.zero_le _, Nat.zero_le _⟩) (fun r1 u H locs hw hP hD hS => ?_)
  subst hw
  refine lv_if_eq (tgt := 26) hx hb dX10_mark_12 (by decide) (fun c12 => ?_) (fun c12 => ?_)
  · rw [if_pos c12] at hρ
    refine lv_iconst (v := (-1 : Int32)) hx hb dX10_mark_26 (by decide) ?_
    exact hq (-1 : Int32) ((0 : Int32), (mm 25), ma) _ _ _ _ dX10_mark_27 rfl (hρ0.trans hρ) hP hD hS
  · rw [if_neg c12] at hρ
    refine lv_iload_n hx hb dX10_mark_15 rfl (lv_at hl 2 rfl) ?_
    refine lv_iconst (v := (0 : Int32)) hx hb dX10_mark_16 (by decide) ?_
    refine lv_sipush (v := (600 : Int32)) hx hb dX10_mark_17 (by decide) ?_
    refine kI (wc := []) (wr := [xModel h_mm a_mm (upd mm 0 (0 : Int32)), xI E (a_mm 23) 8 ma]) (wc' := (fun (_ : Unit) => [])) (wn := (fun (_ : Unit) => [xModel h_mm a_mm (upd mm 0 (0 : Int32)), xI E (a_mm 23) 8 ma])) (isC := []) (isR := [0, 1]) (is2 := [0, 1]) cx hP hD hS ⟨rfl, rfl, by decide, by decide, by decide, by decide, fun _ => rfl⟩ (rS (As := [.int t, .int (0 : Int32), .int (600 : Int32)]) (rest := []) cx (c_X10_in l E t (0 : Int32) (600 : Int32) _) (va_cwS 3 hts gX10_mark_X10_in rfl rfl rfl (by decide +kernel) ⟨Nat.le_of_ble_eq_true rfl, Nat.le_of_ble_eq_true rfl⟩) rfl hl.1 rfl (Nat.le_of_ble_eq_true rfl) dX10_mark_20 ⟨Nat.zero_le _, Nat.zero_le _⟩) (fun r2 u H locs hw hP hD hS => ?_)
    subst hw
    refine lv_if_ne (tgt := 28) hx hb dX10_mark_23 (by decide) (fun c23 => ?_) (fun c23 => ?_)
    · rw [if_neg c23] at hρ
      refine lv_aload_n hx hb dX10_mark_28 rfl (lv_at hl 0 rfl) ?_
      refine va_get (D := E.1) (ci := 10) (v := .int (mm 25)) (C := RX10) (T := TX10) (N := 27) hx hb hts iX10_mark_X10 hown hE.1 hP 0 rfl rfl 25 (by decide) (hts (.fieldLink RX10 83 "BandBoatModel" "marks" "I") (List.mem_of_getElem? (i := 3) rfl)) (fun _ h9 => h9) rfl dX10_mark_29 ?_
      refine lv_iconst (v := (4 : Int32)) hx hb dX10_mark_32 (by decide) ?_
      refine lv_icmp_ne (tgt := 39) hx hb dX10_mark_33 (by decide) (fun c33 => ?_) (fun c33 => ?_)
      · rw [if_neg c33] at hρ
        refine lv_aload_n hx hb dX10_mark_39 rfl (lv_at hl 0 rfl) ?_
        refine va_get (D := E.1) (ci := 10) (v := .ref (a_mm 23)) (C := RX10) (T := TX10) (N := 27) hx hb hts iX10_mark_X10 hown hE.1 hP 0 rfl rfl 23 (by decide) (hts (.fieldLink RX10 28 "BandBoatModel" "mark" "[I") (List.mem_of_getElem? (i := 4) rfl)) (fun _ h9 => h9) rfl dX10_mark_40 ?_
        refine lv_iconst (v := (2 : Int32)) hx hb dX10_mark_43 (by decide) ?_
        refine lv_aload_n hx hb dX10_mark_44 rfl (lv_at hl 0 rfl) ?_
        refine va_get (D := E.1) (ci := 10) (v := .int (mm 25)) (C := RX10) (T := TX10) (N := 27) hx hb hts iX10_mark_X10 hown hE.1 hP 0 rfl rfl 25 (by decide) (hts (.fieldLink RX10 83 "BandBoatModel" "marks" "I") (List.mem_of_getElem? (i := 3) rfl)) (fun _ h9 => h9) rfl dX10_mark_45 ?_
        refine lv_imul hx hb dX10_mark_48 ?_
        refine lv_iload_n hx hb dX10_mark_49 rfl (lv_at hl 1 rfl) ?_
        refine ar_ist (k := (Int32.toNatClampNeg ((2 : Int32) * (mm 25)))) (ws' := [xModel h_mm a_mm (upd mm 0 (0 : Int32)), xI E (a_mm 23) 8 (upd ma (Int32.toNatClampNeg ((2 : Int32) * (mm 25))) d)]) hx hb hE hP hD hS 1 rfl (r2_in (ne4 hMk c33)) rfl rfl dX10_mark_50 (fun H locs hP hD hS => ?_)
        refine lv_aload_n hx hb dX10_mark_51 rfl (lv_at hl 0 rfl) ?_
        refine va_get (D := E.1) (ci := 10) (v := .ref (a_mm 23)) (C := RX10) (T := TX10) (N := 27) hx hb hts iX10_mark_X10 hown hE.1 hP 0 rfl rfl 23 (by decide) (hts (.fieldLink RX10 28 "BandBoatModel" "mark" "[I") (List.mem_of_getElem? (i := 4) rfl)) (fun _ h9 => h9) rfl dX10_mark_52 ?_
        refine lv_iconst (v := (2 : Int32)) hx hb dX10_mark_55 (by decide) ?_
        refine lv_aload_n hx hb dX10_mark_56 rfl (lv_at hl 0 rfl) ?_
        refine va_get (D := E.1) (ci := 10) (v := .int (mm 25)) (C := RX10) (T := TX10) (N := 27) hx hb hts iX10_mark_X10 hown hE.1 hP 0 rfl rfl 25 (by decide) (hts (.fieldLink RX10 83 "BandBoatModel" "marks" "I") (List.mem_of_getElem? (i := 3) rfl)) (fun _ h9 => h9) rfl dX10_mark_57 ?_
        refine lv_imul hx hb dX10_mark_60 ?_
        refine lv_iconst (v := (1 : Int32)) hx hb dX10_mark_61 (by decide) ?_
        refine lv_iadd hx hb dX10_mark_62 ?_
        refine lv_iload_n hx hb dX10_mark_63 rfl (lv_at hl 2 rfl) ?_
        refine ar_ist (k := (Int32.toNatClampNeg (((2 : Int32) * (mm 25)) + (1 : Int32)))) (ws' := [xModel h_mm a_mm (upd mm 0 (0 : Int32)), xI E (a_mm 23) 8 (upd (upd ma (Int32.toNatClampNeg ((2 : Int32) * (mm 25))) d) (Int32.toNatClampNeg (((2 : Int32) * (mm 25)) + (1 : Int32))) t)]) hx hb hE hP hD hS 1 rfl (r2_inj (ne4 hMk c33)) rfl rfl dX10_mark_64 (fun H locs hP hD hS => ?_)
        refine lv_aload_n hx hb dX10_mark_65 rfl (lv_at hl 0 rfl) ?_
        refine lv_dup hx hb dX10_mark_66 rfl ?_
        refine va_get (D := E.1) (ci := 10) (v := .int (mm 25)) (C := RX10) (T := TX10) (N := 27) hx hb hts iX10_mark_X10 hown hE.1 hP 0 rfl rfl 25 (by decide) (hts (.fieldLink RX10 83 "BandBoatModel" "marks" "I") (List.mem_of_getElem? (i := 3) rfl)) (fun _ h9 => h9) rfl dX10_mark_67 ?_
        refine lv_iconst (v := (1 : Int32)) hx hb dX10_mark_70 (by decide) ?_
        refine lv_iadd hx hb dX10_mark_71 ?_
        refine lv_topi (fun v3 ev3 => ?_)
        have hρ : ρ = F_X10_mark_k72 mm ma d t v3 := by rw [ev3]; exact hρ
        unfold F_X10_mark_k72 at hρ
        refine va_put (D := E.1) (ci := 10) (v := .int v3) (ty := .int) (C := RX10) (T := TX10) (N := 27) hx hb hts iX10_mark_X10 tyX10 tyX10_ok nmX10 hown hE.1 hP hD hS 0 rfl rfl 25 (by decide) (hts (.fieldLink RX10 83 "BandBoatModel" "marks" "I") (List.mem_of_getElem? (i := 3) rfl)) (fun _ h9 => h9) rfl (by decide +kernel) rfl rfl (Nat.le_of_ble_eq_true rfl) dX10_mark_72 (fun H locs hP hD hS => ?_)
        have hP : va_P E.1 vwCl [xModel h_mm a_mm (upd (upd mm 0 (0 : Int32)) 25 v3), xI E (a_mm 23) 8 (upd (upd ma (Int32.toNatClampNeg ((2 : Int32) * (mm 25))) d) (Int32.toNatClampNeg (((2 : Int32) * (mm 25)) + (1 : Int32))) t)] H := hP
        have hD : va_D A [xModel h_mm a_mm (upd (upd mm 0 (0 : Int32)) 25 v3), xI E (a_mm 23) 8 (upd (upd ma (Int32.toNatClampNeg ((2 : Int32) * (mm 25))) d) (Int32.toNatClampNeg (((2 : Int32) * (mm 25)) + (1 : Int32))) t)] := hD
        refine lv_aload_n hx hb dX10_mark_75 rfl (lv_at hl 0 rfl) ?_
        refine va_get (D := E.1) (ci := 10) (v := .int v3) (C := RX10) (T := TX10) (N := 27) hx hb hts iX10_mark_X10 hown hE.1 hP 0 rfl rfl 25 (by decide) (hts (.fieldLink RX10 83 "BandBoatModel" "marks" "I") (List.mem_of_getElem? (i := 3) rfl)) (fun _ h9 => h9) rfl dX10_mark_76 ?_
        exact hq v3 ((0 : Int32), v3, (upd (upd ma (Int32.toNatClampNeg ((2 : Int32) * (mm 25))) d) (Int32.toNatClampNeg (((2 : Int32) * (mm 25)) + (1 : Int32))) t)) _ _ _ _ dX10_mark_79 rfl (hρ0.trans hρ) hP hD hS
      · rw [if_pos c33] at hρ
        refine lv_bipush (v := (-3 : Int32)) hx hb dX10_mark_36 (by decide) ?_
        exact hq (-3 : Int32) ((0 : Int32), (mm 25), ma) _ _ _ _ dX10_mark_38 rfl (hρ0.trans hρ) hP hD hS
    · rw [if_pos c23] at hρ
      refine lv_iconst (v := (-1 : Int32)) hx hb dX10_mark_26 (by decide) ?_
      exact hq (-1 : Int32) ((0 : Int32), (mm 25), ma) _ _ _ _ dX10_mark_27 rfl (hρ0.trans hρ) hP hD hS
def F_X10_runsByMarks_b2 (x2_2 : Int32) (g_wh_2 : Nat → Int32) : (Int32 × (Nat → Int32)) ⊕ (Int32 × (Nat → Int32)) := (if (4 : Int32) ≤ x2_2 then Sum.inr (x2_2, g_wh_2) else Sum.inl ((x2_2 + (1 : Int32)), (upd g_wh_2 (Int32.toNatClampNeg x2_2) (-4 : Int32))))
def F_X10_runsByMarks_l2  : Nat → (Int32) → (Nat → Int32) → Int32 × (Nat → Int32)
  | 0, x2_2, g_wh_2 => (x2_2, g_wh_2)
  | n_2 + 1, x2_2, g_wh_2 => match F_X10_runsByMarks_b2 x2_2 g_wh_2 with
    | Sum.inl (c_x2_2, c_g_wh_2) => F_X10_runsByMarks_l2 n_2 c_x2_2 c_g_wh_2
    | Sum.inr r_ => r_
def F_X10_runsByMarks_b23 (x2_23 : Int32) (g_rn_23 : Nat → Int32) : (Int32 × (Nat → Int32)) ⊕ (Int32 × (Nat → Int32)) := (if (6 : Int32) ≤ x2_23 then Sum.inr (x2_23, g_rn_23) else Sum.inl ((x2_23 + (1 : Int32)), (upd g_rn_23 (Int32.toNatClampNeg x2_23) (0 : Int32))))
def F_X10_runsByMarks_l23  : Nat → (Int32) → (Nat → Int32) → Int32 × (Nat → Int32)
  | 0, x2_23, g_rn_23 => (x2_23, g_rn_23)
  | n_23 + 1, x2_23, g_rn_23 => match F_X10_runsByMarks_b23 x2_23 g_rn_23 with
    | Sum.inl (c_x2_23, c_g_rn_23) => F_X10_runsByMarks_l23 n_23 c_x2_23 c_g_rn_23
    | Sum.inr r_ => r_
def F_X10_runsByMarks_j149 (x2_93 : Int32) (g_wh_93 : Nat → Int32) (y0_149 : Int32) : (Int32 × (Nat → Int32)) ⊕ (Int32 × (Nat → Int32)) := Sum.inl ((x2_93 + (1 : Int32)), (upd g_wh_93 (Int32.toNatClampNeg x2_93) y0_149))
def F_X10_runsByMarks_j143 (x2_93 : Int32) (g_wh_93 : Nat → Int32) : (Int32 × (Nat → Int32)) ⊕ (Int32 × (Nat → Int32)) := F_X10_runsByMarks_j149 x2_93 g_wh_93 (g_wh_93 (Int32.toNatClampNeg x2_93))
def F_X10_runsByMarks_b93 (mm : Nat → Int32) (ma : Nat → Int32) (g2 : Nat → Int32) (x2_93 : Int32) (g_wh_93 : Nat → Int32) : (Int32 × (Nat → Int32)) ⊕ (Int32 × (Nat → Int32)) := (if (mm 25) ≤ x2_93 then Sum.inr (x2_93, g_wh_93) else (if (g_wh_93 (Int32.toNatClampNeg x2_93)) = (-4 : Int32) then (if (g2 2) < (ma (Int32.toNatClampNeg ((2 : Int32) * x2_93))) then F_X10_runsByMarks_j143 x2_93 g_wh_93 else F_X10_runsByMarks_j149 x2_93 g_wh_93 (g2 5)) else F_X10_runsByMarks_j143 x2_93 g_wh_93))
def F_X10_runsByMarks_l93 (mm : Nat → Int32) (ma : Nat → Int32) (g2 : Nat → Int32) : Nat → (Int32) → (Nat → Int32) → Int32 × (Nat → Int32)
  | 0, x2_93, g_wh_93 => (x2_93, g_wh_93)
  | n_93 + 1, x2_93, g_wh_93 => match F_X10_runsByMarks_b93 mm ma g2 x2_93 g_wh_93 with
    | Sum.inl (c_x2_93, c_g_wh_93) => F_X10_runsByMarks_l93 mm ma g2 n_93 c_x2_93 c_g_wh_93
    | Sum.inr r_ => r_
def F_X10_runsByMarks_x93 (g2 : Nat → Int32) (bx2_93 : Int32) (bg_wh_93 : Nat → Int32) : (Int32 × (Nat → Int32) × (Nat → Int32)) ⊕ (Int32 × (Nat → Int32) × (Nat → Int32)) := Sum.inl (bx2_93, g2, bg_wh_93)
def F_X10_runsByMarks_k88 (mm : Nat → Int32) (ma : Nat → Int32) (g_wh_52 : Nat → Int32) (g2 : Nat → Int32) : (Int32 × (Nat → Int32) × (Nat → Int32)) ⊕ (Int32 × (Nat → Int32) × (Nat → Int32)) := (match F_X10_runsByMarks_l93 mm ma g2 (4) (0 : Int32) g_wh_52 with | (bx2_93, bg_wh_93) => F_X10_runsByMarks_x93 g2 bx2_93 bg_wh_93)
def F_X10_runsByMarks_j82 (mm : Nat → Int32) (bt : Nat → Int32) (ma : Nat → Int32) (g_rn_52 : Nat → Int32) (g_wh_52 : Nat → Int32) : (Int32 × (Nat → Int32) × (Nat → Int32)) ⊕ (Int32 × (Nat → Int32) × (Nat → Int32)) := F_X10_runsByMarks_k88 mm ma g_wh_52 (F_X10_tenth mm bt g_rn_52 (-1 : Int32))
def F_X10_runsByMarks_b52 (mm : Nat → Int32) (bt : Nat → Int32) (ma : Nat → Int32) (x2_52 : Int32) (g_rn_52 : Nat → Int32) (g_wh_52 : Nat → Int32) : (Int32 × (Nat → Int32) × (Nat → Int32)) ⊕ (Int32 × (Nat → Int32) × (Nat → Int32)) := (if (600 : Int32) ≤ (g_rn_52 5) then Sum.inr (x2_52, g_rn_52, g_wh_52) else (if (0 : Int32) < (g_rn_52 0) then F_X10_runsByMarks_j82 mm bt ma g_rn_52 g_wh_52 else (if (g_rn_52 1) ≤ (0 : Int32) then Sum.inr (x2_52, g_rn_52, g_wh_52) else F_X10_runsByMarks_j82 mm bt ma g_rn_52 g_wh_52)))
def F_X10_runsByMarks_l52 (mm : Nat → Int32) (bt : Nat → Int32) (ma : Nat → Int32) : Nat → (Int32) → (Nat → Int32) → (Nat → Int32) → Int32 × (Nat → Int32) × (Nat → Int32)
  | 0, x2_52, g_rn_52, g_wh_52 => (x2_52, g_rn_52, g_wh_52)
  | n_52 + 1, x2_52, g_rn_52, g_wh_52 => match F_X10_runsByMarks_b52 mm bt ma x2_52 g_rn_52 g_wh_52 with
    | Sum.inl (c_x2_52, c_g_rn_52, c_g_wh_52) => F_X10_runsByMarks_l52 mm bt ma n_52 c_x2_52 c_g_rn_52 c_g_wh_52
    | Sum.inr r_ => r_
def F_X10_runsByMarks_x52 (bg_rn_52 : Nat → Int32) (bg_wh_52 : Nat → Int32) : (Nat → Int32) × (Nat → Int32) := (bg_rn_52, bg_wh_52)
def F_X10_runsByMarks_k51 (mm : Nat → Int32) (bt : Nat → Int32) (ma : Nat → Int32) (bg_wh_2 : Nat → Int32) (bx2_23 : Int32) (bg_rn_23 : Nat → Int32) (v1 : Int32) : (Nat → Int32) × (Nat → Int32) := (match F_X10_runsByMarks_l52 mm bt ma (600) bx2_23 (upd bg_rn_23 0 v1) bg_wh_2 with | (bx2_52, bg_rn_52, bg_wh_52) => F_X10_runsByMarks_x52 bg_rn_52 bg_wh_52)
def F_X10_runsByMarks_x23 (mm : Nat → Int32) (bt : Nat → Int32) (ma : Nat → Int32) (n : Int32) (bg_wh_2 : Nat → Int32) (bx2_23 : Int32) (bg_rn_23 : Nat → Int32) : (Nat → Int32) × (Nat → Int32) := F_X10_runsByMarks_k51 mm bt ma bg_wh_2 bx2_23 bg_rn_23 ((100 : Int32) * n)
def F_X10_runsByMarks_x2 (mm : Nat → Int32) (bt : Nat → Int32) (rn : Nat → Int32) (ma : Nat → Int32) (n : Int32) (bg_wh_2 : Nat → Int32) : (Nat → Int32) × (Nat → Int32) := (match F_X10_runsByMarks_l23 (6) (0 : Int32) rn with | (bx2_23, bg_rn_23) => F_X10_runsByMarks_x23 mm bt ma n bg_wh_2 bx2_23 bg_rn_23)
def F_X10_runsByMarks (mm : Nat → Int32) (bt : Nat → Int32) (rn : Nat → Int32) (ma : Nat → Int32) (wh : Nat → Int32) (n : Int32) : (Nat → Int32) × (Nat → Int32) := (match F_X10_runsByMarks_l2 (4) (0 : Int32) wh with | (bx2_2, bg_wh_2) => F_X10_runsByMarks_x2 mm bt rn ma n bg_wh_2)
theorem iX10_runsByMarks_X10 : ∀ w ∈ wsX100, w ∈ wsX10_runsByMarks := fun _ h => List.mem_cons_of_mem _ (List.mem_append_right _ h)
set_option maxHeartbeats 4000000 in
set_option maxRecDepth 100000 in
theorem c_X10_runsByMarks (l : Launch) (E : wV) (h_mm : Nat) (a_mm : Nat → Nat) (mm : Nat → Int32) (bt : Nat → Int32) (rn : Nat → Int32) (ma : Nat → Int32) (wh : Nat → Int32) (n : Int32) (hB : btOK bt) (hQ : mmOK mm) (hMk : 0 ≤ (mm 25).toInt ∧ (mm 25).toInt ≤ 4) : MetV l yX10_runsByMarks wsX10_runsByMarks ({ frames := 3, cells := 0, slots := 0, locals := 69 } : Room) E ([.ref h_mm, .int n] : List Value) [xModel h_mm a_mm mm, xI E (a_mm 5) 60 bt, xI E (a_mm 14) 6 rn, xI E (a_mm 23) 8 ma, xI E (a_mm 24) 4 wh] (fun (u : (Nat → Int32) × (Nat → Int32)) => F_X10_runsByMarks mm bt rn ma wh n = u) (fun (u : (Nat → Int32) × (Nat → Int32)) => [xModel h_mm a_mm mm, xI E (a_mm 5) 60 bt, xI E (a_mm 14) 6 u.1, xI E (a_mm 23) 8 ma, xI E (a_mm 24) 4 u.2]) := by
  refine MetV.of (cc := cX10_runsByMarks) (maxL := 3) (own := RX10) (by decide) rfl rfl (Nat.le_of_ble_eq_true rfl) ?_
  intro p e s m below meth c A Q ls cx hP hD hS hl hq
  obtain ⟨hx, hb, hml, hown, hts, hE, hA⟩ := id cx
  have hl : lv_has ls 3 [(0, .ref h_mm), (1, .int n)] := hl
  have hP : va_P E.1 vwCl [xModel h_mm a_mm mm, xI E (a_mm 5) 60 bt, xI E (a_mm 14) 6 rn, xI E (a_mm 23) 8 ma, xI E (a_mm 24) 4 wh] s.heap := hP
  obtain ⟨ρ, hρ0⟩ : ∃ ρ, F_X10_runsByMarks mm bt rn ma wh n = ρ := ⟨_, rfl⟩
  have hρ := hρ0.symm
  unfold F_X10_runsByMarks at hρ
  refine lv_iconst (v := (0 : Int32)) hx hb dX10_runsByMarks_0 (by decide) ?_
  refine lv_istore_n (lv' := [(2, .int (0 : Int32)), (0, .ref h_mm), (1, .int n)]) hx hb dX10_runsByMarks_1 rfl hl (by decide) rfl (fun ls hl => ?_)
  have hL2 : ∀ (n_2 : Nat) (x2_2 : Int32) (g_wh_2 : Nat → Int32) (H : Heap) (locs : List Loc) (ls : Array Slot), (((4 : Int32) : Int32).toInt ≤ (x2_2).toInt + (n_2 : Nat)) ∧ (0 ≤ (x2_2).toInt) → va_P E.1 vwCl [xModel h_mm a_mm mm, xI E (a_mm 5) 60 bt, xI E (a_mm 14) 6 rn, xI E (a_mm 23) 8 ma, xI E (a_mm 24) 4 g_wh_2] H → va_D A [xModel h_mm a_mm mm, xI E (a_mm 5) 60 bt, xI E (a_mm 14) 6 rn, xI E (a_mm 23) 8 ma, xI E (a_mm 24) 4 g_wh_2] → va_S A s.heap H locs → lv_has ls 3 [(2, .int x2_2), (0, .ref h_mm), (1, .int n)] → (∀ (ox2_2 : Int32) (og_wh_2 : Nat → Int32) (H : Heap) (locs : List Loc) (ls : Array Slot), F_X10_runsByMarks_l2 n_2 x2_2 g_wh_2 = (ox2_2, og_wh_2) → va_P E.1 vwCl [xModel h_mm a_mm mm, xI E (a_mm 5) 60 bt, xI E (a_mm 14) 6 rn, xI E (a_mm 23) 8 ma, xI E (a_mm 24) 4 og_wh_2] H → va_D A [xModel h_mm a_mm mm, xI E (a_mm 5) 60 bt, xI E (a_mm 14) 6 rn, xI E (a_mm 23) 8 ma, xI E (a_mm 24) 4 og_wh_2] → va_S A s.heap H locs → lv_has ls 3 [(2, .int ox2_2), (0, .ref h_mm), (1, .int n)] → W p l e ({ frames := 3, cells := 0, slots := 0, locals := 69 } : Room) s m ([.ref h_mm, .int n] : List Value).toArray below meth c H locs 0 0 Q (F0 m 21 ls [])) → W p l e ({ frames := 3, cells := 0, slots := 0, locals := 69 } : Room) s m ([.ref h_mm, .int n] : List Value).toArray below meth c H locs 0 0 Q (F0 m 2 ls []) := by
    intro n_2
    induction n_2 with
    | zero =>
      intro x2_2 g_wh_2 H locs ls hM hP hD hS hl hK
      have hM2 := hM
      obtain ⟨σ2, hσ02⟩ : ∃ σ, F_X10_runsByMarks_l2 0 x2_2 g_wh_2 = σ := ⟨_, rfl⟩
      have hσ2 := hσ02.symm
      rw [F_X10_runsByMarks_l2] at hσ2
      refine lv_iload_n hx hb dX10_runsByMarks_2 rfl (lv_at hl 0 rfl) ?_
      refine lv_iconst (v := (4 : Int32)) hx hb dX10_runsByMarks_3 (by decide) ?_
      refine lv_icmp_ge (tgt := 21) hx hb dX10_runsByMarks_4 (by decide) (fun c4 => ?_) (fun c4 => ?_)
      · exact hK x2_2 g_wh_2 _ _ _ (hσ02.trans hσ2) hP hD hS (lv_sub hl [0, 1, 2] rfl)
      · exact (cnt_lt0 c4 hM.1).elim
    | succ n_2 ih =>
      intro x2_2 g_wh_2 H locs ls hM hP hD hS hl hK
      have hM2 := hM
      obtain ⟨σ2, hσ02⟩ : ∃ σ, F_X10_runsByMarks_l2 (n_2 + 1) x2_2 g_wh_2 = σ := ⟨_, rfl⟩
      have hσ2 := hσ02.symm
      rw [F_X10_runsByMarks_l2] at hσ2
      obtain ⟨τ2, hτ02⟩ : ∃ τ, F_X10_runsByMarks_b2 x2_2 g_wh_2 = τ := ⟨_, rfl⟩
      rw [hτ02] at hσ2
      have hτ2 := hτ02.symm
      unfold F_X10_runsByMarks_b2 at hτ2
      refine lv_iload_n hx hb dX10_runsByMarks_2 rfl (lv_at hl 0 rfl) ?_
      refine lv_iconst (v := (4 : Int32)) hx hb dX10_runsByMarks_3 (by decide) ?_
      refine lv_icmp_ge (tgt := 21) hx hb dX10_runsByMarks_4 (by decide) (fun c4 => ?_) (fun c4 => ?_)
      · rw [if_pos c4] at hτ2
        have hσ2 : σ2 = (x2_2, g_wh_2) := by subst hτ2; exact hσ2
        exact hK x2_2 g_wh_2 _ _ _ (hσ02.trans hσ2) hP hD hS (lv_sub hl [0, 1, 2] rfl)
      · rw [if_neg c4] at hτ2
        refine lv_aload_n hx hb dX10_runsByMarks_7 rfl (lv_at hl 1 rfl) ?_
        refine va_get (D := E.1) (ci := 10) (v := .ref (a_mm 24)) (C := RX10) (T := TX10) (N := 27) hx hb hts iX10_runsByMarks_X10 hown hE.1 hP 0 rfl rfl 24 (by decide) (hts (.fieldLink RX10 31 "BandBoatModel" "whens" "[I") (List.mem_of_getElem? (i := 1) rfl)) (fun _ h9 => h9) rfl dX10_runsByMarks_8 ?_
        refine lv_iload_n hx hb dX10_runsByMarks_11 rfl (lv_at hl 0 rfl) ?_
        refine lv_bipush (v := (-4 : Int32)) hx hb dX10_runsByMarks_12 (by decide) ?_
        refine ar_ist (k := (Int32.toNatClampNeg x2_2)) (ws' := [xModel h_mm a_mm mm, xI E (a_mm 5) 60 bt, xI E (a_mm 14) 6 rn, xI E (a_mm 23) 8 ma, xI E (a_mm 24) 4 (upd g_wh_2 (Int32.toNatClampNeg x2_2) (-4 : Int32))]) hx hb hE hP hD hS 4 rfl (inb_c hM.2 c4 rfl) rfl rfl dX10_runsByMarks_14 (fun H locs hP hD hS => ?_)
        refine lv_iinc (v := (x2_2 + (1 : Int32))) (lv' := [(2, .int (x2_2 + (1 : Int32))), (0, .ref h_mm), (1, .int n)]) hx hb dX10_runsByMarks_15 hl (k := 0) rfl rfl (by decide) rfl (fun ls hl => ?_)
        refine lv_goto (tgt := 2) hx hb dX10_runsByMarks_18 (by decide) ?_
        have hσ2 : σ2 = F_X10_runsByMarks_l2  n_2 (x2_2 + (1 : Int32)) (upd g_wh_2 (Int32.toNatClampNeg x2_2) (-4 : Int32)) := by subst hτ2; exact hσ2
        exact ih (x2_2 + (1 : Int32)) (upd g_wh_2 (Int32.toNatClampNeg x2_2) (-4 : Int32)) _ _ _ ⟨cnt_lt c4 hM.1, cnt_lt_pos c4 hM.2⟩ hP hD hS (lv_sub hl [0, 1, 2] rfl) (fun ox2_2 og_wh_2 H locs ls he => hK ox2_2 og_wh_2 H locs ls (hσ02.trans (hσ2.trans he)))
  refine hL2 (4) (0 : Int32) wh _ _ _ (by decide) hP hD hS (lv_sub hl [0, 1, 2] rfl) ?_
  intro bx2_2 bg_wh_2 H locs ls he hP hD hS hl
  rw [he] at hρ
  have hρ : ρ = F_X10_runsByMarks_x2 mm bt rn ma n bg_wh_2 := hρ
  unfold F_X10_runsByMarks_x2 at hρ
  refine lv_iconst (v := (0 : Int32)) hx hb dX10_runsByMarks_21 (by decide) ?_
  refine lv_istore_n (lv' := [(2, .int (0 : Int32)), (0, .ref h_mm), (1, .int n)]) hx hb dX10_runsByMarks_22 rfl hl (by decide) rfl (fun ls hl => ?_)
  have hL23 : ∀ (n_23 : Nat) (x2_23 : Int32) (g_rn_23 : Nat → Int32) (H : Heap) (locs : List Loc) (ls : Array Slot), (((6 : Int32) : Int32).toInt ≤ (x2_23).toInt + (n_23 : Nat)) ∧ (0 ≤ (x2_23).toInt) ∧ (zr (g_rn_23) (x2_23)) → va_P E.1 vwCl [xModel h_mm a_mm mm, xI E (a_mm 5) 60 bt, xI E (a_mm 14) 6 g_rn_23, xI E (a_mm 23) 8 ma, xI E (a_mm 24) 4 bg_wh_2] H → va_D A [xModel h_mm a_mm mm, xI E (a_mm 5) 60 bt, xI E (a_mm 14) 6 g_rn_23, xI E (a_mm 23) 8 ma, xI E (a_mm 24) 4 bg_wh_2] → va_S A s.heap H locs → lv_has ls 3 [(2, .int x2_23), (0, .ref h_mm), (1, .int n)] → (∀ (ox2_23 : Int32) (og_rn_23 : Nat → Int32) (H : Heap) (locs : List Loc) (ls : Array Slot), F_X10_runsByMarks_l23 n_23 x2_23 g_rn_23 = (ox2_23, og_rn_23) → (∀ j : Nat, j < 6 → og_rn_23 j = 0) → va_P E.1 vwCl [xModel h_mm a_mm mm, xI E (a_mm 5) 60 bt, xI E (a_mm 14) 6 og_rn_23, xI E (a_mm 23) 8 ma, xI E (a_mm 24) 4 bg_wh_2] H → va_D A [xModel h_mm a_mm mm, xI E (a_mm 5) 60 bt, xI E (a_mm 14) 6 og_rn_23, xI E (a_mm 23) 8 ma, xI E (a_mm 24) 4 bg_wh_2] → va_S A s.heap H locs → lv_has ls 3 [(2, .int ox2_23), (0, .ref h_mm), (1, .int n)] → W p l e ({ frames := 3, cells := 0, slots := 0, locals := 69 } : Room) s m ([.ref h_mm, .int n] : List Value).toArray below meth c H locs 0 0 Q (F0 m 42 ls [])) → W p l e ({ frames := 3, cells := 0, slots := 0, locals := 69 } : Room) s m ([.ref h_mm, .int n] : List Value).toArray below meth c H locs 0 0 Q (F0 m 23 ls []) := by
    intro n_23
    induction n_23 with
    | zero =>
      intro x2_23 g_rn_23 H locs ls hM hP hD hS hl hK
      have hM23 := hM
      obtain ⟨σ23, hσ023⟩ : ∃ σ, F_X10_runsByMarks_l23 0 x2_23 g_rn_23 = σ := ⟨_, rfl⟩
      have hσ23 := hσ023.symm
      rw [F_X10_runsByMarks_l23] at hσ23
      refine lv_iload_n hx hb dX10_runsByMarks_23 rfl (lv_at hl 0 rfl) ?_
      refine lv_bipush (v := (6 : Int32)) hx hb dX10_runsByMarks_24 (by decide) ?_
      refine lv_icmp_ge (tgt := 42) hx hb dX10_runsByMarks_26 (by decide) (fun c26 => ?_) (fun c26 => ?_)
      · exact hK x2_23 g_rn_23 _ _ _ (hσ023.trans hσ23) (zr_end hM.2.2 c26) hP hD hS (lv_sub hl [0, 1, 2] rfl)
      · exact (cnt_lt0 c26 hM.1).elim
    | succ n_23 ih =>
      intro x2_23 g_rn_23 H locs ls hM hP hD hS hl hK
      have hM23 := hM
      obtain ⟨σ23, hσ023⟩ : ∃ σ, F_X10_runsByMarks_l23 (n_23 + 1) x2_23 g_rn_23 = σ := ⟨_, rfl⟩
      have hσ23 := hσ023.symm
      rw [F_X10_runsByMarks_l23] at hσ23
      obtain ⟨τ23, hτ023⟩ : ∃ τ, F_X10_runsByMarks_b23 x2_23 g_rn_23 = τ := ⟨_, rfl⟩
      rw [hτ023] at hσ23
      have hτ23 := hτ023.symm
      unfold F_X10_runsByMarks_b23 at hτ23
      refine lv_iload_n hx hb dX10_runsByMarks_23 rfl (lv_at hl 0 rfl) ?_
      refine lv_bipush (v := (6 : Int32)) hx hb dX10_runsByMarks_24 (by decide) ?_
      refine lv_icmp_ge (tgt := 42) hx hb dX10_runsByMarks_26 (by decide) (fun c26 => ?_) (fun c26 => ?_)
      · rw [if_pos c26] at hτ23
        have hσ23 : σ23 = (x2_23, g_rn_23) := by subst hτ23; exact hσ23
        exact hK x2_23 g_rn_23 _ _ _ (hσ023.trans hσ23) (zr_end hM.2.2 c26) hP hD hS (lv_sub hl [0, 1, 2] rfl)
      · rw [if_neg c26] at hτ23
        refine lv_aload_n hx hb dX10_runsByMarks_29 rfl (lv_at hl 1 rfl) ?_
        refine va_get (D := E.1) (ci := 10) (v := .ref (a_mm 14)) (C := RX10) (T := TX10) (N := 27) hx hb hts iX10_runsByMarks_X10 hown hE.1 hP 0 rfl rfl 14 (by decide) (hts (.fieldLink RX10 19 "BandBoatModel" "run" "[I") (List.mem_of_getElem? (i := 2) rfl)) (fun _ h9 => h9) rfl dX10_runsByMarks_30 ?_
        refine lv_iload_n hx hb dX10_runsByMarks_33 rfl (lv_at hl 0 rfl) ?_
        refine lv_iconst (v := (0 : Int32)) hx hb dX10_runsByMarks_34 (by decide) ?_
        refine ar_ist (k := (Int32.toNatClampNeg x2_23)) (ws' := [xModel h_mm a_mm mm, xI E (a_mm 5) 60 bt, xI E (a_mm 14) 6 (upd g_rn_23 (Int32.toNatClampNeg x2_23) (0 : Int32)), xI E (a_mm 23) 8 ma, xI E (a_mm 24) 4 bg_wh_2]) hx hb hE hP hD hS 2 rfl (inb_c hM.2.1 c26 rfl) rfl rfl dX10_runsByMarks_35 (fun H locs hP hD hS => ?_)
        refine lv_iinc (v := (x2_23 + (1 : Int32))) (lv' := [(2, .int (x2_23 + (1 : Int32))), (0, .ref h_mm), (1, .int n)]) hx hb dX10_runsByMarks_36 hl (k := 0) rfl rfl (by decide) rfl (fun ls hl => ?_)
        refine lv_goto (tgt := 23) hx hb dX10_runsByMarks_39 (by decide) ?_
        have hσ23 : σ23 = F_X10_runsByMarks_l23  n_23 (x2_23 + (1 : Int32)) (upd g_rn_23 (Int32.toNatClampNeg x2_23) (0 : Int32)) := by subst hτ23; exact hσ23
        exact ih (x2_23 + (1 : Int32)) (upd g_rn_23 (Int32.toNatClampNeg x2_23) (0 : Int32)) _ _ _ ⟨cnt_lt c26 hM.1, cnt_lt_pos c26 hM.2.1, zr_step c26 hM.2.1 hM.2.2⟩ hP hD hS (lv_sub hl [0, 1, 2] rfl) (fun ox2_23 og_rn_23 H locs ls he => hK ox2_23 og_rn_23 H locs ls (hσ023.trans (hσ23.trans he)))
  refine hL23 (6) (0 : Int32) rn _ _ _ (⟨by decide, by decide, zr_0 _⟩) hP hD hS (lv_sub hl [0, 1, 2] rfl) ?_
  intro bx2_23 bg_rn_23 H locs ls he hI hP hD hS hl
  rw [he] at hρ
  have hρ : ρ = F_X10_runsByMarks_x23 mm bt ma n bg_wh_2 bx2_23 bg_rn_23 := hρ
  unfold F_X10_runsByMarks_x23 at hρ
  refine lv_aload_n hx hb dX10_runsByMarks_42 rfl (lv_at hl 1 rfl) ?_
  refine va_get (D := E.1) (ci := 10) (v := .ref (a_mm 14)) (C := RX10) (T := TX10) (N := 27) hx hb hts iX10_runsByMarks_X10 hown hE.1 hP 0 rfl rfl 14 (by decide) (hts (.fieldLink RX10 19 "BandBoatModel" "run" "[I") (List.mem_of_getElem? (i := 2) rfl)) (fun _ h9 => h9) rfl dX10_runsByMarks_43 ?_
  refine lv_iconst (v := (0 : Int32)) hx hb dX10_runsByMarks_46 (by decide) ?_
  refine lv_bipush (v := (100 : Int32)) hx hb dX10_runsByMarks_47 (by decide) ?_
  refine lv_iload_n hx hb dX10_runsByMarks_49 rfl (lv_at hl 2 rfl) ?_
  refine lv_imul hx hb dX10_runsByMarks_50 ?_
  refine lv_topi (fun v1 ev1 => ?_)
  have hρ : ρ = F_X10_runsByMarks_k51 mm bt ma bg_wh_2 bx2_23 bg_rn_23 v1 := by rw [ev1]; exact hρ
  unfold F_X10_runsByMarks_k51 at hρ
  refine ar_ist (k := 0) (ws' := [xModel h_mm a_mm mm, xI E (a_mm 5) 60 bt, xI E (a_mm 14) 6 (upd bg_rn_23 0 v1), xI E (a_mm 23) 8 ma, xI E (a_mm 24) 4 bg_wh_2]) hx hb hE hP hD hS 2 rfl (by unfold vp_in; decide) rfl rfl dX10_runsByMarks_51 (fun H locs hP hD hS => ?_)
  have hL52 : ∀ (n_52 : Nat) (x2_52 : Int32) (g_rn_52 : Nat → Int32) (g_wh_52 : Nat → Int32) (H : Heap) (locs : List Loc) (ls : Array Slot), (((600 : Int32) : Int32).toInt ≤ ((g_rn_52 5)).toInt + (n_52 : Nat)) → va_P E.1 vwCl [xModel h_mm a_mm mm, xI E (a_mm 5) 60 bt, xI E (a_mm 14) 6 g_rn_52, xI E (a_mm 23) 8 ma, xI E (a_mm 24) 4 g_wh_52] H → va_D A [xModel h_mm a_mm mm, xI E (a_mm 5) 60 bt, xI E (a_mm 14) 6 g_rn_52, xI E (a_mm 23) 8 ma, xI E (a_mm 24) 4 g_wh_52] → va_S A s.heap H locs → lv_has ls 3 [(2, .int x2_52), (0, .ref h_mm), (1, .int n)] → (∀ (ox2_52 : Int32) (og_rn_52 : Nat → Int32) (og_wh_52 : Nat → Int32) (H : Heap) (locs : List Loc) (ls : Array Slot), F_X10_runsByMarks_l52 mm bt ma n_52 x2_52 g_rn_52 g_wh_52 = (ox2_52, og_rn_52, og_wh_52) → va_P E.1 vwCl [xModel h_mm a_mm mm, xI E (a_mm 5) 60 bt, xI E (a_mm 14) 6 og_rn_52, xI E (a_mm 23) 8 ma, xI E (a_mm 24) 4 og_wh_52] H → va_D A [xModel h_mm a_mm mm, xI E (a_mm 5) 60 bt, xI E (a_mm 14) 6 og_rn_52, xI E (a_mm 23) 8 ma, xI E (a_mm 24) 4 og_wh_52] → va_S A s.heap H locs → lv_has ls 3 [(2, .int ox2_52), (0, .ref h_mm), (1, .int n)] → W p l e ({ frames := 3, cells := 0, slots := 0, locals := 69 } : Room) s m ([.ref h_mm, .int n] : List Value).toArray below meth c H locs 0 0 Q (F0 m 159 ls [])) → W p l e ({ frames := 3, cells := 0, slots := 0, locals := 69 } : Room) s m ([.ref h_mm, .int n] : List Value).toArray below meth c H locs 0 0 Q (F0 m 52 ls []) := by
    intro n_52
    induction n_52 with
    | zero =>
      intro x2_52 g_rn_52 g_wh_52 H locs ls hM hP hD hS hl hK
      have hM52 := hM
      obtain ⟨σ52, hσ052⟩ : ∃ σ, F_X10_runsByMarks_l52 mm bt ma 0 x2_52 g_rn_52 g_wh_52 = σ := ⟨_, rfl⟩
      have hσ52 := hσ052.symm
      rw [F_X10_runsByMarks_l52] at hσ52
      refine lv_aload_n hx hb dX10_runsByMarks_52 rfl (lv_at hl 1 rfl) ?_
      refine va_get (D := E.1) (ci := 10) (v := .ref (a_mm 14)) (C := RX10) (T := TX10) (N := 27) hx hb hts iX10_runsByMarks_X10 hown hE.1 hP 0 rfl rfl 14 (by decide) (hts (.fieldLink RX10 19 "BandBoatModel" "run" "[I") (List.mem_of_getElem? (i := 2) rfl)) (fun _ h9 => h9) rfl dX10_runsByMarks_53 ?_
      refine lv_iconst (v := (5 : Int32)) hx hb dX10_runsByMarks_56 (by decide) ?_
      refine ar_ild (k := 5) (v := (g_rn_52 5)) hx hb hE hP 2 rfl (by unfold vp_in; decide) rfl rfl dX10_runsByMarks_57 ?_
      refine lv_sipush (v := (600 : Int32)) hx hb dX10_runsByMarks_58 (by decide) ?_
      refine lv_icmp_ge (tgt := 159) hx hb dX10_runsByMarks_61 (by decide) (fun c61 => ?_) (fun c61 => ?_)
      · exact hK x2_52 g_rn_52 g_wh_52 _ _ _ (hσ052.trans hσ52) hP hD hS (lv_sub hl [0, 1, 2] rfl)
      · exact (cnt_lt0 c61 hM).elim
    | succ n_52 ih =>
      intro x2_52 g_rn_52 g_wh_52 H locs ls hM hP hD hS hl hK
      have hM52 := hM
      obtain ⟨σ52, hσ052⟩ : ∃ σ, F_X10_runsByMarks_l52 mm bt ma (n_52 + 1) x2_52 g_rn_52 g_wh_52 = σ := ⟨_, rfl⟩
      have hσ52 := hσ052.symm
      rw [F_X10_runsByMarks_l52] at hσ52
      obtain ⟨τ52, hτ052⟩ : ∃ τ, F_X10_runsByMarks_b52 mm bt ma x2_52 g_rn_52 g_wh_52 = τ := ⟨_, rfl⟩
      rw [hτ052] at hσ52
      have hτ52 := hτ052.symm
      unfold F_X10_runsByMarks_b52 at hτ52
      refine lv_aload_n hx hb dX10_runsByMarks_52 rfl (lv_at hl 1 rfl) ?_
      refine va_get (D := E.1) (ci := 10) (v := .ref (a_mm 14)) (C := RX10) (T := TX10) (N := 27) hx hb hts iX10_runsByMarks_X10 hown hE.1 hP 0 rfl rfl 14 (by decide) (hts (.fieldLink RX10 19 "BandBoatModel" "run" "[I") (List.mem_of_getElem? (i := 2) rfl)) (fun _ h9 => h9) rfl dX10_runsByMarks_53 ?_
      refine lv_iconst (v := (5 : Int32)) hx hb dX10_runsByMarks_56 (by decide) ?_
      refine ar_ild (k := 5) (v := (g_rn_52 5)) hx hb hE hP 2 rfl (by unfold vp_in; decide) rfl rfl dX10_runsByMarks_57 ?_
      refine lv_sipush (v := (600 : Int32)) hx hb dX10_runsByMarks_58 (by decide) ?_
      refine lv_icmp_ge (tgt := 159) hx hb dX10_runsByMarks_61 (by decide) (fun c61 => ?_) (fun c61 => ?_)
      · rw [if_pos c61] at hτ52
        have hσ52 : σ52 = (x2_52, g_rn_52, g_wh_52) := by subst hτ52; exact hσ52
        exact hK x2_52 g_rn_52 g_wh_52 _ _ _ (hσ052.trans hσ52) hP hD hS (lv_sub hl [0, 1, 2] rfl)
      · rw [if_neg c61] at hτ52
        refine lv_aload_n hx hb dX10_runsByMarks_64 rfl (lv_at hl 1 rfl) ?_
        refine va_get (D := E.1) (ci := 10) (v := .ref (a_mm 14)) (C := RX10) (T := TX10) (N := 27) hx hb hts iX10_runsByMarks_X10 hown hE.1 hP 0 rfl rfl 14 (by decide) (hts (.fieldLink RX10 19 "BandBoatModel" "run" "[I") (List.mem_of_getElem? (i := 2) rfl)) (fun _ h9 => h9) rfl dX10_runsByMarks_65 ?_
        refine lv_iconst (v := (0 : Int32)) hx hb dX10_runsByMarks_68 (by decide) ?_
        refine ar_ild (k := 0) (v := (g_rn_52 0)) hx hb hE hP 2 rfl (by unfold vp_in; decide) rfl rfl dX10_runsByMarks_69 ?_
        have hJ82 : ∀ (H : Heap) (locs : List Loc) (ls : Array Slot), τ52 = F_X10_runsByMarks_j82 mm bt ma g_rn_52 g_wh_52 → va_P E.1 vwCl [xModel h_mm a_mm mm, xI E (a_mm 5) 60 bt, xI E (a_mm 14) 6 g_rn_52, xI E (a_mm 23) 8 ma, xI E (a_mm 24) 4 g_wh_52] H → va_D A [xModel h_mm a_mm mm, xI E (a_mm 5) 60 bt, xI E (a_mm 14) 6 g_rn_52, xI E (a_mm 23) 8 ma, xI E (a_mm 24) 4 g_wh_52] → va_S A s.heap H locs → lv_has ls 3 [(2, .int x2_52), (0, .ref h_mm), (1, .int n)] → W p l e ({ frames := 3, cells := 0, slots := 0, locals := 69 } : Room) s m ([.ref h_mm, .int n] : List Value).toArray below meth c H locs 0 0 Q (F0 m 82 ls []) := by
          intro  H locs ls hτ52 hP hD hS hl
          unfold F_X10_runsByMarks_j82 at hτ52
          refine lv_aload_n hx hb dX10_runsByMarks_82 rfl (lv_at hl 1 rfl) ?_
          refine lv_aload_n hx hb dX10_runsByMarks_83 rfl (lv_at hl 1 rfl) ?_
          refine va_get (D := E.1) (ci := 10) (v := .ref (a_mm 14)) (C := RX10) (T := TX10) (N := 27) hx hb hts iX10_runsByMarks_X10 hown hE.1 hP 0 rfl rfl 14 (by decide) (hts (.fieldLink RX10 19 "BandBoatModel" "run" "[I") (List.mem_of_getElem? (i := 2) rfl)) (fun _ h9 => h9) rfl dX10_runsByMarks_84 ?_
          refine lv_iconst (v := (-1 : Int32)) hx hb dX10_runsByMarks_87 (by decide) ?_
          refine kV (wc := [xModel h_mm a_mm mm, xI E (a_mm 5) 60 bt, xI E (a_mm 14) 6 g_rn_52]) (wr := [xI E (a_mm 23) 8 ma, xI E (a_mm 24) 4 g_wh_52]) (wc' := (fun (u : (Nat → Int32)) => [xModel h_mm a_mm mm, xI E (a_mm 5) 60 bt, xI E (a_mm 14) 6 u])) (wn := (fun (u : (Nat → Int32)) => [xModel h_mm a_mm mm, xI E (a_mm 5) 60 bt, xI E (a_mm 14) 6 u, xI E (a_mm 23) 8 ma, xI E (a_mm 24) 4 g_wh_52])) (isC := [0, 1, 2]) (isR := [3, 4]) (is2 := [2, 3, 4, 0, 1]) cx hP hD hS ⟨rfl, rfl, by decide, by decide, by decide, by decide, fun _ => rfl⟩ (rV (As := [.ref (a_mm 14), .int (-1 : Int32)]) (rest := []) (C := RX10) (q0 := 0) (ci := 10) cx (c_X10_tenth l E h_mm (a_mm 14) a_mm mm bt g_rn_52 (-1 : Int32) (hB) (hQ) _) (cwV 2 hts gX10_runsByMarks_X10_tenth rfl rfl rfl (by decide +kernel) ⟨Nat.le_of_ble_eq_true rfl, Nat.le_of_ble_eq_true rfl⟩) rfl rfl rfl rfl hl.1 rfl (Nat.le_of_ble_eq_true rfl) dX10_runsByMarks_88 ⟨Nat.zero_le _, Nat.zero_le _⟩) (fun u H locs hw hP hD hS => ?_)
          obtain ⟨hw, hn88⟩ := hw
          obtain ⟨g2, rfl⟩ : ∃ z, z = u := ⟨_, rfl⟩
          have hn88 : (g2 5) = (g_rn_52 5) + (1 : Int32) := hn88
          have hP : va_P E.1 vwCl [xModel h_mm a_mm mm, xI E (a_mm 5) 60 bt, xI E (a_mm 14) 6 g2, xI E (a_mm 23) 8 ma, xI E (a_mm 24) 4 g_wh_52] H := hP
          have hD : va_D A [xModel h_mm a_mm mm, xI E (a_mm 5) 60 bt, xI E (a_mm 14) 6 g2, xI E (a_mm 23) 8 ma, xI E (a_mm 24) 4 g_wh_52] := hD
          have hw : F_X10_tenth mm bt g_rn_52 (-1 : Int32) = g2 := hw
          rw [hw] at hτ52
          have hτ52 : τ52 = F_X10_runsByMarks_k88 mm ma g_wh_52 g2 := hτ52
          unfold F_X10_runsByMarks_k88 at hτ52
          refine lv_iconst (v := (0 : Int32)) hx hb dX10_runsByMarks_91 (by decide) ?_
          refine lv_istore_n (lv' := [(2, .int (0 : Int32)), (0, .ref h_mm), (1, .int n)]) hx hb dX10_runsByMarks_92 rfl hl (by decide) rfl (fun ls hl => ?_)
          have hL93 : ∀ (n_93 : Nat) (x2_93 : Int32) (g_wh_93 : Nat → Int32) (H : Heap) (locs : List Loc) (ls : Array Slot), (((mm 25) : Int32).toInt ≤ (x2_93).toInt + (n_93 : Nat)) ∧ (0 ≤ (x2_93).toInt) → va_P E.1 vwCl [xModel h_mm a_mm mm, xI E (a_mm 5) 60 bt, xI E (a_mm 14) 6 g2, xI E (a_mm 23) 8 ma, xI E (a_mm 24) 4 g_wh_93] H → va_D A [xModel h_mm a_mm mm, xI E (a_mm 5) 60 bt, xI E (a_mm 14) 6 g2, xI E (a_mm 23) 8 ma, xI E (a_mm 24) 4 g_wh_93] → va_S A s.heap H locs → lv_has ls 3 [(2, .int x2_93), (0, .ref h_mm), (1, .int n)] → (∀ (ox2_93 : Int32) (og_wh_93 : Nat → Int32) (H : Heap) (locs : List Loc) (ls : Array Slot), F_X10_runsByMarks_l93 mm ma g2 n_93 x2_93 g_wh_93 = (ox2_93, og_wh_93) → va_P E.1 vwCl [xModel h_mm a_mm mm, xI E (a_mm 5) 60 bt, xI E (a_mm 14) 6 g2, xI E (a_mm 23) 8 ma, xI E (a_mm 24) 4 og_wh_93] H → va_D A [xModel h_mm a_mm mm, xI E (a_mm 5) 60 bt, xI E (a_mm 14) 6 g2, xI E (a_mm 23) 8 ma, xI E (a_mm 24) 4 og_wh_93] → va_S A s.heap H locs → lv_has ls 3 [(2, .int ox2_93), (0, .ref h_mm), (1, .int n)] → W p l e ({ frames := 3, cells := 0, slots := 0, locals := 69 } : Room) s m ([.ref h_mm, .int n] : List Value).toArray below meth c H locs 0 0 Q (F0 m 156 ls [])) → W p l e ({ frames := 3, cells := 0, slots := 0, locals := 69 } : Room) s m ([.ref h_mm, .int n] : List Value).toArray below meth c H locs 0 0 Q (F0 m 93 ls []) := by
            intro n_93
            induction n_93 with
            | zero =>
              intro x2_93 g_wh_93 H locs ls hM hP hD hS hl hK
              have hM93 := hM
              obtain ⟨σ93, hσ093⟩ : ∃ σ, F_X10_runsByMarks_l93 mm ma g2 0 x2_93 g_wh_93 = σ := ⟨_, rfl⟩
              have hσ93 := hσ093.symm
              rw [F_X10_runsByMarks_l93] at hσ93
              refine lv_iload_n hx hb dX10_runsByMarks_93 rfl (lv_at hl 0 rfl) ?_
              refine lv_aload_n hx hb dX10_runsByMarks_94 rfl (lv_at hl 1 rfl) ?_
              refine va_get (D := E.1) (ci := 10) (v := .int (mm 25)) (C := RX10) (T := TX10) (N := 27) hx hb hts iX10_runsByMarks_X10 hown hE.1 hP 0 rfl rfl 25 (by decide) (hts (.fieldLink RX10 83 "BandBoatModel" "marks" "I") (List.mem_of_getElem? (i := 3) rfl)) (fun _ h9 => h9) rfl dX10_runsByMarks_95 ?_
              refine lv_icmp_ge (tgt := 156) hx hb dX10_runsByMarks_98 (by decide) (fun c98 => ?_) (fun c98 => ?_)
              · exact hK x2_93 g_wh_93 _ _ _ (hσ093.trans hσ93) hP hD hS (lv_sub hl [0, 1, 2] rfl)
              · exact (cnt_lt0 c98 hM.1).elim
            | succ n_93 ih =>
              intro x2_93 g_wh_93 H locs ls hM hP hD hS hl hK
              have hM93 := hM
              obtain ⟨σ93, hσ093⟩ : ∃ σ, F_X10_runsByMarks_l93 mm ma g2 (n_93 + 1) x2_93 g_wh_93 = σ := ⟨_, rfl⟩
              have hσ93 := hσ093.symm
              rw [F_X10_runsByMarks_l93] at hσ93
              obtain ⟨τ93, hτ093⟩ : ∃ τ, F_X10_runsByMarks_b93 mm ma g2 x2_93 g_wh_93 = τ := ⟨_, rfl⟩
              rw [hτ093] at hσ93
              have hτ93 := hτ093.symm
              unfold F_X10_runsByMarks_b93 at hτ93
              refine lv_iload_n hx hb dX10_runsByMarks_93 rfl (lv_at hl 0 rfl) ?_
              refine lv_aload_n hx hb dX10_runsByMarks_94 rfl (lv_at hl 1 rfl) ?_
              refine va_get (D := E.1) (ci := 10) (v := .int (mm 25)) (C := RX10) (T := TX10) (N := 27) hx hb hts iX10_runsByMarks_X10 hown hE.1 hP 0 rfl rfl 25 (by decide) (hts (.fieldLink RX10 83 "BandBoatModel" "marks" "I") (List.mem_of_getElem? (i := 3) rfl)) (fun _ h9 => h9) rfl dX10_runsByMarks_95 ?_
              refine lv_icmp_ge (tgt := 156) hx hb dX10_runsByMarks_98 (by decide) (fun c98 => ?_) (fun c98 => ?_)
              · rw [if_pos c98] at hτ93
                have hσ93 : σ93 = (x2_93, g_wh_93) := by subst hτ93; exact hσ93
                exact hK x2_93 g_wh_93 _ _ _ (hσ093.trans hσ93) hP hD hS (lv_sub hl [0, 1, 2] rfl)
              · rw [if_neg c98] at hτ93
                refine lv_aload_n hx hb dX10_runsByMarks_101 rfl (lv_at hl 1 rfl) ?_
                refine va_get (D := E.1) (ci := 10) (v := .ref (a_mm 24)) (C := RX10) (T := TX10) (N := 27) hx hb hts iX10_runsByMarks_X10 hown hE.1 hP 0 rfl rfl 24 (by decide) (hts (.fieldLink RX10 31 "BandBoatModel" "whens" "[I") (List.mem_of_getElem? (i := 1) rfl)) (fun _ h9 => h9) rfl dX10_runsByMarks_102 ?_
                refine lv_iload_n hx hb dX10_runsByMarks_105 rfl (lv_at hl 0 rfl) ?_
                refine lv_aload_n hx hb dX10_runsByMarks_106 rfl (lv_at hl 1 rfl) ?_
                refine va_get (D := E.1) (ci := 10) (v := .ref (a_mm 24)) (C := RX10) (T := TX10) (N := 27) hx hb hts iX10_runsByMarks_X10 hown hE.1 hP 0 rfl rfl 24 (by decide) (hts (.fieldLink RX10 31 "BandBoatModel" "whens" "[I") (List.mem_of_getElem? (i := 1) rfl)) (fun _ h9 => h9) rfl dX10_runsByMarks_107 ?_
                refine lv_iload_n hx hb dX10_runsByMarks_110 rfl (lv_at hl 0 rfl) ?_
                refine ar_ild (k := (Int32.toNatClampNeg x2_93)) (v := (g_wh_93 (Int32.toNatClampNeg x2_93))) hx hb hE hP 4 rfl (inb_i hM93.2 (lt_cap hM93.2 c98 hMk.2).2) rfl rfl dX10_runsByMarks_111 ?_
                refine lv_bipush (v := (-4 : Int32)) hx hb dX10_runsByMarks_112 (by decide) ?_
                have hJ149 : ∀ (y0_149 : Int32) (H : Heap) (locs : List Loc) (ls : Array Slot), τ93 = F_X10_runsByMarks_j149 x2_93 g_wh_93 y0_149 → va_P E.1 vwCl [xModel h_mm a_mm mm, xI E (a_mm 5) 60 bt, xI E (a_mm 14) 6 g2, xI E (a_mm 23) 8 ma, xI E (a_mm 24) 4 g_wh_93] H → va_D A [xModel h_mm a_mm mm, xI E (a_mm 5) 60 bt, xI E (a_mm 14) 6 g2, xI E (a_mm 23) 8 ma, xI E (a_mm 24) 4 g_wh_93] → va_S A s.heap H locs → lv_has ls 3 [(2, .int x2_93), (0, .ref h_mm), (1, .int n)] → W p l e ({ frames := 3, cells := 0, slots := 0, locals := 69 } : Room) s m ([.ref h_mm, .int n] : List Value).toArray below meth c H locs 0 0 Q (F0 m 149 ls [.int y0_149, .int x2_93, .ref (a_mm 24)]) := by
                  intro y0_149 H locs ls hτ93 hP hD hS hl
                  unfold F_X10_runsByMarks_j149 at hτ93
                  refine ar_ist (k := (Int32.toNatClampNeg x2_93)) (ws' := [xModel h_mm a_mm mm, xI E (a_mm 5) 60 bt, xI E (a_mm 14) 6 g2, xI E (a_mm 23) 8 ma, xI E (a_mm 24) 4 (upd g_wh_93 (Int32.toNatClampNeg x2_93) y0_149)]) hx hb hE hP hD hS 4 rfl (inb_i hM93.2 (lt_cap hM93.2 c98 hMk.2).2) rfl rfl dX10_runsByMarks_149 (fun H locs hP hD hS => ?_)
                  refine lv_iinc (v := (x2_93 + (1 : Int32))) (lv' := [(2, .int (x2_93 + (1 : Int32))), (0, .ref h_mm), (1, .int n)]) hx hb dX10_runsByMarks_150 hl (k := 0) rfl rfl (by decide) rfl (fun ls hl => ?_)
                  refine lv_goto (tgt := 93) hx hb dX10_runsByMarks_153 (by decide) ?_
                  have hσ93 : σ93 = F_X10_runsByMarks_l93 mm ma g2 n_93 (x2_93 + (1 : Int32)) (upd g_wh_93 (Int32.toNatClampNeg x2_93) y0_149) := by subst hτ93; exact hσ93
                  exact ih (x2_93 + (1 : Int32)) (upd g_wh_93 (Int32.toNatClampNeg x2_93) y0_149) _ _ _ ⟨cnt_lt c98 hM.1, cnt_lt_pos c98 hM93.2⟩ hP hD hS (lv_sub hl [0, 1, 2] rfl) (fun ox2_93 og_wh_93 H locs ls he => hK ox2_93 og_wh_93 H locs ls (hσ093.trans (hσ93.trans he)))
                have hJ143 : ∀ (H : Heap) (locs : List Loc) (ls : Array Slot), τ93 = F_X10_runsByMarks_j143 x2_93 g_wh_93 → va_P E.1 vwCl [xModel h_mm a_mm mm, xI E (a_mm 5) 60 bt, xI E (a_mm 14) 6 g2, xI E (a_mm 23) 8 ma, xI E (a_mm 24) 4 g_wh_93] H → va_D A [xModel h_mm a_mm mm, xI E (a_mm 5) 60 bt, xI E (a_mm 14) 6 g2, xI E (a_mm 23) 8 ma, xI E (a_mm 24) 4 g_wh_93] → va_S A s.heap H locs → lv_has ls 3 [(2, .int x2_93), (0, .ref h_mm), (1, .int n)] → W p l e ({ frames := 3, cells := 0, slots := 0, locals := 69 } : Room) s m ([.ref h_mm, .int n] : List Value).toArray below meth c H locs 0 0 Q (F0 m 143 ls [.int x2_93, .ref (a_mm 24)]) := by
                  intro  H locs ls hτ93 hP hD hS hl
                  unfold F_X10_runsByMarks_j143 at hτ93
                  refine lv_aload_n hx hb dX10_runsByMarks_143 rfl (lv_at hl 1 rfl) ?_
                  refine va_get (D := E.1) (ci := 10) (v := .ref (a_mm 24)) (C := RX10) (T := TX10) (N := 27) hx hb hts iX10_runsByMarks_X10 hown hE.1 hP 0 rfl rfl 24 (by decide) (hts (.fieldLink RX10 31 "BandBoatModel" "whens" "[I") (List.mem_of_getElem? (i := 1) rfl)) (fun _ h9 => h9) rfl dX10_runsByMarks_144 ?_
                  refine lv_iload_n hx hb dX10_runsByMarks_147 rfl (lv_at hl 0 rfl) ?_
                  refine ar_ild (k := (Int32.toNatClampNeg x2_93)) (v := (g_wh_93 (Int32.toNatClampNeg x2_93))) hx hb hE hP 4 rfl (inb_i hM93.2 (lt_cap hM93.2 c98 hMk.2).2) rfl rfl dX10_runsByMarks_148 ?_
                  exact hJ149 (g_wh_93 (Int32.toNatClampNeg x2_93)) _ _ _ hτ93 hP hD hS (lv_sub hl [0, 1, 2] rfl)
                refine lv_icmp_ne (tgt := 143) hx hb dX10_runsByMarks_114 (by decide) (fun c114 => ?_) (fun c114 => ?_)
                · rw [if_neg c114] at hτ93
                  exact hJ143 _ _ _ hτ93 hP hD hS (lv_sub hl [0, 1, 2] rfl)
                · rw [if_pos c114] at hτ93
                  refine lv_aload_n hx hb dX10_runsByMarks_117 rfl (lv_at hl 1 rfl) ?_
                  refine va_get (D := E.1) (ci := 10) (v := .ref (a_mm 14)) (C := RX10) (T := TX10) (N := 27) hx hb hts iX10_runsByMarks_X10 hown hE.1 hP 0 rfl rfl 14 (by decide) (hts (.fieldLink RX10 19 "BandBoatModel" "run" "[I") (List.mem_of_getElem? (i := 2) rfl)) (fun _ h9 => h9) rfl dX10_runsByMarks_118 ?_
                  refine lv_iconst (v := (2 : Int32)) hx hb dX10_runsByMarks_121 (by decide) ?_
                  refine ar_ild (k := 2) (v := (g2 2)) hx hb hE hP 2 rfl (by unfold vp_in; decide) rfl rfl dX10_runsByMarks_122 ?_
                  refine lv_aload_n hx hb dX10_runsByMarks_123 rfl (lv_at hl 1 rfl) ?_
                  refine va_get (D := E.1) (ci := 10) (v := .ref (a_mm 23)) (C := RX10) (T := TX10) (N := 27) hx hb hts iX10_runsByMarks_X10 hown hE.1 hP 0 rfl rfl 23 (by decide) (hts (.fieldLink RX10 28 "BandBoatModel" "mark" "[I") (List.mem_of_getElem? (i := 4) rfl)) (fun _ h9 => h9) rfl dX10_runsByMarks_124 ?_
                  refine lv_iconst (v := (2 : Int32)) hx hb dX10_runsByMarks_127 (by decide) ?_
                  refine lv_iload_n hx hb dX10_runsByMarks_128 rfl (lv_at hl 0 rfl) ?_
                  refine lv_imul hx hb dX10_runsByMarks_129 ?_
                  refine ar_ild (k := (Int32.toNatClampNeg ((2 : Int32) * x2_93))) (v := (ma (Int32.toNatClampNeg ((2 : Int32) * x2_93)))) hx hb hE hP 3 rfl (r2_in (lt_cap hM93.2 c98 hMk.2)) rfl rfl dX10_runsByMarks_130 ?_
                  refine lv_icmp_lt (tgt := 143) hx hb dX10_runsByMarks_131 (by decide) (fun c131 => ?_) (fun c131 => ?_)
                  · rw [if_pos c131] at hτ93
                    exact hJ143 _ _ _ hτ93 hP hD hS (lv_sub hl [0, 1, 2] rfl)
                  · rw [if_neg c131] at hτ93
                    refine lv_aload_n hx hb dX10_runsByMarks_134 rfl (lv_at hl 1 rfl) ?_
                    refine va_get (D := E.1) (ci := 10) (v := .ref (a_mm 14)) (C := RX10) (T := TX10) (N := 27) hx hb hts iX10_runsByMarks_X10 hown hE.1 hP 0 rfl rfl 14 (by decide) (hts (.fieldLink RX10 19 "BandBoatModel" "run" "[I") (List.mem_of_getElem? (i := 2) rfl)) (fun _ h9 => h9) rfl dX10_runsByMarks_135 ?_
                    refine lv_iconst (v := (5 : Int32)) hx hb dX10_runsByMarks_138 (by decide) ?_
                    refine ar_ild (k := 5) (v := (g2 5)) hx hb hE hP 2 rfl (by unfold vp_in; decide) rfl rfl dX10_runsByMarks_139 ?_
                    refine lv_goto (tgt := 149) hx hb dX10_runsByMarks_140 (by decide) ?_
                    exact hJ149 (g2 5) _ _ _ hτ93 hP hD hS (lv_sub hl [0, 1, 2] rfl)
          refine hL93 (4) (0 : Int32) g_wh_52 _ _ _ (⟨by show _ ≤ (0 : Int) + _; exact Int.le_trans hMk.2 (by decide), by decide⟩) hP hD hS (lv_sub hl [0, 1, 2] rfl) ?_
          intro bx2_93 bg_wh_93 H locs ls he hP hD hS hl
          rw [he] at hτ52
          have hτ52 : τ52 = F_X10_runsByMarks_x93 g2 bx2_93 bg_wh_93 := hτ52
          unfold F_X10_runsByMarks_x93 at hτ52
          refine lv_goto (tgt := 52) hx hb dX10_runsByMarks_156 (by decide) ?_
          have hσ52 : σ52 = F_X10_runsByMarks_l52 mm bt ma n_52 bx2_93 g2 bg_wh_93 := by subst hτ52; exact hσ52
          exact ih bx2_93 g2 bg_wh_93 _ _ _ (by show _ ≤ ((g2 5)).toInt + _; rw [hn88]; exact cnt_lt c61 hM52) hP hD hS (lv_sub hl [0, 1, 2] rfl) (fun ox2_52 og_rn_52 og_wh_52 H locs ls he => hK ox2_52 og_rn_52 og_wh_52 H locs ls (hσ052.trans (hσ52.trans he)))
        refine lv_if_gt (tgt := 82) hx hb dX10_runsByMarks_70 (by decide) (fun c70 => ?_) (fun c70 => ?_)
        · rw [if_pos c70] at hτ52
          exact hJ82 _ _ _ hτ52 hP hD hS (lv_sub hl [0, 1, 2] rfl)
        · rw [if_neg c70] at hτ52
          refine lv_aload_n hx hb dX10_runsByMarks_73 rfl (lv_at hl 1 rfl) ?_
          refine va_get (D := E.1) (ci := 10) (v := .ref (a_mm 14)) (C := RX10) (T := TX10) (N := 27) hx hb hts iX10_runsByMarks_X10 hown hE.1 hP 0 rfl rfl 14 (by decide) (hts (.fieldLink RX10 19 "BandBoatModel" "run" "[I") (List.mem_of_getElem? (i := 2) rfl)) (fun _ h9 => h9) rfl dX10_runsByMarks_74 ?_
          refine lv_iconst (v := (1 : Int32)) hx hb dX10_runsByMarks_77 (by decide) ?_
          refine ar_ild (k := 1) (v := (g_rn_52 1)) hx hb hE hP 2 rfl (by unfold vp_in; decide) rfl rfl dX10_runsByMarks_78 ?_
          refine lv_if_le (tgt := 159) hx hb dX10_runsByMarks_79 (by decide) (fun c79 => ?_) (fun c79 => ?_)
          · rw [if_pos c79] at hτ52
            have hσ52 : σ52 = (x2_52, g_rn_52, g_wh_52) := by subst hτ52; exact hσ52
            exact hK x2_52 g_rn_52 g_wh_52 _ _ _ (hσ052.trans hσ52) hP hD hS (lv_sub hl [0, 1, 2] rfl)
          · rw [if_neg c79] at hτ52
            exact hJ82 _ _ _ hτ52 hP hD hS (lv_sub hl [0, 1, 2] rfl)
  refine hL52 (600) bx2_23 (upd bg_rn_23 0 v1) bg_wh_2 _ _ _ (by have h := hI 5 (by decide); show _ ≤ ((bg_rn_23 5)).toInt + _; rw [h]; decide) hP hD hS (lv_sub hl [0, 1, 2] rfl) ?_
  intro bx2_52 bg_rn_52 bg_wh_52 H locs ls he hP hD hS hl
  rw [he] at hρ
  have hρ : ρ = F_X10_runsByMarks_x52 bg_rn_52 bg_wh_52 := hρ
  unfold F_X10_runsByMarks_x52 at hρ
  exact hq (bg_rn_52, bg_wh_52) _ _ _ _ dX10_runsByMarks_159 (hρ0.trans hρ) hP hD hS
def F_X10_isByMarks_j72 (x3_4 : Int32) (y0_72 : Int32) : (Int32 × Int32) ⊕ (Int32 × Int32) := Sum.inl ((x3_4 + (1 : Int32)), y0_72)
def F_X10_isByMarks_j71 (x3_4 : Int32) : (Int32 × Int32) ⊕ (Int32 × Int32) := F_X10_isByMarks_j72 x3_4 (0 : Int32)
def F_X10_isByMarks_b4 (mm : Nat → Int32) (ma : Nat → Int32) (wh : Nat → Int32) (e_ : Int32) (x3_4 : Int32) (x2_4 : Int32) : (Int32 × Int32) ⊕ (Int32 × Int32) := (if (mm 25) ≤ x3_4 then Sum.inr (x3_4, x2_4) else (if x2_4 = (0 : Int32) then F_X10_isByMarks_j71 x3_4 else (if (wh (Int32.toNatClampNeg x3_4)) = (-4 : Int32) then F_X10_isByMarks_j71 x3_4 else (if (ma (Int32.toNatClampNeg (((2 : Int32) * x3_4) + (1 : Int32)))) < (wh (Int32.toNatClampNeg x3_4)) then F_X10_isByMarks_j71 x3_4 else (if e_ < ((ma (Int32.toNatClampNeg (((2 : Int32) * x3_4) + (1 : Int32)))) - (wh (Int32.toNatClampNeg x3_4))) then F_X10_isByMarks_j71 x3_4 else F_X10_isByMarks_j72 x3_4 (1 : Int32))))))
def F_X10_isByMarks_l4 (mm : Nat → Int32) (ma : Nat → Int32) (wh : Nat → Int32) (e_ : Int32) : Nat → (Int32) → (Int32) → Int32 × Int32
  | 0, x3_4, x2_4 => (x3_4, x2_4)
  | n_4 + 1, x3_4, x2_4 => match F_X10_isByMarks_b4 mm ma wh e_ x3_4 x2_4 with
    | Sum.inl (c_x3_4, c_x2_4) => F_X10_isByMarks_l4 mm ma wh e_ n_4 c_x3_4 c_x2_4
    | Sum.inr r_ => r_
def F_X10_isByMarks_x4 (bx2_4 : Int32) : Int32 := bx2_4
def F_X10_isByMarks (mm : Nat → Int32) (ma : Nat → Int32) (wh : Nat → Int32) (e_ : Int32) : Int32 := (match F_X10_isByMarks_l4 mm ma wh e_ (4) (0 : Int32) (1 : Int32) with | (bx3_4, bx2_4) => F_X10_isByMarks_x4 bx2_4)
theorem iX10_isByMarks_X10 : ∀ w ∈ wsX100, w ∈ wsX10_isByMarks := fun _ h => List.mem_cons_of_mem _ (List.mem_append_right _ h)
set_option maxHeartbeats 4000000 in
set_option maxRecDepth 100000 in
theorem c_X10_isByMarks (l : Launch) (E : wV) (h_mm : Nat) (a_mm : Nat → Nat) (mm : Nat → Int32) (ma : Nat → Int32) (wh : Nat → Int32) (e_ : Int32) (hMk : 0 ≤ (mm 25).toInt ∧ (mm 25).toInt ≤ 4) : MetI l yX10_isByMarks wsX10_isByMarks ({ frames := 0, cells := 0, slots := 0, locals := 0 } : Room) E ([.ref h_mm, .int e_] : List Value) [xModel h_mm a_mm mm, xI E (a_mm 23) 8 ma, xI E (a_mm 24) 4 wh] (fun (r : Int32) (_ : Unit) => r = F_X10_isByMarks mm ma wh e_) (fun (_ : Unit) => [xModel h_mm a_mm mm, xI E (a_mm 23) 8 ma, xI E (a_mm 24) 4 wh]) := by
  refine MetI.of (cc := cX10_isByMarks) (maxL := 4) (own := RX10) (by decide) rfl rfl (Nat.le_of_ble_eq_true rfl) ?_
  intro p e s m below meth c A Q ls cx hP hD hS hl hq
  obtain ⟨hx, hb, hml, hown, hts, hE, hA⟩ := id cx
  have hl : lv_has ls 4 [(0, .ref h_mm), (1, .int e_)] := hl
  have hP : va_P E.1 vwCl [xModel h_mm a_mm mm, xI E (a_mm 23) 8 ma, xI E (a_mm 24) 4 wh] s.heap := hP
  obtain ⟨ρ, hρ0⟩ : ∃ ρ, F_X10_isByMarks mm ma wh e_ = ρ := ⟨_, rfl⟩
  have hρ := hρ0.symm
  unfold F_X10_isByMarks at hρ
  refine lv_iconst (v := (1 : Int32)) hx hb dX10_isByMarks_0 (by decide) ?_
  refine lv_istore_n (lv' := [(2, .int (1 : Int32)), (0, .ref h_mm), (1, .int e_)]) hx hb dX10_isByMarks_1 rfl hl (by decide) rfl (fun ls hl => ?_)
  refine lv_iconst (v := (0 : Int32)) hx hb dX10_isByMarks_2 (by decide) ?_
  refine lv_istore_n (lv' := [(3, .int (0 : Int32)), (2, .int (1 : Int32)), (0, .ref h_mm), (1, .int e_)]) hx hb dX10_isByMarks_3 rfl hl (by decide) rfl (fun ls hl => ?_)
  have hL4 : ∀ (n_4 : Nat) (x3_4 : Int32) (x2_4 : Int32) (H : Heap) (locs : List Loc) (ls : Array Slot), (((mm 25) : Int32).toInt ≤ (x3_4).toInt + (n_4 : Nat)) ∧ (0 ≤ (x3_4).toInt) ∧ ((x2_4) = 0 ∨ (x2_4) = 1) → va_P E.1 vwCl [xModel h_mm a_mm mm, xI E (a_mm 23) 8 ma, xI E (a_mm 24) 4 wh] H → va_D A [xModel h_mm a_mm mm, xI E (a_mm 23) 8 ma, xI E (a_mm 24) 4 wh] → va_S A s.heap H locs → lv_has ls 4 [(3, .int x3_4), (2, .int x2_4), (0, .ref h_mm), (1, .int e_)] → (∀ (ox3_4 : Int32) (ox2_4 : Int32) (H : Heap) (locs : List Loc) (ls : Array Slot), F_X10_isByMarks_l4 mm ma wh e_ n_4 x3_4 x2_4 = (ox3_4, ox2_4) → ((0 ≤ (ox3_4).toInt) ∧ ((ox2_4) = 0 ∨ (ox2_4) = 1)) → va_P E.1 vwCl [xModel h_mm a_mm mm, xI E (a_mm 23) 8 ma, xI E (a_mm 24) 4 wh] H → va_D A [xModel h_mm a_mm mm, xI E (a_mm 23) 8 ma, xI E (a_mm 24) 4 wh] → va_S A s.heap H locs → lv_has ls 4 [(3, .int ox3_4), (2, .int ox2_4), (0, .ref h_mm), (1, .int e_)] → W p l e ({ frames := 0, cells := 0, slots := 0, locals := 0 } : Room) s m ([.ref h_mm, .int e_] : List Value).toArray below meth c H locs 0 0 Q (F0 m 79 ls [])) → W p l e ({ frames := 0, cells := 0, slots := 0, locals := 0 } : Room) s m ([.ref h_mm, .int e_] : List Value).toArray below meth c H locs 0 0 Q (F0 m 4 ls []) := by
    intro n_4
    induction n_4 with
    | zero =>
      intro x3_4 x2_4 H locs ls hM hP hD hS hl hK
      have hM4 := hM
      obtain ⟨σ4, hσ04⟩ : ∃ σ, F_X10_isByMarks_l4 mm ma wh e_ 0 x3_4 x2_4 = σ := ⟨_, rfl⟩
      have hσ4 := hσ04.symm
      rw [F_X10_isByMarks_l4] at hσ4
      refine lv_iload_n hx hb dX10_isByMarks_4 rfl (lv_at hl 0 rfl) ?_
      refine lv_aload_n hx hb dX10_isByMarks_5 rfl (lv_at hl 2 rfl) ?_
      refine va_get (D := E.1) (ci := 10) (v := .int (mm 25)) (C := RX10) (T := TX10) (N := 27) hx hb hts iX10_isByMarks_X10 hown hE.1 hP 0 rfl rfl 25 (by decide) (hts (.fieldLink RX10 83 "BandBoatModel" "marks" "I") (List.mem_of_getElem? (i := 1) rfl)) (fun _ h9 => h9) rfl dX10_isByMarks_6 ?_
      refine lv_icmp_ge (tgt := 79) hx hb dX10_isByMarks_9 (by decide) (fun c9 => ?_) (fun c9 => ?_)
      · exact hK x3_4 x2_4 _ _ _ (hσ04.trans hσ4) (hM.2) hP hD hS (lv_sub hl [0, 1, 2, 3] rfl)
      · exact (cnt_lt0 c9 hM.1).elim
    | succ n_4 ih =>
      intro x3_4 x2_4 H locs ls hM hP hD hS hl hK
      have hM4 := hM
      obtain ⟨σ4, hσ04⟩ : ∃ σ, F_X10_isByMarks_l4 mm ma wh e_ (n_4 + 1) x3_4 x2_4 = σ := ⟨_, rfl⟩
      have hσ4 := hσ04.symm
      rw [F_X10_isByMarks_l4] at hσ4
      obtain ⟨τ4, hτ04⟩ : ∃ τ, F_X10_isByMarks_b4 mm ma wh e_ x3_4 x2_4 = τ := ⟨_, rfl⟩
      rw [hτ04] at hσ4
      have hτ4 := hτ04.symm
      unfold F_X10_isByMarks_b4 at hτ4
      refine lv_iload_n hx hb dX10_isByMarks_4 rfl (lv_at hl 0 rfl) ?_
      refine lv_aload_n hx hb dX10_isByMarks_5 rfl (lv_at hl 2 rfl) ?_
      refine va_get (D := E.1) (ci := 10) (v := .int (mm 25)) (C := RX10) (T := TX10) (N := 27) hx hb hts iX10_isByMarks_X10 hown hE.1 hP 0 rfl rfl 25 (by decide) (hts (.fieldLink RX10 83 "BandBoatModel" "marks" "I") (List.mem_of_getElem? (i := 1) rfl)) (fun _ h9 => h9) rfl dX10_isByMarks_6 ?_
      refine lv_icmp_ge (tgt := 79) hx hb dX10_isByMarks_9 (by decide) (fun c9 => ?_) (fun c9 => ?_)
      · rw [if_pos c9] at hτ4
        have hσ4 : σ4 = (x3_4, x2_4) := by subst hτ4; exact hσ4
        exact hK x3_4 x2_4 _ _ _ (hσ04.trans hσ4) (hM.2) hP hD hS (lv_sub hl [0, 1, 2, 3] rfl)
      · rw [if_neg c9] at hτ4
        refine lv_iload_n hx hb dX10_isByMarks_12 rfl (lv_at hl 1 rfl) ?_
        have hJ72 : ∀ (y0_72 : Int32) (H : Heap) (locs : List Loc) (ls : Array Slot), (y0_72 = 0 ∨ y0_72 = 1) → τ4 = F_X10_isByMarks_j72 x3_4 y0_72 → va_P E.1 vwCl [xModel h_mm a_mm mm, xI E (a_mm 23) 8 ma, xI E (a_mm 24) 4 wh] H → va_D A [xModel h_mm a_mm mm, xI E (a_mm 23) 8 ma, xI E (a_mm 24) 4 wh] → va_S A s.heap H locs → lv_has ls 4 [(3, .int x3_4), (2, .int x2_4), (0, .ref h_mm), (1, .int e_)] → W p l e ({ frames := 0, cells := 0, slots := 0, locals := 0 } : Room) s m ([.ref h_mm, .int e_] : List Value).toArray below meth c H locs 0 0 Q (F0 m 72 ls [.int y0_72]) := by
          intro y0_72 H locs ls hz_y0_72 hτ4 hP hD hS hl
          unfold F_X10_isByMarks_j72 at hτ4
          refine lv_istore_n (lv' := [(2, .int y0_72), (3, .int x3_4), (0, .ref h_mm), (1, .int e_)]) hx hb dX10_isByMarks_72 rfl hl (by decide) rfl (fun ls hl => ?_)
          refine lv_iinc (v := (x3_4 + (1 : Int32))) (lv' := [(3, .int (x3_4 + (1 : Int32))), (2, .int y0_72), (0, .ref h_mm), (1, .int e_)]) hx hb dX10_isByMarks_73 hl (k := 1) rfl rfl (by decide) rfl (fun ls hl => ?_)
          refine lv_goto (tgt := 4) hx hb dX10_isByMarks_76 (by decide) ?_
          have hσ4 : σ4 = F_X10_isByMarks_l4 mm ma wh e_ n_4 (x3_4 + (1 : Int32)) y0_72 := by subst hτ4; exact hσ4
          exact ih (x3_4 + (1 : Int32)) y0_72 _ _ _ ⟨cnt_lt c9 hM4.1, cnt_lt_pos c9 hM4.2.1, by first | exact Or.inl rfl | exact Or.inr rfl | assumption⟩ hP hD hS (lv_sub hl [0, 1, 2, 3] rfl) (fun ox3_4 ox2_4 H locs ls he => hK ox3_4 ox2_4 H locs ls (hσ04.trans (hσ4.trans he)))
        have hJ71 : ∀ (H : Heap) (locs : List Loc) (ls : Array Slot), τ4 = F_X10_isByMarks_j71 x3_4 → va_P E.1 vwCl [xModel h_mm a_mm mm, xI E (a_mm 23) 8 ma, xI E (a_mm 24) 4 wh] H → va_D A [xModel h_mm a_mm mm, xI E (a_mm 23) 8 ma, xI E (a_mm 24) 4 wh] → va_S A s.heap H locs → lv_has ls 4 [(3, .int x3_4), (2, .int x2_4), (0, .ref h_mm), (1, .int e_)] → W p l e ({ frames := 0, cells := 0, slots := 0, locals := 0 } : Room) s m ([.ref h_mm, .int e_] : List Value).toArray below meth c H locs 0 0 Q (F0 m 71 ls []) := by
          intro  H locs ls hτ4 hP hD hS hl
          unfold F_X10_isByMarks_j71 at hτ4
          refine lv_iconst (v := (0 : Int32)) hx hb dX10_isByMarks_71 (by decide) ?_
          exact hJ72 (0 : Int32) _ _ _ (Or.inl rfl) hτ4 hP hD hS (lv_sub hl [0, 1, 2, 3] rfl)
        refine lv_if_eq (tgt := 71) hx hb dX10_isByMarks_13 (by decide) (fun c13 => ?_) (fun c13 => ?_)
        · rw [if_pos c13] at hτ4
          exact hJ71 _ _ _ hτ4 hP hD hS (lv_sub hl [0, 1, 2, 3] rfl)
        · rw [if_neg c13] at hτ4
          refine lv_aload_n hx hb dX10_isByMarks_16 rfl (lv_at hl 2 rfl) ?_
          refine va_get (D := E.1) (ci := 10) (v := .ref (a_mm 24)) (C := RX10) (T := TX10) (N := 27) hx hb hts iX10_isByMarks_X10 hown hE.1 hP 0 rfl rfl 24 (by decide) (hts (.fieldLink RX10 31 "BandBoatModel" "whens" "[I") (List.mem_of_getElem? (i := 2) rfl)) (fun _ h9 => h9) rfl dX10_isByMarks_17 ?_
          refine lv_iload_n hx hb dX10_isByMarks_20 rfl (lv_at hl 0 rfl) ?_
          refine ar_ild (k := (Int32.toNatClampNeg x3_4)) (v := (wh (Int32.toNatClampNeg x3_4))) hx hb hE hP 2 rfl (inb_i hM.2.1 (lt_cap hM.2.1 c9 hMk.2).2) rfl rfl dX10_isByMarks_21 ?_
          refine lv_bipush (v := (-4 : Int32)) hx hb dX10_isByMarks_22 (by decide) ?_
          refine lv_icmp_eq (tgt := 71) hx hb dX10_isByMarks_24 (by decide) (fun c24 => ?_) (fun c24 => ?_)
          · rw [if_pos c24] at hτ4
            exact hJ71 _ _ _ hτ4 hP hD hS (lv_sub hl [0, 1, 2, 3] rfl)
          · rw [if_neg c24] at hτ4
            refine lv_aload_n hx hb dX10_isByMarks_27 rfl (lv_at hl 2 rfl) ?_
            refine va_get (D := E.1) (ci := 10) (v := .ref (a_mm 24)) (C := RX10) (T := TX10) (N := 27) hx hb hts iX10_isByMarks_X10 hown hE.1 hP 0 rfl rfl 24 (by decide) (hts (.fieldLink RX10 31 "BandBoatModel" "whens" "[I") (List.mem_of_getElem? (i := 2) rfl)) (fun _ h9 => h9) rfl dX10_isByMarks_28 ?_
            refine lv_iload_n hx hb dX10_isByMarks_31 rfl (lv_at hl 0 rfl) ?_
            refine ar_ild (k := (Int32.toNatClampNeg x3_4)) (v := (wh (Int32.toNatClampNeg x3_4))) hx hb hE hP 2 rfl (inb_i hM.2.1 (lt_cap hM.2.1 c9 hMk.2).2) rfl rfl dX10_isByMarks_32 ?_
            refine lv_aload_n hx hb dX10_isByMarks_33 rfl (lv_at hl 2 rfl) ?_
            refine va_get (D := E.1) (ci := 10) (v := .ref (a_mm 23)) (C := RX10) (T := TX10) (N := 27) hx hb hts iX10_isByMarks_X10 hown hE.1 hP 0 rfl rfl 23 (by decide) (hts (.fieldLink RX10 28 "BandBoatModel" "mark" "[I") (List.mem_of_getElem? (i := 3) rfl)) (fun _ h9 => h9) rfl dX10_isByMarks_34 ?_
            refine lv_iconst (v := (2 : Int32)) hx hb dX10_isByMarks_37 (by decide) ?_
            refine lv_iload_n hx hb dX10_isByMarks_38 rfl (lv_at hl 0 rfl) ?_
            refine lv_imul hx hb dX10_isByMarks_39 ?_
            refine lv_iconst (v := (1 : Int32)) hx hb dX10_isByMarks_40 (by decide) ?_
            refine lv_iadd hx hb dX10_isByMarks_41 ?_
            refine ar_ild (k := (Int32.toNatClampNeg (((2 : Int32) * x3_4) + (1 : Int32)))) (v := (ma (Int32.toNatClampNeg (((2 : Int32) * x3_4) + (1 : Int32))))) hx hb hE hP 1 rfl (r2_inj (lt_cap hM.2.1 c9 hMk.2)) rfl rfl dX10_isByMarks_42 ?_
            refine lv_icmp_gt (tgt := 71) hx hb dX10_isByMarks_43 (by decide) (fun c43 => ?_) (fun c43 => ?_)
            · rw [if_pos c43] at hτ4
              exact hJ71 _ _ _ hτ4 hP hD hS (lv_sub hl [0, 1, 2, 3] rfl)
            · rw [if_neg c43] at hτ4
              refine lv_aload_n hx hb dX10_isByMarks_46 rfl (lv_at hl 2 rfl) ?_
              refine va_get (D := E.1) (ci := 10) (v := .ref (a_mm 23)) (C := RX10) (T := TX10) (N := 27) hx hb hts iX10_isByMarks_X10 hown hE.1 hP 0 rfl rfl 23 (by decide) (hts (.fieldLink RX10 28 "BandBoatModel" "mark" "[I") (List.mem_of_getElem? (i := 3) rfl)) (fun _ h9 => h9) rfl dX10_isByMarks_47 ?_
              refine lv_iconst (v := (2 : Int32)) hx hb dX10_isByMarks_50 (by decide) ?_
              refine lv_iload_n hx hb dX10_isByMarks_51 rfl (lv_at hl 0 rfl) ?_
              refine lv_imul hx hb dX10_isByMarks_52 ?_
              refine lv_iconst (v := (1 : Int32)) hx hb dX10_isByMarks_53 (by decide) ?_
              refine lv_iadd hx hb dX10_isByMarks_54 ?_
              refine ar_ild (k := (Int32.toNatClampNeg (((2 : Int32) * x3_4) + (1 : Int32)))) (v := (ma (Int32.toNatClampNeg (((2 : Int32) * x3_4) + (1 : Int32))))) hx hb hE hP 1 rfl (r2_inj (lt_cap hM.2.1 c9 hMk.2)) rfl rfl dX10_isByMarks_55 ?_
              refine lv_aload_n hx hb dX10_isByMarks_56 rfl (lv_at hl 2 rfl) ?_
              refine va_get (D := E.1) (ci := 10) (v := .ref (a_mm 24)) (C := RX10) (T := TX10) (N := 27) hx hb hts iX10_isByMarks_X10 hown hE.1 hP 0 rfl rfl 24 (by decide) (hts (.fieldLink RX10 31 "BandBoatModel" "whens" "[I") (List.mem_of_getElem? (i := 2) rfl)) (fun _ h9 => h9) rfl dX10_isByMarks_57 ?_
              refine lv_iload_n hx hb dX10_isByMarks_60 rfl (lv_at hl 0 rfl) ?_
              refine ar_ild (k := (Int32.toNatClampNeg x3_4)) (v := (wh (Int32.toNatClampNeg x3_4))) hx hb hE hP 2 rfl (inb_i hM.2.1 (lt_cap hM.2.1 c9 hMk.2).2) rfl rfl dX10_isByMarks_61 ?_
              refine lv_isub hx hb dX10_isByMarks_62 ?_
              refine lv_iload_n hx hb dX10_isByMarks_63 rfl (lv_at hl 3 rfl) ?_
              refine lv_icmp_gt (tgt := 71) hx hb dX10_isByMarks_64 (by decide) (fun c64 => ?_) (fun c64 => ?_)
              · rw [if_pos c64] at hτ4
                exact hJ71 _ _ _ hτ4 hP hD hS (lv_sub hl [0, 1, 2, 3] rfl)
              · rw [if_neg c64] at hτ4
                refine lv_iconst (v := (1 : Int32)) hx hb dX10_isByMarks_67 (by decide) ?_
                refine lv_goto (tgt := 72) hx hb dX10_isByMarks_68 (by decide) ?_
                exact hJ72 (1 : Int32) _ _ _ (Or.inr rfl) hτ4 hP hD hS (lv_sub hl [0, 1, 2, 3] rfl)
  refine hL4 (4) (0 : Int32) (1 : Int32) _ _ _ (⟨by show _ ≤ (0 : Int) + _; exact Int.le_trans hMk.2 (by decide), by decide, Or.inr rfl⟩) hP hD hS (lv_sub hl [0, 1, 2, 3] rfl) ?_
  intro bx3_4 bx2_4 H locs ls he hI hP hD hS hl
  rw [he] at hρ
  have hρ : ρ = F_X10_isByMarks_x4 bx2_4 := hρ
  unfold F_X10_isByMarks_x4 at hρ
  refine lv_iload_n hx hb dX10_isByMarks_79 rfl (lv_at hl 1 rfl) ?_
  exact hq bx2_4 () _ _ _ _ dX10_isByMarks_80 (nar_z hI.2) (hρ0.trans hρ).symm hP hD hS
def F_X10_told_j206 (x3_69 : Int32) (g10 : Nat → Int32) (g11 : Nat → Int32) (g_an_206 : Nat → Int32) : (Int32 × (Nat → Int32) × (Nat → Int32) × (Nat → Int32)) ⊕ (Int32 × (Nat → Int32) × (Nat → Int32) × (Nat → Int32)) := Sum.inl ((x3_69 + (10 : Int32)), g10, g11, g_an_206)
def F_X10_told_k205 (x3_69 : Int32) (g10 : Nat → Int32) (g11 : Nat → Int32) (g15 : Nat → Int32) (v16 : Int32) : (Int32 × (Nat → Int32) × (Nat → Int32) × (Nat → Int32)) ⊕ (Int32 × (Nat → Int32) × (Nat → Int32) × (Nat → Int32)) := F_X10_told_j206 x3_69 g10 g11 (upd g15 0 v16)
def F_X10_told_k193 (x3_69 : Int32) (g10 : Nat → Int32) (g11 : Nat → Int32) (g15 : Nat → Int32) : (Int32 × (Nat → Int32) × (Nat → Int32) × (Nat → Int32)) ⊕ (Int32 × (Nat → Int32) × (Nat → Int32) × (Nat → Int32)) := F_X10_told_k205 x3_69 g10 g11 g15 ((g15 0) + (1 : Int32))
def F_X10_told_k186 (x3_69 : Int32) (g10 : Nat → Int32) (g11 : Nat → Int32) (g14 : Nat → Int32) : (Int32 × (Nat → Int32) × (Nat → Int32) × (Nat → Int32)) ⊕ (Int32 × (Nat → Int32) × (Nat → Int32) × (Nat → Int32)) := F_X10_told_k193 x3_69 g10 g11 (F_X10_widens g14 (8 : Int32) x3_69)
def F_X10_told_k176 (s_mm_11_57 : Int32) (x3_69 : Int32) (g10 : Nat → Int32) (g11 : Nat → Int32) (g13 : Nat → Int32) : (Int32 × (Nat → Int32) × (Nat → Int32) × (Nat → Int32)) ⊕ (Int32 × (Nat → Int32) × (Nat → Int32) × (Nat → Int32)) := F_X10_told_k186 x3_69 g10 g11 (F_X10_widens g13 (6 : Int32) s_mm_11_57)
def F_X10_told_j169 (s_mm_9_43 : Int32) (s_mm_11_57 : Int32) (x3_69 : Int32) (g_an_69 : Nat → Int32) (g10 : Nat → Int32) (g11 : Nat → Int32) (y0_116 : Int32) (y0_144 : Int32) (y0_169 : Int32) : (Int32 × (Nat → Int32) × (Nat → Int32) × (Nat → Int32)) ⊕ (Int32 × (Nat → Int32) × (Nat → Int32) × (Nat → Int32)) := F_X10_told_k176 s_mm_11_57 x3_69 g10 g11 (F_X10_widens (upd (upd (upd g_an_69 1 y0_116) 2 y0_144) 3 y0_169) (4 : Int32) s_mm_9_43)
def F_X10_told_j144 (s_mm_9_43 : Int32) (s_mm_11_57 : Int32) (x3_69 : Int32) (g_an_69 : Nat → Int32) (g10 : Nat → Int32) (g11 : Nat → Int32) (y0_116 : Int32) (y0_144 : Int32) : (Int32 × (Nat → Int32) × (Nat → Int32) × (Nat → Int32)) ⊕ (Int32 × (Nat → Int32) × (Nat → Int32) × (Nat → Int32)) := (if (g_an_69 0) = (0 : Int32) then F_X10_told_j169 s_mm_9_43 s_mm_11_57 x3_69 g_an_69 g10 g11 y0_116 y0_144 x3_69 else F_X10_told_j169 s_mm_9_43 s_mm_11_57 x3_69 g_an_69 g10 g11 y0_116 y0_144 (g_an_69 3))
def F_X10_told_j116 (s_mm_9_43 : Int32) (s_mm_11_57 : Int32) (x3_69 : Int32) (g_an_69 : Nat → Int32) (g10 : Nat → Int32) (g11 : Nat → Int32) (y0_116 : Int32) : (Int32 × (Nat → Int32) × (Nat → Int32) × (Nat → Int32)) ⊕ (Int32 × (Nat → Int32) × (Nat → Int32) × (Nat → Int32)) := (if (g_an_69 0) = (0 : Int32) then F_X10_told_j144 s_mm_9_43 s_mm_11_57 x3_69 g_an_69 g10 g11 y0_116 s_mm_11_57 else F_X10_told_j144 s_mm_9_43 s_mm_11_57 x3_69 g_an_69 g10 g11 y0_116 (g_an_69 2))
def F_X10_told_k78 (mm : Nat → Int32) (ma : Nat → Int32) (e_ : Int32) (v3 : Int32) (v4 : Int32) (v5 : Int32) (v7 : Int32) (v9 : Int32) (s_mm_9_43 : Int32) (s_mm_11_57 : Int32) (x3_69 : Int32) (g_an_69 : Nat → Int32) (g10 : Nat → Int32) (g11 : Nat → Int32) : (Int32 × (Nat → Int32) × (Nat → Int32) × (Nat → Int32)) ⊕ (Int32 × (Nat → Int32) × (Nat → Int32) × (Nat → Int32)) := (if (F_X10_isByMarks (upd (upd (upd (upd (upd (upd (upd (upd mm 0 (0 : Int32)) 6 v3) 7 v4) 8 v5) 9 s_mm_9_43) 10 v7) 11 s_mm_11_57) 12 v9) ma g11 e_) = (0 : Int32) then F_X10_told_j206 x3_69 g10 g11 g_an_69 else (if (g_an_69 0) = (0 : Int32) then F_X10_told_j116 s_mm_9_43 s_mm_11_57 x3_69 g_an_69 g10 g11 s_mm_9_43 else F_X10_told_j116 s_mm_9_43 s_mm_11_57 x3_69 g_an_69 g10 g11 (g_an_69 1)))
def F_X10_told_b69 (mm : Nat → Int32) (bt : Nat → Int32) (ma : Nat → Int32) (e_ : Int32) (v3 : Int32) (v4 : Int32) (v5 : Int32) (v7 : Int32) (v9 : Int32) (s_mm_9_43 : Int32) (s_mm_11_57 : Int32) (x3_69 : Int32) (g_rn_69 : Nat → Int32) (g_wh_69 : Nat → Int32) (g_an_69 : Nat → Int32) : (Int32 × (Nat → Int32) × (Nat → Int32) × (Nat → Int32)) ⊕ (Int32 × (Nat → Int32) × (Nat → Int32) × (Nat → Int32)) := (if (401 : Int32) ≤ x3_69 then Sum.inr (x3_69, g_rn_69, g_wh_69, g_an_69) else (match F_X10_runsByMarks (upd (upd (upd (upd (upd (upd (upd (upd mm 0 (0 : Int32)) 6 v3) 7 v4) 8 v5) 9 s_mm_9_43) 10 v7) 11 s_mm_11_57) 12 v9) bt g_rn_69 ma g_wh_69 x3_69 with | (g10, g11) => F_X10_told_k78 mm ma e_ v3 v4 v5 v7 v9 s_mm_9_43 s_mm_11_57 x3_69 g_an_69 g10 g11))
def F_X10_told_l69 (mm : Nat → Int32) (bt : Nat → Int32) (ma : Nat → Int32) (e_ : Int32) (v3 : Int32) (v4 : Int32) (v5 : Int32) (v7 : Int32) (v9 : Int32) (s_mm_9_43 : Int32) (s_mm_11_57 : Int32) : Nat → (Int32) → (Nat → Int32) → (Nat → Int32) → (Nat → Int32) → Int32 × (Nat → Int32) × (Nat → Int32) × (Nat → Int32)
  | 0, x3_69, g_rn_69, g_wh_69, g_an_69 => (x3_69, g_rn_69, g_wh_69, g_an_69)
  | n_69 + 1, x3_69, g_rn_69, g_wh_69, g_an_69 => match F_X10_told_b69 mm bt ma e_ v3 v4 v5 v7 v9 s_mm_9_43 s_mm_11_57 x3_69 g_rn_69 g_wh_69 g_an_69 with
    | Sum.inl (c_x3_69, c_g_rn_69, c_g_wh_69, c_g_an_69) => F_X10_told_l69 mm bt ma e_ v3 v4 v5 v7 v9 s_mm_9_43 s_mm_11_57 n_69 c_x3_69 c_g_rn_69 c_g_wh_69 c_g_an_69
    | Sum.inr r_ => r_
def F_X10_told_k219 (bg_rn_69 : Nat → Int32) (bg_wh_69 : Nat → Int32) (bg_an_69 : Nat → Int32) (v17 : Int32) : (Int32 × (Nat → Int32) × (Nat → Int32) × (Nat → Int32)) ⊕ (Int32 × (Nat → Int32) × (Nat → Int32) × (Nat → Int32)) := Sum.inl (v17, bg_rn_69, bg_wh_69, bg_an_69)
def F_X10_told_x69 (s_mm_11_57 : Int32) (bg_rn_69 : Nat → Int32) (bg_wh_69 : Nat → Int32) (bg_an_69 : Nat → Int32) : (Int32 × (Nat → Int32) × (Nat → Int32) × (Nat → Int32)) ⊕ (Int32 × (Nat → Int32) × (Nat → Int32) × (Nat → Int32)) := F_X10_told_k219 bg_rn_69 bg_wh_69 bg_an_69 (s_mm_11_57 + (1 : Int32))
def F_X10_told_b57 (mm : Nat → Int32) (bt : Nat → Int32) (ma : Nat → Int32) (e_ : Int32) (v3 : Int32) (v4 : Int32) (v5 : Int32) (v7 : Int32) (v9 : Int32) (s_mm_9_43 : Int32) (s_mm_11_57 : Int32) (g_rn_57 : Nat → Int32) (g_wh_57 : Nat → Int32) (g_an_57 : Nat → Int32) : (Int32 × (Nat → Int32) × (Nat → Int32) × (Nat → Int32)) ⊕ (Int32 × (Nat → Int32) × (Nat → Int32) × (Nat → Int32)) := (if (10 : Int32) ≤ s_mm_11_57 then Sum.inr (s_mm_11_57, g_rn_57, g_wh_57, g_an_57) else (match F_X10_told_l69 mm bt ma e_ v3 v4 v5 v7 v9 s_mm_9_43 s_mm_11_57 (40) (10 : Int32) g_rn_57 g_wh_57 g_an_57 with | (bx3_69, bg_rn_69, bg_wh_69, bg_an_69) => F_X10_told_x69 s_mm_11_57 bg_rn_69 bg_wh_69 bg_an_69))
def F_X10_told_l57 (mm : Nat → Int32) (bt : Nat → Int32) (ma : Nat → Int32) (e_ : Int32) (v3 : Int32) (v4 : Int32) (v5 : Int32) (v7 : Int32) (v9 : Int32) (s_mm_9_43 : Int32) : Nat → (Int32) → (Nat → Int32) → (Nat → Int32) → (Nat → Int32) → Int32 × (Nat → Int32) × (Nat → Int32) × (Nat → Int32)
  | 0, s_mm_11_57, g_rn_57, g_wh_57, g_an_57 => (s_mm_11_57, g_rn_57, g_wh_57, g_an_57)
  | n_57 + 1, s_mm_11_57, g_rn_57, g_wh_57, g_an_57 => match F_X10_told_b57 mm bt ma e_ v3 v4 v5 v7 v9 s_mm_9_43 s_mm_11_57 g_rn_57 g_wh_57 g_an_57 with
    | Sum.inl (c_s_mm_11_57, c_g_rn_57, c_g_wh_57, c_g_an_57) => F_X10_told_l57 mm bt ma e_ v3 v4 v5 v7 v9 s_mm_9_43 n_57 c_s_mm_11_57 c_g_rn_57 c_g_wh_57 c_g_an_57
    | Sum.inr r_ => r_
def F_X10_told_k232 (bs_mm_11_57 : Int32) (bg_rn_57 : Nat → Int32) (bg_wh_57 : Nat → Int32) (bg_an_57 : Nat → Int32) (v18 : Int32) : (Int32 × Int32 × (Nat → Int32) × (Nat → Int32) × (Nat → Int32)) ⊕ (Int32 × Int32 × (Nat → Int32) × (Nat → Int32) × (Nat → Int32)) := Sum.inl (v18, bs_mm_11_57, bg_rn_57, bg_wh_57, bg_an_57)
def F_X10_told_x57 (s_mm_9_43 : Int32) (bs_mm_11_57 : Int32) (bg_rn_57 : Nat → Int32) (bg_wh_57 : Nat → Int32) (bg_an_57 : Nat → Int32) : (Int32 × Int32 × (Nat → Int32) × (Nat → Int32) × (Nat → Int32)) ⊕ (Int32 × Int32 × (Nat → Int32) × (Nat → Int32) × (Nat → Int32)) := F_X10_told_k232 bs_mm_11_57 bg_rn_57 bg_wh_57 bg_an_57 (s_mm_9_43 + (1 : Int32))
def F_X10_told_b43 (mm : Nat → Int32) (bt : Nat → Int32) (ma : Nat → Int32) (e_ : Int32) (v3 : Int32) (v4 : Int32) (v5 : Int32) (v7 : Int32) (v9 : Int32) (s_mm_9_43 : Int32) (s_mm_11_43 : Int32) (g_rn_43 : Nat → Int32) (g_wh_43 : Nat → Int32) (g_an_43 : Nat → Int32) : (Int32 × Int32 × (Nat → Int32) × (Nat → Int32) × (Nat → Int32)) ⊕ (Int32 × Int32 × (Nat → Int32) × (Nat → Int32) × (Nat → Int32)) := (if (9 : Int32) ≤ s_mm_9_43 then Sum.inr (s_mm_9_43, s_mm_11_43, g_rn_43, g_wh_43, g_an_43) else (match F_X10_told_l57 mm bt ma e_ v3 v4 v5 v7 v9 s_mm_9_43 (9) (1 : Int32) g_rn_43 g_wh_43 g_an_43 with | (bs_mm_11_57, bg_rn_57, bg_wh_57, bg_an_57) => F_X10_told_x57 s_mm_9_43 bs_mm_11_57 bg_rn_57 bg_wh_57 bg_an_57))
def F_X10_told_l43 (mm : Nat → Int32) (bt : Nat → Int32) (ma : Nat → Int32) (e_ : Int32) (v3 : Int32) (v4 : Int32) (v5 : Int32) (v7 : Int32) (v9 : Int32) : Nat → (Int32) → (Int32) → (Nat → Int32) → (Nat → Int32) → (Nat → Int32) → Int32 × Int32 × (Nat → Int32) × (Nat → Int32) × (Nat → Int32)
  | 0, s_mm_9_43, s_mm_11_43, g_rn_43, g_wh_43, g_an_43 => (s_mm_9_43, s_mm_11_43, g_rn_43, g_wh_43, g_an_43)
  | n_43 + 1, s_mm_9_43, s_mm_11_43, g_rn_43, g_wh_43, g_an_43 => match F_X10_told_b43 mm bt ma e_ v3 v4 v5 v7 v9 s_mm_9_43 s_mm_11_43 g_rn_43 g_wh_43 g_an_43 with
    | Sum.inl (c_s_mm_9_43, c_s_mm_11_43, c_g_rn_43, c_g_wh_43, c_g_an_43) => F_X10_told_l43 mm bt ma e_ v3 v4 v5 v7 v9 n_43 c_s_mm_9_43 c_s_mm_11_43 c_g_rn_43 c_g_wh_43 c_g_an_43
    | Sum.inr r_ => r_
def F_X10_told_j256 (what : Int32) (v3 : Int32) (v4 : Int32) (v5 : Int32) (v7 : Int32) (v9 : Int32) (bs_mm_9_43 : Int32) (bs_mm_11_43 : Int32) (bg_rn_43 : Nat → Int32) (bg_wh_43 : Nat → Int32) (bg_an_43 : Nat → Int32) : Int32 × Int32 × Int32 × Int32 × Int32 × Int32 × Int32 × Int32 × Int32 × (Nat → Int32) × (Nat → Int32) × (Nat → Int32) := ((bg_an_43 (Int32.toNatClampNeg what)), (0 : Int32), v3, v4, v5, bs_mm_9_43, v7, bs_mm_11_43, v9, bg_rn_43, bg_wh_43, bg_an_43)
def F_X10_told_x43 (what : Int32) (v3 : Int32) (v4 : Int32) (v5 : Int32) (v7 : Int32) (v9 : Int32) (bs_mm_9_43 : Int32) (bs_mm_11_43 : Int32) (bg_rn_43 : Nat → Int32) (bg_wh_43 : Nat → Int32) (bg_an_43 : Nat → Int32) : Int32 × Int32 × Int32 × Int32 × Int32 × Int32 × Int32 × Int32 × Int32 × (Nat → Int32) × (Nat → Int32) × (Nat → Int32) := (if what ≤ (0 : Int32) then F_X10_told_j256 what v3 v4 v5 v7 v9 bs_mm_9_43 bs_mm_11_43 bg_rn_43 bg_wh_43 bg_an_43 else (if (bg_an_43 0) = (0 : Int32) then ((-4 : Int32), (0 : Int32), v3, v4, v5, bs_mm_9_43, v7, bs_mm_11_43, v9, bg_rn_43, bg_wh_43, bg_an_43) else F_X10_told_j256 what v3 v4 v5 v7 v9 bs_mm_9_43 bs_mm_11_43 bg_rn_43 bg_wh_43 bg_an_43))
def F_X10_told_k28 (mm : Nat → Int32) (bt : Nat → Int32) (rn : Nat → Int32) (ma : Nat → Int32) (wh : Nat → Int32) (an : Nat → Int32) (e_ : Int32) (what : Int32) (v3 : Int32) (v4 : Int32) (v5 : Int32) (v7 : Int32) (v8 : Int32) (v9 : Int32) : Int32 × Int32 × Int32 × Int32 × Int32 × Int32 × Int32 × Int32 × Int32 × (Nat → Int32) × (Nat → Int32) × (Nat → Int32) := (match F_X10_told_l43 mm bt ma e_ v3 v4 v5 v7 v9 (8) (1 : Int32) v8 rn wh (upd an 0 (0 : Int32)) with | (bs_mm_9_43, bs_mm_11_43, bg_rn_43, bg_wh_43, bg_an_43) => F_X10_told_x43 what v3 v4 v5 v7 v9 bs_mm_9_43 bs_mm_11_43 bg_rn_43 bg_wh_43 bg_an_43)
def F_X10_told (mm : Nat → Int32) (bt : Nat → Int32) (rn : Nat → Int32) (ma : Nat → Int32) (wh : Nat → Int32) (an : Nat → Int32) (e_ : Int32) (what : Int32) : Int32 × Int32 × Int32 × Int32 × Int32 × Int32 × Int32 × Int32 × Int32 × (Nat → Int32) × (Nat → Int32) × (Nat → Int32) := (if (F_X10_in e_ (0 : Int32) (50 : Int32)) = (0 : Int32) then ((-1 : Int32), (0 : Int32), (mm 6), (mm 7), (mm 8), (mm 9), (mm 10), (mm 11), (mm 12), rn, wh, an) else (if (F_X10_in what (0 : Int32) (9 : Int32)) = (0 : Int32) then ((-1 : Int32), (0 : Int32), (mm 6), (mm 7), (mm 8), (mm 9), (mm 10), (mm 11), (mm 12), rn, wh, an) else (match F_X10_asItIs bt with | (v3, v4, v5, v6, v7, v8, v9) => F_X10_told_k28 mm bt rn ma wh an e_ what v3 v4 v5 v7 v8 v9)))
theorem iX10_told_X10 : ∀ w ∈ wsX100, w ∈ wsX10_told := fun _ h => List.mem_cons_of_mem _ (List.mem_append_right _ h)
set_option maxHeartbeats 4000000 in
set_option maxRecDepth 100000 in
theorem c_X10_told (l : Launch) (E : wV) (h_mm : Nat) (a_mm : Nat → Nat) (mm : Nat → Int32) (bt : Nat → Int32) (rn : Nat → Int32) (ma : Nat → Int32) (wh : Nat → Int32) (an : Nat → Int32) (e_ : Int32) (what : Int32) (hB : btOK bt) (hMk : 0 ≤ (mm 25).toInt ∧ (mm 25).toInt ≤ 4) : MetI l yX10_told wsX10_told ({ frames := 4, cells := 0, slots := 0, locals := 91 } : Room) E ([.ref h_mm, .int e_, .int what] : List Value) [xModel h_mm a_mm mm, xI E (a_mm 5) 60 bt, xI E (a_mm 14) 6 rn, xI E (a_mm 23) 8 ma, xI E (a_mm 24) 4 wh, xI E (a_mm 26) 10 an] (fun (r : Int32) (u : Int32 × Int32 × Int32 × Int32 × Int32 × Int32 × Int32 × Int32 × (Nat → Int32) × (Nat → Int32) × (Nat → Int32)) => F_X10_told mm bt rn ma wh an e_ what = (r, u)) (fun (u : Int32 × Int32 × Int32 × Int32 × Int32 × Int32 × Int32 × Int32 × (Nat → Int32) × (Nat → Int32) × (Nat → Int32)) => [xModel h_mm a_mm (upd (upd (upd (upd (upd (upd (upd (upd mm 0 u.1) 6 u.2.1) 7 u.2.2.1) 8 u.2.2.2.1) 9 u.2.2.2.2.1) 10 u.2.2.2.2.2.1) 11 u.2.2.2.2.2.2.1) 12 u.2.2.2.2.2.2.2.1), xI E (a_mm 5) 60 bt, xI E (a_mm 14) 6 u.2.2.2.2.2.2.2.2.1, xI E (a_mm 23) 8 ma, xI E (a_mm 24) 4 u.2.2.2.2.2.2.2.2.2.1, xI E (a_mm 26) 10 u.2.2.2.2.2.2.2.2.2.2]) := by
  refine MetI.of (cc := cX10_told) (maxL := 4) (own := RX10) (by decide) rfl rfl (Nat.le_of_ble_eq_true rfl) ?_
  intro p e s m below meth c A Q ls cx hP hD hS hl hq
  obtain ⟨hx, hb, hml, hown, hts, hE, hA⟩ := id cx
  have hl : lv_has ls 4 [(0, .ref h_mm), (1, .int e_), (2, .int what)] := hl
  have hP : va_P E.1 vwCl [xModel h_mm a_mm mm, xI E (a_mm 5) 60 bt, xI E (a_mm 14) 6 rn, xI E (a_mm 23) 8 ma, xI E (a_mm 24) 4 wh, xI E (a_mm 26) 10 an] s.heap := hP
  obtain ⟨ρ, hρ0⟩ : ∃ ρ, F_X10_told mm bt rn ma wh an e_ what = ρ := ⟨_, rfl⟩
  have hρ := hρ0.symm
  unfold F_X10_told at hρ
  refine lv_aload_n hx hb dX10_told_0 rfl (lv_at hl 0 rfl) ?_
  refine lv_iconst (v := (0 : Int32)) hx hb dX10_told_1 (by decide) ?_
  refine va_put (D := E.1) (ci := 10) (v := .int (0 : Int32)) (ty := .int) (C := RX10) (T := TX10) (N := 27) hx hb hts iX10_told_X10 tyX10 tyX10_ok nmX10 hown hE.1 hP hD hS 0 rfl rfl 0 (by decide) (hts (.fieldLink RX10 41 "BandBoatModel" "thrown" "I") (List.mem_of_getElem? (i := 1) rfl)) (fun _ h9 => h9) rfl (by decide +kernel) rfl rfl (Nat.le_of_ble_eq_true rfl) dX10_told_2 (fun H locs hP hD hS => ?_)
  have hP : va_P E.1 vwCl [xModel h_mm a_mm (upd mm 0 (0 : Int32)), xI E (a_mm 5) 60 bt, xI E (a_mm 14) 6 rn, xI E (a_mm 23) 8 ma, xI E (a_mm 24) 4 wh, xI E (a_mm 26) 10 an] H := hP
  have hD : va_D A [xModel h_mm a_mm (upd mm 0 (0 : Int32)), xI E (a_mm 5) 60 bt, xI E (a_mm 14) 6 rn, xI E (a_mm 23) 8 ma, xI E (a_mm 24) 4 wh, xI E (a_mm 26) 10 an] := hD
  refine lv_iload_n hx hb dX10_told_5 rfl (lv_at hl 1 rfl) ?_
  refine lv_iconst (v := (0 : Int32)) hx hb dX10_told_6 (by decide) ?_
  refine lv_bipush (v := (50 : Int32)) hx hb dX10_told_7 (by decide) ?_
  refine kI (wc := []) (wr := [xModel h_mm a_mm (upd mm 0 (0 : Int32)), xI E (a_mm 5) 60 bt, xI E (a_mm 14) 6 rn, xI E (a_mm 23) 8 ma, xI E (a_mm 24) 4 wh, xI E (a_mm 26) 10 an]) (wc' := (fun (_ : Unit) => [])) (wn := (fun (_ : Unit) => [xModel h_mm a_mm (upd mm 0 (0 : Int32)), xI E (a_mm 5) 60 bt, xI E (a_mm 14) 6 rn, xI E (a_mm 23) 8 ma, xI E (a_mm 24) 4 wh, xI E (a_mm 26) 10 an])) (isC := []) (isR := [0, 1, 2, 3, 4, 5]) (is2 := [0, 1, 2, 3, 4, 5]) cx hP hD hS ⟨rfl, rfl, by decide, by decide, by decide, by decide, fun _ => rfl⟩ (rS (As := [.int e_, .int (0 : Int32), .int (50 : Int32)]) (rest := []) cx (c_X10_in l E e_ (0 : Int32) (50 : Int32) _) (va_cwS 3 hts gX10_told_X10_in rfl rfl rfl (by decide +kernel) ⟨Nat.le_of_ble_eq_true rfl, Nat.le_of_ble_eq_true rfl⟩) rfl hl.1 rfl (Nat.le_of_ble_eq_true rfl) dX10_told_9 ⟨Nat.zero_le _, Nat.zero_le _⟩) (fun r1 u H locs hw hP hD hS => ?_)
  subst hw
  refine lv_if_eq (tgt := 25) hx hb dX10_told_12 (by decide) (fun c12 => ?_) (fun c12 => ?_)
  · rw [if_pos c12] at hρ
    refine lv_iconst (v := (-1 : Int32)) hx hb dX10_told_25 (by decide) ?_
    exact hq (-1 : Int32) ((0 : Int32), (mm 6), (mm 7), (mm 8), (mm 9), (mm 10), (mm 11), (mm 12), rn, wh, an) _ _ _ _ dX10_told_26 rfl (hρ0.trans hρ) hP hD hS
  · rw [if_neg c12] at hρ
    refine lv_iload_n hx hb dX10_told_15 rfl (lv_at hl 2 rfl) ?_
    refine lv_iconst (v := (0 : Int32)) hx hb dX10_told_16 (by decide) ?_
    refine lv_bipush (v := (9 : Int32)) hx hb dX10_told_17 (by decide) ?_
    refine kI (wc := []) (wr := [xModel h_mm a_mm (upd mm 0 (0 : Int32)), xI E (a_mm 5) 60 bt, xI E (a_mm 14) 6 rn, xI E (a_mm 23) 8 ma, xI E (a_mm 24) 4 wh, xI E (a_mm 26) 10 an]) (wc' := (fun (_ : Unit) => [])) (wn := (fun (_ : Unit) => [xModel h_mm a_mm (upd mm 0 (0 : Int32)), xI E (a_mm 5) 60 bt, xI E (a_mm 14) 6 rn, xI E (a_mm 23) 8 ma, xI E (a_mm 24) 4 wh, xI E (a_mm 26) 10 an])) (isC := []) (isR := [0, 1, 2, 3, 4, 5]) (is2 := [0, 1, 2, 3, 4, 5]) cx hP hD hS ⟨rfl, rfl, by decide, by decide, by decide, by decide, fun _ => rfl⟩ (rS (As := [.int what, .int (0 : Int32), .int (9 : Int32)]) (rest := []) cx (c_X10_in l E what (0 : Int32) (9 : Int32) _) (va_cwS 3 hts gX10_told_X10_in rfl rfl rfl (by decide +kernel) ⟨Nat.le_of_ble_eq_true rfl, Nat.le_of_ble_eq_true rfl⟩) rfl hl.1 rfl (Nat.le_of_ble_eq_true rfl) dX10_told_19 ⟨Nat.zero_le _, Nat.zero_le _⟩) (fun r2 u H locs hw hP hD hS => ?_)
    subst hw
    refine lv_if_ne (tgt := 27) hx hb dX10_told_22 (by decide) (fun c22 => ?_) (fun c22 => ?_)
    · rw [if_neg c22] at hρ
      refine lv_aload_n hx hb dX10_told_27 rfl (lv_at hl 0 rfl) ?_
      refine kV (wc := [xModel h_mm a_mm (upd mm 0 (0 : Int32)), xI E (a_mm 5) 60 bt]) (wr := [xI E (a_mm 14) 6 rn, xI E (a_mm 23) 8 ma, xI E (a_mm 24) 4 wh, xI E (a_mm 26) 10 an]) (wc' := (fun (u : Int32 × Int32 × Int32 × Int32 × Int32 × Int32 × Int32) => [xModel h_mm a_mm (upd (upd (upd (upd (upd (upd (upd (upd mm 0 (0 : Int32)) 6 u.1) 7 u.2.1) 8 u.2.2.1) 9 u.2.2.2.1) 10 u.2.2.2.2.1) 11 u.2.2.2.2.2.1) 12 u.2.2.2.2.2.2), xI E (a_mm 5) 60 bt])) (wn := (fun (u : Int32 × Int32 × Int32 × Int32 × Int32 × Int32 × Int32) => [xModel h_mm a_mm (upd (upd (upd (upd (upd (upd (upd (upd mm 0 (0 : Int32)) 6 u.1) 7 u.2.1) 8 u.2.2.1) 9 u.2.2.2.1) 10 u.2.2.2.2.1) 11 u.2.2.2.2.2.1) 12 u.2.2.2.2.2.2), xI E (a_mm 5) 60 bt, xI E (a_mm 14) 6 rn, xI E (a_mm 23) 8 ma, xI E (a_mm 24) 4 wh, xI E (a_mm 26) 10 an])) (isC := [0, 1]) (isR := [2, 3, 4, 5]) (is2 := [4, 5, 0, 1, 2, 3]) cx hP hD hS ⟨rfl, rfl, by decide, by decide, by decide, by decide, fun _ => rfl⟩ (rV (As := []) (rest := []) (C := RX10) (q0 := 0) (ci := 10) cx (c_X10_asItIs l E h_mm a_mm (upd mm 0 (0 : Int32)) bt (hB) _) (cwV 0 hts gX10_told_X10_asItIs rfl rfl rfl (by decide +kernel) ⟨Nat.le_of_ble_eq_true rfl, Nat.le_of_ble_eq_true rfl⟩) rfl rfl rfl rfl hl.1 rfl (Nat.le_of_ble_eq_true rfl) dX10_told_28 ⟨Nat.zero_le _, Nat.zero_le _⟩) (fun u H locs hw hP hD hS => ?_)
      obtain ⟨hw, hn28⟩ := hw
      obtain ⟨v3, v4, v5, v6, v7, v8, v9⟩ := u
      have hn28 : (v6) = (bt 17) ∧ (v7) = (bt 18) ∧ (v8) = (bt 19) := hn28
      have hP : va_P E.1 vwCl [xModel h_mm a_mm (upd (upd (upd (upd (upd (upd (upd (upd mm 0 (0 : Int32)) 6 v3) 7 v4) 8 v5) 9 v6) 10 v7) 11 v8) 12 v9), xI E (a_mm 5) 60 bt, xI E (a_mm 14) 6 rn, xI E (a_mm 23) 8 ma, xI E (a_mm 24) 4 wh, xI E (a_mm 26) 10 an] H := hP
      have hD : va_D A [xModel h_mm a_mm (upd (upd (upd (upd (upd (upd (upd (upd mm 0 (0 : Int32)) 6 v3) 7 v4) 8 v5) 9 v6) 10 v7) 11 v8) 12 v9), xI E (a_mm 5) 60 bt, xI E (a_mm 14) 6 rn, xI E (a_mm 23) 8 ma, xI E (a_mm 24) 4 wh, xI E (a_mm 26) 10 an] := hD
      have hw : F_X10_asItIs bt = (v3, v4, v5, v6, v7, v8, v9) := hw
      rw [hw] at hρ
      have hρ : ρ = F_X10_told_k28 mm bt rn ma wh an e_ what v3 v4 v5 v7 v8 v9 := hρ
      unfold F_X10_told_k28 at hρ
      refine lv_aload_n hx hb dX10_told_31 rfl (lv_at hl 0 rfl) ?_
      refine va_get (D := E.1) (ci := 10) (v := .ref (a_mm 26)) (C := RX10) (T := TX10) (N := 27) hx hb hts iX10_told_X10 hown hE.1 hP 0 rfl rfl 26 (by decide) (hts (.fieldLink RX10 34 "BandBoatModel" "answer" "[I") (List.mem_of_getElem? (i := 2) rfl)) (fun _ h9 => h9) rfl dX10_told_32 ?_
      refine lv_iconst (v := (0 : Int32)) hx hb dX10_told_35 (by decide) ?_
      refine lv_iconst (v := (0 : Int32)) hx hb dX10_told_36 (by decide) ?_
      refine ar_ist (k := 0) (ws' := [xModel h_mm a_mm (upd (upd (upd (upd (upd (upd (upd (upd mm 0 (0 : Int32)) 6 v3) 7 v4) 8 v5) 9 v6) 10 v7) 11 v8) 12 v9), xI E (a_mm 5) 60 bt, xI E (a_mm 14) 6 rn, xI E (a_mm 23) 8 ma, xI E (a_mm 24) 4 wh, xI E (a_mm 26) 10 (upd an 0 (0 : Int32))]) hx hb hE hP hD hS 5 rfl (by unfold vp_in; decide) rfl rfl dX10_told_37 (fun H locs hP hD hS => ?_)
      refine lv_aload_n hx hb dX10_told_38 rfl (lv_at hl 0 rfl) ?_
      refine lv_iconst (v := (1 : Int32)) hx hb dX10_told_39 (by decide) ?_
      refine va_put (D := E.1) (ci := 10) (v := .int (1 : Int32)) (ty := .int) (C := RX10) (T := TX10) (N := 27) hx hb hts iX10_told_X10 tyX10 tyX10_ok nmX10 hown hE.1 hP hD hS 0 rfl rfl 9 (by decide) (hts (.fieldLink RX10 98 "BandBoatModel" "strands" "I") (List.mem_of_getElem? (i := 3) rfl)) (fun _ h9 => h9) rfl (by decide +kernel) rfl rfl (Nat.le_of_ble_eq_true rfl) dX10_told_40 (fun H locs hP hD hS => ?_)
      have hP : va_P E.1 vwCl [xModel h_mm a_mm (upd (upd (upd (upd (upd (upd (upd (upd mm 0 (0 : Int32)) 6 v3) 7 v4) 8 v5) 9 (1 : Int32)) 10 v7) 11 v8) 12 v9), xI E (a_mm 5) 60 bt, xI E (a_mm 14) 6 rn, xI E (a_mm 23) 8 ma, xI E (a_mm 24) 4 wh, xI E (a_mm 26) 10 (upd an 0 (0 : Int32))] H := hP
      have hD : va_D A [xModel h_mm a_mm (upd (upd (upd (upd (upd (upd (upd (upd mm 0 (0 : Int32)) 6 v3) 7 v4) 8 v5) 9 (1 : Int32)) 10 v7) 11 v8) 12 v9), xI E (a_mm 5) 60 bt, xI E (a_mm 14) 6 rn, xI E (a_mm 23) 8 ma, xI E (a_mm 24) 4 wh, xI E (a_mm 26) 10 (upd an 0 (0 : Int32))] := hD
      have hL43 : ∀ (n_43 : Nat) (s_mm_9_43 : Int32) (s_mm_11_43 : Int32) (g_rn_43 : Nat → Int32) (g_wh_43 : Nat → Int32) (g_an_43 : Nat → Int32) (H : Heap) (locs : List Loc) (ls : Array Slot), (((9 : Int32) : Int32).toInt ≤ (s_mm_9_43).toInt + (n_43 : Nat)) ∧ (1 ≤ (s_mm_9_43).toInt) → va_P E.1 vwCl [xModel h_mm a_mm (upd (upd (upd (upd (upd (upd (upd (upd mm 0 (0 : Int32)) 6 v3) 7 v4) 8 v5) 9 s_mm_9_43) 10 v7) 11 s_mm_11_43) 12 v9), xI E (a_mm 5) 60 bt, xI E (a_mm 14) 6 g_rn_43, xI E (a_mm 23) 8 ma, xI E (a_mm 24) 4 g_wh_43, xI E (a_mm 26) 10 g_an_43] H → va_D A [xModel h_mm a_mm (upd (upd (upd (upd (upd (upd (upd (upd mm 0 (0 : Int32)) 6 v3) 7 v4) 8 v5) 9 s_mm_9_43) 10 v7) 11 s_mm_11_43) 12 v9), xI E (a_mm 5) 60 bt, xI E (a_mm 14) 6 g_rn_43, xI E (a_mm 23) 8 ma, xI E (a_mm 24) 4 g_wh_43, xI E (a_mm 26) 10 g_an_43] → va_S A s.heap H locs → lv_has ls 4 [(0, .ref h_mm), (1, .int e_), (2, .int what)] → (∀ (os_mm_9_43 : Int32) (os_mm_11_43 : Int32) (og_rn_43 : Nat → Int32) (og_wh_43 : Nat → Int32) (og_an_43 : Nat → Int32) (H : Heap) (locs : List Loc) (ls : Array Slot), F_X10_told_l43 mm bt ma e_ v3 v4 v5 v7 v9 n_43 s_mm_9_43 s_mm_11_43 g_rn_43 g_wh_43 g_an_43 = (os_mm_9_43, os_mm_11_43, og_rn_43, og_wh_43, og_an_43) → va_P E.1 vwCl [xModel h_mm a_mm (upd (upd (upd (upd (upd (upd (upd (upd mm 0 (0 : Int32)) 6 v3) 7 v4) 8 v5) 9 os_mm_9_43) 10 v7) 11 os_mm_11_43) 12 v9), xI E (a_mm 5) 60 bt, xI E (a_mm 14) 6 og_rn_43, xI E (a_mm 23) 8 ma, xI E (a_mm 24) 4 og_wh_43, xI E (a_mm 26) 10 og_an_43] H → va_D A [xModel h_mm a_mm (upd (upd (upd (upd (upd (upd (upd (upd mm 0 (0 : Int32)) 6 v3) 7 v4) 8 v5) 9 os_mm_9_43) 10 v7) 11 os_mm_11_43) 12 v9), xI E (a_mm 5) 60 bt, xI E (a_mm 14) 6 og_rn_43, xI E (a_mm 23) 8 ma, xI E (a_mm 24) 4 og_wh_43, xI E (a_mm 26) 10 og_an_43] → va_S A s.heap H locs → lv_has ls 4 [(0, .ref h_mm), (1, .int e_), (2, .int what)] → W p l e ({ frames := 4, cells := 0, slots := 0, locals := 91 } : Room) s m ([.ref h_mm, .int e_, .int what] : List Value).toArray below meth c H locs 0 0 Q (F0 m 238 ls [])) → W p l e ({ frames := 4, cells := 0, slots := 0, locals := 91 } : Room) s m ([.ref h_mm, .int e_, .int what] : List Value).toArray below meth c H locs 0 0 Q (F0 m 43 ls []) := by
        intro n_43
        induction n_43 with
        | zero =>
          intro s_mm_9_43 s_mm_11_43 g_rn_43 g_wh_43 g_an_43 H locs ls hM hP hD hS hl hK
          have hM43 := hM
          obtain ⟨σ43, hσ043⟩ : ∃ σ, F_X10_told_l43 mm bt ma e_ v3 v4 v5 v7 v9 0 s_mm_9_43 s_mm_11_43 g_rn_43 g_wh_43 g_an_43 = σ := ⟨_, rfl⟩
          have hσ43 := hσ043.symm
          rw [F_X10_told_l43] at hσ43
          refine lv_aload_n hx hb dX10_told_43 rfl (lv_at hl 0 rfl) ?_
          refine va_get (D := E.1) (ci := 10) (v := .int s_mm_9_43) (C := RX10) (T := TX10) (N := 27) hx hb hts iX10_told_X10 hown hE.1 hP 0 rfl rfl 9 (by decide) (hts (.fieldLink RX10 98 "BandBoatModel" "strands" "I") (List.mem_of_getElem? (i := 3) rfl)) (fun _ h9 => h9) rfl dX10_told_44 ?_
          refine lv_bipush (v := (9 : Int32)) hx hb dX10_told_47 (by decide) ?_
          refine lv_icmp_ge (tgt := 238) hx hb dX10_told_49 (by decide) (fun c49 => ?_) (fun c49 => ?_)
          · exact hK s_mm_9_43 s_mm_11_43 g_rn_43 g_wh_43 g_an_43 _ _ _ (hσ043.trans hσ43) hP hD hS (lv_sub hl [0, 1, 2] rfl)
          · exact (cnt_lt0 c49 hM.1).elim
        | succ n_43 ih =>
          intro s_mm_9_43 s_mm_11_43 g_rn_43 g_wh_43 g_an_43 H locs ls hM hP hD hS hl hK
          have hM43 := hM
          obtain ⟨σ43, hσ043⟩ : ∃ σ, F_X10_told_l43 mm bt ma e_ v3 v4 v5 v7 v9 (n_43 + 1) s_mm_9_43 s_mm_11_43 g_rn_43 g_wh_43 g_an_43 = σ := ⟨_, rfl⟩
          have hσ43 := hσ043.symm
          rw [F_X10_told_l43] at hσ43
          obtain ⟨τ43, hτ043⟩ : ∃ τ, F_X10_told_b43 mm bt ma e_ v3 v4 v5 v7 v9 s_mm_9_43 s_mm_11_43 g_rn_43 g_wh_43 g_an_43 = τ := ⟨_, rfl⟩
          rw [hτ043] at hσ43
          have hτ43 := hτ043.symm
          unfold F_X10_told_b43 at hτ43
          refine lv_aload_n hx hb dX10_told_43 rfl (lv_at hl 0 rfl) ?_
          refine va_get (D := E.1) (ci := 10) (v := .int s_mm_9_43) (C := RX10) (T := TX10) (N := 27) hx hb hts iX10_told_X10 hown hE.1 hP 0 rfl rfl 9 (by decide) (hts (.fieldLink RX10 98 "BandBoatModel" "strands" "I") (List.mem_of_getElem? (i := 3) rfl)) (fun _ h9 => h9) rfl dX10_told_44 ?_
          refine lv_bipush (v := (9 : Int32)) hx hb dX10_told_47 (by decide) ?_
          refine lv_icmp_ge (tgt := 238) hx hb dX10_told_49 (by decide) (fun c49 => ?_) (fun c49 => ?_)
          · rw [if_pos c49] at hτ43
            have hσ43 : σ43 = (s_mm_9_43, s_mm_11_43, g_rn_43, g_wh_43, g_an_43) := by subst hτ43; exact hσ43
            exact hK s_mm_9_43 s_mm_11_43 g_rn_43 g_wh_43 g_an_43 _ _ _ (hσ043.trans hσ43) hP hD hS (lv_sub hl [0, 1, 2] rfl)
          · rw [if_neg c49] at hτ43
            refine lv_aload_n hx hb dX10_told_52 rfl (lv_at hl 0 rfl) ?_
            refine lv_iconst (v := (1 : Int32)) hx hb dX10_told_53 (by decide) ?_
            refine va_put (D := E.1) (ci := 10) (v := .int (1 : Int32)) (ty := .int) (C := RX10) (T := TX10) (N := 27) hx hb hts iX10_told_X10 tyX10 tyX10_ok nmX10 hown hE.1 hP hD hS 0 rfl rfl 11 (by decide) (hts (.fieldLink RX10 104 "BandBoatModel" "pitch" "I") (List.mem_of_getElem? (i := 4) rfl)) (fun _ h9 => h9) rfl (by decide +kernel) rfl rfl (Nat.le_of_ble_eq_true rfl) dX10_told_54 (fun H locs hP hD hS => ?_)
            have hP : va_P E.1 vwCl [xModel h_mm a_mm (upd (upd (upd (upd (upd (upd (upd (upd mm 0 (0 : Int32)) 6 v3) 7 v4) 8 v5) 9 s_mm_9_43) 10 v7) 11 (1 : Int32)) 12 v9), xI E (a_mm 5) 60 bt, xI E (a_mm 14) 6 g_rn_43, xI E (a_mm 23) 8 ma, xI E (a_mm 24) 4 g_wh_43, xI E (a_mm 26) 10 g_an_43] H := hP
            have hD : va_D A [xModel h_mm a_mm (upd (upd (upd (upd (upd (upd (upd (upd mm 0 (0 : Int32)) 6 v3) 7 v4) 8 v5) 9 s_mm_9_43) 10 v7) 11 (1 : Int32)) 12 v9), xI E (a_mm 5) 60 bt, xI E (a_mm 14) 6 g_rn_43, xI E (a_mm 23) 8 ma, xI E (a_mm 24) 4 g_wh_43, xI E (a_mm 26) 10 g_an_43] := hD
            have hL57 : ∀ (n_57 : Nat) (s_mm_11_57 : Int32) (g_rn_57 : Nat → Int32) (g_wh_57 : Nat → Int32) (g_an_57 : Nat → Int32) (H : Heap) (locs : List Loc) (ls : Array Slot), (((10 : Int32) : Int32).toInt ≤ (s_mm_11_57).toInt + (n_57 : Nat)) ∧ (1 ≤ (s_mm_11_57).toInt) → va_P E.1 vwCl [xModel h_mm a_mm (upd (upd (upd (upd (upd (upd (upd (upd mm 0 (0 : Int32)) 6 v3) 7 v4) 8 v5) 9 s_mm_9_43) 10 v7) 11 s_mm_11_57) 12 v9), xI E (a_mm 5) 60 bt, xI E (a_mm 14) 6 g_rn_57, xI E (a_mm 23) 8 ma, xI E (a_mm 24) 4 g_wh_57, xI E (a_mm 26) 10 g_an_57] H → va_D A [xModel h_mm a_mm (upd (upd (upd (upd (upd (upd (upd (upd mm 0 (0 : Int32)) 6 v3) 7 v4) 8 v5) 9 s_mm_9_43) 10 v7) 11 s_mm_11_57) 12 v9), xI E (a_mm 5) 60 bt, xI E (a_mm 14) 6 g_rn_57, xI E (a_mm 23) 8 ma, xI E (a_mm 24) 4 g_wh_57, xI E (a_mm 26) 10 g_an_57] → va_S A s.heap H locs → lv_has ls 4 [(0, .ref h_mm), (1, .int e_), (2, .int what)] → (∀ (os_mm_11_57 : Int32) (og_rn_57 : Nat → Int32) (og_wh_57 : Nat → Int32) (og_an_57 : Nat → Int32) (H : Heap) (locs : List Loc) (ls : Array Slot), F_X10_told_l57 mm bt ma e_ v3 v4 v5 v7 v9 s_mm_9_43 n_57 s_mm_11_57 g_rn_57 g_wh_57 g_an_57 = (os_mm_11_57, og_rn_57, og_wh_57, og_an_57) → va_P E.1 vwCl [xModel h_mm a_mm (upd (upd (upd (upd (upd (upd (upd (upd mm 0 (0 : Int32)) 6 v3) 7 v4) 8 v5) 9 s_mm_9_43) 10 v7) 11 os_mm_11_57) 12 v9), xI E (a_mm 5) 60 bt, xI E (a_mm 14) 6 og_rn_57, xI E (a_mm 23) 8 ma, xI E (a_mm 24) 4 og_wh_57, xI E (a_mm 26) 10 og_an_57] H → va_D A [xModel h_mm a_mm (upd (upd (upd (upd (upd (upd (upd (upd mm 0 (0 : Int32)) 6 v3) 7 v4) 8 v5) 9 s_mm_9_43) 10 v7) 11 os_mm_11_57) 12 v9), xI E (a_mm 5) 60 bt, xI E (a_mm 14) 6 og_rn_57, xI E (a_mm 23) 8 ma, xI E (a_mm 24) 4 og_wh_57, xI E (a_mm 26) 10 og_an_57] → va_S A s.heap H locs → lv_has ls 4 [(0, .ref h_mm), (1, .int e_), (2, .int what)] → W p l e ({ frames := 4, cells := 0, slots := 0, locals := 91 } : Room) s m ([.ref h_mm, .int e_, .int what] : List Value).toArray below meth c H locs 0 0 Q (F0 m 225 ls [])) → W p l e ({ frames := 4, cells := 0, slots := 0, locals := 91 } : Room) s m ([.ref h_mm, .int e_, .int what] : List Value).toArray below meth c H locs 0 0 Q (F0 m 57 ls []) := by
              intro n_57
              induction n_57 with
              | zero =>
                intro s_mm_11_57 g_rn_57 g_wh_57 g_an_57 H locs ls hM hP hD hS hl hK
                have hM57 := hM
                obtain ⟨σ57, hσ057⟩ : ∃ σ, F_X10_told_l57 mm bt ma e_ v3 v4 v5 v7 v9 s_mm_9_43 0 s_mm_11_57 g_rn_57 g_wh_57 g_an_57 = σ := ⟨_, rfl⟩
                have hσ57 := hσ057.symm
                rw [F_X10_told_l57] at hσ57
                refine lv_aload_n hx hb dX10_told_57 rfl (lv_at hl 0 rfl) ?_
                refine va_get (D := E.1) (ci := 10) (v := .int s_mm_11_57) (C := RX10) (T := TX10) (N := 27) hx hb hts iX10_told_X10 hown hE.1 hP 0 rfl rfl 11 (by decide) (hts (.fieldLink RX10 104 "BandBoatModel" "pitch" "I") (List.mem_of_getElem? (i := 4) rfl)) (fun _ h9 => h9) rfl dX10_told_58 ?_
                refine lv_bipush (v := (10 : Int32)) hx hb dX10_told_61 (by decide) ?_
                refine lv_icmp_ge (tgt := 225) hx hb dX10_told_63 (by decide) (fun c63 => ?_) (fun c63 => ?_)
                · exact hK s_mm_11_57 g_rn_57 g_wh_57 g_an_57 _ _ _ (hσ057.trans hσ57) hP hD hS (lv_sub hl [0, 1, 2] rfl)
                · exact (cnt_lt0 c63 hM.1).elim
              | succ n_57 ih =>
                intro s_mm_11_57 g_rn_57 g_wh_57 g_an_57 H locs ls hM hP hD hS hl hK
                have hM57 := hM
                obtain ⟨σ57, hσ057⟩ : ∃ σ, F_X10_told_l57 mm bt ma e_ v3 v4 v5 v7 v9 s_mm_9_43 (n_57 + 1) s_mm_11_57 g_rn_57 g_wh_57 g_an_57 = σ := ⟨_, rfl⟩
                have hσ57 := hσ057.symm
                rw [F_X10_told_l57] at hσ57
                obtain ⟨τ57, hτ057⟩ : ∃ τ, F_X10_told_b57 mm bt ma e_ v3 v4 v5 v7 v9 s_mm_9_43 s_mm_11_57 g_rn_57 g_wh_57 g_an_57 = τ := ⟨_, rfl⟩
                rw [hτ057] at hσ57
                have hτ57 := hτ057.symm
                unfold F_X10_told_b57 at hτ57
                refine lv_aload_n hx hb dX10_told_57 rfl (lv_at hl 0 rfl) ?_
                refine va_get (D := E.1) (ci := 10) (v := .int s_mm_11_57) (C := RX10) (T := TX10) (N := 27) hx hb hts iX10_told_X10 hown hE.1 hP 0 rfl rfl 11 (by decide) (hts (.fieldLink RX10 104 "BandBoatModel" "pitch" "I") (List.mem_of_getElem? (i := 4) rfl)) (fun _ h9 => h9) rfl dX10_told_58 ?_
                refine lv_bipush (v := (10 : Int32)) hx hb dX10_told_61 (by decide) ?_
                refine lv_icmp_ge (tgt := 225) hx hb dX10_told_63 (by decide) (fun c63 => ?_) (fun c63 => ?_)
                · rw [if_pos c63] at hτ57
                  have hσ57 : σ57 = (s_mm_11_57, g_rn_57, g_wh_57, g_an_57) := by subst hτ57; exact hσ57
                  exact hK s_mm_11_57 g_rn_57 g_wh_57 g_an_57 _ _ _ (hσ057.trans hσ57) hP hD hS (lv_sub hl [0, 1, 2] rfl)
                · rw [if_neg c63] at hτ57
                  refine lv_bipush (v := (10 : Int32)) hx hb dX10_told_66 (by decide) ?_
                  refine lv_istore_n (lv' := [(3, .int (10 : Int32)), (0, .ref h_mm), (1, .int e_), (2, .int what)]) hx hb dX10_told_68 rfl hl (by decide) rfl (fun ls hl => ?_)
                  have hL69 : ∀ (n_69 : Nat) (x3_69 : Int32) (g_rn_69 : Nat → Int32) (g_wh_69 : Nat → Int32) (g_an_69 : Nat → Int32) (H : Heap) (locs : List Loc) (ls : Array Slot), ((400 : Int32).toInt < (x3_69).toInt + 10 * (n_69 : Nat) ∧ 0 ≤ (x3_69).toInt) → va_P E.1 vwCl [xModel h_mm a_mm (upd (upd (upd (upd (upd (upd (upd (upd mm 0 (0 : Int32)) 6 v3) 7 v4) 8 v5) 9 s_mm_9_43) 10 v7) 11 s_mm_11_57) 12 v9), xI E (a_mm 5) 60 bt, xI E (a_mm 14) 6 g_rn_69, xI E (a_mm 23) 8 ma, xI E (a_mm 24) 4 g_wh_69, xI E (a_mm 26) 10 g_an_69] H → va_D A [xModel h_mm a_mm (upd (upd (upd (upd (upd (upd (upd (upd mm 0 (0 : Int32)) 6 v3) 7 v4) 8 v5) 9 s_mm_9_43) 10 v7) 11 s_mm_11_57) 12 v9), xI E (a_mm 5) 60 bt, xI E (a_mm 14) 6 g_rn_69, xI E (a_mm 23) 8 ma, xI E (a_mm 24) 4 g_wh_69, xI E (a_mm 26) 10 g_an_69] → va_S A s.heap H locs → lv_has ls 4 [(3, .int x3_69), (0, .ref h_mm), (1, .int e_), (2, .int what)] → (∀ (ox3_69 : Int32) (og_rn_69 : Nat → Int32) (og_wh_69 : Nat → Int32) (og_an_69 : Nat → Int32) (H : Heap) (locs : List Loc) (ls : Array Slot), F_X10_told_l69 mm bt ma e_ v3 v4 v5 v7 v9 s_mm_9_43 s_mm_11_57 n_69 x3_69 g_rn_69 g_wh_69 g_an_69 = (ox3_69, og_rn_69, og_wh_69, og_an_69) → va_P E.1 vwCl [xModel h_mm a_mm (upd (upd (upd (upd (upd (upd (upd (upd mm 0 (0 : Int32)) 6 v3) 7 v4) 8 v5) 9 s_mm_9_43) 10 v7) 11 s_mm_11_57) 12 v9), xI E (a_mm 5) 60 bt, xI E (a_mm 14) 6 og_rn_69, xI E (a_mm 23) 8 ma, xI E (a_mm 24) 4 og_wh_69, xI E (a_mm 26) 10 og_an_69] H → va_D A [xModel h_mm a_mm (upd (upd (upd (upd (upd (upd (upd (upd mm 0 (0 : Int32)) 6 v3) 7 v4) 8 v5) 9 s_mm_9_43) 10 v7) 11 s_mm_11_57) 12 v9), xI E (a_mm 5) 60 bt, xI E (a_mm 14) 6 og_rn_69, xI E (a_mm 23) 8 ma, xI E (a_mm 24) 4 og_wh_69, xI E (a_mm 26) 10 og_an_69] → va_S A s.heap H locs → lv_has ls 4 [(3, .int ox3_69), (0, .ref h_mm), (1, .int e_), (2, .int what)] → W p l e ({ frames := 4, cells := 0, slots := 0, locals := 91 } : Room) s m ([.ref h_mm, .int e_, .int what] : List Value).toArray below meth c H locs 0 0 Q (F0 m 212 ls [])) → W p l e ({ frames := 4, cells := 0, slots := 0, locals := 91 } : Room) s m ([.ref h_mm, .int e_, .int what] : List Value).toArray below meth c H locs 0 0 Q (F0 m 69 ls []) := by
                    intro n_69
                    induction n_69 with
                    | zero =>
                      intro x3_69 g_rn_69 g_wh_69 g_an_69 H locs ls hM hP hD hS hl hK
                      have hM69 := hM
                      obtain ⟨σ69, hσ069⟩ : ∃ σ, F_X10_told_l69 mm bt ma e_ v3 v4 v5 v7 v9 s_mm_9_43 s_mm_11_57 0 x3_69 g_rn_69 g_wh_69 g_an_69 = σ := ⟨_, rfl⟩
                      have hσ69 := hσ069.symm
                      rw [F_X10_told_l69] at hσ69
                      refine lv_iload_n hx hb dX10_told_69 rfl (lv_at hl 0 rfl) ?_
                      refine lv_sipush (v := (401 : Int32)) hx hb dX10_told_70 (by decide) ?_
                      refine lv_icmp_ge (tgt := 212) hx hb dX10_told_73 (by decide) (fun c73 => ?_) (fun c73 => ?_)
                      · exact hK x3_69 g_rn_69 g_wh_69 g_an_69 _ _ _ (hσ069.trans hσ69) hP hD hS (lv_sub hl [0, 1, 2, 3] rfl)
                      · exact ((by have := lt_nle c73; have h4 : (401 : Int32).toInt = 401 := rfl; have h5 : (400 : Int32).toInt = 400 := rfl; omega : False)).elim
                    | succ n_69 ih =>
                      intro x3_69 g_rn_69 g_wh_69 g_an_69 H locs ls hM hP hD hS hl hK
                      have hM69 := hM
                      obtain ⟨σ69, hσ069⟩ : ∃ σ, F_X10_told_l69 mm bt ma e_ v3 v4 v5 v7 v9 s_mm_9_43 s_mm_11_57 (n_69 + 1) x3_69 g_rn_69 g_wh_69 g_an_69 = σ := ⟨_, rfl⟩
                      have hσ69 := hσ069.symm
                      rw [F_X10_told_l69] at hσ69
                      obtain ⟨τ69, hτ069⟩ : ∃ τ, F_X10_told_b69 mm bt ma e_ v3 v4 v5 v7 v9 s_mm_9_43 s_mm_11_57 x3_69 g_rn_69 g_wh_69 g_an_69 = τ := ⟨_, rfl⟩
                      rw [hτ069] at hσ69
                      have hτ69 := hτ069.symm
                      unfold F_X10_told_b69 at hτ69
                      refine lv_iload_n hx hb dX10_told_69 rfl (lv_at hl 0 rfl) ?_
                      refine lv_sipush (v := (401 : Int32)) hx hb dX10_told_70 (by decide) ?_
                      refine lv_icmp_ge (tgt := 212) hx hb dX10_told_73 (by decide) (fun c73 => ?_) (fun c73 => ?_)
                      · rw [if_pos c73] at hτ69
                        have hσ69 : σ69 = (x3_69, g_rn_69, g_wh_69, g_an_69) := by subst hτ69; exact hσ69
                        exact hK x3_69 g_rn_69 g_wh_69 g_an_69 _ _ _ (hσ069.trans hσ69) hP hD hS (lv_sub hl [0, 1, 2, 3] rfl)
                      · rw [if_neg c73] at hτ69
                        refine lv_aload_n hx hb dX10_told_76 rfl (lv_at hl 1 rfl) ?_
                        refine lv_iload_n hx hb dX10_told_77 rfl (lv_at hl 0 rfl) ?_
                        refine kV (wc := [xModel h_mm a_mm (upd (upd (upd (upd (upd (upd (upd (upd mm 0 (0 : Int32)) 6 v3) 7 v4) 8 v5) 9 s_mm_9_43) 10 v7) 11 s_mm_11_57) 12 v9), xI E (a_mm 5) 60 bt, xI E (a_mm 14) 6 g_rn_69, xI E (a_mm 23) 8 ma, xI E (a_mm 24) 4 g_wh_69]) (wr := [xI E (a_mm 26) 10 g_an_69]) (wc' := (fun (u : (Nat → Int32) × (Nat → Int32)) => [xModel h_mm a_mm (upd (upd (upd (upd (upd (upd (upd (upd mm 0 (0 : Int32)) 6 v3) 7 v4) 8 v5) 9 s_mm_9_43) 10 v7) 11 s_mm_11_57) 12 v9), xI E (a_mm 5) 60 bt, xI E (a_mm 14) 6 u.1, xI E (a_mm 23) 8 ma, xI E (a_mm 24) 4 u.2])) (wn := (fun (u : (Nat → Int32) × (Nat → Int32)) => [xModel h_mm a_mm (upd (upd (upd (upd (upd (upd (upd (upd mm 0 (0 : Int32)) 6 v3) 7 v4) 8 v5) 9 s_mm_9_43) 10 v7) 11 s_mm_11_57) 12 v9), xI E (a_mm 5) 60 bt, xI E (a_mm 14) 6 u.1, xI E (a_mm 23) 8 ma, xI E (a_mm 24) 4 u.2, xI E (a_mm 26) 10 g_an_69])) (isC := [0, 1, 2, 3, 4]) (isR := [5]) (is2 := [1, 2, 3, 4, 5, 0]) cx hP hD hS ⟨rfl, rfl, by decide, by decide, by decide, by decide, fun _ => rfl⟩ (rV (As := [.int x3_69]) (rest := []) (C := RX10) (q0 := 0) (ci := 10) cx (c_X10_runsByMarks l E h_mm a_mm (upd (upd (upd (upd (upd (upd (upd (upd mm 0 (0 : Int32)) 6 v3) 7 v4) 8 v5) 9 s_mm_9_43) 10 v7) 11 s_mm_11_57) 12 v9) bt g_rn_69 ma g_wh_69 x3_69 (hB) (⟨ne0_of hM43.2, (by show ¬ ((10 : Int32) * _) = 0; rw [hn28.2.1]; exact hB.2.2.1), ten_p hM57.2 (by have h := lt_nle c63; have h10 : (10 : Int32).toInt = 10 := rfl; show (s_mm_11_57).toInt ≤ 10; omega)⟩) (hMk) _) (cwV 1 hts gX10_told_X10_runsByMarks rfl rfl rfl (by decide +kernel) ⟨Nat.le_of_ble_eq_true rfl, Nat.le_of_ble_eq_true rfl⟩) rfl rfl rfl rfl hl.1 rfl (Nat.le_of_ble_eq_true rfl) dX10_told_78 ⟨Nat.zero_le _, Nat.zero_le _⟩) (fun u H locs hw hP hD hS => ?_)
                        obtain ⟨g10, g11⟩ := u
                        have hP : va_P E.1 vwCl [xModel h_mm a_mm (upd (upd (upd (upd (upd (upd (upd (upd mm 0 (0 : Int32)) 6 v3) 7 v4) 8 v5) 9 s_mm_9_43) 10 v7) 11 s_mm_11_57) 12 v9), xI E (a_mm 5) 60 bt, xI E (a_mm 14) 6 g10, xI E (a_mm 23) 8 ma, xI E (a_mm 24) 4 g11, xI E (a_mm 26) 10 g_an_69] H := hP
                        have hD : va_D A [xModel h_mm a_mm (upd (upd (upd (upd (upd (upd (upd (upd mm 0 (0 : Int32)) 6 v3) 7 v4) 8 v5) 9 s_mm_9_43) 10 v7) 11 s_mm_11_57) 12 v9), xI E (a_mm 5) 60 bt, xI E (a_mm 14) 6 g10, xI E (a_mm 23) 8 ma, xI E (a_mm 24) 4 g11, xI E (a_mm 26) 10 g_an_69] := hD
                        have hw : F_X10_runsByMarks (upd (upd (upd (upd (upd (upd (upd (upd mm 0 (0 : Int32)) 6 v3) 7 v4) 8 v5) 9 s_mm_9_43) 10 v7) 11 s_mm_11_57) 12 v9) bt g_rn_69 ma g_wh_69 x3_69 = (g10, g11) := hw
                        rw [hw] at hτ69
                        have hτ69 : τ69 = F_X10_told_k78 mm ma e_ v3 v4 v5 v7 v9 s_mm_9_43 s_mm_11_57 x3_69 g_an_69 g10 g11 := hτ69
                        unfold F_X10_told_k78 at hτ69
                        refine lv_aload_n hx hb dX10_told_81 rfl (lv_at hl 1 rfl) ?_
                        refine lv_iload_n hx hb dX10_told_82 rfl (lv_at hl 2 rfl) ?_
                        refine kI (wc := [xModel h_mm a_mm (upd (upd (upd (upd (upd (upd (upd (upd mm 0 (0 : Int32)) 6 v3) 7 v4) 8 v5) 9 s_mm_9_43) 10 v7) 11 s_mm_11_57) 12 v9), xI E (a_mm 23) 8 ma, xI E (a_mm 24) 4 g11]) (wr := [xI E (a_mm 5) 60 bt, xI E (a_mm 14) 6 g10, xI E (a_mm 26) 10 g_an_69]) (wc' := (fun (_ : Unit) => [xModel h_mm a_mm (upd (upd (upd (upd (upd (upd (upd (upd mm 0 (0 : Int32)) 6 v3) 7 v4) 8 v5) 9 s_mm_9_43) 10 v7) 11 s_mm_11_57) 12 v9), xI E (a_mm 23) 8 ma, xI E (a_mm 24) 4 g11])) (wn := (fun (_ : Unit) => [xModel h_mm a_mm (upd (upd (upd (upd (upd (upd (upd (upd mm 0 (0 : Int32)) 6 v3) 7 v4) 8 v5) 9 s_mm_9_43) 10 v7) 11 s_mm_11_57) 12 v9), xI E (a_mm 5) 60 bt, xI E (a_mm 14) 6 g10, xI E (a_mm 23) 8 ma, xI E (a_mm 24) 4 g11, xI E (a_mm 26) 10 g_an_69])) (isC := [0, 3, 4]) (isR := [1, 2, 5]) (is2 := [3, 0, 1, 4, 5, 2]) cx hP hD hS ⟨rfl, rfl, by decide, by decide, by decide, by decide, fun _ => rfl⟩ (rV (As := [.int e_]) (rest := []) (C := RX10) (q0 := 0) (ci := 10) cx (c_X10_isByMarks l E h_mm a_mm (upd (upd (upd (upd (upd (upd (upd (upd mm 0 (0 : Int32)) 6 v3) 7 v4) 8 v5) 9 s_mm_9_43) 10 v7) 11 s_mm_11_57) 12 v9) ma g11 e_ (hMk) _) (cwV 1 hts gX10_told_X10_isByMarks rfl rfl rfl (by decide +kernel) ⟨Nat.le_of_ble_eq_true rfl, Nat.le_of_ble_eq_true rfl⟩) rfl rfl rfl rfl hl.1 rfl (Nat.le_of_ble_eq_true rfl) dX10_told_83 ⟨Nat.zero_le _, Nat.zero_le _⟩) (fun r12 u H locs hw hP hD hS => ?_)
                        subst hw
                        have hJ206 : ∀ (g_an_206 : Nat → Int32) (H : Heap) (locs : List Loc) (ls : Array Slot), τ69 = F_X10_told_j206 x3_69 g10 g11 g_an_206 → va_P E.1 vwCl [xModel h_mm a_mm (upd (upd (upd (upd (upd (upd (upd (upd mm 0 (0 : Int32)) 6 v3) 7 v4) 8 v5) 9 s_mm_9_43) 10 v7) 11 s_mm_11_57) 12 v9), xI E (a_mm 5) 60 bt, xI E (a_mm 14) 6 g10, xI E (a_mm 23) 8 ma, xI E (a_mm 24) 4 g11, xI E (a_mm 26) 10 g_an_206] H → va_D A [xModel h_mm a_mm (upd (upd (upd (upd (upd (upd (upd (upd mm 0 (0 : Int32)) 6 v3) 7 v4) 8 v5) 9 s_mm_9_43) 10 v7) 11 s_mm_11_57) 12 v9), xI E (a_mm 5) 60 bt, xI E (a_mm 14) 6 g10, xI E (a_mm 23) 8 ma, xI E (a_mm 24) 4 g11, xI E (a_mm 26) 10 g_an_206] → va_S A s.heap H locs → lv_has ls 4 [(3, .int x3_69), (0, .ref h_mm), (1, .int e_), (2, .int what)] → W p l e ({ frames := 4, cells := 0, slots := 0, locals := 91 } : Room) s m ([.ref h_mm, .int e_, .int what] : List Value).toArray below meth c H locs 0 0 Q (F0 m 206 ls []) := by
                          intro g_an_206 H locs ls hτ69 hP hD hS hl
                          unfold F_X10_told_j206 at hτ69
                          refine lv_iinc (v := (x3_69 + (10 : Int32))) (lv' := [(3, .int (x3_69 + (10 : Int32))), (0, .ref h_mm), (1, .int e_), (2, .int what)]) hx hb dX10_told_206 hl (k := 0) rfl rfl (by decide) rfl (fun ls hl => ?_)
                          refine lv_goto (tgt := 69) hx hb dX10_told_209 (by decide) ?_
                          have hσ69 : σ69 = F_X10_told_l69 mm bt ma e_ v3 v4 v5 v7 v9 s_mm_9_43 s_mm_11_57 n_69 (x3_69 + (10 : Int32)) g10 g11 g_an_206 := by subst hτ69; exact hσ69
                          exact ih (x3_69 + (10 : Int32)) g10 g11 g_an_206 _ _ _ (cnt_step10' c73 hM69) hP hD hS (lv_sub hl [0, 1, 2, 3] rfl) (fun ox3_69 og_rn_69 og_wh_69 og_an_69 H locs ls he => hK ox3_69 og_rn_69 og_wh_69 og_an_69 H locs ls (hσ069.trans (hσ69.trans he)))
                        refine lv_if_eq (tgt := 206) hx hb dX10_told_86 (by decide) (fun c86 => ?_) (fun c86 => ?_)
                        · rw [if_pos c86] at hτ69
                          exact hJ206 g_an_69 _ _ _ hτ69 hP hD hS (lv_sub hl [0, 1, 2, 3] rfl)
                        · rw [if_neg c86] at hτ69
                          refine lv_aload_n hx hb dX10_told_89 rfl (lv_at hl 1 rfl) ?_
                          refine va_get (D := E.1) (ci := 10) (v := .ref (a_mm 26)) (C := RX10) (T := TX10) (N := 27) hx hb hts iX10_told_X10 hown hE.1 hP 0 rfl rfl 26 (by decide) (hts (.fieldLink RX10 34 "BandBoatModel" "answer" "[I") (List.mem_of_getElem? (i := 2) rfl)) (fun _ h9 => h9) rfl dX10_told_90 ?_
                          refine lv_iconst (v := (1 : Int32)) hx hb dX10_told_93 (by decide) ?_
                          refine lv_aload_n hx hb dX10_told_94 rfl (lv_at hl 1 rfl) ?_
                          refine va_get (D := E.1) (ci := 10) (v := .ref (a_mm 26)) (C := RX10) (T := TX10) (N := 27) hx hb hts iX10_told_X10 hown hE.1 hP 0 rfl rfl 26 (by decide) (hts (.fieldLink RX10 34 "BandBoatModel" "answer" "[I") (List.mem_of_getElem? (i := 2) rfl)) (fun _ h9 => h9) rfl dX10_told_95 ?_
                          refine lv_iconst (v := (0 : Int32)) hx hb dX10_told_98 (by decide) ?_
                          refine ar_ild (k := 0) (v := (g_an_69 0)) hx hb hE hP 5 rfl (by unfold vp_in; decide) rfl rfl dX10_told_99 ?_
                          have hJ116 : ∀ (y0_116 : Int32) (H : Heap) (locs : List Loc) (ls : Array Slot), τ69 = F_X10_told_j116 s_mm_9_43 s_mm_11_57 x3_69 g_an_69 g10 g11 y0_116 → va_P E.1 vwCl [xModel h_mm a_mm (upd (upd (upd (upd (upd (upd (upd (upd mm 0 (0 : Int32)) 6 v3) 7 v4) 8 v5) 9 s_mm_9_43) 10 v7) 11 s_mm_11_57) 12 v9), xI E (a_mm 5) 60 bt, xI E (a_mm 14) 6 g10, xI E (a_mm 23) 8 ma, xI E (a_mm 24) 4 g11, xI E (a_mm 26) 10 g_an_69] H → va_D A [xModel h_mm a_mm (upd (upd (upd (upd (upd (upd (upd (upd mm 0 (0 : Int32)) 6 v3) 7 v4) 8 v5) 9 s_mm_9_43) 10 v7) 11 s_mm_11_57) 12 v9), xI E (a_mm 5) 60 bt, xI E (a_mm 14) 6 g10, xI E (a_mm 23) 8 ma, xI E (a_mm 24) 4 g11, xI E (a_mm 26) 10 g_an_69] → va_S A s.heap H locs → lv_has ls 4 [(3, .int x3_69), (0, .ref h_mm), (1, .int e_), (2, .int what)] → W p l e ({ frames := 4, cells := 0, slots := 0, locals := 91 } : Room) s m ([.ref h_mm, .int e_, .int what] : List Value).toArray below meth c H locs 0 0 Q (F0 m 116 ls [.int y0_116, .int (1 : Int32), .ref (a_mm 26)]) := by
                            intro y0_116 H locs ls hτ69 hP hD hS hl
                            unfold F_X10_told_j116 at hτ69
                            refine ar_ist (k := 1) (ws' := [xModel h_mm a_mm (upd (upd (upd (upd (upd (upd (upd (upd mm 0 (0 : Int32)) 6 v3) 7 v4) 8 v5) 9 s_mm_9_43) 10 v7) 11 s_mm_11_57) 12 v9), xI E (a_mm 5) 60 bt, xI E (a_mm 14) 6 g10, xI E (a_mm 23) 8 ma, xI E (a_mm 24) 4 g11, xI E (a_mm 26) 10 (upd g_an_69 1 y0_116)]) hx hb hE hP hD hS 5 rfl (by unfold vp_in; decide) rfl rfl dX10_told_116 (fun H locs hP hD hS => ?_)
                            refine lv_aload_n hx hb dX10_told_117 rfl (lv_at hl 1 rfl) ?_
                            refine va_get (D := E.1) (ci := 10) (v := .ref (a_mm 26)) (C := RX10) (T := TX10) (N := 27) hx hb hts iX10_told_X10 hown hE.1 hP 0 rfl rfl 26 (by decide) (hts (.fieldLink RX10 34 "BandBoatModel" "answer" "[I") (List.mem_of_getElem? (i := 2) rfl)) (fun _ h9 => h9) rfl dX10_told_118 ?_
                            refine lv_iconst (v := (2 : Int32)) hx hb dX10_told_121 (by decide) ?_
                            refine lv_aload_n hx hb dX10_told_122 rfl (lv_at hl 1 rfl) ?_
                            refine va_get (D := E.1) (ci := 10) (v := .ref (a_mm 26)) (C := RX10) (T := TX10) (N := 27) hx hb hts iX10_told_X10 hown hE.1 hP 0 rfl rfl 26 (by decide) (hts (.fieldLink RX10 34 "BandBoatModel" "answer" "[I") (List.mem_of_getElem? (i := 2) rfl)) (fun _ h9 => h9) rfl dX10_told_123 ?_
                            refine lv_iconst (v := (0 : Int32)) hx hb dX10_told_126 (by decide) ?_
                            refine ar_ild (k := 0) (v := (g_an_69 0)) hx hb hE hP 5 rfl (by unfold vp_in; decide) rfl rfl dX10_told_127 ?_
                            have hJ144 : ∀ (y0_144 : Int32) (H : Heap) (locs : List Loc) (ls : Array Slot), τ69 = F_X10_told_j144 s_mm_9_43 s_mm_11_57 x3_69 g_an_69 g10 g11 y0_116 y0_144 → va_P E.1 vwCl [xModel h_mm a_mm (upd (upd (upd (upd (upd (upd (upd (upd mm 0 (0 : Int32)) 6 v3) 7 v4) 8 v5) 9 s_mm_9_43) 10 v7) 11 s_mm_11_57) 12 v9), xI E (a_mm 5) 60 bt, xI E (a_mm 14) 6 g10, xI E (a_mm 23) 8 ma, xI E (a_mm 24) 4 g11, xI E (a_mm 26) 10 (upd g_an_69 1 y0_116)] H → va_D A [xModel h_mm a_mm (upd (upd (upd (upd (upd (upd (upd (upd mm 0 (0 : Int32)) 6 v3) 7 v4) 8 v5) 9 s_mm_9_43) 10 v7) 11 s_mm_11_57) 12 v9), xI E (a_mm 5) 60 bt, xI E (a_mm 14) 6 g10, xI E (a_mm 23) 8 ma, xI E (a_mm 24) 4 g11, xI E (a_mm 26) 10 (upd g_an_69 1 y0_116)] → va_S A s.heap H locs → lv_has ls 4 [(3, .int x3_69), (0, .ref h_mm), (1, .int e_), (2, .int what)] → W p l e ({ frames := 4, cells := 0, slots := 0, locals := 91 } : Room) s m ([.ref h_mm, .int e_, .int what] : List Value).toArray below meth c H locs 0 0 Q (F0 m 144 ls [.int y0_144, .int (2 : Int32), .ref (a_mm 26)]) := by
                              intro y0_144 H locs ls hτ69 hP hD hS hl
                              unfold F_X10_told_j144 at hτ69
                              refine ar_ist (k := 2) (ws' := [xModel h_mm a_mm (upd (upd (upd (upd (upd (upd (upd (upd mm 0 (0 : Int32)) 6 v3) 7 v4) 8 v5) 9 s_mm_9_43) 10 v7) 11 s_mm_11_57) 12 v9), xI E (a_mm 5) 60 bt, xI E (a_mm 14) 6 g10, xI E (a_mm 23) 8 ma, xI E (a_mm 24) 4 g11, xI E (a_mm 26) 10 (upd (upd g_an_69 1 y0_116) 2 y0_144)]) hx hb hE hP hD hS 5 rfl (by unfold vp_in; decide) rfl rfl dX10_told_144 (fun H locs hP hD hS => ?_)
                              refine lv_aload_n hx hb dX10_told_145 rfl (lv_at hl 1 rfl) ?_
                              refine va_get (D := E.1) (ci := 10) (v := .ref (a_mm 26)) (C := RX10) (T := TX10) (N := 27) hx hb hts iX10_told_X10 hown hE.1 hP 0 rfl rfl 26 (by decide) (hts (.fieldLink RX10 34 "BandBoatModel" "answer" "[I") (List.mem_of_getElem? (i := 2) rfl)) (fun _ h9 => h9) rfl dX10_told_146 ?_
                              refine lv_iconst (v := (3 : Int32)) hx hb dX10_told_149 (by decide) ?_
                              refine lv_aload_n hx hb dX10_told_150 rfl (lv_at hl 1 rfl) ?_
                              refine va_get (D := E.1) (ci := 10) (v := .ref (a_mm 26)) (C := RX10) (T := TX10) (N := 27) hx hb hts iX10_told_X10 hown hE.1 hP 0 rfl rfl 26 (by decide) (hts (.fieldLink RX10 34 "BandBoatModel" "answer" "[I") (List.mem_of_getElem? (i := 2) rfl)) (fun _ h9 => h9) rfl dX10_told_151 ?_
                              refine lv_iconst (v := (0 : Int32)) hx hb dX10_told_154 (by decide) ?_
                              refine ar_ild (k := 0) (v := (g_an_69 0)) hx hb hE hP 5 rfl (by unfold vp_in; decide) rfl rfl dX10_told_155 ?_
                              have hJ169 : ∀ (y0_169 : Int32) (H : Heap) (locs : List Loc) (ls : Array Slot), τ69 = F_X10_told_j169 s_mm_9_43 s_mm_11_57 x3_69 g_an_69 g10 g11 y0_116 y0_144 y0_169 → va_P E.1 vwCl [xModel h_mm a_mm (upd (upd (upd (upd (upd (upd (upd (upd mm 0 (0 : Int32)) 6 v3) 7 v4) 8 v5) 9 s_mm_9_43) 10 v7) 11 s_mm_11_57) 12 v9), xI E (a_mm 5) 60 bt, xI E (a_mm 14) 6 g10, xI E (a_mm 23) 8 ma, xI E (a_mm 24) 4 g11, xI E (a_mm 26) 10 (upd (upd g_an_69 1 y0_116) 2 y0_144)] H → va_D A [xModel h_mm a_mm (upd (upd (upd (upd (upd (upd (upd (upd mm 0 (0 : Int32)) 6 v3) 7 v4) 8 v5) 9 s_mm_9_43) 10 v7) 11 s_mm_11_57) 12 v9), xI E (a_mm 5) 60 bt, xI E (a_mm 14) 6 g10, xI E (a_mm 23) 8 ma, xI E (a_mm 24) 4 g11, xI E (a_mm 26) 10 (upd (upd g_an_69 1 y0_116) 2 y0_144)] → va_S A s.heap H locs → lv_has ls 4 [(3, .int x3_69), (0, .ref h_mm), (1, .int e_), (2, .int what)] → W p l e ({ frames := 4, cells := 0, slots := 0, locals := 91 } : Room) s m ([.ref h_mm, .int e_, .int what] : List Value).toArray below meth c H locs 0 0 Q (F0 m 169 ls [.int y0_169, .int (3 : Int32), .ref (a_mm 26)]) := by
                                intro y0_169 H locs ls hτ69 hP hD hS hl
                                unfold F_X10_told_j169 at hτ69
                                refine ar_ist (k := 3) (ws' := [xModel h_mm a_mm (upd (upd (upd (upd (upd (upd (upd (upd mm 0 (0 : Int32)) 6 v3) 7 v4) 8 v5) 9 s_mm_9_43) 10 v7) 11 s_mm_11_57) 12 v9), xI E (a_mm 5) 60 bt, xI E (a_mm 14) 6 g10, xI E (a_mm 23) 8 ma, xI E (a_mm 24) 4 g11, xI E (a_mm 26) 10 (upd (upd (upd g_an_69 1 y0_116) 2 y0_144) 3 y0_169)]) hx hb hE hP hD hS 5 rfl (by unfold vp_in; decide) rfl rfl dX10_told_169 (fun H locs hP hD hS => ?_)
                                refine lv_aload_n hx hb dX10_told_170 rfl (lv_at hl 1 rfl) ?_
                                refine lv_iconst (v := (4 : Int32)) hx hb dX10_told_171 (by decide) ?_
                                refine lv_aload_n hx hb dX10_told_172 rfl (lv_at hl 1 rfl) ?_
                                refine va_get (D := E.1) (ci := 10) (v := .int s_mm_9_43) (C := RX10) (T := TX10) (N := 27) hx hb hts iX10_told_X10 hown hE.1 hP 0 rfl rfl 9 (by decide) (hts (.fieldLink RX10 98 "BandBoatModel" "strands" "I") (List.mem_of_getElem? (i := 3) rfl)) (fun _ h9 => h9) rfl dX10_told_173 ?_
                                refine kV (wc := [xModel h_mm a_mm (upd (upd (upd (upd (upd (upd (upd (upd mm 0 (0 : Int32)) 6 v3) 7 v4) 8 v5) 9 s_mm_9_43) 10 v7) 11 s_mm_11_57) 12 v9), xI E (a_mm 26) 10 (upd (upd (upd g_an_69 1 y0_116) 2 y0_144) 3 y0_169)]) (wr := [xI E (a_mm 5) 60 bt, xI E (a_mm 14) 6 g10, xI E (a_mm 23) 8 ma, xI E (a_mm 24) 4 g11]) (wc' := (fun (u : (Nat → Int32)) => [xModel h_mm a_mm (upd (upd (upd (upd (upd (upd (upd (upd mm 0 (0 : Int32)) 6 v3) 7 v4) 8 v5) 9 s_mm_9_43) 10 v7) 11 s_mm_11_57) 12 v9), xI E (a_mm 26) 10 u])) (wn := (fun (u : (Nat → Int32)) => [xModel h_mm a_mm (upd (upd (upd (upd (upd (upd (upd (upd mm 0 (0 : Int32)) 6 v3) 7 v4) 8 v5) 9 s_mm_9_43) 10 v7) 11 s_mm_11_57) 12 v9), xI E (a_mm 5) 60 bt, xI E (a_mm 14) 6 g10, xI E (a_mm 23) 8 ma, xI E (a_mm 24) 4 g11, xI E (a_mm 26) 10 u])) (isC := [0, 5]) (isR := [1, 2, 3, 4]) (is2 := [4, 0, 1, 2, 3, 5]) cx hP hD hS ⟨rfl, rfl, by decide, by decide, by decide, by decide, fun _ => rfl⟩ (rV (As := [.int (4 : Int32), .int s_mm_9_43]) (rest := []) (C := RX10) (q0 := 0) (ci := 10) cx (c_X10_widens l E h_mm a_mm (upd (upd (upd (upd (upd (upd (upd (upd mm 0 (0 : Int32)) 6 v3) 7 v4) 8 v5) 9 s_mm_9_43) 10 v7) 11 s_mm_11_57) 12 v9) (upd (upd (upd g_an_69 1 y0_116) 2 y0_144) 3 y0_169) (4 : Int32) s_mm_9_43 (by decide) _) (cwV 2 hts gX10_told_X10_widens rfl rfl rfl (by decide +kernel) ⟨Nat.le_of_ble_eq_true rfl, Nat.le_of_ble_eq_true rfl⟩) rfl rfl rfl rfl hl.1 rfl (Nat.le_of_ble_eq_true rfl) dX10_told_176 ⟨Nat.zero_le _, Nat.zero_le _⟩) (fun u H locs hw hP hD hS => ?_)
                                obtain ⟨g13, rfl⟩ : ∃ z, z = u := ⟨_, rfl⟩
                                have hP : va_P E.1 vwCl [xModel h_mm a_mm (upd (upd (upd (upd (upd (upd (upd (upd mm 0 (0 : Int32)) 6 v3) 7 v4) 8 v5) 9 s_mm_9_43) 10 v7) 11 s_mm_11_57) 12 v9), xI E (a_mm 5) 60 bt, xI E (a_mm 14) 6 g10, xI E (a_mm 23) 8 ma, xI E (a_mm 24) 4 g11, xI E (a_mm 26) 10 g13] H := hP
                                have hD : va_D A [xModel h_mm a_mm (upd (upd (upd (upd (upd (upd (upd (upd mm 0 (0 : Int32)) 6 v3) 7 v4) 8 v5) 9 s_mm_9_43) 10 v7) 11 s_mm_11_57) 12 v9), xI E (a_mm 5) 60 bt, xI E (a_mm 14) 6 g10, xI E (a_mm 23) 8 ma, xI E (a_mm 24) 4 g11, xI E (a_mm 26) 10 g13] := hD
                                have hw : F_X10_widens (upd (upd (upd g_an_69 1 y0_116) 2 y0_144) 3 y0_169) (4 : Int32) s_mm_9_43 = g13 := hw
                                rw [hw] at hτ69
                                have hτ69 : τ69 = F_X10_told_k176 s_mm_11_57 x3_69 g10 g11 g13 := hτ69
                                unfold F_X10_told_k176 at hτ69
                                refine lv_aload_n hx hb dX10_told_179 rfl (lv_at hl 1 rfl) ?_
                                refine lv_bipush (v := (6 : Int32)) hx hb dX10_told_180 (by decide) ?_
                                refine lv_aload_n hx hb dX10_told_182 rfl (lv_at hl 1 rfl) ?_
                                refine va_get (D := E.1) (ci := 10) (v := .int s_mm_11_57) (C := RX10) (T := TX10) (N := 27) hx hb hts iX10_told_X10 hown hE.1 hP 0 rfl rfl 11 (by decide) (hts (.fieldLink RX10 104 "BandBoatModel" "pitch" "I") (List.mem_of_getElem? (i := 4) rfl)) (fun _ h9 => h9) rfl dX10_told_183 ?_
                                refine kV (wc := [xModel h_mm a_mm (upd (upd (upd (upd (upd (upd (upd (upd mm 0 (0 : Int32)) 6 v3) 7 v4) 8 v5) 9 s_mm_9_43) 10 v7) 11 s_mm_11_57) 12 v9), xI E (a_mm 26) 10 g13]) (wr := [xI E (a_mm 5) 60 bt, xI E (a_mm 14) 6 g10, xI E (a_mm 23) 8 ma, xI E (a_mm 24) 4 g11]) (wc' := (fun (u : (Nat → Int32)) => [xModel h_mm a_mm (upd (upd (upd (upd (upd (upd (upd (upd mm 0 (0 : Int32)) 6 v3) 7 v4) 8 v5) 9 s_mm_9_43) 10 v7) 11 s_mm_11_57) 12 v9), xI E (a_mm 26) 10 u])) (wn := (fun (u : (Nat → Int32)) => [xModel h_mm a_mm (upd (upd (upd (upd (upd (upd (upd (upd mm 0 (0 : Int32)) 6 v3) 7 v4) 8 v5) 9 s_mm_9_43) 10 v7) 11 s_mm_11_57) 12 v9), xI E (a_mm 5) 60 bt, xI E (a_mm 14) 6 g10, xI E (a_mm 23) 8 ma, xI E (a_mm 24) 4 g11, xI E (a_mm 26) 10 u])) (isC := [0, 5]) (isR := [1, 2, 3, 4]) (is2 := [4, 0, 1, 2, 3, 5]) cx hP hD hS ⟨rfl, rfl, by decide, by decide, by decide, by decide, fun _ => rfl⟩ (rV (As := [.int (6 : Int32), .int s_mm_11_57]) (rest := []) (C := RX10) (q0 := 0) (ci := 10) cx (c_X10_widens l E h_mm a_mm (upd (upd (upd (upd (upd (upd (upd (upd mm 0 (0 : Int32)) 6 v3) 7 v4) 8 v5) 9 s_mm_9_43) 10 v7) 11 s_mm_11_57) 12 v9) g13 (6 : Int32) s_mm_11_57 (by decide) _) (cwV 2 hts gX10_told_X10_widens rfl rfl rfl (by decide +kernel) ⟨Nat.le_of_ble_eq_true rfl, Nat.le_of_ble_eq_true rfl⟩) rfl rfl rfl rfl hl.1 rfl (Nat.le_of_ble_eq_true rfl) dX10_told_186 ⟨Nat.zero_le _, Nat.zero_le _⟩) (fun u H locs hw hP hD hS => ?_)
                                obtain ⟨g14, rfl⟩ : ∃ z, z = u := ⟨_, rfl⟩
                                have hP : va_P E.1 vwCl [xModel h_mm a_mm (upd (upd (upd (upd (upd (upd (upd (upd mm 0 (0 : Int32)) 6 v3) 7 v4) 8 v5) 9 s_mm_9_43) 10 v7) 11 s_mm_11_57) 12 v9), xI E (a_mm 5) 60 bt, xI E (a_mm 14) 6 g10, xI E (a_mm 23) 8 ma, xI E (a_mm 24) 4 g11, xI E (a_mm 26) 10 g14] H := hP
                                have hD : va_D A [xModel h_mm a_mm (upd (upd (upd (upd (upd (upd (upd (upd mm 0 (0 : Int32)) 6 v3) 7 v4) 8 v5) 9 s_mm_9_43) 10 v7) 11 s_mm_11_57) 12 v9), xI E (a_mm 5) 60 bt, xI E (a_mm 14) 6 g10, xI E (a_mm 23) 8 ma, xI E (a_mm 24) 4 g11, xI E (a_mm 26) 10 g14] := hD
                                have hw : F_X10_widens g13 (6 : Int32) s_mm_11_57 = g14 := hw
                                rw [hw] at hτ69
                                have hτ69 : τ69 = F_X10_told_k186 x3_69 g10 g11 g14 := hτ69
                                unfold F_X10_told_k186 at hτ69
                                refine lv_aload_n hx hb dX10_told_189 rfl (lv_at hl 1 rfl) ?_
                                refine lv_bipush (v := (8 : Int32)) hx hb dX10_told_190 (by decide) ?_
                                refine lv_iload_n hx hb dX10_told_192 rfl (lv_at hl 0 rfl) ?_
                                refine kV (wc := [xModel h_mm a_mm (upd (upd (upd (upd (upd (upd (upd (upd mm 0 (0 : Int32)) 6 v3) 7 v4) 8 v5) 9 s_mm_9_43) 10 v7) 11 s_mm_11_57) 12 v9), xI E (a_mm 26) 10 g14]) (wr := [xI E (a_mm 5) 60 bt, xI E (a_mm 14) 6 g10, xI E (a_mm 23) 8 ma, xI E (a_mm 24) 4 g11]) (wc' := (fun (u : (Nat → Int32)) => [xModel h_mm a_mm (upd (upd (upd (upd (upd (upd (upd (upd mm 0 (0 : Int32)) 6 v3) 7 v4) 8 v5) 9 s_mm_9_43) 10 v7) 11 s_mm_11_57) 12 v9), xI E (a_mm 26) 10 u])) (wn := (fun (u : (Nat → Int32)) => [xModel h_mm a_mm (upd (upd (upd (upd (upd (upd (upd (upd mm 0 (0 : Int32)) 6 v3) 7 v4) 8 v5) 9 s_mm_9_43) 10 v7) 11 s_mm_11_57) 12 v9), xI E (a_mm 5) 60 bt, xI E (a_mm 14) 6 g10, xI E (a_mm 23) 8 ma, xI E (a_mm 24) 4 g11, xI E (a_mm 26) 10 u])) (isC := [0, 5]) (isR := [1, 2, 3, 4]) (is2 := [4, 0, 1, 2, 3, 5]) cx hP hD hS ⟨rfl, rfl, by decide, by decide, by decide, by decide, fun _ => rfl⟩ (rV (As := [.int (8 : Int32), .int x3_69]) (rest := []) (C := RX10) (q0 := 0) (ci := 10) cx (c_X10_widens l E h_mm a_mm (upd (upd (upd (upd (upd (upd (upd (upd mm 0 (0 : Int32)) 6 v3) 7 v4) 8 v5) 9 s_mm_9_43) 10 v7) 11 s_mm_11_57) 12 v9) g14 (8 : Int32) x3_69 (by decide) _) (cwV 2 hts gX10_told_X10_widens rfl rfl rfl (by decide +kernel) ⟨Nat.le_of_ble_eq_true rfl, Nat.le_of_ble_eq_true rfl⟩) rfl rfl rfl rfl hl.1 rfl (Nat.le_of_ble_eq_true rfl) dX10_told_193 ⟨Nat.zero_le _, Nat.zero_le _⟩) (fun u H locs hw hP hD hS => ?_)
                                obtain ⟨g15, rfl⟩ : ∃ z, z = u := ⟨_, rfl⟩
                                have hP : va_P E.1 vwCl [xModel h_mm a_mm (upd (upd (upd (upd (upd (upd (upd (upd mm 0 (0 : Int32)) 6 v3) 7 v4) 8 v5) 9 s_mm_9_43) 10 v7) 11 s_mm_11_57) 12 v9), xI E (a_mm 5) 60 bt, xI E (a_mm 14) 6 g10, xI E (a_mm 23) 8 ma, xI E (a_mm 24) 4 g11, xI E (a_mm 26) 10 g15] H := hP
                                have hD : va_D A [xModel h_mm a_mm (upd (upd (upd (upd (upd (upd (upd (upd mm 0 (0 : Int32)) 6 v3) 7 v4) 8 v5) 9 s_mm_9_43) 10 v7) 11 s_mm_11_57) 12 v9), xI E (a_mm 5) 60 bt, xI E (a_mm 14) 6 g10, xI E (a_mm 23) 8 ma, xI E (a_mm 24) 4 g11, xI E (a_mm 26) 10 g15] := hD
                                have hw : F_X10_widens g14 (8 : Int32) x3_69 = g15 := hw
                                rw [hw] at hτ69
                                have hτ69 : τ69 = F_X10_told_k193 x3_69 g10 g11 g15 := hτ69
                                unfold F_X10_told_k193 at hτ69
                                refine lv_aload_n hx hb dX10_told_196 rfl (lv_at hl 1 rfl) ?_
                                refine va_get (D := E.1) (ci := 10) (v := .ref (a_mm 26)) (C := RX10) (T := TX10) (N := 27) hx hb hts iX10_told_X10 hown hE.1 hP 0 rfl rfl 26 (by decide) (hts (.fieldLink RX10 34 "BandBoatModel" "answer" "[I") (List.mem_of_getElem? (i := 2) rfl)) (fun _ h9 => h9) rfl dX10_told_197 ?_
                                refine lv_iconst (v := (0 : Int32)) hx hb dX10_told_200 (by decide) ?_
                                refine lv_dup2_11 hx hb dX10_told_201 rfl rfl ?_
                                refine ar_ild (k := 0) (v := (g15 0)) hx hb hE hP 5 rfl (by unfold vp_in; decide) rfl rfl dX10_told_202 ?_
                                refine lv_iconst (v := (1 : Int32)) hx hb dX10_told_203 (by decide) ?_
                                refine lv_iadd hx hb dX10_told_204 ?_
                                refine lv_topi (fun v16 ev16 => ?_)
                                have hτ69 : τ69 = F_X10_told_k205 x3_69 g10 g11 g15 v16 := by rw [ev16]; exact hτ69
                                unfold F_X10_told_k205 at hτ69
                                refine ar_ist (k := 0) (ws' := [xModel h_mm a_mm (upd (upd (upd (upd (upd (upd (upd (upd mm 0 (0 : Int32)) 6 v3) 7 v4) 8 v5) 9 s_mm_9_43) 10 v7) 11 s_mm_11_57) 12 v9), xI E (a_mm 5) 60 bt, xI E (a_mm 14) 6 g10, xI E (a_mm 23) 8 ma, xI E (a_mm 24) 4 g11, xI E (a_mm 26) 10 (upd g15 0 v16)]) hx hb hE hP hD hS 5 rfl (by unfold vp_in; decide) rfl rfl dX10_told_205 (fun H locs hP hD hS => ?_)
                                exact hJ206 (upd g15 0 v16) _ _ _ hτ69 hP hD hS (lv_sub hl [0, 1, 2, 3] rfl)
                              refine lv_if_ne (tgt := 163) hx hb dX10_told_156 (by decide) (fun c156 => ?_) (fun c156 => ?_)
                              · rw [if_neg c156] at hτ69
                                refine lv_aload_n hx hb dX10_told_163 rfl (lv_at hl 1 rfl) ?_
                                refine va_get (D := E.1) (ci := 10) (v := .ref (a_mm 26)) (C := RX10) (T := TX10) (N := 27) hx hb hts iX10_told_X10 hown hE.1 hP 0 rfl rfl 26 (by decide) (hts (.fieldLink RX10 34 "BandBoatModel" "answer" "[I") (List.mem_of_getElem? (i := 2) rfl)) (fun _ h9 => h9) rfl dX10_told_164 ?_
                                refine lv_iconst (v := (3 : Int32)) hx hb dX10_told_167 (by decide) ?_
                                refine ar_ild (k := 3) (v := (g_an_69 3)) hx hb hE hP 5 rfl (by unfold vp_in; decide) rfl rfl dX10_told_168 ?_
                                exact hJ169 (g_an_69 3) _ _ _ hτ69 hP hD hS (lv_sub hl [0, 1, 2, 3] rfl)
                              · rw [if_pos c156] at hτ69
                                refine lv_iload_n hx hb dX10_told_159 rfl (lv_at hl 0 rfl) ?_
                                refine lv_goto (tgt := 169) hx hb dX10_told_160 (by decide) ?_
                                exact hJ169 x3_69 _ _ _ hτ69 hP hD hS (lv_sub hl [0, 1, 2, 3] rfl)
                            refine lv_if_ne (tgt := 138) hx hb dX10_told_128 (by decide) (fun c128 => ?_) (fun c128 => ?_)
                            · rw [if_neg c128] at hτ69
                              refine lv_aload_n hx hb dX10_told_138 rfl (lv_at hl 1 rfl) ?_
                              refine va_get (D := E.1) (ci := 10) (v := .ref (a_mm 26)) (C := RX10) (T := TX10) (N := 27) hx hb hts iX10_told_X10 hown hE.1 hP 0 rfl rfl 26 (by decide) (hts (.fieldLink RX10 34 "BandBoatModel" "answer" "[I") (List.mem_of_getElem? (i := 2) rfl)) (fun _ h9 => h9) rfl dX10_told_139 ?_
                              refine lv_iconst (v := (2 : Int32)) hx hb dX10_told_142 (by decide) ?_
                              refine ar_ild (k := 2) (v := (g_an_69 2)) hx hb hE hP 5 rfl (by unfold vp_in; decide) rfl rfl dX10_told_143 ?_
                              exact hJ144 (g_an_69 2) _ _ _ hτ69 hP hD hS (lv_sub hl [0, 1, 2, 3] rfl)
                            · rw [if_pos c128] at hτ69
                              refine lv_aload_n hx hb dX10_told_131 rfl (lv_at hl 1 rfl) ?_
                              refine va_get (D := E.1) (ci := 10) (v := .int s_mm_11_57) (C := RX10) (T := TX10) (N := 27) hx hb hts iX10_told_X10 hown hE.1 hP 0 rfl rfl 11 (by decide) (hts (.fieldLink RX10 104 "BandBoatModel" "pitch" "I") (List.mem_of_getElem? (i := 4) rfl)) (fun _ h9 => h9) rfl dX10_told_132 ?_
                              refine lv_goto (tgt := 144) hx hb dX10_told_135 (by decide) ?_
                              exact hJ144 s_mm_11_57 _ _ _ hτ69 hP hD hS (lv_sub hl [0, 1, 2, 3] rfl)
                          refine lv_if_ne (tgt := 110) hx hb dX10_told_100 (by decide) (fun c100 => ?_) (fun c100 => ?_)
                          · rw [if_neg c100] at hτ69
                            refine lv_aload_n hx hb dX10_told_110 rfl (lv_at hl 1 rfl) ?_
                            refine va_get (D := E.1) (ci := 10) (v := .ref (a_mm 26)) (C := RX10) (T := TX10) (N := 27) hx hb hts iX10_told_X10 hown hE.1 hP 0 rfl rfl 26 (by decide) (hts (.fieldLink RX10 34 "BandBoatModel" "answer" "[I") (List.mem_of_getElem? (i := 2) rfl)) (fun _ h9 => h9) rfl dX10_told_111 ?_
                            refine lv_iconst (v := (1 : Int32)) hx hb dX10_told_114 (by decide) ?_
                            refine ar_ild (k := 1) (v := (g_an_69 1)) hx hb hE hP 5 rfl (by unfold vp_in; decide) rfl rfl dX10_told_115 ?_
                            exact hJ116 (g_an_69 1) _ _ _ hτ69 hP hD hS (lv_sub hl [0, 1, 2, 3] rfl)
                          · rw [if_pos c100] at hτ69
                            refine lv_aload_n hx hb dX10_told_103 rfl (lv_at hl 1 rfl) ?_
                            refine va_get (D := E.1) (ci := 10) (v := .int s_mm_9_43) (C := RX10) (T := TX10) (N := 27) hx hb hts iX10_told_X10 hown hE.1 hP 0 rfl rfl 9 (by decide) (hts (.fieldLink RX10 98 "BandBoatModel" "strands" "I") (List.mem_of_getElem? (i := 3) rfl)) (fun _ h9 => h9) rfl dX10_told_104 ?_
                            refine lv_goto (tgt := 116) hx hb dX10_told_107 (by decide) ?_
                            exact hJ116 s_mm_9_43 _ _ _ hτ69 hP hD hS (lv_sub hl [0, 1, 2, 3] rfl)
                  refine hL69 (40) (10 : Int32) g_rn_57 g_wh_57 g_an_57 _ _ _ (by decide) hP hD hS (lv_sub hl [0, 1, 2, 3] rfl) ?_
                  intro bx3_69 bg_rn_69 bg_wh_69 bg_an_69 H locs ls he hP hD hS hl
                  rw [he] at hτ57
                  have hτ57 : τ57 = F_X10_told_x69 s_mm_11_57 bg_rn_69 bg_wh_69 bg_an_69 := hτ57
                  unfold F_X10_told_x69 at hτ57
                  refine lv_aload_n hx hb dX10_told_212 rfl (lv_at hl 1 rfl) ?_
                  refine lv_dup hx hb dX10_told_213 rfl ?_
                  refine va_get (D := E.1) (ci := 10) (v := .int s_mm_11_57) (C := RX10) (T := TX10) (N := 27) hx hb hts iX10_told_X10 hown hE.1 hP 0 rfl rfl 11 (by decide) (hts (.fieldLink RX10 104 "BandBoatModel" "pitch" "I") (List.mem_of_getElem? (i := 4) rfl)) (fun _ h9 => h9) rfl dX10_told_214 ?_
                  refine lv_iconst (v := (1 : Int32)) hx hb dX10_told_217 (by decide) ?_
                  refine lv_iadd hx hb dX10_told_218 ?_
                  refine lv_topi (fun v17 ev17 => ?_)
                  have hτ57 : τ57 = F_X10_told_k219 bg_rn_69 bg_wh_69 bg_an_69 v17 := by rw [ev17]; exact hτ57
                  unfold F_X10_told_k219 at hτ57
                  refine va_put (D := E.1) (ci := 10) (v := .int v17) (ty := .int) (C := RX10) (T := TX10) (N := 27) hx hb hts iX10_told_X10 tyX10 tyX10_ok nmX10 hown hE.1 hP hD hS 0 rfl rfl 11 (by decide) (hts (.fieldLink RX10 104 "BandBoatModel" "pitch" "I") (List.mem_of_getElem? (i := 4) rfl)) (fun _ h9 => h9) rfl (by decide +kernel) rfl rfl (Nat.le_of_ble_eq_true rfl) dX10_told_219 (fun H locs hP hD hS => ?_)
                  have hP : va_P E.1 vwCl [xModel h_mm a_mm (upd (upd (upd (upd (upd (upd (upd (upd mm 0 (0 : Int32)) 6 v3) 7 v4) 8 v5) 9 s_mm_9_43) 10 v7) 11 v17) 12 v9), xI E (a_mm 5) 60 bt, xI E (a_mm 14) 6 bg_rn_69, xI E (a_mm 23) 8 ma, xI E (a_mm 24) 4 bg_wh_69, xI E (a_mm 26) 10 bg_an_69] H := hP
                  have hD : va_D A [xModel h_mm a_mm (upd (upd (upd (upd (upd (upd (upd (upd mm 0 (0 : Int32)) 6 v3) 7 v4) 8 v5) 9 s_mm_9_43) 10 v7) 11 v17) 12 v9), xI E (a_mm 5) 60 bt, xI E (a_mm 14) 6 bg_rn_69, xI E (a_mm 23) 8 ma, xI E (a_mm 24) 4 bg_wh_69, xI E (a_mm 26) 10 bg_an_69] := hD
                  refine lv_goto (tgt := 57) hx hb dX10_told_222 (by decide) ?_
                  have hσ57 : σ57 = F_X10_told_l57 mm bt ma e_ v3 v4 v5 v7 v9 s_mm_9_43 n_57 v17 bg_rn_69 bg_wh_69 bg_an_69 := by subst hτ57; exact hσ57
                  exact ih v17 bg_rn_69 bg_wh_69 bg_an_69 _ _ _ ⟨by rw [ev17]; exact cnt_lt c63 hM57.1, rg_step c63 hM57.2 ev17⟩ hP hD hS (lv_sub hl [1, 2, 3] rfl) (fun os_mm_11_57 og_rn_57 og_wh_57 og_an_57 H locs ls he => hK os_mm_11_57 og_rn_57 og_wh_57 og_an_57 H locs ls (hσ057.trans (hσ57.trans he)))
            refine hL57 (9) (1 : Int32) g_rn_43 g_wh_43 g_an_43 _ _ _ (by decide) hP hD hS (lv_sub hl [0, 1, 2] rfl) ?_
            intro bs_mm_11_57 bg_rn_57 bg_wh_57 bg_an_57 H locs ls he hP hD hS hl
            rw [he] at hτ43
            have hτ43 : τ43 = F_X10_told_x57 s_mm_9_43 bs_mm_11_57 bg_rn_57 bg_wh_57 bg_an_57 := hτ43
            unfold F_X10_told_x57 at hτ43
            refine lv_aload_n hx hb dX10_told_225 rfl (lv_at hl 0 rfl) ?_
            refine lv_dup hx hb dX10_told_226 rfl ?_
            refine va_get (D := E.1) (ci := 10) (v := .int s_mm_9_43) (C := RX10) (T := TX10) (N := 27) hx hb hts iX10_told_X10 hown hE.1 hP 0 rfl rfl 9 (by decide) (hts (.fieldLink RX10 98 "BandBoatModel" "strands" "I") (List.mem_of_getElem? (i := 3) rfl)) (fun _ h9 => h9) rfl dX10_told_227 ?_
            refine lv_iconst (v := (1 : Int32)) hx hb dX10_told_230 (by decide) ?_
            refine lv_iadd hx hb dX10_told_231 ?_
            refine lv_topi (fun v18 ev18 => ?_)
            have hτ43 : τ43 = F_X10_told_k232 bs_mm_11_57 bg_rn_57 bg_wh_57 bg_an_57 v18 := by rw [ev18]; exact hτ43
            unfold F_X10_told_k232 at hτ43
            refine va_put (D := E.1) (ci := 10) (v := .int v18) (ty := .int) (C := RX10) (T := TX10) (N := 27) hx hb hts iX10_told_X10 tyX10 tyX10_ok nmX10 hown hE.1 hP hD hS 0 rfl rfl 9 (by decide) (hts (.fieldLink RX10 98 "BandBoatModel" "strands" "I") (List.mem_of_getElem? (i := 3) rfl)) (fun _ h9 => h9) rfl (by decide +kernel) rfl rfl (Nat.le_of_ble_eq_true rfl) dX10_told_232 (fun H locs hP hD hS => ?_)
            have hP : va_P E.1 vwCl [xModel h_mm a_mm (upd (upd (upd (upd (upd (upd (upd (upd mm 0 (0 : Int32)) 6 v3) 7 v4) 8 v5) 9 v18) 10 v7) 11 bs_mm_11_57) 12 v9), xI E (a_mm 5) 60 bt, xI E (a_mm 14) 6 bg_rn_57, xI E (a_mm 23) 8 ma, xI E (a_mm 24) 4 bg_wh_57, xI E (a_mm 26) 10 bg_an_57] H := hP
            have hD : va_D A [xModel h_mm a_mm (upd (upd (upd (upd (upd (upd (upd (upd mm 0 (0 : Int32)) 6 v3) 7 v4) 8 v5) 9 v18) 10 v7) 11 bs_mm_11_57) 12 v9), xI E (a_mm 5) 60 bt, xI E (a_mm 14) 6 bg_rn_57, xI E (a_mm 23) 8 ma, xI E (a_mm 24) 4 bg_wh_57, xI E (a_mm 26) 10 bg_an_57] := hD
            refine lv_goto (tgt := 43) hx hb dX10_told_235 (by decide) ?_
            have hσ43 : σ43 = F_X10_told_l43 mm bt ma e_ v3 v4 v5 v7 v9 n_43 v18 bs_mm_11_57 bg_rn_57 bg_wh_57 bg_an_57 := by subst hτ43; exact hσ43
            exact ih v18 bs_mm_11_57 bg_rn_57 bg_wh_57 bg_an_57 _ _ _ ⟨by rw [ev18]; exact cnt_lt c49 hM43.1, rg_step c49 hM43.2 ev18⟩ hP hD hS (lv_sub hl [0, 1, 2] rfl) (fun os_mm_9_43 os_mm_11_43 og_rn_43 og_wh_43 og_an_43 H locs ls he => hK os_mm_9_43 os_mm_11_43 og_rn_43 og_wh_43 og_an_43 H locs ls (hσ043.trans (hσ43.trans he)))
      refine hL43 (8) (1 : Int32) v8 rn wh (upd an 0 (0 : Int32)) _ _ _ (by decide) hP hD hS (lv_sub hl [0, 1, 2] rfl) ?_
      intro bs_mm_9_43 bs_mm_11_43 bg_rn_43 bg_wh_43 bg_an_43 H locs ls he hP hD hS hl
      rw [he] at hρ
      have hρ : ρ = F_X10_told_x43 what v3 v4 v5 v7 v9 bs_mm_9_43 bs_mm_11_43 bg_rn_43 bg_wh_43 bg_an_43 := hρ
      unfold F_X10_told_x43 at hρ
      refine lv_iload_n hx hb dX10_told_238 rfl (lv_at hl 2 rfl) ?_
      have hJ256 : ∀ (H : Heap) (locs : List Loc) (ls : Array Slot), ρ = F_X10_told_j256 what v3 v4 v5 v7 v9 bs_mm_9_43 bs_mm_11_43 bg_rn_43 bg_wh_43 bg_an_43 → va_P E.1 vwCl [xModel h_mm a_mm (upd (upd (upd (upd (upd (upd (upd (upd mm 0 (0 : Int32)) 6 v3) 7 v4) 8 v5) 9 bs_mm_9_43) 10 v7) 11 bs_mm_11_43) 12 v9), xI E (a_mm 5) 60 bt, xI E (a_mm 14) 6 bg_rn_43, xI E (a_mm 23) 8 ma, xI E (a_mm 24) 4 bg_wh_43, xI E (a_mm 26) 10 bg_an_43] H → va_D A [xModel h_mm a_mm (upd (upd (upd (upd (upd (upd (upd (upd mm 0 (0 : Int32)) 6 v3) 7 v4) 8 v5) 9 bs_mm_9_43) 10 v7) 11 bs_mm_11_43) 12 v9), xI E (a_mm 5) 60 bt, xI E (a_mm 14) 6 bg_rn_43, xI E (a_mm 23) 8 ma, xI E (a_mm 24) 4 bg_wh_43, xI E (a_mm 26) 10 bg_an_43] → va_S A s.heap H locs → lv_has ls 4 [(0, .ref h_mm), (1, .int e_), (2, .int what)] → W p l e ({ frames := 4, cells := 0, slots := 0, locals := 91 } : Room) s m ([.ref h_mm, .int e_, .int what] : List Value).toArray below meth c H locs 0 0 Q (F0 m 256 ls []) := by
        intro  H locs ls hρ hP hD hS hl
        unfold F_X10_told_j256 at hρ
        refine lv_aload_n hx hb dX10_told_256 rfl (lv_at hl 0 rfl) ?_
        refine va_get (D := E.1) (ci := 10) (v := .ref (a_mm 26)) (C := RX10) (T := TX10) (N := 27) hx hb hts iX10_told_X10 hown hE.1 hP 0 rfl rfl 26 (by decide) (hts (.fieldLink RX10 34 "BandBoatModel" "answer" "[I") (List.mem_of_getElem? (i := 2) rfl)) (fun _ h9 => h9) rfl dX10_told_257 ?_
        refine lv_iload_n hx hb dX10_told_260 rfl (lv_at hl 2 rfl) ?_
        refine ar_ild (k := (Int32.toNatClampNeg what)) (v := (bg_an_43 (Int32.toNatClampNeg what))) hx hb hE hP 5 rfl (an_in c22 (by decide)) rfl rfl dX10_told_261 ?_
        exact hq (bg_an_43 (Int32.toNatClampNeg what)) ((0 : Int32), v3, v4, v5, bs_mm_9_43, v7, bs_mm_11_43, v9, bg_rn_43, bg_wh_43, bg_an_43) _ _ _ _ dX10_told_262 rfl (hρ0.trans hρ) hP hD hS
      refine lv_if_le (tgt := 256) hx hb dX10_told_239 (by decide) (fun c239 => ?_) (fun c239 => ?_)
      · rw [if_pos c239] at hρ
        exact hJ256 _ _ _ hρ hP hD hS (lv_sub hl [0, 1, 2] rfl)
      · rw [if_neg c239] at hρ
        refine lv_aload_n hx hb dX10_told_242 rfl (lv_at hl 0 rfl) ?_
        refine va_get (D := E.1) (ci := 10) (v := .ref (a_mm 26)) (C := RX10) (T := TX10) (N := 27) hx hb hts iX10_told_X10 hown hE.1 hP 0 rfl rfl 26 (by decide) (hts (.fieldLink RX10 34 "BandBoatModel" "answer" "[I") (List.mem_of_getElem? (i := 2) rfl)) (fun _ h9 => h9) rfl dX10_told_243 ?_
        refine lv_iconst (v := (0 : Int32)) hx hb dX10_told_246 (by decide) ?_
        refine ar_ild (k := 0) (v := (bg_an_43 0)) hx hb hE hP 5 rfl (by unfold vp_in; decide) rfl rfl dX10_told_247 ?_
        refine lv_if_ne (tgt := 256) hx hb dX10_told_248 (by decide) (fun c248 => ?_) (fun c248 => ?_)
        · rw [if_neg c248] at hρ
          exact hJ256 _ _ _ hρ hP hD hS (lv_sub hl [0, 1, 2] rfl)
        · rw [if_pos c248] at hρ
          refine lv_bipush (v := (-4 : Int32)) hx hb dX10_told_251 (by decide) ?_
          refine lv_goto (tgt := 262) hx hb dX10_told_253 (by decide) ?_
          exact hq (-4 : Int32) ((0 : Int32), v3, v4, v5, bs_mm_9_43, v7, bs_mm_11_43, v9, bg_rn_43, bg_wh_43, bg_an_43) _ _ _ _ dX10_told_262 rfl (hρ0.trans hρ) hP hD hS
    · rw [if_pos c22] at hρ
      refine lv_iconst (v := (-1 : Int32)) hx hb dX10_told_25 (by decide) ?_
      exact hq (-1 : Int32) ((0 : Int32), (mm 6), (mm 7), (mm 8), (mm 9), (mm 10), (mm 11), (mm 12), rn, wh, an) _ _ _ _ dX10_told_26 rfl (hρ0.trans hρ) hP hD hS
def F_X10_forget_k14 (v1 : Int32) : Int32 × Int32 × Int32 × Int32 := (v1, (0 : Int32), (0 : Int32), (0 : Int32))
def F_X10_forget (mm : Nat → Int32) : Int32 × Int32 × Int32 × Int32 := F_X10_forget_k14 ((mm 22) + (mm 25))
theorem iX10_forget_X10 : ∀ w ∈ wsX100, w ∈ wsX10_forget := fun _ h => List.mem_cons_of_mem _ (List.mem_append_right _ h)
set_option maxHeartbeats 4000000 in
set_option maxRecDepth 100000 in
theorem c_X10_forget (l : Launch) (E : wV) (h_mm : Nat) (a_mm : Nat → Nat) (mm : Nat → Int32) : MetI l yX10_forget wsX10_forget ({ frames := 0, cells := 0, slots := 0, locals := 0 } : Room) E ([.ref h_mm] : List Value) [xModel h_mm a_mm mm] (fun (r : Int32) (u : Int32 × Int32 × Int32) => F_X10_forget mm = (r, u)) (fun (u : Int32 × Int32 × Int32) => [xModel h_mm a_mm (upd (upd (upd mm 0 u.1) 22 u.2.1) 25 u.2.2)]) := by
  refine MetI.of (cc := cX10_forget) (maxL := 2) (own := RX10) (by decide) rfl rfl (Nat.le_of_ble_eq_true rfl) ?_
  intro p e s m below meth c A Q ls cx hP hD hS hl hq
  obtain ⟨hx, hb, hml, hown, hts, hE, hA⟩ := id cx
  have hl : lv_has ls 2 [(0, .ref h_mm)] := hl
  have hP : va_P E.1 vwCl [xModel h_mm a_mm mm] s.heap := hP
  obtain ⟨ρ, hρ0⟩ : ∃ ρ, F_X10_forget mm = ρ := ⟨_, rfl⟩
  have hρ := hρ0.symm
  unfold F_X10_forget at hρ
  refine lv_aload_n hx hb dX10_forget_0 rfl (lv_at hl 0 rfl) ?_
  refine lv_iconst (v := (0 : Int32)) hx hb dX10_forget_1 (by decide) ?_
  refine va_put (D := E.1) (ci := 10) (v := .int (0 : Int32)) (ty := .int) (C := RX10) (T := TX10) (N := 27) hx hb hts iX10_forget_X10 tyX10 tyX10_ok nmX10 hown hE.1 hP hD hS 0 rfl rfl 0 (by decide) (hts (.fieldLink RX10 41 "BandBoatModel" "thrown" "I") (List.mem_of_getElem? (i := 1) rfl)) (fun _ h9 => h9) rfl (by decide +kernel) rfl rfl (Nat.le_of_ble_eq_true rfl) dX10_forget_2 (fun H locs hP hD hS => ?_)
  have hP : va_P E.1 vwCl [xModel h_mm a_mm (upd mm 0 (0 : Int32))] H := hP
  have hD : va_D A [xModel h_mm a_mm (upd mm 0 (0 : Int32))] := hD
  refine lv_aload_n hx hb dX10_forget_5 rfl (lv_at hl 0 rfl) ?_
  refine va_get (D := E.1) (ci := 10) (v := .int (mm 22)) (C := RX10) (T := TX10) (N := 27) hx hb hts iX10_forget_X10 hown hE.1 hP 0 rfl rfl 22 (by decide) (hts (.fieldLink RX10 80 "BandBoatModel" "readings" "I") (List.mem_of_getElem? (i := 2) rfl)) (fun _ h9 => h9) rfl dX10_forget_6 ?_
  refine lv_aload_n hx hb dX10_forget_9 rfl (lv_at hl 0 rfl) ?_
  refine va_get (D := E.1) (ci := 10) (v := .int (mm 25)) (C := RX10) (T := TX10) (N := 27) hx hb hts iX10_forget_X10 hown hE.1 hP 0 rfl rfl 25 (by decide) (hts (.fieldLink RX10 83 "BandBoatModel" "marks" "I") (List.mem_of_getElem? (i := 3) rfl)) (fun _ h9 => h9) rfl dX10_forget_10 ?_
  refine lv_iadd hx hb dX10_forget_13 ?_
  refine lv_topi (fun v1 ev1 => ?_)
  have hρ : ρ = F_X10_forget_k14 v1 := by rw [ev1]; exact hρ
  unfold F_X10_forget_k14 at hρ
  refine lv_istore_n (lv' := [(1, .int v1), (0, .ref h_mm)]) hx hb dX10_forget_14 rfl hl (by decide) rfl (fun ls hl => ?_)
  refine lv_aload_n hx hb dX10_forget_15 rfl (lv_at hl 1 rfl) ?_
  refine lv_iconst (v := (0 : Int32)) hx hb dX10_forget_16 (by decide) ?_
  refine va_put (D := E.1) (ci := 10) (v := .int (0 : Int32)) (ty := .int) (C := RX10) (T := TX10) (N := 27) hx hb hts iX10_forget_X10 tyX10 tyX10_ok nmX10 hown hE.1 hP hD hS 0 rfl rfl 22 (by decide) (hts (.fieldLink RX10 80 "BandBoatModel" "readings" "I") (List.mem_of_getElem? (i := 2) rfl)) (fun _ h9 => h9) rfl (by decide +kernel) rfl rfl (Nat.le_of_ble_eq_true rfl) dX10_forget_17 (fun H locs hP hD hS => ?_)
  have hP : va_P E.1 vwCl [xModel h_mm a_mm (upd (upd mm 0 (0 : Int32)) 22 (0 : Int32))] H := hP
  have hD : va_D A [xModel h_mm a_mm (upd (upd mm 0 (0 : Int32)) 22 (0 : Int32))] := hD
  refine lv_aload_n hx hb dX10_forget_20 rfl (lv_at hl 1 rfl) ?_
  refine lv_iconst (v := (0 : Int32)) hx hb dX10_forget_21 (by decide) ?_
  refine va_put (D := E.1) (ci := 10) (v := .int (0 : Int32)) (ty := .int) (C := RX10) (T := TX10) (N := 27) hx hb hts iX10_forget_X10 tyX10 tyX10_ok nmX10 hown hE.1 hP hD hS 0 rfl rfl 25 (by decide) (hts (.fieldLink RX10 83 "BandBoatModel" "marks" "I") (List.mem_of_getElem? (i := 3) rfl)) (fun _ h9 => h9) rfl (by decide +kernel) rfl rfl (Nat.le_of_ble_eq_true rfl) dX10_forget_22 (fun H locs hP hD hS => ?_)
  have hP : va_P E.1 vwCl [xModel h_mm a_mm (upd (upd (upd mm 0 (0 : Int32)) 22 (0 : Int32)) 25 (0 : Int32))] H := hP
  have hD : va_D A [xModel h_mm a_mm (upd (upd (upd mm 0 (0 : Int32)) 22 (0 : Int32)) 25 (0 : Int32))] := hD
  refine lv_iload_n hx hb dX10_forget_25 rfl (lv_at hl 0 rfl) ?_
  exact hq v1 ((0 : Int32), (0 : Int32), (0 : Int32)) _ _ _ _ dX10_forget_26 rfl (hρ0.trans hρ) hP hD hS
def F_X10_wind_k49 (nw : Nat → Int32) (v2 : Int32) : Int32 × Int32 × (Nat → Int32) := (v2, (0 : Int32), (upd nw 0 v2))
def F_X10_wind (nw : Nat → Int32) (n : Int32) : Int32 × Int32 × (Nat → Int32) := (if (F_X10_in n (1 : Int32) (400 : Int32)) = (0 : Int32) then ((-1 : Int32), (0 : Int32), nw) else (if ((nw 0) + ((100 : Int32) * n)) ≤ (40000 : Int32) then F_X10_wind_k49 nw ((nw 0) + ((100 : Int32) * n)) else ((-2 : Int32), (0 : Int32), nw)))
theorem iX10_wind_X10 : ∀ w ∈ wsX100, w ∈ wsX10_wind := fun _ h => List.mem_cons_of_mem _ (List.mem_append_right _ h)
set_option maxHeartbeats 4000000 in
set_option maxRecDepth 100000 in
theorem c_X10_wind (l : Launch) (E : wV) (h_mm : Nat) (a_mm : Nat → Nat) (mm : Nat → Int32) (nw : Nat → Int32) (n : Int32) : MetI l yX10_wind wsX10_wind ({ frames := 1, cells := 0, slots := 0, locals := 22 } : Room) E ([.ref h_mm, .int n] : List Value) [xModel h_mm a_mm mm, xI E (a_mm 13) 6 nw] (fun (r : Int32) (u : Int32 × (Nat → Int32)) => F_X10_wind nw n = (r, u)) (fun (u : Int32 × (Nat → Int32)) => [xModel h_mm a_mm (upd mm 0 u.1), xI E (a_mm 13) 6 u.2]) := by
  refine MetI.of (cc := cX10_wind) (maxL := 2) (own := RX10) (by decide) rfl rfl (Nat.le_of_ble_eq_true rfl) ?_
  intro p e s m below meth c A Q ls cx hP hD hS hl hq
  obtain ⟨hx, hb, hml, hown, hts, hE, hA⟩ := id cx
  have hl : lv_has ls 2 [(0, .ref h_mm), (1, .int n)] := hl
  have hP : va_P E.1 vwCl [xModel h_mm a_mm mm, xI E (a_mm 13) 6 nw] s.heap := hP
  obtain ⟨ρ, hρ0⟩ : ∃ ρ, F_X10_wind nw n = ρ := ⟨_, rfl⟩
  have hρ := hρ0.symm
  unfold F_X10_wind at hρ
  refine lv_aload_n hx hb dX10_wind_0 rfl (lv_at hl 0 rfl) ?_
  refine lv_iconst (v := (0 : Int32)) hx hb dX10_wind_1 (by decide) ?_
  refine va_put (D := E.1) (ci := 10) (v := .int (0 : Int32)) (ty := .int) (C := RX10) (T := TX10) (N := 27) hx hb hts iX10_wind_X10 tyX10 tyX10_ok nmX10 hown hE.1 hP hD hS 0 rfl rfl 0 (by decide) (hts (.fieldLink RX10 41 "BandBoatModel" "thrown" "I") (List.mem_of_getElem? (i := 1) rfl)) (fun _ h9 => h9) rfl (by decide +kernel) rfl rfl (Nat.le_of_ble_eq_true rfl) dX10_wind_2 (fun H locs hP hD hS => ?_)
  have hP : va_P E.1 vwCl [xModel h_mm a_mm (upd mm 0 (0 : Int32)), xI E (a_mm 13) 6 nw] H := hP
  have hD : va_D A [xModel h_mm a_mm (upd mm 0 (0 : Int32)), xI E (a_mm 13) 6 nw] := hD
  refine lv_iload_n hx hb dX10_wind_5 rfl (lv_at hl 1 rfl) ?_
  refine lv_iconst (v := (1 : Int32)) hx hb dX10_wind_6 (by decide) ?_
  refine lv_sipush (v := (400 : Int32)) hx hb dX10_wind_7 (by decide) ?_
  refine kI (wc := []) (wr := [xModel h_mm a_mm (upd mm 0 (0 : Int32)), xI E (a_mm 13) 6 nw]) (wc' := (fun (_ : Unit) => [])) (wn := (fun (_ : Unit) => [xModel h_mm a_mm (upd mm 0 (0 : Int32)), xI E (a_mm 13) 6 nw])) (isC := []) (isR := [0, 1]) (is2 := [0, 1]) cx hP hD hS ⟨rfl, rfl, by decide, by decide, by decide, by decide, fun _ => rfl⟩ (rS (As := [.int n, .int (1 : Int32), .int (400 : Int32)]) (rest := []) cx (c_X10_in l E n (1 : Int32) (400 : Int32) _) (va_cwS 3 hts gX10_wind_X10_in rfl rfl rfl (by decide +kernel) ⟨Nat.le_of_ble_eq_true rfl, Nat.le_of_ble_eq_true rfl⟩) rfl hl.1 rfl (Nat.le_of_ble_eq_true rfl) dX10_wind_10 ⟨Nat.zero_le _, Nat.zero_le _⟩) (fun r1 u H locs hw hP hD hS => ?_)
  subst hw
  refine lv_if_ne (tgt := 18) hx hb dX10_wind_13 (by decide) (fun c13 => ?_) (fun c13 => ?_)
  · rw [if_neg c13] at hρ
    refine lv_aload_n hx hb dX10_wind_18 rfl (lv_at hl 0 rfl) ?_
    refine va_get (D := E.1) (ci := 10) (v := .ref (a_mm 13)) (C := RX10) (T := TX10) (N := 27) hx hb hts iX10_wind_X10 hown hE.1 hP 0 rfl rfl 13 (by decide) (hts (.fieldLink RX10 16 "BandBoatModel" "now" "[I") (List.mem_of_getElem? (i := 2) rfl)) (fun _ h9 => h9) rfl dX10_wind_19 ?_
    refine lv_iconst (v := (0 : Int32)) hx hb dX10_wind_22 (by decide) ?_
    refine ar_ild (k := 0) (v := (nw 0)) hx hb hE hP 1 rfl (by unfold vp_in; decide) rfl rfl dX10_wind_23 ?_
    refine lv_bipush (v := (100 : Int32)) hx hb dX10_wind_24 (by decide) ?_
    refine lv_iload_n hx hb dX10_wind_26 rfl (lv_at hl 1 rfl) ?_
    refine lv_imul hx hb dX10_wind_27 ?_
    refine lv_iadd hx hb dX10_wind_28 ?_
    refine lv_ldc (own := RX10) (v := (40000 : Int32)) hx hb hown (hts (.constant RX10 113 (40000)) (List.mem_of_getElem? (i := 3) rfl)) dX10_wind_29 ?_
    refine lv_icmp_le (tgt := 37) hx hb dX10_wind_31 (by decide) (fun c31 => ?_) (fun c31 => ?_)
    · rw [if_pos c31] at hρ
      refine lv_aload_n hx hb dX10_wind_37 rfl (lv_at hl 0 rfl) ?_
      refine va_get (D := E.1) (ci := 10) (v := .ref (a_mm 13)) (C := RX10) (T := TX10) (N := 27) hx hb hts iX10_wind_X10 hown hE.1 hP 0 rfl rfl 13 (by decide) (hts (.fieldLink RX10 16 "BandBoatModel" "now" "[I") (List.mem_of_getElem? (i := 2) rfl)) (fun _ h9 => h9) rfl dX10_wind_38 ?_
      refine lv_iconst (v := (0 : Int32)) hx hb dX10_wind_41 (by decide) ?_
      refine lv_dup2_11 hx hb dX10_wind_42 rfl rfl ?_
      refine ar_ild (k := 0) (v := (nw 0)) hx hb hE hP 1 rfl (by unfold vp_in; decide) rfl rfl dX10_wind_43 ?_
      refine lv_bipush (v := (100 : Int32)) hx hb dX10_wind_44 (by decide) ?_
      refine lv_iload_n hx hb dX10_wind_46 rfl (lv_at hl 1 rfl) ?_
      refine lv_imul hx hb dX10_wind_47 ?_
      refine lv_iadd hx hb dX10_wind_48 ?_
      refine lv_topi (fun v2 ev2 => ?_)
      have hρ : ρ = F_X10_wind_k49 nw v2 := by rw [ev2]; exact hρ
      unfold F_X10_wind_k49 at hρ
      refine ar_ist (k := 0) (ws' := [xModel h_mm a_mm (upd mm 0 (0 : Int32)), xI E (a_mm 13) 6 (upd nw 0 v2)]) hx hb hE hP hD hS 1 rfl (by unfold vp_in; decide) rfl rfl dX10_wind_49 (fun H locs hP hD hS => ?_)
      refine lv_aload_n hx hb dX10_wind_50 rfl (lv_at hl 0 rfl) ?_
      refine va_get (D := E.1) (ci := 10) (v := .ref (a_mm 13)) (C := RX10) (T := TX10) (N := 27) hx hb hts iX10_wind_X10 hown hE.1 hP 0 rfl rfl 13 (by decide) (hts (.fieldLink RX10 16 "BandBoatModel" "now" "[I") (List.mem_of_getElem? (i := 2) rfl)) (fun _ h9 => h9) rfl dX10_wind_51 ?_
      refine lv_iconst (v := (0 : Int32)) hx hb dX10_wind_54 (by decide) ?_
      refine ar_ild (k := 0) (v := v2) hx hb hE hP 1 rfl (by unfold vp_in; decide) rfl rfl dX10_wind_55 ?_
      exact hq v2 ((0 : Int32), (upd nw 0 v2)) _ _ _ _ dX10_wind_56 rfl (hρ0.trans hρ) hP hD hS
    · rw [if_neg c31] at hρ
      refine lv_bipush (v := (-2 : Int32)) hx hb dX10_wind_34 (by decide) ?_
      exact hq (-2 : Int32) ((0 : Int32), nw) _ _ _ _ dX10_wind_36 rfl (hρ0.trans hρ) hP hD hS
  · rw [if_pos c13] at hρ
    refine lv_iconst (v := (-1 : Int32)) hx hb dX10_wind_16 (by decide) ?_
    exact hq (-1 : Int32) ((0 : Int32), nw) _ _ _ _ dX10_wind_17 rfl (hρ0.trans hρ) hP hD hS
def F_X10_go_k41 (x3_30 : Int32) (g10 : Nat → Int32) : (Int32 × (Nat → Int32)) ⊕ (Int32 × (Nat → Int32)) := Sum.inl ((x3_30 + (1 : Int32)), g10)
def F_X10_go_b30 (mm : Nat → Int32) (bt : Nat → Int32) (tenths : Int32) (z : Int32) (v3 : Int32) (v4 : Int32) (v5 : Int32) (v6 : Int32) (v7 : Int32) (v8 : Int32) (v9 : Int32) (x3_30 : Int32) (g_nw_30 : Nat → Int32) : (Int32 × (Nat → Int32)) ⊕ (Int32 × (Nat → Int32)) := (if tenths ≤ x3_30 then Sum.inr (x3_30, g_nw_30) else F_X10_go_k41 x3_30 (F_X10_tenth (upd (upd (upd (upd (upd (upd (upd (upd mm 0 (0 : Int32)) 6 v3) 7 v4) 8 v5) 9 v6) 10 v7) 11 v8) 12 v9) bt g_nw_30 z))
def F_X10_go_l30 (mm : Nat → Int32) (bt : Nat → Int32) (tenths : Int32) (z : Int32) (v3 : Int32) (v4 : Int32) (v5 : Int32) (v6 : Int32) (v7 : Int32) (v8 : Int32) (v9 : Int32) : Nat → (Int32) → (Nat → Int32) → Int32 × (Nat → Int32)
  | 0, x3_30, g_nw_30 => (x3_30, g_nw_30)
  | n_30 + 1, x3_30, g_nw_30 => match F_X10_go_b30 mm bt tenths z v3 v4 v5 v6 v7 v8 v9 x3_30 g_nw_30 with
    | Sum.inl (c_x3_30, c_g_nw_30) => F_X10_go_l30 mm bt tenths z v3 v4 v5 v6 v7 v8 v9 n_30 c_x3_30 c_g_nw_30
    | Sum.inr r_ => r_
def F_X10_go_x30 (v3 : Int32) (v4 : Int32) (v5 : Int32) (v6 : Int32) (v7 : Int32) (v8 : Int32) (v9 : Int32) (bg_nw_30 : Nat → Int32) : Int32 × Int32 × Int32 × Int32 × Int32 × Int32 × Int32 × Int32 × Int32 × (Nat → Int32) := ((bg_nw_30 2), (0 : Int32), v3, v4, v5, v6, v7, v8, v9, bg_nw_30)
def F_X10_go_k25 (mm : Nat → Int32) (bt : Nat → Int32) (nw : Nat → Int32) (tenths : Int32) (z : Int32) (v3 : Int32) (v4 : Int32) (v5 : Int32) (v6 : Int32) (v7 : Int32) (v8 : Int32) (v9 : Int32) : Int32 × Int32 × Int32 × Int32 × Int32 × Int32 × Int32 × Int32 × Int32 × (Nat → Int32) := (match F_X10_go_l30 mm bt tenths z v3 v4 v5 v6 v7 v8 v9 ((Int32.toInt tenths).toNat) (0 : Int32) nw with | (bx3_30, bg_nw_30) => F_X10_go_x30 v3 v4 v5 v6 v7 v8 v9 bg_nw_30)
def F_X10_go (mm : Nat → Int32) (bt : Nat → Int32) (nw : Nat → Int32) (tenths : Int32) (z : Int32) : Int32 × Int32 × Int32 × Int32 × Int32 × Int32 × Int32 × Int32 × Int32 × (Nat → Int32) := (if (F_X10_in tenths (1 : Int32) (99 : Int32)) = (0 : Int32) then ((-1 : Int32), (0 : Int32), (mm 6), (mm 7), (mm 8), (mm 9), (mm 10), (mm 11), (mm 12), nw) else (if (F_X10_isWind z) = (0 : Int32) then ((-1 : Int32), (0 : Int32), (mm 6), (mm 7), (mm 8), (mm 9), (mm 10), (mm 11), (mm 12), nw) else (match F_X10_asItIs bt with | (v3, v4, v5, v6, v7, v8, v9) => F_X10_go_k25 mm bt nw tenths z v3 v4 v5 v6 v7 v8 v9)))
theorem iX10_go_X10 : ∀ w ∈ wsX100, w ∈ wsX10_go := fun _ h => List.mem_cons_of_mem _ (List.mem_append_right _ h)
set_option maxHeartbeats 4000000 in
set_option maxRecDepth 100000 in
theorem c_X10_go (l : Launch) (E : wV) (h_mm : Nat) (a_mm : Nat → Nat) (mm : Nat → Int32) (bt : Nat → Int32) (nw : Nat → Int32) (tenths : Int32) (z : Int32) (hB : btOK bt) : MetI l yX10_go wsX10_go ({ frames := 3, cells := 0, slots := 0, locals := 69 } : Room) E ([.ref h_mm, .int tenths, .int z] : List Value) [xModel h_mm a_mm mm, xI E (a_mm 5) 60 bt, xI E (a_mm 13) 6 nw] (fun (r : Int32) (u : Int32 × Int32 × Int32 × Int32 × Int32 × Int32 × Int32 × Int32 × (Nat → Int32)) => F_X10_go mm bt nw tenths z = (r, u)) (fun (u : Int32 × Int32 × Int32 × Int32 × Int32 × Int32 × Int32 × Int32 × (Nat → Int32)) => [xModel h_mm a_mm (upd (upd (upd (upd (upd (upd (upd (upd mm 0 u.1) 6 u.2.1) 7 u.2.2.1) 8 u.2.2.2.1) 9 u.2.2.2.2.1) 10 u.2.2.2.2.2.1) 11 u.2.2.2.2.2.2.1) 12 u.2.2.2.2.2.2.2.1), xI E (a_mm 5) 60 bt, xI E (a_mm 13) 6 u.2.2.2.2.2.2.2.2]) := by
  refine MetI.of (cc := cX10_go) (maxL := 4) (own := RX10) (by decide) rfl rfl (Nat.le_of_ble_eq_true rfl) ?_
  intro p e s m below meth c A Q ls cx hP hD hS hl hq
  obtain ⟨hx, hb, hml, hown, hts, hE, hA⟩ := id cx
  have hl : lv_has ls 4 [(0, .ref h_mm), (1, .int tenths), (2, .int z)] := hl
  have hP : va_P E.1 vwCl [xModel h_mm a_mm mm, xI E (a_mm 5) 60 bt, xI E (a_mm 13) 6 nw] s.heap := hP
  obtain ⟨ρ, hρ0⟩ : ∃ ρ, F_X10_go mm bt nw tenths z = ρ := ⟨_, rfl⟩
  have hρ := hρ0.symm
  unfold F_X10_go at hρ
  refine lv_aload_n hx hb dX10_go_0 rfl (lv_at hl 0 rfl) ?_
  refine lv_iconst (v := (0 : Int32)) hx hb dX10_go_1 (by decide) ?_
  refine va_put (D := E.1) (ci := 10) (v := .int (0 : Int32)) (ty := .int) (C := RX10) (T := TX10) (N := 27) hx hb hts iX10_go_X10 tyX10 tyX10_ok nmX10 hown hE.1 hP hD hS 0 rfl rfl 0 (by decide) (hts (.fieldLink RX10 41 "BandBoatModel" "thrown" "I") (List.mem_of_getElem? (i := 1) rfl)) (fun _ h9 => h9) rfl (by decide +kernel) rfl rfl (Nat.le_of_ble_eq_true rfl) dX10_go_2 (fun H locs hP hD hS => ?_)
  have hP : va_P E.1 vwCl [xModel h_mm a_mm (upd mm 0 (0 : Int32)), xI E (a_mm 5) 60 bt, xI E (a_mm 13) 6 nw] H := hP
  have hD : va_D A [xModel h_mm a_mm (upd mm 0 (0 : Int32)), xI E (a_mm 5) 60 bt, xI E (a_mm 13) 6 nw] := hD
  refine lv_iload_n hx hb dX10_go_5 rfl (lv_at hl 1 rfl) ?_
  refine lv_iconst (v := (1 : Int32)) hx hb dX10_go_6 (by decide) ?_
  refine lv_bipush (v := (99 : Int32)) hx hb dX10_go_7 (by decide) ?_
  refine kI (wc := []) (wr := [xModel h_mm a_mm (upd mm 0 (0 : Int32)), xI E (a_mm 5) 60 bt, xI E (a_mm 13) 6 nw]) (wc' := (fun (_ : Unit) => [])) (wn := (fun (_ : Unit) => [xModel h_mm a_mm (upd mm 0 (0 : Int32)), xI E (a_mm 5) 60 bt, xI E (a_mm 13) 6 nw])) (isC := []) (isR := [0, 1, 2]) (is2 := [0, 1, 2]) cx hP hD hS ⟨rfl, rfl, by decide, by decide, by decide, by decide, fun _ => rfl⟩ (rS (As := [.int tenths, .int (1 : Int32), .int (99 : Int32)]) (rest := []) cx (c_X10_in l E tenths (1 : Int32) (99 : Int32) _) (va_cwS 3 hts gX10_go_X10_in rfl rfl rfl (by decide +kernel) ⟨Nat.le_of_ble_eq_true rfl, Nat.le_of_ble_eq_true rfl⟩) rfl hl.1 rfl (Nat.le_of_ble_eq_true rfl) dX10_go_9 ⟨Nat.zero_le _, Nat.zero_le _⟩) (fun r1 u H locs hw hP hD hS => ?_)
  subst hw
  refine lv_if_eq (tgt := 22) hx hb dX10_go_12 (by decide) (fun c12 => ?_) (fun c12 => ?_)
  · rw [if_pos c12] at hρ
    refine lv_iconst (v := (-1 : Int32)) hx hb dX10_go_22 (by decide) ?_
    exact hq (-1 : Int32) ((0 : Int32), (mm 6), (mm 7), (mm 8), (mm 9), (mm 10), (mm 11), (mm 12), nw) _ _ _ _ dX10_go_23 rfl (hρ0.trans hρ) hP hD hS
  · rw [if_neg c12] at hρ
    refine lv_iload_n hx hb dX10_go_15 rfl (lv_at hl 2 rfl) ?_
    refine kI (wc := []) (wr := [xModel h_mm a_mm (upd mm 0 (0 : Int32)), xI E (a_mm 5) 60 bt, xI E (a_mm 13) 6 nw]) (wc' := (fun (_ : Unit) => [])) (wn := (fun (_ : Unit) => [xModel h_mm a_mm (upd mm 0 (0 : Int32)), xI E (a_mm 5) 60 bt, xI E (a_mm 13) 6 nw])) (isC := []) (isR := [0, 1, 2]) (is2 := [0, 1, 2]) cx hP hD hS ⟨rfl, rfl, by decide, by decide, by decide, by decide, fun _ => rfl⟩ (rS (As := [.int z]) (rest := []) cx (c_X10_isWind l E z _) (va_cwS 1 hts gX10_go_X10_isWind rfl rfl rfl (by decide +kernel) ⟨Nat.le_of_ble_eq_true rfl, Nat.le_of_ble_eq_true rfl⟩) rfl hl.1 rfl (Nat.le_of_ble_eq_true rfl) dX10_go_16 ⟨Nat.zero_le _, Nat.zero_le _⟩) (fun r2 u H locs hw hP hD hS => ?_)
    subst hw
    refine lv_if_ne (tgt := 24) hx hb dX10_go_19 (by decide) (fun c19 => ?_) (fun c19 => ?_)
    · rw [if_neg c19] at hρ
      refine lv_aload_n hx hb dX10_go_24 rfl (lv_at hl 0 rfl) ?_
      refine kV (wc := [xModel h_mm a_mm (upd mm 0 (0 : Int32)), xI E (a_mm 5) 60 bt]) (wr := [xI E (a_mm 13) 6 nw]) (wc' := (fun (u : Int32 × Int32 × Int32 × Int32 × Int32 × Int32 × Int32) => [xModel h_mm a_mm (upd (upd (upd (upd (upd (upd (upd (upd mm 0 (0 : Int32)) 6 u.1) 7 u.2.1) 8 u.2.2.1) 9 u.2.2.2.1) 10 u.2.2.2.2.1) 11 u.2.2.2.2.2.1) 12 u.2.2.2.2.2.2), xI E (a_mm 5) 60 bt])) (wn := (fun (u : Int32 × Int32 × Int32 × Int32 × Int32 × Int32 × Int32) => [xModel h_mm a_mm (upd (upd (upd (upd (upd (upd (upd (upd mm 0 (0 : Int32)) 6 u.1) 7 u.2.1) 8 u.2.2.1) 9 u.2.2.2.1) 10 u.2.2.2.2.1) 11 u.2.2.2.2.2.1) 12 u.2.2.2.2.2.2), xI E (a_mm 5) 60 bt, xI E (a_mm 13) 6 nw])) (isC := [0, 1]) (isR := [2]) (is2 := [1, 2, 0]) cx hP hD hS ⟨rfl, rfl, by decide, by decide, by decide, by decide, fun _ => rfl⟩ (rV (As := []) (rest := []) (C := RX10) (q0 := 0) (ci := 10) cx (c_X10_asItIs l E h_mm a_mm (upd mm 0 (0 : Int32)) bt (hB) _) (cwV 0 hts gX10_go_X10_asItIs rfl rfl rfl (by decide +kernel) ⟨Nat.le_of_ble_eq_true rfl, Nat.le_of_ble_eq_true rfl⟩) rfl rfl rfl rfl hl.1 rfl (Nat.le_of_ble_eq_true rfl) dX10_go_25 ⟨Nat.zero_le _, Nat.zero_le _⟩) (fun u H locs hw hP hD hS => ?_)
      obtain ⟨hw, hn25⟩ := hw
      obtain ⟨v3, v4, v5, v6, v7, v8, v9⟩ := u
      have hn25 : (v6) = (bt 17) ∧ (v7) = (bt 18) ∧ (v8) = (bt 19) := hn25
      have hP : va_P E.1 vwCl [xModel h_mm a_mm (upd (upd (upd (upd (upd (upd (upd (upd mm 0 (0 : Int32)) 6 v3) 7 v4) 8 v5) 9 v6) 10 v7) 11 v8) 12 v9), xI E (a_mm 5) 60 bt, xI E (a_mm 13) 6 nw] H := hP
      have hD : va_D A [xModel h_mm a_mm (upd (upd (upd (upd (upd (upd (upd (upd mm 0 (0 : Int32)) 6 v3) 7 v4) 8 v5) 9 v6) 10 v7) 11 v8) 12 v9), xI E (a_mm 5) 60 bt, xI E (a_mm 13) 6 nw] := hD
      have hw : F_X10_asItIs bt = (v3, v4, v5, v6, v7, v8, v9) := hw
      rw [hw] at hρ
      have hρ : ρ = F_X10_go_k25 mm bt nw tenths z v3 v4 v5 v6 v7 v8 v9 := hρ
      unfold F_X10_go_k25 at hρ
      refine lv_iconst (v := (0 : Int32)) hx hb dX10_go_28 (by decide) ?_
      refine lv_istore_n (lv' := [(3, .int (0 : Int32)), (0, .ref h_mm), (1, .int tenths), (2, .int z)]) hx hb dX10_go_29 rfl hl (by decide) rfl (fun ls hl => ?_)
      have hL30 : ∀ (n_30 : Nat) (x3_30 : Int32) (g_nw_30 : Nat → Int32) (H : Heap) (locs : List Loc) (ls : Array Slot), ((tenths : Int32).toInt ≤ (x3_30).toInt + (n_30 : Nat)) → va_P E.1 vwCl [xModel h_mm a_mm (upd (upd (upd (upd (upd (upd (upd (upd mm 0 (0 : Int32)) 6 v3) 7 v4) 8 v5) 9 v6) 10 v7) 11 v8) 12 v9), xI E (a_mm 5) 60 bt, xI E (a_mm 13) 6 g_nw_30] H → va_D A [xModel h_mm a_mm (upd (upd (upd (upd (upd (upd (upd (upd mm 0 (0 : Int32)) 6 v3) 7 v4) 8 v5) 9 v6) 10 v7) 11 v8) 12 v9), xI E (a_mm 5) 60 bt, xI E (a_mm 13) 6 g_nw_30] → va_S A s.heap H locs → lv_has ls 4 [(3, .int x3_30), (0, .ref h_mm), (1, .int tenths), (2, .int z)] → (∀ (ox3_30 : Int32) (og_nw_30 : Nat → Int32) (H : Heap) (locs : List Loc) (ls : Array Slot), F_X10_go_l30 mm bt tenths z v3 v4 v5 v6 v7 v8 v9 n_30 x3_30 g_nw_30 = (ox3_30, og_nw_30) → va_P E.1 vwCl [xModel h_mm a_mm (upd (upd (upd (upd (upd (upd (upd (upd mm 0 (0 : Int32)) 6 v3) 7 v4) 8 v5) 9 v6) 10 v7) 11 v8) 12 v9), xI E (a_mm 5) 60 bt, xI E (a_mm 13) 6 og_nw_30] H → va_D A [xModel h_mm a_mm (upd (upd (upd (upd (upd (upd (upd (upd mm 0 (0 : Int32)) 6 v3) 7 v4) 8 v5) 9 v6) 10 v7) 11 v8) 12 v9), xI E (a_mm 5) 60 bt, xI E (a_mm 13) 6 og_nw_30] → va_S A s.heap H locs → lv_has ls 4 [(3, .int ox3_30), (0, .ref h_mm), (1, .int tenths), (2, .int z)] → W p l e ({ frames := 3, cells := 0, slots := 0, locals := 69 } : Room) s m ([.ref h_mm, .int tenths, .int z] : List Value).toArray below meth c H locs 0 0 Q (F0 m 50 ls [])) → W p l e ({ frames := 3, cells := 0, slots := 0, locals := 69 } : Room) s m ([.ref h_mm, .int tenths, .int z] : List Value).toArray below meth c H locs 0 0 Q (F0 m 30 ls []) := by
        intro n_30
        induction n_30 with
        | zero =>
          intro x3_30 g_nw_30 H locs ls hM hP hD hS hl hK
          have hM30 := hM
          obtain ⟨σ30, hσ030⟩ : ∃ σ, F_X10_go_l30 mm bt tenths z v3 v4 v5 v6 v7 v8 v9 0 x3_30 g_nw_30 = σ := ⟨_, rfl⟩
          have hσ30 := hσ030.symm
          rw [F_X10_go_l30] at hσ30
          refine lv_iload_n hx hb dX10_go_30 rfl (lv_at hl 0 rfl) ?_
          refine lv_iload_n hx hb dX10_go_31 rfl (lv_at hl 2 rfl) ?_
          refine lv_icmp_ge (tgt := 50) hx hb dX10_go_32 (by decide) (fun c32 => ?_) (fun c32 => ?_)
          · exact hK x3_30 g_nw_30 _ _ _ (hσ030.trans hσ30) hP hD hS (lv_sub hl [0, 1, 2, 3] rfl)
          · exact (cnt_lt0 c32 hM).elim
        | succ n_30 ih =>
          intro x3_30 g_nw_30 H locs ls hM hP hD hS hl hK
          have hM30 := hM
          obtain ⟨σ30, hσ030⟩ : ∃ σ, F_X10_go_l30 mm bt tenths z v3 v4 v5 v6 v7 v8 v9 (n_30 + 1) x3_30 g_nw_30 = σ := ⟨_, rfl⟩
          have hσ30 := hσ030.symm
          rw [F_X10_go_l30] at hσ30
          obtain ⟨τ30, hτ030⟩ : ∃ τ, F_X10_go_b30 mm bt tenths z v3 v4 v5 v6 v7 v8 v9 x3_30 g_nw_30 = τ := ⟨_, rfl⟩
          rw [hτ030] at hσ30
          have hτ30 := hτ030.symm
          unfold F_X10_go_b30 at hτ30
          refine lv_iload_n hx hb dX10_go_30 rfl (lv_at hl 0 rfl) ?_
          refine lv_iload_n hx hb dX10_go_31 rfl (lv_at hl 2 rfl) ?_
          refine lv_icmp_ge (tgt := 50) hx hb dX10_go_32 (by decide) (fun c32 => ?_) (fun c32 => ?_)
          · rw [if_pos c32] at hτ30
            have hσ30 : σ30 = (x3_30, g_nw_30) := by subst hτ30; exact hσ30
            exact hK x3_30 g_nw_30 _ _ _ (hσ030.trans hσ30) hP hD hS (lv_sub hl [0, 1, 2, 3] rfl)
          · rw [if_neg c32] at hτ30
            refine lv_aload_n hx hb dX10_go_35 rfl (lv_at hl 1 rfl) ?_
            refine lv_aload_n hx hb dX10_go_36 rfl (lv_at hl 1 rfl) ?_
            refine va_get (D := E.1) (ci := 10) (v := .ref (a_mm 13)) (C := RX10) (T := TX10) (N := 27) hx hb hts iX10_go_X10 hown hE.1 hP 0 rfl rfl 13 (by decide) (hts (.fieldLink RX10 16 "BandBoatModel" "now" "[I") (List.mem_of_getElem? (i := 2) rfl)) (fun _ h9 => h9) rfl dX10_go_37 ?_
            refine lv_iload_n hx hb dX10_go_40 rfl (lv_at hl 3 rfl) ?_
            refine kV (wc := [xModel h_mm a_mm (upd (upd (upd (upd (upd (upd (upd (upd mm 0 (0 : Int32)) 6 v3) 7 v4) 8 v5) 9 v6) 10 v7) 11 v8) 12 v9), xI E (a_mm 5) 60 bt, xI E (a_mm 13) 6 g_nw_30]) (wr := []) (wc' := (fun (u : (Nat → Int32)) => [xModel h_mm a_mm (upd (upd (upd (upd (upd (upd (upd (upd mm 0 (0 : Int32)) 6 v3) 7 v4) 8 v5) 9 v6) 10 v7) 11 v8) 12 v9), xI E (a_mm 5) 60 bt, xI E (a_mm 13) 6 u])) (wn := (fun (u : (Nat → Int32)) => [xModel h_mm a_mm (upd (upd (upd (upd (upd (upd (upd (upd mm 0 (0 : Int32)) 6 v3) 7 v4) 8 v5) 9 v6) 10 v7) 11 v8) 12 v9), xI E (a_mm 5) 60 bt, xI E (a_mm 13) 6 u])) (isC := [0, 1, 2]) (isR := []) (is2 := [0, 1, 2]) cx hP hD hS ⟨rfl, rfl, by decide, by decide, by decide, by decide, fun _ => rfl⟩ (rV (As := [.ref (a_mm 13), .int z]) (rest := []) (C := RX10) (q0 := 0) (ci := 10) cx (c_X10_tenth l E h_mm (a_mm 13) a_mm (upd (upd (upd (upd (upd (upd (upd (upd mm 0 (0 : Int32)) 6 v3) 7 v4) 8 v5) 9 v6) 10 v7) 11 v8) 12 v9) bt g_nw_30 z (hB) (mmOK_of hn25 hB) _) (cwV 2 hts gX10_go_X10_tenth rfl rfl rfl (by decide +kernel) ⟨Nat.le_of_ble_eq_true rfl, Nat.le_of_ble_eq_true rfl⟩) rfl rfl rfl rfl hl.1 rfl (Nat.le_of_ble_eq_true rfl) dX10_go_41 ⟨Nat.zero_le _, Nat.zero_le _⟩) (fun u H locs hw hP hD hS => ?_)
            obtain ⟨hw, hn41⟩ := hw
            obtain ⟨g10, rfl⟩ : ∃ z, z = u := ⟨_, rfl⟩
            have hn41 : (g10 5) = (g_nw_30 5) + (1 : Int32) := hn41
            have hP : va_P E.1 vwCl [xModel h_mm a_mm (upd (upd (upd (upd (upd (upd (upd (upd mm 0 (0 : Int32)) 6 v3) 7 v4) 8 v5) 9 v6) 10 v7) 11 v8) 12 v9), xI E (a_mm 5) 60 bt, xI E (a_mm 13) 6 g10] H := hP
            have hD : va_D A [xModel h_mm a_mm (upd (upd (upd (upd (upd (upd (upd (upd mm 0 (0 : Int32)) 6 v3) 7 v4) 8 v5) 9 v6) 10 v7) 11 v8) 12 v9), xI E (a_mm 5) 60 bt, xI E (a_mm 13) 6 g10] := hD
            have hw : F_X10_tenth (upd (upd (upd (upd (upd (upd (upd (upd mm 0 (0 : Int32)) 6 v3) 7 v4) 8 v5) 9 v6) 10 v7) 11 v8) 12 v9) bt g_nw_30 z = g10 := hw
            rw [hw] at hτ30
            have hτ30 : τ30 = F_X10_go_k41 x3_30 g10 := hτ30
            unfold F_X10_go_k41 at hτ30
            refine lv_iinc (v := (x3_30 + (1 : Int32))) (lv' := [(3, .int (x3_30 + (1 : Int32))), (0, .ref h_mm), (1, .int tenths), (2, .int z)]) hx hb dX10_go_44 hl (k := 0) rfl rfl (by decide) rfl (fun ls hl => ?_)
            refine lv_goto (tgt := 30) hx hb dX10_go_47 (by decide) ?_
            have hσ30 : σ30 = F_X10_go_l30 mm bt tenths z v3 v4 v5 v6 v7 v8 v9 n_30 (x3_30 + (1 : Int32)) g10 := by subst hτ30; exact hσ30
            exact ih (x3_30 + (1 : Int32)) g10 _ _ _ (cnt_lt c32 hM) hP hD hS (lv_sub hl [0, 1, 2, 3] rfl) (fun ox3_30 og_nw_30 H locs ls he => hK ox3_30 og_nw_30 H locs ls (hσ030.trans (hσ30.trans he)))
      refine hL30 ((Int32.toInt tenths).toNat) (0 : Int32) nw _ _ _ (by show _ ≤ (0 : Int) + _; omega) hP hD hS (lv_sub hl [0, 1, 2, 3] rfl) ?_
      intro bx3_30 bg_nw_30 H locs ls he hP hD hS hl
      rw [he] at hρ
      have hρ : ρ = F_X10_go_x30 v3 v4 v5 v6 v7 v8 v9 bg_nw_30 := hρ
      unfold F_X10_go_x30 at hρ
      refine lv_aload_n hx hb dX10_go_50 rfl (lv_at hl 1 rfl) ?_
      refine va_get (D := E.1) (ci := 10) (v := .ref (a_mm 13)) (C := RX10) (T := TX10) (N := 27) hx hb hts iX10_go_X10 hown hE.1 hP 0 rfl rfl 13 (by decide) (hts (.fieldLink RX10 16 "BandBoatModel" "now" "[I") (List.mem_of_getElem? (i := 2) rfl)) (fun _ h9 => h9) rfl dX10_go_51 ?_
      refine lv_iconst (v := (2 : Int32)) hx hb dX10_go_54 (by decide) ?_
      refine ar_ild (k := 2) (v := (bg_nw_30 2)) hx hb hE hP 2 rfl (by unfold vp_in; decide) rfl rfl dX10_go_55 ?_
      exact hq (bg_nw_30 2) ((0 : Int32), v3, v4, v5, v6, v7, v8, v9, bg_nw_30) _ _ _ _ dX10_go_56 rfl (hρ0.trans hρ) hP hD hS
    · rw [if_pos c19] at hρ
      refine lv_iconst (v := (-1 : Int32)) hx hb dX10_go_22 (by decide) ?_
      exact hq (-1 : Int32) ((0 : Int32), (mm 6), (mm 7), (mm 8), (mm 9), (mm 10), (mm 11), (mm 12), nw) _ _ _ _ dX10_go_23 rfl (hρ0.trans hρ) hP hD hS
def F_X10_weed (nw : Nat → Int32) : Int32 × Int32 × (Nat → Int32) := ((nw 1), (0 : Int32), (upd nw 1 (0 : Int32)))
theorem iX10_weed_X10 : ∀ w ∈ wsX100, w ∈ wsX10_weed := fun _ h => List.mem_cons_of_mem _ (List.mem_append_right _ h)
set_option maxHeartbeats 4000000 in
set_option maxRecDepth 100000 in
theorem c_X10_weed (l : Launch) (E : wV) (h_mm : Nat) (a_mm : Nat → Nat) (mm : Nat → Int32) (nw : Nat → Int32) : MetI l yX10_weed wsX10_weed ({ frames := 0, cells := 0, slots := 0, locals := 0 } : Room) E ([.ref h_mm] : List Value) [xModel h_mm a_mm mm, xI E (a_mm 13) 6 nw] (fun (r : Int32) (u : Int32 × (Nat → Int32)) => F_X10_weed nw = (r, u)) (fun (u : Int32 × (Nat → Int32)) => [xModel h_mm a_mm (upd mm 0 u.1), xI E (a_mm 13) 6 u.2]) := by
  refine MetI.of (cc := cX10_weed) (maxL := 2) (own := RX10) (by decide) rfl rfl (Nat.le_of_ble_eq_true rfl) ?_
  intro p e s m below meth c A Q ls cx hP hD hS hl hq
  obtain ⟨hx, hb, hml, hown, hts, hE, hA⟩ := id cx
  have hl : lv_has ls 2 [(0, .ref h_mm)] := hl
  have hP : va_P E.1 vwCl [xModel h_mm a_mm mm, xI E (a_mm 13) 6 nw] s.heap := hP
  obtain ⟨ρ, hρ0⟩ : ∃ ρ, F_X10_weed nw = ρ := ⟨_, rfl⟩
  have hρ := hρ0.symm
  unfold F_X10_weed at hρ
  refine lv_aload_n hx hb dX10_weed_0 rfl (lv_at hl 0 rfl) ?_
  refine lv_iconst (v := (0 : Int32)) hx hb dX10_weed_1 (by decide) ?_
  refine va_put (D := E.1) (ci := 10) (v := .int (0 : Int32)) (ty := .int) (C := RX10) (T := TX10) (N := 27) hx hb hts iX10_weed_X10 tyX10 tyX10_ok nmX10 hown hE.1 hP hD hS 0 rfl rfl 0 (by decide) (hts (.fieldLink RX10 41 "BandBoatModel" "thrown" "I") (List.mem_of_getElem? (i := 1) rfl)) (fun _ h9 => h9) rfl (by decide +kernel) rfl rfl (Nat.le_of_ble_eq_true rfl) dX10_weed_2 (fun H locs hP hD hS => ?_)
  have hP : va_P E.1 vwCl [xModel h_mm a_mm (upd mm 0 (0 : Int32)), xI E (a_mm 13) 6 nw] H := hP
  have hD : va_D A [xModel h_mm a_mm (upd mm 0 (0 : Int32)), xI E (a_mm 13) 6 nw] := hD
  refine lv_aload_n hx hb dX10_weed_5 rfl (lv_at hl 0 rfl) ?_
  refine va_get (D := E.1) (ci := 10) (v := .ref (a_mm 13)) (C := RX10) (T := TX10) (N := 27) hx hb hts iX10_weed_X10 hown hE.1 hP 0 rfl rfl 13 (by decide) (hts (.fieldLink RX10 16 "BandBoatModel" "now" "[I") (List.mem_of_getElem? (i := 2) rfl)) (fun _ h9 => h9) rfl dX10_weed_6 ?_
  refine lv_iconst (v := (1 : Int32)) hx hb dX10_weed_9 (by decide) ?_
  refine ar_ild (k := 1) (v := (nw 1)) hx hb hE hP 1 rfl (by unfold vp_in; decide) rfl rfl dX10_weed_10 ?_
  refine lv_istore_n (lv' := [(1, .int (nw 1)), (0, .ref h_mm)]) hx hb dX10_weed_11 rfl hl (by decide) rfl (fun ls hl => ?_)
  refine lv_aload_n hx hb dX10_weed_12 rfl (lv_at hl 1 rfl) ?_
  refine va_get (D := E.1) (ci := 10) (v := .ref (a_mm 13)) (C := RX10) (T := TX10) (N := 27) hx hb hts iX10_weed_X10 hown hE.1 hP 0 rfl rfl 13 (by decide) (hts (.fieldLink RX10 16 "BandBoatModel" "now" "[I") (List.mem_of_getElem? (i := 2) rfl)) (fun _ h9 => h9) rfl dX10_weed_13 ?_
  refine lv_iconst (v := (1 : Int32)) hx hb dX10_weed_16 (by decide) ?_
  refine lv_iconst (v := (0 : Int32)) hx hb dX10_weed_17 (by decide) ?_
  refine ar_ist (k := 1) (ws' := [xModel h_mm a_mm (upd mm 0 (0 : Int32)), xI E (a_mm 13) 6 (upd nw 1 (0 : Int32))]) hx hb hE hP hD hS 1 rfl (by unfold vp_in; decide) rfl rfl dX10_weed_18 (fun H locs hP hD hS => ?_)
  refine lv_iload_n hx hb dX10_weed_19 rfl (lv_at hl 0 rfl) ?_
  exact hq (nw 1) ((0 : Int32), (upd nw 1 (0 : Int32))) _ _ _ _ dX10_weed_20 rfl (hρ0.trans hρ) hP hD hS
def F_X10_now (nw : Nat → Int32) (what : Int32) : Int32 × Int32 := (if (F_X10_in what (0 : Int32) (5 : Int32)) = (0 : Int32) then ((-1 : Int32), (0 : Int32)) else (if what = (3 : Int32) then (((nw (Int32.toNatClampNeg what)) + (10000 : Int32)), (0 : Int32)) else (if what = (4 : Int32) then (((nw (Int32.toNatClampNeg what)) + (10000000 : Int32)), (0 : Int32)) else (((nw (Int32.toNatClampNeg what)) + (0 : Int32)), (0 : Int32)))))
theorem iX10_now_X10 : ∀ w ∈ wsX100, w ∈ wsX10_now := fun _ h => List.mem_cons_of_mem _ (List.mem_append_right _ h)
set_option maxHeartbeats 4000000 in
set_option maxRecDepth 100000 in
theorem c_X10_now (l : Launch) (E : wV) (h_mm : Nat) (a_mm : Nat → Nat) (mm : Nat → Int32) (nw : Nat → Int32) (what : Int32) : MetI l yX10_now wsX10_now ({ frames := 1, cells := 0, slots := 0, locals := 22 } : Room) E ([.ref h_mm, .int what] : List Value) [xModel h_mm a_mm mm, xI E (a_mm 13) 6 nw] (fun (r : Int32) (u : Int32) => F_X10_now nw what = (r, u)) (fun (u : Int32) => [xModel h_mm a_mm (upd mm 0 u), xI E (a_mm 13) 6 nw]) := by
  refine MetI.of (cc := cX10_now) (maxL := 2) (own := RX10) (by decide) rfl rfl (Nat.le_of_ble_eq_true rfl) ?_
  intro p e s m below meth c A Q ls cx hP hD hS hl hq
  obtain ⟨hx, hb, hml, hown, hts, hE, hA⟩ := id cx
  have hl : lv_has ls 2 [(0, .ref h_mm), (1, .int what)] := hl
  have hP : va_P E.1 vwCl [xModel h_mm a_mm mm, xI E (a_mm 13) 6 nw] s.heap := hP
  obtain ⟨ρ, hρ0⟩ : ∃ ρ, F_X10_now nw what = ρ := ⟨_, rfl⟩
  have hρ := hρ0.symm
  unfold F_X10_now at hρ
  refine lv_aload_n hx hb dX10_now_0 rfl (lv_at hl 0 rfl) ?_
  refine lv_iconst (v := (0 : Int32)) hx hb dX10_now_1 (by decide) ?_
  refine va_put (D := E.1) (ci := 10) (v := .int (0 : Int32)) (ty := .int) (C := RX10) (T := TX10) (N := 27) hx hb hts iX10_now_X10 tyX10 tyX10_ok nmX10 hown hE.1 hP hD hS 0 rfl rfl 0 (by decide) (hts (.fieldLink RX10 41 "BandBoatModel" "thrown" "I") (List.mem_of_getElem? (i := 1) rfl)) (fun _ h9 => h9) rfl (by decide +kernel) rfl rfl (Nat.le_of_ble_eq_true rfl) dX10_now_2 (fun H locs hP hD hS => ?_)
  have hP : va_P E.1 vwCl [xModel h_mm a_mm (upd mm 0 (0 : Int32)), xI E (a_mm 13) 6 nw] H := hP
  have hD : va_D A [xModel h_mm a_mm (upd mm 0 (0 : Int32)), xI E (a_mm 13) 6 nw] := hD
  refine lv_iload_n hx hb dX10_now_5 rfl (lv_at hl 1 rfl) ?_
  refine lv_iconst (v := (0 : Int32)) hx hb dX10_now_6 (by decide) ?_
  refine lv_iconst (v := (5 : Int32)) hx hb dX10_now_7 (by decide) ?_
  refine kI (wc := []) (wr := [xModel h_mm a_mm (upd mm 0 (0 : Int32)), xI E (a_mm 13) 6 nw]) (wc' := (fun (_ : Unit) => [])) (wn := (fun (_ : Unit) => [xModel h_mm a_mm (upd mm 0 (0 : Int32)), xI E (a_mm 13) 6 nw])) (isC := []) (isR := [0, 1]) (is2 := [0, 1]) cx hP hD hS ⟨rfl, rfl, by decide, by decide, by decide, by decide, fun _ => rfl⟩ (rS (As := [.int what, .int (0 : Int32), .int (5 : Int32)]) (rest := []) cx (c_X10_in l E what (0 : Int32) (5 : Int32) _) (va_cwS 3 hts gX10_now_X10_in rfl rfl rfl (by decide +kernel) ⟨Nat.le_of_ble_eq_true rfl, Nat.le_of_ble_eq_true rfl⟩) rfl hl.1 rfl (Nat.le_of_ble_eq_true rfl) dX10_now_8 ⟨Nat.zero_le _, Nat.zero_le _⟩) (fun r1 u H locs hw hP hD hS => ?_)
  subst hw
  refine lv_if_ne (tgt := 18) hx hb dX10_now_11 (by decide) (fun c11 => ?_) (fun c11 => ?_)
  · rw [if_neg c11] at hρ
    refine lv_aload_n hx hb dX10_now_18 rfl (lv_at hl 0 rfl) ?_
    refine va_get (D := E.1) (ci := 10) (v := .ref (a_mm 13)) (C := RX10) (T := TX10) (N := 27) hx hb hts iX10_now_X10 hown hE.1 hP 0 rfl rfl 13 (by decide) (hts (.fieldLink RX10 16 "BandBoatModel" "now" "[I") (List.mem_of_getElem? (i := 2) rfl)) (fun _ h9 => h9) rfl dX10_now_19 ?_
    refine lv_iload_n hx hb dX10_now_22 rfl (lv_at hl 1 rfl) ?_
    refine ar_ild (k := (Int32.toNatClampNeg what)) (v := (nw (Int32.toNatClampNeg what))) hx hb hE hP 1 rfl (an_in c11 (by decide)) rfl rfl dX10_now_23 ?_
    refine lv_iload_n hx hb dX10_now_24 rfl (lv_at hl 1 rfl) ?_
    refine lv_iconst (v := (3 : Int32)) hx hb dX10_now_25 (by decide) ?_
    refine lv_icmp_ne (tgt := 35) hx hb dX10_now_26 (by decide) (fun c26 => ?_) (fun c26 => ?_)
    · rw [if_neg c26] at hρ
      refine lv_iload_n hx hb dX10_now_35 rfl (lv_at hl 1 rfl) ?_
      refine lv_iconst (v := (4 : Int32)) hx hb dX10_now_36 (by decide) ?_
      refine lv_icmp_ne (tgt := 45) hx hb dX10_now_37 (by decide) (fun c37 => ?_) (fun c37 => ?_)
      · rw [if_neg c37] at hρ
        refine lv_iconst (v := (0 : Int32)) hx hb dX10_now_45 (by decide) ?_
        refine lv_iadd hx hb dX10_now_46 ?_
        exact hq ((nw (Int32.toNatClampNeg what)) + (0 : Int32)) (0 : Int32) _ _ _ _ dX10_now_47 rfl (hρ0.trans hρ) hP hD hS
      · rw [if_pos c37] at hρ
        refine lv_ldc (own := RX10) (v := (10000000 : Int32)) hx hb hown (hts (.constant RX10 162 (10000000)) (List.mem_of_getElem? (i := 3) rfl)) dX10_now_40 ?_
        refine lv_goto (tgt := 46) hx hb dX10_now_42 (by decide) ?_
        refine lv_iadd hx hb dX10_now_46 ?_
        exact hq ((nw (Int32.toNatClampNeg what)) + (10000000 : Int32)) (0 : Int32) _ _ _ _ dX10_now_47 rfl (hρ0.trans hρ) hP hD hS
    · rw [if_pos c26] at hρ
      refine lv_sipush (v := (10000 : Int32)) hx hb dX10_now_29 (by decide) ?_
      refine lv_goto (tgt := 46) hx hb dX10_now_32 (by decide) ?_
      refine lv_iadd hx hb dX10_now_46 ?_
      exact hq ((nw (Int32.toNatClampNeg what)) + (10000 : Int32)) (0 : Int32) _ _ _ _ dX10_now_47 rfl (hρ0.trans hρ) hP hD hS
  · rw [if_pos c11] at hρ
    refine lv_iconst (v := (-1 : Int32)) hx hb dX10_now_14 (by decide) ?_
    refine lv_goto (tgt := 47) hx hb dX10_now_15 (by decide) ?_
    exact hq (-1 : Int32) (0 : Int32) _ _ _ _ dX10_now_47 rfl (hρ0.trans hρ) hP hD hS
theorem k6_in {x k : Int32} (h : 0 ≤ x.toInt ∧ x.toInt ≤ 1) (hk : 0 ≤ k.toInt) (c : ¬ (6 : Int32) ≤ k) : vp_in (((6 : Int32) * x) + k) 12 := by
  have h6 : (6 : Int32).toInt = 6 := rfl
  have h1 := lt_nle c
  have e : ((6 : Int32) * x).toInt = 6 * x.toInt := by rw [i_mul (by rw [h6]; omega) (by rw [h6]; omega), h6]
  have e2 := i_add (a := (6 : Int32) * x) (b := k) (by omega) (by omega)
  exact inb_i (by omega) (by omega)
theorem ne2 {x : Int32} (h : 0 ≤ x.toInt ∧ x.toInt ≤ 2) (c : ¬ x = (2 : Int32)) : 0 ≤ x.toInt ∧ x.toInt ≤ 1 := by
  have h6 : (2 : Int32).toInt = 2 := rfl
  have : ¬ x.toInt = 2 := fun q => c (Int32.toInt_inj.mp (by omega))
  omega
theorem ne0m {x v : Int32} (h : 0 ≤ x.toInt ∧ x.toInt ≤ 2) (c : ¬ x = (0 : Int32)) (e : v = x - (1 : Int32)) : 0 ≤ v.toInt ∧ v.toInt ≤ 1 := by
  have : ¬ x.toInt = 0 := fun q => c (Int32.toInt_inj.mp (by rw [i_z]; exact q))
  rw [e, i_sub (by rw [i_one]; omega) (by rw [i_one]; omega), i_one]
  omega
def F_X10_keep_k43 (mm : Nat → Int32) (x1_18 : Int32) (g_kp_18 : Nat → Int32) (v1 : Int32) : (Int32 × (Nat → Int32)) ⊕ (Int32 × (Nat → Int32)) := Sum.inl ((x1_18 + (1 : Int32)), (upd g_kp_18 (Int32.toNatClampNeg (((6 : Int32) * (mm 16)) + x1_18)) v1))
def F_X10_keep_b18 (mm : Nat → Int32) (nw : Nat → Int32) (x1_18 : Int32) (g_kp_18 : Nat → Int32) : (Int32 × (Nat → Int32)) ⊕ (Int32 × (Nat → Int32)) := (if (6 : Int32) ≤ x1_18 then Sum.inr (x1_18, g_kp_18) else F_X10_keep_k43 mm x1_18 g_kp_18 (nw (Int32.toNatClampNeg x1_18)))
def F_X10_keep_l18 (mm : Nat → Int32) (nw : Nat → Int32) : Nat → (Int32) → (Nat → Int32) → Int32 × (Nat → Int32)
  | 0, x1_18, g_kp_18 => (x1_18, g_kp_18)
  | n_18 + 1, x1_18, g_kp_18 => match F_X10_keep_b18 mm nw x1_18 g_kp_18 with
    | Sum.inl (c_x1_18, c_g_kp_18) => F_X10_keep_l18 mm nw n_18 c_x1_18 c_g_kp_18
    | Sum.inr r_ => r_
def F_X10_keep_k57 (bg_kp_18 : Nat → Int32) (v2 : Int32) : Int32 × Int32 × Int32 × (Nat → Int32) := (v2, (0 : Int32), v2, bg_kp_18)
def F_X10_keep_x18 (mm : Nat → Int32) (bg_kp_18 : Nat → Int32) : Int32 × Int32 × Int32 × (Nat → Int32) := F_X10_keep_k57 bg_kp_18 ((mm 16) + (1 : Int32))
def F_X10_keep (mm : Nat → Int32) (nw : Nat → Int32) (kp : Nat → Int32) : Int32 × Int32 × Int32 × (Nat → Int32) := (if (mm 16) = (2 : Int32) then ((-3 : Int32), (0 : Int32), (mm 16), kp) else (match F_X10_keep_l18 mm nw (6) (0 : Int32) kp with | (bx1_18, bg_kp_18) => F_X10_keep_x18 mm bg_kp_18))
theorem iX10_keep_X10 : ∀ w ∈ wsX100, w ∈ wsX10_keep := fun _ h => List.mem_cons_of_mem _ (List.mem_append_right _ h)
set_option maxHeartbeats 4000000 in
set_option maxRecDepth 100000 in
theorem c_X10_keep (l : Launch) (E : wV) (h_mm : Nat) (a_mm : Nat → Nat) (mm : Nat → Int32) (nw : Nat → Int32) (kp : Nat → Int32) (hKm : 0 ≤ (mm 16).toInt ∧ (mm 16).toInt ≤ 2) : MetI l yX10_keep wsX10_keep ({ frames := 0, cells := 0, slots := 0, locals := 0 } : Room) E ([.ref h_mm] : List Value) [xModel h_mm a_mm mm, xI E (a_mm 13) 6 nw, xI E (a_mm 15) 12 kp] (fun (r : Int32) (u : Int32 × Int32 × (Nat → Int32)) => F_X10_keep mm nw kp = (r, u)) (fun (u : Int32 × Int32 × (Nat → Int32)) => [xModel h_mm a_mm (upd (upd mm 0 u.1) 16 u.2.1), xI E (a_mm 13) 6 nw, xI E (a_mm 15) 12 u.2.2]) := by
  refine MetI.of (cc := cX10_keep) (maxL := 2) (own := RX10) (by decide) rfl rfl (Nat.le_of_ble_eq_true rfl) ?_
  intro p e s m below meth c A Q ls cx hP hD hS hl hq
  obtain ⟨hx, hb, hml, hown, hts, hE, hA⟩ := id cx
  have hl : lv_has ls 2 [(0, .ref h_mm)] := hl
  have hP : va_P E.1 vwCl [xModel h_mm a_mm mm, xI E (a_mm 13) 6 nw, xI E (a_mm 15) 12 kp] s.heap := hP
  obtain ⟨ρ, hρ0⟩ : ∃ ρ, F_X10_keep mm nw kp = ρ := ⟨_, rfl⟩
  have hρ := hρ0.symm
  unfold F_X10_keep at hρ
  refine lv_aload_n hx hb dX10_keep_0 rfl (lv_at hl 0 rfl) ?_
  refine lv_iconst (v := (0 : Int32)) hx hb dX10_keep_1 (by decide) ?_
  refine va_put (D := E.1) (ci := 10) (v := .int (0 : Int32)) (ty := .int) (C := RX10) (T := TX10) (N := 27) hx hb hts iX10_keep_X10 tyX10 tyX10_ok nmX10 hown hE.1 hP hD hS 0 rfl rfl 0 (by decide) (hts (.fieldLink RX10 41 "BandBoatModel" "thrown" "I") (List.mem_of_getElem? (i := 1) rfl)) (fun _ h9 => h9) rfl (by decide +kernel) rfl rfl (Nat.le_of_ble_eq_true rfl) dX10_keep_2 (fun H locs hP hD hS => ?_)
  have hP : va_P E.1 vwCl [xModel h_mm a_mm (upd mm 0 (0 : Int32)), xI E (a_mm 13) 6 nw, xI E (a_mm 15) 12 kp] H := hP
  have hD : va_D A [xModel h_mm a_mm (upd mm 0 (0 : Int32)), xI E (a_mm 13) 6 nw, xI E (a_mm 15) 12 kp] := hD
  refine lv_aload_n hx hb dX10_keep_5 rfl (lv_at hl 0 rfl) ?_
  refine va_get (D := E.1) (ci := 10) (v := .int (mm 16)) (C := RX10) (T := TX10) (N := 27) hx hb hts iX10_keep_X10 hown hE.1 hP 0 rfl rfl 16 (by decide) (hts (.fieldLink RX10 86 "BandBoatModel" "keptMany" "I") (List.mem_of_getElem? (i := 2) rfl)) (fun _ h9 => h9) rfl dX10_keep_6 ?_
  refine lv_iconst (v := (2 : Int32)) hx hb dX10_keep_9 (by decide) ?_
  refine lv_icmp_ne (tgt := 16) hx hb dX10_keep_10 (by decide) (fun c10 => ?_) (fun c10 => ?_)
  · rw [if_neg c10] at hρ
    refine lv_iconst (v := (0 : Int32)) hx hb dX10_keep_16 (by decide) ?_
    refine lv_istore_n (lv' := [(1, .int (0 : Int32)), (0, .ref h_mm)]) hx hb dX10_keep_17 rfl hl (by decide) rfl (fun ls hl => ?_)
    have hL18 : ∀ (n_18 : Nat) (x1_18 : Int32) (g_kp_18 : Nat → Int32) (H : Heap) (locs : List Loc) (ls : Array Slot), (((6 : Int32) : Int32).toInt ≤ (x1_18).toInt + (n_18 : Nat)) ∧ (0 ≤ (x1_18).toInt) → va_P E.1 vwCl [xModel h_mm a_mm (upd mm 0 (0 : Int32)), xI E (a_mm 13) 6 nw, xI E (a_mm 15) 12 g_kp_18] H → va_D A [xModel h_mm a_mm (upd mm 0 (0 : Int32)), xI E (a_mm 13) 6 nw, xI E (a_mm 15) 12 g_kp_18] → va_S A s.heap H locs → lv_has ls 2 [(1, .int x1_18), (0, .ref h_mm)] → (∀ (ox1_18 : Int32) (og_kp_18 : Nat → Int32) (H : Heap) (locs : List Loc) (ls : Array Slot), F_X10_keep_l18 mm nw n_18 x1_18 g_kp_18 = (ox1_18, og_kp_18) → va_P E.1 vwCl [xModel h_mm a_mm (upd mm 0 (0 : Int32)), xI E (a_mm 13) 6 nw, xI E (a_mm 15) 12 og_kp_18] H → va_D A [xModel h_mm a_mm (upd mm 0 (0 : Int32)), xI E (a_mm 13) 6 nw, xI E (a_mm 15) 12 og_kp_18] → va_S A s.heap H locs → lv_has ls 2 [(1, .int ox1_18), (0, .ref h_mm)] → W p l e ({ frames := 0, cells := 0, slots := 0, locals := 0 } : Room) s m ([.ref h_mm] : List Value).toArray below meth c H locs 0 0 Q (F0 m 50 ls [])) → W p l e ({ frames := 0, cells := 0, slots := 0, locals := 0 } : Room) s m ([.ref h_mm] : List Value).toArray below meth c H locs 0 0 Q (F0 m 18 ls []) := by
      intro n_18
      induction n_18 with
      | zero =>
        intro x1_18 g_kp_18 H locs ls hM hP hD hS hl hK
        have hM18 := hM
        obtain ⟨σ18, hσ018⟩ : ∃ σ, F_X10_keep_l18 mm nw 0 x1_18 g_kp_18 = σ := ⟨_, rfl⟩
        have hσ18 := hσ018.symm
        rw [F_X10_keep_l18] at hσ18
        refine lv_iload_n hx hb dX10_keep_18 rfl (lv_at hl 0 rfl) ?_
        refine lv_bipush (v := (6 : Int32)) hx hb dX10_keep_19 (by decide) ?_
        refine lv_icmp_ge (tgt := 50) hx hb dX10_keep_21 (by decide) (fun c21 => ?_) (fun c21 => ?_)
        · exact hK x1_18 g_kp_18 _ _ _ (hσ018.trans hσ18) hP hD hS (lv_sub hl [0, 1] rfl)
        · exact (cnt_lt0 c21 hM.1).elim
      | succ n_18 ih =>
        intro x1_18 g_kp_18 H locs ls hM hP hD hS hl hK
        have hM18 := hM
        obtain ⟨σ18, hσ018⟩ : ∃ σ, F_X10_keep_l18 mm nw (n_18 + 1) x1_18 g_kp_18 = σ := ⟨_, rfl⟩
        have hσ18 := hσ018.symm
        rw [F_X10_keep_l18] at hσ18
        obtain ⟨τ18, hτ018⟩ : ∃ τ, F_X10_keep_b18 mm nw x1_18 g_kp_18 = τ := ⟨_, rfl⟩
        rw [hτ018] at hσ18
        have hτ18 := hτ018.symm
        unfold F_X10_keep_b18 at hτ18
        refine lv_iload_n hx hb dX10_keep_18 rfl (lv_at hl 0 rfl) ?_
        refine lv_bipush (v := (6 : Int32)) hx hb dX10_keep_19 (by decide) ?_
        refine lv_icmp_ge (tgt := 50) hx hb dX10_keep_21 (by decide) (fun c21 => ?_) (fun c21 => ?_)
        · rw [if_pos c21] at hτ18
          have hσ18 : σ18 = (x1_18, g_kp_18) := by subst hτ18; exact hσ18
          exact hK x1_18 g_kp_18 _ _ _ (hσ018.trans hσ18) hP hD hS (lv_sub hl [0, 1] rfl)
        · rw [if_neg c21] at hτ18
          refine lv_aload_n hx hb dX10_keep_24 rfl (lv_at hl 1 rfl) ?_
          refine va_get (D := E.1) (ci := 10) (v := .ref (a_mm 15)) (C := RX10) (T := TX10) (N := 27) hx hb hts iX10_keep_X10 hown hE.1 hP 0 rfl rfl 15 (by decide) (hts (.fieldLink RX10 22 "BandBoatModel" "kept" "[I") (List.mem_of_getElem? (i := 3) rfl)) (fun _ h9 => h9) rfl dX10_keep_25 ?_
          refine lv_bipush (v := (6 : Int32)) hx hb dX10_keep_28 (by decide) ?_
          refine lv_aload_n hx hb dX10_keep_30 rfl (lv_at hl 1 rfl) ?_
          refine va_get (D := E.1) (ci := 10) (v := .int (mm 16)) (C := RX10) (T := TX10) (N := 27) hx hb hts iX10_keep_X10 hown hE.1 hP 0 rfl rfl 16 (by decide) (hts (.fieldLink RX10 86 "BandBoatModel" "keptMany" "I") (List.mem_of_getElem? (i := 2) rfl)) (fun _ h9 => h9) rfl dX10_keep_31 ?_
          refine lv_imul hx hb dX10_keep_34 ?_
          refine lv_iload_n hx hb dX10_keep_35 rfl (lv_at hl 0 rfl) ?_
          refine lv_iadd hx hb dX10_keep_36 ?_
          refine lv_aload_n hx hb dX10_keep_37 rfl (lv_at hl 1 rfl) ?_
          refine va_get (D := E.1) (ci := 10) (v := .ref (a_mm 13)) (C := RX10) (T := TX10) (N := 27) hx hb hts iX10_keep_X10 hown hE.1 hP 0 rfl rfl 13 (by decide) (hts (.fieldLink RX10 16 "BandBoatModel" "now" "[I") (List.mem_of_getElem? (i := 4) rfl)) (fun _ h9 => h9) rfl dX10_keep_38 ?_
          refine lv_iload_n hx hb dX10_keep_41 rfl (lv_at hl 0 rfl) ?_
          refine ar_ild (k := (Int32.toNatClampNeg x1_18)) (v := (nw (Int32.toNatClampNeg x1_18))) hx hb hE hP 1 rfl (inb_c hM.2 c21 rfl) rfl rfl dX10_keep_42 ?_
          refine lv_topi (fun v1 ev1 => ?_)
          have hτ18 : τ18 = F_X10_keep_k43 mm x1_18 g_kp_18 v1 := by rw [ev1]; exact hτ18
          unfold F_X10_keep_k43 at hτ18
          refine ar_ist (k := (Int32.toNatClampNeg (((6 : Int32) * (mm 16)) + x1_18))) (ws' := [xModel h_mm a_mm (upd mm 0 (0 : Int32)), xI E (a_mm 13) 6 nw, xI E (a_mm 15) 12 (upd g_kp_18 (Int32.toNatClampNeg (((6 : Int32) * (mm 16)) + x1_18)) v1)]) hx hb hE hP hD hS 2 rfl (k6_in (ne2 hKm c10) hM.2 c21) rfl rfl dX10_keep_43 (fun H locs hP hD hS => ?_)
          refine lv_iinc (v := (x1_18 + (1 : Int32))) (lv' := [(1, .int (x1_18 + (1 : Int32))), (0, .ref h_mm)]) hx hb dX10_keep_44 hl (k := 0) rfl rfl (by decide) rfl (fun ls hl => ?_)
          refine lv_goto (tgt := 18) hx hb dX10_keep_47 (by decide) ?_
          have hσ18 : σ18 = F_X10_keep_l18 mm nw n_18 (x1_18 + (1 : Int32)) (upd g_kp_18 (Int32.toNatClampNeg (((6 : Int32) * (mm 16)) + x1_18)) v1) := by subst hτ18; exact hσ18
          exact ih (x1_18 + (1 : Int32)) (upd g_kp_18 (Int32.toNatClampNeg (((6 : Int32) * (mm 16)) + x1_18)) v1) _ _ _ ⟨cnt_lt c21 hM.1, cnt_lt_pos c21 hM.2⟩ hP hD hS (lv_sub hl [0, 1] rfl) (fun ox1_18 og_kp_18 H locs ls he => hK ox1_18 og_kp_18 H locs ls (hσ018.trans (hσ18.trans he)))
    refine hL18 (6) (0 : Int32) kp _ _ _ (by decide) hP hD hS (lv_sub hl [0, 1] rfl) ?_
    intro bx1_18 bg_kp_18 H locs ls he hP hD hS hl
    rw [he] at hρ
    have hρ : ρ = F_X10_keep_x18 mm bg_kp_18 := hρ
    unfold F_X10_keep_x18 at hρ
    refine lv_aload_n hx hb dX10_keep_50 rfl (lv_at hl 1 rfl) ?_
    refine lv_dup hx hb dX10_keep_51 rfl ?_
    refine va_get (D := E.1) (ci := 10) (v := .int (mm 16)) (C := RX10) (T := TX10) (N := 27) hx hb hts iX10_keep_X10 hown hE.1 hP 0 rfl rfl 16 (by decide) (hts (.fieldLink RX10 86 "BandBoatModel" "keptMany" "I") (List.mem_of_getElem? (i := 2) rfl)) (fun _ h9 => h9) rfl dX10_keep_52 ?_
    refine lv_iconst (v := (1 : Int32)) hx hb dX10_keep_55 (by decide) ?_
    refine lv_iadd hx hb dX10_keep_56 ?_
    refine lv_topi (fun v2 ev2 => ?_)
    have hρ : ρ = F_X10_keep_k57 bg_kp_18 v2 := by rw [ev2]; exact hρ
    unfold F_X10_keep_k57 at hρ
    refine va_put (D := E.1) (ci := 10) (v := .int v2) (ty := .int) (C := RX10) (T := TX10) (N := 27) hx hb hts iX10_keep_X10 tyX10 tyX10_ok nmX10 hown hE.1 hP hD hS 0 rfl rfl 16 (by decide) (hts (.fieldLink RX10 86 "BandBoatModel" "keptMany" "I") (List.mem_of_getElem? (i := 2) rfl)) (fun _ h9 => h9) rfl (by decide +kernel) rfl rfl (Nat.le_of_ble_eq_true rfl) dX10_keep_57 (fun H locs hP hD hS => ?_)
    have hP : va_P E.1 vwCl [xModel h_mm a_mm (upd (upd mm 0 (0 : Int32)) 16 v2), xI E (a_mm 13) 6 nw, xI E (a_mm 15) 12 bg_kp_18] H := hP
    have hD : va_D A [xModel h_mm a_mm (upd (upd mm 0 (0 : Int32)) 16 v2), xI E (a_mm 13) 6 nw, xI E (a_mm 15) 12 bg_kp_18] := hD
    refine lv_aload_n hx hb dX10_keep_60 rfl (lv_at hl 1 rfl) ?_
    refine va_get (D := E.1) (ci := 10) (v := .int v2) (C := RX10) (T := TX10) (N := 27) hx hb hts iX10_keep_X10 hown hE.1 hP 0 rfl rfl 16 (by decide) (hts (.fieldLink RX10 86 "BandBoatModel" "keptMany" "I") (List.mem_of_getElem? (i := 2) rfl)) (fun _ h9 => h9) rfl dX10_keep_61 ?_
    exact hq v2 ((0 : Int32), v2, bg_kp_18) _ _ _ _ dX10_keep_64 rfl (hρ0.trans hρ) hP hD hS
  · rw [if_pos c10] at hρ
    refine lv_bipush (v := (-3 : Int32)) hx hb dX10_keep_13 (by decide) ?_
    exact hq (-3 : Int32) ((0 : Int32), (mm 16), kp) _ _ _ _ dX10_keep_15 rfl (hρ0.trans hρ) hP hD hS
def F_X10_back_k52 (x1_27 : Int32) (g_nw_27 : Nat → Int32) (v2 : Int32) : (Int32 × (Nat → Int32)) ⊕ (Int32 × (Nat → Int32)) := Sum.inl ((x1_27 + (1 : Int32)), (upd g_nw_27 (Int32.toNatClampNeg x1_27) v2))
def F_X10_back_b27 (kp : Nat → Int32) (v1 : Int32) (x1_27 : Int32) (g_nw_27 : Nat → Int32) : (Int32 × (Nat → Int32)) ⊕ (Int32 × (Nat → Int32)) := (if (6 : Int32) ≤ x1_27 then Sum.inr (x1_27, g_nw_27) else F_X10_back_k52 x1_27 g_nw_27 (kp (Int32.toNatClampNeg (((6 : Int32) * v1) + x1_27))))
def F_X10_back_l27 (kp : Nat → Int32) (v1 : Int32) : Nat → (Int32) → (Nat → Int32) → Int32 × (Nat → Int32)
  | 0, x1_27, g_nw_27 => (x1_27, g_nw_27)
  | n_27 + 1, x1_27, g_nw_27 => match F_X10_back_b27 kp v1 x1_27 g_nw_27 with
    | Sum.inl (c_x1_27, c_g_nw_27) => F_X10_back_l27 kp v1 n_27 c_x1_27 c_g_nw_27
    | Sum.inr r_ => r_
def F_X10_back_x27 (v1 : Int32) (bg_nw_27 : Nat → Int32) : Int32 × Int32 × Int32 × (Nat → Int32) := (v1, (0 : Int32), v1, bg_nw_27)
def F_X10_back_k22 (nw : Nat → Int32) (kp : Nat → Int32) (v1 : Int32) : Int32 × Int32 × Int32 × (Nat → Int32) := (match F_X10_back_l27 kp v1 (6) (0 : Int32) nw with | (bx1_27, bg_nw_27) => F_X10_back_x27 v1 bg_nw_27)
def F_X10_back (mm : Nat → Int32) (nw : Nat → Int32) (kp : Nat → Int32) : Int32 × Int32 × Int32 × (Nat → Int32) := (if (mm 16) = (0 : Int32) then ((-2 : Int32), (0 : Int32), (mm 16), nw) else F_X10_back_k22 nw kp ((mm 16) - (1 : Int32)))
theorem iX10_back_X10 : ∀ w ∈ wsX100, w ∈ wsX10_back := fun _ h => List.mem_cons_of_mem _ (List.mem_append_right _ h)
set_option maxHeartbeats 4000000 in
set_option maxRecDepth 100000 in
theorem c_X10_back (l : Launch) (E : wV) (h_mm : Nat) (a_mm : Nat → Nat) (mm : Nat → Int32) (nw : Nat → Int32) (kp : Nat → Int32) (hKm : 0 ≤ (mm 16).toInt ∧ (mm 16).toInt ≤ 2) : MetI l yX10_back wsX10_back ({ frames := 0, cells := 0, slots := 0, locals := 0 } : Room) E ([.ref h_mm] : List Value) [xModel h_mm a_mm mm, xI E (a_mm 13) 6 nw, xI E (a_mm 15) 12 kp] (fun (r : Int32) (u : Int32 × Int32 × (Nat → Int32)) => F_X10_back mm nw kp = (r, u)) (fun (u : Int32 × Int32 × (Nat → Int32)) => [xModel h_mm a_mm (upd (upd mm 0 u.1) 16 u.2.1), xI E (a_mm 13) 6 u.2.2, xI E (a_mm 15) 12 kp]) := by
  refine MetI.of (cc := cX10_back) (maxL := 2) (own := RX10) (by decide) rfl rfl (Nat.le_of_ble_eq_true rfl) ?_
  intro p e s m below meth c A Q ls cx hP hD hS hl hq
  obtain ⟨hx, hb, hml, hown, hts, hE, hA⟩ := id cx
  have hl : lv_has ls 2 [(0, .ref h_mm)] := hl
  have hP : va_P E.1 vwCl [xModel h_mm a_mm mm, xI E (a_mm 13) 6 nw, xI E (a_mm 15) 12 kp] s.heap := hP
  obtain ⟨ρ, hρ0⟩ : ∃ ρ, F_X10_back mm nw kp = ρ := ⟨_, rfl⟩
  have hρ := hρ0.symm
  unfold F_X10_back at hρ
  refine lv_aload_n hx hb dX10_back_0 rfl (lv_at hl 0 rfl) ?_
  refine lv_iconst (v := (0 : Int32)) hx hb dX10_back_1 (by decide) ?_
  refine va_put (D := E.1) (ci := 10) (v := .int (0 : Int32)) (ty := .int) (C := RX10) (T := TX10) (N := 27) hx hb hts iX10_back_X10 tyX10 tyX10_ok nmX10 hown hE.1 hP hD hS 0 rfl rfl 0 (by decide) (hts (.fieldLink RX10 41 "BandBoatModel" "thrown" "I") (List.mem_of_getElem? (i := 1) rfl)) (fun _ h9 => h9) rfl (by decide +kernel) rfl rfl (Nat.le_of_ble_eq_true rfl) dX10_back_2 (fun H locs hP hD hS => ?_)
  have hP : va_P E.1 vwCl [xModel h_mm a_mm (upd mm 0 (0 : Int32)), xI E (a_mm 13) 6 nw, xI E (a_mm 15) 12 kp] H := hP
  have hD : va_D A [xModel h_mm a_mm (upd mm 0 (0 : Int32)), xI E (a_mm 13) 6 nw, xI E (a_mm 15) 12 kp] := hD
  refine lv_aload_n hx hb dX10_back_5 rfl (lv_at hl 0 rfl) ?_
  refine va_get (D := E.1) (ci := 10) (v := .int (mm 16)) (C := RX10) (T := TX10) (N := 27) hx hb hts iX10_back_X10 hown hE.1 hP 0 rfl rfl 16 (by decide) (hts (.fieldLink RX10 86 "BandBoatModel" "keptMany" "I") (List.mem_of_getElem? (i := 2) rfl)) (fun _ h9 => h9) rfl dX10_back_6 ?_
  refine lv_if_ne (tgt := 15) hx hb dX10_back_9 (by decide) (fun c9 => ?_) (fun c9 => ?_)
  · rw [if_neg c9] at hρ
    refine lv_aload_n hx hb dX10_back_15 rfl (lv_at hl 0 rfl) ?_
    refine lv_dup hx hb dX10_back_16 rfl ?_
    refine va_get (D := E.1) (ci := 10) (v := .int (mm 16)) (C := RX10) (T := TX10) (N := 27) hx hb hts iX10_back_X10 hown hE.1 hP 0 rfl rfl 16 (by decide) (hts (.fieldLink RX10 86 "BandBoatModel" "keptMany" "I") (List.mem_of_getElem? (i := 2) rfl)) (fun _ h9 => h9) rfl dX10_back_17 ?_
    refine lv_iconst (v := (1 : Int32)) hx hb dX10_back_20 (by decide) ?_
    refine lv_isub hx hb dX10_back_21 ?_
    refine lv_topi (fun v1 ev1 => ?_)
    have hρ : ρ = F_X10_back_k22 nw kp v1 := by rw [ev1]; exact hρ
    unfold F_X10_back_k22 at hρ
    refine va_put (D := E.1) (ci := 10) (v := .int v1) (ty := .int) (C := RX10) (T := TX10) (N := 27) hx hb hts iX10_back_X10 tyX10 tyX10_ok nmX10 hown hE.1 hP hD hS 0 rfl rfl 16 (by decide) (hts (.fieldLink RX10 86 "BandBoatModel" "keptMany" "I") (List.mem_of_getElem? (i := 2) rfl)) (fun _ h9 => h9) rfl (by decide +kernel) rfl rfl (Nat.le_of_ble_eq_true rfl) dX10_back_22 (fun H locs hP hD hS => ?_)
    have hP : va_P E.1 vwCl [xModel h_mm a_mm (upd (upd mm 0 (0 : Int32)) 16 v1), xI E (a_mm 13) 6 nw, xI E (a_mm 15) 12 kp] H := hP
    have hD : va_D A [xModel h_mm a_mm (upd (upd mm 0 (0 : Int32)) 16 v1), xI E (a_mm 13) 6 nw, xI E (a_mm 15) 12 kp] := hD
    refine lv_iconst (v := (0 : Int32)) hx hb dX10_back_25 (by decide) ?_
    refine lv_istore_n (lv' := [(1, .int (0 : Int32)), (0, .ref h_mm)]) hx hb dX10_back_26 rfl hl (by decide) rfl (fun ls hl => ?_)
    have hL27 : ∀ (n_27 : Nat) (x1_27 : Int32) (g_nw_27 : Nat → Int32) (H : Heap) (locs : List Loc) (ls : Array Slot), (((6 : Int32) : Int32).toInt ≤ (x1_27).toInt + (n_27 : Nat)) ∧ (0 ≤ (x1_27).toInt) → va_P E.1 vwCl [xModel h_mm a_mm (upd (upd mm 0 (0 : Int32)) 16 v1), xI E (a_mm 13) 6 g_nw_27, xI E (a_mm 15) 12 kp] H → va_D A [xModel h_mm a_mm (upd (upd mm 0 (0 : Int32)) 16 v1), xI E (a_mm 13) 6 g_nw_27, xI E (a_mm 15) 12 kp] → va_S A s.heap H locs → lv_has ls 2 [(1, .int x1_27), (0, .ref h_mm)] → (∀ (ox1_27 : Int32) (og_nw_27 : Nat → Int32) (H : Heap) (locs : List Loc) (ls : Array Slot), F_X10_back_l27 kp v1 n_27 x1_27 g_nw_27 = (ox1_27, og_nw_27) → va_P E.1 vwCl [xModel h_mm a_mm (upd (upd mm 0 (0 : Int32)) 16 v1), xI E (a_mm 13) 6 og_nw_27, xI E (a_mm 15) 12 kp] H → va_D A [xModel h_mm a_mm (upd (upd mm 0 (0 : Int32)) 16 v1), xI E (a_mm 13) 6 og_nw_27, xI E (a_mm 15) 12 kp] → va_S A s.heap H locs → lv_has ls 2 [(1, .int ox1_27), (0, .ref h_mm)] → W p l e ({ frames := 0, cells := 0, slots := 0, locals := 0 } : Room) s m ([.ref h_mm] : List Value).toArray below meth c H locs 0 0 Q (F0 m 59 ls [])) → W p l e ({ frames := 0, cells := 0, slots := 0, locals := 0 } : Room) s m ([.ref h_mm] : List Value).toArray below meth c H locs 0 0 Q (F0 m 27 ls []) := by
      intro n_27
      induction n_27 with
      | zero =>
        intro x1_27 g_nw_27 H locs ls hM hP hD hS hl hK
        have hM27 := hM
        obtain ⟨σ27, hσ027⟩ : ∃ σ, F_X10_back_l27 kp v1 0 x1_27 g_nw_27 = σ := ⟨_, rfl⟩
        have hσ27 := hσ027.symm
        rw [F_X10_back_l27] at hσ27
        refine lv_iload_n hx hb dX10_back_27 rfl (lv_at hl 0 rfl) ?_
        refine lv_bipush (v := (6 : Int32)) hx hb dX10_back_28 (by decide) ?_
        refine lv_icmp_ge (tgt := 59) hx hb dX10_back_30 (by decide) (fun c30 => ?_) (fun c30 => ?_)
        · exact hK x1_27 g_nw_27 _ _ _ (hσ027.trans hσ27) hP hD hS (lv_sub hl [0, 1] rfl)
        · exact (cnt_lt0 c30 hM.1).elim
      | succ n_27 ih =>
        intro x1_27 g_nw_27 H locs ls hM hP hD hS hl hK
        have hM27 := hM
        obtain ⟨σ27, hσ027⟩ : ∃ σ, F_X10_back_l27 kp v1 (n_27 + 1) x1_27 g_nw_27 = σ := ⟨_, rfl⟩
        have hσ27 := hσ027.symm
        rw [F_X10_back_l27] at hσ27
        obtain ⟨τ27, hτ027⟩ : ∃ τ, F_X10_back_b27 kp v1 x1_27 g_nw_27 = τ := ⟨_, rfl⟩
        rw [hτ027] at hσ27
        have hτ27 := hτ027.symm
        unfold F_X10_back_b27 at hτ27
        refine lv_iload_n hx hb dX10_back_27 rfl (lv_at hl 0 rfl) ?_
        refine lv_bipush (v := (6 : Int32)) hx hb dX10_back_28 (by decide) ?_
        refine lv_icmp_ge (tgt := 59) hx hb dX10_back_30 (by decide) (fun c30 => ?_) (fun c30 => ?_)
        · rw [if_pos c30] at hτ27
          have hσ27 : σ27 = (x1_27, g_nw_27) := by subst hτ27; exact hσ27
          exact hK x1_27 g_nw_27 _ _ _ (hσ027.trans hσ27) hP hD hS (lv_sub hl [0, 1] rfl)
        · rw [if_neg c30] at hτ27
          refine lv_aload_n hx hb dX10_back_33 rfl (lv_at hl 1 rfl) ?_
          refine va_get (D := E.1) (ci := 10) (v := .ref (a_mm 13)) (C := RX10) (T := TX10) (N := 27) hx hb hts iX10_back_X10 hown hE.1 hP 0 rfl rfl 13 (by decide) (hts (.fieldLink RX10 16 "BandBoatModel" "now" "[I") (List.mem_of_getElem? (i := 3) rfl)) (fun _ h9 => h9) rfl dX10_back_34 ?_
          refine lv_iload_n hx hb dX10_back_37 rfl (lv_at hl 0 rfl) ?_
          refine lv_aload_n hx hb dX10_back_38 rfl (lv_at hl 1 rfl) ?_
          refine va_get (D := E.1) (ci := 10) (v := .ref (a_mm 15)) (C := RX10) (T := TX10) (N := 27) hx hb hts iX10_back_X10 hown hE.1 hP 0 rfl rfl 15 (by decide) (hts (.fieldLink RX10 22 "BandBoatModel" "kept" "[I") (List.mem_of_getElem? (i := 4) rfl)) (fun _ h9 => h9) rfl dX10_back_39 ?_
          refine lv_bipush (v := (6 : Int32)) hx hb dX10_back_42 (by decide) ?_
          refine lv_aload_n hx hb dX10_back_44 rfl (lv_at hl 1 rfl) ?_
          refine va_get (D := E.1) (ci := 10) (v := .int v1) (C := RX10) (T := TX10) (N := 27) hx hb hts iX10_back_X10 hown hE.1 hP 0 rfl rfl 16 (by decide) (hts (.fieldLink RX10 86 "BandBoatModel" "keptMany" "I") (List.mem_of_getElem? (i := 2) rfl)) (fun _ h9 => h9) rfl dX10_back_45 ?_
          refine lv_imul hx hb dX10_back_48 ?_
          refine lv_iload_n hx hb dX10_back_49 rfl (lv_at hl 0 rfl) ?_
          refine lv_iadd hx hb dX10_back_50 ?_
          refine ar_ild (k := (Int32.toNatClampNeg (((6 : Int32) * v1) + x1_27))) (v := (kp (Int32.toNatClampNeg (((6 : Int32) * v1) + x1_27)))) hx hb hE hP 2 rfl (k6_in (ne0m hKm c9 ev1) hM.2 c30) rfl rfl dX10_back_51 ?_
          refine lv_topi (fun v2 ev2 => ?_)
          have hτ27 : τ27 = F_X10_back_k52 x1_27 g_nw_27 v2 := by rw [ev2]; exact hτ27
          unfold F_X10_back_k52 at hτ27
          refine ar_ist (k := (Int32.toNatClampNeg x1_27)) (ws' := [xModel h_mm a_mm (upd (upd mm 0 (0 : Int32)) 16 v1), xI E (a_mm 13) 6 (upd g_nw_27 (Int32.toNatClampNeg x1_27) v2), xI E (a_mm 15) 12 kp]) hx hb hE hP hD hS 1 rfl (inb_c hM.2 c30 rfl) rfl rfl dX10_back_52 (fun H locs hP hD hS => ?_)
          refine lv_iinc (v := (x1_27 + (1 : Int32))) (lv' := [(1, .int (x1_27 + (1 : Int32))), (0, .ref h_mm)]) hx hb dX10_back_53 hl (k := 0) rfl rfl (by decide) rfl (fun ls hl => ?_)
          refine lv_goto (tgt := 27) hx hb dX10_back_56 (by decide) ?_
          have hσ27 : σ27 = F_X10_back_l27 kp v1 n_27 (x1_27 + (1 : Int32)) (upd g_nw_27 (Int32.toNatClampNeg x1_27) v2) := by subst hτ27; exact hσ27
          exact ih (x1_27 + (1 : Int32)) (upd g_nw_27 (Int32.toNatClampNeg x1_27) v2) _ _ _ ⟨cnt_lt c30 hM.1, cnt_lt_pos c30 hM.2⟩ hP hD hS (lv_sub hl [0, 1] rfl) (fun ox1_27 og_nw_27 H locs ls he => hK ox1_27 og_nw_27 H locs ls (hσ027.trans (hσ27.trans he)))
    refine hL27 (6) (0 : Int32) nw _ _ _ (by decide) hP hD hS (lv_sub hl [0, 1] rfl) ?_
    intro bx1_27 bg_nw_27 H locs ls he hP hD hS hl
    rw [he] at hρ
    have hρ : ρ = F_X10_back_x27 v1 bg_nw_27 := hρ
    unfold F_X10_back_x27 at hρ
    refine lv_aload_n hx hb dX10_back_59 rfl (lv_at hl 1 rfl) ?_
    refine va_get (D := E.1) (ci := 10) (v := .int v1) (C := RX10) (T := TX10) (N := 27) hx hb hts iX10_back_X10 hown hE.1 hP 0 rfl rfl 16 (by decide) (hts (.fieldLink RX10 86 "BandBoatModel" "keptMany" "I") (List.mem_of_getElem? (i := 2) rfl)) (fun _ h9 => h9) rfl dX10_back_60 ?_
    exact hq v1 ((0 : Int32), v1, bg_nw_27) _ _ _ _ dX10_back_63 rfl (hρ0.trans hρ) hP hD hS
  · rw [if_pos c9] at hρ
    refine lv_bipush (v := (-2 : Int32)) hx hb dX10_back_12 (by decide) ?_
    exact hq (-2 : Int32) ((0 : Int32), (mm 16), nw) _ _ _ _ dX10_back_14 rfl (hρ0.trans hρ) hP hD hS
def F_X10_count (mm : Nat → Int32) (bt : Nat → Int32) (what : Int32) : Int32 × Int32 := (if what = (0 : Int32) then ((bt 28), (0 : Int32)) else (if what = (1 : Int32) then ((mm 2), (0 : Int32)) else (if what = (2 : Int32) then ((mm 22), (0 : Int32)) else (if what = (3 : Int32) then ((mm 25), (0 : Int32)) else (if what = (4 : Int32) then ((mm 16), (0 : Int32)) else ((-1 : Int32), (0 : Int32)))))))
theorem iX10_count_X10 : ∀ w ∈ wsX100, w ∈ wsX10_count := fun _ h => List.mem_cons_of_mem _ (List.mem_append_right _ h)
set_option maxHeartbeats 4000000 in
set_option maxRecDepth 100000 in
theorem c_X10_count (l : Launch) (E : wV) (h_mm : Nat) (a_mm : Nat → Nat) (mm : Nat → Int32) (bt : Nat → Int32) (what : Int32) : MetI l yX10_count wsX10_count ({ frames := 0, cells := 0, slots := 0, locals := 0 } : Room) E ([.ref h_mm, .int what] : List Value) [xModel h_mm a_mm mm, xI E (a_mm 5) 60 bt] (fun (r : Int32) (u : Int32) => F_X10_count mm bt what = (r, u)) (fun (u : Int32) => [xModel h_mm a_mm (upd mm 0 u), xI E (a_mm 5) 60 bt]) := by
  refine MetI.of (cc := cX10_count) (maxL := 2) (own := RX10) (by decide) rfl rfl (Nat.le_of_ble_eq_true rfl) ?_
  intro p e s m below meth c A Q ls cx hP hD hS hl hq
  obtain ⟨hx, hb, hml, hown, hts, hE, hA⟩ := id cx
  have hl : lv_has ls 2 [(0, .ref h_mm), (1, .int what)] := hl
  have hP : va_P E.1 vwCl [xModel h_mm a_mm mm, xI E (a_mm 5) 60 bt] s.heap := hP
  obtain ⟨ρ, hρ0⟩ : ∃ ρ, F_X10_count mm bt what = ρ := ⟨_, rfl⟩
  have hρ := hρ0.symm
  unfold F_X10_count at hρ
  refine lv_aload_n hx hb dX10_count_0 rfl (lv_at hl 0 rfl) ?_
  refine lv_iconst (v := (0 : Int32)) hx hb dX10_count_1 (by decide) ?_
  refine va_put (D := E.1) (ci := 10) (v := .int (0 : Int32)) (ty := .int) (C := RX10) (T := TX10) (N := 27) hx hb hts iX10_count_X10 tyX10 tyX10_ok nmX10 hown hE.1 hP hD hS 0 rfl rfl 0 (by decide) (hts (.fieldLink RX10 41 "BandBoatModel" "thrown" "I") (List.mem_of_getElem? (i := 1) rfl)) (fun _ h9 => h9) rfl (by decide +kernel) rfl rfl (Nat.le_of_ble_eq_true rfl) dX10_count_2 (fun H locs hP hD hS => ?_)
  have hP : va_P E.1 vwCl [xModel h_mm a_mm (upd mm 0 (0 : Int32)), xI E (a_mm 5) 60 bt] H := hP
  have hD : va_D A [xModel h_mm a_mm (upd mm 0 (0 : Int32)), xI E (a_mm 5) 60 bt] := hD
  refine lv_iload_n hx hb dX10_count_5 rfl (lv_at hl 1 rfl) ?_
  refine lv_if_ne (tgt := 19) hx hb dX10_count_6 (by decide) (fun c6 => ?_) (fun c6 => ?_)
  · rw [if_neg c6] at hρ
    refine lv_iload_n hx hb dX10_count_19 rfl (lv_at hl 1 rfl) ?_
    refine lv_iconst (v := (1 : Int32)) hx hb dX10_count_20 (by decide) ?_
    refine lv_icmp_ne (tgt := 31) hx hb dX10_count_21 (by decide) (fun c21 => ?_) (fun c21 => ?_)
    · rw [if_neg c21] at hρ
      refine lv_iload_n hx hb dX10_count_31 rfl (lv_at hl 1 rfl) ?_
      refine lv_iconst (v := (2 : Int32)) hx hb dX10_count_32 (by decide) ?_
      refine lv_icmp_ne (tgt := 43) hx hb dX10_count_33 (by decide) (fun c33 => ?_) (fun c33 => ?_)
      · rw [if_neg c33] at hρ
        refine lv_iload_n hx hb dX10_count_43 rfl (lv_at hl 1 rfl) ?_
        refine lv_iconst (v := (3 : Int32)) hx hb dX10_count_44 (by decide) ?_
        refine lv_icmp_ne (tgt := 55) hx hb dX10_count_45 (by decide) (fun c45 => ?_) (fun c45 => ?_)
        · rw [if_neg c45] at hρ
          refine lv_iload_n hx hb dX10_count_55 rfl (lv_at hl 1 rfl) ?_
          refine lv_iconst (v := (4 : Int32)) hx hb dX10_count_56 (by decide) ?_
          refine lv_icmp_ne (tgt := 67) hx hb dX10_count_57 (by decide) (fun c57 => ?_) (fun c57 => ?_)
          · rw [if_neg c57] at hρ
            refine lv_iconst (v := (-1 : Int32)) hx hb dX10_count_67 (by decide) ?_
            exact hq (-1 : Int32) (0 : Int32) _ _ _ _ dX10_count_68 rfl (hρ0.trans hρ) hP hD hS
          · rw [if_pos c57] at hρ
            refine lv_aload_n hx hb dX10_count_60 rfl (lv_at hl 0 rfl) ?_
            refine va_get (D := E.1) (ci := 10) (v := .int (mm 16)) (C := RX10) (T := TX10) (N := 27) hx hb hts iX10_count_X10 hown hE.1 hP 0 rfl rfl 16 (by decide) (hts (.fieldLink RX10 86 "BandBoatModel" "keptMany" "I") (List.mem_of_getElem? (i := 6) rfl)) (fun _ h9 => h9) rfl dX10_count_61 ?_
            refine lv_goto (tgt := 68) hx hb dX10_count_64 (by decide) ?_
            exact hq (mm 16) (0 : Int32) _ _ _ _ dX10_count_68 rfl (hρ0.trans hρ) hP hD hS
        · rw [if_pos c45] at hρ
          refine lv_aload_n hx hb dX10_count_48 rfl (lv_at hl 0 rfl) ?_
          refine va_get (D := E.1) (ci := 10) (v := .int (mm 25)) (C := RX10) (T := TX10) (N := 27) hx hb hts iX10_count_X10 hown hE.1 hP 0 rfl rfl 25 (by decide) (hts (.fieldLink RX10 83 "BandBoatModel" "marks" "I") (List.mem_of_getElem? (i := 5) rfl)) (fun _ h9 => h9) rfl dX10_count_49 ?_
          refine lv_goto (tgt := 68) hx hb dX10_count_52 (by decide) ?_
          exact hq (mm 25) (0 : Int32) _ _ _ _ dX10_count_68 rfl (hρ0.trans hρ) hP hD hS
      · rw [if_pos c33] at hρ
        refine lv_aload_n hx hb dX10_count_36 rfl (lv_at hl 0 rfl) ?_
        refine va_get (D := E.1) (ci := 10) (v := .int (mm 22)) (C := RX10) (T := TX10) (N := 27) hx hb hts iX10_count_X10 hown hE.1 hP 0 rfl rfl 22 (by decide) (hts (.fieldLink RX10 80 "BandBoatModel" "readings" "I") (List.mem_of_getElem? (i := 4) rfl)) (fun _ h9 => h9) rfl dX10_count_37 ?_
        refine lv_goto (tgt := 68) hx hb dX10_count_40 (by decide) ?_
        exact hq (mm 22) (0 : Int32) _ _ _ _ dX10_count_68 rfl (hρ0.trans hρ) hP hD hS
    · rw [if_pos c21] at hρ
      refine lv_aload_n hx hb dX10_count_24 rfl (lv_at hl 0 rfl) ?_
      refine va_get (D := E.1) (ci := 10) (v := .int (mm 2)) (C := RX10) (T := TX10) (N := 27) hx hb hts iX10_count_X10 hown hE.1 hP 0 rfl rfl 2 (by decide) (hts (.fieldLink RX10 49 "BandBoatModel" "typed" "I") (List.mem_of_getElem? (i := 3) rfl)) (fun _ h9 => h9) rfl dX10_count_25 ?_
      refine lv_goto (tgt := 68) hx hb dX10_count_28 (by decide) ?_
      exact hq (mm 2) (0 : Int32) _ _ _ _ dX10_count_68 rfl (hρ0.trans hρ) hP hD hS
  · rw [if_pos c6] at hρ
    refine lv_aload_n hx hb dX10_count_9 rfl (lv_at hl 0 rfl) ?_
    refine va_get (D := E.1) (ci := 10) (v := .ref (a_mm 5)) (C := RX10) (T := TX10) (N := 27) hx hb hts iX10_count_X10 hown hE.1 hP 0 rfl rfl 5 (by decide) (hts (.fieldLink RX10 13 "BandBoatModel" "boat" "[I") (List.mem_of_getElem? (i := 2) rfl)) (fun _ h9 => h9) rfl dX10_count_10 ?_
    refine lv_bipush (v := (28 : Int32)) hx hb dX10_count_13 (by decide) ?_
    refine ar_ild (k := 28) (v := (bt 28)) hx hb hE hP 1 rfl (by unfold vp_in; decide) rfl rfl dX10_count_15 ?_
    refine lv_goto (tgt := 68) hx hb dX10_count_16 (by decide) ?_
    exact hq (bt 28) (0 : Int32) _ _ _ _ dX10_count_68 rfl (hρ0.trans hρ) hP hD hS
