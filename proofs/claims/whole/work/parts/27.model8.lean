def F_X10_straight_k119 (v11 : Int32) (v12 : Int32) (v13 : Int32) (v14 : Int32) (g15 : Nat → Int32) (x5_112 : Int32) (x4_112 : Int32) (x3_112 : Int32) (v16 : Int32) : (Int32 × Int32 × Int32 × Int32 × Int32 × Int32 × Int32 × (Nat → Int32) × Int32) ⊕ (Int32 × Int32 × Int32 × Int32 × Int32 × Int32 × Int32 × (Nat → Int32) × Int32) := Sum.inl (x5_112, x4_112, v16, v11, v12, v13, v14, g15, x3_112)
def F_X10_straight_j112 (s_mm_12_40 : Int32) (v11 : Int32) (v12 : Int32) (v13 : Int32) (v14 : Int32) (g15 : Nat → Int32) (x5_112 : Int32) (x4_112 : Int32) (x3_112 : Int32) : (Int32 × Int32 × Int32 × Int32 × Int32 × Int32 × Int32 × (Nat → Int32) × Int32) ⊕ (Int32 × Int32 × Int32 × Int32 × Int32 × Int32 × Int32 × (Nat → Int32) × Int32) := F_X10_straight_k119 v11 v12 v13 v14 g15 x5_112 x4_112 x3_112 (s_mm_12_40 + (1 : Int32))
def F_X10_straight_j95 (s_mm_12_40 : Int32) (v11 : Int32) (v12 : Int32) (v13 : Int32) (v14 : Int32) (g15 : Nat → Int32) (y0_81 : Int32) : (Int32 × Int32 × Int32 × Int32 × Int32 × Int32 × Int32 × (Nat → Int32) × Int32) ⊕ (Int32 × Int32 × Int32 × Int32 × Int32 × Int32 × Int32 × (Nat → Int32) × Int32) := F_X10_straight_j112 s_mm_12_40 v11 v12 v13 v14 g15 y0_81 (g15 4) s_mm_12_40
def F_X10_straight_j81 (x5_40 : Int32) (x4_40 : Int32) (s_mm_12_40 : Int32) (x3_40 : Int32) (v11 : Int32) (v12 : Int32) (v13 : Int32) (v14 : Int32) (g15 : Nat → Int32) (y0_81 : Int32) : (Int32 × Int32 × Int32 × Int32 × Int32 × Int32 × Int32 × (Nat → Int32) × Int32) ⊕ (Int32 × Int32 × Int32 × Int32 × Int32 × Int32 × Int32 × (Nat → Int32) × Int32) := (if x5_40 < (0 : Int32) then F_X10_straight_j95 s_mm_12_40 v11 v12 v13 v14 g15 y0_81 else (if x5_40 ≤ y0_81 then F_X10_straight_j112 s_mm_12_40 v11 v12 v13 v14 g15 x5_40 x4_40 x3_40 else F_X10_straight_j95 s_mm_12_40 v11 v12 v13 v14 g15 y0_81))
def F_X10_straight_k52 (x5_40 : Int32) (x4_40 : Int32) (s_mm_12_40 : Int32) (x3_40 : Int32) (v11 : Int32) (v12 : Int32) (v13 : Int32) (v14 : Int32) (g15 : Nat → Int32) : (Int32 × Int32 × Int32 × Int32 × Int32 × Int32 × Int32 × (Nat → Int32) × Int32) ⊕ (Int32 × Int32 × Int32 × Int32 × Int32 × Int32 × Int32 × (Nat → Int32) × Int32) := (if (0 : Int32) ≤ (g15 4) then F_X10_straight_j81 x5_40 x4_40 s_mm_12_40 x3_40 v11 v12 v13 v14 g15 (g15 4) else F_X10_straight_j81 x5_40 x4_40 s_mm_12_40 x3_40 v11 v12 v13 v14 g15 (-(g15 4)))
def F_X10_straight_b40 (mm : Nat → Int32) (bt : Nat → Int32) (n : Int32) (v3 : Int32) (v4 : Int32) (v5 : Int32) (v6 : Int32) (v7 : Int32) (v8 : Int32) (x5_40 : Int32) (x4_40 : Int32) (s_mm_12_40 : Int32) (s_mm_17_40 : Int32) (s_mm_18_40 : Int32) (s_mm_19_40 : Int32) (s_mm_20_40 : Int32) (g_rn_40 : Nat → Int32) (x3_40 : Int32) : (Int32 × Int32 × Int32 × Int32 × Int32 × Int32 × Int32 × (Nat → Int32) × Int32) ⊕ (Int32 × Int32 × Int32 × Int32 × Int32 × Int32 × Int32 × (Nat → Int32) × Int32) := (if (21 : Int32) ≤ s_mm_12_40 then Sum.inr (x5_40, x4_40, s_mm_12_40, s_mm_17_40, s_mm_18_40, s_mm_19_40, s_mm_20_40, g_rn_40, x3_40) else (match F_X10_placeOf (upd (upd (upd (upd (upd (upd (upd (upd (upd (upd (upd (upd mm 0 (0 : Int32)) 6 v3) 7 v4) 8 v5) 9 v6) 10 v7) 11 v8) 12 s_mm_12_40) 17 s_mm_17_40) 18 s_mm_18_40) 19 s_mm_19_40) 20 s_mm_20_40) bt g_rn_40 n (-1 : Int32) with | (r10, v11, v12, v13, v14, g15) => F_X10_straight_k52 x5_40 x4_40 s_mm_12_40 x3_40 v11 v12 v13 v14 g15))
def F_X10_straight_l40 (mm : Nat → Int32) (bt : Nat → Int32) (n : Int32) (v3 : Int32) (v4 : Int32) (v5 : Int32) (v6 : Int32) (v7 : Int32) (v8 : Int32) : Nat → (Int32) → (Int32) → (Int32) → (Int32) → (Int32) → (Int32) → (Int32) → (Nat → Int32) → (Int32) → Int32 × Int32 × Int32 × Int32 × Int32 × Int32 × Int32 × (Nat → Int32) × Int32
  | 0, x5_40, x4_40, s_mm_12_40, s_mm_17_40, s_mm_18_40, s_mm_19_40, s_mm_20_40, g_rn_40, x3_40 => (x5_40, x4_40, s_mm_12_40, s_mm_17_40, s_mm_18_40, s_mm_19_40, s_mm_20_40, g_rn_40, x3_40)
  | n_40 + 1, x5_40, x4_40, s_mm_12_40, s_mm_17_40, s_mm_18_40, s_mm_19_40, s_mm_20_40, g_rn_40, x3_40 => match F_X10_straight_b40 mm bt n v3 v4 v5 v6 v7 v8 x5_40 x4_40 s_mm_12_40 s_mm_17_40 s_mm_18_40 s_mm_19_40 s_mm_20_40 g_rn_40 x3_40 with
    | Sum.inl (c_x5_40, c_x4_40, c_s_mm_12_40, c_s_mm_17_40, c_s_mm_18_40, c_s_mm_19_40, c_s_mm_20_40, c_g_rn_40, c_x3_40) => F_X10_straight_l40 mm bt n v3 v4 v5 v6 v7 v8 n_40 c_x5_40 c_x4_40 c_s_mm_12_40 c_s_mm_17_40 c_s_mm_18_40 c_s_mm_19_40 c_s_mm_20_40 c_g_rn_40 c_x3_40
    | Sum.inr r_ => r_
def F_X10_straight_x40 (what : Int32) (v3 : Int32) (v4 : Int32) (v5 : Int32) (v6 : Int32) (v7 : Int32) (v8 : Int32) (bx4_40 : Int32) (bs_mm_12_40 : Int32) (bs_mm_17_40 : Int32) (bs_mm_18_40 : Int32) (bs_mm_19_40 : Int32) (bs_mm_20_40 : Int32) (bg_rn_40 : Nat → Int32) (bx3_40 : Int32) : Int32 × Int32 × Int32 × Int32 × Int32 × Int32 × Int32 × Int32 × Int32 × Int32 × Int32 × Int32 × Int32 × (Nat → Int32) := (if what = (0 : Int32) then (bx3_40, (0 : Int32), v3, v4, v5, v6, v7, v8, bs_mm_12_40, bs_mm_17_40, bs_mm_18_40, bs_mm_19_40, bs_mm_20_40, bg_rn_40) else ((bx4_40 + (10000000 : Int32)), (0 : Int32), v3, v4, v5, v6, v7, v8, bs_mm_12_40, bs_mm_17_40, bs_mm_18_40, bs_mm_19_40, bs_mm_20_40, bg_rn_40))
def F_X10_straight_k24 (mm : Nat → Int32) (bt : Nat → Int32) (rn : Nat → Int32) (n : Int32) (what : Int32) (v3 : Int32) (v4 : Int32) (v5 : Int32) (v6 : Int32) (v7 : Int32) (v8 : Int32) : Int32 × Int32 × Int32 × Int32 × Int32 × Int32 × Int32 × Int32 × Int32 × Int32 × Int32 × Int32 × Int32 × (Nat → Int32) := (match F_X10_straight_l40 mm bt n v3 v4 v5 v6 v7 v8 (21) (-1 : Int32) (0 : Int32) (0 : Int32) (mm 17) (mm 18) (mm 19) (mm 20) rn (0 : Int32) with | (bx5_40, bx4_40, bs_mm_12_40, bs_mm_17_40, bs_mm_18_40, bs_mm_19_40, bs_mm_20_40, bg_rn_40, bx3_40) => F_X10_straight_x40 what v3 v4 v5 v6 v7 v8 bx4_40 bs_mm_12_40 bs_mm_17_40 bs_mm_18_40 bs_mm_19_40 bs_mm_20_40 bg_rn_40 bx3_40)
def F_X10_straight (mm : Nat → Int32) (bt : Nat → Int32) (rn : Nat → Int32) (n : Int32) (what : Int32) : Int32 × Int32 × Int32 × Int32 × Int32 × Int32 × Int32 × Int32 × Int32 × Int32 × Int32 × Int32 × Int32 × (Nat → Int32) := (if (F_X10_areTurns n) = (0 : Int32) then ((-1 : Int32), (0 : Int32), (mm 6), (mm 7), (mm 8), (mm 9), (mm 10), (mm 11), (mm 12), (mm 17), (mm 18), (mm 19), (mm 20), rn) else (if (F_X10_in what (0 : Int32) (1 : Int32)) = (0 : Int32) then ((-1 : Int32), (0 : Int32), (mm 6), (mm 7), (mm 8), (mm 9), (mm 10), (mm 11), (mm 12), (mm 17), (mm 18), (mm 19), (mm 20), rn) else (match F_X10_asItIs bt with | (v3, v4, v5, v6, v7, v8, v9) => F_X10_straight_k24 mm bt rn n what v3 v4 v5 v6 v7 v8)))
theorem iX10_straight_X10 : ∀ w ∈ wsX100, w ∈ wsX10_straight := fun _ h => List.mem_cons_of_mem _ (List.mem_append_right _ h)
set_option maxHeartbeats 4000000 in
set_option maxRecDepth 100000 in
theorem c_X10_straight (l : Launch) (E : wV) (h_mm : Nat) (a_mm : Nat → Nat) (mm : Nat → Int32) (bt : Nat → Int32) (rn : Nat → Int32) (n : Int32) (what : Int32) (hB : btOK bt) : MetI l yX10_straight wsX10_straight ({ frames := 5, cells := 0, slots := 0, locals := 117 } : Room) E ([.ref h_mm, .int n, .int what] : List Value) [xModel h_mm a_mm mm, xI E (a_mm 5) 60 bt, xI E (a_mm 14) 6 rn] (fun (r : Int32) (u : Int32 × Int32 × Int32 × Int32 × Int32 × Int32 × Int32 × Int32 × Int32 × Int32 × Int32 × Int32 × (Nat → Int32)) => F_X10_straight mm bt rn n what = (r, u)) (fun (u : Int32 × Int32 × Int32 × Int32 × Int32 × Int32 × Int32 × Int32 × Int32 × Int32 × Int32 × Int32 × (Nat → Int32)) => [xModel h_mm a_mm (upd (upd (upd (upd (upd (upd (upd (upd (upd (upd (upd (upd mm 0 u.1) 6 u.2.1) 7 u.2.2.1) 8 u.2.2.2.1) 9 u.2.2.2.2.1) 10 u.2.2.2.2.2.1) 11 u.2.2.2.2.2.2.1) 12 u.2.2.2.2.2.2.2.1) 17 u.2.2.2.2.2.2.2.2.1) 18 u.2.2.2.2.2.2.2.2.2.1) 19 u.2.2.2.2.2.2.2.2.2.2.1) 20 u.2.2.2.2.2.2.2.2.2.2.2.1), xI E (a_mm 5) 60 bt, xI E (a_mm 14) 6 u.2.2.2.2.2.2.2.2.2.2.2.2]) := by
  refine MetI.of (cc := cX10_straight) (maxL := 7) (own := RX10) (by decide) rfl rfl (Nat.le_of_ble_eq_true rfl) ?_
  intro p e s m below meth c A Q ls cx hP hD hS hl hq
  obtain ⟨hx, hb, hml, hown, hts, hE, hA⟩ := id cx
  have hl : lv_has ls 7 [(0, .ref h_mm), (1, .int n), (2, .int what)] := hl
  have hP : va_P E.1 vwCl [xModel h_mm a_mm mm, xI E (a_mm 5) 60 bt, xI E (a_mm 14) 6 rn] s.heap := hP
  obtain ⟨ρ, hρ0⟩ : ∃ ρ, F_X10_straight mm bt rn n what = ρ := ⟨_, rfl⟩
  have hρ := hρ0.symm
  unfold F_X10_straight at hρ
  refine lv_aload_n hx hb dX10_straight_0 rfl (lv_at hl 0 rfl) ?_
  refine lv_iconst (v := (0 : Int32)) hx hb dX10_straight_1 (by decide) ?_
  refine va_put (D := E.1) (ci := 10) (v := .int (0 : Int32)) (ty := .int) (C := RX10) (T := TX10) (N := 27) hx hb hts iX10_straight_X10 tyX10 tyX10_ok nmX10 hown hE.1 hP hD hS 0 rfl rfl 0 (by decide) (hts (.fieldLink RX10 41 "BandBoatModel" "thrown" "I") (List.mem_of_getElem? (i := 1) rfl)) (fun _ h9 => h9) rfl (by decide +kernel) rfl rfl (Nat.le_of_ble_eq_true rfl) dX10_straight_2 (fun H locs hP hD hS => ?_)
  have hP : va_P E.1 vwCl [xModel h_mm a_mm (upd mm 0 (0 : Int32)), xI E (a_mm 5) 60 bt, xI E (a_mm 14) 6 rn] H := hP
  have hD : va_D A [xModel h_mm a_mm (upd mm 0 (0 : Int32)), xI E (a_mm 5) 60 bt, xI E (a_mm 14) 6 rn] := hD
  refine lv_iload_n hx hb dX10_straight_5 rfl (lv_at hl 1 rfl) ?_
  refine kI (wc := []) (wr := [xModel h_mm a_mm (upd mm 0 (0 : Int32)), xI E (a_mm 5) 60 bt, xI E (a_mm 14) 6 rn]) (wc' := (fun (_ : Unit) => [])) (wn := (fun (_ : Unit) => [xModel h_mm a_mm (upd mm 0 (0 : Int32)), xI E (a_mm 5) 60 bt, xI E (a_mm 14) 6 rn])) (isC := []) (isR := [0, 1, 2]) (is2 := [0, 1, 2]) cx hP hD hS ⟨rfl, rfl, by decide, by decide, by decide, by decide, fun _ => rfl⟩ (rS (As := [.int n]) (rest := []) cx (c_X10_areTurns l E n _) (va_cwS 1 hts gX10_straight_X10_areTurns rfl rfl rfl (by decide +kernel) ⟨Nat.le_of_ble_eq_true rfl, Nat.le_of_ble_eq_true rfl⟩) rfl hl.1 rfl (Nat.le_of_ble_eq_true rfl) dX10_straight_6 ⟨Nat.zero_le _, Nat.zero_le _⟩) (fun r1 u H locs hw hP hD hS => ?_)
  subst hw
  refine lv_if_eq (tgt := 21) hx hb dX10_straight_9 (by decide) (fun c9 => ?_) (fun c9 => ?_)
  · rw [if_pos c9] at hρ
    refine lv_iconst (v := (-1 : Int32)) hx hb dX10_straight_21 (by decide) ?_
    exact hq (-1 : Int32) ((0 : Int32), (mm 6), (mm 7), (mm 8), (mm 9), (mm 10), (mm 11), (mm 12), (mm 17), (mm 18), (mm 19), (mm 20), rn) _ _ _ _ dX10_straight_22 rfl (hρ0.trans hρ) hP hD hS
  · rw [if_neg c9] at hρ
    refine lv_iload_n hx hb dX10_straight_12 rfl (lv_at hl 2 rfl) ?_
    refine lv_iconst (v := (0 : Int32)) hx hb dX10_straight_13 (by decide) ?_
    refine lv_iconst (v := (1 : Int32)) hx hb dX10_straight_14 (by decide) ?_
    refine kI (wc := []) (wr := [xModel h_mm a_mm (upd mm 0 (0 : Int32)), xI E (a_mm 5) 60 bt, xI E (a_mm 14) 6 rn]) (wc' := (fun (_ : Unit) => [])) (wn := (fun (_ : Unit) => [xModel h_mm a_mm (upd mm 0 (0 : Int32)), xI E (a_mm 5) 60 bt, xI E (a_mm 14) 6 rn])) (isC := []) (isR := [0, 1, 2]) (is2 := [0, 1, 2]) cx hP hD hS ⟨rfl, rfl, by decide, by decide, by decide, by decide, fun _ => rfl⟩ (rS (As := [.int what, .int (0 : Int32), .int (1 : Int32)]) (rest := []) cx (c_X10_in l E what (0 : Int32) (1 : Int32) _) (va_cwS 3 hts gX10_straight_X10_in rfl rfl rfl (by decide +kernel) ⟨Nat.le_of_ble_eq_true rfl, Nat.le_of_ble_eq_true rfl⟩) rfl hl.1 rfl (Nat.le_of_ble_eq_true rfl) dX10_straight_15 ⟨Nat.zero_le _, Nat.zero_le _⟩) (fun r2 u H locs hw hP hD hS => ?_)
    subst hw
    refine lv_if_ne (tgt := 23) hx hb dX10_straight_18 (by decide) (fun c18 => ?_) (fun c18 => ?_)
    · rw [if_neg c18] at hρ
      refine lv_aload_n hx hb dX10_straight_23 rfl (lv_at hl 0 rfl) ?_
      refine kV (wc := [xModel h_mm a_mm (upd mm 0 (0 : Int32)), xI E (a_mm 5) 60 bt]) (wr := [xI E (a_mm 14) 6 rn]) (wc' := (fun (u : Int32 × Int32 × Int32 × Int32 × Int32 × Int32 × Int32) => [xModel h_mm a_mm (upd (upd (upd (upd (upd (upd (upd (upd mm 0 (0 : Int32)) 6 u.1) 7 u.2.1) 8 u.2.2.1) 9 u.2.2.2.1) 10 u.2.2.2.2.1) 11 u.2.2.2.2.2.1) 12 u.2.2.2.2.2.2), xI E (a_mm 5) 60 bt])) (wn := (fun (u : Int32 × Int32 × Int32 × Int32 × Int32 × Int32 × Int32) => [xModel h_mm a_mm (upd (upd (upd (upd (upd (upd (upd (upd mm 0 (0 : Int32)) 6 u.1) 7 u.2.1) 8 u.2.2.1) 9 u.2.2.2.1) 10 u.2.2.2.2.1) 11 u.2.2.2.2.2.1) 12 u.2.2.2.2.2.2), xI E (a_mm 5) 60 bt, xI E (a_mm 14) 6 rn])) (isC := [0, 1]) (isR := [2]) (is2 := [1, 2, 0]) cx hP hD hS ⟨rfl, rfl, by decide, by decide, by decide, by decide, fun _ => rfl⟩ (rV (As := []) (rest := []) (C := RX10) (q0 := 0) (ci := 10) cx (c_X10_asItIs l E h_mm a_mm (upd mm 0 (0 : Int32)) bt (hB) _) (cwV 0 hts gX10_straight_X10_asItIs rfl rfl rfl (by decide +kernel) ⟨Nat.le_of_ble_eq_true rfl, Nat.le_of_ble_eq_true rfl⟩) rfl rfl rfl rfl hl.1 rfl (Nat.le_of_ble_eq_true rfl) dX10_straight_24 ⟨Nat.zero_le _, Nat.zero_le _⟩) (fun u H locs hw hP hD hS => ?_)
      obtain ⟨hw, hn24⟩ := hw
      obtain ⟨v3, v4, v5, v6, v7, v8, v9⟩ := u
      have hn24 : (v6) = (bt 17) ∧ (v7) = (bt 18) ∧ (v8) = (bt 19) := hn24
      have hP : va_P E.1 vwCl [xModel h_mm a_mm (upd (upd (upd (upd (upd (upd (upd (upd mm 0 (0 : Int32)) 6 v3) 7 v4) 8 v5) 9 v6) 10 v7) 11 v8) 12 v9), xI E (a_mm 5) 60 bt, xI E (a_mm 14) 6 rn] H := hP
      have hD : va_D A [xModel h_mm a_mm (upd (upd (upd (upd (upd (upd (upd (upd mm 0 (0 : Int32)) 6 v3) 7 v4) 8 v5) 9 v6) 10 v7) 11 v8) 12 v9), xI E (a_mm 5) 60 bt, xI E (a_mm 14) 6 rn] := hD
      have hw : F_X10_asItIs bt = (v3, v4, v5, v6, v7, v8, v9) := hw
      rw [hw] at hρ
      have hρ : ρ = F_X10_straight_k24 mm bt rn n what v3 v4 v5 v6 v7 v8 := hρ
      unfold F_X10_straight_k24 at hρ
      refine lv_iconst (v := (0 : Int32)) hx hb dX10_straight_27 (by decide) ?_
      refine lv_istore_n (lv' := [(3, .int (0 : Int32)), (0, .ref h_mm), (1, .int n), (2, .int what)]) hx hb dX10_straight_28 rfl hl (by decide) rfl (fun ls hl => ?_)
      refine lv_iconst (v := (0 : Int32)) hx hb dX10_straight_29 (by decide) ?_
      refine lv_istore (lv' := [(4, .int (0 : Int32)), (3, .int (0 : Int32)), (0, .ref h_mm), (1, .int n), (2, .int what)]) hx hb dX10_straight_30 hl (by decide) rfl (fun ls hl => ?_)
      refine lv_iconst (v := (-1 : Int32)) hx hb dX10_straight_32 (by decide) ?_
      refine lv_istore (lv' := [(5, .int (-1 : Int32)), (4, .int (0 : Int32)), (3, .int (0 : Int32)), (0, .ref h_mm), (1, .int n), (2, .int what)]) hx hb dX10_straight_33 hl (by decide) rfl (fun ls hl => ?_)
      refine lv_aload_n hx hb dX10_straight_35 rfl (lv_at hl 3 rfl) ?_
      refine lv_iconst (v := (0 : Int32)) hx hb dX10_straight_36 (by decide) ?_
      refine va_put (D := E.1) (ci := 10) (v := .int (0 : Int32)) (ty := .int) (C := RX10) (T := TX10) (N := 27) hx hb hts iX10_straight_X10 tyX10 tyX10_ok nmX10 hown hE.1 hP hD hS 0 rfl rfl 12 (by decide) (hts (.fieldLink RX10 107 "BandBoatModel" "rudder" "I") (List.mem_of_getElem? (i := 2) rfl)) (fun _ h9 => h9) rfl (by decide +kernel) rfl rfl (Nat.le_of_ble_eq_true rfl) dX10_straight_37 (fun H locs hP hD hS => ?_)
      have hP : va_P E.1 vwCl [xModel h_mm a_mm (upd (upd (upd (upd (upd (upd (upd (upd mm 0 (0 : Int32)) 6 v3) 7 v4) 8 v5) 9 v6) 10 v7) 11 v8) 12 (0 : Int32)), xI E (a_mm 5) 60 bt, xI E (a_mm 14) 6 rn] H := hP
      have hD : va_D A [xModel h_mm a_mm (upd (upd (upd (upd (upd (upd (upd (upd mm 0 (0 : Int32)) 6 v3) 7 v4) 8 v5) 9 v6) 10 v7) 11 v8) 12 (0 : Int32)), xI E (a_mm 5) 60 bt, xI E (a_mm 14) 6 rn] := hD
      have hL40 : ∀ (n_40 : Nat) (x5_40 : Int32) (x4_40 : Int32) (s_mm_12_40 : Int32) (s_mm_17_40 : Int32) (s_mm_18_40 : Int32) (s_mm_19_40 : Int32) (s_mm_20_40 : Int32) (g_rn_40 : Nat → Int32) (x3_40 : Int32) (H : Heap) (locs : List Loc) (ls : Array Slot), (((21 : Int32) : Int32).toInt ≤ (s_mm_12_40).toInt + (n_40 : Nat)) → va_P E.1 vwCl [xModel h_mm a_mm (upd (upd (upd (upd (upd (upd (upd (upd (upd (upd (upd (upd mm 0 (0 : Int32)) 6 v3) 7 v4) 8 v5) 9 v6) 10 v7) 11 v8) 12 s_mm_12_40) 17 s_mm_17_40) 18 s_mm_18_40) 19 s_mm_19_40) 20 s_mm_20_40), xI E (a_mm 5) 60 bt, xI E (a_mm 14) 6 g_rn_40] H → va_D A [xModel h_mm a_mm (upd (upd (upd (upd (upd (upd (upd (upd (upd (upd (upd (upd mm 0 (0 : Int32)) 6 v3) 7 v4) 8 v5) 9 v6) 10 v7) 11 v8) 12 s_mm_12_40) 17 s_mm_17_40) 18 s_mm_18_40) 19 s_mm_19_40) 20 s_mm_20_40), xI E (a_mm 5) 60 bt, xI E (a_mm 14) 6 g_rn_40] → va_S A s.heap H locs → lv_has ls 7 [(5, .int x5_40), (4, .int x4_40), (3, .int x3_40), (0, .ref h_mm), (1, .int n), (2, .int what)] → (∀ (ox5_40 : Int32) (ox4_40 : Int32) (os_mm_12_40 : Int32) (os_mm_17_40 : Int32) (os_mm_18_40 : Int32) (os_mm_19_40 : Int32) (os_mm_20_40 : Int32) (og_rn_40 : Nat → Int32) (ox3_40 : Int32) (H : Heap) (locs : List Loc) (ls : Array Slot), F_X10_straight_l40 mm bt n v3 v4 v5 v6 v7 v8 n_40 x5_40 x4_40 s_mm_12_40 s_mm_17_40 s_mm_18_40 s_mm_19_40 s_mm_20_40 g_rn_40 x3_40 = (ox5_40, ox4_40, os_mm_12_40, os_mm_17_40, os_mm_18_40, os_mm_19_40, os_mm_20_40, og_rn_40, ox3_40) → va_P E.1 vwCl [xModel h_mm a_mm (upd (upd (upd (upd (upd (upd (upd (upd (upd (upd (upd (upd mm 0 (0 : Int32)) 6 v3) 7 v4) 8 v5) 9 v6) 10 v7) 11 v8) 12 os_mm_12_40) 17 os_mm_17_40) 18 os_mm_18_40) 19 os_mm_19_40) 20 os_mm_20_40), xI E (a_mm 5) 60 bt, xI E (a_mm 14) 6 og_rn_40] H → va_D A [xModel h_mm a_mm (upd (upd (upd (upd (upd (upd (upd (upd (upd (upd (upd (upd mm 0 (0 : Int32)) 6 v3) 7 v4) 8 v5) 9 v6) 10 v7) 11 v8) 12 os_mm_12_40) 17 os_mm_17_40) 18 os_mm_18_40) 19 os_mm_19_40) 20 os_mm_20_40), xI E (a_mm 5) 60 bt, xI E (a_mm 14) 6 og_rn_40] → va_S A s.heap H locs → lv_has ls 7 [(5, .int ox5_40), (4, .int ox4_40), (3, .int ox3_40), (0, .ref h_mm), (1, .int n), (2, .int what)] → W p l e ({ frames := 5, cells := 0, slots := 0, locals := 117 } : Room) s m ([.ref h_mm, .int n, .int what] : List Value).toArray below meth c H locs 0 0 Q (F0 m 125 ls [])) → W p l e ({ frames := 5, cells := 0, slots := 0, locals := 117 } : Room) s m ([.ref h_mm, .int n, .int what] : List Value).toArray below meth c H locs 0 0 Q (F0 m 40 ls []) := by
        intro n_40
        induction n_40 with
        | zero =>
          intro x5_40 x4_40 s_mm_12_40 s_mm_17_40 s_mm_18_40 s_mm_19_40 s_mm_20_40 g_rn_40 x3_40 H locs ls hM hP hD hS hl hK
          have hM40 := hM
          obtain ⟨σ40, hσ040⟩ : ∃ σ, F_X10_straight_l40 mm bt n v3 v4 v5 v6 v7 v8 0 x5_40 x4_40 s_mm_12_40 s_mm_17_40 s_mm_18_40 s_mm_19_40 s_mm_20_40 g_rn_40 x3_40 = σ := ⟨_, rfl⟩
          have hσ40 := hσ040.symm
          rw [F_X10_straight_l40] at hσ40
          refine lv_aload_n hx hb dX10_straight_40 rfl (lv_at hl 3 rfl) ?_
          refine va_get (D := E.1) (ci := 10) (v := .int s_mm_12_40) (C := RX10) (T := TX10) (N := 27) hx hb hts iX10_straight_X10 hown hE.1 hP 0 rfl rfl 12 (by decide) (hts (.fieldLink RX10 107 "BandBoatModel" "rudder" "I") (List.mem_of_getElem? (i := 2) rfl)) (fun _ h9 => h9) rfl dX10_straight_41 ?_
          refine lv_bipush (v := (21 : Int32)) hx hb dX10_straight_44 (by decide) ?_
          refine lv_icmp_ge (tgt := 125) hx hb dX10_straight_46 (by decide) (fun c46 => ?_) (fun c46 => ?_)
          · exact hK x5_40 x4_40 s_mm_12_40 s_mm_17_40 s_mm_18_40 s_mm_19_40 s_mm_20_40 g_rn_40 x3_40 _ _ _ (hσ040.trans hσ40) hP hD hS (lv_sub hl [0, 1, 2, 3, 4, 5] rfl)
          · exact (cnt_lt0 c46 hM).elim
        | succ n_40 ih =>
          intro x5_40 x4_40 s_mm_12_40 s_mm_17_40 s_mm_18_40 s_mm_19_40 s_mm_20_40 g_rn_40 x3_40 H locs ls hM hP hD hS hl hK
          have hM40 := hM
          obtain ⟨σ40, hσ040⟩ : ∃ σ, F_X10_straight_l40 mm bt n v3 v4 v5 v6 v7 v8 (n_40 + 1) x5_40 x4_40 s_mm_12_40 s_mm_17_40 s_mm_18_40 s_mm_19_40 s_mm_20_40 g_rn_40 x3_40 = σ := ⟨_, rfl⟩
          have hσ40 := hσ040.symm
          rw [F_X10_straight_l40] at hσ40
          obtain ⟨τ40, hτ040⟩ : ∃ τ, F_X10_straight_b40 mm bt n v3 v4 v5 v6 v7 v8 x5_40 x4_40 s_mm_12_40 s_mm_17_40 s_mm_18_40 s_mm_19_40 s_mm_20_40 g_rn_40 x3_40 = τ := ⟨_, rfl⟩
          rw [hτ040] at hσ40
          have hτ40 := hτ040.symm
          unfold F_X10_straight_b40 at hτ40
          refine lv_aload_n hx hb dX10_straight_40 rfl (lv_at hl 3 rfl) ?_
          refine va_get (D := E.1) (ci := 10) (v := .int s_mm_12_40) (C := RX10) (T := TX10) (N := 27) hx hb hts iX10_straight_X10 hown hE.1 hP 0 rfl rfl 12 (by decide) (hts (.fieldLink RX10 107 "BandBoatModel" "rudder" "I") (List.mem_of_getElem? (i := 2) rfl)) (fun _ h9 => h9) rfl dX10_straight_41 ?_
          refine lv_bipush (v := (21 : Int32)) hx hb dX10_straight_44 (by decide) ?_
          refine lv_icmp_ge (tgt := 125) hx hb dX10_straight_46 (by decide) (fun c46 => ?_) (fun c46 => ?_)
          · rw [if_pos c46] at hτ40
            have hσ40 : σ40 = (x5_40, x4_40, s_mm_12_40, s_mm_17_40, s_mm_18_40, s_mm_19_40, s_mm_20_40, g_rn_40, x3_40) := by subst hτ40; exact hσ40
            exact hK x5_40 x4_40 s_mm_12_40 s_mm_17_40 s_mm_18_40 s_mm_19_40 s_mm_20_40 g_rn_40 x3_40 _ _ _ (hσ040.trans hσ40) hP hD hS (lv_sub hl [0, 1, 2, 3, 4, 5] rfl)
          · rw [if_neg c46] at hτ40
            refine lv_aload_n hx hb dX10_straight_49 rfl (lv_at hl 3 rfl) ?_
            refine lv_iload_n hx hb dX10_straight_50 rfl (lv_at hl 4 rfl) ?_
            refine lv_iconst (v := (-1 : Int32)) hx hb dX10_straight_51 (by decide) ?_
            refine kI (wc := [xModel h_mm a_mm (upd (upd (upd (upd (upd (upd (upd (upd (upd (upd (upd (upd mm 0 (0 : Int32)) 6 v3) 7 v4) 8 v5) 9 v6) 10 v7) 11 v8) 12 s_mm_12_40) 17 s_mm_17_40) 18 s_mm_18_40) 19 s_mm_19_40) 20 s_mm_20_40), xI E (a_mm 5) 60 bt, xI E (a_mm 14) 6 g_rn_40]) (wr := []) (wc' := (fun (u : Int32 × Int32 × Int32 × Int32 × (Nat → Int32)) => [xModel h_mm a_mm (upd (upd (upd (upd (upd (upd (upd (upd (upd (upd (upd (upd (upd (upd (upd (upd mm 0 (0 : Int32)) 6 v3) 7 v4) 8 v5) 9 v6) 10 v7) 11 v8) 12 s_mm_12_40) 17 s_mm_17_40) 18 s_mm_18_40) 19 s_mm_19_40) 20 s_mm_20_40) 17 u.1) 18 u.2.1) 19 u.2.2.1) 20 u.2.2.2.1), xI E (a_mm 5) 60 bt, xI E (a_mm 14) 6 u.2.2.2.2])) (wn := (fun (u : Int32 × Int32 × Int32 × Int32 × (Nat → Int32)) => [xModel h_mm a_mm (upd (upd (upd (upd (upd (upd (upd (upd (upd (upd (upd (upd mm 0 (0 : Int32)) 6 v3) 7 v4) 8 v5) 9 v6) 10 v7) 11 v8) 12 s_mm_12_40) 17 u.1) 18 u.2.1) 19 u.2.2.1) 20 u.2.2.2.1), xI E (a_mm 5) 60 bt, xI E (a_mm 14) 6 u.2.2.2.2])) (isC := [0, 1, 2]) (isR := []) (is2 := [0, 1, 2]) cx hP hD hS ⟨rfl, rfl, by decide, by decide, by decide, by decide, fun _ => rfl⟩ (rV (As := [.int n, .int (-1 : Int32)]) (rest := []) (C := RX10) (q0 := 0) (ci := 10) cx (c_X10_placeOf l E h_mm a_mm (upd (upd (upd (upd (upd (upd (upd (upd (upd (upd (upd (upd mm 0 (0 : Int32)) 6 v3) 7 v4) 8 v5) 9 v6) 10 v7) 11 v8) 12 s_mm_12_40) 17 s_mm_17_40) 18 s_mm_18_40) 19 s_mm_19_40) 20 s_mm_20_40) bt g_rn_40 n (-1 : Int32) (hB) (mmOK_of hn24 hB) _) (cwV 2 hts gX10_straight_X10_placeOf rfl rfl rfl (by decide +kernel) ⟨Nat.le_of_ble_eq_true rfl, Nat.le_of_ble_eq_true rfl⟩) rfl rfl rfl rfl hl.1 rfl (Nat.le_of_ble_eq_true rfl) dX10_straight_52 ⟨Nat.zero_le _, Nat.zero_le _⟩) (fun r10 u H locs hw hP hD hS => ?_)
            obtain ⟨v11, v12, v13, v14, g15⟩ := u
            have hP : va_P E.1 vwCl [xModel h_mm a_mm (upd (upd (upd (upd (upd (upd (upd (upd (upd (upd (upd (upd mm 0 (0 : Int32)) 6 v3) 7 v4) 8 v5) 9 v6) 10 v7) 11 v8) 12 s_mm_12_40) 17 v11) 18 v12) 19 v13) 20 v14), xI E (a_mm 5) 60 bt, xI E (a_mm 14) 6 g15] H := hP
            have hD : va_D A [xModel h_mm a_mm (upd (upd (upd (upd (upd (upd (upd (upd (upd (upd (upd (upd mm 0 (0 : Int32)) 6 v3) 7 v4) 8 v5) 9 v6) 10 v7) 11 v8) 12 s_mm_12_40) 17 v11) 18 v12) 19 v13) 20 v14), xI E (a_mm 5) 60 bt, xI E (a_mm 14) 6 g15] := hD
            have hw : F_X10_placeOf (upd (upd (upd (upd (upd (upd (upd (upd (upd (upd (upd (upd mm 0 (0 : Int32)) 6 v3) 7 v4) 8 v5) 9 v6) 10 v7) 11 v8) 12 s_mm_12_40) 17 s_mm_17_40) 18 s_mm_18_40) 19 s_mm_19_40) 20 s_mm_20_40) bt g_rn_40 n (-1 : Int32) = (r10, v11, v12, v13, v14, g15) := hw
            rw [hw] at hτ40
            have hτ40 : τ40 = F_X10_straight_k52 x5_40 x4_40 s_mm_12_40 x3_40 v11 v12 v13 v14 g15 := hτ40
            unfold F_X10_straight_k52 at hτ40
            refine lv_pop hx hb dX10_straight_55 rfl ?_
            refine lv_aload_n hx hb dX10_straight_56 rfl (lv_at hl 3 rfl) ?_
            refine va_get (D := E.1) (ci := 10) (v := .ref (a_mm 14)) (C := RX10) (T := TX10) (N := 27) hx hb hts iX10_straight_X10 hown hE.1 hP 0 rfl rfl 14 (by decide) (hts (.fieldLink RX10 19 "BandBoatModel" "run" "[I") (List.mem_of_getElem? (i := 3) rfl)) (fun _ h9 => h9) rfl dX10_straight_57 ?_
            refine lv_iconst (v := (4 : Int32)) hx hb dX10_straight_60 (by decide) ?_
            refine ar_ild (k := 4) (v := (g15 4)) hx hb hE hP 2 rfl (by unfold vp_in; decide) rfl rfl dX10_straight_61 ?_
            have hJ81 : ∀ (y0_81 : Int32) (H : Heap) (locs : List Loc) (ls : Array Slot), τ40 = F_X10_straight_j81 x5_40 x4_40 s_mm_12_40 x3_40 v11 v12 v13 v14 g15 y0_81 → va_P E.1 vwCl [xModel h_mm a_mm (upd (upd (upd (upd (upd (upd (upd (upd (upd (upd (upd (upd mm 0 (0 : Int32)) 6 v3) 7 v4) 8 v5) 9 v6) 10 v7) 11 v8) 12 s_mm_12_40) 17 v11) 18 v12) 19 v13) 20 v14), xI E (a_mm 5) 60 bt, xI E (a_mm 14) 6 g15] H → va_D A [xModel h_mm a_mm (upd (upd (upd (upd (upd (upd (upd (upd (upd (upd (upd (upd mm 0 (0 : Int32)) 6 v3) 7 v4) 8 v5) 9 v6) 10 v7) 11 v8) 12 s_mm_12_40) 17 v11) 18 v12) 19 v13) 20 v14), xI E (a_mm 5) 60 bt, xI E (a_mm 14) 6 g15] → va_S A s.heap H locs → lv_has ls 7 [(5, .int x5_40), (4, .int x4_40), (3, .int x3_40), (0, .ref h_mm), (1, .int n), (2, .int what)] → W p l e ({ frames := 5, cells := 0, slots := 0, locals := 117 } : Room) s m ([.ref h_mm, .int n, .int what] : List Value).toArray below meth c H locs 0 0 Q (F0 m 81 ls [.int y0_81]) := by
              intro y0_81 H locs ls hτ40 hP hD hS hl
              unfold F_X10_straight_j81 at hτ40
              refine lv_istore (lv' := [(6, .int y0_81), (5, .int x5_40), (4, .int x4_40), (3, .int x3_40), (0, .ref h_mm), (1, .int n), (2, .int what)]) hx hb dX10_straight_81 hl (by decide) rfl (fun ls hl => ?_)
              refine lv_iload hx hb dX10_straight_83 (lv_at hl 1 rfl) ?_
              have hJ112 : ∀ (x5_112 : Int32) (x4_112 : Int32) (x3_112 : Int32) (H : Heap) (locs : List Loc) (ls : Array Slot), τ40 = F_X10_straight_j112 s_mm_12_40 v11 v12 v13 v14 g15 x5_112 x4_112 x3_112 → va_P E.1 vwCl [xModel h_mm a_mm (upd (upd (upd (upd (upd (upd (upd (upd (upd (upd (upd (upd mm 0 (0 : Int32)) 6 v3) 7 v4) 8 v5) 9 v6) 10 v7) 11 v8) 12 s_mm_12_40) 17 v11) 18 v12) 19 v13) 20 v14), xI E (a_mm 5) 60 bt, xI E (a_mm 14) 6 g15] H → va_D A [xModel h_mm a_mm (upd (upd (upd (upd (upd (upd (upd (upd (upd (upd (upd (upd mm 0 (0 : Int32)) 6 v3) 7 v4) 8 v5) 9 v6) 10 v7) 11 v8) 12 s_mm_12_40) 17 v11) 18 v12) 19 v13) 20 v14), xI E (a_mm 5) 60 bt, xI E (a_mm 14) 6 g15] → va_S A s.heap H locs → lv_has ls 7 [(5, .int x5_112), (4, .int x4_112), (3, .int x3_112), (6, .int y0_81), (0, .ref h_mm), (1, .int n), (2, .int what)] → W p l e ({ frames := 5, cells := 0, slots := 0, locals := 117 } : Room) s m ([.ref h_mm, .int n, .int what] : List Value).toArray below meth c H locs 0 0 Q (F0 m 112 ls []) := by
                intro x5_112 x4_112 x3_112 H locs ls hτ40 hP hD hS hl
                unfold F_X10_straight_j112 at hτ40
                refine lv_aload_n hx hb dX10_straight_112 rfl (lv_at hl 4 rfl) ?_
                refine lv_dup hx hb dX10_straight_113 rfl ?_
                refine va_get (D := E.1) (ci := 10) (v := .int s_mm_12_40) (C := RX10) (T := TX10) (N := 27) hx hb hts iX10_straight_X10 hown hE.1 hP 0 rfl rfl 12 (by decide) (hts (.fieldLink RX10 107 "BandBoatModel" "rudder" "I") (List.mem_of_getElem? (i := 2) rfl)) (fun _ h9 => h9) rfl dX10_straight_114 ?_
                refine lv_iconst (v := (1 : Int32)) hx hb dX10_straight_117 (by decide) ?_
                refine lv_iadd hx hb dX10_straight_118 ?_
                refine lv_topi (fun v16 ev16 => ?_)
                have hτ40 : τ40 = F_X10_straight_k119 v11 v12 v13 v14 g15 x5_112 x4_112 x3_112 v16 := by rw [ev16]; exact hτ40
                unfold F_X10_straight_k119 at hτ40
                refine va_put (D := E.1) (ci := 10) (v := .int v16) (ty := .int) (C := RX10) (T := TX10) (N := 27) hx hb hts iX10_straight_X10 tyX10 tyX10_ok nmX10 hown hE.1 hP hD hS 0 rfl rfl 12 (by decide) (hts (.fieldLink RX10 107 "BandBoatModel" "rudder" "I") (List.mem_of_getElem? (i := 2) rfl)) (fun _ h9 => h9) rfl (by decide +kernel) rfl rfl (Nat.le_of_ble_eq_true rfl) dX10_straight_119 (fun H locs hP hD hS => ?_)
                have hP : va_P E.1 vwCl [xModel h_mm a_mm (upd (upd (upd (upd (upd (upd (upd (upd (upd (upd (upd (upd mm 0 (0 : Int32)) 6 v3) 7 v4) 8 v5) 9 v6) 10 v7) 11 v8) 12 v16) 17 v11) 18 v12) 19 v13) 20 v14), xI E (a_mm 5) 60 bt, xI E (a_mm 14) 6 g15] H := hP
                have hD : va_D A [xModel h_mm a_mm (upd (upd (upd (upd (upd (upd (upd (upd (upd (upd (upd (upd mm 0 (0 : Int32)) 6 v3) 7 v4) 8 v5) 9 v6) 10 v7) 11 v8) 12 v16) 17 v11) 18 v12) 19 v13) 20 v14), xI E (a_mm 5) 60 bt, xI E (a_mm 14) 6 g15] := hD
                refine lv_goto (tgt := 40) hx hb dX10_straight_122 (by decide) ?_
                have hσ40 : σ40 = F_X10_straight_l40 mm bt n v3 v4 v5 v6 v7 v8 n_40 x5_112 x4_112 v16 v11 v12 v13 v14 g15 x3_112 := by subst hτ40; exact hσ40
                exact ih x5_112 x4_112 v16 v11 v12 v13 v14 g15 x3_112 _ _ _ (by rw [ev16]; exact cnt_lt c46 hM40) hP hD hS (lv_sub hl [0, 1, 2, 4, 5, 6] rfl) (fun ox5_40 ox4_40 os_mm_12_40 os_mm_17_40 os_mm_18_40 os_mm_19_40 os_mm_20_40 og_rn_40 ox3_40 H locs ls he => hK ox5_40 ox4_40 os_mm_12_40 os_mm_17_40 os_mm_18_40 os_mm_19_40 os_mm_20_40 og_rn_40 ox3_40 H locs ls (hσ040.trans (hσ40.trans he)))
              have hJ95 : ∀ (H : Heap) (locs : List Loc) (ls : Array Slot), τ40 = F_X10_straight_j95 s_mm_12_40 v11 v12 v13 v14 g15 y0_81 → va_P E.1 vwCl [xModel h_mm a_mm (upd (upd (upd (upd (upd (upd (upd (upd (upd (upd (upd (upd mm 0 (0 : Int32)) 6 v3) 7 v4) 8 v5) 9 v6) 10 v7) 11 v8) 12 s_mm_12_40) 17 v11) 18 v12) 19 v13) 20 v14), xI E (a_mm 5) 60 bt, xI E (a_mm 14) 6 g15] H → va_D A [xModel h_mm a_mm (upd (upd (upd (upd (upd (upd (upd (upd (upd (upd (upd (upd mm 0 (0 : Int32)) 6 v3) 7 v4) 8 v5) 9 v6) 10 v7) 11 v8) 12 s_mm_12_40) 17 v11) 18 v12) 19 v13) 20 v14), xI E (a_mm 5) 60 bt, xI E (a_mm 14) 6 g15] → va_S A s.heap H locs → lv_has ls 7 [(6, .int y0_81), (5, .int x5_40), (4, .int x4_40), (3, .int x3_40), (0, .ref h_mm), (1, .int n), (2, .int what)] → W p l e ({ frames := 5, cells := 0, slots := 0, locals := 117 } : Room) s m ([.ref h_mm, .int n, .int what] : List Value).toArray below meth c H locs 0 0 Q (F0 m 95 ls []) := by
                intro  H locs ls hτ40 hP hD hS hl
                unfold F_X10_straight_j95 at hτ40
                refine lv_aload_n hx hb dX10_straight_95 rfl (lv_at hl 4 rfl) ?_
                refine va_get (D := E.1) (ci := 10) (v := .int s_mm_12_40) (C := RX10) (T := TX10) (N := 27) hx hb hts iX10_straight_X10 hown hE.1 hP 0 rfl rfl 12 (by decide) (hts (.fieldLink RX10 107 "BandBoatModel" "rudder" "I") (List.mem_of_getElem? (i := 2) rfl)) (fun _ h9 => h9) rfl dX10_straight_96 ?_
                refine lv_istore_n (lv' := [(3, .int s_mm_12_40), (6, .int y0_81), (5, .int x5_40), (4, .int x4_40), (0, .ref h_mm), (1, .int n), (2, .int what)]) hx hb dX10_straight_99 rfl hl (by decide) rfl (fun ls hl => ?_)
                refine lv_aload_n hx hb dX10_straight_100 rfl (lv_at hl 4 rfl) ?_
                refine va_get (D := E.1) (ci := 10) (v := .ref (a_mm 14)) (C := RX10) (T := TX10) (N := 27) hx hb hts iX10_straight_X10 hown hE.1 hP 0 rfl rfl 14 (by decide) (hts (.fieldLink RX10 19 "BandBoatModel" "run" "[I") (List.mem_of_getElem? (i := 3) rfl)) (fun _ h9 => h9) rfl dX10_straight_101 ?_
                refine lv_iconst (v := (4 : Int32)) hx hb dX10_straight_104 (by decide) ?_
                refine ar_ild (k := 4) (v := (g15 4)) hx hb hE hP 2 rfl (by unfold vp_in; decide) rfl rfl dX10_straight_105 ?_
                refine lv_istore (lv' := [(4, .int (g15 4)), (3, .int s_mm_12_40), (6, .int y0_81), (5, .int x5_40), (0, .ref h_mm), (1, .int n), (2, .int what)]) hx hb dX10_straight_106 hl (by decide) rfl (fun ls hl => ?_)
                refine lv_iload hx hb dX10_straight_108 (lv_at hl 2 rfl) ?_
                refine lv_istore (lv' := [(5, .int y0_81), (4, .int (g15 4)), (3, .int s_mm_12_40), (6, .int y0_81), (0, .ref h_mm), (1, .int n), (2, .int what)]) hx hb dX10_straight_110 hl (by decide) rfl (fun ls hl => ?_)
                exact hJ112 y0_81 (g15 4) s_mm_12_40 _ _ _ hτ40 hP hD hS (lv_sub hl [0, 1, 2, 3, 4, 5, 6] rfl)
              refine lv_if_lt (tgt := 95) hx hb dX10_straight_85 (by decide) (fun c85 => ?_) (fun c85 => ?_)
              · rw [if_pos c85] at hτ40
                exact hJ95 _ _ _ hτ40 hP hD hS (lv_sub hl [0, 1, 2, 3, 4, 5, 6] rfl)
              · rw [if_neg c85] at hτ40
                refine lv_iload hx hb dX10_straight_88 (lv_at hl 0 rfl) ?_
                refine lv_iload hx hb dX10_straight_90 (lv_at hl 1 rfl) ?_
                refine lv_icmp_ge (tgt := 112) hx hb dX10_straight_92 (by decide) (fun c92 => ?_) (fun c92 => ?_)
                · rw [if_pos c92] at hτ40
                  exact hJ112 x5_40 x4_40 x3_40 _ _ _ hτ40 hP hD hS (lv_sub hl [1, 2, 3, 0, 4, 5, 6] rfl)
                · rw [if_neg c92] at hτ40
                  exact hJ95 _ _ _ hτ40 hP hD hS (lv_sub hl [0, 1, 2, 3, 4, 5, 6] rfl)
            refine lv_if_ge (tgt := 75) hx hb dX10_straight_62 (by decide) (fun c62 => ?_) (fun c62 => ?_)
            · rw [if_pos c62] at hτ40
              refine lv_aload_n hx hb dX10_straight_75 rfl (lv_at hl 3 rfl) ?_
              refine va_get (D := E.1) (ci := 10) (v := .ref (a_mm 14)) (C := RX10) (T := TX10) (N := 27) hx hb hts iX10_straight_X10 hown hE.1 hP 0 rfl rfl 14 (by decide) (hts (.fieldLink RX10 19 "BandBoatModel" "run" "[I") (List.mem_of_getElem? (i := 3) rfl)) (fun _ h9 => h9) rfl dX10_straight_76 ?_
              refine lv_iconst (v := (4 : Int32)) hx hb dX10_straight_79 (by decide) ?_
              refine ar_ild (k := 4) (v := (g15 4)) hx hb hE hP 2 rfl (by unfold vp_in; decide) rfl rfl dX10_straight_80 ?_
              exact hJ81 (g15 4) _ _ _ hτ40 hP hD hS (lv_sub hl [0, 1, 2, 3, 4, 5] rfl)
            · rw [if_neg c62] at hτ40
              refine lv_aload_n hx hb dX10_straight_65 rfl (lv_at hl 3 rfl) ?_
              refine va_get (D := E.1) (ci := 10) (v := .ref (a_mm 14)) (C := RX10) (T := TX10) (N := 27) hx hb hts iX10_straight_X10 hown hE.1 hP 0 rfl rfl 14 (by decide) (hts (.fieldLink RX10 19 "BandBoatModel" "run" "[I") (List.mem_of_getElem? (i := 3) rfl)) (fun _ h9 => h9) rfl dX10_straight_66 ?_
              refine lv_iconst (v := (4 : Int32)) hx hb dX10_straight_69 (by decide) ?_
              refine ar_ild (k := 4) (v := (g15 4)) hx hb hE hP 2 rfl (by unfold vp_in; decide) rfl rfl dX10_straight_70 ?_
              refine lv_ineg hx hb dX10_straight_71 ?_
              refine lv_goto (tgt := 81) hx hb dX10_straight_72 (by decide) ?_
              exact hJ81 (-(g15 4)) _ _ _ hτ40 hP hD hS (lv_sub hl [0, 1, 2, 3, 4, 5] rfl)
      refine hL40 (21) (-1 : Int32) (0 : Int32) (0 : Int32) (mm 17) (mm 18) (mm 19) (mm 20) rn (0 : Int32) _ _ _ (by decide) hP hD hS (lv_sub hl [0, 1, 2, 3, 4, 5] rfl) ?_
      intro bx5_40 bx4_40 bs_mm_12_40 bs_mm_17_40 bs_mm_18_40 bs_mm_19_40 bs_mm_20_40 bg_rn_40 bx3_40 H locs ls he hP hD hS hl
      rw [he] at hρ
      have hρ : ρ = F_X10_straight_x40 what v3 v4 v5 v6 v7 v8 bx4_40 bs_mm_12_40 bs_mm_17_40 bs_mm_18_40 bs_mm_19_40 bs_mm_20_40 bg_rn_40 bx3_40 := hρ
      unfold F_X10_straight_x40 at hρ
      refine lv_iload_n hx hb dX10_straight_125 rfl (lv_at hl 5 rfl) ?_
      refine lv_if_ne (tgt := 133) hx hb dX10_straight_126 (by decide) (fun c126 => ?_) (fun c126 => ?_)
      · rw [if_neg c126] at hρ
        refine lv_iload hx hb dX10_straight_133 (lv_at hl 1 rfl) ?_
        refine lv_ldc (own := RX10) (v := (10000000 : Int32)) hx hb hown (hts (.constant RX10 162 (10000000)) (List.mem_of_getElem? (i := 4) rfl)) dX10_straight_135 ?_
        refine lv_iadd hx hb dX10_straight_137 ?_
        exact hq (bx4_40 + (10000000 : Int32)) ((0 : Int32), v3, v4, v5, v6, v7, v8, bs_mm_12_40, bs_mm_17_40, bs_mm_18_40, bs_mm_19_40, bs_mm_20_40, bg_rn_40) _ _ _ _ dX10_straight_138 rfl (hρ0.trans hρ) hP hD hS
      · rw [if_pos c126] at hρ
        refine lv_iload_n hx hb dX10_straight_129 rfl (lv_at hl 2 rfl) ?_
        refine lv_goto (tgt := 138) hx hb dX10_straight_130 (by decide) ?_
        exact hq bx3_40 ((0 : Int32), v3, v4, v5, v6, v7, v8, bs_mm_12_40, bs_mm_17_40, bs_mm_18_40, bs_mm_19_40, bs_mm_20_40, bg_rn_40) _ _ _ _ dX10_straight_138 rfl (hρ0.trans hρ) hP hD hS
    · rw [if_pos c18] at hρ
      refine lv_iconst (v := (-1 : Int32)) hx hb dX10_straight_21 (by decide) ?_
      exact hq (-1 : Int32) ((0 : Int32), (mm 6), (mm 7), (mm 8), (mm 9), (mm 10), (mm 11), (mm 12), (mm 17), (mm 18), (mm 19), (mm 20), rn) _ _ _ _ dX10_straight_22 rfl (hρ0.trans hρ) hP hD hS
theorem rg_step {s v b : Int32} (c : ¬ b ≤ s) (h : 1 ≤ s.toInt) (e : v = s + (1 : Int32)) : 1 ≤ v.toInt := by
  have hb := Int32.toInt_lt b
  have h1 := lt_nle c
  rw [e, i_add (by rw [i_one]; omega) (by rw [i_one]; omega), i_one]
  omega
theorem ne0_of {x : Int32} (h : 1 ≤ x.toInt) : ¬ x = 0 := by
  intro q
  rw [q, i_z] at h
  omega
theorem ten_l {x : Int32} (h : 1 ≤ x.toInt) (h2 : x.toInt ≤ 41) : ¬ ((10 : Int32) * x) = 0 := by
  have h10 : (10 : Int32).toInt = 10 := rfl
  exact ne0_of (by rw [i_mul (by rw [h10]; omega) (by rw [h10]; omega), h10]; omega)
theorem ten_p {x : Int32} (h : 1 ≤ x.toInt) (h2 : x.toInt ≤ 10) : ¬ ((10 : Int32) + (x * x)) = 0 := by
  have h10 : (10 : Int32).toInt = 10 := rfl
  have hm : 0 ≤ x.toInt * x.toInt ∧ x.toInt * x.toInt ≤ 10 * 10 := ⟨Int.mul_nonneg (by omega) (by omega), Int.mul_le_mul h2 h2 (by omega) (by omega)⟩
  have e : (x * x).toInt = x.toInt * x.toInt := i_mul (by omega) (by omega)
  exact ne0_of (by rw [i_add (by rw [h10, e]; omega) (by rw [h10, e]; omega), h10, e]; omega)
theorem an_in {w hi : Int32} {n : Nat} (c : ¬ F_X10_in w (0 : Int32) hi = 0) (h : hi.toInt < (n : Int)) : vp_in w n := by
  have := F_X10_in_ge c (a := 0) rfl rfl
  exact inb_i (by omega) (by omega)
def F_X10_best_k163 (v12 : Int32) (v13 : Int32) (v14 : Int32) (v15 : Int32) (g16 : Nat → Int32) (g_an_156 : Nat → Int32) (v17 : Int32) : (Int32 × Int32 × Int32 × Int32 × Int32 × (Nat → Int32) × (Nat → Int32)) ⊕ (Int32 × Int32 × Int32 × Int32 × Int32 × (Nat → Int32) × (Nat → Int32)) := Sum.inl (v17, v12, v13, v14, v15, g16, g_an_156)
def F_X10_best_j156 (s_mm_11_90 : Int32) (v12 : Int32) (v13 : Int32) (v14 : Int32) (v15 : Int32) (g16 : Nat → Int32) (g_an_156 : Nat → Int32) : (Int32 × Int32 × Int32 × Int32 × Int32 × (Nat → Int32) × (Nat → Int32)) ⊕ (Int32 × Int32 × Int32 × Int32 × Int32 × (Nat → Int32) × (Nat → Int32)) := F_X10_best_k163 v12 v13 v14 v15 g16 g_an_156 (s_mm_11_90 + (1 : Int32))
def F_X10_best_k102 (s_mm_9_49 : Int32) (s_mm_10_63 : Int32) (s_mm_11_90 : Int32) (g_an_90 : Nat → Int32) (r11 : Int32) (v12 : Int32) (v13 : Int32) (v14 : Int32) (v15 : Int32) (g16 : Nat → Int32) : (Int32 × Int32 × Int32 × Int32 × Int32 × (Nat → Int32) × (Nat → Int32)) ⊕ (Int32 × Int32 × Int32 × Int32 × Int32 × (Nat → Int32) × (Nat → Int32)) := (if r11 ≤ (g_an_90 0) then F_X10_best_j156 s_mm_11_90 v12 v13 v14 v15 g16 g_an_90 else F_X10_best_j156 s_mm_11_90 v12 v13 v14 v15 g16 (upd (upd (upd (upd g_an_90 0 r11) 1 s_mm_9_49) 2 s_mm_10_63) 3 s_mm_11_90))
def F_X10_best_b90 (mm : Nat → Int32) (bt : Nat → Int32) (n : Int32) (v4 : Int32) (v5 : Int32) (v6 : Int32) (v10 : Int32) (s_mm_9_49 : Int32) (s_mm_10_63 : Int32) (s_mm_11_90 : Int32) (s_mm_17_90 : Int32) (s_mm_18_90 : Int32) (s_mm_19_90 : Int32) (s_mm_20_90 : Int32) (g_rn_90 : Nat → Int32) (g_an_90 : Nat → Int32) : (Int32 × Int32 × Int32 × Int32 × Int32 × (Nat → Int32) × (Nat → Int32)) ⊕ (Int32 × Int32 × Int32 × Int32 × Int32 × (Nat → Int32) × (Nat → Int32)) := (if (10 : Int32) ≤ s_mm_11_90 then Sum.inr (s_mm_11_90, s_mm_17_90, s_mm_18_90, s_mm_19_90, s_mm_20_90, g_rn_90, g_an_90) else (match F_X10_placeOf (upd (upd (upd (upd (upd (upd (upd (upd (upd (upd (upd (upd mm 0 (0 : Int32)) 6 v4) 7 v5) 8 v6) 9 s_mm_9_49) 10 s_mm_10_63) 11 s_mm_11_90) 12 v10) 17 s_mm_17_90) 18 s_mm_18_90) 19 s_mm_19_90) 20 s_mm_20_90) bt g_rn_90 n (-1 : Int32) with | (r11, v12, v13, v14, v15, g16) => F_X10_best_k102 s_mm_9_49 s_mm_10_63 s_mm_11_90 g_an_90 r11 v12 v13 v14 v15 g16))
def F_X10_best_l90 (mm : Nat → Int32) (bt : Nat → Int32) (n : Int32) (v4 : Int32) (v5 : Int32) (v6 : Int32) (v10 : Int32) (s_mm_9_49 : Int32) (s_mm_10_63 : Int32) : Nat → (Int32) → (Int32) → (Int32) → (Int32) → (Int32) → (Nat → Int32) → (Nat → Int32) → Int32 × Int32 × Int32 × Int32 × Int32 × (Nat → Int32) × (Nat → Int32)
  | 0, s_mm_11_90, s_mm_17_90, s_mm_18_90, s_mm_19_90, s_mm_20_90, g_rn_90, g_an_90 => (s_mm_11_90, s_mm_17_90, s_mm_18_90, s_mm_19_90, s_mm_20_90, g_rn_90, g_an_90)
  | n_90 + 1, s_mm_11_90, s_mm_17_90, s_mm_18_90, s_mm_19_90, s_mm_20_90, g_rn_90, g_an_90 => match F_X10_best_b90 mm bt n v4 v5 v6 v10 s_mm_9_49 s_mm_10_63 s_mm_11_90 s_mm_17_90 s_mm_18_90 s_mm_19_90 s_mm_20_90 g_rn_90 g_an_90 with
    | Sum.inl (c_s_mm_11_90, c_s_mm_17_90, c_s_mm_18_90, c_s_mm_19_90, c_s_mm_20_90, c_g_rn_90, c_g_an_90) => F_X10_best_l90 mm bt n v4 v5 v6 v10 s_mm_9_49 s_mm_10_63 n_90 c_s_mm_11_90 c_s_mm_17_90 c_s_mm_18_90 c_s_mm_19_90 c_s_mm_20_90 c_g_rn_90 c_g_an_90
    | Sum.inr r_ => r_
def F_X10_best_k176 (bs_mm_11_90 : Int32) (bs_mm_17_90 : Int32) (bs_mm_18_90 : Int32) (bs_mm_19_90 : Int32) (bs_mm_20_90 : Int32) (bg_rn_90 : Nat → Int32) (bg_an_90 : Nat → Int32) (v18 : Int32) : (Int32 × Int32 × Int32 × Int32 × Int32 × Int32 × (Nat → Int32) × (Nat → Int32)) ⊕ (Int32 × Int32 × Int32 × Int32 × Int32 × Int32 × (Nat → Int32) × (Nat → Int32)) := Sum.inl (v18, bs_mm_11_90, bs_mm_17_90, bs_mm_18_90, bs_mm_19_90, bs_mm_20_90, bg_rn_90, bg_an_90)
def F_X10_best_x90 (s_mm_10_63 : Int32) (bs_mm_11_90 : Int32) (bs_mm_17_90 : Int32) (bs_mm_18_90 : Int32) (bs_mm_19_90 : Int32) (bs_mm_20_90 : Int32) (bg_rn_90 : Nat → Int32) (bg_an_90 : Nat → Int32) : (Int32 × Int32 × Int32 × Int32 × Int32 × Int32 × (Nat → Int32) × (Nat → Int32)) ⊕ (Int32 × Int32 × Int32 × Int32 × Int32 × Int32 × (Nat → Int32) × (Nat → Int32)) := F_X10_best_k176 bs_mm_11_90 bs_mm_17_90 bs_mm_18_90 bs_mm_19_90 bs_mm_20_90 bg_rn_90 bg_an_90 (s_mm_10_63 + (1 : Int32))
def F_X10_best_b63 (mm : Nat → Int32) (bt : Nat → Int32) (g : Int32) (n : Int32) (v4 : Int32) (v5 : Int32) (v6 : Int32) (v10 : Int32) (s_mm_9_49 : Int32) (s_mm_10_63 : Int32) (s_mm_11_63 : Int32) (s_mm_17_63 : Int32) (s_mm_18_63 : Int32) (s_mm_19_63 : Int32) (s_mm_20_63 : Int32) (g_rn_63 : Nat → Int32) (g_an_63 : Nat → Int32) : (Int32 × Int32 × Int32 × Int32 × Int32 × Int32 × (Nat → Int32) × (Nat → Int32)) ⊕ (Int32 × Int32 × Int32 × Int32 × Int32 × Int32 × (Nat → Int32) × (Nat → Int32)) := (if (41 : Int32) ≤ s_mm_10_63 then Sum.inr (s_mm_10_63, s_mm_11_63, s_mm_17_63, s_mm_18_63, s_mm_19_63, s_mm_20_63, g_rn_63, g_an_63) else (if g < (s_mm_9_49 * s_mm_10_63) then Sum.inr (s_mm_10_63, s_mm_11_63, s_mm_17_63, s_mm_18_63, s_mm_19_63, s_mm_20_63, g_rn_63, g_an_63) else (match F_X10_best_l90 mm bt n v4 v5 v6 v10 s_mm_9_49 s_mm_10_63 (9) (1 : Int32) s_mm_17_63 s_mm_18_63 s_mm_19_63 s_mm_20_63 g_rn_63 g_an_63 with | (bs_mm_11_90, bs_mm_17_90, bs_mm_18_90, bs_mm_19_90, bs_mm_20_90, bg_rn_90, bg_an_90) => F_X10_best_x90 s_mm_10_63 bs_mm_11_90 bs_mm_17_90 bs_mm_18_90 bs_mm_19_90 bs_mm_20_90 bg_rn_90 bg_an_90)))
def F_X10_best_l63 (mm : Nat → Int32) (bt : Nat → Int32) (g : Int32) (n : Int32) (v4 : Int32) (v5 : Int32) (v6 : Int32) (v10 : Int32) (s_mm_9_49 : Int32) : Nat → (Int32) → (Int32) → (Int32) → (Int32) → (Int32) → (Int32) → (Nat → Int32) → (Nat → Int32) → Int32 × Int32 × Int32 × Int32 × Int32 × Int32 × (Nat → Int32) × (Nat → Int32)
  | 0, s_mm_10_63, s_mm_11_63, s_mm_17_63, s_mm_18_63, s_mm_19_63, s_mm_20_63, g_rn_63, g_an_63 => (s_mm_10_63, s_mm_11_63, s_mm_17_63, s_mm_18_63, s_mm_19_63, s_mm_20_63, g_rn_63, g_an_63)
  | n_63 + 1, s_mm_10_63, s_mm_11_63, s_mm_17_63, s_mm_18_63, s_mm_19_63, s_mm_20_63, g_rn_63, g_an_63 => match F_X10_best_b63 mm bt g n v4 v5 v6 v10 s_mm_9_49 s_mm_10_63 s_mm_11_63 s_mm_17_63 s_mm_18_63 s_mm_19_63 s_mm_20_63 g_rn_63 g_an_63 with
    | Sum.inl (c_s_mm_10_63, c_s_mm_11_63, c_s_mm_17_63, c_s_mm_18_63, c_s_mm_19_63, c_s_mm_20_63, c_g_rn_63, c_g_an_63) => F_X10_best_l63 mm bt g n v4 v5 v6 v10 s_mm_9_49 n_63 c_s_mm_10_63 c_s_mm_11_63 c_s_mm_17_63 c_s_mm_18_63 c_s_mm_19_63 c_s_mm_20_63 c_g_rn_63 c_g_an_63
    | Sum.inr r_ => r_
def F_X10_best_k189 (bs_mm_10_63 : Int32) (bs_mm_11_63 : Int32) (bs_mm_17_63 : Int32) (bs_mm_18_63 : Int32) (bs_mm_19_63 : Int32) (bs_mm_20_63 : Int32) (bg_rn_63 : Nat → Int32) (bg_an_63 : Nat → Int32) (v19 : Int32) : (Int32 × Int32 × Int32 × Int32 × Int32 × Int32 × Int32 × (Nat → Int32) × (Nat → Int32)) ⊕ (Int32 × Int32 × Int32 × Int32 × Int32 × Int32 × Int32 × (Nat → Int32) × (Nat → Int32)) := Sum.inl (v19, bs_mm_10_63, bs_mm_11_63, bs_mm_17_63, bs_mm_18_63, bs_mm_19_63, bs_mm_20_63, bg_rn_63, bg_an_63)
def F_X10_best_x63 (s_mm_9_49 : Int32) (bs_mm_10_63 : Int32) (bs_mm_11_63 : Int32) (bs_mm_17_63 : Int32) (bs_mm_18_63 : Int32) (bs_mm_19_63 : Int32) (bs_mm_20_63 : Int32) (bg_rn_63 : Nat → Int32) (bg_an_63 : Nat → Int32) : (Int32 × Int32 × Int32 × Int32 × Int32 × Int32 × Int32 × (Nat → Int32) × (Nat → Int32)) ⊕ (Int32 × Int32 × Int32 × Int32 × Int32 × Int32 × Int32 × (Nat → Int32) × (Nat → Int32)) := F_X10_best_k189 bs_mm_10_63 bs_mm_11_63 bs_mm_17_63 bs_mm_18_63 bs_mm_19_63 bs_mm_20_63 bg_rn_63 bg_an_63 (s_mm_9_49 + (1 : Int32))
def F_X10_best_b49 (mm : Nat → Int32) (bt : Nat → Int32) (g : Int32) (n : Int32) (v4 : Int32) (v5 : Int32) (v6 : Int32) (v10 : Int32) (s_mm_9_49 : Int32) (s_mm_10_49 : Int32) (s_mm_11_49 : Int32) (s_mm_17_49 : Int32) (s_mm_18_49 : Int32) (s_mm_19_49 : Int32) (s_mm_20_49 : Int32) (g_rn_49 : Nat → Int32) (g_an_49 : Nat → Int32) : (Int32 × Int32 × Int32 × Int32 × Int32 × Int32 × Int32 × (Nat → Int32) × (Nat → Int32)) ⊕ (Int32 × Int32 × Int32 × Int32 × Int32 × Int32 × Int32 × (Nat → Int32) × (Nat → Int32)) := (if (9 : Int32) ≤ s_mm_9_49 then Sum.inr (s_mm_9_49, s_mm_10_49, s_mm_11_49, s_mm_17_49, s_mm_18_49, s_mm_19_49, s_mm_20_49, g_rn_49, g_an_49) else (match F_X10_best_l63 mm bt g n v4 v5 v6 v10 s_mm_9_49 (40) (1 : Int32) s_mm_11_49 s_mm_17_49 s_mm_18_49 s_mm_19_49 s_mm_20_49 g_rn_49 g_an_49 with | (bs_mm_10_63, bs_mm_11_63, bs_mm_17_63, bs_mm_18_63, bs_mm_19_63, bs_mm_20_63, bg_rn_63, bg_an_63) => F_X10_best_x63 s_mm_9_49 bs_mm_10_63 bs_mm_11_63 bs_mm_17_63 bs_mm_18_63 bs_mm_19_63 bs_mm_20_63 bg_rn_63 bg_an_63))
def F_X10_best_l49 (mm : Nat → Int32) (bt : Nat → Int32) (g : Int32) (n : Int32) (v4 : Int32) (v5 : Int32) (v6 : Int32) (v10 : Int32) : Nat → (Int32) → (Int32) → (Int32) → (Int32) → (Int32) → (Int32) → (Int32) → (Nat → Int32) → (Nat → Int32) → Int32 × Int32 × Int32 × Int32 × Int32 × Int32 × Int32 × (Nat → Int32) × (Nat → Int32)
  | 0, s_mm_9_49, s_mm_10_49, s_mm_11_49, s_mm_17_49, s_mm_18_49, s_mm_19_49, s_mm_20_49, g_rn_49, g_an_49 => (s_mm_9_49, s_mm_10_49, s_mm_11_49, s_mm_17_49, s_mm_18_49, s_mm_19_49, s_mm_20_49, g_rn_49, g_an_49)
  | n_49 + 1, s_mm_9_49, s_mm_10_49, s_mm_11_49, s_mm_17_49, s_mm_18_49, s_mm_19_49, s_mm_20_49, g_rn_49, g_an_49 => match F_X10_best_b49 mm bt g n v4 v5 v6 v10 s_mm_9_49 s_mm_10_49 s_mm_11_49 s_mm_17_49 s_mm_18_49 s_mm_19_49 s_mm_20_49 g_rn_49 g_an_49 with
    | Sum.inl (c_s_mm_9_49, c_s_mm_10_49, c_s_mm_11_49, c_s_mm_17_49, c_s_mm_18_49, c_s_mm_19_49, c_s_mm_20_49, c_g_rn_49, c_g_an_49) => F_X10_best_l49 mm bt g n v4 v5 v6 v10 n_49 c_s_mm_9_49 c_s_mm_10_49 c_s_mm_11_49 c_s_mm_17_49 c_s_mm_18_49 c_s_mm_19_49 c_s_mm_20_49 c_g_rn_49 c_g_an_49
    | Sum.inr r_ => r_
def F_X10_best_x49 (what : Int32) (v4 : Int32) (v5 : Int32) (v6 : Int32) (v10 : Int32) (bs_mm_9_49 : Int32) (bs_mm_10_49 : Int32) (bs_mm_11_49 : Int32) (bs_mm_17_49 : Int32) (bs_mm_18_49 : Int32) (bs_mm_19_49 : Int32) (bs_mm_20_49 : Int32) (bg_rn_49 : Nat → Int32) (bg_an_49 : Nat → Int32) : Int32 × Int32 × Int32 × Int32 × Int32 × Int32 × Int32 × Int32 × Int32 × Int32 × Int32 × Int32 × Int32 × (Nat → Int32) × (Nat → Int32) := ((bg_an_49 (Int32.toNatClampNeg what)), (0 : Int32), v4, v5, v6, bs_mm_9_49, bs_mm_10_49, bs_mm_11_49, v10, bs_mm_17_49, bs_mm_18_49, bs_mm_19_49, bs_mm_20_49, bg_rn_49, bg_an_49)
def F_X10_best_k34 (mm : Nat → Int32) (bt : Nat → Int32) (rn : Nat → Int32) (an : Nat → Int32) (g : Int32) (n : Int32) (what : Int32) (v4 : Int32) (v5 : Int32) (v6 : Int32) (v8 : Int32) (v9 : Int32) (v10 : Int32) : Int32 × Int32 × Int32 × Int32 × Int32 × Int32 × Int32 × Int32 × Int32 × Int32 × Int32 × Int32 × Int32 × (Nat → Int32) × (Nat → Int32) := (match F_X10_best_l49 mm bt g n v4 v5 v6 v10 (8) (1 : Int32) v8 v9 (mm 17) (mm 18) (mm 19) (mm 20) rn (upd an 0 (-1 : Int32)) with | (bs_mm_9_49, bs_mm_10_49, bs_mm_11_49, bs_mm_17_49, bs_mm_18_49, bs_mm_19_49, bs_mm_20_49, bg_rn_49, bg_an_49) => F_X10_best_x49 what v4 v5 v6 v10 bs_mm_9_49 bs_mm_10_49 bs_mm_11_49 bs_mm_17_49 bs_mm_18_49 bs_mm_19_49 bs_mm_20_49 bg_rn_49 bg_an_49)
def F_X10_best (mm : Nat → Int32) (bt : Nat → Int32) (rn : Nat → Int32) (an : Nat → Int32) (g : Int32) (n : Int32) (what : Int32) : Int32 × Int32 × Int32 × Int32 × Int32 × Int32 × Int32 × Int32 × Int32 × Int32 × Int32 × Int32 × Int32 × (Nat → Int32) × (Nat → Int32) := (if (F_X10_in g (1 : Int32) (99 : Int32)) = (0 : Int32) then ((-1 : Int32), (0 : Int32), (mm 6), (mm 7), (mm 8), (mm 9), (mm 10), (mm 11), (mm 12), (mm 17), (mm 18), (mm 19), (mm 20), rn, an) else (if (F_X10_areTurns n) = (0 : Int32) then ((-1 : Int32), (0 : Int32), (mm 6), (mm 7), (mm 8), (mm 9), (mm 10), (mm 11), (mm 12), (mm 17), (mm 18), (mm 19), (mm 20), rn, an) else (if (F_X10_in what (0 : Int32) (3 : Int32)) = (0 : Int32) then ((-1 : Int32), (0 : Int32), (mm 6), (mm 7), (mm 8), (mm 9), (mm 10), (mm 11), (mm 12), (mm 17), (mm 18), (mm 19), (mm 20), rn, an) else (match F_X10_asItIs bt with | (v4, v5, v6, v7, v8, v9, v10) => F_X10_best_k34 mm bt rn an g n what v4 v5 v6 v8 v9 v10))))
theorem iX10_best_X10 : ∀ w ∈ wsX100, w ∈ wsX10_best := fun _ h => List.mem_cons_of_mem _ (List.mem_append_right _ h)
set_option maxHeartbeats 4000000 in
set_option maxRecDepth 100000 in
theorem c_X10_best (l : Launch) (E : wV) (h_mm : Nat) (a_mm : Nat → Nat) (mm : Nat → Int32) (bt : Nat → Int32) (rn : Nat → Int32) (an : Nat → Int32) (g : Int32) (n : Int32) (what : Int32) (hB : btOK bt) : MetI l yX10_best wsX10_best ({ frames := 5, cells := 0, slots := 0, locals := 117 } : Room) E ([.ref h_mm, .int g, .int n, .int what] : List Value) [xModel h_mm a_mm mm, xI E (a_mm 5) 60 bt, xI E (a_mm 14) 6 rn, xI E (a_mm 26) 10 an] (fun (r : Int32) (u : Int32 × Int32 × Int32 × Int32 × Int32 × Int32 × Int32 × Int32 × Int32 × Int32 × Int32 × Int32 × (Nat → Int32) × (Nat → Int32)) => F_X10_best mm bt rn an g n what = (r, u)) (fun (u : Int32 × Int32 × Int32 × Int32 × Int32 × Int32 × Int32 × Int32 × Int32 × Int32 × Int32 × Int32 × (Nat → Int32) × (Nat → Int32)) => [xModel h_mm a_mm (upd (upd (upd (upd (upd (upd (upd (upd (upd (upd (upd (upd mm 0 u.1) 6 u.2.1) 7 u.2.2.1) 8 u.2.2.2.1) 9 u.2.2.2.2.1) 10 u.2.2.2.2.2.1) 11 u.2.2.2.2.2.2.1) 12 u.2.2.2.2.2.2.2.1) 17 u.2.2.2.2.2.2.2.2.1) 18 u.2.2.2.2.2.2.2.2.2.1) 19 u.2.2.2.2.2.2.2.2.2.2.1) 20 u.2.2.2.2.2.2.2.2.2.2.2.1), xI E (a_mm 5) 60 bt, xI E (a_mm 14) 6 u.2.2.2.2.2.2.2.2.2.2.2.2.1, xI E (a_mm 26) 10 u.2.2.2.2.2.2.2.2.2.2.2.2.2]) := by
  refine MetI.of (cc := cX10_best) (maxL := 5) (own := RX10) (by decide) rfl rfl (Nat.le_of_ble_eq_true rfl) ?_
  intro p e s m below meth c A Q ls cx hP hD hS hl hq
  obtain ⟨hx, hb, hml, hown, hts, hE, hA⟩ := id cx
  have hl : lv_has ls 5 [(0, .ref h_mm), (1, .int g), (2, .int n), (3, .int what)] := hl
  have hP : va_P E.1 vwCl [xModel h_mm a_mm mm, xI E (a_mm 5) 60 bt, xI E (a_mm 14) 6 rn, xI E (a_mm 26) 10 an] s.heap := hP
  obtain ⟨ρ, hρ0⟩ : ∃ ρ, F_X10_best mm bt rn an g n what = ρ := ⟨_, rfl⟩
  have hρ := hρ0.symm
  unfold F_X10_best at hρ
  refine lv_aload_n hx hb dX10_best_0 rfl (lv_at hl 0 rfl) ?_
  refine lv_iconst (v := (0 : Int32)) hx hb dX10_best_1 (by decide) ?_
  refine va_put (D := E.1) (ci := 10) (v := .int (0 : Int32)) (ty := .int) (C := RX10) (T := TX10) (N := 27) hx hb hts iX10_best_X10 tyX10 tyX10_ok nmX10 hown hE.1 hP hD hS 0 rfl rfl 0 (by decide) (hts (.fieldLink RX10 41 "BandBoatModel" "thrown" "I") (List.mem_of_getElem? (i := 1) rfl)) (fun _ h9 => h9) rfl (by decide +kernel) rfl rfl (Nat.le_of_ble_eq_true rfl) dX10_best_2 (fun H locs hP hD hS => ?_)
  have hP : va_P E.1 vwCl [xModel h_mm a_mm (upd mm 0 (0 : Int32)), xI E (a_mm 5) 60 bt, xI E (a_mm 14) 6 rn, xI E (a_mm 26) 10 an] H := hP
  have hD : va_D A [xModel h_mm a_mm (upd mm 0 (0 : Int32)), xI E (a_mm 5) 60 bt, xI E (a_mm 14) 6 rn, xI E (a_mm 26) 10 an] := hD
  refine lv_iload_n hx hb dX10_best_5 rfl (lv_at hl 1 rfl) ?_
  refine lv_iconst (v := (1 : Int32)) hx hb dX10_best_6 (by decide) ?_
  refine lv_bipush (v := (99 : Int32)) hx hb dX10_best_7 (by decide) ?_
  refine kI (wc := []) (wr := [xModel h_mm a_mm (upd mm 0 (0 : Int32)), xI E (a_mm 5) 60 bt, xI E (a_mm 14) 6 rn, xI E (a_mm 26) 10 an]) (wc' := (fun (_ : Unit) => [])) (wn := (fun (_ : Unit) => [xModel h_mm a_mm (upd mm 0 (0 : Int32)), xI E (a_mm 5) 60 bt, xI E (a_mm 14) 6 rn, xI E (a_mm 26) 10 an])) (isC := []) (isR := [0, 1, 2, 3]) (is2 := [0, 1, 2, 3]) cx hP hD hS ⟨rfl, rfl, by decide, by decide, by decide, by decide, fun _ => rfl⟩ (rS (As := [.int g, .int (1 : Int32), .int (99 : Int32)]) (rest := []) cx (c_X10_in l E g (1 : Int32) (99 : Int32) _) (va_cwS 3 hts gX10_best_X10_in rfl rfl rfl (by decide +kernel) ⟨Nat.le_of_ble_eq_true rfl, Nat.le_of_ble_eq_true rfl⟩) rfl hl.1 rfl (Nat.le_of_ble_eq_true rfl) dX10_best_9 ⟨Nat.zero_le _, Nat.zero_le _⟩) (fun r1 u H locs hw hP hD hS => ?_)
  subst hw
  refine lv_if_eq (tgt := 31) hx hb dX10_best_12 (by decide) (fun c12 => ?_) (fun c12 => ?_)
  · rw [if_pos c12] at hρ
    refine lv_iconst (v := (-1 : Int32)) hx hb dX10_best_31 (by decide) ?_
    exact hq (-1 : Int32) ((0 : Int32), (mm 6), (mm 7), (mm 8), (mm 9), (mm 10), (mm 11), (mm 12), (mm 17), (mm 18), (mm 19), (mm 20), rn, an) _ _ _ _ dX10_best_32 rfl (hρ0.trans hρ) hP hD hS
  · rw [if_neg c12] at hρ
    refine lv_iload_n hx hb dX10_best_15 rfl (lv_at hl 2 rfl) ?_
    refine kI (wc := []) (wr := [xModel h_mm a_mm (upd mm 0 (0 : Int32)), xI E (a_mm 5) 60 bt, xI E (a_mm 14) 6 rn, xI E (a_mm 26) 10 an]) (wc' := (fun (_ : Unit) => [])) (wn := (fun (_ : Unit) => [xModel h_mm a_mm (upd mm 0 (0 : Int32)), xI E (a_mm 5) 60 bt, xI E (a_mm 14) 6 rn, xI E (a_mm 26) 10 an])) (isC := []) (isR := [0, 1, 2, 3]) (is2 := [0, 1, 2, 3]) cx hP hD hS ⟨rfl, rfl, by decide, by decide, by decide, by decide, fun _ => rfl⟩ (rS (As := [.int n]) (rest := []) cx (c_X10_areTurns l E n _) (va_cwS 1 hts gX10_best_X10_areTurns rfl rfl rfl (by decide +kernel) ⟨Nat.le_of_ble_eq_true rfl, Nat.le_of_ble_eq_true rfl⟩) rfl hl.1 rfl (Nat.le_of_ble_eq_true rfl) dX10_best_16 ⟨Nat.zero_le _, Nat.zero_le _⟩) (fun r2 u H locs hw hP hD hS => ?_)
    subst hw
    refine lv_if_eq (tgt := 31) hx hb dX10_best_19 (by decide) (fun c19 => ?_) (fun c19 => ?_)
    · rw [if_pos c19] at hρ
      refine lv_iconst (v := (-1 : Int32)) hx hb dX10_best_31 (by decide) ?_
      exact hq (-1 : Int32) ((0 : Int32), (mm 6), (mm 7), (mm 8), (mm 9), (mm 10), (mm 11), (mm 12), (mm 17), (mm 18), (mm 19), (mm 20), rn, an) _ _ _ _ dX10_best_32 rfl (hρ0.trans hρ) hP hD hS
    · rw [if_neg c19] at hρ
      refine lv_iload_n hx hb dX10_best_22 rfl (lv_at hl 3 rfl) ?_
      refine lv_iconst (v := (0 : Int32)) hx hb dX10_best_23 (by decide) ?_
      refine lv_iconst (v := (3 : Int32)) hx hb dX10_best_24 (by decide) ?_
      refine kI (wc := []) (wr := [xModel h_mm a_mm (upd mm 0 (0 : Int32)), xI E (a_mm 5) 60 bt, xI E (a_mm 14) 6 rn, xI E (a_mm 26) 10 an]) (wc' := (fun (_ : Unit) => [])) (wn := (fun (_ : Unit) => [xModel h_mm a_mm (upd mm 0 (0 : Int32)), xI E (a_mm 5) 60 bt, xI E (a_mm 14) 6 rn, xI E (a_mm 26) 10 an])) (isC := []) (isR := [0, 1, 2, 3]) (is2 := [0, 1, 2, 3]) cx hP hD hS ⟨rfl, rfl, by decide, by decide, by decide, by decide, fun _ => rfl⟩ (rS (As := [.int what, .int (0 : Int32), .int (3 : Int32)]) (rest := []) cx (c_X10_in l E what (0 : Int32) (3 : Int32) _) (va_cwS 3 hts gX10_best_X10_in rfl rfl rfl (by decide +kernel) ⟨Nat.le_of_ble_eq_true rfl, Nat.le_of_ble_eq_true rfl⟩) rfl hl.1 rfl (Nat.le_of_ble_eq_true rfl) dX10_best_25 ⟨Nat.zero_le _, Nat.zero_le _⟩) (fun r3 u H locs hw hP hD hS => ?_)
      subst hw
      refine lv_if_ne (tgt := 33) hx hb dX10_best_28 (by decide) (fun c28 => ?_) (fun c28 => ?_)
      · rw [if_neg c28] at hρ
        refine lv_aload_n hx hb dX10_best_33 rfl (lv_at hl 0 rfl) ?_
        refine kV (wc := [xModel h_mm a_mm (upd mm 0 (0 : Int32)), xI E (a_mm 5) 60 bt]) (wr := [xI E (a_mm 14) 6 rn, xI E (a_mm 26) 10 an]) (wc' := (fun (u : Int32 × Int32 × Int32 × Int32 × Int32 × Int32 × Int32) => [xModel h_mm a_mm (upd (upd (upd (upd (upd (upd (upd (upd mm 0 (0 : Int32)) 6 u.1) 7 u.2.1) 8 u.2.2.1) 9 u.2.2.2.1) 10 u.2.2.2.2.1) 11 u.2.2.2.2.2.1) 12 u.2.2.2.2.2.2), xI E (a_mm 5) 60 bt])) (wn := (fun (u : Int32 × Int32 × Int32 × Int32 × Int32 × Int32 × Int32) => [xModel h_mm a_mm (upd (upd (upd (upd (upd (upd (upd (upd mm 0 (0 : Int32)) 6 u.1) 7 u.2.1) 8 u.2.2.1) 9 u.2.2.2.1) 10 u.2.2.2.2.1) 11 u.2.2.2.2.2.1) 12 u.2.2.2.2.2.2), xI E (a_mm 5) 60 bt, xI E (a_mm 14) 6 rn, xI E (a_mm 26) 10 an])) (isC := [0, 1]) (isR := [2, 3]) (is2 := [2, 3, 0, 1]) cx hP hD hS ⟨rfl, rfl, by decide, by decide, by decide, by decide, fun _ => rfl⟩ (rV (As := []) (rest := []) (C := RX10) (q0 := 0) (ci := 10) cx (c_X10_asItIs l E h_mm a_mm (upd mm 0 (0 : Int32)) bt (hB) _) (cwV 0 hts gX10_best_X10_asItIs rfl rfl rfl (by decide +kernel) ⟨Nat.le_of_ble_eq_true rfl, Nat.le_of_ble_eq_true rfl⟩) rfl rfl rfl rfl hl.1 rfl (Nat.le_of_ble_eq_true rfl) dX10_best_34 ⟨Nat.zero_le _, Nat.zero_le _⟩) (fun u H locs hw hP hD hS => ?_)
        obtain ⟨hw, hn34⟩ := hw
        obtain ⟨v4, v5, v6, v7, v8, v9, v10⟩ := u
        have hn34 : (v7) = (bt 17) ∧ (v8) = (bt 18) ∧ (v9) = (bt 19) := hn34
        have hP : va_P E.1 vwCl [xModel h_mm a_mm (upd (upd (upd (upd (upd (upd (upd (upd mm 0 (0 : Int32)) 6 v4) 7 v5) 8 v6) 9 v7) 10 v8) 11 v9) 12 v10), xI E (a_mm 5) 60 bt, xI E (a_mm 14) 6 rn, xI E (a_mm 26) 10 an] H := hP
        have hD : va_D A [xModel h_mm a_mm (upd (upd (upd (upd (upd (upd (upd (upd mm 0 (0 : Int32)) 6 v4) 7 v5) 8 v6) 9 v7) 10 v8) 11 v9) 12 v10), xI E (a_mm 5) 60 bt, xI E (a_mm 14) 6 rn, xI E (a_mm 26) 10 an] := hD
        have hw : F_X10_asItIs bt = (v4, v5, v6, v7, v8, v9, v10) := hw
        rw [hw] at hρ
        have hρ : ρ = F_X10_best_k34 mm bt rn an g n what v4 v5 v6 v8 v9 v10 := hρ
        unfold F_X10_best_k34 at hρ
        refine lv_aload_n hx hb dX10_best_37 rfl (lv_at hl 0 rfl) ?_
        refine va_get (D := E.1) (ci := 10) (v := .ref (a_mm 26)) (C := RX10) (T := TX10) (N := 27) hx hb hts iX10_best_X10 hown hE.1 hP 0 rfl rfl 26 (by decide) (hts (.fieldLink RX10 34 "BandBoatModel" "answer" "[I") (List.mem_of_getElem? (i := 2) rfl)) (fun _ h9 => h9) rfl dX10_best_38 ?_
        refine lv_iconst (v := (0 : Int32)) hx hb dX10_best_41 (by decide) ?_
        refine lv_iconst (v := (-1 : Int32)) hx hb dX10_best_42 (by decide) ?_
        refine ar_ist (k := 0) (ws' := [xModel h_mm a_mm (upd (upd (upd (upd (upd (upd (upd (upd mm 0 (0 : Int32)) 6 v4) 7 v5) 8 v6) 9 v7) 10 v8) 11 v9) 12 v10), xI E (a_mm 5) 60 bt, xI E (a_mm 14) 6 rn, xI E (a_mm 26) 10 (upd an 0 (-1 : Int32))]) hx hb hE hP hD hS 3 rfl (by unfold vp_in; decide) rfl rfl dX10_best_43 (fun H locs hP hD hS => ?_)
        refine lv_aload_n hx hb dX10_best_44 rfl (lv_at hl 0 rfl) ?_
        refine lv_iconst (v := (1 : Int32)) hx hb dX10_best_45 (by decide) ?_
        refine va_put (D := E.1) (ci := 10) (v := .int (1 : Int32)) (ty := .int) (C := RX10) (T := TX10) (N := 27) hx hb hts iX10_best_X10 tyX10 tyX10_ok nmX10 hown hE.1 hP hD hS 0 rfl rfl 9 (by decide) (hts (.fieldLink RX10 98 "BandBoatModel" "strands" "I") (List.mem_of_getElem? (i := 3) rfl)) (fun _ h9 => h9) rfl (by decide +kernel) rfl rfl (Nat.le_of_ble_eq_true rfl) dX10_best_46 (fun H locs hP hD hS => ?_)
        have hP : va_P E.1 vwCl [xModel h_mm a_mm (upd (upd (upd (upd (upd (upd (upd (upd mm 0 (0 : Int32)) 6 v4) 7 v5) 8 v6) 9 (1 : Int32)) 10 v8) 11 v9) 12 v10), xI E (a_mm 5) 60 bt, xI E (a_mm 14) 6 rn, xI E (a_mm 26) 10 (upd an 0 (-1 : Int32))] H := hP
        have hD : va_D A [xModel h_mm a_mm (upd (upd (upd (upd (upd (upd (upd (upd mm 0 (0 : Int32)) 6 v4) 7 v5) 8 v6) 9 (1 : Int32)) 10 v8) 11 v9) 12 v10), xI E (a_mm 5) 60 bt, xI E (a_mm 14) 6 rn, xI E (a_mm 26) 10 (upd an 0 (-1 : Int32))] := hD
        have hL49 : ∀ (n_49 : Nat) (s_mm_9_49 : Int32) (s_mm_10_49 : Int32) (s_mm_11_49 : Int32) (s_mm_17_49 : Int32) (s_mm_18_49 : Int32) (s_mm_19_49 : Int32) (s_mm_20_49 : Int32) (g_rn_49 : Nat → Int32) (g_an_49 : Nat → Int32) (H : Heap) (locs : List Loc) (ls : Array Slot), (((9 : Int32) : Int32).toInt ≤ (s_mm_9_49).toInt + (n_49 : Nat)) ∧ (1 ≤ (s_mm_9_49).toInt) → va_P E.1 vwCl [xModel h_mm a_mm (upd (upd (upd (upd (upd (upd (upd (upd (upd (upd (upd (upd mm 0 (0 : Int32)) 6 v4) 7 v5) 8 v6) 9 s_mm_9_49) 10 s_mm_10_49) 11 s_mm_11_49) 12 v10) 17 s_mm_17_49) 18 s_mm_18_49) 19 s_mm_19_49) 20 s_mm_20_49), xI E (a_mm 5) 60 bt, xI E (a_mm 14) 6 g_rn_49, xI E (a_mm 26) 10 g_an_49] H → va_D A [xModel h_mm a_mm (upd (upd (upd (upd (upd (upd (upd (upd (upd (upd (upd (upd mm 0 (0 : Int32)) 6 v4) 7 v5) 8 v6) 9 s_mm_9_49) 10 s_mm_10_49) 11 s_mm_11_49) 12 v10) 17 s_mm_17_49) 18 s_mm_18_49) 19 s_mm_19_49) 20 s_mm_20_49), xI E (a_mm 5) 60 bt, xI E (a_mm 14) 6 g_rn_49, xI E (a_mm 26) 10 g_an_49] → va_S A s.heap H locs → lv_has ls 5 [(0, .ref h_mm), (1, .int g), (2, .int n), (3, .int what)] → (∀ (os_mm_9_49 : Int32) (os_mm_10_49 : Int32) (os_mm_11_49 : Int32) (os_mm_17_49 : Int32) (os_mm_18_49 : Int32) (os_mm_19_49 : Int32) (os_mm_20_49 : Int32) (og_rn_49 : Nat → Int32) (og_an_49 : Nat → Int32) (H : Heap) (locs : List Loc) (ls : Array Slot), F_X10_best_l49 mm bt g n v4 v5 v6 v10 n_49 s_mm_9_49 s_mm_10_49 s_mm_11_49 s_mm_17_49 s_mm_18_49 s_mm_19_49 s_mm_20_49 g_rn_49 g_an_49 = (os_mm_9_49, os_mm_10_49, os_mm_11_49, os_mm_17_49, os_mm_18_49, os_mm_19_49, os_mm_20_49, og_rn_49, og_an_49) → va_P E.1 vwCl [xModel h_mm a_mm (upd (upd (upd (upd (upd (upd (upd (upd (upd (upd (upd (upd mm 0 (0 : Int32)) 6 v4) 7 v5) 8 v6) 9 os_mm_9_49) 10 os_mm_10_49) 11 os_mm_11_49) 12 v10) 17 os_mm_17_49) 18 os_mm_18_49) 19 os_mm_19_49) 20 os_mm_20_49), xI E (a_mm 5) 60 bt, xI E (a_mm 14) 6 og_rn_49, xI E (a_mm 26) 10 og_an_49] H → va_D A [xModel h_mm a_mm (upd (upd (upd (upd (upd (upd (upd (upd (upd (upd (upd (upd mm 0 (0 : Int32)) 6 v4) 7 v5) 8 v6) 9 os_mm_9_49) 10 os_mm_10_49) 11 os_mm_11_49) 12 v10) 17 os_mm_17_49) 18 os_mm_18_49) 19 os_mm_19_49) 20 os_mm_20_49), xI E (a_mm 5) 60 bt, xI E (a_mm 14) 6 og_rn_49, xI E (a_mm 26) 10 og_an_49] → va_S A s.heap H locs → lv_has ls 5 [(0, .ref h_mm), (1, .int g), (2, .int n), (3, .int what)] → W p l e ({ frames := 5, cells := 0, slots := 0, locals := 117 } : Room) s m ([.ref h_mm, .int g, .int n, .int what] : List Value).toArray below meth c H locs 0 0 Q (F0 m 195 ls [])) → W p l e ({ frames := 5, cells := 0, slots := 0, locals := 117 } : Room) s m ([.ref h_mm, .int g, .int n, .int what] : List Value).toArray below meth c H locs 0 0 Q (F0 m 49 ls []) := by
          intro n_49
          induction n_49 with
          | zero =>
            intro s_mm_9_49 s_mm_10_49 s_mm_11_49 s_mm_17_49 s_mm_18_49 s_mm_19_49 s_mm_20_49 g_rn_49 g_an_49 H locs ls hM hP hD hS hl hK
            have hM49 := hM
            obtain ⟨σ49, hσ049⟩ : ∃ σ, F_X10_best_l49 mm bt g n v4 v5 v6 v10 0 s_mm_9_49 s_mm_10_49 s_mm_11_49 s_mm_17_49 s_mm_18_49 s_mm_19_49 s_mm_20_49 g_rn_49 g_an_49 = σ := ⟨_, rfl⟩
            have hσ49 := hσ049.symm
            rw [F_X10_best_l49] at hσ49
            refine lv_aload_n hx hb dX10_best_49 rfl (lv_at hl 0 rfl) ?_
            refine va_get (D := E.1) (ci := 10) (v := .int s_mm_9_49) (C := RX10) (T := TX10) (N := 27) hx hb hts iX10_best_X10 hown hE.1 hP 0 rfl rfl 9 (by decide) (hts (.fieldLink RX10 98 "BandBoatModel" "strands" "I") (List.mem_of_getElem? (i := 3) rfl)) (fun _ h9 => h9) rfl dX10_best_50 ?_
            refine lv_bipush (v := (9 : Int32)) hx hb dX10_best_53 (by decide) ?_
            refine lv_icmp_ge (tgt := 195) hx hb dX10_best_55 (by decide) (fun c55 => ?_) (fun c55 => ?_)
            · exact hK s_mm_9_49 s_mm_10_49 s_mm_11_49 s_mm_17_49 s_mm_18_49 s_mm_19_49 s_mm_20_49 g_rn_49 g_an_49 _ _ _ (hσ049.trans hσ49) hP hD hS (lv_sub hl [0, 1, 2, 3] rfl)
            · exact (cnt_lt0 c55 hM.1).elim
          | succ n_49 ih =>
            intro s_mm_9_49 s_mm_10_49 s_mm_11_49 s_mm_17_49 s_mm_18_49 s_mm_19_49 s_mm_20_49 g_rn_49 g_an_49 H locs ls hM hP hD hS hl hK
            have hM49 := hM
            obtain ⟨σ49, hσ049⟩ : ∃ σ, F_X10_best_l49 mm bt g n v4 v5 v6 v10 (n_49 + 1) s_mm_9_49 s_mm_10_49 s_mm_11_49 s_mm_17_49 s_mm_18_49 s_mm_19_49 s_mm_20_49 g_rn_49 g_an_49 = σ := ⟨_, rfl⟩
            have hσ49 := hσ049.symm
            rw [F_X10_best_l49] at hσ49
            obtain ⟨τ49, hτ049⟩ : ∃ τ, F_X10_best_b49 mm bt g n v4 v5 v6 v10 s_mm_9_49 s_mm_10_49 s_mm_11_49 s_mm_17_49 s_mm_18_49 s_mm_19_49 s_mm_20_49 g_rn_49 g_an_49 = τ := ⟨_, rfl⟩
            rw [hτ049] at hσ49
            have hτ49 := hτ049.symm
            unfold F_X10_best_b49 at hτ49
            refine lv_aload_n hx hb dX10_best_49 rfl (lv_at hl 0 rfl) ?_
            refine va_get (D := E.1) (ci := 10) (v := .int s_mm_9_49) (C := RX10) (T := TX10) (N := 27) hx hb hts iX10_best_X10 hown hE.1 hP 0 rfl rfl 9 (by decide) (hts (.fieldLink RX10 98 "BandBoatModel" "strands" "I") (List.mem_of_getElem? (i := 3) rfl)) (fun _ h9 => h9) rfl dX10_best_50 ?_
            refine lv_bipush (v := (9 : Int32)) hx hb dX10_best_53 (by decide) ?_
            refine lv_icmp_ge (tgt := 195) hx hb dX10_best_55 (by decide) (fun c55 => ?_) (fun c55 => ?_)
            · rw [if_pos c55] at hτ49
              have hσ49 : σ49 = (s_mm_9_49, s_mm_10_49, s_mm_11_49, s_mm_17_49, s_mm_18_49, s_mm_19_49, s_mm_20_49, g_rn_49, g_an_49) := by subst hτ49; exact hσ49
              exact hK s_mm_9_49 s_mm_10_49 s_mm_11_49 s_mm_17_49 s_mm_18_49 s_mm_19_49 s_mm_20_49 g_rn_49 g_an_49 _ _ _ (hσ049.trans hσ49) hP hD hS (lv_sub hl [0, 1, 2, 3] rfl)
            · rw [if_neg c55] at hτ49
              refine lv_aload_n hx hb dX10_best_58 rfl (lv_at hl 0 rfl) ?_
              refine lv_iconst (v := (1 : Int32)) hx hb dX10_best_59 (by decide) ?_
              refine va_put (D := E.1) (ci := 10) (v := .int (1 : Int32)) (ty := .int) (C := RX10) (T := TX10) (N := 27) hx hb hts iX10_best_X10 tyX10 tyX10_ok nmX10 hown hE.1 hP hD hS 0 rfl rfl 10 (by decide) (hts (.fieldLink RX10 101 "BandBoatModel" "length" "I") (List.mem_of_getElem? (i := 4) rfl)) (fun _ h9 => h9) rfl (by decide +kernel) rfl rfl (Nat.le_of_ble_eq_true rfl) dX10_best_60 (fun H locs hP hD hS => ?_)
              have hP : va_P E.1 vwCl [xModel h_mm a_mm (upd (upd (upd (upd (upd (upd (upd (upd (upd (upd (upd (upd mm 0 (0 : Int32)) 6 v4) 7 v5) 8 v6) 9 s_mm_9_49) 10 (1 : Int32)) 11 s_mm_11_49) 12 v10) 17 s_mm_17_49) 18 s_mm_18_49) 19 s_mm_19_49) 20 s_mm_20_49), xI E (a_mm 5) 60 bt, xI E (a_mm 14) 6 g_rn_49, xI E (a_mm 26) 10 g_an_49] H := hP
              have hD : va_D A [xModel h_mm a_mm (upd (upd (upd (upd (upd (upd (upd (upd (upd (upd (upd (upd mm 0 (0 : Int32)) 6 v4) 7 v5) 8 v6) 9 s_mm_9_49) 10 (1 : Int32)) 11 s_mm_11_49) 12 v10) 17 s_mm_17_49) 18 s_mm_18_49) 19 s_mm_19_49) 20 s_mm_20_49), xI E (a_mm 5) 60 bt, xI E (a_mm 14) 6 g_rn_49, xI E (a_mm 26) 10 g_an_49] := hD
              have hL63 : ∀ (n_63 : Nat) (s_mm_10_63 : Int32) (s_mm_11_63 : Int32) (s_mm_17_63 : Int32) (s_mm_18_63 : Int32) (s_mm_19_63 : Int32) (s_mm_20_63 : Int32) (g_rn_63 : Nat → Int32) (g_an_63 : Nat → Int32) (H : Heap) (locs : List Loc) (ls : Array Slot), (((41 : Int32) : Int32).toInt ≤ (s_mm_10_63).toInt + (n_63 : Nat)) ∧ (1 ≤ (s_mm_10_63).toInt) → va_P E.1 vwCl [xModel h_mm a_mm (upd (upd (upd (upd (upd (upd (upd (upd (upd (upd (upd (upd mm 0 (0 : Int32)) 6 v4) 7 v5) 8 v6) 9 s_mm_9_49) 10 s_mm_10_63) 11 s_mm_11_63) 12 v10) 17 s_mm_17_63) 18 s_mm_18_63) 19 s_mm_19_63) 20 s_mm_20_63), xI E (a_mm 5) 60 bt, xI E (a_mm 14) 6 g_rn_63, xI E (a_mm 26) 10 g_an_63] H → va_D A [xModel h_mm a_mm (upd (upd (upd (upd (upd (upd (upd (upd (upd (upd (upd (upd mm 0 (0 : Int32)) 6 v4) 7 v5) 8 v6) 9 s_mm_9_49) 10 s_mm_10_63) 11 s_mm_11_63) 12 v10) 17 s_mm_17_63) 18 s_mm_18_63) 19 s_mm_19_63) 20 s_mm_20_63), xI E (a_mm 5) 60 bt, xI E (a_mm 14) 6 g_rn_63, xI E (a_mm 26) 10 g_an_63] → va_S A s.heap H locs → lv_has ls 5 [(0, .ref h_mm), (1, .int g), (2, .int n), (3, .int what)] → (∀ (os_mm_10_63 : Int32) (os_mm_11_63 : Int32) (os_mm_17_63 : Int32) (os_mm_18_63 : Int32) (os_mm_19_63 : Int32) (os_mm_20_63 : Int32) (og_rn_63 : Nat → Int32) (og_an_63 : Nat → Int32) (H : Heap) (locs : List Loc) (ls : Array Slot), F_X10_best_l63 mm bt g n v4 v5 v6 v10 s_mm_9_49 n_63 s_mm_10_63 s_mm_11_63 s_mm_17_63 s_mm_18_63 s_mm_19_63 s_mm_20_63 g_rn_63 g_an_63 = (os_mm_10_63, os_mm_11_63, os_mm_17_63, os_mm_18_63, os_mm_19_63, os_mm_20_63, og_rn_63, og_an_63) → va_P E.1 vwCl [xModel h_mm a_mm (upd (upd (upd (upd (upd (upd (upd (upd (upd (upd (upd (upd mm 0 (0 : Int32)) 6 v4) 7 v5) 8 v6) 9 s_mm_9_49) 10 os_mm_10_63) 11 os_mm_11_63) 12 v10) 17 os_mm_17_63) 18 os_mm_18_63) 19 os_mm_19_63) 20 os_mm_20_63), xI E (a_mm 5) 60 bt, xI E (a_mm 14) 6 og_rn_63, xI E (a_mm 26) 10 og_an_63] H → va_D A [xModel h_mm a_mm (upd (upd (upd (upd (upd (upd (upd (upd (upd (upd (upd (upd mm 0 (0 : Int32)) 6 v4) 7 v5) 8 v6) 9 s_mm_9_49) 10 os_mm_10_63) 11 os_mm_11_63) 12 v10) 17 os_mm_17_63) 18 os_mm_18_63) 19 os_mm_19_63) 20 os_mm_20_63), xI E (a_mm 5) 60 bt, xI E (a_mm 14) 6 og_rn_63, xI E (a_mm 26) 10 og_an_63] → va_S A s.heap H locs → lv_has ls 5 [(0, .ref h_mm), (1, .int g), (2, .int n), (3, .int what)] → W p l e ({ frames := 5, cells := 0, slots := 0, locals := 117 } : Room) s m ([.ref h_mm, .int g, .int n, .int what] : List Value).toArray below meth c H locs 0 0 Q (F0 m 182 ls [])) → W p l e ({ frames := 5, cells := 0, slots := 0, locals := 117 } : Room) s m ([.ref h_mm, .int g, .int n, .int what] : List Value).toArray below meth c H locs 0 0 Q (F0 m 63 ls []) := by
                intro n_63
                induction n_63 with
                | zero =>
                  intro s_mm_10_63 s_mm_11_63 s_mm_17_63 s_mm_18_63 s_mm_19_63 s_mm_20_63 g_rn_63 g_an_63 H locs ls hM hP hD hS hl hK
                  have hM63 := hM
                  obtain ⟨σ63, hσ063⟩ : ∃ σ, F_X10_best_l63 mm bt g n v4 v5 v6 v10 s_mm_9_49 0 s_mm_10_63 s_mm_11_63 s_mm_17_63 s_mm_18_63 s_mm_19_63 s_mm_20_63 g_rn_63 g_an_63 = σ := ⟨_, rfl⟩
                  have hσ63 := hσ063.symm
                  rw [F_X10_best_l63] at hσ63
                  refine lv_aload_n hx hb dX10_best_63 rfl (lv_at hl 0 rfl) ?_
                  refine va_get (D := E.1) (ci := 10) (v := .int s_mm_10_63) (C := RX10) (T := TX10) (N := 27) hx hb hts iX10_best_X10 hown hE.1 hP 0 rfl rfl 10 (by decide) (hts (.fieldLink RX10 101 "BandBoatModel" "length" "I") (List.mem_of_getElem? (i := 4) rfl)) (fun _ h9 => h9) rfl dX10_best_64 ?_
                  refine lv_bipush (v := (41 : Int32)) hx hb dX10_best_67 (by decide) ?_
                  refine lv_icmp_ge (tgt := 182) hx hb dX10_best_69 (by decide) (fun c69 => ?_) (fun c69 => ?_)
                  · exact hK s_mm_10_63 s_mm_11_63 s_mm_17_63 s_mm_18_63 s_mm_19_63 s_mm_20_63 g_rn_63 g_an_63 _ _ _ (hσ063.trans hσ63) hP hD hS (lv_sub hl [0, 1, 2, 3] rfl)
                  · exact (cnt_lt0 c69 hM.1).elim
                | succ n_63 ih =>
                  intro s_mm_10_63 s_mm_11_63 s_mm_17_63 s_mm_18_63 s_mm_19_63 s_mm_20_63 g_rn_63 g_an_63 H locs ls hM hP hD hS hl hK
                  have hM63 := hM
                  obtain ⟨σ63, hσ063⟩ : ∃ σ, F_X10_best_l63 mm bt g n v4 v5 v6 v10 s_mm_9_49 (n_63 + 1) s_mm_10_63 s_mm_11_63 s_mm_17_63 s_mm_18_63 s_mm_19_63 s_mm_20_63 g_rn_63 g_an_63 = σ := ⟨_, rfl⟩
                  have hσ63 := hσ063.symm
                  rw [F_X10_best_l63] at hσ63
                  obtain ⟨τ63, hτ063⟩ : ∃ τ, F_X10_best_b63 mm bt g n v4 v5 v6 v10 s_mm_9_49 s_mm_10_63 s_mm_11_63 s_mm_17_63 s_mm_18_63 s_mm_19_63 s_mm_20_63 g_rn_63 g_an_63 = τ := ⟨_, rfl⟩
                  rw [hτ063] at hσ63
                  have hτ63 := hτ063.symm
                  unfold F_X10_best_b63 at hτ63
                  refine lv_aload_n hx hb dX10_best_63 rfl (lv_at hl 0 rfl) ?_
                  refine va_get (D := E.1) (ci := 10) (v := .int s_mm_10_63) (C := RX10) (T := TX10) (N := 27) hx hb hts iX10_best_X10 hown hE.1 hP 0 rfl rfl 10 (by decide) (hts (.fieldLink RX10 101 "BandBoatModel" "length" "I") (List.mem_of_getElem? (i := 4) rfl)) (fun _ h9 => h9) rfl dX10_best_64 ?_
                  refine lv_bipush (v := (41 : Int32)) hx hb dX10_best_67 (by decide) ?_
                  refine lv_icmp_ge (tgt := 182) hx hb dX10_best_69 (by decide) (fun c69 => ?_) (fun c69 => ?_)
                  · rw [if_pos c69] at hτ63
                    have hσ63 : σ63 = (s_mm_10_63, s_mm_11_63, s_mm_17_63, s_mm_18_63, s_mm_19_63, s_mm_20_63, g_rn_63, g_an_63) := by subst hτ63; exact hσ63
                    exact hK s_mm_10_63 s_mm_11_63 s_mm_17_63 s_mm_18_63 s_mm_19_63 s_mm_20_63 g_rn_63 g_an_63 _ _ _ (hσ063.trans hσ63) hP hD hS (lv_sub hl [0, 1, 2, 3] rfl)
                  · rw [if_neg c69] at hτ63
                    refine lv_aload_n hx hb dX10_best_72 rfl (lv_at hl 0 rfl) ?_
                    refine va_get (D := E.1) (ci := 10) (v := .int s_mm_9_49) (C := RX10) (T := TX10) (N := 27) hx hb hts iX10_best_X10 hown hE.1 hP 0 rfl rfl 9 (by decide) (hts (.fieldLink RX10 98 "BandBoatModel" "strands" "I") (List.mem_of_getElem? (i := 3) rfl)) (fun _ h9 => h9) rfl dX10_best_73 ?_
                    refine lv_aload_n hx hb dX10_best_76 rfl (lv_at hl 0 rfl) ?_
                    refine va_get (D := E.1) (ci := 10) (v := .int s_mm_10_63) (C := RX10) (T := TX10) (N := 27) hx hb hts iX10_best_X10 hown hE.1 hP 0 rfl rfl 10 (by decide) (hts (.fieldLink RX10 101 "BandBoatModel" "length" "I") (List.mem_of_getElem? (i := 4) rfl)) (fun _ h9 => h9) rfl dX10_best_77 ?_
                    refine lv_imul hx hb dX10_best_80 ?_
                    refine lv_iload_n hx hb dX10_best_81 rfl (lv_at hl 1 rfl) ?_
                    refine lv_icmp_gt (tgt := 182) hx hb dX10_best_82 (by decide) (fun c82 => ?_) (fun c82 => ?_)
                    · rw [if_pos c82] at hτ63
                      have hσ63 : σ63 = (s_mm_10_63, s_mm_11_63, s_mm_17_63, s_mm_18_63, s_mm_19_63, s_mm_20_63, g_rn_63, g_an_63) := by subst hτ63; exact hσ63
                      exact hK s_mm_10_63 s_mm_11_63 s_mm_17_63 s_mm_18_63 s_mm_19_63 s_mm_20_63 g_rn_63 g_an_63 _ _ _ (hσ063.trans hσ63) hP hD hS (lv_sub hl [0, 1, 2, 3] rfl)
                    · rw [if_neg c82] at hτ63
                      refine lv_aload_n hx hb dX10_best_85 rfl (lv_at hl 0 rfl) ?_
                      refine lv_iconst (v := (1 : Int32)) hx hb dX10_best_86 (by decide) ?_
                      refine va_put (D := E.1) (ci := 10) (v := .int (1 : Int32)) (ty := .int) (C := RX10) (T := TX10) (N := 27) hx hb hts iX10_best_X10 tyX10 tyX10_ok nmX10 hown hE.1 hP hD hS 0 rfl rfl 11 (by decide) (hts (.fieldLink RX10 104 "BandBoatModel" "pitch" "I") (List.mem_of_getElem? (i := 5) rfl)) (fun _ h9 => h9) rfl (by decide +kernel) rfl rfl (Nat.le_of_ble_eq_true rfl) dX10_best_87 (fun H locs hP hD hS => ?_)
                      have hP : va_P E.1 vwCl [xModel h_mm a_mm (upd (upd (upd (upd (upd (upd (upd (upd (upd (upd (upd (upd mm 0 (0 : Int32)) 6 v4) 7 v5) 8 v6) 9 s_mm_9_49) 10 s_mm_10_63) 11 (1 : Int32)) 12 v10) 17 s_mm_17_63) 18 s_mm_18_63) 19 s_mm_19_63) 20 s_mm_20_63), xI E (a_mm 5) 60 bt, xI E (a_mm 14) 6 g_rn_63, xI E (a_mm 26) 10 g_an_63] H := hP
                      have hD : va_D A [xModel h_mm a_mm (upd (upd (upd (upd (upd (upd (upd (upd (upd (upd (upd (upd mm 0 (0 : Int32)) 6 v4) 7 v5) 8 v6) 9 s_mm_9_49) 10 s_mm_10_63) 11 (1 : Int32)) 12 v10) 17 s_mm_17_63) 18 s_mm_18_63) 19 s_mm_19_63) 20 s_mm_20_63), xI E (a_mm 5) 60 bt, xI E (a_mm 14) 6 g_rn_63, xI E (a_mm 26) 10 g_an_63] := hD
                      have hL90 : ∀ (n_90 : Nat) (s_mm_11_90 : Int32) (s_mm_17_90 : Int32) (s_mm_18_90 : Int32) (s_mm_19_90 : Int32) (s_mm_20_90 : Int32) (g_rn_90 : Nat → Int32) (g_an_90 : Nat → Int32) (H : Heap) (locs : List Loc) (ls : Array Slot), (((10 : Int32) : Int32).toInt ≤ (s_mm_11_90).toInt + (n_90 : Nat)) ∧ (1 ≤ (s_mm_11_90).toInt) → va_P E.1 vwCl [xModel h_mm a_mm (upd (upd (upd (upd (upd (upd (upd (upd (upd (upd (upd (upd mm 0 (0 : Int32)) 6 v4) 7 v5) 8 v6) 9 s_mm_9_49) 10 s_mm_10_63) 11 s_mm_11_90) 12 v10) 17 s_mm_17_90) 18 s_mm_18_90) 19 s_mm_19_90) 20 s_mm_20_90), xI E (a_mm 5) 60 bt, xI E (a_mm 14) 6 g_rn_90, xI E (a_mm 26) 10 g_an_90] H → va_D A [xModel h_mm a_mm (upd (upd (upd (upd (upd (upd (upd (upd (upd (upd (upd (upd mm 0 (0 : Int32)) 6 v4) 7 v5) 8 v6) 9 s_mm_9_49) 10 s_mm_10_63) 11 s_mm_11_90) 12 v10) 17 s_mm_17_90) 18 s_mm_18_90) 19 s_mm_19_90) 20 s_mm_20_90), xI E (a_mm 5) 60 bt, xI E (a_mm 14) 6 g_rn_90, xI E (a_mm 26) 10 g_an_90] → va_S A s.heap H locs → lv_has ls 5 [(0, .ref h_mm), (1, .int g), (2, .int n), (3, .int what)] → (∀ (os_mm_11_90 : Int32) (os_mm_17_90 : Int32) (os_mm_18_90 : Int32) (os_mm_19_90 : Int32) (os_mm_20_90 : Int32) (og_rn_90 : Nat → Int32) (og_an_90 : Nat → Int32) (H : Heap) (locs : List Loc) (ls : Array Slot), F_X10_best_l90 mm bt n v4 v5 v6 v10 s_mm_9_49 s_mm_10_63 n_90 s_mm_11_90 s_mm_17_90 s_mm_18_90 s_mm_19_90 s_mm_20_90 g_rn_90 g_an_90 = (os_mm_11_90, os_mm_17_90, os_mm_18_90, os_mm_19_90, os_mm_20_90, og_rn_90, og_an_90) → va_P E.1 vwCl [xModel h_mm a_mm (upd (upd (upd (upd (upd (upd (upd (upd (upd (upd (upd (upd mm 0 (0 : Int32)) 6 v4) 7 v5) 8 v6) 9 s_mm_9_49) 10 s_mm_10_63) 11 os_mm_11_90) 12 v10) 17 os_mm_17_90) 18 os_mm_18_90) 19 os_mm_19_90) 20 os_mm_20_90), xI E (a_mm 5) 60 bt, xI E (a_mm 14) 6 og_rn_90, xI E (a_mm 26) 10 og_an_90] H → va_D A [xModel h_mm a_mm (upd (upd (upd (upd (upd (upd (upd (upd (upd (upd (upd (upd mm 0 (0 : Int32)) 6 v4) 7 v5) 8 v6) 9 s_mm_9_49) 10 s_mm_10_63) 11 os_mm_11_90) 12 v10) 17 os_mm_17_90) 18 os_mm_18_90) 19 os_mm_19_90) 20 os_mm_20_90), xI E (a_mm 5) 60 bt, xI E (a_mm 14) 6 og_rn_90, xI E (a_mm 26) 10 og_an_90] → va_S A s.heap H locs → lv_has ls 5 [(0, .ref h_mm), (1, .int g), (2, .int n), (3, .int what)] → W p l e ({ frames := 5, cells := 0, slots := 0, locals := 117 } : Room) s m ([.ref h_mm, .int g, .int n, .int what] : List Value).toArray below meth c H locs 0 0 Q (F0 m 169 ls [])) → W p l e ({ frames := 5, cells := 0, slots := 0, locals := 117 } : Room) s m ([.ref h_mm, .int g, .int n, .int what] : List Value).toArray below meth c H locs 0 0 Q (F0 m 90 ls []) := by
                        intro n_90
                        induction n_90 with
                        | zero =>
                          intro s_mm_11_90 s_mm_17_90 s_mm_18_90 s_mm_19_90 s_mm_20_90 g_rn_90 g_an_90 H locs ls hM hP hD hS hl hK
                          have hM90 := hM
                          obtain ⟨σ90, hσ090⟩ : ∃ σ, F_X10_best_l90 mm bt n v4 v5 v6 v10 s_mm_9_49 s_mm_10_63 0 s_mm_11_90 s_mm_17_90 s_mm_18_90 s_mm_19_90 s_mm_20_90 g_rn_90 g_an_90 = σ := ⟨_, rfl⟩
                          have hσ90 := hσ090.symm
                          rw [F_X10_best_l90] at hσ90
                          refine lv_aload_n hx hb dX10_best_90 rfl (lv_at hl 0 rfl) ?_
                          refine va_get (D := E.1) (ci := 10) (v := .int s_mm_11_90) (C := RX10) (T := TX10) (N := 27) hx hb hts iX10_best_X10 hown hE.1 hP 0 rfl rfl 11 (by decide) (hts (.fieldLink RX10 104 "BandBoatModel" "pitch" "I") (List.mem_of_getElem? (i := 5) rfl)) (fun _ h9 => h9) rfl dX10_best_91 ?_
                          refine lv_bipush (v := (10 : Int32)) hx hb dX10_best_94 (by decide) ?_
                          refine lv_icmp_ge (tgt := 169) hx hb dX10_best_96 (by decide) (fun c96 => ?_) (fun c96 => ?_)
                          · exact hK s_mm_11_90 s_mm_17_90 s_mm_18_90 s_mm_19_90 s_mm_20_90 g_rn_90 g_an_90 _ _ _ (hσ090.trans hσ90) hP hD hS (lv_sub hl [0, 1, 2, 3] rfl)
                          · exact (cnt_lt0 c96 hM.1).elim
                        | succ n_90 ih =>
                          intro s_mm_11_90 s_mm_17_90 s_mm_18_90 s_mm_19_90 s_mm_20_90 g_rn_90 g_an_90 H locs ls hM hP hD hS hl hK
                          have hM90 := hM
                          obtain ⟨σ90, hσ090⟩ : ∃ σ, F_X10_best_l90 mm bt n v4 v5 v6 v10 s_mm_9_49 s_mm_10_63 (n_90 + 1) s_mm_11_90 s_mm_17_90 s_mm_18_90 s_mm_19_90 s_mm_20_90 g_rn_90 g_an_90 = σ := ⟨_, rfl⟩
                          have hσ90 := hσ090.symm
                          rw [F_X10_best_l90] at hσ90
                          obtain ⟨τ90, hτ090⟩ : ∃ τ, F_X10_best_b90 mm bt n v4 v5 v6 v10 s_mm_9_49 s_mm_10_63 s_mm_11_90 s_mm_17_90 s_mm_18_90 s_mm_19_90 s_mm_20_90 g_rn_90 g_an_90 = τ := ⟨_, rfl⟩
                          rw [hτ090] at hσ90
                          have hτ90 := hτ090.symm
                          unfold F_X10_best_b90 at hτ90
                          refine lv_aload_n hx hb dX10_best_90 rfl (lv_at hl 0 rfl) ?_
                          refine va_get (D := E.1) (ci := 10) (v := .int s_mm_11_90) (C := RX10) (T := TX10) (N := 27) hx hb hts iX10_best_X10 hown hE.1 hP 0 rfl rfl 11 (by decide) (hts (.fieldLink RX10 104 "BandBoatModel" "pitch" "I") (List.mem_of_getElem? (i := 5) rfl)) (fun _ h9 => h9) rfl dX10_best_91 ?_
                          refine lv_bipush (v := (10 : Int32)) hx hb dX10_best_94 (by decide) ?_
                          refine lv_icmp_ge (tgt := 169) hx hb dX10_best_96 (by decide) (fun c96 => ?_) (fun c96 => ?_)
                          · rw [if_pos c96] at hτ90
                            have hσ90 : σ90 = (s_mm_11_90, s_mm_17_90, s_mm_18_90, s_mm_19_90, s_mm_20_90, g_rn_90, g_an_90) := by subst hτ90; exact hσ90
                            exact hK s_mm_11_90 s_mm_17_90 s_mm_18_90 s_mm_19_90 s_mm_20_90 g_rn_90 g_an_90 _ _ _ (hσ090.trans hσ90) hP hD hS (lv_sub hl [0, 1, 2, 3] rfl)
                          · rw [if_neg c96] at hτ90
                            refine lv_aload_n hx hb dX10_best_99 rfl (lv_at hl 0 rfl) ?_
                            refine lv_iload_n hx hb dX10_best_100 rfl (lv_at hl 2 rfl) ?_
                            refine lv_iconst (v := (-1 : Int32)) hx hb dX10_best_101 (by decide) ?_
                            refine kI (wc := [xModel h_mm a_mm (upd (upd (upd (upd (upd (upd (upd (upd (upd (upd (upd (upd mm 0 (0 : Int32)) 6 v4) 7 v5) 8 v6) 9 s_mm_9_49) 10 s_mm_10_63) 11 s_mm_11_90) 12 v10) 17 s_mm_17_90) 18 s_mm_18_90) 19 s_mm_19_90) 20 s_mm_20_90), xI E (a_mm 5) 60 bt, xI E (a_mm 14) 6 g_rn_90]) (wr := [xI E (a_mm 26) 10 g_an_90]) (wc' := (fun (u : Int32 × Int32 × Int32 × Int32 × (Nat → Int32)) => [xModel h_mm a_mm (upd (upd (upd (upd (upd (upd (upd (upd (upd (upd (upd (upd (upd (upd (upd (upd mm 0 (0 : Int32)) 6 v4) 7 v5) 8 v6) 9 s_mm_9_49) 10 s_mm_10_63) 11 s_mm_11_90) 12 v10) 17 s_mm_17_90) 18 s_mm_18_90) 19 s_mm_19_90) 20 s_mm_20_90) 17 u.1) 18 u.2.1) 19 u.2.2.1) 20 u.2.2.2.1), xI E (a_mm 5) 60 bt, xI E (a_mm 14) 6 u.2.2.2.2])) (wn := (fun (u : Int32 × Int32 × Int32 × Int32 × (Nat → Int32)) => [xModel h_mm a_mm (upd (upd (upd (upd (upd (upd (upd (upd (upd (upd (upd (upd mm 0 (0 : Int32)) 6 v4) 7 v5) 8 v6) 9 s_mm_9_49) 10 s_mm_10_63) 11 s_mm_11_90) 12 v10) 17 u.1) 18 u.2.1) 19 u.2.2.1) 20 u.2.2.2.1), xI E (a_mm 5) 60 bt, xI E (a_mm 14) 6 u.2.2.2.2, xI E (a_mm 26) 10 g_an_90])) (isC := [0, 1, 2]) (isR := [3]) (is2 := [1, 2, 3, 0]) cx hP hD hS ⟨rfl, rfl, by decide, by decide, by decide, by decide, fun _ => rfl⟩ (rV (As := [.int n, .int (-1 : Int32)]) (rest := []) (C := RX10) (q0 := 0) (ci := 10) cx (c_X10_placeOf l E h_mm a_mm (upd (upd (upd (upd (upd (upd (upd (upd (upd (upd (upd (upd mm 0 (0 : Int32)) 6 v4) 7 v5) 8 v6) 9 s_mm_9_49) 10 s_mm_10_63) 11 s_mm_11_90) 12 v10) 17 s_mm_17_90) 18 s_mm_18_90) 19 s_mm_19_90) 20 s_mm_20_90) bt g_rn_90 n (-1 : Int32) (hB) (⟨ne0_of hM49.2, ten_l hM63.2 (by have h := lt_nle c69; have h41 : (41 : Int32).toInt = 41 := rfl; show (s_mm_10_63).toInt ≤ 41; omega), ten_p hM90.2 (by have h := lt_nle c96; have h10 : (10 : Int32).toInt = 10 := rfl; show (s_mm_11_90).toInt ≤ 10; omega)⟩) _) (cwV 2 hts gX10_best_X10_placeOf rfl rfl rfl (by decide +kernel) ⟨Nat.le_of_ble_eq_true rfl, Nat.le_of_ble_eq_true rfl⟩) rfl rfl rfl rfl hl.1 rfl (Nat.le_of_ble_eq_true rfl) dX10_best_102 ⟨Nat.zero_le _, Nat.zero_le _⟩) (fun r11 u H locs hw hP hD hS => ?_)
                            obtain ⟨v12, v13, v14, v15, g16⟩ := u
                            have hP : va_P E.1 vwCl [xModel h_mm a_mm (upd (upd (upd (upd (upd (upd (upd (upd (upd (upd (upd (upd mm 0 (0 : Int32)) 6 v4) 7 v5) 8 v6) 9 s_mm_9_49) 10 s_mm_10_63) 11 s_mm_11_90) 12 v10) 17 v12) 18 v13) 19 v14) 20 v15), xI E (a_mm 5) 60 bt, xI E (a_mm 14) 6 g16, xI E (a_mm 26) 10 g_an_90] H := hP
                            have hD : va_D A [xModel h_mm a_mm (upd (upd (upd (upd (upd (upd (upd (upd (upd (upd (upd (upd mm 0 (0 : Int32)) 6 v4) 7 v5) 8 v6) 9 s_mm_9_49) 10 s_mm_10_63) 11 s_mm_11_90) 12 v10) 17 v12) 18 v13) 19 v14) 20 v15), xI E (a_mm 5) 60 bt, xI E (a_mm 14) 6 g16, xI E (a_mm 26) 10 g_an_90] := hD
                            have hw : F_X10_placeOf (upd (upd (upd (upd (upd (upd (upd (upd (upd (upd (upd (upd mm 0 (0 : Int32)) 6 v4) 7 v5) 8 v6) 9 s_mm_9_49) 10 s_mm_10_63) 11 s_mm_11_90) 12 v10) 17 s_mm_17_90) 18 s_mm_18_90) 19 s_mm_19_90) 20 s_mm_20_90) bt g_rn_90 n (-1 : Int32) = (r11, v12, v13, v14, v15, g16) := hw
                            rw [hw] at hτ90
                            have hτ90 : τ90 = F_X10_best_k102 s_mm_9_49 s_mm_10_63 s_mm_11_90 g_an_90 r11 v12 v13 v14 v15 g16 := hτ90
                            unfold F_X10_best_k102 at hτ90
                            refine lv_istore (lv' := [(4, .int r11), (0, .ref h_mm), (1, .int g), (2, .int n), (3, .int what)]) hx hb dX10_best_105 hl (by decide) rfl (fun ls hl => ?_)
                            refine lv_iload hx hb dX10_best_107 (lv_at hl 0 rfl) ?_
                            refine lv_aload_n hx hb dX10_best_109 rfl (lv_at hl 1 rfl) ?_
                            refine va_get (D := E.1) (ci := 10) (v := .ref (a_mm 26)) (C := RX10) (T := TX10) (N := 27) hx hb hts iX10_best_X10 hown hE.1 hP 0 rfl rfl 26 (by decide) (hts (.fieldLink RX10 34 "BandBoatModel" "answer" "[I") (List.mem_of_getElem? (i := 2) rfl)) (fun _ h9 => h9) rfl dX10_best_110 ?_
                            refine lv_iconst (v := (0 : Int32)) hx hb dX10_best_113 (by decide) ?_
                            refine ar_ild (k := 0) (v := (g_an_90 0)) hx hb hE hP 3 rfl (by unfold vp_in; decide) rfl rfl dX10_best_114 ?_
                            have hJ156 : ∀ (g_an_156 : Nat → Int32) (H : Heap) (locs : List Loc) (ls : Array Slot), τ90 = F_X10_best_j156 s_mm_11_90 v12 v13 v14 v15 g16 g_an_156 → va_P E.1 vwCl [xModel h_mm a_mm (upd (upd (upd (upd (upd (upd (upd (upd (upd (upd (upd (upd mm 0 (0 : Int32)) 6 v4) 7 v5) 8 v6) 9 s_mm_9_49) 10 s_mm_10_63) 11 s_mm_11_90) 12 v10) 17 v12) 18 v13) 19 v14) 20 v15), xI E (a_mm 5) 60 bt, xI E (a_mm 14) 6 g16, xI E (a_mm 26) 10 g_an_156] H → va_D A [xModel h_mm a_mm (upd (upd (upd (upd (upd (upd (upd (upd (upd (upd (upd (upd mm 0 (0 : Int32)) 6 v4) 7 v5) 8 v6) 9 s_mm_9_49) 10 s_mm_10_63) 11 s_mm_11_90) 12 v10) 17 v12) 18 v13) 19 v14) 20 v15), xI E (a_mm 5) 60 bt, xI E (a_mm 14) 6 g16, xI E (a_mm 26) 10 g_an_156] → va_S A s.heap H locs → lv_has ls 5 [(4, .int r11), (0, .ref h_mm), (1, .int g), (2, .int n), (3, .int what)] → W p l e ({ frames := 5, cells := 0, slots := 0, locals := 117 } : Room) s m ([.ref h_mm, .int g, .int n, .int what] : List Value).toArray below meth c H locs 0 0 Q (F0 m 156 ls []) := by
                              intro g_an_156 H locs ls hτ90 hP hD hS hl
                              unfold F_X10_best_j156 at hτ90
                              refine lv_aload_n hx hb dX10_best_156 rfl (lv_at hl 1 rfl) ?_
                              refine lv_dup hx hb dX10_best_157 rfl ?_
                              refine va_get (D := E.1) (ci := 10) (v := .int s_mm_11_90) (C := RX10) (T := TX10) (N := 27) hx hb hts iX10_best_X10 hown hE.1 hP 0 rfl rfl 11 (by decide) (hts (.fieldLink RX10 104 "BandBoatModel" "pitch" "I") (List.mem_of_getElem? (i := 5) rfl)) (fun _ h9 => h9) rfl dX10_best_158 ?_
                              refine lv_iconst (v := (1 : Int32)) hx hb dX10_best_161 (by decide) ?_
                              refine lv_iadd hx hb dX10_best_162 ?_
                              refine lv_topi (fun v17 ev17 => ?_)
                              have hτ90 : τ90 = F_X10_best_k163 v12 v13 v14 v15 g16 g_an_156 v17 := by rw [ev17]; exact hτ90
                              unfold F_X10_best_k163 at hτ90
                              refine va_put (D := E.1) (ci := 10) (v := .int v17) (ty := .int) (C := RX10) (T := TX10) (N := 27) hx hb hts iX10_best_X10 tyX10 tyX10_ok nmX10 hown hE.1 hP hD hS 0 rfl rfl 11 (by decide) (hts (.fieldLink RX10 104 "BandBoatModel" "pitch" "I") (List.mem_of_getElem? (i := 5) rfl)) (fun _ h9 => h9) rfl (by decide +kernel) rfl rfl (Nat.le_of_ble_eq_true rfl) dX10_best_163 (fun H locs hP hD hS => ?_)
                              have hP : va_P E.1 vwCl [xModel h_mm a_mm (upd (upd (upd (upd (upd (upd (upd (upd (upd (upd (upd (upd mm 0 (0 : Int32)) 6 v4) 7 v5) 8 v6) 9 s_mm_9_49) 10 s_mm_10_63) 11 v17) 12 v10) 17 v12) 18 v13) 19 v14) 20 v15), xI E (a_mm 5) 60 bt, xI E (a_mm 14) 6 g16, xI E (a_mm 26) 10 g_an_156] H := hP
                              have hD : va_D A [xModel h_mm a_mm (upd (upd (upd (upd (upd (upd (upd (upd (upd (upd (upd (upd mm 0 (0 : Int32)) 6 v4) 7 v5) 8 v6) 9 s_mm_9_49) 10 s_mm_10_63) 11 v17) 12 v10) 17 v12) 18 v13) 19 v14) 20 v15), xI E (a_mm 5) 60 bt, xI E (a_mm 14) 6 g16, xI E (a_mm 26) 10 g_an_156] := hD
                              refine lv_goto (tgt := 90) hx hb dX10_best_166 (by decide) ?_
                              have hσ90 : σ90 = F_X10_best_l90 mm bt n v4 v5 v6 v10 s_mm_9_49 s_mm_10_63 n_90 v17 v12 v13 v14 v15 g16 g_an_156 := by subst hτ90; exact hσ90
                              exact ih v17 v12 v13 v14 v15 g16 g_an_156 _ _ _ ⟨by rw [ev17]; exact cnt_lt c96 hM90.1, rg_step c96 hM90.2 ev17⟩ hP hD hS (lv_sub hl [1, 2, 3, 4] rfl) (fun os_mm_11_90 os_mm_17_90 os_mm_18_90 os_mm_19_90 os_mm_20_90 og_rn_90 og_an_90 H locs ls he => hK os_mm_11_90 os_mm_17_90 os_mm_18_90 os_mm_19_90 os_mm_20_90 og_rn_90 og_an_90 H locs ls (hσ090.trans (hσ90.trans he)))
                            refine lv_icmp_le (tgt := 156) hx hb dX10_best_115 (by decide) (fun c115 => ?_) (fun c115 => ?_)
                            · rw [if_pos c115] at hτ90
                              exact hJ156 g_an_90 _ _ _ hτ90 hP hD hS (lv_sub hl [0, 1, 2, 3, 4] rfl)
                            · rw [if_neg c115] at hτ90
                              refine lv_aload_n hx hb dX10_best_118 rfl (lv_at hl 1 rfl) ?_
                              refine va_get (D := E.1) (ci := 10) (v := .ref (a_mm 26)) (C := RX10) (T := TX10) (N := 27) hx hb hts iX10_best_X10 hown hE.1 hP 0 rfl rfl 26 (by decide) (hts (.fieldLink RX10 34 "BandBoatModel" "answer" "[I") (List.mem_of_getElem? (i := 2) rfl)) (fun _ h9 => h9) rfl dX10_best_119 ?_
                              refine lv_iconst (v := (0 : Int32)) hx hb dX10_best_122 (by decide) ?_
                              refine lv_iload hx hb dX10_best_123 (lv_at hl 0 rfl) ?_
                              refine ar_ist (k := 0) (ws' := [xModel h_mm a_mm (upd (upd (upd (upd (upd (upd (upd (upd (upd (upd (upd (upd mm 0 (0 : Int32)) 6 v4) 7 v5) 8 v6) 9 s_mm_9_49) 10 s_mm_10_63) 11 s_mm_11_90) 12 v10) 17 v12) 18 v13) 19 v14) 20 v15), xI E (a_mm 5) 60 bt, xI E (a_mm 14) 6 g16, xI E (a_mm 26) 10 (upd g_an_90 0 r11)]) hx hb hE hP hD hS 3 rfl (by unfold vp_in; decide) rfl rfl dX10_best_125 (fun H locs hP hD hS => ?_)
                              refine lv_aload_n hx hb dX10_best_126 rfl (lv_at hl 1 rfl) ?_
                              refine va_get (D := E.1) (ci := 10) (v := .ref (a_mm 26)) (C := RX10) (T := TX10) (N := 27) hx hb hts iX10_best_X10 hown hE.1 hP 0 rfl rfl 26 (by decide) (hts (.fieldLink RX10 34 "BandBoatModel" "answer" "[I") (List.mem_of_getElem? (i := 2) rfl)) (fun _ h9 => h9) rfl dX10_best_127 ?_
                              refine lv_iconst (v := (1 : Int32)) hx hb dX10_best_130 (by decide) ?_
                              refine lv_aload_n hx hb dX10_best_131 rfl (lv_at hl 1 rfl) ?_
                              refine va_get (D := E.1) (ci := 10) (v := .int s_mm_9_49) (C := RX10) (T := TX10) (N := 27) hx hb hts iX10_best_X10 hown hE.1 hP 0 rfl rfl 9 (by decide) (hts (.fieldLink RX10 98 "BandBoatModel" "strands" "I") (List.mem_of_getElem? (i := 3) rfl)) (fun _ h9 => h9) rfl dX10_best_132 ?_
                              refine ar_ist (k := 1) (ws' := [xModel h_mm a_mm (upd (upd (upd (upd (upd (upd (upd (upd (upd (upd (upd (upd mm 0 (0 : Int32)) 6 v4) 7 v5) 8 v6) 9 s_mm_9_49) 10 s_mm_10_63) 11 s_mm_11_90) 12 v10) 17 v12) 18 v13) 19 v14) 20 v15), xI E (a_mm 5) 60 bt, xI E (a_mm 14) 6 g16, xI E (a_mm 26) 10 (upd (upd g_an_90 0 r11) 1 s_mm_9_49)]) hx hb hE hP hD hS 3 rfl (by unfold vp_in; decide) rfl rfl dX10_best_135 (fun H locs hP hD hS => ?_)
                              refine lv_aload_n hx hb dX10_best_136 rfl (lv_at hl 1 rfl) ?_
                              refine va_get (D := E.1) (ci := 10) (v := .ref (a_mm 26)) (C := RX10) (T := TX10) (N := 27) hx hb hts iX10_best_X10 hown hE.1 hP 0 rfl rfl 26 (by decide) (hts (.fieldLink RX10 34 "BandBoatModel" "answer" "[I") (List.mem_of_getElem? (i := 2) rfl)) (fun _ h9 => h9) rfl dX10_best_137 ?_
                              refine lv_iconst (v := (2 : Int32)) hx hb dX10_best_140 (by decide) ?_
                              refine lv_aload_n hx hb dX10_best_141 rfl (lv_at hl 1 rfl) ?_
                              refine va_get (D := E.1) (ci := 10) (v := .int s_mm_10_63) (C := RX10) (T := TX10) (N := 27) hx hb hts iX10_best_X10 hown hE.1 hP 0 rfl rfl 10 (by decide) (hts (.fieldLink RX10 101 "BandBoatModel" "length" "I") (List.mem_of_getElem? (i := 4) rfl)) (fun _ h9 => h9) rfl dX10_best_142 ?_
                              refine ar_ist (k := 2) (ws' := [xModel h_mm a_mm (upd (upd (upd (upd (upd (upd (upd (upd (upd (upd (upd (upd mm 0 (0 : Int32)) 6 v4) 7 v5) 8 v6) 9 s_mm_9_49) 10 s_mm_10_63) 11 s_mm_11_90) 12 v10) 17 v12) 18 v13) 19 v14) 20 v15), xI E (a_mm 5) 60 bt, xI E (a_mm 14) 6 g16, xI E (a_mm 26) 10 (upd (upd (upd g_an_90 0 r11) 1 s_mm_9_49) 2 s_mm_10_63)]) hx hb hE hP hD hS 3 rfl (by unfold vp_in; decide) rfl rfl dX10_best_145 (fun H locs hP hD hS => ?_)
                              refine lv_aload_n hx hb dX10_best_146 rfl (lv_at hl 1 rfl) ?_
                              refine va_get (D := E.1) (ci := 10) (v := .ref (a_mm 26)) (C := RX10) (T := TX10) (N := 27) hx hb hts iX10_best_X10 hown hE.1 hP 0 rfl rfl 26 (by decide) (hts (.fieldLink RX10 34 "BandBoatModel" "answer" "[I") (List.mem_of_getElem? (i := 2) rfl)) (fun _ h9 => h9) rfl dX10_best_147 ?_
                              refine lv_iconst (v := (3 : Int32)) hx hb dX10_best_150 (by decide) ?_
                              refine lv_aload_n hx hb dX10_best_151 rfl (lv_at hl 1 rfl) ?_
                              refine va_get (D := E.1) (ci := 10) (v := .int s_mm_11_90) (C := RX10) (T := TX10) (N := 27) hx hb hts iX10_best_X10 hown hE.1 hP 0 rfl rfl 11 (by decide) (hts (.fieldLink RX10 104 "BandBoatModel" "pitch" "I") (List.mem_of_getElem? (i := 5) rfl)) (fun _ h9 => h9) rfl dX10_best_152 ?_
                              refine ar_ist (k := 3) (ws' := [xModel h_mm a_mm (upd (upd (upd (upd (upd (upd (upd (upd (upd (upd (upd (upd mm 0 (0 : Int32)) 6 v4) 7 v5) 8 v6) 9 s_mm_9_49) 10 s_mm_10_63) 11 s_mm_11_90) 12 v10) 17 v12) 18 v13) 19 v14) 20 v15), xI E (a_mm 5) 60 bt, xI E (a_mm 14) 6 g16, xI E (a_mm 26) 10 (upd (upd (upd (upd g_an_90 0 r11) 1 s_mm_9_49) 2 s_mm_10_63) 3 s_mm_11_90)]) hx hb hE hP hD hS 3 rfl (by unfold vp_in; decide) rfl rfl dX10_best_155 (fun H locs hP hD hS => ?_)
                              exact hJ156 (upd (upd (upd (upd g_an_90 0 r11) 1 s_mm_9_49) 2 s_mm_10_63) 3 s_mm_11_90) _ _ _ hτ90 hP hD hS (lv_sub hl [0, 1, 2, 3, 4] rfl)
                      refine hL90 (9) (1 : Int32) s_mm_17_63 s_mm_18_63 s_mm_19_63 s_mm_20_63 g_rn_63 g_an_63 _ _ _ (by decide) hP hD hS (lv_sub hl [0, 1, 2, 3] rfl) ?_
                      intro bs_mm_11_90 bs_mm_17_90 bs_mm_18_90 bs_mm_19_90 bs_mm_20_90 bg_rn_90 bg_an_90 H locs ls he hP hD hS hl
                      rw [he] at hτ63
                      have hτ63 : τ63 = F_X10_best_x90 s_mm_10_63 bs_mm_11_90 bs_mm_17_90 bs_mm_18_90 bs_mm_19_90 bs_mm_20_90 bg_rn_90 bg_an_90 := hτ63
                      unfold F_X10_best_x90 at hτ63
                      refine lv_aload_n hx hb dX10_best_169 rfl (lv_at hl 0 rfl) ?_
                      refine lv_dup hx hb dX10_best_170 rfl ?_
                      refine va_get (D := E.1) (ci := 10) (v := .int s_mm_10_63) (C := RX10) (T := TX10) (N := 27) hx hb hts iX10_best_X10 hown hE.1 hP 0 rfl rfl 10 (by decide) (hts (.fieldLink RX10 101 "BandBoatModel" "length" "I") (List.mem_of_getElem? (i := 4) rfl)) (fun _ h9 => h9) rfl dX10_best_171 ?_
                      refine lv_iconst (v := (1 : Int32)) hx hb dX10_best_174 (by decide) ?_
                      refine lv_iadd hx hb dX10_best_175 ?_
                      refine lv_topi (fun v18 ev18 => ?_)
                      have hτ63 : τ63 = F_X10_best_k176 bs_mm_11_90 bs_mm_17_90 bs_mm_18_90 bs_mm_19_90 bs_mm_20_90 bg_rn_90 bg_an_90 v18 := by rw [ev18]; exact hτ63
                      unfold F_X10_best_k176 at hτ63
                      refine va_put (D := E.1) (ci := 10) (v := .int v18) (ty := .int) (C := RX10) (T := TX10) (N := 27) hx hb hts iX10_best_X10 tyX10 tyX10_ok nmX10 hown hE.1 hP hD hS 0 rfl rfl 10 (by decide) (hts (.fieldLink RX10 101 "BandBoatModel" "length" "I") (List.mem_of_getElem? (i := 4) rfl)) (fun _ h9 => h9) rfl (by decide +kernel) rfl rfl (Nat.le_of_ble_eq_true rfl) dX10_best_176 (fun H locs hP hD hS => ?_)
                      have hP : va_P E.1 vwCl [xModel h_mm a_mm (upd (upd (upd (upd (upd (upd (upd (upd (upd (upd (upd (upd mm 0 (0 : Int32)) 6 v4) 7 v5) 8 v6) 9 s_mm_9_49) 10 v18) 11 bs_mm_11_90) 12 v10) 17 bs_mm_17_90) 18 bs_mm_18_90) 19 bs_mm_19_90) 20 bs_mm_20_90), xI E (a_mm 5) 60 bt, xI E (a_mm 14) 6 bg_rn_90, xI E (a_mm 26) 10 bg_an_90] H := hP
                      have hD : va_D A [xModel h_mm a_mm (upd (upd (upd (upd (upd (upd (upd (upd (upd (upd (upd (upd mm 0 (0 : Int32)) 6 v4) 7 v5) 8 v6) 9 s_mm_9_49) 10 v18) 11 bs_mm_11_90) 12 v10) 17 bs_mm_17_90) 18 bs_mm_18_90) 19 bs_mm_19_90) 20 bs_mm_20_90), xI E (a_mm 5) 60 bt, xI E (a_mm 14) 6 bg_rn_90, xI E (a_mm 26) 10 bg_an_90] := hD
                      refine lv_goto (tgt := 63) hx hb dX10_best_179 (by decide) ?_
                      have hσ63 : σ63 = F_X10_best_l63 mm bt g n v4 v5 v6 v10 s_mm_9_49 n_63 v18 bs_mm_11_90 bs_mm_17_90 bs_mm_18_90 bs_mm_19_90 bs_mm_20_90 bg_rn_90 bg_an_90 := by subst hτ63; exact hσ63
                      exact ih v18 bs_mm_11_90 bs_mm_17_90 bs_mm_18_90 bs_mm_19_90 bs_mm_20_90 bg_rn_90 bg_an_90 _ _ _ ⟨by rw [ev18]; exact cnt_lt c69 hM63.1, rg_step c69 hM63.2 ev18⟩ hP hD hS (lv_sub hl [0, 1, 2, 3] rfl) (fun os_mm_10_63 os_mm_11_63 os_mm_17_63 os_mm_18_63 os_mm_19_63 os_mm_20_63 og_rn_63 og_an_63 H locs ls he => hK os_mm_10_63 os_mm_11_63 os_mm_17_63 os_mm_18_63 os_mm_19_63 os_mm_20_63 og_rn_63 og_an_63 H locs ls (hσ063.trans (hσ63.trans he)))
              refine hL63 (40) (1 : Int32) s_mm_11_49 s_mm_17_49 s_mm_18_49 s_mm_19_49 s_mm_20_49 g_rn_49 g_an_49 _ _ _ (by decide) hP hD hS (lv_sub hl [0, 1, 2, 3] rfl) ?_
              intro bs_mm_10_63 bs_mm_11_63 bs_mm_17_63 bs_mm_18_63 bs_mm_19_63 bs_mm_20_63 bg_rn_63 bg_an_63 H locs ls he hP hD hS hl
              rw [he] at hτ49
              have hτ49 : τ49 = F_X10_best_x63 s_mm_9_49 bs_mm_10_63 bs_mm_11_63 bs_mm_17_63 bs_mm_18_63 bs_mm_19_63 bs_mm_20_63 bg_rn_63 bg_an_63 := hτ49
              unfold F_X10_best_x63 at hτ49
              refine lv_aload_n hx hb dX10_best_182 rfl (lv_at hl 0 rfl) ?_
              refine lv_dup hx hb dX10_best_183 rfl ?_
              refine va_get (D := E.1) (ci := 10) (v := .int s_mm_9_49) (C := RX10) (T := TX10) (N := 27) hx hb hts iX10_best_X10 hown hE.1 hP 0 rfl rfl 9 (by decide) (hts (.fieldLink RX10 98 "BandBoatModel" "strands" "I") (List.mem_of_getElem? (i := 3) rfl)) (fun _ h9 => h9) rfl dX10_best_184 ?_
              refine lv_iconst (v := (1 : Int32)) hx hb dX10_best_187 (by decide) ?_
              refine lv_iadd hx hb dX10_best_188 ?_
              refine lv_topi (fun v19 ev19 => ?_)
              have hτ49 : τ49 = F_X10_best_k189 bs_mm_10_63 bs_mm_11_63 bs_mm_17_63 bs_mm_18_63 bs_mm_19_63 bs_mm_20_63 bg_rn_63 bg_an_63 v19 := by rw [ev19]; exact hτ49
              unfold F_X10_best_k189 at hτ49
              refine va_put (D := E.1) (ci := 10) (v := .int v19) (ty := .int) (C := RX10) (T := TX10) (N := 27) hx hb hts iX10_best_X10 tyX10 tyX10_ok nmX10 hown hE.1 hP hD hS 0 rfl rfl 9 (by decide) (hts (.fieldLink RX10 98 "BandBoatModel" "strands" "I") (List.mem_of_getElem? (i := 3) rfl)) (fun _ h9 => h9) rfl (by decide +kernel) rfl rfl (Nat.le_of_ble_eq_true rfl) dX10_best_189 (fun H locs hP hD hS => ?_)
              have hP : va_P E.1 vwCl [xModel h_mm a_mm (upd (upd (upd (upd (upd (upd (upd (upd (upd (upd (upd (upd mm 0 (0 : Int32)) 6 v4) 7 v5) 8 v6) 9 v19) 10 bs_mm_10_63) 11 bs_mm_11_63) 12 v10) 17 bs_mm_17_63) 18 bs_mm_18_63) 19 bs_mm_19_63) 20 bs_mm_20_63), xI E (a_mm 5) 60 bt, xI E (a_mm 14) 6 bg_rn_63, xI E (a_mm 26) 10 bg_an_63] H := hP
              have hD : va_D A [xModel h_mm a_mm (upd (upd (upd (upd (upd (upd (upd (upd (upd (upd (upd (upd mm 0 (0 : Int32)) 6 v4) 7 v5) 8 v6) 9 v19) 10 bs_mm_10_63) 11 bs_mm_11_63) 12 v10) 17 bs_mm_17_63) 18 bs_mm_18_63) 19 bs_mm_19_63) 20 bs_mm_20_63), xI E (a_mm 5) 60 bt, xI E (a_mm 14) 6 bg_rn_63, xI E (a_mm 26) 10 bg_an_63] := hD
              refine lv_goto (tgt := 49) hx hb dX10_best_192 (by decide) ?_
              have hσ49 : σ49 = F_X10_best_l49 mm bt g n v4 v5 v6 v10 n_49 v19 bs_mm_10_63 bs_mm_11_63 bs_mm_17_63 bs_mm_18_63 bs_mm_19_63 bs_mm_20_63 bg_rn_63 bg_an_63 := by subst hτ49; exact hσ49
              exact ih v19 bs_mm_10_63 bs_mm_11_63 bs_mm_17_63 bs_mm_18_63 bs_mm_19_63 bs_mm_20_63 bg_rn_63 bg_an_63 _ _ _ ⟨by rw [ev19]; exact cnt_lt c55 hM49.1, rg_step c55 hM49.2 ev19⟩ hP hD hS (lv_sub hl [0, 1, 2, 3] rfl) (fun os_mm_9_49 os_mm_10_49 os_mm_11_49 os_mm_17_49 os_mm_18_49 os_mm_19_49 os_mm_20_49 og_rn_49 og_an_49 H locs ls he => hK os_mm_9_49 os_mm_10_49 os_mm_11_49 os_mm_17_49 os_mm_18_49 os_mm_19_49 os_mm_20_49 og_rn_49 og_an_49 H locs ls (hσ049.trans (hσ49.trans he)))
        refine hL49 (8) (1 : Int32) v8 v9 (mm 17) (mm 18) (mm 19) (mm 20) rn (upd an 0 (-1 : Int32)) _ _ _ (by decide) hP hD hS (lv_sub hl [0, 1, 2, 3] rfl) ?_
        intro bs_mm_9_49 bs_mm_10_49 bs_mm_11_49 bs_mm_17_49 bs_mm_18_49 bs_mm_19_49 bs_mm_20_49 bg_rn_49 bg_an_49 H locs ls he hP hD hS hl
        rw [he] at hρ
        have hρ : ρ = F_X10_best_x49 what v4 v5 v6 v10 bs_mm_9_49 bs_mm_10_49 bs_mm_11_49 bs_mm_17_49 bs_mm_18_49 bs_mm_19_49 bs_mm_20_49 bg_rn_49 bg_an_49 := hρ
        unfold F_X10_best_x49 at hρ
        refine lv_aload_n hx hb dX10_best_195 rfl (lv_at hl 0 rfl) ?_
        refine va_get (D := E.1) (ci := 10) (v := .ref (a_mm 26)) (C := RX10) (T := TX10) (N := 27) hx hb hts iX10_best_X10 hown hE.1 hP 0 rfl rfl 26 (by decide) (hts (.fieldLink RX10 34 "BandBoatModel" "answer" "[I") (List.mem_of_getElem? (i := 2) rfl)) (fun _ h9 => h9) rfl dX10_best_196 ?_
        refine lv_iload_n hx hb dX10_best_199 rfl (lv_at hl 3 rfl) ?_
        refine ar_ild (k := (Int32.toNatClampNeg what)) (v := (bg_an_49 (Int32.toNatClampNeg what))) hx hb hE hP 3 rfl (an_in c28 (by decide)) rfl rfl dX10_best_200 ?_
        exact hq (bg_an_49 (Int32.toNatClampNeg what)) ((0 : Int32), v4, v5, v6, bs_mm_9_49, bs_mm_10_49, bs_mm_11_49, v10, bs_mm_17_49, bs_mm_18_49, bs_mm_19_49, bs_mm_20_49, bg_rn_49, bg_an_49) _ _ _ _ dX10_best_201 rfl (hρ0.trans hρ) hP hD hS
      · rw [if_pos c28] at hρ
        refine lv_iconst (v := (-1 : Int32)) hx hb dX10_best_31 (by decide) ?_
        exact hq (-1 : Int32) ((0 : Int32), (mm 6), (mm 7), (mm 8), (mm 9), (mm 10), (mm 11), (mm 12), (mm 17), (mm 18), (mm 19), (mm 20), rn, an) _ _ _ _ dX10_best_32 rfl (hρ0.trans hρ) hP hD hS
