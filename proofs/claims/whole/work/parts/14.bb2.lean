def F_X9_learnCalmPlaces_k33 (x1_10 : Int32) (g_cp_10 : Nat → Int32) (v1 : Int32) (v2 : Int32) (v3 : Int32) (g4 : Nat → Int32) (g5 : Nat → Int32) (g6 : Nat → Int32) : (Int32 × Int32 × Int32 × Int32 × (Nat → Int32) × (Nat → Int32) × (Nat → Int32) × (Nat → Int32)) ⊕ (Int32 × Int32 × Int32 × Int32 × (Nat → Int32) × (Nat → Int32) × (Nat → Int32) × (Nat → Int32)) := Sum.inl ((x1_10 + (1 : Int32)), v1, v2, v3, g4, g5, g6, (upd g_cp_10 (Int32.toNatClampNeg x1_10) (g4 2)))
def F_X9_learnCalmPlaces_b10 (la : Nat → Int32) (tl : Nat → Int32) (x1_10 : Int32) (s_tl_3_10 : Int32) (s_tl_4_10 : Int32) (s_tl_5_10 : Int32) (g_tl_motion_10 : Nat → Int32) (g_tl_band_10 : Nat → Int32) (g_tl_path_10 : Nat → Int32) (g_cp_10 : Nat → Int32) : (Int32 × Int32 × Int32 × Int32 × (Nat → Int32) × (Nat → Int32) × (Nat → Int32) × (Nat → Int32)) ⊕ (Int32 × Int32 × Int32 × Int32 × (Nat → Int32) × (Nat → Int32) × (Nat → Int32) × (Nat → Int32)) := (if (401 : Int32) ≤ x1_10 then Sum.inr (x1_10, s_tl_3_10, s_tl_4_10, s_tl_5_10, g_tl_motion_10, g_tl_band_10, g_tl_path_10, g_cp_10) else (match F_X8_make (upd (upd (upd tl 3 s_tl_3_10) 4 s_tl_4_10) 5 s_tl_5_10) g_tl_motion_10 g_tl_band_10 g_tl_path_10 la x1_10 (-1 : Int32) (600 : Int32) (0 : Int32) with | (v1, v2, v3, g4, g5, g6) => F_X9_learnCalmPlaces_k33 x1_10 g_cp_10 v1 v2 v3 g4 g5 g6))
def F_X9_learnCalmPlaces_l10 (la : Nat → Int32) (tl : Nat → Int32) : Nat → (Int32) → (Int32) → (Int32) → (Int32) → (Nat → Int32) → (Nat → Int32) → (Nat → Int32) → (Nat → Int32) → Int32 × Int32 × Int32 × Int32 × (Nat → Int32) × (Nat → Int32) × (Nat → Int32) × (Nat → Int32)
  | 0, x1_10, s_tl_3_10, s_tl_4_10, s_tl_5_10, g_tl_motion_10, g_tl_band_10, g_tl_path_10, g_cp_10 => (x1_10, s_tl_3_10, s_tl_4_10, s_tl_5_10, g_tl_motion_10, g_tl_band_10, g_tl_path_10, g_cp_10)
  | n_10 + 1, x1_10, s_tl_3_10, s_tl_4_10, s_tl_5_10, g_tl_motion_10, g_tl_band_10, g_tl_path_10, g_cp_10 => match F_X9_learnCalmPlaces_b10 la tl x1_10 s_tl_3_10 s_tl_4_10 s_tl_5_10 g_tl_motion_10 g_tl_band_10 g_tl_path_10 g_cp_10 with
    | Sum.inl (c_x1_10, c_s_tl_3_10, c_s_tl_4_10, c_s_tl_5_10, c_g_tl_motion_10, c_g_tl_band_10, c_g_tl_path_10, c_g_cp_10) => F_X9_learnCalmPlaces_l10 la tl n_10 c_x1_10 c_s_tl_3_10 c_s_tl_4_10 c_s_tl_5_10 c_g_tl_motion_10 c_g_tl_band_10 c_g_tl_path_10 c_g_cp_10
    | Sum.inr r_ => r_
def F_X9_learnCalmPlaces_x10 (bs_tl_3_10 : Int32) (bs_tl_4_10 : Int32) (bs_tl_5_10 : Int32) (bg_tl_motion_10 : Nat → Int32) (bg_tl_band_10 : Nat → Int32) (bg_tl_path_10 : Nat → Int32) (bg_cp_10 : Nat → Int32) : Int32 × Int32 × Int32 × Int32 × (Nat → Int32) × (Nat → Int32) × (Nat → Int32) × (Nat → Int32) := ((1 : Int32), bs_tl_3_10, bs_tl_4_10, bs_tl_5_10, bg_tl_motion_10, bg_tl_band_10, bg_tl_path_10, bg_cp_10)
def F_X9_learnCalmPlaces (bb : Nat → Int32) (la : Nat → Int32) (tl : Nat → Int32) (tl_motion : Nat → Int32) (tl_band : Nat → Int32) (tl_path : Nat → Int32) (cp : Nat → Int32) : Int32 × Int32 × Int32 × Int32 × (Nat → Int32) × (Nat → Int32) × (Nat → Int32) × (Nat → Int32) := (if (bb 12) = (0 : Int32) then (match F_X9_learnCalmPlaces_l10 la tl (401) (0 : Int32) (tl 3) (tl 4) (tl 5) tl_motion tl_band tl_path cp with | (bx1_10, bs_tl_3_10, bs_tl_4_10, bs_tl_5_10, bg_tl_motion_10, bg_tl_band_10, bg_tl_path_10, bg_cp_10) => F_X9_learnCalmPlaces_x10 bs_tl_3_10 bs_tl_4_10 bs_tl_5_10 bg_tl_motion_10 bg_tl_band_10 bg_tl_path_10 bg_cp_10) else ((bb 12), (tl 3), (tl 4), (tl 5), tl_motion, tl_band, tl_path, cp))
theorem iX9_learnCalmPlaces_X4 : ∀ w ∈ wsX40, w ∈ wsX9_learnCalmPlaces := fun _ h => List.mem_cons_of_mem _ (List.mem_append_left _ (List.mem_append_left _ (List.mem_append_right _ h)))
theorem iX9_learnCalmPlaces_X8 : ∀ w ∈ wsX80, w ∈ wsX9_learnCalmPlaces := fun _ h => List.mem_cons_of_mem _ (List.mem_append_left _ (List.mem_append_left _ (List.mem_append_left _ (List.mem_append_right _ h))))
theorem iX9_learnCalmPlaces_X9 : ∀ w ∈ wsX90, w ∈ wsX9_learnCalmPlaces := fun _ h => List.mem_cons_of_mem _ (List.mem_append_left _ (List.mem_append_left _ (List.mem_append_left _ (List.mem_append_left _ (List.mem_append_right _ h)))))
set_option maxHeartbeats 4000000 in
set_option maxRecDepth 100000 in
theorem c_X9_learnCalmPlaces (l : Launch) (E : wV) (h_bb : Nat) (a_bb : Nat → Nat) (a_tl : Nat → Nat) (bb : Nat → Int32) (la : Nat → Int32) (tl : Nat → Int32) (tl_motion : Nat → Int32) (tl_band : Nat → Int32) (tl_path : Nat → Int32) (cp : Nat → Int32) : MetV l yX9_learnCalmPlaces wsX9_learnCalmPlaces ({ frames := 4, cells := 0, slots := 0, locals := 98 } : Room) E ([.ref h_bb] : List Value) [xBandBoat h_bb a_bb bb, xRig (a_bb 2) la, xTrial (a_bb 5) a_tl tl, xMotion (a_tl 0) tl_motion, xBand (a_tl 1) tl_band, xI E (a_tl 2) 601 tl_path, xI E (a_bb 11) 401 cp] (fun (u : Int32 × Int32 × Int32 × Int32 × (Nat → Int32) × (Nat → Int32) × (Nat → Int32) × (Nat → Int32)) => F_X9_learnCalmPlaces bb la tl tl_motion tl_band tl_path cp = u) (fun (u : Int32 × Int32 × Int32 × Int32 × (Nat → Int32) × (Nat → Int32) × (Nat → Int32) × (Nat → Int32)) => [xBandBoat h_bb a_bb (upd bb 12 u.1), xRig (a_bb 2) la, xTrial (a_bb 5) a_tl (upd (upd (upd tl 3 u.2.1) 4 u.2.2.1) 5 u.2.2.2.1), xMotion (a_tl 0) u.2.2.2.2.1, xBand (a_tl 1) u.2.2.2.2.2.1, xI E (a_tl 2) 601 u.2.2.2.2.2.2.1, xI E (a_bb 11) 401 u.2.2.2.2.2.2.2]) := by
  refine MetV.of (cc := cX9_learnCalmPlaces) (maxL := 2) (own := RX9) (by decide) rfl rfl (Nat.le_of_ble_eq_true rfl) ?_
  intro p e s m below meth c A Q ls cx hP hD hS hl hq
  obtain ⟨hx, hb, hml, hown, hts, hE, hA⟩ := id cx
  have hl : lv_has ls 2 [(0, .ref h_bb)] := hl
  have hP : va_P E.1 vwCl [xBandBoat h_bb a_bb bb, xRig (a_bb 2) la, xTrial (a_bb 5) a_tl tl, xMotion (a_tl 0) tl_motion, xBand (a_tl 1) tl_band, xI E (a_tl 2) 601 tl_path, xI E (a_bb 11) 401 cp] s.heap := hP
  obtain ⟨ρ, hρ0⟩ : ∃ ρ, F_X9_learnCalmPlaces bb la tl tl_motion tl_band tl_path cp = ρ := ⟨_, rfl⟩
  have hρ := hρ0.symm
  unfold F_X9_learnCalmPlaces at hρ
  refine lv_aload_n hx hb dX9_learnCalmPlaces_0 rfl (lv_at hl 0 rfl) ?_
  refine va_get (D := E.1) (ci := 9) (v := .int (bb 12)) (C := RX9) (T := TX9) (N := 18) hx hb hts iX9_learnCalmPlaces_X9 hown hE.1 hP 0 rfl rfl 12 (by decide) (hts (.fieldLink RX9 254 "BandBoat" "calmPlacesKnown" "Z") (List.mem_of_getElem? (i := 1) rfl)) (fun _ h9 => h9) rfl dX9_learnCalmPlaces_1 ?_
  refine lv_if_eq (tgt := 8) hx hb dX9_learnCalmPlaces_4 (by decide) (fun c4 => ?_) (fun c4 => ?_)
  · rw [if_pos c4] at hρ
    refine lv_iconst (v := (0 : Int32)) hx hb dX9_learnCalmPlaces_8 (by decide) ?_
    refine lv_istore_n (lv' := [(1, .int (0 : Int32)), (0, .ref h_bb)]) hx hb dX9_learnCalmPlaces_9 rfl hl (by decide) rfl (fun ls hl => ?_)
    have hL10 : ∀ (n_10 : Nat) (x1_10 : Int32) (s_tl_3_10 : Int32) (s_tl_4_10 : Int32) (s_tl_5_10 : Int32) (g_tl_motion_10 : Nat → Int32) (g_tl_band_10 : Nat → Int32) (g_tl_path_10 : Nat → Int32) (g_cp_10 : Nat → Int32) (H : Heap) (locs : List Loc) (ls : Array Slot), (((401 : Int32) : Int32).toInt ≤ (x1_10).toInt + (n_10 : Nat)) ∧ (0 ≤ (x1_10).toInt) → va_P E.1 vwCl [xBandBoat h_bb a_bb bb, xRig (a_bb 2) la, xTrial (a_bb 5) a_tl (upd (upd (upd tl 3 s_tl_3_10) 4 s_tl_4_10) 5 s_tl_5_10), xMotion (a_tl 0) g_tl_motion_10, xBand (a_tl 1) g_tl_band_10, xI E (a_tl 2) 601 g_tl_path_10, xI E (a_bb 11) 401 g_cp_10] H → va_D A [xBandBoat h_bb a_bb bb, xRig (a_bb 2) la, xTrial (a_bb 5) a_tl (upd (upd (upd tl 3 s_tl_3_10) 4 s_tl_4_10) 5 s_tl_5_10), xMotion (a_tl 0) g_tl_motion_10, xBand (a_tl 1) g_tl_band_10, xI E (a_tl 2) 601 g_tl_path_10, xI E (a_bb 11) 401 g_cp_10] → va_S A s.heap H locs → lv_has ls 2 [(1, .int x1_10), (0, .ref h_bb)] → (∀ (ox1_10 : Int32) (os_tl_3_10 : Int32) (os_tl_4_10 : Int32) (os_tl_5_10 : Int32) (og_tl_motion_10 : Nat → Int32) (og_tl_band_10 : Nat → Int32) (og_tl_path_10 : Nat → Int32) (og_cp_10 : Nat → Int32) (H : Heap) (locs : List Loc) (ls : Array Slot), F_X9_learnCalmPlaces_l10 la tl n_10 x1_10 s_tl_3_10 s_tl_4_10 s_tl_5_10 g_tl_motion_10 g_tl_band_10 g_tl_path_10 g_cp_10 = (ox1_10, os_tl_3_10, os_tl_4_10, os_tl_5_10, og_tl_motion_10, og_tl_band_10, og_tl_path_10, og_cp_10) → va_P E.1 vwCl [xBandBoat h_bb a_bb bb, xRig (a_bb 2) la, xTrial (a_bb 5) a_tl (upd (upd (upd tl 3 os_tl_3_10) 4 os_tl_4_10) 5 os_tl_5_10), xMotion (a_tl 0) og_tl_motion_10, xBand (a_tl 1) og_tl_band_10, xI E (a_tl 2) 601 og_tl_path_10, xI E (a_bb 11) 401 og_cp_10] H → va_D A [xBandBoat h_bb a_bb bb, xRig (a_bb 2) la, xTrial (a_bb 5) a_tl (upd (upd (upd tl 3 os_tl_3_10) 4 os_tl_4_10) 5 os_tl_5_10), xMotion (a_tl 0) og_tl_motion_10, xBand (a_tl 1) og_tl_band_10, xI E (a_tl 2) 601 og_tl_path_10, xI E (a_bb 11) 401 og_cp_10] → va_S A s.heap H locs → lv_has ls 2 [(1, .int ox1_10), (0, .ref h_bb)] → W p l e ({ frames := 4, cells := 0, slots := 0, locals := 98 } : Room) s m ([.ref h_bb] : List Value).toArray below meth c H locs 0 0 Q (F0 m 58 ls [])) → W p l e ({ frames := 4, cells := 0, slots := 0, locals := 98 } : Room) s m ([.ref h_bb] : List Value).toArray below meth c H locs 0 0 Q (F0 m 10 ls []) := by
      intro n_10
      induction n_10 with
      | zero =>
        intro x1_10 s_tl_3_10 s_tl_4_10 s_tl_5_10 g_tl_motion_10 g_tl_band_10 g_tl_path_10 g_cp_10 H locs ls hM hP hD hS hl hK
        have hM10 := hM
        obtain ⟨σ10, hσ010⟩ : ∃ σ, F_X9_learnCalmPlaces_l10 la tl 0 x1_10 s_tl_3_10 s_tl_4_10 s_tl_5_10 g_tl_motion_10 g_tl_band_10 g_tl_path_10 g_cp_10 = σ := ⟨_, rfl⟩
        have hσ10 := hσ010.symm
        rw [F_X9_learnCalmPlaces_l10] at hσ10
        refine lv_iload_n hx hb dX9_learnCalmPlaces_10 rfl (lv_at hl 0 rfl) ?_
        refine lv_aload_n hx hb dX9_learnCalmPlaces_11 rfl (lv_at hl 1 rfl) ?_
        refine va_get (D := E.1) (ci := 9) (v := .ref (a_bb 11)) (C := RX9) (T := TX9) (N := 18) hx hb hts iX9_learnCalmPlaces_X9 hown hE.1 hP 0 rfl rfl 11 (by decide) (hts (.fieldLink RX9 72 "BandBoat" "calmPlaces" "[I") (List.mem_of_getElem? (i := 2) rfl)) (fun _ h9 => h9) rfl dX9_learnCalmPlaces_12 ?_
        refine ar_len (v := (401 : Int32)) hx hb hE hP 6 rfl rfl dX9_learnCalmPlaces_15 ?_
        refine lv_icmp_ge (tgt := 58) hx hb dX9_learnCalmPlaces_16 (by decide) (fun c16 => ?_) (fun c16 => ?_)
        · exact hK x1_10 s_tl_3_10 s_tl_4_10 s_tl_5_10 g_tl_motion_10 g_tl_band_10 g_tl_path_10 g_cp_10 _ _ _ (hσ010.trans hσ10) hP hD hS (lv_sub hl [0, 1] rfl)
        · exact (cnt_lt0 c16 hM.1).elim
      | succ n_10 ih =>
        intro x1_10 s_tl_3_10 s_tl_4_10 s_tl_5_10 g_tl_motion_10 g_tl_band_10 g_tl_path_10 g_cp_10 H locs ls hM hP hD hS hl hK
        have hM10 := hM
        obtain ⟨σ10, hσ010⟩ : ∃ σ, F_X9_learnCalmPlaces_l10 la tl (n_10 + 1) x1_10 s_tl_3_10 s_tl_4_10 s_tl_5_10 g_tl_motion_10 g_tl_band_10 g_tl_path_10 g_cp_10 = σ := ⟨_, rfl⟩
        have hσ10 := hσ010.symm
        rw [F_X9_learnCalmPlaces_l10] at hσ10
        obtain ⟨τ10, hτ010⟩ : ∃ τ, F_X9_learnCalmPlaces_b10 la tl x1_10 s_tl_3_10 s_tl_4_10 s_tl_5_10 g_tl_motion_10 g_tl_band_10 g_tl_path_10 g_cp_10 = τ := ⟨_, rfl⟩
        rw [hτ010] at hσ10
        have hτ10 := hτ010.symm
        unfold F_X9_learnCalmPlaces_b10 at hτ10
        refine lv_iload_n hx hb dX9_learnCalmPlaces_10 rfl (lv_at hl 0 rfl) ?_
        refine lv_aload_n hx hb dX9_learnCalmPlaces_11 rfl (lv_at hl 1 rfl) ?_
        refine va_get (D := E.1) (ci := 9) (v := .ref (a_bb 11)) (C := RX9) (T := TX9) (N := 18) hx hb hts iX9_learnCalmPlaces_X9 hown hE.1 hP 0 rfl rfl 11 (by decide) (hts (.fieldLink RX9 72 "BandBoat" "calmPlaces" "[I") (List.mem_of_getElem? (i := 2) rfl)) (fun _ h9 => h9) rfl dX9_learnCalmPlaces_12 ?_
        refine ar_len (v := (401 : Int32)) hx hb hE hP 6 rfl rfl dX9_learnCalmPlaces_15 ?_
        refine lv_icmp_ge (tgt := 58) hx hb dX9_learnCalmPlaces_16 (by decide) (fun c16 => ?_) (fun c16 => ?_)
        · rw [if_pos c16] at hτ10
          have hσ10 : σ10 = (x1_10, s_tl_3_10, s_tl_4_10, s_tl_5_10, g_tl_motion_10, g_tl_band_10, g_tl_path_10, g_cp_10) := by subst hτ10; exact hσ10
          exact hK x1_10 s_tl_3_10 s_tl_4_10 s_tl_5_10 g_tl_motion_10 g_tl_band_10 g_tl_path_10 g_cp_10 _ _ _ (hσ010.trans hσ10) hP hD hS (lv_sub hl [0, 1] rfl)
        · rw [if_neg c16] at hτ10
          refine lv_aload_n hx hb dX9_learnCalmPlaces_19 rfl (lv_at hl 1 rfl) ?_
          refine va_get (D := E.1) (ci := 9) (v := .ref (a_bb 5)) (C := RX9) (T := TX9) (N := 18) hx hb hts iX9_learnCalmPlaces_X9 hown hE.1 hP 0 rfl rfl 5 (by decide) (hts (.fieldLink RX9 43 "BandBoat" "trial" "LBandBoat$Trial;") (List.mem_of_getElem? (i := 3) rfl)) (fun _ h9 => h9) rfl dX9_learnCalmPlaces_20 ?_
          refine lv_aload_n hx hb dX9_learnCalmPlaces_23 rfl (lv_at hl 1 rfl) ?_
          refine va_get (D := E.1) (ci := 9) (v := .ref (a_bb 2)) (C := RX9) (T := TX9) (N := 18) hx hb hts iX9_learnCalmPlaces_X9 hown hE.1 hP 0 rfl rfl 2 (by decide) (hts (.fieldLink RX9 26 "BandBoat" "laid" "LBandBoat$Rig;") (List.mem_of_getElem? (i := 4) rfl)) (fun _ h9 => h9) rfl dX9_learnCalmPlaces_24 ?_
          refine lv_iload_n hx hb dX9_learnCalmPlaces_27 rfl (lv_at hl 0 rfl) ?_
          refine lv_iconst (v := (-1 : Int32)) hx hb dX9_learnCalmPlaces_28 (by decide) ?_
          refine lv_sipush (v := (600 : Int32)) hx hb dX9_learnCalmPlaces_29 (by decide) ?_
          refine lv_iconst (v := (0 : Int32)) hx hb dX9_learnCalmPlaces_32 (by decide) ?_
          refine kV (wc := [xTrial (a_bb 5) a_tl (upd (upd (upd tl 3 s_tl_3_10) 4 s_tl_4_10) 5 s_tl_5_10), xMotion (a_tl 0) g_tl_motion_10, xBand (a_tl 1) g_tl_band_10, xI E (a_tl 2) 601 g_tl_path_10, xRig (a_bb 2) la]) (wr := [xBandBoat h_bb a_bb bb, xI E (a_bb 11) 401 g_cp_10]) (wc' := (fun (u : Int32 × Int32 × Int32 × (Nat → Int32) × (Nat → Int32) × (Nat → Int32)) => [xTrial (a_bb 5) a_tl (upd (upd (upd (upd (upd (upd tl 3 s_tl_3_10) 4 s_tl_4_10) 5 s_tl_5_10) 3 u.1) 4 u.2.1) 5 u.2.2.1), xMotion (a_tl 0) u.2.2.2.1, xBand (a_tl 1) u.2.2.2.2.1, xI E (a_tl 2) 601 u.2.2.2.2.2, xRig (a_bb 2) la])) (wn := (fun (u : Int32 × Int32 × Int32 × (Nat → Int32) × (Nat → Int32) × (Nat → Int32)) => [xBandBoat h_bb a_bb bb, xRig (a_bb 2) la, xTrial (a_bb 5) a_tl (upd (upd (upd tl 3 u.1) 4 u.2.1) 5 u.2.2.1), xMotion (a_tl 0) u.2.2.2.1, xBand (a_tl 1) u.2.2.2.2.1, xI E (a_tl 2) 601 u.2.2.2.2.2, xI E (a_bb 11) 401 g_cp_10])) (isC := [2, 3, 4, 5, 1]) (isR := [0, 6]) (is2 := [0, 6, 2, 3, 4, 5, 1]) cx hP hD hS ⟨rfl, rfl, by decide, by decide, by decide, by decide, fun _ => rfl⟩ (rVN (As := [.ref (a_bb 2), .int x1_10, .int (-1 : Int32), .int (600 : Int32), .int (0 : Int32)]) (rest := []) (C := RX8) (q0 := 0) (ci := 8) cx (c_X8_make l E (a_bb 5) (a_bb 2) a_tl (upd (upd (upd tl 3 s_tl_3_10) 4 s_tl_4_10) 5 s_tl_5_10) g_tl_motion_10 g_tl_band_10 g_tl_path_10 la x1_10 (-1 : Int32) (600 : Int32) (0 : Int32) (by decide) _) (va_cnB 5 hts gX9_learnCalmPlaces_X8_make_n160 rfl rfl rfl (hE.nw 89 rfl) (hts (.initialized RX8) (List.mem_of_getElem? (i := 6) rfl)) (by decide +kernel) ⟨Nat.le_of_ble_eq_true rfl, Nat.le_of_ble_eq_true rfl⟩) (hts (.instanceMethod yX8_make) (List.mem_of_getElem? (i := 5) rfl)) (hts (.selects RX8 yX8_make yX8_make) (List.mem_of_getElem? (i := 7) rfl)) rfl rfl rfl rfl hl.1 rfl (Nat.le_of_ble_eq_true rfl) dX9_learnCalmPlaces_33 ⟨Nat.zero_le _, Nat.zero_le _⟩) (fun u H locs hw hP hD hS => ?_)
          obtain ⟨v1, v2, v3, g4, g5, g6⟩ := u
          have hP : va_P E.1 vwCl [xBandBoat h_bb a_bb bb, xRig (a_bb 2) la, xTrial (a_bb 5) a_tl (upd (upd (upd tl 3 v1) 4 v2) 5 v3), xMotion (a_tl 0) g4, xBand (a_tl 1) g5, xI E (a_tl 2) 601 g6, xI E (a_bb 11) 401 g_cp_10] H := hP
          have hD : va_D A [xBandBoat h_bb a_bb bb, xRig (a_bb 2) la, xTrial (a_bb 5) a_tl (upd (upd (upd tl 3 v1) 4 v2) 5 v3), xMotion (a_tl 0) g4, xBand (a_tl 1) g5, xI E (a_tl 2) 601 g6, xI E (a_bb 11) 401 g_cp_10] := hD
          have hw : F_X8_make (upd (upd (upd tl 3 s_tl_3_10) 4 s_tl_4_10) 5 s_tl_5_10) g_tl_motion_10 g_tl_band_10 g_tl_path_10 la x1_10 (-1 : Int32) (600 : Int32) (0 : Int32) = (v1, v2, v3, g4, g5, g6) := hw
          rw [hw] at hτ10
          have hτ10 : τ10 = F_X9_learnCalmPlaces_k33 x1_10 g_cp_10 v1 v2 v3 g4 g5 g6 := hτ10
          unfold F_X9_learnCalmPlaces_k33 at hτ10
          refine lv_aload_n hx hb dX9_learnCalmPlaces_36 rfl (lv_at hl 1 rfl) ?_
          refine va_get (D := E.1) (ci := 9) (v := .ref (a_bb 11)) (C := RX9) (T := TX9) (N := 18) hx hb hts iX9_learnCalmPlaces_X9 hown hE.1 hP 0 rfl rfl 11 (by decide) (hts (.fieldLink RX9 72 "BandBoat" "calmPlaces" "[I") (List.mem_of_getElem? (i := 2) rfl)) (fun _ h9 => h9) rfl dX9_learnCalmPlaces_37 ?_
          refine lv_iload_n hx hb dX9_learnCalmPlaces_40 rfl (lv_at hl 0 rfl) ?_
          refine lv_aload_n hx hb dX9_learnCalmPlaces_41 rfl (lv_at hl 1 rfl) ?_
          refine va_get (D := E.1) (ci := 9) (v := .ref (a_bb 5)) (C := RX9) (T := TX9) (N := 18) hx hb hts iX9_learnCalmPlaces_X9 hown hE.1 hP 0 rfl rfl 5 (by decide) (hts (.fieldLink RX9 43 "BandBoat" "trial" "LBandBoat$Trial;") (List.mem_of_getElem? (i := 3) rfl)) (fun _ h9 => h9) rfl dX9_learnCalmPlaces_42 ?_
          refine va_getN (D := E.1) (ci := 8) (v := .ref (a_tl 0)) (C := RX8) (T := TX8) (N := 6) hx hb hts iX9_learnCalmPlaces_X8 hown hE.1 hP 2 rfl rfl 0 (by decide) (hE.n 57 rfl) (fun _ h9 => h9) rfl dX9_learnCalmPlaces_45 ?_
          refine va_getN (D := E.1) (ci := 4) (v := .int (g4 2)) (C := RX4) (T := TX4) (N := 7) hx hb hts iX9_learnCalmPlaces_X4 hown hE.1 hP 3 rfl rfl 2 (by decide) (hE.n 52 rfl) (fun _ h9 => h9) rfl dX9_learnCalmPlaces_48 ?_
          refine ar_ist (k := (Int32.toNatClampNeg x1_10)) (ws' := [xBandBoat h_bb a_bb bb, xRig (a_bb 2) la, xTrial (a_bb 5) a_tl (upd (upd (upd tl 3 v1) 4 v2) 5 v3), xMotion (a_tl 0) g4, xBand (a_tl 1) g5, xI E (a_tl 2) 601 g6, xI E (a_bb 11) 401 (upd g_cp_10 (Int32.toNatClampNeg x1_10) (g4 2))]) hx hb hE hP hD hS 6 rfl (inb_c hM.2 c16 rfl) rfl rfl dX9_learnCalmPlaces_51 (fun H locs hP hD hS => ?_)
          refine lv_iinc (v := (x1_10 + (1 : Int32))) (lv' := [(1, .int (x1_10 + (1 : Int32))), (0, .ref h_bb)]) hx hb dX9_learnCalmPlaces_52 hl (k := 0) rfl rfl (by decide) rfl (fun ls hl => ?_)
          refine lv_goto (tgt := 10) hx hb dX9_learnCalmPlaces_55 (by decide) ?_
          have hσ10 : σ10 = F_X9_learnCalmPlaces_l10 la tl n_10 (x1_10 + (1 : Int32)) v1 v2 v3 g4 g5 g6 (upd g_cp_10 (Int32.toNatClampNeg x1_10) (g4 2)) := by subst hτ10; exact hσ10
          exact ih (x1_10 + (1 : Int32)) v1 v2 v3 g4 g5 g6 (upd g_cp_10 (Int32.toNatClampNeg x1_10) (g4 2)) _ _ _ ⟨cnt_lt c16 hM.1, cnt_lt_pos c16 hM.2⟩ hP hD hS (lv_sub hl [0, 1] rfl) (fun ox1_10 os_tl_3_10 os_tl_4_10 os_tl_5_10 og_tl_motion_10 og_tl_band_10 og_tl_path_10 og_cp_10 H locs ls he => hK ox1_10 os_tl_3_10 os_tl_4_10 os_tl_5_10 og_tl_motion_10 og_tl_band_10 og_tl_path_10 og_cp_10 H locs ls (hσ010.trans (hσ10.trans he)))
    refine hL10 (401) (0 : Int32) (tl 3) (tl 4) (tl 5) tl_motion tl_band tl_path cp _ _ _ (by decide) hP hD hS (lv_sub hl [0, 1] rfl) ?_
    intro bx1_10 bs_tl_3_10 bs_tl_4_10 bs_tl_5_10 bg_tl_motion_10 bg_tl_band_10 bg_tl_path_10 bg_cp_10 H locs ls he hP hD hS hl
    rw [he] at hρ
    have hρ : ρ = F_X9_learnCalmPlaces_x10 bs_tl_3_10 bs_tl_4_10 bs_tl_5_10 bg_tl_motion_10 bg_tl_band_10 bg_tl_path_10 bg_cp_10 := hρ
    unfold F_X9_learnCalmPlaces_x10 at hρ
    refine lv_aload_n hx hb dX9_learnCalmPlaces_58 rfl (lv_at hl 1 rfl) ?_
    refine lv_iconst (v := (1 : Int32)) hx hb dX9_learnCalmPlaces_59 (by decide) ?_
    refine va_put (D := E.1) (ci := 9) (v := .int (1 : Int32)) (ty := .boolean) (C := RX9) (T := TX9) (N := 18) hx hb hts iX9_learnCalmPlaces_X9 tyX9 tyX9_ok nmX9 hown hE.1 hP hD hS 0 rfl rfl 12 (by decide) (hts (.fieldLink RX9 254 "BandBoat" "calmPlacesKnown" "Z") (List.mem_of_getElem? (i := 1) rfl)) (fun _ h9 => h9) rfl (by decide +kernel) rfl rfl (Nat.le_of_ble_eq_true rfl) dX9_learnCalmPlaces_60 (fun H locs hP hD hS => ?_)
    have hP : va_P E.1 vwCl [xBandBoat h_bb a_bb (upd bb 12 (1 : Int32)), xRig (a_bb 2) la, xTrial (a_bb 5) a_tl (upd (upd (upd tl 3 bs_tl_3_10) 4 bs_tl_4_10) 5 bs_tl_5_10), xMotion (a_tl 0) bg_tl_motion_10, xBand (a_tl 1) bg_tl_band_10, xI E (a_tl 2) 601 bg_tl_path_10, xI E (a_bb 11) 401 bg_cp_10] H := hP
    have hD : va_D A [xBandBoat h_bb a_bb (upd bb 12 (1 : Int32)), xRig (a_bb 2) la, xTrial (a_bb 5) a_tl (upd (upd (upd tl 3 bs_tl_3_10) 4 bs_tl_4_10) 5 bs_tl_5_10), xMotion (a_tl 0) bg_tl_motion_10, xBand (a_tl 1) bg_tl_band_10, xI E (a_tl 2) 601 bg_tl_path_10, xI E (a_bb 11) 401 bg_cp_10] := hD
    exact hq ((1 : Int32), bs_tl_3_10, bs_tl_4_10, bs_tl_5_10, bg_tl_motion_10, bg_tl_band_10, bg_tl_path_10, bg_cp_10) _ _ _ _ dX9_learnCalmPlaces_63 (hρ0.trans hρ) hP hD hS
  · rw [if_neg c4] at hρ
    exact hq ((bb 12), (tl 3), (tl 4), (tl 5), tl_motion, tl_band, tl_path, cp) _ _ _ _ dX9_learnCalmPlaces_7 (hρ0.trans hρ) hP hD hS
def F_X9_wise_j58 (x4_13 : Int32) (x2_58 : Int64) (x1_58 : Int32) : (Int32 × Int64 × Int32) ⊕ (Int32 × Int64 × Int32) := Sum.inl ((x4_13 + (1 : Int32)), x2_58, x1_58)
def F_X9_wise_k43 (x4_13 : Int32) (x2_13 : Int64) (x1_13 : Int32) (v10 : Int64) : (Int32 × Int64 × Int32) ⊕ (Int32 × Int64 × Int32) := (if (lg_cmp v10 x2_13) ≤ (0 : Int32) then F_X9_wise_j58 x4_13 x2_13 x1_13 else F_X9_wise_j58 x4_13 v10 x4_13)
def F_X9_wise_b13 (la : Nat → Int32) (g8 : Nat → Int32) (x4_13 : Int32) (x2_13 : Int64) (x1_13 : Int32) : (Int32 × Int64 × Int32) ⊕ (Int32 × Int64 × Int32) := (if (401 : Int32) ≤ x4_13 then Sum.inr (x4_13, x2_13, x1_13) else F_X9_wise_k43 x4_13 x2_13 x1_13 ((Int32.toInt64 (g8 (Int32.toNatClampNeg x4_13))) * (Int32.toInt64 ((1000 : Int32) - (F_X9_snapOf la x4_13)))))
def F_X9_wise_l13 (la : Nat → Int32) (g8 : Nat → Int32) : Nat → (Int32) → (Int64) → (Int32) → Int32 × Int64 × Int32
  | 0, x4_13, x2_13, x1_13 => (x4_13, x2_13, x1_13)
  | n_13 + 1, x4_13, x2_13, x1_13 => match F_X9_wise_b13 la g8 x4_13 x2_13 x1_13 with
    | Sum.inl (c_x4_13, c_x2_13, c_x1_13) => F_X9_wise_l13 la g8 n_13 c_x4_13 c_x2_13 c_x1_13
    | Sum.inr r_ => r_
def F_X9_wise_x13 (v1 : Int32) (v2 : Int32) (v3 : Int32) (v4 : Int32) (g5 : Nat → Int32) (g6 : Nat → Int32) (g7 : Nat → Int32) (g8 : Nat → Int32) (bx1_13 : Int32) : Int32 × Int32 × Int32 × Int32 × Int32 × (Nat → Int32) × (Nat → Int32) × (Nat → Int32) × (Nat → Int32) := (bx1_13, v1, v2, v3, v4, g5, g6, g7, g8)
def F_X9_wise_k1 (la : Nat → Int32) (v1 : Int32) (v2 : Int32) (v3 : Int32) (v4 : Int32) (g5 : Nat → Int32) (g6 : Nat → Int32) (g7 : Nat → Int32) (g8 : Nat → Int32) : Int32 × Int32 × Int32 × Int32 × Int32 × (Nat → Int32) × (Nat → Int32) × (Nat → Int32) × (Nat → Int32) := (match F_X9_wise_l13 la g8 (401) (0 : Int32) (-1 : Int64) (0 : Int32) with | (bx4_13, bx2_13, bx1_13) => F_X9_wise_x13 v1 v2 v3 v4 g5 g6 g7 g8 bx1_13)
def F_X9_wise (bb : Nat → Int32) (la : Nat → Int32) (tl : Nat → Int32) (tl_motion : Nat → Int32) (tl_band : Nat → Int32) (tl_path : Nat → Int32) (cp : Nat → Int32) : Int32 × Int32 × Int32 × Int32 × Int32 × (Nat → Int32) × (Nat → Int32) × (Nat → Int32) × (Nat → Int32) := (match F_X9_learnCalmPlaces bb la tl tl_motion tl_band tl_path cp with | (v1, v2, v3, v4, g5, g6, g7, g8) => F_X9_wise_k1 la v1 v2 v3 v4 g5 g6 g7 g8)
theorem iX9_wise_X9 : ∀ w ∈ wsX90, w ∈ wsX9_wise := fun _ h => List.mem_cons_of_mem _ (List.mem_append_left _ (List.mem_append_left _ (List.mem_append_left _ (List.mem_append_left _ (List.mem_append_right _ h)))))
set_option maxHeartbeats 4000000 in
set_option maxRecDepth 100000 in
theorem c_X9_wise (l : Launch) (E : wV) (h_bb : Nat) (a_bb : Nat → Nat) (a_tl : Nat → Nat) (bb : Nat → Int32) (la : Nat → Int32) (tl : Nat → Int32) (tl_motion : Nat → Int32) (tl_band : Nat → Int32) (tl_path : Nat → Int32) (cp : Nat → Int32) : MetI l yX9_wise wsX9_wise ({ frames := 5, cells := 0, slots := 0, locals := 119 } : Room) E ([.ref h_bb] : List Value) [xBandBoat h_bb a_bb bb, xRig (a_bb 2) la, xTrial (a_bb 5) a_tl tl, xMotion (a_tl 0) tl_motion, xBand (a_tl 1) tl_band, xI E (a_tl 2) 601 tl_path, xI E (a_bb 11) 401 cp] (fun (r : Int32) (u : Int32 × Int32 × Int32 × Int32 × (Nat → Int32) × (Nat → Int32) × (Nat → Int32) × (Nat → Int32)) => F_X9_wise bb la tl tl_motion tl_band tl_path cp = (r, u)) (fun (u : Int32 × Int32 × Int32 × Int32 × (Nat → Int32) × (Nat → Int32) × (Nat → Int32) × (Nat → Int32)) => [xBandBoat h_bb a_bb (upd bb 12 u.1), xRig (a_bb 2) la, xTrial (a_bb 5) a_tl (upd (upd (upd tl 3 u.2.1) 4 u.2.2.1) 5 u.2.2.2.1), xMotion (a_tl 0) u.2.2.2.2.1, xBand (a_tl 1) u.2.2.2.2.2.1, xI E (a_tl 2) 601 u.2.2.2.2.2.2.1, xI E (a_bb 11) 401 u.2.2.2.2.2.2.2]) := by
  refine MetI.of (cc := cX9_wise) (maxL := 7) (own := RX9) (by decide) rfl rfl (Nat.le_of_ble_eq_true rfl) ?_
  intro p e s m below meth c A Q ls cx hP hD hS hl hq
  obtain ⟨hx, hb, hml, hown, hts, hE, hA⟩ := id cx
  have hl : lv_has ls 7 [(0, .ref h_bb)] := hl
  have hP : va_P E.1 vwCl [xBandBoat h_bb a_bb bb, xRig (a_bb 2) la, xTrial (a_bb 5) a_tl tl, xMotion (a_tl 0) tl_motion, xBand (a_tl 1) tl_band, xI E (a_tl 2) 601 tl_path, xI E (a_bb 11) 401 cp] s.heap := hP
  obtain ⟨ρ, hρ0⟩ : ∃ ρ, F_X9_wise bb la tl tl_motion tl_band tl_path cp = ρ := ⟨_, rfl⟩
  have hρ := hρ0.symm
  unfold F_X9_wise at hρ
  refine lv_aload_n hx hb dX9_wise_0 rfl (lv_at hl 0 rfl) ?_
  refine kV (wc := [xBandBoat h_bb a_bb bb, xRig (a_bb 2) la, xTrial (a_bb 5) a_tl tl, xMotion (a_tl 0) tl_motion, xBand (a_tl 1) tl_band, xI E (a_tl 2) 601 tl_path, xI E (a_bb 11) 401 cp]) (wr := []) (wc' := (fun (u : Int32 × Int32 × Int32 × Int32 × (Nat → Int32) × (Nat → Int32) × (Nat → Int32) × (Nat → Int32)) => [xBandBoat h_bb a_bb (upd bb 12 u.1), xRig (a_bb 2) la, xTrial (a_bb 5) a_tl (upd (upd (upd tl 3 u.2.1) 4 u.2.2.1) 5 u.2.2.2.1), xMotion (a_tl 0) u.2.2.2.2.1, xBand (a_tl 1) u.2.2.2.2.2.1, xI E (a_tl 2) 601 u.2.2.2.2.2.2.1, xI E (a_bb 11) 401 u.2.2.2.2.2.2.2])) (wn := (fun (u : Int32 × Int32 × Int32 × Int32 × (Nat → Int32) × (Nat → Int32) × (Nat → Int32) × (Nat → Int32)) => [xBandBoat h_bb a_bb (upd bb 12 u.1), xRig (a_bb 2) la, xTrial (a_bb 5) a_tl (upd (upd (upd tl 3 u.2.1) 4 u.2.2.1) 5 u.2.2.2.1), xMotion (a_tl 0) u.2.2.2.2.1, xBand (a_tl 1) u.2.2.2.2.2.1, xI E (a_tl 2) 601 u.2.2.2.2.2.2.1, xI E (a_bb 11) 401 u.2.2.2.2.2.2.2])) (isC := [0, 1, 2, 3, 4, 5, 6]) (isR := []) (is2 := [0, 1, 2, 3, 4, 5, 6]) cx hP hD hS ⟨rfl, rfl, by decide, by decide, by decide, by decide, fun _ => rfl⟩ (rV (As := []) (rest := []) (C := RX9) (q0 := 0) (ci := 9) cx (c_X9_learnCalmPlaces l E h_bb a_bb a_tl bb la tl tl_motion tl_band tl_path cp _) (cwV 0 hts gX9_wise_X9_learnCalmPlaces rfl rfl rfl (by decide +kernel) ⟨Nat.le_of_ble_eq_true rfl, Nat.le_of_ble_eq_true rfl⟩) rfl rfl rfl rfl hl.1 rfl (Nat.le_of_ble_eq_true rfl) dX9_wise_1 ⟨Nat.zero_le _, Nat.zero_le _⟩) (fun u H locs hw hP hD hS => ?_)
  obtain ⟨v1, v2, v3, v4, g5, g6, g7, g8⟩ := u
  have hP : va_P E.1 vwCl [xBandBoat h_bb a_bb (upd bb 12 v1), xRig (a_bb 2) la, xTrial (a_bb 5) a_tl (upd (upd (upd tl 3 v2) 4 v3) 5 v4), xMotion (a_tl 0) g5, xBand (a_tl 1) g6, xI E (a_tl 2) 601 g7, xI E (a_bb 11) 401 g8] H := hP
  have hD : va_D A [xBandBoat h_bb a_bb (upd bb 12 v1), xRig (a_bb 2) la, xTrial (a_bb 5) a_tl (upd (upd (upd tl 3 v2) 4 v3) 5 v4), xMotion (a_tl 0) g5, xBand (a_tl 1) g6, xI E (a_tl 2) 601 g7, xI E (a_bb 11) 401 g8] := hD
  have hw : F_X9_learnCalmPlaces bb la tl tl_motion tl_band tl_path cp = (v1, v2, v3, v4, g5, g6, g7, g8) := hw
  rw [hw] at hρ
  have hρ : ρ = F_X9_wise_k1 la v1 v2 v3 v4 g5 g6 g7 g8 := hρ
  unfold F_X9_wise_k1 at hρ
  refine lv_iconst (v := (0 : Int32)) hx hb dX9_wise_4 (by decide) ?_
  refine lv_istore_n (lv' := [(1, .int (0 : Int32)), (0, .ref h_bb)]) hx hb dX9_wise_5 rfl hl (by decide) rfl (fun ls hl => ?_)
  refine lv_ldc2 (own := RX9) (v := (-1 : Int64)) hx hb hown (hts (.constantLong RX9 187 (-1)) (List.mem_of_getElem? (i := 1) rfl)) dX9_wise_6 ?_
  refine lv_lstore_n (lv' := [(2, .long (-1 : Int64)), (1, .int (0 : Int32)), (0, .ref h_bb)]) hx hb dX9_wise_9 rfl hl (by decide) rfl (fun ls hl => ?_)
  refine lv_iconst (v := (0 : Int32)) hx hb dX9_wise_10 (by decide) ?_
  refine lv_istore (lv' := [(4, .int (0 : Int32)), (2, .long (-1 : Int64)), (1, .int (0 : Int32)), (0, .ref h_bb)]) hx hb dX9_wise_11 hl (by decide) rfl (fun ls hl => ?_)
  have hL13 : ∀ (n_13 : Nat) (x4_13 : Int32) (x2_13 : Int64) (x1_13 : Int32) (H : Heap) (locs : List Loc) (ls : Array Slot), (((401 : Int32) : Int32).toInt ≤ (x4_13).toInt + (n_13 : Nat)) ∧ (0 ≤ (x4_13).toInt) → va_P E.1 vwCl [xBandBoat h_bb a_bb (upd bb 12 v1), xRig (a_bb 2) la, xTrial (a_bb 5) a_tl (upd (upd (upd tl 3 v2) 4 v3) 5 v4), xMotion (a_tl 0) g5, xBand (a_tl 1) g6, xI E (a_tl 2) 601 g7, xI E (a_bb 11) 401 g8] H → va_D A [xBandBoat h_bb a_bb (upd bb 12 v1), xRig (a_bb 2) la, xTrial (a_bb 5) a_tl (upd (upd (upd tl 3 v2) 4 v3) 5 v4), xMotion (a_tl 0) g5, xBand (a_tl 1) g6, xI E (a_tl 2) 601 g7, xI E (a_bb 11) 401 g8] → va_S A s.heap H locs → lv_has ls 7 [(4, .int x4_13), (2, .long x2_13), (1, .int x1_13), (0, .ref h_bb)] → (∀ (ox4_13 : Int32) (ox2_13 : Int64) (ox1_13 : Int32) (H : Heap) (locs : List Loc) (ls : Array Slot), F_X9_wise_l13 la g8 n_13 x4_13 x2_13 x1_13 = (ox4_13, ox2_13, ox1_13) → va_P E.1 vwCl [xBandBoat h_bb a_bb (upd bb 12 v1), xRig (a_bb 2) la, xTrial (a_bb 5) a_tl (upd (upd (upd tl 3 v2) 4 v3) 5 v4), xMotion (a_tl 0) g5, xBand (a_tl 1) g6, xI E (a_tl 2) 601 g7, xI E (a_bb 11) 401 g8] H → va_D A [xBandBoat h_bb a_bb (upd bb 12 v1), xRig (a_bb 2) la, xTrial (a_bb 5) a_tl (upd (upd (upd tl 3 v2) 4 v3) 5 v4), xMotion (a_tl 0) g5, xBand (a_tl 1) g6, xI E (a_tl 2) 601 g7, xI E (a_bb 11) 401 g8] → va_S A s.heap H locs → lv_has ls 7 [(4, .int ox4_13), (2, .long ox2_13), (1, .int ox1_13), (0, .ref h_bb)] → W p l e ({ frames := 5, cells := 0, slots := 0, locals := 119 } : Room) s m ([.ref h_bb] : List Value).toArray below meth c H locs 0 0 Q (F0 m 64 ls [])) → W p l e ({ frames := 5, cells := 0, slots := 0, locals := 119 } : Room) s m ([.ref h_bb] : List Value).toArray below meth c H locs 0 0 Q (F0 m 13 ls []) := by
    intro n_13
    induction n_13 with
    | zero =>
      intro x4_13 x2_13 x1_13 H locs ls hM hP hD hS hl hK
      have hM13 := hM
      obtain ⟨σ13, hσ013⟩ : ∃ σ, F_X9_wise_l13 la g8 0 x4_13 x2_13 x1_13 = σ := ⟨_, rfl⟩
      have hσ13 := hσ013.symm
      rw [F_X9_wise_l13] at hσ13
      refine lv_iload hx hb dX9_wise_13 (lv_at hl 0 rfl) ?_
      refine lv_aload_n hx hb dX9_wise_15 rfl (lv_at hl 3 rfl) ?_
      refine va_get (D := E.1) (ci := 9) (v := .ref (a_bb 11)) (C := RX9) (T := TX9) (N := 18) hx hb hts iX9_wise_X9 hown hE.1 hP 0 rfl rfl 11 (by decide) (hts (.fieldLink RX9 72 "BandBoat" "calmPlaces" "[I") (List.mem_of_getElem? (i := 2) rfl)) (fun _ h9 => h9) rfl dX9_wise_16 ?_
      refine ar_len (v := (401 : Int32)) hx hb hE hP 6 rfl rfl dX9_wise_19 ?_
      refine lv_icmp_ge (tgt := 64) hx hb dX9_wise_20 (by decide) (fun c20 => ?_) (fun c20 => ?_)
      · exact hK x4_13 x2_13 x1_13 _ _ _ (hσ013.trans hσ13) hP hD hS (lv_sub hl [0, 1, 2, 3] rfl)
      · exact (cnt_lt0 c20 hM.1).elim
    | succ n_13 ih =>
      intro x4_13 x2_13 x1_13 H locs ls hM hP hD hS hl hK
      have hM13 := hM
      obtain ⟨σ13, hσ013⟩ : ∃ σ, F_X9_wise_l13 la g8 (n_13 + 1) x4_13 x2_13 x1_13 = σ := ⟨_, rfl⟩
      have hσ13 := hσ013.symm
      rw [F_X9_wise_l13] at hσ13
      obtain ⟨τ13, hτ013⟩ : ∃ τ, F_X9_wise_b13 la g8 x4_13 x2_13 x1_13 = τ := ⟨_, rfl⟩
      rw [hτ013] at hσ13
      have hτ13 := hτ013.symm
      unfold F_X9_wise_b13 at hτ13
      refine lv_iload hx hb dX9_wise_13 (lv_at hl 0 rfl) ?_
      refine lv_aload_n hx hb dX9_wise_15 rfl (lv_at hl 3 rfl) ?_
      refine va_get (D := E.1) (ci := 9) (v := .ref (a_bb 11)) (C := RX9) (T := TX9) (N := 18) hx hb hts iX9_wise_X9 hown hE.1 hP 0 rfl rfl 11 (by decide) (hts (.fieldLink RX9 72 "BandBoat" "calmPlaces" "[I") (List.mem_of_getElem? (i := 2) rfl)) (fun _ h9 => h9) rfl dX9_wise_16 ?_
      refine ar_len (v := (401 : Int32)) hx hb hE hP 6 rfl rfl dX9_wise_19 ?_
      refine lv_icmp_ge (tgt := 64) hx hb dX9_wise_20 (by decide) (fun c20 => ?_) (fun c20 => ?_)
      · rw [if_pos c20] at hτ13
        have hσ13 : σ13 = (x4_13, x2_13, x1_13) := by subst hτ13; exact hσ13
        exact hK x4_13 x2_13 x1_13 _ _ _ (hσ013.trans hσ13) hP hD hS (lv_sub hl [0, 1, 2, 3] rfl)
      · rw [if_neg c20] at hτ13
        refine lv_aload_n hx hb dX9_wise_23 rfl (lv_at hl 3 rfl) ?_
        refine va_get (D := E.1) (ci := 9) (v := .ref (a_bb 11)) (C := RX9) (T := TX9) (N := 18) hx hb hts iX9_wise_X9 hown hE.1 hP 0 rfl rfl 11 (by decide) (hts (.fieldLink RX9 72 "BandBoat" "calmPlaces" "[I") (List.mem_of_getElem? (i := 2) rfl)) (fun _ h9 => h9) rfl dX9_wise_24 ?_
        refine lv_iload hx hb dX9_wise_27 (lv_at hl 0 rfl) ?_
        refine ar_ild (k := (Int32.toNatClampNeg x4_13)) (v := (g8 (Int32.toNatClampNeg x4_13))) hx hb hE hP 6 rfl (inb_c hM.2 c20 rfl) rfl rfl dX9_wise_29 ?_
        refine lv_i2l hx hb dX9_wise_30 rfl ?_
        refine lv_sipush (v := (1000 : Int32)) hx hb dX9_wise_31 (by decide) ?_
        refine lv_aload_n hx hb dX9_wise_34 rfl (lv_at hl 3 rfl) ?_
        refine lv_iload hx hb dX9_wise_35 (lv_at hl 0 rfl) ?_
        refine kI (wc := [xBandBoat h_bb a_bb (upd bb 12 v1), xRig (a_bb 2) la]) (wr := [xTrial (a_bb 5) a_tl (upd (upd (upd tl 3 v2) 4 v3) 5 v4), xMotion (a_tl 0) g5, xBand (a_tl 1) g6, xI E (a_tl 2) 601 g7, xI E (a_bb 11) 401 g8]) (wc' := (fun (_ : Unit) => [xBandBoat h_bb a_bb (upd bb 12 v1), xRig (a_bb 2) la])) (wn := (fun (_ : Unit) => [xBandBoat h_bb a_bb (upd bb 12 v1), xRig (a_bb 2) la, xTrial (a_bb 5) a_tl (upd (upd (upd tl 3 v2) 4 v3) 5 v4), xMotion (a_tl 0) g5, xBand (a_tl 1) g6, xI E (a_tl 2) 601 g7, xI E (a_bb 11) 401 g8])) (isC := [0, 1]) (isR := [2, 3, 4, 5, 6]) (is2 := [5, 6, 0, 1, 2, 3, 4]) cx hP hD hS ⟨rfl, rfl, by decide, by decide, by decide, by decide, fun _ => rfl⟩ (rV (As := [.int x4_13]) (rest := [.int (1000 : Int32), .long (Int32.toInt64 (g8 (Int32.toNatClampNeg x4_13)))]) (C := RX9) (q0 := 0) (ci := 9) cx (c_X9_snapOf l E h_bb a_bb (upd bb 12 v1) la x4_13 _) (cwV 1 hts gX9_wise_X9_snapOf rfl rfl rfl (by decide +kernel) ⟨Nat.le_of_ble_eq_true rfl, Nat.le_of_ble_eq_true rfl⟩) rfl rfl rfl rfl hl.1 rfl (Nat.le_of_ble_eq_true rfl) dX9_wise_37 ⟨Nat.zero_le _, Nat.zero_le _⟩) (fun r9 u H locs hw hP hD hS => ?_)
        subst hw
        refine lv_isub hx hb dX9_wise_40 ?_
        refine lv_i2l hx hb dX9_wise_41 rfl ?_
        refine lv_lmul hx hb dX9_wise_42 ?_
        refine lv_topl (fun v10 ev10 => ?_)
        have hτ13 : τ13 = F_X9_wise_k43 x4_13 x2_13 x1_13 v10 := by rw [ev10]; exact hτ13
        unfold F_X9_wise_k43 at hτ13
        refine lv_lstore (lv' := [(5, .long v10), (4, .int x4_13), (2, .long x2_13), (1, .int x1_13), (0, .ref h_bb)]) hx hb dX9_wise_43 hl (by decide) rfl (fun ls hl => ?_)
        refine lv_lload hx hb dX9_wise_45 (lv_at hl 0 rfl) ?_
        refine lv_lload_n hx hb dX9_wise_47 rfl (lv_at hl 2 rfl) ?_
        refine W.lcmp hx hb dX9_wise_48 ?_
        have hJ58 : ∀ (x2_58 : Int64) (x1_58 : Int32) (H : Heap) (locs : List Loc) (ls : Array Slot), τ13 = F_X9_wise_j58 x4_13 x2_58 x1_58 → va_P E.1 vwCl [xBandBoat h_bb a_bb (upd bb 12 v1), xRig (a_bb 2) la, xTrial (a_bb 5) a_tl (upd (upd (upd tl 3 v2) 4 v3) 5 v4), xMotion (a_tl 0) g5, xBand (a_tl 1) g6, xI E (a_tl 2) 601 g7, xI E (a_bb 11) 401 g8] H → va_D A [xBandBoat h_bb a_bb (upd bb 12 v1), xRig (a_bb 2) la, xTrial (a_bb 5) a_tl (upd (upd (upd tl 3 v2) 4 v3) 5 v4), xMotion (a_tl 0) g5, xBand (a_tl 1) g6, xI E (a_tl 2) 601 g7, xI E (a_bb 11) 401 g8] → va_S A s.heap H locs → lv_has ls 7 [(5, .long v10), (4, .int x4_13), (2, .long x2_58), (1, .int x1_58), (0, .ref h_bb)] → W p l e ({ frames := 5, cells := 0, slots := 0, locals := 119 } : Room) s m ([.ref h_bb] : List Value).toArray below meth c H locs 0 0 Q (F0 m 58 ls []) := by
          intro x2_58 x1_58 H locs ls hτ13 hP hD hS hl
          unfold F_X9_wise_j58 at hτ13
          refine lv_iinc (v := (x4_13 + (1 : Int32))) (lv' := [(4, .int (x4_13 + (1 : Int32))), (5, .long v10), (2, .long x2_58), (1, .int x1_58), (0, .ref h_bb)]) hx hb dX9_wise_58 hl (k := 1) rfl rfl (by decide) rfl (fun ls hl => ?_)
          refine lv_goto (tgt := 13) hx hb dX9_wise_61 (by decide) ?_
          have hσ13 : σ13 = F_X9_wise_l13 la g8 n_13 (x4_13 + (1 : Int32)) x2_58 x1_58 := by subst hτ13; exact hσ13
          exact ih (x4_13 + (1 : Int32)) x2_58 x1_58 _ _ _ ⟨cnt_lt c20 hM.1, cnt_lt_pos c20 hM.2⟩ hP hD hS (lv_sub hl [0, 2, 3, 4] rfl) (fun ox4_13 ox2_13 ox1_13 H locs ls he => hK ox4_13 ox2_13 ox1_13 H locs ls (hσ013.trans (hσ13.trans he)))
        refine lv_if_le (tgt := 58) hx hb dX9_wise_49 (by decide) (fun c49 => ?_) (fun c49 => ?_)
        · rw [if_pos c49] at hτ13
          exact hJ58 x2_13 x1_13 _ _ _ hτ13 hP hD hS (lv_sub hl [0, 1, 2, 3, 4] rfl)
        · rw [if_neg c49] at hτ13
          refine lv_lload hx hb dX9_wise_52 (lv_at hl 0 rfl) ?_
          refine lv_lstore_n (lv' := [(2, .long v10), (5, .long v10), (4, .int x4_13), (1, .int x1_13), (0, .ref h_bb)]) hx hb dX9_wise_54 rfl hl (by decide) rfl (fun ls hl => ?_)
          refine lv_iload hx hb dX9_wise_55 (lv_at hl 2 rfl) ?_
          refine lv_istore_n (lv' := [(1, .int x4_13), (2, .long v10), (5, .long v10), (4, .int x4_13), (0, .ref h_bb)]) hx hb dX9_wise_57 rfl hl (by decide) rfl (fun ls hl => ?_)
          exact hJ58 v10 x4_13 _ _ _ hτ13 hP hD hS (lv_sub hl [2, 3, 1, 0, 4] rfl)
  refine hL13 (401) (0 : Int32) (-1 : Int64) (0 : Int32) _ _ _ (by decide) hP hD hS (lv_sub hl [0, 1, 2, 3] rfl) ?_
  intro bx4_13 bx2_13 bx1_13 H locs ls he hP hD hS hl
  rw [he] at hρ
  have hρ : ρ = F_X9_wise_x13 v1 v2 v3 v4 g5 g6 g7 g8 bx1_13 := hρ
  unfold F_X9_wise_x13 at hρ
  refine lv_iload_n hx hb dX9_wise_64 rfl (lv_at hl 2 rfl) ?_
  exact hq bx1_13 (v1, v2, v3, v4, g5, g6, g7, g8) _ _ _ _ dX9_wise_65 rfl (hρ0.trans hρ) hP hD hS
