def F_X8_note_j45 (tl : Nat → Int32) (tl_motion : Nat → Int32) (i : Int32) (v1 : Int32) (g_tl_path_45 : Nat → Int32) : Int32 × Int32 × Int32 × (Nat → Int32) := (if (tl_motion 0) = (0 : Int32) then (if (tl 5) = (-4 : Int32) then (i, v1, i, g_tl_path_45) else (i, v1, (tl 5), g_tl_path_45)) else (i, v1, (tl 5), g_tl_path_45))
def F_X8_note_k20 (tl : Nat → Int32) (tl_motion : Nat → Int32) (tl_path : Nat → Int32) (i : Int32) (v1 : Int32) : Int32 × Int32 × Int32 × (Nat → Int32) := (if (601 : Int32) ≤ i then F_X8_note_j45 tl tl_motion i v1 tl_path else F_X8_note_j45 tl tl_motion i v1 (upd tl_path (Int32.toNatClampNeg i) (tl_motion 2)))
def F_X8_note (tl : Nat → Int32) (tl_motion : Nat → Int32) (tl_path : Nat → Int32) (i : Int32) : Int32 × Int32 × Int32 × (Nat → Int32) := F_X8_note_k20 tl tl_motion tl_path i (mmax (tl 4) (tl_motion 1))
theorem iX8_note_X4 : ∀ w ∈ wsX40, w ∈ wsX8_note := fun _ h => List.mem_cons_of_mem _ (List.mem_append_right _ h)
theorem iX8_note_X8 : ∀ w ∈ wsX80, w ∈ wsX8_note := fun _ h => List.mem_cons_of_mem _ (List.mem_append_left _ (List.mem_append_right _ h))
set_option maxHeartbeats 4000000 in
set_option maxRecDepth 100000 in
theorem c_X8_note (l : Launch) (E : wV) (h_tl : Nat) (a_tl : Nat → Nat) (tl : Nat → Int32) (tl_motion : Nat → Int32) (tl_band : Nat → Int32) (tl_path : Nat → Int32) (i : Int32) (hi : 0 ≤ i.toInt) : MetV l yX8_note wsX8_note ({ frames := 1, cells := 0, slots := 0, locals := 21 } : Room) E ([.ref h_tl, .int i] : List Value) [xTrial h_tl a_tl tl, xMotion (a_tl 0) tl_motion, xBand (a_tl 1) tl_band, xI E (a_tl 2) 601 tl_path] (fun (u : Int32 × Int32 × Int32 × (Nat → Int32)) => F_X8_note tl tl_motion tl_path i = u) (fun (u : Int32 × Int32 × Int32 × (Nat → Int32)) => [xTrial h_tl a_tl (upd (upd (upd tl 3 u.1) 4 u.2.1) 5 u.2.2.1), xMotion (a_tl 0) tl_motion, xBand (a_tl 1) tl_band, xI E (a_tl 2) 601 u.2.2.2]) := by
  refine MetV.of (cc := cX8_note) (maxL := 2) (own := RX8) (by decide) rfl rfl (Nat.le_of_ble_eq_true rfl) ?_
  intro p e s m below meth c A Q ls cx hP hD hS hl hq
  obtain ⟨hx, hb, hml, hown, hts, hE, hA⟩ := id cx
  have hl : lv_has ls 2 [(0, .ref h_tl), (1, .int i)] := hl
  have hP : va_P E.1 vwCl [xTrial h_tl a_tl tl, xMotion (a_tl 0) tl_motion, xBand (a_tl 1) tl_band, xI E (a_tl 2) 601 tl_path] s.heap := hP
  obtain ⟨ρ, hρ0⟩ : ∃ ρ, F_X8_note tl tl_motion tl_path i = ρ := ⟨_, rfl⟩
  have hρ := hρ0.symm
  unfold F_X8_note at hρ
  refine lv_aload_n hx hb dX8_note_0 rfl (lv_at hl 0 rfl) ?_
  refine lv_iload_n hx hb dX8_note_1 rfl (lv_at hl 1 rfl) ?_
  refine va_put (D := E.1) (ci := 8) (v := .int i) (ty := .int) (C := RX8) (T := TX8) (N := 6) hx hb hts iX8_note_X8 tyX8 tyX8_ok nmX8 hown hE.1 hP hD hS 0 rfl rfl 3 (by decide) (hts (.fieldLink RX8 40 "BandBoat$Trial" "tenths" "I") (List.mem_of_getElem? (i := 1) rfl)) (fun _ h9 => h9) rfl (by decide +kernel) rfl rfl (Nat.le_of_ble_eq_true rfl) dX8_note_2 (fun H locs hP hD hS => ?_)
  have hP : va_P E.1 vwCl [xTrial h_tl a_tl (upd tl 3 i), xMotion (a_tl 0) tl_motion, xBand (a_tl 1) tl_band, xI E (a_tl 2) 601 tl_path] H := hP
  have hD : va_D A [xTrial h_tl a_tl (upd tl 3 i), xMotion (a_tl 0) tl_motion, xBand (a_tl 1) tl_band, xI E (a_tl 2) 601 tl_path] := hD
  refine lv_aload_n hx hb dX8_note_5 rfl (lv_at hl 0 rfl) ?_
  refine lv_aload_n hx hb dX8_note_6 rfl (lv_at hl 0 rfl) ?_
  refine va_get (D := E.1) (ci := 8) (v := .int (tl 4)) (C := RX8) (T := TX8) (N := 6) hx hb hts iX8_note_X8 hown hE.1 hP 0 rfl rfl 4 (by decide) (hts (.fieldLink RX8 43 "BandBoat$Trial" "topPace" "I") (List.mem_of_getElem? (i := 2) rfl)) (fun _ h9 => h9) rfl dX8_note_7 ?_
  refine lv_aload_n hx hb dX8_note_10 rfl (lv_at hl 0 rfl) ?_
  refine va_get (D := E.1) (ci := 8) (v := .ref (a_tl 0)) (C := RX8) (T := TX8) (N := 6) hx hb hts iX8_note_X8 hown hE.1 hP 0 rfl rfl 0 (by decide) (hts (.fieldLink RX8 12 "BandBoat$Trial" "motion" "LBandBoat$Motion;") (List.mem_of_getElem? (i := 3) rfl)) (fun _ h9 => h9) rfl dX8_note_11 ?_
  refine va_getN (D := E.1) (ci := 4) (v := .int (tl_motion 1)) (C := RX4) (T := TX4) (N := 7) hx hb hts iX8_note_X4 hown hE.1 hP 1 rfl rfl 1 (by decide) (hE.n 49 rfl) (fun _ h9 => h9) rfl dX8_note_14 ?_
  refine va_mmax hx hb (hml.trans hl.1.symm) hown (hts (.methodLink RX8 77 Lib.Math.max.name) (List.mem_of_getElem? (i := 4) rfl)) (hts (.static Lib.Math.max.name) (List.mem_of_getElem? (i := 5) rfl)) (hts (.initialized "java/lang/Math") (List.mem_of_getElem? (i := 6) rfl)) (hts (.code Lib.Math.max.name Lib.Math.max.code 2 (some .int)) (List.mem_of_getElem? (i := 7) rfl)) (by decide) (Nat.le_of_ble_eq_true rfl) (Nat.zero_le _) (Nat.zero_le _) dX8_note_17 ?_
  refine lv_topi (fun v1 ev1 => ?_)
  have hρ : ρ = F_X8_note_k20 tl tl_motion tl_path i v1 := by rw [ev1]; exact hρ
  unfold F_X8_note_k20 at hρ
  refine va_put (D := E.1) (ci := 8) (v := .int v1) (ty := .int) (C := RX8) (T := TX8) (N := 6) hx hb hts iX8_note_X8 tyX8 tyX8_ok nmX8 hown hE.1 hP hD hS 0 rfl rfl 4 (by decide) (hts (.fieldLink RX8 43 "BandBoat$Trial" "topPace" "I") (List.mem_of_getElem? (i := 2) rfl)) (fun _ h9 => h9) rfl (by decide +kernel) rfl rfl (Nat.le_of_ble_eq_true rfl) dX8_note_20 (fun H locs hP hD hS => ?_)
  have hP : va_P E.1 vwCl [xTrial h_tl a_tl (upd (upd tl 3 i) 4 v1), xMotion (a_tl 0) tl_motion, xBand (a_tl 1) tl_band, xI E (a_tl 2) 601 tl_path] H := hP
  have hD : va_D A [xTrial h_tl a_tl (upd (upd tl 3 i) 4 v1), xMotion (a_tl 0) tl_motion, xBand (a_tl 1) tl_band, xI E (a_tl 2) 601 tl_path] := hD
  refine lv_iload_n hx hb dX8_note_23 rfl (lv_at hl 1 rfl) ?_
  refine lv_aload_n hx hb dX8_note_24 rfl (lv_at hl 0 rfl) ?_
  refine va_get (D := E.1) (ci := 8) (v := .ref (a_tl 2)) (C := RX8) (T := TX8) (N := 6) hx hb hts iX8_note_X8 hown hE.1 hP 0 rfl rfl 2 (by decide) (hts (.fieldLink RX8 25 "BandBoat$Trial" "path" "[I") (List.mem_of_getElem? (i := 8) rfl)) (fun _ h9 => h9) rfl dX8_note_25 ?_
  refine ar_len (v := (601 : Int32)) hx hb hE hP 3 rfl rfl dX8_note_28 ?_
  have hJ45 : ∀ (g_tl_path_45 : Nat → Int32) (H : Heap) (locs : List Loc) (ls : Array Slot), ρ = F_X8_note_j45 tl tl_motion i v1 g_tl_path_45 → va_P E.1 vwCl [xTrial h_tl a_tl (upd (upd tl 3 i) 4 v1), xMotion (a_tl 0) tl_motion, xBand (a_tl 1) tl_band, xI E (a_tl 2) 601 g_tl_path_45] H → va_D A [xTrial h_tl a_tl (upd (upd tl 3 i) 4 v1), xMotion (a_tl 0) tl_motion, xBand (a_tl 1) tl_band, xI E (a_tl 2) 601 g_tl_path_45] → va_S A s.heap H locs → lv_has ls 2 [(0, .ref h_tl), (1, .int i)] → W p l e ({ frames := 1, cells := 0, slots := 0, locals := 21 } : Room) s m ([.ref h_tl, .int i] : List Value).toArray below meth c H locs 0 0 Q (F0 m 45 ls []) := by
    intro g_tl_path_45 H locs ls hρ hP hD hS hl
    unfold F_X8_note_j45 at hρ
    refine lv_aload_n hx hb dX8_note_45 rfl (lv_at hl 0 rfl) ?_
    refine va_get (D := E.1) (ci := 8) (v := .ref (a_tl 0)) (C := RX8) (T := TX8) (N := 6) hx hb hts iX8_note_X8 hown hE.1 hP 0 rfl rfl 0 (by decide) (hts (.fieldLink RX8 12 "BandBoat$Trial" "motion" "LBandBoat$Motion;") (List.mem_of_getElem? (i := 3) rfl)) (fun _ h9 => h9) rfl dX8_note_46 ?_
    refine va_getN (D := E.1) (ci := 4) (v := .int (tl_motion 0)) (C := RX4) (T := TX4) (N := 7) hx hb hts iX8_note_X4 hown hE.1 hP 1 rfl rfl 0 (by decide) (hE.n 47 rfl) (fun _ h9 => h9) rfl dX8_note_49 ?_
    refine lv_if_ne (tgt := 69) hx hb dX8_note_52 (by decide) (fun c52 => ?_) (fun c52 => ?_)
    · rw [if_neg c52] at hρ
      exact hq (i, v1, (tl 5), g_tl_path_45) _ _ _ _ dX8_note_69 (hρ0.trans hρ) hP hD hS
    · rw [if_pos c52] at hρ
      refine lv_aload_n hx hb dX8_note_55 rfl (lv_at hl 0 rfl) ?_
      refine va_get (D := E.1) (ci := 8) (v := .int (tl 5)) (C := RX8) (T := TX8) (N := 6) hx hb hts iX8_note_X8 hown hE.1 hP 0 rfl rfl 5 (by decide) (hts (.fieldLink RX8 46 "BandBoat$Trial" "emptyAt" "I") (List.mem_of_getElem? (i := 9) rfl)) (fun _ h9 => h9) rfl dX8_note_56 ?_
      refine lv_bipush (v := (-4 : Int32)) hx hb dX8_note_59 (by decide) ?_
      refine lv_icmp_ne (tgt := 69) hx hb dX8_note_61 (by decide) (fun c61 => ?_) (fun c61 => ?_)
      · rw [if_neg c61] at hρ
        exact hq (i, v1, (tl 5), g_tl_path_45) _ _ _ _ dX8_note_69 (hρ0.trans hρ) hP hD hS
      · rw [if_pos c61] at hρ
        refine lv_aload_n hx hb dX8_note_64 rfl (lv_at hl 0 rfl) ?_
        refine lv_iload_n hx hb dX8_note_65 rfl (lv_at hl 1 rfl) ?_
        refine va_put (D := E.1) (ci := 8) (v := .int i) (ty := .int) (C := RX8) (T := TX8) (N := 6) hx hb hts iX8_note_X8 tyX8 tyX8_ok nmX8 hown hE.1 hP hD hS 0 rfl rfl 5 (by decide) (hts (.fieldLink RX8 46 "BandBoat$Trial" "emptyAt" "I") (List.mem_of_getElem? (i := 9) rfl)) (fun _ h9 => h9) rfl (by decide +kernel) rfl rfl (Nat.le_of_ble_eq_true rfl) dX8_note_66 (fun H locs hP hD hS => ?_)
        have hP : va_P E.1 vwCl [xTrial h_tl a_tl (upd (upd (upd tl 3 i) 4 v1) 5 i), xMotion (a_tl 0) tl_motion, xBand (a_tl 1) tl_band, xI E (a_tl 2) 601 g_tl_path_45] H := hP
        have hD : va_D A [xTrial h_tl a_tl (upd (upd (upd tl 3 i) 4 v1) 5 i), xMotion (a_tl 0) tl_motion, xBand (a_tl 1) tl_band, xI E (a_tl 2) 601 g_tl_path_45] := hD
        exact hq (i, v1, i, g_tl_path_45) _ _ _ _ dX8_note_69 (hρ0.trans hρ) hP hD hS
  refine lv_icmp_ge (tgt := 45) hx hb dX8_note_29 (by decide) (fun c29 => ?_) (fun c29 => ?_)
  · rw [if_pos c29] at hρ
    exact hJ45 tl_path _ _ _ hρ hP hD hS (lv_sub hl [0, 1] rfl)
  · rw [if_neg c29] at hρ
    refine lv_aload_n hx hb dX8_note_32 rfl (lv_at hl 0 rfl) ?_
    refine va_get (D := E.1) (ci := 8) (v := .ref (a_tl 2)) (C := RX8) (T := TX8) (N := 6) hx hb hts iX8_note_X8 hown hE.1 hP 0 rfl rfl 2 (by decide) (hts (.fieldLink RX8 25 "BandBoat$Trial" "path" "[I") (List.mem_of_getElem? (i := 8) rfl)) (fun _ h9 => h9) rfl dX8_note_33 ?_
    refine lv_iload_n hx hb dX8_note_36 rfl (lv_at hl 1 rfl) ?_
    refine lv_aload_n hx hb dX8_note_37 rfl (lv_at hl 0 rfl) ?_
    refine va_get (D := E.1) (ci := 8) (v := .ref (a_tl 0)) (C := RX8) (T := TX8) (N := 6) hx hb hts iX8_note_X8 hown hE.1 hP 0 rfl rfl 0 (by decide) (hts (.fieldLink RX8 12 "BandBoat$Trial" "motion" "LBandBoat$Motion;") (List.mem_of_getElem? (i := 3) rfl)) (fun _ h9 => h9) rfl dX8_note_38 ?_
    refine va_getN (D := E.1) (ci := 4) (v := .int (tl_motion 2)) (C := RX4) (T := TX4) (N := 7) hx hb hts iX8_note_X4 hown hE.1 hP 1 rfl rfl 2 (by decide) (hE.n 51 rfl) (fun _ h9 => h9) rfl dX8_note_41 ?_
    refine ar_ist (k := (Int32.toNatClampNeg i)) (ws' := [xTrial h_tl a_tl (upd (upd tl 3 i) 4 v1), xMotion (a_tl 0) tl_motion, xBand (a_tl 1) tl_band, xI E (a_tl 2) 601 (upd tl_path (Int32.toNatClampNeg i) (tl_motion 2))]) hx hb hE hP hD hS 3 rfl (inb_c hi c29 rfl) rfl rfl dX8_note_44 (fun H locs hP hD hS => ?_)
    exact hJ45 (upd tl_path (Int32.toNatClampNeg i) (tl_motion 2)) _ _ _ hρ hP hD hS (lv_sub hl [0, 1] rfl)
def F_X8_firstAt_x2  : Int32 := (-4 : Int32)
def F_X8_firstAt_b2 (tl : Nat → Int32) (tl_path : Nat → Int32) (d : Int32) (x2_2 : Int32) : (Int32) ⊕ (Int32) := (if (tl 3) < x2_2 then Sum.inr (F_X8_firstAt_x2) else (if (601 : Int32) ≤ x2_2 then Sum.inr (F_X8_firstAt_x2) else (if (tl_path (Int32.toNatClampNeg x2_2)) < d then Sum.inl (x2_2 + (1 : Int32)) else Sum.inr x2_2)))
def F_X8_firstAt_l2 (tl : Nat → Int32) (tl_path : Nat → Int32) (d : Int32) : Nat → (Int32) → Int32
  | 0, x2_2 => F_X8_firstAt_x2
  | n_2 + 1, x2_2 => match F_X8_firstAt_b2 tl tl_path d x2_2 with
    | Sum.inl c_x2_2 => F_X8_firstAt_l2 tl tl_path d n_2 c_x2_2
    | Sum.inr r_ => r_
def F_X8_firstAt (tl : Nat → Int32) (tl_path : Nat → Int32) (d : Int32) : Int32 := F_X8_firstAt_l2 tl tl_path d (600) (1 : Int32)
theorem iX8_firstAt_X8 : ∀ w ∈ wsX80, w ∈ wsX8_firstAt := fun _ h => List.mem_cons_of_mem _ (List.mem_append_right _ h)
set_option maxHeartbeats 4000000 in
set_option maxRecDepth 100000 in
theorem c_X8_firstAt (l : Launch) (E : wV) (h_tl : Nat) (a_tl : Nat → Nat) (tl : Nat → Int32) (tl_motion : Nat → Int32) (tl_band : Nat → Int32) (tl_path : Nat → Int32) (d : Int32) : MetI l yX8_firstAt wsX8_firstAt ({ frames := 0, cells := 0, slots := 0, locals := 0 } : Room) E ([.ref h_tl, .int d] : List Value) [xTrial h_tl a_tl tl, xMotion (a_tl 0) tl_motion, xBand (a_tl 1) tl_band, xI E (a_tl 2) 601 tl_path] (fun (r : Int32) (_ : Unit) => r = F_X8_firstAt tl tl_path d) (fun (_ : Unit) => [xTrial h_tl a_tl tl, xMotion (a_tl 0) tl_motion, xBand (a_tl 1) tl_band, xI E (a_tl 2) 601 tl_path]) := by
  refine MetI.of (cc := cX8_firstAt) (maxL := 3) (own := RX8) (by decide) rfl rfl (Nat.le_of_ble_eq_true rfl) ?_
  intro p e s m below meth c A Q ls cx hP hD hS hl hq
  obtain ⟨hx, hb, hml, hown, hts, hE, hA⟩ := id cx
  have hl : lv_has ls 3 [(0, .ref h_tl), (1, .int d)] := hl
  have hP : va_P E.1 vwCl [xTrial h_tl a_tl tl, xMotion (a_tl 0) tl_motion, xBand (a_tl 1) tl_band, xI E (a_tl 2) 601 tl_path] s.heap := hP
  obtain ⟨ρ, hρ0⟩ : ∃ ρ, F_X8_firstAt tl tl_path d = ρ := ⟨_, rfl⟩
  have hρ := hρ0.symm
  unfold F_X8_firstAt at hρ
  refine lv_iconst (v := (1 : Int32)) hx hb dX8_firstAt_0 (by decide) ?_
  refine lv_istore_n (lv' := [(2, .int (1 : Int32)), (0, .ref h_tl), (1, .int d)]) hx hb dX8_firstAt_1 rfl hl (by decide) rfl (fun ls hl => ?_)
  have hX2 : ∀ (x2_2 : Int32) (H : Heap) (locs : List Loc) (ls : Array Slot), ρ = F_X8_firstAt_x2 → va_P E.1 vwCl [xTrial h_tl a_tl tl, xMotion (a_tl 0) tl_motion, xBand (a_tl 1) tl_band, xI E (a_tl 2) 601 tl_path] H → va_D A [xTrial h_tl a_tl tl, xMotion (a_tl 0) tl_motion, xBand (a_tl 1) tl_band, xI E (a_tl 2) 601 tl_path] → va_S A s.heap H locs → lv_has ls 3 [(2, .int x2_2), (0, .ref h_tl), (1, .int d)] → W p l e ({ frames := 0, cells := 0, slots := 0, locals := 0 } : Room) s m ([.ref h_tl, .int d] : List Value).toArray below meth c H locs 0 0 Q (F0 m 37 ls []) := by
    intro x2_2 H locs ls hρ hP hD hS hl
    unfold F_X8_firstAt_x2 at hρ
    refine lv_bipush (v := (-4 : Int32)) hx hb dX8_firstAt_37 (by decide) ?_
    exact hq (-4 : Int32) () _ _ _ _ dX8_firstAt_39 rfl (hρ0.trans hρ).symm hP hD hS
  have hL2 : ∀ (n_2 : Nat) (x2_2 : Int32) (H : Heap) (locs : List Loc) (ls : Array Slot), (((601 : Int32) : Int32).toInt ≤ (x2_2).toInt + (n_2 : Nat)) ∧ (0 ≤ (x2_2).toInt) → ρ = F_X8_firstAt_l2 tl tl_path d n_2 x2_2 → va_P E.1 vwCl [xTrial h_tl a_tl tl, xMotion (a_tl 0) tl_motion, xBand (a_tl 1) tl_band, xI E (a_tl 2) 601 tl_path] H → va_D A [xTrial h_tl a_tl tl, xMotion (a_tl 0) tl_motion, xBand (a_tl 1) tl_band, xI E (a_tl 2) 601 tl_path] → va_S A s.heap H locs → lv_has ls 3 [(2, .int x2_2), (0, .ref h_tl), (1, .int d)] → W p l e ({ frames := 0, cells := 0, slots := 0, locals := 0 } : Room) s m ([.ref h_tl, .int d] : List Value).toArray below meth c H locs 0 0 Q (F0 m 2 ls []) := by
    intro n_2
    induction n_2 with
    | zero =>
      intro x2_2 H locs ls hM hρ hP hD hS hl
      have hM2 := hM
      rw [F_X8_firstAt_l2] at hρ
      refine lv_iload_n hx hb dX8_firstAt_2 rfl (lv_at hl 0 rfl) ?_
      refine lv_aload_n hx hb dX8_firstAt_3 rfl (lv_at hl 1 rfl) ?_
      refine va_get (D := E.1) (ci := 8) (v := .int (tl 3)) (C := RX8) (T := TX8) (N := 6) hx hb hts iX8_firstAt_X8 hown hE.1 hP 0 rfl rfl 3 (by decide) (hts (.fieldLink RX8 40 "BandBoat$Trial" "tenths" "I") (List.mem_of_getElem? (i := 1) rfl)) (fun _ h9 => h9) rfl dX8_firstAt_4 ?_
      refine lv_icmp_gt (tgt := 37) hx hb dX8_firstAt_7 (by decide) (fun c7 => ?_) (fun c7 => ?_)
      · exact hX2 x2_2 _ _ _ hρ hP hD hS (lv_sub hl [0, 1, 2] rfl)
      · refine lv_iload_n hx hb dX8_firstAt_10 rfl (lv_at hl 0 rfl) ?_
        refine lv_aload_n hx hb dX8_firstAt_11 rfl (lv_at hl 1 rfl) ?_
        refine va_get (D := E.1) (ci := 8) (v := .ref (a_tl 2)) (C := RX8) (T := TX8) (N := 6) hx hb hts iX8_firstAt_X8 hown hE.1 hP 0 rfl rfl 2 (by decide) (hts (.fieldLink RX8 25 "BandBoat$Trial" "path" "[I") (List.mem_of_getElem? (i := 2) rfl)) (fun _ h9 => h9) rfl dX8_firstAt_12 ?_
        refine ar_len (v := (601 : Int32)) hx hb hE hP 3 rfl rfl dX8_firstAt_15 ?_
        refine lv_icmp_ge (tgt := 37) hx hb dX8_firstAt_16 (by decide) (fun c16 => ?_) (fun c16 => ?_)
        · exact hX2 x2_2 _ _ _ hρ hP hD hS (lv_sub hl [0, 1, 2] rfl)
        · exact (cnt_lt0 c16 hM.1).elim
    | succ n_2 ih =>
      intro x2_2 H locs ls hM hρ hP hD hS hl
      have hM2 := hM
      rw [F_X8_firstAt_l2] at hρ
      obtain ⟨τ2, hτ02⟩ : ∃ τ, F_X8_firstAt_b2 tl tl_path d x2_2 = τ := ⟨_, rfl⟩
      rw [hτ02] at hρ
      have hτ2 := hτ02.symm
      unfold F_X8_firstAt_b2 at hτ2
      refine lv_iload_n hx hb dX8_firstAt_2 rfl (lv_at hl 0 rfl) ?_
      refine lv_aload_n hx hb dX8_firstAt_3 rfl (lv_at hl 1 rfl) ?_
      refine va_get (D := E.1) (ci := 8) (v := .int (tl 3)) (C := RX8) (T := TX8) (N := 6) hx hb hts iX8_firstAt_X8 hown hE.1 hP 0 rfl rfl 3 (by decide) (hts (.fieldLink RX8 40 "BandBoat$Trial" "tenths" "I") (List.mem_of_getElem? (i := 1) rfl)) (fun _ h9 => h9) rfl dX8_firstAt_4 ?_
      refine lv_icmp_gt (tgt := 37) hx hb dX8_firstAt_7 (by decide) (fun c7 => ?_) (fun c7 => ?_)
      · rw [if_pos c7] at hτ2
        have hρ : ρ = F_X8_firstAt_x2 := by subst hτ2; exact hρ
        exact hX2 x2_2 _ _ _ hρ hP hD hS (lv_sub hl [0, 1, 2] rfl)
      · rw [if_neg c7] at hτ2
        refine lv_iload_n hx hb dX8_firstAt_10 rfl (lv_at hl 0 rfl) ?_
        refine lv_aload_n hx hb dX8_firstAt_11 rfl (lv_at hl 1 rfl) ?_
        refine va_get (D := E.1) (ci := 8) (v := .ref (a_tl 2)) (C := RX8) (T := TX8) (N := 6) hx hb hts iX8_firstAt_X8 hown hE.1 hP 0 rfl rfl 2 (by decide) (hts (.fieldLink RX8 25 "BandBoat$Trial" "path" "[I") (List.mem_of_getElem? (i := 2) rfl)) (fun _ h9 => h9) rfl dX8_firstAt_12 ?_
        refine ar_len (v := (601 : Int32)) hx hb hE hP 3 rfl rfl dX8_firstAt_15 ?_
        refine lv_icmp_ge (tgt := 37) hx hb dX8_firstAt_16 (by decide) (fun c16 => ?_) (fun c16 => ?_)
        · rw [if_pos c16] at hτ2
          have hρ : ρ = F_X8_firstAt_x2 := by subst hτ2; exact hρ
          exact hX2 x2_2 _ _ _ hρ hP hD hS (lv_sub hl [0, 1, 2] rfl)
        · rw [if_neg c16] at hτ2
          refine lv_aload_n hx hb dX8_firstAt_19 rfl (lv_at hl 1 rfl) ?_
          refine va_get (D := E.1) (ci := 8) (v := .ref (a_tl 2)) (C := RX8) (T := TX8) (N := 6) hx hb hts iX8_firstAt_X8 hown hE.1 hP 0 rfl rfl 2 (by decide) (hts (.fieldLink RX8 25 "BandBoat$Trial" "path" "[I") (List.mem_of_getElem? (i := 2) rfl)) (fun _ h9 => h9) rfl dX8_firstAt_20 ?_
          refine lv_iload_n hx hb dX8_firstAt_23 rfl (lv_at hl 0 rfl) ?_
          refine ar_ild (k := (Int32.toNatClampNeg x2_2)) (v := (tl_path (Int32.toNatClampNeg x2_2))) hx hb hE hP 3 rfl (inb_c hM.2 c16 rfl) rfl rfl dX8_firstAt_24 ?_
          refine lv_iload_n hx hb dX8_firstAt_25 rfl (lv_at hl 2 rfl) ?_
          refine lv_icmp_lt (tgt := 31) hx hb dX8_firstAt_26 (by decide) (fun c26 => ?_) (fun c26 => ?_)
          · rw [if_pos c26] at hτ2
            refine lv_iinc (v := (x2_2 + (1 : Int32))) (lv' := [(2, .int (x2_2 + (1 : Int32))), (0, .ref h_tl), (1, .int d)]) hx hb dX8_firstAt_31 hl (k := 0) rfl rfl (by decide) rfl (fun ls hl => ?_)
            refine lv_goto (tgt := 2) hx hb dX8_firstAt_34 (by decide) ?_
            have hρ : ρ = F_X8_firstAt_l2 tl tl_path d n_2 (x2_2 + (1 : Int32)) := by subst hτ2; exact hρ
            exact ih (x2_2 + (1 : Int32)) _ _ _ ⟨cnt_lt c16 hM.1, cnt_lt_pos c16 hM.2⟩ hρ hP hD hS (lv_sub hl [0, 1, 2] rfl)
          · rw [if_neg c26] at hτ2
            refine lv_iload_n hx hb dX8_firstAt_29 rfl (lv_at hl 0 rfl) ?_
            have hρ : ρ = x2_2 := by subst hτ2; exact hρ
            exact hq x2_2 () _ _ _ _ dX8_firstAt_30 rfl (hρ0.trans hρ).symm hP hD hS
  exact hL2 (600) (1 : Int32) _ _ _ (by decide) hρ hP hD hS (lv_sub hl [0, 1, 2] rfl)
def F_X8_reachedBy_k8 (tl_path : Nat → Int32) (d : Int32) (v1 : Int32) : Int32 := (if v1 ≤ (0 : Int32) then (0 : Int32) else (if (601 : Int32) ≤ v1 then (0 : Int32) else (if (tl_path (Int32.toNatClampNeg v1)) < d then (0 : Int32) else (1 : Int32))))
def F_X8_reachedBy (tl : Nat → Int32) (tl_path : Nat → Int32) (t : Int32) (d : Int32) : Int32 := F_X8_reachedBy_k8 tl_path d (mmin t (tl 3))
theorem iX8_reachedBy_X8 : ∀ w ∈ wsX80, w ∈ wsX8_reachedBy := fun _ h => List.mem_cons_of_mem _ (List.mem_append_right _ h)
set_option maxHeartbeats 4000000 in
set_option maxRecDepth 100000 in
theorem c_X8_reachedBy (l : Launch) (E : wV) (h_tl : Nat) (a_tl : Nat → Nat) (tl : Nat → Int32) (tl_motion : Nat → Int32) (tl_band : Nat → Int32) (tl_path : Nat → Int32) (t : Int32) (d : Int32) : MetI l yX8_reachedBy wsX8_reachedBy ({ frames := 1, cells := 0, slots := 0, locals := 21 } : Room) E ([.ref h_tl, .int t, .int d] : List Value) [xTrial h_tl a_tl tl, xMotion (a_tl 0) tl_motion, xBand (a_tl 1) tl_band, xI E (a_tl 2) 601 tl_path] (fun (r : Int32) (_ : Unit) => r = F_X8_reachedBy tl tl_path t d) (fun (_ : Unit) => [xTrial h_tl a_tl tl, xMotion (a_tl 0) tl_motion, xBand (a_tl 1) tl_band, xI E (a_tl 2) 601 tl_path]) := by
  refine MetI.of (cc := cX8_reachedBy) (maxL := 4) (own := RX8) (by decide) rfl rfl (Nat.le_of_ble_eq_true rfl) ?_
  intro p e s m below meth c A Q ls cx hP hD hS hl hq
  obtain ⟨hx, hb, hml, hown, hts, hE, hA⟩ := id cx
  have hl : lv_has ls 4 [(0, .ref h_tl), (1, .int t), (2, .int d)] := hl
  have hP : va_P E.1 vwCl [xTrial h_tl a_tl tl, xMotion (a_tl 0) tl_motion, xBand (a_tl 1) tl_band, xI E (a_tl 2) 601 tl_path] s.heap := hP
  obtain ⟨ρ, hρ0⟩ : ∃ ρ, F_X8_reachedBy tl tl_path t d = ρ := ⟨_, rfl⟩
  have hρ := hρ0.symm
  unfold F_X8_reachedBy at hρ
  refine lv_iload_n hx hb dX8_reachedBy_0 rfl (lv_at hl 1 rfl) ?_
  refine lv_aload_n hx hb dX8_reachedBy_1 rfl (lv_at hl 0 rfl) ?_
  refine va_get (D := E.1) (ci := 8) (v := .int (tl 3)) (C := RX8) (T := TX8) (N := 6) hx hb hts iX8_reachedBy_X8 hown hE.1 hP 0 rfl rfl 3 (by decide) (hts (.fieldLink RX8 40 "BandBoat$Trial" "tenths" "I") (List.mem_of_getElem? (i := 1) rfl)) (fun _ h9 => h9) rfl dX8_reachedBy_2 ?_
  refine va_mmin hx hb (hml.trans hl.1.symm) hown (hts (.methodLink RX8 86 Lib.Math.min.name) (List.mem_of_getElem? (i := 2) rfl)) (hts (.static Lib.Math.min.name) (List.mem_of_getElem? (i := 3) rfl)) (hts (.initialized "java/lang/Math") (List.mem_of_getElem? (i := 4) rfl)) (hts (.code Lib.Math.min.name Lib.Math.min.code 2 (some .int)) (List.mem_of_getElem? (i := 5) rfl)) (by decide) (Nat.le_of_ble_eq_true rfl) (Nat.zero_le _) (Nat.zero_le _) dX8_reachedBy_5 ?_
  refine lv_topi (fun v1 ev1 => ?_)
  have hρ : ρ = F_X8_reachedBy_k8 tl_path d v1 := by rw [ev1]; exact hρ
  unfold F_X8_reachedBy_k8 at hρ
  refine lv_istore_n (lv' := [(3, .int v1), (0, .ref h_tl), (1, .int t), (2, .int d)]) hx hb dX8_reachedBy_8 rfl hl (by decide) rfl (fun ls hl => ?_)
  refine lv_iload_n hx hb dX8_reachedBy_9 rfl (lv_at hl 0 rfl) ?_
  refine lv_if_le (tgt := 36) hx hb dX8_reachedBy_10 (by decide) (fun c10 => ?_) (fun c10 => ?_)
  · rw [if_pos c10] at hρ
    refine lv_iconst (v := (0 : Int32)) hx hb dX8_reachedBy_36 (by decide) ?_
    exact hq (0 : Int32) () _ _ _ _ dX8_reachedBy_37 rfl (hρ0.trans hρ).symm hP hD hS
  · rw [if_neg c10] at hρ
    refine lv_iload_n hx hb dX8_reachedBy_13 rfl (lv_at hl 0 rfl) ?_
    refine lv_aload_n hx hb dX8_reachedBy_14 rfl (lv_at hl 1 rfl) ?_
    refine va_get (D := E.1) (ci := 8) (v := .ref (a_tl 2)) (C := RX8) (T := TX8) (N := 6) hx hb hts iX8_reachedBy_X8 hown hE.1 hP 0 rfl rfl 2 (by decide) (hts (.fieldLink RX8 25 "BandBoat$Trial" "path" "[I") (List.mem_of_getElem? (i := 6) rfl)) (fun _ h9 => h9) rfl dX8_reachedBy_15 ?_
    refine ar_len (v := (601 : Int32)) hx hb hE hP 3 rfl rfl dX8_reachedBy_18 ?_
    refine lv_icmp_ge (tgt := 36) hx hb dX8_reachedBy_19 (by decide) (fun c19 => ?_) (fun c19 => ?_)
    · rw [if_pos c19] at hρ
      refine lv_iconst (v := (0 : Int32)) hx hb dX8_reachedBy_36 (by decide) ?_
      exact hq (0 : Int32) () _ _ _ _ dX8_reachedBy_37 rfl (hρ0.trans hρ).symm hP hD hS
    · rw [if_neg c19] at hρ
      refine lv_aload_n hx hb dX8_reachedBy_22 rfl (lv_at hl 1 rfl) ?_
      refine va_get (D := E.1) (ci := 8) (v := .ref (a_tl 2)) (C := RX8) (T := TX8) (N := 6) hx hb hts iX8_reachedBy_X8 hown hE.1 hP 0 rfl rfl 2 (by decide) (hts (.fieldLink RX8 25 "BandBoat$Trial" "path" "[I") (List.mem_of_getElem? (i := 6) rfl)) (fun _ h9 => h9) rfl dX8_reachedBy_23 ?_
      refine lv_iload_n hx hb dX8_reachedBy_26 rfl (lv_at hl 0 rfl) ?_
      refine ar_ild (k := (Int32.toNatClampNeg v1)) (v := (tl_path (Int32.toNatClampNeg v1))) hx hb hE hP 3 rfl (inb_c (i_nn' c10) c19 rfl) rfl rfl dX8_reachedBy_27 ?_
      refine lv_iload_n hx hb dX8_reachedBy_28 rfl (lv_at hl 3 rfl) ?_
      refine lv_icmp_lt (tgt := 36) hx hb dX8_reachedBy_29 (by decide) (fun c29 => ?_) (fun c29 => ?_)
      · rw [if_pos c29] at hρ
        refine lv_iconst (v := (0 : Int32)) hx hb dX8_reachedBy_36 (by decide) ?_
        exact hq (0 : Int32) () _ _ _ _ dX8_reachedBy_37 rfl (hρ0.trans hρ).symm hP hD hS
      · rw [if_neg c29] at hρ
        refine lv_iconst (v := (1 : Int32)) hx hb dX8_reachedBy_32 (by decide) ?_
        refine lv_goto (tgt := 37) hx hb dX8_reachedBy_33 (by decide) ?_
        exact hq (1 : Int32) () _ _ _ _ dX8_reachedBy_37 rfl (hρ0.trans hρ).symm hP hD hS
def F_X8_make_j159 (x7_71 : Int32) (g_tl_motion_128 : Nat → Int32) (v5 : Int32) (v6 : Int32) (v7 : Int32) (g8 : Nat → Int32) (s_tl_motion_0_159 : Int32) : (Int32 × Int32 × Int32 × Int32 × (Nat → Int32) × (Nat → Int32)) ⊕ (Int32 × Int32 × Int32 × Int32 × (Nat → Int32) × (Nat → Int32)) := Sum.inl ((x7_71 + (1 : Int32)), v5, v6, v7, (upd g_tl_motion_128 0 s_tl_motion_0_159), g8)
def F_X8_make_k156 (x7_71 : Int32) (g_tl_motion_128 : Nat → Int32) (v5 : Int32) (v6 : Int32) (v7 : Int32) (g8 : Nat → Int32) (v9 : Int32) : (Int32 × Int32 × Int32 × Int32 × (Nat → Int32) × (Nat → Int32)) ⊕ (Int32 × Int32 × Int32 × Int32 × (Nat → Int32) × (Nat → Int32)) := F_X8_make_j159 x7_71 g_tl_motion_128 v5 v6 v7 g8 v9
def F_X8_make_k131 (turns : Int32) (twice : Int32) (x7_71 : Int32) (g_tl_motion_128 : Nat → Int32) (v5 : Int32) (v6 : Int32) (v7 : Int32) (g8 : Nat → Int32) : (Int32 × Int32 × Int32 × Int32 × (Nat → Int32) × (Nat → Int32)) ⊕ (Int32 × Int32 × Int32 × Int32 × (Nat → Int32) × (Nat → Int32)) := (if twice = (0 : Int32) then F_X8_make_j159 x7_71 g_tl_motion_128 v5 v6 v7 g8 (g_tl_motion_128 0) else (if v7 = x7_71 then F_X8_make_k156 x7_71 g_tl_motion_128 v5 v6 v7 g8 ((100 : Int32) * turns) else F_X8_make_j159 x7_71 g_tl_motion_128 v5 v6 v7 g8 (g_tl_motion_128 0)))
def F_X8_make_j128 (tl : Nat → Int32) (turns : Int32) (twice : Int32) (x7_71 : Int32) (s_tl_3_71 : Int32) (s_tl_4_71 : Int32) (s_tl_5_71 : Int32) (g_tl_path_71 : Nat → Int32) (g_tl_motion_128 : Nat → Int32) : (Int32 × Int32 × Int32 × Int32 × (Nat → Int32) × (Nat → Int32)) ⊕ (Int32 × Int32 × Int32 × Int32 × (Nat → Int32) × (Nat → Int32)) := (match F_X8_note (upd (upd (upd tl 3 s_tl_3_71) 4 s_tl_4_71) 5 s_tl_5_71) g_tl_motion_128 g_tl_path_71 x7_71 with | (v5, v6, v7, g8) => F_X8_make_k131 turns twice x7_71 g_tl_motion_128 v5 v6 v7 g8)
def F_X8_make_k125 (tl : Nat → Int32) (turns : Int32) (twice : Int32) (x7_71 : Int32) (s_tl_3_71 : Int32) (s_tl_4_71 : Int32) (s_tl_5_71 : Int32) (g_tl_path_71 : Nat → Int32) (g10 : Nat → Int32) : (Int32 × Int32 × Int32 × Int32 × (Nat → Int32) × (Nat → Int32)) ⊕ (Int32 × Int32 × Int32 × Int32 × (Nat → Int32) × (Nat → Int32)) := F_X8_make_j128 tl turns twice x7_71 s_tl_3_71 s_tl_4_71 s_tl_5_71 g_tl_path_71 g10
def F_X8_make_j115 (tl : Nat → Int32) (rg : Nat → Int32) (turns : Int32) (z : Int32) (twice : Int32) (g1 : Nat → Int32) (x7_71 : Int32) (s_tl_3_71 : Int32) (s_tl_4_71 : Int32) (s_tl_5_71 : Int32) (g_tl_motion_71 : Nat → Int32) (g_tl_path_71 : Nat → Int32) : (Int32 × Int32 × Int32 × Int32 × (Nat → Int32) × (Nat → Int32)) ⊕ (Int32 × Int32 × Int32 × Int32 × (Nat → Int32) × (Nat → Int32)) := F_X8_make_k125 tl turns twice x7_71 s_tl_3_71 s_tl_4_71 s_tl_5_71 g_tl_path_71 (F_X4_step g_tl_motion_71 rg g1 z)
def F_X8_make_k109 (tl : Nat → Int32) (turns : Int32) (twice : Int32) (x7_71 : Int32) (s_tl_3_71 : Int32) (s_tl_4_71 : Int32) (s_tl_5_71 : Int32) (g_tl_motion_71 : Nat → Int32) (g_tl_path_71 : Nat → Int32) (v11 : Int32) (v12 : Int32) (v13 : Int32) (v14 : Int32) : (Int32 × Int32 × Int32 × Int32 × (Nat → Int32) × (Nat → Int32)) ⊕ (Int32 × Int32 × Int32 × Int32 × (Nat → Int32) × (Nat → Int32)) := F_X8_make_j128 tl turns twice x7_71 s_tl_3_71 s_tl_4_71 s_tl_5_71 g_tl_path_71 (upd (upd (upd (upd g_tl_motion_71 2 v11) 3 v12) 4 v13) 5 v14)
def F_X8_make_b71 (tl : Nat → Int32) (rg : Nat → Int32) (turns : Int32) (z : Int32) (most : Int32) (twice : Int32) (g1 : Nat → Int32) (y0_66 : Int32) (x7_71 : Int32) (s_tl_3_71 : Int32) (s_tl_4_71 : Int32) (s_tl_5_71 : Int32) (g_tl_motion_71 : Nat → Int32) (g_tl_path_71 : Nat → Int32) : (Int32 × Int32 × Int32 × Int32 × (Nat → Int32) × (Nat → Int32)) ⊕ (Int32 × Int32 × Int32 × Int32 × (Nat → Int32) × (Nat → Int32)) := (if most < x7_71 then Sum.inr (x7_71, s_tl_3_71, s_tl_4_71, s_tl_5_71, g_tl_motion_71, g_tl_path_71) else (if (F_X4_isOver g_tl_motion_71) = (0 : Int32) then (if y0_66 = (0 : Int32) then F_X8_make_j115 tl rg turns z twice g1 x7_71 s_tl_3_71 s_tl_4_71 s_tl_5_71 g_tl_motion_71 g_tl_path_71 else (if (g_tl_motion_71 6) = (0 : Int32) then F_X8_make_j115 tl rg turns z twice g1 x7_71 s_tl_3_71 s_tl_4_71 s_tl_5_71 g_tl_motion_71 g_tl_path_71 else (match F_X4_drift g_tl_motion_71 rg (0 : Int32) with | (v11, v12, v13, v14) => F_X8_make_k109 tl turns twice x7_71 s_tl_3_71 s_tl_4_71 s_tl_5_71 g_tl_motion_71 g_tl_path_71 v11 v12 v13 v14))) else Sum.inr (x7_71, s_tl_3_71, s_tl_4_71, s_tl_5_71, g_tl_motion_71, g_tl_path_71)))
def F_X8_make_l71 (tl : Nat → Int32) (rg : Nat → Int32) (turns : Int32) (z : Int32) (most : Int32) (twice : Int32) (g1 : Nat → Int32) (y0_66 : Int32) : Nat → (Int32) → (Int32) → (Int32) → (Int32) → (Nat → Int32) → (Nat → Int32) → Int32 × Int32 × Int32 × Int32 × (Nat → Int32) × (Nat → Int32)
  | 0, x7_71, s_tl_3_71, s_tl_4_71, s_tl_5_71, g_tl_motion_71, g_tl_path_71 => (x7_71, s_tl_3_71, s_tl_4_71, s_tl_5_71, g_tl_motion_71, g_tl_path_71)
  | n_71 + 1, x7_71, s_tl_3_71, s_tl_4_71, s_tl_5_71, g_tl_motion_71, g_tl_path_71 => match F_X8_make_b71 tl rg turns z most twice g1 y0_66 x7_71 s_tl_3_71 s_tl_4_71 s_tl_5_71 g_tl_motion_71 g_tl_path_71 with
    | Sum.inl (c_x7_71, c_s_tl_3_71, c_s_tl_4_71, c_s_tl_5_71, c_g_tl_motion_71, c_g_tl_path_71) => F_X8_make_l71 tl rg turns z most twice g1 y0_66 n_71 c_x7_71 c_s_tl_3_71 c_s_tl_4_71 c_s_tl_5_71 c_g_tl_motion_71 c_g_tl_path_71
    | Sum.inr r_ => r_
def F_X8_make_x71 (g1 : Nat → Int32) (bs_tl_3_71 : Int32) (bs_tl_4_71 : Int32) (bs_tl_5_71 : Int32) (bg_tl_motion_71 : Nat → Int32) (bg_tl_path_71 : Nat → Int32) : Int32 × Int32 × Int32 × (Nat → Int32) × (Nat → Int32) × (Nat → Int32) := (bs_tl_3_71, bs_tl_4_71, bs_tl_5_71, bg_tl_motion_71, g1, bg_tl_path_71)
def F_X8_make_j66 (tl : Nat → Int32) (tl_path : Nat → Int32) (rg : Nat → Int32) (turns : Int32) (z : Int32) (most : Int32) (twice : Int32) (g1 : Nat → Int32) (g2 : Nat → Int32) (v3 : Int32) (y0_47 : Int32) (y0_66 : Int32) : Int32 × Int32 × Int32 × (Nat → Int32) × (Nat → Int32) × (Nat → Int32) := (match F_X8_make_l71 tl rg turns z most twice g1 y0_66 ((Int32.toInt most).toNat) (1 : Int32) (0 : Int32) (0 : Int32) y0_47 (upd g2 0 v3) tl_path with | (bx7_71, bs_tl_3_71, bs_tl_4_71, bs_tl_5_71, bg_tl_motion_71, bg_tl_path_71) => F_X8_make_x71 g1 bs_tl_3_71 bs_tl_4_71 bs_tl_5_71 bg_tl_motion_71 bg_tl_path_71)
def F_X8_make_j61 (tl : Nat → Int32) (tl_path : Nat → Int32) (rg : Nat → Int32) (turns : Int32) (z : Int32) (most : Int32) (twice : Int32) (g1 : Nat → Int32) (g2 : Nat → Int32) (v3 : Int32) (y0_47 : Int32) : Int32 × Int32 × Int32 × (Nat → Int32) × (Nat → Int32) × (Nat → Int32) := F_X8_make_j66 tl tl_path rg turns z most twice g1 g2 v3 y0_47 (1 : Int32)
def F_X8_make_j47 (tl : Nat → Int32) (tl_path : Nat → Int32) (rg : Nat → Int32) (turns : Int32) (z : Int32) (most : Int32) (twice : Int32) (g1 : Nat → Int32) (g2 : Nat → Int32) (v3 : Int32) (y0_47 : Int32) : Int32 × Int32 × Int32 × (Nat → Int32) × (Nat → Int32) × (Nat → Int32) := (if z < (0 : Int32) then F_X8_make_j61 tl tl_path rg turns z most twice g1 g2 v3 y0_47 else (if (rg 16) = (0 : Int32) then F_X8_make_j61 tl tl_path rg turns z most twice g1 g2 v3 y0_47 else F_X8_make_j66 tl tl_path rg turns z most twice g1 g2 v3 y0_47 (0 : Int32)))
def F_X8_make_k23 (tl : Nat → Int32) (tl_path : Nat → Int32) (rg : Nat → Int32) (turns : Int32) (z : Int32) (most : Int32) (twice : Int32) (g1 : Nat → Int32) (g2 : Nat → Int32) (v3 : Int32) : Int32 × Int32 × Int32 × (Nat → Int32) × (Nat → Int32) × (Nat → Int32) := (if turns = (0 : Int32) then F_X8_make_j47 tl tl_path rg turns z most twice g1 g2 v3 (0 : Int32) else F_X8_make_j47 tl tl_path rg turns z most twice g1 g2 v3 (-4 : Int32))
def F_X8_make_k12 (tl : Nat → Int32) (tl_path : Nat → Int32) (rg : Nat → Int32) (turns : Int32) (z : Int32) (most : Int32) (twice : Int32) (g1 : Nat → Int32) (g2 : Nat → Int32) : Int32 × Int32 × Int32 × (Nat → Int32) × (Nat → Int32) × (Nat → Int32) := F_X8_make_k23 tl tl_path rg turns z most twice g1 g2 ((100 : Int32) * turns)
def F_X8_make_k5 (tl : Nat → Int32) (tl_motion : Nat → Int32) (tl_path : Nat → Int32) (rg : Nat → Int32) (turns : Int32) (z : Int32) (most : Int32) (twice : Int32) (g1 : Nat → Int32) : Int32 × Int32 × Int32 × (Nat → Int32) × (Nat → Int32) × (Nat → Int32) := F_X8_make_k12 tl tl_path rg turns z most twice g1 (F_X4_rest tl_motion)
def F_X8_make (tl : Nat → Int32) (tl_motion : Nat → Int32) (tl_band : Nat → Int32) (tl_path : Nat → Int32) (rg : Nat → Int32) (turns : Int32) (z : Int32) (most : Int32) (twice : Int32) : Int32 × Int32 × Int32 × (Nat → Int32) × (Nat → Int32) × (Nat → Int32) := F_X8_make_k5 tl tl_motion tl_path rg turns z most twice (F_X0_fit tl_band rg)
theorem iX8_make_X4 : ∀ w ∈ wsX40, w ∈ wsX8_make := fun _ h => List.mem_cons_of_mem _ (List.mem_append_left _ (List.mem_append_left _ (List.mem_append_right _ h)))
theorem iX8_make_X6 : ∀ w ∈ wsX60, w ∈ wsX8_make := fun _ h => List.mem_cons_of_mem _ (List.mem_append_left _ (List.mem_append_right _ h))
theorem iX8_make_X8 : ∀ w ∈ wsX80, w ∈ wsX8_make := fun _ h => List.mem_cons_of_mem _ (List.mem_append_left _ (List.mem_append_left _ (List.mem_append_left _ (List.mem_append_right _ h))))
set_option maxHeartbeats 4000000 in
set_option maxRecDepth 100000 in
theorem c_X8_make (l : Launch) (E : wV) (h_tl : Nat) (h_rg : Nat) (a_tl : Nat → Nat) (tl : Nat → Int32) (tl_motion : Nat → Int32) (tl_band : Nat → Int32) (tl_path : Nat → Int32) (rg : Nat → Int32) (turns : Int32) (z : Int32) (most : Int32) (twice : Int32) (hm : most.toInt < 2147483647) : MetV l yX8_make wsX8_make ({ frames := 3, cells := 0, slots := 0, locals := 71 } : Room) E ([.ref h_tl, .ref h_rg, .int turns, .int z, .int most, .int twice] : List Value) [xTrial h_tl a_tl tl, xMotion (a_tl 0) tl_motion, xBand (a_tl 1) tl_band, xI E (a_tl 2) 601 tl_path, xRig h_rg rg] (fun (u : Int32 × Int32 × Int32 × (Nat → Int32) × (Nat → Int32) × (Nat → Int32)) => F_X8_make tl tl_motion tl_band tl_path rg turns z most twice = u) (fun (u : Int32 × Int32 × Int32 × (Nat → Int32) × (Nat → Int32) × (Nat → Int32)) => [xTrial h_tl a_tl (upd (upd (upd tl 3 u.1) 4 u.2.1) 5 u.2.2.1), xMotion (a_tl 0) u.2.2.2.1, xBand (a_tl 1) u.2.2.2.2.1, xI E (a_tl 2) 601 u.2.2.2.2.2, xRig h_rg rg]) := by
  refine MetV.of (cc := cX8_make) (maxL := 8) (own := RX8) (by decide) rfl rfl (Nat.le_of_ble_eq_true rfl) ?_
  intro p e s m below meth c A Q ls cx hP hD hS hl hq
  obtain ⟨hx, hb, hml, hown, hts, hE, hA⟩ := id cx
  have hl : lv_has ls 8 [(0, .ref h_tl), (1, .ref h_rg), (2, .int turns), (3, .int z), (4, .int most), (5, .int twice)] := hl
  have hP : va_P E.1 vwCl [xTrial h_tl a_tl tl, xMotion (a_tl 0) tl_motion, xBand (a_tl 1) tl_band, xI E (a_tl 2) 601 tl_path, xRig h_rg rg] s.heap := hP
  obtain ⟨ρ, hρ0⟩ : ∃ ρ, F_X8_make tl tl_motion tl_band tl_path rg turns z most twice = ρ := ⟨_, rfl⟩
  have hρ := hρ0.symm
  unfold F_X8_make at hρ
  refine lv_aload_n hx hb dX8_make_0 rfl (lv_at hl 0 rfl) ?_
  refine va_get (D := E.1) (ci := 8) (v := .ref (a_tl 1)) (C := RX8) (T := TX8) (N := 6) hx hb hts iX8_make_X8 hown hE.1 hP 0 rfl rfl 1 (by decide) (hts (.fieldLink RX8 21 "BandBoat$Trial" "band" "LBandBoat$Band;") (List.mem_of_getElem? (i := 1) rfl)) (fun _ h9 => h9) rfl dX8_make_1 ?_
  refine lv_aload_n hx hb dX8_make_4 rfl (lv_at hl 1 rfl) ?_
  refine kV (wc := [xBand (a_tl 1) tl_band, xRig h_rg rg]) (wr := [xTrial h_tl a_tl tl, xMotion (a_tl 0) tl_motion, xI E (a_tl 2) 601 tl_path]) (wc' := (fun (u : (Nat → Int32)) => [xBand (a_tl 1) u, xRig h_rg rg])) (wn := (fun (u : (Nat → Int32)) => [xTrial h_tl a_tl tl, xMotion (a_tl 0) tl_motion, xBand (a_tl 1) u, xI E (a_tl 2) 601 tl_path, xRig h_rg rg])) (isC := [2, 4]) (isR := [0, 1, 3]) (is2 := [0, 1, 3, 2, 4]) cx hP hD hS ⟨rfl, rfl, by decide, by decide, by decide, by decide, fun _ => rfl⟩ (rVN (As := [.ref h_rg]) (rest := []) (C := RX0) (q0 := 0) (ci := 0) cx (c_X0_fit l E (a_tl 1) h_rg tl_band rg _) (va_cnB 1 hts gX8_make_X0_fit_n29 rfl rfl rfl (hE.nw 90 rfl) (hts (.initialized RX0) (List.mem_of_getElem? (i := 7) rfl)) (by decide +kernel) ⟨Nat.le_of_ble_eq_true rfl, Nat.le_of_ble_eq_true rfl⟩) (hts (.instanceMethod yX0_fit) (List.mem_of_getElem? (i := 6) rfl)) (hts (.selects RX0 yX0_fit yX0_fit) (List.mem_of_getElem? (i := 8) rfl)) rfl rfl rfl rfl hl.1 rfl (Nat.le_of_ble_eq_true rfl) dX8_make_5 ⟨Nat.zero_le _, Nat.zero_le _⟩) (fun u H locs hw hP hD hS => ?_)
  obtain ⟨g1, rfl⟩ : ∃ z, z = u := ⟨_, rfl⟩
  have hP : va_P E.1 vwCl [xTrial h_tl a_tl tl, xMotion (a_tl 0) tl_motion, xBand (a_tl 1) g1, xI E (a_tl 2) 601 tl_path, xRig h_rg rg] H := hP
  have hD : va_D A [xTrial h_tl a_tl tl, xMotion (a_tl 0) tl_motion, xBand (a_tl 1) g1, xI E (a_tl 2) 601 tl_path, xRig h_rg rg] := hD
  have hw : F_X0_fit tl_band rg = g1 := hw
  rw [hw] at hρ
  have hρ : ρ = F_X8_make_k5 tl tl_motion tl_path rg turns z most twice g1 := hρ
  unfold F_X8_make_k5 at hρ
  refine lv_aload_n hx hb dX8_make_8 rfl (lv_at hl 0 rfl) ?_
  refine va_get (D := E.1) (ci := 8) (v := .ref (a_tl 0)) (C := RX8) (T := TX8) (N := 6) hx hb hts iX8_make_X8 hown hE.1 hP 0 rfl rfl 0 (by decide) (hts (.fieldLink RX8 12 "BandBoat$Trial" "motion" "LBandBoat$Motion;") (List.mem_of_getElem? (i := 2) rfl)) (fun _ h9 => h9) rfl dX8_make_9 ?_
  refine kV (wc := [xMotion (a_tl 0) tl_motion]) (wr := [xTrial h_tl a_tl tl, xBand (a_tl 1) g1, xI E (a_tl 2) 601 tl_path, xRig h_rg rg]) (wc' := (fun (u : (Nat → Int32)) => [xMotion (a_tl 0) u])) (wn := (fun (u : (Nat → Int32)) => [xTrial h_tl a_tl tl, xMotion (a_tl 0) u, xBand (a_tl 1) g1, xI E (a_tl 2) 601 tl_path, xRig h_rg rg])) (isC := [1]) (isR := [0, 2, 3, 4]) (is2 := [0, 4, 1, 2, 3]) cx hP hD hS ⟨rfl, rfl, by decide, by decide, by decide, by decide, fun _ => rfl⟩ (rVN (As := []) (rest := []) (C := RX4) (q0 := 0) (ci := 4) cx (c_X4_rest l E (a_tl 0) tl_motion _) (va_cnB 0 hts gX8_make_X4_rest_n33 rfl rfl rfl (hE.nw 91 rfl) (hts (.initialized RX4) (List.mem_of_getElem? (i := 21) rfl)) (by decide +kernel) ⟨Nat.le_of_ble_eq_true rfl, Nat.le_of_ble_eq_true rfl⟩) (hts (.instanceMethod yX4_rest) (List.mem_of_getElem? (i := 20) rfl)) (hts (.selects RX4 yX4_rest yX4_rest) (List.mem_of_getElem? (i := 22) rfl)) rfl rfl rfl rfl hl.1 rfl (Nat.le_of_ble_eq_true rfl) dX8_make_12 ⟨Nat.zero_le _, Nat.zero_le _⟩) (fun u H locs hw hP hD hS => ?_)
  obtain ⟨g2, rfl⟩ : ∃ z, z = u := ⟨_, rfl⟩
  have hP : va_P E.1 vwCl [xTrial h_tl a_tl tl, xMotion (a_tl 0) g2, xBand (a_tl 1) g1, xI E (a_tl 2) 601 tl_path, xRig h_rg rg] H := hP
  have hD : va_D A [xTrial h_tl a_tl tl, xMotion (a_tl 0) g2, xBand (a_tl 1) g1, xI E (a_tl 2) 601 tl_path, xRig h_rg rg] := hD
  have hw : F_X4_rest tl_motion = g2 := hw
  rw [hw] at hρ
  have hρ : ρ = F_X8_make_k12 tl tl_path rg turns z most twice g1 g2 := hρ
  unfold F_X8_make_k12 at hρ
  refine lv_aload_n hx hb dX8_make_15 rfl (lv_at hl 0 rfl) ?_
  refine va_get (D := E.1) (ci := 8) (v := .ref (a_tl 0)) (C := RX8) (T := TX8) (N := 6) hx hb hts iX8_make_X8 hown hE.1 hP 0 rfl rfl 0 (by decide) (hts (.fieldLink RX8 12 "BandBoat$Trial" "motion" "LBandBoat$Motion;") (List.mem_of_getElem? (i := 2) rfl)) (fun _ h9 => h9) rfl dX8_make_16 ?_
  refine lv_bipush (v := (100 : Int32)) hx hb dX8_make_19 (by decide) ?_
  refine lv_iload_n hx hb dX8_make_21 rfl (lv_at hl 2 rfl) ?_
  refine lv_imul hx hb dX8_make_22 ?_
  refine lv_topi (fun v3 ev3 => ?_)
  have hρ : ρ = F_X8_make_k23 tl tl_path rg turns z most twice g1 g2 v3 := by rw [ev3]; exact hρ
  unfold F_X8_make_k23 at hρ
  refine va_putN (D := E.1) (ci := 4) (v := .int v3) (ty := .int) (C := RX4) (T := TX4) (N := 7) hx hb hts iX8_make_X4 tyX4 tyX4_ok nmX4 hown hE.1 hP hD hS 1 rfl rfl 0 (by decide) (hE.n 47 rfl) (fun _ h9 => h9) rfl (by decide +kernel) rfl rfl (Nat.le_of_ble_eq_true rfl) dX8_make_23 (fun H locs hP hD hS => ?_)
  have hP : va_P E.1 vwCl [xTrial h_tl a_tl tl, xMotion (a_tl 0) (upd g2 0 v3), xBand (a_tl 1) g1, xI E (a_tl 2) 601 tl_path, xRig h_rg rg] H := hP
  have hD : va_D A [xTrial h_tl a_tl tl, xMotion (a_tl 0) (upd g2 0 v3), xBand (a_tl 1) g1, xI E (a_tl 2) 601 tl_path, xRig h_rg rg] := hD
  refine lv_aload_n hx hb dX8_make_26 rfl (lv_at hl 0 rfl) ?_
  refine lv_iconst (v := (0 : Int32)) hx hb dX8_make_27 (by decide) ?_
  refine va_put (D := E.1) (ci := 8) (v := .int (0 : Int32)) (ty := .int) (C := RX8) (T := TX8) (N := 6) hx hb hts iX8_make_X8 tyX8 tyX8_ok nmX8 hown hE.1 hP hD hS 0 rfl rfl 3 (by decide) (hts (.fieldLink RX8 40 "BandBoat$Trial" "tenths" "I") (List.mem_of_getElem? (i := 3) rfl)) (fun _ h9 => h9) rfl (by decide +kernel) rfl rfl (Nat.le_of_ble_eq_true rfl) dX8_make_28 (fun H locs hP hD hS => ?_)
  have hP : va_P E.1 vwCl [xTrial h_tl a_tl (upd tl 3 (0 : Int32)), xMotion (a_tl 0) (upd g2 0 v3), xBand (a_tl 1) g1, xI E (a_tl 2) 601 tl_path, xRig h_rg rg] H := hP
  have hD : va_D A [xTrial h_tl a_tl (upd tl 3 (0 : Int32)), xMotion (a_tl 0) (upd g2 0 v3), xBand (a_tl 1) g1, xI E (a_tl 2) 601 tl_path, xRig h_rg rg] := hD
  refine lv_aload_n hx hb dX8_make_31 rfl (lv_at hl 0 rfl) ?_
  refine lv_iconst (v := (0 : Int32)) hx hb dX8_make_32 (by decide) ?_
  refine va_put (D := E.1) (ci := 8) (v := .int (0 : Int32)) (ty := .int) (C := RX8) (T := TX8) (N := 6) hx hb hts iX8_make_X8 tyX8 tyX8_ok nmX8 hown hE.1 hP hD hS 0 rfl rfl 4 (by decide) (hts (.fieldLink RX8 43 "BandBoat$Trial" "topPace" "I") (List.mem_of_getElem? (i := 4) rfl)) (fun _ h9 => h9) rfl (by decide +kernel) rfl rfl (Nat.le_of_ble_eq_true rfl) dX8_make_33 (fun H locs hP hD hS => ?_)
  have hP : va_P E.1 vwCl [xTrial h_tl a_tl (upd (upd tl 3 (0 : Int32)) 4 (0 : Int32)), xMotion (a_tl 0) (upd g2 0 v3), xBand (a_tl 1) g1, xI E (a_tl 2) 601 tl_path, xRig h_rg rg] H := hP
  have hD : va_D A [xTrial h_tl a_tl (upd (upd tl 3 (0 : Int32)) 4 (0 : Int32)), xMotion (a_tl 0) (upd g2 0 v3), xBand (a_tl 1) g1, xI E (a_tl 2) 601 tl_path, xRig h_rg rg] := hD
  refine lv_aload_n hx hb dX8_make_36 rfl (lv_at hl 0 rfl) ?_
  refine lv_iload_n hx hb dX8_make_37 rfl (lv_at hl 2 rfl) ?_
  have hJ47 : ∀ (y0_47 : Int32) (H : Heap) (locs : List Loc) (ls : Array Slot), ρ = F_X8_make_j47 tl tl_path rg turns z most twice g1 g2 v3 y0_47 → va_P E.1 vwCl [xTrial h_tl a_tl (upd (upd tl 3 (0 : Int32)) 4 (0 : Int32)), xMotion (a_tl 0) (upd g2 0 v3), xBand (a_tl 1) g1, xI E (a_tl 2) 601 tl_path, xRig h_rg rg] H → va_D A [xTrial h_tl a_tl (upd (upd tl 3 (0 : Int32)) 4 (0 : Int32)), xMotion (a_tl 0) (upd g2 0 v3), xBand (a_tl 1) g1, xI E (a_tl 2) 601 tl_path, xRig h_rg rg] → va_S A s.heap H locs → lv_has ls 8 [(0, .ref h_tl), (1, .ref h_rg), (2, .int turns), (3, .int z), (4, .int most), (5, .int twice)] → W p l e ({ frames := 3, cells := 0, slots := 0, locals := 71 } : Room) s m ([.ref h_tl, .ref h_rg, .int turns, .int z, .int most, .int twice] : List Value).toArray below meth c H locs 0 0 Q (F0 m 47 ls [.int y0_47, .ref h_tl]) := by
    intro y0_47 H locs ls hρ hP hD hS hl
    unfold F_X8_make_j47 at hρ
    refine va_put (D := E.1) (ci := 8) (v := .int y0_47) (ty := .int) (C := RX8) (T := TX8) (N := 6) hx hb hts iX8_make_X8 tyX8 tyX8_ok nmX8 hown hE.1 hP hD hS 0 rfl rfl 5 (by decide) (hts (.fieldLink RX8 46 "BandBoat$Trial" "emptyAt" "I") (List.mem_of_getElem? (i := 5) rfl)) (fun _ h9 => h9) rfl (by decide +kernel) rfl rfl (Nat.le_of_ble_eq_true rfl) dX8_make_47 (fun H locs hP hD hS => ?_)
    have hP : va_P E.1 vwCl [xTrial h_tl a_tl (upd (upd (upd tl 3 (0 : Int32)) 4 (0 : Int32)) 5 y0_47), xMotion (a_tl 0) (upd g2 0 v3), xBand (a_tl 1) g1, xI E (a_tl 2) 601 tl_path, xRig h_rg rg] H := hP
    have hD : va_D A [xTrial h_tl a_tl (upd (upd (upd tl 3 (0 : Int32)) 4 (0 : Int32)) 5 y0_47), xMotion (a_tl 0) (upd g2 0 v3), xBand (a_tl 1) g1, xI E (a_tl 2) 601 tl_path, xRig h_rg rg] := hD
    refine lv_iload_n hx hb dX8_make_50 rfl (lv_at hl 3 rfl) ?_
    have hJ66 : ∀ (y0_66 : Int32) (H : Heap) (locs : List Loc) (ls : Array Slot), (y0_66 = 0 ∨ y0_66 = 1) → ρ = F_X8_make_j66 tl tl_path rg turns z most twice g1 g2 v3 y0_47 y0_66 → va_P E.1 vwCl [xTrial h_tl a_tl (upd (upd (upd tl 3 (0 : Int32)) 4 (0 : Int32)) 5 y0_47), xMotion (a_tl 0) (upd g2 0 v3), xBand (a_tl 1) g1, xI E (a_tl 2) 601 tl_path, xRig h_rg rg] H → va_D A [xTrial h_tl a_tl (upd (upd (upd tl 3 (0 : Int32)) 4 (0 : Int32)) 5 y0_47), xMotion (a_tl 0) (upd g2 0 v3), xBand (a_tl 1) g1, xI E (a_tl 2) 601 tl_path, xRig h_rg rg] → va_S A s.heap H locs → lv_has ls 8 [(0, .ref h_tl), (1, .ref h_rg), (2, .int turns), (3, .int z), (4, .int most), (5, .int twice)] → W p l e ({ frames := 3, cells := 0, slots := 0, locals := 71 } : Room) s m ([.ref h_tl, .ref h_rg, .int turns, .int z, .int most, .int twice] : List Value).toArray below meth c H locs 0 0 Q (F0 m 66 ls [.int y0_66]) := by
      intro y0_66 H locs ls hz_y0_66 hρ hP hD hS hl
      unfold F_X8_make_j66 at hρ
      refine lv_istore (lv' := [(6, .int y0_66), (0, .ref h_tl), (1, .ref h_rg), (2, .int turns), (3, .int z), (4, .int most), (5, .int twice)]) hx hb dX8_make_66 hl (by decide) rfl (fun ls hl => ?_)
      refine lv_iconst (v := (1 : Int32)) hx hb dX8_make_68 (by decide) ?_
      refine lv_istore (lv' := [(7, .int (1 : Int32)), (6, .int y0_66), (0, .ref h_tl), (1, .ref h_rg), (2, .int turns), (3, .int z), (4, .int most), (5, .int twice)]) hx hb dX8_make_69 hl (by decide) rfl (fun ls hl => ?_)
      have hL71 : ∀ (n_71 : Nat) (x7_71 : Int32) (s_tl_3_71 : Int32) (s_tl_4_71 : Int32) (s_tl_5_71 : Int32) (g_tl_motion_71 : Nat → Int32) (g_tl_path_71 : Nat → Int32) (H : Heap) (locs : List Loc) (ls : Array Slot), ((most : Int32).toInt < (x7_71).toInt + (n_71 : Nat)) ∧ (0 ≤ (x7_71).toInt) → va_P E.1 vwCl [xTrial h_tl a_tl (upd (upd (upd tl 3 s_tl_3_71) 4 s_tl_4_71) 5 s_tl_5_71), xMotion (a_tl 0) g_tl_motion_71, xBand (a_tl 1) g1, xI E (a_tl 2) 601 g_tl_path_71, xRig h_rg rg] H → va_D A [xTrial h_tl a_tl (upd (upd (upd tl 3 s_tl_3_71) 4 s_tl_4_71) 5 s_tl_5_71), xMotion (a_tl 0) g_tl_motion_71, xBand (a_tl 1) g1, xI E (a_tl 2) 601 g_tl_path_71, xRig h_rg rg] → va_S A s.heap H locs → lv_has ls 8 [(7, .int x7_71), (6, .int y0_66), (0, .ref h_tl), (1, .ref h_rg), (2, .int turns), (3, .int z), (4, .int most), (5, .int twice)] → (∀ (ox7_71 : Int32) (os_tl_3_71 : Int32) (os_tl_4_71 : Int32) (os_tl_5_71 : Int32) (og_tl_motion_71 : Nat → Int32) (og_tl_path_71 : Nat → Int32) (H : Heap) (locs : List Loc) (ls : Array Slot), F_X8_make_l71 tl rg turns z most twice g1 y0_66 n_71 x7_71 s_tl_3_71 s_tl_4_71 s_tl_5_71 g_tl_motion_71 g_tl_path_71 = (ox7_71, os_tl_3_71, os_tl_4_71, os_tl_5_71, og_tl_motion_71, og_tl_path_71) → va_P E.1 vwCl [xTrial h_tl a_tl (upd (upd (upd tl 3 os_tl_3_71) 4 os_tl_4_71) 5 os_tl_5_71), xMotion (a_tl 0) og_tl_motion_71, xBand (a_tl 1) g1, xI E (a_tl 2) 601 og_tl_path_71, xRig h_rg rg] H → va_D A [xTrial h_tl a_tl (upd (upd (upd tl 3 os_tl_3_71) 4 os_tl_4_71) 5 os_tl_5_71), xMotion (a_tl 0) og_tl_motion_71, xBand (a_tl 1) g1, xI E (a_tl 2) 601 og_tl_path_71, xRig h_rg rg] → va_S A s.heap H locs → lv_has ls 8 [(7, .int ox7_71), (6, .int y0_66), (0, .ref h_tl), (1, .ref h_rg), (2, .int turns), (3, .int z), (4, .int most), (5, .int twice)] → W p l e ({ frames := 3, cells := 0, slots := 0, locals := 71 } : Room) s m ([.ref h_tl, .ref h_rg, .int turns, .int z, .int most, .int twice] : List Value).toArray below meth c H locs 0 0 Q (F0 m 165 ls [])) → W p l e ({ frames := 3, cells := 0, slots := 0, locals := 71 } : Room) s m ([.ref h_tl, .ref h_rg, .int turns, .int z, .int most, .int twice] : List Value).toArray below meth c H locs 0 0 Q (F0 m 71 ls []) := by
        intro n_71
        induction n_71 with
        | zero =>
          intro x7_71 s_tl_3_71 s_tl_4_71 s_tl_5_71 g_tl_motion_71 g_tl_path_71 H locs ls hM hP hD hS hl hK
          have hM71 := hM
          obtain ⟨σ71, hσ071⟩ : ∃ σ, F_X8_make_l71 tl rg turns z most twice g1 y0_66 0 x7_71 s_tl_3_71 s_tl_4_71 s_tl_5_71 g_tl_motion_71 g_tl_path_71 = σ := ⟨_, rfl⟩
          have hσ71 := hσ071.symm
          rw [F_X8_make_l71] at hσ71
          refine lv_iload hx hb dX8_make_71 (lv_at hl 0 rfl) ?_
          refine lv_iload hx hb dX8_make_73 (lv_at hl 6 rfl) ?_
          refine lv_icmp_gt (tgt := 165) hx hb dX8_make_75 (by decide) (fun c75 => ?_) (fun c75 => ?_)
          · exact hK x7_71 s_tl_3_71 s_tl_4_71 s_tl_5_71 g_tl_motion_71 g_tl_path_71 _ _ _ (hσ071.trans hσ71) hP hD hS (lv_sub hl [0, 1, 2, 3, 4, 5, 6, 7] rfl)
          · exact (cnt_le0 c75 hM.1).elim
        | succ n_71 ih =>
          intro x7_71 s_tl_3_71 s_tl_4_71 s_tl_5_71 g_tl_motion_71 g_tl_path_71 H locs ls hM hP hD hS hl hK
          have hM71 := hM
          obtain ⟨σ71, hσ071⟩ : ∃ σ, F_X8_make_l71 tl rg turns z most twice g1 y0_66 (n_71 + 1) x7_71 s_tl_3_71 s_tl_4_71 s_tl_5_71 g_tl_motion_71 g_tl_path_71 = σ := ⟨_, rfl⟩
          have hσ71 := hσ071.symm
          rw [F_X8_make_l71] at hσ71
          obtain ⟨τ71, hτ071⟩ : ∃ τ, F_X8_make_b71 tl rg turns z most twice g1 y0_66 x7_71 s_tl_3_71 s_tl_4_71 s_tl_5_71 g_tl_motion_71 g_tl_path_71 = τ := ⟨_, rfl⟩
          rw [hτ071] at hσ71
          have hτ71 := hτ071.symm
          unfold F_X8_make_b71 at hτ71
          refine lv_iload hx hb dX8_make_71 (lv_at hl 0 rfl) ?_
          refine lv_iload hx hb dX8_make_73 (lv_at hl 6 rfl) ?_
          refine lv_icmp_gt (tgt := 165) hx hb dX8_make_75 (by decide) (fun c75 => ?_) (fun c75 => ?_)
          · rw [if_pos c75] at hτ71
            have hσ71 : σ71 = (x7_71, s_tl_3_71, s_tl_4_71, s_tl_5_71, g_tl_motion_71, g_tl_path_71) := by subst hτ71; exact hσ71
            exact hK x7_71 s_tl_3_71 s_tl_4_71 s_tl_5_71 g_tl_motion_71 g_tl_path_71 _ _ _ (hσ071.trans hσ71) hP hD hS (lv_sub hl [0, 1, 2, 3, 4, 5, 6, 7] rfl)
          · rw [if_neg c75] at hτ71
            refine lv_aload_n hx hb dX8_make_78 rfl (lv_at hl 2 rfl) ?_
            refine va_get (D := E.1) (ci := 8) (v := .ref (a_tl 0)) (C := RX8) (T := TX8) (N := 6) hx hb hts iX8_make_X8 hown hE.1 hP 0 rfl rfl 0 (by decide) (hts (.fieldLink RX8 12 "BandBoat$Trial" "motion" "LBandBoat$Motion;") (List.mem_of_getElem? (i := 2) rfl)) (fun _ h9 => h9) rfl dX8_make_79 ?_
            refine kI (wc := [xMotion (a_tl 0) g_tl_motion_71]) (wr := [xTrial h_tl a_tl (upd (upd (upd tl 3 s_tl_3_71) 4 s_tl_4_71) 5 s_tl_5_71), xBand (a_tl 1) g1, xI E (a_tl 2) 601 g_tl_path_71, xRig h_rg rg]) (wc' := (fun (_ : Unit) => [xMotion (a_tl 0) g_tl_motion_71])) (wn := (fun (_ : Unit) => [xTrial h_tl a_tl (upd (upd (upd tl 3 s_tl_3_71) 4 s_tl_4_71) 5 s_tl_5_71), xMotion (a_tl 0) g_tl_motion_71, xBand (a_tl 1) g1, xI E (a_tl 2) 601 g_tl_path_71, xRig h_rg rg])) (isC := [1]) (isR := [0, 2, 3, 4]) (is2 := [0, 4, 1, 2, 3]) cx hP hD hS ⟨rfl, rfl, by decide, by decide, by decide, by decide, fun _ => rfl⟩ (rVN (As := []) (rest := []) (C := RX4) (q0 := 0) (ci := 4) cx (c_X4_isOver l E (a_tl 0) g_tl_motion_71 _) (va_cnB 0 hts gX8_make_X4_isOver_n54 rfl rfl rfl (hE.nw 92 rfl) (hts (.initialized RX4) (List.mem_of_getElem? (i := 21) rfl)) (by decide +kernel) ⟨Nat.le_of_ble_eq_true rfl, Nat.le_of_ble_eq_true rfl⟩) (hts (.instanceMethod yX4_isOver) (List.mem_of_getElem? (i := 31) rfl)) (hts (.selects RX4 yX4_isOver yX4_isOver) (List.mem_of_getElem? (i := 32) rfl)) rfl rfl rfl rfl hl.1 rfl (Nat.le_of_ble_eq_true rfl) dX8_make_82 ⟨Nat.zero_le _, Nat.zero_le _⟩) (fun r4 u H locs hw hP hD hS => ?_)
            subst hw
            refine lv_if_ne (tgt := 165) hx hb dX8_make_85 (by decide) (fun c85 => ?_) (fun c85 => ?_)
            · rw [if_neg c85] at hτ71
              have hσ71 : σ71 = (x7_71, s_tl_3_71, s_tl_4_71, s_tl_5_71, g_tl_motion_71, g_tl_path_71) := by subst hτ71; exact hσ71
              exact hK x7_71 s_tl_3_71 s_tl_4_71 s_tl_5_71 g_tl_motion_71 g_tl_path_71 _ _ _ (hσ071.trans hσ71) hP hD hS (lv_sub hl [0, 1, 2, 3, 4, 5, 6, 7] rfl)
            · rw [if_pos c85] at hτ71
              refine lv_iload hx hb dX8_make_88 (lv_at hl 1 rfl) ?_
              have hJ128 : ∀ (g_tl_motion_128 : Nat → Int32) (H : Heap) (locs : List Loc) (ls : Array Slot), τ71 = F_X8_make_j128 tl turns twice x7_71 s_tl_3_71 s_tl_4_71 s_tl_5_71 g_tl_path_71 g_tl_motion_128 → va_P E.1 vwCl [xTrial h_tl a_tl (upd (upd (upd tl 3 s_tl_3_71) 4 s_tl_4_71) 5 s_tl_5_71), xMotion (a_tl 0) g_tl_motion_128, xBand (a_tl 1) g1, xI E (a_tl 2) 601 g_tl_path_71, xRig h_rg rg] H → va_D A [xTrial h_tl a_tl (upd (upd (upd tl 3 s_tl_3_71) 4 s_tl_4_71) 5 s_tl_5_71), xMotion (a_tl 0) g_tl_motion_128, xBand (a_tl 1) g1, xI E (a_tl 2) 601 g_tl_path_71, xRig h_rg rg] → va_S A s.heap H locs → lv_has ls 8 [(7, .int x7_71), (6, .int y0_66), (0, .ref h_tl), (1, .ref h_rg), (2, .int turns), (3, .int z), (4, .int most), (5, .int twice)] → W p l e ({ frames := 3, cells := 0, slots := 0, locals := 71 } : Room) s m ([.ref h_tl, .ref h_rg, .int turns, .int z, .int most, .int twice] : List Value).toArray below meth c H locs 0 0 Q (F0 m 128 ls []) := by
                intro g_tl_motion_128 H locs ls hτ71 hP hD hS hl
                unfold F_X8_make_j128 at hτ71
                refine lv_aload_n hx hb dX8_make_128 rfl (lv_at hl 2 rfl) ?_
                refine lv_iload hx hb dX8_make_129 (lv_at hl 0 rfl) ?_
                refine kV (wc := [xTrial h_tl a_tl (upd (upd (upd tl 3 s_tl_3_71) 4 s_tl_4_71) 5 s_tl_5_71), xMotion (a_tl 0) g_tl_motion_128, xBand (a_tl 1) g1, xI E (a_tl 2) 601 g_tl_path_71]) (wr := [xRig h_rg rg]) (wc' := (fun (u : Int32 × Int32 × Int32 × (Nat → Int32)) => [xTrial h_tl a_tl (upd (upd (upd (upd (upd (upd tl 3 s_tl_3_71) 4 s_tl_4_71) 5 s_tl_5_71) 3 u.1) 4 u.2.1) 5 u.2.2.1), xMotion (a_tl 0) g_tl_motion_128, xBand (a_tl 1) g1, xI E (a_tl 2) 601 u.2.2.2])) (wn := (fun (u : Int32 × Int32 × Int32 × (Nat → Int32)) => [xTrial h_tl a_tl (upd (upd (upd tl 3 u.1) 4 u.2.1) 5 u.2.2.1), xMotion (a_tl 0) g_tl_motion_128, xBand (a_tl 1) g1, xI E (a_tl 2) 601 u.2.2.2, xRig h_rg rg])) (isC := [0, 1, 2, 3]) (isR := [4]) (is2 := [1, 2, 3, 4, 0]) cx hP hD hS ⟨rfl, rfl, by decide, by decide, by decide, by decide, fun _ => rfl⟩ (rV (As := [.int x7_71]) (rest := []) (C := RX8) (q0 := 0) (ci := 8) cx (c_X8_note l E h_tl a_tl (upd (upd (upd tl 3 s_tl_3_71) 4 s_tl_4_71) 5 s_tl_5_71) g_tl_motion_128 g1 g_tl_path_71 x7_71 (hM.2) _) (cwV 1 hts gX8_make_X8_note rfl rfl rfl (by decide +kernel) ⟨Nat.le_of_ble_eq_true rfl, Nat.le_of_ble_eq_true rfl⟩) rfl rfl rfl rfl hl.1 rfl (Nat.le_of_ble_eq_true rfl) dX8_make_131 ⟨Nat.zero_le _, Nat.zero_le _⟩) (fun u H locs hw hP hD hS => ?_)
                obtain ⟨v5, v6, v7, g8⟩ := u
                have hP : va_P E.1 vwCl [xTrial h_tl a_tl (upd (upd (upd tl 3 v5) 4 v6) 5 v7), xMotion (a_tl 0) g_tl_motion_128, xBand (a_tl 1) g1, xI E (a_tl 2) 601 g8, xRig h_rg rg] H := hP
                have hD : va_D A [xTrial h_tl a_tl (upd (upd (upd tl 3 v5) 4 v6) 5 v7), xMotion (a_tl 0) g_tl_motion_128, xBand (a_tl 1) g1, xI E (a_tl 2) 601 g8, xRig h_rg rg] := hD
                have hw : F_X8_note (upd (upd (upd tl 3 s_tl_3_71) 4 s_tl_4_71) 5 s_tl_5_71) g_tl_motion_128 g_tl_path_71 x7_71 = (v5, v6, v7, g8) := hw
                rw [hw] at hτ71
                have hτ71 : τ71 = F_X8_make_k131 turns twice x7_71 g_tl_motion_128 v5 v6 v7 g8 := hτ71
                unfold F_X8_make_k131 at hτ71
                refine lv_iload hx hb dX8_make_134 (lv_at hl 7 rfl) ?_
                have hJ159 : ∀ (s_tl_motion_0_159 : Int32) (H : Heap) (locs : List Loc) (ls : Array Slot), τ71 = F_X8_make_j159 x7_71 g_tl_motion_128 v5 v6 v7 g8 s_tl_motion_0_159 → va_P E.1 vwCl [xTrial h_tl a_tl (upd (upd (upd tl 3 v5) 4 v6) 5 v7), xMotion (a_tl 0) (upd g_tl_motion_128 0 s_tl_motion_0_159), xBand (a_tl 1) g1, xI E (a_tl 2) 601 g8, xRig h_rg rg] H → va_D A [xTrial h_tl a_tl (upd (upd (upd tl 3 v5) 4 v6) 5 v7), xMotion (a_tl 0) (upd g_tl_motion_128 0 s_tl_motion_0_159), xBand (a_tl 1) g1, xI E (a_tl 2) 601 g8, xRig h_rg rg] → va_S A s.heap H locs → lv_has ls 8 [(7, .int x7_71), (6, .int y0_66), (0, .ref h_tl), (1, .ref h_rg), (2, .int turns), (3, .int z), (4, .int most), (5, .int twice)] → W p l e ({ frames := 3, cells := 0, slots := 0, locals := 71 } : Room) s m ([.ref h_tl, .ref h_rg, .int turns, .int z, .int most, .int twice] : List Value).toArray below meth c H locs 0 0 Q (F0 m 159 ls []) := by
                  intro s_tl_motion_0_159 H locs ls hτ71 hP hD hS hl
                  unfold F_X8_make_j159 at hτ71
                  refine lv_iinc (v := (x7_71 + (1 : Int32))) (lv' := [(7, .int (x7_71 + (1 : Int32))), (6, .int y0_66), (0, .ref h_tl), (1, .ref h_rg), (2, .int turns), (3, .int z), (4, .int most), (5, .int twice)]) hx hb dX8_make_159 hl (k := 0) rfl rfl (by decide) rfl (fun ls hl => ?_)
                  refine lv_goto (tgt := 71) hx hb dX8_make_162 (by decide) ?_
                  have hσ71 : σ71 = F_X8_make_l71 tl rg turns z most twice g1 y0_66 n_71 (x7_71 + (1 : Int32)) v5 v6 v7 (upd g_tl_motion_128 0 s_tl_motion_0_159) g8 := by subst hτ71; exact hσ71
                  exact ih (x7_71 + (1 : Int32)) v5 v6 v7 (upd g_tl_motion_128 0 s_tl_motion_0_159) g8 _ _ _ ⟨cnt_le hm c75 hM.1, cnt_le_pos hm c75 hM.2⟩ hP hD hS (lv_sub hl [0, 1, 2, 3, 4, 5, 6, 7] rfl) (fun ox7_71 os_tl_3_71 os_tl_4_71 os_tl_5_71 og_tl_motion_71 og_tl_path_71 H locs ls he => hK ox7_71 os_tl_3_71 os_tl_4_71 os_tl_5_71 og_tl_motion_71 og_tl_path_71 H locs ls (hσ071.trans (hσ71.trans he)))
                refine lv_if_eq (tgt := 159) hx hb dX8_make_136 (by decide) (fun c136 => ?_) (fun c136 => ?_)
                · rw [if_pos c136] at hτ71
                  exact hJ159 (g_tl_motion_128 0) _ _ _ hτ71 hP hD hS (lv_sub hl [0, 1, 2, 3, 4, 5, 6, 7] rfl)
                · rw [if_neg c136] at hτ71
                  refine lv_aload_n hx hb dX8_make_139 rfl (lv_at hl 2 rfl) ?_
                  refine va_get (D := E.1) (ci := 8) (v := .int v7) (C := RX8) (T := TX8) (N := 6) hx hb hts iX8_make_X8 hown hE.1 hP 0 rfl rfl 5 (by decide) (hts (.fieldLink RX8 46 "BandBoat$Trial" "emptyAt" "I") (List.mem_of_getElem? (i := 5) rfl)) (fun _ h9 => h9) rfl dX8_make_140 ?_
                  refine lv_iload hx hb dX8_make_143 (lv_at hl 0 rfl) ?_
                  refine lv_icmp_ne (tgt := 159) hx hb dX8_make_145 (by decide) (fun c145 => ?_) (fun c145 => ?_)
                  · rw [if_neg c145] at hτ71
                    exact hJ159 (g_tl_motion_128 0) _ _ _ hτ71 hP hD hS (lv_sub hl [0, 1, 2, 3, 4, 5, 6, 7] rfl)
                  · rw [if_pos c145] at hτ71
                    refine lv_aload_n hx hb dX8_make_148 rfl (lv_at hl 2 rfl) ?_
                    refine va_get (D := E.1) (ci := 8) (v := .ref (a_tl 0)) (C := RX8) (T := TX8) (N := 6) hx hb hts iX8_make_X8 hown hE.1 hP 0 rfl rfl 0 (by decide) (hts (.fieldLink RX8 12 "BandBoat$Trial" "motion" "LBandBoat$Motion;") (List.mem_of_getElem? (i := 2) rfl)) (fun _ h9 => h9) rfl dX8_make_149 ?_
                    refine lv_bipush (v := (100 : Int32)) hx hb dX8_make_152 (by decide) ?_
                    refine lv_iload_n hx hb dX8_make_154 rfl (lv_at hl 4 rfl) ?_
                    refine lv_imul hx hb dX8_make_155 ?_
                    refine lv_topi (fun v9 ev9 => ?_)
                    have hτ71 : τ71 = F_X8_make_k156 x7_71 g_tl_motion_128 v5 v6 v7 g8 v9 := by rw [ev9]; exact hτ71
                    unfold F_X8_make_k156 at hτ71
                    refine va_putN (D := E.1) (ci := 4) (v := .int v9) (ty := .int) (C := RX4) (T := TX4) (N := 7) hx hb hts iX8_make_X4 tyX4 tyX4_ok nmX4 hown hE.1 hP hD hS 1 rfl rfl 0 (by decide) (hE.n 47 rfl) (fun _ h9 => h9) rfl (by decide +kernel) rfl rfl (Nat.le_of_ble_eq_true rfl) dX8_make_156 (fun H locs hP hD hS => ?_)
                    have hP : va_P E.1 vwCl [xTrial h_tl a_tl (upd (upd (upd tl 3 v5) 4 v6) 5 v7), xMotion (a_tl 0) (upd g_tl_motion_128 0 v9), xBand (a_tl 1) g1, xI E (a_tl 2) 601 g8, xRig h_rg rg] H := hP
                    have hD : va_D A [xTrial h_tl a_tl (upd (upd (upd tl 3 v5) 4 v6) 5 v7), xMotion (a_tl 0) (upd g_tl_motion_128 0 v9), xBand (a_tl 1) g1, xI E (a_tl 2) 601 g8, xRig h_rg rg] := hD
                    exact hJ159 v9 _ _ _ hτ71 hP hD hS (lv_sub hl [0, 1, 2, 3, 4, 5, 6, 7] rfl)
              have hJ115 : ∀ (H : Heap) (locs : List Loc) (ls : Array Slot), τ71 = F_X8_make_j115 tl rg turns z twice g1 x7_71 s_tl_3_71 s_tl_4_71 s_tl_5_71 g_tl_motion_71 g_tl_path_71 → va_P E.1 vwCl [xTrial h_tl a_tl (upd (upd (upd tl 3 s_tl_3_71) 4 s_tl_4_71) 5 s_tl_5_71), xMotion (a_tl 0) g_tl_motion_71, xBand (a_tl 1) g1, xI E (a_tl 2) 601 g_tl_path_71, xRig h_rg rg] H → va_D A [xTrial h_tl a_tl (upd (upd (upd tl 3 s_tl_3_71) 4 s_tl_4_71) 5 s_tl_5_71), xMotion (a_tl 0) g_tl_motion_71, xBand (a_tl 1) g1, xI E (a_tl 2) 601 g_tl_path_71, xRig h_rg rg] → va_S A s.heap H locs → lv_has ls 8 [(7, .int x7_71), (6, .int y0_66), (0, .ref h_tl), (1, .ref h_rg), (2, .int turns), (3, .int z), (4, .int most), (5, .int twice)] → W p l e ({ frames := 3, cells := 0, slots := 0, locals := 71 } : Room) s m ([.ref h_tl, .ref h_rg, .int turns, .int z, .int most, .int twice] : List Value).toArray below meth c H locs 0 0 Q (F0 m 115 ls []) := by
                intro  H locs ls hτ71 hP hD hS hl
                unfold F_X8_make_j115 at hτ71
                refine lv_aload_n hx hb dX8_make_115 rfl (lv_at hl 2 rfl) ?_
                refine va_get (D := E.1) (ci := 8) (v := .ref (a_tl 0)) (C := RX8) (T := TX8) (N := 6) hx hb hts iX8_make_X8 hown hE.1 hP 0 rfl rfl 0 (by decide) (hts (.fieldLink RX8 12 "BandBoat$Trial" "motion" "LBandBoat$Motion;") (List.mem_of_getElem? (i := 2) rfl)) (fun _ h9 => h9) rfl dX8_make_116 ?_
                refine lv_aload_n hx hb dX8_make_119 rfl (lv_at hl 3 rfl) ?_
                refine lv_aload_n hx hb dX8_make_120 rfl (lv_at hl 2 rfl) ?_
                refine va_get (D := E.1) (ci := 8) (v := .ref (a_tl 1)) (C := RX8) (T := TX8) (N := 6) hx hb hts iX8_make_X8 hown hE.1 hP 0 rfl rfl 1 (by decide) (hts (.fieldLink RX8 21 "BandBoat$Trial" "band" "LBandBoat$Band;") (List.mem_of_getElem? (i := 1) rfl)) (fun _ h9 => h9) rfl dX8_make_121 ?_
                refine lv_iload_n hx hb dX8_make_124 rfl (lv_at hl 5 rfl) ?_
                refine kV (wc := [xMotion (a_tl 0) g_tl_motion_71, xRig h_rg rg, xBand (a_tl 1) g1]) (wr := [xTrial h_tl a_tl (upd (upd (upd tl 3 s_tl_3_71) 4 s_tl_4_71) 5 s_tl_5_71), xI E (a_tl 2) 601 g_tl_path_71]) (wc' := (fun (u : (Nat → Int32)) => [xMotion (a_tl 0) u, xRig h_rg rg, xBand (a_tl 1) g1])) (wn := (fun (u : (Nat → Int32)) => [xTrial h_tl a_tl (upd (upd (upd tl 3 s_tl_3_71) 4 s_tl_4_71) 5 s_tl_5_71), xMotion (a_tl 0) u, xBand (a_tl 1) g1, xI E (a_tl 2) 601 g_tl_path_71, xRig h_rg rg])) (isC := [1, 4, 2]) (isR := [0, 3]) (is2 := [0, 2, 4, 1, 3]) cx hP hD hS ⟨rfl, rfl, by decide, by decide, by decide, by decide, fun _ => rfl⟩ (rVN (As := [.ref h_rg, .ref (a_tl 1), .int z]) (rest := []) (C := RX4) (q0 := 0) (ci := 4) cx (c_X4_step l E (a_tl 0) h_rg (a_tl 1) g_tl_motion_71 rg g1 z _) (va_cnB 3 hts gX8_make_X4_step_n66 rfl rfl rfl (hE.nw 95 rfl) (hts (.initialized RX4) (List.mem_of_getElem? (i := 21) rfl)) (by decide +kernel) ⟨Nat.le_of_ble_eq_true rfl, Nat.le_of_ble_eq_true rfl⟩) (hts (.instanceMethod yX4_step) (List.mem_of_getElem? (i := 41) rfl)) (hts (.selects RX4 yX4_step yX4_step) (List.mem_of_getElem? (i := 42) rfl)) rfl rfl rfl rfl hl.1 rfl (Nat.le_of_ble_eq_true rfl) dX8_make_125 ⟨Nat.zero_le _, Nat.zero_le _⟩) (fun u H locs hw hP hD hS => ?_)
                obtain ⟨g10, rfl⟩ : ∃ z, z = u := ⟨_, rfl⟩
                have hP : va_P E.1 vwCl [xTrial h_tl a_tl (upd (upd (upd tl 3 s_tl_3_71) 4 s_tl_4_71) 5 s_tl_5_71), xMotion (a_tl 0) g10, xBand (a_tl 1) g1, xI E (a_tl 2) 601 g_tl_path_71, xRig h_rg rg] H := hP
                have hD : va_D A [xTrial h_tl a_tl (upd (upd (upd tl 3 s_tl_3_71) 4 s_tl_4_71) 5 s_tl_5_71), xMotion (a_tl 0) g10, xBand (a_tl 1) g1, xI E (a_tl 2) 601 g_tl_path_71, xRig h_rg rg] := hD
                have hw : F_X4_step g_tl_motion_71 rg g1 z = g10 := hw
                rw [hw] at hτ71
                have hτ71 : τ71 = F_X8_make_k125 tl turns twice x7_71 s_tl_3_71 s_tl_4_71 s_tl_5_71 g_tl_path_71 g10 := hτ71
                unfold F_X8_make_k125 at hτ71
                exact hJ128 g10 _ _ _ hτ71 hP hD hS (lv_sub hl [0, 1, 2, 3, 4, 5, 6, 7] rfl)
              refine lv_if_eq (tgt := 115) hx hb dX8_make_90 (by decide) (fun c90 => ?_) (fun c90 => ?_)
              · rw [if_pos c90] at hτ71
                exact hJ115 _ _ _ hτ71 hP hD hS (lv_sub hl [0, 1, 2, 3, 4, 5, 6, 7] rfl)
              · rw [if_neg c90] at hτ71
                refine lv_aload_n hx hb dX8_make_93 rfl (lv_at hl 2 rfl) ?_
                refine va_get (D := E.1) (ci := 8) (v := .ref (a_tl 0)) (C := RX8) (T := TX8) (N := 6) hx hb hts iX8_make_X8 hown hE.1 hP 0 rfl rfl 0 (by decide) (hts (.fieldLink RX8 12 "BandBoat$Trial" "motion" "LBandBoat$Motion;") (List.mem_of_getElem? (i := 2) rfl)) (fun _ h9 => h9) rfl dX8_make_94 ?_
                refine va_getN (D := E.1) (ci := 4) (v := .int (g_tl_motion_71 6)) (C := RX4) (T := TX4) (N := 7) hx hb hts iX8_make_X4 hown hE.1 hP 1 rfl rfl 6 (by decide) (hE.n 56 rfl) (fun _ h9 => h9) rfl dX8_make_97 ?_
                refine lv_if_eq (tgt := 115) hx hb dX8_make_100 (by decide) (fun c100 => ?_) (fun c100 => ?_)
                · rw [if_pos c100] at hτ71
                  exact hJ115 _ _ _ hτ71 hP hD hS (lv_sub hl [0, 1, 2, 3, 4, 5, 6, 7] rfl)
                · rw [if_neg c100] at hτ71
                  refine lv_aload_n hx hb dX8_make_103 rfl (lv_at hl 2 rfl) ?_
                  refine va_get (D := E.1) (ci := 8) (v := .ref (a_tl 0)) (C := RX8) (T := TX8) (N := 6) hx hb hts iX8_make_X8 hown hE.1 hP 0 rfl rfl 0 (by decide) (hts (.fieldLink RX8 12 "BandBoat$Trial" "motion" "LBandBoat$Motion;") (List.mem_of_getElem? (i := 2) rfl)) (fun _ h9 => h9) rfl dX8_make_104 ?_
                  refine lv_aload_n hx hb dX8_make_107 rfl (lv_at hl 3 rfl) ?_
                  refine lv_iconst (v := (0 : Int32)) hx hb dX8_make_108 (by decide) ?_
                  refine kV (wc := [xMotion (a_tl 0) g_tl_motion_71, xRig h_rg rg]) (wr := [xTrial h_tl a_tl (upd (upd (upd tl 3 s_tl_3_71) 4 s_tl_4_71) 5 s_tl_5_71), xBand (a_tl 1) g1, xI E (a_tl 2) 601 g_tl_path_71]) (wc' := (fun (u : Int32 × Int32 × Int32 × Int32) => [xMotion (a_tl 0) (upd (upd (upd (upd g_tl_motion_71 2 u.1) 3 u.2.1) 4 u.2.2.1) 5 u.2.2.2), xRig h_rg rg])) (wn := (fun (u : Int32 × Int32 × Int32 × Int32) => [xTrial h_tl a_tl (upd (upd (upd tl 3 s_tl_3_71) 4 s_tl_4_71) 5 s_tl_5_71), xMotion (a_tl 0) (upd (upd (upd (upd g_tl_motion_71 2 u.1) 3 u.2.1) 4 u.2.2.1) 5 u.2.2.2), xBand (a_tl 1) g1, xI E (a_tl 2) 601 g_tl_path_71, xRig h_rg rg])) (isC := [1, 4]) (isR := [0, 2, 3]) (is2 := [0, 3, 1, 2, 4]) cx hP hD hS ⟨rfl, rfl, by decide, by decide, by decide, by decide, fun _ => rfl⟩ (rVN (As := [.ref h_rg, .int (0 : Int32)]) (rest := []) (C := RX4) (q0 := 0) (ci := 4) cx (c_X4_drift l E (a_tl 0) h_rg g_tl_motion_71 rg (0 : Int32) _) (va_cnB 2 hts gX8_make_X4_drift_n62 rfl rfl rfl (hE.nw 93 rfl) (hts (.initialized RX4) (List.mem_of_getElem? (i := 21) rfl)) (by decide +kernel) ⟨Nat.le_of_ble_eq_true rfl, Nat.le_of_ble_eq_true rfl⟩) (hts (.instanceMethod yX4_drift) (List.mem_of_getElem? (i := 34) rfl)) (hts (.selects RX4 yX4_drift yX4_drift) (List.mem_of_getElem? (i := 35) rfl)) rfl rfl rfl rfl hl.1 rfl (Nat.le_of_ble_eq_true rfl) dX8_make_109 ⟨Nat.zero_le _, Nat.zero_le _⟩) (fun u H locs hw hP hD hS => ?_)
                  obtain ⟨v11, v12, v13, v14⟩ := u
                  have hP : va_P E.1 vwCl [xTrial h_tl a_tl (upd (upd (upd tl 3 s_tl_3_71) 4 s_tl_4_71) 5 s_tl_5_71), xMotion (a_tl 0) (upd (upd (upd (upd g_tl_motion_71 2 v11) 3 v12) 4 v13) 5 v14), xBand (a_tl 1) g1, xI E (a_tl 2) 601 g_tl_path_71, xRig h_rg rg] H := hP
                  have hD : va_D A [xTrial h_tl a_tl (upd (upd (upd tl 3 s_tl_3_71) 4 s_tl_4_71) 5 s_tl_5_71), xMotion (a_tl 0) (upd (upd (upd (upd g_tl_motion_71 2 v11) 3 v12) 4 v13) 5 v14), xBand (a_tl 1) g1, xI E (a_tl 2) 601 g_tl_path_71, xRig h_rg rg] := hD
                  have hw : F_X4_drift g_tl_motion_71 rg (0 : Int32) = (v11, v12, v13, v14) := hw
                  rw [hw] at hτ71
                  have hτ71 : τ71 = F_X8_make_k109 tl turns twice x7_71 s_tl_3_71 s_tl_4_71 s_tl_5_71 g_tl_motion_71 g_tl_path_71 v11 v12 v13 v14 := hτ71
                  unfold F_X8_make_k109 at hτ71
                  refine lv_goto (tgt := 128) hx hb dX8_make_112 (by decide) ?_
                  exact hJ128 (upd (upd (upd (upd g_tl_motion_71 2 v11) 3 v12) 4 v13) 5 v14) _ _ _ hτ71 hP hD hS (lv_sub hl [0, 1, 2, 3, 4, 5, 6, 7] rfl)
      refine hL71 ((Int32.toInt most).toNat) (1 : Int32) (0 : Int32) (0 : Int32) y0_47 (upd g2 0 v3) tl_path _ _ _ (⟨by show _ < (1 : Int) + _; omega, by decide⟩) hP hD hS (lv_sub hl [0, 1, 2, 3, 4, 5, 6, 7] rfl) ?_
      intro bx7_71 bs_tl_3_71 bs_tl_4_71 bs_tl_5_71 bg_tl_motion_71 bg_tl_path_71 H locs ls he hP hD hS hl
      rw [he] at hρ
      have hρ : ρ = F_X8_make_x71 g1 bs_tl_3_71 bs_tl_4_71 bs_tl_5_71 bg_tl_motion_71 bg_tl_path_71 := hρ
      unfold F_X8_make_x71 at hρ
      exact hq (bs_tl_3_71, bs_tl_4_71, bs_tl_5_71, bg_tl_motion_71, g1, bg_tl_path_71) _ _ _ _ dX8_make_165 (hρ0.trans hρ) hP hD hS
    have hJ61 : ∀ (H : Heap) (locs : List Loc) (ls : Array Slot), ρ = F_X8_make_j61 tl tl_path rg turns z most twice g1 g2 v3 y0_47 → va_P E.1 vwCl [xTrial h_tl a_tl (upd (upd (upd tl 3 (0 : Int32)) 4 (0 : Int32)) 5 y0_47), xMotion (a_tl 0) (upd g2 0 v3), xBand (a_tl 1) g1, xI E (a_tl 2) 601 tl_path, xRig h_rg rg] H → va_D A [xTrial h_tl a_tl (upd (upd (upd tl 3 (0 : Int32)) 4 (0 : Int32)) 5 y0_47), xMotion (a_tl 0) (upd g2 0 v3), xBand (a_tl 1) g1, xI E (a_tl 2) 601 tl_path, xRig h_rg rg] → va_S A s.heap H locs → lv_has ls 8 [(0, .ref h_tl), (1, .ref h_rg), (2, .int turns), (3, .int z), (4, .int most), (5, .int twice)] → W p l e ({ frames := 3, cells := 0, slots := 0, locals := 71 } : Room) s m ([.ref h_tl, .ref h_rg, .int turns, .int z, .int most, .int twice] : List Value).toArray below meth c H locs 0 0 Q (F0 m 61 ls []) := by
      intro  H locs ls hρ hP hD hS hl
      unfold F_X8_make_j61 at hρ
      refine lv_iconst (v := (1 : Int32)) hx hb dX8_make_61 (by decide) ?_
      refine lv_goto (tgt := 66) hx hb dX8_make_62 (by decide) ?_
      exact hJ66 (1 : Int32) _ _ _ (Or.inr rfl) hρ hP hD hS (lv_sub hl [0, 1, 2, 3, 4, 5] rfl)
    refine lv_if_lt (tgt := 61) hx hb dX8_make_51 (by decide) (fun c51 => ?_) (fun c51 => ?_)
    · rw [if_pos c51] at hρ
      exact hJ61 _ _ _ hρ hP hD hS (lv_sub hl [0, 1, 2, 3, 4, 5] rfl)
    · rw [if_neg c51] at hρ
      refine lv_aload_n hx hb dX8_make_54 rfl (lv_at hl 1 rfl) ?_
      refine va_getN (D := E.1) (ci := 6) (v := .int (rg 16)) (C := RX6) (T := TX6) (N := 17) hx hb hts iX8_make_X6 hown hE.1 hP 4 rfl rfl 16 (by decide) (hE.n 42 rfl) (fun _ h9 => h9) rfl dX8_make_55 ?_
      refine lv_if_ne (tgt := 65) hx hb dX8_make_58 (by decide) (fun c58 => ?_) (fun c58 => ?_)
      · rw [if_neg c58] at hρ
        refine lv_iconst (v := (0 : Int32)) hx hb dX8_make_65 (by decide) ?_
        exact hJ66 (0 : Int32) _ _ _ (Or.inl rfl) hρ hP hD hS (lv_sub hl [0, 1, 2, 3, 4, 5] rfl)
      · rw [if_pos c58] at hρ
        exact hJ61 _ _ _ hρ hP hD hS (lv_sub hl [0, 1, 2, 3, 4, 5] rfl)
  refine lv_if_ne (tgt := 45) hx hb dX8_make_38 (by decide) (fun c38 => ?_) (fun c38 => ?_)
  · rw [if_neg c38] at hρ
    refine lv_bipush (v := (-4 : Int32)) hx hb dX8_make_45 (by decide) ?_
    exact hJ47 (-4 : Int32) _ _ _ hρ hP hD hS (lv_sub hl [0, 1, 2, 3, 4, 5] rfl)
  · rw [if_pos c38] at hρ
    refine lv_iconst (v := (0 : Int32)) hx hb dX8_make_41 (by decide) ?_
    refine lv_goto (tgt := 47) hx hb dX8_make_42 (by decide) ?_
    exact hJ47 (0 : Int32) _ _ _ hρ hP hD hS (lv_sub hl [0, 1, 2, 3, 4, 5] rfl)
