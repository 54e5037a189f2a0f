def F_X6_clear (rg : Nat → Int32) : (Nat → Int32) := (upd (upd (upd (upd (upd (upd (upd (upd (upd (upd (upd (upd (upd (upd (upd (upd (upd rg 0 (0 : Int32)) 1 (0 : Int32)) 2 (20 : Int32)) 3 (30 : Int32)) 4 (5 : Int32)) 5 (9 : Int32)) 6 (2 : Int32)) 7 (10 : Int32)) 8 (4 : Int32)) 9 (10 : Int32)) 10 (20 : Int32)) 11 (10 : Int32)) 12 (0 : Int32)) 13 (0 : Int32)) 14 (0 : Int32)) 15 (0 : Int32)) 16 (0 : Int32))
theorem iX6_clear_X6 : ∀ w ∈ wsX60, w ∈ wsX6_clear := fun _ h => List.mem_cons_of_mem _ (List.mem_append_right _ h)
set_option maxHeartbeats 4000000 in
set_option maxRecDepth 100000 in
theorem c_X6_clear (l : Launch) (E : wV) (h_rg : Nat) (rg : Nat → Int32) : MetV l yX6_clear wsX6_clear ({ frames := 0, cells := 0, slots := 0, locals := 0 } : Room) E ([.ref h_rg] : List Value) [xRig h_rg rg] (fun (u : (Nat → Int32)) => F_X6_clear rg = u ∧ (((u 1)) = 0)) (fun (u : (Nat → Int32)) => [xRig h_rg u]) := by
  refine MetV.of (cc := cX6_clear) (maxL := 1) (own := RX6) (by decide) rfl rfl (Nat.le_of_ble_eq_true rfl) ?_
  intro p e s m below meth c A Q ls cx hP hD hS hl hq
  obtain ⟨hx, hb, hml, hown, hts, hE, hA⟩ := id cx
  have hl : lv_has ls 1 [(0, .ref h_rg)] := hl
  have hP : va_P E.1 vwCl [xRig h_rg rg] s.heap := hP
  obtain ⟨ρ, hρ0⟩ : ∃ ρ, F_X6_clear rg = ρ := ⟨_, rfl⟩
  have hρ := hρ0.symm
  unfold F_X6_clear at hρ
  refine lv_aload_n hx hb dX6_clear_0 rfl (lv_at hl 0 rfl) ?_
  refine lv_iconst (v := (0 : Int32)) hx hb dX6_clear_1 (by decide) ?_
  refine va_put (D := E.1) (ci := 6) (v := .int (0 : Int32)) (ty := .int) (C := RX6) (T := TX6) (N := 17) hx hb hts iX6_clear_X6 tyX6 tyX6_ok nmX6 hown hE.1 hP hD hS 0 rfl rfl 0 (by decide) (hts (.fieldLink RX6 7 "BandBoat$Rig" "stuffs" "I") (List.mem_of_getElem? (i := 1) rfl)) (fun _ h9 => h9) rfl (by decide +kernel) rfl rfl (Nat.le_of_ble_eq_true rfl) dX6_clear_2 (fun H locs hP hD hS => ?_)
  have hP : va_P E.1 vwCl [xRig h_rg (upd rg 0 (0 : Int32))] H := hP
  have hD : va_D A [xRig h_rg (upd rg 0 (0 : Int32))] := hD
  refine lv_aload_n hx hb dX6_clear_5 rfl (lv_at hl 0 rfl) ?_
  refine lv_iconst (v := (0 : Int32)) hx hb dX6_clear_6 (by decide) ?_
  refine va_put (D := E.1) (ci := 6) (v := .int (0 : Int32)) (ty := .boolean) (C := RX6) (T := TX6) (N := 17) hx hb hts iX6_clear_X6 tyX6 tyX6_ok nmX6 hown hE.1 hP hD hS 0 rfl rfl 1 (by decide) (hts (.fieldLink RX6 13 "BandBoat$Rig" "banded" "Z") (List.mem_of_getElem? (i := 2) rfl)) (fun _ h9 => h9) rfl (by decide +kernel) rfl rfl (Nat.le_of_ble_eq_true rfl) dX6_clear_7 (fun H locs hP hD hS => ?_)
  have hP : va_P E.1 vwCl [xRig h_rg (upd (upd rg 0 (0 : Int32)) 1 (0 : Int32))] H := hP
  have hD : va_D A [xRig h_rg (upd (upd rg 0 (0 : Int32)) 1 (0 : Int32))] := hD
  refine lv_aload_n hx hb dX6_clear_10 rfl (lv_at hl 0 rfl) ?_
  refine lv_bipush (v := (20 : Int32)) hx hb dX6_clear_11 (by decide) ?_
  refine va_put (D := E.1) (ci := 6) (v := .int (20 : Int32)) (ty := .int) (C := RX6) (T := TX6) (N := 17) hx hb hts iX6_clear_X6 tyX6 tyX6_ok nmX6 hown hE.1 hP hD hS 0 rfl rfl 2 (by decide) (hts (.fieldLink RX6 17 "BandBoat$Rig" "pulls" "I") (List.mem_of_getElem? (i := 3) rfl)) (fun _ h9 => h9) rfl (by decide +kernel) rfl rfl (Nat.le_of_ble_eq_true rfl) dX6_clear_13 (fun H locs hP hD hS => ?_)
  have hP : va_P E.1 vwCl [xRig h_rg (upd (upd (upd rg 0 (0 : Int32)) 1 (0 : Int32)) 2 (20 : Int32))] H := hP
  have hD : va_D A [xRig h_rg (upd (upd (upd rg 0 (0 : Int32)) 1 (0 : Int32)) 2 (20 : Int32))] := hD
  refine lv_aload_n hx hb dX6_clear_16 rfl (lv_at hl 0 rfl) ?_
  refine lv_bipush (v := (30 : Int32)) hx hb dX6_clear_17 (by decide) ?_
  refine va_put (D := E.1) (ci := 6) (v := .int (30 : Int32)) (ty := .int) (C := RX6) (T := TX6) (N := 17) hx hb hts iX6_clear_X6 tyX6 tyX6_ok nmX6 hown hE.1 hP hD hS 0 rfl rfl 3 (by decide) (hts (.fieldLink RX6 20 "BandBoat$Rig" "loses" "I") (List.mem_of_getElem? (i := 4) rfl)) (fun _ h9 => h9) rfl (by decide +kernel) rfl rfl (Nat.le_of_ble_eq_true rfl) dX6_clear_19 (fun H locs hP hD hS => ?_)
  have hP : va_P E.1 vwCl [xRig h_rg (upd (upd (upd (upd rg 0 (0 : Int32)) 1 (0 : Int32)) 2 (20 : Int32)) 3 (30 : Int32))] H := hP
  have hD : va_D A [xRig h_rg (upd (upd (upd (upd rg 0 (0 : Int32)) 1 (0 : Int32)) 2 (20 : Int32)) 3 (30 : Int32))] := hD
  refine lv_aload_n hx hb dX6_clear_22 rfl (lv_at hl 0 rfl) ?_
  refine lv_iconst (v := (5 : Int32)) hx hb dX6_clear_23 (by decide) ?_
  refine va_put (D := E.1) (ci := 6) (v := .int (5 : Int32)) (ty := .int) (C := RX6) (T := TX6) (N := 17) hx hb hts iX6_clear_X6 tyX6 tyX6_ok nmX6 hown hE.1 hP hD hS 0 rfl rfl 4 (by decide) (hts (.fieldLink RX6 23 "BandBoat$Rig" "knots" "I") (List.mem_of_getElem? (i := 5) rfl)) (fun _ h9 => h9) rfl (by decide +kernel) rfl rfl (Nat.le_of_ble_eq_true rfl) dX6_clear_24 (fun H locs hP hD hS => ?_)
  have hP : va_P E.1 vwCl [xRig h_rg (upd (upd (upd (upd (upd rg 0 (0 : Int32)) 1 (0 : Int32)) 2 (20 : Int32)) 3 (30 : Int32)) 4 (5 : Int32))] H := hP
  have hD : va_D A [xRig h_rg (upd (upd (upd (upd (upd rg 0 (0 : Int32)) 1 (0 : Int32)) 2 (20 : Int32)) 3 (30 : Int32)) 4 (5 : Int32))] := hD
  refine lv_aload_n hx hb dX6_clear_27 rfl (lv_at hl 0 rfl) ?_
  refine lv_bipush (v := (9 : Int32)) hx hb dX6_clear_28 (by decide) ?_
  refine va_put (D := E.1) (ci := 6) (v := .int (9 : Int32)) (ty := .int) (C := RX6) (T := TX6) (N := 17) hx hb hts iX6_clear_X6 tyX6 tyX6_ok nmX6 hown hE.1 hP hD hS 0 rfl rfl 5 (by decide) (hts (.fieldLink RX6 26 "BandBoat$Rig" "snaps" "I") (List.mem_of_getElem? (i := 6) rfl)) (fun _ h9 => h9) rfl (by decide +kernel) rfl rfl (Nat.le_of_ble_eq_true rfl) dX6_clear_30 (fun H locs hP hD hS => ?_)
  have hP : va_P E.1 vwCl [xRig h_rg (upd (upd (upd (upd (upd (upd rg 0 (0 : Int32)) 1 (0 : Int32)) 2 (20 : Int32)) 3 (30 : Int32)) 4 (5 : Int32)) 5 (9 : Int32))] H := hP
  have hD : va_D A [xRig h_rg (upd (upd (upd (upd (upd (upd rg 0 (0 : Int32)) 1 (0 : Int32)) 2 (20 : Int32)) 3 (30 : Int32)) 4 (5 : Int32)) 5 (9 : Int32))] := hD
  refine lv_aload_n hx hb dX6_clear_33 rfl (lv_at hl 0 rfl) ?_
  refine lv_iconst (v := (2 : Int32)) hx hb dX6_clear_34 (by decide) ?_
  refine va_put (D := E.1) (ci := 6) (v := .int (2 : Int32)) (ty := .int) (C := RX6) (T := TX6) (N := 17) hx hb hts iX6_clear_X6 tyX6 tyX6_ok nmX6 hown hE.1 hP hD hS 0 rfl rfl 6 (by decide) (hts (.fieldLink RX6 29 "BandBoat$Rig" "strands" "I") (List.mem_of_getElem? (i := 7) rfl)) (fun _ h9 => h9) rfl (by decide +kernel) rfl rfl (Nat.le_of_ble_eq_true rfl) dX6_clear_35 (fun H locs hP hD hS => ?_)
  have hP : va_P E.1 vwCl [xRig h_rg (upd (upd (upd (upd (upd (upd (upd rg 0 (0 : Int32)) 1 (0 : Int32)) 2 (20 : Int32)) 3 (30 : Int32)) 4 (5 : Int32)) 5 (9 : Int32)) 6 (2 : Int32))] H := hP
  have hD : va_D A [xRig h_rg (upd (upd (upd (upd (upd (upd (upd rg 0 (0 : Int32)) 1 (0 : Int32)) 2 (20 : Int32)) 3 (30 : Int32)) 4 (5 : Int32)) 5 (9 : Int32)) 6 (2 : Int32))] := hD
  refine lv_aload_n hx hb dX6_clear_38 rfl (lv_at hl 0 rfl) ?_
  refine lv_bipush (v := (10 : Int32)) hx hb dX6_clear_39 (by decide) ?_
  refine va_put (D := E.1) (ci := 6) (v := .int (10 : Int32)) (ty := .int) (C := RX6) (T := TX6) (N := 17) hx hb hts iX6_clear_X6 tyX6 tyX6_ok nmX6 hown hE.1 hP hD hS 0 rfl rfl 7 (by decide) (hts (.fieldLink RX6 32 "BandBoat$Rig" "length" "I") (List.mem_of_getElem? (i := 8) rfl)) (fun _ h9 => h9) rfl (by decide +kernel) rfl rfl (Nat.le_of_ble_eq_true rfl) dX6_clear_41 (fun H locs hP hD hS => ?_)
  have hP : va_P E.1 vwCl [xRig h_rg (upd (upd (upd (upd (upd (upd (upd (upd rg 0 (0 : Int32)) 1 (0 : Int32)) 2 (20 : Int32)) 3 (30 : Int32)) 4 (5 : Int32)) 5 (9 : Int32)) 6 (2 : Int32)) 7 (10 : Int32))] H := hP
  have hD : va_D A [xRig h_rg (upd (upd (upd (upd (upd (upd (upd (upd rg 0 (0 : Int32)) 1 (0 : Int32)) 2 (20 : Int32)) 3 (30 : Int32)) 4 (5 : Int32)) 5 (9 : Int32)) 6 (2 : Int32)) 7 (10 : Int32))] := hD
  refine lv_aload_n hx hb dX6_clear_44 rfl (lv_at hl 0 rfl) ?_
  refine lv_iconst (v := (4 : Int32)) hx hb dX6_clear_45 (by decide) ?_
  refine va_put (D := E.1) (ci := 6) (v := .int (4 : Int32)) (ty := .int) (C := RX6) (T := TX6) (N := 17) hx hb hts iX6_clear_X6 tyX6 tyX6_ok nmX6 hown hE.1 hP hD hS 0 rfl rfl 8 (by decide) (hts (.fieldLink RX6 35 "BandBoat$Rig" "pitch" "I") (List.mem_of_getElem? (i := 9) rfl)) (fun _ h9 => h9) rfl (by decide +kernel) rfl rfl (Nat.le_of_ble_eq_true rfl) dX6_clear_46 (fun H locs hP hD hS => ?_)
  have hP : va_P E.1 vwCl [xRig h_rg (upd (upd (upd (upd (upd (upd (upd (upd (upd rg 0 (0 : Int32)) 1 (0 : Int32)) 2 (20 : Int32)) 3 (30 : Int32)) 4 (5 : Int32)) 5 (9 : Int32)) 6 (2 : Int32)) 7 (10 : Int32)) 8 (4 : Int32))] H := hP
  have hD : va_D A [xRig h_rg (upd (upd (upd (upd (upd (upd (upd (upd (upd rg 0 (0 : Int32)) 1 (0 : Int32)) 2 (20 : Int32)) 3 (30 : Int32)) 4 (5 : Int32)) 5 (9 : Int32)) 6 (2 : Int32)) 7 (10 : Int32)) 8 (4 : Int32))] := hD
  refine lv_aload_n hx hb dX6_clear_49 rfl (lv_at hl 0 rfl) ?_
  refine lv_bipush (v := (10 : Int32)) hx hb dX6_clear_50 (by decide) ?_
  refine va_put (D := E.1) (ci := 6) (v := .int (10 : Int32)) (ty := .int) (C := RX6) (T := TX6) (N := 17) hx hb hts iX6_clear_X6 tyX6 tyX6_ok nmX6 hown hE.1 hP hD hS 0 rfl rfl 9 (by decide) (hts (.fieldLink RX6 38 "BandBoat$Rig" "width" "I") (List.mem_of_getElem? (i := 10) rfl)) (fun _ h9 => h9) rfl (by decide +kernel) rfl rfl (Nat.le_of_ble_eq_true rfl) dX6_clear_52 (fun H locs hP hD hS => ?_)
  have hP : va_P E.1 vwCl [xRig h_rg (upd (upd (upd (upd (upd (upd (upd (upd (upd (upd rg 0 (0 : Int32)) 1 (0 : Int32)) 2 (20 : Int32)) 3 (30 : Int32)) 4 (5 : Int32)) 5 (9 : Int32)) 6 (2 : Int32)) 7 (10 : Int32)) 8 (4 : Int32)) 9 (10 : Int32))] H := hP
  have hD : va_D A [xRig h_rg (upd (upd (upd (upd (upd (upd (upd (upd (upd (upd rg 0 (0 : Int32)) 1 (0 : Int32)) 2 (20 : Int32)) 3 (30 : Int32)) 4 (5 : Int32)) 5 (9 : Int32)) 6 (2 : Int32)) 7 (10 : Int32)) 8 (4 : Int32)) 9 (10 : Int32))] := hD
  refine lv_aload_n hx hb dX6_clear_55 rfl (lv_at hl 0 rfl) ?_
  refine lv_bipush (v := (20 : Int32)) hx hb dX6_clear_56 (by decide) ?_
  refine va_put (D := E.1) (ci := 6) (v := .int (20 : Int32)) (ty := .int) (C := RX6) (T := TX6) (N := 17) hx hb hts iX6_clear_X6 tyX6 tyX6_ok nmX6 hown hE.1 hP hD hS 0 rfl rfl 10 (by decide) (hts (.fieldLink RX6 41 "BandBoat$Rig" "weight" "I") (List.mem_of_getElem? (i := 11) rfl)) (fun _ h9 => h9) rfl (by decide +kernel) rfl rfl (Nat.le_of_ble_eq_true rfl) dX6_clear_58 (fun H locs hP hD hS => ?_)
  have hP : va_P E.1 vwCl [xRig h_rg (upd (upd (upd (upd (upd (upd (upd (upd (upd (upd (upd rg 0 (0 : Int32)) 1 (0 : Int32)) 2 (20 : Int32)) 3 (30 : Int32)) 4 (5 : Int32)) 5 (9 : Int32)) 6 (2 : Int32)) 7 (10 : Int32)) 8 (4 : Int32)) 9 (10 : Int32)) 10 (20 : Int32))] H := hP
  have hD : va_D A [xRig h_rg (upd (upd (upd (upd (upd (upd (upd (upd (upd (upd (upd rg 0 (0 : Int32)) 1 (0 : Int32)) 2 (20 : Int32)) 3 (30 : Int32)) 4 (5 : Int32)) 5 (9 : Int32)) 6 (2 : Int32)) 7 (10 : Int32)) 8 (4 : Int32)) 9 (10 : Int32)) 10 (20 : Int32))] := hD
  refine lv_aload_n hx hb dX6_clear_61 rfl (lv_at hl 0 rfl) ?_
  refine lv_bipush (v := (10 : Int32)) hx hb dX6_clear_62 (by decide) ?_
  refine va_put (D := E.1) (ci := 6) (v := .int (10 : Int32)) (ty := .int) (C := RX6) (T := TX6) (N := 17) hx hb hts iX6_clear_X6 tyX6 tyX6_ok nmX6 hown hE.1 hP hD hS 0 rfl rfl 11 (by decide) (hts (.fieldLink RX6 44 "BandBoat$Rig" "drag" "I") (List.mem_of_getElem? (i := 12) rfl)) (fun _ h9 => h9) rfl (by decide +kernel) rfl rfl (Nat.le_of_ble_eq_true rfl) dX6_clear_64 (fun H locs hP hD hS => ?_)
  have hP : va_P E.1 vwCl [xRig h_rg (upd (upd (upd (upd (upd (upd (upd (upd (upd (upd (upd (upd rg 0 (0 : Int32)) 1 (0 : Int32)) 2 (20 : Int32)) 3 (30 : Int32)) 4 (5 : Int32)) 5 (9 : Int32)) 6 (2 : Int32)) 7 (10 : Int32)) 8 (4 : Int32)) 9 (10 : Int32)) 10 (20 : Int32)) 11 (10 : Int32))] H := hP
  have hD : va_D A [xRig h_rg (upd (upd (upd (upd (upd (upd (upd (upd (upd (upd (upd (upd rg 0 (0 : Int32)) 1 (0 : Int32)) 2 (20 : Int32)) 3 (30 : Int32)) 4 (5 : Int32)) 5 (9 : Int32)) 6 (2 : Int32)) 7 (10 : Int32)) 8 (4 : Int32)) 9 (10 : Int32)) 10 (20 : Int32)) 11 (10 : Int32))] := hD
  refine lv_aload_n hx hb dX6_clear_67 rfl (lv_at hl 0 rfl) ?_
  refine lv_iconst (v := (0 : Int32)) hx hb dX6_clear_68 (by decide) ?_
  refine va_put (D := E.1) (ci := 6) (v := .int (0 : Int32)) (ty := .int) (C := RX6) (T := TX6) (N := 17) hx hb hts iX6_clear_X6 tyX6 tyX6_ok nmX6 hown hE.1 hP hD hS 0 rfl rfl 12 (by decide) (hts (.fieldLink RX6 47 "BandBoat$Rig" "veer" "I") (List.mem_of_getElem? (i := 13) rfl)) (fun _ h9 => h9) rfl (by decide +kernel) rfl rfl (Nat.le_of_ble_eq_true rfl) dX6_clear_69 (fun H locs hP hD hS => ?_)
  have hP : va_P E.1 vwCl [xRig h_rg (upd (upd (upd (upd (upd (upd (upd (upd (upd (upd (upd (upd (upd rg 0 (0 : Int32)) 1 (0 : Int32)) 2 (20 : Int32)) 3 (30 : Int32)) 4 (5 : Int32)) 5 (9 : Int32)) 6 (2 : Int32)) 7 (10 : Int32)) 8 (4 : Int32)) 9 (10 : Int32)) 10 (20 : Int32)) 11 (10 : Int32)) 12 (0 : Int32))] H := hP
  have hD : va_D A [xRig h_rg (upd (upd (upd (upd (upd (upd (upd (upd (upd (upd (upd (upd (upd rg 0 (0 : Int32)) 1 (0 : Int32)) 2 (20 : Int32)) 3 (30 : Int32)) 4 (5 : Int32)) 5 (9 : Int32)) 6 (2 : Int32)) 7 (10 : Int32)) 8 (4 : Int32)) 9 (10 : Int32)) 10 (20 : Int32)) 11 (10 : Int32)) 12 (0 : Int32))] := hD
  refine lv_aload_n hx hb dX6_clear_72 rfl (lv_at hl 0 rfl) ?_
  refine lv_iconst (v := (0 : Int32)) hx hb dX6_clear_73 (by decide) ?_
  refine va_put (D := E.1) (ci := 6) (v := .int (0 : Int32)) (ty := .int) (C := RX6) (T := TX6) (N := 17) hx hb hts iX6_clear_X6 tyX6 tyX6_ok nmX6 hown hE.1 hP hD hS 0 rfl rfl 13 (by decide) (hts (.fieldLink RX6 50 "BandBoat$Rig" "rudder" "I") (List.mem_of_getElem? (i := 14) rfl)) (fun _ h9 => h9) rfl (by decide +kernel) rfl rfl (Nat.le_of_ble_eq_true rfl) dX6_clear_74 (fun H locs hP hD hS => ?_)
  have hP : va_P E.1 vwCl [xRig h_rg (upd (upd (upd (upd (upd (upd (upd (upd (upd (upd (upd (upd (upd (upd rg 0 (0 : Int32)) 1 (0 : Int32)) 2 (20 : Int32)) 3 (30 : Int32)) 4 (5 : Int32)) 5 (9 : Int32)) 6 (2 : Int32)) 7 (10 : Int32)) 8 (4 : Int32)) 9 (10 : Int32)) 10 (20 : Int32)) 11 (10 : Int32)) 12 (0 : Int32)) 13 (0 : Int32))] H := hP
  have hD : va_D A [xRig h_rg (upd (upd (upd (upd (upd (upd (upd (upd (upd (upd (upd (upd (upd (upd rg 0 (0 : Int32)) 1 (0 : Int32)) 2 (20 : Int32)) 3 (30 : Int32)) 4 (5 : Int32)) 5 (9 : Int32)) 6 (2 : Int32)) 7 (10 : Int32)) 8 (4 : Int32)) 9 (10 : Int32)) 10 (20 : Int32)) 11 (10 : Int32)) 12 (0 : Int32)) 13 (0 : Int32))] := hD
  refine lv_aload_n hx hb dX6_clear_77 rfl (lv_at hl 0 rfl) ?_
  refine lv_iconst (v := (0 : Int32)) hx hb dX6_clear_78 (by decide) ?_
  refine va_put (D := E.1) (ci := 6) (v := .int (0 : Int32)) (ty := .int) (C := RX6) (T := TX6) (N := 17) hx hb hts iX6_clear_X6 tyX6 tyX6_ok nmX6 hown hE.1 hP hD hS 0 rfl rfl 14 (by decide) (hts (.fieldLink RX6 53 "BandBoat$Rig" "cold" "I") (List.mem_of_getElem? (i := 15) rfl)) (fun _ h9 => h9) rfl (by decide +kernel) rfl rfl (Nat.le_of_ble_eq_true rfl) dX6_clear_79 (fun H locs hP hD hS => ?_)
  have hP : va_P E.1 vwCl [xRig h_rg (upd (upd (upd (upd (upd (upd (upd (upd (upd (upd (upd (upd (upd (upd (upd rg 0 (0 : Int32)) 1 (0 : Int32)) 2 (20 : Int32)) 3 (30 : Int32)) 4 (5 : Int32)) 5 (9 : Int32)) 6 (2 : Int32)) 7 (10 : Int32)) 8 (4 : Int32)) 9 (10 : Int32)) 10 (20 : Int32)) 11 (10 : Int32)) 12 (0 : Int32)) 13 (0 : Int32)) 14 (0 : Int32))] H := hP
  have hD : va_D A [xRig h_rg (upd (upd (upd (upd (upd (upd (upd (upd (upd (upd (upd (upd (upd (upd (upd rg 0 (0 : Int32)) 1 (0 : Int32)) 2 (20 : Int32)) 3 (30 : Int32)) 4 (5 : Int32)) 5 (9 : Int32)) 6 (2 : Int32)) 7 (10 : Int32)) 8 (4 : Int32)) 9 (10 : Int32)) 10 (20 : Int32)) 11 (10 : Int32)) 12 (0 : Int32)) 13 (0 : Int32)) 14 (0 : Int32))] := hD
  refine lv_aload_n hx hb dX6_clear_82 rfl (lv_at hl 0 rfl) ?_
  refine lv_iconst (v := (0 : Int32)) hx hb dX6_clear_83 (by decide) ?_
  refine va_put (D := E.1) (ci := 6) (v := .int (0 : Int32)) (ty := .int) (C := RX6) (T := TX6) (N := 17) hx hb hts iX6_clear_X6 tyX6 tyX6_ok nmX6 hown hE.1 hP hD hS 0 rfl rfl 15 (by decide) (hts (.fieldLink RX6 56 "BandBoat$Rig" "days" "I") (List.mem_of_getElem? (i := 16) rfl)) (fun _ h9 => h9) rfl (by decide +kernel) rfl rfl (Nat.le_of_ble_eq_true rfl) dX6_clear_84 (fun H locs hP hD hS => ?_)
  have hP : va_P E.1 vwCl [xRig h_rg (upd (upd (upd (upd (upd (upd (upd (upd (upd (upd (upd (upd (upd (upd (upd (upd rg 0 (0 : Int32)) 1 (0 : Int32)) 2 (20 : Int32)) 3 (30 : Int32)) 4 (5 : Int32)) 5 (9 : Int32)) 6 (2 : Int32)) 7 (10 : Int32)) 8 (4 : Int32)) 9 (10 : Int32)) 10 (20 : Int32)) 11 (10 : Int32)) 12 (0 : Int32)) 13 (0 : Int32)) 14 (0 : Int32)) 15 (0 : Int32))] H := hP
  have hD : va_D A [xRig h_rg (upd (upd (upd (upd (upd (upd (upd (upd (upd (upd (upd (upd (upd (upd (upd (upd rg 0 (0 : Int32)) 1 (0 : Int32)) 2 (20 : Int32)) 3 (30 : Int32)) 4 (5 : Int32)) 5 (9 : Int32)) 6 (2 : Int32)) 7 (10 : Int32)) 8 (4 : Int32)) 9 (10 : Int32)) 10 (20 : Int32)) 11 (10 : Int32)) 12 (0 : Int32)) 13 (0 : Int32)) 14 (0 : Int32)) 15 (0 : Int32))] := hD
  refine lv_aload_n hx hb dX6_clear_87 rfl (lv_at hl 0 rfl) ?_
  refine lv_iconst (v := (0 : Int32)) hx hb dX6_clear_88 (by decide) ?_
  refine va_put (D := E.1) (ci := 6) (v := .int (0 : Int32)) (ty := .int) (C := RX6) (T := TX6) (N := 17) hx hb hts iX6_clear_X6 tyX6 tyX6_ok nmX6 hown hE.1 hP hD hS 0 rfl rfl 16 (by decide) (hts (.fieldLink RX6 59 "BandBoat$Rig" "gust" "I") (List.mem_of_getElem? (i := 17) rfl)) (fun _ h9 => h9) rfl (by decide +kernel) rfl rfl (Nat.le_of_ble_eq_true rfl) dX6_clear_89 (fun H locs hP hD hS => ?_)
  have hP : va_P E.1 vwCl [xRig h_rg (upd (upd (upd (upd (upd (upd (upd (upd (upd (upd (upd (upd (upd (upd (upd (upd (upd rg 0 (0 : Int32)) 1 (0 : Int32)) 2 (20 : Int32)) 3 (30 : Int32)) 4 (5 : Int32)) 5 (9 : Int32)) 6 (2 : Int32)) 7 (10 : Int32)) 8 (4 : Int32)) 9 (10 : Int32)) 10 (20 : Int32)) 11 (10 : Int32)) 12 (0 : Int32)) 13 (0 : Int32)) 14 (0 : Int32)) 15 (0 : Int32)) 16 (0 : Int32))] H := hP
  have hD : va_D A [xRig h_rg (upd (upd (upd (upd (upd (upd (upd (upd (upd (upd (upd (upd (upd (upd (upd (upd (upd rg 0 (0 : Int32)) 1 (0 : Int32)) 2 (20 : Int32)) 3 (30 : Int32)) 4 (5 : Int32)) 5 (9 : Int32)) 6 (2 : Int32)) 7 (10 : Int32)) 8 (4 : Int32)) 9 (10 : Int32)) 10 (20 : Int32)) 11 (10 : Int32)) 12 (0 : Int32)) 13 (0 : Int32)) 14 (0 : Int32)) 15 (0 : Int32)) 16 (0 : Int32))] := hD
  exact hq (upd (upd (upd (upd (upd (upd (upd (upd (upd (upd (upd (upd (upd (upd (upd (upd (upd rg 0 (0 : Int32)) 1 (0 : Int32)) 2 (20 : Int32)) 3 (30 : Int32)) 4 (5 : Int32)) 5 (9 : Int32)) 6 (2 : Int32)) 7 (10 : Int32)) 8 (4 : Int32)) 9 (10 : Int32)) 10 (20 : Int32)) 11 (10 : Int32)) 12 (0 : Int32)) 13 (0 : Int32)) 14 (0 : Int32)) 15 (0 : Int32)) 16 (0 : Int32)) _ _ _ _ dX6_clear_92 ⟨(hρ0.trans hρ), show ((0 : Int32)) = 0 from rfl⟩ hP hD hS
def F_X6_layFirst_k1 (g1 : Nat → Int32) : (Nat → Int32) := (upd (upd g1 0 (1 : Int32)) 1 (1 : Int32))
def F_X6_layFirst (rg : Nat → Int32) : (Nat → Int32) := F_X6_layFirst_k1 (F_X6_clear rg)
theorem iX6_layFirst_X6 : ∀ w ∈ wsX60, w ∈ wsX6_layFirst := fun _ h => List.mem_cons_of_mem _ (List.mem_append_right _ h)
set_option maxHeartbeats 4000000 in
set_option maxRecDepth 100000 in
theorem c_X6_layFirst (l : Launch) (E : wV) (h_rg : Nat) (rg : Nat → Int32) : MetV l yX6_layFirst wsX6_layFirst ({ frames := 1, cells := 0, slots := 0, locals := 20 } : Room) E ([.ref h_rg] : List Value) [xRig h_rg rg] (fun (u : (Nat → Int32)) => F_X6_layFirst rg = u) (fun (u : (Nat → Int32)) => [xRig h_rg u]) := by
  refine MetV.of (cc := cX6_layFirst) (maxL := 1) (own := RX6) (by decide) rfl rfl (Nat.le_of_ble_eq_true rfl) ?_
  intro p e s m below meth c A Q ls cx hP hD hS hl hq
  obtain ⟨hx, hb, hml, hown, hts, hE, hA⟩ := id cx
  have hl : lv_has ls 1 [(0, .ref h_rg)] := hl
  have hP : va_P E.1 vwCl [xRig h_rg rg] s.heap := hP
  obtain ⟨ρ, hρ0⟩ : ∃ ρ, F_X6_layFirst rg = ρ := ⟨_, rfl⟩
  have hρ := hρ0.symm
  unfold F_X6_layFirst at hρ
  refine lv_aload_n hx hb dX6_layFirst_0 rfl (lv_at hl 0 rfl) ?_
  refine kV (wc := [xRig h_rg rg]) (wr := []) (wc' := (fun (u : (Nat → Int32)) => [xRig h_rg u])) (wn := (fun (u : (Nat → Int32)) => [xRig h_rg u])) (isC := [0]) (isR := []) (is2 := [0]) cx hP hD hS ⟨rfl, rfl, by decide, by decide, by decide, by decide, fun _ => rfl⟩ (rV (As := []) (rest := []) (C := RX6) (q0 := 0) (ci := 6) cx (c_X6_clear l E h_rg rg _) (cwV 0 hts gX6_layFirst_X6_clear rfl rfl rfl (by decide +kernel) ⟨Nat.le_of_ble_eq_true rfl, Nat.le_of_ble_eq_true rfl⟩) rfl rfl rfl rfl hl.1 rfl (Nat.le_of_ble_eq_true rfl) dX6_layFirst_1 ⟨Nat.zero_le _, Nat.zero_le _⟩) (fun u H locs hw hP hD hS => ?_)
  obtain ⟨hw, hn1⟩ := hw
  obtain ⟨g1, rfl⟩ : ∃ z, z = u := ⟨_, rfl⟩
  have hn1 : ((g1 1)) = 0 := hn1
  have hP : va_P E.1 vwCl [xRig h_rg g1] H := hP
  have hD : va_D A [xRig h_rg g1] := hD
  have hw : F_X6_clear rg = g1 := hw
  rw [hw] at hρ
  have hρ : ρ = F_X6_layFirst_k1 g1 := hρ
  unfold F_X6_layFirst_k1 at hρ
  refine lv_aload_n hx hb dX6_layFirst_4 rfl (lv_at hl 0 rfl) ?_
  refine lv_iconst (v := (1 : Int32)) hx hb dX6_layFirst_5 (by decide) ?_
  refine va_put (D := E.1) (ci := 6) (v := .int (1 : Int32)) (ty := .int) (C := RX6) (T := TX6) (N := 17) hx hb hts iX6_layFirst_X6 tyX6 tyX6_ok nmX6 hown hE.1 hP hD hS 0 rfl rfl 0 (by decide) (hts (.fieldLink RX6 7 "BandBoat$Rig" "stuffs" "I") (List.mem_of_getElem? (i := 1) rfl)) (fun _ h9 => h9) rfl (by decide +kernel) rfl rfl (Nat.le_of_ble_eq_true rfl) dX6_layFirst_6 (fun H locs hP hD hS => ?_)
  have hP : va_P E.1 vwCl [xRig h_rg (upd g1 0 (1 : Int32))] H := hP
  have hD : va_D A [xRig h_rg (upd g1 0 (1 : Int32))] := hD
  refine lv_aload_n hx hb dX6_layFirst_9 rfl (lv_at hl 0 rfl) ?_
  refine lv_iconst (v := (1 : Int32)) hx hb dX6_layFirst_10 (by decide) ?_
  refine va_put (D := E.1) (ci := 6) (v := .int (1 : Int32)) (ty := .boolean) (C := RX6) (T := TX6) (N := 17) hx hb hts iX6_layFirst_X6 tyX6 tyX6_ok nmX6 hown hE.1 hP hD hS 0 rfl rfl 1 (by decide) (hts (.fieldLink RX6 13 "BandBoat$Rig" "banded" "Z") (List.mem_of_getElem? (i := 2) rfl)) (fun _ h9 => h9) rfl (by decide +kernel) rfl rfl (Nat.le_of_ble_eq_true rfl) dX6_layFirst_11 (fun H locs hP hD hS => ?_)
  have hP : va_P E.1 vwCl [xRig h_rg (upd (upd g1 0 (1 : Int32)) 1 (1 : Int32))] H := hP
  have hD : va_D A [xRig h_rg (upd (upd g1 0 (1 : Int32)) 1 (1 : Int32))] := hD
  exact hq (upd (upd g1 0 (1 : Int32)) 1 (1 : Int32)) _ _ _ _ dX6_layFirst_14 (hρ0.trans hρ) hP hD hS
def F_X6_copy (rg : Nat → Int32) (ot : Nat → Int32) : (Nat → Int32) := (upd (upd (upd (upd (upd (upd (upd (upd (upd (upd (upd (upd (upd (upd (upd (upd (upd rg 0 (ot 0)) 1 (ot 1)) 2 (ot 2)) 3 (ot 3)) 4 (ot 4)) 5 (ot 5)) 6 (ot 6)) 7 (ot 7)) 8 (ot 8)) 9 (ot 9)) 10 (ot 10)) 11 (ot 11)) 12 (ot 12)) 13 (ot 13)) 14 (ot 14)) 15 (ot 15)) 16 (ot 16))
theorem iX6_copy_X6 : ∀ w ∈ wsX60, w ∈ wsX6_copy := fun _ h => List.mem_cons_of_mem _ (List.mem_append_right _ h)
set_option maxHeartbeats 4000000 in
set_option maxRecDepth 100000 in
theorem c_X6_copy (l : Launch) (E : wV) (h_rg : Nat) (h_ot : Nat) (rg : Nat → Int32) (ot : Nat → Int32) (hz : ot 1 = 0 ∨ ot 1 = 1) : MetV l yX6_copy wsX6_copy ({ frames := 0, cells := 0, slots := 0, locals := 0 } : Room) E ([.ref h_rg, .ref h_ot] : List Value) [xRig h_rg rg, xRig h_ot ot] (fun (u : (Nat → Int32)) => F_X6_copy rg ot = u) (fun (u : (Nat → Int32)) => [xRig h_rg u, xRig h_ot ot]) := by
  refine MetV.of (cc := cX6_copy) (maxL := 2) (own := RX6) (by decide) rfl rfl (Nat.le_of_ble_eq_true rfl) ?_
  intro p e s m below meth c A Q ls cx hP hD hS hl hq
  obtain ⟨hx, hb, hml, hown, hts, hE, hA⟩ := id cx
  have hl : lv_has ls 2 [(0, .ref h_rg), (1, .ref h_ot)] := hl
  have hP : va_P E.1 vwCl [xRig h_rg rg, xRig h_ot ot] s.heap := hP
  obtain ⟨ρ, hρ0⟩ : ∃ ρ, F_X6_copy rg ot = ρ := ⟨_, rfl⟩
  have hρ := hρ0.symm
  unfold F_X6_copy at hρ
  refine lv_aload_n hx hb dX6_copy_0 rfl (lv_at hl 0 rfl) ?_
  refine lv_aload_n hx hb dX6_copy_1 rfl (lv_at hl 1 rfl) ?_
  refine va_get (D := E.1) (ci := 6) (v := .int (ot 0)) (C := RX6) (T := TX6) (N := 17) hx hb hts iX6_copy_X6 hown hE.1 hP 1 rfl rfl 0 (by decide) (hts (.fieldLink RX6 7 "BandBoat$Rig" "stuffs" "I") (List.mem_of_getElem? (i := 1) rfl)) (fun _ h9 => h9) rfl dX6_copy_2 ?_
  refine va_put (D := E.1) (ci := 6) (v := .int (ot 0)) (ty := .int) (C := RX6) (T := TX6) (N := 17) hx hb hts iX6_copy_X6 tyX6 tyX6_ok nmX6 hown hE.1 hP hD hS 0 rfl rfl 0 (by decide) (hts (.fieldLink RX6 7 "BandBoat$Rig" "stuffs" "I") (List.mem_of_getElem? (i := 1) rfl)) (fun _ h9 => h9) rfl (by decide +kernel) rfl rfl (Nat.le_of_ble_eq_true rfl) dX6_copy_5 (fun H locs hP hD hS => ?_)
  have hP : va_P E.1 vwCl [xRig h_rg (upd rg 0 (ot 0)), xRig h_ot ot] H := hP
  have hD : va_D A [xRig h_rg (upd rg 0 (ot 0)), xRig h_ot ot] := hD
  refine lv_aload_n hx hb dX6_copy_8 rfl (lv_at hl 0 rfl) ?_
  refine lv_aload_n hx hb dX6_copy_9 rfl (lv_at hl 1 rfl) ?_
  refine va_get (D := E.1) (ci := 6) (v := .int (ot 1)) (C := RX6) (T := TX6) (N := 17) hx hb hts iX6_copy_X6 hown hE.1 hP 1 rfl rfl 1 (by decide) (hts (.fieldLink RX6 13 "BandBoat$Rig" "banded" "Z") (List.mem_of_getElem? (i := 2) rfl)) (fun _ h9 => h9) rfl dX6_copy_10 ?_
  refine va_put (D := E.1) (ci := 6) (v := .int (ot 1)) (ty := .boolean) (C := RX6) (T := TX6) (N := 17) hx hb hts iX6_copy_X6 tyX6 tyX6_ok nmX6 hown hE.1 hP hD hS 0 rfl rfl 1 (by decide) (hts (.fieldLink RX6 13 "BandBoat$Rig" "banded" "Z") (List.mem_of_getElem? (i := 2) rfl)) (fun _ h9 => h9) rfl (by decide +kernel) (nar_z (hz)) (fit_z (hz)) (Nat.le_of_ble_eq_true rfl) dX6_copy_13 (fun H locs hP hD hS => ?_)
  have hP : va_P E.1 vwCl [xRig h_rg (upd (upd rg 0 (ot 0)) 1 (ot 1)), xRig h_ot ot] H := hP
  have hD : va_D A [xRig h_rg (upd (upd rg 0 (ot 0)) 1 (ot 1)), xRig h_ot ot] := hD
  refine lv_aload_n hx hb dX6_copy_16 rfl (lv_at hl 0 rfl) ?_
  refine lv_aload_n hx hb dX6_copy_17 rfl (lv_at hl 1 rfl) ?_
  refine va_get (D := E.1) (ci := 6) (v := .int (ot 2)) (C := RX6) (T := TX6) (N := 17) hx hb hts iX6_copy_X6 hown hE.1 hP 1 rfl rfl 2 (by decide) (hts (.fieldLink RX6 17 "BandBoat$Rig" "pulls" "I") (List.mem_of_getElem? (i := 3) rfl)) (fun _ h9 => h9) rfl dX6_copy_18 ?_
  refine va_put (D := E.1) (ci := 6) (v := .int (ot 2)) (ty := .int) (C := RX6) (T := TX6) (N := 17) hx hb hts iX6_copy_X6 tyX6 tyX6_ok nmX6 hown hE.1 hP hD hS 0 rfl rfl 2 (by decide) (hts (.fieldLink RX6 17 "BandBoat$Rig" "pulls" "I") (List.mem_of_getElem? (i := 3) rfl)) (fun _ h9 => h9) rfl (by decide +kernel) rfl rfl (Nat.le_of_ble_eq_true rfl) dX6_copy_21 (fun H locs hP hD hS => ?_)
  have hP : va_P E.1 vwCl [xRig h_rg (upd (upd (upd rg 0 (ot 0)) 1 (ot 1)) 2 (ot 2)), xRig h_ot ot] H := hP
  have hD : va_D A [xRig h_rg (upd (upd (upd rg 0 (ot 0)) 1 (ot 1)) 2 (ot 2)), xRig h_ot ot] := hD
  refine lv_aload_n hx hb dX6_copy_24 rfl (lv_at hl 0 rfl) ?_
  refine lv_aload_n hx hb dX6_copy_25 rfl (lv_at hl 1 rfl) ?_
  refine va_get (D := E.1) (ci := 6) (v := .int (ot 3)) (C := RX6) (T := TX6) (N := 17) hx hb hts iX6_copy_X6 hown hE.1 hP 1 rfl rfl 3 (by decide) (hts (.fieldLink RX6 20 "BandBoat$Rig" "loses" "I") (List.mem_of_getElem? (i := 4) rfl)) (fun _ h9 => h9) rfl dX6_copy_26 ?_
  refine va_put (D := E.1) (ci := 6) (v := .int (ot 3)) (ty := .int) (C := RX6) (T := TX6) (N := 17) hx hb hts iX6_copy_X6 tyX6 tyX6_ok nmX6 hown hE.1 hP hD hS 0 rfl rfl 3 (by decide) (hts (.fieldLink RX6 20 "BandBoat$Rig" "loses" "I") (List.mem_of_getElem? (i := 4) rfl)) (fun _ h9 => h9) rfl (by decide +kernel) rfl rfl (Nat.le_of_ble_eq_true rfl) dX6_copy_29 (fun H locs hP hD hS => ?_)
  have hP : va_P E.1 vwCl [xRig h_rg (upd (upd (upd (upd rg 0 (ot 0)) 1 (ot 1)) 2 (ot 2)) 3 (ot 3)), xRig h_ot ot] H := hP
  have hD : va_D A [xRig h_rg (upd (upd (upd (upd rg 0 (ot 0)) 1 (ot 1)) 2 (ot 2)) 3 (ot 3)), xRig h_ot ot] := hD
  refine lv_aload_n hx hb dX6_copy_32 rfl (lv_at hl 0 rfl) ?_
  refine lv_aload_n hx hb dX6_copy_33 rfl (lv_at hl 1 rfl) ?_
  refine va_get (D := E.1) (ci := 6) (v := .int (ot 4)) (C := RX6) (T := TX6) (N := 17) hx hb hts iX6_copy_X6 hown hE.1 hP 1 rfl rfl 4 (by decide) (hts (.fieldLink RX6 23 "BandBoat$Rig" "knots" "I") (List.mem_of_getElem? (i := 5) rfl)) (fun _ h9 => h9) rfl dX6_copy_34 ?_
  refine va_put (D := E.1) (ci := 6) (v := .int (ot 4)) (ty := .int) (C := RX6) (T := TX6) (N := 17) hx hb hts iX6_copy_X6 tyX6 tyX6_ok nmX6 hown hE.1 hP hD hS 0 rfl rfl 4 (by decide) (hts (.fieldLink RX6 23 "BandBoat$Rig" "knots" "I") (List.mem_of_getElem? (i := 5) rfl)) (fun _ h9 => h9) rfl (by decide +kernel) rfl rfl (Nat.le_of_ble_eq_true rfl) dX6_copy_37 (fun H locs hP hD hS => ?_)
  have hP : va_P E.1 vwCl [xRig h_rg (upd (upd (upd (upd (upd rg 0 (ot 0)) 1 (ot 1)) 2 (ot 2)) 3 (ot 3)) 4 (ot 4)), xRig h_ot ot] H := hP
  have hD : va_D A [xRig h_rg (upd (upd (upd (upd (upd rg 0 (ot 0)) 1 (ot 1)) 2 (ot 2)) 3 (ot 3)) 4 (ot 4)), xRig h_ot ot] := hD
  refine lv_aload_n hx hb dX6_copy_40 rfl (lv_at hl 0 rfl) ?_
  refine lv_aload_n hx hb dX6_copy_41 rfl (lv_at hl 1 rfl) ?_
  refine va_get (D := E.1) (ci := 6) (v := .int (ot 5)) (C := RX6) (T := TX6) (N := 17) hx hb hts iX6_copy_X6 hown hE.1 hP 1 rfl rfl 5 (by decide) (hts (.fieldLink RX6 26 "BandBoat$Rig" "snaps" "I") (List.mem_of_getElem? (i := 6) rfl)) (fun _ h9 => h9) rfl dX6_copy_42 ?_
  refine va_put (D := E.1) (ci := 6) (v := .int (ot 5)) (ty := .int) (C := RX6) (T := TX6) (N := 17) hx hb hts iX6_copy_X6 tyX6 tyX6_ok nmX6 hown hE.1 hP hD hS 0 rfl rfl 5 (by decide) (hts (.fieldLink RX6 26 "BandBoat$Rig" "snaps" "I") (List.mem_of_getElem? (i := 6) rfl)) (fun _ h9 => h9) rfl (by decide +kernel) rfl rfl (Nat.le_of_ble_eq_true rfl) dX6_copy_45 (fun H locs hP hD hS => ?_)
  have hP : va_P E.1 vwCl [xRig h_rg (upd (upd (upd (upd (upd (upd rg 0 (ot 0)) 1 (ot 1)) 2 (ot 2)) 3 (ot 3)) 4 (ot 4)) 5 (ot 5)), xRig h_ot ot] H := hP
  have hD : va_D A [xRig h_rg (upd (upd (upd (upd (upd (upd rg 0 (ot 0)) 1 (ot 1)) 2 (ot 2)) 3 (ot 3)) 4 (ot 4)) 5 (ot 5)), xRig h_ot ot] := hD
  refine lv_aload_n hx hb dX6_copy_48 rfl (lv_at hl 0 rfl) ?_
  refine lv_aload_n hx hb dX6_copy_49 rfl (lv_at hl 1 rfl) ?_
  refine va_get (D := E.1) (ci := 6) (v := .int (ot 6)) (C := RX6) (T := TX6) (N := 17) hx hb hts iX6_copy_X6 hown hE.1 hP 1 rfl rfl 6 (by decide) (hts (.fieldLink RX6 29 "BandBoat$Rig" "strands" "I") (List.mem_of_getElem? (i := 7) rfl)) (fun _ h9 => h9) rfl dX6_copy_50 ?_
  refine va_put (D := E.1) (ci := 6) (v := .int (ot 6)) (ty := .int) (C := RX6) (T := TX6) (N := 17) hx hb hts iX6_copy_X6 tyX6 tyX6_ok nmX6 hown hE.1 hP hD hS 0 rfl rfl 6 (by decide) (hts (.fieldLink RX6 29 "BandBoat$Rig" "strands" "I") (List.mem_of_getElem? (i := 7) rfl)) (fun _ h9 => h9) rfl (by decide +kernel) rfl rfl (Nat.le_of_ble_eq_true rfl) dX6_copy_53 (fun H locs hP hD hS => ?_)
  have hP : va_P E.1 vwCl [xRig h_rg (upd (upd (upd (upd (upd (upd (upd rg 0 (ot 0)) 1 (ot 1)) 2 (ot 2)) 3 (ot 3)) 4 (ot 4)) 5 (ot 5)) 6 (ot 6)), xRig h_ot ot] H := hP
  have hD : va_D A [xRig h_rg (upd (upd (upd (upd (upd (upd (upd rg 0 (ot 0)) 1 (ot 1)) 2 (ot 2)) 3 (ot 3)) 4 (ot 4)) 5 (ot 5)) 6 (ot 6)), xRig h_ot ot] := hD
  refine lv_aload_n hx hb dX6_copy_56 rfl (lv_at hl 0 rfl) ?_
  refine lv_aload_n hx hb dX6_copy_57 rfl (lv_at hl 1 rfl) ?_
  refine va_get (D := E.1) (ci := 6) (v := .int (ot 7)) (C := RX6) (T := TX6) (N := 17) hx hb hts iX6_copy_X6 hown hE.1 hP 1 rfl rfl 7 (by decide) (hts (.fieldLink RX6 32 "BandBoat$Rig" "length" "I") (List.mem_of_getElem? (i := 8) rfl)) (fun _ h9 => h9) rfl dX6_copy_58 ?_
  refine va_put (D := E.1) (ci := 6) (v := .int (ot 7)) (ty := .int) (C := RX6) (T := TX6) (N := 17) hx hb hts iX6_copy_X6 tyX6 tyX6_ok nmX6 hown hE.1 hP hD hS 0 rfl rfl 7 (by decide) (hts (.fieldLink RX6 32 "BandBoat$Rig" "length" "I") (List.mem_of_getElem? (i := 8) rfl)) (fun _ h9 => h9) rfl (by decide +kernel) rfl rfl (Nat.le_of_ble_eq_true rfl) dX6_copy_61 (fun H locs hP hD hS => ?_)
  have hP : va_P E.1 vwCl [xRig h_rg (upd (upd (upd (upd (upd (upd (upd (upd rg 0 (ot 0)) 1 (ot 1)) 2 (ot 2)) 3 (ot 3)) 4 (ot 4)) 5 (ot 5)) 6 (ot 6)) 7 (ot 7)), xRig h_ot ot] H := hP
  have hD : va_D A [xRig h_rg (upd (upd (upd (upd (upd (upd (upd (upd rg 0 (ot 0)) 1 (ot 1)) 2 (ot 2)) 3 (ot 3)) 4 (ot 4)) 5 (ot 5)) 6 (ot 6)) 7 (ot 7)), xRig h_ot ot] := hD
  refine lv_aload_n hx hb dX6_copy_64 rfl (lv_at hl 0 rfl) ?_
  refine lv_aload_n hx hb dX6_copy_65 rfl (lv_at hl 1 rfl) ?_
  refine va_get (D := E.1) (ci := 6) (v := .int (ot 8)) (C := RX6) (T := TX6) (N := 17) hx hb hts iX6_copy_X6 hown hE.1 hP 1 rfl rfl 8 (by decide) (hts (.fieldLink RX6 35 "BandBoat$Rig" "pitch" "I") (List.mem_of_getElem? (i := 9) rfl)) (fun _ h9 => h9) rfl dX6_copy_66 ?_
  refine va_put (D := E.1) (ci := 6) (v := .int (ot 8)) (ty := .int) (C := RX6) (T := TX6) (N := 17) hx hb hts iX6_copy_X6 tyX6 tyX6_ok nmX6 hown hE.1 hP hD hS 0 rfl rfl 8 (by decide) (hts (.fieldLink RX6 35 "BandBoat$Rig" "pitch" "I") (List.mem_of_getElem? (i := 9) rfl)) (fun _ h9 => h9) rfl (by decide +kernel) rfl rfl (Nat.le_of_ble_eq_true rfl) dX6_copy_69 (fun H locs hP hD hS => ?_)
  have hP : va_P E.1 vwCl [xRig h_rg (upd (upd (upd (upd (upd (upd (upd (upd (upd rg 0 (ot 0)) 1 (ot 1)) 2 (ot 2)) 3 (ot 3)) 4 (ot 4)) 5 (ot 5)) 6 (ot 6)) 7 (ot 7)) 8 (ot 8)), xRig h_ot ot] H := hP
  have hD : va_D A [xRig h_rg (upd (upd (upd (upd (upd (upd (upd (upd (upd rg 0 (ot 0)) 1 (ot 1)) 2 (ot 2)) 3 (ot 3)) 4 (ot 4)) 5 (ot 5)) 6 (ot 6)) 7 (ot 7)) 8 (ot 8)), xRig h_ot ot] := hD
  refine lv_aload_n hx hb dX6_copy_72 rfl (lv_at hl 0 rfl) ?_
  refine lv_aload_n hx hb dX6_copy_73 rfl (lv_at hl 1 rfl) ?_
  refine va_get (D := E.1) (ci := 6) (v := .int (ot 9)) (C := RX6) (T := TX6) (N := 17) hx hb hts iX6_copy_X6 hown hE.1 hP 1 rfl rfl 9 (by decide) (hts (.fieldLink RX6 38 "BandBoat$Rig" "width" "I") (List.mem_of_getElem? (i := 10) rfl)) (fun _ h9 => h9) rfl dX6_copy_74 ?_
  refine va_put (D := E.1) (ci := 6) (v := .int (ot 9)) (ty := .int) (C := RX6) (T := TX6) (N := 17) hx hb hts iX6_copy_X6 tyX6 tyX6_ok nmX6 hown hE.1 hP hD hS 0 rfl rfl 9 (by decide) (hts (.fieldLink RX6 38 "BandBoat$Rig" "width" "I") (List.mem_of_getElem? (i := 10) rfl)) (fun _ h9 => h9) rfl (by decide +kernel) rfl rfl (Nat.le_of_ble_eq_true rfl) dX6_copy_77 (fun H locs hP hD hS => ?_)
  have hP : va_P E.1 vwCl [xRig h_rg (upd (upd (upd (upd (upd (upd (upd (upd (upd (upd rg 0 (ot 0)) 1 (ot 1)) 2 (ot 2)) 3 (ot 3)) 4 (ot 4)) 5 (ot 5)) 6 (ot 6)) 7 (ot 7)) 8 (ot 8)) 9 (ot 9)), xRig h_ot ot] H := hP
  have hD : va_D A [xRig h_rg (upd (upd (upd (upd (upd (upd (upd (upd (upd (upd rg 0 (ot 0)) 1 (ot 1)) 2 (ot 2)) 3 (ot 3)) 4 (ot 4)) 5 (ot 5)) 6 (ot 6)) 7 (ot 7)) 8 (ot 8)) 9 (ot 9)), xRig h_ot ot] := hD
  refine lv_aload_n hx hb dX6_copy_80 rfl (lv_at hl 0 rfl) ?_
  refine lv_aload_n hx hb dX6_copy_81 rfl (lv_at hl 1 rfl) ?_
  refine va_get (D := E.1) (ci := 6) (v := .int (ot 10)) (C := RX6) (T := TX6) (N := 17) hx hb hts iX6_copy_X6 hown hE.1 hP 1 rfl rfl 10 (by decide) (hts (.fieldLink RX6 41 "BandBoat$Rig" "weight" "I") (List.mem_of_getElem? (i := 11) rfl)) (fun _ h9 => h9) rfl dX6_copy_82 ?_
  refine va_put (D := E.1) (ci := 6) (v := .int (ot 10)) (ty := .int) (C := RX6) (T := TX6) (N := 17) hx hb hts iX6_copy_X6 tyX6 tyX6_ok nmX6 hown hE.1 hP hD hS 0 rfl rfl 10 (by decide) (hts (.fieldLink RX6 41 "BandBoat$Rig" "weight" "I") (List.mem_of_getElem? (i := 11) rfl)) (fun _ h9 => h9) rfl (by decide +kernel) rfl rfl (Nat.le_of_ble_eq_true rfl) dX6_copy_85 (fun H locs hP hD hS => ?_)
  have hP : va_P E.1 vwCl [xRig h_rg (upd (upd (upd (upd (upd (upd (upd (upd (upd (upd (upd rg 0 (ot 0)) 1 (ot 1)) 2 (ot 2)) 3 (ot 3)) 4 (ot 4)) 5 (ot 5)) 6 (ot 6)) 7 (ot 7)) 8 (ot 8)) 9 (ot 9)) 10 (ot 10)), xRig h_ot ot] H := hP
  have hD : va_D A [xRig h_rg (upd (upd (upd (upd (upd (upd (upd (upd (upd (upd (upd rg 0 (ot 0)) 1 (ot 1)) 2 (ot 2)) 3 (ot 3)) 4 (ot 4)) 5 (ot 5)) 6 (ot 6)) 7 (ot 7)) 8 (ot 8)) 9 (ot 9)) 10 (ot 10)), xRig h_ot ot] := hD
  refine lv_aload_n hx hb dX6_copy_88 rfl (lv_at hl 0 rfl) ?_
  refine lv_aload_n hx hb dX6_copy_89 rfl (lv_at hl 1 rfl) ?_
  refine va_get (D := E.1) (ci := 6) (v := .int (ot 11)) (C := RX6) (T := TX6) (N := 17) hx hb hts iX6_copy_X6 hown hE.1 hP 1 rfl rfl 11 (by decide) (hts (.fieldLink RX6 44 "BandBoat$Rig" "drag" "I") (List.mem_of_getElem? (i := 12) rfl)) (fun _ h9 => h9) rfl dX6_copy_90 ?_
  refine va_put (D := E.1) (ci := 6) (v := .int (ot 11)) (ty := .int) (C := RX6) (T := TX6) (N := 17) hx hb hts iX6_copy_X6 tyX6 tyX6_ok nmX6 hown hE.1 hP hD hS 0 rfl rfl 11 (by decide) (hts (.fieldLink RX6 44 "BandBoat$Rig" "drag" "I") (List.mem_of_getElem? (i := 12) rfl)) (fun _ h9 => h9) rfl (by decide +kernel) rfl rfl (Nat.le_of_ble_eq_true rfl) dX6_copy_93 (fun H locs hP hD hS => ?_)
  have hP : va_P E.1 vwCl [xRig h_rg (upd (upd (upd (upd (upd (upd (upd (upd (upd (upd (upd (upd rg 0 (ot 0)) 1 (ot 1)) 2 (ot 2)) 3 (ot 3)) 4 (ot 4)) 5 (ot 5)) 6 (ot 6)) 7 (ot 7)) 8 (ot 8)) 9 (ot 9)) 10 (ot 10)) 11 (ot 11)), xRig h_ot ot] H := hP
  have hD : va_D A [xRig h_rg (upd (upd (upd (upd (upd (upd (upd (upd (upd (upd (upd (upd rg 0 (ot 0)) 1 (ot 1)) 2 (ot 2)) 3 (ot 3)) 4 (ot 4)) 5 (ot 5)) 6 (ot 6)) 7 (ot 7)) 8 (ot 8)) 9 (ot 9)) 10 (ot 10)) 11 (ot 11)), xRig h_ot ot] := hD
  refine lv_aload_n hx hb dX6_copy_96 rfl (lv_at hl 0 rfl) ?_
  refine lv_aload_n hx hb dX6_copy_97 rfl (lv_at hl 1 rfl) ?_
  refine va_get (D := E.1) (ci := 6) (v := .int (ot 12)) (C := RX6) (T := TX6) (N := 17) hx hb hts iX6_copy_X6 hown hE.1 hP 1 rfl rfl 12 (by decide) (hts (.fieldLink RX6 47 "BandBoat$Rig" "veer" "I") (List.mem_of_getElem? (i := 13) rfl)) (fun _ h9 => h9) rfl dX6_copy_98 ?_
  refine va_put (D := E.1) (ci := 6) (v := .int (ot 12)) (ty := .int) (C := RX6) (T := TX6) (N := 17) hx hb hts iX6_copy_X6 tyX6 tyX6_ok nmX6 hown hE.1 hP hD hS 0 rfl rfl 12 (by decide) (hts (.fieldLink RX6 47 "BandBoat$Rig" "veer" "I") (List.mem_of_getElem? (i := 13) rfl)) (fun _ h9 => h9) rfl (by decide +kernel) rfl rfl (Nat.le_of_ble_eq_true rfl) dX6_copy_101 (fun H locs hP hD hS => ?_)
  have hP : va_P E.1 vwCl [xRig h_rg (upd (upd (upd (upd (upd (upd (upd (upd (upd (upd (upd (upd (upd rg 0 (ot 0)) 1 (ot 1)) 2 (ot 2)) 3 (ot 3)) 4 (ot 4)) 5 (ot 5)) 6 (ot 6)) 7 (ot 7)) 8 (ot 8)) 9 (ot 9)) 10 (ot 10)) 11 (ot 11)) 12 (ot 12)), xRig h_ot ot] H := hP
  have hD : va_D A [xRig h_rg (upd (upd (upd (upd (upd (upd (upd (upd (upd (upd (upd (upd (upd rg 0 (ot 0)) 1 (ot 1)) 2 (ot 2)) 3 (ot 3)) 4 (ot 4)) 5 (ot 5)) 6 (ot 6)) 7 (ot 7)) 8 (ot 8)) 9 (ot 9)) 10 (ot 10)) 11 (ot 11)) 12 (ot 12)), xRig h_ot ot] := hD
  refine lv_aload_n hx hb dX6_copy_104 rfl (lv_at hl 0 rfl) ?_
  refine lv_aload_n hx hb dX6_copy_105 rfl (lv_at hl 1 rfl) ?_
  refine va_get (D := E.1) (ci := 6) (v := .int (ot 13)) (C := RX6) (T := TX6) (N := 17) hx hb hts iX6_copy_X6 hown hE.1 hP 1 rfl rfl 13 (by decide) (hts (.fieldLink RX6 50 "BandBoat$Rig" "rudder" "I") (List.mem_of_getElem? (i := 14) rfl)) (fun _ h9 => h9) rfl dX6_copy_106 ?_
  refine va_put (D := E.1) (ci := 6) (v := .int (ot 13)) (ty := .int) (C := RX6) (T := TX6) (N := 17) hx hb hts iX6_copy_X6 tyX6 tyX6_ok nmX6 hown hE.1 hP hD hS 0 rfl rfl 13 (by decide) (hts (.fieldLink RX6 50 "BandBoat$Rig" "rudder" "I") (List.mem_of_getElem? (i := 14) rfl)) (fun _ h9 => h9) rfl (by decide +kernel) rfl rfl (Nat.le_of_ble_eq_true rfl) dX6_copy_109 (fun H locs hP hD hS => ?_)
  have hP : va_P E.1 vwCl [xRig h_rg (upd (upd (upd (upd (upd (upd (upd (upd (upd (upd (upd (upd (upd (upd rg 0 (ot 0)) 1 (ot 1)) 2 (ot 2)) 3 (ot 3)) 4 (ot 4)) 5 (ot 5)) 6 (ot 6)) 7 (ot 7)) 8 (ot 8)) 9 (ot 9)) 10 (ot 10)) 11 (ot 11)) 12 (ot 12)) 13 (ot 13)), xRig h_ot ot] H := hP
  have hD : va_D A [xRig h_rg (upd (upd (upd (upd (upd (upd (upd (upd (upd (upd (upd (upd (upd (upd rg 0 (ot 0)) 1 (ot 1)) 2 (ot 2)) 3 (ot 3)) 4 (ot 4)) 5 (ot 5)) 6 (ot 6)) 7 (ot 7)) 8 (ot 8)) 9 (ot 9)) 10 (ot 10)) 11 (ot 11)) 12 (ot 12)) 13 (ot 13)), xRig h_ot ot] := hD
  refine lv_aload_n hx hb dX6_copy_112 rfl (lv_at hl 0 rfl) ?_
  refine lv_aload_n hx hb dX6_copy_113 rfl (lv_at hl 1 rfl) ?_
  refine va_get (D := E.1) (ci := 6) (v := .int (ot 14)) (C := RX6) (T := TX6) (N := 17) hx hb hts iX6_copy_X6 hown hE.1 hP 1 rfl rfl 14 (by decide) (hts (.fieldLink RX6 53 "BandBoat$Rig" "cold" "I") (List.mem_of_getElem? (i := 15) rfl)) (fun _ h9 => h9) rfl dX6_copy_114 ?_
  refine va_put (D := E.1) (ci := 6) (v := .int (ot 14)) (ty := .int) (C := RX6) (T := TX6) (N := 17) hx hb hts iX6_copy_X6 tyX6 tyX6_ok nmX6 hown hE.1 hP hD hS 0 rfl rfl 14 (by decide) (hts (.fieldLink RX6 53 "BandBoat$Rig" "cold" "I") (List.mem_of_getElem? (i := 15) rfl)) (fun _ h9 => h9) rfl (by decide +kernel) rfl rfl (Nat.le_of_ble_eq_true rfl) dX6_copy_117 (fun H locs hP hD hS => ?_)
  have hP : va_P E.1 vwCl [xRig h_rg (upd (upd (upd (upd (upd (upd (upd (upd (upd (upd (upd (upd (upd (upd (upd rg 0 (ot 0)) 1 (ot 1)) 2 (ot 2)) 3 (ot 3)) 4 (ot 4)) 5 (ot 5)) 6 (ot 6)) 7 (ot 7)) 8 (ot 8)) 9 (ot 9)) 10 (ot 10)) 11 (ot 11)) 12 (ot 12)) 13 (ot 13)) 14 (ot 14)), xRig h_ot ot] H := hP
  have hD : va_D A [xRig h_rg (upd (upd (upd (upd (upd (upd (upd (upd (upd (upd (upd (upd (upd (upd (upd rg 0 (ot 0)) 1 (ot 1)) 2 (ot 2)) 3 (ot 3)) 4 (ot 4)) 5 (ot 5)) 6 (ot 6)) 7 (ot 7)) 8 (ot 8)) 9 (ot 9)) 10 (ot 10)) 11 (ot 11)) 12 (ot 12)) 13 (ot 13)) 14 (ot 14)), xRig h_ot ot] := hD
  refine lv_aload_n hx hb dX6_copy_120 rfl (lv_at hl 0 rfl) ?_
  refine lv_aload_n hx hb dX6_copy_121 rfl (lv_at hl 1 rfl) ?_
  refine va_get (D := E.1) (ci := 6) (v := .int (ot 15)) (C := RX6) (T := TX6) (N := 17) hx hb hts iX6_copy_X6 hown hE.1 hP 1 rfl rfl 15 (by decide) (hts (.fieldLink RX6 56 "BandBoat$Rig" "days" "I") (List.mem_of_getElem? (i := 16) rfl)) (fun _ h9 => h9) rfl dX6_copy_122 ?_
  refine va_put (D := E.1) (ci := 6) (v := .int (ot 15)) (ty := .int) (C := RX6) (T := TX6) (N := 17) hx hb hts iX6_copy_X6 tyX6 tyX6_ok nmX6 hown hE.1 hP hD hS 0 rfl rfl 15 (by decide) (hts (.fieldLink RX6 56 "BandBoat$Rig" "days" "I") (List.mem_of_getElem? (i := 16) rfl)) (fun _ h9 => h9) rfl (by decide +kernel) rfl rfl (Nat.le_of_ble_eq_true rfl) dX6_copy_125 (fun H locs hP hD hS => ?_)
  have hP : va_P E.1 vwCl [xRig h_rg (upd (upd (upd (upd (upd (upd (upd (upd (upd (upd (upd (upd (upd (upd (upd (upd rg 0 (ot 0)) 1 (ot 1)) 2 (ot 2)) 3 (ot 3)) 4 (ot 4)) 5 (ot 5)) 6 (ot 6)) 7 (ot 7)) 8 (ot 8)) 9 (ot 9)) 10 (ot 10)) 11 (ot 11)) 12 (ot 12)) 13 (ot 13)) 14 (ot 14)) 15 (ot 15)), xRig h_ot ot] H := hP
  have hD : va_D A [xRig h_rg (upd (upd (upd (upd (upd (upd (upd (upd (upd (upd (upd (upd (upd (upd (upd (upd rg 0 (ot 0)) 1 (ot 1)) 2 (ot 2)) 3 (ot 3)) 4 (ot 4)) 5 (ot 5)) 6 (ot 6)) 7 (ot 7)) 8 (ot 8)) 9 (ot 9)) 10 (ot 10)) 11 (ot 11)) 12 (ot 12)) 13 (ot 13)) 14 (ot 14)) 15 (ot 15)), xRig h_ot ot] := hD
  refine lv_aload_n hx hb dX6_copy_128 rfl (lv_at hl 0 rfl) ?_
  refine lv_aload_n hx hb dX6_copy_129 rfl (lv_at hl 1 rfl) ?_
  refine va_get (D := E.1) (ci := 6) (v := .int (ot 16)) (C := RX6) (T := TX6) (N := 17) hx hb hts iX6_copy_X6 hown hE.1 hP 1 rfl rfl 16 (by decide) (hts (.fieldLink RX6 59 "BandBoat$Rig" "gust" "I") (List.mem_of_getElem? (i := 17) rfl)) (fun _ h9 => h9) rfl dX6_copy_130 ?_
  refine va_put (D := E.1) (ci := 6) (v := .int (ot 16)) (ty := .int) (C := RX6) (T := TX6) (N := 17) hx hb hts iX6_copy_X6 tyX6 tyX6_ok nmX6 hown hE.1 hP hD hS 0 rfl rfl 16 (by decide) (hts (.fieldLink RX6 59 "BandBoat$Rig" "gust" "I") (List.mem_of_getElem? (i := 17) rfl)) (fun _ h9 => h9) rfl (by decide +kernel) rfl rfl (Nat.le_of_ble_eq_true rfl) dX6_copy_133 (fun H locs hP hD hS => ?_)
  have hP : va_P E.1 vwCl [xRig h_rg (upd (upd (upd (upd (upd (upd (upd (upd (upd (upd (upd (upd (upd (upd (upd (upd (upd rg 0 (ot 0)) 1 (ot 1)) 2 (ot 2)) 3 (ot 3)) 4 (ot 4)) 5 (ot 5)) 6 (ot 6)) 7 (ot 7)) 8 (ot 8)) 9 (ot 9)) 10 (ot 10)) 11 (ot 11)) 12 (ot 12)) 13 (ot 13)) 14 (ot 14)) 15 (ot 15)) 16 (ot 16)), xRig h_ot ot] H := hP
  have hD : va_D A [xRig h_rg (upd (upd (upd (upd (upd (upd (upd (upd (upd (upd (upd (upd (upd (upd (upd (upd (upd rg 0 (ot 0)) 1 (ot 1)) 2 (ot 2)) 3 (ot 3)) 4 (ot 4)) 5 (ot 5)) 6 (ot 6)) 7 (ot 7)) 8 (ot 8)) 9 (ot 9)) 10 (ot 10)) 11 (ot 11)) 12 (ot 12)) 13 (ot 13)) 14 (ot 14)) 15 (ot 15)) 16 (ot 16)), xRig h_ot ot] := hD
  exact hq (upd (upd (upd (upd (upd (upd (upd (upd (upd (upd (upd (upd (upd (upd (upd (upd (upd rg 0 (ot 0)) 1 (ot 1)) 2 (ot 2)) 3 (ot 3)) 4 (ot 4)) 5 (ot 5)) 6 (ot 6)) 7 (ot 7)) 8 (ot 8)) 9 (ot 9)) 10 (ot 10)) 11 (ot 11)) 12 (ot 12)) 13 (ot 13)) 14 (ot 14)) 15 (ot 15)) 16 (ot 16)) _ _ _ _ dX6_copy_136 (hρ0.trans hρ) hP hD hS
def F_X4_rest (mo : Nat → Int32) : (Nat → Int32) := (upd (upd (upd (upd (upd (upd (upd mo 0 (0 : Int32)) 1 (0 : Int32)) 2 (0 : Int32)) 3 (0 : Int32)) 4 (0 : Int32)) 5 (0 : Int32)) 6 (0 : Int32))
theorem iX4_rest_X4 : ∀ w ∈ wsX40, w ∈ wsX4_rest := fun _ h => List.mem_cons_of_mem _ (List.mem_append_right _ h)
set_option maxHeartbeats 4000000 in
set_option maxRecDepth 100000 in
theorem c_X4_rest (l : Launch) (E : wV) (h_mo : Nat) (mo : Nat → Int32) : MetV l yX4_rest wsX4_rest ({ frames := 0, cells := 0, slots := 0, locals := 0 } : Room) E ([.ref h_mo] : List Value) [xMotion h_mo mo] (fun (u : (Nat → Int32)) => F_X4_rest mo = u) (fun (u : (Nat → Int32)) => [xMotion h_mo u]) := by
  refine MetV.of (cc := cX4_rest) (maxL := 1) (own := RX4) (by decide) rfl rfl (Nat.le_of_ble_eq_true rfl) ?_
  intro p e s m below meth c A Q ls cx hP hD hS hl hq
  obtain ⟨hx, hb, hml, hown, hts, hE, hA⟩ := id cx
  have hl : lv_has ls 1 [(0, .ref h_mo)] := hl
  have hP : va_P E.1 vwCl [xMotion h_mo mo] s.heap := hP
  obtain ⟨ρ, hρ0⟩ : ∃ ρ, F_X4_rest mo = ρ := ⟨_, rfl⟩
  have hρ := hρ0.symm
  unfold F_X4_rest at hρ
  refine lv_aload_n hx hb dX4_rest_0 rfl (lv_at hl 0 rfl) ?_
  refine lv_iconst (v := (0 : Int32)) hx hb dX4_rest_1 (by decide) ?_
  refine va_put (D := E.1) (ci := 4) (v := .int (0 : Int32)) (ty := .int) (C := RX4) (T := TX4) (N := 7) hx hb hts iX4_rest_X4 tyX4 tyX4_ok nmX4 hown hE.1 hP hD hS 0 rfl rfl 0 (by decide) (hts (.fieldLink RX4 9 "BandBoat$Motion" "parts" "I") (List.mem_of_getElem? (i := 1) rfl)) (fun _ h9 => h9) rfl (by decide +kernel) rfl rfl (Nat.le_of_ble_eq_true rfl) dX4_rest_2 (fun H locs hP hD hS => ?_)
  have hP : va_P E.1 vwCl [xMotion h_mo (upd mo 0 (0 : Int32))] H := hP
  have hD : va_D A [xMotion h_mo (upd mo 0 (0 : Int32))] := hD
  refine lv_aload_n hx hb dX4_rest_5 rfl (lv_at hl 0 rfl) ?_
  refine lv_iconst (v := (0 : Int32)) hx hb dX4_rest_6 (by decide) ?_
  refine va_put (D := E.1) (ci := 4) (v := .int (0 : Int32)) (ty := .int) (C := RX4) (T := TX4) (N := 7) hx hb hts iX4_rest_X4 tyX4 tyX4_ok nmX4 hown hE.1 hP hD hS 0 rfl rfl 1 (by decide) (hts (.fieldLink RX4 15 "BandBoat$Motion" "pace" "I") (List.mem_of_getElem? (i := 2) rfl)) (fun _ h9 => h9) rfl (by decide +kernel) rfl rfl (Nat.le_of_ble_eq_true rfl) dX4_rest_7 (fun H locs hP hD hS => ?_)
  have hP : va_P E.1 vwCl [xMotion h_mo (upd (upd mo 0 (0 : Int32)) 1 (0 : Int32))] H := hP
  have hD : va_D A [xMotion h_mo (upd (upd mo 0 (0 : Int32)) 1 (0 : Int32))] := hD
  refine lv_aload_n hx hb dX4_rest_10 rfl (lv_at hl 0 rfl) ?_
  refine lv_iconst (v := (0 : Int32)) hx hb dX4_rest_11 (by decide) ?_
  refine va_put (D := E.1) (ci := 4) (v := .int (0 : Int32)) (ty := .int) (C := RX4) (T := TX4) (N := 7) hx hb hts iX4_rest_X4 tyX4 tyX4_ok nmX4 hown hE.1 hP hD hS 0 rfl rfl 2 (by decide) (hts (.fieldLink RX4 18 "BandBoat$Motion" "place" "I") (List.mem_of_getElem? (i := 3) rfl)) (fun _ h9 => h9) rfl (by decide +kernel) rfl rfl (Nat.le_of_ble_eq_true rfl) dX4_rest_12 (fun H locs hP hD hS => ?_)
  have hP : va_P E.1 vwCl [xMotion h_mo (upd (upd (upd mo 0 (0 : Int32)) 1 (0 : Int32)) 2 (0 : Int32))] H := hP
  have hD : va_D A [xMotion h_mo (upd (upd (upd mo 0 (0 : Int32)) 1 (0 : Int32)) 2 (0 : Int32))] := hD
  refine lv_aload_n hx hb dX4_rest_15 rfl (lv_at hl 0 rfl) ?_
  refine lv_iconst (v := (0 : Int32)) hx hb dX4_rest_16 (by decide) ?_
  refine va_put (D := E.1) (ci := 4) (v := .int (0 : Int32)) (ty := .int) (C := RX4) (T := TX4) (N := 7) hx hb hts iX4_rest_X4 tyX4 tyX4_ok nmX4 hown hE.1 hP hD hS 0 rfl rfl 3 (by decide) (hts (.fieldLink RX4 21 "BandBoat$Motion" "turn" "I") (List.mem_of_getElem? (i := 4) rfl)) (fun _ h9 => h9) rfl (by decide +kernel) rfl rfl (Nat.le_of_ble_eq_true rfl) dX4_rest_17 (fun H locs hP hD hS => ?_)
  have hP : va_P E.1 vwCl [xMotion h_mo (upd (upd (upd (upd mo 0 (0 : Int32)) 1 (0 : Int32)) 2 (0 : Int32)) 3 (0 : Int32))] H := hP
  have hD : va_D A [xMotion h_mo (upd (upd (upd (upd mo 0 (0 : Int32)) 1 (0 : Int32)) 2 (0 : Int32)) 3 (0 : Int32))] := hD
  refine lv_aload_n hx hb dX4_rest_20 rfl (lv_at hl 0 rfl) ?_
  refine lv_iconst (v := (0 : Int32)) hx hb dX4_rest_21 (by decide) ?_
  refine va_put (D := E.1) (ci := 4) (v := .int (0 : Int32)) (ty := .int) (C := RX4) (T := TX4) (N := 7) hx hb hts iX4_rest_X4 tyX4 tyX4_ok nmX4 hown hE.1 hP hD hS 0 rfl rfl 4 (by decide) (hts (.fieldLink RX4 24 "BandBoat$Motion" "side" "I") (List.mem_of_getElem? (i := 5) rfl)) (fun _ h9 => h9) rfl (by decide +kernel) rfl rfl (Nat.le_of_ble_eq_true rfl) dX4_rest_22 (fun H locs hP hD hS => ?_)
  have hP : va_P E.1 vwCl [xMotion h_mo (upd (upd (upd (upd (upd mo 0 (0 : Int32)) 1 (0 : Int32)) 2 (0 : Int32)) 3 (0 : Int32)) 4 (0 : Int32))] H := hP
  have hD : va_D A [xMotion h_mo (upd (upd (upd (upd (upd mo 0 (0 : Int32)) 1 (0 : Int32)) 2 (0 : Int32)) 3 (0 : Int32)) 4 (0 : Int32))] := hD
  refine lv_aload_n hx hb dX4_rest_25 rfl (lv_at hl 0 rfl) ?_
  refine lv_iconst (v := (0 : Int32)) hx hb dX4_rest_26 (by decide) ?_
  refine va_put (D := E.1) (ci := 4) (v := .int (0 : Int32)) (ty := .int) (C := RX4) (T := TX4) (N := 7) hx hb hts iX4_rest_X4 tyX4 tyX4_ok nmX4 hown hE.1 hP hD hS 0 rfl rfl 5 (by decide) (hts (.fieldLink RX4 27 "BandBoat$Motion" "tenth" "I") (List.mem_of_getElem? (i := 6) rfl)) (fun _ h9 => h9) rfl (by decide +kernel) rfl rfl (Nat.le_of_ble_eq_true rfl) dX4_rest_27 (fun H locs hP hD hS => ?_)
  have hP : va_P E.1 vwCl [xMotion h_mo (upd (upd (upd (upd (upd (upd mo 0 (0 : Int32)) 1 (0 : Int32)) 2 (0 : Int32)) 3 (0 : Int32)) 4 (0 : Int32)) 5 (0 : Int32))] H := hP
  have hD : va_D A [xMotion h_mo (upd (upd (upd (upd (upd (upd mo 0 (0 : Int32)) 1 (0 : Int32)) 2 (0 : Int32)) 3 (0 : Int32)) 4 (0 : Int32)) 5 (0 : Int32))] := hD
  refine lv_aload_n hx hb dX4_rest_30 rfl (lv_at hl 0 rfl) ?_
  refine lv_iconst (v := (0 : Int32)) hx hb dX4_rest_31 (by decide) ?_
  refine va_put (D := E.1) (ci := 4) (v := .int (0 : Int32)) (ty := .boolean) (C := RX4) (T := TX4) (N := 7) hx hb hts iX4_rest_X4 tyX4 tyX4_ok nmX4 hown hE.1 hP hD hS 0 rfl rfl 6 (by decide) (hts (.fieldLink RX4 30 "BandBoat$Motion" "steady" "Z") (List.mem_of_getElem? (i := 7) rfl)) (fun _ h9 => h9) rfl (by decide +kernel) rfl rfl (Nat.le_of_ble_eq_true rfl) dX4_rest_32 (fun H locs hP hD hS => ?_)
  have hP : va_P E.1 vwCl [xMotion h_mo (upd (upd (upd (upd (upd (upd (upd mo 0 (0 : Int32)) 1 (0 : Int32)) 2 (0 : Int32)) 3 (0 : Int32)) 4 (0 : Int32)) 5 (0 : Int32)) 6 (0 : Int32))] H := hP
  have hD : va_D A [xMotion h_mo (upd (upd (upd (upd (upd (upd (upd mo 0 (0 : Int32)) 1 (0 : Int32)) 2 (0 : Int32)) 3 (0 : Int32)) 4 (0 : Int32)) 5 (0 : Int32)) 6 (0 : Int32))] := hD
  exact hq (upd (upd (upd (upd (upd (upd (upd mo 0 (0 : Int32)) 1 (0 : Int32)) 2 (0 : Int32)) 3 (0 : Int32)) 4 (0 : Int32)) 5 (0 : Int32)) 6 (0 : Int32)) _ _ _ _ dX4_rest_35 (hρ0.trans hρ) hP hD hS
def F_X4_copy (mo : Nat → Int32) (ot : Nat → Int32) : (Nat → Int32) := (upd (upd (upd (upd (upd (upd (upd mo 0 (ot 0)) 1 (ot 1)) 2 (ot 2)) 3 (ot 3)) 4 (ot 4)) 5 (ot 5)) 6 (ot 6))
theorem iX4_copy_X4 : ∀ w ∈ wsX40, w ∈ wsX4_copy := fun _ h => List.mem_cons_of_mem _ (List.mem_append_right _ h)
set_option maxHeartbeats 4000000 in
set_option maxRecDepth 100000 in
theorem c_X4_copy (l : Launch) (E : wV) (h_mo : Nat) (h_ot : Nat) (mo : Nat → Int32) (ot : Nat → Int32) (hz : ot 6 = 0 ∨ ot 6 = 1) : MetV l yX4_copy wsX4_copy ({ frames := 0, cells := 0, slots := 0, locals := 0 } : Room) E ([.ref h_mo, .ref h_ot] : List Value) [xMotion h_mo mo, xMotion h_ot ot] (fun (u : (Nat → Int32)) => F_X4_copy mo ot = u) (fun (u : (Nat → Int32)) => [xMotion h_mo u, xMotion h_ot ot]) := by
  refine MetV.of (cc := cX4_copy) (maxL := 2) (own := RX4) (by decide) rfl rfl (Nat.le_of_ble_eq_true rfl) ?_
  intro p e s m below meth c A Q ls cx hP hD hS hl hq
  obtain ⟨hx, hb, hml, hown, hts, hE, hA⟩ := id cx
  have hl : lv_has ls 2 [(0, .ref h_mo), (1, .ref h_ot)] := hl
  have hP : va_P E.1 vwCl [xMotion h_mo mo, xMotion h_ot ot] s.heap := hP
  obtain ⟨ρ, hρ0⟩ : ∃ ρ, F_X4_copy mo ot = ρ := ⟨_, rfl⟩
  have hρ := hρ0.symm
  unfold F_X4_copy at hρ
  refine lv_aload_n hx hb dX4_copy_0 rfl (lv_at hl 0 rfl) ?_
  refine lv_aload_n hx hb dX4_copy_1 rfl (lv_at hl 1 rfl) ?_
  refine va_get (D := E.1) (ci := 4) (v := .int (ot 0)) (C := RX4) (T := TX4) (N := 7) hx hb hts iX4_copy_X4 hown hE.1 hP 1 rfl rfl 0 (by decide) (hts (.fieldLink RX4 9 "BandBoat$Motion" "parts" "I") (List.mem_of_getElem? (i := 1) rfl)) (fun _ h9 => h9) rfl dX4_copy_2 ?_
  refine va_put (D := E.1) (ci := 4) (v := .int (ot 0)) (ty := .int) (C := RX4) (T := TX4) (N := 7) hx hb hts iX4_copy_X4 tyX4 tyX4_ok nmX4 hown hE.1 hP hD hS 0 rfl rfl 0 (by decide) (hts (.fieldLink RX4 9 "BandBoat$Motion" "parts" "I") (List.mem_of_getElem? (i := 1) rfl)) (fun _ h9 => h9) rfl (by decide +kernel) rfl rfl (Nat.le_of_ble_eq_true rfl) dX4_copy_5 (fun H locs hP hD hS => ?_)
  have hP : va_P E.1 vwCl [xMotion h_mo (upd mo 0 (ot 0)), xMotion h_ot ot] H := hP
  have hD : va_D A [xMotion h_mo (upd mo 0 (ot 0)), xMotion h_ot ot] := hD
  refine lv_aload_n hx hb dX4_copy_8 rfl (lv_at hl 0 rfl) ?_
  refine lv_aload_n hx hb dX4_copy_9 rfl (lv_at hl 1 rfl) ?_
  refine va_get (D := E.1) (ci := 4) (v := .int (ot 1)) (C := RX4) (T := TX4) (N := 7) hx hb hts iX4_copy_X4 hown hE.1 hP 1 rfl rfl 1 (by decide) (hts (.fieldLink RX4 15 "BandBoat$Motion" "pace" "I") (List.mem_of_getElem? (i := 2) rfl)) (fun _ h9 => h9) rfl dX4_copy_10 ?_
  refine va_put (D := E.1) (ci := 4) (v := .int (ot 1)) (ty := .int) (C := RX4) (T := TX4) (N := 7) hx hb hts iX4_copy_X4 tyX4 tyX4_ok nmX4 hown hE.1 hP hD hS 0 rfl rfl 1 (by decide) (hts (.fieldLink RX4 15 "BandBoat$Motion" "pace" "I") (List.mem_of_getElem? (i := 2) rfl)) (fun _ h9 => h9) rfl (by decide +kernel) rfl rfl (Nat.le_of_ble_eq_true rfl) dX4_copy_13 (fun H locs hP hD hS => ?_)
  have hP : va_P E.1 vwCl [xMotion h_mo (upd (upd mo 0 (ot 0)) 1 (ot 1)), xMotion h_ot ot] H := hP
  have hD : va_D A [xMotion h_mo (upd (upd mo 0 (ot 0)) 1 (ot 1)), xMotion h_ot ot] := hD
  refine lv_aload_n hx hb dX4_copy_16 rfl (lv_at hl 0 rfl) ?_
  refine lv_aload_n hx hb dX4_copy_17 rfl (lv_at hl 1 rfl) ?_
  refine va_get (D := E.1) (ci := 4) (v := .int (ot 2)) (C := RX4) (T := TX4) (N := 7) hx hb hts iX4_copy_X4 hown hE.1 hP 1 rfl rfl 2 (by decide) (hts (.fieldLink RX4 18 "BandBoat$Motion" "place" "I") (List.mem_of_getElem? (i := 3) rfl)) (fun _ h9 => h9) rfl dX4_copy_18 ?_
  refine va_put (D := E.1) (ci := 4) (v := .int (ot 2)) (ty := .int) (C := RX4) (T := TX4) (N := 7) hx hb hts iX4_copy_X4 tyX4 tyX4_ok nmX4 hown hE.1 hP hD hS 0 rfl rfl 2 (by decide) (hts (.fieldLink RX4 18 "BandBoat$Motion" "place" "I") (List.mem_of_getElem? (i := 3) rfl)) (fun _ h9 => h9) rfl (by decide +kernel) rfl rfl (Nat.le_of_ble_eq_true rfl) dX4_copy_21 (fun H locs hP hD hS => ?_)
  have hP : va_P E.1 vwCl [xMotion h_mo (upd (upd (upd mo 0 (ot 0)) 1 (ot 1)) 2 (ot 2)), xMotion h_ot ot] H := hP
  have hD : va_D A [xMotion h_mo (upd (upd (upd mo 0 (ot 0)) 1 (ot 1)) 2 (ot 2)), xMotion h_ot ot] := hD
  refine lv_aload_n hx hb dX4_copy_24 rfl (lv_at hl 0 rfl) ?_
  refine lv_aload_n hx hb dX4_copy_25 rfl (lv_at hl 1 rfl) ?_
  refine va_get (D := E.1) (ci := 4) (v := .int (ot 3)) (C := RX4) (T := TX4) (N := 7) hx hb hts iX4_copy_X4 hown hE.1 hP 1 rfl rfl 3 (by decide) (hts (.fieldLink RX4 21 "BandBoat$Motion" "turn" "I") (List.mem_of_getElem? (i := 4) rfl)) (fun _ h9 => h9) rfl dX4_copy_26 ?_
  refine va_put (D := E.1) (ci := 4) (v := .int (ot 3)) (ty := .int) (C := RX4) (T := TX4) (N := 7) hx hb hts iX4_copy_X4 tyX4 tyX4_ok nmX4 hown hE.1 hP hD hS 0 rfl rfl 3 (by decide) (hts (.fieldLink RX4 21 "BandBoat$Motion" "turn" "I") (List.mem_of_getElem? (i := 4) rfl)) (fun _ h9 => h9) rfl (by decide +kernel) rfl rfl (Nat.le_of_ble_eq_true rfl) dX4_copy_29 (fun H locs hP hD hS => ?_)
  have hP : va_P E.1 vwCl [xMotion h_mo (upd (upd (upd (upd mo 0 (ot 0)) 1 (ot 1)) 2 (ot 2)) 3 (ot 3)), xMotion h_ot ot] H := hP
  have hD : va_D A [xMotion h_mo (upd (upd (upd (upd mo 0 (ot 0)) 1 (ot 1)) 2 (ot 2)) 3 (ot 3)), xMotion h_ot ot] := hD
  refine lv_aload_n hx hb dX4_copy_32 rfl (lv_at hl 0 rfl) ?_
  refine lv_aload_n hx hb dX4_copy_33 rfl (lv_at hl 1 rfl) ?_
  refine va_get (D := E.1) (ci := 4) (v := .int (ot 4)) (C := RX4) (T := TX4) (N := 7) hx hb hts iX4_copy_X4 hown hE.1 hP 1 rfl rfl 4 (by decide) (hts (.fieldLink RX4 24 "BandBoat$Motion" "side" "I") (List.mem_of_getElem? (i := 5) rfl)) (fun _ h9 => h9) rfl dX4_copy_34 ?_
  refine va_put (D := E.1) (ci := 4) (v := .int (ot 4)) (ty := .int) (C := RX4) (T := TX4) (N := 7) hx hb hts iX4_copy_X4 tyX4 tyX4_ok nmX4 hown hE.1 hP hD hS 0 rfl rfl 4 (by decide) (hts (.fieldLink RX4 24 "BandBoat$Motion" "side" "I") (List.mem_of_getElem? (i := 5) rfl)) (fun _ h9 => h9) rfl (by decide +kernel) rfl rfl (Nat.le_of_ble_eq_true rfl) dX4_copy_37 (fun H locs hP hD hS => ?_)
  have hP : va_P E.1 vwCl [xMotion h_mo (upd (upd (upd (upd (upd mo 0 (ot 0)) 1 (ot 1)) 2 (ot 2)) 3 (ot 3)) 4 (ot 4)), xMotion h_ot ot] H := hP
  have hD : va_D A [xMotion h_mo (upd (upd (upd (upd (upd mo 0 (ot 0)) 1 (ot 1)) 2 (ot 2)) 3 (ot 3)) 4 (ot 4)), xMotion h_ot ot] := hD
  refine lv_aload_n hx hb dX4_copy_40 rfl (lv_at hl 0 rfl) ?_
  refine lv_aload_n hx hb dX4_copy_41 rfl (lv_at hl 1 rfl) ?_
  refine va_get (D := E.1) (ci := 4) (v := .int (ot 5)) (C := RX4) (T := TX4) (N := 7) hx hb hts iX4_copy_X4 hown hE.1 hP 1 rfl rfl 5 (by decide) (hts (.fieldLink RX4 27 "BandBoat$Motion" "tenth" "I") (List.mem_of_getElem? (i := 6) rfl)) (fun _ h9 => h9) rfl dX4_copy_42 ?_
  refine va_put (D := E.1) (ci := 4) (v := .int (ot 5)) (ty := .int) (C := RX4) (T := TX4) (N := 7) hx hb hts iX4_copy_X4 tyX4 tyX4_ok nmX4 hown hE.1 hP hD hS 0 rfl rfl 5 (by decide) (hts (.fieldLink RX4 27 "BandBoat$Motion" "tenth" "I") (List.mem_of_getElem? (i := 6) rfl)) (fun _ h9 => h9) rfl (by decide +kernel) rfl rfl (Nat.le_of_ble_eq_true rfl) dX4_copy_45 (fun H locs hP hD hS => ?_)
  have hP : va_P E.1 vwCl [xMotion h_mo (upd (upd (upd (upd (upd (upd mo 0 (ot 0)) 1 (ot 1)) 2 (ot 2)) 3 (ot 3)) 4 (ot 4)) 5 (ot 5)), xMotion h_ot ot] H := hP
  have hD : va_D A [xMotion h_mo (upd (upd (upd (upd (upd (upd mo 0 (ot 0)) 1 (ot 1)) 2 (ot 2)) 3 (ot 3)) 4 (ot 4)) 5 (ot 5)), xMotion h_ot ot] := hD
  refine lv_aload_n hx hb dX4_copy_48 rfl (lv_at hl 0 rfl) ?_
  refine lv_aload_n hx hb dX4_copy_49 rfl (lv_at hl 1 rfl) ?_
  refine va_get (D := E.1) (ci := 4) (v := .int (ot 6)) (C := RX4) (T := TX4) (N := 7) hx hb hts iX4_copy_X4 hown hE.1 hP 1 rfl rfl 6 (by decide) (hts (.fieldLink RX4 30 "BandBoat$Motion" "steady" "Z") (List.mem_of_getElem? (i := 7) rfl)) (fun _ h9 => h9) rfl dX4_copy_50 ?_
  refine va_put (D := E.1) (ci := 4) (v := .int (ot 6)) (ty := .boolean) (C := RX4) (T := TX4) (N := 7) hx hb hts iX4_copy_X4 tyX4 tyX4_ok nmX4 hown hE.1 hP hD hS 0 rfl rfl 6 (by decide) (hts (.fieldLink RX4 30 "BandBoat$Motion" "steady" "Z") (List.mem_of_getElem? (i := 7) rfl)) (fun _ h9 => h9) rfl (by decide +kernel) (nar_z (hz)) (fit_z (hz)) (Nat.le_of_ble_eq_true rfl) dX4_copy_53 (fun H locs hP hD hS => ?_)
  have hP : va_P E.1 vwCl [xMotion h_mo (upd (upd (upd (upd (upd (upd (upd mo 0 (ot 0)) 1 (ot 1)) 2 (ot 2)) 3 (ot 3)) 4 (ot 4)) 5 (ot 5)) 6 (ot 6)), xMotion h_ot ot] H := hP
  have hD : va_D A [xMotion h_mo (upd (upd (upd (upd (upd (upd (upd mo 0 (ot 0)) 1 (ot 1)) 2 (ot 2)) 3 (ot 3)) 4 (ot 4)) 5 (ot 5)) 6 (ot 6)), xMotion h_ot ot] := hD
  exact hq (upd (upd (upd (upd (upd (upd (upd mo 0 (ot 0)) 1 (ot 1)) 2 (ot 2)) 3 (ot 3)) 4 (ot 4)) 5 (ot 5)) 6 (ot 6)) _ _ _ _ dX4_copy_56 (hρ0.trans hρ) hP hD hS
def F_X4_isOver (mo : Nat → Int32) : Int32 := (if (mo 0) = (0 : Int32) then (if (mo 1) = (0 : Int32) then (1 : Int32) else (0 : Int32)) else (0 : Int32))
theorem iX4_isOver_X4 : ∀ w ∈ wsX40, w ∈ wsX4_isOver := fun _ h => List.mem_cons_of_mem _ (List.mem_append_right _ h)
set_option maxHeartbeats 4000000 in
set_option maxRecDepth 100000 in
theorem c_X4_isOver (l : Launch) (E : wV) (h_mo : Nat) (mo : Nat → Int32) : MetI l yX4_isOver wsX4_isOver ({ frames := 0, cells := 0, slots := 0, locals := 0 } : Room) E ([.ref h_mo] : List Value) [xMotion h_mo mo] (fun (r : Int32) (_ : Unit) => r = F_X4_isOver mo) (fun (_ : Unit) => [xMotion h_mo mo]) := by
  refine MetI.of (cc := cX4_isOver) (maxL := 1) (own := RX4) (by decide) rfl rfl (Nat.le_of_ble_eq_true rfl) ?_
  intro p e s m below meth c A Q ls cx hP hD hS hl hq
  obtain ⟨hx, hb, hml, hown, hts, hE, hA⟩ := id cx
  have hl : lv_has ls 1 [(0, .ref h_mo)] := hl
  have hP : va_P E.1 vwCl [xMotion h_mo mo] s.heap := hP
  obtain ⟨ρ, hρ0⟩ : ∃ ρ, F_X4_isOver mo = ρ := ⟨_, rfl⟩
  have hρ := hρ0.symm
  unfold F_X4_isOver at hρ
  refine lv_aload_n hx hb dX4_isOver_0 rfl (lv_at hl 0 rfl) ?_
  refine va_get (D := E.1) (ci := 4) (v := .int (mo 0)) (C := RX4) (T := TX4) (N := 7) hx hb hts iX4_isOver_X4 hown hE.1 hP 0 rfl rfl 0 (by decide) (hts (.fieldLink RX4 9 "BandBoat$Motion" "parts" "I") (List.mem_of_getElem? (i := 1) rfl)) (fun _ h9 => h9) rfl dX4_isOver_1 ?_
  refine lv_if_ne (tgt := 18) hx hb dX4_isOver_4 (by decide) (fun c4 => ?_) (fun c4 => ?_)
  · rw [if_neg c4] at hρ
    refine lv_iconst (v := (0 : Int32)) hx hb dX4_isOver_18 (by decide) ?_
    exact hq (0 : Int32) () _ _ _ _ dX4_isOver_19 rfl (hρ0.trans hρ).symm hP hD hS
  · rw [if_pos c4] at hρ
    refine lv_aload_n hx hb dX4_isOver_7 rfl (lv_at hl 0 rfl) ?_
    refine va_get (D := E.1) (ci := 4) (v := .int (mo 1)) (C := RX4) (T := TX4) (N := 7) hx hb hts iX4_isOver_X4 hown hE.1 hP 0 rfl rfl 1 (by decide) (hts (.fieldLink RX4 15 "BandBoat$Motion" "pace" "I") (List.mem_of_getElem? (i := 2) rfl)) (fun _ h9 => h9) rfl dX4_isOver_8 ?_
    refine lv_if_ne (tgt := 18) hx hb dX4_isOver_11 (by decide) (fun c11 => ?_) (fun c11 => ?_)
    · rw [if_neg c11] at hρ
      refine lv_iconst (v := (0 : Int32)) hx hb dX4_isOver_18 (by decide) ?_
      exact hq (0 : Int32) () _ _ _ _ dX4_isOver_19 rfl (hρ0.trans hρ).symm hP hD hS
    · rw [if_pos c11] at hρ
      refine lv_iconst (v := (1 : Int32)) hx hb dX4_isOver_14 (by decide) ?_
      refine lv_goto (tgt := 19) hx hb dX4_isOver_15 (by decide) ?_
      exact hq (1 : Int32) () _ _ _ _ dX4_isOver_19 rfl (hρ0.trans hρ).symm hP hD hS
def F_X4_gustOf_k28 (most : Int32) (v1 : Int64) : Int32 := (Int64.toInt32 (((v1 * v1) - (v1 * v1) / (65521 : Int64) * (65521 : Int64)) - ((v1 * v1) - (v1 * v1) / (65521 : Int64) * (65521 : Int64)) / (Int32.toInt64 (most + (1 : Int32))) * (Int32.toInt64 (most + (1 : Int32)))))
def F_X4_gustOf (mo : Nat → Int32) (most : Int32) (z : Int32) : Int32 := (if z < (0 : Int32) then (0 : Int32) else (if (0 : Int32) ≤ most then F_X4_gustOf_k28 most ((((7919 : Int64) * (Int32.toInt64 z)) + ((6151 : Int64) * (Int32.toInt64 (mo 5)))) + (1 : Int64)) else (0 : Int32)))
theorem iX4_gustOf_X4 : ∀ w ∈ wsX40, w ∈ wsX4_gustOf := fun _ h => List.mem_cons_of_mem _ (List.mem_append_right _ h)
set_option maxHeartbeats 4000000 in
set_option maxRecDepth 100000 in
theorem c_X4_gustOf (l : Launch) (E : wV) (h_mo : Nat) (mo : Nat → Int32) (most : Int32) (z : Int32) : MetI l yX4_gustOf wsX4_gustOf ({ frames := 0, cells := 0, slots := 0, locals := 0 } : Room) E ([.ref h_mo, .int most, .int z] : List Value) [xMotion h_mo mo] (fun (r : Int32) (_ : Unit) => r = F_X4_gustOf mo most z) (fun (_ : Unit) => [xMotion h_mo mo]) := by
  refine MetI.of (cc := cX4_gustOf) (maxL := 5) (own := RX4) (by decide) rfl rfl (Nat.le_of_ble_eq_true rfl) ?_
  intro p e s m below meth c A Q ls cx hP hD hS hl hq
  obtain ⟨hx, hb, hml, hown, hts, hE, hA⟩ := id cx
  have hl : lv_has ls 5 [(0, .ref h_mo), (1, .int most), (2, .int z)] := hl
  have hP : va_P E.1 vwCl [xMotion h_mo mo] s.heap := hP
  obtain ⟨ρ, hρ0⟩ : ∃ ρ, F_X4_gustOf mo most z = ρ := ⟨_, rfl⟩
  have hρ := hρ0.symm
  unfold F_X4_gustOf at hρ
  refine lv_iload_n hx hb dX4_gustOf_0 rfl (lv_at hl 2 rfl) ?_
  refine lv_if_lt (tgt := 8) hx hb dX4_gustOf_1 (by decide) (fun c1 => ?_) (fun c1 => ?_)
  · rw [if_pos c1] at hρ
    refine lv_iconst (v := (0 : Int32)) hx hb dX4_gustOf_8 (by decide) ?_
    exact hq (0 : Int32) () _ _ _ _ dX4_gustOf_9 rfl (hρ0.trans hρ).symm hP hD hS
  · rw [if_neg c1] at hρ
    refine lv_iload_n hx hb dX4_gustOf_4 rfl (lv_at hl 1 rfl) ?_
    refine lv_if_ge (tgt := 10) hx hb dX4_gustOf_5 (by decide) (fun c5 => ?_) (fun c5 => ?_)
    · rw [if_pos c5] at hρ
      refine lv_ldc2 (own := RX4) (v := (7919 : Int64)) hx hb hown (hts (.constantLong RX4 91 (7919)) (List.mem_of_getElem? (i := 1) rfl)) dX4_gustOf_10 ?_
      refine lv_iload_n hx hb dX4_gustOf_13 rfl (lv_at hl 2 rfl) ?_
      refine lv_i2l hx hb dX4_gustOf_14 rfl ?_
      refine lv_lmul hx hb dX4_gustOf_15 ?_
      refine lv_ldc2 (own := RX4) (v := (6151 : Int64)) hx hb hown (hts (.constantLong RX4 93 (6151)) (List.mem_of_getElem? (i := 2) rfl)) dX4_gustOf_16 ?_
      refine lv_aload_n hx hb dX4_gustOf_19 rfl (lv_at hl 0 rfl) ?_
      refine va_get (D := E.1) (ci := 4) (v := .int (mo 5)) (C := RX4) (T := TX4) (N := 7) hx hb hts iX4_gustOf_X4 hown hE.1 hP 0 rfl rfl 5 (by decide) (hts (.fieldLink RX4 27 "BandBoat$Motion" "tenth" "I") (List.mem_of_getElem? (i := 3) rfl)) (fun _ h9 => h9) rfl dX4_gustOf_20 ?_
      refine lv_i2l hx hb dX4_gustOf_23 rfl ?_
      refine lv_lmul hx hb dX4_gustOf_24 ?_
      refine lv_ladd hx hb dX4_gustOf_25 ?_
      refine lv_lconst (v := (1 : Int64)) hx hb dX4_gustOf_26 (by decide) ?_
      refine lv_ladd hx hb dX4_gustOf_27 ?_
      refine lv_topl (fun v1 ev1 => ?_)
      have hρ : ρ = F_X4_gustOf_k28 most v1 := by rw [ev1]; exact hρ
      unfold F_X4_gustOf_k28 at hρ
      refine lv_lstore_n (lv' := [(3, .long v1), (0, .ref h_mo), (1, .int most), (2, .int z)]) hx hb dX4_gustOf_28 rfl hl (by decide) rfl (fun ls hl => ?_)
      refine lv_lload_n hx hb dX4_gustOf_29 rfl (lv_at hl 0 rfl) ?_
      refine lv_lload_n hx hb dX4_gustOf_30 rfl (lv_at hl 0 rfl) ?_
      refine lv_lmul hx hb dX4_gustOf_31 ?_
      refine lv_ldc2 (own := RX4) (v := (65521 : Int64)) hx hb hown (hts (.constantLong RX4 95 (65521)) (List.mem_of_getElem? (i := 4) rfl)) dX4_gustOf_32 ?_
      refine lv_lrem hx hb dX4_gustOf_35 (by decide) ?_
      refine lv_iload_n hx hb dX4_gustOf_36 rfl (lv_at hl 2 rfl) ?_
      refine lv_iconst (v := (1 : Int32)) hx hb dX4_gustOf_37 (by decide) ?_
      refine lv_iadd hx hb dX4_gustOf_38 ?_
      refine lv_i2l hx hb dX4_gustOf_39 rfl ?_
      refine lv_lrem hx hb dX4_gustOf_40 (gust_nz c5) ?_
      refine lv_l2i hx hb dX4_gustOf_41 rfl ?_
      exact hq (Int64.toInt32 (((v1 * v1) - (v1 * v1) / (65521 : Int64) * (65521 : Int64)) - ((v1 * v1) - (v1 * v1) / (65521 : Int64) * (65521 : Int64)) / (Int32.toInt64 (most + (1 : Int32))) * (Int32.toInt64 (most + (1 : Int32))))) () _ _ _ _ dX4_gustOf_42 rfl (hρ0.trans hρ).symm hP hD hS
    · rw [if_neg c5] at hρ
      refine lv_iconst (v := (0 : Int32)) hx hb dX4_gustOf_8 (by decide) ?_
      exact hq (0 : Int32) () _ _ _ _ dX4_gustOf_9 rfl (hρ0.trans hρ).symm hP hD hS
def F_X4_drift_k86 (v1 : Int32) (v3 : Int32) (v5 : Int32) (v6 : Int32) : Int32 × Int32 × Int32 × Int32 := (v1, v3, v5, v6)
def F_X4_drift_k76 (mo : Nat → Int32) (v1 : Int32) (v3 : Int32) (v5 : Int32) : Int32 × Int32 × Int32 × Int32 := F_X4_drift_k86 v1 v3 v5 ((mo 5) + (1 : Int32))
def F_X4_drift_k47 (mo : Nat → Int32) (v1 : Int32) (v3 : Int32) : Int32 × Int32 × Int32 × Int32 := F_X4_drift_k76 mo v1 v3 (F_X9_limit ((mo 4) + (((mo 1) * v3) / (1000 : Int32))) (-9999999 : Int32) (9999999 : Int32))
def F_X4_drift_k10 (mo : Nat → Int32) (rg : Nat → Int32) (push : Int32) (v1 : Int32) : Int32 × Int32 × Int32 × Int32 := F_X4_drift_k47 mo v1 (F_X9_limit ((mo 3) + (((push * (rg 12)) - ((mo 1) * (rg 13))) / (100 : Int32))) (-9999 : Int32) (9999 : Int32))
def F_X4_drift (mo : Nat → Int32) (rg : Nat → Int32) (push : Int32) : Int32 × Int32 × Int32 × Int32 := F_X4_drift_k10 mo rg push ((mo 2) + (mo 1))
theorem iX4_drift_X4 : ∀ w ∈ wsX40, w ∈ wsX4_drift := fun _ h => List.mem_cons_of_mem _ (List.mem_append_left _ (List.mem_append_right _ h))
theorem iX4_drift_X6 : ∀ w ∈ wsX60, w ∈ wsX4_drift := fun _ h => List.mem_cons_of_mem _ (List.mem_append_right _ h)
set_option maxHeartbeats 4000000 in
set_option maxRecDepth 100000 in
theorem c_X4_drift (l : Launch) (E : wV) (h_mo : Nat) (h_rg : Nat) (mo : Nat → Int32) (rg : Nat → Int32) (push : Int32) : MetV l yX4_drift wsX4_drift ({ frames := 1, cells := 0, slots := 0, locals := 22 } : Room) E ([.ref h_mo, .ref h_rg, .int push] : List Value) [xMotion h_mo mo, xRig h_rg rg] (fun (u : Int32 × Int32 × Int32 × Int32) => F_X4_drift mo rg push = u) (fun (u : Int32 × Int32 × Int32 × Int32) => [xMotion h_mo (upd (upd (upd (upd mo 2 u.1) 3 u.2.1) 4 u.2.2.1) 5 u.2.2.2), xRig h_rg rg]) := by
  refine MetV.of (cc := cX4_drift) (maxL := 3) (own := RX4) (by decide) rfl rfl (Nat.le_of_ble_eq_true rfl) ?_
  intro p e s m below meth c A Q ls cx hP hD hS hl hq
  obtain ⟨hx, hb, hml, hown, hts, hE, hA⟩ := id cx
  have hl : lv_has ls 3 [(0, .ref h_mo), (1, .ref h_rg), (2, .int push)] := hl
  have hP : va_P E.1 vwCl [xMotion h_mo mo, xRig h_rg rg] s.heap := hP
  obtain ⟨ρ, hρ0⟩ : ∃ ρ, F_X4_drift mo rg push = ρ := ⟨_, rfl⟩
  have hρ := hρ0.symm
  unfold F_X4_drift at hρ
  refine lv_aload_n hx hb dX4_drift_0 rfl (lv_at hl 0 rfl) ?_
  refine lv_dup hx hb dX4_drift_1 rfl ?_
  refine va_get (D := E.1) (ci := 4) (v := .int (mo 2)) (C := RX4) (T := TX4) (N := 7) hx hb hts iX4_drift_X4 hown hE.1 hP 0 rfl rfl 2 (by decide) (hts (.fieldLink RX4 18 "BandBoat$Motion" "place" "I") (List.mem_of_getElem? (i := 1) rfl)) (fun _ h9 => h9) rfl dX4_drift_2 ?_
  refine lv_aload_n hx hb dX4_drift_5 rfl (lv_at hl 0 rfl) ?_
  refine va_get (D := E.1) (ci := 4) (v := .int (mo 1)) (C := RX4) (T := TX4) (N := 7) hx hb hts iX4_drift_X4 hown hE.1 hP 0 rfl rfl 1 (by decide) (hts (.fieldLink RX4 15 "BandBoat$Motion" "pace" "I") (List.mem_of_getElem? (i := 2) rfl)) (fun _ h9 => h9) rfl dX4_drift_6 ?_
  refine lv_iadd hx hb dX4_drift_9 ?_
  refine lv_topi (fun v1 ev1 => ?_)
  have hρ : ρ = F_X4_drift_k10 mo rg push v1 := by rw [ev1]; exact hρ
  unfold F_X4_drift_k10 at hρ
  refine va_put (D := E.1) (ci := 4) (v := .int v1) (ty := .int) (C := RX4) (T := TX4) (N := 7) hx hb hts iX4_drift_X4 tyX4 tyX4_ok nmX4 hown hE.1 hP hD hS 0 rfl rfl 2 (by decide) (hts (.fieldLink RX4 18 "BandBoat$Motion" "place" "I") (List.mem_of_getElem? (i := 1) rfl)) (fun _ h9 => h9) rfl (by decide +kernel) rfl rfl (Nat.le_of_ble_eq_true rfl) dX4_drift_10 (fun H locs hP hD hS => ?_)
  have hP : va_P E.1 vwCl [xMotion h_mo (upd mo 2 v1), xRig h_rg rg] H := hP
  have hD : va_D A [xMotion h_mo (upd mo 2 v1), xRig h_rg rg] := hD
  refine lv_aload_n hx hb dX4_drift_13 rfl (lv_at hl 0 rfl) ?_
  refine lv_aload_n hx hb dX4_drift_14 rfl (lv_at hl 0 rfl) ?_
  refine va_get (D := E.1) (ci := 4) (v := .int (mo 3)) (C := RX4) (T := TX4) (N := 7) hx hb hts iX4_drift_X4 hown hE.1 hP 0 rfl rfl 3 (by decide) (hts (.fieldLink RX4 21 "BandBoat$Motion" "turn" "I") (List.mem_of_getElem? (i := 3) rfl)) (fun _ h9 => h9) rfl dX4_drift_15 ?_
  refine lv_iload_n hx hb dX4_drift_18 rfl (lv_at hl 2 rfl) ?_
  refine lv_aload_n hx hb dX4_drift_19 rfl (lv_at hl 1 rfl) ?_
  refine va_getN (D := E.1) (ci := 6) (v := .int (rg 12)) (C := RX6) (T := TX6) (N := 17) hx hb hts iX4_drift_X6 hown hE.1 hP 1 rfl rfl 12 (by decide) (hE.n 32 rfl) (fun _ h9 => h9) rfl dX4_drift_20 ?_
  refine lv_imul hx hb dX4_drift_23 ?_
  refine lv_aload_n hx hb dX4_drift_24 rfl (lv_at hl 0 rfl) ?_
  refine va_get (D := E.1) (ci := 4) (v := .int (mo 1)) (C := RX4) (T := TX4) (N := 7) hx hb hts iX4_drift_X4 hown hE.1 hP 0 rfl rfl 1 (by decide) (hts (.fieldLink RX4 15 "BandBoat$Motion" "pace" "I") (List.mem_of_getElem? (i := 2) rfl)) (fun _ h9 => h9) rfl dX4_drift_25 ?_
  refine lv_aload_n hx hb dX4_drift_28 rfl (lv_at hl 1 rfl) ?_
  refine va_getN (D := E.1) (ci := 6) (v := .int (rg 13)) (C := RX6) (T := TX6) (N := 17) hx hb hts iX4_drift_X6 hown hE.1 hP 1 rfl rfl 13 (by decide) (hE.n 34 rfl) (fun _ h9 => h9) rfl dX4_drift_29 ?_
  refine lv_imul hx hb dX4_drift_32 ?_
  refine lv_isub hx hb dX4_drift_33 ?_
  refine lv_bipush (v := (100 : Int32)) hx hb dX4_drift_34 (by decide) ?_
  refine lv_idiv hx hb dX4_drift_36 (by decide) ?_
  refine lv_iadd hx hb dX4_drift_37 ?_
  refine lv_sipush (v := (-9999 : Int32)) hx hb dX4_drift_38 (by decide) ?_
  refine lv_sipush (v := (9999 : Int32)) hx hb dX4_drift_41 (by decide) ?_
  refine kI (wc := []) (wr := [xMotion h_mo (upd mo 2 v1), xRig h_rg rg]) (wc' := (fun (_ : Unit) => [])) (wn := (fun (_ : Unit) => [xMotion h_mo (upd mo 2 v1), xRig h_rg rg])) (isC := []) (isR := [0, 1]) (is2 := [0, 1]) cx hP hD hS ⟨rfl, rfl, by decide, by decide, by decide, by decide, fun _ => rfl⟩ (rSN (As := [.int ((mo 3) + (((push * (rg 12)) - ((mo 1) * (rg 13))) / (100 : Int32))), .int (-9999 : Int32), .int (9999 : Int32)]) (rest := [.ref h_mo]) cx (c_X9_limit l E ((mo 3) + (((push * (rg 12)) - ((mo 1) * (rg 13))) / (100 : Int32))) (-9999 : Int32) (9999 : Int32) _) (va_cnB 3 hts gX4_drift_X9_limit_n75 rfl rfl rfl (hE.nw 94 rfl) (hts (.initialized RX9) (List.mem_of_getElem? (i := 9) rfl)) (by decide +kernel) ⟨Nat.le_of_ble_eq_true rfl, Nat.le_of_ble_eq_true rfl⟩) (hts (.static yX9_limit) (List.mem_of_getElem? (i := 8) rfl)) rfl hl.1 rfl (Nat.le_of_ble_eq_true rfl) dX4_drift_44 ⟨Nat.zero_le _, Nat.zero_le _⟩) (fun r2 u H locs hw hP hD hS => ?_)
  subst hw
  refine lv_topi (fun v3 ev3 => ?_)
  have hρ : ρ = F_X4_drift_k47 mo v1 v3 := by rw [ev3]; exact hρ
  unfold F_X4_drift_k47 at hρ
  refine va_put (D := E.1) (ci := 4) (v := .int v3) (ty := .int) (C := RX4) (T := TX4) (N := 7) hx hb hts iX4_drift_X4 tyX4 tyX4_ok nmX4 hown hE.1 hP hD hS 0 rfl rfl 3 (by decide) (hts (.fieldLink RX4 21 "BandBoat$Motion" "turn" "I") (List.mem_of_getElem? (i := 3) rfl)) (fun _ h9 => h9) rfl (by decide +kernel) rfl rfl (Nat.le_of_ble_eq_true rfl) dX4_drift_47 (fun H locs hP hD hS => ?_)
  have hP : va_P E.1 vwCl [xMotion h_mo (upd (upd mo 2 v1) 3 v3), xRig h_rg rg] H := hP
  have hD : va_D A [xMotion h_mo (upd (upd mo 2 v1) 3 v3), xRig h_rg rg] := hD
  refine lv_aload_n hx hb dX4_drift_50 rfl (lv_at hl 0 rfl) ?_
  refine lv_aload_n hx hb dX4_drift_51 rfl (lv_at hl 0 rfl) ?_
  refine va_get (D := E.1) (ci := 4) (v := .int (mo 4)) (C := RX4) (T := TX4) (N := 7) hx hb hts iX4_drift_X4 hown hE.1 hP 0 rfl rfl 4 (by decide) (hts (.fieldLink RX4 24 "BandBoat$Motion" "side" "I") (List.mem_of_getElem? (i := 4) rfl)) (fun _ h9 => h9) rfl dX4_drift_52 ?_
  refine lv_aload_n hx hb dX4_drift_55 rfl (lv_at hl 0 rfl) ?_
  refine va_get (D := E.1) (ci := 4) (v := .int (mo 1)) (C := RX4) (T := TX4) (N := 7) hx hb hts iX4_drift_X4 hown hE.1 hP 0 rfl rfl 1 (by decide) (hts (.fieldLink RX4 15 "BandBoat$Motion" "pace" "I") (List.mem_of_getElem? (i := 2) rfl)) (fun _ h9 => h9) rfl dX4_drift_56 ?_
  refine lv_aload_n hx hb dX4_drift_59 rfl (lv_at hl 0 rfl) ?_
  refine va_get (D := E.1) (ci := 4) (v := .int v3) (C := RX4) (T := TX4) (N := 7) hx hb hts iX4_drift_X4 hown hE.1 hP 0 rfl rfl 3 (by decide) (hts (.fieldLink RX4 21 "BandBoat$Motion" "turn" "I") (List.mem_of_getElem? (i := 3) rfl)) (fun _ h9 => h9) rfl dX4_drift_60 ?_
  refine lv_imul hx hb dX4_drift_63 ?_
  refine lv_sipush (v := (1000 : Int32)) hx hb dX4_drift_64 (by decide) ?_
  refine lv_idiv hx hb dX4_drift_67 (by decide) ?_
  refine lv_iadd hx hb dX4_drift_68 ?_
  refine lv_ldc (own := RX4) (v := (-9999999 : Int32)) hx hb hown (hts (.constant RX4 89 (-9999999)) (List.mem_of_getElem? (i := 5) rfl)) dX4_drift_69 ?_
  refine lv_ldc (own := RX4) (v := (9999999 : Int32)) hx hb hown (hts (.constant RX4 90 (9999999)) (List.mem_of_getElem? (i := 6) rfl)) dX4_drift_71 ?_
  refine kI (wc := []) (wr := [xMotion h_mo (upd (upd mo 2 v1) 3 v3), xRig h_rg rg]) (wc' := (fun (_ : Unit) => [])) (wn := (fun (_ : Unit) => [xMotion h_mo (upd (upd mo 2 v1) 3 v3), xRig h_rg rg])) (isC := []) (isR := [0, 1]) (is2 := [0, 1]) cx hP hD hS ⟨rfl, rfl, by decide, by decide, by decide, by decide, fun _ => rfl⟩ (rSN (As := [.int ((mo 4) + (((mo 1) * v3) / (1000 : Int32))), .int (-9999999 : Int32), .int (9999999 : Int32)]) (rest := [.ref h_mo]) cx (c_X9_limit l E ((mo 4) + (((mo 1) * v3) / (1000 : Int32))) (-9999999 : Int32) (9999999 : Int32) _) (va_cnB 3 hts gX4_drift_X9_limit_n75 rfl rfl rfl (hE.nw 94 rfl) (hts (.initialized RX9) (List.mem_of_getElem? (i := 9) rfl)) (by decide +kernel) ⟨Nat.le_of_ble_eq_true rfl, Nat.le_of_ble_eq_true rfl⟩) (hts (.static yX9_limit) (List.mem_of_getElem? (i := 8) rfl)) rfl hl.1 rfl (Nat.le_of_ble_eq_true rfl) dX4_drift_73 ⟨Nat.zero_le _, Nat.zero_le _⟩) (fun r4 u H locs hw hP hD hS => ?_)
  subst hw
  refine lv_topi (fun v5 ev5 => ?_)
  have hρ : ρ = F_X4_drift_k76 mo v1 v3 v5 := by rw [ev5]; exact hρ
  unfold F_X4_drift_k76 at hρ
  refine va_put (D := E.1) (ci := 4) (v := .int v5) (ty := .int) (C := RX4) (T := TX4) (N := 7) hx hb hts iX4_drift_X4 tyX4 tyX4_ok nmX4 hown hE.1 hP hD hS 0 rfl rfl 4 (by decide) (hts (.fieldLink RX4 24 "BandBoat$Motion" "side" "I") (List.mem_of_getElem? (i := 4) rfl)) (fun _ h9 => h9) rfl (by decide +kernel) rfl rfl (Nat.le_of_ble_eq_true rfl) dX4_drift_76 (fun H locs hP hD hS => ?_)
  have hP : va_P E.1 vwCl [xMotion h_mo (upd (upd (upd mo 2 v1) 3 v3) 4 v5), xRig h_rg rg] H := hP
  have hD : va_D A [xMotion h_mo (upd (upd (upd mo 2 v1) 3 v3) 4 v5), xRig h_rg rg] := hD
  refine lv_aload_n hx hb dX4_drift_79 rfl (lv_at hl 0 rfl) ?_
  refine lv_dup hx hb dX4_drift_80 rfl ?_
  refine va_get (D := E.1) (ci := 4) (v := .int (mo 5)) (C := RX4) (T := TX4) (N := 7) hx hb hts iX4_drift_X4 hown hE.1 hP 0 rfl rfl 5 (by decide) (hts (.fieldLink RX4 27 "BandBoat$Motion" "tenth" "I") (List.mem_of_getElem? (i := 7) rfl)) (fun _ h9 => h9) rfl dX4_drift_81 ?_
  refine lv_iconst (v := (1 : Int32)) hx hb dX4_drift_84 (by decide) ?_
  refine lv_iadd hx hb dX4_drift_85 ?_
  refine lv_topi (fun v6 ev6 => ?_)
  have hρ : ρ = F_X4_drift_k86 v1 v3 v5 v6 := by rw [ev6]; exact hρ
  unfold F_X4_drift_k86 at hρ
  refine va_put (D := E.1) (ci := 4) (v := .int v6) (ty := .int) (C := RX4) (T := TX4) (N := 7) hx hb hts iX4_drift_X4 tyX4 tyX4_ok nmX4 hown hE.1 hP hD hS 0 rfl rfl 5 (by decide) (hts (.fieldLink RX4 27 "BandBoat$Motion" "tenth" "I") (List.mem_of_getElem? (i := 7) rfl)) (fun _ h9 => h9) rfl (by decide +kernel) rfl rfl (Nat.le_of_ble_eq_true rfl) dX4_drift_86 (fun H locs hP hD hS => ?_)
  have hP : va_P E.1 vwCl [xMotion h_mo (upd (upd (upd (upd mo 2 v1) 3 v3) 4 v5) 5 v6), xRig h_rg rg] H := hP
  have hD : va_D A [xMotion h_mo (upd (upd (upd (upd mo 2 v1) 3 v3) 4 v5) 5 v6), xRig h_rg rg] := hD
  exact hq (v1, v3, v5, v6) _ _ _ _ dX4_drift_89 (hρ0.trans hρ) hP hD hS
def F_X4_step_k155 (mo : Nat → Int32) (v7 : Int32) (v10 : Int32) (y0_148 : Int32) (v11 : Int32) (v12 : Int32) (v13 : Int32) (v14 : Int32) : (Nat → Int32) := (upd (upd (upd (upd (upd (upd (upd mo 0 v7) 1 v10) 2 v11) 3 v12) 4 v13) 5 v14) 6 y0_148)
def F_X4_step_j148 (mo : Nat → Int32) (rg : Nat → Int32) (v4 : Int32) (v7 : Int32) (v10 : Int32) (y0_148 : Int32) : (Nat → Int32) := (match F_X4_drift (upd (upd (upd mo 0 v7) 1 v10) 6 y0_148) rg v4 with | (v11, v12, v13, v14) => F_X4_step_k155 mo v7 v10 y0_148 v11 v12 v13 v14)
def F_X4_step_j147 (mo : Nat → Int32) (rg : Nat → Int32) (v4 : Int32) (v7 : Int32) (v10 : Int32) : (Nat → Int32) := F_X4_step_j148 mo rg v4 v7 v10 (0 : Int32)
def F_X4_step_k125 (mo : Nat → Int32) (rg : Nat → Int32) (v3 : Int32) (v4 : Int32) (v7 : Int32) (v10 : Int32) : (Nat → Int32) := (if v3 = (0 : Int32) then (if v10 = (mo 1) then F_X4_step_j148 mo rg v4 v7 v10 (1 : Int32) else F_X4_step_j147 mo rg v4 v7 v10) else F_X4_step_j147 mo rg v4 v7 v10)
def F_X4_step_k97 (mo : Nat → Int32) (rg : Nat → Int32) (v3 : Int32) (v4 : Int32) (v6 : Int32) (v7 : Int32) : (Nat → Int32) := F_X4_step_k125 mo rg v3 v4 v7 (F_X9_limit ((mo 1) + (F_X9_cut (v4 - v6) (rg 10))) (0 : Int32) (999 : Int32))
def F_X4_step_k81 (mo : Nat → Int32) (rg : Nat → Int32) (v3 : Int32) (v4 : Int32) (v6 : Int32) : (Nat → Int32) := F_X4_step_k97 mo rg v3 v4 v6 ((mo 0) - v3)
def F_X4_step_k51 (mo : Nat → Int32) (rg : Nat → Int32) (z : Int32) (v3 : Int32) (v4 : Int32) : (Nat → Int32) := F_X4_step_k81 mo rg v3 v4 (((((mo 1) * (mo 1)) * (rg 11)) / (1000 : Int32)) + (F_X4_gustOf mo (rg 16) z))
def F_X4_step_k22 (mo : Nat → Int32) (rg : Nat → Int32) (z : Int32) (v3 : Int32) : (Nat → Int32) := F_X4_step_k51 mo rg z v3 (((mmax ((((rg 8) * v3) / (10 : Int32)) - (mo 1)) (0 : Int32)) * (rg 9)) / (10 : Int32))
def F_X4_step (mo : Nat → Int32) (rg : Nat → Int32) (bd : Nat → Int32) (z : Int32) : (Nat → Int32) := F_X4_step_k22 mo rg z (mmin (F_X9_cut (F_X0_loosed bd (mo 0)) (bd 6)) (mo 0))
theorem iX4_step_X0 : ∀ w ∈ wsX00, w ∈ wsX4_step := fun _ h => List.mem_cons_of_mem _ (List.mem_append_left _ (List.mem_append_right _ h))
theorem iX4_step_X4 : ∀ w ∈ wsX40, w ∈ wsX4_step := fun _ h => List.mem_cons_of_mem _ (List.mem_append_left _ (List.mem_append_left _ (List.mem_append_right _ h)))
theorem iX4_step_X6 : ∀ w ∈ wsX60, w ∈ wsX4_step := fun _ h => List.mem_cons_of_mem _ (List.mem_append_right _ h)
set_option maxHeartbeats 4000000 in
set_option maxRecDepth 100000 in
theorem c_X4_step (l : Launch) (E : wV) (h_mo : Nat) (h_rg : Nat) (h_bd : Nat) (mo : Nat → Int32) (rg : Nat → Int32) (bd : Nat → Int32) (z : Int32) : MetV l yX4_step wsX4_step ({ frames := 2, cells := 0, slots := 0, locals := 44 } : Room) E ([.ref h_mo, .ref h_rg, .ref h_bd, .int z] : List Value) [xMotion h_mo mo, xRig h_rg rg, xBand h_bd bd] (fun (u : (Nat → Int32)) => F_X4_step mo rg bd z = u) (fun (u : (Nat → Int32)) => [xMotion h_mo u, xRig h_rg rg, xBand h_bd bd]) := by
  refine MetV.of (cc := cX4_step) (maxL := 8) (own := RX4) (by decide) rfl rfl (Nat.le_of_ble_eq_true rfl) ?_
  intro p e s m below meth c A Q ls cx hP hD hS hl hq
  obtain ⟨hx, hb, hml, hown, hts, hE, hA⟩ := id cx
  have hl : lv_has ls 8 [(0, .ref h_mo), (1, .ref h_rg), (2, .ref h_bd), (3, .int z)] := hl
  have hP : va_P E.1 vwCl [xMotion h_mo mo, xRig h_rg rg, xBand h_bd bd] s.heap := hP
  obtain ⟨ρ, hρ0⟩ : ∃ ρ, F_X4_step mo rg bd z = ρ := ⟨_, rfl⟩
  have hρ := hρ0.symm
  unfold F_X4_step at hρ
  refine lv_aload_n hx hb dX4_step_0 rfl (lv_at hl 2 rfl) ?_
  refine lv_aload_n hx hb dX4_step_1 rfl (lv_at hl 0 rfl) ?_
  refine va_get (D := E.1) (ci := 4) (v := .int (mo 0)) (C := RX4) (T := TX4) (N := 7) hx hb hts iX4_step_X4 hown hE.1 hP 0 rfl rfl 0 (by decide) (hts (.fieldLink RX4 9 "BandBoat$Motion" "parts" "I") (List.mem_of_getElem? (i := 1) rfl)) (fun _ h9 => h9) rfl dX4_step_2 ?_
  refine kI (wc := [xBand h_bd bd]) (wr := [xMotion h_mo mo, xRig h_rg rg]) (wc' := (fun (_ : Unit) => [xBand h_bd bd])) (wn := (fun (_ : Unit) => [xMotion h_mo mo, xRig h_rg rg, xBand h_bd bd])) (isC := [2]) (isR := [0, 1]) (is2 := [0, 1, 2]) cx hP hD hS ⟨rfl, rfl, by decide, by decide, by decide, by decide, fun _ => rfl⟩ (rVN (As := [.int (mo 0)]) (rest := []) (C := RX0) (q0 := 0) (ci := 0) cx (c_X0_loosed l E h_bd bd (mo 0) _) (va_cnB 1 hts gX4_step_X0_loosed_n34 rfl rfl rfl (hE.nw 96 rfl) (hts (.initialized RX0) (List.mem_of_getElem? (i := 12) rfl)) (by decide +kernel) ⟨Nat.le_of_ble_eq_true rfl, Nat.le_of_ble_eq_true rfl⟩) (hts (.instanceMethod yX0_loosed) (List.mem_of_getElem? (i := 11) rfl)) (hts (.selects RX0 yX0_loosed yX0_loosed) (List.mem_of_getElem? (i := 13) rfl)) rfl rfl rfl rfl hl.1 rfl (Nat.le_of_ble_eq_true rfl) dX4_step_5 ⟨Nat.zero_le _, Nat.zero_le _⟩) (fun r1 u H locs hw hP hD hS => ?_)
  subst hw
  refine lv_aload_n hx hb dX4_step_8 rfl (lv_at hl 2 rfl) ?_
  refine va_getN (D := E.1) (ci := 0) (v := .int (bd 6)) (C := RX0) (T := TX0) (N := 7) hx hb hts iX4_step_X0 hown hE.1 hP 2 rfl rfl 6 (by decide) (hE.n 46 rfl) (fun _ h9 => h9) rfl dX4_step_9 ?_
  refine kI (wc := []) (wr := [xMotion h_mo mo, xRig h_rg rg, xBand h_bd bd]) (wc' := (fun (_ : Unit) => [])) (wn := (fun (_ : Unit) => [xMotion h_mo mo, xRig h_rg rg, xBand h_bd bd])) (isC := []) (isR := [0, 1, 2]) (is2 := [0, 1, 2]) cx hP hD hS ⟨rfl, rfl, by decide, by decide, by decide, by decide, fun _ => rfl⟩ (rSN (As := [.int (F_X0_loosed bd (mo 0)), .int (bd 6)]) (rest := []) cx (c_X9_cut l E (F_X0_loosed bd (mo 0)) (bd 6) _) (va_cnB 2 hts gX4_step_X9_cut_n43 rfl rfl rfl (hE.nw 97 rfl) (hts (.initialized RX9) (List.mem_of_getElem? (i := 26) rfl)) (by decide +kernel) ⟨Nat.le_of_ble_eq_true rfl, Nat.le_of_ble_eq_true rfl⟩) (hts (.static yX9_cut) (List.mem_of_getElem? (i := 25) rfl)) rfl hl.1 rfl (Nat.le_of_ble_eq_true rfl) dX4_step_12 ⟨Nat.zero_le _, Nat.zero_le _⟩) (fun r2 u H locs hw hP hD hS => ?_)
  subst hw
  refine lv_aload_n hx hb dX4_step_15 rfl (lv_at hl 0 rfl) ?_
  refine va_get (D := E.1) (ci := 4) (v := .int (mo 0)) (C := RX4) (T := TX4) (N := 7) hx hb hts iX4_step_X4 hown hE.1 hP 0 rfl rfl 0 (by decide) (hts (.fieldLink RX4 9 "BandBoat$Motion" "parts" "I") (List.mem_of_getElem? (i := 1) rfl)) (fun _ h9 => h9) rfl dX4_step_16 ?_
  refine va_mmin hx hb (hml.trans hl.1.symm) hown (hts (.methodLink RX4 47 Lib.Math.min.name) (List.mem_of_getElem? (i := 2) rfl)) (hts (.static Lib.Math.min.name) (List.mem_of_getElem? (i := 3) rfl)) (hts (.initialized "java/lang/Math") (List.mem_of_getElem? (i := 4) rfl)) (hts (.code Lib.Math.min.name Lib.Math.min.code 2 (some .int)) (List.mem_of_getElem? (i := 5) rfl)) (by decide) (Nat.le_of_ble_eq_true rfl) (Nat.zero_le _) (Nat.zero_le _) dX4_step_19 ?_
  refine lv_topi (fun v3 ev3 => ?_)
  have hρ : ρ = F_X4_step_k22 mo rg z v3 := by rw [ev3]; exact hρ
  unfold F_X4_step_k22 at hρ
  refine lv_istore (lv' := [(4, .int v3), (0, .ref h_mo), (1, .ref h_rg), (2, .ref h_bd), (3, .int z)]) hx hb dX4_step_22 hl (by decide) rfl (fun ls hl => ?_)
  refine lv_aload_n hx hb dX4_step_24 rfl (lv_at hl 2 rfl) ?_
  refine va_getN (D := E.1) (ci := 6) (v := .int (rg 8)) (C := RX6) (T := TX6) (N := 17) hx hb hts iX4_step_X6 hown hE.1 hP 1 rfl rfl 8 (by decide) (hE.n 23 rfl) (fun _ h9 => h9) rfl dX4_step_25 ?_
  refine lv_iload hx hb dX4_step_28 (lv_at hl 0 rfl) ?_
  refine lv_imul hx hb dX4_step_30 ?_
  refine lv_bipush (v := (10 : Int32)) hx hb dX4_step_31 (by decide) ?_
  refine lv_idiv hx hb dX4_step_33 (by decide) ?_
  refine lv_aload_n hx hb dX4_step_34 rfl (lv_at hl 1 rfl) ?_
  refine va_get (D := E.1) (ci := 4) (v := .int (mo 1)) (C := RX4) (T := TX4) (N := 7) hx hb hts iX4_step_X4 hown hE.1 hP 0 rfl rfl 1 (by decide) (hts (.fieldLink RX4 15 "BandBoat$Motion" "pace" "I") (List.mem_of_getElem? (i := 6) rfl)) (fun _ h9 => h9) rfl dX4_step_35 ?_
  refine lv_isub hx hb dX4_step_38 ?_
  refine lv_iconst (v := (0 : Int32)) hx hb dX4_step_39 (by decide) ?_
  refine va_mmax hx hb (hml.trans hl.1.symm) hown (hts (.methodLink RX4 57 Lib.Math.max.name) (List.mem_of_getElem? (i := 7) rfl)) (hts (.static Lib.Math.max.name) (List.mem_of_getElem? (i := 8) rfl)) (hts (.initialized "java/lang/Math") (List.mem_of_getElem? (i := 4) rfl)) (hts (.code Lib.Math.max.name Lib.Math.max.code 2 (some .int)) (List.mem_of_getElem? (i := 9) rfl)) (by decide) (Nat.le_of_ble_eq_true rfl) (Nat.zero_le _) (Nat.zero_le _) dX4_step_40 ?_
  refine lv_aload_n hx hb dX4_step_43 rfl (lv_at hl 2 rfl) ?_
  refine va_getN (D := E.1) (ci := 6) (v := .int (rg 9)) (C := RX6) (T := TX6) (N := 17) hx hb hts iX4_step_X6 hown hE.1 hP 1 rfl rfl 9 (by decide) (hE.n 26 rfl) (fun _ h9 => h9) rfl dX4_step_44 ?_
  refine lv_imul hx hb dX4_step_47 ?_
  refine lv_bipush (v := (10 : Int32)) hx hb dX4_step_48 (by decide) ?_
  refine lv_idiv hx hb dX4_step_50 (by decide) ?_
  refine lv_topi (fun v4 ev4 => ?_)
  have hρ : ρ = F_X4_step_k51 mo rg z v3 v4 := by rw [ev4]; exact hρ
  unfold F_X4_step_k51 at hρ
  refine lv_istore (lv' := [(5, .int v4), (4, .int v3), (0, .ref h_mo), (1, .ref h_rg), (2, .ref h_bd), (3, .int z)]) hx hb dX4_step_51 hl (by decide) rfl (fun ls hl => ?_)
  refine lv_aload_n hx hb dX4_step_53 rfl (lv_at hl 2 rfl) ?_
  refine va_get (D := E.1) (ci := 4) (v := .int (mo 1)) (C := RX4) (T := TX4) (N := 7) hx hb hts iX4_step_X4 hown hE.1 hP 0 rfl rfl 1 (by decide) (hts (.fieldLink RX4 15 "BandBoat$Motion" "pace" "I") (List.mem_of_getElem? (i := 6) rfl)) (fun _ h9 => h9) rfl dX4_step_54 ?_
  refine lv_aload_n hx hb dX4_step_57 rfl (lv_at hl 2 rfl) ?_
  refine va_get (D := E.1) (ci := 4) (v := .int (mo 1)) (C := RX4) (T := TX4) (N := 7) hx hb hts iX4_step_X4 hown hE.1 hP 0 rfl rfl 1 (by decide) (hts (.fieldLink RX4 15 "BandBoat$Motion" "pace" "I") (List.mem_of_getElem? (i := 6) rfl)) (fun _ h9 => h9) rfl dX4_step_58 ?_
  refine lv_imul hx hb dX4_step_61 ?_
  refine lv_aload_n hx hb dX4_step_62 rfl (lv_at hl 3 rfl) ?_
  refine va_getN (D := E.1) (ci := 6) (v := .int (rg 11)) (C := RX6) (T := TX6) (N := 17) hx hb hts iX4_step_X6 hown hE.1 hP 1 rfl rfl 11 (by decide) (hE.n 30 rfl) (fun _ h9 => h9) rfl dX4_step_63 ?_
  refine lv_imul hx hb dX4_step_66 ?_
  refine lv_sipush (v := (1000 : Int32)) hx hb dX4_step_67 (by decide) ?_
  refine lv_idiv hx hb dX4_step_70 (by decide) ?_
  refine lv_aload_n hx hb dX4_step_71 rfl (lv_at hl 2 rfl) ?_
  refine lv_aload_n hx hb dX4_step_72 rfl (lv_at hl 3 rfl) ?_
  refine va_getN (D := E.1) (ci := 6) (v := .int (rg 16)) (C := RX6) (T := TX6) (N := 17) hx hb hts iX4_step_X6 hown hE.1 hP 1 rfl rfl 16 (by decide) (hE.n 43 rfl) (fun _ h9 => h9) rfl dX4_step_73 ?_
  refine lv_iload_n hx hb dX4_step_76 rfl (lv_at hl 5 rfl) ?_
  refine kI (wc := [xMotion h_mo mo]) (wr := [xRig h_rg rg, xBand h_bd bd]) (wc' := (fun (_ : Unit) => [xMotion h_mo mo])) (wn := (fun (_ : Unit) => [xMotion h_mo mo, xRig h_rg rg, xBand h_bd bd])) (isC := [0]) (isR := [1, 2]) (is2 := [2, 0, 1]) cx hP hD hS ⟨rfl, rfl, by decide, by decide, by decide, by decide, fun _ => rfl⟩ (rV (As := [.int (rg 16), .int z]) (rest := [.int ((((mo 1) * (mo 1)) * (rg 11)) / (1000 : Int32))]) (C := RX4) (q0 := 0) (ci := 4) cx (c_X4_gustOf l E h_mo mo (rg 16) z _) (cwV 2 hts gX4_step_X4_gustOf rfl rfl rfl (by decide +kernel) ⟨Nat.le_of_ble_eq_true rfl, Nat.le_of_ble_eq_true rfl⟩) rfl rfl rfl rfl hl.1 rfl (Nat.le_of_ble_eq_true rfl) dX4_step_77 ⟨Nat.zero_le _, Nat.zero_le _⟩) (fun r5 u H locs hw hP hD hS => ?_)
  subst hw
  refine lv_iadd hx hb dX4_step_80 ?_
  refine lv_topi (fun v6 ev6 => ?_)
  have hρ : ρ = F_X4_step_k81 mo rg v3 v4 v6 := by rw [ev6]; exact hρ
  unfold F_X4_step_k81 at hρ
  refine lv_istore (lv' := [(6, .int v6), (5, .int v4), (4, .int v3), (0, .ref h_mo), (1, .ref h_rg), (2, .ref h_bd), (3, .int z)]) hx hb dX4_step_81 hl (by decide) rfl (fun ls hl => ?_)
  refine lv_aload_n hx hb dX4_step_83 rfl (lv_at hl 3 rfl) ?_
  refine va_get (D := E.1) (ci := 4) (v := .int (mo 1)) (C := RX4) (T := TX4) (N := 7) hx hb hts iX4_step_X4 hown hE.1 hP 0 rfl rfl 1 (by decide) (hts (.fieldLink RX4 15 "BandBoat$Motion" "pace" "I") (List.mem_of_getElem? (i := 6) rfl)) (fun _ h9 => h9) rfl dX4_step_84 ?_
  refine lv_istore (lv' := [(7, .int (mo 1)), (6, .int v6), (5, .int v4), (4, .int v3), (0, .ref h_mo), (1, .ref h_rg), (2, .ref h_bd), (3, .int z)]) hx hb dX4_step_87 hl (by decide) rfl (fun ls hl => ?_)
  refine lv_aload_n hx hb dX4_step_89 rfl (lv_at hl 4 rfl) ?_
  refine lv_dup hx hb dX4_step_90 rfl ?_
  refine va_get (D := E.1) (ci := 4) (v := .int (mo 0)) (C := RX4) (T := TX4) (N := 7) hx hb hts iX4_step_X4 hown hE.1 hP 0 rfl rfl 0 (by decide) (hts (.fieldLink RX4 9 "BandBoat$Motion" "parts" "I") (List.mem_of_getElem? (i := 1) rfl)) (fun _ h9 => h9) rfl dX4_step_91 ?_
  refine lv_iload hx hb dX4_step_94 (lv_at hl 3 rfl) ?_
  refine lv_isub hx hb dX4_step_96 ?_
  refine lv_topi (fun v7 ev7 => ?_)
  have hρ : ρ = F_X4_step_k97 mo rg v3 v4 v6 v7 := by rw [ev7]; exact hρ
  unfold F_X4_step_k97 at hρ
  refine va_put (D := E.1) (ci := 4) (v := .int v7) (ty := .int) (C := RX4) (T := TX4) (N := 7) hx hb hts iX4_step_X4 tyX4 tyX4_ok nmX4 hown hE.1 hP hD hS 0 rfl rfl 0 (by decide) (hts (.fieldLink RX4 9 "BandBoat$Motion" "parts" "I") (List.mem_of_getElem? (i := 1) rfl)) (fun _ h9 => h9) rfl (by decide +kernel) rfl rfl (Nat.le_of_ble_eq_true rfl) dX4_step_97 (fun H locs hP hD hS => ?_)
  have hP : va_P E.1 vwCl [xMotion h_mo (upd mo 0 v7), xRig h_rg rg, xBand h_bd bd] H := hP
  have hD : va_D A [xMotion h_mo (upd mo 0 v7), xRig h_rg rg, xBand h_bd bd] := hD
  refine lv_aload_n hx hb dX4_step_100 rfl (lv_at hl 4 rfl) ?_
  refine lv_aload_n hx hb dX4_step_101 rfl (lv_at hl 4 rfl) ?_
  refine va_get (D := E.1) (ci := 4) (v := .int (mo 1)) (C := RX4) (T := TX4) (N := 7) hx hb hts iX4_step_X4 hown hE.1 hP 0 rfl rfl 1 (by decide) (hts (.fieldLink RX4 15 "BandBoat$Motion" "pace" "I") (List.mem_of_getElem? (i := 6) rfl)) (fun _ h9 => h9) rfl dX4_step_102 ?_
  refine lv_iload hx hb dX4_step_105 (lv_at hl 2 rfl) ?_
  refine lv_iload hx hb dX4_step_107 (lv_at hl 1 rfl) ?_
  refine lv_isub hx hb dX4_step_109 ?_
  refine lv_aload_n hx hb dX4_step_110 rfl (lv_at hl 5 rfl) ?_
  refine va_getN (D := E.1) (ci := 6) (v := .int (rg 10)) (C := RX6) (T := TX6) (N := 17) hx hb hts iX4_step_X6 hown hE.1 hP 1 rfl rfl 10 (by decide) (hE.n 28 rfl) (fun _ h9 => h9) rfl dX4_step_111 ?_
  refine kI (wc := []) (wr := [xMotion h_mo (upd mo 0 v7), xRig h_rg rg, xBand h_bd bd]) (wc' := (fun (_ : Unit) => [])) (wn := (fun (_ : Unit) => [xMotion h_mo (upd mo 0 v7), xRig h_rg rg, xBand h_bd bd])) (isC := []) (isR := [0, 1, 2]) (is2 := [0, 1, 2]) cx hP hD hS ⟨rfl, rfl, by decide, by decide, by decide, by decide, fun _ => rfl⟩ (rSN (As := [.int (v4 - v6), .int (rg 10)]) (rest := [.int (mo 1), .ref h_mo]) cx (c_X9_cut l E (v4 - v6) (rg 10) _) (va_cnB 2 hts gX4_step_X9_cut_n43 rfl rfl rfl (hE.nw 97 rfl) (hts (.initialized RX9) (List.mem_of_getElem? (i := 26) rfl)) (by decide +kernel) ⟨Nat.le_of_ble_eq_true rfl, Nat.le_of_ble_eq_true rfl⟩) (hts (.static yX9_cut) (List.mem_of_getElem? (i := 25) rfl)) rfl hl.1 rfl (Nat.le_of_ble_eq_true rfl) dX4_step_114 ⟨Nat.zero_le _, Nat.zero_le _⟩) (fun r8 u H locs hw hP hD hS => ?_)
  subst hw
  refine lv_iadd hx hb dX4_step_117 ?_
  refine lv_iconst (v := (0 : Int32)) hx hb dX4_step_118 (by decide) ?_
  refine lv_sipush (v := (999 : Int32)) hx hb dX4_step_119 (by decide) ?_
  refine kI (wc := []) (wr := [xMotion h_mo (upd mo 0 v7), xRig h_rg rg, xBand h_bd bd]) (wc' := (fun (_ : Unit) => [])) (wn := (fun (_ : Unit) => [xMotion h_mo (upd mo 0 v7), xRig h_rg rg, xBand h_bd bd])) (isC := []) (isR := [0, 1, 2]) (is2 := [0, 1, 2]) cx hP hD hS ⟨rfl, rfl, by decide, by decide, by decide, by decide, fun _ => rfl⟩ (rSN (As := [.int ((mo 1) + (F_X9_cut (v4 - v6) (rg 10))), .int (0 : Int32), .int (999 : Int32)]) (rest := [.ref h_mo]) cx (c_X9_limit l E ((mo 1) + (F_X9_cut (v4 - v6) (rg 10))) (0 : Int32) (999 : Int32) _) (va_cnB 3 hts gX4_step_X9_limit_n75 rfl rfl rfl (hE.nw 94 rfl) (hts (.initialized RX9) (List.mem_of_getElem? (i := 26) rfl)) (by decide +kernel) ⟨Nat.le_of_ble_eq_true rfl, Nat.le_of_ble_eq_true rfl⟩) (hts (.static yX9_limit) (List.mem_of_getElem? (i := 37) rfl)) rfl hl.1 rfl (Nat.le_of_ble_eq_true rfl) dX4_step_122 ⟨Nat.zero_le _, Nat.zero_le _⟩) (fun r9 u H locs hw hP hD hS => ?_)
  subst hw
  refine lv_topi (fun v10 ev10 => ?_)
  have hρ : ρ = F_X4_step_k125 mo rg v3 v4 v7 v10 := by rw [ev10]; exact hρ
  unfold F_X4_step_k125 at hρ
  refine va_put (D := E.1) (ci := 4) (v := .int v10) (ty := .int) (C := RX4) (T := TX4) (N := 7) hx hb hts iX4_step_X4 tyX4 tyX4_ok nmX4 hown hE.1 hP hD hS 0 rfl rfl 1 (by decide) (hts (.fieldLink RX4 15 "BandBoat$Motion" "pace" "I") (List.mem_of_getElem? (i := 6) rfl)) (fun _ h9 => h9) rfl (by decide +kernel) rfl rfl (Nat.le_of_ble_eq_true rfl) dX4_step_125 (fun H locs hP hD hS => ?_)
  have hP : va_P E.1 vwCl [xMotion h_mo (upd (upd mo 0 v7) 1 v10), xRig h_rg rg, xBand h_bd bd] H := hP
  have hD : va_D A [xMotion h_mo (upd (upd mo 0 v7) 1 v10), xRig h_rg rg, xBand h_bd bd] := hD
  refine lv_aload_n hx hb dX4_step_128 rfl (lv_at hl 4 rfl) ?_
  refine lv_iload hx hb dX4_step_129 (lv_at hl 3 rfl) ?_
  have hJ148 : ∀ (y0_148 : Int32) (H : Heap) (locs : List Loc) (ls : Array Slot), (y0_148 = 0 ∨ y0_148 = 1) → ρ = F_X4_step_j148 mo rg v4 v7 v10 y0_148 → va_P E.1 vwCl [xMotion h_mo (upd (upd mo 0 v7) 1 v10), xRig h_rg rg, xBand h_bd bd] H → va_D A [xMotion h_mo (upd (upd mo 0 v7) 1 v10), xRig h_rg rg, xBand h_bd bd] → va_S A s.heap H locs → lv_has ls 8 [(7, .int (mo 1)), (6, .int v6), (5, .int v4), (4, .int v3), (0, .ref h_mo), (1, .ref h_rg), (2, .ref h_bd), (3, .int z)] → W p l e ({ frames := 2, cells := 0, slots := 0, locals := 44 } : Room) s m ([.ref h_mo, .ref h_rg, .ref h_bd, .int z] : List Value).toArray below meth c H locs 0 0 Q (F0 m 148 ls [.int y0_148, .ref h_mo]) := by
    intro y0_148 H locs ls hz_y0_148 hρ hP hD hS hl
    unfold F_X4_step_j148 at hρ
    refine va_put (D := E.1) (ci := 4) (v := .int y0_148) (ty := .boolean) (C := RX4) (T := TX4) (N := 7) hx hb hts iX4_step_X4 tyX4 tyX4_ok nmX4 hown hE.1 hP hD hS 0 rfl rfl 6 (by decide) (hts (.fieldLink RX4 30 "BandBoat$Motion" "steady" "Z") (List.mem_of_getElem? (i := 10) rfl)) (fun _ h9 => h9) rfl (by decide +kernel) (nar_z hz_y0_148) (fit_z hz_y0_148) (Nat.le_of_ble_eq_true rfl) dX4_step_148 (fun H locs hP hD hS => ?_)
    have hP : va_P E.1 vwCl [xMotion h_mo (upd (upd (upd mo 0 v7) 1 v10) 6 y0_148), xRig h_rg rg, xBand h_bd bd] H := hP
    have hD : va_D A [xMotion h_mo (upd (upd (upd mo 0 v7) 1 v10) 6 y0_148), xRig h_rg rg, xBand h_bd bd] := hD
    refine lv_aload_n hx hb dX4_step_151 rfl (lv_at hl 4 rfl) ?_
    refine lv_aload_n hx hb dX4_step_152 rfl (lv_at hl 5 rfl) ?_
    refine lv_iload hx hb dX4_step_153 (lv_at hl 2 rfl) ?_
    refine kV (wc := [xMotion h_mo (upd (upd (upd mo 0 v7) 1 v10) 6 y0_148), xRig h_rg rg]) (wr := [xBand h_bd bd]) (wc' := (fun (u : Int32 × Int32 × Int32 × Int32) => [xMotion h_mo (upd (upd (upd (upd (upd (upd (upd mo 0 v7) 1 v10) 6 y0_148) 2 u.1) 3 u.2.1) 4 u.2.2.1) 5 u.2.2.2), xRig h_rg rg])) (wn := (fun (u : Int32 × Int32 × Int32 × Int32) => [xMotion h_mo (upd (upd (upd (upd (upd (upd (upd mo 0 v7) 1 v10) 2 u.1) 3 u.2.1) 4 u.2.2.1) 5 u.2.2.2) 6 y0_148), xRig h_rg rg, xBand h_bd bd])) (isC := [0, 1]) (isR := [2]) (is2 := [1, 2, 0]) cx hP hD hS ⟨rfl, rfl, by decide, by decide, by decide, by decide, fun _ => rfl⟩ (rV (As := [.ref h_rg, .int v4]) (rest := []) (C := RX4) (q0 := 0) (ci := 4) cx (c_X4_drift l E h_mo h_rg (upd (upd (upd mo 0 v7) 1 v10) 6 y0_148) rg v4 _) (cwV 2 hts gX4_step_X4_drift rfl rfl rfl (by decide +kernel) ⟨Nat.le_of_ble_eq_true rfl, Nat.le_of_ble_eq_true rfl⟩) rfl rfl rfl rfl hl.1 rfl (Nat.le_of_ble_eq_true rfl) dX4_step_155 ⟨Nat.zero_le _, Nat.zero_le _⟩) (fun u H locs hw hP hD hS => ?_)
    obtain ⟨v11, v12, v13, v14⟩ := u
    have hP : va_P E.1 vwCl [xMotion h_mo (upd (upd (upd (upd (upd (upd (upd mo 0 v7) 1 v10) 2 v11) 3 v12) 4 v13) 5 v14) 6 y0_148), xRig h_rg rg, xBand h_bd bd] H := hP
    have hD : va_D A [xMotion h_mo (upd (upd (upd (upd (upd (upd (upd mo 0 v7) 1 v10) 2 v11) 3 v12) 4 v13) 5 v14) 6 y0_148), xRig h_rg rg, xBand h_bd bd] := hD
    have hw : F_X4_drift (upd (upd (upd mo 0 v7) 1 v10) 6 y0_148) rg v4 = (v11, v12, v13, v14) := hw
    rw [hw] at hρ
    have hρ : ρ = F_X4_step_k155 mo v7 v10 y0_148 v11 v12 v13 v14 := hρ
    unfold F_X4_step_k155 at hρ
    exact hq (upd (upd (upd (upd (upd (upd (upd mo 0 v7) 1 v10) 2 v11) 3 v12) 4 v13) 5 v14) 6 y0_148) _ _ _ _ dX4_step_158 (hρ0.trans hρ) hP hD hS
  have hJ147 : ∀ (H : Heap) (locs : List Loc) (ls : Array Slot), ρ = F_X4_step_j147 mo rg v4 v7 v10 → va_P E.1 vwCl [xMotion h_mo (upd (upd mo 0 v7) 1 v10), xRig h_rg rg, xBand h_bd bd] H → va_D A [xMotion h_mo (upd (upd mo 0 v7) 1 v10), xRig h_rg rg, xBand h_bd bd] → va_S A s.heap H locs → lv_has ls 8 [(7, .int (mo 1)), (6, .int v6), (5, .int v4), (4, .int v3), (0, .ref h_mo), (1, .ref h_rg), (2, .ref h_bd), (3, .int z)] → W p l e ({ frames := 2, cells := 0, slots := 0, locals := 44 } : Room) s m ([.ref h_mo, .ref h_rg, .ref h_bd, .int z] : List Value).toArray below meth c H locs 0 0 Q (F0 m 147 ls [.ref h_mo]) := by
    intro  H locs ls hρ hP hD hS hl
    unfold F_X4_step_j147 at hρ
    refine lv_iconst (v := (0 : Int32)) hx hb dX4_step_147 (by decide) ?_
    exact hJ148 (0 : Int32) _ _ _ (Or.inl rfl) hρ hP hD hS (lv_sub hl [0, 1, 2, 3, 4, 5, 6, 7] rfl)
  refine lv_if_ne (tgt := 147) hx hb dX4_step_131 (by decide) (fun c131 => ?_) (fun c131 => ?_)
  · rw [if_neg c131] at hρ
    exact hJ147 _ _ _ hρ hP hD hS (lv_sub hl [0, 1, 2, 3, 4, 5, 6, 7] rfl)
  · rw [if_pos c131] at hρ
    refine lv_aload_n hx hb dX4_step_134 rfl (lv_at hl 4 rfl) ?_
    refine va_get (D := E.1) (ci := 4) (v := .int v10) (C := RX4) (T := TX4) (N := 7) hx hb hts iX4_step_X4 hown hE.1 hP 0 rfl rfl 1 (by decide) (hts (.fieldLink RX4 15 "BandBoat$Motion" "pace" "I") (List.mem_of_getElem? (i := 6) rfl)) (fun _ h9 => h9) rfl dX4_step_135 ?_
    refine lv_iload hx hb dX4_step_138 (lv_at hl 0 rfl) ?_
    refine lv_icmp_ne (tgt := 147) hx hb dX4_step_140 (by decide) (fun c140 => ?_) (fun c140 => ?_)
    · rw [if_neg c140] at hρ
      exact hJ147 _ _ _ hρ hP hD hS (lv_sub hl [0, 1, 2, 3, 4, 5, 6, 7] rfl)
    · rw [if_pos c140] at hρ
      refine lv_iconst (v := (1 : Int32)) hx hb dX4_step_143 (by decide) ?_
      refine lv_goto (tgt := 148) hx hb dX4_step_144 (by decide) ?_
      exact hJ148 (1 : Int32) _ _ _ (Or.inr rfl) hρ hP hD hS (lv_sub hl [0, 1, 2, 3, 4, 5, 6, 7] rfl)
