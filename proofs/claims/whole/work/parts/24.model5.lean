def btOK (bt : Nat → Int32) : Prop := (0 ≤ (bt 16).toInt ∧ (bt 16).toInt ≤ 3) ∧ ¬ (bt 17) = 0 ∧ ¬ ((10 : Int32) * (bt 18)) = 0 ∧ ¬ ((10 : Int32) + ((bt 19) * (bt 19))) = 0 ∧ ¬ (bt 21) = 0 ∧ (0 : Int32) ≤ bt 27
def mmOK (mm : Nat → Int32) : Prop := ¬ (mm 9) = 0 ∧ ¬ ((10 : Int32) * (mm 10)) = 0 ∧ ¬ ((10 : Int32) + ((mm 11) * (mm 11))) = 0
theorem mmOK_of {f bt : Nat → Int32} (h : f 9 = bt 17 ∧ f 10 = bt 18 ∧ f 11 = bt 19) (hB : btOK bt) : mmOK f := by
  obtain ⟨-, h1, h2, h3, -, -⟩ := hB
  unfold mmOK
  rw [h.1, h.2.1, h.2.2]
  exact ⟨h1, h2, h3⟩
theorem q_mul {x v : Int32} (h : 0 ≤ x.toInt ∧ x.toInt ≤ 3) (e : v = (4 : Int32) * x) : 0 ≤ v.toInt ∧ v.toInt ≤ 12 := by
  have h4 : (4 : Int32).toInt = 4 := rfl
  rw [e, i_mul (by rw [h4]; omega) (by rw [h4]; omega), h4]
  omega
theorem q_in {x v : Int32} (h : 0 ≤ x.toInt ∧ x.toInt ≤ 3) (e : v = (4 : Int32) * x) : vp_in v 60 := by
  have := q_mul h e
  exact inb_i (by omega) (by omega)
theorem q_inj {x v j : Int32} (h : 0 ≤ x.toInt ∧ x.toInt ≤ 3) (e : v = (4 : Int32) * x) (hj : 0 ≤ j.toInt ∧ j.toInt ≤ 3) : vp_in (v + j) 60 := by
  have := q_mul h e
  have e2 := i_add (a := v) (b := j) (by omega) (by omega)
  exact inb_i (by omega) (by omega)
def F_X10_asItIs_k41 (bt : Nat → Int32) (v2 : Int32) (v3 : Int32) (v4 : Int32) : Int32 × Int32 × Int32 × Int32 × Int32 × Int32 × Int32 := (v2, v3, v4, (bt 17), (bt 18), (bt 19), (bt 24))
def F_X10_asItIs_k29 (bt : Nat → Int32) (v1 : Int32) (v2 : Int32) (v3 : Int32) : Int32 × Int32 × Int32 × Int32 × Int32 × Int32 × Int32 := F_X10_asItIs_k41 bt v2 v3 (bt (Int32.toNatClampNeg (v1 + (2 : Int32))))
def F_X10_asItIs_k17 (bt : Nat → Int32) (v1 : Int32) (v2 : Int32) : Int32 × Int32 × Int32 × Int32 × Int32 × Int32 × Int32 := F_X10_asItIs_k29 bt v1 v2 (bt (Int32.toNatClampNeg (v1 + (1 : Int32))))
def F_X10_asItIs_k9 (bt : Nat → Int32) (v1 : Int32) : Int32 × Int32 × Int32 × Int32 × Int32 × Int32 × Int32 := F_X10_asItIs_k17 bt v1 (bt (Int32.toNatClampNeg v1))
def F_X10_asItIs (bt : Nat → Int32) : Int32 × Int32 × Int32 × Int32 × Int32 × Int32 × Int32 := F_X10_asItIs_k9 bt ((4 : Int32) * (bt 16))
theorem iX10_asItIs_X10 : ∀ w ∈ wsX100, w ∈ wsX10_asItIs := fun _ h => List.mem_cons_of_mem _ (List.mem_append_right _ h)
set_option maxHeartbeats 4000000 in
set_option maxRecDepth 100000 in
theorem c_X10_asItIs (l : Launch) (E : wV) (h_mm : Nat) (a_mm : Nat → Nat) (mm : Nat → Int32) (bt : Nat → Int32) (hB : btOK bt) : MetV l yX10_asItIs wsX10_asItIs ({ frames := 0, cells := 0, slots := 0, locals := 0 } : Room) E ([.ref h_mm] : List Value) [xModel h_mm a_mm mm, xI E (a_mm 5) 60 bt] (fun (u : Int32 × Int32 × Int32 × Int32 × Int32 × Int32 × Int32) => F_X10_asItIs bt = u ∧ ((u.2.2.2.1) = (bt 17) ∧ (u.2.2.2.2.1) = (bt 18) ∧ (u.2.2.2.2.2.1) = (bt 19))) (fun (u : Int32 × Int32 × Int32 × Int32 × Int32 × Int32 × Int32) => [xModel h_mm a_mm (upd (upd (upd (upd (upd (upd (upd mm 6 u.1) 7 u.2.1) 8 u.2.2.1) 9 u.2.2.2.1) 10 u.2.2.2.2.1) 11 u.2.2.2.2.2.1) 12 u.2.2.2.2.2.2), xI E (a_mm 5) 60 bt]) := by
  refine MetV.of (cc := cX10_asItIs) (maxL := 2) (own := RX10) (by decide) rfl rfl (Nat.le_of_ble_eq_true rfl) ?_
  intro p e s m below meth c A Q ls cx hP hD hS hl hq
  obtain ⟨hx, hb, hml, hown, hts, hE, hA⟩ := id cx
  have hl : lv_has ls 2 [(0, .ref h_mm)] := hl
  have hP : va_P E.1 vwCl [xModel h_mm a_mm mm, xI E (a_mm 5) 60 bt] s.heap := hP
  obtain ⟨ρ, hρ0⟩ : ∃ ρ, F_X10_asItIs bt = ρ := ⟨_, rfl⟩
  have hρ := hρ0.symm
  unfold F_X10_asItIs at hρ
  refine lv_iconst (v := (4 : Int32)) hx hb dX10_asItIs_0 (by decide) ?_
  refine lv_aload_n hx hb dX10_asItIs_1 rfl (lv_at hl 0 rfl) ?_
  refine va_get (D := E.1) (ci := 10) (v := .ref (a_mm 5)) (C := RX10) (T := TX10) (N := 27) hx hb hts iX10_asItIs_X10 hown hE.1 hP 0 rfl rfl 5 (by decide) (hts (.fieldLink RX10 13 "BandBoatModel" "boat" "[I") (List.mem_of_getElem? (i := 1) rfl)) (fun _ h9 => h9) rfl dX10_asItIs_2 ?_
  refine lv_bipush (v := (16 : Int32)) hx hb dX10_asItIs_5 (by decide) ?_
  refine ar_ild (k := 16) (v := (bt 16)) hx hb hE hP 1 rfl (by unfold vp_in; decide) rfl rfl dX10_asItIs_7 ?_
  refine lv_imul hx hb dX10_asItIs_8 ?_
  refine lv_topi (fun v1 ev1 => ?_)
  have hρ : ρ = F_X10_asItIs_k9 bt v1 := by rw [ev1]; exact hρ
  unfold F_X10_asItIs_k9 at hρ
  refine lv_istore_n (lv' := [(1, .int v1), (0, .ref h_mm)]) hx hb dX10_asItIs_9 rfl hl (by decide) rfl (fun ls hl => ?_)
  refine lv_aload_n hx hb dX10_asItIs_10 rfl (lv_at hl 1 rfl) ?_
  refine lv_aload_n hx hb dX10_asItIs_11 rfl (lv_at hl 1 rfl) ?_
  refine va_get (D := E.1) (ci := 10) (v := .ref (a_mm 5)) (C := RX10) (T := TX10) (N := 27) hx hb hts iX10_asItIs_X10 hown hE.1 hP 0 rfl rfl 5 (by decide) (hts (.fieldLink RX10 13 "BandBoatModel" "boat" "[I") (List.mem_of_getElem? (i := 1) rfl)) (fun _ h9 => h9) rfl dX10_asItIs_12 ?_
  refine lv_iload_n hx hb dX10_asItIs_15 rfl (lv_at hl 0 rfl) ?_
  refine ar_ild (k := (Int32.toNatClampNeg v1)) (v := (bt (Int32.toNatClampNeg v1))) hx hb hE hP 1 rfl (q_in hB.1 ev1) rfl rfl dX10_asItIs_16 ?_
  refine lv_topi (fun v2 ev2 => ?_)
  have hρ : ρ = F_X10_asItIs_k17 bt v1 v2 := by rw [ev2]; exact hρ
  unfold F_X10_asItIs_k17 at hρ
  refine va_put (D := E.1) (ci := 10) (v := .int v2) (ty := .int) (C := RX10) (T := TX10) (N := 27) hx hb hts iX10_asItIs_X10 tyX10 tyX10_ok nmX10 hown hE.1 hP hD hS 0 rfl rfl 6 (by decide) (hts (.fieldLink RX10 89 "BandBoatModel" "pulls" "I") (List.mem_of_getElem? (i := 2) rfl)) (fun _ h9 => h9) rfl (by decide +kernel) rfl rfl (Nat.le_of_ble_eq_true rfl) dX10_asItIs_17 (fun H locs hP hD hS => ?_)
  have hP : va_P E.1 vwCl [xModel h_mm a_mm (upd mm 6 v2), xI E (a_mm 5) 60 bt] H := hP
  have hD : va_D A [xModel h_mm a_mm (upd mm 6 v2), xI E (a_mm 5) 60 bt] := hD
  refine lv_aload_n hx hb dX10_asItIs_20 rfl (lv_at hl 1 rfl) ?_
  refine lv_aload_n hx hb dX10_asItIs_21 rfl (lv_at hl 1 rfl) ?_
  refine va_get (D := E.1) (ci := 10) (v := .ref (a_mm 5)) (C := RX10) (T := TX10) (N := 27) hx hb hts iX10_asItIs_X10 hown hE.1 hP 0 rfl rfl 5 (by decide) (hts (.fieldLink RX10 13 "BandBoatModel" "boat" "[I") (List.mem_of_getElem? (i := 1) rfl)) (fun _ h9 => h9) rfl dX10_asItIs_22 ?_
  refine lv_iload_n hx hb dX10_asItIs_25 rfl (lv_at hl 0 rfl) ?_
  refine lv_iconst (v := (1 : Int32)) hx hb dX10_asItIs_26 (by decide) ?_
  refine lv_iadd hx hb dX10_asItIs_27 ?_
  refine ar_ild (k := (Int32.toNatClampNeg (v1 + (1 : Int32)))) (v := (bt (Int32.toNatClampNeg (v1 + (1 : Int32))))) hx hb hE hP 1 rfl (q_inj hB.1 ev1 (by decide)) rfl rfl dX10_asItIs_28 ?_
  refine lv_topi (fun v3 ev3 => ?_)
  have hρ : ρ = F_X10_asItIs_k29 bt v1 v2 v3 := by rw [ev3]; exact hρ
  unfold F_X10_asItIs_k29 at hρ
  refine va_put (D := E.1) (ci := 10) (v := .int v3) (ty := .int) (C := RX10) (T := TX10) (N := 27) hx hb hts iX10_asItIs_X10 tyX10 tyX10_ok nmX10 hown hE.1 hP hD hS 0 rfl rfl 7 (by decide) (hts (.fieldLink RX10 92 "BandBoatModel" "loses" "I") (List.mem_of_getElem? (i := 3) rfl)) (fun _ h9 => h9) rfl (by decide +kernel) rfl rfl (Nat.le_of_ble_eq_true rfl) dX10_asItIs_29 (fun H locs hP hD hS => ?_)
  have hP : va_P E.1 vwCl [xModel h_mm a_mm (upd (upd mm 6 v2) 7 v3), xI E (a_mm 5) 60 bt] H := hP
  have hD : va_D A [xModel h_mm a_mm (upd (upd mm 6 v2) 7 v3), xI E (a_mm 5) 60 bt] := hD
  refine lv_aload_n hx hb dX10_asItIs_32 rfl (lv_at hl 1 rfl) ?_
  refine lv_aload_n hx hb dX10_asItIs_33 rfl (lv_at hl 1 rfl) ?_
  refine va_get (D := E.1) (ci := 10) (v := .ref (a_mm 5)) (C := RX10) (T := TX10) (N := 27) hx hb hts iX10_asItIs_X10 hown hE.1 hP 0 rfl rfl 5 (by decide) (hts (.fieldLink RX10 13 "BandBoatModel" "boat" "[I") (List.mem_of_getElem? (i := 1) rfl)) (fun _ h9 => h9) rfl dX10_asItIs_34 ?_
  refine lv_iload_n hx hb dX10_asItIs_37 rfl (lv_at hl 0 rfl) ?_
  refine lv_iconst (v := (2 : Int32)) hx hb dX10_asItIs_38 (by decide) ?_
  refine lv_iadd hx hb dX10_asItIs_39 ?_
  refine ar_ild (k := (Int32.toNatClampNeg (v1 + (2 : Int32)))) (v := (bt (Int32.toNatClampNeg (v1 + (2 : Int32))))) hx hb hE hP 1 rfl (q_inj hB.1 ev1 (by decide)) rfl rfl dX10_asItIs_40 ?_
  refine lv_topi (fun v4 ev4 => ?_)
  have hρ : ρ = F_X10_asItIs_k41 bt v2 v3 v4 := by rw [ev4]; exact hρ
  unfold F_X10_asItIs_k41 at hρ
  refine va_put (D := E.1) (ci := 10) (v := .int v4) (ty := .int) (C := RX10) (T := TX10) (N := 27) hx hb hts iX10_asItIs_X10 tyX10 tyX10_ok nmX10 hown hE.1 hP hD hS 0 rfl rfl 8 (by decide) (hts (.fieldLink RX10 95 "BandBoatModel" "knots" "I") (List.mem_of_getElem? (i := 4) rfl)) (fun _ h9 => h9) rfl (by decide +kernel) rfl rfl (Nat.le_of_ble_eq_true rfl) dX10_asItIs_41 (fun H locs hP hD hS => ?_)
  have hP : va_P E.1 vwCl [xModel h_mm a_mm (upd (upd (upd mm 6 v2) 7 v3) 8 v4), xI E (a_mm 5) 60 bt] H := hP
  have hD : va_D A [xModel h_mm a_mm (upd (upd (upd mm 6 v2) 7 v3) 8 v4), xI E (a_mm 5) 60 bt] := hD
  refine lv_aload_n hx hb dX10_asItIs_44 rfl (lv_at hl 1 rfl) ?_
  refine lv_aload_n hx hb dX10_asItIs_45 rfl (lv_at hl 1 rfl) ?_
  refine va_get (D := E.1) (ci := 10) (v := .ref (a_mm 5)) (C := RX10) (T := TX10) (N := 27) hx hb hts iX10_asItIs_X10 hown hE.1 hP 0 rfl rfl 5 (by decide) (hts (.fieldLink RX10 13 "BandBoatModel" "boat" "[I") (List.mem_of_getElem? (i := 1) rfl)) (fun _ h9 => h9) rfl dX10_asItIs_46 ?_
  refine lv_bipush (v := (17 : Int32)) hx hb dX10_asItIs_49 (by decide) ?_
  refine ar_ild (k := 17) (v := (bt 17)) hx hb hE hP 1 rfl (by unfold vp_in; decide) rfl rfl dX10_asItIs_51 ?_
  refine va_put (D := E.1) (ci := 10) (v := .int (bt 17)) (ty := .int) (C := RX10) (T := TX10) (N := 27) hx hb hts iX10_asItIs_X10 tyX10 tyX10_ok nmX10 hown hE.1 hP hD hS 0 rfl rfl 9 (by decide) (hts (.fieldLink RX10 98 "BandBoatModel" "strands" "I") (List.mem_of_getElem? (i := 5) rfl)) (fun _ h9 => h9) rfl (by decide +kernel) rfl rfl (Nat.le_of_ble_eq_true rfl) dX10_asItIs_52 (fun H locs hP hD hS => ?_)
  have hP : va_P E.1 vwCl [xModel h_mm a_mm (upd (upd (upd (upd mm 6 v2) 7 v3) 8 v4) 9 (bt 17)), xI E (a_mm 5) 60 bt] H := hP
  have hD : va_D A [xModel h_mm a_mm (upd (upd (upd (upd mm 6 v2) 7 v3) 8 v4) 9 (bt 17)), xI E (a_mm 5) 60 bt] := hD
  refine lv_aload_n hx hb dX10_asItIs_55 rfl (lv_at hl 1 rfl) ?_
  refine lv_aload_n hx hb dX10_asItIs_56 rfl (lv_at hl 1 rfl) ?_
  refine va_get (D := E.1) (ci := 10) (v := .ref (a_mm 5)) (C := RX10) (T := TX10) (N := 27) hx hb hts iX10_asItIs_X10 hown hE.1 hP 0 rfl rfl 5 (by decide) (hts (.fieldLink RX10 13 "BandBoatModel" "boat" "[I") (List.mem_of_getElem? (i := 1) rfl)) (fun _ h9 => h9) rfl dX10_asItIs_57 ?_
  refine lv_bipush (v := (18 : Int32)) hx hb dX10_asItIs_60 (by decide) ?_
  refine ar_ild (k := 18) (v := (bt 18)) hx hb hE hP 1 rfl (by unfold vp_in; decide) rfl rfl dX10_asItIs_62 ?_
  refine va_put (D := E.1) (ci := 10) (v := .int (bt 18)) (ty := .int) (C := RX10) (T := TX10) (N := 27) hx hb hts iX10_asItIs_X10 tyX10 tyX10_ok nmX10 hown hE.1 hP hD hS 0 rfl rfl 10 (by decide) (hts (.fieldLink RX10 101 "BandBoatModel" "length" "I") (List.mem_of_getElem? (i := 6) rfl)) (fun _ h9 => h9) rfl (by decide +kernel) rfl rfl (Nat.le_of_ble_eq_true rfl) dX10_asItIs_63 (fun H locs hP hD hS => ?_)
  have hP : va_P E.1 vwCl [xModel h_mm a_mm (upd (upd (upd (upd (upd mm 6 v2) 7 v3) 8 v4) 9 (bt 17)) 10 (bt 18)), xI E (a_mm 5) 60 bt] H := hP
  have hD : va_D A [xModel h_mm a_mm (upd (upd (upd (upd (upd mm 6 v2) 7 v3) 8 v4) 9 (bt 17)) 10 (bt 18)), xI E (a_mm 5) 60 bt] := hD
  refine lv_aload_n hx hb dX10_asItIs_66 rfl (lv_at hl 1 rfl) ?_
  refine lv_aload_n hx hb dX10_asItIs_67 rfl (lv_at hl 1 rfl) ?_
  refine va_get (D := E.1) (ci := 10) (v := .ref (a_mm 5)) (C := RX10) (T := TX10) (N := 27) hx hb hts iX10_asItIs_X10 hown hE.1 hP 0 rfl rfl 5 (by decide) (hts (.fieldLink RX10 13 "BandBoatModel" "boat" "[I") (List.mem_of_getElem? (i := 1) rfl)) (fun _ h9 => h9) rfl dX10_asItIs_68 ?_
  refine lv_bipush (v := (19 : Int32)) hx hb dX10_asItIs_71 (by decide) ?_
  refine ar_ild (k := 19) (v := (bt 19)) hx hb hE hP 1 rfl (by unfold vp_in; decide) rfl rfl dX10_asItIs_73 ?_
  refine va_put (D := E.1) (ci := 10) (v := .int (bt 19)) (ty := .int) (C := RX10) (T := TX10) (N := 27) hx hb hts iX10_asItIs_X10 tyX10 tyX10_ok nmX10 hown hE.1 hP hD hS 0 rfl rfl 11 (by decide) (hts (.fieldLink RX10 104 "BandBoatModel" "pitch" "I") (List.mem_of_getElem? (i := 7) rfl)) (fun _ h9 => h9) rfl (by decide +kernel) rfl rfl (Nat.le_of_ble_eq_true rfl) dX10_asItIs_74 (fun H locs hP hD hS => ?_)
  have hP : va_P E.1 vwCl [xModel h_mm a_mm (upd (upd (upd (upd (upd (upd mm 6 v2) 7 v3) 8 v4) 9 (bt 17)) 10 (bt 18)) 11 (bt 19)), xI E (a_mm 5) 60 bt] H := hP
  have hD : va_D A [xModel h_mm a_mm (upd (upd (upd (upd (upd (upd mm 6 v2) 7 v3) 8 v4) 9 (bt 17)) 10 (bt 18)) 11 (bt 19)), xI E (a_mm 5) 60 bt] := hD
  refine lv_aload_n hx hb dX10_asItIs_77 rfl (lv_at hl 1 rfl) ?_
  refine lv_aload_n hx hb dX10_asItIs_78 rfl (lv_at hl 1 rfl) ?_
  refine va_get (D := E.1) (ci := 10) (v := .ref (a_mm 5)) (C := RX10) (T := TX10) (N := 27) hx hb hts iX10_asItIs_X10 hown hE.1 hP 0 rfl rfl 5 (by decide) (hts (.fieldLink RX10 13 "BandBoatModel" "boat" "[I") (List.mem_of_getElem? (i := 1) rfl)) (fun _ h9 => h9) rfl dX10_asItIs_79 ?_
  refine lv_bipush (v := (24 : Int32)) hx hb dX10_asItIs_82 (by decide) ?_
  refine ar_ild (k := 24) (v := (bt 24)) hx hb hE hP 1 rfl (by unfold vp_in; decide) rfl rfl dX10_asItIs_84 ?_
  refine va_put (D := E.1) (ci := 10) (v := .int (bt 24)) (ty := .int) (C := RX10) (T := TX10) (N := 27) hx hb hts iX10_asItIs_X10 tyX10 tyX10_ok nmX10 hown hE.1 hP hD hS 0 rfl rfl 12 (by decide) (hts (.fieldLink RX10 107 "BandBoatModel" "rudder" "I") (List.mem_of_getElem? (i := 8) rfl)) (fun _ h9 => h9) rfl (by decide +kernel) rfl rfl (Nat.le_of_ble_eq_true rfl) dX10_asItIs_85 (fun H locs hP hD hS => ?_)
  have hP : va_P E.1 vwCl [xModel h_mm a_mm (upd (upd (upd (upd (upd (upd (upd mm 6 v2) 7 v3) 8 v4) 9 (bt 17)) 10 (bt 18)) 11 (bt 19)) 12 (bt 24)), xI E (a_mm 5) 60 bt] H := hP
  have hD : va_D A [xModel h_mm a_mm (upd (upd (upd (upd (upd (upd (upd mm 6 v2) 7 v3) 8 v4) 9 (bt 17)) 10 (bt 18)) 11 (bt 19)) 12 (bt 24)), xI E (a_mm 5) 60 bt] := hD
  exact hq (v2, v3, v4, (bt 17), (bt 18), (bt 19), (bt 24)) _ _ _ _ dX10_asItIs_88 ⟨(hρ0.trans hρ), show ((bt 17)) = (bt 17) ∧ ((bt 18)) = (bt 18) ∧ ((bt 19)) = (bt 19) from ⟨rfl, rfl, rfl⟩⟩ hP hD hS
def F_X10_woundPull_k72 (bt : Nat → Int32) (v3 : Int32) : Int32 := ((v3 * ((100 : Int32) - (bt 25))) / (100 : Int32))
def F_X10_woundPull_j71 (bt : Nat → Int32) (v1 : Int32) (y0_71 : Int32) : Int32 := F_X10_woundPull_k72 bt (v1 + y0_71)
def F_X10_woundPull_k37 (mm : Nat → Int32) (bt : Nat → Int32) (parts : Int32) (v1 : Int32) (v2 : Int32) : Int32 := (if parts ≤ v2 then F_X10_woundPull_j71 bt v1 (0 : Int32) else F_X10_woundPull_j71 bt v1 (((((2 : Int32) * (mm 6)) * (mm 9)) * (parts - v2)) / ((10 : Int32) * (mm 10))))
def F_X10_woundPull_k19 (mm : Nat → Int32) (bt : Nat → Int32) (parts : Int32) (v1 : Int32) : Int32 := F_X10_woundPull_k37 mm bt parts v1 ((((10 : Int32) * (mm 8)) * (mm 10)) / (mm 9))
def F_X10_woundPull (mm : Nat → Int32) (bt : Nat → Int32) (parts : Int32) : Int32 := F_X10_woundPull_k19 mm bt parts ((((mm 6) * (mm 9)) * parts) / ((10 : Int32) * (mm 10)))
theorem iX10_woundPull_X10 : ∀ w ∈ wsX100, w ∈ wsX10_woundPull := fun _ h => List.mem_cons_of_mem _ (List.mem_append_right _ h)
set_option maxHeartbeats 4000000 in
set_option maxRecDepth 100000 in
theorem c_X10_woundPull (l : Launch) (E : wV) (h_mm : Nat) (a_mm : Nat → Nat) (mm : Nat → Int32) (bt : Nat → Int32) (parts : Int32) (hQ : mmOK mm) : MetI l yX10_woundPull wsX10_woundPull ({ frames := 0, cells := 0, slots := 0, locals := 0 } : Room) E ([.ref h_mm, .int parts] : List Value) [xModel h_mm a_mm mm, xI E (a_mm 5) 60 bt] (fun (r : Int32) (_ : Unit) => r = F_X10_woundPull mm bt parts) (fun (_ : Unit) => [xModel h_mm a_mm mm, xI E (a_mm 5) 60 bt]) := by
  refine MetI.of (cc := cX10_woundPull) (maxL := 4) (own := RX10) (by decide) rfl rfl (Nat.le_of_ble_eq_true rfl) ?_
  intro p e s m below meth c A Q ls cx hP hD hS hl hq
  obtain ⟨hx, hb, hml, hown, hts, hE, hA⟩ := id cx
  have hl : lv_has ls 4 [(0, .ref h_mm), (1, .int parts)] := hl
  have hP : va_P E.1 vwCl [xModel h_mm a_mm mm, xI E (a_mm 5) 60 bt] s.heap := hP
  obtain ⟨ρ, hρ0⟩ : ∃ ρ, F_X10_woundPull mm bt parts = ρ := ⟨_, rfl⟩
  have hρ := hρ0.symm
  unfold F_X10_woundPull at hρ
  refine lv_aload_n hx hb dX10_woundPull_0 rfl (lv_at hl 0 rfl) ?_
  refine va_get (D := E.1) (ci := 10) (v := .int (mm 6)) (C := RX10) (T := TX10) (N := 27) hx hb hts iX10_woundPull_X10 hown hE.1 hP 0 rfl rfl 6 (by decide) (hts (.fieldLink RX10 89 "BandBoatModel" "pulls" "I") (List.mem_of_getElem? (i := 1) rfl)) (fun _ h9 => h9) rfl dX10_woundPull_1 ?_
  refine lv_aload_n hx hb dX10_woundPull_4 rfl (lv_at hl 0 rfl) ?_
  refine va_get (D := E.1) (ci := 10) (v := .int (mm 9)) (C := RX10) (T := TX10) (N := 27) hx hb hts iX10_woundPull_X10 hown hE.1 hP 0 rfl rfl 9 (by decide) (hts (.fieldLink RX10 98 "BandBoatModel" "strands" "I") (List.mem_of_getElem? (i := 2) rfl)) (fun _ h9 => h9) rfl dX10_woundPull_5 ?_
  refine lv_imul hx hb dX10_woundPull_8 ?_
  refine lv_iload_n hx hb dX10_woundPull_9 rfl (lv_at hl 1 rfl) ?_
  refine lv_imul hx hb dX10_woundPull_10 ?_
  refine lv_bipush (v := (10 : Int32)) hx hb dX10_woundPull_11 (by decide) ?_
  refine lv_aload_n hx hb dX10_woundPull_13 rfl (lv_at hl 0 rfl) ?_
  refine va_get (D := E.1) (ci := 10) (v := .int (mm 10)) (C := RX10) (T := TX10) (N := 27) hx hb hts iX10_woundPull_X10 hown hE.1 hP 0 rfl rfl 10 (by decide) (hts (.fieldLink RX10 101 "BandBoatModel" "length" "I") (List.mem_of_getElem? (i := 3) rfl)) (fun _ h9 => h9) rfl dX10_woundPull_14 ?_
  refine lv_imul hx hb dX10_woundPull_17 ?_
  refine lv_idiv hx hb dX10_woundPull_18 (hQ.2.1) ?_
  refine lv_topi (fun v1 ev1 => ?_)
  have hρ : ρ = F_X10_woundPull_k19 mm bt parts v1 := by rw [ev1]; exact hρ
  unfold F_X10_woundPull_k19 at hρ
  refine lv_istore_n (lv' := [(2, .int v1), (0, .ref h_mm), (1, .int parts)]) hx hb dX10_woundPull_19 rfl hl (by decide) rfl (fun ls hl => ?_)
  refine lv_bipush (v := (10 : Int32)) hx hb dX10_woundPull_20 (by decide) ?_
  refine lv_aload_n hx hb dX10_woundPull_22 rfl (lv_at hl 1 rfl) ?_
  refine va_get (D := E.1) (ci := 10) (v := .int (mm 8)) (C := RX10) (T := TX10) (N := 27) hx hb hts iX10_woundPull_X10 hown hE.1 hP 0 rfl rfl 8 (by decide) (hts (.fieldLink RX10 95 "BandBoatModel" "knots" "I") (List.mem_of_getElem? (i := 4) rfl)) (fun _ h9 => h9) rfl dX10_woundPull_23 ?_
  refine lv_imul hx hb dX10_woundPull_26 ?_
  refine lv_aload_n hx hb dX10_woundPull_27 rfl (lv_at hl 1 rfl) ?_
  refine va_get (D := E.1) (ci := 10) (v := .int (mm 10)) (C := RX10) (T := TX10) (N := 27) hx hb hts iX10_woundPull_X10 hown hE.1 hP 0 rfl rfl 10 (by decide) (hts (.fieldLink RX10 101 "BandBoatModel" "length" "I") (List.mem_of_getElem? (i := 3) rfl)) (fun _ h9 => h9) rfl dX10_woundPull_28 ?_
  refine lv_imul hx hb dX10_woundPull_31 ?_
  refine lv_aload_n hx hb dX10_woundPull_32 rfl (lv_at hl 1 rfl) ?_
  refine va_get (D := E.1) (ci := 10) (v := .int (mm 9)) (C := RX10) (T := TX10) (N := 27) hx hb hts iX10_woundPull_X10 hown hE.1 hP 0 rfl rfl 9 (by decide) (hts (.fieldLink RX10 98 "BandBoatModel" "strands" "I") (List.mem_of_getElem? (i := 2) rfl)) (fun _ h9 => h9) rfl dX10_woundPull_33 ?_
  refine lv_idiv hx hb dX10_woundPull_36 (hQ.1) ?_
  refine lv_topi (fun v2 ev2 => ?_)
  have hρ : ρ = F_X10_woundPull_k37 mm bt parts v1 v2 := by rw [ev2]; exact hρ
  unfold F_X10_woundPull_k37 at hρ
  refine lv_istore_n (lv' := [(3, .int v2), (2, .int v1), (0, .ref h_mm), (1, .int parts)]) hx hb dX10_woundPull_37 rfl hl (by decide) rfl (fun ls hl => ?_)
  refine lv_iload_n hx hb dX10_woundPull_38 rfl (lv_at hl 1 rfl) ?_
  refine lv_iload_n hx hb dX10_woundPull_39 rfl (lv_at hl 3 rfl) ?_
  refine lv_iload_n hx hb dX10_woundPull_40 rfl (lv_at hl 0 rfl) ?_
  have hJ71 : ∀ (y0_71 : Int32) (H : Heap) (locs : List Loc) (ls : Array Slot), ρ = F_X10_woundPull_j71 bt v1 y0_71 → va_P E.1 vwCl [xModel h_mm a_mm mm, xI E (a_mm 5) 60 bt] H → va_D A [xModel h_mm a_mm mm, xI E (a_mm 5) 60 bt] → va_S A s.heap H locs → lv_has ls 4 [(3, .int v2), (2, .int v1), (0, .ref h_mm), (1, .int parts)] → W p l e ({ frames := 0, cells := 0, slots := 0, locals := 0 } : Room) s m ([.ref h_mm, .int parts] : List Value).toArray below meth c H locs 0 0 Q (F0 m 71 ls [.int y0_71, .int v1]) := by
    intro y0_71 H locs ls hρ hP hD hS hl
    unfold F_X10_woundPull_j71 at hρ
    refine lv_iadd hx hb dX10_woundPull_71 ?_
    refine lv_topi (fun v3 ev3 => ?_)
    have hρ : ρ = F_X10_woundPull_k72 bt v3 := by rw [ev3]; exact hρ
    unfold F_X10_woundPull_k72 at hρ
    refine lv_istore_n (lv' := [(2, .int v3), (3, .int v2), (0, .ref h_mm), (1, .int parts)]) hx hb dX10_woundPull_72 rfl hl (by decide) rfl (fun ls hl => ?_)
    refine lv_iload_n hx hb dX10_woundPull_73 rfl (lv_at hl 0 rfl) ?_
    refine lv_bipush (v := (100 : Int32)) hx hb dX10_woundPull_74 (by decide) ?_
    refine lv_aload_n hx hb dX10_woundPull_76 rfl (lv_at hl 2 rfl) ?_
    refine va_get (D := E.1) (ci := 10) (v := .ref (a_mm 5)) (C := RX10) (T := TX10) (N := 27) hx hb hts iX10_woundPull_X10 hown hE.1 hP 0 rfl rfl 5 (by decide) (hts (.fieldLink RX10 13 "BandBoatModel" "boat" "[I") (List.mem_of_getElem? (i := 5) rfl)) (fun _ h9 => h9) rfl dX10_woundPull_77 ?_
    refine lv_bipush (v := (25 : Int32)) hx hb dX10_woundPull_80 (by decide) ?_
    refine ar_ild (k := 25) (v := (bt 25)) hx hb hE hP 1 rfl (by unfold vp_in; decide) rfl rfl dX10_woundPull_82 ?_
    refine lv_isub hx hb dX10_woundPull_83 ?_
    refine lv_imul hx hb dX10_woundPull_84 ?_
    refine lv_bipush (v := (100 : Int32)) hx hb dX10_woundPull_85 (by decide) ?_
    refine lv_idiv hx hb dX10_woundPull_87 (by decide) ?_
    exact hq ((v3 * ((100 : Int32) - (bt 25))) / (100 : Int32)) () _ _ _ _ dX10_woundPull_88 rfl (hρ0.trans hρ).symm hP hD hS
  refine lv_icmp_le (tgt := 70) hx hb dX10_woundPull_41 (by decide) (fun c41 => ?_) (fun c41 => ?_)
  · rw [if_pos c41] at hρ
    refine lv_iconst (v := (0 : Int32)) hx hb dX10_woundPull_70 (by decide) ?_
    exact hJ71 (0 : Int32) _ _ _ hρ hP hD hS (lv_sub hl [0, 1, 2, 3] rfl)
  · rw [if_neg c41] at hρ
    refine lv_iconst (v := (2 : Int32)) hx hb dX10_woundPull_44 (by decide) ?_
    refine lv_aload_n hx hb dX10_woundPull_45 rfl (lv_at hl 2 rfl) ?_
    refine va_get (D := E.1) (ci := 10) (v := .int (mm 6)) (C := RX10) (T := TX10) (N := 27) hx hb hts iX10_woundPull_X10 hown hE.1 hP 0 rfl rfl 6 (by decide) (hts (.fieldLink RX10 89 "BandBoatModel" "pulls" "I") (List.mem_of_getElem? (i := 1) rfl)) (fun _ h9 => h9) rfl dX10_woundPull_46 ?_
    refine lv_imul hx hb dX10_woundPull_49 ?_
    refine lv_aload_n hx hb dX10_woundPull_50 rfl (lv_at hl 2 rfl) ?_
    refine va_get (D := E.1) (ci := 10) (v := .int (mm 9)) (C := RX10) (T := TX10) (N := 27) hx hb hts iX10_woundPull_X10 hown hE.1 hP 0 rfl rfl 9 (by decide) (hts (.fieldLink RX10 98 "BandBoatModel" "strands" "I") (List.mem_of_getElem? (i := 2) rfl)) (fun _ h9 => h9) rfl dX10_woundPull_51 ?_
    refine lv_imul hx hb dX10_woundPull_54 ?_
    refine lv_iload_n hx hb dX10_woundPull_55 rfl (lv_at hl 3 rfl) ?_
    refine lv_iload_n hx hb dX10_woundPull_56 rfl (lv_at hl 0 rfl) ?_
    refine lv_isub hx hb dX10_woundPull_57 ?_
    refine lv_imul hx hb dX10_woundPull_58 ?_
    refine lv_bipush (v := (10 : Int32)) hx hb dX10_woundPull_59 (by decide) ?_
    refine lv_aload_n hx hb dX10_woundPull_61 rfl (lv_at hl 2 rfl) ?_
    refine va_get (D := E.1) (ci := 10) (v := .int (mm 10)) (C := RX10) (T := TX10) (N := 27) hx hb hts iX10_woundPull_X10 hown hE.1 hP 0 rfl rfl 10 (by decide) (hts (.fieldLink RX10 101 "BandBoatModel" "length" "I") (List.mem_of_getElem? (i := 3) rfl)) (fun _ h9 => h9) rfl dX10_woundPull_62 ?_
    refine lv_imul hx hb dX10_woundPull_65 ?_
    refine lv_idiv hx hb dX10_woundPull_66 (hQ.2.1) ?_
    refine lv_goto (tgt := 71) hx hb dX10_woundPull_67 (by decide) ?_
    exact hJ71 (((((2 : Int32) * (mm 6)) * (mm 9)) * (parts - v2)) / ((10 : Int32) * (mm 10))) _ _ _ hρ hP hD hS (lv_sub hl [0, 1, 2, 3] rfl)
def F_X10_freePull (mm : Nat → Int32) (bt : Nat → Int32) (parts : Int32) : Int32 := (((((F_X10_woundPull mm bt parts) * ((100 : Int32) - (mm 7))) / (100 : Int32)) * ((100 : Int32) - (bt 26))) / (100 : Int32))
theorem iX10_freePull_X10 : ∀ w ∈ wsX100, w ∈ wsX10_freePull := fun _ h => List.mem_cons_of_mem _ (List.mem_append_right _ h)
set_option maxHeartbeats 4000000 in
set_option maxRecDepth 100000 in
theorem c_X10_freePull (l : Launch) (E : wV) (h_mm : Nat) (a_mm : Nat → Nat) (mm : Nat → Int32) (bt : Nat → Int32) (parts : Int32) (hQ : mmOK mm) : MetI l yX10_freePull wsX10_freePull ({ frames := 1, cells := 0, slots := 0, locals := 23 } : Room) E ([.ref h_mm, .int parts] : List Value) [xModel h_mm a_mm mm, xI E (a_mm 5) 60 bt] (fun (r : Int32) (_ : Unit) => r = F_X10_freePull mm bt parts) (fun (_ : Unit) => [xModel h_mm a_mm mm, xI E (a_mm 5) 60 bt]) := by
  refine MetI.of (cc := cX10_freePull) (maxL := 2) (own := RX10) (by decide) rfl rfl (Nat.le_of_ble_eq_true rfl) ?_
  intro p e s m below meth c A Q ls cx hP hD hS hl hq
  obtain ⟨hx, hb, hml, hown, hts, hE, hA⟩ := id cx
  have hl : lv_has ls 2 [(0, .ref h_mm), (1, .int parts)] := hl
  have hP : va_P E.1 vwCl [xModel h_mm a_mm mm, xI E (a_mm 5) 60 bt] s.heap := hP
  obtain ⟨ρ, hρ0⟩ : ∃ ρ, F_X10_freePull mm bt parts = ρ := ⟨_, rfl⟩
  have hρ := hρ0.symm
  unfold F_X10_freePull at hρ
  refine lv_aload_n hx hb dX10_freePull_0 rfl (lv_at hl 0 rfl) ?_
  refine lv_iload_n hx hb dX10_freePull_1 rfl (lv_at hl 1 rfl) ?_
  refine kI (wc := [xModel h_mm a_mm mm, xI E (a_mm 5) 60 bt]) (wr := []) (wc' := (fun (_ : Unit) => [xModel h_mm a_mm mm, xI E (a_mm 5) 60 bt])) (wn := (fun (_ : Unit) => [xModel h_mm a_mm mm, xI E (a_mm 5) 60 bt])) (isC := [0, 1]) (isR := []) (is2 := [0, 1]) cx hP hD hS ⟨rfl, rfl, by decide, by decide, by decide, by decide, fun _ => rfl⟩ (rV (As := [.int parts]) (rest := []) (C := RX10) (q0 := 0) (ci := 10) cx (c_X10_woundPull l E h_mm a_mm mm bt parts (hQ) _) (cwV 1 hts gX10_freePull_X10_woundPull rfl rfl rfl (by decide +kernel) ⟨Nat.le_of_ble_eq_true rfl, Nat.le_of_ble_eq_true rfl⟩) rfl rfl rfl rfl hl.1 rfl (Nat.le_of_ble_eq_true rfl) dX10_freePull_2 ⟨Nat.zero_le _, Nat.zero_le _⟩) (fun r1 u H locs hw hP hD hS => ?_)
  subst hw
  refine lv_bipush (v := (100 : Int32)) hx hb dX10_freePull_5 (by decide) ?_
  refine lv_aload_n hx hb dX10_freePull_7 rfl (lv_at hl 0 rfl) ?_
  refine va_get (D := E.1) (ci := 10) (v := .int (mm 7)) (C := RX10) (T := TX10) (N := 27) hx hb hts iX10_freePull_X10 hown hE.1 hP 0 rfl rfl 7 (by decide) (hts (.fieldLink RX10 92 "BandBoatModel" "loses" "I") (List.mem_of_getElem? (i := 1) rfl)) (fun _ h9 => h9) rfl dX10_freePull_8 ?_
  refine lv_isub hx hb dX10_freePull_11 ?_
  refine lv_imul hx hb dX10_freePull_12 ?_
  refine lv_bipush (v := (100 : Int32)) hx hb dX10_freePull_13 (by decide) ?_
  refine lv_idiv hx hb dX10_freePull_15 (by decide) ?_
  refine lv_bipush (v := (100 : Int32)) hx hb dX10_freePull_16 (by decide) ?_
  refine lv_aload_n hx hb dX10_freePull_18 rfl (lv_at hl 0 rfl) ?_
  refine va_get (D := E.1) (ci := 10) (v := .ref (a_mm 5)) (C := RX10) (T := TX10) (N := 27) hx hb hts iX10_freePull_X10 hown hE.1 hP 0 rfl rfl 5 (by decide) (hts (.fieldLink RX10 13 "BandBoatModel" "boat" "[I") (List.mem_of_getElem? (i := 2) rfl)) (fun _ h9 => h9) rfl dX10_freePull_19 ?_
  refine lv_bipush (v := (26 : Int32)) hx hb dX10_freePull_22 (by decide) ?_
  refine ar_ild (k := 26) (v := (bt 26)) hx hb hE hP 1 rfl (by unfold vp_in; decide) rfl rfl dX10_freePull_24 ?_
  refine lv_isub hx hb dX10_freePull_25 ?_
  refine lv_imul hx hb dX10_freePull_26 ?_
  refine lv_bipush (v := (100 : Int32)) hx hb dX10_freePull_27 (by decide) ?_
  refine lv_idiv hx hb dX10_freePull_29 (by decide) ?_
  exact hq (((((F_X10_woundPull mm bt parts) * ((100 : Int32) - (mm 7))) / (100 : Int32)) * ((100 : Int32) - (bt 26))) / (100 : Int32)) () _ _ _ _ dX10_freePull_30 rfl (hρ0.trans hρ).symm hP hD hS
def F_X10_windAt_k21 (bt : Nat → Int32) (v1 : Int64) : Int32 := (Int64.toInt32 (((v1 * v1) - (v1 * v1) / (65521 : Int64) * (65521 : Int64)) - ((v1 * v1) - (v1 * v1) / (65521 : Int64) * (65521 : Int64)) / (Int32.toInt64 ((bt 27) + (1 : Int32))) * (Int32.toInt64 ((bt 27) + (1 : Int32)))))
def F_X10_windAt (bt : Nat → Int32) (z : Int32) (t : Int32) : Int32 := (if (0 : Int32) ≤ z then F_X10_windAt_k21 bt ((((7919 : Int64) * (Int32.toInt64 z)) + ((6151 : Int64) * (Int32.toInt64 t))) + (1 : Int64)) else (0 : Int32))
theorem iX10_windAt_X10 : ∀ w ∈ wsX100, w ∈ wsX10_windAt := fun _ h => List.mem_cons_of_mem _ (List.mem_append_right _ h)
set_option maxHeartbeats 4000000 in
set_option maxRecDepth 100000 in
theorem c_X10_windAt (l : Launch) (E : wV) (h_mm : Nat) (a_mm : Nat → Nat) (mm : Nat → Int32) (bt : Nat → Int32) (z : Int32) (t : Int32) (hW : (0 : Int32) ≤ bt 27) : MetI l yX10_windAt wsX10_windAt ({ frames := 0, cells := 0, slots := 0, locals := 0 } : Room) E ([.ref h_mm, .int z, .int t] : List Value) [xModel h_mm a_mm mm, xI E (a_mm 5) 60 bt] (fun (r : Int32) (_ : Unit) => r = F_X10_windAt bt z t) (fun (_ : Unit) => [xModel h_mm a_mm mm, xI E (a_mm 5) 60 bt]) := by
  refine MetI.of (cc := cX10_windAt) (maxL := 5) (own := RX10) (by decide) rfl rfl (Nat.le_of_ble_eq_true rfl) ?_
  intro p e s m below meth c A Q ls cx hP hD hS hl hq
  obtain ⟨hx, hb, hml, hown, hts, hE, hA⟩ := id cx
  have hl : lv_has ls 5 [(0, .ref h_mm), (1, .int z), (2, .int t)] := hl
  have hP : va_P E.1 vwCl [xModel h_mm a_mm mm, xI E (a_mm 5) 60 bt] s.heap := hP
  obtain ⟨ρ, hρ0⟩ : ∃ ρ, F_X10_windAt bt z t = ρ := ⟨_, rfl⟩
  have hρ := hρ0.symm
  unfold F_X10_windAt at hρ
  refine lv_iload_n hx hb dX10_windAt_0 rfl (lv_at hl 1 rfl) ?_
  refine lv_if_ge (tgt := 6) hx hb dX10_windAt_1 (by decide) (fun c1 => ?_) (fun c1 => ?_)
  · rw [if_pos c1] at hρ
    refine lv_ldc2 (own := RX10) (v := (7919 : Int64)) hx hb hown (hts (.constantLong RX10 120 (7919)) (List.mem_of_getElem? (i := 1) rfl)) dX10_windAt_6 ?_
    refine lv_iload_n hx hb dX10_windAt_9 rfl (lv_at hl 1 rfl) ?_
    refine lv_i2l hx hb dX10_windAt_10 rfl ?_
    refine lv_lmul hx hb dX10_windAt_11 ?_
    refine lv_ldc2 (own := RX10) (v := (6151 : Int64)) hx hb hown (hts (.constantLong RX10 122 (6151)) (List.mem_of_getElem? (i := 2) rfl)) dX10_windAt_12 ?_
    refine lv_iload_n hx hb dX10_windAt_15 rfl (lv_at hl 2 rfl) ?_
    refine lv_i2l hx hb dX10_windAt_16 rfl ?_
    refine lv_lmul hx hb dX10_windAt_17 ?_
    refine lv_ladd hx hb dX10_windAt_18 ?_
    refine lv_lconst (v := (1 : Int64)) hx hb dX10_windAt_19 (by decide) ?_
    refine lv_ladd hx hb dX10_windAt_20 ?_
    refine lv_topl (fun v1 ev1 => ?_)
    have hρ : ρ = F_X10_windAt_k21 bt v1 := by rw [ev1]; exact hρ
    unfold F_X10_windAt_k21 at hρ
    refine lv_lstore_n (lv' := [(3, .long v1), (0, .ref h_mm), (1, .int z), (2, .int t)]) hx hb dX10_windAt_21 rfl hl (by decide) rfl (fun ls hl => ?_)
    refine lv_lload_n hx hb dX10_windAt_22 rfl (lv_at hl 0 rfl) ?_
    refine lv_lload_n hx hb dX10_windAt_23 rfl (lv_at hl 0 rfl) ?_
    refine lv_lmul hx hb dX10_windAt_24 ?_
    refine lv_ldc2 (own := RX10) (v := (65521 : Int64)) hx hb hown (hts (.constantLong RX10 124 (65521)) (List.mem_of_getElem? (i := 3) rfl)) dX10_windAt_25 ?_
    refine lv_lrem hx hb dX10_windAt_28 (by decide) ?_
    refine lv_aload_n hx hb dX10_windAt_29 rfl (lv_at hl 1 rfl) ?_
    refine va_get (D := E.1) (ci := 10) (v := .ref (a_mm 5)) (C := RX10) (T := TX10) (N := 27) hx hb hts iX10_windAt_X10 hown hE.1 hP 0 rfl rfl 5 (by decide) (hts (.fieldLink RX10 13 "BandBoatModel" "boat" "[I") (List.mem_of_getElem? (i := 4) rfl)) (fun _ h9 => h9) rfl dX10_windAt_30 ?_
    refine lv_bipush (v := (27 : Int32)) hx hb dX10_windAt_33 (by decide) ?_
    refine ar_ild (k := 27) (v := (bt 27)) hx hb hE hP 1 rfl (by unfold vp_in; decide) rfl rfl dX10_windAt_35 ?_
    refine lv_iconst (v := (1 : Int32)) hx hb dX10_windAt_36 (by decide) ?_
    refine lv_iadd hx hb dX10_windAt_37 ?_
    refine lv_i2l hx hb dX10_windAt_38 rfl ?_
    refine lv_lrem hx hb dX10_windAt_39 (gust_nz hW) ?_
    refine lv_l2i hx hb dX10_windAt_40 rfl ?_
    exact hq (Int64.toInt32 (((v1 * v1) - (v1 * v1) / (65521 : Int64) * (65521 : Int64)) - ((v1 * v1) - (v1 * v1) / (65521 : Int64) * (65521 : Int64)) / (Int32.toInt64 ((bt 27) + (1 : Int32))) * (Int32.toInt64 ((bt 27) + (1 : Int32))))) () _ _ _ _ dX10_windAt_41 rfl (hρ0.trans hρ).symm hP hD hS
  · rw [if_neg c1] at hρ
    refine lv_iconst (v := (0 : Int32)) hx hb dX10_windAt_4 (by decide) ?_
    exact hq (0 : Int32) () _ _ _ _ dX10_windAt_5 rfl (hρ0.trans hρ).symm hP hD hS
def F_X10_within (v : Int32) (lo : Int32) (hi : Int32) : Int32 := (if lo ≤ v then (if v ≤ hi then v else hi) else lo)
set_option maxHeartbeats 4000000 in
set_option maxRecDepth 100000 in
theorem c_X10_within (l : Launch) (E : wV) (v : Int32) (lo : Int32) (hi : Int32) : MetI l yX10_within wsX10_within ({ frames := 0, cells := 0, slots := 0, locals := 0 } : Room) E ([.int v, .int lo, .int hi] : List Value) [] (fun (r : Int32) (_ : Unit) => r = F_X10_within v lo hi) (fun (_ : Unit) => []) := by
  refine MetI.of (cc := cX10_within) (maxL := 3) (own := RX10) (by decide) rfl rfl (Nat.le_of_ble_eq_true rfl) ?_
  intro p e s m below meth c A Q ls cx hP hD hS hl hq
  obtain ⟨hx, hb, hml, hown, hts, hE, hA⟩ := id cx
  have hl : lv_has ls 3 [(0, .int v), (1, .int lo), (2, .int hi)] := hl
  have hP : va_P E.1 vwCl [] s.heap := hP
  obtain ⟨ρ, hρ0⟩ : ∃ ρ, F_X10_within v lo hi = ρ := ⟨_, rfl⟩
  have hρ := hρ0.symm
  unfold F_X10_within at hρ
  refine lv_iload_n hx hb dX10_within_0 rfl (lv_at hl 0 rfl) ?_
  refine lv_iload_n hx hb dX10_within_1 rfl (lv_at hl 1 rfl) ?_
  refine lv_icmp_ge (tgt := 9) hx hb dX10_within_2 (by decide) (fun c2 => ?_) (fun c2 => ?_)
  · rw [if_pos c2] at hρ
    refine lv_iload_n hx hb dX10_within_9 rfl (lv_at hl 0 rfl) ?_
    refine lv_iload_n hx hb dX10_within_10 rfl (lv_at hl 2 rfl) ?_
    refine lv_icmp_le (tgt := 18) hx hb dX10_within_11 (by decide) (fun c11 => ?_) (fun c11 => ?_)
    · rw [if_pos c11] at hρ
      refine lv_iload_n hx hb dX10_within_18 rfl (lv_at hl 0 rfl) ?_
      exact hq v () _ _ _ _ dX10_within_19 rfl (hρ0.trans hρ).symm hP hD hS
    · rw [if_neg c11] at hρ
      refine lv_iload_n hx hb dX10_within_14 rfl (lv_at hl 2 rfl) ?_
      refine lv_goto (tgt := 19) hx hb dX10_within_15 (by decide) ?_
      exact hq hi () _ _ _ _ dX10_within_19 rfl (hρ0.trans hρ).symm hP hD hS
  · rw [if_neg c2] at hρ
    refine lv_iload_n hx hb dX10_within_5 rfl (lv_at hl 1 rfl) ?_
    refine lv_goto (tgt := 19) hx hb dX10_within_6 (by decide) ?_
    exact hq lo () _ _ _ _ dX10_within_19 rfl (hρ0.trans hρ).symm hP hD hS
def F_X10_tenth_k217 (ar : Nat → Int32) (v3 : Int32) (v9 : Int32) (v10 : Int32) (v12 : Int32) (v14 : Int32) (v15 : Int32) : (Nat → Int32) := (upd (upd (upd (upd (upd (upd ar 0 v3) 1 v9) 2 v10) 3 v12) 4 v14) 5 v15)
def F_X10_tenth_k210 (ar : Nat → Int32) (v3 : Int32) (v9 : Int32) (v10 : Int32) (v12 : Int32) (v14 : Int32) : (Nat → Int32) := F_X10_tenth_k217 ar v3 v9 v10 v12 v14 ((ar 5) + (1 : Int32))
def F_X10_tenth_k185 (ar : Nat → Int32) (v3 : Int32) (v9 : Int32) (v10 : Int32) (v12 : Int32) : (Nat → Int32) := F_X10_tenth_k210 ar v3 v9 v10 v12 (F_X10_within ((ar 4) + ((v9 * v12) / (1000 : Int32))) (-9999999 : Int32) (9999999 : Int32))
def F_X10_tenth_k147 (mm : Nat → Int32) (bt : Nat → Int32) (ar : Nat → Int32) (v3 : Int32) (v5 : Int32) (v9 : Int32) (v10 : Int32) : (Nat → Int32) := F_X10_tenth_k185 ar v3 v9 v10 (F_X10_within ((ar 3) + (((v5 * (bt 23)) - (v9 * (mm 12))) / (100 : Int32))) (-9999 : Int32) (9999 : Int32))
def F_X10_tenth_k138 (mm : Nat → Int32) (bt : Nat → Int32) (ar : Nat → Int32) (v3 : Int32) (v5 : Int32) (v9 : Int32) : (Nat → Int32) := F_X10_tenth_k147 mm bt ar v3 v5 v9 ((ar 2) + v9)
def F_X10_tenth_k110 (mm : Nat → Int32) (bt : Nat → Int32) (ar : Nat → Int32) (v3 : Int32) (v5 : Int32) (v7 : Int32) : (Nat → Int32) := F_X10_tenth_k138 mm bt ar v3 v5 (F_X10_within ((ar 1) + ((v5 - v7) / (bt 21))) (0 : Int32) (999 : Int32))
def F_X10_tenth_k80 (mm : Nat → Int32) (bt : Nat → Int32) (ar : Nat → Int32) (z : Int32) (v3 : Int32) (v5 : Int32) : (Nat → Int32) := F_X10_tenth_k110 mm bt ar v3 v5 (((((ar 1) * (ar 1)) * (bt 22)) / (1000 : Int32)) + (F_X10_windAt bt z (ar 5)))
def F_X10_tenth_j69 (mm : Nat → Int32) (bt : Nat → Int32) (ar : Nat → Int32) (z : Int32) (v3 : Int32) (y0_69 : Int32) : (Nat → Int32) := F_X10_tenth_k80 mm bt ar z v3 ((y0_69 * (bt 20)) / (10 : Int32))
def F_X10_tenth_k56 (mm : Nat → Int32) (bt : Nat → Int32) (ar : Nat → Int32) (z : Int32) (v3 : Int32) (v4 : Int32) : (Nat → Int32) := (if (0 : Int32) ≤ v4 then F_X10_tenth_j69 mm bt ar z v3 v4 else F_X10_tenth_j69 mm bt ar z v3 (0 : Int32))
def F_X10_tenth_k42 (mm : Nat → Int32) (bt : Nat → Int32) (ar : Nat → Int32) (z : Int32) (y0_35 : Int32) (v3 : Int32) : (Nat → Int32) := F_X10_tenth_k56 mm bt ar z v3 ((((mm 11) * y0_35) / (10 : Int32)) - (ar 1))
def F_X10_tenth_j35 (mm : Nat → Int32) (bt : Nat → Int32) (ar : Nat → Int32) (z : Int32) (y0_35 : Int32) : (Nat → Int32) := F_X10_tenth_k42 mm bt ar z y0_35 ((ar 0) - y0_35)
def F_X10_tenth_k20 (mm : Nat → Int32) (bt : Nat → Int32) (ar : Nat → Int32) (z : Int32) (v2 : Int32) : (Nat → Int32) := (if v2 ≤ (ar 0) then F_X10_tenth_j35 mm bt ar z v2 else F_X10_tenth_j35 mm bt ar z (ar 0))
def F_X10_tenth (mm : Nat → Int32) (bt : Nat → Int32) (ar : Nat → Int32) (z : Int32) : (Nat → Int32) := F_X10_tenth_k20 mm bt ar z ((F_X10_freePull mm bt (ar 0)) / ((10 : Int32) + ((mm 11) * (mm 11))))
theorem iX10_tenth_X10 : ∀ w ∈ wsX100, w ∈ wsX10_tenth := fun _ h => List.mem_cons_of_mem _ (List.mem_append_right _ h)
set_option maxHeartbeats 4000000 in
set_option maxRecDepth 100000 in
theorem c_X10_tenth (l : Launch) (E : wV) (h_mm : Nat) (h_ar : Nat) (a_mm : Nat → Nat) (mm : Nat → Int32) (bt : Nat → Int32) (ar : Nat → Int32) (z : Int32) (hB : btOK bt) (hQ : mmOK mm) : MetV l yX10_tenth wsX10_tenth ({ frames := 2, cells := 0, slots := 0, locals := 44 } : Room) E ([.ref h_mm, .ref h_ar, .int z] : List Value) [xModel h_mm a_mm mm, xI E (a_mm 5) 60 bt, xI E h_ar 6 ar] (fun (u : (Nat → Int32)) => F_X10_tenth mm bt ar z = u ∧ ((u 5) = (ar 5) + (1 : Int32))) (fun (u : (Nat → Int32)) => [xModel h_mm a_mm mm, xI E (a_mm 5) 60 bt, xI E h_ar 6 u]) := by
  refine MetV.of (cc := cX10_tenth) (maxL := 6) (own := RX10) (by decide) rfl rfl (Nat.le_of_ble_eq_true rfl) ?_
  intro p e s m below meth c A Q ls cx hP hD hS hl hq
  obtain ⟨hx, hb, hml, hown, hts, hE, hA⟩ := id cx
  have hl : lv_has ls 6 [(0, .ref h_mm), (1, .ref h_ar), (2, .int z)] := hl
  have hP : va_P E.1 vwCl [xModel h_mm a_mm mm, xI E (a_mm 5) 60 bt, xI E h_ar 6 ar] s.heap := hP
  obtain ⟨ρ, hρ0⟩ : ∃ ρ, F_X10_tenth mm bt ar z = ρ := ⟨_, rfl⟩
  have hρ := hρ0.symm
  unfold F_X10_tenth at hρ
  refine lv_aload_n hx hb dX10_tenth_0 rfl (lv_at hl 0 rfl) ?_
  refine lv_aload_n hx hb dX10_tenth_1 rfl (lv_at hl 1 rfl) ?_
  refine lv_iconst (v := (0 : Int32)) hx hb dX10_tenth_2 (by decide) ?_
  refine ar_ild (k := 0) (v := (ar 0)) hx hb hE hP 2 rfl (by unfold vp_in; decide) rfl rfl dX10_tenth_3 ?_
  refine kI (wc := [xModel h_mm a_mm mm, xI E (a_mm 5) 60 bt]) (wr := [xI E h_ar 6 ar]) (wc' := (fun (_ : Unit) => [xModel h_mm a_mm mm, xI E (a_mm 5) 60 bt])) (wn := (fun (_ : Unit) => [xModel h_mm a_mm mm, xI E (a_mm 5) 60 bt, xI E h_ar 6 ar])) (isC := [0, 1]) (isR := [2]) (is2 := [1, 2, 0]) cx hP hD hS ⟨rfl, rfl, by decide, by decide, by decide, by decide, fun _ => rfl⟩ (rV (As := [.int (ar 0)]) (rest := []) (C := RX10) (q0 := 0) (ci := 10) cx (c_X10_freePull l E h_mm a_mm mm bt (ar 0) (hQ) _) (cwV 1 hts gX10_tenth_X10_freePull rfl rfl rfl (by decide +kernel) ⟨Nat.le_of_ble_eq_true rfl, Nat.le_of_ble_eq_true rfl⟩) rfl rfl rfl rfl hl.1 rfl (Nat.le_of_ble_eq_true rfl) dX10_tenth_4 ⟨Nat.zero_le _, Nat.zero_le _⟩) (fun r1 u H locs hw hP hD hS => ?_)
  subst hw
  refine lv_bipush (v := (10 : Int32)) hx hb dX10_tenth_7 (by decide) ?_
  refine lv_aload_n hx hb dX10_tenth_9 rfl (lv_at hl 0 rfl) ?_
  refine va_get (D := E.1) (ci := 10) (v := .int (mm 11)) (C := RX10) (T := TX10) (N := 27) hx hb hts iX10_tenth_X10 hown hE.1 hP 0 rfl rfl 11 (by decide) (hts (.fieldLink RX10 104 "BandBoatModel" "pitch" "I") (List.mem_of_getElem? (i := 1) rfl)) (fun _ h9 => h9) rfl dX10_tenth_10 ?_
  refine lv_aload_n hx hb dX10_tenth_13 rfl (lv_at hl 0 rfl) ?_
  refine va_get (D := E.1) (ci := 10) (v := .int (mm 11)) (C := RX10) (T := TX10) (N := 27) hx hb hts iX10_tenth_X10 hown hE.1 hP 0 rfl rfl 11 (by decide) (hts (.fieldLink RX10 104 "BandBoatModel" "pitch" "I") (List.mem_of_getElem? (i := 1) rfl)) (fun _ h9 => h9) rfl dX10_tenth_14 ?_
  refine lv_imul hx hb dX10_tenth_17 ?_
  refine lv_iadd hx hb dX10_tenth_18 ?_
  refine lv_idiv hx hb dX10_tenth_19 (hQ.2.2) ?_
  refine lv_topi (fun v2 ev2 => ?_)
  have hρ : ρ = F_X10_tenth_k20 mm bt ar z v2 := by rw [ev2]; exact hρ
  unfold F_X10_tenth_k20 at hρ
  refine lv_istore_n (lv' := [(3, .int v2), (0, .ref h_mm), (1, .ref h_ar), (2, .int z)]) hx hb dX10_tenth_20 rfl hl (by decide) rfl (fun ls hl => ?_)
  refine lv_iload_n hx hb dX10_tenth_21 rfl (lv_at hl 0 rfl) ?_
  refine lv_aload_n hx hb dX10_tenth_22 rfl (lv_at hl 2 rfl) ?_
  refine lv_iconst (v := (0 : Int32)) hx hb dX10_tenth_23 (by decide) ?_
  refine ar_ild (k := 0) (v := (ar 0)) hx hb hE hP 2 rfl (by unfold vp_in; decide) rfl rfl dX10_tenth_24 ?_
  have hJ35 : ∀ (y0_35 : Int32) (H : Heap) (locs : List Loc) (ls : Array Slot), ρ = F_X10_tenth_j35 mm bt ar z y0_35 → va_P E.1 vwCl [xModel h_mm a_mm mm, xI E (a_mm 5) 60 bt, xI E h_ar 6 ar] H → va_D A [xModel h_mm a_mm mm, xI E (a_mm 5) 60 bt, xI E h_ar 6 ar] → va_S A s.heap H locs → lv_has ls 6 [(3, .int v2), (0, .ref h_mm), (1, .ref h_ar), (2, .int z)] → W p l e ({ frames := 2, cells := 0, slots := 0, locals := 44 } : Room) s m ([.ref h_mm, .ref h_ar, .int z] : List Value).toArray below meth c H locs 0 0 Q (F0 m 35 ls [.int y0_35]) := by
    intro y0_35 H locs ls hρ hP hD hS hl
    unfold F_X10_tenth_j35 at hρ
    refine lv_istore_n (lv' := [(3, .int y0_35), (0, .ref h_mm), (1, .ref h_ar), (2, .int z)]) hx hb dX10_tenth_35 rfl hl (by decide) rfl (fun ls hl => ?_)
    refine lv_aload_n hx hb dX10_tenth_36 rfl (lv_at hl 2 rfl) ?_
    refine lv_iconst (v := (0 : Int32)) hx hb dX10_tenth_37 (by decide) ?_
    refine lv_dup2_11 hx hb dX10_tenth_38 rfl rfl ?_
    refine ar_ild (k := 0) (v := (ar 0)) hx hb hE hP 2 rfl (by unfold vp_in; decide) rfl rfl dX10_tenth_39 ?_
    refine lv_iload_n hx hb dX10_tenth_40 rfl (lv_at hl 0 rfl) ?_
    refine lv_isub hx hb dX10_tenth_41 ?_
    refine lv_topi (fun v3 ev3 => ?_)
    have hρ : ρ = F_X10_tenth_k42 mm bt ar z y0_35 v3 := by rw [ev3]; exact hρ
    unfold F_X10_tenth_k42 at hρ
    refine ar_ist (k := 0) (ws' := [xModel h_mm a_mm mm, xI E (a_mm 5) 60 bt, xI E h_ar 6 (upd ar 0 v3)]) hx hb hE hP hD hS 2 rfl (by unfold vp_in; decide) rfl rfl dX10_tenth_42 (fun H locs hP hD hS => ?_)
    refine lv_aload_n hx hb dX10_tenth_43 rfl (lv_at hl 1 rfl) ?_
    refine va_get (D := E.1) (ci := 10) (v := .int (mm 11)) (C := RX10) (T := TX10) (N := 27) hx hb hts iX10_tenth_X10 hown hE.1 hP 0 rfl rfl 11 (by decide) (hts (.fieldLink RX10 104 "BandBoatModel" "pitch" "I") (List.mem_of_getElem? (i := 1) rfl)) (fun _ h9 => h9) rfl dX10_tenth_44 ?_
    refine lv_iload_n hx hb dX10_tenth_47 rfl (lv_at hl 0 rfl) ?_
    refine lv_imul hx hb dX10_tenth_48 ?_
    refine lv_bipush (v := (10 : Int32)) hx hb dX10_tenth_49 (by decide) ?_
    refine lv_idiv hx hb dX10_tenth_51 (by decide) ?_
    refine lv_aload_n hx hb dX10_tenth_52 rfl (lv_at hl 2 rfl) ?_
    refine lv_iconst (v := (1 : Int32)) hx hb dX10_tenth_53 (by decide) ?_
    refine ar_ild (k := 1) (v := (ar 1)) hx hb hE hP 2 rfl (by unfold vp_in; decide) rfl rfl dX10_tenth_54 ?_
    refine lv_isub hx hb dX10_tenth_55 ?_
    refine lv_topi (fun v4 ev4 => ?_)
    have hρ : ρ = F_X10_tenth_k56 mm bt ar z v3 v4 := by rw [ev4]; exact hρ
    unfold F_X10_tenth_k56 at hρ
    refine lv_istore (lv' := [(4, .int v4), (3, .int y0_35), (0, .ref h_mm), (1, .ref h_ar), (2, .int z)]) hx hb dX10_tenth_56 hl (by decide) rfl (fun ls hl => ?_)
    refine lv_iload hx hb dX10_tenth_58 (lv_at hl 0 rfl) ?_
    have hJ69 : ∀ (y0_69 : Int32) (H : Heap) (locs : List Loc) (ls : Array Slot), ρ = F_X10_tenth_j69 mm bt ar z v3 y0_69 → va_P E.1 vwCl [xModel h_mm a_mm mm, xI E (a_mm 5) 60 bt, xI E h_ar 6 (upd ar 0 v3)] H → va_D A [xModel h_mm a_mm mm, xI E (a_mm 5) 60 bt, xI E h_ar 6 (upd ar 0 v3)] → va_S A s.heap H locs → lv_has ls 6 [(4, .int v4), (3, .int y0_35), (0, .ref h_mm), (1, .ref h_ar), (2, .int z)] → W p l e ({ frames := 2, cells := 0, slots := 0, locals := 44 } : Room) s m ([.ref h_mm, .ref h_ar, .int z] : List Value).toArray below meth c H locs 0 0 Q (F0 m 69 ls [.int y0_69]) := by
      intro y0_69 H locs ls hρ hP hD hS hl
      unfold F_X10_tenth_j69 at hρ
      refine lv_aload_n hx hb dX10_tenth_69 rfl (lv_at hl 2 rfl) ?_
      refine va_get (D := E.1) (ci := 10) (v := .ref (a_mm 5)) (C := RX10) (T := TX10) (N := 27) hx hb hts iX10_tenth_X10 hown hE.1 hP 0 rfl rfl 5 (by decide) (hts (.fieldLink RX10 13 "BandBoatModel" "boat" "[I") (List.mem_of_getElem? (i := 2) rfl)) (fun _ h9 => h9) rfl dX10_tenth_70 ?_
      refine lv_bipush (v := (20 : Int32)) hx hb dX10_tenth_73 (by decide) ?_
      refine ar_ild (k := 20) (v := (bt 20)) hx hb hE hP 1 rfl (by unfold vp_in; decide) rfl rfl dX10_tenth_75 ?_
      refine lv_imul hx hb dX10_tenth_76 ?_
      refine lv_bipush (v := (10 : Int32)) hx hb dX10_tenth_77 (by decide) ?_
      refine lv_idiv hx hb dX10_tenth_79 (by decide) ?_
      refine lv_topi (fun v5 ev5 => ?_)
      have hρ : ρ = F_X10_tenth_k80 mm bt ar z v3 v5 := by rw [ev5]; exact hρ
      unfold F_X10_tenth_k80 at hρ
      refine lv_istore (lv' := [(4, .int v5), (3, .int y0_35), (0, .ref h_mm), (1, .ref h_ar), (2, .int z)]) hx hb dX10_tenth_80 hl (by decide) rfl (fun ls hl => ?_)
      refine lv_aload_n hx hb dX10_tenth_82 rfl (lv_at hl 3 rfl) ?_
      refine lv_iconst (v := (1 : Int32)) hx hb dX10_tenth_83 (by decide) ?_
      refine ar_ild (k := 1) (v := (ar 1)) hx hb hE hP 2 rfl (by unfold vp_in; decide) rfl rfl dX10_tenth_84 ?_
      refine lv_aload_n hx hb dX10_tenth_85 rfl (lv_at hl 3 rfl) ?_
      refine lv_iconst (v := (1 : Int32)) hx hb dX10_tenth_86 (by decide) ?_
      refine ar_ild (k := 1) (v := (ar 1)) hx hb hE hP 2 rfl (by unfold vp_in; decide) rfl rfl dX10_tenth_87 ?_
      refine lv_imul hx hb dX10_tenth_88 ?_
      refine lv_aload_n hx hb dX10_tenth_89 rfl (lv_at hl 2 rfl) ?_
      refine va_get (D := E.1) (ci := 10) (v := .ref (a_mm 5)) (C := RX10) (T := TX10) (N := 27) hx hb hts iX10_tenth_X10 hown hE.1 hP 0 rfl rfl 5 (by decide) (hts (.fieldLink RX10 13 "BandBoatModel" "boat" "[I") (List.mem_of_getElem? (i := 2) rfl)) (fun _ h9 => h9) rfl dX10_tenth_90 ?_
      refine lv_bipush (v := (22 : Int32)) hx hb dX10_tenth_93 (by decide) ?_
      refine ar_ild (k := 22) (v := (bt 22)) hx hb hE hP 1 rfl (by unfold vp_in; decide) rfl rfl dX10_tenth_95 ?_
      refine lv_imul hx hb dX10_tenth_96 ?_
      refine lv_sipush (v := (1000 : Int32)) hx hb dX10_tenth_97 (by decide) ?_
      refine lv_idiv hx hb dX10_tenth_100 (by decide) ?_
      refine lv_aload_n hx hb dX10_tenth_101 rfl (lv_at hl 2 rfl) ?_
      refine lv_iload_n hx hb dX10_tenth_102 rfl (lv_at hl 4 rfl) ?_
      refine lv_aload_n hx hb dX10_tenth_103 rfl (lv_at hl 3 rfl) ?_
      refine lv_iconst (v := (5 : Int32)) hx hb dX10_tenth_104 (by decide) ?_
      refine ar_ild (k := 5) (v := (ar 5)) hx hb hE hP 2 rfl (by unfold vp_in; decide) rfl rfl dX10_tenth_105 ?_
      refine kI (wc := [xModel h_mm a_mm mm, xI E (a_mm 5) 60 bt]) (wr := [xI E h_ar 6 (upd ar 0 v3)]) (wc' := (fun (_ : Unit) => [xModel h_mm a_mm mm, xI E (a_mm 5) 60 bt])) (wn := (fun (_ : Unit) => [xModel h_mm a_mm mm, xI E (a_mm 5) 60 bt, xI E h_ar 6 (upd ar 0 v3)])) (isC := [0, 1]) (isR := [2]) (is2 := [1, 2, 0]) cx hP hD hS ⟨rfl, rfl, by decide, by decide, by decide, by decide, fun _ => rfl⟩ (rV (As := [.int z, .int (ar 5)]) (rest := [.int ((((ar 1) * (ar 1)) * (bt 22)) / (1000 : Int32))]) (C := RX10) (q0 := 0) (ci := 10) cx (c_X10_windAt l E h_mm a_mm mm bt z (ar 5) (hB.2.2.2.2.2) _) (cwV 2 hts gX10_tenth_X10_windAt rfl rfl rfl (by decide +kernel) ⟨Nat.le_of_ble_eq_true rfl, Nat.le_of_ble_eq_true rfl⟩) rfl rfl rfl rfl hl.1 rfl (Nat.le_of_ble_eq_true rfl) dX10_tenth_106 ⟨Nat.zero_le _, Nat.zero_le _⟩) (fun r6 u H locs hw hP hD hS => ?_)
      subst hw
      refine lv_iadd hx hb dX10_tenth_109 ?_
      refine lv_topi (fun v7 ev7 => ?_)
      have hρ : ρ = F_X10_tenth_k110 mm bt ar v3 v5 v7 := by rw [ev7]; exact hρ
      unfold F_X10_tenth_k110 at hρ
      refine lv_istore (lv' := [(5, .int v7), (4, .int v5), (3, .int y0_35), (0, .ref h_mm), (1, .ref h_ar), (2, .int z)]) hx hb dX10_tenth_110 hl (by decide) rfl (fun ls hl => ?_)
      refine lv_aload_n hx hb dX10_tenth_112 rfl (lv_at hl 4 rfl) ?_
      refine lv_iconst (v := (1 : Int32)) hx hb dX10_tenth_113 (by decide) ?_
      refine lv_aload_n hx hb dX10_tenth_114 rfl (lv_at hl 4 rfl) ?_
      refine lv_iconst (v := (1 : Int32)) hx hb dX10_tenth_115 (by decide) ?_
      refine ar_ild (k := 1) (v := (ar 1)) hx hb hE hP 2 rfl (by unfold vp_in; decide) rfl rfl dX10_tenth_116 ?_
      refine lv_iload hx hb dX10_tenth_117 (lv_at hl 1 rfl) ?_
      refine lv_iload hx hb dX10_tenth_119 (lv_at hl 0 rfl) ?_
      refine lv_isub hx hb dX10_tenth_121 ?_
      refine lv_aload_n hx hb dX10_tenth_122 rfl (lv_at hl 3 rfl) ?_
      refine va_get (D := E.1) (ci := 10) (v := .ref (a_mm 5)) (C := RX10) (T := TX10) (N := 27) hx hb hts iX10_tenth_X10 hown hE.1 hP 0 rfl rfl 5 (by decide) (hts (.fieldLink RX10 13 "BandBoatModel" "boat" "[I") (List.mem_of_getElem? (i := 2) rfl)) (fun _ h9 => h9) rfl dX10_tenth_123 ?_
      refine lv_bipush (v := (21 : Int32)) hx hb dX10_tenth_126 (by decide) ?_
      refine ar_ild (k := 21) (v := (bt 21)) hx hb hE hP 1 rfl (by unfold vp_in; decide) rfl rfl dX10_tenth_128 ?_
      refine lv_idiv hx hb dX10_tenth_129 (hB.2.2.2.2.1) ?_
      refine lv_iadd hx hb dX10_tenth_130 ?_
      refine lv_iconst (v := (0 : Int32)) hx hb dX10_tenth_131 (by decide) ?_
      refine lv_sipush (v := (999 : Int32)) hx hb dX10_tenth_132 (by decide) ?_
      refine kI (wc := []) (wr := [xModel h_mm a_mm mm, xI E (a_mm 5) 60 bt, xI E h_ar 6 (upd ar 0 v3)]) (wc' := (fun (_ : Unit) => [])) (wn := (fun (_ : Unit) => [xModel h_mm a_mm mm, xI E (a_mm 5) 60 bt, xI E h_ar 6 (upd ar 0 v3)])) (isC := []) (isR := [0, 1, 2]) (is2 := [0, 1, 2]) cx hP hD hS ⟨rfl, rfl, by decide, by decide, by decide, by decide, fun _ => rfl⟩ (rS (As := [.int ((ar 1) + ((v5 - v7) / (bt 21))), .int (0 : Int32), .int (999 : Int32)]) (rest := [.int (1 : Int32), .ref h_ar]) cx (c_X10_within l E ((ar 1) + ((v5 - v7) / (bt 21))) (0 : Int32) (999 : Int32) _) (va_cwS 3 hts gX10_tenth_X10_within rfl rfl rfl (by decide +kernel) ⟨Nat.le_of_ble_eq_true rfl, Nat.le_of_ble_eq_true rfl⟩) rfl hl.1 rfl (Nat.le_of_ble_eq_true rfl) dX10_tenth_135 ⟨Nat.zero_le _, Nat.zero_le _⟩) (fun r8 u H locs hw hP hD hS => ?_)
      subst hw
      refine lv_topi (fun v9 ev9 => ?_)
      have hρ : ρ = F_X10_tenth_k138 mm bt ar v3 v5 v9 := by rw [ev9]; exact hρ
      unfold F_X10_tenth_k138 at hρ
      refine ar_ist (k := 1) (ws' := [xModel h_mm a_mm mm, xI E (a_mm 5) 60 bt, xI E h_ar 6 (upd (upd ar 0 v3) 1 v9)]) hx hb hE hP hD hS 2 rfl (by unfold vp_in; decide) rfl rfl dX10_tenth_138 (fun H locs hP hD hS => ?_)
      refine lv_aload_n hx hb dX10_tenth_139 rfl (lv_at hl 4 rfl) ?_
      refine lv_iconst (v := (2 : Int32)) hx hb dX10_tenth_140 (by decide) ?_
      refine lv_dup2_11 hx hb dX10_tenth_141 rfl rfl ?_
      refine ar_ild (k := 2) (v := (ar 2)) hx hb hE hP 2 rfl (by unfold vp_in; decide) rfl rfl dX10_tenth_142 ?_
      refine lv_aload_n hx hb dX10_tenth_143 rfl (lv_at hl 4 rfl) ?_
      refine lv_iconst (v := (1 : Int32)) hx hb dX10_tenth_144 (by decide) ?_
      refine ar_ild (k := 1) (v := v9) hx hb hE hP 2 rfl (by unfold vp_in; decide) rfl rfl dX10_tenth_145 ?_
      refine lv_iadd hx hb dX10_tenth_146 ?_
      refine lv_topi (fun v10 ev10 => ?_)
      have hρ : ρ = F_X10_tenth_k147 mm bt ar v3 v5 v9 v10 := by rw [ev10]; exact hρ
      unfold F_X10_tenth_k147 at hρ
      refine ar_ist (k := 2) (ws' := [xModel h_mm a_mm mm, xI E (a_mm 5) 60 bt, xI E h_ar 6 (upd (upd (upd ar 0 v3) 1 v9) 2 v10)]) hx hb hE hP hD hS 2 rfl (by unfold vp_in; decide) rfl rfl dX10_tenth_147 (fun H locs hP hD hS => ?_)
      refine lv_aload_n hx hb dX10_tenth_148 rfl (lv_at hl 4 rfl) ?_
      refine lv_iconst (v := (3 : Int32)) hx hb dX10_tenth_149 (by decide) ?_
      refine lv_aload_n hx hb dX10_tenth_150 rfl (lv_at hl 4 rfl) ?_
      refine lv_iconst (v := (3 : Int32)) hx hb dX10_tenth_151 (by decide) ?_
      refine ar_ild (k := 3) (v := (ar 3)) hx hb hE hP 2 rfl (by unfold vp_in; decide) rfl rfl dX10_tenth_152 ?_
      refine lv_iload hx hb dX10_tenth_153 (lv_at hl 1 rfl) ?_
      refine lv_aload_n hx hb dX10_tenth_155 rfl (lv_at hl 3 rfl) ?_
      refine va_get (D := E.1) (ci := 10) (v := .ref (a_mm 5)) (C := RX10) (T := TX10) (N := 27) hx hb hts iX10_tenth_X10 hown hE.1 hP 0 rfl rfl 5 (by decide) (hts (.fieldLink RX10 13 "BandBoatModel" "boat" "[I") (List.mem_of_getElem? (i := 2) rfl)) (fun _ h9 => h9) rfl dX10_tenth_156 ?_
      refine lv_bipush (v := (23 : Int32)) hx hb dX10_tenth_159 (by decide) ?_
      refine ar_ild (k := 23) (v := (bt 23)) hx hb hE hP 1 rfl (by unfold vp_in; decide) rfl rfl dX10_tenth_161 ?_
      refine lv_imul hx hb dX10_tenth_162 ?_
      refine lv_aload_n hx hb dX10_tenth_163 rfl (lv_at hl 4 rfl) ?_
      refine lv_iconst (v := (1 : Int32)) hx hb dX10_tenth_164 (by decide) ?_
      refine ar_ild (k := 1) (v := v9) hx hb hE hP 2 rfl (by unfold vp_in; decide) rfl rfl dX10_tenth_165 ?_
      refine lv_aload_n hx hb dX10_tenth_166 rfl (lv_at hl 3 rfl) ?_
      refine va_get (D := E.1) (ci := 10) (v := .int (mm 12)) (C := RX10) (T := TX10) (N := 27) hx hb hts iX10_tenth_X10 hown hE.1 hP 0 rfl rfl 12 (by decide) (hts (.fieldLink RX10 107 "BandBoatModel" "rudder" "I") (List.mem_of_getElem? (i := 3) rfl)) (fun _ h9 => h9) rfl dX10_tenth_167 ?_
      refine lv_imul hx hb dX10_tenth_170 ?_
      refine lv_isub hx hb dX10_tenth_171 ?_
      refine lv_bipush (v := (100 : Int32)) hx hb dX10_tenth_172 (by decide) ?_
      refine lv_idiv hx hb dX10_tenth_174 (by decide) ?_
      refine lv_iadd hx hb dX10_tenth_175 ?_
      refine lv_sipush (v := (-9999 : Int32)) hx hb dX10_tenth_176 (by decide) ?_
      refine lv_sipush (v := (9999 : Int32)) hx hb dX10_tenth_179 (by decide) ?_
      refine kI (wc := []) (wr := [xModel h_mm a_mm mm, xI E (a_mm 5) 60 bt, xI E h_ar 6 (upd (upd (upd ar 0 v3) 1 v9) 2 v10)]) (wc' := (fun (_ : Unit) => [])) (wn := (fun (_ : Unit) => [xModel h_mm a_mm mm, xI E (a_mm 5) 60 bt, xI E h_ar 6 (upd (upd (upd ar 0 v3) 1 v9) 2 v10)])) (isC := []) (isR := [0, 1, 2]) (is2 := [0, 1, 2]) cx hP hD hS ⟨rfl, rfl, by decide, by decide, by decide, by decide, fun _ => rfl⟩ (rS (As := [.int ((ar 3) + (((v5 * (bt 23)) - (v9 * (mm 12))) / (100 : Int32))), .int (-9999 : Int32), .int (9999 : Int32)]) (rest := [.int (3 : Int32), .ref h_ar]) cx (c_X10_within l E ((ar 3) + (((v5 * (bt 23)) - (v9 * (mm 12))) / (100 : Int32))) (-9999 : Int32) (9999 : Int32) _) (va_cwS 3 hts gX10_tenth_X10_within rfl rfl rfl (by decide +kernel) ⟨Nat.le_of_ble_eq_true rfl, Nat.le_of_ble_eq_true rfl⟩) rfl hl.1 rfl (Nat.le_of_ble_eq_true rfl) dX10_tenth_182 ⟨Nat.zero_le _, Nat.zero_le _⟩) (fun r11 u H locs hw hP hD hS => ?_)
      subst hw
      refine lv_topi (fun v12 ev12 => ?_)
      have hρ : ρ = F_X10_tenth_k185 ar v3 v9 v10 v12 := by rw [ev12]; exact hρ
      unfold F_X10_tenth_k185 at hρ
      refine ar_ist (k := 3) (ws' := [xModel h_mm a_mm mm, xI E (a_mm 5) 60 bt, xI E h_ar 6 (upd (upd (upd (upd ar 0 v3) 1 v9) 2 v10) 3 v12)]) hx hb hE hP hD hS 2 rfl (by unfold vp_in; decide) rfl rfl dX10_tenth_185 (fun H locs hP hD hS => ?_)
      refine lv_aload_n hx hb dX10_tenth_186 rfl (lv_at hl 4 rfl) ?_
      refine lv_iconst (v := (4 : Int32)) hx hb dX10_tenth_187 (by decide) ?_
      refine lv_aload_n hx hb dX10_tenth_188 rfl (lv_at hl 4 rfl) ?_
      refine lv_iconst (v := (4 : Int32)) hx hb dX10_tenth_189 (by decide) ?_
      refine ar_ild (k := 4) (v := (ar 4)) hx hb hE hP 2 rfl (by unfold vp_in; decide) rfl rfl dX10_tenth_190 ?_
      refine lv_aload_n hx hb dX10_tenth_191 rfl (lv_at hl 4 rfl) ?_
      refine lv_iconst (v := (1 : Int32)) hx hb dX10_tenth_192 (by decide) ?_
      refine ar_ild (k := 1) (v := v9) hx hb hE hP 2 rfl (by unfold vp_in; decide) rfl rfl dX10_tenth_193 ?_
      refine lv_aload_n hx hb dX10_tenth_194 rfl (lv_at hl 4 rfl) ?_
      refine lv_iconst (v := (3 : Int32)) hx hb dX10_tenth_195 (by decide) ?_
      refine ar_ild (k := 3) (v := v12) hx hb hE hP 2 rfl (by unfold vp_in; decide) rfl rfl dX10_tenth_196 ?_
      refine lv_imul hx hb dX10_tenth_197 ?_
      refine lv_sipush (v := (1000 : Int32)) hx hb dX10_tenth_198 (by decide) ?_
      refine lv_idiv hx hb dX10_tenth_201 (by decide) ?_
      refine lv_iadd hx hb dX10_tenth_202 ?_
      refine lv_ldc (own := RX10) (v := (-9999999 : Int32)) hx hb hown (hts (.constant RX10 133 (-9999999)) (List.mem_of_getElem? (i := 4) rfl)) dX10_tenth_203 ?_
      refine lv_ldc (own := RX10) (v := (9999999 : Int32)) hx hb hown (hts (.constant RX10 134 (9999999)) (List.mem_of_getElem? (i := 5) rfl)) dX10_tenth_205 ?_
      refine kI (wc := []) (wr := [xModel h_mm a_mm mm, xI E (a_mm 5) 60 bt, xI E h_ar 6 (upd (upd (upd (upd ar 0 v3) 1 v9) 2 v10) 3 v12)]) (wc' := (fun (_ : Unit) => [])) (wn := (fun (_ : Unit) => [xModel h_mm a_mm mm, xI E (a_mm 5) 60 bt, xI E h_ar 6 (upd (upd (upd (upd ar 0 v3) 1 v9) 2 v10) 3 v12)])) (isC := []) (isR := [0, 1, 2]) (is2 := [0, 1, 2]) cx hP hD hS ⟨rfl, rfl, by decide, by decide, by decide, by decide, fun _ => rfl⟩ (rS (As := [.int ((ar 4) + ((v9 * v12) / (1000 : Int32))), .int (-9999999 : Int32), .int (9999999 : Int32)]) (rest := [.int (4 : Int32), .ref h_ar]) cx (c_X10_within l E ((ar 4) + ((v9 * v12) / (1000 : Int32))) (-9999999 : Int32) (9999999 : Int32) _) (va_cwS 3 hts gX10_tenth_X10_within rfl rfl rfl (by decide +kernel) ⟨Nat.le_of_ble_eq_true rfl, Nat.le_of_ble_eq_true rfl⟩) rfl hl.1 rfl (Nat.le_of_ble_eq_true rfl) dX10_tenth_207 ⟨Nat.zero_le _, Nat.zero_le _⟩) (fun r13 u H locs hw hP hD hS => ?_)
      subst hw
      refine lv_topi (fun v14 ev14 => ?_)
      have hρ : ρ = F_X10_tenth_k210 ar v3 v9 v10 v12 v14 := by rw [ev14]; exact hρ
      unfold F_X10_tenth_k210 at hρ
      refine ar_ist (k := 4) (ws' := [xModel h_mm a_mm mm, xI E (a_mm 5) 60 bt, xI E h_ar 6 (upd (upd (upd (upd (upd ar 0 v3) 1 v9) 2 v10) 3 v12) 4 v14)]) hx hb hE hP hD hS 2 rfl (by unfold vp_in; decide) rfl rfl dX10_tenth_210 (fun H locs hP hD hS => ?_)
      refine lv_aload_n hx hb dX10_tenth_211 rfl (lv_at hl 4 rfl) ?_
      refine lv_iconst (v := (5 : Int32)) hx hb dX10_tenth_212 (by decide) ?_
      refine lv_dup2_11 hx hb dX10_tenth_213 rfl rfl ?_
      refine ar_ild (k := 5) (v := (ar 5)) hx hb hE hP 2 rfl (by unfold vp_in; decide) rfl rfl dX10_tenth_214 ?_
      refine lv_iconst (v := (1 : Int32)) hx hb dX10_tenth_215 (by decide) ?_
      refine lv_iadd hx hb dX10_tenth_216 ?_
      refine lv_topi (fun v15 ev15 => ?_)
      have hρ : ρ = F_X10_tenth_k217 ar v3 v9 v10 v12 v14 v15 := by rw [ev15]; exact hρ
      unfold F_X10_tenth_k217 at hρ
      refine ar_ist (k := 5) (ws' := [xModel h_mm a_mm mm, xI E (a_mm 5) 60 bt, xI E h_ar 6 (upd (upd (upd (upd (upd (upd ar 0 v3) 1 v9) 2 v10) 3 v12) 4 v14) 5 v15)]) hx hb hE hP hD hS 2 rfl (by unfold vp_in; decide) rfl rfl dX10_tenth_217 (fun H locs hP hD hS => ?_)
      exact hq (upd (upd (upd (upd (upd (upd ar 0 v3) 1 v9) 2 v10) 3 v12) 4 v14) 5 v15) _ _ _ _ dX10_tenth_218 ⟨(hρ0.trans hρ), show ((upd (upd (upd (upd (upd (upd ar 0 v3) 1 v9) 2 v10) 3 v12) 4 v14) 5 v15) 5) = (ar 5) + (1 : Int32) from ev15⟩ hP hD hS
    refine lv_if_ge (tgt := 67) hx hb dX10_tenth_60 (by decide) (fun c60 => ?_) (fun c60 => ?_)
    · rw [if_pos c60] at hρ
      refine lv_iload hx hb dX10_tenth_67 (lv_at hl 0 rfl) ?_
      exact hJ69 v4 _ _ _ hρ hP hD hS (lv_sub hl [0, 1, 2, 3, 4] rfl)
    · rw [if_neg c60] at hρ
      refine lv_iconst (v := (0 : Int32)) hx hb dX10_tenth_63 (by decide) ?_
      refine lv_goto (tgt := 69) hx hb dX10_tenth_64 (by decide) ?_
      exact hJ69 (0 : Int32) _ _ _ hρ hP hD hS (lv_sub hl [0, 1, 2, 3, 4] rfl)
  refine lv_icmp_le (tgt := 34) hx hb dX10_tenth_25 (by decide) (fun c25 => ?_) (fun c25 => ?_)
  · rw [if_pos c25] at hρ
    refine lv_iload_n hx hb dX10_tenth_34 rfl (lv_at hl 0 rfl) ?_
    exact hJ35 v2 _ _ _ hρ hP hD hS (lv_sub hl [0, 1, 2, 3] rfl)
  · rw [if_neg c25] at hρ
    refine lv_aload_n hx hb dX10_tenth_28 rfl (lv_at hl 2 rfl) ?_
    refine lv_iconst (v := (0 : Int32)) hx hb dX10_tenth_29 (by decide) ?_
    refine ar_ild (k := 0) (v := (ar 0)) hx hb hE hP 2 rfl (by unfold vp_in; decide) rfl rfl dX10_tenth_30 ?_
    refine lv_goto (tgt := 35) hx hb dX10_tenth_31 (by decide) ?_
    exact hJ35 (ar 0) _ _ _ hρ hP hD hS (lv_sub hl [0, 1, 2, 3] rfl)
