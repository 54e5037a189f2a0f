theorem r3_mul {x : Int32} {m : Int} (h : 0 ≤ x.toInt ∧ x.toInt < m) (hm : m ≤ 6) : ((3 : Int32) * x).toInt = 3 * x.toInt := by
  have h3 : (3 : Int32).toInt = 3 := rfl
  rw [i_mul (by rw [h3]; omega) (by rw [h3]; omega), h3]
theorem r3_in {x : Int32} (h : 0 ≤ x.toInt ∧ x.toInt < 6) : vp_in ((3 : Int32) * x) 18 := by
  have e := r3_mul h (Int.le_refl 6)
  exact inb_i (by omega) (by omega)
theorem r3_inj {x j : Int32} (h : 0 ≤ x.toInt ∧ x.toInt < 6) (hj : 0 ≤ j.toInt ∧ j.toInt ≤ 2) : vp_in (((3 : Int32) * x) + j) 18 := by
  have e := r3_mul h (Int.le_refl 6)
  have e2 := i_add (a := (3 : Int32) * x) (b := j) (by omega) (by omega)
  exact inb_i (by omega) (by omega)
theorem r2_mul {x : Int32} (h : 0 ≤ x.toInt ∧ x.toInt < 4) : ((2 : Int32) * x).toInt = 2 * x.toInt := by
  have h3 : (2 : Int32).toInt = 2 := rfl
  rw [i_mul (by rw [h3]; omega) (by rw [h3]; omega), h3]
theorem r2_in {x : Int32} (h : 0 ≤ x.toInt ∧ x.toInt < 4) : vp_in ((2 : Int32) * x) 8 := by
  have e := r2_mul h
  exact inb_i (by omega) (by omega)
theorem r2_inj {x : Int32} (h : 0 ≤ x.toInt ∧ x.toInt < 4) : vp_in (((2 : Int32) * x) + (1 : Int32)) 8 := by
  have e := r2_mul h
  have e2 := i_add (a := (2 : Int32) * x) (b := (1 : Int32)) (by rw [i_one]; omega) (by rw [i_one]; omega)
  rw [i_one] at e2
  exact inb_i (by omega) (by omega)
theorem ne6 {x : Int32} (h : 0 ≤ x.toInt ∧ x.toInt ≤ 6) (c : ¬ x = (6 : Int32)) : 0 ≤ x.toInt ∧ x.toInt < 6 := by
  have h6 : (6 : Int32).toInt = 6 := rfl
  have : ¬ x.toInt = 6 := fun q => c (Int32.toInt_inj.mp (by omega))
  omega
theorem ne4 {x : Int32} (h : 0 ≤ x.toInt ∧ x.toInt ≤ 4) (c : ¬ x = (4 : Int32)) : 0 ≤ x.toInt ∧ x.toInt < 4 := by
  have h6 : (4 : Int32).toInt = 4 := rfl
  have : ¬ x.toInt = 4 := fun q => c (Int32.toInt_inj.mp (by omega))
  omega
theorem lt_cap {x b : Int32} {m : Int} (h0 : 0 ≤ x.toInt) (c : ¬ b ≤ x) (hb : b.toInt ≤ m) : 0 ≤ x.toInt ∧ x.toInt < m := by
  have := lt_nle c
  omega
theorem w8_in {x : Int32} (h : 0 ≤ x.toInt ∧ x.toInt ≤ 8) : vp_in x 10 := inb_i (by omega) (by omega)
theorem w8_in1 {x : Int32} (h : 0 ≤ x.toInt ∧ x.toInt ≤ 8) : vp_in (x + (1 : Int32)) 10 := by
  have e2 := i_add (a := x) (b := (1 : Int32)) (by rw [i_one]; omega) (by rw [i_one]; omega)
  rw [i_one] at e2
  exact inb_i (by omega) (by omega)
def F_X10_reading_k95 (mm : Nat → Int32) (rd : Nat → Int32) (n : Int32) (up : Int32) (down : Int32) (v4 : Int32) : Int32 × Int32 × Int32 × (Nat → Int32) := (v4, (0 : Int32), v4, (upd (upd (upd rd (Int32.toNatClampNeg ((3 : Int32) * (mm 22))) n) (Int32.toNatClampNeg (((3 : Int32) * (mm 22)) + (1 : Int32))) up) (Int32.toNatClampNeg (((3 : Int32) * (mm 22)) + (2 : Int32))) down))
def F_X10_reading (mm : Nat → Int32) (rd : Nat → Int32) (n : Int32) (up : Int32) (down : Int32) : Int32 × Int32 × Int32 × (Nat → Int32) := (if (F_X10_areTurns n) = (0 : Int32) then ((-1 : Int32), (0 : Int32), (mm 22), rd) else (if (F_X10_in up (0 : Int32) (9999 : Int32)) = (0 : Int32) then ((-1 : Int32), (0 : Int32), (mm 22), rd) else (if (F_X10_in down (0 : Int32) (9999 : Int32)) = (0 : Int32) then ((-1 : Int32), (0 : Int32), (mm 22), rd) else (if (mm 22) = (6 : Int32) then ((-3 : Int32), (0 : Int32), (mm 22), rd) else F_X10_reading_k95 mm rd n up down ((mm 22) + (1 : Int32))))))
theorem iX10_reading_X10 : ∀ w ∈ wsX100, w ∈ wsX10_reading := fun _ h => List.mem_cons_of_mem _ (List.mem_append_right _ h)
set_option maxHeartbeats 4000000 in
set_option maxRecDepth 100000 in
theorem c_X10_reading (l : Launch) (E : wV) (h_mm : Nat) (a_mm : Nat → Nat) (mm : Nat → Int32) (rd : Nat → Int32) (n : Int32) (up : Int32) (down : Int32) (hR : 0 ≤ (mm 22).toInt ∧ (mm 22).toInt ≤ 6) : MetI l yX10_reading wsX10_reading ({ frames := 2, cells := 0, slots := 0, locals := 42 } : Room) E ([.ref h_mm, .int n, .int up, .int down] : List Value) [xModel h_mm a_mm mm, xI E (a_mm 21) 18 rd] (fun (r : Int32) (u : Int32 × Int32 × (Nat → Int32)) => F_X10_reading mm rd n up down = (r, u)) (fun (u : Int32 × Int32 × (Nat → Int32)) => [xModel h_mm a_mm (upd (upd mm 0 u.1) 22 u.2.1), xI E (a_mm 21) 18 u.2.2]) := by
  refine MetI.of (cc := cX10_reading) (maxL := 4) (own := RX10) (by decide) rfl rfl (Nat.le_of_ble_eq_true rfl) ?_
  intro p e s m below meth c A Q ls cx hP hD hS hl hq
  obtain ⟨hx, hb, hml, hown, hts, hE, hA⟩ := id cx
  have hl : lv_has ls 4 [(0, .ref h_mm), (1, .int n), (2, .int up), (3, .int down)] := hl
  have hP : va_P E.1 vwCl [xModel h_mm a_mm mm, xI E (a_mm 21) 18 rd] s.heap := hP
  obtain ⟨ρ, hρ0⟩ : ∃ ρ, F_X10_reading mm rd n up down = ρ := ⟨_, rfl⟩
  have hρ := hρ0.symm
  unfold F_X10_reading at hρ
  refine lv_aload_n hx hb dX10_reading_0 rfl (lv_at hl 0 rfl) ?_
  refine lv_iconst (v := (0 : Int32)) hx hb dX10_reading_1 (by decide) ?_
  refine va_put (D := E.1) (ci := 10) (v := .int (0 : Int32)) (ty := .int) (C := RX10) (T := TX10) (N := 27) hx hb hts iX10_reading_X10 tyX10 tyX10_ok nmX10 hown hE.1 hP hD hS 0 rfl rfl 0 (by decide) (hts (.fieldLink RX10 41 "BandBoatModel" "thrown" "I") (List.mem_of_getElem? (i := 1) rfl)) (fun _ h9 => h9) rfl (by decide +kernel) rfl rfl (Nat.le_of_ble_eq_true rfl) dX10_reading_2 (fun H locs hP hD hS => ?_)
  have hP : va_P E.1 vwCl [xModel h_mm a_mm (upd mm 0 (0 : Int32)), xI E (a_mm 21) 18 rd] H := hP
  have hD : va_D A [xModel h_mm a_mm (upd mm 0 (0 : Int32)), xI E (a_mm 21) 18 rd] := hD
  refine lv_iload_n hx hb dX10_reading_5 rfl (lv_at hl 1 rfl) ?_
  refine kI (wc := []) (wr := [xModel h_mm a_mm (upd mm 0 (0 : Int32)), xI E (a_mm 21) 18 rd]) (wc' := (fun (_ : Unit) => [])) (wn := (fun (_ : Unit) => [xModel h_mm a_mm (upd mm 0 (0 : Int32)), xI E (a_mm 21) 18 rd])) (isC := []) (isR := [0, 1]) (is2 := [0, 1]) cx hP hD hS ⟨rfl, rfl, by decide, by decide, by decide, by decide, fun _ => rfl⟩ (rS (As := [.int n]) (rest := []) cx (c_X10_areTurns l E n _) (va_cwS 1 hts gX10_reading_X10_areTurns rfl rfl rfl (by decide +kernel) ⟨Nat.le_of_ble_eq_true rfl, Nat.le_of_ble_eq_true rfl⟩) rfl hl.1 rfl (Nat.le_of_ble_eq_true rfl) dX10_reading_6 ⟨Nat.zero_le _, Nat.zero_le _⟩) (fun r1 u H locs hw hP hD hS => ?_)
  subst hw
  refine lv_if_eq (tgt := 34) hx hb dX10_reading_9 (by decide) (fun c9 => ?_) (fun c9 => ?_)
  · rw [if_pos c9] at hρ
    refine lv_iconst (v := (-1 : Int32)) hx hb dX10_reading_34 (by decide) ?_
    exact hq (-1 : Int32) ((0 : Int32), (mm 22), rd) _ _ _ _ dX10_reading_35 rfl (hρ0.trans hρ) hP hD hS
  · rw [if_neg c9] at hρ
    refine lv_iload_n hx hb dX10_reading_12 rfl (lv_at hl 2 rfl) ?_
    refine lv_iconst (v := (0 : Int32)) hx hb dX10_reading_13 (by decide) ?_
    refine lv_sipush (v := (9999 : Int32)) hx hb dX10_reading_14 (by decide) ?_
    refine kI (wc := []) (wr := [xModel h_mm a_mm (upd mm 0 (0 : Int32)), xI E (a_mm 21) 18 rd]) (wc' := (fun (_ : Unit) => [])) (wn := (fun (_ : Unit) => [xModel h_mm a_mm (upd mm 0 (0 : Int32)), xI E (a_mm 21) 18 rd])) (isC := []) (isR := [0, 1]) (is2 := [0, 1]) cx hP hD hS ⟨rfl, rfl, by decide, by decide, by decide, by decide, fun _ => rfl⟩ (rS (As := [.int up, .int (0 : Int32), .int (9999 : Int32)]) (rest := []) cx (c_X10_in l E up (0 : Int32) (9999 : Int32) _) (va_cwS 3 hts gX10_reading_X10_in rfl rfl rfl (by decide +kernel) ⟨Nat.le_of_ble_eq_true rfl, Nat.le_of_ble_eq_true rfl⟩) rfl hl.1 rfl (Nat.le_of_ble_eq_true rfl) dX10_reading_17 ⟨Nat.zero_le _, Nat.zero_le _⟩) (fun r2 u H locs hw hP hD hS => ?_)
    subst hw
    refine lv_if_eq (tgt := 34) hx hb dX10_reading_20 (by decide) (fun c20 => ?_) (fun c20 => ?_)
    · rw [if_pos c20] at hρ
      refine lv_iconst (v := (-1 : Int32)) hx hb dX10_reading_34 (by decide) ?_
      exact hq (-1 : Int32) ((0 : Int32), (mm 22), rd) _ _ _ _ dX10_reading_35 rfl (hρ0.trans hρ) hP hD hS
    · rw [if_neg c20] at hρ
      refine lv_iload_n hx hb dX10_reading_23 rfl (lv_at hl 3 rfl) ?_
      refine lv_iconst (v := (0 : Int32)) hx hb dX10_reading_24 (by decide) ?_
      refine lv_sipush (v := (9999 : Int32)) hx hb dX10_reading_25 (by decide) ?_
      refine kI (wc := []) (wr := [xModel h_mm a_mm (upd mm 0 (0 : Int32)), xI E (a_mm 21) 18 rd]) (wc' := (fun (_ : Unit) => [])) (wn := (fun (_ : Unit) => [xModel h_mm a_mm (upd mm 0 (0 : Int32)), xI E (a_mm 21) 18 rd])) (isC := []) (isR := [0, 1]) (is2 := [0, 1]) cx hP hD hS ⟨rfl, rfl, by decide, by decide, by decide, by decide, fun _ => rfl⟩ (rS (As := [.int down, .int (0 : Int32), .int (9999 : Int32)]) (rest := []) cx (c_X10_in l E down (0 : Int32) (9999 : Int32) _) (va_cwS 3 hts gX10_reading_X10_in rfl rfl rfl (by decide +kernel) ⟨Nat.le_of_ble_eq_true rfl, Nat.le_of_ble_eq_true rfl⟩) rfl hl.1 rfl (Nat.le_of_ble_eq_true rfl) dX10_reading_28 ⟨Nat.zero_le _, Nat.zero_le _⟩) (fun r3 u H locs hw hP hD hS => ?_)
      subst hw
      refine lv_if_ne (tgt := 36) hx hb dX10_reading_31 (by decide) (fun c31 => ?_) (fun c31 => ?_)
      · rw [if_neg c31] at hρ
        refine lv_aload_n hx hb dX10_reading_36 rfl (lv_at hl 0 rfl) ?_
        refine va_get (D := E.1) (ci := 10) (v := .int (mm 22)) (C := RX10) (T := TX10) (N := 27) hx hb hts iX10_reading_X10 hown hE.1 hP 0 rfl rfl 22 (by decide) (hts (.fieldLink RX10 80 "BandBoatModel" "readings" "I") (List.mem_of_getElem? (i := 2) rfl)) (fun _ h9 => h9) rfl dX10_reading_37 ?_
        refine lv_bipush (v := (6 : Int32)) hx hb dX10_reading_40 (by decide) ?_
        refine lv_icmp_ne (tgt := 48) hx hb dX10_reading_42 (by decide) (fun c42 => ?_) (fun c42 => ?_)
        · rw [if_neg c42] at hρ
          refine lv_aload_n hx hb dX10_reading_48 rfl (lv_at hl 0 rfl) ?_
          refine va_get (D := E.1) (ci := 10) (v := .ref (a_mm 21)) (C := RX10) (T := TX10) (N := 27) hx hb hts iX10_reading_X10 hown hE.1 hP 0 rfl rfl 21 (by decide) (hts (.fieldLink RX10 25 "BandBoatModel" "reading" "[I") (List.mem_of_getElem? (i := 3) rfl)) (fun _ h9 => h9) rfl dX10_reading_49 ?_
          refine lv_iconst (v := (3 : Int32)) hx hb dX10_reading_52 (by decide) ?_
          refine lv_aload_n hx hb dX10_reading_53 rfl (lv_at hl 0 rfl) ?_
          refine va_get (D := E.1) (ci := 10) (v := .int (mm 22)) (C := RX10) (T := TX10) (N := 27) hx hb hts iX10_reading_X10 hown hE.1 hP 0 rfl rfl 22 (by decide) (hts (.fieldLink RX10 80 "BandBoatModel" "readings" "I") (List.mem_of_getElem? (i := 2) rfl)) (fun _ h9 => h9) rfl dX10_reading_54 ?_
          refine lv_imul hx hb dX10_reading_57 ?_
          refine lv_iload_n hx hb dX10_reading_58 rfl (lv_at hl 1 rfl) ?_
          refine ar_ist (k := (Int32.toNatClampNeg ((3 : Int32) * (mm 22)))) (ws' := [xModel h_mm a_mm (upd mm 0 (0 : Int32)), xI E (a_mm 21) 18 (upd rd (Int32.toNatClampNeg ((3 : Int32) * (mm 22))) n)]) hx hb hE hP hD hS 1 rfl (r3_in (ne6 hR c42)) rfl rfl dX10_reading_59 (fun H locs hP hD hS => ?_)
          refine lv_aload_n hx hb dX10_reading_60 rfl (lv_at hl 0 rfl) ?_
          refine va_get (D := E.1) (ci := 10) (v := .ref (a_mm 21)) (C := RX10) (T := TX10) (N := 27) hx hb hts iX10_reading_X10 hown hE.1 hP 0 rfl rfl 21 (by decide) (hts (.fieldLink RX10 25 "BandBoatModel" "reading" "[I") (List.mem_of_getElem? (i := 3) rfl)) (fun _ h9 => h9) rfl dX10_reading_61 ?_
          refine lv_iconst (v := (3 : Int32)) hx hb dX10_reading_64 (by decide) ?_
          refine lv_aload_n hx hb dX10_reading_65 rfl (lv_at hl 0 rfl) ?_
          refine va_get (D := E.1) (ci := 10) (v := .int (mm 22)) (C := RX10) (T := TX10) (N := 27) hx hb hts iX10_reading_X10 hown hE.1 hP 0 rfl rfl 22 (by decide) (hts (.fieldLink RX10 80 "BandBoatModel" "readings" "I") (List.mem_of_getElem? (i := 2) rfl)) (fun _ h9 => h9) rfl dX10_reading_66 ?_
          refine lv_imul hx hb dX10_reading_69 ?_
          refine lv_iconst (v := (1 : Int32)) hx hb dX10_reading_70 (by decide) ?_
          refine lv_iadd hx hb dX10_reading_71 ?_
          refine lv_iload_n hx hb dX10_reading_72 rfl (lv_at hl 2 rfl) ?_
          refine ar_ist (k := (Int32.toNatClampNeg (((3 : Int32) * (mm 22)) + (1 : Int32)))) (ws' := [xModel h_mm a_mm (upd mm 0 (0 : Int32)), xI E (a_mm 21) 18 (upd (upd rd (Int32.toNatClampNeg ((3 : Int32) * (mm 22))) n) (Int32.toNatClampNeg (((3 : Int32) * (mm 22)) + (1 : Int32))) up)]) hx hb hE hP hD hS 1 rfl (r3_inj (ne6 hR c42) (by decide)) rfl rfl dX10_reading_73 (fun H locs hP hD hS => ?_)
          refine lv_aload_n hx hb dX10_reading_74 rfl (lv_at hl 0 rfl) ?_
          refine va_get (D := E.1) (ci := 10) (v := .ref (a_mm 21)) (C := RX10) (T := TX10) (N := 27) hx hb hts iX10_reading_X10 hown hE.1 hP 0 rfl rfl 21 (by decide) (hts (.fieldLink RX10 25 "BandBoatModel" "reading" "[I") (List.mem_of_getElem? (i := 3) rfl)) (fun _ h9 => h9) rfl dX10_reading_75 ?_
          refine lv_iconst (v := (3 : Int32)) hx hb dX10_reading_78 (by decide) ?_
          refine lv_aload_n hx hb dX10_reading_79 rfl (lv_at hl 0 rfl) ?_
          refine va_get (D := E.1) (ci := 10) (v := .int (mm 22)) (C := RX10) (T := TX10) (N := 27) hx hb hts iX10_reading_X10 hown hE.1 hP 0 rfl rfl 22 (by decide) (hts (.fieldLink RX10 80 "BandBoatModel" "readings" "I") (List.mem_of_getElem? (i := 2) rfl)) (fun _ h9 => h9) rfl dX10_reading_80 ?_
          refine lv_imul hx hb dX10_reading_83 ?_
          refine lv_iconst (v := (2 : Int32)) hx hb dX10_reading_84 (by decide) ?_
          refine lv_iadd hx hb dX10_reading_85 ?_
          refine lv_iload_n hx hb dX10_reading_86 rfl (lv_at hl 3 rfl) ?_
          refine ar_ist (k := (Int32.toNatClampNeg (((3 : Int32) * (mm 22)) + (2 : Int32)))) (ws' := [xModel h_mm a_mm (upd mm 0 (0 : Int32)), xI E (a_mm 21) 18 (upd (upd (upd rd (Int32.toNatClampNeg ((3 : Int32) * (mm 22))) n) (Int32.toNatClampNeg (((3 : Int32) * (mm 22)) + (1 : Int32))) up) (Int32.toNatClampNeg (((3 : Int32) * (mm 22)) + (2 : Int32))) down)]) hx hb hE hP hD hS 1 rfl (r3_inj (ne6 hR c42) (by decide)) rfl rfl dX10_reading_87 (fun H locs hP hD hS => ?_)
          refine lv_aload_n hx hb dX10_reading_88 rfl (lv_at hl 0 rfl) ?_
          refine lv_dup hx hb dX10_reading_89 rfl ?_
          refine va_get (D := E.1) (ci := 10) (v := .int (mm 22)) (C := RX10) (T := TX10) (N := 27) hx hb hts iX10_reading_X10 hown hE.1 hP 0 rfl rfl 22 (by decide) (hts (.fieldLink RX10 80 "BandBoatModel" "readings" "I") (List.mem_of_getElem? (i := 2) rfl)) (fun _ h9 => h9) rfl dX10_reading_90 ?_
          refine lv_iconst (v := (1 : Int32)) hx hb dX10_reading_93 (by decide) ?_
          refine lv_iadd hx hb dX10_reading_94 ?_
          refine lv_topi (fun v4 ev4 => ?_)
          have hρ : ρ = F_X10_reading_k95 mm rd n up down v4 := by rw [ev4]; exact hρ
          unfold F_X10_reading_k95 at hρ
          refine va_put (D := E.1) (ci := 10) (v := .int v4) (ty := .int) (C := RX10) (T := TX10) (N := 27) hx hb hts iX10_reading_X10 tyX10 tyX10_ok nmX10 hown hE.1 hP hD hS 0 rfl rfl 22 (by decide) (hts (.fieldLink RX10 80 "BandBoatModel" "readings" "I") (List.mem_of_getElem? (i := 2) rfl)) (fun _ h9 => h9) rfl (by decide +kernel) rfl rfl (Nat.le_of_ble_eq_true rfl) dX10_reading_95 (fun H locs hP hD hS => ?_)
          have hP : va_P E.1 vwCl [xModel h_mm a_mm (upd (upd mm 0 (0 : Int32)) 22 v4), xI E (a_mm 21) 18 (upd (upd (upd rd (Int32.toNatClampNeg ((3 : Int32) * (mm 22))) n) (Int32.toNatClampNeg (((3 : Int32) * (mm 22)) + (1 : Int32))) up) (Int32.toNatClampNeg (((3 : Int32) * (mm 22)) + (2 : Int32))) down)] H := hP
          have hD : va_D A [xModel h_mm a_mm (upd (upd mm 0 (0 : Int32)) 22 v4), xI E (a_mm 21) 18 (upd (upd (upd rd (Int32.toNatClampNeg ((3 : Int32) * (mm 22))) n) (Int32.toNatClampNeg (((3 : Int32) * (mm 22)) + (1 : Int32))) up) (Int32.toNatClampNeg (((3 : Int32) * (mm 22)) + (2 : Int32))) down)] := hD
          refine lv_aload_n hx hb dX10_reading_98 rfl (lv_at hl 0 rfl) ?_
          refine va_get (D := E.1) (ci := 10) (v := .int v4) (C := RX10) (T := TX10) (N := 27) hx hb hts iX10_reading_X10 hown hE.1 hP 0 rfl rfl 22 (by decide) (hts (.fieldLink RX10 80 "BandBoatModel" "readings" "I") (List.mem_of_getElem? (i := 2) rfl)) (fun _ h9 => h9) rfl dX10_reading_99 ?_
          exact hq v4 ((0 : Int32), v4, (upd (upd (upd rd (Int32.toNatClampNeg ((3 : Int32) * (mm 22))) n) (Int32.toNatClampNeg (((3 : Int32) * (mm 22)) + (1 : Int32))) up) (Int32.toNatClampNeg (((3 : Int32) * (mm 22)) + (2 : Int32))) down)) _ _ _ _ dX10_reading_102 rfl (hρ0.trans hρ) hP hD hS
        · rw [if_pos c42] at hρ
          refine lv_bipush (v := (-3 : Int32)) hx hb dX10_reading_45 (by decide) ?_
          exact hq (-3 : Int32) ((0 : Int32), (mm 22), rd) _ _ _ _ dX10_reading_47 rfl (hρ0.trans hρ) hP hD hS
      · rw [if_pos c31] at hρ
        refine lv_iconst (v := (-1 : Int32)) hx hb dX10_reading_34 (by decide) ?_
        exact hq (-1 : Int32) ((0 : Int32), (mm 22), rd) _ _ _ _ dX10_reading_35 rfl (hρ0.trans hρ) hP hD hS
def F_X10_isNear (v : Int32) (to : Int32) (e_ : Int32) : Int32 := (if e_ < (v - to) then (0 : Int32) else (if e_ < (to - v) then (0 : Int32) else (1 : Int32)))
set_option maxHeartbeats 4000000 in
set_option maxRecDepth 100000 in
theorem c_X10_isNear (l : Launch) (E : wV) (v : Int32) (to : Int32) (e_ : Int32) : MetI l yX10_isNear wsX10_isNear ({ frames := 0, cells := 0, slots := 0, locals := 0 } : Room) E ([.int v, .int to, .int e_] : List Value) [] (fun (r : Int32) (_ : Unit) => r = F_X10_isNear v to e_) (fun (_ : Unit) => []) := by
  refine MetI.of (cc := cX10_isNear) (maxL := 3) (own := RX10) (by decide) rfl rfl (Nat.le_of_ble_eq_true rfl) ?_
  intro p e s m below meth c A Q ls cx hP hD hS hl hq
  obtain ⟨hx, hb, hml, hown, hts, hE, hA⟩ := id cx
  have hl : lv_has ls 3 [(0, .int v), (1, .int to), (2, .int e_)] := hl
  have hP : va_P E.1 vwCl [] s.heap := hP
  obtain ⟨ρ, hρ0⟩ : ∃ ρ, F_X10_isNear v to e_ = ρ := ⟨_, rfl⟩
  have hρ := hρ0.symm
  unfold F_X10_isNear at hρ
  refine lv_iload_n hx hb dX10_isNear_0 rfl (lv_at hl 0 rfl) ?_
  refine lv_iload_n hx hb dX10_isNear_1 rfl (lv_at hl 1 rfl) ?_
  refine lv_isub hx hb dX10_isNear_2 ?_
  refine lv_iload_n hx hb dX10_isNear_3 rfl (lv_at hl 2 rfl) ?_
  refine lv_icmp_gt (tgt := 18) hx hb dX10_isNear_4 (by decide) (fun c4 => ?_) (fun c4 => ?_)
  · rw [if_pos c4] at hρ
    refine lv_iconst (v := (0 : Int32)) hx hb dX10_isNear_18 (by decide) ?_
    exact hq (0 : Int32) () _ _ _ _ dX10_isNear_19 rfl (hρ0.trans hρ).symm hP hD hS
  · rw [if_neg c4] at hρ
    refine lv_iload_n hx hb dX10_isNear_7 rfl (lv_at hl 1 rfl) ?_
    refine lv_iload_n hx hb dX10_isNear_8 rfl (lv_at hl 0 rfl) ?_
    refine lv_isub hx hb dX10_isNear_9 ?_
    refine lv_iload_n hx hb dX10_isNear_10 rfl (lv_at hl 2 rfl) ?_
    refine lv_icmp_gt (tgt := 18) hx hb dX10_isNear_11 (by decide) (fun c11 => ?_) (fun c11 => ?_)
    · rw [if_pos c11] at hρ
      refine lv_iconst (v := (0 : Int32)) hx hb dX10_isNear_18 (by decide) ?_
      exact hq (0 : Int32) () _ _ _ _ dX10_isNear_19 rfl (hρ0.trans hρ).symm hP hD hS
    · rw [if_neg c11] at hρ
      refine lv_iconst (v := (1 : Int32)) hx hb dX10_isNear_14 (by decide) ?_
      refine lv_goto (tgt := 19) hx hb dX10_isNear_15 (by decide) ?_
      exact hq (1 : Int32) () _ _ _ _ dX10_isNear_19 rfl (hρ0.trans hρ).symm hP hD hS
def F_X10_fitsAll_x2  : Int32 := (1 : Int32)
def F_X10_fitsAll_k21 (mm : Nat → Int32) (bt : Nat → Int32) (rd : Nat → Int32) (e_ : Int32) (x2_2 : Int32) (v1 : Int32) : (Int32) ⊕ (Int32) := (if (F_X10_isNear (F_X10_woundPull mm bt v1) (rd (Int32.toNatClampNeg (((3 : Int32) * x2_2) + (1 : Int32)))) e_) = (0 : Int32) then Sum.inr (0 : Int32) else (if (F_X10_isNear (F_X10_freePull mm bt v1) (rd (Int32.toNatClampNeg (((3 : Int32) * x2_2) + (2 : Int32)))) e_) = (0 : Int32) then Sum.inr (0 : Int32) else Sum.inl (x2_2 + (1 : Int32))))
def F_X10_fitsAll_b2 (mm : Nat → Int32) (bt : Nat → Int32) (rd : Nat → Int32) (e_ : Int32) (x2_2 : Int32) : (Int32) ⊕ (Int32) := (if (mm 22) ≤ x2_2 then Sum.inr (F_X10_fitsAll_x2) else F_X10_fitsAll_k21 mm bt rd e_ x2_2 ((100 : Int32) * (rd (Int32.toNatClampNeg ((3 : Int32) * x2_2)))))
def F_X10_fitsAll_l2 (mm : Nat → Int32) (bt : Nat → Int32) (rd : Nat → Int32) (e_ : Int32) : Nat → (Int32) → Int32
  | 0, x2_2 => F_X10_fitsAll_x2
  | n_2 + 1, x2_2 => match F_X10_fitsAll_b2 mm bt rd e_ x2_2 with
    | Sum.inl c_x2_2 => F_X10_fitsAll_l2 mm bt rd e_ n_2 c_x2_2
    | Sum.inr r_ => r_
def F_X10_fitsAll (mm : Nat → Int32) (bt : Nat → Int32) (rd : Nat → Int32) (e_ : Int32) : Int32 := F_X10_fitsAll_l2 mm bt rd e_ (6) (0 : Int32)
theorem iX10_fitsAll_X10 : ∀ w ∈ wsX100, w ∈ wsX10_fitsAll := fun _ h => List.mem_cons_of_mem _ (List.mem_append_right _ h)
set_option maxHeartbeats 4000000 in
set_option maxRecDepth 100000 in
theorem c_X10_fitsAll (l : Launch) (E : wV) (h_mm : Nat) (a_mm : Nat → Nat) (mm : Nat → Int32) (bt : Nat → Int32) (rd : Nat → Int32) (e_ : Int32) (hQ : mmOK mm) (hR : 0 ≤ (mm 22).toInt ∧ (mm 22).toInt ≤ 6) : MetI l yX10_fitsAll wsX10_fitsAll ({ frames := 2, cells := 0, slots := 0, locals := 44 } : Room) E ([.ref h_mm, .int e_] : List Value) [xModel h_mm a_mm mm, xI E (a_mm 5) 60 bt, xI E (a_mm 21) 18 rd] (fun (r : Int32) (_ : Unit) => r = F_X10_fitsAll mm bt rd e_) (fun (_ : Unit) => [xModel h_mm a_mm mm, xI E (a_mm 5) 60 bt, xI E (a_mm 21) 18 rd]) := by
  refine MetI.of (cc := cX10_fitsAll) (maxL := 4) (own := RX10) (by decide) rfl rfl (Nat.le_of_ble_eq_true rfl) ?_
  intro p e s m below meth c A Q ls cx hP hD hS hl hq
  obtain ⟨hx, hb, hml, hown, hts, hE, hA⟩ := id cx
  have hl : lv_has ls 4 [(0, .ref h_mm), (1, .int e_)] := hl
  have hP : va_P E.1 vwCl [xModel h_mm a_mm mm, xI E (a_mm 5) 60 bt, xI E (a_mm 21) 18 rd] s.heap := hP
  obtain ⟨ρ, hρ0⟩ : ∃ ρ, F_X10_fitsAll mm bt rd e_ = ρ := ⟨_, rfl⟩
  have hρ := hρ0.symm
  unfold F_X10_fitsAll at hρ
  refine lv_iconst (v := (0 : Int32)) hx hb dX10_fitsAll_0 (by decide) ?_
  refine lv_istore_n (lv' := [(2, .int (0 : Int32)), (0, .ref h_mm), (1, .int e_)]) hx hb dX10_fitsAll_1 rfl hl (by decide) rfl (fun ls hl => ?_)
  have hX2 : ∀ (x2_2 : Int32) (H : Heap) (locs : List Loc) (ls : Array Slot), ρ = F_X10_fitsAll_x2 → va_P E.1 vwCl [xModel h_mm a_mm mm, xI E (a_mm 5) 60 bt, xI E (a_mm 21) 18 rd] H → va_D A [xModel h_mm a_mm mm, xI E (a_mm 5) 60 bt, xI E (a_mm 21) 18 rd] → va_S A s.heap H locs → lv_has ls 4 [(2, .int x2_2), (0, .ref h_mm), (1, .int e_)] → W p l e ({ frames := 2, cells := 0, slots := 0, locals := 44 } : Room) s m ([.ref h_mm, .int e_] : List Value).toArray below meth c H locs 0 0 Q (F0 m 74 ls []) := by
    intro x2_2 H locs ls hρ hP hD hS hl
    unfold F_X10_fitsAll_x2 at hρ
    refine lv_iconst (v := (1 : Int32)) hx hb dX10_fitsAll_74 (by decide) ?_
    exact hq (1 : Int32) () _ _ _ _ dX10_fitsAll_75 rfl (hρ0.trans hρ).symm hP hD hS
  have hL2 : ∀ (n_2 : Nat) (x2_2 : Int32) (H : Heap) (locs : List Loc) (ls : Array Slot), (((mm 22) : Int32).toInt ≤ (x2_2).toInt + (n_2 : Nat)) ∧ (0 ≤ (x2_2).toInt) → ρ = F_X10_fitsAll_l2 mm bt rd e_ n_2 x2_2 → va_P E.1 vwCl [xModel h_mm a_mm mm, xI E (a_mm 5) 60 bt, xI E (a_mm 21) 18 rd] H → va_D A [xModel h_mm a_mm mm, xI E (a_mm 5) 60 bt, xI E (a_mm 21) 18 rd] → va_S A s.heap H locs → lv_has ls 4 [(2, .int x2_2), (0, .ref h_mm), (1, .int e_)] → W p l e ({ frames := 2, cells := 0, slots := 0, locals := 44 } : Room) s m ([.ref h_mm, .int e_] : List Value).toArray below meth c H locs 0 0 Q (F0 m 2 ls []) := by
    intro n_2
    induction n_2 with
    | zero =>
      intro x2_2 H locs ls hM hρ hP hD hS hl
      have hM2 := hM
      rw [F_X10_fitsAll_l2] at hρ
      refine lv_iload_n hx hb dX10_fitsAll_2 rfl (lv_at hl 0 rfl) ?_
      refine lv_aload_n hx hb dX10_fitsAll_3 rfl (lv_at hl 1 rfl) ?_
      refine va_get (D := E.1) (ci := 10) (v := .int (mm 22)) (C := RX10) (T := TX10) (N := 27) hx hb hts iX10_fitsAll_X10 hown hE.1 hP 0 rfl rfl 22 (by decide) (hts (.fieldLink RX10 80 "BandBoatModel" "readings" "I") (List.mem_of_getElem? (i := 1) rfl)) (fun _ h9 => h9) rfl dX10_fitsAll_4 ?_
      refine lv_icmp_ge (tgt := 74) hx hb dX10_fitsAll_7 (by decide) (fun c7 => ?_) (fun c7 => ?_)
      · exact hX2 x2_2 _ _ _ hρ hP hD hS (lv_sub hl [0, 1, 2] rfl)
      · exact (cnt_lt0 c7 hM.1).elim
    | succ n_2 ih =>
      intro x2_2 H locs ls hM hρ hP hD hS hl
      have hM2 := hM
      rw [F_X10_fitsAll_l2] at hρ
      obtain ⟨τ2, hτ02⟩ : ∃ τ, F_X10_fitsAll_b2 mm bt rd e_ x2_2 = τ := ⟨_, rfl⟩
      rw [hτ02] at hρ
      have hτ2 := hτ02.symm
      unfold F_X10_fitsAll_b2 at hτ2
      refine lv_iload_n hx hb dX10_fitsAll_2 rfl (lv_at hl 0 rfl) ?_
      refine lv_aload_n hx hb dX10_fitsAll_3 rfl (lv_at hl 1 rfl) ?_
      refine va_get (D := E.1) (ci := 10) (v := .int (mm 22)) (C := RX10) (T := TX10) (N := 27) hx hb hts iX10_fitsAll_X10 hown hE.1 hP 0 rfl rfl 22 (by decide) (hts (.fieldLink RX10 80 "BandBoatModel" "readings" "I") (List.mem_of_getElem? (i := 1) rfl)) (fun _ h9 => h9) rfl dX10_fitsAll_4 ?_
      refine lv_icmp_ge (tgt := 74) hx hb dX10_fitsAll_7 (by decide) (fun c7 => ?_) (fun c7 => ?_)
      · rw [if_pos c7] at hτ2
        have hρ : ρ = F_X10_fitsAll_x2 := by subst hτ2; exact hρ
        exact hX2 x2_2 _ _ _ hρ hP hD hS (lv_sub hl [0, 1, 2] rfl)
      · rw [if_neg c7] at hτ2
        refine lv_bipush (v := (100 : Int32)) hx hb dX10_fitsAll_10 (by decide) ?_
        refine lv_aload_n hx hb dX10_fitsAll_12 rfl (lv_at hl 1 rfl) ?_
        refine va_get (D := E.1) (ci := 10) (v := .ref (a_mm 21)) (C := RX10) (T := TX10) (N := 27) hx hb hts iX10_fitsAll_X10 hown hE.1 hP 0 rfl rfl 21 (by decide) (hts (.fieldLink RX10 25 "BandBoatModel" "reading" "[I") (List.mem_of_getElem? (i := 2) rfl)) (fun _ h9 => h9) rfl dX10_fitsAll_13 ?_
        refine lv_iconst (v := (3 : Int32)) hx hb dX10_fitsAll_16 (by decide) ?_
        refine lv_iload_n hx hb dX10_fitsAll_17 rfl (lv_at hl 0 rfl) ?_
        refine lv_imul hx hb dX10_fitsAll_18 ?_
        refine ar_ild (k := (Int32.toNatClampNeg ((3 : Int32) * x2_2))) (v := (rd (Int32.toNatClampNeg ((3 : Int32) * x2_2)))) hx hb hE hP 2 rfl (r3_in (lt_cap hM.2 c7 hR.2)) rfl rfl dX10_fitsAll_19 ?_
        refine lv_imul hx hb dX10_fitsAll_20 ?_
        refine lv_topi (fun v1 ev1 => ?_)
        have hτ2 : τ2 = F_X10_fitsAll_k21 mm bt rd e_ x2_2 v1 := by rw [ev1]; exact hτ2
        unfold F_X10_fitsAll_k21 at hτ2
        refine lv_istore_n (lv' := [(3, .int v1), (2, .int x2_2), (0, .ref h_mm), (1, .int e_)]) hx hb dX10_fitsAll_21 rfl hl (by decide) rfl (fun ls hl => ?_)
        refine lv_aload_n hx hb dX10_fitsAll_22 rfl (lv_at hl 2 rfl) ?_
        refine lv_iload_n hx hb dX10_fitsAll_23 rfl (lv_at hl 0 rfl) ?_
        refine kI (wc := [xModel h_mm a_mm mm, xI E (a_mm 5) 60 bt]) (wr := [xI E (a_mm 21) 18 rd]) (wc' := (fun (_ : Unit) => [xModel h_mm a_mm mm, xI E (a_mm 5) 60 bt])) (wn := (fun (_ : Unit) => [xModel h_mm a_mm mm, xI E (a_mm 5) 60 bt, xI E (a_mm 21) 18 rd])) (isC := [0, 1]) (isR := [2]) (is2 := [1, 2, 0]) cx hP hD hS ⟨rfl, rfl, by decide, by decide, by decide, by decide, fun _ => rfl⟩ (rV (As := [.int v1]) (rest := []) (C := RX10) (q0 := 0) (ci := 10) cx (c_X10_woundPull l E h_mm a_mm mm bt v1 (hQ) _) (cwV 1 hts gX10_fitsAll_X10_woundPull rfl rfl rfl (by decide +kernel) ⟨Nat.le_of_ble_eq_true rfl, Nat.le_of_ble_eq_true rfl⟩) rfl rfl rfl rfl hl.1 rfl (Nat.le_of_ble_eq_true rfl) dX10_fitsAll_24 ⟨Nat.zero_le _, Nat.zero_le _⟩) (fun r2 u H locs hw hP hD hS => ?_)
        subst hw
        refine lv_aload_n hx hb dX10_fitsAll_27 rfl (lv_at hl 2 rfl) ?_
        refine va_get (D := E.1) (ci := 10) (v := .ref (a_mm 21)) (C := RX10) (T := TX10) (N := 27) hx hb hts iX10_fitsAll_X10 hown hE.1 hP 0 rfl rfl 21 (by decide) (hts (.fieldLink RX10 25 "BandBoatModel" "reading" "[I") (List.mem_of_getElem? (i := 2) rfl)) (fun _ h9 => h9) rfl dX10_fitsAll_28 ?_
        refine lv_iconst (v := (3 : Int32)) hx hb dX10_fitsAll_31 (by decide) ?_
        refine lv_iload_n hx hb dX10_fitsAll_32 rfl (lv_at hl 1 rfl) ?_
        refine lv_imul hx hb dX10_fitsAll_33 ?_
        refine lv_iconst (v := (1 : Int32)) hx hb dX10_fitsAll_34 (by decide) ?_
        refine lv_iadd hx hb dX10_fitsAll_35 ?_
        refine ar_ild (k := (Int32.toNatClampNeg (((3 : Int32) * x2_2) + (1 : Int32)))) (v := (rd (Int32.toNatClampNeg (((3 : Int32) * x2_2) + (1 : Int32))))) hx hb hE hP 2 rfl (r3_inj (lt_cap hM.2 c7 hR.2) (by decide)) rfl rfl dX10_fitsAll_36 ?_
        refine lv_iload_n hx hb dX10_fitsAll_37 rfl (lv_at hl 3 rfl) ?_
        refine kI (wc := []) (wr := [xModel h_mm a_mm mm, xI E (a_mm 5) 60 bt, xI E (a_mm 21) 18 rd]) (wc' := (fun (_ : Unit) => [])) (wn := (fun (_ : Unit) => [xModel h_mm a_mm mm, xI E (a_mm 5) 60 bt, xI E (a_mm 21) 18 rd])) (isC := []) (isR := [0, 1, 2]) (is2 := [0, 1, 2]) cx hP hD hS ⟨rfl, rfl, by decide, by decide, by decide, by decide, fun _ => rfl⟩ (rS (As := [.int (F_X10_woundPull mm bt v1), .int (rd (Int32.toNatClampNeg (((3 : Int32) * x2_2) + (1 : Int32)))), .int e_]) (rest := []) cx (c_X10_isNear l E (F_X10_woundPull mm bt v1) (rd (Int32.toNatClampNeg (((3 : Int32) * x2_2) + (1 : Int32)))) e_ _) (va_cwS 3 hts gX10_fitsAll_X10_isNear rfl rfl rfl (by decide +kernel) ⟨Nat.le_of_ble_eq_true rfl, Nat.le_of_ble_eq_true rfl⟩) rfl hl.1 rfl (Nat.le_of_ble_eq_true rfl) dX10_fitsAll_38 ⟨Nat.zero_le _, Nat.zero_le _⟩) (fun r3 u H locs hw hP hD hS => ?_)
        subst hw
        refine lv_if_eq (tgt := 66) hx hb dX10_fitsAll_41 (by decide) (fun c41 => ?_) (fun c41 => ?_)
        · rw [if_pos c41] at hτ2
          refine lv_iconst (v := (0 : Int32)) hx hb dX10_fitsAll_66 (by decide) ?_
          have hρ : ρ = (0 : Int32) := by subst hτ2; exact hρ
          exact hq (0 : Int32) () _ _ _ _ dX10_fitsAll_67 rfl (hρ0.trans hρ).symm hP hD hS
        · rw [if_neg c41] at hτ2
          refine lv_aload_n hx hb dX10_fitsAll_44 rfl (lv_at hl 2 rfl) ?_
          refine lv_iload_n hx hb dX10_fitsAll_45 rfl (lv_at hl 0 rfl) ?_
          refine kI (wc := [xModel h_mm a_mm mm, xI E (a_mm 5) 60 bt]) (wr := [xI E (a_mm 21) 18 rd]) (wc' := (fun (_ : Unit) => [xModel h_mm a_mm mm, xI E (a_mm 5) 60 bt])) (wn := (fun (_ : Unit) => [xModel h_mm a_mm mm, xI E (a_mm 5) 60 bt, xI E (a_mm 21) 18 rd])) (isC := [0, 1]) (isR := [2]) (is2 := [1, 2, 0]) cx hP hD hS ⟨rfl, rfl, by decide, by decide, by decide, by decide, fun _ => rfl⟩ (rV (As := [.int v1]) (rest := []) (C := RX10) (q0 := 0) (ci := 10) cx (c_X10_freePull l E h_mm a_mm mm bt v1 (hQ) _) (cwV 1 hts gX10_fitsAll_X10_freePull rfl rfl rfl (by decide +kernel) ⟨Nat.le_of_ble_eq_true rfl, Nat.le_of_ble_eq_true rfl⟩) rfl rfl rfl rfl hl.1 rfl (Nat.le_of_ble_eq_true rfl) dX10_fitsAll_46 ⟨Nat.zero_le _, Nat.zero_le _⟩) (fun r4 u H locs hw hP hD hS => ?_)
          subst hw
          refine lv_aload_n hx hb dX10_fitsAll_49 rfl (lv_at hl 2 rfl) ?_
          refine va_get (D := E.1) (ci := 10) (v := .ref (a_mm 21)) (C := RX10) (T := TX10) (N := 27) hx hb hts iX10_fitsAll_X10 hown hE.1 hP 0 rfl rfl 21 (by decide) (hts (.fieldLink RX10 25 "BandBoatModel" "reading" "[I") (List.mem_of_getElem? (i := 2) rfl)) (fun _ h9 => h9) rfl dX10_fitsAll_50 ?_
          refine lv_iconst (v := (3 : Int32)) hx hb dX10_fitsAll_53 (by decide) ?_
          refine lv_iload_n hx hb dX10_fitsAll_54 rfl (lv_at hl 1 rfl) ?_
          refine lv_imul hx hb dX10_fitsAll_55 ?_
          refine lv_iconst (v := (2 : Int32)) hx hb dX10_fitsAll_56 (by decide) ?_
          refine lv_iadd hx hb dX10_fitsAll_57 ?_
          refine ar_ild (k := (Int32.toNatClampNeg (((3 : Int32) * x2_2) + (2 : Int32)))) (v := (rd (Int32.toNatClampNeg (((3 : Int32) * x2_2) + (2 : Int32))))) hx hb hE hP 2 rfl (r3_inj (lt_cap hM.2 c7 hR.2) (by decide)) rfl rfl dX10_fitsAll_58 ?_
          refine lv_iload_n hx hb dX10_fitsAll_59 rfl (lv_at hl 3 rfl) ?_
          refine kI (wc := []) (wr := [xModel h_mm a_mm mm, xI E (a_mm 5) 60 bt, xI E (a_mm 21) 18 rd]) (wc' := (fun (_ : Unit) => [])) (wn := (fun (_ : Unit) => [xModel h_mm a_mm mm, xI E (a_mm 5) 60 bt, xI E (a_mm 21) 18 rd])) (isC := []) (isR := [0, 1, 2]) (is2 := [0, 1, 2]) cx hP hD hS ⟨rfl, rfl, by decide, by decide, by decide, by decide, fun _ => rfl⟩ (rS (As := [.int (F_X10_freePull mm bt v1), .int (rd (Int32.toNatClampNeg (((3 : Int32) * x2_2) + (2 : Int32)))), .int e_]) (rest := []) cx (c_X10_isNear l E (F_X10_freePull mm bt v1) (rd (Int32.toNatClampNeg (((3 : Int32) * x2_2) + (2 : Int32)))) e_ _) (va_cwS 3 hts gX10_fitsAll_X10_isNear rfl rfl rfl (by decide +kernel) ⟨Nat.le_of_ble_eq_true rfl, Nat.le_of_ble_eq_true rfl⟩) rfl hl.1 rfl (Nat.le_of_ble_eq_true rfl) dX10_fitsAll_60 ⟨Nat.zero_le _, Nat.zero_le _⟩) (fun r5 u H locs hw hP hD hS => ?_)
          subst hw
          refine lv_if_ne (tgt := 68) hx hb dX10_fitsAll_63 (by decide) (fun c63 => ?_) (fun c63 => ?_)
          · rw [if_neg c63] at hτ2
            refine lv_iinc (v := (x2_2 + (1 : Int32))) (lv' := [(2, .int (x2_2 + (1 : Int32))), (3, .int v1), (0, .ref h_mm), (1, .int e_)]) hx hb dX10_fitsAll_68 hl (k := 1) rfl rfl (by decide) rfl (fun ls hl => ?_)
            refine lv_goto (tgt := 2) hx hb dX10_fitsAll_71 (by decide) ?_
            have hρ : ρ = F_X10_fitsAll_l2 mm bt rd e_ n_2 (x2_2 + (1 : Int32)) := by subst hτ2; exact hρ
            exact ih (x2_2 + (1 : Int32)) _ _ _ ⟨cnt_lt c7 hM.1, cnt_lt_pos c7 hM.2⟩ hρ hP hD hS (lv_sub hl [0, 2, 3] rfl)
          · rw [if_pos c63] at hτ2
            refine lv_iconst (v := (0 : Int32)) hx hb dX10_fitsAll_66 (by decide) ?_
            have hρ : ρ = (0 : Int32) := by subst hτ2; exact hρ
            exact hq (0 : Int32) () _ _ _ _ dX10_fitsAll_67 rfl (hρ0.trans hρ).symm hP hD hS
  exact hL2 (6) (0 : Int32) _ _ _ (⟨by show _ ≤ (0 : Int) + _; exact Int.le_trans hR.2 (by decide), by decide⟩) hρ hP hD hS (lv_sub hl [0, 1, 2] rfl)
def F_X10_widens_j63 (an : Nat → Int32) (from_ : Int32) (v : Int32) (y0_34 : Int32) : (Nat → Int32) := (upd (upd an (Int32.toNatClampNeg from_) y0_34) (Int32.toNatClampNeg (from_ + (1 : Int32))) v)
def F_X10_widens_k75 (an : Nat → Int32) (from_ : Int32) (y0_34 : Int32) (v1 : Int32) : (Nat → Int32) := (upd (upd an (Int32.toNatClampNeg from_) y0_34) (Int32.toNatClampNeg (from_ + (1 : Int32))) v1)
def F_X10_widens_j34 (an : Nat → Int32) (from_ : Int32) (v : Int32) (y0_34 : Int32) : (Nat → Int32) := (if ((upd an (Int32.toNatClampNeg from_) y0_34) 0) = (0 : Int32) then F_X10_widens_j63 an from_ v y0_34 else (if v ≤ ((upd an (Int32.toNatClampNeg from_) y0_34) (Int32.toNatClampNeg (from_ + (1 : Int32)))) then F_X10_widens_k75 an from_ y0_34 ((upd an (Int32.toNatClampNeg from_) y0_34) (Int32.toNatClampNeg (from_ + (1 : Int32)))) else F_X10_widens_j63 an from_ v y0_34))
def F_X10_widens_j24 (an : Nat → Int32) (from_ : Int32) (v : Int32) : (Nat → Int32) := F_X10_widens_j34 an from_ v v
def F_X10_widens (an : Nat → Int32) (from_ : Int32) (v : Int32) : (Nat → Int32) := (if (an 0) = (0 : Int32) then F_X10_widens_j24 an from_ v else (if (an (Int32.toNatClampNeg from_)) ≤ v then F_X10_widens_j34 an from_ v (an (Int32.toNatClampNeg from_)) else F_X10_widens_j24 an from_ v))
theorem iX10_widens_X10 : ∀ w ∈ wsX100, w ∈ wsX10_widens := fun _ h => List.mem_cons_of_mem _ (List.mem_append_right _ h)
set_option maxHeartbeats 4000000 in
set_option maxRecDepth 100000 in
theorem c_X10_widens (l : Launch) (E : wV) (h_mm : Nat) (a_mm : Nat → Nat) (mm : Nat → Int32) (an : Nat → Int32) (from_ : Int32) (v : Int32) (hf : 0 ≤ from_.toInt ∧ from_.toInt ≤ 8) : MetV l yX10_widens wsX10_widens ({ frames := 0, cells := 0, slots := 0, locals := 0 } : Room) E ([.ref h_mm, .int from_, .int v] : List Value) [xModel h_mm a_mm mm, xI E (a_mm 26) 10 an] (fun (u : (Nat → Int32)) => F_X10_widens an from_ v = u) (fun (u : (Nat → Int32)) => [xModel h_mm a_mm mm, xI E (a_mm 26) 10 u]) := by
  refine MetV.of (cc := cX10_widens) (maxL := 3) (own := RX10) (by decide) rfl rfl (Nat.le_of_ble_eq_true rfl) ?_
  intro p e s m below meth c A Q ls cx hP hD hS hl hq
  obtain ⟨hx, hb, hml, hown, hts, hE, hA⟩ := id cx
  have hl : lv_has ls 3 [(0, .ref h_mm), (1, .int from_), (2, .int v)] := hl
  have hP : va_P E.1 vwCl [xModel h_mm a_mm mm, xI E (a_mm 26) 10 an] s.heap := hP
  obtain ⟨ρ, hρ0⟩ : ∃ ρ, F_X10_widens an from_ v = ρ := ⟨_, rfl⟩
  have hρ := hρ0.symm
  unfold F_X10_widens at hρ
  refine lv_aload_n hx hb dX10_widens_0 rfl (lv_at hl 0 rfl) ?_
  refine va_get (D := E.1) (ci := 10) (v := .ref (a_mm 26)) (C := RX10) (T := TX10) (N := 27) hx hb hts iX10_widens_X10 hown hE.1 hP 0 rfl rfl 26 (by decide) (hts (.fieldLink RX10 34 "BandBoatModel" "answer" "[I") (List.mem_of_getElem? (i := 1) rfl)) (fun _ h9 => h9) rfl dX10_widens_1 ?_
  refine lv_iload_n hx hb dX10_widens_4 rfl (lv_at hl 1 rfl) ?_
  refine lv_aload_n hx hb dX10_widens_5 rfl (lv_at hl 0 rfl) ?_
  refine va_get (D := E.1) (ci := 10) (v := .ref (a_mm 26)) (C := RX10) (T := TX10) (N := 27) hx hb hts iX10_widens_X10 hown hE.1 hP 0 rfl rfl 26 (by decide) (hts (.fieldLink RX10 34 "BandBoatModel" "answer" "[I") (List.mem_of_getElem? (i := 1) rfl)) (fun _ h9 => h9) rfl dX10_widens_6 ?_
  refine lv_iconst (v := (0 : Int32)) hx hb dX10_widens_9 (by decide) ?_
  refine ar_ild (k := 0) (v := (an 0)) hx hb hE hP 1 rfl (by unfold vp_in; decide) rfl rfl dX10_widens_10 ?_
  have hJ34 : ∀ (y0_34 : Int32) (H : Heap) (locs : List Loc) (ls : Array Slot), ρ = F_X10_widens_j34 an from_ v y0_34 → va_P E.1 vwCl [xModel h_mm a_mm mm, xI E (a_mm 26) 10 an] H → va_D A [xModel h_mm a_mm mm, xI E (a_mm 26) 10 an] → va_S A s.heap H locs → lv_has ls 3 [(0, .ref h_mm), (1, .int from_), (2, .int v)] → W p l e ({ frames := 0, cells := 0, slots := 0, locals := 0 } : Room) s m ([.ref h_mm, .int from_, .int v] : List Value).toArray below meth c H locs 0 0 Q (F0 m 34 ls [.int y0_34, .int from_, .ref (a_mm 26)]) := by
    intro y0_34 H locs ls hρ hP hD hS hl
    unfold F_X10_widens_j34 at hρ
    refine ar_ist (k := (Int32.toNatClampNeg from_)) (ws' := [xModel h_mm a_mm mm, xI E (a_mm 26) 10 (upd an (Int32.toNatClampNeg from_) y0_34)]) hx hb hE hP hD hS 1 rfl (w8_in hf) rfl rfl dX10_widens_34 (fun H locs hP hD hS => ?_)
    refine lv_aload_n hx hb dX10_widens_35 rfl (lv_at hl 0 rfl) ?_
    refine va_get (D := E.1) (ci := 10) (v := .ref (a_mm 26)) (C := RX10) (T := TX10) (N := 27) hx hb hts iX10_widens_X10 hown hE.1 hP 0 rfl rfl 26 (by decide) (hts (.fieldLink RX10 34 "BandBoatModel" "answer" "[I") (List.mem_of_getElem? (i := 1) rfl)) (fun _ h9 => h9) rfl dX10_widens_36 ?_
    refine lv_iload_n hx hb dX10_widens_39 rfl (lv_at hl 1 rfl) ?_
    refine lv_iconst (v := (1 : Int32)) hx hb dX10_widens_40 (by decide) ?_
    refine lv_iadd hx hb dX10_widens_41 ?_
    refine lv_aload_n hx hb dX10_widens_42 rfl (lv_at hl 0 rfl) ?_
    refine va_get (D := E.1) (ci := 10) (v := .ref (a_mm 26)) (C := RX10) (T := TX10) (N := 27) hx hb hts iX10_widens_X10 hown hE.1 hP 0 rfl rfl 26 (by decide) (hts (.fieldLink RX10 34 "BandBoatModel" "answer" "[I") (List.mem_of_getElem? (i := 1) rfl)) (fun _ h9 => h9) rfl dX10_widens_43 ?_
    refine lv_iconst (v := (0 : Int32)) hx hb dX10_widens_46 (by decide) ?_
    refine ar_ild (k := 0) (v := ((upd an (Int32.toNatClampNeg from_) y0_34) 0)) hx hb hE hP 1 rfl (by unfold vp_in; decide) rfl rfl dX10_widens_47 ?_
    have hJ63 : ∀ (H : Heap) (locs : List Loc) (ls : Array Slot), ρ = F_X10_widens_j63 an from_ v y0_34 → va_P E.1 vwCl [xModel h_mm a_mm mm, xI E (a_mm 26) 10 (upd an (Int32.toNatClampNeg from_) y0_34)] H → va_D A [xModel h_mm a_mm mm, xI E (a_mm 26) 10 (upd an (Int32.toNatClampNeg from_) y0_34)] → va_S A s.heap H locs → lv_has ls 3 [(0, .ref h_mm), (1, .int from_), (2, .int v)] → W p l e ({ frames := 0, cells := 0, slots := 0, locals := 0 } : Room) s m ([.ref h_mm, .int from_, .int v] : List Value).toArray below meth c H locs 0 0 Q (F0 m 63 ls [.int (from_ + (1 : Int32)), .ref (a_mm 26)]) := by
      intro  H locs ls hρ hP hD hS hl
      unfold F_X10_widens_j63 at hρ
      refine lv_iload_n hx hb dX10_widens_63 rfl (lv_at hl 2 rfl) ?_
      refine lv_goto (tgt := 75) hx hb dX10_widens_64 (by decide) ?_
      refine ar_ist (k := (Int32.toNatClampNeg (from_ + (1 : Int32)))) (ws' := [xModel h_mm a_mm mm, xI E (a_mm 26) 10 (upd (upd an (Int32.toNatClampNeg from_) y0_34) (Int32.toNatClampNeg (from_ + (1 : Int32))) v)]) hx hb hE hP hD hS 1 rfl (w8_in1 hf) rfl rfl dX10_widens_75 (fun H locs hP hD hS => ?_)
      exact hq (upd (upd an (Int32.toNatClampNeg from_) y0_34) (Int32.toNatClampNeg (from_ + (1 : Int32))) v) _ _ _ _ dX10_widens_76 (hρ0.trans hρ) hP hD hS
    refine lv_if_eq (tgt := 63) hx hb dX10_widens_48 (by decide) (fun c48 => ?_) (fun c48 => ?_)
    · rw [if_pos c48] at hρ
      exact hJ63 _ _ _ hρ hP hD hS (lv_sub hl [0, 1, 2] rfl)
    · rw [if_neg c48] at hρ
      refine lv_iload_n hx hb dX10_widens_51 rfl (lv_at hl 2 rfl) ?_
      refine lv_aload_n hx hb dX10_widens_52 rfl (lv_at hl 0 rfl) ?_
      refine va_get (D := E.1) (ci := 10) (v := .ref (a_mm 26)) (C := RX10) (T := TX10) (N := 27) hx hb hts iX10_widens_X10 hown hE.1 hP 0 rfl rfl 26 (by decide) (hts (.fieldLink RX10 34 "BandBoatModel" "answer" "[I") (List.mem_of_getElem? (i := 1) rfl)) (fun _ h9 => h9) rfl dX10_widens_53 ?_
      refine lv_iload_n hx hb dX10_widens_56 rfl (lv_at hl 1 rfl) ?_
      refine lv_iconst (v := (1 : Int32)) hx hb dX10_widens_57 (by decide) ?_
      refine lv_iadd hx hb dX10_widens_58 ?_
      refine ar_ild (k := (Int32.toNatClampNeg (from_ + (1 : Int32)))) (v := ((upd an (Int32.toNatClampNeg from_) y0_34) (Int32.toNatClampNeg (from_ + (1 : Int32))))) hx hb hE hP 1 rfl (w8_in1 hf) rfl rfl dX10_widens_59 ?_
      refine lv_icmp_le (tgt := 67) hx hb dX10_widens_60 (by decide) (fun c60 => ?_) (fun c60 => ?_)
      · rw [if_pos c60] at hρ
        refine lv_aload_n hx hb dX10_widens_67 rfl (lv_at hl 0 rfl) ?_
        refine va_get (D := E.1) (ci := 10) (v := .ref (a_mm 26)) (C := RX10) (T := TX10) (N := 27) hx hb hts iX10_widens_X10 hown hE.1 hP 0 rfl rfl 26 (by decide) (hts (.fieldLink RX10 34 "BandBoatModel" "answer" "[I") (List.mem_of_getElem? (i := 1) rfl)) (fun _ h9 => h9) rfl dX10_widens_68 ?_
        refine lv_iload_n hx hb dX10_widens_71 rfl (lv_at hl 1 rfl) ?_
        refine lv_iconst (v := (1 : Int32)) hx hb dX10_widens_72 (by decide) ?_
        refine lv_iadd hx hb dX10_widens_73 ?_
        refine ar_ild (k := (Int32.toNatClampNeg (from_ + (1 : Int32)))) (v := ((upd an (Int32.toNatClampNeg from_) y0_34) (Int32.toNatClampNeg (from_ + (1 : Int32))))) hx hb hE hP 1 rfl (w8_in1 hf) rfl rfl dX10_widens_74 ?_
        refine lv_topi (fun v1 ev1 => ?_)
        have hρ : ρ = F_X10_widens_k75 an from_ y0_34 v1 := by rw [ev1]; exact hρ
        unfold F_X10_widens_k75 at hρ
        refine ar_ist (k := (Int32.toNatClampNeg (from_ + (1 : Int32)))) (ws' := [xModel h_mm a_mm mm, xI E (a_mm 26) 10 (upd (upd an (Int32.toNatClampNeg from_) y0_34) (Int32.toNatClampNeg (from_ + (1 : Int32))) v1)]) hx hb hE hP hD hS 1 rfl (w8_in1 hf) rfl rfl dX10_widens_75 (fun H locs hP hD hS => ?_)
        exact hq (upd (upd an (Int32.toNatClampNeg from_) y0_34) (Int32.toNatClampNeg (from_ + (1 : Int32))) v1) _ _ _ _ dX10_widens_76 (hρ0.trans hρ) hP hD hS
      · rw [if_neg c60] at hρ
        exact hJ63 _ _ _ hρ hP hD hS (lv_sub hl [0, 1, 2] rfl)
  have hJ24 : ∀ (H : Heap) (locs : List Loc) (ls : Array Slot), ρ = F_X10_widens_j24 an from_ v → va_P E.1 vwCl [xModel h_mm a_mm mm, xI E (a_mm 26) 10 an] H → va_D A [xModel h_mm a_mm mm, xI E (a_mm 26) 10 an] → va_S A s.heap H locs → lv_has ls 3 [(0, .ref h_mm), (1, .int from_), (2, .int v)] → W p l e ({ frames := 0, cells := 0, slots := 0, locals := 0 } : Room) s m ([.ref h_mm, .int from_, .int v] : List Value).toArray below meth c H locs 0 0 Q (F0 m 24 ls [.int from_, .ref (a_mm 26)]) := by
    intro  H locs ls hρ hP hD hS hl
    unfold F_X10_widens_j24 at hρ
    refine lv_iload_n hx hb dX10_widens_24 rfl (lv_at hl 2 rfl) ?_
    refine lv_goto (tgt := 34) hx hb dX10_widens_25 (by decide) ?_
    exact hJ34 v _ _ _ hρ hP hD hS (lv_sub hl [0, 1, 2] rfl)
  refine lv_if_eq (tgt := 24) hx hb dX10_widens_11 (by decide) (fun c11 => ?_) (fun c11 => ?_)
  · rw [if_pos c11] at hρ
    exact hJ24 _ _ _ hρ hP hD hS (lv_sub hl [0, 1, 2] rfl)
  · rw [if_neg c11] at hρ
    refine lv_iload_n hx hb dX10_widens_14 rfl (lv_at hl 2 rfl) ?_
    refine lv_aload_n hx hb dX10_widens_15 rfl (lv_at hl 0 rfl) ?_
    refine va_get (D := E.1) (ci := 10) (v := .ref (a_mm 26)) (C := RX10) (T := TX10) (N := 27) hx hb hts iX10_widens_X10 hown hE.1 hP 0 rfl rfl 26 (by decide) (hts (.fieldLink RX10 34 "BandBoatModel" "answer" "[I") (List.mem_of_getElem? (i := 1) rfl)) (fun _ h9 => h9) rfl dX10_widens_16 ?_
    refine lv_iload_n hx hb dX10_widens_19 rfl (lv_at hl 1 rfl) ?_
    refine ar_ild (k := (Int32.toNatClampNeg from_)) (v := (an (Int32.toNatClampNeg from_))) hx hb hE hP 1 rfl (w8_in hf) rfl rfl dX10_widens_20 ?_
    refine lv_icmp_ge (tgt := 28) hx hb dX10_widens_21 (by decide) (fun c21 => ?_) (fun c21 => ?_)
    · rw [if_pos c21] at hρ
      refine lv_aload_n hx hb dX10_widens_28 rfl (lv_at hl 0 rfl) ?_
      refine va_get (D := E.1) (ci := 10) (v := .ref (a_mm 26)) (C := RX10) (T := TX10) (N := 27) hx hb hts iX10_widens_X10 hown hE.1 hP 0 rfl rfl 26 (by decide) (hts (.fieldLink RX10 34 "BandBoatModel" "answer" "[I") (List.mem_of_getElem? (i := 1) rfl)) (fun _ h9 => h9) rfl dX10_widens_29 ?_
      refine lv_iload_n hx hb dX10_widens_32 rfl (lv_at hl 1 rfl) ?_
      refine ar_ild (k := (Int32.toNatClampNeg from_)) (v := (an (Int32.toNatClampNeg from_))) hx hb hE hP 1 rfl (w8_in hf) rfl rfl dX10_widens_33 ?_
      exact hJ34 (an (Int32.toNatClampNeg from_)) _ _ _ hρ hP hD hS (lv_sub hl [0, 1, 2] rfl)
    · rw [if_neg c21] at hρ
      exact hJ24 _ _ _ hρ hP hD hS (lv_sub hl [0, 1, 2] rfl)
def F_X10_fits_k109 (g_an_102 : Nat → Int32) (v11 : Int32) : (Int32 × (Nat → Int32)) ⊕ (Int32 × (Nat → Int32)) := Sum.inl (v11, g_an_102)
def F_X10_fits_j102 (s_mm_7_57 : Int32) (g_an_102 : Nat → Int32) : (Int32 × (Nat → Int32)) ⊕ (Int32 × (Nat → Int32)) := F_X10_fits_k109 g_an_102 (s_mm_7_57 + (1 : Int32))
def F_X10_fits_k101 (s_mm_7_57 : Int32) (g13 : Nat → Int32) (v14 : Int32) : (Int32 × (Nat → Int32)) ⊕ (Int32 × (Nat → Int32)) := F_X10_fits_j102 s_mm_7_57 (upd g13 0 v14)
def F_X10_fits_k89 (s_mm_7_57 : Int32) (g13 : Nat → Int32) : (Int32 × (Nat → Int32)) ⊕ (Int32 × (Nat → Int32)) := F_X10_fits_k101 s_mm_7_57 g13 ((g13 0) + (1 : Int32))
def F_X10_fits_k80 (s_mm_7_57 : Int32) (g12 : Nat → Int32) : (Int32 × (Nat → Int32)) ⊕ (Int32 × (Nat → Int32)) := F_X10_fits_k89 s_mm_7_57 (F_X10_widens g12 (3 : Int32) s_mm_7_57)
def F_X10_fits_b57 (mm : Nat → Int32) (bt : Nat → Int32) (rd : Nat → Int32) (e_ : Int32) (v5 : Int32) (v6 : Int32) (v7 : Int32) (v8 : Int32) (v9 : Int32) (s_mm_6_43 : Int32) (s_mm_7_57 : Int32) (g_an_57 : Nat → Int32) : (Int32 × (Nat → Int32)) ⊕ (Int32 × (Nat → Int32)) := (if (91 : Int32) ≤ s_mm_7_57 then Sum.inr (s_mm_7_57, g_an_57) else (if (F_X10_fitsAll (upd (upd (upd (upd (upd (upd (upd (upd mm 0 (0 : Int32)) 6 s_mm_6_43) 7 s_mm_7_57) 8 v5) 9 v6) 10 v7) 11 v8) 12 v9) bt rd e_) = (0 : Int32) then F_X10_fits_j102 s_mm_7_57 g_an_57 else F_X10_fits_k80 s_mm_7_57 (F_X10_widens g_an_57 (1 : Int32) s_mm_6_43)))
def F_X10_fits_l57 (mm : Nat → Int32) (bt : Nat → Int32) (rd : Nat → Int32) (e_ : Int32) (v5 : Int32) (v6 : Int32) (v7 : Int32) (v8 : Int32) (v9 : Int32) (s_mm_6_43 : Int32) : Nat → (Int32) → (Nat → Int32) → Int32 × (Nat → Int32)
  | 0, s_mm_7_57, g_an_57 => (s_mm_7_57, g_an_57)
  | n_57 + 1, s_mm_7_57, g_an_57 => match F_X10_fits_b57 mm bt rd e_ v5 v6 v7 v8 v9 s_mm_6_43 s_mm_7_57 g_an_57 with
    | Sum.inl (c_s_mm_7_57, c_g_an_57) => F_X10_fits_l57 mm bt rd e_ v5 v6 v7 v8 v9 s_mm_6_43 n_57 c_s_mm_7_57 c_g_an_57
    | Sum.inr r_ => r_
def F_X10_fits_k122 (bs_mm_7_57 : Int32) (bg_an_57 : Nat → Int32) (v15 : Int32) : (Int32 × Int32 × (Nat → Int32)) ⊕ (Int32 × Int32 × (Nat → Int32)) := Sum.inl (v15, bs_mm_7_57, bg_an_57)
def F_X10_fits_x57 (s_mm_6_43 : Int32) (bs_mm_7_57 : Int32) (bg_an_57 : Nat → Int32) : (Int32 × Int32 × (Nat → Int32)) ⊕ (Int32 × Int32 × (Nat → Int32)) := F_X10_fits_k122 bs_mm_7_57 bg_an_57 (s_mm_6_43 + (1 : Int32))
def F_X10_fits_b43 (mm : Nat → Int32) (bt : Nat → Int32) (rd : Nat → Int32) (e_ : Int32) (v5 : Int32) (v6 : Int32) (v7 : Int32) (v8 : Int32) (v9 : Int32) (s_mm_6_43 : Int32) (s_mm_7_43 : Int32) (g_an_43 : Nat → Int32) : (Int32 × Int32 × (Nat → Int32)) ⊕ (Int32 × Int32 × (Nat → Int32)) := (if (100 : Int32) ≤ s_mm_6_43 then Sum.inr (s_mm_6_43, s_mm_7_43, g_an_43) else (match F_X10_fits_l57 mm bt rd e_ v5 v6 v7 v8 v9 s_mm_6_43 (91) (0 : Int32) g_an_43 with | (bs_mm_7_57, bg_an_57) => F_X10_fits_x57 s_mm_6_43 bs_mm_7_57 bg_an_57))
def F_X10_fits_l43 (mm : Nat → Int32) (bt : Nat → Int32) (rd : Nat → Int32) (e_ : Int32) (v5 : Int32) (v6 : Int32) (v7 : Int32) (v8 : Int32) (v9 : Int32) : Nat → (Int32) → (Int32) → (Nat → Int32) → Int32 × Int32 × (Nat → Int32)
  | 0, s_mm_6_43, s_mm_7_43, g_an_43 => (s_mm_6_43, s_mm_7_43, g_an_43)
  | n_43 + 1, s_mm_6_43, s_mm_7_43, g_an_43 => match F_X10_fits_b43 mm bt rd e_ v5 v6 v7 v8 v9 s_mm_6_43 s_mm_7_43 g_an_43 with
    | Sum.inl (c_s_mm_6_43, c_s_mm_7_43, c_g_an_43) => F_X10_fits_l43 mm bt rd e_ v5 v6 v7 v8 v9 n_43 c_s_mm_6_43 c_s_mm_7_43 c_g_an_43
    | Sum.inr r_ => r_
def F_X10_fits_j146 (what : Int32) (v5 : Int32) (v6 : Int32) (v7 : Int32) (v8 : Int32) (v9 : Int32) (bs_mm_6_43 : Int32) (bs_mm_7_43 : Int32) (bg_an_43 : Nat → Int32) : Int32 × Int32 × Int32 × Int32 × Int32 × Int32 × Int32 × Int32 × Int32 × (Nat → Int32) := ((bg_an_43 (Int32.toNatClampNeg what)), (0 : Int32), bs_mm_6_43, bs_mm_7_43, v5, v6, v7, v8, v9, bg_an_43)
def F_X10_fits_x43 (what : Int32) (v5 : Int32) (v6 : Int32) (v7 : Int32) (v8 : Int32) (v9 : Int32) (bs_mm_6_43 : Int32) (bs_mm_7_43 : Int32) (bg_an_43 : Nat → Int32) : Int32 × Int32 × Int32 × Int32 × Int32 × Int32 × Int32 × Int32 × Int32 × (Nat → Int32) := (if what ≤ (0 : Int32) then F_X10_fits_j146 what v5 v6 v7 v8 v9 bs_mm_6_43 bs_mm_7_43 bg_an_43 else (if (bg_an_43 0) = (0 : Int32) then ((-4 : Int32), (0 : Int32), bs_mm_6_43, bs_mm_7_43, v5, v6, v7, v8, v9, bg_an_43) else F_X10_fits_j146 what v5 v6 v7 v8 v9 bs_mm_6_43 bs_mm_7_43 bg_an_43))
def F_X10_fits_k28 (mm : Nat → Int32) (bt : Nat → Int32) (rd : Nat → Int32) (an : Nat → Int32) (e_ : Int32) (what : Int32) (v4 : Int32) (v5 : Int32) (v6 : Int32) (v7 : Int32) (v8 : Int32) (v9 : Int32) : Int32 × Int32 × Int32 × Int32 × Int32 × Int32 × Int32 × Int32 × Int32 × (Nat → Int32) := (match F_X10_fits_l43 mm bt rd e_ v5 v6 v7 v8 v9 (99) (1 : Int32) v4 (upd an 0 (0 : Int32)) with | (bs_mm_6_43, bs_mm_7_43, bg_an_43) => F_X10_fits_x43 what v5 v6 v7 v8 v9 bs_mm_6_43 bs_mm_7_43 bg_an_43)
def F_X10_fits (mm : Nat → Int32) (bt : Nat → Int32) (rd : Nat → Int32) (an : Nat → Int32) (e_ : Int32) (what : Int32) : Int32 × Int32 × Int32 × Int32 × Int32 × Int32 × Int32 × Int32 × Int32 × (Nat → Int32) := (if (F_X10_in e_ (0 : Int32) (999 : Int32)) = (0 : Int32) then ((-1 : Int32), (0 : Int32), (mm 6), (mm 7), (mm 8), (mm 9), (mm 10), (mm 11), (mm 12), an) else (if (F_X10_in what (0 : Int32) (4 : Int32)) = (0 : Int32) then ((-1 : Int32), (0 : Int32), (mm 6), (mm 7), (mm 8), (mm 9), (mm 10), (mm 11), (mm 12), an) else (match F_X10_asItIs bt with | (v3, v4, v5, v6, v7, v8, v9) => F_X10_fits_k28 mm bt rd an e_ what v4 v5 v6 v7 v8 v9)))
theorem iX10_fits_X10 : ∀ w ∈ wsX100, w ∈ wsX10_fits := fun _ h => List.mem_cons_of_mem _ (List.mem_append_right _ h)
set_option maxHeartbeats 4000000 in
set_option maxRecDepth 100000 in
theorem c_X10_fits (l : Launch) (E : wV) (h_mm : Nat) (a_mm : Nat → Nat) (mm : Nat → Int32) (bt : Nat → Int32) (rd : Nat → Int32) (an : Nat → Int32) (e_ : Int32) (what : Int32) (hB : btOK bt) (hR : 0 ≤ (mm 22).toInt ∧ (mm 22).toInt ≤ 6) : MetI l yX10_fits wsX10_fits ({ frames := 3, cells := 0, slots := 0, locals := 67 } : Room) E ([.ref h_mm, .int e_, .int what] : List Value) [xModel h_mm a_mm mm, xI E (a_mm 5) 60 bt, xI E (a_mm 21) 18 rd, xI E (a_mm 26) 10 an] (fun (r : Int32) (u : Int32 × Int32 × Int32 × Int32 × Int32 × Int32 × Int32 × Int32 × (Nat → Int32)) => F_X10_fits mm bt rd an e_ what = (r, u)) (fun (u : Int32 × Int32 × Int32 × Int32 × Int32 × Int32 × Int32 × Int32 × (Nat → Int32)) => [xModel h_mm a_mm (upd (upd (upd (upd (upd (upd (upd (upd mm 0 u.1) 6 u.2.1) 7 u.2.2.1) 8 u.2.2.2.1) 9 u.2.2.2.2.1) 10 u.2.2.2.2.2.1) 11 u.2.2.2.2.2.2.1) 12 u.2.2.2.2.2.2.2.1), xI E (a_mm 5) 60 bt, xI E (a_mm 21) 18 rd, xI E (a_mm 26) 10 u.2.2.2.2.2.2.2.2]) := by
  refine MetI.of (cc := cX10_fits) (maxL := 3) (own := RX10) (by decide) rfl rfl (Nat.le_of_ble_eq_true rfl) ?_
  intro p e s m below meth c A Q ls cx hP hD hS hl hq
  obtain ⟨hx, hb, hml, hown, hts, hE, hA⟩ := id cx
  have hl : lv_has ls 3 [(0, .ref h_mm), (1, .int e_), (2, .int what)] := hl
  have hP : va_P E.1 vwCl [xModel h_mm a_mm mm, xI E (a_mm 5) 60 bt, xI E (a_mm 21) 18 rd, xI E (a_mm 26) 10 an] s.heap := hP
  obtain ⟨ρ, hρ0⟩ : ∃ ρ, F_X10_fits mm bt rd an e_ what = ρ := ⟨_, rfl⟩
  have hρ := hρ0.symm
  unfold F_X10_fits at hρ
  refine lv_aload_n hx hb dX10_fits_0 rfl (lv_at hl 0 rfl) ?_
  refine lv_iconst (v := (0 : Int32)) hx hb dX10_fits_1 (by decide) ?_
  refine va_put (D := E.1) (ci := 10) (v := .int (0 : Int32)) (ty := .int) (C := RX10) (T := TX10) (N := 27) hx hb hts iX10_fits_X10 tyX10 tyX10_ok nmX10 hown hE.1 hP hD hS 0 rfl rfl 0 (by decide) (hts (.fieldLink RX10 41 "BandBoatModel" "thrown" "I") (List.mem_of_getElem? (i := 1) rfl)) (fun _ h9 => h9) rfl (by decide +kernel) rfl rfl (Nat.le_of_ble_eq_true rfl) dX10_fits_2 (fun H locs hP hD hS => ?_)
  have hP : va_P E.1 vwCl [xModel h_mm a_mm (upd mm 0 (0 : Int32)), xI E (a_mm 5) 60 bt, xI E (a_mm 21) 18 rd, xI E (a_mm 26) 10 an] H := hP
  have hD : va_D A [xModel h_mm a_mm (upd mm 0 (0 : Int32)), xI E (a_mm 5) 60 bt, xI E (a_mm 21) 18 rd, xI E (a_mm 26) 10 an] := hD
  refine lv_iload_n hx hb dX10_fits_5 rfl (lv_at hl 1 rfl) ?_
  refine lv_iconst (v := (0 : Int32)) hx hb dX10_fits_6 (by decide) ?_
  refine lv_sipush (v := (999 : Int32)) hx hb dX10_fits_7 (by decide) ?_
  refine kI (wc := []) (wr := [xModel h_mm a_mm (upd mm 0 (0 : Int32)), xI E (a_mm 5) 60 bt, xI E (a_mm 21) 18 rd, xI E (a_mm 26) 10 an]) (wc' := (fun (_ : Unit) => [])) (wn := (fun (_ : Unit) => [xModel h_mm a_mm (upd mm 0 (0 : Int32)), xI E (a_mm 5) 60 bt, xI E (a_mm 21) 18 rd, xI E (a_mm 26) 10 an])) (isC := []) (isR := [0, 1, 2, 3]) (is2 := [0, 1, 2, 3]) cx hP hD hS ⟨rfl, rfl, by decide, by decide, by decide, by decide, fun _ => rfl⟩ (rS (As := [.int e_, .int (0 : Int32), .int (999 : Int32)]) (rest := []) cx (c_X10_in l E e_ (0 : Int32) (999 : Int32) _) (va_cwS 3 hts gX10_fits_X10_in rfl rfl rfl (by decide +kernel) ⟨Nat.le_of_ble_eq_true rfl, Nat.le_of_ble_eq_true rfl⟩) rfl hl.1 rfl (Nat.le_of_ble_eq_true rfl) dX10_fits_10 ⟨Nat.zero_le _, Nat.zero_le _⟩) (fun r1 u H locs hw hP hD hS => ?_)
  subst hw
  refine lv_if_eq (tgt := 25) hx hb dX10_fits_13 (by decide) (fun c13 => ?_) (fun c13 => ?_)
  · rw [if_pos c13] at hρ
    refine lv_iconst (v := (-1 : Int32)) hx hb dX10_fits_25 (by decide) ?_
    exact hq (-1 : Int32) ((0 : Int32), (mm 6), (mm 7), (mm 8), (mm 9), (mm 10), (mm 11), (mm 12), an) _ _ _ _ dX10_fits_26 rfl (hρ0.trans hρ) hP hD hS
  · rw [if_neg c13] at hρ
    refine lv_iload_n hx hb dX10_fits_16 rfl (lv_at hl 2 rfl) ?_
    refine lv_iconst (v := (0 : Int32)) hx hb dX10_fits_17 (by decide) ?_
    refine lv_iconst (v := (4 : Int32)) hx hb dX10_fits_18 (by decide) ?_
    refine kI (wc := []) (wr := [xModel h_mm a_mm (upd mm 0 (0 : Int32)), xI E (a_mm 5) 60 bt, xI E (a_mm 21) 18 rd, xI E (a_mm 26) 10 an]) (wc' := (fun (_ : Unit) => [])) (wn := (fun (_ : Unit) => [xModel h_mm a_mm (upd mm 0 (0 : Int32)), xI E (a_mm 5) 60 bt, xI E (a_mm 21) 18 rd, xI E (a_mm 26) 10 an])) (isC := []) (isR := [0, 1, 2, 3]) (is2 := [0, 1, 2, 3]) cx hP hD hS ⟨rfl, rfl, by decide, by decide, by decide, by decide, fun _ => rfl⟩ (rS (As := [.int what, .int (0 : Int32), .int (4 : Int32)]) (rest := []) cx (c_X10_in l E what (0 : Int32) (4 : Int32) _) (va_cwS 3 hts gX10_fits_X10_in rfl rfl rfl (by decide +kernel) ⟨Nat.le_of_ble_eq_true rfl, Nat.le_of_ble_eq_true rfl⟩) rfl hl.1 rfl (Nat.le_of_ble_eq_true rfl) dX10_fits_19 ⟨Nat.zero_le _, Nat.zero_le _⟩) (fun r2 u H locs hw hP hD hS => ?_)
    subst hw
    refine lv_if_ne (tgt := 27) hx hb dX10_fits_22 (by decide) (fun c22 => ?_) (fun c22 => ?_)
    · rw [if_neg c22] at hρ
      refine lv_aload_n hx hb dX10_fits_27 rfl (lv_at hl 0 rfl) ?_
      refine kV (wc := [xModel h_mm a_mm (upd mm 0 (0 : Int32)), xI E (a_mm 5) 60 bt]) (wr := [xI E (a_mm 21) 18 rd, xI E (a_mm 26) 10 an]) (wc' := (fun (u : Int32 × Int32 × Int32 × Int32 × Int32 × Int32 × Int32) => [xModel h_mm a_mm (upd (upd (upd (upd (upd (upd (upd (upd mm 0 (0 : Int32)) 6 u.1) 7 u.2.1) 8 u.2.2.1) 9 u.2.2.2.1) 10 u.2.2.2.2.1) 11 u.2.2.2.2.2.1) 12 u.2.2.2.2.2.2), xI E (a_mm 5) 60 bt])) (wn := (fun (u : Int32 × Int32 × Int32 × Int32 × Int32 × Int32 × Int32) => [xModel h_mm a_mm (upd (upd (upd (upd (upd (upd (upd (upd mm 0 (0 : Int32)) 6 u.1) 7 u.2.1) 8 u.2.2.1) 9 u.2.2.2.1) 10 u.2.2.2.2.1) 11 u.2.2.2.2.2.1) 12 u.2.2.2.2.2.2), xI E (a_mm 5) 60 bt, xI E (a_mm 21) 18 rd, xI E (a_mm 26) 10 an])) (isC := [0, 1]) (isR := [2, 3]) (is2 := [2, 3, 0, 1]) cx hP hD hS ⟨rfl, rfl, by decide, by decide, by decide, by decide, fun _ => rfl⟩ (rV (As := []) (rest := []) (C := RX10) (q0 := 0) (ci := 10) cx (c_X10_asItIs l E h_mm a_mm (upd mm 0 (0 : Int32)) bt (hB) _) (cwV 0 hts gX10_fits_X10_asItIs rfl rfl rfl (by decide +kernel) ⟨Nat.le_of_ble_eq_true rfl, Nat.le_of_ble_eq_true rfl⟩) rfl rfl rfl rfl hl.1 rfl (Nat.le_of_ble_eq_true rfl) dX10_fits_28 ⟨Nat.zero_le _, Nat.zero_le _⟩) (fun u H locs hw hP hD hS => ?_)
      obtain ⟨hw, hn28⟩ := hw
      obtain ⟨v3, v4, v5, v6, v7, v8, v9⟩ := u
      have hn28 : (v6) = (bt 17) ∧ (v7) = (bt 18) ∧ (v8) = (bt 19) := hn28
      have hP : va_P E.1 vwCl [xModel h_mm a_mm (upd (upd (upd (upd (upd (upd (upd (upd mm 0 (0 : Int32)) 6 v3) 7 v4) 8 v5) 9 v6) 10 v7) 11 v8) 12 v9), xI E (a_mm 5) 60 bt, xI E (a_mm 21) 18 rd, xI E (a_mm 26) 10 an] H := hP
      have hD : va_D A [xModel h_mm a_mm (upd (upd (upd (upd (upd (upd (upd (upd mm 0 (0 : Int32)) 6 v3) 7 v4) 8 v5) 9 v6) 10 v7) 11 v8) 12 v9), xI E (a_mm 5) 60 bt, xI E (a_mm 21) 18 rd, xI E (a_mm 26) 10 an] := hD
      have hw : F_X10_asItIs bt = (v3, v4, v5, v6, v7, v8, v9) := hw
      rw [hw] at hρ
      have hρ : ρ = F_X10_fits_k28 mm bt rd an e_ what v4 v5 v6 v7 v8 v9 := hρ
      unfold F_X10_fits_k28 at hρ
      refine lv_aload_n hx hb dX10_fits_31 rfl (lv_at hl 0 rfl) ?_
      refine va_get (D := E.1) (ci := 10) (v := .ref (a_mm 26)) (C := RX10) (T := TX10) (N := 27) hx hb hts iX10_fits_X10 hown hE.1 hP 0 rfl rfl 26 (by decide) (hts (.fieldLink RX10 34 "BandBoatModel" "answer" "[I") (List.mem_of_getElem? (i := 2) rfl)) (fun _ h9 => h9) rfl dX10_fits_32 ?_
      refine lv_iconst (v := (0 : Int32)) hx hb dX10_fits_35 (by decide) ?_
      refine lv_iconst (v := (0 : Int32)) hx hb dX10_fits_36 (by decide) ?_
      refine ar_ist (k := 0) (ws' := [xModel h_mm a_mm (upd (upd (upd (upd (upd (upd (upd (upd mm 0 (0 : Int32)) 6 v3) 7 v4) 8 v5) 9 v6) 10 v7) 11 v8) 12 v9), xI E (a_mm 5) 60 bt, xI E (a_mm 21) 18 rd, xI E (a_mm 26) 10 (upd an 0 (0 : Int32))]) hx hb hE hP hD hS 3 rfl (by unfold vp_in; decide) rfl rfl dX10_fits_37 (fun H locs hP hD hS => ?_)
      refine lv_aload_n hx hb dX10_fits_38 rfl (lv_at hl 0 rfl) ?_
      refine lv_iconst (v := (1 : Int32)) hx hb dX10_fits_39 (by decide) ?_
      refine va_put (D := E.1) (ci := 10) (v := .int (1 : Int32)) (ty := .int) (C := RX10) (T := TX10) (N := 27) hx hb hts iX10_fits_X10 tyX10 tyX10_ok nmX10 hown hE.1 hP hD hS 0 rfl rfl 6 (by decide) (hts (.fieldLink RX10 89 "BandBoatModel" "pulls" "I") (List.mem_of_getElem? (i := 3) rfl)) (fun _ h9 => h9) rfl (by decide +kernel) rfl rfl (Nat.le_of_ble_eq_true rfl) dX10_fits_40 (fun H locs hP hD hS => ?_)
      have hP : va_P E.1 vwCl [xModel h_mm a_mm (upd (upd (upd (upd (upd (upd (upd (upd mm 0 (0 : Int32)) 6 (1 : Int32)) 7 v4) 8 v5) 9 v6) 10 v7) 11 v8) 12 v9), xI E (a_mm 5) 60 bt, xI E (a_mm 21) 18 rd, xI E (a_mm 26) 10 (upd an 0 (0 : Int32))] H := hP
      have hD : va_D A [xModel h_mm a_mm (upd (upd (upd (upd (upd (upd (upd (upd mm 0 (0 : Int32)) 6 (1 : Int32)) 7 v4) 8 v5) 9 v6) 10 v7) 11 v8) 12 v9), xI E (a_mm 5) 60 bt, xI E (a_mm 21) 18 rd, xI E (a_mm 26) 10 (upd an 0 (0 : Int32))] := hD
      have hL43 : ∀ (n_43 : Nat) (s_mm_6_43 : Int32) (s_mm_7_43 : Int32) (g_an_43 : Nat → Int32) (H : Heap) (locs : List Loc) (ls : Array Slot), (((100 : Int32) : Int32).toInt ≤ (s_mm_6_43).toInt + (n_43 : Nat)) → va_P E.1 vwCl [xModel h_mm a_mm (upd (upd (upd (upd (upd (upd (upd (upd mm 0 (0 : Int32)) 6 s_mm_6_43) 7 s_mm_7_43) 8 v5) 9 v6) 10 v7) 11 v8) 12 v9), xI E (a_mm 5) 60 bt, xI E (a_mm 21) 18 rd, xI E (a_mm 26) 10 g_an_43] H → va_D A [xModel h_mm a_mm (upd (upd (upd (upd (upd (upd (upd (upd mm 0 (0 : Int32)) 6 s_mm_6_43) 7 s_mm_7_43) 8 v5) 9 v6) 10 v7) 11 v8) 12 v9), xI E (a_mm 5) 60 bt, xI E (a_mm 21) 18 rd, xI E (a_mm 26) 10 g_an_43] → va_S A s.heap H locs → lv_has ls 3 [(0, .ref h_mm), (1, .int e_), (2, .int what)] → (∀ (os_mm_6_43 : Int32) (os_mm_7_43 : Int32) (og_an_43 : Nat → Int32) (H : Heap) (locs : List Loc) (ls : Array Slot), F_X10_fits_l43 mm bt rd e_ v5 v6 v7 v8 v9 n_43 s_mm_6_43 s_mm_7_43 g_an_43 = (os_mm_6_43, os_mm_7_43, og_an_43) → va_P E.1 vwCl [xModel h_mm a_mm (upd (upd (upd (upd (upd (upd (upd (upd mm 0 (0 : Int32)) 6 os_mm_6_43) 7 os_mm_7_43) 8 v5) 9 v6) 10 v7) 11 v8) 12 v9), xI E (a_mm 5) 60 bt, xI E (a_mm 21) 18 rd, xI E (a_mm 26) 10 og_an_43] H → va_D A [xModel h_mm a_mm (upd (upd (upd (upd (upd (upd (upd (upd mm 0 (0 : Int32)) 6 os_mm_6_43) 7 os_mm_7_43) 8 v5) 9 v6) 10 v7) 11 v8) 12 v9), xI E (a_mm 5) 60 bt, xI E (a_mm 21) 18 rd, xI E (a_mm 26) 10 og_an_43] → va_S A s.heap H locs → lv_has ls 3 [(0, .ref h_mm), (1, .int e_), (2, .int what)] → W p l e ({ frames := 3, cells := 0, slots := 0, locals := 67 } : Room) s m ([.ref h_mm, .int e_, .int what] : List Value).toArray below meth c H locs 0 0 Q (F0 m 128 ls [])) → W p l e ({ frames := 3, cells := 0, slots := 0, locals := 67 } : Room) s m ([.ref h_mm, .int e_, .int what] : List Value).toArray below meth c H locs 0 0 Q (F0 m 43 ls []) := by
        intro n_43
        induction n_43 with
        | zero =>
          intro s_mm_6_43 s_mm_7_43 g_an_43 H locs ls hM hP hD hS hl hK
          have hM43 := hM
          obtain ⟨σ43, hσ043⟩ : ∃ σ, F_X10_fits_l43 mm bt rd e_ v5 v6 v7 v8 v9 0 s_mm_6_43 s_mm_7_43 g_an_43 = σ := ⟨_, rfl⟩
          have hσ43 := hσ043.symm
          rw [F_X10_fits_l43] at hσ43
          refine lv_aload_n hx hb dX10_fits_43 rfl (lv_at hl 0 rfl) ?_
          refine va_get (D := E.1) (ci := 10) (v := .int s_mm_6_43) (C := RX10) (T := TX10) (N := 27) hx hb hts iX10_fits_X10 hown hE.1 hP 0 rfl rfl 6 (by decide) (hts (.fieldLink RX10 89 "BandBoatModel" "pulls" "I") (List.mem_of_getElem? (i := 3) rfl)) (fun _ h9 => h9) rfl dX10_fits_44 ?_
          refine lv_bipush (v := (100 : Int32)) hx hb dX10_fits_47 (by decide) ?_
          refine lv_icmp_ge (tgt := 128) hx hb dX10_fits_49 (by decide) (fun c49 => ?_) (fun c49 => ?_)
          · exact hK s_mm_6_43 s_mm_7_43 g_an_43 _ _ _ (hσ043.trans hσ43) hP hD hS (lv_sub hl [0, 1, 2] rfl)
          · exact (cnt_lt0 c49 hM).elim
        | succ n_43 ih =>
          intro s_mm_6_43 s_mm_7_43 g_an_43 H locs ls hM hP hD hS hl hK
          have hM43 := hM
          obtain ⟨σ43, hσ043⟩ : ∃ σ, F_X10_fits_l43 mm bt rd e_ v5 v6 v7 v8 v9 (n_43 + 1) s_mm_6_43 s_mm_7_43 g_an_43 = σ := ⟨_, rfl⟩
          have hσ43 := hσ043.symm
          rw [F_X10_fits_l43] at hσ43
          obtain ⟨τ43, hτ043⟩ : ∃ τ, F_X10_fits_b43 mm bt rd e_ v5 v6 v7 v8 v9 s_mm_6_43 s_mm_7_43 g_an_43 = τ := ⟨_, rfl⟩
          rw [hτ043] at hσ43
          have hτ43 := hτ043.symm
          unfold F_X10_fits_b43 at hτ43
          refine lv_aload_n hx hb dX10_fits_43 rfl (lv_at hl 0 rfl) ?_
          refine va_get (D := E.1) (ci := 10) (v := .int s_mm_6_43) (C := RX10) (T := TX10) (N := 27) hx hb hts iX10_fits_X10 hown hE.1 hP 0 rfl rfl 6 (by decide) (hts (.fieldLink RX10 89 "BandBoatModel" "pulls" "I") (List.mem_of_getElem? (i := 3) rfl)) (fun _ h9 => h9) rfl dX10_fits_44 ?_
          refine lv_bipush (v := (100 : Int32)) hx hb dX10_fits_47 (by decide) ?_
          refine lv_icmp_ge (tgt := 128) hx hb dX10_fits_49 (by decide) (fun c49 => ?_) (fun c49 => ?_)
          · rw [if_pos c49] at hτ43
            have hσ43 : σ43 = (s_mm_6_43, s_mm_7_43, g_an_43) := by subst hτ43; exact hσ43
            exact hK s_mm_6_43 s_mm_7_43 g_an_43 _ _ _ (hσ043.trans hσ43) hP hD hS (lv_sub hl [0, 1, 2] rfl)
          · rw [if_neg c49] at hτ43
            refine lv_aload_n hx hb dX10_fits_52 rfl (lv_at hl 0 rfl) ?_
            refine lv_iconst (v := (0 : Int32)) hx hb dX10_fits_53 (by decide) ?_
            refine va_put (D := E.1) (ci := 10) (v := .int (0 : Int32)) (ty := .int) (C := RX10) (T := TX10) (N := 27) hx hb hts iX10_fits_X10 tyX10 tyX10_ok nmX10 hown hE.1 hP hD hS 0 rfl rfl 7 (by decide) (hts (.fieldLink RX10 92 "BandBoatModel" "loses" "I") (List.mem_of_getElem? (i := 4) rfl)) (fun _ h9 => h9) rfl (by decide +kernel) rfl rfl (Nat.le_of_ble_eq_true rfl) dX10_fits_54 (fun H locs hP hD hS => ?_)
            have hP : va_P E.1 vwCl [xModel h_mm a_mm (upd (upd (upd (upd (upd (upd (upd (upd mm 0 (0 : Int32)) 6 s_mm_6_43) 7 (0 : Int32)) 8 v5) 9 v6) 10 v7) 11 v8) 12 v9), xI E (a_mm 5) 60 bt, xI E (a_mm 21) 18 rd, xI E (a_mm 26) 10 g_an_43] H := hP
            have hD : va_D A [xModel h_mm a_mm (upd (upd (upd (upd (upd (upd (upd (upd mm 0 (0 : Int32)) 6 s_mm_6_43) 7 (0 : Int32)) 8 v5) 9 v6) 10 v7) 11 v8) 12 v9), xI E (a_mm 5) 60 bt, xI E (a_mm 21) 18 rd, xI E (a_mm 26) 10 g_an_43] := hD
            have hL57 : ∀ (n_57 : Nat) (s_mm_7_57 : Int32) (g_an_57 : Nat → Int32) (H : Heap) (locs : List Loc) (ls : Array Slot), (((91 : Int32) : Int32).toInt ≤ (s_mm_7_57).toInt + (n_57 : Nat)) → va_P E.1 vwCl [xModel h_mm a_mm (upd (upd (upd (upd (upd (upd (upd (upd mm 0 (0 : Int32)) 6 s_mm_6_43) 7 s_mm_7_57) 8 v5) 9 v6) 10 v7) 11 v8) 12 v9), xI E (a_mm 5) 60 bt, xI E (a_mm 21) 18 rd, xI E (a_mm 26) 10 g_an_57] H → va_D A [xModel h_mm a_mm (upd (upd (upd (upd (upd (upd (upd (upd mm 0 (0 : Int32)) 6 s_mm_6_43) 7 s_mm_7_57) 8 v5) 9 v6) 10 v7) 11 v8) 12 v9), xI E (a_mm 5) 60 bt, xI E (a_mm 21) 18 rd, xI E (a_mm 26) 10 g_an_57] → va_S A s.heap H locs → lv_has ls 3 [(0, .ref h_mm), (1, .int e_), (2, .int what)] → (∀ (os_mm_7_57 : Int32) (og_an_57 : Nat → Int32) (H : Heap) (locs : List Loc) (ls : Array Slot), F_X10_fits_l57 mm bt rd e_ v5 v6 v7 v8 v9 s_mm_6_43 n_57 s_mm_7_57 g_an_57 = (os_mm_7_57, og_an_57) → va_P E.1 vwCl [xModel h_mm a_mm (upd (upd (upd (upd (upd (upd (upd (upd mm 0 (0 : Int32)) 6 s_mm_6_43) 7 os_mm_7_57) 8 v5) 9 v6) 10 v7) 11 v8) 12 v9), xI E (a_mm 5) 60 bt, xI E (a_mm 21) 18 rd, xI E (a_mm 26) 10 og_an_57] H → va_D A [xModel h_mm a_mm (upd (upd (upd (upd (upd (upd (upd (upd mm 0 (0 : Int32)) 6 s_mm_6_43) 7 os_mm_7_57) 8 v5) 9 v6) 10 v7) 11 v8) 12 v9), xI E (a_mm 5) 60 bt, xI E (a_mm 21) 18 rd, xI E (a_mm 26) 10 og_an_57] → va_S A s.heap H locs → lv_has ls 3 [(0, .ref h_mm), (1, .int e_), (2, .int what)] → W p l e ({ frames := 3, cells := 0, slots := 0, locals := 67 } : Room) s m ([.ref h_mm, .int e_, .int what] : List Value).toArray below meth c H locs 0 0 Q (F0 m 115 ls [])) → W p l e ({ frames := 3, cells := 0, slots := 0, locals := 67 } : Room) s m ([.ref h_mm, .int e_, .int what] : List Value).toArray below meth c H locs 0 0 Q (F0 m 57 ls []) := by
              intro n_57
              induction n_57 with
              | zero =>
                intro s_mm_7_57 g_an_57 H locs ls hM hP hD hS hl hK
                have hM57 := hM
                obtain ⟨σ57, hσ057⟩ : ∃ σ, F_X10_fits_l57 mm bt rd e_ v5 v6 v7 v8 v9 s_mm_6_43 0 s_mm_7_57 g_an_57 = σ := ⟨_, rfl⟩
                have hσ57 := hσ057.symm
                rw [F_X10_fits_l57] at hσ57
                refine lv_aload_n hx hb dX10_fits_57 rfl (lv_at hl 0 rfl) ?_
                refine va_get (D := E.1) (ci := 10) (v := .int s_mm_7_57) (C := RX10) (T := TX10) (N := 27) hx hb hts iX10_fits_X10 hown hE.1 hP 0 rfl rfl 7 (by decide) (hts (.fieldLink RX10 92 "BandBoatModel" "loses" "I") (List.mem_of_getElem? (i := 4) rfl)) (fun _ h9 => h9) rfl dX10_fits_58 ?_
                refine lv_bipush (v := (91 : Int32)) hx hb dX10_fits_61 (by decide) ?_
                refine lv_icmp_ge (tgt := 115) hx hb dX10_fits_63 (by decide) (fun c63 => ?_) (fun c63 => ?_)
                · exact hK s_mm_7_57 g_an_57 _ _ _ (hσ057.trans hσ57) hP hD hS (lv_sub hl [0, 1, 2] rfl)
                · exact (cnt_lt0 c63 hM).elim
              | succ n_57 ih =>
                intro s_mm_7_57 g_an_57 H locs ls hM hP hD hS hl hK
                have hM57 := hM
                obtain ⟨σ57, hσ057⟩ : ∃ σ, F_X10_fits_l57 mm bt rd e_ v5 v6 v7 v8 v9 s_mm_6_43 (n_57 + 1) s_mm_7_57 g_an_57 = σ := ⟨_, rfl⟩
                have hσ57 := hσ057.symm
                rw [F_X10_fits_l57] at hσ57
                obtain ⟨τ57, hτ057⟩ : ∃ τ, F_X10_fits_b57 mm bt rd e_ v5 v6 v7 v8 v9 s_mm_6_43 s_mm_7_57 g_an_57 = τ := ⟨_, rfl⟩
                rw [hτ057] at hσ57
                have hτ57 := hτ057.symm
                unfold F_X10_fits_b57 at hτ57
                refine lv_aload_n hx hb dX10_fits_57 rfl (lv_at hl 0 rfl) ?_
                refine va_get (D := E.1) (ci := 10) (v := .int s_mm_7_57) (C := RX10) (T := TX10) (N := 27) hx hb hts iX10_fits_X10 hown hE.1 hP 0 rfl rfl 7 (by decide) (hts (.fieldLink RX10 92 "BandBoatModel" "loses" "I") (List.mem_of_getElem? (i := 4) rfl)) (fun _ h9 => h9) rfl dX10_fits_58 ?_
                refine lv_bipush (v := (91 : Int32)) hx hb dX10_fits_61 (by decide) ?_
                refine lv_icmp_ge (tgt := 115) hx hb dX10_fits_63 (by decide) (fun c63 => ?_) (fun c63 => ?_)
                · rw [if_pos c63] at hτ57
                  have hσ57 : σ57 = (s_mm_7_57, g_an_57) := by subst hτ57; exact hσ57
                  exact hK s_mm_7_57 g_an_57 _ _ _ (hσ057.trans hσ57) hP hD hS (lv_sub hl [0, 1, 2] rfl)
                · rw [if_neg c63] at hτ57
                  refine lv_aload_n hx hb dX10_fits_66 rfl (lv_at hl 0 rfl) ?_
                  refine lv_iload_n hx hb dX10_fits_67 rfl (lv_at hl 1 rfl) ?_
                  refine kI (wc := [xModel h_mm a_mm (upd (upd (upd (upd (upd (upd (upd (upd mm 0 (0 : Int32)) 6 s_mm_6_43) 7 s_mm_7_57) 8 v5) 9 v6) 10 v7) 11 v8) 12 v9), xI E (a_mm 5) 60 bt, xI E (a_mm 21) 18 rd]) (wr := [xI E (a_mm 26) 10 g_an_57]) (wc' := (fun (_ : Unit) => [xModel h_mm a_mm (upd (upd (upd (upd (upd (upd (upd (upd mm 0 (0 : Int32)) 6 s_mm_6_43) 7 s_mm_7_57) 8 v5) 9 v6) 10 v7) 11 v8) 12 v9), xI E (a_mm 5) 60 bt, xI E (a_mm 21) 18 rd])) (wn := (fun (_ : Unit) => [xModel h_mm a_mm (upd (upd (upd (upd (upd (upd (upd (upd mm 0 (0 : Int32)) 6 s_mm_6_43) 7 s_mm_7_57) 8 v5) 9 v6) 10 v7) 11 v8) 12 v9), xI E (a_mm 5) 60 bt, xI E (a_mm 21) 18 rd, xI E (a_mm 26) 10 g_an_57])) (isC := [0, 1, 2]) (isR := [3]) (is2 := [1, 2, 3, 0]) cx hP hD hS ⟨rfl, rfl, by decide, by decide, by decide, by decide, fun _ => rfl⟩ (rV (As := [.int e_]) (rest := []) (C := RX10) (q0 := 0) (ci := 10) cx (c_X10_fitsAll l E h_mm a_mm (upd (upd (upd (upd (upd (upd (upd (upd mm 0 (0 : Int32)) 6 s_mm_6_43) 7 s_mm_7_57) 8 v5) 9 v6) 10 v7) 11 v8) 12 v9) bt rd e_ (mmOK_of hn28 hB) (hR) _) (cwV 1 hts gX10_fits_X10_fitsAll rfl rfl rfl (by decide +kernel) ⟨Nat.le_of_ble_eq_true rfl, Nat.le_of_ble_eq_true rfl⟩) rfl rfl rfl rfl hl.1 rfl (Nat.le_of_ble_eq_true rfl) dX10_fits_68 ⟨Nat.zero_le _, Nat.zero_le _⟩) (fun r10 u H locs hw hP hD hS => ?_)
                  subst hw
                  have hJ102 : ∀ (g_an_102 : Nat → Int32) (H : Heap) (locs : List Loc) (ls : Array Slot), τ57 = F_X10_fits_j102 s_mm_7_57 g_an_102 → va_P E.1 vwCl [xModel h_mm a_mm (upd (upd (upd (upd (upd (upd (upd (upd mm 0 (0 : Int32)) 6 s_mm_6_43) 7 s_mm_7_57) 8 v5) 9 v6) 10 v7) 11 v8) 12 v9), xI E (a_mm 5) 60 bt, xI E (a_mm 21) 18 rd, xI E (a_mm 26) 10 g_an_102] H → va_D A [xModel h_mm a_mm (upd (upd (upd (upd (upd (upd (upd (upd mm 0 (0 : Int32)) 6 s_mm_6_43) 7 s_mm_7_57) 8 v5) 9 v6) 10 v7) 11 v8) 12 v9), xI E (a_mm 5) 60 bt, xI E (a_mm 21) 18 rd, xI E (a_mm 26) 10 g_an_102] → va_S A s.heap H locs → lv_has ls 3 [(0, .ref h_mm), (1, .int e_), (2, .int what)] → W p l e ({ frames := 3, cells := 0, slots := 0, locals := 67 } : Room) s m ([.ref h_mm, .int e_, .int what] : List Value).toArray below meth c H locs 0 0 Q (F0 m 102 ls []) := by
                    intro g_an_102 H locs ls hτ57 hP hD hS hl
                    unfold F_X10_fits_j102 at hτ57
                    refine lv_aload_n hx hb dX10_fits_102 rfl (lv_at hl 0 rfl) ?_
                    refine lv_dup hx hb dX10_fits_103 rfl ?_
                    refine va_get (D := E.1) (ci := 10) (v := .int s_mm_7_57) (C := RX10) (T := TX10) (N := 27) hx hb hts iX10_fits_X10 hown hE.1 hP 0 rfl rfl 7 (by decide) (hts (.fieldLink RX10 92 "BandBoatModel" "loses" "I") (List.mem_of_getElem? (i := 4) rfl)) (fun _ h9 => h9) rfl dX10_fits_104 ?_
                    refine lv_iconst (v := (1 : Int32)) hx hb dX10_fits_107 (by decide) ?_
                    refine lv_iadd hx hb dX10_fits_108 ?_
                    refine lv_topi (fun v11 ev11 => ?_)
                    have hτ57 : τ57 = F_X10_fits_k109 g_an_102 v11 := by rw [ev11]; exact hτ57
                    unfold F_X10_fits_k109 at hτ57
                    refine va_put (D := E.1) (ci := 10) (v := .int v11) (ty := .int) (C := RX10) (T := TX10) (N := 27) hx hb hts iX10_fits_X10 tyX10 tyX10_ok nmX10 hown hE.1 hP hD hS 0 rfl rfl 7 (by decide) (hts (.fieldLink RX10 92 "BandBoatModel" "loses" "I") (List.mem_of_getElem? (i := 4) rfl)) (fun _ h9 => h9) rfl (by decide +kernel) rfl rfl (Nat.le_of_ble_eq_true rfl) dX10_fits_109 (fun H locs hP hD hS => ?_)
                    have hP : va_P E.1 vwCl [xModel h_mm a_mm (upd (upd (upd (upd (upd (upd (upd (upd mm 0 (0 : Int32)) 6 s_mm_6_43) 7 v11) 8 v5) 9 v6) 10 v7) 11 v8) 12 v9), xI E (a_mm 5) 60 bt, xI E (a_mm 21) 18 rd, xI E (a_mm 26) 10 g_an_102] H := hP
                    have hD : va_D A [xModel h_mm a_mm (upd (upd (upd (upd (upd (upd (upd (upd mm 0 (0 : Int32)) 6 s_mm_6_43) 7 v11) 8 v5) 9 v6) 10 v7) 11 v8) 12 v9), xI E (a_mm 5) 60 bt, xI E (a_mm 21) 18 rd, xI E (a_mm 26) 10 g_an_102] := hD
                    refine lv_goto (tgt := 57) hx hb dX10_fits_112 (by decide) ?_
                    have hσ57 : σ57 = F_X10_fits_l57 mm bt rd e_ v5 v6 v7 v8 v9 s_mm_6_43 n_57 v11 g_an_102 := by subst hτ57; exact hσ57
                    exact ih v11 g_an_102 _ _ _ (by rw [ev11]; exact cnt_lt c63 hM57) hP hD hS (lv_sub hl [0, 1, 2] rfl) (fun os_mm_7_57 og_an_57 H locs ls he => hK os_mm_7_57 og_an_57 H locs ls (hσ057.trans (hσ57.trans he)))
                  refine lv_if_eq (tgt := 102) hx hb dX10_fits_71 (by decide) (fun c71 => ?_) (fun c71 => ?_)
                  · rw [if_pos c71] at hτ57
                    exact hJ102 g_an_57 _ _ _ hτ57 hP hD hS (lv_sub hl [0, 1, 2] rfl)
                  · rw [if_neg c71] at hτ57
                    refine lv_aload_n hx hb dX10_fits_74 rfl (lv_at hl 0 rfl) ?_
                    refine lv_iconst (v := (1 : Int32)) hx hb dX10_fits_75 (by decide) ?_
                    refine lv_aload_n hx hb dX10_fits_76 rfl (lv_at hl 0 rfl) ?_
                    refine va_get (D := E.1) (ci := 10) (v := .int s_mm_6_43) (C := RX10) (T := TX10) (N := 27) hx hb hts iX10_fits_X10 hown hE.1 hP 0 rfl rfl 6 (by decide) (hts (.fieldLink RX10 89 "BandBoatModel" "pulls" "I") (List.mem_of_getElem? (i := 3) rfl)) (fun _ h9 => h9) rfl dX10_fits_77 ?_
                    refine kV (wc := [xModel h_mm a_mm (upd (upd (upd (upd (upd (upd (upd (upd mm 0 (0 : Int32)) 6 s_mm_6_43) 7 s_mm_7_57) 8 v5) 9 v6) 10 v7) 11 v8) 12 v9), xI E (a_mm 26) 10 g_an_57]) (wr := [xI E (a_mm 5) 60 bt, xI E (a_mm 21) 18 rd]) (wc' := (fun (u : (Nat → Int32)) => [xModel h_mm a_mm (upd (upd (upd (upd (upd (upd (upd (upd mm 0 (0 : Int32)) 6 s_mm_6_43) 7 s_mm_7_57) 8 v5) 9 v6) 10 v7) 11 v8) 12 v9), xI E (a_mm 26) 10 u])) (wn := (fun (u : (Nat → Int32)) => [xModel h_mm a_mm (upd (upd (upd (upd (upd (upd (upd (upd mm 0 (0 : Int32)) 6 s_mm_6_43) 7 s_mm_7_57) 8 v5) 9 v6) 10 v7) 11 v8) 12 v9), xI E (a_mm 5) 60 bt, xI E (a_mm 21) 18 rd, xI E (a_mm 26) 10 u])) (isC := [0, 3]) (isR := [1, 2]) (is2 := [2, 0, 1, 3]) cx hP hD hS ⟨rfl, rfl, by decide, by decide, by decide, by decide, fun _ => rfl⟩ (rV (As := [.int (1 : Int32), .int s_mm_6_43]) (rest := []) (C := RX10) (q0 := 0) (ci := 10) cx (c_X10_widens l E h_mm a_mm (upd (upd (upd (upd (upd (upd (upd (upd mm 0 (0 : Int32)) 6 s_mm_6_43) 7 s_mm_7_57) 8 v5) 9 v6) 10 v7) 11 v8) 12 v9) g_an_57 (1 : Int32) s_mm_6_43 (by decide) _) (cwV 2 hts gX10_fits_X10_widens rfl rfl rfl (by decide +kernel) ⟨Nat.le_of_ble_eq_true rfl, Nat.le_of_ble_eq_true rfl⟩) rfl rfl rfl rfl hl.1 rfl (Nat.le_of_ble_eq_true rfl) dX10_fits_80 ⟨Nat.zero_le _, Nat.zero_le _⟩) (fun u H locs hw hP hD hS => ?_)
                    obtain ⟨g12, rfl⟩ : ∃ z, z = u := ⟨_, rfl⟩
                    have hP : va_P E.1 vwCl [xModel h_mm a_mm (upd (upd (upd (upd (upd (upd (upd (upd mm 0 (0 : Int32)) 6 s_mm_6_43) 7 s_mm_7_57) 8 v5) 9 v6) 10 v7) 11 v8) 12 v9), xI E (a_mm 5) 60 bt, xI E (a_mm 21) 18 rd, xI E (a_mm 26) 10 g12] H := hP
                    have hD : va_D A [xModel h_mm a_mm (upd (upd (upd (upd (upd (upd (upd (upd mm 0 (0 : Int32)) 6 s_mm_6_43) 7 s_mm_7_57) 8 v5) 9 v6) 10 v7) 11 v8) 12 v9), xI E (a_mm 5) 60 bt, xI E (a_mm 21) 18 rd, xI E (a_mm 26) 10 g12] := hD
                    have hw : F_X10_widens g_an_57 (1 : Int32) s_mm_6_43 = g12 := hw
                    rw [hw] at hτ57
                    have hτ57 : τ57 = F_X10_fits_k80 s_mm_7_57 g12 := hτ57
                    unfold F_X10_fits_k80 at hτ57
                    refine lv_aload_n hx hb dX10_fits_83 rfl (lv_at hl 0 rfl) ?_
                    refine lv_iconst (v := (3 : Int32)) hx hb dX10_fits_84 (by decide) ?_
                    refine lv_aload_n hx hb dX10_fits_85 rfl (lv_at hl 0 rfl) ?_
                    refine va_get (D := E.1) (ci := 10) (v := .int s_mm_7_57) (C := RX10) (T := TX10) (N := 27) hx hb hts iX10_fits_X10 hown hE.1 hP 0 rfl rfl 7 (by decide) (hts (.fieldLink RX10 92 "BandBoatModel" "loses" "I") (List.mem_of_getElem? (i := 4) rfl)) (fun _ h9 => h9) rfl dX10_fits_86 ?_
                    refine kV (wc := [xModel h_mm a_mm (upd (upd (upd (upd (upd (upd (upd (upd mm 0 (0 : Int32)) 6 s_mm_6_43) 7 s_mm_7_57) 8 v5) 9 v6) 10 v7) 11 v8) 12 v9), xI E (a_mm 26) 10 g12]) (wr := [xI E (a_mm 5) 60 bt, xI E (a_mm 21) 18 rd]) (wc' := (fun (u : (Nat → Int32)) => [xModel h_mm a_mm (upd (upd (upd (upd (upd (upd (upd (upd mm 0 (0 : Int32)) 6 s_mm_6_43) 7 s_mm_7_57) 8 v5) 9 v6) 10 v7) 11 v8) 12 v9), xI E (a_mm 26) 10 u])) (wn := (fun (u : (Nat → Int32)) => [xModel h_mm a_mm (upd (upd (upd (upd (upd (upd (upd (upd mm 0 (0 : Int32)) 6 s_mm_6_43) 7 s_mm_7_57) 8 v5) 9 v6) 10 v7) 11 v8) 12 v9), xI E (a_mm 5) 60 bt, xI E (a_mm 21) 18 rd, xI E (a_mm 26) 10 u])) (isC := [0, 3]) (isR := [1, 2]) (is2 := [2, 0, 1, 3]) cx hP hD hS ⟨rfl, rfl, by decide, by decide, by decide, by decide, fun _ => rfl⟩ (rV (As := [.int (3 : Int32), .int s_mm_7_57]) (rest := []) (C := RX10) (q0 := 0) (ci := 10) cx (c_X10_widens l E h_mm a_mm (upd (upd (upd (upd (upd (upd (upd (upd mm 0 (0 : Int32)) 6 s_mm_6_43) 7 s_mm_7_57) 8 v5) 9 v6) 10 v7) 11 v8) 12 v9) g12 (3 : Int32) s_mm_7_57 (by decide) _) (cwV 2 hts gX10_fits_X10_widens rfl rfl rfl (by decide +kernel) ⟨Nat.le_of_ble_eq_true rfl, Nat.le_of_ble_eq_true rfl⟩) rfl rfl rfl rfl hl.1 rfl (Nat.le_of_ble_eq_true rfl) dX10_fits_89 ⟨Nat.zero_le _, Nat.zero_le _⟩) (fun u H locs hw hP hD hS => ?_)
                    obtain ⟨g13, rfl⟩ : ∃ z, z = u := ⟨_, rfl⟩
                    have hP : va_P E.1 vwCl [xModel h_mm a_mm (upd (upd (upd (upd (upd (upd (upd (upd mm 0 (0 : Int32)) 6 s_mm_6_43) 7 s_mm_7_57) 8 v5) 9 v6) 10 v7) 11 v8) 12 v9), xI E (a_mm 5) 60 bt, xI E (a_mm 21) 18 rd, xI E (a_mm 26) 10 g13] H := hP
                    have hD : va_D A [xModel h_mm a_mm (upd (upd (upd (upd (upd (upd (upd (upd mm 0 (0 : Int32)) 6 s_mm_6_43) 7 s_mm_7_57) 8 v5) 9 v6) 10 v7) 11 v8) 12 v9), xI E (a_mm 5) 60 bt, xI E (a_mm 21) 18 rd, xI E (a_mm 26) 10 g13] := hD
                    have hw : F_X10_widens g12 (3 : Int32) s_mm_7_57 = g13 := hw
                    rw [hw] at hτ57
                    have hτ57 : τ57 = F_X10_fits_k89 s_mm_7_57 g13 := hτ57
                    unfold F_X10_fits_k89 at hτ57
                    refine lv_aload_n hx hb dX10_fits_92 rfl (lv_at hl 0 rfl) ?_
                    refine va_get (D := E.1) (ci := 10) (v := .ref (a_mm 26)) (C := RX10) (T := TX10) (N := 27) hx hb hts iX10_fits_X10 hown hE.1 hP 0 rfl rfl 26 (by decide) (hts (.fieldLink RX10 34 "BandBoatModel" "answer" "[I") (List.mem_of_getElem? (i := 2) rfl)) (fun _ h9 => h9) rfl dX10_fits_93 ?_
                    refine lv_iconst (v := (0 : Int32)) hx hb dX10_fits_96 (by decide) ?_
                    refine lv_dup2_11 hx hb dX10_fits_97 rfl rfl ?_
                    refine ar_ild (k := 0) (v := (g13 0)) hx hb hE hP 3 rfl (by unfold vp_in; decide) rfl rfl dX10_fits_98 ?_
                    refine lv_iconst (v := (1 : Int32)) hx hb dX10_fits_99 (by decide) ?_
                    refine lv_iadd hx hb dX10_fits_100 ?_
                    refine lv_topi (fun v14 ev14 => ?_)
                    have hτ57 : τ57 = F_X10_fits_k101 s_mm_7_57 g13 v14 := by rw [ev14]; exact hτ57
                    unfold F_X10_fits_k101 at hτ57
                    refine ar_ist (k := 0) (ws' := [xModel h_mm a_mm (upd (upd (upd (upd (upd (upd (upd (upd mm 0 (0 : Int32)) 6 s_mm_6_43) 7 s_mm_7_57) 8 v5) 9 v6) 10 v7) 11 v8) 12 v9), xI E (a_mm 5) 60 bt, xI E (a_mm 21) 18 rd, xI E (a_mm 26) 10 (upd g13 0 v14)]) hx hb hE hP hD hS 3 rfl (by unfold vp_in; decide) rfl rfl dX10_fits_101 (fun H locs hP hD hS => ?_)
                    exact hJ102 (upd g13 0 v14) _ _ _ hτ57 hP hD hS (lv_sub hl [0, 1, 2] rfl)
            refine hL57 (91) (0 : Int32) g_an_43 _ _ _ (by decide) hP hD hS (lv_sub hl [0, 1, 2] rfl) ?_
            intro bs_mm_7_57 bg_an_57 H locs ls he hP hD hS hl
            rw [he] at hτ43
            have hτ43 : τ43 = F_X10_fits_x57 s_mm_6_43 bs_mm_7_57 bg_an_57 := hτ43
            unfold F_X10_fits_x57 at hτ43
            refine lv_aload_n hx hb dX10_fits_115 rfl (lv_at hl 0 rfl) ?_
            refine lv_dup hx hb dX10_fits_116 rfl ?_
            refine va_get (D := E.1) (ci := 10) (v := .int s_mm_6_43) (C := RX10) (T := TX10) (N := 27) hx hb hts iX10_fits_X10 hown hE.1 hP 0 rfl rfl 6 (by decide) (hts (.fieldLink RX10 89 "BandBoatModel" "pulls" "I") (List.mem_of_getElem? (i := 3) rfl)) (fun _ h9 => h9) rfl dX10_fits_117 ?_
            refine lv_iconst (v := (1 : Int32)) hx hb dX10_fits_120 (by decide) ?_
            refine lv_iadd hx hb dX10_fits_121 ?_
            refine lv_topi (fun v15 ev15 => ?_)
            have hτ43 : τ43 = F_X10_fits_k122 bs_mm_7_57 bg_an_57 v15 := by rw [ev15]; exact hτ43
            unfold F_X10_fits_k122 at hτ43
            refine va_put (D := E.1) (ci := 10) (v := .int v15) (ty := .int) (C := RX10) (T := TX10) (N := 27) hx hb hts iX10_fits_X10 tyX10 tyX10_ok nmX10 hown hE.1 hP hD hS 0 rfl rfl 6 (by decide) (hts (.fieldLink RX10 89 "BandBoatModel" "pulls" "I") (List.mem_of_getElem? (i := 3) rfl)) (fun _ h9 => h9) rfl (by decide +kernel) rfl rfl (Nat.le_of_ble_eq_true rfl) dX10_fits_122 (fun H locs hP hD hS => ?_)
            have hP : va_P E.1 vwCl [xModel h_mm a_mm (upd (upd (upd (upd (upd (upd (upd (upd mm 0 (0 : Int32)) 6 v15) 7 bs_mm_7_57) 8 v5) 9 v6) 10 v7) 11 v8) 12 v9), xI E (a_mm 5) 60 bt, xI E (a_mm 21) 18 rd, xI E (a_mm 26) 10 bg_an_57] H := hP
            have hD : va_D A [xModel h_mm a_mm (upd (upd (upd (upd (upd (upd (upd (upd mm 0 (0 : Int32)) 6 v15) 7 bs_mm_7_57) 8 v5) 9 v6) 10 v7) 11 v8) 12 v9), xI E (a_mm 5) 60 bt, xI E (a_mm 21) 18 rd, xI E (a_mm 26) 10 bg_an_57] := hD
            refine lv_goto (tgt := 43) hx hb dX10_fits_125 (by decide) ?_
            have hσ43 : σ43 = F_X10_fits_l43 mm bt rd e_ v5 v6 v7 v8 v9 n_43 v15 bs_mm_7_57 bg_an_57 := by subst hτ43; exact hσ43
            exact ih v15 bs_mm_7_57 bg_an_57 _ _ _ (by rw [ev15]; exact cnt_lt c49 hM43) hP hD hS (lv_sub hl [0, 1, 2] rfl) (fun os_mm_6_43 os_mm_7_43 og_an_43 H locs ls he => hK os_mm_6_43 os_mm_7_43 og_an_43 H locs ls (hσ043.trans (hσ43.trans he)))
      refine hL43 (99) (1 : Int32) v4 (upd an 0 (0 : Int32)) _ _ _ (by decide) hP hD hS (lv_sub hl [0, 1, 2] rfl) ?_
      intro bs_mm_6_43 bs_mm_7_43 bg_an_43 H locs ls he hP hD hS hl
      rw [he] at hρ
      have hρ : ρ = F_X10_fits_x43 what v5 v6 v7 v8 v9 bs_mm_6_43 bs_mm_7_43 bg_an_43 := hρ
      unfold F_X10_fits_x43 at hρ
      refine lv_iload_n hx hb dX10_fits_128 rfl (lv_at hl 2 rfl) ?_
      have hJ146 : ∀ (H : Heap) (locs : List Loc) (ls : Array Slot), ρ = F_X10_fits_j146 what v5 v6 v7 v8 v9 bs_mm_6_43 bs_mm_7_43 bg_an_43 → va_P E.1 vwCl [xModel h_mm a_mm (upd (upd (upd (upd (upd (upd (upd (upd mm 0 (0 : Int32)) 6 bs_mm_6_43) 7 bs_mm_7_43) 8 v5) 9 v6) 10 v7) 11 v8) 12 v9), xI E (a_mm 5) 60 bt, xI E (a_mm 21) 18 rd, xI E (a_mm 26) 10 bg_an_43] H → va_D A [xModel h_mm a_mm (upd (upd (upd (upd (upd (upd (upd (upd mm 0 (0 : Int32)) 6 bs_mm_6_43) 7 bs_mm_7_43) 8 v5) 9 v6) 10 v7) 11 v8) 12 v9), xI E (a_mm 5) 60 bt, xI E (a_mm 21) 18 rd, xI E (a_mm 26) 10 bg_an_43] → va_S A s.heap H locs → lv_has ls 3 [(0, .ref h_mm), (1, .int e_), (2, .int what)] → W p l e ({ frames := 3, cells := 0, slots := 0, locals := 67 } : Room) s m ([.ref h_mm, .int e_, .int what] : List Value).toArray below meth c H locs 0 0 Q (F0 m 146 ls []) := by
        intro  H locs ls hρ hP hD hS hl
        unfold F_X10_fits_j146 at hρ
        refine lv_aload_n hx hb dX10_fits_146 rfl (lv_at hl 0 rfl) ?_
        refine va_get (D := E.1) (ci := 10) (v := .ref (a_mm 26)) (C := RX10) (T := TX10) (N := 27) hx hb hts iX10_fits_X10 hown hE.1 hP 0 rfl rfl 26 (by decide) (hts (.fieldLink RX10 34 "BandBoatModel" "answer" "[I") (List.mem_of_getElem? (i := 2) rfl)) (fun _ h9 => h9) rfl dX10_fits_147 ?_
        refine lv_iload_n hx hb dX10_fits_150 rfl (lv_at hl 2 rfl) ?_
        refine ar_ild (k := (Int32.toNatClampNeg what)) (v := (bg_an_43 (Int32.toNatClampNeg what))) hx hb hE hP 3 rfl (an_in c22 (by decide)) rfl rfl dX10_fits_151 ?_
        exact hq (bg_an_43 (Int32.toNatClampNeg what)) ((0 : Int32), bs_mm_6_43, bs_mm_7_43, v5, v6, v7, v8, v9, bg_an_43) _ _ _ _ dX10_fits_152 rfl (hρ0.trans hρ) hP hD hS
      refine lv_if_le (tgt := 146) hx hb dX10_fits_129 (by decide) (fun c129 => ?_) (fun c129 => ?_)
      · rw [if_pos c129] at hρ
        exact hJ146 _ _ _ hρ hP hD hS (lv_sub hl [0, 1, 2] rfl)
      · rw [if_neg c129] at hρ
        refine lv_aload_n hx hb dX10_fits_132 rfl (lv_at hl 0 rfl) ?_
        refine va_get (D := E.1) (ci := 10) (v := .ref (a_mm 26)) (C := RX10) (T := TX10) (N := 27) hx hb hts iX10_fits_X10 hown hE.1 hP 0 rfl rfl 26 (by decide) (hts (.fieldLink RX10 34 "BandBoatModel" "answer" "[I") (List.mem_of_getElem? (i := 2) rfl)) (fun _ h9 => h9) rfl dX10_fits_133 ?_
        refine lv_iconst (v := (0 : Int32)) hx hb dX10_fits_136 (by decide) ?_
        refine ar_ild (k := 0) (v := (bg_an_43 0)) hx hb hE hP 3 rfl (by unfold vp_in; decide) rfl rfl dX10_fits_137 ?_
        refine lv_if_ne (tgt := 146) hx hb dX10_fits_138 (by decide) (fun c138 => ?_) (fun c138 => ?_)
        · rw [if_neg c138] at hρ
          exact hJ146 _ _ _ hρ hP hD hS (lv_sub hl [0, 1, 2] rfl)
        · rw [if_pos c138] at hρ
          refine lv_bipush (v := (-4 : Int32)) hx hb dX10_fits_141 (by decide) ?_
          refine lv_goto (tgt := 152) hx hb dX10_fits_143 (by decide) ?_
          exact hq (-4 : Int32) ((0 : Int32), bs_mm_6_43, bs_mm_7_43, v5, v6, v7, v8, v9, bg_an_43) _ _ _ _ dX10_fits_152 rfl (hρ0.trans hρ) hP hD hS
    · rw [if_pos c22] at hρ
      refine lv_iconst (v := (-1 : Int32)) hx hb dX10_fits_25 (by decide) ?_
      exact hq (-1 : Int32) ((0 : Int32), (mm 6), (mm 7), (mm 8), (mm 9), (mm 10), (mm 11), (mm 12), an) _ _ _ _ dX10_fits_26 rfl (hρ0.trans hρ) hP hD hS
