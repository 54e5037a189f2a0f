theorem at_step {t v : Int32} {n : Nat} (h : 0 ≤ t.toInt ∧ t.toInt + (n + 1 : Nat) ≤ 5000) (ev : v = t + (1 : Int32)) : 0 ≤ v.toInt ∧ v.toInt + (n : Nat) ≤ 5000 := by
  have e2 : v.toInt = t.toInt + 1 := by rw [ev, i_add (by rw [i_one]; omega) (by rw [i_one]; omega), i_one]
  omega
theorem at_mono {t0 t v : Int32} {n : Nat} (h : t0.toInt ≤ t.toInt ∧ t.toInt + (n + 1 : Nat) ≤ t0.toInt + 4) (ht : 0 ≤ t.toInt ∧ t.toInt ≤ 5000) (ev : v = t + (1 : Int32)) : t0.toInt ≤ v.toInt ∧ v.toInt + (n : Nat) ≤ t0.toInt + 4 := by
  have e2 : v.toInt = t.toInt + 1 := by rw [ev, i_add (by rw [i_one]; omega) (by rw [i_one]; omega), i_one]
  omega
theorem at_end {t0 t v : Int32} (h0 : 0 ≤ t0.toInt ∧ t0.toInt ≤ 4000) (h : t0.toInt ≤ t.toInt ∧ t.toInt ≤ t0.toInt + 4) (ev : v = t + (1 : Int32)) : t0.toInt < v.toInt ∧ v.toInt ≤ t0.toInt + 5 := by
  have e2 : v.toInt = t.toInt + 1 := by rw [ev, i_add (by rw [i_one]; omega) (by rw [i_one]; omega), i_one]
  omega
def F_X10_number_k56 (x5_6 : Int32) (v4 : Int32) (v5 : Int32) : (Int32 × Int32 × Int32) ⊕ (Int32 × Int32 × Int32) := Sum.inl ((x5_6 + (1 : Int32)), v4, v5)
def F_X10_number_k47 (x5_6 : Int32) (s_mm_3_6 : Int32) (v4 : Int32) : (Int32 × Int32 × Int32) ⊕ (Int32 × Int32 × Int32) := F_X10_number_k56 x5_6 v4 (s_mm_3_6 + (1 : Int32))
def F_X10_number_b6 (mm : Nat → Int32) (tx : Nat → Int32) (x5_6 : Int32) (x4_6 : Int32) (s_mm_3_6 : Int32) : (Int32 × Int32 × Int32) ⊕ (Int32 × Int32 × Int32) := (if (F_X10_in (F_X10_byteAt (upd mm 3 s_mm_3_6) tx s_mm_3_6) (48 : Int32) (57 : Int32)) = (0 : Int32) then Sum.inr (x5_6, x4_6, s_mm_3_6) else (if (4 : Int32) ≤ x5_6 then Sum.inr (x5_6, x4_6, s_mm_3_6) else F_X10_number_k47 x5_6 s_mm_3_6 ((((10 : Int32) * x4_6) + (F_X10_byteAt (upd mm 3 s_mm_3_6) tx s_mm_3_6)) - (48 : Int32))))
def F_X10_number_l6 (mm : Nat → Int32) (tx : Nat → Int32) : Nat → (Int32) → (Int32) → (Int32) → Int32 × Int32 × Int32
  | 0, x5_6, x4_6, s_mm_3_6 => (x5_6, x4_6, s_mm_3_6)
  | n_6 + 1, x5_6, x4_6, s_mm_3_6 => match F_X10_number_b6 mm tx x5_6 x4_6 s_mm_3_6 with
    | Sum.inl (c_x5_6, c_x4_6, c_s_mm_3_6) => F_X10_number_l6 mm tx n_6 c_x5_6 c_x4_6 c_s_mm_3_6
    | Sum.inr r_ => r_
def F_X10_number_k120 (least : Int32) (bx4_6 : Int32) (y0_110 : Int32) (v6 : Int32) : Int32 × Int32 × Int32 := (if y0_110 = (0 : Int32) then (least, v6, y0_110) else (bx4_6, v6, y0_110))
def F_X10_number_j110 (least : Int32) (bx4_6 : Int32) (bs_mm_3_6 : Int32) (y0_110 : Int32) : Int32 × Int32 × Int32 := F_X10_number_k120 least bx4_6 y0_110 (bs_mm_3_6 + (1 : Int32))
def F_X10_number_j109 (least : Int32) (bx4_6 : Int32) (bs_mm_3_6 : Int32) : Int32 × Int32 × Int32 := F_X10_number_j110 least bx4_6 bs_mm_3_6 (0 : Int32)
def F_X10_number_x6 (mm : Nat → Int32) (tx : Nat → Int32) (least : Int32) (most : Int32) (behind : Int32) (bx5_6 : Int32) (bx4_6 : Int32) (bs_mm_3_6 : Int32) : Int32 × Int32 × Int32 := (if (mm 4) = (0 : Int32) then F_X10_number_j109 least bx4_6 bs_mm_3_6 else (if (F_X10_in bx5_6 (1 : Int32) (3 : Int32)) = (0 : Int32) then F_X10_number_j109 least bx4_6 bs_mm_3_6 else (if (F_X10_in bx4_6 least most) = (0 : Int32) then F_X10_number_j109 least bx4_6 bs_mm_3_6 else (if (F_X10_byteAt (upd mm 3 bs_mm_3_6) tx bs_mm_3_6) = behind then F_X10_number_j110 least bx4_6 bs_mm_3_6 (1 : Int32) else F_X10_number_j109 least bx4_6 bs_mm_3_6))))
def F_X10_number (mm : Nat → Int32) (tx : Nat → Int32) (least : Int32) (most : Int32) (behind : Int32) : Int32 × Int32 × Int32 := (match F_X10_number_l6 mm tx (4) (0 : Int32) (0 : Int32) (mm 3) with | (bx5_6, bx4_6, bs_mm_3_6) => F_X10_number_x6 mm tx least most behind bx5_6 bx4_6 bs_mm_3_6)
theorem iX10_number_X10 : ∀ w ∈ wsX100, w ∈ wsX10_number := fun _ h => List.mem_cons_of_mem _ (List.mem_append_right _ h)
set_option maxHeartbeats 4000000 in
set_option maxRecDepth 100000 in
theorem c_X10_number (l : Launch) (E : wV) (h_mm : Nat) (a_mm : Nat → Nat) (mm : Nat → Int32) (tx : Nat → Int32) (least : Int32) (most : Int32) (behind : Int32) (ha : 0 ≤ (mm 3).toInt ∧ (mm 3).toInt ≤ 4000) (ht : (mm 2).toInt ≤ 300) : MetI l yX10_number wsX10_number ({ frames := 1, cells := 0, slots := 0, locals := 22 } : Room) E ([.ref h_mm, .int least, .int most, .int behind] : List Value) [xModel h_mm a_mm mm, xI E (a_mm 1) 300 tx] (fun (r : Int32) (u : Int32 × Int32) => F_X10_number mm tx least most behind = (r, u) ∧ ((mm 3).toInt < (u.1).toInt ∧ (u.1).toInt ≤ (mm 3).toInt + 5)) (fun (u : Int32 × Int32) => [xModel h_mm a_mm (upd (upd mm 3 u.1) 4 u.2), xI E (a_mm 1) 300 tx]) := by
  refine MetI.of (cc := cX10_number) (maxL := 6) (own := RX10) (by decide) rfl rfl (Nat.le_of_ble_eq_true rfl) ?_
  intro p e s m below meth c A Q ls cx hP hD hS hl hq
  obtain ⟨hx, hb, hml, hown, hts, hE, hA⟩ := id cx
  have hl : lv_has ls 6 [(0, .ref h_mm), (1, .int least), (2, .int most), (3, .int behind)] := hl
  have hP : va_P E.1 vwCl [xModel h_mm a_mm mm, xI E (a_mm 1) 300 tx] s.heap := hP
  obtain ⟨ρ, hρ0⟩ : ∃ ρ, F_X10_number mm tx least most behind = ρ := ⟨_, rfl⟩
  have hρ := hρ0.symm
  unfold F_X10_number at hρ
  refine lv_iconst (v := (0 : Int32)) hx hb dX10_number_0 (by decide) ?_
  refine lv_istore (lv' := [(4, .int (0 : Int32)), (0, .ref h_mm), (1, .int least), (2, .int most), (3, .int behind)]) hx hb dX10_number_1 hl (by decide) rfl (fun ls hl => ?_)
  refine lv_iconst (v := (0 : Int32)) hx hb dX10_number_3 (by decide) ?_
  refine lv_istore (lv' := [(5, .int (0 : Int32)), (4, .int (0 : Int32)), (0, .ref h_mm), (1, .int least), (2, .int most), (3, .int behind)]) hx hb dX10_number_4 hl (by decide) rfl (fun ls hl => ?_)
  have hL6 : ∀ (n_6 : Nat) (x5_6 : Int32) (x4_6 : Int32) (s_mm_3_6 : Int32) (H : Heap) (locs : List Loc) (ls : Array Slot), (((4 : Int32) : Int32).toInt ≤ (x5_6).toInt + (n_6 : Nat)) ∧ ((mm 3).toInt ≤ (s_mm_3_6).toInt ∧ (s_mm_3_6).toInt + (n_6 : Nat) ≤ (mm 3).toInt + 4) → va_P E.1 vwCl [xModel h_mm a_mm (upd mm 3 s_mm_3_6), xI E (a_mm 1) 300 tx] H → va_D A [xModel h_mm a_mm (upd mm 3 s_mm_3_6), xI E (a_mm 1) 300 tx] → va_S A s.heap H locs → lv_has ls 6 [(5, .int x5_6), (4, .int x4_6), (0, .ref h_mm), (1, .int least), (2, .int most), (3, .int behind)] → (∀ (ox5_6 : Int32) (ox4_6 : Int32) (os_mm_3_6 : Int32) (H : Heap) (locs : List Loc) (ls : Array Slot), F_X10_number_l6 mm tx n_6 x5_6 x4_6 s_mm_3_6 = (ox5_6, ox4_6, os_mm_3_6) → ((mm 3).toInt ≤ (os_mm_3_6).toInt ∧ (os_mm_3_6).toInt ≤ (mm 3).toInt + 4) → va_P E.1 vwCl [xModel h_mm a_mm (upd mm 3 os_mm_3_6), xI E (a_mm 1) 300 tx] H → va_D A [xModel h_mm a_mm (upd mm 3 os_mm_3_6), xI E (a_mm 1) 300 tx] → va_S A s.heap H locs → lv_has ls 6 [(5, .int ox5_6), (4, .int ox4_6), (0, .ref h_mm), (1, .int least), (2, .int most), (3, .int behind)] → W p l e ({ frames := 1, cells := 0, slots := 0, locals := 22 } : Room) s m ([.ref h_mm, .int least, .int most, .int behind] : List Value).toArray below meth c H locs 0 0 Q (F0 m 65 ls [])) → W p l e ({ frames := 1, cells := 0, slots := 0, locals := 22 } : Room) s m ([.ref h_mm, .int least, .int most, .int behind] : List Value).toArray below meth c H locs 0 0 Q (F0 m 6 ls []) := by
    intro n_6
    induction n_6 with
    | zero =>
      intro x5_6 x4_6 s_mm_3_6 H locs ls hM hP hD hS hl hK
      have hM6 := hM
      obtain ⟨σ6, hσ06⟩ : ∃ σ, F_X10_number_l6 mm tx 0 x5_6 x4_6 s_mm_3_6 = σ := ⟨_, rfl⟩
      have hσ6 := hσ06.symm
      rw [F_X10_number_l6] at hσ6
      refine lv_aload_n hx hb dX10_number_6 rfl (lv_at hl 2 rfl) ?_
      refine lv_aload_n hx hb dX10_number_7 rfl (lv_at hl 2 rfl) ?_
      refine va_get (D := E.1) (ci := 10) (v := .int s_mm_3_6) (C := RX10) (T := TX10) (N := 27) hx hb hts iX10_number_X10 hown hE.1 hP 0 rfl rfl 3 (by decide) (hts (.fieldLink RX10 54 "BandBoatModel" "at" "I") (List.mem_of_getElem? (i := 1) rfl)) (fun _ h9 => h9) rfl dX10_number_8 ?_
      refine kI (wc := [xModel h_mm a_mm (upd mm 3 s_mm_3_6), xI E (a_mm 1) 300 tx]) (wr := []) (wc' := (fun (_ : Unit) => [xModel h_mm a_mm (upd mm 3 s_mm_3_6), xI E (a_mm 1) 300 tx])) (wn := (fun (_ : Unit) => [xModel h_mm a_mm (upd mm 3 s_mm_3_6), xI E (a_mm 1) 300 tx])) (isC := [0, 1]) (isR := []) (is2 := [0, 1]) cx hP hD hS ⟨rfl, rfl, by decide, by decide, by decide, by decide, fun _ => rfl⟩ (rV (As := [.int s_mm_3_6]) (rest := []) (C := RX10) (q0 := 0) (ci := 10) cx (c_X10_byteAt l E h_mm a_mm (upd mm 3 s_mm_3_6) tx s_mm_3_6 (Int.le_trans ha.1 hM.2.1) (ht) _) (cwV 1 hts gX10_number_X10_byteAt rfl rfl rfl (by decide +kernel) ⟨Nat.le_of_ble_eq_true rfl, Nat.le_of_ble_eq_true rfl⟩) rfl rfl rfl rfl hl.1 rfl (Nat.le_of_ble_eq_true rfl) dX10_number_11 ⟨Nat.zero_le _, Nat.zero_le _⟩) (fun r6 u H locs hw hP hD hS => ?_)
      subst hw
      refine lv_bipush (v := (48 : Int32)) hx hb dX10_number_14 (by decide) ?_
      refine lv_bipush (v := (57 : Int32)) hx hb dX10_number_16 (by decide) ?_
      refine kI (wc := []) (wr := [xModel h_mm a_mm (upd mm 3 s_mm_3_6), xI E (a_mm 1) 300 tx]) (wc' := (fun (_ : Unit) => [])) (wn := (fun (_ : Unit) => [xModel h_mm a_mm (upd mm 3 s_mm_3_6), xI E (a_mm 1) 300 tx])) (isC := []) (isR := [0, 1]) (is2 := [0, 1]) cx hP hD hS ⟨rfl, rfl, by decide, by decide, by decide, by decide, fun _ => rfl⟩ (rS (As := [.int (F_X10_byteAt (upd mm 3 s_mm_3_6) tx s_mm_3_6), .int (48 : Int32), .int (57 : Int32)]) (rest := []) cx (c_X10_in l E (F_X10_byteAt (upd mm 3 s_mm_3_6) tx s_mm_3_6) (48 : Int32) (57 : Int32) _) (va_cwS 3 hts gX10_number_X10_in rfl rfl rfl (by decide +kernel) ⟨Nat.le_of_ble_eq_true rfl, Nat.le_of_ble_eq_true rfl⟩) rfl hl.1 rfl (Nat.le_of_ble_eq_true rfl) dX10_number_18 ⟨Nat.zero_le _, Nat.zero_le _⟩) (fun r7 u H locs hw hP hD hS => ?_)
      subst hw
      refine lv_if_eq (tgt := 65) hx hb dX10_number_21 (by decide) (fun c21 => ?_) (fun c21 => ?_)
      · exact hK x5_6 x4_6 s_mm_3_6 _ _ _ (hσ06.trans hσ6) (by omega) hP hD hS (lv_sub hl [0, 1, 2, 3, 4, 5] rfl)
      · refine lv_iload hx hb dX10_number_24 (lv_at hl 0 rfl) ?_
        refine lv_iconst (v := (4 : Int32)) hx hb dX10_number_26 (by decide) ?_
        refine lv_icmp_ge (tgt := 65) hx hb dX10_number_27 (by decide) (fun c27 => ?_) (fun c27 => ?_)
        · exact hK x5_6 x4_6 s_mm_3_6 _ _ _ (hσ06.trans hσ6) (by omega) hP hD hS (lv_sub hl [0, 1, 2, 3, 4, 5] rfl)
        · exact (cnt_lt0 c27 hM.1).elim
    | succ n_6 ih =>
      intro x5_6 x4_6 s_mm_3_6 H locs ls hM hP hD hS hl hK
      have hM6 := hM
      obtain ⟨σ6, hσ06⟩ : ∃ σ, F_X10_number_l6 mm tx (n_6 + 1) x5_6 x4_6 s_mm_3_6 = σ := ⟨_, rfl⟩
      have hσ6 := hσ06.symm
      rw [F_X10_number_l6] at hσ6
      obtain ⟨τ6, hτ06⟩ : ∃ τ, F_X10_number_b6 mm tx x5_6 x4_6 s_mm_3_6 = τ := ⟨_, rfl⟩
      rw [hτ06] at hσ6
      have hτ6 := hτ06.symm
      unfold F_X10_number_b6 at hτ6
      refine lv_aload_n hx hb dX10_number_6 rfl (lv_at hl 2 rfl) ?_
      refine lv_aload_n hx hb dX10_number_7 rfl (lv_at hl 2 rfl) ?_
      refine va_get (D := E.1) (ci := 10) (v := .int s_mm_3_6) (C := RX10) (T := TX10) (N := 27) hx hb hts iX10_number_X10 hown hE.1 hP 0 rfl rfl 3 (by decide) (hts (.fieldLink RX10 54 "BandBoatModel" "at" "I") (List.mem_of_getElem? (i := 1) rfl)) (fun _ h9 => h9) rfl dX10_number_8 ?_
      refine kI (wc := [xModel h_mm a_mm (upd mm 3 s_mm_3_6), xI E (a_mm 1) 300 tx]) (wr := []) (wc' := (fun (_ : Unit) => [xModel h_mm a_mm (upd mm 3 s_mm_3_6), xI E (a_mm 1) 300 tx])) (wn := (fun (_ : Unit) => [xModel h_mm a_mm (upd mm 3 s_mm_3_6), xI E (a_mm 1) 300 tx])) (isC := [0, 1]) (isR := []) (is2 := [0, 1]) cx hP hD hS ⟨rfl, rfl, by decide, by decide, by decide, by decide, fun _ => rfl⟩ (rV (As := [.int s_mm_3_6]) (rest := []) (C := RX10) (q0 := 0) (ci := 10) cx (c_X10_byteAt l E h_mm a_mm (upd mm 3 s_mm_3_6) tx s_mm_3_6 (Int.le_trans ha.1 hM.2.1) (ht) _) (cwV 1 hts gX10_number_X10_byteAt rfl rfl rfl (by decide +kernel) ⟨Nat.le_of_ble_eq_true rfl, Nat.le_of_ble_eq_true rfl⟩) rfl rfl rfl rfl hl.1 rfl (Nat.le_of_ble_eq_true rfl) dX10_number_11 ⟨Nat.zero_le _, Nat.zero_le _⟩) (fun r1 u H locs hw hP hD hS => ?_)
      subst hw
      refine lv_bipush (v := (48 : Int32)) hx hb dX10_number_14 (by decide) ?_
      refine lv_bipush (v := (57 : Int32)) hx hb dX10_number_16 (by decide) ?_
      refine kI (wc := []) (wr := [xModel h_mm a_mm (upd mm 3 s_mm_3_6), xI E (a_mm 1) 300 tx]) (wc' := (fun (_ : Unit) => [])) (wn := (fun (_ : Unit) => [xModel h_mm a_mm (upd mm 3 s_mm_3_6), xI E (a_mm 1) 300 tx])) (isC := []) (isR := [0, 1]) (is2 := [0, 1]) cx hP hD hS ⟨rfl, rfl, by decide, by decide, by decide, by decide, fun _ => rfl⟩ (rS (As := [.int (F_X10_byteAt (upd mm 3 s_mm_3_6) tx s_mm_3_6), .int (48 : Int32), .int (57 : Int32)]) (rest := []) cx (c_X10_in l E (F_X10_byteAt (upd mm 3 s_mm_3_6) tx s_mm_3_6) (48 : Int32) (57 : Int32) _) (va_cwS 3 hts gX10_number_X10_in rfl rfl rfl (by decide +kernel) ⟨Nat.le_of_ble_eq_true rfl, Nat.le_of_ble_eq_true rfl⟩) rfl hl.1 rfl (Nat.le_of_ble_eq_true rfl) dX10_number_18 ⟨Nat.zero_le _, Nat.zero_le _⟩) (fun r2 u H locs hw hP hD hS => ?_)
      subst hw
      refine lv_if_eq (tgt := 65) hx hb dX10_number_21 (by decide) (fun c21 => ?_) (fun c21 => ?_)
      · rw [if_pos c21] at hτ6
        have hσ6 : σ6 = (x5_6, x4_6, s_mm_3_6) := by subst hτ6; exact hσ6
        exact hK x5_6 x4_6 s_mm_3_6 _ _ _ (hσ06.trans hσ6) (by omega) hP hD hS (lv_sub hl [0, 1, 2, 3, 4, 5] rfl)
      · rw [if_neg c21] at hτ6
        refine lv_iload hx hb dX10_number_24 (lv_at hl 0 rfl) ?_
        refine lv_iconst (v := (4 : Int32)) hx hb dX10_number_26 (by decide) ?_
        refine lv_icmp_ge (tgt := 65) hx hb dX10_number_27 (by decide) (fun c27 => ?_) (fun c27 => ?_)
        · rw [if_pos c27] at hτ6
          have hσ6 : σ6 = (x5_6, x4_6, s_mm_3_6) := by subst hτ6; exact hσ6
          exact hK x5_6 x4_6 s_mm_3_6 _ _ _ (hσ06.trans hσ6) (by omega) hP hD hS (lv_sub hl [0, 1, 2, 3, 4, 5] rfl)
        · rw [if_neg c27] at hτ6
          refine lv_bipush (v := (10 : Int32)) hx hb dX10_number_30 (by decide) ?_
          refine lv_iload hx hb dX10_number_32 (lv_at hl 1 rfl) ?_
          refine lv_imul hx hb dX10_number_34 ?_
          refine lv_aload_n hx hb dX10_number_35 rfl (lv_at hl 2 rfl) ?_
          refine lv_aload_n hx hb dX10_number_36 rfl (lv_at hl 2 rfl) ?_
          refine va_get (D := E.1) (ci := 10) (v := .int s_mm_3_6) (C := RX10) (T := TX10) (N := 27) hx hb hts iX10_number_X10 hown hE.1 hP 0 rfl rfl 3 (by decide) (hts (.fieldLink RX10 54 "BandBoatModel" "at" "I") (List.mem_of_getElem? (i := 1) rfl)) (fun _ h9 => h9) rfl dX10_number_37 ?_
          refine kI (wc := [xModel h_mm a_mm (upd mm 3 s_mm_3_6), xI E (a_mm 1) 300 tx]) (wr := []) (wc' := (fun (_ : Unit) => [xModel h_mm a_mm (upd mm 3 s_mm_3_6), xI E (a_mm 1) 300 tx])) (wn := (fun (_ : Unit) => [xModel h_mm a_mm (upd mm 3 s_mm_3_6), xI E (a_mm 1) 300 tx])) (isC := [0, 1]) (isR := []) (is2 := [0, 1]) cx hP hD hS ⟨rfl, rfl, by decide, by decide, by decide, by decide, fun _ => rfl⟩ (rV (As := [.int s_mm_3_6]) (rest := [.int ((10 : Int32) * x4_6)]) (C := RX10) (q0 := 0) (ci := 10) cx (c_X10_byteAt l E h_mm a_mm (upd mm 3 s_mm_3_6) tx s_mm_3_6 (Int.le_trans ha.1 hM.2.1) (ht) _) (cwV 1 hts gX10_number_X10_byteAt rfl rfl rfl (by decide +kernel) ⟨Nat.le_of_ble_eq_true rfl, Nat.le_of_ble_eq_true rfl⟩) rfl rfl rfl rfl hl.1 rfl (Nat.le_of_ble_eq_true rfl) dX10_number_40 ⟨Nat.zero_le _, Nat.zero_le _⟩) (fun r3 u H locs hw hP hD hS => ?_)
          subst hw
          refine lv_iadd hx hb dX10_number_43 ?_
          refine lv_bipush (v := (48 : Int32)) hx hb dX10_number_44 (by decide) ?_
          refine lv_isub hx hb dX10_number_46 ?_
          refine lv_topi (fun v4 ev4 => ?_)
          have hτ6 : τ6 = F_X10_number_k47 x5_6 s_mm_3_6 v4 := by rw [ev4]; exact hτ6
          unfold F_X10_number_k47 at hτ6
          refine lv_istore (lv' := [(4, .int v4), (5, .int x5_6), (0, .ref h_mm), (1, .int least), (2, .int most), (3, .int behind)]) hx hb dX10_number_47 hl (by decide) rfl (fun ls hl => ?_)
          refine lv_aload_n hx hb dX10_number_49 rfl (lv_at hl 2 rfl) ?_
          refine lv_dup hx hb dX10_number_50 rfl ?_
          refine va_get (D := E.1) (ci := 10) (v := .int s_mm_3_6) (C := RX10) (T := TX10) (N := 27) hx hb hts iX10_number_X10 hown hE.1 hP 0 rfl rfl 3 (by decide) (hts (.fieldLink RX10 54 "BandBoatModel" "at" "I") (List.mem_of_getElem? (i := 1) rfl)) (fun _ h9 => h9) rfl dX10_number_51 ?_
          refine lv_iconst (v := (1 : Int32)) hx hb dX10_number_54 (by decide) ?_
          refine lv_iadd hx hb dX10_number_55 ?_
          refine lv_topi (fun v5 ev5 => ?_)
          have hτ6 : τ6 = F_X10_number_k56 x5_6 v4 v5 := by rw [ev5]; exact hτ6
          unfold F_X10_number_k56 at hτ6
          refine va_put (D := E.1) (ci := 10) (v := .int v5) (ty := .int) (C := RX10) (T := TX10) (N := 27) hx hb hts iX10_number_X10 tyX10 tyX10_ok nmX10 hown hE.1 hP hD hS 0 rfl rfl 3 (by decide) (hts (.fieldLink RX10 54 "BandBoatModel" "at" "I") (List.mem_of_getElem? (i := 1) rfl)) (fun _ h9 => h9) rfl (by decide +kernel) rfl rfl (Nat.le_of_ble_eq_true rfl) dX10_number_56 (fun H locs hP hD hS => ?_)
          have hP : va_P E.1 vwCl [xModel h_mm a_mm (upd mm 3 v5), xI E (a_mm 1) 300 tx] H := hP
          have hD : va_D A [xModel h_mm a_mm (upd mm 3 v5), xI E (a_mm 1) 300 tx] := hD
          refine lv_iinc (v := (x5_6 + (1 : Int32))) (lv' := [(5, .int (x5_6 + (1 : Int32))), (4, .int v4), (0, .ref h_mm), (1, .int least), (2, .int most), (3, .int behind)]) hx hb dX10_number_59 hl (k := 1) rfl rfl (by decide) rfl (fun ls hl => ?_)
          refine lv_goto (tgt := 6) hx hb dX10_number_62 (by decide) ?_
          have hσ6 : σ6 = F_X10_number_l6 mm tx n_6 (x5_6 + (1 : Int32)) v4 v5 := by subst hτ6; exact hσ6
          exact ih (x5_6 + (1 : Int32)) v4 v5 _ _ _ ⟨cnt_lt c27 hM.1, at_mono hM.2 (by omega) ev5⟩ hP hD hS (lv_sub hl [0, 1, 2, 3, 4, 5] rfl) (fun ox5_6 ox4_6 os_mm_3_6 H locs ls he => hK ox5_6 ox4_6 os_mm_3_6 H locs ls (hσ06.trans (hσ6.trans he)))
  refine hL6 (4) (0 : Int32) (0 : Int32) (mm 3) _ _ _ (⟨by decide, Int.le_refl _, Int.le_refl _⟩) hP hD hS (lv_sub hl [0, 1, 2, 3, 4, 5] rfl) ?_
  intro bx5_6 bx4_6 bs_mm_3_6 H locs ls he hI hP hD hS hl
  rw [he] at hρ
  have hρ : ρ = F_X10_number_x6 mm tx least most behind bx5_6 bx4_6 bs_mm_3_6 := hρ
  unfold F_X10_number_x6 at hρ
  refine lv_aload_n hx hb dX10_number_65 rfl (lv_at hl 2 rfl) ?_
  refine lv_aload_n hx hb dX10_number_66 rfl (lv_at hl 2 rfl) ?_
  refine va_get (D := E.1) (ci := 10) (v := .int (mm 4)) (C := RX10) (T := TX10) (N := 27) hx hb hts iX10_number_X10 hown hE.1 hP 0 rfl rfl 4 (by decide) (hts (.fieldLink RX10 61 "BandBoatModel" "isWell" "Z") (List.mem_of_getElem? (i := 2) rfl)) (fun _ h9 => h9) rfl dX10_number_67 ?_
  have hJ110 : ∀ (y0_110 : Int32) (H : Heap) (locs : List Loc) (ls : Array Slot), (y0_110 = 0 ∨ y0_110 = 1) → ρ = F_X10_number_j110 least bx4_6 bs_mm_3_6 y0_110 → va_P E.1 vwCl [xModel h_mm a_mm (upd mm 3 bs_mm_3_6), xI E (a_mm 1) 300 tx] H → va_D A [xModel h_mm a_mm (upd mm 3 bs_mm_3_6), xI E (a_mm 1) 300 tx] → va_S A s.heap H locs → lv_has ls 6 [(5, .int bx5_6), (4, .int bx4_6), (0, .ref h_mm), (1, .int least), (2, .int most), (3, .int behind)] → W p l e ({ frames := 1, cells := 0, slots := 0, locals := 22 } : Room) s m ([.ref h_mm, .int least, .int most, .int behind] : List Value).toArray below meth c H locs 0 0 Q (F0 m 110 ls [.int y0_110, .ref h_mm]) := by
    intro y0_110 H locs ls hz_y0_110 hρ hP hD hS hl
    unfold F_X10_number_j110 at hρ
    refine va_put (D := E.1) (ci := 10) (v := .int y0_110) (ty := .boolean) (C := RX10) (T := TX10) (N := 27) hx hb hts iX10_number_X10 tyX10 tyX10_ok nmX10 hown hE.1 hP hD hS 0 rfl rfl 4 (by decide) (hts (.fieldLink RX10 61 "BandBoatModel" "isWell" "Z") (List.mem_of_getElem? (i := 2) rfl)) (fun _ h9 => h9) rfl (by decide +kernel) (nar_z hz_y0_110) (fit_z hz_y0_110) (Nat.le_of_ble_eq_true rfl) dX10_number_110 (fun H locs hP hD hS => ?_)
    have hP : va_P E.1 vwCl [xModel h_mm a_mm (upd (upd mm 3 bs_mm_3_6) 4 y0_110), xI E (a_mm 1) 300 tx] H := hP
    have hD : va_D A [xModel h_mm a_mm (upd (upd mm 3 bs_mm_3_6) 4 y0_110), xI E (a_mm 1) 300 tx] := hD
    refine lv_aload_n hx hb dX10_number_113 rfl (lv_at hl 2 rfl) ?_
    refine lv_dup hx hb dX10_number_114 rfl ?_
    refine va_get (D := E.1) (ci := 10) (v := .int bs_mm_3_6) (C := RX10) (T := TX10) (N := 27) hx hb hts iX10_number_X10 hown hE.1 hP 0 rfl rfl 3 (by decide) (hts (.fieldLink RX10 54 "BandBoatModel" "at" "I") (List.mem_of_getElem? (i := 1) rfl)) (fun _ h9 => h9) rfl dX10_number_115 ?_
    refine lv_iconst (v := (1 : Int32)) hx hb dX10_number_118 (by decide) ?_
    refine lv_iadd hx hb dX10_number_119 ?_
    refine lv_topi (fun v6 ev6 => ?_)
    have hρ : ρ = F_X10_number_k120 least bx4_6 y0_110 v6 := by rw [ev6]; exact hρ
    unfold F_X10_number_k120 at hρ
    refine va_put (D := E.1) (ci := 10) (v := .int v6) (ty := .int) (C := RX10) (T := TX10) (N := 27) hx hb hts iX10_number_X10 tyX10 tyX10_ok nmX10 hown hE.1 hP hD hS 0 rfl rfl 3 (by decide) (hts (.fieldLink RX10 54 "BandBoatModel" "at" "I") (List.mem_of_getElem? (i := 1) rfl)) (fun _ h9 => h9) rfl (by decide +kernel) rfl rfl (Nat.le_of_ble_eq_true rfl) dX10_number_120 (fun H locs hP hD hS => ?_)
    have hP : va_P E.1 vwCl [xModel h_mm a_mm (upd (upd mm 3 v6) 4 y0_110), xI E (a_mm 1) 300 tx] H := hP
    have hD : va_D A [xModel h_mm a_mm (upd (upd mm 3 v6) 4 y0_110), xI E (a_mm 1) 300 tx] := hD
    refine lv_aload_n hx hb dX10_number_123 rfl (lv_at hl 2 rfl) ?_
    refine va_get (D := E.1) (ci := 10) (v := .int y0_110) (C := RX10) (T := TX10) (N := 27) hx hb hts iX10_number_X10 hown hE.1 hP 0 rfl rfl 4 (by decide) (hts (.fieldLink RX10 61 "BandBoatModel" "isWell" "Z") (List.mem_of_getElem? (i := 2) rfl)) (fun _ h9 => h9) rfl dX10_number_124 ?_
    refine lv_if_eq (tgt := 135) hx hb dX10_number_127 (by decide) (fun c127 => ?_) (fun c127 => ?_)
    · rw [if_pos c127] at hρ
      refine lv_iload_n hx hb dX10_number_135 rfl (lv_at hl 3 rfl) ?_
      exact hq least (v6, y0_110) _ _ _ _ dX10_number_136 rfl ⟨(hρ0.trans hρ), show (mm 3).toInt < (v6).toInt ∧ (v6).toInt ≤ (mm 3).toInt + 5 from at_end ha hI ev6⟩ hP hD hS
    · rw [if_neg c127] at hρ
      refine lv_iload hx hb dX10_number_130 (lv_at hl 1 rfl) ?_
      refine lv_goto (tgt := 136) hx hb dX10_number_132 (by decide) ?_
      exact hq bx4_6 (v6, y0_110) _ _ _ _ dX10_number_136 rfl ⟨(hρ0.trans hρ), show (mm 3).toInt < (v6).toInt ∧ (v6).toInt ≤ (mm 3).toInt + 5 from at_end ha hI ev6⟩ hP hD hS
  have hJ109 : ∀ (H : Heap) (locs : List Loc) (ls : Array Slot), ρ = F_X10_number_j109 least bx4_6 bs_mm_3_6 → va_P E.1 vwCl [xModel h_mm a_mm (upd mm 3 bs_mm_3_6), xI E (a_mm 1) 300 tx] H → va_D A [xModel h_mm a_mm (upd mm 3 bs_mm_3_6), xI E (a_mm 1) 300 tx] → va_S A s.heap H locs → lv_has ls 6 [(5, .int bx5_6), (4, .int bx4_6), (0, .ref h_mm), (1, .int least), (2, .int most), (3, .int behind)] → W p l e ({ frames := 1, cells := 0, slots := 0, locals := 22 } : Room) s m ([.ref h_mm, .int least, .int most, .int behind] : List Value).toArray below meth c H locs 0 0 Q (F0 m 109 ls [.ref h_mm]) := by
    intro  H locs ls hρ hP hD hS hl
    unfold F_X10_number_j109 at hρ
    refine lv_iconst (v := (0 : Int32)) hx hb dX10_number_109 (by decide) ?_
    exact hJ110 (0 : Int32) _ _ _ (Or.inl rfl) hρ hP hD hS (lv_sub hl [0, 1, 2, 3, 4, 5] rfl)
  refine lv_if_eq (tgt := 109) hx hb dX10_number_70 (by decide) (fun c70 => ?_) (fun c70 => ?_)
  · rw [if_pos c70] at hρ
    exact hJ109 _ _ _ hρ hP hD hS (lv_sub hl [0, 1, 2, 3, 4, 5] rfl)
  · rw [if_neg c70] at hρ
    refine lv_iload hx hb dX10_number_73 (lv_at hl 0 rfl) ?_
    refine lv_iconst (v := (1 : Int32)) hx hb dX10_number_75 (by decide) ?_
    refine lv_iconst (v := (3 : Int32)) hx hb dX10_number_76 (by decide) ?_
    refine kI (wc := []) (wr := [xModel h_mm a_mm (upd mm 3 bs_mm_3_6), xI E (a_mm 1) 300 tx]) (wc' := (fun (_ : Unit) => [])) (wn := (fun (_ : Unit) => [xModel h_mm a_mm (upd mm 3 bs_mm_3_6), xI E (a_mm 1) 300 tx])) (isC := []) (isR := [0, 1]) (is2 := [0, 1]) cx hP hD hS ⟨rfl, rfl, by decide, by decide, by decide, by decide, fun _ => rfl⟩ (rS (As := [.int bx5_6, .int (1 : Int32), .int (3 : Int32)]) (rest := [.ref h_mm]) cx (c_X10_in l E bx5_6 (1 : Int32) (3 : Int32) _) (va_cwS 3 hts gX10_number_X10_in rfl rfl rfl (by decide +kernel) ⟨Nat.le_of_ble_eq_true rfl, Nat.le_of_ble_eq_true rfl⟩) rfl hl.1 rfl (Nat.le_of_ble_eq_true rfl) dX10_number_77 ⟨Nat.zero_le _, Nat.zero_le _⟩) (fun r7 u H locs hw hP hD hS => ?_)
    subst hw
    refine lv_if_eq (tgt := 109) hx hb dX10_number_80 (by decide) (fun c80 => ?_) (fun c80 => ?_)
    · rw [if_pos c80] at hρ
      exact hJ109 _ _ _ hρ hP hD hS (lv_sub hl [0, 1, 2, 3, 4, 5] rfl)
    · rw [if_neg c80] at hρ
      refine lv_iload hx hb dX10_number_83 (lv_at hl 1 rfl) ?_
      refine lv_iload_n hx hb dX10_number_85 rfl (lv_at hl 3 rfl) ?_
      refine lv_iload_n hx hb dX10_number_86 rfl (lv_at hl 4 rfl) ?_
      refine kI (wc := []) (wr := [xModel h_mm a_mm (upd mm 3 bs_mm_3_6), xI E (a_mm 1) 300 tx]) (wc' := (fun (_ : Unit) => [])) (wn := (fun (_ : Unit) => [xModel h_mm a_mm (upd mm 3 bs_mm_3_6), xI E (a_mm 1) 300 tx])) (isC := []) (isR := [0, 1]) (is2 := [0, 1]) cx hP hD hS ⟨rfl, rfl, by decide, by decide, by decide, by decide, fun _ => rfl⟩ (rS (As := [.int bx4_6, .int least, .int most]) (rest := [.ref h_mm]) cx (c_X10_in l E bx4_6 least most _) (va_cwS 3 hts gX10_number_X10_in rfl rfl rfl (by decide +kernel) ⟨Nat.le_of_ble_eq_true rfl, Nat.le_of_ble_eq_true rfl⟩) rfl hl.1 rfl (Nat.le_of_ble_eq_true rfl) dX10_number_87 ⟨Nat.zero_le _, Nat.zero_le _⟩) (fun r8 u H locs hw hP hD hS => ?_)
      subst hw
      refine lv_if_eq (tgt := 109) hx hb dX10_number_90 (by decide) (fun c90 => ?_) (fun c90 => ?_)
      · rw [if_pos c90] at hρ
        exact hJ109 _ _ _ hρ hP hD hS (lv_sub hl [0, 1, 2, 3, 4, 5] rfl)
      · rw [if_neg c90] at hρ
        refine lv_aload_n hx hb dX10_number_93 rfl (lv_at hl 2 rfl) ?_
        refine lv_aload_n hx hb dX10_number_94 rfl (lv_at hl 2 rfl) ?_
        refine va_get (D := E.1) (ci := 10) (v := .int bs_mm_3_6) (C := RX10) (T := TX10) (N := 27) hx hb hts iX10_number_X10 hown hE.1 hP 0 rfl rfl 3 (by decide) (hts (.fieldLink RX10 54 "BandBoatModel" "at" "I") (List.mem_of_getElem? (i := 1) rfl)) (fun _ h9 => h9) rfl dX10_number_95 ?_
        refine kI (wc := [xModel h_mm a_mm (upd mm 3 bs_mm_3_6), xI E (a_mm 1) 300 tx]) (wr := []) (wc' := (fun (_ : Unit) => [xModel h_mm a_mm (upd mm 3 bs_mm_3_6), xI E (a_mm 1) 300 tx])) (wn := (fun (_ : Unit) => [xModel h_mm a_mm (upd mm 3 bs_mm_3_6), xI E (a_mm 1) 300 tx])) (isC := [0, 1]) (isR := []) (is2 := [0, 1]) cx hP hD hS ⟨rfl, rfl, by decide, by decide, by decide, by decide, fun _ => rfl⟩ (rV (As := [.int bs_mm_3_6]) (rest := [.ref h_mm]) (C := RX10) (q0 := 0) (ci := 10) cx (c_X10_byteAt l E h_mm a_mm (upd mm 3 bs_mm_3_6) tx bs_mm_3_6 (Int.le_trans ha.1 hI.1) (ht) _) (cwV 1 hts gX10_number_X10_byteAt rfl rfl rfl (by decide +kernel) ⟨Nat.le_of_ble_eq_true rfl, Nat.le_of_ble_eq_true rfl⟩) rfl rfl rfl rfl hl.1 rfl (Nat.le_of_ble_eq_true rfl) dX10_number_98 ⟨Nat.zero_le _, Nat.zero_le _⟩) (fun r9 u H locs hw hP hD hS => ?_)
        subst hw
        refine lv_iload_n hx hb dX10_number_101 rfl (lv_at hl 5 rfl) ?_
        refine lv_icmp_ne (tgt := 109) hx hb dX10_number_102 (by decide) (fun c102 => ?_) (fun c102 => ?_)
        · rw [if_neg c102] at hρ
          exact hJ109 _ _ _ hρ hP hD hS (lv_sub hl [0, 1, 2, 3, 4, 5] rfl)
        · rw [if_pos c102] at hρ
          refine lv_iconst (v := (1 : Int32)) hx hb dX10_number_105 (by decide) ?_
          refine lv_goto (tgt := 110) hx hb dX10_number_106 (by decide) ?_
          exact hJ110 (1 : Int32) _ _ _ (Or.inr rfl) hρ hP hD hS (lv_sub hl [0, 1, 2, 3, 4, 5] rfl)
theorem p_idx {w : Int32} (h : 0 ≤ w.toInt ∧ w.toInt ≤ 29) : vp_in ((30 : Int32) + w) 60 := by
  have h3 : (30 : Int32).toInt = 30 := rfl
  have e := i_add (a := (30 : Int32)) (b := w) (by omega) (by omega)
  exact inb_i (by omega) (by omega)
theorem and3 (x : Int32) : 0 ≤ ((4 : Int32) * (x &&& (3 : Int32))).toInt ∧ ((4 : Int32) * (x &&& (3 : Int32))).toInt ≤ 12 := by
  obtain ⟨j, hj, e⟩ := pk_andE x (m := 3) 2 (by decide)
  rw [e]
  have h4 : (4 : Int32) = nI 4 := rfl
  rw [h4, pk_mul, nI_toInt (by omega)]
  omega
theorem and3j (x : Int32) {j : Int32} (hj : 0 ≤ j.toInt ∧ j.toInt ≤ 3) : 0 ≤ (((4 : Int32) * (x &&& (3 : Int32))) + j).toInt ∧ (((4 : Int32) * (x &&& (3 : Int32))) + j).toInt ≤ 29 := by
  have h := and3 x
  rw [i_add (by omega) (by omega)]
  omega
theorem and30 (x : Int32) : 0 ≤ ((4 : Int32) * (x &&& (3 : Int32))).toInt ∧ ((4 : Int32) * (x &&& (3 : Int32))).toInt ≤ 29 := by
  have h := and3 x
  omega
def F_X10_puts (mm : Nat → Int32) (bt : Nat → Int32) (which : Int32) (v : Int32) : (Nat → Int32) := (if (mm 4) = (0 : Int32) then bt else (upd bt (Int32.toNatClampNeg ((30 : Int32) + which)) v))
theorem iX10_puts_X10 : ∀ w ∈ wsX100, w ∈ wsX10_puts := fun _ h => List.mem_cons_of_mem _ (List.mem_append_right _ h)
set_option maxHeartbeats 4000000 in
set_option maxRecDepth 100000 in
theorem c_X10_puts (l : Launch) (E : wV) (h_mm : Nat) (a_mm : Nat → Nat) (mm : Nat → Int32) (bt : Nat → Int32) (which : Int32) (v : Int32) (hw_ : 0 ≤ which.toInt ∧ which.toInt ≤ 29) : MetV l yX10_puts wsX10_puts ({ frames := 0, cells := 0, slots := 0, locals := 0 } : Room) E ([.ref h_mm, .int which, .int v] : List Value) [xModel h_mm a_mm mm, xI E (a_mm 5) 60 bt] (fun (u : (Nat → Int32)) => F_X10_puts mm bt which v = u) (fun (u : (Nat → Int32)) => [xModel h_mm a_mm mm, xI E (a_mm 5) 60 u]) := by
  refine MetV.of (cc := cX10_puts) (maxL := 3) (own := RX10) (by decide) rfl rfl (Nat.le_of_ble_eq_true rfl) ?_
  intro p e s m below meth c A Q ls cx hP hD hS hl hq
  obtain ⟨hx, hb, hml, hown, hts, hE, hA⟩ := id cx
  have hl : lv_has ls 3 [(0, .ref h_mm), (1, .int which), (2, .int v)] := hl
  have hP : va_P E.1 vwCl [xModel h_mm a_mm mm, xI E (a_mm 5) 60 bt] s.heap := hP
  obtain ⟨ρ, hρ0⟩ : ∃ ρ, F_X10_puts mm bt which v = ρ := ⟨_, rfl⟩
  have hρ := hρ0.symm
  unfold F_X10_puts at hρ
  refine lv_aload_n hx hb dX10_puts_0 rfl (lv_at hl 0 rfl) ?_
  refine va_get (D := E.1) (ci := 10) (v := .int (mm 4)) (C := RX10) (T := TX10) (N := 27) hx hb hts iX10_puts_X10 hown hE.1 hP 0 rfl rfl 4 (by decide) (hts (.fieldLink RX10 61 "BandBoatModel" "isWell" "Z") (List.mem_of_getElem? (i := 1) rfl)) (fun _ h9 => h9) rfl dX10_puts_1 ?_
  refine lv_if_eq (tgt := 17) hx hb dX10_puts_4 (by decide) (fun c4 => ?_) (fun c4 => ?_)
  · rw [if_pos c4] at hρ
    exact hq bt _ _ _ _ dX10_puts_17 (hρ0.trans hρ) hP hD hS
  · rw [if_neg c4] at hρ
    refine lv_aload_n hx hb dX10_puts_7 rfl (lv_at hl 0 rfl) ?_
    refine va_get (D := E.1) (ci := 10) (v := .ref (a_mm 5)) (C := RX10) (T := TX10) (N := 27) hx hb hts iX10_puts_X10 hown hE.1 hP 0 rfl rfl 5 (by decide) (hts (.fieldLink RX10 13 "BandBoatModel" "boat" "[I") (List.mem_of_getElem? (i := 2) rfl)) (fun _ h9 => h9) rfl dX10_puts_8 ?_
    refine lv_bipush (v := (30 : Int32)) hx hb dX10_puts_11 (by decide) ?_
    refine lv_iload_n hx hb dX10_puts_13 rfl (lv_at hl 1 rfl) ?_
    refine lv_iadd hx hb dX10_puts_14 ?_
    refine lv_iload_n hx hb dX10_puts_15 rfl (lv_at hl 2 rfl) ?_
    refine ar_ist (k := (Int32.toNatClampNeg ((30 : Int32) + which))) (ws' := [xModel h_mm a_mm mm, xI E (a_mm 5) 60 (upd bt (Int32.toNatClampNeg ((30 : Int32) + which)) v)]) hx hb hE hP hD hS 1 rfl (p_idx hw_) rfl rfl dX10_puts_16 (fun H locs hP hD hS => ?_)
    exact hq (upd bt (Int32.toNatClampNeg ((30 : Int32) + which)) v) _ _ _ _ dX10_puts_17 (hρ0.trans hρ) hP hD hS
