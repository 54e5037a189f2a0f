def F_X2_add_k41 (mk : Nat → Int32) (mk_places : Nat → Int32) (mk_times : Nat → Int32) (d : Int32) (t : Int32) (v2 : Int32) : Int32 × Int32 × (Nat → Int32) × (Nat → Int32) := ((1 : Int32), v2, (upd mk_places (Int32.toNatClampNeg (mk 2)) d), (upd mk_times (Int32.toNatClampNeg (mk 2)) t))
def F_X2_add (mk : Nat → Int32) (mk_places : Nat → Int32) (mk_times : Nat → Int32) (d : Int32) (t : Int32) : Int32 × Int32 × (Nat → Int32) × (Nat → Int32) := (if (F_X9_within (mk 2) (0 : Int32) (3 : Int32)) = (0 : Int32) then ((0 : Int32), (mk 2), mk_places, mk_times) else F_X2_add_k41 mk mk_places mk_times d t ((mk 2) + (1 : Int32)))
theorem iX2_add_X2 : ∀ w ∈ wsX20, w ∈ wsX2_add := fun _ h => List.mem_cons_of_mem _ (List.mem_append_right _ h)
set_option maxHeartbeats 4000000 in
set_option maxRecDepth 100000 in
theorem c_X2_add (l : Launch) (E : wV) (h_mk : Nat) (a_mk : Nat → Nat) (mk : Nat → Int32) (mk_places : Nat → Int32) (mk_times : Nat → Int32) (d : Int32) (t : Int32) : MetI l yX2_add wsX2_add ({ frames := 1, cells := 0, slots := 0, locals := 22 } : Room) E ([.ref h_mk, .int d, .int t] : List Value) [xMarks h_mk a_mk mk, xI E (a_mk 0) 4 mk_places, xI E (a_mk 1) 4 mk_times] (fun (r : Int32) (u : Int32 × (Nat → Int32) × (Nat → Int32)) => F_X2_add mk mk_places mk_times d t = (r, u)) (fun (u : Int32 × (Nat → Int32) × (Nat → Int32)) => [xMarks h_mk a_mk (upd mk 2 u.1), xI E (a_mk 0) 4 u.2.1, xI E (a_mk 1) 4 u.2.2]) := by
  refine MetI.of (cc := cX2_add) (maxL := 3) (own := RX2) (by decide) rfl rfl (Nat.le_of_ble_eq_true rfl) ?_
  intro p e s m below meth c A Q ls cx hP hD hS hl hq
  obtain ⟨hx, hb, hml, hown, hts, hE, hA⟩ := id cx
  have hl : lv_has ls 3 [(0, .ref h_mk), (1, .int d), (2, .int t)] := hl
  have hP : va_P E.1 vwCl [xMarks h_mk a_mk mk, xI E (a_mk 0) 4 mk_places, xI E (a_mk 1) 4 mk_times] s.heap := hP
  obtain ⟨ρ, hρ0⟩ : ∃ ρ, F_X2_add mk mk_places mk_times d t = ρ := ⟨_, rfl⟩
  have hρ := hρ0.symm
  unfold F_X2_add at hρ
  refine lv_aload_n hx hb dX2_add_0 rfl (lv_at hl 0 rfl) ?_
  refine va_get (D := E.1) (ci := 2) (v := .int (mk 2)) (C := RX2) (T := TX2) (N := 3) hx hb hts iX2_add_X2 hown hE.1 hP 0 rfl rfl 2 (by decide) (hts (.fieldLink RX2 18 "BandBoat$Marks" "marked" "I") (List.mem_of_getElem? (i := 1) rfl)) (fun _ h9 => h9) rfl dX2_add_1 ?_
  refine lv_iconst (v := (0 : Int32)) hx hb dX2_add_4 (by decide) ?_
  refine lv_iconst (v := (3 : Int32)) hx hb dX2_add_5 (by decide) ?_
  refine kI (wc := []) (wr := [xMarks h_mk a_mk mk, xI E (a_mk 0) 4 mk_places, xI E (a_mk 1) 4 mk_times]) (wc' := (fun (_ : Unit) => [])) (wn := (fun (_ : Unit) => [xMarks h_mk a_mk mk, xI E (a_mk 0) 4 mk_places, xI E (a_mk 1) 4 mk_times])) (isC := []) (isR := [0, 1, 2]) (is2 := [0, 1, 2]) cx hP hD hS ⟨rfl, rfl, by decide, by decide, by decide, by decide, fun _ => rfl⟩ (rSN (As := [.int (mk 2), .int (0 : Int32), .int (3 : Int32)]) (rest := []) cx (c_X9_within l E (mk 2) (0 : Int32) (3 : Int32) _) (va_cnB 3 hts gX2_add_X9_within_n22 rfl rfl rfl (hE.nw 110 rfl) (hts (.initialized RX9) (List.mem_of_getElem? (i := 5) rfl)) (by decide +kernel) ⟨Nat.le_of_ble_eq_true rfl, Nat.le_of_ble_eq_true rfl⟩) (hts (.static yX9_within) (List.mem_of_getElem? (i := 4) rfl)) rfl hl.1 rfl (Nat.le_of_ble_eq_true rfl) dX2_add_6 ⟨Nat.zero_le _, Nat.zero_le _⟩) (fun r1 u H locs hw hP hD hS => ?_)
  subst hw
  refine lv_if_ne (tgt := 14) hx hb dX2_add_9 (by decide) (fun c9 => ?_) (fun c9 => ?_)
  · rw [if_neg c9] at hρ
    refine lv_aload_n hx hb dX2_add_14 rfl (lv_at hl 0 rfl) ?_
    refine va_get (D := E.1) (ci := 2) (v := .ref (a_mk 0)) (C := RX2) (T := TX2) (N := 3) hx hb hts iX2_add_X2 hown hE.1 hP 0 rfl rfl 0 (by decide) (hts (.fieldLink RX2 9 "BandBoat$Marks" "places" "[I") (List.mem_of_getElem? (i := 2) rfl)) (fun _ h9 => h9) rfl dX2_add_15 ?_
    refine lv_aload_n hx hb dX2_add_18 rfl (lv_at hl 0 rfl) ?_
    refine va_get (D := E.1) (ci := 2) (v := .int (mk 2)) (C := RX2) (T := TX2) (N := 3) hx hb hts iX2_add_X2 hown hE.1 hP 0 rfl rfl 2 (by decide) (hts (.fieldLink RX2 18 "BandBoat$Marks" "marked" "I") (List.mem_of_getElem? (i := 1) rfl)) (fun _ h9 => h9) rfl dX2_add_19 ?_
    refine lv_iload_n hx hb dX2_add_22 rfl (lv_at hl 1 rfl) ?_
    refine ar_ist (k := (Int32.toNatClampNeg (mk 2))) (ws' := [xMarks h_mk a_mk mk, xI E (a_mk 0) 4 (upd mk_places (Int32.toNatClampNeg (mk 2)) d), xI E (a_mk 1) 4 mk_times]) hx hb hE hP hD hS 1 rfl (F_X9_within_in c9 rfl) rfl rfl dX2_add_23 (fun H locs hP hD hS => ?_)
    refine lv_aload_n hx hb dX2_add_24 rfl (lv_at hl 0 rfl) ?_
    refine va_get (D := E.1) (ci := 2) (v := .ref (a_mk 1)) (C := RX2) (T := TX2) (N := 3) hx hb hts iX2_add_X2 hown hE.1 hP 0 rfl rfl 1 (by decide) (hts (.fieldLink RX2 15 "BandBoat$Marks" "times" "[I") (List.mem_of_getElem? (i := 3) rfl)) (fun _ h9 => h9) rfl dX2_add_25 ?_
    refine lv_aload_n hx hb dX2_add_28 rfl (lv_at hl 0 rfl) ?_
    refine va_get (D := E.1) (ci := 2) (v := .int (mk 2)) (C := RX2) (T := TX2) (N := 3) hx hb hts iX2_add_X2 hown hE.1 hP 0 rfl rfl 2 (by decide) (hts (.fieldLink RX2 18 "BandBoat$Marks" "marked" "I") (List.mem_of_getElem? (i := 1) rfl)) (fun _ h9 => h9) rfl dX2_add_29 ?_
    refine lv_iload_n hx hb dX2_add_32 rfl (lv_at hl 2 rfl) ?_
    refine ar_ist (k := (Int32.toNatClampNeg (mk 2))) (ws' := [xMarks h_mk a_mk mk, xI E (a_mk 0) 4 (upd mk_places (Int32.toNatClampNeg (mk 2)) d), xI E (a_mk 1) 4 (upd mk_times (Int32.toNatClampNeg (mk 2)) t)]) hx hb hE hP hD hS 2 rfl (F_X9_within_in c9 rfl) rfl rfl dX2_add_33 (fun H locs hP hD hS => ?_)
    refine lv_aload_n hx hb dX2_add_34 rfl (lv_at hl 0 rfl) ?_
    refine lv_dup hx hb dX2_add_35 rfl ?_
    refine va_get (D := E.1) (ci := 2) (v := .int (mk 2)) (C := RX2) (T := TX2) (N := 3) hx hb hts iX2_add_X2 hown hE.1 hP 0 rfl rfl 2 (by decide) (hts (.fieldLink RX2 18 "BandBoat$Marks" "marked" "I") (List.mem_of_getElem? (i := 1) rfl)) (fun _ h9 => h9) rfl dX2_add_36 ?_
    refine lv_iconst (v := (1 : Int32)) hx hb dX2_add_39 (by decide) ?_
    refine lv_iadd hx hb dX2_add_40 ?_
    refine lv_topi (fun v2 ev2 => ?_)
    have hρ : ρ = F_X2_add_k41 mk mk_places mk_times d t v2 := by rw [ev2]; exact hρ
    unfold F_X2_add_k41 at hρ
    refine va_put (D := E.1) (ci := 2) (v := .int v2) (ty := .int) (C := RX2) (T := TX2) (N := 3) hx hb hts iX2_add_X2 tyX2 tyX2_ok nmX2 hown hE.1 hP hD hS 0 rfl rfl 2 (by decide) (hts (.fieldLink RX2 18 "BandBoat$Marks" "marked" "I") (List.mem_of_getElem? (i := 1) rfl)) (fun _ h9 => h9) rfl (by decide +kernel) rfl rfl (Nat.le_of_ble_eq_true rfl) dX2_add_41 (fun H locs hP hD hS => ?_)
    have hP : va_P E.1 vwCl [xMarks h_mk a_mk (upd mk 2 v2), xI E (a_mk 0) 4 (upd mk_places (Int32.toNatClampNeg (mk 2)) d), xI E (a_mk 1) 4 (upd mk_times (Int32.toNatClampNeg (mk 2)) t)] H := hP
    have hD : va_D A [xMarks h_mk a_mk (upd mk 2 v2), xI E (a_mk 0) 4 (upd mk_places (Int32.toNatClampNeg (mk 2)) d), xI E (a_mk 1) 4 (upd mk_times (Int32.toNatClampNeg (mk 2)) t)] := hD
    refine lv_iconst (v := (1 : Int32)) hx hb dX2_add_44 (by decide) ?_
    exact hq (1 : Int32) (v2, (upd mk_places (Int32.toNatClampNeg (mk 2)) d), (upd mk_times (Int32.toNatClampNeg (mk 2)) t)) _ _ _ _ dX2_add_45 rfl (hρ0.trans hρ) hP hD hS
  · rw [if_pos c9] at hρ
    refine lv_iconst (v := (0 : Int32)) hx hb dX2_add_12 (by decide) ?_
    exact hq (0 : Int32) ((mk 2), mk_places, mk_times) _ _ _ _ dX2_add_13 rfl (hρ0.trans hρ) hP hD hS
def F_X2_latest_k27 (x2_4 : Int32) (v1 : Int32) : (Int32 × Int32) ⊕ (Int32 × Int32) := Sum.inl ((x2_4 + (1 : Int32)), v1)
def F_X2_latest_b4 (mk : Nat → Int32) (mk_times : Nat → Int32) (x2_4 : Int32) (x1_4 : Int32) : (Int32 × Int32) ⊕ (Int32 × Int32) := (if (mk 2) ≤ x2_4 then Sum.inr (x2_4, x1_4) else (if (4 : Int32) ≤ x2_4 then Sum.inr (x2_4, x1_4) else F_X2_latest_k27 x2_4 (mmax x1_4 (mk_times (Int32.toNatClampNeg x2_4)))))
def F_X2_latest_l4 (mk : Nat → Int32) (mk_times : Nat → Int32) : Nat → (Int32) → (Int32) → Int32 × Int32
  | 0, x2_4, x1_4 => (x2_4, x1_4)
  | n_4 + 1, x2_4, x1_4 => match F_X2_latest_b4 mk mk_times x2_4 x1_4 with
    | Sum.inl (c_x2_4, c_x1_4) => F_X2_latest_l4 mk mk_times n_4 c_x2_4 c_x1_4
    | Sum.inr r_ => r_
def F_X2_latest_x4 (bx1_4 : Int32) : Int32 := bx1_4
def F_X2_latest (mk : Nat → Int32) (mk_times : Nat → Int32) : Int32 := (match F_X2_latest_l4 mk mk_times (4) (0 : Int32) (0 : Int32) with | (bx2_4, bx1_4) => F_X2_latest_x4 bx1_4)
theorem iX2_latest_X2 : ∀ w ∈ wsX20, w ∈ wsX2_latest := fun _ h => List.mem_cons_of_mem _ (List.mem_append_right _ h)
set_option maxHeartbeats 4000000 in
set_option maxRecDepth 100000 in
theorem c_X2_latest (l : Launch) (E : wV) (h_mk : Nat) (a_mk : Nat → Nat) (mk : Nat → Int32) (mk_places : Nat → Int32) (mk_times : Nat → Int32) : MetI l yX2_latest wsX2_latest ({ frames := 1, cells := 0, slots := 0, locals := 21 } : Room) E ([.ref h_mk] : List Value) [xMarks h_mk a_mk mk, xI E (a_mk 0) 4 mk_places, xI E (a_mk 1) 4 mk_times] (fun (r : Int32) (_ : Unit) => r = F_X2_latest mk mk_times) (fun (_ : Unit) => [xMarks h_mk a_mk mk, xI E (a_mk 0) 4 mk_places, xI E (a_mk 1) 4 mk_times]) := by
  refine MetI.of (cc := cX2_latest) (maxL := 3) (own := RX2) (by decide) rfl rfl (Nat.le_of_ble_eq_true rfl) ?_
  intro p e s m below meth c A Q ls cx hP hD hS hl hq
  obtain ⟨hx, hb, hml, hown, hts, hE, hA⟩ := id cx
  have hl : lv_has ls 3 [(0, .ref h_mk)] := hl
  have hP : va_P E.1 vwCl [xMarks h_mk a_mk mk, xI E (a_mk 0) 4 mk_places, xI E (a_mk 1) 4 mk_times] s.heap := hP
  obtain ⟨ρ, hρ0⟩ : ∃ ρ, F_X2_latest mk mk_times = ρ := ⟨_, rfl⟩
  have hρ := hρ0.symm
  unfold F_X2_latest at hρ
  refine lv_iconst (v := (0 : Int32)) hx hb dX2_latest_0 (by decide) ?_
  refine lv_istore_n (lv' := [(1, .int (0 : Int32)), (0, .ref h_mk)]) hx hb dX2_latest_1 rfl hl (by decide) rfl (fun ls hl => ?_)
  refine lv_iconst (v := (0 : Int32)) hx hb dX2_latest_2 (by decide) ?_
  refine lv_istore_n (lv' := [(2, .int (0 : Int32)), (1, .int (0 : Int32)), (0, .ref h_mk)]) hx hb dX2_latest_3 rfl hl (by decide) rfl (fun ls hl => ?_)
  have hL4 : ∀ (n_4 : Nat) (x2_4 : Int32) (x1_4 : Int32) (H : Heap) (locs : List Loc) (ls : Array Slot), (((4 : Int32) : Int32).toInt ≤ (x2_4).toInt + (n_4 : Nat)) ∧ (0 ≤ (x2_4).toInt) → va_P E.1 vwCl [xMarks h_mk a_mk mk, xI E (a_mk 0) 4 mk_places, xI E (a_mk 1) 4 mk_times] H → va_D A [xMarks h_mk a_mk mk, xI E (a_mk 0) 4 mk_places, xI E (a_mk 1) 4 mk_times] → va_S A s.heap H locs → lv_has ls 3 [(2, .int x2_4), (1, .int x1_4), (0, .ref h_mk)] → (∀ (ox2_4 : Int32) (ox1_4 : Int32) (H : Heap) (locs : List Loc) (ls : Array Slot), F_X2_latest_l4 mk mk_times n_4 x2_4 x1_4 = (ox2_4, ox1_4) → va_P E.1 vwCl [xMarks h_mk a_mk mk, xI E (a_mk 0) 4 mk_places, xI E (a_mk 1) 4 mk_times] H → va_D A [xMarks h_mk a_mk mk, xI E (a_mk 0) 4 mk_places, xI E (a_mk 1) 4 mk_times] → va_S A s.heap H locs → lv_has ls 3 [(2, .int ox2_4), (1, .int ox1_4), (0, .ref h_mk)] → W p l e ({ frames := 1, cells := 0, slots := 0, locals := 21 } : Room) s m ([.ref h_mk] : List Value).toArray below meth c H locs 0 0 Q (F0 m 34 ls [])) → W p l e ({ frames := 1, cells := 0, slots := 0, locals := 21 } : Room) s m ([.ref h_mk] : List Value).toArray below meth c H locs 0 0 Q (F0 m 4 ls []) := by
    intro n_4
    induction n_4 with
    | zero =>
      intro x2_4 x1_4 H locs ls hM hP hD hS hl hK
      have hM4 := hM
      obtain ⟨σ4, hσ04⟩ : ∃ σ, F_X2_latest_l4 mk mk_times 0 x2_4 x1_4 = σ := ⟨_, rfl⟩
      have hσ4 := hσ04.symm
      rw [F_X2_latest_l4] at hσ4
      refine lv_iload_n hx hb dX2_latest_4 rfl (lv_at hl 0 rfl) ?_
      refine lv_aload_n hx hb dX2_latest_5 rfl (lv_at hl 2 rfl) ?_
      refine va_get (D := E.1) (ci := 2) (v := .int (mk 2)) (C := RX2) (T := TX2) (N := 3) hx hb hts iX2_latest_X2 hown hE.1 hP 0 rfl rfl 2 (by decide) (hts (.fieldLink RX2 18 "BandBoat$Marks" "marked" "I") (List.mem_of_getElem? (i := 1) rfl)) (fun _ h9 => h9) rfl dX2_latest_6 ?_
      refine lv_icmp_ge (tgt := 34) hx hb dX2_latest_9 (by decide) (fun c9 => ?_) (fun c9 => ?_)
      · exact hK x2_4 x1_4 _ _ _ (hσ04.trans hσ4) hP hD hS (lv_sub hl [0, 1, 2] rfl)
      · refine lv_iload_n hx hb dX2_latest_12 rfl (lv_at hl 0 rfl) ?_
        refine lv_iconst (v := (4 : Int32)) hx hb dX2_latest_13 (by decide) ?_
        refine lv_icmp_ge (tgt := 34) hx hb dX2_latest_14 (by decide) (fun c14 => ?_) (fun c14 => ?_)
        · exact hK x2_4 x1_4 _ _ _ (hσ04.trans hσ4) hP hD hS (lv_sub hl [0, 1, 2] rfl)
        · exact (cnt_lt0 c14 hM.1).elim
    | succ n_4 ih =>
      intro x2_4 x1_4 H locs ls hM hP hD hS hl hK
      have hM4 := hM
      obtain ⟨σ4, hσ04⟩ : ∃ σ, F_X2_latest_l4 mk mk_times (n_4 + 1) x2_4 x1_4 = σ := ⟨_, rfl⟩
      have hσ4 := hσ04.symm
      rw [F_X2_latest_l4] at hσ4
      obtain ⟨τ4, hτ04⟩ : ∃ τ, F_X2_latest_b4 mk mk_times x2_4 x1_4 = τ := ⟨_, rfl⟩
      rw [hτ04] at hσ4
      have hτ4 := hτ04.symm
      unfold F_X2_latest_b4 at hτ4
      refine lv_iload_n hx hb dX2_latest_4 rfl (lv_at hl 0 rfl) ?_
      refine lv_aload_n hx hb dX2_latest_5 rfl (lv_at hl 2 rfl) ?_
      refine va_get (D := E.1) (ci := 2) (v := .int (mk 2)) (C := RX2) (T := TX2) (N := 3) hx hb hts iX2_latest_X2 hown hE.1 hP 0 rfl rfl 2 (by decide) (hts (.fieldLink RX2 18 "BandBoat$Marks" "marked" "I") (List.mem_of_getElem? (i := 1) rfl)) (fun _ h9 => h9) rfl dX2_latest_6 ?_
      refine lv_icmp_ge (tgt := 34) hx hb dX2_latest_9 (by decide) (fun c9 => ?_) (fun c9 => ?_)
      · rw [if_pos c9] at hτ4
        have hσ4 : σ4 = (x2_4, x1_4) := by subst hτ4; exact hσ4
        exact hK x2_4 x1_4 _ _ _ (hσ04.trans hσ4) hP hD hS (lv_sub hl [0, 1, 2] rfl)
      · rw [if_neg c9] at hτ4
        refine lv_iload_n hx hb dX2_latest_12 rfl (lv_at hl 0 rfl) ?_
        refine lv_iconst (v := (4 : Int32)) hx hb dX2_latest_13 (by decide) ?_
        refine lv_icmp_ge (tgt := 34) hx hb dX2_latest_14 (by decide) (fun c14 => ?_) (fun c14 => ?_)
        · rw [if_pos c14] at hτ4
          have hσ4 : σ4 = (x2_4, x1_4) := by subst hτ4; exact hσ4
          exact hK x2_4 x1_4 _ _ _ (hσ04.trans hσ4) hP hD hS (lv_sub hl [0, 1, 2] rfl)
        · rw [if_neg c14] at hτ4
          refine lv_iload_n hx hb dX2_latest_17 rfl (lv_at hl 1 rfl) ?_
          refine lv_aload_n hx hb dX2_latest_18 rfl (lv_at hl 2 rfl) ?_
          refine va_get (D := E.1) (ci := 2) (v := .ref (a_mk 1)) (C := RX2) (T := TX2) (N := 3) hx hb hts iX2_latest_X2 hown hE.1 hP 0 rfl rfl 1 (by decide) (hts (.fieldLink RX2 15 "BandBoat$Marks" "times" "[I") (List.mem_of_getElem? (i := 2) rfl)) (fun _ h9 => h9) rfl dX2_latest_19 ?_
          refine lv_iload_n hx hb dX2_latest_22 rfl (lv_at hl 0 rfl) ?_
          refine ar_ild (k := (Int32.toNatClampNeg x2_4)) (v := (mk_times (Int32.toNatClampNeg x2_4))) hx hb hE hP 2 rfl (inb_c hM.2 c14 rfl) rfl rfl dX2_latest_23 ?_
          refine va_mmax hx hb (hml.trans hl.1.symm) hown (hts (.methodLink RX2 26 Lib.Math.max.name) (List.mem_of_getElem? (i := 3) rfl)) (hts (.static Lib.Math.max.name) (List.mem_of_getElem? (i := 4) rfl)) (hts (.initialized "java/lang/Math") (List.mem_of_getElem? (i := 5) rfl)) (hts (.code Lib.Math.max.name Lib.Math.max.code 2 (some .int)) (List.mem_of_getElem? (i := 6) rfl)) (by decide) (Nat.le_of_ble_eq_true rfl) (Nat.zero_le _) (Nat.zero_le _) dX2_latest_24 ?_
          refine lv_topi (fun v1 ev1 => ?_)
          have hτ4 : τ4 = F_X2_latest_k27 x2_4 v1 := by rw [ev1]; exact hτ4
          unfold F_X2_latest_k27 at hτ4
          refine lv_istore_n (lv' := [(1, .int v1), (2, .int x2_4), (0, .ref h_mk)]) hx hb dX2_latest_27 rfl hl (by decide) rfl (fun ls hl => ?_)
          refine lv_iinc (v := (x2_4 + (1 : Int32))) (lv' := [(2, .int (x2_4 + (1 : Int32))), (1, .int v1), (0, .ref h_mk)]) hx hb dX2_latest_28 hl (k := 1) rfl rfl (by decide) rfl (fun ls hl => ?_)
          refine lv_goto (tgt := 4) hx hb dX2_latest_31 (by decide) ?_
          have hσ4 : σ4 = F_X2_latest_l4 mk mk_times n_4 (x2_4 + (1 : Int32)) v1 := by subst hτ4; exact hσ4
          exact ih (x2_4 + (1 : Int32)) v1 _ _ _ ⟨cnt_lt c14 hM.1, cnt_lt_pos c14 hM.2⟩ hP hD hS (lv_sub hl [0, 1, 2] rfl) (fun ox2_4 ox1_4 H locs ls he => hK ox2_4 ox1_4 H locs ls (hσ04.trans (hσ4.trans he)))
  refine hL4 (4) (0 : Int32) (0 : Int32) _ _ _ (by decide) hP hD hS (lv_sub hl [0, 1, 2] rfl) ?_
  intro bx2_4 bx1_4 H locs ls he hP hD hS hl
  rw [he] at hρ
  have hρ : ρ = F_X2_latest_x4 bx1_4 := hρ
  unfold F_X2_latest_x4 at hρ
  refine lv_iload_n hx hb dX2_latest_34 rfl (lv_at hl 1 rfl) ?_
  exact hq bx1_4 () _ _ _ _ dX2_latest_35 rfl (hρ0.trans hρ).symm hP hD hS
def F_X2_agree_x2  : Int32 := (1 : Int32)
def F_X2_agree_b2 (mk : Nat → Int32) (mk_places : Nat → Int32) (mk_times : Nat → Int32) (tl : Nat → Int32) (tl_path : Nat → Int32) (e_ : Int32) (x3_2 : Int32) : (Int32) ⊕ (Int32) := (if (mk 2) ≤ x3_2 then Sum.inr (F_X2_agree_x2) else (if (4 : Int32) ≤ x3_2 then Sum.inr (F_X2_agree_x2) else (if (F_X8_reachedBy tl tl_path (mk_times (Int32.toNatClampNeg x3_2)) (mk_places (Int32.toNatClampNeg x3_2))) = (0 : Int32) then Sum.inr (0 : Int32) else (if (F_X8_reachedBy tl tl_path (((mk_times (Int32.toNatClampNeg x3_2)) - e_) - (1 : Int32)) (mk_places (Int32.toNatClampNeg x3_2))) = (0 : Int32) then Sum.inl (x3_2 + (1 : Int32)) else Sum.inr (0 : Int32)))))
def F_X2_agree_l2 (mk : Nat → Int32) (mk_places : Nat → Int32) (mk_times : Nat → Int32) (tl : Nat → Int32) (tl_path : Nat → Int32) (e_ : Int32) : Nat → (Int32) → Int32
  | 0, x3_2 => F_X2_agree_x2
  | n_2 + 1, x3_2 => match F_X2_agree_b2 mk mk_places mk_times tl tl_path e_ x3_2 with
    | Sum.inl c_x3_2 => F_X2_agree_l2 mk mk_places mk_times tl tl_path e_ n_2 c_x3_2
    | Sum.inr r_ => r_
def F_X2_agree (mk : Nat → Int32) (mk_places : Nat → Int32) (mk_times : Nat → Int32) (tl : Nat → Int32) (tl_path : Nat → Int32) (e_ : Int32) : Int32 := F_X2_agree_l2 mk mk_places mk_times tl tl_path e_ (4) (0 : Int32)
theorem iX2_agree_X2 : ∀ w ∈ wsX20, w ∈ wsX2_agree := fun _ h => List.mem_cons_of_mem _ (List.mem_append_left _ (List.mem_append_right _ h))
set_option maxHeartbeats 4000000 in
set_option maxRecDepth 100000 in
theorem c_X2_agree (l : Launch) (E : wV) (h_mk : Nat) (h_tl : Nat) (a_mk : Nat → Nat) (a_tl : Nat → Nat) (mk : Nat → Int32) (mk_places : Nat → Int32) (mk_times : Nat → Int32) (tl : Nat → Int32) (tl_motion : Nat → Int32) (tl_band : Nat → Int32) (tl_path : Nat → Int32) (e_ : Int32) : MetI l yX2_agree wsX2_agree ({ frames := 2, cells := 0, slots := 0, locals := 44 } : Room) E ([.ref h_mk, .ref h_tl, .int e_] : List Value) [xMarks h_mk a_mk mk, xI E (a_mk 0) 4 mk_places, xI E (a_mk 1) 4 mk_times, xTrial h_tl a_tl tl, xMotion (a_tl 0) tl_motion, xBand (a_tl 1) tl_band, xI E (a_tl 2) 601 tl_path] (fun (r : Int32) (_ : Unit) => r = F_X2_agree mk mk_places mk_times tl tl_path e_) (fun (_ : Unit) => [xMarks h_mk a_mk mk, xI E (a_mk 0) 4 mk_places, xI E (a_mk 1) 4 mk_times, xTrial h_tl a_tl tl, xMotion (a_tl 0) tl_motion, xBand (a_tl 1) tl_band, xI E (a_tl 2) 601 tl_path]) := by
  refine MetI.of (cc := cX2_agree) (maxL := 4) (own := RX2) (by decide) rfl rfl (Nat.le_of_ble_eq_true rfl) ?_
  intro p e s m below meth c A Q ls cx hP hD hS hl hq
  obtain ⟨hx, hb, hml, hown, hts, hE, hA⟩ := id cx
  have hl : lv_has ls 4 [(0, .ref h_mk), (1, .ref h_tl), (2, .int e_)] := hl
  have hP : va_P E.1 vwCl [xMarks h_mk a_mk mk, xI E (a_mk 0) 4 mk_places, xI E (a_mk 1) 4 mk_times, xTrial h_tl a_tl tl, xMotion (a_tl 0) tl_motion, xBand (a_tl 1) tl_band, xI E (a_tl 2) 601 tl_path] s.heap := hP
  obtain ⟨ρ, hρ0⟩ : ∃ ρ, F_X2_agree mk mk_places mk_times tl tl_path e_ = ρ := ⟨_, rfl⟩
  have hρ := hρ0.symm
  unfold F_X2_agree at hρ
  refine lv_iconst (v := (0 : Int32)) hx hb dX2_agree_0 (by decide) ?_
  refine lv_istore_n (lv' := [(3, .int (0 : Int32)), (0, .ref h_mk), (1, .ref h_tl), (2, .int e_)]) hx hb dX2_agree_1 rfl hl (by decide) rfl (fun ls hl => ?_)
  have hX2 : ∀ (x3_2 : Int32) (H : Heap) (locs : List Loc) (ls : Array Slot), ρ = F_X2_agree_x2 → va_P E.1 vwCl [xMarks h_mk a_mk mk, xI E (a_mk 0) 4 mk_places, xI E (a_mk 1) 4 mk_times, xTrial h_tl a_tl tl, xMotion (a_tl 0) tl_motion, xBand (a_tl 1) tl_band, xI E (a_tl 2) 601 tl_path] H → va_D A [xMarks h_mk a_mk mk, xI E (a_mk 0) 4 mk_places, xI E (a_mk 1) 4 mk_times, xTrial h_tl a_tl tl, xMotion (a_tl 0) tl_motion, xBand (a_tl 1) tl_band, xI E (a_tl 2) 601 tl_path] → va_S A s.heap H locs → lv_has ls 4 [(3, .int x3_2), (0, .ref h_mk), (1, .ref h_tl), (2, .int e_)] → W p l e ({ frames := 2, cells := 0, slots := 0, locals := 44 } : Room) s m ([.ref h_mk, .ref h_tl, .int e_] : List Value).toArray below meth c H locs 0 0 Q (F0 m 65 ls []) := by
    intro x3_2 H locs ls hρ hP hD hS hl
    unfold F_X2_agree_x2 at hρ
    refine lv_iconst (v := (1 : Int32)) hx hb dX2_agree_65 (by decide) ?_
    exact hq (1 : Int32) () _ _ _ _ dX2_agree_66 rfl (hρ0.trans hρ).symm hP hD hS
  have hL2 : ∀ (n_2 : Nat) (x3_2 : Int32) (H : Heap) (locs : List Loc) (ls : Array Slot), (((4 : Int32) : Int32).toInt ≤ (x3_2).toInt + (n_2 : Nat)) ∧ (0 ≤ (x3_2).toInt) → ρ = F_X2_agree_l2 mk mk_places mk_times tl tl_path e_ n_2 x3_2 → va_P E.1 vwCl [xMarks h_mk a_mk mk, xI E (a_mk 0) 4 mk_places, xI E (a_mk 1) 4 mk_times, xTrial h_tl a_tl tl, xMotion (a_tl 0) tl_motion, xBand (a_tl 1) tl_band, xI E (a_tl 2) 601 tl_path] H → va_D A [xMarks h_mk a_mk mk, xI E (a_mk 0) 4 mk_places, xI E (a_mk 1) 4 mk_times, xTrial h_tl a_tl tl, xMotion (a_tl 0) tl_motion, xBand (a_tl 1) tl_band, xI E (a_tl 2) 601 tl_path] → va_S A s.heap H locs → lv_has ls 4 [(3, .int x3_2), (0, .ref h_mk), (1, .ref h_tl), (2, .int e_)] → W p l e ({ frames := 2, cells := 0, slots := 0, locals := 44 } : Room) s m ([.ref h_mk, .ref h_tl, .int e_] : List Value).toArray below meth c H locs 0 0 Q (F0 m 2 ls []) := by
    intro n_2
    induction n_2 with
    | zero =>
      intro x3_2 H locs ls hM hρ hP hD hS hl
      have hM2 := hM
      rw [F_X2_agree_l2] at hρ
      refine lv_iload_n hx hb dX2_agree_2 rfl (lv_at hl 0 rfl) ?_
      refine lv_aload_n hx hb dX2_agree_3 rfl (lv_at hl 1 rfl) ?_
      refine va_get (D := E.1) (ci := 2) (v := .int (mk 2)) (C := RX2) (T := TX2) (N := 3) hx hb hts iX2_agree_X2 hown hE.1 hP 0 rfl rfl 2 (by decide) (hts (.fieldLink RX2 18 "BandBoat$Marks" "marked" "I") (List.mem_of_getElem? (i := 1) rfl)) (fun _ h9 => h9) rfl dX2_agree_4 ?_
      refine lv_icmp_ge (tgt := 65) hx hb dX2_agree_7 (by decide) (fun c7 => ?_) (fun c7 => ?_)
      · exact hX2 x3_2 _ _ _ hρ hP hD hS (lv_sub hl [0, 1, 2, 3] rfl)
      · refine lv_iload_n hx hb dX2_agree_10 rfl (lv_at hl 0 rfl) ?_
        refine lv_iconst (v := (4 : Int32)) hx hb dX2_agree_11 (by decide) ?_
        refine lv_icmp_ge (tgt := 65) hx hb dX2_agree_12 (by decide) (fun c12 => ?_) (fun c12 => ?_)
        · exact hX2 x3_2 _ _ _ hρ hP hD hS (lv_sub hl [0, 1, 2, 3] rfl)
        · exact (cnt_lt0 c12 hM.1).elim
    | succ n_2 ih =>
      intro x3_2 H locs ls hM hρ hP hD hS hl
      have hM2 := hM
      rw [F_X2_agree_l2] at hρ
      obtain ⟨τ2, hτ02⟩ : ∃ τ, F_X2_agree_b2 mk mk_places mk_times tl tl_path e_ x3_2 = τ := ⟨_, rfl⟩
      rw [hτ02] at hρ
      have hτ2 := hτ02.symm
      unfold F_X2_agree_b2 at hτ2
      refine lv_iload_n hx hb dX2_agree_2 rfl (lv_at hl 0 rfl) ?_
      refine lv_aload_n hx hb dX2_agree_3 rfl (lv_at hl 1 rfl) ?_
      refine va_get (D := E.1) (ci := 2) (v := .int (mk 2)) (C := RX2) (T := TX2) (N := 3) hx hb hts iX2_agree_X2 hown hE.1 hP 0 rfl rfl 2 (by decide) (hts (.fieldLink RX2 18 "BandBoat$Marks" "marked" "I") (List.mem_of_getElem? (i := 1) rfl)) (fun _ h9 => h9) rfl dX2_agree_4 ?_
      refine lv_icmp_ge (tgt := 65) hx hb dX2_agree_7 (by decide) (fun c7 => ?_) (fun c7 => ?_)
      · rw [if_pos c7] at hτ2
        have hρ : ρ = F_X2_agree_x2 := by subst hτ2; exact hρ
        exact hX2 x3_2 _ _ _ hρ hP hD hS (lv_sub hl [0, 1, 2, 3] rfl)
      · rw [if_neg c7] at hτ2
        refine lv_iload_n hx hb dX2_agree_10 rfl (lv_at hl 0 rfl) ?_
        refine lv_iconst (v := (4 : Int32)) hx hb dX2_agree_11 (by decide) ?_
        refine lv_icmp_ge (tgt := 65) hx hb dX2_agree_12 (by decide) (fun c12 => ?_) (fun c12 => ?_)
        · rw [if_pos c12] at hτ2
          have hρ : ρ = F_X2_agree_x2 := by subst hτ2; exact hρ
          exact hX2 x3_2 _ _ _ hρ hP hD hS (lv_sub hl [0, 1, 2, 3] rfl)
        · rw [if_neg c12] at hτ2
          refine lv_aload_n hx hb dX2_agree_15 rfl (lv_at hl 2 rfl) ?_
          refine lv_aload_n hx hb dX2_agree_16 rfl (lv_at hl 1 rfl) ?_
          refine va_get (D := E.1) (ci := 2) (v := .ref (a_mk 1)) (C := RX2) (T := TX2) (N := 3) hx hb hts iX2_agree_X2 hown hE.1 hP 0 rfl rfl 1 (by decide) (hts (.fieldLink RX2 15 "BandBoat$Marks" "times" "[I") (List.mem_of_getElem? (i := 2) rfl)) (fun _ h9 => h9) rfl dX2_agree_17 ?_
          refine lv_iload_n hx hb dX2_agree_20 rfl (lv_at hl 0 rfl) ?_
          refine ar_ild (k := (Int32.toNatClampNeg x3_2)) (v := (mk_times (Int32.toNatClampNeg x3_2))) hx hb hE hP 2 rfl (inb_c hM.2 c12 rfl) rfl rfl dX2_agree_21 ?_
          refine lv_aload_n hx hb dX2_agree_22 rfl (lv_at hl 1 rfl) ?_
          refine va_get (D := E.1) (ci := 2) (v := .ref (a_mk 0)) (C := RX2) (T := TX2) (N := 3) hx hb hts iX2_agree_X2 hown hE.1 hP 0 rfl rfl 0 (by decide) (hts (.fieldLink RX2 9 "BandBoat$Marks" "places" "[I") (List.mem_of_getElem? (i := 3) rfl)) (fun _ h9 => h9) rfl dX2_agree_23 ?_
          refine lv_iload_n hx hb dX2_agree_26 rfl (lv_at hl 0 rfl) ?_
          refine ar_ild (k := (Int32.toNatClampNeg x3_2)) (v := (mk_places (Int32.toNatClampNeg x3_2))) hx hb hE hP 1 rfl (inb_c hM.2 c12 rfl) rfl rfl dX2_agree_27 ?_
          refine kI (wc := [xTrial h_tl a_tl tl, xMotion (a_tl 0) tl_motion, xBand (a_tl 1) tl_band, xI E (a_tl 2) 601 tl_path]) (wr := [xMarks h_mk a_mk mk, xI E (a_mk 0) 4 mk_places, xI E (a_mk 1) 4 mk_times]) (wc' := (fun (_ : Unit) => [xTrial h_tl a_tl tl, xMotion (a_tl 0) tl_motion, xBand (a_tl 1) tl_band, xI E (a_tl 2) 601 tl_path])) (wn := (fun (_ : Unit) => [xMarks h_mk a_mk mk, xI E (a_mk 0) 4 mk_places, xI E (a_mk 1) 4 mk_times, xTrial h_tl a_tl tl, xMotion (a_tl 0) tl_motion, xBand (a_tl 1) tl_band, xI E (a_tl 2) 601 tl_path])) (isC := [3, 4, 5, 6]) (isR := [0, 1, 2]) (is2 := [0, 1, 2, 3, 4, 5, 6]) cx hP hD hS ⟨rfl, rfl, by decide, by decide, by decide, by decide, fun _ => rfl⟩ (rVN (As := [.int (mk_times (Int32.toNatClampNeg x3_2)), .int (mk_places (Int32.toNatClampNeg x3_2))]) (rest := []) (C := RX8) (q0 := 0) (ci := 8) cx (c_X8_reachedBy l E h_tl a_tl tl tl_motion tl_band tl_path (mk_times (Int32.toNatClampNeg x3_2)) (mk_places (Int32.toNatClampNeg x3_2)) _) (va_cnB 2 hts gX2_agree_X8_reachedBy_n32 rfl rfl rfl (hE.nw 113 rfl) (hts (.initialized RX8) (List.mem_of_getElem? (i := 5) rfl)) (by decide +kernel) ⟨Nat.le_of_ble_eq_true rfl, Nat.le_of_ble_eq_true rfl⟩) (hts (.instanceMethod yX8_reachedBy) (List.mem_of_getElem? (i := 4) rfl)) (hts (.selects RX8 yX8_reachedBy yX8_reachedBy) (List.mem_of_getElem? (i := 6) rfl)) rfl rfl rfl rfl hl.1 rfl (Nat.le_of_ble_eq_true rfl) dX2_agree_28 ⟨Nat.zero_le _, Nat.zero_le _⟩) (fun r1 u H locs hw hP hD hS => ?_)
          subst hw
          refine lv_if_eq (tgt := 57) hx hb dX2_agree_31 (by decide) (fun c31 => ?_) (fun c31 => ?_)
          · rw [if_pos c31] at hτ2
            refine lv_iconst (v := (0 : Int32)) hx hb dX2_agree_57 (by decide) ?_
            have hρ : ρ = (0 : Int32) := by subst hτ2; exact hρ
            exact hq (0 : Int32) () _ _ _ _ dX2_agree_58 rfl (hρ0.trans hρ).symm hP hD hS
          · rw [if_neg c31] at hτ2
            refine lv_aload_n hx hb dX2_agree_34 rfl (lv_at hl 2 rfl) ?_
            refine lv_aload_n hx hb dX2_agree_35 rfl (lv_at hl 1 rfl) ?_
            refine va_get (D := E.1) (ci := 2) (v := .ref (a_mk 1)) (C := RX2) (T := TX2) (N := 3) hx hb hts iX2_agree_X2 hown hE.1 hP 0 rfl rfl 1 (by decide) (hts (.fieldLink RX2 15 "BandBoat$Marks" "times" "[I") (List.mem_of_getElem? (i := 2) rfl)) (fun _ h9 => h9) rfl dX2_agree_36 ?_
            refine lv_iload_n hx hb dX2_agree_39 rfl (lv_at hl 0 rfl) ?_
            refine ar_ild (k := (Int32.toNatClampNeg x3_2)) (v := (mk_times (Int32.toNatClampNeg x3_2))) hx hb hE hP 2 rfl (inb_c hM.2 c12 rfl) rfl rfl dX2_agree_40 ?_
            refine lv_iload_n hx hb dX2_agree_41 rfl (lv_at hl 3 rfl) ?_
            refine lv_isub hx hb dX2_agree_42 ?_
            refine lv_iconst (v := (1 : Int32)) hx hb dX2_agree_43 (by decide) ?_
            refine lv_isub hx hb dX2_agree_44 ?_
            refine lv_aload_n hx hb dX2_agree_45 rfl (lv_at hl 1 rfl) ?_
            refine va_get (D := E.1) (ci := 2) (v := .ref (a_mk 0)) (C := RX2) (T := TX2) (N := 3) hx hb hts iX2_agree_X2 hown hE.1 hP 0 rfl rfl 0 (by decide) (hts (.fieldLink RX2 9 "BandBoat$Marks" "places" "[I") (List.mem_of_getElem? (i := 3) rfl)) (fun _ h9 => h9) rfl dX2_agree_46 ?_
            refine lv_iload_n hx hb dX2_agree_49 rfl (lv_at hl 0 rfl) ?_
            refine ar_ild (k := (Int32.toNatClampNeg x3_2)) (v := (mk_places (Int32.toNatClampNeg x3_2))) hx hb hE hP 1 rfl (inb_c hM.2 c12 rfl) rfl rfl dX2_agree_50 ?_
            refine kI (wc := [xTrial h_tl a_tl tl, xMotion (a_tl 0) tl_motion, xBand (a_tl 1) tl_band, xI E (a_tl 2) 601 tl_path]) (wr := [xMarks h_mk a_mk mk, xI E (a_mk 0) 4 mk_places, xI E (a_mk 1) 4 mk_times]) (wc' := (fun (_ : Unit) => [xTrial h_tl a_tl tl, xMotion (a_tl 0) tl_motion, xBand (a_tl 1) tl_band, xI E (a_tl 2) 601 tl_path])) (wn := (fun (_ : Unit) => [xMarks h_mk a_mk mk, xI E (a_mk 0) 4 mk_places, xI E (a_mk 1) 4 mk_times, xTrial h_tl a_tl tl, xMotion (a_tl 0) tl_motion, xBand (a_tl 1) tl_band, xI E (a_tl 2) 601 tl_path])) (isC := [3, 4, 5, 6]) (isR := [0, 1, 2]) (is2 := [0, 1, 2, 3, 4, 5, 6]) cx hP hD hS ⟨rfl, rfl, by decide, by decide, by decide, by decide, fun _ => rfl⟩ (rVN (As := [.int (((mk_times (Int32.toNatClampNeg x3_2)) - e_) - (1 : Int32)), .int (mk_places (Int32.toNatClampNeg x3_2))]) (rest := []) (C := RX8) (q0 := 0) (ci := 8) cx (c_X8_reachedBy l E h_tl a_tl tl tl_motion tl_band tl_path (((mk_times (Int32.toNatClampNeg x3_2)) - e_) - (1 : Int32)) (mk_places (Int32.toNatClampNeg x3_2)) _) (va_cnB 2 hts gX2_agree_X8_reachedBy_n32 rfl rfl rfl (hE.nw 113 rfl) (hts (.initialized RX8) (List.mem_of_getElem? (i := 5) rfl)) (by decide +kernel) ⟨Nat.le_of_ble_eq_true rfl, Nat.le_of_ble_eq_true rfl⟩) (hts (.instanceMethod yX8_reachedBy) (List.mem_of_getElem? (i := 4) rfl)) (hts (.selects RX8 yX8_reachedBy yX8_reachedBy) (List.mem_of_getElem? (i := 6) rfl)) rfl rfl rfl rfl hl.1 rfl (Nat.le_of_ble_eq_true rfl) dX2_agree_51 ⟨Nat.zero_le _, Nat.zero_le _⟩) (fun r2 u H locs hw hP hD hS => ?_)
            subst hw
            refine lv_if_eq (tgt := 59) hx hb dX2_agree_54 (by decide) (fun c54 => ?_) (fun c54 => ?_)
            · rw [if_pos c54] at hτ2
              refine lv_iinc (v := (x3_2 + (1 : Int32))) (lv' := [(3, .int (x3_2 + (1 : Int32))), (0, .ref h_mk), (1, .ref h_tl), (2, .int e_)]) hx hb dX2_agree_59 hl (k := 0) rfl rfl (by decide) rfl (fun ls hl => ?_)
              refine lv_goto (tgt := 2) hx hb dX2_agree_62 (by decide) ?_
              have hρ : ρ = F_X2_agree_l2 mk mk_places mk_times tl tl_path e_ n_2 (x3_2 + (1 : Int32)) := by subst hτ2; exact hρ
              exact ih (x3_2 + (1 : Int32)) _ _ _ ⟨cnt_lt c12 hM.1, cnt_lt_pos c12 hM.2⟩ hρ hP hD hS (lv_sub hl [0, 1, 2, 3] rfl)
            · rw [if_neg c54] at hτ2
              refine lv_iconst (v := (0 : Int32)) hx hb dX2_agree_57 (by decide) ?_
              have hρ : ρ = (0 : Int32) := by subst hτ2; exact hρ
              exact hq (0 : Int32) () _ _ _ _ dX2_agree_58 rfl (hρ0.trans hρ).symm hP hD hS
  exact hL2 (4) (0 : Int32) _ _ _ (by decide) hρ hP hD hS (lv_sub hl [0, 1, 2, 3] rfl)
