theorem rd_ha {t v ty : Int32} {n : Nat} (h : ty.toInt ≤ t.toInt + (n : Nat) ∧ 0 ≤ t.toInt ∧ t.toInt ≤ 400) (ht : ty.toInt ≤ 300) (c : ¬ ty ≤ t) (ev : v = t + (1 : Int32)) : v.toInt = t.toInt + 1 ∧ 0 ≤ v.toInt ∧ v.toInt ≤ 301 := by
  have h1 := lt_nle c
  have e2 : v.toInt = t.toInt + 1 := by rw [ev, i_add (by rw [i_one]; omega) (by rw [i_one]; omega), i_one]
  omega
def F_X10_reads_x16 (s_mm_3_16 : Int32) (s_mm_4_16 : Int32) (g_bt_16 : Nat → Int32) : Int32 × Int32 × Int32 × (Nat → Int32) := ((-4 : Int32), s_mm_3_16, s_mm_4_16, g_bt_16)
def F_X10_reads_k53 (s_mm_3_16 : Int32) (v5 : Int32) (v6 : Int32) (g7 : Nat → Int32) : (Int32 × Int32 × (Nat → Int32)) ⊕ (Int32 × Int32 × Int32 × (Nat → Int32)) := (if v6 = (0 : Int32) then Sum.inr (s_mm_3_16, v5, v6, g7) else Sum.inl (v5, v6, g7))
def F_X10_reads_k48 (mm : Nat → Int32) (tx : Nat → Int32) (s_mm_3_16 : Int32) (s_mm_4_16 : Int32) (g_bt_16 : Nat → Int32) (v3 : Int32) (v4 : Int32) : (Int32 × Int32 × (Nat → Int32)) ⊕ (Int32 × Int32 × Int32 × (Nat → Int32)) := (match F_X10_readsItem (upd (upd mm 3 v4) 4 s_mm_4_16) tx g_bt_16 v3 with | (v5, v6, g7) => F_X10_reads_k53 s_mm_3_16 v5 v6 g7)
def F_X10_reads_k40 (mm : Nat → Int32) (tx : Nat → Int32) (s_mm_3_16 : Int32) (s_mm_4_16 : Int32) (g_bt_16 : Nat → Int32) (v3 : Int32) : (Int32 × Int32 × (Nat → Int32)) ⊕ (Int32 × Int32 × Int32 × (Nat → Int32)) := F_X10_reads_k48 mm tx s_mm_3_16 s_mm_4_16 g_bt_16 v3 (s_mm_3_16 + (1 : Int32))
def F_X10_reads_b16 (mm : Nat → Int32) (tx : Nat → Int32) (s_mm_3_16 : Int32) (s_mm_4_16 : Int32) (g_bt_16 : Nat → Int32) : (Int32 × Int32 × (Nat → Int32)) ⊕ (Int32 × Int32 × Int32 × (Nat → Int32)) := (if (mm 2) ≤ s_mm_3_16 then Sum.inr (F_X10_reads_x16 s_mm_3_16 s_mm_4_16 g_bt_16) else F_X10_reads_k40 mm tx s_mm_3_16 s_mm_4_16 g_bt_16 (F_X10_byteAt (upd (upd mm 3 s_mm_3_16) 4 s_mm_4_16) tx s_mm_3_16))
def F_X10_reads_l16 (mm : Nat → Int32) (tx : Nat → Int32) : Nat → (Int32) → (Int32) → (Nat → Int32) → Int32 × Int32 × Int32 × (Nat → Int32)
  | 0, s_mm_3_16, s_mm_4_16, g_bt_16 => F_X10_reads_x16 s_mm_3_16 s_mm_4_16 g_bt_16
  | n_16 + 1, s_mm_3_16, s_mm_4_16, g_bt_16 => match F_X10_reads_b16 mm tx s_mm_3_16 s_mm_4_16 g_bt_16 with
    | Sum.inl (c_s_mm_3_16, c_s_mm_4_16, c_g_bt_16) => F_X10_reads_l16 mm tx n_16 c_s_mm_3_16 c_s_mm_4_16 c_g_bt_16
    | Sum.inr r_ => r_
def F_X10_reads_k3 (mm : Nat → Int32) (tx : Nat → Int32) (g1 : Nat → Int32) : Int32 × Int32 × Int32 × (Nat → Int32) := F_X10_reads_l16 mm tx (300) (0 : Int32) (1 : Int32) g1
def F_X10_reads (mm : Nat → Int32) (tx : Nat → Int32) (bt : Nat → Int32) : Int32 × Int32 × Int32 × (Nat → Int32) := F_X10_reads_k3 mm tx (F_X10_begins bt (30 : Int32))
theorem iX10_reads_X10 : ∀ w ∈ wsX100, w ∈ wsX10_reads := fun _ h => List.mem_cons_of_mem _ (List.mem_append_right _ h)
set_option maxHeartbeats 4000000 in
set_option maxRecDepth 100000 in
theorem c_X10_reads (l : Launch) (E : wV) (h_mm : Nat) (a_mm : Nat → Nat) (mm : Nat → Int32) (tx : Nat → Int32) (bt : Nat → Int32) (ht : 0 ≤ (mm 2).toInt ∧ (mm 2).toInt ≤ 300) : MetI l yX10_reads wsX10_reads ({ frames := 3, cells := 0, slots := 0, locals := 73 } : Room) E ([.ref h_mm] : List Value) [xModel h_mm a_mm mm, xI E (a_mm 1) 300 tx, xI E (a_mm 5) 60 bt] (fun (r : Int32) (u : Int32 × Int32 × (Nat → Int32)) => F_X10_reads mm tx bt = (r, u)) (fun (u : Int32 × Int32 × (Nat → Int32)) => [xModel h_mm a_mm (upd (upd mm 3 u.1) 4 u.2.1), xI E (a_mm 1) 300 tx, xI E (a_mm 5) 60 u.2.2]) := by
  refine MetI.of (cc := cX10_reads) (maxL := 3) (own := RX10) (by decide) rfl rfl (Nat.le_of_ble_eq_true rfl) ?_
  intro p e s m below meth c A Q ls cx hP hD hS hl hq
  obtain ⟨hx, hb, hml, hown, hts, hE, hA⟩ := id cx
  have hl : lv_has ls 3 [(0, .ref h_mm)] := hl
  have hP : va_P E.1 vwCl [xModel h_mm a_mm mm, xI E (a_mm 1) 300 tx, xI E (a_mm 5) 60 bt] s.heap := hP
  obtain ⟨ρ, hρ0⟩ : ∃ ρ, F_X10_reads mm tx bt = ρ := ⟨_, rfl⟩
  have hρ := hρ0.symm
  unfold F_X10_reads at hρ
  refine lv_aload_n hx hb dX10_reads_0 rfl (lv_at hl 0 rfl) ?_
  refine lv_bipush (v := (30 : Int32)) hx hb dX10_reads_1 (by decide) ?_
  refine kV (wc := [xModel h_mm a_mm mm, xI E (a_mm 5) 60 bt]) (wr := [xI E (a_mm 1) 300 tx]) (wc' := (fun (u : (Nat → Int32)) => [xModel h_mm a_mm mm, xI E (a_mm 5) 60 u])) (wn := (fun (u : (Nat → Int32)) => [xModel h_mm a_mm mm, xI E (a_mm 1) 300 tx, xI E (a_mm 5) 60 u])) (isC := [0, 2]) (isR := [1]) (is2 := [1, 0, 2]) cx hP hD hS ⟨rfl, rfl, by decide, by decide, by decide, by decide, fun _ => rfl⟩ (rV (As := [.int (30 : Int32)]) (rest := []) (C := RX10) (q0 := 0) (ci := 10) cx (c_X10_begins l E h_mm a_mm mm bt (30 : Int32) (by decide) _) (cwV 1 hts gX10_reads_X10_begins rfl rfl rfl (by decide +kernel) ⟨Nat.le_of_ble_eq_true rfl, Nat.le_of_ble_eq_true rfl⟩) rfl rfl rfl rfl hl.1 rfl (Nat.le_of_ble_eq_true rfl) dX10_reads_3 ⟨Nat.zero_le _, Nat.zero_le _⟩) (fun u H locs hw hP hD hS => ?_)
  obtain ⟨g1, rfl⟩ : ∃ z, z = u := ⟨_, rfl⟩
  have hP : va_P E.1 vwCl [xModel h_mm a_mm mm, xI E (a_mm 1) 300 tx, xI E (a_mm 5) 60 g1] H := hP
  have hD : va_D A [xModel h_mm a_mm mm, xI E (a_mm 1) 300 tx, xI E (a_mm 5) 60 g1] := hD
  have hw : F_X10_begins bt (30 : Int32) = g1 := hw
  rw [hw] at hρ
  have hρ : ρ = F_X10_reads_k3 mm tx g1 := hρ
  unfold F_X10_reads_k3 at hρ
  refine lv_aload_n hx hb dX10_reads_6 rfl (lv_at hl 0 rfl) ?_
  refine lv_iconst (v := (0 : Int32)) hx hb dX10_reads_7 (by decide) ?_
  refine va_put (D := E.1) (ci := 10) (v := .int (0 : Int32)) (ty := .int) (C := RX10) (T := TX10) (N := 27) hx hb hts iX10_reads_X10 tyX10 tyX10_ok nmX10 hown hE.1 hP hD hS 0 rfl rfl 3 (by decide) (hts (.fieldLink RX10 54 "BandBoatModel" "at" "I") (List.mem_of_getElem? (i := 1) rfl)) (fun _ h9 => h9) rfl (by decide +kernel) rfl rfl (Nat.le_of_ble_eq_true rfl) dX10_reads_8 (fun H locs hP hD hS => ?_)
  have hP : va_P E.1 vwCl [xModel h_mm a_mm (upd mm 3 (0 : Int32)), xI E (a_mm 1) 300 tx, xI E (a_mm 5) 60 g1] H := hP
  have hD : va_D A [xModel h_mm a_mm (upd mm 3 (0 : Int32)), xI E (a_mm 1) 300 tx, xI E (a_mm 5) 60 g1] := hD
  refine lv_aload_n hx hb dX10_reads_11 rfl (lv_at hl 0 rfl) ?_
  refine lv_iconst (v := (1 : Int32)) hx hb dX10_reads_12 (by decide) ?_
  refine va_put (D := E.1) (ci := 10) (v := .int (1 : Int32)) (ty := .boolean) (C := RX10) (T := TX10) (N := 27) hx hb hts iX10_reads_X10 tyX10 tyX10_ok nmX10 hown hE.1 hP hD hS 0 rfl rfl 4 (by decide) (hts (.fieldLink RX10 61 "BandBoatModel" "isWell" "Z") (List.mem_of_getElem? (i := 2) rfl)) (fun _ h9 => h9) rfl (by decide +kernel) rfl rfl (Nat.le_of_ble_eq_true rfl) dX10_reads_13 (fun H locs hP hD hS => ?_)
  have hP : va_P E.1 vwCl [xModel h_mm a_mm (upd (upd mm 3 (0 : Int32)) 4 (1 : Int32)), xI E (a_mm 1) 300 tx, xI E (a_mm 5) 60 g1] H := hP
  have hD : va_D A [xModel h_mm a_mm (upd (upd mm 3 (0 : Int32)) 4 (1 : Int32)), xI E (a_mm 1) 300 tx, xI E (a_mm 5) 60 g1] := hD
  have hX16 : ∀ (s_mm_3_16 : Int32) (s_mm_4_16 : Int32) (g_bt_16 : Nat → Int32) (H : Heap) (locs : List Loc) (ls : Array Slot), ρ = F_X10_reads_x16 s_mm_3_16 s_mm_4_16 g_bt_16 → va_P E.1 vwCl [xModel h_mm a_mm (upd (upd mm 3 s_mm_3_16) 4 s_mm_4_16), xI E (a_mm 1) 300 tx, xI E (a_mm 5) 60 g_bt_16] H → va_D A [xModel h_mm a_mm (upd (upd mm 3 s_mm_3_16) 4 s_mm_4_16), xI E (a_mm 1) 300 tx, xI E (a_mm 5) 60 g_bt_16] → va_S A s.heap H locs → lv_has ls 3 [(0, .ref h_mm)] → W p l e ({ frames := 3, cells := 0, slots := 0, locals := 73 } : Room) s m ([.ref h_mm] : List Value).toArray below meth c H locs 0 0 Q (F0 m 68 ls []) := by
    intro s_mm_3_16 s_mm_4_16 g_bt_16 H locs ls hρ hP hD hS hl
    unfold F_X10_reads_x16 at hρ
    refine lv_bipush (v := (-4 : Int32)) hx hb dX10_reads_68 (by decide) ?_
    exact hq (-4 : Int32) (s_mm_3_16, s_mm_4_16, g_bt_16) _ _ _ _ dX10_reads_70 rfl (hρ0.trans hρ) hP hD hS
  have hL16 : ∀ (n_16 : Nat) (s_mm_3_16 : Int32) (s_mm_4_16 : Int32) (g_bt_16 : Nat → Int32) (H : Heap) (locs : List Loc) (ls : Array Slot), (((mm 2) : Int32).toInt ≤ (s_mm_3_16).toInt + (n_16 : Nat)) ∧ (0 ≤ (s_mm_3_16).toInt ∧ (s_mm_3_16).toInt ≤ 400) → ρ = F_X10_reads_l16 mm tx n_16 s_mm_3_16 s_mm_4_16 g_bt_16 → va_P E.1 vwCl [xModel h_mm a_mm (upd (upd mm 3 s_mm_3_16) 4 s_mm_4_16), xI E (a_mm 1) 300 tx, xI E (a_mm 5) 60 g_bt_16] H → va_D A [xModel h_mm a_mm (upd (upd mm 3 s_mm_3_16) 4 s_mm_4_16), xI E (a_mm 1) 300 tx, xI E (a_mm 5) 60 g_bt_16] → va_S A s.heap H locs → lv_has ls 3 [(0, .ref h_mm)] → W p l e ({ frames := 3, cells := 0, slots := 0, locals := 73 } : Room) s m ([.ref h_mm] : List Value).toArray below meth c H locs 0 0 Q (F0 m 16 ls []) := by
    intro n_16
    induction n_16 with
    | zero =>
      intro s_mm_3_16 s_mm_4_16 g_bt_16 H locs ls hM hρ hP hD hS hl
      have hM16 := hM
      rw [F_X10_reads_l16] at hρ
      refine lv_aload_n hx hb dX10_reads_16 rfl (lv_at hl 0 rfl) ?_
      refine va_get (D := E.1) (ci := 10) (v := .int s_mm_3_16) (C := RX10) (T := TX10) (N := 27) hx hb hts iX10_reads_X10 hown hE.1 hP 0 rfl rfl 3 (by decide) (hts (.fieldLink RX10 54 "BandBoatModel" "at" "I") (List.mem_of_getElem? (i := 1) rfl)) (fun _ h9 => h9) rfl dX10_reads_17 ?_
      refine lv_aload_n hx hb dX10_reads_20 rfl (lv_at hl 0 rfl) ?_
      refine va_get (D := E.1) (ci := 10) (v := .int (mm 2)) (C := RX10) (T := TX10) (N := 27) hx hb hts iX10_reads_X10 hown hE.1 hP 0 rfl rfl 2 (by decide) (hts (.fieldLink RX10 49 "BandBoatModel" "typed" "I") (List.mem_of_getElem? (i := 3) rfl)) (fun _ h9 => h9) rfl dX10_reads_21 ?_
      refine lv_icmp_ge (tgt := 68) hx hb dX10_reads_24 (by decide) (fun c24 => ?_) (fun c24 => ?_)
      · exact hX16 s_mm_3_16 s_mm_4_16 g_bt_16 _ _ _ hρ hP hD hS (lv_sub hl [0] rfl)
      · exact (cnt_lt0 c24 hM.1).elim
    | succ n_16 ih =>
      intro s_mm_3_16 s_mm_4_16 g_bt_16 H locs ls hM hρ hP hD hS hl
      have hM16 := hM
      rw [F_X10_reads_l16] at hρ
      obtain ⟨τ16, hτ016⟩ : ∃ τ, F_X10_reads_b16 mm tx s_mm_3_16 s_mm_4_16 g_bt_16 = τ := ⟨_, rfl⟩
      rw [hτ016] at hρ
      have hτ16 := hτ016.symm
      unfold F_X10_reads_b16 at hτ16
      refine lv_aload_n hx hb dX10_reads_16 rfl (lv_at hl 0 rfl) ?_
      refine va_get (D := E.1) (ci := 10) (v := .int s_mm_3_16) (C := RX10) (T := TX10) (N := 27) hx hb hts iX10_reads_X10 hown hE.1 hP 0 rfl rfl 3 (by decide) (hts (.fieldLink RX10 54 "BandBoatModel" "at" "I") (List.mem_of_getElem? (i := 1) rfl)) (fun _ h9 => h9) rfl dX10_reads_17 ?_
      refine lv_aload_n hx hb dX10_reads_20 rfl (lv_at hl 0 rfl) ?_
      refine va_get (D := E.1) (ci := 10) (v := .int (mm 2)) (C := RX10) (T := TX10) (N := 27) hx hb hts iX10_reads_X10 hown hE.1 hP 0 rfl rfl 2 (by decide) (hts (.fieldLink RX10 49 "BandBoatModel" "typed" "I") (List.mem_of_getElem? (i := 3) rfl)) (fun _ h9 => h9) rfl dX10_reads_21 ?_
      refine lv_icmp_ge (tgt := 68) hx hb dX10_reads_24 (by decide) (fun c24 => ?_) (fun c24 => ?_)
      · rw [if_pos c24] at hτ16
        have hρ : ρ = F_X10_reads_x16 s_mm_3_16 s_mm_4_16 g_bt_16 := by subst hτ16; exact hρ
        exact hX16 s_mm_3_16 s_mm_4_16 g_bt_16 _ _ _ hρ hP hD hS (lv_sub hl [0] rfl)
      · rw [if_neg c24] at hτ16
        refine lv_aload_n hx hb dX10_reads_27 rfl (lv_at hl 0 rfl) ?_
        refine va_get (D := E.1) (ci := 10) (v := .int s_mm_3_16) (C := RX10) (T := TX10) (N := 27) hx hb hts iX10_reads_X10 hown hE.1 hP 0 rfl rfl 3 (by decide) (hts (.fieldLink RX10 54 "BandBoatModel" "at" "I") (List.mem_of_getElem? (i := 1) rfl)) (fun _ h9 => h9) rfl dX10_reads_28 ?_
        refine lv_istore_n (lv' := [(1, .int s_mm_3_16), (0, .ref h_mm)]) hx hb dX10_reads_31 rfl hl (by decide) rfl (fun ls hl => ?_)
        refine lv_aload_n hx hb dX10_reads_32 rfl (lv_at hl 1 rfl) ?_
        refine lv_aload_n hx hb dX10_reads_33 rfl (lv_at hl 1 rfl) ?_
        refine va_get (D := E.1) (ci := 10) (v := .int s_mm_3_16) (C := RX10) (T := TX10) (N := 27) hx hb hts iX10_reads_X10 hown hE.1 hP 0 rfl rfl 3 (by decide) (hts (.fieldLink RX10 54 "BandBoatModel" "at" "I") (List.mem_of_getElem? (i := 1) rfl)) (fun _ h9 => h9) rfl dX10_reads_34 ?_
        refine kI (wc := [xModel h_mm a_mm (upd (upd mm 3 s_mm_3_16) 4 s_mm_4_16), xI E (a_mm 1) 300 tx]) (wr := [xI E (a_mm 5) 60 g_bt_16]) (wc' := (fun (_ : Unit) => [xModel h_mm a_mm (upd (upd mm 3 s_mm_3_16) 4 s_mm_4_16), xI E (a_mm 1) 300 tx])) (wn := (fun (_ : Unit) => [xModel h_mm a_mm (upd (upd mm 3 s_mm_3_16) 4 s_mm_4_16), xI E (a_mm 1) 300 tx, xI E (a_mm 5) 60 g_bt_16])) (isC := [0, 1]) (isR := [2]) (is2 := [1, 2, 0]) cx hP hD hS ⟨rfl, rfl, by decide, by decide, by decide, by decide, fun _ => rfl⟩ (rV (As := [.int s_mm_3_16]) (rest := []) (C := RX10) (q0 := 0) (ci := 10) cx (c_X10_byteAt l E h_mm a_mm (upd (upd mm 3 s_mm_3_16) 4 s_mm_4_16) tx s_mm_3_16 (hM.2.1) (ht.2) _) (cwV 1 hts gX10_reads_X10_byteAt rfl rfl rfl (by decide +kernel) ⟨Nat.le_of_ble_eq_true rfl, Nat.le_of_ble_eq_true rfl⟩) rfl rfl rfl rfl hl.1 rfl (Nat.le_of_ble_eq_true rfl) dX10_reads_37 ⟨Nat.zero_le _, Nat.zero_le _⟩) (fun r2 u H locs hw hP hD hS => ?_)
        subst hw
        refine lv_topi (fun v3 ev3 => ?_)
        have hτ16 : τ16 = F_X10_reads_k40 mm tx s_mm_3_16 s_mm_4_16 g_bt_16 v3 := by rw [ev3]; exact hτ16
        unfold F_X10_reads_k40 at hτ16
        refine lv_istore_n (lv' := [(2, .int v3), (1, .int s_mm_3_16), (0, .ref h_mm)]) hx hb dX10_reads_40 rfl hl (by decide) rfl (fun ls hl => ?_)
        refine lv_aload_n hx hb dX10_reads_41 rfl (lv_at hl 2 rfl) ?_
        refine lv_dup hx hb dX10_reads_42 rfl ?_
        refine va_get (D := E.1) (ci := 10) (v := .int s_mm_3_16) (C := RX10) (T := TX10) (N := 27) hx hb hts iX10_reads_X10 hown hE.1 hP 0 rfl rfl 3 (by decide) (hts (.fieldLink RX10 54 "BandBoatModel" "at" "I") (List.mem_of_getElem? (i := 1) rfl)) (fun _ h9 => h9) rfl dX10_reads_43 ?_
        refine lv_iconst (v := (1 : Int32)) hx hb dX10_reads_46 (by decide) ?_
        refine lv_iadd hx hb dX10_reads_47 ?_
        refine lv_topi (fun v4 ev4 => ?_)
        have hτ16 : τ16 = F_X10_reads_k48 mm tx s_mm_3_16 s_mm_4_16 g_bt_16 v3 v4 := by rw [ev4]; exact hτ16
        unfold F_X10_reads_k48 at hτ16
        refine va_put (D := E.1) (ci := 10) (v := .int v4) (ty := .int) (C := RX10) (T := TX10) (N := 27) hx hb hts iX10_reads_X10 tyX10 tyX10_ok nmX10 hown hE.1 hP hD hS 0 rfl rfl 3 (by decide) (hts (.fieldLink RX10 54 "BandBoatModel" "at" "I") (List.mem_of_getElem? (i := 1) rfl)) (fun _ h9 => h9) rfl (by decide +kernel) rfl rfl (Nat.le_of_ble_eq_true rfl) dX10_reads_48 (fun H locs hP hD hS => ?_)
        have hP : va_P E.1 vwCl [xModel h_mm a_mm (upd (upd mm 3 v4) 4 s_mm_4_16), xI E (a_mm 1) 300 tx, xI E (a_mm 5) 60 g_bt_16] H := hP
        have hD : va_D A [xModel h_mm a_mm (upd (upd mm 3 v4) 4 s_mm_4_16), xI E (a_mm 1) 300 tx, xI E (a_mm 5) 60 g_bt_16] := hD
        refine lv_aload_n hx hb dX10_reads_51 rfl (lv_at hl 2 rfl) ?_
        refine lv_iload_n hx hb dX10_reads_52 rfl (lv_at hl 0 rfl) ?_
        refine kV (wc := [xModel h_mm a_mm (upd (upd mm 3 v4) 4 s_mm_4_16), xI E (a_mm 1) 300 tx, xI E (a_mm 5) 60 g_bt_16]) (wr := []) (wc' := (fun (u : Int32 × Int32 × (Nat → Int32)) => [xModel h_mm a_mm (upd (upd (upd (upd mm 3 v4) 4 s_mm_4_16) 3 u.1) 4 u.2.1), xI E (a_mm 1) 300 tx, xI E (a_mm 5) 60 u.2.2])) (wn := (fun (u : Int32 × Int32 × (Nat → Int32)) => [xModel h_mm a_mm (upd (upd mm 3 u.1) 4 u.2.1), xI E (a_mm 1) 300 tx, xI E (a_mm 5) 60 u.2.2])) (isC := [0, 1, 2]) (isR := []) (is2 := [0, 1, 2]) cx hP hD hS ⟨rfl, rfl, by decide, by decide, by decide, by decide, fun _ => rfl⟩ (rV (As := [.int v3]) (rest := []) (C := RX10) (q0 := 0) (ci := 10) cx (c_X10_readsItem l E h_mm a_mm (upd (upd mm 3 v4) 4 s_mm_4_16) tx g_bt_16 v3 (by have := rd_ha hM ht.2 c24 ev4; show 0 ≤ (v4).toInt ∧ (v4).toInt ≤ 1000; omega) (ht.2) _) (cwV 1 hts gX10_reads_X10_readsItem rfl rfl rfl (by decide +kernel) ⟨Nat.le_of_ble_eq_true rfl, Nat.le_of_ble_eq_true rfl⟩) rfl rfl rfl rfl hl.1 rfl (Nat.le_of_ble_eq_true rfl) dX10_reads_53 ⟨Nat.zero_le _, Nat.zero_le _⟩) (fun u H locs hw hP hD hS => ?_)
        obtain ⟨hw, hn53⟩ := hw
        obtain ⟨v5, v6, g7⟩ := u
        have hn53 : v4.toInt ≤ (v5).toInt ∧ (v5).toInt ≤ v4.toInt + 20 := hn53
        have hP : va_P E.1 vwCl [xModel h_mm a_mm (upd (upd mm 3 v5) 4 v6), xI E (a_mm 1) 300 tx, xI E (a_mm 5) 60 g7] H := hP
        have hD : va_D A [xModel h_mm a_mm (upd (upd mm 3 v5) 4 v6), xI E (a_mm 1) 300 tx, xI E (a_mm 5) 60 g7] := hD
        have hw : F_X10_readsItem (upd (upd mm 3 v4) 4 s_mm_4_16) tx g_bt_16 v3 = (v5, v6, g7) := hw
        rw [hw] at hτ16
        have hτ16 : τ16 = F_X10_reads_k53 s_mm_3_16 v5 v6 g7 := hτ16
        unfold F_X10_reads_k53 at hτ16
        refine lv_aload_n hx hb dX10_reads_56 rfl (lv_at hl 2 rfl) ?_
        refine va_get (D := E.1) (ci := 10) (v := .int v6) (C := RX10) (T := TX10) (N := 27) hx hb hts iX10_reads_X10 hown hE.1 hP 0 rfl rfl 4 (by decide) (hts (.fieldLink RX10 61 "BandBoatModel" "isWell" "Z") (List.mem_of_getElem? (i := 2) rfl)) (fun _ h9 => h9) rfl dX10_reads_57 ?_
        refine lv_if_ne (tgt := 65) hx hb dX10_reads_60 (by decide) (fun c60 => ?_) (fun c60 => ?_)
        · rw [if_neg c60] at hτ16
          refine lv_goto (tgt := 16) hx hb dX10_reads_65 (by decide) ?_
          have hρ : ρ = F_X10_reads_l16 mm tx n_16 v5 v6 g7 := by subst hτ16; exact hρ
          exact ih v5 v6 g7 _ _ _ ⟨by have h1 := hn53; have h2 := lt_nle c24; have h3 := hM16; have h4 := rd_ha hM16 ht.2 c24 (by assumption); omega, by have h1 := hn53; have h2 := lt_nle c24; have h3 := hM16; have h4 := rd_ha hM16 ht.2 c24 (by assumption); omega⟩ hρ hP hD hS (lv_sub hl [2] rfl)
        · rw [if_pos c60] at hτ16
          refine lv_iload_n hx hb dX10_reads_63 rfl (lv_at hl 1 rfl) ?_
          have hρ : ρ = (s_mm_3_16, v5, v6, g7) := by subst hτ16; exact hρ
          exact hq s_mm_3_16 (v5, v6, g7) _ _ _ _ dX10_reads_64 rfl (hρ0.trans hρ) hP hD hS
  exact hL16 (300) (0 : Int32) (1 : Int32) g1 _ _ _ (⟨by show _ ≤ (0 : Int) + _; omega, by decide⟩) hρ hP hD hS (lv_sub hl [0] rfl)
def F_X10_fault_k6 (r1 : Int32) (v2 : Int32) (v3 : Int32) (g4 : Nat → Int32) : Int32 × Int32 × Int32 × Int32 × (Nat → Int32) := (r1, (0 : Int32), v2, v3, g4)
def F_X10_fault (mm : Nat → Int32) (tx : Nat → Int32) (bt : Nat → Int32) : Int32 × Int32 × Int32 × Int32 × (Nat → Int32) := (match F_X10_reads (upd mm 0 (0 : Int32)) tx bt with | (r1, v2, v3, g4) => F_X10_fault_k6 r1 v2 v3 g4)
theorem iX10_fault_X10 : ∀ w ∈ wsX100, w ∈ wsX10_fault := fun _ h => List.mem_cons_of_mem _ (List.mem_append_right _ h)
set_option maxHeartbeats 4000000 in
set_option maxRecDepth 100000 in
theorem c_X10_fault (l : Launch) (E : wV) (h_mm : Nat) (a_mm : Nat → Nat) (mm : Nat → Int32) (tx : Nat → Int32) (bt : Nat → Int32) (ht : 0 ≤ (mm 2).toInt ∧ (mm 2).toInt ≤ 300) : MetI l yX10_fault wsX10_fault ({ frames := 4, cells := 0, slots := 0, locals := 95 } : Room) E ([.ref h_mm] : List Value) [xModel h_mm a_mm mm, xI E (a_mm 1) 300 tx, xI E (a_mm 5) 60 bt] (fun (r : Int32) (u : Int32 × Int32 × Int32 × (Nat → Int32)) => F_X10_fault mm tx bt = (r, u)) (fun (u : Int32 × Int32 × Int32 × (Nat → Int32)) => [xModel h_mm a_mm (upd (upd (upd mm 0 u.1) 3 u.2.1) 4 u.2.2.1), xI E (a_mm 1) 300 tx, xI E (a_mm 5) 60 u.2.2.2]) := by
  refine MetI.of (cc := cX10_fault) (maxL := 1) (own := RX10) (by decide) rfl rfl (Nat.le_of_ble_eq_true rfl) ?_
  intro p e s m below meth c A Q ls cx hP hD hS hl hq
  obtain ⟨hx, hb, hml, hown, hts, hE, hA⟩ := id cx
  have hl : lv_has ls 1 [(0, .ref h_mm)] := hl
  have hP : va_P E.1 vwCl [xModel h_mm a_mm mm, xI E (a_mm 1) 300 tx, xI E (a_mm 5) 60 bt] s.heap := hP
  obtain ⟨ρ, hρ0⟩ : ∃ ρ, F_X10_fault mm tx bt = ρ := ⟨_, rfl⟩
  have hρ := hρ0.symm
  unfold F_X10_fault at hρ
  refine lv_aload_n hx hb dX10_fault_0 rfl (lv_at hl 0 rfl) ?_
  refine lv_iconst (v := (0 : Int32)) hx hb dX10_fault_1 (by decide) ?_
  refine va_put (D := E.1) (ci := 10) (v := .int (0 : Int32)) (ty := .int) (C := RX10) (T := TX10) (N := 27) hx hb hts iX10_fault_X10 tyX10 tyX10_ok nmX10 hown hE.1 hP hD hS 0 rfl rfl 0 (by decide) (hts (.fieldLink RX10 41 "BandBoatModel" "thrown" "I") (List.mem_of_getElem? (i := 1) rfl)) (fun _ h9 => h9) rfl (by decide +kernel) rfl rfl (Nat.le_of_ble_eq_true rfl) dX10_fault_2 (fun H locs hP hD hS => ?_)
  have hP : va_P E.1 vwCl [xModel h_mm a_mm (upd mm 0 (0 : Int32)), xI E (a_mm 1) 300 tx, xI E (a_mm 5) 60 bt] H := hP
  have hD : va_D A [xModel h_mm a_mm (upd mm 0 (0 : Int32)), xI E (a_mm 1) 300 tx, xI E (a_mm 5) 60 bt] := hD
  refine lv_aload_n hx hb dX10_fault_5 rfl (lv_at hl 0 rfl) ?_
  refine kI (wc := [xModel h_mm a_mm (upd mm 0 (0 : Int32)), xI E (a_mm 1) 300 tx, xI E (a_mm 5) 60 bt]) (wr := []) (wc' := (fun (u : Int32 × Int32 × (Nat → Int32)) => [xModel h_mm a_mm (upd (upd (upd mm 0 (0 : Int32)) 3 u.1) 4 u.2.1), xI E (a_mm 1) 300 tx, xI E (a_mm 5) 60 u.2.2])) (wn := (fun (u : Int32 × Int32 × (Nat → Int32)) => [xModel h_mm a_mm (upd (upd (upd mm 0 (0 : Int32)) 3 u.1) 4 u.2.1), xI E (a_mm 1) 300 tx, xI E (a_mm 5) 60 u.2.2])) (isC := [0, 1, 2]) (isR := []) (is2 := [0, 1, 2]) cx hP hD hS ⟨rfl, rfl, by decide, by decide, by decide, by decide, fun _ => rfl⟩ (rV (As := []) (rest := []) (C := RX10) (q0 := 0) (ci := 10) cx (c_X10_reads l E h_mm a_mm (upd mm 0 (0 : Int32)) tx bt (ht) _) (cwV 0 hts gX10_fault_X10_reads rfl rfl rfl (by decide +kernel) ⟨Nat.le_of_ble_eq_true rfl, Nat.le_of_ble_eq_true rfl⟩) rfl rfl rfl rfl hl.1 rfl (Nat.le_of_ble_eq_true rfl) dX10_fault_6 ⟨Nat.zero_le _, Nat.zero_le _⟩) (fun r1 u H locs hw hP hD hS => ?_)
  obtain ⟨v2, v3, g4⟩ := u
  have hP : va_P E.1 vwCl [xModel h_mm a_mm (upd (upd (upd mm 0 (0 : Int32)) 3 v2) 4 v3), xI E (a_mm 1) 300 tx, xI E (a_mm 5) 60 g4] H := hP
  have hD : va_D A [xModel h_mm a_mm (upd (upd (upd mm 0 (0 : Int32)) 3 v2) 4 v3), xI E (a_mm 1) 300 tx, xI E (a_mm 5) 60 g4] := hD
  have hw : F_X10_reads (upd mm 0 (0 : Int32)) tx bt = (r1, v2, v3, g4) := hw
  rw [hw] at hρ
  have hρ : ρ = F_X10_fault_k6 r1 v2 v3 g4 := hρ
  unfold F_X10_fault_k6 at hρ
  exact hq r1 ((0 : Int32), v2, v3, g4) _ _ _ _ dX10_fault_9 rfl (hρ0.trans hρ) hP hD hS
def zr (f : Nat → Int32) (k : Int32) : Prop := ∀ j : Nat, (j : Int) < k.toInt → f j = 0
theorem zr_0 (f : Nat → Int32) : zr f (0 : Int32) := fun j h => by rw [i_z] at h; omega
theorem zr_step {f : Nat → Int32} {k b : Int32} (c : ¬ b ≤ k) (h0 : 0 ≤ k.toInt) (h : zr f k) : zr (upd f (Int32.toNatClampNeg k) (0 : Int32)) (k + (1 : Int32)) := by
  intro j hj
  have hb := Int32.toInt_lt b
  have h1 := lt_nle c
  rw [i_add (by rw [i_one]; omega) (by rw [i_one]; omega), i_one] at hj
  unfold upd
  split
  · rfl
  · rename_i hne
    have e : k.toNatClampNeg = k.toInt.toNat := rfl
    exact h j (by omega)
theorem zr_end {f : Nat → Int32} {k : Int32} (h : zr f k) (c : (6 : Int32) ≤ k) : ∀ j : Nat, j < 6 → f j = 0 := by
  intro j hj
  rw [Int32.le_iff_toInt_le] at c
  have h6 : (6 : Int32).toInt = 6 := rfl
  exact h j (by omega)
theorem ly_idx {k : Int32} (h0 : 0 ≤ k.toInt) (c : ¬ (30 : Int32) ≤ k) : vp_in ((30 : Int32) + k) 60 := b_idx (f := (30 : Int32)) (by decide) h0 c
theorem ly_idx2 {k : Int32} (h0 : 0 ≤ k.toInt) (c : ¬ (30 : Int32) ≤ k) : vp_in k 60 := by
  have h := lt_nle c
  have h3 : (30 : Int32).toInt = 30 := rfl
  exact inb_i h0 (by omega)
def F_X10_lay_k49 (x1_29 : Int32) (g_bt_29 : Nat → Int32) (v5 : Int32) : (Int32 × (Nat → Int32)) ⊕ (Int32 × (Nat → Int32)) := Sum.inl ((x1_29 + (1 : Int32)), (upd g_bt_29 (Int32.toNatClampNeg x1_29) v5))
def F_X10_lay_b29 (x1_29 : Int32) (g_bt_29 : Nat → Int32) : (Int32 × (Nat → Int32)) ⊕ (Int32 × (Nat → Int32)) := (if (30 : Int32) ≤ x1_29 then Sum.inr (x1_29, g_bt_29) else F_X10_lay_k49 x1_29 g_bt_29 (g_bt_29 (Int32.toNatClampNeg ((30 : Int32) + x1_29))))
def F_X10_lay_l29  : Nat → (Int32) → (Nat → Int32) → Int32 × (Nat → Int32)
  | 0, x1_29, g_bt_29 => (x1_29, g_bt_29)
  | n_29 + 1, x1_29, g_bt_29 => match F_X10_lay_b29 x1_29 g_bt_29 with
    | Sum.inl (c_x1_29, c_g_bt_29) => F_X10_lay_l29 n_29 c_x1_29 c_g_bt_29
    | Sum.inr r_ => r_
def F_X10_lay_b58 (x1_58 : Int32) (g_nw_58 : Nat → Int32) : (Int32 × (Nat → Int32)) ⊕ (Int32 × (Nat → Int32)) := (if (6 : Int32) ≤ x1_58 then Sum.inr (x1_58, g_nw_58) else Sum.inl ((x1_58 + (1 : Int32)), (upd g_nw_58 (Int32.toNatClampNeg x1_58) (0 : Int32))))
def F_X10_lay_l58  : Nat → (Int32) → (Nat → Int32) → Int32 × (Nat → Int32)
  | 0, x1_58, g_nw_58 => (x1_58, g_nw_58)
  | n_58 + 1, x1_58, g_nw_58 => match F_X10_lay_b58 x1_58 g_nw_58 with
    | Sum.inl (c_x1_58, c_g_nw_58) => F_X10_lay_l58 n_58 c_x1_58 c_g_nw_58
    | Sum.inr r_ => r_
def F_X10_lay_x58 (v2 : Int32) (v3 : Int32) (bg_bt_29 : Nat → Int32) (bg_nw_58 : Nat → Int32) : Int32 × Int32 × Int32 × Int32 × Int32 × Int32 × Int32 × (Nat → Int32) × (Nat → Int32) := ((bg_bt_29 28), (0 : Int32), v2, v3, (0 : Int32), (0 : Int32), (0 : Int32), bg_bt_29, bg_nw_58)
def F_X10_lay_x29 (nw : Nat → Int32) (v2 : Int32) (v3 : Int32) (bg_bt_29 : Nat → Int32) : Int32 × Int32 × Int32 × Int32 × Int32 × Int32 × Int32 × (Nat → Int32) × (Nat → Int32) := (match F_X10_lay_l58 (6) (0 : Int32) nw with | (bx1_58, bg_nw_58) => F_X10_lay_x58 v2 v3 bg_bt_29 bg_nw_58)
def F_X10_lay_k6 (mm : Nat → Int32) (nw : Nat → Int32) (r1 : Int32) (v2 : Int32) (v3 : Int32) (g4 : Nat → Int32) : Int32 × Int32 × Int32 × Int32 × Int32 × Int32 × Int32 × (Nat → Int32) × (Nat → Int32) := (if r1 = (-4 : Int32) then (if (g4 59) = (0 : Int32) then ((-2 : Int32), (0 : Int32), v2, v3, (mm 16), (mm 22), (mm 25), g4, nw) else (match F_X10_lay_l29 (30) (0 : Int32) g4 with | (bx1_29, bg_bt_29) => F_X10_lay_x29 nw v2 v3 bg_bt_29)) else ((-2 : Int32), (0 : Int32), v2, v3, (mm 16), (mm 22), (mm 25), g4, nw))
def F_X10_lay (mm : Nat → Int32) (tx : Nat → Int32) (bt : Nat → Int32) (nw : Nat → Int32) : Int32 × Int32 × Int32 × Int32 × Int32 × Int32 × Int32 × (Nat → Int32) × (Nat → Int32) := (match F_X10_reads (upd mm 0 (0 : Int32)) tx bt with | (r1, v2, v3, g4) => F_X10_lay_k6 mm nw r1 v2 v3 g4)
theorem iX10_lay_X10 : ∀ w ∈ wsX100, w ∈ wsX10_lay := fun _ h => List.mem_cons_of_mem _ (List.mem_append_right _ h)
set_option maxHeartbeats 4000000 in
set_option maxRecDepth 100000 in
theorem c_X10_lay (l : Launch) (E : wV) (h_mm : Nat) (a_mm : Nat → Nat) (mm : Nat → Int32) (tx : Nat → Int32) (bt : Nat → Int32) (nw : Nat → Int32) (ht : 0 ≤ (mm 2).toInt ∧ (mm 2).toInt ≤ 300) : MetI l yX10_lay wsX10_lay ({ frames := 4, cells := 0, slots := 0, locals := 95 } : Room) E ([.ref h_mm] : List Value) [xModel h_mm a_mm mm, xI E (a_mm 1) 300 tx, xI E (a_mm 5) 60 bt, xI E (a_mm 13) 6 nw] (fun (r : Int32) (u : Int32 × Int32 × Int32 × Int32 × Int32 × Int32 × (Nat → Int32) × (Nat → Int32)) => F_X10_lay mm tx bt nw = (r, u)) (fun (u : Int32 × Int32 × Int32 × Int32 × Int32 × Int32 × (Nat → Int32) × (Nat → Int32)) => [xModel h_mm a_mm (upd (upd (upd (upd (upd (upd mm 0 u.1) 3 u.2.1) 4 u.2.2.1) 16 u.2.2.2.1) 22 u.2.2.2.2.1) 25 u.2.2.2.2.2.1), xI E (a_mm 1) 300 tx, xI E (a_mm 5) 60 u.2.2.2.2.2.2.1, xI E (a_mm 13) 6 u.2.2.2.2.2.2.2]) := by
  refine MetI.of (cc := cX10_lay) (maxL := 2) (own := RX10) (by decide) rfl rfl (Nat.le_of_ble_eq_true rfl) ?_
  intro p e s m below meth c A Q ls cx hP hD hS hl hq
  obtain ⟨hx, hb, hml, hown, hts, hE, hA⟩ := id cx
  have hl : lv_has ls 2 [(0, .ref h_mm)] := hl
  have hP : va_P E.1 vwCl [xModel h_mm a_mm mm, xI E (a_mm 1) 300 tx, xI E (a_mm 5) 60 bt, xI E (a_mm 13) 6 nw] s.heap := hP
  obtain ⟨ρ, hρ0⟩ : ∃ ρ, F_X10_lay mm tx bt nw = ρ := ⟨_, rfl⟩
  have hρ := hρ0.symm
  unfold F_X10_lay at hρ
  refine lv_aload_n hx hb dX10_lay_0 rfl (lv_at hl 0 rfl) ?_
  refine lv_iconst (v := (0 : Int32)) hx hb dX10_lay_1 (by decide) ?_
  refine va_put (D := E.1) (ci := 10) (v := .int (0 : Int32)) (ty := .int) (C := RX10) (T := TX10) (N := 27) hx hb hts iX10_lay_X10 tyX10 tyX10_ok nmX10 hown hE.1 hP hD hS 0 rfl rfl 0 (by decide) (hts (.fieldLink RX10 41 "BandBoatModel" "thrown" "I") (List.mem_of_getElem? (i := 1) rfl)) (fun _ h9 => h9) rfl (by decide +kernel) rfl rfl (Nat.le_of_ble_eq_true rfl) dX10_lay_2 (fun H locs hP hD hS => ?_)
  have hP : va_P E.1 vwCl [xModel h_mm a_mm (upd mm 0 (0 : Int32)), xI E (a_mm 1) 300 tx, xI E (a_mm 5) 60 bt, xI E (a_mm 13) 6 nw] H := hP
  have hD : va_D A [xModel h_mm a_mm (upd mm 0 (0 : Int32)), xI E (a_mm 1) 300 tx, xI E (a_mm 5) 60 bt, xI E (a_mm 13) 6 nw] := hD
  refine lv_aload_n hx hb dX10_lay_5 rfl (lv_at hl 0 rfl) ?_
  refine kI (wc := [xModel h_mm a_mm (upd mm 0 (0 : Int32)), xI E (a_mm 1) 300 tx, xI E (a_mm 5) 60 bt]) (wr := [xI E (a_mm 13) 6 nw]) (wc' := (fun (u : Int32 × Int32 × (Nat → Int32)) => [xModel h_mm a_mm (upd (upd (upd mm 0 (0 : Int32)) 3 u.1) 4 u.2.1), xI E (a_mm 1) 300 tx, xI E (a_mm 5) 60 u.2.2])) (wn := (fun (u : Int32 × Int32 × (Nat → Int32)) => [xModel h_mm a_mm (upd (upd (upd mm 0 (0 : Int32)) 3 u.1) 4 u.2.1), xI E (a_mm 1) 300 tx, xI E (a_mm 5) 60 u.2.2, xI E (a_mm 13) 6 nw])) (isC := [0, 1, 2]) (isR := [3]) (is2 := [1, 2, 3, 0]) cx hP hD hS ⟨rfl, rfl, by decide, by decide, by decide, by decide, fun _ => rfl⟩ (rV (As := []) (rest := []) (C := RX10) (q0 := 0) (ci := 10) cx (c_X10_reads l E h_mm a_mm (upd mm 0 (0 : Int32)) tx bt (ht) _) (cwV 0 hts gX10_lay_X10_reads rfl rfl rfl (by decide +kernel) ⟨Nat.le_of_ble_eq_true rfl, Nat.le_of_ble_eq_true rfl⟩) rfl rfl rfl rfl hl.1 rfl (Nat.le_of_ble_eq_true rfl) dX10_lay_6 ⟨Nat.zero_le _, Nat.zero_le _⟩) (fun r1 u H locs hw hP hD hS => ?_)
  obtain ⟨v2, v3, g4⟩ := u
  have hP : va_P E.1 vwCl [xModel h_mm a_mm (upd (upd (upd mm 0 (0 : Int32)) 3 v2) 4 v3), xI E (a_mm 1) 300 tx, xI E (a_mm 5) 60 g4, xI E (a_mm 13) 6 nw] H := hP
  have hD : va_D A [xModel h_mm a_mm (upd (upd (upd mm 0 (0 : Int32)) 3 v2) 4 v3), xI E (a_mm 1) 300 tx, xI E (a_mm 5) 60 g4, xI E (a_mm 13) 6 nw] := hD
  have hw : F_X10_reads (upd mm 0 (0 : Int32)) tx bt = (r1, v2, v3, g4) := hw
  rw [hw] at hρ
  have hρ : ρ = F_X10_lay_k6 mm nw r1 v2 v3 g4 := hρ
  unfold F_X10_lay_k6 at hρ
  refine lv_bipush (v := (-4 : Int32)) hx hb dX10_lay_9 (by decide) ?_
  refine lv_icmp_ne (tgt := 24) hx hb dX10_lay_11 (by decide) (fun c11 => ?_) (fun c11 => ?_)
  · rw [if_neg c11] at hρ
    refine lv_bipush (v := (-2 : Int32)) hx hb dX10_lay_24 (by decide) ?_
    exact hq (-2 : Int32) ((0 : Int32), v2, v3, (mm 16), (mm 22), (mm 25), g4, nw) _ _ _ _ dX10_lay_26 rfl (hρ0.trans hρ) hP hD hS
  · rw [if_pos c11] at hρ
    refine lv_aload_n hx hb dX10_lay_14 rfl (lv_at hl 0 rfl) ?_
    refine va_get (D := E.1) (ci := 10) (v := .ref (a_mm 5)) (C := RX10) (T := TX10) (N := 27) hx hb hts iX10_lay_X10 hown hE.1 hP 0 rfl rfl 5 (by decide) (hts (.fieldLink RX10 13 "BandBoatModel" "boat" "[I") (List.mem_of_getElem? (i := 2) rfl)) (fun _ h9 => h9) rfl dX10_lay_15 ?_
    refine lv_bipush (v := (59 : Int32)) hx hb dX10_lay_18 (by decide) ?_
    refine ar_ild (k := 59) (v := (g4 59)) hx hb hE hP 2 rfl (by unfold vp_in; decide) rfl rfl dX10_lay_20 ?_
    refine lv_if_ne (tgt := 27) hx hb dX10_lay_21 (by decide) (fun c21 => ?_) (fun c21 => ?_)
    · rw [if_neg c21] at hρ
      refine lv_iconst (v := (0 : Int32)) hx hb dX10_lay_27 (by decide) ?_
      refine lv_istore_n (lv' := [(1, .int (0 : Int32)), (0, .ref h_mm)]) hx hb dX10_lay_28 rfl hl (by decide) rfl (fun ls hl => ?_)
      have hL29 : ∀ (n_29 : Nat) (x1_29 : Int32) (g_bt_29 : Nat → Int32) (H : Heap) (locs : List Loc) (ls : Array Slot), (((30 : Int32) : Int32).toInt ≤ (x1_29).toInt + (n_29 : Nat)) ∧ (0 ≤ (x1_29).toInt) → va_P E.1 vwCl [xModel h_mm a_mm (upd (upd (upd mm 0 (0 : Int32)) 3 v2) 4 v3), xI E (a_mm 1) 300 tx, xI E (a_mm 5) 60 g_bt_29, xI E (a_mm 13) 6 nw] H → va_D A [xModel h_mm a_mm (upd (upd (upd mm 0 (0 : Int32)) 3 v2) 4 v3), xI E (a_mm 1) 300 tx, xI E (a_mm 5) 60 g_bt_29, xI E (a_mm 13) 6 nw] → va_S A s.heap H locs → lv_has ls 2 [(1, .int x1_29), (0, .ref h_mm)] → (∀ (ox1_29 : Int32) (og_bt_29 : Nat → Int32) (H : Heap) (locs : List Loc) (ls : Array Slot), F_X10_lay_l29 n_29 x1_29 g_bt_29 = (ox1_29, og_bt_29) → va_P E.1 vwCl [xModel h_mm a_mm (upd (upd (upd mm 0 (0 : Int32)) 3 v2) 4 v3), xI E (a_mm 1) 300 tx, xI E (a_mm 5) 60 og_bt_29, xI E (a_mm 13) 6 nw] H → va_D A [xModel h_mm a_mm (upd (upd (upd mm 0 (0 : Int32)) 3 v2) 4 v3), xI E (a_mm 1) 300 tx, xI E (a_mm 5) 60 og_bt_29, xI E (a_mm 13) 6 nw] → va_S A s.heap H locs → lv_has ls 2 [(1, .int ox1_29), (0, .ref h_mm)] → W p l e ({ frames := 4, cells := 0, slots := 0, locals := 95 } : Room) s m ([.ref h_mm] : List Value).toArray below meth c H locs 0 0 Q (F0 m 56 ls [])) → W p l e ({ frames := 4, cells := 0, slots := 0, locals := 95 } : Room) s m ([.ref h_mm] : List Value).toArray below meth c H locs 0 0 Q (F0 m 29 ls []) := by
        intro n_29
        induction n_29 with
        | zero =>
          intro x1_29 g_bt_29 H locs ls hM hP hD hS hl hK
          have hM29 := hM
          obtain ⟨σ29, hσ029⟩ : ∃ σ, F_X10_lay_l29 0 x1_29 g_bt_29 = σ := ⟨_, rfl⟩
          have hσ29 := hσ029.symm
          rw [F_X10_lay_l29] at hσ29
          refine lv_iload_n hx hb dX10_lay_29 rfl (lv_at hl 0 rfl) ?_
          refine lv_bipush (v := (30 : Int32)) hx hb dX10_lay_30 (by decide) ?_
          refine lv_icmp_ge (tgt := 56) hx hb dX10_lay_32 (by decide) (fun c32 => ?_) (fun c32 => ?_)
          · exact hK x1_29 g_bt_29 _ _ _ (hσ029.trans hσ29) hP hD hS (lv_sub hl [0, 1] rfl)
          · exact (cnt_lt0 c32 hM.1).elim
        | succ n_29 ih =>
          intro x1_29 g_bt_29 H locs ls hM hP hD hS hl hK
          have hM29 := hM
          obtain ⟨σ29, hσ029⟩ : ∃ σ, F_X10_lay_l29 (n_29 + 1) x1_29 g_bt_29 = σ := ⟨_, rfl⟩
          have hσ29 := hσ029.symm
          rw [F_X10_lay_l29] at hσ29
          obtain ⟨τ29, hτ029⟩ : ∃ τ, F_X10_lay_b29 x1_29 g_bt_29 = τ := ⟨_, rfl⟩
          rw [hτ029] at hσ29
          have hτ29 := hτ029.symm
          unfold F_X10_lay_b29 at hτ29
          refine lv_iload_n hx hb dX10_lay_29 rfl (lv_at hl 0 rfl) ?_
          refine lv_bipush (v := (30 : Int32)) hx hb dX10_lay_30 (by decide) ?_
          refine lv_icmp_ge (tgt := 56) hx hb dX10_lay_32 (by decide) (fun c32 => ?_) (fun c32 => ?_)
          · rw [if_pos c32] at hτ29
            have hσ29 : σ29 = (x1_29, g_bt_29) := by subst hτ29; exact hσ29
            exact hK x1_29 g_bt_29 _ _ _ (hσ029.trans hσ29) hP hD hS (lv_sub hl [0, 1] rfl)
          · rw [if_neg c32] at hτ29
            refine lv_aload_n hx hb dX10_lay_35 rfl (lv_at hl 1 rfl) ?_
            refine va_get (D := E.1) (ci := 10) (v := .ref (a_mm 5)) (C := RX10) (T := TX10) (N := 27) hx hb hts iX10_lay_X10 hown hE.1 hP 0 rfl rfl 5 (by decide) (hts (.fieldLink RX10 13 "BandBoatModel" "boat" "[I") (List.mem_of_getElem? (i := 2) rfl)) (fun _ h9 => h9) rfl dX10_lay_36 ?_
            refine lv_iload_n hx hb dX10_lay_39 rfl (lv_at hl 0 rfl) ?_
            refine lv_aload_n hx hb dX10_lay_40 rfl (lv_at hl 1 rfl) ?_
            refine va_get (D := E.1) (ci := 10) (v := .ref (a_mm 5)) (C := RX10) (T := TX10) (N := 27) hx hb hts iX10_lay_X10 hown hE.1 hP 0 rfl rfl 5 (by decide) (hts (.fieldLink RX10 13 "BandBoatModel" "boat" "[I") (List.mem_of_getElem? (i := 2) rfl)) (fun _ h9 => h9) rfl dX10_lay_41 ?_
            refine lv_bipush (v := (30 : Int32)) hx hb dX10_lay_44 (by decide) ?_
            refine lv_iload_n hx hb dX10_lay_46 rfl (lv_at hl 0 rfl) ?_
            refine lv_iadd hx hb dX10_lay_47 ?_
            refine ar_ild (k := (Int32.toNatClampNeg ((30 : Int32) + x1_29))) (v := (g_bt_29 (Int32.toNatClampNeg ((30 : Int32) + x1_29)))) hx hb hE hP 2 rfl (ly_idx hM.2 c32) rfl rfl dX10_lay_48 ?_
            refine lv_topi (fun v5 ev5 => ?_)
            have hτ29 : τ29 = F_X10_lay_k49 x1_29 g_bt_29 v5 := by rw [ev5]; exact hτ29
            unfold F_X10_lay_k49 at hτ29
            refine ar_ist (k := (Int32.toNatClampNeg x1_29)) (ws' := [xModel h_mm a_mm (upd (upd (upd mm 0 (0 : Int32)) 3 v2) 4 v3), xI E (a_mm 1) 300 tx, xI E (a_mm 5) 60 (upd g_bt_29 (Int32.toNatClampNeg x1_29) v5), xI E (a_mm 13) 6 nw]) hx hb hE hP hD hS 2 rfl (ly_idx2 hM.2 c32) rfl rfl dX10_lay_49 (fun H locs hP hD hS => ?_)
            refine lv_iinc (v := (x1_29 + (1 : Int32))) (lv' := [(1, .int (x1_29 + (1 : Int32))), (0, .ref h_mm)]) hx hb dX10_lay_50 hl (k := 0) rfl rfl (by decide) rfl (fun ls hl => ?_)
            refine lv_goto (tgt := 29) hx hb dX10_lay_53 (by decide) ?_
            have hσ29 : σ29 = F_X10_lay_l29  n_29 (x1_29 + (1 : Int32)) (upd g_bt_29 (Int32.toNatClampNeg x1_29) v5) := by subst hτ29; exact hσ29
            exact ih (x1_29 + (1 : Int32)) (upd g_bt_29 (Int32.toNatClampNeg x1_29) v5) _ _ _ ⟨cnt_lt c32 hM.1, cnt_lt_pos c32 hM.2⟩ hP hD hS (lv_sub hl [0, 1] rfl) (fun ox1_29 og_bt_29 H locs ls he => hK ox1_29 og_bt_29 H locs ls (hσ029.trans (hσ29.trans he)))
      refine hL29 (30) (0 : Int32) g4 _ _ _ (by decide) hP hD hS (lv_sub hl [0, 1] rfl) ?_
      intro bx1_29 bg_bt_29 H locs ls he hP hD hS hl
      rw [he] at hρ
      have hρ : ρ = F_X10_lay_x29 nw v2 v3 bg_bt_29 := hρ
      unfold F_X10_lay_x29 at hρ
      refine lv_iconst (v := (0 : Int32)) hx hb dX10_lay_56 (by decide) ?_
      refine lv_istore_n (lv' := [(1, .int (0 : Int32)), (0, .ref h_mm)]) hx hb dX10_lay_57 rfl hl (by decide) rfl (fun ls hl => ?_)
      have hL58 : ∀ (n_58 : Nat) (x1_58 : Int32) (g_nw_58 : Nat → Int32) (H : Heap) (locs : List Loc) (ls : Array Slot), (((6 : Int32) : Int32).toInt ≤ (x1_58).toInt + (n_58 : Nat)) ∧ (0 ≤ (x1_58).toInt) ∧ (zr (g_nw_58) (x1_58)) → va_P E.1 vwCl [xModel h_mm a_mm (upd (upd (upd mm 0 (0 : Int32)) 3 v2) 4 v3), xI E (a_mm 1) 300 tx, xI E (a_mm 5) 60 bg_bt_29, xI E (a_mm 13) 6 g_nw_58] H → va_D A [xModel h_mm a_mm (upd (upd (upd mm 0 (0 : Int32)) 3 v2) 4 v3), xI E (a_mm 1) 300 tx, xI E (a_mm 5) 60 bg_bt_29, xI E (a_mm 13) 6 g_nw_58] → va_S A s.heap H locs → lv_has ls 2 [(1, .int x1_58), (0, .ref h_mm)] → (∀ (ox1_58 : Int32) (og_nw_58 : Nat → Int32) (H : Heap) (locs : List Loc) (ls : Array Slot), F_X10_lay_l58 n_58 x1_58 g_nw_58 = (ox1_58, og_nw_58) → va_P E.1 vwCl [xModel h_mm a_mm (upd (upd (upd mm 0 (0 : Int32)) 3 v2) 4 v3), xI E (a_mm 1) 300 tx, xI E (a_mm 5) 60 bg_bt_29, xI E (a_mm 13) 6 og_nw_58] H → va_D A [xModel h_mm a_mm (upd (upd (upd mm 0 (0 : Int32)) 3 v2) 4 v3), xI E (a_mm 1) 300 tx, xI E (a_mm 5) 60 bg_bt_29, xI E (a_mm 13) 6 og_nw_58] → va_S A s.heap H locs → lv_has ls 2 [(1, .int ox1_58), (0, .ref h_mm)] → W p l e ({ frames := 4, cells := 0, slots := 0, locals := 95 } : Room) s m ([.ref h_mm] : List Value).toArray below meth c H locs 0 0 Q (F0 m 77 ls [])) → W p l e ({ frames := 4, cells := 0, slots := 0, locals := 95 } : Room) s m ([.ref h_mm] : List Value).toArray below meth c H locs 0 0 Q (F0 m 58 ls []) := by
        intro n_58
        induction n_58 with
        | zero =>
          intro x1_58 g_nw_58 H locs ls hM hP hD hS hl hK
          have hM58 := hM
          obtain ⟨σ58, hσ058⟩ : ∃ σ, F_X10_lay_l58 0 x1_58 g_nw_58 = σ := ⟨_, rfl⟩
          have hσ58 := hσ058.symm
          rw [F_X10_lay_l58] at hσ58
          refine lv_iload_n hx hb dX10_lay_58 rfl (lv_at hl 0 rfl) ?_
          refine lv_bipush (v := (6 : Int32)) hx hb dX10_lay_59 (by decide) ?_
          refine lv_icmp_ge (tgt := 77) hx hb dX10_lay_61 (by decide) (fun c61 => ?_) (fun c61 => ?_)
          · exact hK x1_58 g_nw_58 _ _ _ (hσ058.trans hσ58) hP hD hS (lv_sub hl [0, 1] rfl)
          · exact (cnt_lt0 c61 hM.1).elim
        | succ n_58 ih =>
          intro x1_58 g_nw_58 H locs ls hM hP hD hS hl hK
          have hM58 := hM
          obtain ⟨σ58, hσ058⟩ : ∃ σ, F_X10_lay_l58 (n_58 + 1) x1_58 g_nw_58 = σ := ⟨_, rfl⟩
          have hσ58 := hσ058.symm
          rw [F_X10_lay_l58] at hσ58
          obtain ⟨τ58, hτ058⟩ : ∃ τ, F_X10_lay_b58 x1_58 g_nw_58 = τ := ⟨_, rfl⟩
          rw [hτ058] at hσ58
          have hτ58 := hτ058.symm
          unfold F_X10_lay_b58 at hτ58
          refine lv_iload_n hx hb dX10_lay_58 rfl (lv_at hl 0 rfl) ?_
          refine lv_bipush (v := (6 : Int32)) hx hb dX10_lay_59 (by decide) ?_
          refine lv_icmp_ge (tgt := 77) hx hb dX10_lay_61 (by decide) (fun c61 => ?_) (fun c61 => ?_)
          · rw [if_pos c61] at hτ58
            have hσ58 : σ58 = (x1_58, g_nw_58) := by subst hτ58; exact hσ58
            exact hK x1_58 g_nw_58 _ _ _ (hσ058.trans hσ58) hP hD hS (lv_sub hl [0, 1] rfl)
          · rw [if_neg c61] at hτ58
            refine lv_aload_n hx hb dX10_lay_64 rfl (lv_at hl 1 rfl) ?_
            refine va_get (D := E.1) (ci := 10) (v := .ref (a_mm 13)) (C := RX10) (T := TX10) (N := 27) hx hb hts iX10_lay_X10 hown hE.1 hP 0 rfl rfl 13 (by decide) (hts (.fieldLink RX10 16 "BandBoatModel" "now" "[I") (List.mem_of_getElem? (i := 3) rfl)) (fun _ h9 => h9) rfl dX10_lay_65 ?_
            refine lv_iload_n hx hb dX10_lay_68 rfl (lv_at hl 0 rfl) ?_
            refine lv_iconst (v := (0 : Int32)) hx hb dX10_lay_69 (by decide) ?_
            refine ar_ist (k := (Int32.toNatClampNeg x1_58)) (ws' := [xModel h_mm a_mm (upd (upd (upd mm 0 (0 : Int32)) 3 v2) 4 v3), xI E (a_mm 1) 300 tx, xI E (a_mm 5) 60 bg_bt_29, xI E (a_mm 13) 6 (upd g_nw_58 (Int32.toNatClampNeg x1_58) (0 : Int32))]) hx hb hE hP hD hS 3 rfl (inb_c hM.2.1 c61 rfl) rfl rfl dX10_lay_70 (fun H locs hP hD hS => ?_)
            refine lv_iinc (v := (x1_58 + (1 : Int32))) (lv' := [(1, .int (x1_58 + (1 : Int32))), (0, .ref h_mm)]) hx hb dX10_lay_71 hl (k := 0) rfl rfl (by decide) rfl (fun ls hl => ?_)
            refine lv_goto (tgt := 58) hx hb dX10_lay_74 (by decide) ?_
            have hσ58 : σ58 = F_X10_lay_l58  n_58 (x1_58 + (1 : Int32)) (upd g_nw_58 (Int32.toNatClampNeg x1_58) (0 : Int32)) := by subst hτ58; exact hσ58
            exact ih (x1_58 + (1 : Int32)) (upd g_nw_58 (Int32.toNatClampNeg x1_58) (0 : Int32)) _ _ _ ⟨cnt_lt c61 hM.1, cnt_lt_pos c61 hM.2.1, zr_step c61 hM.2.1 hM.2.2⟩ hP hD hS (lv_sub hl [0, 1] rfl) (fun ox1_58 og_nw_58 H locs ls he => hK ox1_58 og_nw_58 H locs ls (hσ058.trans (hσ58.trans he)))
      refine hL58 (6) (0 : Int32) nw _ _ _ (⟨by decide, by decide, zr_0 _⟩) hP hD hS (lv_sub hl [0, 1] rfl) ?_
      intro bx1_58 bg_nw_58 H locs ls he hP hD hS hl
      rw [he] at hρ
      have hρ : ρ = F_X10_lay_x58 v2 v3 bg_bt_29 bg_nw_58 := hρ
      unfold F_X10_lay_x58 at hρ
      refine lv_aload_n hx hb dX10_lay_77 rfl (lv_at hl 1 rfl) ?_
      refine lv_iconst (v := (0 : Int32)) hx hb dX10_lay_78 (by decide) ?_
      refine va_put (D := E.1) (ci := 10) (v := .int (0 : Int32)) (ty := .int) (C := RX10) (T := TX10) (N := 27) hx hb hts iX10_lay_X10 tyX10 tyX10_ok nmX10 hown hE.1 hP hD hS 0 rfl rfl 22 (by decide) (hts (.fieldLink RX10 80 "BandBoatModel" "readings" "I") (List.mem_of_getElem? (i := 4) rfl)) (fun _ h9 => h9) rfl (by decide +kernel) rfl rfl (Nat.le_of_ble_eq_true rfl) dX10_lay_79 (fun H locs hP hD hS => ?_)
      have hP : va_P E.1 vwCl [xModel h_mm a_mm (upd (upd (upd (upd mm 0 (0 : Int32)) 3 v2) 4 v3) 22 (0 : Int32)), xI E (a_mm 1) 300 tx, xI E (a_mm 5) 60 bg_bt_29, xI E (a_mm 13) 6 bg_nw_58] H := hP
      have hD : va_D A [xModel h_mm a_mm (upd (upd (upd (upd mm 0 (0 : Int32)) 3 v2) 4 v3) 22 (0 : Int32)), xI E (a_mm 1) 300 tx, xI E (a_mm 5) 60 bg_bt_29, xI E (a_mm 13) 6 bg_nw_58] := hD
      refine lv_aload_n hx hb dX10_lay_82 rfl (lv_at hl 1 rfl) ?_
      refine lv_iconst (v := (0 : Int32)) hx hb dX10_lay_83 (by decide) ?_
      refine va_put (D := E.1) (ci := 10) (v := .int (0 : Int32)) (ty := .int) (C := RX10) (T := TX10) (N := 27) hx hb hts iX10_lay_X10 tyX10 tyX10_ok nmX10 hown hE.1 hP hD hS 0 rfl rfl 25 (by decide) (hts (.fieldLink RX10 83 "BandBoatModel" "marks" "I") (List.mem_of_getElem? (i := 5) rfl)) (fun _ h9 => h9) rfl (by decide +kernel) rfl rfl (Nat.le_of_ble_eq_true rfl) dX10_lay_84 (fun H locs hP hD hS => ?_)
      have hP : va_P E.1 vwCl [xModel h_mm a_mm (upd (upd (upd (upd (upd mm 0 (0 : Int32)) 3 v2) 4 v3) 22 (0 : Int32)) 25 (0 : Int32)), xI E (a_mm 1) 300 tx, xI E (a_mm 5) 60 bg_bt_29, xI E (a_mm 13) 6 bg_nw_58] H := hP
      have hD : va_D A [xModel h_mm a_mm (upd (upd (upd (upd (upd mm 0 (0 : Int32)) 3 v2) 4 v3) 22 (0 : Int32)) 25 (0 : Int32)), xI E (a_mm 1) 300 tx, xI E (a_mm 5) 60 bg_bt_29, xI E (a_mm 13) 6 bg_nw_58] := hD
      refine lv_aload_n hx hb dX10_lay_87 rfl (lv_at hl 1 rfl) ?_
      refine lv_iconst (v := (0 : Int32)) hx hb dX10_lay_88 (by decide) ?_
      refine va_put (D := E.1) (ci := 10) (v := .int (0 : Int32)) (ty := .int) (C := RX10) (T := TX10) (N := 27) hx hb hts iX10_lay_X10 tyX10 tyX10_ok nmX10 hown hE.1 hP hD hS 0 rfl rfl 16 (by decide) (hts (.fieldLink RX10 86 "BandBoatModel" "keptMany" "I") (List.mem_of_getElem? (i := 6) rfl)) (fun _ h9 => h9) rfl (by decide +kernel) rfl rfl (Nat.le_of_ble_eq_true rfl) dX10_lay_89 (fun H locs hP hD hS => ?_)
      have hP : va_P E.1 vwCl [xModel h_mm a_mm (upd (upd (upd (upd (upd (upd mm 0 (0 : Int32)) 3 v2) 4 v3) 16 (0 : Int32)) 22 (0 : Int32)) 25 (0 : Int32)), xI E (a_mm 1) 300 tx, xI E (a_mm 5) 60 bg_bt_29, xI E (a_mm 13) 6 bg_nw_58] H := hP
      have hD : va_D A [xModel h_mm a_mm (upd (upd (upd (upd (upd (upd mm 0 (0 : Int32)) 3 v2) 4 v3) 16 (0 : Int32)) 22 (0 : Int32)) 25 (0 : Int32)), xI E (a_mm 1) 300 tx, xI E (a_mm 5) 60 bg_bt_29, xI E (a_mm 13) 6 bg_nw_58] := hD
      refine lv_aload_n hx hb dX10_lay_92 rfl (lv_at hl 1 rfl) ?_
      refine va_get (D := E.1) (ci := 10) (v := .ref (a_mm 5)) (C := RX10) (T := TX10) (N := 27) hx hb hts iX10_lay_X10 hown hE.1 hP 0 rfl rfl 5 (by decide) (hts (.fieldLink RX10 13 "BandBoatModel" "boat" "[I") (List.mem_of_getElem? (i := 2) rfl)) (fun _ h9 => h9) rfl dX10_lay_93 ?_
      refine lv_bipush (v := (28 : Int32)) hx hb dX10_lay_96 (by decide) ?_
      refine ar_ild (k := 28) (v := (bg_bt_29 28)) hx hb hE hP 2 rfl (by unfold vp_in; decide) rfl rfl dX10_lay_98 ?_
      exact hq (bg_bt_29 28) ((0 : Int32), v2, v3, (0 : Int32), (0 : Int32), (0 : Int32), bg_bt_29, bg_nw_58) _ _ _ _ dX10_lay_99 rfl (hρ0.trans hρ) hP hD hS
    · rw [if_pos c21] at hρ
      refine lv_bipush (v := (-2 : Int32)) hx hb dX10_lay_24 (by decide) ?_
      exact hq (-2 : Int32) ((0 : Int32), v2, v3, (mm 16), (mm 22), (mm 25), g4, nw) _ _ _ _ dX10_lay_26 rfl (hρ0.trans hρ) hP hD hS
