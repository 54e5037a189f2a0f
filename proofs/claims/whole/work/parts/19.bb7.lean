def F_X9_wind_k46 (v2 : Int32) : Int32 × Int32 := (v2, v2)
def F_X9_wind (bo : Nat → Int32) (n : Int32) : Int32 × Int32 := (if (F_X9_within n (1 : Int32) (400 : Int32)) = (0 : Int32) then ((-1 : Int32), (bo 0)) else (if ((bo 0) + ((100 : Int32) * n)) ≤ (40000 : Int32) then F_X9_wind_k46 ((bo 0) + ((100 : Int32) * n)) else ((-2 : Int32), (bo 0))))
theorem iX9_wind_X4 : ∀ w ∈ wsX40, w ∈ wsX9_wind := fun _ h => List.mem_cons_of_mem _ (List.mem_append_right _ h)
theorem iX9_wind_X9 : ∀ w ∈ wsX90, w ∈ wsX9_wind := fun _ h => List.mem_cons_of_mem _ (List.mem_append_left _ (List.mem_append_right _ h))
set_option maxHeartbeats 4000000 in
set_option maxRecDepth 100000 in
theorem c_X9_wind (l : Launch) (E : wV) (h_bb : Nat) (a_bb : Nat → Nat) (bb : Nat → Int32) (bo : Nat → Int32) (n : Int32) : MetI l yX9_wind wsX9_wind ({ frames := 1, cells := 0, slots := 0, locals := 22 } : Room) E ([.ref h_bb, .int n] : List Value) [xBandBoat h_bb a_bb bb, xMotion (a_bb 8) bo] (fun (r : Int32) (u : Int32) => F_X9_wind bo n = (r, u)) (fun (u : Int32) => [xBandBoat h_bb a_bb bb, xMotion (a_bb 8) (upd bo 0 u)]) := by
  refine MetI.of (cc := cX9_wind) (maxL := 2) (own := RX9) (by decide) rfl rfl (Nat.le_of_ble_eq_true rfl) ?_
  intro p e s m below meth c A Q ls cx hP hD hS hl hq
  obtain ⟨hx, hb, hml, hown, hts, hE, hA⟩ := id cx
  have hl : lv_has ls 2 [(0, .ref h_bb), (1, .int n)] := hl
  have hP : va_P E.1 vwCl [xBandBoat h_bb a_bb bb, xMotion (a_bb 8) bo] s.heap := hP
  obtain ⟨ρ, hρ0⟩ : ∃ ρ, F_X9_wind bo n = ρ := ⟨_, rfl⟩
  have hρ := hρ0.symm
  unfold F_X9_wind at hρ
  refine lv_iload_n hx hb dX9_wind_0 rfl (lv_at hl 1 rfl) ?_
  refine lv_iconst (v := (1 : Int32)) hx hb dX9_wind_1 (by decide) ?_
  refine lv_sipush (v := (400 : Int32)) hx hb dX9_wind_2 (by decide) ?_
  refine kI (wc := []) (wr := [xBandBoat h_bb a_bb bb, xMotion (a_bb 8) bo]) (wc' := (fun (_ : Unit) => [])) (wn := (fun (_ : Unit) => [xBandBoat h_bb a_bb bb, xMotion (a_bb 8) bo])) (isC := []) (isR := [0, 1]) (is2 := [0, 1]) cx hP hD hS ⟨rfl, rfl, by decide, by decide, by decide, by decide, fun _ => rfl⟩ (rS (As := [.int n, .int (1 : Int32), .int (400 : Int32)]) (rest := []) cx (c_X9_within l E n (1 : Int32) (400 : Int32) _) (va_cwS 3 hts gX9_wind_X9_within rfl rfl rfl (by decide +kernel) ⟨Nat.le_of_ble_eq_true rfl, Nat.le_of_ble_eq_true rfl⟩) rfl hl.1 rfl (Nat.le_of_ble_eq_true rfl) dX9_wind_5 ⟨Nat.zero_le _, Nat.zero_le _⟩) (fun r1 u H locs hw hP hD hS => ?_)
  subst hw
  refine lv_if_ne (tgt := 13) hx hb dX9_wind_8 (by decide) (fun c8 => ?_) (fun c8 => ?_)
  · rw [if_neg c8] at hρ
    refine lv_aload_n hx hb dX9_wind_13 rfl (lv_at hl 0 rfl) ?_
    refine va_get (D := E.1) (ci := 9) (v := .ref (a_bb 8)) (C := RX9) (T := TX9) (N := 18) hx hb hts iX9_wind_X9 hown hE.1 hP 0 rfl rfl 8 (by decide) (hts (.fieldLink RX9 64 "BandBoat" "boat" "LBandBoat$Motion;") (List.mem_of_getElem? (i := 1) rfl)) (fun _ h9 => h9) rfl dX9_wind_14 ?_
    refine va_getN (D := E.1) (ci := 4) (v := .int (bo 0)) (C := RX4) (T := TX4) (N := 7) hx hb hts iX9_wind_X4 hown hE.1 hP 1 rfl rfl 0 (by decide) (hE.n 48 rfl) (fun _ h9 => h9) rfl dX9_wind_17 ?_
    refine lv_bipush (v := (100 : Int32)) hx hb dX9_wind_20 (by decide) ?_
    refine lv_iload_n hx hb dX9_wind_22 rfl (lv_at hl 1 rfl) ?_
    refine lv_imul hx hb dX9_wind_23 ?_
    refine lv_iadd hx hb dX9_wind_24 ?_
    refine lv_ldc (own := RX9) (v := (40000 : Int32)) hx hb hown (hts (.constant RX9 148 (40000)) (List.mem_of_getElem? (i := 2) rfl)) dX9_wind_25 ?_
    refine lv_icmp_le (tgt := 33) hx hb dX9_wind_27 (by decide) (fun c27 => ?_) (fun c27 => ?_)
    · rw [if_pos c27] at hρ
      refine lv_aload_n hx hb dX9_wind_33 rfl (lv_at hl 0 rfl) ?_
      refine va_get (D := E.1) (ci := 9) (v := .ref (a_bb 8)) (C := RX9) (T := TX9) (N := 18) hx hb hts iX9_wind_X9 hown hE.1 hP 0 rfl rfl 8 (by decide) (hts (.fieldLink RX9 64 "BandBoat" "boat" "LBandBoat$Motion;") (List.mem_of_getElem? (i := 1) rfl)) (fun _ h9 => h9) rfl dX9_wind_34 ?_
      refine lv_dup hx hb dX9_wind_37 rfl ?_
      refine va_getN (D := E.1) (ci := 4) (v := .int (bo 0)) (C := RX4) (T := TX4) (N := 7) hx hb hts iX9_wind_X4 hown hE.1 hP 1 rfl rfl 0 (by decide) (hE.n 48 rfl) (fun _ h9 => h9) rfl dX9_wind_38 ?_
      refine lv_bipush (v := (100 : Int32)) hx hb dX9_wind_41 (by decide) ?_
      refine lv_iload_n hx hb dX9_wind_43 rfl (lv_at hl 1 rfl) ?_
      refine lv_imul hx hb dX9_wind_44 ?_
      refine lv_iadd hx hb dX9_wind_45 ?_
      refine lv_topi (fun v2 ev2 => ?_)
      have hρ : ρ = F_X9_wind_k46 v2 := by rw [ev2]; exact hρ
      unfold F_X9_wind_k46 at hρ
      refine va_putN (D := E.1) (ci := 4) (v := .int v2) (ty := .int) (C := RX4) (T := TX4) (N := 7) hx hb hts iX9_wind_X4 tyX4 tyX4_ok nmX4 hown hE.1 hP hD hS 1 rfl rfl 0 (by decide) (hE.n 48 rfl) (fun _ h9 => h9) rfl (by decide +kernel) rfl rfl (Nat.le_of_ble_eq_true rfl) dX9_wind_46 (fun H locs hP hD hS => ?_)
      have hP : va_P E.1 vwCl [xBandBoat h_bb a_bb bb, xMotion (a_bb 8) (upd bo 0 v2)] H := hP
      have hD : va_D A [xBandBoat h_bb a_bb bb, xMotion (a_bb 8) (upd bo 0 v2)] := hD
      refine lv_aload_n hx hb dX9_wind_49 rfl (lv_at hl 0 rfl) ?_
      refine va_get (D := E.1) (ci := 9) (v := .ref (a_bb 8)) (C := RX9) (T := TX9) (N := 18) hx hb hts iX9_wind_X9 hown hE.1 hP 0 rfl rfl 8 (by decide) (hts (.fieldLink RX9 64 "BandBoat" "boat" "LBandBoat$Motion;") (List.mem_of_getElem? (i := 1) rfl)) (fun _ h9 => h9) rfl dX9_wind_50 ?_
      refine va_getN (D := E.1) (ci := 4) (v := .int v2) (C := RX4) (T := TX4) (N := 7) hx hb hts iX9_wind_X4 hown hE.1 hP 1 rfl rfl 0 (by decide) (hE.n 48 rfl) (fun _ h9 => h9) rfl dX9_wind_53 ?_
      exact hq v2 v2 _ _ _ _ dX9_wind_56 rfl (hρ0.trans hρ) hP hD hS
    · rw [if_neg c27] at hρ
      refine lv_bipush (v := (-2 : Int32)) hx hb dX9_wind_30 (by decide) ?_
      exact hq (-2 : Int32) (bo 0) _ _ _ _ dX9_wind_32 rfl (hρ0.trans hρ) hP hD hS
  · rw [if_pos c8] at hρ
    refine lv_iconst (v := (-1 : Int32)) hx hb dX9_wind_11 (by decide) ?_
    exact hq (-1 : Int32) (bo 0) _ _ _ _ dX9_wind_12 rfl (hρ0.trans hρ) hP hD hS
def F_X9_go_k43 (x3_25 : Int32) (g3 : Nat → Int32) : (Int32 × (Nat → Int32)) ⊕ (Int32 × (Nat → Int32)) := Sum.inl ((x3_25 + (1 : Int32)), g3)
def F_X9_go_b25 (la : Nat → Int32) (bd : Nat → Int32) (tenths : Int32) (z : Int32) (x3_25 : Int32) (g_bo_25 : Nat → Int32) : (Int32 × (Nat → Int32)) ⊕ (Int32 × (Nat → Int32)) := (if tenths ≤ x3_25 then Sum.inr (x3_25, g_bo_25) else F_X9_go_k43 x3_25 (F_X4_step g_bo_25 la bd z))
def F_X9_go_l25 (la : Nat → Int32) (bd : Nat → Int32) (tenths : Int32) (z : Int32) : Nat → (Int32) → (Nat → Int32) → Int32 × (Nat → Int32)
  | 0, x3_25, g_bo_25 => (x3_25, g_bo_25)
  | n_25 + 1, x3_25, g_bo_25 => match F_X9_go_b25 la bd tenths z x3_25 g_bo_25 with
    | Sum.inl (c_x3_25, c_g_bo_25) => F_X9_go_l25 la bd tenths z n_25 c_x3_25 c_g_bo_25
    | Sum.inr r_ => r_
def F_X9_go_x25 (bg_bo_25 : Nat → Int32) : Int32 × (Nat → Int32) := ((bg_bo_25 2), bg_bo_25)
def F_X9_go (la : Nat → Int32) (bd : Nat → Int32) (bo : Nat → Int32) (tenths : Int32) (z : Int32) : Int32 × (Nat → Int32) := (if (F_X9_within tenths (1 : Int32) (99 : Int32)) = (0 : Int32) then ((-1 : Int32), bo) else (if (F_X9_within z (-1 : Int32) (9999 : Int32)) = (0 : Int32) then ((-1 : Int32), bo) else (match F_X9_go_l25 la bd tenths z ((Int32.toInt tenths).toNat) (0 : Int32) bo with | (bx3_25, bg_bo_25) => F_X9_go_x25 bg_bo_25)))
theorem iX9_go_X4 : ∀ w ∈ wsX40, w ∈ wsX9_go := fun _ h => List.mem_cons_of_mem _ (List.mem_append_left _ (List.mem_append_left _ (List.mem_append_right _ h)))
theorem iX9_go_X9 : ∀ w ∈ wsX90, w ∈ wsX9_go := fun _ h => List.mem_cons_of_mem _ (List.mem_append_left _ (List.mem_append_left _ (List.mem_append_left _ (List.mem_append_right _ h))))
set_option maxHeartbeats 4000000 in
set_option maxRecDepth 100000 in
theorem c_X9_go (l : Launch) (E : wV) (h_bb : Nat) (a_bb : Nat → Nat) (bb : Nat → Int32) (la : Nat → Int32) (bd : Nat → Int32) (bo : Nat → Int32) (tenths : Int32) (z : Int32) : MetI l yX9_go wsX9_go ({ frames := 3, cells := 0, slots := 0, locals := 71 } : Room) E ([.ref h_bb, .int tenths, .int z] : List Value) [xBandBoat h_bb a_bb bb, xRig (a_bb 2) la, xBand (a_bb 4) bd, xMotion (a_bb 8) bo] (fun (r : Int32) (u : (Nat → Int32)) => F_X9_go la bd bo tenths z = (r, u)) (fun (u : (Nat → Int32)) => [xBandBoat h_bb a_bb bb, xRig (a_bb 2) la, xBand (a_bb 4) bd, xMotion (a_bb 8) u]) := by
  refine MetI.of (cc := cX9_go) (maxL := 4) (own := RX9) (by decide) rfl rfl (Nat.le_of_ble_eq_true rfl) ?_
  intro p e s m below meth c A Q ls cx hP hD hS hl hq
  obtain ⟨hx, hb, hml, hown, hts, hE, hA⟩ := id cx
  have hl : lv_has ls 4 [(0, .ref h_bb), (1, .int tenths), (2, .int z)] := hl
  have hP : va_P E.1 vwCl [xBandBoat h_bb a_bb bb, xRig (a_bb 2) la, xBand (a_bb 4) bd, xMotion (a_bb 8) bo] s.heap := hP
  obtain ⟨ρ, hρ0⟩ : ∃ ρ, F_X9_go la bd bo tenths z = ρ := ⟨_, rfl⟩
  have hρ := hρ0.symm
  unfold F_X9_go at hρ
  refine lv_iload_n hx hb dX9_go_0 rfl (lv_at hl 1 rfl) ?_
  refine lv_iconst (v := (1 : Int32)) hx hb dX9_go_1 (by decide) ?_
  refine lv_bipush (v := (99 : Int32)) hx hb dX9_go_2 (by decide) ?_
  refine kI (wc := []) (wr := [xBandBoat h_bb a_bb bb, xRig (a_bb 2) la, xBand (a_bb 4) bd, xMotion (a_bb 8) bo]) (wc' := (fun (_ : Unit) => [])) (wn := (fun (_ : Unit) => [xBandBoat h_bb a_bb bb, xRig (a_bb 2) la, xBand (a_bb 4) bd, xMotion (a_bb 8) bo])) (isC := []) (isR := [0, 1, 2, 3]) (is2 := [0, 1, 2, 3]) cx hP hD hS ⟨rfl, rfl, by decide, by decide, by decide, by decide, fun _ => rfl⟩ (rS (As := [.int tenths, .int (1 : Int32), .int (99 : Int32)]) (rest := []) cx (c_X9_within l E tenths (1 : Int32) (99 : Int32) _) (va_cwS 3 hts gX9_go_X9_within rfl rfl rfl (by decide +kernel) ⟨Nat.le_of_ble_eq_true rfl, Nat.le_of_ble_eq_true rfl⟩) rfl hl.1 rfl (Nat.le_of_ble_eq_true rfl) dX9_go_4 ⟨Nat.zero_le _, Nat.zero_le _⟩) (fun r1 u H locs hw hP hD hS => ?_)
  subst hw
  refine lv_if_eq (tgt := 21) hx hb dX9_go_7 (by decide) (fun c7 => ?_) (fun c7 => ?_)
  · rw [if_pos c7] at hρ
    refine lv_iconst (v := (-1 : Int32)) hx hb dX9_go_21 (by decide) ?_
    exact hq (-1 : Int32) bo _ _ _ _ dX9_go_22 rfl (hρ0.trans hρ) hP hD hS
  · rw [if_neg c7] at hρ
    refine lv_iload_n hx hb dX9_go_10 rfl (lv_at hl 2 rfl) ?_
    refine lv_iconst (v := (-1 : Int32)) hx hb dX9_go_11 (by decide) ?_
    refine lv_sipush (v := (9999 : Int32)) hx hb dX9_go_12 (by decide) ?_
    refine kI (wc := []) (wr := [xBandBoat h_bb a_bb bb, xRig (a_bb 2) la, xBand (a_bb 4) bd, xMotion (a_bb 8) bo]) (wc' := (fun (_ : Unit) => [])) (wn := (fun (_ : Unit) => [xBandBoat h_bb a_bb bb, xRig (a_bb 2) la, xBand (a_bb 4) bd, xMotion (a_bb 8) bo])) (isC := []) (isR := [0, 1, 2, 3]) (is2 := [0, 1, 2, 3]) cx hP hD hS ⟨rfl, rfl, by decide, by decide, by decide, by decide, fun _ => rfl⟩ (rS (As := [.int z, .int (-1 : Int32), .int (9999 : Int32)]) (rest := []) cx (c_X9_within l E z (-1 : Int32) (9999 : Int32) _) (va_cwS 3 hts gX9_go_X9_within rfl rfl rfl (by decide +kernel) ⟨Nat.le_of_ble_eq_true rfl, Nat.le_of_ble_eq_true rfl⟩) rfl hl.1 rfl (Nat.le_of_ble_eq_true rfl) dX9_go_15 ⟨Nat.zero_le _, Nat.zero_le _⟩) (fun r2 u H locs hw hP hD hS => ?_)
    subst hw
    refine lv_if_ne (tgt := 23) hx hb dX9_go_18 (by decide) (fun c18 => ?_) (fun c18 => ?_)
    · rw [if_neg c18] at hρ
      refine lv_iconst (v := (0 : Int32)) hx hb dX9_go_23 (by decide) ?_
      refine lv_istore_n (lv' := [(3, .int (0 : Int32)), (0, .ref h_bb), (1, .int tenths), (2, .int z)]) hx hb dX9_go_24 rfl hl (by decide) rfl (fun ls hl => ?_)
      have hL25 : ∀ (n_25 : Nat) (x3_25 : Int32) (g_bo_25 : Nat → Int32) (H : Heap) (locs : List Loc) (ls : Array Slot), ((tenths : Int32).toInt ≤ (x3_25).toInt + (n_25 : Nat)) → va_P E.1 vwCl [xBandBoat h_bb a_bb bb, xRig (a_bb 2) la, xBand (a_bb 4) bd, xMotion (a_bb 8) g_bo_25] H → va_D A [xBandBoat h_bb a_bb bb, xRig (a_bb 2) la, xBand (a_bb 4) bd, xMotion (a_bb 8) g_bo_25] → va_S A s.heap H locs → lv_has ls 4 [(3, .int x3_25), (0, .ref h_bb), (1, .int tenths), (2, .int z)] → (∀ (ox3_25 : Int32) (og_bo_25 : Nat → Int32) (H : Heap) (locs : List Loc) (ls : Array Slot), F_X9_go_l25 la bd tenths z n_25 x3_25 g_bo_25 = (ox3_25, og_bo_25) → va_P E.1 vwCl [xBandBoat h_bb a_bb bb, xRig (a_bb 2) la, xBand (a_bb 4) bd, xMotion (a_bb 8) og_bo_25] H → va_D A [xBandBoat h_bb a_bb bb, xRig (a_bb 2) la, xBand (a_bb 4) bd, xMotion (a_bb 8) og_bo_25] → va_S A s.heap H locs → lv_has ls 4 [(3, .int ox3_25), (0, .ref h_bb), (1, .int tenths), (2, .int z)] → W p l e ({ frames := 3, cells := 0, slots := 0, locals := 71 } : Room) s m ([.ref h_bb, .int tenths, .int z] : List Value).toArray below meth c H locs 0 0 Q (F0 m 52 ls [])) → W p l e ({ frames := 3, cells := 0, slots := 0, locals := 71 } : Room) s m ([.ref h_bb, .int tenths, .int z] : List Value).toArray below meth c H locs 0 0 Q (F0 m 25 ls []) := by
        intro n_25
        induction n_25 with
        | zero =>
          intro x3_25 g_bo_25 H locs ls hM hP hD hS hl hK
          have hM25 := hM
          obtain ⟨σ25, hσ025⟩ : ∃ σ, F_X9_go_l25 la bd tenths z 0 x3_25 g_bo_25 = σ := ⟨_, rfl⟩
          have hσ25 := hσ025.symm
          rw [F_X9_go_l25] at hσ25
          refine lv_iload_n hx hb dX9_go_25 rfl (lv_at hl 0 rfl) ?_
          refine lv_iload_n hx hb dX9_go_26 rfl (lv_at hl 2 rfl) ?_
          refine lv_icmp_ge (tgt := 52) hx hb dX9_go_27 (by decide) (fun c27 => ?_) (fun c27 => ?_)
          · exact hK x3_25 g_bo_25 _ _ _ (hσ025.trans hσ25) hP hD hS (lv_sub hl [0, 1, 2, 3] rfl)
          · exact (cnt_lt0 c27 hM).elim
        | succ n_25 ih =>
          intro x3_25 g_bo_25 H locs ls hM hP hD hS hl hK
          have hM25 := hM
          obtain ⟨σ25, hσ025⟩ : ∃ σ, F_X9_go_l25 la bd tenths z (n_25 + 1) x3_25 g_bo_25 = σ := ⟨_, rfl⟩
          have hσ25 := hσ025.symm
          rw [F_X9_go_l25] at hσ25
          obtain ⟨τ25, hτ025⟩ : ∃ τ, F_X9_go_b25 la bd tenths z x3_25 g_bo_25 = τ := ⟨_, rfl⟩
          rw [hτ025] at hσ25
          have hτ25 := hτ025.symm
          unfold F_X9_go_b25 at hτ25
          refine lv_iload_n hx hb dX9_go_25 rfl (lv_at hl 0 rfl) ?_
          refine lv_iload_n hx hb dX9_go_26 rfl (lv_at hl 2 rfl) ?_
          refine lv_icmp_ge (tgt := 52) hx hb dX9_go_27 (by decide) (fun c27 => ?_) (fun c27 => ?_)
          · rw [if_pos c27] at hτ25
            have hσ25 : σ25 = (x3_25, g_bo_25) := by subst hτ25; exact hσ25
            exact hK x3_25 g_bo_25 _ _ _ (hσ025.trans hσ25) hP hD hS (lv_sub hl [0, 1, 2, 3] rfl)
          · rw [if_neg c27] at hτ25
            refine lv_aload_n hx hb dX9_go_30 rfl (lv_at hl 1 rfl) ?_
            refine va_get (D := E.1) (ci := 9) (v := .ref (a_bb 8)) (C := RX9) (T := TX9) (N := 18) hx hb hts iX9_go_X9 hown hE.1 hP 0 rfl rfl 8 (by decide) (hts (.fieldLink RX9 64 "BandBoat" "boat" "LBandBoat$Motion;") (List.mem_of_getElem? (i := 1) rfl)) (fun _ h9 => h9) rfl dX9_go_31 ?_
            refine lv_aload_n hx hb dX9_go_34 rfl (lv_at hl 1 rfl) ?_
            refine va_get (D := E.1) (ci := 9) (v := .ref (a_bb 2)) (C := RX9) (T := TX9) (N := 18) hx hb hts iX9_go_X9 hown hE.1 hP 0 rfl rfl 2 (by decide) (hts (.fieldLink RX9 26 "BandBoat" "laid" "LBandBoat$Rig;") (List.mem_of_getElem? (i := 2) rfl)) (fun _ h9 => h9) rfl dX9_go_35 ?_
            refine lv_aload_n hx hb dX9_go_38 rfl (lv_at hl 1 rfl) ?_
            refine va_get (D := E.1) (ci := 9) (v := .ref (a_bb 4)) (C := RX9) (T := TX9) (N := 18) hx hb hts iX9_go_X9 hown hE.1 hP 0 rfl rfl 4 (by decide) (hts (.fieldLink RX9 36 "BandBoat" "band" "LBandBoat$Band;") (List.mem_of_getElem? (i := 3) rfl)) (fun _ h9 => h9) rfl dX9_go_39 ?_
            refine lv_iload_n hx hb dX9_go_42 rfl (lv_at hl 3 rfl) ?_
            refine kV (wc := [xMotion (a_bb 8) g_bo_25, xRig (a_bb 2) la, xBand (a_bb 4) bd]) (wr := [xBandBoat h_bb a_bb bb]) (wc' := (fun (u : (Nat → Int32)) => [xMotion (a_bb 8) u, xRig (a_bb 2) la, xBand (a_bb 4) bd])) (wn := (fun (u : (Nat → Int32)) => [xBandBoat h_bb a_bb bb, xRig (a_bb 2) la, xBand (a_bb 4) bd, xMotion (a_bb 8) u])) (isC := [3, 1, 2]) (isR := [0]) (is2 := [0, 2, 3, 1]) cx hP hD hS ⟨rfl, rfl, by decide, by decide, by decide, by decide, fun _ => rfl⟩ (rVN (As := [.ref (a_bb 2), .ref (a_bb 4), .int z]) (rest := []) (C := RX4) (q0 := 0) (ci := 4) cx (c_X4_step l E (a_bb 8) (a_bb 2) (a_bb 4) g_bo_25 la bd z _) (va_cnB 3 hts gX9_go_X4_step_n234 rfl rfl rfl (hE.nw 114 rfl) (hts (.initialized RX4) (List.mem_of_getElem? (i := 9) rfl)) (by decide +kernel) ⟨Nat.le_of_ble_eq_true rfl, Nat.le_of_ble_eq_true rfl⟩) (hts (.instanceMethod yX4_step) (List.mem_of_getElem? (i := 8) rfl)) (hts (.selects RX4 yX4_step yX4_step) (List.mem_of_getElem? (i := 10) rfl)) rfl rfl rfl rfl hl.1 rfl (Nat.le_of_ble_eq_true rfl) dX9_go_43 ⟨Nat.zero_le _, Nat.zero_le _⟩) (fun u H locs hw hP hD hS => ?_)
            obtain ⟨g3, rfl⟩ : ∃ z, z = u := ⟨_, rfl⟩
            have hP : va_P E.1 vwCl [xBandBoat h_bb a_bb bb, xRig (a_bb 2) la, xBand (a_bb 4) bd, xMotion (a_bb 8) g3] H := hP
            have hD : va_D A [xBandBoat h_bb a_bb bb, xRig (a_bb 2) la, xBand (a_bb 4) bd, xMotion (a_bb 8) g3] := hD
            have hw : F_X4_step g_bo_25 la bd z = g3 := hw
            rw [hw] at hτ25
            have hτ25 : τ25 = F_X9_go_k43 x3_25 g3 := hτ25
            unfold F_X9_go_k43 at hτ25
            refine lv_iinc (v := (x3_25 + (1 : Int32))) (lv' := [(3, .int (x3_25 + (1 : Int32))), (0, .ref h_bb), (1, .int tenths), (2, .int z)]) hx hb dX9_go_46 hl (k := 0) rfl rfl (by decide) rfl (fun ls hl => ?_)
            refine lv_goto (tgt := 25) hx hb dX9_go_49 (by decide) ?_
            have hσ25 : σ25 = F_X9_go_l25 la bd tenths z n_25 (x3_25 + (1 : Int32)) g3 := by subst hτ25; exact hσ25
            exact ih (x3_25 + (1 : Int32)) g3 _ _ _ (cnt_lt c27 hM) hP hD hS (lv_sub hl [0, 1, 2, 3] rfl) (fun ox3_25 og_bo_25 H locs ls he => hK ox3_25 og_bo_25 H locs ls (hσ025.trans (hσ25.trans he)))
      refine hL25 ((Int32.toInt tenths).toNat) (0 : Int32) bo _ _ _ (by show _ ≤ (0 : Int) + _; omega) hP hD hS (lv_sub hl [0, 1, 2, 3] rfl) ?_
      intro bx3_25 bg_bo_25 H locs ls he hP hD hS hl
      rw [he] at hρ
      have hρ : ρ = F_X9_go_x25 bg_bo_25 := hρ
      unfold F_X9_go_x25 at hρ
      refine lv_aload_n hx hb dX9_go_52 rfl (lv_at hl 1 rfl) ?_
      refine va_get (D := E.1) (ci := 9) (v := .ref (a_bb 8)) (C := RX9) (T := TX9) (N := 18) hx hb hts iX9_go_X9 hown hE.1 hP 0 rfl rfl 8 (by decide) (hts (.fieldLink RX9 64 "BandBoat" "boat" "LBandBoat$Motion;") (List.mem_of_getElem? (i := 1) rfl)) (fun _ h9 => h9) rfl dX9_go_53 ?_
      refine va_getN (D := E.1) (ci := 4) (v := .int (bg_bo_25 2)) (C := RX4) (T := TX4) (N := 7) hx hb hts iX9_go_X4 hown hE.1 hP 3 rfl rfl 2 (by decide) (hE.n 52 rfl) (fun _ h9 => h9) rfl dX9_go_56 ?_
      exact hq (bg_bo_25 2) bg_bo_25 _ _ _ _ dX9_go_59 rfl (hρ0.trans hρ) hP hD hS
    · rw [if_pos c18] at hρ
      refine lv_iconst (v := (-1 : Int32)) hx hb dX9_go_21 (by decide) ?_
      exact hq (-1 : Int32) bo _ _ _ _ dX9_go_22 rfl (hρ0.trans hρ) hP hD hS
def F_X9_weed (bo : Nat → Int32) : Int32 × Int32 := ((bo 1), (0 : Int32))
theorem iX9_weed_X4 : ∀ w ∈ wsX40, w ∈ wsX9_weed := fun _ h => List.mem_cons_of_mem _ (List.mem_append_right _ h)
theorem iX9_weed_X9 : ∀ w ∈ wsX90, w ∈ wsX9_weed := fun _ h => List.mem_cons_of_mem _ (List.mem_append_left _ (List.mem_append_right _ h))
set_option maxHeartbeats 4000000 in
set_option maxRecDepth 100000 in
theorem c_X9_weed (l : Launch) (E : wV) (h_bb : Nat) (a_bb : Nat → Nat) (bb : Nat → Int32) (bo : Nat → Int32) : MetI l yX9_weed wsX9_weed ({ frames := 0, cells := 0, slots := 0, locals := 0 } : Room) E ([.ref h_bb] : List Value) [xBandBoat h_bb a_bb bb, xMotion (a_bb 8) bo] (fun (r : Int32) (u : Int32) => F_X9_weed bo = (r, u)) (fun (u : Int32) => [xBandBoat h_bb a_bb bb, xMotion (a_bb 8) (upd bo 1 u)]) := by
  refine MetI.of (cc := cX9_weed) (maxL := 2) (own := RX9) (by decide) rfl rfl (Nat.le_of_ble_eq_true rfl) ?_
  intro p e s m below meth c A Q ls cx hP hD hS hl hq
  obtain ⟨hx, hb, hml, hown, hts, hE, hA⟩ := id cx
  have hl : lv_has ls 2 [(0, .ref h_bb)] := hl
  have hP : va_P E.1 vwCl [xBandBoat h_bb a_bb bb, xMotion (a_bb 8) bo] s.heap := hP
  obtain ⟨ρ, hρ0⟩ : ∃ ρ, F_X9_weed bo = ρ := ⟨_, rfl⟩
  have hρ := hρ0.symm
  unfold F_X9_weed at hρ
  refine lv_aload_n hx hb dX9_weed_0 rfl (lv_at hl 0 rfl) ?_
  refine va_get (D := E.1) (ci := 9) (v := .ref (a_bb 8)) (C := RX9) (T := TX9) (N := 18) hx hb hts iX9_weed_X9 hown hE.1 hP 0 rfl rfl 8 (by decide) (hts (.fieldLink RX9 64 "BandBoat" "boat" "LBandBoat$Motion;") (List.mem_of_getElem? (i := 1) rfl)) (fun _ h9 => h9) rfl dX9_weed_1 ?_
  refine va_getN (D := E.1) (ci := 4) (v := .int (bo 1)) (C := RX4) (T := TX4) (N := 7) hx hb hts iX9_weed_X4 hown hE.1 hP 1 rfl rfl 1 (by decide) (hE.n 50 rfl) (fun _ h9 => h9) rfl dX9_weed_4 ?_
  refine lv_istore_n (lv' := [(1, .int (bo 1)), (0, .ref h_bb)]) hx hb dX9_weed_7 rfl hl (by decide) rfl (fun ls hl => ?_)
  refine lv_aload_n hx hb dX9_weed_8 rfl (lv_at hl 1 rfl) ?_
  refine va_get (D := E.1) (ci := 9) (v := .ref (a_bb 8)) (C := RX9) (T := TX9) (N := 18) hx hb hts iX9_weed_X9 hown hE.1 hP 0 rfl rfl 8 (by decide) (hts (.fieldLink RX9 64 "BandBoat" "boat" "LBandBoat$Motion;") (List.mem_of_getElem? (i := 1) rfl)) (fun _ h9 => h9) rfl dX9_weed_9 ?_
  refine lv_iconst (v := (0 : Int32)) hx hb dX9_weed_12 (by decide) ?_
  refine va_putN (D := E.1) (ci := 4) (v := .int (0 : Int32)) (ty := .int) (C := RX4) (T := TX4) (N := 7) hx hb hts iX9_weed_X4 tyX4 tyX4_ok nmX4 hown hE.1 hP hD hS 1 rfl rfl 1 (by decide) (hE.n 50 rfl) (fun _ h9 => h9) rfl (by decide +kernel) rfl rfl (Nat.le_of_ble_eq_true rfl) dX9_weed_13 (fun H locs hP hD hS => ?_)
  have hP : va_P E.1 vwCl [xBandBoat h_bb a_bb bb, xMotion (a_bb 8) (upd bo 1 (0 : Int32))] H := hP
  have hD : va_D A [xBandBoat h_bb a_bb bb, xMotion (a_bb 8) (upd bo 1 (0 : Int32))] := hD
  refine lv_iload_n hx hb dX9_weed_16 rfl (lv_at hl 0 rfl) ?_
  exact hq (bo 1) (0 : Int32) _ _ _ _ dX9_weed_17 rfl (hρ0.trans hρ) hP hD hS
def F_X9_now (bo : Nat → Int32) (what : Int32) : Int32 := (if what = (0 : Int32) then (bo 0) else (if what = (1 : Int32) then (bo 1) else (if what = (2 : Int32) then (bo 2) else (if what = (3 : Int32) then ((bo 3) + (10000 : Int32)) else (if what = (4 : Int32) then ((bo 4) + (10000000 : Int32)) else (if what = (5 : Int32) then (bo 5) else (-1 : Int32)))))))
theorem iX9_now_X4 : ∀ w ∈ wsX40, w ∈ wsX9_now := fun _ h => List.mem_cons_of_mem _ (List.mem_append_right _ h)
theorem iX9_now_X9 : ∀ w ∈ wsX90, w ∈ wsX9_now := fun _ h => List.mem_cons_of_mem _ (List.mem_append_left _ (List.mem_append_right _ h))
set_option maxHeartbeats 4000000 in
set_option maxRecDepth 100000 in
theorem c_X9_now (l : Launch) (E : wV) (h_bb : Nat) (a_bb : Nat → Nat) (bb : Nat → Int32) (bo : Nat → Int32) (what : Int32) : MetI l yX9_now wsX9_now ({ frames := 0, cells := 0, slots := 0, locals := 0 } : Room) E ([.ref h_bb, .int what] : List Value) [xBandBoat h_bb a_bb bb, xMotion (a_bb 8) bo] (fun (r : Int32) (_ : Unit) => r = F_X9_now bo what) (fun (_ : Unit) => [xBandBoat h_bb a_bb bb, xMotion (a_bb 8) bo]) := by
  refine MetI.of (cc := cX9_now) (maxL := 2) (own := RX9) (by decide) rfl rfl (Nat.le_of_ble_eq_true rfl) ?_
  intro p e s m below meth c A Q ls cx hP hD hS hl hq
  obtain ⟨hx, hb, hml, hown, hts, hE, hA⟩ := id cx
  have hl : lv_has ls 2 [(0, .ref h_bb), (1, .int what)] := hl
  have hP : va_P E.1 vwCl [xBandBoat h_bb a_bb bb, xMotion (a_bb 8) bo] s.heap := hP
  obtain ⟨ρ, hρ0⟩ : ∃ ρ, F_X9_now bo what = ρ := ⟨_, rfl⟩
  have hρ := hρ0.symm
  unfold F_X9_now at hρ
  refine lv_iload_n hx hb dX9_now_0 rfl (lv_at hl 1 rfl) ?_
  by_cases c1_0 : what = (0 : Int32)
  · rw [if_pos c1_0] at hρ
    refine lv_tableIn (tgt := 40) hx hb dX9_now_1 (by rw [c1_0]; decide) (by rw [c1_0]; decide) (by rw [c1_0]; rfl) (by decide) ?_
    refine lv_aload_n hx hb dX9_now_40 rfl (lv_at hl 0 rfl) ?_
    refine va_get (D := E.1) (ci := 9) (v := .ref (a_bb 8)) (C := RX9) (T := TX9) (N := 18) hx hb hts iX9_now_X9 hown hE.1 hP 0 rfl rfl 8 (by decide) (hts (.fieldLink RX9 64 "BandBoat" "boat" "LBandBoat$Motion;") (List.mem_of_getElem? (i := 1) rfl)) (fun _ h9 => h9) rfl dX9_now_41 ?_
    refine va_getN (D := E.1) (ci := 4) (v := .int (bo 0)) (C := RX4) (T := TX4) (N := 7) hx hb hts iX9_now_X4 hown hE.1 hP 1 rfl rfl 0 (by decide) (hE.n 48 rfl) (fun _ h9 => h9) rfl dX9_now_44 ?_
    exact hq (bo 0) () _ _ _ _ dX9_now_47 rfl (hρ0.trans hρ).symm hP hD hS
  · rw [if_neg c1_0] at hρ
    by_cases c1_1 : what = (1 : Int32)
    · rw [if_pos c1_1] at hρ
      refine lv_tableIn (tgt := 48) hx hb dX9_now_1 (by rw [c1_1]; decide) (by rw [c1_1]; decide) (by rw [c1_1]; rfl) (by decide) ?_
      refine lv_aload_n hx hb dX9_now_48 rfl (lv_at hl 0 rfl) ?_
      refine va_get (D := E.1) (ci := 9) (v := .ref (a_bb 8)) (C := RX9) (T := TX9) (N := 18) hx hb hts iX9_now_X9 hown hE.1 hP 0 rfl rfl 8 (by decide) (hts (.fieldLink RX9 64 "BandBoat" "boat" "LBandBoat$Motion;") (List.mem_of_getElem? (i := 1) rfl)) (fun _ h9 => h9) rfl dX9_now_49 ?_
      refine va_getN (D := E.1) (ci := 4) (v := .int (bo 1)) (C := RX4) (T := TX4) (N := 7) hx hb hts iX9_now_X4 hown hE.1 hP 1 rfl rfl 1 (by decide) (hE.n 50 rfl) (fun _ h9 => h9) rfl dX9_now_52 ?_
      exact hq (bo 1) () _ _ _ _ dX9_now_55 rfl (hρ0.trans hρ).symm hP hD hS
    · rw [if_neg c1_1] at hρ
      by_cases c1_2 : what = (2 : Int32)
      · rw [if_pos c1_2] at hρ
        refine lv_tableIn (tgt := 56) hx hb dX9_now_1 (by rw [c1_2]; decide) (by rw [c1_2]; decide) (by rw [c1_2]; rfl) (by decide) ?_
        refine lv_aload_n hx hb dX9_now_56 rfl (lv_at hl 0 rfl) ?_
        refine va_get (D := E.1) (ci := 9) (v := .ref (a_bb 8)) (C := RX9) (T := TX9) (N := 18) hx hb hts iX9_now_X9 hown hE.1 hP 0 rfl rfl 8 (by decide) (hts (.fieldLink RX9 64 "BandBoat" "boat" "LBandBoat$Motion;") (List.mem_of_getElem? (i := 1) rfl)) (fun _ h9 => h9) rfl dX9_now_57 ?_
        refine va_getN (D := E.1) (ci := 4) (v := .int (bo 2)) (C := RX4) (T := TX4) (N := 7) hx hb hts iX9_now_X4 hown hE.1 hP 1 rfl rfl 2 (by decide) (hE.n 52 rfl) (fun _ h9 => h9) rfl dX9_now_60 ?_
        exact hq (bo 2) () _ _ _ _ dX9_now_63 rfl (hρ0.trans hρ).symm hP hD hS
      · rw [if_neg c1_2] at hρ
        by_cases c1_3 : what = (3 : Int32)
        · rw [if_pos c1_3] at hρ
          refine lv_tableIn (tgt := 64) hx hb dX9_now_1 (by rw [c1_3]; decide) (by rw [c1_3]; decide) (by rw [c1_3]; rfl) (by decide) ?_
          refine lv_aload_n hx hb dX9_now_64 rfl (lv_at hl 0 rfl) ?_
          refine va_get (D := E.1) (ci := 9) (v := .ref (a_bb 8)) (C := RX9) (T := TX9) (N := 18) hx hb hts iX9_now_X9 hown hE.1 hP 0 rfl rfl 8 (by decide) (hts (.fieldLink RX9 64 "BandBoat" "boat" "LBandBoat$Motion;") (List.mem_of_getElem? (i := 1) rfl)) (fun _ h9 => h9) rfl dX9_now_65 ?_
          refine va_getN (D := E.1) (ci := 4) (v := .int (bo 3)) (C := RX4) (T := TX4) (N := 7) hx hb hts iX9_now_X4 hown hE.1 hP 1 rfl rfl 3 (by decide) (hE.n 53 rfl) (fun _ h9 => h9) rfl dX9_now_68 ?_
          refine lv_sipush (v := (10000 : Int32)) hx hb dX9_now_71 (by decide) ?_
          refine lv_iadd hx hb dX9_now_74 ?_
          exact hq ((bo 3) + (10000 : Int32)) () _ _ _ _ dX9_now_75 rfl (hρ0.trans hρ).symm hP hD hS
        · rw [if_neg c1_3] at hρ
          by_cases c1_4 : what = (4 : Int32)
          · rw [if_pos c1_4] at hρ
            refine lv_tableIn (tgt := 76) hx hb dX9_now_1 (by rw [c1_4]; decide) (by rw [c1_4]; decide) (by rw [c1_4]; rfl) (by decide) ?_
            refine lv_aload_n hx hb dX9_now_76 rfl (lv_at hl 0 rfl) ?_
            refine va_get (D := E.1) (ci := 9) (v := .ref (a_bb 8)) (C := RX9) (T := TX9) (N := 18) hx hb hts iX9_now_X9 hown hE.1 hP 0 rfl rfl 8 (by decide) (hts (.fieldLink RX9 64 "BandBoat" "boat" "LBandBoat$Motion;") (List.mem_of_getElem? (i := 1) rfl)) (fun _ h9 => h9) rfl dX9_now_77 ?_
            refine va_getN (D := E.1) (ci := 4) (v := .int (bo 4)) (C := RX4) (T := TX4) (N := 7) hx hb hts iX9_now_X4 hown hE.1 hP 1 rfl rfl 4 (by decide) (hE.n 54 rfl) (fun _ h9 => h9) rfl dX9_now_80 ?_
            refine lv_ldc (own := RX9) (v := (10000000 : Int32)) hx hb hown (hts (.constant RX9 179 (10000000)) (List.mem_of_getElem? (i := 2) rfl)) dX9_now_83 ?_
            refine lv_iadd hx hb dX9_now_85 ?_
            exact hq ((bo 4) + (10000000 : Int32)) () _ _ _ _ dX9_now_86 rfl (hρ0.trans hρ).symm hP hD hS
          · rw [if_neg c1_4] at hρ
            by_cases c1_5 : what = (5 : Int32)
            · rw [if_pos c1_5] at hρ
              refine lv_tableIn (tgt := 87) hx hb dX9_now_1 (by rw [c1_5]; decide) (by rw [c1_5]; decide) (by rw [c1_5]; rfl) (by decide) ?_
              refine lv_aload_n hx hb dX9_now_87 rfl (lv_at hl 0 rfl) ?_
              refine va_get (D := E.1) (ci := 9) (v := .ref (a_bb 8)) (C := RX9) (T := TX9) (N := 18) hx hb hts iX9_now_X9 hown hE.1 hP 0 rfl rfl 8 (by decide) (hts (.fieldLink RX9 64 "BandBoat" "boat" "LBandBoat$Motion;") (List.mem_of_getElem? (i := 1) rfl)) (fun _ h9 => h9) rfl dX9_now_88 ?_
              refine va_getN (D := E.1) (ci := 4) (v := .int (bo 5)) (C := RX4) (T := TX4) (N := 7) hx hb hts iX9_now_X4 hown hE.1 hP 1 rfl rfl 5 (by decide) (hE.n 55 rfl) (fun _ h9 => h9) rfl dX9_now_91 ?_
              exact hq (bo 5) () _ _ _ _ dX9_now_94 rfl (hρ0.trans hρ).symm hP hD hS
            · rw [if_neg c1_5] at hρ
              refine lv_tableOut (tgt := 95) hx hb dX9_now_1 (by have q0 := lv_neT c1_0 (a := 0) (by decide); have q1 := lv_neT c1_1 (a := 1) (by decide); have q2 := lv_neT c1_2 (a := 2) (by decide); have q3 := lv_neT c1_3 (a := 3) (by decide); have q4 := lv_neT c1_4 (a := 4) (by decide); have q5 := lv_neT c1_5 (a := 5) (by decide); omega) (by decide) ?_
              refine lv_iconst (v := (-1 : Int32)) hx hb dX9_now_95 (by decide) ?_
              exact hq (-1 : Int32) () _ _ _ _ dX9_now_96 rfl (hρ0.trans hρ).symm hP hD hS
/-! contracts whose answer is a reference or null; no cell is made -/
def MetQ (l : Launch) (y : MethodName) (cs : List Cond) (rm : Room) (E : wV) (av : List Value) (ws : va_W) {S : Type} (post : Option Nat → S → Prop) (ws' : S → va_W) : Prop :=
  ∀ sz : Nat, Met l y cs rm (Cp E av ws sz) (va_Qq post (Bw E (va_A ws sz) ws') (va_A ws sz)) 0 0 (va_A ws sz)
theorem MetQ.of {l : Launch} {y : MethodName} {cs cs' : List Cond} {rm : Room} {E : wV} {av : List Value} {ws : va_W} {S : Type} {ws' : S → va_W} {cc : ByteArray} {maxL : Nat} {own : String} {post : Option Nat → S → Prop} {cn : String} (hy : plainName y.cls = true) (ho : y.cls = own) (hw : cs = Cond.code y cc maxL (some (.object cn)) :: cs') (hav : (lg_sl av).length ≤ maxL)
    (body : ∀ (p : Program) (e : Env) (s : State) (m : MethodId) (below : List Frame) (meth : Method) (c : Code) (A : Nat → Prop) (Q : State → Prop) (ls : Array Slot),
      Cx p s m c cc maxL av.toArray cs own E A s.heap → va_P E.1 vwCl ws s.heap → va_D A ws → va_S A s.heap s.heap [] → lv_has ls maxL (lv_args 0 av) →
      (∀ (r : Option Nat) (u : S) (H : Heap) (locs : List Loc) (pc : Nat) (ls : Array Slot), decode cc pc = .ok (.areturn, 1) → post r u → va_P E.1 vwCl (ws' u) H → va_D A (ws' u) → va_S A s.heap H locs → W p l e rm s m av.toArray below meth c H locs 0 0 Q (F0 m pc ls [va_rf r])) →
      W p l e rm s m av.toArray below meth c s.heap [] 0 0 Q (F0 m 0 ls [])) : MetQ l y cs rm E av ws post ws' := by
  intro sz
  refine Met.ofW (cc := cc) (maxL := maxL) (ret := some (.object cn)) hy hw ?_
  intro p e s m args below meth c s₁ B hml hv
  obtain ⟨rfl, hsz, hP, hE, hD0⟩ := hv
  have hr := B.returns
  have hts := atoms_spec (ws := cs) B.pre
  have hown : s.vm.findClass own = some m.cls := by rw [← ho]; exact findClass_of_methodNamed B.named
  have hlocks := B.notSynchronized
  subst hsz
  have hD := hD0.self (sz := s.heap.size)
  rw [lg_entry_eq]
  refine body p e s m below meth c _ _ _ ⟨B.exec, B.bytes, hml, hown, hts, hE, fun q h => Or.inr h⟩ hP hD va_S.rf (lv_entry av hav) ?_
  intro r u H locs pc ls hdg hp hP9 hD9 hS
  exact W.aret (v := va_rf r) B.exec B.bytes hr (Or.inl ⟨cn, rfl⟩) (va_rf_or r) (fun t ht _ => ⟨⟨r, u, rfl, hp, by show va_P _ _ _ t.heap ∧ _; rw [ht]; exact ⟨hP9, hD9⟩⟩, hS.F ht⟩) hS.2.2 hdg
section CALLQ
variable {p : Program} {l : Launch} {e : Env} {R : Room} {s : State} {m : MethodId} {args : Array Value} {below : List Frame} {meth : Method} {c : Code} {H : Heap} {locs : List Loc} {cells slots : Nat} {Q : State → Prop}
variable {cc : ByteArray} {pc : Nat} {ls : Array Slot} {rest st0 : List Value} {A : Nat → Prop} {H0 : Heap} {nL : Nat} {Ts : List Cond} {own : String} {E : wV}
variable {av : List Value} {S : Type} {wc wr ws : va_W} {wc' wn : S → va_W}
theorem kQ {post : Option Nat → S → Prop} {isC isR is2 : List Nat} (cx : Cx p s m c cc nL args Ts own E A H0) (hP : va_P E.1 vwCl ws H) (hD : va_D A ws) (hS : va_S A H0 H locs) (ct : Cut ws wc wr wc' wn isC isR is2)
    (run : (va_P E.1 vwCl wc H → va_D (fun _ => True) wc → va_Run p l e R s m args below meth c H locs cells slots 0 0 (F0 m pc ls st0) rest (va_Qq post (Bw E (va_A wc H.size) wc') (va_A wc H.size) av.toArray) (va_A wc H.size)))
    (kk : ∀ (r : Option Nat) (u : S) (H1 : Heap) (locs1 : List Loc), post r u → va_P E.1 vwCl (wn u) H1 → va_D A (wn u) → va_S A H0 H1 locs1 → W p l e R s m args below meth c H1 locs1 cells slots Q (F0 m (pc + 3) ls (va_rf r :: rest))) :
    W p l e R s m args below meth c H locs cells slots Q (F0 m pc ls st0) := by
  obtain ⟨hC, hR, hnC, hnR, hdis, hn2, h2⟩ := ct
  have hFc := va_free (wc := wc) hD hS cx.2.2.2.2.2.2 isC hC
  have hPc := hP.sub isC (cut_sub hC)
  have hDc := hD.sub isC hnC hC
  refine va_callq (run hPc (hDc.weaken (fun _ _ _ _ => trivial))) hS (fun q _ h => hFc q h) hFc (fun r u t H1 locs1 ht _ hw hB _ hk1 hS1 => ?_)
  obtain ⟨hP1, hD1⟩ := hB
  rw [ht] at hP1
  obtain ⟨hP2, hD2⟩ := va_join (wr := wr) (w1 := wc' u) hP hD isC isR hC hR hnR hdis hk1 hFc hP1 hD1
  exact kk r u H1 locs1 hw (hP2.sub is2 (cut_sub (h2 u))) (hD2.sub is2 hn2 (h2 u)) hS1
theorem lv_rfS {x : Nat} (k : W p l e R s m args below meth c H locs cells slots Q (F0 m pc ls (.ref x :: rest))) : W p l e R s m args below meth c H locs cells slots Q (F0 m pc ls (va_rf (some x) :: rest)) := k
theorem lv_rfN (k : W p l e R s m args below meth c H locs cells slots Q (F0 m pc ls (.null :: rest))) : W p l e R s m args below meth c H locs cells slots Q (F0 m pc ls (va_rf none :: rest)) := k
end CALLQ
theorem kc_lt2 {x : Int32} (h : ¬ (2 : Int32) ≤ x) : x < 2 := by
  rw [Int32.le_iff_toInt_le] at h
  rw [Int32.lt_iff_toInt_lt]
  omega

def F_X9_keptAt (h_k0 : Nat) (h_k1 : Nat) (which : Int32) : Option Nat := (if which < (0 : Int32) then none else (if (2 : Int32) ≤ which then none else (if which = (0 : Int32) then (some h_k0) else (some h_k1))))
theorem iX9_keptAt_X9 : ∀ w ∈ wsX90, w ∈ wsX9_keptAt := fun _ h => List.mem_cons_of_mem _ (List.mem_append_right _ h)
set_option maxHeartbeats 4000000 in
set_option maxRecDepth 100000 in
theorem c_X9_keptAt (l : Launch) (E : wV) (h_bb : Nat) (a_bb : Nat → Nat) (h_k0 : Nat) (h_k1 : Nat) (kf : Nat → Option Nat) (bb : Nat → Int32) (which : Int32) (hk0 : kf 0 = some h_k0) (hk1 : kf 1 = some h_k1) : MetQ l yX9_keptAt wsX9_keptAt ({ frames := 0, cells := 0, slots := 0, locals := 0 } : Room) E ([.ref h_bb, .int which] : List Value) [xBandBoat h_bb a_bb bb, xM E (a_bb 9) 2 kf] (fun (r : Option Nat) (_ : Unit) => r = F_X9_keptAt h_k0 h_k1 which) (fun (_ : Unit) => [xBandBoat h_bb a_bb bb, xM E (a_bb 9) 2 kf]) := by
  refine MetQ.of (cc := cX9_keptAt) (maxL := 2) (own := RX9) (by decide) rfl rfl (Nat.le_of_ble_eq_true rfl) ?_
  intro p e s m below meth c A Q ls cx hP hD hS hl hq
  obtain ⟨hx, hb, hml, hown, hts, hE, hA⟩ := id cx
  have hl : lv_has ls 2 [(0, .ref h_bb), (1, .int which)] := hl
  have hP : va_P E.1 vwCl [xBandBoat h_bb a_bb bb, xM E (a_bb 9) 2 kf] s.heap := hP
  obtain ⟨ρ, hρ0⟩ : ∃ ρ, F_X9_keptAt h_k0 h_k1 which = ρ := ⟨_, rfl⟩
  have hρ := hρ0.symm
  unfold F_X9_keptAt at hρ
  refine lv_iload_n hx hb dX9_keptAt_0 rfl (lv_at hl 1 rfl) ?_
  refine lv_if_lt (tgt := 22) hx hb dX9_keptAt_1 (by decide) (fun c1 => ?_) (fun c1 => ?_)
  · rw [if_pos c1] at hρ
    refine lv_null hx hb dX9_keptAt_22 ?_
    exact hq none () _ _ _ _ dX9_keptAt_23 (hρ0.trans hρ).symm hP hD hS
  · rw [if_neg c1] at hρ
    refine lv_iload_n hx hb dX9_keptAt_4 rfl (lv_at hl 1 rfl) ?_
    refine lv_aload_n hx hb dX9_keptAt_5 rfl (lv_at hl 0 rfl) ?_
    refine va_get (D := E.1) (ci := 9) (v := .ref (a_bb 9)) (C := RX9) (T := TX9) (N := 18) hx hb hts iX9_keptAt_X9 hown hE.1 hP 0 rfl rfl 9 (by decide) (hts (.fieldLink RX9 68 "BandBoat" "kept" "[LBandBoat$Motion;") (List.mem_of_getElem? (i := 1) rfl)) (fun _ h9 => h9) rfl dX9_keptAt_6 ?_
    refine ar_mlen (v := (2 : Int32)) hx hb hE hP 1 rfl rfl dX9_keptAt_9 ?_
    refine lv_icmp_ge (tgt := 22) hx hb dX9_keptAt_10 (by decide) (fun c10 => ?_) (fun c10 => ?_)
    · rw [if_pos c10] at hρ
      refine lv_null hx hb dX9_keptAt_22 ?_
      exact hq none () _ _ _ _ dX9_keptAt_23 (hρ0.trans hρ).symm hP hD hS
    · rw [if_neg c10] at hρ
      refine lv_aload_n hx hb dX9_keptAt_13 rfl (lv_at hl 0 rfl) ?_
      refine va_get (D := E.1) (ci := 9) (v := .ref (a_bb 9)) (C := RX9) (T := TX9) (N := 18) hx hb hts iX9_keptAt_X9 hown hE.1 hP 0 rfl rfl 9 (by decide) (hts (.fieldLink RX9 68 "BandBoat" "kept" "[LBandBoat$Motion;") (List.mem_of_getElem? (i := 1) rfl)) (fun _ h9 => h9) rfl dX9_keptAt_14 ?_
      refine lv_iload_n hx hb dX9_keptAt_17 rfl (lv_at hl 1 rfl) ?_
      by_cases c18 : which = (0 : Int32)
      · rw [if_pos c18] at hρ
        refine ar_ald (k := 0) (y := h_k0) hx hb hE hP 1 rfl (kc_in c1 (kc_lt2 c10)) (kc0 c18) hk0 dX9_keptAt_18 ?_
        refine lv_goto (tgt := 23) hx hb dX9_keptAt_19 (by decide) ?_
        exact hq (some h_k0) () _ _ _ _ dX9_keptAt_23 (hρ0.trans hρ).symm hP hD hS
      · rw [if_neg c18] at hρ
        refine ar_ald (k := 1) (y := h_k1) hx hb hE hP 1 rfl (kc_in c1 (kc_lt2 c10)) (by rw [kc1 c1 (kc_lt2 c10) c18]; rfl) hk1 dX9_keptAt_18 ?_
        refine lv_goto (tgt := 23) hx hb dX9_keptAt_19 (by decide) ?_
        exact hq (some h_k1) () _ _ _ _ dX9_keptAt_23 (hρ0.trans hρ).symm hP hD hS
theorem keptAt_cases (h_k0 h_k1 : Nat) (x : Int32) : (x = 0 ∧ F_X9_keptAt h_k0 h_k1 x = some h_k0) ∨ (¬ x = 0 ∧ x = 1 ∧ F_X9_keptAt h_k0 h_k1 x = some h_k1) ∨ (¬ x = 0 ∧ ¬ x = 1 ∧ F_X9_keptAt h_k0 h_k1 x = none) := by
  by_cases c0 : x = 0
  · subst c0; exact Or.inl ⟨rfl, rfl⟩
  by_cases c1 : x = 1
  · subst c1; exact Or.inr (Or.inl ⟨c0, rfl, rfl⟩)
  refine Or.inr (Or.inr ⟨c0, c1, ?_⟩)
  unfold F_X9_keptAt
  by_cases q : x < (0 : Int32)
  · rw [if_pos q]
  · by_cases q2 : (2 : Int32) ≤ x
    · rw [if_neg q, if_pos q2]
    · exact absurd (kc1 q (kc_lt2 q2) c0) c1
def F_X9_keep_k31 (k1 : Nat → Int32) (g2 : Nat → Int32) (v3 : Int32) : Int32 × Int32 × (Nat → Int32) × (Nat → Int32) := (v3, v3, g2, k1)
def F_X9_keep_k21 (bb : Nat → Int32) (k1 : Nat → Int32) (g2 : Nat → Int32) : Int32 × Int32 × (Nat → Int32) × (Nat → Int32) := F_X9_keep_k31 k1 g2 ((bb 10) + (1 : Int32))
def F_X9_keep_k31b (k0 : Nat → Int32) (g4 : Nat → Int32) (v5 : Int32) : Int32 × Int32 × (Nat → Int32) × (Nat → Int32) := (v5, v5, k0, g4)
def F_X9_keep_k21b (bb : Nat → Int32) (k0 : Nat → Int32) (g4 : Nat → Int32) : Int32 × Int32 × (Nat → Int32) × (Nat → Int32) := F_X9_keep_k31b k0 g4 ((bb 10) + (1 : Int32))
def F_X9_keep (bb : Nat → Int32) (bo : Nat → Int32) (k0 : Nat → Int32) (k1 : Nat → Int32) : Int32 × Int32 × (Nat → Int32) × (Nat → Int32) := (if (bb 10) = (0 : Int32) then F_X9_keep_k21 bb k1 (F_X4_copy k0 bo) else (if (bb 10) = (1 : Int32) then F_X9_keep_k21b bb k0 (F_X4_copy k1 bo) else ((-3 : Int32), (bb 10), k0, k1)))
theorem iX9_keep_X9 : ∀ w ∈ wsX90, w ∈ wsX9_keep := fun _ h => List.mem_cons_of_mem _ (List.mem_append_left _ (List.mem_append_right _ h))
set_option maxHeartbeats 4000000 in
set_option maxRecDepth 100000 in
theorem c_X9_keep (l : Launch) (E : wV) (h_bb : Nat) (h_k0 : Nat) (h_k1 : Nat) (a_bb : Nat → Nat) (kf : Nat → Option Nat) (bb : Nat → Int32) (bo : Nat → Int32) (k0 : Nat → Int32) (k1 : Nat → Int32) (hk0 : kf 0 = some h_k0) (hk1 : kf 1 = some h_k1) (hz : bo 6 = 0 ∨ bo 6 = 1) : MetI l yX9_keep wsX9_keep ({ frames := 1, cells := 0, slots := 0, locals := 21 } : Room) E ([.ref h_bb] : List Value) [xBandBoat h_bb a_bb bb, xMotion (a_bb 8) bo, xM E (a_bb 9) 2 kf, xMotion h_k0 k0, xMotion h_k1 k1] (fun (r : Int32) (u : Int32 × (Nat → Int32) × (Nat → Int32)) => F_X9_keep bb bo k0 k1 = (r, u)) (fun (u : Int32 × (Nat → Int32) × (Nat → Int32)) => [xBandBoat h_bb a_bb (upd bb 10 u.1), xMotion (a_bb 8) bo, xM E (a_bb 9) 2 kf, xMotion h_k0 u.2.1, xMotion h_k1 u.2.2]) := by
  refine MetI.of (cc := cX9_keep) (maxL := 2) (own := RX9) (by decide) rfl rfl (Nat.le_of_ble_eq_true rfl) ?_
  intro p e s m below meth c A Q ls cx hP hD hS hl hq
  obtain ⟨hx, hb, hml, hown, hts, hE, hA⟩ := id cx
  have hl : lv_has ls 2 [(0, .ref h_bb)] := hl
  have hP : va_P E.1 vwCl [xBandBoat h_bb a_bb bb, xMotion (a_bb 8) bo, xM E (a_bb 9) 2 kf, xMotion h_k0 k0, xMotion h_k1 k1] s.heap := hP
  obtain ⟨ρ, hρ0⟩ : ∃ ρ, F_X9_keep bb bo k0 k1 = ρ := ⟨_, rfl⟩
  have hρ := hρ0.symm
  unfold F_X9_keep at hρ
  refine lv_aload_n hx hb dX9_keep_0 rfl (lv_at hl 0 rfl) ?_
  refine lv_aload_n hx hb dX9_keep_1 rfl (lv_at hl 0 rfl) ?_
  refine va_get (D := E.1) (ci := 9) (v := .int (bb 10)) (C := RX9) (T := TX9) (N := 18) hx hb hts iX9_keep_X9 hown hE.1 hP 0 rfl rfl 10 (by decide) (hts (.fieldLink RX9 139 "BandBoat" "keptCount" "I") (List.mem_of_getElem? (i := 1) rfl)) (fun _ h9 => h9) rfl dX9_keep_2 ?_
  refine kQ (wc := [xBandBoat h_bb a_bb bb, xM E (a_bb 9) 2 kf]) (wr := [xMotion (a_bb 8) bo, xMotion h_k0 k0, xMotion h_k1 k1]) (wc' := (fun (_ : Unit) => [xBandBoat h_bb a_bb bb, xM E (a_bb 9) 2 kf])) (wn := (fun (_ : Unit) => [xBandBoat h_bb a_bb bb, xMotion (a_bb 8) bo, xM E (a_bb 9) 2 kf, xMotion h_k0 k0, xMotion h_k1 k1])) (isC := [0, 2]) (isR := [1, 3, 4]) (is2 := [3, 0, 4, 1, 2]) cx hP hD hS ⟨rfl, rfl, by decide, by decide, by decide, by decide, fun _ => rfl⟩ (rV (As := [.int (bb 10)]) (rest := []) (C := RX9) (q0 := 0) (ci := 9) cx (c_X9_keptAt l E h_bb a_bb h_k0 h_k1 kf bb (bb 10) (hk0) (hk1) _) (cwV 1 hts gX9_keep_X9_keptAt rfl rfl rfl (by decide +kernel) ⟨Nat.le_of_ble_eq_true rfl, Nat.le_of_ble_eq_true rfl⟩) rfl rfl rfl rfl hl.1 rfl (Nat.le_of_ble_eq_true rfl) dX9_keep_5 ⟨Nat.zero_le _, Nat.zero_le _⟩) (fun r1 u H locs hw hP hD hS => ?_)
  subst hw
  rcases keptAt_cases h_k0 h_k1 (bb 10) with ⟨c5, e5⟩ | ⟨c5, c5b, e5⟩ | ⟨c5, c5b, e5⟩
  · rw [if_pos c5] at hρ
    rw [e5]
    refine lv_rfS ?_
    refine lv_astore_n (lv' := [(1, .ref h_k0), (0, .ref h_bb)]) hx hb dX9_keep_8 rfl hl (by decide) rfl (fun ls hl => ?_)
    refine lv_aload_n hx hb dX9_keep_9 rfl (lv_at hl 0 rfl) ?_
    refine lv_ifnonnull (tgt := 16) hx hb dX9_keep_10 (by decide) ?_
    refine lv_aload_n hx hb dX9_keep_16 rfl (lv_at hl 0 rfl) ?_
    refine lv_aload_n hx hb dX9_keep_17 rfl (lv_at hl 1 rfl) ?_
    refine va_get (D := E.1) (ci := 9) (v := .ref (a_bb 8)) (C := RX9) (T := TX9) (N := 18) hx hb hts iX9_keep_X9 hown hE.1 hP 0 rfl rfl 8 (by decide) (hts (.fieldLink RX9 64 "BandBoat" "boat" "LBandBoat$Motion;") (List.mem_of_getElem? (i := 2) rfl)) (fun _ h9 => h9) rfl dX9_keep_18 ?_
    refine kV (wc := [xMotion h_k0 k0, xMotion (a_bb 8) bo]) (wr := [xBandBoat h_bb a_bb bb, xM E (a_bb 9) 2 kf, xMotion h_k1 k1]) (wc' := (fun (u : (Nat → Int32)) => [xMotion h_k0 u, xMotion (a_bb 8) bo])) (wn := (fun (u : (Nat → Int32)) => [xBandBoat h_bb a_bb bb, xMotion (a_bb 8) bo, xM E (a_bb 9) 2 kf, xMotion h_k0 u, xMotion h_k1 k1])) (isC := [3, 1]) (isR := [0, 2, 4]) (is2 := [0, 4, 1, 3, 2]) cx hP hD hS ⟨rfl, rfl, by decide, by decide, by decide, by decide, fun _ => rfl⟩ (rVN (As := [.ref (a_bb 8)]) (rest := []) (C := RX4) (q0 := 0) (ci := 4) cx (c_X4_copy l E h_k0 (a_bb 8) k0 bo (hz) _) (va_cnB 1 hts gX9_keep_X4_copy_n251 rfl rfl rfl (hE.nw 115 rfl) (hts (.initialized RX4) (List.mem_of_getElem? (i := 10) rfl)) (by decide +kernel) ⟨Nat.le_of_ble_eq_true rfl, Nat.le_of_ble_eq_true rfl⟩) (hts (.instanceMethod yX4_copy) (List.mem_of_getElem? (i := 9) rfl)) (hts (.selects RX4 yX4_copy yX4_copy) (List.mem_of_getElem? (i := 11) rfl)) rfl rfl rfl rfl hl.1 rfl (Nat.le_of_ble_eq_true rfl) dX9_keep_21 ⟨Nat.zero_le _, Nat.zero_le _⟩) (fun u H locs hw hP hD hS => ?_)
    obtain ⟨g2, rfl⟩ : ∃ z, z = u := ⟨_, rfl⟩
    have hP : va_P E.1 vwCl [xBandBoat h_bb a_bb bb, xMotion (a_bb 8) bo, xM E (a_bb 9) 2 kf, xMotion h_k0 g2, xMotion h_k1 k1] H := hP
    have hD : va_D A [xBandBoat h_bb a_bb bb, xMotion (a_bb 8) bo, xM E (a_bb 9) 2 kf, xMotion h_k0 g2, xMotion h_k1 k1] := hD
    have hw : F_X4_copy k0 bo = g2 := hw
    rw [hw] at hρ
    have hρ : ρ = F_X9_keep_k21 bb k1 g2 := hρ
    unfold F_X9_keep_k21 at hρ
    refine lv_aload_n hx hb dX9_keep_24 rfl (lv_at hl 1 rfl) ?_
    refine lv_dup hx hb dX9_keep_25 rfl ?_
    refine va_get (D := E.1) (ci := 9) (v := .int (bb 10)) (C := RX9) (T := TX9) (N := 18) hx hb hts iX9_keep_X9 hown hE.1 hP 0 rfl rfl 10 (by decide) (hts (.fieldLink RX9 139 "BandBoat" "keptCount" "I") (List.mem_of_getElem? (i := 1) rfl)) (fun _ h9 => h9) rfl dX9_keep_26 ?_
    refine lv_iconst (v := (1 : Int32)) hx hb dX9_keep_29 (by decide) ?_
    refine lv_iadd hx hb dX9_keep_30 ?_
    refine lv_topi (fun v3 ev3 => ?_)
    have hρ : ρ = F_X9_keep_k31 k1 g2 v3 := by rw [ev3]; exact hρ
    unfold F_X9_keep_k31 at hρ
    refine va_put (D := E.1) (ci := 9) (v := .int v3) (ty := .int) (C := RX9) (T := TX9) (N := 18) hx hb hts iX9_keep_X9 tyX9 tyX9_ok nmX9 hown hE.1 hP hD hS 0 rfl rfl 10 (by decide) (hts (.fieldLink RX9 139 "BandBoat" "keptCount" "I") (List.mem_of_getElem? (i := 1) rfl)) (fun _ h9 => h9) rfl (by decide +kernel) rfl rfl (Nat.le_of_ble_eq_true rfl) dX9_keep_31 (fun H locs hP hD hS => ?_)
    have hP : va_P E.1 vwCl [xBandBoat h_bb a_bb (upd bb 10 v3), xMotion (a_bb 8) bo, xM E (a_bb 9) 2 kf, xMotion h_k0 g2, xMotion h_k1 k1] H := hP
    have hD : va_D A [xBandBoat h_bb a_bb (upd bb 10 v3), xMotion (a_bb 8) bo, xM E (a_bb 9) 2 kf, xMotion h_k0 g2, xMotion h_k1 k1] := hD
    refine lv_aload_n hx hb dX9_keep_34 rfl (lv_at hl 1 rfl) ?_
    refine va_get (D := E.1) (ci := 9) (v := .int v3) (C := RX9) (T := TX9) (N := 18) hx hb hts iX9_keep_X9 hown hE.1 hP 0 rfl rfl 10 (by decide) (hts (.fieldLink RX9 139 "BandBoat" "keptCount" "I") (List.mem_of_getElem? (i := 1) rfl)) (fun _ h9 => h9) rfl dX9_keep_35 ?_
    exact hq v3 (v3, g2, k1) _ _ _ _ dX9_keep_38 rfl (hρ0.trans hρ) hP hD hS
  · rw [if_neg c5, if_pos c5b] at hρ
    rw [e5]
    refine lv_rfS ?_
    refine lv_astore_n (lv' := [(1, .ref h_k1), (0, .ref h_bb)]) hx hb dX9_keep_8 rfl hl (by decide) rfl (fun ls hl => ?_)
    refine lv_aload_n hx hb dX9_keep_9 rfl (lv_at hl 0 rfl) ?_
    refine lv_ifnonnull (tgt := 16) hx hb dX9_keep_10 (by decide) ?_
    refine lv_aload_n hx hb dX9_keep_16 rfl (lv_at hl 0 rfl) ?_
    refine lv_aload_n hx hb dX9_keep_17 rfl (lv_at hl 1 rfl) ?_
    refine va_get (D := E.1) (ci := 9) (v := .ref (a_bb 8)) (C := RX9) (T := TX9) (N := 18) hx hb hts iX9_keep_X9 hown hE.1 hP 0 rfl rfl 8 (by decide) (hts (.fieldLink RX9 64 "BandBoat" "boat" "LBandBoat$Motion;") (List.mem_of_getElem? (i := 2) rfl)) (fun _ h9 => h9) rfl dX9_keep_18 ?_
    refine kV (wc := [xMotion h_k1 k1, xMotion (a_bb 8) bo]) (wr := [xBandBoat h_bb a_bb bb, xM E (a_bb 9) 2 kf, xMotion h_k0 k0]) (wc' := (fun (u : (Nat → Int32)) => [xMotion h_k1 u, xMotion (a_bb 8) bo])) (wn := (fun (u : (Nat → Int32)) => [xBandBoat h_bb a_bb bb, xMotion (a_bb 8) bo, xM E (a_bb 9) 2 kf, xMotion h_k0 k0, xMotion h_k1 u])) (isC := [4, 1]) (isR := [0, 2, 3]) (is2 := [0, 4, 1, 2, 3]) cx hP hD hS ⟨rfl, rfl, by decide, by decide, by decide, by decide, fun _ => rfl⟩ (rVN (As := [.ref (a_bb 8)]) (rest := []) (C := RX4) (q0 := 0) (ci := 4) cx (c_X4_copy l E h_k1 (a_bb 8) k1 bo (hz) _) (va_cnB 1 hts gX9_keep_X4_copy_n251 rfl rfl rfl (hE.nw 115 rfl) (hts (.initialized RX4) (List.mem_of_getElem? (i := 10) rfl)) (by decide +kernel) ⟨Nat.le_of_ble_eq_true rfl, Nat.le_of_ble_eq_true rfl⟩) (hts (.instanceMethod yX4_copy) (List.mem_of_getElem? (i := 9) rfl)) (hts (.selects RX4 yX4_copy yX4_copy) (List.mem_of_getElem? (i := 11) rfl)) rfl rfl rfl rfl hl.1 rfl (Nat.le_of_ble_eq_true rfl) dX9_keep_21 ⟨Nat.zero_le _, Nat.zero_le _⟩) (fun u H locs hw hP hD hS => ?_)
    obtain ⟨g4, rfl⟩ : ∃ z, z = u := ⟨_, rfl⟩
    have hP : va_P E.1 vwCl [xBandBoat h_bb a_bb bb, xMotion (a_bb 8) bo, xM E (a_bb 9) 2 kf, xMotion h_k0 k0, xMotion h_k1 g4] H := hP
    have hD : va_D A [xBandBoat h_bb a_bb bb, xMotion (a_bb 8) bo, xM E (a_bb 9) 2 kf, xMotion h_k0 k0, xMotion h_k1 g4] := hD
    have hw : F_X4_copy k1 bo = g4 := hw
    rw [hw] at hρ
    have hρ : ρ = F_X9_keep_k21b bb k0 g4 := hρ
    unfold F_X9_keep_k21b at hρ
    refine lv_aload_n hx hb dX9_keep_24 rfl (lv_at hl 1 rfl) ?_
    refine lv_dup hx hb dX9_keep_25 rfl ?_
    refine va_get (D := E.1) (ci := 9) (v := .int (bb 10)) (C := RX9) (T := TX9) (N := 18) hx hb hts iX9_keep_X9 hown hE.1 hP 0 rfl rfl 10 (by decide) (hts (.fieldLink RX9 139 "BandBoat" "keptCount" "I") (List.mem_of_getElem? (i := 1) rfl)) (fun _ h9 => h9) rfl dX9_keep_26 ?_
    refine lv_iconst (v := (1 : Int32)) hx hb dX9_keep_29 (by decide) ?_
    refine lv_iadd hx hb dX9_keep_30 ?_
    refine lv_topi (fun v5 ev5 => ?_)
    have hρ : ρ = F_X9_keep_k31b k0 g4 v5 := by rw [ev5]; exact hρ
    unfold F_X9_keep_k31b at hρ
    refine va_put (D := E.1) (ci := 9) (v := .int v5) (ty := .int) (C := RX9) (T := TX9) (N := 18) hx hb hts iX9_keep_X9 tyX9 tyX9_ok nmX9 hown hE.1 hP hD hS 0 rfl rfl 10 (by decide) (hts (.fieldLink RX9 139 "BandBoat" "keptCount" "I") (List.mem_of_getElem? (i := 1) rfl)) (fun _ h9 => h9) rfl (by decide +kernel) rfl rfl (Nat.le_of_ble_eq_true rfl) dX9_keep_31 (fun H locs hP hD hS => ?_)
    have hP : va_P E.1 vwCl [xBandBoat h_bb a_bb (upd bb 10 v5), xMotion (a_bb 8) bo, xM E (a_bb 9) 2 kf, xMotion h_k0 k0, xMotion h_k1 g4] H := hP
    have hD : va_D A [xBandBoat h_bb a_bb (upd bb 10 v5), xMotion (a_bb 8) bo, xM E (a_bb 9) 2 kf, xMotion h_k0 k0, xMotion h_k1 g4] := hD
    refine lv_aload_n hx hb dX9_keep_34 rfl (lv_at hl 1 rfl) ?_
    refine va_get (D := E.1) (ci := 9) (v := .int v5) (C := RX9) (T := TX9) (N := 18) hx hb hts iX9_keep_X9 hown hE.1 hP 0 rfl rfl 10 (by decide) (hts (.fieldLink RX9 139 "BandBoat" "keptCount" "I") (List.mem_of_getElem? (i := 1) rfl)) (fun _ h9 => h9) rfl dX9_keep_35 ?_
    exact hq v5 (v5, k0, g4) _ _ _ _ dX9_keep_38 rfl (hρ0.trans hρ) hP hD hS
  · rw [if_neg c5, if_neg c5b] at hρ
    rw [e5]
    refine lv_rfN ?_
    refine lv_astore_nN (lv' := [(1, .null), (0, .ref h_bb)]) hx hb dX9_keep_8 rfl hl (by decide) rfl (fun ls hl => ?_)
    refine lv_aload_nN hx hb dX9_keep_9 rfl (lv_at hl 0 rfl) ?_
    refine lv_ifnonnullN hx hb dX9_keep_10 ?_
    refine lv_bipush (v := (-3 : Int32)) hx hb dX9_keep_13 (by decide) ?_
    exact hq (-3 : Int32) ((bb 10), k0, k1) _ _ _ _ dX9_keep_15 rfl (hρ0.trans hρ) hP hD hS
def F_X9_back_k33 (g2 : Nat → Int32) (v3 : Int32) : Int32 × Int32 × (Nat → Int32) := (v3, v3, g2)
def F_X9_back_k23 (bb : Nat → Int32) (g2 : Nat → Int32) : Int32 × Int32 × (Nat → Int32) := F_X9_back_k33 g2 ((bb 10) - (1 : Int32))
def F_X9_back_k33b (g4 : Nat → Int32) (v5 : Int32) : Int32 × Int32 × (Nat → Int32) := (v5, v5, g4)
def F_X9_back_k23b (bb : Nat → Int32) (g4 : Nat → Int32) : Int32 × Int32 × (Nat → Int32) := F_X9_back_k33b g4 ((bb 10) - (1 : Int32))
def F_X9_back (bb : Nat → Int32) (bo : Nat → Int32) (k0 : Nat → Int32) (k1 : Nat → Int32) : Int32 × Int32 × (Nat → Int32) := (if ((bb 10) - (1 : Int32)) = (0 : Int32) then F_X9_back_k23 bb (F_X4_copy bo k0) else (if ((bb 10) - (1 : Int32)) = (1 : Int32) then F_X9_back_k23b bb (F_X4_copy bo k1) else ((-2 : Int32), (bb 10), bo)))
theorem iX9_back_X9 : ∀ w ∈ wsX90, w ∈ wsX9_back := fun _ h => List.mem_cons_of_mem _ (List.mem_append_left _ (List.mem_append_right _ h))
set_option maxHeartbeats 4000000 in
set_option maxRecDepth 100000 in
theorem c_X9_back (l : Launch) (E : wV) (h_bb : Nat) (h_k0 : Nat) (h_k1 : Nat) (a_bb : Nat → Nat) (kf : Nat → Option Nat) (bb : Nat → Int32) (bo : Nat → Int32) (k0 : Nat → Int32) (k1 : Nat → Int32) (hk0 : kf 0 = some h_k0) (hk1 : kf 1 = some h_k1) (hz0 : k0 6 = 0 ∨ k0 6 = 1) (hz1 : k1 6 = 0 ∨ k1 6 = 1) : MetI l yX9_back wsX9_back ({ frames := 1, cells := 0, slots := 0, locals := 21 } : Room) E ([.ref h_bb] : List Value) [xBandBoat h_bb a_bb bb, xMotion (a_bb 8) bo, xM E (a_bb 9) 2 kf, xMotion h_k0 k0, xMotion h_k1 k1] (fun (r : Int32) (u : Int32 × (Nat → Int32)) => F_X9_back bb bo k0 k1 = (r, u)) (fun (u : Int32 × (Nat → Int32)) => [xBandBoat h_bb a_bb (upd bb 10 u.1), xMotion (a_bb 8) u.2, xM E (a_bb 9) 2 kf, xMotion h_k0 k0, xMotion h_k1 k1]) := by
  refine MetI.of (cc := cX9_back) (maxL := 2) (own := RX9) (by decide) rfl rfl (Nat.le_of_ble_eq_true rfl) ?_
  intro p e s m below meth c A Q ls cx hP hD hS hl hq
  obtain ⟨hx, hb, hml, hown, hts, hE, hA⟩ := id cx
  have hl : lv_has ls 2 [(0, .ref h_bb)] := hl
  have hP : va_P E.1 vwCl [xBandBoat h_bb a_bb bb, xMotion (a_bb 8) bo, xM E (a_bb 9) 2 kf, xMotion h_k0 k0, xMotion h_k1 k1] s.heap := hP
  obtain ⟨ρ, hρ0⟩ : ∃ ρ, F_X9_back bb bo k0 k1 = ρ := ⟨_, rfl⟩
  have hρ := hρ0.symm
  unfold F_X9_back at hρ
  refine lv_aload_n hx hb dX9_back_0 rfl (lv_at hl 0 rfl) ?_
  refine lv_aload_n hx hb dX9_back_1 rfl (lv_at hl 0 rfl) ?_
  refine va_get (D := E.1) (ci := 9) (v := .int (bb 10)) (C := RX9) (T := TX9) (N := 18) hx hb hts iX9_back_X9 hown hE.1 hP 0 rfl rfl 10 (by decide) (hts (.fieldLink RX9 139 "BandBoat" "keptCount" "I") (List.mem_of_getElem? (i := 1) rfl)) (fun _ h9 => h9) rfl dX9_back_2 ?_
  refine lv_iconst (v := (1 : Int32)) hx hb dX9_back_5 (by decide) ?_
  refine lv_isub hx hb dX9_back_6 ?_
  refine kQ (wc := [xBandBoat h_bb a_bb bb, xM E (a_bb 9) 2 kf]) (wr := [xMotion (a_bb 8) bo, xMotion h_k0 k0, xMotion h_k1 k1]) (wc' := (fun (_ : Unit) => [xBandBoat h_bb a_bb bb, xM E (a_bb 9) 2 kf])) (wn := (fun (_ : Unit) => [xBandBoat h_bb a_bb bb, xMotion (a_bb 8) bo, xM E (a_bb 9) 2 kf, xMotion h_k0 k0, xMotion h_k1 k1])) (isC := [0, 2]) (isR := [1, 3, 4]) (is2 := [3, 0, 4, 1, 2]) cx hP hD hS ⟨rfl, rfl, by decide, by decide, by decide, by decide, fun _ => rfl⟩ (rV (As := [.int ((bb 10) - (1 : Int32))]) (rest := []) (C := RX9) (q0 := 0) (ci := 9) cx (c_X9_keptAt l E h_bb a_bb h_k0 h_k1 kf bb ((bb 10) - (1 : Int32)) (hk0) (hk1) _) (cwV 1 hts gX9_back_X9_keptAt rfl rfl rfl (by decide +kernel) ⟨Nat.le_of_ble_eq_true rfl, Nat.le_of_ble_eq_true rfl⟩) rfl rfl rfl rfl hl.1 rfl (Nat.le_of_ble_eq_true rfl) dX9_back_7 ⟨Nat.zero_le _, Nat.zero_le _⟩) (fun r1 u H locs hw hP hD hS => ?_)
  subst hw
  rcases keptAt_cases h_k0 h_k1 ((bb 10) - (1 : Int32)) with ⟨c7, e7⟩ | ⟨c7, c7b, e7⟩ | ⟨c7, c7b, e7⟩
  · rw [if_pos c7] at hρ
    rw [e7]
    refine lv_rfS ?_
    refine lv_astore_n (lv' := [(1, .ref h_k0), (0, .ref h_bb)]) hx hb dX9_back_10 rfl hl (by decide) rfl (fun ls hl => ?_)
    refine lv_aload_n hx hb dX9_back_11 rfl (lv_at hl 0 rfl) ?_
    refine lv_ifnonnull (tgt := 18) hx hb dX9_back_12 (by decide) ?_
    refine lv_aload_n hx hb dX9_back_18 rfl (lv_at hl 1 rfl) ?_
    refine va_get (D := E.1) (ci := 9) (v := .ref (a_bb 8)) (C := RX9) (T := TX9) (N := 18) hx hb hts iX9_back_X9 hown hE.1 hP 0 rfl rfl 8 (by decide) (hts (.fieldLink RX9 64 "BandBoat" "boat" "LBandBoat$Motion;") (List.mem_of_getElem? (i := 2) rfl)) (fun _ h9 => h9) rfl dX9_back_19 ?_
    refine lv_aload_n hx hb dX9_back_22 rfl (lv_at hl 0 rfl) ?_
    refine kV (wc := [xMotion (a_bb 8) bo, xMotion h_k0 k0]) (wr := [xBandBoat h_bb a_bb bb, xM E (a_bb 9) 2 kf, xMotion h_k1 k1]) (wc' := (fun (u : (Nat → Int32)) => [xMotion (a_bb 8) u, xMotion h_k0 k0])) (wn := (fun (u : (Nat → Int32)) => [xBandBoat h_bb a_bb bb, xMotion (a_bb 8) u, xM E (a_bb 9) 2 kf, xMotion h_k0 k0, xMotion h_k1 k1])) (isC := [1, 3]) (isR := [0, 2, 4]) (is2 := [0, 3, 1, 4, 2]) cx hP hD hS ⟨rfl, rfl, by decide, by decide, by decide, by decide, fun _ => rfl⟩ (rVN (As := [.ref h_k0]) (rest := []) (C := RX4) (q0 := 0) (ci := 4) cx (c_X4_copy l E (a_bb 8) h_k0 bo k0 (by first | exact hz0 | exact hz1) _) (va_cnB 1 hts gX9_back_X4_copy_n251 rfl rfl rfl (hE.nw 115 rfl) (hts (.initialized RX4) (List.mem_of_getElem? (i := 10) rfl)) (by decide +kernel) ⟨Nat.le_of_ble_eq_true rfl, Nat.le_of_ble_eq_true rfl⟩) (hts (.instanceMethod yX4_copy) (List.mem_of_getElem? (i := 9) rfl)) (hts (.selects RX4 yX4_copy yX4_copy) (List.mem_of_getElem? (i := 11) rfl)) rfl rfl rfl rfl hl.1 rfl (Nat.le_of_ble_eq_true rfl) dX9_back_23 ⟨Nat.zero_le _, Nat.zero_le _⟩) (fun u H locs hw hP hD hS => ?_)
    obtain ⟨g2, rfl⟩ : ∃ z, z = u := ⟨_, rfl⟩
    have hP : va_P E.1 vwCl [xBandBoat h_bb a_bb bb, xMotion (a_bb 8) g2, xM E (a_bb 9) 2 kf, xMotion h_k0 k0, xMotion h_k1 k1] H := hP
    have hD : va_D A [xBandBoat h_bb a_bb bb, xMotion (a_bb 8) g2, xM E (a_bb 9) 2 kf, xMotion h_k0 k0, xMotion h_k1 k1] := hD
    have hw : F_X4_copy bo k0 = g2 := hw
    rw [hw] at hρ
    have hρ : ρ = F_X9_back_k23 bb g2 := hρ
    unfold F_X9_back_k23 at hρ
    refine lv_aload_n hx hb dX9_back_26 rfl (lv_at hl 1 rfl) ?_
    refine lv_dup hx hb dX9_back_27 rfl ?_
    refine va_get (D := E.1) (ci := 9) (v := .int (bb 10)) (C := RX9) (T := TX9) (N := 18) hx hb hts iX9_back_X9 hown hE.1 hP 0 rfl rfl 10 (by decide) (hts (.fieldLink RX9 139 "BandBoat" "keptCount" "I") (List.mem_of_getElem? (i := 1) rfl)) (fun _ h9 => h9) rfl dX9_back_28 ?_
    refine lv_iconst (v := (1 : Int32)) hx hb dX9_back_31 (by decide) ?_
    refine lv_isub hx hb dX9_back_32 ?_
    refine lv_topi (fun v3 ev3 => ?_)
    have hρ : ρ = F_X9_back_k33 g2 v3 := by rw [ev3]; exact hρ
    unfold F_X9_back_k33 at hρ
    refine va_put (D := E.1) (ci := 9) (v := .int v3) (ty := .int) (C := RX9) (T := TX9) (N := 18) hx hb hts iX9_back_X9 tyX9 tyX9_ok nmX9 hown hE.1 hP hD hS 0 rfl rfl 10 (by decide) (hts (.fieldLink RX9 139 "BandBoat" "keptCount" "I") (List.mem_of_getElem? (i := 1) rfl)) (fun _ h9 => h9) rfl (by decide +kernel) rfl rfl (Nat.le_of_ble_eq_true rfl) dX9_back_33 (fun H locs hP hD hS => ?_)
    have hP : va_P E.1 vwCl [xBandBoat h_bb a_bb (upd bb 10 v3), xMotion (a_bb 8) g2, xM E (a_bb 9) 2 kf, xMotion h_k0 k0, xMotion h_k1 k1] H := hP
    have hD : va_D A [xBandBoat h_bb a_bb (upd bb 10 v3), xMotion (a_bb 8) g2, xM E (a_bb 9) 2 kf, xMotion h_k0 k0, xMotion h_k1 k1] := hD
    refine lv_aload_n hx hb dX9_back_36 rfl (lv_at hl 1 rfl) ?_
    refine va_get (D := E.1) (ci := 9) (v := .int v3) (C := RX9) (T := TX9) (N := 18) hx hb hts iX9_back_X9 hown hE.1 hP 0 rfl rfl 10 (by decide) (hts (.fieldLink RX9 139 "BandBoat" "keptCount" "I") (List.mem_of_getElem? (i := 1) rfl)) (fun _ h9 => h9) rfl dX9_back_37 ?_
    exact hq v3 (v3, g2) _ _ _ _ dX9_back_40 rfl (hρ0.trans hρ) hP hD hS
  · rw [if_neg c7, if_pos c7b] at hρ
    rw [e7]
    refine lv_rfS ?_
    refine lv_astore_n (lv' := [(1, .ref h_k1), (0, .ref h_bb)]) hx hb dX9_back_10 rfl hl (by decide) rfl (fun ls hl => ?_)
    refine lv_aload_n hx hb dX9_back_11 rfl (lv_at hl 0 rfl) ?_
    refine lv_ifnonnull (tgt := 18) hx hb dX9_back_12 (by decide) ?_
    refine lv_aload_n hx hb dX9_back_18 rfl (lv_at hl 1 rfl) ?_
    refine va_get (D := E.1) (ci := 9) (v := .ref (a_bb 8)) (C := RX9) (T := TX9) (N := 18) hx hb hts iX9_back_X9 hown hE.1 hP 0 rfl rfl 8 (by decide) (hts (.fieldLink RX9 64 "BandBoat" "boat" "LBandBoat$Motion;") (List.mem_of_getElem? (i := 2) rfl)) (fun _ h9 => h9) rfl dX9_back_19 ?_
    refine lv_aload_n hx hb dX9_back_22 rfl (lv_at hl 0 rfl) ?_
    refine kV (wc := [xMotion (a_bb 8) bo, xMotion h_k1 k1]) (wr := [xBandBoat h_bb a_bb bb, xM E (a_bb 9) 2 kf, xMotion h_k0 k0]) (wc' := (fun (u : (Nat → Int32)) => [xMotion (a_bb 8) u, xMotion h_k1 k1])) (wn := (fun (u : (Nat → Int32)) => [xBandBoat h_bb a_bb bb, xMotion (a_bb 8) u, xM E (a_bb 9) 2 kf, xMotion h_k0 k0, xMotion h_k1 k1])) (isC := [1, 4]) (isR := [0, 2, 3]) (is2 := [0, 3, 1, 2, 4]) cx hP hD hS ⟨rfl, rfl, by decide, by decide, by decide, by decide, fun _ => rfl⟩ (rVN (As := [.ref h_k1]) (rest := []) (C := RX4) (q0 := 0) (ci := 4) cx (c_X4_copy l E (a_bb 8) h_k1 bo k1 (by first | exact hz0 | exact hz1) _) (va_cnB 1 hts gX9_back_X4_copy_n251 rfl rfl rfl (hE.nw 115 rfl) (hts (.initialized RX4) (List.mem_of_getElem? (i := 10) rfl)) (by decide +kernel) ⟨Nat.le_of_ble_eq_true rfl, Nat.le_of_ble_eq_true rfl⟩) (hts (.instanceMethod yX4_copy) (List.mem_of_getElem? (i := 9) rfl)) (hts (.selects RX4 yX4_copy yX4_copy) (List.mem_of_getElem? (i := 11) rfl)) rfl rfl rfl rfl hl.1 rfl (Nat.le_of_ble_eq_true rfl) dX9_back_23 ⟨Nat.zero_le _, Nat.zero_le _⟩) (fun u H locs hw hP hD hS => ?_)
    obtain ⟨g4, rfl⟩ : ∃ z, z = u := ⟨_, rfl⟩
    have hP : va_P E.1 vwCl [xBandBoat h_bb a_bb bb, xMotion (a_bb 8) g4, xM E (a_bb 9) 2 kf, xMotion h_k0 k0, xMotion h_k1 k1] H := hP
    have hD : va_D A [xBandBoat h_bb a_bb bb, xMotion (a_bb 8) g4, xM E (a_bb 9) 2 kf, xMotion h_k0 k0, xMotion h_k1 k1] := hD
    have hw : F_X4_copy bo k1 = g4 := hw
    rw [hw] at hρ
    have hρ : ρ = F_X9_back_k23b bb g4 := hρ
    unfold F_X9_back_k23b at hρ
    refine lv_aload_n hx hb dX9_back_26 rfl (lv_at hl 1 rfl) ?_
    refine lv_dup hx hb dX9_back_27 rfl ?_
    refine va_get (D := E.1) (ci := 9) (v := .int (bb 10)) (C := RX9) (T := TX9) (N := 18) hx hb hts iX9_back_X9 hown hE.1 hP 0 rfl rfl 10 (by decide) (hts (.fieldLink RX9 139 "BandBoat" "keptCount" "I") (List.mem_of_getElem? (i := 1) rfl)) (fun _ h9 => h9) rfl dX9_back_28 ?_
    refine lv_iconst (v := (1 : Int32)) hx hb dX9_back_31 (by decide) ?_
    refine lv_isub hx hb dX9_back_32 ?_
    refine lv_topi (fun v5 ev5 => ?_)
    have hρ : ρ = F_X9_back_k33b g4 v5 := by rw [ev5]; exact hρ
    unfold F_X9_back_k33b at hρ
    refine va_put (D := E.1) (ci := 9) (v := .int v5) (ty := .int) (C := RX9) (T := TX9) (N := 18) hx hb hts iX9_back_X9 tyX9 tyX9_ok nmX9 hown hE.1 hP hD hS 0 rfl rfl 10 (by decide) (hts (.fieldLink RX9 139 "BandBoat" "keptCount" "I") (List.mem_of_getElem? (i := 1) rfl)) (fun _ h9 => h9) rfl (by decide +kernel) rfl rfl (Nat.le_of_ble_eq_true rfl) dX9_back_33 (fun H locs hP hD hS => ?_)
    have hP : va_P E.1 vwCl [xBandBoat h_bb a_bb (upd bb 10 v5), xMotion (a_bb 8) g4, xM E (a_bb 9) 2 kf, xMotion h_k0 k0, xMotion h_k1 k1] H := hP
    have hD : va_D A [xBandBoat h_bb a_bb (upd bb 10 v5), xMotion (a_bb 8) g4, xM E (a_bb 9) 2 kf, xMotion h_k0 k0, xMotion h_k1 k1] := hD
    refine lv_aload_n hx hb dX9_back_36 rfl (lv_at hl 1 rfl) ?_
    refine va_get (D := E.1) (ci := 9) (v := .int v5) (C := RX9) (T := TX9) (N := 18) hx hb hts iX9_back_X9 hown hE.1 hP 0 rfl rfl 10 (by decide) (hts (.fieldLink RX9 139 "BandBoat" "keptCount" "I") (List.mem_of_getElem? (i := 1) rfl)) (fun _ h9 => h9) rfl dX9_back_37 ?_
    exact hq v5 (v5, g4) _ _ _ _ dX9_back_40 rfl (hρ0.trans hρ) hP hD hS
  · rw [if_neg c7, if_neg c7b] at hρ
    rw [e7]
    refine lv_rfN ?_
    refine lv_astore_nN (lv' := [(1, .null), (0, .ref h_bb)]) hx hb dX9_back_10 rfl hl (by decide) rfl (fun ls hl => ?_)
    refine lv_aload_nN hx hb dX9_back_11 rfl (lv_at hl 0 rfl) ?_
    refine lv_ifnonnullN hx hb dX9_back_12 ?_
    refine lv_bipush (v := (-2 : Int32)) hx hb dX9_back_15 (by decide) ?_
    exact hq (-2 : Int32) ((bb 10), bo) _ _ _ _ dX9_back_17 rfl (hρ0.trans hρ) hP hD hS
def F_X9_count (bb : Nat → Int32) (la : Nat → Int32) (sc : Nat → Int32) (ga : Nat → Int32) (mk : Nat → Int32) (what : Int32) : Int32 := (if what = (0 : Int32) then (la 0) else (if what = (1 : Int32) then (sc 1) else (if what = (2 : Int32) then (ga 3) else (if what = (3 : Int32) then (mk 2) else (if what = (4 : Int32) then (bb 10) else (-1 : Int32))))))
theorem iX9_count_X1 : ∀ w ∈ wsX10, w ∈ wsX9_count := fun _ h => List.mem_cons_of_mem _ (List.mem_append_left _ (List.mem_append_right _ h))
theorem iX9_count_X2 : ∀ w ∈ wsX20, w ∈ wsX9_count := fun _ h => List.mem_cons_of_mem _ (List.mem_append_right _ h)
theorem iX9_count_X6 : ∀ w ∈ wsX60, w ∈ wsX9_count := fun _ h => List.mem_cons_of_mem _ (List.mem_append_left _ (List.mem_append_left _ (List.mem_append_left _ (List.mem_append_right _ h))))
theorem iX9_count_X7 : ∀ w ∈ wsX70, w ∈ wsX9_count := fun _ h => List.mem_cons_of_mem _ (List.mem_append_left _ (List.mem_append_left _ (List.mem_append_right _ h)))
theorem iX9_count_X9 : ∀ w ∈ wsX90, w ∈ wsX9_count := fun _ h => List.mem_cons_of_mem _ (List.mem_append_left _ (List.mem_append_left _ (List.mem_append_left _ (List.mem_append_left _ (List.mem_append_right _ h)))))
set_option maxHeartbeats 4000000 in
set_option maxRecDepth 100000 in
theorem c_X9_count (l : Launch) (E : wV) (h_bb : Nat) (a_bb : Nat → Nat) (a_sc : Nat → Nat) (a_ga : Nat → Nat) (a_mk : Nat → Nat) (bb : Nat → Int32) (la : Nat → Int32) (sc : Nat → Int32) (ga : Nat → Int32) (mk : Nat → Int32) (what : Int32) : MetI l yX9_count wsX9_count ({ frames := 0, cells := 0, slots := 0, locals := 0 } : Room) E ([.ref h_bb, .int what] : List Value) [xBandBoat h_bb a_bb bb, xRig (a_bb 2) la, xScript (a_bb 0) a_sc sc, xGauge (a_bb 6) a_ga ga, xMarks (a_bb 7) a_mk mk] (fun (r : Int32) (_ : Unit) => r = F_X9_count bb la sc ga mk what) (fun (_ : Unit) => [xBandBoat h_bb a_bb bb, xRig (a_bb 2) la, xScript (a_bb 0) a_sc sc, xGauge (a_bb 6) a_ga ga, xMarks (a_bb 7) a_mk mk]) := by
  refine MetI.of (cc := cX9_count) (maxL := 2) (own := RX9) (by decide) rfl rfl (Nat.le_of_ble_eq_true rfl) ?_
  intro p e s m below meth c A Q ls cx hP hD hS hl hq
  obtain ⟨hx, hb, hml, hown, hts, hE, hA⟩ := id cx
  have hl : lv_has ls 2 [(0, .ref h_bb), (1, .int what)] := hl
  have hP : va_P E.1 vwCl [xBandBoat h_bb a_bb bb, xRig (a_bb 2) la, xScript (a_bb 0) a_sc sc, xGauge (a_bb 6) a_ga ga, xMarks (a_bb 7) a_mk mk] s.heap := hP
  obtain ⟨ρ, hρ0⟩ : ∃ ρ, F_X9_count bb la sc ga mk what = ρ := ⟨_, rfl⟩
  have hρ := hρ0.symm
  unfold F_X9_count at hρ
  refine lv_iload_n hx hb dX9_count_0 rfl (lv_at hl 1 rfl) ?_
  by_cases c1_0 : what = (0 : Int32)
  · rw [if_pos c1_0] at hρ
    refine lv_tableIn (tgt := 36) hx hb dX9_count_1 (by rw [c1_0]; decide) (by rw [c1_0]; decide) (by rw [c1_0]; rfl) (by decide) ?_
    refine lv_aload_n hx hb dX9_count_36 rfl (lv_at hl 0 rfl) ?_
    refine va_get (D := E.1) (ci := 9) (v := .ref (a_bb 2)) (C := RX9) (T := TX9) (N := 18) hx hb hts iX9_count_X9 hown hE.1 hP 0 rfl rfl 2 (by decide) (hts (.fieldLink RX9 26 "BandBoat" "laid" "LBandBoat$Rig;") (List.mem_of_getElem? (i := 1) rfl)) (fun _ h9 => h9) rfl dX9_count_37 ?_
    refine va_getN (D := E.1) (ci := 6) (v := .int (la 0)) (C := RX6) (T := TX6) (N := 17) hx hb hts iX9_count_X6 hown hE.1 hP 1 rfl rfl 0 (by decide) (hE.n 2 rfl) (fun _ h9 => h9) rfl dX9_count_40 ?_
    exact hq (la 0) () _ _ _ _ dX9_count_43 rfl (hρ0.trans hρ).symm hP hD hS
  · rw [if_neg c1_0] at hρ
    by_cases c1_1 : what = (1 : Int32)
    · rw [if_pos c1_1] at hρ
      refine lv_tableIn (tgt := 44) hx hb dX9_count_1 (by rw [c1_1]; decide) (by rw [c1_1]; decide) (by rw [c1_1]; rfl) (by decide) ?_
      refine lv_aload_n hx hb dX9_count_44 rfl (lv_at hl 0 rfl) ?_
      refine va_get (D := E.1) (ci := 9) (v := .ref (a_bb 0)) (C := RX9) (T := TX9) (N := 18) hx hb hts iX9_count_X9 hown hE.1 hP 0 rfl rfl 0 (by decide) (hts (.fieldLink RX9 10 "BandBoat" "script" "LBandBoat$Script;") (List.mem_of_getElem? (i := 2) rfl)) (fun _ h9 => h9) rfl dX9_count_45 ?_
      refine va_getN (D := E.1) (ci := 7) (v := .int (sc 1)) (C := RX7) (T := TX7) (N := 2) hx hb hts iX9_count_X7 hown hE.1 hP 2 rfl rfl 1 (by decide) (hE.n 1 rfl) (fun _ h9 => h9) rfl dX9_count_48 ?_
      exact hq (sc 1) () _ _ _ _ dX9_count_51 rfl (hρ0.trans hρ).symm hP hD hS
    · rw [if_neg c1_1] at hρ
      by_cases c1_2 : what = (2 : Int32)
      · rw [if_pos c1_2] at hρ
        refine lv_tableIn (tgt := 52) hx hb dX9_count_1 (by rw [c1_2]; decide) (by rw [c1_2]; decide) (by rw [c1_2]; rfl) (by decide) ?_
        refine lv_aload_n hx hb dX9_count_52 rfl (lv_at hl 0 rfl) ?_
        refine va_get (D := E.1) (ci := 9) (v := .ref (a_bb 6)) (C := RX9) (T := TX9) (N := 18) hx hb hts iX9_count_X9 hown hE.1 hP 0 rfl rfl 6 (by decide) (hts (.fieldLink RX9 50 "BandBoat" "gauge" "LBandBoat$Gauge;") (List.mem_of_getElem? (i := 3) rfl)) (fun _ h9 => h9) rfl dX9_count_53 ?_
        refine va_getN (D := E.1) (ci := 1) (v := .int (ga 3)) (C := RX1) (T := TX1) (N := 4) hx hb hts iX9_count_X1 hown hE.1 hP 3 rfl rfl 3 (by decide) (hE.n 62 rfl) (fun _ h9 => h9) rfl dX9_count_56 ?_
        exact hq (ga 3) () _ _ _ _ dX9_count_59 rfl (hρ0.trans hρ).symm hP hD hS
      · rw [if_neg c1_2] at hρ
        by_cases c1_3 : what = (3 : Int32)
        · rw [if_pos c1_3] at hρ
          refine lv_tableIn (tgt := 60) hx hb dX9_count_1 (by rw [c1_3]; decide) (by rw [c1_3]; decide) (by rw [c1_3]; rfl) (by decide) ?_
          refine lv_aload_n hx hb dX9_count_60 rfl (lv_at hl 0 rfl) ?_
          refine va_get (D := E.1) (ci := 9) (v := .ref (a_bb 7)) (C := RX9) (T := TX9) (N := 18) hx hb hts iX9_count_X9 hown hE.1 hP 0 rfl rfl 7 (by decide) (hts (.fieldLink RX9 57 "BandBoat" "marks" "LBandBoat$Marks;") (List.mem_of_getElem? (i := 4) rfl)) (fun _ h9 => h9) rfl dX9_count_61 ?_
          refine va_getN (D := E.1) (ci := 2) (v := .int (mk 2)) (C := RX2) (T := TX2) (N := 3) hx hb hts iX9_count_X2 hown hE.1 hP 4 rfl rfl 2 (by decide) (hE.n 63 rfl) (fun _ h9 => h9) rfl dX9_count_64 ?_
          exact hq (mk 2) () _ _ _ _ dX9_count_67 rfl (hρ0.trans hρ).symm hP hD hS
        · rw [if_neg c1_3] at hρ
          by_cases c1_4 : what = (4 : Int32)
          · rw [if_pos c1_4] at hρ
            refine lv_tableIn (tgt := 68) hx hb dX9_count_1 (by rw [c1_4]; decide) (by rw [c1_4]; decide) (by rw [c1_4]; rfl) (by decide) ?_
            refine lv_aload_n hx hb dX9_count_68 rfl (lv_at hl 0 rfl) ?_
            refine va_get (D := E.1) (ci := 9) (v := .int (bb 10)) (C := RX9) (T := TX9) (N := 18) hx hb hts iX9_count_X9 hown hE.1 hP 0 rfl rfl 10 (by decide) (hts (.fieldLink RX9 139 "BandBoat" "keptCount" "I") (List.mem_of_getElem? (i := 5) rfl)) (fun _ h9 => h9) rfl dX9_count_69 ?_
            exact hq (bb 10) () _ _ _ _ dX9_count_72 rfl (hρ0.trans hρ).symm hP hD hS
          · rw [if_neg c1_4] at hρ
            refine lv_tableOut (tgt := 73) hx hb dX9_count_1 (by have q0 := lv_neT c1_0 (a := 0) (by decide); have q1 := lv_neT c1_1 (a := 1) (by decide); have q2 := lv_neT c1_2 (a := 2) (by decide); have q3 := lv_neT c1_3 (a := 3) (by decide); have q4 := lv_neT c1_4 (a := 4) (by decide); omega) (by decide) ?_
            refine lv_iconst (v := (-1 : Int32)) hx hb dX9_count_73 (by decide) ?_
            exact hq (-1 : Int32) () _ _ _ _ dX9_count_74 rfl (hρ0.trans hρ).symm hP hD hS
