def F_X9_within (x : Int32) (lo : Int32) (hi : Int32) : Int32 := (if x < lo then (0 : Int32) else (if hi < x then (0 : Int32) else (1 : Int32)))
set_option maxHeartbeats 4000000 in
set_option maxRecDepth 100000 in
theorem c_X9_within (l : Launch) (E : wV) (x : Int32) (lo : Int32) (hi : Int32) : MetI l yX9_within wsX9_within ({ frames := 0, cells := 0, slots := 0, locals := 0 } : Room) E ([.int x, .int lo, .int hi] : List Value) [] (fun (r : Int32) (_ : Unit) => r = F_X9_within x lo hi) (fun (_ : Unit) => []) := by
  refine MetI.of (cc := cX9_within) (maxL := 3) (own := RX9) (by decide) rfl rfl (Nat.le_of_ble_eq_true rfl) ?_
  intro p e s m below meth c A Q ls cx hP hD hS hl hq
  obtain ⟨hx, hb, hml, hown, hts, hE, hA⟩ := id cx
  have hl : lv_has ls 3 [(0, .int x), (1, .int lo), (2, .int hi)] := hl
  have hP : va_P E.1 vwCl [] s.heap := hP
  obtain ⟨ρ, hρ0⟩ : ∃ ρ, F_X9_within x lo hi = ρ := ⟨_, rfl⟩
  have hρ := hρ0.symm
  unfold F_X9_within at hρ
  refine lv_iload_n hx hb dX9_within_0 rfl (lv_at hl 0 rfl) ?_
  refine lv_iload_n hx hb dX9_within_1 rfl (lv_at hl 1 rfl) ?_
  refine lv_icmp_lt (tgt := 14) hx hb dX9_within_2 (by decide) (fun c2 => ?_) (fun c2 => ?_)
  · rw [if_pos c2] at hρ
    refine lv_iconst (v := (0 : Int32)) hx hb dX9_within_14 (by decide) ?_
    exact hq (0 : Int32) () _ _ _ _ dX9_within_15 rfl (hρ0.trans hρ).symm hP hD hS
  · rw [if_neg c2] at hρ
    refine lv_iload_n hx hb dX9_within_5 rfl (lv_at hl 0 rfl) ?_
    refine lv_iload_n hx hb dX9_within_6 rfl (lv_at hl 2 rfl) ?_
    refine lv_icmp_gt (tgt := 14) hx hb dX9_within_7 (by decide) (fun c7 => ?_) (fun c7 => ?_)
    · rw [if_pos c7] at hρ
      refine lv_iconst (v := (0 : Int32)) hx hb dX9_within_14 (by decide) ?_
      exact hq (0 : Int32) () _ _ _ _ dX9_within_15 rfl (hρ0.trans hρ).symm hP hD hS
    · rw [if_neg c7] at hρ
      refine lv_iconst (v := (1 : Int32)) hx hb dX9_within_10 (by decide) ?_
      refine lv_goto (tgt := 15) hx hb dX9_within_11 (by decide) ?_
      exact hq (1 : Int32) () _ _ _ _ dX9_within_15 rfl (hρ0.trans hρ).symm hP hD hS
theorem F_X9_within_b (x lo hi : Int32) : F_X9_within x lo hi = 0 ∨ F_X9_within x lo hi = 1 := by
  unfold F_X9_within; split
  · exact Or.inl rfl
  · split
    · exact Or.inl rfl
    · exact Or.inr rfl
theorem F_X9_within_ge {x lo hi : Int32} (c : ¬ F_X9_within x lo hi = 0) : lo.toInt ≤ x.toInt ∧ x.toInt ≤ hi.toInt := by
  unfold F_X9_within at c
  split at c
  · exact absurd rfl c
  · rename_i h1
    split at c
    · exact absurd rfl c
    · rename_i h2
      rw [Int32.lt_iff_toInt_lt] at h1 h2
      omega
theorem F_X9_within_in {x hi : Int32} {n : Nat} (c : ¬ F_X9_within x 0 hi = 0) (hh : hi.toInt + 1 = (n : Int)) : vp_in x n := by
  have h := F_X9_within_ge c
  have h0 : (0 : Int32).toInt = 0 := rfl
  exact inb_i (by omega) (by omega)
def F_X9_isTurns (n : Int32) : Int32 := (F_X9_within n (0 : Int32) (400 : Int32))
set_option maxHeartbeats 4000000 in
set_option maxRecDepth 100000 in
theorem c_X9_isTurns (l : Launch) (E : wV) (n : Int32) : MetI l yX9_isTurns wsX9_isTurns ({ frames := 1, cells := 0, slots := 0, locals := 22 } : Room) E ([.int n] : List Value) [] (fun (r : Int32) (_ : Unit) => r = F_X9_isTurns n) (fun (_ : Unit) => []) := by
  refine MetI.of (cc := cX9_isTurns) (maxL := 1) (own := RX9) (by decide) rfl rfl (Nat.le_of_ble_eq_true rfl) ?_
  intro p e s m below meth c A Q ls cx hP hD hS hl hq
  obtain ⟨hx, hb, hml, hown, hts, hE, hA⟩ := id cx
  have hl : lv_has ls 1 [(0, .int n)] := hl
  have hP : va_P E.1 vwCl [] s.heap := hP
  obtain ⟨ρ, hρ0⟩ : ∃ ρ, F_X9_isTurns n = ρ := ⟨_, rfl⟩
  have hρ := hρ0.symm
  unfold F_X9_isTurns at hρ
  refine lv_iload_n hx hb dX9_isTurns_0 rfl (lv_at hl 0 rfl) ?_
  refine lv_iconst (v := (0 : Int32)) hx hb dX9_isTurns_1 (by decide) ?_
  refine lv_sipush (v := (400 : Int32)) hx hb dX9_isTurns_2 (by decide) ?_
  refine kI (wc := []) (wr := []) (wc' := (fun (_ : Unit) => [])) (wn := (fun (_ : Unit) => [])) (isC := []) (isR := []) (is2 := []) cx hP hD hS ⟨rfl, rfl, by decide, by decide, by decide, by decide, fun _ => rfl⟩ (rS (As := [.int n, .int (0 : Int32), .int (400 : Int32)]) (rest := []) cx (c_X9_within l E n (0 : Int32) (400 : Int32) _) (va_cwS 3 hts gX9_isTurns_X9_within rfl rfl rfl (by decide +kernel) ⟨Nat.le_of_ble_eq_true rfl, Nat.le_of_ble_eq_true rfl⟩) rfl hl.1 rfl (Nat.le_of_ble_eq_true rfl) dX9_isTurns_5 ⟨Nat.zero_le _, Nat.zero_le _⟩) (fun r1 u H locs hw hP hD hS => ?_)
  subst hw
  exact hq (F_X9_within n (0 : Int32) (400 : Int32)) () _ _ _ _ dX9_isTurns_8 (nar_z (F_X9_within_b _ _ _)) (hρ0.trans hρ).symm hP hD hS
def F_X9_limit (x : Int32) (lo : Int32) (hi : Int32) : Int32 := (if lo ≤ x then (if x ≤ hi then x else hi) else lo)
set_option maxHeartbeats 4000000 in
set_option maxRecDepth 100000 in
theorem c_X9_limit (l : Launch) (E : wV) (x : Int32) (lo : Int32) (hi : Int32) : MetI l yX9_limit wsX9_limit ({ frames := 0, cells := 0, slots := 0, locals := 0 } : Room) E ([.int x, .int lo, .int hi] : List Value) [] (fun (r : Int32) (_ : Unit) => r = F_X9_limit x lo hi) (fun (_ : Unit) => []) := by
  refine MetI.of (cc := cX9_limit) (maxL := 3) (own := RX9) (by decide) rfl rfl (Nat.le_of_ble_eq_true rfl) ?_
  intro p e s m below meth c A Q ls cx hP hD hS hl hq
  obtain ⟨hx, hb, hml, hown, hts, hE, hA⟩ := id cx
  have hl : lv_has ls 3 [(0, .int x), (1, .int lo), (2, .int hi)] := hl
  have hP : va_P E.1 vwCl [] s.heap := hP
  obtain ⟨ρ, hρ0⟩ : ∃ ρ, F_X9_limit x lo hi = ρ := ⟨_, rfl⟩
  have hρ := hρ0.symm
  unfold F_X9_limit at hρ
  refine lv_iload_n hx hb dX9_limit_0 rfl (lv_at hl 0 rfl) ?_
  refine lv_iload_n hx hb dX9_limit_1 rfl (lv_at hl 1 rfl) ?_
  refine lv_icmp_ge (tgt := 9) hx hb dX9_limit_2 (by decide) (fun c2 => ?_) (fun c2 => ?_)
  · rw [if_pos c2] at hρ
    refine lv_iload_n hx hb dX9_limit_9 rfl (lv_at hl 0 rfl) ?_
    refine lv_iload_n hx hb dX9_limit_10 rfl (lv_at hl 2 rfl) ?_
    refine lv_icmp_le (tgt := 18) hx hb dX9_limit_11 (by decide) (fun c11 => ?_) (fun c11 => ?_)
    · rw [if_pos c11] at hρ
      refine lv_iload_n hx hb dX9_limit_18 rfl (lv_at hl 0 rfl) ?_
      exact hq x () _ _ _ _ dX9_limit_19 rfl (hρ0.trans hρ).symm hP hD hS
    · rw [if_neg c11] at hρ
      refine lv_iload_n hx hb dX9_limit_14 rfl (lv_at hl 2 rfl) ?_
      refine lv_goto (tgt := 19) hx hb dX9_limit_15 (by decide) ?_
      exact hq hi () _ _ _ _ dX9_limit_19 rfl (hρ0.trans hρ).symm hP hD hS
  · rw [if_neg c2] at hρ
    refine lv_iload_n hx hb dX9_limit_5 rfl (lv_at hl 1 rfl) ?_
    refine lv_goto (tgt := 19) hx hb dX9_limit_6 (by decide) ?_
    exact hq lo () _ _ _ _ dX9_limit_19 rfl (hρ0.trans hρ).symm hP hD hS
def F_X9_cut (x : Int32) (y : Int32) : Int32 := (if y = (0 : Int32) then (0 : Int32) else (x / y))
set_option maxHeartbeats 4000000 in
set_option maxRecDepth 100000 in
theorem c_X9_cut (l : Launch) (E : wV) (x : Int32) (y : Int32) : MetI l yX9_cut wsX9_cut ({ frames := 0, cells := 0, slots := 0, locals := 0 } : Room) E ([.int x, .int y] : List Value) [] (fun (r : Int32) (_ : Unit) => r = F_X9_cut x y) (fun (_ : Unit) => []) := by
  refine MetI.of (cc := cX9_cut) (maxL := 2) (own := RX9) (by decide) rfl rfl (Nat.le_of_ble_eq_true rfl) ?_
  intro p e s m below meth c A Q ls cx hP hD hS hl hq
  obtain ⟨hx, hb, hml, hown, hts, hE, hA⟩ := id cx
  have hl : lv_has ls 2 [(0, .int x), (1, .int y)] := hl
  have hP : va_P E.1 vwCl [] s.heap := hP
  obtain ⟨ρ, hρ0⟩ : ∃ ρ, F_X9_cut x y = ρ := ⟨_, rfl⟩
  have hρ := hρ0.symm
  unfold F_X9_cut at hρ
  refine lv_iload_n hx hb dX9_cut_0 rfl (lv_at hl 1 rfl) ?_
  refine lv_if_ne (tgt := 8) hx hb dX9_cut_1 (by decide) (fun c1 => ?_) (fun c1 => ?_)
  · rw [if_neg c1] at hρ
    refine lv_iload_n hx hb dX9_cut_8 rfl (lv_at hl 0 rfl) ?_
    refine lv_iload_n hx hb dX9_cut_9 rfl (lv_at hl 1 rfl) ?_
    refine lv_idiv hx hb dX9_cut_10 (c1) ?_
    exact hq (x / y) () _ _ _ _ dX9_cut_11 rfl (hρ0.trans hρ).symm hP hD hS
  · rw [if_pos c1] at hρ
    refine lv_iconst (v := (0 : Int32)) hx hb dX9_cut_4 (by decide) ?_
    refine lv_goto (tgt := 11) hx hb dX9_cut_5 (by decide) ?_
    exact hq (0 : Int32) () _ _ _ _ dX9_cut_11 rfl (hρ0.trans hρ).symm hP hD hS
def F_X0_wound_j50 (bd : Nat → Int32) (x2_50 : Int32) : Int32 := ((x2_50 * (bd 3)) / (100 : Int32))
def F_X0_wound_k49 (bd : Nat → Int32) (v2 : Int32) : Int32 := F_X0_wound_j50 bd v2
def F_X0_wound_k20 (bd : Nat → Int32) (parts : Int32) (v1 : Int32) : Int32 := (if parts ≤ (bd 2) then F_X0_wound_j50 bd v1 else F_X0_wound_k49 bd (v1 + ((((2 : Int32) * (bd 0)) * (parts - (bd 2))) / (bd 1))))
def F_X0_wound (bd : Nat → Int32) (parts : Int32) : Int32 := (if (bd 1) = (0 : Int32) then (0 : Int32) else F_X0_wound_k20 bd parts (((bd 0) * parts) / (bd 1)))
theorem iX0_wound_X0 : ∀ w ∈ wsX00, w ∈ wsX0_wound := fun _ h => List.mem_cons_of_mem _ (List.mem_append_right _ h)
set_option maxHeartbeats 4000000 in
set_option maxRecDepth 100000 in
theorem c_X0_wound (l : Launch) (E : wV) (h_bd : Nat) (bd : Nat → Int32) (parts : Int32) : MetI l yX0_wound wsX0_wound ({ frames := 0, cells := 0, slots := 0, locals := 0 } : Room) E ([.ref h_bd, .int parts] : List Value) [xBand h_bd bd] (fun (r : Int32) (_ : Unit) => r = F_X0_wound bd parts) (fun (_ : Unit) => [xBand h_bd bd]) := by
  refine MetI.of (cc := cX0_wound) (maxL := 3) (own := RX0) (by decide) rfl rfl (Nat.le_of_ble_eq_true rfl) ?_
  intro p e s m below meth c A Q ls cx hP hD hS hl hq
  obtain ⟨hx, hb, hml, hown, hts, hE, hA⟩ := id cx
  have hl : lv_has ls 3 [(0, .ref h_bd), (1, .int parts)] := hl
  have hP : va_P E.1 vwCl [xBand h_bd bd] s.heap := hP
  obtain ⟨ρ, hρ0⟩ : ∃ ρ, F_X0_wound bd parts = ρ := ⟨_, rfl⟩
  have hρ := hρ0.symm
  unfold F_X0_wound at hρ
  refine lv_aload_n hx hb dX0_wound_0 rfl (lv_at hl 0 rfl) ?_
  refine va_get (D := E.1) (ci := 0) (v := .int (bd 1)) (C := RX0) (T := TX0) (N := 7) hx hb hts iX0_wound_X0 hown hE.1 hP 0 rfl rfl 1 (by decide) (hts (.fieldLink RX0 24 "BandBoat$Band" "stretch" "I") (List.mem_of_getElem? (i := 1) rfl)) (fun _ h9 => h9) rfl dX0_wound_1 ?_
  refine lv_if_ne (tgt := 9) hx hb dX0_wound_4 (by decide) (fun c4 => ?_) (fun c4 => ?_)
  · rw [if_neg c4] at hρ
    refine lv_aload_n hx hb dX0_wound_9 rfl (lv_at hl 0 rfl) ?_
    refine va_get (D := E.1) (ci := 0) (v := .int (bd 0)) (C := RX0) (T := TX0) (N := 7) hx hb hts iX0_wound_X0 hown hE.1 hP 0 rfl rfl 0 (by decide) (hts (.fieldLink RX0 16 "BandBoat$Band" "force" "I") (List.mem_of_getElem? (i := 2) rfl)) (fun _ h9 => h9) rfl dX0_wound_10 ?_
    refine lv_iload_n hx hb dX0_wound_13 rfl (lv_at hl 1 rfl) ?_
    refine lv_imul hx hb dX0_wound_14 ?_
    refine lv_aload_n hx hb dX0_wound_15 rfl (lv_at hl 0 rfl) ?_
    refine va_get (D := E.1) (ci := 0) (v := .int (bd 1)) (C := RX0) (T := TX0) (N := 7) hx hb hts iX0_wound_X0 hown hE.1 hP 0 rfl rfl 1 (by decide) (hts (.fieldLink RX0 24 "BandBoat$Band" "stretch" "I") (List.mem_of_getElem? (i := 1) rfl)) (fun _ h9 => h9) rfl dX0_wound_16 ?_
    refine lv_idiv hx hb dX0_wound_19 (c4) ?_
    refine lv_topi (fun v1 ev1 => ?_)
    have hρ : ρ = F_X0_wound_k20 bd parts v1 := by rw [ev1]; exact hρ
    unfold F_X0_wound_k20 at hρ
    refine lv_istore_n (lv' := [(2, .int v1), (0, .ref h_bd), (1, .int parts)]) hx hb dX0_wound_20 rfl hl (by decide) rfl (fun ls hl => ?_)
    refine lv_iload_n hx hb dX0_wound_21 rfl (lv_at hl 2 rfl) ?_
    refine lv_aload_n hx hb dX0_wound_22 rfl (lv_at hl 1 rfl) ?_
    refine va_get (D := E.1) (ci := 0) (v := .int (bd 2)) (C := RX0) (T := TX0) (N := 7) hx hb hts iX0_wound_X0 hown hE.1 hP 0 rfl rfl 2 (by decide) (hts (.fieldLink RX0 36 "BandBoat$Band" "knot" "I") (List.mem_of_getElem? (i := 3) rfl)) (fun _ h9 => h9) rfl dX0_wound_23 ?_
    have hJ50 : ∀ (x2_50 : Int32) (H : Heap) (locs : List Loc) (ls : Array Slot), ρ = F_X0_wound_j50 bd x2_50 → va_P E.1 vwCl [xBand h_bd bd] H → va_D A [xBand h_bd bd] → va_S A s.heap H locs → lv_has ls 3 [(2, .int x2_50), (0, .ref h_bd), (1, .int parts)] → W p l e ({ frames := 0, cells := 0, slots := 0, locals := 0 } : Room) s m ([.ref h_bd, .int parts] : List Value).toArray below meth c H locs 0 0 Q (F0 m 50 ls []) := by
      intro x2_50 H locs ls hρ hP hD hS hl
      unfold F_X0_wound_j50 at hρ
      refine lv_iload_n hx hb dX0_wound_50 rfl (lv_at hl 0 rfl) ?_
      refine lv_aload_n hx hb dX0_wound_51 rfl (lv_at hl 1 rfl) ?_
      refine va_get (D := E.1) (ci := 0) (v := .int (bd 3)) (C := RX0) (T := TX0) (N := 7) hx hb hts iX0_wound_X0 hown hE.1 hP 0 rfl rfl 3 (by decide) (hts (.fieldLink RX0 42 "BandBoat$Band" "warmth" "I") (List.mem_of_getElem? (i := 4) rfl)) (fun _ h9 => h9) rfl dX0_wound_52 ?_
      refine lv_imul hx hb dX0_wound_55 ?_
      refine lv_bipush (v := (100 : Int32)) hx hb dX0_wound_56 (by decide) ?_
      refine lv_idiv hx hb dX0_wound_58 (by decide) ?_
      exact hq ((x2_50 * (bd 3)) / (100 : Int32)) () _ _ _ _ dX0_wound_59 rfl (hρ0.trans hρ).symm hP hD hS
    refine lv_icmp_le (tgt := 50) hx hb dX0_wound_26 (by decide) (fun c26 => ?_) (fun c26 => ?_)
    · rw [if_pos c26] at hρ
      exact hJ50 v1 _ _ _ hρ hP hD hS (lv_sub hl [0, 1, 2] rfl)
    · rw [if_neg c26] at hρ
      refine lv_iload_n hx hb dX0_wound_29 rfl (lv_at hl 0 rfl) ?_
      refine lv_iconst (v := (2 : Int32)) hx hb dX0_wound_30 (by decide) ?_
      refine lv_aload_n hx hb dX0_wound_31 rfl (lv_at hl 1 rfl) ?_
      refine va_get (D := E.1) (ci := 0) (v := .int (bd 0)) (C := RX0) (T := TX0) (N := 7) hx hb hts iX0_wound_X0 hown hE.1 hP 0 rfl rfl 0 (by decide) (hts (.fieldLink RX0 16 "BandBoat$Band" "force" "I") (List.mem_of_getElem? (i := 2) rfl)) (fun _ h9 => h9) rfl dX0_wound_32 ?_
      refine lv_imul hx hb dX0_wound_35 ?_
      refine lv_iload_n hx hb dX0_wound_36 rfl (lv_at hl 2 rfl) ?_
      refine lv_aload_n hx hb dX0_wound_37 rfl (lv_at hl 1 rfl) ?_
      refine va_get (D := E.1) (ci := 0) (v := .int (bd 2)) (C := RX0) (T := TX0) (N := 7) hx hb hts iX0_wound_X0 hown hE.1 hP 0 rfl rfl 2 (by decide) (hts (.fieldLink RX0 36 "BandBoat$Band" "knot" "I") (List.mem_of_getElem? (i := 3) rfl)) (fun _ h9 => h9) rfl dX0_wound_38 ?_
      refine lv_isub hx hb dX0_wound_41 ?_
      refine lv_imul hx hb dX0_wound_42 ?_
      refine lv_aload_n hx hb dX0_wound_43 rfl (lv_at hl 1 rfl) ?_
      refine va_get (D := E.1) (ci := 0) (v := .int (bd 1)) (C := RX0) (T := TX0) (N := 7) hx hb hts iX0_wound_X0 hown hE.1 hP 0 rfl rfl 1 (by decide) (hts (.fieldLink RX0 24 "BandBoat$Band" "stretch" "I") (List.mem_of_getElem? (i := 1) rfl)) (fun _ h9 => h9) rfl dX0_wound_44 ?_
      refine lv_idiv hx hb dX0_wound_47 (c4) ?_
      refine lv_iadd hx hb dX0_wound_48 ?_
      refine lv_topi (fun v2 ev2 => ?_)
      have hρ : ρ = F_X0_wound_k49 bd v2 := by rw [ev2]; exact hρ
      unfold F_X0_wound_k49 at hρ
      refine lv_istore_n (lv' := [(2, .int v2), (0, .ref h_bd), (1, .int parts)]) hx hb dX0_wound_49 rfl hl (by decide) rfl (fun ls hl => ?_)
      exact hJ50 v2 _ _ _ hρ hP hD hS (lv_sub hl [0, 1, 2] rfl)
  · rw [if_pos c4] at hρ
    refine lv_iconst (v := (0 : Int32)) hx hb dX0_wound_7 (by decide) ?_
    exact hq (0 : Int32) () _ _ _ _ dX0_wound_8 rfl (hρ0.trans hρ).symm hP hD hS
def F_X0_loosed (bd : Nat → Int32) (parts : Int32) : Int32 := (((((F_X0_wound bd parts) * (bd 4)) / (100 : Int32)) * (bd 5)) / (100 : Int32))
theorem iX0_loosed_X0 : ∀ w ∈ wsX00, w ∈ wsX0_loosed := fun _ h => List.mem_cons_of_mem _ (List.mem_append_right _ h)
set_option maxHeartbeats 4000000 in
set_option maxRecDepth 100000 in
theorem c_X0_loosed (l : Launch) (E : wV) (h_bd : Nat) (bd : Nat → Int32) (parts : Int32) : MetI l yX0_loosed wsX0_loosed ({ frames := 1, cells := 0, slots := 0, locals := 22 } : Room) E ([.ref h_bd, .int parts] : List Value) [xBand h_bd bd] (fun (r : Int32) (_ : Unit) => r = F_X0_loosed bd parts) (fun (_ : Unit) => [xBand h_bd bd]) := by
  refine MetI.of (cc := cX0_loosed) (maxL := 2) (own := RX0) (by decide) rfl rfl (Nat.le_of_ble_eq_true rfl) ?_
  intro p e s m below meth c A Q ls cx hP hD hS hl hq
  obtain ⟨hx, hb, hml, hown, hts, hE, hA⟩ := id cx
  have hl : lv_has ls 2 [(0, .ref h_bd), (1, .int parts)] := hl
  have hP : va_P E.1 vwCl [xBand h_bd bd] s.heap := hP
  obtain ⟨ρ, hρ0⟩ : ∃ ρ, F_X0_loosed bd parts = ρ := ⟨_, rfl⟩
  have hρ := hρ0.symm
  unfold F_X0_loosed at hρ
  refine lv_aload_n hx hb dX0_loosed_0 rfl (lv_at hl 0 rfl) ?_
  refine lv_iload_n hx hb dX0_loosed_1 rfl (lv_at hl 1 rfl) ?_
  refine kI (wc := [xBand h_bd bd]) (wr := []) (wc' := (fun (_ : Unit) => [xBand h_bd bd])) (wn := (fun (_ : Unit) => [xBand h_bd bd])) (isC := [0]) (isR := []) (is2 := [0]) cx hP hD hS ⟨rfl, rfl, by decide, by decide, by decide, by decide, fun _ => rfl⟩ (rV (As := [.int parts]) (rest := []) (C := RX0) (q0 := 0) (ci := 0) cx (c_X0_wound l E h_bd bd parts _) (cwV 1 hts gX0_loosed_X0_wound rfl rfl rfl (by decide +kernel) ⟨Nat.le_of_ble_eq_true rfl, Nat.le_of_ble_eq_true rfl⟩) rfl rfl rfl rfl hl.1 rfl (Nat.le_of_ble_eq_true rfl) dX0_loosed_2 ⟨Nat.zero_le _, Nat.zero_le _⟩) (fun r1 u H locs hw hP hD hS => ?_)
  subst hw
  refine lv_aload_n hx hb dX0_loosed_5 rfl (lv_at hl 0 rfl) ?_
  refine va_get (D := E.1) (ci := 0) (v := .int (bd 4)) (C := RX0) (T := TX0) (N := 7) hx hb hts iX0_loosed_X0 hown hE.1 hP 0 rfl rfl 4 (by decide) (hts (.fieldLink RX0 48 "BandBoat$Band" "returned" "I") (List.mem_of_getElem? (i := 1) rfl)) (fun _ h9 => h9) rfl dX0_loosed_6 ?_
  refine lv_imul hx hb dX0_loosed_9 ?_
  refine lv_bipush (v := (100 : Int32)) hx hb dX0_loosed_10 (by decide) ?_
  refine lv_idiv hx hb dX0_loosed_12 (by decide) ?_
  refine lv_aload_n hx hb dX0_loosed_13 rfl (lv_at hl 0 rfl) ?_
  refine va_get (D := E.1) (ci := 0) (v := .int (bd 5)) (C := RX0) (T := TX0) (N := 7) hx hb hts iX0_loosed_X0 hown hE.1 hP 0 rfl rfl 5 (by decide) (hts (.fieldLink RX0 54 "BandBoat$Band" "fresh" "I") (List.mem_of_getElem? (i := 2) rfl)) (fun _ h9 => h9) rfl dX0_loosed_14 ?_
  refine lv_imul hx hb dX0_loosed_17 ?_
  refine lv_bipush (v := (100 : Int32)) hx hb dX0_loosed_18 (by decide) ?_
  refine lv_idiv hx hb dX0_loosed_20 (by decide) ?_
  exact hq (((((F_X0_wound bd parts) * (bd 4)) / (100 : Int32)) * (bd 5)) / (100 : Int32)) () _ _ _ _ dX0_loosed_21 rfl (hρ0.trans hρ).symm hP hD hS
def F_X0_fit_k93 (bd : Nat → Int32) (v1 : Int32) (v2 : Int32) (v4 : Int32) (v5 : Int32) (v6 : Int32) (v7 : Int32) (v8 : Int32) : (Nat → Int32) := (upd (upd (upd (upd (upd (upd (upd bd 0 v1) 1 v2) 2 v4) 3 v5) 4 v6) 5 v7) 6 v8)
def F_X0_fit_k77 (bd : Nat → Int32) (rg : Nat → Int32) (v1 : Int32) (v2 : Int32) (v4 : Int32) (v5 : Int32) (v6 : Int32) (v7 : Int32) : (Nat → Int32) := F_X0_fit_k93 bd v1 v2 v4 v5 v6 v7 ((10 : Int32) + ((rg 8) * (rg 8)))
def F_X0_fit_k66 (bd : Nat → Int32) (rg : Nat → Int32) (v1 : Int32) (v2 : Int32) (v4 : Int32) (v5 : Int32) (v6 : Int32) : (Nat → Int32) := F_X0_fit_k77 bd rg v1 v2 v4 v5 v6 ((100 : Int32) - (rg 15))
def F_X0_fit_k55 (bd : Nat → Int32) (rg : Nat → Int32) (v1 : Int32) (v2 : Int32) (v4 : Int32) (v5 : Int32) : (Nat → Int32) := F_X0_fit_k66 bd rg v1 v2 v4 v5 ((100 : Int32) - (rg 3))
def F_X0_fit_k44 (bd : Nat → Int32) (rg : Nat → Int32) (v1 : Int32) (v2 : Int32) (v4 : Int32) : (Nat → Int32) := F_X0_fit_k55 bd rg v1 v2 v4 ((100 : Int32) - (rg 14))
def F_X0_fit_k21 (bd : Nat → Int32) (rg : Nat → Int32) (v1 : Int32) (v2 : Int32) : (Nat → Int32) := F_X0_fit_k44 bd rg v1 v2 (F_X9_cut (((10 : Int32) * (rg 4)) * (rg 7)) (rg 6))
def F_X0_fit_k10 (bd : Nat → Int32) (rg : Nat → Int32) (v1 : Int32) : (Nat → Int32) := F_X0_fit_k21 bd rg v1 ((10 : Int32) * (rg 7))
def F_X0_fit (bd : Nat → Int32) (rg : Nat → Int32) : (Nat → Int32) := F_X0_fit_k10 bd rg ((rg 2) * (rg 6))
theorem iX0_fit_X0 : ∀ w ∈ wsX00, w ∈ wsX0_fit := fun _ h => List.mem_cons_of_mem _ (List.mem_append_right _ h)
theorem iX0_fit_X6 : ∀ w ∈ wsX60, w ∈ wsX0_fit := fun _ h => List.mem_cons_of_mem _ (List.mem_append_left _ (List.mem_append_right _ h))
set_option maxHeartbeats 4000000 in
set_option maxRecDepth 100000 in
theorem c_X0_fit (l : Launch) (E : wV) (h_bd : Nat) (h_rg : Nat) (bd : Nat → Int32) (rg : Nat → Int32) : MetV l yX0_fit wsX0_fit ({ frames := 1, cells := 0, slots := 0, locals := 21 } : Room) E ([.ref h_bd, .ref h_rg] : List Value) [xBand h_bd bd, xRig h_rg rg] (fun (u : (Nat → Int32)) => F_X0_fit bd rg = u) (fun (u : (Nat → Int32)) => [xBand h_bd u, xRig h_rg rg]) := by
  refine MetV.of (cc := cX0_fit) (maxL := 2) (own := RX0) (by decide) rfl rfl (Nat.le_of_ble_eq_true rfl) ?_
  intro p e s m below meth c A Q ls cx hP hD hS hl hq
  obtain ⟨hx, hb, hml, hown, hts, hE, hA⟩ := id cx
  have hl : lv_has ls 2 [(0, .ref h_bd), (1, .ref h_rg)] := hl
  have hP : va_P E.1 vwCl [xBand h_bd bd, xRig h_rg rg] s.heap := hP
  obtain ⟨ρ, hρ0⟩ : ∃ ρ, F_X0_fit bd rg = ρ := ⟨_, rfl⟩
  have hρ := hρ0.symm
  unfold F_X0_fit at hρ
  refine lv_aload_n hx hb dX0_fit_0 rfl (lv_at hl 0 rfl) ?_
  refine lv_aload_n hx hb dX0_fit_1 rfl (lv_at hl 1 rfl) ?_
  refine va_getN (D := E.1) (ci := 6) (v := .int (rg 2)) (C := RX6) (T := TX6) (N := 17) hx hb hts iX0_fit_X6 hown hE.1 hP 1 rfl rfl 2 (by decide) (hE.n 6 rfl) (fun _ h9 => h9) rfl dX0_fit_2 ?_
  refine lv_aload_n hx hb dX0_fit_5 rfl (lv_at hl 1 rfl) ?_
  refine va_getN (D := E.1) (ci := 6) (v := .int (rg 6)) (C := RX6) (T := TX6) (N := 17) hx hb hts iX0_fit_X6 hown hE.1 hP 1 rfl rfl 6 (by decide) (hE.n 16 rfl) (fun _ h9 => h9) rfl dX0_fit_6 ?_
  refine lv_imul hx hb dX0_fit_9 ?_
  refine lv_topi (fun v1 ev1 => ?_)
  have hρ : ρ = F_X0_fit_k10 bd rg v1 := by rw [ev1]; exact hρ
  unfold F_X0_fit_k10 at hρ
  refine va_put (D := E.1) (ci := 0) (v := .int v1) (ty := .int) (C := RX0) (T := TX0) (N := 7) hx hb hts iX0_fit_X0 tyX0 tyX0_ok nmX0 hown hE.1 hP hD hS 0 rfl rfl 0 (by decide) (hts (.fieldLink RX0 16 "BandBoat$Band" "force" "I") (List.mem_of_getElem? (i := 1) rfl)) (fun _ h9 => h9) rfl (by decide +kernel) rfl rfl (Nat.le_of_ble_eq_true rfl) dX0_fit_10 (fun H locs hP hD hS => ?_)
  have hP : va_P E.1 vwCl [xBand h_bd (upd bd 0 v1), xRig h_rg rg] H := hP
  have hD : va_D A [xBand h_bd (upd bd 0 v1), xRig h_rg rg] := hD
  refine lv_aload_n hx hb dX0_fit_13 rfl (lv_at hl 0 rfl) ?_
  refine lv_bipush (v := (10 : Int32)) hx hb dX0_fit_14 (by decide) ?_
  refine lv_aload_n hx hb dX0_fit_16 rfl (lv_at hl 1 rfl) ?_
  refine va_getN (D := E.1) (ci := 6) (v := .int (rg 7)) (C := RX6) (T := TX6) (N := 17) hx hb hts iX0_fit_X6 hown hE.1 hP 1 rfl rfl 7 (by decide) (hE.n 19 rfl) (fun _ h9 => h9) rfl dX0_fit_17 ?_
  refine lv_imul hx hb dX0_fit_20 ?_
  refine lv_topi (fun v2 ev2 => ?_)
  have hρ : ρ = F_X0_fit_k21 bd rg v1 v2 := by rw [ev2]; exact hρ
  unfold F_X0_fit_k21 at hρ
  refine va_put (D := E.1) (ci := 0) (v := .int v2) (ty := .int) (C := RX0) (T := TX0) (N := 7) hx hb hts iX0_fit_X0 tyX0 tyX0_ok nmX0 hown hE.1 hP hD hS 0 rfl rfl 1 (by decide) (hts (.fieldLink RX0 24 "BandBoat$Band" "stretch" "I") (List.mem_of_getElem? (i := 2) rfl)) (fun _ h9 => h9) rfl (by decide +kernel) rfl rfl (Nat.le_of_ble_eq_true rfl) dX0_fit_21 (fun H locs hP hD hS => ?_)
  have hP : va_P E.1 vwCl [xBand h_bd (upd (upd bd 0 v1) 1 v2), xRig h_rg rg] H := hP
  have hD : va_D A [xBand h_bd (upd (upd bd 0 v1) 1 v2), xRig h_rg rg] := hD
  refine lv_aload_n hx hb dX0_fit_24 rfl (lv_at hl 0 rfl) ?_
  refine lv_bipush (v := (10 : Int32)) hx hb dX0_fit_25 (by decide) ?_
  refine lv_aload_n hx hb dX0_fit_27 rfl (lv_at hl 1 rfl) ?_
  refine va_getN (D := E.1) (ci := 6) (v := .int (rg 4)) (C := RX6) (T := TX6) (N := 17) hx hb hts iX0_fit_X6 hown hE.1 hP 1 rfl rfl 4 (by decide) (hE.n 12 rfl) (fun _ h9 => h9) rfl dX0_fit_28 ?_
  refine lv_imul hx hb dX0_fit_31 ?_
  refine lv_aload_n hx hb dX0_fit_32 rfl (lv_at hl 1 rfl) ?_
  refine va_getN (D := E.1) (ci := 6) (v := .int (rg 7)) (C := RX6) (T := TX6) (N := 17) hx hb hts iX0_fit_X6 hown hE.1 hP 1 rfl rfl 7 (by decide) (hE.n 19 rfl) (fun _ h9 => h9) rfl dX0_fit_33 ?_
  refine lv_imul hx hb dX0_fit_36 ?_
  refine lv_aload_n hx hb dX0_fit_37 rfl (lv_at hl 1 rfl) ?_
  refine va_getN (D := E.1) (ci := 6) (v := .int (rg 6)) (C := RX6) (T := TX6) (N := 17) hx hb hts iX0_fit_X6 hown hE.1 hP 1 rfl rfl 6 (by decide) (hE.n 16 rfl) (fun _ h9 => h9) rfl dX0_fit_38 ?_
  refine kI (wc := []) (wr := [xBand h_bd (upd (upd bd 0 v1) 1 v2), xRig h_rg rg]) (wc' := (fun (_ : Unit) => [])) (wn := (fun (_ : Unit) => [xBand h_bd (upd (upd bd 0 v1) 1 v2), xRig h_rg rg])) (isC := []) (isR := [0, 1]) (is2 := [0, 1]) cx hP hD hS ⟨rfl, rfl, by decide, by decide, by decide, by decide, fun _ => rfl⟩ (rSN (As := [.int (((10 : Int32) * (rg 4)) * (rg 7)), .int (rg 6)]) (rest := [.ref h_bd]) cx (c_X9_cut l E (((10 : Int32) * (rg 4)) * (rg 7)) (rg 6) _) (va_cnB 2 hts gX0_fit_X9_cut_n30 rfl rfl rfl (hE.nw 78 rfl) (hts (.initialized RX9) (List.mem_of_getElem? (i := 9) rfl)) (by decide +kernel) ⟨Nat.le_of_ble_eq_true rfl, Nat.le_of_ble_eq_true rfl⟩) (hts (.static yX9_cut) (List.mem_of_getElem? (i := 8) rfl)) rfl hl.1 rfl (Nat.le_of_ble_eq_true rfl) dX0_fit_41 ⟨Nat.zero_le _, Nat.zero_le _⟩) (fun r3 u H locs hw hP hD hS => ?_)
  subst hw
  refine lv_topi (fun v4 ev4 => ?_)
  have hρ : ρ = F_X0_fit_k44 bd rg v1 v2 v4 := by rw [ev4]; exact hρ
  unfold F_X0_fit_k44 at hρ
  refine va_put (D := E.1) (ci := 0) (v := .int v4) (ty := .int) (C := RX0) (T := TX0) (N := 7) hx hb hts iX0_fit_X0 tyX0 tyX0_ok nmX0 hown hE.1 hP hD hS 0 rfl rfl 2 (by decide) (hts (.fieldLink RX0 36 "BandBoat$Band" "knot" "I") (List.mem_of_getElem? (i := 3) rfl)) (fun _ h9 => h9) rfl (by decide +kernel) rfl rfl (Nat.le_of_ble_eq_true rfl) dX0_fit_44 (fun H locs hP hD hS => ?_)
  have hP : va_P E.1 vwCl [xBand h_bd (upd (upd (upd bd 0 v1) 1 v2) 2 v4), xRig h_rg rg] H := hP
  have hD : va_D A [xBand h_bd (upd (upd (upd bd 0 v1) 1 v2) 2 v4), xRig h_rg rg] := hD
  refine lv_aload_n hx hb dX0_fit_47 rfl (lv_at hl 0 rfl) ?_
  refine lv_bipush (v := (100 : Int32)) hx hb dX0_fit_48 (by decide) ?_
  refine lv_aload_n hx hb dX0_fit_50 rfl (lv_at hl 1 rfl) ?_
  refine va_getN (D := E.1) (ci := 6) (v := .int (rg 14)) (C := RX6) (T := TX6) (N := 17) hx hb hts iX0_fit_X6 hown hE.1 hP 1 rfl rfl 14 (by decide) (hE.n 37 rfl) (fun _ h9 => h9) rfl dX0_fit_51 ?_
  refine lv_isub hx hb dX0_fit_54 ?_
  refine lv_topi (fun v5 ev5 => ?_)
  have hρ : ρ = F_X0_fit_k55 bd rg v1 v2 v4 v5 := by rw [ev5]; exact hρ
  unfold F_X0_fit_k55 at hρ
  refine va_put (D := E.1) (ci := 0) (v := .int v5) (ty := .int) (C := RX0) (T := TX0) (N := 7) hx hb hts iX0_fit_X0 tyX0 tyX0_ok nmX0 hown hE.1 hP hD hS 0 rfl rfl 3 (by decide) (hts (.fieldLink RX0 42 "BandBoat$Band" "warmth" "I") (List.mem_of_getElem? (i := 4) rfl)) (fun _ h9 => h9) rfl (by decide +kernel) rfl rfl (Nat.le_of_ble_eq_true rfl) dX0_fit_55 (fun H locs hP hD hS => ?_)
  have hP : va_P E.1 vwCl [xBand h_bd (upd (upd (upd (upd bd 0 v1) 1 v2) 2 v4) 3 v5), xRig h_rg rg] H := hP
  have hD : va_D A [xBand h_bd (upd (upd (upd (upd bd 0 v1) 1 v2) 2 v4) 3 v5), xRig h_rg rg] := hD
  refine lv_aload_n hx hb dX0_fit_58 rfl (lv_at hl 0 rfl) ?_
  refine lv_bipush (v := (100 : Int32)) hx hb dX0_fit_59 (by decide) ?_
  refine lv_aload_n hx hb dX0_fit_61 rfl (lv_at hl 1 rfl) ?_
  refine va_getN (D := E.1) (ci := 6) (v := .int (rg 3)) (C := RX6) (T := TX6) (N := 17) hx hb hts iX0_fit_X6 hown hE.1 hP 1 rfl rfl 3 (by decide) (hE.n 9 rfl) (fun _ h9 => h9) rfl dX0_fit_62 ?_
  refine lv_isub hx hb dX0_fit_65 ?_
  refine lv_topi (fun v6 ev6 => ?_)
  have hρ : ρ = F_X0_fit_k66 bd rg v1 v2 v4 v5 v6 := by rw [ev6]; exact hρ
  unfold F_X0_fit_k66 at hρ
  refine va_put (D := E.1) (ci := 0) (v := .int v6) (ty := .int) (C := RX0) (T := TX0) (N := 7) hx hb hts iX0_fit_X0 tyX0 tyX0_ok nmX0 hown hE.1 hP hD hS 0 rfl rfl 4 (by decide) (hts (.fieldLink RX0 48 "BandBoat$Band" "returned" "I") (List.mem_of_getElem? (i := 5) rfl)) (fun _ h9 => h9) rfl (by decide +kernel) rfl rfl (Nat.le_of_ble_eq_true rfl) dX0_fit_66 (fun H locs hP hD hS => ?_)
  have hP : va_P E.1 vwCl [xBand h_bd (upd (upd (upd (upd (upd bd 0 v1) 1 v2) 2 v4) 3 v5) 4 v6), xRig h_rg rg] H := hP
  have hD : va_D A [xBand h_bd (upd (upd (upd (upd (upd bd 0 v1) 1 v2) 2 v4) 3 v5) 4 v6), xRig h_rg rg] := hD
  refine lv_aload_n hx hb dX0_fit_69 rfl (lv_at hl 0 rfl) ?_
  refine lv_bipush (v := (100 : Int32)) hx hb dX0_fit_70 (by decide) ?_
  refine lv_aload_n hx hb dX0_fit_72 rfl (lv_at hl 1 rfl) ?_
  refine va_getN (D := E.1) (ci := 6) (v := .int (rg 15)) (C := RX6) (T := TX6) (N := 17) hx hb hts iX0_fit_X6 hown hE.1 hP 1 rfl rfl 15 (by decide) (hE.n 39 rfl) (fun _ h9 => h9) rfl dX0_fit_73 ?_
  refine lv_isub hx hb dX0_fit_76 ?_
  refine lv_topi (fun v7 ev7 => ?_)
  have hρ : ρ = F_X0_fit_k77 bd rg v1 v2 v4 v5 v6 v7 := by rw [ev7]; exact hρ
  unfold F_X0_fit_k77 at hρ
  refine va_put (D := E.1) (ci := 0) (v := .int v7) (ty := .int) (C := RX0) (T := TX0) (N := 7) hx hb hts iX0_fit_X0 tyX0 tyX0_ok nmX0 hown hE.1 hP hD hS 0 rfl rfl 5 (by decide) (hts (.fieldLink RX0 54 "BandBoat$Band" "fresh" "I") (List.mem_of_getElem? (i := 6) rfl)) (fun _ h9 => h9) rfl (by decide +kernel) rfl rfl (Nat.le_of_ble_eq_true rfl) dX0_fit_77 (fun H locs hP hD hS => ?_)
  have hP : va_P E.1 vwCl [xBand h_bd (upd (upd (upd (upd (upd (upd bd 0 v1) 1 v2) 2 v4) 3 v5) 4 v6) 5 v7), xRig h_rg rg] H := hP
  have hD : va_D A [xBand h_bd (upd (upd (upd (upd (upd (upd bd 0 v1) 1 v2) 2 v4) 3 v5) 4 v6) 5 v7), xRig h_rg rg] := hD
  refine lv_aload_n hx hb dX0_fit_80 rfl (lv_at hl 0 rfl) ?_
  refine lv_bipush (v := (10 : Int32)) hx hb dX0_fit_81 (by decide) ?_
  refine lv_aload_n hx hb dX0_fit_83 rfl (lv_at hl 1 rfl) ?_
  refine va_getN (D := E.1) (ci := 6) (v := .int (rg 8)) (C := RX6) (T := TX6) (N := 17) hx hb hts iX0_fit_X6 hown hE.1 hP 1 rfl rfl 8 (by decide) (hE.n 22 rfl) (fun _ h9 => h9) rfl dX0_fit_84 ?_
  refine lv_aload_n hx hb dX0_fit_87 rfl (lv_at hl 1 rfl) ?_
  refine va_getN (D := E.1) (ci := 6) (v := .int (rg 8)) (C := RX6) (T := TX6) (N := 17) hx hb hts iX0_fit_X6 hown hE.1 hP 1 rfl rfl 8 (by decide) (hE.n 22 rfl) (fun _ h9 => h9) rfl dX0_fit_88 ?_
  refine lv_imul hx hb dX0_fit_91 ?_
  refine lv_iadd hx hb dX0_fit_92 ?_
  refine lv_topi (fun v8 ev8 => ?_)
  have hρ : ρ = F_X0_fit_k93 bd v1 v2 v4 v5 v6 v7 v8 := by rw [ev8]; exact hρ
  unfold F_X0_fit_k93 at hρ
  refine va_put (D := E.1) (ci := 0) (v := .int v8) (ty := .int) (C := RX0) (T := TX0) (N := 7) hx hb hts iX0_fit_X0 tyX0 tyX0_ok nmX0 hown hE.1 hP hD hS 0 rfl rfl 6 (by decide) (hts (.fieldLink RX0 60 "BandBoat$Band" "spinBy" "I") (List.mem_of_getElem? (i := 7) rfl)) (fun _ h9 => h9) rfl (by decide +kernel) rfl rfl (Nat.le_of_ble_eq_true rfl) dX0_fit_93 (fun H locs hP hD hS => ?_)
  have hP : va_P E.1 vwCl [xBand h_bd (upd (upd (upd (upd (upd (upd (upd bd 0 v1) 1 v2) 2 v4) 3 v5) 4 v6) 5 v7) 6 v8), xRig h_rg rg] H := hP
  have hD : va_D A [xBand h_bd (upd (upd (upd (upd (upd (upd (upd bd 0 v1) 1 v2) 2 v4) 3 v5) 4 v6) 5 v7) 6 v8), xRig h_rg rg] := hD
  exact hq (upd (upd (upd (upd (upd (upd (upd bd 0 v1) 1 v2) 2 v4) 3 v5) 4 v6) 5 v7) 6 v8) _ _ _ _ dX0_fit_96 (hρ0.trans hρ) hP hD hS
