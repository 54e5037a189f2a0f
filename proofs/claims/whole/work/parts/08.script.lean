def F_X7_at (sc : Nat → Int32) (sc_bytes : Nat → Int32) (place : Int32) : Int32 := (if place < (0 : Int32) then (-1 : Int32) else (if (sc 1) ≤ place then (-1 : Int32) else (if (300 : Int32) ≤ place then (-1 : Int32) else ((sc_bytes (Int32.toNatClampNeg place)) &&& (255 : Int32)))))
theorem iX7_at_X7 : ∀ w ∈ wsX70, w ∈ wsX7_at := fun _ h => List.mem_cons_of_mem _ (List.mem_append_right _ h)
set_option maxHeartbeats 4000000 in
set_option maxRecDepth 100000 in
theorem c_X7_at (l : Launch) (E : wV) (h_sc : Nat) (a_sc : Nat → Nat) (sc : Nat → Int32) (sc_bytes : Nat → Int32) (place : Int32) : MetI l yX7_at wsX7_at ({ frames := 0, cells := 0, slots := 0, locals := 0 } : Room) E ([.ref h_sc, .int place] : List Value) [xScript h_sc a_sc sc, xB E (a_sc 0) 300 sc_bytes] (fun (r : Int32) (_ : Unit) => r = F_X7_at sc sc_bytes place) (fun (_ : Unit) => [xScript h_sc a_sc sc, xB E (a_sc 0) 300 sc_bytes]) := by
  refine MetI.of (cc := cX7_at) (maxL := 2) (own := RX7) (by decide) rfl rfl (Nat.le_of_ble_eq_true rfl) ?_
  intro p e s m below meth c A Q ls cx hP hD hS hl hq
  obtain ⟨hx, hb, hml, hown, hts, hE, hA⟩ := id cx
  have hl : lv_has ls 2 [(0, .ref h_sc), (1, .int place)] := hl
  have hP : va_P E.1 vwCl [xScript h_sc a_sc sc, xB E (a_sc 0) 300 sc_bytes] s.heap := hP
  obtain ⟨ρ, hρ0⟩ : ∃ ρ, F_X7_at sc sc_bytes place = ρ := ⟨_, rfl⟩
  have hρ := hρ0.symm
  unfold F_X7_at at hρ
  refine lv_iload_n hx hb dX7_at_0 rfl (lv_at hl 1 rfl) ?_
  refine lv_if_lt (tgt := 34) hx hb dX7_at_1 (by decide) (fun c1 => ?_) (fun c1 => ?_)
  · rw [if_pos c1] at hρ
    refine lv_iconst (v := (-1 : Int32)) hx hb dX7_at_34 (by decide) ?_
    exact hq (-1 : Int32) () _ _ _ _ dX7_at_35 rfl (hρ0.trans hρ).symm hP hD hS
  · rw [if_neg c1] at hρ
    refine lv_iload_n hx hb dX7_at_4 rfl (lv_at hl 1 rfl) ?_
    refine lv_aload_n hx hb dX7_at_5 rfl (lv_at hl 0 rfl) ?_
    refine va_get (D := E.1) (ci := 7) (v := .int (sc 1)) (C := RX7) (T := TX7) (N := 2) hx hb hts iX7_at_X7 hown hE.1 hP 0 rfl rfl 1 (by decide) (hts (.fieldLink RX7 15 "BandBoat$Script" "length" "I") (List.mem_of_getElem? (i := 1) rfl)) (fun _ h9 => h9) rfl dX7_at_6 ?_
    refine lv_icmp_ge (tgt := 34) hx hb dX7_at_9 (by decide) (fun c9 => ?_) (fun c9 => ?_)
    · rw [if_pos c9] at hρ
      refine lv_iconst (v := (-1 : Int32)) hx hb dX7_at_34 (by decide) ?_
      exact hq (-1 : Int32) () _ _ _ _ dX7_at_35 rfl (hρ0.trans hρ).symm hP hD hS
    · rw [if_neg c9] at hρ
      refine lv_iload_n hx hb dX7_at_12 rfl (lv_at hl 1 rfl) ?_
      refine lv_aload_n hx hb dX7_at_13 rfl (lv_at hl 0 rfl) ?_
      refine va_get (D := E.1) (ci := 7) (v := .ref (a_sc 0)) (C := RX7) (T := TX7) (N := 2) hx hb hts iX7_at_X7 hown hE.1 hP 0 rfl rfl 0 (by decide) (hts (.fieldLink RX7 9 "BandBoat$Script" "bytes" "[B") (List.mem_of_getElem? (i := 2) rfl)) (fun _ h9 => h9) rfl dX7_at_14 ?_
      refine ar_blen (v := (300 : Int32)) hx hb hE hP 1 rfl rfl dX7_at_17 ?_
      refine lv_icmp_ge (tgt := 34) hx hb dX7_at_18 (by decide) (fun c18 => ?_) (fun c18 => ?_)
      · rw [if_pos c18] at hρ
        refine lv_iconst (v := (-1 : Int32)) hx hb dX7_at_34 (by decide) ?_
        exact hq (-1 : Int32) () _ _ _ _ dX7_at_35 rfl (hρ0.trans hρ).symm hP hD hS
      · rw [if_neg c18] at hρ
        refine lv_aload_n hx hb dX7_at_21 rfl (lv_at hl 0 rfl) ?_
        refine va_get (D := E.1) (ci := 7) (v := .ref (a_sc 0)) (C := RX7) (T := TX7) (N := 2) hx hb hts iX7_at_X7 hown hE.1 hP 0 rfl rfl 0 (by decide) (hts (.fieldLink RX7 9 "BandBoat$Script" "bytes" "[B") (List.mem_of_getElem? (i := 2) rfl)) (fun _ h9 => h9) rfl dX7_at_22 ?_
        refine lv_iload_n hx hb dX7_at_25 rfl (lv_at hl 1 rfl) ?_
        refine ar_bld (k := (Int32.toNatClampNeg place)) (v := (sc_bytes (Int32.toNatClampNeg place))) hx hb hE hP 1 rfl (inb_c (i_nn c1) c18 rfl) rfl rfl dX7_at_26 ?_
        refine lv_sipush (v := (255 : Int32)) hx hb dX7_at_27 (by decide) ?_
        refine lv_iand hx hb dX7_at_30 ?_
        refine lv_goto (tgt := 35) hx hb dX7_at_31 (by decide) ?_
        exact hq ((sc_bytes (Int32.toNatClampNeg place)) &&& (255 : Int32)) () _ _ _ _ dX7_at_35 rfl (hρ0.trans hρ).symm hP hD hS
def F_X7_append_x19 (s_sc_1_19 : Int32) (g_sc_bytes_19 : Nat → Int32) : Int32 × Int32 × (Nat → Int32) := ((1 : Int32), s_sc_1_19, g_sc_bytes_19)
def F_X7_append_k73 (x4_19 : Int32) (s_sc_1_19 : Int32) (g_sc_bytes_19 : Nat → Int32) (v1 : Int32) (v2 : Int32) : (Int32 × Int32 × (Nat → Int32)) ⊕ (Int32 × Int32 × (Nat → Int32)) := Sum.inl ((x4_19 + (1 : Int32)), v2, (upd g_sc_bytes_19 (Int32.toNatClampNeg s_sc_1_19) (vp_nar .byte v1)))
def F_X7_append_k65 (x4_19 : Int32) (s_sc_1_19 : Int32) (g_sc_bytes_19 : Nat → Int32) (v1 : Int32) : (Int32 × Int32 × (Nat → Int32)) ⊕ (Int32 × Int32 × (Nat → Int32)) := F_X7_append_k73 x4_19 s_sc_1_19 g_sc_bytes_19 v1 (s_sc_1_19 + (1 : Int32))
def F_X7_append_b19 (n : Int32) (v : Int64) (x4_19 : Int32) (s_sc_1_19 : Int32) (g_sc_bytes_19 : Nat → Int32) : (Int32 × Int32 × (Nat → Int32)) ⊕ (Int32 × Int32 × (Nat → Int32)) := (if n ≤ x4_19 then Sum.inr (F_X7_append_x19 s_sc_1_19 g_sc_bytes_19) else (if s_sc_1_19 < (0 : Int32) then Sum.inr (F_X7_append_x19 s_sc_1_19 g_sc_bytes_19) else (if (300 : Int32) ≤ s_sc_1_19 then Sum.inr (F_X7_append_x19 s_sc_1_19 g_sc_bytes_19) else F_X7_append_k65 x4_19 s_sc_1_19 g_sc_bytes_19 (Int8.toInt32 (Int32.toInt8 (Int64.toInt32 (v >>> ((Int32.toInt64 ((8 : Int32) * ((n - (1 : Int32)) - x4_19))) &&& 63))))))))
def F_X7_append_l19 (n : Int32) (v : Int64) : Nat → (Int32) → (Int32) → (Nat → Int32) → Int32 × Int32 × (Nat → Int32)
  | 0, x4_19, s_sc_1_19, g_sc_bytes_19 => F_X7_append_x19 s_sc_1_19 g_sc_bytes_19
  | n_19 + 1, x4_19, s_sc_1_19, g_sc_bytes_19 => match F_X7_append_b19 n v x4_19 s_sc_1_19 g_sc_bytes_19 with
    | Sum.inl (c_x4_19, c_s_sc_1_19, c_g_sc_bytes_19) => F_X7_append_l19 n v n_19 c_x4_19 c_s_sc_1_19 c_g_sc_bytes_19
    | Sum.inr r_ => r_
def F_X7_append (sc : Nat → Int32) (sc_bytes : Nat → Int32) (n : Int32) (v : Int64) : Int32 × Int32 × (Nat → Int32) := (if n ≤ ((300 : Int32) - (sc 1)) then F_X7_append_l19 n v ((Int32.toInt n).toNat) (0 : Int32) (sc 1) sc_bytes else ((0 : Int32), (sc 1), sc_bytes))
theorem iX7_append_X7 : ∀ w ∈ wsX70, w ∈ wsX7_append := fun _ h => List.mem_cons_of_mem _ (List.mem_append_right _ h)
set_option maxHeartbeats 4000000 in
set_option maxRecDepth 100000 in
theorem c_X7_append (l : Launch) (E : wV) (h_sc : Nat) (a_sc : Nat → Nat) (sc : Nat → Int32) (sc_bytes : Nat → Int32) (n : Int32) (v : Int64) : MetI l yX7_append wsX7_append ({ frames := 0, cells := 0, slots := 0, locals := 0 } : Room) E ([.ref h_sc, .int n, .long v] : List Value) [xScript h_sc a_sc sc, xB E (a_sc 0) 300 sc_bytes] (fun (r : Int32) (u : Int32 × (Nat → Int32)) => F_X7_append sc sc_bytes n v = (r, u)) (fun (u : Int32 × (Nat → Int32)) => [xScript h_sc a_sc (upd sc 1 u.1), xB E (a_sc 0) 300 u.2]) := by
  refine MetI.of (cc := cX7_append) (maxL := 5) (own := RX7) (by decide) rfl rfl (Nat.le_of_ble_eq_true rfl) ?_
  intro p e s m below meth c A Q ls cx hP hD hS hl hq
  obtain ⟨hx, hb, hml, hown, hts, hE, hA⟩ := id cx
  have hl : lv_has ls 5 [(0, .ref h_sc), (1, .int n), (2, .long v)] := hl
  have hP : va_P E.1 vwCl [xScript h_sc a_sc sc, xB E (a_sc 0) 300 sc_bytes] s.heap := hP
  obtain ⟨ρ, hρ0⟩ : ∃ ρ, F_X7_append sc sc_bytes n v = ρ := ⟨_, rfl⟩
  have hρ := hρ0.symm
  unfold F_X7_append at hρ
  refine lv_iload_n hx hb dX7_append_0 rfl (lv_at hl 1 rfl) ?_
  refine lv_aload_n hx hb dX7_append_1 rfl (lv_at hl 0 rfl) ?_
  refine va_get (D := E.1) (ci := 7) (v := .ref (a_sc 0)) (C := RX7) (T := TX7) (N := 2) hx hb hts iX7_append_X7 hown hE.1 hP 0 rfl rfl 0 (by decide) (hts (.fieldLink RX7 9 "BandBoat$Script" "bytes" "[B") (List.mem_of_getElem? (i := 1) rfl)) (fun _ h9 => h9) rfl dX7_append_2 ?_
  refine ar_blen (v := (300 : Int32)) hx hb hE hP 1 rfl rfl dX7_append_5 ?_
  refine lv_aload_n hx hb dX7_append_6 rfl (lv_at hl 0 rfl) ?_
  refine va_get (D := E.1) (ci := 7) (v := .int (sc 1)) (C := RX7) (T := TX7) (N := 2) hx hb hts iX7_append_X7 hown hE.1 hP 0 rfl rfl 1 (by decide) (hts (.fieldLink RX7 15 "BandBoat$Script" "length" "I") (List.mem_of_getElem? (i := 2) rfl)) (fun _ h9 => h9) rfl dX7_append_7 ?_
  refine lv_isub hx hb dX7_append_10 ?_
  refine lv_icmp_le (tgt := 16) hx hb dX7_append_11 (by decide) (fun c11 => ?_) (fun c11 => ?_)
  · rw [if_pos c11] at hρ
    refine lv_iconst (v := (0 : Int32)) hx hb dX7_append_16 (by decide) ?_
    refine lv_istore (lv' := [(4, .int (0 : Int32)), (0, .ref h_sc), (1, .int n), (2, .long v)]) hx hb dX7_append_17 hl (by decide) rfl (fun ls hl => ?_)
    have hX19 : ∀ (x4_19 : Int32) (s_sc_1_19 : Int32) (g_sc_bytes_19 : Nat → Int32) (H : Heap) (locs : List Loc) (ls : Array Slot), ρ = F_X7_append_x19 s_sc_1_19 g_sc_bytes_19 → va_P E.1 vwCl [xScript h_sc a_sc (upd sc 1 s_sc_1_19), xB E (a_sc 0) 300 g_sc_bytes_19] H → va_D A [xScript h_sc a_sc (upd sc 1 s_sc_1_19), xB E (a_sc 0) 300 g_sc_bytes_19] → va_S A s.heap H locs → lv_has ls 5 [(4, .int x4_19), (0, .ref h_sc), (1, .int n), (2, .long v)] → W p l e ({ frames := 0, cells := 0, slots := 0, locals := 0 } : Room) s m ([.ref h_sc, .int n, .long v] : List Value).toArray below meth c H locs 0 0 Q (F0 m 82 ls []) := by
      intro x4_19 s_sc_1_19 g_sc_bytes_19 H locs ls hρ hP hD hS hl
      unfold F_X7_append_x19 at hρ
      refine lv_iconst (v := (1 : Int32)) hx hb dX7_append_82 (by decide) ?_
      exact hq (1 : Int32) (s_sc_1_19, g_sc_bytes_19) _ _ _ _ dX7_append_83 rfl (hρ0.trans hρ) hP hD hS
    have hL19 : ∀ (n_19 : Nat) (x4_19 : Int32) (s_sc_1_19 : Int32) (g_sc_bytes_19 : Nat → Int32) (H : Heap) (locs : List Loc) (ls : Array Slot), ((n : Int32).toInt ≤ (x4_19).toInt + (n_19 : Nat)) → ρ = F_X7_append_l19 n v n_19 x4_19 s_sc_1_19 g_sc_bytes_19 → va_P E.1 vwCl [xScript h_sc a_sc (upd sc 1 s_sc_1_19), xB E (a_sc 0) 300 g_sc_bytes_19] H → va_D A [xScript h_sc a_sc (upd sc 1 s_sc_1_19), xB E (a_sc 0) 300 g_sc_bytes_19] → va_S A s.heap H locs → lv_has ls 5 [(4, .int x4_19), (0, .ref h_sc), (1, .int n), (2, .long v)] → W p l e ({ frames := 0, cells := 0, slots := 0, locals := 0 } : Room) s m ([.ref h_sc, .int n, .long v] : List Value).toArray below meth c H locs 0 0 Q (F0 m 19 ls []) := by
      intro n_19
      induction n_19 with
      | zero =>
        intro x4_19 s_sc_1_19 g_sc_bytes_19 H locs ls hM hρ hP hD hS hl
        have hM19 := hM
        rw [F_X7_append_l19] at hρ
        refine lv_iload hx hb dX7_append_19 (lv_at hl 0 rfl) ?_
        refine lv_iload_n hx hb dX7_append_21 rfl (lv_at hl 2 rfl) ?_
        refine lv_icmp_ge (tgt := 82) hx hb dX7_append_22 (by decide) (fun c22 => ?_) (fun c22 => ?_)
        · exact hX19 x4_19 s_sc_1_19 g_sc_bytes_19 _ _ _ hρ hP hD hS (lv_sub hl [0, 1, 2, 3] rfl)
        · exact (cnt_lt0 c22 hM).elim
      | succ n_19 ih =>
        intro x4_19 s_sc_1_19 g_sc_bytes_19 H locs ls hM hρ hP hD hS hl
        have hM19 := hM
        rw [F_X7_append_l19] at hρ
        obtain ⟨τ19, hτ019⟩ : ∃ τ, F_X7_append_b19 n v x4_19 s_sc_1_19 g_sc_bytes_19 = τ := ⟨_, rfl⟩
        rw [hτ019] at hρ
        have hτ19 := hτ019.symm
        unfold F_X7_append_b19 at hτ19
        refine lv_iload hx hb dX7_append_19 (lv_at hl 0 rfl) ?_
        refine lv_iload_n hx hb dX7_append_21 rfl (lv_at hl 2 rfl) ?_
        refine lv_icmp_ge (tgt := 82) hx hb dX7_append_22 (by decide) (fun c22 => ?_) (fun c22 => ?_)
        · rw [if_pos c22] at hτ19
          have hρ : ρ = F_X7_append_x19 s_sc_1_19 g_sc_bytes_19 := by subst hτ19; exact hρ
          exact hX19 x4_19 s_sc_1_19 g_sc_bytes_19 _ _ _ hρ hP hD hS (lv_sub hl [0, 1, 2, 3] rfl)
        · rw [if_neg c22] at hτ19
          refine lv_aload_n hx hb dX7_append_25 rfl (lv_at hl 1 rfl) ?_
          refine va_get (D := E.1) (ci := 7) (v := .int s_sc_1_19) (C := RX7) (T := TX7) (N := 2) hx hb hts iX7_append_X7 hown hE.1 hP 0 rfl rfl 1 (by decide) (hts (.fieldLink RX7 15 "BandBoat$Script" "length" "I") (List.mem_of_getElem? (i := 2) rfl)) (fun _ h9 => h9) rfl dX7_append_26 ?_
          refine lv_if_lt (tgt := 82) hx hb dX7_append_29 (by decide) (fun c29 => ?_) (fun c29 => ?_)
          · rw [if_pos c29] at hτ19
            have hρ : ρ = F_X7_append_x19 s_sc_1_19 g_sc_bytes_19 := by subst hτ19; exact hρ
            exact hX19 x4_19 s_sc_1_19 g_sc_bytes_19 _ _ _ hρ hP hD hS (lv_sub hl [0, 1, 2, 3] rfl)
          · rw [if_neg c29] at hτ19
            refine lv_aload_n hx hb dX7_append_32 rfl (lv_at hl 1 rfl) ?_
            refine va_get (D := E.1) (ci := 7) (v := .int s_sc_1_19) (C := RX7) (T := TX7) (N := 2) hx hb hts iX7_append_X7 hown hE.1 hP 0 rfl rfl 1 (by decide) (hts (.fieldLink RX7 15 "BandBoat$Script" "length" "I") (List.mem_of_getElem? (i := 2) rfl)) (fun _ h9 => h9) rfl dX7_append_33 ?_
            refine lv_aload_n hx hb dX7_append_36 rfl (lv_at hl 1 rfl) ?_
            refine va_get (D := E.1) (ci := 7) (v := .ref (a_sc 0)) (C := RX7) (T := TX7) (N := 2) hx hb hts iX7_append_X7 hown hE.1 hP 0 rfl rfl 0 (by decide) (hts (.fieldLink RX7 9 "BandBoat$Script" "bytes" "[B") (List.mem_of_getElem? (i := 1) rfl)) (fun _ h9 => h9) rfl dX7_append_37 ?_
            refine ar_blen (v := (300 : Int32)) hx hb hE hP 1 rfl rfl dX7_append_40 ?_
            refine lv_icmp_ge (tgt := 82) hx hb dX7_append_41 (by decide) (fun c41 => ?_) (fun c41 => ?_)
            · rw [if_pos c41] at hτ19
              have hρ : ρ = F_X7_append_x19 s_sc_1_19 g_sc_bytes_19 := by subst hτ19; exact hρ
              exact hX19 x4_19 s_sc_1_19 g_sc_bytes_19 _ _ _ hρ hP hD hS (lv_sub hl [0, 1, 2, 3] rfl)
            · rw [if_neg c41] at hτ19
              refine lv_aload_n hx hb dX7_append_44 rfl (lv_at hl 1 rfl) ?_
              refine va_get (D := E.1) (ci := 7) (v := .ref (a_sc 0)) (C := RX7) (T := TX7) (N := 2) hx hb hts iX7_append_X7 hown hE.1 hP 0 rfl rfl 0 (by decide) (hts (.fieldLink RX7 9 "BandBoat$Script" "bytes" "[B") (List.mem_of_getElem? (i := 1) rfl)) (fun _ h9 => h9) rfl dX7_append_45 ?_
              refine lv_aload_n hx hb dX7_append_48 rfl (lv_at hl 1 rfl) ?_
              refine va_get (D := E.1) (ci := 7) (v := .int s_sc_1_19) (C := RX7) (T := TX7) (N := 2) hx hb hts iX7_append_X7 hown hE.1 hP 0 rfl rfl 1 (by decide) (hts (.fieldLink RX7 15 "BandBoat$Script" "length" "I") (List.mem_of_getElem? (i := 2) rfl)) (fun _ h9 => h9) rfl dX7_append_49 ?_
              refine lv_lload_n hx hb dX7_append_52 rfl (lv_at hl 3 rfl) ?_
              refine lv_bipush (v := (8 : Int32)) hx hb dX7_append_53 (by decide) ?_
              refine lv_iload_n hx hb dX7_append_55 rfl (lv_at hl 2 rfl) ?_
              refine lv_iconst (v := (1 : Int32)) hx hb dX7_append_56 (by decide) ?_
              refine lv_isub hx hb dX7_append_57 ?_
              refine lv_iload hx hb dX7_append_58 (lv_at hl 0 rfl) ?_
              refine lv_isub hx hb dX7_append_60 ?_
              refine lv_imul hx hb dX7_append_61 ?_
              refine lv_lshr hx hb dX7_append_62 rfl ?_
              refine lv_l2i hx hb dX7_append_63 rfl ?_
              refine lv_i2b hx hb dX7_append_64 rfl ?_
              refine lv_topi (fun v1 ev1 => ?_)
              have hτ19 : τ19 = F_X7_append_k65 x4_19 s_sc_1_19 g_sc_bytes_19 v1 := by rw [ev1]; exact hτ19
              unfold F_X7_append_k65 at hτ19
              refine ar_bst (k := (Int32.toNatClampNeg s_sc_1_19)) (ws' := [xScript h_sc a_sc (upd sc 1 s_sc_1_19), xB E (a_sc 0) 300 (upd g_sc_bytes_19 (Int32.toNatClampNeg s_sc_1_19) (vp_nar .byte v1))]) hx hb hE hP hD hS 1 rfl (inb_c (i_nn c29) c41 rfl) rfl rfl dX7_append_65 (fun H locs hP hD hS => ?_)
              refine lv_aload_n hx hb dX7_append_66 rfl (lv_at hl 1 rfl) ?_
              refine lv_dup hx hb dX7_append_67 rfl ?_
              refine va_get (D := E.1) (ci := 7) (v := .int s_sc_1_19) (C := RX7) (T := TX7) (N := 2) hx hb hts iX7_append_X7 hown hE.1 hP 0 rfl rfl 1 (by decide) (hts (.fieldLink RX7 15 "BandBoat$Script" "length" "I") (List.mem_of_getElem? (i := 2) rfl)) (fun _ h9 => h9) rfl dX7_append_68 ?_
              refine lv_iconst (v := (1 : Int32)) hx hb dX7_append_71 (by decide) ?_
              refine lv_iadd hx hb dX7_append_72 ?_
              refine lv_topi (fun v2 ev2 => ?_)
              have hτ19 : τ19 = F_X7_append_k73 x4_19 s_sc_1_19 g_sc_bytes_19 v1 v2 := by rw [ev2]; exact hτ19
              unfold F_X7_append_k73 at hτ19
              refine va_put (D := E.1) (ci := 7) (v := .int v2) (ty := .int) (C := RX7) (T := TX7) (N := 2) hx hb hts iX7_append_X7 tyX7 tyX7_ok nmX7 hown hE.1 hP hD hS 0 rfl rfl 1 (by decide) (hts (.fieldLink RX7 15 "BandBoat$Script" "length" "I") (List.mem_of_getElem? (i := 2) rfl)) (fun _ h9 => h9) rfl (by decide +kernel) rfl rfl (Nat.le_of_ble_eq_true rfl) dX7_append_73 (fun H locs hP hD hS => ?_)
              have hP : va_P E.1 vwCl [xScript h_sc a_sc (upd sc 1 v2), xB E (a_sc 0) 300 (upd g_sc_bytes_19 (Int32.toNatClampNeg s_sc_1_19) (vp_nar .byte v1))] H := hP
              have hD : va_D A [xScript h_sc a_sc (upd sc 1 v2), xB E (a_sc 0) 300 (upd g_sc_bytes_19 (Int32.toNatClampNeg s_sc_1_19) (vp_nar .byte v1))] := hD
              refine lv_iinc (v := (x4_19 + (1 : Int32))) (lv' := [(4, .int (x4_19 + (1 : Int32))), (0, .ref h_sc), (1, .int n), (2, .long v)]) hx hb dX7_append_76 hl (k := 0) rfl rfl (by decide) rfl (fun ls hl => ?_)
              refine lv_goto (tgt := 19) hx hb dX7_append_79 (by decide) ?_
              have hρ : ρ = F_X7_append_l19 n v n_19 (x4_19 + (1 : Int32)) v2 (upd g_sc_bytes_19 (Int32.toNatClampNeg s_sc_1_19) (vp_nar .byte v1)) := by subst hτ19; exact hρ
              exact ih (x4_19 + (1 : Int32)) v2 (upd g_sc_bytes_19 (Int32.toNatClampNeg s_sc_1_19) (vp_nar .byte v1)) _ _ _ (cnt_lt c22 hM) hρ hP hD hS (lv_sub hl [0, 1, 2, 3] rfl)
    exact hL19 ((Int32.toInt n).toNat) (0 : Int32) (sc 1) sc_bytes _ _ _ (by show _ ≤ (0 : Int) + _; omega) hρ hP hD hS (lv_sub hl [0, 1, 2, 3] rfl)
  · rw [if_neg c11] at hρ
    refine lv_iconst (v := (0 : Int32)) hx hb dX7_append_14 (by decide) ?_
    exact hq (0 : Int32) ((sc 1), sc_bytes) _ _ _ _ dX7_append_15 rfl (hρ0.trans hρ) hP hD hS
def F_X1_add_k51 (ga : Nat → Int32) (ga_turns : Nat → Int32) (ga_ups : Nat → Int32) (ga_downs : Nat → Int32) (n : Int32) (up : Int32) (down : Int32) (v2 : Int32) : Int32 × Int32 × (Nat → Int32) × (Nat → Int32) × (Nat → Int32) := ((1 : Int32), v2, (upd ga_turns (Int32.toNatClampNeg (ga 3)) n), (upd ga_ups (Int32.toNatClampNeg (ga 3)) up), (upd ga_downs (Int32.toNatClampNeg (ga 3)) down))
def F_X1_add (ga : Nat → Int32) (ga_turns : Nat → Int32) (ga_ups : Nat → Int32) (ga_downs : Nat → Int32) (n : Int32) (up : Int32) (down : Int32) : Int32 × Int32 × (Nat → Int32) × (Nat → Int32) × (Nat → Int32) := (if (F_X9_within (ga 3) (0 : Int32) (5 : Int32)) = (0 : Int32) then ((0 : Int32), (ga 3), ga_turns, ga_ups, ga_downs) else F_X1_add_k51 ga ga_turns ga_ups ga_downs n up down ((ga 3) + (1 : Int32)))
theorem iX1_add_X1 : ∀ w ∈ wsX10, w ∈ wsX1_add := fun _ h => List.mem_cons_of_mem _ (List.mem_append_right _ h)
set_option maxHeartbeats 4000000 in
set_option maxRecDepth 100000 in
theorem c_X1_add (l : Launch) (E : wV) (h_ga : Nat) (a_ga : Nat → Nat) (ga : Nat → Int32) (ga_turns : Nat → Int32) (ga_ups : Nat → Int32) (ga_downs : Nat → Int32) (n : Int32) (up : Int32) (down : Int32) : MetI l yX1_add wsX1_add ({ frames := 1, cells := 0, slots := 0, locals := 22 } : Room) E ([.ref h_ga, .int n, .int up, .int down] : List Value) [xGauge h_ga a_ga ga, xI E (a_ga 0) 6 ga_turns, xI E (a_ga 1) 6 ga_ups, xI E (a_ga 2) 6 ga_downs] (fun (r : Int32) (u : Int32 × (Nat → Int32) × (Nat → Int32) × (Nat → Int32)) => F_X1_add ga ga_turns ga_ups ga_downs n up down = (r, u)) (fun (u : Int32 × (Nat → Int32) × (Nat → Int32) × (Nat → Int32)) => [xGauge h_ga a_ga (upd ga 3 u.1), xI E (a_ga 0) 6 u.2.1, xI E (a_ga 1) 6 u.2.2.1, xI E (a_ga 2) 6 u.2.2.2]) := by
  refine MetI.of (cc := cX1_add) (maxL := 4) (own := RX1) (by decide) rfl rfl (Nat.le_of_ble_eq_true rfl) ?_
  intro p e s m below meth c A Q ls cx hP hD hS hl hq
  obtain ⟨hx, hb, hml, hown, hts, hE, hA⟩ := id cx
  have hl : lv_has ls 4 [(0, .ref h_ga), (1, .int n), (2, .int up), (3, .int down)] := hl
  have hP : va_P E.1 vwCl [xGauge h_ga a_ga ga, xI E (a_ga 0) 6 ga_turns, xI E (a_ga 1) 6 ga_ups, xI E (a_ga 2) 6 ga_downs] s.heap := hP
  obtain ⟨ρ, hρ0⟩ : ∃ ρ, F_X1_add ga ga_turns ga_ups ga_downs n up down = ρ := ⟨_, rfl⟩
  have hρ := hρ0.symm
  unfold F_X1_add at hρ
  refine lv_aload_n hx hb dX1_add_0 rfl (lv_at hl 0 rfl) ?_
  refine va_get (D := E.1) (ci := 1) (v := .int (ga 3)) (C := RX1) (T := TX1) (N := 4) hx hb hts iX1_add_X1 hown hE.1 hP 0 rfl rfl 3 (by decide) (hts (.fieldLink RX1 21 "BandBoat$Gauge" "readings" "I") (List.mem_of_getElem? (i := 1) rfl)) (fun _ h9 => h9) rfl dX1_add_1 ?_
  refine lv_iconst (v := (0 : Int32)) hx hb dX1_add_4 (by decide) ?_
  refine lv_iconst (v := (5 : Int32)) hx hb dX1_add_5 (by decide) ?_
  refine kI (wc := []) (wr := [xGauge h_ga a_ga ga, xI E (a_ga 0) 6 ga_turns, xI E (a_ga 1) 6 ga_ups, xI E (a_ga 2) 6 ga_downs]) (wc' := (fun (_ : Unit) => [])) (wn := (fun (_ : Unit) => [xGauge h_ga a_ga ga, xI E (a_ga 0) 6 ga_turns, xI E (a_ga 1) 6 ga_ups, xI E (a_ga 2) 6 ga_downs])) (isC := []) (isR := [0, 1, 2, 3]) (is2 := [0, 1, 2, 3]) cx hP hD hS ⟨rfl, rfl, by decide, by decide, by decide, by decide, fun _ => rfl⟩ (rSN (As := [.int (ga 3), .int (0 : Int32), .int (5 : Int32)]) (rest := []) cx (c_X9_within l E (ga 3) (0 : Int32) (5 : Int32) _) (va_cnB 3 hts gX1_add_X9_within_n25 rfl rfl rfl (hE.nw 104 rfl) (hts (.initialized RX9) (List.mem_of_getElem? (i := 6) rfl)) (by decide +kernel) ⟨Nat.le_of_ble_eq_true rfl, Nat.le_of_ble_eq_true rfl⟩) (hts (.static yX9_within) (List.mem_of_getElem? (i := 5) rfl)) rfl hl.1 rfl (Nat.le_of_ble_eq_true rfl) dX1_add_6 ⟨Nat.zero_le _, Nat.zero_le _⟩) (fun r1 u H locs hw hP hD hS => ?_)
  subst hw
  refine lv_if_ne (tgt := 14) hx hb dX1_add_9 (by decide) (fun c9 => ?_) (fun c9 => ?_)
  · rw [if_neg c9] at hρ
    refine lv_aload_n hx hb dX1_add_14 rfl (lv_at hl 0 rfl) ?_
    refine va_get (D := E.1) (ci := 1) (v := .ref (a_ga 0)) (C := RX1) (T := TX1) (N := 4) hx hb hts iX1_add_X1 hown hE.1 hP 0 rfl rfl 0 (by decide) (hts (.fieldLink RX1 9 "BandBoat$Gauge" "turns" "[I") (List.mem_of_getElem? (i := 2) rfl)) (fun _ h9 => h9) rfl dX1_add_15 ?_
    refine lv_aload_n hx hb dX1_add_18 rfl (lv_at hl 0 rfl) ?_
    refine va_get (D := E.1) (ci := 1) (v := .int (ga 3)) (C := RX1) (T := TX1) (N := 4) hx hb hts iX1_add_X1 hown hE.1 hP 0 rfl rfl 3 (by decide) (hts (.fieldLink RX1 21 "BandBoat$Gauge" "readings" "I") (List.mem_of_getElem? (i := 1) rfl)) (fun _ h9 => h9) rfl dX1_add_19 ?_
    refine lv_iload_n hx hb dX1_add_22 rfl (lv_at hl 1 rfl) ?_
    refine ar_ist (k := (Int32.toNatClampNeg (ga 3))) (ws' := [xGauge h_ga a_ga ga, xI E (a_ga 0) 6 (upd ga_turns (Int32.toNatClampNeg (ga 3)) n), xI E (a_ga 1) 6 ga_ups, xI E (a_ga 2) 6 ga_downs]) hx hb hE hP hD hS 1 rfl (F_X9_within_in c9 rfl) rfl rfl dX1_add_23 (fun H locs hP hD hS => ?_)
    refine lv_aload_n hx hb dX1_add_24 rfl (lv_at hl 0 rfl) ?_
    refine va_get (D := E.1) (ci := 1) (v := .ref (a_ga 1)) (C := RX1) (T := TX1) (N := 4) hx hb hts iX1_add_X1 hown hE.1 hP 0 rfl rfl 1 (by decide) (hts (.fieldLink RX1 15 "BandBoat$Gauge" "ups" "[I") (List.mem_of_getElem? (i := 3) rfl)) (fun _ h9 => h9) rfl dX1_add_25 ?_
    refine lv_aload_n hx hb dX1_add_28 rfl (lv_at hl 0 rfl) ?_
    refine va_get (D := E.1) (ci := 1) (v := .int (ga 3)) (C := RX1) (T := TX1) (N := 4) hx hb hts iX1_add_X1 hown hE.1 hP 0 rfl rfl 3 (by decide) (hts (.fieldLink RX1 21 "BandBoat$Gauge" "readings" "I") (List.mem_of_getElem? (i := 1) rfl)) (fun _ h9 => h9) rfl dX1_add_29 ?_
    refine lv_iload_n hx hb dX1_add_32 rfl (lv_at hl 2 rfl) ?_
    refine ar_ist (k := (Int32.toNatClampNeg (ga 3))) (ws' := [xGauge h_ga a_ga ga, xI E (a_ga 0) 6 (upd ga_turns (Int32.toNatClampNeg (ga 3)) n), xI E (a_ga 1) 6 (upd ga_ups (Int32.toNatClampNeg (ga 3)) up), xI E (a_ga 2) 6 ga_downs]) hx hb hE hP hD hS 2 rfl (F_X9_within_in c9 rfl) rfl rfl dX1_add_33 (fun H locs hP hD hS => ?_)
    refine lv_aload_n hx hb dX1_add_34 rfl (lv_at hl 0 rfl) ?_
    refine va_get (D := E.1) (ci := 1) (v := .ref (a_ga 2)) (C := RX1) (T := TX1) (N := 4) hx hb hts iX1_add_X1 hown hE.1 hP 0 rfl rfl 2 (by decide) (hts (.fieldLink RX1 18 "BandBoat$Gauge" "downs" "[I") (List.mem_of_getElem? (i := 4) rfl)) (fun _ h9 => h9) rfl dX1_add_35 ?_
    refine lv_aload_n hx hb dX1_add_38 rfl (lv_at hl 0 rfl) ?_
    refine va_get (D := E.1) (ci := 1) (v := .int (ga 3)) (C := RX1) (T := TX1) (N := 4) hx hb hts iX1_add_X1 hown hE.1 hP 0 rfl rfl 3 (by decide) (hts (.fieldLink RX1 21 "BandBoat$Gauge" "readings" "I") (List.mem_of_getElem? (i := 1) rfl)) (fun _ h9 => h9) rfl dX1_add_39 ?_
    refine lv_iload_n hx hb dX1_add_42 rfl (lv_at hl 3 rfl) ?_
    refine ar_ist (k := (Int32.toNatClampNeg (ga 3))) (ws' := [xGauge h_ga a_ga ga, xI E (a_ga 0) 6 (upd ga_turns (Int32.toNatClampNeg (ga 3)) n), xI E (a_ga 1) 6 (upd ga_ups (Int32.toNatClampNeg (ga 3)) up), xI E (a_ga 2) 6 (upd ga_downs (Int32.toNatClampNeg (ga 3)) down)]) hx hb hE hP hD hS 3 rfl (F_X9_within_in c9 rfl) rfl rfl dX1_add_43 (fun H locs hP hD hS => ?_)
    refine lv_aload_n hx hb dX1_add_44 rfl (lv_at hl 0 rfl) ?_
    refine lv_dup hx hb dX1_add_45 rfl ?_
    refine va_get (D := E.1) (ci := 1) (v := .int (ga 3)) (C := RX1) (T := TX1) (N := 4) hx hb hts iX1_add_X1 hown hE.1 hP 0 rfl rfl 3 (by decide) (hts (.fieldLink RX1 21 "BandBoat$Gauge" "readings" "I") (List.mem_of_getElem? (i := 1) rfl)) (fun _ h9 => h9) rfl dX1_add_46 ?_
    refine lv_iconst (v := (1 : Int32)) hx hb dX1_add_49 (by decide) ?_
    refine lv_iadd hx hb dX1_add_50 ?_
    refine lv_topi (fun v2 ev2 => ?_)
    have hρ : ρ = F_X1_add_k51 ga ga_turns ga_ups ga_downs n up down v2 := by rw [ev2]; exact hρ
    unfold F_X1_add_k51 at hρ
    refine va_put (D := E.1) (ci := 1) (v := .int v2) (ty := .int) (C := RX1) (T := TX1) (N := 4) hx hb hts iX1_add_X1 tyX1 tyX1_ok nmX1 hown hE.1 hP hD hS 0 rfl rfl 3 (by decide) (hts (.fieldLink RX1 21 "BandBoat$Gauge" "readings" "I") (List.mem_of_getElem? (i := 1) rfl)) (fun _ h9 => h9) rfl (by decide +kernel) rfl rfl (Nat.le_of_ble_eq_true rfl) dX1_add_51 (fun H locs hP hD hS => ?_)
    have hP : va_P E.1 vwCl [xGauge h_ga a_ga (upd ga 3 v2), xI E (a_ga 0) 6 (upd ga_turns (Int32.toNatClampNeg (ga 3)) n), xI E (a_ga 1) 6 (upd ga_ups (Int32.toNatClampNeg (ga 3)) up), xI E (a_ga 2) 6 (upd ga_downs (Int32.toNatClampNeg (ga 3)) down)] H := hP
    have hD : va_D A [xGauge h_ga a_ga (upd ga 3 v2), xI E (a_ga 0) 6 (upd ga_turns (Int32.toNatClampNeg (ga 3)) n), xI E (a_ga 1) 6 (upd ga_ups (Int32.toNatClampNeg (ga 3)) up), xI E (a_ga 2) 6 (upd ga_downs (Int32.toNatClampNeg (ga 3)) down)] := hD
    refine lv_iconst (v := (1 : Int32)) hx hb dX1_add_54 (by decide) ?_
    exact hq (1 : Int32) (v2, (upd ga_turns (Int32.toNatClampNeg (ga 3)) n), (upd ga_ups (Int32.toNatClampNeg (ga 3)) up), (upd ga_downs (Int32.toNatClampNeg (ga 3)) down)) _ _ _ _ dX1_add_55 rfl (hρ0.trans hρ) hP hD hS
  · rw [if_pos c9] at hρ
    refine lv_iconst (v := (0 : Int32)) hx hb dX1_add_12 (by decide) ?_
    exact hq (0 : Int32) ((ga 3), ga_turns, ga_ups, ga_downs) _ _ _ _ dX1_add_13 rfl (hρ0.trans hρ) hP hD hS
def F_X1_agrees_x3  : Int32 := (1 : Int32)
def F_X1_agrees_j66 (e_ : Int32) (x4_3 : Int32) (y0_66 : Int32) : (Int32) ⊕ (Int32) := (if (mabs y0_66) ≤ e_ then Sum.inl (x4_3 + (1 : Int32)) else Sum.inr (0 : Int32))
def F_X1_agrees_k29 (ga_ups : Nat → Int32) (ga_downs : Nat → Int32) (bd : Nat → Int32) (e_ : Int32) (down : Int32) (x4_3 : Int32) (v1 : Int32) : (Int32) ⊕ (Int32) := (if down = (0 : Int32) then F_X1_agrees_j66 e_ x4_3 ((F_X0_wound bd v1) - (ga_ups (Int32.toNatClampNeg x4_3))) else F_X1_agrees_j66 e_ x4_3 ((F_X0_loosed bd v1) - (ga_downs (Int32.toNatClampNeg x4_3))))
def F_X1_agrees_b3 (ga : Nat → Int32) (ga_turns : Nat → Int32) (ga_ups : Nat → Int32) (ga_downs : Nat → Int32) (bd : Nat → Int32) (e_ : Int32) (down : Int32) (x4_3 : Int32) : (Int32) ⊕ (Int32) := (if (ga 3) ≤ x4_3 then Sum.inr (F_X1_agrees_x3) else (if (6 : Int32) ≤ x4_3 then Sum.inr (F_X1_agrees_x3) else F_X1_agrees_k29 ga_ups ga_downs bd e_ down x4_3 ((100 : Int32) * (ga_turns (Int32.toNatClampNeg x4_3)))))
def F_X1_agrees_l3 (ga : Nat → Int32) (ga_turns : Nat → Int32) (ga_ups : Nat → Int32) (ga_downs : Nat → Int32) (bd : Nat → Int32) (e_ : Int32) (down : Int32) : Nat → (Int32) → Int32
  | 0, x4_3 => F_X1_agrees_x3
  | n_3 + 1, x4_3 => match F_X1_agrees_b3 ga ga_turns ga_ups ga_downs bd e_ down x4_3 with
    | Sum.inl c_x4_3 => F_X1_agrees_l3 ga ga_turns ga_ups ga_downs bd e_ down n_3 c_x4_3
    | Sum.inr r_ => r_
def F_X1_agrees (ga : Nat → Int32) (ga_turns : Nat → Int32) (ga_ups : Nat → Int32) (ga_downs : Nat → Int32) (bd : Nat → Int32) (e_ : Int32) (down : Int32) : Int32 := F_X1_agrees_l3 ga ga_turns ga_ups ga_downs bd e_ down (6) (0 : Int32)
theorem iX1_agrees_X1 : ∀ w ∈ wsX10, w ∈ wsX1_agrees := fun _ h => List.mem_cons_of_mem _ (List.mem_append_left _ (List.mem_append_right _ h))
set_option maxHeartbeats 4000000 in
set_option maxRecDepth 100000 in
theorem c_X1_agrees (l : Launch) (E : wV) (h_ga : Nat) (h_bd : Nat) (a_ga : Nat → Nat) (ga : Nat → Int32) (ga_turns : Nat → Int32) (ga_ups : Nat → Int32) (ga_downs : Nat → Int32) (bd : Nat → Int32) (e_ : Int32) (down : Int32) : MetI l yX1_agrees wsX1_agrees ({ frames := 2, cells := 0, slots := 0, locals := 43 } : Room) E ([.ref h_ga, .ref h_bd, .int e_, .int down] : List Value) [xGauge h_ga a_ga ga, xI E (a_ga 0) 6 ga_turns, xI E (a_ga 1) 6 ga_ups, xI E (a_ga 2) 6 ga_downs, xBand h_bd bd] (fun (r : Int32) (_ : Unit) => r = F_X1_agrees ga ga_turns ga_ups ga_downs bd e_ down) (fun (_ : Unit) => [xGauge h_ga a_ga ga, xI E (a_ga 0) 6 ga_turns, xI E (a_ga 1) 6 ga_ups, xI E (a_ga 2) 6 ga_downs, xBand h_bd bd]) := by
  refine MetI.of (cc := cX1_agrees) (maxL := 7) (own := RX1) (by decide) rfl rfl (Nat.le_of_ble_eq_true rfl) ?_
  intro p e s m below meth c A Q ls cx hP hD hS hl hq
  obtain ⟨hx, hb, hml, hown, hts, hE, hA⟩ := id cx
  have hl : lv_has ls 7 [(0, .ref h_ga), (1, .ref h_bd), (2, .int e_), (3, .int down)] := hl
  have hP : va_P E.1 vwCl [xGauge h_ga a_ga ga, xI E (a_ga 0) 6 ga_turns, xI E (a_ga 1) 6 ga_ups, xI E (a_ga 2) 6 ga_downs, xBand h_bd bd] s.heap := hP
  obtain ⟨ρ, hρ0⟩ : ∃ ρ, F_X1_agrees ga ga_turns ga_ups ga_downs bd e_ down = ρ := ⟨_, rfl⟩
  have hρ := hρ0.symm
  unfold F_X1_agrees at hρ
  refine lv_iconst (v := (0 : Int32)) hx hb dX1_agrees_0 (by decide) ?_
  refine lv_istore (lv' := [(4, .int (0 : Int32)), (0, .ref h_ga), (1, .ref h_bd), (2, .int e_), (3, .int down)]) hx hb dX1_agrees_1 hl (by decide) rfl (fun ls hl => ?_)
  have hX3 : ∀ (x4_3 : Int32) (H : Heap) (locs : List Loc) (ls : Array Slot), ρ = F_X1_agrees_x3 → va_P E.1 vwCl [xGauge h_ga a_ga ga, xI E (a_ga 0) 6 ga_turns, xI E (a_ga 1) 6 ga_ups, xI E (a_ga 2) 6 ga_downs, xBand h_bd bd] H → va_D A [xGauge h_ga a_ga ga, xI E (a_ga 0) 6 ga_turns, xI E (a_ga 1) 6 ga_ups, xI E (a_ga 2) 6 ga_downs, xBand h_bd bd] → va_S A s.heap H locs → lv_has ls 7 [(4, .int x4_3), (0, .ref h_ga), (1, .ref h_bd), (2, .int e_), (3, .int down)] → W p l e ({ frames := 2, cells := 0, slots := 0, locals := 43 } : Room) s m ([.ref h_ga, .ref h_bd, .int e_, .int down] : List Value).toArray below meth c H locs 0 0 Q (F0 m 85 ls []) := by
    intro x4_3 H locs ls hρ hP hD hS hl
    unfold F_X1_agrees_x3 at hρ
    refine lv_iconst (v := (1 : Int32)) hx hb dX1_agrees_85 (by decide) ?_
    exact hq (1 : Int32) () _ _ _ _ dX1_agrees_86 rfl (hρ0.trans hρ).symm hP hD hS
  have hL3 : ∀ (n_3 : Nat) (x4_3 : Int32) (H : Heap) (locs : List Loc) (ls : Array Slot), (((6 : Int32) : Int32).toInt ≤ (x4_3).toInt + (n_3 : Nat)) ∧ (0 ≤ (x4_3).toInt) → ρ = F_X1_agrees_l3 ga ga_turns ga_ups ga_downs bd e_ down n_3 x4_3 → va_P E.1 vwCl [xGauge h_ga a_ga ga, xI E (a_ga 0) 6 ga_turns, xI E (a_ga 1) 6 ga_ups, xI E (a_ga 2) 6 ga_downs, xBand h_bd bd] H → va_D A [xGauge h_ga a_ga ga, xI E (a_ga 0) 6 ga_turns, xI E (a_ga 1) 6 ga_ups, xI E (a_ga 2) 6 ga_downs, xBand h_bd bd] → va_S A s.heap H locs → lv_has ls 7 [(4, .int x4_3), (0, .ref h_ga), (1, .ref h_bd), (2, .int e_), (3, .int down)] → W p l e ({ frames := 2, cells := 0, slots := 0, locals := 43 } : Room) s m ([.ref h_ga, .ref h_bd, .int e_, .int down] : List Value).toArray below meth c H locs 0 0 Q (F0 m 3 ls []) := by
    intro n_3
    induction n_3 with
    | zero =>
      intro x4_3 H locs ls hM hρ hP hD hS hl
      have hM3 := hM
      rw [F_X1_agrees_l3] at hρ
      refine lv_iload hx hb dX1_agrees_3 (lv_at hl 0 rfl) ?_
      refine lv_aload_n hx hb dX1_agrees_5 rfl (lv_at hl 1 rfl) ?_
      refine va_get (D := E.1) (ci := 1) (v := .int (ga 3)) (C := RX1) (T := TX1) (N := 4) hx hb hts iX1_agrees_X1 hown hE.1 hP 0 rfl rfl 3 (by decide) (hts (.fieldLink RX1 21 "BandBoat$Gauge" "readings" "I") (List.mem_of_getElem? (i := 1) rfl)) (fun _ h9 => h9) rfl dX1_agrees_6 ?_
      refine lv_icmp_ge (tgt := 85) hx hb dX1_agrees_9 (by decide) (fun c9 => ?_) (fun c9 => ?_)
      · exact hX3 x4_3 _ _ _ hρ hP hD hS (lv_sub hl [0, 1, 2, 3, 4] rfl)
      · refine lv_iload hx hb dX1_agrees_12 (lv_at hl 0 rfl) ?_
        refine lv_bipush (v := (6 : Int32)) hx hb dX1_agrees_14 (by decide) ?_
        refine lv_icmp_ge (tgt := 85) hx hb dX1_agrees_16 (by decide) (fun c16 => ?_) (fun c16 => ?_)
        · exact hX3 x4_3 _ _ _ hρ hP hD hS (lv_sub hl [0, 1, 2, 3, 4] rfl)
        · exact (cnt_lt0 c16 hM.1).elim
    | succ n_3 ih =>
      intro x4_3 H locs ls hM hρ hP hD hS hl
      have hM3 := hM
      rw [F_X1_agrees_l3] at hρ
      obtain ⟨τ3, hτ03⟩ : ∃ τ, F_X1_agrees_b3 ga ga_turns ga_ups ga_downs bd e_ down x4_3 = τ := ⟨_, rfl⟩
      rw [hτ03] at hρ
      have hτ3 := hτ03.symm
      unfold F_X1_agrees_b3 at hτ3
      refine lv_iload hx hb dX1_agrees_3 (lv_at hl 0 rfl) ?_
      refine lv_aload_n hx hb dX1_agrees_5 rfl (lv_at hl 1 rfl) ?_
      refine va_get (D := E.1) (ci := 1) (v := .int (ga 3)) (C := RX1) (T := TX1) (N := 4) hx hb hts iX1_agrees_X1 hown hE.1 hP 0 rfl rfl 3 (by decide) (hts (.fieldLink RX1 21 "BandBoat$Gauge" "readings" "I") (List.mem_of_getElem? (i := 1) rfl)) (fun _ h9 => h9) rfl dX1_agrees_6 ?_
      refine lv_icmp_ge (tgt := 85) hx hb dX1_agrees_9 (by decide) (fun c9 => ?_) (fun c9 => ?_)
      · rw [if_pos c9] at hτ3
        have hρ : ρ = F_X1_agrees_x3 := by subst hτ3; exact hρ
        exact hX3 x4_3 _ _ _ hρ hP hD hS (lv_sub hl [0, 1, 2, 3, 4] rfl)
      · rw [if_neg c9] at hτ3
        refine lv_iload hx hb dX1_agrees_12 (lv_at hl 0 rfl) ?_
        refine lv_bipush (v := (6 : Int32)) hx hb dX1_agrees_14 (by decide) ?_
        refine lv_icmp_ge (tgt := 85) hx hb dX1_agrees_16 (by decide) (fun c16 => ?_) (fun c16 => ?_)
        · rw [if_pos c16] at hτ3
          have hρ : ρ = F_X1_agrees_x3 := by subst hτ3; exact hρ
          exact hX3 x4_3 _ _ _ hρ hP hD hS (lv_sub hl [0, 1, 2, 3, 4] rfl)
        · rw [if_neg c16] at hτ3
          refine lv_bipush (v := (100 : Int32)) hx hb dX1_agrees_19 (by decide) ?_
          refine lv_aload_n hx hb dX1_agrees_21 rfl (lv_at hl 1 rfl) ?_
          refine va_get (D := E.1) (ci := 1) (v := .ref (a_ga 0)) (C := RX1) (T := TX1) (N := 4) hx hb hts iX1_agrees_X1 hown hE.1 hP 0 rfl rfl 0 (by decide) (hts (.fieldLink RX1 9 "BandBoat$Gauge" "turns" "[I") (List.mem_of_getElem? (i := 2) rfl)) (fun _ h9 => h9) rfl dX1_agrees_22 ?_
          refine lv_iload hx hb dX1_agrees_25 (lv_at hl 0 rfl) ?_
          refine ar_ild (k := (Int32.toNatClampNeg x4_3)) (v := (ga_turns (Int32.toNatClampNeg x4_3))) hx hb hE hP 1 rfl (inb_c hM.2 c16 rfl) rfl rfl dX1_agrees_27 ?_
          refine lv_imul hx hb dX1_agrees_28 ?_
          refine lv_topi (fun v1 ev1 => ?_)
          have hτ3 : τ3 = F_X1_agrees_k29 ga_ups ga_downs bd e_ down x4_3 v1 := by rw [ev1]; exact hτ3
          unfold F_X1_agrees_k29 at hτ3
          refine lv_istore (lv' := [(5, .int v1), (4, .int x4_3), (0, .ref h_ga), (1, .ref h_bd), (2, .int e_), (3, .int down)]) hx hb dX1_agrees_29 hl (by decide) rfl (fun ls hl => ?_)
          refine lv_iload_n hx hb dX1_agrees_31 rfl (lv_at hl 5 rfl) ?_
          have hJ66 : ∀ (y0_66 : Int32) (H : Heap) (locs : List Loc) (ls : Array Slot), τ3 = F_X1_agrees_j66 e_ x4_3 y0_66 → va_P E.1 vwCl [xGauge h_ga a_ga ga, xI E (a_ga 0) 6 ga_turns, xI E (a_ga 1) 6 ga_ups, xI E (a_ga 2) 6 ga_downs, xBand h_bd bd] H → va_D A [xGauge h_ga a_ga ga, xI E (a_ga 0) 6 ga_turns, xI E (a_ga 1) 6 ga_ups, xI E (a_ga 2) 6 ga_downs, xBand h_bd bd] → va_S A s.heap H locs → lv_has ls 7 [(5, .int v1), (4, .int x4_3), (0, .ref h_ga), (1, .ref h_bd), (2, .int e_), (3, .int down)] → W p l e ({ frames := 2, cells := 0, slots := 0, locals := 43 } : Room) s m ([.ref h_ga, .ref h_bd, .int e_, .int down] : List Value).toArray below meth c H locs 0 0 Q (F0 m 66 ls [.int y0_66]) := by
            intro y0_66 H locs ls hτ3 hP hD hS hl
            unfold F_X1_agrees_j66 at hτ3
            refine lv_istore (lv' := [(6, .int y0_66), (5, .int v1), (4, .int x4_3), (0, .ref h_ga), (1, .ref h_bd), (2, .int e_), (3, .int down)]) hx hb dX1_agrees_66 hl (by decide) rfl (fun ls hl => ?_)
            refine lv_iload hx hb dX1_agrees_68 (lv_at hl 0 rfl) ?_
            refine va_mabs hx hb (hml.trans hl.1.symm) hown (hts (.methodLink RX1 38 Lib.Math.abs.name) (List.mem_of_getElem? (i := 5) rfl)) (hts (.static Lib.Math.abs.name) (List.mem_of_getElem? (i := 6) rfl)) (hts (.initialized "java/lang/Math") (List.mem_of_getElem? (i := 7) rfl)) (hts (.code Lib.Math.abs.name Lib.Math.abs.code 1 (some .int)) (List.mem_of_getElem? (i := 8) rfl)) (by decide) (Nat.le_of_ble_eq_true rfl) (Nat.zero_le _) (Nat.zero_le _) dX1_agrees_70 ?_
            refine lv_iload_n hx hb dX1_agrees_73 rfl (lv_at hl 5 rfl) ?_
            refine lv_icmp_le (tgt := 79) hx hb dX1_agrees_74 (by decide) (fun c74 => ?_) (fun c74 => ?_)
            · rw [if_pos c74] at hτ3
              refine lv_iinc (v := (x4_3 + (1 : Int32))) (lv' := [(4, .int (x4_3 + (1 : Int32))), (6, .int y0_66), (5, .int v1), (0, .ref h_ga), (1, .ref h_bd), (2, .int e_), (3, .int down)]) hx hb dX1_agrees_79 hl (k := 2) rfl rfl (by decide) rfl (fun ls hl => ?_)
              refine lv_goto (tgt := 3) hx hb dX1_agrees_82 (by decide) ?_
              have hρ : ρ = F_X1_agrees_l3 ga ga_turns ga_ups ga_downs bd e_ down n_3 (x4_3 + (1 : Int32)) := by subst hτ3; exact hρ
              exact ih (x4_3 + (1 : Int32)) _ _ _ ⟨cnt_lt c16 hM.1, cnt_lt_pos c16 hM.2⟩ hρ hP hD hS (lv_sub hl [0, 3, 4, 5, 6] rfl)
            · rw [if_neg c74] at hτ3
              refine lv_iconst (v := (0 : Int32)) hx hb dX1_agrees_77 (by decide) ?_
              have hρ : ρ = (0 : Int32) := by subst hτ3; exact hρ
              exact hq (0 : Int32) () _ _ _ _ dX1_agrees_78 rfl (hρ0.trans hρ).symm hP hD hS
          refine lv_if_eq (tgt := 52) hx hb dX1_agrees_32 (by decide) (fun c32 => ?_) (fun c32 => ?_)
          · rw [if_pos c32] at hτ3
            refine lv_aload_n hx hb dX1_agrees_52 rfl (lv_at hl 3 rfl) ?_
            refine lv_iload hx hb dX1_agrees_53 (lv_at hl 0 rfl) ?_
            refine kI (wc := [xBand h_bd bd]) (wr := [xGauge h_ga a_ga ga, xI E (a_ga 0) 6 ga_turns, xI E (a_ga 1) 6 ga_ups, xI E (a_ga 2) 6 ga_downs]) (wc' := (fun (_ : Unit) => [xBand h_bd bd])) (wn := (fun (_ : Unit) => [xGauge h_ga a_ga ga, xI E (a_ga 0) 6 ga_turns, xI E (a_ga 1) 6 ga_ups, xI E (a_ga 2) 6 ga_downs, xBand h_bd bd])) (isC := [4]) (isR := [0, 1, 2, 3]) (is2 := [0, 1, 2, 3, 4]) cx hP hD hS ⟨rfl, rfl, by decide, by decide, by decide, by decide, fun _ => rfl⟩ (rVN (As := [.int v1]) (rest := []) (C := RX0) (q0 := 0) (ci := 0) cx (c_X0_wound l E h_bd bd v1 _) (va_cnB 1 hts gX1_agrees_X0_wound_n35 rfl rfl rfl (hE.nw 107 rfl) (hts (.initialized RX0) (List.mem_of_getElem? (i := 10) rfl)) (by decide +kernel) ⟨Nat.le_of_ble_eq_true rfl, Nat.le_of_ble_eq_true rfl⟩) (hts (.instanceMethod yX0_wound) (List.mem_of_getElem? (i := 16) rfl)) (hts (.selects RX0 yX0_wound yX0_wound) (List.mem_of_getElem? (i := 17) rfl)) rfl rfl rfl rfl hl.1 rfl (Nat.le_of_ble_eq_true rfl) dX1_agrees_55 ⟨Nat.zero_le _, Nat.zero_le _⟩) (fun r2 u H locs hw hP hD hS => ?_)
            subst hw
            refine lv_aload_n hx hb dX1_agrees_58 rfl (lv_at hl 2 rfl) ?_
            refine va_get (D := E.1) (ci := 1) (v := .ref (a_ga 1)) (C := RX1) (T := TX1) (N := 4) hx hb hts iX1_agrees_X1 hown hE.1 hP 0 rfl rfl 1 (by decide) (hts (.fieldLink RX1 15 "BandBoat$Gauge" "ups" "[I") (List.mem_of_getElem? (i := 4) rfl)) (fun _ h9 => h9) rfl dX1_agrees_59 ?_
            refine lv_iload hx hb dX1_agrees_62 (lv_at hl 1 rfl) ?_
            refine ar_ild (k := (Int32.toNatClampNeg x4_3)) (v := (ga_ups (Int32.toNatClampNeg x4_3))) hx hb hE hP 2 rfl (inb_c hM.2 c16 rfl) rfl rfl dX1_agrees_64 ?_
            refine lv_isub hx hb dX1_agrees_65 ?_
            exact hJ66 ((F_X0_wound bd v1) - (ga_ups (Int32.toNatClampNeg x4_3))) _ _ _ hτ3 hP hD hS (lv_sub hl [0, 1, 2, 3, 4, 5] rfl)
          · rw [if_neg c32] at hτ3
            refine lv_aload_n hx hb dX1_agrees_35 rfl (lv_at hl 3 rfl) ?_
            refine lv_iload hx hb dX1_agrees_36 (lv_at hl 0 rfl) ?_
            refine kI (wc := [xBand h_bd bd]) (wr := [xGauge h_ga a_ga ga, xI E (a_ga 0) 6 ga_turns, xI E (a_ga 1) 6 ga_ups, xI E (a_ga 2) 6 ga_downs]) (wc' := (fun (_ : Unit) => [xBand h_bd bd])) (wn := (fun (_ : Unit) => [xGauge h_ga a_ga ga, xI E (a_ga 0) 6 ga_turns, xI E (a_ga 1) 6 ga_ups, xI E (a_ga 2) 6 ga_downs, xBand h_bd bd])) (isC := [4]) (isR := [0, 1, 2, 3]) (is2 := [0, 1, 2, 3, 4]) cx hP hD hS ⟨rfl, rfl, by decide, by decide, by decide, by decide, fun _ => rfl⟩ (rVN (As := [.int v1]) (rest := []) (C := RX0) (q0 := 0) (ci := 0) cx (c_X0_loosed l E h_bd bd v1 _) (va_cnB 1 hts gX1_agrees_X0_loosed_n29 rfl rfl rfl (hE.nw 106 rfl) (hts (.initialized RX0) (List.mem_of_getElem? (i := 10) rfl)) (by decide +kernel) ⟨Nat.le_of_ble_eq_true rfl, Nat.le_of_ble_eq_true rfl⟩) (hts (.instanceMethod yX0_loosed) (List.mem_of_getElem? (i := 9) rfl)) (hts (.selects RX0 yX0_loosed yX0_loosed) (List.mem_of_getElem? (i := 11) rfl)) rfl rfl rfl rfl hl.1 rfl (Nat.le_of_ble_eq_true rfl) dX1_agrees_38 ⟨Nat.zero_le _, Nat.zero_le _⟩) (fun r3 u H locs hw hP hD hS => ?_)
            subst hw
            refine lv_aload_n hx hb dX1_agrees_41 rfl (lv_at hl 2 rfl) ?_
            refine va_get (D := E.1) (ci := 1) (v := .ref (a_ga 2)) (C := RX1) (T := TX1) (N := 4) hx hb hts iX1_agrees_X1 hown hE.1 hP 0 rfl rfl 2 (by decide) (hts (.fieldLink RX1 18 "BandBoat$Gauge" "downs" "[I") (List.mem_of_getElem? (i := 3) rfl)) (fun _ h9 => h9) rfl dX1_agrees_42 ?_
            refine lv_iload hx hb dX1_agrees_45 (lv_at hl 1 rfl) ?_
            refine ar_ild (k := (Int32.toNatClampNeg x4_3)) (v := (ga_downs (Int32.toNatClampNeg x4_3))) hx hb hE hP 3 rfl (inb_c hM.2 c16 rfl) rfl rfl dX1_agrees_47 ?_
            refine lv_isub hx hb dX1_agrees_48 ?_
            refine lv_goto (tgt := 66) hx hb dX1_agrees_49 (by decide) ?_
            exact hJ66 ((F_X0_loosed bd v1) - (ga_downs (Int32.toNatClampNeg x4_3))) _ _ _ hτ3 hP hD hS (lv_sub hl [0, 1, 2, 3, 4, 5] rfl)
  exact hL3 (6) (0 : Int32) _ _ _ (by decide) hρ hP hD hS (lv_sub hl [0, 1, 2, 3, 4] rfl)
