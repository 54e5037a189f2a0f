def F_X10_in (v : Int32) (lo : Int32) (hi : Int32) : Int32 := (if v < lo then (0 : Int32) else (if hi < v then (0 : Int32) else (1 : Int32)))
set_option maxHeartbeats 4000000 in
set_option maxRecDepth 100000 in
theorem c_X10_in (l : Launch) (E : wV) (v : Int32) (lo : Int32) (hi : Int32) : MetI l yX10_in wsX10_in ({ frames := 0, cells := 0, slots := 0, locals := 0 } : Room) E ([.int v, .int lo, .int hi] : List Value) [] (fun (r : Int32) (_ : Unit) => r = F_X10_in v lo hi) (fun (_ : Unit) => []) := by
  refine MetI.of (cc := cX10_in) (maxL := 3) (own := RX10) (by decide) rfl rfl (Nat.le_of_ble_eq_true rfl) ?_
  intro p e s m below meth c A Q ls cx hP hD hS hl hq
  obtain ⟨hx, hb, hml, hown, hts, hE, hA⟩ := id cx
  have hl : lv_has ls 3 [(0, .int v), (1, .int lo), (2, .int hi)] := hl
  have hP : va_P E.1 vwCl [] s.heap := hP
  obtain ⟨ρ, hρ0⟩ : ∃ ρ, F_X10_in v lo hi = ρ := ⟨_, rfl⟩
  have hρ := hρ0.symm
  unfold F_X10_in at hρ
  refine lv_iload_n hx hb dX10_in_0 rfl (lv_at hl 0 rfl) ?_
  refine lv_iload_n hx hb dX10_in_1 rfl (lv_at hl 1 rfl) ?_
  refine lv_icmp_lt (tgt := 14) hx hb dX10_in_2 (by decide) (fun c2 => ?_) (fun c2 => ?_)
  · rw [if_pos c2] at hρ
    refine lv_iconst (v := (0 : Int32)) hx hb dX10_in_14 (by decide) ?_
    exact hq (0 : Int32) () _ _ _ _ dX10_in_15 rfl (hρ0.trans hρ).symm hP hD hS
  · rw [if_neg c2] at hρ
    refine lv_iload_n hx hb dX10_in_5 rfl (lv_at hl 0 rfl) ?_
    refine lv_iload_n hx hb dX10_in_6 rfl (lv_at hl 2 rfl) ?_
    refine lv_icmp_gt (tgt := 14) hx hb dX10_in_7 (by decide) (fun c7 => ?_) (fun c7 => ?_)
    · rw [if_pos c7] at hρ
      refine lv_iconst (v := (0 : Int32)) hx hb dX10_in_14 (by decide) ?_
      exact hq (0 : Int32) () _ _ _ _ dX10_in_15 rfl (hρ0.trans hρ).symm hP hD hS
    · rw [if_neg c7] at hρ
      refine lv_iconst (v := (1 : Int32)) hx hb dX10_in_10 (by decide) ?_
      refine lv_goto (tgt := 15) hx hb dX10_in_11 (by decide) ?_
      exact hq (1 : Int32) () _ _ _ _ dX10_in_15 rfl (hρ0.trans hρ).symm hP hD hS
theorem F_X10_in_b (x lo hi : Int32) : F_X10_in x lo hi = 0 ∨ F_X10_in x lo hi = 1 := by
  unfold F_X10_in; split
  · exact Or.inl rfl
  · split
    · exact Or.inl rfl
    · exact Or.inr rfl
theorem F_X10_in_ge {x lo hi : Int32} (c : ¬ F_X10_in x lo hi = 0) {a b : Int} (hl : lo.toInt = a) (hh : hi.toInt = b) : a ≤ x.toInt ∧ x.toInt ≤ b := by
  unfold F_X10_in at c
  split at c
  · exact absurd rfl c
  · rename_i h1
    split at c
    · exact absurd rfl c
    · rename_i h2
      rw [Int32.lt_iff_toInt_lt] at h1 h2
      omega
theorem b_idx {f k : Int32} (hf : 0 ≤ f.toInt ∧ f.toInt ≤ 30) (h0 : 0 ≤ k.toInt) (c : ¬ (30 : Int32) ≤ k) : vp_in (f + k) 60 := by
  have h := lt_nle c
  have h3 : (30 : Int32).toInt = 30 := rfl
  have e := i_add (a := f) (b := k) (by omega) (by omega)
  exact inb_i (by omega) (by omega)
theorem i_m1 : (-1 : Int32).toInt = -1 := rfl
theorem i_z : (0 : Int32).toInt = 0 := rfl
theorem wr_entry {n m : Int32} (c : ¬ F_X10_in n (1 : Int32) (8 : Int32) = 0) (ht : 0 ≤ m.toInt ∧ m.toInt ≤ 300) (cf : (m + n) ≤ (300 : Int32)) {k : Int32} (ek : k = n - (1 : Int32)) : k.toInt < (n.toInt.toNat : Nat) ∧ 0 ≤ m.toInt ∧ m.toInt + k.toInt + 1 ≤ 300 ∧ -1 ≤ k.toInt := by
  have h := F_X10_in_ge c (a := 1) (b := 8) rfl rfl
  have h1 : k.toInt = n.toInt - 1 := by rw [ek, i_sub (by rw [i_one]; omega) (by rw [i_one]; omega), i_one]
  have h2 := i_add (a := m) (b := n) (by omega) (by omega)
  rw [Int32.le_iff_toInt_le, h2] at cf
  have h3 : (300 : Int32).toInt = 300 := rfl
  omega
theorem wr_step {k t v : Int32} {n : Nat} (c : ¬ k < 0) (h : k.toInt < (n + 1 : Nat) ∧ 0 ≤ t.toInt ∧ t.toInt + k.toInt + 1 ≤ 300 ∧ -1 ≤ k.toInt) (ev : v = t + (1 : Int32)) : (k + (-1 : Int32)).toInt < (n : Nat) ∧ 0 ≤ v.toInt ∧ v.toInt + (k + (-1 : Int32)).toInt + 1 ≤ 300 ∧ -1 ≤ (k + (-1 : Int32)).toInt := by
  have h0 := i_nn c
  have e1 : (k + (-1 : Int32)).toInt = k.toInt - 1 := by rw [i_add (by rw [i_m1]; omega) (by rw [i_m1]; omega), i_m1]; rfl
  have e2 : v.toInt = t.toInt + 1 := by rw [ev, i_add (by rw [i_one]; omega) (by rw [i_one]; omega), i_one]
  omega
def F_X10_begins_j54 (from_ : Int32) (x2_2 : Int32) (g_bt_2 : Nat → Int32) (y0_54 : Int32) : (Int32 × (Nat → Int32)) ⊕ (Int32 × (Nat → Int32)) := Sum.inl ((x2_2 + (1 : Int32)), (upd g_bt_2 (Int32.toNatClampNeg (from_ + x2_2)) y0_54))
def F_X10_begins_j37 (from_ : Int32) (x2_2 : Int32) (g_bt_2 : Nat → Int32) : (Int32 × (Nat → Int32)) ⊕ (Int32 × (Nat → Int32)) := F_X10_begins_j54 from_ x2_2 g_bt_2 (10 : Int32)
def F_X10_begins_b2 (from_ : Int32) (x2_2 : Int32) (g_bt_2 : Nat → Int32) : (Int32 × (Nat → Int32)) ⊕ (Int32 × (Nat → Int32)) := (if (30 : Int32) ≤ x2_2 then Sum.inr (x2_2, g_bt_2) else (if x2_2 = (19 : Int32) then F_X10_begins_j54 from_ x2_2 g_bt_2 (4 : Int32) else (if x2_2 = (20 : Int32) then F_X10_begins_j37 from_ x2_2 g_bt_2 else (if x2_2 = (22 : Int32) then F_X10_begins_j37 from_ x2_2 g_bt_2 else (if x2_2 = (21 : Int32) then F_X10_begins_j54 from_ x2_2 g_bt_2 (20 : Int32) else F_X10_begins_j54 from_ x2_2 g_bt_2 (0 : Int32))))))
def F_X10_begins_l2 (from_ : Int32) : Nat → (Int32) → (Nat → Int32) → Int32 × (Nat → Int32)
  | 0, x2_2, g_bt_2 => (x2_2, g_bt_2)
  | n_2 + 1, x2_2, g_bt_2 => match F_X10_begins_b2 from_ x2_2 g_bt_2 with
    | Sum.inl (c_x2_2, c_g_bt_2) => F_X10_begins_l2 from_ n_2 c_x2_2 c_g_bt_2
    | Sum.inr r_ => r_
def F_X10_begins_x2 (bg_bt_2 : Nat → Int32) : (Nat → Int32) := bg_bt_2
def F_X10_begins (bt : Nat → Int32) (from_ : Int32) : (Nat → Int32) := (match F_X10_begins_l2 from_ (30) (0 : Int32) bt with | (bx2_2, bg_bt_2) => F_X10_begins_x2 bg_bt_2)
theorem iX10_begins_X10 : ∀ w ∈ wsX100, w ∈ wsX10_begins := fun _ h => List.mem_cons_of_mem _ (List.mem_append_right _ h)
set_option maxHeartbeats 4000000 in
set_option maxRecDepth 100000 in
theorem c_X10_begins (l : Launch) (E : wV) (h_mm : Nat) (a_mm : Nat → Nat) (mm : Nat → Int32) (bt : Nat → Int32) (from_ : Int32) (hf : 0 ≤ from_.toInt ∧ from_.toInt ≤ 30) : MetV l yX10_begins wsX10_begins ({ frames := 0, cells := 0, slots := 0, locals := 0 } : Room) E ([.ref h_mm, .int from_] : List Value) [xModel h_mm a_mm mm, xI E (a_mm 5) 60 bt] (fun (u : (Nat → Int32)) => F_X10_begins bt from_ = u) (fun (u : (Nat → Int32)) => [xModel h_mm a_mm mm, xI E (a_mm 5) 60 u]) := by
  refine MetV.of (cc := cX10_begins) (maxL := 3) (own := RX10) (by decide) rfl rfl (Nat.le_of_ble_eq_true rfl) ?_
  intro p e s m below meth c A Q ls cx hP hD hS hl hq
  obtain ⟨hx, hb, hml, hown, hts, hE, hA⟩ := id cx
  have hl : lv_has ls 3 [(0, .ref h_mm), (1, .int from_)] := hl
  have hP : va_P E.1 vwCl [xModel h_mm a_mm mm, xI E (a_mm 5) 60 bt] s.heap := hP
  obtain ⟨ρ, hρ0⟩ : ∃ ρ, F_X10_begins bt from_ = ρ := ⟨_, rfl⟩
  have hρ := hρ0.symm
  unfold F_X10_begins at hρ
  refine lv_iconst (v := (0 : Int32)) hx hb dX10_begins_0 (by decide) ?_
  refine lv_istore_n (lv' := [(2, .int (0 : Int32)), (0, .ref h_mm), (1, .int from_)]) hx hb dX10_begins_1 rfl hl (by decide) rfl (fun ls hl => ?_)
  have hL2 : ∀ (n_2 : Nat) (x2_2 : Int32) (g_bt_2 : Nat → Int32) (H : Heap) (locs : List Loc) (ls : Array Slot), (((30 : Int32) : Int32).toInt ≤ (x2_2).toInt + (n_2 : Nat)) ∧ (0 ≤ (x2_2).toInt) → va_P E.1 vwCl [xModel h_mm a_mm mm, xI E (a_mm 5) 60 g_bt_2] H → va_D A [xModel h_mm a_mm mm, xI E (a_mm 5) 60 g_bt_2] → va_S A s.heap H locs → lv_has ls 3 [(2, .int x2_2), (0, .ref h_mm), (1, .int from_)] → (∀ (ox2_2 : Int32) (og_bt_2 : Nat → Int32) (H : Heap) (locs : List Loc) (ls : Array Slot), F_X10_begins_l2 from_ n_2 x2_2 g_bt_2 = (ox2_2, og_bt_2) → va_P E.1 vwCl [xModel h_mm a_mm mm, xI E (a_mm 5) 60 og_bt_2] H → va_D A [xModel h_mm a_mm mm, xI E (a_mm 5) 60 og_bt_2] → va_S A s.heap H locs → lv_has ls 3 [(2, .int ox2_2), (0, .ref h_mm), (1, .int from_)] → W p l e ({ frames := 0, cells := 0, slots := 0, locals := 0 } : Room) s m ([.ref h_mm, .int from_] : List Value).toArray below meth c H locs 0 0 Q (F0 m 61 ls [])) → W p l e ({ frames := 0, cells := 0, slots := 0, locals := 0 } : Room) s m ([.ref h_mm, .int from_] : List Value).toArray below meth c H locs 0 0 Q (F0 m 2 ls []) := by
    intro n_2
    induction n_2 with
    | zero =>
      intro x2_2 g_bt_2 H locs ls hM hP hD hS hl hK
      have hM2 := hM
      obtain ⟨σ2, hσ02⟩ : ∃ σ, F_X10_begins_l2 from_ 0 x2_2 g_bt_2 = σ := ⟨_, rfl⟩
      have hσ2 := hσ02.symm
      rw [F_X10_begins_l2] at hσ2
      refine lv_iload_n hx hb dX10_begins_2 rfl (lv_at hl 0 rfl) ?_
      refine lv_bipush (v := (30 : Int32)) hx hb dX10_begins_3 (by decide) ?_
      refine lv_icmp_ge (tgt := 61) hx hb dX10_begins_5 (by decide) (fun c5 => ?_) (fun c5 => ?_)
      · exact hK x2_2 g_bt_2 _ _ _ (hσ02.trans hσ2) hP hD hS (lv_sub hl [0, 1, 2] rfl)
      · exact (cnt_lt0 c5 hM.1).elim
    | succ n_2 ih =>
      intro x2_2 g_bt_2 H locs ls hM hP hD hS hl hK
      have hM2 := hM
      obtain ⟨σ2, hσ02⟩ : ∃ σ, F_X10_begins_l2 from_ (n_2 + 1) x2_2 g_bt_2 = σ := ⟨_, rfl⟩
      have hσ2 := hσ02.symm
      rw [F_X10_begins_l2] at hσ2
      obtain ⟨τ2, hτ02⟩ : ∃ τ, F_X10_begins_b2 from_ x2_2 g_bt_2 = τ := ⟨_, rfl⟩
      rw [hτ02] at hσ2
      have hτ2 := hτ02.symm
      unfold F_X10_begins_b2 at hτ2
      refine lv_iload_n hx hb dX10_begins_2 rfl (lv_at hl 0 rfl) ?_
      refine lv_bipush (v := (30 : Int32)) hx hb dX10_begins_3 (by decide) ?_
      refine lv_icmp_ge (tgt := 61) hx hb dX10_begins_5 (by decide) (fun c5 => ?_) (fun c5 => ?_)
      · rw [if_pos c5] at hτ2
        have hσ2 : σ2 = (x2_2, g_bt_2) := by subst hτ2; exact hσ2
        exact hK x2_2 g_bt_2 _ _ _ (hσ02.trans hσ2) hP hD hS (lv_sub hl [0, 1, 2] rfl)
      · rw [if_neg c5] at hτ2
        refine lv_aload_n hx hb dX10_begins_8 rfl (lv_at hl 1 rfl) ?_
        refine va_get (D := E.1) (ci := 10) (v := .ref (a_mm 5)) (C := RX10) (T := TX10) (N := 27) hx hb hts iX10_begins_X10 hown hE.1 hP 0 rfl rfl 5 (by decide) (hts (.fieldLink RX10 13 "BandBoatModel" "boat" "[I") (List.mem_of_getElem? (i := 1) rfl)) (fun _ h9 => h9) rfl dX10_begins_9 ?_
        refine lv_iload_n hx hb dX10_begins_12 rfl (lv_at hl 2 rfl) ?_
        refine lv_iload_n hx hb dX10_begins_13 rfl (lv_at hl 0 rfl) ?_
        refine lv_iadd hx hb dX10_begins_14 ?_
        refine lv_iload_n hx hb dX10_begins_15 rfl (lv_at hl 0 rfl) ?_
        refine lv_bipush (v := (19 : Int32)) hx hb dX10_begins_16 (by decide) ?_
        have hJ54 : ∀ (y0_54 : Int32) (H : Heap) (locs : List Loc) (ls : Array Slot), τ2 = F_X10_begins_j54 from_ x2_2 g_bt_2 y0_54 → va_P E.1 vwCl [xModel h_mm a_mm mm, xI E (a_mm 5) 60 g_bt_2] H → va_D A [xModel h_mm a_mm mm, xI E (a_mm 5) 60 g_bt_2] → va_S A s.heap H locs → lv_has ls 3 [(2, .int x2_2), (0, .ref h_mm), (1, .int from_)] → W p l e ({ frames := 0, cells := 0, slots := 0, locals := 0 } : Room) s m ([.ref h_mm, .int from_] : List Value).toArray below meth c H locs 0 0 Q (F0 m 54 ls [.int y0_54, .int (from_ + x2_2), .ref (a_mm 5)]) := by
          intro y0_54 H locs ls hτ2 hP hD hS hl
          unfold F_X10_begins_j54 at hτ2
          refine ar_ist (k := (Int32.toNatClampNeg (from_ + x2_2))) (ws' := [xModel h_mm a_mm mm, xI E (a_mm 5) 60 (upd g_bt_2 (Int32.toNatClampNeg (from_ + x2_2)) y0_54)]) hx hb hE hP hD hS 1 rfl (b_idx hf hM.2 c5) rfl rfl dX10_begins_54 (fun H locs hP hD hS => ?_)
          refine lv_iinc (v := (x2_2 + (1 : Int32))) (lv' := [(2, .int (x2_2 + (1 : Int32))), (0, .ref h_mm), (1, .int from_)]) hx hb dX10_begins_55 hl (k := 0) rfl rfl (by decide) rfl (fun ls hl => ?_)
          refine lv_goto (tgt := 2) hx hb dX10_begins_58 (by decide) ?_
          have hσ2 : σ2 = F_X10_begins_l2 from_ n_2 (x2_2 + (1 : Int32)) (upd g_bt_2 (Int32.toNatClampNeg (from_ + x2_2)) y0_54) := by subst hτ2; exact hσ2
          exact ih (x2_2 + (1 : Int32)) (upd g_bt_2 (Int32.toNatClampNeg (from_ + x2_2)) y0_54) _ _ _ ⟨cnt_lt c5 hM.1, cnt_lt_pos c5 hM.2⟩ hP hD hS (lv_sub hl [0, 1, 2] rfl) (fun ox2_2 og_bt_2 H locs ls he => hK ox2_2 og_bt_2 H locs ls (hσ02.trans (hσ2.trans he)))
        refine lv_icmp_ne (tgt := 25) hx hb dX10_begins_18 (by decide) (fun c18 => ?_) (fun c18 => ?_)
        · rw [if_neg c18] at hτ2
          refine lv_iload_n hx hb dX10_begins_25 rfl (lv_at hl 0 rfl) ?_
          refine lv_bipush (v := (20 : Int32)) hx hb dX10_begins_26 (by decide) ?_
          have hJ37 : ∀ (H : Heap) (locs : List Loc) (ls : Array Slot), τ2 = F_X10_begins_j37 from_ x2_2 g_bt_2 → va_P E.1 vwCl [xModel h_mm a_mm mm, xI E (a_mm 5) 60 g_bt_2] H → va_D A [xModel h_mm a_mm mm, xI E (a_mm 5) 60 g_bt_2] → va_S A s.heap H locs → lv_has ls 3 [(2, .int x2_2), (0, .ref h_mm), (1, .int from_)] → W p l e ({ frames := 0, cells := 0, slots := 0, locals := 0 } : Room) s m ([.ref h_mm, .int from_] : List Value).toArray below meth c H locs 0 0 Q (F0 m 37 ls [.int (from_ + x2_2), .ref (a_mm 5)]) := by
            intro  H locs ls hτ2 hP hD hS hl
            unfold F_X10_begins_j37 at hτ2
            refine lv_bipush (v := (10 : Int32)) hx hb dX10_begins_37 (by decide) ?_
            refine lv_goto (tgt := 54) hx hb dX10_begins_39 (by decide) ?_
            exact hJ54 (10 : Int32) _ _ _ hτ2 hP hD hS (lv_sub hl [0, 1, 2] rfl)
          refine lv_icmp_eq (tgt := 37) hx hb dX10_begins_28 (by decide) (fun c28 => ?_) (fun c28 => ?_)
          · rw [if_pos c28] at hτ2
            exact hJ37 _ _ _ hτ2 hP hD hS (lv_sub hl [0, 1, 2] rfl)
          · rw [if_neg c28] at hτ2
            refine lv_iload_n hx hb dX10_begins_31 rfl (lv_at hl 0 rfl) ?_
            refine lv_bipush (v := (22 : Int32)) hx hb dX10_begins_32 (by decide) ?_
            refine lv_icmp_ne (tgt := 42) hx hb dX10_begins_34 (by decide) (fun c34 => ?_) (fun c34 => ?_)
            · rw [if_neg c34] at hτ2
              refine lv_iload_n hx hb dX10_begins_42 rfl (lv_at hl 0 rfl) ?_
              refine lv_bipush (v := (21 : Int32)) hx hb dX10_begins_43 (by decide) ?_
              refine lv_icmp_ne (tgt := 53) hx hb dX10_begins_45 (by decide) (fun c45 => ?_) (fun c45 => ?_)
              · rw [if_neg c45] at hτ2
                refine lv_iconst (v := (0 : Int32)) hx hb dX10_begins_53 (by decide) ?_
                exact hJ54 (0 : Int32) _ _ _ hτ2 hP hD hS (lv_sub hl [0, 1, 2] rfl)
              · rw [if_pos c45] at hτ2
                refine lv_bipush (v := (20 : Int32)) hx hb dX10_begins_48 (by decide) ?_
                refine lv_goto (tgt := 54) hx hb dX10_begins_50 (by decide) ?_
                exact hJ54 (20 : Int32) _ _ _ hτ2 hP hD hS (lv_sub hl [0, 1, 2] rfl)
            · rw [if_pos c34] at hτ2
              exact hJ37 _ _ _ hτ2 hP hD hS (lv_sub hl [0, 1, 2] rfl)
        · rw [if_pos c18] at hτ2
          refine lv_iconst (v := (4 : Int32)) hx hb dX10_begins_21 (by decide) ?_
          refine lv_goto (tgt := 54) hx hb dX10_begins_22 (by decide) ?_
          exact hJ54 (4 : Int32) _ _ _ hτ2 hP hD hS (lv_sub hl [0, 1, 2] rfl)
  refine hL2 (30) (0 : Int32) bt _ _ _ (by decide) hP hD hS (lv_sub hl [0, 1, 2] rfl) ?_
  intro bx2_2 bg_bt_2 H locs ls he hP hD hS hl
  rw [he] at hρ
  have hρ : ρ = F_X10_begins_x2 bg_bt_2 := hρ
  unfold F_X10_begins_x2 at hρ
  exact hq bg_bt_2 _ _ _ _ dX10_begins_61 (hρ0.trans hρ) hP hD hS
def F_X10_write_k70 (x4_37 : Int32) (s_mm_2_37 : Int32) (g_tx_37 : Nat → Int32) (v3 : Int32) (v4 : Int32) : (Int32 × Int32 × (Nat → Int32)) ⊕ (Int32 × Int32 × (Nat → Int32)) := Sum.inl ((x4_37 + (-1 : Int32)), v4, (upd g_tx_37 (Int32.toNatClampNeg s_mm_2_37) v3))
def F_X10_write_k62 (x4_37 : Int32) (s_mm_2_37 : Int32) (g_tx_37 : Nat → Int32) (v3 : Int32) : (Int32 × Int32 × (Nat → Int32)) ⊕ (Int32 × Int32 × (Nat → Int32)) := F_X10_write_k70 x4_37 s_mm_2_37 g_tx_37 v3 (s_mm_2_37 + (1 : Int32))
def F_X10_write_b37 (v : Int64) (x4_37 : Int32) (s_mm_2_37 : Int32) (g_tx_37 : Nat → Int32) : (Int32 × Int32 × (Nat → Int32)) ⊕ (Int32 × Int32 × (Nat → Int32)) := (if x4_37 < (0 : Int32) then Sum.inr (x4_37, s_mm_2_37, g_tx_37) else F_X10_write_k62 x4_37 s_mm_2_37 g_tx_37 (Int64.toInt32 ((v >>> ((Int32.toInt64 ((8 : Int32) * x4_37)) &&& 63)) &&& (255 : Int64))))
def F_X10_write_l37 (v : Int64) : Nat → (Int32) → (Int32) → (Nat → Int32) → Int32 × Int32 × (Nat → Int32)
  | 0, x4_37, s_mm_2_37, g_tx_37 => (x4_37, s_mm_2_37, g_tx_37)
  | n_37 + 1, x4_37, s_mm_2_37, g_tx_37 => match F_X10_write_b37 v x4_37 s_mm_2_37 g_tx_37 with
    | Sum.inl (c_x4_37, c_s_mm_2_37, c_g_tx_37) => F_X10_write_l37 v n_37 c_x4_37 c_s_mm_2_37 c_g_tx_37
    | Sum.inr r_ => r_
def F_X10_write_x37 (bs_mm_2_37 : Int32) (bg_tx_37 : Nat → Int32) : Int32 × Int32 × Int32 × (Nat → Int32) := (bs_mm_2_37, (0 : Int32), bs_mm_2_37, bg_tx_37)
def F_X10_write_k35 (mm : Nat → Int32) (tx : Nat → Int32) (n : Int32) (v : Int64) (v2 : Int32) : Int32 × Int32 × Int32 × (Nat → Int32) := (match F_X10_write_l37 v ((Int32.toInt n).toNat) v2 (mm 2) tx with | (bx4_37, bs_mm_2_37, bg_tx_37) => F_X10_write_x37 bs_mm_2_37 bg_tx_37)
def F_X10_write (mm : Nat → Int32) (tx : Nat → Int32) (n : Int32) (v : Int64) : Int32 × Int32 × Int32 × (Nat → Int32) := (if (F_X10_in n (1 : Int32) (8 : Int32)) = (0 : Int32) then ((-1 : Int32), (0 : Int32), (mm 2), tx) else (if ((mm 2) + n) ≤ (300 : Int32) then F_X10_write_k35 mm tx n v (n - (1 : Int32)) else ((-3 : Int32), (0 : Int32), (mm 2), tx)))
theorem iX10_write_X10 : ∀ w ∈ wsX100, w ∈ wsX10_write := fun _ h => List.mem_cons_of_mem _ (List.mem_append_right _ h)
set_option maxHeartbeats 4000000 in
set_option maxRecDepth 100000 in
theorem c_X10_write (l : Launch) (E : wV) (h_mm : Nat) (a_mm : Nat → Nat) (mm : Nat → Int32) (tx : Nat → Int32) (n : Int32) (v : Int64) (ht : 0 ≤ (mm 2).toInt ∧ (mm 2).toInt ≤ 300) : MetI l yX10_write wsX10_write ({ frames := 1, cells := 0, slots := 0, locals := 22 } : Room) E ([.ref h_mm, .int n, .long v] : List Value) [xModel h_mm a_mm mm, xI E (a_mm 1) 300 tx] (fun (r : Int32) (u : Int32 × Int32 × (Nat → Int32)) => F_X10_write mm tx n v = (r, u)) (fun (u : Int32 × Int32 × (Nat → Int32)) => [xModel h_mm a_mm (upd (upd mm 0 u.1) 2 u.2.1), xI E (a_mm 1) 300 u.2.2]) := by
  refine MetI.of (cc := cX10_write) (maxL := 5) (own := RX10) (by decide) rfl rfl (Nat.le_of_ble_eq_true rfl) ?_
  intro p e s m below meth c A Q ls cx hP hD hS hl hq
  obtain ⟨hx, hb, hml, hown, hts, hE, hA⟩ := id cx
  have hl : lv_has ls 5 [(0, .ref h_mm), (1, .int n), (2, .long v)] := hl
  have hP : va_P E.1 vwCl [xModel h_mm a_mm mm, xI E (a_mm 1) 300 tx] s.heap := hP
  obtain ⟨ρ, hρ0⟩ : ∃ ρ, F_X10_write mm tx n v = ρ := ⟨_, rfl⟩
  have hρ := hρ0.symm
  unfold F_X10_write at hρ
  refine lv_aload_n hx hb dX10_write_0 rfl (lv_at hl 0 rfl) ?_
  refine lv_iconst (v := (0 : Int32)) hx hb dX10_write_1 (by decide) ?_
  refine va_put (D := E.1) (ci := 10) (v := .int (0 : Int32)) (ty := .int) (C := RX10) (T := TX10) (N := 27) hx hb hts iX10_write_X10 tyX10 tyX10_ok nmX10 hown hE.1 hP hD hS 0 rfl rfl 0 (by decide) (hts (.fieldLink RX10 41 "BandBoatModel" "thrown" "I") (List.mem_of_getElem? (i := 1) rfl)) (fun _ h9 => h9) rfl (by decide +kernel) rfl rfl (Nat.le_of_ble_eq_true rfl) dX10_write_2 (fun H locs hP hD hS => ?_)
  have hP : va_P E.1 vwCl [xModel h_mm a_mm (upd mm 0 (0 : Int32)), xI E (a_mm 1) 300 tx] H := hP
  have hD : va_D A [xModel h_mm a_mm (upd mm 0 (0 : Int32)), xI E (a_mm 1) 300 tx] := hD
  refine lv_iload_n hx hb dX10_write_5 rfl (lv_at hl 1 rfl) ?_
  refine lv_iconst (v := (1 : Int32)) hx hb dX10_write_6 (by decide) ?_
  refine lv_bipush (v := (8 : Int32)) hx hb dX10_write_7 (by decide) ?_
  refine kI (wc := []) (wr := [xModel h_mm a_mm (upd mm 0 (0 : Int32)), xI E (a_mm 1) 300 tx]) (wc' := (fun (_ : Unit) => [])) (wn := (fun (_ : Unit) => [xModel h_mm a_mm (upd mm 0 (0 : Int32)), xI E (a_mm 1) 300 tx])) (isC := []) (isR := [0, 1]) (is2 := [0, 1]) cx hP hD hS ⟨rfl, rfl, by decide, by decide, by decide, by decide, fun _ => rfl⟩ (rS (As := [.int n, .int (1 : Int32), .int (8 : Int32)]) (rest := []) cx (c_X10_in l E n (1 : Int32) (8 : Int32) _) (va_cwS 3 hts gX10_write_X10_in rfl rfl rfl (by decide +kernel) ⟨Nat.le_of_ble_eq_true rfl, Nat.le_of_ble_eq_true rfl⟩) rfl hl.1 rfl (Nat.le_of_ble_eq_true rfl) dX10_write_9 ⟨Nat.zero_le _, Nat.zero_le _⟩) (fun r1 u H locs hw hP hD hS => ?_)
  subst hw
  refine lv_if_ne (tgt := 17) hx hb dX10_write_12 (by decide) (fun c12 => ?_) (fun c12 => ?_)
  · rw [if_neg c12] at hρ
    refine lv_aload_n hx hb dX10_write_17 rfl (lv_at hl 0 rfl) ?_
    refine va_get (D := E.1) (ci := 10) (v := .int (mm 2)) (C := RX10) (T := TX10) (N := 27) hx hb hts iX10_write_X10 hown hE.1 hP 0 rfl rfl 2 (by decide) (hts (.fieldLink RX10 49 "BandBoatModel" "typed" "I") (List.mem_of_getElem? (i := 2) rfl)) (fun _ h9 => h9) rfl dX10_write_18 ?_
    refine lv_iload_n hx hb dX10_write_21 rfl (lv_at hl 1 rfl) ?_
    refine lv_iadd hx hb dX10_write_22 ?_
    refine lv_sipush (v := (300 : Int32)) hx hb dX10_write_23 (by decide) ?_
    refine lv_icmp_le (tgt := 32) hx hb dX10_write_26 (by decide) (fun c26 => ?_) (fun c26 => ?_)
    · rw [if_pos c26] at hρ
      refine lv_iload_n hx hb dX10_write_32 rfl (lv_at hl 1 rfl) ?_
      refine lv_iconst (v := (1 : Int32)) hx hb dX10_write_33 (by decide) ?_
      refine lv_isub hx hb dX10_write_34 ?_
      refine lv_topi (fun v2 ev2 => ?_)
      have hρ : ρ = F_X10_write_k35 mm tx n v v2 := by rw [ev2]; exact hρ
      unfold F_X10_write_k35 at hρ
      refine lv_istore (lv' := [(4, .int v2), (0, .ref h_mm), (1, .int n), (2, .long v)]) hx hb dX10_write_35 hl (by decide) rfl (fun ls hl => ?_)
      have hL37 : ∀ (n_37 : Nat) (x4_37 : Int32) (s_mm_2_37 : Int32) (g_tx_37 : Nat → Int32) (H : Heap) (locs : List Loc) (ls : Array Slot), ((x4_37).toInt < (n_37 : Nat) ∧ 0 ≤ (s_mm_2_37).toInt ∧ (s_mm_2_37).toInt + (x4_37).toInt + 1 ≤ 300 ∧ -1 ≤ (x4_37).toInt) → va_P E.1 vwCl [xModel h_mm a_mm (upd (upd mm 0 (0 : Int32)) 2 s_mm_2_37), xI E (a_mm 1) 300 g_tx_37] H → va_D A [xModel h_mm a_mm (upd (upd mm 0 (0 : Int32)) 2 s_mm_2_37), xI E (a_mm 1) 300 g_tx_37] → va_S A s.heap H locs → lv_has ls 5 [(4, .int x4_37), (0, .ref h_mm), (1, .int n), (2, .long v)] → (∀ (ox4_37 : Int32) (os_mm_2_37 : Int32) (og_tx_37 : Nat → Int32) (H : Heap) (locs : List Loc) (ls : Array Slot), F_X10_write_l37 v n_37 x4_37 s_mm_2_37 g_tx_37 = (ox4_37, os_mm_2_37, og_tx_37) → va_P E.1 vwCl [xModel h_mm a_mm (upd (upd mm 0 (0 : Int32)) 2 os_mm_2_37), xI E (a_mm 1) 300 og_tx_37] H → va_D A [xModel h_mm a_mm (upd (upd mm 0 (0 : Int32)) 2 os_mm_2_37), xI E (a_mm 1) 300 og_tx_37] → va_S A s.heap H locs → lv_has ls 5 [(4, .int ox4_37), (0, .ref h_mm), (1, .int n), (2, .long v)] → W p l e ({ frames := 1, cells := 0, slots := 0, locals := 22 } : Room) s m ([.ref h_mm, .int n, .long v] : List Value).toArray below meth c H locs 0 0 Q (F0 m 79 ls [])) → W p l e ({ frames := 1, cells := 0, slots := 0, locals := 22 } : Room) s m ([.ref h_mm, .int n, .long v] : List Value).toArray below meth c H locs 0 0 Q (F0 m 37 ls []) := by
        intro n_37
        induction n_37 with
        | zero =>
          intro x4_37 s_mm_2_37 g_tx_37 H locs ls hM hP hD hS hl hK
          have hM37 := hM
          obtain ⟨σ37, hσ037⟩ : ∃ σ, F_X10_write_l37 v 0 x4_37 s_mm_2_37 g_tx_37 = σ := ⟨_, rfl⟩
          have hσ37 := hσ037.symm
          rw [F_X10_write_l37] at hσ37
          refine lv_iload hx hb dX10_write_37 (lv_at hl 0 rfl) ?_
          refine lv_if_lt (tgt := 79) hx hb dX10_write_39 (by decide) (fun c39 => ?_) (fun c39 => ?_)
          · exact hK x4_37 s_mm_2_37 g_tx_37 _ _ _ (hσ037.trans hσ37) hP hD hS (lv_sub hl [0, 1, 2, 3] rfl)
          · exact ((by have := i_nn c39; omega : False)).elim
        | succ n_37 ih =>
          intro x4_37 s_mm_2_37 g_tx_37 H locs ls hM hP hD hS hl hK
          have hM37 := hM
          obtain ⟨σ37, hσ037⟩ : ∃ σ, F_X10_write_l37 v (n_37 + 1) x4_37 s_mm_2_37 g_tx_37 = σ := ⟨_, rfl⟩
          have hσ37 := hσ037.symm
          rw [F_X10_write_l37] at hσ37
          obtain ⟨τ37, hτ037⟩ : ∃ τ, F_X10_write_b37 v x4_37 s_mm_2_37 g_tx_37 = τ := ⟨_, rfl⟩
          rw [hτ037] at hσ37
          have hτ37 := hτ037.symm
          unfold F_X10_write_b37 at hτ37
          refine lv_iload hx hb dX10_write_37 (lv_at hl 0 rfl) ?_
          refine lv_if_lt (tgt := 79) hx hb dX10_write_39 (by decide) (fun c39 => ?_) (fun c39 => ?_)
          · rw [if_pos c39] at hτ37
            have hσ37 : σ37 = (x4_37, s_mm_2_37, g_tx_37) := by subst hτ37; exact hσ37
            exact hK x4_37 s_mm_2_37 g_tx_37 _ _ _ (hσ037.trans hσ37) hP hD hS (lv_sub hl [0, 1, 2, 3] rfl)
          · rw [if_neg c39] at hτ37
            refine lv_aload_n hx hb dX10_write_42 rfl (lv_at hl 1 rfl) ?_
            refine va_get (D := E.1) (ci := 10) (v := .ref (a_mm 1)) (C := RX10) (T := TX10) (N := 27) hx hb hts iX10_write_X10 hown hE.1 hP 0 rfl rfl 1 (by decide) (hts (.fieldLink RX10 7 "BandBoatModel" "text" "[I") (List.mem_of_getElem? (i := 3) rfl)) (fun _ h9 => h9) rfl dX10_write_43 ?_
            refine lv_aload_n hx hb dX10_write_46 rfl (lv_at hl 1 rfl) ?_
            refine va_get (D := E.1) (ci := 10) (v := .int s_mm_2_37) (C := RX10) (T := TX10) (N := 27) hx hb hts iX10_write_X10 hown hE.1 hP 0 rfl rfl 2 (by decide) (hts (.fieldLink RX10 49 "BandBoatModel" "typed" "I") (List.mem_of_getElem? (i := 2) rfl)) (fun _ h9 => h9) rfl dX10_write_47 ?_
            refine lv_lload_n hx hb dX10_write_50 rfl (lv_at hl 3 rfl) ?_
            refine lv_bipush (v := (8 : Int32)) hx hb dX10_write_51 (by decide) ?_
            refine lv_iload hx hb dX10_write_53 (lv_at hl 0 rfl) ?_
            refine lv_imul hx hb dX10_write_55 ?_
            refine lv_lshr hx hb dX10_write_56 rfl ?_
            refine lv_ldc2 (own := RX10) (v := (255 : Int64)) hx hb hown (hts (.constantLong RX10 52 (255)) (List.mem_of_getElem? (i := 4) rfl)) dX10_write_57 ?_
            refine lv_land hx hb dX10_write_60 ?_
            refine lv_l2i hx hb dX10_write_61 rfl ?_
            refine lv_topi (fun v3 ev3 => ?_)
            have hτ37 : τ37 = F_X10_write_k62 x4_37 s_mm_2_37 g_tx_37 v3 := by rw [ev3]; exact hτ37
            unfold F_X10_write_k62 at hτ37
            refine ar_ist (k := (Int32.toNatClampNeg s_mm_2_37)) (ws' := [xModel h_mm a_mm (upd (upd mm 0 (0 : Int32)) 2 s_mm_2_37), xI E (a_mm 1) 300 (upd g_tx_37 (Int32.toNatClampNeg s_mm_2_37) v3)]) hx hb hE hP hD hS 1 rfl (inb_i hM.2.1 (by have := i_nn c39; omega)) rfl rfl dX10_write_62 (fun H locs hP hD hS => ?_)
            refine lv_aload_n hx hb dX10_write_63 rfl (lv_at hl 1 rfl) ?_
            refine lv_dup hx hb dX10_write_64 rfl ?_
            refine va_get (D := E.1) (ci := 10) (v := .int s_mm_2_37) (C := RX10) (T := TX10) (N := 27) hx hb hts iX10_write_X10 hown hE.1 hP 0 rfl rfl 2 (by decide) (hts (.fieldLink RX10 49 "BandBoatModel" "typed" "I") (List.mem_of_getElem? (i := 2) rfl)) (fun _ h9 => h9) rfl dX10_write_65 ?_
            refine lv_iconst (v := (1 : Int32)) hx hb dX10_write_68 (by decide) ?_
            refine lv_iadd hx hb dX10_write_69 ?_
            refine lv_topi (fun v4 ev4 => ?_)
            have hτ37 : τ37 = F_X10_write_k70 x4_37 s_mm_2_37 g_tx_37 v3 v4 := by rw [ev4]; exact hτ37
            unfold F_X10_write_k70 at hτ37
            refine va_put (D := E.1) (ci := 10) (v := .int v4) (ty := .int) (C := RX10) (T := TX10) (N := 27) hx hb hts iX10_write_X10 tyX10 tyX10_ok nmX10 hown hE.1 hP hD hS 0 rfl rfl 2 (by decide) (hts (.fieldLink RX10 49 "BandBoatModel" "typed" "I") (List.mem_of_getElem? (i := 2) rfl)) (fun _ h9 => h9) rfl (by decide +kernel) rfl rfl (Nat.le_of_ble_eq_true rfl) dX10_write_70 (fun H locs hP hD hS => ?_)
            have hP : va_P E.1 vwCl [xModel h_mm a_mm (upd (upd mm 0 (0 : Int32)) 2 v4), xI E (a_mm 1) 300 (upd g_tx_37 (Int32.toNatClampNeg s_mm_2_37) v3)] H := hP
            have hD : va_D A [xModel h_mm a_mm (upd (upd mm 0 (0 : Int32)) 2 v4), xI E (a_mm 1) 300 (upd g_tx_37 (Int32.toNatClampNeg s_mm_2_37) v3)] := hD
            refine lv_iinc (v := (x4_37 + (-1 : Int32))) (lv' := [(4, .int (x4_37 + (-1 : Int32))), (0, .ref h_mm), (1, .int n), (2, .long v)]) hx hb dX10_write_73 hl (k := 0) rfl rfl (by decide) rfl (fun ls hl => ?_)
            refine lv_goto (tgt := 37) hx hb dX10_write_76 (by decide) ?_
            have hσ37 : σ37 = F_X10_write_l37 v n_37 (x4_37 + (-1 : Int32)) v4 (upd g_tx_37 (Int32.toNatClampNeg s_mm_2_37) v3) := by subst hτ37; exact hσ37
            exact ih (x4_37 + (-1 : Int32)) v4 (upd g_tx_37 (Int32.toNatClampNeg s_mm_2_37) v3) _ _ _ (wr_step c39 hM ev4) hP hD hS (lv_sub hl [0, 1, 2, 3] rfl) (fun ox4_37 os_mm_2_37 og_tx_37 H locs ls he => hK ox4_37 os_mm_2_37 og_tx_37 H locs ls (hσ037.trans (hσ37.trans he)))
      refine hL37 ((Int32.toInt n).toNat) v2 (mm 2) tx _ _ _ (wr_entry c12 ht c26 ev2) hP hD hS (lv_sub hl [0, 1, 2, 3] rfl) ?_
      intro bx4_37 bs_mm_2_37 bg_tx_37 H locs ls he hP hD hS hl
      rw [he] at hρ
      have hρ : ρ = F_X10_write_x37 bs_mm_2_37 bg_tx_37 := hρ
      unfold F_X10_write_x37 at hρ
      refine lv_aload_n hx hb dX10_write_79 rfl (lv_at hl 1 rfl) ?_
      refine va_get (D := E.1) (ci := 10) (v := .int bs_mm_2_37) (C := RX10) (T := TX10) (N := 27) hx hb hts iX10_write_X10 hown hE.1 hP 0 rfl rfl 2 (by decide) (hts (.fieldLink RX10 49 "BandBoatModel" "typed" "I") (List.mem_of_getElem? (i := 2) rfl)) (fun _ h9 => h9) rfl dX10_write_80 ?_
      exact hq bs_mm_2_37 ((0 : Int32), bs_mm_2_37, bg_tx_37) _ _ _ _ dX10_write_83 rfl (hρ0.trans hρ) hP hD hS
    · rw [if_neg c26] at hρ
      refine lv_bipush (v := (-3 : Int32)) hx hb dX10_write_29 (by decide) ?_
      exact hq (-3 : Int32) ((0 : Int32), (mm 2), tx) _ _ _ _ dX10_write_31 rfl (hρ0.trans hρ) hP hD hS
  · rw [if_pos c12] at hρ
    refine lv_iconst (v := (-1 : Int32)) hx hb dX10_write_15 (by decide) ?_
    exact hq (-1 : Int32) ((0 : Int32), (mm 2), tx) _ _ _ _ dX10_write_16 rfl (hρ0.trans hρ) hP hD hS
def F_X10_wipe (mm : Nat → Int32) : Int32 × Int32 × Int32 := ((mm 2), (0 : Int32), (0 : Int32))
theorem iX10_wipe_X10 : ∀ w ∈ wsX100, w ∈ wsX10_wipe := fun _ h => List.mem_cons_of_mem _ (List.mem_append_right _ h)
set_option maxHeartbeats 4000000 in
set_option maxRecDepth 100000 in
theorem c_X10_wipe (l : Launch) (E : wV) (h_mm : Nat) (a_mm : Nat → Nat) (mm : Nat → Int32) : MetI l yX10_wipe wsX10_wipe ({ frames := 0, cells := 0, slots := 0, locals := 0 } : Room) E ([.ref h_mm] : List Value) [xModel h_mm a_mm mm] (fun (r : Int32) (u : Int32 × Int32) => F_X10_wipe mm = (r, u)) (fun (u : Int32 × Int32) => [xModel h_mm a_mm (upd (upd mm 0 u.1) 2 u.2)]) := by
  refine MetI.of (cc := cX10_wipe) (maxL := 2) (own := RX10) (by decide) rfl rfl (Nat.le_of_ble_eq_true rfl) ?_
  intro p e s m below meth c A Q ls cx hP hD hS hl hq
  obtain ⟨hx, hb, hml, hown, hts, hE, hA⟩ := id cx
  have hl : lv_has ls 2 [(0, .ref h_mm)] := hl
  have hP : va_P E.1 vwCl [xModel h_mm a_mm mm] s.heap := hP
  obtain ⟨ρ, hρ0⟩ : ∃ ρ, F_X10_wipe mm = ρ := ⟨_, rfl⟩
  have hρ := hρ0.symm
  unfold F_X10_wipe at hρ
  refine lv_aload_n hx hb dX10_wipe_0 rfl (lv_at hl 0 rfl) ?_
  refine lv_iconst (v := (0 : Int32)) hx hb dX10_wipe_1 (by decide) ?_
  refine va_put (D := E.1) (ci := 10) (v := .int (0 : Int32)) (ty := .int) (C := RX10) (T := TX10) (N := 27) hx hb hts iX10_wipe_X10 tyX10 tyX10_ok nmX10 hown hE.1 hP hD hS 0 rfl rfl 0 (by decide) (hts (.fieldLink RX10 41 "BandBoatModel" "thrown" "I") (List.mem_of_getElem? (i := 1) rfl)) (fun _ h9 => h9) rfl (by decide +kernel) rfl rfl (Nat.le_of_ble_eq_true rfl) dX10_wipe_2 (fun H locs hP hD hS => ?_)
  have hP : va_P E.1 vwCl [xModel h_mm a_mm (upd mm 0 (0 : Int32))] H := hP
  have hD : va_D A [xModel h_mm a_mm (upd mm 0 (0 : Int32))] := hD
  refine lv_aload_n hx hb dX10_wipe_5 rfl (lv_at hl 0 rfl) ?_
  refine va_get (D := E.1) (ci := 10) (v := .int (mm 2)) (C := RX10) (T := TX10) (N := 27) hx hb hts iX10_wipe_X10 hown hE.1 hP 0 rfl rfl 2 (by decide) (hts (.fieldLink RX10 49 "BandBoatModel" "typed" "I") (List.mem_of_getElem? (i := 2) rfl)) (fun _ h9 => h9) rfl dX10_wipe_6 ?_
  refine lv_istore_n (lv' := [(1, .int (mm 2)), (0, .ref h_mm)]) hx hb dX10_wipe_9 rfl hl (by decide) rfl (fun ls hl => ?_)
  refine lv_aload_n hx hb dX10_wipe_10 rfl (lv_at hl 1 rfl) ?_
  refine lv_iconst (v := (0 : Int32)) hx hb dX10_wipe_11 (by decide) ?_
  refine va_put (D := E.1) (ci := 10) (v := .int (0 : Int32)) (ty := .int) (C := RX10) (T := TX10) (N := 27) hx hb hts iX10_wipe_X10 tyX10 tyX10_ok nmX10 hown hE.1 hP hD hS 0 rfl rfl 2 (by decide) (hts (.fieldLink RX10 49 "BandBoatModel" "typed" "I") (List.mem_of_getElem? (i := 2) rfl)) (fun _ h9 => h9) rfl (by decide +kernel) rfl rfl (Nat.le_of_ble_eq_true rfl) dX10_wipe_12 (fun H locs hP hD hS => ?_)
  have hP : va_P E.1 vwCl [xModel h_mm a_mm (upd (upd mm 0 (0 : Int32)) 2 (0 : Int32))] H := hP
  have hD : va_D A [xModel h_mm a_mm (upd (upd mm 0 (0 : Int32)) 2 (0 : Int32))] := hD
  refine lv_iload_n hx hb dX10_wipe_15 rfl (lv_at hl 0 rfl) ?_
  exact hq (mm 2) ((0 : Int32), (0 : Int32)) _ _ _ _ dX10_wipe_16 rfl (hρ0.trans hρ) hP hD hS
def F_X10_byteAt (mm : Nat → Int32) (tx : Nat → Int32) (k : Int32) : Int32 := (if (mm 2) ≤ k then (-1 : Int32) else (tx (Int32.toNatClampNeg k)))
theorem iX10_byteAt_X10 : ∀ w ∈ wsX100, w ∈ wsX10_byteAt := fun _ h => List.mem_cons_of_mem _ (List.mem_append_right _ h)
set_option maxHeartbeats 4000000 in
set_option maxRecDepth 100000 in
theorem c_X10_byteAt (l : Launch) (E : wV) (h_mm : Nat) (a_mm : Nat → Nat) (mm : Nat → Int32) (tx : Nat → Int32) (k : Int32) (hk : 0 ≤ k.toInt) (ht : (mm 2).toInt ≤ 300) : MetI l yX10_byteAt wsX10_byteAt ({ frames := 0, cells := 0, slots := 0, locals := 0 } : Room) E ([.ref h_mm, .int k] : List Value) [xModel h_mm a_mm mm, xI E (a_mm 1) 300 tx] (fun (r : Int32) (_ : Unit) => r = F_X10_byteAt mm tx k) (fun (_ : Unit) => [xModel h_mm a_mm mm, xI E (a_mm 1) 300 tx]) := by
  refine MetI.of (cc := cX10_byteAt) (maxL := 2) (own := RX10) (by decide) rfl rfl (Nat.le_of_ble_eq_true rfl) ?_
  intro p e s m below meth c A Q ls cx hP hD hS hl hq
  obtain ⟨hx, hb, hml, hown, hts, hE, hA⟩ := id cx
  have hl : lv_has ls 2 [(0, .ref h_mm), (1, .int k)] := hl
  have hP : va_P E.1 vwCl [xModel h_mm a_mm mm, xI E (a_mm 1) 300 tx] s.heap := hP
  obtain ⟨ρ, hρ0⟩ : ∃ ρ, F_X10_byteAt mm tx k = ρ := ⟨_, rfl⟩
  have hρ := hρ0.symm
  unfold F_X10_byteAt at hρ
  refine lv_iload_n hx hb dX10_byteAt_0 rfl (lv_at hl 1 rfl) ?_
  refine lv_aload_n hx hb dX10_byteAt_1 rfl (lv_at hl 0 rfl) ?_
  refine va_get (D := E.1) (ci := 10) (v := .int (mm 2)) (C := RX10) (T := TX10) (N := 27) hx hb hts iX10_byteAt_X10 hown hE.1 hP 0 rfl rfl 2 (by decide) (hts (.fieldLink RX10 49 "BandBoatModel" "typed" "I") (List.mem_of_getElem? (i := 1) rfl)) (fun _ h9 => h9) rfl dX10_byteAt_2 ?_
  refine lv_icmp_ge (tgt := 17) hx hb dX10_byteAt_5 (by decide) (fun c5 => ?_) (fun c5 => ?_)
  · rw [if_pos c5] at hρ
    refine lv_iconst (v := (-1 : Int32)) hx hb dX10_byteAt_17 (by decide) ?_
    exact hq (-1 : Int32) () _ _ _ _ dX10_byteAt_18 rfl (hρ0.trans hρ).symm hP hD hS
  · rw [if_neg c5] at hρ
    refine lv_aload_n hx hb dX10_byteAt_8 rfl (lv_at hl 0 rfl) ?_
    refine va_get (D := E.1) (ci := 10) (v := .ref (a_mm 1)) (C := RX10) (T := TX10) (N := 27) hx hb hts iX10_byteAt_X10 hown hE.1 hP 0 rfl rfl 1 (by decide) (hts (.fieldLink RX10 7 "BandBoatModel" "text" "[I") (List.mem_of_getElem? (i := 2) rfl)) (fun _ h9 => h9) rfl dX10_byteAt_9 ?_
    refine lv_iload_n hx hb dX10_byteAt_12 rfl (lv_at hl 1 rfl) ?_
    refine ar_ild (k := (Int32.toNatClampNeg k)) (v := (tx (Int32.toNatClampNeg k))) hx hb hE hP 1 rfl (inb_i hk (by have := lt_nle c5; omega)) rfl rfl dX10_byteAt_13 ?_
    refine lv_goto (tgt := 18) hx hb dX10_byteAt_14 (by decide) ?_
    exact hq (tx (Int32.toNatClampNeg k)) () _ _ _ _ dX10_byteAt_18 rfl (hρ0.trans hρ).symm hP hD hS
