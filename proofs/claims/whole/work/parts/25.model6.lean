def F_X10_areTurns (n : Int32) : Int32 := (F_X10_in n (0 : Int32) (400 : Int32))
set_option maxHeartbeats 4000000 in
set_option maxRecDepth 100000 in
theorem c_X10_areTurns (l : Launch) (E : wV) (n : Int32) : MetI l yX10_areTurns wsX10_areTurns ({ frames := 1, cells := 0, slots := 0, locals := 22 } : Room) E ([.int n] : List Value) [] (fun (r : Int32) (_ : Unit) => r = F_X10_areTurns n) (fun (_ : Unit) => []) := by
  refine MetI.of (cc := cX10_areTurns) (maxL := 1) (own := RX10) (by decide) rfl rfl (Nat.le_of_ble_eq_true rfl) ?_
  intro p e s m below meth c A Q ls cx hP hD hS hl hq
  obtain ⟨hx, hb, hml, hown, hts, hE, hA⟩ := id cx
  have hl : lv_has ls 1 [(0, .int n)] := hl
  have hP : va_P E.1 vwCl [] s.heap := hP
  obtain ⟨ρ, hρ0⟩ : ∃ ρ, F_X10_areTurns n = ρ := ⟨_, rfl⟩
  have hρ := hρ0.symm
  unfold F_X10_areTurns at hρ
  refine lv_iload_n hx hb dX10_areTurns_0 rfl (lv_at hl 0 rfl) ?_
  refine lv_iconst (v := (0 : Int32)) hx hb dX10_areTurns_1 (by decide) ?_
  refine lv_sipush (v := (400 : Int32)) hx hb dX10_areTurns_2 (by decide) ?_
  refine kI (wc := []) (wr := []) (wc' := (fun (_ : Unit) => [])) (wn := (fun (_ : Unit) => [])) (isC := []) (isR := []) (is2 := []) cx hP hD hS ⟨rfl, rfl, by decide, by decide, by decide, by decide, fun _ => rfl⟩ (rS (As := [.int n, .int (0 : Int32), .int (400 : Int32)]) (rest := []) cx (c_X10_in l E n (0 : Int32) (400 : Int32) _) (va_cwS 3 hts gX10_areTurns_X10_in rfl rfl rfl (by decide +kernel) ⟨Nat.le_of_ble_eq_true rfl, Nat.le_of_ble_eq_true rfl⟩) rfl hl.1 rfl (Nat.le_of_ble_eq_true rfl) dX10_areTurns_5 ⟨Nat.zero_le _, Nat.zero_le _⟩) (fun r1 u H locs hw hP hD hS => ?_)
  subst hw
  exact hq (F_X10_in n (0 : Int32) (400 : Int32)) () _ _ _ _ dX10_areTurns_8 (nar_z (F_X10_in_b _ _ _)) (hρ0.trans hρ).symm hP hD hS
def F_X10_isWind (z : Int32) : Int32 := (F_X10_in z (-1 : Int32) (9999 : Int32))
set_option maxHeartbeats 4000000 in
set_option maxRecDepth 100000 in
theorem c_X10_isWind (l : Launch) (E : wV) (z : Int32) : MetI l yX10_isWind wsX10_isWind ({ frames := 1, cells := 0, slots := 0, locals := 22 } : Room) E ([.int z] : List Value) [] (fun (r : Int32) (_ : Unit) => r = F_X10_isWind z) (fun (_ : Unit) => []) := by
  refine MetI.of (cc := cX10_isWind) (maxL := 1) (own := RX10) (by decide) rfl rfl (Nat.le_of_ble_eq_true rfl) ?_
  intro p e s m below meth c A Q ls cx hP hD hS hl hq
  obtain ⟨hx, hb, hml, hown, hts, hE, hA⟩ := id cx
  have hl : lv_has ls 1 [(0, .int z)] := hl
  have hP : va_P E.1 vwCl [] s.heap := hP
  obtain ⟨ρ, hρ0⟩ : ∃ ρ, F_X10_isWind z = ρ := ⟨_, rfl⟩
  have hρ := hρ0.symm
  unfold F_X10_isWind at hρ
  refine lv_iload_n hx hb dX10_isWind_0 rfl (lv_at hl 0 rfl) ?_
  refine lv_iconst (v := (-1 : Int32)) hx hb dX10_isWind_1 (by decide) ?_
  refine lv_sipush (v := (9999 : Int32)) hx hb dX10_isWind_2 (by decide) ?_
  refine kI (wc := []) (wr := []) (wc' := (fun (_ : Unit) => [])) (wn := (fun (_ : Unit) => [])) (isC := []) (isR := []) (is2 := []) cx hP hD hS ⟨rfl, rfl, by decide, by decide, by decide, by decide, fun _ => rfl⟩ (rS (As := [.int z, .int (-1 : Int32), .int (9999 : Int32)]) (rest := []) cx (c_X10_in l E z (-1 : Int32) (9999 : Int32) _) (va_cwS 3 hts gX10_isWind_X10_in rfl rfl rfl (by decide +kernel) ⟨Nat.le_of_ble_eq_true rfl, Nat.le_of_ble_eq_true rfl⟩) rfl hl.1 rfl (Nat.le_of_ble_eq_true rfl) dX10_isWind_5 ⟨Nat.zero_le _, Nat.zero_le _⟩) (fun r1 u H locs hw hP hD hS => ?_)
  subst hw
  exact hq (F_X10_in z (-1 : Int32) (9999 : Int32)) () _ _ _ _ dX10_isWind_8 (nar_z (F_X10_in_b _ _ _)) (hρ0.trans hρ).symm hP hD hS
def F_X10_runs_b3 (x6_3 : Int32) (g_rn_3 : Nat → Int32) : (Int32 × (Nat → Int32)) ⊕ (Int32 × (Nat → Int32)) := (if (6 : Int32) ≤ x6_3 then Sum.inr (x6_3, g_rn_3) else Sum.inl ((x6_3 + (1 : Int32)), (upd g_rn_3 (Int32.toNatClampNeg x6_3) (0 : Int32))))
def F_X10_runs_l3  : Nat → (Int32) → (Nat → Int32) → Int32 × (Nat → Int32)
  | 0, x6_3, g_rn_3 => (x6_3, g_rn_3)
  | n_3 + 1, x6_3, g_rn_3 => match F_X10_runs_b3 x6_3 g_rn_3 with
    | Sum.inl (c_x6_3, c_g_rn_3) => F_X10_runs_l3 n_3 c_x6_3 c_g_rn_3
    | Sum.inr r_ => r_
def F_X10_runs_j209 (g2 : Nat → Int32) (y0_123 : Int32) (y0_160 : Int32) (y0_209 : Int32) : (Int32 × Int32 × Int32 × (Nat → Int32)) ⊕ (Int32 × Int32 × Int32 × (Nat → Int32)) := Sum.inl (y0_123, y0_160, (g2 5), (upd g2 0 y0_209))
def F_X10_runs_j160 (n : Int32) (again : Int32) (s_mm_19_59 : Int32) (g2 : Nat → Int32) (y0_123 : Int32) (y0_160 : Int32) : (Int32 × Int32 × Int32 × (Nat → Int32)) ⊕ (Int32 × Int32 × Int32 × (Nat → Int32)) := (if s_mm_19_59 = (-4 : Int32) then (if (g2 0) = (0 : Int32) then (if again = (0 : Int32) then F_X10_runs_j209 g2 y0_123 y0_160 (0 : Int32) else F_X10_runs_j209 g2 y0_123 y0_160 ((100 : Int32) * n)) else Sum.inl (y0_123, y0_160, s_mm_19_59, g2)) else Sum.inl (y0_123, y0_160, s_mm_19_59, g2))
def F_X10_runs_j156 (n : Int32) (again : Int32) (s_mm_20_59 : Int32) (s_mm_19_59 : Int32) (g2 : Nat → Int32) (y0_123 : Int32) : (Int32 × Int32 × Int32 × (Nat → Int32)) ⊕ (Int32 × Int32 × Int32 × (Nat → Int32)) := F_X10_runs_j160 n again s_mm_19_59 g2 y0_123 s_mm_20_59
def F_X10_runs_j123 (n : Int32) (again : Int32) (way : Int32) (s_mm_20_59 : Int32) (s_mm_19_59 : Int32) (g2 : Nat → Int32) (y0_123 : Int32) : (Int32 × Int32 × Int32 × (Nat → Int32)) ⊕ (Int32 × Int32 × Int32 × (Nat → Int32)) := (if s_mm_20_59 = (-4 : Int32) then (if (g2 2) < way then F_X10_runs_j156 n again s_mm_20_59 s_mm_19_59 g2 y0_123 else F_X10_runs_j160 n again s_mm_19_59 g2 y0_123 (g2 5)) else F_X10_runs_j156 n again s_mm_20_59 s_mm_19_59 g2 y0_123)
def F_X10_runs_k93 (n : Int32) (again : Int32) (way : Int32) (s_mm_18_59 : Int32) (s_mm_20_59 : Int32) (s_mm_19_59 : Int32) (g2 : Nat → Int32) : (Int32 × Int32 × Int32 × (Nat → Int32)) ⊕ (Int32 × Int32 × Int32 × (Nat → Int32)) := (if (g2 1) ≤ s_mm_18_59 then F_X10_runs_j123 n again way s_mm_20_59 s_mm_19_59 g2 s_mm_18_59 else F_X10_runs_j123 n again way s_mm_20_59 s_mm_19_59 g2 (g2 1))
def F_X10_runs_j87 (mm : Nat → Int32) (bt : Nat → Int32) (n : Int32) (z : Int32) (again : Int32) (way : Int32) (s_mm_18_59 : Int32) (s_mm_20_59 : Int32) (s_mm_19_59 : Int32) (g_rn_59 : Nat → Int32) : (Int32 × Int32 × Int32 × (Nat → Int32)) ⊕ (Int32 × Int32 × Int32 × (Nat → Int32)) := F_X10_runs_k93 n again way s_mm_18_59 s_mm_20_59 s_mm_19_59 (F_X10_tenth (upd (upd (upd mm 18 s_mm_18_59) 19 s_mm_19_59) 20 s_mm_20_59) bt g_rn_59 z)
def F_X10_runs_b59 (mm : Nat → Int32) (bt : Nat → Int32) (n : Int32) (z : Int32) (most : Int32) (again : Int32) (way : Int32) (s_mm_18_59 : Int32) (s_mm_20_59 : Int32) (s_mm_19_59 : Int32) (g_rn_59 : Nat → Int32) : (Int32 × Int32 × Int32 × (Nat → Int32)) ⊕ (Int32 × Int32 × Int32 × (Nat → Int32)) := (if most ≤ (g_rn_59 5) then Sum.inr (s_mm_18_59, s_mm_20_59, s_mm_19_59, g_rn_59) else (if (0 : Int32) < (g_rn_59 0) then F_X10_runs_j87 mm bt n z again way s_mm_18_59 s_mm_20_59 s_mm_19_59 g_rn_59 else (if (g_rn_59 1) ≤ (0 : Int32) then Sum.inr (s_mm_18_59, s_mm_20_59, s_mm_19_59, g_rn_59) else F_X10_runs_j87 mm bt n z again way s_mm_18_59 s_mm_20_59 s_mm_19_59 g_rn_59)))
def F_X10_runs_l59 (mm : Nat → Int32) (bt : Nat → Int32) (n : Int32) (z : Int32) (most : Int32) (again : Int32) (way : Int32) : Nat → (Int32) → (Int32) → (Int32) → (Nat → Int32) → Int32 × Int32 × Int32 × (Nat → Int32)
  | 0, s_mm_18_59, s_mm_20_59, s_mm_19_59, g_rn_59 => (s_mm_18_59, s_mm_20_59, s_mm_19_59, g_rn_59)
  | n_59 + 1, s_mm_18_59, s_mm_20_59, s_mm_19_59, g_rn_59 => match F_X10_runs_b59 mm bt n z most again way s_mm_18_59 s_mm_20_59 s_mm_19_59 g_rn_59 with
    | Sum.inl (c_s_mm_18_59, c_s_mm_20_59, c_s_mm_19_59, c_g_rn_59) => F_X10_runs_l59 mm bt n z most again way n_59 c_s_mm_18_59 c_s_mm_20_59 c_s_mm_19_59 c_g_rn_59
    | Sum.inr r_ => r_
def F_X10_runs_x59 (bs_mm_18_59 : Int32) (bs_mm_20_59 : Int32) (bs_mm_19_59 : Int32) (bg_rn_59 : Nat → Int32) : Int32 × Int32 × Int32 × Int32 × (Nat → Int32) := ((bg_rn_59 5), bs_mm_18_59, bs_mm_19_59, bs_mm_20_59, bg_rn_59)
def F_X10_runs_j50 (mm : Nat → Int32) (bt : Nat → Int32) (n : Int32) (z : Int32) (most : Int32) (again : Int32) (way : Int32) (bg_rn_3 : Nat → Int32) (v1 : Int32) (y0_50 : Int32) : Int32 × Int32 × Int32 × Int32 × (Nat → Int32) := (match F_X10_runs_l59 mm bt n z most again way ((Int32.toInt most).toNat) (0 : Int32) (-4 : Int32) y0_50 (upd bg_rn_3 0 v1) with | (bs_mm_18_59, bs_mm_20_59, bs_mm_19_59, bg_rn_59) => F_X10_runs_x59 bs_mm_18_59 bs_mm_20_59 bs_mm_19_59 bg_rn_59)
def F_X10_runs_k33 (mm : Nat → Int32) (bt : Nat → Int32) (n : Int32) (z : Int32) (most : Int32) (again : Int32) (way : Int32) (bg_rn_3 : Nat → Int32) (v1 : Int32) : Int32 × Int32 × Int32 × Int32 × (Nat → Int32) := (if n = (0 : Int32) then F_X10_runs_j50 mm bt n z most again way bg_rn_3 v1 (0 : Int32) else F_X10_runs_j50 mm bt n z most again way bg_rn_3 v1 (-4 : Int32))
def F_X10_runs_x3 (mm : Nat → Int32) (bt : Nat → Int32) (n : Int32) (z : Int32) (most : Int32) (again : Int32) (way : Int32) (bg_rn_3 : Nat → Int32) : Int32 × Int32 × Int32 × Int32 × (Nat → Int32) := F_X10_runs_k33 mm bt n z most again way bg_rn_3 ((100 : Int32) * n)
def F_X10_runs (mm : Nat → Int32) (bt : Nat → Int32) (rn : Nat → Int32) (n : Int32) (z : Int32) (most : Int32) (again : Int32) (way : Int32) : Int32 × Int32 × Int32 × Int32 × (Nat → Int32) := (match F_X10_runs_l3 (6) (0 : Int32) rn with | (bx6_3, bg_rn_3) => F_X10_runs_x3 mm bt n z most again way bg_rn_3)
theorem iX10_runs_X10 : ∀ w ∈ wsX100, w ∈ wsX10_runs := fun _ h => List.mem_cons_of_mem _ (List.mem_append_right _ h)
set_option maxHeartbeats 4000000 in
set_option maxRecDepth 100000 in
theorem c_X10_runs (l : Launch) (E : wV) (h_mm : Nat) (a_mm : Nat → Nat) (mm : Nat → Int32) (bt : Nat → Int32) (rn : Nat → Int32) (n : Int32) (z : Int32) (most : Int32) (again : Int32) (way : Int32) (hB : btOK bt) (hQ : mmOK mm) : MetV l yX10_runs wsX10_runs ({ frames := 3, cells := 0, slots := 0, locals := 69 } : Room) E ([.ref h_mm, .int n, .int z, .int most, .int again, .int way] : List Value) [xModel h_mm a_mm mm, xI E (a_mm 5) 60 bt, xI E (a_mm 14) 6 rn] (fun (u : Int32 × Int32 × Int32 × Int32 × (Nat → Int32)) => F_X10_runs mm bt rn n z most again way = u) (fun (u : Int32 × Int32 × Int32 × Int32 × (Nat → Int32)) => [xModel h_mm a_mm (upd (upd (upd (upd mm 17 u.1) 18 u.2.1) 19 u.2.2.1) 20 u.2.2.2.1), xI E (a_mm 5) 60 bt, xI E (a_mm 14) 6 u.2.2.2.2]) := by
  refine MetV.of (cc := cX10_runs) (maxL := 7) (own := RX10) (by decide) rfl rfl (Nat.le_of_ble_eq_true rfl) ?_
  intro p e s m below meth c A Q ls cx hP hD hS hl hq
  obtain ⟨hx, hb, hml, hown, hts, hE, hA⟩ := id cx
  have hl : lv_has ls 7 [(0, .ref h_mm), (1, .int n), (2, .int z), (3, .int most), (4, .int again), (5, .int way)] := hl
  have hP : va_P E.1 vwCl [xModel h_mm a_mm mm, xI E (a_mm 5) 60 bt, xI E (a_mm 14) 6 rn] s.heap := hP
  obtain ⟨ρ, hρ0⟩ : ∃ ρ, F_X10_runs mm bt rn n z most again way = ρ := ⟨_, rfl⟩
  have hρ := hρ0.symm
  unfold F_X10_runs at hρ
  refine lv_iconst (v := (0 : Int32)) hx hb dX10_runs_0 (by decide) ?_
  refine lv_istore (lv' := [(6, .int (0 : Int32)), (0, .ref h_mm), (1, .int n), (2, .int z), (3, .int most), (4, .int again), (5, .int way)]) hx hb dX10_runs_1 hl (by decide) rfl (fun ls hl => ?_)
  have hL3 : ∀ (n_3 : Nat) (x6_3 : Int32) (g_rn_3 : Nat → Int32) (H : Heap) (locs : List Loc) (ls : Array Slot), (((6 : Int32) : Int32).toInt ≤ (x6_3).toInt + (n_3 : Nat)) ∧ (0 ≤ (x6_3).toInt) ∧ (zr (g_rn_3) (x6_3)) → va_P E.1 vwCl [xModel h_mm a_mm mm, xI E (a_mm 5) 60 bt, xI E (a_mm 14) 6 g_rn_3] H → va_D A [xModel h_mm a_mm mm, xI E (a_mm 5) 60 bt, xI E (a_mm 14) 6 g_rn_3] → va_S A s.heap H locs → lv_has ls 7 [(6, .int x6_3), (0, .ref h_mm), (1, .int n), (2, .int z), (3, .int most), (4, .int again), (5, .int way)] → (∀ (ox6_3 : Int32) (og_rn_3 : Nat → Int32) (H : Heap) (locs : List Loc) (ls : Array Slot), F_X10_runs_l3 n_3 x6_3 g_rn_3 = (ox6_3, og_rn_3) → (∀ j : Nat, j < 6 → og_rn_3 j = 0) → va_P E.1 vwCl [xModel h_mm a_mm mm, xI E (a_mm 5) 60 bt, xI E (a_mm 14) 6 og_rn_3] H → va_D A [xModel h_mm a_mm mm, xI E (a_mm 5) 60 bt, xI E (a_mm 14) 6 og_rn_3] → va_S A s.heap H locs → lv_has ls 7 [(6, .int ox6_3), (0, .ref h_mm), (1, .int n), (2, .int z), (3, .int most), (4, .int again), (5, .int way)] → W p l e ({ frames := 3, cells := 0, slots := 0, locals := 69 } : Room) s m ([.ref h_mm, .int n, .int z, .int most, .int again, .int way] : List Value).toArray below meth c H locs 0 0 Q (F0 m 24 ls [])) → W p l e ({ frames := 3, cells := 0, slots := 0, locals := 69 } : Room) s m ([.ref h_mm, .int n, .int z, .int most, .int again, .int way] : List Value).toArray below meth c H locs 0 0 Q (F0 m 3 ls []) := by
    intro n_3
    induction n_3 with
    | zero =>
      intro x6_3 g_rn_3 H locs ls hM hP hD hS hl hK
      have hM3 := hM
      obtain ⟨σ3, hσ03⟩ : ∃ σ, F_X10_runs_l3 0 x6_3 g_rn_3 = σ := ⟨_, rfl⟩
      have hσ3 := hσ03.symm
      rw [F_X10_runs_l3] at hσ3
      refine lv_iload hx hb dX10_runs_3 (lv_at hl 0 rfl) ?_
      refine lv_bipush (v := (6 : Int32)) hx hb dX10_runs_5 (by decide) ?_
      refine lv_icmp_ge (tgt := 24) hx hb dX10_runs_7 (by decide) (fun c7 => ?_) (fun c7 => ?_)
      · exact hK x6_3 g_rn_3 _ _ _ (hσ03.trans hσ3) (zr_end hM.2.2 c7) hP hD hS (lv_sub hl [0, 1, 2, 3, 4, 5, 6] rfl)
      · exact (cnt_lt0 c7 hM.1).elim
    | succ n_3 ih =>
      intro x6_3 g_rn_3 H locs ls hM hP hD hS hl hK
      have hM3 := hM
      obtain ⟨σ3, hσ03⟩ : ∃ σ, F_X10_runs_l3 (n_3 + 1) x6_3 g_rn_3 = σ := ⟨_, rfl⟩
      have hσ3 := hσ03.symm
      rw [F_X10_runs_l3] at hσ3
      obtain ⟨τ3, hτ03⟩ : ∃ τ, F_X10_runs_b3 x6_3 g_rn_3 = τ := ⟨_, rfl⟩
      rw [hτ03] at hσ3
      have hτ3 := hτ03.symm
      unfold F_X10_runs_b3 at hτ3
      refine lv_iload hx hb dX10_runs_3 (lv_at hl 0 rfl) ?_
      refine lv_bipush (v := (6 : Int32)) hx hb dX10_runs_5 (by decide) ?_
      refine lv_icmp_ge (tgt := 24) hx hb dX10_runs_7 (by decide) (fun c7 => ?_) (fun c7 => ?_)
      · rw [if_pos c7] at hτ3
        have hσ3 : σ3 = (x6_3, g_rn_3) := by subst hτ3; exact hσ3
        exact hK x6_3 g_rn_3 _ _ _ (hσ03.trans hσ3) (zr_end hM.2.2 c7) hP hD hS (lv_sub hl [0, 1, 2, 3, 4, 5, 6] rfl)
      · rw [if_neg c7] at hτ3
        refine lv_aload_n hx hb dX10_runs_10 rfl (lv_at hl 1 rfl) ?_
        refine va_get (D := E.1) (ci := 10) (v := .ref (a_mm 14)) (C := RX10) (T := TX10) (N := 27) hx hb hts iX10_runs_X10 hown hE.1 hP 0 rfl rfl 14 (by decide) (hts (.fieldLink RX10 19 "BandBoatModel" "run" "[I") (List.mem_of_getElem? (i := 1) rfl)) (fun _ h9 => h9) rfl dX10_runs_11 ?_
        refine lv_iload hx hb dX10_runs_14 (lv_at hl 0 rfl) ?_
        refine lv_iconst (v := (0 : Int32)) hx hb dX10_runs_16 (by decide) ?_
        refine ar_ist (k := (Int32.toNatClampNeg x6_3)) (ws' := [xModel h_mm a_mm mm, xI E (a_mm 5) 60 bt, xI E (a_mm 14) 6 (upd g_rn_3 (Int32.toNatClampNeg x6_3) (0 : Int32))]) hx hb hE hP hD hS 2 rfl (inb_c hM.2.1 c7 rfl) rfl rfl dX10_runs_17 (fun H locs hP hD hS => ?_)
        refine lv_iinc (v := (x6_3 + (1 : Int32))) (lv' := [(6, .int (x6_3 + (1 : Int32))), (0, .ref h_mm), (1, .int n), (2, .int z), (3, .int most), (4, .int again), (5, .int way)]) hx hb dX10_runs_18 hl (k := 0) rfl rfl (by decide) rfl (fun ls hl => ?_)
        refine lv_goto (tgt := 3) hx hb dX10_runs_21 (by decide) ?_
        have hσ3 : σ3 = F_X10_runs_l3  n_3 (x6_3 + (1 : Int32)) (upd g_rn_3 (Int32.toNatClampNeg x6_3) (0 : Int32)) := by subst hτ3; exact hσ3
        exact ih (x6_3 + (1 : Int32)) (upd g_rn_3 (Int32.toNatClampNeg x6_3) (0 : Int32)) _ _ _ ⟨cnt_lt c7 hM.1, cnt_lt_pos c7 hM.2.1, zr_step c7 hM.2.1 hM.2.2⟩ hP hD hS (lv_sub hl [0, 1, 2, 3, 4, 5, 6] rfl) (fun ox6_3 og_rn_3 H locs ls he => hK ox6_3 og_rn_3 H locs ls (hσ03.trans (hσ3.trans he)))
  refine hL3 (6) (0 : Int32) rn _ _ _ (⟨by decide, by decide, zr_0 _⟩) hP hD hS (lv_sub hl [0, 1, 2, 3, 4, 5, 6] rfl) ?_
  intro bx6_3 bg_rn_3 H locs ls he hI hP hD hS hl
  rw [he] at hρ
  have hρ : ρ = F_X10_runs_x3 mm bt n z most again way bg_rn_3 := hρ
  unfold F_X10_runs_x3 at hρ
  refine lv_aload_n hx hb dX10_runs_24 rfl (lv_at hl 1 rfl) ?_
  refine va_get (D := E.1) (ci := 10) (v := .ref (a_mm 14)) (C := RX10) (T := TX10) (N := 27) hx hb hts iX10_runs_X10 hown hE.1 hP 0 rfl rfl 14 (by decide) (hts (.fieldLink RX10 19 "BandBoatModel" "run" "[I") (List.mem_of_getElem? (i := 1) rfl)) (fun _ h9 => h9) rfl dX10_runs_25 ?_
  refine lv_iconst (v := (0 : Int32)) hx hb dX10_runs_28 (by decide) ?_
  refine lv_bipush (v := (100 : Int32)) hx hb dX10_runs_29 (by decide) ?_
  refine lv_iload_n hx hb dX10_runs_31 rfl (lv_at hl 2 rfl) ?_
  refine lv_imul hx hb dX10_runs_32 ?_
  refine lv_topi (fun v1 ev1 => ?_)
  have hρ : ρ = F_X10_runs_k33 mm bt n z most again way bg_rn_3 v1 := by rw [ev1]; exact hρ
  unfold F_X10_runs_k33 at hρ
  refine ar_ist (k := 0) (ws' := [xModel h_mm a_mm mm, xI E (a_mm 5) 60 bt, xI E (a_mm 14) 6 (upd bg_rn_3 0 v1)]) hx hb hE hP hD hS 2 rfl (by unfold vp_in; decide) rfl rfl dX10_runs_33 (fun H locs hP hD hS => ?_)
  refine lv_aload_n hx hb dX10_runs_34 rfl (lv_at hl 1 rfl) ?_
  refine lv_iconst (v := (0 : Int32)) hx hb dX10_runs_35 (by decide) ?_
  refine va_put (D := E.1) (ci := 10) (v := .int (0 : Int32)) (ty := .int) (C := RX10) (T := TX10) (N := 27) hx hb hts iX10_runs_X10 tyX10 tyX10_ok nmX10 hown hE.1 hP hD hS 0 rfl rfl 18 (by decide) (hts (.fieldLink RX10 135 "BandBoatModel" "fastest" "I") (List.mem_of_getElem? (i := 2) rfl)) (fun _ h9 => h9) rfl (by decide +kernel) rfl rfl (Nat.le_of_ble_eq_true rfl) dX10_runs_36 (fun H locs hP hD hS => ?_)
  have hP : va_P E.1 vwCl [xModel h_mm a_mm (upd mm 18 (0 : Int32)), xI E (a_mm 5) 60 bt, xI E (a_mm 14) 6 (upd bg_rn_3 0 v1)] H := hP
  have hD : va_D A [xModel h_mm a_mm (upd mm 18 (0 : Int32)), xI E (a_mm 5) 60 bt, xI E (a_mm 14) 6 (upd bg_rn_3 0 v1)] := hD
  refine lv_aload_n hx hb dX10_runs_39 rfl (lv_at hl 1 rfl) ?_
  refine lv_iload_n hx hb dX10_runs_40 rfl (lv_at hl 2 rfl) ?_
  have hJ50 : ∀ (y0_50 : Int32) (H : Heap) (locs : List Loc) (ls : Array Slot), ρ = F_X10_runs_j50 mm bt n z most again way bg_rn_3 v1 y0_50 → va_P E.1 vwCl [xModel h_mm a_mm (upd mm 18 (0 : Int32)), xI E (a_mm 5) 60 bt, xI E (a_mm 14) 6 (upd bg_rn_3 0 v1)] H → va_D A [xModel h_mm a_mm (upd mm 18 (0 : Int32)), xI E (a_mm 5) 60 bt, xI E (a_mm 14) 6 (upd bg_rn_3 0 v1)] → va_S A s.heap H locs → lv_has ls 7 [(6, .int bx6_3), (0, .ref h_mm), (1, .int n), (2, .int z), (3, .int most), (4, .int again), (5, .int way)] → W p l e ({ frames := 3, cells := 0, slots := 0, locals := 69 } : Room) s m ([.ref h_mm, .int n, .int z, .int most, .int again, .int way] : List Value).toArray below meth c H locs 0 0 Q (F0 m 50 ls [.int y0_50, .ref h_mm]) := by
    intro y0_50 H locs ls hρ hP hD hS hl
    unfold F_X10_runs_j50 at hρ
    refine va_put (D := E.1) (ci := 10) (v := .int y0_50) (ty := .int) (C := RX10) (T := TX10) (N := 27) hx hb hts iX10_runs_X10 tyX10 tyX10_ok nmX10 hown hE.1 hP hD hS 0 rfl rfl 19 (by decide) (hts (.fieldLink RX10 138 "BandBoatModel" "unwound" "I") (List.mem_of_getElem? (i := 3) rfl)) (fun _ h9 => h9) rfl (by decide +kernel) rfl rfl (Nat.le_of_ble_eq_true rfl) dX10_runs_50 (fun H locs hP hD hS => ?_)
    have hP : va_P E.1 vwCl [xModel h_mm a_mm (upd (upd mm 18 (0 : Int32)) 19 y0_50), xI E (a_mm 5) 60 bt, xI E (a_mm 14) 6 (upd bg_rn_3 0 v1)] H := hP
    have hD : va_D A [xModel h_mm a_mm (upd (upd mm 18 (0 : Int32)) 19 y0_50), xI E (a_mm 5) 60 bt, xI E (a_mm 14) 6 (upd bg_rn_3 0 v1)] := hD
    refine lv_aload_n hx hb dX10_runs_53 rfl (lv_at hl 1 rfl) ?_
    refine lv_bipush (v := (-4 : Int32)) hx hb dX10_runs_54 (by decide) ?_
    refine va_put (D := E.1) (ci := 10) (v := .int (-4 : Int32)) (ty := .int) (C := RX10) (T := TX10) (N := 27) hx hb hts iX10_runs_X10 tyX10 tyX10_ok nmX10 hown hE.1 hP hD hS 0 rfl rfl 20 (by decide) (hts (.fieldLink RX10 141 "BandBoatModel" "reached" "I") (List.mem_of_getElem? (i := 4) rfl)) (fun _ h9 => h9) rfl (by decide +kernel) rfl rfl (Nat.le_of_ble_eq_true rfl) dX10_runs_56 (fun H locs hP hD hS => ?_)
    have hP : va_P E.1 vwCl [xModel h_mm a_mm (upd (upd (upd mm 18 (0 : Int32)) 19 y0_50) 20 (-4 : Int32)), xI E (a_mm 5) 60 bt, xI E (a_mm 14) 6 (upd bg_rn_3 0 v1)] H := hP
    have hD : va_D A [xModel h_mm a_mm (upd (upd (upd mm 18 (0 : Int32)) 19 y0_50) 20 (-4 : Int32)), xI E (a_mm 5) 60 bt, xI E (a_mm 14) 6 (upd bg_rn_3 0 v1)] := hD
    have hL59 : ∀ (n_59 : Nat) (s_mm_18_59 : Int32) (s_mm_20_59 : Int32) (s_mm_19_59 : Int32) (g_rn_59 : Nat → Int32) (H : Heap) (locs : List Loc) (ls : Array Slot), ((most : Int32).toInt ≤ ((g_rn_59 5)).toInt + (n_59 : Nat)) → va_P E.1 vwCl [xModel h_mm a_mm (upd (upd (upd mm 18 s_mm_18_59) 19 s_mm_19_59) 20 s_mm_20_59), xI E (a_mm 5) 60 bt, xI E (a_mm 14) 6 g_rn_59] H → va_D A [xModel h_mm a_mm (upd (upd (upd mm 18 s_mm_18_59) 19 s_mm_19_59) 20 s_mm_20_59), xI E (a_mm 5) 60 bt, xI E (a_mm 14) 6 g_rn_59] → va_S A s.heap H locs → lv_has ls 7 [(6, .int bx6_3), (0, .ref h_mm), (1, .int n), (2, .int z), (3, .int most), (4, .int again), (5, .int way)] → (∀ (os_mm_18_59 : Int32) (os_mm_20_59 : Int32) (os_mm_19_59 : Int32) (og_rn_59 : Nat → Int32) (H : Heap) (locs : List Loc) (ls : Array Slot), F_X10_runs_l59 mm bt n z most again way n_59 s_mm_18_59 s_mm_20_59 s_mm_19_59 g_rn_59 = (os_mm_18_59, os_mm_20_59, os_mm_19_59, og_rn_59) → va_P E.1 vwCl [xModel h_mm a_mm (upd (upd (upd mm 18 os_mm_18_59) 19 os_mm_19_59) 20 os_mm_20_59), xI E (a_mm 5) 60 bt, xI E (a_mm 14) 6 og_rn_59] H → va_D A [xModel h_mm a_mm (upd (upd (upd mm 18 os_mm_18_59) 19 os_mm_19_59) 20 os_mm_20_59), xI E (a_mm 5) 60 bt, xI E (a_mm 14) 6 og_rn_59] → va_S A s.heap H locs → lv_has ls 7 [(6, .int bx6_3), (0, .ref h_mm), (1, .int n), (2, .int z), (3, .int most), (4, .int again), (5, .int way)] → W p l e ({ frames := 3, cells := 0, slots := 0, locals := 69 } : Room) s m ([.ref h_mm, .int n, .int z, .int most, .int again, .int way] : List Value).toArray below meth c H locs 0 0 Q (F0 m 213 ls [])) → W p l e ({ frames := 3, cells := 0, slots := 0, locals := 69 } : Room) s m ([.ref h_mm, .int n, .int z, .int most, .int again, .int way] : List Value).toArray below meth c H locs 0 0 Q (F0 m 59 ls []) := by
      intro n_59
      induction n_59 with
      | zero =>
        intro s_mm_18_59 s_mm_20_59 s_mm_19_59 g_rn_59 H locs ls hM hP hD hS hl hK
        have hM59 := hM
        obtain ⟨σ59, hσ059⟩ : ∃ σ, F_X10_runs_l59 mm bt n z most again way 0 s_mm_18_59 s_mm_20_59 s_mm_19_59 g_rn_59 = σ := ⟨_, rfl⟩
        have hσ59 := hσ059.symm
        rw [F_X10_runs_l59] at hσ59
        refine lv_aload_n hx hb dX10_runs_59 rfl (lv_at hl 1 rfl) ?_
        refine va_get (D := E.1) (ci := 10) (v := .ref (a_mm 14)) (C := RX10) (T := TX10) (N := 27) hx hb hts iX10_runs_X10 hown hE.1 hP 0 rfl rfl 14 (by decide) (hts (.fieldLink RX10 19 "BandBoatModel" "run" "[I") (List.mem_of_getElem? (i := 1) rfl)) (fun _ h9 => h9) rfl dX10_runs_60 ?_
        refine lv_iconst (v := (5 : Int32)) hx hb dX10_runs_63 (by decide) ?_
        refine ar_ild (k := 5) (v := (g_rn_59 5)) hx hb hE hP 2 rfl (by unfold vp_in; decide) rfl rfl dX10_runs_64 ?_
        refine lv_iload_n hx hb dX10_runs_65 rfl (lv_at hl 4 rfl) ?_
        refine lv_icmp_ge (tgt := 213) hx hb dX10_runs_66 (by decide) (fun c66 => ?_) (fun c66 => ?_)
        · exact hK s_mm_18_59 s_mm_20_59 s_mm_19_59 g_rn_59 _ _ _ (hσ059.trans hσ59) hP hD hS (lv_sub hl [0, 1, 2, 3, 4, 5, 6] rfl)
        · exact (cnt_lt0 c66 hM).elim
      | succ n_59 ih =>
        intro s_mm_18_59 s_mm_20_59 s_mm_19_59 g_rn_59 H locs ls hM hP hD hS hl hK
        have hM59 := hM
        obtain ⟨σ59, hσ059⟩ : ∃ σ, F_X10_runs_l59 mm bt n z most again way (n_59 + 1) s_mm_18_59 s_mm_20_59 s_mm_19_59 g_rn_59 = σ := ⟨_, rfl⟩
        have hσ59 := hσ059.symm
        rw [F_X10_runs_l59] at hσ59
        obtain ⟨τ59, hτ059⟩ : ∃ τ, F_X10_runs_b59 mm bt n z most again way s_mm_18_59 s_mm_20_59 s_mm_19_59 g_rn_59 = τ := ⟨_, rfl⟩
        rw [hτ059] at hσ59
        have hτ59 := hτ059.symm
        unfold F_X10_runs_b59 at hτ59
        refine lv_aload_n hx hb dX10_runs_59 rfl (lv_at hl 1 rfl) ?_
        refine va_get (D := E.1) (ci := 10) (v := .ref (a_mm 14)) (C := RX10) (T := TX10) (N := 27) hx hb hts iX10_runs_X10 hown hE.1 hP 0 rfl rfl 14 (by decide) (hts (.fieldLink RX10 19 "BandBoatModel" "run" "[I") (List.mem_of_getElem? (i := 1) rfl)) (fun _ h9 => h9) rfl dX10_runs_60 ?_
        refine lv_iconst (v := (5 : Int32)) hx hb dX10_runs_63 (by decide) ?_
        refine ar_ild (k := 5) (v := (g_rn_59 5)) hx hb hE hP 2 rfl (by unfold vp_in; decide) rfl rfl dX10_runs_64 ?_
        refine lv_iload_n hx hb dX10_runs_65 rfl (lv_at hl 4 rfl) ?_
        refine lv_icmp_ge (tgt := 213) hx hb dX10_runs_66 (by decide) (fun c66 => ?_) (fun c66 => ?_)
        · rw [if_pos c66] at hτ59
          have hσ59 : σ59 = (s_mm_18_59, s_mm_20_59, s_mm_19_59, g_rn_59) := by subst hτ59; exact hσ59
          exact hK s_mm_18_59 s_mm_20_59 s_mm_19_59 g_rn_59 _ _ _ (hσ059.trans hσ59) hP hD hS (lv_sub hl [0, 1, 2, 3, 4, 5, 6] rfl)
        · rw [if_neg c66] at hτ59
          refine lv_aload_n hx hb dX10_runs_69 rfl (lv_at hl 1 rfl) ?_
          refine va_get (D := E.1) (ci := 10) (v := .ref (a_mm 14)) (C := RX10) (T := TX10) (N := 27) hx hb hts iX10_runs_X10 hown hE.1 hP 0 rfl rfl 14 (by decide) (hts (.fieldLink RX10 19 "BandBoatModel" "run" "[I") (List.mem_of_getElem? (i := 1) rfl)) (fun _ h9 => h9) rfl dX10_runs_70 ?_
          refine lv_iconst (v := (0 : Int32)) hx hb dX10_runs_73 (by decide) ?_
          refine ar_ild (k := 0) (v := (g_rn_59 0)) hx hb hE hP 2 rfl (by unfold vp_in; decide) rfl rfl dX10_runs_74 ?_
          have hJ87 : ∀ (H : Heap) (locs : List Loc) (ls : Array Slot), τ59 = F_X10_runs_j87 mm bt n z again way s_mm_18_59 s_mm_20_59 s_mm_19_59 g_rn_59 → va_P E.1 vwCl [xModel h_mm a_mm (upd (upd (upd mm 18 s_mm_18_59) 19 s_mm_19_59) 20 s_mm_20_59), xI E (a_mm 5) 60 bt, xI E (a_mm 14) 6 g_rn_59] H → va_D A [xModel h_mm a_mm (upd (upd (upd mm 18 s_mm_18_59) 19 s_mm_19_59) 20 s_mm_20_59), xI E (a_mm 5) 60 bt, xI E (a_mm 14) 6 g_rn_59] → va_S A s.heap H locs → lv_has ls 7 [(6, .int bx6_3), (0, .ref h_mm), (1, .int n), (2, .int z), (3, .int most), (4, .int again), (5, .int way)] → W p l e ({ frames := 3, cells := 0, slots := 0, locals := 69 } : Room) s m ([.ref h_mm, .int n, .int z, .int most, .int again, .int way] : List Value).toArray below meth c H locs 0 0 Q (F0 m 87 ls []) := by
            intro  H locs ls hτ59 hP hD hS hl
            unfold F_X10_runs_j87 at hτ59
            refine lv_aload_n hx hb dX10_runs_87 rfl (lv_at hl 1 rfl) ?_
            refine lv_aload_n hx hb dX10_runs_88 rfl (lv_at hl 1 rfl) ?_
            refine va_get (D := E.1) (ci := 10) (v := .ref (a_mm 14)) (C := RX10) (T := TX10) (N := 27) hx hb hts iX10_runs_X10 hown hE.1 hP 0 rfl rfl 14 (by decide) (hts (.fieldLink RX10 19 "BandBoatModel" "run" "[I") (List.mem_of_getElem? (i := 1) rfl)) (fun _ h9 => h9) rfl dX10_runs_89 ?_
            refine lv_iload_n hx hb dX10_runs_92 rfl (lv_at hl 3 rfl) ?_
            refine kV (wc := [xModel h_mm a_mm (upd (upd (upd mm 18 s_mm_18_59) 19 s_mm_19_59) 20 s_mm_20_59), xI E (a_mm 5) 60 bt, xI E (a_mm 14) 6 g_rn_59]) (wr := []) (wc' := (fun (u : (Nat → Int32)) => [xModel h_mm a_mm (upd (upd (upd mm 18 s_mm_18_59) 19 s_mm_19_59) 20 s_mm_20_59), xI E (a_mm 5) 60 bt, xI E (a_mm 14) 6 u])) (wn := (fun (u : (Nat → Int32)) => [xModel h_mm a_mm (upd (upd (upd mm 18 s_mm_18_59) 19 s_mm_19_59) 20 s_mm_20_59), xI E (a_mm 5) 60 bt, xI E (a_mm 14) 6 u])) (isC := [0, 1, 2]) (isR := []) (is2 := [0, 1, 2]) cx hP hD hS ⟨rfl, rfl, by decide, by decide, by decide, by decide, fun _ => rfl⟩ (rV (As := [.ref (a_mm 14), .int z]) (rest := []) (C := RX10) (q0 := 0) (ci := 10) cx (c_X10_tenth l E h_mm (a_mm 14) a_mm (upd (upd (upd mm 18 s_mm_18_59) 19 s_mm_19_59) 20 s_mm_20_59) bt g_rn_59 z (hB) (hQ) _) (cwV 2 hts gX10_runs_X10_tenth rfl rfl rfl (by decide +kernel) ⟨Nat.le_of_ble_eq_true rfl, Nat.le_of_ble_eq_true rfl⟩) rfl rfl rfl rfl hl.1 rfl (Nat.le_of_ble_eq_true rfl) dX10_runs_93 ⟨Nat.zero_le _, Nat.zero_le _⟩) (fun u H locs hw hP hD hS => ?_)
            obtain ⟨hw, hn93⟩ := hw
            obtain ⟨g2, rfl⟩ : ∃ z, z = u := ⟨_, rfl⟩
            have hn93 : (g2 5) = (g_rn_59 5) + (1 : Int32) := hn93
            have hP : va_P E.1 vwCl [xModel h_mm a_mm (upd (upd (upd mm 18 s_mm_18_59) 19 s_mm_19_59) 20 s_mm_20_59), xI E (a_mm 5) 60 bt, xI E (a_mm 14) 6 g2] H := hP
            have hD : va_D A [xModel h_mm a_mm (upd (upd (upd mm 18 s_mm_18_59) 19 s_mm_19_59) 20 s_mm_20_59), xI E (a_mm 5) 60 bt, xI E (a_mm 14) 6 g2] := hD
            have hw : F_X10_tenth (upd (upd (upd mm 18 s_mm_18_59) 19 s_mm_19_59) 20 s_mm_20_59) bt g_rn_59 z = g2 := hw
            rw [hw] at hτ59
            have hτ59 : τ59 = F_X10_runs_k93 n again way s_mm_18_59 s_mm_20_59 s_mm_19_59 g2 := hτ59
            unfold F_X10_runs_k93 at hτ59
            refine lv_aload_n hx hb dX10_runs_96 rfl (lv_at hl 1 rfl) ?_
            refine lv_aload_n hx hb dX10_runs_97 rfl (lv_at hl 1 rfl) ?_
            refine va_get (D := E.1) (ci := 10) (v := .ref (a_mm 14)) (C := RX10) (T := TX10) (N := 27) hx hb hts iX10_runs_X10 hown hE.1 hP 0 rfl rfl 14 (by decide) (hts (.fieldLink RX10 19 "BandBoatModel" "run" "[I") (List.mem_of_getElem? (i := 1) rfl)) (fun _ h9 => h9) rfl dX10_runs_98 ?_
            refine lv_iconst (v := (1 : Int32)) hx hb dX10_runs_101 (by decide) ?_
            refine ar_ild (k := 1) (v := (g2 1)) hx hb hE hP 2 rfl (by unfold vp_in; decide) rfl rfl dX10_runs_102 ?_
            refine lv_aload_n hx hb dX10_runs_103 rfl (lv_at hl 1 rfl) ?_
            refine va_get (D := E.1) (ci := 10) (v := .int s_mm_18_59) (C := RX10) (T := TX10) (N := 27) hx hb hts iX10_runs_X10 hown hE.1 hP 0 rfl rfl 18 (by decide) (hts (.fieldLink RX10 135 "BandBoatModel" "fastest" "I") (List.mem_of_getElem? (i := 2) rfl)) (fun _ h9 => h9) rfl dX10_runs_104 ?_
            have hJ123 : ∀ (y0_123 : Int32) (H : Heap) (locs : List Loc) (ls : Array Slot), τ59 = F_X10_runs_j123 n again way s_mm_20_59 s_mm_19_59 g2 y0_123 → va_P E.1 vwCl [xModel h_mm a_mm (upd (upd (upd mm 18 s_mm_18_59) 19 s_mm_19_59) 20 s_mm_20_59), xI E (a_mm 5) 60 bt, xI E (a_mm 14) 6 g2] H → va_D A [xModel h_mm a_mm (upd (upd (upd mm 18 s_mm_18_59) 19 s_mm_19_59) 20 s_mm_20_59), xI E (a_mm 5) 60 bt, xI E (a_mm 14) 6 g2] → va_S A s.heap H locs → lv_has ls 7 [(6, .int bx6_3), (0, .ref h_mm), (1, .int n), (2, .int z), (3, .int most), (4, .int again), (5, .int way)] → W p l e ({ frames := 3, cells := 0, slots := 0, locals := 69 } : Room) s m ([.ref h_mm, .int n, .int z, .int most, .int again, .int way] : List Value).toArray below meth c H locs 0 0 Q (F0 m 123 ls [.int y0_123, .ref h_mm]) := by
              intro y0_123 H locs ls hτ59 hP hD hS hl
              unfold F_X10_runs_j123 at hτ59
              refine va_put (D := E.1) (ci := 10) (v := .int y0_123) (ty := .int) (C := RX10) (T := TX10) (N := 27) hx hb hts iX10_runs_X10 tyX10 tyX10_ok nmX10 hown hE.1 hP hD hS 0 rfl rfl 18 (by decide) (hts (.fieldLink RX10 135 "BandBoatModel" "fastest" "I") (List.mem_of_getElem? (i := 2) rfl)) (fun _ h9 => h9) rfl (by decide +kernel) rfl rfl (Nat.le_of_ble_eq_true rfl) dX10_runs_123 (fun H locs hP hD hS => ?_)
              have hP : va_P E.1 vwCl [xModel h_mm a_mm (upd (upd (upd mm 18 y0_123) 19 s_mm_19_59) 20 s_mm_20_59), xI E (a_mm 5) 60 bt, xI E (a_mm 14) 6 g2] H := hP
              have hD : va_D A [xModel h_mm a_mm (upd (upd (upd mm 18 y0_123) 19 s_mm_19_59) 20 s_mm_20_59), xI E (a_mm 5) 60 bt, xI E (a_mm 14) 6 g2] := hD
              refine lv_aload_n hx hb dX10_runs_126 rfl (lv_at hl 1 rfl) ?_
              refine lv_aload_n hx hb dX10_runs_127 rfl (lv_at hl 1 rfl) ?_
              refine va_get (D := E.1) (ci := 10) (v := .int s_mm_20_59) (C := RX10) (T := TX10) (N := 27) hx hb hts iX10_runs_X10 hown hE.1 hP 0 rfl rfl 20 (by decide) (hts (.fieldLink RX10 141 "BandBoatModel" "reached" "I") (List.mem_of_getElem? (i := 4) rfl)) (fun _ h9 => h9) rfl dX10_runs_128 ?_
              refine lv_bipush (v := (-4 : Int32)) hx hb dX10_runs_131 (by decide) ?_
              have hJ160 : ∀ (y0_160 : Int32) (H : Heap) (locs : List Loc) (ls : Array Slot), τ59 = F_X10_runs_j160 n again s_mm_19_59 g2 y0_123 y0_160 → va_P E.1 vwCl [xModel h_mm a_mm (upd (upd (upd mm 18 y0_123) 19 s_mm_19_59) 20 s_mm_20_59), xI E (a_mm 5) 60 bt, xI E (a_mm 14) 6 g2] H → va_D A [xModel h_mm a_mm (upd (upd (upd mm 18 y0_123) 19 s_mm_19_59) 20 s_mm_20_59), xI E (a_mm 5) 60 bt, xI E (a_mm 14) 6 g2] → va_S A s.heap H locs → lv_has ls 7 [(6, .int bx6_3), (0, .ref h_mm), (1, .int n), (2, .int z), (3, .int most), (4, .int again), (5, .int way)] → W p l e ({ frames := 3, cells := 0, slots := 0, locals := 69 } : Room) s m ([.ref h_mm, .int n, .int z, .int most, .int again, .int way] : List Value).toArray below meth c H locs 0 0 Q (F0 m 160 ls [.int y0_160, .ref h_mm]) := by
                intro y0_160 H locs ls hτ59 hP hD hS hl
                unfold F_X10_runs_j160 at hτ59
                refine va_put (D := E.1) (ci := 10) (v := .int y0_160) (ty := .int) (C := RX10) (T := TX10) (N := 27) hx hb hts iX10_runs_X10 tyX10 tyX10_ok nmX10 hown hE.1 hP hD hS 0 rfl rfl 20 (by decide) (hts (.fieldLink RX10 141 "BandBoatModel" "reached" "I") (List.mem_of_getElem? (i := 4) rfl)) (fun _ h9 => h9) rfl (by decide +kernel) rfl rfl (Nat.le_of_ble_eq_true rfl) dX10_runs_160 (fun H locs hP hD hS => ?_)
                have hP : va_P E.1 vwCl [xModel h_mm a_mm (upd (upd (upd mm 18 y0_123) 19 s_mm_19_59) 20 y0_160), xI E (a_mm 5) 60 bt, xI E (a_mm 14) 6 g2] H := hP
                have hD : va_D A [xModel h_mm a_mm (upd (upd (upd mm 18 y0_123) 19 s_mm_19_59) 20 y0_160), xI E (a_mm 5) 60 bt, xI E (a_mm 14) 6 g2] := hD
                refine lv_aload_n hx hb dX10_runs_163 rfl (lv_at hl 1 rfl) ?_
                refine va_get (D := E.1) (ci := 10) (v := .int s_mm_19_59) (C := RX10) (T := TX10) (N := 27) hx hb hts iX10_runs_X10 hown hE.1 hP 0 rfl rfl 19 (by decide) (hts (.fieldLink RX10 138 "BandBoatModel" "unwound" "I") (List.mem_of_getElem? (i := 3) rfl)) (fun _ h9 => h9) rfl dX10_runs_164 ?_
                refine lv_bipush (v := (-4 : Int32)) hx hb dX10_runs_167 (by decide) ?_
                refine lv_icmp_ne (tgt := 59) hx hb dX10_runs_169 (by decide) (fun c169 => ?_) (fun c169 => ?_)
                · rw [if_neg c169] at hτ59
                  have hσ59 : σ59 = F_X10_runs_l59 mm bt n z most again way n_59 y0_123 y0_160 s_mm_19_59 g2 := by subst hτ59; exact hσ59
                  exact ih y0_123 y0_160 s_mm_19_59 g2 _ _ _ (by show _ ≤ ((g2 5)).toInt + _; rw [hn93]; exact cnt_lt c66 hM59) hP hD hS (lv_sub hl [0, 1, 2, 3, 4, 5, 6] rfl) (fun os_mm_18_59 os_mm_20_59 os_mm_19_59 og_rn_59 H locs ls he => hK os_mm_18_59 os_mm_20_59 os_mm_19_59 og_rn_59 H locs ls (hσ059.trans (hσ59.trans he)))
                · rw [if_pos c169] at hτ59
                  refine lv_aload_n hx hb dX10_runs_172 rfl (lv_at hl 1 rfl) ?_
                  refine va_get (D := E.1) (ci := 10) (v := .ref (a_mm 14)) (C := RX10) (T := TX10) (N := 27) hx hb hts iX10_runs_X10 hown hE.1 hP 0 rfl rfl 14 (by decide) (hts (.fieldLink RX10 19 "BandBoatModel" "run" "[I") (List.mem_of_getElem? (i := 1) rfl)) (fun _ h9 => h9) rfl dX10_runs_173 ?_
                  refine lv_iconst (v := (0 : Int32)) hx hb dX10_runs_176 (by decide) ?_
                  refine ar_ild (k := 0) (v := (g2 0)) hx hb hE hP 2 rfl (by unfold vp_in; decide) rfl rfl dX10_runs_177 ?_
                  refine lv_if_ne (tgt := 59) hx hb dX10_runs_178 (by decide) (fun c178 => ?_) (fun c178 => ?_)
                  · rw [if_neg c178] at hτ59
                    have hσ59 : σ59 = F_X10_runs_l59 mm bt n z most again way n_59 y0_123 y0_160 s_mm_19_59 g2 := by subst hτ59; exact hσ59
                    exact ih y0_123 y0_160 s_mm_19_59 g2 _ _ _ (by show _ ≤ ((g2 5)).toInt + _; rw [hn93]; exact cnt_lt c66 hM59) hP hD hS (lv_sub hl [0, 1, 2, 3, 4, 5, 6] rfl) (fun os_mm_18_59 os_mm_20_59 os_mm_19_59 og_rn_59 H locs ls he => hK os_mm_18_59 os_mm_20_59 os_mm_19_59 og_rn_59 H locs ls (hσ059.trans (hσ59.trans he)))
                  · rw [if_pos c178] at hτ59
                    refine lv_aload_n hx hb dX10_runs_181 rfl (lv_at hl 1 rfl) ?_
                    refine lv_aload_n hx hb dX10_runs_182 rfl (lv_at hl 1 rfl) ?_
                    refine va_get (D := E.1) (ci := 10) (v := .ref (a_mm 14)) (C := RX10) (T := TX10) (N := 27) hx hb hts iX10_runs_X10 hown hE.1 hP 0 rfl rfl 14 (by decide) (hts (.fieldLink RX10 19 "BandBoatModel" "run" "[I") (List.mem_of_getElem? (i := 1) rfl)) (fun _ h9 => h9) rfl dX10_runs_183 ?_
                    refine lv_iconst (v := (5 : Int32)) hx hb dX10_runs_186 (by decide) ?_
                    refine ar_ild (k := 5) (v := (g2 5)) hx hb hE hP 2 rfl (by unfold vp_in; decide) rfl rfl dX10_runs_187 ?_
                    refine va_put (D := E.1) (ci := 10) (v := .int (g2 5)) (ty := .int) (C := RX10) (T := TX10) (N := 27) hx hb hts iX10_runs_X10 tyX10 tyX10_ok nmX10 hown hE.1 hP hD hS 0 rfl rfl 19 (by decide) (hts (.fieldLink RX10 138 "BandBoatModel" "unwound" "I") (List.mem_of_getElem? (i := 3) rfl)) (fun _ h9 => h9) rfl (by decide +kernel) rfl rfl (Nat.le_of_ble_eq_true rfl) dX10_runs_188 (fun H locs hP hD hS => ?_)
                    have hP : va_P E.1 vwCl [xModel h_mm a_mm (upd (upd (upd mm 18 y0_123) 19 (g2 5)) 20 y0_160), xI E (a_mm 5) 60 bt, xI E (a_mm 14) 6 g2] H := hP
                    have hD : va_D A [xModel h_mm a_mm (upd (upd (upd mm 18 y0_123) 19 (g2 5)) 20 y0_160), xI E (a_mm 5) 60 bt, xI E (a_mm 14) 6 g2] := hD
                    refine lv_aload_n hx hb dX10_runs_191 rfl (lv_at hl 1 rfl) ?_
                    refine va_get (D := E.1) (ci := 10) (v := .ref (a_mm 14)) (C := RX10) (T := TX10) (N := 27) hx hb hts iX10_runs_X10 hown hE.1 hP 0 rfl rfl 14 (by decide) (hts (.fieldLink RX10 19 "BandBoatModel" "run" "[I") (List.mem_of_getElem? (i := 1) rfl)) (fun _ h9 => h9) rfl dX10_runs_192 ?_
                    refine lv_iconst (v := (0 : Int32)) hx hb dX10_runs_195 (by decide) ?_
                    refine lv_iload hx hb dX10_runs_196 (lv_at hl 5 rfl) ?_
                    have hJ209 : ∀ (y0_209 : Int32) (H : Heap) (locs : List Loc) (ls : Array Slot), τ59 = F_X10_runs_j209 g2 y0_123 y0_160 y0_209 → va_P E.1 vwCl [xModel h_mm a_mm (upd (upd (upd mm 18 y0_123) 19 (g2 5)) 20 y0_160), xI E (a_mm 5) 60 bt, xI E (a_mm 14) 6 g2] H → va_D A [xModel h_mm a_mm (upd (upd (upd mm 18 y0_123) 19 (g2 5)) 20 y0_160), xI E (a_mm 5) 60 bt, xI E (a_mm 14) 6 g2] → va_S A s.heap H locs → lv_has ls 7 [(6, .int bx6_3), (0, .ref h_mm), (1, .int n), (2, .int z), (3, .int most), (4, .int again), (5, .int way)] → W p l e ({ frames := 3, cells := 0, slots := 0, locals := 69 } : Room) s m ([.ref h_mm, .int n, .int z, .int most, .int again, .int way] : List Value).toArray below meth c H locs 0 0 Q (F0 m 209 ls [.int y0_209, .int (0 : Int32), .ref (a_mm 14)]) := by
                      intro y0_209 H locs ls hτ59 hP hD hS hl
                      unfold F_X10_runs_j209 at hτ59
                      refine ar_ist (k := 0) (ws' := [xModel h_mm a_mm (upd (upd (upd mm 18 y0_123) 19 (g2 5)) 20 y0_160), xI E (a_mm 5) 60 bt, xI E (a_mm 14) 6 (upd g2 0 y0_209)]) hx hb hE hP hD hS 2 rfl (by unfold vp_in; decide) rfl rfl dX10_runs_209 (fun H locs hP hD hS => ?_)
                      refine lv_goto (tgt := 59) hx hb dX10_runs_210 (by decide) ?_
                      have hσ59 : σ59 = F_X10_runs_l59 mm bt n z most again way n_59 y0_123 y0_160 (g2 5) (upd g2 0 y0_209) := by subst hτ59; exact hσ59
                      exact ih y0_123 y0_160 (g2 5) (upd g2 0 y0_209) _ _ _ (by show _ ≤ ((g2 5)).toInt + _; rw [hn93]; exact cnt_lt c66 hM59) hP hD hS (lv_sub hl [0, 1, 2, 3, 4, 5, 6] rfl) (fun os_mm_18_59 os_mm_20_59 os_mm_19_59 og_rn_59 H locs ls he => hK os_mm_18_59 os_mm_20_59 os_mm_19_59 og_rn_59 H locs ls (hσ059.trans (hσ59.trans he)))
                    refine lv_if_eq (tgt := 208) hx hb dX10_runs_198 (by decide) (fun c198 => ?_) (fun c198 => ?_)
                    · rw [if_pos c198] at hτ59
                      refine lv_iconst (v := (0 : Int32)) hx hb dX10_runs_208 (by decide) ?_
                      exact hJ209 (0 : Int32) _ _ _ hτ59 hP hD hS (lv_sub hl [0, 1, 2, 3, 4, 5, 6] rfl)
                    · rw [if_neg c198] at hτ59
                      refine lv_bipush (v := (100 : Int32)) hx hb dX10_runs_201 (by decide) ?_
                      refine lv_iload_n hx hb dX10_runs_203 rfl (lv_at hl 2 rfl) ?_
                      refine lv_imul hx hb dX10_runs_204 ?_
                      refine lv_goto (tgt := 209) hx hb dX10_runs_205 (by decide) ?_
                      exact hJ209 ((100 : Int32) * n) _ _ _ hτ59 hP hD hS (lv_sub hl [0, 1, 2, 3, 4, 5, 6] rfl)
              have hJ156 : ∀ (H : Heap) (locs : List Loc) (ls : Array Slot), τ59 = F_X10_runs_j156 n again s_mm_20_59 s_mm_19_59 g2 y0_123 → va_P E.1 vwCl [xModel h_mm a_mm (upd (upd (upd mm 18 y0_123) 19 s_mm_19_59) 20 s_mm_20_59), xI E (a_mm 5) 60 bt, xI E (a_mm 14) 6 g2] H → va_D A [xModel h_mm a_mm (upd (upd (upd mm 18 y0_123) 19 s_mm_19_59) 20 s_mm_20_59), xI E (a_mm 5) 60 bt, xI E (a_mm 14) 6 g2] → va_S A s.heap H locs → lv_has ls 7 [(6, .int bx6_3), (0, .ref h_mm), (1, .int n), (2, .int z), (3, .int most), (4, .int again), (5, .int way)] → W p l e ({ frames := 3, cells := 0, slots := 0, locals := 69 } : Room) s m ([.ref h_mm, .int n, .int z, .int most, .int again, .int way] : List Value).toArray below meth c H locs 0 0 Q (F0 m 156 ls [.ref h_mm]) := by
                intro  H locs ls hτ59 hP hD hS hl
                unfold F_X10_runs_j156 at hτ59
                refine lv_aload_n hx hb dX10_runs_156 rfl (lv_at hl 1 rfl) ?_
                refine va_get (D := E.1) (ci := 10) (v := .int s_mm_20_59) (C := RX10) (T := TX10) (N := 27) hx hb hts iX10_runs_X10 hown hE.1 hP 0 rfl rfl 20 (by decide) (hts (.fieldLink RX10 141 "BandBoatModel" "reached" "I") (List.mem_of_getElem? (i := 4) rfl)) (fun _ h9 => h9) rfl dX10_runs_157 ?_
                exact hJ160 s_mm_20_59 _ _ _ hτ59 hP hD hS (lv_sub hl [0, 1, 2, 3, 4, 5, 6] rfl)
              refine lv_icmp_ne (tgt := 156) hx hb dX10_runs_133 (by decide) (fun c133 => ?_) (fun c133 => ?_)
              · rw [if_neg c133] at hτ59
                exact hJ156 _ _ _ hτ59 hP hD hS (lv_sub hl [0, 1, 2, 3, 4, 5, 6] rfl)
              · rw [if_pos c133] at hτ59
                refine lv_aload_n hx hb dX10_runs_136 rfl (lv_at hl 1 rfl) ?_
                refine va_get (D := E.1) (ci := 10) (v := .ref (a_mm 14)) (C := RX10) (T := TX10) (N := 27) hx hb hts iX10_runs_X10 hown hE.1 hP 0 rfl rfl 14 (by decide) (hts (.fieldLink RX10 19 "BandBoatModel" "run" "[I") (List.mem_of_getElem? (i := 1) rfl)) (fun _ h9 => h9) rfl dX10_runs_137 ?_
                refine lv_iconst (v := (2 : Int32)) hx hb dX10_runs_140 (by decide) ?_
                refine ar_ild (k := 2) (v := (g2 2)) hx hb hE hP 2 rfl (by unfold vp_in; decide) rfl rfl dX10_runs_141 ?_
                refine lv_iload hx hb dX10_runs_142 (lv_at hl 6 rfl) ?_
                refine lv_icmp_lt (tgt := 156) hx hb dX10_runs_144 (by decide) (fun c144 => ?_) (fun c144 => ?_)
                · rw [if_pos c144] at hτ59
                  exact hJ156 _ _ _ hτ59 hP hD hS (lv_sub hl [0, 1, 2, 3, 4, 5, 6] rfl)
                · rw [if_neg c144] at hτ59
                  refine lv_aload_n hx hb dX10_runs_147 rfl (lv_at hl 1 rfl) ?_
                  refine va_get (D := E.1) (ci := 10) (v := .ref (a_mm 14)) (C := RX10) (T := TX10) (N := 27) hx hb hts iX10_runs_X10 hown hE.1 hP 0 rfl rfl 14 (by decide) (hts (.fieldLink RX10 19 "BandBoatModel" "run" "[I") (List.mem_of_getElem? (i := 1) rfl)) (fun _ h9 => h9) rfl dX10_runs_148 ?_
                  refine lv_iconst (v := (5 : Int32)) hx hb dX10_runs_151 (by decide) ?_
                  refine ar_ild (k := 5) (v := (g2 5)) hx hb hE hP 2 rfl (by unfold vp_in; decide) rfl rfl dX10_runs_152 ?_
                  refine lv_goto (tgt := 160) hx hb dX10_runs_153 (by decide) ?_
                  exact hJ160 (g2 5) _ _ _ hτ59 hP hD hS (lv_sub hl [0, 1, 2, 3, 4, 5, 6] rfl)
            refine lv_icmp_le (tgt := 119) hx hb dX10_runs_107 (by decide) (fun c107 => ?_) (fun c107 => ?_)
            · rw [if_pos c107] at hτ59
              refine lv_aload_n hx hb dX10_runs_119 rfl (lv_at hl 1 rfl) ?_
              refine va_get (D := E.1) (ci := 10) (v := .int s_mm_18_59) (C := RX10) (T := TX10) (N := 27) hx hb hts iX10_runs_X10 hown hE.1 hP 0 rfl rfl 18 (by decide) (hts (.fieldLink RX10 135 "BandBoatModel" "fastest" "I") (List.mem_of_getElem? (i := 2) rfl)) (fun _ h9 => h9) rfl dX10_runs_120 ?_
              exact hJ123 s_mm_18_59 _ _ _ hτ59 hP hD hS (lv_sub hl [0, 1, 2, 3, 4, 5, 6] rfl)
            · rw [if_neg c107] at hτ59
              refine lv_aload_n hx hb dX10_runs_110 rfl (lv_at hl 1 rfl) ?_
              refine va_get (D := E.1) (ci := 10) (v := .ref (a_mm 14)) (C := RX10) (T := TX10) (N := 27) hx hb hts iX10_runs_X10 hown hE.1 hP 0 rfl rfl 14 (by decide) (hts (.fieldLink RX10 19 "BandBoatModel" "run" "[I") (List.mem_of_getElem? (i := 1) rfl)) (fun _ h9 => h9) rfl dX10_runs_111 ?_
              refine lv_iconst (v := (1 : Int32)) hx hb dX10_runs_114 (by decide) ?_
              refine ar_ild (k := 1) (v := (g2 1)) hx hb hE hP 2 rfl (by unfold vp_in; decide) rfl rfl dX10_runs_115 ?_
              refine lv_goto (tgt := 123) hx hb dX10_runs_116 (by decide) ?_
              exact hJ123 (g2 1) _ _ _ hτ59 hP hD hS (lv_sub hl [0, 1, 2, 3, 4, 5, 6] rfl)
          refine lv_if_gt (tgt := 87) hx hb dX10_runs_75 (by decide) (fun c75 => ?_) (fun c75 => ?_)
          · rw [if_pos c75] at hτ59
            exact hJ87 _ _ _ hτ59 hP hD hS (lv_sub hl [0, 1, 2, 3, 4, 5, 6] rfl)
          · rw [if_neg c75] at hτ59
            refine lv_aload_n hx hb dX10_runs_78 rfl (lv_at hl 1 rfl) ?_
            refine va_get (D := E.1) (ci := 10) (v := .ref (a_mm 14)) (C := RX10) (T := TX10) (N := 27) hx hb hts iX10_runs_X10 hown hE.1 hP 0 rfl rfl 14 (by decide) (hts (.fieldLink RX10 19 "BandBoatModel" "run" "[I") (List.mem_of_getElem? (i := 1) rfl)) (fun _ h9 => h9) rfl dX10_runs_79 ?_
            refine lv_iconst (v := (1 : Int32)) hx hb dX10_runs_82 (by decide) ?_
            refine ar_ild (k := 1) (v := (g_rn_59 1)) hx hb hE hP 2 rfl (by unfold vp_in; decide) rfl rfl dX10_runs_83 ?_
            refine lv_if_le (tgt := 213) hx hb dX10_runs_84 (by decide) (fun c84 => ?_) (fun c84 => ?_)
            · rw [if_pos c84] at hτ59
              have hσ59 : σ59 = (s_mm_18_59, s_mm_20_59, s_mm_19_59, g_rn_59) := by subst hτ59; exact hσ59
              exact hK s_mm_18_59 s_mm_20_59 s_mm_19_59 g_rn_59 _ _ _ (hσ059.trans hσ59) hP hD hS (lv_sub hl [0, 1, 2, 3, 4, 5, 6] rfl)
            · rw [if_neg c84] at hτ59
              exact hJ87 _ _ _ hτ59 hP hD hS (lv_sub hl [0, 1, 2, 3, 4, 5, 6] rfl)
    refine hL59 ((Int32.toInt most).toNat) (0 : Int32) (-4 : Int32) y0_50 (upd bg_rn_3 0 v1) _ _ _ (by have h := hI 5 (by decide); show _ ≤ ((bg_rn_3 5)).toInt + _; rw [h]; show _ ≤ (0 : Int) + _; omega) hP hD hS (lv_sub hl [0, 1, 2, 3, 4, 5, 6] rfl) ?_
    intro bs_mm_18_59 bs_mm_20_59 bs_mm_19_59 bg_rn_59 H locs ls he hP hD hS hl
    rw [he] at hρ
    have hρ : ρ = F_X10_runs_x59 bs_mm_18_59 bs_mm_20_59 bs_mm_19_59 bg_rn_59 := hρ
    unfold F_X10_runs_x59 at hρ
    refine lv_aload_n hx hb dX10_runs_213 rfl (lv_at hl 1 rfl) ?_
    refine lv_aload_n hx hb dX10_runs_214 rfl (lv_at hl 1 rfl) ?_
    refine va_get (D := E.1) (ci := 10) (v := .ref (a_mm 14)) (C := RX10) (T := TX10) (N := 27) hx hb hts iX10_runs_X10 hown hE.1 hP 0 rfl rfl 14 (by decide) (hts (.fieldLink RX10 19 "BandBoatModel" "run" "[I") (List.mem_of_getElem? (i := 1) rfl)) (fun _ h9 => h9) rfl dX10_runs_215 ?_
    refine lv_iconst (v := (5 : Int32)) hx hb dX10_runs_218 (by decide) ?_
    refine ar_ild (k := 5) (v := (bg_rn_59 5)) hx hb hE hP 2 rfl (by unfold vp_in; decide) rfl rfl dX10_runs_219 ?_
    refine va_put (D := E.1) (ci := 10) (v := .int (bg_rn_59 5)) (ty := .int) (C := RX10) (T := TX10) (N := 27) hx hb hts iX10_runs_X10 tyX10 tyX10_ok nmX10 hown hE.1 hP hD hS 0 rfl rfl 17 (by decide) (hts (.fieldLink RX10 148 "BandBoatModel" "runTenths" "I") (List.mem_of_getElem? (i := 5) rfl)) (fun _ h9 => h9) rfl (by decide +kernel) rfl rfl (Nat.le_of_ble_eq_true rfl) dX10_runs_220 (fun H locs hP hD hS => ?_)
    have hP : va_P E.1 vwCl [xModel h_mm a_mm (upd (upd (upd (upd mm 17 (bg_rn_59 5)) 18 bs_mm_18_59) 19 bs_mm_19_59) 20 bs_mm_20_59), xI E (a_mm 5) 60 bt, xI E (a_mm 14) 6 bg_rn_59] H := hP
    have hD : va_D A [xModel h_mm a_mm (upd (upd (upd (upd mm 17 (bg_rn_59 5)) 18 bs_mm_18_59) 19 bs_mm_19_59) 20 bs_mm_20_59), xI E (a_mm 5) 60 bt, xI E (a_mm 14) 6 bg_rn_59] := hD
    exact hq ((bg_rn_59 5), bs_mm_18_59, bs_mm_19_59, bs_mm_20_59, bg_rn_59) _ _ _ _ dX10_runs_223 (hρ0.trans hρ) hP hD hS
  refine lv_if_ne (tgt := 48) hx hb dX10_runs_41 (by decide) (fun c41 => ?_) (fun c41 => ?_)
  · rw [if_neg c41] at hρ
    refine lv_bipush (v := (-4 : Int32)) hx hb dX10_runs_48 (by decide) ?_
    exact hJ50 (-4 : Int32) _ _ _ hρ hP hD hS (lv_sub hl [0, 1, 2, 3, 4, 5, 6] rfl)
  · rw [if_pos c41] at hρ
    refine lv_iconst (v := (0 : Int32)) hx hb dX10_runs_44 (by decide) ?_
    refine lv_goto (tgt := 50) hx hb dX10_runs_45 (by decide) ?_
    exact hJ50 (0 : Int32) _ _ _ hρ hP hD hS (lv_sub hl [0, 1, 2, 3, 4, 5, 6] rfl)
def F_X10_placeOf_k8 (v1 : Int32) (v2 : Int32) (v3 : Int32) (v4 : Int32) (g5 : Nat → Int32) : Int32 × Int32 × Int32 × Int32 × Int32 × (Nat → Int32) := ((g5 2), v1, v2, v3, v4, g5)
def F_X10_placeOf (mm : Nat → Int32) (bt : Nat → Int32) (rn : Nat → Int32) (n : Int32) (z : Int32) : Int32 × Int32 × Int32 × Int32 × Int32 × (Nat → Int32) := (match F_X10_runs mm bt rn n z (600 : Int32) (0 : Int32) (1 : Int32) with | (v1, v2, v3, v4, g5) => F_X10_placeOf_k8 v1 v2 v3 v4 g5)
theorem iX10_placeOf_X10 : ∀ w ∈ wsX100, w ∈ wsX10_placeOf := fun _ h => List.mem_cons_of_mem _ (List.mem_append_right _ h)
set_option maxHeartbeats 4000000 in
set_option maxRecDepth 100000 in
theorem c_X10_placeOf (l : Launch) (E : wV) (h_mm : Nat) (a_mm : Nat → Nat) (mm : Nat → Int32) (bt : Nat → Int32) (rn : Nat → Int32) (n : Int32) (z : Int32) (hB : btOK bt) (hQ : mmOK mm) : MetI l yX10_placeOf wsX10_placeOf ({ frames := 4, cells := 0, slots := 0, locals := 95 } : Room) E ([.ref h_mm, .int n, .int z] : List Value) [xModel h_mm a_mm mm, xI E (a_mm 5) 60 bt, xI E (a_mm 14) 6 rn] (fun (r : Int32) (u : Int32 × Int32 × Int32 × Int32 × (Nat → Int32)) => F_X10_placeOf mm bt rn n z = (r, u)) (fun (u : Int32 × Int32 × Int32 × Int32 × (Nat → Int32)) => [xModel h_mm a_mm (upd (upd (upd (upd mm 17 u.1) 18 u.2.1) 19 u.2.2.1) 20 u.2.2.2.1), xI E (a_mm 5) 60 bt, xI E (a_mm 14) 6 u.2.2.2.2]) := by
  refine MetI.of (cc := cX10_placeOf) (maxL := 3) (own := RX10) (by decide) rfl rfl (Nat.le_of_ble_eq_true rfl) ?_
  intro p e s m below meth c A Q ls cx hP hD hS hl hq
  obtain ⟨hx, hb, hml, hown, hts, hE, hA⟩ := id cx
  have hl : lv_has ls 3 [(0, .ref h_mm), (1, .int n), (2, .int z)] := hl
  have hP : va_P E.1 vwCl [xModel h_mm a_mm mm, xI E (a_mm 5) 60 bt, xI E (a_mm 14) 6 rn] s.heap := hP
  obtain ⟨ρ, hρ0⟩ : ∃ ρ, F_X10_placeOf mm bt rn n z = ρ := ⟨_, rfl⟩
  have hρ := hρ0.symm
  unfold F_X10_placeOf at hρ
  refine lv_aload_n hx hb dX10_placeOf_0 rfl (lv_at hl 0 rfl) ?_
  refine lv_iload_n hx hb dX10_placeOf_1 rfl (lv_at hl 1 rfl) ?_
  refine lv_iload_n hx hb dX10_placeOf_2 rfl (lv_at hl 2 rfl) ?_
  refine lv_sipush (v := (600 : Int32)) hx hb dX10_placeOf_3 (by decide) ?_
  refine lv_iconst (v := (0 : Int32)) hx hb dX10_placeOf_6 (by decide) ?_
  refine lv_iconst (v := (1 : Int32)) hx hb dX10_placeOf_7 (by decide) ?_
  refine kV (wc := [xModel h_mm a_mm mm, xI E (a_mm 5) 60 bt, xI E (a_mm 14) 6 rn]) (wr := []) (wc' := (fun (u : Int32 × Int32 × Int32 × Int32 × (Nat → Int32)) => [xModel h_mm a_mm (upd (upd (upd (upd mm 17 u.1) 18 u.2.1) 19 u.2.2.1) 20 u.2.2.2.1), xI E (a_mm 5) 60 bt, xI E (a_mm 14) 6 u.2.2.2.2])) (wn := (fun (u : Int32 × Int32 × Int32 × Int32 × (Nat → Int32)) => [xModel h_mm a_mm (upd (upd (upd (upd mm 17 u.1) 18 u.2.1) 19 u.2.2.1) 20 u.2.2.2.1), xI E (a_mm 5) 60 bt, xI E (a_mm 14) 6 u.2.2.2.2])) (isC := [0, 1, 2]) (isR := []) (is2 := [0, 1, 2]) cx hP hD hS ⟨rfl, rfl, by decide, by decide, by decide, by decide, fun _ => rfl⟩ (rV (As := [.int n, .int z, .int (600 : Int32), .int (0 : Int32), .int (1 : Int32)]) (rest := []) (C := RX10) (q0 := 0) (ci := 10) cx (c_X10_runs l E h_mm a_mm mm bt rn n z (600 : Int32) (0 : Int32) (1 : Int32) (hB) (hQ) _) (cwV 5 hts gX10_placeOf_X10_runs rfl rfl rfl (by decide +kernel) ⟨Nat.le_of_ble_eq_true rfl, Nat.le_of_ble_eq_true rfl⟩) rfl rfl rfl rfl hl.1 rfl (Nat.le_of_ble_eq_true rfl) dX10_placeOf_8 ⟨Nat.zero_le _, Nat.zero_le _⟩) (fun u H locs hw hP hD hS => ?_)
  obtain ⟨v1, v2, v3, v4, g5⟩ := u
  have hP : va_P E.1 vwCl [xModel h_mm a_mm (upd (upd (upd (upd mm 17 v1) 18 v2) 19 v3) 20 v4), xI E (a_mm 5) 60 bt, xI E (a_mm 14) 6 g5] H := hP
  have hD : va_D A [xModel h_mm a_mm (upd (upd (upd (upd mm 17 v1) 18 v2) 19 v3) 20 v4), xI E (a_mm 5) 60 bt, xI E (a_mm 14) 6 g5] := hD
  have hw : F_X10_runs mm bt rn n z (600 : Int32) (0 : Int32) (1 : Int32) = (v1, v2, v3, v4, g5) := hw
  rw [hw] at hρ
  have hρ : ρ = F_X10_placeOf_k8 v1 v2 v3 v4 g5 := hρ
  unfold F_X10_placeOf_k8 at hρ
  refine lv_aload_n hx hb dX10_placeOf_11 rfl (lv_at hl 0 rfl) ?_
  refine va_get (D := E.1) (ci := 10) (v := .ref (a_mm 14)) (C := RX10) (T := TX10) (N := 27) hx hb hts iX10_placeOf_X10 hown hE.1 hP 0 rfl rfl 14 (by decide) (hts (.fieldLink RX10 19 "BandBoatModel" "run" "[I") (List.mem_of_getElem? (i := 1) rfl)) (fun _ h9 => h9) rfl dX10_placeOf_12 ?_
  refine lv_iconst (v := (2 : Int32)) hx hb dX10_placeOf_15 (by decide) ?_
  refine ar_ild (k := 2) (v := (g5 2)) hx hb hE hP 2 rfl (by unfold vp_in; decide) rfl rfl dX10_placeOf_16 ?_
  exact hq (g5 2) (v1, v2, v3, v4, g5) _ _ _ _ dX10_placeOf_17 rfl (hρ0.trans hρ) hP hD hS
