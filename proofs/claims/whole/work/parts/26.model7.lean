def F_X10_pull_k18 (mm : Nat → Int32) (bt : Nat → Int32) (parts : Int32) (down : Int32) (v2 : Int32) (v3 : Int32) (v4 : Int32) (v5 : Int32) (v6 : Int32) (v7 : Int32) (v8 : Int32) : Int32 × Int32 × Int32 × Int32 × Int32 × Int32 × Int32 × Int32 × Int32 := (if down = (0 : Int32) then ((F_X10_woundPull (upd (upd (upd (upd (upd (upd (upd (upd mm 0 (0 : Int32)) 6 v2) 7 v3) 8 v4) 9 v5) 10 v6) 11 v7) 12 v8) bt parts), (0 : Int32), v2, v3, v4, v5, v6, v7, v8) else ((F_X10_freePull (upd (upd (upd (upd (upd (upd (upd (upd mm 0 (0 : Int32)) 6 v2) 7 v3) 8 v4) 9 v5) 10 v6) 11 v7) 12 v8) bt parts), (0 : Int32), v2, v3, v4, v5, v6, v7, v8))
def F_X10_pull (mm : Nat → Int32) (bt : Nat → Int32) (parts : Int32) (down : Int32) : Int32 × Int32 × Int32 × Int32 × Int32 × Int32 × Int32 × Int32 × Int32 := (if (F_X10_in parts (0 : Int32) (40000 : Int32)) = (0 : Int32) then ((-1 : Int32), (0 : Int32), (mm 6), (mm 7), (mm 8), (mm 9), (mm 10), (mm 11), (mm 12)) else (match F_X10_asItIs bt with | (v2, v3, v4, v5, v6, v7, v8) => F_X10_pull_k18 mm bt parts down v2 v3 v4 v5 v6 v7 v8))
theorem iX10_pull_X10 : ∀ w ∈ wsX100, w ∈ wsX10_pull := fun _ h => List.mem_cons_of_mem _ (List.mem_append_right _ h)
set_option maxHeartbeats 4000000 in
set_option maxRecDepth 100000 in
theorem c_X10_pull (l : Launch) (E : wV) (h_mm : Nat) (a_mm : Nat → Nat) (mm : Nat → Int32) (bt : Nat → Int32) (parts : Int32) (down : Int32) (hB : btOK bt) : MetI l yX10_pull wsX10_pull ({ frames := 2, cells := 0, slots := 0, locals := 44 } : Room) E ([.ref h_mm, .int parts, .int down] : List Value) [xModel h_mm a_mm mm, xI E (a_mm 5) 60 bt] (fun (r : Int32) (u : Int32 × Int32 × Int32 × Int32 × Int32 × Int32 × Int32 × Int32) => F_X10_pull mm bt parts down = (r, u)) (fun (u : Int32 × Int32 × Int32 × Int32 × Int32 × Int32 × Int32 × Int32) => [xModel h_mm a_mm (upd (upd (upd (upd (upd (upd (upd (upd mm 0 u.1) 6 u.2.1) 7 u.2.2.1) 8 u.2.2.2.1) 9 u.2.2.2.2.1) 10 u.2.2.2.2.2.1) 11 u.2.2.2.2.2.2.1) 12 u.2.2.2.2.2.2.2), xI E (a_mm 5) 60 bt]) := by
  refine MetI.of (cc := cX10_pull) (maxL := 3) (own := RX10) (by decide) rfl rfl (Nat.le_of_ble_eq_true rfl) ?_
  intro p e s m below meth c A Q ls cx hP hD hS hl hq
  obtain ⟨hx, hb, hml, hown, hts, hE, hA⟩ := id cx
  have hl : lv_has ls 3 [(0, .ref h_mm), (1, .int parts), (2, .int down)] := hl
  have hP : va_P E.1 vwCl [xModel h_mm a_mm mm, xI E (a_mm 5) 60 bt] s.heap := hP
  obtain ⟨ρ, hρ0⟩ : ∃ ρ, F_X10_pull mm bt parts down = ρ := ⟨_, rfl⟩
  have hρ := hρ0.symm
  unfold F_X10_pull at hρ
  refine lv_aload_n hx hb dX10_pull_0 rfl (lv_at hl 0 rfl) ?_
  refine lv_iconst (v := (0 : Int32)) hx hb dX10_pull_1 (by decide) ?_
  refine va_put (D := E.1) (ci := 10) (v := .int (0 : Int32)) (ty := .int) (C := RX10) (T := TX10) (N := 27) hx hb hts iX10_pull_X10 tyX10 tyX10_ok nmX10 hown hE.1 hP hD hS 0 rfl rfl 0 (by decide) (hts (.fieldLink RX10 41 "BandBoatModel" "thrown" "I") (List.mem_of_getElem? (i := 1) rfl)) (fun _ h9 => h9) rfl (by decide +kernel) rfl rfl (Nat.le_of_ble_eq_true rfl) dX10_pull_2 (fun H locs hP hD hS => ?_)
  have hP : va_P E.1 vwCl [xModel h_mm a_mm (upd mm 0 (0 : Int32)), xI E (a_mm 5) 60 bt] H := hP
  have hD : va_D A [xModel h_mm a_mm (upd mm 0 (0 : Int32)), xI E (a_mm 5) 60 bt] := hD
  refine lv_iload_n hx hb dX10_pull_5 rfl (lv_at hl 1 rfl) ?_
  refine lv_iconst (v := (0 : Int32)) hx hb dX10_pull_6 (by decide) ?_
  refine lv_ldc (own := RX10) (v := (40000 : Int32)) hx hb hown (hts (.constant RX10 113 (40000)) (List.mem_of_getElem? (i := 2) rfl)) dX10_pull_7 ?_
  refine kI (wc := []) (wr := [xModel h_mm a_mm (upd mm 0 (0 : Int32)), xI E (a_mm 5) 60 bt]) (wc' := (fun (_ : Unit) => [])) (wn := (fun (_ : Unit) => [xModel h_mm a_mm (upd mm 0 (0 : Int32)), xI E (a_mm 5) 60 bt])) (isC := []) (isR := [0, 1]) (is2 := [0, 1]) cx hP hD hS ⟨rfl, rfl, by decide, by decide, by decide, by decide, fun _ => rfl⟩ (rS (As := [.int parts, .int (0 : Int32), .int (40000 : Int32)]) (rest := []) cx (c_X10_in l E parts (0 : Int32) (40000 : Int32) _) (va_cwS 3 hts gX10_pull_X10_in rfl rfl rfl (by decide +kernel) ⟨Nat.le_of_ble_eq_true rfl, Nat.le_of_ble_eq_true rfl⟩) rfl hl.1 rfl (Nat.le_of_ble_eq_true rfl) dX10_pull_9 ⟨Nat.zero_le _, Nat.zero_le _⟩) (fun r1 u H locs hw hP hD hS => ?_)
  subst hw
  refine lv_if_ne (tgt := 17) hx hb dX10_pull_12 (by decide) (fun c12 => ?_) (fun c12 => ?_)
  · rw [if_neg c12] at hρ
    refine lv_aload_n hx hb dX10_pull_17 rfl (lv_at hl 0 rfl) ?_
    refine kV (wc := [xModel h_mm a_mm (upd mm 0 (0 : Int32)), xI E (a_mm 5) 60 bt]) (wr := []) (wc' := (fun (u : Int32 × Int32 × Int32 × Int32 × Int32 × Int32 × Int32) => [xModel h_mm a_mm (upd (upd (upd (upd (upd (upd (upd (upd mm 0 (0 : Int32)) 6 u.1) 7 u.2.1) 8 u.2.2.1) 9 u.2.2.2.1) 10 u.2.2.2.2.1) 11 u.2.2.2.2.2.1) 12 u.2.2.2.2.2.2), xI E (a_mm 5) 60 bt])) (wn := (fun (u : Int32 × Int32 × Int32 × Int32 × Int32 × Int32 × Int32) => [xModel h_mm a_mm (upd (upd (upd (upd (upd (upd (upd (upd mm 0 (0 : Int32)) 6 u.1) 7 u.2.1) 8 u.2.2.1) 9 u.2.2.2.1) 10 u.2.2.2.2.1) 11 u.2.2.2.2.2.1) 12 u.2.2.2.2.2.2), xI E (a_mm 5) 60 bt])) (isC := [0, 1]) (isR := []) (is2 := [0, 1]) cx hP hD hS ⟨rfl, rfl, by decide, by decide, by decide, by decide, fun _ => rfl⟩ (rV (As := []) (rest := []) (C := RX10) (q0 := 0) (ci := 10) cx (c_X10_asItIs l E h_mm a_mm (upd mm 0 (0 : Int32)) bt (hB) _) (cwV 0 hts gX10_pull_X10_asItIs rfl rfl rfl (by decide +kernel) ⟨Nat.le_of_ble_eq_true rfl, Nat.le_of_ble_eq_true rfl⟩) rfl rfl rfl rfl hl.1 rfl (Nat.le_of_ble_eq_true rfl) dX10_pull_18 ⟨Nat.zero_le _, Nat.zero_le _⟩) (fun u H locs hw hP hD hS => ?_)
    obtain ⟨hw, hn18⟩ := hw
    obtain ⟨v2, v3, v4, v5, v6, v7, v8⟩ := u
    have hn18 : (v5) = (bt 17) ∧ (v6) = (bt 18) ∧ (v7) = (bt 19) := hn18
    have hP : va_P E.1 vwCl [xModel h_mm a_mm (upd (upd (upd (upd (upd (upd (upd (upd mm 0 (0 : Int32)) 6 v2) 7 v3) 8 v4) 9 v5) 10 v6) 11 v7) 12 v8), xI E (a_mm 5) 60 bt] H := hP
    have hD : va_D A [xModel h_mm a_mm (upd (upd (upd (upd (upd (upd (upd (upd mm 0 (0 : Int32)) 6 v2) 7 v3) 8 v4) 9 v5) 10 v6) 11 v7) 12 v8), xI E (a_mm 5) 60 bt] := hD
    have hw : F_X10_asItIs bt = (v2, v3, v4, v5, v6, v7, v8) := hw
    rw [hw] at hρ
    have hρ : ρ = F_X10_pull_k18 mm bt parts down v2 v3 v4 v5 v6 v7 v8 := hρ
    unfold F_X10_pull_k18 at hρ
    refine lv_iload_n hx hb dX10_pull_21 rfl (lv_at hl 2 rfl) ?_
    refine lv_if_eq (tgt := 33) hx hb dX10_pull_22 (by decide) (fun c22 => ?_) (fun c22 => ?_)
    · rw [if_pos c22] at hρ
      refine lv_aload_n hx hb dX10_pull_33 rfl (lv_at hl 0 rfl) ?_
      refine lv_iload_n hx hb dX10_pull_34 rfl (lv_at hl 1 rfl) ?_
      refine kI (wc := [xModel h_mm a_mm (upd (upd (upd (upd (upd (upd (upd (upd mm 0 (0 : Int32)) 6 v2) 7 v3) 8 v4) 9 v5) 10 v6) 11 v7) 12 v8), xI E (a_mm 5) 60 bt]) (wr := []) (wc' := (fun (_ : Unit) => [xModel h_mm a_mm (upd (upd (upd (upd (upd (upd (upd (upd mm 0 (0 : Int32)) 6 v2) 7 v3) 8 v4) 9 v5) 10 v6) 11 v7) 12 v8), xI E (a_mm 5) 60 bt])) (wn := (fun (_ : Unit) => [xModel h_mm a_mm (upd (upd (upd (upd (upd (upd (upd (upd mm 0 (0 : Int32)) 6 v2) 7 v3) 8 v4) 9 v5) 10 v6) 11 v7) 12 v8), xI E (a_mm 5) 60 bt])) (isC := [0, 1]) (isR := []) (is2 := [0, 1]) cx hP hD hS ⟨rfl, rfl, by decide, by decide, by decide, by decide, fun _ => rfl⟩ (rV (As := [.int parts]) (rest := []) (C := RX10) (q0 := 0) (ci := 10) cx (c_X10_woundPull l E h_mm a_mm (upd (upd (upd (upd (upd (upd (upd (upd mm 0 (0 : Int32)) 6 v2) 7 v3) 8 v4) 9 v5) 10 v6) 11 v7) 12 v8) bt parts (mmOK_of hn18 hB) _) (cwV 1 hts gX10_pull_X10_woundPull rfl rfl rfl (by decide +kernel) ⟨Nat.le_of_ble_eq_true rfl, Nat.le_of_ble_eq_true rfl⟩) rfl rfl rfl rfl hl.1 rfl (Nat.le_of_ble_eq_true rfl) dX10_pull_35 ⟨Nat.zero_le _, Nat.zero_le _⟩) (fun r9 u H locs hw hP hD hS => ?_)
      subst hw
      exact hq (F_X10_woundPull (upd (upd (upd (upd (upd (upd (upd (upd mm 0 (0 : Int32)) 6 v2) 7 v3) 8 v4) 9 v5) 10 v6) 11 v7) 12 v8) bt parts) ((0 : Int32), v2, v3, v4, v5, v6, v7, v8) _ _ _ _ dX10_pull_38 rfl (hρ0.trans hρ) hP hD hS
    · rw [if_neg c22] at hρ
      refine lv_aload_n hx hb dX10_pull_25 rfl (lv_at hl 0 rfl) ?_
      refine lv_iload_n hx hb dX10_pull_26 rfl (lv_at hl 1 rfl) ?_
      refine kI (wc := [xModel h_mm a_mm (upd (upd (upd (upd (upd (upd (upd (upd mm 0 (0 : Int32)) 6 v2) 7 v3) 8 v4) 9 v5) 10 v6) 11 v7) 12 v8), xI E (a_mm 5) 60 bt]) (wr := []) (wc' := (fun (_ : Unit) => [xModel h_mm a_mm (upd (upd (upd (upd (upd (upd (upd (upd mm 0 (0 : Int32)) 6 v2) 7 v3) 8 v4) 9 v5) 10 v6) 11 v7) 12 v8), xI E (a_mm 5) 60 bt])) (wn := (fun (_ : Unit) => [xModel h_mm a_mm (upd (upd (upd (upd (upd (upd (upd (upd mm 0 (0 : Int32)) 6 v2) 7 v3) 8 v4) 9 v5) 10 v6) 11 v7) 12 v8), xI E (a_mm 5) 60 bt])) (isC := [0, 1]) (isR := []) (is2 := [0, 1]) cx hP hD hS ⟨rfl, rfl, by decide, by decide, by decide, by decide, fun _ => rfl⟩ (rV (As := [.int parts]) (rest := []) (C := RX10) (q0 := 0) (ci := 10) cx (c_X10_freePull l E h_mm a_mm (upd (upd (upd (upd (upd (upd (upd (upd mm 0 (0 : Int32)) 6 v2) 7 v3) 8 v4) 9 v5) 10 v6) 11 v7) 12 v8) bt parts (mmOK_of hn18 hB) _) (cwV 1 hts gX10_pull_X10_freePull rfl rfl rfl (by decide +kernel) ⟨Nat.le_of_ble_eq_true rfl, Nat.le_of_ble_eq_true rfl⟩) rfl rfl rfl rfl hl.1 rfl (Nat.le_of_ble_eq_true rfl) dX10_pull_27 ⟨Nat.zero_le _, Nat.zero_le _⟩) (fun r10 u H locs hw hP hD hS => ?_)
      subst hw
      refine lv_goto (tgt := 38) hx hb dX10_pull_30 (by decide) ?_
      exact hq (F_X10_freePull (upd (upd (upd (upd (upd (upd (upd (upd mm 0 (0 : Int32)) 6 v2) 7 v3) 8 v4) 9 v5) 10 v6) 11 v7) 12 v8) bt parts) ((0 : Int32), v2, v3, v4, v5, v6, v7, v8) _ _ _ _ dX10_pull_38 rfl (hρ0.trans hρ) hP hD hS
  · rw [if_pos c12] at hρ
    refine lv_iconst (v := (-1 : Int32)) hx hb dX10_pull_15 (by decide) ?_
    exact hq (-1 : Int32) ((0 : Int32), (mm 6), (mm 7), (mm 8), (mm 9), (mm 10), (mm 11), (mm 12)) _ _ _ _ dX10_pull_16 rfl (hρ0.trans hρ) hP hD hS
def F_X10_run_k42 (what : Int32) (v4 : Int32) (v5 : Int32) (v6 : Int32) (v7 : Int32) (v8 : Int32) (v9 : Int32) (v10 : Int32) (v11 : Int32) (v12 : Int32) (v13 : Int32) (v14 : Int32) (g15 : Nat → Int32) : Int32 × Int32 × Int32 × Int32 × Int32 × Int32 × Int32 × Int32 × Int32 × Int32 × Int32 × Int32 × Int32 × (Nat → Int32) := (if what = (0 : Int32) then (v11, (0 : Int32), v4, v5, v6, v7, v8, v9, v10, v11, v12, v13, v14, g15) else (if what = (1 : Int32) then ((g15 2), (0 : Int32), v4, v5, v6, v7, v8, v9, v10, v11, v12, v13, v14, g15) else (if what = (2 : Int32) then (v12, (0 : Int32), v4, v5, v6, v7, v8, v9, v10, v11, v12, v13, v14, g15) else (if what = (3 : Int32) then (((g15 4) + (10000000 : Int32)), (0 : Int32), v4, v5, v6, v7, v8, v9, v10, v11, v12, v13, v14, g15) else (v13, (0 : Int32), v4, v5, v6, v7, v8, v9, v10, v11, v12, v13, v14, g15)))))
def F_X10_run_k31 (mm : Nat → Int32) (bt : Nat → Int32) (rn : Nat → Int32) (n : Int32) (z : Int32) (what : Int32) (v4 : Int32) (v5 : Int32) (v6 : Int32) (v7 : Int32) (v8 : Int32) (v9 : Int32) (v10 : Int32) : Int32 × Int32 × Int32 × Int32 × Int32 × Int32 × Int32 × Int32 × Int32 × Int32 × Int32 × Int32 × Int32 × (Nat → Int32) := (match F_X10_runs (upd (upd (upd (upd (upd (upd (upd (upd mm 0 (0 : Int32)) 6 v4) 7 v5) 8 v6) 9 v7) 10 v8) 11 v9) 12 v10) bt rn n z (600 : Int32) (0 : Int32) (1 : Int32) with | (v11, v12, v13, v14, g15) => F_X10_run_k42 what v4 v5 v6 v7 v8 v9 v10 v11 v12 v13 v14 g15)
def F_X10_run (mm : Nat → Int32) (bt : Nat → Int32) (rn : Nat → Int32) (n : Int32) (z : Int32) (what : Int32) : Int32 × Int32 × Int32 × Int32 × Int32 × Int32 × Int32 × Int32 × Int32 × Int32 × Int32 × Int32 × Int32 × (Nat → Int32) := (if (F_X10_areTurns n) = (0 : Int32) then ((-1 : Int32), (0 : Int32), (mm 6), (mm 7), (mm 8), (mm 9), (mm 10), (mm 11), (mm 12), (mm 17), (mm 18), (mm 19), (mm 20), rn) else (if (F_X10_isWind z) = (0 : Int32) then ((-1 : Int32), (0 : Int32), (mm 6), (mm 7), (mm 8), (mm 9), (mm 10), (mm 11), (mm 12), (mm 17), (mm 18), (mm 19), (mm 20), rn) else (if (F_X10_in what (0 : Int32) (4 : Int32)) = (0 : Int32) then ((-1 : Int32), (0 : Int32), (mm 6), (mm 7), (mm 8), (mm 9), (mm 10), (mm 11), (mm 12), (mm 17), (mm 18), (mm 19), (mm 20), rn) else (match F_X10_asItIs bt with | (v4, v5, v6, v7, v8, v9, v10) => F_X10_run_k31 mm bt rn n z what v4 v5 v6 v7 v8 v9 v10))))
theorem iX10_run_X10 : ∀ w ∈ wsX100, w ∈ wsX10_run := fun _ h => List.mem_cons_of_mem _ (List.mem_append_right _ h)
set_option maxHeartbeats 4000000 in
set_option maxRecDepth 100000 in
theorem c_X10_run (l : Launch) (E : wV) (h_mm : Nat) (a_mm : Nat → Nat) (mm : Nat → Int32) (bt : Nat → Int32) (rn : Nat → Int32) (n : Int32) (z : Int32) (what : Int32) (hB : btOK bt) : MetI l yX10_run wsX10_run ({ frames := 4, cells := 0, slots := 0, locals := 95 } : Room) E ([.ref h_mm, .int n, .int z, .int what] : List Value) [xModel h_mm a_mm mm, xI E (a_mm 5) 60 bt, xI E (a_mm 14) 6 rn] (fun (r : Int32) (u : Int32 × Int32 × Int32 × Int32 × Int32 × Int32 × Int32 × Int32 × Int32 × Int32 × Int32 × Int32 × (Nat → Int32)) => F_X10_run mm bt rn n z what = (r, u)) (fun (u : Int32 × Int32 × Int32 × Int32 × Int32 × Int32 × Int32 × Int32 × Int32 × Int32 × Int32 × Int32 × (Nat → Int32)) => [xModel h_mm a_mm (upd (upd (upd (upd (upd (upd (upd (upd (upd (upd (upd (upd mm 0 u.1) 6 u.2.1) 7 u.2.2.1) 8 u.2.2.2.1) 9 u.2.2.2.2.1) 10 u.2.2.2.2.2.1) 11 u.2.2.2.2.2.2.1) 12 u.2.2.2.2.2.2.2.1) 17 u.2.2.2.2.2.2.2.2.1) 18 u.2.2.2.2.2.2.2.2.2.1) 19 u.2.2.2.2.2.2.2.2.2.2.1) 20 u.2.2.2.2.2.2.2.2.2.2.2.1), xI E (a_mm 5) 60 bt, xI E (a_mm 14) 6 u.2.2.2.2.2.2.2.2.2.2.2.2]) := by
  refine MetI.of (cc := cX10_run) (maxL := 4) (own := RX10) (by decide) rfl rfl (Nat.le_of_ble_eq_true rfl) ?_
  intro p e s m below meth c A Q ls cx hP hD hS hl hq
  obtain ⟨hx, hb, hml, hown, hts, hE, hA⟩ := id cx
  have hl : lv_has ls 4 [(0, .ref h_mm), (1, .int n), (2, .int z), (3, .int what)] := hl
  have hP : va_P E.1 vwCl [xModel h_mm a_mm mm, xI E (a_mm 5) 60 bt, xI E (a_mm 14) 6 rn] s.heap := hP
  obtain ⟨ρ, hρ0⟩ : ∃ ρ, F_X10_run mm bt rn n z what = ρ := ⟨_, rfl⟩
  have hρ := hρ0.symm
  unfold F_X10_run at hρ
  refine lv_aload_n hx hb dX10_run_0 rfl (lv_at hl 0 rfl) ?_
  refine lv_iconst (v := (0 : Int32)) hx hb dX10_run_1 (by decide) ?_
  refine va_put (D := E.1) (ci := 10) (v := .int (0 : Int32)) (ty := .int) (C := RX10) (T := TX10) (N := 27) hx hb hts iX10_run_X10 tyX10 tyX10_ok nmX10 hown hE.1 hP hD hS 0 rfl rfl 0 (by decide) (hts (.fieldLink RX10 41 "BandBoatModel" "thrown" "I") (List.mem_of_getElem? (i := 1) rfl)) (fun _ h9 => h9) rfl (by decide +kernel) rfl rfl (Nat.le_of_ble_eq_true rfl) dX10_run_2 (fun H locs hP hD hS => ?_)
  have hP : va_P E.1 vwCl [xModel h_mm a_mm (upd mm 0 (0 : Int32)), xI E (a_mm 5) 60 bt, xI E (a_mm 14) 6 rn] H := hP
  have hD : va_D A [xModel h_mm a_mm (upd mm 0 (0 : Int32)), xI E (a_mm 5) 60 bt, xI E (a_mm 14) 6 rn] := hD
  refine lv_iload_n hx hb dX10_run_5 rfl (lv_at hl 1 rfl) ?_
  refine kI (wc := []) (wr := [xModel h_mm a_mm (upd mm 0 (0 : Int32)), xI E (a_mm 5) 60 bt, xI E (a_mm 14) 6 rn]) (wc' := (fun (_ : Unit) => [])) (wn := (fun (_ : Unit) => [xModel h_mm a_mm (upd mm 0 (0 : Int32)), xI E (a_mm 5) 60 bt, xI E (a_mm 14) 6 rn])) (isC := []) (isR := [0, 1, 2]) (is2 := [0, 1, 2]) cx hP hD hS ⟨rfl, rfl, by decide, by decide, by decide, by decide, fun _ => rfl⟩ (rS (As := [.int n]) (rest := []) cx (c_X10_areTurns l E n _) (va_cwS 1 hts gX10_run_X10_areTurns rfl rfl rfl (by decide +kernel) ⟨Nat.le_of_ble_eq_true rfl, Nat.le_of_ble_eq_true rfl⟩) rfl hl.1 rfl (Nat.le_of_ble_eq_true rfl) dX10_run_6 ⟨Nat.zero_le _, Nat.zero_le _⟩) (fun r1 u H locs hw hP hD hS => ?_)
  subst hw
  refine lv_if_eq (tgt := 28) hx hb dX10_run_9 (by decide) (fun c9 => ?_) (fun c9 => ?_)
  · rw [if_pos c9] at hρ
    refine lv_iconst (v := (-1 : Int32)) hx hb dX10_run_28 (by decide) ?_
    exact hq (-1 : Int32) ((0 : Int32), (mm 6), (mm 7), (mm 8), (mm 9), (mm 10), (mm 11), (mm 12), (mm 17), (mm 18), (mm 19), (mm 20), rn) _ _ _ _ dX10_run_29 rfl (hρ0.trans hρ) hP hD hS
  · rw [if_neg c9] at hρ
    refine lv_iload_n hx hb dX10_run_12 rfl (lv_at hl 2 rfl) ?_
    refine kI (wc := []) (wr := [xModel h_mm a_mm (upd mm 0 (0 : Int32)), xI E (a_mm 5) 60 bt, xI E (a_mm 14) 6 rn]) (wc' := (fun (_ : Unit) => [])) (wn := (fun (_ : Unit) => [xModel h_mm a_mm (upd mm 0 (0 : Int32)), xI E (a_mm 5) 60 bt, xI E (a_mm 14) 6 rn])) (isC := []) (isR := [0, 1, 2]) (is2 := [0, 1, 2]) cx hP hD hS ⟨rfl, rfl, by decide, by decide, by decide, by decide, fun _ => rfl⟩ (rS (As := [.int z]) (rest := []) cx (c_X10_isWind l E z _) (va_cwS 1 hts gX10_run_X10_isWind rfl rfl rfl (by decide +kernel) ⟨Nat.le_of_ble_eq_true rfl, Nat.le_of_ble_eq_true rfl⟩) rfl hl.1 rfl (Nat.le_of_ble_eq_true rfl) dX10_run_13 ⟨Nat.zero_le _, Nat.zero_le _⟩) (fun r2 u H locs hw hP hD hS => ?_)
    subst hw
    refine lv_if_eq (tgt := 28) hx hb dX10_run_16 (by decide) (fun c16 => ?_) (fun c16 => ?_)
    · rw [if_pos c16] at hρ
      refine lv_iconst (v := (-1 : Int32)) hx hb dX10_run_28 (by decide) ?_
      exact hq (-1 : Int32) ((0 : Int32), (mm 6), (mm 7), (mm 8), (mm 9), (mm 10), (mm 11), (mm 12), (mm 17), (mm 18), (mm 19), (mm 20), rn) _ _ _ _ dX10_run_29 rfl (hρ0.trans hρ) hP hD hS
    · rw [if_neg c16] at hρ
      refine lv_iload_n hx hb dX10_run_19 rfl (lv_at hl 3 rfl) ?_
      refine lv_iconst (v := (0 : Int32)) hx hb dX10_run_20 (by decide) ?_
      refine lv_iconst (v := (4 : Int32)) hx hb dX10_run_21 (by decide) ?_
      refine kI (wc := []) (wr := [xModel h_mm a_mm (upd mm 0 (0 : Int32)), xI E (a_mm 5) 60 bt, xI E (a_mm 14) 6 rn]) (wc' := (fun (_ : Unit) => [])) (wn := (fun (_ : Unit) => [xModel h_mm a_mm (upd mm 0 (0 : Int32)), xI E (a_mm 5) 60 bt, xI E (a_mm 14) 6 rn])) (isC := []) (isR := [0, 1, 2]) (is2 := [0, 1, 2]) cx hP hD hS ⟨rfl, rfl, by decide, by decide, by decide, by decide, fun _ => rfl⟩ (rS (As := [.int what, .int (0 : Int32), .int (4 : Int32)]) (rest := []) cx (c_X10_in l E what (0 : Int32) (4 : Int32) _) (va_cwS 3 hts gX10_run_X10_in rfl rfl rfl (by decide +kernel) ⟨Nat.le_of_ble_eq_true rfl, Nat.le_of_ble_eq_true rfl⟩) rfl hl.1 rfl (Nat.le_of_ble_eq_true rfl) dX10_run_22 ⟨Nat.zero_le _, Nat.zero_le _⟩) (fun r3 u H locs hw hP hD hS => ?_)
      subst hw
      refine lv_if_ne (tgt := 30) hx hb dX10_run_25 (by decide) (fun c25 => ?_) (fun c25 => ?_)
      · rw [if_neg c25] at hρ
        refine lv_aload_n hx hb dX10_run_30 rfl (lv_at hl 0 rfl) ?_
        refine kV (wc := [xModel h_mm a_mm (upd mm 0 (0 : Int32)), xI E (a_mm 5) 60 bt]) (wr := [xI E (a_mm 14) 6 rn]) (wc' := (fun (u : Int32 × Int32 × Int32 × Int32 × Int32 × Int32 × Int32) => [xModel h_mm a_mm (upd (upd (upd (upd (upd (upd (upd (upd mm 0 (0 : Int32)) 6 u.1) 7 u.2.1) 8 u.2.2.1) 9 u.2.2.2.1) 10 u.2.2.2.2.1) 11 u.2.2.2.2.2.1) 12 u.2.2.2.2.2.2), xI E (a_mm 5) 60 bt])) (wn := (fun (u : Int32 × Int32 × Int32 × Int32 × Int32 × Int32 × Int32) => [xModel h_mm a_mm (upd (upd (upd (upd (upd (upd (upd (upd mm 0 (0 : Int32)) 6 u.1) 7 u.2.1) 8 u.2.2.1) 9 u.2.2.2.1) 10 u.2.2.2.2.1) 11 u.2.2.2.2.2.1) 12 u.2.2.2.2.2.2), xI E (a_mm 5) 60 bt, xI E (a_mm 14) 6 rn])) (isC := [0, 1]) (isR := [2]) (is2 := [1, 2, 0]) cx hP hD hS ⟨rfl, rfl, by decide, by decide, by decide, by decide, fun _ => rfl⟩ (rV (As := []) (rest := []) (C := RX10) (q0 := 0) (ci := 10) cx (c_X10_asItIs l E h_mm a_mm (upd mm 0 (0 : Int32)) bt (hB) _) (cwV 0 hts gX10_run_X10_asItIs rfl rfl rfl (by decide +kernel) ⟨Nat.le_of_ble_eq_true rfl, Nat.le_of_ble_eq_true rfl⟩) rfl rfl rfl rfl hl.1 rfl (Nat.le_of_ble_eq_true rfl) dX10_run_31 ⟨Nat.zero_le _, Nat.zero_le _⟩) (fun u H locs hw hP hD hS => ?_)
        obtain ⟨hw, hn31⟩ := hw
        obtain ⟨v4, v5, v6, v7, v8, v9, v10⟩ := u
        have hn31 : (v7) = (bt 17) ∧ (v8) = (bt 18) ∧ (v9) = (bt 19) := hn31
        have hP : va_P E.1 vwCl [xModel h_mm a_mm (upd (upd (upd (upd (upd (upd (upd (upd mm 0 (0 : Int32)) 6 v4) 7 v5) 8 v6) 9 v7) 10 v8) 11 v9) 12 v10), xI E (a_mm 5) 60 bt, xI E (a_mm 14) 6 rn] H := hP
        have hD : va_D A [xModel h_mm a_mm (upd (upd (upd (upd (upd (upd (upd (upd mm 0 (0 : Int32)) 6 v4) 7 v5) 8 v6) 9 v7) 10 v8) 11 v9) 12 v10), xI E (a_mm 5) 60 bt, xI E (a_mm 14) 6 rn] := hD
        have hw : F_X10_asItIs bt = (v4, v5, v6, v7, v8, v9, v10) := hw
        rw [hw] at hρ
        have hρ : ρ = F_X10_run_k31 mm bt rn n z what v4 v5 v6 v7 v8 v9 v10 := hρ
        unfold F_X10_run_k31 at hρ
        refine lv_aload_n hx hb dX10_run_34 rfl (lv_at hl 0 rfl) ?_
        refine lv_iload_n hx hb dX10_run_35 rfl (lv_at hl 1 rfl) ?_
        refine lv_iload_n hx hb dX10_run_36 rfl (lv_at hl 2 rfl) ?_
        refine lv_sipush (v := (600 : Int32)) hx hb dX10_run_37 (by decide) ?_
        refine lv_iconst (v := (0 : Int32)) hx hb dX10_run_40 (by decide) ?_
        refine lv_iconst (v := (1 : Int32)) hx hb dX10_run_41 (by decide) ?_
        refine kV (wc := [xModel h_mm a_mm (upd (upd (upd (upd (upd (upd (upd (upd mm 0 (0 : Int32)) 6 v4) 7 v5) 8 v6) 9 v7) 10 v8) 11 v9) 12 v10), xI E (a_mm 5) 60 bt, xI E (a_mm 14) 6 rn]) (wr := []) (wc' := (fun (u : Int32 × Int32 × Int32 × Int32 × (Nat → Int32)) => [xModel h_mm a_mm (upd (upd (upd (upd (upd (upd (upd (upd (upd (upd (upd (upd mm 0 (0 : Int32)) 6 v4) 7 v5) 8 v6) 9 v7) 10 v8) 11 v9) 12 v10) 17 u.1) 18 u.2.1) 19 u.2.2.1) 20 u.2.2.2.1), xI E (a_mm 5) 60 bt, xI E (a_mm 14) 6 u.2.2.2.2])) (wn := (fun (u : Int32 × Int32 × Int32 × Int32 × (Nat → Int32)) => [xModel h_mm a_mm (upd (upd (upd (upd (upd (upd (upd (upd (upd (upd (upd (upd mm 0 (0 : Int32)) 6 v4) 7 v5) 8 v6) 9 v7) 10 v8) 11 v9) 12 v10) 17 u.1) 18 u.2.1) 19 u.2.2.1) 20 u.2.2.2.1), xI E (a_mm 5) 60 bt, xI E (a_mm 14) 6 u.2.2.2.2])) (isC := [0, 1, 2]) (isR := []) (is2 := [0, 1, 2]) cx hP hD hS ⟨rfl, rfl, by decide, by decide, by decide, by decide, fun _ => rfl⟩ (rV (As := [.int n, .int z, .int (600 : Int32), .int (0 : Int32), .int (1 : Int32)]) (rest := []) (C := RX10) (q0 := 0) (ci := 10) cx (c_X10_runs l E h_mm a_mm (upd (upd (upd (upd (upd (upd (upd (upd mm 0 (0 : Int32)) 6 v4) 7 v5) 8 v6) 9 v7) 10 v8) 11 v9) 12 v10) bt rn n z (600 : Int32) (0 : Int32) (1 : Int32) (hB) (mmOK_of hn31 hB) _) (cwV 5 hts gX10_run_X10_runs rfl rfl rfl (by decide +kernel) ⟨Nat.le_of_ble_eq_true rfl, Nat.le_of_ble_eq_true rfl⟩) rfl rfl rfl rfl hl.1 rfl (Nat.le_of_ble_eq_true rfl) dX10_run_42 ⟨Nat.zero_le _, Nat.zero_le _⟩) (fun u H locs hw hP hD hS => ?_)
        obtain ⟨v11, v12, v13, v14, g15⟩ := u
        have hP : va_P E.1 vwCl [xModel h_mm a_mm (upd (upd (upd (upd (upd (upd (upd (upd (upd (upd (upd (upd mm 0 (0 : Int32)) 6 v4) 7 v5) 8 v6) 9 v7) 10 v8) 11 v9) 12 v10) 17 v11) 18 v12) 19 v13) 20 v14), xI E (a_mm 5) 60 bt, xI E (a_mm 14) 6 g15] H := hP
        have hD : va_D A [xModel h_mm a_mm (upd (upd (upd (upd (upd (upd (upd (upd (upd (upd (upd (upd mm 0 (0 : Int32)) 6 v4) 7 v5) 8 v6) 9 v7) 10 v8) 11 v9) 12 v10) 17 v11) 18 v12) 19 v13) 20 v14), xI E (a_mm 5) 60 bt, xI E (a_mm 14) 6 g15] := hD
        have hw : F_X10_runs (upd (upd (upd (upd (upd (upd (upd (upd mm 0 (0 : Int32)) 6 v4) 7 v5) 8 v6) 9 v7) 10 v8) 11 v9) 12 v10) bt rn n z (600 : Int32) (0 : Int32) (1 : Int32) = (v11, v12, v13, v14, g15) := hw
        rw [hw] at hρ
        have hρ : ρ = F_X10_run_k42 what v4 v5 v6 v7 v8 v9 v10 v11 v12 v13 v14 g15 := hρ
        unfold F_X10_run_k42 at hρ
        refine lv_iload_n hx hb dX10_run_45 rfl (lv_at hl 3 rfl) ?_
        refine lv_if_ne (tgt := 56) hx hb dX10_run_46 (by decide) (fun c46 => ?_) (fun c46 => ?_)
        · rw [if_neg c46] at hρ
          refine lv_iload_n hx hb dX10_run_56 rfl (lv_at hl 3 rfl) ?_
          refine lv_iconst (v := (1 : Int32)) hx hb dX10_run_57 (by decide) ?_
          refine lv_icmp_ne (tgt := 70) hx hb dX10_run_58 (by decide) (fun c58 => ?_) (fun c58 => ?_)
          · rw [if_neg c58] at hρ
            refine lv_iload_n hx hb dX10_run_70 rfl (lv_at hl 3 rfl) ?_
            refine lv_iconst (v := (2 : Int32)) hx hb dX10_run_71 (by decide) ?_
            refine lv_icmp_ne (tgt := 82) hx hb dX10_run_72 (by decide) (fun c72 => ?_) (fun c72 => ?_)
            · rw [if_neg c72] at hρ
              refine lv_iload_n hx hb dX10_run_82 rfl (lv_at hl 3 rfl) ?_
              refine lv_iconst (v := (3 : Int32)) hx hb dX10_run_83 (by decide) ?_
              refine lv_icmp_ne (tgt := 99) hx hb dX10_run_84 (by decide) (fun c84 => ?_) (fun c84 => ?_)
              · rw [if_neg c84] at hρ
                refine lv_aload_n hx hb dX10_run_99 rfl (lv_at hl 0 rfl) ?_
                refine va_get (D := E.1) (ci := 10) (v := .int v13) (C := RX10) (T := TX10) (N := 27) hx hb hts iX10_run_X10 hown hE.1 hP 0 rfl rfl 19 (by decide) (hts (.fieldLink RX10 138 "BandBoatModel" "unwound" "I") (List.mem_of_getElem? (i := 6) rfl)) (fun _ h9 => h9) rfl dX10_run_100 ?_
                exact hq v13 ((0 : Int32), v4, v5, v6, v7, v8, v9, v10, v11, v12, v13, v14, g15) _ _ _ _ dX10_run_103 rfl (hρ0.trans hρ) hP hD hS
              · rw [if_pos c84] at hρ
                refine lv_aload_n hx hb dX10_run_87 rfl (lv_at hl 0 rfl) ?_
                refine va_get (D := E.1) (ci := 10) (v := .ref (a_mm 14)) (C := RX10) (T := TX10) (N := 27) hx hb hts iX10_run_X10 hown hE.1 hP 0 rfl rfl 14 (by decide) (hts (.fieldLink RX10 19 "BandBoatModel" "run" "[I") (List.mem_of_getElem? (i := 3) rfl)) (fun _ h9 => h9) rfl dX10_run_88 ?_
                refine lv_iconst (v := (4 : Int32)) hx hb dX10_run_91 (by decide) ?_
                refine ar_ild (k := 4) (v := (g15 4)) hx hb hE hP 2 rfl (by unfold vp_in; decide) rfl rfl dX10_run_92 ?_
                refine lv_ldc (own := RX10) (v := (10000000 : Int32)) hx hb hown (hts (.constant RX10 162 (10000000)) (List.mem_of_getElem? (i := 5) rfl)) dX10_run_93 ?_
                refine lv_iadd hx hb dX10_run_95 ?_
                refine lv_goto (tgt := 103) hx hb dX10_run_96 (by decide) ?_
                exact hq ((g15 4) + (10000000 : Int32)) ((0 : Int32), v4, v5, v6, v7, v8, v9, v10, v11, v12, v13, v14, g15) _ _ _ _ dX10_run_103 rfl (hρ0.trans hρ) hP hD hS
            · rw [if_pos c72] at hρ
              refine lv_aload_n hx hb dX10_run_75 rfl (lv_at hl 0 rfl) ?_
              refine va_get (D := E.1) (ci := 10) (v := .int v12) (C := RX10) (T := TX10) (N := 27) hx hb hts iX10_run_X10 hown hE.1 hP 0 rfl rfl 18 (by decide) (hts (.fieldLink RX10 135 "BandBoatModel" "fastest" "I") (List.mem_of_getElem? (i := 4) rfl)) (fun _ h9 => h9) rfl dX10_run_76 ?_
              refine lv_goto (tgt := 103) hx hb dX10_run_79 (by decide) ?_
              exact hq v12 ((0 : Int32), v4, v5, v6, v7, v8, v9, v10, v11, v12, v13, v14, g15) _ _ _ _ dX10_run_103 rfl (hρ0.trans hρ) hP hD hS
          · rw [if_pos c58] at hρ
            refine lv_aload_n hx hb dX10_run_61 rfl (lv_at hl 0 rfl) ?_
            refine va_get (D := E.1) (ci := 10) (v := .ref (a_mm 14)) (C := RX10) (T := TX10) (N := 27) hx hb hts iX10_run_X10 hown hE.1 hP 0 rfl rfl 14 (by decide) (hts (.fieldLink RX10 19 "BandBoatModel" "run" "[I") (List.mem_of_getElem? (i := 3) rfl)) (fun _ h9 => h9) rfl dX10_run_62 ?_
            refine lv_iconst (v := (2 : Int32)) hx hb dX10_run_65 (by decide) ?_
            refine ar_ild (k := 2) (v := (g15 2)) hx hb hE hP 2 rfl (by unfold vp_in; decide) rfl rfl dX10_run_66 ?_
            refine lv_goto (tgt := 103) hx hb dX10_run_67 (by decide) ?_
            exact hq (g15 2) ((0 : Int32), v4, v5, v6, v7, v8, v9, v10, v11, v12, v13, v14, g15) _ _ _ _ dX10_run_103 rfl (hρ0.trans hρ) hP hD hS
        · rw [if_pos c46] at hρ
          refine lv_aload_n hx hb dX10_run_49 rfl (lv_at hl 0 rfl) ?_
          refine va_get (D := E.1) (ci := 10) (v := .int v11) (C := RX10) (T := TX10) (N := 27) hx hb hts iX10_run_X10 hown hE.1 hP 0 rfl rfl 17 (by decide) (hts (.fieldLink RX10 148 "BandBoatModel" "runTenths" "I") (List.mem_of_getElem? (i := 2) rfl)) (fun _ h9 => h9) rfl dX10_run_50 ?_
          refine lv_goto (tgt := 103) hx hb dX10_run_53 (by decide) ?_
          exact hq v11 ((0 : Int32), v4, v5, v6, v7, v8, v9, v10, v11, v12, v13, v14, g15) _ _ _ _ dX10_run_103 rfl (hρ0.trans hρ) hP hD hS
      · rw [if_pos c25] at hρ
        refine lv_iconst (v := (-1 : Int32)) hx hb dX10_run_28 (by decide) ?_
        exact hq (-1 : Int32) ((0 : Int32), (mm 6), (mm 7), (mm 8), (mm 9), (mm 10), (mm 11), (mm 12), (mm 17), (mm 18), (mm 19), (mm 20), rn) _ _ _ _ dX10_run_29 rfl (hρ0.trans hρ) hP hD hS
def F_X10_when_k43 (v4 : Int32) (v5 : Int32) (v6 : Int32) (v7 : Int32) (v8 : Int32) (v9 : Int32) (v10 : Int32) (v11 : Int32) (v12 : Int32) (v13 : Int32) (v14 : Int32) (g15 : Nat → Int32) : Int32 × Int32 × Int32 × Int32 × Int32 × Int32 × Int32 × Int32 × Int32 × Int32 × Int32 × Int32 × Int32 × (Nat → Int32) := (v14, (0 : Int32), v4, v5, v6, v7, v8, v9, v10, v11, v12, v13, v14, g15)
def F_X10_when_k32 (mm : Nat → Int32) (bt : Nat → Int32) (rn : Nat → Int32) (n : Int32) (z : Int32) (d : Int32) (v4 : Int32) (v5 : Int32) (v6 : Int32) (v7 : Int32) (v8 : Int32) (v9 : Int32) (v10 : Int32) : Int32 × Int32 × Int32 × Int32 × Int32 × Int32 × Int32 × Int32 × Int32 × Int32 × Int32 × Int32 × Int32 × (Nat → Int32) := (match F_X10_runs (upd (upd (upd (upd (upd (upd (upd (upd mm 0 (0 : Int32)) 6 v4) 7 v5) 8 v6) 9 v7) 10 v8) 11 v9) 12 v10) bt rn n z (600 : Int32) (0 : Int32) d with | (v11, v12, v13, v14, g15) => F_X10_when_k43 v4 v5 v6 v7 v8 v9 v10 v11 v12 v13 v14 g15)
def F_X10_when (mm : Nat → Int32) (bt : Nat → Int32) (rn : Nat → Int32) (n : Int32) (z : Int32) (d : Int32) : Int32 × Int32 × Int32 × Int32 × Int32 × Int32 × Int32 × Int32 × Int32 × Int32 × Int32 × Int32 × Int32 × (Nat → Int32) := (if (F_X10_areTurns n) = (0 : Int32) then ((-1 : Int32), (0 : Int32), (mm 6), (mm 7), (mm 8), (mm 9), (mm 10), (mm 11), (mm 12), (mm 17), (mm 18), (mm 19), (mm 20), rn) else (if (F_X10_isWind z) = (0 : Int32) then ((-1 : Int32), (0 : Int32), (mm 6), (mm 7), (mm 8), (mm 9), (mm 10), (mm 11), (mm 12), (mm 17), (mm 18), (mm 19), (mm 20), rn) else (if (F_X10_in d (1 : Int32) (99999 : Int32)) = (0 : Int32) then ((-1 : Int32), (0 : Int32), (mm 6), (mm 7), (mm 8), (mm 9), (mm 10), (mm 11), (mm 12), (mm 17), (mm 18), (mm 19), (mm 20), rn) else (match F_X10_asItIs bt with | (v4, v5, v6, v7, v8, v9, v10) => F_X10_when_k32 mm bt rn n z d v4 v5 v6 v7 v8 v9 v10))))
theorem iX10_when_X10 : ∀ w ∈ wsX100, w ∈ wsX10_when := fun _ h => List.mem_cons_of_mem _ (List.mem_append_right _ h)
set_option maxHeartbeats 4000000 in
set_option maxRecDepth 100000 in
theorem c_X10_when (l : Launch) (E : wV) (h_mm : Nat) (a_mm : Nat → Nat) (mm : Nat → Int32) (bt : Nat → Int32) (rn : Nat → Int32) (n : Int32) (z : Int32) (d : Int32) (hB : btOK bt) : MetI l yX10_when wsX10_when ({ frames := 4, cells := 0, slots := 0, locals := 95 } : Room) E ([.ref h_mm, .int n, .int z, .int d] : List Value) [xModel h_mm a_mm mm, xI E (a_mm 5) 60 bt, xI E (a_mm 14) 6 rn] (fun (r : Int32) (u : Int32 × Int32 × Int32 × Int32 × Int32 × Int32 × Int32 × Int32 × Int32 × Int32 × Int32 × Int32 × (Nat → Int32)) => F_X10_when mm bt rn n z d = (r, u)) (fun (u : Int32 × Int32 × Int32 × Int32 × Int32 × Int32 × Int32 × Int32 × Int32 × Int32 × Int32 × Int32 × (Nat → Int32)) => [xModel h_mm a_mm (upd (upd (upd (upd (upd (upd (upd (upd (upd (upd (upd (upd mm 0 u.1) 6 u.2.1) 7 u.2.2.1) 8 u.2.2.2.1) 9 u.2.2.2.2.1) 10 u.2.2.2.2.2.1) 11 u.2.2.2.2.2.2.1) 12 u.2.2.2.2.2.2.2.1) 17 u.2.2.2.2.2.2.2.2.1) 18 u.2.2.2.2.2.2.2.2.2.1) 19 u.2.2.2.2.2.2.2.2.2.2.1) 20 u.2.2.2.2.2.2.2.2.2.2.2.1), xI E (a_mm 5) 60 bt, xI E (a_mm 14) 6 u.2.2.2.2.2.2.2.2.2.2.2.2]) := by
  refine MetI.of (cc := cX10_when) (maxL := 4) (own := RX10) (by decide) rfl rfl (Nat.le_of_ble_eq_true rfl) ?_
  intro p e s m below meth c A Q ls cx hP hD hS hl hq
  obtain ⟨hx, hb, hml, hown, hts, hE, hA⟩ := id cx
  have hl : lv_has ls 4 [(0, .ref h_mm), (1, .int n), (2, .int z), (3, .int d)] := hl
  have hP : va_P E.1 vwCl [xModel h_mm a_mm mm, xI E (a_mm 5) 60 bt, xI E (a_mm 14) 6 rn] s.heap := hP
  obtain ⟨ρ, hρ0⟩ : ∃ ρ, F_X10_when mm bt rn n z d = ρ := ⟨_, rfl⟩
  have hρ := hρ0.symm
  unfold F_X10_when at hρ
  refine lv_aload_n hx hb dX10_when_0 rfl (lv_at hl 0 rfl) ?_
  refine lv_iconst (v := (0 : Int32)) hx hb dX10_when_1 (by decide) ?_
  refine va_put (D := E.1) (ci := 10) (v := .int (0 : Int32)) (ty := .int) (C := RX10) (T := TX10) (N := 27) hx hb hts iX10_when_X10 tyX10 tyX10_ok nmX10 hown hE.1 hP hD hS 0 rfl rfl 0 (by decide) (hts (.fieldLink RX10 41 "BandBoatModel" "thrown" "I") (List.mem_of_getElem? (i := 1) rfl)) (fun _ h9 => h9) rfl (by decide +kernel) rfl rfl (Nat.le_of_ble_eq_true rfl) dX10_when_2 (fun H locs hP hD hS => ?_)
  have hP : va_P E.1 vwCl [xModel h_mm a_mm (upd mm 0 (0 : Int32)), xI E (a_mm 5) 60 bt, xI E (a_mm 14) 6 rn] H := hP
  have hD : va_D A [xModel h_mm a_mm (upd mm 0 (0 : Int32)), xI E (a_mm 5) 60 bt, xI E (a_mm 14) 6 rn] := hD
  refine lv_iload_n hx hb dX10_when_5 rfl (lv_at hl 1 rfl) ?_
  refine kI (wc := []) (wr := [xModel h_mm a_mm (upd mm 0 (0 : Int32)), xI E (a_mm 5) 60 bt, xI E (a_mm 14) 6 rn]) (wc' := (fun (_ : Unit) => [])) (wn := (fun (_ : Unit) => [xModel h_mm a_mm (upd mm 0 (0 : Int32)), xI E (a_mm 5) 60 bt, xI E (a_mm 14) 6 rn])) (isC := []) (isR := [0, 1, 2]) (is2 := [0, 1, 2]) cx hP hD hS ⟨rfl, rfl, by decide, by decide, by decide, by decide, fun _ => rfl⟩ (rS (As := [.int n]) (rest := []) cx (c_X10_areTurns l E n _) (va_cwS 1 hts gX10_when_X10_areTurns rfl rfl rfl (by decide +kernel) ⟨Nat.le_of_ble_eq_true rfl, Nat.le_of_ble_eq_true rfl⟩) rfl hl.1 rfl (Nat.le_of_ble_eq_true rfl) dX10_when_6 ⟨Nat.zero_le _, Nat.zero_le _⟩) (fun r1 u H locs hw hP hD hS => ?_)
  subst hw
  refine lv_if_eq (tgt := 29) hx hb dX10_when_9 (by decide) (fun c9 => ?_) (fun c9 => ?_)
  · rw [if_pos c9] at hρ
    refine lv_iconst (v := (-1 : Int32)) hx hb dX10_when_29 (by decide) ?_
    exact hq (-1 : Int32) ((0 : Int32), (mm 6), (mm 7), (mm 8), (mm 9), (mm 10), (mm 11), (mm 12), (mm 17), (mm 18), (mm 19), (mm 20), rn) _ _ _ _ dX10_when_30 rfl (hρ0.trans hρ) hP hD hS
  · rw [if_neg c9] at hρ
    refine lv_iload_n hx hb dX10_when_12 rfl (lv_at hl 2 rfl) ?_
    refine kI (wc := []) (wr := [xModel h_mm a_mm (upd mm 0 (0 : Int32)), xI E (a_mm 5) 60 bt, xI E (a_mm 14) 6 rn]) (wc' := (fun (_ : Unit) => [])) (wn := (fun (_ : Unit) => [xModel h_mm a_mm (upd mm 0 (0 : Int32)), xI E (a_mm 5) 60 bt, xI E (a_mm 14) 6 rn])) (isC := []) (isR := [0, 1, 2]) (is2 := [0, 1, 2]) cx hP hD hS ⟨rfl, rfl, by decide, by decide, by decide, by decide, fun _ => rfl⟩ (rS (As := [.int z]) (rest := []) cx (c_X10_isWind l E z _) (va_cwS 1 hts gX10_when_X10_isWind rfl rfl rfl (by decide +kernel) ⟨Nat.le_of_ble_eq_true rfl, Nat.le_of_ble_eq_true rfl⟩) rfl hl.1 rfl (Nat.le_of_ble_eq_true rfl) dX10_when_13 ⟨Nat.zero_le _, Nat.zero_le _⟩) (fun r2 u H locs hw hP hD hS => ?_)
    subst hw
    refine lv_if_eq (tgt := 29) hx hb dX10_when_16 (by decide) (fun c16 => ?_) (fun c16 => ?_)
    · rw [if_pos c16] at hρ
      refine lv_iconst (v := (-1 : Int32)) hx hb dX10_when_29 (by decide) ?_
      exact hq (-1 : Int32) ((0 : Int32), (mm 6), (mm 7), (mm 8), (mm 9), (mm 10), (mm 11), (mm 12), (mm 17), (mm 18), (mm 19), (mm 20), rn) _ _ _ _ dX10_when_30 rfl (hρ0.trans hρ) hP hD hS
    · rw [if_neg c16] at hρ
      refine lv_iload_n hx hb dX10_when_19 rfl (lv_at hl 3 rfl) ?_
      refine lv_iconst (v := (1 : Int32)) hx hb dX10_when_20 (by decide) ?_
      refine lv_ldc (own := RX10) (v := (99999 : Int32)) hx hb hown (hts (.constant RX10 163 (99999)) (List.mem_of_getElem? (i := 2) rfl)) dX10_when_21 ?_
      refine kI (wc := []) (wr := [xModel h_mm a_mm (upd mm 0 (0 : Int32)), xI E (a_mm 5) 60 bt, xI E (a_mm 14) 6 rn]) (wc' := (fun (_ : Unit) => [])) (wn := (fun (_ : Unit) => [xModel h_mm a_mm (upd mm 0 (0 : Int32)), xI E (a_mm 5) 60 bt, xI E (a_mm 14) 6 rn])) (isC := []) (isR := [0, 1, 2]) (is2 := [0, 1, 2]) cx hP hD hS ⟨rfl, rfl, by decide, by decide, by decide, by decide, fun _ => rfl⟩ (rS (As := [.int d, .int (1 : Int32), .int (99999 : Int32)]) (rest := []) cx (c_X10_in l E d (1 : Int32) (99999 : Int32) _) (va_cwS 3 hts gX10_when_X10_in rfl rfl rfl (by decide +kernel) ⟨Nat.le_of_ble_eq_true rfl, Nat.le_of_ble_eq_true rfl⟩) rfl hl.1 rfl (Nat.le_of_ble_eq_true rfl) dX10_when_23 ⟨Nat.zero_le _, Nat.zero_le _⟩) (fun r3 u H locs hw hP hD hS => ?_)
      subst hw
      refine lv_if_ne (tgt := 31) hx hb dX10_when_26 (by decide) (fun c26 => ?_) (fun c26 => ?_)
      · rw [if_neg c26] at hρ
        refine lv_aload_n hx hb dX10_when_31 rfl (lv_at hl 0 rfl) ?_
        refine kV (wc := [xModel h_mm a_mm (upd mm 0 (0 : Int32)), xI E (a_mm 5) 60 bt]) (wr := [xI E (a_mm 14) 6 rn]) (wc' := (fun (u : Int32 × Int32 × Int32 × Int32 × Int32 × Int32 × Int32) => [xModel h_mm a_mm (upd (upd (upd (upd (upd (upd (upd (upd mm 0 (0 : Int32)) 6 u.1) 7 u.2.1) 8 u.2.2.1) 9 u.2.2.2.1) 10 u.2.2.2.2.1) 11 u.2.2.2.2.2.1) 12 u.2.2.2.2.2.2), xI E (a_mm 5) 60 bt])) (wn := (fun (u : Int32 × Int32 × Int32 × Int32 × Int32 × Int32 × Int32) => [xModel h_mm a_mm (upd (upd (upd (upd (upd (upd (upd (upd mm 0 (0 : Int32)) 6 u.1) 7 u.2.1) 8 u.2.2.1) 9 u.2.2.2.1) 10 u.2.2.2.2.1) 11 u.2.2.2.2.2.1) 12 u.2.2.2.2.2.2), xI E (a_mm 5) 60 bt, xI E (a_mm 14) 6 rn])) (isC := [0, 1]) (isR := [2]) (is2 := [1, 2, 0]) cx hP hD hS ⟨rfl, rfl, by decide, by decide, by decide, by decide, fun _ => rfl⟩ (rV (As := []) (rest := []) (C := RX10) (q0 := 0) (ci := 10) cx (c_X10_asItIs l E h_mm a_mm (upd mm 0 (0 : Int32)) bt (hB) _) (cwV 0 hts gX10_when_X10_asItIs rfl rfl rfl (by decide +kernel) ⟨Nat.le_of_ble_eq_true rfl, Nat.le_of_ble_eq_true rfl⟩) rfl rfl rfl rfl hl.1 rfl (Nat.le_of_ble_eq_true rfl) dX10_when_32 ⟨Nat.zero_le _, Nat.zero_le _⟩) (fun u H locs hw hP hD hS => ?_)
        obtain ⟨hw, hn32⟩ := hw
        obtain ⟨v4, v5, v6, v7, v8, v9, v10⟩ := u
        have hn32 : (v7) = (bt 17) ∧ (v8) = (bt 18) ∧ (v9) = (bt 19) := hn32
        have hP : va_P E.1 vwCl [xModel h_mm a_mm (upd (upd (upd (upd (upd (upd (upd (upd mm 0 (0 : Int32)) 6 v4) 7 v5) 8 v6) 9 v7) 10 v8) 11 v9) 12 v10), xI E (a_mm 5) 60 bt, xI E (a_mm 14) 6 rn] H := hP
        have hD : va_D A [xModel h_mm a_mm (upd (upd (upd (upd (upd (upd (upd (upd mm 0 (0 : Int32)) 6 v4) 7 v5) 8 v6) 9 v7) 10 v8) 11 v9) 12 v10), xI E (a_mm 5) 60 bt, xI E (a_mm 14) 6 rn] := hD
        have hw : F_X10_asItIs bt = (v4, v5, v6, v7, v8, v9, v10) := hw
        rw [hw] at hρ
        have hρ : ρ = F_X10_when_k32 mm bt rn n z d v4 v5 v6 v7 v8 v9 v10 := hρ
        unfold F_X10_when_k32 at hρ
        refine lv_aload_n hx hb dX10_when_35 rfl (lv_at hl 0 rfl) ?_
        refine lv_iload_n hx hb dX10_when_36 rfl (lv_at hl 1 rfl) ?_
        refine lv_iload_n hx hb dX10_when_37 rfl (lv_at hl 2 rfl) ?_
        refine lv_sipush (v := (600 : Int32)) hx hb dX10_when_38 (by decide) ?_
        refine lv_iconst (v := (0 : Int32)) hx hb dX10_when_41 (by decide) ?_
        refine lv_iload_n hx hb dX10_when_42 rfl (lv_at hl 3 rfl) ?_
        refine kV (wc := [xModel h_mm a_mm (upd (upd (upd (upd (upd (upd (upd (upd mm 0 (0 : Int32)) 6 v4) 7 v5) 8 v6) 9 v7) 10 v8) 11 v9) 12 v10), xI E (a_mm 5) 60 bt, xI E (a_mm 14) 6 rn]) (wr := []) (wc' := (fun (u : Int32 × Int32 × Int32 × Int32 × (Nat → Int32)) => [xModel h_mm a_mm (upd (upd (upd (upd (upd (upd (upd (upd (upd (upd (upd (upd mm 0 (0 : Int32)) 6 v4) 7 v5) 8 v6) 9 v7) 10 v8) 11 v9) 12 v10) 17 u.1) 18 u.2.1) 19 u.2.2.1) 20 u.2.2.2.1), xI E (a_mm 5) 60 bt, xI E (a_mm 14) 6 u.2.2.2.2])) (wn := (fun (u : Int32 × Int32 × Int32 × Int32 × (Nat → Int32)) => [xModel h_mm a_mm (upd (upd (upd (upd (upd (upd (upd (upd (upd (upd (upd (upd mm 0 (0 : Int32)) 6 v4) 7 v5) 8 v6) 9 v7) 10 v8) 11 v9) 12 v10) 17 u.1) 18 u.2.1) 19 u.2.2.1) 20 u.2.2.2.1), xI E (a_mm 5) 60 bt, xI E (a_mm 14) 6 u.2.2.2.2])) (isC := [0, 1, 2]) (isR := []) (is2 := [0, 1, 2]) cx hP hD hS ⟨rfl, rfl, by decide, by decide, by decide, by decide, fun _ => rfl⟩ (rV (As := [.int n, .int z, .int (600 : Int32), .int (0 : Int32), .int d]) (rest := []) (C := RX10) (q0 := 0) (ci := 10) cx (c_X10_runs l E h_mm a_mm (upd (upd (upd (upd (upd (upd (upd (upd mm 0 (0 : Int32)) 6 v4) 7 v5) 8 v6) 9 v7) 10 v8) 11 v9) 12 v10) bt rn n z (600 : Int32) (0 : Int32) d (hB) (mmOK_of hn32 hB) _) (cwV 5 hts gX10_when_X10_runs rfl rfl rfl (by decide +kernel) ⟨Nat.le_of_ble_eq_true rfl, Nat.le_of_ble_eq_true rfl⟩) rfl rfl rfl rfl hl.1 rfl (Nat.le_of_ble_eq_true rfl) dX10_when_43 ⟨Nat.zero_le _, Nat.zero_le _⟩) (fun u H locs hw hP hD hS => ?_)
        obtain ⟨v11, v12, v13, v14, g15⟩ := u
        have hP : va_P E.1 vwCl [xModel h_mm a_mm (upd (upd (upd (upd (upd (upd (upd (upd (upd (upd (upd (upd mm 0 (0 : Int32)) 6 v4) 7 v5) 8 v6) 9 v7) 10 v8) 11 v9) 12 v10) 17 v11) 18 v12) 19 v13) 20 v14), xI E (a_mm 5) 60 bt, xI E (a_mm 14) 6 g15] H := hP
        have hD : va_D A [xModel h_mm a_mm (upd (upd (upd (upd (upd (upd (upd (upd (upd (upd (upd (upd mm 0 (0 : Int32)) 6 v4) 7 v5) 8 v6) 9 v7) 10 v8) 11 v9) 12 v10) 17 v11) 18 v12) 19 v13) 20 v14), xI E (a_mm 5) 60 bt, xI E (a_mm 14) 6 g15] := hD
        have hw : F_X10_runs (upd (upd (upd (upd (upd (upd (upd (upd mm 0 (0 : Int32)) 6 v4) 7 v5) 8 v6) 9 v7) 10 v8) 11 v9) 12 v10) bt rn n z (600 : Int32) (0 : Int32) d = (v11, v12, v13, v14, g15) := hw
        rw [hw] at hρ
        have hρ : ρ = F_X10_when_k43 v4 v5 v6 v7 v8 v9 v10 v11 v12 v13 v14 g15 := hρ
        unfold F_X10_when_k43 at hρ
        refine lv_aload_n hx hb dX10_when_46 rfl (lv_at hl 0 rfl) ?_
        refine va_get (D := E.1) (ci := 10) (v := .int v14) (C := RX10) (T := TX10) (N := 27) hx hb hts iX10_when_X10 hown hE.1 hP 0 rfl rfl 20 (by decide) (hts (.fieldLink RX10 141 "BandBoatModel" "reached" "I") (List.mem_of_getElem? (i := 3) rfl)) (fun _ h9 => h9) rfl dX10_when_47 ?_
        exact hq v14 ((0 : Int32), v4, v5, v6, v7, v8, v9, v10, v11, v12, v13, v14, g15) _ _ _ _ dX10_when_50 rfl (hρ0.trans hρ) hP hD hS
      · rw [if_pos c26] at hρ
        refine lv_iconst (v := (-1 : Int32)) hx hb dX10_when_29 (by decide) ?_
        exact hq (-1 : Int32) ((0 : Int32), (mm 6), (mm 7), (mm 8), (mm 9), (mm 10), (mm 11), (mm 12), (mm 17), (mm 18), (mm 19), (mm 20), rn) _ _ _ _ dX10_when_30 rfl (hρ0.trans hρ) hP hD hS
theorem arT {n : Int32} (c : ¬ F_X10_areTurns n = 0) : 0 ≤ n.toInt ∧ n.toInt ≤ 400 := by
  unfold F_X10_areTurns at c
  exact F_X10_in_ge c rfl rfl
theorem arT' {n : Int32} (c : ¬ F_X10_areTurns n = 0) : n.toInt < 2147483647 := by have := arT c; omega
theorem sn_in {bt : Nat → Int32} (hB : btOK bt) : vp_in (((4 : Int32) * (bt 16)) + (3 : Int32)) 60 := q_inj hB.1 rfl (by decide)
def F_X10_lost_k77 (x7_37 : Int32) (v12 : Int64) (v14 : Int64) : (Int32 × Int64 × Int64) ⊕ (Int32 × Int64 × Int64) := Sum.inl ((x7_37 + (1 : Int32)), v12, v14)
def F_X10_lost_k60 (mm : Nat → Int32) (bt : Nat → Int32) (v3 : Int32) (v4 : Int32) (v5 : Int32) (v6 : Int32) (v7 : Int32) (v8 : Int32) (v9 : Int32) (x7_37 : Int32) (x3_37 : Int64) (v11 : Int32) (v12 : Int64) : (Int32 × Int64 × Int64) ⊕ (Int32 × Int64 × Int64) := F_X10_lost_k77 x7_37 v12 (x3_37 + (Int32.toInt64 (v11 - (F_X10_freePull (upd (upd (upd (upd (upd (upd (upd (upd mm 0 (0 : Int32)) 6 v3) 7 v4) 8 v5) 9 v6) 10 v7) 11 v8) 12 v9) bt ((100 : Int32) * x7_37)))))
def F_X10_lost_k52 (mm : Nat → Int32) (bt : Nat → Int32) (v3 : Int32) (v4 : Int32) (v5 : Int32) (v6 : Int32) (v7 : Int32) (v8 : Int32) (v9 : Int32) (x7_37 : Int32) (x5_37 : Int64) (x3_37 : Int64) (v11 : Int32) : (Int32 × Int64 × Int64) ⊕ (Int32 × Int64 × Int64) := F_X10_lost_k60 mm bt v3 v4 v5 v6 v7 v8 v9 x7_37 x3_37 v11 (x5_37 + (Int32.toInt64 v11))
def F_X10_lost_b37 (mm : Nat → Int32) (bt : Nat → Int32) (n : Int32) (v3 : Int32) (v4 : Int32) (v5 : Int32) (v6 : Int32) (v7 : Int32) (v8 : Int32) (v9 : Int32) (x7_37 : Int32) (x5_37 : Int64) (x3_37 : Int64) : (Int32 × Int64 × Int64) ⊕ (Int32 × Int64 × Int64) := (if n < x7_37 then Sum.inr (x7_37, x5_37, x3_37) else F_X10_lost_k52 mm bt v3 v4 v5 v6 v7 v8 v9 x7_37 x5_37 x3_37 (F_X10_woundPull (upd (upd (upd (upd (upd (upd (upd (upd mm 0 (0 : Int32)) 6 v3) 7 v4) 8 v5) 9 v6) 10 v7) 11 v8) 12 v9) bt ((100 : Int32) * x7_37)))
def F_X10_lost_l37 (mm : Nat → Int32) (bt : Nat → Int32) (n : Int32) (v3 : Int32) (v4 : Int32) (v5 : Int32) (v6 : Int32) (v7 : Int32) (v8 : Int32) (v9 : Int32) : Nat → (Int32) → (Int64) → (Int64) → Int32 × Int64 × Int64
  | 0, x7_37, x5_37, x3_37 => (x7_37, x5_37, x3_37)
  | n_37 + 1, x7_37, x5_37, x3_37 => match F_X10_lost_b37 mm bt n v3 v4 v5 v6 v7 v8 v9 x7_37 x5_37 x3_37 with
    | Sum.inl (c_x7_37, c_x5_37, c_x3_37) => F_X10_lost_l37 mm bt n v3 v4 v5 v6 v7 v8 v9 n_37 c_x7_37 c_x5_37 c_x3_37
    | Sum.inr r_ => r_
def F_X10_lost_x37 (what : Int32) (v3 : Int32) (v4 : Int32) (v5 : Int32) (v6 : Int32) (v7 : Int32) (v8 : Int32) (v9 : Int32) (bx5_37 : Int64) (bx3_37 : Int64) : Int64 × Int32 × Int32 × Int32 × Int32 × Int32 × Int32 × Int32 × Int32 := (if what = (0 : Int32) then (bx3_37, (0 : Int32), v3, v4, v5, v6, v7, v8, v9) else (bx5_37, (0 : Int32), v3, v4, v5, v6, v7, v8, v9))
def F_X10_lost_k26 (mm : Nat → Int32) (bt : Nat → Int32) (n : Int32) (what : Int32) (v3 : Int32) (v4 : Int32) (v5 : Int32) (v6 : Int32) (v7 : Int32) (v8 : Int32) (v9 : Int32) : Int64 × Int32 × Int32 × Int32 × Int32 × Int32 × Int32 × Int32 × Int32 := (match F_X10_lost_l37 mm bt n v3 v4 v5 v6 v7 v8 v9 ((Int32.toInt n).toNat) (1 : Int32) (0 : Int64) (0 : Int64) with | (bx7_37, bx5_37, bx3_37) => F_X10_lost_x37 what v3 v4 v5 v6 v7 v8 v9 bx5_37 bx3_37)
def F_X10_lost (mm : Nat → Int32) (bt : Nat → Int32) (n : Int32) (what : Int32) : Int64 × Int32 × Int32 × Int32 × Int32 × Int32 × Int32 × Int32 × Int32 := (if (F_X10_areTurns n) = (0 : Int32) then ((-1 : Int64), (0 : Int32), (mm 6), (mm 7), (mm 8), (mm 9), (mm 10), (mm 11), (mm 12)) else (if (F_X10_in what (0 : Int32) (1 : Int32)) = (0 : Int32) then ((-1 : Int64), (0 : Int32), (mm 6), (mm 7), (mm 8), (mm 9), (mm 10), (mm 11), (mm 12)) else (match F_X10_asItIs bt with | (v3, v4, v5, v6, v7, v8, v9) => F_X10_lost_k26 mm bt n what v3 v4 v5 v6 v7 v8 v9)))
theorem iX10_lost_X10 : ∀ w ∈ wsX100, w ∈ wsX10_lost := fun _ h => List.mem_cons_of_mem _ (List.mem_append_right _ h)
set_option maxHeartbeats 4000000 in
set_option maxRecDepth 100000 in
theorem c_X10_lost (l : Launch) (E : wV) (h_mm : Nat) (a_mm : Nat → Nat) (mm : Nat → Int32) (bt : Nat → Int32) (n : Int32) (what : Int32) (hB : btOK bt) : MetL l yX10_lost wsX10_lost ({ frames := 2, cells := 0, slots := 0, locals := 44 } : Room) E ([.ref h_mm, .int n, .int what] : List Value) [xModel h_mm a_mm mm, xI E (a_mm 5) 60 bt] (fun (r : Int64) (u : Int32 × Int32 × Int32 × Int32 × Int32 × Int32 × Int32 × Int32) => F_X10_lost mm bt n what = (r, u)) (fun (u : Int32 × Int32 × Int32 × Int32 × Int32 × Int32 × Int32 × Int32) => [xModel h_mm a_mm (upd (upd (upd (upd (upd (upd (upd (upd mm 0 u.1) 6 u.2.1) 7 u.2.2.1) 8 u.2.2.2.1) 9 u.2.2.2.2.1) 10 u.2.2.2.2.2.1) 11 u.2.2.2.2.2.2.1) 12 u.2.2.2.2.2.2.2), xI E (a_mm 5) 60 bt]) := by
  refine MetL.of (cc := cX10_lost) (maxL := 9) (own := RX10) (by decide) rfl rfl (Nat.le_of_ble_eq_true rfl) ?_
  intro p e s m below meth c A Q ls cx hP hD hS hl hq
  obtain ⟨hx, hb, hml, hown, hts, hE, hA⟩ := id cx
  have hl : lv_has ls 9 [(0, .ref h_mm), (1, .int n), (2, .int what)] := hl
  have hP : va_P E.1 vwCl [xModel h_mm a_mm mm, xI E (a_mm 5) 60 bt] s.heap := hP
  obtain ⟨ρ, hρ0⟩ : ∃ ρ, F_X10_lost mm bt n what = ρ := ⟨_, rfl⟩
  have hρ := hρ0.symm
  unfold F_X10_lost at hρ
  refine lv_aload_n hx hb dX10_lost_0 rfl (lv_at hl 0 rfl) ?_
  refine lv_iconst (v := (0 : Int32)) hx hb dX10_lost_1 (by decide) ?_
  refine va_put (D := E.1) (ci := 10) (v := .int (0 : Int32)) (ty := .int) (C := RX10) (T := TX10) (N := 27) hx hb hts iX10_lost_X10 tyX10 tyX10_ok nmX10 hown hE.1 hP hD hS 0 rfl rfl 0 (by decide) (hts (.fieldLink RX10 41 "BandBoatModel" "thrown" "I") (List.mem_of_getElem? (i := 1) rfl)) (fun _ h9 => h9) rfl (by decide +kernel) rfl rfl (Nat.le_of_ble_eq_true rfl) dX10_lost_2 (fun H locs hP hD hS => ?_)
  have hP : va_P E.1 vwCl [xModel h_mm a_mm (upd mm 0 (0 : Int32)), xI E (a_mm 5) 60 bt] H := hP
  have hD : va_D A [xModel h_mm a_mm (upd mm 0 (0 : Int32)), xI E (a_mm 5) 60 bt] := hD
  refine lv_iload_n hx hb dX10_lost_5 rfl (lv_at hl 1 rfl) ?_
  refine kI (wc := []) (wr := [xModel h_mm a_mm (upd mm 0 (0 : Int32)), xI E (a_mm 5) 60 bt]) (wc' := (fun (_ : Unit) => [])) (wn := (fun (_ : Unit) => [xModel h_mm a_mm (upd mm 0 (0 : Int32)), xI E (a_mm 5) 60 bt])) (isC := []) (isR := [0, 1]) (is2 := [0, 1]) cx hP hD hS ⟨rfl, rfl, by decide, by decide, by decide, by decide, fun _ => rfl⟩ (rS (As := [.int n]) (rest := []) cx (c_X10_areTurns l E n _) (va_cwS 1 hts gX10_lost_X10_areTurns rfl rfl rfl (by decide +kernel) ⟨Nat.le_of_ble_eq_true rfl, Nat.le_of_ble_eq_true rfl⟩) rfl hl.1 rfl (Nat.le_of_ble_eq_true rfl) dX10_lost_6 ⟨Nat.zero_le _, Nat.zero_le _⟩) (fun r1 u H locs hw hP hD hS => ?_)
  subst hw
  refine lv_if_eq (tgt := 21) hx hb dX10_lost_9 (by decide) (fun c9 => ?_) (fun c9 => ?_)
  · rw [if_pos c9] at hρ
    refine lv_ldc2 (own := RX10) (v := (-1 : Int64)) hx hb hown (hts (.constantLong RX10 164 (-1)) (List.mem_of_getElem? (i := 2) rfl)) dX10_lost_21 ?_
    exact hq (-1 : Int64) ((0 : Int32), (mm 6), (mm 7), (mm 8), (mm 9), (mm 10), (mm 11), (mm 12)) _ _ _ _ dX10_lost_24 (hρ0.trans hρ) hP hD hS
  · rw [if_neg c9] at hρ
    refine lv_iload_n hx hb dX10_lost_12 rfl (lv_at hl 2 rfl) ?_
    refine lv_iconst (v := (0 : Int32)) hx hb dX10_lost_13 (by decide) ?_
    refine lv_iconst (v := (1 : Int32)) hx hb dX10_lost_14 (by decide) ?_
    refine kI (wc := []) (wr := [xModel h_mm a_mm (upd mm 0 (0 : Int32)), xI E (a_mm 5) 60 bt]) (wc' := (fun (_ : Unit) => [])) (wn := (fun (_ : Unit) => [xModel h_mm a_mm (upd mm 0 (0 : Int32)), xI E (a_mm 5) 60 bt])) (isC := []) (isR := [0, 1]) (is2 := [0, 1]) cx hP hD hS ⟨rfl, rfl, by decide, by decide, by decide, by decide, fun _ => rfl⟩ (rS (As := [.int what, .int (0 : Int32), .int (1 : Int32)]) (rest := []) cx (c_X10_in l E what (0 : Int32) (1 : Int32) _) (va_cwS 3 hts gX10_lost_X10_in rfl rfl rfl (by decide +kernel) ⟨Nat.le_of_ble_eq_true rfl, Nat.le_of_ble_eq_true rfl⟩) rfl hl.1 rfl (Nat.le_of_ble_eq_true rfl) dX10_lost_15 ⟨Nat.zero_le _, Nat.zero_le _⟩) (fun r2 u H locs hw hP hD hS => ?_)
    subst hw
    refine lv_if_ne (tgt := 25) hx hb dX10_lost_18 (by decide) (fun c18 => ?_) (fun c18 => ?_)
    · rw [if_neg c18] at hρ
      refine lv_aload_n hx hb dX10_lost_25 rfl (lv_at hl 0 rfl) ?_
      refine kV (wc := [xModel h_mm a_mm (upd mm 0 (0 : Int32)), xI E (a_mm 5) 60 bt]) (wr := []) (wc' := (fun (u : Int32 × Int32 × Int32 × Int32 × Int32 × Int32 × Int32) => [xModel h_mm a_mm (upd (upd (upd (upd (upd (upd (upd (upd mm 0 (0 : Int32)) 6 u.1) 7 u.2.1) 8 u.2.2.1) 9 u.2.2.2.1) 10 u.2.2.2.2.1) 11 u.2.2.2.2.2.1) 12 u.2.2.2.2.2.2), xI E (a_mm 5) 60 bt])) (wn := (fun (u : Int32 × Int32 × Int32 × Int32 × Int32 × Int32 × Int32) => [xModel h_mm a_mm (upd (upd (upd (upd (upd (upd (upd (upd mm 0 (0 : Int32)) 6 u.1) 7 u.2.1) 8 u.2.2.1) 9 u.2.2.2.1) 10 u.2.2.2.2.1) 11 u.2.2.2.2.2.1) 12 u.2.2.2.2.2.2), xI E (a_mm 5) 60 bt])) (isC := [0, 1]) (isR := []) (is2 := [0, 1]) cx hP hD hS ⟨rfl, rfl, by decide, by decide, by decide, by decide, fun _ => rfl⟩ (rV (As := []) (rest := []) (C := RX10) (q0 := 0) (ci := 10) cx (c_X10_asItIs l E h_mm a_mm (upd mm 0 (0 : Int32)) bt (hB) _) (cwV 0 hts gX10_lost_X10_asItIs rfl rfl rfl (by decide +kernel) ⟨Nat.le_of_ble_eq_true rfl, Nat.le_of_ble_eq_true rfl⟩) rfl rfl rfl rfl hl.1 rfl (Nat.le_of_ble_eq_true rfl) dX10_lost_26 ⟨Nat.zero_le _, Nat.zero_le _⟩) (fun u H locs hw hP hD hS => ?_)
      obtain ⟨hw, hn26⟩ := hw
      obtain ⟨v3, v4, v5, v6, v7, v8, v9⟩ := u
      have hn26 : (v6) = (bt 17) ∧ (v7) = (bt 18) ∧ (v8) = (bt 19) := hn26
      have hP : va_P E.1 vwCl [xModel h_mm a_mm (upd (upd (upd (upd (upd (upd (upd (upd mm 0 (0 : Int32)) 6 v3) 7 v4) 8 v5) 9 v6) 10 v7) 11 v8) 12 v9), xI E (a_mm 5) 60 bt] H := hP
      have hD : va_D A [xModel h_mm a_mm (upd (upd (upd (upd (upd (upd (upd (upd mm 0 (0 : Int32)) 6 v3) 7 v4) 8 v5) 9 v6) 10 v7) 11 v8) 12 v9), xI E (a_mm 5) 60 bt] := hD
      have hw : F_X10_asItIs bt = (v3, v4, v5, v6, v7, v8, v9) := hw
      rw [hw] at hρ
      have hρ : ρ = F_X10_lost_k26 mm bt n what v3 v4 v5 v6 v7 v8 v9 := hρ
      unfold F_X10_lost_k26 at hρ
      refine lv_lconst (v := (0 : Int64)) hx hb dX10_lost_29 (by decide) ?_
      refine lv_lstore_n (lv' := [(3, .long (0 : Int64)), (0, .ref h_mm), (1, .int n), (2, .int what)]) hx hb dX10_lost_30 rfl hl (by decide) rfl (fun ls hl => ?_)
      refine lv_lconst (v := (0 : Int64)) hx hb dX10_lost_31 (by decide) ?_
      refine lv_lstore (lv' := [(5, .long (0 : Int64)), (3, .long (0 : Int64)), (0, .ref h_mm), (1, .int n), (2, .int what)]) hx hb dX10_lost_32 hl (by decide) rfl (fun ls hl => ?_)
      refine lv_iconst (v := (1 : Int32)) hx hb dX10_lost_34 (by decide) ?_
      refine lv_istore (lv' := [(7, .int (1 : Int32)), (5, .long (0 : Int64)), (3, .long (0 : Int64)), (0, .ref h_mm), (1, .int n), (2, .int what)]) hx hb dX10_lost_35 hl (by decide) rfl (fun ls hl => ?_)
      have hL37 : ∀ (n_37 : Nat) (x7_37 : Int32) (x5_37 : Int64) (x3_37 : Int64) (H : Heap) (locs : List Loc) (ls : Array Slot), ((n : Int32).toInt < (x7_37).toInt + (n_37 : Nat)) → va_P E.1 vwCl [xModel h_mm a_mm (upd (upd (upd (upd (upd (upd (upd (upd mm 0 (0 : Int32)) 6 v3) 7 v4) 8 v5) 9 v6) 10 v7) 11 v8) 12 v9), xI E (a_mm 5) 60 bt] H → va_D A [xModel h_mm a_mm (upd (upd (upd (upd (upd (upd (upd (upd mm 0 (0 : Int32)) 6 v3) 7 v4) 8 v5) 9 v6) 10 v7) 11 v8) 12 v9), xI E (a_mm 5) 60 bt] → va_S A s.heap H locs → lv_has ls 9 [(7, .int x7_37), (5, .long x5_37), (3, .long x3_37), (0, .ref h_mm), (1, .int n), (2, .int what)] → (∀ (ox7_37 : Int32) (ox5_37 : Int64) (ox3_37 : Int64) (H : Heap) (locs : List Loc) (ls : Array Slot), F_X10_lost_l37 mm bt n v3 v4 v5 v6 v7 v8 v9 n_37 x7_37 x5_37 x3_37 = (ox7_37, ox5_37, ox3_37) → va_P E.1 vwCl [xModel h_mm a_mm (upd (upd (upd (upd (upd (upd (upd (upd mm 0 (0 : Int32)) 6 v3) 7 v4) 8 v5) 9 v6) 10 v7) 11 v8) 12 v9), xI E (a_mm 5) 60 bt] H → va_D A [xModel h_mm a_mm (upd (upd (upd (upd (upd (upd (upd (upd mm 0 (0 : Int32)) 6 v3) 7 v4) 8 v5) 9 v6) 10 v7) 11 v8) 12 v9), xI E (a_mm 5) 60 bt] → va_S A s.heap H locs → lv_has ls 9 [(7, .int ox7_37), (5, .long ox5_37), (3, .long ox3_37), (0, .ref h_mm), (1, .int n), (2, .int what)] → W p l e ({ frames := 2, cells := 0, slots := 0, locals := 44 } : Room) s m ([.ref h_mm, .int n, .int what] : List Value).toArray below meth c H locs 0 0 Q (F0 m 84 ls [])) → W p l e ({ frames := 2, cells := 0, slots := 0, locals := 44 } : Room) s m ([.ref h_mm, .int n, .int what] : List Value).toArray below meth c H locs 0 0 Q (F0 m 37 ls []) := by
        intro n_37
        induction n_37 with
        | zero =>
          intro x7_37 x5_37 x3_37 H locs ls hM hP hD hS hl hK
          have hM37 := hM
          obtain ⟨σ37, hσ037⟩ : ∃ σ, F_X10_lost_l37 mm bt n v3 v4 v5 v6 v7 v8 v9 0 x7_37 x5_37 x3_37 = σ := ⟨_, rfl⟩
          have hσ37 := hσ037.symm
          rw [F_X10_lost_l37] at hσ37
          refine lv_iload hx hb dX10_lost_37 (lv_at hl 0 rfl) ?_
          refine lv_iload_n hx hb dX10_lost_39 rfl (lv_at hl 4 rfl) ?_
          refine lv_icmp_gt (tgt := 84) hx hb dX10_lost_40 (by decide) (fun c40 => ?_) (fun c40 => ?_)
          · exact hK x7_37 x5_37 x3_37 _ _ _ (hσ037.trans hσ37) hP hD hS (lv_sub hl [0, 1, 2, 3, 4, 5] rfl)
          · exact (cnt_le0 c40 hM).elim
        | succ n_37 ih =>
          intro x7_37 x5_37 x3_37 H locs ls hM hP hD hS hl hK
          have hM37 := hM
          obtain ⟨σ37, hσ037⟩ : ∃ σ, F_X10_lost_l37 mm bt n v3 v4 v5 v6 v7 v8 v9 (n_37 + 1) x7_37 x5_37 x3_37 = σ := ⟨_, rfl⟩
          have hσ37 := hσ037.symm
          rw [F_X10_lost_l37] at hσ37
          obtain ⟨τ37, hτ037⟩ : ∃ τ, F_X10_lost_b37 mm bt n v3 v4 v5 v6 v7 v8 v9 x7_37 x5_37 x3_37 = τ := ⟨_, rfl⟩
          rw [hτ037] at hσ37
          have hτ37 := hτ037.symm
          unfold F_X10_lost_b37 at hτ37
          refine lv_iload hx hb dX10_lost_37 (lv_at hl 0 rfl) ?_
          refine lv_iload_n hx hb dX10_lost_39 rfl (lv_at hl 4 rfl) ?_
          refine lv_icmp_gt (tgt := 84) hx hb dX10_lost_40 (by decide) (fun c40 => ?_) (fun c40 => ?_)
          · rw [if_pos c40] at hτ37
            have hσ37 : σ37 = (x7_37, x5_37, x3_37) := by subst hτ37; exact hσ37
            exact hK x7_37 x5_37 x3_37 _ _ _ (hσ037.trans hσ37) hP hD hS (lv_sub hl [0, 1, 2, 3, 4, 5] rfl)
          · rw [if_neg c40] at hτ37
            refine lv_aload_n hx hb dX10_lost_43 rfl (lv_at hl 3 rfl) ?_
            refine lv_bipush (v := (100 : Int32)) hx hb dX10_lost_44 (by decide) ?_
            refine lv_iload hx hb dX10_lost_46 (lv_at hl 0 rfl) ?_
            refine lv_imul hx hb dX10_lost_48 ?_
            refine kI (wc := [xModel h_mm a_mm (upd (upd (upd (upd (upd (upd (upd (upd mm 0 (0 : Int32)) 6 v3) 7 v4) 8 v5) 9 v6) 10 v7) 11 v8) 12 v9), xI E (a_mm 5) 60 bt]) (wr := []) (wc' := (fun (_ : Unit) => [xModel h_mm a_mm (upd (upd (upd (upd (upd (upd (upd (upd mm 0 (0 : Int32)) 6 v3) 7 v4) 8 v5) 9 v6) 10 v7) 11 v8) 12 v9), xI E (a_mm 5) 60 bt])) (wn := (fun (_ : Unit) => [xModel h_mm a_mm (upd (upd (upd (upd (upd (upd (upd (upd mm 0 (0 : Int32)) 6 v3) 7 v4) 8 v5) 9 v6) 10 v7) 11 v8) 12 v9), xI E (a_mm 5) 60 bt])) (isC := [0, 1]) (isR := []) (is2 := [0, 1]) cx hP hD hS ⟨rfl, rfl, by decide, by decide, by decide, by decide, fun _ => rfl⟩ (rV (As := [.int ((100 : Int32) * x7_37)]) (rest := []) (C := RX10) (q0 := 0) (ci := 10) cx (c_X10_woundPull l E h_mm a_mm (upd (upd (upd (upd (upd (upd (upd (upd mm 0 (0 : Int32)) 6 v3) 7 v4) 8 v5) 9 v6) 10 v7) 11 v8) 12 v9) bt ((100 : Int32) * x7_37) (mmOK_of hn26 hB) _) (cwV 1 hts gX10_lost_X10_woundPull rfl rfl rfl (by decide +kernel) ⟨Nat.le_of_ble_eq_true rfl, Nat.le_of_ble_eq_true rfl⟩) rfl rfl rfl rfl hl.1 rfl (Nat.le_of_ble_eq_true rfl) dX10_lost_49 ⟨Nat.zero_le _, Nat.zero_le _⟩) (fun r10 u H locs hw hP hD hS => ?_)
            subst hw
            refine lv_topi (fun v11 ev11 => ?_)
            have hτ37 : τ37 = F_X10_lost_k52 mm bt v3 v4 v5 v6 v7 v8 v9 x7_37 x5_37 x3_37 v11 := by rw [ev11]; exact hτ37
            unfold F_X10_lost_k52 at hτ37
            refine lv_istore (lv' := [(8, .int v11), (7, .int x7_37), (5, .long x5_37), (3, .long x3_37), (0, .ref h_mm), (1, .int n), (2, .int what)]) hx hb dX10_lost_52 hl (by decide) rfl (fun ls hl => ?_)
            refine lv_lload hx hb dX10_lost_54 (lv_at hl 2 rfl) ?_
            refine lv_iload hx hb dX10_lost_56 (lv_at hl 0 rfl) ?_
            refine lv_i2l hx hb dX10_lost_58 rfl ?_
            refine lv_ladd hx hb dX10_lost_59 ?_
            refine lv_topl (fun v12 ev12 => ?_)
            have hτ37 : τ37 = F_X10_lost_k60 mm bt v3 v4 v5 v6 v7 v8 v9 x7_37 x3_37 v11 v12 := by rw [ev12]; exact hτ37
            unfold F_X10_lost_k60 at hτ37
            refine lv_lstore (lv' := [(5, .long v12), (8, .int v11), (7, .int x7_37), (3, .long x3_37), (0, .ref h_mm), (1, .int n), (2, .int what)]) hx hb dX10_lost_60 hl (by decide) rfl (fun ls hl => ?_)
            refine lv_lload_n hx hb dX10_lost_62 rfl (lv_at hl 3 rfl) ?_
            refine lv_iload hx hb dX10_lost_63 (lv_at hl 1 rfl) ?_
            refine lv_aload_n hx hb dX10_lost_65 rfl (lv_at hl 4 rfl) ?_
            refine lv_bipush (v := (100 : Int32)) hx hb dX10_lost_66 (by decide) ?_
            refine lv_iload hx hb dX10_lost_68 (lv_at hl 2 rfl) ?_
            refine lv_imul hx hb dX10_lost_70 ?_
            refine kI (wc := [xModel h_mm a_mm (upd (upd (upd (upd (upd (upd (upd (upd mm 0 (0 : Int32)) 6 v3) 7 v4) 8 v5) 9 v6) 10 v7) 11 v8) 12 v9), xI E (a_mm 5) 60 bt]) (wr := []) (wc' := (fun (_ : Unit) => [xModel h_mm a_mm (upd (upd (upd (upd (upd (upd (upd (upd mm 0 (0 : Int32)) 6 v3) 7 v4) 8 v5) 9 v6) 10 v7) 11 v8) 12 v9), xI E (a_mm 5) 60 bt])) (wn := (fun (_ : Unit) => [xModel h_mm a_mm (upd (upd (upd (upd (upd (upd (upd (upd mm 0 (0 : Int32)) 6 v3) 7 v4) 8 v5) 9 v6) 10 v7) 11 v8) 12 v9), xI E (a_mm 5) 60 bt])) (isC := [0, 1]) (isR := []) (is2 := [0, 1]) cx hP hD hS ⟨rfl, rfl, by decide, by decide, by decide, by decide, fun _ => rfl⟩ (rV (As := [.int ((100 : Int32) * x7_37)]) (rest := [.int v11, .long x3_37]) (C := RX10) (q0 := 0) (ci := 10) cx (c_X10_freePull l E h_mm a_mm (upd (upd (upd (upd (upd (upd (upd (upd mm 0 (0 : Int32)) 6 v3) 7 v4) 8 v5) 9 v6) 10 v7) 11 v8) 12 v9) bt ((100 : Int32) * x7_37) (mmOK_of hn26 hB) _) (cwV 1 hts gX10_lost_X10_freePull rfl rfl rfl (by decide +kernel) ⟨Nat.le_of_ble_eq_true rfl, Nat.le_of_ble_eq_true rfl⟩) rfl rfl rfl rfl hl.1 rfl (Nat.le_of_ble_eq_true rfl) dX10_lost_71 ⟨Nat.zero_le _, Nat.zero_le _⟩) (fun r13 u H locs hw hP hD hS => ?_)
            subst hw
            refine lv_isub hx hb dX10_lost_74 ?_
            refine lv_i2l hx hb dX10_lost_75 rfl ?_
            refine lv_ladd hx hb dX10_lost_76 ?_
            refine lv_topl (fun v14 ev14 => ?_)
            have hτ37 : τ37 = F_X10_lost_k77 x7_37 v12 v14 := by rw [ev14]; exact hτ37
            unfold F_X10_lost_k77 at hτ37
            refine lv_lstore_n (lv' := [(3, .long v14), (5, .long v12), (8, .int v11), (7, .int x7_37), (0, .ref h_mm), (1, .int n), (2, .int what)]) hx hb dX10_lost_77 rfl hl (by decide) rfl (fun ls hl => ?_)
            refine lv_iinc (v := (x7_37 + (1 : Int32))) (lv' := [(7, .int (x7_37 + (1 : Int32))), (3, .long v14), (5, .long v12), (8, .int v11), (0, .ref h_mm), (1, .int n), (2, .int what)]) hx hb dX10_lost_78 hl (k := 3) rfl rfl (by decide) rfl (fun ls hl => ?_)
            refine lv_goto (tgt := 37) hx hb dX10_lost_81 (by decide) ?_
            have hσ37 : σ37 = F_X10_lost_l37 mm bt n v3 v4 v5 v6 v7 v8 v9 n_37 (x7_37 + (1 : Int32)) v12 v14 := by subst hτ37; exact hσ37
            exact ih (x7_37 + (1 : Int32)) v12 v14 _ _ _ (cnt_le (arT' c9) c40 hM) hP hD hS (lv_sub hl [0, 2, 1, 4, 5, 6] rfl) (fun ox7_37 ox5_37 ox3_37 H locs ls he => hK ox7_37 ox5_37 ox3_37 H locs ls (hσ037.trans (hσ37.trans he)))
      refine hL37 ((Int32.toInt n).toNat) (1 : Int32) (0 : Int64) (0 : Int64) _ _ _ (by show _ < (1 : Int) + _; omega) hP hD hS (lv_sub hl [0, 1, 2, 3, 4, 5] rfl) ?_
      intro bx7_37 bx5_37 bx3_37 H locs ls he hP hD hS hl
      rw [he] at hρ
      have hρ : ρ = F_X10_lost_x37 what v3 v4 v5 v6 v7 v8 v9 bx5_37 bx3_37 := hρ
      unfold F_X10_lost_x37 at hρ
      refine lv_iload_n hx hb dX10_lost_84 rfl (lv_at hl 5 rfl) ?_
      refine lv_if_ne (tgt := 92) hx hb dX10_lost_85 (by decide) (fun c85 => ?_) (fun c85 => ?_)
      · rw [if_neg c85] at hρ
        refine lv_lload hx hb dX10_lost_92 (lv_at hl 1 rfl) ?_
        exact hq bx5_37 ((0 : Int32), v3, v4, v5, v6, v7, v8, v9) _ _ _ _ dX10_lost_94 (hρ0.trans hρ) hP hD hS
      · rw [if_pos c85] at hρ
        refine lv_lload_n hx hb dX10_lost_88 rfl (lv_at hl 2 rfl) ?_
        refine lv_goto (tgt := 94) hx hb dX10_lost_89 (by decide) ?_
        exact hq bx3_37 ((0 : Int32), v3, v4, v5, v6, v7, v8, v9) _ _ _ _ dX10_lost_94 (hρ0.trans hρ) hP hD hS
    · rw [if_pos c18] at hρ
      refine lv_ldc2 (own := RX10) (v := (-1 : Int64)) hx hb hown (hts (.constantLong RX10 164 (-1)) (List.mem_of_getElem? (i := 2) rfl)) dX10_lost_21 ?_
      exact hq (-1 : Int64) ((0 : Int32), (mm 6), (mm 7), (mm 8), (mm 9), (mm 10), (mm 11), (mm 12)) _ _ _ _ dX10_lost_24 (hρ0.trans hρ) hP hD hS
def F_X10_snapOf_k65 (v2 : Int32) : Int32 := (if v2 ≤ (1000 : Int32) then v2 else (1000 : Int32))
def F_X10_snapOf_k35 (bt : Nat → Int32) (n : Int32) (v1 : Int32) : Int32 := (if v1 < ((100 : Int32) * n) then F_X10_snapOf_k65 (((((100 : Int32) * n) - v1) / (10 : Int32)) + ((5 : Int32) * (bt 26))) else (0 : Int32))
def F_X10_snapOf (bt : Nat → Int32) (n : Int32) : Int32 := F_X10_snapOf_k35 bt n ((((10 : Int32) * (bt (Int32.toNatClampNeg (((4 : Int32) * (bt 16)) + (3 : Int32))))) * (bt 18)) / (bt 17))
theorem iX10_snapOf_X10 : ∀ w ∈ wsX100, w ∈ wsX10_snapOf := fun _ h => List.mem_cons_of_mem _ (List.mem_append_right _ h)
set_option maxHeartbeats 4000000 in
set_option maxRecDepth 100000 in
theorem c_X10_snapOf (l : Launch) (E : wV) (h_mm : Nat) (a_mm : Nat → Nat) (mm : Nat → Int32) (bt : Nat → Int32) (n : Int32) (hB : btOK bt) : MetI l yX10_snapOf wsX10_snapOf ({ frames := 0, cells := 0, slots := 0, locals := 0 } : Room) E ([.ref h_mm, .int n] : List Value) [xModel h_mm a_mm mm, xI E (a_mm 5) 60 bt] (fun (r : Int32) (_ : Unit) => r = F_X10_snapOf bt n) (fun (_ : Unit) => [xModel h_mm a_mm mm, xI E (a_mm 5) 60 bt]) := by
  refine MetI.of (cc := cX10_snapOf) (maxL := 4) (own := RX10) (by decide) rfl rfl (Nat.le_of_ble_eq_true rfl) ?_
  intro p e s m below meth c A Q ls cx hP hD hS hl hq
  obtain ⟨hx, hb, hml, hown, hts, hE, hA⟩ := id cx
  have hl : lv_has ls 4 [(0, .ref h_mm), (1, .int n)] := hl
  have hP : va_P E.1 vwCl [xModel h_mm a_mm mm, xI E (a_mm 5) 60 bt] s.heap := hP
  obtain ⟨ρ, hρ0⟩ : ∃ ρ, F_X10_snapOf bt n = ρ := ⟨_, rfl⟩
  have hρ := hρ0.symm
  unfold F_X10_snapOf at hρ
  refine lv_bipush (v := (10 : Int32)) hx hb dX10_snapOf_0 (by decide) ?_
  refine lv_aload_n hx hb dX10_snapOf_2 rfl (lv_at hl 0 rfl) ?_
  refine va_get (D := E.1) (ci := 10) (v := .ref (a_mm 5)) (C := RX10) (T := TX10) (N := 27) hx hb hts iX10_snapOf_X10 hown hE.1 hP 0 rfl rfl 5 (by decide) (hts (.fieldLink RX10 13 "BandBoatModel" "boat" "[I") (List.mem_of_getElem? (i := 1) rfl)) (fun _ h9 => h9) rfl dX10_snapOf_3 ?_
  refine lv_iconst (v := (4 : Int32)) hx hb dX10_snapOf_6 (by decide) ?_
  refine lv_aload_n hx hb dX10_snapOf_7 rfl (lv_at hl 0 rfl) ?_
  refine va_get (D := E.1) (ci := 10) (v := .ref (a_mm 5)) (C := RX10) (T := TX10) (N := 27) hx hb hts iX10_snapOf_X10 hown hE.1 hP 0 rfl rfl 5 (by decide) (hts (.fieldLink RX10 13 "BandBoatModel" "boat" "[I") (List.mem_of_getElem? (i := 1) rfl)) (fun _ h9 => h9) rfl dX10_snapOf_8 ?_
  refine lv_bipush (v := (16 : Int32)) hx hb dX10_snapOf_11 (by decide) ?_
  refine ar_ild (k := 16) (v := (bt 16)) hx hb hE hP 1 rfl (by unfold vp_in; decide) rfl rfl dX10_snapOf_13 ?_
  refine lv_imul hx hb dX10_snapOf_14 ?_
  refine lv_iconst (v := (3 : Int32)) hx hb dX10_snapOf_15 (by decide) ?_
  refine lv_iadd hx hb dX10_snapOf_16 ?_
  refine ar_ild (k := (Int32.toNatClampNeg (((4 : Int32) * (bt 16)) + (3 : Int32)))) (v := (bt (Int32.toNatClampNeg (((4 : Int32) * (bt 16)) + (3 : Int32))))) hx hb hE hP 1 rfl (sn_in hB) rfl rfl dX10_snapOf_17 ?_
  refine lv_imul hx hb dX10_snapOf_18 ?_
  refine lv_aload_n hx hb dX10_snapOf_19 rfl (lv_at hl 0 rfl) ?_
  refine va_get (D := E.1) (ci := 10) (v := .ref (a_mm 5)) (C := RX10) (T := TX10) (N := 27) hx hb hts iX10_snapOf_X10 hown hE.1 hP 0 rfl rfl 5 (by decide) (hts (.fieldLink RX10 13 "BandBoatModel" "boat" "[I") (List.mem_of_getElem? (i := 1) rfl)) (fun _ h9 => h9) rfl dX10_snapOf_20 ?_
  refine lv_bipush (v := (18 : Int32)) hx hb dX10_snapOf_23 (by decide) ?_
  refine ar_ild (k := 18) (v := (bt 18)) hx hb hE hP 1 rfl (by unfold vp_in; decide) rfl rfl dX10_snapOf_25 ?_
  refine lv_imul hx hb dX10_snapOf_26 ?_
  refine lv_aload_n hx hb dX10_snapOf_27 rfl (lv_at hl 0 rfl) ?_
  refine va_get (D := E.1) (ci := 10) (v := .ref (a_mm 5)) (C := RX10) (T := TX10) (N := 27) hx hb hts iX10_snapOf_X10 hown hE.1 hP 0 rfl rfl 5 (by decide) (hts (.fieldLink RX10 13 "BandBoatModel" "boat" "[I") (List.mem_of_getElem? (i := 1) rfl)) (fun _ h9 => h9) rfl dX10_snapOf_28 ?_
  refine lv_bipush (v := (17 : Int32)) hx hb dX10_snapOf_31 (by decide) ?_
  refine ar_ild (k := 17) (v := (bt 17)) hx hb hE hP 1 rfl (by unfold vp_in; decide) rfl rfl dX10_snapOf_33 ?_
  refine lv_idiv hx hb dX10_snapOf_34 (hB.2.1) ?_
  refine lv_topi (fun v1 ev1 => ?_)
  have hρ : ρ = F_X10_snapOf_k35 bt n v1 := by rw [ev1]; exact hρ
  unfold F_X10_snapOf_k35 at hρ
  refine lv_istore_n (lv' := [(2, .int v1), (0, .ref h_mm), (1, .int n)]) hx hb dX10_snapOf_35 rfl hl (by decide) rfl (fun ls hl => ?_)
  refine lv_bipush (v := (100 : Int32)) hx hb dX10_snapOf_36 (by decide) ?_
  refine lv_iload_n hx hb dX10_snapOf_38 rfl (lv_at hl 2 rfl) ?_
  refine lv_imul hx hb dX10_snapOf_39 ?_
  refine lv_iload_n hx hb dX10_snapOf_40 rfl (lv_at hl 0 rfl) ?_
  refine lv_icmp_gt (tgt := 46) hx hb dX10_snapOf_41 (by decide) (fun c41 => ?_) (fun c41 => ?_)
  · rw [if_pos c41] at hρ
    refine lv_bipush (v := (100 : Int32)) hx hb dX10_snapOf_46 (by decide) ?_
    refine lv_iload_n hx hb dX10_snapOf_48 rfl (lv_at hl 2 rfl) ?_
    refine lv_imul hx hb dX10_snapOf_49 ?_
    refine lv_iload_n hx hb dX10_snapOf_50 rfl (lv_at hl 0 rfl) ?_
    refine lv_isub hx hb dX10_snapOf_51 ?_
    refine lv_bipush (v := (10 : Int32)) hx hb dX10_snapOf_52 (by decide) ?_
    refine lv_idiv hx hb dX10_snapOf_54 (by decide) ?_
    refine lv_iconst (v := (5 : Int32)) hx hb dX10_snapOf_55 (by decide) ?_
    refine lv_aload_n hx hb dX10_snapOf_56 rfl (lv_at hl 1 rfl) ?_
    refine va_get (D := E.1) (ci := 10) (v := .ref (a_mm 5)) (C := RX10) (T := TX10) (N := 27) hx hb hts iX10_snapOf_X10 hown hE.1 hP 0 rfl rfl 5 (by decide) (hts (.fieldLink RX10 13 "BandBoatModel" "boat" "[I") (List.mem_of_getElem? (i := 1) rfl)) (fun _ h9 => h9) rfl dX10_snapOf_57 ?_
    refine lv_bipush (v := (26 : Int32)) hx hb dX10_snapOf_60 (by decide) ?_
    refine ar_ild (k := 26) (v := (bt 26)) hx hb hE hP 1 rfl (by unfold vp_in; decide) rfl rfl dX10_snapOf_62 ?_
    refine lv_imul hx hb dX10_snapOf_63 ?_
    refine lv_iadd hx hb dX10_snapOf_64 ?_
    refine lv_topi (fun v2 ev2 => ?_)
    have hρ : ρ = F_X10_snapOf_k65 v2 := by rw [ev2]; exact hρ
    unfold F_X10_snapOf_k65 at hρ
    refine lv_istore_n (lv' := [(3, .int v2), (2, .int v1), (0, .ref h_mm), (1, .int n)]) hx hb dX10_snapOf_65 rfl hl (by decide) rfl (fun ls hl => ?_)
    refine lv_iload_n hx hb dX10_snapOf_66 rfl (lv_at hl 0 rfl) ?_
    refine lv_sipush (v := (1000 : Int32)) hx hb dX10_snapOf_67 (by decide) ?_
    refine lv_icmp_le (tgt := 79) hx hb dX10_snapOf_70 (by decide) (fun c70 => ?_) (fun c70 => ?_)
    · rw [if_pos c70] at hρ
      refine lv_iload_n hx hb dX10_snapOf_79 rfl (lv_at hl 0 rfl) ?_
      exact hq v2 () _ _ _ _ dX10_snapOf_80 rfl (hρ0.trans hρ).symm hP hD hS
    · rw [if_neg c70] at hρ
      refine lv_sipush (v := (1000 : Int32)) hx hb dX10_snapOf_73 (by decide) ?_
      refine lv_goto (tgt := 80) hx hb dX10_snapOf_76 (by decide) ?_
      exact hq (1000 : Int32) () _ _ _ _ dX10_snapOf_80 rfl (hρ0.trans hρ).symm hP hD hS
  · rw [if_neg c41] at hρ
    refine lv_iconst (v := (0 : Int32)) hx hb dX10_snapOf_44 (by decide) ?_
    exact hq (0 : Int32) () _ _ _ _ dX10_snapOf_45 rfl (hρ0.trans hρ).symm hP hD hS
def F_X10_snap (bt : Nat → Int32) (n : Int32) : Int32 × Int32 := (if (F_X10_areTurns n) = (0 : Int32) then ((-1 : Int32), (0 : Int32)) else ((F_X10_snapOf bt n), (0 : Int32)))
theorem iX10_snap_X10 : ∀ w ∈ wsX100, w ∈ wsX10_snap := fun _ h => List.mem_cons_of_mem _ (List.mem_append_right _ h)
set_option maxHeartbeats 4000000 in
set_option maxRecDepth 100000 in
theorem c_X10_snap (l : Launch) (E : wV) (h_mm : Nat) (a_mm : Nat → Nat) (mm : Nat → Int32) (bt : Nat → Int32) (n : Int32) (hB : btOK bt) : MetI l yX10_snap wsX10_snap ({ frames := 2, cells := 0, slots := 0, locals := 42 } : Room) E ([.ref h_mm, .int n] : List Value) [xModel h_mm a_mm mm, xI E (a_mm 5) 60 bt] (fun (r : Int32) (u : Int32) => F_X10_snap bt n = (r, u)) (fun (u : Int32) => [xModel h_mm a_mm (upd mm 0 u), xI E (a_mm 5) 60 bt]) := by
  refine MetI.of (cc := cX10_snap) (maxL := 2) (own := RX10) (by decide) rfl rfl (Nat.le_of_ble_eq_true rfl) ?_
  intro p e s m below meth c A Q ls cx hP hD hS hl hq
  obtain ⟨hx, hb, hml, hown, hts, hE, hA⟩ := id cx
  have hl : lv_has ls 2 [(0, .ref h_mm), (1, .int n)] := hl
  have hP : va_P E.1 vwCl [xModel h_mm a_mm mm, xI E (a_mm 5) 60 bt] s.heap := hP
  obtain ⟨ρ, hρ0⟩ : ∃ ρ, F_X10_snap bt n = ρ := ⟨_, rfl⟩
  have hρ := hρ0.symm
  unfold F_X10_snap at hρ
  refine lv_aload_n hx hb dX10_snap_0 rfl (lv_at hl 0 rfl) ?_
  refine lv_iconst (v := (0 : Int32)) hx hb dX10_snap_1 (by decide) ?_
  refine va_put (D := E.1) (ci := 10) (v := .int (0 : Int32)) (ty := .int) (C := RX10) (T := TX10) (N := 27) hx hb hts iX10_snap_X10 tyX10 tyX10_ok nmX10 hown hE.1 hP hD hS 0 rfl rfl 0 (by decide) (hts (.fieldLink RX10 41 "BandBoatModel" "thrown" "I") (List.mem_of_getElem? (i := 1) rfl)) (fun _ h9 => h9) rfl (by decide +kernel) rfl rfl (Nat.le_of_ble_eq_true rfl) dX10_snap_2 (fun H locs hP hD hS => ?_)
  have hP : va_P E.1 vwCl [xModel h_mm a_mm (upd mm 0 (0 : Int32)), xI E (a_mm 5) 60 bt] H := hP
  have hD : va_D A [xModel h_mm a_mm (upd mm 0 (0 : Int32)), xI E (a_mm 5) 60 bt] := hD
  refine lv_iload_n hx hb dX10_snap_5 rfl (lv_at hl 1 rfl) ?_
  refine kI (wc := []) (wr := [xModel h_mm a_mm (upd mm 0 (0 : Int32)), xI E (a_mm 5) 60 bt]) (wc' := (fun (_ : Unit) => [])) (wn := (fun (_ : Unit) => [xModel h_mm a_mm (upd mm 0 (0 : Int32)), xI E (a_mm 5) 60 bt])) (isC := []) (isR := [0, 1]) (is2 := [0, 1]) cx hP hD hS ⟨rfl, rfl, by decide, by decide, by decide, by decide, fun _ => rfl⟩ (rS (As := [.int n]) (rest := []) cx (c_X10_areTurns l E n _) (va_cwS 1 hts gX10_snap_X10_areTurns rfl rfl rfl (by decide +kernel) ⟨Nat.le_of_ble_eq_true rfl, Nat.le_of_ble_eq_true rfl⟩) rfl hl.1 rfl (Nat.le_of_ble_eq_true rfl) dX10_snap_6 ⟨Nat.zero_le _, Nat.zero_le _⟩) (fun r1 u H locs hw hP hD hS => ?_)
  subst hw
  refine lv_if_eq (tgt := 20) hx hb dX10_snap_9 (by decide) (fun c9 => ?_) (fun c9 => ?_)
  · rw [if_pos c9] at hρ
    refine lv_iconst (v := (-1 : Int32)) hx hb dX10_snap_20 (by decide) ?_
    exact hq (-1 : Int32) (0 : Int32) _ _ _ _ dX10_snap_21 rfl (hρ0.trans hρ) hP hD hS
  · rw [if_neg c9] at hρ
    refine lv_aload_n hx hb dX10_snap_12 rfl (lv_at hl 0 rfl) ?_
    refine lv_iload_n hx hb dX10_snap_13 rfl (lv_at hl 1 rfl) ?_
    refine kI (wc := [xModel h_mm a_mm (upd mm 0 (0 : Int32)), xI E (a_mm 5) 60 bt]) (wr := []) (wc' := (fun (_ : Unit) => [xModel h_mm a_mm (upd mm 0 (0 : Int32)), xI E (a_mm 5) 60 bt])) (wn := (fun (_ : Unit) => [xModel h_mm a_mm (upd mm 0 (0 : Int32)), xI E (a_mm 5) 60 bt])) (isC := [0, 1]) (isR := []) (is2 := [0, 1]) cx hP hD hS ⟨rfl, rfl, by decide, by decide, by decide, by decide, fun _ => rfl⟩ (rV (As := [.int n]) (rest := []) (C := RX10) (q0 := 0) (ci := 10) cx (c_X10_snapOf l E h_mm a_mm (upd mm 0 (0 : Int32)) bt n (hB) _) (cwV 1 hts gX10_snap_X10_snapOf rfl rfl rfl (by decide +kernel) ⟨Nat.le_of_ble_eq_true rfl, Nat.le_of_ble_eq_true rfl⟩) rfl rfl rfl rfl hl.1 rfl (Nat.le_of_ble_eq_true rfl) dX10_snap_14 ⟨Nat.zero_le _, Nat.zero_le _⟩) (fun r2 u H locs hw hP hD hS => ?_)
    subst hw
    refine lv_goto (tgt := 21) hx hb dX10_snap_17 (by decide) ?_
    exact hq (F_X10_snapOf bt n) (0 : Int32) _ _ _ _ dX10_snap_21 rfl (hρ0.trans hρ) hP hD hS
def F_X10_wise_j75 (x4_18 : Int32) (v9 : Int32) (v10 : Int32) (v11 : Int32) (v12 : Int32) (g13 : Nat → Int32) (y0_61 : Int32) (y0_75 : Int64) : (Int32 × Int64 × Int32 × Int32 × Int32 × Int32 × (Nat → Int32) × Int32) ⊕ (Int32 × Int64 × Int32 × Int32 × Int32 × Int32 × (Nat → Int32) × Int32) := Sum.inl ((x4_18 + (1 : Int32)), y0_75, v9, v10, v11, v12, g13, y0_61)
def F_X10_wise_j61 (x4_18 : Int32) (x2_18 : Int64) (v9 : Int32) (v10 : Int32) (v11 : Int32) (v12 : Int32) (g13 : Nat → Int32) (v15 : Int64) (y0_61 : Int32) : (Int32 × Int64 × Int32 × Int32 × Int32 × Int32 × (Nat → Int32) × Int32) ⊕ (Int32 × Int64 × Int32 × Int32 × Int32 × Int32 × (Nat → Int32) × Int32) := (if (lg_cmp v15 x2_18) ≤ (0 : Int32) then F_X10_wise_j75 x4_18 v9 v10 v11 v12 g13 y0_61 x2_18 else F_X10_wise_j75 x4_18 v9 v10 v11 v12 g13 y0_61 v15)
def F_X10_wise_k46 (x4_18 : Int32) (x2_18 : Int64) (x1_18 : Int32) (v9 : Int32) (v10 : Int32) (v11 : Int32) (v12 : Int32) (g13 : Nat → Int32) (v15 : Int64) : (Int32 × Int64 × Int32 × Int32 × Int32 × Int32 × (Nat → Int32) × Int32) ⊕ (Int32 × Int64 × Int32 × Int32 × Int32 × Int32 × (Nat → Int32) × Int32) := (if (lg_cmp v15 x2_18) ≤ (0 : Int32) then F_X10_wise_j61 x4_18 x2_18 v9 v10 v11 v12 g13 v15 x1_18 else F_X10_wise_j61 x4_18 x2_18 v9 v10 v11 v12 g13 v15 x4_18)
def F_X10_wise_k30 (bt : Nat → Int32) (x4_18 : Int32) (x2_18 : Int64) (x1_18 : Int32) (r8 : Int32) (v9 : Int32) (v10 : Int32) (v11 : Int32) (v12 : Int32) (g13 : Nat → Int32) : (Int32 × Int64 × Int32 × Int32 × Int32 × Int32 × (Nat → Int32) × Int32) ⊕ (Int32 × Int64 × Int32 × Int32 × Int32 × Int32 × (Nat → Int32) × Int32) := F_X10_wise_k46 x4_18 x2_18 x1_18 v9 v10 v11 v12 g13 ((Int32.toInt64 r8) * (Int32.toInt64 ((1000 : Int32) - (F_X10_snapOf bt x4_18))))
def F_X10_wise_b18 (mm : Nat → Int32) (bt : Nat → Int32) (v1 : Int32) (v2 : Int32) (v3 : Int32) (v4 : Int32) (v5 : Int32) (v6 : Int32) (v7 : Int32) (x4_18 : Int32) (x2_18 : Int64) (s_mm_17_18 : Int32) (s_mm_18_18 : Int32) (s_mm_19_18 : Int32) (s_mm_20_18 : Int32) (g_rn_18 : Nat → Int32) (x1_18 : Int32) : (Int32 × Int64 × Int32 × Int32 × Int32 × Int32 × (Nat → Int32) × Int32) ⊕ (Int32 × Int64 × Int32 × Int32 × Int32 × Int32 × (Nat → Int32) × Int32) := (if (401 : Int32) ≤ x4_18 then Sum.inr (x4_18, x2_18, s_mm_17_18, s_mm_18_18, s_mm_19_18, s_mm_20_18, g_rn_18, x1_18) else (match F_X10_placeOf (upd (upd (upd (upd (upd (upd (upd (upd (upd (upd (upd (upd mm 0 (0 : Int32)) 6 v1) 7 v2) 8 v3) 9 v4) 10 v5) 11 v6) 12 v7) 17 s_mm_17_18) 18 s_mm_18_18) 19 s_mm_19_18) 20 s_mm_20_18) bt g_rn_18 x4_18 (-1 : Int32) with | (r8, v9, v10, v11, v12, g13) => F_X10_wise_k30 bt x4_18 x2_18 x1_18 r8 v9 v10 v11 v12 g13))
def F_X10_wise_l18 (mm : Nat → Int32) (bt : Nat → Int32) (v1 : Int32) (v2 : Int32) (v3 : Int32) (v4 : Int32) (v5 : Int32) (v6 : Int32) (v7 : Int32) : Nat → (Int32) → (Int64) → (Int32) → (Int32) → (Int32) → (Int32) → (Nat → Int32) → (Int32) → Int32 × Int64 × Int32 × Int32 × Int32 × Int32 × (Nat → Int32) × Int32
  | 0, x4_18, x2_18, s_mm_17_18, s_mm_18_18, s_mm_19_18, s_mm_20_18, g_rn_18, x1_18 => (x4_18, x2_18, s_mm_17_18, s_mm_18_18, s_mm_19_18, s_mm_20_18, g_rn_18, x1_18)
  | n_18 + 1, x4_18, x2_18, s_mm_17_18, s_mm_18_18, s_mm_19_18, s_mm_20_18, g_rn_18, x1_18 => match F_X10_wise_b18 mm bt v1 v2 v3 v4 v5 v6 v7 x4_18 x2_18 s_mm_17_18 s_mm_18_18 s_mm_19_18 s_mm_20_18 g_rn_18 x1_18 with
    | Sum.inl (c_x4_18, c_x2_18, c_s_mm_17_18, c_s_mm_18_18, c_s_mm_19_18, c_s_mm_20_18, c_g_rn_18, c_x1_18) => F_X10_wise_l18 mm bt v1 v2 v3 v4 v5 v6 v7 n_18 c_x4_18 c_x2_18 c_s_mm_17_18 c_s_mm_18_18 c_s_mm_19_18 c_s_mm_20_18 c_g_rn_18 c_x1_18
    | Sum.inr r_ => r_
def F_X10_wise_x18 (v1 : Int32) (v2 : Int32) (v3 : Int32) (v4 : Int32) (v5 : Int32) (v6 : Int32) (v7 : Int32) (bs_mm_17_18 : Int32) (bs_mm_18_18 : Int32) (bs_mm_19_18 : Int32) (bs_mm_20_18 : Int32) (bg_rn_18 : Nat → Int32) (bx1_18 : Int32) : Int32 × Int32 × Int32 × Int32 × Int32 × Int32 × Int32 × Int32 × Int32 × Int32 × Int32 × Int32 × Int32 × (Nat → Int32) := (bx1_18, (0 : Int32), v1, v2, v3, v4, v5, v6, v7, bs_mm_17_18, bs_mm_18_18, bs_mm_19_18, bs_mm_20_18, bg_rn_18)
def F_X10_wise_k6 (mm : Nat → Int32) (bt : Nat → Int32) (rn : Nat → Int32) (v1 : Int32) (v2 : Int32) (v3 : Int32) (v4 : Int32) (v5 : Int32) (v6 : Int32) (v7 : Int32) : Int32 × Int32 × Int32 × Int32 × Int32 × Int32 × Int32 × Int32 × Int32 × Int32 × Int32 × Int32 × Int32 × (Nat → Int32) := (match F_X10_wise_l18 mm bt v1 v2 v3 v4 v5 v6 v7 (401) (0 : Int32) (-1 : Int64) (mm 17) (mm 18) (mm 19) (mm 20) rn (0 : Int32) with | (bx4_18, bx2_18, bs_mm_17_18, bs_mm_18_18, bs_mm_19_18, bs_mm_20_18, bg_rn_18, bx1_18) => F_X10_wise_x18 v1 v2 v3 v4 v5 v6 v7 bs_mm_17_18 bs_mm_18_18 bs_mm_19_18 bs_mm_20_18 bg_rn_18 bx1_18)
def F_X10_wise (mm : Nat → Int32) (bt : Nat → Int32) (rn : Nat → Int32) : Int32 × Int32 × Int32 × Int32 × Int32 × Int32 × Int32 × Int32 × Int32 × Int32 × Int32 × Int32 × Int32 × (Nat → Int32) := (match F_X10_asItIs bt with | (v1, v2, v3, v4, v5, v6, v7) => F_X10_wise_k6 mm bt rn v1 v2 v3 v4 v5 v6 v7)
theorem iX10_wise_X10 : ∀ w ∈ wsX100, w ∈ wsX10_wise := fun _ h => List.mem_cons_of_mem _ (List.mem_append_right _ h)
set_option maxHeartbeats 4000000 in
set_option maxRecDepth 100000 in
theorem c_X10_wise (l : Launch) (E : wV) (h_mm : Nat) (a_mm : Nat → Nat) (mm : Nat → Int32) (bt : Nat → Int32) (rn : Nat → Int32) (hB : btOK bt) : MetI l yX10_wise wsX10_wise ({ frames := 5, cells := 0, slots := 0, locals := 117 } : Room) E ([.ref h_mm] : List Value) [xModel h_mm a_mm mm, xI E (a_mm 5) 60 bt, xI E (a_mm 14) 6 rn] (fun (r : Int32) (u : Int32 × Int32 × Int32 × Int32 × Int32 × Int32 × Int32 × Int32 × Int32 × Int32 × Int32 × Int32 × (Nat → Int32)) => F_X10_wise mm bt rn = (r, u)) (fun (u : Int32 × Int32 × Int32 × Int32 × Int32 × Int32 × Int32 × Int32 × Int32 × Int32 × Int32 × Int32 × (Nat → Int32)) => [xModel h_mm a_mm (upd (upd (upd (upd (upd (upd (upd (upd (upd (upd (upd (upd mm 0 u.1) 6 u.2.1) 7 u.2.2.1) 8 u.2.2.2.1) 9 u.2.2.2.2.1) 10 u.2.2.2.2.2.1) 11 u.2.2.2.2.2.2.1) 12 u.2.2.2.2.2.2.2.1) 17 u.2.2.2.2.2.2.2.2.1) 18 u.2.2.2.2.2.2.2.2.2.1) 19 u.2.2.2.2.2.2.2.2.2.2.1) 20 u.2.2.2.2.2.2.2.2.2.2.2.1), xI E (a_mm 5) 60 bt, xI E (a_mm 14) 6 u.2.2.2.2.2.2.2.2.2.2.2.2]) := by
  refine MetI.of (cc := cX10_wise) (maxL := 7) (own := RX10) (by decide) rfl rfl (Nat.le_of_ble_eq_true rfl) ?_
  intro p e s m below meth c A Q ls cx hP hD hS hl hq
  obtain ⟨hx, hb, hml, hown, hts, hE, hA⟩ := id cx
  have hl : lv_has ls 7 [(0, .ref h_mm)] := hl
  have hP : va_P E.1 vwCl [xModel h_mm a_mm mm, xI E (a_mm 5) 60 bt, xI E (a_mm 14) 6 rn] s.heap := hP
  obtain ⟨ρ, hρ0⟩ : ∃ ρ, F_X10_wise mm bt rn = ρ := ⟨_, rfl⟩
  have hρ := hρ0.symm
  unfold F_X10_wise at hρ
  refine lv_aload_n hx hb dX10_wise_0 rfl (lv_at hl 0 rfl) ?_
  refine lv_iconst (v := (0 : Int32)) hx hb dX10_wise_1 (by decide) ?_
  refine va_put (D := E.1) (ci := 10) (v := .int (0 : Int32)) (ty := .int) (C := RX10) (T := TX10) (N := 27) hx hb hts iX10_wise_X10 tyX10 tyX10_ok nmX10 hown hE.1 hP hD hS 0 rfl rfl 0 (by decide) (hts (.fieldLink RX10 41 "BandBoatModel" "thrown" "I") (List.mem_of_getElem? (i := 1) rfl)) (fun _ h9 => h9) rfl (by decide +kernel) rfl rfl (Nat.le_of_ble_eq_true rfl) dX10_wise_2 (fun H locs hP hD hS => ?_)
  have hP : va_P E.1 vwCl [xModel h_mm a_mm (upd mm 0 (0 : Int32)), xI E (a_mm 5) 60 bt, xI E (a_mm 14) 6 rn] H := hP
  have hD : va_D A [xModel h_mm a_mm (upd mm 0 (0 : Int32)), xI E (a_mm 5) 60 bt, xI E (a_mm 14) 6 rn] := hD
  refine lv_aload_n hx hb dX10_wise_5 rfl (lv_at hl 0 rfl) ?_
  refine kV (wc := [xModel h_mm a_mm (upd mm 0 (0 : Int32)), xI E (a_mm 5) 60 bt]) (wr := [xI E (a_mm 14) 6 rn]) (wc' := (fun (u : Int32 × Int32 × Int32 × Int32 × Int32 × Int32 × Int32) => [xModel h_mm a_mm (upd (upd (upd (upd (upd (upd (upd (upd mm 0 (0 : Int32)) 6 u.1) 7 u.2.1) 8 u.2.2.1) 9 u.2.2.2.1) 10 u.2.2.2.2.1) 11 u.2.2.2.2.2.1) 12 u.2.2.2.2.2.2), xI E (a_mm 5) 60 bt])) (wn := (fun (u : Int32 × Int32 × Int32 × Int32 × Int32 × Int32 × Int32) => [xModel h_mm a_mm (upd (upd (upd (upd (upd (upd (upd (upd mm 0 (0 : Int32)) 6 u.1) 7 u.2.1) 8 u.2.2.1) 9 u.2.2.2.1) 10 u.2.2.2.2.1) 11 u.2.2.2.2.2.1) 12 u.2.2.2.2.2.2), xI E (a_mm 5) 60 bt, xI E (a_mm 14) 6 rn])) (isC := [0, 1]) (isR := [2]) (is2 := [1, 2, 0]) cx hP hD hS ⟨rfl, rfl, by decide, by decide, by decide, by decide, fun _ => rfl⟩ (rV (As := []) (rest := []) (C := RX10) (q0 := 0) (ci := 10) cx (c_X10_asItIs l E h_mm a_mm (upd mm 0 (0 : Int32)) bt (hB) _) (cwV 0 hts gX10_wise_X10_asItIs rfl rfl rfl (by decide +kernel) ⟨Nat.le_of_ble_eq_true rfl, Nat.le_of_ble_eq_true rfl⟩) rfl rfl rfl rfl hl.1 rfl (Nat.le_of_ble_eq_true rfl) dX10_wise_6 ⟨Nat.zero_le _, Nat.zero_le _⟩) (fun u H locs hw hP hD hS => ?_)
  obtain ⟨hw, hn6⟩ := hw
  obtain ⟨v1, v2, v3, v4, v5, v6, v7⟩ := u
  have hn6 : (v4) = (bt 17) ∧ (v5) = (bt 18) ∧ (v6) = (bt 19) := hn6
  have hP : va_P E.1 vwCl [xModel h_mm a_mm (upd (upd (upd (upd (upd (upd (upd (upd mm 0 (0 : Int32)) 6 v1) 7 v2) 8 v3) 9 v4) 10 v5) 11 v6) 12 v7), xI E (a_mm 5) 60 bt, xI E (a_mm 14) 6 rn] H := hP
  have hD : va_D A [xModel h_mm a_mm (upd (upd (upd (upd (upd (upd (upd (upd mm 0 (0 : Int32)) 6 v1) 7 v2) 8 v3) 9 v4) 10 v5) 11 v6) 12 v7), xI E (a_mm 5) 60 bt, xI E (a_mm 14) 6 rn] := hD
  have hw : F_X10_asItIs bt = (v1, v2, v3, v4, v5, v6, v7) := hw
  rw [hw] at hρ
  have hρ : ρ = F_X10_wise_k6 mm bt rn v1 v2 v3 v4 v5 v6 v7 := hρ
  unfold F_X10_wise_k6 at hρ
  refine lv_iconst (v := (0 : Int32)) hx hb dX10_wise_9 (by decide) ?_
  refine lv_istore_n (lv' := [(1, .int (0 : Int32)), (0, .ref h_mm)]) hx hb dX10_wise_10 rfl hl (by decide) rfl (fun ls hl => ?_)
  refine lv_ldc2 (own := RX10) (v := (-1 : Int64)) hx hb hown (hts (.constantLong RX10 164 (-1)) (List.mem_of_getElem? (i := 2) rfl)) dX10_wise_11 ?_
  refine lv_lstore_n (lv' := [(2, .long (-1 : Int64)), (1, .int (0 : Int32)), (0, .ref h_mm)]) hx hb dX10_wise_14 rfl hl (by decide) rfl (fun ls hl => ?_)
  refine lv_iconst (v := (0 : Int32)) hx hb dX10_wise_15 (by decide) ?_
  refine lv_istore (lv' := [(4, .int (0 : Int32)), (2, .long (-1 : Int64)), (1, .int (0 : Int32)), (0, .ref h_mm)]) hx hb dX10_wise_16 hl (by decide) rfl (fun ls hl => ?_)
  have hL18 : ∀ (n_18 : Nat) (x4_18 : Int32) (x2_18 : Int64) (s_mm_17_18 : Int32) (s_mm_18_18 : Int32) (s_mm_19_18 : Int32) (s_mm_20_18 : Int32) (g_rn_18 : Nat → Int32) (x1_18 : Int32) (H : Heap) (locs : List Loc) (ls : Array Slot), (((401 : Int32) : Int32).toInt ≤ (x4_18).toInt + (n_18 : Nat)) → va_P E.1 vwCl [xModel h_mm a_mm (upd (upd (upd (upd (upd (upd (upd (upd (upd (upd (upd (upd mm 0 (0 : Int32)) 6 v1) 7 v2) 8 v3) 9 v4) 10 v5) 11 v6) 12 v7) 17 s_mm_17_18) 18 s_mm_18_18) 19 s_mm_19_18) 20 s_mm_20_18), xI E (a_mm 5) 60 bt, xI E (a_mm 14) 6 g_rn_18] H → va_D A [xModel h_mm a_mm (upd (upd (upd (upd (upd (upd (upd (upd (upd (upd (upd (upd mm 0 (0 : Int32)) 6 v1) 7 v2) 8 v3) 9 v4) 10 v5) 11 v6) 12 v7) 17 s_mm_17_18) 18 s_mm_18_18) 19 s_mm_19_18) 20 s_mm_20_18), xI E (a_mm 5) 60 bt, xI E (a_mm 14) 6 g_rn_18] → va_S A s.heap H locs → lv_has ls 7 [(4, .int x4_18), (2, .long x2_18), (1, .int x1_18), (0, .ref h_mm)] → (∀ (ox4_18 : Int32) (ox2_18 : Int64) (os_mm_17_18 : Int32) (os_mm_18_18 : Int32) (os_mm_19_18 : Int32) (os_mm_20_18 : Int32) (og_rn_18 : Nat → Int32) (ox1_18 : Int32) (H : Heap) (locs : List Loc) (ls : Array Slot), F_X10_wise_l18 mm bt v1 v2 v3 v4 v5 v6 v7 n_18 x4_18 x2_18 s_mm_17_18 s_mm_18_18 s_mm_19_18 s_mm_20_18 g_rn_18 x1_18 = (ox4_18, ox2_18, os_mm_17_18, os_mm_18_18, os_mm_19_18, os_mm_20_18, og_rn_18, ox1_18) → va_P E.1 vwCl [xModel h_mm a_mm (upd (upd (upd (upd (upd (upd (upd (upd (upd (upd (upd (upd mm 0 (0 : Int32)) 6 v1) 7 v2) 8 v3) 9 v4) 10 v5) 11 v6) 12 v7) 17 os_mm_17_18) 18 os_mm_18_18) 19 os_mm_19_18) 20 os_mm_20_18), xI E (a_mm 5) 60 bt, xI E (a_mm 14) 6 og_rn_18] H → va_D A [xModel h_mm a_mm (upd (upd (upd (upd (upd (upd (upd (upd (upd (upd (upd (upd mm 0 (0 : Int32)) 6 v1) 7 v2) 8 v3) 9 v4) 10 v5) 11 v6) 12 v7) 17 os_mm_17_18) 18 os_mm_18_18) 19 os_mm_19_18) 20 os_mm_20_18), xI E (a_mm 5) 60 bt, xI E (a_mm 14) 6 og_rn_18] → va_S A s.heap H locs → lv_has ls 7 [(4, .int ox4_18), (2, .long ox2_18), (1, .int ox1_18), (0, .ref h_mm)] → W p l e ({ frames := 5, cells := 0, slots := 0, locals := 117 } : Room) s m ([.ref h_mm] : List Value).toArray below meth c H locs 0 0 Q (F0 m 82 ls [])) → W p l e ({ frames := 5, cells := 0, slots := 0, locals := 117 } : Room) s m ([.ref h_mm] : List Value).toArray below meth c H locs 0 0 Q (F0 m 18 ls []) := by
    intro n_18
    induction n_18 with
    | zero =>
      intro x4_18 x2_18 s_mm_17_18 s_mm_18_18 s_mm_19_18 s_mm_20_18 g_rn_18 x1_18 H locs ls hM hP hD hS hl hK
      have hM18 := hM
      obtain ⟨σ18, hσ018⟩ : ∃ σ, F_X10_wise_l18 mm bt v1 v2 v3 v4 v5 v6 v7 0 x4_18 x2_18 s_mm_17_18 s_mm_18_18 s_mm_19_18 s_mm_20_18 g_rn_18 x1_18 = σ := ⟨_, rfl⟩
      have hσ18 := hσ018.symm
      rw [F_X10_wise_l18] at hσ18
      refine lv_iload hx hb dX10_wise_18 (lv_at hl 0 rfl) ?_
      refine lv_sipush (v := (401 : Int32)) hx hb dX10_wise_20 (by decide) ?_
      refine lv_icmp_ge (tgt := 82) hx hb dX10_wise_23 (by decide) (fun c23 => ?_) (fun c23 => ?_)
      · exact hK x4_18 x2_18 s_mm_17_18 s_mm_18_18 s_mm_19_18 s_mm_20_18 g_rn_18 x1_18 _ _ _ (hσ018.trans hσ18) hP hD hS (lv_sub hl [0, 1, 2, 3] rfl)
      · exact (cnt_lt0 c23 hM).elim
    | succ n_18 ih =>
      intro x4_18 x2_18 s_mm_17_18 s_mm_18_18 s_mm_19_18 s_mm_20_18 g_rn_18 x1_18 H locs ls hM hP hD hS hl hK
      have hM18 := hM
      obtain ⟨σ18, hσ018⟩ : ∃ σ, F_X10_wise_l18 mm bt v1 v2 v3 v4 v5 v6 v7 (n_18 + 1) x4_18 x2_18 s_mm_17_18 s_mm_18_18 s_mm_19_18 s_mm_20_18 g_rn_18 x1_18 = σ := ⟨_, rfl⟩
      have hσ18 := hσ018.symm
      rw [F_X10_wise_l18] at hσ18
      obtain ⟨τ18, hτ018⟩ : ∃ τ, F_X10_wise_b18 mm bt v1 v2 v3 v4 v5 v6 v7 x4_18 x2_18 s_mm_17_18 s_mm_18_18 s_mm_19_18 s_mm_20_18 g_rn_18 x1_18 = τ := ⟨_, rfl⟩
      rw [hτ018] at hσ18
      have hτ18 := hτ018.symm
      unfold F_X10_wise_b18 at hτ18
      refine lv_iload hx hb dX10_wise_18 (lv_at hl 0 rfl) ?_
      refine lv_sipush (v := (401 : Int32)) hx hb dX10_wise_20 (by decide) ?_
      refine lv_icmp_ge (tgt := 82) hx hb dX10_wise_23 (by decide) (fun c23 => ?_) (fun c23 => ?_)
      · rw [if_pos c23] at hτ18
        have hσ18 : σ18 = (x4_18, x2_18, s_mm_17_18, s_mm_18_18, s_mm_19_18, s_mm_20_18, g_rn_18, x1_18) := by subst hτ18; exact hσ18
        exact hK x4_18 x2_18 s_mm_17_18 s_mm_18_18 s_mm_19_18 s_mm_20_18 g_rn_18 x1_18 _ _ _ (hσ018.trans hσ18) hP hD hS (lv_sub hl [0, 1, 2, 3] rfl)
      · rw [if_neg c23] at hτ18
        refine lv_aload_n hx hb dX10_wise_26 rfl (lv_at hl 3 rfl) ?_
        refine lv_iload hx hb dX10_wise_27 (lv_at hl 0 rfl) ?_
        refine lv_iconst (v := (-1 : Int32)) hx hb dX10_wise_29 (by decide) ?_
        refine kI (wc := [xModel h_mm a_mm (upd (upd (upd (upd (upd (upd (upd (upd (upd (upd (upd (upd mm 0 (0 : Int32)) 6 v1) 7 v2) 8 v3) 9 v4) 10 v5) 11 v6) 12 v7) 17 s_mm_17_18) 18 s_mm_18_18) 19 s_mm_19_18) 20 s_mm_20_18), xI E (a_mm 5) 60 bt, xI E (a_mm 14) 6 g_rn_18]) (wr := []) (wc' := (fun (u : Int32 × Int32 × Int32 × Int32 × (Nat → Int32)) => [xModel h_mm a_mm (upd (upd (upd (upd (upd (upd (upd (upd (upd (upd (upd (upd (upd (upd (upd (upd mm 0 (0 : Int32)) 6 v1) 7 v2) 8 v3) 9 v4) 10 v5) 11 v6) 12 v7) 17 s_mm_17_18) 18 s_mm_18_18) 19 s_mm_19_18) 20 s_mm_20_18) 17 u.1) 18 u.2.1) 19 u.2.2.1) 20 u.2.2.2.1), xI E (a_mm 5) 60 bt, xI E (a_mm 14) 6 u.2.2.2.2])) (wn := (fun (u : Int32 × Int32 × Int32 × Int32 × (Nat → Int32)) => [xModel h_mm a_mm (upd (upd (upd (upd (upd (upd (upd (upd (upd (upd (upd (upd mm 0 (0 : Int32)) 6 v1) 7 v2) 8 v3) 9 v4) 10 v5) 11 v6) 12 v7) 17 u.1) 18 u.2.1) 19 u.2.2.1) 20 u.2.2.2.1), xI E (a_mm 5) 60 bt, xI E (a_mm 14) 6 u.2.2.2.2])) (isC := [0, 1, 2]) (isR := []) (is2 := [0, 1, 2]) cx hP hD hS ⟨rfl, rfl, by decide, by decide, by decide, by decide, fun _ => rfl⟩ (rV (As := [.int x4_18, .int (-1 : Int32)]) (rest := []) (C := RX10) (q0 := 0) (ci := 10) cx (c_X10_placeOf l E h_mm a_mm (upd (upd (upd (upd (upd (upd (upd (upd (upd (upd (upd (upd mm 0 (0 : Int32)) 6 v1) 7 v2) 8 v3) 9 v4) 10 v5) 11 v6) 12 v7) 17 s_mm_17_18) 18 s_mm_18_18) 19 s_mm_19_18) 20 s_mm_20_18) bt g_rn_18 x4_18 (-1 : Int32) (hB) (mmOK_of hn6 hB) _) (cwV 2 hts gX10_wise_X10_placeOf rfl rfl rfl (by decide +kernel) ⟨Nat.le_of_ble_eq_true rfl, Nat.le_of_ble_eq_true rfl⟩) rfl rfl rfl rfl hl.1 rfl (Nat.le_of_ble_eq_true rfl) dX10_wise_30 ⟨Nat.zero_le _, Nat.zero_le _⟩) (fun r8 u H locs hw hP hD hS => ?_)
        obtain ⟨v9, v10, v11, v12, g13⟩ := u
        have hP : va_P E.1 vwCl [xModel h_mm a_mm (upd (upd (upd (upd (upd (upd (upd (upd (upd (upd (upd (upd mm 0 (0 : Int32)) 6 v1) 7 v2) 8 v3) 9 v4) 10 v5) 11 v6) 12 v7) 17 v9) 18 v10) 19 v11) 20 v12), xI E (a_mm 5) 60 bt, xI E (a_mm 14) 6 g13] H := hP
        have hD : va_D A [xModel h_mm a_mm (upd (upd (upd (upd (upd (upd (upd (upd (upd (upd (upd (upd mm 0 (0 : Int32)) 6 v1) 7 v2) 8 v3) 9 v4) 10 v5) 11 v6) 12 v7) 17 v9) 18 v10) 19 v11) 20 v12), xI E (a_mm 5) 60 bt, xI E (a_mm 14) 6 g13] := hD
        have hw : F_X10_placeOf (upd (upd (upd (upd (upd (upd (upd (upd (upd (upd (upd (upd mm 0 (0 : Int32)) 6 v1) 7 v2) 8 v3) 9 v4) 10 v5) 11 v6) 12 v7) 17 s_mm_17_18) 18 s_mm_18_18) 19 s_mm_19_18) 20 s_mm_20_18) bt g_rn_18 x4_18 (-1 : Int32) = (r8, v9, v10, v11, v12, g13) := hw
        rw [hw] at hτ18
        have hτ18 : τ18 = F_X10_wise_k30 bt x4_18 x2_18 x1_18 r8 v9 v10 v11 v12 g13 := hτ18
        unfold F_X10_wise_k30 at hτ18
        refine lv_i2l hx hb dX10_wise_33 rfl ?_
        refine lv_sipush (v := (1000 : Int32)) hx hb dX10_wise_34 (by decide) ?_
        refine lv_aload_n hx hb dX10_wise_37 rfl (lv_at hl 3 rfl) ?_
        refine lv_iload hx hb dX10_wise_38 (lv_at hl 0 rfl) ?_
        refine kI (wc := [xModel h_mm a_mm (upd (upd (upd (upd (upd (upd (upd (upd (upd (upd (upd (upd mm 0 (0 : Int32)) 6 v1) 7 v2) 8 v3) 9 v4) 10 v5) 11 v6) 12 v7) 17 v9) 18 v10) 19 v11) 20 v12), xI E (a_mm 5) 60 bt]) (wr := [xI E (a_mm 14) 6 g13]) (wc' := (fun (_ : Unit) => [xModel h_mm a_mm (upd (upd (upd (upd (upd (upd (upd (upd (upd (upd (upd (upd mm 0 (0 : Int32)) 6 v1) 7 v2) 8 v3) 9 v4) 10 v5) 11 v6) 12 v7) 17 v9) 18 v10) 19 v11) 20 v12), xI E (a_mm 5) 60 bt])) (wn := (fun (_ : Unit) => [xModel h_mm a_mm (upd (upd (upd (upd (upd (upd (upd (upd (upd (upd (upd (upd mm 0 (0 : Int32)) 6 v1) 7 v2) 8 v3) 9 v4) 10 v5) 11 v6) 12 v7) 17 v9) 18 v10) 19 v11) 20 v12), xI E (a_mm 5) 60 bt, xI E (a_mm 14) 6 g13])) (isC := [0, 1]) (isR := [2]) (is2 := [1, 2, 0]) cx hP hD hS ⟨rfl, rfl, by decide, by decide, by decide, by decide, fun _ => rfl⟩ (rV (As := [.int x4_18]) (rest := [.int (1000 : Int32), .long (Int32.toInt64 r8)]) (C := RX10) (q0 := 0) (ci := 10) cx (c_X10_snapOf l E h_mm a_mm (upd (upd (upd (upd (upd (upd (upd (upd (upd (upd (upd (upd mm 0 (0 : Int32)) 6 v1) 7 v2) 8 v3) 9 v4) 10 v5) 11 v6) 12 v7) 17 v9) 18 v10) 19 v11) 20 v12) bt x4_18 (hB) _) (cwV 1 hts gX10_wise_X10_snapOf rfl rfl rfl (by decide +kernel) ⟨Nat.le_of_ble_eq_true rfl, Nat.le_of_ble_eq_true rfl⟩) rfl rfl rfl rfl hl.1 rfl (Nat.le_of_ble_eq_true rfl) dX10_wise_40 ⟨Nat.zero_le _, Nat.zero_le _⟩) (fun r14 u H locs hw hP hD hS => ?_)
        subst hw
        refine lv_isub hx hb dX10_wise_43 ?_
        refine lv_i2l hx hb dX10_wise_44 rfl ?_
        refine lv_lmul hx hb dX10_wise_45 ?_
        refine lv_topl (fun v15 ev15 => ?_)
        have hτ18 : τ18 = F_X10_wise_k46 x4_18 x2_18 x1_18 v9 v10 v11 v12 g13 v15 := by rw [ev15]; exact hτ18
        unfold F_X10_wise_k46 at hτ18
        refine lv_lstore (lv' := [(5, .long v15), (4, .int x4_18), (2, .long x2_18), (1, .int x1_18), (0, .ref h_mm)]) hx hb dX10_wise_46 hl (by decide) rfl (fun ls hl => ?_)
        refine lv_lload hx hb dX10_wise_48 (lv_at hl 0 rfl) ?_
        refine lv_lload_n hx hb dX10_wise_50 rfl (lv_at hl 2 rfl) ?_
        refine W.lcmp hx hb dX10_wise_51 ?_
        have hJ61 : ∀ (y0_61 : Int32) (H : Heap) (locs : List Loc) (ls : Array Slot), τ18 = F_X10_wise_j61 x4_18 x2_18 v9 v10 v11 v12 g13 v15 y0_61 → va_P E.1 vwCl [xModel h_mm a_mm (upd (upd (upd (upd (upd (upd (upd (upd (upd (upd (upd (upd mm 0 (0 : Int32)) 6 v1) 7 v2) 8 v3) 9 v4) 10 v5) 11 v6) 12 v7) 17 v9) 18 v10) 19 v11) 20 v12), xI E (a_mm 5) 60 bt, xI E (a_mm 14) 6 g13] H → va_D A [xModel h_mm a_mm (upd (upd (upd (upd (upd (upd (upd (upd (upd (upd (upd (upd mm 0 (0 : Int32)) 6 v1) 7 v2) 8 v3) 9 v4) 10 v5) 11 v6) 12 v7) 17 v9) 18 v10) 19 v11) 20 v12), xI E (a_mm 5) 60 bt, xI E (a_mm 14) 6 g13] → va_S A s.heap H locs → lv_has ls 7 [(5, .long v15), (4, .int x4_18), (2, .long x2_18), (1, .int x1_18), (0, .ref h_mm)] → W p l e ({ frames := 5, cells := 0, slots := 0, locals := 117 } : Room) s m ([.ref h_mm] : List Value).toArray below meth c H locs 0 0 Q (F0 m 61 ls [.int y0_61]) := by
          intro y0_61 H locs ls hτ18 hP hD hS hl
          unfold F_X10_wise_j61 at hτ18
          refine lv_istore_n (lv' := [(1, .int y0_61), (5, .long v15), (4, .int x4_18), (2, .long x2_18), (0, .ref h_mm)]) hx hb dX10_wise_61 rfl hl (by decide) rfl (fun ls hl => ?_)
          refine lv_lload hx hb dX10_wise_62 (lv_at hl 1 rfl) ?_
          refine lv_lload_n hx hb dX10_wise_64 rfl (lv_at hl 3 rfl) ?_
          refine W.lcmp hx hb dX10_wise_65 ?_
          have hJ75 : ∀ (y0_75 : Int64) (H : Heap) (locs : List Loc) (ls : Array Slot), τ18 = F_X10_wise_j75 x4_18 v9 v10 v11 v12 g13 y0_61 y0_75 → va_P E.1 vwCl [xModel h_mm a_mm (upd (upd (upd (upd (upd (upd (upd (upd (upd (upd (upd (upd mm 0 (0 : Int32)) 6 v1) 7 v2) 8 v3) 9 v4) 10 v5) 11 v6) 12 v7) 17 v9) 18 v10) 19 v11) 20 v12), xI E (a_mm 5) 60 bt, xI E (a_mm 14) 6 g13] H → va_D A [xModel h_mm a_mm (upd (upd (upd (upd (upd (upd (upd (upd (upd (upd (upd (upd mm 0 (0 : Int32)) 6 v1) 7 v2) 8 v3) 9 v4) 10 v5) 11 v6) 12 v7) 17 v9) 18 v10) 19 v11) 20 v12), xI E (a_mm 5) 60 bt, xI E (a_mm 14) 6 g13] → va_S A s.heap H locs → lv_has ls 7 [(1, .int y0_61), (5, .long v15), (4, .int x4_18), (2, .long x2_18), (0, .ref h_mm)] → W p l e ({ frames := 5, cells := 0, slots := 0, locals := 117 } : Room) s m ([.ref h_mm] : List Value).toArray below meth c H locs 0 0 Q (F0 m 75 ls [.long y0_75]) := by
            intro y0_75 H locs ls hτ18 hP hD hS hl
            unfold F_X10_wise_j75 at hτ18
            refine lv_lstore_n (lv' := [(2, .long y0_75), (1, .int y0_61), (5, .long v15), (4, .int x4_18), (0, .ref h_mm)]) hx hb dX10_wise_75 rfl hl (by decide) rfl (fun ls hl => ?_)
            refine lv_iinc (v := (x4_18 + (1 : Int32))) (lv' := [(4, .int (x4_18 + (1 : Int32))), (2, .long y0_75), (1, .int y0_61), (5, .long v15), (0, .ref h_mm)]) hx hb dX10_wise_76 hl (k := 3) rfl rfl (by decide) rfl (fun ls hl => ?_)
            refine lv_goto (tgt := 18) hx hb dX10_wise_79 (by decide) ?_
            have hσ18 : σ18 = F_X10_wise_l18 mm bt v1 v2 v3 v4 v5 v6 v7 n_18 (x4_18 + (1 : Int32)) y0_75 v9 v10 v11 v12 g13 y0_61 := by subst hτ18; exact hσ18
            exact ih (x4_18 + (1 : Int32)) y0_75 v9 v10 v11 v12 g13 y0_61 _ _ _ (cnt_lt c23 hM) hP hD hS (lv_sub hl [0, 1, 2, 4] rfl) (fun ox4_18 ox2_18 os_mm_17_18 os_mm_18_18 os_mm_19_18 os_mm_20_18 og_rn_18 ox1_18 H locs ls he => hK ox4_18 ox2_18 os_mm_17_18 os_mm_18_18 os_mm_19_18 os_mm_20_18 og_rn_18 ox1_18 H locs ls (hσ018.trans (hσ18.trans he)))
          refine lv_if_le (tgt := 74) hx hb dX10_wise_66 (by decide) (fun c66 => ?_) (fun c66 => ?_)
          · rw [if_pos c66] at hτ18
            refine lv_lload_n hx hb dX10_wise_74 rfl (lv_at hl 3 rfl) ?_
            exact hJ75 x2_18 _ _ _ hτ18 hP hD hS (lv_sub hl [0, 1, 2, 3, 4] rfl)
          · rw [if_neg c66] at hτ18
            refine lv_lload hx hb dX10_wise_69 (lv_at hl 1 rfl) ?_
            refine lv_goto (tgt := 75) hx hb dX10_wise_71 (by decide) ?_
            exact hJ75 v15 _ _ _ hτ18 hP hD hS (lv_sub hl [0, 1, 2, 3, 4] rfl)
        refine lv_if_le (tgt := 60) hx hb dX10_wise_52 (by decide) (fun c52 => ?_) (fun c52 => ?_)
        · rw [if_pos c52] at hτ18
          refine lv_iload_n hx hb dX10_wise_60 rfl (lv_at hl 3 rfl) ?_
          exact hJ61 x1_18 _ _ _ hτ18 hP hD hS (lv_sub hl [0, 1, 2, 3, 4] rfl)
        · rw [if_neg c52] at hτ18
          refine lv_iload hx hb dX10_wise_55 (lv_at hl 1 rfl) ?_
          refine lv_goto (tgt := 61) hx hb dX10_wise_57 (by decide) ?_
          exact hJ61 x4_18 _ _ _ hτ18 hP hD hS (lv_sub hl [0, 1, 2, 3, 4] rfl)
  refine hL18 (401) (0 : Int32) (-1 : Int64) (mm 17) (mm 18) (mm 19) (mm 20) rn (0 : Int32) _ _ _ (by decide) hP hD hS (lv_sub hl [0, 1, 2, 3] rfl) ?_
  intro bx4_18 bx2_18 bs_mm_17_18 bs_mm_18_18 bs_mm_19_18 bs_mm_20_18 bg_rn_18 bx1_18 H locs ls he hP hD hS hl
  rw [he] at hρ
  have hρ : ρ = F_X10_wise_x18 v1 v2 v3 v4 v5 v6 v7 bs_mm_17_18 bs_mm_18_18 bs_mm_19_18 bs_mm_20_18 bg_rn_18 bx1_18 := hρ
  unfold F_X10_wise_x18 at hρ
  refine lv_iload_n hx hb dX10_wise_82 rfl (lv_at hl 2 rfl) ?_
  exact hq bx1_18 ((0 : Int32), v1, v2, v3, v4, v5, v6, v7, bs_mm_17_18, bs_mm_18_18, bs_mm_19_18, bs_mm_20_18, bg_rn_18) _ _ _ _ dX10_wise_83 rfl (hρ0.trans hρ) hP hD hS
def F_X10_just_j95 (x6_41 : Int32) (v11 : Int32) (v12 : Int32) (v13 : Int32) (v14 : Int32) (g15 : Nat → Int32) (x5_95 : Int32) (x4_95 : Int32) (x3_95 : Int32) : (Int32 × Int32 × Int32 × Int32 × Int32 × Int32 × Int32 × Int32 × (Nat → Int32)) ⊕ (Int32 × Int32 × Int32 × Int32 × Int32 × Int32 × Int32 × Int32 × (Nat → Int32)) := Sum.inl ((x6_41 + (1 : Int32)), x5_95, x4_95, x3_95, v11, v12, v13, v14, g15)
def F_X10_just_j75 (x6_41 : Int32) (x5_41 : Int32) (x4_41 : Int32) (x3_41 : Int32) (r10 : Int32) (v11 : Int32) (v12 : Int32) (v13 : Int32) (v14 : Int32) (g15 : Nat → Int32) (y0_75 : Int32) : (Int32 × Int32 × Int32 × Int32 × Int32 × Int32 × Int32 × Int32 × (Nat → Int32)) ⊕ (Int32 × Int32 × Int32 × Int32 × Int32 × Int32 × Int32 × Int32 × (Nat → Int32)) := (if x5_41 ≤ y0_75 then F_X10_just_j95 x6_41 v11 v12 v13 v14 g15 x5_41 x4_41 x3_41 else F_X10_just_j95 x6_41 v11 v12 v13 v14 g15 y0_75 r10 x6_41)
def F_X10_just_k53 (d : Int32) (x6_41 : Int32) (x5_41 : Int32) (x4_41 : Int32) (x3_41 : Int32) (r10 : Int32) (v11 : Int32) (v12 : Int32) (v13 : Int32) (v14 : Int32) (g15 : Nat → Int32) : (Int32 × Int32 × Int32 × Int32 × Int32 × Int32 × Int32 × Int32 × (Nat → Int32)) ⊕ (Int32 × Int32 × Int32 × Int32 × Int32 × Int32 × Int32 × Int32 × (Nat → Int32)) := (if d ≤ r10 then F_X10_just_j75 x6_41 x5_41 x4_41 x3_41 r10 v11 v12 v13 v14 g15 (r10 - d) else F_X10_just_j75 x6_41 x5_41 x4_41 x3_41 r10 v11 v12 v13 v14 g15 (d - r10))
def F_X10_just_b41 (mm : Nat → Int32) (bt : Nat → Int32) (d : Int32) (v3 : Int32) (v4 : Int32) (v5 : Int32) (v6 : Int32) (v7 : Int32) (v8 : Int32) (v9 : Int32) (x6_41 : Int32) (x5_41 : Int32) (x4_41 : Int32) (x3_41 : Int32) (s_mm_17_41 : Int32) (s_mm_18_41 : Int32) (s_mm_19_41 : Int32) (s_mm_20_41 : Int32) (g_rn_41 : Nat → Int32) : (Int32 × Int32 × Int32 × Int32 × Int32 × Int32 × Int32 × Int32 × (Nat → Int32)) ⊕ (Int32 × Int32 × Int32 × Int32 × Int32 × Int32 × Int32 × Int32 × (Nat → Int32)) := (if (401 : Int32) ≤ x6_41 then Sum.inr (x6_41, x5_41, x4_41, x3_41, s_mm_17_41, s_mm_18_41, s_mm_19_41, s_mm_20_41, g_rn_41) else (match F_X10_placeOf (upd (upd (upd (upd (upd (upd (upd (upd (upd (upd (upd (upd mm 0 (0 : Int32)) 6 v3) 7 v4) 8 v5) 9 v6) 10 v7) 11 v8) 12 v9) 17 s_mm_17_41) 18 s_mm_18_41) 19 s_mm_19_41) 20 s_mm_20_41) bt g_rn_41 x6_41 (-1 : Int32) with | (r10, v11, v12, v13, v14, g15) => F_X10_just_k53 d x6_41 x5_41 x4_41 x3_41 r10 v11 v12 v13 v14 g15))
def F_X10_just_l41 (mm : Nat → Int32) (bt : Nat → Int32) (d : Int32) (v3 : Int32) (v4 : Int32) (v5 : Int32) (v6 : Int32) (v7 : Int32) (v8 : Int32) (v9 : Int32) : Nat → (Int32) → (Int32) → (Int32) → (Int32) → (Int32) → (Int32) → (Int32) → (Int32) → (Nat → Int32) → Int32 × Int32 × Int32 × Int32 × Int32 × Int32 × Int32 × Int32 × (Nat → Int32)
  | 0, x6_41, x5_41, x4_41, x3_41, s_mm_17_41, s_mm_18_41, s_mm_19_41, s_mm_20_41, g_rn_41 => (x6_41, x5_41, x4_41, x3_41, s_mm_17_41, s_mm_18_41, s_mm_19_41, s_mm_20_41, g_rn_41)
  | n_41 + 1, x6_41, x5_41, x4_41, x3_41, s_mm_17_41, s_mm_18_41, s_mm_19_41, s_mm_20_41, g_rn_41 => match F_X10_just_b41 mm bt d v3 v4 v5 v6 v7 v8 v9 x6_41 x5_41 x4_41 x3_41 s_mm_17_41 s_mm_18_41 s_mm_19_41 s_mm_20_41 g_rn_41 with
    | Sum.inl (c_x6_41, c_x5_41, c_x4_41, c_x3_41, c_s_mm_17_41, c_s_mm_18_41, c_s_mm_19_41, c_s_mm_20_41, c_g_rn_41) => F_X10_just_l41 mm bt d v3 v4 v5 v6 v7 v8 v9 n_41 c_x6_41 c_x5_41 c_x4_41 c_x3_41 c_s_mm_17_41 c_s_mm_18_41 c_s_mm_19_41 c_s_mm_20_41 c_g_rn_41
    | Sum.inr r_ => r_
def F_X10_just_x41 (what : Int32) (v3 : Int32) (v4 : Int32) (v5 : Int32) (v6 : Int32) (v7 : Int32) (v8 : Int32) (v9 : Int32) (bx4_41 : Int32) (bx3_41 : Int32) (bs_mm_17_41 : Int32) (bs_mm_18_41 : Int32) (bs_mm_19_41 : Int32) (bs_mm_20_41 : Int32) (bg_rn_41 : Nat → Int32) : Int32 × Int32 × Int32 × Int32 × Int32 × Int32 × Int32 × Int32 × Int32 × Int32 × Int32 × Int32 × Int32 × (Nat → Int32) := (if what = (0 : Int32) then (bx3_41, (0 : Int32), v3, v4, v5, v6, v7, v8, v9, bs_mm_17_41, bs_mm_18_41, bs_mm_19_41, bs_mm_20_41, bg_rn_41) else (bx4_41, (0 : Int32), v3, v4, v5, v6, v7, v8, v9, bs_mm_17_41, bs_mm_18_41, bs_mm_19_41, bs_mm_20_41, bg_rn_41))
def F_X10_just_k27 (mm : Nat → Int32) (bt : Nat → Int32) (rn : Nat → Int32) (d : Int32) (what : Int32) (v3 : Int32) (v4 : Int32) (v5 : Int32) (v6 : Int32) (v7 : Int32) (v8 : Int32) (v9 : Int32) : Int32 × Int32 × Int32 × Int32 × Int32 × Int32 × Int32 × Int32 × Int32 × Int32 × Int32 × Int32 × Int32 × (Nat → Int32) := (match F_X10_just_l41 mm bt d v3 v4 v5 v6 v7 v8 v9 (400) (1 : Int32) d (0 : Int32) (0 : Int32) (mm 17) (mm 18) (mm 19) (mm 20) rn with | (bx6_41, bx5_41, bx4_41, bx3_41, bs_mm_17_41, bs_mm_18_41, bs_mm_19_41, bs_mm_20_41, bg_rn_41) => F_X10_just_x41 what v3 v4 v5 v6 v7 v8 v9 bx4_41 bx3_41 bs_mm_17_41 bs_mm_18_41 bs_mm_19_41 bs_mm_20_41 bg_rn_41)
def F_X10_just (mm : Nat → Int32) (bt : Nat → Int32) (rn : Nat → Int32) (d : Int32) (what : Int32) : Int32 × Int32 × Int32 × Int32 × Int32 × Int32 × Int32 × Int32 × Int32 × Int32 × Int32 × Int32 × Int32 × (Nat → Int32) := (if (F_X10_in d (0 : Int32) (99999 : Int32)) = (0 : Int32) then ((-1 : Int32), (0 : Int32), (mm 6), (mm 7), (mm 8), (mm 9), (mm 10), (mm 11), (mm 12), (mm 17), (mm 18), (mm 19), (mm 20), rn) else (if (F_X10_in what (0 : Int32) (1 : Int32)) = (0 : Int32) then ((-1 : Int32), (0 : Int32), (mm 6), (mm 7), (mm 8), (mm 9), (mm 10), (mm 11), (mm 12), (mm 17), (mm 18), (mm 19), (mm 20), rn) else (match F_X10_asItIs bt with | (v3, v4, v5, v6, v7, v8, v9) => F_X10_just_k27 mm bt rn d what v3 v4 v5 v6 v7 v8 v9)))
theorem iX10_just_X10 : ∀ w ∈ wsX100, w ∈ wsX10_just := fun _ h => List.mem_cons_of_mem _ (List.mem_append_right _ h)
set_option maxHeartbeats 4000000 in
set_option maxRecDepth 100000 in
theorem c_X10_just (l : Launch) (E : wV) (h_mm : Nat) (a_mm : Nat → Nat) (mm : Nat → Int32) (bt : Nat → Int32) (rn : Nat → Int32) (d : Int32) (what : Int32) (hB : btOK bt) : MetI l yX10_just wsX10_just ({ frames := 5, cells := 0, slots := 0, locals := 117 } : Room) E ([.ref h_mm, .int d, .int what] : List Value) [xModel h_mm a_mm mm, xI E (a_mm 5) 60 bt, xI E (a_mm 14) 6 rn] (fun (r : Int32) (u : Int32 × Int32 × Int32 × Int32 × Int32 × Int32 × Int32 × Int32 × Int32 × Int32 × Int32 × Int32 × (Nat → Int32)) => F_X10_just mm bt rn d what = (r, u)) (fun (u : Int32 × Int32 × Int32 × Int32 × Int32 × Int32 × Int32 × Int32 × Int32 × Int32 × Int32 × Int32 × (Nat → Int32)) => [xModel h_mm a_mm (upd (upd (upd (upd (upd (upd (upd (upd (upd (upd (upd (upd mm 0 u.1) 6 u.2.1) 7 u.2.2.1) 8 u.2.2.2.1) 9 u.2.2.2.2.1) 10 u.2.2.2.2.2.1) 11 u.2.2.2.2.2.2.1) 12 u.2.2.2.2.2.2.2.1) 17 u.2.2.2.2.2.2.2.2.1) 18 u.2.2.2.2.2.2.2.2.2.1) 19 u.2.2.2.2.2.2.2.2.2.2.1) 20 u.2.2.2.2.2.2.2.2.2.2.2.1), xI E (a_mm 5) 60 bt, xI E (a_mm 14) 6 u.2.2.2.2.2.2.2.2.2.2.2.2]) := by
  refine MetI.of (cc := cX10_just) (maxL := 9) (own := RX10) (by decide) rfl rfl (Nat.le_of_ble_eq_true rfl) ?_
  intro p e s m below meth c A Q ls cx hP hD hS hl hq
  obtain ⟨hx, hb, hml, hown, hts, hE, hA⟩ := id cx
  have hl : lv_has ls 9 [(0, .ref h_mm), (1, .int d), (2, .int what)] := hl
  have hP : va_P E.1 vwCl [xModel h_mm a_mm mm, xI E (a_mm 5) 60 bt, xI E (a_mm 14) 6 rn] s.heap := hP
  obtain ⟨ρ, hρ0⟩ : ∃ ρ, F_X10_just mm bt rn d what = ρ := ⟨_, rfl⟩
  have hρ := hρ0.symm
  unfold F_X10_just at hρ
  refine lv_aload_n hx hb dX10_just_0 rfl (lv_at hl 0 rfl) ?_
  refine lv_iconst (v := (0 : Int32)) hx hb dX10_just_1 (by decide) ?_
  refine va_put (D := E.1) (ci := 10) (v := .int (0 : Int32)) (ty := .int) (C := RX10) (T := TX10) (N := 27) hx hb hts iX10_just_X10 tyX10 tyX10_ok nmX10 hown hE.1 hP hD hS 0 rfl rfl 0 (by decide) (hts (.fieldLink RX10 41 "BandBoatModel" "thrown" "I") (List.mem_of_getElem? (i := 1) rfl)) (fun _ h9 => h9) rfl (by decide +kernel) rfl rfl (Nat.le_of_ble_eq_true rfl) dX10_just_2 (fun H locs hP hD hS => ?_)
  have hP : va_P E.1 vwCl [xModel h_mm a_mm (upd mm 0 (0 : Int32)), xI E (a_mm 5) 60 bt, xI E (a_mm 14) 6 rn] H := hP
  have hD : va_D A [xModel h_mm a_mm (upd mm 0 (0 : Int32)), xI E (a_mm 5) 60 bt, xI E (a_mm 14) 6 rn] := hD
  refine lv_iload_n hx hb dX10_just_5 rfl (lv_at hl 1 rfl) ?_
  refine lv_iconst (v := (0 : Int32)) hx hb dX10_just_6 (by decide) ?_
  refine lv_ldc (own := RX10) (v := (99999 : Int32)) hx hb hown (hts (.constant RX10 163 (99999)) (List.mem_of_getElem? (i := 2) rfl)) dX10_just_7 ?_
  refine kI (wc := []) (wr := [xModel h_mm a_mm (upd mm 0 (0 : Int32)), xI E (a_mm 5) 60 bt, xI E (a_mm 14) 6 rn]) (wc' := (fun (_ : Unit) => [])) (wn := (fun (_ : Unit) => [xModel h_mm a_mm (upd mm 0 (0 : Int32)), xI E (a_mm 5) 60 bt, xI E (a_mm 14) 6 rn])) (isC := []) (isR := [0, 1, 2]) (is2 := [0, 1, 2]) cx hP hD hS ⟨rfl, rfl, by decide, by decide, by decide, by decide, fun _ => rfl⟩ (rS (As := [.int d, .int (0 : Int32), .int (99999 : Int32)]) (rest := []) cx (c_X10_in l E d (0 : Int32) (99999 : Int32) _) (va_cwS 3 hts gX10_just_X10_in rfl rfl rfl (by decide +kernel) ⟨Nat.le_of_ble_eq_true rfl, Nat.le_of_ble_eq_true rfl⟩) rfl hl.1 rfl (Nat.le_of_ble_eq_true rfl) dX10_just_9 ⟨Nat.zero_le _, Nat.zero_le _⟩) (fun r1 u H locs hw hP hD hS => ?_)
  subst hw
  refine lv_if_eq (tgt := 24) hx hb dX10_just_12 (by decide) (fun c12 => ?_) (fun c12 => ?_)
  · rw [if_pos c12] at hρ
    refine lv_iconst (v := (-1 : Int32)) hx hb dX10_just_24 (by decide) ?_
    exact hq (-1 : Int32) ((0 : Int32), (mm 6), (mm 7), (mm 8), (mm 9), (mm 10), (mm 11), (mm 12), (mm 17), (mm 18), (mm 19), (mm 20), rn) _ _ _ _ dX10_just_25 rfl (hρ0.trans hρ) hP hD hS
  · rw [if_neg c12] at hρ
    refine lv_iload_n hx hb dX10_just_15 rfl (lv_at hl 2 rfl) ?_
    refine lv_iconst (v := (0 : Int32)) hx hb dX10_just_16 (by decide) ?_
    refine lv_iconst (v := (1 : Int32)) hx hb dX10_just_17 (by decide) ?_
    refine kI (wc := []) (wr := [xModel h_mm a_mm (upd mm 0 (0 : Int32)), xI E (a_mm 5) 60 bt, xI E (a_mm 14) 6 rn]) (wc' := (fun (_ : Unit) => [])) (wn := (fun (_ : Unit) => [xModel h_mm a_mm (upd mm 0 (0 : Int32)), xI E (a_mm 5) 60 bt, xI E (a_mm 14) 6 rn])) (isC := []) (isR := [0, 1, 2]) (is2 := [0, 1, 2]) cx hP hD hS ⟨rfl, rfl, by decide, by decide, by decide, by decide, fun _ => rfl⟩ (rS (As := [.int what, .int (0 : Int32), .int (1 : Int32)]) (rest := []) cx (c_X10_in l E what (0 : Int32) (1 : Int32) _) (va_cwS 3 hts gX10_just_X10_in rfl rfl rfl (by decide +kernel) ⟨Nat.le_of_ble_eq_true rfl, Nat.le_of_ble_eq_true rfl⟩) rfl hl.1 rfl (Nat.le_of_ble_eq_true rfl) dX10_just_18 ⟨Nat.zero_le _, Nat.zero_le _⟩) (fun r2 u H locs hw hP hD hS => ?_)
    subst hw
    refine lv_if_ne (tgt := 26) hx hb dX10_just_21 (by decide) (fun c21 => ?_) (fun c21 => ?_)
    · rw [if_neg c21] at hρ
      refine lv_aload_n hx hb dX10_just_26 rfl (lv_at hl 0 rfl) ?_
      refine kV (wc := [xModel h_mm a_mm (upd mm 0 (0 : Int32)), xI E (a_mm 5) 60 bt]) (wr := [xI E (a_mm 14) 6 rn]) (wc' := (fun (u : Int32 × Int32 × Int32 × Int32 × Int32 × Int32 × Int32) => [xModel h_mm a_mm (upd (upd (upd (upd (upd (upd (upd (upd mm 0 (0 : Int32)) 6 u.1) 7 u.2.1) 8 u.2.2.1) 9 u.2.2.2.1) 10 u.2.2.2.2.1) 11 u.2.2.2.2.2.1) 12 u.2.2.2.2.2.2), xI E (a_mm 5) 60 bt])) (wn := (fun (u : Int32 × Int32 × Int32 × Int32 × Int32 × Int32 × Int32) => [xModel h_mm a_mm (upd (upd (upd (upd (upd (upd (upd (upd mm 0 (0 : Int32)) 6 u.1) 7 u.2.1) 8 u.2.2.1) 9 u.2.2.2.1) 10 u.2.2.2.2.1) 11 u.2.2.2.2.2.1) 12 u.2.2.2.2.2.2), xI E (a_mm 5) 60 bt, xI E (a_mm 14) 6 rn])) (isC := [0, 1]) (isR := [2]) (is2 := [1, 2, 0]) cx hP hD hS ⟨rfl, rfl, by decide, by decide, by decide, by decide, fun _ => rfl⟩ (rV (As := []) (rest := []) (C := RX10) (q0 := 0) (ci := 10) cx (c_X10_asItIs l E h_mm a_mm (upd mm 0 (0 : Int32)) bt (hB) _) (cwV 0 hts gX10_just_X10_asItIs rfl rfl rfl (by decide +kernel) ⟨Nat.le_of_ble_eq_true rfl, Nat.le_of_ble_eq_true rfl⟩) rfl rfl rfl rfl hl.1 rfl (Nat.le_of_ble_eq_true rfl) dX10_just_27 ⟨Nat.zero_le _, Nat.zero_le _⟩) (fun u H locs hw hP hD hS => ?_)
      obtain ⟨hw, hn27⟩ := hw
      obtain ⟨v3, v4, v5, v6, v7, v8, v9⟩ := u
      have hn27 : (v6) = (bt 17) ∧ (v7) = (bt 18) ∧ (v8) = (bt 19) := hn27
      have hP : va_P E.1 vwCl [xModel h_mm a_mm (upd (upd (upd (upd (upd (upd (upd (upd mm 0 (0 : Int32)) 6 v3) 7 v4) 8 v5) 9 v6) 10 v7) 11 v8) 12 v9), xI E (a_mm 5) 60 bt, xI E (a_mm 14) 6 rn] H := hP
      have hD : va_D A [xModel h_mm a_mm (upd (upd (upd (upd (upd (upd (upd (upd mm 0 (0 : Int32)) 6 v3) 7 v4) 8 v5) 9 v6) 10 v7) 11 v8) 12 v9), xI E (a_mm 5) 60 bt, xI E (a_mm 14) 6 rn] := hD
      have hw : F_X10_asItIs bt = (v3, v4, v5, v6, v7, v8, v9) := hw
      rw [hw] at hρ
      have hρ : ρ = F_X10_just_k27 mm bt rn d what v3 v4 v5 v6 v7 v8 v9 := hρ
      unfold F_X10_just_k27 at hρ
      refine lv_iconst (v := (0 : Int32)) hx hb dX10_just_30 (by decide) ?_
      refine lv_istore_n (lv' := [(3, .int (0 : Int32)), (0, .ref h_mm), (1, .int d), (2, .int what)]) hx hb dX10_just_31 rfl hl (by decide) rfl (fun ls hl => ?_)
      refine lv_iconst (v := (0 : Int32)) hx hb dX10_just_32 (by decide) ?_
      refine lv_istore (lv' := [(4, .int (0 : Int32)), (3, .int (0 : Int32)), (0, .ref h_mm), (1, .int d), (2, .int what)]) hx hb dX10_just_33 hl (by decide) rfl (fun ls hl => ?_)
      refine lv_iload_n hx hb dX10_just_35 rfl (lv_at hl 3 rfl) ?_
      refine lv_istore (lv' := [(5, .int d), (4, .int (0 : Int32)), (3, .int (0 : Int32)), (0, .ref h_mm), (1, .int d), (2, .int what)]) hx hb dX10_just_36 hl (by decide) rfl (fun ls hl => ?_)
      refine lv_iconst (v := (1 : Int32)) hx hb dX10_just_38 (by decide) ?_
      refine lv_istore (lv' := [(6, .int (1 : Int32)), (5, .int d), (4, .int (0 : Int32)), (3, .int (0 : Int32)), (0, .ref h_mm), (1, .int d), (2, .int what)]) hx hb dX10_just_39 hl (by decide) rfl (fun ls hl => ?_)
      have hL41 : ∀ (n_41 : Nat) (x6_41 : Int32) (x5_41 : Int32) (x4_41 : Int32) (x3_41 : Int32) (s_mm_17_41 : Int32) (s_mm_18_41 : Int32) (s_mm_19_41 : Int32) (s_mm_20_41 : Int32) (g_rn_41 : Nat → Int32) (H : Heap) (locs : List Loc) (ls : Array Slot), (((401 : Int32) : Int32).toInt ≤ (x6_41).toInt + (n_41 : Nat)) → va_P E.1 vwCl [xModel h_mm a_mm (upd (upd (upd (upd (upd (upd (upd (upd (upd (upd (upd (upd mm 0 (0 : Int32)) 6 v3) 7 v4) 8 v5) 9 v6) 10 v7) 11 v8) 12 v9) 17 s_mm_17_41) 18 s_mm_18_41) 19 s_mm_19_41) 20 s_mm_20_41), xI E (a_mm 5) 60 bt, xI E (a_mm 14) 6 g_rn_41] H → va_D A [xModel h_mm a_mm (upd (upd (upd (upd (upd (upd (upd (upd (upd (upd (upd (upd mm 0 (0 : Int32)) 6 v3) 7 v4) 8 v5) 9 v6) 10 v7) 11 v8) 12 v9) 17 s_mm_17_41) 18 s_mm_18_41) 19 s_mm_19_41) 20 s_mm_20_41), xI E (a_mm 5) 60 bt, xI E (a_mm 14) 6 g_rn_41] → va_S A s.heap H locs → lv_has ls 9 [(6, .int x6_41), (5, .int x5_41), (4, .int x4_41), (3, .int x3_41), (0, .ref h_mm), (1, .int d), (2, .int what)] → (∀ (ox6_41 : Int32) (ox5_41 : Int32) (ox4_41 : Int32) (ox3_41 : Int32) (os_mm_17_41 : Int32) (os_mm_18_41 : Int32) (os_mm_19_41 : Int32) (os_mm_20_41 : Int32) (og_rn_41 : Nat → Int32) (H : Heap) (locs : List Loc) (ls : Array Slot), F_X10_just_l41 mm bt d v3 v4 v5 v6 v7 v8 v9 n_41 x6_41 x5_41 x4_41 x3_41 s_mm_17_41 s_mm_18_41 s_mm_19_41 s_mm_20_41 g_rn_41 = (ox6_41, ox5_41, ox4_41, ox3_41, os_mm_17_41, os_mm_18_41, os_mm_19_41, os_mm_20_41, og_rn_41) → va_P E.1 vwCl [xModel h_mm a_mm (upd (upd (upd (upd (upd (upd (upd (upd (upd (upd (upd (upd mm 0 (0 : Int32)) 6 v3) 7 v4) 8 v5) 9 v6) 10 v7) 11 v8) 12 v9) 17 os_mm_17_41) 18 os_mm_18_41) 19 os_mm_19_41) 20 os_mm_20_41), xI E (a_mm 5) 60 bt, xI E (a_mm 14) 6 og_rn_41] H → va_D A [xModel h_mm a_mm (upd (upd (upd (upd (upd (upd (upd (upd (upd (upd (upd (upd mm 0 (0 : Int32)) 6 v3) 7 v4) 8 v5) 9 v6) 10 v7) 11 v8) 12 v9) 17 os_mm_17_41) 18 os_mm_18_41) 19 os_mm_19_41) 20 os_mm_20_41), xI E (a_mm 5) 60 bt, xI E (a_mm 14) 6 og_rn_41] → va_S A s.heap H locs → lv_has ls 9 [(6, .int ox6_41), (5, .int ox5_41), (4, .int ox4_41), (3, .int ox3_41), (0, .ref h_mm), (1, .int d), (2, .int what)] → W p l e ({ frames := 5, cells := 0, slots := 0, locals := 117 } : Room) s m ([.ref h_mm, .int d, .int what] : List Value).toArray below meth c H locs 0 0 Q (F0 m 101 ls [])) → W p l e ({ frames := 5, cells := 0, slots := 0, locals := 117 } : Room) s m ([.ref h_mm, .int d, .int what] : List Value).toArray below meth c H locs 0 0 Q (F0 m 41 ls []) := by
        intro n_41
        induction n_41 with
        | zero =>
          intro x6_41 x5_41 x4_41 x3_41 s_mm_17_41 s_mm_18_41 s_mm_19_41 s_mm_20_41 g_rn_41 H locs ls hM hP hD hS hl hK
          have hM41 := hM
          obtain ⟨σ41, hσ041⟩ : ∃ σ, F_X10_just_l41 mm bt d v3 v4 v5 v6 v7 v8 v9 0 x6_41 x5_41 x4_41 x3_41 s_mm_17_41 s_mm_18_41 s_mm_19_41 s_mm_20_41 g_rn_41 = σ := ⟨_, rfl⟩
          have hσ41 := hσ041.symm
          rw [F_X10_just_l41] at hσ41
          refine lv_iload hx hb dX10_just_41 (lv_at hl 0 rfl) ?_
          refine lv_sipush (v := (401 : Int32)) hx hb dX10_just_43 (by decide) ?_
          refine lv_icmp_ge (tgt := 101) hx hb dX10_just_46 (by decide) (fun c46 => ?_) (fun c46 => ?_)
          · exact hK x6_41 x5_41 x4_41 x3_41 s_mm_17_41 s_mm_18_41 s_mm_19_41 s_mm_20_41 g_rn_41 _ _ _ (hσ041.trans hσ41) hP hD hS (lv_sub hl [0, 1, 2, 3, 4, 5, 6] rfl)
          · exact (cnt_lt0 c46 hM).elim
        | succ n_41 ih =>
          intro x6_41 x5_41 x4_41 x3_41 s_mm_17_41 s_mm_18_41 s_mm_19_41 s_mm_20_41 g_rn_41 H locs ls hM hP hD hS hl hK
          have hM41 := hM
          obtain ⟨σ41, hσ041⟩ : ∃ σ, F_X10_just_l41 mm bt d v3 v4 v5 v6 v7 v8 v9 (n_41 + 1) x6_41 x5_41 x4_41 x3_41 s_mm_17_41 s_mm_18_41 s_mm_19_41 s_mm_20_41 g_rn_41 = σ := ⟨_, rfl⟩
          have hσ41 := hσ041.symm
          rw [F_X10_just_l41] at hσ41
          obtain ⟨τ41, hτ041⟩ : ∃ τ, F_X10_just_b41 mm bt d v3 v4 v5 v6 v7 v8 v9 x6_41 x5_41 x4_41 x3_41 s_mm_17_41 s_mm_18_41 s_mm_19_41 s_mm_20_41 g_rn_41 = τ := ⟨_, rfl⟩
          rw [hτ041] at hσ41
          have hτ41 := hτ041.symm
          unfold F_X10_just_b41 at hτ41
          refine lv_iload hx hb dX10_just_41 (lv_at hl 0 rfl) ?_
          refine lv_sipush (v := (401 : Int32)) hx hb dX10_just_43 (by decide) ?_
          refine lv_icmp_ge (tgt := 101) hx hb dX10_just_46 (by decide) (fun c46 => ?_) (fun c46 => ?_)
          · rw [if_pos c46] at hτ41
            have hσ41 : σ41 = (x6_41, x5_41, x4_41, x3_41, s_mm_17_41, s_mm_18_41, s_mm_19_41, s_mm_20_41, g_rn_41) := by subst hτ41; exact hσ41
            exact hK x6_41 x5_41 x4_41 x3_41 s_mm_17_41 s_mm_18_41 s_mm_19_41 s_mm_20_41 g_rn_41 _ _ _ (hσ041.trans hσ41) hP hD hS (lv_sub hl [0, 1, 2, 3, 4, 5, 6] rfl)
          · rw [if_neg c46] at hτ41
            refine lv_aload_n hx hb dX10_just_49 rfl (lv_at hl 4 rfl) ?_
            refine lv_iload hx hb dX10_just_50 (lv_at hl 0 rfl) ?_
            refine lv_iconst (v := (-1 : Int32)) hx hb dX10_just_52 (by decide) ?_
            refine kI (wc := [xModel h_mm a_mm (upd (upd (upd (upd (upd (upd (upd (upd (upd (upd (upd (upd mm 0 (0 : Int32)) 6 v3) 7 v4) 8 v5) 9 v6) 10 v7) 11 v8) 12 v9) 17 s_mm_17_41) 18 s_mm_18_41) 19 s_mm_19_41) 20 s_mm_20_41), xI E (a_mm 5) 60 bt, xI E (a_mm 14) 6 g_rn_41]) (wr := []) (wc' := (fun (u : Int32 × Int32 × Int32 × Int32 × (Nat → Int32)) => [xModel h_mm a_mm (upd (upd (upd (upd (upd (upd (upd (upd (upd (upd (upd (upd (upd (upd (upd (upd mm 0 (0 : Int32)) 6 v3) 7 v4) 8 v5) 9 v6) 10 v7) 11 v8) 12 v9) 17 s_mm_17_41) 18 s_mm_18_41) 19 s_mm_19_41) 20 s_mm_20_41) 17 u.1) 18 u.2.1) 19 u.2.2.1) 20 u.2.2.2.1), xI E (a_mm 5) 60 bt, xI E (a_mm 14) 6 u.2.2.2.2])) (wn := (fun (u : Int32 × Int32 × Int32 × Int32 × (Nat → Int32)) => [xModel h_mm a_mm (upd (upd (upd (upd (upd (upd (upd (upd (upd (upd (upd (upd mm 0 (0 : Int32)) 6 v3) 7 v4) 8 v5) 9 v6) 10 v7) 11 v8) 12 v9) 17 u.1) 18 u.2.1) 19 u.2.2.1) 20 u.2.2.2.1), xI E (a_mm 5) 60 bt, xI E (a_mm 14) 6 u.2.2.2.2])) (isC := [0, 1, 2]) (isR := []) (is2 := [0, 1, 2]) cx hP hD hS ⟨rfl, rfl, by decide, by decide, by decide, by decide, fun _ => rfl⟩ (rV (As := [.int x6_41, .int (-1 : Int32)]) (rest := []) (C := RX10) (q0 := 0) (ci := 10) cx (c_X10_placeOf l E h_mm a_mm (upd (upd (upd (upd (upd (upd (upd (upd (upd (upd (upd (upd mm 0 (0 : Int32)) 6 v3) 7 v4) 8 v5) 9 v6) 10 v7) 11 v8) 12 v9) 17 s_mm_17_41) 18 s_mm_18_41) 19 s_mm_19_41) 20 s_mm_20_41) bt g_rn_41 x6_41 (-1 : Int32) (hB) (mmOK_of hn27 hB) _) (cwV 2 hts gX10_just_X10_placeOf rfl rfl rfl (by decide +kernel) ⟨Nat.le_of_ble_eq_true rfl, Nat.le_of_ble_eq_true rfl⟩) rfl rfl rfl rfl hl.1 rfl (Nat.le_of_ble_eq_true rfl) dX10_just_53 ⟨Nat.zero_le _, Nat.zero_le _⟩) (fun r10 u H locs hw hP hD hS => ?_)
            obtain ⟨v11, v12, v13, v14, g15⟩ := u
            have hP : va_P E.1 vwCl [xModel h_mm a_mm (upd (upd (upd (upd (upd (upd (upd (upd (upd (upd (upd (upd mm 0 (0 : Int32)) 6 v3) 7 v4) 8 v5) 9 v6) 10 v7) 11 v8) 12 v9) 17 v11) 18 v12) 19 v13) 20 v14), xI E (a_mm 5) 60 bt, xI E (a_mm 14) 6 g15] H := hP
            have hD : va_D A [xModel h_mm a_mm (upd (upd (upd (upd (upd (upd (upd (upd (upd (upd (upd (upd mm 0 (0 : Int32)) 6 v3) 7 v4) 8 v5) 9 v6) 10 v7) 11 v8) 12 v9) 17 v11) 18 v12) 19 v13) 20 v14), xI E (a_mm 5) 60 bt, xI E (a_mm 14) 6 g15] := hD
            have hw : F_X10_placeOf (upd (upd (upd (upd (upd (upd (upd (upd (upd (upd (upd (upd mm 0 (0 : Int32)) 6 v3) 7 v4) 8 v5) 9 v6) 10 v7) 11 v8) 12 v9) 17 s_mm_17_41) 18 s_mm_18_41) 19 s_mm_19_41) 20 s_mm_20_41) bt g_rn_41 x6_41 (-1 : Int32) = (r10, v11, v12, v13, v14, g15) := hw
            rw [hw] at hτ41
            have hτ41 : τ41 = F_X10_just_k53 d x6_41 x5_41 x4_41 x3_41 r10 v11 v12 v13 v14 g15 := hτ41
            unfold F_X10_just_k53 at hτ41
            refine lv_istore (lv' := [(7, .int r10), (6, .int x6_41), (5, .int x5_41), (4, .int x4_41), (3, .int x3_41), (0, .ref h_mm), (1, .int d), (2, .int what)]) hx hb dX10_just_56 hl (by decide) rfl (fun ls hl => ?_)
            refine lv_iload hx hb dX10_just_58 (lv_at hl 0 rfl) ?_
            refine lv_iload_n hx hb dX10_just_60 rfl (lv_at hl 6 rfl) ?_
            have hJ75 : ∀ (y0_75 : Int32) (H : Heap) (locs : List Loc) (ls : Array Slot), τ41 = F_X10_just_j75 x6_41 x5_41 x4_41 x3_41 r10 v11 v12 v13 v14 g15 y0_75 → va_P E.1 vwCl [xModel h_mm a_mm (upd (upd (upd (upd (upd (upd (upd (upd (upd (upd (upd (upd mm 0 (0 : Int32)) 6 v3) 7 v4) 8 v5) 9 v6) 10 v7) 11 v8) 12 v9) 17 v11) 18 v12) 19 v13) 20 v14), xI E (a_mm 5) 60 bt, xI E (a_mm 14) 6 g15] H → va_D A [xModel h_mm a_mm (upd (upd (upd (upd (upd (upd (upd (upd (upd (upd (upd (upd mm 0 (0 : Int32)) 6 v3) 7 v4) 8 v5) 9 v6) 10 v7) 11 v8) 12 v9) 17 v11) 18 v12) 19 v13) 20 v14), xI E (a_mm 5) 60 bt, xI E (a_mm 14) 6 g15] → va_S A s.heap H locs → lv_has ls 9 [(7, .int r10), (6, .int x6_41), (5, .int x5_41), (4, .int x4_41), (3, .int x3_41), (0, .ref h_mm), (1, .int d), (2, .int what)] → W p l e ({ frames := 5, cells := 0, slots := 0, locals := 117 } : Room) s m ([.ref h_mm, .int d, .int what] : List Value).toArray below meth c H locs 0 0 Q (F0 m 75 ls [.int y0_75]) := by
              intro y0_75 H locs ls hτ41 hP hD hS hl
              unfold F_X10_just_j75 at hτ41
              refine lv_istore (lv' := [(8, .int y0_75), (7, .int r10), (6, .int x6_41), (5, .int x5_41), (4, .int x4_41), (3, .int x3_41), (0, .ref h_mm), (1, .int d), (2, .int what)]) hx hb dX10_just_75 hl (by decide) rfl (fun ls hl => ?_)
              refine lv_iload hx hb dX10_just_77 (lv_at hl 0 rfl) ?_
              refine lv_iload hx hb dX10_just_79 (lv_at hl 3 rfl) ?_
              have hJ95 : ∀ (x5_95 : Int32) (x4_95 : Int32) (x3_95 : Int32) (H : Heap) (locs : List Loc) (ls : Array Slot), τ41 = F_X10_just_j95 x6_41 v11 v12 v13 v14 g15 x5_95 x4_95 x3_95 → va_P E.1 vwCl [xModel h_mm a_mm (upd (upd (upd (upd (upd (upd (upd (upd (upd (upd (upd (upd mm 0 (0 : Int32)) 6 v3) 7 v4) 8 v5) 9 v6) 10 v7) 11 v8) 12 v9) 17 v11) 18 v12) 19 v13) 20 v14), xI E (a_mm 5) 60 bt, xI E (a_mm 14) 6 g15] H → va_D A [xModel h_mm a_mm (upd (upd (upd (upd (upd (upd (upd (upd (upd (upd (upd (upd mm 0 (0 : Int32)) 6 v3) 7 v4) 8 v5) 9 v6) 10 v7) 11 v8) 12 v9) 17 v11) 18 v12) 19 v13) 20 v14), xI E (a_mm 5) 60 bt, xI E (a_mm 14) 6 g15] → va_S A s.heap H locs → lv_has ls 9 [(8, .int y0_75), (7, .int r10), (6, .int x6_41), (5, .int x5_95), (4, .int x4_95), (3, .int x3_95), (0, .ref h_mm), (1, .int d), (2, .int what)] → W p l e ({ frames := 5, cells := 0, slots := 0, locals := 117 } : Room) s m ([.ref h_mm, .int d, .int what] : List Value).toArray below meth c H locs 0 0 Q (F0 m 95 ls []) := by
                intro x5_95 x4_95 x3_95 H locs ls hτ41 hP hD hS hl
                unfold F_X10_just_j95 at hτ41
                refine lv_iinc (v := (x6_41 + (1 : Int32))) (lv' := [(6, .int (x6_41 + (1 : Int32))), (8, .int y0_75), (7, .int r10), (5, .int x5_95), (4, .int x4_95), (3, .int x3_95), (0, .ref h_mm), (1, .int d), (2, .int what)]) hx hb dX10_just_95 hl (k := 2) rfl rfl (by decide) rfl (fun ls hl => ?_)
                refine lv_goto (tgt := 41) hx hb dX10_just_98 (by decide) ?_
                have hσ41 : σ41 = F_X10_just_l41 mm bt d v3 v4 v5 v6 v7 v8 v9 n_41 (x6_41 + (1 : Int32)) x5_95 x4_95 x3_95 v11 v12 v13 v14 g15 := by subst hτ41; exact hσ41
                exact ih (x6_41 + (1 : Int32)) x5_95 x4_95 x3_95 v11 v12 v13 v14 g15 _ _ _ (cnt_lt c46 hM) hP hD hS (lv_sub hl [0, 3, 4, 5, 6, 7, 8] rfl) (fun ox6_41 ox5_41 ox4_41 ox3_41 os_mm_17_41 os_mm_18_41 os_mm_19_41 os_mm_20_41 og_rn_41 H locs ls he => hK ox6_41 ox5_41 ox4_41 ox3_41 os_mm_17_41 os_mm_18_41 os_mm_19_41 os_mm_20_41 og_rn_41 H locs ls (hσ041.trans (hσ41.trans he)))
              refine lv_icmp_ge (tgt := 95) hx hb dX10_just_81 (by decide) (fun c81 => ?_) (fun c81 => ?_)
              · rw [if_pos c81] at hτ41
                exact hJ95 x5_41 x4_41 x3_41 _ _ _ hτ41 hP hD hS (lv_sub hl [0, 1, 2, 3, 4, 5, 6, 7, 8] rfl)
              · rw [if_neg c81] at hτ41
                refine lv_iload hx hb dX10_just_84 (lv_at hl 2 rfl) ?_
                refine lv_istore_n (lv' := [(3, .int x6_41), (8, .int y0_75), (7, .int r10), (6, .int x6_41), (5, .int x5_41), (4, .int x4_41), (0, .ref h_mm), (1, .int d), (2, .int what)]) hx hb dX10_just_86 rfl hl (by decide) rfl (fun ls hl => ?_)
                refine lv_iload hx hb dX10_just_87 (lv_at hl 2 rfl) ?_
                refine lv_istore (lv' := [(4, .int r10), (3, .int x6_41), (8, .int y0_75), (7, .int r10), (6, .int x6_41), (5, .int x5_41), (0, .ref h_mm), (1, .int d), (2, .int what)]) hx hb dX10_just_89 hl (by decide) rfl (fun ls hl => ?_)
                refine lv_iload hx hb dX10_just_91 (lv_at hl 2 rfl) ?_
                refine lv_istore (lv' := [(5, .int y0_75), (4, .int r10), (3, .int x6_41), (8, .int y0_75), (7, .int r10), (6, .int x6_41), (0, .ref h_mm), (1, .int d), (2, .int what)]) hx hb dX10_just_93 hl (by decide) rfl (fun ls hl => ?_)
                exact hJ95 y0_75 r10 x6_41 _ _ _ hτ41 hP hD hS (lv_sub hl [3, 4, 5, 0, 1, 2, 6, 7, 8] rfl)
            refine lv_icmp_ge (tgt := 71) hx hb dX10_just_61 (by decide) (fun c61 => ?_) (fun c61 => ?_)
            · rw [if_pos c61] at hτ41
              refine lv_iload hx hb dX10_just_71 (lv_at hl 0 rfl) ?_
              refine lv_iload_n hx hb dX10_just_73 rfl (lv_at hl 6 rfl) ?_
              refine lv_isub hx hb dX10_just_74 ?_
              exact hJ75 (r10 - d) _ _ _ hτ41 hP hD hS (lv_sub hl [0, 1, 2, 3, 4, 5, 6, 7] rfl)
            · rw [if_neg c61] at hτ41
              refine lv_iload_n hx hb dX10_just_64 rfl (lv_at hl 6 rfl) ?_
              refine lv_iload hx hb dX10_just_65 (lv_at hl 0 rfl) ?_
              refine lv_isub hx hb dX10_just_67 ?_
              refine lv_goto (tgt := 75) hx hb dX10_just_68 (by decide) ?_
              exact hJ75 (d - r10) _ _ _ hτ41 hP hD hS (lv_sub hl [0, 1, 2, 3, 4, 5, 6, 7] rfl)
      refine hL41 (400) (1 : Int32) d (0 : Int32) (0 : Int32) (mm 17) (mm 18) (mm 19) (mm 20) rn _ _ _ (by decide) hP hD hS (lv_sub hl [0, 1, 2, 3, 4, 5, 6] rfl) ?_
      intro bx6_41 bx5_41 bx4_41 bx3_41 bs_mm_17_41 bs_mm_18_41 bs_mm_19_41 bs_mm_20_41 bg_rn_41 H locs ls he hP hD hS hl
      rw [he] at hρ
      have hρ : ρ = F_X10_just_x41 what v3 v4 v5 v6 v7 v8 v9 bx4_41 bx3_41 bs_mm_17_41 bs_mm_18_41 bs_mm_19_41 bs_mm_20_41 bg_rn_41 := hρ
      unfold F_X10_just_x41 at hρ
      refine lv_iload_n hx hb dX10_just_101 rfl (lv_at hl 6 rfl) ?_
      refine lv_if_ne (tgt := 109) hx hb dX10_just_102 (by decide) (fun c102 => ?_) (fun c102 => ?_)
      · rw [if_neg c102] at hρ
        refine lv_iload hx hb dX10_just_109 (lv_at hl 2 rfl) ?_
        exact hq bx4_41 ((0 : Int32), v3, v4, v5, v6, v7, v8, v9, bs_mm_17_41, bs_mm_18_41, bs_mm_19_41, bs_mm_20_41, bg_rn_41) _ _ _ _ dX10_just_111 rfl (hρ0.trans hρ) hP hD hS
      · rw [if_pos c102] at hρ
        refine lv_iload_n hx hb dX10_just_105 rfl (lv_at hl 3 rfl) ?_
        refine lv_goto (tgt := 111) hx hb dX10_just_106 (by decide) ?_
        exact hq bx3_41 ((0 : Int32), v3, v4, v5, v6, v7, v8, v9, bs_mm_17_41, bs_mm_18_41, bs_mm_19_41, bs_mm_20_41, bg_rn_41) _ _ _ _ dX10_just_111 rfl (hρ0.trans hρ) hP hD hS
    · rw [if_pos c21] at hρ
      refine lv_iconst (v := (-1 : Int32)) hx hb dX10_just_24 (by decide) ?_
      exact hq (-1 : Int32) ((0 : Int32), (mm 6), (mm 7), (mm 8), (mm 9), (mm 10), (mm 11), (mm 12), (mm 17), (mm 18), (mm 19), (mm 20), rn) _ _ _ _ dX10_just_25 rfl (hρ0.trans hρ) hP hD hS
def F_X10_span_j105 (x6_53 : Int32) (v18 : Int32) (v19 : Int32) (v20 : Int32) (v21 : Int32) (g22 : Nat → Int32) (y0_89 : Int32) (y0_105 : Int32) : (Int32 × Int32 × Int32 × Int32 × Int32 × Int32 × Int32 × (Nat → Int32)) ⊕ (Int32 × Int32 × Int32 × Int32 × Int32 × Int32 × Int32 × (Nat → Int32)) := Sum.inl ((x6_53 + (1 : Int32)), y0_105, y0_89, v18, v19, v20, v21, g22)
def F_X10_span_j89 (x6_53 : Int32) (x5_53 : Int32) (r17 : Int32) (v18 : Int32) (v19 : Int32) (v20 : Int32) (v21 : Int32) (g22 : Nat → Int32) (y0_89 : Int32) : (Int32 × Int32 × Int32 × Int32 × Int32 × Int32 × Int32 × (Nat → Int32)) ⊕ (Int32 × Int32 × Int32 × Int32 × Int32 × Int32 × Int32 × (Nat → Int32)) := (if r17 ≤ x5_53 then F_X10_span_j105 x6_53 v18 v19 v20 v21 g22 y0_89 x5_53 else F_X10_span_j105 x6_53 v18 v19 v20 v21 g22 y0_89 r17)
def F_X10_span_k70 (x6_53 : Int32) (x5_53 : Int32) (x4_53 : Int32) (r17 : Int32) (v18 : Int32) (v19 : Int32) (v20 : Int32) (v21 : Int32) (g22 : Nat → Int32) : (Int32 × Int32 × Int32 × Int32 × Int32 × Int32 × Int32 × (Nat → Int32)) ⊕ (Int32 × Int32 × Int32 × Int32 × Int32 × Int32 × Int32 × (Nat → Int32)) := (if x4_53 ≤ r17 then F_X10_span_j89 x6_53 x5_53 r17 v18 v19 v20 v21 g22 x4_53 else F_X10_span_j89 x6_53 x5_53 r17 v18 v19 v20 v21 g22 r17)
def F_X10_span_b53 (mm : Nat → Int32) (bt : Nat → Int32) (n : Int32) (z : Int32) (v4 : Int32) (v5 : Int32) (v6 : Int32) (v7 : Int32) (v8 : Int32) (v9 : Int32) (v10 : Int32) (x6_53 : Int32) (x5_53 : Int32) (x4_53 : Int32) (s_mm_17_53 : Int32) (s_mm_18_53 : Int32) (s_mm_19_53 : Int32) (s_mm_20_53 : Int32) (g_rn_53 : Nat → Int32) : (Int32 × Int32 × Int32 × Int32 × Int32 × Int32 × Int32 × (Nat → Int32)) ⊕ (Int32 × Int32 × Int32 × Int32 × Int32 × Int32 × Int32 × (Nat → Int32)) := (if (10 : Int32) ≤ x6_53 then Sum.inr (x6_53, x5_53, x4_53, s_mm_17_53, s_mm_18_53, s_mm_19_53, s_mm_20_53, g_rn_53) else (match F_X10_placeOf (upd (upd (upd (upd (upd (upd (upd (upd (upd (upd (upd (upd mm 0 (0 : Int32)) 6 v4) 7 v5) 8 v6) 9 v7) 10 v8) 11 v9) 12 v10) 17 s_mm_17_53) 18 s_mm_18_53) 19 s_mm_19_53) 20 s_mm_20_53) bt g_rn_53 n ((z + x6_53) - (z + x6_53) / (10000 : Int32) * (10000 : Int32)) with | (r17, v18, v19, v20, v21, g22) => F_X10_span_k70 x6_53 x5_53 x4_53 r17 v18 v19 v20 v21 g22))
def F_X10_span_l53 (mm : Nat → Int32) (bt : Nat → Int32) (n : Int32) (z : Int32) (v4 : Int32) (v5 : Int32) (v6 : Int32) (v7 : Int32) (v8 : Int32) (v9 : Int32) (v10 : Int32) : Nat → (Int32) → (Int32) → (Int32) → (Int32) → (Int32) → (Int32) → (Int32) → (Nat → Int32) → Int32 × Int32 × Int32 × Int32 × Int32 × Int32 × Int32 × (Nat → Int32)
  | 0, x6_53, x5_53, x4_53, s_mm_17_53, s_mm_18_53, s_mm_19_53, s_mm_20_53, g_rn_53 => (x6_53, x5_53, x4_53, s_mm_17_53, s_mm_18_53, s_mm_19_53, s_mm_20_53, g_rn_53)
  | n_53 + 1, x6_53, x5_53, x4_53, s_mm_17_53, s_mm_18_53, s_mm_19_53, s_mm_20_53, g_rn_53 => match F_X10_span_b53 mm bt n z v4 v5 v6 v7 v8 v9 v10 x6_53 x5_53 x4_53 s_mm_17_53 s_mm_18_53 s_mm_19_53 s_mm_20_53 g_rn_53 with
    | Sum.inl (c_x6_53, c_x5_53, c_x4_53, c_s_mm_17_53, c_s_mm_18_53, c_s_mm_19_53, c_s_mm_20_53, c_g_rn_53) => F_X10_span_l53 mm bt n z v4 v5 v6 v7 v8 v9 v10 n_53 c_x6_53 c_x5_53 c_x4_53 c_s_mm_17_53 c_s_mm_18_53 c_s_mm_19_53 c_s_mm_20_53 c_g_rn_53
    | Sum.inr r_ => r_
def F_X10_span_x53 (what : Int32) (v4 : Int32) (v5 : Int32) (v6 : Int32) (v7 : Int32) (v8 : Int32) (v9 : Int32) (v10 : Int32) (bx5_53 : Int32) (bx4_53 : Int32) (bs_mm_17_53 : Int32) (bs_mm_18_53 : Int32) (bs_mm_19_53 : Int32) (bs_mm_20_53 : Int32) (bg_rn_53 : Nat → Int32) : Int32 × Int32 × Int32 × Int32 × Int32 × Int32 × Int32 × Int32 × Int32 × Int32 × Int32 × Int32 × Int32 × (Nat → Int32) := (if what = (0 : Int32) then (bx4_53, (0 : Int32), v4, v5, v6, v7, v8, v9, v10, bs_mm_17_53, bs_mm_18_53, bs_mm_19_53, bs_mm_20_53, bg_rn_53) else (bx5_53, (0 : Int32), v4, v5, v6, v7, v8, v9, v10, bs_mm_17_53, bs_mm_18_53, bs_mm_19_53, bs_mm_20_53, bg_rn_53))
def F_X10_span_k41 (mm : Nat → Int32) (bt : Nat → Int32) (n : Int32) (z : Int32) (what : Int32) (v4 : Int32) (v5 : Int32) (v6 : Int32) (v7 : Int32) (v8 : Int32) (v9 : Int32) (v10 : Int32) (r11 : Int32) (v12 : Int32) (v13 : Int32) (v14 : Int32) (v15 : Int32) (g16 : Nat → Int32) : Int32 × Int32 × Int32 × Int32 × Int32 × Int32 × Int32 × Int32 × Int32 × Int32 × Int32 × Int32 × Int32 × (Nat → Int32) := (match F_X10_span_l53 mm bt n z v4 v5 v6 v7 v8 v9 v10 (9) (1 : Int32) r11 r11 v12 v13 v14 v15 g16 with | (bx6_53, bx5_53, bx4_53, bs_mm_17_53, bs_mm_18_53, bs_mm_19_53, bs_mm_20_53, bg_rn_53) => F_X10_span_x53 what v4 v5 v6 v7 v8 v9 v10 bx5_53 bx4_53 bs_mm_17_53 bs_mm_18_53 bs_mm_19_53 bs_mm_20_53 bg_rn_53)
def F_X10_span_k35 (mm : Nat → Int32) (bt : Nat → Int32) (rn : Nat → Int32) (n : Int32) (z : Int32) (what : Int32) (v4 : Int32) (v5 : Int32) (v6 : Int32) (v7 : Int32) (v8 : Int32) (v9 : Int32) (v10 : Int32) : Int32 × Int32 × Int32 × Int32 × Int32 × Int32 × Int32 × Int32 × Int32 × Int32 × Int32 × Int32 × Int32 × (Nat → Int32) := (match F_X10_placeOf (upd (upd (upd (upd (upd (upd (upd (upd mm 0 (0 : Int32)) 6 v4) 7 v5) 8 v6) 9 v7) 10 v8) 11 v9) 12 v10) bt rn n z with | (r11, v12, v13, v14, v15, g16) => F_X10_span_k41 mm bt n z what v4 v5 v6 v7 v8 v9 v10 r11 v12 v13 v14 v15 g16)
def F_X10_span (mm : Nat → Int32) (bt : Nat → Int32) (rn : Nat → Int32) (n : Int32) (z : Int32) (what : Int32) : Int32 × Int32 × Int32 × Int32 × Int32 × Int32 × Int32 × Int32 × Int32 × Int32 × Int32 × Int32 × Int32 × (Nat → Int32) := (if (F_X10_areTurns n) = (0 : Int32) then ((-1 : Int32), (0 : Int32), (mm 6), (mm 7), (mm 8), (mm 9), (mm 10), (mm 11), (mm 12), (mm 17), (mm 18), (mm 19), (mm 20), rn) else (if (F_X10_in z (0 : Int32) (9999 : Int32)) = (0 : Int32) then ((-1 : Int32), (0 : Int32), (mm 6), (mm 7), (mm 8), (mm 9), (mm 10), (mm 11), (mm 12), (mm 17), (mm 18), (mm 19), (mm 20), rn) else (if (F_X10_in what (0 : Int32) (1 : Int32)) = (0 : Int32) then ((-1 : Int32), (0 : Int32), (mm 6), (mm 7), (mm 8), (mm 9), (mm 10), (mm 11), (mm 12), (mm 17), (mm 18), (mm 19), (mm 20), rn) else (match F_X10_asItIs bt with | (v4, v5, v6, v7, v8, v9, v10) => F_X10_span_k35 mm bt rn n z what v4 v5 v6 v7 v8 v9 v10))))
theorem iX10_span_X10 : ∀ w ∈ wsX100, w ∈ wsX10_span := fun _ h => List.mem_cons_of_mem _ (List.mem_append_right _ h)
set_option maxHeartbeats 4000000 in
set_option maxRecDepth 100000 in
theorem c_X10_span (l : Launch) (E : wV) (h_mm : Nat) (a_mm : Nat → Nat) (mm : Nat → Int32) (bt : Nat → Int32) (rn : Nat → Int32) (n : Int32) (z : Int32) (what : Int32) (hB : btOK bt) : MetI l yX10_span wsX10_span ({ frames := 5, cells := 0, slots := 0, locals := 117 } : Room) E ([.ref h_mm, .int n, .int z, .int what] : List Value) [xModel h_mm a_mm mm, xI E (a_mm 5) 60 bt, xI E (a_mm 14) 6 rn] (fun (r : Int32) (u : Int32 × Int32 × Int32 × Int32 × Int32 × Int32 × Int32 × Int32 × Int32 × Int32 × Int32 × Int32 × (Nat → Int32)) => F_X10_span mm bt rn n z what = (r, u)) (fun (u : Int32 × Int32 × Int32 × Int32 × Int32 × Int32 × Int32 × Int32 × Int32 × Int32 × Int32 × Int32 × (Nat → Int32)) => [xModel h_mm a_mm (upd (upd (upd (upd (upd (upd (upd (upd (upd (upd (upd (upd mm 0 u.1) 6 u.2.1) 7 u.2.2.1) 8 u.2.2.2.1) 9 u.2.2.2.2.1) 10 u.2.2.2.2.2.1) 11 u.2.2.2.2.2.2.1) 12 u.2.2.2.2.2.2.2.1) 17 u.2.2.2.2.2.2.2.2.1) 18 u.2.2.2.2.2.2.2.2.2.1) 19 u.2.2.2.2.2.2.2.2.2.2.1) 20 u.2.2.2.2.2.2.2.2.2.2.2.1), xI E (a_mm 5) 60 bt, xI E (a_mm 14) 6 u.2.2.2.2.2.2.2.2.2.2.2.2]) := by
  refine MetI.of (cc := cX10_span) (maxL := 8) (own := RX10) (by decide) rfl rfl (Nat.le_of_ble_eq_true rfl) ?_
  intro p e s m below meth c A Q ls cx hP hD hS hl hq
  obtain ⟨hx, hb, hml, hown, hts, hE, hA⟩ := id cx
  have hl : lv_has ls 8 [(0, .ref h_mm), (1, .int n), (2, .int z), (3, .int what)] := hl
  have hP : va_P E.1 vwCl [xModel h_mm a_mm mm, xI E (a_mm 5) 60 bt, xI E (a_mm 14) 6 rn] s.heap := hP
  obtain ⟨ρ, hρ0⟩ : ∃ ρ, F_X10_span mm bt rn n z what = ρ := ⟨_, rfl⟩
  have hρ := hρ0.symm
  unfold F_X10_span at hρ
  refine lv_aload_n hx hb dX10_span_0 rfl (lv_at hl 0 rfl) ?_
  refine lv_iconst (v := (0 : Int32)) hx hb dX10_span_1 (by decide) ?_
  refine va_put (D := E.1) (ci := 10) (v := .int (0 : Int32)) (ty := .int) (C := RX10) (T := TX10) (N := 27) hx hb hts iX10_span_X10 tyX10 tyX10_ok nmX10 hown hE.1 hP hD hS 0 rfl rfl 0 (by decide) (hts (.fieldLink RX10 41 "BandBoatModel" "thrown" "I") (List.mem_of_getElem? (i := 1) rfl)) (fun _ h9 => h9) rfl (by decide +kernel) rfl rfl (Nat.le_of_ble_eq_true rfl) dX10_span_2 (fun H locs hP hD hS => ?_)
  have hP : va_P E.1 vwCl [xModel h_mm a_mm (upd mm 0 (0 : Int32)), xI E (a_mm 5) 60 bt, xI E (a_mm 14) 6 rn] H := hP
  have hD : va_D A [xModel h_mm a_mm (upd mm 0 (0 : Int32)), xI E (a_mm 5) 60 bt, xI E (a_mm 14) 6 rn] := hD
  refine lv_iload_n hx hb dX10_span_5 rfl (lv_at hl 1 rfl) ?_
  refine kI (wc := []) (wr := [xModel h_mm a_mm (upd mm 0 (0 : Int32)), xI E (a_mm 5) 60 bt, xI E (a_mm 14) 6 rn]) (wc' := (fun (_ : Unit) => [])) (wn := (fun (_ : Unit) => [xModel h_mm a_mm (upd mm 0 (0 : Int32)), xI E (a_mm 5) 60 bt, xI E (a_mm 14) 6 rn])) (isC := []) (isR := [0, 1, 2]) (is2 := [0, 1, 2]) cx hP hD hS ⟨rfl, rfl, by decide, by decide, by decide, by decide, fun _ => rfl⟩ (rS (As := [.int n]) (rest := []) cx (c_X10_areTurns l E n _) (va_cwS 1 hts gX10_span_X10_areTurns rfl rfl rfl (by decide +kernel) ⟨Nat.le_of_ble_eq_true rfl, Nat.le_of_ble_eq_true rfl⟩) rfl hl.1 rfl (Nat.le_of_ble_eq_true rfl) dX10_span_6 ⟨Nat.zero_le _, Nat.zero_le _⟩) (fun r1 u H locs hw hP hD hS => ?_)
  subst hw
  refine lv_if_eq (tgt := 32) hx hb dX10_span_9 (by decide) (fun c9 => ?_) (fun c9 => ?_)
  · rw [if_pos c9] at hρ
    refine lv_iconst (v := (-1 : Int32)) hx hb dX10_span_32 (by decide) ?_
    exact hq (-1 : Int32) ((0 : Int32), (mm 6), (mm 7), (mm 8), (mm 9), (mm 10), (mm 11), (mm 12), (mm 17), (mm 18), (mm 19), (mm 20), rn) _ _ _ _ dX10_span_33 rfl (hρ0.trans hρ) hP hD hS
  · rw [if_neg c9] at hρ
    refine lv_iload_n hx hb dX10_span_12 rfl (lv_at hl 2 rfl) ?_
    refine lv_iconst (v := (0 : Int32)) hx hb dX10_span_13 (by decide) ?_
    refine lv_sipush (v := (9999 : Int32)) hx hb dX10_span_14 (by decide) ?_
    refine kI (wc := []) (wr := [xModel h_mm a_mm (upd mm 0 (0 : Int32)), xI E (a_mm 5) 60 bt, xI E (a_mm 14) 6 rn]) (wc' := (fun (_ : Unit) => [])) (wn := (fun (_ : Unit) => [xModel h_mm a_mm (upd mm 0 (0 : Int32)), xI E (a_mm 5) 60 bt, xI E (a_mm 14) 6 rn])) (isC := []) (isR := [0, 1, 2]) (is2 := [0, 1, 2]) cx hP hD hS ⟨rfl, rfl, by decide, by decide, by decide, by decide, fun _ => rfl⟩ (rS (As := [.int z, .int (0 : Int32), .int (9999 : Int32)]) (rest := []) cx (c_X10_in l E z (0 : Int32) (9999 : Int32) _) (va_cwS 3 hts gX10_span_X10_in rfl rfl rfl (by decide +kernel) ⟨Nat.le_of_ble_eq_true rfl, Nat.le_of_ble_eq_true rfl⟩) rfl hl.1 rfl (Nat.le_of_ble_eq_true rfl) dX10_span_17 ⟨Nat.zero_le _, Nat.zero_le _⟩) (fun r2 u H locs hw hP hD hS => ?_)
    subst hw
    refine lv_if_eq (tgt := 32) hx hb dX10_span_20 (by decide) (fun c20 => ?_) (fun c20 => ?_)
    · rw [if_pos c20] at hρ
      refine lv_iconst (v := (-1 : Int32)) hx hb dX10_span_32 (by decide) ?_
      exact hq (-1 : Int32) ((0 : Int32), (mm 6), (mm 7), (mm 8), (mm 9), (mm 10), (mm 11), (mm 12), (mm 17), (mm 18), (mm 19), (mm 20), rn) _ _ _ _ dX10_span_33 rfl (hρ0.trans hρ) hP hD hS
    · rw [if_neg c20] at hρ
      refine lv_iload_n hx hb dX10_span_23 rfl (lv_at hl 3 rfl) ?_
      refine lv_iconst (v := (0 : Int32)) hx hb dX10_span_24 (by decide) ?_
      refine lv_iconst (v := (1 : Int32)) hx hb dX10_span_25 (by decide) ?_
      refine kI (wc := []) (wr := [xModel h_mm a_mm (upd mm 0 (0 : Int32)), xI E (a_mm 5) 60 bt, xI E (a_mm 14) 6 rn]) (wc' := (fun (_ : Unit) => [])) (wn := (fun (_ : Unit) => [xModel h_mm a_mm (upd mm 0 (0 : Int32)), xI E (a_mm 5) 60 bt, xI E (a_mm 14) 6 rn])) (isC := []) (isR := [0, 1, 2]) (is2 := [0, 1, 2]) cx hP hD hS ⟨rfl, rfl, by decide, by decide, by decide, by decide, fun _ => rfl⟩ (rS (As := [.int what, .int (0 : Int32), .int (1 : Int32)]) (rest := []) cx (c_X10_in l E what (0 : Int32) (1 : Int32) _) (va_cwS 3 hts gX10_span_X10_in rfl rfl rfl (by decide +kernel) ⟨Nat.le_of_ble_eq_true rfl, Nat.le_of_ble_eq_true rfl⟩) rfl hl.1 rfl (Nat.le_of_ble_eq_true rfl) dX10_span_26 ⟨Nat.zero_le _, Nat.zero_le _⟩) (fun r3 u H locs hw hP hD hS => ?_)
      subst hw
      refine lv_if_ne (tgt := 34) hx hb dX10_span_29 (by decide) (fun c29 => ?_) (fun c29 => ?_)
      · rw [if_neg c29] at hρ
        refine lv_aload_n hx hb dX10_span_34 rfl (lv_at hl 0 rfl) ?_
        refine kV (wc := [xModel h_mm a_mm (upd mm 0 (0 : Int32)), xI E (a_mm 5) 60 bt]) (wr := [xI E (a_mm 14) 6 rn]) (wc' := (fun (u : Int32 × Int32 × Int32 × Int32 × Int32 × Int32 × Int32) => [xModel h_mm a_mm (upd (upd (upd (upd (upd (upd (upd (upd mm 0 (0 : Int32)) 6 u.1) 7 u.2.1) 8 u.2.2.1) 9 u.2.2.2.1) 10 u.2.2.2.2.1) 11 u.2.2.2.2.2.1) 12 u.2.2.2.2.2.2), xI E (a_mm 5) 60 bt])) (wn := (fun (u : Int32 × Int32 × Int32 × Int32 × Int32 × Int32 × Int32) => [xModel h_mm a_mm (upd (upd (upd (upd (upd (upd (upd (upd mm 0 (0 : Int32)) 6 u.1) 7 u.2.1) 8 u.2.2.1) 9 u.2.2.2.1) 10 u.2.2.2.2.1) 11 u.2.2.2.2.2.1) 12 u.2.2.2.2.2.2), xI E (a_mm 5) 60 bt, xI E (a_mm 14) 6 rn])) (isC := [0, 1]) (isR := [2]) (is2 := [1, 2, 0]) cx hP hD hS ⟨rfl, rfl, by decide, by decide, by decide, by decide, fun _ => rfl⟩ (rV (As := []) (rest := []) (C := RX10) (q0 := 0) (ci := 10) cx (c_X10_asItIs l E h_mm a_mm (upd mm 0 (0 : Int32)) bt (hB) _) (cwV 0 hts gX10_span_X10_asItIs rfl rfl rfl (by decide +kernel) ⟨Nat.le_of_ble_eq_true rfl, Nat.le_of_ble_eq_true rfl⟩) rfl rfl rfl rfl hl.1 rfl (Nat.le_of_ble_eq_true rfl) dX10_span_35 ⟨Nat.zero_le _, Nat.zero_le _⟩) (fun u H locs hw hP hD hS => ?_)
        obtain ⟨hw, hn35⟩ := hw
        obtain ⟨v4, v5, v6, v7, v8, v9, v10⟩ := u
        have hn35 : (v7) = (bt 17) ∧ (v8) = (bt 18) ∧ (v9) = (bt 19) := hn35
        have hP : va_P E.1 vwCl [xModel h_mm a_mm (upd (upd (upd (upd (upd (upd (upd (upd mm 0 (0 : Int32)) 6 v4) 7 v5) 8 v6) 9 v7) 10 v8) 11 v9) 12 v10), xI E (a_mm 5) 60 bt, xI E (a_mm 14) 6 rn] H := hP
        have hD : va_D A [xModel h_mm a_mm (upd (upd (upd (upd (upd (upd (upd (upd mm 0 (0 : Int32)) 6 v4) 7 v5) 8 v6) 9 v7) 10 v8) 11 v9) 12 v10), xI E (a_mm 5) 60 bt, xI E (a_mm 14) 6 rn] := hD
        have hw : F_X10_asItIs bt = (v4, v5, v6, v7, v8, v9, v10) := hw
        rw [hw] at hρ
        have hρ : ρ = F_X10_span_k35 mm bt rn n z what v4 v5 v6 v7 v8 v9 v10 := hρ
        unfold F_X10_span_k35 at hρ
        refine lv_aload_n hx hb dX10_span_38 rfl (lv_at hl 0 rfl) ?_
        refine lv_iload_n hx hb dX10_span_39 rfl (lv_at hl 1 rfl) ?_
        refine lv_iload_n hx hb dX10_span_40 rfl (lv_at hl 2 rfl) ?_
        refine kI (wc := [xModel h_mm a_mm (upd (upd (upd (upd (upd (upd (upd (upd mm 0 (0 : Int32)) 6 v4) 7 v5) 8 v6) 9 v7) 10 v8) 11 v9) 12 v10), xI E (a_mm 5) 60 bt, xI E (a_mm 14) 6 rn]) (wr := []) (wc' := (fun (u : Int32 × Int32 × Int32 × Int32 × (Nat → Int32)) => [xModel h_mm a_mm (upd (upd (upd (upd (upd (upd (upd (upd (upd (upd (upd (upd mm 0 (0 : Int32)) 6 v4) 7 v5) 8 v6) 9 v7) 10 v8) 11 v9) 12 v10) 17 u.1) 18 u.2.1) 19 u.2.2.1) 20 u.2.2.2.1), xI E (a_mm 5) 60 bt, xI E (a_mm 14) 6 u.2.2.2.2])) (wn := (fun (u : Int32 × Int32 × Int32 × Int32 × (Nat → Int32)) => [xModel h_mm a_mm (upd (upd (upd (upd (upd (upd (upd (upd (upd (upd (upd (upd mm 0 (0 : Int32)) 6 v4) 7 v5) 8 v6) 9 v7) 10 v8) 11 v9) 12 v10) 17 u.1) 18 u.2.1) 19 u.2.2.1) 20 u.2.2.2.1), xI E (a_mm 5) 60 bt, xI E (a_mm 14) 6 u.2.2.2.2])) (isC := [0, 1, 2]) (isR := []) (is2 := [0, 1, 2]) cx hP hD hS ⟨rfl, rfl, by decide, by decide, by decide, by decide, fun _ => rfl⟩ (rV (As := [.int n, .int z]) (rest := []) (C := RX10) (q0 := 0) (ci := 10) cx (c_X10_placeOf l E h_mm a_mm (upd (upd (upd (upd (upd (upd (upd (upd mm 0 (0 : Int32)) 6 v4) 7 v5) 8 v6) 9 v7) 10 v8) 11 v9) 12 v10) bt rn n z (hB) (mmOK_of hn35 hB) _) (cwV 2 hts gX10_span_X10_placeOf rfl rfl rfl (by decide +kernel) ⟨Nat.le_of_ble_eq_true rfl, Nat.le_of_ble_eq_true rfl⟩) rfl rfl rfl rfl hl.1 rfl (Nat.le_of_ble_eq_true rfl) dX10_span_41 ⟨Nat.zero_le _, Nat.zero_le _⟩) (fun r11 u H locs hw hP hD hS => ?_)
        obtain ⟨v12, v13, v14, v15, g16⟩ := u
        have hP : va_P E.1 vwCl [xModel h_mm a_mm (upd (upd (upd (upd (upd (upd (upd (upd (upd (upd (upd (upd mm 0 (0 : Int32)) 6 v4) 7 v5) 8 v6) 9 v7) 10 v8) 11 v9) 12 v10) 17 v12) 18 v13) 19 v14) 20 v15), xI E (a_mm 5) 60 bt, xI E (a_mm 14) 6 g16] H := hP
        have hD : va_D A [xModel h_mm a_mm (upd (upd (upd (upd (upd (upd (upd (upd (upd (upd (upd (upd mm 0 (0 : Int32)) 6 v4) 7 v5) 8 v6) 9 v7) 10 v8) 11 v9) 12 v10) 17 v12) 18 v13) 19 v14) 20 v15), xI E (a_mm 5) 60 bt, xI E (a_mm 14) 6 g16] := hD
        have hw : F_X10_placeOf (upd (upd (upd (upd (upd (upd (upd (upd mm 0 (0 : Int32)) 6 v4) 7 v5) 8 v6) 9 v7) 10 v8) 11 v9) 12 v10) bt rn n z = (r11, v12, v13, v14, v15, g16) := hw
        rw [hw] at hρ
        have hρ : ρ = F_X10_span_k41 mm bt n z what v4 v5 v6 v7 v8 v9 v10 r11 v12 v13 v14 v15 g16 := hρ
        unfold F_X10_span_k41 at hρ
        refine lv_istore (lv' := [(4, .int r11), (0, .ref h_mm), (1, .int n), (2, .int z), (3, .int what)]) hx hb dX10_span_44 hl (by decide) rfl (fun ls hl => ?_)
        refine lv_iload hx hb dX10_span_46 (lv_at hl 0 rfl) ?_
        refine lv_istore (lv' := [(5, .int r11), (4, .int r11), (0, .ref h_mm), (1, .int n), (2, .int z), (3, .int what)]) hx hb dX10_span_48 hl (by decide) rfl (fun ls hl => ?_)
        refine lv_iconst (v := (1 : Int32)) hx hb dX10_span_50 (by decide) ?_
        refine lv_istore (lv' := [(6, .int (1 : Int32)), (5, .int r11), (4, .int r11), (0, .ref h_mm), (1, .int n), (2, .int z), (3, .int what)]) hx hb dX10_span_51 hl (by decide) rfl (fun ls hl => ?_)
        have hL53 : ∀ (n_53 : Nat) (x6_53 : Int32) (x5_53 : Int32) (x4_53 : Int32) (s_mm_17_53 : Int32) (s_mm_18_53 : Int32) (s_mm_19_53 : Int32) (s_mm_20_53 : Int32) (g_rn_53 : Nat → Int32) (H : Heap) (locs : List Loc) (ls : Array Slot), (((10 : Int32) : Int32).toInt ≤ (x6_53).toInt + (n_53 : Nat)) → va_P E.1 vwCl [xModel h_mm a_mm (upd (upd (upd (upd (upd (upd (upd (upd (upd (upd (upd (upd mm 0 (0 : Int32)) 6 v4) 7 v5) 8 v6) 9 v7) 10 v8) 11 v9) 12 v10) 17 s_mm_17_53) 18 s_mm_18_53) 19 s_mm_19_53) 20 s_mm_20_53), xI E (a_mm 5) 60 bt, xI E (a_mm 14) 6 g_rn_53] H → va_D A [xModel h_mm a_mm (upd (upd (upd (upd (upd (upd (upd (upd (upd (upd (upd (upd mm 0 (0 : Int32)) 6 v4) 7 v5) 8 v6) 9 v7) 10 v8) 11 v9) 12 v10) 17 s_mm_17_53) 18 s_mm_18_53) 19 s_mm_19_53) 20 s_mm_20_53), xI E (a_mm 5) 60 bt, xI E (a_mm 14) 6 g_rn_53] → va_S A s.heap H locs → lv_has ls 8 [(6, .int x6_53), (5, .int x5_53), (4, .int x4_53), (0, .ref h_mm), (1, .int n), (2, .int z), (3, .int what)] → (∀ (ox6_53 : Int32) (ox5_53 : Int32) (ox4_53 : Int32) (os_mm_17_53 : Int32) (os_mm_18_53 : Int32) (os_mm_19_53 : Int32) (os_mm_20_53 : Int32) (og_rn_53 : Nat → Int32) (H : Heap) (locs : List Loc) (ls : Array Slot), F_X10_span_l53 mm bt n z v4 v5 v6 v7 v8 v9 v10 n_53 x6_53 x5_53 x4_53 s_mm_17_53 s_mm_18_53 s_mm_19_53 s_mm_20_53 g_rn_53 = (ox6_53, ox5_53, ox4_53, os_mm_17_53, os_mm_18_53, os_mm_19_53, os_mm_20_53, og_rn_53) → va_P E.1 vwCl [xModel h_mm a_mm (upd (upd (upd (upd (upd (upd (upd (upd (upd (upd (upd (upd mm 0 (0 : Int32)) 6 v4) 7 v5) 8 v6) 9 v7) 10 v8) 11 v9) 12 v10) 17 os_mm_17_53) 18 os_mm_18_53) 19 os_mm_19_53) 20 os_mm_20_53), xI E (a_mm 5) 60 bt, xI E (a_mm 14) 6 og_rn_53] H → va_D A [xModel h_mm a_mm (upd (upd (upd (upd (upd (upd (upd (upd (upd (upd (upd (upd mm 0 (0 : Int32)) 6 v4) 7 v5) 8 v6) 9 v7) 10 v8) 11 v9) 12 v10) 17 os_mm_17_53) 18 os_mm_18_53) 19 os_mm_19_53) 20 os_mm_20_53), xI E (a_mm 5) 60 bt, xI E (a_mm 14) 6 og_rn_53] → va_S A s.heap H locs → lv_has ls 8 [(6, .int ox6_53), (5, .int ox5_53), (4, .int ox4_53), (0, .ref h_mm), (1, .int n), (2, .int z), (3, .int what)] → W p l e ({ frames := 5, cells := 0, slots := 0, locals := 117 } : Room) s m ([.ref h_mm, .int n, .int z, .int what] : List Value).toArray below meth c H locs 0 0 Q (F0 m 113 ls [])) → W p l e ({ frames := 5, cells := 0, slots := 0, locals := 117 } : Room) s m ([.ref h_mm, .int n, .int z, .int what] : List Value).toArray below meth c H locs 0 0 Q (F0 m 53 ls []) := by
          intro n_53
          induction n_53 with
          | zero =>
            intro x6_53 x5_53 x4_53 s_mm_17_53 s_mm_18_53 s_mm_19_53 s_mm_20_53 g_rn_53 H locs ls hM hP hD hS hl hK
            have hM53 := hM
            obtain ⟨σ53, hσ053⟩ : ∃ σ, F_X10_span_l53 mm bt n z v4 v5 v6 v7 v8 v9 v10 0 x6_53 x5_53 x4_53 s_mm_17_53 s_mm_18_53 s_mm_19_53 s_mm_20_53 g_rn_53 = σ := ⟨_, rfl⟩
            have hσ53 := hσ053.symm
            rw [F_X10_span_l53] at hσ53
            refine lv_iload hx hb dX10_span_53 (lv_at hl 0 rfl) ?_
            refine lv_bipush (v := (10 : Int32)) hx hb dX10_span_55 (by decide) ?_
            refine lv_icmp_ge (tgt := 113) hx hb dX10_span_57 (by decide) (fun c57 => ?_) (fun c57 => ?_)
            · exact hK x6_53 x5_53 x4_53 s_mm_17_53 s_mm_18_53 s_mm_19_53 s_mm_20_53 g_rn_53 _ _ _ (hσ053.trans hσ53) hP hD hS (lv_sub hl [0, 1, 2, 3, 4, 5, 6] rfl)
            · exact (cnt_lt0 c57 hM).elim
          | succ n_53 ih =>
            intro x6_53 x5_53 x4_53 s_mm_17_53 s_mm_18_53 s_mm_19_53 s_mm_20_53 g_rn_53 H locs ls hM hP hD hS hl hK
            have hM53 := hM
            obtain ⟨σ53, hσ053⟩ : ∃ σ, F_X10_span_l53 mm bt n z v4 v5 v6 v7 v8 v9 v10 (n_53 + 1) x6_53 x5_53 x4_53 s_mm_17_53 s_mm_18_53 s_mm_19_53 s_mm_20_53 g_rn_53 = σ := ⟨_, rfl⟩
            have hσ53 := hσ053.symm
            rw [F_X10_span_l53] at hσ53
            obtain ⟨τ53, hτ053⟩ : ∃ τ, F_X10_span_b53 mm bt n z v4 v5 v6 v7 v8 v9 v10 x6_53 x5_53 x4_53 s_mm_17_53 s_mm_18_53 s_mm_19_53 s_mm_20_53 g_rn_53 = τ := ⟨_, rfl⟩
            rw [hτ053] at hσ53
            have hτ53 := hτ053.symm
            unfold F_X10_span_b53 at hτ53
            refine lv_iload hx hb dX10_span_53 (lv_at hl 0 rfl) ?_
            refine lv_bipush (v := (10 : Int32)) hx hb dX10_span_55 (by decide) ?_
            refine lv_icmp_ge (tgt := 113) hx hb dX10_span_57 (by decide) (fun c57 => ?_) (fun c57 => ?_)
            · rw [if_pos c57] at hτ53
              have hσ53 : σ53 = (x6_53, x5_53, x4_53, s_mm_17_53, s_mm_18_53, s_mm_19_53, s_mm_20_53, g_rn_53) := by subst hτ53; exact hσ53
              exact hK x6_53 x5_53 x4_53 s_mm_17_53 s_mm_18_53 s_mm_19_53 s_mm_20_53 g_rn_53 _ _ _ (hσ053.trans hσ53) hP hD hS (lv_sub hl [0, 1, 2, 3, 4, 5, 6] rfl)
            · rw [if_neg c57] at hτ53
              refine lv_aload_n hx hb dX10_span_60 rfl (lv_at hl 3 rfl) ?_
              refine lv_iload_n hx hb dX10_span_61 rfl (lv_at hl 4 rfl) ?_
              refine lv_iload_n hx hb dX10_span_62 rfl (lv_at hl 5 rfl) ?_
              refine lv_iload hx hb dX10_span_63 (lv_at hl 0 rfl) ?_
              refine lv_iadd hx hb dX10_span_65 ?_
              refine lv_sipush (v := (10000 : Int32)) hx hb dX10_span_66 (by decide) ?_
              refine lv_irem hx hb dX10_span_69 (by decide) ?_
              refine kI (wc := [xModel h_mm a_mm (upd (upd (upd (upd (upd (upd (upd (upd (upd (upd (upd (upd mm 0 (0 : Int32)) 6 v4) 7 v5) 8 v6) 9 v7) 10 v8) 11 v9) 12 v10) 17 s_mm_17_53) 18 s_mm_18_53) 19 s_mm_19_53) 20 s_mm_20_53), xI E (a_mm 5) 60 bt, xI E (a_mm 14) 6 g_rn_53]) (wr := []) (wc' := (fun (u : Int32 × Int32 × Int32 × Int32 × (Nat → Int32)) => [xModel h_mm a_mm (upd (upd (upd (upd (upd (upd (upd (upd (upd (upd (upd (upd (upd (upd (upd (upd mm 0 (0 : Int32)) 6 v4) 7 v5) 8 v6) 9 v7) 10 v8) 11 v9) 12 v10) 17 s_mm_17_53) 18 s_mm_18_53) 19 s_mm_19_53) 20 s_mm_20_53) 17 u.1) 18 u.2.1) 19 u.2.2.1) 20 u.2.2.2.1), xI E (a_mm 5) 60 bt, xI E (a_mm 14) 6 u.2.2.2.2])) (wn := (fun (u : Int32 × Int32 × Int32 × Int32 × (Nat → Int32)) => [xModel h_mm a_mm (upd (upd (upd (upd (upd (upd (upd (upd (upd (upd (upd (upd mm 0 (0 : Int32)) 6 v4) 7 v5) 8 v6) 9 v7) 10 v8) 11 v9) 12 v10) 17 u.1) 18 u.2.1) 19 u.2.2.1) 20 u.2.2.2.1), xI E (a_mm 5) 60 bt, xI E (a_mm 14) 6 u.2.2.2.2])) (isC := [0, 1, 2]) (isR := []) (is2 := [0, 1, 2]) cx hP hD hS ⟨rfl, rfl, by decide, by decide, by decide, by decide, fun _ => rfl⟩ (rV (As := [.int n, .int ((z + x6_53) - (z + x6_53) / (10000 : Int32) * (10000 : Int32))]) (rest := []) (C := RX10) (q0 := 0) (ci := 10) cx (c_X10_placeOf l E h_mm a_mm (upd (upd (upd (upd (upd (upd (upd (upd (upd (upd (upd (upd mm 0 (0 : Int32)) 6 v4) 7 v5) 8 v6) 9 v7) 10 v8) 11 v9) 12 v10) 17 s_mm_17_53) 18 s_mm_18_53) 19 s_mm_19_53) 20 s_mm_20_53) bt g_rn_53 n ((z + x6_53) - (z + x6_53) / (10000 : Int32) * (10000 : Int32)) (hB) (mmOK_of hn35 hB) _) (cwV 2 hts gX10_span_X10_placeOf rfl rfl rfl (by decide +kernel) ⟨Nat.le_of_ble_eq_true rfl, Nat.le_of_ble_eq_true rfl⟩) rfl rfl rfl rfl hl.1 rfl (Nat.le_of_ble_eq_true rfl) dX10_span_70 ⟨Nat.zero_le _, Nat.zero_le _⟩) (fun r17 u H locs hw hP hD hS => ?_)
              obtain ⟨v18, v19, v20, v21, g22⟩ := u
              have hP : va_P E.1 vwCl [xModel h_mm a_mm (upd (upd (upd (upd (upd (upd (upd (upd (upd (upd (upd (upd mm 0 (0 : Int32)) 6 v4) 7 v5) 8 v6) 9 v7) 10 v8) 11 v9) 12 v10) 17 v18) 18 v19) 19 v20) 20 v21), xI E (a_mm 5) 60 bt, xI E (a_mm 14) 6 g22] H := hP
              have hD : va_D A [xModel h_mm a_mm (upd (upd (upd (upd (upd (upd (upd (upd (upd (upd (upd (upd mm 0 (0 : Int32)) 6 v4) 7 v5) 8 v6) 9 v7) 10 v8) 11 v9) 12 v10) 17 v18) 18 v19) 19 v20) 20 v21), xI E (a_mm 5) 60 bt, xI E (a_mm 14) 6 g22] := hD
              have hw : F_X10_placeOf (upd (upd (upd (upd (upd (upd (upd (upd (upd (upd (upd (upd mm 0 (0 : Int32)) 6 v4) 7 v5) 8 v6) 9 v7) 10 v8) 11 v9) 12 v10) 17 s_mm_17_53) 18 s_mm_18_53) 19 s_mm_19_53) 20 s_mm_20_53) bt g_rn_53 n ((z + x6_53) - (z + x6_53) / (10000 : Int32) * (10000 : Int32)) = (r17, v18, v19, v20, v21, g22) := hw
              rw [hw] at hτ53
              have hτ53 : τ53 = F_X10_span_k70 x6_53 x5_53 x4_53 r17 v18 v19 v20 v21 g22 := hτ53
              unfold F_X10_span_k70 at hτ53
              refine lv_istore (lv' := [(7, .int r17), (6, .int x6_53), (5, .int x5_53), (4, .int x4_53), (0, .ref h_mm), (1, .int n), (2, .int z), (3, .int what)]) hx hb dX10_span_73 hl (by decide) rfl (fun ls hl => ?_)
              refine lv_iload hx hb dX10_span_75 (lv_at hl 0 rfl) ?_
              refine lv_iload hx hb dX10_span_77 (lv_at hl 3 rfl) ?_
              have hJ89 : ∀ (y0_89 : Int32) (H : Heap) (locs : List Loc) (ls : Array Slot), τ53 = F_X10_span_j89 x6_53 x5_53 r17 v18 v19 v20 v21 g22 y0_89 → va_P E.1 vwCl [xModel h_mm a_mm (upd (upd (upd (upd (upd (upd (upd (upd (upd (upd (upd (upd mm 0 (0 : Int32)) 6 v4) 7 v5) 8 v6) 9 v7) 10 v8) 11 v9) 12 v10) 17 v18) 18 v19) 19 v20) 20 v21), xI E (a_mm 5) 60 bt, xI E (a_mm 14) 6 g22] H → va_D A [xModel h_mm a_mm (upd (upd (upd (upd (upd (upd (upd (upd (upd (upd (upd (upd mm 0 (0 : Int32)) 6 v4) 7 v5) 8 v6) 9 v7) 10 v8) 11 v9) 12 v10) 17 v18) 18 v19) 19 v20) 20 v21), xI E (a_mm 5) 60 bt, xI E (a_mm 14) 6 g22] → va_S A s.heap H locs → lv_has ls 8 [(7, .int r17), (6, .int x6_53), (5, .int x5_53), (4, .int x4_53), (0, .ref h_mm), (1, .int n), (2, .int z), (3, .int what)] → W p l e ({ frames := 5, cells := 0, slots := 0, locals := 117 } : Room) s m ([.ref h_mm, .int n, .int z, .int what] : List Value).toArray below meth c H locs 0 0 Q (F0 m 89 ls [.int y0_89]) := by
                intro y0_89 H locs ls hτ53 hP hD hS hl
                unfold F_X10_span_j89 at hτ53
                refine lv_istore (lv' := [(4, .int y0_89), (7, .int r17), (6, .int x6_53), (5, .int x5_53), (0, .ref h_mm), (1, .int n), (2, .int z), (3, .int what)]) hx hb dX10_span_89 hl (by decide) rfl (fun ls hl => ?_)
                refine lv_iload hx hb dX10_span_91 (lv_at hl 1 rfl) ?_
                refine lv_iload hx hb dX10_span_93 (lv_at hl 3 rfl) ?_
                have hJ105 : ∀ (y0_105 : Int32) (H : Heap) (locs : List Loc) (ls : Array Slot), τ53 = F_X10_span_j105 x6_53 v18 v19 v20 v21 g22 y0_89 y0_105 → va_P E.1 vwCl [xModel h_mm a_mm (upd (upd (upd (upd (upd (upd (upd (upd (upd (upd (upd (upd mm 0 (0 : Int32)) 6 v4) 7 v5) 8 v6) 9 v7) 10 v8) 11 v9) 12 v10) 17 v18) 18 v19) 19 v20) 20 v21), xI E (a_mm 5) 60 bt, xI E (a_mm 14) 6 g22] H → va_D A [xModel h_mm a_mm (upd (upd (upd (upd (upd (upd (upd (upd (upd (upd (upd (upd mm 0 (0 : Int32)) 6 v4) 7 v5) 8 v6) 9 v7) 10 v8) 11 v9) 12 v10) 17 v18) 18 v19) 19 v20) 20 v21), xI E (a_mm 5) 60 bt, xI E (a_mm 14) 6 g22] → va_S A s.heap H locs → lv_has ls 8 [(4, .int y0_89), (7, .int r17), (6, .int x6_53), (5, .int x5_53), (0, .ref h_mm), (1, .int n), (2, .int z), (3, .int what)] → W p l e ({ frames := 5, cells := 0, slots := 0, locals := 117 } : Room) s m ([.ref h_mm, .int n, .int z, .int what] : List Value).toArray below meth c H locs 0 0 Q (F0 m 105 ls [.int y0_105]) := by
                  intro y0_105 H locs ls hτ53 hP hD hS hl
                  unfold F_X10_span_j105 at hτ53
                  refine lv_istore (lv' := [(5, .int y0_105), (4, .int y0_89), (7, .int r17), (6, .int x6_53), (0, .ref h_mm), (1, .int n), (2, .int z), (3, .int what)]) hx hb dX10_span_105 hl (by decide) rfl (fun ls hl => ?_)
                  refine lv_iinc (v := (x6_53 + (1 : Int32))) (lv' := [(6, .int (x6_53 + (1 : Int32))), (5, .int y0_105), (4, .int y0_89), (7, .int r17), (0, .ref h_mm), (1, .int n), (2, .int z), (3, .int what)]) hx hb dX10_span_107 hl (k := 3) rfl rfl (by decide) rfl (fun ls hl => ?_)
                  refine lv_goto (tgt := 53) hx hb dX10_span_110 (by decide) ?_
                  have hσ53 : σ53 = F_X10_span_l53 mm bt n z v4 v5 v6 v7 v8 v9 v10 n_53 (x6_53 + (1 : Int32)) y0_105 y0_89 v18 v19 v20 v21 g22 := by subst hτ53; exact hσ53
                  exact ih (x6_53 + (1 : Int32)) y0_105 y0_89 v18 v19 v20 v21 g22 _ _ _ (cnt_lt c57 hM) hP hD hS (lv_sub hl [0, 1, 2, 4, 5, 6, 7] rfl) (fun ox6_53 ox5_53 ox4_53 os_mm_17_53 os_mm_18_53 os_mm_19_53 os_mm_20_53 og_rn_53 H locs ls he => hK ox6_53 ox5_53 ox4_53 os_mm_17_53 os_mm_18_53 os_mm_19_53 os_mm_20_53 og_rn_53 H locs ls (hσ053.trans (hσ53.trans he)))
                refine lv_icmp_le (tgt := 103) hx hb dX10_span_95 (by decide) (fun c95 => ?_) (fun c95 => ?_)
                · rw [if_pos c95] at hτ53
                  refine lv_iload hx hb dX10_span_103 (lv_at hl 3 rfl) ?_
                  exact hJ105 x5_53 _ _ _ hτ53 hP hD hS (lv_sub hl [0, 1, 2, 3, 4, 5, 6, 7] rfl)
                · rw [if_neg c95] at hτ53
                  refine lv_iload hx hb dX10_span_98 (lv_at hl 1 rfl) ?_
                  refine lv_goto (tgt := 105) hx hb dX10_span_100 (by decide) ?_
                  exact hJ105 r17 _ _ _ hτ53 hP hD hS (lv_sub hl [0, 1, 2, 3, 4, 5, 6, 7] rfl)
              refine lv_icmp_ge (tgt := 87) hx hb dX10_span_79 (by decide) (fun c79 => ?_) (fun c79 => ?_)
              · rw [if_pos c79] at hτ53
                refine lv_iload hx hb dX10_span_87 (lv_at hl 3 rfl) ?_
                exact hJ89 x4_53 _ _ _ hτ53 hP hD hS (lv_sub hl [0, 1, 2, 3, 4, 5, 6, 7] rfl)
              · rw [if_neg c79] at hτ53
                refine lv_iload hx hb dX10_span_82 (lv_at hl 0 rfl) ?_
                refine lv_goto (tgt := 89) hx hb dX10_span_84 (by decide) ?_
                exact hJ89 r17 _ _ _ hτ53 hP hD hS (lv_sub hl [0, 1, 2, 3, 4, 5, 6, 7] rfl)
        refine hL53 (9) (1 : Int32) r11 r11 v12 v13 v14 v15 g16 _ _ _ (by decide) hP hD hS (lv_sub hl [0, 1, 2, 3, 4, 5, 6] rfl) ?_
        intro bx6_53 bx5_53 bx4_53 bs_mm_17_53 bs_mm_18_53 bs_mm_19_53 bs_mm_20_53 bg_rn_53 H locs ls he hP hD hS hl
        rw [he] at hρ
        have hρ : ρ = F_X10_span_x53 what v4 v5 v6 v7 v8 v9 v10 bx5_53 bx4_53 bs_mm_17_53 bs_mm_18_53 bs_mm_19_53 bs_mm_20_53 bg_rn_53 := hρ
        unfold F_X10_span_x53 at hρ
        refine lv_iload_n hx hb dX10_span_113 rfl (lv_at hl 6 rfl) ?_
        refine lv_if_ne (tgt := 122) hx hb dX10_span_114 (by decide) (fun c114 => ?_) (fun c114 => ?_)
        · rw [if_neg c114] at hρ
          refine lv_iload hx hb dX10_span_122 (lv_at hl 1 rfl) ?_
          exact hq bx5_53 ((0 : Int32), v4, v5, v6, v7, v8, v9, v10, bs_mm_17_53, bs_mm_18_53, bs_mm_19_53, bs_mm_20_53, bg_rn_53) _ _ _ _ dX10_span_124 rfl (hρ0.trans hρ) hP hD hS
        · rw [if_pos c114] at hρ
          refine lv_iload hx hb dX10_span_117 (lv_at hl 2 rfl) ?_
          refine lv_goto (tgt := 124) hx hb dX10_span_119 (by decide) ?_
          exact hq bx4_53 ((0 : Int32), v4, v5, v6, v7, v8, v9, v10, bs_mm_17_53, bs_mm_18_53, bs_mm_19_53, bs_mm_20_53, bg_rn_53) _ _ _ _ dX10_span_124 rfl (hρ0.trans hρ) hP hD hS
      · rw [if_pos c29] at hρ
        refine lv_iconst (v := (-1 : Int32)) hx hb dX10_span_32 (by decide) ?_
        exact hq (-1 : Int32) ((0 : Int32), (mm 6), (mm 7), (mm 8), (mm 9), (mm 10), (mm 11), (mm 12), (mm 17), (mm 18), (mm 19), (mm 20), rn) _ _ _ _ dX10_span_33 rfl (hρ0.trans hρ) hP hD hS
def F_X10_two_k30 (v2 : Int32) (v3 : Int32) (v4 : Int32) (v5 : Int32) (v6 : Int32) (v7 : Int32) (v8 : Int32) (v9 : Int32) (v10 : Int32) (v11 : Int32) (v12 : Int32) (g13 : Nat → Int32) : Int32 × Int32 × Int32 × Int32 × Int32 × Int32 × Int32 × Int32 × Int32 × Int32 × Int32 × Int32 × Int32 × (Nat → Int32) := ((g13 2), (0 : Int32), v2, v3, v4, v5, v6, v7, v8, v9, v10, v11, v12, g13)
def F_X10_two_k19 (mm : Nat → Int32) (bt : Nat → Int32) (rn : Nat → Int32) (n : Int32) (v2 : Int32) (v3 : Int32) (v4 : Int32) (v5 : Int32) (v6 : Int32) (v7 : Int32) (v8 : Int32) : Int32 × Int32 × Int32 × Int32 × Int32 × Int32 × Int32 × Int32 × Int32 × Int32 × Int32 × Int32 × Int32 × (Nat → Int32) := (match F_X10_runs (upd (upd (upd (upd (upd (upd (upd (upd mm 0 (0 : Int32)) 6 v2) 7 v3) 8 v4) 9 v5) 10 v6) 11 v7) 12 v8) bt rn n (-1 : Int32) (1200 : Int32) (1 : Int32) (1 : Int32) with | (v9, v10, v11, v12, g13) => F_X10_two_k30 v2 v3 v4 v5 v6 v7 v8 v9 v10 v11 v12 g13)
def F_X10_two (mm : Nat → Int32) (bt : Nat → Int32) (rn : Nat → Int32) (n : Int32) : Int32 × Int32 × Int32 × Int32 × Int32 × Int32 × Int32 × Int32 × Int32 × Int32 × Int32 × Int32 × Int32 × (Nat → Int32) := (if (F_X10_in n (1 : Int32) (400 : Int32)) = (0 : Int32) then ((-1 : Int32), (0 : Int32), (mm 6), (mm 7), (mm 8), (mm 9), (mm 10), (mm 11), (mm 12), (mm 17), (mm 18), (mm 19), (mm 20), rn) else (match F_X10_asItIs bt with | (v2, v3, v4, v5, v6, v7, v8) => F_X10_two_k19 mm bt rn n v2 v3 v4 v5 v6 v7 v8))
theorem iX10_two_X10 : ∀ w ∈ wsX100, w ∈ wsX10_two := fun _ h => List.mem_cons_of_mem _ (List.mem_append_right _ h)
set_option maxHeartbeats 4000000 in
set_option maxRecDepth 100000 in
theorem c_X10_two (l : Launch) (E : wV) (h_mm : Nat) (a_mm : Nat → Nat) (mm : Nat → Int32) (bt : Nat → Int32) (rn : Nat → Int32) (n : Int32) (hB : btOK bt) : MetI l yX10_two wsX10_two ({ frames := 4, cells := 0, slots := 0, locals := 95 } : Room) E ([.ref h_mm, .int n] : List Value) [xModel h_mm a_mm mm, xI E (a_mm 5) 60 bt, xI E (a_mm 14) 6 rn] (fun (r : Int32) (u : Int32 × Int32 × Int32 × Int32 × Int32 × Int32 × Int32 × Int32 × Int32 × Int32 × Int32 × Int32 × (Nat → Int32)) => F_X10_two mm bt rn n = (r, u)) (fun (u : Int32 × Int32 × Int32 × Int32 × Int32 × Int32 × Int32 × Int32 × Int32 × Int32 × Int32 × Int32 × (Nat → Int32)) => [xModel h_mm a_mm (upd (upd (upd (upd (upd (upd (upd (upd (upd (upd (upd (upd mm 0 u.1) 6 u.2.1) 7 u.2.2.1) 8 u.2.2.2.1) 9 u.2.2.2.2.1) 10 u.2.2.2.2.2.1) 11 u.2.2.2.2.2.2.1) 12 u.2.2.2.2.2.2.2.1) 17 u.2.2.2.2.2.2.2.2.1) 18 u.2.2.2.2.2.2.2.2.2.1) 19 u.2.2.2.2.2.2.2.2.2.2.1) 20 u.2.2.2.2.2.2.2.2.2.2.2.1), xI E (a_mm 5) 60 bt, xI E (a_mm 14) 6 u.2.2.2.2.2.2.2.2.2.2.2.2]) := by
  refine MetI.of (cc := cX10_two) (maxL := 2) (own := RX10) (by decide) rfl rfl (Nat.le_of_ble_eq_true rfl) ?_
  intro p e s m below meth c A Q ls cx hP hD hS hl hq
  obtain ⟨hx, hb, hml, hown, hts, hE, hA⟩ := id cx
  have hl : lv_has ls 2 [(0, .ref h_mm), (1, .int n)] := hl
  have hP : va_P E.1 vwCl [xModel h_mm a_mm mm, xI E (a_mm 5) 60 bt, xI E (a_mm 14) 6 rn] s.heap := hP
  obtain ⟨ρ, hρ0⟩ : ∃ ρ, F_X10_two mm bt rn n = ρ := ⟨_, rfl⟩
  have hρ := hρ0.symm
  unfold F_X10_two at hρ
  refine lv_aload_n hx hb dX10_two_0 rfl (lv_at hl 0 rfl) ?_
  refine lv_iconst (v := (0 : Int32)) hx hb dX10_two_1 (by decide) ?_
  refine va_put (D := E.1) (ci := 10) (v := .int (0 : Int32)) (ty := .int) (C := RX10) (T := TX10) (N := 27) hx hb hts iX10_two_X10 tyX10 tyX10_ok nmX10 hown hE.1 hP hD hS 0 rfl rfl 0 (by decide) (hts (.fieldLink RX10 41 "BandBoatModel" "thrown" "I") (List.mem_of_getElem? (i := 1) rfl)) (fun _ h9 => h9) rfl (by decide +kernel) rfl rfl (Nat.le_of_ble_eq_true rfl) dX10_two_2 (fun H locs hP hD hS => ?_)
  have hP : va_P E.1 vwCl [xModel h_mm a_mm (upd mm 0 (0 : Int32)), xI E (a_mm 5) 60 bt, xI E (a_mm 14) 6 rn] H := hP
  have hD : va_D A [xModel h_mm a_mm (upd mm 0 (0 : Int32)), xI E (a_mm 5) 60 bt, xI E (a_mm 14) 6 rn] := hD
  refine lv_iload_n hx hb dX10_two_5 rfl (lv_at hl 1 rfl) ?_
  refine lv_iconst (v := (1 : Int32)) hx hb dX10_two_6 (by decide) ?_
  refine lv_sipush (v := (400 : Int32)) hx hb dX10_two_7 (by decide) ?_
  refine kI (wc := []) (wr := [xModel h_mm a_mm (upd mm 0 (0 : Int32)), xI E (a_mm 5) 60 bt, xI E (a_mm 14) 6 rn]) (wc' := (fun (_ : Unit) => [])) (wn := (fun (_ : Unit) => [xModel h_mm a_mm (upd mm 0 (0 : Int32)), xI E (a_mm 5) 60 bt, xI E (a_mm 14) 6 rn])) (isC := []) (isR := [0, 1, 2]) (is2 := [0, 1, 2]) cx hP hD hS ⟨rfl, rfl, by decide, by decide, by decide, by decide, fun _ => rfl⟩ (rS (As := [.int n, .int (1 : Int32), .int (400 : Int32)]) (rest := []) cx (c_X10_in l E n (1 : Int32) (400 : Int32) _) (va_cwS 3 hts gX10_two_X10_in rfl rfl rfl (by decide +kernel) ⟨Nat.le_of_ble_eq_true rfl, Nat.le_of_ble_eq_true rfl⟩) rfl hl.1 rfl (Nat.le_of_ble_eq_true rfl) dX10_two_10 ⟨Nat.zero_le _, Nat.zero_le _⟩) (fun r1 u H locs hw hP hD hS => ?_)
  subst hw
  refine lv_if_ne (tgt := 18) hx hb dX10_two_13 (by decide) (fun c13 => ?_) (fun c13 => ?_)
  · rw [if_neg c13] at hρ
    refine lv_aload_n hx hb dX10_two_18 rfl (lv_at hl 0 rfl) ?_
    refine kV (wc := [xModel h_mm a_mm (upd mm 0 (0 : Int32)), xI E (a_mm 5) 60 bt]) (wr := [xI E (a_mm 14) 6 rn]) (wc' := (fun (u : Int32 × Int32 × Int32 × Int32 × Int32 × Int32 × Int32) => [xModel h_mm a_mm (upd (upd (upd (upd (upd (upd (upd (upd mm 0 (0 : Int32)) 6 u.1) 7 u.2.1) 8 u.2.2.1) 9 u.2.2.2.1) 10 u.2.2.2.2.1) 11 u.2.2.2.2.2.1) 12 u.2.2.2.2.2.2), xI E (a_mm 5) 60 bt])) (wn := (fun (u : Int32 × Int32 × Int32 × Int32 × Int32 × Int32 × Int32) => [xModel h_mm a_mm (upd (upd (upd (upd (upd (upd (upd (upd mm 0 (0 : Int32)) 6 u.1) 7 u.2.1) 8 u.2.2.1) 9 u.2.2.2.1) 10 u.2.2.2.2.1) 11 u.2.2.2.2.2.1) 12 u.2.2.2.2.2.2), xI E (a_mm 5) 60 bt, xI E (a_mm 14) 6 rn])) (isC := [0, 1]) (isR := [2]) (is2 := [1, 2, 0]) cx hP hD hS ⟨rfl, rfl, by decide, by decide, by decide, by decide, fun _ => rfl⟩ (rV (As := []) (rest := []) (C := RX10) (q0 := 0) (ci := 10) cx (c_X10_asItIs l E h_mm a_mm (upd mm 0 (0 : Int32)) bt (hB) _) (cwV 0 hts gX10_two_X10_asItIs rfl rfl rfl (by decide +kernel) ⟨Nat.le_of_ble_eq_true rfl, Nat.le_of_ble_eq_true rfl⟩) rfl rfl rfl rfl hl.1 rfl (Nat.le_of_ble_eq_true rfl) dX10_two_19 ⟨Nat.zero_le _, Nat.zero_le _⟩) (fun u H locs hw hP hD hS => ?_)
    obtain ⟨hw, hn19⟩ := hw
    obtain ⟨v2, v3, v4, v5, v6, v7, v8⟩ := u
    have hn19 : (v5) = (bt 17) ∧ (v6) = (bt 18) ∧ (v7) = (bt 19) := hn19
    have hP : va_P E.1 vwCl [xModel h_mm a_mm (upd (upd (upd (upd (upd (upd (upd (upd mm 0 (0 : Int32)) 6 v2) 7 v3) 8 v4) 9 v5) 10 v6) 11 v7) 12 v8), xI E (a_mm 5) 60 bt, xI E (a_mm 14) 6 rn] H := hP
    have hD : va_D A [xModel h_mm a_mm (upd (upd (upd (upd (upd (upd (upd (upd mm 0 (0 : Int32)) 6 v2) 7 v3) 8 v4) 9 v5) 10 v6) 11 v7) 12 v8), xI E (a_mm 5) 60 bt, xI E (a_mm 14) 6 rn] := hD
    have hw : F_X10_asItIs bt = (v2, v3, v4, v5, v6, v7, v8) := hw
    rw [hw] at hρ
    have hρ : ρ = F_X10_two_k19 mm bt rn n v2 v3 v4 v5 v6 v7 v8 := hρ
    unfold F_X10_two_k19 at hρ
    refine lv_aload_n hx hb dX10_two_22 rfl (lv_at hl 0 rfl) ?_
    refine lv_iload_n hx hb dX10_two_23 rfl (lv_at hl 1 rfl) ?_
    refine lv_iconst (v := (-1 : Int32)) hx hb dX10_two_24 (by decide) ?_
    refine lv_sipush (v := (1200 : Int32)) hx hb dX10_two_25 (by decide) ?_
    refine lv_iconst (v := (1 : Int32)) hx hb dX10_two_28 (by decide) ?_
    refine lv_iconst (v := (1 : Int32)) hx hb dX10_two_29 (by decide) ?_
    refine kV (wc := [xModel h_mm a_mm (upd (upd (upd (upd (upd (upd (upd (upd mm 0 (0 : Int32)) 6 v2) 7 v3) 8 v4) 9 v5) 10 v6) 11 v7) 12 v8), xI E (a_mm 5) 60 bt, xI E (a_mm 14) 6 rn]) (wr := []) (wc' := (fun (u : Int32 × Int32 × Int32 × Int32 × (Nat → Int32)) => [xModel h_mm a_mm (upd (upd (upd (upd (upd (upd (upd (upd (upd (upd (upd (upd mm 0 (0 : Int32)) 6 v2) 7 v3) 8 v4) 9 v5) 10 v6) 11 v7) 12 v8) 17 u.1) 18 u.2.1) 19 u.2.2.1) 20 u.2.2.2.1), xI E (a_mm 5) 60 bt, xI E (a_mm 14) 6 u.2.2.2.2])) (wn := (fun (u : Int32 × Int32 × Int32 × Int32 × (Nat → Int32)) => [xModel h_mm a_mm (upd (upd (upd (upd (upd (upd (upd (upd (upd (upd (upd (upd mm 0 (0 : Int32)) 6 v2) 7 v3) 8 v4) 9 v5) 10 v6) 11 v7) 12 v8) 17 u.1) 18 u.2.1) 19 u.2.2.1) 20 u.2.2.2.1), xI E (a_mm 5) 60 bt, xI E (a_mm 14) 6 u.2.2.2.2])) (isC := [0, 1, 2]) (isR := []) (is2 := [0, 1, 2]) cx hP hD hS ⟨rfl, rfl, by decide, by decide, by decide, by decide, fun _ => rfl⟩ (rV (As := [.int n, .int (-1 : Int32), .int (1200 : Int32), .int (1 : Int32), .int (1 : Int32)]) (rest := []) (C := RX10) (q0 := 0) (ci := 10) cx (c_X10_runs l E h_mm a_mm (upd (upd (upd (upd (upd (upd (upd (upd mm 0 (0 : Int32)) 6 v2) 7 v3) 8 v4) 9 v5) 10 v6) 11 v7) 12 v8) bt rn n (-1 : Int32) (1200 : Int32) (1 : Int32) (1 : Int32) (hB) (mmOK_of hn19 hB) _) (cwV 5 hts gX10_two_X10_runs rfl rfl rfl (by decide +kernel) ⟨Nat.le_of_ble_eq_true rfl, Nat.le_of_ble_eq_true rfl⟩) rfl rfl rfl rfl hl.1 rfl (Nat.le_of_ble_eq_true rfl) dX10_two_30 ⟨Nat.zero_le _, Nat.zero_le _⟩) (fun u H locs hw hP hD hS => ?_)
    obtain ⟨v9, v10, v11, v12, g13⟩ := u
    have hP : va_P E.1 vwCl [xModel h_mm a_mm (upd (upd (upd (upd (upd (upd (upd (upd (upd (upd (upd (upd mm 0 (0 : Int32)) 6 v2) 7 v3) 8 v4) 9 v5) 10 v6) 11 v7) 12 v8) 17 v9) 18 v10) 19 v11) 20 v12), xI E (a_mm 5) 60 bt, xI E (a_mm 14) 6 g13] H := hP
    have hD : va_D A [xModel h_mm a_mm (upd (upd (upd (upd (upd (upd (upd (upd (upd (upd (upd (upd mm 0 (0 : Int32)) 6 v2) 7 v3) 8 v4) 9 v5) 10 v6) 11 v7) 12 v8) 17 v9) 18 v10) 19 v11) 20 v12), xI E (a_mm 5) 60 bt, xI E (a_mm 14) 6 g13] := hD
    have hw : F_X10_runs (upd (upd (upd (upd (upd (upd (upd (upd mm 0 (0 : Int32)) 6 v2) 7 v3) 8 v4) 9 v5) 10 v6) 11 v7) 12 v8) bt rn n (-1 : Int32) (1200 : Int32) (1 : Int32) (1 : Int32) = (v9, v10, v11, v12, g13) := hw
    rw [hw] at hρ
    have hρ : ρ = F_X10_two_k30 v2 v3 v4 v5 v6 v7 v8 v9 v10 v11 v12 g13 := hρ
    unfold F_X10_two_k30 at hρ
    refine lv_aload_n hx hb dX10_two_33 rfl (lv_at hl 0 rfl) ?_
    refine va_get (D := E.1) (ci := 10) (v := .ref (a_mm 14)) (C := RX10) (T := TX10) (N := 27) hx hb hts iX10_two_X10 hown hE.1 hP 0 rfl rfl 14 (by decide) (hts (.fieldLink RX10 19 "BandBoatModel" "run" "[I") (List.mem_of_getElem? (i := 2) rfl)) (fun _ h9 => h9) rfl dX10_two_34 ?_
    refine lv_iconst (v := (2 : Int32)) hx hb dX10_two_37 (by decide) ?_
    refine ar_ild (k := 2) (v := (g13 2)) hx hb hE hP 2 rfl (by unfold vp_in; decide) rfl rfl dX10_two_38 ?_
    exact hq (g13 2) ((0 : Int32), v2, v3, v4, v5, v6, v7, v8, v9, v10, v11, v12, g13) _ _ _ _ dX10_two_39 rfl (hρ0.trans hρ) hP hD hS
  · rw [if_pos c13] at hρ
    refine lv_iconst (v := (-1 : Int32)) hx hb dX10_two_16 (by decide) ?_
    exact hq (-1 : Int32) ((0 : Int32), (mm 6), (mm 7), (mm 8), (mm 9), (mm 10), (mm 11), (mm 12), (mm 17), (mm 18), (mm 19), (mm 20), rn) _ _ _ _ dX10_two_17 rfl (hρ0.trans hρ) hP hD hS
