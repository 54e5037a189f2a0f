def F_X5_take_k122 (re_stuffNumbers : Nat → Int32) (r2 : Int32) (g3 : Nat → Int32) : Int32 × (Nat → Int32) × (Nat → Int32) := (r2, g3, re_stuffNumbers)
def F_X5_take_k132 (re_rig : Nat → Int32) (re_stuffNumbers : Nat → Int32) (r5 : Int32) (v6 : Int32) (v7 : Int32) (v8 : Int32) : Int32 × (Nat → Int32) × (Nat → Int32) := (r5, (upd (upd (upd re_rig 10 v6) 11 v7) 12 v8), re_stuffNumbers)
def F_X5_take_k127 (re_rig : Nat → Int32) (re_stuffNumbers : Nat → Int32) (r9 : Int32) (v10 : Int32) (v11 : Int32) : Int32 × (Nat → Int32) × (Nat → Int32) := (r9, (upd (upd re_rig 8 v10) 9 v11), re_stuffNumbers)
def F_X5_take_k117 (re_rig : Nat → Int32) (r12 : Int32) (v13 : Int32) (g14 : Nat → Int32) : Int32 × (Nat → Int32) × (Nat → Int32) := (r12, (upd re_rig 0 v13), g14)
def F_X5_take (re_rig : Nat → Int32) (re_stuffNumbers : Nat → Int32) (re_numbers : Nat → Int32) (letter : Int32) : Int32 × (Nat → Int32) × (Nat → Int32) := (if letter = (97 : Int32) then ((F_X9_within (re_numbers 0) (0 : Int32) (60 : Int32)), (upd re_rig 15 (re_numbers 0)), re_stuffNumbers) else (if letter = (98 : Int32) then (match F_X5_takeBand re_rig re_stuffNumbers re_numbers with | (r2, g3) => F_X5_take_k122 re_stuffNumbers r2 g3) else (if letter = (99 : Int32) then ((F_X9_within (re_numbers 0) (0 : Int32) (30 : Int32)), (upd re_rig 14 (re_numbers 0)), re_stuffNumbers) else (if letter = (100 : Int32) then ((0 : Int32), re_rig, re_stuffNumbers) else (if letter = (101 : Int32) then ((0 : Int32), re_rig, re_stuffNumbers) else (if letter = (102 : Int32) then ((0 : Int32), re_rig, re_stuffNumbers) else (if letter = (103 : Int32) then ((0 : Int32), re_rig, re_stuffNumbers) else (if letter = (104 : Int32) then (match F_X5_takeHull re_numbers with | (r5, v6, v7, v8) => F_X5_take_k132 re_rig re_stuffNumbers r5 v6 v7 v8) else (if letter = (105 : Int32) then ((0 : Int32), re_rig, re_stuffNumbers) else (if letter = (106 : Int32) then ((0 : Int32), re_rig, re_stuffNumbers) else (if letter = (107 : Int32) then ((0 : Int32), re_rig, re_stuffNumbers) else (if letter = (108 : Int32) then ((0 : Int32), re_rig, re_stuffNumbers) else (if letter = (109 : Int32) then ((0 : Int32), re_rig, re_stuffNumbers) else (if letter = (110 : Int32) then ((0 : Int32), re_rig, re_stuffNumbers) else (if letter = (111 : Int32) then ((0 : Int32), re_rig, re_stuffNumbers) else (if letter = (112 : Int32) then (match F_X5_takeBlade re_numbers with | (r9, v10, v11) => F_X5_take_k127 re_rig re_stuffNumbers r9 v10 v11) else (if letter = (113 : Int32) then (match F_X5_takeStuff re_rig re_stuffNumbers re_numbers with | (r12, v13, g14) => F_X5_take_k117 re_rig r12 v13 g14) else (if letter = (114 : Int32) then ((F_X9_within (re_numbers 0) (0 : Int32) (20 : Int32)), (upd re_rig 13 (re_numbers 0)), re_stuffNumbers) else (if letter = (115 : Int32) then ((0 : Int32), re_rig, re_stuffNumbers) else (if letter = (116 : Int32) then ((0 : Int32), re_rig, re_stuffNumbers) else (if letter = (117 : Int32) then ((0 : Int32), re_rig, re_stuffNumbers) else (if letter = (118 : Int32) then ((0 : Int32), re_rig, re_stuffNumbers) else (if letter = (119 : Int32) then ((F_X9_within (re_numbers 0) (0 : Int32) (9 : Int32)), (upd re_rig 16 (re_numbers 0)), re_stuffNumbers) else ((0 : Int32), re_rig, re_stuffNumbers))))))))))))))))))))))))
theorem iX5_take_X5 : ∀ w ∈ wsX50, w ∈ wsX5_take := fun _ h => List.mem_cons_of_mem _ (List.mem_append_left _ (List.mem_append_right _ h))
theorem iX5_take_X6 : ∀ w ∈ wsX60, w ∈ wsX5_take := fun _ h => List.mem_cons_of_mem _ (List.mem_append_right _ h)
set_option maxHeartbeats 4000000 in
set_option maxRecDepth 100000 in
theorem c_X5_take (l : Launch) (E : wV) (h_re : Nat) (a_re : Nat → Nat) (re_rig : Nat → Int32) (re_stuffNumbers : Nat → Int32) (re_numbers : Nat → Int32) (letter : Int32) (hz0 : (re_rig 1) = 0 ∨ (re_rig 1) = 1) : MetI l yX5_take wsX5_take ({ frames := 2, cells := 0, slots := 0, locals := 61 } : Room) E ([.ref h_re, .int letter] : List Value) [xReader h_re a_re, xRig (a_re 0) re_rig, xI E (a_re 1) 16 re_stuffNumbers, xI E (a_re 2) 4 re_numbers] (fun (r : Int32) (u : (Nat → Int32) × (Nat → Int32)) => F_X5_take re_rig re_stuffNumbers re_numbers letter = (r, u) ∧ (((u.1 1)) = 0 ∨ ((u.1 1)) = 1)) (fun (u : (Nat → Int32) × (Nat → Int32)) => [xReader h_re a_re, xRig (a_re 0) u.1, xI E (a_re 1) 16 u.2, xI E (a_re 2) 4 re_numbers]) := by
  refine MetI.of (cc := cX5_take) (maxL := 3) (own := RX5) (by decide) rfl rfl (Nat.le_of_ble_eq_true rfl) ?_
  intro p e s m below meth c A Q ls cx hP hD hS hl hq
  obtain ⟨hx, hb, hml, hown, hts, hE, hA⟩ := id cx
  have hl : lv_has ls 3 [(0, .ref h_re), (1, .int letter)] := hl
  have hP : va_P E.1 vwCl [xReader h_re a_re, xRig (a_re 0) re_rig, xI E (a_re 1) 16 re_stuffNumbers, xI E (a_re 2) 4 re_numbers] s.heap := hP
  obtain ⟨ρ, hρ0⟩ : ∃ ρ, F_X5_take re_rig re_stuffNumbers re_numbers letter = ρ := ⟨_, rfl⟩
  have hρ := hρ0.symm
  unfold F_X5_take at hρ
  refine lv_aload_n hx hb dX5_take_0 rfl (lv_at hl 0 rfl) ?_
  refine va_get (D := E.1) (ci := 5) (v := .ref (a_re 2)) (C := RX5) (T := TX5) (N := 3) hx hb hts iX5_take_X5 hown hE.1 hP 0 rfl rfl 2 (by decide) (hts (.fieldLink RX5 22 "BandBoat$Reader" "numbers" "[I") (List.mem_of_getElem? (i := 1) rfl)) (fun _ h9 => h9) rfl dX5_take_1 ?_
  refine lv_iconst (v := (0 : Int32)) hx hb dX5_take_4 (by decide) ?_
  refine ar_ild (k := 0) (v := (re_numbers 0)) hx hb hE hP 3 rfl (by unfold vp_in; decide) rfl rfl dX5_take_5 ?_
  refine lv_istore_n (lv' := [(2, .int (re_numbers 0)), (0, .ref h_re), (1, .int letter)]) hx hb dX5_take_6 rfl hl (by decide) rfl (fun ls hl => ?_)
  refine lv_iload_n hx hb dX5_take_7 rfl (lv_at hl 2 rfl) ?_
  by_cases c8_0 : letter = (97 : Int32)
  · rw [if_pos c8_0] at hρ
    refine lv_tableIn (tgt := 168) hx hb dX5_take_8 (by rw [c8_0]; decide) (by rw [c8_0]; decide) (by rw [c8_0]; rfl) (by decide) ?_
    refine lv_aload_n hx hb dX5_take_168 rfl (lv_at hl 1 rfl) ?_
    refine va_get (D := E.1) (ci := 5) (v := .ref (a_re 0)) (C := RX5) (T := TX5) (N := 3) hx hb hts iX5_take_X5 hown hE.1 hP 0 rfl rfl 0 (by decide) (hts (.fieldLink RX5 12 "BandBoat$Reader" "rig" "LBandBoat$Rig;") (List.mem_of_getElem? (i := 2) rfl)) (fun _ h9 => h9) rfl dX5_take_169 ?_
    refine lv_iload_n hx hb dX5_take_172 rfl (lv_at hl 0 rfl) ?_
    refine va_putN (D := E.1) (ci := 6) (v := .int (re_numbers 0)) (ty := .int) (C := RX6) (T := TX6) (N := 17) hx hb hts iX5_take_X6 tyX6 tyX6_ok nmX6 hown hE.1 hP hD hS 1 rfl rfl 15 (by decide) (hE.n 40 rfl) (fun _ h9 => h9) rfl (by decide +kernel) rfl rfl (Nat.le_of_ble_eq_true rfl) dX5_take_173 (fun H locs hP hD hS => ?_)
    have hP : va_P E.1 vwCl [xReader h_re a_re, xRig (a_re 0) (upd re_rig 15 (re_numbers 0)), xI E (a_re 1) 16 re_stuffNumbers, xI E (a_re 2) 4 re_numbers] H := hP
    have hD : va_D A [xReader h_re a_re, xRig (a_re 0) (upd re_rig 15 (re_numbers 0)), xI E (a_re 1) 16 re_stuffNumbers, xI E (a_re 2) 4 re_numbers] := hD
    refine lv_iload_n hx hb dX5_take_176 rfl (lv_at hl 0 rfl) ?_
    refine lv_iconst (v := (0 : Int32)) hx hb dX5_take_177 (by decide) ?_
    refine lv_bipush (v := (60 : Int32)) hx hb dX5_take_178 (by decide) ?_
    refine kI (wc := []) (wr := [xReader h_re a_re, xRig (a_re 0) (upd re_rig 15 (re_numbers 0)), xI E (a_re 1) 16 re_stuffNumbers, xI E (a_re 2) 4 re_numbers]) (wc' := (fun (_ : Unit) => [])) (wn := (fun (_ : Unit) => [xReader h_re a_re, xRig (a_re 0) (upd re_rig 15 (re_numbers 0)), xI E (a_re 1) 16 re_stuffNumbers, xI E (a_re 2) 4 re_numbers])) (isC := []) (isR := [0, 1, 2, 3]) (is2 := [0, 1, 2, 3]) cx hP hD hS ⟨rfl, rfl, by decide, by decide, by decide, by decide, fun _ => rfl⟩ (rSN (As := [.int (re_numbers 0), .int (0 : Int32), .int (60 : Int32)]) (rest := []) cx (c_X9_within l E (re_numbers 0) (0 : Int32) (60 : Int32) _) (va_cnB 3 hts gX5_take_X9_within_n53 rfl rfl rfl (hE.nw 83 rfl) (hts (.initialized RX9) (List.mem_of_getElem? (i := 14) rfl)) (by decide +kernel) ⟨Nat.le_of_ble_eq_true rfl, Nat.le_of_ble_eq_true rfl⟩) (hts (.static yX9_within) (List.mem_of_getElem? (i := 13) rfl)) rfl hl.1 rfl (Nat.le_of_ble_eq_true rfl) dX5_take_180 ⟨Nat.zero_le _, Nat.zero_le _⟩) (fun r1 u H locs hw hP hD hS => ?_)
    subst hw
    exact hq (F_X9_within (re_numbers 0) (0 : Int32) (60 : Int32)) ((upd re_rig 15 (re_numbers 0)), re_stuffNumbers) _ _ _ _ dX5_take_183 (nar_z (F_X9_within_b _ _ _)) ⟨(hρ0.trans hρ), show ((re_rig 1)) = 0 ∨ ((re_rig 1)) = 1 from hz0⟩ hP hD hS
  · rw [if_neg c8_0] at hρ
    by_cases c8_1 : letter = (98 : Int32)
    · rw [if_pos c8_1] at hρ
      refine lv_tableIn (tgt := 121) hx hb dX5_take_8 (by rw [c8_1]; decide) (by rw [c8_1]; decide) (by rw [c8_1]; rfl) (by decide) ?_
      refine lv_aload_n hx hb dX5_take_121 rfl (lv_at hl 1 rfl) ?_
      refine kI (wc := [xReader h_re a_re, xRig (a_re 0) re_rig, xI E (a_re 1) 16 re_stuffNumbers, xI E (a_re 2) 4 re_numbers]) (wr := []) (wc' := (fun (u : (Nat → Int32)) => [xReader h_re a_re, xRig (a_re 0) u, xI E (a_re 1) 16 re_stuffNumbers, xI E (a_re 2) 4 re_numbers])) (wn := (fun (u : (Nat → Int32)) => [xReader h_re a_re, xRig (a_re 0) u, xI E (a_re 1) 16 re_stuffNumbers, xI E (a_re 2) 4 re_numbers])) (isC := [0, 1, 2, 3]) (isR := []) (is2 := [0, 1, 2, 3]) cx hP hD hS ⟨rfl, rfl, by decide, by decide, by decide, by decide, fun _ => rfl⟩ (rV (As := []) (rest := []) (C := RX5) (q0 := 0) (ci := 5) cx (c_X5_takeBand l E h_re a_re re_rig re_stuffNumbers re_numbers (hz0) _) (cwV 0 hts gX5_take_X5_takeBand rfl rfl rfl (by decide +kernel) ⟨Nat.le_of_ble_eq_true rfl, Nat.le_of_ble_eq_true rfl⟩) rfl rfl rfl rfl hl.1 rfl (Nat.le_of_ble_eq_true rfl) dX5_take_122 ⟨Nat.zero_le _, Nat.zero_le _⟩) (fun r2 u H locs hw hP hD hS => ?_)
      obtain ⟨hw, hn122⟩ := hw
      obtain ⟨g3, rfl⟩ : ∃ z, z = u := ⟨_, rfl⟩
      have hn122 : ((g3 1)) = 0 ∨ ((g3 1)) = 1 := hn122
      have hP : va_P E.1 vwCl [xReader h_re a_re, xRig (a_re 0) g3, xI E (a_re 1) 16 re_stuffNumbers, xI E (a_re 2) 4 re_numbers] H := hP
      have hD : va_D A [xReader h_re a_re, xRig (a_re 0) g3, xI E (a_re 1) 16 re_stuffNumbers, xI E (a_re 2) 4 re_numbers] := hD
      have hw : F_X5_takeBand re_rig re_stuffNumbers re_numbers = (r2, g3) := hw
      rw [hw] at hρ
      have hρ : ρ = F_X5_take_k122 re_stuffNumbers r2 g3 := hρ
      unfold F_X5_take_k122 at hρ
      exact hq r2 (g3, re_stuffNumbers) _ _ _ _ dX5_take_125 (nar_z (by have h := F_X5_takeBand_b re_rig re_stuffNumbers re_numbers; rw [hw] at h; exact h)) ⟨(hρ0.trans hρ), show ((g3 1)) = 0 ∨ ((g3 1)) = 1 from hn122⟩ hP hD hS
    · rw [if_neg c8_1] at hρ
      by_cases c8_2 : letter = (99 : Int32)
      · rw [if_pos c8_2] at hρ
        refine lv_tableIn (tgt := 152) hx hb dX5_take_8 (by rw [c8_2]; decide) (by rw [c8_2]; decide) (by rw [c8_2]; rfl) (by decide) ?_
        refine lv_aload_n hx hb dX5_take_152 rfl (lv_at hl 1 rfl) ?_
        refine va_get (D := E.1) (ci := 5) (v := .ref (a_re 0)) (C := RX5) (T := TX5) (N := 3) hx hb hts iX5_take_X5 hown hE.1 hP 0 rfl rfl 0 (by decide) (hts (.fieldLink RX5 12 "BandBoat$Reader" "rig" "LBandBoat$Rig;") (List.mem_of_getElem? (i := 2) rfl)) (fun _ h9 => h9) rfl dX5_take_153 ?_
        refine lv_iload_n hx hb dX5_take_156 rfl (lv_at hl 0 rfl) ?_
        refine va_putN (D := E.1) (ci := 6) (v := .int (re_numbers 0)) (ty := .int) (C := RX6) (T := TX6) (N := 17) hx hb hts iX5_take_X6 tyX6 tyX6_ok nmX6 hown hE.1 hP hD hS 1 rfl rfl 14 (by decide) (hE.n 38 rfl) (fun _ h9 => h9) rfl (by decide +kernel) rfl rfl (Nat.le_of_ble_eq_true rfl) dX5_take_157 (fun H locs hP hD hS => ?_)
        have hP : va_P E.1 vwCl [xReader h_re a_re, xRig (a_re 0) (upd re_rig 14 (re_numbers 0)), xI E (a_re 1) 16 re_stuffNumbers, xI E (a_re 2) 4 re_numbers] H := hP
        have hD : va_D A [xReader h_re a_re, xRig (a_re 0) (upd re_rig 14 (re_numbers 0)), xI E (a_re 1) 16 re_stuffNumbers, xI E (a_re 2) 4 re_numbers] := hD
        refine lv_iload_n hx hb dX5_take_160 rfl (lv_at hl 0 rfl) ?_
        refine lv_iconst (v := (0 : Int32)) hx hb dX5_take_161 (by decide) ?_
        refine lv_bipush (v := (30 : Int32)) hx hb dX5_take_162 (by decide) ?_
        refine kI (wc := []) (wr := [xReader h_re a_re, xRig (a_re 0) (upd re_rig 14 (re_numbers 0)), xI E (a_re 1) 16 re_stuffNumbers, xI E (a_re 2) 4 re_numbers]) (wc' := (fun (_ : Unit) => [])) (wn := (fun (_ : Unit) => [xReader h_re a_re, xRig (a_re 0) (upd re_rig 14 (re_numbers 0)), xI E (a_re 1) 16 re_stuffNumbers, xI E (a_re 2) 4 re_numbers])) (isC := []) (isR := [0, 1, 2, 3]) (is2 := [0, 1, 2, 3]) cx hP hD hS ⟨rfl, rfl, by decide, by decide, by decide, by decide, fun _ => rfl⟩ (rSN (As := [.int (re_numbers 0), .int (0 : Int32), .int (30 : Int32)]) (rest := []) cx (c_X9_within l E (re_numbers 0) (0 : Int32) (30 : Int32) _) (va_cnB 3 hts gX5_take_X9_within_n53 rfl rfl rfl (hE.nw 83 rfl) (hts (.initialized RX9) (List.mem_of_getElem? (i := 14) rfl)) (by decide +kernel) ⟨Nat.le_of_ble_eq_true rfl, Nat.le_of_ble_eq_true rfl⟩) (hts (.static yX9_within) (List.mem_of_getElem? (i := 13) rfl)) rfl hl.1 rfl (Nat.le_of_ble_eq_true rfl) dX5_take_164 ⟨Nat.zero_le _, Nat.zero_le _⟩) (fun r4 u H locs hw hP hD hS => ?_)
        subst hw
        exact hq (F_X9_within (re_numbers 0) (0 : Int32) (30 : Int32)) ((upd re_rig 14 (re_numbers 0)), re_stuffNumbers) _ _ _ _ dX5_take_167 (nar_z (F_X9_within_b _ _ _)) ⟨(hρ0.trans hρ), show ((re_rig 1)) = 0 ∨ ((re_rig 1)) = 1 from hz0⟩ hP hD hS
      · rw [if_neg c8_2] at hρ
        by_cases c8_3 : letter = (100 : Int32)
        · rw [if_pos c8_3] at hρ
          refine lv_tableIn (tgt := 200) hx hb dX5_take_8 (by rw [c8_3]; decide) (by rw [c8_3]; decide) (by rw [c8_3]; rfl) (by decide) ?_
          refine lv_iconst (v := (0 : Int32)) hx hb dX5_take_200 (by decide) ?_
          exact hq (0 : Int32) (re_rig, re_stuffNumbers) _ _ _ _ dX5_take_201 rfl ⟨(hρ0.trans hρ), show ((re_rig 1)) = 0 ∨ ((re_rig 1)) = 1 from hz0⟩ hP hD hS
        · rw [if_neg c8_3] at hρ
          by_cases c8_4 : letter = (101 : Int32)
          · rw [if_pos c8_4] at hρ
            refine lv_tableIn (tgt := 200) hx hb dX5_take_8 (by rw [c8_4]; decide) (by rw [c8_4]; decide) (by rw [c8_4]; rfl) (by decide) ?_
            refine lv_iconst (v := (0 : Int32)) hx hb dX5_take_200 (by decide) ?_
            exact hq (0 : Int32) (re_rig, re_stuffNumbers) _ _ _ _ dX5_take_201 rfl ⟨(hρ0.trans hρ), show ((re_rig 1)) = 0 ∨ ((re_rig 1)) = 1 from hz0⟩ hP hD hS
          · rw [if_neg c8_4] at hρ
            by_cases c8_5 : letter = (102 : Int32)
            · rw [if_pos c8_5] at hρ
              refine lv_tableIn (tgt := 200) hx hb dX5_take_8 (by rw [c8_5]; decide) (by rw [c8_5]; decide) (by rw [c8_5]; rfl) (by decide) ?_
              refine lv_iconst (v := (0 : Int32)) hx hb dX5_take_200 (by decide) ?_
              exact hq (0 : Int32) (re_rig, re_stuffNumbers) _ _ _ _ dX5_take_201 rfl ⟨(hρ0.trans hρ), show ((re_rig 1)) = 0 ∨ ((re_rig 1)) = 1 from hz0⟩ hP hD hS
            · rw [if_neg c8_5] at hρ
              by_cases c8_6 : letter = (103 : Int32)
              · rw [if_pos c8_6] at hρ
                refine lv_tableIn (tgt := 200) hx hb dX5_take_8 (by rw [c8_6]; decide) (by rw [c8_6]; decide) (by rw [c8_6]; rfl) (by decide) ?_
                refine lv_iconst (v := (0 : Int32)) hx hb dX5_take_200 (by decide) ?_
                exact hq (0 : Int32) (re_rig, re_stuffNumbers) _ _ _ _ dX5_take_201 rfl ⟨(hρ0.trans hρ), show ((re_rig 1)) = 0 ∨ ((re_rig 1)) = 1 from hz0⟩ hP hD hS
              · rw [if_neg c8_6] at hρ
                by_cases c8_7 : letter = (104 : Int32)
                · rw [if_pos c8_7] at hρ
                  refine lv_tableIn (tgt := 131) hx hb dX5_take_8 (by rw [c8_7]; decide) (by rw [c8_7]; decide) (by rw [c8_7]; rfl) (by decide) ?_
                  refine lv_aload_n hx hb dX5_take_131 rfl (lv_at hl 1 rfl) ?_
                  refine kI (wc := [xReader h_re a_re, xRig (a_re 0) re_rig, xI E (a_re 1) 16 re_stuffNumbers, xI E (a_re 2) 4 re_numbers]) (wr := []) (wc' := (fun (u : Int32 × Int32 × Int32) => [xReader h_re a_re, xRig (a_re 0) (upd (upd (upd re_rig 10 u.1) 11 u.2.1) 12 u.2.2), xI E (a_re 1) 16 re_stuffNumbers, xI E (a_re 2) 4 re_numbers])) (wn := (fun (u : Int32 × Int32 × Int32) => [xReader h_re a_re, xRig (a_re 0) (upd (upd (upd re_rig 10 u.1) 11 u.2.1) 12 u.2.2), xI E (a_re 1) 16 re_stuffNumbers, xI E (a_re 2) 4 re_numbers])) (isC := [0, 1, 2, 3]) (isR := []) (is2 := [0, 1, 2, 3]) cx hP hD hS ⟨rfl, rfl, by decide, by decide, by decide, by decide, fun _ => rfl⟩ (rV (As := []) (rest := []) (C := RX5) (q0 := 0) (ci := 5) cx (c_X5_takeHull l E h_re a_re re_rig re_stuffNumbers re_numbers _) (cwV 0 hts gX5_take_X5_takeHull rfl rfl rfl (by decide +kernel) ⟨Nat.le_of_ble_eq_true rfl, Nat.le_of_ble_eq_true rfl⟩) rfl rfl rfl rfl hl.1 rfl (Nat.le_of_ble_eq_true rfl) dX5_take_132 ⟨Nat.zero_le _, Nat.zero_le _⟩) (fun r5 u H locs hw hP hD hS => ?_)
                  obtain ⟨v6, v7, v8⟩ := u
                  have hP : va_P E.1 vwCl [xReader h_re a_re, xRig (a_re 0) (upd (upd (upd re_rig 10 v6) 11 v7) 12 v8), xI E (a_re 1) 16 re_stuffNumbers, xI E (a_re 2) 4 re_numbers] H := hP
                  have hD : va_D A [xReader h_re a_re, xRig (a_re 0) (upd (upd (upd re_rig 10 v6) 11 v7) 12 v8), xI E (a_re 1) 16 re_stuffNumbers, xI E (a_re 2) 4 re_numbers] := hD
                  have hw : F_X5_takeHull re_numbers = (r5, v6, v7, v8) := hw
                  rw [hw] at hρ
                  have hρ : ρ = F_X5_take_k132 re_rig re_stuffNumbers r5 v6 v7 v8 := hρ
                  unfold F_X5_take_k132 at hρ
                  exact hq r5 ((upd (upd (upd re_rig 10 v6) 11 v7) 12 v8), re_stuffNumbers) _ _ _ _ dX5_take_135 (nar_z (by have h := F_X5_takeHull_b re_numbers; rw [hw] at h; exact h)) ⟨(hρ0.trans hρ), show ((re_rig 1)) = 0 ∨ ((re_rig 1)) = 1 from hz0⟩ hP hD hS
                · rw [if_neg c8_7] at hρ
                  by_cases c8_8 : letter = (105 : Int32)
                  · rw [if_pos c8_8] at hρ
                    refine lv_tableIn (tgt := 200) hx hb dX5_take_8 (by rw [c8_8]; decide) (by rw [c8_8]; decide) (by rw [c8_8]; rfl) (by decide) ?_
                    refine lv_iconst (v := (0 : Int32)) hx hb dX5_take_200 (by decide) ?_
                    exact hq (0 : Int32) (re_rig, re_stuffNumbers) _ _ _ _ dX5_take_201 rfl ⟨(hρ0.trans hρ), show ((re_rig 1)) = 0 ∨ ((re_rig 1)) = 1 from hz0⟩ hP hD hS
                  · rw [if_neg c8_8] at hρ
                    by_cases c8_9 : letter = (106 : Int32)
                    · rw [if_pos c8_9] at hρ
                      refine lv_tableIn (tgt := 200) hx hb dX5_take_8 (by rw [c8_9]; decide) (by rw [c8_9]; decide) (by rw [c8_9]; rfl) (by decide) ?_
                      refine lv_iconst (v := (0 : Int32)) hx hb dX5_take_200 (by decide) ?_
                      exact hq (0 : Int32) (re_rig, re_stuffNumbers) _ _ _ _ dX5_take_201 rfl ⟨(hρ0.trans hρ), show ((re_rig 1)) = 0 ∨ ((re_rig 1)) = 1 from hz0⟩ hP hD hS
                    · rw [if_neg c8_9] at hρ
                      by_cases c8_10 : letter = (107 : Int32)
                      · rw [if_pos c8_10] at hρ
                        refine lv_tableIn (tgt := 200) hx hb dX5_take_8 (by rw [c8_10]; decide) (by rw [c8_10]; decide) (by rw [c8_10]; rfl) (by decide) ?_
                        refine lv_iconst (v := (0 : Int32)) hx hb dX5_take_200 (by decide) ?_
                        exact hq (0 : Int32) (re_rig, re_stuffNumbers) _ _ _ _ dX5_take_201 rfl ⟨(hρ0.trans hρ), show ((re_rig 1)) = 0 ∨ ((re_rig 1)) = 1 from hz0⟩ hP hD hS
                      · rw [if_neg c8_10] at hρ
                        by_cases c8_11 : letter = (108 : Int32)
                        · rw [if_pos c8_11] at hρ
                          refine lv_tableIn (tgt := 200) hx hb dX5_take_8 (by rw [c8_11]; decide) (by rw [c8_11]; decide) (by rw [c8_11]; rfl) (by decide) ?_
                          refine lv_iconst (v := (0 : Int32)) hx hb dX5_take_200 (by decide) ?_
                          exact hq (0 : Int32) (re_rig, re_stuffNumbers) _ _ _ _ dX5_take_201 rfl ⟨(hρ0.trans hρ), show ((re_rig 1)) = 0 ∨ ((re_rig 1)) = 1 from hz0⟩ hP hD hS
                        · rw [if_neg c8_11] at hρ
                          by_cases c8_12 : letter = (109 : Int32)
                          · rw [if_pos c8_12] at hρ
                            refine lv_tableIn (tgt := 200) hx hb dX5_take_8 (by rw [c8_12]; decide) (by rw [c8_12]; decide) (by rw [c8_12]; rfl) (by decide) ?_
                            refine lv_iconst (v := (0 : Int32)) hx hb dX5_take_200 (by decide) ?_
                            exact hq (0 : Int32) (re_rig, re_stuffNumbers) _ _ _ _ dX5_take_201 rfl ⟨(hρ0.trans hρ), show ((re_rig 1)) = 0 ∨ ((re_rig 1)) = 1 from hz0⟩ hP hD hS
                          · rw [if_neg c8_12] at hρ
                            by_cases c8_13 : letter = (110 : Int32)
                            · rw [if_pos c8_13] at hρ
                              refine lv_tableIn (tgt := 200) hx hb dX5_take_8 (by rw [c8_13]; decide) (by rw [c8_13]; decide) (by rw [c8_13]; rfl) (by decide) ?_
                              refine lv_iconst (v := (0 : Int32)) hx hb dX5_take_200 (by decide) ?_
                              exact hq (0 : Int32) (re_rig, re_stuffNumbers) _ _ _ _ dX5_take_201 rfl ⟨(hρ0.trans hρ), show ((re_rig 1)) = 0 ∨ ((re_rig 1)) = 1 from hz0⟩ hP hD hS
                            · rw [if_neg c8_13] at hρ
                              by_cases c8_14 : letter = (111 : Int32)
                              · rw [if_pos c8_14] at hρ
                                refine lv_tableIn (tgt := 200) hx hb dX5_take_8 (by rw [c8_14]; decide) (by rw [c8_14]; decide) (by rw [c8_14]; rfl) (by decide) ?_
                                refine lv_iconst (v := (0 : Int32)) hx hb dX5_take_200 (by decide) ?_
                                exact hq (0 : Int32) (re_rig, re_stuffNumbers) _ _ _ _ dX5_take_201 rfl ⟨(hρ0.trans hρ), show ((re_rig 1)) = 0 ∨ ((re_rig 1)) = 1 from hz0⟩ hP hD hS
                              · rw [if_neg c8_14] at hρ
                                by_cases c8_15 : letter = (112 : Int32)
                                · rw [if_pos c8_15] at hρ
                                  refine lv_tableIn (tgt := 126) hx hb dX5_take_8 (by rw [c8_15]; decide) (by rw [c8_15]; decide) (by rw [c8_15]; rfl) (by decide) ?_
                                  refine lv_aload_n hx hb dX5_take_126 rfl (lv_at hl 1 rfl) ?_
                                  refine kI (wc := [xReader h_re a_re, xRig (a_re 0) re_rig, xI E (a_re 1) 16 re_stuffNumbers, xI E (a_re 2) 4 re_numbers]) (wr := []) (wc' := (fun (u : Int32 × Int32) => [xReader h_re a_re, xRig (a_re 0) (upd (upd re_rig 8 u.1) 9 u.2), xI E (a_re 1) 16 re_stuffNumbers, xI E (a_re 2) 4 re_numbers])) (wn := (fun (u : Int32 × Int32) => [xReader h_re a_re, xRig (a_re 0) (upd (upd re_rig 8 u.1) 9 u.2), xI E (a_re 1) 16 re_stuffNumbers, xI E (a_re 2) 4 re_numbers])) (isC := [0, 1, 2, 3]) (isR := []) (is2 := [0, 1, 2, 3]) cx hP hD hS ⟨rfl, rfl, by decide, by decide, by decide, by decide, fun _ => rfl⟩ (rV (As := []) (rest := []) (C := RX5) (q0 := 0) (ci := 5) cx (c_X5_takeBlade l E h_re a_re re_rig re_stuffNumbers re_numbers _) (cwV 0 hts gX5_take_X5_takeBlade rfl rfl rfl (by decide +kernel) ⟨Nat.le_of_ble_eq_true rfl, Nat.le_of_ble_eq_true rfl⟩) rfl rfl rfl rfl hl.1 rfl (Nat.le_of_ble_eq_true rfl) dX5_take_127 ⟨Nat.zero_le _, Nat.zero_le _⟩) (fun r9 u H locs hw hP hD hS => ?_)
                                  obtain ⟨v10, v11⟩ := u
                                  have hP : va_P E.1 vwCl [xReader h_re a_re, xRig (a_re 0) (upd (upd re_rig 8 v10) 9 v11), xI E (a_re 1) 16 re_stuffNumbers, xI E (a_re 2) 4 re_numbers] H := hP
                                  have hD : va_D A [xReader h_re a_re, xRig (a_re 0) (upd (upd re_rig 8 v10) 9 v11), xI E (a_re 1) 16 re_stuffNumbers, xI E (a_re 2) 4 re_numbers] := hD
                                  have hw : F_X5_takeBlade re_numbers = (r9, v10, v11) := hw
                                  rw [hw] at hρ
                                  have hρ : ρ = F_X5_take_k127 re_rig re_stuffNumbers r9 v10 v11 := hρ
                                  unfold F_X5_take_k127 at hρ
                                  exact hq r9 ((upd (upd re_rig 8 v10) 9 v11), re_stuffNumbers) _ _ _ _ dX5_take_130 (nar_z (by have h := F_X5_takeBlade_b re_numbers; rw [hw] at h; exact h)) ⟨(hρ0.trans hρ), show ((re_rig 1)) = 0 ∨ ((re_rig 1)) = 1 from hz0⟩ hP hD hS
                                · rw [if_neg c8_15] at hρ
                                  by_cases c8_16 : letter = (113 : Int32)
                                  · rw [if_pos c8_16] at hρ
                                    refine lv_tableIn (tgt := 116) hx hb dX5_take_8 (by rw [c8_16]; decide) (by rw [c8_16]; decide) (by rw [c8_16]; rfl) (by decide) ?_
                                    refine lv_aload_n hx hb dX5_take_116 rfl (lv_at hl 1 rfl) ?_
                                    refine kI (wc := [xReader h_re a_re, xRig (a_re 0) re_rig, xI E (a_re 1) 16 re_stuffNumbers, xI E (a_re 2) 4 re_numbers]) (wr := []) (wc' := (fun (u : Int32 × (Nat → Int32)) => [xReader h_re a_re, xRig (a_re 0) (upd re_rig 0 u.1), xI E (a_re 1) 16 u.2, xI E (a_re 2) 4 re_numbers])) (wn := (fun (u : Int32 × (Nat → Int32)) => [xReader h_re a_re, xRig (a_re 0) (upd re_rig 0 u.1), xI E (a_re 1) 16 u.2, xI E (a_re 2) 4 re_numbers])) (isC := [0, 1, 2, 3]) (isR := []) (is2 := [0, 1, 2, 3]) cx hP hD hS ⟨rfl, rfl, by decide, by decide, by decide, by decide, fun _ => rfl⟩ (rV (As := []) (rest := []) (C := RX5) (q0 := 0) (ci := 5) cx (c_X5_takeStuff l E h_re a_re re_rig re_stuffNumbers re_numbers _) (cwV 0 hts gX5_take_X5_takeStuff rfl rfl rfl (by decide +kernel) ⟨Nat.le_of_ble_eq_true rfl, Nat.le_of_ble_eq_true rfl⟩) rfl rfl rfl rfl hl.1 rfl (Nat.le_of_ble_eq_true rfl) dX5_take_117 ⟨Nat.zero_le _, Nat.zero_le _⟩) (fun r12 u H locs hw hP hD hS => ?_)
                                    obtain ⟨v13, g14⟩ := u
                                    have hP : va_P E.1 vwCl [xReader h_re a_re, xRig (a_re 0) (upd re_rig 0 v13), xI E (a_re 1) 16 g14, xI E (a_re 2) 4 re_numbers] H := hP
                                    have hD : va_D A [xReader h_re a_re, xRig (a_re 0) (upd re_rig 0 v13), xI E (a_re 1) 16 g14, xI E (a_re 2) 4 re_numbers] := hD
                                    have hw : F_X5_takeStuff re_rig re_stuffNumbers re_numbers = (r12, v13, g14) := hw
                                    rw [hw] at hρ
                                    have hρ : ρ = F_X5_take_k117 re_rig r12 v13 g14 := hρ
                                    unfold F_X5_take_k117 at hρ
                                    exact hq r12 ((upd re_rig 0 v13), g14) _ _ _ _ dX5_take_120 (nar_z (by have h := F_X5_takeStuff_b re_rig re_stuffNumbers re_numbers; rw [hw] at h; exact h)) ⟨(hρ0.trans hρ), show ((re_rig 1)) = 0 ∨ ((re_rig 1)) = 1 from hz0⟩ hP hD hS
                                  · rw [if_neg c8_16] at hρ
                                    by_cases c8_17 : letter = (114 : Int32)
                                    · rw [if_pos c8_17] at hρ
                                      refine lv_tableIn (tgt := 136) hx hb dX5_take_8 (by rw [c8_17]; decide) (by rw [c8_17]; decide) (by rw [c8_17]; rfl) (by decide) ?_
                                      refine lv_aload_n hx hb dX5_take_136 rfl (lv_at hl 1 rfl) ?_
                                      refine va_get (D := E.1) (ci := 5) (v := .ref (a_re 0)) (C := RX5) (T := TX5) (N := 3) hx hb hts iX5_take_X5 hown hE.1 hP 0 rfl rfl 0 (by decide) (hts (.fieldLink RX5 12 "BandBoat$Reader" "rig" "LBandBoat$Rig;") (List.mem_of_getElem? (i := 2) rfl)) (fun _ h9 => h9) rfl dX5_take_137 ?_
                                      refine lv_iload_n hx hb dX5_take_140 rfl (lv_at hl 0 rfl) ?_
                                      refine va_putN (D := E.1) (ci := 6) (v := .int (re_numbers 0)) (ty := .int) (C := RX6) (T := TX6) (N := 17) hx hb hts iX5_take_X6 tyX6 tyX6_ok nmX6 hown hE.1 hP hD hS 1 rfl rfl 13 (by decide) (hE.n 35 rfl) (fun _ h9 => h9) rfl (by decide +kernel) rfl rfl (Nat.le_of_ble_eq_true rfl) dX5_take_141 (fun H locs hP hD hS => ?_)
                                      have hP : va_P E.1 vwCl [xReader h_re a_re, xRig (a_re 0) (upd re_rig 13 (re_numbers 0)), xI E (a_re 1) 16 re_stuffNumbers, xI E (a_re 2) 4 re_numbers] H := hP
                                      have hD : va_D A [xReader h_re a_re, xRig (a_re 0) (upd re_rig 13 (re_numbers 0)), xI E (a_re 1) 16 re_stuffNumbers, xI E (a_re 2) 4 re_numbers] := hD
                                      refine lv_iload_n hx hb dX5_take_144 rfl (lv_at hl 0 rfl) ?_
                                      refine lv_iconst (v := (0 : Int32)) hx hb dX5_take_145 (by decide) ?_
                                      refine lv_bipush (v := (20 : Int32)) hx hb dX5_take_146 (by decide) ?_
                                      refine kI (wc := []) (wr := [xReader h_re a_re, xRig (a_re 0) (upd re_rig 13 (re_numbers 0)), xI E (a_re 1) 16 re_stuffNumbers, xI E (a_re 2) 4 re_numbers]) (wc' := (fun (_ : Unit) => [])) (wn := (fun (_ : Unit) => [xReader h_re a_re, xRig (a_re 0) (upd re_rig 13 (re_numbers 0)), xI E (a_re 1) 16 re_stuffNumbers, xI E (a_re 2) 4 re_numbers])) (isC := []) (isR := [0, 1, 2, 3]) (is2 := [0, 1, 2, 3]) cx hP hD hS ⟨rfl, rfl, by decide, by decide, by decide, by decide, fun _ => rfl⟩ (rSN (As := [.int (re_numbers 0), .int (0 : Int32), .int (20 : Int32)]) (rest := []) cx (c_X9_within l E (re_numbers 0) (0 : Int32) (20 : Int32) _) (va_cnB 3 hts gX5_take_X9_within_n53 rfl rfl rfl (hE.nw 83 rfl) (hts (.initialized RX9) (List.mem_of_getElem? (i := 14) rfl)) (by decide +kernel) ⟨Nat.le_of_ble_eq_true rfl, Nat.le_of_ble_eq_true rfl⟩) (hts (.static yX9_within) (List.mem_of_getElem? (i := 13) rfl)) rfl hl.1 rfl (Nat.le_of_ble_eq_true rfl) dX5_take_148 ⟨Nat.zero_le _, Nat.zero_le _⟩) (fun r15 u H locs hw hP hD hS => ?_)
                                      subst hw
                                      exact hq (F_X9_within (re_numbers 0) (0 : Int32) (20 : Int32)) ((upd re_rig 13 (re_numbers 0)), re_stuffNumbers) _ _ _ _ dX5_take_151 (nar_z (F_X9_within_b _ _ _)) ⟨(hρ0.trans hρ), show ((re_rig 1)) = 0 ∨ ((re_rig 1)) = 1 from hz0⟩ hP hD hS
                                    · rw [if_neg c8_17] at hρ
                                      by_cases c8_18 : letter = (115 : Int32)
                                      · rw [if_pos c8_18] at hρ
                                        refine lv_tableIn (tgt := 200) hx hb dX5_take_8 (by rw [c8_18]; decide) (by rw [c8_18]; decide) (by rw [c8_18]; rfl) (by decide) ?_
                                        refine lv_iconst (v := (0 : Int32)) hx hb dX5_take_200 (by decide) ?_
                                        exact hq (0 : Int32) (re_rig, re_stuffNumbers) _ _ _ _ dX5_take_201 rfl ⟨(hρ0.trans hρ), show ((re_rig 1)) = 0 ∨ ((re_rig 1)) = 1 from hz0⟩ hP hD hS
                                      · rw [if_neg c8_18] at hρ
                                        by_cases c8_19 : letter = (116 : Int32)
                                        · rw [if_pos c8_19] at hρ
                                          refine lv_tableIn (tgt := 200) hx hb dX5_take_8 (by rw [c8_19]; decide) (by rw [c8_19]; decide) (by rw [c8_19]; rfl) (by decide) ?_
                                          refine lv_iconst (v := (0 : Int32)) hx hb dX5_take_200 (by decide) ?_
                                          exact hq (0 : Int32) (re_rig, re_stuffNumbers) _ _ _ _ dX5_take_201 rfl ⟨(hρ0.trans hρ), show ((re_rig 1)) = 0 ∨ ((re_rig 1)) = 1 from hz0⟩ hP hD hS
                                        · rw [if_neg c8_19] at hρ
                                          by_cases c8_20 : letter = (117 : Int32)
                                          · rw [if_pos c8_20] at hρ
                                            refine lv_tableIn (tgt := 200) hx hb dX5_take_8 (by rw [c8_20]; decide) (by rw [c8_20]; decide) (by rw [c8_20]; rfl) (by decide) ?_
                                            refine lv_iconst (v := (0 : Int32)) hx hb dX5_take_200 (by decide) ?_
                                            exact hq (0 : Int32) (re_rig, re_stuffNumbers) _ _ _ _ dX5_take_201 rfl ⟨(hρ0.trans hρ), show ((re_rig 1)) = 0 ∨ ((re_rig 1)) = 1 from hz0⟩ hP hD hS
                                          · rw [if_neg c8_20] at hρ
                                            by_cases c8_21 : letter = (118 : Int32)
                                            · rw [if_pos c8_21] at hρ
                                              refine lv_tableIn (tgt := 200) hx hb dX5_take_8 (by rw [c8_21]; decide) (by rw [c8_21]; decide) (by rw [c8_21]; rfl) (by decide) ?_
                                              refine lv_iconst (v := (0 : Int32)) hx hb dX5_take_200 (by decide) ?_
                                              exact hq (0 : Int32) (re_rig, re_stuffNumbers) _ _ _ _ dX5_take_201 rfl ⟨(hρ0.trans hρ), show ((re_rig 1)) = 0 ∨ ((re_rig 1)) = 1 from hz0⟩ hP hD hS
                                            · rw [if_neg c8_21] at hρ
                                              by_cases c8_22 : letter = (119 : Int32)
                                              · rw [if_pos c8_22] at hρ
                                                refine lv_tableIn (tgt := 184) hx hb dX5_take_8 (by rw [c8_22]; decide) (by rw [c8_22]; decide) (by rw [c8_22]; rfl) (by decide) ?_
                                                refine lv_aload_n hx hb dX5_take_184 rfl (lv_at hl 1 rfl) ?_
                                                refine va_get (D := E.1) (ci := 5) (v := .ref (a_re 0)) (C := RX5) (T := TX5) (N := 3) hx hb hts iX5_take_X5 hown hE.1 hP 0 rfl rfl 0 (by decide) (hts (.fieldLink RX5 12 "BandBoat$Reader" "rig" "LBandBoat$Rig;") (List.mem_of_getElem? (i := 2) rfl)) (fun _ h9 => h9) rfl dX5_take_185 ?_
                                                refine lv_iload_n hx hb dX5_take_188 rfl (lv_at hl 0 rfl) ?_
                                                refine va_putN (D := E.1) (ci := 6) (v := .int (re_numbers 0)) (ty := .int) (C := RX6) (T := TX6) (N := 17) hx hb hts iX5_take_X6 tyX6 tyX6_ok nmX6 hown hE.1 hP hD hS 1 rfl rfl 16 (by decide) (hE.n 44 rfl) (fun _ h9 => h9) rfl (by decide +kernel) rfl rfl (Nat.le_of_ble_eq_true rfl) dX5_take_189 (fun H locs hP hD hS => ?_)
                                                have hP : va_P E.1 vwCl [xReader h_re a_re, xRig (a_re 0) (upd re_rig 16 (re_numbers 0)), xI E (a_re 1) 16 re_stuffNumbers, xI E (a_re 2) 4 re_numbers] H := hP
                                                have hD : va_D A [xReader h_re a_re, xRig (a_re 0) (upd re_rig 16 (re_numbers 0)), xI E (a_re 1) 16 re_stuffNumbers, xI E (a_re 2) 4 re_numbers] := hD
                                                refine lv_iload_n hx hb dX5_take_192 rfl (lv_at hl 0 rfl) ?_
                                                refine lv_iconst (v := (0 : Int32)) hx hb dX5_take_193 (by decide) ?_
                                                refine lv_bipush (v := (9 : Int32)) hx hb dX5_take_194 (by decide) ?_
                                                refine kI (wc := []) (wr := [xReader h_re a_re, xRig (a_re 0) (upd re_rig 16 (re_numbers 0)), xI E (a_re 1) 16 re_stuffNumbers, xI E (a_re 2) 4 re_numbers]) (wc' := (fun (_ : Unit) => [])) (wn := (fun (_ : Unit) => [xReader h_re a_re, xRig (a_re 0) (upd re_rig 16 (re_numbers 0)), xI E (a_re 1) 16 re_stuffNumbers, xI E (a_re 2) 4 re_numbers])) (isC := []) (isR := [0, 1, 2, 3]) (is2 := [0, 1, 2, 3]) cx hP hD hS ⟨rfl, rfl, by decide, by decide, by decide, by decide, fun _ => rfl⟩ (rSN (As := [.int (re_numbers 0), .int (0 : Int32), .int (9 : Int32)]) (rest := []) cx (c_X9_within l E (re_numbers 0) (0 : Int32) (9 : Int32) _) (va_cnB 3 hts gX5_take_X9_within_n53 rfl rfl rfl (hE.nw 83 rfl) (hts (.initialized RX9) (List.mem_of_getElem? (i := 14) rfl)) (by decide +kernel) ⟨Nat.le_of_ble_eq_true rfl, Nat.le_of_ble_eq_true rfl⟩) (hts (.static yX9_within) (List.mem_of_getElem? (i := 13) rfl)) rfl hl.1 rfl (Nat.le_of_ble_eq_true rfl) dX5_take_196 ⟨Nat.zero_le _, Nat.zero_le _⟩) (fun r16 u H locs hw hP hD hS => ?_)
                                                subst hw
                                                exact hq (F_X9_within (re_numbers 0) (0 : Int32) (9 : Int32)) ((upd re_rig 16 (re_numbers 0)), re_stuffNumbers) _ _ _ _ dX5_take_199 (nar_z (F_X9_within_b _ _ _)) ⟨(hρ0.trans hρ), show ((re_rig 1)) = 0 ∨ ((re_rig 1)) = 1 from hz0⟩ hP hD hS
                                              · rw [if_neg c8_22] at hρ
                                                refine lv_tableOut (tgt := 200) hx hb dX5_take_8 (by have q0 := lv_neT c8_0 (a := 97) (by decide); have q1 := lv_neT c8_1 (a := 98) (by decide); have q2 := lv_neT c8_2 (a := 99) (by decide); have q3 := lv_neT c8_3 (a := 100) (by decide); have q4 := lv_neT c8_4 (a := 101) (by decide); have q5 := lv_neT c8_5 (a := 102) (by decide); have q6 := lv_neT c8_6 (a := 103) (by decide); have q7 := lv_neT c8_7 (a := 104) (by decide); have q8 := lv_neT c8_8 (a := 105) (by decide); have q9 := lv_neT c8_9 (a := 106) (by decide); have q10 := lv_neT c8_10 (a := 107) (by decide); have q11 := lv_neT c8_11 (a := 108) (by decide); have q12 := lv_neT c8_12 (a := 109) (by decide); have q13 := lv_neT c8_13 (a := 110) (by decide); have q14 := lv_neT c8_14 (a := 111) (by decide); have q15 := lv_neT c8_15 (a := 112) (by decide); have q16 := lv_neT c8_16 (a := 113) (by decide); have q17 := lv_neT c8_17 (a := 114) (by decide); have q18 := lv_neT c8_18 (a := 115) (by decide); have q19 := lv_neT c8_19 (a := 116) (by decide); have q20 := lv_neT c8_20 (a := 117) (by decide); have q21 := lv_neT c8_21 (a := 118) (by decide); have q22 := lv_neT c8_22 (a := 119) (by decide); omega) (by decide) ?_
                                                refine lv_iconst (v := (0 : Int32)) hx hb dX5_take_200 (by decide) ?_
                                                exact hq (0 : Int32) (re_rig, re_stuffNumbers) _ _ _ _ dX5_take_201 rfl ⟨(hρ0.trans hρ), show ((re_rig 1)) = 0 ∨ ((re_rig 1)) = 1 from hz0⟩ hP hD hS
def F_X5_numberEnd_k45 (x6_6 : Int32) (v4 : Int32) : (Int32 × Int32) ⊕ (Int32 × Int32) := Sum.inl ((x6_6 + (1 : Int32)), v4)
def F_X5_numberEnd_b6 (sc : Nat → Int32) (sc_bytes : Nat → Int32) (start : Int32) (x6_6 : Int32) (x5_6 : Int32) : (Int32 × Int32) ⊕ (Int32 × Int32) := (if (start + (3 : Int32)) ≤ x6_6 then Sum.inr (x6_6, x5_6) else (if (F_X9_within (F_X7_at sc sc_bytes x6_6) (48 : Int32) (57 : Int32)) = (0 : Int32) then Sum.inr (x6_6, x5_6) else F_X5_numberEnd_k45 x6_6 ((((10 : Int32) * x5_6) + (F_X7_at sc sc_bytes x6_6)) - (48 : Int32))))
def F_X5_numberEnd_l6 (sc : Nat → Int32) (sc_bytes : Nat → Int32) (start : Int32) : Nat → (Int32) → (Int32) → Int32 × Int32
  | 0, x6_6, x5_6 => (x6_6, x5_6)
  | n_6 + 1, x6_6, x5_6 => match F_X5_numberEnd_b6 sc sc_bytes start x6_6 x5_6 with
    | Sum.inl (c_x6_6, c_x5_6) => F_X5_numberEnd_l6 sc sc_bytes start n_6 c_x6_6 c_x5_6
    | Sum.inr r_ => r_
def F_X5_numberEnd_x6 (re_numbers : Nat → Int32) (sc : Nat → Int32) (sc_bytes : Nat → Int32) (start : Int32) (which : Int32) (sign : Int32) (bx6_6 : Int32) (bx5_6 : Int32) : Int32 × (Nat → Int32) := (if bx6_6 = start then ((-1 : Int32), re_numbers) else (if (F_X7_at sc sc_bytes bx6_6) = sign then (if (F_X9_within which (0 : Int32) ((4 : Int32) - (1 : Int32))) = (0 : Int32) then ((-1 : Int32), re_numbers) else ((bx6_6 + (1 : Int32)), (upd re_numbers (Int32.toNatClampNeg which) bx5_6))) else ((-1 : Int32), re_numbers)))
def F_X5_numberEnd (re_numbers : Nat → Int32) (sc : Nat → Int32) (sc_bytes : Nat → Int32) (start : Int32) (which : Int32) (sign : Int32) : Int32 × (Nat → Int32) := (match F_X5_numberEnd_l6 sc sc_bytes start (3) start (0 : Int32) with | (bx6_6, bx5_6) => F_X5_numberEnd_x6 re_numbers sc sc_bytes start which sign bx6_6 bx5_6)
theorem iX5_numberEnd_X5 : ∀ w ∈ wsX50, w ∈ wsX5_numberEnd := fun _ h => List.mem_cons_of_mem _ (List.mem_append_left _ (List.mem_append_right _ h))
set_option maxHeartbeats 4000000 in
set_option maxRecDepth 100000 in
theorem c_X5_numberEnd (l : Launch) (E : wV) (h_re : Nat) (h_sc : Nat) (a_re : Nat → Nat) (a_sc : Nat → Nat) (re_rig : Nat → Int32) (re_stuffNumbers : Nat → Int32) (re_numbers : Nat → Int32) (sc : Nat → Int32) (sc_bytes : Nat → Int32) (start : Int32) (which : Int32) (sign : Int32) : MetI l yX5_numberEnd wsX5_numberEnd ({ frames := 1, cells := 0, slots := 0, locals := 22 } : Room) E ([.ref h_re, .ref h_sc, .int start, .int which, .int sign] : List Value) [xReader h_re a_re, xRig (a_re 0) re_rig, xI E (a_re 1) 16 re_stuffNumbers, xI E (a_re 2) 4 re_numbers, xScript h_sc a_sc sc, xB E (a_sc 0) 300 sc_bytes] (fun (r : Int32) (u : (Nat → Int32)) => F_X5_numberEnd re_numbers sc sc_bytes start which sign = (r, u)) (fun (u : (Nat → Int32)) => [xReader h_re a_re, xRig (a_re 0) re_rig, xI E (a_re 1) 16 re_stuffNumbers, xI E (a_re 2) 4 u, xScript h_sc a_sc sc, xB E (a_sc 0) 300 sc_bytes]) := by
  refine MetI.of (cc := cX5_numberEnd) (maxL := 7) (own := RX5) (by decide) rfl rfl (Nat.le_of_ble_eq_true rfl) ?_
  intro p e s m below meth c A Q ls cx hP hD hS hl hq
  obtain ⟨hx, hb, hml, hown, hts, hE, hA⟩ := id cx
  have hl : lv_has ls 7 [(0, .ref h_re), (1, .ref h_sc), (2, .int start), (3, .int which), (4, .int sign)] := hl
  have hP : va_P E.1 vwCl [xReader h_re a_re, xRig (a_re 0) re_rig, xI E (a_re 1) 16 re_stuffNumbers, xI E (a_re 2) 4 re_numbers, xScript h_sc a_sc sc, xB E (a_sc 0) 300 sc_bytes] s.heap := hP
  obtain ⟨ρ, hρ0⟩ : ∃ ρ, F_X5_numberEnd re_numbers sc sc_bytes start which sign = ρ := ⟨_, rfl⟩
  have hρ := hρ0.symm
  unfold F_X5_numberEnd at hρ
  refine lv_iconst (v := (0 : Int32)) hx hb dX5_numberEnd_0 (by decide) ?_
  refine lv_istore (lv' := [(5, .int (0 : Int32)), (0, .ref h_re), (1, .ref h_sc), (2, .int start), (3, .int which), (4, .int sign)]) hx hb dX5_numberEnd_1 hl (by decide) rfl (fun ls hl => ?_)
  refine lv_iload_n hx hb dX5_numberEnd_3 rfl (lv_at hl 3 rfl) ?_
  refine lv_istore (lv' := [(6, .int start), (5, .int (0 : Int32)), (0, .ref h_re), (1, .ref h_sc), (2, .int start), (3, .int which), (4, .int sign)]) hx hb dX5_numberEnd_4 hl (by decide) rfl (fun ls hl => ?_)
  have hL6 : ∀ (n_6 : Nat) (x6_6 : Int32) (x5_6 : Int32) (H : Heap) (locs : List Loc) (ls : Array Slot), (((start + (3 : Int32)) : Int32).toInt ≤ (x6_6).toInt + (n_6 : Nat)) → va_P E.1 vwCl [xReader h_re a_re, xRig (a_re 0) re_rig, xI E (a_re 1) 16 re_stuffNumbers, xI E (a_re 2) 4 re_numbers, xScript h_sc a_sc sc, xB E (a_sc 0) 300 sc_bytes] H → va_D A [xReader h_re a_re, xRig (a_re 0) re_rig, xI E (a_re 1) 16 re_stuffNumbers, xI E (a_re 2) 4 re_numbers, xScript h_sc a_sc sc, xB E (a_sc 0) 300 sc_bytes] → va_S A s.heap H locs → lv_has ls 7 [(6, .int x6_6), (5, .int x5_6), (0, .ref h_re), (1, .ref h_sc), (2, .int start), (3, .int which), (4, .int sign)] → (∀ (ox6_6 : Int32) (ox5_6 : Int32) (H : Heap) (locs : List Loc) (ls : Array Slot), F_X5_numberEnd_l6 sc sc_bytes start n_6 x6_6 x5_6 = (ox6_6, ox5_6) → va_P E.1 vwCl [xReader h_re a_re, xRig (a_re 0) re_rig, xI E (a_re 1) 16 re_stuffNumbers, xI E (a_re 2) 4 re_numbers, xScript h_sc a_sc sc, xB E (a_sc 0) 300 sc_bytes] H → va_D A [xReader h_re a_re, xRig (a_re 0) re_rig, xI E (a_re 1) 16 re_stuffNumbers, xI E (a_re 2) 4 re_numbers, xScript h_sc a_sc sc, xB E (a_sc 0) 300 sc_bytes] → va_S A s.heap H locs → lv_has ls 7 [(6, .int ox6_6), (5, .int ox5_6), (0, .ref h_re), (1, .ref h_sc), (2, .int start), (3, .int which), (4, .int sign)] → W p l e ({ frames := 1, cells := 0, slots := 0, locals := 22 } : Room) s m ([.ref h_re, .ref h_sc, .int start, .int which, .int sign] : List Value).toArray below meth c H locs 0 0 Q (F0 m 53 ls [])) → W p l e ({ frames := 1, cells := 0, slots := 0, locals := 22 } : Room) s m ([.ref h_re, .ref h_sc, .int start, .int which, .int sign] : List Value).toArray below meth c H locs 0 0 Q (F0 m 6 ls []) := by
    intro n_6
    induction n_6 with
    | zero =>
      intro x6_6 x5_6 H locs ls hM hP hD hS hl hK
      have hM6 := hM
      obtain ⟨σ6, hσ06⟩ : ∃ σ, F_X5_numberEnd_l6 sc sc_bytes start 0 x6_6 x5_6 = σ := ⟨_, rfl⟩
      have hσ6 := hσ06.symm
      rw [F_X5_numberEnd_l6] at hσ6
      refine lv_iload hx hb dX5_numberEnd_6 (lv_at hl 0 rfl) ?_
      refine lv_iload_n hx hb dX5_numberEnd_8 rfl (lv_at hl 4 rfl) ?_
      refine lv_iconst (v := (3 : Int32)) hx hb dX5_numberEnd_9 (by decide) ?_
      refine lv_iadd hx hb dX5_numberEnd_10 ?_
      refine lv_icmp_ge (tgt := 53) hx hb dX5_numberEnd_11 (by decide) (fun c11 => ?_) (fun c11 => ?_)
      · exact hK x6_6 x5_6 _ _ _ (hσ06.trans hσ6) hP hD hS (lv_sub hl [0, 1, 2, 3, 4, 5, 6] rfl)
      · exact (cnt_lt0 c11 hM).elim
    | succ n_6 ih =>
      intro x6_6 x5_6 H locs ls hM hP hD hS hl hK
      have hM6 := hM
      obtain ⟨σ6, hσ06⟩ : ∃ σ, F_X5_numberEnd_l6 sc sc_bytes start (n_6 + 1) x6_6 x5_6 = σ := ⟨_, rfl⟩
      have hσ6 := hσ06.symm
      rw [F_X5_numberEnd_l6] at hσ6
      obtain ⟨τ6, hτ06⟩ : ∃ τ, F_X5_numberEnd_b6 sc sc_bytes start x6_6 x5_6 = τ := ⟨_, rfl⟩
      rw [hτ06] at hσ6
      have hτ6 := hτ06.symm
      unfold F_X5_numberEnd_b6 at hτ6
      refine lv_iload hx hb dX5_numberEnd_6 (lv_at hl 0 rfl) ?_
      refine lv_iload_n hx hb dX5_numberEnd_8 rfl (lv_at hl 4 rfl) ?_
      refine lv_iconst (v := (3 : Int32)) hx hb dX5_numberEnd_9 (by decide) ?_
      refine lv_iadd hx hb dX5_numberEnd_10 ?_
      refine lv_icmp_ge (tgt := 53) hx hb dX5_numberEnd_11 (by decide) (fun c11 => ?_) (fun c11 => ?_)
      · rw [if_pos c11] at hτ6
        have hσ6 : σ6 = (x6_6, x5_6) := by subst hτ6; exact hσ6
        exact hK x6_6 x5_6 _ _ _ (hσ06.trans hσ6) hP hD hS (lv_sub hl [0, 1, 2, 3, 4, 5, 6] rfl)
      · rw [if_neg c11] at hτ6
        refine lv_aload_n hx hb dX5_numberEnd_14 rfl (lv_at hl 3 rfl) ?_
        refine lv_iload hx hb dX5_numberEnd_15 (lv_at hl 0 rfl) ?_
        refine kI (wc := [xScript h_sc a_sc sc, xB E (a_sc 0) 300 sc_bytes]) (wr := [xReader h_re a_re, xRig (a_re 0) re_rig, xI E (a_re 1) 16 re_stuffNumbers, xI E (a_re 2) 4 re_numbers]) (wc' := (fun (_ : Unit) => [xScript h_sc a_sc sc, xB E (a_sc 0) 300 sc_bytes])) (wn := (fun (_ : Unit) => [xReader h_re a_re, xRig (a_re 0) re_rig, xI E (a_re 1) 16 re_stuffNumbers, xI E (a_re 2) 4 re_numbers, xScript h_sc a_sc sc, xB E (a_sc 0) 300 sc_bytes])) (isC := [4, 5]) (isR := [0, 1, 2, 3]) (is2 := [0, 1, 2, 3, 4, 5]) cx hP hD hS ⟨rfl, rfl, by decide, by decide, by decide, by decide, fun _ => rfl⟩ (rVN (As := [.int x6_6]) (rest := []) (C := RX7) (q0 := 0) (ci := 7) cx (c_X7_at l E h_sc a_sc sc sc_bytes x6_6 _) (va_cnB 1 hts gX5_numberEnd_X7_at_n38 rfl rfl rfl (hE.nw 82 rfl) (hts (.initialized RX7) (List.mem_of_getElem? (i := 3) rfl)) (by decide +kernel) ⟨Nat.le_of_ble_eq_true rfl, Nat.le_of_ble_eq_true rfl⟩) (hts (.instanceMethod yX7_at) (List.mem_of_getElem? (i := 2) rfl)) (hts (.selects RX7 yX7_at yX7_at) (List.mem_of_getElem? (i := 4) rfl)) rfl rfl rfl rfl hl.1 rfl (Nat.le_of_ble_eq_true rfl) dX5_numberEnd_17 ⟨Nat.zero_le _, Nat.zero_le _⟩) (fun r1 u H locs hw hP hD hS => ?_)
        subst hw
        refine lv_bipush (v := (48 : Int32)) hx hb dX5_numberEnd_20 (by decide) ?_
        refine lv_bipush (v := (57 : Int32)) hx hb dX5_numberEnd_22 (by decide) ?_
        refine kI (wc := []) (wr := [xReader h_re a_re, xRig (a_re 0) re_rig, xI E (a_re 1) 16 re_stuffNumbers, xI E (a_re 2) 4 re_numbers, xScript h_sc a_sc sc, xB E (a_sc 0) 300 sc_bytes]) (wc' := (fun (_ : Unit) => [])) (wn := (fun (_ : Unit) => [xReader h_re a_re, xRig (a_re 0) re_rig, xI E (a_re 1) 16 re_stuffNumbers, xI E (a_re 2) 4 re_numbers, xScript h_sc a_sc sc, xB E (a_sc 0) 300 sc_bytes])) (isC := []) (isR := [0, 1, 2, 3, 4, 5]) (is2 := [0, 1, 2, 3, 4, 5]) cx hP hD hS ⟨rfl, rfl, by decide, by decide, by decide, by decide, fun _ => rfl⟩ (rSN (As := [.int (F_X7_at sc sc_bytes x6_6), .int (48 : Int32), .int (57 : Int32)]) (rest := []) cx (c_X9_within l E (F_X7_at sc sc_bytes x6_6) (48 : Int32) (57 : Int32) _) (va_cnB 3 hts gX5_numberEnd_X9_within_n53 rfl rfl rfl (hE.nw 83 rfl) (hts (.initialized RX9) (List.mem_of_getElem? (i := 9) rfl)) (by decide +kernel) ⟨Nat.le_of_ble_eq_true rfl, Nat.le_of_ble_eq_true rfl⟩) (hts (.static yX9_within) (List.mem_of_getElem? (i := 8) rfl)) rfl hl.1 rfl (Nat.le_of_ble_eq_true rfl) dX5_numberEnd_24 ⟨Nat.zero_le _, Nat.zero_le _⟩) (fun r2 u H locs hw hP hD hS => ?_)
        subst hw
        refine lv_if_eq (tgt := 53) hx hb dX5_numberEnd_27 (by decide) (fun c27 => ?_) (fun c27 => ?_)
        · rw [if_pos c27] at hτ6
          have hσ6 : σ6 = (x6_6, x5_6) := by subst hτ6; exact hσ6
          exact hK x6_6 x5_6 _ _ _ (hσ06.trans hσ6) hP hD hS (lv_sub hl [0, 1, 2, 3, 4, 5, 6] rfl)
        · rw [if_neg c27] at hτ6
          refine lv_bipush (v := (10 : Int32)) hx hb dX5_numberEnd_30 (by decide) ?_
          refine lv_iload hx hb dX5_numberEnd_32 (lv_at hl 1 rfl) ?_
          refine lv_imul hx hb dX5_numberEnd_34 ?_
          refine lv_aload_n hx hb dX5_numberEnd_35 rfl (lv_at hl 3 rfl) ?_
          refine lv_iload hx hb dX5_numberEnd_36 (lv_at hl 0 rfl) ?_
          refine kI (wc := [xScript h_sc a_sc sc, xB E (a_sc 0) 300 sc_bytes]) (wr := [xReader h_re a_re, xRig (a_re 0) re_rig, xI E (a_re 1) 16 re_stuffNumbers, xI E (a_re 2) 4 re_numbers]) (wc' := (fun (_ : Unit) => [xScript h_sc a_sc sc, xB E (a_sc 0) 300 sc_bytes])) (wn := (fun (_ : Unit) => [xReader h_re a_re, xRig (a_re 0) re_rig, xI E (a_re 1) 16 re_stuffNumbers, xI E (a_re 2) 4 re_numbers, xScript h_sc a_sc sc, xB E (a_sc 0) 300 sc_bytes])) (isC := [4, 5]) (isR := [0, 1, 2, 3]) (is2 := [0, 1, 2, 3, 4, 5]) cx hP hD hS ⟨rfl, rfl, by decide, by decide, by decide, by decide, fun _ => rfl⟩ (rVN (As := [.int x6_6]) (rest := [.int ((10 : Int32) * x5_6)]) (C := RX7) (q0 := 0) (ci := 7) cx (c_X7_at l E h_sc a_sc sc sc_bytes x6_6 _) (va_cnB 1 hts gX5_numberEnd_X7_at_n38 rfl rfl rfl (hE.nw 82 rfl) (hts (.initialized RX7) (List.mem_of_getElem? (i := 3) rfl)) (by decide +kernel) ⟨Nat.le_of_ble_eq_true rfl, Nat.le_of_ble_eq_true rfl⟩) (hts (.instanceMethod yX7_at) (List.mem_of_getElem? (i := 2) rfl)) (hts (.selects RX7 yX7_at yX7_at) (List.mem_of_getElem? (i := 4) rfl)) rfl rfl rfl rfl hl.1 rfl (Nat.le_of_ble_eq_true rfl) dX5_numberEnd_38 ⟨Nat.zero_le _, Nat.zero_le _⟩) (fun r3 u H locs hw hP hD hS => ?_)
          subst hw
          refine lv_iadd hx hb dX5_numberEnd_41 ?_
          refine lv_bipush (v := (48 : Int32)) hx hb dX5_numberEnd_42 (by decide) ?_
          refine lv_isub hx hb dX5_numberEnd_44 ?_
          refine lv_topi (fun v4 ev4 => ?_)
          have hτ6 : τ6 = F_X5_numberEnd_k45 x6_6 v4 := by rw [ev4]; exact hτ6
          unfold F_X5_numberEnd_k45 at hτ6
          refine lv_istore (lv' := [(5, .int v4), (6, .int x6_6), (0, .ref h_re), (1, .ref h_sc), (2, .int start), (3, .int which), (4, .int sign)]) hx hb dX5_numberEnd_45 hl (by decide) rfl (fun ls hl => ?_)
          refine lv_iinc (v := (x6_6 + (1 : Int32))) (lv' := [(6, .int (x6_6 + (1 : Int32))), (5, .int v4), (0, .ref h_re), (1, .ref h_sc), (2, .int start), (3, .int which), (4, .int sign)]) hx hb dX5_numberEnd_47 hl (k := 1) rfl rfl (by decide) rfl (fun ls hl => ?_)
          refine lv_goto (tgt := 6) hx hb dX5_numberEnd_50 (by decide) ?_
          have hσ6 : σ6 = F_X5_numberEnd_l6 sc sc_bytes start n_6 (x6_6 + (1 : Int32)) v4 := by subst hτ6; exact hσ6
          exact ih (x6_6 + (1 : Int32)) v4 _ _ _ (cnt_lt c11 hM) hP hD hS (lv_sub hl [0, 1, 2, 3, 4, 5, 6] rfl) (fun ox6_6 ox5_6 H locs ls he => hK ox6_6 ox5_6 H locs ls (hσ06.trans (hσ6.trans he)))
  refine hL6 (3) start (0 : Int32) _ _ _ (add_le3 _) hP hD hS (lv_sub hl [0, 1, 2, 3, 4, 5, 6] rfl) ?_
  intro bx6_6 bx5_6 H locs ls he hP hD hS hl
  rw [he] at hρ
  have hρ : ρ = F_X5_numberEnd_x6 re_numbers sc sc_bytes start which sign bx6_6 bx5_6 := hρ
  unfold F_X5_numberEnd_x6 at hρ
  refine lv_iload hx hb dX5_numberEnd_53 (lv_at hl 0 rfl) ?_
  refine lv_iload_n hx hb dX5_numberEnd_55 rfl (lv_at hl 4 rfl) ?_
  refine lv_icmp_eq (tgt := 85) hx hb dX5_numberEnd_56 (by decide) (fun c56 => ?_) (fun c56 => ?_)
  · rw [if_pos c56] at hρ
    refine lv_iconst (v := (-1 : Int32)) hx hb dX5_numberEnd_85 (by decide) ?_
    exact hq (-1 : Int32) re_numbers _ _ _ _ dX5_numberEnd_86 rfl (hρ0.trans hρ) hP hD hS
  · rw [if_neg c56] at hρ
    refine lv_aload_n hx hb dX5_numberEnd_59 rfl (lv_at hl 3 rfl) ?_
    refine lv_iload hx hb dX5_numberEnd_60 (lv_at hl 0 rfl) ?_
    refine kI (wc := [xScript h_sc a_sc sc, xB E (a_sc 0) 300 sc_bytes]) (wr := [xReader h_re a_re, xRig (a_re 0) re_rig, xI E (a_re 1) 16 re_stuffNumbers, xI E (a_re 2) 4 re_numbers]) (wc' := (fun (_ : Unit) => [xScript h_sc a_sc sc, xB E (a_sc 0) 300 sc_bytes])) (wn := (fun (_ : Unit) => [xReader h_re a_re, xRig (a_re 0) re_rig, xI E (a_re 1) 16 re_stuffNumbers, xI E (a_re 2) 4 re_numbers, xScript h_sc a_sc sc, xB E (a_sc 0) 300 sc_bytes])) (isC := [4, 5]) (isR := [0, 1, 2, 3]) (is2 := [0, 1, 2, 3, 4, 5]) cx hP hD hS ⟨rfl, rfl, by decide, by decide, by decide, by decide, fun _ => rfl⟩ (rVN (As := [.int bx6_6]) (rest := []) (C := RX7) (q0 := 0) (ci := 7) cx (c_X7_at l E h_sc a_sc sc sc_bytes bx6_6 _) (va_cnB 1 hts gX5_numberEnd_X7_at_n38 rfl rfl rfl (hE.nw 82 rfl) (hts (.initialized RX7) (List.mem_of_getElem? (i := 3) rfl)) (by decide +kernel) ⟨Nat.le_of_ble_eq_true rfl, Nat.le_of_ble_eq_true rfl⟩) (hts (.instanceMethod yX7_at) (List.mem_of_getElem? (i := 2) rfl)) (hts (.selects RX7 yX7_at yX7_at) (List.mem_of_getElem? (i := 4) rfl)) rfl rfl rfl rfl hl.1 rfl (Nat.le_of_ble_eq_true rfl) dX5_numberEnd_62 ⟨Nat.zero_le _, Nat.zero_le _⟩) (fun r5 u H locs hw hP hD hS => ?_)
    subst hw
    refine lv_iload hx hb dX5_numberEnd_65 (lv_at hl 6 rfl) ?_
    refine lv_icmp_ne (tgt := 85) hx hb dX5_numberEnd_67 (by decide) (fun c67 => ?_) (fun c67 => ?_)
    · rw [if_neg c67] at hρ
      refine lv_iconst (v := (-1 : Int32)) hx hb dX5_numberEnd_85 (by decide) ?_
      exact hq (-1 : Int32) re_numbers _ _ _ _ dX5_numberEnd_86 rfl (hρ0.trans hρ) hP hD hS
    · rw [if_pos c67] at hρ
      refine lv_iload_n hx hb dX5_numberEnd_70 rfl (lv_at hl 5 rfl) ?_
      refine lv_iconst (v := (0 : Int32)) hx hb dX5_numberEnd_71 (by decide) ?_
      refine lv_aload_n hx hb dX5_numberEnd_72 rfl (lv_at hl 2 rfl) ?_
      refine va_get (D := E.1) (ci := 5) (v := .ref (a_re 2)) (C := RX5) (T := TX5) (N := 3) hx hb hts iX5_numberEnd_X5 hown hE.1 hP 0 rfl rfl 2 (by decide) (hts (.fieldLink RX5 22 "BandBoat$Reader" "numbers" "[I") (List.mem_of_getElem? (i := 1) rfl)) (fun _ h9 => h9) rfl dX5_numberEnd_73 ?_
      refine ar_len (v := (4 : Int32)) hx hb hE hP 3 rfl rfl dX5_numberEnd_76 ?_
      refine lv_iconst (v := (1 : Int32)) hx hb dX5_numberEnd_77 (by decide) ?_
      refine lv_isub hx hb dX5_numberEnd_78 ?_
      refine kI (wc := []) (wr := [xReader h_re a_re, xRig (a_re 0) re_rig, xI E (a_re 1) 16 re_stuffNumbers, xI E (a_re 2) 4 re_numbers, xScript h_sc a_sc sc, xB E (a_sc 0) 300 sc_bytes]) (wc' := (fun (_ : Unit) => [])) (wn := (fun (_ : Unit) => [xReader h_re a_re, xRig (a_re 0) re_rig, xI E (a_re 1) 16 re_stuffNumbers, xI E (a_re 2) 4 re_numbers, xScript h_sc a_sc sc, xB E (a_sc 0) 300 sc_bytes])) (isC := []) (isR := [0, 1, 2, 3, 4, 5]) (is2 := [0, 1, 2, 3, 4, 5]) cx hP hD hS ⟨rfl, rfl, by decide, by decide, by decide, by decide, fun _ => rfl⟩ (rSN (As := [.int which, .int (0 : Int32), .int ((4 : Int32) - (1 : Int32))]) (rest := []) cx (c_X9_within l E which (0 : Int32) ((4 : Int32) - (1 : Int32)) _) (va_cnB 3 hts gX5_numberEnd_X9_within_n53 rfl rfl rfl (hE.nw 83 rfl) (hts (.initialized RX9) (List.mem_of_getElem? (i := 9) rfl)) (by decide +kernel) ⟨Nat.le_of_ble_eq_true rfl, Nat.le_of_ble_eq_true rfl⟩) (hts (.static yX9_within) (List.mem_of_getElem? (i := 8) rfl)) rfl hl.1 rfl (Nat.le_of_ble_eq_true rfl) dX5_numberEnd_79 ⟨Nat.zero_le _, Nat.zero_le _⟩) (fun r6 u H locs hw hP hD hS => ?_)
      subst hw
      refine lv_if_ne (tgt := 87) hx hb dX5_numberEnd_82 (by decide) (fun c82 => ?_) (fun c82 => ?_)
      · rw [if_neg c82] at hρ
        refine lv_aload_n hx hb dX5_numberEnd_87 rfl (lv_at hl 2 rfl) ?_
        refine va_get (D := E.1) (ci := 5) (v := .ref (a_re 2)) (C := RX5) (T := TX5) (N := 3) hx hb hts iX5_numberEnd_X5 hown hE.1 hP 0 rfl rfl 2 (by decide) (hts (.fieldLink RX5 22 "BandBoat$Reader" "numbers" "[I") (List.mem_of_getElem? (i := 1) rfl)) (fun _ h9 => h9) rfl dX5_numberEnd_88 ?_
        refine lv_iload_n hx hb dX5_numberEnd_91 rfl (lv_at hl 5 rfl) ?_
        refine lv_iload hx hb dX5_numberEnd_92 (lv_at hl 1 rfl) ?_
        refine ar_ist (k := (Int32.toNatClampNeg which)) (ws' := [xReader h_re a_re, xRig (a_re 0) re_rig, xI E (a_re 1) 16 re_stuffNumbers, xI E (a_re 2) 4 (upd re_numbers (Int32.toNatClampNeg which) bx5_6), xScript h_sc a_sc sc, xB E (a_sc 0) 300 sc_bytes]) hx hb hE hP hD hS 3 rfl (F_X9_within_in c82 rfl) rfl rfl dX5_numberEnd_94 (fun H locs hP hD hS => ?_)
        refine lv_iload hx hb dX5_numberEnd_95 (lv_at hl 0 rfl) ?_
        refine lv_iconst (v := (1 : Int32)) hx hb dX5_numberEnd_97 (by decide) ?_
        refine lv_iadd hx hb dX5_numberEnd_98 ?_
        exact hq (bx6_6 + (1 : Int32)) (upd re_numbers (Int32.toNatClampNeg which) bx5_6) _ _ _ _ dX5_numberEnd_99 rfl (hρ0.trans hρ) hP hD hS
      · rw [if_pos c82] at hρ
        refine lv_iconst (v := (-1 : Int32)) hx hb dX5_numberEnd_85 (by decide) ?_
        exact hq (-1 : Int32) re_numbers _ _ _ _ dX5_numberEnd_86 rfl (hρ0.trans hρ) hP hD hS
def F_X5_itemEnd_k75 (x5_20 : Int32) (g_re_numbers_20 : Nat → Int32) (r6 : Int32) (g7 : Nat → Int32) (g8 : Nat → Int32) : Int32 × (Nat → Int32) × (Nat → Int32) × (Nat → Int32) := (if r6 = (0 : Int32) then ((-1 : Int32), g7, g8, g_re_numbers_20) else (x5_20, g7, g8, g_re_numbers_20))
def F_X5_itemEnd_x20 (re_rig : Nat → Int32) (re_stuffNumbers : Nat → Int32) (v2 : Int32) (v4 : Int32) (x5_20 : Int32) (g_re_numbers_20 : Nat → Int32) : Int32 × (Nat → Int32) × (Nat → Int32) × (Nat → Int32) := (if v4 ≤ (0 : Int32) then ((-1 : Int32), re_rig, re_stuffNumbers, g_re_numbers_20) else (match F_X5_take re_rig re_stuffNumbers g_re_numbers_20 v2 with | (r6, g7, g8) => F_X5_itemEnd_k75 x5_20 g_re_numbers_20 r6 g7 g8))
def F_X5_itemEnd_k49 (re_rig : Nat → Int32) (re_stuffNumbers : Nat → Int32) (x6_20 : Int32) (r9 : Int32) (g10 : Nat → Int32) : (Int32 × Int32 × (Nat → Int32)) ⊕ (Int32 × (Nat → Int32) × (Nat → Int32) × (Nat → Int32)) := (if r9 = (-1 : Int32) then Sum.inr ((-1 : Int32), re_rig, re_stuffNumbers, g10) else Sum.inl ((x6_20 + (1 : Int32)), r9, g10))
def F_X5_itemEnd_j49 (re_rig : Nat → Int32) (re_stuffNumbers : Nat → Int32) (sc : Nat → Int32) (sc_bytes : Nat → Int32) (x6_20 : Int32) (x5_20 : Int32) (g_re_numbers_20 : Nat → Int32) (y0_49 : Int32) : (Int32 × Int32 × (Nat → Int32)) ⊕ (Int32 × (Nat → Int32) × (Nat → Int32) × (Nat → Int32)) := (match F_X5_numberEnd g_re_numbers_20 sc sc_bytes x5_20 x6_20 y0_49 with | (r9, g10) => F_X5_itemEnd_k49 re_rig re_stuffNumbers x6_20 r9 g10)
def F_X5_itemEnd_b20 (re_rig : Nat → Int32) (re_stuffNumbers : Nat → Int32) (sc : Nat → Int32) (sc_bytes : Nat → Int32) (v2 : Int32) (v4 : Int32) (x6_20 : Int32) (x5_20 : Int32) (g_re_numbers_20 : Nat → Int32) : (Int32 × Int32 × (Nat → Int32)) ⊕ (Int32 × (Nat → Int32) × (Nat → Int32) × (Nat → Int32)) := (if v4 ≤ x6_20 then Sum.inr (F_X5_itemEnd_x20 re_rig re_stuffNumbers v2 v4 x5_20 g_re_numbers_20) else (if x6_20 = (v4 - (1 : Int32)) then F_X5_itemEnd_j49 re_rig re_stuffNumbers sc sc_bytes x6_20 x5_20 g_re_numbers_20 (59 : Int32) else F_X5_itemEnd_j49 re_rig re_stuffNumbers sc sc_bytes x6_20 x5_20 g_re_numbers_20 (44 : Int32)))
def F_X5_itemEnd_l20 (re_rig : Nat → Int32) (re_stuffNumbers : Nat → Int32) (sc : Nat → Int32) (sc_bytes : Nat → Int32) (v2 : Int32) (v4 : Int32) : Nat → (Int32) → (Int32) → (Nat → Int32) → Int32 × (Nat → Int32) × (Nat → Int32) × (Nat → Int32)
  | 0, x6_20, x5_20, g_re_numbers_20 => F_X5_itemEnd_x20 re_rig re_stuffNumbers v2 v4 x5_20 g_re_numbers_20
  | n_20 + 1, x6_20, x5_20, g_re_numbers_20 => match F_X5_itemEnd_b20 re_rig re_stuffNumbers sc sc_bytes v2 v4 x6_20 x5_20 g_re_numbers_20 with
    | Sum.inl (c_x6_20, c_x5_20, c_g_re_numbers_20) => F_X5_itemEnd_l20 re_rig re_stuffNumbers sc sc_bytes v2 v4 n_20 c_x6_20 c_x5_20 c_g_re_numbers_20
    | Sum.inr r_ => r_
def F_X5_itemEnd_k15 (re_rig : Nat → Int32) (re_stuffNumbers : Nat → Int32) (re_numbers : Nat → Int32) (sc : Nat → Int32) (sc_bytes : Nat → Int32) (v2 : Int32) (v4 : Int32) (v5 : Int32) : Int32 × (Nat → Int32) × (Nat → Int32) × (Nat → Int32) := F_X5_itemEnd_l20 re_rig re_stuffNumbers sc sc_bytes v2 v4 ((Int32.toInt v4).toNat) (0 : Int32) v5 re_numbers
def F_X5_itemEnd_k10 (re_rig : Nat → Int32) (re_stuffNumbers : Nat → Int32) (re_numbers : Nat → Int32) (sc : Nat → Int32) (sc_bytes : Nat → Int32) (start : Int32) (v2 : Int32) (v4 : Int32) : Int32 × (Nat → Int32) × (Nat → Int32) × (Nat → Int32) := F_X5_itemEnd_k15 re_rig re_stuffNumbers re_numbers sc sc_bytes v2 v4 (start + (1 : Int32))
def F_X5_itemEnd_k5 (re_rig : Nat → Int32) (re_stuffNumbers : Nat → Int32) (re_numbers : Nat → Int32) (sc : Nat → Int32) (sc_bytes : Nat → Int32) (start : Int32) (v2 : Int32) : Int32 × (Nat → Int32) × (Nat → Int32) × (Nat → Int32) := F_X5_itemEnd_k10 re_rig re_stuffNumbers re_numbers sc sc_bytes start v2 (F_X5_numbersOf v2)
def F_X5_itemEnd (re_rig : Nat → Int32) (re_stuffNumbers : Nat → Int32) (re_numbers : Nat → Int32) (sc : Nat → Int32) (sc_bytes : Nat → Int32) (start : Int32) : Int32 × (Nat → Int32) × (Nat → Int32) × (Nat → Int32) := F_X5_itemEnd_k5 re_rig re_stuffNumbers re_numbers sc sc_bytes start (F_X7_at sc sc_bytes start)
set_option maxHeartbeats 4000000 in
set_option maxRecDepth 100000 in
theorem c_X5_itemEnd (l : Launch) (E : wV) (h_re : Nat) (h_sc : Nat) (a_re : Nat → Nat) (a_sc : Nat → Nat) (re_rig : Nat → Int32) (re_stuffNumbers : Nat → Int32) (re_numbers : Nat → Int32) (sc : Nat → Int32) (sc_bytes : Nat → Int32) (start : Int32) (hz0 : (re_rig 1) = 0 ∨ (re_rig 1) = 1) : MetI l yX5_itemEnd wsX5_itemEnd ({ frames := 3, cells := 0, slots := 0, locals := 83 } : Room) E ([.ref h_re, .ref h_sc, .int start] : List Value) [xReader h_re a_re, xRig (a_re 0) re_rig, xI E (a_re 1) 16 re_stuffNumbers, xI E (a_re 2) 4 re_numbers, xScript h_sc a_sc sc, xB E (a_sc 0) 300 sc_bytes] (fun (r : Int32) (u : (Nat → Int32) × (Nat → Int32) × (Nat → Int32)) => F_X5_itemEnd re_rig re_stuffNumbers re_numbers sc sc_bytes start = (r, u) ∧ (((u.1 1)) = 0 ∨ ((u.1 1)) = 1)) (fun (u : (Nat → Int32) × (Nat → Int32) × (Nat → Int32)) => [xReader h_re a_re, xRig (a_re 0) u.1, xI E (a_re 1) 16 u.2.1, xI E (a_re 2) 4 u.2.2, xScript h_sc a_sc sc, xB E (a_sc 0) 300 sc_bytes]) := by
  refine MetI.of (cc := cX5_itemEnd) (maxL := 7) (own := RX5) (by decide) rfl rfl (Nat.le_of_ble_eq_true rfl) ?_
  intro p e s m below meth c A Q ls cx hP hD hS hl hq
  obtain ⟨hx, hb, hml, hown, hts, hE, hA⟩ := id cx
  have hl : lv_has ls 7 [(0, .ref h_re), (1, .ref h_sc), (2, .int start)] := hl
  have hP : va_P E.1 vwCl [xReader h_re a_re, xRig (a_re 0) re_rig, xI E (a_re 1) 16 re_stuffNumbers, xI E (a_re 2) 4 re_numbers, xScript h_sc a_sc sc, xB E (a_sc 0) 300 sc_bytes] s.heap := hP
  obtain ⟨ρ, hρ0⟩ : ∃ ρ, F_X5_itemEnd re_rig re_stuffNumbers re_numbers sc sc_bytes start = ρ := ⟨_, rfl⟩
  have hρ := hρ0.symm
  unfold F_X5_itemEnd at hρ
  refine lv_aload_n hx hb dX5_itemEnd_0 rfl (lv_at hl 1 rfl) ?_
  refine lv_iload_n hx hb dX5_itemEnd_1 rfl (lv_at hl 2 rfl) ?_
  refine kI (wc := [xScript h_sc a_sc sc, xB E (a_sc 0) 300 sc_bytes]) (wr := [xReader h_re a_re, xRig (a_re 0) re_rig, xI E (a_re 1) 16 re_stuffNumbers, xI E (a_re 2) 4 re_numbers]) (wc' := (fun (_ : Unit) => [xScript h_sc a_sc sc, xB E (a_sc 0) 300 sc_bytes])) (wn := (fun (_ : Unit) => [xReader h_re a_re, xRig (a_re 0) re_rig, xI E (a_re 1) 16 re_stuffNumbers, xI E (a_re 2) 4 re_numbers, xScript h_sc a_sc sc, xB E (a_sc 0) 300 sc_bytes])) (isC := [4, 5]) (isR := [0, 1, 2, 3]) (is2 := [0, 1, 2, 3, 4, 5]) cx hP hD hS ⟨rfl, rfl, by decide, by decide, by decide, by decide, fun _ => rfl⟩ (rVN (As := [.int start]) (rest := []) (C := RX7) (q0 := 0) (ci := 7) cx (c_X7_at l E h_sc a_sc sc sc_bytes start _) (va_cnB 1 hts gX5_itemEnd_X7_at_n38 rfl rfl rfl (hE.nw 82 rfl) (hts (.initialized RX7) (List.mem_of_getElem? (i := 2) rfl)) (by decide +kernel) ⟨Nat.le_of_ble_eq_true rfl, Nat.le_of_ble_eq_true rfl⟩) (hts (.instanceMethod yX7_at) (List.mem_of_getElem? (i := 1) rfl)) (hts (.selects RX7 yX7_at yX7_at) (List.mem_of_getElem? (i := 3) rfl)) rfl rfl rfl rfl hl.1 rfl (Nat.le_of_ble_eq_true rfl) dX5_itemEnd_2 ⟨Nat.zero_le _, Nat.zero_le _⟩) (fun r1 u H locs hw hP hD hS => ?_)
  subst hw
  refine lv_topi (fun v2 ev2 => ?_)
  have hρ : ρ = F_X5_itemEnd_k5 re_rig re_stuffNumbers re_numbers sc sc_bytes start v2 := by rw [ev2]; exact hρ
  unfold F_X5_itemEnd_k5 at hρ
  refine lv_istore_n (lv' := [(3, .int v2), (0, .ref h_re), (1, .ref h_sc), (2, .int start)]) hx hb dX5_itemEnd_5 rfl hl (by decide) rfl (fun ls hl => ?_)
  refine lv_iload_n hx hb dX5_itemEnd_6 rfl (lv_at hl 0 rfl) ?_
  refine kI (wc := []) (wr := [xReader h_re a_re, xRig (a_re 0) re_rig, xI E (a_re 1) 16 re_stuffNumbers, xI E (a_re 2) 4 re_numbers, xScript h_sc a_sc sc, xB E (a_sc 0) 300 sc_bytes]) (wc' := (fun (_ : Unit) => [])) (wn := (fun (_ : Unit) => [xReader h_re a_re, xRig (a_re 0) re_rig, xI E (a_re 1) 16 re_stuffNumbers, xI E (a_re 2) 4 re_numbers, xScript h_sc a_sc sc, xB E (a_sc 0) 300 sc_bytes])) (isC := []) (isR := [0, 1, 2, 3, 4, 5]) (is2 := [0, 1, 2, 3, 4, 5]) cx hP hD hS ⟨rfl, rfl, by decide, by decide, by decide, by decide, fun _ => rfl⟩ (rS (As := [.int v2]) (rest := []) cx (c_X5_numbersOf l E v2 _) (va_cwS 1 hts gX5_itemEnd_X5_numbersOf rfl rfl rfl (by decide +kernel) ⟨Nat.le_of_ble_eq_true rfl, Nat.le_of_ble_eq_true rfl⟩) rfl hl.1 rfl (Nat.le_of_ble_eq_true rfl) dX5_itemEnd_7 ⟨Nat.zero_le _, Nat.zero_le _⟩) (fun r3 u H locs hw hP hD hS => ?_)
  subst hw
  refine lv_topi (fun v4 ev4 => ?_)
  have hρ : ρ = F_X5_itemEnd_k10 re_rig re_stuffNumbers re_numbers sc sc_bytes start v2 v4 := by rw [ev4]; exact hρ
  unfold F_X5_itemEnd_k10 at hρ
  refine lv_istore (lv' := [(4, .int v4), (3, .int v2), (0, .ref h_re), (1, .ref h_sc), (2, .int start)]) hx hb dX5_itemEnd_10 hl (by decide) rfl (fun ls hl => ?_)
  refine lv_iload_n hx hb dX5_itemEnd_12 rfl (lv_at hl 4 rfl) ?_
  refine lv_iconst (v := (1 : Int32)) hx hb dX5_itemEnd_13 (by decide) ?_
  refine lv_iadd hx hb dX5_itemEnd_14 ?_
  refine lv_topi (fun v5 ev5 => ?_)
  have hρ : ρ = F_X5_itemEnd_k15 re_rig re_stuffNumbers re_numbers sc sc_bytes v2 v4 v5 := by rw [ev5]; exact hρ
  unfold F_X5_itemEnd_k15 at hρ
  refine lv_istore (lv' := [(5, .int v5), (4, .int v4), (3, .int v2), (0, .ref h_re), (1, .ref h_sc), (2, .int start)]) hx hb dX5_itemEnd_15 hl (by decide) rfl (fun ls hl => ?_)
  refine lv_iconst (v := (0 : Int32)) hx hb dX5_itemEnd_17 (by decide) ?_
  refine lv_istore (lv' := [(6, .int (0 : Int32)), (5, .int v5), (4, .int v4), (3, .int v2), (0, .ref h_re), (1, .ref h_sc), (2, .int start)]) hx hb dX5_itemEnd_18 hl (by decide) rfl (fun ls hl => ?_)
  have hX20 : ∀ (x6_20 : Int32) (x5_20 : Int32) (g_re_numbers_20 : Nat → Int32) (H : Heap) (locs : List Loc) (ls : Array Slot), ρ = F_X5_itemEnd_x20 re_rig re_stuffNumbers v2 v4 x5_20 g_re_numbers_20 → va_P E.1 vwCl [xReader h_re a_re, xRig (a_re 0) re_rig, xI E (a_re 1) 16 re_stuffNumbers, xI E (a_re 2) 4 g_re_numbers_20, xScript h_sc a_sc sc, xB E (a_sc 0) 300 sc_bytes] H → va_D A [xReader h_re a_re, xRig (a_re 0) re_rig, xI E (a_re 1) 16 re_stuffNumbers, xI E (a_re 2) 4 g_re_numbers_20, xScript h_sc a_sc sc, xB E (a_sc 0) 300 sc_bytes] → va_S A s.heap H locs → lv_has ls 7 [(6, .int x6_20), (5, .int x5_20), (4, .int v4), (3, .int v2), (0, .ref h_re), (1, .ref h_sc), (2, .int start)] → W p l e ({ frames := 3, cells := 0, slots := 0, locals := 83 } : Room) s m ([.ref h_re, .ref h_sc, .int start] : List Value).toArray below meth c H locs 0 0 Q (F0 m 68 ls []) := by
    intro x6_20 x5_20 g_re_numbers_20 H locs ls hρ hP hD hS hl
    unfold F_X5_itemEnd_x20 at hρ
    refine lv_iload hx hb dX5_itemEnd_68 (lv_at hl 2 rfl) ?_
    refine lv_if_le (tgt := 86) hx hb dX5_itemEnd_70 (by decide) (fun c70 => ?_) (fun c70 => ?_)
    · rw [if_pos c70] at hρ
      refine lv_iconst (v := (-1 : Int32)) hx hb dX5_itemEnd_86 (by decide) ?_
      exact hq (-1 : Int32) (re_rig, re_stuffNumbers, g_re_numbers_20) _ _ _ _ dX5_itemEnd_87 rfl ⟨(hρ0.trans hρ), show ((re_rig 1)) = 0 ∨ ((re_rig 1)) = 1 from by first | exact hz0 | exact hn75⟩ hP hD hS
    · rw [if_neg c70] at hρ
      refine lv_aload_n hx hb dX5_itemEnd_73 rfl (lv_at hl 4 rfl) ?_
      refine lv_iload_n hx hb dX5_itemEnd_74 rfl (lv_at hl 3 rfl) ?_
      refine kI (wc := [xReader h_re a_re, xRig (a_re 0) re_rig, xI E (a_re 1) 16 re_stuffNumbers, xI E (a_re 2) 4 g_re_numbers_20]) (wr := [xScript h_sc a_sc sc, xB E (a_sc 0) 300 sc_bytes]) (wc' := (fun (u : (Nat → Int32) × (Nat → Int32)) => [xReader h_re a_re, xRig (a_re 0) u.1, xI E (a_re 1) 16 u.2, xI E (a_re 2) 4 g_re_numbers_20])) (wn := (fun (u : (Nat → Int32) × (Nat → Int32)) => [xReader h_re a_re, xRig (a_re 0) u.1, xI E (a_re 1) 16 u.2, xI E (a_re 2) 4 g_re_numbers_20, xScript h_sc a_sc sc, xB E (a_sc 0) 300 sc_bytes])) (isC := [0, 1, 2, 3]) (isR := [4, 5]) (is2 := [2, 3, 4, 5, 0, 1]) cx hP hD hS ⟨rfl, rfl, by decide, by decide, by decide, by decide, fun _ => rfl⟩ (rV (As := [.int v2]) (rest := []) (C := RX5) (q0 := 0) (ci := 5) cx (c_X5_take l E h_re a_re re_rig re_stuffNumbers g_re_numbers_20 v2 (hz0) _) (cwV 1 hts gX5_itemEnd_X5_take rfl rfl rfl (by decide +kernel) ⟨Nat.le_of_ble_eq_true rfl, Nat.le_of_ble_eq_true rfl⟩) rfl rfl rfl rfl hl.1 rfl (Nat.le_of_ble_eq_true rfl) dX5_itemEnd_75 ⟨Nat.zero_le _, Nat.zero_le _⟩) (fun r6 u H locs hw hP hD hS => ?_)
      obtain ⟨hw, hn75⟩ := hw
      obtain ⟨g7, g8⟩ := u
      have hn75 : ((g7 1)) = 0 ∨ ((g7 1)) = 1 := hn75
      have hP : va_P E.1 vwCl [xReader h_re a_re, xRig (a_re 0) g7, xI E (a_re 1) 16 g8, xI E (a_re 2) 4 g_re_numbers_20, xScript h_sc a_sc sc, xB E (a_sc 0) 300 sc_bytes] H := hP
      have hD : va_D A [xReader h_re a_re, xRig (a_re 0) g7, xI E (a_re 1) 16 g8, xI E (a_re 2) 4 g_re_numbers_20, xScript h_sc a_sc sc, xB E (a_sc 0) 300 sc_bytes] := hD
      have hw : F_X5_take re_rig re_stuffNumbers g_re_numbers_20 v2 = (r6, g7, g8) := hw
      rw [hw] at hρ
      have hρ : ρ = F_X5_itemEnd_k75 x5_20 g_re_numbers_20 r6 g7 g8 := hρ
      unfold F_X5_itemEnd_k75 at hρ
      refine lv_if_eq (tgt := 86) hx hb dX5_itemEnd_78 (by decide) (fun c78 => ?_) (fun c78 => ?_)
      · rw [if_pos c78] at hρ
        refine lv_iconst (v := (-1 : Int32)) hx hb dX5_itemEnd_86 (by decide) ?_
        exact hq (-1 : Int32) (g7, g8, g_re_numbers_20) _ _ _ _ dX5_itemEnd_87 rfl ⟨(hρ0.trans hρ), show ((g7 1)) = 0 ∨ ((g7 1)) = 1 from by first | exact hz0 | exact hn75⟩ hP hD hS
      · rw [if_neg c78] at hρ
        refine lv_iload hx hb dX5_itemEnd_81 (lv_at hl 1 rfl) ?_
        refine lv_goto (tgt := 87) hx hb dX5_itemEnd_83 (by decide) ?_
        exact hq x5_20 (g7, g8, g_re_numbers_20) _ _ _ _ dX5_itemEnd_87 rfl ⟨(hρ0.trans hρ), show ((g7 1)) = 0 ∨ ((g7 1)) = 1 from by first | exact hz0 | exact hn75⟩ hP hD hS
  have hL20 : ∀ (n_20 : Nat) (x6_20 : Int32) (x5_20 : Int32) (g_re_numbers_20 : Nat → Int32) (H : Heap) (locs : List Loc) (ls : Array Slot), ((v4 : Int32).toInt ≤ (x6_20).toInt + (n_20 : Nat)) → ρ = F_X5_itemEnd_l20 re_rig re_stuffNumbers sc sc_bytes v2 v4 n_20 x6_20 x5_20 g_re_numbers_20 → va_P E.1 vwCl [xReader h_re a_re, xRig (a_re 0) re_rig, xI E (a_re 1) 16 re_stuffNumbers, xI E (a_re 2) 4 g_re_numbers_20, xScript h_sc a_sc sc, xB E (a_sc 0) 300 sc_bytes] H → va_D A [xReader h_re a_re, xRig (a_re 0) re_rig, xI E (a_re 1) 16 re_stuffNumbers, xI E (a_re 2) 4 g_re_numbers_20, xScript h_sc a_sc sc, xB E (a_sc 0) 300 sc_bytes] → va_S A s.heap H locs → lv_has ls 7 [(6, .int x6_20), (5, .int x5_20), (4, .int v4), (3, .int v2), (0, .ref h_re), (1, .ref h_sc), (2, .int start)] → W p l e ({ frames := 3, cells := 0, slots := 0, locals := 83 } : Room) s m ([.ref h_re, .ref h_sc, .int start] : List Value).toArray below meth c H locs 0 0 Q (F0 m 20 ls []) := by
    intro n_20
    induction n_20 with
    | zero =>
      intro x6_20 x5_20 g_re_numbers_20 H locs ls hM hρ hP hD hS hl
      have hM20 := hM
      rw [F_X5_itemEnd_l20] at hρ
      refine lv_iload hx hb dX5_itemEnd_20 (lv_at hl 0 rfl) ?_
      refine lv_iload hx hb dX5_itemEnd_22 (lv_at hl 2 rfl) ?_
      refine lv_icmp_ge (tgt := 68) hx hb dX5_itemEnd_24 (by decide) (fun c24 => ?_) (fun c24 => ?_)
      · exact hX20 x6_20 x5_20 g_re_numbers_20 _ _ _ hρ hP hD hS (lv_sub hl [0, 1, 2, 3, 4, 5, 6] rfl)
      · exact (cnt_lt0 c24 hM).elim
    | succ n_20 ih =>
      intro x6_20 x5_20 g_re_numbers_20 H locs ls hM hρ hP hD hS hl
      have hM20 := hM
      rw [F_X5_itemEnd_l20] at hρ
      obtain ⟨τ20, hτ020⟩ : ∃ τ, F_X5_itemEnd_b20 re_rig re_stuffNumbers sc sc_bytes v2 v4 x6_20 x5_20 g_re_numbers_20 = τ := ⟨_, rfl⟩
      rw [hτ020] at hρ
      have hτ20 := hτ020.symm
      unfold F_X5_itemEnd_b20 at hτ20
      refine lv_iload hx hb dX5_itemEnd_20 (lv_at hl 0 rfl) ?_
      refine lv_iload hx hb dX5_itemEnd_22 (lv_at hl 2 rfl) ?_
      refine lv_icmp_ge (tgt := 68) hx hb dX5_itemEnd_24 (by decide) (fun c24 => ?_) (fun c24 => ?_)
      · rw [if_pos c24] at hτ20
        have hρ : ρ = F_X5_itemEnd_x20 re_rig re_stuffNumbers v2 v4 x5_20 g_re_numbers_20 := by subst hτ20; exact hρ
        exact hX20 x6_20 x5_20 g_re_numbers_20 _ _ _ hρ hP hD hS (lv_sub hl [0, 1, 2, 3, 4, 5, 6] rfl)
      · rw [if_neg c24] at hτ20
        refine lv_aload_n hx hb dX5_itemEnd_27 rfl (lv_at hl 4 rfl) ?_
        refine lv_aload_n hx hb dX5_itemEnd_28 rfl (lv_at hl 5 rfl) ?_
        refine lv_iload hx hb dX5_itemEnd_29 (lv_at hl 1 rfl) ?_
        refine lv_iload hx hb dX5_itemEnd_31 (lv_at hl 0 rfl) ?_
        refine lv_iload hx hb dX5_itemEnd_33 (lv_at hl 0 rfl) ?_
        refine lv_iload hx hb dX5_itemEnd_35 (lv_at hl 2 rfl) ?_
        refine lv_iconst (v := (1 : Int32)) hx hb dX5_itemEnd_37 (by decide) ?_
        refine lv_isub hx hb dX5_itemEnd_38 ?_
        have hJ49 : ∀ (y0_49 : Int32) (H : Heap) (locs : List Loc) (ls : Array Slot), τ20 = F_X5_itemEnd_j49 re_rig re_stuffNumbers sc sc_bytes x6_20 x5_20 g_re_numbers_20 y0_49 → va_P E.1 vwCl [xReader h_re a_re, xRig (a_re 0) re_rig, xI E (a_re 1) 16 re_stuffNumbers, xI E (a_re 2) 4 g_re_numbers_20, xScript h_sc a_sc sc, xB E (a_sc 0) 300 sc_bytes] H → va_D A [xReader h_re a_re, xRig (a_re 0) re_rig, xI E (a_re 1) 16 re_stuffNumbers, xI E (a_re 2) 4 g_re_numbers_20, xScript h_sc a_sc sc, xB E (a_sc 0) 300 sc_bytes] → va_S A s.heap H locs → lv_has ls 7 [(6, .int x6_20), (5, .int x5_20), (4, .int v4), (3, .int v2), (0, .ref h_re), (1, .ref h_sc), (2, .int start)] → W p l e ({ frames := 3, cells := 0, slots := 0, locals := 83 } : Room) s m ([.ref h_re, .ref h_sc, .int start] : List Value).toArray below meth c H locs 0 0 Q (F0 m 49 ls [.int y0_49, .int x6_20, .int x5_20, .ref h_sc, .ref h_re]) := by
          intro y0_49 H locs ls hτ20 hP hD hS hl
          unfold F_X5_itemEnd_j49 at hτ20
          refine kI (wc := [xReader h_re a_re, xRig (a_re 0) re_rig, xI E (a_re 1) 16 re_stuffNumbers, xI E (a_re 2) 4 g_re_numbers_20, xScript h_sc a_sc sc, xB E (a_sc 0) 300 sc_bytes]) (wr := []) (wc' := (fun (u : (Nat → Int32)) => [xReader h_re a_re, xRig (a_re 0) re_rig, xI E (a_re 1) 16 re_stuffNumbers, xI E (a_re 2) 4 u, xScript h_sc a_sc sc, xB E (a_sc 0) 300 sc_bytes])) (wn := (fun (u : (Nat → Int32)) => [xReader h_re a_re, xRig (a_re 0) re_rig, xI E (a_re 1) 16 re_stuffNumbers, xI E (a_re 2) 4 u, xScript h_sc a_sc sc, xB E (a_sc 0) 300 sc_bytes])) (isC := [0, 1, 2, 3, 4, 5]) (isR := []) (is2 := [0, 1, 2, 3, 4, 5]) cx hP hD hS ⟨rfl, rfl, by decide, by decide, by decide, by decide, fun _ => rfl⟩ (rV (As := [.ref h_sc, .int x5_20, .int x6_20, .int y0_49]) (rest := []) (C := RX5) (q0 := 0) (ci := 5) cx (c_X5_numberEnd l E h_re h_sc a_re a_sc re_rig re_stuffNumbers g_re_numbers_20 sc sc_bytes x5_20 x6_20 y0_49 _) (cwV 4 hts gX5_itemEnd_X5_numberEnd rfl rfl rfl (by decide +kernel) ⟨Nat.le_of_ble_eq_true rfl, Nat.le_of_ble_eq_true rfl⟩) rfl rfl rfl rfl hl.1 rfl (Nat.le_of_ble_eq_true rfl) dX5_itemEnd_49 ⟨Nat.zero_le _, Nat.zero_le _⟩) (fun r9 u H locs hw hP hD hS => ?_)
          obtain ⟨g10, rfl⟩ : ∃ z, z = u := ⟨_, rfl⟩
          have hP : va_P E.1 vwCl [xReader h_re a_re, xRig (a_re 0) re_rig, xI E (a_re 1) 16 re_stuffNumbers, xI E (a_re 2) 4 g10, xScript h_sc a_sc sc, xB E (a_sc 0) 300 sc_bytes] H := hP
          have hD : va_D A [xReader h_re a_re, xRig (a_re 0) re_rig, xI E (a_re 1) 16 re_stuffNumbers, xI E (a_re 2) 4 g10, xScript h_sc a_sc sc, xB E (a_sc 0) 300 sc_bytes] := hD
          have hw : F_X5_numberEnd g_re_numbers_20 sc sc_bytes x5_20 x6_20 y0_49 = (r9, g10) := hw
          rw [hw] at hτ20
          have hτ20 : τ20 = F_X5_itemEnd_k49 re_rig re_stuffNumbers x6_20 r9 g10 := hτ20
          unfold F_X5_itemEnd_k49 at hτ20
          refine lv_istore (lv' := [(5, .int r9), (6, .int x6_20), (4, .int v4), (3, .int v2), (0, .ref h_re), (1, .ref h_sc), (2, .int start)]) hx hb dX5_itemEnd_52 hl (by decide) rfl (fun ls hl => ?_)
          refine lv_iload hx hb dX5_itemEnd_54 (lv_at hl 0 rfl) ?_
          refine lv_iconst (v := (-1 : Int32)) hx hb dX5_itemEnd_56 (by decide) ?_
          refine lv_icmp_ne (tgt := 62) hx hb dX5_itemEnd_57 (by decide) (fun c57 => ?_) (fun c57 => ?_)
          · rw [if_neg c57] at hτ20
            refine lv_iinc (v := (x6_20 + (1 : Int32))) (lv' := [(6, .int (x6_20 + (1 : Int32))), (5, .int r9), (4, .int v4), (3, .int v2), (0, .ref h_re), (1, .ref h_sc), (2, .int start)]) hx hb dX5_itemEnd_62 hl (k := 1) rfl rfl (by decide) rfl (fun ls hl => ?_)
            refine lv_goto (tgt := 20) hx hb dX5_itemEnd_65 (by decide) ?_
            have hρ : ρ = F_X5_itemEnd_l20 re_rig re_stuffNumbers sc sc_bytes v2 v4 n_20 (x6_20 + (1 : Int32)) r9 g10 := by subst hτ20; exact hρ
            exact ih (x6_20 + (1 : Int32)) r9 g10 _ _ _ (cnt_lt c24 hM) hρ hP hD hS (lv_sub hl [0, 1, 2, 3, 4, 5, 6] rfl)
          · rw [if_pos c57] at hτ20
            refine lv_iconst (v := (-1 : Int32)) hx hb dX5_itemEnd_60 (by decide) ?_
            have hρ : ρ = ((-1 : Int32), re_rig, re_stuffNumbers, g10) := by subst hτ20; exact hρ
            exact hq (-1 : Int32) (re_rig, re_stuffNumbers, g10) _ _ _ _ dX5_itemEnd_61 rfl ⟨(hρ0.trans hρ), show ((re_rig 1)) = 0 ∨ ((re_rig 1)) = 1 from hz0⟩ hP hD hS
        refine lv_icmp_ne (tgt := 47) hx hb dX5_itemEnd_39 (by decide) (fun c39 => ?_) (fun c39 => ?_)
        · rw [if_neg c39] at hτ20
          refine lv_bipush (v := (44 : Int32)) hx hb dX5_itemEnd_47 (by decide) ?_
          exact hJ49 (44 : Int32) _ _ _ hτ20 hP hD hS (lv_sub hl [0, 1, 2, 3, 4, 5, 6] rfl)
        · rw [if_pos c39] at hτ20
          refine lv_bipush (v := (59 : Int32)) hx hb dX5_itemEnd_42 (by decide) ?_
          refine lv_goto (tgt := 49) hx hb dX5_itemEnd_44 (by decide) ?_
          exact hJ49 (59 : Int32) _ _ _ hτ20 hP hD hS (lv_sub hl [0, 1, 2, 3, 4, 5, 6] rfl)
  exact hL20 ((Int32.toInt v4).toNat) (0 : Int32) v5 re_numbers _ _ _ (by show _ ≤ (0 : Int) + _; omega) hρ hP hD hS (lv_sub hl [0, 1, 2, 3, 4, 5, 6] rfl)
def F_X5_readAll_x11 (g_re_rig_11 : Nat → Int32) (g_re_stuffNumbers_11 : Nat → Int32) (g_re_numbers_11 : Nat → Int32) : Int32 × (Nat → Int32) × (Nat → Int32) × (Nat → Int32) := ((-4 : Int32), g_re_rig_11, g_re_stuffNumbers_11, g_re_numbers_11)
def F_X5_readAll_k29 (x3_11 : Int32) (x2_11 : Int32) (r2 : Int32) (g3 : Nat → Int32) (g4 : Nat → Int32) (g5 : Nat → Int32) : (Int32 × Int32 × (Nat → Int32) × (Nat → Int32) × (Nat → Int32)) ⊕ (Int32 × (Nat → Int32) × (Nat → Int32) × (Nat → Int32)) := (if r2 = (-1 : Int32) then Sum.inr (x2_11, g3, g4, g5) else Sum.inl ((x3_11 + (1 : Int32)), r2, g3, g4, g5))
def F_X5_readAll_b11 (sc : Nat → Int32) (sc_bytes : Nat → Int32) (x3_11 : Int32) (x2_11 : Int32) (g_re_rig_11 : Nat → Int32) (g_re_stuffNumbers_11 : Nat → Int32) (g_re_numbers_11 : Nat → Int32) : (Int32 × Int32 × (Nat → Int32) × (Nat → Int32) × (Nat → Int32)) ⊕ (Int32 × (Nat → Int32) × (Nat → Int32) × (Nat → Int32)) := (if (300 : Int32) ≤ x3_11 then Sum.inr (F_X5_readAll_x11 g_re_rig_11 g_re_stuffNumbers_11 g_re_numbers_11) else (if (sc 1) ≤ x2_11 then Sum.inr (F_X5_readAll_x11 g_re_rig_11 g_re_stuffNumbers_11 g_re_numbers_11) else (match F_X5_itemEnd g_re_rig_11 g_re_stuffNumbers_11 g_re_numbers_11 sc sc_bytes x2_11 with | (r2, g3, g4, g5) => F_X5_readAll_k29 x3_11 x2_11 r2 g3 g4 g5)))
def F_X5_readAll_l11 (sc : Nat → Int32) (sc_bytes : Nat → Int32) : Nat → (Int32) → (Int32) → (Nat → Int32) → (Nat → Int32) → (Nat → Int32) → Int32 × (Nat → Int32) × (Nat → Int32) × (Nat → Int32)
  | 0, x3_11, x2_11, g_re_rig_11, g_re_stuffNumbers_11, g_re_numbers_11 => F_X5_readAll_x11 g_re_rig_11 g_re_stuffNumbers_11 g_re_numbers_11
  | n_11 + 1, x3_11, x2_11, g_re_rig_11, g_re_stuffNumbers_11, g_re_numbers_11 => match F_X5_readAll_b11 sc sc_bytes x3_11 x2_11 g_re_rig_11 g_re_stuffNumbers_11 g_re_numbers_11 with
    | Sum.inl (c_x3_11, c_x2_11, c_g_re_rig_11, c_g_re_stuffNumbers_11, c_g_re_numbers_11) => F_X5_readAll_l11 sc sc_bytes n_11 c_x3_11 c_x2_11 c_g_re_rig_11 c_g_re_stuffNumbers_11 c_g_re_numbers_11
    | Sum.inr r_ => r_
def F_X5_readAll_k4 (re_stuffNumbers : Nat → Int32) (re_numbers : Nat → Int32) (sc : Nat → Int32) (sc_bytes : Nat → Int32) (g1 : Nat → Int32) : Int32 × (Nat → Int32) × (Nat → Int32) × (Nat → Int32) := F_X5_readAll_l11 sc sc_bytes (300) (0 : Int32) (0 : Int32) g1 re_stuffNumbers re_numbers
def F_X5_readAll (re_rig : Nat → Int32) (re_stuffNumbers : Nat → Int32) (re_numbers : Nat → Int32) (sc : Nat → Int32) (sc_bytes : Nat → Int32) : Int32 × (Nat → Int32) × (Nat → Int32) × (Nat → Int32) := F_X5_readAll_k4 re_stuffNumbers re_numbers sc sc_bytes (F_X6_clear re_rig)
theorem iX5_readAll_X5 : ∀ w ∈ wsX50, w ∈ wsX5_readAll := fun _ h => List.mem_cons_of_mem _ (List.mem_append_left _ (List.mem_append_left _ (List.mem_append_right _ h)))
theorem iX5_readAll_X7 : ∀ w ∈ wsX70, w ∈ wsX5_readAll := fun _ h => List.mem_cons_of_mem _ (List.mem_append_left _ (List.mem_append_right _ h))
set_option maxHeartbeats 4000000 in
set_option maxRecDepth 100000 in
theorem c_X5_readAll (l : Launch) (E : wV) (h_re : Nat) (h_sc : Nat) (a_re : Nat → Nat) (a_sc : Nat → Nat) (re_rig : Nat → Int32) (re_stuffNumbers : Nat → Int32) (re_numbers : Nat → Int32) (sc : Nat → Int32) (sc_bytes : Nat → Int32) : MetI l yX5_readAll wsX5_readAll ({ frames := 4, cells := 0, slots := 0, locals := 109 } : Room) E ([.ref h_re, .ref h_sc] : List Value) [xReader h_re a_re, xRig (a_re 0) re_rig, xI E (a_re 1) 16 re_stuffNumbers, xI E (a_re 2) 4 re_numbers, xScript h_sc a_sc sc, xB E (a_sc 0) 300 sc_bytes] (fun (r : Int32) (u : (Nat → Int32) × (Nat → Int32) × (Nat → Int32)) => F_X5_readAll re_rig re_stuffNumbers re_numbers sc sc_bytes = (r, u) ∧ (((u.1 1)) = 0 ∨ ((u.1 1)) = 1)) (fun (u : (Nat → Int32) × (Nat → Int32) × (Nat → Int32)) => [xReader h_re a_re, xRig (a_re 0) u.1, xI E (a_re 1) 16 u.2.1, xI E (a_re 2) 4 u.2.2, xScript h_sc a_sc sc, xB E (a_sc 0) 300 sc_bytes]) := by
  refine MetI.of (cc := cX5_readAll) (maxL := 5) (own := RX5) (by decide) rfl rfl (Nat.le_of_ble_eq_true rfl) ?_
  intro p e s m below meth c A Q ls cx hP hD hS hl hq
  obtain ⟨hx, hb, hml, hown, hts, hE, hA⟩ := id cx
  have hl : lv_has ls 5 [(0, .ref h_re), (1, .ref h_sc)] := hl
  have hP : va_P E.1 vwCl [xReader h_re a_re, xRig (a_re 0) re_rig, xI E (a_re 1) 16 re_stuffNumbers, xI E (a_re 2) 4 re_numbers, xScript h_sc a_sc sc, xB E (a_sc 0) 300 sc_bytes] s.heap := hP
  obtain ⟨ρ, hρ0⟩ : ∃ ρ, F_X5_readAll re_rig re_stuffNumbers re_numbers sc sc_bytes = ρ := ⟨_, rfl⟩
  have hρ := hρ0.symm
  unfold F_X5_readAll at hρ
  refine lv_aload_n hx hb dX5_readAll_0 rfl (lv_at hl 0 rfl) ?_
  refine va_get (D := E.1) (ci := 5) (v := .ref (a_re 0)) (C := RX5) (T := TX5) (N := 3) hx hb hts iX5_readAll_X5 hown hE.1 hP 0 rfl rfl 0 (by decide) (hts (.fieldLink RX5 12 "BandBoat$Reader" "rig" "LBandBoat$Rig;") (List.mem_of_getElem? (i := 1) rfl)) (fun _ h9 => h9) rfl dX5_readAll_1 ?_
  refine kV (wc := [xRig (a_re 0) re_rig]) (wr := [xReader h_re a_re, xI E (a_re 1) 16 re_stuffNumbers, xI E (a_re 2) 4 re_numbers, xScript h_sc a_sc sc, xB E (a_sc 0) 300 sc_bytes]) (wc' := (fun (u : (Nat → Int32)) => [xRig (a_re 0) u])) (wn := (fun (u : (Nat → Int32)) => [xReader h_re a_re, xRig (a_re 0) u, xI E (a_re 1) 16 re_stuffNumbers, xI E (a_re 2) 4 re_numbers, xScript h_sc a_sc sc, xB E (a_sc 0) 300 sc_bytes])) (isC := [1]) (isR := [0, 2, 3, 4, 5]) (is2 := [0, 5, 1, 2, 3, 4]) cx hP hD hS ⟨rfl, rfl, by decide, by decide, by decide, by decide, fun _ => rfl⟩ (rVN (As := []) (rest := []) (C := RX6) (q0 := 0) (ci := 6) cx (c_X6_clear l E (a_re 0) re_rig _) (va_cnB 0 hts gX5_readAll_X6_clear_n25 rfl rfl rfl (hE.nw 81 rfl) (hts (.initialized RX6) (List.mem_of_getElem? (i := 3) rfl)) (by decide +kernel) ⟨Nat.le_of_ble_eq_true rfl, Nat.le_of_ble_eq_true rfl⟩) (hts (.instanceMethod yX6_clear) (List.mem_of_getElem? (i := 2) rfl)) (hts (.selects RX6 yX6_clear yX6_clear) (List.mem_of_getElem? (i := 4) rfl)) rfl rfl rfl rfl hl.1 rfl (Nat.le_of_ble_eq_true rfl) dX5_readAll_4 ⟨Nat.zero_le _, Nat.zero_le _⟩) (fun u H locs hw hP hD hS => ?_)
  obtain ⟨hw, hn4⟩ := hw
  obtain ⟨g1, rfl⟩ : ∃ z, z = u := ⟨_, rfl⟩
  have hn4 : ((g1 1)) = 0 := hn4
  have hP : va_P E.1 vwCl [xReader h_re a_re, xRig (a_re 0) g1, xI E (a_re 1) 16 re_stuffNumbers, xI E (a_re 2) 4 re_numbers, xScript h_sc a_sc sc, xB E (a_sc 0) 300 sc_bytes] H := hP
  have hD : va_D A [xReader h_re a_re, xRig (a_re 0) g1, xI E (a_re 1) 16 re_stuffNumbers, xI E (a_re 2) 4 re_numbers, xScript h_sc a_sc sc, xB E (a_sc 0) 300 sc_bytes] := hD
  have hw : F_X6_clear re_rig = g1 := hw
  rw [hw] at hρ
  have hρ : ρ = F_X5_readAll_k4 re_stuffNumbers re_numbers sc sc_bytes g1 := hρ
  unfold F_X5_readAll_k4 at hρ
  refine lv_iconst (v := (0 : Int32)) hx hb dX5_readAll_7 (by decide) ?_
  refine lv_istore_n (lv' := [(2, .int (0 : Int32)), (0, .ref h_re), (1, .ref h_sc)]) hx hb dX5_readAll_8 rfl hl (by decide) rfl (fun ls hl => ?_)
  refine lv_iconst (v := (0 : Int32)) hx hb dX5_readAll_9 (by decide) ?_
  refine lv_istore_n (lv' := [(3, .int (0 : Int32)), (2, .int (0 : Int32)), (0, .ref h_re), (1, .ref h_sc)]) hx hb dX5_readAll_10 rfl hl (by decide) rfl (fun ls hl => ?_)
  have hX11 : ∀ (x3_11 : Int32) (x2_11 : Int32) (g_re_rig_11 : Nat → Int32) (g_re_stuffNumbers_11 : Nat → Int32) (g_re_numbers_11 : Nat → Int32) (H : Heap) (locs : List Loc) (ls : Array Slot), ρ = F_X5_readAll_x11 g_re_rig_11 g_re_stuffNumbers_11 g_re_numbers_11 → ((((g_re_rig_11 1)) = 0 ∨ ((g_re_rig_11 1)) = 1)) → va_P E.1 vwCl [xReader h_re a_re, xRig (a_re 0) g_re_rig_11, xI E (a_re 1) 16 g_re_stuffNumbers_11, xI E (a_re 2) 4 g_re_numbers_11, xScript h_sc a_sc sc, xB E (a_sc 0) 300 sc_bytes] H → va_D A [xReader h_re a_re, xRig (a_re 0) g_re_rig_11, xI E (a_re 1) 16 g_re_stuffNumbers_11, xI E (a_re 2) 4 g_re_numbers_11, xScript h_sc a_sc sc, xB E (a_sc 0) 300 sc_bytes] → va_S A s.heap H locs → lv_has ls 5 [(3, .int x3_11), (2, .int x2_11), (0, .ref h_re), (1, .ref h_sc)] → W p l e ({ frames := 4, cells := 0, slots := 0, locals := 109 } : Room) s m ([.ref h_re, .ref h_sc] : List Value).toArray below meth c H locs 0 0 Q (F0 m 51 ls []) := by
    intro x3_11 x2_11 g_re_rig_11 g_re_stuffNumbers_11 g_re_numbers_11 H locs ls hρ hI hP hD hS hl
    unfold F_X5_readAll_x11 at hρ
    refine lv_bipush (v := (-4 : Int32)) hx hb dX5_readAll_51 (by decide) ?_
    exact hq (-4 : Int32) (g_re_rig_11, g_re_stuffNumbers_11, g_re_numbers_11) _ _ _ _ dX5_readAll_53 rfl ⟨(hρ0.trans hρ), show ((g_re_rig_11 1)) = 0 ∨ ((g_re_rig_11 1)) = 1 from hI⟩ hP hD hS
  have hL11 : ∀ (n_11 : Nat) (x3_11 : Int32) (x2_11 : Int32) (g_re_rig_11 : Nat → Int32) (g_re_stuffNumbers_11 : Nat → Int32) (g_re_numbers_11 : Nat → Int32) (H : Heap) (locs : List Loc) (ls : Array Slot), (((300 : Int32) : Int32).toInt ≤ (x3_11).toInt + (n_11 : Nat)) ∧ (((g_re_rig_11 1)) = 0 ∨ ((g_re_rig_11 1)) = 1) → ρ = F_X5_readAll_l11 sc sc_bytes n_11 x3_11 x2_11 g_re_rig_11 g_re_stuffNumbers_11 g_re_numbers_11 → va_P E.1 vwCl [xReader h_re a_re, xRig (a_re 0) g_re_rig_11, xI E (a_re 1) 16 g_re_stuffNumbers_11, xI E (a_re 2) 4 g_re_numbers_11, xScript h_sc a_sc sc, xB E (a_sc 0) 300 sc_bytes] H → va_D A [xReader h_re a_re, xRig (a_re 0) g_re_rig_11, xI E (a_re 1) 16 g_re_stuffNumbers_11, xI E (a_re 2) 4 g_re_numbers_11, xScript h_sc a_sc sc, xB E (a_sc 0) 300 sc_bytes] → va_S A s.heap H locs → lv_has ls 5 [(3, .int x3_11), (2, .int x2_11), (0, .ref h_re), (1, .ref h_sc)] → W p l e ({ frames := 4, cells := 0, slots := 0, locals := 109 } : Room) s m ([.ref h_re, .ref h_sc] : List Value).toArray below meth c H locs 0 0 Q (F0 m 11 ls []) := by
    intro n_11
    induction n_11 with
    | zero =>
      intro x3_11 x2_11 g_re_rig_11 g_re_stuffNumbers_11 g_re_numbers_11 H locs ls hM hρ hP hD hS hl
      have hM11 := hM
      rw [F_X5_readAll_l11] at hρ
      refine lv_iload_n hx hb dX5_readAll_11 rfl (lv_at hl 0 rfl) ?_
      refine lv_sipush (v := (300 : Int32)) hx hb dX5_readAll_12 (by decide) ?_
      refine lv_icmp_ge (tgt := 51) hx hb dX5_readAll_15 (by decide) (fun c15 => ?_) (fun c15 => ?_)
      · exact hX11 x3_11 x2_11 g_re_rig_11 g_re_stuffNumbers_11 g_re_numbers_11 _ _ _ hρ (hM.2) hP hD hS (lv_sub hl [0, 1, 2, 3] rfl)
      · exact (cnt_lt0 c15 hM.1).elim
    | succ n_11 ih =>
      intro x3_11 x2_11 g_re_rig_11 g_re_stuffNumbers_11 g_re_numbers_11 H locs ls hM hρ hP hD hS hl
      have hM11 := hM
      rw [F_X5_readAll_l11] at hρ
      obtain ⟨τ11, hτ011⟩ : ∃ τ, F_X5_readAll_b11 sc sc_bytes x3_11 x2_11 g_re_rig_11 g_re_stuffNumbers_11 g_re_numbers_11 = τ := ⟨_, rfl⟩
      rw [hτ011] at hρ
      have hτ11 := hτ011.symm
      unfold F_X5_readAll_b11 at hτ11
      refine lv_iload_n hx hb dX5_readAll_11 rfl (lv_at hl 0 rfl) ?_
      refine lv_sipush (v := (300 : Int32)) hx hb dX5_readAll_12 (by decide) ?_
      refine lv_icmp_ge (tgt := 51) hx hb dX5_readAll_15 (by decide) (fun c15 => ?_) (fun c15 => ?_)
      · rw [if_pos c15] at hτ11
        have hρ : ρ = F_X5_readAll_x11 g_re_rig_11 g_re_stuffNumbers_11 g_re_numbers_11 := by subst hτ11; exact hρ
        exact hX11 x3_11 x2_11 g_re_rig_11 g_re_stuffNumbers_11 g_re_numbers_11 _ _ _ hρ (hM.2) hP hD hS (lv_sub hl [0, 1, 2, 3] rfl)
      · rw [if_neg c15] at hτ11
        refine lv_iload_n hx hb dX5_readAll_18 rfl (lv_at hl 1 rfl) ?_
        refine lv_aload_n hx hb dX5_readAll_19 rfl (lv_at hl 3 rfl) ?_
        refine va_getN (D := E.1) (ci := 7) (v := .int (sc 1)) (C := RX7) (T := TX7) (N := 2) hx hb hts iX5_readAll_X7 hown hE.1 hP 4 rfl rfl 1 (by decide) (hE.n 0 rfl) (fun _ h9 => h9) rfl dX5_readAll_20 ?_
        refine lv_icmp_ge (tgt := 51) hx hb dX5_readAll_23 (by decide) (fun c23 => ?_) (fun c23 => ?_)
        · rw [if_pos c23] at hτ11
          have hρ : ρ = F_X5_readAll_x11 g_re_rig_11 g_re_stuffNumbers_11 g_re_numbers_11 := by subst hτ11; exact hρ
          exact hX11 x3_11 x2_11 g_re_rig_11 g_re_stuffNumbers_11 g_re_numbers_11 _ _ _ hρ (hM.2) hP hD hS (lv_sub hl [0, 1, 2, 3] rfl)
        · rw [if_neg c23] at hτ11
          refine lv_aload_n hx hb dX5_readAll_26 rfl (lv_at hl 2 rfl) ?_
          refine lv_aload_n hx hb dX5_readAll_27 rfl (lv_at hl 3 rfl) ?_
          refine lv_iload_n hx hb dX5_readAll_28 rfl (lv_at hl 1 rfl) ?_
          refine kI (wc := [xReader h_re a_re, xRig (a_re 0) g_re_rig_11, xI E (a_re 1) 16 g_re_stuffNumbers_11, xI E (a_re 2) 4 g_re_numbers_11, xScript h_sc a_sc sc, xB E (a_sc 0) 300 sc_bytes]) (wr := []) (wc' := (fun (u : (Nat → Int32) × (Nat → Int32) × (Nat → Int32)) => [xReader h_re a_re, xRig (a_re 0) u.1, xI E (a_re 1) 16 u.2.1, xI E (a_re 2) 4 u.2.2, xScript h_sc a_sc sc, xB E (a_sc 0) 300 sc_bytes])) (wn := (fun (u : (Nat → Int32) × (Nat → Int32) × (Nat → Int32)) => [xReader h_re a_re, xRig (a_re 0) u.1, xI E (a_re 1) 16 u.2.1, xI E (a_re 2) 4 u.2.2, xScript h_sc a_sc sc, xB E (a_sc 0) 300 sc_bytes])) (isC := [0, 1, 2, 3, 4, 5]) (isR := []) (is2 := [0, 1, 2, 3, 4, 5]) cx hP hD hS ⟨rfl, rfl, by decide, by decide, by decide, by decide, fun _ => rfl⟩ (rV (As := [.ref h_sc, .int x2_11]) (rest := []) (C := RX5) (q0 := 0) (ci := 5) cx (c_X5_itemEnd l E h_re h_sc a_re a_sc g_re_rig_11 g_re_stuffNumbers_11 g_re_numbers_11 sc sc_bytes x2_11 (hM.2) _) (cwV 2 hts gX5_readAll_X5_itemEnd rfl rfl rfl (by decide +kernel) ⟨Nat.le_of_ble_eq_true rfl, Nat.le_of_ble_eq_true rfl⟩) rfl rfl rfl rfl hl.1 rfl (Nat.le_of_ble_eq_true rfl) dX5_readAll_29 ⟨Nat.zero_le _, Nat.zero_le _⟩) (fun r2 u H locs hw hP hD hS => ?_)
          obtain ⟨hw, hn29⟩ := hw
          obtain ⟨g3, g4, g5⟩ := u
          have hn29 : ((g3 1)) = 0 ∨ ((g3 1)) = 1 := hn29
          have hP : va_P E.1 vwCl [xReader h_re a_re, xRig (a_re 0) g3, xI E (a_re 1) 16 g4, xI E (a_re 2) 4 g5, xScript h_sc a_sc sc, xB E (a_sc 0) 300 sc_bytes] H := hP
          have hD : va_D A [xReader h_re a_re, xRig (a_re 0) g3, xI E (a_re 1) 16 g4, xI E (a_re 2) 4 g5, xScript h_sc a_sc sc, xB E (a_sc 0) 300 sc_bytes] := hD
          have hw : F_X5_itemEnd g_re_rig_11 g_re_stuffNumbers_11 g_re_numbers_11 sc sc_bytes x2_11 = (r2, g3, g4, g5) := hw
          rw [hw] at hτ11
          have hτ11 : τ11 = F_X5_readAll_k29 x3_11 x2_11 r2 g3 g4 g5 := hτ11
          unfold F_X5_readAll_k29 at hτ11
          refine lv_istore (lv' := [(4, .int r2), (3, .int x3_11), (2, .int x2_11), (0, .ref h_re), (1, .ref h_sc)]) hx hb dX5_readAll_32 hl (by decide) rfl (fun ls hl => ?_)
          refine lv_iload hx hb dX5_readAll_34 (lv_at hl 0 rfl) ?_
          refine lv_iconst (v := (-1 : Int32)) hx hb dX5_readAll_36 (by decide) ?_
          refine lv_icmp_ne (tgt := 42) hx hb dX5_readAll_37 (by decide) (fun c37 => ?_) (fun c37 => ?_)
          · rw [if_neg c37] at hτ11
            refine lv_iload hx hb dX5_readAll_42 (lv_at hl 0 rfl) ?_
            refine lv_istore_n (lv' := [(2, .int r2), (4, .int r2), (3, .int x3_11), (0, .ref h_re), (1, .ref h_sc)]) hx hb dX5_readAll_44 rfl hl (by decide) rfl (fun ls hl => ?_)
            refine lv_iinc (v := (x3_11 + (1 : Int32))) (lv' := [(3, .int (x3_11 + (1 : Int32))), (2, .int r2), (4, .int r2), (0, .ref h_re), (1, .ref h_sc)]) hx hb dX5_readAll_45 hl (k := 2) rfl rfl (by decide) rfl (fun ls hl => ?_)
            refine lv_goto (tgt := 11) hx hb dX5_readAll_48 (by decide) ?_
            have hρ : ρ = F_X5_readAll_l11 sc sc_bytes n_11 (x3_11 + (1 : Int32)) r2 g3 g4 g5 := by subst hτ11; exact hρ
            exact ih (x3_11 + (1 : Int32)) r2 g3 g4 g5 _ _ _ ⟨cnt_lt c15 hM.1, hn29⟩ hρ hP hD hS (lv_sub hl [0, 1, 3, 4] rfl)
          · rw [if_pos c37] at hτ11
            refine lv_iload_n hx hb dX5_readAll_40 rfl (lv_at hl 2 rfl) ?_
            have hρ : ρ = (x2_11, g3, g4, g5) := by subst hτ11; exact hρ
            exact hq x2_11 (g3, g4, g5) _ _ _ _ dX5_readAll_41 rfl ⟨(hρ0.trans hρ), show ((g3 1)) = 0 ∨ ((g3 1)) = 1 from hn29⟩ hP hD hS
  exact hL11 (300) (0 : Int32) (0 : Int32) g1 re_stuffNumbers re_numbers _ _ _ (⟨by decide, Or.inl hn4⟩) hρ hP hD hS (lv_sub hl [0, 1, 2, 3] rfl)
