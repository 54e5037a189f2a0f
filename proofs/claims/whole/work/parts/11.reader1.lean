theorem w_lo {x lo hi : Int32} (c : ¬ F_X9_within x lo hi = 0) {a b : Int} (hl : lo.toInt = a) (hh : hi.toInt = b) : a ≤ x.toInt ∧ x.toInt ≤ b := by
  have h := F_X9_within_ge c
  omega
theorem w_inb {x j : Int32} (c : ¬ F_X9_within x (0 : Int32) ((16 : Int32) - (4 : Int32)) = 0) (h0 : 0 ≤ j.toInt) (h3 : j.toInt ≤ 3) : vp_in (x + j) 16 := by
  have h := w_lo c (a := 0) (b := 12) rfl rfl
  have e := i_add (a := x) (b := j) (by omega) (by omega)
  exact inb_i (by omega) (by omega)
theorem w_inb0 {x : Int32} (c : ¬ F_X9_within x (0 : Int32) ((16 : Int32) - (4 : Int32)) = 0) : vp_in x 16 := by
  have h := w_lo c (a := 0) (b := 12) rfl rfl
  exact inb_i (by omega) (by omega)
theorem w_ge0 {x : Int32} (c : ¬ F_X9_within x (0 : Int32) ((16 : Int32) - (4 : Int32)) = 0) : ¬ x < 0 := by
  have h := w_lo c (a := 0) (b := 12) rfl rfl
  rw [Int32.lt_iff_toInt_lt]
  have : (0 : Int32).toInt = 0 := rfl
  omega
theorem w_le16 {x : Int32} (c : ¬ F_X9_within x (0 : Int32) ((16 : Int32) - (4 : Int32)) = 0) : x.toNatClampNeg + (4 : Int32).toNatClampNeg ≤ 16 := by
  have h := w_lo c (a := 0) (b := 12) rfl rfl
  have e : x.toNatClampNeg = x.toInt.toNat := rfl
  have e4 : (4 : Int32).toNatClampNeg = 4 := rfl
  omega
theorem add_le3 (a : Int32) : (a + (3 : Int32)).toInt ≤ a.toInt + (3 : Nat) := by
  have h3 : (3 : Int32).toInt = 3 := rfl
  have h1 := Int32.le_toInt a
  by_cases h : a.toInt + 3 < 2147483648
  · rw [i_add (by rw [h3]; omega) (by rw [h3]; omega), h3]; exact Int.le_refl _
  · have h2 := Int32.toInt_lt (a + 3)
    omega
def F_X5_numbersOf (letter : Int32) : Int32 := (if letter = (97 : Int32) then (1 : Int32) else (if letter = (98 : Int32) then (3 : Int32) else (if letter = (99 : Int32) then (1 : Int32) else (if letter = (100 : Int32) then (0 : Int32) else (if letter = (101 : Int32) then (0 : Int32) else (if letter = (102 : Int32) then (0 : Int32) else (if letter = (103 : Int32) then (0 : Int32) else (if letter = (104 : Int32) then (3 : Int32) else (if letter = (105 : Int32) then (0 : Int32) else (if letter = (106 : Int32) then (0 : Int32) else (if letter = (107 : Int32) then (0 : Int32) else (if letter = (108 : Int32) then (0 : Int32) else (if letter = (109 : Int32) then (0 : Int32) else (if letter = (110 : Int32) then (0 : Int32) else (if letter = (111 : Int32) then (0 : Int32) else (if letter = (112 : Int32) then (2 : Int32) else (if letter = (113 : Int32) then (4 : Int32) else (if letter = (114 : Int32) then (1 : Int32) else (if letter = (115 : Int32) then (0 : Int32) else (if letter = (116 : Int32) then (0 : Int32) else (if letter = (117 : Int32) then (0 : Int32) else (if letter = (118 : Int32) then (0 : Int32) else (if letter = (119 : Int32) then (1 : Int32) else (0 : Int32))))))))))))))))))))))))
set_option maxHeartbeats 4000000 in
set_option maxRecDepth 100000 in
theorem c_X5_numbersOf (l : Launch) (E : wV) (letter : Int32) : MetI l yX5_numbersOf wsX5_numbersOf ({ frames := 0, cells := 0, slots := 0, locals := 0 } : Room) E ([.int letter] : List Value) [] (fun (r : Int32) (_ : Unit) => r = F_X5_numbersOf letter) (fun (_ : Unit) => []) := by
  refine MetI.of (cc := cX5_numbersOf) (maxL := 1) (own := RX5) (by decide) rfl rfl (Nat.le_of_ble_eq_true rfl) ?_
  intro p e s m below meth c A Q ls cx hP hD hS hl hq
  obtain ⟨hx, hb, hml, hown, hts, hE, hA⟩ := id cx
  have hl : lv_has ls 1 [(0, .int letter)] := hl
  have hP : va_P E.1 vwCl [] s.heap := hP
  obtain ⟨ρ, hρ0⟩ : ∃ ρ, F_X5_numbersOf letter = ρ := ⟨_, rfl⟩
  have hρ := hρ0.symm
  unfold F_X5_numbersOf at hρ
  refine lv_iload_n hx hb dX5_numbersOf_0 rfl (lv_at hl 0 rfl) ?_
  by_cases c1_0 : letter = (97 : Int32)
  · rw [if_pos c1_0] at hρ
    refine lv_tableIn (tgt := 114) hx hb dX5_numbersOf_1 (by rw [c1_0]; decide) (by rw [c1_0]; decide) (by rw [c1_0]; rfl) (by decide) ?_
    refine lv_iconst (v := (1 : Int32)) hx hb dX5_numbersOf_114 (by decide) ?_
    exact hq (1 : Int32) () _ _ _ _ dX5_numbersOf_115 rfl (hρ0.trans hρ).symm hP hD hS
  · rw [if_neg c1_0] at hρ
    by_cases c1_1 : letter = (98 : Int32)
    · rw [if_pos c1_1] at hρ
      refine lv_tableIn (tgt := 110) hx hb dX5_numbersOf_1 (by rw [c1_1]; decide) (by rw [c1_1]; decide) (by rw [c1_1]; rfl) (by decide) ?_
      refine lv_iconst (v := (3 : Int32)) hx hb dX5_numbersOf_110 (by decide) ?_
      exact hq (3 : Int32) () _ _ _ _ dX5_numbersOf_111 rfl (hρ0.trans hρ).symm hP hD hS
    · rw [if_neg c1_1] at hρ
      by_cases c1_2 : letter = (99 : Int32)
      · rw [if_pos c1_2] at hρ
        refine lv_tableIn (tgt := 114) hx hb dX5_numbersOf_1 (by rw [c1_2]; decide) (by rw [c1_2]; decide) (by rw [c1_2]; rfl) (by decide) ?_
        refine lv_iconst (v := (1 : Int32)) hx hb dX5_numbersOf_114 (by decide) ?_
        exact hq (1 : Int32) () _ _ _ _ dX5_numbersOf_115 rfl (hρ0.trans hρ).symm hP hD hS
      · rw [if_neg c1_2] at hρ
        by_cases c1_3 : letter = (100 : Int32)
        · rw [if_pos c1_3] at hρ
          refine lv_tableIn (tgt := 116) hx hb dX5_numbersOf_1 (by rw [c1_3]; decide) (by rw [c1_3]; decide) (by rw [c1_3]; rfl) (by decide) ?_
          refine lv_iconst (v := (0 : Int32)) hx hb dX5_numbersOf_116 (by decide) ?_
          exact hq (0 : Int32) () _ _ _ _ dX5_numbersOf_117 rfl (hρ0.trans hρ).symm hP hD hS
        · rw [if_neg c1_3] at hρ
          by_cases c1_4 : letter = (101 : Int32)
          · rw [if_pos c1_4] at hρ
            refine lv_tableIn (tgt := 116) hx hb dX5_numbersOf_1 (by rw [c1_4]; decide) (by rw [c1_4]; decide) (by rw [c1_4]; rfl) (by decide) ?_
            refine lv_iconst (v := (0 : Int32)) hx hb dX5_numbersOf_116 (by decide) ?_
            exact hq (0 : Int32) () _ _ _ _ dX5_numbersOf_117 rfl (hρ0.trans hρ).symm hP hD hS
          · rw [if_neg c1_4] at hρ
            by_cases c1_5 : letter = (102 : Int32)
            · rw [if_pos c1_5] at hρ
              refine lv_tableIn (tgt := 116) hx hb dX5_numbersOf_1 (by rw [c1_5]; decide) (by rw [c1_5]; decide) (by rw [c1_5]; rfl) (by decide) ?_
              refine lv_iconst (v := (0 : Int32)) hx hb dX5_numbersOf_116 (by decide) ?_
              exact hq (0 : Int32) () _ _ _ _ dX5_numbersOf_117 rfl (hρ0.trans hρ).symm hP hD hS
            · rw [if_neg c1_5] at hρ
              by_cases c1_6 : letter = (103 : Int32)
              · rw [if_pos c1_6] at hρ
                refine lv_tableIn (tgt := 116) hx hb dX5_numbersOf_1 (by rw [c1_6]; decide) (by rw [c1_6]; decide) (by rw [c1_6]; rfl) (by decide) ?_
                refine lv_iconst (v := (0 : Int32)) hx hb dX5_numbersOf_116 (by decide) ?_
                exact hq (0 : Int32) () _ _ _ _ dX5_numbersOf_117 rfl (hρ0.trans hρ).symm hP hD hS
              · rw [if_neg c1_6] at hρ
                by_cases c1_7 : letter = (104 : Int32)
                · rw [if_pos c1_7] at hρ
                  refine lv_tableIn (tgt := 110) hx hb dX5_numbersOf_1 (by rw [c1_7]; decide) (by rw [c1_7]; decide) (by rw [c1_7]; rfl) (by decide) ?_
                  refine lv_iconst (v := (3 : Int32)) hx hb dX5_numbersOf_110 (by decide) ?_
                  exact hq (3 : Int32) () _ _ _ _ dX5_numbersOf_111 rfl (hρ0.trans hρ).symm hP hD hS
                · rw [if_neg c1_7] at hρ
                  by_cases c1_8 : letter = (105 : Int32)
                  · rw [if_pos c1_8] at hρ
                    refine lv_tableIn (tgt := 116) hx hb dX5_numbersOf_1 (by rw [c1_8]; decide) (by rw [c1_8]; decide) (by rw [c1_8]; rfl) (by decide) ?_
                    refine lv_iconst (v := (0 : Int32)) hx hb dX5_numbersOf_116 (by decide) ?_
                    exact hq (0 : Int32) () _ _ _ _ dX5_numbersOf_117 rfl (hρ0.trans hρ).symm hP hD hS
                  · rw [if_neg c1_8] at hρ
                    by_cases c1_9 : letter = (106 : Int32)
                    · rw [if_pos c1_9] at hρ
                      refine lv_tableIn (tgt := 116) hx hb dX5_numbersOf_1 (by rw [c1_9]; decide) (by rw [c1_9]; decide) (by rw [c1_9]; rfl) (by decide) ?_
                      refine lv_iconst (v := (0 : Int32)) hx hb dX5_numbersOf_116 (by decide) ?_
                      exact hq (0 : Int32) () _ _ _ _ dX5_numbersOf_117 rfl (hρ0.trans hρ).symm hP hD hS
                    · rw [if_neg c1_9] at hρ
                      by_cases c1_10 : letter = (107 : Int32)
                      · rw [if_pos c1_10] at hρ
                        refine lv_tableIn (tgt := 116) hx hb dX5_numbersOf_1 (by rw [c1_10]; decide) (by rw [c1_10]; decide) (by rw [c1_10]; rfl) (by decide) ?_
                        refine lv_iconst (v := (0 : Int32)) hx hb dX5_numbersOf_116 (by decide) ?_
                        exact hq (0 : Int32) () _ _ _ _ dX5_numbersOf_117 rfl (hρ0.trans hρ).symm hP hD hS
                      · rw [if_neg c1_10] at hρ
                        by_cases c1_11 : letter = (108 : Int32)
                        · rw [if_pos c1_11] at hρ
                          refine lv_tableIn (tgt := 116) hx hb dX5_numbersOf_1 (by rw [c1_11]; decide) (by rw [c1_11]; decide) (by rw [c1_11]; rfl) (by decide) ?_
                          refine lv_iconst (v := (0 : Int32)) hx hb dX5_numbersOf_116 (by decide) ?_
                          exact hq (0 : Int32) () _ _ _ _ dX5_numbersOf_117 rfl (hρ0.trans hρ).symm hP hD hS
                        · rw [if_neg c1_11] at hρ
                          by_cases c1_12 : letter = (109 : Int32)
                          · rw [if_pos c1_12] at hρ
                            refine lv_tableIn (tgt := 116) hx hb dX5_numbersOf_1 (by rw [c1_12]; decide) (by rw [c1_12]; decide) (by rw [c1_12]; rfl) (by decide) ?_
                            refine lv_iconst (v := (0 : Int32)) hx hb dX5_numbersOf_116 (by decide) ?_
                            exact hq (0 : Int32) () _ _ _ _ dX5_numbersOf_117 rfl (hρ0.trans hρ).symm hP hD hS
                          · rw [if_neg c1_12] at hρ
                            by_cases c1_13 : letter = (110 : Int32)
                            · rw [if_pos c1_13] at hρ
                              refine lv_tableIn (tgt := 116) hx hb dX5_numbersOf_1 (by rw [c1_13]; decide) (by rw [c1_13]; decide) (by rw [c1_13]; rfl) (by decide) ?_
                              refine lv_iconst (v := (0 : Int32)) hx hb dX5_numbersOf_116 (by decide) ?_
                              exact hq (0 : Int32) () _ _ _ _ dX5_numbersOf_117 rfl (hρ0.trans hρ).symm hP hD hS
                            · rw [if_neg c1_13] at hρ
                              by_cases c1_14 : letter = (111 : Int32)
                              · rw [if_pos c1_14] at hρ
                                refine lv_tableIn (tgt := 116) hx hb dX5_numbersOf_1 (by rw [c1_14]; decide) (by rw [c1_14]; decide) (by rw [c1_14]; rfl) (by decide) ?_
                                refine lv_iconst (v := (0 : Int32)) hx hb dX5_numbersOf_116 (by decide) ?_
                                exact hq (0 : Int32) () _ _ _ _ dX5_numbersOf_117 rfl (hρ0.trans hρ).symm hP hD hS
                              · rw [if_neg c1_14] at hρ
                                by_cases c1_15 : letter = (112 : Int32)
                                · rw [if_pos c1_15] at hρ
                                  refine lv_tableIn (tgt := 112) hx hb dX5_numbersOf_1 (by rw [c1_15]; decide) (by rw [c1_15]; decide) (by rw [c1_15]; rfl) (by decide) ?_
                                  refine lv_iconst (v := (2 : Int32)) hx hb dX5_numbersOf_112 (by decide) ?_
                                  exact hq (2 : Int32) () _ _ _ _ dX5_numbersOf_113 rfl (hρ0.trans hρ).symm hP hD hS
                                · rw [if_neg c1_15] at hρ
                                  by_cases c1_16 : letter = (113 : Int32)
                                  · rw [if_pos c1_16] at hρ
                                    refine lv_tableIn (tgt := 108) hx hb dX5_numbersOf_1 (by rw [c1_16]; decide) (by rw [c1_16]; decide) (by rw [c1_16]; rfl) (by decide) ?_
                                    refine lv_iconst (v := (4 : Int32)) hx hb dX5_numbersOf_108 (by decide) ?_
                                    exact hq (4 : Int32) () _ _ _ _ dX5_numbersOf_109 rfl (hρ0.trans hρ).symm hP hD hS
                                  · rw [if_neg c1_16] at hρ
                                    by_cases c1_17 : letter = (114 : Int32)
                                    · rw [if_pos c1_17] at hρ
                                      refine lv_tableIn (tgt := 114) hx hb dX5_numbersOf_1 (by rw [c1_17]; decide) (by rw [c1_17]; decide) (by rw [c1_17]; rfl) (by decide) ?_
                                      refine lv_iconst (v := (1 : Int32)) hx hb dX5_numbersOf_114 (by decide) ?_
                                      exact hq (1 : Int32) () _ _ _ _ dX5_numbersOf_115 rfl (hρ0.trans hρ).symm hP hD hS
                                    · rw [if_neg c1_17] at hρ
                                      by_cases c1_18 : letter = (115 : Int32)
                                      · rw [if_pos c1_18] at hρ
                                        refine lv_tableIn (tgt := 116) hx hb dX5_numbersOf_1 (by rw [c1_18]; decide) (by rw [c1_18]; decide) (by rw [c1_18]; rfl) (by decide) ?_
                                        refine lv_iconst (v := (0 : Int32)) hx hb dX5_numbersOf_116 (by decide) ?_
                                        exact hq (0 : Int32) () _ _ _ _ dX5_numbersOf_117 rfl (hρ0.trans hρ).symm hP hD hS
                                      · rw [if_neg c1_18] at hρ
                                        by_cases c1_19 : letter = (116 : Int32)
                                        · rw [if_pos c1_19] at hρ
                                          refine lv_tableIn (tgt := 116) hx hb dX5_numbersOf_1 (by rw [c1_19]; decide) (by rw [c1_19]; decide) (by rw [c1_19]; rfl) (by decide) ?_
                                          refine lv_iconst (v := (0 : Int32)) hx hb dX5_numbersOf_116 (by decide) ?_
                                          exact hq (0 : Int32) () _ _ _ _ dX5_numbersOf_117 rfl (hρ0.trans hρ).symm hP hD hS
                                        · rw [if_neg c1_19] at hρ
                                          by_cases c1_20 : letter = (117 : Int32)
                                          · rw [if_pos c1_20] at hρ
                                            refine lv_tableIn (tgt := 116) hx hb dX5_numbersOf_1 (by rw [c1_20]; decide) (by rw [c1_20]; decide) (by rw [c1_20]; rfl) (by decide) ?_
                                            refine lv_iconst (v := (0 : Int32)) hx hb dX5_numbersOf_116 (by decide) ?_
                                            exact hq (0 : Int32) () _ _ _ _ dX5_numbersOf_117 rfl (hρ0.trans hρ).symm hP hD hS
                                          · rw [if_neg c1_20] at hρ
                                            by_cases c1_21 : letter = (118 : Int32)
                                            · rw [if_pos c1_21] at hρ
                                              refine lv_tableIn (tgt := 116) hx hb dX5_numbersOf_1 (by rw [c1_21]; decide) (by rw [c1_21]; decide) (by rw [c1_21]; rfl) (by decide) ?_
                                              refine lv_iconst (v := (0 : Int32)) hx hb dX5_numbersOf_116 (by decide) ?_
                                              exact hq (0 : Int32) () _ _ _ _ dX5_numbersOf_117 rfl (hρ0.trans hρ).symm hP hD hS
                                            · rw [if_neg c1_21] at hρ
                                              by_cases c1_22 : letter = (119 : Int32)
                                              · rw [if_pos c1_22] at hρ
                                                refine lv_tableIn (tgt := 114) hx hb dX5_numbersOf_1 (by rw [c1_22]; decide) (by rw [c1_22]; decide) (by rw [c1_22]; rfl) (by decide) ?_
                                                refine lv_iconst (v := (1 : Int32)) hx hb dX5_numbersOf_114 (by decide) ?_
                                                exact hq (1 : Int32) () _ _ _ _ dX5_numbersOf_115 rfl (hρ0.trans hρ).symm hP hD hS
                                              · rw [if_neg c1_22] at hρ
                                                refine lv_tableOut (tgt := 116) hx hb dX5_numbersOf_1 (by have q0 := lv_neT c1_0 (a := 97) (by decide); have q1 := lv_neT c1_1 (a := 98) (by decide); have q2 := lv_neT c1_2 (a := 99) (by decide); have q3 := lv_neT c1_3 (a := 100) (by decide); have q4 := lv_neT c1_4 (a := 101) (by decide); have q5 := lv_neT c1_5 (a := 102) (by decide); have q6 := lv_neT c1_6 (a := 103) (by decide); have q7 := lv_neT c1_7 (a := 104) (by decide); have q8 := lv_neT c1_8 (a := 105) (by decide); have q9 := lv_neT c1_9 (a := 106) (by decide); have q10 := lv_neT c1_10 (a := 107) (by decide); have q11 := lv_neT c1_11 (a := 108) (by decide); have q12 := lv_neT c1_12 (a := 109) (by decide); have q13 := lv_neT c1_13 (a := 110) (by decide); have q14 := lv_neT c1_14 (a := 111) (by decide); have q15 := lv_neT c1_15 (a := 112) (by decide); have q16 := lv_neT c1_16 (a := 113) (by decide); have q17 := lv_neT c1_17 (a := 114) (by decide); have q18 := lv_neT c1_18 (a := 115) (by decide); have q19 := lv_neT c1_19 (a := 116) (by decide); have q20 := lv_neT c1_20 (a := 117) (by decide); have q21 := lv_neT c1_21 (a := 118) (by decide); have q22 := lv_neT c1_22 (a := 119) (by decide); omega) (by decide) ?_
                                                refine lv_iconst (v := (0 : Int32)) hx hb dX5_numbersOf_116 (by decide) ?_
                                                exact hq (0 : Int32) () _ _ _ _ dX5_numbersOf_117 rfl (hρ0.trans hρ).symm hP hD hS
def F_X5_takeStuff_k116 (re_stuffNumbers : Nat → Int32) (re_numbers : Nat → Int32) (v1 : Int32) (v7 : Int32) : Int32 × Int32 × (Nat → Int32) := ((1 : Int32), v7, (va_cpy re_numbers re_stuffNumbers 0 (Int32.toNatClampNeg v1) 4))
def F_X5_takeStuff_k9 (re_rig : Nat → Int32) (re_stuffNumbers : Nat → Int32) (re_numbers : Nat → Int32) (v1 : Int32) : Int32 × Int32 × (Nat → Int32) := (if (F_X9_within (re_numbers 0) (1 : Int32) (99 : Int32)) = (0 : Int32) then ((0 : Int32), (re_rig 0), re_stuffNumbers) else (if (F_X9_within (re_numbers 1) (0 : Int32) (90 : Int32)) = (0 : Int32) then ((0 : Int32), (re_rig 0), re_stuffNumbers) else (if (F_X9_within (re_numbers 2) (1 : Int32) (40 : Int32)) = (0 : Int32) then ((0 : Int32), (re_rig 0), re_stuffNumbers) else (if (F_X9_within (re_numbers 3) (re_numbers 2) (99 : Int32)) = (0 : Int32) then ((0 : Int32), (re_rig 0), re_stuffNumbers) else (if (F_X9_within v1 (0 : Int32) ((16 : Int32) - (4 : Int32))) = (0 : Int32) then ((0 : Int32), (re_rig 0), re_stuffNumbers) else F_X5_takeStuff_k116 re_stuffNumbers re_numbers v1 ((re_rig 0) + (1 : Int32)))))))
def F_X5_takeStuff (re_rig : Nat → Int32) (re_stuffNumbers : Nat → Int32) (re_numbers : Nat → Int32) : Int32 × Int32 × (Nat → Int32) := F_X5_takeStuff_k9 re_rig re_stuffNumbers re_numbers ((4 : Int32) * (re_rig 0))
theorem iX5_takeStuff_X5 : ∀ w ∈ wsX50, w ∈ wsX5_takeStuff := fun _ h => List.mem_cons_of_mem _ (List.mem_append_left _ (List.mem_append_right _ h))
theorem iX5_takeStuff_X6 : ∀ w ∈ wsX60, w ∈ wsX5_takeStuff := fun _ h => List.mem_cons_of_mem _ (List.mem_append_right _ h)
set_option maxHeartbeats 4000000 in
set_option maxRecDepth 100000 in
theorem c_X5_takeStuff (l : Launch) (E : wV) (h_re : Nat) (a_re : Nat → Nat) (re_rig : Nat → Int32) (re_stuffNumbers : Nat → Int32) (re_numbers : Nat → Int32) : MetI l yX5_takeStuff wsX5_takeStuff ({ frames := 1, cells := 0, slots := 0, locals := 40 } : Room) E ([.ref h_re] : List Value) [xReader h_re a_re, xRig (a_re 0) re_rig, xI E (a_re 1) 16 re_stuffNumbers, xI E (a_re 2) 4 re_numbers] (fun (r : Int32) (u : Int32 × (Nat → Int32)) => F_X5_takeStuff re_rig re_stuffNumbers re_numbers = (r, u)) (fun (u : Int32 × (Nat → Int32)) => [xReader h_re a_re, xRig (a_re 0) (upd re_rig 0 u.1), xI E (a_re 1) 16 u.2, xI E (a_re 2) 4 re_numbers]) := by
  refine MetI.of (cc := cX5_takeStuff) (maxL := 2) (own := RX5) (by decide) rfl rfl (Nat.le_of_ble_eq_true rfl) ?_
  intro p e s m below meth c A Q ls cx hP hD hS hl hq
  obtain ⟨hx, hb, hml, hown, hts, hE, hA⟩ := id cx
  have hl : lv_has ls 2 [(0, .ref h_re)] := hl
  have hP : va_P E.1 vwCl [xReader h_re a_re, xRig (a_re 0) re_rig, xI E (a_re 1) 16 re_stuffNumbers, xI E (a_re 2) 4 re_numbers] s.heap := hP
  obtain ⟨ρ, hρ0⟩ : ∃ ρ, F_X5_takeStuff re_rig re_stuffNumbers re_numbers = ρ := ⟨_, rfl⟩
  have hρ := hρ0.symm
  unfold F_X5_takeStuff at hρ
  refine lv_iconst (v := (4 : Int32)) hx hb dX5_takeStuff_0 (by decide) ?_
  refine lv_aload_n hx hb dX5_takeStuff_1 rfl (lv_at hl 0 rfl) ?_
  refine va_get (D := E.1) (ci := 5) (v := .ref (a_re 0)) (C := RX5) (T := TX5) (N := 3) hx hb hts iX5_takeStuff_X5 hown hE.1 hP 0 rfl rfl 0 (by decide) (hts (.fieldLink RX5 12 "BandBoat$Reader" "rig" "LBandBoat$Rig;") (List.mem_of_getElem? (i := 1) rfl)) (fun _ h9 => h9) rfl dX5_takeStuff_2 ?_
  refine va_getN (D := E.1) (ci := 6) (v := .int (re_rig 0)) (C := RX6) (T := TX6) (N := 17) hx hb hts iX5_takeStuff_X6 hown hE.1 hP 1 rfl rfl 0 (by decide) (hE.n 3 rfl) (fun _ h9 => h9) rfl dX5_takeStuff_5 ?_
  refine lv_imul hx hb dX5_takeStuff_8 ?_
  refine lv_topi (fun v1 ev1 => ?_)
  have hρ : ρ = F_X5_takeStuff_k9 re_rig re_stuffNumbers re_numbers v1 := by rw [ev1]; exact hρ
  unfold F_X5_takeStuff_k9 at hρ
  refine lv_istore_n (lv' := [(1, .int v1), (0, .ref h_re)]) hx hb dX5_takeStuff_9 rfl hl (by decide) rfl (fun ls hl => ?_)
  refine lv_aload_n hx hb dX5_takeStuff_10 rfl (lv_at hl 1 rfl) ?_
  refine va_get (D := E.1) (ci := 5) (v := .ref (a_re 2)) (C := RX5) (T := TX5) (N := 3) hx hb hts iX5_takeStuff_X5 hown hE.1 hP 0 rfl rfl 2 (by decide) (hts (.fieldLink RX5 22 "BandBoat$Reader" "numbers" "[I") (List.mem_of_getElem? (i := 2) rfl)) (fun _ h9 => h9) rfl dX5_takeStuff_11 ?_
  refine lv_iconst (v := (0 : Int32)) hx hb dX5_takeStuff_14 (by decide) ?_
  refine ar_ild (k := 0) (v := (re_numbers 0)) hx hb hE hP 3 rfl (by unfold vp_in; decide) rfl rfl dX5_takeStuff_15 ?_
  refine lv_iconst (v := (1 : Int32)) hx hb dX5_takeStuff_16 (by decide) ?_
  refine lv_bipush (v := (99 : Int32)) hx hb dX5_takeStuff_17 (by decide) ?_
  refine kI (wc := []) (wr := [xReader h_re a_re, xRig (a_re 0) re_rig, xI E (a_re 1) 16 re_stuffNumbers, xI E (a_re 2) 4 re_numbers]) (wc' := (fun (_ : Unit) => [])) (wn := (fun (_ : Unit) => [xReader h_re a_re, xRig (a_re 0) re_rig, xI E (a_re 1) 16 re_stuffNumbers, xI E (a_re 2) 4 re_numbers])) (isC := []) (isR := [0, 1, 2, 3]) (is2 := [0, 1, 2, 3]) cx hP hD hS ⟨rfl, rfl, by decide, by decide, by decide, by decide, fun _ => rfl⟩ (rSN (As := [.int (re_numbers 0), .int (1 : Int32), .int (99 : Int32)]) (rest := []) cx (c_X9_within l E (re_numbers 0) (1 : Int32) (99 : Int32) _) (va_cnB 3 hts gX5_takeStuff_X9_within_n53 rfl rfl rfl (hE.nw 83 rfl) (hts (.initialized RX9) (List.mem_of_getElem? (i := 9) rfl)) (by decide +kernel) ⟨Nat.le_of_ble_eq_true rfl, Nat.le_of_ble_eq_true rfl⟩) (hts (.static yX9_within) (List.mem_of_getElem? (i := 8) rfl)) rfl hl.1 rfl (Nat.le_of_ble_eq_true rfl) dX5_takeStuff_19 ⟨Nat.zero_le _, Nat.zero_le _⟩) (fun r2 u H locs hw hP hD hS => ?_)
  subst hw
  refine lv_if_eq (tgt := 90) hx hb dX5_takeStuff_22 (by decide) (fun c22 => ?_) (fun c22 => ?_)
  · rw [if_pos c22] at hρ
    refine lv_iconst (v := (0 : Int32)) hx hb dX5_takeStuff_90 (by decide) ?_
    exact hq (0 : Int32) ((re_rig 0), re_stuffNumbers) _ _ _ _ dX5_takeStuff_91 rfl (hρ0.trans hρ) hP hD hS
  · rw [if_neg c22] at hρ
    refine lv_aload_n hx hb dX5_takeStuff_25 rfl (lv_at hl 1 rfl) ?_
    refine va_get (D := E.1) (ci := 5) (v := .ref (a_re 2)) (C := RX5) (T := TX5) (N := 3) hx hb hts iX5_takeStuff_X5 hown hE.1 hP 0 rfl rfl 2 (by decide) (hts (.fieldLink RX5 22 "BandBoat$Reader" "numbers" "[I") (List.mem_of_getElem? (i := 2) rfl)) (fun _ h9 => h9) rfl dX5_takeStuff_26 ?_
    refine lv_iconst (v := (1 : Int32)) hx hb dX5_takeStuff_29 (by decide) ?_
    refine ar_ild (k := 1) (v := (re_numbers 1)) hx hb hE hP 3 rfl (by unfold vp_in; decide) rfl rfl dX5_takeStuff_30 ?_
    refine lv_iconst (v := (0 : Int32)) hx hb dX5_takeStuff_31 (by decide) ?_
    refine lv_bipush (v := (90 : Int32)) hx hb dX5_takeStuff_32 (by decide) ?_
    refine kI (wc := []) (wr := [xReader h_re a_re, xRig (a_re 0) re_rig, xI E (a_re 1) 16 re_stuffNumbers, xI E (a_re 2) 4 re_numbers]) (wc' := (fun (_ : Unit) => [])) (wn := (fun (_ : Unit) => [xReader h_re a_re, xRig (a_re 0) re_rig, xI E (a_re 1) 16 re_stuffNumbers, xI E (a_re 2) 4 re_numbers])) (isC := []) (isR := [0, 1, 2, 3]) (is2 := [0, 1, 2, 3]) cx hP hD hS ⟨rfl, rfl, by decide, by decide, by decide, by decide, fun _ => rfl⟩ (rSN (As := [.int (re_numbers 1), .int (0 : Int32), .int (90 : Int32)]) (rest := []) cx (c_X9_within l E (re_numbers 1) (0 : Int32) (90 : Int32) _) (va_cnB 3 hts gX5_takeStuff_X9_within_n53 rfl rfl rfl (hE.nw 83 rfl) (hts (.initialized RX9) (List.mem_of_getElem? (i := 9) rfl)) (by decide +kernel) ⟨Nat.le_of_ble_eq_true rfl, Nat.le_of_ble_eq_true rfl⟩) (hts (.static yX9_within) (List.mem_of_getElem? (i := 8) rfl)) rfl hl.1 rfl (Nat.le_of_ble_eq_true rfl) dX5_takeStuff_34 ⟨Nat.zero_le _, Nat.zero_le _⟩) (fun r3 u H locs hw hP hD hS => ?_)
    subst hw
    refine lv_if_eq (tgt := 90) hx hb dX5_takeStuff_37 (by decide) (fun c37 => ?_) (fun c37 => ?_)
    · rw [if_pos c37] at hρ
      refine lv_iconst (v := (0 : Int32)) hx hb dX5_takeStuff_90 (by decide) ?_
      exact hq (0 : Int32) ((re_rig 0), re_stuffNumbers) _ _ _ _ dX5_takeStuff_91 rfl (hρ0.trans hρ) hP hD hS
    · rw [if_neg c37] at hρ
      refine lv_aload_n hx hb dX5_takeStuff_40 rfl (lv_at hl 1 rfl) ?_
      refine va_get (D := E.1) (ci := 5) (v := .ref (a_re 2)) (C := RX5) (T := TX5) (N := 3) hx hb hts iX5_takeStuff_X5 hown hE.1 hP 0 rfl rfl 2 (by decide) (hts (.fieldLink RX5 22 "BandBoat$Reader" "numbers" "[I") (List.mem_of_getElem? (i := 2) rfl)) (fun _ h9 => h9) rfl dX5_takeStuff_41 ?_
      refine lv_iconst (v := (2 : Int32)) hx hb dX5_takeStuff_44 (by decide) ?_
      refine ar_ild (k := 2) (v := (re_numbers 2)) hx hb hE hP 3 rfl (by unfold vp_in; decide) rfl rfl dX5_takeStuff_45 ?_
      refine lv_iconst (v := (1 : Int32)) hx hb dX5_takeStuff_46 (by decide) ?_
      refine lv_bipush (v := (40 : Int32)) hx hb dX5_takeStuff_47 (by decide) ?_
      refine kI (wc := []) (wr := [xReader h_re a_re, xRig (a_re 0) re_rig, xI E (a_re 1) 16 re_stuffNumbers, xI E (a_re 2) 4 re_numbers]) (wc' := (fun (_ : Unit) => [])) (wn := (fun (_ : Unit) => [xReader h_re a_re, xRig (a_re 0) re_rig, xI E (a_re 1) 16 re_stuffNumbers, xI E (a_re 2) 4 re_numbers])) (isC := []) (isR := [0, 1, 2, 3]) (is2 := [0, 1, 2, 3]) cx hP hD hS ⟨rfl, rfl, by decide, by decide, by decide, by decide, fun _ => rfl⟩ (rSN (As := [.int (re_numbers 2), .int (1 : Int32), .int (40 : Int32)]) (rest := []) cx (c_X9_within l E (re_numbers 2) (1 : Int32) (40 : Int32) _) (va_cnB 3 hts gX5_takeStuff_X9_within_n53 rfl rfl rfl (hE.nw 83 rfl) (hts (.initialized RX9) (List.mem_of_getElem? (i := 9) rfl)) (by decide +kernel) ⟨Nat.le_of_ble_eq_true rfl, Nat.le_of_ble_eq_true rfl⟩) (hts (.static yX9_within) (List.mem_of_getElem? (i := 8) rfl)) rfl hl.1 rfl (Nat.le_of_ble_eq_true rfl) dX5_takeStuff_49 ⟨Nat.zero_le _, Nat.zero_le _⟩) (fun r4 u H locs hw hP hD hS => ?_)
      subst hw
      refine lv_if_eq (tgt := 90) hx hb dX5_takeStuff_52 (by decide) (fun c52 => ?_) (fun c52 => ?_)
      · rw [if_pos c52] at hρ
        refine lv_iconst (v := (0 : Int32)) hx hb dX5_takeStuff_90 (by decide) ?_
        exact hq (0 : Int32) ((re_rig 0), re_stuffNumbers) _ _ _ _ dX5_takeStuff_91 rfl (hρ0.trans hρ) hP hD hS
      · rw [if_neg c52] at hρ
        refine lv_aload_n hx hb dX5_takeStuff_55 rfl (lv_at hl 1 rfl) ?_
        refine va_get (D := E.1) (ci := 5) (v := .ref (a_re 2)) (C := RX5) (T := TX5) (N := 3) hx hb hts iX5_takeStuff_X5 hown hE.1 hP 0 rfl rfl 2 (by decide) (hts (.fieldLink RX5 22 "BandBoat$Reader" "numbers" "[I") (List.mem_of_getElem? (i := 2) rfl)) (fun _ h9 => h9) rfl dX5_takeStuff_56 ?_
        refine lv_iconst (v := (3 : Int32)) hx hb dX5_takeStuff_59 (by decide) ?_
        refine ar_ild (k := 3) (v := (re_numbers 3)) hx hb hE hP 3 rfl (by unfold vp_in; decide) rfl rfl dX5_takeStuff_60 ?_
        refine lv_aload_n hx hb dX5_takeStuff_61 rfl (lv_at hl 1 rfl) ?_
        refine va_get (D := E.1) (ci := 5) (v := .ref (a_re 2)) (C := RX5) (T := TX5) (N := 3) hx hb hts iX5_takeStuff_X5 hown hE.1 hP 0 rfl rfl 2 (by decide) (hts (.fieldLink RX5 22 "BandBoat$Reader" "numbers" "[I") (List.mem_of_getElem? (i := 2) rfl)) (fun _ h9 => h9) rfl dX5_takeStuff_62 ?_
        refine lv_iconst (v := (2 : Int32)) hx hb dX5_takeStuff_65 (by decide) ?_
        refine ar_ild (k := 2) (v := (re_numbers 2)) hx hb hE hP 3 rfl (by unfold vp_in; decide) rfl rfl dX5_takeStuff_66 ?_
        refine lv_bipush (v := (99 : Int32)) hx hb dX5_takeStuff_67 (by decide) ?_
        refine kI (wc := []) (wr := [xReader h_re a_re, xRig (a_re 0) re_rig, xI E (a_re 1) 16 re_stuffNumbers, xI E (a_re 2) 4 re_numbers]) (wc' := (fun (_ : Unit) => [])) (wn := (fun (_ : Unit) => [xReader h_re a_re, xRig (a_re 0) re_rig, xI E (a_re 1) 16 re_stuffNumbers, xI E (a_re 2) 4 re_numbers])) (isC := []) (isR := [0, 1, 2, 3]) (is2 := [0, 1, 2, 3]) cx hP hD hS ⟨rfl, rfl, by decide, by decide, by decide, by decide, fun _ => rfl⟩ (rSN (As := [.int (re_numbers 3), .int (re_numbers 2), .int (99 : Int32)]) (rest := []) cx (c_X9_within l E (re_numbers 3) (re_numbers 2) (99 : Int32) _) (va_cnB 3 hts gX5_takeStuff_X9_within_n53 rfl rfl rfl (hE.nw 83 rfl) (hts (.initialized RX9) (List.mem_of_getElem? (i := 9) rfl)) (by decide +kernel) ⟨Nat.le_of_ble_eq_true rfl, Nat.le_of_ble_eq_true rfl⟩) (hts (.static yX9_within) (List.mem_of_getElem? (i := 8) rfl)) rfl hl.1 rfl (Nat.le_of_ble_eq_true rfl) dX5_takeStuff_69 ⟨Nat.zero_le _, Nat.zero_le _⟩) (fun r5 u H locs hw hP hD hS => ?_)
        subst hw
        refine lv_if_eq (tgt := 90) hx hb dX5_takeStuff_72 (by decide) (fun c72 => ?_) (fun c72 => ?_)
        · rw [if_pos c72] at hρ
          refine lv_iconst (v := (0 : Int32)) hx hb dX5_takeStuff_90 (by decide) ?_
          exact hq (0 : Int32) ((re_rig 0), re_stuffNumbers) _ _ _ _ dX5_takeStuff_91 rfl (hρ0.trans hρ) hP hD hS
        · rw [if_neg c72] at hρ
          refine lv_iload_n hx hb dX5_takeStuff_75 rfl (lv_at hl 0 rfl) ?_
          refine lv_iconst (v := (0 : Int32)) hx hb dX5_takeStuff_76 (by decide) ?_
          refine lv_aload_n hx hb dX5_takeStuff_77 rfl (lv_at hl 1 rfl) ?_
          refine va_get (D := E.1) (ci := 5) (v := .ref (a_re 1)) (C := RX5) (T := TX5) (N := 3) hx hb hts iX5_takeStuff_X5 hown hE.1 hP 0 rfl rfl 1 (by decide) (hts (.fieldLink RX5 18 "BandBoat$Reader" "stuffNumbers" "[I") (List.mem_of_getElem? (i := 3) rfl)) (fun _ h9 => h9) rfl dX5_takeStuff_78 ?_
          refine ar_len (v := (16 : Int32)) hx hb hE hP 2 rfl rfl dX5_takeStuff_81 ?_
          refine lv_iconst (v := (4 : Int32)) hx hb dX5_takeStuff_82 (by decide) ?_
          refine lv_isub hx hb dX5_takeStuff_83 ?_
          refine kI (wc := []) (wr := [xReader h_re a_re, xRig (a_re 0) re_rig, xI E (a_re 1) 16 re_stuffNumbers, xI E (a_re 2) 4 re_numbers]) (wc' := (fun (_ : Unit) => [])) (wn := (fun (_ : Unit) => [xReader h_re a_re, xRig (a_re 0) re_rig, xI E (a_re 1) 16 re_stuffNumbers, xI E (a_re 2) 4 re_numbers])) (isC := []) (isR := [0, 1, 2, 3]) (is2 := [0, 1, 2, 3]) cx hP hD hS ⟨rfl, rfl, by decide, by decide, by decide, by decide, fun _ => rfl⟩ (rSN (As := [.int v1, .int (0 : Int32), .int ((16 : Int32) - (4 : Int32))]) (rest := []) cx (c_X9_within l E v1 (0 : Int32) ((16 : Int32) - (4 : Int32)) _) (va_cnB 3 hts gX5_takeStuff_X9_within_n53 rfl rfl rfl (hE.nw 83 rfl) (hts (.initialized RX9) (List.mem_of_getElem? (i := 9) rfl)) (by decide +kernel) ⟨Nat.le_of_ble_eq_true rfl, Nat.le_of_ble_eq_true rfl⟩) (hts (.static yX9_within) (List.mem_of_getElem? (i := 8) rfl)) rfl hl.1 rfl (Nat.le_of_ble_eq_true rfl) dX5_takeStuff_84 ⟨Nat.zero_le _, Nat.zero_le _⟩) (fun r6 u H locs hw hP hD hS => ?_)
          subst hw
          refine lv_if_ne (tgt := 92) hx hb dX5_takeStuff_87 (by decide) (fun c87 => ?_) (fun c87 => ?_)
          · rw [if_neg c87] at hρ
            refine lv_aload_n hx hb dX5_takeStuff_92 rfl (lv_at hl 1 rfl) ?_
            refine va_get (D := E.1) (ci := 5) (v := .ref (a_re 2)) (C := RX5) (T := TX5) (N := 3) hx hb hts iX5_takeStuff_X5 hown hE.1 hP 0 rfl rfl 2 (by decide) (hts (.fieldLink RX5 22 "BandBoat$Reader" "numbers" "[I") (List.mem_of_getElem? (i := 2) rfl)) (fun _ h9 => h9) rfl dX5_takeStuff_93 ?_
            refine lv_iconst (v := (0 : Int32)) hx hb dX5_takeStuff_96 (by decide) ?_
            refine lv_aload_n hx hb dX5_takeStuff_97 rfl (lv_at hl 1 rfl) ?_
            refine va_get (D := E.1) (ci := 5) (v := .ref (a_re 1)) (C := RX5) (T := TX5) (N := 3) hx hb hts iX5_takeStuff_X5 hown hE.1 hP 0 rfl rfl 1 (by decide) (hts (.fieldLink RX5 18 "BandBoat$Reader" "stuffNumbers" "[I") (List.mem_of_getElem? (i := 3) rfl)) (fun _ h9 => h9) rfl dX5_takeStuff_98 ?_
            refine lv_iload_n hx hb dX5_takeStuff_101 rfl (lv_at hl 0 rfl) ?_
            refine lv_iconst (v := (4 : Int32)) hx hb dX5_takeStuff_102 (by decide) ?_
            refine va_copyi hx hb (hml.trans hl.1.symm) hown (hts (.methodLink RX5 85 arraycopyName) (List.mem_of_getElem? (i := 4) rfl)) (hts (.native arraycopyName) (List.mem_of_getElem? (i := 5) rfl)) (hts (.static arraycopyName) (List.mem_of_getElem? (i := 6) rfl)) (hts (.initialized "java/lang/System") (List.mem_of_getElem? (i := 7) rfl)) hE.1 hP hD hS 3 2 0 0 rfl rfl rfl rfl rfl (by decide) (w_ge0 c87) (by decide) (by decide) (w_le16 c87) (fun _ _ => rfl) (by decide) (Nat.le_of_ble_eq_true rfl) dX5_takeStuff_103 (fun H locs hP hD hS => ?_)
            have hP : va_P E.1 vwCl [xReader h_re a_re, xRig (a_re 0) re_rig, xI E (a_re 1) 16 (va_cpy re_numbers re_stuffNumbers 0 (Int32.toNatClampNeg v1) 4), xI E (a_re 2) 4 re_numbers] H := hP
            have hD : va_D A [xReader h_re a_re, xRig (a_re 0) re_rig, xI E (a_re 1) 16 (va_cpy re_numbers re_stuffNumbers 0 (Int32.toNatClampNeg v1) 4), xI E (a_re 2) 4 re_numbers] := hD
            refine lv_aload_n hx hb dX5_takeStuff_106 rfl (lv_at hl 1 rfl) ?_
            refine va_get (D := E.1) (ci := 5) (v := .ref (a_re 0)) (C := RX5) (T := TX5) (N := 3) hx hb hts iX5_takeStuff_X5 hown hE.1 hP 0 rfl rfl 0 (by decide) (hts (.fieldLink RX5 12 "BandBoat$Reader" "rig" "LBandBoat$Rig;") (List.mem_of_getElem? (i := 1) rfl)) (fun _ h9 => h9) rfl dX5_takeStuff_107 ?_
            refine lv_dup hx hb dX5_takeStuff_110 rfl ?_
            refine va_getN (D := E.1) (ci := 6) (v := .int (re_rig 0)) (C := RX6) (T := TX6) (N := 17) hx hb hts iX5_takeStuff_X6 hown hE.1 hP 1 rfl rfl 0 (by decide) (hE.n 3 rfl) (fun _ h9 => h9) rfl dX5_takeStuff_111 ?_
            refine lv_iconst (v := (1 : Int32)) hx hb dX5_takeStuff_114 (by decide) ?_
            refine lv_iadd hx hb dX5_takeStuff_115 ?_
            refine lv_topi (fun v7 ev7 => ?_)
            have hρ : ρ = F_X5_takeStuff_k116 re_stuffNumbers re_numbers v1 v7 := by rw [ev7]; exact hρ
            unfold F_X5_takeStuff_k116 at hρ
            refine va_putN (D := E.1) (ci := 6) (v := .int v7) (ty := .int) (C := RX6) (T := TX6) (N := 17) hx hb hts iX5_takeStuff_X6 tyX6 tyX6_ok nmX6 hown hE.1 hP hD hS 1 rfl rfl 0 (by decide) (hE.n 3 rfl) (fun _ h9 => h9) rfl (by decide +kernel) rfl rfl (Nat.le_of_ble_eq_true rfl) dX5_takeStuff_116 (fun H locs hP hD hS => ?_)
            have hP : va_P E.1 vwCl [xReader h_re a_re, xRig (a_re 0) (upd re_rig 0 v7), xI E (a_re 1) 16 (va_cpy re_numbers re_stuffNumbers 0 (Int32.toNatClampNeg v1) 4), xI E (a_re 2) 4 re_numbers] H := hP
            have hD : va_D A [xReader h_re a_re, xRig (a_re 0) (upd re_rig 0 v7), xI E (a_re 1) 16 (va_cpy re_numbers re_stuffNumbers 0 (Int32.toNatClampNeg v1) 4), xI E (a_re 2) 4 re_numbers] := hD
            refine lv_iconst (v := (1 : Int32)) hx hb dX5_takeStuff_119 (by decide) ?_
            exact hq (1 : Int32) (v7, (va_cpy re_numbers re_stuffNumbers 0 (Int32.toNatClampNeg v1) 4)) _ _ _ _ dX5_takeStuff_120 rfl (hρ0.trans hρ) hP hD hS
          · rw [if_pos c87] at hρ
            refine lv_iconst (v := (0 : Int32)) hx hb dX5_takeStuff_90 (by decide) ?_
            exact hq (0 : Int32) ((re_rig 0), re_stuffNumbers) _ _ _ _ dX5_takeStuff_91 rfl (hρ0.trans hρ) hP hD hS
theorem F_X5_takeStuff_b (re_rig : Nat → Int32) (re_stuffNumbers : Nat → Int32) (re_numbers : Nat → Int32) : (F_X5_takeStuff re_rig re_stuffNumbers re_numbers).1 = 0 ∨ (F_X5_takeStuff re_rig re_stuffNumbers re_numbers).1 = 1 := by
  unfold F_X5_takeStuff F_X5_takeStuff_k9 F_X5_takeStuff_k116
  (repeat' split) <;> first | exact Or.inl rfl | exact Or.inr rfl
def F_X5_takeBand_k133 (re_rig : Nat → Int32) (re_numbers : Nat → Int32) (v6 : Int32) (v7 : Int32) (v8 : Int32) (v9 : Int32) : Int32 × (Nat → Int32) := ((1 : Int32), (upd (upd (upd (upd (upd (upd (upd re_rig 1 (1 : Int32)) 2 v6) 3 v7) 4 v8) 5 v9) 6 (re_numbers 1)) 7 (re_numbers 2)))
def F_X5_takeBand_k118 (re_rig : Nat → Int32) (re_stuffNumbers : Nat → Int32) (re_numbers : Nat → Int32) (v1 : Int32) (v6 : Int32) (v7 : Int32) (v8 : Int32) : Int32 × (Nat → Int32) := F_X5_takeBand_k133 re_rig re_numbers v6 v7 v8 (re_stuffNumbers (Int32.toNatClampNeg (v1 + (3 : Int32))))
def F_X5_takeBand_k103 (re_rig : Nat → Int32) (re_stuffNumbers : Nat → Int32) (re_numbers : Nat → Int32) (v1 : Int32) (v6 : Int32) (v7 : Int32) : Int32 × (Nat → Int32) := F_X5_takeBand_k118 re_rig re_stuffNumbers re_numbers v1 v6 v7 (re_stuffNumbers (Int32.toNatClampNeg (v1 + (2 : Int32))))
def F_X5_takeBand_k88 (re_rig : Nat → Int32) (re_stuffNumbers : Nat → Int32) (re_numbers : Nat → Int32) (v1 : Int32) (v6 : Int32) : Int32 × (Nat → Int32) := F_X5_takeBand_k103 re_rig re_stuffNumbers re_numbers v1 v6 (re_stuffNumbers (Int32.toNatClampNeg (v1 + (1 : Int32))))
def F_X5_takeBand_k8 (re_rig : Nat → Int32) (re_stuffNumbers : Nat → Int32) (re_numbers : Nat → Int32) (v1 : Int32) : Int32 × (Nat → Int32) := (if (F_X9_within (re_numbers 0) (0 : Int32) ((re_rig 0) - (1 : Int32))) = (0 : Int32) then ((0 : Int32), re_rig) else (if (F_X9_within (re_numbers 1) (1 : Int32) (8 : Int32)) = (0 : Int32) then ((0 : Int32), re_rig) else (if (F_X9_within (re_numbers 2) (1 : Int32) (40 : Int32)) = (0 : Int32) then ((0 : Int32), re_rig) else (if (F_X9_within v1 (0 : Int32) ((16 : Int32) - (4 : Int32))) = (0 : Int32) then ((0 : Int32), re_rig) else F_X5_takeBand_k88 re_rig re_stuffNumbers re_numbers v1 (re_stuffNumbers (Int32.toNatClampNeg v1))))))
def F_X5_takeBand (re_rig : Nat → Int32) (re_stuffNumbers : Nat → Int32) (re_numbers : Nat → Int32) : Int32 × (Nat → Int32) := F_X5_takeBand_k8 re_rig re_stuffNumbers re_numbers ((4 : Int32) * (re_numbers 0))
theorem iX5_takeBand_X5 : ∀ w ∈ wsX50, w ∈ wsX5_takeBand := fun _ h => List.mem_cons_of_mem _ (List.mem_append_left _ (List.mem_append_right _ h))
theorem iX5_takeBand_X6 : ∀ w ∈ wsX60, w ∈ wsX5_takeBand := fun _ h => List.mem_cons_of_mem _ (List.mem_append_right _ h)
set_option maxHeartbeats 4000000 in
set_option maxRecDepth 100000 in
theorem c_X5_takeBand (l : Launch) (E : wV) (h_re : Nat) (a_re : Nat → Nat) (re_rig : Nat → Int32) (re_stuffNumbers : Nat → Int32) (re_numbers : Nat → Int32) (hz0 : (re_rig 1) = 0 ∨ (re_rig 1) = 1) : MetI l yX5_takeBand wsX5_takeBand ({ frames := 1, cells := 0, slots := 0, locals := 22 } : Room) E ([.ref h_re] : List Value) [xReader h_re a_re, xRig (a_re 0) re_rig, xI E (a_re 1) 16 re_stuffNumbers, xI E (a_re 2) 4 re_numbers] (fun (r : Int32) (u : (Nat → Int32)) => F_X5_takeBand re_rig re_stuffNumbers re_numbers = (r, u) ∧ (((u 1)) = 0 ∨ ((u 1)) = 1)) (fun (u : (Nat → Int32)) => [xReader h_re a_re, xRig (a_re 0) u, xI E (a_re 1) 16 re_stuffNumbers, xI E (a_re 2) 4 re_numbers]) := by
  refine MetI.of (cc := cX5_takeBand) (maxL := 2) (own := RX5) (by decide) rfl rfl (Nat.le_of_ble_eq_true rfl) ?_
  intro p e s m below meth c A Q ls cx hP hD hS hl hq
  obtain ⟨hx, hb, hml, hown, hts, hE, hA⟩ := id cx
  have hl : lv_has ls 2 [(0, .ref h_re)] := hl
  have hP : va_P E.1 vwCl [xReader h_re a_re, xRig (a_re 0) re_rig, xI E (a_re 1) 16 re_stuffNumbers, xI E (a_re 2) 4 re_numbers] s.heap := hP
  obtain ⟨ρ, hρ0⟩ : ∃ ρ, F_X5_takeBand re_rig re_stuffNumbers re_numbers = ρ := ⟨_, rfl⟩
  have hρ := hρ0.symm
  unfold F_X5_takeBand at hρ
  refine lv_iconst (v := (4 : Int32)) hx hb dX5_takeBand_0 (by decide) ?_
  refine lv_aload_n hx hb dX5_takeBand_1 rfl (lv_at hl 0 rfl) ?_
  refine va_get (D := E.1) (ci := 5) (v := .ref (a_re 2)) (C := RX5) (T := TX5) (N := 3) hx hb hts iX5_takeBand_X5 hown hE.1 hP 0 rfl rfl 2 (by decide) (hts (.fieldLink RX5 22 "BandBoat$Reader" "numbers" "[I") (List.mem_of_getElem? (i := 1) rfl)) (fun _ h9 => h9) rfl dX5_takeBand_2 ?_
  refine lv_iconst (v := (0 : Int32)) hx hb dX5_takeBand_5 (by decide) ?_
  refine ar_ild (k := 0) (v := (re_numbers 0)) hx hb hE hP 3 rfl (by unfold vp_in; decide) rfl rfl dX5_takeBand_6 ?_
  refine lv_imul hx hb dX5_takeBand_7 ?_
  refine lv_topi (fun v1 ev1 => ?_)
  have hρ : ρ = F_X5_takeBand_k8 re_rig re_stuffNumbers re_numbers v1 := by rw [ev1]; exact hρ
  unfold F_X5_takeBand_k8 at hρ
  refine lv_istore_n (lv' := [(1, .int v1), (0, .ref h_re)]) hx hb dX5_takeBand_8 rfl hl (by decide) rfl (fun ls hl => ?_)
  refine lv_aload_n hx hb dX5_takeBand_9 rfl (lv_at hl 1 rfl) ?_
  refine va_get (D := E.1) (ci := 5) (v := .ref (a_re 2)) (C := RX5) (T := TX5) (N := 3) hx hb hts iX5_takeBand_X5 hown hE.1 hP 0 rfl rfl 2 (by decide) (hts (.fieldLink RX5 22 "BandBoat$Reader" "numbers" "[I") (List.mem_of_getElem? (i := 1) rfl)) (fun _ h9 => h9) rfl dX5_takeBand_10 ?_
  refine lv_iconst (v := (0 : Int32)) hx hb dX5_takeBand_13 (by decide) ?_
  refine ar_ild (k := 0) (v := (re_numbers 0)) hx hb hE hP 3 rfl (by unfold vp_in; decide) rfl rfl dX5_takeBand_14 ?_
  refine lv_iconst (v := (0 : Int32)) hx hb dX5_takeBand_15 (by decide) ?_
  refine lv_aload_n hx hb dX5_takeBand_16 rfl (lv_at hl 1 rfl) ?_
  refine va_get (D := E.1) (ci := 5) (v := .ref (a_re 0)) (C := RX5) (T := TX5) (N := 3) hx hb hts iX5_takeBand_X5 hown hE.1 hP 0 rfl rfl 0 (by decide) (hts (.fieldLink RX5 12 "BandBoat$Reader" "rig" "LBandBoat$Rig;") (List.mem_of_getElem? (i := 2) rfl)) (fun _ h9 => h9) rfl dX5_takeBand_17 ?_
  refine va_getN (D := E.1) (ci := 6) (v := .int (re_rig 0)) (C := RX6) (T := TX6) (N := 17) hx hb hts iX5_takeBand_X6 hown hE.1 hP 1 rfl rfl 0 (by decide) (hE.n 3 rfl) (fun _ h9 => h9) rfl dX5_takeBand_20 ?_
  refine lv_iconst (v := (1 : Int32)) hx hb dX5_takeBand_23 (by decide) ?_
  refine lv_isub hx hb dX5_takeBand_24 ?_
  refine kI (wc := []) (wr := [xReader h_re a_re, xRig (a_re 0) re_rig, xI E (a_re 1) 16 re_stuffNumbers, xI E (a_re 2) 4 re_numbers]) (wc' := (fun (_ : Unit) => [])) (wn := (fun (_ : Unit) => [xReader h_re a_re, xRig (a_re 0) re_rig, xI E (a_re 1) 16 re_stuffNumbers, xI E (a_re 2) 4 re_numbers])) (isC := []) (isR := [0, 1, 2, 3]) (is2 := [0, 1, 2, 3]) cx hP hD hS ⟨rfl, rfl, by decide, by decide, by decide, by decide, fun _ => rfl⟩ (rSN (As := [.int (re_numbers 0), .int (0 : Int32), .int ((re_rig 0) - (1 : Int32))]) (rest := []) cx (c_X9_within l E (re_numbers 0) (0 : Int32) ((re_rig 0) - (1 : Int32)) _) (va_cnB 3 hts gX5_takeBand_X9_within_n53 rfl rfl rfl (hE.nw 83 rfl) (hts (.initialized RX9) (List.mem_of_getElem? (i := 5) rfl)) (by decide +kernel) ⟨Nat.le_of_ble_eq_true rfl, Nat.le_of_ble_eq_true rfl⟩) (hts (.static yX9_within) (List.mem_of_getElem? (i := 4) rfl)) rfl hl.1 rfl (Nat.le_of_ble_eq_true rfl) dX5_takeBand_25 ⟨Nat.zero_le _, Nat.zero_le _⟩) (fun r2 u H locs hw hP hD hS => ?_)
  subst hw
  refine lv_if_eq (tgt := 76) hx hb dX5_takeBand_28 (by decide) (fun c28 => ?_) (fun c28 => ?_)
  · rw [if_pos c28] at hρ
    refine lv_iconst (v := (0 : Int32)) hx hb dX5_takeBand_76 (by decide) ?_
    exact hq (0 : Int32) re_rig _ _ _ _ dX5_takeBand_77 rfl ⟨(hρ0.trans hρ), show ((re_rig 1)) = 0 ∨ ((re_rig 1)) = 1 from hz0⟩ hP hD hS
  · rw [if_neg c28] at hρ
    refine lv_aload_n hx hb dX5_takeBand_31 rfl (lv_at hl 1 rfl) ?_
    refine va_get (D := E.1) (ci := 5) (v := .ref (a_re 2)) (C := RX5) (T := TX5) (N := 3) hx hb hts iX5_takeBand_X5 hown hE.1 hP 0 rfl rfl 2 (by decide) (hts (.fieldLink RX5 22 "BandBoat$Reader" "numbers" "[I") (List.mem_of_getElem? (i := 1) rfl)) (fun _ h9 => h9) rfl dX5_takeBand_32 ?_
    refine lv_iconst (v := (1 : Int32)) hx hb dX5_takeBand_35 (by decide) ?_
    refine ar_ild (k := 1) (v := (re_numbers 1)) hx hb hE hP 3 rfl (by unfold vp_in; decide) rfl rfl dX5_takeBand_36 ?_
    refine lv_iconst (v := (1 : Int32)) hx hb dX5_takeBand_37 (by decide) ?_
    refine lv_bipush (v := (8 : Int32)) hx hb dX5_takeBand_38 (by decide) ?_
    refine kI (wc := []) (wr := [xReader h_re a_re, xRig (a_re 0) re_rig, xI E (a_re 1) 16 re_stuffNumbers, xI E (a_re 2) 4 re_numbers]) (wc' := (fun (_ : Unit) => [])) (wn := (fun (_ : Unit) => [xReader h_re a_re, xRig (a_re 0) re_rig, xI E (a_re 1) 16 re_stuffNumbers, xI E (a_re 2) 4 re_numbers])) (isC := []) (isR := [0, 1, 2, 3]) (is2 := [0, 1, 2, 3]) cx hP hD hS ⟨rfl, rfl, by decide, by decide, by decide, by decide, fun _ => rfl⟩ (rSN (As := [.int (re_numbers 1), .int (1 : Int32), .int (8 : Int32)]) (rest := []) cx (c_X9_within l E (re_numbers 1) (1 : Int32) (8 : Int32) _) (va_cnB 3 hts gX5_takeBand_X9_within_n53 rfl rfl rfl (hE.nw 83 rfl) (hts (.initialized RX9) (List.mem_of_getElem? (i := 5) rfl)) (by decide +kernel) ⟨Nat.le_of_ble_eq_true rfl, Nat.le_of_ble_eq_true rfl⟩) (hts (.static yX9_within) (List.mem_of_getElem? (i := 4) rfl)) rfl hl.1 rfl (Nat.le_of_ble_eq_true rfl) dX5_takeBand_40 ⟨Nat.zero_le _, Nat.zero_le _⟩) (fun r3 u H locs hw hP hD hS => ?_)
    subst hw
    refine lv_if_eq (tgt := 76) hx hb dX5_takeBand_43 (by decide) (fun c43 => ?_) (fun c43 => ?_)
    · rw [if_pos c43] at hρ
      refine lv_iconst (v := (0 : Int32)) hx hb dX5_takeBand_76 (by decide) ?_
      exact hq (0 : Int32) re_rig _ _ _ _ dX5_takeBand_77 rfl ⟨(hρ0.trans hρ), show ((re_rig 1)) = 0 ∨ ((re_rig 1)) = 1 from hz0⟩ hP hD hS
    · rw [if_neg c43] at hρ
      refine lv_aload_n hx hb dX5_takeBand_46 rfl (lv_at hl 1 rfl) ?_
      refine va_get (D := E.1) (ci := 5) (v := .ref (a_re 2)) (C := RX5) (T := TX5) (N := 3) hx hb hts iX5_takeBand_X5 hown hE.1 hP 0 rfl rfl 2 (by decide) (hts (.fieldLink RX5 22 "BandBoat$Reader" "numbers" "[I") (List.mem_of_getElem? (i := 1) rfl)) (fun _ h9 => h9) rfl dX5_takeBand_47 ?_
      refine lv_iconst (v := (2 : Int32)) hx hb dX5_takeBand_50 (by decide) ?_
      refine ar_ild (k := 2) (v := (re_numbers 2)) hx hb hE hP 3 rfl (by unfold vp_in; decide) rfl rfl dX5_takeBand_51 ?_
      refine lv_iconst (v := (1 : Int32)) hx hb dX5_takeBand_52 (by decide) ?_
      refine lv_bipush (v := (40 : Int32)) hx hb dX5_takeBand_53 (by decide) ?_
      refine kI (wc := []) (wr := [xReader h_re a_re, xRig (a_re 0) re_rig, xI E (a_re 1) 16 re_stuffNumbers, xI E (a_re 2) 4 re_numbers]) (wc' := (fun (_ : Unit) => [])) (wn := (fun (_ : Unit) => [xReader h_re a_re, xRig (a_re 0) re_rig, xI E (a_re 1) 16 re_stuffNumbers, xI E (a_re 2) 4 re_numbers])) (isC := []) (isR := [0, 1, 2, 3]) (is2 := [0, 1, 2, 3]) cx hP hD hS ⟨rfl, rfl, by decide, by decide, by decide, by decide, fun _ => rfl⟩ (rSN (As := [.int (re_numbers 2), .int (1 : Int32), .int (40 : Int32)]) (rest := []) cx (c_X9_within l E (re_numbers 2) (1 : Int32) (40 : Int32) _) (va_cnB 3 hts gX5_takeBand_X9_within_n53 rfl rfl rfl (hE.nw 83 rfl) (hts (.initialized RX9) (List.mem_of_getElem? (i := 5) rfl)) (by decide +kernel) ⟨Nat.le_of_ble_eq_true rfl, Nat.le_of_ble_eq_true rfl⟩) (hts (.static yX9_within) (List.mem_of_getElem? (i := 4) rfl)) rfl hl.1 rfl (Nat.le_of_ble_eq_true rfl) dX5_takeBand_55 ⟨Nat.zero_le _, Nat.zero_le _⟩) (fun r4 u H locs hw hP hD hS => ?_)
      subst hw
      refine lv_if_eq (tgt := 76) hx hb dX5_takeBand_58 (by decide) (fun c58 => ?_) (fun c58 => ?_)
      · rw [if_pos c58] at hρ
        refine lv_iconst (v := (0 : Int32)) hx hb dX5_takeBand_76 (by decide) ?_
        exact hq (0 : Int32) re_rig _ _ _ _ dX5_takeBand_77 rfl ⟨(hρ0.trans hρ), show ((re_rig 1)) = 0 ∨ ((re_rig 1)) = 1 from hz0⟩ hP hD hS
      · rw [if_neg c58] at hρ
        refine lv_iload_n hx hb dX5_takeBand_61 rfl (lv_at hl 0 rfl) ?_
        refine lv_iconst (v := (0 : Int32)) hx hb dX5_takeBand_62 (by decide) ?_
        refine lv_aload_n hx hb dX5_takeBand_63 rfl (lv_at hl 1 rfl) ?_
        refine va_get (D := E.1) (ci := 5) (v := .ref (a_re 1)) (C := RX5) (T := TX5) (N := 3) hx hb hts iX5_takeBand_X5 hown hE.1 hP 0 rfl rfl 1 (by decide) (hts (.fieldLink RX5 18 "BandBoat$Reader" "stuffNumbers" "[I") (List.mem_of_getElem? (i := 3) rfl)) (fun _ h9 => h9) rfl dX5_takeBand_64 ?_
        refine ar_len (v := (16 : Int32)) hx hb hE hP 2 rfl rfl dX5_takeBand_67 ?_
        refine lv_iconst (v := (4 : Int32)) hx hb dX5_takeBand_68 (by decide) ?_
        refine lv_isub hx hb dX5_takeBand_69 ?_
        refine kI (wc := []) (wr := [xReader h_re a_re, xRig (a_re 0) re_rig, xI E (a_re 1) 16 re_stuffNumbers, xI E (a_re 2) 4 re_numbers]) (wc' := (fun (_ : Unit) => [])) (wn := (fun (_ : Unit) => [xReader h_re a_re, xRig (a_re 0) re_rig, xI E (a_re 1) 16 re_stuffNumbers, xI E (a_re 2) 4 re_numbers])) (isC := []) (isR := [0, 1, 2, 3]) (is2 := [0, 1, 2, 3]) cx hP hD hS ⟨rfl, rfl, by decide, by decide, by decide, by decide, fun _ => rfl⟩ (rSN (As := [.int v1, .int (0 : Int32), .int ((16 : Int32) - (4 : Int32))]) (rest := []) cx (c_X9_within l E v1 (0 : Int32) ((16 : Int32) - (4 : Int32)) _) (va_cnB 3 hts gX5_takeBand_X9_within_n53 rfl rfl rfl (hE.nw 83 rfl) (hts (.initialized RX9) (List.mem_of_getElem? (i := 5) rfl)) (by decide +kernel) ⟨Nat.le_of_ble_eq_true rfl, Nat.le_of_ble_eq_true rfl⟩) (hts (.static yX9_within) (List.mem_of_getElem? (i := 4) rfl)) rfl hl.1 rfl (Nat.le_of_ble_eq_true rfl) dX5_takeBand_70 ⟨Nat.zero_le _, Nat.zero_le _⟩) (fun r5 u H locs hw hP hD hS => ?_)
        subst hw
        refine lv_if_ne (tgt := 78) hx hb dX5_takeBand_73 (by decide) (fun c73 => ?_) (fun c73 => ?_)
        · rw [if_neg c73] at hρ
          refine lv_aload_n hx hb dX5_takeBand_78 rfl (lv_at hl 1 rfl) ?_
          refine va_get (D := E.1) (ci := 5) (v := .ref (a_re 0)) (C := RX5) (T := TX5) (N := 3) hx hb hts iX5_takeBand_X5 hown hE.1 hP 0 rfl rfl 0 (by decide) (hts (.fieldLink RX5 12 "BandBoat$Reader" "rig" "LBandBoat$Rig;") (List.mem_of_getElem? (i := 2) rfl)) (fun _ h9 => h9) rfl dX5_takeBand_79 ?_
          refine lv_aload_n hx hb dX5_takeBand_82 rfl (lv_at hl 1 rfl) ?_
          refine va_get (D := E.1) (ci := 5) (v := .ref (a_re 1)) (C := RX5) (T := TX5) (N := 3) hx hb hts iX5_takeBand_X5 hown hE.1 hP 0 rfl rfl 1 (by decide) (hts (.fieldLink RX5 18 "BandBoat$Reader" "stuffNumbers" "[I") (List.mem_of_getElem? (i := 3) rfl)) (fun _ h9 => h9) rfl dX5_takeBand_83 ?_
          refine lv_iload_n hx hb dX5_takeBand_86 rfl (lv_at hl 0 rfl) ?_
          refine ar_ild (k := (Int32.toNatClampNeg v1)) (v := (re_stuffNumbers (Int32.toNatClampNeg v1))) hx hb hE hP 2 rfl (w_inb0 c73) rfl rfl dX5_takeBand_87 ?_
          refine lv_topi (fun v6 ev6 => ?_)
          have hρ : ρ = F_X5_takeBand_k88 re_rig re_stuffNumbers re_numbers v1 v6 := by rw [ev6]; exact hρ
          unfold F_X5_takeBand_k88 at hρ
          refine va_putN (D := E.1) (ci := 6) (v := .int v6) (ty := .int) (C := RX6) (T := TX6) (N := 17) hx hb hts iX5_takeBand_X6 tyX6 tyX6_ok nmX6 hown hE.1 hP hD hS 1 rfl rfl 2 (by decide) (hE.n 7 rfl) (fun _ h9 => h9) rfl (by decide +kernel) rfl rfl (Nat.le_of_ble_eq_true rfl) dX5_takeBand_88 (fun H locs hP hD hS => ?_)
          have hP : va_P E.1 vwCl [xReader h_re a_re, xRig (a_re 0) (upd re_rig 2 v6), xI E (a_re 1) 16 re_stuffNumbers, xI E (a_re 2) 4 re_numbers] H := hP
          have hD : va_D A [xReader h_re a_re, xRig (a_re 0) (upd re_rig 2 v6), xI E (a_re 1) 16 re_stuffNumbers, xI E (a_re 2) 4 re_numbers] := hD
          refine lv_aload_n hx hb dX5_takeBand_91 rfl (lv_at hl 1 rfl) ?_
          refine va_get (D := E.1) (ci := 5) (v := .ref (a_re 0)) (C := RX5) (T := TX5) (N := 3) hx hb hts iX5_takeBand_X5 hown hE.1 hP 0 rfl rfl 0 (by decide) (hts (.fieldLink RX5 12 "BandBoat$Reader" "rig" "LBandBoat$Rig;") (List.mem_of_getElem? (i := 2) rfl)) (fun _ h9 => h9) rfl dX5_takeBand_92 ?_
          refine lv_aload_n hx hb dX5_takeBand_95 rfl (lv_at hl 1 rfl) ?_
          refine va_get (D := E.1) (ci := 5) (v := .ref (a_re 1)) (C := RX5) (T := TX5) (N := 3) hx hb hts iX5_takeBand_X5 hown hE.1 hP 0 rfl rfl 1 (by decide) (hts (.fieldLink RX5 18 "BandBoat$Reader" "stuffNumbers" "[I") (List.mem_of_getElem? (i := 3) rfl)) (fun _ h9 => h9) rfl dX5_takeBand_96 ?_
          refine lv_iload_n hx hb dX5_takeBand_99 rfl (lv_at hl 0 rfl) ?_
          refine lv_iconst (v := (1 : Int32)) hx hb dX5_takeBand_100 (by decide) ?_
          refine lv_iadd hx hb dX5_takeBand_101 ?_
          refine ar_ild (k := (Int32.toNatClampNeg (v1 + (1 : Int32)))) (v := (re_stuffNumbers (Int32.toNatClampNeg (v1 + (1 : Int32))))) hx hb hE hP 2 rfl (w_inb c73 (by decide) (by decide)) rfl rfl dX5_takeBand_102 ?_
          refine lv_topi (fun v7 ev7 => ?_)
          have hρ : ρ = F_X5_takeBand_k103 re_rig re_stuffNumbers re_numbers v1 v6 v7 := by rw [ev7]; exact hρ
          unfold F_X5_takeBand_k103 at hρ
          refine va_putN (D := E.1) (ci := 6) (v := .int v7) (ty := .int) (C := RX6) (T := TX6) (N := 17) hx hb hts iX5_takeBand_X6 tyX6 tyX6_ok nmX6 hown hE.1 hP hD hS 1 rfl rfl 3 (by decide) (hE.n 10 rfl) (fun _ h9 => h9) rfl (by decide +kernel) rfl rfl (Nat.le_of_ble_eq_true rfl) dX5_takeBand_103 (fun H locs hP hD hS => ?_)
          have hP : va_P E.1 vwCl [xReader h_re a_re, xRig (a_re 0) (upd (upd re_rig 2 v6) 3 v7), xI E (a_re 1) 16 re_stuffNumbers, xI E (a_re 2) 4 re_numbers] H := hP
          have hD : va_D A [xReader h_re a_re, xRig (a_re 0) (upd (upd re_rig 2 v6) 3 v7), xI E (a_re 1) 16 re_stuffNumbers, xI E (a_re 2) 4 re_numbers] := hD
          refine lv_aload_n hx hb dX5_takeBand_106 rfl (lv_at hl 1 rfl) ?_
          refine va_get (D := E.1) (ci := 5) (v := .ref (a_re 0)) (C := RX5) (T := TX5) (N := 3) hx hb hts iX5_takeBand_X5 hown hE.1 hP 0 rfl rfl 0 (by decide) (hts (.fieldLink RX5 12 "BandBoat$Reader" "rig" "LBandBoat$Rig;") (List.mem_of_getElem? (i := 2) rfl)) (fun _ h9 => h9) rfl dX5_takeBand_107 ?_
          refine lv_aload_n hx hb dX5_takeBand_110 rfl (lv_at hl 1 rfl) ?_
          refine va_get (D := E.1) (ci := 5) (v := .ref (a_re 1)) (C := RX5) (T := TX5) (N := 3) hx hb hts iX5_takeBand_X5 hown hE.1 hP 0 rfl rfl 1 (by decide) (hts (.fieldLink RX5 18 "BandBoat$Reader" "stuffNumbers" "[I") (List.mem_of_getElem? (i := 3) rfl)) (fun _ h9 => h9) rfl dX5_takeBand_111 ?_
          refine lv_iload_n hx hb dX5_takeBand_114 rfl (lv_at hl 0 rfl) ?_
          refine lv_iconst (v := (2 : Int32)) hx hb dX5_takeBand_115 (by decide) ?_
          refine lv_iadd hx hb dX5_takeBand_116 ?_
          refine ar_ild (k := (Int32.toNatClampNeg (v1 + (2 : Int32)))) (v := (re_stuffNumbers (Int32.toNatClampNeg (v1 + (2 : Int32))))) hx hb hE hP 2 rfl (w_inb c73 (by decide) (by decide)) rfl rfl dX5_takeBand_117 ?_
          refine lv_topi (fun v8 ev8 => ?_)
          have hρ : ρ = F_X5_takeBand_k118 re_rig re_stuffNumbers re_numbers v1 v6 v7 v8 := by rw [ev8]; exact hρ
          unfold F_X5_takeBand_k118 at hρ
          refine va_putN (D := E.1) (ci := 6) (v := .int v8) (ty := .int) (C := RX6) (T := TX6) (N := 17) hx hb hts iX5_takeBand_X6 tyX6 tyX6_ok nmX6 hown hE.1 hP hD hS 1 rfl rfl 4 (by decide) (hE.n 13 rfl) (fun _ h9 => h9) rfl (by decide +kernel) rfl rfl (Nat.le_of_ble_eq_true rfl) dX5_takeBand_118 (fun H locs hP hD hS => ?_)
          have hP : va_P E.1 vwCl [xReader h_re a_re, xRig (a_re 0) (upd (upd (upd re_rig 2 v6) 3 v7) 4 v8), xI E (a_re 1) 16 re_stuffNumbers, xI E (a_re 2) 4 re_numbers] H := hP
          have hD : va_D A [xReader h_re a_re, xRig (a_re 0) (upd (upd (upd re_rig 2 v6) 3 v7) 4 v8), xI E (a_re 1) 16 re_stuffNumbers, xI E (a_re 2) 4 re_numbers] := hD
          refine lv_aload_n hx hb dX5_takeBand_121 rfl (lv_at hl 1 rfl) ?_
          refine va_get (D := E.1) (ci := 5) (v := .ref (a_re 0)) (C := RX5) (T := TX5) (N := 3) hx hb hts iX5_takeBand_X5 hown hE.1 hP 0 rfl rfl 0 (by decide) (hts (.fieldLink RX5 12 "BandBoat$Reader" "rig" "LBandBoat$Rig;") (List.mem_of_getElem? (i := 2) rfl)) (fun _ h9 => h9) rfl dX5_takeBand_122 ?_
          refine lv_aload_n hx hb dX5_takeBand_125 rfl (lv_at hl 1 rfl) ?_
          refine va_get (D := E.1) (ci := 5) (v := .ref (a_re 1)) (C := RX5) (T := TX5) (N := 3) hx hb hts iX5_takeBand_X5 hown hE.1 hP 0 rfl rfl 1 (by decide) (hts (.fieldLink RX5 18 "BandBoat$Reader" "stuffNumbers" "[I") (List.mem_of_getElem? (i := 3) rfl)) (fun _ h9 => h9) rfl dX5_takeBand_126 ?_
          refine lv_iload_n hx hb dX5_takeBand_129 rfl (lv_at hl 0 rfl) ?_
          refine lv_iconst (v := (3 : Int32)) hx hb dX5_takeBand_130 (by decide) ?_
          refine lv_iadd hx hb dX5_takeBand_131 ?_
          refine ar_ild (k := (Int32.toNatClampNeg (v1 + (3 : Int32)))) (v := (re_stuffNumbers (Int32.toNatClampNeg (v1 + (3 : Int32))))) hx hb hE hP 2 rfl (w_inb c73 (by decide) (by decide)) rfl rfl dX5_takeBand_132 ?_
          refine lv_topi (fun v9 ev9 => ?_)
          have hρ : ρ = F_X5_takeBand_k133 re_rig re_numbers v6 v7 v8 v9 := by rw [ev9]; exact hρ
          unfold F_X5_takeBand_k133 at hρ
          refine va_putN (D := E.1) (ci := 6) (v := .int v9) (ty := .int) (C := RX6) (T := TX6) (N := 17) hx hb hts iX5_takeBand_X6 tyX6 tyX6_ok nmX6 hown hE.1 hP hD hS 1 rfl rfl 5 (by decide) (hE.n 14 rfl) (fun _ h9 => h9) rfl (by decide +kernel) rfl rfl (Nat.le_of_ble_eq_true rfl) dX5_takeBand_133 (fun H locs hP hD hS => ?_)
          have hP : va_P E.1 vwCl [xReader h_re a_re, xRig (a_re 0) (upd (upd (upd (upd re_rig 2 v6) 3 v7) 4 v8) 5 v9), xI E (a_re 1) 16 re_stuffNumbers, xI E (a_re 2) 4 re_numbers] H := hP
          have hD : va_D A [xReader h_re a_re, xRig (a_re 0) (upd (upd (upd (upd re_rig 2 v6) 3 v7) 4 v8) 5 v9), xI E (a_re 1) 16 re_stuffNumbers, xI E (a_re 2) 4 re_numbers] := hD
          refine lv_aload_n hx hb dX5_takeBand_136 rfl (lv_at hl 1 rfl) ?_
          refine va_get (D := E.1) (ci := 5) (v := .ref (a_re 0)) (C := RX5) (T := TX5) (N := 3) hx hb hts iX5_takeBand_X5 hown hE.1 hP 0 rfl rfl 0 (by decide) (hts (.fieldLink RX5 12 "BandBoat$Reader" "rig" "LBandBoat$Rig;") (List.mem_of_getElem? (i := 2) rfl)) (fun _ h9 => h9) rfl dX5_takeBand_137 ?_
          refine lv_aload_n hx hb dX5_takeBand_140 rfl (lv_at hl 1 rfl) ?_
          refine va_get (D := E.1) (ci := 5) (v := .ref (a_re 2)) (C := RX5) (T := TX5) (N := 3) hx hb hts iX5_takeBand_X5 hown hE.1 hP 0 rfl rfl 2 (by decide) (hts (.fieldLink RX5 22 "BandBoat$Reader" "numbers" "[I") (List.mem_of_getElem? (i := 1) rfl)) (fun _ h9 => h9) rfl dX5_takeBand_141 ?_
          refine lv_iconst (v := (1 : Int32)) hx hb dX5_takeBand_144 (by decide) ?_
          refine ar_ild (k := 1) (v := (re_numbers 1)) hx hb hE hP 3 rfl (by unfold vp_in; decide) rfl rfl dX5_takeBand_145 ?_
          refine va_putN (D := E.1) (ci := 6) (v := .int (re_numbers 1)) (ty := .int) (C := RX6) (T := TX6) (N := 17) hx hb hts iX5_takeBand_X6 tyX6 tyX6_ok nmX6 hown hE.1 hP hD hS 1 rfl rfl 6 (by decide) (hE.n 17 rfl) (fun _ h9 => h9) rfl (by decide +kernel) rfl rfl (Nat.le_of_ble_eq_true rfl) dX5_takeBand_146 (fun H locs hP hD hS => ?_)
          have hP : va_P E.1 vwCl [xReader h_re a_re, xRig (a_re 0) (upd (upd (upd (upd (upd re_rig 2 v6) 3 v7) 4 v8) 5 v9) 6 (re_numbers 1)), xI E (a_re 1) 16 re_stuffNumbers, xI E (a_re 2) 4 re_numbers] H := hP
          have hD : va_D A [xReader h_re a_re, xRig (a_re 0) (upd (upd (upd (upd (upd re_rig 2 v6) 3 v7) 4 v8) 5 v9) 6 (re_numbers 1)), xI E (a_re 1) 16 re_stuffNumbers, xI E (a_re 2) 4 re_numbers] := hD
          refine lv_aload_n hx hb dX5_takeBand_149 rfl (lv_at hl 1 rfl) ?_
          refine va_get (D := E.1) (ci := 5) (v := .ref (a_re 0)) (C := RX5) (T := TX5) (N := 3) hx hb hts iX5_takeBand_X5 hown hE.1 hP 0 rfl rfl 0 (by decide) (hts (.fieldLink RX5 12 "BandBoat$Reader" "rig" "LBandBoat$Rig;") (List.mem_of_getElem? (i := 2) rfl)) (fun _ h9 => h9) rfl dX5_takeBand_150 ?_
          refine lv_aload_n hx hb dX5_takeBand_153 rfl (lv_at hl 1 rfl) ?_
          refine va_get (D := E.1) (ci := 5) (v := .ref (a_re 2)) (C := RX5) (T := TX5) (N := 3) hx hb hts iX5_takeBand_X5 hown hE.1 hP 0 rfl rfl 2 (by decide) (hts (.fieldLink RX5 22 "BandBoat$Reader" "numbers" "[I") (List.mem_of_getElem? (i := 1) rfl)) (fun _ h9 => h9) rfl dX5_takeBand_154 ?_
          refine lv_iconst (v := (2 : Int32)) hx hb dX5_takeBand_157 (by decide) ?_
          refine ar_ild (k := 2) (v := (re_numbers 2)) hx hb hE hP 3 rfl (by unfold vp_in; decide) rfl rfl dX5_takeBand_158 ?_
          refine va_putN (D := E.1) (ci := 6) (v := .int (re_numbers 2)) (ty := .int) (C := RX6) (T := TX6) (N := 17) hx hb hts iX5_takeBand_X6 tyX6 tyX6_ok nmX6 hown hE.1 hP hD hS 1 rfl rfl 7 (by decide) (hE.n 20 rfl) (fun _ h9 => h9) rfl (by decide +kernel) rfl rfl (Nat.le_of_ble_eq_true rfl) dX5_takeBand_159 (fun H locs hP hD hS => ?_)
          have hP : va_P E.1 vwCl [xReader h_re a_re, xRig (a_re 0) (upd (upd (upd (upd (upd (upd re_rig 2 v6) 3 v7) 4 v8) 5 v9) 6 (re_numbers 1)) 7 (re_numbers 2)), xI E (a_re 1) 16 re_stuffNumbers, xI E (a_re 2) 4 re_numbers] H := hP
          have hD : va_D A [xReader h_re a_re, xRig (a_re 0) (upd (upd (upd (upd (upd (upd re_rig 2 v6) 3 v7) 4 v8) 5 v9) 6 (re_numbers 1)) 7 (re_numbers 2)), xI E (a_re 1) 16 re_stuffNumbers, xI E (a_re 2) 4 re_numbers] := hD
          refine lv_aload_n hx hb dX5_takeBand_162 rfl (lv_at hl 1 rfl) ?_
          refine va_get (D := E.1) (ci := 5) (v := .ref (a_re 0)) (C := RX5) (T := TX5) (N := 3) hx hb hts iX5_takeBand_X5 hown hE.1 hP 0 rfl rfl 0 (by decide) (hts (.fieldLink RX5 12 "BandBoat$Reader" "rig" "LBandBoat$Rig;") (List.mem_of_getElem? (i := 2) rfl)) (fun _ h9 => h9) rfl dX5_takeBand_163 ?_
          refine lv_iconst (v := (1 : Int32)) hx hb dX5_takeBand_166 (by decide) ?_
          refine va_putN (D := E.1) (ci := 6) (v := .int (1 : Int32)) (ty := .boolean) (C := RX6) (T := TX6) (N := 17) hx hb hts iX5_takeBand_X6 tyX6 tyX6_ok nmX6 hown hE.1 hP hD hS 1 rfl rfl 1 (by decide) (hE.n 5 rfl) (fun _ h9 => h9) rfl (by decide +kernel) rfl rfl (Nat.le_of_ble_eq_true rfl) dX5_takeBand_167 (fun H locs hP hD hS => ?_)
          have hP : va_P E.1 vwCl [xReader h_re a_re, xRig (a_re 0) (upd (upd (upd (upd (upd (upd (upd re_rig 1 (1 : Int32)) 2 v6) 3 v7) 4 v8) 5 v9) 6 (re_numbers 1)) 7 (re_numbers 2)), xI E (a_re 1) 16 re_stuffNumbers, xI E (a_re 2) 4 re_numbers] H := hP
          have hD : va_D A [xReader h_re a_re, xRig (a_re 0) (upd (upd (upd (upd (upd (upd (upd re_rig 1 (1 : Int32)) 2 v6) 3 v7) 4 v8) 5 v9) 6 (re_numbers 1)) 7 (re_numbers 2)), xI E (a_re 1) 16 re_stuffNumbers, xI E (a_re 2) 4 re_numbers] := hD
          refine lv_iconst (v := (1 : Int32)) hx hb dX5_takeBand_170 (by decide) ?_
          exact hq (1 : Int32) (upd (upd (upd (upd (upd (upd (upd re_rig 1 (1 : Int32)) 2 v6) 3 v7) 4 v8) 5 v9) 6 (re_numbers 1)) 7 (re_numbers 2)) _ _ _ _ dX5_takeBand_171 rfl ⟨(hρ0.trans hρ), show ((1 : Int32)) = 0 ∨ ((1 : Int32)) = 1 from Or.inr rfl⟩ hP hD hS
        · rw [if_pos c73] at hρ
          refine lv_iconst (v := (0 : Int32)) hx hb dX5_takeBand_76 (by decide) ?_
          exact hq (0 : Int32) re_rig _ _ _ _ dX5_takeBand_77 rfl ⟨(hρ0.trans hρ), show ((re_rig 1)) = 0 ∨ ((re_rig 1)) = 1 from hz0⟩ hP hD hS
theorem F_X5_takeBand_b (re_rig : Nat → Int32) (re_stuffNumbers : Nat → Int32) (re_numbers : Nat → Int32) : (F_X5_takeBand re_rig re_stuffNumbers re_numbers).1 = 0 ∨ (F_X5_takeBand re_rig re_stuffNumbers re_numbers).1 = 1 := by
  unfold F_X5_takeBand F_X5_takeBand_k8 F_X5_takeBand_k88 F_X5_takeBand_k103 F_X5_takeBand_k118 F_X5_takeBand_k133
  (repeat' split) <;> first | exact Or.inl rfl | exact Or.inr rfl
def F_X5_takeBlade (re_numbers : Nat → Int32) : Int32 × Int32 × Int32 := (if (F_X9_within (re_numbers 0) (1 : Int32) (9 : Int32)) = (0 : Int32) then ((0 : Int32), (re_numbers 0), (re_numbers 1)) else (if (F_X9_within (re_numbers 1) (1 : Int32) (20 : Int32)) = (0 : Int32) then ((0 : Int32), (re_numbers 0), (re_numbers 1)) else ((1 : Int32), (re_numbers 0), (re_numbers 1))))
theorem iX5_takeBlade_X5 : ∀ w ∈ wsX50, w ∈ wsX5_takeBlade := fun _ h => List.mem_cons_of_mem _ (List.mem_append_left _ (List.mem_append_right _ h))
theorem iX5_takeBlade_X6 : ∀ w ∈ wsX60, w ∈ wsX5_takeBlade := fun _ h => List.mem_cons_of_mem _ (List.mem_append_right _ h)
set_option maxHeartbeats 4000000 in
set_option maxRecDepth 100000 in
theorem c_X5_takeBlade (l : Launch) (E : wV) (h_re : Nat) (a_re : Nat → Nat) (re_rig : Nat → Int32) (re_stuffNumbers : Nat → Int32) (re_numbers : Nat → Int32) : MetI l yX5_takeBlade wsX5_takeBlade ({ frames := 1, cells := 0, slots := 0, locals := 22 } : Room) E ([.ref h_re] : List Value) [xReader h_re a_re, xRig (a_re 0) re_rig, xI E (a_re 1) 16 re_stuffNumbers, xI E (a_re 2) 4 re_numbers] (fun (r : Int32) (u : Int32 × Int32) => F_X5_takeBlade re_numbers = (r, u)) (fun (u : Int32 × Int32) => [xReader h_re a_re, xRig (a_re 0) (upd (upd re_rig 8 u.1) 9 u.2), xI E (a_re 1) 16 re_stuffNumbers, xI E (a_re 2) 4 re_numbers]) := by
  refine MetI.of (cc := cX5_takeBlade) (maxL := 1) (own := RX5) (by decide) rfl rfl (Nat.le_of_ble_eq_true rfl) ?_
  intro p e s m below meth c A Q ls cx hP hD hS hl hq
  obtain ⟨hx, hb, hml, hown, hts, hE, hA⟩ := id cx
  have hl : lv_has ls 1 [(0, .ref h_re)] := hl
  have hP : va_P E.1 vwCl [xReader h_re a_re, xRig (a_re 0) re_rig, xI E (a_re 1) 16 re_stuffNumbers, xI E (a_re 2) 4 re_numbers] s.heap := hP
  obtain ⟨ρ, hρ0⟩ : ∃ ρ, F_X5_takeBlade re_numbers = ρ := ⟨_, rfl⟩
  have hρ := hρ0.symm
  unfold F_X5_takeBlade at hρ
  refine lv_aload_n hx hb dX5_takeBlade_0 rfl (lv_at hl 0 rfl) ?_
  refine va_get (D := E.1) (ci := 5) (v := .ref (a_re 0)) (C := RX5) (T := TX5) (N := 3) hx hb hts iX5_takeBlade_X5 hown hE.1 hP 0 rfl rfl 0 (by decide) (hts (.fieldLink RX5 12 "BandBoat$Reader" "rig" "LBandBoat$Rig;") (List.mem_of_getElem? (i := 1) rfl)) (fun _ h9 => h9) rfl dX5_takeBlade_1 ?_
  refine lv_aload_n hx hb dX5_takeBlade_4 rfl (lv_at hl 0 rfl) ?_
  refine va_get (D := E.1) (ci := 5) (v := .ref (a_re 2)) (C := RX5) (T := TX5) (N := 3) hx hb hts iX5_takeBlade_X5 hown hE.1 hP 0 rfl rfl 2 (by decide) (hts (.fieldLink RX5 22 "BandBoat$Reader" "numbers" "[I") (List.mem_of_getElem? (i := 2) rfl)) (fun _ h9 => h9) rfl dX5_takeBlade_5 ?_
  refine lv_iconst (v := (0 : Int32)) hx hb dX5_takeBlade_8 (by decide) ?_
  refine ar_ild (k := 0) (v := (re_numbers 0)) hx hb hE hP 3 rfl (by unfold vp_in; decide) rfl rfl dX5_takeBlade_9 ?_
  refine va_putN (D := E.1) (ci := 6) (v := .int (re_numbers 0)) (ty := .int) (C := RX6) (T := TX6) (N := 17) hx hb hts iX5_takeBlade_X6 tyX6 tyX6_ok nmX6 hown hE.1 hP hD hS 1 rfl rfl 8 (by decide) (hE.n 24 rfl) (fun _ h9 => h9) rfl (by decide +kernel) rfl rfl (Nat.le_of_ble_eq_true rfl) dX5_takeBlade_10 (fun H locs hP hD hS => ?_)
  have hP : va_P E.1 vwCl [xReader h_re a_re, xRig (a_re 0) (upd re_rig 8 (re_numbers 0)), xI E (a_re 1) 16 re_stuffNumbers, xI E (a_re 2) 4 re_numbers] H := hP
  have hD : va_D A [xReader h_re a_re, xRig (a_re 0) (upd re_rig 8 (re_numbers 0)), xI E (a_re 1) 16 re_stuffNumbers, xI E (a_re 2) 4 re_numbers] := hD
  refine lv_aload_n hx hb dX5_takeBlade_13 rfl (lv_at hl 0 rfl) ?_
  refine va_get (D := E.1) (ci := 5) (v := .ref (a_re 0)) (C := RX5) (T := TX5) (N := 3) hx hb hts iX5_takeBlade_X5 hown hE.1 hP 0 rfl rfl 0 (by decide) (hts (.fieldLink RX5 12 "BandBoat$Reader" "rig" "LBandBoat$Rig;") (List.mem_of_getElem? (i := 1) rfl)) (fun _ h9 => h9) rfl dX5_takeBlade_14 ?_
  refine lv_aload_n hx hb dX5_takeBlade_17 rfl (lv_at hl 0 rfl) ?_
  refine va_get (D := E.1) (ci := 5) (v := .ref (a_re 2)) (C := RX5) (T := TX5) (N := 3) hx hb hts iX5_takeBlade_X5 hown hE.1 hP 0 rfl rfl 2 (by decide) (hts (.fieldLink RX5 22 "BandBoat$Reader" "numbers" "[I") (List.mem_of_getElem? (i := 2) rfl)) (fun _ h9 => h9) rfl dX5_takeBlade_18 ?_
  refine lv_iconst (v := (1 : Int32)) hx hb dX5_takeBlade_21 (by decide) ?_
  refine ar_ild (k := 1) (v := (re_numbers 1)) hx hb hE hP 3 rfl (by unfold vp_in; decide) rfl rfl dX5_takeBlade_22 ?_
  refine va_putN (D := E.1) (ci := 6) (v := .int (re_numbers 1)) (ty := .int) (C := RX6) (T := TX6) (N := 17) hx hb hts iX5_takeBlade_X6 tyX6 tyX6_ok nmX6 hown hE.1 hP hD hS 1 rfl rfl 9 (by decide) (hE.n 27 rfl) (fun _ h9 => h9) rfl (by decide +kernel) rfl rfl (Nat.le_of_ble_eq_true rfl) dX5_takeBlade_23 (fun H locs hP hD hS => ?_)
  have hP : va_P E.1 vwCl [xReader h_re a_re, xRig (a_re 0) (upd (upd re_rig 8 (re_numbers 0)) 9 (re_numbers 1)), xI E (a_re 1) 16 re_stuffNumbers, xI E (a_re 2) 4 re_numbers] H := hP
  have hD : va_D A [xReader h_re a_re, xRig (a_re 0) (upd (upd re_rig 8 (re_numbers 0)) 9 (re_numbers 1)), xI E (a_re 1) 16 re_stuffNumbers, xI E (a_re 2) 4 re_numbers] := hD
  refine lv_aload_n hx hb dX5_takeBlade_26 rfl (lv_at hl 0 rfl) ?_
  refine va_get (D := E.1) (ci := 5) (v := .ref (a_re 0)) (C := RX5) (T := TX5) (N := 3) hx hb hts iX5_takeBlade_X5 hown hE.1 hP 0 rfl rfl 0 (by decide) (hts (.fieldLink RX5 12 "BandBoat$Reader" "rig" "LBandBoat$Rig;") (List.mem_of_getElem? (i := 1) rfl)) (fun _ h9 => h9) rfl dX5_takeBlade_27 ?_
  refine va_getN (D := E.1) (ci := 6) (v := .int (re_numbers 0)) (C := RX6) (T := TX6) (N := 17) hx hb hts iX5_takeBlade_X6 hown hE.1 hP 1 rfl rfl 8 (by decide) (hE.n 24 rfl) (fun _ h9 => h9) rfl dX5_takeBlade_30 ?_
  refine lv_iconst (v := (1 : Int32)) hx hb dX5_takeBlade_33 (by decide) ?_
  refine lv_bipush (v := (9 : Int32)) hx hb dX5_takeBlade_34 (by decide) ?_
  refine kI (wc := []) (wr := [xReader h_re a_re, xRig (a_re 0) (upd (upd re_rig 8 (re_numbers 0)) 9 (re_numbers 1)), xI E (a_re 1) 16 re_stuffNumbers, xI E (a_re 2) 4 re_numbers]) (wc' := (fun (_ : Unit) => [])) (wn := (fun (_ : Unit) => [xReader h_re a_re, xRig (a_re 0) (upd (upd re_rig 8 (re_numbers 0)) 9 (re_numbers 1)), xI E (a_re 1) 16 re_stuffNumbers, xI E (a_re 2) 4 re_numbers])) (isC := []) (isR := [0, 1, 2, 3]) (is2 := [0, 1, 2, 3]) cx hP hD hS ⟨rfl, rfl, by decide, by decide, by decide, by decide, fun _ => rfl⟩ (rSN (As := [.int (re_numbers 0), .int (1 : Int32), .int (9 : Int32)]) (rest := []) cx (c_X9_within l E (re_numbers 0) (1 : Int32) (9 : Int32) _) (va_cnB 3 hts gX5_takeBlade_X9_within_n53 rfl rfl rfl (hE.nw 83 rfl) (hts (.initialized RX9) (List.mem_of_getElem? (i := 4) rfl)) (by decide +kernel) ⟨Nat.le_of_ble_eq_true rfl, Nat.le_of_ble_eq_true rfl⟩) (hts (.static yX9_within) (List.mem_of_getElem? (i := 3) rfl)) rfl hl.1 rfl (Nat.le_of_ble_eq_true rfl) dX5_takeBlade_36 ⟨Nat.zero_le _, Nat.zero_le _⟩) (fun r1 u H locs hw hP hD hS => ?_)
  subst hw
  refine lv_if_eq (tgt := 62) hx hb dX5_takeBlade_39 (by decide) (fun c39 => ?_) (fun c39 => ?_)
  · rw [if_pos c39] at hρ
    refine lv_iconst (v := (0 : Int32)) hx hb dX5_takeBlade_62 (by decide) ?_
    exact hq (0 : Int32) ((re_numbers 0), (re_numbers 1)) _ _ _ _ dX5_takeBlade_63 rfl (hρ0.trans hρ) hP hD hS
  · rw [if_neg c39] at hρ
    refine lv_aload_n hx hb dX5_takeBlade_42 rfl (lv_at hl 0 rfl) ?_
    refine va_get (D := E.1) (ci := 5) (v := .ref (a_re 0)) (C := RX5) (T := TX5) (N := 3) hx hb hts iX5_takeBlade_X5 hown hE.1 hP 0 rfl rfl 0 (by decide) (hts (.fieldLink RX5 12 "BandBoat$Reader" "rig" "LBandBoat$Rig;") (List.mem_of_getElem? (i := 1) rfl)) (fun _ h9 => h9) rfl dX5_takeBlade_43 ?_
    refine va_getN (D := E.1) (ci := 6) (v := .int (re_numbers 1)) (C := RX6) (T := TX6) (N := 17) hx hb hts iX5_takeBlade_X6 hown hE.1 hP 1 rfl rfl 9 (by decide) (hE.n 27 rfl) (fun _ h9 => h9) rfl dX5_takeBlade_46 ?_
    refine lv_iconst (v := (1 : Int32)) hx hb dX5_takeBlade_49 (by decide) ?_
    refine lv_bipush (v := (20 : Int32)) hx hb dX5_takeBlade_50 (by decide) ?_
    refine kI (wc := []) (wr := [xReader h_re a_re, xRig (a_re 0) (upd (upd re_rig 8 (re_numbers 0)) 9 (re_numbers 1)), xI E (a_re 1) 16 re_stuffNumbers, xI E (a_re 2) 4 re_numbers]) (wc' := (fun (_ : Unit) => [])) (wn := (fun (_ : Unit) => [xReader h_re a_re, xRig (a_re 0) (upd (upd re_rig 8 (re_numbers 0)) 9 (re_numbers 1)), xI E (a_re 1) 16 re_stuffNumbers, xI E (a_re 2) 4 re_numbers])) (isC := []) (isR := [0, 1, 2, 3]) (is2 := [0, 1, 2, 3]) cx hP hD hS ⟨rfl, rfl, by decide, by decide, by decide, by decide, fun _ => rfl⟩ (rSN (As := [.int (re_numbers 1), .int (1 : Int32), .int (20 : Int32)]) (rest := []) cx (c_X9_within l E (re_numbers 1) (1 : Int32) (20 : Int32) _) (va_cnB 3 hts gX5_takeBlade_X9_within_n53 rfl rfl rfl (hE.nw 83 rfl) (hts (.initialized RX9) (List.mem_of_getElem? (i := 4) rfl)) (by decide +kernel) ⟨Nat.le_of_ble_eq_true rfl, Nat.le_of_ble_eq_true rfl⟩) (hts (.static yX9_within) (List.mem_of_getElem? (i := 3) rfl)) rfl hl.1 rfl (Nat.le_of_ble_eq_true rfl) dX5_takeBlade_52 ⟨Nat.zero_le _, Nat.zero_le _⟩) (fun r2 u H locs hw hP hD hS => ?_)
    subst hw
    refine lv_if_eq (tgt := 62) hx hb dX5_takeBlade_55 (by decide) (fun c55 => ?_) (fun c55 => ?_)
    · rw [if_pos c55] at hρ
      refine lv_iconst (v := (0 : Int32)) hx hb dX5_takeBlade_62 (by decide) ?_
      exact hq (0 : Int32) ((re_numbers 0), (re_numbers 1)) _ _ _ _ dX5_takeBlade_63 rfl (hρ0.trans hρ) hP hD hS
    · rw [if_neg c55] at hρ
      refine lv_iconst (v := (1 : Int32)) hx hb dX5_takeBlade_58 (by decide) ?_
      refine lv_goto (tgt := 63) hx hb dX5_takeBlade_59 (by decide) ?_
      exact hq (1 : Int32) ((re_numbers 0), (re_numbers 1)) _ _ _ _ dX5_takeBlade_63 rfl (hρ0.trans hρ) hP hD hS
theorem F_X5_takeBlade_b (re_numbers : Nat → Int32) : (F_X5_takeBlade re_numbers).1 = 0 ∨ (F_X5_takeBlade re_numbers).1 = 1 := by
  unfold F_X5_takeBlade
  (repeat' split) <;> first | exact Or.inl rfl | exact Or.inr rfl
def F_X5_takeHull (re_numbers : Nat → Int32) : Int32 × Int32 × Int32 × Int32 := (if (F_X9_within (re_numbers 0) (1 : Int32) (99 : Int32)) = (0 : Int32) then ((0 : Int32), (re_numbers 0), (re_numbers 1), (re_numbers 2)) else (if (F_X9_within (re_numbers 1) (1 : Int32) (99 : Int32)) = (0 : Int32) then ((0 : Int32), (re_numbers 0), (re_numbers 1), (re_numbers 2)) else (if (F_X9_within (re_numbers 2) (0 : Int32) (20 : Int32)) = (0 : Int32) then ((0 : Int32), (re_numbers 0), (re_numbers 1), (re_numbers 2)) else ((1 : Int32), (re_numbers 0), (re_numbers 1), (re_numbers 2)))))
theorem iX5_takeHull_X5 : ∀ w ∈ wsX50, w ∈ wsX5_takeHull := fun _ h => List.mem_cons_of_mem _ (List.mem_append_left _ (List.mem_append_right _ h))
theorem iX5_takeHull_X6 : ∀ w ∈ wsX60, w ∈ wsX5_takeHull := fun _ h => List.mem_cons_of_mem _ (List.mem_append_right _ h)
set_option maxHeartbeats 4000000 in
set_option maxRecDepth 100000 in
theorem c_X5_takeHull (l : Launch) (E : wV) (h_re : Nat) (a_re : Nat → Nat) (re_rig : Nat → Int32) (re_stuffNumbers : Nat → Int32) (re_numbers : Nat → Int32) : MetI l yX5_takeHull wsX5_takeHull ({ frames := 1, cells := 0, slots := 0, locals := 22 } : Room) E ([.ref h_re] : List Value) [xReader h_re a_re, xRig (a_re 0) re_rig, xI E (a_re 1) 16 re_stuffNumbers, xI E (a_re 2) 4 re_numbers] (fun (r : Int32) (u : Int32 × Int32 × Int32) => F_X5_takeHull re_numbers = (r, u)) (fun (u : Int32 × Int32 × Int32) => [xReader h_re a_re, xRig (a_re 0) (upd (upd (upd re_rig 10 u.1) 11 u.2.1) 12 u.2.2), xI E (a_re 1) 16 re_stuffNumbers, xI E (a_re 2) 4 re_numbers]) := by
  refine MetI.of (cc := cX5_takeHull) (maxL := 1) (own := RX5) (by decide) rfl rfl (Nat.le_of_ble_eq_true rfl) ?_
  intro p e s m below meth c A Q ls cx hP hD hS hl hq
  obtain ⟨hx, hb, hml, hown, hts, hE, hA⟩ := id cx
  have hl : lv_has ls 1 [(0, .ref h_re)] := hl
  have hP : va_P E.1 vwCl [xReader h_re a_re, xRig (a_re 0) re_rig, xI E (a_re 1) 16 re_stuffNumbers, xI E (a_re 2) 4 re_numbers] s.heap := hP
  obtain ⟨ρ, hρ0⟩ : ∃ ρ, F_X5_takeHull re_numbers = ρ := ⟨_, rfl⟩
  have hρ := hρ0.symm
  unfold F_X5_takeHull at hρ
  refine lv_aload_n hx hb dX5_takeHull_0 rfl (lv_at hl 0 rfl) ?_
  refine va_get (D := E.1) (ci := 5) (v := .ref (a_re 0)) (C := RX5) (T := TX5) (N := 3) hx hb hts iX5_takeHull_X5 hown hE.1 hP 0 rfl rfl 0 (by decide) (hts (.fieldLink RX5 12 "BandBoat$Reader" "rig" "LBandBoat$Rig;") (List.mem_of_getElem? (i := 1) rfl)) (fun _ h9 => h9) rfl dX5_takeHull_1 ?_
  refine lv_aload_n hx hb dX5_takeHull_4 rfl (lv_at hl 0 rfl) ?_
  refine va_get (D := E.1) (ci := 5) (v := .ref (a_re 2)) (C := RX5) (T := TX5) (N := 3) hx hb hts iX5_takeHull_X5 hown hE.1 hP 0 rfl rfl 2 (by decide) (hts (.fieldLink RX5 22 "BandBoat$Reader" "numbers" "[I") (List.mem_of_getElem? (i := 2) rfl)) (fun _ h9 => h9) rfl dX5_takeHull_5 ?_
  refine lv_iconst (v := (0 : Int32)) hx hb dX5_takeHull_8 (by decide) ?_
  refine ar_ild (k := 0) (v := (re_numbers 0)) hx hb hE hP 3 rfl (by unfold vp_in; decide) rfl rfl dX5_takeHull_9 ?_
  refine va_putN (D := E.1) (ci := 6) (v := .int (re_numbers 0)) (ty := .int) (C := RX6) (T := TX6) (N := 17) hx hb hts iX5_takeHull_X6 tyX6 tyX6_ok nmX6 hown hE.1 hP hD hS 1 rfl rfl 10 (by decide) (hE.n 29 rfl) (fun _ h9 => h9) rfl (by decide +kernel) rfl rfl (Nat.le_of_ble_eq_true rfl) dX5_takeHull_10 (fun H locs hP hD hS => ?_)
  have hP : va_P E.1 vwCl [xReader h_re a_re, xRig (a_re 0) (upd re_rig 10 (re_numbers 0)), xI E (a_re 1) 16 re_stuffNumbers, xI E (a_re 2) 4 re_numbers] H := hP
  have hD : va_D A [xReader h_re a_re, xRig (a_re 0) (upd re_rig 10 (re_numbers 0)), xI E (a_re 1) 16 re_stuffNumbers, xI E (a_re 2) 4 re_numbers] := hD
  refine lv_aload_n hx hb dX5_takeHull_13 rfl (lv_at hl 0 rfl) ?_
  refine va_get (D := E.1) (ci := 5) (v := .ref (a_re 0)) (C := RX5) (T := TX5) (N := 3) hx hb hts iX5_takeHull_X5 hown hE.1 hP 0 rfl rfl 0 (by decide) (hts (.fieldLink RX5 12 "BandBoat$Reader" "rig" "LBandBoat$Rig;") (List.mem_of_getElem? (i := 1) rfl)) (fun _ h9 => h9) rfl dX5_takeHull_14 ?_
  refine lv_aload_n hx hb dX5_takeHull_17 rfl (lv_at hl 0 rfl) ?_
  refine va_get (D := E.1) (ci := 5) (v := .ref (a_re 2)) (C := RX5) (T := TX5) (N := 3) hx hb hts iX5_takeHull_X5 hown hE.1 hP 0 rfl rfl 2 (by decide) (hts (.fieldLink RX5 22 "BandBoat$Reader" "numbers" "[I") (List.mem_of_getElem? (i := 2) rfl)) (fun _ h9 => h9) rfl dX5_takeHull_18 ?_
  refine lv_iconst (v := (1 : Int32)) hx hb dX5_takeHull_21 (by decide) ?_
  refine ar_ild (k := 1) (v := (re_numbers 1)) hx hb hE hP 3 rfl (by unfold vp_in; decide) rfl rfl dX5_takeHull_22 ?_
  refine va_putN (D := E.1) (ci := 6) (v := .int (re_numbers 1)) (ty := .int) (C := RX6) (T := TX6) (N := 17) hx hb hts iX5_takeHull_X6 tyX6 tyX6_ok nmX6 hown hE.1 hP hD hS 1 rfl rfl 11 (by decide) (hE.n 31 rfl) (fun _ h9 => h9) rfl (by decide +kernel) rfl rfl (Nat.le_of_ble_eq_true rfl) dX5_takeHull_23 (fun H locs hP hD hS => ?_)
  have hP : va_P E.1 vwCl [xReader h_re a_re, xRig (a_re 0) (upd (upd re_rig 10 (re_numbers 0)) 11 (re_numbers 1)), xI E (a_re 1) 16 re_stuffNumbers, xI E (a_re 2) 4 re_numbers] H := hP
  have hD : va_D A [xReader h_re a_re, xRig (a_re 0) (upd (upd re_rig 10 (re_numbers 0)) 11 (re_numbers 1)), xI E (a_re 1) 16 re_stuffNumbers, xI E (a_re 2) 4 re_numbers] := hD
  refine lv_aload_n hx hb dX5_takeHull_26 rfl (lv_at hl 0 rfl) ?_
  refine va_get (D := E.1) (ci := 5) (v := .ref (a_re 0)) (C := RX5) (T := TX5) (N := 3) hx hb hts iX5_takeHull_X5 hown hE.1 hP 0 rfl rfl 0 (by decide) (hts (.fieldLink RX5 12 "BandBoat$Reader" "rig" "LBandBoat$Rig;") (List.mem_of_getElem? (i := 1) rfl)) (fun _ h9 => h9) rfl dX5_takeHull_27 ?_
  refine lv_aload_n hx hb dX5_takeHull_30 rfl (lv_at hl 0 rfl) ?_
  refine va_get (D := E.1) (ci := 5) (v := .ref (a_re 2)) (C := RX5) (T := TX5) (N := 3) hx hb hts iX5_takeHull_X5 hown hE.1 hP 0 rfl rfl 2 (by decide) (hts (.fieldLink RX5 22 "BandBoat$Reader" "numbers" "[I") (List.mem_of_getElem? (i := 2) rfl)) (fun _ h9 => h9) rfl dX5_takeHull_31 ?_
  refine lv_iconst (v := (2 : Int32)) hx hb dX5_takeHull_34 (by decide) ?_
  refine ar_ild (k := 2) (v := (re_numbers 2)) hx hb hE hP 3 rfl (by unfold vp_in; decide) rfl rfl dX5_takeHull_35 ?_
  refine va_putN (D := E.1) (ci := 6) (v := .int (re_numbers 2)) (ty := .int) (C := RX6) (T := TX6) (N := 17) hx hb hts iX5_takeHull_X6 tyX6 tyX6_ok nmX6 hown hE.1 hP hD hS 1 rfl rfl 12 (by decide) (hE.n 33 rfl) (fun _ h9 => h9) rfl (by decide +kernel) rfl rfl (Nat.le_of_ble_eq_true rfl) dX5_takeHull_36 (fun H locs hP hD hS => ?_)
  have hP : va_P E.1 vwCl [xReader h_re a_re, xRig (a_re 0) (upd (upd (upd re_rig 10 (re_numbers 0)) 11 (re_numbers 1)) 12 (re_numbers 2)), xI E (a_re 1) 16 re_stuffNumbers, xI E (a_re 2) 4 re_numbers] H := hP
  have hD : va_D A [xReader h_re a_re, xRig (a_re 0) (upd (upd (upd re_rig 10 (re_numbers 0)) 11 (re_numbers 1)) 12 (re_numbers 2)), xI E (a_re 1) 16 re_stuffNumbers, xI E (a_re 2) 4 re_numbers] := hD
  refine lv_aload_n hx hb dX5_takeHull_39 rfl (lv_at hl 0 rfl) ?_
  refine va_get (D := E.1) (ci := 5) (v := .ref (a_re 0)) (C := RX5) (T := TX5) (N := 3) hx hb hts iX5_takeHull_X5 hown hE.1 hP 0 rfl rfl 0 (by decide) (hts (.fieldLink RX5 12 "BandBoat$Reader" "rig" "LBandBoat$Rig;") (List.mem_of_getElem? (i := 1) rfl)) (fun _ h9 => h9) rfl dX5_takeHull_40 ?_
  refine va_getN (D := E.1) (ci := 6) (v := .int (re_numbers 0)) (C := RX6) (T := TX6) (N := 17) hx hb hts iX5_takeHull_X6 hown hE.1 hP 1 rfl rfl 10 (by decide) (hE.n 29 rfl) (fun _ h9 => h9) rfl dX5_takeHull_43 ?_
  refine lv_iconst (v := (1 : Int32)) hx hb dX5_takeHull_46 (by decide) ?_
  refine lv_bipush (v := (99 : Int32)) hx hb dX5_takeHull_47 (by decide) ?_
  refine kI (wc := []) (wr := [xReader h_re a_re, xRig (a_re 0) (upd (upd (upd re_rig 10 (re_numbers 0)) 11 (re_numbers 1)) 12 (re_numbers 2)), xI E (a_re 1) 16 re_stuffNumbers, xI E (a_re 2) 4 re_numbers]) (wc' := (fun (_ : Unit) => [])) (wn := (fun (_ : Unit) => [xReader h_re a_re, xRig (a_re 0) (upd (upd (upd re_rig 10 (re_numbers 0)) 11 (re_numbers 1)) 12 (re_numbers 2)), xI E (a_re 1) 16 re_stuffNumbers, xI E (a_re 2) 4 re_numbers])) (isC := []) (isR := [0, 1, 2, 3]) (is2 := [0, 1, 2, 3]) cx hP hD hS ⟨rfl, rfl, by decide, by decide, by decide, by decide, fun _ => rfl⟩ (rSN (As := [.int (re_numbers 0), .int (1 : Int32), .int (99 : Int32)]) (rest := []) cx (c_X9_within l E (re_numbers 0) (1 : Int32) (99 : Int32) _) (va_cnB 3 hts gX5_takeHull_X9_within_n53 rfl rfl rfl (hE.nw 83 rfl) (hts (.initialized RX9) (List.mem_of_getElem? (i := 4) rfl)) (by decide +kernel) ⟨Nat.le_of_ble_eq_true rfl, Nat.le_of_ble_eq_true rfl⟩) (hts (.static yX9_within) (List.mem_of_getElem? (i := 3) rfl)) rfl hl.1 rfl (Nat.le_of_ble_eq_true rfl) dX5_takeHull_49 ⟨Nat.zero_le _, Nat.zero_le _⟩) (fun r1 u H locs hw hP hD hS => ?_)
  subst hw
  refine lv_if_eq (tgt := 91) hx hb dX5_takeHull_52 (by decide) (fun c52 => ?_) (fun c52 => ?_)
  · rw [if_pos c52] at hρ
    refine lv_iconst (v := (0 : Int32)) hx hb dX5_takeHull_91 (by decide) ?_
    exact hq (0 : Int32) ((re_numbers 0), (re_numbers 1), (re_numbers 2)) _ _ _ _ dX5_takeHull_92 rfl (hρ0.trans hρ) hP hD hS
  · rw [if_neg c52] at hρ
    refine lv_aload_n hx hb dX5_takeHull_55 rfl (lv_at hl 0 rfl) ?_
    refine va_get (D := E.1) (ci := 5) (v := .ref (a_re 0)) (C := RX5) (T := TX5) (N := 3) hx hb hts iX5_takeHull_X5 hown hE.1 hP 0 rfl rfl 0 (by decide) (hts (.fieldLink RX5 12 "BandBoat$Reader" "rig" "LBandBoat$Rig;") (List.mem_of_getElem? (i := 1) rfl)) (fun _ h9 => h9) rfl dX5_takeHull_56 ?_
    refine va_getN (D := E.1) (ci := 6) (v := .int (re_numbers 1)) (C := RX6) (T := TX6) (N := 17) hx hb hts iX5_takeHull_X6 hown hE.1 hP 1 rfl rfl 11 (by decide) (hE.n 31 rfl) (fun _ h9 => h9) rfl dX5_takeHull_59 ?_
    refine lv_iconst (v := (1 : Int32)) hx hb dX5_takeHull_62 (by decide) ?_
    refine lv_bipush (v := (99 : Int32)) hx hb dX5_takeHull_63 (by decide) ?_
    refine kI (wc := []) (wr := [xReader h_re a_re, xRig (a_re 0) (upd (upd (upd re_rig 10 (re_numbers 0)) 11 (re_numbers 1)) 12 (re_numbers 2)), xI E (a_re 1) 16 re_stuffNumbers, xI E (a_re 2) 4 re_numbers]) (wc' := (fun (_ : Unit) => [])) (wn := (fun (_ : Unit) => [xReader h_re a_re, xRig (a_re 0) (upd (upd (upd re_rig 10 (re_numbers 0)) 11 (re_numbers 1)) 12 (re_numbers 2)), xI E (a_re 1) 16 re_stuffNumbers, xI E (a_re 2) 4 re_numbers])) (isC := []) (isR := [0, 1, 2, 3]) (is2 := [0, 1, 2, 3]) cx hP hD hS ⟨rfl, rfl, by decide, by decide, by decide, by decide, fun _ => rfl⟩ (rSN (As := [.int (re_numbers 1), .int (1 : Int32), .int (99 : Int32)]) (rest := []) cx (c_X9_within l E (re_numbers 1) (1 : Int32) (99 : Int32) _) (va_cnB 3 hts gX5_takeHull_X9_within_n53 rfl rfl rfl (hE.nw 83 rfl) (hts (.initialized RX9) (List.mem_of_getElem? (i := 4) rfl)) (by decide +kernel) ⟨Nat.le_of_ble_eq_true rfl, Nat.le_of_ble_eq_true rfl⟩) (hts (.static yX9_within) (List.mem_of_getElem? (i := 3) rfl)) rfl hl.1 rfl (Nat.le_of_ble_eq_true rfl) dX5_takeHull_65 ⟨Nat.zero_le _, Nat.zero_le _⟩) (fun r2 u H locs hw hP hD hS => ?_)
    subst hw
    refine lv_if_eq (tgt := 91) hx hb dX5_takeHull_68 (by decide) (fun c68 => ?_) (fun c68 => ?_)
    · rw [if_pos c68] at hρ
      refine lv_iconst (v := (0 : Int32)) hx hb dX5_takeHull_91 (by decide) ?_
      exact hq (0 : Int32) ((re_numbers 0), (re_numbers 1), (re_numbers 2)) _ _ _ _ dX5_takeHull_92 rfl (hρ0.trans hρ) hP hD hS
    · rw [if_neg c68] at hρ
      refine lv_aload_n hx hb dX5_takeHull_71 rfl (lv_at hl 0 rfl) ?_
      refine va_get (D := E.1) (ci := 5) (v := .ref (a_re 0)) (C := RX5) (T := TX5) (N := 3) hx hb hts iX5_takeHull_X5 hown hE.1 hP 0 rfl rfl 0 (by decide) (hts (.fieldLink RX5 12 "BandBoat$Reader" "rig" "LBandBoat$Rig;") (List.mem_of_getElem? (i := 1) rfl)) (fun _ h9 => h9) rfl dX5_takeHull_72 ?_
      refine va_getN (D := E.1) (ci := 6) (v := .int (re_numbers 2)) (C := RX6) (T := TX6) (N := 17) hx hb hts iX5_takeHull_X6 hown hE.1 hP 1 rfl rfl 12 (by decide) (hE.n 33 rfl) (fun _ h9 => h9) rfl dX5_takeHull_75 ?_
      refine lv_iconst (v := (0 : Int32)) hx hb dX5_takeHull_78 (by decide) ?_
      refine lv_bipush (v := (20 : Int32)) hx hb dX5_takeHull_79 (by decide) ?_
      refine kI (wc := []) (wr := [xReader h_re a_re, xRig (a_re 0) (upd (upd (upd re_rig 10 (re_numbers 0)) 11 (re_numbers 1)) 12 (re_numbers 2)), xI E (a_re 1) 16 re_stuffNumbers, xI E (a_re 2) 4 re_numbers]) (wc' := (fun (_ : Unit) => [])) (wn := (fun (_ : Unit) => [xReader h_re a_re, xRig (a_re 0) (upd (upd (upd re_rig 10 (re_numbers 0)) 11 (re_numbers 1)) 12 (re_numbers 2)), xI E (a_re 1) 16 re_stuffNumbers, xI E (a_re 2) 4 re_numbers])) (isC := []) (isR := [0, 1, 2, 3]) (is2 := [0, 1, 2, 3]) cx hP hD hS ⟨rfl, rfl, by decide, by decide, by decide, by decide, fun _ => rfl⟩ (rSN (As := [.int (re_numbers 2), .int (0 : Int32), .int (20 : Int32)]) (rest := []) cx (c_X9_within l E (re_numbers 2) (0 : Int32) (20 : Int32) _) (va_cnB 3 hts gX5_takeHull_X9_within_n53 rfl rfl rfl (hE.nw 83 rfl) (hts (.initialized RX9) (List.mem_of_getElem? (i := 4) rfl)) (by decide +kernel) ⟨Nat.le_of_ble_eq_true rfl, Nat.le_of_ble_eq_true rfl⟩) (hts (.static yX9_within) (List.mem_of_getElem? (i := 3) rfl)) rfl hl.1 rfl (Nat.le_of_ble_eq_true rfl) dX5_takeHull_81 ⟨Nat.zero_le _, Nat.zero_le _⟩) (fun r3 u H locs hw hP hD hS => ?_)
      subst hw
      refine lv_if_eq (tgt := 91) hx hb dX5_takeHull_84 (by decide) (fun c84 => ?_) (fun c84 => ?_)
      · rw [if_pos c84] at hρ
        refine lv_iconst (v := (0 : Int32)) hx hb dX5_takeHull_91 (by decide) ?_
        exact hq (0 : Int32) ((re_numbers 0), (re_numbers 1), (re_numbers 2)) _ _ _ _ dX5_takeHull_92 rfl (hρ0.trans hρ) hP hD hS
      · rw [if_neg c84] at hρ
        refine lv_iconst (v := (1 : Int32)) hx hb dX5_takeHull_87 (by decide) ?_
        refine lv_goto (tgt := 92) hx hb dX5_takeHull_88 (by decide) ?_
        exact hq (1 : Int32) ((re_numbers 0), (re_numbers 1), (re_numbers 2)) _ _ _ _ dX5_takeHull_92 rfl (hρ0.trans hρ) hP hD hS
theorem F_X5_takeHull_b (re_numbers : Nat → Int32) : (F_X5_takeHull re_numbers).1 = 0 ∨ (F_X5_takeHull re_numbers).1 = 1 := by
  unfold F_X5_takeHull
  (repeat' split) <;> first | exact Or.inl rfl | exact Or.inr rfl
