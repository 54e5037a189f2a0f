def F_X10_readsItem_k411 (v2 : Int32) (v3 : Int32) (g4 : Nat → Int32) : Int32 × Int32 × (Nat → Int32) := (v2, v3, g4)
def F_X10_readsItem_k408 (mm : Nat → Int32) (bt : Nat → Int32) (r1 : Int32) (v2 : Int32) (v3 : Int32) : Int32 × Int32 × (Nat → Int32) := F_X10_readsItem_k411 v2 v3 (F_X10_puts (upd (upd mm 3 v2) 4 v3) bt (27 : Int32) r1)
def F_X10_readsItem_k387 (v6 : Int32) (v7 : Int32) (g8 : Nat → Int32) : Int32 × Int32 × (Nat → Int32) := (v6, v7, g8)
def F_X10_readsItem_k384 (mm : Nat → Int32) (bt : Nat → Int32) (r5 : Int32) (v6 : Int32) (v7 : Int32) : Int32 × Int32 × (Nat → Int32) := F_X10_readsItem_k387 v6 v7 (F_X10_puts (upd (upd mm 3 v6) 4 v7) bt (26 : Int32) r5)
def F_X10_readsItem_k363 (v10 : Int32) (v11 : Int32) (g12 : Nat → Int32) : Int32 × Int32 × (Nat → Int32) := (v10, v11, g12)
def F_X10_readsItem_k360 (mm : Nat → Int32) (bt : Nat → Int32) (r9 : Int32) (v10 : Int32) (v11 : Int32) : Int32 × Int32 × (Nat → Int32) := F_X10_readsItem_k363 v10 v11 (F_X10_puts (upd (upd mm 3 v10) 4 v11) bt (25 : Int32) r9)
def F_X10_readsItem_k339 (v14 : Int32) (v15 : Int32) (g16 : Nat → Int32) : Int32 × Int32 × (Nat → Int32) := (v14, v15, g16)
def F_X10_readsItem_k336 (mm : Nat → Int32) (bt : Nat → Int32) (r13 : Int32) (v14 : Int32) (v15 : Int32) : Int32 × Int32 × (Nat → Int32) := F_X10_readsItem_k339 v14 v15 (F_X10_puts (upd (upd mm 3 v14) 4 v15) bt (24 : Int32) r13)
def F_X10_readsItem_k315 (v24 : Int32) (v25 : Int32) (g28 : Nat → Int32) : Int32 × Int32 × (Nat → Int32) := (v24, v25, g28)
def F_X10_readsItem_k307 (mm : Nat → Int32) (r23 : Int32) (v24 : Int32) (v25 : Int32) (g27 : Nat → Int32) : Int32 × Int32 × (Nat → Int32) := F_X10_readsItem_k315 v24 v25 (F_X10_puts (upd (upd mm 3 v24) 4 v25) g27 (23 : Int32) r23)
def F_X10_readsItem_k299 (mm : Nat → Int32) (r20 : Int32) (r23 : Int32) (v24 : Int32) (v25 : Int32) (g26 : Nat → Int32) : Int32 × Int32 × (Nat → Int32) := F_X10_readsItem_k307 mm r23 v24 v25 (F_X10_puts (upd (upd mm 3 v24) 4 v25) g26 (22 : Int32) r20)
def F_X10_readsItem_k290 (mm : Nat → Int32) (bt : Nat → Int32) (r17 : Int32) (r20 : Int32) (r23 : Int32) (v24 : Int32) (v25 : Int32) : Int32 × Int32 × (Nat → Int32) := F_X10_readsItem_k299 mm r20 r23 v24 v25 (F_X10_puts (upd (upd mm 3 v24) 4 v25) bt (21 : Int32) r17)
def F_X10_readsItem_k279 (mm : Nat → Int32) (tx : Nat → Int32) (bt : Nat → Int32) (r17 : Int32) (r20 : Int32) (v21 : Int32) (v22 : Int32) : Int32 × Int32 × (Nat → Int32) := (match F_X10_number (upd (upd mm 3 v21) 4 v22) tx (0 : Int32) (20 : Int32) (59 : Int32) with | (r23, v24, v25) => F_X10_readsItem_k290 mm bt r17 r20 r23 v24 v25)
def F_X10_readsItem_k269 (mm : Nat → Int32) (tx : Nat → Int32) (bt : Nat → Int32) (r17 : Int32) (v18 : Int32) (v19 : Int32) : Int32 × Int32 × (Nat → Int32) := (match F_X10_number (upd (upd mm 3 v18) 4 v19) tx (1 : Int32) (99 : Int32) (44 : Int32) with | (r20, v21, v22) => F_X10_readsItem_k279 mm tx bt r17 r20 v21 v22)
def F_X10_readsItem_k251 (v33 : Int32) (v34 : Int32) (g36 : Nat → Int32) : Int32 × Int32 × (Nat → Int32) := (v33, v34, g36)
def F_X10_readsItem_k243 (mm : Nat → Int32) (r32 : Int32) (v33 : Int32) (v34 : Int32) (g35 : Nat → Int32) : Int32 × Int32 × (Nat → Int32) := F_X10_readsItem_k251 v33 v34 (F_X10_puts (upd (upd mm 3 v33) 4 v34) g35 (20 : Int32) r32)
def F_X10_readsItem_k234 (mm : Nat → Int32) (bt : Nat → Int32) (r29 : Int32) (r32 : Int32) (v33 : Int32) (v34 : Int32) : Int32 × Int32 × (Nat → Int32) := F_X10_readsItem_k243 mm r32 v33 v34 (F_X10_puts (upd (upd mm 3 v33) 4 v34) bt (19 : Int32) r29)
def F_X10_readsItem_k224 (mm : Nat → Int32) (tx : Nat → Int32) (bt : Nat → Int32) (r29 : Int32) (v30 : Int32) (v31 : Int32) : Int32 × Int32 × (Nat → Int32) := (match F_X10_number (upd (upd mm 3 v30) 4 v31) tx (1 : Int32) (20 : Int32) (59 : Int32) with | (r32, v33, v34) => F_X10_readsItem_k234 mm bt r29 r32 v33 v34)
def F_X10_readsItem_k206 (v44 : Int32) (v45 : Int32) (g49 : Nat → Int32) : Int32 × Int32 × (Nat → Int32) := (v44, v45, g49)
def F_X10_readsItem_k199 (mm : Nat → Int32) (v44 : Int32) (v45 : Int32) (g48 : Nat → Int32) : Int32 × Int32 × (Nat → Int32) := F_X10_readsItem_k206 v44 v45 (F_X10_puts (upd (upd mm 3 v44) 4 v45) g48 (29 : Int32) (1 : Int32))
def F_X10_readsItem_k191 (mm : Nat → Int32) (r43 : Int32) (v44 : Int32) (v45 : Int32) (g47 : Nat → Int32) : Int32 × Int32 × (Nat → Int32) := F_X10_readsItem_k199 mm v44 v45 (F_X10_puts (upd (upd mm 3 v44) 4 v45) g47 (18 : Int32) r43)
def F_X10_readsItem_k183 (mm : Nat → Int32) (r40 : Int32) (r43 : Int32) (v44 : Int32) (v45 : Int32) (g46 : Nat → Int32) : Int32 × Int32 × (Nat → Int32) := F_X10_readsItem_k191 mm r43 v44 v45 (F_X10_puts (upd (upd mm 3 v44) 4 v45) g46 (17 : Int32) r40)
def F_X10_readsItem_k174 (mm : Nat → Int32) (bt : Nat → Int32) (r37 : Int32) (r40 : Int32) (r43 : Int32) (v44 : Int32) (v45 : Int32) : Int32 × Int32 × (Nat → Int32) := F_X10_readsItem_k183 mm r40 r43 v44 v45 (F_X10_puts (upd (upd mm 3 v44) 4 v45) bt (16 : Int32) r37)
def F_X10_readsItem_k163 (mm : Nat → Int32) (tx : Nat → Int32) (bt : Nat → Int32) (r37 : Int32) (r40 : Int32) (v41 : Int32) (v42 : Int32) : Int32 × Int32 × (Nat → Int32) := (match F_X10_number (upd (upd mm 3 v41) 4 v42) tx (1 : Int32) (40 : Int32) (59 : Int32) with | (r43, v44, v45) => F_X10_readsItem_k174 mm bt r37 r40 r43 v44 v45)
def F_X10_readsItem_k153 (mm : Nat → Int32) (tx : Nat → Int32) (bt : Nat → Int32) (r37 : Int32) (v38 : Int32) (v39 : Int32) : Int32 × Int32 × (Nat → Int32) := (match F_X10_number (upd (upd mm 3 v38) 4 v39) tx (1 : Int32) (8 : Int32) (44 : Int32) with | (r40, v41, v42) => F_X10_readsItem_k163 mm tx bt r37 r40 v41 v42)
def F_X10_readsItem_k134 (v60 : Int32) (y0_76 : Int32) (g66 : Nat → Int32) : Int32 × Int32 × (Nat → Int32) := (v60, y0_76, g66)
def F_X10_readsItem_k125 (mm : Nat → Int32) (bt : Nat → Int32) (v60 : Int32) (y0_76 : Int32) (g65 : Nat → Int32) : Int32 × Int32 × (Nat → Int32) := F_X10_readsItem_k134 v60 y0_76 (F_X10_puts (upd (upd mm 3 v60) 4 y0_76) g65 (28 : Int32) ((bt 58) + (1 : Int32)))
def F_X10_readsItem_k112 (mm : Nat → Int32) (bt : Nat → Int32) (r59 : Int32) (v60 : Int32) (y0_76 : Int32) (g64 : Nat → Int32) : Int32 × Int32 × (Nat → Int32) := F_X10_readsItem_k125 mm bt v60 y0_76 (F_X10_puts (upd (upd mm 3 v60) 4 y0_76) g64 (((4 : Int32) * ((bt 58) &&& (3 : Int32))) + (3 : Int32)) r59)
def F_X10_readsItem_k99 (mm : Nat → Int32) (bt : Nat → Int32) (r56 : Int32) (r59 : Int32) (v60 : Int32) (y0_76 : Int32) (g63 : Nat → Int32) : Int32 × Int32 × (Nat → Int32) := F_X10_readsItem_k112 mm bt r59 v60 y0_76 (F_X10_puts (upd (upd mm 3 v60) 4 y0_76) g63 (((4 : Int32) * ((bt 58) &&& (3 : Int32))) + (2 : Int32)) r56)
def F_X10_readsItem_k86 (mm : Nat → Int32) (bt : Nat → Int32) (r53 : Int32) (r56 : Int32) (r59 : Int32) (v60 : Int32) (y0_76 : Int32) (g62 : Nat → Int32) : Int32 × Int32 × (Nat → Int32) := F_X10_readsItem_k99 mm bt r56 r59 v60 y0_76 (F_X10_puts (upd (upd mm 3 v60) 4 y0_76) g62 (((4 : Int32) * ((bt 58) &&& (3 : Int32))) + (1 : Int32)) r53)
def F_X10_readsItem_j76 (mm : Nat → Int32) (bt : Nat → Int32) (r50 : Int32) (r53 : Int32) (r56 : Int32) (r59 : Int32) (v60 : Int32) (y0_76 : Int32) : Int32 × Int32 × (Nat → Int32) := F_X10_readsItem_k86 mm bt r53 r56 r59 v60 y0_76 (F_X10_puts (upd (upd mm 3 v60) 4 y0_76) bt ((4 : Int32) * ((bt 58) &&& (3 : Int32))) r50)
def F_X10_readsItem_j75 (mm : Nat → Int32) (bt : Nat → Int32) (r50 : Int32) (r53 : Int32) (r56 : Int32) (r59 : Int32) (v60 : Int32) : Int32 × Int32 × (Nat → Int32) := F_X10_readsItem_j76 mm bt r50 r53 r56 r59 v60 (0 : Int32)
def F_X10_readsItem_k53 (mm : Nat → Int32) (bt : Nat → Int32) (r50 : Int32) (r53 : Int32) (r56 : Int32) (r59 : Int32) (v60 : Int32) (v61 : Int32) : Int32 × Int32 × (Nat → Int32) := (if v61 = (0 : Int32) then F_X10_readsItem_j75 mm bt r50 r53 r56 r59 v60 else (if (4 : Int32) ≤ (bt 58) then F_X10_readsItem_j75 mm bt r50 r53 r56 r59 v60 else F_X10_readsItem_j76 mm bt r50 r53 r56 r59 v60 (1 : Int32)))
def F_X10_readsItem_k41 (mm : Nat → Int32) (tx : Nat → Int32) (bt : Nat → Int32) (r50 : Int32) (r53 : Int32) (r56 : Int32) (v57 : Int32) (v58 : Int32) : Int32 × Int32 × (Nat → Int32) := (match F_X10_number (upd (upd mm 3 v57) 4 v58) tx r56 (99 : Int32) (59 : Int32) with | (r59, v60, v61) => F_X10_readsItem_k53 mm bt r50 r53 r56 r59 v60 v61)
def F_X10_readsItem_k30 (mm : Nat → Int32) (tx : Nat → Int32) (bt : Nat → Int32) (r50 : Int32) (r53 : Int32) (v54 : Int32) (v55 : Int32) : Int32 × Int32 × (Nat → Int32) := (match F_X10_number (upd (upd mm 3 v54) 4 v55) tx (1 : Int32) (40 : Int32) (44 : Int32) with | (r56, v57, v58) => F_X10_readsItem_k41 mm tx bt r50 r53 r56 v57 v58)
def F_X10_readsItem_k20 (mm : Nat → Int32) (tx : Nat → Int32) (bt : Nat → Int32) (r50 : Int32) (v51 : Int32) (v52 : Int32) : Int32 × Int32 × (Nat → Int32) := (match F_X10_number (upd (upd mm 3 v51) 4 v52) tx (0 : Int32) (90 : Int32) (44 : Int32) with | (r53, v54, v55) => F_X10_readsItem_k30 mm tx bt r50 r53 v54 v55)
def F_X10_readsItem (mm : Nat → Int32) (tx : Nat → Int32) (bt : Nat → Int32) (letter : Int32) : Int32 × Int32 × (Nat → Int32) := (if letter = (113 : Int32) then (match F_X10_number mm tx (1 : Int32) (99 : Int32) (44 : Int32) with | (r50, v51, v52) => F_X10_readsItem_k20 mm tx bt r50 v51 v52) else (if letter = (98 : Int32) then (match F_X10_number mm tx (0 : Int32) ((bt 58) - (1 : Int32)) (44 : Int32) with | (r37, v38, v39) => F_X10_readsItem_k153 mm tx bt r37 v38 v39) else (if letter = (112 : Int32) then (match F_X10_number mm tx (1 : Int32) (9 : Int32) (44 : Int32) with | (r29, v30, v31) => F_X10_readsItem_k224 mm tx bt r29 v30 v31) else (if letter = (104 : Int32) then (match F_X10_number mm tx (1 : Int32) (99 : Int32) (44 : Int32) with | (r17, v18, v19) => F_X10_readsItem_k269 mm tx bt r17 v18 v19) else (if letter = (114 : Int32) then (match F_X10_number mm tx (0 : Int32) (20 : Int32) (59 : Int32) with | (r13, v14, v15) => F_X10_readsItem_k336 mm bt r13 v14 v15) else (if letter = (99 : Int32) then (match F_X10_number mm tx (0 : Int32) (30 : Int32) (59 : Int32) with | (r9, v10, v11) => F_X10_readsItem_k360 mm bt r9 v10 v11) else (if letter = (97 : Int32) then (match F_X10_number mm tx (0 : Int32) (60 : Int32) (59 : Int32) with | (r5, v6, v7) => F_X10_readsItem_k384 mm bt r5 v6 v7) else (if letter = (119 : Int32) then (match F_X10_number mm tx (0 : Int32) (9 : Int32) (59 : Int32) with | (r1, v2, v3) => F_X10_readsItem_k408 mm bt r1 v2 v3) else ((mm 3), (0 : Int32), bt)))))))))
theorem iX10_readsItem_X10 : ∀ w ∈ wsX100, w ∈ wsX10_readsItem := fun _ h => List.mem_cons_of_mem _ (List.mem_append_right _ h)
set_option maxHeartbeats 4000000 in
set_option maxRecDepth 100000 in
theorem c_X10_readsItem (l : Launch) (E : wV) (h_mm : Nat) (a_mm : Nat → Nat) (mm : Nat → Int32) (tx : Nat → Int32) (bt : Nat → Int32) (letter : Int32) (ha : 0 ≤ (mm 3).toInt ∧ (mm 3).toInt ≤ 1000) (ht : (mm 2).toInt ≤ 300) : MetV l yX10_readsItem wsX10_readsItem ({ frames := 2, cells := 0, slots := 0, locals := 47 } : Room) E ([.ref h_mm, .int letter] : List Value) [xModel h_mm a_mm mm, xI E (a_mm 1) 300 tx, xI E (a_mm 5) 60 bt] (fun (u : Int32 × Int32 × (Nat → Int32)) => F_X10_readsItem mm tx bt letter = u ∧ ((mm 3).toInt ≤ (u.1).toInt ∧ (u.1).toInt ≤ (mm 3).toInt + 20)) (fun (u : Int32 × Int32 × (Nat → Int32)) => [xModel h_mm a_mm (upd (upd mm 3 u.1) 4 u.2.1), xI E (a_mm 1) 300 tx, xI E (a_mm 5) 60 u.2.2]) := by
  refine MetV.of (cc := cX10_readsItem) (maxL := 7) (own := RX10) (by decide) rfl rfl (Nat.le_of_ble_eq_true rfl) ?_
  intro p e s m below meth c A Q ls cx hP hD hS hl hq
  obtain ⟨hx, hb, hml, hown, hts, hE, hA⟩ := id cx
  have hl : lv_has ls 7 [(0, .ref h_mm), (1, .int letter)] := hl
  have hP : va_P E.1 vwCl [xModel h_mm a_mm mm, xI E (a_mm 1) 300 tx, xI E (a_mm 5) 60 bt] s.heap := hP
  obtain ⟨ρ, hρ0⟩ : ∃ ρ, F_X10_readsItem mm tx bt letter = ρ := ⟨_, rfl⟩
  have hρ := hρ0.symm
  unfold F_X10_readsItem at hρ
  refine lv_aload_n hx hb dX10_readsItem_0 rfl (lv_at hl 0 rfl) ?_
  refine va_get (D := E.1) (ci := 10) (v := .ref (a_mm 5)) (C := RX10) (T := TX10) (N := 27) hx hb hts iX10_readsItem_X10 hown hE.1 hP 0 rfl rfl 5 (by decide) (hts (.fieldLink RX10 13 "BandBoatModel" "boat" "[I") (List.mem_of_getElem? (i := 1) rfl)) (fun _ h9 => h9) rfl dX10_readsItem_1 ?_
  refine lv_bipush (v := (58 : Int32)) hx hb dX10_readsItem_4 (by decide) ?_
  refine ar_ild (k := 58) (v := (bt 58)) hx hb hE hP 2 rfl (by unfold vp_in; decide) rfl rfl dX10_readsItem_6 ?_
  refine lv_istore_n (lv' := [(2, .int (bt 58)), (0, .ref h_mm), (1, .int letter)]) hx hb dX10_readsItem_7 rfl hl (by decide) rfl (fun ls hl => ?_)
  refine lv_iload_n hx hb dX10_readsItem_8 rfl (lv_at hl 2 rfl) ?_
  refine lv_bipush (v := (113 : Int32)) hx hb dX10_readsItem_9 (by decide) ?_
  refine lv_icmp_ne (tgt := 140) hx hb dX10_readsItem_11 (by decide) (fun c11 => ?_) (fun c11 => ?_)
  · rw [if_neg c11] at hρ
    refine lv_iload_n hx hb dX10_readsItem_140 rfl (lv_at hl 2 rfl) ?_
    refine lv_bipush (v := (98 : Int32)) hx hb dX10_readsItem_141 (by decide) ?_
    refine lv_icmp_ne (tgt := 212) hx hb dX10_readsItem_143 (by decide) (fun c143 => ?_) (fun c143 => ?_)
    · rw [if_neg c143] at hρ
      refine lv_iload_n hx hb dX10_readsItem_212 rfl (lv_at hl 2 rfl) ?_
      refine lv_bipush (v := (112 : Int32)) hx hb dX10_readsItem_213 (by decide) ?_
      refine lv_icmp_ne (tgt := 257) hx hb dX10_readsItem_215 (by decide) (fun c215 => ?_) (fun c215 => ?_)
      · rw [if_neg c215] at hρ
        refine lv_iload_n hx hb dX10_readsItem_257 rfl (lv_at hl 2 rfl) ?_
        refine lv_bipush (v := (104 : Int32)) hx hb dX10_readsItem_258 (by decide) ?_
        refine lv_icmp_ne (tgt := 321) hx hb dX10_readsItem_260 (by decide) (fun c260 => ?_) (fun c260 => ?_)
        · rw [if_neg c260] at hρ
          refine lv_iload_n hx hb dX10_readsItem_321 rfl (lv_at hl 2 rfl) ?_
          refine lv_bipush (v := (114 : Int32)) hx hb dX10_readsItem_322 (by decide) ?_
          refine lv_icmp_ne (tgt := 345) hx hb dX10_readsItem_324 (by decide) (fun c324 => ?_) (fun c324 => ?_)
          · rw [if_neg c324] at hρ
            refine lv_iload_n hx hb dX10_readsItem_345 rfl (lv_at hl 2 rfl) ?_
            refine lv_bipush (v := (99 : Int32)) hx hb dX10_readsItem_346 (by decide) ?_
            refine lv_icmp_ne (tgt := 369) hx hb dX10_readsItem_348 (by decide) (fun c348 => ?_) (fun c348 => ?_)
            · rw [if_neg c348] at hρ
              refine lv_iload_n hx hb dX10_readsItem_369 rfl (lv_at hl 2 rfl) ?_
              refine lv_bipush (v := (97 : Int32)) hx hb dX10_readsItem_370 (by decide) ?_
              refine lv_icmp_ne (tgt := 393) hx hb dX10_readsItem_372 (by decide) (fun c372 => ?_) (fun c372 => ?_)
              · rw [if_neg c372] at hρ
                refine lv_iload_n hx hb dX10_readsItem_393 rfl (lv_at hl 2 rfl) ?_
                refine lv_bipush (v := (119 : Int32)) hx hb dX10_readsItem_394 (by decide) ?_
                refine lv_icmp_ne (tgt := 417) hx hb dX10_readsItem_396 (by decide) (fun c396 => ?_) (fun c396 => ?_)
                · rw [if_neg c396] at hρ
                  refine lv_aload_n hx hb dX10_readsItem_417 rfl (lv_at hl 1 rfl) ?_
                  refine lv_iconst (v := (0 : Int32)) hx hb dX10_readsItem_418 (by decide) ?_
                  refine va_put (D := E.1) (ci := 10) (v := .int (0 : Int32)) (ty := .boolean) (C := RX10) (T := TX10) (N := 27) hx hb hts iX10_readsItem_X10 tyX10 tyX10_ok nmX10 hown hE.1 hP hD hS 0 rfl rfl 4 (by decide) (hts (.fieldLink RX10 61 "BandBoatModel" "isWell" "Z") (List.mem_of_getElem? (i := 2) rfl)) (fun _ h9 => h9) rfl (by decide +kernel) rfl rfl (Nat.le_of_ble_eq_true rfl) dX10_readsItem_419 (fun H locs hP hD hS => ?_)
                  have hP : va_P E.1 vwCl [xModel h_mm a_mm (upd mm 4 (0 : Int32)), xI E (a_mm 1) 300 tx, xI E (a_mm 5) 60 bt] H := hP
                  have hD : va_D A [xModel h_mm a_mm (upd mm 4 (0 : Int32)), xI E (a_mm 1) 300 tx, xI E (a_mm 5) 60 bt] := hD
                  exact hq ((mm 3), (0 : Int32), bt) _ _ _ _ dX10_readsItem_422 ⟨(hρ0.trans hρ), show (mm 3).toInt ≤ ((mm 3)).toInt ∧ ((mm 3)).toInt ≤ (mm 3).toInt + 20 from by omega⟩ hP hD hS
                · rw [if_pos c396] at hρ
                  refine lv_aload_n hx hb dX10_readsItem_399 rfl (lv_at hl 1 rfl) ?_
                  refine lv_bipush (v := (27 : Int32)) hx hb dX10_readsItem_400 (by decide) ?_
                  refine lv_aload_n hx hb dX10_readsItem_402 rfl (lv_at hl 1 rfl) ?_
                  refine lv_iconst (v := (0 : Int32)) hx hb dX10_readsItem_403 (by decide) ?_
                  refine lv_bipush (v := (9 : Int32)) hx hb dX10_readsItem_404 (by decide) ?_
                  refine lv_bipush (v := (59 : Int32)) hx hb dX10_readsItem_406 (by decide) ?_
                  refine kI (wc := [xModel h_mm a_mm mm, xI E (a_mm 1) 300 tx]) (wr := [xI E (a_mm 5) 60 bt]) (wc' := (fun (u : Int32 × Int32) => [xModel h_mm a_mm (upd (upd mm 3 u.1) 4 u.2), xI E (a_mm 1) 300 tx])) (wn := (fun (u : Int32 × Int32) => [xModel h_mm a_mm (upd (upd mm 3 u.1) 4 u.2), xI E (a_mm 1) 300 tx, xI E (a_mm 5) 60 bt])) (isC := [0, 1]) (isR := [2]) (is2 := [1, 2, 0]) cx hP hD hS ⟨rfl, rfl, by decide, by decide, by decide, by decide, fun _ => rfl⟩ (rV (As := [.int (0 : Int32), .int (9 : Int32), .int (59 : Int32)]) (rest := [.int (27 : Int32), .ref h_mm]) (C := RX10) (q0 := 0) (ci := 10) cx (c_X10_number l E h_mm a_mm mm tx (0 : Int32) (9 : Int32) (59 : Int32) (by show 0 ≤ ((mm 3)).toInt ∧ ((mm 3)).toInt ≤ 4000; omega) (ht) _) (cwV 3 hts gX10_readsItem_X10_number rfl rfl rfl (by decide +kernel) ⟨Nat.le_of_ble_eq_true rfl, Nat.le_of_ble_eq_true rfl⟩) rfl rfl rfl rfl hl.1 rfl (Nat.le_of_ble_eq_true rfl) dX10_readsItem_408 ⟨Nat.zero_le _, Nat.zero_le _⟩) (fun r1 u H locs hw hP hD hS => ?_)
                  obtain ⟨hw, hn408⟩ := hw
                  obtain ⟨v2, v3⟩ := u
                  have hn408 : (mm 3).toInt < (v2).toInt ∧ (v2).toInt ≤ (mm 3).toInt + 5 := hn408
                  have hP : va_P E.1 vwCl [xModel h_mm a_mm (upd (upd mm 3 v2) 4 v3), xI E (a_mm 1) 300 tx, xI E (a_mm 5) 60 bt] H := hP
                  have hD : va_D A [xModel h_mm a_mm (upd (upd mm 3 v2) 4 v3), xI E (a_mm 1) 300 tx, xI E (a_mm 5) 60 bt] := hD
                  have hw : F_X10_number mm tx (0 : Int32) (9 : Int32) (59 : Int32) = (r1, v2, v3) := hw
                  rw [hw] at hρ
                  have hρ : ρ = F_X10_readsItem_k408 mm bt r1 v2 v3 := hρ
                  unfold F_X10_readsItem_k408 at hρ
                  refine kV (wc := [xModel h_mm a_mm (upd (upd mm 3 v2) 4 v3), xI E (a_mm 5) 60 bt]) (wr := [xI E (a_mm 1) 300 tx]) (wc' := (fun (u : (Nat → Int32)) => [xModel h_mm a_mm (upd (upd mm 3 v2) 4 v3), xI E (a_mm 5) 60 u])) (wn := (fun (u : (Nat → Int32)) => [xModel h_mm a_mm (upd (upd mm 3 v2) 4 v3), xI E (a_mm 1) 300 tx, xI E (a_mm 5) 60 u])) (isC := [0, 2]) (isR := [1]) (is2 := [1, 0, 2]) cx hP hD hS ⟨rfl, rfl, by decide, by decide, by decide, by decide, fun _ => rfl⟩ (rV (As := [.int (27 : Int32), .int r1]) (rest := []) (C := RX10) (q0 := 0) (ci := 10) cx (c_X10_puts l E h_mm a_mm (upd (upd mm 3 v2) 4 v3) bt (27 : Int32) r1 (by decide) _) (cwV 2 hts gX10_readsItem_X10_puts rfl rfl rfl (by decide +kernel) ⟨Nat.le_of_ble_eq_true rfl, Nat.le_of_ble_eq_true rfl⟩) rfl rfl rfl rfl hl.1 rfl (Nat.le_of_ble_eq_true rfl) dX10_readsItem_411 ⟨Nat.zero_le _, Nat.zero_le _⟩) (fun u H locs hw hP hD hS => ?_)
                  obtain ⟨g4, rfl⟩ : ∃ z, z = u := ⟨_, rfl⟩
                  have hP : va_P E.1 vwCl [xModel h_mm a_mm (upd (upd mm 3 v2) 4 v3), xI E (a_mm 1) 300 tx, xI E (a_mm 5) 60 g4] H := hP
                  have hD : va_D A [xModel h_mm a_mm (upd (upd mm 3 v2) 4 v3), xI E (a_mm 1) 300 tx, xI E (a_mm 5) 60 g4] := hD
                  have hw : F_X10_puts (upd (upd mm 3 v2) 4 v3) bt (27 : Int32) r1 = g4 := hw
                  rw [hw] at hρ
                  have hρ : ρ = F_X10_readsItem_k411 v2 v3 g4 := hρ
                  unfold F_X10_readsItem_k411 at hρ
                  refine lv_goto (tgt := 422) hx hb dX10_readsItem_414 (by decide) ?_
                  exact hq (v2, v3, g4) _ _ _ _ dX10_readsItem_422 ⟨(hρ0.trans hρ), show (mm 3).toInt ≤ (v2).toInt ∧ (v2).toInt ≤ (mm 3).toInt + 20 from by omega⟩ hP hD hS
              · rw [if_pos c372] at hρ
                refine lv_aload_n hx hb dX10_readsItem_375 rfl (lv_at hl 1 rfl) ?_
                refine lv_bipush (v := (26 : Int32)) hx hb dX10_readsItem_376 (by decide) ?_
                refine lv_aload_n hx hb dX10_readsItem_378 rfl (lv_at hl 1 rfl) ?_
                refine lv_iconst (v := (0 : Int32)) hx hb dX10_readsItem_379 (by decide) ?_
                refine lv_bipush (v := (60 : Int32)) hx hb dX10_readsItem_380 (by decide) ?_
                refine lv_bipush (v := (59 : Int32)) hx hb dX10_readsItem_382 (by decide) ?_
                refine kI (wc := [xModel h_mm a_mm mm, xI E (a_mm 1) 300 tx]) (wr := [xI E (a_mm 5) 60 bt]) (wc' := (fun (u : Int32 × Int32) => [xModel h_mm a_mm (upd (upd mm 3 u.1) 4 u.2), xI E (a_mm 1) 300 tx])) (wn := (fun (u : Int32 × Int32) => [xModel h_mm a_mm (upd (upd mm 3 u.1) 4 u.2), xI E (a_mm 1) 300 tx, xI E (a_mm 5) 60 bt])) (isC := [0, 1]) (isR := [2]) (is2 := [1, 2, 0]) cx hP hD hS ⟨rfl, rfl, by decide, by decide, by decide, by decide, fun _ => rfl⟩ (rV (As := [.int (0 : Int32), .int (60 : Int32), .int (59 : Int32)]) (rest := [.int (26 : Int32), .ref h_mm]) (C := RX10) (q0 := 0) (ci := 10) cx (c_X10_number l E h_mm a_mm mm tx (0 : Int32) (60 : Int32) (59 : Int32) (by show 0 ≤ ((mm 3)).toInt ∧ ((mm 3)).toInt ≤ 4000; omega) (ht) _) (cwV 3 hts gX10_readsItem_X10_number rfl rfl rfl (by decide +kernel) ⟨Nat.le_of_ble_eq_true rfl, Nat.le_of_ble_eq_true rfl⟩) rfl rfl rfl rfl hl.1 rfl (Nat.le_of_ble_eq_true rfl) dX10_readsItem_384 ⟨Nat.zero_le _, Nat.zero_le _⟩) (fun r5 u H locs hw hP hD hS => ?_)
                obtain ⟨hw, hn384⟩ := hw
                obtain ⟨v6, v7⟩ := u
                have hn384 : (mm 3).toInt < (v6).toInt ∧ (v6).toInt ≤ (mm 3).toInt + 5 := hn384
                have hP : va_P E.1 vwCl [xModel h_mm a_mm (upd (upd mm 3 v6) 4 v7), xI E (a_mm 1) 300 tx, xI E (a_mm 5) 60 bt] H := hP
                have hD : va_D A [xModel h_mm a_mm (upd (upd mm 3 v6) 4 v7), xI E (a_mm 1) 300 tx, xI E (a_mm 5) 60 bt] := hD
                have hw : F_X10_number mm tx (0 : Int32) (60 : Int32) (59 : Int32) = (r5, v6, v7) := hw
                rw [hw] at hρ
                have hρ : ρ = F_X10_readsItem_k384 mm bt r5 v6 v7 := hρ
                unfold F_X10_readsItem_k384 at hρ
                refine kV (wc := [xModel h_mm a_mm (upd (upd mm 3 v6) 4 v7), xI E (a_mm 5) 60 bt]) (wr := [xI E (a_mm 1) 300 tx]) (wc' := (fun (u : (Nat → Int32)) => [xModel h_mm a_mm (upd (upd mm 3 v6) 4 v7), xI E (a_mm 5) 60 u])) (wn := (fun (u : (Nat → Int32)) => [xModel h_mm a_mm (upd (upd mm 3 v6) 4 v7), xI E (a_mm 1) 300 tx, xI E (a_mm 5) 60 u])) (isC := [0, 2]) (isR := [1]) (is2 := [1, 0, 2]) cx hP hD hS ⟨rfl, rfl, by decide, by decide, by decide, by decide, fun _ => rfl⟩ (rV (As := [.int (26 : Int32), .int r5]) (rest := []) (C := RX10) (q0 := 0) (ci := 10) cx (c_X10_puts l E h_mm a_mm (upd (upd mm 3 v6) 4 v7) bt (26 : Int32) r5 (by decide) _) (cwV 2 hts gX10_readsItem_X10_puts rfl rfl rfl (by decide +kernel) ⟨Nat.le_of_ble_eq_true rfl, Nat.le_of_ble_eq_true rfl⟩) rfl rfl rfl rfl hl.1 rfl (Nat.le_of_ble_eq_true rfl) dX10_readsItem_387 ⟨Nat.zero_le _, Nat.zero_le _⟩) (fun u H locs hw hP hD hS => ?_)
                obtain ⟨g8, rfl⟩ : ∃ z, z = u := ⟨_, rfl⟩
                have hP : va_P E.1 vwCl [xModel h_mm a_mm (upd (upd mm 3 v6) 4 v7), xI E (a_mm 1) 300 tx, xI E (a_mm 5) 60 g8] H := hP
                have hD : va_D A [xModel h_mm a_mm (upd (upd mm 3 v6) 4 v7), xI E (a_mm 1) 300 tx, xI E (a_mm 5) 60 g8] := hD
                have hw : F_X10_puts (upd (upd mm 3 v6) 4 v7) bt (26 : Int32) r5 = g8 := hw
                rw [hw] at hρ
                have hρ : ρ = F_X10_readsItem_k387 v6 v7 g8 := hρ
                unfold F_X10_readsItem_k387 at hρ
                refine lv_goto (tgt := 422) hx hb dX10_readsItem_390 (by decide) ?_
                exact hq (v6, v7, g8) _ _ _ _ dX10_readsItem_422 ⟨(hρ0.trans hρ), show (mm 3).toInt ≤ (v6).toInt ∧ (v6).toInt ≤ (mm 3).toInt + 20 from by omega⟩ hP hD hS
            · rw [if_pos c348] at hρ
              refine lv_aload_n hx hb dX10_readsItem_351 rfl (lv_at hl 1 rfl) ?_
              refine lv_bipush (v := (25 : Int32)) hx hb dX10_readsItem_352 (by decide) ?_
              refine lv_aload_n hx hb dX10_readsItem_354 rfl (lv_at hl 1 rfl) ?_
              refine lv_iconst (v := (0 : Int32)) hx hb dX10_readsItem_355 (by decide) ?_
              refine lv_bipush (v := (30 : Int32)) hx hb dX10_readsItem_356 (by decide) ?_
              refine lv_bipush (v := (59 : Int32)) hx hb dX10_readsItem_358 (by decide) ?_
              refine kI (wc := [xModel h_mm a_mm mm, xI E (a_mm 1) 300 tx]) (wr := [xI E (a_mm 5) 60 bt]) (wc' := (fun (u : Int32 × Int32) => [xModel h_mm a_mm (upd (upd mm 3 u.1) 4 u.2), xI E (a_mm 1) 300 tx])) (wn := (fun (u : Int32 × Int32) => [xModel h_mm a_mm (upd (upd mm 3 u.1) 4 u.2), xI E (a_mm 1) 300 tx, xI E (a_mm 5) 60 bt])) (isC := [0, 1]) (isR := [2]) (is2 := [1, 2, 0]) cx hP hD hS ⟨rfl, rfl, by decide, by decide, by decide, by decide, fun _ => rfl⟩ (rV (As := [.int (0 : Int32), .int (30 : Int32), .int (59 : Int32)]) (rest := [.int (25 : Int32), .ref h_mm]) (C := RX10) (q0 := 0) (ci := 10) cx (c_X10_number l E h_mm a_mm mm tx (0 : Int32) (30 : Int32) (59 : Int32) (by show 0 ≤ ((mm 3)).toInt ∧ ((mm 3)).toInt ≤ 4000; omega) (ht) _) (cwV 3 hts gX10_readsItem_X10_number rfl rfl rfl (by decide +kernel) ⟨Nat.le_of_ble_eq_true rfl, Nat.le_of_ble_eq_true rfl⟩) rfl rfl rfl rfl hl.1 rfl (Nat.le_of_ble_eq_true rfl) dX10_readsItem_360 ⟨Nat.zero_le _, Nat.zero_le _⟩) (fun r9 u H locs hw hP hD hS => ?_)
              obtain ⟨hw, hn360⟩ := hw
              obtain ⟨v10, v11⟩ := u
              have hn360 : (mm 3).toInt < (v10).toInt ∧ (v10).toInt ≤ (mm 3).toInt + 5 := hn360
              have hP : va_P E.1 vwCl [xModel h_mm a_mm (upd (upd mm 3 v10) 4 v11), xI E (a_mm 1) 300 tx, xI E (a_mm 5) 60 bt] H := hP
              have hD : va_D A [xModel h_mm a_mm (upd (upd mm 3 v10) 4 v11), xI E (a_mm 1) 300 tx, xI E (a_mm 5) 60 bt] := hD
              have hw : F_X10_number mm tx (0 : Int32) (30 : Int32) (59 : Int32) = (r9, v10, v11) := hw
              rw [hw] at hρ
              have hρ : ρ = F_X10_readsItem_k360 mm bt r9 v10 v11 := hρ
              unfold F_X10_readsItem_k360 at hρ
              refine kV (wc := [xModel h_mm a_mm (upd (upd mm 3 v10) 4 v11), xI E (a_mm 5) 60 bt]) (wr := [xI E (a_mm 1) 300 tx]) (wc' := (fun (u : (Nat → Int32)) => [xModel h_mm a_mm (upd (upd mm 3 v10) 4 v11), xI E (a_mm 5) 60 u])) (wn := (fun (u : (Nat → Int32)) => [xModel h_mm a_mm (upd (upd mm 3 v10) 4 v11), xI E (a_mm 1) 300 tx, xI E (a_mm 5) 60 u])) (isC := [0, 2]) (isR := [1]) (is2 := [1, 0, 2]) cx hP hD hS ⟨rfl, rfl, by decide, by decide, by decide, by decide, fun _ => rfl⟩ (rV (As := [.int (25 : Int32), .int r9]) (rest := []) (C := RX10) (q0 := 0) (ci := 10) cx (c_X10_puts l E h_mm a_mm (upd (upd mm 3 v10) 4 v11) bt (25 : Int32) r9 (by decide) _) (cwV 2 hts gX10_readsItem_X10_puts rfl rfl rfl (by decide +kernel) ⟨Nat.le_of_ble_eq_true rfl, Nat.le_of_ble_eq_true rfl⟩) rfl rfl rfl rfl hl.1 rfl (Nat.le_of_ble_eq_true rfl) dX10_readsItem_363 ⟨Nat.zero_le _, Nat.zero_le _⟩) (fun u H locs hw hP hD hS => ?_)
              obtain ⟨g12, rfl⟩ : ∃ z, z = u := ⟨_, rfl⟩
              have hP : va_P E.1 vwCl [xModel h_mm a_mm (upd (upd mm 3 v10) 4 v11), xI E (a_mm 1) 300 tx, xI E (a_mm 5) 60 g12] H := hP
              have hD : va_D A [xModel h_mm a_mm (upd (upd mm 3 v10) 4 v11), xI E (a_mm 1) 300 tx, xI E (a_mm 5) 60 g12] := hD
              have hw : F_X10_puts (upd (upd mm 3 v10) 4 v11) bt (25 : Int32) r9 = g12 := hw
              rw [hw] at hρ
              have hρ : ρ = F_X10_readsItem_k363 v10 v11 g12 := hρ
              unfold F_X10_readsItem_k363 at hρ
              refine lv_goto (tgt := 422) hx hb dX10_readsItem_366 (by decide) ?_
              exact hq (v10, v11, g12) _ _ _ _ dX10_readsItem_422 ⟨(hρ0.trans hρ), show (mm 3).toInt ≤ (v10).toInt ∧ (v10).toInt ≤ (mm 3).toInt + 20 from by omega⟩ hP hD hS
          · rw [if_pos c324] at hρ
            refine lv_aload_n hx hb dX10_readsItem_327 rfl (lv_at hl 1 rfl) ?_
            refine lv_bipush (v := (24 : Int32)) hx hb dX10_readsItem_328 (by decide) ?_
            refine lv_aload_n hx hb dX10_readsItem_330 rfl (lv_at hl 1 rfl) ?_
            refine lv_iconst (v := (0 : Int32)) hx hb dX10_readsItem_331 (by decide) ?_
            refine lv_bipush (v := (20 : Int32)) hx hb dX10_readsItem_332 (by decide) ?_
            refine lv_bipush (v := (59 : Int32)) hx hb dX10_readsItem_334 (by decide) ?_
            refine kI (wc := [xModel h_mm a_mm mm, xI E (a_mm 1) 300 tx]) (wr := [xI E (a_mm 5) 60 bt]) (wc' := (fun (u : Int32 × Int32) => [xModel h_mm a_mm (upd (upd mm 3 u.1) 4 u.2), xI E (a_mm 1) 300 tx])) (wn := (fun (u : Int32 × Int32) => [xModel h_mm a_mm (upd (upd mm 3 u.1) 4 u.2), xI E (a_mm 1) 300 tx, xI E (a_mm 5) 60 bt])) (isC := [0, 1]) (isR := [2]) (is2 := [1, 2, 0]) cx hP hD hS ⟨rfl, rfl, by decide, by decide, by decide, by decide, fun _ => rfl⟩ (rV (As := [.int (0 : Int32), .int (20 : Int32), .int (59 : Int32)]) (rest := [.int (24 : Int32), .ref h_mm]) (C := RX10) (q0 := 0) (ci := 10) cx (c_X10_number l E h_mm a_mm mm tx (0 : Int32) (20 : Int32) (59 : Int32) (by show 0 ≤ ((mm 3)).toInt ∧ ((mm 3)).toInt ≤ 4000; omega) (ht) _) (cwV 3 hts gX10_readsItem_X10_number rfl rfl rfl (by decide +kernel) ⟨Nat.le_of_ble_eq_true rfl, Nat.le_of_ble_eq_true rfl⟩) rfl rfl rfl rfl hl.1 rfl (Nat.le_of_ble_eq_true rfl) dX10_readsItem_336 ⟨Nat.zero_le _, Nat.zero_le _⟩) (fun r13 u H locs hw hP hD hS => ?_)
            obtain ⟨hw, hn336⟩ := hw
            obtain ⟨v14, v15⟩ := u
            have hn336 : (mm 3).toInt < (v14).toInt ∧ (v14).toInt ≤ (mm 3).toInt + 5 := hn336
            have hP : va_P E.1 vwCl [xModel h_mm a_mm (upd (upd mm 3 v14) 4 v15), xI E (a_mm 1) 300 tx, xI E (a_mm 5) 60 bt] H := hP
            have hD : va_D A [xModel h_mm a_mm (upd (upd mm 3 v14) 4 v15), xI E (a_mm 1) 300 tx, xI E (a_mm 5) 60 bt] := hD
            have hw : F_X10_number mm tx (0 : Int32) (20 : Int32) (59 : Int32) = (r13, v14, v15) := hw
            rw [hw] at hρ
            have hρ : ρ = F_X10_readsItem_k336 mm bt r13 v14 v15 := hρ
            unfold F_X10_readsItem_k336 at hρ
            refine kV (wc := [xModel h_mm a_mm (upd (upd mm 3 v14) 4 v15), xI E (a_mm 5) 60 bt]) (wr := [xI E (a_mm 1) 300 tx]) (wc' := (fun (u : (Nat → Int32)) => [xModel h_mm a_mm (upd (upd mm 3 v14) 4 v15), xI E (a_mm 5) 60 u])) (wn := (fun (u : (Nat → Int32)) => [xModel h_mm a_mm (upd (upd mm 3 v14) 4 v15), xI E (a_mm 1) 300 tx, xI E (a_mm 5) 60 u])) (isC := [0, 2]) (isR := [1]) (is2 := [1, 0, 2]) cx hP hD hS ⟨rfl, rfl, by decide, by decide, by decide, by decide, fun _ => rfl⟩ (rV (As := [.int (24 : Int32), .int r13]) (rest := []) (C := RX10) (q0 := 0) (ci := 10) cx (c_X10_puts l E h_mm a_mm (upd (upd mm 3 v14) 4 v15) bt (24 : Int32) r13 (by decide) _) (cwV 2 hts gX10_readsItem_X10_puts rfl rfl rfl (by decide +kernel) ⟨Nat.le_of_ble_eq_true rfl, Nat.le_of_ble_eq_true rfl⟩) rfl rfl rfl rfl hl.1 rfl (Nat.le_of_ble_eq_true rfl) dX10_readsItem_339 ⟨Nat.zero_le _, Nat.zero_le _⟩) (fun u H locs hw hP hD hS => ?_)
            obtain ⟨g16, rfl⟩ : ∃ z, z = u := ⟨_, rfl⟩
            have hP : va_P E.1 vwCl [xModel h_mm a_mm (upd (upd mm 3 v14) 4 v15), xI E (a_mm 1) 300 tx, xI E (a_mm 5) 60 g16] H := hP
            have hD : va_D A [xModel h_mm a_mm (upd (upd mm 3 v14) 4 v15), xI E (a_mm 1) 300 tx, xI E (a_mm 5) 60 g16] := hD
            have hw : F_X10_puts (upd (upd mm 3 v14) 4 v15) bt (24 : Int32) r13 = g16 := hw
            rw [hw] at hρ
            have hρ : ρ = F_X10_readsItem_k339 v14 v15 g16 := hρ
            unfold F_X10_readsItem_k339 at hρ
            refine lv_goto (tgt := 422) hx hb dX10_readsItem_342 (by decide) ?_
            exact hq (v14, v15, g16) _ _ _ _ dX10_readsItem_422 ⟨(hρ0.trans hρ), show (mm 3).toInt ≤ (v14).toInt ∧ (v14).toInt ≤ (mm 3).toInt + 20 from by omega⟩ hP hD hS
        · rw [if_pos c260] at hρ
          refine lv_aload_n hx hb dX10_readsItem_263 rfl (lv_at hl 1 rfl) ?_
          refine lv_iconst (v := (1 : Int32)) hx hb dX10_readsItem_264 (by decide) ?_
          refine lv_bipush (v := (99 : Int32)) hx hb dX10_readsItem_265 (by decide) ?_
          refine lv_bipush (v := (44 : Int32)) hx hb dX10_readsItem_267 (by decide) ?_
          refine kI (wc := [xModel h_mm a_mm mm, xI E (a_mm 1) 300 tx]) (wr := [xI E (a_mm 5) 60 bt]) (wc' := (fun (u : Int32 × Int32) => [xModel h_mm a_mm (upd (upd mm 3 u.1) 4 u.2), xI E (a_mm 1) 300 tx])) (wn := (fun (u : Int32 × Int32) => [xModel h_mm a_mm (upd (upd mm 3 u.1) 4 u.2), xI E (a_mm 1) 300 tx, xI E (a_mm 5) 60 bt])) (isC := [0, 1]) (isR := [2]) (is2 := [1, 2, 0]) cx hP hD hS ⟨rfl, rfl, by decide, by decide, by decide, by decide, fun _ => rfl⟩ (rV (As := [.int (1 : Int32), .int (99 : Int32), .int (44 : Int32)]) (rest := []) (C := RX10) (q0 := 0) (ci := 10) cx (c_X10_number l E h_mm a_mm mm tx (1 : Int32) (99 : Int32) (44 : Int32) (by show 0 ≤ ((mm 3)).toInt ∧ ((mm 3)).toInt ≤ 4000; omega) (ht) _) (cwV 3 hts gX10_readsItem_X10_number rfl rfl rfl (by decide +kernel) ⟨Nat.le_of_ble_eq_true rfl, Nat.le_of_ble_eq_true rfl⟩) rfl rfl rfl rfl hl.1 rfl (Nat.le_of_ble_eq_true rfl) dX10_readsItem_269 ⟨Nat.zero_le _, Nat.zero_le _⟩) (fun r17 u H locs hw hP hD hS => ?_)
          obtain ⟨hw, hn269⟩ := hw
          obtain ⟨v18, v19⟩ := u
          have hn269 : (mm 3).toInt < (v18).toInt ∧ (v18).toInt ≤ (mm 3).toInt + 5 := hn269
          have hP : va_P E.1 vwCl [xModel h_mm a_mm (upd (upd mm 3 v18) 4 v19), xI E (a_mm 1) 300 tx, xI E (a_mm 5) 60 bt] H := hP
          have hD : va_D A [xModel h_mm a_mm (upd (upd mm 3 v18) 4 v19), xI E (a_mm 1) 300 tx, xI E (a_mm 5) 60 bt] := hD
          have hw : F_X10_number mm tx (1 : Int32) (99 : Int32) (44 : Int32) = (r17, v18, v19) := hw
          rw [hw] at hρ
          have hρ : ρ = F_X10_readsItem_k269 mm tx bt r17 v18 v19 := hρ
          unfold F_X10_readsItem_k269 at hρ
          refine lv_istore_n (lv' := [(3, .int r17), (2, .int (bt 58)), (0, .ref h_mm), (1, .int letter)]) hx hb dX10_readsItem_272 rfl hl (by decide) rfl (fun ls hl => ?_)
          refine lv_aload_n hx hb dX10_readsItem_273 rfl (lv_at hl 2 rfl) ?_
          refine lv_iconst (v := (1 : Int32)) hx hb dX10_readsItem_274 (by decide) ?_
          refine lv_bipush (v := (99 : Int32)) hx hb dX10_readsItem_275 (by decide) ?_
          refine lv_bipush (v := (44 : Int32)) hx hb dX10_readsItem_277 (by decide) ?_
          refine kI (wc := [xModel h_mm a_mm (upd (upd mm 3 v18) 4 v19), xI E (a_mm 1) 300 tx]) (wr := [xI E (a_mm 5) 60 bt]) (wc' := (fun (u : Int32 × Int32) => [xModel h_mm a_mm (upd (upd (upd (upd mm 3 v18) 4 v19) 3 u.1) 4 u.2), xI E (a_mm 1) 300 tx])) (wn := (fun (u : Int32 × Int32) => [xModel h_mm a_mm (upd (upd mm 3 u.1) 4 u.2), xI E (a_mm 1) 300 tx, xI E (a_mm 5) 60 bt])) (isC := [0, 1]) (isR := [2]) (is2 := [1, 2, 0]) cx hP hD hS ⟨rfl, rfl, by decide, by decide, by decide, by decide, fun _ => rfl⟩ (rV (As := [.int (1 : Int32), .int (99 : Int32), .int (44 : Int32)]) (rest := []) (C := RX10) (q0 := 0) (ci := 10) cx (c_X10_number l E h_mm a_mm (upd (upd mm 3 v18) 4 v19) tx (1 : Int32) (99 : Int32) (44 : Int32) (by show 0 ≤ (v18).toInt ∧ (v18).toInt ≤ 4000; omega) (ht) _) (cwV 3 hts gX10_readsItem_X10_number rfl rfl rfl (by decide +kernel) ⟨Nat.le_of_ble_eq_true rfl, Nat.le_of_ble_eq_true rfl⟩) rfl rfl rfl rfl hl.1 rfl (Nat.le_of_ble_eq_true rfl) dX10_readsItem_279 ⟨Nat.zero_le _, Nat.zero_le _⟩) (fun r20 u H locs hw hP hD hS => ?_)
          obtain ⟨hw, hn279⟩ := hw
          obtain ⟨v21, v22⟩ := u
          have hn279 : v18.toInt < (v21).toInt ∧ (v21).toInt ≤ v18.toInt + 5 := hn279
          have hP : va_P E.1 vwCl [xModel h_mm a_mm (upd (upd mm 3 v21) 4 v22), xI E (a_mm 1) 300 tx, xI E (a_mm 5) 60 bt] H := hP
          have hD : va_D A [xModel h_mm a_mm (upd (upd mm 3 v21) 4 v22), xI E (a_mm 1) 300 tx, xI E (a_mm 5) 60 bt] := hD
          have hw : F_X10_number (upd (upd mm 3 v18) 4 v19) tx (1 : Int32) (99 : Int32) (44 : Int32) = (r20, v21, v22) := hw
          rw [hw] at hρ
          have hρ : ρ = F_X10_readsItem_k279 mm tx bt r17 r20 v21 v22 := hρ
          unfold F_X10_readsItem_k279 at hρ
          refine lv_istore (lv' := [(4, .int r20), (3, .int r17), (2, .int (bt 58)), (0, .ref h_mm), (1, .int letter)]) hx hb dX10_readsItem_282 hl (by decide) rfl (fun ls hl => ?_)
          refine lv_aload_n hx hb dX10_readsItem_284 rfl (lv_at hl 3 rfl) ?_
          refine lv_iconst (v := (0 : Int32)) hx hb dX10_readsItem_285 (by decide) ?_
          refine lv_bipush (v := (20 : Int32)) hx hb dX10_readsItem_286 (by decide) ?_
          refine lv_bipush (v := (59 : Int32)) hx hb dX10_readsItem_288 (by decide) ?_
          refine kI (wc := [xModel h_mm a_mm (upd (upd mm 3 v21) 4 v22), xI E (a_mm 1) 300 tx]) (wr := [xI E (a_mm 5) 60 bt]) (wc' := (fun (u : Int32 × Int32) => [xModel h_mm a_mm (upd (upd (upd (upd mm 3 v21) 4 v22) 3 u.1) 4 u.2), xI E (a_mm 1) 300 tx])) (wn := (fun (u : Int32 × Int32) => [xModel h_mm a_mm (upd (upd mm 3 u.1) 4 u.2), xI E (a_mm 1) 300 tx, xI E (a_mm 5) 60 bt])) (isC := [0, 1]) (isR := [2]) (is2 := [1, 2, 0]) cx hP hD hS ⟨rfl, rfl, by decide, by decide, by decide, by decide, fun _ => rfl⟩ (rV (As := [.int (0 : Int32), .int (20 : Int32), .int (59 : Int32)]) (rest := []) (C := RX10) (q0 := 0) (ci := 10) cx (c_X10_number l E h_mm a_mm (upd (upd mm 3 v21) 4 v22) tx (0 : Int32) (20 : Int32) (59 : Int32) (by show 0 ≤ (v21).toInt ∧ (v21).toInt ≤ 4000; omega) (ht) _) (cwV 3 hts gX10_readsItem_X10_number rfl rfl rfl (by decide +kernel) ⟨Nat.le_of_ble_eq_true rfl, Nat.le_of_ble_eq_true rfl⟩) rfl rfl rfl rfl hl.1 rfl (Nat.le_of_ble_eq_true rfl) dX10_readsItem_290 ⟨Nat.zero_le _, Nat.zero_le _⟩) (fun r23 u H locs hw hP hD hS => ?_)
          obtain ⟨hw, hn290⟩ := hw
          obtain ⟨v24, v25⟩ := u
          have hn290 : v21.toInt < (v24).toInt ∧ (v24).toInt ≤ v21.toInt + 5 := hn290
          have hP : va_P E.1 vwCl [xModel h_mm a_mm (upd (upd mm 3 v24) 4 v25), xI E (a_mm 1) 300 tx, xI E (a_mm 5) 60 bt] H := hP
          have hD : va_D A [xModel h_mm a_mm (upd (upd mm 3 v24) 4 v25), xI E (a_mm 1) 300 tx, xI E (a_mm 5) 60 bt] := hD
          have hw : F_X10_number (upd (upd mm 3 v21) 4 v22) tx (0 : Int32) (20 : Int32) (59 : Int32) = (r23, v24, v25) := hw
          rw [hw] at hρ
          have hρ : ρ = F_X10_readsItem_k290 mm bt r17 r20 r23 v24 v25 := hρ
          unfold F_X10_readsItem_k290 at hρ
          refine lv_istore (lv' := [(5, .int r23), (4, .int r20), (3, .int r17), (2, .int (bt 58)), (0, .ref h_mm), (1, .int letter)]) hx hb dX10_readsItem_293 hl (by decide) rfl (fun ls hl => ?_)
          refine lv_aload_n hx hb dX10_readsItem_295 rfl (lv_at hl 4 rfl) ?_
          refine lv_bipush (v := (21 : Int32)) hx hb dX10_readsItem_296 (by decide) ?_
          refine lv_iload_n hx hb dX10_readsItem_298 rfl (lv_at hl 2 rfl) ?_
          refine kV (wc := [xModel h_mm a_mm (upd (upd mm 3 v24) 4 v25), xI E (a_mm 5) 60 bt]) (wr := [xI E (a_mm 1) 300 tx]) (wc' := (fun (u : (Nat → Int32)) => [xModel h_mm a_mm (upd (upd mm 3 v24) 4 v25), xI E (a_mm 5) 60 u])) (wn := (fun (u : (Nat → Int32)) => [xModel h_mm a_mm (upd (upd mm 3 v24) 4 v25), xI E (a_mm 1) 300 tx, xI E (a_mm 5) 60 u])) (isC := [0, 2]) (isR := [1]) (is2 := [1, 0, 2]) cx hP hD hS ⟨rfl, rfl, by decide, by decide, by decide, by decide, fun _ => rfl⟩ (rV (As := [.int (21 : Int32), .int r17]) (rest := []) (C := RX10) (q0 := 0) (ci := 10) cx (c_X10_puts l E h_mm a_mm (upd (upd mm 3 v24) 4 v25) bt (21 : Int32) r17 (by decide) _) (cwV 2 hts gX10_readsItem_X10_puts rfl rfl rfl (by decide +kernel) ⟨Nat.le_of_ble_eq_true rfl, Nat.le_of_ble_eq_true rfl⟩) rfl rfl rfl rfl hl.1 rfl (Nat.le_of_ble_eq_true rfl) dX10_readsItem_299 ⟨Nat.zero_le _, Nat.zero_le _⟩) (fun u H locs hw hP hD hS => ?_)
          obtain ⟨g26, rfl⟩ : ∃ z, z = u := ⟨_, rfl⟩
          have hP : va_P E.1 vwCl [xModel h_mm a_mm (upd (upd mm 3 v24) 4 v25), xI E (a_mm 1) 300 tx, xI E (a_mm 5) 60 g26] H := hP
          have hD : va_D A [xModel h_mm a_mm (upd (upd mm 3 v24) 4 v25), xI E (a_mm 1) 300 tx, xI E (a_mm 5) 60 g26] := hD
          have hw : F_X10_puts (upd (upd mm 3 v24) 4 v25) bt (21 : Int32) r17 = g26 := hw
          rw [hw] at hρ
          have hρ : ρ = F_X10_readsItem_k299 mm r20 r23 v24 v25 g26 := hρ
          unfold F_X10_readsItem_k299 at hρ
          refine lv_aload_n hx hb dX10_readsItem_302 rfl (lv_at hl 4 rfl) ?_
          refine lv_bipush (v := (22 : Int32)) hx hb dX10_readsItem_303 (by decide) ?_
          refine lv_iload hx hb dX10_readsItem_305 (lv_at hl 1 rfl) ?_
          refine kV (wc := [xModel h_mm a_mm (upd (upd mm 3 v24) 4 v25), xI E (a_mm 5) 60 g26]) (wr := [xI E (a_mm 1) 300 tx]) (wc' := (fun (u : (Nat → Int32)) => [xModel h_mm a_mm (upd (upd mm 3 v24) 4 v25), xI E (a_mm 5) 60 u])) (wn := (fun (u : (Nat → Int32)) => [xModel h_mm a_mm (upd (upd mm 3 v24) 4 v25), xI E (a_mm 1) 300 tx, xI E (a_mm 5) 60 u])) (isC := [0, 2]) (isR := [1]) (is2 := [1, 0, 2]) cx hP hD hS ⟨rfl, rfl, by decide, by decide, by decide, by decide, fun _ => rfl⟩ (rV (As := [.int (22 : Int32), .int r20]) (rest := []) (C := RX10) (q0 := 0) (ci := 10) cx (c_X10_puts l E h_mm a_mm (upd (upd mm 3 v24) 4 v25) g26 (22 : Int32) r20 (by decide) _) (cwV 2 hts gX10_readsItem_X10_puts rfl rfl rfl (by decide +kernel) ⟨Nat.le_of_ble_eq_true rfl, Nat.le_of_ble_eq_true rfl⟩) rfl rfl rfl rfl hl.1 rfl (Nat.le_of_ble_eq_true rfl) dX10_readsItem_307 ⟨Nat.zero_le _, Nat.zero_le _⟩) (fun u H locs hw hP hD hS => ?_)
          obtain ⟨g27, rfl⟩ : ∃ z, z = u := ⟨_, rfl⟩
          have hP : va_P E.1 vwCl [xModel h_mm a_mm (upd (upd mm 3 v24) 4 v25), xI E (a_mm 1) 300 tx, xI E (a_mm 5) 60 g27] H := hP
          have hD : va_D A [xModel h_mm a_mm (upd (upd mm 3 v24) 4 v25), xI E (a_mm 1) 300 tx, xI E (a_mm 5) 60 g27] := hD
          have hw : F_X10_puts (upd (upd mm 3 v24) 4 v25) g26 (22 : Int32) r20 = g27 := hw
          rw [hw] at hρ
          have hρ : ρ = F_X10_readsItem_k307 mm r23 v24 v25 g27 := hρ
          unfold F_X10_readsItem_k307 at hρ
          refine lv_aload_n hx hb dX10_readsItem_310 rfl (lv_at hl 4 rfl) ?_
          refine lv_bipush (v := (23 : Int32)) hx hb dX10_readsItem_311 (by decide) ?_
          refine lv_iload hx hb dX10_readsItem_313 (lv_at hl 0 rfl) ?_
          refine kV (wc := [xModel h_mm a_mm (upd (upd mm 3 v24) 4 v25), xI E (a_mm 5) 60 g27]) (wr := [xI E (a_mm 1) 300 tx]) (wc' := (fun (u : (Nat → Int32)) => [xModel h_mm a_mm (upd (upd mm 3 v24) 4 v25), xI E (a_mm 5) 60 u])) (wn := (fun (u : (Nat → Int32)) => [xModel h_mm a_mm (upd (upd mm 3 v24) 4 v25), xI E (a_mm 1) 300 tx, xI E (a_mm 5) 60 u])) (isC := [0, 2]) (isR := [1]) (is2 := [1, 0, 2]) cx hP hD hS ⟨rfl, rfl, by decide, by decide, by decide, by decide, fun _ => rfl⟩ (rV (As := [.int (23 : Int32), .int r23]) (rest := []) (C := RX10) (q0 := 0) (ci := 10) cx (c_X10_puts l E h_mm a_mm (upd (upd mm 3 v24) 4 v25) g27 (23 : Int32) r23 (by decide) _) (cwV 2 hts gX10_readsItem_X10_puts rfl rfl rfl (by decide +kernel) ⟨Nat.le_of_ble_eq_true rfl, Nat.le_of_ble_eq_true rfl⟩) rfl rfl rfl rfl hl.1 rfl (Nat.le_of_ble_eq_true rfl) dX10_readsItem_315 ⟨Nat.zero_le _, Nat.zero_le _⟩) (fun u H locs hw hP hD hS => ?_)
          obtain ⟨g28, rfl⟩ : ∃ z, z = u := ⟨_, rfl⟩
          have hP : va_P E.1 vwCl [xModel h_mm a_mm (upd (upd mm 3 v24) 4 v25), xI E (a_mm 1) 300 tx, xI E (a_mm 5) 60 g28] H := hP
          have hD : va_D A [xModel h_mm a_mm (upd (upd mm 3 v24) 4 v25), xI E (a_mm 1) 300 tx, xI E (a_mm 5) 60 g28] := hD
          have hw : F_X10_puts (upd (upd mm 3 v24) 4 v25) g27 (23 : Int32) r23 = g28 := hw
          rw [hw] at hρ
          have hρ : ρ = F_X10_readsItem_k315 v24 v25 g28 := hρ
          unfold F_X10_readsItem_k315 at hρ
          refine lv_goto (tgt := 422) hx hb dX10_readsItem_318 (by decide) ?_
          exact hq (v24, v25, g28) _ _ _ _ dX10_readsItem_422 ⟨(hρ0.trans hρ), show (mm 3).toInt ≤ (v24).toInt ∧ (v24).toInt ≤ (mm 3).toInt + 20 from by omega⟩ hP hD hS
      · rw [if_pos c215] at hρ
        refine lv_aload_n hx hb dX10_readsItem_218 rfl (lv_at hl 1 rfl) ?_
        refine lv_iconst (v := (1 : Int32)) hx hb dX10_readsItem_219 (by decide) ?_
        refine lv_bipush (v := (9 : Int32)) hx hb dX10_readsItem_220 (by decide) ?_
        refine lv_bipush (v := (44 : Int32)) hx hb dX10_readsItem_222 (by decide) ?_
        refine kI (wc := [xModel h_mm a_mm mm, xI E (a_mm 1) 300 tx]) (wr := [xI E (a_mm 5) 60 bt]) (wc' := (fun (u : Int32 × Int32) => [xModel h_mm a_mm (upd (upd mm 3 u.1) 4 u.2), xI E (a_mm 1) 300 tx])) (wn := (fun (u : Int32 × Int32) => [xModel h_mm a_mm (upd (upd mm 3 u.1) 4 u.2), xI E (a_mm 1) 300 tx, xI E (a_mm 5) 60 bt])) (isC := [0, 1]) (isR := [2]) (is2 := [1, 2, 0]) cx hP hD hS ⟨rfl, rfl, by decide, by decide, by decide, by decide, fun _ => rfl⟩ (rV (As := [.int (1 : Int32), .int (9 : Int32), .int (44 : Int32)]) (rest := []) (C := RX10) (q0 := 0) (ci := 10) cx (c_X10_number l E h_mm a_mm mm tx (1 : Int32) (9 : Int32) (44 : Int32) (by show 0 ≤ ((mm 3)).toInt ∧ ((mm 3)).toInt ≤ 4000; omega) (ht) _) (cwV 3 hts gX10_readsItem_X10_number rfl rfl rfl (by decide +kernel) ⟨Nat.le_of_ble_eq_true rfl, Nat.le_of_ble_eq_true rfl⟩) rfl rfl rfl rfl hl.1 rfl (Nat.le_of_ble_eq_true rfl) dX10_readsItem_224 ⟨Nat.zero_le _, Nat.zero_le _⟩) (fun r29 u H locs hw hP hD hS => ?_)
        obtain ⟨hw, hn224⟩ := hw
        obtain ⟨v30, v31⟩ := u
        have hn224 : (mm 3).toInt < (v30).toInt ∧ (v30).toInt ≤ (mm 3).toInt + 5 := hn224
        have hP : va_P E.1 vwCl [xModel h_mm a_mm (upd (upd mm 3 v30) 4 v31), xI E (a_mm 1) 300 tx, xI E (a_mm 5) 60 bt] H := hP
        have hD : va_D A [xModel h_mm a_mm (upd (upd mm 3 v30) 4 v31), xI E (a_mm 1) 300 tx, xI E (a_mm 5) 60 bt] := hD
        have hw : F_X10_number mm tx (1 : Int32) (9 : Int32) (44 : Int32) = (r29, v30, v31) := hw
        rw [hw] at hρ
        have hρ : ρ = F_X10_readsItem_k224 mm tx bt r29 v30 v31 := hρ
        unfold F_X10_readsItem_k224 at hρ
        refine lv_istore_n (lv' := [(3, .int r29), (2, .int (bt 58)), (0, .ref h_mm), (1, .int letter)]) hx hb dX10_readsItem_227 rfl hl (by decide) rfl (fun ls hl => ?_)
        refine lv_aload_n hx hb dX10_readsItem_228 rfl (lv_at hl 2 rfl) ?_
        refine lv_iconst (v := (1 : Int32)) hx hb dX10_readsItem_229 (by decide) ?_
        refine lv_bipush (v := (20 : Int32)) hx hb dX10_readsItem_230 (by decide) ?_
        refine lv_bipush (v := (59 : Int32)) hx hb dX10_readsItem_232 (by decide) ?_
        refine kI (wc := [xModel h_mm a_mm (upd (upd mm 3 v30) 4 v31), xI E (a_mm 1) 300 tx]) (wr := [xI E (a_mm 5) 60 bt]) (wc' := (fun (u : Int32 × Int32) => [xModel h_mm a_mm (upd (upd (upd (upd mm 3 v30) 4 v31) 3 u.1) 4 u.2), xI E (a_mm 1) 300 tx])) (wn := (fun (u : Int32 × Int32) => [xModel h_mm a_mm (upd (upd mm 3 u.1) 4 u.2), xI E (a_mm 1) 300 tx, xI E (a_mm 5) 60 bt])) (isC := [0, 1]) (isR := [2]) (is2 := [1, 2, 0]) cx hP hD hS ⟨rfl, rfl, by decide, by decide, by decide, by decide, fun _ => rfl⟩ (rV (As := [.int (1 : Int32), .int (20 : Int32), .int (59 : Int32)]) (rest := []) (C := RX10) (q0 := 0) (ci := 10) cx (c_X10_number l E h_mm a_mm (upd (upd mm 3 v30) 4 v31) tx (1 : Int32) (20 : Int32) (59 : Int32) (by show 0 ≤ (v30).toInt ∧ (v30).toInt ≤ 4000; omega) (ht) _) (cwV 3 hts gX10_readsItem_X10_number rfl rfl rfl (by decide +kernel) ⟨Nat.le_of_ble_eq_true rfl, Nat.le_of_ble_eq_true rfl⟩) rfl rfl rfl rfl hl.1 rfl (Nat.le_of_ble_eq_true rfl) dX10_readsItem_234 ⟨Nat.zero_le _, Nat.zero_le _⟩) (fun r32 u H locs hw hP hD hS => ?_)
        obtain ⟨hw, hn234⟩ := hw
        obtain ⟨v33, v34⟩ := u
        have hn234 : v30.toInt < (v33).toInt ∧ (v33).toInt ≤ v30.toInt + 5 := hn234
        have hP : va_P E.1 vwCl [xModel h_mm a_mm (upd (upd mm 3 v33) 4 v34), xI E (a_mm 1) 300 tx, xI E (a_mm 5) 60 bt] H := hP
        have hD : va_D A [xModel h_mm a_mm (upd (upd mm 3 v33) 4 v34), xI E (a_mm 1) 300 tx, xI E (a_mm 5) 60 bt] := hD
        have hw : F_X10_number (upd (upd mm 3 v30) 4 v31) tx (1 : Int32) (20 : Int32) (59 : Int32) = (r32, v33, v34) := hw
        rw [hw] at hρ
        have hρ : ρ = F_X10_readsItem_k234 mm bt r29 r32 v33 v34 := hρ
        unfold F_X10_readsItem_k234 at hρ
        refine lv_istore (lv' := [(4, .int r32), (3, .int r29), (2, .int (bt 58)), (0, .ref h_mm), (1, .int letter)]) hx hb dX10_readsItem_237 hl (by decide) rfl (fun ls hl => ?_)
        refine lv_aload_n hx hb dX10_readsItem_239 rfl (lv_at hl 3 rfl) ?_
        refine lv_bipush (v := (19 : Int32)) hx hb dX10_readsItem_240 (by decide) ?_
        refine lv_iload_n hx hb dX10_readsItem_242 rfl (lv_at hl 1 rfl) ?_
        refine kV (wc := [xModel h_mm a_mm (upd (upd mm 3 v33) 4 v34), xI E (a_mm 5) 60 bt]) (wr := [xI E (a_mm 1) 300 tx]) (wc' := (fun (u : (Nat → Int32)) => [xModel h_mm a_mm (upd (upd mm 3 v33) 4 v34), xI E (a_mm 5) 60 u])) (wn := (fun (u : (Nat → Int32)) => [xModel h_mm a_mm (upd (upd mm 3 v33) 4 v34), xI E (a_mm 1) 300 tx, xI E (a_mm 5) 60 u])) (isC := [0, 2]) (isR := [1]) (is2 := [1, 0, 2]) cx hP hD hS ⟨rfl, rfl, by decide, by decide, by decide, by decide, fun _ => rfl⟩ (rV (As := [.int (19 : Int32), .int r29]) (rest := []) (C := RX10) (q0 := 0) (ci := 10) cx (c_X10_puts l E h_mm a_mm (upd (upd mm 3 v33) 4 v34) bt (19 : Int32) r29 (by decide) _) (cwV 2 hts gX10_readsItem_X10_puts rfl rfl rfl (by decide +kernel) ⟨Nat.le_of_ble_eq_true rfl, Nat.le_of_ble_eq_true rfl⟩) rfl rfl rfl rfl hl.1 rfl (Nat.le_of_ble_eq_true rfl) dX10_readsItem_243 ⟨Nat.zero_le _, Nat.zero_le _⟩) (fun u H locs hw hP hD hS => ?_)
        obtain ⟨g35, rfl⟩ : ∃ z, z = u := ⟨_, rfl⟩
        have hP : va_P E.1 vwCl [xModel h_mm a_mm (upd (upd mm 3 v33) 4 v34), xI E (a_mm 1) 300 tx, xI E (a_mm 5) 60 g35] H := hP
        have hD : va_D A [xModel h_mm a_mm (upd (upd mm 3 v33) 4 v34), xI E (a_mm 1) 300 tx, xI E (a_mm 5) 60 g35] := hD
        have hw : F_X10_puts (upd (upd mm 3 v33) 4 v34) bt (19 : Int32) r29 = g35 := hw
        rw [hw] at hρ
        have hρ : ρ = F_X10_readsItem_k243 mm r32 v33 v34 g35 := hρ
        unfold F_X10_readsItem_k243 at hρ
        refine lv_aload_n hx hb dX10_readsItem_246 rfl (lv_at hl 3 rfl) ?_
        refine lv_bipush (v := (20 : Int32)) hx hb dX10_readsItem_247 (by decide) ?_
        refine lv_iload hx hb dX10_readsItem_249 (lv_at hl 0 rfl) ?_
        refine kV (wc := [xModel h_mm a_mm (upd (upd mm 3 v33) 4 v34), xI E (a_mm 5) 60 g35]) (wr := [xI E (a_mm 1) 300 tx]) (wc' := (fun (u : (Nat → Int32)) => [xModel h_mm a_mm (upd (upd mm 3 v33) 4 v34), xI E (a_mm 5) 60 u])) (wn := (fun (u : (Nat → Int32)) => [xModel h_mm a_mm (upd (upd mm 3 v33) 4 v34), xI E (a_mm 1) 300 tx, xI E (a_mm 5) 60 u])) (isC := [0, 2]) (isR := [1]) (is2 := [1, 0, 2]) cx hP hD hS ⟨rfl, rfl, by decide, by decide, by decide, by decide, fun _ => rfl⟩ (rV (As := [.int (20 : Int32), .int r32]) (rest := []) (C := RX10) (q0 := 0) (ci := 10) cx (c_X10_puts l E h_mm a_mm (upd (upd mm 3 v33) 4 v34) g35 (20 : Int32) r32 (by decide) _) (cwV 2 hts gX10_readsItem_X10_puts rfl rfl rfl (by decide +kernel) ⟨Nat.le_of_ble_eq_true rfl, Nat.le_of_ble_eq_true rfl⟩) rfl rfl rfl rfl hl.1 rfl (Nat.le_of_ble_eq_true rfl) dX10_readsItem_251 ⟨Nat.zero_le _, Nat.zero_le _⟩) (fun u H locs hw hP hD hS => ?_)
        obtain ⟨g36, rfl⟩ : ∃ z, z = u := ⟨_, rfl⟩
        have hP : va_P E.1 vwCl [xModel h_mm a_mm (upd (upd mm 3 v33) 4 v34), xI E (a_mm 1) 300 tx, xI E (a_mm 5) 60 g36] H := hP
        have hD : va_D A [xModel h_mm a_mm (upd (upd mm 3 v33) 4 v34), xI E (a_mm 1) 300 tx, xI E (a_mm 5) 60 g36] := hD
        have hw : F_X10_puts (upd (upd mm 3 v33) 4 v34) g35 (20 : Int32) r32 = g36 := hw
        rw [hw] at hρ
        have hρ : ρ = F_X10_readsItem_k251 v33 v34 g36 := hρ
        unfold F_X10_readsItem_k251 at hρ
        refine lv_goto (tgt := 422) hx hb dX10_readsItem_254 (by decide) ?_
        exact hq (v33, v34, g36) _ _ _ _ dX10_readsItem_422 ⟨(hρ0.trans hρ), show (mm 3).toInt ≤ (v33).toInt ∧ (v33).toInt ≤ (mm 3).toInt + 20 from by omega⟩ hP hD hS
    · rw [if_pos c143] at hρ
      refine lv_aload_n hx hb dX10_readsItem_146 rfl (lv_at hl 1 rfl) ?_
      refine lv_iconst (v := (0 : Int32)) hx hb dX10_readsItem_147 (by decide) ?_
      refine lv_iload_n hx hb dX10_readsItem_148 rfl (lv_at hl 0 rfl) ?_
      refine lv_iconst (v := (1 : Int32)) hx hb dX10_readsItem_149 (by decide) ?_
      refine lv_isub hx hb dX10_readsItem_150 ?_
      refine lv_bipush (v := (44 : Int32)) hx hb dX10_readsItem_151 (by decide) ?_
      refine kI (wc := [xModel h_mm a_mm mm, xI E (a_mm 1) 300 tx]) (wr := [xI E (a_mm 5) 60 bt]) (wc' := (fun (u : Int32 × Int32) => [xModel h_mm a_mm (upd (upd mm 3 u.1) 4 u.2), xI E (a_mm 1) 300 tx])) (wn := (fun (u : Int32 × Int32) => [xModel h_mm a_mm (upd (upd mm 3 u.1) 4 u.2), xI E (a_mm 1) 300 tx, xI E (a_mm 5) 60 bt])) (isC := [0, 1]) (isR := [2]) (is2 := [1, 2, 0]) cx hP hD hS ⟨rfl, rfl, by decide, by decide, by decide, by decide, fun _ => rfl⟩ (rV (As := [.int (0 : Int32), .int ((bt 58) - (1 : Int32)), .int (44 : Int32)]) (rest := []) (C := RX10) (q0 := 0) (ci := 10) cx (c_X10_number l E h_mm a_mm mm tx (0 : Int32) ((bt 58) - (1 : Int32)) (44 : Int32) (by show 0 ≤ ((mm 3)).toInt ∧ ((mm 3)).toInt ≤ 4000; omega) (ht) _) (cwV 3 hts gX10_readsItem_X10_number rfl rfl rfl (by decide +kernel) ⟨Nat.le_of_ble_eq_true rfl, Nat.le_of_ble_eq_true rfl⟩) rfl rfl rfl rfl hl.1 rfl (Nat.le_of_ble_eq_true rfl) dX10_readsItem_153 ⟨Nat.zero_le _, Nat.zero_le _⟩) (fun r37 u H locs hw hP hD hS => ?_)
      obtain ⟨hw, hn153⟩ := hw
      obtain ⟨v38, v39⟩ := u
      have hn153 : (mm 3).toInt < (v38).toInt ∧ (v38).toInt ≤ (mm 3).toInt + 5 := hn153
      have hP : va_P E.1 vwCl [xModel h_mm a_mm (upd (upd mm 3 v38) 4 v39), xI E (a_mm 1) 300 tx, xI E (a_mm 5) 60 bt] H := hP
      have hD : va_D A [xModel h_mm a_mm (upd (upd mm 3 v38) 4 v39), xI E (a_mm 1) 300 tx, xI E (a_mm 5) 60 bt] := hD
      have hw : F_X10_number mm tx (0 : Int32) ((bt 58) - (1 : Int32)) (44 : Int32) = (r37, v38, v39) := hw
      rw [hw] at hρ
      have hρ : ρ = F_X10_readsItem_k153 mm tx bt r37 v38 v39 := hρ
      unfold F_X10_readsItem_k153 at hρ
      refine lv_istore_n (lv' := [(3, .int r37), (2, .int (bt 58)), (0, .ref h_mm), (1, .int letter)]) hx hb dX10_readsItem_156 rfl hl (by decide) rfl (fun ls hl => ?_)
      refine lv_aload_n hx hb dX10_readsItem_157 rfl (lv_at hl 2 rfl) ?_
      refine lv_iconst (v := (1 : Int32)) hx hb dX10_readsItem_158 (by decide) ?_
      refine lv_bipush (v := (8 : Int32)) hx hb dX10_readsItem_159 (by decide) ?_
      refine lv_bipush (v := (44 : Int32)) hx hb dX10_readsItem_161 (by decide) ?_
      refine kI (wc := [xModel h_mm a_mm (upd (upd mm 3 v38) 4 v39), xI E (a_mm 1) 300 tx]) (wr := [xI E (a_mm 5) 60 bt]) (wc' := (fun (u : Int32 × Int32) => [xModel h_mm a_mm (upd (upd (upd (upd mm 3 v38) 4 v39) 3 u.1) 4 u.2), xI E (a_mm 1) 300 tx])) (wn := (fun (u : Int32 × Int32) => [xModel h_mm a_mm (upd (upd mm 3 u.1) 4 u.2), xI E (a_mm 1) 300 tx, xI E (a_mm 5) 60 bt])) (isC := [0, 1]) (isR := [2]) (is2 := [1, 2, 0]) cx hP hD hS ⟨rfl, rfl, by decide, by decide, by decide, by decide, fun _ => rfl⟩ (rV (As := [.int (1 : Int32), .int (8 : Int32), .int (44 : Int32)]) (rest := []) (C := RX10) (q0 := 0) (ci := 10) cx (c_X10_number l E h_mm a_mm (upd (upd mm 3 v38) 4 v39) tx (1 : Int32) (8 : Int32) (44 : Int32) (by show 0 ≤ (v38).toInt ∧ (v38).toInt ≤ 4000; omega) (ht) _) (cwV 3 hts gX10_readsItem_X10_number rfl rfl rfl (by decide +kernel) ⟨Nat.le_of_ble_eq_true rfl, Nat.le_of_ble_eq_true rfl⟩) rfl rfl rfl rfl hl.1 rfl (Nat.le_of_ble_eq_true rfl) dX10_readsItem_163 ⟨Nat.zero_le _, Nat.zero_le _⟩) (fun r40 u H locs hw hP hD hS => ?_)
      obtain ⟨hw, hn163⟩ := hw
      obtain ⟨v41, v42⟩ := u
      have hn163 : v38.toInt < (v41).toInt ∧ (v41).toInt ≤ v38.toInt + 5 := hn163
      have hP : va_P E.1 vwCl [xModel h_mm a_mm (upd (upd mm 3 v41) 4 v42), xI E (a_mm 1) 300 tx, xI E (a_mm 5) 60 bt] H := hP
      have hD : va_D A [xModel h_mm a_mm (upd (upd mm 3 v41) 4 v42), xI E (a_mm 1) 300 tx, xI E (a_mm 5) 60 bt] := hD
      have hw : F_X10_number (upd (upd mm 3 v38) 4 v39) tx (1 : Int32) (8 : Int32) (44 : Int32) = (r40, v41, v42) := hw
      rw [hw] at hρ
      have hρ : ρ = F_X10_readsItem_k163 mm tx bt r37 r40 v41 v42 := hρ
      unfold F_X10_readsItem_k163 at hρ
      refine lv_istore (lv' := [(4, .int r40), (3, .int r37), (2, .int (bt 58)), (0, .ref h_mm), (1, .int letter)]) hx hb dX10_readsItem_166 hl (by decide) rfl (fun ls hl => ?_)
      refine lv_aload_n hx hb dX10_readsItem_168 rfl (lv_at hl 3 rfl) ?_
      refine lv_iconst (v := (1 : Int32)) hx hb dX10_readsItem_169 (by decide) ?_
      refine lv_bipush (v := (40 : Int32)) hx hb dX10_readsItem_170 (by decide) ?_
      refine lv_bipush (v := (59 : Int32)) hx hb dX10_readsItem_172 (by decide) ?_
      refine kI (wc := [xModel h_mm a_mm (upd (upd mm 3 v41) 4 v42), xI E (a_mm 1) 300 tx]) (wr := [xI E (a_mm 5) 60 bt]) (wc' := (fun (u : Int32 × Int32) => [xModel h_mm a_mm (upd (upd (upd (upd mm 3 v41) 4 v42) 3 u.1) 4 u.2), xI E (a_mm 1) 300 tx])) (wn := (fun (u : Int32 × Int32) => [xModel h_mm a_mm (upd (upd mm 3 u.1) 4 u.2), xI E (a_mm 1) 300 tx, xI E (a_mm 5) 60 bt])) (isC := [0, 1]) (isR := [2]) (is2 := [1, 2, 0]) cx hP hD hS ⟨rfl, rfl, by decide, by decide, by decide, by decide, fun _ => rfl⟩ (rV (As := [.int (1 : Int32), .int (40 : Int32), .int (59 : Int32)]) (rest := []) (C := RX10) (q0 := 0) (ci := 10) cx (c_X10_number l E h_mm a_mm (upd (upd mm 3 v41) 4 v42) tx (1 : Int32) (40 : Int32) (59 : Int32) (by show 0 ≤ (v41).toInt ∧ (v41).toInt ≤ 4000; omega) (ht) _) (cwV 3 hts gX10_readsItem_X10_number rfl rfl rfl (by decide +kernel) ⟨Nat.le_of_ble_eq_true rfl, Nat.le_of_ble_eq_true rfl⟩) rfl rfl rfl rfl hl.1 rfl (Nat.le_of_ble_eq_true rfl) dX10_readsItem_174 ⟨Nat.zero_le _, Nat.zero_le _⟩) (fun r43 u H locs hw hP hD hS => ?_)
      obtain ⟨hw, hn174⟩ := hw
      obtain ⟨v44, v45⟩ := u
      have hn174 : v41.toInt < (v44).toInt ∧ (v44).toInt ≤ v41.toInt + 5 := hn174
      have hP : va_P E.1 vwCl [xModel h_mm a_mm (upd (upd mm 3 v44) 4 v45), xI E (a_mm 1) 300 tx, xI E (a_mm 5) 60 bt] H := hP
      have hD : va_D A [xModel h_mm a_mm (upd (upd mm 3 v44) 4 v45), xI E (a_mm 1) 300 tx, xI E (a_mm 5) 60 bt] := hD
      have hw : F_X10_number (upd (upd mm 3 v41) 4 v42) tx (1 : Int32) (40 : Int32) (59 : Int32) = (r43, v44, v45) := hw
      rw [hw] at hρ
      have hρ : ρ = F_X10_readsItem_k174 mm bt r37 r40 r43 v44 v45 := hρ
      unfold F_X10_readsItem_k174 at hρ
      refine lv_istore (lv' := [(5, .int r43), (4, .int r40), (3, .int r37), (2, .int (bt 58)), (0, .ref h_mm), (1, .int letter)]) hx hb dX10_readsItem_177 hl (by decide) rfl (fun ls hl => ?_)
      refine lv_aload_n hx hb dX10_readsItem_179 rfl (lv_at hl 4 rfl) ?_
      refine lv_bipush (v := (16 : Int32)) hx hb dX10_readsItem_180 (by decide) ?_
      refine lv_iload_n hx hb dX10_readsItem_182 rfl (lv_at hl 2 rfl) ?_
      refine kV (wc := [xModel h_mm a_mm (upd (upd mm 3 v44) 4 v45), xI E (a_mm 5) 60 bt]) (wr := [xI E (a_mm 1) 300 tx]) (wc' := (fun (u : (Nat → Int32)) => [xModel h_mm a_mm (upd (upd mm 3 v44) 4 v45), xI E (a_mm 5) 60 u])) (wn := (fun (u : (Nat → Int32)) => [xModel h_mm a_mm (upd (upd mm 3 v44) 4 v45), xI E (a_mm 1) 300 tx, xI E (a_mm 5) 60 u])) (isC := [0, 2]) (isR := [1]) (is2 := [1, 0, 2]) cx hP hD hS ⟨rfl, rfl, by decide, by decide, by decide, by decide, fun _ => rfl⟩ (rV (As := [.int (16 : Int32), .int r37]) (rest := []) (C := RX10) (q0 := 0) (ci := 10) cx (c_X10_puts l E h_mm a_mm (upd (upd mm 3 v44) 4 v45) bt (16 : Int32) r37 (by decide) _) (cwV 2 hts gX10_readsItem_X10_puts rfl rfl rfl (by decide +kernel) ⟨Nat.le_of_ble_eq_true rfl, Nat.le_of_ble_eq_true rfl⟩) rfl rfl rfl rfl hl.1 rfl (Nat.le_of_ble_eq_true rfl) dX10_readsItem_183 ⟨Nat.zero_le _, Nat.zero_le _⟩) (fun u H locs hw hP hD hS => ?_)
      obtain ⟨g46, rfl⟩ : ∃ z, z = u := ⟨_, rfl⟩
      have hP : va_P E.1 vwCl [xModel h_mm a_mm (upd (upd mm 3 v44) 4 v45), xI E (a_mm 1) 300 tx, xI E (a_mm 5) 60 g46] H := hP
      have hD : va_D A [xModel h_mm a_mm (upd (upd mm 3 v44) 4 v45), xI E (a_mm 1) 300 tx, xI E (a_mm 5) 60 g46] := hD
      have hw : F_X10_puts (upd (upd mm 3 v44) 4 v45) bt (16 : Int32) r37 = g46 := hw
      rw [hw] at hρ
      have hρ : ρ = F_X10_readsItem_k183 mm r40 r43 v44 v45 g46 := hρ
      unfold F_X10_readsItem_k183 at hρ
      refine lv_aload_n hx hb dX10_readsItem_186 rfl (lv_at hl 4 rfl) ?_
      refine lv_bipush (v := (17 : Int32)) hx hb dX10_readsItem_187 (by decide) ?_
      refine lv_iload hx hb dX10_readsItem_189 (lv_at hl 1 rfl) ?_
      refine kV (wc := [xModel h_mm a_mm (upd (upd mm 3 v44) 4 v45), xI E (a_mm 5) 60 g46]) (wr := [xI E (a_mm 1) 300 tx]) (wc' := (fun (u : (Nat → Int32)) => [xModel h_mm a_mm (upd (upd mm 3 v44) 4 v45), xI E (a_mm 5) 60 u])) (wn := (fun (u : (Nat → Int32)) => [xModel h_mm a_mm (upd (upd mm 3 v44) 4 v45), xI E (a_mm 1) 300 tx, xI E (a_mm 5) 60 u])) (isC := [0, 2]) (isR := [1]) (is2 := [1, 0, 2]) cx hP hD hS ⟨rfl, rfl, by decide, by decide, by decide, by decide, fun _ => rfl⟩ (rV (As := [.int (17 : Int32), .int r40]) (rest := []) (C := RX10) (q0 := 0) (ci := 10) cx (c_X10_puts l E h_mm a_mm (upd (upd mm 3 v44) 4 v45) g46 (17 : Int32) r40 (by decide) _) (cwV 2 hts gX10_readsItem_X10_puts rfl rfl rfl (by decide +kernel) ⟨Nat.le_of_ble_eq_true rfl, Nat.le_of_ble_eq_true rfl⟩) rfl rfl rfl rfl hl.1 rfl (Nat.le_of_ble_eq_true rfl) dX10_readsItem_191 ⟨Nat.zero_le _, Nat.zero_le _⟩) (fun u H locs hw hP hD hS => ?_)
      obtain ⟨g47, rfl⟩ : ∃ z, z = u := ⟨_, rfl⟩
      have hP : va_P E.1 vwCl [xModel h_mm a_mm (upd (upd mm 3 v44) 4 v45), xI E (a_mm 1) 300 tx, xI E (a_mm 5) 60 g47] H := hP
      have hD : va_D A [xModel h_mm a_mm (upd (upd mm 3 v44) 4 v45), xI E (a_mm 1) 300 tx, xI E (a_mm 5) 60 g47] := hD
      have hw : F_X10_puts (upd (upd mm 3 v44) 4 v45) g46 (17 : Int32) r40 = g47 := hw
      rw [hw] at hρ
      have hρ : ρ = F_X10_readsItem_k191 mm r43 v44 v45 g47 := hρ
      unfold F_X10_readsItem_k191 at hρ
      refine lv_aload_n hx hb dX10_readsItem_194 rfl (lv_at hl 4 rfl) ?_
      refine lv_bipush (v := (18 : Int32)) hx hb dX10_readsItem_195 (by decide) ?_
      refine lv_iload hx hb dX10_readsItem_197 (lv_at hl 0 rfl) ?_
      refine kV (wc := [xModel h_mm a_mm (upd (upd mm 3 v44) 4 v45), xI E (a_mm 5) 60 g47]) (wr := [xI E (a_mm 1) 300 tx]) (wc' := (fun (u : (Nat → Int32)) => [xModel h_mm a_mm (upd (upd mm 3 v44) 4 v45), xI E (a_mm 5) 60 u])) (wn := (fun (u : (Nat → Int32)) => [xModel h_mm a_mm (upd (upd mm 3 v44) 4 v45), xI E (a_mm 1) 300 tx, xI E (a_mm 5) 60 u])) (isC := [0, 2]) (isR := [1]) (is2 := [1, 0, 2]) cx hP hD hS ⟨rfl, rfl, by decide, by decide, by decide, by decide, fun _ => rfl⟩ (rV (As := [.int (18 : Int32), .int r43]) (rest := []) (C := RX10) (q0 := 0) (ci := 10) cx (c_X10_puts l E h_mm a_mm (upd (upd mm 3 v44) 4 v45) g47 (18 : Int32) r43 (by decide) _) (cwV 2 hts gX10_readsItem_X10_puts rfl rfl rfl (by decide +kernel) ⟨Nat.le_of_ble_eq_true rfl, Nat.le_of_ble_eq_true rfl⟩) rfl rfl rfl rfl hl.1 rfl (Nat.le_of_ble_eq_true rfl) dX10_readsItem_199 ⟨Nat.zero_le _, Nat.zero_le _⟩) (fun u H locs hw hP hD hS => ?_)
      obtain ⟨g48, rfl⟩ : ∃ z, z = u := ⟨_, rfl⟩
      have hP : va_P E.1 vwCl [xModel h_mm a_mm (upd (upd mm 3 v44) 4 v45), xI E (a_mm 1) 300 tx, xI E (a_mm 5) 60 g48] H := hP
      have hD : va_D A [xModel h_mm a_mm (upd (upd mm 3 v44) 4 v45), xI E (a_mm 1) 300 tx, xI E (a_mm 5) 60 g48] := hD
      have hw : F_X10_puts (upd (upd mm 3 v44) 4 v45) g47 (18 : Int32) r43 = g48 := hw
      rw [hw] at hρ
      have hρ : ρ = F_X10_readsItem_k199 mm v44 v45 g48 := hρ
      unfold F_X10_readsItem_k199 at hρ
      refine lv_aload_n hx hb dX10_readsItem_202 rfl (lv_at hl 4 rfl) ?_
      refine lv_bipush (v := (29 : Int32)) hx hb dX10_readsItem_203 (by decide) ?_
      refine lv_iconst (v := (1 : Int32)) hx hb dX10_readsItem_205 (by decide) ?_
      refine kV (wc := [xModel h_mm a_mm (upd (upd mm 3 v44) 4 v45), xI E (a_mm 5) 60 g48]) (wr := [xI E (a_mm 1) 300 tx]) (wc' := (fun (u : (Nat → Int32)) => [xModel h_mm a_mm (upd (upd mm 3 v44) 4 v45), xI E (a_mm 5) 60 u])) (wn := (fun (u : (Nat → Int32)) => [xModel h_mm a_mm (upd (upd mm 3 v44) 4 v45), xI E (a_mm 1) 300 tx, xI E (a_mm 5) 60 u])) (isC := [0, 2]) (isR := [1]) (is2 := [1, 0, 2]) cx hP hD hS ⟨rfl, rfl, by decide, by decide, by decide, by decide, fun _ => rfl⟩ (rV (As := [.int (29 : Int32), .int (1 : Int32)]) (rest := []) (C := RX10) (q0 := 0) (ci := 10) cx (c_X10_puts l E h_mm a_mm (upd (upd mm 3 v44) 4 v45) g48 (29 : Int32) (1 : Int32) (by decide) _) (cwV 2 hts gX10_readsItem_X10_puts rfl rfl rfl (by decide +kernel) ⟨Nat.le_of_ble_eq_true rfl, Nat.le_of_ble_eq_true rfl⟩) rfl rfl rfl rfl hl.1 rfl (Nat.le_of_ble_eq_true rfl) dX10_readsItem_206 ⟨Nat.zero_le _, Nat.zero_le _⟩) (fun u H locs hw hP hD hS => ?_)
      obtain ⟨g49, rfl⟩ : ∃ z, z = u := ⟨_, rfl⟩
      have hP : va_P E.1 vwCl [xModel h_mm a_mm (upd (upd mm 3 v44) 4 v45), xI E (a_mm 1) 300 tx, xI E (a_mm 5) 60 g49] H := hP
      have hD : va_D A [xModel h_mm a_mm (upd (upd mm 3 v44) 4 v45), xI E (a_mm 1) 300 tx, xI E (a_mm 5) 60 g49] := hD
      have hw : F_X10_puts (upd (upd mm 3 v44) 4 v45) g48 (29 : Int32) (1 : Int32) = g49 := hw
      rw [hw] at hρ
      have hρ : ρ = F_X10_readsItem_k206 v44 v45 g49 := hρ
      unfold F_X10_readsItem_k206 at hρ
      refine lv_goto (tgt := 422) hx hb dX10_readsItem_209 (by decide) ?_
      exact hq (v44, v45, g49) _ _ _ _ dX10_readsItem_422 ⟨(hρ0.trans hρ), show (mm 3).toInt ≤ (v44).toInt ∧ (v44).toInt ≤ (mm 3).toInt + 20 from by omega⟩ hP hD hS
  · rw [if_pos c11] at hρ
    refine lv_aload_n hx hb dX10_readsItem_14 rfl (lv_at hl 1 rfl) ?_
    refine lv_iconst (v := (1 : Int32)) hx hb dX10_readsItem_15 (by decide) ?_
    refine lv_bipush (v := (99 : Int32)) hx hb dX10_readsItem_16 (by decide) ?_
    refine lv_bipush (v := (44 : Int32)) hx hb dX10_readsItem_18 (by decide) ?_
    refine kI (wc := [xModel h_mm a_mm mm, xI E (a_mm 1) 300 tx]) (wr := [xI E (a_mm 5) 60 bt]) (wc' := (fun (u : Int32 × Int32) => [xModel h_mm a_mm (upd (upd mm 3 u.1) 4 u.2), xI E (a_mm 1) 300 tx])) (wn := (fun (u : Int32 × Int32) => [xModel h_mm a_mm (upd (upd mm 3 u.1) 4 u.2), xI E (a_mm 1) 300 tx, xI E (a_mm 5) 60 bt])) (isC := [0, 1]) (isR := [2]) (is2 := [1, 2, 0]) cx hP hD hS ⟨rfl, rfl, by decide, by decide, by decide, by decide, fun _ => rfl⟩ (rV (As := [.int (1 : Int32), .int (99 : Int32), .int (44 : Int32)]) (rest := []) (C := RX10) (q0 := 0) (ci := 10) cx (c_X10_number l E h_mm a_mm mm tx (1 : Int32) (99 : Int32) (44 : Int32) (by show 0 ≤ ((mm 3)).toInt ∧ ((mm 3)).toInt ≤ 4000; omega) (ht) _) (cwV 3 hts gX10_readsItem_X10_number rfl rfl rfl (by decide +kernel) ⟨Nat.le_of_ble_eq_true rfl, Nat.le_of_ble_eq_true rfl⟩) rfl rfl rfl rfl hl.1 rfl (Nat.le_of_ble_eq_true rfl) dX10_readsItem_20 ⟨Nat.zero_le _, Nat.zero_le _⟩) (fun r50 u H locs hw hP hD hS => ?_)
    obtain ⟨hw, hn20⟩ := hw
    obtain ⟨v51, v52⟩ := u
    have hn20 : (mm 3).toInt < (v51).toInt ∧ (v51).toInt ≤ (mm 3).toInt + 5 := hn20
    have hP : va_P E.1 vwCl [xModel h_mm a_mm (upd (upd mm 3 v51) 4 v52), xI E (a_mm 1) 300 tx, xI E (a_mm 5) 60 bt] H := hP
    have hD : va_D A [xModel h_mm a_mm (upd (upd mm 3 v51) 4 v52), xI E (a_mm 1) 300 tx, xI E (a_mm 5) 60 bt] := hD
    have hw : F_X10_number mm tx (1 : Int32) (99 : Int32) (44 : Int32) = (r50, v51, v52) := hw
    rw [hw] at hρ
    have hρ : ρ = F_X10_readsItem_k20 mm tx bt r50 v51 v52 := hρ
    unfold F_X10_readsItem_k20 at hρ
    refine lv_istore_n (lv' := [(3, .int r50), (2, .int (bt 58)), (0, .ref h_mm), (1, .int letter)]) hx hb dX10_readsItem_23 rfl hl (by decide) rfl (fun ls hl => ?_)
    refine lv_aload_n hx hb dX10_readsItem_24 rfl (lv_at hl 2 rfl) ?_
    refine lv_iconst (v := (0 : Int32)) hx hb dX10_readsItem_25 (by decide) ?_
    refine lv_bipush (v := (90 : Int32)) hx hb dX10_readsItem_26 (by decide) ?_
    refine lv_bipush (v := (44 : Int32)) hx hb dX10_readsItem_28 (by decide) ?_
    refine kI (wc := [xModel h_mm a_mm (upd (upd mm 3 v51) 4 v52), xI E (a_mm 1) 300 tx]) (wr := [xI E (a_mm 5) 60 bt]) (wc' := (fun (u : Int32 × Int32) => [xModel h_mm a_mm (upd (upd (upd (upd mm 3 v51) 4 v52) 3 u.1) 4 u.2), xI E (a_mm 1) 300 tx])) (wn := (fun (u : Int32 × Int32) => [xModel h_mm a_mm (upd (upd mm 3 u.1) 4 u.2), xI E (a_mm 1) 300 tx, xI E (a_mm 5) 60 bt])) (isC := [0, 1]) (isR := [2]) (is2 := [1, 2, 0]) cx hP hD hS ⟨rfl, rfl, by decide, by decide, by decide, by decide, fun _ => rfl⟩ (rV (As := [.int (0 : Int32), .int (90 : Int32), .int (44 : Int32)]) (rest := []) (C := RX10) (q0 := 0) (ci := 10) cx (c_X10_number l E h_mm a_mm (upd (upd mm 3 v51) 4 v52) tx (0 : Int32) (90 : Int32) (44 : Int32) (by show 0 ≤ (v51).toInt ∧ (v51).toInt ≤ 4000; omega) (ht) _) (cwV 3 hts gX10_readsItem_X10_number rfl rfl rfl (by decide +kernel) ⟨Nat.le_of_ble_eq_true rfl, Nat.le_of_ble_eq_true rfl⟩) rfl rfl rfl rfl hl.1 rfl (Nat.le_of_ble_eq_true rfl) dX10_readsItem_30 ⟨Nat.zero_le _, Nat.zero_le _⟩) (fun r53 u H locs hw hP hD hS => ?_)
    obtain ⟨hw, hn30⟩ := hw
    obtain ⟨v54, v55⟩ := u
    have hn30 : v51.toInt < (v54).toInt ∧ (v54).toInt ≤ v51.toInt + 5 := hn30
    have hP : va_P E.1 vwCl [xModel h_mm a_mm (upd (upd mm 3 v54) 4 v55), xI E (a_mm 1) 300 tx, xI E (a_mm 5) 60 bt] H := hP
    have hD : va_D A [xModel h_mm a_mm (upd (upd mm 3 v54) 4 v55), xI E (a_mm 1) 300 tx, xI E (a_mm 5) 60 bt] := hD
    have hw : F_X10_number (upd (upd mm 3 v51) 4 v52) tx (0 : Int32) (90 : Int32) (44 : Int32) = (r53, v54, v55) := hw
    rw [hw] at hρ
    have hρ : ρ = F_X10_readsItem_k30 mm tx bt r50 r53 v54 v55 := hρ
    unfold F_X10_readsItem_k30 at hρ
    refine lv_istore (lv' := [(4, .int r53), (3, .int r50), (2, .int (bt 58)), (0, .ref h_mm), (1, .int letter)]) hx hb dX10_readsItem_33 hl (by decide) rfl (fun ls hl => ?_)
    refine lv_aload_n hx hb dX10_readsItem_35 rfl (lv_at hl 3 rfl) ?_
    refine lv_iconst (v := (1 : Int32)) hx hb dX10_readsItem_36 (by decide) ?_
    refine lv_bipush (v := (40 : Int32)) hx hb dX10_readsItem_37 (by decide) ?_
    refine lv_bipush (v := (44 : Int32)) hx hb dX10_readsItem_39 (by decide) ?_
    refine kI (wc := [xModel h_mm a_mm (upd (upd mm 3 v54) 4 v55), xI E (a_mm 1) 300 tx]) (wr := [xI E (a_mm 5) 60 bt]) (wc' := (fun (u : Int32 × Int32) => [xModel h_mm a_mm (upd (upd (upd (upd mm 3 v54) 4 v55) 3 u.1) 4 u.2), xI E (a_mm 1) 300 tx])) (wn := (fun (u : Int32 × Int32) => [xModel h_mm a_mm (upd (upd mm 3 u.1) 4 u.2), xI E (a_mm 1) 300 tx, xI E (a_mm 5) 60 bt])) (isC := [0, 1]) (isR := [2]) (is2 := [1, 2, 0]) cx hP hD hS ⟨rfl, rfl, by decide, by decide, by decide, by decide, fun _ => rfl⟩ (rV (As := [.int (1 : Int32), .int (40 : Int32), .int (44 : Int32)]) (rest := []) (C := RX10) (q0 := 0) (ci := 10) cx (c_X10_number l E h_mm a_mm (upd (upd mm 3 v54) 4 v55) tx (1 : Int32) (40 : Int32) (44 : Int32) (by show 0 ≤ (v54).toInt ∧ (v54).toInt ≤ 4000; omega) (ht) _) (cwV 3 hts gX10_readsItem_X10_number rfl rfl rfl (by decide +kernel) ⟨Nat.le_of_ble_eq_true rfl, Nat.le_of_ble_eq_true rfl⟩) rfl rfl rfl rfl hl.1 rfl (Nat.le_of_ble_eq_true rfl) dX10_readsItem_41 ⟨Nat.zero_le _, Nat.zero_le _⟩) (fun r56 u H locs hw hP hD hS => ?_)
    obtain ⟨hw, hn41⟩ := hw
    obtain ⟨v57, v58⟩ := u
    have hn41 : v54.toInt < (v57).toInt ∧ (v57).toInt ≤ v54.toInt + 5 := hn41
    have hP : va_P E.1 vwCl [xModel h_mm a_mm (upd (upd mm 3 v57) 4 v58), xI E (a_mm 1) 300 tx, xI E (a_mm 5) 60 bt] H := hP
    have hD : va_D A [xModel h_mm a_mm (upd (upd mm 3 v57) 4 v58), xI E (a_mm 1) 300 tx, xI E (a_mm 5) 60 bt] := hD
    have hw : F_X10_number (upd (upd mm 3 v54) 4 v55) tx (1 : Int32) (40 : Int32) (44 : Int32) = (r56, v57, v58) := hw
    rw [hw] at hρ
    have hρ : ρ = F_X10_readsItem_k41 mm tx bt r50 r53 r56 v57 v58 := hρ
    unfold F_X10_readsItem_k41 at hρ
    refine lv_istore (lv' := [(5, .int r56), (4, .int r53), (3, .int r50), (2, .int (bt 58)), (0, .ref h_mm), (1, .int letter)]) hx hb dX10_readsItem_44 hl (by decide) rfl (fun ls hl => ?_)
    refine lv_aload_n hx hb dX10_readsItem_46 rfl (lv_at hl 4 rfl) ?_
    refine lv_iload hx hb dX10_readsItem_47 (lv_at hl 0 rfl) ?_
    refine lv_bipush (v := (99 : Int32)) hx hb dX10_readsItem_49 (by decide) ?_
    refine lv_bipush (v := (59 : Int32)) hx hb dX10_readsItem_51 (by decide) ?_
    refine kI (wc := [xModel h_mm a_mm (upd (upd mm 3 v57) 4 v58), xI E (a_mm 1) 300 tx]) (wr := [xI E (a_mm 5) 60 bt]) (wc' := (fun (u : Int32 × Int32) => [xModel h_mm a_mm (upd (upd (upd (upd mm 3 v57) 4 v58) 3 u.1) 4 u.2), xI E (a_mm 1) 300 tx])) (wn := (fun (u : Int32 × Int32) => [xModel h_mm a_mm (upd (upd mm 3 u.1) 4 u.2), xI E (a_mm 1) 300 tx, xI E (a_mm 5) 60 bt])) (isC := [0, 1]) (isR := [2]) (is2 := [1, 2, 0]) cx hP hD hS ⟨rfl, rfl, by decide, by decide, by decide, by decide, fun _ => rfl⟩ (rV (As := [.int r56, .int (99 : Int32), .int (59 : Int32)]) (rest := []) (C := RX10) (q0 := 0) (ci := 10) cx (c_X10_number l E h_mm a_mm (upd (upd mm 3 v57) 4 v58) tx r56 (99 : Int32) (59 : Int32) (by show 0 ≤ (v57).toInt ∧ (v57).toInt ≤ 4000; omega) (ht) _) (cwV 3 hts gX10_readsItem_X10_number rfl rfl rfl (by decide +kernel) ⟨Nat.le_of_ble_eq_true rfl, Nat.le_of_ble_eq_true rfl⟩) rfl rfl rfl rfl hl.1 rfl (Nat.le_of_ble_eq_true rfl) dX10_readsItem_53 ⟨Nat.zero_le _, Nat.zero_le _⟩) (fun r59 u H locs hw hP hD hS => ?_)
    obtain ⟨hw, hn53⟩ := hw
    obtain ⟨v60, v61⟩ := u
    have hn53 : v57.toInt < (v60).toInt ∧ (v60).toInt ≤ v57.toInt + 5 := hn53
    have hP : va_P E.1 vwCl [xModel h_mm a_mm (upd (upd mm 3 v60) 4 v61), xI E (a_mm 1) 300 tx, xI E (a_mm 5) 60 bt] H := hP
    have hD : va_D A [xModel h_mm a_mm (upd (upd mm 3 v60) 4 v61), xI E (a_mm 1) 300 tx, xI E (a_mm 5) 60 bt] := hD
    have hw : F_X10_number (upd (upd mm 3 v57) 4 v58) tx r56 (99 : Int32) (59 : Int32) = (r59, v60, v61) := hw
    rw [hw] at hρ
    have hρ : ρ = F_X10_readsItem_k53 mm bt r50 r53 r56 r59 v60 v61 := hρ
    unfold F_X10_readsItem_k53 at hρ
    refine lv_istore (lv' := [(6, .int r59), (5, .int r56), (4, .int r53), (3, .int r50), (2, .int (bt 58)), (0, .ref h_mm), (1, .int letter)]) hx hb dX10_readsItem_56 hl (by decide) rfl (fun ls hl => ?_)
    refine lv_aload_n hx hb dX10_readsItem_58 rfl (lv_at hl 5 rfl) ?_
    refine lv_aload_n hx hb dX10_readsItem_59 rfl (lv_at hl 5 rfl) ?_
    refine va_get (D := E.1) (ci := 10) (v := .int v61) (C := RX10) (T := TX10) (N := 27) hx hb hts iX10_readsItem_X10 hown hE.1 hP 0 rfl rfl 4 (by decide) (hts (.fieldLink RX10 61 "BandBoatModel" "isWell" "Z") (List.mem_of_getElem? (i := 2) rfl)) (fun _ h9 => h9) rfl dX10_readsItem_60 ?_
    have hJ76 : ∀ (y0_76 : Int32) (H : Heap) (locs : List Loc) (ls : Array Slot), (y0_76 = 0 ∨ y0_76 = 1) → ρ = F_X10_readsItem_j76 mm bt r50 r53 r56 r59 v60 y0_76 → va_P E.1 vwCl [xModel h_mm a_mm (upd (upd mm 3 v60) 4 v61), xI E (a_mm 1) 300 tx, xI E (a_mm 5) 60 bt] H → va_D A [xModel h_mm a_mm (upd (upd mm 3 v60) 4 v61), xI E (a_mm 1) 300 tx, xI E (a_mm 5) 60 bt] → va_S A s.heap H locs → lv_has ls 7 [(6, .int r59), (5, .int r56), (4, .int r53), (3, .int r50), (2, .int (bt 58)), (0, .ref h_mm), (1, .int letter)] → W p l e ({ frames := 2, cells := 0, slots := 0, locals := 47 } : Room) s m ([.ref h_mm, .int letter] : List Value).toArray below meth c H locs 0 0 Q (F0 m 76 ls [.int y0_76, .ref h_mm]) := by
      intro y0_76 H locs ls hz_y0_76 hρ hP hD hS hl
      unfold F_X10_readsItem_j76 at hρ
      refine va_put (D := E.1) (ci := 10) (v := .int y0_76) (ty := .boolean) (C := RX10) (T := TX10) (N := 27) hx hb hts iX10_readsItem_X10 tyX10 tyX10_ok nmX10 hown hE.1 hP hD hS 0 rfl rfl 4 (by decide) (hts (.fieldLink RX10 61 "BandBoatModel" "isWell" "Z") (List.mem_of_getElem? (i := 2) rfl)) (fun _ h9 => h9) rfl (by decide +kernel) (nar_z hz_y0_76) (fit_z hz_y0_76) (Nat.le_of_ble_eq_true rfl) dX10_readsItem_76 (fun H locs hP hD hS => ?_)
      have hP : va_P E.1 vwCl [xModel h_mm a_mm (upd (upd mm 3 v60) 4 y0_76), xI E (a_mm 1) 300 tx, xI E (a_mm 5) 60 bt] H := hP
      have hD : va_D A [xModel h_mm a_mm (upd (upd mm 3 v60) 4 y0_76), xI E (a_mm 1) 300 tx, xI E (a_mm 5) 60 bt] := hD
      refine lv_aload_n hx hb dX10_readsItem_79 rfl (lv_at hl 5 rfl) ?_
      refine lv_iconst (v := (4 : Int32)) hx hb dX10_readsItem_80 (by decide) ?_
      refine lv_iload_n hx hb dX10_readsItem_81 rfl (lv_at hl 4 rfl) ?_
      refine lv_iconst (v := (3 : Int32)) hx hb dX10_readsItem_82 (by decide) ?_
      refine lv_iand hx hb dX10_readsItem_83 ?_
      refine lv_imul hx hb dX10_readsItem_84 ?_
      refine lv_iload_n hx hb dX10_readsItem_85 rfl (lv_at hl 3 rfl) ?_
      refine kV (wc := [xModel h_mm a_mm (upd (upd mm 3 v60) 4 y0_76), xI E (a_mm 5) 60 bt]) (wr := [xI E (a_mm 1) 300 tx]) (wc' := (fun (u : (Nat → Int32)) => [xModel h_mm a_mm (upd (upd mm 3 v60) 4 y0_76), xI E (a_mm 5) 60 u])) (wn := (fun (u : (Nat → Int32)) => [xModel h_mm a_mm (upd (upd mm 3 v60) 4 y0_76), xI E (a_mm 1) 300 tx, xI E (a_mm 5) 60 u])) (isC := [0, 2]) (isR := [1]) (is2 := [1, 0, 2]) cx hP hD hS ⟨rfl, rfl, by decide, by decide, by decide, by decide, fun _ => rfl⟩ (rV (As := [.int ((4 : Int32) * ((bt 58) &&& (3 : Int32))), .int r50]) (rest := []) (C := RX10) (q0 := 0) (ci := 10) cx (c_X10_puts l E h_mm a_mm (upd (upd mm 3 v60) 4 y0_76) bt ((4 : Int32) * ((bt 58) &&& (3 : Int32))) r50 (and30 _) _) (cwV 2 hts gX10_readsItem_X10_puts rfl rfl rfl (by decide +kernel) ⟨Nat.le_of_ble_eq_true rfl, Nat.le_of_ble_eq_true rfl⟩) rfl rfl rfl rfl hl.1 rfl (Nat.le_of_ble_eq_true rfl) dX10_readsItem_86 ⟨Nat.zero_le _, Nat.zero_le _⟩) (fun u H locs hw hP hD hS => ?_)
      obtain ⟨g62, rfl⟩ : ∃ z, z = u := ⟨_, rfl⟩
      have hP : va_P E.1 vwCl [xModel h_mm a_mm (upd (upd mm 3 v60) 4 y0_76), xI E (a_mm 1) 300 tx, xI E (a_mm 5) 60 g62] H := hP
      have hD : va_D A [xModel h_mm a_mm (upd (upd mm 3 v60) 4 y0_76), xI E (a_mm 1) 300 tx, xI E (a_mm 5) 60 g62] := hD
      have hw : F_X10_puts (upd (upd mm 3 v60) 4 y0_76) bt ((4 : Int32) * ((bt 58) &&& (3 : Int32))) r50 = g62 := hw
      rw [hw] at hρ
      have hρ : ρ = F_X10_readsItem_k86 mm bt r53 r56 r59 v60 y0_76 g62 := hρ
      unfold F_X10_readsItem_k86 at hρ
      refine lv_aload_n hx hb dX10_readsItem_89 rfl (lv_at hl 5 rfl) ?_
      refine lv_iconst (v := (4 : Int32)) hx hb dX10_readsItem_90 (by decide) ?_
      refine lv_iload_n hx hb dX10_readsItem_91 rfl (lv_at hl 4 rfl) ?_
      refine lv_iconst (v := (3 : Int32)) hx hb dX10_readsItem_92 (by decide) ?_
      refine lv_iand hx hb dX10_readsItem_93 ?_
      refine lv_imul hx hb dX10_readsItem_94 ?_
      refine lv_iconst (v := (1 : Int32)) hx hb dX10_readsItem_95 (by decide) ?_
      refine lv_iadd hx hb dX10_readsItem_96 ?_
      refine lv_iload hx hb dX10_readsItem_97 (lv_at hl 2 rfl) ?_
      refine kV (wc := [xModel h_mm a_mm (upd (upd mm 3 v60) 4 y0_76), xI E (a_mm 5) 60 g62]) (wr := [xI E (a_mm 1) 300 tx]) (wc' := (fun (u : (Nat → Int32)) => [xModel h_mm a_mm (upd (upd mm 3 v60) 4 y0_76), xI E (a_mm 5) 60 u])) (wn := (fun (u : (Nat → Int32)) => [xModel h_mm a_mm (upd (upd mm 3 v60) 4 y0_76), xI E (a_mm 1) 300 tx, xI E (a_mm 5) 60 u])) (isC := [0, 2]) (isR := [1]) (is2 := [1, 0, 2]) cx hP hD hS ⟨rfl, rfl, by decide, by decide, by decide, by decide, fun _ => rfl⟩ (rV (As := [.int (((4 : Int32) * ((bt 58) &&& (3 : Int32))) + (1 : Int32)), .int r53]) (rest := []) (C := RX10) (q0 := 0) (ci := 10) cx (c_X10_puts l E h_mm a_mm (upd (upd mm 3 v60) 4 y0_76) g62 (((4 : Int32) * ((bt 58) &&& (3 : Int32))) + (1 : Int32)) r53 (and3j _ (by decide)) _) (cwV 2 hts gX10_readsItem_X10_puts rfl rfl rfl (by decide +kernel) ⟨Nat.le_of_ble_eq_true rfl, Nat.le_of_ble_eq_true rfl⟩) rfl rfl rfl rfl hl.1 rfl (Nat.le_of_ble_eq_true rfl) dX10_readsItem_99 ⟨Nat.zero_le _, Nat.zero_le _⟩) (fun u H locs hw hP hD hS => ?_)
      obtain ⟨g63, rfl⟩ : ∃ z, z = u := ⟨_, rfl⟩
      have hP : va_P E.1 vwCl [xModel h_mm a_mm (upd (upd mm 3 v60) 4 y0_76), xI E (a_mm 1) 300 tx, xI E (a_mm 5) 60 g63] H := hP
      have hD : va_D A [xModel h_mm a_mm (upd (upd mm 3 v60) 4 y0_76), xI E (a_mm 1) 300 tx, xI E (a_mm 5) 60 g63] := hD
      have hw : F_X10_puts (upd (upd mm 3 v60) 4 y0_76) g62 (((4 : Int32) * ((bt 58) &&& (3 : Int32))) + (1 : Int32)) r53 = g63 := hw
      rw [hw] at hρ
      have hρ : ρ = F_X10_readsItem_k99 mm bt r56 r59 v60 y0_76 g63 := hρ
      unfold F_X10_readsItem_k99 at hρ
      refine lv_aload_n hx hb dX10_readsItem_102 rfl (lv_at hl 5 rfl) ?_
      refine lv_iconst (v := (4 : Int32)) hx hb dX10_readsItem_103 (by decide) ?_
      refine lv_iload_n hx hb dX10_readsItem_104 rfl (lv_at hl 4 rfl) ?_
      refine lv_iconst (v := (3 : Int32)) hx hb dX10_readsItem_105 (by decide) ?_
      refine lv_iand hx hb dX10_readsItem_106 ?_
      refine lv_imul hx hb dX10_readsItem_107 ?_
      refine lv_iconst (v := (2 : Int32)) hx hb dX10_readsItem_108 (by decide) ?_
      refine lv_iadd hx hb dX10_readsItem_109 ?_
      refine lv_iload hx hb dX10_readsItem_110 (lv_at hl 1 rfl) ?_
      refine kV (wc := [xModel h_mm a_mm (upd (upd mm 3 v60) 4 y0_76), xI E (a_mm 5) 60 g63]) (wr := [xI E (a_mm 1) 300 tx]) (wc' := (fun (u : (Nat → Int32)) => [xModel h_mm a_mm (upd (upd mm 3 v60) 4 y0_76), xI E (a_mm 5) 60 u])) (wn := (fun (u : (Nat → Int32)) => [xModel h_mm a_mm (upd (upd mm 3 v60) 4 y0_76), xI E (a_mm 1) 300 tx, xI E (a_mm 5) 60 u])) (isC := [0, 2]) (isR := [1]) (is2 := [1, 0, 2]) cx hP hD hS ⟨rfl, rfl, by decide, by decide, by decide, by decide, fun _ => rfl⟩ (rV (As := [.int (((4 : Int32) * ((bt 58) &&& (3 : Int32))) + (2 : Int32)), .int r56]) (rest := []) (C := RX10) (q0 := 0) (ci := 10) cx (c_X10_puts l E h_mm a_mm (upd (upd mm 3 v60) 4 y0_76) g63 (((4 : Int32) * ((bt 58) &&& (3 : Int32))) + (2 : Int32)) r56 (and3j _ (by decide)) _) (cwV 2 hts gX10_readsItem_X10_puts rfl rfl rfl (by decide +kernel) ⟨Nat.le_of_ble_eq_true rfl, Nat.le_of_ble_eq_true rfl⟩) rfl rfl rfl rfl hl.1 rfl (Nat.le_of_ble_eq_true rfl) dX10_readsItem_112 ⟨Nat.zero_le _, Nat.zero_le _⟩) (fun u H locs hw hP hD hS => ?_)
      obtain ⟨g64, rfl⟩ : ∃ z, z = u := ⟨_, rfl⟩
      have hP : va_P E.1 vwCl [xModel h_mm a_mm (upd (upd mm 3 v60) 4 y0_76), xI E (a_mm 1) 300 tx, xI E (a_mm 5) 60 g64] H := hP
      have hD : va_D A [xModel h_mm a_mm (upd (upd mm 3 v60) 4 y0_76), xI E (a_mm 1) 300 tx, xI E (a_mm 5) 60 g64] := hD
      have hw : F_X10_puts (upd (upd mm 3 v60) 4 y0_76) g63 (((4 : Int32) * ((bt 58) &&& (3 : Int32))) + (2 : Int32)) r56 = g64 := hw
      rw [hw] at hρ
      have hρ : ρ = F_X10_readsItem_k112 mm bt r59 v60 y0_76 g64 := hρ
      unfold F_X10_readsItem_k112 at hρ
      refine lv_aload_n hx hb dX10_readsItem_115 rfl (lv_at hl 5 rfl) ?_
      refine lv_iconst (v := (4 : Int32)) hx hb dX10_readsItem_116 (by decide) ?_
      refine lv_iload_n hx hb dX10_readsItem_117 rfl (lv_at hl 4 rfl) ?_
      refine lv_iconst (v := (3 : Int32)) hx hb dX10_readsItem_118 (by decide) ?_
      refine lv_iand hx hb dX10_readsItem_119 ?_
      refine lv_imul hx hb dX10_readsItem_120 ?_
      refine lv_iconst (v := (3 : Int32)) hx hb dX10_readsItem_121 (by decide) ?_
      refine lv_iadd hx hb dX10_readsItem_122 ?_
      refine lv_iload hx hb dX10_readsItem_123 (lv_at hl 0 rfl) ?_
      refine kV (wc := [xModel h_mm a_mm (upd (upd mm 3 v60) 4 y0_76), xI E (a_mm 5) 60 g64]) (wr := [xI E (a_mm 1) 300 tx]) (wc' := (fun (u : (Nat → Int32)) => [xModel h_mm a_mm (upd (upd mm 3 v60) 4 y0_76), xI E (a_mm 5) 60 u])) (wn := (fun (u : (Nat → Int32)) => [xModel h_mm a_mm (upd (upd mm 3 v60) 4 y0_76), xI E (a_mm 1) 300 tx, xI E (a_mm 5) 60 u])) (isC := [0, 2]) (isR := [1]) (is2 := [1, 0, 2]) cx hP hD hS ⟨rfl, rfl, by decide, by decide, by decide, by decide, fun _ => rfl⟩ (rV (As := [.int (((4 : Int32) * ((bt 58) &&& (3 : Int32))) + (3 : Int32)), .int r59]) (rest := []) (C := RX10) (q0 := 0) (ci := 10) cx (c_X10_puts l E h_mm a_mm (upd (upd mm 3 v60) 4 y0_76) g64 (((4 : Int32) * ((bt 58) &&& (3 : Int32))) + (3 : Int32)) r59 (and3j _ (by decide)) _) (cwV 2 hts gX10_readsItem_X10_puts rfl rfl rfl (by decide +kernel) ⟨Nat.le_of_ble_eq_true rfl, Nat.le_of_ble_eq_true rfl⟩) rfl rfl rfl rfl hl.1 rfl (Nat.le_of_ble_eq_true rfl) dX10_readsItem_125 ⟨Nat.zero_le _, Nat.zero_le _⟩) (fun u H locs hw hP hD hS => ?_)
      obtain ⟨g65, rfl⟩ : ∃ z, z = u := ⟨_, rfl⟩
      have hP : va_P E.1 vwCl [xModel h_mm a_mm (upd (upd mm 3 v60) 4 y0_76), xI E (a_mm 1) 300 tx, xI E (a_mm 5) 60 g65] H := hP
      have hD : va_D A [xModel h_mm a_mm (upd (upd mm 3 v60) 4 y0_76), xI E (a_mm 1) 300 tx, xI E (a_mm 5) 60 g65] := hD
      have hw : F_X10_puts (upd (upd mm 3 v60) 4 y0_76) g64 (((4 : Int32) * ((bt 58) &&& (3 : Int32))) + (3 : Int32)) r59 = g65 := hw
      rw [hw] at hρ
      have hρ : ρ = F_X10_readsItem_k125 mm bt v60 y0_76 g65 := hρ
      unfold F_X10_readsItem_k125 at hρ
      refine lv_aload_n hx hb dX10_readsItem_128 rfl (lv_at hl 5 rfl) ?_
      refine lv_bipush (v := (28 : Int32)) hx hb dX10_readsItem_129 (by decide) ?_
      refine lv_iload_n hx hb dX10_readsItem_131 rfl (lv_at hl 4 rfl) ?_
      refine lv_iconst (v := (1 : Int32)) hx hb dX10_readsItem_132 (by decide) ?_
      refine lv_iadd hx hb dX10_readsItem_133 ?_
      refine kV (wc := [xModel h_mm a_mm (upd (upd mm 3 v60) 4 y0_76), xI E (a_mm 5) 60 g65]) (wr := [xI E (a_mm 1) 300 tx]) (wc' := (fun (u : (Nat → Int32)) => [xModel h_mm a_mm (upd (upd mm 3 v60) 4 y0_76), xI E (a_mm 5) 60 u])) (wn := (fun (u : (Nat → Int32)) => [xModel h_mm a_mm (upd (upd mm 3 v60) 4 y0_76), xI E (a_mm 1) 300 tx, xI E (a_mm 5) 60 u])) (isC := [0, 2]) (isR := [1]) (is2 := [1, 0, 2]) cx hP hD hS ⟨rfl, rfl, by decide, by decide, by decide, by decide, fun _ => rfl⟩ (rV (As := [.int (28 : Int32), .int ((bt 58) + (1 : Int32))]) (rest := []) (C := RX10) (q0 := 0) (ci := 10) cx (c_X10_puts l E h_mm a_mm (upd (upd mm 3 v60) 4 y0_76) g65 (28 : Int32) ((bt 58) + (1 : Int32)) (by decide) _) (cwV 2 hts gX10_readsItem_X10_puts rfl rfl rfl (by decide +kernel) ⟨Nat.le_of_ble_eq_true rfl, Nat.le_of_ble_eq_true rfl⟩) rfl rfl rfl rfl hl.1 rfl (Nat.le_of_ble_eq_true rfl) dX10_readsItem_134 ⟨Nat.zero_le _, Nat.zero_le _⟩) (fun u H locs hw hP hD hS => ?_)
      obtain ⟨g66, rfl⟩ : ∃ z, z = u := ⟨_, rfl⟩
      have hP : va_P E.1 vwCl [xModel h_mm a_mm (upd (upd mm 3 v60) 4 y0_76), xI E (a_mm 1) 300 tx, xI E (a_mm 5) 60 g66] H := hP
      have hD : va_D A [xModel h_mm a_mm (upd (upd mm 3 v60) 4 y0_76), xI E (a_mm 1) 300 tx, xI E (a_mm 5) 60 g66] := hD
      have hw : F_X10_puts (upd (upd mm 3 v60) 4 y0_76) g65 (28 : Int32) ((bt 58) + (1 : Int32)) = g66 := hw
      rw [hw] at hρ
      have hρ : ρ = F_X10_readsItem_k134 v60 y0_76 g66 := hρ
      unfold F_X10_readsItem_k134 at hρ
      refine lv_goto (tgt := 422) hx hb dX10_readsItem_137 (by decide) ?_
      exact hq (v60, y0_76, g66) _ _ _ _ dX10_readsItem_422 ⟨(hρ0.trans hρ), show (mm 3).toInt ≤ (v60).toInt ∧ (v60).toInt ≤ (mm 3).toInt + 20 from by omega⟩ hP hD hS
    have hJ75 : ∀ (H : Heap) (locs : List Loc) (ls : Array Slot), ρ = F_X10_readsItem_j75 mm bt r50 r53 r56 r59 v60 → va_P E.1 vwCl [xModel h_mm a_mm (upd (upd mm 3 v60) 4 v61), xI E (a_mm 1) 300 tx, xI E (a_mm 5) 60 bt] H → va_D A [xModel h_mm a_mm (upd (upd mm 3 v60) 4 v61), xI E (a_mm 1) 300 tx, xI E (a_mm 5) 60 bt] → va_S A s.heap H locs → lv_has ls 7 [(6, .int r59), (5, .int r56), (4, .int r53), (3, .int r50), (2, .int (bt 58)), (0, .ref h_mm), (1, .int letter)] → W p l e ({ frames := 2, cells := 0, slots := 0, locals := 47 } : Room) s m ([.ref h_mm, .int letter] : List Value).toArray below meth c H locs 0 0 Q (F0 m 75 ls [.ref h_mm]) := by
      intro  H locs ls hρ hP hD hS hl
      unfold F_X10_readsItem_j75 at hρ
      refine lv_iconst (v := (0 : Int32)) hx hb dX10_readsItem_75 (by decide) ?_
      exact hJ76 (0 : Int32) _ _ _ (Or.inl rfl) hρ hP hD hS (lv_sub hl [0, 1, 2, 3, 4, 5, 6] rfl)
    refine lv_if_eq (tgt := 75) hx hb dX10_readsItem_63 (by decide) (fun c63 => ?_) (fun c63 => ?_)
    · rw [if_pos c63] at hρ
      exact hJ75 _ _ _ hρ hP hD hS (lv_sub hl [0, 1, 2, 3, 4, 5, 6] rfl)
    · rw [if_neg c63] at hρ
      refine lv_iload_n hx hb dX10_readsItem_66 rfl (lv_at hl 4 rfl) ?_
      refine lv_iconst (v := (4 : Int32)) hx hb dX10_readsItem_67 (by decide) ?_
      refine lv_icmp_ge (tgt := 75) hx hb dX10_readsItem_68 (by decide) (fun c68 => ?_) (fun c68 => ?_)
      · rw [if_pos c68] at hρ
        exact hJ75 _ _ _ hρ hP hD hS (lv_sub hl [0, 1, 2, 3, 4, 5, 6] rfl)
      · rw [if_neg c68] at hρ
        refine lv_iconst (v := (1 : Int32)) hx hb dX10_readsItem_71 (by decide) ?_
        refine lv_goto (tgt := 76) hx hb dX10_readsItem_72 (by decide) ?_
        exact hJ76 (1 : Int32) _ _ _ (Or.inr rfl) hρ hP hD hS (lv_sub hl [0, 1, 2, 3, 4, 5, 6] rfl)
