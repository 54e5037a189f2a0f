set_option maxHeartbeats 4000000 in
set_option maxRecDepth 100000 in
theorem c_X0_init (l : Launch) (E : wV) (h : Nat) : MetC l yX0_init wsX0_init ({ frames := 1, cells := 0, slots := 0, locals := 12 } : Room) E ([.ref h] : List Value) [xBand h zf] (fun (_ : Unit) => True) (fun (_ : Unit) => [xBand h zf]) 0 (0) := by
  refine MetC.of (cc := cX0_init) (maxL := 1) (own := RX0) (by decide) rfl rfl (Nat.le_of_ble_eq_true rfl) rfl ?_
  intro p e s m below meth c A Q ls hin cx hP hD hS hl hq
  obtain ⟨hx, hb, hml, hown, hts, hE, hA⟩ := id cx
  have hl : lv_has ls 1 [(0, .ref h)] := hl
  have hP : va_P E.1 vwCl [xBand h zf] s.heap := hP
  refine lv_aload_n hx hb dX0_init_0 rfl (lv_at hl 0 rfl) ?_
  refine W.objInit hx hb hown (hts (.methodLink RX0 1 objectInit) (List.mem_of_getElem? (i := 1) rfl)) (hts (.instanceMethod objectInit) (List.mem_of_getElem? (i := 2) rfl)) (hts (.code objectInit ⟨#[0xb1]⟩ 1 none) (List.mem_of_getElem? (i := 3) rfl)) rfl (by rw [hml]; exact hl.1) rfl dX0_init_1 (Nat.le_of_ble_eq_true rfl) (Nat.le_of_ble_eq_true rfl) ?_
  refine W.eq (g2 := F0 m 4 ls []) rfl ?_
  have hP9 := hP.sub (ws' := [xBand h zf]) [0] rfl
  have hD9 := hD.sub (ws' := [xBand h zf]) [0] (by decide) rfl
  exact hq () _ _ _ _ dX0_init_4 trivial hP9 hD9 hS
set_option maxHeartbeats 4000000 in
set_option maxRecDepth 100000 in
theorem c_X4_init (l : Launch) (E : wV) (h : Nat) : MetC l yX4_init wsX4_init ({ frames := 1, cells := 0, slots := 0, locals := 12 } : Room) E ([.ref h] : List Value) [xMotion h zf] (fun (_ : Unit) => True) (fun (_ : Unit) => [xMotion h zf]) 0 (0) := by
  refine MetC.of (cc := cX4_init) (maxL := 1) (own := RX4) (by decide) rfl rfl (Nat.le_of_ble_eq_true rfl) rfl ?_
  intro p e s m below meth c A Q ls hin cx hP hD hS hl hq
  obtain ⟨hx, hb, hml, hown, hts, hE, hA⟩ := id cx
  have hl : lv_has ls 1 [(0, .ref h)] := hl
  have hP : va_P E.1 vwCl [xMotion h zf] s.heap := hP
  refine lv_aload_n hx hb dX4_init_0 rfl (lv_at hl 0 rfl) ?_
  refine W.objInit hx hb hown (hts (.methodLink RX4 3 objectInit) (List.mem_of_getElem? (i := 1) rfl)) (hts (.instanceMethod objectInit) (List.mem_of_getElem? (i := 2) rfl)) (hts (.code objectInit ⟨#[0xb1]⟩ 1 none) (List.mem_of_getElem? (i := 3) rfl)) rfl (by rw [hml]; exact hl.1) rfl dX4_init_1 (Nat.le_of_ble_eq_true rfl) (Nat.le_of_ble_eq_true rfl) ?_
  refine W.eq (g2 := F0 m 4 ls []) rfl ?_
  have hP9 := hP.sub (ws' := [xMotion h zf]) [0] rfl
  have hD9 := hD.sub (ws' := [xMotion h zf]) [0] (by decide) rfl
  exact hq () _ _ _ _ dX4_init_4 trivial hP9 hD9 hS
set_option maxHeartbeats 4000000 in
set_option maxRecDepth 100000 in
theorem c_X6_init (l : Launch) (E : wV) (h : Nat) : MetC l yX6_init wsX6_init ({ frames := 1, cells := 0, slots := 0, locals := 12 } : Room) E ([.ref h] : List Value) [xRig h zf] (fun (_ : Unit) => True) (fun (_ : Unit) => [xRig h zf]) 0 (0) := by
  refine MetC.of (cc := cX6_init) (maxL := 1) (own := RX6) (by decide) rfl rfl (Nat.le_of_ble_eq_true rfl) rfl ?_
  intro p e s m below meth c A Q ls hin cx hP hD hS hl hq
  obtain ⟨hx, hb, hml, hown, hts, hE, hA⟩ := id cx
  have hl : lv_has ls 1 [(0, .ref h)] := hl
  have hP : va_P E.1 vwCl [xRig h zf] s.heap := hP
  refine lv_aload_n hx hb dX6_init_0 rfl (lv_at hl 0 rfl) ?_
  refine W.objInit hx hb hown (hts (.methodLink RX6 1 objectInit) (List.mem_of_getElem? (i := 1) rfl)) (hts (.instanceMethod objectInit) (List.mem_of_getElem? (i := 2) rfl)) (hts (.code objectInit ⟨#[0xb1]⟩ 1 none) (List.mem_of_getElem? (i := 3) rfl)) rfl (by rw [hml]; exact hl.1) rfl dX6_init_1 (Nat.le_of_ble_eq_true rfl) (Nat.le_of_ble_eq_true rfl) ?_
  refine W.eq (g2 := F0 m 4 ls []) rfl ?_
  have hP9 := hP.sub (ws' := [xRig h zf]) [0] rfl
  have hD9 := hD.sub (ws' := [xRig h zf]) [0] (by decide) rfl
  exact hq () _ _ _ _ dX6_init_4 trivial hP9 hD9 hS
theorem iX7_init_X7 : ∀ w ∈ wsX70, w ∈ wsX7_init := fun _ h => List.mem_cons_of_mem _ (List.mem_append_right _ h)
set_option maxHeartbeats 4000000 in
set_option maxRecDepth 100000 in
theorem c_X7_init (l : Launch) (E : wV) (h : Nat) : MetC l yX7_init wsX7_init ({ frames := 1, cells := 1, slots := 300, locals := 12 } : Room) E ([.ref h] : List Value) [(h, .inr (7, [.null, .int 0]))] (fun (_ : (Nat → Nat)) => True) (fun (u : (Nat → Nat)) => [xScript h u zf, xB E (u 0) 300 zf]) 1 (300) := by
  refine MetC.of (cc := cX7_init) (maxL := 1) (own := RX7) (by decide) rfl rfl (Nat.le_of_ble_eq_true rfl) rfl ?_
  intro p e s m below meth c A Q ls hin cx hP hD hS hl hq
  obtain ⟨hx, hb, hml, hown, hts, hE, hA⟩ := id cx
  have hl : lv_has ls 1 [(0, .ref h)] := hl
  have hP : va_P E.1 vwCl [(h, .inr (7, [.null, .int 0]))] s.heap := hP
  refine lv_aload_n hx hb dX7_init_0 rfl (lv_at hl 0 rfl) ?_
  refine W.objInit hx hb hown (hts (.methodLink RX7 3 objectInit) (List.mem_of_getElem? (i := 1) rfl)) (hts (.instanceMethod objectInit) (List.mem_of_getElem? (i := 2) rfl)) (hts (.code objectInit ⟨#[0xb1]⟩ 1 none) (List.mem_of_getElem? (i := 3) rfl)) rfl (by rw [hml]; exact hl.1) rfl dX7_init_1 (Nat.le_of_ble_eq_true rfl) (Nat.le_of_ble_eq_true rfl) ?_
  refine W.eq (g2 := F0 m 4 ls []) rfl ?_
  refine lv_aload_n hx hb dX7_init_4 rfl (lv_at hl 0 rfl) ?_
  refine lv_sipush (v := (300 : Int32)) hx hb dX7_init_5 (by decide) ?_
  refine ar_newb (N := 300) hx hb (hts (.arrayClass .byte) (List.mem_of_getElem? (i := 4) rfl)) hE hP hD hS hA (by decide) rfl (by decide) (Nat.le_of_ble_eq_true rfl) (Nat.le_of_ble_eq_true rfl) dX7_init_8 (fun q1 H hP hD hS => ?_)
  have hP : va_P E.1 vwCl [(h, .inr (7, [.null, .int 0])), xB E q1 300 zf] H := hP
  have hD : va_D A [(h, .inr (7, [.null, .int 0])), xB E q1 300 zf] := hD
  refine W.widen (k := 1) (n := 300) (by omega) (by omega) ?_
  refine va_putF (D := E.1) (ci := 7) (v := .ref q1) (ty := .array .byte) (C := RX7) (T := TX7) (N := 2) hx hb hts iX7_init_X7 tyX7 tyX7_ok nmX7 hown hE.1 hP hD hS 0 rfl rfl 0 (by decide) (hts (.fieldLink RX7 9 "BandBoat$Script" "bytes" "[B") (List.mem_of_getElem? (i := 5) rfl)) (fun _ h9 => h9) rfl hin rfl (by decide +kernel) rfl rfl (Nat.le_of_ble_eq_true rfl) dX7_init_10 (fun H locs hP hD hS => ?_)
  have hP : va_P E.1 vwCl [(h, .inr (7, [.ref q1, .int 0])), xB E q1 300 zf] H := hP
  have hD : va_D A [(h, .inr (7, [.ref q1, .int 0])), xB E q1 300 zf] := hD
  have hP9 := hP.sub (ws' := [xScript h (adl [q1, 0]) zf, xB E ((adl [q1, 0]) 0) 300 zf]) [0, 1] rfl
  have hD9 := hD.sub (ws' := [xScript h (adl [q1, 0]) zf, xB E ((adl [q1, 0]) 0) 300 zf]) [0, 1] (by decide) rfl
  exact hq (adl [q1, 0]) _ _ _ _ dX7_init_13 trivial hP9 hD9 hS
theorem iX3_init_X3 : ∀ w ∈ wsX30, w ∈ wsX3_init := fun _ h => List.mem_cons_of_mem _ (List.mem_append_right _ h)
set_option maxHeartbeats 4000000 in
set_option maxRecDepth 100000 in
theorem c_X3_init (l : Launch) (E : wV) (h : Nat) (N : Nat) (hbb : N ≤ 100000) : MetC l yX3_init wsX3_init ({ frames := 1, cells := 1, slots := N, locals := 12 } : Room) E ([.ref h, .int (nI N)] : List Value) [(h, .inr (3, [.null, .int 0, .int 0, .int 0]))] (fun (_ : (Nat → Nat)) => True) (fun (u : (Nat → Nat)) => [xMemo h u zf, xI E (u 0) N zf]) 1 (N) := by
  refine MetC.of (cc := cX3_init) (maxL := 2) (own := RX3) (by decide) rfl rfl (Nat.le_of_ble_eq_true rfl) rfl ?_
  intro p e s m below meth c A Q ls hin cx hP hD hS hl hq
  obtain ⟨hx, hb, hml, hown, hts, hE, hA⟩ := id cx
  have hl : lv_has ls 2 [(0, .ref h), (1, .int (nI N))] := hl
  have hP : va_P E.1 vwCl [(h, .inr (3, [.null, .int 0, .int 0, .int 0]))] s.heap := hP
  have hge : (0 : Int32) ≤ nI N := nI_pos' (by omega)
  have hnn : ¬ nI N < 0 := nI_pos (by omega)
  have hNN : (nI N).toNatClampNeg = N := nI_clamp (by omega)
  refine lv_aload_n hx hb dX3_init_0 rfl (lv_at hl 0 rfl) ?_
  refine W.objInit hx hb hown (hts (.methodLink RX3 1 objectInit) (List.mem_of_getElem? (i := 1) rfl)) (hts (.instanceMethod objectInit) (List.mem_of_getElem? (i := 2) rfl)) (hts (.code objectInit ⟨#[0xb1]⟩ 1 none) (List.mem_of_getElem? (i := 3) rfl)) rfl (by rw [hml]; exact hl.1) rfl dX3_init_1 (Nat.le_of_ble_eq_true rfl) (Nat.le_of_ble_eq_true rfl) ?_
  refine W.eq (g2 := F0 m 4 ls []) rfl ?_
  refine lv_aload_n hx hb dX3_init_4 rfl (lv_at hl 0 rfl) ?_
  refine lv_iload_n hx hb dX3_init_5 rfl (lv_at hl 1 rfl) ?_
  refine lv_if_ge (tgt := 13) hx hb dX3_init_6 (by decide) (fun _ => ?_) (fun c => absurd hge c)
  refine lv_iload_n hx hb dX3_init_13 rfl (lv_at hl 1 rfl) ?_
  refine ar_newi (N := N) hx hb (hts (.arrayClass .int) (List.mem_of_getElem? (i := 4) rfl)) hE hP hD hS hA hnn hNN hbb (Nat.le_of_ble_eq_true rfl) (by simp) dX3_init_14 (fun q1 H hP hD hS => ?_)
  have hP : va_P E.1 vwCl [(h, .inr (3, [.null, .int 0, .int 0, .int 0])), xI E q1 N zf] H := hP
  have hD : va_D A [(h, .inr (3, [.null, .int 0, .int 0, .int 0])), xI E q1 N zf] := hD
  refine W.widen (k := 1) (n := N) (by omega) (by omega) ?_
  refine va_putF (D := E.1) (ci := 3) (v := .ref q1) (ty := .array .int) (C := RX3) (T := TX3) (N := 4) hx hb hts iX3_init_X3 tyX3 tyX3_ok nmX3 hown hE.1 hP hD hS 0 rfl rfl 0 (by decide) (hts (.fieldLink RX3 7 "BandBoat$Memo" "answers" "[I") (List.mem_of_getElem? (i := 5) rfl)) (fun _ h9 => h9) rfl hin rfl (by decide +kernel) rfl rfl (Nat.le_of_ble_eq_true rfl) dX3_init_16 (fun H locs hP hD hS => ?_)
  have hP : va_P E.1 vwCl [(h, .inr (3, [.ref q1, .int 0, .int 0, .int 0])), xI E q1 N zf] H := hP
  have hD : va_D A [(h, .inr (3, [.ref q1, .int 0, .int 0, .int 0])), xI E q1 N zf] := hD
  have hP9 := hP.sub (ws' := [xMemo h (adl [q1, 0, 0, 0]) zf, xI E ((adl [q1, 0, 0, 0]) 0) N zf]) [0, 1] rfl
  have hD9 := hD.sub (ws' := [xMemo h (adl [q1, 0, 0, 0]) zf, xI E ((adl [q1, 0, 0, 0]) 0) N zf]) [0, 1] (by decide) rfl
  exact hq (adl [q1, 0, 0, 0]) _ _ _ _ dX3_init_19 trivial hP9 hD9 hS
theorem iX1_init_X1 : ∀ w ∈ wsX10, w ∈ wsX1_init := fun _ h => List.mem_cons_of_mem _ (List.mem_append_right _ h)
set_option maxHeartbeats 4000000 in
set_option maxRecDepth 100000 in
theorem c_X1_init (l : Launch) (E : wV) (h : Nat) : MetC l yX1_init wsX1_init ({ frames := 1, cells := 3, slots := 18, locals := 12 } : Room) E ([.ref h] : List Value) [(h, .inr (1, [.null, .null, .null, .int 0]))] (fun (_ : (Nat → Nat)) => True) (fun (u : (Nat → Nat)) => [xGauge h u zf, xI E (u 0) 6 zf, xI E (u 1) 6 zf, xI E (u 2) 6 zf]) 3 (18) := by
  refine MetC.of (cc := cX1_init) (maxL := 1) (own := RX1) (by decide) rfl rfl (Nat.le_of_ble_eq_true rfl) rfl ?_
  intro p e s m below meth c A Q ls hin cx hP hD hS hl hq
  obtain ⟨hx, hb, hml, hown, hts, hE, hA⟩ := id cx
  have hl : lv_has ls 1 [(0, .ref h)] := hl
  have hP : va_P E.1 vwCl [(h, .inr (1, [.null, .null, .null, .int 0]))] s.heap := hP
  refine lv_aload_n hx hb dX1_init_0 rfl (lv_at hl 0 rfl) ?_
  refine W.objInit hx hb hown (hts (.methodLink RX1 3 objectInit) (List.mem_of_getElem? (i := 1) rfl)) (hts (.instanceMethod objectInit) (List.mem_of_getElem? (i := 2) rfl)) (hts (.code objectInit ⟨#[0xb1]⟩ 1 none) (List.mem_of_getElem? (i := 3) rfl)) rfl (by rw [hml]; exact hl.1) rfl dX1_init_1 (Nat.le_of_ble_eq_true rfl) (Nat.le_of_ble_eq_true rfl) ?_
  refine W.eq (g2 := F0 m 4 ls []) rfl ?_
  refine lv_aload_n hx hb dX1_init_4 rfl (lv_at hl 0 rfl) ?_
  refine lv_bipush (v := (6 : Int32)) hx hb dX1_init_5 (by decide) ?_
  refine ar_newi (N := 6) hx hb (hts (.arrayClass .int) (List.mem_of_getElem? (i := 4) rfl)) hE hP hD hS hA (by decide) rfl (by decide) (Nat.le_of_ble_eq_true rfl) (Nat.le_of_ble_eq_true rfl) dX1_init_7 (fun q1 H hP hD hS => ?_)
  have hP : va_P E.1 vwCl [(h, .inr (1, [.null, .null, .null, .int 0])), xI E q1 6 zf] H := hP
  have hD : va_D A [(h, .inr (1, [.null, .null, .null, .int 0])), xI E q1 6 zf] := hD
  refine W.widen (k := 1) (n := 6) (by omega) (by omega) ?_
  refine va_putF (D := E.1) (ci := 1) (v := .ref q1) (ty := .array .int) (C := RX1) (T := TX1) (N := 4) hx hb hts iX1_init_X1 tyX1 tyX1_ok nmX1 hown hE.1 hP hD hS 0 rfl rfl 0 (by decide) (hts (.fieldLink RX1 9 "BandBoat$Gauge" "turns" "[I") (List.mem_of_getElem? (i := 5) rfl)) (fun _ h9 => h9) rfl hin rfl (by decide +kernel) rfl rfl (Nat.le_of_ble_eq_true rfl) dX1_init_9 (fun H locs hP hD hS => ?_)
  have hP : va_P E.1 vwCl [(h, .inr (1, [.ref q1, .null, .null, .int 0])), xI E q1 6 zf] H := hP
  have hD : va_D A [(h, .inr (1, [.ref q1, .null, .null, .int 0])), xI E q1 6 zf] := hD
  refine lv_aload_n hx hb dX1_init_12 rfl (lv_at hl 0 rfl) ?_
  refine lv_bipush (v := (6 : Int32)) hx hb dX1_init_13 (by decide) ?_
  refine ar_newi (N := 6) hx hb (hts (.arrayClass .int) (List.mem_of_getElem? (i := 4) rfl)) hE hP hD hS hA (by decide) rfl (by decide) (Nat.le_of_ble_eq_true rfl) (Nat.le_of_ble_eq_true rfl) dX1_init_15 (fun q2 H hP hD hS => ?_)
  have hP : va_P E.1 vwCl [(h, .inr (1, [.ref q1, .null, .null, .int 0])), xI E q1 6 zf, xI E q2 6 zf] H := hP
  have hD : va_D A [(h, .inr (1, [.ref q1, .null, .null, .int 0])), xI E q1 6 zf, xI E q2 6 zf] := hD
  refine W.widen (k := 2) (n := 12) (by omega) (by omega) ?_
  refine va_putF (D := E.1) (ci := 1) (v := .ref q2) (ty := .array .int) (C := RX1) (T := TX1) (N := 4) hx hb hts iX1_init_X1 tyX1 tyX1_ok nmX1 hown hE.1 hP hD hS 0 rfl rfl 1 (by decide) (hts (.fieldLink RX1 15 "BandBoat$Gauge" "ups" "[I") (List.mem_of_getElem? (i := 6) rfl)) (fun _ h9 => h9) rfl hin rfl (by decide +kernel) rfl rfl (Nat.le_of_ble_eq_true rfl) dX1_init_17 (fun H locs hP hD hS => ?_)
  have hP : va_P E.1 vwCl [(h, .inr (1, [.ref q1, .ref q2, .null, .int 0])), xI E q1 6 zf, xI E q2 6 zf] H := hP
  have hD : va_D A [(h, .inr (1, [.ref q1, .ref q2, .null, .int 0])), xI E q1 6 zf, xI E q2 6 zf] := hD
  refine lv_aload_n hx hb dX1_init_20 rfl (lv_at hl 0 rfl) ?_
  refine lv_bipush (v := (6 : Int32)) hx hb dX1_init_21 (by decide) ?_
  refine ar_newi (N := 6) hx hb (hts (.arrayClass .int) (List.mem_of_getElem? (i := 4) rfl)) hE hP hD hS hA (by decide) rfl (by decide) (Nat.le_of_ble_eq_true rfl) (Nat.le_of_ble_eq_true rfl) dX1_init_23 (fun q3 H hP hD hS => ?_)
  have hP : va_P E.1 vwCl [(h, .inr (1, [.ref q1, .ref q2, .null, .int 0])), xI E q1 6 zf, xI E q2 6 zf, xI E q3 6 zf] H := hP
  have hD : va_D A [(h, .inr (1, [.ref q1, .ref q2, .null, .int 0])), xI E q1 6 zf, xI E q2 6 zf, xI E q3 6 zf] := hD
  refine W.widen (k := 3) (n := 18) (by omega) (by omega) ?_
  refine va_putF (D := E.1) (ci := 1) (v := .ref q3) (ty := .array .int) (C := RX1) (T := TX1) (N := 4) hx hb hts iX1_init_X1 tyX1 tyX1_ok nmX1 hown hE.1 hP hD hS 0 rfl rfl 2 (by decide) (hts (.fieldLink RX1 18 "BandBoat$Gauge" "downs" "[I") (List.mem_of_getElem? (i := 7) rfl)) (fun _ h9 => h9) rfl hin rfl (by decide +kernel) rfl rfl (Nat.le_of_ble_eq_true rfl) dX1_init_25 (fun H locs hP hD hS => ?_)
  have hP : va_P E.1 vwCl [(h, .inr (1, [.ref q1, .ref q2, .ref q3, .int 0])), xI E q1 6 zf, xI E q2 6 zf, xI E q3 6 zf] H := hP
  have hD : va_D A [(h, .inr (1, [.ref q1, .ref q2, .ref q3, .int 0])), xI E q1 6 zf, xI E q2 6 zf, xI E q3 6 zf] := hD
  have hP9 := hP.sub (ws' := [xGauge h (adl [q1, q2, q3, 0]) zf, xI E ((adl [q1, q2, q3, 0]) 0) 6 zf, xI E ((adl [q1, q2, q3, 0]) 1) 6 zf, xI E ((adl [q1, q2, q3, 0]) 2) 6 zf]) [0, 1, 2, 3] rfl
  have hD9 := hD.sub (ws' := [xGauge h (adl [q1, q2, q3, 0]) zf, xI E ((adl [q1, q2, q3, 0]) 0) 6 zf, xI E ((adl [q1, q2, q3, 0]) 1) 6 zf, xI E ((adl [q1, q2, q3, 0]) 2) 6 zf]) [0, 1, 2, 3] (by decide) rfl
  exact hq (adl [q1, q2, q3, 0]) _ _ _ _ dX1_init_28 trivial hP9 hD9 hS
theorem iX2_init_X2 : ∀ w ∈ wsX20, w ∈ wsX2_init := fun _ h => List.mem_cons_of_mem _ (List.mem_append_right _ h)
set_option maxHeartbeats 4000000 in
set_option maxRecDepth 100000 in
theorem c_X2_init (l : Launch) (E : wV) (h : Nat) : MetC l yX2_init wsX2_init ({ frames := 1, cells := 2, slots := 8, locals := 12 } : Room) E ([.ref h] : List Value) [(h, .inr (2, [.null, .null, .int 0]))] (fun (_ : (Nat → Nat)) => True) (fun (u : (Nat → Nat)) => [xMarks h u zf, xI E (u 0) 4 zf, xI E (u 1) 4 zf]) 2 (8) := by
  refine MetC.of (cc := cX2_init) (maxL := 1) (own := RX2) (by decide) rfl rfl (Nat.le_of_ble_eq_true rfl) rfl ?_
  intro p e s m below meth c A Q ls hin cx hP hD hS hl hq
  obtain ⟨hx, hb, hml, hown, hts, hE, hA⟩ := id cx
  have hl : lv_has ls 1 [(0, .ref h)] := hl
  have hP : va_P E.1 vwCl [(h, .inr (2, [.null, .null, .int 0]))] s.heap := hP
  refine lv_aload_n hx hb dX2_init_0 rfl (lv_at hl 0 rfl) ?_
  refine W.objInit hx hb hown (hts (.methodLink RX2 3 objectInit) (List.mem_of_getElem? (i := 1) rfl)) (hts (.instanceMethod objectInit) (List.mem_of_getElem? (i := 2) rfl)) (hts (.code objectInit ⟨#[0xb1]⟩ 1 none) (List.mem_of_getElem? (i := 3) rfl)) rfl (by rw [hml]; exact hl.1) rfl dX2_init_1 (Nat.le_of_ble_eq_true rfl) (Nat.le_of_ble_eq_true rfl) ?_
  refine W.eq (g2 := F0 m 4 ls []) rfl ?_
  refine lv_aload_n hx hb dX2_init_4 rfl (lv_at hl 0 rfl) ?_
  refine lv_iconst (v := (4 : Int32)) hx hb dX2_init_5 (by decide) ?_
  refine ar_newi (N := 4) hx hb (hts (.arrayClass .int) (List.mem_of_getElem? (i := 4) rfl)) hE hP hD hS hA (by decide) rfl (by decide) (Nat.le_of_ble_eq_true rfl) (Nat.le_of_ble_eq_true rfl) dX2_init_6 (fun q1 H hP hD hS => ?_)
  have hP : va_P E.1 vwCl [(h, .inr (2, [.null, .null, .int 0])), xI E q1 4 zf] H := hP
  have hD : va_D A [(h, .inr (2, [.null, .null, .int 0])), xI E q1 4 zf] := hD
  refine W.widen (k := 1) (n := 4) (by omega) (by omega) ?_
  refine va_putF (D := E.1) (ci := 2) (v := .ref q1) (ty := .array .int) (C := RX2) (T := TX2) (N := 3) hx hb hts iX2_init_X2 tyX2 tyX2_ok nmX2 hown hE.1 hP hD hS 0 rfl rfl 0 (by decide) (hts (.fieldLink RX2 9 "BandBoat$Marks" "places" "[I") (List.mem_of_getElem? (i := 5) rfl)) (fun _ h9 => h9) rfl hin rfl (by decide +kernel) rfl rfl (Nat.le_of_ble_eq_true rfl) dX2_init_8 (fun H locs hP hD hS => ?_)
  have hP : va_P E.1 vwCl [(h, .inr (2, [.ref q1, .null, .int 0])), xI E q1 4 zf] H := hP
  have hD : va_D A [(h, .inr (2, [.ref q1, .null, .int 0])), xI E q1 4 zf] := hD
  refine lv_aload_n hx hb dX2_init_11 rfl (lv_at hl 0 rfl) ?_
  refine lv_iconst (v := (4 : Int32)) hx hb dX2_init_12 (by decide) ?_
  refine ar_newi (N := 4) hx hb (hts (.arrayClass .int) (List.mem_of_getElem? (i := 4) rfl)) hE hP hD hS hA (by decide) rfl (by decide) (Nat.le_of_ble_eq_true rfl) (Nat.le_of_ble_eq_true rfl) dX2_init_13 (fun q2 H hP hD hS => ?_)
  have hP : va_P E.1 vwCl [(h, .inr (2, [.ref q1, .null, .int 0])), xI E q1 4 zf, xI E q2 4 zf] H := hP
  have hD : va_D A [(h, .inr (2, [.ref q1, .null, .int 0])), xI E q1 4 zf, xI E q2 4 zf] := hD
  refine W.widen (k := 2) (n := 8) (by omega) (by omega) ?_
  refine va_putF (D := E.1) (ci := 2) (v := .ref q2) (ty := .array .int) (C := RX2) (T := TX2) (N := 3) hx hb hts iX2_init_X2 tyX2 tyX2_ok nmX2 hown hE.1 hP hD hS 0 rfl rfl 1 (by decide) (hts (.fieldLink RX2 15 "BandBoat$Marks" "times" "[I") (List.mem_of_getElem? (i := 6) rfl)) (fun _ h9 => h9) rfl hin rfl (by decide +kernel) rfl rfl (Nat.le_of_ble_eq_true rfl) dX2_init_15 (fun H locs hP hD hS => ?_)
  have hP : va_P E.1 vwCl [(h, .inr (2, [.ref q1, .ref q2, .int 0])), xI E q1 4 zf, xI E q2 4 zf] H := hP
  have hD : va_D A [(h, .inr (2, [.ref q1, .ref q2, .int 0])), xI E q1 4 zf, xI E q2 4 zf] := hD
  have hP9 := hP.sub (ws' := [xMarks h (adl [q1, q2, 0]) zf, xI E ((adl [q1, q2, 0]) 0) 4 zf, xI E ((adl [q1, q2, 0]) 1) 4 zf]) [0, 1, 2] rfl
  have hD9 := hD.sub (ws' := [xMarks h (adl [q1, q2, 0]) zf, xI E ((adl [q1, q2, 0]) 0) 4 zf, xI E ((adl [q1, q2, 0]) 1) 4 zf]) [0, 1, 2] (by decide) rfl
  exact hq (adl [q1, q2, 0]) _ _ _ _ dX2_init_18 trivial hP9 hD9 hS
theorem iX5_init_X5 : ∀ w ∈ wsX50, w ∈ wsX5_init := fun _ h => List.mem_cons_of_mem _ (List.mem_append_right _ h)
theorem iX5_init_X6 : ∀ w ∈ wsX60, w ∈ wsX5_init := fun _ h => List.mem_cons_of_mem _ (List.mem_append_left _ (List.mem_append_right _ h))
set_option maxHeartbeats 4000000 in
set_option maxRecDepth 100000 in
theorem c_X5_init (l : Launch) (E : wV) (h : Nat) : MetC l yX5_init wsX5_init ({ frames := 2, cells := 3, slots := 37, locals := 32 } : Room) E ([.ref h] : List Value) [(h, .inr (5, [.null, .null, .null]))] (fun (_ : (Nat → Nat)) => True) (fun (u : (Nat → Nat)) => [xReader h u, xRig (u 0) zf, xI E (u 1) 16 zf, xI E (u 2) 4 zf]) 3 (37) := by
  refine MetC.of (cc := cX5_init) (maxL := 1) (own := RX5) (by decide) rfl rfl (Nat.le_of_ble_eq_true rfl) rfl ?_
  intro p e s m below meth c A Q ls hin cx hP hD hS hl hq
  obtain ⟨hx, hb, hml, hown, hts, hE, hA⟩ := id cx
  have hl : lv_has ls 1 [(0, .ref h)] := hl
  have hP : va_P E.1 vwCl [(h, .inr (5, [.null, .null, .null]))] s.heap := hP
  refine lv_aload_n hx hb dX5_init_0 rfl (lv_at hl 0 rfl) ?_
  refine W.objInit hx hb hown (hts (.methodLink RX5 3 objectInit) (List.mem_of_getElem? (i := 1) rfl)) (hts (.instanceMethod objectInit) (List.mem_of_getElem? (i := 2) rfl)) (hts (.code objectInit ⟨#[0xb1]⟩ 1 none) (List.mem_of_getElem? (i := 3) rfl)) rfl (by rw [hml]; exact hl.1) rfl dX5_init_1 (Nat.le_of_ble_eq_true rfl) (Nat.le_of_ble_eq_true rfl) ?_
  refine W.eq (g2 := F0 m 4 ls []) rfl ?_
  refine lv_aload_n hx hb dX5_init_4 rfl (lv_at hl 0 rfl) ?_
  refine va_new (ci := 6) (fs := [.int 0, .int 0, .int 0, .int 0, .int 0, .int 0, .int 0, .int 0, .int 0, .int 0, .int 0, .int 0, .int 0, .int 0, .int 0, .int 0, .int 0]) (C := RX6) (T := TX6) (N := 17) hx hb hts iX5_init_X6 tyX6 tyX6_ok hown (hts (.classLink RX5 9 RX6) (List.mem_of_getElem? (i := 4) rfl)) (hts (.instantiable RX6 17) (List.mem_of_getElem? (i := 5) rfl)) (hts (.initialized RX6) (List.mem_of_getElem? (i := 6) rfl)) hE.1 hP hD hS hA rfl (fun j hj => by rcases (show j = 0 ∨ j = 1 ∨ j = 2 ∨ j = 3 ∨ j = 4 ∨ j = 5 ∨ j = 6 ∨ j = 7 ∨ j = 8 ∨ j = 9 ∨ j = 10 ∨ j = 11 ∨ j = 12 ∨ j = 13 ∨ j = 14 ∨ j = 15 ∨ j = 16 by omega) with rfl | rfl | rfl | rfl | rfl | rfl | rfl | rfl | rfl | rfl | rfl | rfl | rfl | rfl | rfl | rfl | rfl <;> rfl) (Nat.le_of_ble_eq_true rfl) (Nat.le_of_ble_eq_true rfl) dX5_init_5 (fun q1 H hP hD hS => ?_)
  have hP : va_P E.1 vwCl [(h, .inr (5, [.null, .null, .null])), xRig q1 zf] H := hP
  have hD : va_D A [(h, .inr (5, [.null, .null, .null])), xRig q1 zf] := hD
  refine W.widen (k := 1) (n := 17) (by omega) (by omega) ?_
  refine lv_dup hx hb dX5_init_8 rfl ?_
  refine kC (wc := [xRig q1 zf]) (wr := [(h, .inr (5, [.null, .null, .null]))]) (wc' := fun (_ : Unit) => [xRig q1 zf]) (wn := fun (_ : Unit) => [(h, .inr (5, [.null, .null, .null])), xRig q1 zf]) (isC := [1]) (isR := [0]) (is2 := [0, 1]) cx hP hD hS ⟨rfl, rfl, by decide, by decide, by decide, by decide, fun _ => rfl⟩ (rIN (As := []) (rest := [.ref q1, .ref h]) cx (c_X6_init l E q1 _) (va_cnB 0 hts gX5_init_X6_init_n11 rfl rfl rfl (hE.nw 66 rfl) (hts (.initialized RX6) (List.mem_of_getElem? (i := 6) rfl)) (by decide +kernel) ⟨Nat.le_of_ble_eq_true rfl, Nat.le_of_ble_eq_true rfl⟩) rfl (hts (.instanceMethod yX6_init) (List.mem_of_getElem? (i := 11) rfl)) rfl hl.1 rfl (Nat.le_of_ble_eq_true rfl) dX5_init_9 ⟨Nat.le_of_ble_eq_true rfl, Nat.le_of_ble_eq_true rfl⟩) (fun u9 H locs hw hP hD hS => ?_)
  have hP : va_P E.1 vwCl [(h, .inr (5, [.null, .null, .null])), xRig q1 zf] H := hP
  have hD : va_D A [(h, .inr (5, [.null, .null, .null])), xRig q1 zf] := hD
  refine W.widen (k := 1) (n := 17) (by omega) (by omega) ?_
  refine va_putF (D := E.1) (ci := 5) (v := .ref q1) (ty := .object "BandBoat$Rig") (C := RX5) (T := TX5) (N := 3) hx hb hts iX5_init_X5 tyX5 tyX5_ok nmX5 hown hE.1 hP hD hS 0 rfl rfl 0 (by decide) (hts (.fieldLink RX5 12 "BandBoat$Reader" "rig" "LBandBoat$Rig;") (List.mem_of_getElem? (i := 7) rfl)) (fun _ h9 => h9) rfl hin rfl (by decide +kernel) rfl rfl (Nat.le_of_ble_eq_true rfl) dX5_init_12 (fun H locs hP hD hS => ?_)
  have hP : va_P E.1 vwCl [(h, .inr (5, [.ref q1, .null, .null])), xRig q1 zf] H := hP
  have hD : va_D A [(h, .inr (5, [.ref q1, .null, .null])), xRig q1 zf] := hD
  refine lv_aload_n hx hb dX5_init_15 rfl (lv_at hl 0 rfl) ?_
  refine lv_bipush (v := (16 : Int32)) hx hb dX5_init_16 (by decide) ?_
  refine ar_newi (N := 16) hx hb (hts (.arrayClass .int) (List.mem_of_getElem? (i := 8) rfl)) hE hP hD hS hA (by decide) rfl (by decide) (Nat.le_of_ble_eq_true rfl) (Nat.le_of_ble_eq_true rfl) dX5_init_18 (fun q2 H hP hD hS => ?_)
  have hP : va_P E.1 vwCl [(h, .inr (5, [.ref q1, .null, .null])), xRig q1 zf, xI E q2 16 zf] H := hP
  have hD : va_D A [(h, .inr (5, [.ref q1, .null, .null])), xRig q1 zf, xI E q2 16 zf] := hD
  refine W.widen (k := 2) (n := 33) (by omega) (by omega) ?_
  refine va_putF (D := E.1) (ci := 5) (v := .ref q2) (ty := .array .int) (C := RX5) (T := TX5) (N := 3) hx hb hts iX5_init_X5 tyX5 tyX5_ok nmX5 hown hE.1 hP hD hS 0 rfl rfl 1 (by decide) (hts (.fieldLink RX5 18 "BandBoat$Reader" "stuffNumbers" "[I") (List.mem_of_getElem? (i := 9) rfl)) (fun _ h9 => h9) rfl hin rfl (by decide +kernel) rfl rfl (Nat.le_of_ble_eq_true rfl) dX5_init_20 (fun H locs hP hD hS => ?_)
  have hP : va_P E.1 vwCl [(h, .inr (5, [.ref q1, .ref q2, .null])), xRig q1 zf, xI E q2 16 zf] H := hP
  have hD : va_D A [(h, .inr (5, [.ref q1, .ref q2, .null])), xRig q1 zf, xI E q2 16 zf] := hD
  refine lv_aload_n hx hb dX5_init_23 rfl (lv_at hl 0 rfl) ?_
  refine lv_iconst (v := (4 : Int32)) hx hb dX5_init_24 (by decide) ?_
  refine ar_newi (N := 4) hx hb (hts (.arrayClass .int) (List.mem_of_getElem? (i := 8) rfl)) hE hP hD hS hA (by decide) rfl (by decide) (Nat.le_of_ble_eq_true rfl) (Nat.le_of_ble_eq_true rfl) dX5_init_25 (fun q3 H hP hD hS => ?_)
  have hP : va_P E.1 vwCl [(h, .inr (5, [.ref q1, .ref q2, .null])), xRig q1 zf, xI E q2 16 zf, xI E q3 4 zf] H := hP
  have hD : va_D A [(h, .inr (5, [.ref q1, .ref q2, .null])), xRig q1 zf, xI E q2 16 zf, xI E q3 4 zf] := hD
  refine W.widen (k := 3) (n := 37) (by omega) (by omega) ?_
  refine va_putF (D := E.1) (ci := 5) (v := .ref q3) (ty := .array .int) (C := RX5) (T := TX5) (N := 3) hx hb hts iX5_init_X5 tyX5 tyX5_ok nmX5 hown hE.1 hP hD hS 0 rfl rfl 2 (by decide) (hts (.fieldLink RX5 22 "BandBoat$Reader" "numbers" "[I") (List.mem_of_getElem? (i := 10) rfl)) (fun _ h9 => h9) rfl hin rfl (by decide +kernel) rfl rfl (Nat.le_of_ble_eq_true rfl) dX5_init_27 (fun H locs hP hD hS => ?_)
  have hP : va_P E.1 vwCl [(h, .inr (5, [.ref q1, .ref q2, .ref q3])), xRig q1 zf, xI E q2 16 zf, xI E q3 4 zf] H := hP
  have hD : va_D A [(h, .inr (5, [.ref q1, .ref q2, .ref q3])), xRig q1 zf, xI E q2 16 zf, xI E q3 4 zf] := hD
  have hP9 := hP.sub (ws' := [xReader h (adl [q1, q2, q3]), xRig ((adl [q1, q2, q3]) 0) zf, xI E ((adl [q1, q2, q3]) 1) 16 zf, xI E ((adl [q1, q2, q3]) 2) 4 zf]) [0, 1, 2, 3] rfl
  have hD9 := hD.sub (ws' := [xReader h (adl [q1, q2, q3]), xRig ((adl [q1, q2, q3]) 0) zf, xI E ((adl [q1, q2, q3]) 1) 16 zf, xI E ((adl [q1, q2, q3]) 2) 4 zf]) [0, 1, 2, 3] (by decide) rfl
  exact hq (adl [q1, q2, q3]) _ _ _ _ dX5_init_30 trivial hP9 hD9 hS
theorem iX8_init_X0 : ∀ w ∈ wsX00, w ∈ wsX8_init := fun _ h => List.mem_cons_of_mem _ (List.mem_append_right _ h)
theorem iX8_init_X4 : ∀ w ∈ wsX40, w ∈ wsX8_init := fun _ h => List.mem_cons_of_mem _ (List.mem_append_left _ (List.mem_append_left _ (List.mem_append_right _ h)))
theorem iX8_init_X8 : ∀ w ∈ wsX80, w ∈ wsX8_init := fun _ h => List.mem_cons_of_mem _ (List.mem_append_left _ (List.mem_append_right _ h))
set_option maxHeartbeats 4000000 in
set_option maxRecDepth 100000 in
theorem c_X8_init (l : Launch) (E : wV) (h : Nat) : MetC l yX8_init wsX8_init ({ frames := 2, cells := 3, slots := 615, locals := 32 } : Room) E ([.ref h] : List Value) [(h, .inr (8, [.null, .null, .null, .int 0, .int 0, .int 0]))] (fun (_ : (Nat → Nat)) => True) (fun (u : (Nat → Nat)) => [xTrial h u zf, xMotion (u 0) zf, xBand (u 1) zf, xI E (u 2) 601 zf]) 3 (615) := by
  refine MetC.of (cc := cX8_init) (maxL := 1) (own := RX8) (by decide) rfl rfl (Nat.le_of_ble_eq_true rfl) rfl ?_
  intro p e s m below meth c A Q ls hin cx hP hD hS hl hq
  obtain ⟨hx, hb, hml, hown, hts, hE, hA⟩ := id cx
  have hl : lv_has ls 1 [(0, .ref h)] := hl
  have hP : va_P E.1 vwCl [(h, .inr (8, [.null, .null, .null, .int 0, .int 0, .int 0]))] s.heap := hP
  refine lv_aload_n hx hb dX8_init_0 rfl (lv_at hl 0 rfl) ?_
  refine W.objInit hx hb hown (hts (.methodLink RX8 3 objectInit) (List.mem_of_getElem? (i := 1) rfl)) (hts (.instanceMethod objectInit) (List.mem_of_getElem? (i := 2) rfl)) (hts (.code objectInit ⟨#[0xb1]⟩ 1 none) (List.mem_of_getElem? (i := 3) rfl)) rfl (by rw [hml]; exact hl.1) rfl dX8_init_1 (Nat.le_of_ble_eq_true rfl) (Nat.le_of_ble_eq_true rfl) ?_
  refine W.eq (g2 := F0 m 4 ls []) rfl ?_
  refine lv_aload_n hx hb dX8_init_4 rfl (lv_at hl 0 rfl) ?_
  refine va_new (ci := 4) (fs := [.int 0, .int 0, .int 0, .int 0, .int 0, .int 0, .int 0]) (C := RX4) (T := TX4) (N := 7) hx hb hts iX8_init_X4 tyX4 tyX4_ok hown (hts (.classLink RX8 9 RX4) (List.mem_of_getElem? (i := 4) rfl)) (hts (.instantiable RX4 7) (List.mem_of_getElem? (i := 5) rfl)) (hts (.initialized RX4) (List.mem_of_getElem? (i := 6) rfl)) hE.1 hP hD hS hA rfl (fun j hj => by rcases (show j = 0 ∨ j = 1 ∨ j = 2 ∨ j = 3 ∨ j = 4 ∨ j = 5 ∨ j = 6 by omega) with rfl | rfl | rfl | rfl | rfl | rfl | rfl <;> rfl) (Nat.le_of_ble_eq_true rfl) (Nat.le_of_ble_eq_true rfl) dX8_init_5 (fun q1 H hP hD hS => ?_)
  have hP : va_P E.1 vwCl [(h, .inr (8, [.null, .null, .null, .int 0, .int 0, .int 0])), xMotion q1 zf] H := hP
  have hD : va_D A [(h, .inr (8, [.null, .null, .null, .int 0, .int 0, .int 0])), xMotion q1 zf] := hD
  refine W.widen (k := 1) (n := 7) (by omega) (by omega) ?_
  refine lv_dup hx hb dX8_init_8 rfl ?_
  refine kC (wc := [xMotion q1 zf]) (wr := [(h, .inr (8, [.null, .null, .null, .int 0, .int 0, .int 0]))]) (wc' := fun (_ : Unit) => [xMotion q1 zf]) (wn := fun (_ : Unit) => [(h, .inr (8, [.null, .null, .null, .int 0, .int 0, .int 0])), xMotion q1 zf]) (isC := [1]) (isR := [0]) (is2 := [0, 1]) cx hP hD hS ⟨rfl, rfl, by decide, by decide, by decide, by decide, fun _ => rfl⟩ (rIN (As := []) (rest := [.ref q1, .ref h]) cx (c_X4_init l E q1 _) (va_cnB 0 hts gX8_init_X4_init_n11 rfl rfl rfl (hE.nw 70 rfl) (hts (.initialized RX4) (List.mem_of_getElem? (i := 6) rfl)) (by decide +kernel) ⟨Nat.le_of_ble_eq_true rfl, Nat.le_of_ble_eq_true rfl⟩) rfl (hts (.instanceMethod yX4_init) (List.mem_of_getElem? (i := 14) rfl)) rfl hl.1 rfl (Nat.le_of_ble_eq_true rfl) dX8_init_9 ⟨Nat.le_of_ble_eq_true rfl, Nat.le_of_ble_eq_true rfl⟩) (fun u9 H locs hw hP hD hS => ?_)
  have hP : va_P E.1 vwCl [(h, .inr (8, [.null, .null, .null, .int 0, .int 0, .int 0])), xMotion q1 zf] H := hP
  have hD : va_D A [(h, .inr (8, [.null, .null, .null, .int 0, .int 0, .int 0])), xMotion q1 zf] := hD
  refine W.widen (k := 1) (n := 7) (by omega) (by omega) ?_
  refine va_putF (D := E.1) (ci := 8) (v := .ref q1) (ty := .object "BandBoat$Motion") (C := RX8) (T := TX8) (N := 6) hx hb hts iX8_init_X8 tyX8 tyX8_ok nmX8 hown hE.1 hP hD hS 0 rfl rfl 0 (by decide) (hts (.fieldLink RX8 12 "BandBoat$Trial" "motion" "LBandBoat$Motion;") (List.mem_of_getElem? (i := 7) rfl)) (fun _ h9 => h9) rfl hin rfl (by decide +kernel) rfl rfl (Nat.le_of_ble_eq_true rfl) dX8_init_12 (fun H locs hP hD hS => ?_)
  have hP : va_P E.1 vwCl [(h, .inr (8, [.ref q1, .null, .null, .int 0, .int 0, .int 0])), xMotion q1 zf] H := hP
  have hD : va_D A [(h, .inr (8, [.ref q1, .null, .null, .int 0, .int 0, .int 0])), xMotion q1 zf] := hD
  refine lv_aload_n hx hb dX8_init_15 rfl (lv_at hl 0 rfl) ?_
  refine va_new (ci := 0) (fs := [.int 0, .int 0, .int 0, .int 0, .int 0, .int 0, .int 0]) (C := RX0) (T := TX0) (N := 7) hx hb hts iX8_init_X0 tyX0 tyX0_ok hown (hts (.classLink RX8 18 RX0) (List.mem_of_getElem? (i := 8) rfl)) (hts (.instantiable RX0 7) (List.mem_of_getElem? (i := 9) rfl)) (hts (.initialized RX0) (List.mem_of_getElem? (i := 10) rfl)) hE.1 hP hD hS hA rfl (fun j hj => by rcases (show j = 0 ∨ j = 1 ∨ j = 2 ∨ j = 3 ∨ j = 4 ∨ j = 5 ∨ j = 6 by omega) with rfl | rfl | rfl | rfl | rfl | rfl | rfl <;> rfl) (Nat.le_of_ble_eq_true rfl) (Nat.le_of_ble_eq_true rfl) dX8_init_16 (fun q2 H hP hD hS => ?_)
  have hP : va_P E.1 vwCl [(h, .inr (8, [.ref q1, .null, .null, .int 0, .int 0, .int 0])), xMotion q1 zf, xBand q2 zf] H := hP
  have hD : va_D A [(h, .inr (8, [.ref q1, .null, .null, .int 0, .int 0, .int 0])), xMotion q1 zf, xBand q2 zf] := hD
  refine W.widen (k := 2) (n := 14) (by omega) (by omega) ?_
  refine lv_dup hx hb dX8_init_19 rfl ?_
  refine kC (wc := [xBand q2 zf]) (wr := [(h, .inr (8, [.ref q1, .null, .null, .int 0, .int 0, .int 0])), xMotion q1 zf]) (wc' := fun (_ : Unit) => [xBand q2 zf]) (wn := fun (_ : Unit) => [(h, .inr (8, [.ref q1, .null, .null, .int 0, .int 0, .int 0])), xMotion q1 zf, xBand q2 zf]) (isC := [2]) (isR := [0, 1]) (is2 := [0, 1, 2]) cx hP hD hS ⟨rfl, rfl, by decide, by decide, by decide, by decide, fun _ => rfl⟩ (rIN (As := []) (rest := [.ref q2, .ref h]) cx (c_X0_init l E q2 _) (va_cnB 0 hts gX8_init_X0_init_n20 rfl rfl rfl (hE.nw 71 rfl) (hts (.initialized RX0) (List.mem_of_getElem? (i := 10) rfl)) (by decide +kernel) ⟨Nat.le_of_ble_eq_true rfl, Nat.le_of_ble_eq_true rfl⟩) rfl (hts (.instanceMethod yX0_init) (List.mem_of_getElem? (i := 17) rfl)) rfl hl.1 rfl (Nat.le_of_ble_eq_true rfl) dX8_init_20 ⟨Nat.le_of_ble_eq_true rfl, Nat.le_of_ble_eq_true rfl⟩) (fun u20 H locs hw hP hD hS => ?_)
  have hP : va_P E.1 vwCl [(h, .inr (8, [.ref q1, .null, .null, .int 0, .int 0, .int 0])), xMotion q1 zf, xBand q2 zf] H := hP
  have hD : va_D A [(h, .inr (8, [.ref q1, .null, .null, .int 0, .int 0, .int 0])), xMotion q1 zf, xBand q2 zf] := hD
  refine W.widen (k := 2) (n := 14) (by omega) (by omega) ?_
  refine va_putF (D := E.1) (ci := 8) (v := .ref q2) (ty := .object "BandBoat$Band") (C := RX8) (T := TX8) (N := 6) hx hb hts iX8_init_X8 tyX8 tyX8_ok nmX8 hown hE.1 hP hD hS 0 rfl rfl 1 (by decide) (hts (.fieldLink RX8 21 "BandBoat$Trial" "band" "LBandBoat$Band;") (List.mem_of_getElem? (i := 11) rfl)) (fun _ h9 => h9) rfl hin rfl (by decide +kernel) rfl rfl (Nat.le_of_ble_eq_true rfl) dX8_init_23 (fun H locs hP hD hS => ?_)
  have hP : va_P E.1 vwCl [(h, .inr (8, [.ref q1, .ref q2, .null, .int 0, .int 0, .int 0])), xMotion q1 zf, xBand q2 zf] H := hP
  have hD : va_D A [(h, .inr (8, [.ref q1, .ref q2, .null, .int 0, .int 0, .int 0])), xMotion q1 zf, xBand q2 zf] := hD
  refine lv_aload_n hx hb dX8_init_26 rfl (lv_at hl 0 rfl) ?_
  refine lv_sipush (v := (601 : Int32)) hx hb dX8_init_27 (by decide) ?_
  refine ar_newi (N := 601) hx hb (hts (.arrayClass .int) (List.mem_of_getElem? (i := 12) rfl)) hE hP hD hS hA (by decide) rfl (by decide) (Nat.le_of_ble_eq_true rfl) (Nat.le_of_ble_eq_true rfl) dX8_init_30 (fun q3 H hP hD hS => ?_)
  have hP : va_P E.1 vwCl [(h, .inr (8, [.ref q1, .ref q2, .null, .int 0, .int 0, .int 0])), xMotion q1 zf, xBand q2 zf, xI E q3 601 zf] H := hP
  have hD : va_D A [(h, .inr (8, [.ref q1, .ref q2, .null, .int 0, .int 0, .int 0])), xMotion q1 zf, xBand q2 zf, xI E q3 601 zf] := hD
  refine W.widen (k := 3) (n := 615) (by omega) (by omega) ?_
  refine va_putF (D := E.1) (ci := 8) (v := .ref q3) (ty := .array .int) (C := RX8) (T := TX8) (N := 6) hx hb hts iX8_init_X8 tyX8 tyX8_ok nmX8 hown hE.1 hP hD hS 0 rfl rfl 2 (by decide) (hts (.fieldLink RX8 25 "BandBoat$Trial" "path" "[I") (List.mem_of_getElem? (i := 13) rfl)) (fun _ h9 => h9) rfl hin rfl (by decide +kernel) rfl rfl (Nat.le_of_ble_eq_true rfl) dX8_init_32 (fun H locs hP hD hS => ?_)
  have hP : va_P E.1 vwCl [(h, .inr (8, [.ref q1, .ref q2, .ref q3, .int 0, .int 0, .int 0])), xMotion q1 zf, xBand q2 zf, xI E q3 601 zf] H := hP
  have hD : va_D A [(h, .inr (8, [.ref q1, .ref q2, .ref q3, .int 0, .int 0, .int 0])), xMotion q1 zf, xBand q2 zf, xI E q3 601 zf] := hD
  have hP9 := hP.sub (ws' := [xTrial h (adl [q1, q2, q3, 0, 0, 0]) zf, xMotion ((adl [q1, q2, q3, 0, 0, 0]) 0) zf, xBand ((adl [q1, q2, q3, 0, 0, 0]) 1) zf, xI E ((adl [q1, q2, q3, 0, 0, 0]) 2) 601 zf]) [0, 1, 2, 3] rfl
  have hD9 := hD.sub (ws' := [xTrial h (adl [q1, q2, q3, 0, 0, 0]) zf, xMotion ((adl [q1, q2, q3, 0, 0, 0]) 0) zf, xBand ((adl [q1, q2, q3, 0, 0, 0]) 1) zf, xI E ((adl [q1, q2, q3, 0, 0, 0]) 2) 601 zf]) [0, 1, 2, 3] (by decide) rfl
  exact hq (adl [q1, q2, q3, 0, 0, 0]) _ _ _ _ dX8_init_35 trivial hP9 hD9 hS
