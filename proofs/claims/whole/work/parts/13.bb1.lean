theorem isT {n : Int32} (c : ¬ F_X9_isTurns n = 0) : 0 ≤ n.toInt ∧ n.toInt ≤ 400 := by
  unfold F_X9_isTurns at c
  exact w_lo c rfl rfl
theorem isT' {n : Int32} (c : ¬ F_X9_isTurns n = 0) : n.toInt < 2147483647 := by have := isT c; omega
def F_X9_write_k18 (r2 : Int32) (v3 : Int32) (g4 : Nat → Int32) : Int32 × Int32 × (Nat → Int32) := (if r2 = (0 : Int32) then ((-3 : Int32), v3, g4) else (v3, v3, g4))
def F_X9_write (sc : Nat → Int32) (sc_bytes : Nat → Int32) (n : Int32) (v : Int64) : Int32 × Int32 × (Nat → Int32) := (if (F_X9_within n (1 : Int32) (8 : Int32)) = (0 : Int32) then ((-1 : Int32), (sc 1), sc_bytes) else (match F_X7_append sc sc_bytes n v with | (r2, v3, g4) => F_X9_write_k18 r2 v3 g4))
theorem iX9_write_X7 : ∀ w ∈ wsX70, w ∈ wsX9_write := fun _ h => List.mem_cons_of_mem _ (List.mem_append_right _ h)
theorem iX9_write_X9 : ∀ w ∈ wsX90, w ∈ wsX9_write := fun _ h => List.mem_cons_of_mem _ (List.mem_append_left _ (List.mem_append_right _ h))
set_option maxHeartbeats 4000000 in
set_option maxRecDepth 100000 in
theorem c_X9_write (l : Launch) (E : wV) (h_bb : Nat) (a_bb : Nat → Nat) (a_sc : Nat → Nat) (bb : Nat → Int32) (sc : Nat → Int32) (sc_bytes : Nat → Int32) (n : Int32) (v : Int64) : MetI l yX9_write wsX9_write ({ frames := 1, cells := 0, slots := 0, locals := 24 } : Room) E ([.ref h_bb, .int n, .long v] : List Value) [xBandBoat h_bb a_bb bb, xScript (a_bb 0) a_sc sc, xB E (a_sc 0) 300 sc_bytes] (fun (r : Int32) (u : Int32 × (Nat → Int32)) => F_X9_write sc sc_bytes n v = (r, u)) (fun (u : Int32 × (Nat → Int32)) => [xBandBoat h_bb a_bb bb, xScript (a_bb 0) a_sc (upd sc 1 u.1), xB E (a_sc 0) 300 u.2]) := by
  refine MetI.of (cc := cX9_write) (maxL := 4) (own := RX9) (by decide) rfl rfl (Nat.le_of_ble_eq_true rfl) ?_
  intro p e s m below meth c A Q ls cx hP hD hS hl hq
  obtain ⟨hx, hb, hml, hown, hts, hE, hA⟩ := id cx
  have hl : lv_has ls 4 [(0, .ref h_bb), (1, .int n), (2, .long v)] := hl
  have hP : va_P E.1 vwCl [xBandBoat h_bb a_bb bb, xScript (a_bb 0) a_sc sc, xB E (a_sc 0) 300 sc_bytes] s.heap := hP
  obtain ⟨ρ, hρ0⟩ : ∃ ρ, F_X9_write sc sc_bytes n v = ρ := ⟨_, rfl⟩
  have hρ := hρ0.symm
  unfold F_X9_write at hρ
  refine lv_iload_n hx hb dX9_write_0 rfl (lv_at hl 1 rfl) ?_
  refine lv_iconst (v := (1 : Int32)) hx hb dX9_write_1 (by decide) ?_
  refine lv_bipush (v := (8 : Int32)) hx hb dX9_write_2 (by decide) ?_
  refine kI (wc := []) (wr := [xBandBoat h_bb a_bb bb, xScript (a_bb 0) a_sc sc, xB E (a_sc 0) 300 sc_bytes]) (wc' := (fun (_ : Unit) => [])) (wn := (fun (_ : Unit) => [xBandBoat h_bb a_bb bb, xScript (a_bb 0) a_sc sc, xB E (a_sc 0) 300 sc_bytes])) (isC := []) (isR := [0, 1, 2]) (is2 := [0, 1, 2]) cx hP hD hS ⟨rfl, rfl, by decide, by decide, by decide, by decide, fun _ => rfl⟩ (rS (As := [.int n, .int (1 : Int32), .int (8 : Int32)]) (rest := []) cx (c_X9_within l E n (1 : Int32) (8 : Int32) _) (va_cwS 3 hts gX9_write_X9_within rfl rfl rfl (by decide +kernel) ⟨Nat.le_of_ble_eq_true rfl, Nat.le_of_ble_eq_true rfl⟩) rfl hl.1 rfl (Nat.le_of_ble_eq_true rfl) dX9_write_4 ⟨Nat.zero_le _, Nat.zero_le _⟩) (fun r1 u H locs hw hP hD hS => ?_)
  subst hw
  refine lv_if_ne (tgt := 12) hx hb dX9_write_7 (by decide) (fun c7 => ?_) (fun c7 => ?_)
  · rw [if_neg c7] at hρ
    refine lv_aload_n hx hb dX9_write_12 rfl (lv_at hl 0 rfl) ?_
    refine va_get (D := E.1) (ci := 9) (v := .ref (a_bb 0)) (C := RX9) (T := TX9) (N := 18) hx hb hts iX9_write_X9 hown hE.1 hP 0 rfl rfl 0 (by decide) (hts (.fieldLink RX9 10 "BandBoat" "script" "LBandBoat$Script;") (List.mem_of_getElem? (i := 1) rfl)) (fun _ h9 => h9) rfl dX9_write_13 ?_
    refine lv_iload_n hx hb dX9_write_16 rfl (lv_at hl 1 rfl) ?_
    refine lv_lload_n hx hb dX9_write_17 rfl (lv_at hl 2 rfl) ?_
    refine kI (wc := [xScript (a_bb 0) a_sc sc, xB E (a_sc 0) 300 sc_bytes]) (wr := [xBandBoat h_bb a_bb bb]) (wc' := (fun (u : Int32 × (Nat → Int32)) => [xScript (a_bb 0) a_sc (upd sc 1 u.1), xB E (a_sc 0) 300 u.2])) (wn := (fun (u : Int32 × (Nat → Int32)) => [xBandBoat h_bb a_bb bb, xScript (a_bb 0) a_sc (upd sc 1 u.1), xB E (a_sc 0) 300 u.2])) (isC := [1, 2]) (isR := [0]) (is2 := [0, 1, 2]) cx hP hD hS ⟨rfl, rfl, by decide, by decide, by decide, by decide, fun _ => rfl⟩ (rVN (As := [.int n, .long v]) (rest := []) (C := RX7) (q0 := 0) (ci := 7) cx (c_X7_append l E (a_bb 0) a_sc sc sc_bytes n v _) (va_cnB 2 hts gX9_write_X7_append_n108 rfl rfl rfl (hE.nw 79 rfl) (hts (.initialized RX7) (List.mem_of_getElem? (i := 7) rfl)) (by decide +kernel) ⟨Nat.le_of_ble_eq_true rfl, Nat.le_of_ble_eq_true rfl⟩) (hts (.instanceMethod yX7_append) (List.mem_of_getElem? (i := 6) rfl)) (hts (.selects RX7 yX7_append yX7_append) (List.mem_of_getElem? (i := 8) rfl)) rfl rfl rfl rfl hl.1 rfl (Nat.le_of_ble_eq_true rfl) dX9_write_18 ⟨Nat.zero_le _, Nat.zero_le _⟩) (fun r2 u H locs hw hP hD hS => ?_)
    obtain ⟨v3, g4⟩ := u
    have hP : va_P E.1 vwCl [xBandBoat h_bb a_bb bb, xScript (a_bb 0) a_sc (upd sc 1 v3), xB E (a_sc 0) 300 g4] H := hP
    have hD : va_D A [xBandBoat h_bb a_bb bb, xScript (a_bb 0) a_sc (upd sc 1 v3), xB E (a_sc 0) 300 g4] := hD
    have hw : F_X7_append sc sc_bytes n v = (r2, v3, g4) := hw
    rw [hw] at hρ
    have hρ : ρ = F_X9_write_k18 r2 v3 g4 := hρ
    unfold F_X9_write_k18 at hρ
    refine lv_if_eq (tgt := 34) hx hb dX9_write_21 (by decide) (fun c21 => ?_) (fun c21 => ?_)
    · rw [if_pos c21] at hρ
      refine lv_bipush (v := (-3 : Int32)) hx hb dX9_write_34 (by decide) ?_
      exact hq (-3 : Int32) (v3, g4) _ _ _ _ dX9_write_36 rfl (hρ0.trans hρ) hP hD hS
    · rw [if_neg c21] at hρ
      refine lv_aload_n hx hb dX9_write_24 rfl (lv_at hl 0 rfl) ?_
      refine va_get (D := E.1) (ci := 9) (v := .ref (a_bb 0)) (C := RX9) (T := TX9) (N := 18) hx hb hts iX9_write_X9 hown hE.1 hP 0 rfl rfl 0 (by decide) (hts (.fieldLink RX9 10 "BandBoat" "script" "LBandBoat$Script;") (List.mem_of_getElem? (i := 1) rfl)) (fun _ h9 => h9) rfl dX9_write_25 ?_
      refine va_getN (D := E.1) (ci := 7) (v := .int v3) (C := RX7) (T := TX7) (N := 2) hx hb hts iX9_write_X7 hown hE.1 hP 1 rfl rfl 1 (by decide) (hE.n 1 rfl) (fun _ h9 => h9) rfl dX9_write_28 ?_
      refine lv_goto (tgt := 36) hx hb dX9_write_31 (by decide) ?_
      exact hq v3 (v3, g4) _ _ _ _ dX9_write_36 rfl (hρ0.trans hρ) hP hD hS
  · rw [if_pos c7] at hρ
    refine lv_iconst (v := (-1 : Int32)) hx hb dX9_write_10 (by decide) ?_
    exact hq (-1 : Int32) ((sc 1), sc_bytes) _ _ _ _ dX9_write_11 rfl (hρ0.trans hρ) hP hD hS
def F_X9_wipe (sc : Nat → Int32) : Int32 × Int32 := ((sc 1), (0 : Int32))
theorem iX9_wipe_X7 : ∀ w ∈ wsX70, w ∈ wsX9_wipe := fun _ h => List.mem_cons_of_mem _ (List.mem_append_right _ h)
theorem iX9_wipe_X9 : ∀ w ∈ wsX90, w ∈ wsX9_wipe := fun _ h => List.mem_cons_of_mem _ (List.mem_append_left _ (List.mem_append_right _ h))
set_option maxHeartbeats 4000000 in
set_option maxRecDepth 100000 in
theorem c_X9_wipe (l : Launch) (E : wV) (h_bb : Nat) (a_bb : Nat → Nat) (a_sc : Nat → Nat) (bb : Nat → Int32) (sc : Nat → Int32) : MetI l yX9_wipe wsX9_wipe ({ frames := 0, cells := 0, slots := 0, locals := 0 } : Room) E ([.ref h_bb] : List Value) [xBandBoat h_bb a_bb bb, xScript (a_bb 0) a_sc sc] (fun (r : Int32) (u : Int32) => F_X9_wipe sc = (r, u)) (fun (u : Int32) => [xBandBoat h_bb a_bb bb, xScript (a_bb 0) a_sc (upd sc 1 u)]) := by
  refine MetI.of (cc := cX9_wipe) (maxL := 2) (own := RX9) (by decide) rfl rfl (Nat.le_of_ble_eq_true rfl) ?_
  intro p e s m below meth c A Q ls cx hP hD hS hl hq
  obtain ⟨hx, hb, hml, hown, hts, hE, hA⟩ := id cx
  have hl : lv_has ls 2 [(0, .ref h_bb)] := hl
  have hP : va_P E.1 vwCl [xBandBoat h_bb a_bb bb, xScript (a_bb 0) a_sc sc] s.heap := hP
  obtain ⟨ρ, hρ0⟩ : ∃ ρ, F_X9_wipe sc = ρ := ⟨_, rfl⟩
  have hρ := hρ0.symm
  unfold F_X9_wipe at hρ
  refine lv_aload_n hx hb dX9_wipe_0 rfl (lv_at hl 0 rfl) ?_
  refine va_get (D := E.1) (ci := 9) (v := .ref (a_bb 0)) (C := RX9) (T := TX9) (N := 18) hx hb hts iX9_wipe_X9 hown hE.1 hP 0 rfl rfl 0 (by decide) (hts (.fieldLink RX9 10 "BandBoat" "script" "LBandBoat$Script;") (List.mem_of_getElem? (i := 1) rfl)) (fun _ h9 => h9) rfl dX9_wipe_1 ?_
  refine va_getN (D := E.1) (ci := 7) (v := .int (sc 1)) (C := RX7) (T := TX7) (N := 2) hx hb hts iX9_wipe_X7 hown hE.1 hP 1 rfl rfl 1 (by decide) (hE.n 1 rfl) (fun _ h9 => h9) rfl dX9_wipe_4 ?_
  refine lv_istore_n (lv' := [(1, .int (sc 1)), (0, .ref h_bb)]) hx hb dX9_wipe_7 rfl hl (by decide) rfl (fun ls hl => ?_)
  refine lv_aload_n hx hb dX9_wipe_8 rfl (lv_at hl 1 rfl) ?_
  refine va_get (D := E.1) (ci := 9) (v := .ref (a_bb 0)) (C := RX9) (T := TX9) (N := 18) hx hb hts iX9_wipe_X9 hown hE.1 hP 0 rfl rfl 0 (by decide) (hts (.fieldLink RX9 10 "BandBoat" "script" "LBandBoat$Script;") (List.mem_of_getElem? (i := 1) rfl)) (fun _ h9 => h9) rfl dX9_wipe_9 ?_
  refine lv_iconst (v := (0 : Int32)) hx hb dX9_wipe_12 (by decide) ?_
  refine va_putN (D := E.1) (ci := 7) (v := .int (0 : Int32)) (ty := .int) (C := RX7) (T := TX7) (N := 2) hx hb hts iX9_wipe_X7 tyX7 tyX7_ok nmX7 hown hE.1 hP hD hS 1 rfl rfl 1 (by decide) (hE.n 1 rfl) (fun _ h9 => h9) rfl (by decide +kernel) rfl rfl (Nat.le_of_ble_eq_true rfl) dX9_wipe_13 (fun H locs hP hD hS => ?_)
  have hP : va_P E.1 vwCl [xBandBoat h_bb a_bb bb, xScript (a_bb 0) a_sc (upd sc 1 (0 : Int32))] H := hP
  have hD : va_D A [xBandBoat h_bb a_bb bb, xScript (a_bb 0) a_sc (upd sc 1 (0 : Int32))] := hD
  refine lv_iload_n hx hb dX9_wipe_16 rfl (lv_at hl 0 rfl) ?_
  exact hq (sc 1) (0 : Int32) _ _ _ _ dX9_wipe_17 rfl (hρ0.trans hρ) hP hD hS
def F_X9_fault_k8 (r1 : Int32) (g2 : Nat → Int32) (g3 : Nat → Int32) (g4 : Nat → Int32) : Int32 × (Nat → Int32) × (Nat → Int32) × (Nat → Int32) := (r1, g2, g3, g4)
def F_X9_fault (re_rig : Nat → Int32) (re_stuffNumbers : Nat → Int32) (re_numbers : Nat → Int32) (sc : Nat → Int32) (sc_bytes : Nat → Int32) : Int32 × (Nat → Int32) × (Nat → Int32) × (Nat → Int32) := (match F_X5_readAll re_rig re_stuffNumbers re_numbers sc sc_bytes with | (r1, g2, g3, g4) => F_X9_fault_k8 r1 g2 g3 g4)
theorem iX9_fault_X9 : ∀ w ∈ wsX90, w ∈ wsX9_fault := fun _ h => List.mem_cons_of_mem _ (List.mem_append_left _ (List.mem_append_left _ (List.mem_append_left _ (List.mem_append_right _ h))))
set_option maxHeartbeats 4000000 in
set_option maxRecDepth 100000 in
theorem c_X9_fault (l : Launch) (E : wV) (h_bb : Nat) (a_bb : Nat → Nat) (a_re : Nat → Nat) (a_sc : Nat → Nat) (bb : Nat → Int32) (re_rig : Nat → Int32) (re_stuffNumbers : Nat → Int32) (re_numbers : Nat → Int32) (sc : Nat → Int32) (sc_bytes : Nat → Int32) : MetI l yX9_fault wsX9_fault ({ frames := 5, cells := 0, slots := 0, locals := 133 } : Room) E ([.ref h_bb] : List Value) [xBandBoat h_bb a_bb bb, xReader (a_bb 1) a_re, xRig (a_re 0) re_rig, xI E (a_re 1) 16 re_stuffNumbers, xI E (a_re 2) 4 re_numbers, xScript (a_bb 0) a_sc sc, xB E (a_sc 0) 300 sc_bytes] (fun (r : Int32) (u : (Nat → Int32) × (Nat → Int32) × (Nat → Int32)) => F_X9_fault re_rig re_stuffNumbers re_numbers sc sc_bytes = (r, u)) (fun (u : (Nat → Int32) × (Nat → Int32) × (Nat → Int32)) => [xBandBoat h_bb a_bb bb, xReader (a_bb 1) a_re, xRig (a_re 0) u.1, xI E (a_re 1) 16 u.2.1, xI E (a_re 2) 4 u.2.2, xScript (a_bb 0) a_sc sc, xB E (a_sc 0) 300 sc_bytes]) := by
  refine MetI.of (cc := cX9_fault) (maxL := 1) (own := RX9) (by decide) rfl rfl (Nat.le_of_ble_eq_true rfl) ?_
  intro p e s m below meth c A Q ls cx hP hD hS hl hq
  obtain ⟨hx, hb, hml, hown, hts, hE, hA⟩ := id cx
  have hl : lv_has ls 1 [(0, .ref h_bb)] := hl
  have hP : va_P E.1 vwCl [xBandBoat h_bb a_bb bb, xReader (a_bb 1) a_re, xRig (a_re 0) re_rig, xI E (a_re 1) 16 re_stuffNumbers, xI E (a_re 2) 4 re_numbers, xScript (a_bb 0) a_sc sc, xB E (a_sc 0) 300 sc_bytes] s.heap := hP
  obtain ⟨ρ, hρ0⟩ : ∃ ρ, F_X9_fault re_rig re_stuffNumbers re_numbers sc sc_bytes = ρ := ⟨_, rfl⟩
  have hρ := hρ0.symm
  unfold F_X9_fault at hρ
  refine lv_aload_n hx hb dX9_fault_0 rfl (lv_at hl 0 rfl) ?_
  refine va_get (D := E.1) (ci := 9) (v := .ref (a_bb 1)) (C := RX9) (T := TX9) (N := 18) hx hb hts iX9_fault_X9 hown hE.1 hP 0 rfl rfl 1 (by decide) (hts (.fieldLink RX9 19 "BandBoat" "reader" "LBandBoat$Reader;") (List.mem_of_getElem? (i := 1) rfl)) (fun _ h9 => h9) rfl dX9_fault_1 ?_
  refine lv_aload_n hx hb dX9_fault_4 rfl (lv_at hl 0 rfl) ?_
  refine va_get (D := E.1) (ci := 9) (v := .ref (a_bb 0)) (C := RX9) (T := TX9) (N := 18) hx hb hts iX9_fault_X9 hown hE.1 hP 0 rfl rfl 0 (by decide) (hts (.fieldLink RX9 10 "BandBoat" "script" "LBandBoat$Script;") (List.mem_of_getElem? (i := 2) rfl)) (fun _ h9 => h9) rfl dX9_fault_5 ?_
  refine kI (wc := [xReader (a_bb 1) a_re, xRig (a_re 0) re_rig, xI E (a_re 1) 16 re_stuffNumbers, xI E (a_re 2) 4 re_numbers, xScript (a_bb 0) a_sc sc, xB E (a_sc 0) 300 sc_bytes]) (wr := [xBandBoat h_bb a_bb bb]) (wc' := (fun (u : (Nat → Int32) × (Nat → Int32) × (Nat → Int32)) => [xReader (a_bb 1) a_re, xRig (a_re 0) u.1, xI E (a_re 1) 16 u.2.1, xI E (a_re 2) 4 u.2.2, xScript (a_bb 0) a_sc sc, xB E (a_sc 0) 300 sc_bytes])) (wn := (fun (u : (Nat → Int32) × (Nat → Int32) × (Nat → Int32)) => [xBandBoat h_bb a_bb bb, xReader (a_bb 1) a_re, xRig (a_re 0) u.1, xI E (a_re 1) 16 u.2.1, xI E (a_re 2) 4 u.2.2, xScript (a_bb 0) a_sc sc, xB E (a_sc 0) 300 sc_bytes])) (isC := [1, 2, 3, 4, 5, 6]) (isR := [0]) (is2 := [0, 1, 2, 3, 4, 5, 6]) cx hP hD hS ⟨rfl, rfl, by decide, by decide, by decide, by decide, fun _ => rfl⟩ (rVN (As := [.ref (a_bb 0)]) (rest := []) (C := RX5) (q0 := 0) (ci := 5) cx (c_X5_readAll l E (a_bb 1) (a_bb 0) a_re a_sc re_rig re_stuffNumbers re_numbers sc sc_bytes _) (va_cnB 1 hts gX9_fault_X5_readAll_n116 rfl rfl rfl (hE.nw 80 rfl) (hts (.initialized RX5) (List.mem_of_getElem? (i := 4) rfl)) (by decide +kernel) ⟨Nat.le_of_ble_eq_true rfl, Nat.le_of_ble_eq_true rfl⟩) (hts (.instanceMethod yX5_readAll) (List.mem_of_getElem? (i := 3) rfl)) (hts (.selects RX5 yX5_readAll yX5_readAll) (List.mem_of_getElem? (i := 5) rfl)) rfl rfl rfl rfl hl.1 rfl (Nat.le_of_ble_eq_true rfl) dX9_fault_8 ⟨Nat.zero_le _, Nat.zero_le _⟩) (fun r1 u H locs hw hP hD hS => ?_)
  obtain ⟨hw, hn8⟩ := hw
  obtain ⟨g2, g3, g4⟩ := u
  have hn8 : ((g2 1)) = 0 ∨ ((g2 1)) = 1 := hn8
  have hP : va_P E.1 vwCl [xBandBoat h_bb a_bb bb, xReader (a_bb 1) a_re, xRig (a_re 0) g2, xI E (a_re 1) 16 g3, xI E (a_re 2) 4 g4, xScript (a_bb 0) a_sc sc, xB E (a_sc 0) 300 sc_bytes] H := hP
  have hD : va_D A [xBandBoat h_bb a_bb bb, xReader (a_bb 1) a_re, xRig (a_re 0) g2, xI E (a_re 1) 16 g3, xI E (a_re 2) 4 g4, xScript (a_bb 0) a_sc sc, xB E (a_sc 0) 300 sc_bytes] := hD
  have hw : F_X5_readAll re_rig re_stuffNumbers re_numbers sc sc_bytes = (r1, g2, g3, g4) := hw
  rw [hw] at hρ
  have hρ : ρ = F_X9_fault_k8 r1 g2 g3 g4 := hρ
  unfold F_X9_fault_k8 at hρ
  exact hq r1 (g2, g3, g4) _ _ _ _ dX9_fault_11 rfl (hρ0.trans hρ) hP hD hS
def F_X9_dropMemos_k37 (v1 : Int32) (v2 : Int32) (v3 : Int32) (v4 : Int32) (v5 : Int32) : Int32 × Int32 × Int32 × Int32 × Int32 × Int32 := ((0 : Int32), v1, v2, v3, v4, v5)
def F_X9_dropMemos_k30 (v1 : Int32) (v2 : Int32) (v3 : Int32) (v4 : Int32) : Int32 × Int32 × Int32 × Int32 × Int32 × Int32 := F_X9_dropMemos_k37 v1 v2 v3 v4 (F_X3_drop)
def F_X9_dropMemos_k23 (v1 : Int32) (v2 : Int32) (v3 : Int32) : Int32 × Int32 × Int32 × Int32 × Int32 × Int32 := F_X9_dropMemos_k30 v1 v2 v3 (F_X3_drop)
def F_X9_dropMemos_k16 (v1 : Int32) (v2 : Int32) : Int32 × Int32 × Int32 × Int32 × Int32 × Int32 := F_X9_dropMemos_k23 v1 v2 (F_X3_drop)
def F_X9_dropMemos_k9 (v1 : Int32) : Int32 × Int32 × Int32 × Int32 × Int32 × Int32 := F_X9_dropMemos_k16 v1 (F_X3_drop)
def F_X9_dropMemos  : Int32 × Int32 × Int32 × Int32 × Int32 × Int32 := F_X9_dropMemos_k9 (F_X3_drop)
theorem iX9_dropMemos_X9 : ∀ w ∈ wsX90, w ∈ wsX9_dropMemos := fun _ h => List.mem_cons_of_mem _ (List.mem_append_left _ (List.mem_append_right _ h))
set_option maxHeartbeats 4000000 in
set_option maxRecDepth 100000 in
theorem c_X9_dropMemos (l : Launch) (E : wV) (h_bb : Nat) (a_bb : Nat → Nat) (a_bm : Nat → Nat) (a_sm : Nat → Nat) (a_st : Nat → Nat) (a_fm : Nat → Nat) (a_tm : Nat → Nat) (bb : Nat → Int32) (bm : Nat → Int32) (sm : Nat → Int32) (st : Nat → Int32) (fm : Nat → Int32) (tm : Nat → Int32) : MetV l yX9_dropMemos wsX9_dropMemos ({ frames := 1, cells := 0, slots := 0, locals := 20 } : Room) E ([.ref h_bb] : List Value) [xBandBoat h_bb a_bb bb, xMemo (a_bb 13) a_bm bm, xMemo (a_bb 14) a_sm sm, xMemo (a_bb 15) a_st st, xMemo (a_bb 16) a_fm fm, xMemo (a_bb 17) a_tm tm] (fun (u : Int32 × Int32 × Int32 × Int32 × Int32 × Int32) => F_X9_dropMemos = u) (fun (u : Int32 × Int32 × Int32 × Int32 × Int32 × Int32) => [xBandBoat h_bb a_bb (upd bb 12 u.1), xMemo (a_bb 13) a_bm (upd bm 1 u.2.1), xMemo (a_bb 14) a_sm (upd sm 1 u.2.2.1), xMemo (a_bb 15) a_st (upd st 1 u.2.2.2.1), xMemo (a_bb 16) a_fm (upd fm 1 u.2.2.2.2.1), xMemo (a_bb 17) a_tm (upd tm 1 u.2.2.2.2.2)]) := by
  refine MetV.of (cc := cX9_dropMemos) (maxL := 1) (own := RX9) (by decide) rfl rfl (Nat.le_of_ble_eq_true rfl) ?_
  intro p e s m below meth c A Q ls cx hP hD hS hl hq
  obtain ⟨hx, hb, hml, hown, hts, hE, hA⟩ := id cx
  have hl : lv_has ls 1 [(0, .ref h_bb)] := hl
  have hP : va_P E.1 vwCl [xBandBoat h_bb a_bb bb, xMemo (a_bb 13) a_bm bm, xMemo (a_bb 14) a_sm sm, xMemo (a_bb 15) a_st st, xMemo (a_bb 16) a_fm fm, xMemo (a_bb 17) a_tm tm] s.heap := hP
  obtain ⟨ρ, hρ0⟩ : ∃ ρ, F_X9_dropMemos = ρ := ⟨_, rfl⟩
  have hρ := hρ0.symm
  unfold F_X9_dropMemos at hρ
  refine lv_aload_n hx hb dX9_dropMemos_0 rfl (lv_at hl 0 rfl) ?_
  refine lv_iconst (v := (0 : Int32)) hx hb dX9_dropMemos_1 (by decide) ?_
  refine va_put (D := E.1) (ci := 9) (v := .int (0 : Int32)) (ty := .boolean) (C := RX9) (T := TX9) (N := 18) hx hb hts iX9_dropMemos_X9 tyX9 tyX9_ok nmX9 hown hE.1 hP hD hS 0 rfl rfl 12 (by decide) (hts (.fieldLink RX9 254 "BandBoat" "calmPlacesKnown" "Z") (List.mem_of_getElem? (i := 1) rfl)) (fun _ h9 => h9) rfl (by decide +kernel) rfl rfl (Nat.le_of_ble_eq_true rfl) dX9_dropMemos_2 (fun H locs hP hD hS => ?_)
  have hP : va_P E.1 vwCl [xBandBoat h_bb a_bb (upd bb 12 (0 : Int32)), xMemo (a_bb 13) a_bm bm, xMemo (a_bb 14) a_sm sm, xMemo (a_bb 15) a_st st, xMemo (a_bb 16) a_fm fm, xMemo (a_bb 17) a_tm tm] H := hP
  have hD : va_D A [xBandBoat h_bb a_bb (upd bb 12 (0 : Int32)), xMemo (a_bb 13) a_bm bm, xMemo (a_bb 14) a_sm sm, xMemo (a_bb 15) a_st st, xMemo (a_bb 16) a_fm fm, xMemo (a_bb 17) a_tm tm] := hD
  refine lv_aload_n hx hb dX9_dropMemos_5 rfl (lv_at hl 0 rfl) ?_
  refine va_get (D := E.1) (ci := 9) (v := .ref (a_bb 13)) (C := RX9) (T := TX9) (N := 18) hx hb hts iX9_dropMemos_X9 hown hE.1 hP 0 rfl rfl 13 (by decide) (hts (.fieldLink RX9 81 "BandBoat" "bestMemo" "LBandBoat$Memo;") (List.mem_of_getElem? (i := 2) rfl)) (fun _ h9 => h9) rfl dX9_dropMemos_6 ?_
  refine kV (wc := [xMemo (a_bb 13) a_bm bm]) (wr := [xBandBoat h_bb a_bb (upd bb 12 (0 : Int32)), xMemo (a_bb 14) a_sm sm, xMemo (a_bb 15) a_st st, xMemo (a_bb 16) a_fm fm, xMemo (a_bb 17) a_tm tm]) (wc' := (fun (u : Int32) => [xMemo (a_bb 13) a_bm (upd bm 1 u)])) (wn := (fun (u : Int32) => [xBandBoat h_bb a_bb (upd bb 12 (0 : Int32)), xMemo (a_bb 13) a_bm (upd bm 1 u), xMemo (a_bb 14) a_sm sm, xMemo (a_bb 15) a_st st, xMemo (a_bb 16) a_fm fm, xMemo (a_bb 17) a_tm tm])) (isC := [1]) (isR := [0, 2, 3, 4, 5]) (is2 := [0, 5, 1, 2, 3, 4]) cx hP hD hS ⟨rfl, rfl, by decide, by decide, by decide, by decide, fun _ => rfl⟩ (rVN (As := []) (rest := []) (C := RX3) (q0 := 0) (ci := 3) cx (c_X3_drop l E (a_bb 13) a_bm bm _) (va_cnB 0 hts gX9_dropMemos_X3_drop_n220 rfl rfl rfl (hE.nw 86 rfl) (hts (.initialized RX3) (List.mem_of_getElem? (i := 8) rfl)) (by decide +kernel) ⟨Nat.le_of_ble_eq_true rfl, Nat.le_of_ble_eq_true rfl⟩) (hts (.instanceMethod yX3_drop) (List.mem_of_getElem? (i := 7) rfl)) (hts (.selects RX3 yX3_drop yX3_drop) (List.mem_of_getElem? (i := 9) rfl)) rfl rfl rfl rfl hl.1 rfl (Nat.le_of_ble_eq_true rfl) dX9_dropMemos_9 ⟨Nat.zero_le _, Nat.zero_le _⟩) (fun u H locs hw hP hD hS => ?_)
  obtain ⟨v1, rfl⟩ : ∃ z, z = u := ⟨_, rfl⟩
  have hP : va_P E.1 vwCl [xBandBoat h_bb a_bb (upd bb 12 (0 : Int32)), xMemo (a_bb 13) a_bm (upd bm 1 v1), xMemo (a_bb 14) a_sm sm, xMemo (a_bb 15) a_st st, xMemo (a_bb 16) a_fm fm, xMemo (a_bb 17) a_tm tm] H := hP
  have hD : va_D A [xBandBoat h_bb a_bb (upd bb 12 (0 : Int32)), xMemo (a_bb 13) a_bm (upd bm 1 v1), xMemo (a_bb 14) a_sm sm, xMemo (a_bb 15) a_st st, xMemo (a_bb 16) a_fm fm, xMemo (a_bb 17) a_tm tm] := hD
  have hw : F_X3_drop = v1 := hw
  rw [hw] at hρ
  have hρ : ρ = F_X9_dropMemos_k9 v1 := hρ
  unfold F_X9_dropMemos_k9 at hρ
  refine lv_aload_n hx hb dX9_dropMemos_12 rfl (lv_at hl 0 rfl) ?_
  refine va_get (D := E.1) (ci := 9) (v := .ref (a_bb 14)) (C := RX9) (T := TX9) (N := 18) hx hb hts iX9_dropMemos_X9 hown hE.1 hP 0 rfl rfl 14 (by decide) (hts (.fieldLink RX9 85 "BandBoat" "spanMemo" "LBandBoat$Memo;") (List.mem_of_getElem? (i := 3) rfl)) (fun _ h9 => h9) rfl dX9_dropMemos_13 ?_
  refine kV (wc := [xMemo (a_bb 14) a_sm sm]) (wr := [xBandBoat h_bb a_bb (upd bb 12 (0 : Int32)), xMemo (a_bb 13) a_bm (upd bm 1 v1), xMemo (a_bb 15) a_st st, xMemo (a_bb 16) a_fm fm, xMemo (a_bb 17) a_tm tm]) (wc' := (fun (u : Int32) => [xMemo (a_bb 14) a_sm (upd sm 1 u)])) (wn := (fun (u : Int32) => [xBandBoat h_bb a_bb (upd bb 12 (0 : Int32)), xMemo (a_bb 13) a_bm (upd bm 1 v1), xMemo (a_bb 14) a_sm (upd sm 1 u), xMemo (a_bb 15) a_st st, xMemo (a_bb 16) a_fm fm, xMemo (a_bb 17) a_tm tm])) (isC := [2]) (isR := [0, 1, 3, 4, 5]) (is2 := [0, 1, 5, 2, 3, 4]) cx hP hD hS ⟨rfl, rfl, by decide, by decide, by decide, by decide, fun _ => rfl⟩ (rVN (As := []) (rest := []) (C := RX3) (q0 := 0) (ci := 3) cx (c_X3_drop l E (a_bb 14) a_sm sm _) (va_cnB 0 hts gX9_dropMemos_X3_drop_n220 rfl rfl rfl (hE.nw 86 rfl) (hts (.initialized RX3) (List.mem_of_getElem? (i := 8) rfl)) (by decide +kernel) ⟨Nat.le_of_ble_eq_true rfl, Nat.le_of_ble_eq_true rfl⟩) (hts (.instanceMethod yX3_drop) (List.mem_of_getElem? (i := 7) rfl)) (hts (.selects RX3 yX3_drop yX3_drop) (List.mem_of_getElem? (i := 9) rfl)) rfl rfl rfl rfl hl.1 rfl (Nat.le_of_ble_eq_true rfl) dX9_dropMemos_16 ⟨Nat.zero_le _, Nat.zero_le _⟩) (fun u H locs hw hP hD hS => ?_)
  obtain ⟨v2, rfl⟩ : ∃ z, z = u := ⟨_, rfl⟩
  have hP : va_P E.1 vwCl [xBandBoat h_bb a_bb (upd bb 12 (0 : Int32)), xMemo (a_bb 13) a_bm (upd bm 1 v1), xMemo (a_bb 14) a_sm (upd sm 1 v2), xMemo (a_bb 15) a_st st, xMemo (a_bb 16) a_fm fm, xMemo (a_bb 17) a_tm tm] H := hP
  have hD : va_D A [xBandBoat h_bb a_bb (upd bb 12 (0 : Int32)), xMemo (a_bb 13) a_bm (upd bm 1 v1), xMemo (a_bb 14) a_sm (upd sm 1 v2), xMemo (a_bb 15) a_st st, xMemo (a_bb 16) a_fm fm, xMemo (a_bb 17) a_tm tm] := hD
  have hw : F_X3_drop = v2 := hw
  rw [hw] at hρ
  have hρ : ρ = F_X9_dropMemos_k16 v1 v2 := hρ
  unfold F_X9_dropMemos_k16 at hρ
  refine lv_aload_n hx hb dX9_dropMemos_19 rfl (lv_at hl 0 rfl) ?_
  refine va_get (D := E.1) (ci := 9) (v := .ref (a_bb 15)) (C := RX9) (T := TX9) (N := 18) hx hb hts iX9_dropMemos_X9 hown hE.1 hP 0 rfl rfl 15 (by decide) (hts (.fieldLink RX9 88 "BandBoat" "straightMemo" "LBandBoat$Memo;") (List.mem_of_getElem? (i := 4) rfl)) (fun _ h9 => h9) rfl dX9_dropMemos_20 ?_
  refine kV (wc := [xMemo (a_bb 15) a_st st]) (wr := [xBandBoat h_bb a_bb (upd bb 12 (0 : Int32)), xMemo (a_bb 13) a_bm (upd bm 1 v1), xMemo (a_bb 14) a_sm (upd sm 1 v2), xMemo (a_bb 16) a_fm fm, xMemo (a_bb 17) a_tm tm]) (wc' := (fun (u : Int32) => [xMemo (a_bb 15) a_st (upd st 1 u)])) (wn := (fun (u : Int32) => [xBandBoat h_bb a_bb (upd bb 12 (0 : Int32)), xMemo (a_bb 13) a_bm (upd bm 1 v1), xMemo (a_bb 14) a_sm (upd sm 1 v2), xMemo (a_bb 15) a_st (upd st 1 u), xMemo (a_bb 16) a_fm fm, xMemo (a_bb 17) a_tm tm])) (isC := [3]) (isR := [0, 1, 2, 4, 5]) (is2 := [0, 1, 2, 5, 3, 4]) cx hP hD hS ⟨rfl, rfl, by decide, by decide, by decide, by decide, fun _ => rfl⟩ (rVN (As := []) (rest := []) (C := RX3) (q0 := 0) (ci := 3) cx (c_X3_drop l E (a_bb 15) a_st st _) (va_cnB 0 hts gX9_dropMemos_X3_drop_n220 rfl rfl rfl (hE.nw 86 rfl) (hts (.initialized RX3) (List.mem_of_getElem? (i := 8) rfl)) (by decide +kernel) ⟨Nat.le_of_ble_eq_true rfl, Nat.le_of_ble_eq_true rfl⟩) (hts (.instanceMethod yX3_drop) (List.mem_of_getElem? (i := 7) rfl)) (hts (.selects RX3 yX3_drop yX3_drop) (List.mem_of_getElem? (i := 9) rfl)) rfl rfl rfl rfl hl.1 rfl (Nat.le_of_ble_eq_true rfl) dX9_dropMemos_23 ⟨Nat.zero_le _, Nat.zero_le _⟩) (fun u H locs hw hP hD hS => ?_)
  obtain ⟨v3, rfl⟩ : ∃ z, z = u := ⟨_, rfl⟩
  have hP : va_P E.1 vwCl [xBandBoat h_bb a_bb (upd bb 12 (0 : Int32)), xMemo (a_bb 13) a_bm (upd bm 1 v1), xMemo (a_bb 14) a_sm (upd sm 1 v2), xMemo (a_bb 15) a_st (upd st 1 v3), xMemo (a_bb 16) a_fm fm, xMemo (a_bb 17) a_tm tm] H := hP
  have hD : va_D A [xBandBoat h_bb a_bb (upd bb 12 (0 : Int32)), xMemo (a_bb 13) a_bm (upd bm 1 v1), xMemo (a_bb 14) a_sm (upd sm 1 v2), xMemo (a_bb 15) a_st (upd st 1 v3), xMemo (a_bb 16) a_fm fm, xMemo (a_bb 17) a_tm tm] := hD
  have hw : F_X3_drop = v3 := hw
  rw [hw] at hρ
  have hρ : ρ = F_X9_dropMemos_k23 v1 v2 v3 := hρ
  unfold F_X9_dropMemos_k23 at hρ
  refine lv_aload_n hx hb dX9_dropMemos_26 rfl (lv_at hl 0 rfl) ?_
  refine va_get (D := E.1) (ci := 9) (v := .ref (a_bb 16)) (C := RX9) (T := TX9) (N := 18) hx hb hts iX9_dropMemos_X9 hown hE.1 hP 0 rfl rfl 16 (by decide) (hts (.fieldLink RX9 91 "BandBoat" "fitsMemo" "LBandBoat$Memo;") (List.mem_of_getElem? (i := 5) rfl)) (fun _ h9 => h9) rfl dX9_dropMemos_27 ?_
  refine kV (wc := [xMemo (a_bb 16) a_fm fm]) (wr := [xBandBoat h_bb a_bb (upd bb 12 (0 : Int32)), xMemo (a_bb 13) a_bm (upd bm 1 v1), xMemo (a_bb 14) a_sm (upd sm 1 v2), xMemo (a_bb 15) a_st (upd st 1 v3), xMemo (a_bb 17) a_tm tm]) (wc' := (fun (u : Int32) => [xMemo (a_bb 16) a_fm (upd fm 1 u)])) (wn := (fun (u : Int32) => [xBandBoat h_bb a_bb (upd bb 12 (0 : Int32)), xMemo (a_bb 13) a_bm (upd bm 1 v1), xMemo (a_bb 14) a_sm (upd sm 1 v2), xMemo (a_bb 15) a_st (upd st 1 v3), xMemo (a_bb 16) a_fm (upd fm 1 u), xMemo (a_bb 17) a_tm tm])) (isC := [4]) (isR := [0, 1, 2, 3, 5]) (is2 := [0, 1, 2, 3, 5, 4]) cx hP hD hS ⟨rfl, rfl, by decide, by decide, by decide, by decide, fun _ => rfl⟩ (rVN (As := []) (rest := []) (C := RX3) (q0 := 0) (ci := 3) cx (c_X3_drop l E (a_bb 16) a_fm fm _) (va_cnB 0 hts gX9_dropMemos_X3_drop_n220 rfl rfl rfl (hE.nw 86 rfl) (hts (.initialized RX3) (List.mem_of_getElem? (i := 8) rfl)) (by decide +kernel) ⟨Nat.le_of_ble_eq_true rfl, Nat.le_of_ble_eq_true rfl⟩) (hts (.instanceMethod yX3_drop) (List.mem_of_getElem? (i := 7) rfl)) (hts (.selects RX3 yX3_drop yX3_drop) (List.mem_of_getElem? (i := 9) rfl)) rfl rfl rfl rfl hl.1 rfl (Nat.le_of_ble_eq_true rfl) dX9_dropMemos_30 ⟨Nat.zero_le _, Nat.zero_le _⟩) (fun u H locs hw hP hD hS => ?_)
  obtain ⟨v4, rfl⟩ : ∃ z, z = u := ⟨_, rfl⟩
  have hP : va_P E.1 vwCl [xBandBoat h_bb a_bb (upd bb 12 (0 : Int32)), xMemo (a_bb 13) a_bm (upd bm 1 v1), xMemo (a_bb 14) a_sm (upd sm 1 v2), xMemo (a_bb 15) a_st (upd st 1 v3), xMemo (a_bb 16) a_fm (upd fm 1 v4), xMemo (a_bb 17) a_tm tm] H := hP
  have hD : va_D A [xBandBoat h_bb a_bb (upd bb 12 (0 : Int32)), xMemo (a_bb 13) a_bm (upd bm 1 v1), xMemo (a_bb 14) a_sm (upd sm 1 v2), xMemo (a_bb 15) a_st (upd st 1 v3), xMemo (a_bb 16) a_fm (upd fm 1 v4), xMemo (a_bb 17) a_tm tm] := hD
  have hw : F_X3_drop = v4 := hw
  rw [hw] at hρ
  have hρ : ρ = F_X9_dropMemos_k30 v1 v2 v3 v4 := hρ
  unfold F_X9_dropMemos_k30 at hρ
  refine lv_aload_n hx hb dX9_dropMemos_33 rfl (lv_at hl 0 rfl) ?_
  refine va_get (D := E.1) (ci := 9) (v := .ref (a_bb 17)) (C := RX9) (T := TX9) (N := 18) hx hb hts iX9_dropMemos_X9 hown hE.1 hP 0 rfl rfl 17 (by decide) (hts (.fieldLink RX9 94 "BandBoat" "toldMemo" "LBandBoat$Memo;") (List.mem_of_getElem? (i := 6) rfl)) (fun _ h9 => h9) rfl dX9_dropMemos_34 ?_
  refine kV (wc := [xMemo (a_bb 17) a_tm tm]) (wr := [xBandBoat h_bb a_bb (upd bb 12 (0 : Int32)), xMemo (a_bb 13) a_bm (upd bm 1 v1), xMemo (a_bb 14) a_sm (upd sm 1 v2), xMemo (a_bb 15) a_st (upd st 1 v3), xMemo (a_bb 16) a_fm (upd fm 1 v4)]) (wc' := (fun (u : Int32) => [xMemo (a_bb 17) a_tm (upd tm 1 u)])) (wn := (fun (u : Int32) => [xBandBoat h_bb a_bb (upd bb 12 (0 : Int32)), xMemo (a_bb 13) a_bm (upd bm 1 v1), xMemo (a_bb 14) a_sm (upd sm 1 v2), xMemo (a_bb 15) a_st (upd st 1 v3), xMemo (a_bb 16) a_fm (upd fm 1 v4), xMemo (a_bb 17) a_tm (upd tm 1 u)])) (isC := [5]) (isR := [0, 1, 2, 3, 4]) (is2 := [0, 1, 2, 3, 4, 5]) cx hP hD hS ⟨rfl, rfl, by decide, by decide, by decide, by decide, fun _ => rfl⟩ (rVN (As := []) (rest := []) (C := RX3) (q0 := 0) (ci := 3) cx (c_X3_drop l E (a_bb 17) a_tm tm _) (va_cnB 0 hts gX9_dropMemos_X3_drop_n220 rfl rfl rfl (hE.nw 86 rfl) (hts (.initialized RX3) (List.mem_of_getElem? (i := 8) rfl)) (by decide +kernel) ⟨Nat.le_of_ble_eq_true rfl, Nat.le_of_ble_eq_true rfl⟩) (hts (.instanceMethod yX3_drop) (List.mem_of_getElem? (i := 7) rfl)) (hts (.selects RX3 yX3_drop yX3_drop) (List.mem_of_getElem? (i := 9) rfl)) rfl rfl rfl rfl hl.1 rfl (Nat.le_of_ble_eq_true rfl) dX9_dropMemos_37 ⟨Nat.zero_le _, Nat.zero_le _⟩) (fun u H locs hw hP hD hS => ?_)
  obtain ⟨v5, rfl⟩ : ∃ z, z = u := ⟨_, rfl⟩
  have hP : va_P E.1 vwCl [xBandBoat h_bb a_bb (upd bb 12 (0 : Int32)), xMemo (a_bb 13) a_bm (upd bm 1 v1), xMemo (a_bb 14) a_sm (upd sm 1 v2), xMemo (a_bb 15) a_st (upd st 1 v3), xMemo (a_bb 16) a_fm (upd fm 1 v4), xMemo (a_bb 17) a_tm (upd tm 1 v5)] H := hP
  have hD : va_D A [xBandBoat h_bb a_bb (upd bb 12 (0 : Int32)), xMemo (a_bb 13) a_bm (upd bm 1 v1), xMemo (a_bb 14) a_sm (upd sm 1 v2), xMemo (a_bb 15) a_st (upd st 1 v3), xMemo (a_bb 16) a_fm (upd fm 1 v4), xMemo (a_bb 17) a_tm (upd tm 1 v5)] := hD
  have hw : F_X3_drop = v5 := hw
  rw [hw] at hρ
  have hρ : ρ = F_X9_dropMemos_k37 v1 v2 v3 v4 v5 := hρ
  unfold F_X9_dropMemos_k37 at hρ
  exact hq ((0 : Int32), v1, v2, v3, v4, v5) _ _ _ _ dX9_dropMemos_40 (hρ0.trans hρ) hP hD hS
def F_X9_lay_k86 (g2 : Nat → Int32) (g3 : Nat → Int32) (g4 : Nat → Int32) (g5 : Nat → Int32) (g6 : Nat → Int32) (g7 : Nat → Int32) (v8 : Int32) (v9 : Int32) (v10 : Int32) (v11 : Int32) (v12 : Int32) (v13 : Int32) : Int32 × Int32 × Int32 × (Nat → Int32) × (Nat → Int32) × (Nat → Int32) × (Nat → Int32) × (Nat → Int32) × (Nat → Int32) × Int32 × Int32 × Int32 × Int32 × Int32 × Int32 × Int32 := ((g5 0), (0 : Int32), v8, g2, g3, g4, g5, g6, g7, (0 : Int32), (0 : Int32), v9, v10, v11, v12, v13)
def F_X9_lay_k61 (g2 : Nat → Int32) (g3 : Nat → Int32) (g4 : Nat → Int32) (g5 : Nat → Int32) (g6 : Nat → Int32) (g7 : Nat → Int32) : Int32 × Int32 × Int32 × (Nat → Int32) × (Nat → Int32) × (Nat → Int32) × (Nat → Int32) × (Nat → Int32) × (Nat → Int32) × Int32 × Int32 × Int32 × Int32 × Int32 × Int32 × Int32 := (match F_X9_dropMemos with | (v8, v9, v10, v11, v12, v13) => F_X9_lay_k86 g2 g3 g4 g5 g6 g7 v8 v9 v10 v11 v12 v13)
def F_X9_lay_k54 (bo : Nat → Int32) (g2 : Nat → Int32) (g3 : Nat → Int32) (g4 : Nat → Int32) (g5 : Nat → Int32) (g6 : Nat → Int32) : Int32 × Int32 × Int32 × (Nat → Int32) × (Nat → Int32) × (Nat → Int32) × (Nat → Int32) × (Nat → Int32) × (Nat → Int32) × Int32 × Int32 × Int32 × Int32 × Int32 × Int32 × Int32 := F_X9_lay_k61 g2 g3 g4 g5 g6 (F_X4_rest bo)
def F_X9_lay_k43 (bd : Nat → Int32) (bo : Nat → Int32) (g2 : Nat → Int32) (g3 : Nat → Int32) (g4 : Nat → Int32) (g5 : Nat → Int32) : Int32 × Int32 × Int32 × (Nat → Int32) × (Nat → Int32) × (Nat → Int32) × (Nat → Int32) × (Nat → Int32) × (Nat → Int32) × Int32 × Int32 × Int32 × Int32 × Int32 × Int32 × Int32 := F_X9_lay_k54 bo g2 g3 g4 g5 (F_X0_fit bd g5)
def F_X9_lay_k8 (bb : Nat → Int32) (la : Nat → Int32) (bd : Nat → Int32) (bo : Nat → Int32) (ga : Nat → Int32) (mk : Nat → Int32) (bm : Nat → Int32) (sm : Nat → Int32) (st : Nat → Int32) (fm : Nat → Int32) (tm : Nat → Int32) (r1 : Int32) (g2 : Nat → Int32) (g3 : Nat → Int32) (g4 : Nat → Int32) : Int32 × Int32 × Int32 × (Nat → Int32) × (Nat → Int32) × (Nat → Int32) × (Nat → Int32) × (Nat → Int32) × (Nat → Int32) × Int32 × Int32 × Int32 × Int32 × Int32 × Int32 × Int32 := (if r1 = (-4 : Int32) then (if (g2 1) = (0 : Int32) then ((-2 : Int32), (bb 10), (bb 12), g2, g3, g4, la, bd, bo, (ga 3), (mk 2), (bm 1), (sm 1), (st 1), (fm 1), (tm 1)) else F_X9_lay_k43 bd bo g2 g3 g4 (F_X6_copy la g2)) else ((-2 : Int32), (bb 10), (bb 12), g2, g3, g4, la, bd, bo, (ga 3), (mk 2), (bm 1), (sm 1), (st 1), (fm 1), (tm 1)))
def F_X9_lay (bb : Nat → Int32) (sc : Nat → Int32) (sc_bytes : Nat → Int32) (re_rig : Nat → Int32) (re_stuffNumbers : Nat → Int32) (re_numbers : Nat → Int32) (la : Nat → Int32) (bd : Nat → Int32) (bo : Nat → Int32) (ga : Nat → Int32) (mk : Nat → Int32) (bm : Nat → Int32) (sm : Nat → Int32) (st : Nat → Int32) (fm : Nat → Int32) (tm : Nat → Int32) : Int32 × Int32 × Int32 × (Nat → Int32) × (Nat → Int32) × (Nat → Int32) × (Nat → Int32) × (Nat → Int32) × (Nat → Int32) × Int32 × Int32 × Int32 × Int32 × Int32 × Int32 × Int32 := (match F_X5_readAll re_rig re_stuffNumbers re_numbers sc sc_bytes with | (r1, g2, g3, g4) => F_X9_lay_k8 bb la bd bo ga mk bm sm st fm tm r1 g2 g3 g4)
theorem iX9_lay_X1 : ∀ w ∈ wsX10, w ∈ wsX9_lay := fun _ h => List.mem_cons_of_mem _ (List.mem_append_left _ (List.mem_append_left _ (List.mem_append_left _ (List.mem_append_left _ (List.mem_append_left _ (List.mem_append_right _ h))))))
theorem iX9_lay_X2 : ∀ w ∈ wsX20, w ∈ wsX9_lay := fun _ h => List.mem_cons_of_mem _ (List.mem_append_left _ (List.mem_append_left _ (List.mem_append_left _ (List.mem_append_left _ (List.mem_append_right _ h)))))
theorem iX9_lay_X5 : ∀ w ∈ wsX50, w ∈ wsX9_lay := fun _ h => List.mem_cons_of_mem _ (List.mem_append_left _ (List.mem_append_left _ (List.mem_append_left _ (List.mem_append_left _ (List.mem_append_left _ (List.mem_append_left _ (List.mem_append_left _ (List.mem_append_right _ h))))))))
theorem iX9_lay_X6 : ∀ w ∈ wsX60, w ∈ wsX9_lay := fun _ h => List.mem_cons_of_mem _ (List.mem_append_left _ (List.mem_append_left _ (List.mem_append_left _ (List.mem_append_left _ (List.mem_append_left _ (List.mem_append_left _ (List.mem_append_right _ h)))))))
theorem iX9_lay_X9 : ∀ w ∈ wsX90, w ∈ wsX9_lay := fun _ h => List.mem_cons_of_mem _ (List.mem_append_left _ (List.mem_append_left _ (List.mem_append_left _ (List.mem_append_left _ (List.mem_append_left _ (List.mem_append_left _ (List.mem_append_left _ (List.mem_append_left _ (List.mem_append_right _ h)))))))))
set_option maxHeartbeats 4000000 in
set_option maxRecDepth 100000 in
theorem c_X9_lay (l : Launch) (E : wV) (h_bb : Nat) (a_bb : Nat → Nat) (a_sc : Nat → Nat) (a_re : Nat → Nat) (a_ga : Nat → Nat) (a_mk : Nat → Nat) (a_bm : Nat → Nat) (a_sm : Nat → Nat) (a_st : Nat → Nat) (a_fm : Nat → Nat) (a_tm : Nat → Nat) (bb : Nat → Int32) (sc : Nat → Int32) (sc_bytes : Nat → Int32) (re_rig : Nat → Int32) (re_stuffNumbers : Nat → Int32) (re_numbers : Nat → Int32) (la : Nat → Int32) (bd : Nat → Int32) (bo : Nat → Int32) (ga : Nat → Int32) (mk : Nat → Int32) (bm : Nat → Int32) (sm : Nat → Int32) (st : Nat → Int32) (fm : Nat → Int32) (tm : Nat → Int32) : MetI l yX9_lay wsX9_lay ({ frames := 5, cells := 0, slots := 0, locals := 133 } : Room) E ([.ref h_bb] : List Value) [xBandBoat h_bb a_bb bb, xScript (a_bb 0) a_sc sc, xB E (a_sc 0) 300 sc_bytes, xReader (a_bb 1) a_re, xRig (a_re 0) re_rig, xI E (a_re 1) 16 re_stuffNumbers, xI E (a_re 2) 4 re_numbers, xRig (a_bb 2) la, xBand (a_bb 4) bd, xMotion (a_bb 8) bo, xGauge (a_bb 6) a_ga ga, xMarks (a_bb 7) a_mk mk, xMemo (a_bb 13) a_bm bm, xMemo (a_bb 14) a_sm sm, xMemo (a_bb 15) a_st st, xMemo (a_bb 16) a_fm fm, xMemo (a_bb 17) a_tm tm] (fun (r : Int32) (u : Int32 × Int32 × (Nat → Int32) × (Nat → Int32) × (Nat → Int32) × (Nat → Int32) × (Nat → Int32) × (Nat → Int32) × Int32 × Int32 × Int32 × Int32 × Int32 × Int32 × Int32) => F_X9_lay bb sc sc_bytes re_rig re_stuffNumbers re_numbers la bd bo ga mk bm sm st fm tm = (r, u)) (fun (u : Int32 × Int32 × (Nat → Int32) × (Nat → Int32) × (Nat → Int32) × (Nat → Int32) × (Nat → Int32) × (Nat → Int32) × Int32 × Int32 × Int32 × Int32 × Int32 × Int32 × Int32) => [xBandBoat h_bb a_bb (upd (upd bb 10 u.1) 12 u.2.1), xScript (a_bb 0) a_sc sc, xB E (a_sc 0) 300 sc_bytes, xReader (a_bb 1) a_re, xRig (a_re 0) u.2.2.1, xI E (a_re 1) 16 u.2.2.2.1, xI E (a_re 2) 4 u.2.2.2.2.1, xRig (a_bb 2) u.2.2.2.2.2.1, xBand (a_bb 4) u.2.2.2.2.2.2.1, xMotion (a_bb 8) u.2.2.2.2.2.2.2.1, xGauge (a_bb 6) a_ga (upd ga 3 u.2.2.2.2.2.2.2.2.1), xMarks (a_bb 7) a_mk (upd mk 2 u.2.2.2.2.2.2.2.2.2.1), xMemo (a_bb 13) a_bm (upd bm 1 u.2.2.2.2.2.2.2.2.2.2.1), xMemo (a_bb 14) a_sm (upd sm 1 u.2.2.2.2.2.2.2.2.2.2.2.1), xMemo (a_bb 15) a_st (upd st 1 u.2.2.2.2.2.2.2.2.2.2.2.2.1), xMemo (a_bb 16) a_fm (upd fm 1 u.2.2.2.2.2.2.2.2.2.2.2.2.2.1), xMemo (a_bb 17) a_tm (upd tm 1 u.2.2.2.2.2.2.2.2.2.2.2.2.2.2)]) := by
  refine MetI.of (cc := cX9_lay) (maxL := 1) (own := RX9) (by decide) rfl rfl (Nat.le_of_ble_eq_true rfl) ?_
  intro p e s m below meth c A Q ls cx hP hD hS hl hq
  obtain ⟨hx, hb, hml, hown, hts, hE, hA⟩ := id cx
  have hl : lv_has ls 1 [(0, .ref h_bb)] := hl
  have hP : va_P E.1 vwCl [xBandBoat h_bb a_bb bb, xScript (a_bb 0) a_sc sc, xB E (a_sc 0) 300 sc_bytes, xReader (a_bb 1) a_re, xRig (a_re 0) re_rig, xI E (a_re 1) 16 re_stuffNumbers, xI E (a_re 2) 4 re_numbers, xRig (a_bb 2) la, xBand (a_bb 4) bd, xMotion (a_bb 8) bo, xGauge (a_bb 6) a_ga ga, xMarks (a_bb 7) a_mk mk, xMemo (a_bb 13) a_bm bm, xMemo (a_bb 14) a_sm sm, xMemo (a_bb 15) a_st st, xMemo (a_bb 16) a_fm fm, xMemo (a_bb 17) a_tm tm] s.heap := hP
  obtain ⟨ρ, hρ0⟩ : ∃ ρ, F_X9_lay bb sc sc_bytes re_rig re_stuffNumbers re_numbers la bd bo ga mk bm sm st fm tm = ρ := ⟨_, rfl⟩
  have hρ := hρ0.symm
  unfold F_X9_lay at hρ
  refine lv_aload_n hx hb dX9_lay_0 rfl (lv_at hl 0 rfl) ?_
  refine va_get (D := E.1) (ci := 9) (v := .ref (a_bb 1)) (C := RX9) (T := TX9) (N := 18) hx hb hts iX9_lay_X9 hown hE.1 hP 0 rfl rfl 1 (by decide) (hts (.fieldLink RX9 19 "BandBoat" "reader" "LBandBoat$Reader;") (List.mem_of_getElem? (i := 1) rfl)) (fun _ h9 => h9) rfl dX9_lay_1 ?_
  refine lv_aload_n hx hb dX9_lay_4 rfl (lv_at hl 0 rfl) ?_
  refine va_get (D := E.1) (ci := 9) (v := .ref (a_bb 0)) (C := RX9) (T := TX9) (N := 18) hx hb hts iX9_lay_X9 hown hE.1 hP 0 rfl rfl 0 (by decide) (hts (.fieldLink RX9 10 "BandBoat" "script" "LBandBoat$Script;") (List.mem_of_getElem? (i := 2) rfl)) (fun _ h9 => h9) rfl dX9_lay_5 ?_
  refine kI (wc := [xReader (a_bb 1) a_re, xRig (a_re 0) re_rig, xI E (a_re 1) 16 re_stuffNumbers, xI E (a_re 2) 4 re_numbers, xScript (a_bb 0) a_sc sc, xB E (a_sc 0) 300 sc_bytes]) (wr := [xBandBoat h_bb a_bb bb, xRig (a_bb 2) la, xBand (a_bb 4) bd, xMotion (a_bb 8) bo, xGauge (a_bb 6) a_ga ga, xMarks (a_bb 7) a_mk mk, xMemo (a_bb 13) a_bm bm, xMemo (a_bb 14) a_sm sm, xMemo (a_bb 15) a_st st, xMemo (a_bb 16) a_fm fm, xMemo (a_bb 17) a_tm tm]) (wc' := (fun (u : (Nat → Int32) × (Nat → Int32) × (Nat → Int32)) => [xReader (a_bb 1) a_re, xRig (a_re 0) u.1, xI E (a_re 1) 16 u.2.1, xI E (a_re 2) 4 u.2.2, xScript (a_bb 0) a_sc sc, xB E (a_sc 0) 300 sc_bytes])) (wn := (fun (u : (Nat → Int32) × (Nat → Int32) × (Nat → Int32)) => [xBandBoat h_bb a_bb bb, xScript (a_bb 0) a_sc sc, xB E (a_sc 0) 300 sc_bytes, xReader (a_bb 1) a_re, xRig (a_re 0) u.1, xI E (a_re 1) 16 u.2.1, xI E (a_re 2) 4 u.2.2, xRig (a_bb 2) la, xBand (a_bb 4) bd, xMotion (a_bb 8) bo, xGauge (a_bb 6) a_ga ga, xMarks (a_bb 7) a_mk mk, xMemo (a_bb 13) a_bm bm, xMemo (a_bb 14) a_sm sm, xMemo (a_bb 15) a_st st, xMemo (a_bb 16) a_fm fm, xMemo (a_bb 17) a_tm tm])) (isC := [3, 4, 5, 6, 1, 2]) (isR := [0, 7, 8, 9, 10, 11, 12, 13, 14, 15, 16]) (is2 := [0, 15, 16, 11, 12, 13, 14, 1, 2, 3, 4, 5, 6, 7, 8, 9, 10]) cx hP hD hS ⟨rfl, rfl, by decide, by decide, by decide, by decide, fun _ => rfl⟩ (rVN (As := [.ref (a_bb 0)]) (rest := []) (C := RX5) (q0 := 0) (ci := 5) cx (c_X5_readAll l E (a_bb 1) (a_bb 0) a_re a_sc re_rig re_stuffNumbers re_numbers sc sc_bytes _) (va_cnB 1 hts gX9_lay_X5_readAll_n116 rfl rfl rfl (hE.nw 80 rfl) (hts (.initialized RX5) (List.mem_of_getElem? (i := 10) rfl)) (by decide +kernel) ⟨Nat.le_of_ble_eq_true rfl, Nat.le_of_ble_eq_true rfl⟩) (hts (.instanceMethod yX5_readAll) (List.mem_of_getElem? (i := 9) rfl)) (hts (.selects RX5 yX5_readAll yX5_readAll) (List.mem_of_getElem? (i := 11) rfl)) rfl rfl rfl rfl hl.1 rfl (Nat.le_of_ble_eq_true rfl) dX9_lay_8 ⟨Nat.zero_le _, Nat.zero_le _⟩) (fun r1 u H locs hw hP hD hS => ?_)
  obtain ⟨hw, hn8⟩ := hw
  obtain ⟨g2, g3, g4⟩ := u
  have hn8 : ((g2 1)) = 0 ∨ ((g2 1)) = 1 := hn8
  have hP : va_P E.1 vwCl [xBandBoat h_bb a_bb bb, xScript (a_bb 0) a_sc sc, xB E (a_sc 0) 300 sc_bytes, xReader (a_bb 1) a_re, xRig (a_re 0) g2, xI E (a_re 1) 16 g3, xI E (a_re 2) 4 g4, xRig (a_bb 2) la, xBand (a_bb 4) bd, xMotion (a_bb 8) bo, xGauge (a_bb 6) a_ga ga, xMarks (a_bb 7) a_mk mk, xMemo (a_bb 13) a_bm bm, xMemo (a_bb 14) a_sm sm, xMemo (a_bb 15) a_st st, xMemo (a_bb 16) a_fm fm, xMemo (a_bb 17) a_tm tm] H := hP
  have hD : va_D A [xBandBoat h_bb a_bb bb, xScript (a_bb 0) a_sc sc, xB E (a_sc 0) 300 sc_bytes, xReader (a_bb 1) a_re, xRig (a_re 0) g2, xI E (a_re 1) 16 g3, xI E (a_re 2) 4 g4, xRig (a_bb 2) la, xBand (a_bb 4) bd, xMotion (a_bb 8) bo, xGauge (a_bb 6) a_ga ga, xMarks (a_bb 7) a_mk mk, xMemo (a_bb 13) a_bm bm, xMemo (a_bb 14) a_sm sm, xMemo (a_bb 15) a_st st, xMemo (a_bb 16) a_fm fm, xMemo (a_bb 17) a_tm tm] := hD
  have hw : F_X5_readAll re_rig re_stuffNumbers re_numbers sc sc_bytes = (r1, g2, g3, g4) := hw
  rw [hw] at hρ
  have hρ : ρ = F_X9_lay_k8 bb la bd bo ga mk bm sm st fm tm r1 g2 g3 g4 := hρ
  unfold F_X9_lay_k8 at hρ
  refine lv_bipush (v := (-4 : Int32)) hx hb dX9_lay_11 (by decide) ?_
  refine lv_icmp_ne (tgt := 29) hx hb dX9_lay_13 (by decide) (fun c13 => ?_) (fun c13 => ?_)
  · rw [if_neg c13] at hρ
    refine lv_bipush (v := (-2 : Int32)) hx hb dX9_lay_29 (by decide) ?_
    exact hq (-2 : Int32) ((bb 10), (bb 12), g2, g3, g4, la, bd, bo, (ga 3), (mk 2), (bm 1), (sm 1), (st 1), (fm 1), (tm 1)) _ _ _ _ dX9_lay_31 rfl (hρ0.trans hρ) hP hD hS
  · rw [if_pos c13] at hρ
    refine lv_aload_n hx hb dX9_lay_16 rfl (lv_at hl 0 rfl) ?_
    refine va_get (D := E.1) (ci := 9) (v := .ref (a_bb 1)) (C := RX9) (T := TX9) (N := 18) hx hb hts iX9_lay_X9 hown hE.1 hP 0 rfl rfl 1 (by decide) (hts (.fieldLink RX9 19 "BandBoat" "reader" "LBandBoat$Reader;") (List.mem_of_getElem? (i := 1) rfl)) (fun _ h9 => h9) rfl dX9_lay_17 ?_
    refine va_getN (D := E.1) (ci := 5) (v := .ref (a_re 0)) (C := RX5) (T := TX5) (N := 3) hx hb hts iX9_lay_X5 hown hE.1 hP 3 rfl rfl 0 (by decide) (hE.n 45 rfl) (fun _ h9 => h9) rfl dX9_lay_20 ?_
    refine va_getN (D := E.1) (ci := 6) (v := .int (g2 1)) (C := RX6) (T := TX6) (N := 17) hx hb hts iX9_lay_X6 hown hE.1 hP 4 rfl rfl 1 (by decide) (hE.n 4 rfl) (fun _ h9 => h9) rfl dX9_lay_23 ?_
    refine lv_if_ne (tgt := 32) hx hb dX9_lay_26 (by decide) (fun c26 => ?_) (fun c26 => ?_)
    · rw [if_neg c26] at hρ
      refine lv_aload_n hx hb dX9_lay_32 rfl (lv_at hl 0 rfl) ?_
      refine va_get (D := E.1) (ci := 9) (v := .ref (a_bb 2)) (C := RX9) (T := TX9) (N := 18) hx hb hts iX9_lay_X9 hown hE.1 hP 0 rfl rfl 2 (by decide) (hts (.fieldLink RX9 26 "BandBoat" "laid" "LBandBoat$Rig;") (List.mem_of_getElem? (i := 3) rfl)) (fun _ h9 => h9) rfl dX9_lay_33 ?_
      refine lv_aload_n hx hb dX9_lay_36 rfl (lv_at hl 0 rfl) ?_
      refine va_get (D := E.1) (ci := 9) (v := .ref (a_bb 1)) (C := RX9) (T := TX9) (N := 18) hx hb hts iX9_lay_X9 hown hE.1 hP 0 rfl rfl 1 (by decide) (hts (.fieldLink RX9 19 "BandBoat" "reader" "LBandBoat$Reader;") (List.mem_of_getElem? (i := 1) rfl)) (fun _ h9 => h9) rfl dX9_lay_37 ?_
      refine va_getN (D := E.1) (ci := 5) (v := .ref (a_re 0)) (C := RX5) (T := TX5) (N := 3) hx hb hts iX9_lay_X5 hown hE.1 hP 3 rfl rfl 0 (by decide) (hE.n 45 rfl) (fun _ h9 => h9) rfl dX9_lay_40 ?_
      refine kV (wc := [xRig (a_bb 2) la, xRig (a_re 0) g2]) (wr := [xBandBoat h_bb a_bb bb, xScript (a_bb 0) a_sc sc, xB E (a_sc 0) 300 sc_bytes, xReader (a_bb 1) a_re, xI E (a_re 1) 16 g3, xI E (a_re 2) 4 g4, xBand (a_bb 4) bd, xMotion (a_bb 8) bo, xGauge (a_bb 6) a_ga ga, xMarks (a_bb 7) a_mk mk, xMemo (a_bb 13) a_bm bm, xMemo (a_bb 14) a_sm sm, xMemo (a_bb 15) a_st st, xMemo (a_bb 16) a_fm fm, xMemo (a_bb 17) a_tm tm]) (wc' := (fun (u : (Nat → Int32)) => [xRig (a_bb 2) u, xRig (a_re 0) g2])) (wn := (fun (u : (Nat → Int32)) => [xBandBoat h_bb a_bb bb, xScript (a_bb 0) a_sc sc, xB E (a_sc 0) 300 sc_bytes, xReader (a_bb 1) a_re, xRig (a_re 0) g2, xI E (a_re 1) 16 g3, xI E (a_re 2) 4 g4, xRig (a_bb 2) u, xBand (a_bb 4) bd, xMotion (a_bb 8) bo, xGauge (a_bb 6) a_ga ga, xMarks (a_bb 7) a_mk mk, xMemo (a_bb 13) a_bm bm, xMemo (a_bb 14) a_sm sm, xMemo (a_bb 15) a_st st, xMemo (a_bb 16) a_fm fm, xMemo (a_bb 17) a_tm tm])) (isC := [7, 4]) (isR := [0, 1, 2, 3, 5, 6, 8, 9, 10, 11, 12, 13, 14, 15, 16]) (is2 := [0, 1, 2, 3, 16, 4, 5, 15, 6, 7, 8, 9, 10, 11, 12, 13, 14]) cx hP hD hS ⟨rfl, rfl, by decide, by decide, by decide, by decide, fun _ => rfl⟩ (rVN (As := [.ref (a_re 0)]) (rest := []) (C := RX6) (q0 := 0) (ci := 6) cx (c_X6_copy l E (a_bb 2) (a_re 0) la g2 (hn8) _) (va_cnB 1 hts gX9_lay_X6_copy_n127 rfl rfl rfl (hE.nw 84 rfl) (hts (.initialized RX6) (List.mem_of_getElem? (i := 15) rfl)) (by decide +kernel) ⟨Nat.le_of_ble_eq_true rfl, Nat.le_of_ble_eq_true rfl⟩) (hts (.instanceMethod yX6_copy) (List.mem_of_getElem? (i := 81) rfl)) (hts (.selects RX6 yX6_copy yX6_copy) (List.mem_of_getElem? (i := 82) rfl)) rfl rfl rfl rfl hl.1 rfl (Nat.le_of_ble_eq_true rfl) dX9_lay_43 ⟨Nat.zero_le _, Nat.zero_le _⟩) (fun u H locs hw hP hD hS => ?_)
      obtain ⟨g5, rfl⟩ : ∃ z, z = u := ⟨_, rfl⟩
      have hP : va_P E.1 vwCl [xBandBoat h_bb a_bb bb, xScript (a_bb 0) a_sc sc, xB E (a_sc 0) 300 sc_bytes, xReader (a_bb 1) a_re, xRig (a_re 0) g2, xI E (a_re 1) 16 g3, xI E (a_re 2) 4 g4, xRig (a_bb 2) g5, xBand (a_bb 4) bd, xMotion (a_bb 8) bo, xGauge (a_bb 6) a_ga ga, xMarks (a_bb 7) a_mk mk, xMemo (a_bb 13) a_bm bm, xMemo (a_bb 14) a_sm sm, xMemo (a_bb 15) a_st st, xMemo (a_bb 16) a_fm fm, xMemo (a_bb 17) a_tm tm] H := hP
      have hD : va_D A [xBandBoat h_bb a_bb bb, xScript (a_bb 0) a_sc sc, xB E (a_sc 0) 300 sc_bytes, xReader (a_bb 1) a_re, xRig (a_re 0) g2, xI E (a_re 1) 16 g3, xI E (a_re 2) 4 g4, xRig (a_bb 2) g5, xBand (a_bb 4) bd, xMotion (a_bb 8) bo, xGauge (a_bb 6) a_ga ga, xMarks (a_bb 7) a_mk mk, xMemo (a_bb 13) a_bm bm, xMemo (a_bb 14) a_sm sm, xMemo (a_bb 15) a_st st, xMemo (a_bb 16) a_fm fm, xMemo (a_bb 17) a_tm tm] := hD
      have hw : F_X6_copy la g2 = g5 := hw
      rw [hw] at hρ
      have hρ : ρ = F_X9_lay_k43 bd bo g2 g3 g4 g5 := hρ
      unfold F_X9_lay_k43 at hρ
      refine lv_aload_n hx hb dX9_lay_46 rfl (lv_at hl 0 rfl) ?_
      refine va_get (D := E.1) (ci := 9) (v := .ref (a_bb 4)) (C := RX9) (T := TX9) (N := 18) hx hb hts iX9_lay_X9 hown hE.1 hP 0 rfl rfl 4 (by decide) (hts (.fieldLink RX9 36 "BandBoat" "band" "LBandBoat$Band;") (List.mem_of_getElem? (i := 4) rfl)) (fun _ h9 => h9) rfl dX9_lay_47 ?_
      refine lv_aload_n hx hb dX9_lay_50 rfl (lv_at hl 0 rfl) ?_
      refine va_get (D := E.1) (ci := 9) (v := .ref (a_bb 2)) (C := RX9) (T := TX9) (N := 18) hx hb hts iX9_lay_X9 hown hE.1 hP 0 rfl rfl 2 (by decide) (hts (.fieldLink RX9 26 "BandBoat" "laid" "LBandBoat$Rig;") (List.mem_of_getElem? (i := 3) rfl)) (fun _ h9 => h9) rfl dX9_lay_51 ?_
      refine kV (wc := [xBand (a_bb 4) bd, xRig (a_bb 2) g5]) (wr := [xBandBoat h_bb a_bb bb, xScript (a_bb 0) a_sc sc, xB E (a_sc 0) 300 sc_bytes, xReader (a_bb 1) a_re, xRig (a_re 0) g2, xI E (a_re 1) 16 g3, xI E (a_re 2) 4 g4, xMotion (a_bb 8) bo, xGauge (a_bb 6) a_ga ga, xMarks (a_bb 7) a_mk mk, xMemo (a_bb 13) a_bm bm, xMemo (a_bb 14) a_sm sm, xMemo (a_bb 15) a_st st, xMemo (a_bb 16) a_fm fm, xMemo (a_bb 17) a_tm tm]) (wc' := (fun (u : (Nat → Int32)) => [xBand (a_bb 4) u, xRig (a_bb 2) g5])) (wn := (fun (u : (Nat → Int32)) => [xBandBoat h_bb a_bb bb, xScript (a_bb 0) a_sc sc, xB E (a_sc 0) 300 sc_bytes, xReader (a_bb 1) a_re, xRig (a_re 0) g2, xI E (a_re 1) 16 g3, xI E (a_re 2) 4 g4, xRig (a_bb 2) g5, xBand (a_bb 4) u, xMotion (a_bb 8) bo, xGauge (a_bb 6) a_ga ga, xMarks (a_bb 7) a_mk mk, xMemo (a_bb 13) a_bm bm, xMemo (a_bb 14) a_sm sm, xMemo (a_bb 15) a_st st, xMemo (a_bb 16) a_fm fm, xMemo (a_bb 17) a_tm tm])) (isC := [8, 7]) (isR := [0, 1, 2, 3, 4, 5, 6, 9, 10, 11, 12, 13, 14, 15, 16]) (is2 := [0, 1, 2, 3, 4, 5, 6, 16, 15, 7, 8, 9, 10, 11, 12, 13, 14]) cx hP hD hS ⟨rfl, rfl, by decide, by decide, by decide, by decide, fun _ => rfl⟩ (rVN (As := [.ref (a_bb 2)]) (rest := []) (C := RX0) (q0 := 0) (ci := 0) cx (c_X0_fit l E (a_bb 4) (a_bb 2) bd g5 _) (va_cnB 1 hts gX9_lay_X0_fit_n100 rfl rfl rfl (hE.nw 77 rfl) (hts (.initialized RX0) (List.mem_of_getElem? (i := 85) rfl)) (by decide +kernel) ⟨Nat.le_of_ble_eq_true rfl, Nat.le_of_ble_eq_true rfl⟩) (hts (.instanceMethod yX0_fit) (List.mem_of_getElem? (i := 84) rfl)) (hts (.selects RX0 yX0_fit yX0_fit) (List.mem_of_getElem? (i := 86) rfl)) rfl rfl rfl rfl hl.1 rfl (Nat.le_of_ble_eq_true rfl) dX9_lay_54 ⟨Nat.zero_le _, Nat.zero_le _⟩) (fun u H locs hw hP hD hS => ?_)
      obtain ⟨g6, rfl⟩ : ∃ z, z = u := ⟨_, rfl⟩
      have hP : va_P E.1 vwCl [xBandBoat h_bb a_bb bb, xScript (a_bb 0) a_sc sc, xB E (a_sc 0) 300 sc_bytes, xReader (a_bb 1) a_re, xRig (a_re 0) g2, xI E (a_re 1) 16 g3, xI E (a_re 2) 4 g4, xRig (a_bb 2) g5, xBand (a_bb 4) g6, xMotion (a_bb 8) bo, xGauge (a_bb 6) a_ga ga, xMarks (a_bb 7) a_mk mk, xMemo (a_bb 13) a_bm bm, xMemo (a_bb 14) a_sm sm, xMemo (a_bb 15) a_st st, xMemo (a_bb 16) a_fm fm, xMemo (a_bb 17) a_tm tm] H := hP
      have hD : va_D A [xBandBoat h_bb a_bb bb, xScript (a_bb 0) a_sc sc, xB E (a_sc 0) 300 sc_bytes, xReader (a_bb 1) a_re, xRig (a_re 0) g2, xI E (a_re 1) 16 g3, xI E (a_re 2) 4 g4, xRig (a_bb 2) g5, xBand (a_bb 4) g6, xMotion (a_bb 8) bo, xGauge (a_bb 6) a_ga ga, xMarks (a_bb 7) a_mk mk, xMemo (a_bb 13) a_bm bm, xMemo (a_bb 14) a_sm sm, xMemo (a_bb 15) a_st st, xMemo (a_bb 16) a_fm fm, xMemo (a_bb 17) a_tm tm] := hD
      have hw : F_X0_fit bd g5 = g6 := hw
      rw [hw] at hρ
      have hρ : ρ = F_X9_lay_k54 bo g2 g3 g4 g5 g6 := hρ
      unfold F_X9_lay_k54 at hρ
      refine lv_aload_n hx hb dX9_lay_57 rfl (lv_at hl 0 rfl) ?_
      refine va_get (D := E.1) (ci := 9) (v := .ref (a_bb 8)) (C := RX9) (T := TX9) (N := 18) hx hb hts iX9_lay_X9 hown hE.1 hP 0 rfl rfl 8 (by decide) (hts (.fieldLink RX9 64 "BandBoat" "boat" "LBandBoat$Motion;") (List.mem_of_getElem? (i := 5) rfl)) (fun _ h9 => h9) rfl dX9_lay_58 ?_
      refine kV (wc := [xMotion (a_bb 8) bo]) (wr := [xBandBoat h_bb a_bb bb, xScript (a_bb 0) a_sc sc, xB E (a_sc 0) 300 sc_bytes, xReader (a_bb 1) a_re, xRig (a_re 0) g2, xI E (a_re 1) 16 g3, xI E (a_re 2) 4 g4, xRig (a_bb 2) g5, xBand (a_bb 4) g6, xGauge (a_bb 6) a_ga ga, xMarks (a_bb 7) a_mk mk, xMemo (a_bb 13) a_bm bm, xMemo (a_bb 14) a_sm sm, xMemo (a_bb 15) a_st st, xMemo (a_bb 16) a_fm fm, xMemo (a_bb 17) a_tm tm]) (wc' := (fun (u : (Nat → Int32)) => [xMotion (a_bb 8) u])) (wn := (fun (u : (Nat → Int32)) => [xBandBoat h_bb a_bb bb, xScript (a_bb 0) a_sc sc, xB E (a_sc 0) 300 sc_bytes, xReader (a_bb 1) a_re, xRig (a_re 0) g2, xI E (a_re 1) 16 g3, xI E (a_re 2) 4 g4, xRig (a_bb 2) g5, xBand (a_bb 4) g6, xMotion (a_bb 8) u, xGauge (a_bb 6) a_ga ga, xMarks (a_bb 7) a_mk mk, xMemo (a_bb 13) a_bm bm, xMemo (a_bb 14) a_sm sm, xMemo (a_bb 15) a_st st, xMemo (a_bb 16) a_fm fm, xMemo (a_bb 17) a_tm tm])) (isC := [9]) (isR := [0, 1, 2, 3, 4, 5, 6, 7, 8, 10, 11, 12, 13, 14, 15, 16]) (is2 := [0, 1, 2, 3, 4, 5, 6, 7, 8, 16, 9, 10, 11, 12, 13, 14, 15]) cx hP hD hS ⟨rfl, rfl, by decide, by decide, by decide, by decide, fun _ => rfl⟩ (rVN (As := []) (rest := []) (C := RX4) (q0 := 0) (ci := 4) cx (c_X4_rest l E (a_bb 8) bo _) (va_cnB 0 hts gX9_lay_X4_rest_n130 rfl rfl rfl (hE.nw 85 rfl) (hts (.initialized RX4) (List.mem_of_getElem? (i := 98) rfl)) (by decide +kernel) ⟨Nat.le_of_ble_eq_true rfl, Nat.le_of_ble_eq_true rfl⟩) (hts (.instanceMethod yX4_rest) (List.mem_of_getElem? (i := 97) rfl)) (hts (.selects RX4 yX4_rest yX4_rest) (List.mem_of_getElem? (i := 99) rfl)) rfl rfl rfl rfl hl.1 rfl (Nat.le_of_ble_eq_true rfl) dX9_lay_61 ⟨Nat.zero_le _, Nat.zero_le _⟩) (fun u H locs hw hP hD hS => ?_)
      obtain ⟨g7, rfl⟩ : ∃ z, z = u := ⟨_, rfl⟩
      have hP : va_P E.1 vwCl [xBandBoat h_bb a_bb bb, xScript (a_bb 0) a_sc sc, xB E (a_sc 0) 300 sc_bytes, xReader (a_bb 1) a_re, xRig (a_re 0) g2, xI E (a_re 1) 16 g3, xI E (a_re 2) 4 g4, xRig (a_bb 2) g5, xBand (a_bb 4) g6, xMotion (a_bb 8) g7, xGauge (a_bb 6) a_ga ga, xMarks (a_bb 7) a_mk mk, xMemo (a_bb 13) a_bm bm, xMemo (a_bb 14) a_sm sm, xMemo (a_bb 15) a_st st, xMemo (a_bb 16) a_fm fm, xMemo (a_bb 17) a_tm tm] H := hP
      have hD : va_D A [xBandBoat h_bb a_bb bb, xScript (a_bb 0) a_sc sc, xB E (a_sc 0) 300 sc_bytes, xReader (a_bb 1) a_re, xRig (a_re 0) g2, xI E (a_re 1) 16 g3, xI E (a_re 2) 4 g4, xRig (a_bb 2) g5, xBand (a_bb 4) g6, xMotion (a_bb 8) g7, xGauge (a_bb 6) a_ga ga, xMarks (a_bb 7) a_mk mk, xMemo (a_bb 13) a_bm bm, xMemo (a_bb 14) a_sm sm, xMemo (a_bb 15) a_st st, xMemo (a_bb 16) a_fm fm, xMemo (a_bb 17) a_tm tm] := hD
      have hw : F_X4_rest bo = g7 := hw
      rw [hw] at hρ
      have hρ : ρ = F_X9_lay_k61 g2 g3 g4 g5 g6 g7 := hρ
      unfold F_X9_lay_k61 at hρ
      refine lv_aload_n hx hb dX9_lay_64 rfl (lv_at hl 0 rfl) ?_
      refine va_get (D := E.1) (ci := 9) (v := .ref (a_bb 6)) (C := RX9) (T := TX9) (N := 18) hx hb hts iX9_lay_X9 hown hE.1 hP 0 rfl rfl 6 (by decide) (hts (.fieldLink RX9 50 "BandBoat" "gauge" "LBandBoat$Gauge;") (List.mem_of_getElem? (i := 6) rfl)) (fun _ h9 => h9) rfl dX9_lay_65 ?_
      refine lv_iconst (v := (0 : Int32)) hx hb dX9_lay_68 (by decide) ?_
      refine va_putN (D := E.1) (ci := 1) (v := .int (0 : Int32)) (ty := .int) (C := RX1) (T := TX1) (N := 4) hx hb hts iX9_lay_X1 tyX1 tyX1_ok nmX1 hown hE.1 hP hD hS 10 rfl rfl 3 (by decide) (hE.n 62 rfl) (fun _ h9 => h9) rfl (by decide +kernel) rfl rfl (Nat.le_of_ble_eq_true rfl) dX9_lay_69 (fun H locs hP hD hS => ?_)
      have hP : va_P E.1 vwCl [xBandBoat h_bb a_bb bb, xScript (a_bb 0) a_sc sc, xB E (a_sc 0) 300 sc_bytes, xReader (a_bb 1) a_re, xRig (a_re 0) g2, xI E (a_re 1) 16 g3, xI E (a_re 2) 4 g4, xRig (a_bb 2) g5, xBand (a_bb 4) g6, xMotion (a_bb 8) g7, xGauge (a_bb 6) a_ga (upd ga 3 (0 : Int32)), xMarks (a_bb 7) a_mk mk, xMemo (a_bb 13) a_bm bm, xMemo (a_bb 14) a_sm sm, xMemo (a_bb 15) a_st st, xMemo (a_bb 16) a_fm fm, xMemo (a_bb 17) a_tm tm] H := hP
      have hD : va_D A [xBandBoat h_bb a_bb bb, xScript (a_bb 0) a_sc sc, xB E (a_sc 0) 300 sc_bytes, xReader (a_bb 1) a_re, xRig (a_re 0) g2, xI E (a_re 1) 16 g3, xI E (a_re 2) 4 g4, xRig (a_bb 2) g5, xBand (a_bb 4) g6, xMotion (a_bb 8) g7, xGauge (a_bb 6) a_ga (upd ga 3 (0 : Int32)), xMarks (a_bb 7) a_mk mk, xMemo (a_bb 13) a_bm bm, xMemo (a_bb 14) a_sm sm, xMemo (a_bb 15) a_st st, xMemo (a_bb 16) a_fm fm, xMemo (a_bb 17) a_tm tm] := hD
      refine lv_aload_n hx hb dX9_lay_72 rfl (lv_at hl 0 rfl) ?_
      refine va_get (D := E.1) (ci := 9) (v := .ref (a_bb 7)) (C := RX9) (T := TX9) (N := 18) hx hb hts iX9_lay_X9 hown hE.1 hP 0 rfl rfl 7 (by decide) (hts (.fieldLink RX9 57 "BandBoat" "marks" "LBandBoat$Marks;") (List.mem_of_getElem? (i := 7) rfl)) (fun _ h9 => h9) rfl dX9_lay_73 ?_
      refine lv_iconst (v := (0 : Int32)) hx hb dX9_lay_76 (by decide) ?_
      refine va_putN (D := E.1) (ci := 2) (v := .int (0 : Int32)) (ty := .int) (C := RX2) (T := TX2) (N := 3) hx hb hts iX9_lay_X2 tyX2 tyX2_ok nmX2 hown hE.1 hP hD hS 11 rfl rfl 2 (by decide) (hE.n 63 rfl) (fun _ h9 => h9) rfl (by decide +kernel) rfl rfl (Nat.le_of_ble_eq_true rfl) dX9_lay_77 (fun H locs hP hD hS => ?_)
      have hP : va_P E.1 vwCl [xBandBoat h_bb a_bb bb, xScript (a_bb 0) a_sc sc, xB E (a_sc 0) 300 sc_bytes, xReader (a_bb 1) a_re, xRig (a_re 0) g2, xI E (a_re 1) 16 g3, xI E (a_re 2) 4 g4, xRig (a_bb 2) g5, xBand (a_bb 4) g6, xMotion (a_bb 8) g7, xGauge (a_bb 6) a_ga (upd ga 3 (0 : Int32)), xMarks (a_bb 7) a_mk (upd mk 2 (0 : Int32)), xMemo (a_bb 13) a_bm bm, xMemo (a_bb 14) a_sm sm, xMemo (a_bb 15) a_st st, xMemo (a_bb 16) a_fm fm, xMemo (a_bb 17) a_tm tm] H := hP
      have hD : va_D A [xBandBoat h_bb a_bb bb, xScript (a_bb 0) a_sc sc, xB E (a_sc 0) 300 sc_bytes, xReader (a_bb 1) a_re, xRig (a_re 0) g2, xI E (a_re 1) 16 g3, xI E (a_re 2) 4 g4, xRig (a_bb 2) g5, xBand (a_bb 4) g6, xMotion (a_bb 8) g7, xGauge (a_bb 6) a_ga (upd ga 3 (0 : Int32)), xMarks (a_bb 7) a_mk (upd mk 2 (0 : Int32)), xMemo (a_bb 13) a_bm bm, xMemo (a_bb 14) a_sm sm, xMemo (a_bb 15) a_st st, xMemo (a_bb 16) a_fm fm, xMemo (a_bb 17) a_tm tm] := hD
      refine lv_aload_n hx hb dX9_lay_80 rfl (lv_at hl 0 rfl) ?_
      refine lv_iconst (v := (0 : Int32)) hx hb dX9_lay_81 (by decide) ?_
      refine va_put (D := E.1) (ci := 9) (v := .int (0 : Int32)) (ty := .int) (C := RX9) (T := TX9) (N := 18) hx hb hts iX9_lay_X9 tyX9 tyX9_ok nmX9 hown hE.1 hP hD hS 0 rfl rfl 10 (by decide) (hts (.fieldLink RX9 139 "BandBoat" "keptCount" "I") (List.mem_of_getElem? (i := 8) rfl)) (fun _ h9 => h9) rfl (by decide +kernel) rfl rfl (Nat.le_of_ble_eq_true rfl) dX9_lay_82 (fun H locs hP hD hS => ?_)
      have hP : va_P E.1 vwCl [xBandBoat h_bb a_bb (upd bb 10 (0 : Int32)), xScript (a_bb 0) a_sc sc, xB E (a_sc 0) 300 sc_bytes, xReader (a_bb 1) a_re, xRig (a_re 0) g2, xI E (a_re 1) 16 g3, xI E (a_re 2) 4 g4, xRig (a_bb 2) g5, xBand (a_bb 4) g6, xMotion (a_bb 8) g7, xGauge (a_bb 6) a_ga (upd ga 3 (0 : Int32)), xMarks (a_bb 7) a_mk (upd mk 2 (0 : Int32)), xMemo (a_bb 13) a_bm bm, xMemo (a_bb 14) a_sm sm, xMemo (a_bb 15) a_st st, xMemo (a_bb 16) a_fm fm, xMemo (a_bb 17) a_tm tm] H := hP
      have hD : va_D A [xBandBoat h_bb a_bb (upd bb 10 (0 : Int32)), xScript (a_bb 0) a_sc sc, xB E (a_sc 0) 300 sc_bytes, xReader (a_bb 1) a_re, xRig (a_re 0) g2, xI E (a_re 1) 16 g3, xI E (a_re 2) 4 g4, xRig (a_bb 2) g5, xBand (a_bb 4) g6, xMotion (a_bb 8) g7, xGauge (a_bb 6) a_ga (upd ga 3 (0 : Int32)), xMarks (a_bb 7) a_mk (upd mk 2 (0 : Int32)), xMemo (a_bb 13) a_bm bm, xMemo (a_bb 14) a_sm sm, xMemo (a_bb 15) a_st st, xMemo (a_bb 16) a_fm fm, xMemo (a_bb 17) a_tm tm] := hD
      refine lv_aload_n hx hb dX9_lay_85 rfl (lv_at hl 0 rfl) ?_
      refine kV (wc := [xBandBoat h_bb a_bb (upd bb 10 (0 : Int32)), xMemo (a_bb 13) a_bm bm, xMemo (a_bb 14) a_sm sm, xMemo (a_bb 15) a_st st, xMemo (a_bb 16) a_fm fm, xMemo (a_bb 17) a_tm tm]) (wr := [xScript (a_bb 0) a_sc sc, xB E (a_sc 0) 300 sc_bytes, xReader (a_bb 1) a_re, xRig (a_re 0) g2, xI E (a_re 1) 16 g3, xI E (a_re 2) 4 g4, xRig (a_bb 2) g5, xBand (a_bb 4) g6, xMotion (a_bb 8) g7, xGauge (a_bb 6) a_ga (upd ga 3 (0 : Int32)), xMarks (a_bb 7) a_mk (upd mk 2 (0 : Int32))]) (wc' := (fun (u : Int32 × Int32 × Int32 × Int32 × Int32 × Int32) => [xBandBoat h_bb a_bb (upd (upd bb 10 (0 : Int32)) 12 u.1), xMemo (a_bb 13) a_bm (upd bm 1 u.2.1), xMemo (a_bb 14) a_sm (upd sm 1 u.2.2.1), xMemo (a_bb 15) a_st (upd st 1 u.2.2.2.1), xMemo (a_bb 16) a_fm (upd fm 1 u.2.2.2.2.1), xMemo (a_bb 17) a_tm (upd tm 1 u.2.2.2.2.2)])) (wn := (fun (u : Int32 × Int32 × Int32 × Int32 × Int32 × Int32) => [xBandBoat h_bb a_bb (upd (upd bb 10 (0 : Int32)) 12 u.1), xScript (a_bb 0) a_sc sc, xB E (a_sc 0) 300 sc_bytes, xReader (a_bb 1) a_re, xRig (a_re 0) g2, xI E (a_re 1) 16 g3, xI E (a_re 2) 4 g4, xRig (a_bb 2) g5, xBand (a_bb 4) g6, xMotion (a_bb 8) g7, xGauge (a_bb 6) a_ga (upd ga 3 (0 : Int32)), xMarks (a_bb 7) a_mk (upd mk 2 (0 : Int32)), xMemo (a_bb 13) a_bm (upd bm 1 u.2.1), xMemo (a_bb 14) a_sm (upd sm 1 u.2.2.1), xMemo (a_bb 15) a_st (upd st 1 u.2.2.2.1), xMemo (a_bb 16) a_fm (upd fm 1 u.2.2.2.2.1), xMemo (a_bb 17) a_tm (upd tm 1 u.2.2.2.2.2)])) (isC := [0, 12, 13, 14, 15, 16]) (isR := [1, 2, 3, 4, 5, 6, 7, 8, 9, 10, 11]) (is2 := [11, 0, 1, 2, 3, 4, 5, 6, 7, 8, 9, 10, 12, 13, 14, 15, 16]) cx hP hD hS ⟨rfl, rfl, by decide, by decide, by decide, by decide, fun _ => rfl⟩ (rV (As := []) (rest := []) (C := RX9) (q0 := 0) (ci := 9) cx (c_X9_dropMemos l E h_bb a_bb a_bm a_sm a_st a_fm a_tm (upd bb 10 (0 : Int32)) bm sm st fm tm _) (cwV 0 hts gX9_lay_X9_dropMemos rfl rfl rfl (by decide +kernel) ⟨Nat.le_of_ble_eq_true rfl, Nat.le_of_ble_eq_true rfl⟩) rfl rfl rfl rfl hl.1 rfl (Nat.le_of_ble_eq_true rfl) dX9_lay_86 ⟨Nat.zero_le _, Nat.zero_le _⟩) (fun u H locs hw hP hD hS => ?_)
      obtain ⟨v8, v9, v10, v11, v12, v13⟩ := u
      have hP : va_P E.1 vwCl [xBandBoat h_bb a_bb (upd (upd bb 10 (0 : Int32)) 12 v8), xScript (a_bb 0) a_sc sc, xB E (a_sc 0) 300 sc_bytes, xReader (a_bb 1) a_re, xRig (a_re 0) g2, xI E (a_re 1) 16 g3, xI E (a_re 2) 4 g4, xRig (a_bb 2) g5, xBand (a_bb 4) g6, xMotion (a_bb 8) g7, xGauge (a_bb 6) a_ga (upd ga 3 (0 : Int32)), xMarks (a_bb 7) a_mk (upd mk 2 (0 : Int32)), xMemo (a_bb 13) a_bm (upd bm 1 v9), xMemo (a_bb 14) a_sm (upd sm 1 v10), xMemo (a_bb 15) a_st (upd st 1 v11), xMemo (a_bb 16) a_fm (upd fm 1 v12), xMemo (a_bb 17) a_tm (upd tm 1 v13)] H := hP
      have hD : va_D A [xBandBoat h_bb a_bb (upd (upd bb 10 (0 : Int32)) 12 v8), xScript (a_bb 0) a_sc sc, xB E (a_sc 0) 300 sc_bytes, xReader (a_bb 1) a_re, xRig (a_re 0) g2, xI E (a_re 1) 16 g3, xI E (a_re 2) 4 g4, xRig (a_bb 2) g5, xBand (a_bb 4) g6, xMotion (a_bb 8) g7, xGauge (a_bb 6) a_ga (upd ga 3 (0 : Int32)), xMarks (a_bb 7) a_mk (upd mk 2 (0 : Int32)), xMemo (a_bb 13) a_bm (upd bm 1 v9), xMemo (a_bb 14) a_sm (upd sm 1 v10), xMemo (a_bb 15) a_st (upd st 1 v11), xMemo (a_bb 16) a_fm (upd fm 1 v12), xMemo (a_bb 17) a_tm (upd tm 1 v13)] := hD
      have hw : F_X9_dropMemos = (v8, v9, v10, v11, v12, v13) := hw
      rw [hw] at hρ
      have hρ : ρ = F_X9_lay_k86 g2 g3 g4 g5 g6 g7 v8 v9 v10 v11 v12 v13 := hρ
      unfold F_X9_lay_k86 at hρ
      refine lv_aload_n hx hb dX9_lay_89 rfl (lv_at hl 0 rfl) ?_
      refine va_get (D := E.1) (ci := 9) (v := .ref (a_bb 2)) (C := RX9) (T := TX9) (N := 18) hx hb hts iX9_lay_X9 hown hE.1 hP 0 rfl rfl 2 (by decide) (hts (.fieldLink RX9 26 "BandBoat" "laid" "LBandBoat$Rig;") (List.mem_of_getElem? (i := 3) rfl)) (fun _ h9 => h9) rfl dX9_lay_90 ?_
      refine va_getN (D := E.1) (ci := 6) (v := .int (g5 0)) (C := RX6) (T := TX6) (N := 17) hx hb hts iX9_lay_X6 hown hE.1 hP 7 rfl rfl 0 (by decide) (hE.n 2 rfl) (fun _ h9 => h9) rfl dX9_lay_93 ?_
      exact hq (g5 0) ((0 : Int32), v8, g2, g3, g4, g5, g6, g7, (0 : Int32), (0 : Int32), v9, v10, v11, v12, v13) _ _ _ _ dX9_lay_96 rfl (hρ0.trans hρ) hP hD hS
    · rw [if_pos c26] at hρ
      refine lv_bipush (v := (-2 : Int32)) hx hb dX9_lay_29 (by decide) ?_
      exact hq (-2 : Int32) ((bb 10), (bb 12), g2, g3, g4, la, bd, bo, (ga 3), (mk 2), (bm 1), (sm 1), (st 1), (fm 1), (tm 1)) _ _ _ _ dX9_lay_31 rfl (hρ0.trans hρ) hP hD hS
def F_X9_pull (bd : Nat → Int32) (parts : Int32) (down : Int32) : Int32 := (if (F_X9_within parts (0 : Int32) (40000 : Int32)) = (0 : Int32) then (-1 : Int32) else (if down = (0 : Int32) then (F_X0_wound bd parts) else (F_X0_loosed bd parts)))
theorem iX9_pull_X9 : ∀ w ∈ wsX90, w ∈ wsX9_pull := fun _ h => List.mem_cons_of_mem _ (List.mem_append_left _ (List.mem_append_right _ h))
set_option maxHeartbeats 4000000 in
set_option maxRecDepth 100000 in
theorem c_X9_pull (l : Launch) (E : wV) (h_bb : Nat) (a_bb : Nat → Nat) (bb : Nat → Int32) (bd : Nat → Int32) (parts : Int32) (down : Int32) : MetI l yX9_pull wsX9_pull ({ frames := 2, cells := 0, slots := 0, locals := 43 } : Room) E ([.ref h_bb, .int parts, .int down] : List Value) [xBandBoat h_bb a_bb bb, xBand (a_bb 4) bd] (fun (r : Int32) (_ : Unit) => r = F_X9_pull bd parts down) (fun (_ : Unit) => [xBandBoat h_bb a_bb bb, xBand (a_bb 4) bd]) := by
  refine MetI.of (cc := cX9_pull) (maxL := 3) (own := RX9) (by decide) rfl rfl (Nat.le_of_ble_eq_true rfl) ?_
  intro p e s m below meth c A Q ls cx hP hD hS hl hq
  obtain ⟨hx, hb, hml, hown, hts, hE, hA⟩ := id cx
  have hl : lv_has ls 3 [(0, .ref h_bb), (1, .int parts), (2, .int down)] := hl
  have hP : va_P E.1 vwCl [xBandBoat h_bb a_bb bb, xBand (a_bb 4) bd] s.heap := hP
  obtain ⟨ρ, hρ0⟩ : ∃ ρ, F_X9_pull bd parts down = ρ := ⟨_, rfl⟩
  have hρ := hρ0.symm
  unfold F_X9_pull at hρ
  refine lv_iload_n hx hb dX9_pull_0 rfl (lv_at hl 1 rfl) ?_
  refine lv_iconst (v := (0 : Int32)) hx hb dX9_pull_1 (by decide) ?_
  refine lv_ldc (own := RX9) (v := (40000 : Int32)) hx hb hown (hts (.constant RX9 148 (40000)) (List.mem_of_getElem? (i := 1) rfl)) dX9_pull_2 ?_
  refine kI (wc := []) (wr := [xBandBoat h_bb a_bb bb, xBand (a_bb 4) bd]) (wc' := (fun (_ : Unit) => [])) (wn := (fun (_ : Unit) => [xBandBoat h_bb a_bb bb, xBand (a_bb 4) bd])) (isC := []) (isR := [0, 1]) (is2 := [0, 1]) cx hP hD hS ⟨rfl, rfl, by decide, by decide, by decide, by decide, fun _ => rfl⟩ (rS (As := [.int parts, .int (0 : Int32), .int (40000 : Int32)]) (rest := []) cx (c_X9_within l E parts (0 : Int32) (40000 : Int32) _) (va_cwS 3 hts gX9_pull_X9_within rfl rfl rfl (by decide +kernel) ⟨Nat.le_of_ble_eq_true rfl, Nat.le_of_ble_eq_true rfl⟩) rfl hl.1 rfl (Nat.le_of_ble_eq_true rfl) dX9_pull_4 ⟨Nat.zero_le _, Nat.zero_le _⟩) (fun r1 u H locs hw hP hD hS => ?_)
  subst hw
  refine lv_if_ne (tgt := 12) hx hb dX9_pull_7 (by decide) (fun c7 => ?_) (fun c7 => ?_)
  · rw [if_neg c7] at hρ
    refine lv_iload_n hx hb dX9_pull_12 rfl (lv_at hl 2 rfl) ?_
    refine lv_if_eq (tgt := 27) hx hb dX9_pull_13 (by decide) (fun c13 => ?_) (fun c13 => ?_)
    · rw [if_pos c13] at hρ
      refine lv_aload_n hx hb dX9_pull_27 rfl (lv_at hl 0 rfl) ?_
      refine va_get (D := E.1) (ci := 9) (v := .ref (a_bb 4)) (C := RX9) (T := TX9) (N := 18) hx hb hts iX9_pull_X9 hown hE.1 hP 0 rfl rfl 4 (by decide) (hts (.fieldLink RX9 36 "BandBoat" "band" "LBandBoat$Band;") (List.mem_of_getElem? (i := 2) rfl)) (fun _ h9 => h9) rfl dX9_pull_28 ?_
      refine lv_iload_n hx hb dX9_pull_31 rfl (lv_at hl 1 rfl) ?_
      refine kI (wc := [xBand (a_bb 4) bd]) (wr := [xBandBoat h_bb a_bb bb]) (wc' := (fun (_ : Unit) => [xBand (a_bb 4) bd])) (wn := (fun (_ : Unit) => [xBandBoat h_bb a_bb bb, xBand (a_bb 4) bd])) (isC := [1]) (isR := [0]) (is2 := [0, 1]) cx hP hD hS ⟨rfl, rfl, by decide, by decide, by decide, by decide, fun _ => rfl⟩ (rVN (As := [.int parts]) (rest := []) (C := RX0) (q0 := 0) (ci := 0) cx (c_X0_wound l E (a_bb 4) bd parts _) (va_cnB 1 hts gX9_pull_X0_wound_n153 rfl rfl rfl (hE.nw 88 rfl) (hts (.initialized RX0) (List.mem_of_getElem? (i := 8) rfl)) (by decide +kernel) ⟨Nat.le_of_ble_eq_true rfl, Nat.le_of_ble_eq_true rfl⟩) (hts (.instanceMethod yX0_wound) (List.mem_of_getElem? (i := 14) rfl)) (hts (.selects RX0 yX0_wound yX0_wound) (List.mem_of_getElem? (i := 15) rfl)) rfl rfl rfl rfl hl.1 rfl (Nat.le_of_ble_eq_true rfl) dX9_pull_32 ⟨Nat.zero_le _, Nat.zero_le _⟩) (fun r2 u H locs hw hP hD hS => ?_)
      subst hw
      exact hq (F_X0_wound bd parts) () _ _ _ _ dX9_pull_35 rfl (hρ0.trans hρ).symm hP hD hS
    · rw [if_neg c13] at hρ
      refine lv_aload_n hx hb dX9_pull_16 rfl (lv_at hl 0 rfl) ?_
      refine va_get (D := E.1) (ci := 9) (v := .ref (a_bb 4)) (C := RX9) (T := TX9) (N := 18) hx hb hts iX9_pull_X9 hown hE.1 hP 0 rfl rfl 4 (by decide) (hts (.fieldLink RX9 36 "BandBoat" "band" "LBandBoat$Band;") (List.mem_of_getElem? (i := 2) rfl)) (fun _ h9 => h9) rfl dX9_pull_17 ?_
      refine lv_iload_n hx hb dX9_pull_20 rfl (lv_at hl 1 rfl) ?_
      refine kI (wc := [xBand (a_bb 4) bd]) (wr := [xBandBoat h_bb a_bb bb]) (wc' := (fun (_ : Unit) => [xBand (a_bb 4) bd])) (wn := (fun (_ : Unit) => [xBandBoat h_bb a_bb bb, xBand (a_bb 4) bd])) (isC := [1]) (isR := [0]) (is2 := [0, 1]) cx hP hD hS ⟨rfl, rfl, by decide, by decide, by decide, by decide, fun _ => rfl⟩ (rVN (As := [.int parts]) (rest := []) (C := RX0) (q0 := 0) (ci := 0) cx (c_X0_loosed l E (a_bb 4) bd parts _) (va_cnB 1 hts gX9_pull_X0_loosed_n149 rfl rfl rfl (hE.nw 87 rfl) (hts (.initialized RX0) (List.mem_of_getElem? (i := 8) rfl)) (by decide +kernel) ⟨Nat.le_of_ble_eq_true rfl, Nat.le_of_ble_eq_true rfl⟩) (hts (.instanceMethod yX0_loosed) (List.mem_of_getElem? (i := 7) rfl)) (hts (.selects RX0 yX0_loosed yX0_loosed) (List.mem_of_getElem? (i := 9) rfl)) rfl rfl rfl rfl hl.1 rfl (Nat.le_of_ble_eq_true rfl) dX9_pull_21 ⟨Nat.zero_le _, Nat.zero_le _⟩) (fun r3 u H locs hw hP hD hS => ?_)
      subst hw
      refine lv_goto (tgt := 35) hx hb dX9_pull_24 (by decide) ?_
      exact hq (F_X0_loosed bd parts) () _ _ _ _ dX9_pull_35 rfl (hρ0.trans hρ).symm hP hD hS
  · rw [if_pos c7] at hρ
    refine lv_iconst (v := (-1 : Int32)) hx hb dX9_pull_10 (by decide) ?_
    exact hq (-1 : Int32) () _ _ _ _ dX9_pull_11 rfl (hρ0.trans hρ).symm hP hD hS
def F_X9_run_k43 (what : Int32) (v4 : Int32) (v5 : Int32) (v6 : Int32) (g7 : Nat → Int32) (g8 : Nat → Int32) (g9 : Nat → Int32) : Int32 × Int32 × Int32 × Int32 × (Nat → Int32) × (Nat → Int32) × (Nat → Int32) := (if what = (0 : Int32) then (v4, v4, v5, v6, g7, g8, g9) else (if what = (1 : Int32) then ((g7 2), v4, v5, v6, g7, g8, g9) else (if what = (2 : Int32) then (v5, v4, v5, v6, g7, g8, g9) else (if what = (3 : Int32) then (((g7 4) + (10000000 : Int32)), v4, v5, v6, g7, g8, g9) else (v6, v4, v5, v6, g7, g8, g9)))))
def F_X9_run (la : Nat → Int32) (tl : Nat → Int32) (tl_motion : Nat → Int32) (tl_band : Nat → Int32) (tl_path : Nat → Int32) (n : Int32) (z : Int32) (what : Int32) : Int32 × Int32 × Int32 × Int32 × (Nat → Int32) × (Nat → Int32) × (Nat → Int32) := (if (F_X9_isTurns n) = (0 : Int32) then ((-1 : Int32), (tl 3), (tl 4), (tl 5), tl_motion, tl_band, tl_path) else (if (F_X9_within z (-1 : Int32) (9999 : Int32)) = (0 : Int32) then ((-1 : Int32), (tl 3), (tl 4), (tl 5), tl_motion, tl_band, tl_path) else (if (F_X9_within what (0 : Int32) (4 : Int32)) = (0 : Int32) then ((-1 : Int32), (tl 3), (tl 4), (tl 5), tl_motion, tl_band, tl_path) else (match F_X8_make tl tl_motion tl_band tl_path la n z (600 : Int32) (0 : Int32) with | (v4, v5, v6, g7, g8, g9) => F_X9_run_k43 what v4 v5 v6 g7 g8 g9))))
theorem iX9_run_X4 : ∀ w ∈ wsX40, w ∈ wsX9_run := fun _ h => List.mem_cons_of_mem _ (List.mem_append_left _ (List.mem_append_left _ (List.mem_append_right _ h)))
theorem iX9_run_X8 : ∀ w ∈ wsX80, w ∈ wsX9_run := fun _ h => List.mem_cons_of_mem _ (List.mem_append_left _ (List.mem_append_left _ (List.mem_append_left _ (List.mem_append_right _ h))))
theorem iX9_run_X9 : ∀ w ∈ wsX90, w ∈ wsX9_run := fun _ h => List.mem_cons_of_mem _ (List.mem_append_left _ (List.mem_append_left _ (List.mem_append_left _ (List.mem_append_left _ (List.mem_append_right _ h)))))
set_option maxHeartbeats 4000000 in
set_option maxRecDepth 100000 in
theorem c_X9_run (l : Launch) (E : wV) (h_bb : Nat) (a_bb : Nat → Nat) (a_tl : Nat → Nat) (bb : Nat → Int32) (la : Nat → Int32) (tl : Nat → Int32) (tl_motion : Nat → Int32) (tl_band : Nat → Int32) (tl_path : Nat → Int32) (n : Int32) (z : Int32) (what : Int32) : MetI l yX9_run wsX9_run ({ frames := 4, cells := 0, slots := 0, locals := 98 } : Room) E ([.ref h_bb, .int n, .int z, .int what] : List Value) [xBandBoat h_bb a_bb bb, xRig (a_bb 2) la, xTrial (a_bb 5) a_tl tl, xMotion (a_tl 0) tl_motion, xBand (a_tl 1) tl_band, xI E (a_tl 2) 601 tl_path] (fun (r : Int32) (u : Int32 × Int32 × Int32 × (Nat → Int32) × (Nat → Int32) × (Nat → Int32)) => F_X9_run la tl tl_motion tl_band tl_path n z what = (r, u)) (fun (u : Int32 × Int32 × Int32 × (Nat → Int32) × (Nat → Int32) × (Nat → Int32)) => [xBandBoat h_bb a_bb bb, xRig (a_bb 2) la, xTrial (a_bb 5) a_tl (upd (upd (upd tl 3 u.1) 4 u.2.1) 5 u.2.2.1), xMotion (a_tl 0) u.2.2.2.1, xBand (a_tl 1) u.2.2.2.2.1, xI E (a_tl 2) 601 u.2.2.2.2.2]) := by
  refine MetI.of (cc := cX9_run) (maxL := 4) (own := RX9) (by decide) rfl rfl (Nat.le_of_ble_eq_true rfl) ?_
  intro p e s m below meth c A Q ls cx hP hD hS hl hq
  obtain ⟨hx, hb, hml, hown, hts, hE, hA⟩ := id cx
  have hl : lv_has ls 4 [(0, .ref h_bb), (1, .int n), (2, .int z), (3, .int what)] := hl
  have hP : va_P E.1 vwCl [xBandBoat h_bb a_bb bb, xRig (a_bb 2) la, xTrial (a_bb 5) a_tl tl, xMotion (a_tl 0) tl_motion, xBand (a_tl 1) tl_band, xI E (a_tl 2) 601 tl_path] s.heap := hP
  obtain ⟨ρ, hρ0⟩ : ∃ ρ, F_X9_run la tl tl_motion tl_band tl_path n z what = ρ := ⟨_, rfl⟩
  have hρ := hρ0.symm
  unfold F_X9_run at hρ
  refine lv_iload_n hx hb dX9_run_0 rfl (lv_at hl 1 rfl) ?_
  refine kI (wc := []) (wr := [xBandBoat h_bb a_bb bb, xRig (a_bb 2) la, xTrial (a_bb 5) a_tl tl, xMotion (a_tl 0) tl_motion, xBand (a_tl 1) tl_band, xI E (a_tl 2) 601 tl_path]) (wc' := (fun (_ : Unit) => [])) (wn := (fun (_ : Unit) => [xBandBoat h_bb a_bb bb, xRig (a_bb 2) la, xTrial (a_bb 5) a_tl tl, xMotion (a_tl 0) tl_motion, xBand (a_tl 1) tl_band, xI E (a_tl 2) 601 tl_path])) (isC := []) (isR := [0, 1, 2, 3, 4, 5]) (is2 := [0, 1, 2, 3, 4, 5]) cx hP hD hS ⟨rfl, rfl, by decide, by decide, by decide, by decide, fun _ => rfl⟩ (rS (As := [.int n]) (rest := []) cx (c_X9_isTurns l E n _) (va_cwS 1 hts gX9_run_X9_isTurns rfl rfl rfl (by decide +kernel) ⟨Nat.le_of_ble_eq_true rfl, Nat.le_of_ble_eq_true rfl⟩) rfl hl.1 rfl (Nat.le_of_ble_eq_true rfl) dX9_run_1 ⟨Nat.zero_le _, Nat.zero_le _⟩) (fun r1 u H locs hw hP hD hS => ?_)
  subst hw
  refine lv_if_eq (tgt := 27) hx hb dX9_run_4 (by decide) (fun c4 => ?_) (fun c4 => ?_)
  · rw [if_pos c4] at hρ
    refine lv_iconst (v := (-1 : Int32)) hx hb dX9_run_27 (by decide) ?_
    exact hq (-1 : Int32) ((tl 3), (tl 4), (tl 5), tl_motion, tl_band, tl_path) _ _ _ _ dX9_run_28 rfl (hρ0.trans hρ) hP hD hS
  · rw [if_neg c4] at hρ
    refine lv_iload_n hx hb dX9_run_7 rfl (lv_at hl 2 rfl) ?_
    refine lv_iconst (v := (-1 : Int32)) hx hb dX9_run_8 (by decide) ?_
    refine lv_sipush (v := (9999 : Int32)) hx hb dX9_run_9 (by decide) ?_
    refine kI (wc := []) (wr := [xBandBoat h_bb a_bb bb, xRig (a_bb 2) la, xTrial (a_bb 5) a_tl tl, xMotion (a_tl 0) tl_motion, xBand (a_tl 1) tl_band, xI E (a_tl 2) 601 tl_path]) (wc' := (fun (_ : Unit) => [])) (wn := (fun (_ : Unit) => [xBandBoat h_bb a_bb bb, xRig (a_bb 2) la, xTrial (a_bb 5) a_tl tl, xMotion (a_tl 0) tl_motion, xBand (a_tl 1) tl_band, xI E (a_tl 2) 601 tl_path])) (isC := []) (isR := [0, 1, 2, 3, 4, 5]) (is2 := [0, 1, 2, 3, 4, 5]) cx hP hD hS ⟨rfl, rfl, by decide, by decide, by decide, by decide, fun _ => rfl⟩ (rS (As := [.int z, .int (-1 : Int32), .int (9999 : Int32)]) (rest := []) cx (c_X9_within l E z (-1 : Int32) (9999 : Int32) _) (va_cwS 3 hts gX9_run_X9_within rfl rfl rfl (by decide +kernel) ⟨Nat.le_of_ble_eq_true rfl, Nat.le_of_ble_eq_true rfl⟩) rfl hl.1 rfl (Nat.le_of_ble_eq_true rfl) dX9_run_12 ⟨Nat.zero_le _, Nat.zero_le _⟩) (fun r2 u H locs hw hP hD hS => ?_)
    subst hw
    refine lv_if_eq (tgt := 27) hx hb dX9_run_15 (by decide) (fun c15 => ?_) (fun c15 => ?_)
    · rw [if_pos c15] at hρ
      refine lv_iconst (v := (-1 : Int32)) hx hb dX9_run_27 (by decide) ?_
      exact hq (-1 : Int32) ((tl 3), (tl 4), (tl 5), tl_motion, tl_band, tl_path) _ _ _ _ dX9_run_28 rfl (hρ0.trans hρ) hP hD hS
    · rw [if_neg c15] at hρ
      refine lv_iload_n hx hb dX9_run_18 rfl (lv_at hl 3 rfl) ?_
      refine lv_iconst (v := (0 : Int32)) hx hb dX9_run_19 (by decide) ?_
      refine lv_iconst (v := (4 : Int32)) hx hb dX9_run_20 (by decide) ?_
      refine kI (wc := []) (wr := [xBandBoat h_bb a_bb bb, xRig (a_bb 2) la, xTrial (a_bb 5) a_tl tl, xMotion (a_tl 0) tl_motion, xBand (a_tl 1) tl_band, xI E (a_tl 2) 601 tl_path]) (wc' := (fun (_ : Unit) => [])) (wn := (fun (_ : Unit) => [xBandBoat h_bb a_bb bb, xRig (a_bb 2) la, xTrial (a_bb 5) a_tl tl, xMotion (a_tl 0) tl_motion, xBand (a_tl 1) tl_band, xI E (a_tl 2) 601 tl_path])) (isC := []) (isR := [0, 1, 2, 3, 4, 5]) (is2 := [0, 1, 2, 3, 4, 5]) cx hP hD hS ⟨rfl, rfl, by decide, by decide, by decide, by decide, fun _ => rfl⟩ (rS (As := [.int what, .int (0 : Int32), .int (4 : Int32)]) (rest := []) cx (c_X9_within l E what (0 : Int32) (4 : Int32) _) (va_cwS 3 hts gX9_run_X9_within rfl rfl rfl (by decide +kernel) ⟨Nat.le_of_ble_eq_true rfl, Nat.le_of_ble_eq_true rfl⟩) rfl hl.1 rfl (Nat.le_of_ble_eq_true rfl) dX9_run_21 ⟨Nat.zero_le _, Nat.zero_le _⟩) (fun r3 u H locs hw hP hD hS => ?_)
      subst hw
      refine lv_if_ne (tgt := 29) hx hb dX9_run_24 (by decide) (fun c24 => ?_) (fun c24 => ?_)
      · rw [if_neg c24] at hρ
        refine lv_aload_n hx hb dX9_run_29 rfl (lv_at hl 0 rfl) ?_
        refine va_get (D := E.1) (ci := 9) (v := .ref (a_bb 5)) (C := RX9) (T := TX9) (N := 18) hx hb hts iX9_run_X9 hown hE.1 hP 0 rfl rfl 5 (by decide) (hts (.fieldLink RX9 43 "BandBoat" "trial" "LBandBoat$Trial;") (List.mem_of_getElem? (i := 1) rfl)) (fun _ h9 => h9) rfl dX9_run_30 ?_
        refine lv_aload_n hx hb dX9_run_33 rfl (lv_at hl 0 rfl) ?_
        refine va_get (D := E.1) (ci := 9) (v := .ref (a_bb 2)) (C := RX9) (T := TX9) (N := 18) hx hb hts iX9_run_X9 hown hE.1 hP 0 rfl rfl 2 (by decide) (hts (.fieldLink RX9 26 "BandBoat" "laid" "LBandBoat$Rig;") (List.mem_of_getElem? (i := 2) rfl)) (fun _ h9 => h9) rfl dX9_run_34 ?_
        refine lv_iload_n hx hb dX9_run_37 rfl (lv_at hl 1 rfl) ?_
        refine lv_iload_n hx hb dX9_run_38 rfl (lv_at hl 2 rfl) ?_
        refine lv_sipush (v := (600 : Int32)) hx hb dX9_run_39 (by decide) ?_
        refine lv_iconst (v := (0 : Int32)) hx hb dX9_run_42 (by decide) ?_
        refine kV (wc := [xTrial (a_bb 5) a_tl tl, xMotion (a_tl 0) tl_motion, xBand (a_tl 1) tl_band, xI E (a_tl 2) 601 tl_path, xRig (a_bb 2) la]) (wr := [xBandBoat h_bb a_bb bb]) (wc' := (fun (u : Int32 × Int32 × Int32 × (Nat → Int32) × (Nat → Int32) × (Nat → Int32)) => [xTrial (a_bb 5) a_tl (upd (upd (upd tl 3 u.1) 4 u.2.1) 5 u.2.2.1), xMotion (a_tl 0) u.2.2.2.1, xBand (a_tl 1) u.2.2.2.2.1, xI E (a_tl 2) 601 u.2.2.2.2.2, xRig (a_bb 2) la])) (wn := (fun (u : Int32 × Int32 × Int32 × (Nat → Int32) × (Nat → Int32) × (Nat → Int32)) => [xBandBoat h_bb a_bb bb, xRig (a_bb 2) la, xTrial (a_bb 5) a_tl (upd (upd (upd tl 3 u.1) 4 u.2.1) 5 u.2.2.1), xMotion (a_tl 0) u.2.2.2.1, xBand (a_tl 1) u.2.2.2.2.1, xI E (a_tl 2) 601 u.2.2.2.2.2])) (isC := [2, 3, 4, 5, 1]) (isR := [0]) (is2 := [0, 5, 1, 2, 3, 4]) cx hP hD hS ⟨rfl, rfl, by decide, by decide, by decide, by decide, fun _ => rfl⟩ (rVN (As := [.ref (a_bb 2), .int n, .int z, .int (600 : Int32), .int (0 : Int32)]) (rest := []) (C := RX8) (q0 := 0) (ci := 8) cx (c_X8_make l E (a_bb 5) (a_bb 2) a_tl tl tl_motion tl_band tl_path la n z (600 : Int32) (0 : Int32) (by decide) _) (va_cnB 5 hts gX9_run_X8_make_n160 rfl rfl rfl (hE.nw 89 rfl) (hts (.initialized RX8) (List.mem_of_getElem? (i := 12) rfl)) (by decide +kernel) ⟨Nat.le_of_ble_eq_true rfl, Nat.le_of_ble_eq_true rfl⟩) (hts (.instanceMethod yX8_make) (List.mem_of_getElem? (i := 11) rfl)) (hts (.selects RX8 yX8_make yX8_make) (List.mem_of_getElem? (i := 13) rfl)) rfl rfl rfl rfl hl.1 rfl (Nat.le_of_ble_eq_true rfl) dX9_run_43 ⟨Nat.zero_le _, Nat.zero_le _⟩) (fun u H locs hw hP hD hS => ?_)
        obtain ⟨v4, v5, v6, g7, g8, g9⟩ := u
        have hP : va_P E.1 vwCl [xBandBoat h_bb a_bb bb, xRig (a_bb 2) la, xTrial (a_bb 5) a_tl (upd (upd (upd tl 3 v4) 4 v5) 5 v6), xMotion (a_tl 0) g7, xBand (a_tl 1) g8, xI E (a_tl 2) 601 g9] H := hP
        have hD : va_D A [xBandBoat h_bb a_bb bb, xRig (a_bb 2) la, xTrial (a_bb 5) a_tl (upd (upd (upd tl 3 v4) 4 v5) 5 v6), xMotion (a_tl 0) g7, xBand (a_tl 1) g8, xI E (a_tl 2) 601 g9] := hD
        have hw : F_X8_make tl tl_motion tl_band tl_path la n z (600 : Int32) (0 : Int32) = (v4, v5, v6, g7, g8, g9) := hw
        rw [hw] at hρ
        have hρ : ρ = F_X9_run_k43 what v4 v5 v6 g7 g8 g9 := hρ
        unfold F_X9_run_k43 at hρ
        refine lv_iload_n hx hb dX9_run_46 rfl (lv_at hl 3 rfl) ?_
        by_cases c47_0 : what = (0 : Int32)
        · rw [if_pos c47_0] at hρ
          refine lv_tableIn (tgt := 76) hx hb dX9_run_47 (by rw [c47_0]; decide) (by rw [c47_0]; decide) (by rw [c47_0]; rfl) (by decide) ?_
          refine lv_aload_n hx hb dX9_run_76 rfl (lv_at hl 0 rfl) ?_
          refine va_get (D := E.1) (ci := 9) (v := .ref (a_bb 5)) (C := RX9) (T := TX9) (N := 18) hx hb hts iX9_run_X9 hown hE.1 hP 0 rfl rfl 5 (by decide) (hts (.fieldLink RX9 43 "BandBoat" "trial" "LBandBoat$Trial;") (List.mem_of_getElem? (i := 1) rfl)) (fun _ h9 => h9) rfl dX9_run_77 ?_
          refine va_getN (D := E.1) (ci := 8) (v := .int v4) (C := RX8) (T := TX8) (N := 6) hx hb hts iX9_run_X8 hown hE.1 hP 2 rfl rfl 3 (by decide) (hE.n 59 rfl) (fun _ h9 => h9) rfl dX9_run_80 ?_
          exact hq v4 (v4, v5, v6, g7, g8, g9) _ _ _ _ dX9_run_83 rfl (hρ0.trans hρ) hP hD hS
        · rw [if_neg c47_0] at hρ
          by_cases c47_1 : what = (1 : Int32)
          · rw [if_pos c47_1] at hρ
            refine lv_tableIn (tgt := 84) hx hb dX9_run_47 (by rw [c47_1]; decide) (by rw [c47_1]; decide) (by rw [c47_1]; rfl) (by decide) ?_
            refine lv_aload_n hx hb dX9_run_84 rfl (lv_at hl 0 rfl) ?_
            refine va_get (D := E.1) (ci := 9) (v := .ref (a_bb 5)) (C := RX9) (T := TX9) (N := 18) hx hb hts iX9_run_X9 hown hE.1 hP 0 rfl rfl 5 (by decide) (hts (.fieldLink RX9 43 "BandBoat" "trial" "LBandBoat$Trial;") (List.mem_of_getElem? (i := 1) rfl)) (fun _ h9 => h9) rfl dX9_run_85 ?_
            refine va_getN (D := E.1) (ci := 8) (v := .ref (a_tl 0)) (C := RX8) (T := TX8) (N := 6) hx hb hts iX9_run_X8 hown hE.1 hP 2 rfl rfl 0 (by decide) (hE.n 57 rfl) (fun _ h9 => h9) rfl dX9_run_88 ?_
            refine va_getN (D := E.1) (ci := 4) (v := .int (g7 2)) (C := RX4) (T := TX4) (N := 7) hx hb hts iX9_run_X4 hown hE.1 hP 3 rfl rfl 2 (by decide) (hE.n 52 rfl) (fun _ h9 => h9) rfl dX9_run_91 ?_
            exact hq (g7 2) (v4, v5, v6, g7, g8, g9) _ _ _ _ dX9_run_94 rfl (hρ0.trans hρ) hP hD hS
          · rw [if_neg c47_1] at hρ
            by_cases c47_2 : what = (2 : Int32)
            · rw [if_pos c47_2] at hρ
              refine lv_tableIn (tgt := 95) hx hb dX9_run_47 (by rw [c47_2]; decide) (by rw [c47_2]; decide) (by rw [c47_2]; rfl) (by decide) ?_
              refine lv_aload_n hx hb dX9_run_95 rfl (lv_at hl 0 rfl) ?_
              refine va_get (D := E.1) (ci := 9) (v := .ref (a_bb 5)) (C := RX9) (T := TX9) (N := 18) hx hb hts iX9_run_X9 hown hE.1 hP 0 rfl rfl 5 (by decide) (hts (.fieldLink RX9 43 "BandBoat" "trial" "LBandBoat$Trial;") (List.mem_of_getElem? (i := 1) rfl)) (fun _ h9 => h9) rfl dX9_run_96 ?_
              refine va_getN (D := E.1) (ci := 8) (v := .int v5) (C := RX8) (T := TX8) (N := 6) hx hb hts iX9_run_X8 hown hE.1 hP 2 rfl rfl 4 (by decide) (hE.n 60 rfl) (fun _ h9 => h9) rfl dX9_run_99 ?_
              exact hq v5 (v4, v5, v6, g7, g8, g9) _ _ _ _ dX9_run_102 rfl (hρ0.trans hρ) hP hD hS
            · rw [if_neg c47_2] at hρ
              by_cases c47_3 : what = (3 : Int32)
              · rw [if_pos c47_3] at hρ
                refine lv_tableIn (tgt := 103) hx hb dX9_run_47 (by rw [c47_3]; decide) (by rw [c47_3]; decide) (by rw [c47_3]; rfl) (by decide) ?_
                refine lv_aload_n hx hb dX9_run_103 rfl (lv_at hl 0 rfl) ?_
                refine va_get (D := E.1) (ci := 9) (v := .ref (a_bb 5)) (C := RX9) (T := TX9) (N := 18) hx hb hts iX9_run_X9 hown hE.1 hP 0 rfl rfl 5 (by decide) (hts (.fieldLink RX9 43 "BandBoat" "trial" "LBandBoat$Trial;") (List.mem_of_getElem? (i := 1) rfl)) (fun _ h9 => h9) rfl dX9_run_104 ?_
                refine va_getN (D := E.1) (ci := 8) (v := .ref (a_tl 0)) (C := RX8) (T := TX8) (N := 6) hx hb hts iX9_run_X8 hown hE.1 hP 2 rfl rfl 0 (by decide) (hE.n 57 rfl) (fun _ h9 => h9) rfl dX9_run_107 ?_
                refine va_getN (D := E.1) (ci := 4) (v := .int (g7 4)) (C := RX4) (T := TX4) (N := 7) hx hb hts iX9_run_X4 hown hE.1 hP 3 rfl rfl 4 (by decide) (hE.n 54 rfl) (fun _ h9 => h9) rfl dX9_run_110 ?_
                refine lv_ldc (own := RX9) (v := (10000000 : Int32)) hx hb hown (hts (.constant RX9 179 (10000000)) (List.mem_of_getElem? (i := 3) rfl)) dX9_run_113 ?_
                refine lv_iadd hx hb dX9_run_115 ?_
                exact hq ((g7 4) + (10000000 : Int32)) (v4, v5, v6, g7, g8, g9) _ _ _ _ dX9_run_116 rfl (hρ0.trans hρ) hP hD hS
              · rw [if_neg c47_3] at hρ
                refine lv_tableOut (tgt := 117) hx hb dX9_run_47 (by have q0 := lv_neT c47_0 (a := 0) (by decide); have q1 := lv_neT c47_1 (a := 1) (by decide); have q2 := lv_neT c47_2 (a := 2) (by decide); have q3 := lv_neT c47_3 (a := 3) (by decide); omega) (by decide) ?_
                refine lv_aload_n hx hb dX9_run_117 rfl (lv_at hl 0 rfl) ?_
                refine va_get (D := E.1) (ci := 9) (v := .ref (a_bb 5)) (C := RX9) (T := TX9) (N := 18) hx hb hts iX9_run_X9 hown hE.1 hP 0 rfl rfl 5 (by decide) (hts (.fieldLink RX9 43 "BandBoat" "trial" "LBandBoat$Trial;") (List.mem_of_getElem? (i := 1) rfl)) (fun _ h9 => h9) rfl dX9_run_118 ?_
                refine va_getN (D := E.1) (ci := 8) (v := .int v6) (C := RX8) (T := TX8) (N := 6) hx hb hts iX9_run_X8 hown hE.1 hP 2 rfl rfl 5 (by decide) (hE.n 61 rfl) (fun _ h9 => h9) rfl dX9_run_121 ?_
                exact hq v6 (v4, v5, v6, g7, g8, g9) _ _ _ _ dX9_run_124 rfl (hρ0.trans hρ) hP hD hS
      · rw [if_pos c24] at hρ
        refine lv_iconst (v := (-1 : Int32)) hx hb dX9_run_27 (by decide) ?_
        exact hq (-1 : Int32) ((tl 3), (tl 4), (tl 5), tl_motion, tl_band, tl_path) _ _ _ _ dX9_run_28 rfl (hρ0.trans hρ) hP hD hS
def F_X9_when_k44 (tl : Nat → Int32) (d : Int32) (v4 : Int32) (v5 : Int32) (v6 : Int32) (g7 : Nat → Int32) (g8 : Nat → Int32) (g9 : Nat → Int32) : Int32 × Int32 × Int32 × Int32 × (Nat → Int32) × (Nat → Int32) × (Nat → Int32) := ((F_X8_firstAt (upd (upd (upd tl 3 v4) 4 v5) 5 v6) g9 d), v4, v5, v6, g7, g8, g9)
def F_X9_when (la : Nat → Int32) (tl : Nat → Int32) (tl_motion : Nat → Int32) (tl_band : Nat → Int32) (tl_path : Nat → Int32) (n : Int32) (z : Int32) (d : Int32) : Int32 × Int32 × Int32 × Int32 × (Nat → Int32) × (Nat → Int32) × (Nat → Int32) := (if (F_X9_isTurns n) = (0 : Int32) then ((-1 : Int32), (tl 3), (tl 4), (tl 5), tl_motion, tl_band, tl_path) else (if (F_X9_within z (-1 : Int32) (9999 : Int32)) = (0 : Int32) then ((-1 : Int32), (tl 3), (tl 4), (tl 5), tl_motion, tl_band, tl_path) else (if (F_X9_within d (1 : Int32) (99999 : Int32)) = (0 : Int32) then ((-1 : Int32), (tl 3), (tl 4), (tl 5), tl_motion, tl_band, tl_path) else (match F_X8_make tl tl_motion tl_band tl_path la n z (600 : Int32) (0 : Int32) with | (v4, v5, v6, g7, g8, g9) => F_X9_when_k44 tl d v4 v5 v6 g7 g8 g9))))
theorem iX9_when_X9 : ∀ w ∈ wsX90, w ∈ wsX9_when := fun _ h => List.mem_cons_of_mem _ (List.mem_append_left _ (List.mem_append_left _ (List.mem_append_left _ (List.mem_append_left _ (List.mem_append_right _ h)))))
set_option maxHeartbeats 4000000 in
set_option maxRecDepth 100000 in
theorem c_X9_when (l : Launch) (E : wV) (h_bb : Nat) (a_bb : Nat → Nat) (a_tl : Nat → Nat) (bb : Nat → Int32) (la : Nat → Int32) (tl : Nat → Int32) (tl_motion : Nat → Int32) (tl_band : Nat → Int32) (tl_path : Nat → Int32) (n : Int32) (z : Int32) (d : Int32) : MetI l yX9_when wsX9_when ({ frames := 4, cells := 0, slots := 0, locals := 98 } : Room) E ([.ref h_bb, .int n, .int z, .int d] : List Value) [xBandBoat h_bb a_bb bb, xRig (a_bb 2) la, xTrial (a_bb 5) a_tl tl, xMotion (a_tl 0) tl_motion, xBand (a_tl 1) tl_band, xI E (a_tl 2) 601 tl_path] (fun (r : Int32) (u : Int32 × Int32 × Int32 × (Nat → Int32) × (Nat → Int32) × (Nat → Int32)) => F_X9_when la tl tl_motion tl_band tl_path n z d = (r, u)) (fun (u : Int32 × Int32 × Int32 × (Nat → Int32) × (Nat → Int32) × (Nat → Int32)) => [xBandBoat h_bb a_bb bb, xRig (a_bb 2) la, xTrial (a_bb 5) a_tl (upd (upd (upd tl 3 u.1) 4 u.2.1) 5 u.2.2.1), xMotion (a_tl 0) u.2.2.2.1, xBand (a_tl 1) u.2.2.2.2.1, xI E (a_tl 2) 601 u.2.2.2.2.2]) := by
  refine MetI.of (cc := cX9_when) (maxL := 4) (own := RX9) (by decide) rfl rfl (Nat.le_of_ble_eq_true rfl) ?_
  intro p e s m below meth c A Q ls cx hP hD hS hl hq
  obtain ⟨hx, hb, hml, hown, hts, hE, hA⟩ := id cx
  have hl : lv_has ls 4 [(0, .ref h_bb), (1, .int n), (2, .int z), (3, .int d)] := hl
  have hP : va_P E.1 vwCl [xBandBoat h_bb a_bb bb, xRig (a_bb 2) la, xTrial (a_bb 5) a_tl tl, xMotion (a_tl 0) tl_motion, xBand (a_tl 1) tl_band, xI E (a_tl 2) 601 tl_path] s.heap := hP
  obtain ⟨ρ, hρ0⟩ : ∃ ρ, F_X9_when la tl tl_motion tl_band tl_path n z d = ρ := ⟨_, rfl⟩
  have hρ := hρ0.symm
  unfold F_X9_when at hρ
  refine lv_iload_n hx hb dX9_when_0 rfl (lv_at hl 1 rfl) ?_
  refine kI (wc := []) (wr := [xBandBoat h_bb a_bb bb, xRig (a_bb 2) la, xTrial (a_bb 5) a_tl tl, xMotion (a_tl 0) tl_motion, xBand (a_tl 1) tl_band, xI E (a_tl 2) 601 tl_path]) (wc' := (fun (_ : Unit) => [])) (wn := (fun (_ : Unit) => [xBandBoat h_bb a_bb bb, xRig (a_bb 2) la, xTrial (a_bb 5) a_tl tl, xMotion (a_tl 0) tl_motion, xBand (a_tl 1) tl_band, xI E (a_tl 2) 601 tl_path])) (isC := []) (isR := [0, 1, 2, 3, 4, 5]) (is2 := [0, 1, 2, 3, 4, 5]) cx hP hD hS ⟨rfl, rfl, by decide, by decide, by decide, by decide, fun _ => rfl⟩ (rS (As := [.int n]) (rest := []) cx (c_X9_isTurns l E n _) (va_cwS 1 hts gX9_when_X9_isTurns rfl rfl rfl (by decide +kernel) ⟨Nat.le_of_ble_eq_true rfl, Nat.le_of_ble_eq_true rfl⟩) rfl hl.1 rfl (Nat.le_of_ble_eq_true rfl) dX9_when_1 ⟨Nat.zero_le _, Nat.zero_le _⟩) (fun r1 u H locs hw hP hD hS => ?_)
  subst hw
  refine lv_if_eq (tgt := 28) hx hb dX9_when_4 (by decide) (fun c4 => ?_) (fun c4 => ?_)
  · rw [if_pos c4] at hρ
    refine lv_iconst (v := (-1 : Int32)) hx hb dX9_when_28 (by decide) ?_
    exact hq (-1 : Int32) ((tl 3), (tl 4), (tl 5), tl_motion, tl_band, tl_path) _ _ _ _ dX9_when_29 rfl (hρ0.trans hρ) hP hD hS
  · rw [if_neg c4] at hρ
    refine lv_iload_n hx hb dX9_when_7 rfl (lv_at hl 2 rfl) ?_
    refine lv_iconst (v := (-1 : Int32)) hx hb dX9_when_8 (by decide) ?_
    refine lv_sipush (v := (9999 : Int32)) hx hb dX9_when_9 (by decide) ?_
    refine kI (wc := []) (wr := [xBandBoat h_bb a_bb bb, xRig (a_bb 2) la, xTrial (a_bb 5) a_tl tl, xMotion (a_tl 0) tl_motion, xBand (a_tl 1) tl_band, xI E (a_tl 2) 601 tl_path]) (wc' := (fun (_ : Unit) => [])) (wn := (fun (_ : Unit) => [xBandBoat h_bb a_bb bb, xRig (a_bb 2) la, xTrial (a_bb 5) a_tl tl, xMotion (a_tl 0) tl_motion, xBand (a_tl 1) tl_band, xI E (a_tl 2) 601 tl_path])) (isC := []) (isR := [0, 1, 2, 3, 4, 5]) (is2 := [0, 1, 2, 3, 4, 5]) cx hP hD hS ⟨rfl, rfl, by decide, by decide, by decide, by decide, fun _ => rfl⟩ (rS (As := [.int z, .int (-1 : Int32), .int (9999 : Int32)]) (rest := []) cx (c_X9_within l E z (-1 : Int32) (9999 : Int32) _) (va_cwS 3 hts gX9_when_X9_within rfl rfl rfl (by decide +kernel) ⟨Nat.le_of_ble_eq_true rfl, Nat.le_of_ble_eq_true rfl⟩) rfl hl.1 rfl (Nat.le_of_ble_eq_true rfl) dX9_when_12 ⟨Nat.zero_le _, Nat.zero_le _⟩) (fun r2 u H locs hw hP hD hS => ?_)
    subst hw
    refine lv_if_eq (tgt := 28) hx hb dX9_when_15 (by decide) (fun c15 => ?_) (fun c15 => ?_)
    · rw [if_pos c15] at hρ
      refine lv_iconst (v := (-1 : Int32)) hx hb dX9_when_28 (by decide) ?_
      exact hq (-1 : Int32) ((tl 3), (tl 4), (tl 5), tl_motion, tl_band, tl_path) _ _ _ _ dX9_when_29 rfl (hρ0.trans hρ) hP hD hS
    · rw [if_neg c15] at hρ
      refine lv_iload_n hx hb dX9_when_18 rfl (lv_at hl 3 rfl) ?_
      refine lv_iconst (v := (1 : Int32)) hx hb dX9_when_19 (by decide) ?_
      refine lv_ldc (own := RX9) (v := (99999 : Int32)) hx hb hown (hts (.constant RX9 183 (99999)) (List.mem_of_getElem? (i := 1) rfl)) dX9_when_20 ?_
      refine kI (wc := []) (wr := [xBandBoat h_bb a_bb bb, xRig (a_bb 2) la, xTrial (a_bb 5) a_tl tl, xMotion (a_tl 0) tl_motion, xBand (a_tl 1) tl_band, xI E (a_tl 2) 601 tl_path]) (wc' := (fun (_ : Unit) => [])) (wn := (fun (_ : Unit) => [xBandBoat h_bb a_bb bb, xRig (a_bb 2) la, xTrial (a_bb 5) a_tl tl, xMotion (a_tl 0) tl_motion, xBand (a_tl 1) tl_band, xI E (a_tl 2) 601 tl_path])) (isC := []) (isR := [0, 1, 2, 3, 4, 5]) (is2 := [0, 1, 2, 3, 4, 5]) cx hP hD hS ⟨rfl, rfl, by decide, by decide, by decide, by decide, fun _ => rfl⟩ (rS (As := [.int d, .int (1 : Int32), .int (99999 : Int32)]) (rest := []) cx (c_X9_within l E d (1 : Int32) (99999 : Int32) _) (va_cwS 3 hts gX9_when_X9_within rfl rfl rfl (by decide +kernel) ⟨Nat.le_of_ble_eq_true rfl, Nat.le_of_ble_eq_true rfl⟩) rfl hl.1 rfl (Nat.le_of_ble_eq_true rfl) dX9_when_22 ⟨Nat.zero_le _, Nat.zero_le _⟩) (fun r3 u H locs hw hP hD hS => ?_)
      subst hw
      refine lv_if_ne (tgt := 30) hx hb dX9_when_25 (by decide) (fun c25 => ?_) (fun c25 => ?_)
      · rw [if_neg c25] at hρ
        refine lv_aload_n hx hb dX9_when_30 rfl (lv_at hl 0 rfl) ?_
        refine va_get (D := E.1) (ci := 9) (v := .ref (a_bb 5)) (C := RX9) (T := TX9) (N := 18) hx hb hts iX9_when_X9 hown hE.1 hP 0 rfl rfl 5 (by decide) (hts (.fieldLink RX9 43 "BandBoat" "trial" "LBandBoat$Trial;") (List.mem_of_getElem? (i := 2) rfl)) (fun _ h9 => h9) rfl dX9_when_31 ?_
        refine lv_aload_n hx hb dX9_when_34 rfl (lv_at hl 0 rfl) ?_
        refine va_get (D := E.1) (ci := 9) (v := .ref (a_bb 2)) (C := RX9) (T := TX9) (N := 18) hx hb hts iX9_when_X9 hown hE.1 hP 0 rfl rfl 2 (by decide) (hts (.fieldLink RX9 26 "BandBoat" "laid" "LBandBoat$Rig;") (List.mem_of_getElem? (i := 3) rfl)) (fun _ h9 => h9) rfl dX9_when_35 ?_
        refine lv_iload_n hx hb dX9_when_38 rfl (lv_at hl 1 rfl) ?_
        refine lv_iload_n hx hb dX9_when_39 rfl (lv_at hl 2 rfl) ?_
        refine lv_sipush (v := (600 : Int32)) hx hb dX9_when_40 (by decide) ?_
        refine lv_iconst (v := (0 : Int32)) hx hb dX9_when_43 (by decide) ?_
        refine kV (wc := [xTrial (a_bb 5) a_tl tl, xMotion (a_tl 0) tl_motion, xBand (a_tl 1) tl_band, xI E (a_tl 2) 601 tl_path, xRig (a_bb 2) la]) (wr := [xBandBoat h_bb a_bb bb]) (wc' := (fun (u : Int32 × Int32 × Int32 × (Nat → Int32) × (Nat → Int32) × (Nat → Int32)) => [xTrial (a_bb 5) a_tl (upd (upd (upd tl 3 u.1) 4 u.2.1) 5 u.2.2.1), xMotion (a_tl 0) u.2.2.2.1, xBand (a_tl 1) u.2.2.2.2.1, xI E (a_tl 2) 601 u.2.2.2.2.2, xRig (a_bb 2) la])) (wn := (fun (u : Int32 × Int32 × Int32 × (Nat → Int32) × (Nat → Int32) × (Nat → Int32)) => [xBandBoat h_bb a_bb bb, xRig (a_bb 2) la, xTrial (a_bb 5) a_tl (upd (upd (upd tl 3 u.1) 4 u.2.1) 5 u.2.2.1), xMotion (a_tl 0) u.2.2.2.1, xBand (a_tl 1) u.2.2.2.2.1, xI E (a_tl 2) 601 u.2.2.2.2.2])) (isC := [2, 3, 4, 5, 1]) (isR := [0]) (is2 := [0, 5, 1, 2, 3, 4]) cx hP hD hS ⟨rfl, rfl, by decide, by decide, by decide, by decide, fun _ => rfl⟩ (rVN (As := [.ref (a_bb 2), .int n, .int z, .int (600 : Int32), .int (0 : Int32)]) (rest := []) (C := RX8) (q0 := 0) (ci := 8) cx (c_X8_make l E (a_bb 5) (a_bb 2) a_tl tl tl_motion tl_band tl_path la n z (600 : Int32) (0 : Int32) (by decide) _) (va_cnB 5 hts gX9_when_X8_make_n160 rfl rfl rfl (hE.nw 89 rfl) (hts (.initialized RX8) (List.mem_of_getElem? (i := 12) rfl)) (by decide +kernel) ⟨Nat.le_of_ble_eq_true rfl, Nat.le_of_ble_eq_true rfl⟩) (hts (.instanceMethod yX8_make) (List.mem_of_getElem? (i := 11) rfl)) (hts (.selects RX8 yX8_make yX8_make) (List.mem_of_getElem? (i := 13) rfl)) rfl rfl rfl rfl hl.1 rfl (Nat.le_of_ble_eq_true rfl) dX9_when_44 ⟨Nat.zero_le _, Nat.zero_le _⟩) (fun u H locs hw hP hD hS => ?_)
        obtain ⟨v4, v5, v6, g7, g8, g9⟩ := u
        have hP : va_P E.1 vwCl [xBandBoat h_bb a_bb bb, xRig (a_bb 2) la, xTrial (a_bb 5) a_tl (upd (upd (upd tl 3 v4) 4 v5) 5 v6), xMotion (a_tl 0) g7, xBand (a_tl 1) g8, xI E (a_tl 2) 601 g9] H := hP
        have hD : va_D A [xBandBoat h_bb a_bb bb, xRig (a_bb 2) la, xTrial (a_bb 5) a_tl (upd (upd (upd tl 3 v4) 4 v5) 5 v6), xMotion (a_tl 0) g7, xBand (a_tl 1) g8, xI E (a_tl 2) 601 g9] := hD
        have hw : F_X8_make tl tl_motion tl_band tl_path la n z (600 : Int32) (0 : Int32) = (v4, v5, v6, g7, g8, g9) := hw
        rw [hw] at hρ
        have hρ : ρ = F_X9_when_k44 tl d v4 v5 v6 g7 g8 g9 := hρ
        unfold F_X9_when_k44 at hρ
        refine lv_aload_n hx hb dX9_when_47 rfl (lv_at hl 0 rfl) ?_
        refine va_get (D := E.1) (ci := 9) (v := .ref (a_bb 5)) (C := RX9) (T := TX9) (N := 18) hx hb hts iX9_when_X9 hown hE.1 hP 0 rfl rfl 5 (by decide) (hts (.fieldLink RX9 43 "BandBoat" "trial" "LBandBoat$Trial;") (List.mem_of_getElem? (i := 2) rfl)) (fun _ h9 => h9) rfl dX9_when_48 ?_
        refine lv_iload_n hx hb dX9_when_51 rfl (lv_at hl 3 rfl) ?_
        refine kI (wc := [xTrial (a_bb 5) a_tl (upd (upd (upd tl 3 v4) 4 v5) 5 v6), xMotion (a_tl 0) g7, xBand (a_tl 1) g8, xI E (a_tl 2) 601 g9]) (wr := [xBandBoat h_bb a_bb bb, xRig (a_bb 2) la]) (wc' := (fun (_ : Unit) => [xTrial (a_bb 5) a_tl (upd (upd (upd tl 3 v4) 4 v5) 5 v6), xMotion (a_tl 0) g7, xBand (a_tl 1) g8, xI E (a_tl 2) 601 g9])) (wn := (fun (_ : Unit) => [xBandBoat h_bb a_bb bb, xRig (a_bb 2) la, xTrial (a_bb 5) a_tl (upd (upd (upd tl 3 v4) 4 v5) 5 v6), xMotion (a_tl 0) g7, xBand (a_tl 1) g8, xI E (a_tl 2) 601 g9])) (isC := [2, 3, 4, 5]) (isR := [0, 1]) (is2 := [0, 1, 2, 3, 4, 5]) cx hP hD hS ⟨rfl, rfl, by decide, by decide, by decide, by decide, fun _ => rfl⟩ (rVN (As := [.int d]) (rest := []) (C := RX8) (q0 := 0) (ci := 8) cx (c_X8_firstAt l E (a_bb 5) a_tl (upd (upd (upd tl 3 v4) 4 v5) 5 v6) g7 g8 g9 d _) (va_cnB 1 hts gX9_when_X8_firstAt_n184 rfl rfl rfl (hE.nw 98 rfl) (hts (.initialized RX8) (List.mem_of_getElem? (i := 12) rfl)) (by decide +kernel) ⟨Nat.le_of_ble_eq_true rfl, Nat.le_of_ble_eq_true rfl⟩) (hts (.instanceMethod yX8_firstAt) (List.mem_of_getElem? (i := 85) rfl)) (hts (.selects RX8 yX8_firstAt yX8_firstAt) (List.mem_of_getElem? (i := 86) rfl)) rfl rfl rfl rfl hl.1 rfl (Nat.le_of_ble_eq_true rfl) dX9_when_52 ⟨Nat.zero_le _, Nat.zero_le _⟩) (fun r10 u H locs hw hP hD hS => ?_)
        subst hw
        exact hq (F_X8_firstAt (upd (upd (upd tl 3 v4) 4 v5) 5 v6) g9 d) (v4, v5, v6, g7, g8, g9) _ _ _ _ dX9_when_55 rfl (hρ0.trans hρ) hP hD hS
      · rw [if_pos c25] at hρ
        refine lv_iconst (v := (-1 : Int32)) hx hb dX9_when_28 (by decide) ?_
        exact hq (-1 : Int32) ((tl 3), (tl 4), (tl 5), tl_motion, tl_band, tl_path) _ _ _ _ dX9_when_29 rfl (hρ0.trans hρ) hP hD hS
def F_X9_lost_k66 (x7_28 : Int32) (v4 : Int64) (v6 : Int64) : (Int32 × Int64 × Int64) ⊕ (Int32 × Int64 × Int64) := Sum.inl ((x7_28 + (1 : Int32)), v6, v4)
def F_X9_lost_k49 (bd : Nat → Int32) (x7_28 : Int32) (x5_28 : Int64) (v4 : Int64) : (Int32 × Int64 × Int64) ⊕ (Int32 × Int64 × Int64) := F_X9_lost_k66 x7_28 v4 (x5_28 + (Int32.toInt64 (F_X0_loosed bd ((100 : Int32) * x7_28))))
def F_X9_lost_b28 (bd : Nat → Int32) (n : Int32) (x7_28 : Int32) (x5_28 : Int64) (x3_28 : Int64) : (Int32 × Int64 × Int64) ⊕ (Int32 × Int64 × Int64) := (if n < x7_28 then Sum.inr (x7_28, x5_28, x3_28) else F_X9_lost_k49 bd x7_28 x5_28 (x3_28 + (Int32.toInt64 (F_X0_wound bd ((100 : Int32) * x7_28)))))
def F_X9_lost_l28 (bd : Nat → Int32) (n : Int32) : Nat → (Int32) → (Int64) → (Int64) → Int32 × Int64 × Int64
  | 0, x7_28, x5_28, x3_28 => (x7_28, x5_28, x3_28)
  | n_28 + 1, x7_28, x5_28, x3_28 => match F_X9_lost_b28 bd n x7_28 x5_28 x3_28 with
    | Sum.inl (c_x7_28, c_x5_28, c_x3_28) => F_X9_lost_l28 bd n n_28 c_x7_28 c_x5_28 c_x3_28
    | Sum.inr r_ => r_
def F_X9_lost_x28 (what : Int32) (bx5_28 : Int64) (bx3_28 : Int64) : Int64 := (if what = (0 : Int32) then (bx3_28 - bx5_28) else bx3_28)
def F_X9_lost (bd : Nat → Int32) (n : Int32) (what : Int32) : Int64 := (if (F_X9_isTurns n) = (0 : Int32) then (-1 : Int64) else (if (F_X9_within what (0 : Int32) (1 : Int32)) = (0 : Int32) then (-1 : Int64) else (match F_X9_lost_l28 bd n ((Int32.toInt n).toNat) (1 : Int32) (0 : Int64) (0 : Int64) with | (bx7_28, bx5_28, bx3_28) => F_X9_lost_x28 what bx5_28 bx3_28)))
theorem iX9_lost_X9 : ∀ w ∈ wsX90, w ∈ wsX9_lost := fun _ h => List.mem_cons_of_mem _ (List.mem_append_left _ (List.mem_append_right _ h))
set_option maxHeartbeats 4000000 in
set_option maxRecDepth 100000 in
theorem c_X9_lost (l : Launch) (E : wV) (h_bb : Nat) (a_bb : Nat → Nat) (bb : Nat → Int32) (bd : Nat → Int32) (n : Int32) (what : Int32) : MetL l yX9_lost wsX9_lost ({ frames := 2, cells := 0, slots := 0, locals := 43 } : Room) E ([.ref h_bb, .int n, .int what] : List Value) [xBandBoat h_bb a_bb bb, xBand (a_bb 4) bd] (fun (r : Int64) (_ : Unit) => r = F_X9_lost bd n what) (fun (_ : Unit) => [xBandBoat h_bb a_bb bb, xBand (a_bb 4) bd]) := by
  refine MetL.of (cc := cX9_lost) (maxL := 8) (own := RX9) (by decide) rfl rfl (Nat.le_of_ble_eq_true rfl) ?_
  intro p e s m below meth c A Q ls cx hP hD hS hl hq
  obtain ⟨hx, hb, hml, hown, hts, hE, hA⟩ := id cx
  have hl : lv_has ls 8 [(0, .ref h_bb), (1, .int n), (2, .int what)] := hl
  have hP : va_P E.1 vwCl [xBandBoat h_bb a_bb bb, xBand (a_bb 4) bd] s.heap := hP
  obtain ⟨ρ, hρ0⟩ : ∃ ρ, F_X9_lost bd n what = ρ := ⟨_, rfl⟩
  have hρ := hρ0.symm
  unfold F_X9_lost at hρ
  refine lv_iload_n hx hb dX9_lost_0 rfl (lv_at hl 1 rfl) ?_
  refine kI (wc := []) (wr := [xBandBoat h_bb a_bb bb, xBand (a_bb 4) bd]) (wc' := (fun (_ : Unit) => [])) (wn := (fun (_ : Unit) => [xBandBoat h_bb a_bb bb, xBand (a_bb 4) bd])) (isC := []) (isR := [0, 1]) (is2 := [0, 1]) cx hP hD hS ⟨rfl, rfl, by decide, by decide, by decide, by decide, fun _ => rfl⟩ (rS (As := [.int n]) (rest := []) cx (c_X9_isTurns l E n _) (va_cwS 1 hts gX9_lost_X9_isTurns rfl rfl rfl (by decide +kernel) ⟨Nat.le_of_ble_eq_true rfl, Nat.le_of_ble_eq_true rfl⟩) rfl hl.1 rfl (Nat.le_of_ble_eq_true rfl) dX9_lost_1 ⟨Nat.zero_le _, Nat.zero_le _⟩) (fun r1 u H locs hw hP hD hS => ?_)
  subst hw
  refine lv_if_eq (tgt := 16) hx hb dX9_lost_4 (by decide) (fun c4 => ?_) (fun c4 => ?_)
  · rw [if_pos c4] at hρ
    refine lv_ldc2 (own := RX9) (v := (-1 : Int64)) hx hb hown (hts (.constantLong RX9 187 (-1)) (List.mem_of_getElem? (i := 1) rfl)) dX9_lost_16 ?_
    exact hq (-1 : Int64) () _ _ _ _ dX9_lost_19 (hρ0.trans hρ).symm hP hD hS
  · rw [if_neg c4] at hρ
    refine lv_iload_n hx hb dX9_lost_7 rfl (lv_at hl 2 rfl) ?_
    refine lv_iconst (v := (0 : Int32)) hx hb dX9_lost_8 (by decide) ?_
    refine lv_iconst (v := (1 : Int32)) hx hb dX9_lost_9 (by decide) ?_
    refine kI (wc := []) (wr := [xBandBoat h_bb a_bb bb, xBand (a_bb 4) bd]) (wc' := (fun (_ : Unit) => [])) (wn := (fun (_ : Unit) => [xBandBoat h_bb a_bb bb, xBand (a_bb 4) bd])) (isC := []) (isR := [0, 1]) (is2 := [0, 1]) cx hP hD hS ⟨rfl, rfl, by decide, by decide, by decide, by decide, fun _ => rfl⟩ (rS (As := [.int what, .int (0 : Int32), .int (1 : Int32)]) (rest := []) cx (c_X9_within l E what (0 : Int32) (1 : Int32) _) (va_cwS 3 hts gX9_lost_X9_within rfl rfl rfl (by decide +kernel) ⟨Nat.le_of_ble_eq_true rfl, Nat.le_of_ble_eq_true rfl⟩) rfl hl.1 rfl (Nat.le_of_ble_eq_true rfl) dX9_lost_10 ⟨Nat.zero_le _, Nat.zero_le _⟩) (fun r2 u H locs hw hP hD hS => ?_)
    subst hw
    refine lv_if_ne (tgt := 20) hx hb dX9_lost_13 (by decide) (fun c13 => ?_) (fun c13 => ?_)
    · rw [if_neg c13] at hρ
      refine lv_lconst (v := (0 : Int64)) hx hb dX9_lost_20 (by decide) ?_
      refine lv_lstore_n (lv' := [(3, .long (0 : Int64)), (0, .ref h_bb), (1, .int n), (2, .int what)]) hx hb dX9_lost_21 rfl hl (by decide) rfl (fun ls hl => ?_)
      refine lv_lconst (v := (0 : Int64)) hx hb dX9_lost_22 (by decide) ?_
      refine lv_lstore (lv' := [(5, .long (0 : Int64)), (3, .long (0 : Int64)), (0, .ref h_bb), (1, .int n), (2, .int what)]) hx hb dX9_lost_23 hl (by decide) rfl (fun ls hl => ?_)
      refine lv_iconst (v := (1 : Int32)) hx hb dX9_lost_25 (by decide) ?_
      refine lv_istore (lv' := [(7, .int (1 : Int32)), (5, .long (0 : Int64)), (3, .long (0 : Int64)), (0, .ref h_bb), (1, .int n), (2, .int what)]) hx hb dX9_lost_26 hl (by decide) rfl (fun ls hl => ?_)
      have hL28 : ∀ (n_28 : Nat) (x7_28 : Int32) (x5_28 : Int64) (x3_28 : Int64) (H : Heap) (locs : List Loc) (ls : Array Slot), ((n : Int32).toInt < (x7_28).toInt + (n_28 : Nat)) → va_P E.1 vwCl [xBandBoat h_bb a_bb bb, xBand (a_bb 4) bd] H → va_D A [xBandBoat h_bb a_bb bb, xBand (a_bb 4) bd] → va_S A s.heap H locs → lv_has ls 8 [(7, .int x7_28), (5, .long x5_28), (3, .long x3_28), (0, .ref h_bb), (1, .int n), (2, .int what)] → (∀ (ox7_28 : Int32) (ox5_28 : Int64) (ox3_28 : Int64) (H : Heap) (locs : List Loc) (ls : Array Slot), F_X9_lost_l28 bd n n_28 x7_28 x5_28 x3_28 = (ox7_28, ox5_28, ox3_28) → va_P E.1 vwCl [xBandBoat h_bb a_bb bb, xBand (a_bb 4) bd] H → va_D A [xBandBoat h_bb a_bb bb, xBand (a_bb 4) bd] → va_S A s.heap H locs → lv_has ls 8 [(7, .int ox7_28), (5, .long ox5_28), (3, .long ox3_28), (0, .ref h_bb), (1, .int n), (2, .int what)] → W p l e ({ frames := 2, cells := 0, slots := 0, locals := 43 } : Room) s m ([.ref h_bb, .int n, .int what] : List Value).toArray below meth c H locs 0 0 Q (F0 m 74 ls [])) → W p l e ({ frames := 2, cells := 0, slots := 0, locals := 43 } : Room) s m ([.ref h_bb, .int n, .int what] : List Value).toArray below meth c H locs 0 0 Q (F0 m 28 ls []) := by
        intro n_28
        induction n_28 with
        | zero =>
          intro x7_28 x5_28 x3_28 H locs ls hM hP hD hS hl hK
          have hM28 := hM
          obtain ⟨σ28, hσ028⟩ : ∃ σ, F_X9_lost_l28 bd n 0 x7_28 x5_28 x3_28 = σ := ⟨_, rfl⟩
          have hσ28 := hσ028.symm
          rw [F_X9_lost_l28] at hσ28
          refine lv_iload hx hb dX9_lost_28 (lv_at hl 0 rfl) ?_
          refine lv_iload_n hx hb dX9_lost_30 rfl (lv_at hl 4 rfl) ?_
          refine lv_icmp_gt (tgt := 74) hx hb dX9_lost_31 (by decide) (fun c31 => ?_) (fun c31 => ?_)
          · exact hK x7_28 x5_28 x3_28 _ _ _ (hσ028.trans hσ28) hP hD hS (lv_sub hl [0, 1, 2, 3, 4, 5] rfl)
          · exact (cnt_le0 c31 hM).elim
        | succ n_28 ih =>
          intro x7_28 x5_28 x3_28 H locs ls hM hP hD hS hl hK
          have hM28 := hM
          obtain ⟨σ28, hσ028⟩ : ∃ σ, F_X9_lost_l28 bd n (n_28 + 1) x7_28 x5_28 x3_28 = σ := ⟨_, rfl⟩
          have hσ28 := hσ028.symm
          rw [F_X9_lost_l28] at hσ28
          obtain ⟨τ28, hτ028⟩ : ∃ τ, F_X9_lost_b28 bd n x7_28 x5_28 x3_28 = τ := ⟨_, rfl⟩
          rw [hτ028] at hσ28
          have hτ28 := hτ028.symm
          unfold F_X9_lost_b28 at hτ28
          refine lv_iload hx hb dX9_lost_28 (lv_at hl 0 rfl) ?_
          refine lv_iload_n hx hb dX9_lost_30 rfl (lv_at hl 4 rfl) ?_
          refine lv_icmp_gt (tgt := 74) hx hb dX9_lost_31 (by decide) (fun c31 => ?_) (fun c31 => ?_)
          · rw [if_pos c31] at hτ28
            have hσ28 : σ28 = (x7_28, x5_28, x3_28) := by subst hτ28; exact hσ28
            exact hK x7_28 x5_28 x3_28 _ _ _ (hσ028.trans hσ28) hP hD hS (lv_sub hl [0, 1, 2, 3, 4, 5] rfl)
          · rw [if_neg c31] at hτ28
            refine lv_lload_n hx hb dX9_lost_34 rfl (lv_at hl 2 rfl) ?_
            refine lv_aload_n hx hb dX9_lost_35 rfl (lv_at hl 3 rfl) ?_
            refine va_get (D := E.1) (ci := 9) (v := .ref (a_bb 4)) (C := RX9) (T := TX9) (N := 18) hx hb hts iX9_lost_X9 hown hE.1 hP 0 rfl rfl 4 (by decide) (hts (.fieldLink RX9 36 "BandBoat" "band" "LBandBoat$Band;") (List.mem_of_getElem? (i := 2) rfl)) (fun _ h9 => h9) rfl dX9_lost_36 ?_
            refine lv_bipush (v := (100 : Int32)) hx hb dX9_lost_39 (by decide) ?_
            refine lv_iload hx hb dX9_lost_41 (lv_at hl 0 rfl) ?_
            refine lv_imul hx hb dX9_lost_43 ?_
            refine kI (wc := [xBand (a_bb 4) bd]) (wr := [xBandBoat h_bb a_bb bb]) (wc' := (fun (_ : Unit) => [xBand (a_bb 4) bd])) (wn := (fun (_ : Unit) => [xBandBoat h_bb a_bb bb, xBand (a_bb 4) bd])) (isC := [1]) (isR := [0]) (is2 := [0, 1]) cx hP hD hS ⟨rfl, rfl, by decide, by decide, by decide, by decide, fun _ => rfl⟩ (rVN (As := [.int ((100 : Int32) * x7_28)]) (rest := [.long x3_28]) (C := RX0) (q0 := 0) (ci := 0) cx (c_X0_wound l E (a_bb 4) bd ((100 : Int32) * x7_28) _) (va_cnB 1 hts gX9_lost_X0_wound_n153 rfl rfl rfl (hE.nw 88 rfl) (hts (.initialized RX0) (List.mem_of_getElem? (i := 11) rfl)) (by decide +kernel) ⟨Nat.le_of_ble_eq_true rfl, Nat.le_of_ble_eq_true rfl⟩) (hts (.instanceMethod yX0_wound) (List.mem_of_getElem? (i := 10) rfl)) (hts (.selects RX0 yX0_wound yX0_wound) (List.mem_of_getElem? (i := 12) rfl)) rfl rfl rfl rfl hl.1 rfl (Nat.le_of_ble_eq_true rfl) dX9_lost_44 ⟨Nat.zero_le _, Nat.zero_le _⟩) (fun r3 u H locs hw hP hD hS => ?_)
            subst hw
            refine lv_i2l hx hb dX9_lost_47 rfl ?_
            refine lv_ladd hx hb dX9_lost_48 ?_
            refine lv_topl (fun v4 ev4 => ?_)
            have hτ28 : τ28 = F_X9_lost_k49 bd x7_28 x5_28 v4 := by rw [ev4]; exact hτ28
            unfold F_X9_lost_k49 at hτ28
            refine lv_lstore_n (lv' := [(3, .long v4), (7, .int x7_28), (5, .long x5_28), (0, .ref h_bb), (1, .int n), (2, .int what)]) hx hb dX9_lost_49 rfl hl (by decide) rfl (fun ls hl => ?_)
            refine lv_lload hx hb dX9_lost_50 (lv_at hl 2 rfl) ?_
            refine lv_aload_n hx hb dX9_lost_52 rfl (lv_at hl 3 rfl) ?_
            refine va_get (D := E.1) (ci := 9) (v := .ref (a_bb 4)) (C := RX9) (T := TX9) (N := 18) hx hb hts iX9_lost_X9 hown hE.1 hP 0 rfl rfl 4 (by decide) (hts (.fieldLink RX9 36 "BandBoat" "band" "LBandBoat$Band;") (List.mem_of_getElem? (i := 2) rfl)) (fun _ h9 => h9) rfl dX9_lost_53 ?_
            refine lv_bipush (v := (100 : Int32)) hx hb dX9_lost_56 (by decide) ?_
            refine lv_iload hx hb dX9_lost_58 (lv_at hl 1 rfl) ?_
            refine lv_imul hx hb dX9_lost_60 ?_
            refine kI (wc := [xBand (a_bb 4) bd]) (wr := [xBandBoat h_bb a_bb bb]) (wc' := (fun (_ : Unit) => [xBand (a_bb 4) bd])) (wn := (fun (_ : Unit) => [xBandBoat h_bb a_bb bb, xBand (a_bb 4) bd])) (isC := [1]) (isR := [0]) (is2 := [0, 1]) cx hP hD hS ⟨rfl, rfl, by decide, by decide, by decide, by decide, fun _ => rfl⟩ (rVN (As := [.int ((100 : Int32) * x7_28)]) (rest := [.long x5_28]) (C := RX0) (q0 := 0) (ci := 0) cx (c_X0_loosed l E (a_bb 4) bd ((100 : Int32) * x7_28) _) (va_cnB 1 hts gX9_lost_X0_loosed_n149 rfl rfl rfl (hE.nw 87 rfl) (hts (.initialized RX0) (List.mem_of_getElem? (i := 11) rfl)) (by decide +kernel) ⟨Nat.le_of_ble_eq_true rfl, Nat.le_of_ble_eq_true rfl⟩) (hts (.instanceMethod yX0_loosed) (List.mem_of_getElem? (i := 18) rfl)) (hts (.selects RX0 yX0_loosed yX0_loosed) (List.mem_of_getElem? (i := 19) rfl)) rfl rfl rfl rfl hl.1 rfl (Nat.le_of_ble_eq_true rfl) dX9_lost_61 ⟨Nat.zero_le _, Nat.zero_le _⟩) (fun r5 u H locs hw hP hD hS => ?_)
            subst hw
            refine lv_i2l hx hb dX9_lost_64 rfl ?_
            refine lv_ladd hx hb dX9_lost_65 ?_
            refine lv_topl (fun v6 ev6 => ?_)
            have hτ28 : τ28 = F_X9_lost_k66 x7_28 v4 v6 := by rw [ev6]; exact hτ28
            unfold F_X9_lost_k66 at hτ28
            refine lv_lstore (lv' := [(5, .long v6), (3, .long v4), (7, .int x7_28), (0, .ref h_bb), (1, .int n), (2, .int what)]) hx hb dX9_lost_66 hl (by decide) rfl (fun ls hl => ?_)
            refine lv_iinc (v := (x7_28 + (1 : Int32))) (lv' := [(7, .int (x7_28 + (1 : Int32))), (5, .long v6), (3, .long v4), (0, .ref h_bb), (1, .int n), (2, .int what)]) hx hb dX9_lost_68 hl (k := 2) rfl rfl (by decide) rfl (fun ls hl => ?_)
            refine lv_goto (tgt := 28) hx hb dX9_lost_71 (by decide) ?_
            have hσ28 : σ28 = F_X9_lost_l28 bd n n_28 (x7_28 + (1 : Int32)) v6 v4 := by subst hτ28; exact hσ28
            exact ih (x7_28 + (1 : Int32)) v6 v4 _ _ _ (cnt_le (isT' c4) c31 hM) hP hD hS (lv_sub hl [0, 1, 2, 3, 4, 5] rfl) (fun ox7_28 ox5_28 ox3_28 H locs ls he => hK ox7_28 ox5_28 ox3_28 H locs ls (hσ028.trans (hσ28.trans he)))
      refine hL28 ((Int32.toInt n).toNat) (1 : Int32) (0 : Int64) (0 : Int64) _ _ _ (by show _ < (1 : Int) + _; omega) hP hD hS (lv_sub hl [0, 1, 2, 3, 4, 5] rfl) ?_
      intro bx7_28 bx5_28 bx3_28 H locs ls he hP hD hS hl
      rw [he] at hρ
      have hρ : ρ = F_X9_lost_x28 what bx5_28 bx3_28 := hρ
      unfold F_X9_lost_x28 at hρ
      refine lv_iload_n hx hb dX9_lost_74 rfl (lv_at hl 5 rfl) ?_
      refine lv_if_ne (tgt := 85) hx hb dX9_lost_75 (by decide) (fun c75 => ?_) (fun c75 => ?_)
      · rw [if_neg c75] at hρ
        refine lv_lload_n hx hb dX9_lost_85 rfl (lv_at hl 2 rfl) ?_
        exact hq bx3_28 () _ _ _ _ dX9_lost_86 (hρ0.trans hρ).symm hP hD hS
      · rw [if_pos c75] at hρ
        refine lv_lload_n hx hb dX9_lost_78 rfl (lv_at hl 2 rfl) ?_
        refine lv_lload hx hb dX9_lost_79 (lv_at hl 1 rfl) ?_
        refine lv_lsub hx hb dX9_lost_81 ?_
        refine lv_goto (tgt := 86) hx hb dX9_lost_82 (by decide) ?_
        exact hq (bx3_28 - bx5_28) () _ _ _ _ dX9_lost_86 (hρ0.trans hρ).symm hP hD hS
    · rw [if_pos c13] at hρ
      refine lv_ldc2 (own := RX9) (v := (-1 : Int64)) hx hb hown (hts (.constantLong RX9 187 (-1)) (List.mem_of_getElem? (i := 1) rfl)) dX9_lost_16 ?_
      exact hq (-1 : Int64) () _ _ _ _ dX9_lost_19 (hρ0.trans hρ).symm hP hD hS
def F_X9_snapOf_k33 (la : Nat → Int32) (v2 : Int32) (v3 : Int32) : Int32 := (if v2 < v3 then (mmin (((v3 - v2) / (10 : Int32)) + ((5 : Int32) * (la 15))) (1000 : Int32)) else (0 : Int32))
def F_X9_snapOf_k28 (la : Nat → Int32) (n : Int32) (v2 : Int32) : Int32 := F_X9_snapOf_k33 la v2 ((100 : Int32) * n)
def F_X9_snapOf (la : Nat → Int32) (n : Int32) : Int32 := F_X9_snapOf_k28 la n (F_X9_cut (((10 : Int32) * (la 5)) * (la 7)) (la 6))
theorem iX9_snapOf_X6 : ∀ w ∈ wsX60, w ∈ wsX9_snapOf := fun _ h => List.mem_cons_of_mem _ (List.mem_append_right _ h)
theorem iX9_snapOf_X9 : ∀ w ∈ wsX90, w ∈ wsX9_snapOf := fun _ h => List.mem_cons_of_mem _ (List.mem_append_left _ (List.mem_append_right _ h))
set_option maxHeartbeats 4000000 in
set_option maxRecDepth 100000 in
theorem c_X9_snapOf (l : Launch) (E : wV) (h_bb : Nat) (a_bb : Nat → Nat) (bb : Nat → Int32) (la : Nat → Int32) (n : Int32) : MetI l yX9_snapOf wsX9_snapOf ({ frames := 1, cells := 0, slots := 0, locals := 21 } : Room) E ([.ref h_bb, .int n] : List Value) [xBandBoat h_bb a_bb bb, xRig (a_bb 2) la] (fun (r : Int32) (_ : Unit) => r = F_X9_snapOf la n) (fun (_ : Unit) => [xBandBoat h_bb a_bb bb, xRig (a_bb 2) la]) := by
  refine MetI.of (cc := cX9_snapOf) (maxL := 4) (own := RX9) (by decide) rfl rfl (Nat.le_of_ble_eq_true rfl) ?_
  intro p e s m below meth c A Q ls cx hP hD hS hl hq
  obtain ⟨hx, hb, hml, hown, hts, hE, hA⟩ := id cx
  have hl : lv_has ls 4 [(0, .ref h_bb), (1, .int n)] := hl
  have hP : va_P E.1 vwCl [xBandBoat h_bb a_bb bb, xRig (a_bb 2) la] s.heap := hP
  obtain ⟨ρ, hρ0⟩ : ∃ ρ, F_X9_snapOf la n = ρ := ⟨_, rfl⟩
  have hρ := hρ0.symm
  unfold F_X9_snapOf at hρ
  refine lv_bipush (v := (10 : Int32)) hx hb dX9_snapOf_0 (by decide) ?_
  refine lv_aload_n hx hb dX9_snapOf_2 rfl (lv_at hl 0 rfl) ?_
  refine va_get (D := E.1) (ci := 9) (v := .ref (a_bb 2)) (C := RX9) (T := TX9) (N := 18) hx hb hts iX9_snapOf_X9 hown hE.1 hP 0 rfl rfl 2 (by decide) (hts (.fieldLink RX9 26 "BandBoat" "laid" "LBandBoat$Rig;") (List.mem_of_getElem? (i := 1) rfl)) (fun _ h9 => h9) rfl dX9_snapOf_3 ?_
  refine va_getN (D := E.1) (ci := 6) (v := .int (la 5)) (C := RX6) (T := TX6) (N := 17) hx hb hts iX9_snapOf_X6 hown hE.1 hP 1 rfl rfl 5 (by decide) (hE.n 15 rfl) (fun _ h9 => h9) rfl dX9_snapOf_6 ?_
  refine lv_imul hx hb dX9_snapOf_9 ?_
  refine lv_aload_n hx hb dX9_snapOf_10 rfl (lv_at hl 0 rfl) ?_
  refine va_get (D := E.1) (ci := 9) (v := .ref (a_bb 2)) (C := RX9) (T := TX9) (N := 18) hx hb hts iX9_snapOf_X9 hown hE.1 hP 0 rfl rfl 2 (by decide) (hts (.fieldLink RX9 26 "BandBoat" "laid" "LBandBoat$Rig;") (List.mem_of_getElem? (i := 1) rfl)) (fun _ h9 => h9) rfl dX9_snapOf_11 ?_
  refine va_getN (D := E.1) (ci := 6) (v := .int (la 7)) (C := RX6) (T := TX6) (N := 17) hx hb hts iX9_snapOf_X6 hown hE.1 hP 1 rfl rfl 7 (by decide) (hE.n 21 rfl) (fun _ h9 => h9) rfl dX9_snapOf_14 ?_
  refine lv_imul hx hb dX9_snapOf_17 ?_
  refine lv_aload_n hx hb dX9_snapOf_18 rfl (lv_at hl 0 rfl) ?_
  refine va_get (D := E.1) (ci := 9) (v := .ref (a_bb 2)) (C := RX9) (T := TX9) (N := 18) hx hb hts iX9_snapOf_X9 hown hE.1 hP 0 rfl rfl 2 (by decide) (hts (.fieldLink RX9 26 "BandBoat" "laid" "LBandBoat$Rig;") (List.mem_of_getElem? (i := 1) rfl)) (fun _ h9 => h9) rfl dX9_snapOf_19 ?_
  refine va_getN (D := E.1) (ci := 6) (v := .int (la 6)) (C := RX6) (T := TX6) (N := 17) hx hb hts iX9_snapOf_X6 hown hE.1 hP 1 rfl rfl 6 (by decide) (hE.n 18 rfl) (fun _ h9 => h9) rfl dX9_snapOf_22 ?_
  refine kI (wc := []) (wr := [xBandBoat h_bb a_bb bb, xRig (a_bb 2) la]) (wc' := (fun (_ : Unit) => [])) (wn := (fun (_ : Unit) => [xBandBoat h_bb a_bb bb, xRig (a_bb 2) la])) (isC := []) (isR := [0, 1]) (is2 := [0, 1]) cx hP hD hS ⟨rfl, rfl, by decide, by decide, by decide, by decide, fun _ => rfl⟩ (rS (As := [.int (((10 : Int32) * (la 5)) * (la 7)), .int (la 6)]) (rest := []) cx (c_X9_cut l E (((10 : Int32) * (la 5)) * (la 7)) (la 6) _) (va_cwS 2 hts gX9_snapOf_X9_cut rfl rfl rfl (by decide +kernel) ⟨Nat.le_of_ble_eq_true rfl, Nat.le_of_ble_eq_true rfl⟩) rfl hl.1 rfl (Nat.le_of_ble_eq_true rfl) dX9_snapOf_25 ⟨Nat.zero_le _, Nat.zero_le _⟩) (fun r1 u H locs hw hP hD hS => ?_)
  subst hw
  refine lv_topi (fun v2 ev2 => ?_)
  have hρ : ρ = F_X9_snapOf_k28 la n v2 := by rw [ev2]; exact hρ
  unfold F_X9_snapOf_k28 at hρ
  refine lv_istore_n (lv' := [(2, .int v2), (0, .ref h_bb), (1, .int n)]) hx hb dX9_snapOf_28 rfl hl (by decide) rfl (fun ls hl => ?_)
  refine lv_bipush (v := (100 : Int32)) hx hb dX9_snapOf_29 (by decide) ?_
  refine lv_iload_n hx hb dX9_snapOf_31 rfl (lv_at hl 2 rfl) ?_
  refine lv_imul hx hb dX9_snapOf_32 ?_
  refine lv_topi (fun v3 ev3 => ?_)
  have hρ : ρ = F_X9_snapOf_k33 la v2 v3 := by rw [ev3]; exact hρ
  unfold F_X9_snapOf_k33 at hρ
  refine lv_istore_n (lv' := [(3, .int v3), (2, .int v2), (0, .ref h_bb), (1, .int n)]) hx hb dX9_snapOf_33 rfl hl (by decide) rfl (fun ls hl => ?_)
  refine lv_iload_n hx hb dX9_snapOf_34 rfl (lv_at hl 0 rfl) ?_
  refine lv_iload_n hx hb dX9_snapOf_35 rfl (lv_at hl 1 rfl) ?_
  refine lv_icmp_gt (tgt := 41) hx hb dX9_snapOf_36 (by decide) (fun c36 => ?_) (fun c36 => ?_)
  · rw [if_pos c36] at hρ
    refine lv_iload_n hx hb dX9_snapOf_41 rfl (lv_at hl 0 rfl) ?_
    refine lv_iload_n hx hb dX9_snapOf_42 rfl (lv_at hl 1 rfl) ?_
    refine lv_isub hx hb dX9_snapOf_43 ?_
    refine lv_bipush (v := (10 : Int32)) hx hb dX9_snapOf_44 (by decide) ?_
    refine lv_idiv hx hb dX9_snapOf_46 (by decide) ?_
    refine lv_iconst (v := (5 : Int32)) hx hb dX9_snapOf_47 (by decide) ?_
    refine lv_aload_n hx hb dX9_snapOf_48 rfl (lv_at hl 2 rfl) ?_
    refine va_get (D := E.1) (ci := 9) (v := .ref (a_bb 2)) (C := RX9) (T := TX9) (N := 18) hx hb hts iX9_snapOf_X9 hown hE.1 hP 0 rfl rfl 2 (by decide) (hts (.fieldLink RX9 26 "BandBoat" "laid" "LBandBoat$Rig;") (List.mem_of_getElem? (i := 1) rfl)) (fun _ h9 => h9) rfl dX9_snapOf_49 ?_
    refine va_getN (D := E.1) (ci := 6) (v := .int (la 15)) (C := RX6) (T := TX6) (N := 17) hx hb hts iX9_snapOf_X6 hown hE.1 hP 1 rfl rfl 15 (by decide) (hE.n 41 rfl) (fun _ h9 => h9) rfl dX9_snapOf_52 ?_
    refine lv_imul hx hb dX9_snapOf_55 ?_
    refine lv_iadd hx hb dX9_snapOf_56 ?_
    refine lv_sipush (v := (1000 : Int32)) hx hb dX9_snapOf_57 (by decide) ?_
    refine va_mmin hx hb (hml.trans hl.1.symm) hown (hts (.methodLink RX9 271 Lib.Math.min.name) (List.mem_of_getElem? (i := 2) rfl)) (hts (.static Lib.Math.min.name) (List.mem_of_getElem? (i := 3) rfl)) (hts (.initialized "java/lang/Math") (List.mem_of_getElem? (i := 4) rfl)) (hts (.code Lib.Math.min.name Lib.Math.min.code 2 (some .int)) (List.mem_of_getElem? (i := 5) rfl)) (by decide) (Nat.le_of_ble_eq_true rfl) (Nat.zero_le _) (Nat.zero_le _) dX9_snapOf_60 ?_
    exact hq (mmin (((v3 - v2) / (10 : Int32)) + ((5 : Int32) * (la 15))) (1000 : Int32)) () _ _ _ _ dX9_snapOf_63 rfl (hρ0.trans hρ).symm hP hD hS
  · rw [if_neg c36] at hρ
    refine lv_iconst (v := (0 : Int32)) hx hb dX9_snapOf_39 (by decide) ?_
    exact hq (0 : Int32) () _ _ _ _ dX9_snapOf_40 rfl (hρ0.trans hρ).symm hP hD hS
def F_X9_snap (la : Nat → Int32) (n : Int32) : Int32 := (if (F_X9_isTurns n) = (0 : Int32) then (-1 : Int32) else (F_X9_snapOf la n))
set_option maxHeartbeats 4000000 in
set_option maxRecDepth 100000 in
theorem c_X9_snap (l : Launch) (E : wV) (h_bb : Nat) (a_bb : Nat → Nat) (bb : Nat → Int32) (la : Nat → Int32) (n : Int32) : MetI l yX9_snap wsX9_snap ({ frames := 2, cells := 0, slots := 0, locals := 44 } : Room) E ([.ref h_bb, .int n] : List Value) [xBandBoat h_bb a_bb bb, xRig (a_bb 2) la] (fun (r : Int32) (_ : Unit) => r = F_X9_snap la n) (fun (_ : Unit) => [xBandBoat h_bb a_bb bb, xRig (a_bb 2) la]) := by
  refine MetI.of (cc := cX9_snap) (maxL := 2) (own := RX9) (by decide) rfl rfl (Nat.le_of_ble_eq_true rfl) ?_
  intro p e s m below meth c A Q ls cx hP hD hS hl hq
  obtain ⟨hx, hb, hml, hown, hts, hE, hA⟩ := id cx
  have hl : lv_has ls 2 [(0, .ref h_bb), (1, .int n)] := hl
  have hP : va_P E.1 vwCl [xBandBoat h_bb a_bb bb, xRig (a_bb 2) la] s.heap := hP
  obtain ⟨ρ, hρ0⟩ : ∃ ρ, F_X9_snap la n = ρ := ⟨_, rfl⟩
  have hρ := hρ0.symm
  unfold F_X9_snap at hρ
  refine lv_iload_n hx hb dX9_snap_0 rfl (lv_at hl 1 rfl) ?_
  refine kI (wc := []) (wr := [xBandBoat h_bb a_bb bb, xRig (a_bb 2) la]) (wc' := (fun (_ : Unit) => [])) (wn := (fun (_ : Unit) => [xBandBoat h_bb a_bb bb, xRig (a_bb 2) la])) (isC := []) (isR := [0, 1]) (is2 := [0, 1]) cx hP hD hS ⟨rfl, rfl, by decide, by decide, by decide, by decide, fun _ => rfl⟩ (rS (As := [.int n]) (rest := []) cx (c_X9_isTurns l E n _) (va_cwS 1 hts gX9_snap_X9_isTurns rfl rfl rfl (by decide +kernel) ⟨Nat.le_of_ble_eq_true rfl, Nat.le_of_ble_eq_true rfl⟩) rfl hl.1 rfl (Nat.le_of_ble_eq_true rfl) dX9_snap_1 ⟨Nat.zero_le _, Nat.zero_le _⟩) (fun r1 u H locs hw hP hD hS => ?_)
  subst hw
  refine lv_if_eq (tgt := 15) hx hb dX9_snap_4 (by decide) (fun c4 => ?_) (fun c4 => ?_)
  · rw [if_pos c4] at hρ
    refine lv_iconst (v := (-1 : Int32)) hx hb dX9_snap_15 (by decide) ?_
    exact hq (-1 : Int32) () _ _ _ _ dX9_snap_16 rfl (hρ0.trans hρ).symm hP hD hS
  · rw [if_neg c4] at hρ
    refine lv_aload_n hx hb dX9_snap_7 rfl (lv_at hl 0 rfl) ?_
    refine lv_iload_n hx hb dX9_snap_8 rfl (lv_at hl 1 rfl) ?_
    refine kI (wc := [xBandBoat h_bb a_bb bb, xRig (a_bb 2) la]) (wr := []) (wc' := (fun (_ : Unit) => [xBandBoat h_bb a_bb bb, xRig (a_bb 2) la])) (wn := (fun (_ : Unit) => [xBandBoat h_bb a_bb bb, xRig (a_bb 2) la])) (isC := [0, 1]) (isR := []) (is2 := [0, 1]) cx hP hD hS ⟨rfl, rfl, by decide, by decide, by decide, by decide, fun _ => rfl⟩ (rV (As := [.int n]) (rest := []) (C := RX9) (q0 := 0) (ci := 9) cx (c_X9_snapOf l E h_bb a_bb bb la n _) (cwV 1 hts gX9_snap_X9_snapOf rfl rfl rfl (by decide +kernel) ⟨Nat.le_of_ble_eq_true rfl, Nat.le_of_ble_eq_true rfl⟩) rfl rfl rfl rfl hl.1 rfl (Nat.le_of_ble_eq_true rfl) dX9_snap_9 ⟨Nat.zero_le _, Nat.zero_le _⟩) (fun r2 u H locs hw hP hD hS => ?_)
    subst hw
    refine lv_goto (tgt := 16) hx hb dX9_snap_12 (by decide) ?_
    exact hq (F_X9_snapOf la n) () _ _ _ _ dX9_snap_16 rfl (hρ0.trans hρ).symm hP hD hS
def F_X9_two_k27 (v2 : Int32) (v3 : Int32) (v4 : Int32) (g5 : Nat → Int32) (g6 : Nat → Int32) (g7 : Nat → Int32) : Int32 × Int32 × Int32 × Int32 × (Nat → Int32) × (Nat → Int32) × (Nat → Int32) := ((g5 2), v2, v3, v4, g5, g6, g7)
def F_X9_two (la : Nat → Int32) (tl : Nat → Int32) (tl_motion : Nat → Int32) (tl_band : Nat → Int32) (tl_path : Nat → Int32) (n : Int32) : Int32 × Int32 × Int32 × Int32 × (Nat → Int32) × (Nat → Int32) × (Nat → Int32) := (if (F_X9_within n (1 : Int32) (400 : Int32)) = (0 : Int32) then ((-1 : Int32), (tl 3), (tl 4), (tl 5), tl_motion, tl_band, tl_path) else (match F_X8_make tl tl_motion tl_band tl_path la n (-1 : Int32) (1200 : Int32) (1 : Int32) with | (v2, v3, v4, g5, g6, g7) => F_X9_two_k27 v2 v3 v4 g5 g6 g7))
theorem iX9_two_X4 : ∀ w ∈ wsX40, w ∈ wsX9_two := fun _ h => List.mem_cons_of_mem _ (List.mem_append_left _ (List.mem_append_left _ (List.mem_append_right _ h)))
theorem iX9_two_X8 : ∀ w ∈ wsX80, w ∈ wsX9_two := fun _ h => List.mem_cons_of_mem _ (List.mem_append_left _ (List.mem_append_left _ (List.mem_append_left _ (List.mem_append_right _ h))))
theorem iX9_two_X9 : ∀ w ∈ wsX90, w ∈ wsX9_two := fun _ h => List.mem_cons_of_mem _ (List.mem_append_left _ (List.mem_append_left _ (List.mem_append_left _ (List.mem_append_left _ (List.mem_append_right _ h)))))
set_option maxHeartbeats 4000000 in
set_option maxRecDepth 100000 in
theorem c_X9_two (l : Launch) (E : wV) (h_bb : Nat) (a_bb : Nat → Nat) (a_tl : Nat → Nat) (bb : Nat → Int32) (la : Nat → Int32) (tl : Nat → Int32) (tl_motion : Nat → Int32) (tl_band : Nat → Int32) (tl_path : Nat → Int32) (n : Int32) : MetI l yX9_two wsX9_two ({ frames := 4, cells := 0, slots := 0, locals := 98 } : Room) E ([.ref h_bb, .int n] : List Value) [xBandBoat h_bb a_bb bb, xRig (a_bb 2) la, xTrial (a_bb 5) a_tl tl, xMotion (a_tl 0) tl_motion, xBand (a_tl 1) tl_band, xI E (a_tl 2) 601 tl_path] (fun (r : Int32) (u : Int32 × Int32 × Int32 × (Nat → Int32) × (Nat → Int32) × (Nat → Int32)) => F_X9_two la tl tl_motion tl_band tl_path n = (r, u)) (fun (u : Int32 × Int32 × Int32 × (Nat → Int32) × (Nat → Int32) × (Nat → Int32)) => [xBandBoat h_bb a_bb bb, xRig (a_bb 2) la, xTrial (a_bb 5) a_tl (upd (upd (upd tl 3 u.1) 4 u.2.1) 5 u.2.2.1), xMotion (a_tl 0) u.2.2.2.1, xBand (a_tl 1) u.2.2.2.2.1, xI E (a_tl 2) 601 u.2.2.2.2.2]) := by
  refine MetI.of (cc := cX9_two) (maxL := 2) (own := RX9) (by decide) rfl rfl (Nat.le_of_ble_eq_true rfl) ?_
  intro p e s m below meth c A Q ls cx hP hD hS hl hq
  obtain ⟨hx, hb, hml, hown, hts, hE, hA⟩ := id cx
  have hl : lv_has ls 2 [(0, .ref h_bb), (1, .int n)] := hl
  have hP : va_P E.1 vwCl [xBandBoat h_bb a_bb bb, xRig (a_bb 2) la, xTrial (a_bb 5) a_tl tl, xMotion (a_tl 0) tl_motion, xBand (a_tl 1) tl_band, xI E (a_tl 2) 601 tl_path] s.heap := hP
  obtain ⟨ρ, hρ0⟩ : ∃ ρ, F_X9_two la tl tl_motion tl_band tl_path n = ρ := ⟨_, rfl⟩
  have hρ := hρ0.symm
  unfold F_X9_two at hρ
  refine lv_iload_n hx hb dX9_two_0 rfl (lv_at hl 1 rfl) ?_
  refine lv_iconst (v := (1 : Int32)) hx hb dX9_two_1 (by decide) ?_
  refine lv_sipush (v := (400 : Int32)) hx hb dX9_two_2 (by decide) ?_
  refine kI (wc := []) (wr := [xBandBoat h_bb a_bb bb, xRig (a_bb 2) la, xTrial (a_bb 5) a_tl tl, xMotion (a_tl 0) tl_motion, xBand (a_tl 1) tl_band, xI E (a_tl 2) 601 tl_path]) (wc' := (fun (_ : Unit) => [])) (wn := (fun (_ : Unit) => [xBandBoat h_bb a_bb bb, xRig (a_bb 2) la, xTrial (a_bb 5) a_tl tl, xMotion (a_tl 0) tl_motion, xBand (a_tl 1) tl_band, xI E (a_tl 2) 601 tl_path])) (isC := []) (isR := [0, 1, 2, 3, 4, 5]) (is2 := [0, 1, 2, 3, 4, 5]) cx hP hD hS ⟨rfl, rfl, by decide, by decide, by decide, by decide, fun _ => rfl⟩ (rS (As := [.int n, .int (1 : Int32), .int (400 : Int32)]) (rest := []) cx (c_X9_within l E n (1 : Int32) (400 : Int32) _) (va_cwS 3 hts gX9_two_X9_within rfl rfl rfl (by decide +kernel) ⟨Nat.le_of_ble_eq_true rfl, Nat.le_of_ble_eq_true rfl⟩) rfl hl.1 rfl (Nat.le_of_ble_eq_true rfl) dX9_two_5 ⟨Nat.zero_le _, Nat.zero_le _⟩) (fun r1 u H locs hw hP hD hS => ?_)
  subst hw
  refine lv_if_ne (tgt := 13) hx hb dX9_two_8 (by decide) (fun c8 => ?_) (fun c8 => ?_)
  · rw [if_neg c8] at hρ
    refine lv_aload_n hx hb dX9_two_13 rfl (lv_at hl 0 rfl) ?_
    refine va_get (D := E.1) (ci := 9) (v := .ref (a_bb 5)) (C := RX9) (T := TX9) (N := 18) hx hb hts iX9_two_X9 hown hE.1 hP 0 rfl rfl 5 (by decide) (hts (.fieldLink RX9 43 "BandBoat" "trial" "LBandBoat$Trial;") (List.mem_of_getElem? (i := 1) rfl)) (fun _ h9 => h9) rfl dX9_two_14 ?_
    refine lv_aload_n hx hb dX9_two_17 rfl (lv_at hl 0 rfl) ?_
    refine va_get (D := E.1) (ci := 9) (v := .ref (a_bb 2)) (C := RX9) (T := TX9) (N := 18) hx hb hts iX9_two_X9 hown hE.1 hP 0 rfl rfl 2 (by decide) (hts (.fieldLink RX9 26 "BandBoat" "laid" "LBandBoat$Rig;") (List.mem_of_getElem? (i := 2) rfl)) (fun _ h9 => h9) rfl dX9_two_18 ?_
    refine lv_iload_n hx hb dX9_two_21 rfl (lv_at hl 1 rfl) ?_
    refine lv_iconst (v := (-1 : Int32)) hx hb dX9_two_22 (by decide) ?_
    refine lv_sipush (v := (1200 : Int32)) hx hb dX9_two_23 (by decide) ?_
    refine lv_iconst (v := (1 : Int32)) hx hb dX9_two_26 (by decide) ?_
    refine kV (wc := [xTrial (a_bb 5) a_tl tl, xMotion (a_tl 0) tl_motion, xBand (a_tl 1) tl_band, xI E (a_tl 2) 601 tl_path, xRig (a_bb 2) la]) (wr := [xBandBoat h_bb a_bb bb]) (wc' := (fun (u : Int32 × Int32 × Int32 × (Nat → Int32) × (Nat → Int32) × (Nat → Int32)) => [xTrial (a_bb 5) a_tl (upd (upd (upd tl 3 u.1) 4 u.2.1) 5 u.2.2.1), xMotion (a_tl 0) u.2.2.2.1, xBand (a_tl 1) u.2.2.2.2.1, xI E (a_tl 2) 601 u.2.2.2.2.2, xRig (a_bb 2) la])) (wn := (fun (u : Int32 × Int32 × Int32 × (Nat → Int32) × (Nat → Int32) × (Nat → Int32)) => [xBandBoat h_bb a_bb bb, xRig (a_bb 2) la, xTrial (a_bb 5) a_tl (upd (upd (upd tl 3 u.1) 4 u.2.1) 5 u.2.2.1), xMotion (a_tl 0) u.2.2.2.1, xBand (a_tl 1) u.2.2.2.2.1, xI E (a_tl 2) 601 u.2.2.2.2.2])) (isC := [2, 3, 4, 5, 1]) (isR := [0]) (is2 := [0, 5, 1, 2, 3, 4]) cx hP hD hS ⟨rfl, rfl, by decide, by decide, by decide, by decide, fun _ => rfl⟩ (rVN (As := [.ref (a_bb 2), .int n, .int (-1 : Int32), .int (1200 : Int32), .int (1 : Int32)]) (rest := []) (C := RX8) (q0 := 0) (ci := 8) cx (c_X8_make l E (a_bb 5) (a_bb 2) a_tl tl tl_motion tl_band tl_path la n (-1 : Int32) (1200 : Int32) (1 : Int32) (by decide) _) (va_cnB 5 hts gX9_two_X8_make_n160 rfl rfl rfl (hE.nw 89 rfl) (hts (.initialized RX8) (List.mem_of_getElem? (i := 8) rfl)) (by decide +kernel) ⟨Nat.le_of_ble_eq_true rfl, Nat.le_of_ble_eq_true rfl⟩) (hts (.instanceMethod yX8_make) (List.mem_of_getElem? (i := 7) rfl)) (hts (.selects RX8 yX8_make yX8_make) (List.mem_of_getElem? (i := 9) rfl)) rfl rfl rfl rfl hl.1 rfl (Nat.le_of_ble_eq_true rfl) dX9_two_27 ⟨Nat.zero_le _, Nat.zero_le _⟩) (fun u H locs hw hP hD hS => ?_)
    obtain ⟨v2, v3, v4, g5, g6, g7⟩ := u
    have hP : va_P E.1 vwCl [xBandBoat h_bb a_bb bb, xRig (a_bb 2) la, xTrial (a_bb 5) a_tl (upd (upd (upd tl 3 v2) 4 v3) 5 v4), xMotion (a_tl 0) g5, xBand (a_tl 1) g6, xI E (a_tl 2) 601 g7] H := hP
    have hD : va_D A [xBandBoat h_bb a_bb bb, xRig (a_bb 2) la, xTrial (a_bb 5) a_tl (upd (upd (upd tl 3 v2) 4 v3) 5 v4), xMotion (a_tl 0) g5, xBand (a_tl 1) g6, xI E (a_tl 2) 601 g7] := hD
    have hw : F_X8_make tl tl_motion tl_band tl_path la n (-1 : Int32) (1200 : Int32) (1 : Int32) = (v2, v3, v4, g5, g6, g7) := hw
    rw [hw] at hρ
    have hρ : ρ = F_X9_two_k27 v2 v3 v4 g5 g6 g7 := hρ
    unfold F_X9_two_k27 at hρ
    refine lv_aload_n hx hb dX9_two_30 rfl (lv_at hl 0 rfl) ?_
    refine va_get (D := E.1) (ci := 9) (v := .ref (a_bb 5)) (C := RX9) (T := TX9) (N := 18) hx hb hts iX9_two_X9 hown hE.1 hP 0 rfl rfl 5 (by decide) (hts (.fieldLink RX9 43 "BandBoat" "trial" "LBandBoat$Trial;") (List.mem_of_getElem? (i := 1) rfl)) (fun _ h9 => h9) rfl dX9_two_31 ?_
    refine va_getN (D := E.1) (ci := 8) (v := .ref (a_tl 0)) (C := RX8) (T := TX8) (N := 6) hx hb hts iX9_two_X8 hown hE.1 hP 2 rfl rfl 0 (by decide) (hE.n 57 rfl) (fun _ h9 => h9) rfl dX9_two_34 ?_
    refine va_getN (D := E.1) (ci := 4) (v := .int (g5 2)) (C := RX4) (T := TX4) (N := 7) hx hb hts iX9_two_X4 hown hE.1 hP 3 rfl rfl 2 (by decide) (hE.n 52 rfl) (fun _ h9 => h9) rfl dX9_two_37 ?_
    exact hq (g5 2) (v2, v3, v4, g5, g6, g7) _ _ _ _ dX9_two_40 rfl (hρ0.trans hρ) hP hD hS
  · rw [if_pos c8] at hρ
    refine lv_iconst (v := (-1 : Int32)) hx hb dX9_two_11 (by decide) ?_
    exact hq (-1 : Int32) ((tl 3), (tl 4), (tl 5), tl_motion, tl_band, tl_path) _ _ _ _ dX9_two_12 rfl (hρ0.trans hρ) hP hD hS
