def F_X3_holds (me : Nat → Int32) (a : Int32) (b : Int32) : Int32 := (if (me 1) = (0 : Int32) then (0 : Int32) else (if (me 2) = a then (if (me 3) = b then (1 : Int32) else (0 : Int32)) else (0 : Int32)))
theorem iX3_holds_X3 : ∀ w ∈ wsX30, w ∈ wsX3_holds := fun _ h => List.mem_cons_of_mem _ (List.mem_append_right _ h)
set_option maxHeartbeats 4000000 in
set_option maxRecDepth 100000 in
theorem c_X3_holds (l : Launch) (E : wV) (h_me : Nat) (a_me : Nat → Nat) (me : Nat → Int32) (a : Int32) (b : Int32) : MetI l yX3_holds wsX3_holds ({ frames := 0, cells := 0, slots := 0, locals := 0 } : Room) E ([.ref h_me, .int a, .int b] : List Value) [xMemo h_me a_me me] (fun (r : Int32) (_ : Unit) => r = F_X3_holds me a b) (fun (_ : Unit) => [xMemo h_me a_me me]) := by
  refine MetI.of (cc := cX3_holds) (maxL := 3) (own := RX3) (by decide) rfl rfl (Nat.le_of_ble_eq_true rfl) ?_
  intro p e s m below meth c A Q ls cx hP hD hS hl hq
  obtain ⟨hx, hb, hml, hown, hts, hE, hA⟩ := id cx
  have hl : lv_has ls 3 [(0, .ref h_me), (1, .int a), (2, .int b)] := hl
  have hP : va_P E.1 vwCl [xMemo h_me a_me me] s.heap := hP
  obtain ⟨ρ, hρ0⟩ : ∃ ρ, F_X3_holds me a b = ρ := ⟨_, rfl⟩
  have hρ := hρ0.symm
  unfold F_X3_holds at hρ
  refine lv_aload_n hx hb dX3_holds_0 rfl (lv_at hl 0 rfl) ?_
  refine va_get (D := E.1) (ci := 3) (v := .int (me 1)) (C := RX3) (T := TX3) (N := 4) hx hb hts iX3_holds_X3 hown hE.1 hP 0 rfl rfl 1 (by decide) (hts (.fieldLink RX3 13 "BandBoat$Memo" "known" "Z") (List.mem_of_getElem? (i := 1) rfl)) (fun _ h9 => h9) rfl dX3_holds_1 ?_
  refine lv_if_eq (tgt := 27) hx hb dX3_holds_4 (by decide) (fun c4 => ?_) (fun c4 => ?_)
  · rw [if_pos c4] at hρ
    refine lv_iconst (v := (0 : Int32)) hx hb dX3_holds_27 (by decide) ?_
    exact hq (0 : Int32) () _ _ _ _ dX3_holds_28 rfl (hρ0.trans hρ).symm hP hD hS
  · rw [if_neg c4] at hρ
    refine lv_aload_n hx hb dX3_holds_7 rfl (lv_at hl 0 rfl) ?_
    refine va_get (D := E.1) (ci := 3) (v := .int (me 2)) (C := RX3) (T := TX3) (N := 4) hx hb hts iX3_holds_X3 hown hE.1 hP 0 rfl rfl 2 (by decide) (hts (.fieldLink RX3 17 "BandBoat$Memo" "first" "I") (List.mem_of_getElem? (i := 2) rfl)) (fun _ h9 => h9) rfl dX3_holds_8 ?_
    refine lv_iload_n hx hb dX3_holds_11 rfl (lv_at hl 1 rfl) ?_
    refine lv_icmp_ne (tgt := 27) hx hb dX3_holds_12 (by decide) (fun c12 => ?_) (fun c12 => ?_)
    · rw [if_neg c12] at hρ
      refine lv_iconst (v := (0 : Int32)) hx hb dX3_holds_27 (by decide) ?_
      exact hq (0 : Int32) () _ _ _ _ dX3_holds_28 rfl (hρ0.trans hρ).symm hP hD hS
    · rw [if_pos c12] at hρ
      refine lv_aload_n hx hb dX3_holds_15 rfl (lv_at hl 0 rfl) ?_
      refine va_get (D := E.1) (ci := 3) (v := .int (me 3)) (C := RX3) (T := TX3) (N := 4) hx hb hts iX3_holds_X3 hown hE.1 hP 0 rfl rfl 3 (by decide) (hts (.fieldLink RX3 21 "BandBoat$Memo" "second" "I") (List.mem_of_getElem? (i := 3) rfl)) (fun _ h9 => h9) rfl dX3_holds_16 ?_
      refine lv_iload_n hx hb dX3_holds_19 rfl (lv_at hl 2 rfl) ?_
      refine lv_icmp_ne (tgt := 27) hx hb dX3_holds_20 (by decide) (fun c20 => ?_) (fun c20 => ?_)
      · rw [if_neg c20] at hρ
        refine lv_iconst (v := (0 : Int32)) hx hb dX3_holds_27 (by decide) ?_
        exact hq (0 : Int32) () _ _ _ _ dX3_holds_28 rfl (hρ0.trans hρ).symm hP hD hS
      · rw [if_pos c20] at hρ
        refine lv_iconst (v := (1 : Int32)) hx hb dX3_holds_23 (by decide) ?_
        refine lv_goto (tgt := 28) hx hb dX3_holds_24 (by decide) ?_
        exact hq (1 : Int32) () _ _ _ _ dX3_holds_28 rfl (hρ0.trans hρ).symm hP hD hS
def F_X3_drop  : Int32 := (0 : Int32)
theorem iX3_drop_X3 : ∀ w ∈ wsX30, w ∈ wsX3_drop := fun _ h => List.mem_cons_of_mem _ (List.mem_append_right _ h)
set_option maxHeartbeats 4000000 in
set_option maxRecDepth 100000 in
theorem c_X3_drop (l : Launch) (E : wV) (h_me : Nat) (a_me : Nat → Nat) (me : Nat → Int32) : MetV l yX3_drop wsX3_drop ({ frames := 0, cells := 0, slots := 0, locals := 0 } : Room) E ([.ref h_me] : List Value) [xMemo h_me a_me me] (fun (u : Int32) => F_X3_drop = u) (fun (u : Int32) => [xMemo h_me a_me (upd me 1 u)]) := by
  refine MetV.of (cc := cX3_drop) (maxL := 1) (own := RX3) (by decide) rfl rfl (Nat.le_of_ble_eq_true rfl) ?_
  intro p e s m below meth c A Q ls cx hP hD hS hl hq
  obtain ⟨hx, hb, hml, hown, hts, hE, hA⟩ := id cx
  have hl : lv_has ls 1 [(0, .ref h_me)] := hl
  have hP : va_P E.1 vwCl [xMemo h_me a_me me] s.heap := hP
  obtain ⟨ρ, hρ0⟩ : ∃ ρ, F_X3_drop = ρ := ⟨_, rfl⟩
  have hρ := hρ0.symm
  unfold F_X3_drop at hρ
  refine lv_aload_n hx hb dX3_drop_0 rfl (lv_at hl 0 rfl) ?_
  refine lv_iconst (v := (0 : Int32)) hx hb dX3_drop_1 (by decide) ?_
  refine va_put (D := E.1) (ci := 3) (v := .int (0 : Int32)) (ty := .boolean) (C := RX3) (T := TX3) (N := 4) hx hb hts iX3_drop_X3 tyX3 tyX3_ok nmX3 hown hE.1 hP hD hS 0 rfl rfl 1 (by decide) (hts (.fieldLink RX3 13 "BandBoat$Memo" "known" "Z") (List.mem_of_getElem? (i := 1) rfl)) (fun _ h9 => h9) rfl (by decide +kernel) rfl rfl (Nat.le_of_ble_eq_true rfl) dX3_drop_2 (fun H locs hP hD hS => ?_)
  have hP : va_P E.1 vwCl [xMemo h_me a_me (upd me 1 (0 : Int32))] H := hP
  have hD : va_D A [xMemo h_me a_me (upd me 1 (0 : Int32))] := hD
  exact hq (0 : Int32) _ _ _ _ dX3_drop_5 (hρ0.trans hρ) hP hD hS
def F_X3_answer (N_me : Nat) (me_answers : Nat → Int32) (which : Int32) : Int32 := (if which < (0 : Int32) then (0 : Int32) else (if (nI N_me) ≤ which then (0 : Int32) else (me_answers (Int32.toNatClampNeg which))))
theorem iX3_answer_X3 : ∀ w ∈ wsX30, w ∈ wsX3_answer := fun _ h => List.mem_cons_of_mem _ (List.mem_append_right _ h)
set_option maxHeartbeats 4000000 in
set_option maxRecDepth 100000 in
theorem c_X3_answer (l : Launch) (E : wV) (h_me : Nat) (a_me : Nat → Nat) (N_me : Nat) (me : Nat → Int32) (me_answers : Nat → Int32) (which : Int32) (hN : N_me < 2 ^ 31) : MetI l yX3_answer wsX3_answer ({ frames := 0, cells := 0, slots := 0, locals := 0 } : Room) E ([.ref h_me, .int which] : List Value) [xMemo h_me a_me me, xI E (a_me 0) N_me me_answers] (fun (r : Int32) (_ : Unit) => r = F_X3_answer N_me me_answers which) (fun (_ : Unit) => [xMemo h_me a_me me, xI E (a_me 0) N_me me_answers]) := by
  refine MetI.of (cc := cX3_answer) (maxL := 2) (own := RX3) (by decide) rfl rfl (Nat.le_of_ble_eq_true rfl) ?_
  intro p e s m below meth c A Q ls cx hP hD hS hl hq
  obtain ⟨hx, hb, hml, hown, hts, hE, hA⟩ := id cx
  have hl : lv_has ls 2 [(0, .ref h_me), (1, .int which)] := hl
  have hP : va_P E.1 vwCl [xMemo h_me a_me me, xI E (a_me 0) N_me me_answers] s.heap := hP
  obtain ⟨ρ, hρ0⟩ : ∃ ρ, F_X3_answer N_me me_answers which = ρ := ⟨_, rfl⟩
  have hρ := hρ0.symm
  unfold F_X3_answer at hρ
  refine lv_iload_n hx hb dX3_answer_0 rfl (lv_at hl 1 rfl) ?_
  refine lv_if_lt (tgt := 22) hx hb dX3_answer_1 (by decide) (fun c1 => ?_) (fun c1 => ?_)
  · rw [if_pos c1] at hρ
    refine lv_iconst (v := (0 : Int32)) hx hb dX3_answer_22 (by decide) ?_
    exact hq (0 : Int32) () _ _ _ _ dX3_answer_23 rfl (hρ0.trans hρ).symm hP hD hS
  · rw [if_neg c1] at hρ
    refine lv_iload_n hx hb dX3_answer_4 rfl (lv_at hl 1 rfl) ?_
    refine lv_aload_n hx hb dX3_answer_5 rfl (lv_at hl 0 rfl) ?_
    refine va_get (D := E.1) (ci := 3) (v := .ref (a_me 0)) (C := RX3) (T := TX3) (N := 4) hx hb hts iX3_answer_X3 hown hE.1 hP 0 rfl rfl 0 (by decide) (hts (.fieldLink RX3 7 "BandBoat$Memo" "answers" "[I") (List.mem_of_getElem? (i := 1) rfl)) (fun _ h9 => h9) rfl dX3_answer_6 ?_
    refine ar_len (v := (nI N_me)) hx hb hE hP 1 rfl rfl dX3_answer_9 ?_
    refine lv_icmp_ge (tgt := 22) hx hb dX3_answer_10 (by decide) (fun c10 => ?_) (fun c10 => ?_)
    · rw [if_pos c10] at hρ
      refine lv_iconst (v := (0 : Int32)) hx hb dX3_answer_22 (by decide) ?_
      exact hq (0 : Int32) () _ _ _ _ dX3_answer_23 rfl (hρ0.trans hρ).symm hP hD hS
    · rw [if_neg c10] at hρ
      refine lv_aload_n hx hb dX3_answer_13 rfl (lv_at hl 0 rfl) ?_
      refine va_get (D := E.1) (ci := 3) (v := .ref (a_me 0)) (C := RX3) (T := TX3) (N := 4) hx hb hts iX3_answer_X3 hown hE.1 hP 0 rfl rfl 0 (by decide) (hts (.fieldLink RX3 7 "BandBoat$Memo" "answers" "[I") (List.mem_of_getElem? (i := 1) rfl)) (fun _ h9 => h9) rfl dX3_answer_14 ?_
      refine lv_iload_n hx hb dX3_answer_17 rfl (lv_at hl 1 rfl) ?_
      refine ar_ild (k := (Int32.toNatClampNeg which)) (v := (me_answers (Int32.toNatClampNeg which))) hx hb hE hP 1 rfl (inb_of c1 hN c10) rfl rfl dX3_answer_18 ?_
      refine lv_goto (tgt := 23) hx hb dX3_answer_19 (by decide) ?_
      exact hq (me_answers (Int32.toNatClampNeg which)) () _ _ _ _ dX3_answer_23 rfl (hρ0.trans hρ).symm hP hD hS
def F_X3_put (N_me : Nat) (me_answers : Nat → Int32) (which : Int32) (x : Int32) : (Nat → Int32) := (if which < (0 : Int32) then me_answers else (if (nI N_me) ≤ which then me_answers else (upd me_answers (Int32.toNatClampNeg which) x)))
theorem iX3_put_X3 : ∀ w ∈ wsX30, w ∈ wsX3_put := fun _ h => List.mem_cons_of_mem _ (List.mem_append_right _ h)
set_option maxHeartbeats 4000000 in
set_option maxRecDepth 100000 in
theorem c_X3_put (l : Launch) (E : wV) (h_me : Nat) (a_me : Nat → Nat) (N_me : Nat) (me : Nat → Int32) (me_answers : Nat → Int32) (which : Int32) (x : Int32) (hN : N_me < 2 ^ 31) : MetV l yX3_put wsX3_put ({ frames := 0, cells := 0, slots := 0, locals := 0 } : Room) E ([.ref h_me, .int which, .int x] : List Value) [xMemo h_me a_me me, xI E (a_me 0) N_me me_answers] (fun (u : (Nat → Int32)) => F_X3_put N_me me_answers which x = u) (fun (u : (Nat → Int32)) => [xMemo h_me a_me me, xI E (a_me 0) N_me u]) := by
  refine MetV.of (cc := cX3_put) (maxL := 3) (own := RX3) (by decide) rfl rfl (Nat.le_of_ble_eq_true rfl) ?_
  intro p e s m below meth c A Q ls cx hP hD hS hl hq
  obtain ⟨hx, hb, hml, hown, hts, hE, hA⟩ := id cx
  have hl : lv_has ls 3 [(0, .ref h_me), (1, .int which), (2, .int x)] := hl
  have hP : va_P E.1 vwCl [xMemo h_me a_me me, xI E (a_me 0) N_me me_answers] s.heap := hP
  obtain ⟨ρ, hρ0⟩ : ∃ ρ, F_X3_put N_me me_answers which x = ρ := ⟨_, rfl⟩
  have hρ := hρ0.symm
  unfold F_X3_put at hρ
  refine lv_iload_n hx hb dX3_put_0 rfl (lv_at hl 1 rfl) ?_
  refine lv_if_lt (tgt := 20) hx hb dX3_put_1 (by decide) (fun c1 => ?_) (fun c1 => ?_)
  · rw [if_pos c1] at hρ
    exact hq me_answers _ _ _ _ dX3_put_20 (hρ0.trans hρ) hP hD hS
  · rw [if_neg c1] at hρ
    refine lv_iload_n hx hb dX3_put_4 rfl (lv_at hl 1 rfl) ?_
    refine lv_aload_n hx hb dX3_put_5 rfl (lv_at hl 0 rfl) ?_
    refine va_get (D := E.1) (ci := 3) (v := .ref (a_me 0)) (C := RX3) (T := TX3) (N := 4) hx hb hts iX3_put_X3 hown hE.1 hP 0 rfl rfl 0 (by decide) (hts (.fieldLink RX3 7 "BandBoat$Memo" "answers" "[I") (List.mem_of_getElem? (i := 1) rfl)) (fun _ h9 => h9) rfl dX3_put_6 ?_
    refine ar_len (v := (nI N_me)) hx hb hE hP 1 rfl rfl dX3_put_9 ?_
    refine lv_icmp_ge (tgt := 20) hx hb dX3_put_10 (by decide) (fun c10 => ?_) (fun c10 => ?_)
    · rw [if_pos c10] at hρ
      exact hq me_answers _ _ _ _ dX3_put_20 (hρ0.trans hρ) hP hD hS
    · rw [if_neg c10] at hρ
      refine lv_aload_n hx hb dX3_put_13 rfl (lv_at hl 0 rfl) ?_
      refine va_get (D := E.1) (ci := 3) (v := .ref (a_me 0)) (C := RX3) (T := TX3) (N := 4) hx hb hts iX3_put_X3 hown hE.1 hP 0 rfl rfl 0 (by decide) (hts (.fieldLink RX3 7 "BandBoat$Memo" "answers" "[I") (List.mem_of_getElem? (i := 1) rfl)) (fun _ h9 => h9) rfl dX3_put_14 ?_
      refine lv_iload_n hx hb dX3_put_17 rfl (lv_at hl 1 rfl) ?_
      refine lv_iload_n hx hb dX3_put_18 rfl (lv_at hl 2 rfl) ?_
      refine ar_ist (k := (Int32.toNatClampNeg which)) (ws' := [xMemo h_me a_me me, xI E (a_me 0) N_me (upd me_answers (Int32.toNatClampNeg which) x)]) hx hb hE hP hD hS 1 rfl (inb_of c1 hN c10) rfl rfl dX3_put_19 (fun H locs hP hD hS => ?_)
      exact hq (upd me_answers (Int32.toNatClampNeg which) x) _ _ _ _ dX3_put_20 (hρ0.trans hρ) hP hD hS
def F_X3_widen_k39 (g1 : Nat → Int32) : (Nat → Int32) := g1
def F_X3_widen_j34 (N_me : Nat) (from_ : Int32) (x : Int32) (g_me_answers_19 : Nat → Int32) : (Nat → Int32) := F_X3_widen_k39 (F_X3_put N_me g_me_answers_19 (from_ + (1 : Int32)) x)
def F_X3_widen_j19 (N_me : Nat) (from_ : Int32) (isFirst : Int32) (x : Int32) (g_me_answers_19 : Nat → Int32) : (Nat → Int32) := (if isFirst = (0 : Int32) then (if x ≤ (F_X3_answer N_me g_me_answers_19 (from_ + (1 : Int32))) then g_me_answers_19 else F_X3_widen_j34 N_me from_ x g_me_answers_19) else F_X3_widen_j34 N_me from_ x g_me_answers_19)
def F_X3_widen_k16 (N_me : Nat) (from_ : Int32) (isFirst : Int32) (x : Int32) (g3 : Nat → Int32) : (Nat → Int32) := F_X3_widen_j19 N_me from_ isFirst x g3
def F_X3_widen_j13 (N_me : Nat) (me_answers : Nat → Int32) (from_ : Int32) (isFirst : Int32) (x : Int32) : (Nat → Int32) := F_X3_widen_k16 N_me from_ isFirst x (F_X3_put N_me me_answers from_ x)
def F_X3_widen (N_me : Nat) (me_answers : Nat → Int32) (from_ : Int32) (isFirst : Int32) (x : Int32) : (Nat → Int32) := (if isFirst = (0 : Int32) then (if (F_X3_answer N_me me_answers from_) ≤ x then F_X3_widen_j19 N_me from_ isFirst x me_answers else F_X3_widen_j13 N_me me_answers from_ isFirst x) else F_X3_widen_j13 N_me me_answers from_ isFirst x)
set_option maxHeartbeats 4000000 in
set_option maxRecDepth 100000 in
theorem c_X3_widen (l : Launch) (E : wV) (h_me : Nat) (a_me : Nat → Nat) (N_me : Nat) (me : Nat → Int32) (me_answers : Nat → Int32) (from_ : Int32) (isFirst : Int32) (x : Int32) (hN : N_me < 2 ^ 31) : MetV l yX3_widen wsX3_widen ({ frames := 1, cells := 0, slots := 0, locals := 22 } : Room) E ([.ref h_me, .int from_, .int isFirst, .int x] : List Value) [xMemo h_me a_me me, xI E (a_me 0) N_me me_answers] (fun (u : (Nat → Int32)) => F_X3_widen N_me me_answers from_ isFirst x = u) (fun (u : (Nat → Int32)) => [xMemo h_me a_me me, xI E (a_me 0) N_me u]) := by
  refine MetV.of (cc := cX3_widen) (maxL := 4) (own := RX3) (by decide) rfl rfl (Nat.le_of_ble_eq_true rfl) ?_
  intro p e s m below meth c A Q ls cx hP hD hS hl hq
  obtain ⟨hx, hb, hml, hown, hts, hE, hA⟩ := id cx
  have hl : lv_has ls 4 [(0, .ref h_me), (1, .int from_), (2, .int isFirst), (3, .int x)] := hl
  have hP : va_P E.1 vwCl [xMemo h_me a_me me, xI E (a_me 0) N_me me_answers] s.heap := hP
  obtain ⟨ρ, hρ0⟩ : ∃ ρ, F_X3_widen N_me me_answers from_ isFirst x = ρ := ⟨_, rfl⟩
  have hρ := hρ0.symm
  unfold F_X3_widen at hρ
  refine lv_iload_n hx hb dX3_widen_0 rfl (lv_at hl 2 rfl) ?_
  have hJ19 : ∀ (g_me_answers_19 : Nat → Int32) (H : Heap) (locs : List Loc) (ls : Array Slot), ρ = F_X3_widen_j19 N_me from_ isFirst x g_me_answers_19 → va_P E.1 vwCl [xMemo h_me a_me me, xI E (a_me 0) N_me g_me_answers_19] H → va_D A [xMemo h_me a_me me, xI E (a_me 0) N_me g_me_answers_19] → va_S A s.heap H locs → lv_has ls 4 [(0, .ref h_me), (1, .int from_), (2, .int isFirst), (3, .int x)] → W p l e ({ frames := 1, cells := 0, slots := 0, locals := 22 } : Room) s m ([.ref h_me, .int from_, .int isFirst, .int x] : List Value).toArray below meth c H locs 0 0 Q (F0 m 19 ls []) := by
    intro g_me_answers_19 H locs ls hρ hP hD hS hl
    unfold F_X3_widen_j19 at hρ
    refine lv_iload_n hx hb dX3_widen_19 rfl (lv_at hl 2 rfl) ?_
    have hJ34 : ∀ (H : Heap) (locs : List Loc) (ls : Array Slot), ρ = F_X3_widen_j34 N_me from_ x g_me_answers_19 → va_P E.1 vwCl [xMemo h_me a_me me, xI E (a_me 0) N_me g_me_answers_19] H → va_D A [xMemo h_me a_me me, xI E (a_me 0) N_me g_me_answers_19] → va_S A s.heap H locs → lv_has ls 4 [(0, .ref h_me), (1, .int from_), (2, .int isFirst), (3, .int x)] → W p l e ({ frames := 1, cells := 0, slots := 0, locals := 22 } : Room) s m ([.ref h_me, .int from_, .int isFirst, .int x] : List Value).toArray below meth c H locs 0 0 Q (F0 m 34 ls []) := by
      intro  H locs ls hρ hP hD hS hl
      unfold F_X3_widen_j34 at hρ
      refine lv_aload_n hx hb dX3_widen_34 rfl (lv_at hl 0 rfl) ?_
      refine lv_iload_n hx hb dX3_widen_35 rfl (lv_at hl 1 rfl) ?_
      refine lv_iconst (v := (1 : Int32)) hx hb dX3_widen_36 (by decide) ?_
      refine lv_iadd hx hb dX3_widen_37 ?_
      refine lv_iload_n hx hb dX3_widen_38 rfl (lv_at hl 3 rfl) ?_
      refine kV (wc := [xMemo h_me a_me me, xI E (a_me 0) N_me g_me_answers_19]) (wr := []) (wc' := (fun (u : (Nat → Int32)) => [xMemo h_me a_me me, xI E (a_me 0) N_me u])) (wn := (fun (u : (Nat → Int32)) => [xMemo h_me a_me me, xI E (a_me 0) N_me u])) (isC := [0, 1]) (isR := []) (is2 := [0, 1]) cx hP hD hS ⟨rfl, rfl, by decide, by decide, by decide, by decide, fun _ => rfl⟩ (rV (As := [.int (from_ + (1 : Int32)), .int x]) (rest := []) (C := RX3) (q0 := 0) (ci := 3) cx (c_X3_put l E h_me a_me N_me me g_me_answers_19 (from_ + (1 : Int32)) x (hN) _) (cwV 2 hts gX3_widen_X3_put rfl rfl rfl (by decide +kernel) ⟨Nat.le_of_ble_eq_true rfl, Nat.le_of_ble_eq_true rfl⟩) rfl rfl rfl rfl hl.1 rfl (Nat.le_of_ble_eq_true rfl) dX3_widen_39 ⟨Nat.zero_le _, Nat.zero_le _⟩) (fun u H locs hw hP hD hS => ?_)
      obtain ⟨g1, rfl⟩ : ∃ z, z = u := ⟨_, rfl⟩
      have hP : va_P E.1 vwCl [xMemo h_me a_me me, xI E (a_me 0) N_me g1] H := hP
      have hD : va_D A [xMemo h_me a_me me, xI E (a_me 0) N_me g1] := hD
      have hw : F_X3_put N_me g_me_answers_19 (from_ + (1 : Int32)) x = g1 := hw
      rw [hw] at hρ
      have hρ : ρ = F_X3_widen_k39 g1 := hρ
      unfold F_X3_widen_k39 at hρ
      exact hq g1 _ _ _ _ dX3_widen_42 (hρ0.trans hρ) hP hD hS
    refine lv_if_ne (tgt := 34) hx hb dX3_widen_20 (by decide) (fun c20 => ?_) (fun c20 => ?_)
    · rw [if_neg c20] at hρ
      exact hJ34 _ _ _ hρ hP hD hS (lv_sub hl [0, 1, 2, 3] rfl)
    · rw [if_pos c20] at hρ
      refine lv_iload_n hx hb dX3_widen_23 rfl (lv_at hl 3 rfl) ?_
      refine lv_aload_n hx hb dX3_widen_24 rfl (lv_at hl 0 rfl) ?_
      refine lv_iload_n hx hb dX3_widen_25 rfl (lv_at hl 1 rfl) ?_
      refine lv_iconst (v := (1 : Int32)) hx hb dX3_widen_26 (by decide) ?_
      refine lv_iadd hx hb dX3_widen_27 ?_
      refine kI (wc := [xMemo h_me a_me me, xI E (a_me 0) N_me g_me_answers_19]) (wr := []) (wc' := (fun (_ : Unit) => [xMemo h_me a_me me, xI E (a_me 0) N_me g_me_answers_19])) (wn := (fun (_ : Unit) => [xMemo h_me a_me me, xI E (a_me 0) N_me g_me_answers_19])) (isC := [0, 1]) (isR := []) (is2 := [0, 1]) cx hP hD hS ⟨rfl, rfl, by decide, by decide, by decide, by decide, fun _ => rfl⟩ (rV (As := [.int (from_ + (1 : Int32))]) (rest := [.int x]) (C := RX3) (q0 := 0) (ci := 3) cx (c_X3_answer l E h_me a_me N_me me g_me_answers_19 (from_ + (1 : Int32)) (hN) _) (cwV 1 hts gX3_widen_X3_answer rfl rfl rfl (by decide +kernel) ⟨Nat.le_of_ble_eq_true rfl, Nat.le_of_ble_eq_true rfl⟩) rfl rfl rfl rfl hl.1 rfl (Nat.le_of_ble_eq_true rfl) dX3_widen_28 ⟨Nat.zero_le _, Nat.zero_le _⟩) (fun r2 u H locs hw hP hD hS => ?_)
      subst hw
      refine lv_icmp_le (tgt := 42) hx hb dX3_widen_31 (by decide) (fun c31 => ?_) (fun c31 => ?_)
      · rw [if_pos c31] at hρ
        exact hq g_me_answers_19 _ _ _ _ dX3_widen_42 (hρ0.trans hρ) hP hD hS
      · rw [if_neg c31] at hρ
        exact hJ34 _ _ _ hρ hP hD hS (lv_sub hl [0, 1, 2, 3] rfl)
  have hJ13 : ∀ (H : Heap) (locs : List Loc) (ls : Array Slot), ρ = F_X3_widen_j13 N_me me_answers from_ isFirst x → va_P E.1 vwCl [xMemo h_me a_me me, xI E (a_me 0) N_me me_answers] H → va_D A [xMemo h_me a_me me, xI E (a_me 0) N_me me_answers] → va_S A s.heap H locs → lv_has ls 4 [(0, .ref h_me), (1, .int from_), (2, .int isFirst), (3, .int x)] → W p l e ({ frames := 1, cells := 0, slots := 0, locals := 22 } : Room) s m ([.ref h_me, .int from_, .int isFirst, .int x] : List Value).toArray below meth c H locs 0 0 Q (F0 m 13 ls []) := by
    intro  H locs ls hρ hP hD hS hl
    unfold F_X3_widen_j13 at hρ
    refine lv_aload_n hx hb dX3_widen_13 rfl (lv_at hl 0 rfl) ?_
    refine lv_iload_n hx hb dX3_widen_14 rfl (lv_at hl 1 rfl) ?_
    refine lv_iload_n hx hb dX3_widen_15 rfl (lv_at hl 3 rfl) ?_
    refine kV (wc := [xMemo h_me a_me me, xI E (a_me 0) N_me me_answers]) (wr := []) (wc' := (fun (u : (Nat → Int32)) => [xMemo h_me a_me me, xI E (a_me 0) N_me u])) (wn := (fun (u : (Nat → Int32)) => [xMemo h_me a_me me, xI E (a_me 0) N_me u])) (isC := [0, 1]) (isR := []) (is2 := [0, 1]) cx hP hD hS ⟨rfl, rfl, by decide, by decide, by decide, by decide, fun _ => rfl⟩ (rV (As := [.int from_, .int x]) (rest := []) (C := RX3) (q0 := 0) (ci := 3) cx (c_X3_put l E h_me a_me N_me me me_answers from_ x (hN) _) (cwV 2 hts gX3_widen_X3_put rfl rfl rfl (by decide +kernel) ⟨Nat.le_of_ble_eq_true rfl, Nat.le_of_ble_eq_true rfl⟩) rfl rfl rfl rfl hl.1 rfl (Nat.le_of_ble_eq_true rfl) dX3_widen_16 ⟨Nat.zero_le _, Nat.zero_le _⟩) (fun u H locs hw hP hD hS => ?_)
    obtain ⟨g3, rfl⟩ : ∃ z, z = u := ⟨_, rfl⟩
    have hP : va_P E.1 vwCl [xMemo h_me a_me me, xI E (a_me 0) N_me g3] H := hP
    have hD : va_D A [xMemo h_me a_me me, xI E (a_me 0) N_me g3] := hD
    have hw : F_X3_put N_me me_answers from_ x = g3 := hw
    rw [hw] at hρ
    have hρ : ρ = F_X3_widen_k16 N_me from_ isFirst x g3 := hρ
    unfold F_X3_widen_k16 at hρ
    exact hJ19 g3 _ _ _ hρ hP hD hS (lv_sub hl [0, 1, 2, 3] rfl)
  refine lv_if_ne (tgt := 13) hx hb dX3_widen_1 (by decide) (fun c1 => ?_) (fun c1 => ?_)
  · rw [if_neg c1] at hρ
    exact hJ13 _ _ _ hρ hP hD hS (lv_sub hl [0, 1, 2, 3] rfl)
  · rw [if_pos c1] at hρ
    refine lv_iload_n hx hb dX3_widen_4 rfl (lv_at hl 3 rfl) ?_
    refine lv_aload_n hx hb dX3_widen_5 rfl (lv_at hl 0 rfl) ?_
    refine lv_iload_n hx hb dX3_widen_6 rfl (lv_at hl 1 rfl) ?_
    refine kI (wc := [xMemo h_me a_me me, xI E (a_me 0) N_me me_answers]) (wr := []) (wc' := (fun (_ : Unit) => [xMemo h_me a_me me, xI E (a_me 0) N_me me_answers])) (wn := (fun (_ : Unit) => [xMemo h_me a_me me, xI E (a_me 0) N_me me_answers])) (isC := [0, 1]) (isR := []) (is2 := [0, 1]) cx hP hD hS ⟨rfl, rfl, by decide, by decide, by decide, by decide, fun _ => rfl⟩ (rV (As := [.int from_]) (rest := [.int x]) (C := RX3) (q0 := 0) (ci := 3) cx (c_X3_answer l E h_me a_me N_me me me_answers from_ (hN) _) (cwV 1 hts gX3_widen_X3_answer rfl rfl rfl (by decide +kernel) ⟨Nat.le_of_ble_eq_true rfl, Nat.le_of_ble_eq_true rfl⟩) rfl rfl rfl rfl hl.1 rfl (Nat.le_of_ble_eq_true rfl) dX3_widen_7 ⟨Nat.zero_le _, Nat.zero_le _⟩) (fun r4 u H locs hw hP hD hS => ?_)
    subst hw
    refine lv_icmp_ge (tgt := 19) hx hb dX3_widen_10 (by decide) (fun c10 => ?_) (fun c10 => ?_)
    · rw [if_pos c10] at hρ
      exact hJ19 me_answers _ _ _ hρ hP hD hS (lv_sub hl [0, 1, 2, 3] rfl)
    · rw [if_neg c10] at hρ
      exact hJ13 _ _ _ hρ hP hD hS (lv_sub hl [0, 1, 2, 3] rfl)
def F_X3_learn_b17 (N_me : Nat) (x3_17 : Int32) (g_me_answers_17 : Nat → Int32) : (Int32 × (Nat → Int32)) ⊕ (Int32 × (Nat → Int32)) := (if (nI N_me) ≤ x3_17 then Sum.inr (x3_17, g_me_answers_17) else Sum.inl ((x3_17 + (1 : Int32)), (upd g_me_answers_17 (Int32.toNatClampNeg x3_17) (0 : Int32))))
def F_X3_learn_l17 (N_me : Nat) : Nat → (Int32) → (Nat → Int32) → Int32 × (Nat → Int32)
  | 0, x3_17, g_me_answers_17 => (x3_17, g_me_answers_17)
  | n_17 + 1, x3_17, g_me_answers_17 => match F_X3_learn_b17 N_me x3_17 g_me_answers_17 with
    | Sum.inl (c_x3_17, c_g_me_answers_17) => F_X3_learn_l17 N_me n_17 c_x3_17 c_g_me_answers_17
    | Sum.inr r_ => r_
def F_X3_learn_x17 (a : Int32) (b : Int32) (bg_me_answers_17 : Nat → Int32) : Int32 × Int32 × Int32 × (Nat → Int32) := ((1 : Int32), a, b, bg_me_answers_17)
def F_X3_learn (N_me : Nat) (me_answers : Nat → Int32) (a : Int32) (b : Int32) : Int32 × Int32 × Int32 × (Nat → Int32) := (match F_X3_learn_l17 N_me (N_me) (0 : Int32) me_answers with | (bx3_17, bg_me_answers_17) => F_X3_learn_x17 a b bg_me_answers_17)
theorem iX3_learn_X3 : ∀ w ∈ wsX30, w ∈ wsX3_learn := fun _ h => List.mem_cons_of_mem _ (List.mem_append_right _ h)
set_option maxHeartbeats 4000000 in
set_option maxRecDepth 100000 in
theorem c_X3_learn (l : Launch) (E : wV) (h_me : Nat) (a_me : Nat → Nat) (N_me : Nat) (me : Nat → Int32) (me_answers : Nat → Int32) (a : Int32) (b : Int32) (hN : N_me < 2 ^ 31) : MetV l yX3_learn wsX3_learn ({ frames := 0, cells := 0, slots := 0, locals := 0 } : Room) E ([.ref h_me, .int a, .int b] : List Value) [xMemo h_me a_me me, xI E (a_me 0) N_me me_answers] (fun (u : Int32 × Int32 × Int32 × (Nat → Int32)) => F_X3_learn N_me me_answers a b = u) (fun (u : Int32 × Int32 × Int32 × (Nat → Int32)) => [xMemo h_me a_me (upd (upd (upd me 1 u.1) 2 u.2.1) 3 u.2.2.1), xI E (a_me 0) N_me u.2.2.2]) := by
  refine MetV.of (cc := cX3_learn) (maxL := 4) (own := RX3) (by decide) rfl rfl (Nat.le_of_ble_eq_true rfl) ?_
  intro p e s m below meth c A Q ls cx hP hD hS hl hq
  obtain ⟨hx, hb, hml, hown, hts, hE, hA⟩ := id cx
  have hl : lv_has ls 4 [(0, .ref h_me), (1, .int a), (2, .int b)] := hl
  have hP : va_P E.1 vwCl [xMemo h_me a_me me, xI E (a_me 0) N_me me_answers] s.heap := hP
  obtain ⟨ρ, hρ0⟩ : ∃ ρ, F_X3_learn N_me me_answers a b = ρ := ⟨_, rfl⟩
  have hρ := hρ0.symm
  unfold F_X3_learn at hρ
  refine lv_aload_n hx hb dX3_learn_0 rfl (lv_at hl 0 rfl) ?_
  refine lv_iconst (v := (1 : Int32)) hx hb dX3_learn_1 (by decide) ?_
  refine va_put (D := E.1) (ci := 3) (v := .int (1 : Int32)) (ty := .boolean) (C := RX3) (T := TX3) (N := 4) hx hb hts iX3_learn_X3 tyX3 tyX3_ok nmX3 hown hE.1 hP hD hS 0 rfl rfl 1 (by decide) (hts (.fieldLink RX3 13 "BandBoat$Memo" "known" "Z") (List.mem_of_getElem? (i := 1) rfl)) (fun _ h9 => h9) rfl (by decide +kernel) rfl rfl (Nat.le_of_ble_eq_true rfl) dX3_learn_2 (fun H locs hP hD hS => ?_)
  have hP : va_P E.1 vwCl [xMemo h_me a_me (upd me 1 (1 : Int32)), xI E (a_me 0) N_me me_answers] H := hP
  have hD : va_D A [xMemo h_me a_me (upd me 1 (1 : Int32)), xI E (a_me 0) N_me me_answers] := hD
  refine lv_aload_n hx hb dX3_learn_5 rfl (lv_at hl 0 rfl) ?_
  refine lv_iload_n hx hb dX3_learn_6 rfl (lv_at hl 1 rfl) ?_
  refine va_put (D := E.1) (ci := 3) (v := .int a) (ty := .int) (C := RX3) (T := TX3) (N := 4) hx hb hts iX3_learn_X3 tyX3 tyX3_ok nmX3 hown hE.1 hP hD hS 0 rfl rfl 2 (by decide) (hts (.fieldLink RX3 17 "BandBoat$Memo" "first" "I") (List.mem_of_getElem? (i := 2) rfl)) (fun _ h9 => h9) rfl (by decide +kernel) rfl rfl (Nat.le_of_ble_eq_true rfl) dX3_learn_7 (fun H locs hP hD hS => ?_)
  have hP : va_P E.1 vwCl [xMemo h_me a_me (upd (upd me 1 (1 : Int32)) 2 a), xI E (a_me 0) N_me me_answers] H := hP
  have hD : va_D A [xMemo h_me a_me (upd (upd me 1 (1 : Int32)) 2 a), xI E (a_me 0) N_me me_answers] := hD
  refine lv_aload_n hx hb dX3_learn_10 rfl (lv_at hl 0 rfl) ?_
  refine lv_iload_n hx hb dX3_learn_11 rfl (lv_at hl 2 rfl) ?_
  refine va_put (D := E.1) (ci := 3) (v := .int b) (ty := .int) (C := RX3) (T := TX3) (N := 4) hx hb hts iX3_learn_X3 tyX3 tyX3_ok nmX3 hown hE.1 hP hD hS 0 rfl rfl 3 (by decide) (hts (.fieldLink RX3 21 "BandBoat$Memo" "second" "I") (List.mem_of_getElem? (i := 3) rfl)) (fun _ h9 => h9) rfl (by decide +kernel) rfl rfl (Nat.le_of_ble_eq_true rfl) dX3_learn_12 (fun H locs hP hD hS => ?_)
  have hP : va_P E.1 vwCl [xMemo h_me a_me (upd (upd (upd me 1 (1 : Int32)) 2 a) 3 b), xI E (a_me 0) N_me me_answers] H := hP
  have hD : va_D A [xMemo h_me a_me (upd (upd (upd me 1 (1 : Int32)) 2 a) 3 b), xI E (a_me 0) N_me me_answers] := hD
  refine lv_iconst (v := (0 : Int32)) hx hb dX3_learn_15 (by decide) ?_
  refine lv_istore_n (lv' := [(3, .int (0 : Int32)), (0, .ref h_me), (1, .int a), (2, .int b)]) hx hb dX3_learn_16 rfl hl (by decide) rfl (fun ls hl => ?_)
  have hL17 : ∀ (n_17 : Nat) (x3_17 : Int32) (g_me_answers_17 : Nat → Int32) (H : Heap) (locs : List Loc) (ls : Array Slot), ((nI N_me : Int32).toInt ≤ (x3_17).toInt + (n_17 : Nat)) ∧ (0 ≤ (x3_17).toInt) → va_P E.1 vwCl [xMemo h_me a_me (upd (upd (upd me 1 (1 : Int32)) 2 a) 3 b), xI E (a_me 0) N_me g_me_answers_17] H → va_D A [xMemo h_me a_me (upd (upd (upd me 1 (1 : Int32)) 2 a) 3 b), xI E (a_me 0) N_me g_me_answers_17] → va_S A s.heap H locs → lv_has ls 4 [(3, .int x3_17), (0, .ref h_me), (1, .int a), (2, .int b)] → (∀ (ox3_17 : Int32) (og_me_answers_17 : Nat → Int32) (H : Heap) (locs : List Loc) (ls : Array Slot), F_X3_learn_l17 N_me n_17 x3_17 g_me_answers_17 = (ox3_17, og_me_answers_17) → va_P E.1 vwCl [xMemo h_me a_me (upd (upd (upd me 1 (1 : Int32)) 2 a) 3 b), xI E (a_me 0) N_me og_me_answers_17] H → va_D A [xMemo h_me a_me (upd (upd (upd me 1 (1 : Int32)) 2 a) 3 b), xI E (a_me 0) N_me og_me_answers_17] → va_S A s.heap H locs → lv_has ls 4 [(3, .int ox3_17), (0, .ref h_me), (1, .int a), (2, .int b)] → W p l e ({ frames := 0, cells := 0, slots := 0, locals := 0 } : Room) s m ([.ref h_me, .int a, .int b] : List Value).toArray below meth c H locs 0 0 Q (F0 m 39 ls [])) → W p l e ({ frames := 0, cells := 0, slots := 0, locals := 0 } : Room) s m ([.ref h_me, .int a, .int b] : List Value).toArray below meth c H locs 0 0 Q (F0 m 17 ls []) := by
    intro n_17
    induction n_17 with
    | zero =>
      intro x3_17 g_me_answers_17 H locs ls hM hP hD hS hl hK
      have hM17 := hM
      obtain ⟨σ17, hσ017⟩ : ∃ σ, F_X3_learn_l17 N_me 0 x3_17 g_me_answers_17 = σ := ⟨_, rfl⟩
      have hσ17 := hσ017.symm
      rw [F_X3_learn_l17] at hσ17
      refine lv_iload_n hx hb dX3_learn_17 rfl (lv_at hl 0 rfl) ?_
      refine lv_aload_n hx hb dX3_learn_18 rfl (lv_at hl 1 rfl) ?_
      refine va_get (D := E.1) (ci := 3) (v := .ref (a_me 0)) (C := RX3) (T := TX3) (N := 4) hx hb hts iX3_learn_X3 hown hE.1 hP 0 rfl rfl 0 (by decide) (hts (.fieldLink RX3 7 "BandBoat$Memo" "answers" "[I") (List.mem_of_getElem? (i := 4) rfl)) (fun _ h9 => h9) rfl dX3_learn_19 ?_
      refine ar_len (v := (nI N_me)) hx hb hE hP 1 rfl rfl dX3_learn_22 ?_
      refine lv_icmp_ge (tgt := 39) hx hb dX3_learn_23 (by decide) (fun c23 => ?_) (fun c23 => ?_)
      · exact hK x3_17 g_me_answers_17 _ _ _ (hσ017.trans hσ17) hP hD hS (lv_sub hl [0, 1, 2, 3] rfl)
      · exact (cnt_lt0 c23 hM.1).elim
    | succ n_17 ih =>
      intro x3_17 g_me_answers_17 H locs ls hM hP hD hS hl hK
      have hM17 := hM
      obtain ⟨σ17, hσ017⟩ : ∃ σ, F_X3_learn_l17 N_me (n_17 + 1) x3_17 g_me_answers_17 = σ := ⟨_, rfl⟩
      have hσ17 := hσ017.symm
      rw [F_X3_learn_l17] at hσ17
      obtain ⟨τ17, hτ017⟩ : ∃ τ, F_X3_learn_b17 N_me x3_17 g_me_answers_17 = τ := ⟨_, rfl⟩
      rw [hτ017] at hσ17
      have hτ17 := hτ017.symm
      unfold F_X3_learn_b17 at hτ17
      refine lv_iload_n hx hb dX3_learn_17 rfl (lv_at hl 0 rfl) ?_
      refine lv_aload_n hx hb dX3_learn_18 rfl (lv_at hl 1 rfl) ?_
      refine va_get (D := E.1) (ci := 3) (v := .ref (a_me 0)) (C := RX3) (T := TX3) (N := 4) hx hb hts iX3_learn_X3 hown hE.1 hP 0 rfl rfl 0 (by decide) (hts (.fieldLink RX3 7 "BandBoat$Memo" "answers" "[I") (List.mem_of_getElem? (i := 4) rfl)) (fun _ h9 => h9) rfl dX3_learn_19 ?_
      refine ar_len (v := (nI N_me)) hx hb hE hP 1 rfl rfl dX3_learn_22 ?_
      refine lv_icmp_ge (tgt := 39) hx hb dX3_learn_23 (by decide) (fun c23 => ?_) (fun c23 => ?_)
      · rw [if_pos c23] at hτ17
        have hσ17 : σ17 = (x3_17, g_me_answers_17) := by subst hτ17; exact hσ17
        exact hK x3_17 g_me_answers_17 _ _ _ (hσ017.trans hσ17) hP hD hS (lv_sub hl [0, 1, 2, 3] rfl)
      · rw [if_neg c23] at hτ17
        refine lv_aload_n hx hb dX3_learn_26 rfl (lv_at hl 1 rfl) ?_
        refine va_get (D := E.1) (ci := 3) (v := .ref (a_me 0)) (C := RX3) (T := TX3) (N := 4) hx hb hts iX3_learn_X3 hown hE.1 hP 0 rfl rfl 0 (by decide) (hts (.fieldLink RX3 7 "BandBoat$Memo" "answers" "[I") (List.mem_of_getElem? (i := 4) rfl)) (fun _ h9 => h9) rfl dX3_learn_27 ?_
        refine lv_iload_n hx hb dX3_learn_30 rfl (lv_at hl 0 rfl) ?_
        refine lv_iconst (v := (0 : Int32)) hx hb dX3_learn_31 (by decide) ?_
        refine ar_ist (k := (Int32.toNatClampNeg x3_17)) (ws' := [xMemo h_me a_me (upd (upd (upd me 1 (1 : Int32)) 2 a) 3 b), xI E (a_me 0) N_me (upd g_me_answers_17 (Int32.toNatClampNeg x3_17) (0 : Int32))]) hx hb hE hP hD hS 1 rfl (inb_j hM.2 hN c23) rfl rfl dX3_learn_32 (fun H locs hP hD hS => ?_)
        refine lv_iinc (v := (x3_17 + (1 : Int32))) (lv' := [(3, .int (x3_17 + (1 : Int32))), (0, .ref h_me), (1, .int a), (2, .int b)]) hx hb dX3_learn_33 hl (k := 0) rfl rfl (by decide) rfl (fun ls hl => ?_)
        refine lv_goto (tgt := 17) hx hb dX3_learn_36 (by decide) ?_
        have hσ17 : σ17 = F_X3_learn_l17 N_me n_17 (x3_17 + (1 : Int32)) (upd g_me_answers_17 (Int32.toNatClampNeg x3_17) (0 : Int32)) := by subst hτ17; exact hσ17
        exact ih (x3_17 + (1 : Int32)) (upd g_me_answers_17 (Int32.toNatClampNeg x3_17) (0 : Int32)) _ _ _ ⟨cnt_lt c23 hM.1, cnt_lt_pos c23 hM.2⟩ hP hD hS (lv_sub hl [0, 1, 2, 3] rfl) (fun ox3_17 og_me_answers_17 H locs ls he => hK ox3_17 og_me_answers_17 H locs ls (hσ017.trans (hσ17.trans he)))
  refine hL17 (N_me) (0 : Int32) me_answers _ _ _ (⟨by rw [nI_toInt hN]; exact Int.le_of_eq (Int.zero_add _).symm, by decide⟩) hP hD hS (lv_sub hl [0, 1, 2, 3] rfl) ?_
  intro bx3_17 bg_me_answers_17 H locs ls he hP hD hS hl
  rw [he] at hρ
  have hρ : ρ = F_X3_learn_x17 a b bg_me_answers_17 := hρ
  unfold F_X3_learn_x17 at hρ
  exact hq ((1 : Int32), a, b, bg_me_answers_17) _ _ _ _ dX3_learn_39 (hρ0.trans hρ) hP hD hS
