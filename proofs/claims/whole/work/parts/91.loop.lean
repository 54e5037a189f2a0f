/-! the law's loop -/
theorem lw_head {L i : Nat} (hL : L ≤ 2048) (hi : i ≤ L) (c : ¬ Int32.ofNat L - (4 : Int32) < nI i) : i + 4 ≤ L := by
  have e1 : (Int32.ofNat L).toInt = L := nI_toInt (n := L) (by omega)
  have e4 : (4 : Int32).toInt = 4 := rfl
  have e2 : (Int32.ofNat L - (4 : Int32)).toInt = L - 4 := by rw [i_sub (by rw [e1, e4]; omega) (by rw [e1, e4]; omega), e1, e4]
  rw [Int32.lt_iff_toInt_lt, e2, nI_toInt (by omega)] at c
  omega
set_option maxHeartbeats 4000000 in
set_option maxRecDepth 100000 in
theorem law_loop {p : Program} {l : Launch} {e : Env} {s : State} {m : MethodId} {below : List Frame} {meth : Method} {c : Code} {b L : Nat} {xs : Nat → Int32} {E : wV} {G : Nat → Nat → Nat} {h k0a k1a mh : Nat} (cx : Cx p s m c code 4 #[Value.ref b] lw_tbl RL E (AH s) s.heap) (hX : va_X b L xs s s.heap) (hbl : b < s.heap.size) (hL : L ≤ 2048) (hr : meth.sig.returnType = ret) (hlocks : meth.locks = false) : ∀ (n i : Nat), i ≤ L → L < i + n → ∀ (S T : Nat → Nat → Int32) (H : Heap) (locs : List Loc) (ls : Array Slot), va_P E.1 vwCl (wL E G h k0a k1a mh S T) H → va_D (AH s) (wL E G h k0a k1a mh S T) → va_S (AH s) s.heap H locs → RelL S T → lv_has ls 4 [(0, .ref b), (1, .ref h), (2, .ref mh), (3, .int (nI i))] → W p l e room_1 s m #[Value.ref b] below meth c H locs 600000 7302250 (lw_Z below #[Value.ref b] s) (F0 m 18 ls []) := by
  intro n
  induction n with
  | zero => intro i h1 h2; omega
  | succ n ih =>
    intro i h1 h2 S T H locs ls hP hD hS hR hl
    obtain ⟨hx, hb, hml, hown, hts, hE, hA⟩ := id cx
    have hbA : ¬ AH s b := Nat.not_le.mpr hbl
    refine lv_iload_n hx hb dL_law_18 rfl (lv_at hl 3 rfl) ?_
    refine lv_aload_n hx hb dL_law_19 rfl (lv_at hl 0 rfl) ?_
    refine va_slen hx hb hX hbl hbA hS dL_law_20 ?_
    refine lv_iconst (v := 4) hx hb dL_law_21 (by decide) ?_
    refine lv_isub hx hb dL_law_22 ?_
    refine lv_icmp_gt (tgt := 940) hx hb dL_law_23 (by decide) (fun c1 => ?_) (fun c1 => ?_)
    · refine lv_iconst (v := 1) hx hb dL_law_940 (by decide) ?_
      refine va_forget (fun q h => hS.2.2 q h) ?_
      exact lw_ret hx hb hr hlocks dL_law_941
    · have hi : i + 4 ≤ L := lw_head hL h1 c1
      refine lv_aload_n hx hb dL_law_26 rfl (lv_at hl 0 rfl) ?_
      refine lv_iload_n hx hb dL_law_27 rfl (lv_at hl 3 rfl) ?_
      refine va_sld hx hb hX hbl hbA hS (vp_in_nI (by omega) (by omega)) dL_law_28 ?_
      refine lv_bipush (v := 31) hx hb dL_law_29 (by decide) ?_
      refine lv_iand hx hb dL_law_31 ?_
      obtain ⟨k, hk, ek⟩ := and31 (xs (nI i).toNatClampNeg)
      rw [ek]
      refine lw_disp cx hX hbl hL hi hl hP hD hS hR (fun S1 T1 H1 locs1 hP hD hS hR => ?_) k hk
      refine lv_iinc (v := nI (i + 4)) (lv' := [(3, .int (nI (i + 4))), (0, .ref b), (1, .ref h), (2, .ref mh)]) hx hb dL_law_934 hl (k := 3) rfl (nI_add i 4) (by decide) rfl (fun ls hl => ?_)
      refine lv_goto (tgt := 18) hx hb dL_law_937 (by decide) ?_
      exact ih (i + 4) hi (by omega) S1 T1 H1 locs1 ls hP hD hS hR (lv_sub hl [1, 2, 3, 0] rfl)
