/-! the law's switch -/
theorem and31 (x : Int32) : ∃ k : Nat, k < 32 ∧ x &&& (31 : Int32) = nI k := by
  refine ⟨(x.toBitVec &&& 31#32).toNat, ?_, ?_⟩
  · rw [BitVec.toNat_and]
    exact Nat.lt_of_le_of_lt Nat.and_le_right (by decide)
  · apply Int32.toBitVec_inj.mp
    show x.toBitVec &&& 31#32 = BitVec.ofNat 32 (x.toBitVec &&& 31#32).toNat
    apply BitVec.eq_of_toNat_eq
    rw [BitVec.toNat_ofNat, Nat.mod_eq_of_lt (BitVec.isLt _)]
set_option maxHeartbeats 4000000 in
set_option maxRecDepth 100000 in
theorem lw_disp {p : Program} {l : Launch} {e : Env} {s : State} {m : MethodId} {below : List Frame} {meth : Method} {c : Code} {H : Heap} {locs : List Loc} {Q : State → Prop} {b L i : Nat} {xs : Nat → Int32} {ls : Array Slot} {E : wV} {G : Nat → Nat → Nat} {h k0a k1a mh : Nat} {S T : Nat → Nat → Int32} (cx : Cx p s m c code 4 #[Value.ref b] lw_tbl RL E (AH s) s.heap) (hX : va_X b L xs s s.heap) (hbl : b < s.heap.size) (hL : L ≤ 2048) (hi : i + 4 ≤ L) (hl : lv_has ls 4 [(0, .ref b), (1, .ref h), (2, .ref mh), (3, .int (nI i))]) (hP : va_P E.1 vwCl (wL E G h k0a k1a mh S T) H) (hD : va_D (AH s) (wL E G h k0a k1a mh S T)) (hS : va_S (AH s) s.heap H locs) (hR : RelL S T) (K : ∀ (S1 T1 : Nat → Nat → Int32) (H1 : Heap) (locs1 : List Loc), va_P E.1 vwCl (wL E G h k0a k1a mh S1 T1) H1 → va_D (AH s) (wL E G h k0a k1a mh S1 T1) → va_S (AH s) s.heap H1 locs1 → RelL S1 T1 → W p l e room_1 s m #[Value.ref b] below meth c H1 locs1 600000 7302250 Q (F0 m 934 ls [])) (k : Nat) (hk : k < 32) : W p l e room_1 s m #[Value.ref b] below meth c H locs 600000 7302250 Q (F0 m 32 ls [.int (nI k)]) := by
  obtain ⟨hx, hb, hml, hown, hts, hE, hA⟩ := id cx
  by_cases e0 : k = 0
  · subst e0
    refine lv_tableIn (off := 124) (tgt := 156) hx hb dL_law_32 (by decide +kernel) (by decide +kernel) (by decide +kernel) (by decide) ?_
    exact lc_write cx hX hbl hL hi hl hP hD hS hR K
  by_cases e1 : k = 1
  · subst e1
    refine lv_tableIn (off := 187) (tgt := 219) hx hb dL_law_32 (by decide +kernel) (by decide +kernel) (by decide +kernel) (by decide) ?_
    exact lc_wipe cx hX hbl hL hi hl hP hD hS hR K
  by_cases e2 : k = 2
  · subst e2
    refine lv_tableIn (off := 200) (tgt := 232) hx hb dL_law_32 (by decide +kernel) (by decide +kernel) (by decide +kernel) (by decide) ?_
    exact lc_fault cx hX hbl hL hi hl hP hD hS hR K
  by_cases e3 : k = 3
  · subst e3
    refine lv_tableIn (off := 213) (tgt := 245) hx hb dL_law_32 (by decide +kernel) (by decide +kernel) (by decide +kernel) (by decide) ?_
    exact lc_lay cx hX hbl hL hi hl hP hD hS hR K
  by_cases e4 : k = 4
  · subst e4
    refine lv_tableIn (off := 226) (tgt := 258) hx hb dL_law_32 (by decide +kernel) (by decide +kernel) (by decide +kernel) (by decide) ?_
    by_cases hd : xs (i + 2) = 0
    · exact lc_pull0 cx hX hbl hL hi hl hP hD hS hd hR K
    · exact lc_pull1 cx hX hbl hL hi hl hP hD hS hd hR K
  by_cases e5 : k = 5
  · subst e5
    refine lv_tableIn (off := 275) (tgt := 307) hx hb dL_law_32 (by decide +kernel) (by decide +kernel) (by decide +kernel) (by decide) ?_
    exact lc_run cx hX hbl hL hi hl hP hD hS hR K
  by_cases e6 : k = 6
  · subst e6
    refine lv_tableIn (off := 318) (tgt := 350) hx hb dL_law_32 (by decide +kernel) (by decide +kernel) (by decide +kernel) (by decide) ?_
    exact lc_when cx hX hbl hL hi hl hP hD hS hR K
  by_cases e7 : k = 7
  · subst e7
    refine lv_tableIn (off := 361) (tgt := 393) hx hb dL_law_32 (by decide +kernel) (by decide +kernel) (by decide +kernel) (by decide) ?_
    exact lc_lost cx hX hbl hL hi hl hP hD hS hR K
  by_cases e8 : k = 8
  · subst e8
    refine lv_tableIn (off := 395) (tgt := 427) hx hb dL_law_32 (by decide +kernel) (by decide +kernel) (by decide +kernel) (by decide) ?_
    exact lc_snap cx hX hbl hL hi hl hP hD hS hR K
  by_cases e9 : k = 9
  · subst e9
    refine lv_tableIn (off := 418) (tgt := 450) hx hb dL_law_32 (by decide +kernel) (by decide +kernel) (by decide +kernel) (by decide) ?_
    exact lc_wise cx hX hbl hL hi hl hP hD hS hR K
  by_cases e10 : k = 10
  · subst e10
    refine lv_tableIn (off := 431) (tgt := 463) hx hb dL_law_32 (by decide +kernel) (by decide +kernel) (by decide +kernel) (by decide) ?_
    exact lc_best cx hX hbl hL hi hl hP hD hS hR K
  by_cases e11 : k = 11
  · subst e11
    refine lv_tableIn (off := 474) (tgt := 506) hx hb dL_law_32 (by decide +kernel) (by decide +kernel) (by decide +kernel) (by decide) ?_
    exact lc_just cx hX hbl hL hi hl hP hD hS hR K
  by_cases e12 : k = 12
  · subst e12
    refine lv_tableIn (off := 507) (tgt := 539) hx hb dL_law_32 (by decide +kernel) (by decide +kernel) (by decide +kernel) (by decide) ?_
    exact lc_span cx hX hbl hL hi hl hP hD hS hR K
  by_cases e13 : k = 13
  · subst e13
    refine lv_tableIn (off := 550) (tgt := 582) hx hb dL_law_32 (by decide +kernel) (by decide +kernel) (by decide +kernel) (by decide) ?_
    exact lc_straight cx hX hbl hL hi hl hP hD hS hR K
  by_cases e14 : k = 14
  · subst e14
    refine lv_tableIn (off := 583) (tgt := 615) hx hb dL_law_32 (by decide +kernel) (by decide +kernel) (by decide +kernel) (by decide) ?_
    exact lc_two cx hX hbl hL hi hl hP hD hS hR K
  by_cases e15 : k = 15
  · subst e15
    refine lv_tableIn (off := 606) (tgt := 638) hx hb dL_law_32 (by decide +kernel) (by decide +kernel) (by decide +kernel) (by decide) ?_
    exact lc_reading cx hX hbl hL hi hl hP hD hS hR K
  by_cases e16 : k = 16
  · subst e16
    refine lv_tableIn (off := 649) (tgt := 681) hx hb dL_law_32 (by decide +kernel) (by decide +kernel) (by decide +kernel) (by decide) ?_
    exact lc_fits cx hX hbl hL hi hl hP hD hS hR K
  by_cases e17 : k = 17
  · subst e17
    refine lv_tableIn (off := 682) (tgt := 714) hx hb dL_law_32 (by decide +kernel) (by decide +kernel) (by decide +kernel) (by decide) ?_
    exact lc_mark cx hX hbl hL hi hl hP hD hS hR K
  by_cases e18 : k = 18
  · subst e18
    refine lv_tableIn (off := 715) (tgt := 747) hx hb dL_law_32 (by decide +kernel) (by decide +kernel) (by decide +kernel) (by decide) ?_
    exact lc_told cx hX hbl hL hi hl hP hD hS hR K
  by_cases e19 : k = 19
  · subst e19
    refine lv_tableIn (off := 748) (tgt := 780) hx hb dL_law_32 (by decide +kernel) (by decide +kernel) (by decide +kernel) (by decide) ?_
    exact lc_forget cx hX hbl hL hi hl hP hD hS hR K
  by_cases e20 : k = 20
  · subst e20
    refine lv_tableIn (off := 761) (tgt := 793) hx hb dL_law_32 (by decide +kernel) (by decide +kernel) (by decide +kernel) (by decide) ?_
    exact lc_wind cx hX hbl hL hi hl hP hD hS hR K
  by_cases e21 : k = 21
  · subst e21
    refine lv_tableIn (off := 784) (tgt := 816) hx hb dL_law_32 (by decide +kernel) (by decide +kernel) (by decide +kernel) (by decide) ?_
    exact lc_go cx hX hbl hL hi hl hP hD hS hR K
  by_cases e22 : k = 22
  · subst e22
    refine lv_tableIn (off := 817) (tgt := 849) hx hb dL_law_32 (by decide +kernel) (by decide +kernel) (by decide +kernel) (by decide) ?_
    exact lc_weed cx hX hbl hL hi hl hP hD hS hR K
  by_cases e23 : k = 23
  · subst e23
    refine lv_tableIn (off := 830) (tgt := 862) hx hb dL_law_32 (by decide +kernel) (by decide +kernel) (by decide +kernel) (by decide) ?_
    exact lc_now cx hX hbl hL hi hl hP hD hS hR K
  by_cases e24 : k = 24
  · subst e24
    refine lv_tableIn (off := 853) (tgt := 885) hx hb dL_law_32 (by decide +kernel) (by decide +kernel) (by decide +kernel) (by decide) ?_
    exact lc_keep cx hX hbl hL hi hl hP hD hS hR K
  by_cases e25 : k = 25
  · subst e25
    refine lv_tableIn (off := 866) (tgt := 898) hx hb dL_law_32 (by decide +kernel) (by decide +kernel) (by decide +kernel) (by decide) ?_
    exact lc_back cx hX hbl hL hi hl hP hD hS hR K
  by_cases e26 : k = 26
  · subst e26
    refine lv_tableIn (off := 879) (tgt := 911) hx hb dL_law_32 (by decide +kernel) (by decide +kernel) (by decide +kernel) (by decide) ?_
    exact lc_count cx hX hbl hL hi hl hP hD hS hR K
  refine lv_tableOut (tgt := 934) hx hb dL_law_32 (Or.inr (by rw [nI_toInt (by omega)]; omega)) (by decide) ?_
  exact K S T H locs hP hD hS hR
