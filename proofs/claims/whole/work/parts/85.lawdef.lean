/-! the law: its world, its relation -/
def su (S : Nat → Nat → Int32) (k : Nat) (f : Nat → Int32) : Nat → Nat → Int32 := fun j => if j = k then f else S j
def kfL (k0a k1a : Nat) : Nat → Option Nat := va_up (va_up (fun _ => none) 0 (some k0a)) 1 (some k1a)
def wL (E : wV) (G : Nat → Nat → Nat) (h k0a k1a mh : Nat) (S T : Nat → Nat → Int32) : va_W := [xBandBoat h (G 0) (S 0), xScript (G 0 0) (G 1) (S 1), xB E (G 1 0) 300 (S 2), xReader (G 0 1) (G 2), xRig (G 2 0) (S 3), xI E (G 2 1) 16 (S 4), xI E (G 2 2) 4 (S 5), xRig (G 0 2) (S 6), xRig (G 0 3) (S 7), xBand (G 0 4) (S 8), xTrial (G 0 5) (G 3) (S 9), xMotion (G 3 0) (S 10), xBand (G 3 1) (S 11), xI E (G 3 2) 601 (S 12), xGauge (G 0 6) (G 4) (S 13), xI E (G 4 0) 6 (S 14), xI E (G 4 1) 6 (S 15), xI E (G 4 2) 6 (S 16), xMarks (G 0 7) (G 5) (S 17), xI E (G 5 0) 4 (S 18), xI E (G 5 1) 4 (S 19), xMotion (G 0 8) (S 20), xM E (G 0 9) 2 (kfL k0a k1a), xMotion k0a (S 21), xMotion k1a (S 22), xI E (G 0 11) 401 (S 23), xMemo (G 0 13) (G 6) (S 24), xI E (G 6 0) 4 (S 25), xMemo (G 0 14) (G 7) (S 26), xI E (G 7 0) 2 (S 27), xMemo (G 0 15) (G 8) (S 28), xI E (G 8 0) 2 (S 29), xMemo (G 0 16) (G 9) (S 30), xI E (G 9 0) 5 (S 31), xMemo (G 0 17) (G 10) (S 32), xI E (G 10 0) 10 (S 33), xModel mh (G 11) (T 0), xI E (G 11 1) 300 (T 1), xI E (G 11 5) 60 (T 2), xI E (G 11 13) 6 (T 3), xI E (G 11 14) 6 (T 4), xI E (G 11 15) 12 (T 5), xI E (G 11 21) 18 (T 6), xI E (G 11 23) 8 (T 7), xI E (G 11 24) 4 (T 8), xI E (G 11 26) 10 (T 9)]
abbrev AH (s : State) : Nat → Prop := fun q : Nat => s.heap.size ≤ q
def RelL (S T : Nat → Nat → Int32) : Prop := RText (S 1) (S 2) (T 0) (T 1) ∧ RRig (S 6) (T 2) ∧ (∃ b0 : Nat → Int32, S 8 = F_X0_fit b0 (S 6)) ∧ Sim (S 20) (T 3) ∧ KF (S 20) ∧ KF (S 21) ∧ KF (S 22) ∧ RKept (S 0 10) (T 0 16) (S 21) (S 22) (T 5) ∧ RGauge (S 13) (S 14) (S 15) (S 16) (T 0) (T 6) ∧ RMarks (S 17) (S 18) (S 19) (T 0) (T 7) ∧ KCalm (S 6) (S 0) (S 23) ∧ MBest (S 6) (S 24 1) (S 24 2) (S 24 3) (S 25) ∧ MSpan (S 6) (S 26 1) (S 26 2) (S 26 3) (S 27) ∧ MStr (S 6) (S 28 1) (S 28 2) (S 29) ∧ MFits (S 6) (S 13) (S 14) (S 15) (S 16) (S 30 1) (S 30 2) (S 31) ∧ MTold (S 6) (S 17) (S 18) (S 19) (S 32 1) (S 32 2) (S 33)
theorem RText.mm {sc sb mm tx mm' : Nat → Int32} (h : RText sc sb mm tx) (e : mm' 2 = mm 2) : RText sc sb mm' tx := by
  obtain ⟨L, a, b, c, d⟩ := h
  exact ⟨L, a, b, e.trans c, d⟩
theorem RText.eq {sc sb mm tx : Nat → Int32} (h : RText sc sb mm tx) : sc 1 = mm 2 := by
  obtain ⟨L, a, b, c, d⟩ := h
  exact b.trans c.symm
theorem RText.hyp {sc sb mm tx : Nat → Int32} (h : RText sc sb mm tx) : 0 ≤ (mm 2).toInt ∧ (mm 2).toInt ≤ 300 := by
  obtain ⟨L, a, b, c, d⟩ := h
  rw [c, nI_toInt (by omega)]
  omega
theorem RGauge.mm {ga gt gu gd mm rd mm' : Nat → Int32} (h : RGauge ga gt gu gd mm rd) (e : mm' 22 = mm 22) : RGauge ga gt gu gd mm' rd := by
  obtain ⟨R, a, b, c, d⟩ := h
  exact ⟨R, a, b, e.trans c, d⟩
theorem RGauge.ga {ga gt gu gd mm rd ga' : Nat → Int32} (h : RGauge ga gt gu gd mm rd) (e : ga' 3 = ga 3) : RGauge ga' gt gu gd mm rd := by
  obtain ⟨R, a, b, c, d⟩ := h
  exact ⟨R, a, e.trans b, c, d⟩
theorem RGauge.eq {ga gt gu gd mm rd : Nat → Int32} (h : RGauge ga gt gu gd mm rd) : ga 3 = mm 22 := by
  obtain ⟨R, a, b, c, d⟩ := h
  exact b.trans c.symm
theorem RGauge.hyp {ga gt gu gd mm rd : Nat → Int32} (h : RGauge ga gt gu gd mm rd) : 0 ≤ (mm 22).toInt ∧ (mm 22).toInt ≤ 6 := by
  obtain ⟨R, a, b, c, d⟩ := h
  rw [c, nI_toInt (by omega)]
  omega
theorem RMarks.mm {mk mp mt mm ma mm' : Nat → Int32} (h : RMarks mk mp mt mm ma) (e : mm' 25 = mm 25) : RMarks mk mp mt mm' ma := by
  obtain ⟨R, a, b, c, d⟩ := h
  exact ⟨R, a, b, e.trans c, d⟩
theorem RMarks.mk {mk mp mt mm ma mk' : Nat → Int32} (h : RMarks mk mp mt mm ma) (e : mk' 2 = mk 2) : RMarks mk' mp mt mm ma := by
  obtain ⟨R, a, b, c, d⟩ := h
  exact ⟨R, a, e.trans b, c, d⟩
theorem RMarks.eq {mk mp mt mm ma : Nat → Int32} (h : RMarks mk mp mt mm ma) : mk 2 = mm 25 := by
  obtain ⟨R, a, b, c, d⟩ := h
  exact b.trans c.symm
theorem RMarks.hyp {mk mp mt mm ma : Nat → Int32} (h : RMarks mk mp mt mm ma) : 0 ≤ (mm 25).toInt ∧ (mm 25).toInt ≤ 4 := by
  obtain ⟨R, a, b, c, d⟩ := h
  rw [c, nI_toInt (by omega)]
  omega
theorem RMarks.lat {mk mp mt mm ma : Nat → Int32} (h : RMarks mk mp mt mm ma) : (F_X2_latest mk mt).toInt < 2147483647 := by
  obtain ⟨M, e, hM, -⟩ := latest_ok h
  rw [e, nI_toInt (by omega)]
  omega
theorem RKept.eq {kc km : Int32} {k0 k1 kp : Nat → Int32} (h : RKept kc km k0 k1 kp) : kc = km := by
  obtain ⟨K, a, b, c, d⟩ := h
  exact b.trans c.symm
theorem RKept.hyp {kc km : Int32} {k0 k1 kp : Nat → Int32} (h : RKept kc km k0 k1 kp) : 0 ≤ km.toInt ∧ km.toInt ≤ 2 := by
  obtain ⟨K, a, b, c, d⟩ := h
  rw [c, nI_toInt (by omega)]
  omega
theorem KCalm.bb {la bb cp bb' : Nat → Int32} (h : KCalm la bb cp) (e : bb' 12 = bb 12) : KCalm la bb' cp := fun w => h (by rw [← e]; exact w)
theorem MFits.ga {la ga gt gu gd fa ga' : Nat → Int32} {k f : Int32} (h : MFits la ga gt gu gd k f fa) (e : ga' 3 = ga 3) : MFits la ga' gt gu gd k f fa := fun w mm bt rd an what h1 h2 => h w mm bt rd an what h1 (h2.ga e.symm)
theorem MTold.mk {la mk mp mt ta mk' : Nat → Int32} {k f : Int32} (h : MTold la mk mp mt k f ta) (e : mk' 2 = mk 2) : MTold la mk' mp mt k f ta := fun w mm bt rn ma wh an what h1 h2 => h w mm bt rn ma wh an what h1 (h2.mk e.symm)
theorem a_count {bb la sc ga mk mm bt : Nat → Int32} (h0 : la 0 = bt 28) (h1 : sc 1 = mm 2) (h2 : ga 3 = mm 22) (h3 : mk 2 = mm 25) (h4 : bb 10 = mm 16) (what : Int32) : F_X9_count bb la sc ga mk what = (F_X10_count mm bt what).1 := by
  unfold F_X9_count F_X10_count
  rw [h0, h1, h2, h3, h4]
  by_cases c0 : what = 0
  · rw [if_pos c0, if_pos c0]
  rw [if_neg c0, if_neg c0]
  by_cases c1 : what = 1
  · rw [if_pos c1, if_pos c1]
  rw [if_neg c1, if_neg c1]
  by_cases c2 : what = 2
  · rw [if_pos c2, if_pos c2]
  rw [if_neg c2, if_neg c2]
  by_cases c3 : what = 3
  · rw [if_pos c3, if_pos c3]
  rw [if_neg c3, if_neg c3]
  by_cases c4 : what = 4
  · rw [if_pos c4, if_pos c4]
  rw [if_neg c4, if_neg c4]
section LAW
variable {p : Program} {l : Launch} {e : Env} {s : State} {m : MethodId} {below : List Frame} {meth : Method} {c : Code} {H : Heap} {locs : List Loc} {cells slots : Nat} {Q : State → Prop} {b L i pc : Nat} {xs : Nat → Int32} {ls : Array Slot} {rest : List Value} {h mh : Nat}
/-- an int of the script, k places behind i -/
theorem lw_arg (hx : p.tables.exec = Jvm.exec) (hb : c.code = code) (hX : va_X b L xs s s.heap) (hbl : b < s.heap.size) (hL : L ≤ 2048) (hS : va_S (AH s) s.heap H locs) (hl : lv_has ls 4 [(0, .ref b), (1, .ref h), (2, .ref mh), (3, .int (nI i))]) (k : Nat) {kk : Int} (hkk : Int32.ofInt kk = nI k) (hk : i + k < L) (d0 : decode code pc = .ok (.aload_n 0, 1)) (d1 : decode code (pc + 1) = .ok (.iload_n 3, 1)) (d2 : decode code (pc + 1 + 1) = .ok (.iconst kk, 1)) (d3 : decode code (pc + 1 + 1 + 1) = .ok (.iadd, 1)) (d4 : decode code (pc + 1 + 1 + 1 + 1) = .ok (.iaload, 1))
    (kt : W p l e room_1 s m #[Value.ref b] below meth c H locs cells slots Q (F0 m (pc + 1 + 1 + 1 + 1 + 1) ls (.int (xs (i + k)) :: rest))) : W p l e room_1 s m #[Value.ref b] below meth c H locs cells slots Q (F0 m pc ls rest) := by
  refine lv_aload_n hx hb d0 rfl (lv_at hl 0 rfl) ?_
  refine lv_iload_n hx hb d1 rfl (lv_at hl 3 rfl) ?_
  refine lv_iconst hx hb d2 hkk ?_
  refine lv_iadd hx hb d3 ?_
  rw [nI_add]
  refine va_sld hx hb hX hbl (Nat.not_le.mpr hbl) hS (vp_in_nI hk (by omega)) d4 ?_
  rw [nI_clamp (by omega)]
  exact kt
end LAW
theorem lg_cmp_self (x : Int64) : lg_cmp x x = 0 := by
  unfold lg_cmp
  simp
theorem rest_z (bo : Nat → Int32) (j : Nat) (hj : j < 6) : F_X4_rest bo j = 0 := by
  rcases (show j = 0 ∨ j = 1 ∨ j = 2 ∨ j = 3 ∨ j = 4 ∨ j = 5 by omega) with rfl | rfl | rfl | rfl | rfl | rfl <;> rfl
