/-! reading a text: numbers and items -/
theorem at_eq {sc sb mm tx mm' : Nat → Int32} (h : RText sc sb mm tx) (h2 : mm' 2 = mm 2) {A : Nat} (hA : A < 100000) : F_X7_at sc sb (nI A) = F_X10_byteAt mm' tx (nI A) := by
  obtain ⟨L, hL, e1, e2, ht⟩ := h
  unfold F_X7_at F_X10_byteAt
  rw [if_neg (nI_pos (by omega)), e1, h2, e2]
  by_cases q : nI L ≤ nI A
  · rw [if_pos q, if_pos q]
  · rw [if_neg q, if_neg q]
    rw [nI_leI (by omega) (by omega)] at q
    rw [if_neg (show ¬ (300 : Int32) ≤ nI A from nI_ge (a := A) (b := 300) (by omega) (by omega)), nI_clamp (by omega)]
    exact ht A (by omega)
theorem num_loop {sc sb mm tx mm' : Nat → Int32} (h : RText sc sb mm tx) (h2 : mm' 2 = mm 2) {A : Nat} (hA : A < 50000) : ∀ (j i : Nat) (v : Int32), i + j = 3 → ∃ (c : Nat) (w : Int32), i ≤ c ∧ c ≤ 3 ∧ F_X5_numberEnd_l6 sc sb (nI A) j (nI (A + i)) v = (nI (A + c), w) ∧ (F_X10_number_l6 mm' tx (j + 1) (nI i) v (nI (A + i)) = (nI c, w, nI (A + c)) ∨ (c = 3 ∧ ¬ F_X9_within (F_X7_at sc sb (nI (A + 3))) (48 : Int32) (57 : Int32) = 0 ∧ ∃ w' : Int32, F_X10_number_l6 mm' tx (j + 1) (nI i) v (nI (A + i)) = (nI 4, w', nI (A + 4)))) := by
  have mb : ∀ (i : Nat) (v : Int32), i ≤ 3 → F_X10_number_b6 mm' tx (nI i) v (nI (A + i)) = if F_X9_within (F_X7_at sc sb (nI (A + i))) (48 : Int32) (57 : Int32) = 0 then Sum.inr (nI i, v, nI (A + i)) else Sum.inl (nI (i + 1), (((10 : Int32) * v) + F_X7_at sc sb (nI (A + i))) - (48 : Int32), nI (A + (i + 1))) := by
    intro i v hi
    unfold F_X10_number_b6 F_X10_number_k47 F_X10_number_k56
    rw [in_eq, ← at_eq (mm' := upd mm' 3 (nI (A + i))) h h2 (by omega), if_neg (show ¬ (4 : Int32) ≤ nI i from nI_ge (a := i) (b := 4) (by omega) (by omega)), nI_1, nI_1]
    rfl
  intro j
  induction j with
  | zero =>
    intro i v hi
    have i3 : i = 3 := by omega
    subst i3
    refine ⟨3, v, by omega, by omega, rfl, ?_⟩
    rw [F_X10_number_l6, mb 3 v (by omega)]
    by_cases q : F_X9_within (F_X7_at sc sb (nI (A + 3))) (48 : Int32) (57 : Int32) = 0
    · rw [if_pos q]; exact Or.inl rfl
    · rw [if_neg q]; exact Or.inr ⟨rfl, q, _, rfl⟩
  | succ j ih =>
    intro i v hi
    have cb : F_X5_numberEnd_b6 sc sb (nI A) (nI (A + i)) v = if F_X9_within (F_X7_at sc sb (nI (A + i))) (48 : Int32) (57 : Int32) = 0 then Sum.inr (nI (A + i), v) else Sum.inl (nI (A + (i + 1)), (((10 : Int32) * v) + F_X7_at sc sb (nI (A + i))) - (48 : Int32)) := by
      unfold F_X5_numberEnd_b6 F_X5_numberEnd_k45
      rw [if_neg (show ¬ nI A + (3 : Int32) ≤ nI (A + i) from by rw [show (3 : Int32) = nI 3 from rfl, nI_add]; exact nI_ge (by omega) (by omega)), nI_1]
      rfl
    rw [F_X5_numberEnd_l6, F_X10_number_l6, cb, mb i v (by omega)]
    by_cases q : F_X9_within (F_X7_at sc sb (nI (A + i))) (48 : Int32) (57 : Int32) = 0
    · rw [if_pos q, if_pos q]
      exact ⟨i, v, by omega, by omega, rfl, Or.inl rfl⟩
    · rw [if_neg q, if_neg q]
      obtain ⟨c, w, h1, h3, h4, h5⟩ := ih (i + 1) ((((10 : Int32) * v) + F_X7_at sc sb (nI (A + i))) - (48 : Int32)) (by omega)
      exact ⟨c, w, by omega, h3, h4, h5⟩
/-- a number that is well spelled, for both -/
def NOK (sc sb mm tx : Nat → Int32) (A : Nat) (s : Int32) (B : Nat) (v : Int32) : Prop := A < B ∧ B ≤ A + 4 ∧ (∀ (nums : Nat → Int32) (w : Nat), w < 4 → F_X5_numberEnd nums sc sb (nI A) (nI w) s = (nI B, upd nums w v)) ∧ ∀ (mm' : Nat → Int32) (least most : Int32), mm' 2 = mm 2 → mm' 3 = nI A → ∃ r w : Int32, F_X10_number mm' tx least most s = (r, nI B, w) ∧ ((w = 1 ∧ r = v ∧ ¬ F_X9_within v least most = 0 ∧ ¬ mm' 4 = 0) ∨ (w = 0 ∧ (mm' 4 = 0 ∨ F_X9_within v least most = 0)))
def NNO (sc sb mm tx : Nat → Int32) (A : Nat) (s : Int32) : Prop := (∀ (nums : Nat → Int32) (w : Nat), w < 4 → F_X5_numberEnd nums sc sb (nI A) (nI w) s = (-1, nums)) ∧ ∀ (mm' : Nat → Int32) (least most : Int32), mm' 2 = mm 2 → mm' 3 = nI A → ∃ r x : Int32, F_X10_number mm' tx least most s = (r, x, 0)
theorem N1 {sc sb mm tx : Nat → Int32} (h : RText sc sb mm tx) {A : Nat} (hA : A < 50000) {s : Int32} (hs : s = 44 ∨ s = 59) : (∃ (B : Nat) (v : Int32), NOK sc sb mm tx A s B v) ∨ NNO sc sb mm tx A s := by
  have hsd : F_X9_within s (48 : Int32) (57 : Int32) = 0 := by rcases hs with rfl | rfl <;> decide
  obtain ⟨c, v, -, hc3, e1, -⟩ := num_loop (mm' := mm) h rfl hA 3 0 0 (by decide)
  have e1 : F_X5_numberEnd_l6 sc sb (nI A) 3 (nI A) (0 : Int32) = (nI (A + c), v) := e1
  have mdl : ∀ (mm' : Nat → Int32), mm' 2 = mm 2 → mm' 3 = nI A → (F_X10_number_l6 mm' tx 4 (0 : Int32) (0 : Int32) (mm' 3) = (nI c, v, nI (A + c)) ∨ (c = 3 ∧ ¬ F_X9_within (F_X7_at sc sb (nI (A + 3))) (48 : Int32) (57 : Int32) = 0 ∧ ∃ w' : Int32, F_X10_number_l6 mm' tx 4 (0 : Int32) (0 : Int32) (mm' 3) = (nI 4, w', nI (A + 4)))) := by
    intro mm' h2 h3
    obtain ⟨c', v', -, hc', f1, f2⟩ := num_loop (mm' := mm') h h2 hA 3 0 0 (by decide)
    have f1 : F_X5_numberEnd_l6 sc sb (nI A) 3 (nI A) (0 : Int32) = (nI (A + c'), v') := f1
    rw [e1] at f1
    simp only [Prod.mk.injEq] at f1
    have ec : c' = c := by
      have := f1.1
      rw [nI_eq (by omega) (by omega)] at this
      omega
    rw [ec, ← f1.2] at f2
    rw [h3]
    exact f2
  by_cases ok : 1 ≤ c ∧ F_X7_at sc sb (nI (A + c)) = s
  · refine Or.inl ⟨A + c + 1, v, by omega, by omega, fun nums w hw => ?_, fun mm' least most h2 h3 => ?_⟩
    · unfold F_X5_numberEnd
      rw [e1]
      dsimp only
      unfold F_X5_numberEnd_x6
      have w4 : ¬ F_X9_within (nI w) (0 : Int32) ((4 : Int32) - (1 : Int32)) = 0 := by
        unfold F_X9_within
        rw [if_neg (nI_pos (by omega)), if_neg (show ¬ (4 : Int32) - (1 : Int32) < nI w from nI_nlt (a := 3) (b := w) (by omega) (by omega))]
        decide
      rw [if_neg (by rw [nI_eq (by omega) (by omega)]; omega), if_pos ok.2, if_neg w4, nI_1, nI_clamp (by omega)]
    · have ml : F_X10_number_l6 mm' tx 4 (0 : Int32) (0 : Int32) (mm' 3) = (nI c, v, nI (A + c)) := by
        rcases mdl mm' h2 h3 with q | ⟨q1, q2, -⟩
        · exact q
        · rw [← q1, ok.2] at q2
          exact absurd hsd q2
      have in1 : ¬ F_X9_within (nI c) (1 : Int32) (3 : Int32) = 0 := by
        unfold F_X9_within
        rw [if_neg (show ¬ nI c < (1 : Int32) from nI_nlt (a := c) (b := 1) (by omega) (by omega)), if_neg (show ¬ (3 : Int32) < nI c from nI_nlt (a := 3) (b := c) (by omega) (by omega))]
        decide
      have hb : F_X10_byteAt (upd mm' 3 (nI (A + c))) tx (nI (A + c)) = s := by rw [← at_eq (mm' := upd mm' 3 (nI (A + c))) h h2 (by omega)]; exact ok.2
      unfold F_X10_number
      rw [ml]
      dsimp only
      unfold F_X10_number_x6 F_X10_number_j109 F_X10_number_j110 F_X10_number_k120
      rw [in_eq, in_eq, nI_1]
      by_cases m4 : mm' 4 = 0
      · rw [if_pos m4, if_pos rfl]
        exact ⟨_, _, rfl, Or.inr ⟨rfl, Or.inl m4⟩⟩
      · rw [if_neg m4, if_neg in1]
        by_cases rg : F_X9_within v least most = 0
        · rw [if_pos rg, if_pos rfl]
          exact ⟨_, _, rfl, Or.inr ⟨rfl, Or.inr rg⟩⟩
        · rw [if_neg rg, if_pos hb, if_neg (by decide)]
          exact ⟨_, _, rfl, Or.inl ⟨rfl, rfl, rg, m4⟩⟩
  · refine Or.inr ⟨fun nums w hw => ?_, fun mm' least most h2 h3 => ?_⟩
    · unfold F_X5_numberEnd
      rw [e1]
      dsimp only
      unfold F_X5_numberEnd_x6
      by_cases c0 : nI (A + c) = nI A
      · rw [if_pos c0]
      · rw [if_neg c0]
        have : ¬ F_X7_at sc sb (nI (A + c)) = s := by
          intro w
          refine ok ⟨?_, w⟩
          rw [nI_eq (by omega) (by omega)] at c0
          omega
        rw [if_neg this]
    · unfold F_X10_number
      have fin : ∀ (a b d : Int32), (F_X9_within a (1 : Int32) (3 : Int32) = 0 ∨ ¬ F_X10_byteAt (upd mm' 3 d) tx d = s) → ∃ r x : Int32, F_X10_number_x6 mm' tx least most s a b d = (r, x, 0) := by
        intro a b d hh
        unfold F_X10_number_x6 F_X10_number_j109 F_X10_number_j110 F_X10_number_k120
        rw [in_eq, in_eq]
        by_cases m4 : mm' 4 = 0
        · rw [if_pos m4]; exact ⟨_, _, rfl⟩
        · rw [if_neg m4]
          by_cases i1 : F_X9_within a (1 : Int32) (3 : Int32) = 0
          · rw [if_pos i1]; exact ⟨_, _, rfl⟩
          · rw [if_neg i1]
            by_cases rg : F_X9_within b least most = 0
            · rw [if_pos rg]; exact ⟨_, _, rfl⟩
            · rw [if_neg rg, if_neg (hh.resolve_left i1)]; exact ⟨_, _, rfl⟩
      rcases mdl mm' h2 h3 with q | ⟨q1, q2, w', q3⟩
      · rw [q]
        refine fin _ _ _ ?_
        by_cases c1 : 1 ≤ c
        · right
          rw [← at_eq (mm' := upd mm' 3 (nI (A + c))) h h2 (by omega)]
          exact fun w => ok ⟨c1, w⟩
        · left
          have c0 : c = 0 := by omega
          subst c0
          decide
      · rw [q3]
        exact fin _ _ _ (Or.inl (by decide))
theorem N0 (mm' tx : Nat → Int32) (least most s : Int32) (h4 : mm' 4 = 0) : ∃ r x : Int32, F_X10_number mm' tx least most s = (r, x, 0) := by
  unfold F_X10_number
  generalize F_X10_number_l6 mm' tx 4 (0 : Int32) (0 : Int32) (mm' 3) = q
  obtain ⟨a, b, d⟩ := q
  dsimp only
  unfold F_X10_number_x6 F_X10_number_j109 F_X10_number_j110 F_X10_number_k120
  rw [if_pos h4]
  exact ⟨_, _, rfl⟩
/-- the class's loop over the numbers of an item -/
theorem it_ok {rg sn sc sb nums : Nat → Int32} {v2 v : Int32} {n i j A B : Nat} (hi : i < n) (hn : n ≤ 4) (hB : B < 2 ^ 31) (hE : ∀ (nums : Nat → Int32) (w : Nat), w < 4 → F_X5_numberEnd nums sc sb (nI A) (nI w) (if i + 1 = n then 59 else 44) = (nI B, upd nums w v)) : F_X5_itemEnd_l20 rg sn sc sb v2 (nI n) (j + 1) (nI i) (nI A) nums = F_X5_itemEnd_l20 rg sn sc sb v2 (nI n) j (nI (i + 1)) (nI B) (upd nums i v) := by
  rw [F_X5_itemEnd_l20]
  have e49 : ∀ s : Int32, s = (if i + 1 = n then (59 : Int32) else 44) → F_X5_itemEnd_j49 rg sn sc sb (nI i) (nI A) nums s = Sum.inl (nI (i + 1), nI B, upd nums i v) := by
    intro s hs
    subst hs
    unfold F_X5_itemEnd_j49
    rw [hE nums i (by omega)]
    dsimp only
    unfold F_X5_itemEnd_k49
    rw [if_neg ?_, nI_1]
    intro w
    have := congrArg Int32.toInt w
    rw [nI_toInt hB] at this
    have m1 : (-1 : Int32).toInt = -1 := rfl
    omega
  have e : F_X5_itemEnd_b20 rg sn sc sb v2 (nI n) (nI i) (nI A) nums = Sum.inl (nI (i + 1), nI B, upd nums i v) := by
    unfold F_X5_itemEnd_b20
    rw [if_neg (nI_ge hi (by omega)), show (1 : Int32) = nI 1 from rfl, pk_sub (by omega)]
    by_cases q : i + 1 = n
    · rw [if_pos (by congr 1; omega)]
      exact e49 59 (by rw [if_pos q])
    · rw [if_neg (by rw [nI_eq (by omega) (by omega)]; omega)]
      exact e49 44 (by rw [if_neg q])
  rw [e]
theorem it_no {rg sn sc sb nums : Nat → Int32} {v2 : Int32} {n i j A : Nat} (hi : i < n) (hn : n ≤ 4) (hE : ∀ (nums : Nat → Int32) (w : Nat), w < 4 → F_X5_numberEnd nums sc sb (nI A) (nI w) (if i + 1 = n then 59 else 44) = (-1, nums)) : F_X5_itemEnd_l20 rg sn sc sb v2 (nI n) (j + 1) (nI i) (nI A) nums = (-1, rg, sn, nums) := by
  rw [F_X5_itemEnd_l20]
  have e49 : ∀ s : Int32, s = (if i + 1 = n then (59 : Int32) else 44) → F_X5_itemEnd_j49 rg sn sc sb (nI i) (nI A) nums s = Sum.inr (-1, rg, sn, nums) := by
    intro s hs
    subst hs
    unfold F_X5_itemEnd_j49
    rw [hE nums i (by omega)]
    rfl
  have e : F_X5_itemEnd_b20 rg sn sc sb v2 (nI n) (nI i) (nI A) nums = Sum.inr (-1, rg, sn, nums) := by
    unfold F_X5_itemEnd_b20
    rw [if_neg (nI_ge hi (by omega)), show (1 : Int32) = nI 1 from rfl, pk_sub (by omega)]
    by_cases q : i + 1 = n
    · rw [if_pos (by congr 1; omega)]
      exact e49 59 (by rw [if_pos q])
    · rw [if_neg (by rw [nI_eq (by omega) (by omega)]; omega)]
      exact e49 44 (by rw [if_neg q])
  rw [e]
theorem it_end {rg sn sc sb nums : Nat → Int32} {v2 : Int32} {n A : Nat} (h0 : 0 < n) (hn : n ≤ 4) : F_X5_itemEnd_l20 rg sn sc sb v2 (nI n) 0 (nI n) (nI A) nums = (if (F_X5_take rg sn nums v2).1 = 0 then (-1, (F_X5_take rg sn nums v2).2.1, (F_X5_take rg sn nums v2).2.2, nums) else (nI A, (F_X5_take rg sn nums v2).2.1, (F_X5_take rg sn nums v2).2.2, nums)) := by
  show F_X5_itemEnd_x20 rg sn v2 (nI n) (nI A) nums = _
  unfold F_X5_itemEnd_x20
  rw [if_neg (nI_nle h0 (by omega))]
  generalize F_X5_take rg sn nums v2 = q
  obtain ⟨a, b, d⟩ := q
  rfl
