/-! the law's start: the classes, the array classes, the nest's links -/
theorem in_r {big ws : List Cond} (ps : List Nat) (hp : ws = ps.filterMap (fun i => big[i]?)) : ∀ w ∈ ws, w ∈ big := by
  intro w hw
  rw [hp] at hw
  obtain ⟨i, -, hi⟩ := List.mem_filterMap.mp hw
  exact List.mem_of_getElem? hi
set_option maxRecDepth 20000 in
theorem nest_in : ∀ w ∈ nestL, w ∈ lw_tbl := in_r [97, 98, 118, 119, 121, 122, 123, 125, 126, 128, 129, 130, 132, 133, 135, 136, 137, 139, 140, 141, 143, 144, 146, 147, 148, 149, 151, 152, 154, 155, 157, 158, 160, 161, 163, 164, 165, 166, 168, 169, 171, 172, 173, 175, 176, 213, 239, 268, 269, 271, 272, 274, 275, 277, 279, 281, 283, 302, 304, 307, 309, 311, 335, 354, 91, 107, 113, 225, 228, 257, 263, 300, 327, 347, 363, 367, 384, 392, 396, 461, 473, 477, 482, 493, 521, 525, 533, 542, 550, 558, 562, 563, 564, 568, 572, 577, 581, 582, 608, 639, 647, 651, 659, 694, 698, 707, 711, 712, 718, 728, 732, 741, 746, 750, 771, 788] (by decide +kernel)
theorem iL_X0 : ∀ w ∈ wsX00, w ∈ lw_tbl := fun w h => (lg_X9_init w (iX9_init_X0 w h)).1
theorem iL_X1 : ∀ w ∈ wsX10, w ∈ lw_tbl := fun w h => (lg_X9_init w (iX9_init_X1 w h)).1
theorem iL_X2 : ∀ w ∈ wsX20, w ∈ lw_tbl := fun w h => (lg_X9_init w (iX9_init_X2 w h)).1
theorem iL_X3 : ∀ w ∈ wsX30, w ∈ lw_tbl := fun w h => (lg_X9_init w (iX9_init_X3 w h)).1
theorem iL_X4 : ∀ w ∈ wsX40, w ∈ lw_tbl := fun w h => (lg_X9_init w (iX9_init_X4 w h)).1
theorem iL_X5 : ∀ w ∈ wsX50, w ∈ lw_tbl := fun w h => (lg_X9_init w (iX9_init_X5 w h)).1
theorem iL_X6 : ∀ w ∈ wsX60, w ∈ lw_tbl := fun w h => (lg_X9_init w (iX9_init_X6 w h)).1
theorem iL_X7 : ∀ w ∈ wsX70, w ∈ lw_tbl := fun w h => (lg_X9_init w (iX9_init_X7 w h)).1
theorem iL_X8 : ∀ w ∈ wsX80, w ∈ lw_tbl := fun w h => (lg_X9_init w (iX9_init_X8 w h)).1
theorem iL_X9 : ∀ w ∈ wsX90, w ∈ lw_tbl := fun w h => (lg_X9_init w (iX9_init_X9 w h)).1
theorem iL_X10 : ∀ w ∈ wsX100, w ∈ lw_tbl := fun w h => (lg_X10_init w (iX10_init_X10 w h)).1
set_option maxHeartbeats 1000000 in
set_option maxRecDepth 20000 in
theorem start_E {s : State} {b : Nat} (hts : ∀ w ∈ lw_tbl, w.before #[Value.ref b] s = true) : ∃ E : wV, wE E s := by
  obtain ⟨c0, i0, h0⟩ := u_known (C := RX0) (T := TX0) (N := 7) (n := 7) hts iL_X0 (hts (.instantiable RX0 7) (List.mem_of_getElem? (i := 227) (by decide +kernel)))
  obtain ⟨c1, i1, h1⟩ := u_known (C := RX1) (T := TX1) (N := 4) (n := 4) hts iL_X1 (hts (.instantiable RX1 4) (List.mem_of_getElem? (i := 326) (by decide +kernel)))
  obtain ⟨c2, i2, h2⟩ := u_known (C := RX2) (T := TX2) (N := 3) (n := 3) hts iL_X2 (hts (.instantiable RX2 3) (List.mem_of_getElem? (i := 346) (by decide +kernel)))
  obtain ⟨c3, i3, h3⟩ := u_known (C := RX3) (T := TX3) (N := 4) (n := 4) hts iL_X3 (hts (.instantiable RX3 4) (List.mem_of_getElem? (i := 366) (by decide +kernel)))
  obtain ⟨c4, i4, h4⟩ := u_known (C := RX4) (T := TX4) (N := 7) (n := 7) hts iL_X4 (hts (.instantiable RX4 7) (List.mem_of_getElem? (i := 262) (by decide +kernel)))
  obtain ⟨c5, i5, h5⟩ := u_known (C := RX5) (T := TX5) (N := 3) (n := 3) hts iL_X5 (hts (.instantiable RX5 3) (List.mem_of_getElem? (i := 106) (by decide +kernel)))
  obtain ⟨c6, i6, h6⟩ := u_known (C := RX6) (T := TX6) (N := 17) (n := 17) hts iL_X6 (hts (.instantiable RX6 17) (List.mem_of_getElem? (i := 112) (by decide +kernel)))
  obtain ⟨c7, i7, h7⟩ := u_known (C := RX7) (T := TX7) (N := 2) (n := 2) hts iL_X7 (hts (.instantiable RX7 2) (List.mem_of_getElem? (i := 90) (by decide +kernel)))
  obtain ⟨c8, i8, h8⟩ := u_known (C := RX8) (T := TX8) (N := 6) (n := 6) hts iL_X8 (hts (.instantiable RX8 6) (List.mem_of_getElem? (i := 256) (by decide +kernel)))
  obtain ⟨c9, i9, h9⟩ := u_known (C := RX9) (T := TX9) (N := 18) (n := 18) hts iL_X9 (hts (.instantiable RX9 18) (List.mem_of_getElem? (i := 82) (by decide +kernel)))
  obtain ⟨c10, i10, h10⟩ := u_known (C := RX10) (T := TX10) (N := 27) (n := 27) hts iL_X10 (hts (.instantiable RX10 27) (List.mem_of_getElem? (i := 801) (by decide +kernel)))
  obtain ⟨cI, kI, mI, f1, f2, f3⟩ := Cond.arrayClass_spec (hts (.arrayClass .int) (List.mem_of_getElem? (i := 223) (by decide +kernel)))
  obtain ⟨cB, kB, mB, g1, g2, g3⟩ := Cond.arrayClass_spec (hts (.arrayClass .byte) (List.mem_of_getElem? (i := 104) (by decide +kernel)))
  have hAO : va_AO "BandBoat$Motion" s := va_AO.of (hts (.arrayOver (.object "BandBoat$Motion")) (List.mem_of_getElem? (i := 364) (by decide +kernel)))
  obtain ⟨mM, cM, kM, e1, -, e3, e4, e5⟩ := Cond.arrayOver_spec hAO
  refine ⟨((fun k => [c0, c1, c2, c3, c4, c5, c6, c7, c8, c9, c10].getD k c0, fun k => [i0, i1, i2, i3, i4, i5, i6, i7, i8, i9, i10].getD k i0), (cI, cB, cM)), ⟨?_, ?_⟩, ?_, hAO⟩
  · intro k q hq
    match k, hq with
    | 0, hq => cases hq; exact h0
    | 1, hq => cases hq; exact h1
    | 2, hq => cases hq; exact h2
    | 3, hq => cases hq; exact h3
    | 4, hq => cases hq; exact h4
    | 5, hq => cases hq; exact h5
    | 6, hq => cases hq; exact h6
    | 7, hq => cases hq; exact h7
    | 8, hq => cases hq; exact h8
    | 9, hq => cases hq; exact h9
    | 10, hq => cases hq; exact h10
    | k + 11, hq => simp [vwCl] at hq
  · intro k q hq
    match k, hq with
    | 0, hq => cases hq; exact ⟨fun N z => ⟨(fun k h => by cases h), kI, f2, mI, f3⟩, f1⟩
    | 1, hq => cases hq; exact ⟨fun N z => ⟨(fun k h => by cases h), kB, g2, mB, g3⟩, g1⟩
    | 2, hq => cases hq; exact ⟨fun N z => ⟨(fun k h => by cases h), kM, e3, mM, e4⟩, kM, mM, e3, e4, e1, e5⟩
    | k + 3, hq => simp [wT] at hq
  · intro w hw
    exact va_Nw.of (nest_tab (List.all_eq_true.mp nestL_is w hw)) (hts w (nest_in w hw))
