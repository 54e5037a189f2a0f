/-! the words of a contract of this claim, its entry, its end, its calls -/
abbrev wV : Type := va_G × (ClassId × ClassId × ClassId)
abbrev wT (E : wV) : List (ClassId × FieldType) := [(E.2.1, .int), (E.2.2.1, .byte), (E.2.2.2, .object "BandBoat$Motion")]
def nestL : List Cond := [.fieldLinkNest RX5 28 "BandBoat$Script" "length" "I" "BandBoat",
  .fieldLinkNest RX9 112 "BandBoat$Script" "length" "I" "BandBoat",
  .fieldLinkNest RX9 145 "BandBoat$Rig" "stuffs" "I" "BandBoat",
  .fieldLinkNest RX5 82 "BandBoat$Rig" "stuffs" "I" "BandBoat",
  .fieldLinkNest RX9 123 "BandBoat$Rig" "banded" "Z" "BandBoat",
  .fieldLinkNest RX5 107 "BandBoat$Rig" "banded" "Z" "BandBoat",
  .fieldLinkNest RX0 7 "BandBoat$Rig" "pulls" "I" "BandBoat",
  .fieldLinkNest RX5 91 "BandBoat$Rig" "pulls" "I" "BandBoat",
  .fieldLinkNest RX9 289 "BandBoat$Rig" "pulls" "I" "BandBoat",
  .fieldLinkNest RX0 45 "BandBoat$Rig" "loses" "I" "BandBoat",
  .fieldLinkNest RX5 94 "BandBoat$Rig" "loses" "I" "BandBoat",
  .fieldLinkNest RX9 300 "BandBoat$Rig" "loses" "I" "BandBoat",
  .fieldLinkNest RX0 27 "BandBoat$Rig" "knots" "I" "BandBoat",
  .fieldLinkNest RX5 97 "BandBoat$Rig" "knots" "I" "BandBoat",
  .fieldLinkNest RX5 100 "BandBoat$Rig" "snaps" "I" "BandBoat",
  .fieldLinkNest RX9 257 "BandBoat$Rig" "snaps" "I" "BandBoat",
  .fieldLinkNest RX0 13 "BandBoat$Rig" "strands" "I" "BandBoat",
  .fieldLinkNest RX5 103 "BandBoat$Rig" "strands" "I" "BandBoat",
  .fieldLinkNest RX9 261 "BandBoat$Rig" "strands" "I" "BandBoat",
  .fieldLinkNest RX0 21 "BandBoat$Rig" "length" "I" "BandBoat",
  .fieldLinkNest RX5 106 "BandBoat$Rig" "length" "I" "BandBoat",
  .fieldLinkNest RX9 260 "BandBoat$Rig" "length" "I" "BandBoat",
  .fieldLinkNest RX0 57 "BandBoat$Rig" "pitch" "I" "BandBoat",
  .fieldLinkNest RX4 52 "BandBoat$Rig" "pitch" "I" "BandBoat",
  .fieldLinkNest RX5 111 "BandBoat$Rig" "pitch" "I" "BandBoat",
  .fieldLinkNest RX9 283 "BandBoat$Rig" "pitch" "I" "BandBoat",
  .fieldLinkNest RX4 60 "BandBoat$Rig" "width" "I" "BandBoat",
  .fieldLinkNest RX5 114 "BandBoat$Rig" "width" "I" "BandBoat",
  .fieldLinkNest RX4 72 "BandBoat$Rig" "weight" "I" "BandBoat",
  .fieldLinkNest RX5 117 "BandBoat$Rig" "weight" "I" "BandBoat",
  .fieldLinkNest RX4 63 "BandBoat$Rig" "drag" "I" "BandBoat",
  .fieldLinkNest RX5 120 "BandBoat$Rig" "drag" "I" "BandBoat",
  .fieldLinkNest RX4 83 "BandBoat$Rig" "veer" "I" "BandBoat",
  .fieldLinkNest RX5 123 "BandBoat$Rig" "veer" "I" "BandBoat",
  .fieldLinkNest RX4 86 "BandBoat$Rig" "rudder" "I" "BandBoat",
  .fieldLinkNest RX5 70 "BandBoat$Rig" "rudder" "I" "BandBoat",
  .fieldLinkNest RX9 286 "BandBoat$Rig" "rudder" "I" "BandBoat",
  .fieldLinkNest RX0 39 "BandBoat$Rig" "cold" "I" "BandBoat",
  .fieldLinkNest RX5 73 "BandBoat$Rig" "cold" "I" "BandBoat",
  .fieldLinkNest RX0 51 "BandBoat$Rig" "days" "I" "BandBoat",
  .fieldLinkNest RX5 76 "BandBoat$Rig" "days" "I" "BandBoat",
  .fieldLinkNest RX9 268 "BandBoat$Rig" "days" "I" "BandBoat",
  .fieldLinkNest RX8 49 "BandBoat$Rig" "gust" "I" "BandBoat",
  .fieldLinkNest RX4 66 "BandBoat$Rig" "gust" "I" "BandBoat",
  .fieldLinkNest RX5 79 "BandBoat$Rig" "gust" "I" "BandBoat",
  .fieldLinkNest RX9 120 "BandBoat$Reader" "rig" "LBandBoat$Rig;" "BandBoat",
  .fieldLinkNest RX4 40 "BandBoat$Band" "spinBy" "I" "BandBoat",
  .fieldLinkNest RX8 36 "BandBoat$Motion" "parts" "I" "BandBoat",
  .fieldLinkNest RX9 231 "BandBoat$Motion" "parts" "I" "BandBoat",
  .fieldLinkNest RX8 74 "BandBoat$Motion" "pace" "I" "BandBoat",
  .fieldLinkNest RX9 238 "BandBoat$Motion" "pace" "I" "BandBoat",
  .fieldLinkNest RX8 83 "BandBoat$Motion" "place" "I" "BandBoat",
  .fieldLinkNest RX9 170 "BandBoat$Motion" "place" "I" "BandBoat",
  .fieldLinkNest RX9 241 "BandBoat$Motion" "turn" "I" "BandBoat",
  .fieldLinkNest RX9 176 "BandBoat$Motion" "side" "I" "BandBoat",
  .fieldLinkNest RX9 244 "BandBoat$Motion" "tenth" "I" "BandBoat",
  .fieldLinkNest RX8 58 "BandBoat$Motion" "steady" "Z" "BandBoat",
  .fieldLinkNest RX9 167 "BandBoat$Trial" "motion" "LBandBoat$Motion;" "BandBoat",
  .fieldLinkNest RX9 292 "BandBoat$Trial" "band" "LBandBoat$Band;" "BandBoat",
  .fieldLinkNest RX9 164 "BandBoat$Trial" "tenths" "I" "BandBoat",
  .fieldLinkNest RX9 173 "BandBoat$Trial" "topPace" "I" "BandBoat",
  .fieldLinkNest RX9 180 "BandBoat$Trial" "emptyAt" "I" "BandBoat",
  .fieldLinkNest RX9 133 "BandBoat$Gauge" "readings" "I" "BandBoat",
  .fieldLinkNest RX9 136 "BandBoat$Marks" "marked" "I" "BandBoat",
  .methodLinkNest RX9 9 yX7_init "BandBoat",
  .methodLinkNest RX9 18 yX5_init "BandBoat",
  .methodLinkNest RX5 11 yX6_init "BandBoat",
  .methodLinkNest RX9 25 yX6_init "BandBoat",
  .methodLinkNest RX9 35 yX0_init "BandBoat",
  .methodLinkNest RX9 42 yX8_init "BandBoat",
  .methodLinkNest RX8 11 yX4_init "BandBoat",
  .methodLinkNest RX8 20 yX0_init "BandBoat",
  .methodLinkNest RX9 49 yX1_init "BandBoat",
  .methodLinkNest RX9 56 yX2_init "BandBoat",
  .methodLinkNest RX9 63 yX4_init "BandBoat",
  .methodLinkNest RX9 78 yX3_init "BandBoat",
  .methodLinkNest RX9 97 yX6_layFirst "BandBoat",
  .methodLinkNest RX9 100 yX0_fit "BandBoat",
  .methodLinkNest RX0 30 yX9_cut "BandBoat",
  .methodLinkNest RX9 108 yX7_append "BandBoat",
  .methodLinkNest RX9 116 yX5_readAll "BandBoat",
  .methodLinkNest RX5 25 yX6_clear "BandBoat",
  .methodLinkNest RX5 38 yX7_at "BandBoat",
  .methodLinkNest RX5 53 yX9_within "BandBoat",
  .methodLinkNest RX9 127 yX6_copy "BandBoat",
  .methodLinkNest RX9 130 yX4_rest "BandBoat",
  .methodLinkNest RX9 220 yX3_drop "BandBoat",
  .methodLinkNest RX9 149 yX0_loosed "BandBoat",
  .methodLinkNest RX9 153 yX0_wound "BandBoat",
  .methodLinkNest RX9 160 yX8_make "BandBoat",
  .methodLinkNest RX8 29 yX0_fit "BandBoat",
  .methodLinkNest RX8 33 yX4_rest "BandBoat",
  .methodLinkNest RX8 54 yX4_isOver "BandBoat",
  .methodLinkNest RX8 62 yX4_drift "BandBoat",
  .methodLinkNest RX4 75 yX9_limit "BandBoat",
  .methodLinkNest RX8 66 yX4_step "BandBoat",
  .methodLinkNest RX4 34 yX0_loosed "BandBoat",
  .methodLinkNest RX4 43 yX9_cut "BandBoat",
  .methodLinkNest RX9 184 yX8_firstAt "BandBoat",
  .methodLinkNest RX9 195 yX3_holds "BandBoat",
  .methodLinkNest RX9 274 yX3_learn "BandBoat",
  .methodLinkNest RX9 277 yX3_put "BandBoat",
  .methodLinkNest RX9 203 yX3_answer "BandBoat",
  .methodLinkNest RX9 217 yX1_add "BandBoat",
  .methodLinkNest RX1 25 yX9_within "BandBoat",
  .methodLinkNest RX9 293 yX1_agrees "BandBoat",
  .methodLinkNest RX1 29 yX0_loosed "BandBoat",
  .methodLinkNest RX1 35 yX0_wound "BandBoat",
  .methodLinkNest RX9 303 yX3_widen "BandBoat",
  .methodLinkNest RX9 226 yX2_add "BandBoat",
  .methodLinkNest RX2 22 yX9_within "BandBoat",
  .methodLinkNest RX9 307 yX2_latest "BandBoat",
  .methodLinkNest RX9 311 yX2_agree "BandBoat",
  .methodLinkNest RX2 32 yX8_reachedBy "BandBoat",
  .methodLinkNest RX9 234 yX4_step "BandBoat",
  .methodLinkNest RX9 251 yX4_copy "BandBoat"]
def isNest : Cond → Bool
  | .fieldLinkNest _ _ _ _ _ _ => true
  | .methodLinkNest _ _ _ _ => true
  | _ => false
theorem nestL_is : nestL.all isNest = true := by decide +kernel
theorem nest_tab {w : Cond} (h : isNest w = true) : w.onTables = true := by
  cases w <;> first | rfl | (simp [isNest] at h)
theorem nest_warm {w : Cond} (h : isNest w = true) {s U : State} (hW : s.WarmedH U.vm) (hZ : va_Nw w s) : va_Nw w U := by
  cases w <;> first | exact va_Nw.warmF hW hZ | exact va_Nw.warmM hW hZ | (simp [isNest] at h)
def wE (E : wV) (U : State) : Prop := va_K E.1 vwCl (wT E) U ∧ (∀ w ∈ nestL, va_Nw w U) ∧ va_AO "BandBoat$Motion" U
theorem wE.moved {E : wV} {s U : State} (hW : s.WarmedH U.vm) (h : wE E s) : wE E U :=
  ⟨va_K.moved hW.alike h.1, fun w hw => nest_warm (List.all_eq_true.mp nestL_is w hw) hW (h.2.1 w hw), va_AO.moved hW.alike h.2.2⟩
theorem wE.calling {E : wV} {U : State} {g : JFrame} {mk : MethodId} {a : Array Value} (h : wE E U) : wE E (U.calling g mk a) :=
  ⟨va_K.moved (u := U) (U := U.calling g mk a) (Vm.Alike.refl U.vm) h.1, fun w hw => va_Nw.same (u := U) (U := U.calling g mk a) (nest_tab (List.all_eq_true.mp nestL_is w hw)) rfl (h.2.1 w hw), va_AO.moved (u := U) (U := U.calling g mk a) (Vm.Alike.refl U.vm) h.2.2⟩
theorem wE.nw {E : wV} {s : State} (h : wE E s) (i : Nat) {w : Cond} (hw : nestL[i]? = some w) : va_Nw w s := h.2.1 w (List.mem_of_getElem? hw)
theorem wE.n {E : wV} {s : State} (h : wE E s) (i : Nat) {w : Cond} (hw : nestL[i]? = some w) {args : Array Value} : w.before args s = true :=
  va_Nw.use (nest_tab (List.all_eq_true.mp nestL_is w (List.mem_of_getElem? hw))) (h.nw i hw)
def Cp (E : wV) (av : List Value) (ws : va_W) (sz : Nat) : Array Value → State → Prop := va_Pc av (fun U => U.heap.size = sz ∧ va_P E.1 vwCl ws U.heap ∧ wE E U ∧ va_D (fun _ => True) ws)
theorem Cp.blind {E : wV} {av : List Value} {ws : va_W} {sz : Nat} : FrameBlind (Cp E av ws sz) := by
  intro a U g mk q
  obtain ⟨q0, q1, qP, qE, qD⟩ := q
  exact ⟨q0, q1, qP, qE.calling, qD⟩
def Bw (E : wV) (A : Nat → Prop) {S : Type} (ws : S → va_W) (u : S) (t : State) : Prop := va_P E.1 vwCl (ws u) t.heap ∧ va_D A (ws u)
/-- contracts that make no cell: an int, a long, nothing comes back -/
def MetI (l : Launch) (y : MethodName) (cs : List Cond) (rm : Room) (E : wV) (av : List Value) (ws : va_W) {S : Type} (post : Int32 → S → Prop) (ws' : S → va_W) : Prop :=
  ∀ sz : Nat, Met l y cs rm (Cp E av ws sz) (va_Qi post (Bw E (va_A ws sz) ws') (va_A ws sz)) 0 0 (va_A ws sz)
def MetL (l : Launch) (y : MethodName) (cs : List Cond) (rm : Room) (E : wV) (av : List Value) (ws : va_W) {S : Type} (post : Int64 → S → Prop) (ws' : S → va_W) : Prop :=
  ∀ sz : Nat, Met l y cs rm (Cp E av ws sz) (va_Ql post (Bw E (va_A ws sz) ws') (va_A ws sz)) 0 0 (va_A ws sz)
def MetV (l : Launch) (y : MethodName) (cs : List Cond) (rm : Room) (E : wV) (av : List Value) (ws : va_W) {S : Type} (post : S → Prop) (ws' : S → va_W) : Prop :=
  ∀ sz : Nat, Met l y cs rm (Cp E av ws sz) (va_Qv post (Bw E (va_A ws sz) ws') (va_A ws sz)) 0 0 (va_A ws sz)
/-- what a walk stands on -/
def Cx (p : Program) (s : State) (m : MethodId) (c : Code) (cc : ByteArray) (nL : Nat) (args : Array Value) (Ts : List Cond) (own : String) (E : wV) (A : Nat → Prop) (H0 : Heap) : Prop :=
  p.tables.exec = Jvm.exec ∧ c.code = cc ∧ c.maxLocals = nL ∧ s.vm.findClass own = some m.cls ∧ (∀ w ∈ Ts, w.before args s = true) ∧ wE E s ∧ ∀ q : Nat, H0.size ≤ q → A q
section ENTRY
variable {l : Launch} {y : MethodName} {cs cs' : List Cond} {rm : Room} {E : wV} {av : List Value} {ws : va_W} {S : Type} {ws' : S → va_W} {cc : ByteArray} {maxL : Nat} {own : String}
theorem MetI.of {post : Int32 → S → Prop} {ret : FieldType} (hy : plainName y.cls = true) (ho : y.cls = own) (hw : cs = Cond.code y cc maxL (some ret) :: cs') (hav : (lg_sl av).length ≤ maxL)
    (body : ∀ (p : Program) (e : Env) (s : State) (m : MethodId) (below : List Frame) (meth : Method) (c : Code) (A : Nat → Prop) (Q : State → Prop) (ls : Array Slot),
      Cx p s m c cc maxL av.toArray cs own E A s.heap → va_P E.1 vwCl ws s.heap → va_D A ws → va_S A s.heap s.heap [] → lv_has ls maxL (lv_args 0 av) →
      (∀ (r : Int32) (u : S) (H : Heap) (locs : List Loc) (pc : Nat) (ls : Array Slot), decode cc pc = .ok (.ireturn, 1) → narrow ret (.int r) = .int r → post r u → va_P E.1 vwCl (ws' u) H → va_D A (ws' u) → va_S A s.heap H locs → W p l e rm s m av.toArray below meth c H locs 0 0 Q (F0 m pc ls [.int r])) →
      W p l e rm s m av.toArray below meth c s.heap [] 0 0 Q (F0 m 0 ls [])) : MetI l y cs rm E av ws post ws' := by
  intro sz
  refine Met.ofW (cc := cc) (maxL := maxL) (ret := some ret) hy hw ?_
  intro p e s m args below meth c s₁ B hml hv
  obtain ⟨rfl, hsz, hP, hE, hD0⟩ := hv
  have hr := B.returns
  have hts := atoms_spec (ws := cs) B.pre
  have hown : s.vm.findClass own = some m.cls := by rw [← ho]; exact findClass_of_methodNamed B.named
  have hlocks := B.notSynchronized
  subst hsz
  have hD := hD0.self (sz := s.heap.size)
  rw [lg_entry_eq]
  refine body p e s m below meth c _ _ _ ⟨B.exec, B.bytes, hml, hown, hts, hE, fun q h => Or.inr h⟩ hP hD va_S.rf (lv_entry av hav) ?_
  intro r u H locs pc ls hdg hn hp hP9 hD9 hS
  exact W.zret (v := r) B.exec B.bytes hr hn (fun t ht _ => ⟨⟨r, u, rfl, hp, by show va_P _ _ _ t.heap ∧ _; rw [ht]; exact ⟨hP9, hD9⟩⟩, hS.F ht⟩) hS.2.2 hdg
theorem MetL.of {post : Int64 → S → Prop} (hy : plainName y.cls = true) (ho : y.cls = own) (hw : cs = Cond.code y cc maxL (some .long) :: cs') (hav : (lg_sl av).length ≤ maxL)
    (body : ∀ (p : Program) (e : Env) (s : State) (m : MethodId) (below : List Frame) (meth : Method) (c : Code) (A : Nat → Prop) (Q : State → Prop) (ls : Array Slot),
      Cx p s m c cc maxL av.toArray cs own E A s.heap → va_P E.1 vwCl ws s.heap → va_D A ws → va_S A s.heap s.heap [] → lv_has ls maxL (lv_args 0 av) →
      (∀ (r : Int64) (u : S) (H : Heap) (locs : List Loc) (pc : Nat) (ls : Array Slot), decode cc pc = .ok (.lreturn, 1) → post r u → va_P E.1 vwCl (ws' u) H → va_D A (ws' u) → va_S A s.heap H locs → W p l e rm s m av.toArray below meth c H locs 0 0 Q (F0 m pc ls [.long r])) →
      W p l e rm s m av.toArray below meth c s.heap [] 0 0 Q (F0 m 0 ls [])) : MetL l y cs rm E av ws post ws' := by
  intro sz
  refine Met.ofW (cc := cc) (maxL := maxL) (ret := some .long) hy hw ?_
  intro p e s m args below meth c s₁ B hml hv
  obtain ⟨rfl, hsz, hP, hE, hD0⟩ := hv
  have hr := B.returns
  have hts := atoms_spec (ws := cs) B.pre
  have hown : s.vm.findClass own = some m.cls := by rw [← ho]; exact findClass_of_methodNamed B.named
  have hlocks := B.notSynchronized
  subst hsz
  have hD := hD0.self (sz := s.heap.size)
  rw [lg_entry_eq]
  refine body p e s m below meth c _ _ _ ⟨B.exec, B.bytes, hml, hown, hts, hE, fun q h => Or.inr h⟩ hP hD va_S.rf (lv_entry av hav) ?_
  intro r u H locs pc ls hdg hp hP9 hD9 hS
  exact W.lret (v := r) B.exec B.bytes hr (fun t ht _ => ⟨⟨r, u, rfl, hp, by show va_P _ _ _ t.heap ∧ _; rw [ht]; exact ⟨hP9, hD9⟩⟩, hS.F ht⟩) hS.2.2 hdg
theorem MetV.of {post : S → Prop} (hy : plainName y.cls = true) (ho : y.cls = own) (hw : cs = Cond.code y cc maxL none :: cs') (hav : (lg_sl av).length ≤ maxL)
    (body : ∀ (p : Program) (e : Env) (s : State) (m : MethodId) (below : List Frame) (meth : Method) (c : Code) (A : Nat → Prop) (Q : State → Prop) (ls : Array Slot),
      Cx p s m c cc maxL av.toArray cs own E A s.heap → va_P E.1 vwCl ws s.heap → va_D A ws → va_S A s.heap s.heap [] → lv_has ls maxL (lv_args 0 av) →
      (∀ (u : S) (H : Heap) (locs : List Loc) (pc : Nat) (ls : Array Slot), decode cc pc = .ok (.return_, 1) → post u → va_P E.1 vwCl (ws' u) H → va_D A (ws' u) → va_S A s.heap H locs → W p l e rm s m av.toArray below meth c H locs 0 0 Q (F0 m pc ls [])) →
      W p l e rm s m av.toArray below meth c s.heap [] 0 0 Q (F0 m 0 ls [])) : MetV l y cs rm E av ws post ws' := by
  intro sz
  refine Met.ofW (cc := cc) (maxL := maxL) (ret := none) hy hw ?_
  intro p e s m args below meth c s₁ B hml hv
  obtain ⟨rfl, hsz, hP, hE, hD0⟩ := hv
  have hr := B.returns
  have hts := atoms_spec (ws := cs) B.pre
  have hown : s.vm.findClass own = some m.cls := by rw [← ho]; exact findClass_of_methodNamed B.named
  have hlocks := B.notSynchronized
  subst hsz
  have hD := hD0.self (sz := s.heap.size)
  rw [lg_entry_eq]
  refine body p e s m below meth c _ _ _ ⟨B.exec, B.bytes, hml, hown, hts, hE, fun q h => Or.inr h⟩ hP hD va_S.rf (lv_entry av hav) ?_
  intro u H locs pc ls hdg hp hP9 hD9 hS
  exact W.vret B.exec B.bytes hr (fun t ht _ => ⟨⟨u, rfl, hp, by show va_P _ _ _ t.heap ∧ _; rw [ht]; exact ⟨hP9, hD9⟩⟩, hS.F ht⟩) hS.2.2 hdg
end ENTRY
section CALLS
variable {p : Program} {l : Launch} {e : Env} {R : Room} {s : State} {m : MethodId} {args : Array Value} {below : List Frame} {meth : Method} {c : Code} {H : Heap} {locs : List Loc} {cells slots : Nat} {Q : State → Prop}
variable {cc : ByteArray} {pc : Nat} {ls : Array Slot} {rest st0 : List Value} {A : Nat → Prop} {H0 : Heap} {nL : Nat} {Ts : List Cond} {own : String} {E : wV}
variable {y : MethodName} {cs : List Cond} {rm : Room} {av : List Value} {S : Type} {wc wr ws : va_W} {wc' wn : S → va_W}
/-- what of the caller's world goes into a call, what stays, how it is laid behind it -/
def Cut (ws wc wr : va_W) {S : Type} (wc' wn : S → va_W) (isC isR is2 : List Nat) : Prop :=
  isC.map (fun i => ws[i]?) = wc.map some ∧ isR.map (fun i => ws[i]?) = wr.map some ∧ va_nd isC = true ∧ va_nd isR = true ∧ (∀ i ∈ isR, i ∉ isC) ∧ va_nd is2 = true ∧ ∀ u : S, is2.map (fun i => (wr ++ wc' u)[i]?) = (wn u).map some
theorem cut_sub {isC : List Nat} (h : isC.map (fun i => ws[i]?) = wc.map some) : isC.filterMap (fun i => ws[i]?) = wc := by
  have h2 := congrArg (List.filterMap id) h
  simpa [List.filterMap_map] using h2
theorem kI {post : Int32 → S → Prop} {isC isR is2 : List Nat} (cx : Cx p s m c cc nL args Ts own E A H0) (hP : va_P E.1 vwCl ws H) (hD : va_D A ws) (hS : va_S A H0 H locs) (ct : Cut ws wc wr wc' wn isC isR is2)
    (run : (va_P E.1 vwCl wc H → va_D (fun _ => True) wc → va_Run p l e R s m args below meth c H locs cells slots 0 0 (F0 m pc ls st0) rest (va_Qi post (Bw E (va_A wc H.size) wc') (va_A wc H.size) av.toArray) (va_A wc H.size)))
    (kk : ∀ (r : Int32) (u : S) (H1 : Heap) (locs1 : List Loc), post r u → va_P E.1 vwCl (wn u) H1 → va_D A (wn u) → va_S A H0 H1 locs1 → W p l e R s m args below meth c H1 locs1 cells slots Q (F0 m (pc + 3) ls (.int r :: rest))) :
    W p l e R s m args below meth c H locs cells slots Q (F0 m pc ls st0) := by
  obtain ⟨hC, hR, hnC, hnR, hdis, hn2, h2⟩ := ct
  have hFc := va_free (wc := wc) hD hS cx.2.2.2.2.2.2 isC hC
  have hPc := hP.sub isC (cut_sub hC)
  have hDc := hD.sub isC hnC hC
  refine va_calli (run hPc (hDc.weaken (fun _ _ _ _ => trivial))) hS (fun q _ h => hFc q h) hFc (fun r u t H1 locs1 ht _ hw hB _ hk1 hS1 => ?_)
  obtain ⟨hP1, hD1⟩ := hB
  rw [ht] at hP1
  obtain ⟨hP2, hD2⟩ := va_join (wr := wr) (w1 := wc' u) hP hD isC isR hC hR hnR hdis hk1 hFc hP1 hD1
  exact kk r u H1 locs1 hw (hP2.sub is2 (cut_sub (h2 u))) (hD2.sub is2 hn2 (h2 u)) hS1
theorem kL {post : Int64 → S → Prop} {isC isR is2 : List Nat} (cx : Cx p s m c cc nL args Ts own E A H0) (hP : va_P E.1 vwCl ws H) (hD : va_D A ws) (hS : va_S A H0 H locs) (ct : Cut ws wc wr wc' wn isC isR is2)
    (run : (va_P E.1 vwCl wc H → va_D (fun _ => True) wc → va_Run p l e R s m args below meth c H locs cells slots 0 0 (F0 m pc ls st0) rest (va_Ql post (Bw E (va_A wc H.size) wc') (va_A wc H.size) av.toArray) (va_A wc H.size)))
    (kk : ∀ (r : Int64) (u : S) (H1 : Heap) (locs1 : List Loc), post r u → va_P E.1 vwCl (wn u) H1 → va_D A (wn u) → va_S A H0 H1 locs1 → W p l e R s m args below meth c H1 locs1 cells slots Q (F0 m (pc + 3) ls (.long r :: rest))) :
    W p l e R s m args below meth c H locs cells slots Q (F0 m pc ls st0) := by
  obtain ⟨hC, hR, hnC, hnR, hdis, hn2, h2⟩ := ct
  have hFc := va_free (wc := wc) hD hS cx.2.2.2.2.2.2 isC hC
  have hPc := hP.sub isC (cut_sub hC)
  have hDc := hD.sub isC hnC hC
  refine va_calll (run hPc (hDc.weaken (fun _ _ _ _ => trivial))) hS (fun q _ h => hFc q h) hFc (fun r u t H1 locs1 ht _ hw hB _ hk1 hS1 => ?_)
  obtain ⟨hP1, hD1⟩ := hB
  rw [ht] at hP1
  obtain ⟨hP2, hD2⟩ := va_join (wr := wr) (w1 := wc' u) hP hD isC isR hC hR hnR hdis hk1 hFc hP1 hD1
  exact kk r u H1 locs1 hw (hP2.sub is2 (cut_sub (h2 u))) (hD2.sub is2 hn2 (h2 u)) hS1
theorem kV {post : S → Prop} {isC isR is2 : List Nat} (cx : Cx p s m c cc nL args Ts own E A H0) (hP : va_P E.1 vwCl ws H) (hD : va_D A ws) (hS : va_S A H0 H locs) (ct : Cut ws wc wr wc' wn isC isR is2)
    (run : (va_P E.1 vwCl wc H → va_D (fun _ => True) wc → va_Run p l e R s m args below meth c H locs cells slots 0 0 (F0 m pc ls st0) rest (va_Qv post (Bw E (va_A wc H.size) wc') (va_A wc H.size) av.toArray) (va_A wc H.size)))
    (kk : ∀ (u : S) (H1 : Heap) (locs1 : List Loc), post u → va_P E.1 vwCl (wn u) H1 → va_D A (wn u) → va_S A H0 H1 locs1 → W p l e R s m args below meth c H1 locs1 cells slots Q (F0 m (pc + 3) ls rest)) :
    W p l e R s m args below meth c H locs cells slots Q (F0 m pc ls st0) := by
  obtain ⟨hC, hR, hnC, hnR, hdis, hn2, h2⟩ := ct
  have hFc := va_free (wc := wc) hD hS cx.2.2.2.2.2.2 isC hC
  have hPc := hP.sub isC (cut_sub hC)
  have hDc := hD.sub isC hnC hC
  refine va_callv (run hPc (hDc.weaken (fun _ _ _ _ => trivial))) hS (fun q _ h => hFc q h) hFc (fun u t H1 locs1 ht _ hw hB _ hk1 hS1 => ?_)
  obtain ⟨hP1, hD1⟩ := hB
  rw [ht] at hP1
  obtain ⟨hP2, hD2⟩ := va_join (wr := wr) (w1 := wc' u) hP hD isC isR hC hR hnR hdis hk1 hFc hP1 hD1
  exact kk u H1 locs1 hw (hP2.sub is2 (cut_sub (h2 u))) (hD2.sub is2 hn2 (h2 u)) hS1
/-- the run of a call, by its kind: of the own class, static, or of a nest mate -/
theorem rV {Qc : Array Value → State → Outcome → State → Prop} {free : Addr → Prop} {As : List Value} {b : Addr} {C : String} {index n maxL q0 ci : Nat} {bytes : ByteArray} {ret : Option FieldType} {fs : List Value} {qq : vw_C} (cx : Cx p s m c cc nL args Ts own E A H0)
    (hM : Met l y cs rm (Cp E (.ref b :: As) wc H.size) Qc 0 0 free) (cw : CallW R s args own C index y bytes maxL ret cs rm 0 0 n) (hc : vwCl[ci]? = some qq) (hC : qq.1 = C) (he : wc[q0]? = some (b, .inr (ci, fs)))
    (hn : As.length = n) (hsize : ls.size = nL) (hst : st0 = As.reverse ++ .ref b :: rest) (hW : (rest.map fun v => v.category).sum ≤ 8) (hdg : decode cc pc = .ok (.invokevirtual index, 3)) (hf : cells ≤ R.cells ∧ slots ≤ R.slots) :
    va_P E.1 vwCl wc H → va_D (fun _ => True) wc → va_Run p l e R s m args below meth c H locs cells slots 0 0 (F0 m pc ls st0) rest (Qc (.ref b :: As : List Value).toArray) free := by
  intro hPc hDc
  obtain ⟨hx, hb, hml, hown, hts, hE, -⟩ := cx
  subst hC
  exact va_runV ⟨hx, hb, hml, hown, hts⟩ hM cw ⟨Cp.blind, va_recv hE.1 hPc hc he, fun U hU hW => ⟨rfl, by rw [hU], by rw [hU]; exact hPc, hE.moved hW, hDc⟩⟩ rfl hn hsize hst (lv_room hW) hdg hf
theorem rVN {Qc : Array Value → State → Outcome → State → Prop} {free : Addr → Prop} {As : List Value} {b : Addr} {C host : String} {index n maxL q0 ci : Nat} {bytes : ByteArray} {ret : Option FieldType} {fs : List Value} {qq : vw_C} (cx : Cx p s m c cc nL args Ts own E A H0)
    (hM : Met l y cs rm (Cp E (.ref b :: As) wc H.size) Qc 0 0 free) (cw : va_CN R s args own index y host bytes maxL ret cs rm 0 0 n) (hi : (Cond.instanceMethod y).before args s = true) (hsl : (Cond.selects C y y).before args s = true) (hc : vwCl[ci]? = some qq) (hC : qq.1 = C) (he : wc[q0]? = some (b, .inr (ci, fs)))
    (hn : As.length = n) (hsize : ls.size = nL) (hst : st0 = As.reverse ++ .ref b :: rest) (hW : (rest.map fun v => v.category).sum ≤ 8) (hdg : decode cc pc = .ok (.invokevirtual index, 3)) (hf : cells ≤ R.cells ∧ slots ≤ R.slots) :
    va_P E.1 vwCl wc H → va_D (fun _ => True) wc → va_Run p l e R s m args below meth c H locs cells slots 0 0 (F0 m pc ls st0) rest (Qc (.ref b :: As : List Value).toArray) free := by
  intro hPc hDc
  obtain ⟨hx, hb, hml, hown, hts, hE, -⟩ := cx
  subst hC
  exact va_runVN (C := qq.1) ⟨hx, hb, hml, hown, hts⟩ hM ⟨cw, hi, hsl⟩ ⟨Cp.blind, va_recv hE.1 hPc hc he, fun U hU hW => ⟨rfl, by rw [hU], by rw [hU]; exact hPc, hE.moved hW, hDc⟩⟩ rfl hn hsize hst (lv_room hW) hdg hf
theorem rS {Qc : Array Value → State → Outcome → State → Prop} {free : Addr → Prop} {As : List Value} {index n maxL : Nat} {bytes : ByteArray} {ret : Option FieldType} (cx : Cx p s m c cc nL args Ts own E A H0)
    (hM : Met l y cs rm (Cp E As wc H.size) Qc 0 0 free) (cw : CallB R s args own index y bytes maxL ret cs rm 0 0 n ∧ (Cond.static y).before args s = true)
    (hn : As.length = n) (hsize : ls.size = nL) (hst : st0 = As.reverse ++ rest) (hW : (rest.map fun v => v.category).sum ≤ 8) (hdg : decode cc pc = .ok (.invokestatic index, 3)) (hf : cells ≤ R.cells ∧ slots ≤ R.slots) :
    va_P E.1 vwCl wc H → va_D (fun _ => True) wc → va_Run p l e R s m args below meth c H locs cells slots 0 0 (F0 m pc ls st0) rest (Qc As.toArray) free := by
  intro hPc hDc
  obtain ⟨hx, hb, hml, hown, hts, hE, -⟩ := cx
  exact va_runS ⟨hx, hb, hml, hown, hts⟩ hM cw ⟨Cp.blind, fun U hU hW => ⟨rfl, by rw [hU], by rw [hU]; exact hPc, hE.moved hW, hDc⟩⟩ rfl hn hsize hst (lv_room hW) hdg hf
theorem rSN {Qc : Array Value → State → Outcome → State → Prop} {free : Addr → Prop} {As : List Value} {host : String} {index n maxL : Nat} {bytes : ByteArray} {ret : Option FieldType} (cx : Cx p s m c cc nL args Ts own E A H0)
    (hM : Met l y cs rm (Cp E As wc H.size) Qc 0 0 free) (cw : va_CN R s args own index y host bytes maxL ret cs rm 0 0 n) (hi : (Cond.static y).before args s = true)
    (hn : As.length = n) (hsize : ls.size = nL) (hst : st0 = As.reverse ++ rest) (hW : (rest.map fun v => v.category).sum ≤ 8) (hdg : decode cc pc = .ok (.invokestatic index, 3)) (hf : cells ≤ R.cells ∧ slots ≤ R.slots) :
    va_P E.1 vwCl wc H → va_D (fun _ => True) wc → va_Run p l e R s m args below meth c H locs cells slots 0 0 (F0 m pc ls st0) rest (Qc As.toArray) free := by
  intro hPc hDc
  obtain ⟨hx, hb, hml, hown, hts, hE, -⟩ := cx
  exact va_runSN ⟨hx, hb, hml, hown, hts⟩ hM ⟨cw, hi, trivial⟩ ⟨Cp.blind, fun U hU hW => ⟨rfl, by rw [hU], by rw [hU]; exact hPc, hE.moved hW, hDc⟩⟩ rfl hn hsize hst (lv_room hW) hdg hf
end CALLS
section ARR
variable {p : Program} {l : Launch} {e : Env} {R : Room} {s : State} {m : MethodId} {args : Array Value} {below : List Frame} {meth : Method} {c : Code} {H : Heap} {locs : List Loc} {cells slots : Nat} {Q : State → Prop}
variable {cc : ByteArray} {pc : Nat} {ls : Array Slot} {rest : List Value} {A : Nat → Prop} {H0 : Heap} {E : wV} {ws ws' : va_W} {a n k : Nat} {f : Nat → Int32} {i v x : Int32}
/-- an int of an array, at a place k, its value v -/
theorem ar_ild (hx : p.tables.exec = Jvm.exec) (hb : c.code = cc) (hE : wE E s) (hP : va_P E.1 vwCl ws H) (q0 : Nat) (ha : ws[q0]? = some (a, .inl (E.2.1, n, .inl f))) (hin : vp_in i n) (hk : i.toNatClampNeg = k) (hv : f k = v) (hdg : decode cc pc = .ok (.iaload, 1))
    (kk : W p l e R s m args below meth c H locs cells slots Q (F0 m (pc + 1) ls (.int v :: rest))) : W p l e R s m args below meth c H locs cells slots Q (F0 m pc ls (.int i :: .ref a :: rest)) := by
  subst hk; subst hv
  exact va_iald hx hb hE.1 hP q0 0 ha rfl hin hdg kk
theorem ar_bld (hx : p.tables.exec = Jvm.exec) (hb : c.code = cc) (hE : wE E s) (hP : va_P E.1 vwCl ws H) (q0 : Nat) (ha : ws[q0]? = some (a, .inl (E.2.2.1, n, .inl f))) (hin : vp_in i n) (hk : i.toNatClampNeg = k) (hv : f k = v) (hdg : decode cc pc = .ok (.baload, 1))
    (kk : W p l e R s m args below meth c H locs cells slots Q (F0 m (pc + 1) ls (.int v :: rest))) : W p l e R s m args below meth c H locs cells slots Q (F0 m pc ls (.int i :: .ref a :: rest)) := by
  subst hk; subst hv
  exact va_bald hx hb hE.1 hP q0 1 ha rfl hin hdg kk
theorem ar_ist (hx : p.tables.exec = Jvm.exec) (hb : c.code = cc) (hE : wE E s) (hP : va_P E.1 vwCl ws H) (hD : va_D A ws) (hS : va_S A H0 H locs) (q0 : Nat) (ha : ws[q0]? = some (a, .inl (E.2.1, n, .inl f))) (hin : vp_in i n) (hk : i.toNatClampNeg = k) (hw : ws.set q0 (a, .inl (E.2.1, n, .inl (upd f k x))) = ws') (hdg : decode cc pc = .ok (.iastore, 1))
    (kk : ∀ (H1 : Heap) (locs1 : List Loc), va_P E.1 vwCl ws' H1 → va_D A ws' → va_S A H0 H1 locs1 → W p l e R s m args below meth c H1 locs1 cells slots Q (F0 m (pc + 1) ls rest)) : W p l e R s m args below meth c H locs cells slots Q (F0 m pc ls (.int x :: .int i :: .ref a :: rest)) := by
  subst hk; subst hw
  exact va_iast hx hb hE.1 hP hD hS q0 0 ha rfl hin hdg kk
theorem ar_bst (hx : p.tables.exec = Jvm.exec) (hb : c.code = cc) (hE : wE E s) (hP : va_P E.1 vwCl ws H) (hD : va_D A ws) (hS : va_S A H0 H locs) (q0 : Nat) (ha : ws[q0]? = some (a, .inl (E.2.2.1, n, .inl f))) (hin : vp_in i n) (hk : i.toNatClampNeg = k) (hw : ws.set q0 (a, .inl (E.2.2.1, n, .inl (upd f k (vp_nar .byte x)))) = ws') (hdg : decode cc pc = .ok (.bastore, 1))
    (kk : ∀ (H1 : Heap) (locs1 : List Loc), va_P E.1 vwCl ws' H1 → va_D A ws' → va_S A H0 H1 locs1 → W p l e R s m args below meth c H1 locs1 cells slots Q (F0 m (pc + 1) ls rest)) : W p l e R s m args below meth c H locs cells slots Q (F0 m pc ls (.int x :: .int i :: .ref a :: rest)) := by
  subst hk; subst hw
  exact va_bast hx hb hE.1 hP hD hS q0 1 ha rfl hin hdg kk
theorem ar_len (hx : p.tables.exec = Jvm.exec) (hb : c.code = cc) (hE : wE E s) (hP : va_P E.1 vwCl ws H) (q0 : Nat) (ha : ws[q0]? = some (a, .inl (E.2.1, n, .inl f))) (hv : Int32.ofNat n = v) (hdg : decode cc pc = .ok (.arraylength, 1))
    (kk : W p l e R s m args below meth c H locs cells slots Q (F0 m (pc + 1) ls (.int v :: rest))) : W p l e R s m args below meth c H locs cells slots Q (F0 m pc ls (.ref a :: rest)) :=
  va_alen (x := (n, .inl f)) (ty := .int) hx hb hE.1 hP q0 0 ha rfl hv hdg kk
theorem ar_blen (hx : p.tables.exec = Jvm.exec) (hb : c.code = cc) (hE : wE E s) (hP : va_P E.1 vwCl ws H) (q0 : Nat) (ha : ws[q0]? = some (a, .inl (E.2.2.1, n, .inl f))) (hv : Int32.ofNat n = v) (hdg : decode cc pc = .ok (.arraylength, 1))
    (kk : W p l e R s m args below meth c H locs cells slots Q (F0 m (pc + 1) ls (.int v :: rest))) : W p l e R s m args below meth c H locs cells slots Q (F0 m pc ls (.ref a :: rest)) :=
  va_alen (x := (n, .inl f)) (ty := .byte) hx hb hE.1 hP q0 1 ha rfl hv hdg kk
end ARR
