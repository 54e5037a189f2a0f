/-! constructors: cells are made -/
abbrev zf : Nat → Int32 := fun _ => 0
def adl (l : List Nat) : Nat → Nat := fun k => l.getD k 0
def MetC (l : Launch) (y : MethodName) (cs : List Cond) (rm : Room) (E : wV) (av : List Value) (ws : va_W) {S : Type} (post : S → Prop) (ws' : S → va_W) (mc ms : Nat) : Prop :=
  ∀ sz : Nat, Met l y cs rm (Cp E av ws sz) (va_Qv post (Bw E (va_A ws sz) ws') (va_A ws sz)) mc ms (va_A ws sz)
theorem MetC.of {l : Launch} {y : MethodName} {cs cs' : List Cond} {rm : Room} {E : wV} {av : List Value} {ws : va_W} {S : Type} {ws' : S → va_W} {cc : ByteArray} {maxL : Nat} {own : String} {mc ms : Nat} {post : S → Prop} (hy : plainName y.cls = true) (ho : y.cls = own) (hw : cs = Cond.code y cc maxL none :: cs') (hav : (lg_sl av).length ≤ maxL) (hyn : y.name = "<init>")
    (body : ∀ (p : Program) (e : Env) (s : State) (m : MethodId) (below : List Frame) (meth : Method) (c : Code) (A : Nat → Prop) (Q : State → Prop) (ls : Array Slot), meth.name = "<init>" →
      Cx p s m c cc maxL av.toArray cs own E A s.heap → va_P E.1 vwCl ws s.heap → va_D A ws → va_S A s.heap s.heap [] → lv_has ls maxL (lv_args 0 av) →
      (∀ (u : S) (H : Heap) (locs : List Loc) (pc : Nat) (ls : Array Slot), decode cc pc = .ok (.return_, 1) → post u → va_P E.1 vwCl (ws' u) H → va_D A (ws' u) → va_S A s.heap H locs → W p l e rm s m av.toArray below meth c H locs mc ms Q (F0 m pc ls [])) →
      W p l e rm s m av.toArray below meth c s.heap [] 0 0 Q (F0 m 0 ls [])) : MetC l y cs rm E av ws post ws' mc ms := by
  intro sz
  refine Met.ofW (cc := cc) (maxL := maxL) (ret := none) hy hw ?_
  intro p e s m args below meth c s₁ B hml hv
  obtain ⟨rfl, hsz, hP, hE, hD0⟩ := hv
  have hr := B.returns
  have hts := atoms_spec (ws := cs) B.pre
  have hown : s.vm.findClass own = some m.cls := by rw [← ho]; exact findClass_of_methodNamed B.named
  have hlocks := B.notSynchronized
  have hin : meth.name = "<init>" := by rw [← hyn]; exact (name_of_methodNamed B.named B.method).1
  subst hsz
  have hD := hD0.self (sz := s.heap.size)
  rw [lg_entry_eq]
  refine body p e s m below meth c _ _ _ hin ⟨B.exec, B.bytes, hml, hown, hts, hE, fun q h => Or.inr h⟩ hP hD va_S.rf (lv_entry av hav) ?_
  intro u H locs pc ls hdg hp hP9 hD9 hS
  exact W.vret B.exec B.bytes hr (fun t ht _ => ⟨⟨u, rfl, hp, by show va_P _ _ _ t.heap ∧ _; rw [ht]; exact ⟨hP9, hD9⟩⟩, hS.F ht⟩) hS.2.2 hdg
section CTOR
variable {p : Program} {l : Launch} {e : Env} {R : Room} {s : State} {m : MethodId} {args : Array Value} {below : List Frame} {meth : Method} {c : Code} {H : Heap} {locs : List Loc} {cells slots : Nat} {Q : State → Prop}
variable {cc : ByteArray} {pc : Nat} {ls : Array Slot} {rest st0 : List Value} {A : Nat → Prop} {H0 : Heap} {nL : Nat} {Ts : List Cond} {own : String} {E : wV}
variable {y : MethodName} {cs : List Cond} {rm : Room} {av : List Value} {S : Type} {wc wr ws : va_W} {wc' wn : S → va_W} {mc ms : Nat}
theorem kC {post : S → Prop} {isC isR is2 : List Nat} (cx : Cx p s m c cc nL args Ts own E A H0) (hP : va_P E.1 vwCl ws H) (hD : va_D A ws) (hS : va_S A H0 H locs) (ct : Cut ws wc wr wc' wn isC isR is2)
    (run : (va_P E.1 vwCl wc H → va_D (fun _ => True) wc → va_Run p l e R s m args below meth c H locs cells slots mc ms (F0 m pc ls st0) rest (va_Qv post (Bw E (va_A wc H.size) wc') (va_A wc H.size) av.toArray) (va_A wc H.size)))
    (kk : ∀ (u : S) (H1 : Heap) (locs1 : List Loc), post u → va_P E.1 vwCl (wn u) H1 → va_D A (wn u) → va_S A H0 H1 locs1 → W p l e R s m args below meth c H1 locs1 (cells + mc) (slots + ms) Q (F0 m (pc + 3) ls rest)) :
    W p l e R s m args below meth c H locs cells slots Q (F0 m pc ls st0) := by
  obtain ⟨hC, hR, hnC, hnR, hdis, hn2, h2⟩ := ct
  have hFc := va_free (wc := wc) hD hS cx.2.2.2.2.2.2 isC hC
  have hPc := hP.sub isC (cut_sub hC)
  have hDc := hD.sub isC hnC hC
  refine va_callv (run hPc (hDc.weaken (fun _ _ _ _ => trivial))) hS (fun q _ h => hFc q h) hFc (fun u t H1 locs1 ht _ hw hB _ hk1 hS1 => ?_)
  obtain ⟨hP1, hD1⟩ := hB
  rw [ht] at hP1
  obtain ⟨hP2, hD2⟩ := va_join (wr := wr) (w1 := wc' u) hP hD isC isR hC hR hnR hdis hk1 hFc hP1 hD1
  exact kk u H1 locs1 hw (hP2.sub is2 (cut_sub (h2 u))) (hD2.sub is2 hn2 (h2 u)) hS1
theorem rIN {Qc : Array Value → State → Outcome → State → Prop} {free : Addr → Prop} {As : List Value} {b : Addr} {host : String} {index n maxL : Nat} {bytes : ByteArray} (cx : Cx p s m c cc nL args Ts own E A H0)
    (hM : Met l y cs rm (Cp E (.ref b :: As) wc H.size) Qc mc ms free) (cw : va_CN R s args own index y host bytes maxL none cs rm mc ms n) (hy1 : y.name = "<init>") (hi : (Cond.instanceMethod y).before args s = true)
    (hn : As.length = n) (hsize : ls.size = nL) (hst : st0 = As.reverse ++ .ref b :: rest) (hW : (rest.map fun v => v.category).sum ≤ 8) (hdg : decode cc pc = .ok (.invokespecial index, 3)) (hf : cells + mc ≤ R.cells ∧ slots + ms ≤ R.slots) :
    va_P E.1 vwCl wc H → va_D (fun _ => True) wc → va_Run p l e R s m args below meth c H locs cells slots mc ms (F0 m pc ls st0) rest (Qc (.ref b :: As : List Value).toArray) free := by
  intro hPc hDc
  obtain ⟨hx, hb, hml, hown, hts, hE, -⟩ := cx
  exact va_runIN ⟨hx, hb, hml, hown, hts⟩ hM ⟨cw, hy1, hi⟩ ⟨Cp.blind, fun U hU hW => ⟨rfl, by rw [hU], by rw [hU]; exact hPc, hE.moved hW, hDc⟩⟩ rfl hn hsize hst (lv_room hW) hdg hf
theorem rI {Qc : Array Value → State → Outcome → State → Prop} {free : Addr → Prop} {As : List Value} {b : Addr} {index n maxL : Nat} {bytes : ByteArray} (cx : Cx p s m c cc nL args Ts own E A H0)
    (hM : Met l y cs rm (Cp E (.ref b :: As) wc H.size) Qc mc ms free) (cw : CallB R s args own index y bytes maxL none cs rm mc ms n ∧ y.name = "<init>" ∧ (Cond.instanceMethod y).before args s = true)
    (hn : As.length = n) (hsize : ls.size = nL) (hst : st0 = As.reverse ++ .ref b :: rest) (hW : (rest.map fun v => v.category).sum ≤ 8) (hdg : decode cc pc = .ok (.invokespecial index, 3)) (hf : cells + mc ≤ R.cells ∧ slots + ms ≤ R.slots) :
    va_P E.1 vwCl wc H → va_D (fun _ => True) wc → va_Run p l e R s m args below meth c H locs cells slots mc ms (F0 m pc ls st0) rest (Qc (.ref b :: As : List Value).toArray) free := by
  intro hPc hDc
  obtain ⟨hx, hb, hml, hown, hts, hE, -⟩ := cx
  exact va_runI ⟨hx, hb, hml, hown, hts⟩ hM cw ⟨Cp.blind, fun U hU hW => ⟨rfl, by rw [hU], by rw [hU]; exact hPc, hE.moved hW, hDc⟩⟩ rfl hn hsize hst (lv_room hW) hdg hf
/-- a new row of ints, of bytes, of references -/
theorem ar_newi (hx : p.tables.exec = Jvm.exec) (hb : c.code = cc) (harr : (Cond.arrayClass .int).before args s = true) (hE : wE E s) (hP : va_P E.1 vwCl ws H) (hD : va_D A ws) (hS : va_S A H0 H locs) (hA : ∀ q, H0.size ≤ q → A q)
    {n : Int32} {N : Nat} (hn : ¬ n < 0) (hN : n.toNatClampNeg = N) (hbytes : N ≤ 100000) (hcells : cells + 1 ≤ R.cells) (hslots : slots + N ≤ R.slots) (hdg : decode cc pc = .ok (.newarray .int, 2))
    (kk : ∀ (q : Nat) (H1 : Heap), va_P E.1 vwCl (ws ++ [xI E q N zf]) H1 → va_D A (ws ++ [xI E q N zf]) → va_S A H0 H1 locs → W p l e R s m args below meth c H1 locs (cells + 1) (slots + N) Q (F0 m (pc + 2) ls (.ref q :: rest))) : W p l e R s m args below meth c H locs cells slots Q (F0 m pc ls (.int n :: rest)) := by
  refine va_newa (atype := .int) (ty := .int) (a0 := (N, .inl zf)) hx hb harr rfl hE.1 hP hD hS hA (fun _ => rfl) hn hN (by show N * 4 ≤ _; omega) hcells hslots hdg (fun q cA H1 hK1 hP1 hD1 hS1 => ?_)
  have h1 : s.vm.findClass ("[" ++ FieldType.int.toString) = some cA := (hK1.2 3 (cA, .int) rfl).2
  have h2 : s.vm.findClass ("[" ++ FieldType.int.toString) = some E.2.1 := (hE.1.2 0 (E.2.1, .int) rfl).2
  have e : cA = E.2.1 := Option.some.inj (h1.symm.trans h2)
  subst e
  exact kk q H1 hP1 hD1 hS1
theorem ar_newb (hx : p.tables.exec = Jvm.exec) (hb : c.code = cc) (harr : (Cond.arrayClass .byte).before args s = true) (hE : wE E s) (hP : va_P E.1 vwCl ws H) (hD : va_D A ws) (hS : va_S A H0 H locs) (hA : ∀ q, H0.size ≤ q → A q)
    {n : Int32} {N : Nat} (hn : ¬ n < 0) (hN : n.toNatClampNeg = N) (hbytes : N ≤ 100000) (hcells : cells + 1 ≤ R.cells) (hslots : slots + N ≤ R.slots) (hdg : decode cc pc = .ok (.newarray .byte, 2))
    (kk : ∀ (q : Nat) (H1 : Heap), va_P E.1 vwCl (ws ++ [xB E q N zf]) H1 → va_D A (ws ++ [xB E q N zf]) → va_S A H0 H1 locs → W p l e R s m args below meth c H1 locs (cells + 1) (slots + N) Q (F0 m (pc + 2) ls (.ref q :: rest))) : W p l e R s m args below meth c H locs cells slots Q (F0 m pc ls (.int n :: rest)) := by
  refine va_newa (atype := .byte) (ty := .byte) (a0 := (N, .inl zf)) hx hb harr rfl hE.1 hP hD hS hA (fun _ => rfl) hn hN (by show N * 1 ≤ _; omega) hcells hslots hdg (fun q cA H1 hK1 hP1 hD1 hS1 => ?_)
  have h1 : s.vm.findClass ("[" ++ FieldType.byte.toString) = some cA := (hK1.2 3 (cA, .byte) rfl).2
  have h2 : s.vm.findClass ("[" ++ FieldType.byte.toString) = some E.2.2.1 := (hE.1.2 1 (E.2.2.1, .byte) rfl).2
  have e : cA = E.2.2.1 := Option.some.inj (h1.symm.trans h2)
  subst e
  exact kk q H1 hP1 hD1 hS1
theorem ar_newm (hx : p.tables.exec = Jvm.exec) (hb : c.code = cc) {index : Nat} (hown : s.vm.findClass own = some m.cls) (hcl : (Cond.classLink own index "BandBoat$Motion").before args s = true) (hE : wE E s) (hP : va_P E.1 vwCl ws H) (hD : va_D A ws) (hS : va_S A H0 H locs) (hA : ∀ q, H0.size ≤ q → A q)
    {n : Int32} {N : Nat} (hn : ¬ n < 0) (hN : n.toNatClampNeg = N) (hbytes : N ≤ 100000) (hcells : cells + 1 ≤ R.cells) (hslots : slots + N ≤ R.slots) (hdg : decode cc pc = .ok (.anewarray index, 3))
    (kk : ∀ (q : Nat) (H1 : Heap), va_P E.1 vwCl (ws ++ [xM E q N (fun _ => none)]) H1 → va_D A (ws ++ [xM E q N (fun _ => none)]) → va_S A H0 H1 locs → W p l e R s m args below meth c H1 locs (cells + 1) (slots + N) Q (F0 m (pc + 3) ls (.ref q :: rest))) : W p l e R s m args below meth c H locs cells slots Q (F0 m pc ls (.int n :: rest)) := by
  refine va_newq hx hb hown hcl hE.2.2 hE.1 hP hD hS hA hn hN (by omega) hcells hslots hdg (fun q cA H1 hK1 hP1 hD1 hS1 => ?_)
  obtain ⟨k1, comp1, a1, a2, a3, a4⟩ := (hK1.2 3 (cA, .object "BandBoat$Motion") rfl).2
  obtain ⟨k2, comp2, b1, b2, b3, b4⟩ := (hE.1.2 2 (E.2.2.2, .object "BandBoat$Motion") rfl).2
  have e : cA = E.2.2.2 := Option.some.inj (a4.symm.trans b4)
  subst e
  exact kk q H1 hP1 hD1 hS1
theorem ar_mst (hx : p.tables.exec = Jvm.exec) (hb : c.code = cc) (hE : wE E s) (hP : va_P E.1 vwCl ws H) (hD : va_D A ws) (hS : va_S A H0 H locs) (q0 qk : Nat) {a n v k : Nat} {vs : List Value} {f : Nat → Option Nat} {i : Int32} {ws' : va_W} (ha : ws[q0]? = some (xM E a n f)) (hv : ws[qk]? = some (v, .inr (4, vs))) (hin : vp_in i n) (hk : i.toNatClampNeg = k) (hw : ws.set q0 (xM E a n (va_up f k (some v))) = ws') (hdg : decode cc pc = .ok (.aastore, 1))
    (kk : ∀ (H1 : Heap) (locs1 : List Loc), va_P E.1 vwCl ws' H1 → va_D A ws' → va_S A H0 H1 locs1 → W p l e R s m args below meth c H1 locs1 cells slots Q (F0 m (pc + 1) ls rest)) : W p l e R s m args below meth c H locs cells slots Q (F0 m pc ls (.ref v :: .int i :: .ref a :: rest)) := by
  subst hk; subst hw
  exact va_astq (r := (RX4, TX4, 7)) hx hb hE.1 hP hD hS q0 2 qk 4 ha rfl hv rfl hin hdg kk
end CTOR

