/-! ===== exceptions: what the tables say that no 'good word' is; the start of a method that throws; its one end ===== -/
abbrev xIob : String := "java/lang/IndexOutOfBoundsException"
abbrev xIae : String := "java/lang/IllegalArgumentException"
abbrev xIse : String := "java/lang/IllegalStateException"
abbrev xNms : List String := ["java/lang/RuntimeException", "java/lang/Exception"]
abbrev xStr : List (Nat × String) := [(44, "stuck beads would change"), (217, "it cannot be done"), (76, "the loan cannot be paid back"), (88, "the buffer is full"), (103, "the buffer is not a complete sum"), (119, "no state is saved"), (212, "there is no such rod"), (215, "out of range")]
abbrev xDec : List MethodName := [Bundle.initS "java/lang/RuntimeException", Bundle.initS "java/lang/Exception", Bundle.initS Bundle.tN]
abbrev xExc : List String := [xIob, xIae, xIse]
def sF : Vm → Prop := fun vm => nF vm ∧ ∃ U : State, U.vm = vm ∧ (∀ q ∈ xStr, ∃ a, vk_R RX3 q.1 q.2 a U) ∧ (∀ y ∈ xDec, va_Nw (.declares y) U) ∧ (∀ E ∈ xExc, va_Nw (.castable E E) U) ∧ ∀ E ∈ xExc, ∀ T ∈ xExc, E ≠ T → va_Nc E T U
theorem sF_str {s : State} (h : sF s.vm) {is : Nat} {tx : String} (hq : (is, tx) ∈ xStr) : ∃ a, vk_R RX3 is tx a s := by
  obtain ⟨-, U, hU, h1, -⟩ := h
  obtain ⟨a, ha⟩ := h1 _ hq
  exact ⟨a, vk_R.same hU.symm ha⟩
theorem sF_dec {s : State} (h : sF s.vm) {y : MethodName} (hq : y ∈ xDec) : va_Nw (.declares y) s := by
  obtain ⟨-, U, hU, -, h1, -⟩ := h
  exact va_Nw.same rfl hU (h1 _ hq)
theorem sF_cast {s : State} (h : sF s.vm) {E : String} (hq : E ∈ xExc) : va_Nw (.castable E E) s := by
  obtain ⟨-, U, hU, -, -, h1, -⟩ := h
  exact va_Nw.same rfl hU (h1 _ hq)
theorem sF_no {s : State} (h : sF s.vm) {E T : String} (hE : E ∈ xExc) (hT : T ∈ xExc) (hn : E ≠ T) : va_Nc E T s := by
  obtain ⟨-, U, hU, -, -, -, h1⟩ := h
  exact va_Nc.moved (by rw [hU]; exact Vm.Alike.refl s.vm) (h1 _ hE _ hT hn)
theorem sF_w {s : State} (h : sF s.vm) : ∀ vm' : Vm, s.WarmedH vm' → sF vm' := fun vm' hW =>
  ⟨nF_w h.1 vm' hW, s.setVm vm', rfl, fun q hq => by
    obtain ⟨a, ha⟩ := sF_str h (is := q.1) (tx := q.2) hq
    exact ⟨a, vk_R.warm (s := s) (U := s.setVm vm') hW ha⟩, fun y hy => va_Nw.warmD (s := s) (U := s.setVm vm') hW (sF_dec h hy), fun E hE => va_Nw.warmC (s := s) (U := s.setVm vm') hW (sF_cast h hE),
   fun E hE T hT hn => va_Nc.moved (u := s) (U := s.setVm vm') hW.alike (sF_no h hE hT hn)⟩
def zF (A : Nat → Prop) (U : State) (H : Heap) : Prop := vx_Zq Bundle.tN "UNASSIGNED_STACK" Bundle.steD A U H ∧ vx_Zq Bundle.tN "SUPPRESSED_SENTINEL" Bundle.listD A U H
def cPreX (F : Vm → Prop) (D : va_G) (cl : List vw_C) (tys : List (ClassId × FieldType)) (av : List Value) (wc : va_W) (sz : Nat) : Array Value → State → Prop :=
  va_Pc av (fun U => F U.vm ∧ zF (va_A wc sz) U U.heap ∧ U.heap.size = sz ∧ va_P D cl wc U.heap ∧ va_K D cl tys U ∧ va_D (fun _ => True) wc)
def cE (E0 : String) (B : State → Prop) (A : Nat → Prop) : String → State → State → Prop := fun E st t => E = E0 ∧ B t ∧ va_F A st t
/-- a method that throws E, and leaves the world as it is -/
def cT (F : Vm → Prop) (l : Launch) (y : MethodName) (wsY : List Cond) (rm : Room) (D : va_G) (cl : List vw_C) (tys : List (ClassId × FieldType)) (av : List Value) (wc : va_W) (E : String) : Prop :=
  ∀ sz : Nat, vx_Met l y wsY rm (cPreX F D cl tys av wc sz) (fun _ _ _ _ => False) (cE E (cB D cl tys (va_A wc sz) wc) (va_A wc sz)) 1 6 (va_A wc sz)
theorem zF_calling {A : Nat → Prop} {U : State} {g : JFrame} {mk : MethodId} {a : Array Value} {H : Heap} (h : zF A U H) : zF A (U.calling g mk a) H := ⟨vx_Zq.moved (Vm.Alike.refl U.vm) h.1, vx_Zq.moved (Vm.Alike.refl U.vm) h.2⟩
theorem cPreX_blind (F : Vm → Prop) (D : va_G) (cl : List vw_C) (tys : List (ClassId × FieldType)) (av : List Value) (wc : va_W) (sz : Nat) : FrameBlind (cPreX F D cl tys av wc sz) := fun a U g mk q => by
  obtain ⟨q0, qF, qZ, q1, qP, qK, qD⟩ := q
  exact ⟨q0, qF, zF_calling qZ, q1, qP, va_K.moved (u := U) (U := U.calling g mk a) (Vm.Alike.refl U.vm) qK, qD⟩
section CT
variable {F : Vm → Prop} {l : Launch} {y : MethodName} {wsY ws' : List Cond} {rm : Room} {D : va_G} {cl : List vw_C} {tys : List (ClassId × FieldType)} {av : List Value} {wc : va_W} {E : String} {cc : ByteArray} {maxL : Nat} {ret : Option FieldType}
theorem cT_of (hy : plainName y.cls = true) (hw : wsY = Cond.code y cc maxL ret :: ws') (hlen : (lg_sl av).length ≤ maxL)
    (body : ∀ (p : Program) (e : Env) (s : State) (m : MethodId) (below : List Frame) (meth : Method) (c : Code) (A : Nat → Prop), gC p s m av.toArray c cc y.cls wsY D cl tys A s.heap maxL → meth.locks = false → F s.vm → (∀ x ∈ c.exceptionTable.toList, False) → zF A s s.heap →
      gG p l e rm s m av.toArray below meth c D cl A s.heap maxL (vx_MQ below (fun _ _ _ _ => False) (cE E (cB D cl tys A wc) A) av.toArray s 1 6 A) 0 0 wc 0 (lv_args 0 av) []) : cT F l y wsY rm D cl tys av wc E := by
  intro sz
  refine vx_ofW (cc := cc) (maxL := maxL) (ret := ret) hy hw ?_
  intro p e s m args below meth c s₁ B hml hne hv
  obtain ⟨rfl, hF, hZ, hsz, hP, hK, hD0⟩ := hv
  subst hsz
  have hD := hD0.self (sz := s.heap.size)
  generalize hAe : va_A wc s.heap.size = A at hD hZ ⊢
  have hA : ∀ q : Nat, s.heap.size ≤ q → A q := fun q h => by rw [← hAe]; exact Or.inr h
  have hl := lv_entry av (n := maxL) hlen
  rw [lg_entry_eq]
  exact body p e s m below meth c A ⟨B.exec, B.bytes, hml, findClass_of_methodNamed B.named, atoms_spec (ws := wsY) B.pre, hK, hA⟩ B.notSynchronized hF hne hZ s.heap [] _ hP hD va_S.rf hl
end CT
section GT
variable {p : Program} {l : Launch} {e : Env} {R : Room} {s : State} {m : MethodId} {args : Array Value} {below : List Frame} {meth : Method} {c : Code} {cc : ByteArray} {own : String} {Ts : List Cond} {D : va_G} {cl : List vw_C} {tys : List (ClassId × FieldType)} {A : Nat → Prop} {H0 : Heap} {nL : Nat} {Q : State → Prop} {k n : Nat} {ws : va_W} {pc : Nat} {lv : List (Nat × Value)} {st : List Value}
theorem wP_new {H H1 : Heap} (hP : va_P D cl ws H) (h : ∀ q : Nat, q < H.size → H1[q]? = H[q]?) : va_P D cl ws H1 := hP.kept (fun k q hk => h q.1 (hP k q hk).lt)
/-- throw new E("text") -/
theorem g_throw {XN tx : String} {ik is ic : Nat} (C : gC p s m args c cc RX3 Ts D cl tys A s.heap nL) (hl : l.stackTraces = false) (hF : sF s.vm) (hZ : zF A s s.heap) (hne : ∀ x ∈ c.exceptionTable.toList, False) (hlk : meth.locks = false)
    (hX : XN ∈ xExc) (hs : (is, tx) ∈ xStr) (hk : Cond.classLink RX3 ik XN ∈ Ts) (hini : Cond.initialized XN ∈ Ts) (hgw : ∀ w ∈ (vx_atS RX3 ic XN xNms).filter goodWord, w ∈ Ts) (hg2 : ∀ w ∈ Cond.classLink RX3 ik XN :: Cond.initialized XN :: vx_atS RX3 ic XN xNms, vx_ot w = true)
    (hbad : ∀ w ∈ (vx_atS RX3 ic XN xNms).filter (fun w => !goodWord w), w ∈ [Cond.declares (Bundle.initS "java/lang/RuntimeException"), Cond.declares (Bundle.initS "java/lang/Exception"), Cond.declares (Bundle.initS Bundle.tN), Cond.castable XN XN]) (hfit : Bundle.fit XN = true)
    (d0 : decode cc pc = .ok (.new ik, 3)) (d3 : decode cc (pc + 3) = .ok (.dup, 1)) (d4 : decode cc (pc + 4) = .ok (.ldc is, 2)) (d6 : decode cc (pc + 6) = .ok (.invokespecial ic, 3)) (d9 : decode cc (pc + 9) = .ok (.athrow, 1))
    (hRf : 5 < R.frames) (hRl : (st.map fun v => v.category).sum + 82 ≤ R.locals) (hRc : k + 1 ≤ R.cells) (hRs : n + 6 ≤ R.slots) (hc : k + 1 ≤ 1) (hsl : n + 6 ≤ 6) :
    gG p l e R s m args below meth c D cl A s.heap nL (vx_MQ below (fun _ _ _ _ => False) (cE XN (cB D cl tys A ws) A) args s 1 6 A) k n ws pc lv st := by
  intro H locs ls hP hD hS hlv
  obtain ⟨sa, hsa⟩ := sF_str hF hs
  refine vx_throwS (names := xNms) C.1 C.2.1 hl C.2.2.2.1 hfit (by decide +kernel) (C.2.2.2.2.1 _ hk) (C.2.2.2.2.1 _ hini) hsa (vx_hat (fun w hw => C.2.2.2.2.1 _ (hgw w hw)) hbad (vx_c (va_Nw.use rfl (sF_dec hF (by simp))) (vx_c (va_Nw.use rfl (sF_dec hF (by simp))) (vx_c (va_Nw.use rfl (sF_dec hF (by simp))) (vx_c (va_Nw.use rfl (sF_cast hF hX)) vx_n))))) hg2 hZ.1 hZ.2 hS (hlv.1.trans C.2.2.1.symm) d0 d3 d4 d6 d9 (fun x hx => (hne x hx).elim) hRf (by show _ + (13 * (2 + 1) + 43) ≤ _; omega) hRc hRs hlk ?_ hS.2.2 hc hsl
  intro t hvm hz hq
  exact ⟨rfl, ⟨wP_new hP hq, va_K.moved hvm C.2.2.2.2.2.1, hD⟩, Nat.le_trans hS.1 hz, fun q h1 h2 => by rw [hq q (Nat.lt_of_lt_of_le h1 hS.1)]; exact hS.2.1 q h1 h2⟩
/-- where a callee has thrown E: the machine with the exception at hand, no value of the stack lost -/
def gX (p : Program) (l : Launch) (e : Env) (R : Room) (s : State) (m : MethodId) (args : Array Value) (below : List Frame) (meth : Method) (c : Code) (D : va_G) (cl : List vw_C) (A : Nat → Prop) (H0 : Heap) (nL : Nat) (Q : State → Prop) (k n : Nat) (ws : va_W) (pc : Nat) (lv : List (Nat × Value)) (st : List Value) (E : String) : Prop :=
  ∀ (H : Heap) (locs : List Loc) (ls : Array Slot) (q : Addr) (ce : Cell), va_P D cl ws H → va_D A ws → va_S A H0 H locs → lv_has ls nL lv → H[q]? = some ce → ce.vm = .none → s.vm.findClass E = some ce.cls → vx_W p l e R s m args below meth c H locs k n Q (F0 m pc ls st) q
theorem g_runX {E : String} {pre wc post : va_W} {rest : List Value} (C : gC p s m args c cc own Ts D cl tys A H0 nL) (hZ : zF A s H0) (hsp : ws = pre ++ (wc ++ post)) {tysY : List (ClassId × FieldType)}
    (run : ∀ (H : Heap) (locs : List Loc) (ls : Array Slot), va_P D cl wc H → va_D (fun _ => True) wc → lv_has ls nL lv → zF (va_A wc H.size) s H → vx_Run p l e R s m args below meth c H locs k n 1 6 (F0 m pc ls st) rest (fun _ _ _ => False) (cE E (cB D cl tysY (va_A wc H.size) wc) (va_A wc H.size)) (va_A wc H.size))
    (kx : gX p l e R s m args below meth c D cl A H0 nL Q (k + 1) (n + 6) ws pc lv rest E) : gG p l e R s m args below meth c D cl A H0 nL Q k n ws pc lv st := by
  subst hsp
  intro H locs ls hP hD hS hl T hT X
  have hF := w_free hD hS C.2.2.2.2.2.2
  have hZ2 : zF (va_A wc H.size) s H := ⟨(hZ.1.kept hS.2.1).narrow hF, (hZ.2.kept hS.2.1).narrow hF⟩
  rcases run H locs ls (wP_l (wP_r hP)) ((wD_l (wD_r hD)).weaken (fun _ _ _ _ => trivial)) hl hZ2 T hT X with ⟨v, st₀, t, T', L, h0, X', hL, e1, e2, hq, go⟩ | ⟨q9, st₀, t, T', L, E', ce, h0, X', hL, e1, e2, ⟨hE, ⟨hP1, hK1, hD1⟩, hz, hk⟩, hce, hcv, hcl, go⟩
  · exact hq.elim
  · subst hE
    rw [h0] at hz hk
    have hk' : ∀ q : Nat, q < H.size → ¬ va_A wc H.size q → T'.heap[q]? = H[q]? := fun q h1 h2 => by rw [e1]; exact hk q h1 h2
    obtain ⟨jP, jD⟩ := w_join hP hD hk' hF (by rw [e1]; exact hP1) hD1
    have hS' : va_S A H0 T'.heap (locs ++ L) := ⟨Nat.le_trans hS.1 (by rw [e1]; exact hz), fun q h1 h2 => by rw [hk' q (Nat.lt_of_lt_of_le h1 hS.1) (fun z => h2 (hF q z))]; exact hS.2.1 q h1 h2, fun q hq => by
      rcases List.mem_append.mp hq with h | h
      · exact hS.2.2 q h
      · exact hF _ (hL q h)⟩
    obtain ⟨t2, a1, b1⟩ := kx T'.heap (locs ++ L) ls q9 ce jP jD hS' hl (by rw [e1]; exact hce) hcv hcl T' rfl X'
    exact ⟨t2, go.trans a1, b1⟩
theorem g_out {E : String} (C : gC p s m args c cc own Ts D cl tys A s.heap nL) (hne : ∀ x ∈ c.exceptionTable.toList, False) (hlk : meth.locks = false) (hc : k ≤ 1) (hs : n ≤ 6) :
    gX p l e R s m args below meth c D cl A s.heap nL (vx_MQ below (fun _ _ _ _ => False) (cE E (cB D cl tys A ws) A) args s 1 6 A) k n ws pc lv st E := by
  intro H locs ls q ce hP hD hS hl hce hcv hcl
  exact vx_out (fun x hx => (hne x hx).elim) hlk hce hcv hcl (fun t ht hvm => ⟨rfl, ⟨by rw [ht]; exact hP, va_K.moved hvm C.2.2.2.2.2.1, hD⟩, hS.F ht⟩) hS.2.2 hc hs
theorem g_callVT {F : Vm → Prop} {y : MethodName} {wsY ws9 : List Cond} {rm : Room} {tysY : List (ClassId × FieldType)} {C0 : String} {index maxL nA : Nat} {bytes : ByteArray} {ret : Option FieldType} {b ci : Nat} {fs : List Value} {q9 : vw_C} {As rest : List Value} {E : String} {pre wc post : va_W}
    (C : gC p s m args c cc own Ts D cl tys A H0 nL) (hZ : zF A s H0) (hM : cT F l y wsY rm D cl tysY (.ref b :: As) wc E) (hG : GoodIn Ts (wsV own index C0 y wsY)) (hw : wsY = Cond.code y bytes maxL ret :: ws9)
    (hrm : rm.cells = 1 ∧ rm.slots = 6) (hd : y.cls = C0 ∧ y.cls ≠ "java/lang/invoke/MethodHandle" ∧ y.cls ≠ "java/lang/invoke/VarHandle" ∧ (parseMethodDescriptor y.desc).map (fun d => d.parameters.length) = some nA) (hR : rm.frames + 1 ≤ R.frames ∧ 8 + (maxL + 11) + rm.locals ≤ R.locals)
    (isT : List Nat) (hT : isT.filterMap (fun i => tys[i]?) = tysY) (hF : ∀ vm' : Vm, s.WarmedH vm' → F vm') (hn : As.length = nA) (hst : st = As.reverse ++ .ref b :: rest) (hrest : (rest.map fun v => v.category).sum ≤ 8) (d : decode cc pc = .ok (.invokevirtual index, 3)) (hc : k + 1 ≤ R.cells ∧ n + 6 ≤ R.slots)
    (q0 : Nat) (he : wc[q0]? = some (b, .inr (ci, fs))) (hcl : cl[ci]? = some q9) (hq9 : q9.1 = C0) (hsp : ws = pre ++ (wc ++ post))
    (kx : gX p l e R s m args below meth c D cl A H0 nL Q (k + 1) (n + 6) ws pc lv rest E) : gG p l e R s m args below meth c D cl A H0 nL Q k n ws pc lv st := by
  have hK := C.2.2.2.2.2.1.sub isT hT
  subst hq9
  exact g_runX C hZ hsp (fun H locs ls hP hD hl hZ2 => vx_runV (As := As) (rest := rest) ⟨C.1, C.2.1, C.2.2.1, C.2.2.2.1, C.2.2.2.2.1⟩ (hM H.size) (cwV nA C.2.2.2.2.1 hG hw hrm.1 hrm.2 hd hR) ⟨cPreX_blind _ _ _ _ _ _ _, va_recv hK hP hcl he, fun U hU hW => ⟨rfl, hF _ hW, by rw [hU]; exact ⟨vx_Zq.moved hW.alike hZ2.1, vx_Zq.moved hW.alike hZ2.2⟩, by rw [hU], by rw [hU]; exact hP, va_K.moved hW.alike hK, hD⟩⟩ rfl hn hl.1 hst (lv_room hrest) d ⟨hc.1, hc.2⟩) kx
theorem g_callST {F : Vm → Prop} {y : MethodName} {wsY ws9 : List Cond} {rm : Room} {tysY : List (ClassId × FieldType)} {index maxL nA : Nat} {bytes : ByteArray} {ret : Option FieldType} {As rest : List Value} {E : String} {pre wc post : va_W}
    (C : gC p s m args c cc own Ts D cl tys A H0 nL) (hZ : zF A s H0) (hM : cT F l y wsY rm D cl tysY As wc E) (hG : GoodIn Ts (va_wsS own index y wsY)) (hw : wsY = Cond.code y bytes maxL ret :: ws9)
    (hrm : rm.cells = 1 ∧ rm.slots = 6) (hd : y.cls ≠ "java/lang/invoke/MethodHandle" ∧ y.cls ≠ "java/lang/invoke/VarHandle" ∧ (parseMethodDescriptor y.desc).map (fun d => d.parameters.length) = some nA) (hR : rm.frames + 1 ≤ R.frames ∧ 8 + (maxL + 11) + rm.locals ≤ R.locals)
    (isT : List Nat) (hT : isT.filterMap (fun i => tys[i]?) = tysY) (hF : ∀ vm' : Vm, s.WarmedH vm' → F vm') (hn : As.length = nA) (hst : st = As.reverse ++ rest) (hrest : (rest.map fun v => v.category).sum ≤ 8) (d : decode cc pc = .ok (.invokestatic index, 3)) (hc : k + 1 ≤ R.cells ∧ n + 6 ≤ R.slots)
    (hsp : ws = pre ++ (wc ++ post))
    (kx : gX p l e R s m args below meth c D cl A H0 nL Q (k + 1) (n + 6) ws pc lv rest E) : gG p l e R s m args below meth c D cl A H0 nL Q k n ws pc lv st := by
  have hK := C.2.2.2.2.2.1.sub isT hT
  exact g_runX C hZ hsp (fun H locs ls hP hD hl hZ2 => vx_runS (As := As) (rest := rest) ⟨C.1, C.2.1, C.2.2.1, C.2.2.2.1, C.2.2.2.2.1⟩ (hM H.size) (va_cwS nA C.2.2.2.2.1 hG hw hrm.1 hrm.2 hd hR) ⟨cPreX_blind _ _ _ _ _ _ _, fun U hU hW => ⟨rfl, hF _ hW, by rw [hU]; exact ⟨vx_Zq.moved hW.alike hZ2.1, vx_Zq.moved hW.alike hZ2.2⟩, by rw [hU], by rw [hU]; exact hP, va_K.moved hW.alike hK, hD⟩⟩ rfl hn hl.1 hst (lv_room hrest) d ⟨hc.1, hc.2⟩) kx
end GT
