/-! ===== what is made: constructors ===== -/
def g00 : Nat → Int32 := upd (fun _ => 0) 0 3
def cQA (P : va_W → Prop) (D : va_G) (cl : List vw_C) (A : Nat → Prop) : Array Value → State → Outcome → State → Prop := fun _ st oc t => oc = .returned none ∧ (∃ w1 : va_W, P w1 ∧ va_P D cl w1 t.heap ∧ va_D A w1) ∧ va_F A st t
def cA (F : Vm → Prop) (l : Launch) (y : MethodName) (wsY : List Cond) (rm : Room) (D : va_G) (cl : List vw_C) (tys : List (ClassId × FieldType)) (av : List Value) (wc : va_W) (P : va_W → Prop) (mc ms : Nat) : Prop :=
  ∀ sz : Nat, Met l y wsY rm (cPre F D cl tys av wc sz) (cQA P D cl (va_A wc sz)) mc ms (va_A wc sz)
def aF : Vm → Prop := fun vm => ∃ U : State, U.vm = vm ∧ va_AO RX0 U
theorem aF_of {s : State} (h : aF s.vm) : va_AO RX0 s := by
  obtain ⟨U, hU, h1⟩ := h
  exact va_AO.moved (by rw [hU]; exact Vm.Alike.refl s.vm) h1
theorem aF_w {s : State} (h : aF s.vm) : ∀ vm' : Vm, s.WarmedH vm' → aF vm' := fun vm' hW => ⟨s.setVm vm', rfl, va_AO.moved (u := s) (U := s.setVm vm') hW.alike (aF_of h)⟩
theorem cA_of {F : Vm → Prop} {l : Launch} {y : MethodName} {wsY ws' : List Cond} {rm : Room} {D : va_G} {cl : List vw_C} {tys : List (ClassId × FieldType)} {av : List Value} {wc : va_W} {P : va_W → Prop} {mc ms : Nat} {cc : ByteArray} {maxL : Nat} {ret : Option FieldType} (hy : plainName y.cls = true) (hw : wsY = Cond.code y cc maxL ret :: ws') (hlen : (lg_sl av).length ≤ maxL)
    (body : ∀ (p : Program) (e : Env) (s : State) (m : MethodId) (below : List Frame) (meth : Method) (c : Code) (A : Nat → Prop), gC p s m av.toArray c cc y.cls wsY D cl tys A s.heap maxL → meth.sig.returnType = ret → meth.locks = false → meth.name = y.name → F s.vm →
      gG p l e rm s m av.toArray below meth c D cl A s.heap maxL (MQ below (cQA P D cl A) av.toArray s mc ms A) 0 0 wc 0 (lv_args 0 av) []) : cA F l y wsY rm D cl tys av wc P mc ms := by
  intro sz
  refine Met.ofW (cc := cc) (maxL := maxL) (ret := ret) hy hw ?_
  intro p e s m args below meth c s₁ B hml hv
  obtain ⟨rfl, hF, hsz, hP, hK, hD0⟩ := hv
  subst hsz
  have hD := hD0.self (sz := s.heap.size)
  generalize hAe : va_A wc s.heap.size = A at hD ⊢
  have hA : ∀ q : Nat, s.heap.size ≤ q → A q := fun q h => by rw [← hAe]; exact Or.inr h
  have hl := lv_entry av (n := maxL) hlen
  rw [lg_entry_eq]
  exact body p e s m below meth c A ⟨B.exec, B.bytes, hml, findClass_of_methodNamed B.named, atoms_spec (ws := wsY) B.pre, hK, hA⟩ B.returns B.notSynchronized (name_of_methodNamed B.named B.method).1 hF s.heap [] _ hP hD va_S.rf hl
section GAL
variable {p : Program} {l : Launch} {e : Env} {R : Room} {s : State} {m : MethodId} {args : Array Value} {below : List Frame} {meth : Method} {c : Code} {cc : ByteArray} {own : String} {Ts : List Cond} {D : va_G} {cl : List vw_C} {tys : List (ClassId × FieldType)} {A : Nat → Prop} {H0 : Heap} {nL : Nat} {Q : State → Prop} {k n : Nat} {ws : va_W} {pc : Nat} {lv : List (Nat × Value)} {st : List Value}
theorem g_vretA {P : va_W → Prop} (C : gC p s m args c cc own Ts D cl tys A s.heap nL) (hr : meth.sig.returnType = none) (hlk : meth.locks = false) (d : decode cc pc = .ok (.return_, 1)) (hw : P ws) :
    gG p l e R s m args below meth c D cl A s.heap nL (MQ below (cQA P D cl A) args s k n A) k n ws pc lv [] := by
  intro H locs ls hP hD hS hl
  exact W.vret C.1 C.2.1 hr (fun t ht hW => ⟨rfl, ⟨ws, hw, by rw [ht]; exact hP, hD⟩, hS.F ht⟩) hS.2.2 d hlk
theorem g_runA {P : va_W → Prop} {pre wc post : va_W} {rest : List Value} {a : Array Value} {mc ms : Nat} (C : gC p s m args c cc own Ts D cl tys A H0 nL) (hsp : ws = pre ++ (wc ++ post))
    (run : ∀ (H : Heap) (locs : List Loc) (ls : Array Slot), va_P D cl wc H → va_D (fun _ => True) wc → lv_has ls nL lv → va_Run p l e R s m args below meth c H locs k n mc ms (F0 m pc ls st) rest (cQA P D cl (va_A wc H.size) a) (va_A wc H.size))
    (kk : ∀ w1 : va_W, P w1 → gG p l e R s m args below meth c D cl A H0 nL Q (k + mc) (n + ms) (pre ++ (w1 ++ post)) (pc + 3) lv rest) : gG p l e R s m args below meth c D cl A H0 nL Q k n ws pc lv st := by
  subst hsp
  intro H locs ls hP hD hS hl T hT X
  obtain ⟨v', st₀, t, T', L, h0, X', hL, e1, e2, ⟨hv, ⟨w1, hp1, hP1, hD1⟩, hz, hk⟩, go⟩ := run H locs ls (wP_l (wP_r hP)) ((wD_l (wD_r hD)).weaken (fun _ _ _ _ => trivial)) hl T hT X
  cases hv
  rw [h0] at hz hk
  have hF := w_free hD hS C.2.2.2.2.2.2
  have hk' : ∀ q : Nat, q < H.size → ¬ va_A wc H.size q → T'.heap[q]? = H[q]? := fun q h1 h2 => by rw [e1]; exact hk q h1 h2
  obtain ⟨jP, jD⟩ := w_join hP hD hk' hF (by rw [e1]; exact hP1) hD1
  have hS' : va_S A H0 T'.heap (locs ++ L) := ⟨Nat.le_trans hS.1 (by rw [e1]; exact hz), fun q h1 h2 => by rw [hk' q (Nat.lt_of_lt_of_le h1 hS.1) (fun z => h2 (hF q z))]; exact hS.2.1 q h1 h2, fun q hq => by
    rcases List.mem_append.mp hq with h | h
    · exact hS.2.2 q h
    · exact hF _ (hL q h)⟩
  obtain ⟨t2, a1, b1⟩ := kk w1 hp1 T'.heap (locs ++ L) ls jP jD hS' hl T' rfl X'
  exact ⟨t2, go t2 a1, b1⟩
theorem g_callI {F : Vm → Prop} {y : MethodName} {wsY ws9 : List Cond} {rm : Room} {tysY : List (ClassId × FieldType)} {index maxL nA mc ms : Nat} {bytes : ByteArray} {b : Nat} {As rest : List Value} {P : va_W → Prop} {pre wc post : va_W}
    (C : gC p s m args c cc own Ts D cl tys A H0 nL) (hM : cA F l y wsY rm D cl tysY (.ref b :: As) wc P mc ms) (hG : GoodIn Ts wsY) (hw : wsY = Cond.code y bytes maxL none :: ws9) (hini : Cond.initialized y.cls ∈ Ts) (hl1 : Cond.methodLink own index y ∈ Ts) (hin1 : Cond.instanceMethod y ∈ Ts) (hy1 : y.name = "<init>")
    (hrm : rm.cells = mc ∧ rm.slots = ms) (hd : y.cls ≠ "java/lang/invoke/MethodHandle" ∧ y.cls ≠ "java/lang/invoke/VarHandle" ∧ (parseMethodDescriptor y.desc).map (fun d => d.parameters.length) = some nA) (hR : rm.frames + 1 ≤ R.frames ∧ 8 + (maxL + 11) + rm.locals ≤ R.locals)
    (isT : List Nat) (hT : isT.filterMap (fun i => tys[i]?) = tysY) (hF : ∀ vm' : Vm, s.WarmedH vm' → F vm') (hn : As.length = nA) (hst : st = As.reverse ++ .ref b :: rest) (hrest : (rest.map fun v => v.category).sum ≤ 8) (d : decode cc pc = .ok (.invokespecial index, 3)) (hc : k + mc ≤ R.cells ∧ n + ms ≤ R.slots)
    (hsp : ws = pre ++ (wc ++ post))
    (kk : ∀ w1 : va_W, P w1 → gG p l e R s m args below meth c D cl A H0 nL Q (k + mc) (n + ms) (pre ++ (w1 ++ post)) (pc + 3) lv rest) : gG p l e R s m args below meth c D cl A H0 nL Q k n ws pc lv st := by
  have hK := C.2.2.2.2.2.1.sub isT hT
  exact g_runA C hsp (fun H locs ls hP hD hl => va_runI (As := As) (rest := rest) ⟨C.1, C.2.1, C.2.2.1, C.2.2.2.1, C.2.2.2.2.1⟩ (hM H.size) (cwI nA C.2.2.2.2.1 hG hw hrm.1 hrm.2 (C.2.2.2.2.1 _ hini) (C.2.2.2.2.1 _ hl1) (C.2.2.2.2.1 _ hin1) hy1 hd hR) ⟨cPre_blind _ _ _ _ _ _ _, fun U hU hW => ⟨rfl, hF _ hW, by rw [hU], by rw [hU]; exact hP, va_K.moved hW.alike hK, hD⟩⟩ rfl hn hl.1 hst (lv_room hrest) d ⟨hc.1, hc.2⟩) kk
theorem g_new {C0 : String} {T : u_T} {N index : Nat} (C : gC p s m args c cc own Ts D cl tys A H0 nL) (hin : ∀ w ∈ u_ws C0 T N, w ∈ Ts) (ty : Nat → FieldType) (hty : ∀ k, k < N → parseFieldDescriptor (T k).2.2.1 = some (ty k)) (ci : Nat) (hcl : cl[ci]? = some (C0, T, N)) (h1 : Cond.classLink own index C0 ∈ Ts) (h2 : Cond.instantiable C0 N ∈ Ts) (h3 : Cond.initialized C0 ∈ Ts)
    {fs : List Value} (hfs : ∀ j, j < N → defaultValue (ty j) = vp_V fs j) (hc : k + 1 ≤ R.cells ∧ n + N ≤ R.slots) (d : decode cc pc = .ok (.new index, 3))
    (kk : ∀ q : Nat, gG p l e R s m args below meth c D cl A H0 nL Q (k + 1) (n + N) (ws ++ [(q, .inr (ci, fs))]) (pc + 3) lv (.ref q :: st)) : gG p l e R s m args below meth c D cl A H0 nL Q k n ws pc lv st := by
  intro H locs ls hP hD hS hl
  exact va_new C.1 C.2.1 C.2.2.2.2.1 hin ty hty C.2.2.2.1 (C.2.2.2.2.1 _ h1) (C.2.2.2.2.1 _ h2) (C.2.2.2.2.1 _ h3) C.2.2.2.2.2.1 hP hD hS C.2.2.2.2.2.2 hcl hfs hc.1 hc.2 d (fun q H1 hP1 hD1 hS1 => kk q H1 locs ls hP1 hD1 hS1 hl)
theorem g_newaI (C : gC p s m args c cc own Ts D cl tys A H0 nL) {cI : ClassId} (t0 : Nat) (ht : tys[t0]? = some (cI, .int)) (h1 : Cond.arrayClass .int ∈ Ts) (N : Nat) {i : Int32} (hi : i = nI N) (hN : N < 2 ^ 20) (hc : k + 1 ≤ R.cells ∧ n + N ≤ R.slots) (d : decode cc pc = .ok (.newarray .int, 2))
    (kk : ∀ q : Nat, gG p l e R s m args below meth c D cl A H0 nL Q (k + 1) (n + N) (ws ++ [(q, .inl (cI, N, .inl (fun _ => 0)))]) (pc + 2) lv (.ref q :: st)) : gG p l e R s m args below meth c D cl A H0 nL Q k n ws pc lv (.int i :: st) := by
  subst hi
  intro H locs ls hP hD hS hl
  refine va_newa (atype := .int) (ty := .int) (N' := N) (a0 := (N, .inl (fun _ => 0))) C.1 C.2.1 (C.2.2.2.2.1 _ h1) rfl C.2.2.2.2.2.1 hP hD hS C.2.2.2.2.2.2 (fun _ => rfl) (nI_pos (by omega)) (nI_clamp (by omega)) (by show N * 4 ≤ _; omega) hc.1 hc.2 d ?_
  intro q cA H1 hK1 hP1 hD1 hS1
  have e1 := (hK1.2 tys.length (cA, .int) (by rw [List.getElem?_append_right (Nat.le_refl _), Nat.sub_self]; rfl)).2
  have e2 := (C.2.2.2.2.2.1.2 t0 (cI, .int) ht).2
  have e3 : cA = cI := Option.some.inj (Eq.trans (Eq.symm e1) e2)
  subst e3
  exact kk q H1 locs ls hP1 hD1 hS1 hl
theorem g_newqB (C : gC p s m args c cc own Ts D cl tys A H0 nL) {cO : ClassId} {C0 : String} {index : Nat} (t0 : Nat) (ht : tys[t0]? = some (cO, .object C0)) (h1 : Cond.classLink own index C0 ∈ Ts) (hover : va_AO C0 s) (N : Nat) {i : Int32} (hi : i = nI N) (hN : N < 2 ^ 20) (hc : k + 1 ≤ R.cells ∧ n + N ≤ R.slots) (d : decode cc pc = .ok (.anewarray index, 3))
    (kk : ∀ q : Nat, gG p l e R s m args below meth c D cl A H0 nL Q (k + 1) (n + N) (ws ++ [(q, .inl (cO, N, .inr (.inr (.inr (.inr (fun _ => none))))))]) (pc + 3) lv (.ref q :: st)) : gG p l e R s m args below meth c D cl A H0 nL Q k n ws pc lv (.int i :: st) := by
  subst hi
  intro H locs ls hP hD hS hl
  refine va_newq (N' := N) C.1 C.2.1 C.2.2.2.1 (C.2.2.2.2.1 _ h1) hover C.2.2.2.2.2.1 hP hD hS C.2.2.2.2.2.2 (nI_pos (by omega)) (nI_clamp (by omega)) (by omega) hc.1 hc.2 d ?_
  intro q cA H1 hK1 hP1 hD1 hS1
  obtain ⟨k1, p1, -, -, -, e1⟩ := (hK1.2 tys.length (cA, .object C0) (by rw [List.getElem?_append_right (Nat.le_refl _), Nat.sub_self]; rfl)).2
  obtain ⟨k2, p2, -, -, -, e2⟩ := (C.2.2.2.2.2.1.2 t0 (cO, .object C0) ht).2
  have e3 : cA = cO := Option.some.inj (Eq.trans (Eq.symm e1) e2)
  subst e3
  exact kk q H1 locs ls hP1 hD1 hS1 hl
theorem g_astq (C : gC p s m args c cc own Ts D cl tys A H0 nL) {a : Nat} {cA : ClassId} {r : vw_C} {N v : Nat} {vs : List Value} {f : Nat → Option Nat} {i : Int32} {ws' : va_W} (q0 t0 qk ci : Nat) (ha : ws[q0]? = some (a, .inl (cA, N, .inr (.inr (.inr (.inr f)))))) (ht : tys[t0]? = some (cA, .object r.1)) (hv : ws[qk]? = some (v, .inr (ci, vs))) (hcl : cl[ci]? = some r) (j : Nat) (hi : i = nI j) (hj : j < N) (hN : N < 2 ^ 31) (d : decode cc pc = .ok (.aastore, 1)) (hw : ws.set q0 (a, .inl (cA, N, .inr (.inr (.inr (.inr (va_up f j (some v))))))) = ws')
    (kk : gG p l e R s m args below meth c D cl A H0 nL Q k n ws' (pc + 1) lv st) : gG p l e R s m args below meth c D cl A H0 nL Q k n ws pc lv (.ref v :: .int i :: .ref a :: st) := by
  subst hi; subst hw
  intro H locs ls hP hD hS hl
  refine va_astq C.1 C.2.1 C.2.2.2.2.2.1 hP hD hS q0 t0 qk ci ha ht hv hcl (vp_in_nI hj hN) d ?_
  rw [nI_clamp (by omega)]
  intro H1 locs1 hP1 hD1 hS1
  exact kk H1 locs1 ls hP1 hD1 hS1 hl
end GAL
theorem cell_q {cA : ClassId} {N : Nat} {f f1 : Nat → Option Nat} (h : ∀ j, j < N → f j = f1 j) : vp_cell cA (N, .inr (.inr (.inr (.inr f)))) = vp_cell cA (N, .inr (.inr (.inr (.inr f1)))) := by
  show arrV cA N (fun j => va_rf (f j)) = arrV cA N (fun j => va_rf (f1 j))
  unfold arrV
  congr 2
  funext j
  exact congrArg va_rf (h j.val j.isLt)
theorem g00_0 {c : Nat} (h : 0 < c) : (fun j => g00 (6 * j + c)) = fun _ => 0 := by
  funext j
  exact if_neg (by omega)
theorem wB_new (ad : Nat → Nat) (cI : ClassId) : [(ad 0, .inr (0, [.ref (ad 1), .ref (ad 2), .ref (ad 3), .ref (ad 4), .ref (ad 5), .ref (ad 6), .int 3])), (ad 1, .inl (cI, 9, .inl (fun _ => 0))), (ad 2, .inl (cI, 9, .inl (fun _ => 0))), (ad 3, .inl (cI, 9, .inl (fun _ => 0))), (ad 4, .inl (cI, 9, .inl (fun _ => 0))), (ad 5, .inl (cI, 9, .inl (fun _ => 0))), (ad 6, .inl (cI, 9, .inl (fun _ => 0)))] = wB ad cI g00 := by
  unfold wB
  rw [g00_0 (c := 1) (by decide), g00_0 (c := 2) (by decide), g00_0 (c := 3) (by decide), g00_0 (c := 4) (by decide), g00_0 (c := 5) (by decide), g00_0 (c := 6) (by decide)]
  rfl
theorem fo_X0_init_link : Cond.methodLink RX0 3 objectInit ∈ wsX0_init := (List.mem_cons_of_mem _ (List.mem_append_left _ (List.mem_of_getElem? (i := 0) rfl)))
theorem fo_X0_init_inst : Cond.instanceMethod objectInit ∈ wsX0_init := (List.mem_cons_of_mem _ (List.mem_append_left _ (List.mem_of_getElem? (i := 1) rfl)))
theorem fo_X0_init_code : Cond.code objectInit ⟨#[0xb1]⟩ 1 none ∈ wsX0_init := (List.mem_cons_of_mem _ (List.mem_append_left _ (List.mem_of_getElem? (i := 2) rfl)))
theorem fw_X0_init_aci : Cond.arrayClass .int ∈ wsX0_init := (List.mem_cons_of_mem _ (List.mem_append_left _ (List.mem_of_getElem? (i := 3) rfl)))
theorem fw_X0_init_fld9 : Cond.fieldLink RX0 9 "StuckRods$Board" "fives" "[I" ∈ wsX0_init := (List.mem_cons_of_mem _ (List.mem_append_left _ (List.mem_of_getElem? (i := 4) rfl)))
theorem fl_X0_init_X0 : ∀ w ∈ wsX00, w ∈ wsX0_init := fun _ h => List.mem_cons_of_mem _ (List.mem_append_right _ h)
theorem fw_X0_init_fld15 : Cond.fieldLink RX0 15 "StuckRods$Board" "ones" "[I" ∈ wsX0_init := (List.mem_cons_of_mem _ (List.mem_append_left _ (List.mem_of_getElem? (i := 5) rfl)))
theorem fw_X0_init_fld18 : Cond.fieldLink RX0 18 "StuckRods$Board" "stuck" "[I" ∈ wsX0_init := (List.mem_cons_of_mem _ (List.mem_append_left _ (List.mem_of_getElem? (i := 6) rfl)))
theorem fw_X0_init_fld21 : Cond.fieldLink RX0 21 "StuckRods$Board" "loan" "[I" ∈ wsX0_init := (List.mem_cons_of_mem _ (List.mem_append_left _ (List.mem_of_getElem? (i := 7) rfl)))
theorem fw_X0_init_fld24 : Cond.fieldLink RX0 24 "StuckRods$Board" "moved" "[I" ∈ wsX0_init := (List.mem_cons_of_mem _ (List.mem_append_left _ (List.mem_of_getElem? (i := 8) rfl)))
theorem fw_X0_init_fld27 : Cond.fieldLink RX0 27 "StuckRods$Board" "borrowed" "[I" ∈ wsX0_init := (List.mem_cons_of_mem _ (List.mem_append_left _ (List.mem_of_getElem? (i := 9) rfl)))
theorem fw_X0_init_fld30 : Cond.fieldLink RX0 30 "StuckRods$Board" "setting" "I" ∈ wsX0_init := (List.mem_cons_of_mem _ (List.mem_append_left _ (List.mem_of_getElem? (i := 10) rfl)))
abbrev rmX0_init : Room := { frames := 1, cells := 6, slots := 54, locals := 12 }
set_option maxHeartbeats 2000000 in
set_option maxRecDepth 100000 in
theorem c_X0_init (l : Launch) (D : va_G) (cI cO : ClassId) (a : Nat) : cA (fun _ => True) l yX0_init wsX0_init rmX0_init D vwCl (tyA cI cO) [.ref a] ([(a, .inr (0, [.null, .null, .null, .null, .null, .null, .int 0]))] : va_W) (fun w => ∃ ad : Nat → Nat, ad 0 = a ∧ w = wB ad cI g00) 6 54 := by
  refine cA_of (cc := cX0_init) (maxL := 1) (ret := none) (by decide) rfl (Nat.le_of_ble_eq_true rfl) ?_
  intro p e s m below meth c A C hret hlk hnm hF
  refine g_lv [0] (lv' := [(0, .ref a)]) rfl ?_
  refine g_aload_n C dX0_init_0 0 rfl ?_
  refine g_objInit C dX0_init_1 fo_X0_init_link fo_X0_init_inst fo_X0_init_code (Nat.le_of_ble_eq_true rfl) (Nat.le_of_ble_eq_true rfl) ?_
  refine g_aload_n C dX0_init_4 0 rfl ?_
  refine g_bipush C (v := 9) dX0_init_5 cb_9 ?_
  refine g_newaI C 0 rfl fw_X0_init_aci 9 rfl (by decide) ⟨Nat.le_of_ble_eq_true rfl, Nat.le_of_ble_eq_true rfl⟩ dX0_init_7 ?_
  intro q1
  refine g_ws (ws' := (([(a, .inr (0, [.null, .null, .null, .null, .null, .null, .int 0]))] : va_W) ++ ([(q1, .inl (cI, 9, .inl (fun _ => 0)))] : va_W))) rfl ?_
  refine g_putF C (ws' := (([(a, .inr (0, [.ref q1, .null, .null, .null, .null, .null, .int 0]))] : va_W) ++ ([(q1, .inl (cI, 9, .inl (fun _ => 0)))] : va_W))) fl_X0_init_X0 tyX0 tyX0_ok nmX0 0 rfl rfl 0 (by decide) fw_X0_init_fld9 rfl hnm rfl (tyX0_ok 0 (by decide)) rfl rfl (Nat.le_of_ble_eq_true rfl) dX0_init_9 (ws_setl (Nat.le_of_ble_eq_true rfl) rfl) ?_
  refine g_aload_n C dX0_init_12 0 rfl ?_
  refine g_bipush C (v := 9) dX0_init_13 cb_9 ?_
  refine g_newaI C 0 rfl fw_X0_init_aci 9 rfl (by decide) ⟨Nat.le_of_ble_eq_true rfl, Nat.le_of_ble_eq_true rfl⟩ dX0_init_15 ?_
  intro q2
  refine g_ws (ws' := (([(a, .inr (0, [.ref q1, .null, .null, .null, .null, .null, .int 0]))] : va_W) ++ (([(q1, .inl (cI, 9, .inl (fun _ => 0)))] : va_W) ++ ([(q2, .inl (cI, 9, .inl (fun _ => 0)))] : va_W)))) rfl ?_
  refine g_putF C (ws' := (([(a, .inr (0, [.ref q1, .ref q2, .null, .null, .null, .null, .int 0]))] : va_W) ++ (([(q1, .inl (cI, 9, .inl (fun _ => 0)))] : va_W) ++ ([(q2, .inl (cI, 9, .inl (fun _ => 0)))] : va_W)))) fl_X0_init_X0 tyX0 tyX0_ok nmX0 0 rfl rfl 1 (by decide) fw_X0_init_fld15 rfl hnm rfl (tyX0_ok 1 (by decide)) rfl rfl (Nat.le_of_ble_eq_true rfl) dX0_init_17 (ws_setl (Nat.le_of_ble_eq_true rfl) rfl) ?_
  refine g_aload_n C dX0_init_20 0 rfl ?_
  refine g_bipush C (v := 9) dX0_init_21 cb_9 ?_
  refine g_newaI C 0 rfl fw_X0_init_aci 9 rfl (by decide) ⟨Nat.le_of_ble_eq_true rfl, Nat.le_of_ble_eq_true rfl⟩ dX0_init_23 ?_
  intro q3
  refine g_ws (ws' := (([(a, .inr (0, [.ref q1, .ref q2, .null, .null, .null, .null, .int 0]))] : va_W) ++ (([(q1, .inl (cI, 9, .inl (fun _ => 0)))] : va_W) ++ (([(q2, .inl (cI, 9, .inl (fun _ => 0)))] : va_W) ++ ([(q3, .inl (cI, 9, .inl (fun _ => 0)))] : va_W))))) rfl ?_
  refine g_putF C (ws' := (([(a, .inr (0, [.ref q1, .ref q2, .ref q3, .null, .null, .null, .int 0]))] : va_W) ++ (([(q1, .inl (cI, 9, .inl (fun _ => 0)))] : va_W) ++ (([(q2, .inl (cI, 9, .inl (fun _ => 0)))] : va_W) ++ ([(q3, .inl (cI, 9, .inl (fun _ => 0)))] : va_W))))) fl_X0_init_X0 tyX0 tyX0_ok nmX0 0 rfl rfl 2 (by decide) fw_X0_init_fld18 rfl hnm rfl (tyX0_ok 2 (by decide)) rfl rfl (Nat.le_of_ble_eq_true rfl) dX0_init_25 (ws_setl (Nat.le_of_ble_eq_true rfl) rfl) ?_
  refine g_aload_n C dX0_init_28 0 rfl ?_
  refine g_bipush C (v := 9) dX0_init_29 cb_9 ?_
  refine g_newaI C 0 rfl fw_X0_init_aci 9 rfl (by decide) ⟨Nat.le_of_ble_eq_true rfl, Nat.le_of_ble_eq_true rfl⟩ dX0_init_31 ?_
  intro q4
  refine g_ws (ws' := (([(a, .inr (0, [.ref q1, .ref q2, .ref q3, .null, .null, .null, .int 0]))] : va_W) ++ (([(q1, .inl (cI, 9, .inl (fun _ => 0)))] : va_W) ++ (([(q2, .inl (cI, 9, .inl (fun _ => 0)))] : va_W) ++ (([(q3, .inl (cI, 9, .inl (fun _ => 0)))] : va_W) ++ ([(q4, .inl (cI, 9, .inl (fun _ => 0)))] : va_W)))))) rfl ?_
  refine g_putF C (ws' := (([(a, .inr (0, [.ref q1, .ref q2, .ref q3, .ref q4, .null, .null, .int 0]))] : va_W) ++ (([(q1, .inl (cI, 9, .inl (fun _ => 0)))] : va_W) ++ (([(q2, .inl (cI, 9, .inl (fun _ => 0)))] : va_W) ++ (([(q3, .inl (cI, 9, .inl (fun _ => 0)))] : va_W) ++ ([(q4, .inl (cI, 9, .inl (fun _ => 0)))] : va_W)))))) fl_X0_init_X0 tyX0 tyX0_ok nmX0 0 rfl rfl 3 (by decide) fw_X0_init_fld21 rfl hnm rfl (tyX0_ok 3 (by decide)) rfl rfl (Nat.le_of_ble_eq_true rfl) dX0_init_33 (ws_setl (Nat.le_of_ble_eq_true rfl) rfl) ?_
  refine g_aload_n C dX0_init_36 0 rfl ?_
  refine g_bipush C (v := 9) dX0_init_37 cb_9 ?_
  refine g_newaI C 0 rfl fw_X0_init_aci 9 rfl (by decide) ⟨Nat.le_of_ble_eq_true rfl, Nat.le_of_ble_eq_true rfl⟩ dX0_init_39 ?_
  intro q5
  refine g_ws (ws' := (([(a, .inr (0, [.ref q1, .ref q2, .ref q3, .ref q4, .null, .null, .int 0]))] : va_W) ++ (([(q1, .inl (cI, 9, .inl (fun _ => 0)))] : va_W) ++ (([(q2, .inl (cI, 9, .inl (fun _ => 0)))] : va_W) ++ (([(q3, .inl (cI, 9, .inl (fun _ => 0)))] : va_W) ++ (([(q4, .inl (cI, 9, .inl (fun _ => 0)))] : va_W) ++ ([(q5, .inl (cI, 9, .inl (fun _ => 0)))] : va_W))))))) rfl ?_
  refine g_putF C (ws' := (([(a, .inr (0, [.ref q1, .ref q2, .ref q3, .ref q4, .ref q5, .null, .int 0]))] : va_W) ++ (([(q1, .inl (cI, 9, .inl (fun _ => 0)))] : va_W) ++ (([(q2, .inl (cI, 9, .inl (fun _ => 0)))] : va_W) ++ (([(q3, .inl (cI, 9, .inl (fun _ => 0)))] : va_W) ++ (([(q4, .inl (cI, 9, .inl (fun _ => 0)))] : va_W) ++ ([(q5, .inl (cI, 9, .inl (fun _ => 0)))] : va_W))))))) fl_X0_init_X0 tyX0 tyX0_ok nmX0 0 rfl rfl 4 (by decide) fw_X0_init_fld24 rfl hnm rfl (tyX0_ok 4 (by decide)) rfl rfl (Nat.le_of_ble_eq_true rfl) dX0_init_41 (ws_setl (Nat.le_of_ble_eq_true rfl) rfl) ?_
  refine g_aload_n C dX0_init_44 0 rfl ?_
  refine g_bipush C (v := 9) dX0_init_45 cb_9 ?_
  refine g_newaI C 0 rfl fw_X0_init_aci 9 rfl (by decide) ⟨Nat.le_of_ble_eq_true rfl, Nat.le_of_ble_eq_true rfl⟩ dX0_init_47 ?_
  intro q6
  refine g_ws (ws' := (([(a, .inr (0, [.ref q1, .ref q2, .ref q3, .ref q4, .ref q5, .null, .int 0]))] : va_W) ++ (([(q1, .inl (cI, 9, .inl (fun _ => 0)))] : va_W) ++ (([(q2, .inl (cI, 9, .inl (fun _ => 0)))] : va_W) ++ (([(q3, .inl (cI, 9, .inl (fun _ => 0)))] : va_W) ++ (([(q4, .inl (cI, 9, .inl (fun _ => 0)))] : va_W) ++ (([(q5, .inl (cI, 9, .inl (fun _ => 0)))] : va_W) ++ ([(q6, .inl (cI, 9, .inl (fun _ => 0)))] : va_W)))))))) rfl ?_
  refine g_putF C (ws' := (([(a, .inr (0, [.ref q1, .ref q2, .ref q3, .ref q4, .ref q5, .ref q6, .int 0]))] : va_W) ++ (([(q1, .inl (cI, 9, .inl (fun _ => 0)))] : va_W) ++ (([(q2, .inl (cI, 9, .inl (fun _ => 0)))] : va_W) ++ (([(q3, .inl (cI, 9, .inl (fun _ => 0)))] : va_W) ++ (([(q4, .inl (cI, 9, .inl (fun _ => 0)))] : va_W) ++ (([(q5, .inl (cI, 9, .inl (fun _ => 0)))] : va_W) ++ ([(q6, .inl (cI, 9, .inl (fun _ => 0)))] : va_W)))))))) fl_X0_init_X0 tyX0 tyX0_ok nmX0 0 rfl rfl 5 (by decide) fw_X0_init_fld27 rfl hnm rfl (tyX0_ok 5 (by decide)) rfl rfl (Nat.le_of_ble_eq_true rfl) dX0_init_49 (ws_setl (Nat.le_of_ble_eq_true rfl) rfl) ?_
  refine g_aload_n C dX0_init_52 0 rfl ?_
  refine g_iconst C (v := 3) dX0_init_53 ci_3 ?_
  refine g_put C (ws' := (([(a, .inr (0, [.ref q1, .ref q2, .ref q3, .ref q4, .ref q5, .ref q6, .int 3]))] : va_W) ++ (([(q1, .inl (cI, 9, .inl (fun _ => 0)))] : va_W) ++ (([(q2, .inl (cI, 9, .inl (fun _ => 0)))] : va_W) ++ (([(q3, .inl (cI, 9, .inl (fun _ => 0)))] : va_W) ++ (([(q4, .inl (cI, 9, .inl (fun _ => 0)))] : va_W) ++ (([(q5, .inl (cI, 9, .inl (fun _ => 0)))] : va_W) ++ ([(q6, .inl (cI, 9, .inl (fun _ => 0)))] : va_W)))))))) fl_X0_init_X0 tyX0 tyX0_ok nmX0 0 rfl rfl 6 (by decide) fw_X0_init_fld30 rfl (tyX0_ok 6 (by decide)) rfl rfl (Nat.le_of_ble_eq_true rfl) dX0_init_54 (ws_setl (Nat.le_of_ble_eq_true rfl) rfl) ?_
  exact g_vretA C hret hlk dX0_init_57 ⟨(fun i => match i with | 0 => a | 1 => q1 | 2 => q2 | 3 => q3 | 4 => q4 | 5 => q5 | _ => q6), rfl, wB_new (fun i => match i with | 0 => a | 1 => q1 | 2 => q2 | 3 => q3 | 4 => q4 | 5 => q5 | _ => q6) cI⟩
theorem fo_X2_init_link : Cond.methodLink RX2 3 objectInit ∈ wsX2_init := (List.mem_cons_of_mem _ (List.mem_append_left _ (List.mem_of_getElem? (i := 0) rfl)))
theorem fo_X2_init_inst : Cond.instanceMethod objectInit ∈ wsX2_init := (List.mem_cons_of_mem _ (List.mem_append_left _ (List.mem_of_getElem? (i := 1) rfl)))
theorem fo_X2_init_code : Cond.code objectInit ⟨#[0xb1]⟩ 1 none ∈ wsX2_init := (List.mem_cons_of_mem _ (List.mem_append_left _ (List.mem_of_getElem? (i := 2) rfl)))
theorem fw_X2_init_aci : Cond.arrayClass .int ∈ wsX2_init := (List.mem_cons_of_mem _ (List.mem_append_left _ (List.mem_of_getElem? (i := 3) rfl)))
theorem fw_X2_init_fld9 : Cond.fieldLink RX2 9 "StuckRods$SumText" "codes" "[I" ∈ wsX2_init := (List.mem_cons_of_mem _ (List.mem_append_left _ (List.mem_of_getElem? (i := 4) rfl)))
theorem fl_X2_init_X2 : ∀ w ∈ wsX20, w ∈ wsX2_init := fun _ h => List.mem_cons_of_mem _ (List.mem_append_right _ h)
theorem fw_X2_init_fld15 : Cond.fieldLink RX2 15 "StuckRods$SumText" "length" "I" ∈ wsX2_init := (List.mem_cons_of_mem _ (List.mem_append_left _ (List.mem_of_getElem? (i := 5) rfl)))
abbrev rmX2_init : Room := { frames := 1, cells := 1, slots := 60, locals := 12 }
set_option maxHeartbeats 2000000 in
set_option maxRecDepth 100000 in
theorem c_X2_init (l : Launch) (D : va_G) (cI cO : ClassId) (a : Nat) : cA (fun _ => True) l yX2_init wsX2_init rmX2_init D vwCl (tyA cI cO) [.ref a] ([(a, .inr (2, [.null, .int 0]))] : va_W) (fun w => ∃ ta : Nat → Nat, ta 0 = a ∧ w = wT ta cI (fun _ => 0) (nI 0)) 1 60 := by
  refine cA_of (cc := cX2_init) (maxL := 1) (ret := none) (by decide) rfl (Nat.le_of_ble_eq_true rfl) ?_
  intro p e s m below meth c A C hret hlk hnm hF
  refine g_lv [0] (lv' := [(0, .ref a)]) rfl ?_
  refine g_aload_n C dX2_init_0 0 rfl ?_
  refine g_objInit C dX2_init_1 fo_X2_init_link fo_X2_init_inst fo_X2_init_code (Nat.le_of_ble_eq_true rfl) (Nat.le_of_ble_eq_true rfl) ?_
  refine g_aload_n C dX2_init_4 0 rfl ?_
  refine g_bipush C (v := 60) dX2_init_5 cb_60 ?_
  refine g_newaI C 0 rfl fw_X2_init_aci 60 rfl (by decide) ⟨Nat.le_of_ble_eq_true rfl, Nat.le_of_ble_eq_true rfl⟩ dX2_init_7 ?_
  intro q1
  refine g_ws (ws' := (([(a, .inr (2, [.null, .int 0]))] : va_W) ++ ([(q1, .inl (cI, 60, .inl (fun _ => 0)))] : va_W))) rfl ?_
  refine g_putF C (ws' := (([(a, .inr (2, [.ref q1, .int 0]))] : va_W) ++ ([(q1, .inl (cI, 60, .inl (fun _ => 0)))] : va_W))) fl_X2_init_X2 tyX2 tyX2_ok nmX2 0 rfl rfl 0 (by decide) fw_X2_init_fld9 rfl hnm rfl (tyX2_ok 0 (by decide)) rfl rfl (Nat.le_of_ble_eq_true rfl) dX2_init_9 (ws_setl (Nat.le_of_ble_eq_true rfl) rfl) ?_
  refine g_aload_n C dX2_init_12 0 rfl ?_
  refine g_iconst C (v := 0) dX2_init_13 ci_0 ?_
  refine g_put C (ws' := (([(a, .inr (2, [.ref q1, .int 0]))] : va_W) ++ ([(q1, .inl (cI, 60, .inl (fun _ => 0)))] : va_W))) fl_X2_init_X2 tyX2 tyX2_ok nmX2 0 rfl rfl 1 (by decide) fw_X2_init_fld15 rfl (tyX2_ok 1 (by decide)) rfl rfl (Nat.le_of_ble_eq_true rfl) dX2_init_14 (ws_setl (Nat.le_of_ble_eq_true rfl) rfl) ?_
  exact g_vretA C hret hlk dX2_init_17 ⟨(fun i => match i with | 0 => a | _ => q1), rfl, rfl⟩
theorem hist_new {D : va_G} {cI cO : ClassId} {H : Heap} {h0 h1 : Nat} {a0 a1 a2 a3 a4 a5 : Nat → Nat}
    (hP : va_P D vwCl ([(h0, .inr (1, [.ref h1, .int 0, .int 0]))] ++ ([(h1, .inl (cO, 6, .inr (.inr (.inr (.inr (va_up (va_up (va_up (va_up (va_up (va_up (fun _ => none) 0 (some (a0 0))) 1 (some (a1 0))) 2 (some (a2 0))) 3 (some (a3 0))) 4 (some (a4 0))) 5 (some (a5 0))))))))] ++ (wB a0 cI g00 ++ (wB a1 cI g00 ++ (wB a2 cI g00 ++ (wB a3 cI g00 ++ (wB a4 cI g00 ++ wB a5 cI g00))))))) H) :
    va_P D vwCl (wHs (fun i => match i with | 0 => h0 | _ => h1) (fun k => match k with | 0 => a0 | 1 => a1 | 2 => a2 | 3 => a3 | 4 => a4 | _ => a5) cI cO (fun _ => g00) (nI 0) (nI 0)) H := by
  refine va_P.app (?_ : va_P D vwCl (wH0 (fun i => match i with | 0 => h0 | _ => h1) (fun k => match k with | 0 => a0 | 1 => a1 | 2 => a2 | 3 => a3 | 4 => a4 | _ => a5) cO (nI 0) (nI 0)) H) (wP_r (wP_r hP))
  intro k q hk
  have hk2 : k < 2 := (List.getElem?_eq_some_iff.mp hk).1
  rcases (show k = 0 ∨ k = 1 by omega) with e | e <;> subst e <;> cases hk
  · exact hP 0 _ rfl
  · have h := hP 1 _ rfl
    show H[h1]? = some (vp_cell _ _)
    have h' : H[h1]? = some (vp_cell cO (6, .inr (.inr (.inr (.inr (va_up (va_up (va_up (va_up (va_up (va_up (fun _ => none) 0 (some (a0 0))) 1 (some (a1 0))) 2 (some (a2 0))) 3 (some (a3 0))) 4 (some (a4 0))) 5 (some (a5 0)))))))) := h
    rw [h', cell_q (fun j hj => ?_)]
    rcases (show j = 0 ∨ j = 1 ∨ j = 2 ∨ j = 3 ∨ j = 4 ∨ j = 5 by omega) with e | e | e | e | e | e <;> subst e <;> rfl
theorem fo_X1_init_link : Cond.methodLink RX1 3 objectInit ∈ wsX1_init := (List.mem_cons_of_mem _ (List.mem_append_left _ (List.mem_append_left _ (List.mem_of_getElem? (i := 0) rfl))))
theorem fo_X1_init_inst : Cond.instanceMethod objectInit ∈ wsX1_init := (List.mem_cons_of_mem _ (List.mem_append_left _ (List.mem_append_left _ (List.mem_of_getElem? (i := 1) rfl))))
theorem fo_X1_init_code : Cond.code objectInit ⟨#[0xb1]⟩ 1 none ∈ wsX1_init := (List.mem_cons_of_mem _ (List.mem_append_left _ (List.mem_append_left _ (List.mem_of_getElem? (i := 2) rfl))))
theorem fw_X1_init_clk9 : Cond.classLink RX1 9 RX0 ∈ wsX1_init := (List.mem_cons_of_mem _ (List.mem_append_left _ (List.mem_append_left _ (List.mem_of_getElem? (i := 3) rfl))))
theorem fw_X1_init_fld11 : Cond.fieldLink RX1 11 "StuckRods$History" "slots" "[LStuckRods$Board;" ∈ wsX1_init := (List.mem_cons_of_mem _ (List.mem_append_left _ (List.mem_append_left _ (List.mem_of_getElem? (i := 4) rfl))))
theorem fl_X1_init_X1 : ∀ w ∈ wsX10, w ∈ wsX1_init := fun _ h => List.mem_cons_of_mem _ (List.mem_append_left _ (List.mem_append_right _ h))
theorem fw_X1_init_fld17 : Cond.fieldLink RX1 17 "StuckRods$History" "oldest" "I" ∈ wsX1_init := (List.mem_cons_of_mem _ (List.mem_append_left _ (List.mem_append_left _ (List.mem_of_getElem? (i := 5) rfl))))
theorem fw_X1_init_fld21 : Cond.fieldLink RX1 21 "StuckRods$History" "size" "I" ∈ wsX1_init := (List.mem_cons_of_mem _ (List.mem_append_left _ (List.mem_append_left _ (List.mem_of_getElem? (i := 6) rfl))))
theorem fw_X1_init_isbX0 : Cond.instantiable RX0 7 ∈ wsX1_init := (List.mem_cons_of_mem _ (List.mem_append_left _ (List.mem_append_left _ (List.mem_of_getElem? (i := 7) rfl))))
theorem fw_X1_init_iniX0 : Cond.initialized RX0 ∈ wsX1_init := (List.mem_cons_of_mem _ (List.mem_append_left _ (List.mem_append_left _ (List.mem_of_getElem? (i := 8) rfl))))
theorem fl_X1_init_X0 : ∀ w ∈ wsX00, w ∈ wsX1_init := fun _ h => List.mem_cons_of_mem _ (List.mem_append_right _ h)
theorem fw_X1_init_mlX0 : Cond.methodLink RX1 24 yX0_init ∈ wsX1_init := (List.mem_cons_of_mem _ (List.mem_append_left _ (List.mem_append_left _ (List.mem_of_getElem? (i := 9) rfl))))
theorem fw_X1_init_imX0 : Cond.instanceMethod yX0_init ∈ wsX1_init := (List.mem_cons_of_mem _ (List.mem_append_left _ (List.mem_append_left _ (List.mem_of_getElem? (i := 10) rfl))))
theorem hd_X0_init : yX0_init.cls ≠ "java/lang/invoke/MethodHandle" ∧ yX0_init.cls ≠ "java/lang/invoke/VarHandle" ∧ (parseMethodDescriptor yX0_init.desc).map (fun d => d.parameters.length) = some 0 := by decide +kernel
abbrev rmX1_init : Room := { frames := 2, cells := 43, slots := 372, locals := 32 }
set_option maxHeartbeats 2000000 in
set_option maxRecDepth 100000 in
theorem c_X1_init (l : Launch) (D : va_G) (cI cO : ClassId) (a : Nat) : cA aF l yX1_init wsX1_init rmX1_init D vwCl (tyA cI cO) [.ref a] ([(a, .inr (1, [.null, .int 0, .int 0]))] : va_W) (fun w => ∃ (ha : Nat → Nat) (hb : Nat → Nat → Nat), ha 0 = a ∧ w = wHs ha hb cI cO (fun _ => g00) (nI 0) (nI 0)) 43 372 := by
  refine cA_of (cc := cX1_init) (maxL := 2) (ret := none) (by decide) rfl (Nat.le_of_ble_eq_true rfl) ?_
  intro p e s m below meth c A C hret hlk hnm hF
  refine g_lv [0] (lv' := [(0, .ref a)]) rfl ?_
  refine g_aload_n C dX1_init_0 0 rfl ?_
  refine g_objInit C dX1_init_1 fo_X1_init_link fo_X1_init_inst fo_X1_init_code (Nat.le_of_ble_eq_true rfl) (Nat.le_of_ble_eq_true rfl) ?_
  refine g_aload_n C dX1_init_4 0 rfl ?_
  refine g_bipush C (v := 6) dX1_init_5 cb_6 ?_
  refine g_newqB C 1 rfl fw_X1_init_clk9 (aF_of hF) 6 rfl (by decide) ⟨Nat.le_of_ble_eq_true rfl, Nat.le_of_ble_eq_true rfl⟩ dX1_init_7 ?_
  intro q1
  refine g_ws (ws' := (([(a, .inr (1, [.null, .int 0, .int 0]))] : va_W) ++ ([(q1, .inl (cO, 6, .inr (.inr (.inr (.inr (fun _ => none))))))] : va_W))) rfl ?_
  refine g_putF C (ws' := (([(a, .inr (1, [.ref q1, .int 0, .int 0]))] : va_W) ++ ([(q1, .inl (cO, 6, .inr (.inr (.inr (.inr (fun _ => none))))))] : va_W))) fl_X1_init_X1 tyX1 tyX1_ok nmX1 0 rfl rfl 0 (by decide) fw_X1_init_fld11 rfl hnm rfl (tyX1_ok 0 (by decide)) rfl rfl (Nat.le_of_ble_eq_true rfl) dX1_init_10 (ws_setl (Nat.le_of_ble_eq_true rfl) rfl) ?_
  refine g_aload_n C dX1_init_13 0 rfl ?_
  refine g_iconst C (v := 0) dX1_init_14 ci_0 ?_
  refine g_put C (ws' := (([(a, .inr (1, [.ref q1, .int 0, .int 0]))] : va_W) ++ ([(q1, .inl (cO, 6, .inr (.inr (.inr (.inr (fun _ => none))))))] : va_W))) fl_X1_init_X1 tyX1 tyX1_ok nmX1 0 rfl rfl 1 (by decide) fw_X1_init_fld17 rfl (tyX1_ok 1 (by decide)) rfl rfl (Nat.le_of_ble_eq_true rfl) dX1_init_15 (ws_setl (Nat.le_of_ble_eq_true rfl) rfl) ?_
  refine g_aload_n C dX1_init_18 0 rfl ?_
  refine g_iconst C (v := 0) dX1_init_19 ci_0 ?_
  refine g_put C (ws' := (([(a, .inr (1, [.ref q1, .int 0, .int 0]))] : va_W) ++ ([(q1, .inl (cO, 6, .inr (.inr (.inr (.inr (fun _ => none))))))] : va_W))) fl_X1_init_X1 tyX1 tyX1_ok nmX1 0 rfl rfl 2 (by decide) fw_X1_init_fld21 rfl (tyX1_ok 2 (by decide)) rfl rfl (Nat.le_of_ble_eq_true rfl) dX1_init_20 (ws_setl (Nat.le_of_ble_eq_true rfl) rfl) ?_
  refine g_iconst C (v := 0) dX1_init_23 ci_0 ?_
  refine g_istore_n C (lv' := [(1, .int 0), (0, .ref a)]) dX1_init_24 rfl (by decide) rfl ?_
  refine g_iload_n C dX1_init_25 0 rfl ?_
  refine g_bipush C (v := 6) dX1_init_26 cb_6 ?_
  refine g_icmp_ge C (tgt := 50) dX1_init_28 (by decide) (fun h28_2 => absurd h28_2 (by decide)) (fun _ => ?_)
  refine g_aload_n C dX1_init_31 1 rfl ?_
  refine g_get C (v := .ref q1) fl_X1_init_X1 0 rfl rfl 0 (by decide) fw_X1_init_fld11 rfl dX1_init_32 ?_
  refine g_iload_n C dX1_init_35 0 rfl ?_
  refine g_new C fl_X1_init_X0 tyX0 tyX0_ok 0 rfl fw_X1_init_clk9 fw_X1_init_isbX0 fw_X1_init_iniX0 (fs := [.null, .null, .null, .null, .null, .null, .int 0]) (by decide +kernel) ⟨Nat.le_of_ble_eq_true rfl, Nat.le_of_ble_eq_true rfl⟩ dX1_init_36 ?_
  intro q3
  refine g_ws (ws' := (([(a, .inr (1, [.ref q1, .int 0, .int 0]))] : va_W) ++ (([(q1, .inl (cO, 6, .inr (.inr (.inr (.inr (fun _ => none))))))] : va_W) ++ ([(q3, .inr (0, [.null, .null, .null, .null, .null, .null, .int 0]))] : va_W)))) rfl ?_
  refine g_dup C dX1_init_39 rfl ?_
  refine g_callI C (c_X0_init l D cI cO q3) gX1_init_X0_init rfl fw_X1_init_iniX0 fw_X1_init_mlX0 fw_X1_init_imX0 rfl ⟨rfl, rfl⟩ hd_X0_init ⟨Nat.le_of_ble_eq_true rfl, Nat.le_of_ble_eq_true rfl⟩ [0, 1] rfl (fun _ _ => trivial) rfl (rest := [.ref q3, .int 0, .ref q1]) rfl (Nat.le_of_ble_eq_true rfl) dX1_init_40 ⟨Nat.le_of_ble_eq_true rfl, Nat.le_of_ble_eq_true rfl⟩ (pre := (([(a, .inr (1, [.ref q1, .int 0, .int 0]))] : va_W) ++ ([(q1, .inl (cO, 6, .inr (.inr (.inr (.inr (fun _ => none))))))] : va_W))) (post := []) rfl ?_
  intro w9 hw9
  obtain ⟨ad4, rfl, rfl⟩ := hw9
  refine g_ws (ws' := (([(a, .inr (1, [.ref q1, .int 0, .int 0]))] : va_W) ++ (([(q1, .inl (cO, 6, .inr (.inr (.inr (.inr (fun _ => none))))))] : va_W) ++ (wB ad4 cI g00)))) rfl ?_
  refine g_astq C (ws' := (([(a, .inr (1, [.ref q1, .int 0, .int 0]))] : va_W) ++ (([(q1, .inl (cO, 6, .inr (.inr (.inr (.inr (va_up (fun _ => none) 0 (some (ad4 0))))))))] : va_W) ++ (wB ad4 cI g00)))) 1 1 2 0 rfl rfl rfl rfl 0 rfl (by decide) (by decide) dX1_init_43 rfl ?_
  refine g_iinc C (v := 1) (lv' := [(1, .int 1), (0, .ref a)]) dX1_init_44 0 rfl (by decide) (by decide) rfl ?_
  refine g_goto C (tgt := 25) dX1_init_47 (by decide) ?_
  refine g_iload_n C dX1_init_25 0 rfl ?_
  refine g_bipush C (v := 6) dX1_init_26 cb_6 ?_
  refine g_icmp_ge C (tgt := 50) dX1_init_28 (by decide) (fun h28_5 => absurd h28_5 (by decide)) (fun _ => ?_)
  refine g_aload_n C dX1_init_31 1 rfl ?_
  refine g_get C (v := .ref q1) fl_X1_init_X1 0 rfl rfl 0 (by decide) fw_X1_init_fld11 rfl dX1_init_32 ?_
  refine g_iload_n C dX1_init_35 0 rfl ?_
  refine g_new C fl_X1_init_X0 tyX0 tyX0_ok 0 rfl fw_X1_init_clk9 fw_X1_init_isbX0 fw_X1_init_iniX0 (fs := [.null, .null, .null, .null, .null, .null, .int 0]) (by decide +kernel) ⟨Nat.le_of_ble_eq_true rfl, Nat.le_of_ble_eq_true rfl⟩ dX1_init_36 ?_
  intro q6
  refine g_ws (ws' := (([(a, .inr (1, [.ref q1, .int 0, .int 0]))] : va_W) ++ (([(q1, .inl (cO, 6, .inr (.inr (.inr (.inr (va_up (fun _ => none) 0 (some (ad4 0))))))))] : va_W) ++ ((wB ad4 cI g00) ++ ([(q6, .inr (0, [.null, .null, .null, .null, .null, .null, .int 0]))] : va_W))))) rfl ?_
  refine g_dup C dX1_init_39 rfl ?_
  refine g_callI C (c_X0_init l D cI cO q6) gX1_init_X0_init rfl fw_X1_init_iniX0 fw_X1_init_mlX0 fw_X1_init_imX0 rfl ⟨rfl, rfl⟩ hd_X0_init ⟨Nat.le_of_ble_eq_true rfl, Nat.le_of_ble_eq_true rfl⟩ [0, 1] rfl (fun _ _ => trivial) rfl (rest := [.ref q6, .int 1, .ref q1]) rfl (Nat.le_of_ble_eq_true rfl) dX1_init_40 ⟨Nat.le_of_ble_eq_true rfl, Nat.le_of_ble_eq_true rfl⟩ (pre := (([(a, .inr (1, [.ref q1, .int 0, .int 0]))] : va_W) ++ (([(q1, .inl (cO, 6, .inr (.inr (.inr (.inr (va_up (fun _ => none) 0 (some (ad4 0))))))))] : va_W) ++ (wB ad4 cI g00)))) (post := []) rfl ?_
  intro w9 hw9
  obtain ⟨ad7, rfl, rfl⟩ := hw9
  refine g_ws (ws' := (([(a, .inr (1, [.ref q1, .int 0, .int 0]))] : va_W) ++ (([(q1, .inl (cO, 6, .inr (.inr (.inr (.inr (va_up (fun _ => none) 0 (some (ad4 0))))))))] : va_W) ++ ((wB ad4 cI g00) ++ (wB ad7 cI g00))))) rfl ?_
  refine g_astq C (ws' := (([(a, .inr (1, [.ref q1, .int 0, .int 0]))] : va_W) ++ (([(q1, .inl (cO, 6, .inr (.inr (.inr (.inr (va_up (va_up (fun _ => none) 0 (some (ad4 0))) 1 (some (ad7 0))))))))] : va_W) ++ ((wB ad4 cI g00) ++ (wB ad7 cI g00))))) 1 1 9 0 rfl rfl rfl rfl 1 rfl (by decide) (by decide) dX1_init_43 rfl ?_
  refine g_iinc C (v := 2) (lv' := [(1, .int 2), (0, .ref a)]) dX1_init_44 0 rfl (by decide) (by decide) rfl ?_
  refine g_goto C (tgt := 25) dX1_init_47 (by decide) ?_
  refine g_iload_n C dX1_init_25 0 rfl ?_
  refine g_bipush C (v := 6) dX1_init_26 cb_6 ?_
  refine g_icmp_ge C (tgt := 50) dX1_init_28 (by decide) (fun h28_8 => absurd h28_8 (by decide)) (fun _ => ?_)
  refine g_aload_n C dX1_init_31 1 rfl ?_
  refine g_get C (v := .ref q1) fl_X1_init_X1 0 rfl rfl 0 (by decide) fw_X1_init_fld11 rfl dX1_init_32 ?_
  refine g_iload_n C dX1_init_35 0 rfl ?_
  refine g_new C fl_X1_init_X0 tyX0 tyX0_ok 0 rfl fw_X1_init_clk9 fw_X1_init_isbX0 fw_X1_init_iniX0 (fs := [.null, .null, .null, .null, .null, .null, .int 0]) (by decide +kernel) ⟨Nat.le_of_ble_eq_true rfl, Nat.le_of_ble_eq_true rfl⟩ dX1_init_36 ?_
  intro q9
  refine g_ws (ws' := (([(a, .inr (1, [.ref q1, .int 0, .int 0]))] : va_W) ++ (([(q1, .inl (cO, 6, .inr (.inr (.inr (.inr (va_up (va_up (fun _ => none) 0 (some (ad4 0))) 1 (some (ad7 0))))))))] : va_W) ++ ((wB ad4 cI g00) ++ ((wB ad7 cI g00) ++ ([(q9, .inr (0, [.null, .null, .null, .null, .null, .null, .int 0]))] : va_W)))))) rfl ?_
  refine g_dup C dX1_init_39 rfl ?_
  refine g_callI C (c_X0_init l D cI cO q9) gX1_init_X0_init rfl fw_X1_init_iniX0 fw_X1_init_mlX0 fw_X1_init_imX0 rfl ⟨rfl, rfl⟩ hd_X0_init ⟨Nat.le_of_ble_eq_true rfl, Nat.le_of_ble_eq_true rfl⟩ [0, 1] rfl (fun _ _ => trivial) rfl (rest := [.ref q9, .int 2, .ref q1]) rfl (Nat.le_of_ble_eq_true rfl) dX1_init_40 ⟨Nat.le_of_ble_eq_true rfl, Nat.le_of_ble_eq_true rfl⟩ (pre := (([(a, .inr (1, [.ref q1, .int 0, .int 0]))] : va_W) ++ (([(q1, .inl (cO, 6, .inr (.inr (.inr (.inr (va_up (va_up (fun _ => none) 0 (some (ad4 0))) 1 (some (ad7 0))))))))] : va_W) ++ ((wB ad4 cI g00) ++ (wB ad7 cI g00))))) (post := []) rfl ?_
  intro w9 hw9
  obtain ⟨ad10, rfl, rfl⟩ := hw9
  refine g_ws (ws' := (([(a, .inr (1, [.ref q1, .int 0, .int 0]))] : va_W) ++ (([(q1, .inl (cO, 6, .inr (.inr (.inr (.inr (va_up (va_up (fun _ => none) 0 (some (ad4 0))) 1 (some (ad7 0))))))))] : va_W) ++ ((wB ad4 cI g00) ++ ((wB ad7 cI g00) ++ (wB ad10 cI g00)))))) rfl ?_
  refine g_astq C (ws' := (([(a, .inr (1, [.ref q1, .int 0, .int 0]))] : va_W) ++ (([(q1, .inl (cO, 6, .inr (.inr (.inr (.inr (va_up (va_up (va_up (fun _ => none) 0 (some (ad4 0))) 1 (some (ad7 0))) 2 (some (ad10 0))))))))] : va_W) ++ ((wB ad4 cI g00) ++ ((wB ad7 cI g00) ++ (wB ad10 cI g00)))))) 1 1 16 0 rfl rfl rfl rfl 2 rfl (by decide) (by decide) dX1_init_43 rfl ?_
  refine g_iinc C (v := 3) (lv' := [(1, .int 3), (0, .ref a)]) dX1_init_44 0 rfl (by decide) (by decide) rfl ?_
  refine g_goto C (tgt := 25) dX1_init_47 (by decide) ?_
  refine g_iload_n C dX1_init_25 0 rfl ?_
  refine g_bipush C (v := 6) dX1_init_26 cb_6 ?_
  refine g_icmp_ge C (tgt := 50) dX1_init_28 (by decide) (fun h28_11 => absurd h28_11 (by decide)) (fun _ => ?_)
  refine g_aload_n C dX1_init_31 1 rfl ?_
  refine g_get C (v := .ref q1) fl_X1_init_X1 0 rfl rfl 0 (by decide) fw_X1_init_fld11 rfl dX1_init_32 ?_
  refine g_iload_n C dX1_init_35 0 rfl ?_
  refine g_new C fl_X1_init_X0 tyX0 tyX0_ok 0 rfl fw_X1_init_clk9 fw_X1_init_isbX0 fw_X1_init_iniX0 (fs := [.null, .null, .null, .null, .null, .null, .int 0]) (by decide +kernel) ⟨Nat.le_of_ble_eq_true rfl, Nat.le_of_ble_eq_true rfl⟩ dX1_init_36 ?_
  intro q12
  refine g_ws (ws' := (([(a, .inr (1, [.ref q1, .int 0, .int 0]))] : va_W) ++ (([(q1, .inl (cO, 6, .inr (.inr (.inr (.inr (va_up (va_up (va_up (fun _ => none) 0 (some (ad4 0))) 1 (some (ad7 0))) 2 (some (ad10 0))))))))] : va_W) ++ ((wB ad4 cI g00) ++ ((wB ad7 cI g00) ++ ((wB ad10 cI g00) ++ ([(q12, .inr (0, [.null, .null, .null, .null, .null, .null, .int 0]))] : va_W))))))) rfl ?_
  refine g_dup C dX1_init_39 rfl ?_
  refine g_callI C (c_X0_init l D cI cO q12) gX1_init_X0_init rfl fw_X1_init_iniX0 fw_X1_init_mlX0 fw_X1_init_imX0 rfl ⟨rfl, rfl⟩ hd_X0_init ⟨Nat.le_of_ble_eq_true rfl, Nat.le_of_ble_eq_true rfl⟩ [0, 1] rfl (fun _ _ => trivial) rfl (rest := [.ref q12, .int 3, .ref q1]) rfl (Nat.le_of_ble_eq_true rfl) dX1_init_40 ⟨Nat.le_of_ble_eq_true rfl, Nat.le_of_ble_eq_true rfl⟩ (pre := (([(a, .inr (1, [.ref q1, .int 0, .int 0]))] : va_W) ++ (([(q1, .inl (cO, 6, .inr (.inr (.inr (.inr (va_up (va_up (va_up (fun _ => none) 0 (some (ad4 0))) 1 (some (ad7 0))) 2 (some (ad10 0))))))))] : va_W) ++ ((wB ad4 cI g00) ++ ((wB ad7 cI g00) ++ (wB ad10 cI g00)))))) (post := []) rfl ?_
  intro w9 hw9
  obtain ⟨ad13, rfl, rfl⟩ := hw9
  refine g_ws (ws' := (([(a, .inr (1, [.ref q1, .int 0, .int 0]))] : va_W) ++ (([(q1, .inl (cO, 6, .inr (.inr (.inr (.inr (va_up (va_up (va_up (fun _ => none) 0 (some (ad4 0))) 1 (some (ad7 0))) 2 (some (ad10 0))))))))] : va_W) ++ ((wB ad4 cI g00) ++ ((wB ad7 cI g00) ++ ((wB ad10 cI g00) ++ (wB ad13 cI g00))))))) rfl ?_
  refine g_astq C (ws' := (([(a, .inr (1, [.ref q1, .int 0, .int 0]))] : va_W) ++ (([(q1, .inl (cO, 6, .inr (.inr (.inr (.inr (va_up (va_up (va_up (va_up (fun _ => none) 0 (some (ad4 0))) 1 (some (ad7 0))) 2 (some (ad10 0))) 3 (some (ad13 0))))))))] : va_W) ++ ((wB ad4 cI g00) ++ ((wB ad7 cI g00) ++ ((wB ad10 cI g00) ++ (wB ad13 cI g00))))))) 1 1 23 0 rfl rfl rfl rfl 3 rfl (by decide) (by decide) dX1_init_43 rfl ?_
  refine g_iinc C (v := 4) (lv' := [(1, .int 4), (0, .ref a)]) dX1_init_44 0 rfl (by decide) (by decide) rfl ?_
  refine g_goto C (tgt := 25) dX1_init_47 (by decide) ?_
  refine g_iload_n C dX1_init_25 0 rfl ?_
  refine g_bipush C (v := 6) dX1_init_26 cb_6 ?_
  refine g_icmp_ge C (tgt := 50) dX1_init_28 (by decide) (fun h28_14 => absurd h28_14 (by decide)) (fun _ => ?_)
  refine g_aload_n C dX1_init_31 1 rfl ?_
  refine g_get C (v := .ref q1) fl_X1_init_X1 0 rfl rfl 0 (by decide) fw_X1_init_fld11 rfl dX1_init_32 ?_
  refine g_iload_n C dX1_init_35 0 rfl ?_
  refine g_new C fl_X1_init_X0 tyX0 tyX0_ok 0 rfl fw_X1_init_clk9 fw_X1_init_isbX0 fw_X1_init_iniX0 (fs := [.null, .null, .null, .null, .null, .null, .int 0]) (by decide +kernel) ⟨Nat.le_of_ble_eq_true rfl, Nat.le_of_ble_eq_true rfl⟩ dX1_init_36 ?_
  intro q15
  refine g_ws (ws' := (([(a, .inr (1, [.ref q1, .int 0, .int 0]))] : va_W) ++ (([(q1, .inl (cO, 6, .inr (.inr (.inr (.inr (va_up (va_up (va_up (va_up (fun _ => none) 0 (some (ad4 0))) 1 (some (ad7 0))) 2 (some (ad10 0))) 3 (some (ad13 0))))))))] : va_W) ++ ((wB ad4 cI g00) ++ ((wB ad7 cI g00) ++ ((wB ad10 cI g00) ++ ((wB ad13 cI g00) ++ ([(q15, .inr (0, [.null, .null, .null, .null, .null, .null, .int 0]))] : va_W)))))))) rfl ?_
  refine g_dup C dX1_init_39 rfl ?_
  refine g_callI C (c_X0_init l D cI cO q15) gX1_init_X0_init rfl fw_X1_init_iniX0 fw_X1_init_mlX0 fw_X1_init_imX0 rfl ⟨rfl, rfl⟩ hd_X0_init ⟨Nat.le_of_ble_eq_true rfl, Nat.le_of_ble_eq_true rfl⟩ [0, 1] rfl (fun _ _ => trivial) rfl (rest := [.ref q15, .int 4, .ref q1]) rfl (Nat.le_of_ble_eq_true rfl) dX1_init_40 ⟨Nat.le_of_ble_eq_true rfl, Nat.le_of_ble_eq_true rfl⟩ (pre := (([(a, .inr (1, [.ref q1, .int 0, .int 0]))] : va_W) ++ (([(q1, .inl (cO, 6, .inr (.inr (.inr (.inr (va_up (va_up (va_up (va_up (fun _ => none) 0 (some (ad4 0))) 1 (some (ad7 0))) 2 (some (ad10 0))) 3 (some (ad13 0))))))))] : va_W) ++ ((wB ad4 cI g00) ++ ((wB ad7 cI g00) ++ ((wB ad10 cI g00) ++ (wB ad13 cI g00))))))) (post := []) rfl ?_
  intro w9 hw9
  obtain ⟨ad16, rfl, rfl⟩ := hw9
  refine g_ws (ws' := (([(a, .inr (1, [.ref q1, .int 0, .int 0]))] : va_W) ++ (([(q1, .inl (cO, 6, .inr (.inr (.inr (.inr (va_up (va_up (va_up (va_up (fun _ => none) 0 (some (ad4 0))) 1 (some (ad7 0))) 2 (some (ad10 0))) 3 (some (ad13 0))))))))] : va_W) ++ ((wB ad4 cI g00) ++ ((wB ad7 cI g00) ++ ((wB ad10 cI g00) ++ ((wB ad13 cI g00) ++ (wB ad16 cI g00)))))))) rfl ?_
  refine g_astq C (ws' := (([(a, .inr (1, [.ref q1, .int 0, .int 0]))] : va_W) ++ (([(q1, .inl (cO, 6, .inr (.inr (.inr (.inr (va_up (va_up (va_up (va_up (va_up (fun _ => none) 0 (some (ad4 0))) 1 (some (ad7 0))) 2 (some (ad10 0))) 3 (some (ad13 0))) 4 (some (ad16 0))))))))] : va_W) ++ ((wB ad4 cI g00) ++ ((wB ad7 cI g00) ++ ((wB ad10 cI g00) ++ ((wB ad13 cI g00) ++ (wB ad16 cI g00)))))))) 1 1 30 0 rfl rfl rfl rfl 4 rfl (by decide) (by decide) dX1_init_43 rfl ?_
  refine g_iinc C (v := 5) (lv' := [(1, .int 5), (0, .ref a)]) dX1_init_44 0 rfl (by decide) (by decide) rfl ?_
  refine g_goto C (tgt := 25) dX1_init_47 (by decide) ?_
  refine g_iload_n C dX1_init_25 0 rfl ?_
  refine g_bipush C (v := 6) dX1_init_26 cb_6 ?_
  refine g_icmp_ge C (tgt := 50) dX1_init_28 (by decide) (fun h28_17 => absurd h28_17 (by decide)) (fun _ => ?_)
  refine g_aload_n C dX1_init_31 1 rfl ?_
  refine g_get C (v := .ref q1) fl_X1_init_X1 0 rfl rfl 0 (by decide) fw_X1_init_fld11 rfl dX1_init_32 ?_
  refine g_iload_n C dX1_init_35 0 rfl ?_
  refine g_new C fl_X1_init_X0 tyX0 tyX0_ok 0 rfl fw_X1_init_clk9 fw_X1_init_isbX0 fw_X1_init_iniX0 (fs := [.null, .null, .null, .null, .null, .null, .int 0]) (by decide +kernel) ⟨Nat.le_of_ble_eq_true rfl, Nat.le_of_ble_eq_true rfl⟩ dX1_init_36 ?_
  intro q18
  refine g_ws (ws' := (([(a, .inr (1, [.ref q1, .int 0, .int 0]))] : va_W) ++ (([(q1, .inl (cO, 6, .inr (.inr (.inr (.inr (va_up (va_up (va_up (va_up (va_up (fun _ => none) 0 (some (ad4 0))) 1 (some (ad7 0))) 2 (some (ad10 0))) 3 (some (ad13 0))) 4 (some (ad16 0))))))))] : va_W) ++ ((wB ad4 cI g00) ++ ((wB ad7 cI g00) ++ ((wB ad10 cI g00) ++ ((wB ad13 cI g00) ++ ((wB ad16 cI g00) ++ ([(q18, .inr (0, [.null, .null, .null, .null, .null, .null, .int 0]))] : va_W))))))))) rfl ?_
  refine g_dup C dX1_init_39 rfl ?_
  refine g_callI C (c_X0_init l D cI cO q18) gX1_init_X0_init rfl fw_X1_init_iniX0 fw_X1_init_mlX0 fw_X1_init_imX0 rfl ⟨rfl, rfl⟩ hd_X0_init ⟨Nat.le_of_ble_eq_true rfl, Nat.le_of_ble_eq_true rfl⟩ [0, 1] rfl (fun _ _ => trivial) rfl (rest := [.ref q18, .int 5, .ref q1]) rfl (Nat.le_of_ble_eq_true rfl) dX1_init_40 ⟨Nat.le_of_ble_eq_true rfl, Nat.le_of_ble_eq_true rfl⟩ (pre := (([(a, .inr (1, [.ref q1, .int 0, .int 0]))] : va_W) ++ (([(q1, .inl (cO, 6, .inr (.inr (.inr (.inr (va_up (va_up (va_up (va_up (va_up (fun _ => none) 0 (some (ad4 0))) 1 (some (ad7 0))) 2 (some (ad10 0))) 3 (some (ad13 0))) 4 (some (ad16 0))))))))] : va_W) ++ ((wB ad4 cI g00) ++ ((wB ad7 cI g00) ++ ((wB ad10 cI g00) ++ ((wB ad13 cI g00) ++ (wB ad16 cI g00)))))))) (post := []) rfl ?_
  intro w9 hw9
  obtain ⟨ad19, rfl, rfl⟩ := hw9
  refine g_ws (ws' := (([(a, .inr (1, [.ref q1, .int 0, .int 0]))] : va_W) ++ (([(q1, .inl (cO, 6, .inr (.inr (.inr (.inr (va_up (va_up (va_up (va_up (va_up (fun _ => none) 0 (some (ad4 0))) 1 (some (ad7 0))) 2 (some (ad10 0))) 3 (some (ad13 0))) 4 (some (ad16 0))))))))] : va_W) ++ ((wB ad4 cI g00) ++ ((wB ad7 cI g00) ++ ((wB ad10 cI g00) ++ ((wB ad13 cI g00) ++ ((wB ad16 cI g00) ++ (wB ad19 cI g00))))))))) rfl ?_
  refine g_astq C (ws' := (([(a, .inr (1, [.ref q1, .int 0, .int 0]))] : va_W) ++ (([(q1, .inl (cO, 6, .inr (.inr (.inr (.inr (va_up (va_up (va_up (va_up (va_up (va_up (fun _ => none) 0 (some (ad4 0))) 1 (some (ad7 0))) 2 (some (ad10 0))) 3 (some (ad13 0))) 4 (some (ad16 0))) 5 (some (ad19 0))))))))] : va_W) ++ ((wB ad4 cI g00) ++ ((wB ad7 cI g00) ++ ((wB ad10 cI g00) ++ ((wB ad13 cI g00) ++ ((wB ad16 cI g00) ++ (wB ad19 cI g00))))))))) 1 1 37 0 rfl rfl rfl rfl 5 rfl (by decide) (by decide) dX1_init_43 rfl ?_
  refine g_iinc C (v := 6) (lv' := [(1, .int 6), (0, .ref a)]) dX1_init_44 0 rfl (by decide) (by decide) rfl ?_
  refine g_goto C (tgt := 25) dX1_init_47 (by decide) ?_
  refine g_iload_n C dX1_init_25 0 rfl ?_
  refine g_bipush C (v := 6) dX1_init_26 cb_6 ?_
  refine g_icmp_ge C (tgt := 50) dX1_init_28 (by decide) (fun _ => ?_) (fun h28_20 => absurd (by decide) h28_20)
  refine g_wsE (ws' := (wHs (fun i => match i with | 0 => a | _ => q1) (fun k => match k with | 0 => ad4 | 1 => ad7 | 2 => ad10 | 3 => ad13 | 4 => ad16 | _ => ad19) cI cO (fun _ => g00) (nI 0) (nI 0))) (fun H hP => hist_new hP) (wD_same rfl) ?_
  exact g_vretA C hret hlk dX1_init_50 ⟨(fun i => match i with | 0 => a | _ => q1), (fun k => match k with | 0 => ad4 | 1 => ad7 | 2 => ad10 | 3 => ad13 | 4 => ad16 | _ => ad19), rfl, rfl⟩
theorem fo_X3_init_link : Cond.methodLink RX3 3 objectInit ∈ wsX3_init := (List.mem_cons_of_mem _ (List.mem_append_left _ (List.mem_append_left _ (List.mem_append_left _ (List.mem_append_left _ (List.mem_append_left _ (List.mem_of_getElem? (i := 0) rfl)))))))
theorem fo_X3_init_inst : Cond.instanceMethod objectInit ∈ wsX3_init := (List.mem_cons_of_mem _ (List.mem_append_left _ (List.mem_append_left _ (List.mem_append_left _ (List.mem_append_left _ (List.mem_append_left _ (List.mem_of_getElem? (i := 1) rfl)))))))
theorem fo_X3_init_code : Cond.code objectInit ⟨#[0xb1]⟩ 1 none ∈ wsX3_init := (List.mem_cons_of_mem _ (List.mem_append_left _ (List.mem_append_left _ (List.mem_append_left _ (List.mem_append_left _ (List.mem_append_left _ (List.mem_of_getElem? (i := 2) rfl)))))))
theorem fw_X3_init_clk9 : Cond.classLink RX3 9 RX0 ∈ wsX3_init := (List.mem_cons_of_mem _ (List.mem_append_left _ (List.mem_append_left _ (List.mem_append_left _ (List.mem_append_left _ (List.mem_append_left _ (List.mem_of_getElem? (i := 3) rfl)))))))
theorem fw_X3_init_isbX0 : Cond.instantiable RX0 7 ∈ wsX3_init := (List.mem_cons_of_mem _ (List.mem_append_left _ (List.mem_append_left _ (List.mem_append_left _ (List.mem_append_left _ (List.mem_append_left _ (List.mem_of_getElem? (i := 4) rfl)))))))
theorem fw_X3_init_iniX0 : Cond.initialized RX0 ∈ wsX3_init := (List.mem_cons_of_mem _ (List.mem_append_left _ (List.mem_append_left _ (List.mem_append_left _ (List.mem_append_left _ (List.mem_append_left _ (List.mem_of_getElem? (i := 5) rfl)))))))
theorem fl_X3_init_X0 : ∀ w ∈ wsX00, w ∈ wsX3_init := fun _ h => List.mem_cons_of_mem _ (List.mem_append_left _ (List.mem_append_left _ (List.mem_append_left _ (List.mem_append_right _ h))))
theorem fw_X3_init_mlX0 : Cond.methodLink RX3 11 yX0_init ∈ wsX3_init := (List.mem_cons_of_mem _ (List.mem_append_left _ (List.mem_append_left _ (List.mem_append_left _ (List.mem_append_left _ (List.mem_append_left _ (List.mem_of_getElem? (i := 15) rfl)))))))
theorem fw_X3_init_imX0 : Cond.instanceMethod yX0_init ∈ wsX3_init := (List.mem_cons_of_mem _ (List.mem_append_left _ (List.mem_append_left _ (List.mem_append_left _ (List.mem_append_left _ (List.mem_append_left _ (List.mem_of_getElem? (i := 16) rfl)))))))
theorem fw_X3_init_fld12 : Cond.fieldLink RX3 12 "StuckRods" "board" "LStuckRods$Board;" ∈ wsX3_init := (List.mem_cons_of_mem _ (List.mem_append_left _ (List.mem_append_left _ (List.mem_append_left _ (List.mem_append_left _ (List.mem_append_left _ (List.mem_of_getElem? (i := 6) rfl)))))))
theorem fl_X3_init_X3 : ∀ w ∈ wsX30, w ∈ wsX3_init := fun _ h => List.mem_cons_of_mem _ (List.mem_append_left _ (List.mem_append_left _ (List.mem_append_right _ h)))
theorem fw_X3_init_clk16 : Cond.classLink RX3 16 RX1 ∈ wsX3_init := (List.mem_cons_of_mem _ (List.mem_append_left _ (List.mem_append_left _ (List.mem_append_left _ (List.mem_append_left _ (List.mem_append_left _ (List.mem_of_getElem? (i := 7) rfl)))))))
theorem fw_X3_init_isbX1 : Cond.instantiable RX1 3 ∈ wsX3_init := (List.mem_cons_of_mem _ (List.mem_append_left _ (List.mem_append_left _ (List.mem_append_left _ (List.mem_append_left _ (List.mem_append_left _ (List.mem_of_getElem? (i := 8) rfl)))))))
theorem fw_X3_init_iniX1 : Cond.initialized RX1 ∈ wsX3_init := (List.mem_cons_of_mem _ (List.mem_append_left _ (List.mem_append_left _ (List.mem_append_left _ (List.mem_append_left _ (List.mem_append_left _ (List.mem_of_getElem? (i := 9) rfl)))))))
theorem fl_X3_init_X1 : ∀ w ∈ wsX10, w ∈ wsX3_init := fun _ h => List.mem_cons_of_mem _ (List.mem_append_left _ (List.mem_append_right _ h))
theorem fw_X3_init_mlX1 : Cond.methodLink RX3 18 yX1_init ∈ wsX3_init := (List.mem_cons_of_mem _ (List.mem_append_left _ (List.mem_append_left _ (List.mem_append_left _ (List.mem_append_left _ (List.mem_append_right _ (List.mem_of_getElem? (i := 3) rfl)))))))
theorem fw_X3_init_imX1 : Cond.instanceMethod yX1_init ∈ wsX3_init := (List.mem_cons_of_mem _ (List.mem_append_left _ (List.mem_append_left _ (List.mem_append_left _ (List.mem_append_left _ (List.mem_append_right _ (List.mem_of_getElem? (i := 4) rfl)))))))
theorem hd_X1_init : yX1_init.cls ≠ "java/lang/invoke/MethodHandle" ∧ yX1_init.cls ≠ "java/lang/invoke/VarHandle" ∧ (parseMethodDescriptor yX1_init.desc).map (fun d => d.parameters.length) = some 0 := by decide +kernel
theorem fw_X3_init_fld19 : Cond.fieldLink RX3 19 "StuckRods" "history" "LStuckRods$History;" ∈ wsX3_init := (List.mem_cons_of_mem _ (List.mem_append_left _ (List.mem_append_left _ (List.mem_append_left _ (List.mem_append_left _ (List.mem_append_left _ (List.mem_of_getElem? (i := 10) rfl)))))))
theorem fw_X3_init_clk23 : Cond.classLink RX3 23 RX2 ∈ wsX3_init := (List.mem_cons_of_mem _ (List.mem_append_left _ (List.mem_append_left _ (List.mem_append_left _ (List.mem_append_left _ (List.mem_append_left _ (List.mem_of_getElem? (i := 11) rfl)))))))
theorem fw_X3_init_isbX2 : Cond.instantiable RX2 2 ∈ wsX3_init := (List.mem_cons_of_mem _ (List.mem_append_left _ (List.mem_append_left _ (List.mem_append_left _ (List.mem_append_left _ (List.mem_append_left _ (List.mem_of_getElem? (i := 12) rfl)))))))
theorem fw_X3_init_iniX2 : Cond.initialized RX2 ∈ wsX3_init := (List.mem_cons_of_mem _ (List.mem_append_left _ (List.mem_append_left _ (List.mem_append_left _ (List.mem_append_left _ (List.mem_append_left _ (List.mem_of_getElem? (i := 13) rfl)))))))
theorem fl_X3_init_X2 : ∀ w ∈ wsX20, w ∈ wsX3_init := fun _ h => List.mem_cons_of_mem _ (List.mem_append_right _ h)
theorem fw_X3_init_mlX2 : Cond.methodLink RX3 25 yX2_init ∈ wsX3_init := (List.mem_cons_of_mem _ (List.mem_append_left _ (List.mem_append_left _ (List.mem_append_left _ (List.mem_append_left _ (List.mem_append_right _ (List.mem_of_getElem? (i := 12) rfl)))))))
theorem fw_X3_init_imX2 : Cond.instanceMethod yX2_init ∈ wsX3_init := (List.mem_cons_of_mem _ (List.mem_append_left _ (List.mem_append_left _ (List.mem_append_left _ (List.mem_append_left _ (List.mem_append_right _ (List.mem_of_getElem? (i := 13) rfl)))))))
theorem hd_X2_init : yX2_init.cls ≠ "java/lang/invoke/MethodHandle" ∧ yX2_init.cls ≠ "java/lang/invoke/VarHandle" ∧ (parseMethodDescriptor yX2_init.desc).map (fun d => d.parameters.length) = some 0 := by decide +kernel
theorem fw_X3_init_fld26 : Cond.fieldLink RX3 26 "StuckRods" "text" "LStuckRods$SumText;" ∈ wsX3_init := (List.mem_cons_of_mem _ (List.mem_append_left _ (List.mem_append_left _ (List.mem_append_left _ (List.mem_append_left _ (List.mem_append_left _ (List.mem_of_getElem? (i := 14) rfl)))))))
abbrev rmX3_init : Room := { frames := 3, cells := 53, slots := 498, locals := 53 }
set_option maxHeartbeats 2000000 in
set_option maxRecDepth 100000 in
theorem c_X3_init (l : Launch) (D : va_G) (cI cO : ClassId) (a : Nat) : cA aF l yX3_init wsX3_init rmX3_init D vwCl (tyA cI cO) [.ref a] ([(a, .inr (3, [.null, .null, .null]))] : va_W) (fun w => ∃ (ta ha : Nat → Nat) (hb : Nat → Nat → Nat) (ad : Nat → Nat), w = wS0 a ad ha ta ++ (wT ta cI (fun _ => 0) (nI 0) ++ (wHs ha hb cI cO (fun _ => g00) (nI 0) (nI 0) ++ wB ad cI g00))) 53 498 := by
  refine cA_of (cc := cX3_init) (maxL := 1) (ret := none) (by decide) rfl (Nat.le_of_ble_eq_true rfl) ?_
  intro p e s m below meth c A C hret hlk hnm hF
  refine g_lv [0] (lv' := [(0, .ref a)]) rfl ?_
  refine g_aload_n C dX3_init_0 0 rfl ?_
  refine g_objInit C dX3_init_1 fo_X3_init_link fo_X3_init_inst fo_X3_init_code (Nat.le_of_ble_eq_true rfl) (Nat.le_of_ble_eq_true rfl) ?_
  refine g_aload_n C dX3_init_4 0 rfl ?_
  refine g_new C fl_X3_init_X0 tyX0 tyX0_ok 0 rfl fw_X3_init_clk9 fw_X3_init_isbX0 fw_X3_init_iniX0 (fs := [.null, .null, .null, .null, .null, .null, .int 0]) (by decide +kernel) ⟨Nat.le_of_ble_eq_true rfl, Nat.le_of_ble_eq_true rfl⟩ dX3_init_5 ?_
  intro q1
  refine g_ws (ws' := (([(a, .inr (3, [.null, .null, .null]))] : va_W) ++ ([(q1, .inr (0, [.null, .null, .null, .null, .null, .null, .int 0]))] : va_W))) rfl ?_
  refine g_dup C dX3_init_8 rfl ?_
  refine g_callI C (c_X0_init l D cI cO q1) gX3_init_X0_init rfl fw_X3_init_iniX0 fw_X3_init_mlX0 fw_X3_init_imX0 rfl ⟨rfl, rfl⟩ hd_X0_init ⟨Nat.le_of_ble_eq_true rfl, Nat.le_of_ble_eq_true rfl⟩ [0, 1] rfl (fun _ _ => trivial) rfl (rest := [.ref q1, .ref a]) rfl (Nat.le_of_ble_eq_true rfl) dX3_init_9 ⟨Nat.le_of_ble_eq_true rfl, Nat.le_of_ble_eq_true rfl⟩ (pre := ([(a, .inr (3, [.null, .null, .null]))] : va_W)) (post := []) rfl ?_
  intro w9 hw9
  obtain ⟨ad2, rfl, rfl⟩ := hw9
  refine g_ws (ws' := (([(a, .inr (3, [.null, .null, .null]))] : va_W) ++ (wB ad2 cI g00))) rfl ?_
  refine g_putF C (ws' := (([(a, .inr (3, [.ref (ad2 0), .null, .null]))] : va_W) ++ (wB ad2 cI g00))) fl_X3_init_X3 tyX3 tyX3_ok nmX3 0 rfl rfl 0 (by decide) fw_X3_init_fld12 rfl hnm rfl (tyX3_ok 0 (by decide)) rfl rfl (Nat.le_of_ble_eq_true rfl) dX3_init_12 (ws_setl (Nat.le_of_ble_eq_true rfl) rfl) ?_
  refine g_aload_n C dX3_init_15 0 rfl ?_
  refine g_new C fl_X3_init_X1 tyX1 tyX1_ok 1 rfl fw_X3_init_clk16 fw_X3_init_isbX1 fw_X3_init_iniX1 (fs := [.null, .int 0, .int 0]) (by decide +kernel) ⟨Nat.le_of_ble_eq_true rfl, Nat.le_of_ble_eq_true rfl⟩ dX3_init_16 ?_
  intro q3
  refine g_ws (ws' := (([(a, .inr (3, [.ref (ad2 0), .null, .null]))] : va_W) ++ ((wB ad2 cI g00) ++ ([(q3, .inr (1, [.null, .int 0, .int 0]))] : va_W)))) rfl ?_
  refine g_dup C dX3_init_19 rfl ?_
  refine g_callI C (c_X1_init l D cI cO q3) gX3_init_X1_init rfl fw_X3_init_iniX1 fw_X3_init_mlX1 fw_X3_init_imX1 rfl ⟨rfl, rfl⟩ hd_X1_init ⟨Nat.le_of_ble_eq_true rfl, Nat.le_of_ble_eq_true rfl⟩ [0, 1] rfl (aF_w hF) rfl (rest := [.ref q3, .ref a]) rfl (Nat.le_of_ble_eq_true rfl) dX3_init_20 ⟨Nat.le_of_ble_eq_true rfl, Nat.le_of_ble_eq_true rfl⟩ (pre := (([(a, .inr (3, [.ref (ad2 0), .null, .null]))] : va_W) ++ (wB ad2 cI g00))) (post := []) rfl ?_
  intro w9 hw9
  obtain ⟨ha4, hb5, rfl, rfl⟩ := hw9
  refine g_ws (ws' := (([(a, .inr (3, [.ref (ad2 0), .null, .null]))] : va_W) ++ ((wB ad2 cI g00) ++ (wHs ha4 hb5 cI cO ((fun _ => g00)) (nI 0) (nI 0))))) rfl ?_
  refine g_putF C (ws' := (([(a, .inr (3, [.ref (ad2 0), .ref (ha4 0), .null]))] : va_W) ++ ((wB ad2 cI g00) ++ (wHs ha4 hb5 cI cO ((fun _ => g00)) (nI 0) (nI 0))))) fl_X3_init_X3 tyX3 tyX3_ok nmX3 0 rfl rfl 1 (by decide) fw_X3_init_fld19 rfl hnm rfl (tyX3_ok 1 (by decide)) rfl rfl (Nat.le_of_ble_eq_true rfl) dX3_init_23 (ws_setl (Nat.le_of_ble_eq_true rfl) rfl) ?_
  refine g_aload_n C dX3_init_26 0 rfl ?_
  refine g_new C fl_X3_init_X2 tyX2 tyX2_ok 2 rfl fw_X3_init_clk23 fw_X3_init_isbX2 fw_X3_init_iniX2 (fs := [.null, .int 0]) (by decide +kernel) ⟨Nat.le_of_ble_eq_true rfl, Nat.le_of_ble_eq_true rfl⟩ dX3_init_27 ?_
  intro q6
  refine g_ws (ws' := (([(a, .inr (3, [.ref (ad2 0), .ref (ha4 0), .null]))] : va_W) ++ ((wB ad2 cI g00) ++ ((wHs ha4 hb5 cI cO ((fun _ => g00)) (nI 0) (nI 0)) ++ ([(q6, .inr (2, [.null, .int 0]))] : va_W))))) rfl ?_
  refine g_dup C dX3_init_30 rfl ?_
  refine g_callI C (c_X2_init l D cI cO q6) gX3_init_X2_init rfl fw_X3_init_iniX2 fw_X3_init_mlX2 fw_X3_init_imX2 rfl ⟨rfl, rfl⟩ hd_X2_init ⟨Nat.le_of_ble_eq_true rfl, Nat.le_of_ble_eq_true rfl⟩ [0, 1] rfl (fun _ _ => trivial) rfl (rest := [.ref q6, .ref a]) rfl (Nat.le_of_ble_eq_true rfl) dX3_init_31 ⟨Nat.le_of_ble_eq_true rfl, Nat.le_of_ble_eq_true rfl⟩ (pre := (([(a, .inr (3, [.ref (ad2 0), .ref (ha4 0), .null]))] : va_W) ++ ((wB ad2 cI g00) ++ (wHs ha4 hb5 cI cO ((fun _ => g00)) (nI 0) (nI 0))))) (post := []) rfl ?_
  intro w9 hw9
  obtain ⟨ta7, rfl, rfl⟩ := hw9
  refine g_ws (ws' := (([(a, .inr (3, [.ref (ad2 0), .ref (ha4 0), .null]))] : va_W) ++ ((wB ad2 cI g00) ++ ((wHs ha4 hb5 cI cO ((fun _ => g00)) (nI 0) (nI 0)) ++ (wT ta7 cI (fun _ => 0) (nI 0)))))) rfl ?_
  refine g_putF C (ws' := (([(a, .inr (3, [.ref (ad2 0), .ref (ha4 0), .ref (ta7 0)]))] : va_W) ++ ((wB ad2 cI g00) ++ ((wHs ha4 hb5 cI cO ((fun _ => g00)) (nI 0) (nI 0)) ++ (wT ta7 cI (fun _ => 0) (nI 0)))))) fl_X3_init_X3 tyX3 tyX3_ok nmX3 0 rfl rfl 2 (by decide) fw_X3_init_fld26 rfl hnm rfl (tyX3_ok 2 (by decide)) rfl rfl (Nat.le_of_ble_eq_true rfl) dX3_init_34 (ws_setl (Nat.le_of_ble_eq_true rfl) rfl) ?_
  refine g_perm [0, 52, 53, 8, 9, 10, 11, 12, 13, 14, 15, 16, 17, 18, 19, 20, 21, 22, 23, 24, 25, 26, 27, 28, 29, 30, 31, 32, 33, 34, 35, 36, 37, 38, 39, 40, 41, 42, 43, 44, 45, 46, 47, 48, 49, 50, 51, 1, 2, 3, 4, 5, 6, 7] (ws' := (wS0 a ad2 ha4 ta7 ++ ((wT ta7 cI (fun _ => 0) (nI 0)) ++ ((wHs ha4 hb5 cI cO ((fun _ => g00)) (nI 0) (nI 0)) ++ (wB ad2 cI g00))))) rfl rfl rfl ?_
  exact g_vretA C hret hlk dX3_init_37 ⟨ta7, ha4, hb5, ad2, rfl⟩
