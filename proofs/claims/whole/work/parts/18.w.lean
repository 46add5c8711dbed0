/-! ===== the law's own methods: they call the class, and tell its exceptions ===== -/
def tyW (cI cO cJ : ClassId) : List (ClassId × FieldType) := [(cI, .int), (cO, .object RX0), (cJ, .long)]
def wO (oa : Nat) (cJ : ClassId) (oj : Nat → Int64) : va_W := [(oa, .inl (cJ, 1, .inr (.inl oj)))]
def cW (F : Vm → Prop) (l : Launch) (y : MethodName) (wsY : List Cond) (rm : Room) (D : va_G) (cl : List vw_C) (tys : List (ClassId × FieldType)) (av : List Value) (wc : va_W) (v : Option Value) (w1 : va_W) : Prop :=
  ∀ sz : Nat, Met l y wsY rm (cPreX F D cl tys av wc sz) (cQ v (cB D cl tys (va_A wc sz) w1) (va_A wc sz)) 1 6 (va_A wc sz)
theorem Met_ofWH {l : Launch} {y : MethodName} {ws ws' : List Cond} {rm : Room} {Pc : Array Value → State → Prop} {Qc : Array Value → State → Outcome → State → Prop} {mc ms : Nat} {free : Addr → Prop} {cc : ByteArray} {maxL : Nat} {ret : Option FieldType} {hh : List (Nat × Nat × Nat × Nat)}
    (hy : plainName y.cls = true) (hw : ws = Cond.codeWith y cc maxL ret hh :: ws')
    (body : ∀ p e s m args below meth c s₁, BodyLoose p l y (headSpec ws rm) cc maxL ret e s m args below meth c s₁ → c.maxLocals = maxL → c.exceptionTable.toList = tableOf hh → Pc args s →
      W p l e (headSpec ws rm).room s m args below meth c s.heap [] 0 0 (MQ below Qc args s mc ms free) (entryFrame m args maxL)) : Met l y ws rm Pc Qc mc ms free := by
  refine MetFree.of_bodyS (code := cc) (maxLocals := maxL) (ret := ret) hy ?_ ?_
  · intro args s m h hn
    obtain ⟨m9, meth, c, hn9, h1, h2, h3, h4, -, h5, h6, -⟩ := Cond.codeWith_spec (atoms_spec (ws := ws) h _ (by rw [hw]; exact List.mem_cons_self))
    cases hn.symm.trans hn9
    exact ⟨meth, c, h1, h2, h3, h4, h5, h6⟩
  · intro p e s m args below meth c s₁ B hml hP _
    have hh0 : s₁.heap = s.heap := by rw [B.state]; rfl
    have ht := vx_table (x := y) B (atoms_spec (ws := ws) B.pre _ (by rw [hw]; exact List.mem_cons_self))
    obtain ⟨t, a1, o, b1, b2, b3⟩ := body p e s m args below meth c s₁ B hml ht hP s₁ hh0 (Stand.of_body B)
    exact ⟨t, o, a1, b1, b2, ⟨b3.1, b3.2⟩⟩
theorem cW_of {F : Vm → Prop} {l : Launch} {y : MethodName} {wsY ws' : List Cond} {rm : Room} {D : va_G} {cl : List vw_C} {tys : List (ClassId × FieldType)} {av : List Value} {wc w1 : va_W} {v : Option Value} {cc : ByteArray} {maxL : Nat} {ret : Option FieldType} {hh : List (Nat × Nat × Nat × Nat)} (hy : plainName y.cls = true) (hw : wsY = Cond.codeWith y cc maxL ret hh :: ws') (hlen : (lg_sl av).length ≤ maxL)
    (body : ∀ (p : Program) (e : Env) (s : State) (m : MethodId) (below : List Frame) (meth : Method) (c : Code) (A : Nat → Prop), gC p s m av.toArray c cc y.cls wsY D cl tys A s.heap maxL → meth.sig.returnType = ret → meth.locks = false → F s.vm → c.exceptionTable.toList = tableOf hh → zF A s s.heap →
      gG p l e rm s m av.toArray below meth c D cl A s.heap maxL (MQ below (cQ v (cB D cl tys A w1) A) av.toArray s 1 6 A) 0 0 wc 0 (lv_args 0 av) []) : cW F l y wsY rm D cl tys av wc v w1 := by
  intro sz
  refine Met_ofWH (cc := cc) (maxL := maxL) (ret := ret) hy hw ?_
  intro p e s m args below meth c s₁ B hml ht hv
  obtain ⟨rfl, hF, hZ, hsz, hP, hK, hD0⟩ := hv
  subst hsz
  have hD := hD0.self (sz := s.heap.size)
  generalize hAe : va_A wc s.heap.size = A at hD hZ ⊢
  have hA : ∀ q : Nat, s.heap.size ≤ q → A q := fun q h => by rw [← hAe]; exact Or.inr h
  have hl := lv_entry av (n := maxL) hlen
  rw [lg_entry_eq]
  exact body p e s m below meth c A ⟨B.exec, B.bytes, hml, findClass_of_methodNamed B.named, atoms_spec (ws := wsY) B.pre, hK, hA⟩ B.returns B.notSynchronized hF ht hZ s.heap [] _ hP hD va_S.rf hl
section GW9
variable {p : Program} {l : Launch} {e : Env} {R : Room} {s : State} {m : MethodId} {args : Array Value} {below : List Frame} {meth : Method} {c : Code} {cc : ByteArray} {own : String} {Ts : List Cond} {D : va_G} {cl : List vw_C} {tys : List (ClassId × FieldType)} {A : Nat → Prop} {H0 : Heap} {nL : Nat} {Q : State → Prop} {k n : Nat} {ws : va_W} {pc : Nat} {lv : List (Nat × Value)} {st : List Value}
theorem g_catch {E name : String} (C : gC p s m args c cc own Ts D cl tys A H0 nL) (pre : List ExceptionTableEntry) (x : ExceptionTableEntry) (suf : List ExceptionTableEntry) (ht : c.exceptionTable.toList = pre ++ x :: suf)
    (hpass : ∀ z ∈ pre, z.catchType ≠ 0 ∧ ∃ nm : String, Cond.classLink own z.catchType nm ∈ Ts ∧ va_Nc E nm s) (hx : covers x pc = true) (h0 : x.catchType ≠ 0) (hlink : Cond.classLink own x.catchType name ∈ Ts) (hcast : va_Nw (.castable E name) s)
    (kk : ∀ q : Nat, gG p l e R s m args below meth c D cl A H0 nL Q k n ws x.handlerPc lv [.ref q]) : gX p l e R s m args below meth c D cl A H0 nL Q k n ws pc lv st E := by
  intro H locs ls q ce hP hD hS hl hce hcv hcl
  exact vx_catch C.2.2.2.1 pre x suf ht (fun z hz => Or.inr ⟨(hpass z hz).1, by obtain ⟨nm, h1, h2⟩ := (hpass z hz).2; exact ⟨nm, C.2.2.2.2.1 _ h1, h2⟩⟩) hx h0 (C.2.2.2.2.1 _ hlink) (va_Nw.use rfl hcast) hce hcv hcl (kk q H locs ls hP hD hS hl)
theorem g_runZ {v : Option Value} {pre wc post w1 ws' : va_W} {rest : List Value} {a : Array Value} {mc ms : Nat} (C : gC p s m args c cc own Ts D cl tys A H0 nL) (hZ : zF A s H0) (hsp : ws = pre ++ (wc ++ post)) (hres : pre ++ (w1 ++ post) = ws') {tysY : List (ClassId × FieldType)}
    (run : ∀ (H : Heap) (locs : List Loc) (ls : Array Slot), va_P D cl wc H → va_D (fun _ => True) wc → lv_has ls nL lv → zF (va_A wc H.size) s H → va_Run p l e R s m args below meth c H locs k n mc ms (F0 m pc ls st) rest (cQ v (cB D cl tysY (va_A wc H.size) w1) (va_A wc H.size) a) (va_A wc H.size))
    (kk : gG p l e R s m args below meth c D cl A H0 nL Q (k + mc) (n + ms) ws' (pc + 3) lv (v.toList ++ rest)) : gG p l e R s m args below meth c D cl A H0 nL Q k n ws pc lv st := by
  subst hsp; subst hres
  intro H locs ls hP hD hS hl T hT X
  have hF := w_free hD hS C.2.2.2.2.2.2
  have hZ2 : zF (va_A wc H.size) s H := ⟨(hZ.1.kept hS.2.1).narrow hF, (hZ.2.kept hS.2.1).narrow hF⟩
  obtain ⟨v', st₀, t, T', L, h0, X', hL, e1, e2, ⟨hv, ⟨hP1, hK1, hD1⟩, hz, hk⟩, go⟩ := run H locs ls (wP_l (wP_r hP)) ((wD_l (wD_r hD)).weaken (fun _ _ _ _ => trivial)) hl hZ2 T hT X
  cases hv
  rw [h0] at hz hk
  have hk' : ∀ q : Nat, q < H.size → ¬ va_A wc H.size q → T'.heap[q]? = H[q]? := fun q h1 h2 => by rw [e1]; exact hk q h1 h2
  obtain ⟨jP, jD⟩ := w_join hP hD hk' hF (by rw [e1]; exact hP1) hD1
  have hS' : va_S A H0 T'.heap (locs ++ L) := ⟨Nat.le_trans hS.1 (by rw [e1]; exact hz), fun q h1 h2 => by rw [hk' q (Nat.lt_of_lt_of_le h1 hS.1) (fun z => h2 (hF q z))]; exact hS.2.1 q h1 h2, fun q hq => by
    rcases List.mem_append.mp hq with h | h
    · exact hS.2.2 q h
    · exact hF _ (hL q h)⟩
  obtain ⟨t2, a1, b1⟩ := kk T'.heap (locs ++ L) ls jP jD hS' hl T' rfl X'
  exact ⟨t2, go t2 a1, b1⟩
theorem g_callSW {F : Vm → Prop} {y : MethodName} {wsY ws9 : List Cond} {rm : Room} {tysY : List (ClassId × FieldType)} {index maxL nA : Nat} {bytes : ByteArray} {ret : Option FieldType} {hh : List (Nat × Nat × Nat × Nat)} {As rest : List Value} {r : Int32} {pre wc post w1 ws' : va_W}
    (C : gC p s m args c cc own Ts D cl tys A H0 nL) (hZ : zF A s H0) (hM : cW F l y wsY rm D cl tysY As wc (some (.int r)) w1) (hG : GoodIn Ts (va_wsS own index y wsY)) (hw : wsY = Cond.codeWith y bytes maxL ret hh :: ws9)
    (hrm : rm.cells = 1 ∧ rm.slots = 6) (hd : y.cls ≠ "java/lang/invoke/MethodHandle" ∧ y.cls ≠ "java/lang/invoke/VarHandle" ∧ (parseMethodDescriptor y.desc).map (fun d => d.parameters.length) = some nA) (hR : rm.frames + 1 ≤ R.frames ∧ 8 + (maxL + 11) + rm.locals ≤ R.locals)
    (isT : List Nat) (hT : isT.filterMap (fun i => tys[i]?) = tysY) (hF : ∀ vm' : Vm, s.WarmedH vm' → F vm') (hn : As.length = nA) (hst : st = As.reverse ++ rest) (hrest : (rest.map fun v => v.category).sum ≤ 8) (d : decode cc pc = .ok (.invokestatic index, 3)) (hc : k + 1 ≤ R.cells ∧ n + 6 ≤ R.slots)
    (hsp : ws = pre ++ (wc ++ post)) (hres : pre ++ (w1 ++ post) = ws')
    (kk : gG p l e R s m args below meth c D cl A H0 nL Q (k + 1) (n + 6) ws' (pc + 3) lv (.int r :: rest)) : gG p l e R s m args below meth c D cl A H0 nL Q k n ws pc lv st := by
  have hK := C.2.2.2.2.2.1.sub isT hT
  exact g_runZ C hZ hsp hres (fun H locs ls hP hD hl hZ2 => vx_runSW (As := As) (rest := rest) ⟨C.1, C.2.1, C.2.2.1, C.2.2.2.1, C.2.2.2.2.1⟩ (hM H.size) (vx_cwSW nA C.2.2.2.2.1 hG hw hrm.1 hrm.2 hd hR) ⟨cPreX_blind _ _ _ _ _ _ _, fun U hU hW => ⟨rfl, hF _ hW, by rw [hU]; exact ⟨vx_Zq.moved hW.alike hZ2.1, vx_Zq.moved hW.alike hZ2.2⟩, by rw [hU], by rw [hU]; exact hP, va_K.moved hW.alike hK, hD⟩⟩ rfl hn hl.1 hst (lv_room hrest) d ⟨hc.1, hc.2⟩) kk
end GW9
theorem hd_X3_move : yX3_move.cls = RX3 ∧ yX3_move.cls ≠ "java/lang/invoke/MethodHandle" ∧ yX3_move.cls ≠ "java/lang/invoke/VarHandle" ∧ (parseMethodDescriptor yX3_move.desc).map (fun d => d.parameters.length) = some 3 := by decide +kernel
abbrev rmW_move : Room := { frames := 3, cells := 1, slots := 6, locals := 70 }
set_option maxHeartbeats 1000000 in
set_option maxRecDepth 100000 in
theorem w_L_move (l : Launch) (hl : l.stackTraces = false) (D : va_G) (cI cO cJ : ClassId) (xa : Nat) (ta ha : Nat → Nat) (hb : Nat → Nat → Nat) (ad : Nat → Nat) (t : Nat → Int32) (n : Nat) (G : Nat → Nat → Int32) (g : Nat → Int32) (o z : Nat) (hn : n ≤ 60) (ho : o < 6) (hz : z ≤ 6) (r : Nat) (hr : r < 9) (f q9 : Int32) (h1 : ¬ f < 0) (h2 : f ≤ 2) (h3 : ¬ q9 < 0) (h4 : q9 ≤ 5) (hm : ¬ xMb g r f q9 = -1) (oa : Nat) (oj : Nat → Int64) : cW sF l yL_move wsL_move rmW_move D vwCl (tyW cI cO cJ) [.ref xa, .int (nI r), .int f, .int q9, .ref oa] ((wS0 xa ad ha ta) ++ ((wT ta cI t (nI n)) ++ ((wHs ha hb cI cO G (nI o) (nI z)) ++ ((wB ad cI g) ++ (wO oa cJ oj))))) (some (.int 0)) ((wS0 xa ad ha ta) ++ ((wT ta cI t (nI n)) ++ ((wHs ha hb cI cO (kG G o z g) (nI (kO o z)) (nI (kM z + 1))) ++ ((wB ad cI (xPl g r f q9 (xMb g r f q9))) ++ (wO oa cJ (vp_updL oj 0 (xMb g r f q9).toInt64)))))) := by
  refine cW_of (cc := cL_move) (maxL := 6) (ret := some .int) (hh := [(0, 12, 15, 13), (0, 12, 19, 15), (0, 12, 23, 17)]) (by decide) rfl (Nat.le_of_ble_eq_true rfl) ?_
  intro p e s m below meth c A C hret hlk hF ht hZ
  refine g_lv [0, 1, 2, 3, 4] (lv' := [(0, .ref xa), (1, .int (nI r)), (2, .int f), (3, .int q9), (4, .ref oa)]) rfl ?_
  refine g_aload C dL_move_0 4 rfl ?_
  refine g_iconst C (v := 0) dL_move_2 ci_0 ?_
  refine g_aload_n C dL_move_3 0 rfl ?_
  refine g_iload_n C dL_move_4 1 rfl ?_
  refine g_iload_n C dL_move_5 2 rfl ?_
  refine g_iload_n C dL_move_6 3 rfl ?_
  refine g_callVi C (c_X3_move l D cI cO xa ta ha hb ad t n G g o z hn ho hz r hr f q9 h1 h2 h3 h4 hm) gL_move_X3_move rfl ⟨rfl, rfl⟩ hd_X3_move ⟨Nat.le_of_ble_eq_true rfl, Nat.le_of_ble_eq_true rfl⟩ [0, 1] rfl (sF_w hF) rfl (rest := [.int 0, .ref oa]) rfl (Nat.le_of_ble_eq_true rfl) dL_move_7 ⟨Nat.zero_le _, Nat.zero_le _⟩ 0 rfl rfl rfl (pre := []) (post := (wO oa cJ oj)) (ws' := ((wS0 xa ad ha ta) ++ ((wT ta cI t (nI n)) ++ ((wHs ha hb cI cO (kG G o z g) (nI (kO o z)) (nI (kM z + 1))) ++ ((wB ad cI (xPl g r f q9 (xMb g r f q9))) ++ (wO oa cJ oj)))))) rfl rfl ?_
  refine g_i2l C (v := (xMb g r f q9).toInt64) dL_move_10 rfl ?_
  refine g_last C (ws' := ((wS0 xa ad ha ta) ++ ((wT ta cI t (nI n)) ++ ((wHs ha hb cI cO (kG G o z g) (nI (kO o z)) (nI (kM z + 1))) ++ ((wB ad cI (xPl g r f q9 (xMb g r f q9))) ++ (wO oa cJ (vp_updL oj 0 ((xMb g r f q9).toInt64)))))))) 54 2 rfl rfl 0 rfl (by decide) (by decide) dL_move_11 (ws_setr (q1 := 53) rfl (ws_setr (q1 := 51) rfl (ws_setr (q1 := 7) rfl (ws_setr (q1 := 0) rfl rfl)))) ?_
  refine g_goto C (tgt := 27) dL_move_12 (by decide) ?_
  refine g_iconst C (v := 0) dL_move_27 ci_0 ?_
  refine g_wid (k' := 1) (n' := 6) (by decide) (by decide) ?_
  exact g_iret C hret hlk dL_move_28 rfl rfl
theorem fw_L_move_cl13 : Cond.classLink RL 13 "java/lang/IndexOutOfBoundsException" ∈ wsL_move := (List.mem_cons_of_mem _ (List.mem_append_left _ (List.mem_append_left _ (List.mem_append_left _ (List.mem_append_left _ (List.mem_append_left _ (List.mem_append_left _ (List.mem_append_left _ (List.mem_of_getElem? (i := 0) rfl)))))))))
abbrev rmW_move_1 : Room := { frames := 8, cells := 1, slots := 6, locals := 128 }
set_option maxHeartbeats 1000000 in
set_option maxRecDepth 100000 in
theorem w_L_move_1 (l : Launch) (hl : l.stackTraces = false) (D : va_G) (cI cO cJ : ClassId) (xa : Nat) (ta ha : Nat → Nat) (hb : Nat → Nat → Nat) (ad : Nat → Nat) (t : Nat → Int32) (n : Nat) (G : Nat → Nat → Int32) (g : Nat → Int32) (o z : Nat) (hn : n ≤ 60) (ho : o < 6) (hz : z ≤ 6) (v f q9 : Int32) (h : v < 0 ∨ ¬ v < 9) (oa : Nat) (oj : Nat → Int64) : cW sF l yL_move wsL_move rmW_move_1 D vwCl (tyW cI cO cJ) [.ref xa, .int v, .int f, .int q9, .ref oa] ((wS0 xa ad ha ta) ++ ((wT ta cI t (nI n)) ++ ((wHs ha hb cI cO G (nI o) (nI z)) ++ ((wB ad cI g) ++ (wO oa cJ oj))))) (some (.int 1)) ((wS0 xa ad ha ta) ++ ((wT ta cI t (nI n)) ++ ((wHs ha hb cI cO G (nI o) (nI z)) ++ ((wB ad cI g) ++ (wO oa cJ oj))))) := by
  refine cW_of (cc := cL_move) (maxL := 6) (ret := some .int) (hh := [(0, 12, 15, 13), (0, 12, 19, 15), (0, 12, 23, 17)]) (by decide) rfl (Nat.le_of_ble_eq_true rfl) ?_
  intro p e s m below meth c A C hret hlk hF ht hZ
  refine g_lv [0, 1, 2, 3, 4] (lv' := [(0, .ref xa), (1, .int v), (2, .int f), (3, .int q9), (4, .ref oa)]) rfl ?_
  refine g_aload C dL_move_0 4 rfl ?_
  refine g_iconst C (v := 0) dL_move_2 ci_0 ?_
  refine g_aload_n C dL_move_3 0 rfl ?_
  refine g_iload_n C dL_move_4 1 rfl ?_
  refine g_iload_n C dL_move_5 2 rfl ?_
  refine g_iload_n C dL_move_6 3 rfl ?_
  refine g_callVT C hZ (t_X3_move_1 l hl D cI cO xa ta ha hb ad t n G g o z hn ho hz v f q9 h) gL_move_X3_move rfl ⟨rfl, rfl⟩ hd_X3_move ⟨Nat.le_of_ble_eq_true rfl, Nat.le_of_ble_eq_true rfl⟩ [0, 1] rfl (sF_w hF) rfl (rest := [.int 0, .ref oa]) rfl (Nat.le_of_ble_eq_true rfl) dL_move_7 ⟨Nat.le_of_ble_eq_true rfl, Nat.le_of_ble_eq_true rfl⟩ 0 rfl rfl rfl (pre := []) (post := (wO oa cJ oj)) rfl ?_
  refine g_catch C (name := xIob) [] ⟨0, 12, 15, 13⟩ [⟨0, 12, 19, 15⟩, ⟨0, 12, 23, 17⟩] (ht.trans rfl) (fun z hz => by cases hz) (by decide) (by decide) fw_L_move_cl13 (sF_cast hF (by decide)) ?_
  intro qx
  refine g_astore C (lv' := [(5, .ref qx), (0, .ref xa), (1, .int v), (2, .int f), (3, .int q9), (4, .ref oa)]) dL_move_15 (by decide) rfl ?_
  refine g_iconst C (v := 1) dL_move_17 ci_1 ?_
  exact g_iret C hret hlk dL_move_18 rfl rfl
theorem fw_L_move_cl15 : Cond.classLink RL 15 "java/lang/IllegalArgumentException" ∈ wsL_move := (List.mem_cons_of_mem _ (List.mem_append_left _ (List.mem_append_left _ (List.mem_append_left _ (List.mem_append_left _ (List.mem_append_left _ (List.mem_append_left _ (List.mem_append_left _ (List.mem_of_getElem? (i := 1) rfl)))))))))
abbrev rmW_move_2 : Room := { frames := 8, cells := 1, slots := 6, locals := 128 }
set_option maxHeartbeats 1000000 in
set_option maxRecDepth 100000 in
theorem w_L_move_2 (l : Launch) (hl : l.stackTraces = false) (D : va_G) (cI cO cJ : ClassId) (xa : Nat) (ta ha : Nat → Nat) (hb : Nat → Nat → Nat) (ad : Nat → Nat) (t : Nat → Int32) (n : Nat) (G : Nat → Nat → Int32) (g : Nat → Int32) (o z : Nat) (hn : n ≤ 60) (ho : o < 6) (hz : z ≤ 6) (r : Nat) (hr : r < 9) (f q9 : Int32) (h : f < 0 ∨ ¬ f ≤ 2) (oa : Nat) (oj : Nat → Int64) : cW sF l yL_move wsL_move rmW_move_2 D vwCl (tyW cI cO cJ) [.ref xa, .int (nI r), .int f, .int q9, .ref oa] ((wS0 xa ad ha ta) ++ ((wT ta cI t (nI n)) ++ ((wHs ha hb cI cO G (nI o) (nI z)) ++ ((wB ad cI g) ++ (wO oa cJ oj))))) (some (.int 2)) ((wS0 xa ad ha ta) ++ ((wT ta cI t (nI n)) ++ ((wHs ha hb cI cO G (nI o) (nI z)) ++ ((wB ad cI g) ++ (wO oa cJ oj))))) := by
  refine cW_of (cc := cL_move) (maxL := 6) (ret := some .int) (hh := [(0, 12, 15, 13), (0, 12, 19, 15), (0, 12, 23, 17)]) (by decide) rfl (Nat.le_of_ble_eq_true rfl) ?_
  intro p e s m below meth c A C hret hlk hF ht hZ
  refine g_lv [0, 1, 2, 3, 4] (lv' := [(0, .ref xa), (1, .int (nI r)), (2, .int f), (3, .int q9), (4, .ref oa)]) rfl ?_
  refine g_aload C dL_move_0 4 rfl ?_
  refine g_iconst C (v := 0) dL_move_2 ci_0 ?_
  refine g_aload_n C dL_move_3 0 rfl ?_
  refine g_iload_n C dL_move_4 1 rfl ?_
  refine g_iload_n C dL_move_5 2 rfl ?_
  refine g_iload_n C dL_move_6 3 rfl ?_
  refine g_callVT C hZ (t_X3_move_2 l hl D cI cO xa ta ha hb ad t n G g o z hn ho hz r hr f q9 h) gL_move_X3_move rfl ⟨rfl, rfl⟩ hd_X3_move ⟨Nat.le_of_ble_eq_true rfl, Nat.le_of_ble_eq_true rfl⟩ [0, 1] rfl (sF_w hF) rfl (rest := [.int 0, .ref oa]) rfl (Nat.le_of_ble_eq_true rfl) dL_move_7 ⟨Nat.le_of_ble_eq_true rfl, Nat.le_of_ble_eq_true rfl⟩ 0 rfl rfl rfl (pre := []) (post := (wO oa cJ oj)) rfl ?_
  refine g_catch C (name := xIae) [⟨0, 12, 15, 13⟩] ⟨0, 12, 19, 15⟩ [⟨0, 12, 23, 17⟩] (ht.trans rfl) (List.forall_mem_cons.mpr ⟨⟨by decide, xIob, fw_L_move_cl13, sF_no hF (by decide) (by decide) (by decide)⟩, (fun z hz => by cases hz)⟩) (by decide) (by decide) fw_L_move_cl15 (sF_cast hF (by decide)) ?_
  intro qx
  refine g_astore C (lv' := [(5, .ref qx), (0, .ref xa), (1, .int (nI r)), (2, .int f), (3, .int q9), (4, .ref oa)]) dL_move_19 (by decide) rfl ?_
  refine g_iconst C (v := 2) dL_move_21 ci_2 ?_
  exact g_iret C hret hlk dL_move_22 rfl rfl
abbrev rmW_move_3 : Room := { frames := 8, cells := 1, slots := 6, locals := 128 }
set_option maxHeartbeats 1000000 in
set_option maxRecDepth 100000 in
theorem w_L_move_3 (l : Launch) (hl : l.stackTraces = false) (D : va_G) (cI cO cJ : ClassId) (xa : Nat) (ta ha : Nat → Nat) (hb : Nat → Nat → Nat) (ad : Nat → Nat) (t : Nat → Int32) (n : Nat) (G : Nat → Nat → Int32) (g : Nat → Int32) (o z : Nat) (hn : n ≤ 60) (ho : o < 6) (hz : z ≤ 6) (r : Nat) (hr : r < 9) (f q9 : Int32) (h1 : ¬ f < 0) (h2 : f ≤ 2) (h : q9 < 0 ∨ ¬ q9 ≤ 5) (oa : Nat) (oj : Nat → Int64) : cW sF l yL_move wsL_move rmW_move_3 D vwCl (tyW cI cO cJ) [.ref xa, .int (nI r), .int f, .int q9, .ref oa] ((wS0 xa ad ha ta) ++ ((wT ta cI t (nI n)) ++ ((wHs ha hb cI cO G (nI o) (nI z)) ++ ((wB ad cI g) ++ (wO oa cJ oj))))) (some (.int 2)) ((wS0 xa ad ha ta) ++ ((wT ta cI t (nI n)) ++ ((wHs ha hb cI cO G (nI o) (nI z)) ++ ((wB ad cI g) ++ (wO oa cJ oj))))) := by
  refine cW_of (cc := cL_move) (maxL := 6) (ret := some .int) (hh := [(0, 12, 15, 13), (0, 12, 19, 15), (0, 12, 23, 17)]) (by decide) rfl (Nat.le_of_ble_eq_true rfl) ?_
  intro p e s m below meth c A C hret hlk hF ht hZ
  refine g_lv [0, 1, 2, 3, 4] (lv' := [(0, .ref xa), (1, .int (nI r)), (2, .int f), (3, .int q9), (4, .ref oa)]) rfl ?_
  refine g_aload C dL_move_0 4 rfl ?_
  refine g_iconst C (v := 0) dL_move_2 ci_0 ?_
  refine g_aload_n C dL_move_3 0 rfl ?_
  refine g_iload_n C dL_move_4 1 rfl ?_
  refine g_iload_n C dL_move_5 2 rfl ?_
  refine g_iload_n C dL_move_6 3 rfl ?_
  refine g_callVT C hZ (t_X3_move_3 l hl D cI cO xa ta ha hb ad t n G g o z hn ho hz r hr f q9 h1 h2 h) gL_move_X3_move rfl ⟨rfl, rfl⟩ hd_X3_move ⟨Nat.le_of_ble_eq_true rfl, Nat.le_of_ble_eq_true rfl⟩ [0, 1] rfl (sF_w hF) rfl (rest := [.int 0, .ref oa]) rfl (Nat.le_of_ble_eq_true rfl) dL_move_7 ⟨Nat.le_of_ble_eq_true rfl, Nat.le_of_ble_eq_true rfl⟩ 0 rfl rfl rfl (pre := []) (post := (wO oa cJ oj)) rfl ?_
  refine g_catch C (name := xIae) [⟨0, 12, 15, 13⟩] ⟨0, 12, 19, 15⟩ [⟨0, 12, 23, 17⟩] (ht.trans rfl) (List.forall_mem_cons.mpr ⟨⟨by decide, xIob, fw_L_move_cl13, sF_no hF (by decide) (by decide) (by decide)⟩, (fun z hz => by cases hz)⟩) (by decide) (by decide) fw_L_move_cl15 (sF_cast hF (by decide)) ?_
  intro qx
  refine g_astore C (lv' := [(5, .ref qx), (0, .ref xa), (1, .int (nI r)), (2, .int f), (3, .int q9), (4, .ref oa)]) dL_move_19 (by decide) rfl ?_
  refine g_iconst C (v := 2) dL_move_21 ci_2 ?_
  exact g_iret C hret hlk dL_move_22 rfl rfl
theorem fw_L_move_cl17 : Cond.classLink RL 17 "java/lang/IllegalStateException" ∈ wsL_move := (List.mem_cons_of_mem _ (List.mem_append_left _ (List.mem_append_left _ (List.mem_append_left _ (List.mem_append_left _ (List.mem_append_left _ (List.mem_append_left _ (List.mem_append_left _ (List.mem_of_getElem? (i := 2) rfl)))))))))
abbrev rmW_move_4 : Room := { frames := 8, cells := 1, slots := 6, locals := 128 }
set_option maxHeartbeats 1000000 in
set_option maxRecDepth 100000 in
theorem w_L_move_4 (l : Launch) (hl : l.stackTraces = false) (D : va_G) (cI cO cJ : ClassId) (xa : Nat) (ta ha : Nat → Nat) (hb : Nat → Nat → Nat) (ad : Nat → Nat) (t : Nat → Int32) (n : Nat) (G : Nat → Nat → Int32) (g : Nat → Int32) (o z : Nat) (hn : n ≤ 60) (ho : o < 6) (hz : z ≤ 6) (r : Nat) (hr : r < 9) (f q9 : Int32) (h1 : ¬ f < 0) (h2 : f ≤ 2) (h3 : ¬ q9 < 0) (h4 : q9 ≤ 5) (h : xMb g r f q9 = -1) (oa : Nat) (oj : Nat → Int64) : cW sF l yL_move wsL_move rmW_move_4 D vwCl (tyW cI cO cJ) [.ref xa, .int (nI r), .int f, .int q9, .ref oa] ((wS0 xa ad ha ta) ++ ((wT ta cI t (nI n)) ++ ((wHs ha hb cI cO G (nI o) (nI z)) ++ ((wB ad cI g) ++ (wO oa cJ oj))))) (some (.int 3)) ((wS0 xa ad ha ta) ++ ((wT ta cI t (nI n)) ++ ((wHs ha hb cI cO G (nI o) (nI z)) ++ ((wB ad cI g) ++ (wO oa cJ oj))))) := by
  refine cW_of (cc := cL_move) (maxL := 6) (ret := some .int) (hh := [(0, 12, 15, 13), (0, 12, 19, 15), (0, 12, 23, 17)]) (by decide) rfl (Nat.le_of_ble_eq_true rfl) ?_
  intro p e s m below meth c A C hret hlk hF ht hZ
  refine g_lv [0, 1, 2, 3, 4] (lv' := [(0, .ref xa), (1, .int (nI r)), (2, .int f), (3, .int q9), (4, .ref oa)]) rfl ?_
  refine g_aload C dL_move_0 4 rfl ?_
  refine g_iconst C (v := 0) dL_move_2 ci_0 ?_
  refine g_aload_n C dL_move_3 0 rfl ?_
  refine g_iload_n C dL_move_4 1 rfl ?_
  refine g_iload_n C dL_move_5 2 rfl ?_
  refine g_iload_n C dL_move_6 3 rfl ?_
  refine g_callVT C hZ (t_X3_move_4 l hl D cI cO xa ta ha hb ad t n G g o z hn ho hz r hr f q9 h1 h2 h3 h4 h) gL_move_X3_move rfl ⟨rfl, rfl⟩ hd_X3_move ⟨Nat.le_of_ble_eq_true rfl, Nat.le_of_ble_eq_true rfl⟩ [0, 1] rfl (sF_w hF) rfl (rest := [.int 0, .ref oa]) rfl (Nat.le_of_ble_eq_true rfl) dL_move_7 ⟨Nat.le_of_ble_eq_true rfl, Nat.le_of_ble_eq_true rfl⟩ 0 rfl rfl rfl (pre := []) (post := (wO oa cJ oj)) rfl ?_
  refine g_catch C (name := xIse) [⟨0, 12, 15, 13⟩, ⟨0, 12, 19, 15⟩] ⟨0, 12, 23, 17⟩ [] (ht.trans rfl) (List.forall_mem_cons.mpr ⟨⟨by decide, xIob, fw_L_move_cl13, sF_no hF (by decide) (by decide) (by decide)⟩, (List.forall_mem_cons.mpr ⟨⟨by decide, xIae, fw_L_move_cl15, sF_no hF (by decide) (by decide) (by decide)⟩, (fun z hz => by cases hz)⟩)⟩) (by decide) (by decide) fw_L_move_cl17 (sF_cast hF (by decide)) ?_
  intro qx
  refine g_astore C (lv' := [(5, .ref qx), (0, .ref xa), (1, .int (nI r)), (2, .int f), (3, .int q9), (4, .ref oa)]) dL_move_23 (by decide) rfl ?_
  refine g_iconst C (v := 3) dL_move_25 ci_3 ?_
  exact g_iret C hret hlk dL_move_26 rfl rfl
theorem hd_X3_stick : yX3_stick.cls = RX3 ∧ yX3_stick.cls ≠ "java/lang/invoke/MethodHandle" ∧ yX3_stick.cls ≠ "java/lang/invoke/VarHandle" ∧ (parseMethodDescriptor yX3_stick.desc).map (fun d => d.parameters.length) = some 2 := by decide +kernel
abbrev rmW_stick : Room := { frames := 3, cells := 1, slots := 6, locals := 66 }
set_option maxHeartbeats 1000000 in
set_option maxRecDepth 100000 in
theorem w_L_stick (l : Launch) (hl : l.stackTraces = false) (D : va_G) (cI cO cJ : ClassId) (xa : Nat) (ta ha : Nat → Nat) (hb : Nat → Nat → Nat) (ad : Nat → Nat) (t : Nat → Int32) (n : Nat) (G : Nat → Nat → Int32) (g : Nat → Int32) (o z : Nat) (hn : n ≤ 60) (ho : o < 6) (hz : z ≤ 6) (r : Nat) (hr : r < 9) (w9 : Int32) (h1 : ¬ w9 < 0) (h2 : w9 ≤ 3) (oa : Nat) (oj : Nat → Int64) : cW sF l yL_stick wsL_stick rmW_stick D vwCl (tyW cI cO cJ) [.ref xa, .int (nI r), .int w9, .ref oa] ((wS0 xa ad ha ta) ++ ((wT ta cI t (nI n)) ++ ((wHs ha hb cI cO G (nI o) (nI z)) ++ ((wB ad cI g) ++ (wO oa cJ oj))))) (some (.int 0)) ((wS0 xa ad ha ta) ++ ((wT ta cI t (nI n)) ++ ((wHs ha hb cI cO (kG G o z g) (nI (kO o z)) (nI (kM z + 1))) ++ ((wB ad cI (upd g (6 * r + 4) w9)) ++ (wO oa cJ (vp_updL oj 0 (g (6 * r + 4)).toInt64)))))) := by
  refine cW_of (cc := cL_stick) (maxL := 5) (ret := some .int) (hh := [(0, 10, 13, 13), (0, 10, 17, 15)]) (by decide) rfl (Nat.le_of_ble_eq_true rfl) ?_
  intro p e s m below meth c A C hret hlk hF ht hZ
  refine g_lv [0, 1, 2, 3] (lv' := [(0, .ref xa), (1, .int (nI r)), (2, .int w9), (3, .ref oa)]) rfl ?_
  refine g_aload_n C dL_stick_0 3 rfl ?_
  refine g_iconst C (v := 0) dL_stick_1 ci_0 ?_
  refine g_aload_n C dL_stick_2 0 rfl ?_
  refine g_iload_n C dL_stick_3 1 rfl ?_
  refine g_iload_n C dL_stick_4 2 rfl ?_
  refine g_callVi C (c_X3_stick l D cI cO xa ta ha hb ad t n G g o z hn ho hz r hr w9 h1 h2) gL_stick_X3_stick rfl ⟨rfl, rfl⟩ hd_X3_stick ⟨Nat.le_of_ble_eq_true rfl, Nat.le_of_ble_eq_true rfl⟩ [0, 1] rfl (sF_w hF) rfl (rest := [.int 0, .ref oa]) rfl (Nat.le_of_ble_eq_true rfl) dL_stick_5 ⟨Nat.zero_le _, Nat.zero_le _⟩ 0 rfl rfl rfl (pre := []) (post := (wO oa cJ oj)) (ws' := ((wS0 xa ad ha ta) ++ ((wT ta cI t (nI n)) ++ ((wHs ha hb cI cO (kG G o z g) (nI (kO o z)) (nI (kM z + 1))) ++ ((wB ad cI (upd g (6 * r + 4) w9)) ++ (wO oa cJ oj)))))) rfl rfl ?_
  refine g_i2l C (v := (g (6 * r + 4)).toInt64) dL_stick_8 rfl ?_
  refine g_last C (ws' := ((wS0 xa ad ha ta) ++ ((wT ta cI t (nI n)) ++ ((wHs ha hb cI cO (kG G o z g) (nI (kO o z)) (nI (kM z + 1))) ++ ((wB ad cI (upd g (6 * r + 4) w9)) ++ (wO oa cJ (vp_updL oj 0 ((g (6 * r + 4)).toInt64)))))))) 54 2 rfl rfl 0 rfl (by decide) (by decide) dL_stick_9 (ws_setr (q1 := 53) rfl (ws_setr (q1 := 51) rfl (ws_setr (q1 := 7) rfl (ws_setr (q1 := 0) rfl rfl)))) ?_
  refine g_goto C (tgt := 21) dL_stick_10 (by decide) ?_
  refine g_iconst C (v := 0) dL_stick_21 ci_0 ?_
  refine g_wid (k' := 1) (n' := 6) (by decide) (by decide) ?_
  exact g_iret C hret hlk dL_stick_22 rfl rfl
theorem fw_L_stick_cl13 : Cond.classLink RL 13 "java/lang/IndexOutOfBoundsException" ∈ wsL_stick := (List.mem_cons_of_mem _ (List.mem_append_left _ (List.mem_append_left _ (List.mem_append_left _ (List.mem_append_left _ (List.mem_append_left _ (List.mem_append_left _ (List.mem_of_getElem? (i := 0) rfl))))))))
abbrev rmW_stick_1 : Room := { frames := 8, cells := 1, slots := 6, locals := 127 }
set_option maxHeartbeats 1000000 in
set_option maxRecDepth 100000 in
theorem w_L_stick_1 (l : Launch) (hl : l.stackTraces = false) (D : va_G) (cI cO cJ : ClassId) (xa : Nat) (ta ha : Nat → Nat) (hb : Nat → Nat → Nat) (ad : Nat → Nat) (t : Nat → Int32) (n : Nat) (G : Nat → Nat → Int32) (g : Nat → Int32) (o z : Nat) (hn : n ≤ 60) (ho : o < 6) (hz : z ≤ 6) (v w9 : Int32) (h : v < 0 ∨ ¬ v < 9) (oa : Nat) (oj : Nat → Int64) : cW sF l yL_stick wsL_stick rmW_stick_1 D vwCl (tyW cI cO cJ) [.ref xa, .int v, .int w9, .ref oa] ((wS0 xa ad ha ta) ++ ((wT ta cI t (nI n)) ++ ((wHs ha hb cI cO G (nI o) (nI z)) ++ ((wB ad cI g) ++ (wO oa cJ oj))))) (some (.int 1)) ((wS0 xa ad ha ta) ++ ((wT ta cI t (nI n)) ++ ((wHs ha hb cI cO G (nI o) (nI z)) ++ ((wB ad cI g) ++ (wO oa cJ oj))))) := by
  refine cW_of (cc := cL_stick) (maxL := 5) (ret := some .int) (hh := [(0, 10, 13, 13), (0, 10, 17, 15)]) (by decide) rfl (Nat.le_of_ble_eq_true rfl) ?_
  intro p e s m below meth c A C hret hlk hF ht hZ
  refine g_lv [0, 1, 2, 3] (lv' := [(0, .ref xa), (1, .int v), (2, .int w9), (3, .ref oa)]) rfl ?_
  refine g_aload_n C dL_stick_0 3 rfl ?_
  refine g_iconst C (v := 0) dL_stick_1 ci_0 ?_
  refine g_aload_n C dL_stick_2 0 rfl ?_
  refine g_iload_n C dL_stick_3 1 rfl ?_
  refine g_iload_n C dL_stick_4 2 rfl ?_
  refine g_callVT C hZ (t_X3_stick_1 l hl D cI cO xa ta ha hb ad t n G g o z hn ho hz v w9 h) gL_stick_X3_stick rfl ⟨rfl, rfl⟩ hd_X3_stick ⟨Nat.le_of_ble_eq_true rfl, Nat.le_of_ble_eq_true rfl⟩ [0, 1] rfl (sF_w hF) rfl (rest := [.int 0, .ref oa]) rfl (Nat.le_of_ble_eq_true rfl) dL_stick_5 ⟨Nat.le_of_ble_eq_true rfl, Nat.le_of_ble_eq_true rfl⟩ 0 rfl rfl rfl (pre := []) (post := (wO oa cJ oj)) rfl ?_
  refine g_catch C (name := xIob) [] ⟨0, 10, 13, 13⟩ [⟨0, 10, 17, 15⟩] (ht.trans rfl) (fun z hz => by cases hz) (by decide) (by decide) fw_L_stick_cl13 (sF_cast hF (by decide)) ?_
  intro qx
  refine g_astore C (lv' := [(4, .ref qx), (0, .ref xa), (1, .int v), (2, .int w9), (3, .ref oa)]) dL_stick_13 (by decide) rfl ?_
  refine g_iconst C (v := 1) dL_stick_15 ci_1 ?_
  exact g_iret C hret hlk dL_stick_16 rfl rfl
theorem fw_L_stick_cl15 : Cond.classLink RL 15 "java/lang/IllegalArgumentException" ∈ wsL_stick := (List.mem_cons_of_mem _ (List.mem_append_left _ (List.mem_append_left _ (List.mem_append_left _ (List.mem_append_left _ (List.mem_append_left _ (List.mem_append_left _ (List.mem_of_getElem? (i := 1) rfl))))))))
abbrev rmW_stick_2 : Room := { frames := 8, cells := 1, slots := 6, locals := 127 }
set_option maxHeartbeats 1000000 in
set_option maxRecDepth 100000 in
theorem w_L_stick_2 (l : Launch) (hl : l.stackTraces = false) (D : va_G) (cI cO cJ : ClassId) (xa : Nat) (ta ha : Nat → Nat) (hb : Nat → Nat → Nat) (ad : Nat → Nat) (t : Nat → Int32) (n : Nat) (G : Nat → Nat → Int32) (g : Nat → Int32) (o z : Nat) (hn : n ≤ 60) (ho : o < 6) (hz : z ≤ 6) (r : Nat) (hr : r < 9) (w9 : Int32) (h : w9 < 0 ∨ ¬ w9 ≤ 3) (oa : Nat) (oj : Nat → Int64) : cW sF l yL_stick wsL_stick rmW_stick_2 D vwCl (tyW cI cO cJ) [.ref xa, .int (nI r), .int w9, .ref oa] ((wS0 xa ad ha ta) ++ ((wT ta cI t (nI n)) ++ ((wHs ha hb cI cO G (nI o) (nI z)) ++ ((wB ad cI g) ++ (wO oa cJ oj))))) (some (.int 2)) ((wS0 xa ad ha ta) ++ ((wT ta cI t (nI n)) ++ ((wHs ha hb cI cO G (nI o) (nI z)) ++ ((wB ad cI g) ++ (wO oa cJ oj))))) := by
  refine cW_of (cc := cL_stick) (maxL := 5) (ret := some .int) (hh := [(0, 10, 13, 13), (0, 10, 17, 15)]) (by decide) rfl (Nat.le_of_ble_eq_true rfl) ?_
  intro p e s m below meth c A C hret hlk hF ht hZ
  refine g_lv [0, 1, 2, 3] (lv' := [(0, .ref xa), (1, .int (nI r)), (2, .int w9), (3, .ref oa)]) rfl ?_
  refine g_aload_n C dL_stick_0 3 rfl ?_
  refine g_iconst C (v := 0) dL_stick_1 ci_0 ?_
  refine g_aload_n C dL_stick_2 0 rfl ?_
  refine g_iload_n C dL_stick_3 1 rfl ?_
  refine g_iload_n C dL_stick_4 2 rfl ?_
  refine g_callVT C hZ (t_X3_stick_2 l hl D cI cO xa ta ha hb ad t n G g o z hn ho hz r hr w9 h) gL_stick_X3_stick rfl ⟨rfl, rfl⟩ hd_X3_stick ⟨Nat.le_of_ble_eq_true rfl, Nat.le_of_ble_eq_true rfl⟩ [0, 1] rfl (sF_w hF) rfl (rest := [.int 0, .ref oa]) rfl (Nat.le_of_ble_eq_true rfl) dL_stick_5 ⟨Nat.le_of_ble_eq_true rfl, Nat.le_of_ble_eq_true rfl⟩ 0 rfl rfl rfl (pre := []) (post := (wO oa cJ oj)) rfl ?_
  refine g_catch C (name := xIae) [⟨0, 10, 13, 13⟩] ⟨0, 10, 17, 15⟩ [] (ht.trans rfl) (List.forall_mem_cons.mpr ⟨⟨by decide, xIob, fw_L_stick_cl13, sF_no hF (by decide) (by decide) (by decide)⟩, (fun z hz => by cases hz)⟩) (by decide) (by decide) fw_L_stick_cl15 (sF_cast hF (by decide)) ?_
  intro qx
  refine g_astore C (lv' := [(4, .ref qx), (0, .ref xa), (1, .int (nI r)), (2, .int w9), (3, .ref oa)]) dL_stick_17 (by decide) rfl ?_
  refine g_iconst C (v := 2) dL_stick_19 ci_2 ?_
  exact g_iret C hret hlk dL_stick_20 rfl rfl
theorem hd_X3_set : yX3_set.cls = RX3 ∧ yX3_set.cls ≠ "java/lang/invoke/MethodHandle" ∧ yX3_set.cls ≠ "java/lang/invoke/VarHandle" ∧ (parseMethodDescriptor yX3_set.desc).map (fun d => d.parameters.length) = some 1 := by decide +kernel
abbrev rmW_set : Room := { frames := 3, cells := 1, slots := 6, locals := 65 }
set_option maxHeartbeats 1000000 in
set_option maxRecDepth 100000 in
theorem w_L_set (l : Launch) (hl : l.stackTraces = false) (D : va_G) (cI cO cJ : ClassId) (xa : Nat) (ta ha : Nat → Nat) (hb : Nat → Nat → Nat) (ad : Nat → Nat) (t : Nat → Int32) (n : Nat) (G : Nat → Nat → Int32) (g : Nat → Int32) (o z : Nat) (hn : n ≤ 60) (ho : o < 6) (hz : z ≤ 6) (v : Int32) (h1 : ¬ v < 0) (h2 : v ≤ 9) (oa : Nat) (oj : Nat → Int64) : cW sF l yL_set wsL_set rmW_set D vwCl (tyW cI cO cJ) [.ref xa, .int v, .ref oa] ((wS0 xa ad ha ta) ++ ((wT ta cI t (nI n)) ++ ((wHs ha hb cI cO G (nI o) (nI z)) ++ ((wB ad cI g) ++ (wO oa cJ oj))))) (some (.int 0)) ((wS0 xa ad ha ta) ++ ((wT ta cI t (nI n)) ++ ((wHs ha hb cI cO (kG G o z g) (nI (kO o z)) (nI (kM z + 1))) ++ ((wB ad cI (upd g 0 v)) ++ (wO oa cJ (vp_updL oj 0 (g 0).toInt64)))))) := by
  refine cW_of (cc := cL_set) (maxL := 4) (ret := some .int) (hh := [(0, 9, 12, 15)]) (by decide) rfl (Nat.le_of_ble_eq_true rfl) ?_
  intro p e s m below meth c A C hret hlk hF ht hZ
  refine g_lv [0, 1, 2] (lv' := [(0, .ref xa), (1, .int v), (2, .ref oa)]) rfl ?_
  refine g_aload_n C dL_set_0 2 rfl ?_
  refine g_iconst C (v := 0) dL_set_1 ci_0 ?_
  refine g_aload_n C dL_set_2 0 rfl ?_
  refine g_iload_n C dL_set_3 1 rfl ?_
  refine g_callVi C (c_X3_set l D cI cO xa ta ha hb ad t n G g o z hn ho hz v h1 h2) gL_set_X3_set rfl ⟨rfl, rfl⟩ hd_X3_set ⟨Nat.le_of_ble_eq_true rfl, Nat.le_of_ble_eq_true rfl⟩ [0, 1] rfl (sF_w hF) rfl (rest := [.int 0, .ref oa]) rfl (Nat.le_of_ble_eq_true rfl) dL_set_4 ⟨Nat.zero_le _, Nat.zero_le _⟩ 0 rfl rfl rfl (pre := []) (post := (wO oa cJ oj)) (ws' := ((wS0 xa ad ha ta) ++ ((wT ta cI t (nI n)) ++ ((wHs ha hb cI cO (kG G o z g) (nI (kO o z)) (nI (kM z + 1))) ++ ((wB ad cI (upd g 0 v)) ++ (wO oa cJ oj)))))) rfl rfl ?_
  refine g_i2l C (v := (g 0).toInt64) dL_set_7 rfl ?_
  refine g_last C (ws' := ((wS0 xa ad ha ta) ++ ((wT ta cI t (nI n)) ++ ((wHs ha hb cI cO (kG G o z g) (nI (kO o z)) (nI (kM z + 1))) ++ ((wB ad cI (upd g 0 v)) ++ (wO oa cJ (vp_updL oj 0 ((g 0).toInt64)))))))) 54 2 rfl rfl 0 rfl (by decide) (by decide) dL_set_8 (ws_setr (q1 := 53) rfl (ws_setr (q1 := 51) rfl (ws_setr (q1 := 7) rfl (ws_setr (q1 := 0) rfl rfl)))) ?_
  refine g_goto C (tgt := 15) dL_set_9 (by decide) ?_
  refine g_iconst C (v := 0) dL_set_15 ci_0 ?_
  refine g_wid (k' := 1) (n' := 6) (by decide) (by decide) ?_
  exact g_iret C hret hlk dL_set_16 rfl rfl
theorem fw_L_set_cl15 : Cond.classLink RL 15 "java/lang/IllegalArgumentException" ∈ wsL_set := (List.mem_cons_of_mem _ (List.mem_append_left _ (List.mem_append_left _ (List.mem_append_left _ (List.mem_append_left _ (List.mem_append_left _ (List.mem_of_getElem? (i := 0) rfl)))))))
abbrev rmW_set_1 : Room := { frames := 8, cells := 1, slots := 6, locals := 126 }
set_option maxHeartbeats 1000000 in
set_option maxRecDepth 100000 in
theorem w_L_set_1 (l : Launch) (hl : l.stackTraces = false) (D : va_G) (cI cO cJ : ClassId) (xa : Nat) (ta ha : Nat → Nat) (hb : Nat → Nat → Nat) (ad : Nat → Nat) (t : Nat → Int32) (n : Nat) (G : Nat → Nat → Int32) (g : Nat → Int32) (o z : Nat) (hn : n ≤ 60) (ho : o < 6) (hz : z ≤ 6) (v : Int32) (h : v < 0 ∨ ¬ v ≤ 9) (oa : Nat) (oj : Nat → Int64) : cW sF l yL_set wsL_set rmW_set_1 D vwCl (tyW cI cO cJ) [.ref xa, .int v, .ref oa] ((wS0 xa ad ha ta) ++ ((wT ta cI t (nI n)) ++ ((wHs ha hb cI cO G (nI o) (nI z)) ++ ((wB ad cI g) ++ (wO oa cJ oj))))) (some (.int 1)) ((wS0 xa ad ha ta) ++ ((wT ta cI t (nI n)) ++ ((wHs ha hb cI cO G (nI o) (nI z)) ++ ((wB ad cI g) ++ (wO oa cJ oj))))) := by
  refine cW_of (cc := cL_set) (maxL := 4) (ret := some .int) (hh := [(0, 9, 12, 15)]) (by decide) rfl (Nat.le_of_ble_eq_true rfl) ?_
  intro p e s m below meth c A C hret hlk hF ht hZ
  refine g_lv [0, 1, 2] (lv' := [(0, .ref xa), (1, .int v), (2, .ref oa)]) rfl ?_
  refine g_aload_n C dL_set_0 2 rfl ?_
  refine g_iconst C (v := 0) dL_set_1 ci_0 ?_
  refine g_aload_n C dL_set_2 0 rfl ?_
  refine g_iload_n C dL_set_3 1 rfl ?_
  refine g_callVT C hZ (t_X3_set_1 l hl D cI cO xa ta ha hb ad t n G g o z hn ho hz v h) gL_set_X3_set rfl ⟨rfl, rfl⟩ hd_X3_set ⟨Nat.le_of_ble_eq_true rfl, Nat.le_of_ble_eq_true rfl⟩ [0, 1] rfl (sF_w hF) rfl (rest := [.int 0, .ref oa]) rfl (Nat.le_of_ble_eq_true rfl) dL_set_4 ⟨Nat.le_of_ble_eq_true rfl, Nat.le_of_ble_eq_true rfl⟩ 0 rfl rfl rfl (pre := []) (post := (wO oa cJ oj)) rfl ?_
  refine g_catch C (name := xIae) [] ⟨0, 9, 12, 15⟩ [] (ht.trans rfl) (fun z hz => by cases hz) (by decide) (by decide) fw_L_set_cl15 (sF_cast hF (by decide)) ?_
  intro qx
  refine g_astore_n C (lv' := [(3, .ref qx), (0, .ref xa), (1, .int v), (2, .ref oa)]) dL_set_12 rfl (by decide) rfl ?_
  refine g_iconst C (v := 1) dL_set_13 ci_1 ?_
  exact g_iret C hret hlk dL_set_14 rfl rfl
theorem hd_X3_add : yX3_add.cls = RX3 ∧ yX3_add.cls ≠ "java/lang/invoke/MethodHandle" ∧ yX3_add.cls ≠ "java/lang/invoke/VarHandle" ∧ (parseMethodDescriptor yX3_add.desc).map (fun d => d.parameters.length) = some 2 := by decide +kernel
abbrev rmW_add : Room := { frames := 7, cells := 1, slots := 6, locals := 169 }
set_option maxHeartbeats 1000000 in
set_option maxRecDepth 100000 in
theorem w_L_add (l : Launch) (hl : l.stackTraces = false) (D : va_G) (cI cO cJ : ClassId) (xa : Nat) (ta ha : Nat → Nat) (hb : Nat → Nat → Nat) (ad : Nat → Nat) (t : Nat → Int32) (n : Nat) (G : Nat → Nat → Int32) (g : Nat → Int32) (o z : Nat) (hn : n ≤ 60) (ho : o < 6) (hz : z ≤ 6) (r : Nat) (hr : r < 9) (n9 : Int32) (h1 : ¬ n9 < 1) (h2 : n9 ≤ 9) (hm : ¬ (xCh g r (n9) 0).1 = -1) (oa : Nat) (oj : Nat → Int64) : cW sF l yL_add wsL_add rmW_add D vwCl (tyW cI cO cJ) [.ref xa, .int (nI r), .int n9, .ref oa] ((wS0 xa ad ha ta) ++ ((wT ta cI t (nI n)) ++ ((wHs ha hb cI cO G (nI o) (nI z)) ++ ((wB ad cI g) ++ (wO oa cJ oj))))) (some (.int 0)) ((wS0 xa ad ha ta) ++ ((wT ta cI t (nI n)) ++ ((wHs ha hb cI cO (kG G o z g) (nI (kO o z)) (nI (kM z + 1))) ++ ((wB ad cI ((xCh g r (n9) 1).2)) ++ (wO oa cJ (vp_updL oj 0 ((xCh g r (n9) 1).1).toInt64)))))) := by
  refine cW_of (cc := cL_add) (maxL := 5) (ret := some .int) (hh := [(0, 10, 13, 13), (0, 10, 17, 15), (0, 10, 21, 17)]) (by decide) rfl (Nat.le_of_ble_eq_true rfl) ?_
  intro p e s m below meth c A C hret hlk hF ht hZ
  refine g_lv [0, 1, 2, 3] (lv' := [(0, .ref xa), (1, .int (nI r)), (2, .int n9), (3, .ref oa)]) rfl ?_
  refine g_aload_n C dL_add_0 3 rfl ?_
  refine g_iconst C (v := 0) dL_add_1 ci_0 ?_
  refine g_aload_n C dL_add_2 0 rfl ?_
  refine g_iload_n C dL_add_3 1 rfl ?_
  refine g_iload_n C dL_add_4 2 rfl ?_
  refine g_callVi C (c_X3_add l D cI cO xa ta ha hb ad t n G g o z hn ho hz r hr n9 h1 h2 hm) gL_add_X3_add rfl ⟨rfl, rfl⟩ hd_X3_add ⟨Nat.le_of_ble_eq_true rfl, Nat.le_of_ble_eq_true rfl⟩ [0, 1] rfl (sF_w hF) rfl (rest := [.int 0, .ref oa]) rfl (Nat.le_of_ble_eq_true rfl) dL_add_5 ⟨Nat.zero_le _, Nat.zero_le _⟩ 0 rfl rfl rfl (pre := []) (post := (wO oa cJ oj)) (ws' := ((wS0 xa ad ha ta) ++ ((wT ta cI t (nI n)) ++ ((wHs ha hb cI cO (kG G o z g) (nI (kO o z)) (nI (kM z + 1))) ++ ((wB ad cI ((xCh g r (n9) 1).2)) ++ (wO oa cJ oj)))))) rfl rfl ?_
  refine g_i2l C (v := ((xCh g r (n9) 1).1).toInt64) dL_add_8 rfl ?_
  refine g_last C (ws' := ((wS0 xa ad ha ta) ++ ((wT ta cI t (nI n)) ++ ((wHs ha hb cI cO (kG G o z g) (nI (kO o z)) (nI (kM z + 1))) ++ ((wB ad cI ((xCh g r (n9) 1).2)) ++ (wO oa cJ (vp_updL oj 0 (((xCh g r (n9) 1).1).toInt64)))))))) 54 2 rfl rfl 0 rfl (by decide) (by decide) dL_add_9 (ws_setr (q1 := 53) rfl (ws_setr (q1 := 51) rfl (ws_setr (q1 := 7) rfl (ws_setr (q1 := 0) rfl rfl)))) ?_
  refine g_goto C (tgt := 25) dL_add_10 (by decide) ?_
  refine g_iconst C (v := 0) dL_add_25 ci_0 ?_
  refine g_wid (k' := 1) (n' := 6) (by decide) (by decide) ?_
  exact g_iret C hret hlk dL_add_26 rfl rfl
theorem fw_L_add_cl13 : Cond.classLink RL 13 "java/lang/IndexOutOfBoundsException" ∈ wsL_add := (List.mem_cons_of_mem _ (List.mem_append_left _ (List.mem_append_left _ (List.mem_append_left _ (List.mem_append_left _ (List.mem_append_left _ (List.mem_append_left _ (List.mem_append_left _ (List.mem_of_getElem? (i := 0) rfl)))))))))
abbrev rmW_add_1 : Room := { frames := 8, cells := 1, slots := 6, locals := 169 }
set_option maxHeartbeats 1000000 in
set_option maxRecDepth 100000 in
theorem w_L_add_1 (l : Launch) (hl : l.stackTraces = false) (D : va_G) (cI cO cJ : ClassId) (xa : Nat) (ta ha : Nat → Nat) (hb : Nat → Nat → Nat) (ad : Nat → Nat) (t : Nat → Int32) (n : Nat) (G : Nat → Nat → Int32) (g : Nat → Int32) (o z : Nat) (hn : n ≤ 60) (ho : o < 6) (hz : z ≤ 6) (v n9 : Int32) (h : v < 0 ∨ ¬ v < 9) (oa : Nat) (oj : Nat → Int64) : cW sF l yL_add wsL_add rmW_add_1 D vwCl (tyW cI cO cJ) [.ref xa, .int v, .int n9, .ref oa] ((wS0 xa ad ha ta) ++ ((wT ta cI t (nI n)) ++ ((wHs ha hb cI cO G (nI o) (nI z)) ++ ((wB ad cI g) ++ (wO oa cJ oj))))) (some (.int 1)) ((wS0 xa ad ha ta) ++ ((wT ta cI t (nI n)) ++ ((wHs ha hb cI cO G (nI o) (nI z)) ++ ((wB ad cI g) ++ (wO oa cJ oj))))) := by
  refine cW_of (cc := cL_add) (maxL := 5) (ret := some .int) (hh := [(0, 10, 13, 13), (0, 10, 17, 15), (0, 10, 21, 17)]) (by decide) rfl (Nat.le_of_ble_eq_true rfl) ?_
  intro p e s m below meth c A C hret hlk hF ht hZ
  refine g_lv [0, 1, 2, 3] (lv' := [(0, .ref xa), (1, .int v), (2, .int n9), (3, .ref oa)]) rfl ?_
  refine g_aload_n C dL_add_0 3 rfl ?_
  refine g_iconst C (v := 0) dL_add_1 ci_0 ?_
  refine g_aload_n C dL_add_2 0 rfl ?_
  refine g_iload_n C dL_add_3 1 rfl ?_
  refine g_iload_n C dL_add_4 2 rfl ?_
  refine g_callVT C hZ (t_X3_add_1 l hl D cI cO xa ta ha hb ad t n G g o z hn ho hz v n9 h) gL_add_X3_add rfl ⟨rfl, rfl⟩ hd_X3_add ⟨Nat.le_of_ble_eq_true rfl, Nat.le_of_ble_eq_true rfl⟩ [0, 1] rfl (sF_w hF) rfl (rest := [.int 0, .ref oa]) rfl (Nat.le_of_ble_eq_true rfl) dL_add_5 ⟨Nat.le_of_ble_eq_true rfl, Nat.le_of_ble_eq_true rfl⟩ 0 rfl rfl rfl (pre := []) (post := (wO oa cJ oj)) rfl ?_
  refine g_catch C (name := xIob) [] ⟨0, 10, 13, 13⟩ [⟨0, 10, 17, 15⟩, ⟨0, 10, 21, 17⟩] (ht.trans rfl) (fun z hz => by cases hz) (by decide) (by decide) fw_L_add_cl13 (sF_cast hF (by decide)) ?_
  intro qx
  refine g_astore C (lv' := [(4, .ref qx), (0, .ref xa), (1, .int v), (2, .int n9), (3, .ref oa)]) dL_add_13 (by decide) rfl ?_
  refine g_iconst C (v := 1) dL_add_15 ci_1 ?_
  exact g_iret C hret hlk dL_add_16 rfl rfl
theorem fw_L_add_cl15 : Cond.classLink RL 15 "java/lang/IllegalArgumentException" ∈ wsL_add := (List.mem_cons_of_mem _ (List.mem_append_left _ (List.mem_append_left _ (List.mem_append_left _ (List.mem_append_left _ (List.mem_append_left _ (List.mem_append_left _ (List.mem_append_left _ (List.mem_of_getElem? (i := 1) rfl)))))))))
abbrev rmW_add_2 : Room := { frames := 8, cells := 1, slots := 6, locals := 169 }
set_option maxHeartbeats 1000000 in
set_option maxRecDepth 100000 in
theorem w_L_add_2 (l : Launch) (hl : l.stackTraces = false) (D : va_G) (cI cO cJ : ClassId) (xa : Nat) (ta ha : Nat → Nat) (hb : Nat → Nat → Nat) (ad : Nat → Nat) (t : Nat → Int32) (n : Nat) (G : Nat → Nat → Int32) (g : Nat → Int32) (o z : Nat) (hn : n ≤ 60) (ho : o < 6) (hz : z ≤ 6) (r : Nat) (hr : r < 9) (n9 : Int32) (h : n9 < 1 ∨ ¬ n9 ≤ 9) (oa : Nat) (oj : Nat → Int64) : cW sF l yL_add wsL_add rmW_add_2 D vwCl (tyW cI cO cJ) [.ref xa, .int (nI r), .int n9, .ref oa] ((wS0 xa ad ha ta) ++ ((wT ta cI t (nI n)) ++ ((wHs ha hb cI cO G (nI o) (nI z)) ++ ((wB ad cI g) ++ (wO oa cJ oj))))) (some (.int 2)) ((wS0 xa ad ha ta) ++ ((wT ta cI t (nI n)) ++ ((wHs ha hb cI cO G (nI o) (nI z)) ++ ((wB ad cI g) ++ (wO oa cJ oj))))) := by
  refine cW_of (cc := cL_add) (maxL := 5) (ret := some .int) (hh := [(0, 10, 13, 13), (0, 10, 17, 15), (0, 10, 21, 17)]) (by decide) rfl (Nat.le_of_ble_eq_true rfl) ?_
  intro p e s m below meth c A C hret hlk hF ht hZ
  refine g_lv [0, 1, 2, 3] (lv' := [(0, .ref xa), (1, .int (nI r)), (2, .int n9), (3, .ref oa)]) rfl ?_
  refine g_aload_n C dL_add_0 3 rfl ?_
  refine g_iconst C (v := 0) dL_add_1 ci_0 ?_
  refine g_aload_n C dL_add_2 0 rfl ?_
  refine g_iload_n C dL_add_3 1 rfl ?_
  refine g_iload_n C dL_add_4 2 rfl ?_
  refine g_callVT C hZ (t_X3_add_2 l hl D cI cO xa ta ha hb ad t n G g o z hn ho hz r hr n9 h) gL_add_X3_add rfl ⟨rfl, rfl⟩ hd_X3_add ⟨Nat.le_of_ble_eq_true rfl, Nat.le_of_ble_eq_true rfl⟩ [0, 1] rfl (sF_w hF) rfl (rest := [.int 0, .ref oa]) rfl (Nat.le_of_ble_eq_true rfl) dL_add_5 ⟨Nat.le_of_ble_eq_true rfl, Nat.le_of_ble_eq_true rfl⟩ 0 rfl rfl rfl (pre := []) (post := (wO oa cJ oj)) rfl ?_
  refine g_catch C (name := xIae) [⟨0, 10, 13, 13⟩] ⟨0, 10, 17, 15⟩ [⟨0, 10, 21, 17⟩] (ht.trans rfl) (List.forall_mem_cons.mpr ⟨⟨by decide, xIob, fw_L_add_cl13, sF_no hF (by decide) (by decide) (by decide)⟩, (fun z hz => by cases hz)⟩) (by decide) (by decide) fw_L_add_cl15 (sF_cast hF (by decide)) ?_
  intro qx
  refine g_astore C (lv' := [(4, .ref qx), (0, .ref xa), (1, .int (nI r)), (2, .int n9), (3, .ref oa)]) dL_add_17 (by decide) rfl ?_
  refine g_iconst C (v := 2) dL_add_19 ci_2 ?_
  exact g_iret C hret hlk dL_add_20 rfl rfl
theorem fw_L_add_cl17 : Cond.classLink RL 17 "java/lang/IllegalStateException" ∈ wsL_add := (List.mem_cons_of_mem _ (List.mem_append_left _ (List.mem_append_left _ (List.mem_append_left _ (List.mem_append_left _ (List.mem_append_left _ (List.mem_append_left _ (List.mem_append_left _ (List.mem_of_getElem? (i := 2) rfl)))))))))
abbrev rmW_add_3 : Room := { frames := 8, cells := 1, slots := 6, locals := 169 }
set_option maxHeartbeats 1000000 in
set_option maxRecDepth 100000 in
theorem w_L_add_3 (l : Launch) (hl : l.stackTraces = false) (D : va_G) (cI cO cJ : ClassId) (xa : Nat) (ta ha : Nat → Nat) (hb : Nat → Nat → Nat) (ad : Nat → Nat) (t : Nat → Int32) (n : Nat) (G : Nat → Nat → Int32) (g : Nat → Int32) (o z : Nat) (hn : n ≤ 60) (ho : o < 6) (hz : z ≤ 6) (r : Nat) (hr : r < 9) (n9 : Int32) (h1 : ¬ n9 < 1) (h2 : n9 ≤ 9) (h : (xCh g r (n9) 0).1 = -1) (oa : Nat) (oj : Nat → Int64) : cW sF l yL_add wsL_add rmW_add_3 D vwCl (tyW cI cO cJ) [.ref xa, .int (nI r), .int n9, .ref oa] ((wS0 xa ad ha ta) ++ ((wT ta cI t (nI n)) ++ ((wHs ha hb cI cO G (nI o) (nI z)) ++ ((wB ad cI g) ++ (wO oa cJ oj))))) (some (.int 3)) ((wS0 xa ad ha ta) ++ ((wT ta cI t (nI n)) ++ ((wHs ha hb cI cO G (nI o) (nI z)) ++ ((wB ad cI g) ++ (wO oa cJ oj))))) := by
  refine cW_of (cc := cL_add) (maxL := 5) (ret := some .int) (hh := [(0, 10, 13, 13), (0, 10, 17, 15), (0, 10, 21, 17)]) (by decide) rfl (Nat.le_of_ble_eq_true rfl) ?_
  intro p e s m below meth c A C hret hlk hF ht hZ
  refine g_lv [0, 1, 2, 3] (lv' := [(0, .ref xa), (1, .int (nI r)), (2, .int n9), (3, .ref oa)]) rfl ?_
  refine g_aload_n C dL_add_0 3 rfl ?_
  refine g_iconst C (v := 0) dL_add_1 ci_0 ?_
  refine g_aload_n C dL_add_2 0 rfl ?_
  refine g_iload_n C dL_add_3 1 rfl ?_
  refine g_iload_n C dL_add_4 2 rfl ?_
  refine g_callVT C hZ (t_X3_add_3 l hl D cI cO xa ta ha hb ad t n G g o z hn ho hz r hr n9 h1 h2 h) gL_add_X3_add rfl ⟨rfl, rfl⟩ hd_X3_add ⟨Nat.le_of_ble_eq_true rfl, Nat.le_of_ble_eq_true rfl⟩ [0, 1] rfl (sF_w hF) rfl (rest := [.int 0, .ref oa]) rfl (Nat.le_of_ble_eq_true rfl) dL_add_5 ⟨Nat.le_of_ble_eq_true rfl, Nat.le_of_ble_eq_true rfl⟩ 0 rfl rfl rfl (pre := []) (post := (wO oa cJ oj)) rfl ?_
  refine g_catch C (name := xIse) [⟨0, 10, 13, 13⟩, ⟨0, 10, 17, 15⟩] ⟨0, 10, 21, 17⟩ [] (ht.trans rfl) (List.forall_mem_cons.mpr ⟨⟨by decide, xIob, fw_L_add_cl13, sF_no hF (by decide) (by decide) (by decide)⟩, (List.forall_mem_cons.mpr ⟨⟨by decide, xIae, fw_L_add_cl15, sF_no hF (by decide) (by decide) (by decide)⟩, (fun z hz => by cases hz)⟩)⟩) (by decide) (by decide) fw_L_add_cl17 (sF_cast hF (by decide)) ?_
  intro qx
  refine g_astore C (lv' := [(4, .ref qx), (0, .ref xa), (1, .int (nI r)), (2, .int n9), (3, .ref oa)]) dL_add_21 (by decide) rfl ?_
  refine g_iconst C (v := 3) dL_add_23 ci_3 ?_
  exact g_iret C hret hlk dL_add_24 rfl rfl
theorem hd_X3_less : yX3_less.cls = RX3 ∧ yX3_less.cls ≠ "java/lang/invoke/MethodHandle" ∧ yX3_less.cls ≠ "java/lang/invoke/VarHandle" ∧ (parseMethodDescriptor yX3_less.desc).map (fun d => d.parameters.length) = some 2 := by decide +kernel
abbrev rmW_less : Room := { frames := 7, cells := 1, slots := 6, locals := 169 }
set_option maxHeartbeats 1000000 in
set_option maxRecDepth 100000 in
theorem w_L_less (l : Launch) (hl : l.stackTraces = false) (D : va_G) (cI cO cJ : ClassId) (xa : Nat) (ta ha : Nat → Nat) (hb : Nat → Nat → Nat) (ad : Nat → Nat) (t : Nat → Int32) (n : Nat) (G : Nat → Nat → Int32) (g : Nat → Int32) (o z : Nat) (hn : n ≤ 60) (ho : o < 6) (hz : z ≤ 6) (r : Nat) (hr : r < 9) (n9 : Int32) (h1 : ¬ n9 < 1) (h2 : n9 ≤ 9) (hm : ¬ (xCh g r (-n9) 0).1 = -1) (oa : Nat) (oj : Nat → Int64) : cW sF l yL_less wsL_less rmW_less D vwCl (tyW cI cO cJ) [.ref xa, .int (nI r), .int n9, .ref oa] ((wS0 xa ad ha ta) ++ ((wT ta cI t (nI n)) ++ ((wHs ha hb cI cO G (nI o) (nI z)) ++ ((wB ad cI g) ++ (wO oa cJ oj))))) (some (.int 0)) ((wS0 xa ad ha ta) ++ ((wT ta cI t (nI n)) ++ ((wHs ha hb cI cO (kG G o z g) (nI (kO o z)) (nI (kM z + 1))) ++ ((wB ad cI ((xCh g r (-n9) 1).2)) ++ (wO oa cJ (vp_updL oj 0 ((xCh g r (-n9) 1).1).toInt64)))))) := by
  refine cW_of (cc := cL_less) (maxL := 5) (ret := some .int) (hh := [(0, 10, 13, 13), (0, 10, 17, 15), (0, 10, 21, 17)]) (by decide) rfl (Nat.le_of_ble_eq_true rfl) ?_
  intro p e s m below meth c A C hret hlk hF ht hZ
  refine g_lv [0, 1, 2, 3] (lv' := [(0, .ref xa), (1, .int (nI r)), (2, .int n9), (3, .ref oa)]) rfl ?_
  refine g_aload_n C dL_less_0 3 rfl ?_
  refine g_iconst C (v := 0) dL_less_1 ci_0 ?_
  refine g_aload_n C dL_less_2 0 rfl ?_
  refine g_iload_n C dL_less_3 1 rfl ?_
  refine g_iload_n C dL_less_4 2 rfl ?_
  refine g_callVi C (c_X3_less l D cI cO xa ta ha hb ad t n G g o z hn ho hz r hr n9 h1 h2 hm) gL_less_X3_less rfl ⟨rfl, rfl⟩ hd_X3_less ⟨Nat.le_of_ble_eq_true rfl, Nat.le_of_ble_eq_true rfl⟩ [0, 1] rfl (sF_w hF) rfl (rest := [.int 0, .ref oa]) rfl (Nat.le_of_ble_eq_true rfl) dL_less_5 ⟨Nat.zero_le _, Nat.zero_le _⟩ 0 rfl rfl rfl (pre := []) (post := (wO oa cJ oj)) (ws' := ((wS0 xa ad ha ta) ++ ((wT ta cI t (nI n)) ++ ((wHs ha hb cI cO (kG G o z g) (nI (kO o z)) (nI (kM z + 1))) ++ ((wB ad cI ((xCh g r (-n9) 1).2)) ++ (wO oa cJ oj)))))) rfl rfl ?_
  refine g_i2l C (v := ((xCh g r (-n9) 1).1).toInt64) dL_less_8 rfl ?_
  refine g_last C (ws' := ((wS0 xa ad ha ta) ++ ((wT ta cI t (nI n)) ++ ((wHs ha hb cI cO (kG G o z g) (nI (kO o z)) (nI (kM z + 1))) ++ ((wB ad cI ((xCh g r (-n9) 1).2)) ++ (wO oa cJ (vp_updL oj 0 (((xCh g r (-n9) 1).1).toInt64)))))))) 54 2 rfl rfl 0 rfl (by decide) (by decide) dL_less_9 (ws_setr (q1 := 53) rfl (ws_setr (q1 := 51) rfl (ws_setr (q1 := 7) rfl (ws_setr (q1 := 0) rfl rfl)))) ?_
  refine g_goto C (tgt := 25) dL_less_10 (by decide) ?_
  refine g_iconst C (v := 0) dL_less_25 ci_0 ?_
  refine g_wid (k' := 1) (n' := 6) (by decide) (by decide) ?_
  exact g_iret C hret hlk dL_less_26 rfl rfl
theorem fw_L_less_cl13 : Cond.classLink RL 13 "java/lang/IndexOutOfBoundsException" ∈ wsL_less := (List.mem_cons_of_mem _ (List.mem_append_left _ (List.mem_append_left _ (List.mem_append_left _ (List.mem_append_left _ (List.mem_append_left _ (List.mem_append_left _ (List.mem_append_left _ (List.mem_of_getElem? (i := 0) rfl)))))))))
abbrev rmW_less_1 : Room := { frames := 8, cells := 1, slots := 6, locals := 169 }
set_option maxHeartbeats 1000000 in
set_option maxRecDepth 100000 in
theorem w_L_less_1 (l : Launch) (hl : l.stackTraces = false) (D : va_G) (cI cO cJ : ClassId) (xa : Nat) (ta ha : Nat → Nat) (hb : Nat → Nat → Nat) (ad : Nat → Nat) (t : Nat → Int32) (n : Nat) (G : Nat → Nat → Int32) (g : Nat → Int32) (o z : Nat) (hn : n ≤ 60) (ho : o < 6) (hz : z ≤ 6) (v n9 : Int32) (h : v < 0 ∨ ¬ v < 9) (oa : Nat) (oj : Nat → Int64) : cW sF l yL_less wsL_less rmW_less_1 D vwCl (tyW cI cO cJ) [.ref xa, .int v, .int n9, .ref oa] ((wS0 xa ad ha ta) ++ ((wT ta cI t (nI n)) ++ ((wHs ha hb cI cO G (nI o) (nI z)) ++ ((wB ad cI g) ++ (wO oa cJ oj))))) (some (.int 1)) ((wS0 xa ad ha ta) ++ ((wT ta cI t (nI n)) ++ ((wHs ha hb cI cO G (nI o) (nI z)) ++ ((wB ad cI g) ++ (wO oa cJ oj))))) := by
  refine cW_of (cc := cL_less) (maxL := 5) (ret := some .int) (hh := [(0, 10, 13, 13), (0, 10, 17, 15), (0, 10, 21, 17)]) (by decide) rfl (Nat.le_of_ble_eq_true rfl) ?_
  intro p e s m below meth c A C hret hlk hF ht hZ
  refine g_lv [0, 1, 2, 3] (lv' := [(0, .ref xa), (1, .int v), (2, .int n9), (3, .ref oa)]) rfl ?_
  refine g_aload_n C dL_less_0 3 rfl ?_
  refine g_iconst C (v := 0) dL_less_1 ci_0 ?_
  refine g_aload_n C dL_less_2 0 rfl ?_
  refine g_iload_n C dL_less_3 1 rfl ?_
  refine g_iload_n C dL_less_4 2 rfl ?_
  refine g_callVT C hZ (t_X3_less_1 l hl D cI cO xa ta ha hb ad t n G g o z hn ho hz v n9 h) gL_less_X3_less rfl ⟨rfl, rfl⟩ hd_X3_less ⟨Nat.le_of_ble_eq_true rfl, Nat.le_of_ble_eq_true rfl⟩ [0, 1] rfl (sF_w hF) rfl (rest := [.int 0, .ref oa]) rfl (Nat.le_of_ble_eq_true rfl) dL_less_5 ⟨Nat.le_of_ble_eq_true rfl, Nat.le_of_ble_eq_true rfl⟩ 0 rfl rfl rfl (pre := []) (post := (wO oa cJ oj)) rfl ?_
  refine g_catch C (name := xIob) [] ⟨0, 10, 13, 13⟩ [⟨0, 10, 17, 15⟩, ⟨0, 10, 21, 17⟩] (ht.trans rfl) (fun z hz => by cases hz) (by decide) (by decide) fw_L_less_cl13 (sF_cast hF (by decide)) ?_
  intro qx
  refine g_astore C (lv' := [(4, .ref qx), (0, .ref xa), (1, .int v), (2, .int n9), (3, .ref oa)]) dL_less_13 (by decide) rfl ?_
  refine g_iconst C (v := 1) dL_less_15 ci_1 ?_
  exact g_iret C hret hlk dL_less_16 rfl rfl
theorem fw_L_less_cl15 : Cond.classLink RL 15 "java/lang/IllegalArgumentException" ∈ wsL_less := (List.mem_cons_of_mem _ (List.mem_append_left _ (List.mem_append_left _ (List.mem_append_left _ (List.mem_append_left _ (List.mem_append_left _ (List.mem_append_left _ (List.mem_append_left _ (List.mem_of_getElem? (i := 1) rfl)))))))))
abbrev rmW_less_2 : Room := { frames := 8, cells := 1, slots := 6, locals := 169 }
set_option maxHeartbeats 1000000 in
set_option maxRecDepth 100000 in
theorem w_L_less_2 (l : Launch) (hl : l.stackTraces = false) (D : va_G) (cI cO cJ : ClassId) (xa : Nat) (ta ha : Nat → Nat) (hb : Nat → Nat → Nat) (ad : Nat → Nat) (t : Nat → Int32) (n : Nat) (G : Nat → Nat → Int32) (g : Nat → Int32) (o z : Nat) (hn : n ≤ 60) (ho : o < 6) (hz : z ≤ 6) (r : Nat) (hr : r < 9) (n9 : Int32) (h : n9 < 1 ∨ ¬ n9 ≤ 9) (oa : Nat) (oj : Nat → Int64) : cW sF l yL_less wsL_less rmW_less_2 D vwCl (tyW cI cO cJ) [.ref xa, .int (nI r), .int n9, .ref oa] ((wS0 xa ad ha ta) ++ ((wT ta cI t (nI n)) ++ ((wHs ha hb cI cO G (nI o) (nI z)) ++ ((wB ad cI g) ++ (wO oa cJ oj))))) (some (.int 2)) ((wS0 xa ad ha ta) ++ ((wT ta cI t (nI n)) ++ ((wHs ha hb cI cO G (nI o) (nI z)) ++ ((wB ad cI g) ++ (wO oa cJ oj))))) := by
  refine cW_of (cc := cL_less) (maxL := 5) (ret := some .int) (hh := [(0, 10, 13, 13), (0, 10, 17, 15), (0, 10, 21, 17)]) (by decide) rfl (Nat.le_of_ble_eq_true rfl) ?_
  intro p e s m below meth c A C hret hlk hF ht hZ
  refine g_lv [0, 1, 2, 3] (lv' := [(0, .ref xa), (1, .int (nI r)), (2, .int n9), (3, .ref oa)]) rfl ?_
  refine g_aload_n C dL_less_0 3 rfl ?_
  refine g_iconst C (v := 0) dL_less_1 ci_0 ?_
  refine g_aload_n C dL_less_2 0 rfl ?_
  refine g_iload_n C dL_less_3 1 rfl ?_
  refine g_iload_n C dL_less_4 2 rfl ?_
  refine g_callVT C hZ (t_X3_less_2 l hl D cI cO xa ta ha hb ad t n G g o z hn ho hz r hr n9 h) gL_less_X3_less rfl ⟨rfl, rfl⟩ hd_X3_less ⟨Nat.le_of_ble_eq_true rfl, Nat.le_of_ble_eq_true rfl⟩ [0, 1] rfl (sF_w hF) rfl (rest := [.int 0, .ref oa]) rfl (Nat.le_of_ble_eq_true rfl) dL_less_5 ⟨Nat.le_of_ble_eq_true rfl, Nat.le_of_ble_eq_true rfl⟩ 0 rfl rfl rfl (pre := []) (post := (wO oa cJ oj)) rfl ?_
  refine g_catch C (name := xIae) [⟨0, 10, 13, 13⟩] ⟨0, 10, 17, 15⟩ [⟨0, 10, 21, 17⟩] (ht.trans rfl) (List.forall_mem_cons.mpr ⟨⟨by decide, xIob, fw_L_less_cl13, sF_no hF (by decide) (by decide) (by decide)⟩, (fun z hz => by cases hz)⟩) (by decide) (by decide) fw_L_less_cl15 (sF_cast hF (by decide)) ?_
  intro qx
  refine g_astore C (lv' := [(4, .ref qx), (0, .ref xa), (1, .int (nI r)), (2, .int n9), (3, .ref oa)]) dL_less_17 (by decide) rfl ?_
  refine g_iconst C (v := 2) dL_less_19 ci_2 ?_
  exact g_iret C hret hlk dL_less_20 rfl rfl
theorem fw_L_less_cl17 : Cond.classLink RL 17 "java/lang/IllegalStateException" ∈ wsL_less := (List.mem_cons_of_mem _ (List.mem_append_left _ (List.mem_append_left _ (List.mem_append_left _ (List.mem_append_left _ (List.mem_append_left _ (List.mem_append_left _ (List.mem_append_left _ (List.mem_of_getElem? (i := 2) rfl)))))))))
abbrev rmW_less_3 : Room := { frames := 8, cells := 1, slots := 6, locals := 169 }
set_option maxHeartbeats 1000000 in
set_option maxRecDepth 100000 in
theorem w_L_less_3 (l : Launch) (hl : l.stackTraces = false) (D : va_G) (cI cO cJ : ClassId) (xa : Nat) (ta ha : Nat → Nat) (hb : Nat → Nat → Nat) (ad : Nat → Nat) (t : Nat → Int32) (n : Nat) (G : Nat → Nat → Int32) (g : Nat → Int32) (o z : Nat) (hn : n ≤ 60) (ho : o < 6) (hz : z ≤ 6) (r : Nat) (hr : r < 9) (n9 : Int32) (h1 : ¬ n9 < 1) (h2 : n9 ≤ 9) (h : (xCh g r (-n9) 0).1 = -1) (oa : Nat) (oj : Nat → Int64) : cW sF l yL_less wsL_less rmW_less_3 D vwCl (tyW cI cO cJ) [.ref xa, .int (nI r), .int n9, .ref oa] ((wS0 xa ad ha ta) ++ ((wT ta cI t (nI n)) ++ ((wHs ha hb cI cO G (nI o) (nI z)) ++ ((wB ad cI g) ++ (wO oa cJ oj))))) (some (.int 3)) ((wS0 xa ad ha ta) ++ ((wT ta cI t (nI n)) ++ ((wHs ha hb cI cO G (nI o) (nI z)) ++ ((wB ad cI g) ++ (wO oa cJ oj))))) := by
  refine cW_of (cc := cL_less) (maxL := 5) (ret := some .int) (hh := [(0, 10, 13, 13), (0, 10, 17, 15), (0, 10, 21, 17)]) (by decide) rfl (Nat.le_of_ble_eq_true rfl) ?_
  intro p e s m below meth c A C hret hlk hF ht hZ
  refine g_lv [0, 1, 2, 3] (lv' := [(0, .ref xa), (1, .int (nI r)), (2, .int n9), (3, .ref oa)]) rfl ?_
  refine g_aload_n C dL_less_0 3 rfl ?_
  refine g_iconst C (v := 0) dL_less_1 ci_0 ?_
  refine g_aload_n C dL_less_2 0 rfl ?_
  refine g_iload_n C dL_less_3 1 rfl ?_
  refine g_iload_n C dL_less_4 2 rfl ?_
  refine g_callVT C hZ (t_X3_less_3 l hl D cI cO xa ta ha hb ad t n G g o z hn ho hz r hr n9 h1 h2 h) gL_less_X3_less rfl ⟨rfl, rfl⟩ hd_X3_less ⟨Nat.le_of_ble_eq_true rfl, Nat.le_of_ble_eq_true rfl⟩ [0, 1] rfl (sF_w hF) rfl (rest := [.int 0, .ref oa]) rfl (Nat.le_of_ble_eq_true rfl) dL_less_5 ⟨Nat.le_of_ble_eq_true rfl, Nat.le_of_ble_eq_true rfl⟩ 0 rfl rfl rfl (pre := []) (post := (wO oa cJ oj)) rfl ?_
  refine g_catch C (name := xIse) [⟨0, 10, 13, 13⟩, ⟨0, 10, 17, 15⟩] ⟨0, 10, 21, 17⟩ [] (ht.trans rfl) (List.forall_mem_cons.mpr ⟨⟨by decide, xIob, fw_L_less_cl13, sF_no hF (by decide) (by decide) (by decide)⟩, (List.forall_mem_cons.mpr ⟨⟨by decide, xIae, fw_L_less_cl15, sF_no hF (by decide) (by decide) (by decide)⟩, (fun z hz => by cases hz)⟩)⟩) (by decide) (by decide) fw_L_less_cl17 (sF_cast hF (by decide)) ?_
  intro qx
  refine g_astore C (lv' := [(4, .ref qx), (0, .ref xa), (1, .int (nI r)), (2, .int n9), (3, .ref oa)]) dL_less_21 (by decide) rfl ?_
  refine g_iconst C (v := 3) dL_less_23 ci_3 ?_
  exact g_iret C hret hlk dL_less_24 rfl rfl
theorem hd_X3_pay : yX3_pay.cls = RX3 ∧ yX3_pay.cls ≠ "java/lang/invoke/MethodHandle" ∧ yX3_pay.cls ≠ "java/lang/invoke/VarHandle" ∧ (parseMethodDescriptor yX3_pay.desc).map (fun d => d.parameters.length) = some 1 := by decide +kernel
abbrev rmW_pay : Room := { frames := 7, cells := 1, slots := 6, locals := 168 }
set_option maxHeartbeats 1000000 in
set_option maxRecDepth 100000 in
theorem w_L_pay (l : Launch) (hl : l.stackTraces = false) (D : va_G) (cI cO cJ : ClassId) (xa : Nat) (ta ha : Nat → Nat) (hb : Nat → Nat → Nat) (ad : Nat → Nat) (t : Nat → Int32) (n : Nat) (G : Nat → Nat → Int32) (g : Nat → Int32) (o z : Nat) (hn : n ≤ 60) (ho : o < 6) (hz : z ≤ 6) (r : Nat) (hr : r < 9) (hm : ¬ (xCh g r (g (6 * r + 3)) 0).1 = -1) (oa : Nat) (oj : Nat → Int64) : cW sF l yL_pay wsL_pay rmW_pay D vwCl (tyW cI cO cJ) [.ref xa, .int (nI r), .ref oa] ((wS0 xa ad ha ta) ++ ((wT ta cI t (nI n)) ++ ((wHs ha hb cI cO G (nI o) (nI z)) ++ ((wB ad cI g) ++ (wO oa cJ oj))))) (some (.int 0)) ((wS0 xa ad ha ta) ++ ((wT ta cI t (nI n)) ++ ((wHs ha hb cI cO (kG G o z g) (nI (kO o z)) (nI (kM z + 1))) ++ ((wB ad cI ((xPa g r).2)) ++ (wO oa cJ (vp_updL oj 0 ((xPa g r).1).toInt64)))))) := by
  refine cW_of (cc := cL_pay) (maxL := 4) (ret := some .int) (hh := [(0, 9, 12, 13), (0, 9, 15, 17)]) (by decide) rfl (Nat.le_of_ble_eq_true rfl) ?_
  intro p e s m below meth c A C hret hlk hF ht hZ
  refine g_lv [0, 1, 2] (lv' := [(0, .ref xa), (1, .int (nI r)), (2, .ref oa)]) rfl ?_
  refine g_aload_n C dL_pay_0 2 rfl ?_
  refine g_iconst C (v := 0) dL_pay_1 ci_0 ?_
  refine g_aload_n C dL_pay_2 0 rfl ?_
  refine g_iload_n C dL_pay_3 1 rfl ?_
  refine g_callVi C (c_X3_pay l D cI cO xa ta ha hb ad t n G g o z hn ho hz r hr hm) gL_pay_X3_pay rfl ⟨rfl, rfl⟩ hd_X3_pay ⟨Nat.le_of_ble_eq_true rfl, Nat.le_of_ble_eq_true rfl⟩ [0, 1] rfl (sF_w hF) rfl (rest := [.int 0, .ref oa]) rfl (Nat.le_of_ble_eq_true rfl) dL_pay_4 ⟨Nat.zero_le _, Nat.zero_le _⟩ 0 rfl rfl rfl (pre := []) (post := (wO oa cJ oj)) (ws' := ((wS0 xa ad ha ta) ++ ((wT ta cI t (nI n)) ++ ((wHs ha hb cI cO (kG G o z g) (nI (kO o z)) (nI (kM z + 1))) ++ ((wB ad cI ((xPa g r).2)) ++ (wO oa cJ oj)))))) rfl rfl ?_
  refine g_i2l C (v := ((xPa g r).1).toInt64) dL_pay_7 rfl ?_
  refine g_last C (ws' := ((wS0 xa ad ha ta) ++ ((wT ta cI t (nI n)) ++ ((wHs ha hb cI cO (kG G o z g) (nI (kO o z)) (nI (kM z + 1))) ++ ((wB ad cI ((xPa g r).2)) ++ (wO oa cJ (vp_updL oj 0 (((xPa g r).1).toInt64)))))))) 54 2 rfl rfl 0 rfl (by decide) (by decide) dL_pay_8 (ws_setr (q1 := 53) rfl (ws_setr (q1 := 51) rfl (ws_setr (q1 := 7) rfl (ws_setr (q1 := 0) rfl rfl)))) ?_
  refine g_goto C (tgt := 18) dL_pay_9 (by decide) ?_
  refine g_iconst C (v := 0) dL_pay_18 ci_0 ?_
  refine g_wid (k' := 1) (n' := 6) (by decide) (by decide) ?_
  exact g_iret C hret hlk dL_pay_19 rfl rfl
theorem fw_L_pay_cl13 : Cond.classLink RL 13 "java/lang/IndexOutOfBoundsException" ∈ wsL_pay := (List.mem_cons_of_mem _ (List.mem_append_left _ (List.mem_append_left _ (List.mem_append_left _ (List.mem_append_left _ (List.mem_append_left _ (List.mem_append_left _ (List.mem_of_getElem? (i := 0) rfl))))))))
abbrev rmW_pay_1 : Room := { frames := 8, cells := 1, slots := 6, locals := 146 }
set_option maxHeartbeats 1000000 in
set_option maxRecDepth 100000 in
theorem w_L_pay_1 (l : Launch) (hl : l.stackTraces = false) (D : va_G) (cI cO cJ : ClassId) (xa : Nat) (ta ha : Nat → Nat) (hb : Nat → Nat → Nat) (ad : Nat → Nat) (t : Nat → Int32) (n : Nat) (G : Nat → Nat → Int32) (g : Nat → Int32) (o z : Nat) (hn : n ≤ 60) (ho : o < 6) (hz : z ≤ 6) (v : Int32) (h : v < 0 ∨ ¬ v < 9) (oa : Nat) (oj : Nat → Int64) : cW sF l yL_pay wsL_pay rmW_pay_1 D vwCl (tyW cI cO cJ) [.ref xa, .int v, .ref oa] ((wS0 xa ad ha ta) ++ ((wT ta cI t (nI n)) ++ ((wHs ha hb cI cO G (nI o) (nI z)) ++ ((wB ad cI g) ++ (wO oa cJ oj))))) (some (.int 1)) ((wS0 xa ad ha ta) ++ ((wT ta cI t (nI n)) ++ ((wHs ha hb cI cO G (nI o) (nI z)) ++ ((wB ad cI g) ++ (wO oa cJ oj))))) := by
  refine cW_of (cc := cL_pay) (maxL := 4) (ret := some .int) (hh := [(0, 9, 12, 13), (0, 9, 15, 17)]) (by decide) rfl (Nat.le_of_ble_eq_true rfl) ?_
  intro p e s m below meth c A C hret hlk hF ht hZ
  refine g_lv [0, 1, 2] (lv' := [(0, .ref xa), (1, .int v), (2, .ref oa)]) rfl ?_
  refine g_aload_n C dL_pay_0 2 rfl ?_
  refine g_iconst C (v := 0) dL_pay_1 ci_0 ?_
  refine g_aload_n C dL_pay_2 0 rfl ?_
  refine g_iload_n C dL_pay_3 1 rfl ?_
  refine g_callVT C hZ (t_X3_pay_1 l hl D cI cO xa ta ha hb ad t n G g o z hn ho hz v h) gL_pay_X3_pay rfl ⟨rfl, rfl⟩ hd_X3_pay ⟨Nat.le_of_ble_eq_true rfl, Nat.le_of_ble_eq_true rfl⟩ [0, 1] rfl (sF_w hF) rfl (rest := [.int 0, .ref oa]) rfl (Nat.le_of_ble_eq_true rfl) dL_pay_4 ⟨Nat.le_of_ble_eq_true rfl, Nat.le_of_ble_eq_true rfl⟩ 0 rfl rfl rfl (pre := []) (post := (wO oa cJ oj)) rfl ?_
  refine g_catch C (name := xIob) [] ⟨0, 9, 12, 13⟩ [⟨0, 9, 15, 17⟩] (ht.trans rfl) (fun z hz => by cases hz) (by decide) (by decide) fw_L_pay_cl13 (sF_cast hF (by decide)) ?_
  intro qx
  refine g_astore_n C (lv' := [(3, .ref qx), (0, .ref xa), (1, .int v), (2, .ref oa)]) dL_pay_12 rfl (by decide) rfl ?_
  refine g_iconst C (v := 1) dL_pay_13 ci_1 ?_
  exact g_iret C hret hlk dL_pay_14 rfl rfl
theorem fw_L_pay_cl17 : Cond.classLink RL 17 "java/lang/IllegalStateException" ∈ wsL_pay := (List.mem_cons_of_mem _ (List.mem_append_left _ (List.mem_append_left _ (List.mem_append_left _ (List.mem_append_left _ (List.mem_append_left _ (List.mem_append_left _ (List.mem_of_getElem? (i := 1) rfl))))))))
abbrev rmW_pay_2 : Room := { frames := 8, cells := 1, slots := 6, locals := 146 }
set_option maxHeartbeats 1000000 in
set_option maxRecDepth 100000 in
theorem w_L_pay_2 (l : Launch) (hl : l.stackTraces = false) (D : va_G) (cI cO cJ : ClassId) (xa : Nat) (ta ha : Nat → Nat) (hb : Nat → Nat → Nat) (ad : Nat → Nat) (t : Nat → Int32) (n : Nat) (G : Nat → Nat → Int32) (g : Nat → Int32) (o z : Nat) (hn : n ≤ 60) (ho : o < 6) (hz : z ≤ 6) (r : Nat) (hr : r < 9) (h : (xCh g r (g (6 * r + 3)) 0).1 = -1) (oa : Nat) (oj : Nat → Int64) : cW sF l yL_pay wsL_pay rmW_pay_2 D vwCl (tyW cI cO cJ) [.ref xa, .int (nI r), .ref oa] ((wS0 xa ad ha ta) ++ ((wT ta cI t (nI n)) ++ ((wHs ha hb cI cO G (nI o) (nI z)) ++ ((wB ad cI g) ++ (wO oa cJ oj))))) (some (.int 2)) ((wS0 xa ad ha ta) ++ ((wT ta cI t (nI n)) ++ ((wHs ha hb cI cO G (nI o) (nI z)) ++ ((wB ad cI g) ++ (wO oa cJ oj))))) := by
  refine cW_of (cc := cL_pay) (maxL := 4) (ret := some .int) (hh := [(0, 9, 12, 13), (0, 9, 15, 17)]) (by decide) rfl (Nat.le_of_ble_eq_true rfl) ?_
  intro p e s m below meth c A C hret hlk hF ht hZ
  refine g_lv [0, 1, 2] (lv' := [(0, .ref xa), (1, .int (nI r)), (2, .ref oa)]) rfl ?_
  refine g_aload_n C dL_pay_0 2 rfl ?_
  refine g_iconst C (v := 0) dL_pay_1 ci_0 ?_
  refine g_aload_n C dL_pay_2 0 rfl ?_
  refine g_iload_n C dL_pay_3 1 rfl ?_
  refine g_callVT C hZ (t_X3_pay_2 l hl D cI cO xa ta ha hb ad t n G g o z hn ho hz r hr h) gL_pay_X3_pay rfl ⟨rfl, rfl⟩ hd_X3_pay ⟨Nat.le_of_ble_eq_true rfl, Nat.le_of_ble_eq_true rfl⟩ [0, 1] rfl (sF_w hF) rfl (rest := [.int 0, .ref oa]) rfl (Nat.le_of_ble_eq_true rfl) dL_pay_4 ⟨Nat.le_of_ble_eq_true rfl, Nat.le_of_ble_eq_true rfl⟩ 0 rfl rfl rfl (pre := []) (post := (wO oa cJ oj)) rfl ?_
  refine g_catch C (name := xIse) [⟨0, 9, 12, 13⟩] ⟨0, 9, 15, 17⟩ [] (ht.trans rfl) (List.forall_mem_cons.mpr ⟨⟨by decide, xIob, fw_L_pay_cl13, sF_no hF (by decide) (by decide) (by decide)⟩, (fun z hz => by cases hz)⟩) (by decide) (by decide) fw_L_pay_cl17 (sF_cast hF (by decide)) ?_
  intro qx
  refine g_astore_n C (lv' := [(3, .ref qx), (0, .ref xa), (1, .int (nI r)), (2, .ref oa)]) dL_pay_15 rfl (by decide) rfl ?_
  refine g_iconst C (v := 2) dL_pay_16 ci_2 ?_
  exact g_iret C hret hlk dL_pay_17 rfl rfl
theorem hd_X3_append : yX3_append.cls = RX3 ∧ yX3_append.cls ≠ "java/lang/invoke/MethodHandle" ∧ yX3_append.cls ≠ "java/lang/invoke/VarHandle" ∧ (parseMethodDescriptor yX3_append.desc).map (fun d => d.parameters.length) = some 1 := by decide +kernel
abbrev rmW_append : Room := { frames := 2, cells := 1, slots := 6, locals := 43 }
set_option maxHeartbeats 1000000 in
set_option maxRecDepth 100000 in
theorem w_L_append (l : Launch) (hl : l.stackTraces = false) (D : va_G) (cI cO cJ : ClassId) (xa : Nat) (ta ha : Nat → Nat) (hb : Nat → Nat → Nat) (ad : Nat → Nat) (t : Nat → Int32) (n : Nat) (G : Nat → Nat → Int32) (g : Nat → Int32) (o z : Nat) (hn : n ≤ 60) (ho : o < 6) (hz : z ≤ 6) (v : Int32) (h1 : ¬ v < 33) (h2 : v ≤ 126) (hf : n < 60) (oa : Nat) (oj : Nat → Int64) : cW sF l yL_append wsL_append rmW_append D vwCl (tyW cI cO cJ) [.ref xa, .int v, .ref oa] ((wS0 xa ad ha ta) ++ ((wT ta cI t (nI n)) ++ ((wHs ha hb cI cO G (nI o) (nI z)) ++ ((wB ad cI g) ++ (wO oa cJ oj))))) (some (.int 0)) ((wS0 xa ad ha ta) ++ ((wT ta cI (upd t n v) (nI (n + 1))) ++ ((wHs ha hb cI cO G (nI o) (nI z)) ++ ((wB ad cI g) ++ (wO oa cJ (vp_updL oj 0 (nI (n + 1)).toInt64)))))) := by
  refine cW_of (cc := cL_append) (maxL := 4) (ret := some .int) (hh := [(0, 9, 12, 15), (0, 9, 15, 17)]) (by decide) rfl (Nat.le_of_ble_eq_true rfl) ?_
  intro p e s m below meth c A C hret hlk hF ht hZ
  refine g_lv [0, 1, 2] (lv' := [(0, .ref xa), (1, .int v), (2, .ref oa)]) rfl ?_
  refine g_aload_n C dL_append_0 2 rfl ?_
  refine g_iconst C (v := 0) dL_append_1 ci_0 ?_
  refine g_aload_n C dL_append_2 0 rfl ?_
  refine g_iload_n C dL_append_3 1 rfl ?_
  refine g_callVi C (c_X3_append l D cI cO xa ta ha hb ad t n G g o z hn ho hz v h1 h2 hf) gL_append_X3_append rfl ⟨rfl, rfl⟩ hd_X3_append ⟨Nat.le_of_ble_eq_true rfl, Nat.le_of_ble_eq_true rfl⟩ [0, 1] rfl (sF_w hF) rfl (rest := [.int 0, .ref oa]) rfl (Nat.le_of_ble_eq_true rfl) dL_append_4 ⟨Nat.zero_le _, Nat.zero_le _⟩ 0 rfl rfl rfl (pre := []) (post := (wO oa cJ oj)) (ws' := ((wS0 xa ad ha ta) ++ ((wT ta cI (upd t n v) (nI (n + 1))) ++ ((wHs ha hb cI cO G (nI o) (nI z)) ++ ((wB ad cI g) ++ (wO oa cJ oj)))))) rfl rfl ?_
  refine g_i2l C (v := (nI (n + 1)).toInt64) dL_append_7 rfl ?_
  refine g_last C (ws' := ((wS0 xa ad ha ta) ++ ((wT ta cI (upd t n v) (nI (n + 1))) ++ ((wHs ha hb cI cO G (nI o) (nI z)) ++ ((wB ad cI g) ++ (wO oa cJ (vp_updL oj 0 ((nI (n + 1)).toInt64)))))))) 54 2 rfl rfl 0 rfl (by decide) (by decide) dL_append_8 (ws_setr (q1 := 53) rfl (ws_setr (q1 := 51) rfl (ws_setr (q1 := 7) rfl (ws_setr (q1 := 0) rfl rfl)))) ?_
  refine g_goto C (tgt := 18) dL_append_9 (by decide) ?_
  refine g_iconst C (v := 0) dL_append_18 ci_0 ?_
  refine g_wid (k' := 1) (n' := 6) (by decide) (by decide) ?_
  exact g_iret C hret hlk dL_append_19 rfl rfl
theorem fw_L_append_cl15 : Cond.classLink RL 15 "java/lang/IllegalArgumentException" ∈ wsL_append := (List.mem_cons_of_mem _ (List.mem_append_left _ (List.mem_append_left _ (List.mem_append_left _ (List.mem_append_left _ (List.mem_of_getElem? (i := 0) rfl))))))
abbrev rmW_append_1 : Room := { frames := 8, cells := 1, slots := 6, locals := 125 }
set_option maxHeartbeats 1000000 in
set_option maxRecDepth 100000 in
theorem w_L_append_1 (l : Launch) (hl : l.stackTraces = false) (D : va_G) (cI cO cJ : ClassId) (xa : Nat) (ta ha : Nat → Nat) (hb : Nat → Nat → Nat) (ad : Nat → Nat) (t : Nat → Int32) (n : Nat) (G : Nat → Nat → Int32) (g : Nat → Int32) (o z : Nat) (hn : n ≤ 60) (ho : o < 6) (hz : z ≤ 6) (v : Int32) (h : v < 33 ∨ ¬ v ≤ 126) (oa : Nat) (oj : Nat → Int64) : cW sF l yL_append wsL_append rmW_append_1 D vwCl (tyW cI cO cJ) [.ref xa, .int v, .ref oa] ((wS0 xa ad ha ta) ++ ((wT ta cI t (nI n)) ++ ((wHs ha hb cI cO G (nI o) (nI z)) ++ ((wB ad cI g) ++ (wO oa cJ oj))))) (some (.int 1)) ((wS0 xa ad ha ta) ++ ((wT ta cI t (nI n)) ++ ((wHs ha hb cI cO G (nI o) (nI z)) ++ ((wB ad cI g) ++ (wO oa cJ oj))))) := by
  refine cW_of (cc := cL_append) (maxL := 4) (ret := some .int) (hh := [(0, 9, 12, 15), (0, 9, 15, 17)]) (by decide) rfl (Nat.le_of_ble_eq_true rfl) ?_
  intro p e s m below meth c A C hret hlk hF ht hZ
  refine g_lv [0, 1, 2] (lv' := [(0, .ref xa), (1, .int v), (2, .ref oa)]) rfl ?_
  refine g_aload_n C dL_append_0 2 rfl ?_
  refine g_iconst C (v := 0) dL_append_1 ci_0 ?_
  refine g_aload_n C dL_append_2 0 rfl ?_
  refine g_iload_n C dL_append_3 1 rfl ?_
  refine g_callVT C hZ (t_X3_append_1 l hl D cI cO xa ta ha hb ad t n G g o z hn ho hz v h) gL_append_X3_append rfl ⟨rfl, rfl⟩ hd_X3_append ⟨Nat.le_of_ble_eq_true rfl, Nat.le_of_ble_eq_true rfl⟩ [0, 1] rfl (sF_w hF) rfl (rest := [.int 0, .ref oa]) rfl (Nat.le_of_ble_eq_true rfl) dL_append_4 ⟨Nat.le_of_ble_eq_true rfl, Nat.le_of_ble_eq_true rfl⟩ 0 rfl rfl rfl (pre := []) (post := (wO oa cJ oj)) rfl ?_
  refine g_catch C (name := xIae) [] ⟨0, 9, 12, 15⟩ [⟨0, 9, 15, 17⟩] (ht.trans rfl) (fun z hz => by cases hz) (by decide) (by decide) fw_L_append_cl15 (sF_cast hF (by decide)) ?_
  intro qx
  refine g_astore_n C (lv' := [(3, .ref qx), (0, .ref xa), (1, .int v), (2, .ref oa)]) dL_append_12 rfl (by decide) rfl ?_
  refine g_iconst C (v := 1) dL_append_13 ci_1 ?_
  exact g_iret C hret hlk dL_append_14 rfl rfl
theorem fw_L_append_cl17 : Cond.classLink RL 17 "java/lang/IllegalStateException" ∈ wsL_append := (List.mem_cons_of_mem _ (List.mem_append_left _ (List.mem_append_left _ (List.mem_append_left _ (List.mem_append_left _ (List.mem_of_getElem? (i := 1) rfl))))))
abbrev rmW_append_2 : Room := { frames := 8, cells := 1, slots := 6, locals := 125 }
set_option maxHeartbeats 1000000 in
set_option maxRecDepth 100000 in
theorem w_L_append_2 (l : Launch) (hl : l.stackTraces = false) (D : va_G) (cI cO cJ : ClassId) (xa : Nat) (ta ha : Nat → Nat) (hb : Nat → Nat → Nat) (ad : Nat → Nat) (t : Nat → Int32) (n : Nat) (G : Nat → Nat → Int32) (g : Nat → Int32) (o z : Nat) (hn : n ≤ 60) (ho : o < 6) (hz : z ≤ 6) (v : Int32) (h1 : ¬ v < 33) (h2 : v ≤ 126) (hf : n = 60) (oa : Nat) (oj : Nat → Int64) : cW sF l yL_append wsL_append rmW_append_2 D vwCl (tyW cI cO cJ) [.ref xa, .int v, .ref oa] ((wS0 xa ad ha ta) ++ ((wT ta cI t (nI n)) ++ ((wHs ha hb cI cO G (nI o) (nI z)) ++ ((wB ad cI g) ++ (wO oa cJ oj))))) (some (.int 2)) ((wS0 xa ad ha ta) ++ ((wT ta cI t (nI n)) ++ ((wHs ha hb cI cO G (nI o) (nI z)) ++ ((wB ad cI g) ++ (wO oa cJ oj))))) := by
  refine cW_of (cc := cL_append) (maxL := 4) (ret := some .int) (hh := [(0, 9, 12, 15), (0, 9, 15, 17)]) (by decide) rfl (Nat.le_of_ble_eq_true rfl) ?_
  intro p e s m below meth c A C hret hlk hF ht hZ
  refine g_lv [0, 1, 2] (lv' := [(0, .ref xa), (1, .int v), (2, .ref oa)]) rfl ?_
  refine g_aload_n C dL_append_0 2 rfl ?_
  refine g_iconst C (v := 0) dL_append_1 ci_0 ?_
  refine g_aload_n C dL_append_2 0 rfl ?_
  refine g_iload_n C dL_append_3 1 rfl ?_
  refine g_callVT C hZ (t_X3_append_2 l hl D cI cO xa ta ha hb ad t n G g o z hn ho hz v h1 h2 hf) gL_append_X3_append rfl ⟨rfl, rfl⟩ hd_X3_append ⟨Nat.le_of_ble_eq_true rfl, Nat.le_of_ble_eq_true rfl⟩ [0, 1] rfl (sF_w hF) rfl (rest := [.int 0, .ref oa]) rfl (Nat.le_of_ble_eq_true rfl) dL_append_4 ⟨Nat.le_of_ble_eq_true rfl, Nat.le_of_ble_eq_true rfl⟩ 0 rfl rfl rfl (pre := []) (post := (wO oa cJ oj)) rfl ?_
  refine g_catch C (name := xIse) [⟨0, 9, 12, 15⟩] ⟨0, 9, 15, 17⟩ [] (ht.trans rfl) (List.forall_mem_cons.mpr ⟨⟨by decide, xIae, fw_L_append_cl15, sF_no hF (by decide) (by decide) (by decide)⟩, (fun z hz => by cases hz)⟩) (by decide) (by decide) fw_L_append_cl17 (sF_cast hF (by decide)) ?_
  intro qx
  refine g_astore_n C (lv' := [(3, .ref qx), (0, .ref xa), (1, .int v), (2, .ref oa)]) dL_append_15 rfl (by decide) rfl ?_
  refine g_iconst C (v := 2) dL_append_16 ci_2 ?_
  exact g_iret C hret hlk dL_append_17 rfl rfl
theorem hd_X3_reckon : yX3_reckon.cls = RX3 ∧ yX3_reckon.cls ≠ "java/lang/invoke/MethodHandle" ∧ yX3_reckon.cls ≠ "java/lang/invoke/VarHandle" ∧ (parseMethodDescriptor yX3_reckon.desc).map (fun d => d.parameters.length) = some 0 := by decide +kernel
theorem fw_L_reckon_cl15 : Cond.classLink RL 15 "java/lang/IllegalArgumentException" ∈ wsL_reckon := (List.mem_cons_of_mem _ (List.mem_append_left _ (List.mem_append_left _ (List.mem_append_left _ (List.mem_append_left _ (List.mem_append_left _ (List.mem_append_left _ (List.mem_of_getElem? (i := 0) rfl))))))))
abbrev rmW_reckon_1 : Room := { frames := 7, cells := 1, slots := 6, locals := 106 }
set_option maxHeartbeats 1000000 in
set_option maxRecDepth 100000 in
theorem w_L_reckon_1 (l : Launch) (hl : l.stackTraces = false) (D : va_G) (cI cO cJ : ClassId) (xa : Nat) (ta ha : Nat → Nat) (hb : Nat → Nat → Nat) (ad : Nat → Nat) (t : Nat → Int32) (n : Nat) (G : Nat → Nat → Int32) (g : Nat → Int32) (o z : Nat) (hn : n ≤ 60) (ho : o < 6) (hz : z ≤ 6) (hc : ¬ xCs t n) (oa : Nat) (oj : Nat → Int64) : cW sF l yL_reckon wsL_reckon rmW_reckon_1 D vwCl (tyW cI cO cJ) [.ref xa, .ref oa] ((wS0 xa ad ha ta) ++ ((wT ta cI t (nI n)) ++ ((wHs ha hb cI cO G (nI o) (nI z)) ++ ((wB ad cI g) ++ (wO oa cJ oj))))) (some (.int 1)) ((wS0 xa ad ha ta) ++ ((wT ta cI t (nI n)) ++ ((wHs ha hb cI cO G (nI o) (nI z)) ++ ((wB ad cI g) ++ (wO oa cJ oj))))) := by
  refine cW_of (cc := cL_reckon) (maxL := 3) (ret := some .int) (hh := [(0, 8, 11, 15)]) (by decide) rfl (Nat.le_of_ble_eq_true rfl) ?_
  intro p e s m below meth c A C hret hlk hF ht hZ
  refine g_lv [0, 1] (lv' := [(0, .ref xa), (1, .ref oa)]) rfl ?_
  refine g_aload_n C dL_reckon_0 1 rfl ?_
  refine g_iconst C (v := 0) dL_reckon_1 ci_0 ?_
  refine g_aload_n C dL_reckon_2 0 rfl ?_
  refine g_callVT C hZ (t_X3_reckon_1 l hl D cI cO xa ta ha hb ad t n G g o z hn ho hz hc) gL_reckon_X3_reckon rfl ⟨rfl, rfl⟩ hd_X3_reckon ⟨Nat.le_of_ble_eq_true rfl, Nat.le_of_ble_eq_true rfl⟩ [0, 1] rfl (sF_w hF) rfl (rest := [.int 0, .ref oa]) rfl (Nat.le_of_ble_eq_true rfl) dL_reckon_3 ⟨Nat.le_of_ble_eq_true rfl, Nat.le_of_ble_eq_true rfl⟩ 0 rfl rfl rfl (pre := []) (post := (wO oa cJ oj)) rfl ?_
  refine g_catch C (name := xIae) [] ⟨0, 8, 11, 15⟩ [] (ht.trans rfl) (fun z hz => by cases hz) (by decide) (by decide) fw_L_reckon_cl15 (sF_cast hF (by decide)) ?_
  intro qx
  refine g_astore_n C (lv' := [(2, .ref qx), (0, .ref xa), (1, .ref oa)]) dL_reckon_11 rfl (by decide) rfl ?_
  refine g_iconst C (v := 1) dL_reckon_12 ci_1 ?_
  exact g_iret C hret hlk dL_reckon_13 rfl rfl
abbrev rmW_reckon : Room := { frames := 7, cells := 1, slots := 6, locals := 174 }
set_option maxHeartbeats 1000000 in
set_option maxRecDepth 100000 in
theorem w_L_reckon (l : Launch) (hl : l.stackTraces = false) (D : va_G) (cI cO cJ : ClassId) (xa : Nat) (ta ha : Nat → Nat) (hb : Nat → Nat → Nat) (ad : Nat → Nat) (t : Nat → Int32) (n : Nat) (G : Nat → Nat → Int32) (g : Nat → Int32) (o z : Nat) (hn : n ≤ 60) (ho : o < 6) (hz : z ≤ 6) (hc : xCs t n) (oa : Nat) (oj : Nat → Int64) : cW sF l yL_reckon wsL_reckon rmW_reckon D vwCl (tyW cI cO cJ) [.ref xa, .ref oa] ((wS0 xa ad ha ta) ++ ((wT ta cI t (nI n)) ++ ((wHs ha hb cI cO G (nI o) (nI z)) ++ ((wB ad cI g) ++ (wO oa cJ oj))))) (some (.int 0)) ((wS0 xa ad ha ta) ++ ((wT ta cI t (nI 0)) ++ ((wHs ha hb cI cO (kG G o z g) (nI (kO o z)) (nI (kM z + 1))) ++ ((wB ad cI ((xRk t n n 0 0 g).2)) ++ (wO oa cJ (vp_updL oj 0 (nI (xRk t n n 0 0 g).1).toInt64)))))) := by
  refine cW_of (cc := cL_reckon) (maxL := 3) (ret := some .int) (hh := [(0, 8, 11, 15)]) (by decide) rfl (Nat.le_of_ble_eq_true rfl) ?_
  intro p e s m below meth c A C hret hlk hF ht hZ
  refine g_lv [0, 1] (lv' := [(0, .ref xa), (1, .ref oa)]) rfl ?_
  refine g_aload_n C dL_reckon_0 1 rfl ?_
  refine g_iconst C (v := 0) dL_reckon_1 ci_0 ?_
  refine g_aload_n C dL_reckon_2 0 rfl ?_
  refine g_callVi C (c_X3_reckon l D cI cO xa ta ha hb ad t n G g o z hn ho hz hc) gL_reckon_X3_reckon rfl ⟨rfl, rfl⟩ hd_X3_reckon ⟨Nat.le_of_ble_eq_true rfl, Nat.le_of_ble_eq_true rfl⟩ [0, 1] rfl (sF_w hF) rfl (rest := [.int 0, .ref oa]) rfl (Nat.le_of_ble_eq_true rfl) dL_reckon_3 ⟨Nat.zero_le _, Nat.zero_le _⟩ 0 rfl rfl rfl (pre := []) (post := (wO oa cJ oj)) (ws' := ((wS0 xa ad ha ta) ++ ((wT ta cI t (nI 0)) ++ ((wHs ha hb cI cO (kG G o z g) (nI (kO o z)) (nI (kM z + 1))) ++ ((wB ad cI ((xRk t n n 0 0 g).2)) ++ (wO oa cJ oj)))))) rfl rfl ?_
  refine g_i2l C (v := (nI (xRk t n n 0 0 g).1).toInt64) dL_reckon_6 rfl ?_
  refine g_last C (ws' := ((wS0 xa ad ha ta) ++ ((wT ta cI t (nI 0)) ++ ((wHs ha hb cI cO (kG G o z g) (nI (kO o z)) (nI (kM z + 1))) ++ ((wB ad cI ((xRk t n n 0 0 g).2)) ++ (wO oa cJ (vp_updL oj 0 ((nI (xRk t n n 0 0 g).1).toInt64)))))))) 54 2 rfl rfl 0 rfl (by decide) (by decide) dL_reckon_7 (ws_setr (q1 := 53) rfl (ws_setr (q1 := 51) rfl (ws_setr (q1 := 7) rfl (ws_setr (q1 := 0) rfl rfl)))) ?_
  refine g_goto C (tgt := 14) dL_reckon_8 (by decide) ?_
  refine g_iconst C (v := 0) dL_reckon_14 ci_0 ?_
  refine g_wid (k' := 1) (n' := 6) (by decide) (by decide) ?_
  exact g_iret C hret hlk dL_reckon_15 rfl rfl
theorem hd_X3_undo : yX3_undo.cls = RX3 ∧ yX3_undo.cls ≠ "java/lang/invoke/MethodHandle" ∧ yX3_undo.cls ≠ "java/lang/invoke/VarHandle" ∧ (parseMethodDescriptor yX3_undo.desc).map (fun d => d.parameters.length) = some 0 := by decide +kernel
abbrev rmW_undo : Room := { frames := 3, cells := 1, slots := 6, locals := 63 }
set_option maxHeartbeats 1000000 in
set_option maxRecDepth 100000 in
theorem w_L_undo (l : Launch) (hl : l.stackTraces = false) (D : va_G) (cI cO cJ : ClassId) (xa : Nat) (ta ha : Nat → Nat) (hb : Nat → Nat → Nat) (ad : Nat → Nat) (t : Nat → Int32) (n : Nat) (G : Nat → Nat → Int32) (g : Nat → Int32) (o z : Nat) (hn : n ≤ 60) (ho : o < 6) (hz : z ≤ 6) (hp : 0 < z) (oa : Nat) (oj : Nat → Int64) : cW sF l yL_undo wsL_undo rmW_undo D vwCl (tyW cI cO cJ) [.ref xa, .ref oa] ((wS0 xa ad ha ta) ++ ((wT ta cI t (nI n)) ++ ((wHs ha hb cI cO G (nI o) (nI z)) ++ ((wB ad cI g) ++ (wO oa cJ oj))))) (some (.int 0)) ((wS0 xa ad ha ta) ++ ((wT ta cI t (nI n)) ++ ((wHs ha hb cI cO G (nI o) (nI (z - 1))) ++ ((wB ad cI (G (rI o z))) ++ (wO oa cJ (vp_updL oj 0 (nI (z - 1)).toInt64)))))) := by
  refine cW_of (cc := cL_undo) (maxL := 3) (ret := some .int) (hh := [(0, 8, 11, 17)]) (by decide) rfl (Nat.le_of_ble_eq_true rfl) ?_
  intro p e s m below meth c A C hret hlk hF ht hZ
  refine g_lv [0, 1] (lv' := [(0, .ref xa), (1, .ref oa)]) rfl ?_
  refine g_aload_n C dL_undo_0 1 rfl ?_
  refine g_iconst C (v := 0) dL_undo_1 ci_0 ?_
  refine g_aload_n C dL_undo_2 0 rfl ?_
  refine g_callVi C (c_X3_undo l D cI cO xa ta ha hb ad t n G g o z hn ho hz hp) gL_undo_X3_undo rfl ⟨rfl, rfl⟩ hd_X3_undo ⟨Nat.le_of_ble_eq_true rfl, Nat.le_of_ble_eq_true rfl⟩ [0, 1] rfl (sF_w hF) rfl (rest := [.int 0, .ref oa]) rfl (Nat.le_of_ble_eq_true rfl) dL_undo_3 ⟨Nat.zero_le _, Nat.zero_le _⟩ 0 rfl rfl rfl (pre := []) (post := (wO oa cJ oj)) (ws' := ((wS0 xa ad ha ta) ++ ((wT ta cI t (nI n)) ++ ((wHs ha hb cI cO G (nI o) (nI (z - 1))) ++ ((wB ad cI (G (rI o z))) ++ (wO oa cJ oj)))))) rfl rfl ?_
  refine g_i2l C (v := (nI (z - 1)).toInt64) dL_undo_6 rfl ?_
  refine g_last C (ws' := ((wS0 xa ad ha ta) ++ ((wT ta cI t (nI n)) ++ ((wHs ha hb cI cO G (nI o) (nI (z - 1))) ++ ((wB ad cI (G (rI o z))) ++ (wO oa cJ (vp_updL oj 0 ((nI (z - 1)).toInt64)))))))) 54 2 rfl rfl 0 rfl (by decide) (by decide) dL_undo_7 (ws_setr (q1 := 53) rfl (ws_setr (q1 := 51) rfl (ws_setr (q1 := 7) rfl (ws_setr (q1 := 0) rfl rfl)))) ?_
  refine g_goto C (tgt := 14) dL_undo_8 (by decide) ?_
  refine g_iconst C (v := 0) dL_undo_14 ci_0 ?_
  refine g_wid (k' := 1) (n' := 6) (by decide) (by decide) ?_
  exact g_iret C hret hlk dL_undo_15 rfl rfl
theorem fw_L_undo_cl17 : Cond.classLink RL 17 "java/lang/IllegalStateException" ∈ wsL_undo := (List.mem_cons_of_mem _ (List.mem_append_left _ (List.mem_append_left _ (List.mem_append_left _ (List.mem_append_left _ (List.mem_append_left _ (List.mem_of_getElem? (i := 0) rfl)))))))
abbrev rmW_undo_1 : Room := { frames := 7, cells := 1, slots := 6, locals := 102 }
set_option maxHeartbeats 1000000 in
set_option maxRecDepth 100000 in
theorem w_L_undo_1 (l : Launch) (hl : l.stackTraces = false) (D : va_G) (cI cO cJ : ClassId) (xa : Nat) (ta ha : Nat → Nat) (hb : Nat → Nat → Nat) (ad : Nat → Nat) (t : Nat → Int32) (n : Nat) (G : Nat → Nat → Int32) (g : Nat → Int32) (o z : Nat) (hn : n ≤ 60) (ho : o < 6) (hz : z ≤ 6) (hp : z = 0) (oa : Nat) (oj : Nat → Int64) : cW sF l yL_undo wsL_undo rmW_undo_1 D vwCl (tyW cI cO cJ) [.ref xa, .ref oa] ((wS0 xa ad ha ta) ++ ((wT ta cI t (nI n)) ++ ((wHs ha hb cI cO G (nI o) (nI z)) ++ ((wB ad cI g) ++ (wO oa cJ oj))))) (some (.int 1)) ((wS0 xa ad ha ta) ++ ((wT ta cI t (nI n)) ++ ((wHs ha hb cI cO G (nI o) (nI z)) ++ ((wB ad cI g) ++ (wO oa cJ oj))))) := by
  refine cW_of (cc := cL_undo) (maxL := 3) (ret := some .int) (hh := [(0, 8, 11, 17)]) (by decide) rfl (Nat.le_of_ble_eq_true rfl) ?_
  intro p e s m below meth c A C hret hlk hF ht hZ
  refine g_lv [0, 1] (lv' := [(0, .ref xa), (1, .ref oa)]) rfl ?_
  refine g_aload_n C dL_undo_0 1 rfl ?_
  refine g_iconst C (v := 0) dL_undo_1 ci_0 ?_
  refine g_aload_n C dL_undo_2 0 rfl ?_
  refine g_callVT C hZ (t_X3_undo_1 l hl D cI cO xa ta ha hb ad t n G g o z hn ho hz hp) gL_undo_X3_undo rfl ⟨rfl, rfl⟩ hd_X3_undo ⟨Nat.le_of_ble_eq_true rfl, Nat.le_of_ble_eq_true rfl⟩ [0, 1] rfl (sF_w hF) rfl (rest := [.int 0, .ref oa]) rfl (Nat.le_of_ble_eq_true rfl) dL_undo_3 ⟨Nat.le_of_ble_eq_true rfl, Nat.le_of_ble_eq_true rfl⟩ 0 rfl rfl rfl (pre := []) (post := (wO oa cJ oj)) rfl ?_
  refine g_catch C (name := xIse) [] ⟨0, 8, 11, 17⟩ [] (ht.trans rfl) (fun z hz => by cases hz) (by decide) (by decide) fw_L_undo_cl17 (sF_cast hF (by decide)) ?_
  intro qx
  refine g_astore_n C (lv' := [(2, .ref qx), (0, .ref xa), (1, .ref oa)]) dL_undo_11 rfl (by decide) rfl ?_
  refine g_iconst C (v := 1) dL_undo_12 ci_1 ?_
  exact g_iret C hret hlk dL_undo_13 rfl rfl
abbrev rmW_rod : Room := { frames := 5, cells := 1, slots := 6, locals := 118 }
set_option maxHeartbeats 1000000 in
set_option maxRecDepth 100000 in
theorem w_L_rod (l : Launch) (hl : l.stackTraces = false) (D : va_G) (cI cO cJ : ClassId) (xa : Nat) (ta ha : Nat → Nat) (hb : Nat → Nat → Nat) (ad : Nat → Nat) (t : Nat → Int32) (n : Nat) (G : Nat → Nat → Int32) (g : Nat → Int32) (o z : Nat) (hn : n ≤ 60) (ho : o < 6) (hz : z ≤ 6) (r : Nat) (hr : r < 9) (w : Nat) (hw : w ≤ 7) (oa : Nat) (oj : Nat → Int64) : cW sF l yL_rod wsL_rod rmW_rod D vwCl (tyW cI cO cJ) [.ref xa, .int (nI r), .int (nI w), .ref oa] ((wS0 xa ad ha ta) ++ ((wT ta cI t (nI n)) ++ ((wHs ha hb cI cO G (nI o) (nI z)) ++ ((wB ad cI g) ++ (wO oa cJ oj))))) (some (.int 0)) ((wS0 xa ad ha ta) ++ ((wT ta cI t (nI n)) ++ ((wHs ha hb cI cO G (nI o) (nI z)) ++ ((wB ad cI g) ++ (wO oa cJ (vp_updL oj 0 (xRod g r w).toInt64)))))) := by
  refine cW_of (cc := cL_rod) (maxL := 5) (ret := some .int) (hh := [(0, 10, 13, 13), (0, 10, 17, 15)]) (by decide) rfl (Nat.le_of_ble_eq_true rfl) ?_
  intro p e s m below meth c A C hret hlk hF ht hZ
  refine g_lv [0, 1, 2, 3] (lv' := [(0, .ref xa), (1, .int (nI r)), (2, .int (nI w)), (3, .ref oa)]) rfl ?_
  refine g_aload_n C dL_rod_0 3 rfl ?_
  refine g_iconst C (v := 0) dL_rod_1 ci_0 ?_
  refine g_aload_n C dL_rod_2 0 rfl ?_
  refine g_iload_n C dL_rod_3 1 rfl ?_
  refine g_iload_n C dL_rod_4 2 rfl ?_
  refine g_callVi C (c_X3_rod l D cI cO xa ta ha hb ad t n G g o z hn ho hz r hr w hw) gL_rod_X3_rod rfl ⟨rfl, rfl⟩ hd_X3_rod ⟨Nat.le_of_ble_eq_true rfl, Nat.le_of_ble_eq_true rfl⟩ [0, 1] rfl (sF_w hF) rfl (rest := [.int 0, .ref oa]) rfl (Nat.le_of_ble_eq_true rfl) dL_rod_5 ⟨Nat.zero_le _, Nat.zero_le _⟩ 0 rfl rfl rfl (pre := []) (post := (wO oa cJ oj)) (ws' := ((wS0 xa ad ha ta) ++ ((wT ta cI t (nI n)) ++ ((wHs ha hb cI cO G (nI o) (nI z)) ++ ((wB ad cI g) ++ (wO oa cJ oj)))))) rfl rfl ?_
  refine g_i2l C (v := (xRod g r w).toInt64) dL_rod_8 rfl ?_
  refine g_last C (ws' := ((wS0 xa ad ha ta) ++ ((wT ta cI t (nI n)) ++ ((wHs ha hb cI cO G (nI o) (nI z)) ++ ((wB ad cI g) ++ (wO oa cJ (vp_updL oj 0 ((xRod g r w).toInt64)))))))) 54 2 rfl rfl 0 rfl (by decide) (by decide) dL_rod_9 (ws_setr (q1 := 53) rfl (ws_setr (q1 := 51) rfl (ws_setr (q1 := 7) rfl (ws_setr (q1 := 0) rfl rfl)))) ?_
  refine g_goto C (tgt := 21) dL_rod_10 (by decide) ?_
  refine g_iconst C (v := 0) dL_rod_21 ci_0 ?_
  refine g_wid (k' := 1) (n' := 6) (by decide) (by decide) ?_
  exact g_iret C hret hlk dL_rod_22 rfl rfl
theorem fw_L_rod_cl13 : Cond.classLink RL 13 "java/lang/IndexOutOfBoundsException" ∈ wsL_rod := (List.mem_cons_of_mem _ (List.mem_append_left _ (List.mem_append_left _ (List.mem_append_left _ (List.mem_append_left _ (List.mem_append_left _ (List.mem_of_getElem? (i := 0) rfl)))))))
abbrev rmW_rod_1 : Room := { frames := 8, cells := 1, slots := 6, locals := 126 }
set_option maxHeartbeats 1000000 in
set_option maxRecDepth 100000 in
theorem w_L_rod_1 (l : Launch) (hl : l.stackTraces = false) (D : va_G) (cI cO cJ : ClassId) (xa : Nat) (ta ha : Nat → Nat) (hb : Nat → Nat → Nat) (ad : Nat → Nat) (t : Nat → Int32) (n : Nat) (G : Nat → Nat → Int32) (g : Nat → Int32) (o z : Nat) (hn : n ≤ 60) (ho : o < 6) (hz : z ≤ 6) (v w9 : Int32) (h : v < 0 ∨ ¬ v < 9) (oa : Nat) (oj : Nat → Int64) : cW sF l yL_rod wsL_rod rmW_rod_1 D vwCl (tyW cI cO cJ) [.ref xa, .int v, .int w9, .ref oa] ((wS0 xa ad ha ta) ++ ((wT ta cI t (nI n)) ++ ((wHs ha hb cI cO G (nI o) (nI z)) ++ ((wB ad cI g) ++ (wO oa cJ oj))))) (some (.int 1)) ((wS0 xa ad ha ta) ++ ((wT ta cI t (nI n)) ++ ((wHs ha hb cI cO G (nI o) (nI z)) ++ ((wB ad cI g) ++ (wO oa cJ oj))))) := by
  refine cW_of (cc := cL_rod) (maxL := 5) (ret := some .int) (hh := [(0, 10, 13, 13), (0, 10, 17, 15)]) (by decide) rfl (Nat.le_of_ble_eq_true rfl) ?_
  intro p e s m below meth c A C hret hlk hF ht hZ
  refine g_lv [0, 1, 2, 3] (lv' := [(0, .ref xa), (1, .int v), (2, .int w9), (3, .ref oa)]) rfl ?_
  refine g_aload_n C dL_rod_0 3 rfl ?_
  refine g_iconst C (v := 0) dL_rod_1 ci_0 ?_
  refine g_aload_n C dL_rod_2 0 rfl ?_
  refine g_iload_n C dL_rod_3 1 rfl ?_
  refine g_iload_n C dL_rod_4 2 rfl ?_
  refine g_callVT C hZ (t_X3_rod_1 l hl D cI cO xa ta ha hb ad t n G g o z hn ho hz v w9 h) gL_rod_X3_rod rfl ⟨rfl, rfl⟩ hd_X3_rod ⟨Nat.le_of_ble_eq_true rfl, Nat.le_of_ble_eq_true rfl⟩ [0, 1] rfl (sF_w hF) rfl (rest := [.int 0, .ref oa]) rfl (Nat.le_of_ble_eq_true rfl) dL_rod_5 ⟨Nat.le_of_ble_eq_true rfl, Nat.le_of_ble_eq_true rfl⟩ 0 rfl rfl rfl (pre := []) (post := (wO oa cJ oj)) rfl ?_
  refine g_catch C (name := xIob) [] ⟨0, 10, 13, 13⟩ [⟨0, 10, 17, 15⟩] (ht.trans rfl) (fun z hz => by cases hz) (by decide) (by decide) fw_L_rod_cl13 (sF_cast hF (by decide)) ?_
  intro qx
  refine g_astore C (lv' := [(4, .ref qx), (0, .ref xa), (1, .int v), (2, .int w9), (3, .ref oa)]) dL_rod_13 (by decide) rfl ?_
  refine g_iconst C (v := 1) dL_rod_15 ci_1 ?_
  exact g_iret C hret hlk dL_rod_16 rfl rfl
theorem fw_L_rod_cl15 : Cond.classLink RL 15 "java/lang/IllegalArgumentException" ∈ wsL_rod := (List.mem_cons_of_mem _ (List.mem_append_left _ (List.mem_append_left _ (List.mem_append_left _ (List.mem_append_left _ (List.mem_append_left _ (List.mem_of_getElem? (i := 1) rfl)))))))
abbrev rmW_rod_2 : Room := { frames := 8, cells := 1, slots := 6, locals := 126 }
set_option maxHeartbeats 1000000 in
set_option maxRecDepth 100000 in
theorem w_L_rod_2 (l : Launch) (hl : l.stackTraces = false) (D : va_G) (cI cO cJ : ClassId) (xa : Nat) (ta ha : Nat → Nat) (hb : Nat → Nat → Nat) (ad : Nat → Nat) (t : Nat → Int32) (n : Nat) (G : Nat → Nat → Int32) (g : Nat → Int32) (o z : Nat) (hn : n ≤ 60) (ho : o < 6) (hz : z ≤ 6) (r : Nat) (hr : r < 9) (w9 : Int32) (h : w9 < 0 ∨ ¬ w9 ≤ 7) (oa : Nat) (oj : Nat → Int64) : cW sF l yL_rod wsL_rod rmW_rod_2 D vwCl (tyW cI cO cJ) [.ref xa, .int (nI r), .int w9, .ref oa] ((wS0 xa ad ha ta) ++ ((wT ta cI t (nI n)) ++ ((wHs ha hb cI cO G (nI o) (nI z)) ++ ((wB ad cI g) ++ (wO oa cJ oj))))) (some (.int 2)) ((wS0 xa ad ha ta) ++ ((wT ta cI t (nI n)) ++ ((wHs ha hb cI cO G (nI o) (nI z)) ++ ((wB ad cI g) ++ (wO oa cJ oj))))) := by
  refine cW_of (cc := cL_rod) (maxL := 5) (ret := some .int) (hh := [(0, 10, 13, 13), (0, 10, 17, 15)]) (by decide) rfl (Nat.le_of_ble_eq_true rfl) ?_
  intro p e s m below meth c A C hret hlk hF ht hZ
  refine g_lv [0, 1, 2, 3] (lv' := [(0, .ref xa), (1, .int (nI r)), (2, .int w9), (3, .ref oa)]) rfl ?_
  refine g_aload_n C dL_rod_0 3 rfl ?_
  refine g_iconst C (v := 0) dL_rod_1 ci_0 ?_
  refine g_aload_n C dL_rod_2 0 rfl ?_
  refine g_iload_n C dL_rod_3 1 rfl ?_
  refine g_iload_n C dL_rod_4 2 rfl ?_
  refine g_callVT C hZ (t_X3_rod_2 l hl D cI cO xa ta ha hb ad t n G g o z hn ho hz r hr w9 h) gL_rod_X3_rod rfl ⟨rfl, rfl⟩ hd_X3_rod ⟨Nat.le_of_ble_eq_true rfl, Nat.le_of_ble_eq_true rfl⟩ [0, 1] rfl (sF_w hF) rfl (rest := [.int 0, .ref oa]) rfl (Nat.le_of_ble_eq_true rfl) dL_rod_5 ⟨Nat.le_of_ble_eq_true rfl, Nat.le_of_ble_eq_true rfl⟩ 0 rfl rfl rfl (pre := []) (post := (wO oa cJ oj)) rfl ?_
  refine g_catch C (name := xIae) [⟨0, 10, 13, 13⟩] ⟨0, 10, 17, 15⟩ [] (ht.trans rfl) (List.forall_mem_cons.mpr ⟨⟨by decide, xIob, fw_L_rod_cl13, sF_no hF (by decide) (by decide) (by decide)⟩, (fun z hz => by cases hz)⟩) (by decide) (by decide) fw_L_rod_cl15 (sF_cast hF (by decide)) ?_
  intro qx
  refine g_astore C (lv' := [(4, .ref qx), (0, .ref xa), (1, .int (nI r)), (2, .int w9), (3, .ref oa)]) dL_rod_17 (by decide) rfl ?_
  refine g_iconst C (v := 2) dL_rod_19 ci_2 ?_
  exact g_iret C hret hlk dL_rod_20 rfl rfl
abbrev rmW_count : Room := { frames := 3, cells := 1, slots := 6, locals := 64 }
set_option maxHeartbeats 1000000 in
set_option maxRecDepth 100000 in
theorem w_L_count (l : Launch) (hl : l.stackTraces = false) (D : va_G) (cI cO cJ : ClassId) (xa : Nat) (ta ha : Nat → Nat) (hb : Nat → Nat → Nat) (ad : Nat → Nat) (t : Nat → Int32) (n : Nat) (G : Nat → Nat → Int32) (g : Nat → Int32) (o z : Nat) (hn : n ≤ 60) (ho : o < 6) (hz : z ≤ 6) (w : Nat) (hw : w ≤ 7) (oa : Nat) (oj : Nat → Int64) : cW sF l yL_count wsL_count rmW_count D vwCl (tyW cI cO cJ) [.ref xa, .int (nI w), .ref oa] ((wS0 xa ad ha ta) ++ ((wT ta cI t (nI n)) ++ ((wHs ha hb cI cO G (nI o) (nI z)) ++ ((wB ad cI g) ++ (wO oa cJ oj))))) (some (.int 0)) ((wS0 xa ad ha ta) ++ ((wT ta cI t (nI n)) ++ ((wHs ha hb cI cO G (nI o) (nI z)) ++ ((wB ad cI g) ++ (wO oa cJ (vp_updL oj 0 (xCn g z w).toInt64)))))) := by
  refine cW_of (cc := cL_count) (maxL := 4) (ret := some .int) (hh := [(0, 9, 12, 15)]) (by decide) rfl (Nat.le_of_ble_eq_true rfl) ?_
  intro p e s m below meth c A C hret hlk hF ht hZ
  refine g_lv [0, 1, 2] (lv' := [(0, .ref xa), (1, .int (nI w)), (2, .ref oa)]) rfl ?_
  refine g_aload_n C dL_count_0 2 rfl ?_
  refine g_iconst C (v := 0) dL_count_1 ci_0 ?_
  refine g_aload_n C dL_count_2 0 rfl ?_
  refine g_iload_n C dL_count_3 1 rfl ?_
  refine g_callVi C (c_X3_count l D cI cO xa ta ha hb ad t n G g o z hn ho hz w hw) gL_count_X3_count rfl ⟨rfl, rfl⟩ hd_X3_count ⟨Nat.le_of_ble_eq_true rfl, Nat.le_of_ble_eq_true rfl⟩ [0, 1] rfl (sF_w hF) rfl (rest := [.int 0, .ref oa]) rfl (Nat.le_of_ble_eq_true rfl) dL_count_4 ⟨Nat.zero_le _, Nat.zero_le _⟩ 0 rfl rfl rfl (pre := []) (post := (wO oa cJ oj)) (ws' := ((wS0 xa ad ha ta) ++ ((wT ta cI t (nI n)) ++ ((wHs ha hb cI cO G (nI o) (nI z)) ++ ((wB ad cI g) ++ (wO oa cJ oj)))))) rfl rfl ?_
  refine g_i2l C (v := (xCn g z w).toInt64) dL_count_7 rfl ?_
  refine g_last C (ws' := ((wS0 xa ad ha ta) ++ ((wT ta cI t (nI n)) ++ ((wHs ha hb cI cO G (nI o) (nI z)) ++ ((wB ad cI g) ++ (wO oa cJ (vp_updL oj 0 ((xCn g z w).toInt64)))))))) 54 2 rfl rfl 0 rfl (by decide) (by decide) dL_count_8 (ws_setr (q1 := 53) rfl (ws_setr (q1 := 51) rfl (ws_setr (q1 := 7) rfl (ws_setr (q1 := 0) rfl rfl)))) ?_
  refine g_goto C (tgt := 15) dL_count_9 (by decide) ?_
  refine g_iconst C (v := 0) dL_count_15 ci_0 ?_
  refine g_wid (k' := 1) (n' := 6) (by decide) (by decide) ?_
  exact g_iret C hret hlk dL_count_16 rfl rfl
theorem fw_L_count_cl15 : Cond.classLink RL 15 "java/lang/IllegalArgumentException" ∈ wsL_count := (List.mem_cons_of_mem _ (List.mem_append_left _ (List.mem_append_left _ (List.mem_append_left _ (List.mem_append_left _ (List.mem_append_left _ (List.mem_of_getElem? (i := 0) rfl)))))))
abbrev rmW_count_1 : Room := { frames := 8, cells := 1, slots := 6, locals := 125 }
set_option maxHeartbeats 1000000 in
set_option maxRecDepth 100000 in
theorem w_L_count_1 (l : Launch) (hl : l.stackTraces = false) (D : va_G) (cI cO cJ : ClassId) (xa : Nat) (ta ha : Nat → Nat) (hb : Nat → Nat → Nat) (ad : Nat → Nat) (t : Nat → Int32) (n : Nat) (G : Nat → Nat → Int32) (g : Nat → Int32) (o z : Nat) (hn : n ≤ 60) (ho : o < 6) (hz : z ≤ 6) (w9 : Int32) (h : w9 < 0 ∨ ¬ w9 ≤ 7) (oa : Nat) (oj : Nat → Int64) : cW sF l yL_count wsL_count rmW_count_1 D vwCl (tyW cI cO cJ) [.ref xa, .int w9, .ref oa] ((wS0 xa ad ha ta) ++ ((wT ta cI t (nI n)) ++ ((wHs ha hb cI cO G (nI o) (nI z)) ++ ((wB ad cI g) ++ (wO oa cJ oj))))) (some (.int 1)) ((wS0 xa ad ha ta) ++ ((wT ta cI t (nI n)) ++ ((wHs ha hb cI cO G (nI o) (nI z)) ++ ((wB ad cI g) ++ (wO oa cJ oj))))) := by
  refine cW_of (cc := cL_count) (maxL := 4) (ret := some .int) (hh := [(0, 9, 12, 15)]) (by decide) rfl (Nat.le_of_ble_eq_true rfl) ?_
  intro p e s m below meth c A C hret hlk hF ht hZ
  refine g_lv [0, 1, 2] (lv' := [(0, .ref xa), (1, .int w9), (2, .ref oa)]) rfl ?_
  refine g_aload_n C dL_count_0 2 rfl ?_
  refine g_iconst C (v := 0) dL_count_1 ci_0 ?_
  refine g_aload_n C dL_count_2 0 rfl ?_
  refine g_iload_n C dL_count_3 1 rfl ?_
  refine g_callVT C hZ (t_X3_count_1 l hl D cI cO xa ta ha hb ad t n G g o z hn ho hz w9 h) gL_count_X3_count rfl ⟨rfl, rfl⟩ hd_X3_count ⟨Nat.le_of_ble_eq_true rfl, Nat.le_of_ble_eq_true rfl⟩ [0, 1] rfl (sF_w hF) rfl (rest := [.int 0, .ref oa]) rfl (Nat.le_of_ble_eq_true rfl) dL_count_4 ⟨Nat.le_of_ble_eq_true rfl, Nat.le_of_ble_eq_true rfl⟩ 0 rfl rfl rfl (pre := []) (post := (wO oa cJ oj)) rfl ?_
  refine g_catch C (name := xIae) [] ⟨0, 9, 12, 15⟩ [] (ht.trans rfl) (fun z hz => by cases hz) (by decide) (by decide) fw_L_count_cl15 (sF_cast hF (by decide)) ?_
  intro qx
  refine g_astore_n C (lv' := [(3, .ref qx), (0, .ref xa), (1, .int w9), (2, .ref oa)]) dL_count_12 rfl (by decide) rfl ?_
  refine g_iconst C (v := 1) dL_count_13 ci_1 ?_
  exact g_iret C hret hlk dL_count_14 rfl rfl
abbrev rmW_moves : Room := { frames := 4, cells := 1, slots := 6, locals := 95 }
set_option maxHeartbeats 1000000 in
set_option maxRecDepth 100000 in
theorem w_L_moves (l : Launch) (hl : l.stackTraces = false) (D : va_G) (cI cO cJ : ClassId) (xa : Nat) (ta ha : Nat → Nat) (hb : Nat → Nat → Nat) (ad : Nat → Nat) (t : Nat → Int32) (n : Nat) (G : Nat → Nat → Int32) (g : Nat → Int32) (o z : Nat) (hn : n ≤ 60) (ho : o < 6) (hz : z ≤ 6) (r : Nat) (hr : r < 9) (v : Int32) (h1 : ¬ v < 0) (h2 : v ≤ 15) (oa : Nat) (oj : Nat → Int64) : cW sF l yL_moves wsL_moves rmW_moves D vwCl (tyW cI cO cJ) [.ref xa, .int (nI r), .int v, .ref oa] ((wS0 xa ad ha ta) ++ ((wT ta cI t (nI n)) ++ ((wHs ha hb cI cO G (nI o) (nI z)) ++ ((wB ad cI g) ++ (wO oa cJ oj))))) (some (.int 0)) ((wS0 xa ad ha ta) ++ ((wT ta cI t (nI n)) ++ ((wHs ha hb cI cO G (nI o) (nI z)) ++ ((wB ad cI g) ++ (wO oa cJ (vp_updL oj 0 (xTv g r v).toInt64)))))) := by
  refine cW_of (cc := cL_moves) (maxL := 5) (ret := some .int) (hh := [(0, 10, 13, 13), (0, 10, 17, 15)]) (by decide) rfl (Nat.le_of_ble_eq_true rfl) ?_
  intro p e s m below meth c A C hret hlk hF ht hZ
  refine g_lv [0, 1, 2, 3] (lv' := [(0, .ref xa), (1, .int (nI r)), (2, .int v), (3, .ref oa)]) rfl ?_
  refine g_aload_n C dL_moves_0 3 rfl ?_
  refine g_iconst C (v := 0) dL_moves_1 ci_0 ?_
  refine g_aload_n C dL_moves_2 0 rfl ?_
  refine g_iload_n C dL_moves_3 1 rfl ?_
  refine g_iload_n C dL_moves_4 2 rfl ?_
  refine g_callVi C (c_X3_moves l D cI cO xa ta ha hb ad t n G g o z hn ho hz r hr v h1 h2) gL_moves_X3_moves rfl ⟨rfl, rfl⟩ hd_X3_moves ⟨Nat.le_of_ble_eq_true rfl, Nat.le_of_ble_eq_true rfl⟩ [0, 1] rfl (sF_w hF) rfl (rest := [.int 0, .ref oa]) rfl (Nat.le_of_ble_eq_true rfl) dL_moves_5 ⟨Nat.zero_le _, Nat.zero_le _⟩ 0 rfl rfl rfl (pre := []) (post := (wO oa cJ oj)) (ws' := ((wS0 xa ad ha ta) ++ ((wT ta cI t (nI n)) ++ ((wHs ha hb cI cO G (nI o) (nI z)) ++ ((wB ad cI g) ++ (wO oa cJ oj)))))) rfl rfl ?_
  refine g_i2l C (v := (xTv g r v).toInt64) dL_moves_8 rfl ?_
  refine g_last C (ws' := ((wS0 xa ad ha ta) ++ ((wT ta cI t (nI n)) ++ ((wHs ha hb cI cO G (nI o) (nI z)) ++ ((wB ad cI g) ++ (wO oa cJ (vp_updL oj 0 ((xTv g r v).toInt64)))))))) 54 2 rfl rfl 0 rfl (by decide) (by decide) dL_moves_9 (ws_setr (q1 := 53) rfl (ws_setr (q1 := 51) rfl (ws_setr (q1 := 7) rfl (ws_setr (q1 := 0) rfl rfl)))) ?_
  refine g_goto C (tgt := 21) dL_moves_10 (by decide) ?_
  refine g_iconst C (v := 0) dL_moves_21 ci_0 ?_
  refine g_wid (k' := 1) (n' := 6) (by decide) (by decide) ?_
  exact g_iret C hret hlk dL_moves_22 rfl rfl
theorem fw_L_moves_cl13 : Cond.classLink RL 13 "java/lang/IndexOutOfBoundsException" ∈ wsL_moves := (List.mem_cons_of_mem _ (List.mem_append_left _ (List.mem_append_left _ (List.mem_append_left _ (List.mem_append_left _ (List.mem_append_left _ (List.mem_of_getElem? (i := 0) rfl)))))))
abbrev rmW_moves_1 : Room := { frames := 8, cells := 1, slots := 6, locals := 126 }
set_option maxHeartbeats 1000000 in
set_option maxRecDepth 100000 in
theorem w_L_moves_1 (l : Launch) (hl : l.stackTraces = false) (D : va_G) (cI cO cJ : ClassId) (xa : Nat) (ta ha : Nat → Nat) (hb : Nat → Nat → Nat) (ad : Nat → Nat) (t : Nat → Int32) (n : Nat) (G : Nat → Nat → Int32) (g : Nat → Int32) (o z : Nat) (hn : n ≤ 60) (ho : o < 6) (hz : z ≤ 6) (v w9 : Int32) (h : v < 0 ∨ ¬ v < 9) (oa : Nat) (oj : Nat → Int64) : cW sF l yL_moves wsL_moves rmW_moves_1 D vwCl (tyW cI cO cJ) [.ref xa, .int v, .int w9, .ref oa] ((wS0 xa ad ha ta) ++ ((wT ta cI t (nI n)) ++ ((wHs ha hb cI cO G (nI o) (nI z)) ++ ((wB ad cI g) ++ (wO oa cJ oj))))) (some (.int 1)) ((wS0 xa ad ha ta) ++ ((wT ta cI t (nI n)) ++ ((wHs ha hb cI cO G (nI o) (nI z)) ++ ((wB ad cI g) ++ (wO oa cJ oj))))) := by
  refine cW_of (cc := cL_moves) (maxL := 5) (ret := some .int) (hh := [(0, 10, 13, 13), (0, 10, 17, 15)]) (by decide) rfl (Nat.le_of_ble_eq_true rfl) ?_
  intro p e s m below meth c A C hret hlk hF ht hZ
  refine g_lv [0, 1, 2, 3] (lv' := [(0, .ref xa), (1, .int v), (2, .int w9), (3, .ref oa)]) rfl ?_
  refine g_aload_n C dL_moves_0 3 rfl ?_
  refine g_iconst C (v := 0) dL_moves_1 ci_0 ?_
  refine g_aload_n C dL_moves_2 0 rfl ?_
  refine g_iload_n C dL_moves_3 1 rfl ?_
  refine g_iload_n C dL_moves_4 2 rfl ?_
  refine g_callVT C hZ (t_X3_moves_1 l hl D cI cO xa ta ha hb ad t n G g o z hn ho hz v w9 h) gL_moves_X3_moves rfl ⟨rfl, rfl⟩ hd_X3_moves ⟨Nat.le_of_ble_eq_true rfl, Nat.le_of_ble_eq_true rfl⟩ [0, 1] rfl (sF_w hF) rfl (rest := [.int 0, .ref oa]) rfl (Nat.le_of_ble_eq_true rfl) dL_moves_5 ⟨Nat.le_of_ble_eq_true rfl, Nat.le_of_ble_eq_true rfl⟩ 0 rfl rfl rfl (pre := []) (post := (wO oa cJ oj)) rfl ?_
  refine g_catch C (name := xIob) [] ⟨0, 10, 13, 13⟩ [⟨0, 10, 17, 15⟩] (ht.trans rfl) (fun z hz => by cases hz) (by decide) (by decide) fw_L_moves_cl13 (sF_cast hF (by decide)) ?_
  intro qx
  refine g_astore C (lv' := [(4, .ref qx), (0, .ref xa), (1, .int v), (2, .int w9), (3, .ref oa)]) dL_moves_13 (by decide) rfl ?_
  refine g_iconst C (v := 1) dL_moves_15 ci_1 ?_
  exact g_iret C hret hlk dL_moves_16 rfl rfl
theorem fw_L_moves_cl15 : Cond.classLink RL 15 "java/lang/IllegalArgumentException" ∈ wsL_moves := (List.mem_cons_of_mem _ (List.mem_append_left _ (List.mem_append_left _ (List.mem_append_left _ (List.mem_append_left _ (List.mem_append_left _ (List.mem_of_getElem? (i := 1) rfl)))))))
abbrev rmW_moves_2 : Room := { frames := 8, cells := 1, slots := 6, locals := 126 }
set_option maxHeartbeats 1000000 in
set_option maxRecDepth 100000 in
theorem w_L_moves_2 (l : Launch) (hl : l.stackTraces = false) (D : va_G) (cI cO cJ : ClassId) (xa : Nat) (ta ha : Nat → Nat) (hb : Nat → Nat → Nat) (ad : Nat → Nat) (t : Nat → Int32) (n : Nat) (G : Nat → Nat → Int32) (g : Nat → Int32) (o z : Nat) (hn : n ≤ 60) (ho : o < 6) (hz : z ≤ 6) (r : Nat) (hr : r < 9) (w9 : Int32) (h : w9 < 0 ∨ ¬ w9 ≤ 15) (oa : Nat) (oj : Nat → Int64) : cW sF l yL_moves wsL_moves rmW_moves_2 D vwCl (tyW cI cO cJ) [.ref xa, .int (nI r), .int w9, .ref oa] ((wS0 xa ad ha ta) ++ ((wT ta cI t (nI n)) ++ ((wHs ha hb cI cO G (nI o) (nI z)) ++ ((wB ad cI g) ++ (wO oa cJ oj))))) (some (.int 2)) ((wS0 xa ad ha ta) ++ ((wT ta cI t (nI n)) ++ ((wHs ha hb cI cO G (nI o) (nI z)) ++ ((wB ad cI g) ++ (wO oa cJ oj))))) := by
  refine cW_of (cc := cL_moves) (maxL := 5) (ret := some .int) (hh := [(0, 10, 13, 13), (0, 10, 17, 15)]) (by decide) rfl (Nat.le_of_ble_eq_true rfl) ?_
  intro p e s m below meth c A C hret hlk hF ht hZ
  refine g_lv [0, 1, 2, 3] (lv' := [(0, .ref xa), (1, .int (nI r)), (2, .int w9), (3, .ref oa)]) rfl ?_
  refine g_aload_n C dL_moves_0 3 rfl ?_
  refine g_iconst C (v := 0) dL_moves_1 ci_0 ?_
  refine g_aload_n C dL_moves_2 0 rfl ?_
  refine g_iload_n C dL_moves_3 1 rfl ?_
  refine g_iload_n C dL_moves_4 2 rfl ?_
  refine g_callVT C hZ (t_X3_moves_2 l hl D cI cO xa ta ha hb ad t n G g o z hn ho hz r hr w9 h) gL_moves_X3_moves rfl ⟨rfl, rfl⟩ hd_X3_moves ⟨Nat.le_of_ble_eq_true rfl, Nat.le_of_ble_eq_true rfl⟩ [0, 1] rfl (sF_w hF) rfl (rest := [.int 0, .ref oa]) rfl (Nat.le_of_ble_eq_true rfl) dL_moves_5 ⟨Nat.le_of_ble_eq_true rfl, Nat.le_of_ble_eq_true rfl⟩ 0 rfl rfl rfl (pre := []) (post := (wO oa cJ oj)) rfl ?_
  refine g_catch C (name := xIae) [⟨0, 10, 13, 13⟩] ⟨0, 10, 17, 15⟩ [] (ht.trans rfl) (List.forall_mem_cons.mpr ⟨⟨by decide, xIob, fw_L_moves_cl13, sF_no hF (by decide) (by decide) (by decide)⟩, (fun z hz => by cases hz)⟩) (by decide) (by decide) fw_L_moves_cl15 (sF_cast hF (by decide)) ?_
  intro qx
  refine g_astore C (lv' := [(4, .ref qx), (0, .ref xa), (1, .int (nI r)), (2, .int w9), (3, .ref oa)]) dL_moves_17 (by decide) rfl ?_
  refine g_iconst C (v := 2) dL_moves_19 ci_2 ?_
  exact g_iret C hret hlk dL_moves_20 rfl rfl
abbrev rmW_ifAdded : Room := { frames := 6, cells := 1, slots := 6, locals := 147 }
set_option maxHeartbeats 1000000 in
set_option maxRecDepth 100000 in
theorem w_L_ifAdded (l : Launch) (hl : l.stackTraces = false) (D : va_G) (cI cO cJ : ClassId) (xa : Nat) (ta ha : Nat → Nat) (hb : Nat → Nat → Nat) (ad : Nat → Nat) (t : Nat → Int32) (n : Nat) (G : Nat → Nat → Int32) (g : Nat → Int32) (o z : Nat) (hn : n ≤ 60) (ho : o < 6) (hz : z ≤ 6) (r : Nat) (hr : r < 9) (v : Int32) (h1 : ¬ v < -9) (h2 : v ≤ 9) (oa : Nat) (oj : Nat → Int64) : cW sF l yL_ifAdded wsL_ifAdded rmW_ifAdded D vwCl (tyW cI cO cJ) [.ref xa, .int (nI r), .int v, .ref oa] ((wS0 xa ad ha ta) ++ ((wT ta cI t (nI n)) ++ ((wHs ha hb cI cO G (nI o) (nI z)) ++ ((wB ad cI g) ++ (wO oa cJ oj))))) (some (.int 0)) ((wS0 xa ad ha ta) ++ ((wT ta cI t (nI n)) ++ ((wHs ha hb cI cO G (nI o) (nI z)) ++ ((wB ad cI g) ++ (wO oa cJ (vp_updL oj 0 ((xCh g r v 0).1).toInt64)))))) := by
  refine cW_of (cc := cL_ifAdded) (maxL := 5) (ret := some .int) (hh := [(0, 10, 13, 13), (0, 10, 17, 15)]) (by decide) rfl (Nat.le_of_ble_eq_true rfl) ?_
  intro p e s m below meth c A C hret hlk hF ht hZ
  refine g_lv [0, 1, 2, 3] (lv' := [(0, .ref xa), (1, .int (nI r)), (2, .int v), (3, .ref oa)]) rfl ?_
  refine g_aload_n C dL_ifAdded_0 3 rfl ?_
  refine g_iconst C (v := 0) dL_ifAdded_1 ci_0 ?_
  refine g_aload_n C dL_ifAdded_2 0 rfl ?_
  refine g_iload_n C dL_ifAdded_3 1 rfl ?_
  refine g_iload_n C dL_ifAdded_4 2 rfl ?_
  refine g_callVi C (c_X3_ifAdded l D cI cO xa ta ha hb ad t n G g o z hn ho hz r hr v h1 h2) gL_ifAdded_X3_ifAdded rfl ⟨rfl, rfl⟩ hd_X3_ifAdded ⟨Nat.le_of_ble_eq_true rfl, Nat.le_of_ble_eq_true rfl⟩ [0, 1] rfl (sF_w hF) rfl (rest := [.int 0, .ref oa]) rfl (Nat.le_of_ble_eq_true rfl) dL_ifAdded_5 ⟨Nat.zero_le _, Nat.zero_le _⟩ 0 rfl rfl rfl (pre := []) (post := (wO oa cJ oj)) (ws' := ((wS0 xa ad ha ta) ++ ((wT ta cI t (nI n)) ++ ((wHs ha hb cI cO G (nI o) (nI z)) ++ ((wB ad cI g) ++ (wO oa cJ oj)))))) rfl rfl ?_
  refine g_i2l C (v := ((xCh g r v 0).1).toInt64) dL_ifAdded_8 rfl ?_
  refine g_last C (ws' := ((wS0 xa ad ha ta) ++ ((wT ta cI t (nI n)) ++ ((wHs ha hb cI cO G (nI o) (nI z)) ++ ((wB ad cI g) ++ (wO oa cJ (vp_updL oj 0 (((xCh g r v 0).1).toInt64)))))))) 54 2 rfl rfl 0 rfl (by decide) (by decide) dL_ifAdded_9 (ws_setr (q1 := 53) rfl (ws_setr (q1 := 51) rfl (ws_setr (q1 := 7) rfl (ws_setr (q1 := 0) rfl rfl)))) ?_
  refine g_goto C (tgt := 21) dL_ifAdded_10 (by decide) ?_
  refine g_iconst C (v := 0) dL_ifAdded_21 ci_0 ?_
  refine g_wid (k' := 1) (n' := 6) (by decide) (by decide) ?_
  exact g_iret C hret hlk dL_ifAdded_22 rfl rfl
theorem fw_L_ifAdded_cl13 : Cond.classLink RL 13 "java/lang/IndexOutOfBoundsException" ∈ wsL_ifAdded := (List.mem_cons_of_mem _ (List.mem_append_left _ (List.mem_append_left _ (List.mem_append_left _ (List.mem_append_left _ (List.mem_append_left _ (List.mem_of_getElem? (i := 0) rfl)))))))
abbrev rmW_ifAdded_1 : Room := { frames := 8, cells := 1, slots := 6, locals := 126 }
set_option maxHeartbeats 1000000 in
set_option maxRecDepth 100000 in
theorem w_L_ifAdded_1 (l : Launch) (hl : l.stackTraces = false) (D : va_G) (cI cO cJ : ClassId) (xa : Nat) (ta ha : Nat → Nat) (hb : Nat → Nat → Nat) (ad : Nat → Nat) (t : Nat → Int32) (n : Nat) (G : Nat → Nat → Int32) (g : Nat → Int32) (o z : Nat) (hn : n ≤ 60) (ho : o < 6) (hz : z ≤ 6) (v w9 : Int32) (h : v < 0 ∨ ¬ v < 9) (oa : Nat) (oj : Nat → Int64) : cW sF l yL_ifAdded wsL_ifAdded rmW_ifAdded_1 D vwCl (tyW cI cO cJ) [.ref xa, .int v, .int w9, .ref oa] ((wS0 xa ad ha ta) ++ ((wT ta cI t (nI n)) ++ ((wHs ha hb cI cO G (nI o) (nI z)) ++ ((wB ad cI g) ++ (wO oa cJ oj))))) (some (.int 1)) ((wS0 xa ad ha ta) ++ ((wT ta cI t (nI n)) ++ ((wHs ha hb cI cO G (nI o) (nI z)) ++ ((wB ad cI g) ++ (wO oa cJ oj))))) := by
  refine cW_of (cc := cL_ifAdded) (maxL := 5) (ret := some .int) (hh := [(0, 10, 13, 13), (0, 10, 17, 15)]) (by decide) rfl (Nat.le_of_ble_eq_true rfl) ?_
  intro p e s m below meth c A C hret hlk hF ht hZ
  refine g_lv [0, 1, 2, 3] (lv' := [(0, .ref xa), (1, .int v), (2, .int w9), (3, .ref oa)]) rfl ?_
  refine g_aload_n C dL_ifAdded_0 3 rfl ?_
  refine g_iconst C (v := 0) dL_ifAdded_1 ci_0 ?_
  refine g_aload_n C dL_ifAdded_2 0 rfl ?_
  refine g_iload_n C dL_ifAdded_3 1 rfl ?_
  refine g_iload_n C dL_ifAdded_4 2 rfl ?_
  refine g_callVT C hZ (t_X3_ifAdded_1 l hl D cI cO xa ta ha hb ad t n G g o z hn ho hz v w9 h) gL_ifAdded_X3_ifAdded rfl ⟨rfl, rfl⟩ hd_X3_ifAdded ⟨Nat.le_of_ble_eq_true rfl, Nat.le_of_ble_eq_true rfl⟩ [0, 1] rfl (sF_w hF) rfl (rest := [.int 0, .ref oa]) rfl (Nat.le_of_ble_eq_true rfl) dL_ifAdded_5 ⟨Nat.le_of_ble_eq_true rfl, Nat.le_of_ble_eq_true rfl⟩ 0 rfl rfl rfl (pre := []) (post := (wO oa cJ oj)) rfl ?_
  refine g_catch C (name := xIob) [] ⟨0, 10, 13, 13⟩ [⟨0, 10, 17, 15⟩] (ht.trans rfl) (fun z hz => by cases hz) (by decide) (by decide) fw_L_ifAdded_cl13 (sF_cast hF (by decide)) ?_
  intro qx
  refine g_astore C (lv' := [(4, .ref qx), (0, .ref xa), (1, .int v), (2, .int w9), (3, .ref oa)]) dL_ifAdded_13 (by decide) rfl ?_
  refine g_iconst C (v := 1) dL_ifAdded_15 ci_1 ?_
  exact g_iret C hret hlk dL_ifAdded_16 rfl rfl
theorem fw_L_ifAdded_cl15 : Cond.classLink RL 15 "java/lang/IllegalArgumentException" ∈ wsL_ifAdded := (List.mem_cons_of_mem _ (List.mem_append_left _ (List.mem_append_left _ (List.mem_append_left _ (List.mem_append_left _ (List.mem_append_left _ (List.mem_of_getElem? (i := 1) rfl)))))))
abbrev rmW_ifAdded_2 : Room := { frames := 8, cells := 1, slots := 6, locals := 126 }
set_option maxHeartbeats 1000000 in
set_option maxRecDepth 100000 in
theorem w_L_ifAdded_2 (l : Launch) (hl : l.stackTraces = false) (D : va_G) (cI cO cJ : ClassId) (xa : Nat) (ta ha : Nat → Nat) (hb : Nat → Nat → Nat) (ad : Nat → Nat) (t : Nat → Int32) (n : Nat) (G : Nat → Nat → Int32) (g : Nat → Int32) (o z : Nat) (hn : n ≤ 60) (ho : o < 6) (hz : z ≤ 6) (r : Nat) (hr : r < 9) (w9 : Int32) (h : w9 < -9 ∨ ¬ w9 ≤ 9) (oa : Nat) (oj : Nat → Int64) : cW sF l yL_ifAdded wsL_ifAdded rmW_ifAdded_2 D vwCl (tyW cI cO cJ) [.ref xa, .int (nI r), .int w9, .ref oa] ((wS0 xa ad ha ta) ++ ((wT ta cI t (nI n)) ++ ((wHs ha hb cI cO G (nI o) (nI z)) ++ ((wB ad cI g) ++ (wO oa cJ oj))))) (some (.int 2)) ((wS0 xa ad ha ta) ++ ((wT ta cI t (nI n)) ++ ((wHs ha hb cI cO G (nI o) (nI z)) ++ ((wB ad cI g) ++ (wO oa cJ oj))))) := by
  refine cW_of (cc := cL_ifAdded) (maxL := 5) (ret := some .int) (hh := [(0, 10, 13, 13), (0, 10, 17, 15)]) (by decide) rfl (Nat.le_of_ble_eq_true rfl) ?_
  intro p e s m below meth c A C hret hlk hF ht hZ
  refine g_lv [0, 1, 2, 3] (lv' := [(0, .ref xa), (1, .int (nI r)), (2, .int w9), (3, .ref oa)]) rfl ?_
  refine g_aload_n C dL_ifAdded_0 3 rfl ?_
  refine g_iconst C (v := 0) dL_ifAdded_1 ci_0 ?_
  refine g_aload_n C dL_ifAdded_2 0 rfl ?_
  refine g_iload_n C dL_ifAdded_3 1 rfl ?_
  refine g_iload_n C dL_ifAdded_4 2 rfl ?_
  refine g_callVT C hZ (t_X3_ifAdded_2 l hl D cI cO xa ta ha hb ad t n G g o z hn ho hz r hr w9 h) gL_ifAdded_X3_ifAdded rfl ⟨rfl, rfl⟩ hd_X3_ifAdded ⟨Nat.le_of_ble_eq_true rfl, Nat.le_of_ble_eq_true rfl⟩ [0, 1] rfl (sF_w hF) rfl (rest := [.int 0, .ref oa]) rfl (Nat.le_of_ble_eq_true rfl) dL_ifAdded_5 ⟨Nat.le_of_ble_eq_true rfl, Nat.le_of_ble_eq_true rfl⟩ 0 rfl rfl rfl (pre := []) (post := (wO oa cJ oj)) rfl ?_
  refine g_catch C (name := xIae) [⟨0, 10, 13, 13⟩] ⟨0, 10, 17, 15⟩ [] (ht.trans rfl) (List.forall_mem_cons.mpr ⟨⟨by decide, xIob, fw_L_ifAdded_cl13, sF_no hF (by decide) (by decide) (by decide)⟩, (fun z hz => by cases hz)⟩) (by decide) (by decide) fw_L_ifAdded_cl15 (sF_cast hF (by decide)) ?_
  intro qx
  refine g_astore C (lv' := [(4, .ref qx), (0, .ref xa), (1, .int (nI r)), (2, .int w9), (3, .ref oa)]) dL_ifAdded_17 (by decide) rfl ?_
  refine g_iconst C (v := 2) dL_ifAdded_19 ci_2 ?_
  exact g_iret C hret hlk dL_ifAdded_20 rfl rfl
abbrev rmW_toShow : Room := { frames := 4, cells := 1, slots := 6, locals := 98 }
set_option maxHeartbeats 1000000 in
set_option maxRecDepth 100000 in
theorem w_L_toShow (l : Launch) (hl : l.stackTraces = false) (D : va_G) (cI cO cJ : ClassId) (xa : Nat) (ta ha : Nat → Nat) (hb : Nat → Nat → Nat) (ad : Nat → Nat) (t : Nat → Int32) (n : Nat) (G : Nat → Nat → Int32) (g : Nat → Int32) (o z : Nat) (hn : n ≤ 60) (ho : o < 6) (hz : z ≤ 6) (m9 : Nat) (hm9 : m9 ≤ 999999999) (oa : Nat) (oj : Nat → Int64) : cW sF l yL_toShow wsL_toShow rmW_toShow D vwCl (tyW cI cO cJ) [.ref xa, .int (nI m9), .ref oa] ((wS0 xa ad ha ta) ++ ((wT ta cI t (nI n)) ++ ((wHs ha hb cI cO G (nI o) (nI z)) ++ ((wB ad cI g) ++ (wO oa cJ oj))))) (some (.int 0)) ((wS0 xa ad ha ta) ++ ((wT ta cI t (nI n)) ++ ((wHs ha hb cI cO G (nI o) (nI z)) ++ ((wB ad cI g) ++ (wO oa cJ (vp_updL oj 0 (xTo g 9 0 m9 0).toInt64)))))) := by
  refine cW_of (cc := cL_toShow) (maxL := 4) (ret := some .int) (hh := [(0, 9, 12, 15)]) (by decide) rfl (Nat.le_of_ble_eq_true rfl) ?_
  intro p e s m below meth c A C hret hlk hF ht hZ
  refine g_lv [0, 1, 2] (lv' := [(0, .ref xa), (1, .int (nI m9)), (2, .ref oa)]) rfl ?_
  refine g_aload_n C dL_toShow_0 2 rfl ?_
  refine g_iconst C (v := 0) dL_toShow_1 ci_0 ?_
  refine g_aload_n C dL_toShow_2 0 rfl ?_
  refine g_iload_n C dL_toShow_3 1 rfl ?_
  refine g_callVi C (c_X3_toShow l D cI cO xa ta ha hb ad t n G g o z hn ho hz m9 hm9) gL_toShow_X3_toShow rfl ⟨rfl, rfl⟩ hd_X3_toShow ⟨Nat.le_of_ble_eq_true rfl, Nat.le_of_ble_eq_true rfl⟩ [0, 1] rfl (sF_w hF) rfl (rest := [.int 0, .ref oa]) rfl (Nat.le_of_ble_eq_true rfl) dL_toShow_4 ⟨Nat.zero_le _, Nat.zero_le _⟩ 0 rfl rfl rfl (pre := []) (post := (wO oa cJ oj)) (ws' := ((wS0 xa ad ha ta) ++ ((wT ta cI t (nI n)) ++ ((wHs ha hb cI cO G (nI o) (nI z)) ++ ((wB ad cI g) ++ (wO oa cJ oj)))))) rfl rfl ?_
  refine g_i2l C (v := (xTo g 9 0 m9 0).toInt64) dL_toShow_7 rfl ?_
  refine g_last C (ws' := ((wS0 xa ad ha ta) ++ ((wT ta cI t (nI n)) ++ ((wHs ha hb cI cO G (nI o) (nI z)) ++ ((wB ad cI g) ++ (wO oa cJ (vp_updL oj 0 ((xTo g 9 0 m9 0).toInt64)))))))) 54 2 rfl rfl 0 rfl (by decide) (by decide) dL_toShow_8 (ws_setr (q1 := 53) rfl (ws_setr (q1 := 51) rfl (ws_setr (q1 := 7) rfl (ws_setr (q1 := 0) rfl rfl)))) ?_
  refine g_goto C (tgt := 15) dL_toShow_9 (by decide) ?_
  refine g_iconst C (v := 0) dL_toShow_15 ci_0 ?_
  refine g_wid (k' := 1) (n' := 6) (by decide) (by decide) ?_
  exact g_iret C hret hlk dL_toShow_16 rfl rfl
theorem fw_L_toShow_cl15 : Cond.classLink RL 15 "java/lang/IllegalArgumentException" ∈ wsL_toShow := (List.mem_cons_of_mem _ (List.mem_append_left _ (List.mem_append_left _ (List.mem_append_left _ (List.mem_append_left _ (List.mem_of_getElem? (i := 0) rfl))))))
abbrev rmW_toShow_1 : Room := { frames := 8, cells := 1, slots := 6, locals := 129 }
set_option maxHeartbeats 1000000 in
set_option maxRecDepth 100000 in
theorem w_L_toShow_1 (l : Launch) (hl : l.stackTraces = false) (D : va_G) (cI cO cJ : ClassId) (xa : Nat) (ta ha : Nat → Nat) (hb : Nat → Nat → Nat) (ad : Nat → Nat) (t : Nat → Int32) (n : Nat) (G : Nat → Nat → Int32) (g : Nat → Int32) (o z : Nat) (hn : n ≤ 60) (ho : o < 6) (hz : z ≤ 6) (v : Int32) (h : v < 0 ∨ ¬ v ≤ 999999999) (oa : Nat) (oj : Nat → Int64) : cW sF l yL_toShow wsL_toShow rmW_toShow_1 D vwCl (tyW cI cO cJ) [.ref xa, .int v, .ref oa] ((wS0 xa ad ha ta) ++ ((wT ta cI t (nI n)) ++ ((wHs ha hb cI cO G (nI o) (nI z)) ++ ((wB ad cI g) ++ (wO oa cJ oj))))) (some (.int 1)) ((wS0 xa ad ha ta) ++ ((wT ta cI t (nI n)) ++ ((wHs ha hb cI cO G (nI o) (nI z)) ++ ((wB ad cI g) ++ (wO oa cJ oj))))) := by
  refine cW_of (cc := cL_toShow) (maxL := 4) (ret := some .int) (hh := [(0, 9, 12, 15)]) (by decide) rfl (Nat.le_of_ble_eq_true rfl) ?_
  intro p e s m below meth c A C hret hlk hF ht hZ
  refine g_lv [0, 1, 2] (lv' := [(0, .ref xa), (1, .int v), (2, .ref oa)]) rfl ?_
  refine g_aload_n C dL_toShow_0 2 rfl ?_
  refine g_iconst C (v := 0) dL_toShow_1 ci_0 ?_
  refine g_aload_n C dL_toShow_2 0 rfl ?_
  refine g_iload_n C dL_toShow_3 1 rfl ?_
  refine g_callVT C hZ (t_X3_toShow_1 l hl D cI cO xa ta ha hb ad t n G g o z hn ho hz v h) gL_toShow_X3_toShow rfl ⟨rfl, rfl⟩ hd_X3_toShow ⟨Nat.le_of_ble_eq_true rfl, Nat.le_of_ble_eq_true rfl⟩ [0, 1] rfl (sF_w hF) rfl (rest := [.int 0, .ref oa]) rfl (Nat.le_of_ble_eq_true rfl) dL_toShow_4 ⟨Nat.le_of_ble_eq_true rfl, Nat.le_of_ble_eq_true rfl⟩ 0 rfl rfl rfl (pre := []) (post := (wO oa cJ oj)) rfl ?_
  refine g_catch C (name := xIae) [] ⟨0, 9, 12, 15⟩ [] (ht.trans rfl) (fun z hz => by cases hz) (by decide) (by decide) fw_L_toShow_cl15 (sF_cast hF (by decide)) ?_
  intro qx
  refine g_astore_n C (lv' := [(3, .ref qx), (0, .ref xa), (1, .int v), (2, .ref oa)]) dL_toShow_12 rfl (by decide) rfl ?_
  refine g_iconst C (v := 1) dL_toShow_13 ci_1 ?_
  exact g_iret C hret hlk dL_toShow_14 rfl rfl
