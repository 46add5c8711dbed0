/-! ===== rows of the law: a contract whose answer and world are said to exist; the script read by a method; shifts, long remainders ===== -/
def cQE (P : Int32 → va_W → Prop) (D : va_G) (cl : List vw_C) (tys : List (ClassId × FieldType)) (A : Nat → Prop) : Array Value → State → Outcome → State → Prop := fun _ st oc t => ∃ (x : Int32) (w1 : va_W), oc = .returned (some (.int x)) ∧ P x w1 ∧ cB D cl tys A w1 t ∧ va_F A st t
def cE (F : Vm → Prop) (l : Launch) (y : MethodName) (wsY : List Cond) (rm : Room) (D : va_G) (cl : List vw_C) (tys : List (ClassId × FieldType)) (av : List Value) (wc : va_W) (P : Int32 → va_W → Prop) : Prop :=
  ∀ sz : Nat, Met l y wsY rm (cPre F D cl tys av wc sz) (cQE P D cl tys (va_A wc sz)) 0 0 (va_A wc sz)
/-- a contract of a method that reads the script of L ints xs at the cell b -/
def cPX (b L : Nat) (xs : Nat → Int32) (D : va_G) (cl : List vw_C) (tys : List (ClassId × FieldType)) (av : List Value) (sz : Nat) : Array Value → State → Prop :=
  va_Pc av (fun U => U.heap.size = sz ∧ va_X b L xs U U.heap ∧ va_K D cl tys U)
def cX (l : Launch) (y : MethodName) (wsY : List Cond) (rm : Room) (D : va_G) (cl : List vw_C) (tys : List (ClassId × FieldType)) (b L : Nat) (xs : Nat → Int32) (av : List Value) (v : Option Value) : Prop :=
  ∀ sz : Nat, Met l y wsY rm (cPX b L xs D cl tys av sz) (cQ v (cB D cl tys (va_A [] sz) []) (va_A [] sz)) 0 0 (va_A [] sz)
theorem cPX_blind (b L : Nat) (xs : Nat → Int32) (D : va_G) (cl : List vw_C) (tys : List (ClassId × FieldType)) (av : List Value) (sz : Nat) : FrameBlind (cPX b L xs D cl tys av sz) := fun a U g mk q => by
  obtain ⟨q0, q1, qX, qK⟩ := q
  exact ⟨q0, q1, va_X.moved (u := U) (U := U.calling g mk a) (Vm.Alike.refl U.vm) qX, va_K.moved (u := U) (U := U.calling g mk a) (Vm.Alike.refl U.vm) qK⟩
theorem cE_of {F : Vm → Prop} {l : Launch} {y : MethodName} {wsY ws' : List Cond} {rm : Room} {D : va_G} {cl : List vw_C} {tys : List (ClassId × FieldType)} {av : List Value} {wc : va_W} {P : Int32 → va_W → Prop} {cc : ByteArray} {maxL : Nat} {ret : Option FieldType} (hy : plainName y.cls = true) (hw : wsY = Cond.code y cc maxL ret :: ws') (hlen : (lg_sl av).length ≤ maxL)
    (body : ∀ (p : Program) (e : Env) (s : State) (m : MethodId) (below : List Frame) (meth : Method) (c : Code) (A : Nat → Prop), gC p s m av.toArray c cc y.cls wsY D cl tys A s.heap maxL → meth.sig.returnType = ret → meth.locks = false → meth.name = y.name → F s.vm →
      gG p l e rm s m av.toArray below meth c D cl A s.heap maxL (MQ below (cQE P D cl tys A) av.toArray s 0 0 A) 0 0 wc 0 (lv_args 0 av) []) : cE F l y wsY rm D cl tys av wc P := by
  intro sz
  refine Met.ofW (cc := cc) (maxL := maxL) (ret := ret) hy hw ?_
  intro p e s m args below meth c s₁ B hml hv
  obtain ⟨rfl, hF, hsz, hP, hK, hD0⟩ := hv
  subst hsz
  have hD := hD0.self (sz := s.heap.size)
  generalize hAe : va_A wc s.heap.size = A at hD ⊢
  have hA : ∀ q : Nat, s.heap.size ≤ q → A q := fun q h => by rw [← hAe]; exact Or.inr h
  have hl := lv_entry av (n := maxL) hlen
  rw [lg_entry_eq]
  exact body p e s m below meth c A ⟨B.exec, B.bytes, hml, findClass_of_methodNamed B.named, atoms_spec (ws := wsY) B.pre, hK, hA⟩ B.returns B.notSynchronized (name_of_methodNamed B.named B.method).1 hF s.heap [] _ hP hD va_S.rf hl

theorem cX_of {l : Launch} {y : MethodName} {wsY ws' : List Cond} {rm : Room} {D : va_G} {cl : List vw_C} {tys : List (ClassId × FieldType)} {b L : Nat} {xs : Nat → Int32} {av : List Value} {v : Option Value} {cc : ByteArray} {maxL : Nat} {ret : Option FieldType} (hy : plainName y.cls = true) (hw : wsY = Cond.code y cc maxL ret :: ws') (hlen : (lg_sl av).length ≤ maxL)
    (body : ∀ (p : Program) (e : Env) (s : State) (m : MethodId) (below : List Frame) (meth : Method) (c : Code) (A : Nat → Prop), gC p s m av.toArray c cc y.cls wsY D cl tys A s.heap maxL → meth.sig.returnType = ret → meth.locks = false → va_X b L xs s s.heap → b < s.heap.size → ¬ A b →
      gG p l e rm s m av.toArray below meth c D cl A s.heap maxL (MQ below (cQ v (cB D cl tys A []) A) av.toArray s 0 0 A) 0 0 [] 0 (lv_args 0 av) []) : cX l y wsY rm D cl tys b L xs av v := by
  intro sz
  refine Met.ofW (cc := cc) (maxL := maxL) (ret := ret) hy hw ?_
  intro p e s m args below meth c s₁ B hml hv
  obtain ⟨rfl, hsz, hX, hK⟩ := hv
  subst hsz
  have hbl : b < s.heap.size := by
    obtain ⟨scr, h1, -⟩ := hX
    exact (Array.getElem?_eq_some_iff.mp h1).1
  have hbA : ¬ va_A [] s.heap.size b := fun h => by
    rcases h with ⟨k, e, h⟩ | h
    · cases h
    · omega
  generalize hAe : va_A [] s.heap.size = A at hbA ⊢
  have hA : ∀ q : Nat, s.heap.size ≤ q → A q := fun q h => by rw [← hAe]; exact Or.inr h
  have hl := lv_entry av (n := maxL) hlen
  rw [lg_entry_eq]
  exact body p e s m below meth c A ⟨B.exec, B.bytes, hml, findClass_of_methodNamed B.named, atoms_spec (ws := wsY) B.pre, hK, hA⟩ B.returns B.notSynchronized hX hbl hbA s.heap [] _ (fun k q h => (by cases h)) ⟨fun i j p q h => (by cases h), fun k q h => (by cases h)⟩ va_S.rf hl
section GE
variable {p : Program} {l : Launch} {e : Env} {R : Room} {s : State} {m : MethodId} {args : Array Value} {below : List Frame} {meth : Method} {c : Code} {cc : ByteArray} {own : String} {Ts : List Cond} {D : va_G} {cl : List vw_C} {tys : List (ClassId × FieldType)} {A : Nat → Prop} {H0 : Heap} {nL : Nat} {Q : State → Prop} {k n : Nat} {ws : va_W} {pc : Nat} {lv : List (Nat × Value)} {st : List Value}
theorem g_iretE {P : Int32 → va_W → Prop} (C : gC p s m args c cc own Ts D cl tys A s.heap nL) (hr : meth.sig.returnType = some .int) (hlk : meth.locks = false) (d : decode cc pc = .ok (.ireturn, 1)) {x : Int32} (hp : P x ws) :
    gG p l e R s m args below meth c D cl A s.heap nL (MQ below (cQE P D cl tys A) args s k n A) k n ws pc lv [.int x] := by
  intro H locs ls hP hD hS hl
  exact W.iret C.1 C.2.1 hr (fun t ht hW => ⟨x, ws, rfl, hp, ⟨by rw [ht]; exact hP, va_K.moved hW.alike C.2.2.2.2.2.1, hD⟩, hS.F ht⟩) hS.2.2 d hlk
theorem g_zretE {P : Int32 → va_W → Prop} (C : gC p s m args c cc own Ts D cl tys A s.heap nL) (hr : meth.sig.returnType = some .boolean) (hlk : meth.locks = false) (d : decode cc pc = .ok (.ireturn, 1)) {x : Int32} (hb01 : x = 0 ∨ x = 1) (hp : P x ws) :
    gG p l e R s m args below meth c D cl A s.heap nL (MQ below (cQE P D cl tys A) args s k n A) k n ws pc lv [.int x] := by
  intro H locs ls hP hD hS hl
  exact W.zret C.1 C.2.1 hr (by rcases hb01 with h | h <;> subst h <;> rfl) (fun t ht hW => ⟨x, ws, rfl, hp, ⟨by rw [ht]; exact hP, va_K.moved hW.alike C.2.2.2.2.2.1, hD⟩, hS.F ht⟩) hS.2.2 d hlk
theorem g_runE {P : Int32 → va_W → Prop} {pre wc post : va_W} {rest : List Value} {a : Array Value} {mc ms : Nat} (C : gC p s m args c cc own Ts D cl tys A H0 nL) (hsp : ws = pre ++ (wc ++ post)) {tysY : List (ClassId × FieldType)}
    (run : ∀ (H : Heap) (locs : List Loc) (ls : Array Slot), va_P D cl wc H → va_D (fun _ => True) wc → lv_has ls nL lv → va_Run p l e R s m args below meth c H locs k n mc ms (F0 m pc ls st) rest (cQE P D cl tysY (va_A wc H.size) a) (va_A wc H.size))
    (kk : ∀ (x : Int32) (w1 : va_W), P x w1 → gG p l e R s m args below meth c D cl A H0 nL Q (k + mc) (n + ms) (pre ++ (w1 ++ post)) (pc + 3) lv (.int x :: rest)) : gG p l e R s m args below meth c D cl A H0 nL Q k n ws pc lv st := by
  subst hsp
  intro H locs ls hP hD hS hl T hT X
  obtain ⟨v', st₀, t, T', L, h0, X', hL, e1, e2, ⟨x, w1, hv, hp1, ⟨hP1, hK1, hD1⟩, hz, hk⟩, go⟩ := run H locs ls (wP_l (wP_r hP)) ((wD_l (wD_r hD)).weaken (fun _ _ _ _ => trivial)) hl T hT X
  cases hv
  rw [h0] at hz hk
  have hF := w_free hD hS C.2.2.2.2.2.2
  have hk' : ∀ q : Nat, q < H.size → ¬ va_A wc H.size q → T'.heap[q]? = H[q]? := fun q h1 h2 => by rw [e1]; exact hk q h1 h2
  obtain ⟨jP, jD⟩ := w_join hP hD hk' hF (by rw [e1]; exact hP1) hD1
  have hS' : va_S A H0 T'.heap (locs ++ L) := ⟨Nat.le_trans hS.1 (by rw [e1]; exact hz), fun q h1 h2 => by rw [hk' q (Nat.lt_of_lt_of_le h1 hS.1) (fun z => h2 (hF q z))]; exact hS.2.1 q h1 h2, fun q hq => by
    rcases List.mem_append.mp hq with h | h
    · exact hS.2.2 q h
    · exact hF _ (hL q h)⟩
  obtain ⟨t2, a1, b1⟩ := kk x w1 hp1 T'.heap (locs ++ L) ls jP jD hS' hl T' rfl X'
  exact ⟨t2, go t2 a1, b1⟩
/-- a call of a method that reads the script -/
theorem g_runX {v : Option Value} {rest : List Value} {a : Array Value} {mc ms : Nat} (C : gC p s m args c cc own Ts D cl tys A H0 nL) {tysY : List (ClassId × FieldType)}
    (run : ∀ (H : Heap) (locs : List Loc) (ls : Array Slot), va_S A H0 H locs → lv_has ls nL lv → va_Run p l e R s m args below meth c H locs k n mc ms (F0 m pc ls st) rest (cQ v (cB D cl tysY (va_A [] H.size) []) (va_A [] H.size) a) (va_A [] H.size))
    (kk : gG p l e R s m args below meth c D cl A H0 nL Q (k + mc) (n + ms) ws (pc + 3) lv (v.toList ++ rest)) : gG p l e R s m args below meth c D cl A H0 nL Q k n ws pc lv st := by
  intro H locs ls hP hD hS hl T hT X
  have hP' : va_P D cl (ws ++ (([] : va_W) ++ [])) H := by rw [List.append_nil, List.append_nil]; exact hP
  have hD' : va_D A (ws ++ (([] : va_W) ++ [])) := by rw [List.append_nil, List.append_nil]; exact hD
  obtain ⟨v', st₀, t, T', L, h0, X', hL, e1, e2, ⟨hv, ⟨hP1, hK1, hD1⟩, hz, hk⟩, go⟩ := run H locs ls hS hl T hT X
  cases hv
  rw [h0] at hz hk
  have hF := w_free hD' hS C.2.2.2.2.2.2
  have hk' : ∀ q : Nat, q < H.size → ¬ va_A [] H.size q → T'.heap[q]? = H[q]? := fun q h1 h2 => by rw [e1]; exact hk q h1 h2
  obtain ⟨jP, jD⟩ := w_join hP' hD' hk' hF (by rw [e1]; exact hP1) hD1
  rw [List.append_nil, List.append_nil] at jP jD
  have hS' : va_S A H0 T'.heap (locs ++ L) := ⟨Nat.le_trans hS.1 (by rw [e1]; exact hz), fun q h1 h2 => by rw [hk' q (Nat.lt_of_lt_of_le h1 hS.1) (fun z => h2 (hF q z))]; exact hS.2.1 q h1 h2, fun q hq => by
    rcases List.mem_append.mp hq with h | h
    · exact hS.2.2 q h
    · exact hF _ (hL q h)⟩
  obtain ⟨t2, a1, b1⟩ := kk T'.heap (locs ++ L) ls jP jD hS' hl T' rfl X'
  exact ⟨t2, go t2 a1, b1⟩
theorem g_callSE {F : Vm → Prop} {y : MethodName} {wsY ws9 : List Cond} {rm : Room} {tysY : List (ClassId × FieldType)} {index maxL nA : Nat} {bytes : ByteArray} {ret : Option FieldType} {As rest : List Value} {P : Int32 → va_W → Prop} {pre wc post : va_W}
    (C : gC p s m args c cc own Ts D cl tys A H0 nL) (hM : cE F l y wsY rm D cl tysY As wc P) (hG : GoodIn Ts (va_wsS own index y wsY)) (hw : wsY = Cond.code y bytes maxL ret :: ws9)
    (hrm : rm.cells = 0 ∧ rm.slots = 0) (hd : y.cls ≠ "java/lang/invoke/MethodHandle" ∧ y.cls ≠ "java/lang/invoke/VarHandle" ∧ (parseMethodDescriptor y.desc).map (fun d => d.parameters.length) = some nA) (hR : rm.frames + 1 ≤ R.frames ∧ 8 + (maxL + 11) + rm.locals ≤ R.locals)
    (isT : List Nat) (hT : isT.filterMap (fun i => tys[i]?) = tysY) (hF : ∀ vm' : Vm, s.WarmedH vm' → F vm') (hn : As.length = nA) (hst : st = As.reverse ++ rest) (hrest : (rest.map fun v => v.category).sum ≤ 8) (d : decode cc pc = .ok (.invokestatic index, 3)) (hc : k ≤ R.cells ∧ n ≤ R.slots)
    (hsp : ws = pre ++ (wc ++ post))
    (kk : ∀ (x : Int32) (w1 : va_W), P x w1 → gG p l e R s m args below meth c D cl A H0 nL Q k n (pre ++ (w1 ++ post)) (pc + 3) lv (.int x :: rest)) : gG p l e R s m args below meth c D cl A H0 nL Q k n ws pc lv st := by
  have hK := C.2.2.2.2.2.1.sub isT hT
  exact g_runE C hsp (fun H locs ls hP hD hl => va_runS (As := As) (rest := rest) ⟨C.1, C.2.1, C.2.2.1, C.2.2.2.1, C.2.2.2.2.1⟩ (hM H.size) (va_cwS nA C.2.2.2.2.1 hG hw hrm.1 hrm.2 hd hR) ⟨cPre_blind _ _ _ _ _ _ _, fun U hU hW => ⟨rfl, hF _ hW, by rw [hU], by rw [hU]; exact hP, va_K.moved hW.alike hK, hD⟩⟩ rfl hn hl.1 hst (lv_room hrest) d ⟨hc.1, hc.2⟩) kk
theorem g_callSX {y : MethodName} {wsY ws9 : List Cond} {rm : Room} {tysY : List (ClassId × FieldType)} {index maxL nA : Nat} {bytes : ByteArray} {ret : Option FieldType} {As rest : List Value} {v : Int32} {b L : Nat} {xs : Nat → Int32}
    (C : gC p s m args c cc own Ts D cl tys A H0 nL) (hX : va_X b L xs s H0) (hbl : b < H0.size) (hbA : ¬ A b) (hM : cX l y wsY rm D cl tysY b L xs As (some (.int v))) (hG : GoodIn Ts (va_wsS own index y wsY)) (hw : wsY = Cond.code y bytes maxL ret :: ws9)
    (hrm : rm.cells = 0 ∧ rm.slots = 0) (hd : y.cls ≠ "java/lang/invoke/MethodHandle" ∧ y.cls ≠ "java/lang/invoke/VarHandle" ∧ (parseMethodDescriptor y.desc).map (fun d => d.parameters.length) = some nA) (hR : rm.frames + 1 ≤ R.frames ∧ 8 + (maxL + 11) + rm.locals ≤ R.locals)
    (isT : List Nat) (hT : isT.filterMap (fun i => tys[i]?) = tysY) (hn : As.length = nA) (hst : st = As.reverse ++ rest) (hrest : (rest.map fun v => v.category).sum ≤ 8) (d : decode cc pc = .ok (.invokestatic index, 3)) (hc : k ≤ R.cells ∧ n ≤ R.slots)
    (kk : gG p l e R s m args below meth c D cl A H0 nL Q k n ws (pc + 3) lv (.int v :: rest)) : gG p l e R s m args below meth c D cl A H0 nL Q k n ws pc lv st := by
  have hK := C.2.2.2.2.2.1.sub isT hT
  exact g_runX C (fun H locs ls hS hl => va_runS (As := As) (rest := rest) ⟨C.1, C.2.1, C.2.2.1, C.2.2.2.1, C.2.2.2.2.1⟩ (hM H.size) (va_cwS nA C.2.2.2.2.1 hG hw hrm.1 hrm.2 hd hR) ⟨cPX_blind _ _ _ _ _ _ _ _, fun U hU hW => ⟨rfl, by rw [hU], by rw [hU]; exact va_X.moved hW.alike (hX.kept (hS.2.1 b hbl hbA)), va_K.moved hW.alike hK⟩⟩ rfl hn hl.1 hst (lv_room hrest) d ⟨hc.1, hc.2⟩) kk
theorem g_ishr (C : gC p s m args c cc own Ts D cl tys A H0 nL) {x y v : Int32} (d : decode cc pc = .ok (.ishr, 1)) (hv : x >>> (y &&& 31) = v)
    (kk : gG p l e R s m args below meth c D cl A H0 nL Q k n ws (pc + 1) lv (.int v :: st)) : gG p l e R s m args below meth c D cl A H0 nL Q k n ws pc lv (.int y :: .int x :: st) := by
  subst hv
  exact fun H locs ls hP hD hS hl => lv_ishr C.1 C.2.1 d (kk H locs ls hP hD hS hl)
theorem g_lrem (C : gC p s m args c cc own Ts D cl tys A H0 nL) {x y v : Int64} (d : decode cc pc = .ok (.lrem, 1)) (hne : ¬ y = 0) (hv : x - x / y * y = v)
    (kk : gG p l e R s m args below meth c D cl A H0 nL Q k n ws (pc + 1) lv (.long v :: st)) : gG p l e R s m args below meth c D cl A H0 nL Q k n ws pc lv (.long y :: .long x :: st) := by
  subst hv
  exact fun H locs ls hP hD hS hl => lv_lrem C.1 C.2.1 d hne (kk H locs ls hP hD hS hl)
theorem g_l2i (C : gC p s m args c cc own Ts D cl tys A H0 nL) {x : Int64} {v : Int32} (d : decode cc pc = .ok (.l2i, 1)) (hv : x.toInt32 = v)
    (kk : gG p l e R s m args below meth c D cl A H0 nL Q k n ws (pc + 1) lv (.int v :: st)) : gG p l e R s m args below meth c D cl A H0 nL Q k n ws pc lv (.long x :: st) := by
  subst hv
  exact fun H locs ls hP hD hS hl => lv_l2i C.1 C.2.1 d rfl (kk H locs ls hP hD hS hl)
theorem g_sld (C : gC p s m args c cc own Ts D cl tys A H0 nL) {b L : Nat} {xs : Nat → Int32} {i x : Int32} (hX : va_X b L xs s H0) (hbl : b < H0.size) (hbA : ¬ A b) (hL : L < 2 ^ 31) (j : Nat) (hi : i = nI j) (hj : j < L) (hx : xs j = x) (d : decode cc pc = .ok (.iaload, 1))
    (kk : gG p l e R s m args below meth c D cl A H0 nL Q k n ws (pc + 1) lv (.int x :: st)) : gG p l e R s m args below meth c D cl A H0 nL Q k n ws pc lv (.int i :: .ref b :: st) := by
  subst hi; subst hx
  intro H locs ls hP hD hS hl
  refine va_sld C.1 C.2.1 hX hbl hbA hS (vp_in_nI hj hL) d ?_
  rw [nI_clamp (by omega)]
  exact kk H locs ls hP hD hS hl
theorem g_slen (C : gC p s m args c cc own Ts D cl tys A H0 nL) {b L : Nat} {xs : Nat → Int32} (hX : va_X b L xs s H0) (hbl : b < H0.size) (hbA : ¬ A b) (d : decode cc pc = .ok (.arraylength, 1))
    (kk : gG p l e R s m args below meth c D cl A H0 nL Q k n ws (pc + 1) lv (.int (nI L) :: st)) : gG p l e R s m args below meth c D cl A H0 nL Q k n ws pc lv (.ref b :: st) := by
  intro H locs ls hP hD hS hl
  exact va_slen C.1 C.2.1 hX hbl hbA hS d (kk H locs ls hP hD hS hl)
end GE
theorem cb_11 : (Int8.ofInt 11).toInt32 = 11 := by decide
theorem cb_m10 : (Int8.ofInt (-10)).toInt32 = -10 := by decide
theorem cs_7919 : (Int16.ofInt 7919).toInt32 = 7919 := by decide
theorem lgz {x y : Int64} (h : x = y) : lg_cmp x y = 0 := by
  subst h
  unfold lg_cmp
  rw [if_neg (fun z => absurd (Int64.lt_iff_toInt_lt.mp z) (Int.lt_irrefl _)), if_pos rfl]
