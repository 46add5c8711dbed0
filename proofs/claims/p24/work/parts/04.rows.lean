/-! my own layer: gG = the machine at a pc, with a world, a list of locals and a stack; gC = what stays through a method's body -/
section GL
variable {p : Program} {l : Launch} {e : Env} {R : Room} {s : State} {m : MethodId} {args : Array Value} {below : List Frame} {meth : Method} {c : Code} {cc : ByteArray} {own : String} {Ts : List Cond} {D : va_G} {cl : List vw_C} {tys : List (ClassId × FieldType)} {A : Nat → Prop} {H0 : Heap} {nL : Nat} {Q : State → Prop} {k n : Nat} {ws : va_W} {pc : Nat} {lv : List (Nat × Value)} {st : List Value}
def gG (p : Program) (l : Launch) (e : Env) (R : Room) (s : State) (m : MethodId) (args : Array Value) (below : List Frame) (meth : Method) (c : Code) (D : va_G) (cl : List vw_C) (A : Nat → Prop) (H0 : Heap) (nL : Nat) (Q : State → Prop) (k n : Nat) (ws : va_W) (pc : Nat) (lv : List (Nat × Value)) (st : List Value) : Prop :=
  ∀ (H : Heap) (locs : List Loc) (ls : Array Slot), va_P D cl ws H → va_D A ws → va_S A H0 H locs → lv_has ls nL lv → W p l e R s m args below meth c H locs k n Q (F0 m pc ls st)
def gC (p : Program) (s : State) (m : MethodId) (args : Array Value) (c : Code) (cc : ByteArray) (own : String) (Ts : List Cond) (D : va_G) (cl : List vw_C) (tys : List (ClassId × FieldType)) (A : Nat → Prop) (H0 : Heap) (nL : Nat) : Prop :=
  p.tables.exec = Jvm.exec ∧ c.code = cc ∧ c.maxLocals = nL ∧ s.vm.findClass own = some m.cls ∧ (∀ w ∈ Ts, w.before args s = true) ∧ va_K D cl tys s ∧ ∀ q : Nat, H0.size ≤ q → A q
theorem g_iconst (C : gC p s m args c cc own Ts D cl tys A H0 nL) {z : Int} {v : Int32} (d : decode cc pc = .ok (.iconst z, 1)) (hv : Int32.ofInt z = v)
    (kk : gG p l e R s m args below meth c D cl A H0 nL Q k n (ws) (pc + 1) (lv) (.int v :: st)) : gG p l e R s m args below meth c D cl A H0 nL Q k n (ws) (pc) (lv) (st) := fun H locs ls hP hD hS hl => lv_iconst C.1 C.2.1 d hv (kk H locs ls hP hD hS hl)
theorem g_bipush (C : gC p s m args c cc own Ts D cl tys A H0 nL) {z : Int} {v : Int32} (d : decode cc pc = .ok (.bipush z, 2)) (hv : (Int8.ofInt z).toInt32 = v)
    (kk : gG p l e R s m args below meth c D cl A H0 nL Q k n (ws) (pc + 2) (lv) (.int v :: st)) : gG p l e R s m args below meth c D cl A H0 nL Q k n (ws) (pc) (lv) (st) := fun H locs ls hP hD hS hl => lv_bipush C.1 C.2.1 d hv (kk H locs ls hP hD hS hl)
theorem g_sipush (C : gC p s m args c cc own Ts D cl tys A H0 nL) {z : Int} {v : Int32} (d : decode cc pc = .ok (.sipush z, 3)) (hv : (Int16.ofInt z).toInt32 = v)
    (kk : gG p l e R s m args below meth c D cl A H0 nL Q k n (ws) (pc + 3) (lv) (.int v :: st)) : gG p l e R s m args below meth c D cl A H0 nL Q k n (ws) (pc) (lv) (st) := fun H locs ls hP hD hS hl => lv_sipush C.1 C.2.1 d hv (kk H locs ls hP hD hS hl)
theorem g_lconst (C : gC p s m args c cc own Ts D cl tys A H0 nL) {z : Fin 2} {v : Int64} (d : decode cc pc = .ok (.lconst z, 1)) (hv : Int64.ofNat (z : Nat) = v)
    (kk : gG p l e R s m args below meth c D cl A H0 nL Q k n (ws) (pc + 1) (lv) (.long v :: st)) : gG p l e R s m args below meth c D cl A H0 nL Q k n (ws) (pc) (lv) (st) := fun H locs ls hP hD hS hl => lv_lconst C.1 C.2.1 d hv (kk H locs ls hP hD hS hl)
theorem g_iload_n (C : gC p s m args c cc own Ts D cl tys A H0 nL) {z : Fin 4} {x : Int32} (d : decode cc pc = .ok (.iload_n z, 1)) (q : Nat) (hq : lv[q]? = some ((z : Nat), .int x))
    (kk : gG p l e R s m args below meth c D cl A H0 nL Q k n (ws) (pc + 1) (lv) (.int x :: st)) : gG p l e R s m args below meth c D cl A H0 nL Q k n (ws) (pc) (lv) (st) := fun H locs ls hP hD hS hl => lv_iload_n C.1 C.2.1 d rfl (lv_at hl q hq) (kk H locs ls hP hD hS hl)
theorem g_iload (C : gC p s m args c cc own Ts D cl tys A H0 nL) {i : Nat} {x : Int32} (d : decode cc pc = .ok (.iload i, 2)) (q : Nat) (hq : lv[q]? = some (i, .int x))
    (kk : gG p l e R s m args below meth c D cl A H0 nL Q k n (ws) (pc + 2) (lv) (.int x :: st)) : gG p l e R s m args below meth c D cl A H0 nL Q k n (ws) (pc) (lv) (st) := fun H locs ls hP hD hS hl => lv_iload C.1 C.2.1 d (lv_at hl q hq) (kk H locs ls hP hD hS hl)
theorem g_istore_n (C : gC p s m args c cc own Ts D cl tys A H0 nL) {z : Fin 4} {i : Nat} {x : Int32} {lv' : List (Nat × Value)} (d : decode cc pc = .ok (.istore_n z, 1)) (hi : (z : Nat) = i) (hn : i < nL) (hl' : (i, Value.int x) :: lv.filter (fun q => !(q.1 == i) && !(q.1 + 1 == i && q.2.category == 2)) = lv')
    (kk : gG p l e R s m args below meth c D cl A H0 nL Q k n (ws) (pc + 1) (lv') (st)) : gG p l e R s m args below meth c D cl A H0 nL Q k n (ws) (pc) (lv) (.int x :: st) := fun H locs ls hP hD hS hl => lv_istore_n C.1 C.2.1 d hi hl hn hl' (fun ls' h' => kk H locs ls' hP hD hS h')
theorem g_istore (C : gC p s m args c cc own Ts D cl tys A H0 nL) {i : Nat} {x : Int32} {lv' : List (Nat × Value)} (d : decode cc pc = .ok (.istore i, 2)) (hn : i < nL) (hl' : (i, Value.int x) :: lv.filter (fun q => !(q.1 == i) && !(q.1 + 1 == i && q.2.category == 2)) = lv')
    (kk : gG p l e R s m args below meth c D cl A H0 nL Q k n (ws) (pc + 2) (lv') (st)) : gG p l e R s m args below meth c D cl A H0 nL Q k n (ws) (pc) (lv) (.int x :: st) := fun H locs ls hP hD hS hl => lv_istore C.1 C.2.1 d hl hn hl' (fun ls' h' => kk H locs ls' hP hD hS h')
theorem g_lload_n (C : gC p s m args c cc own Ts D cl tys A H0 nL) {z : Fin 4} {x : Int64} (d : decode cc pc = .ok (.lload_n z, 1)) (q : Nat) (hq : lv[q]? = some ((z : Nat), .long x))
    (kk : gG p l e R s m args below meth c D cl A H0 nL Q k n (ws) (pc + 1) (lv) (.long x :: st)) : gG p l e R s m args below meth c D cl A H0 nL Q k n (ws) (pc) (lv) (st) := fun H locs ls hP hD hS hl => lv_lload_n C.1 C.2.1 d rfl (lv_at hl q hq) (kk H locs ls hP hD hS hl)
theorem g_lload (C : gC p s m args c cc own Ts D cl tys A H0 nL) {i : Nat} {x : Int64} (d : decode cc pc = .ok (.lload i, 2)) (q : Nat) (hq : lv[q]? = some (i, .long x))
    (kk : gG p l e R s m args below meth c D cl A H0 nL Q k n (ws) (pc + 2) (lv) (.long x :: st)) : gG p l e R s m args below meth c D cl A H0 nL Q k n (ws) (pc) (lv) (st) := fun H locs ls hP hD hS hl => lv_lload C.1 C.2.1 d (lv_at hl q hq) (kk H locs ls hP hD hS hl)
theorem g_lstore_n (C : gC p s m args c cc own Ts D cl tys A H0 nL) {z : Fin 4} {i : Nat} {x : Int64} {lv' : List (Nat × Value)} (d : decode cc pc = .ok (.lstore_n z, 1)) (hi : (z : Nat) = i) (hn : i + 1 < nL) (hl' : (i, Value.long x) :: lv.filter (fun q => !(q.1 == i) && (!(q.1 == i + 1) && !(q.1 + 1 == i && q.2.category == 2))) = lv')
    (kk : gG p l e R s m args below meth c D cl A H0 nL Q k n (ws) (pc + 1) (lv') (st)) : gG p l e R s m args below meth c D cl A H0 nL Q k n (ws) (pc) (lv) (.long x :: st) := fun H locs ls hP hD hS hl => lv_lstore_n C.1 C.2.1 d hi hl hn hl' (fun ls' h' => kk H locs ls' hP hD hS h')
theorem g_lstore (C : gC p s m args c cc own Ts D cl tys A H0 nL) {i : Nat} {x : Int64} {lv' : List (Nat × Value)} (d : decode cc pc = .ok (.lstore i, 2)) (hn : i + 1 < nL) (hl' : (i, Value.long x) :: lv.filter (fun q => !(q.1 == i) && (!(q.1 == i + 1) && !(q.1 + 1 == i && q.2.category == 2))) = lv')
    (kk : gG p l e R s m args below meth c D cl A H0 nL Q k n (ws) (pc + 2) (lv') (st)) : gG p l e R s m args below meth c D cl A H0 nL Q k n (ws) (pc) (lv) (.long x :: st) := fun H locs ls hP hD hS hl => lv_lstore C.1 C.2.1 d hl hn hl' (fun ls' h' => kk H locs ls' hP hD hS h')
theorem g_aload_n (C : gC p s m args c cc own Ts D cl tys A H0 nL) {z : Fin 4} {x : Nat} (d : decode cc pc = .ok (.aload_n z, 1)) (q : Nat) (hq : lv[q]? = some ((z : Nat), .ref x))
    (kk : gG p l e R s m args below meth c D cl A H0 nL Q k n (ws) (pc + 1) (lv) (.ref x :: st)) : gG p l e R s m args below meth c D cl A H0 nL Q k n (ws) (pc) (lv) (st) := fun H locs ls hP hD hS hl => lv_aload_n C.1 C.2.1 d rfl (lv_at hl q hq) (kk H locs ls hP hD hS hl)
theorem g_aload (C : gC p s m args c cc own Ts D cl tys A H0 nL) {i : Nat} {x : Nat} (d : decode cc pc = .ok (.aload i, 2)) (q : Nat) (hq : lv[q]? = some (i, .ref x))
    (kk : gG p l e R s m args below meth c D cl A H0 nL Q k n (ws) (pc + 2) (lv) (.ref x :: st)) : gG p l e R s m args below meth c D cl A H0 nL Q k n (ws) (pc) (lv) (st) := fun H locs ls hP hD hS hl => lv_aload C.1 C.2.1 d (lv_at hl q hq) (kk H locs ls hP hD hS hl)
theorem g_astore_n (C : gC p s m args c cc own Ts D cl tys A H0 nL) {z : Fin 4} {i : Nat} {x : Nat} {lv' : List (Nat × Value)} (d : decode cc pc = .ok (.astore_n z, 1)) (hi : (z : Nat) = i) (hn : i < nL) (hl' : (i, Value.ref x) :: lv.filter (fun q => !(q.1 == i) && !(q.1 + 1 == i && q.2.category == 2)) = lv')
    (kk : gG p l e R s m args below meth c D cl A H0 nL Q k n (ws) (pc + 1) (lv') (st)) : gG p l e R s m args below meth c D cl A H0 nL Q k n (ws) (pc) (lv) (.ref x :: st) := fun H locs ls hP hD hS hl => lv_astore_n C.1 C.2.1 d hi hl hn hl' (fun ls' h' => kk H locs ls' hP hD hS h')
theorem g_astore (C : gC p s m args c cc own Ts D cl tys A H0 nL) {i : Nat} {x : Nat} {lv' : List (Nat × Value)} (d : decode cc pc = .ok (.astore i, 2)) (hn : i < nL) (hl' : (i, Value.ref x) :: lv.filter (fun q => !(q.1 == i) && !(q.1 + 1 == i && q.2.category == 2)) = lv')
    (kk : gG p l e R s m args below meth c D cl A H0 nL Q k n (ws) (pc + 2) (lv') (st)) : gG p l e R s m args below meth c D cl A H0 nL Q k n (ws) (pc) (lv) (.ref x :: st) := fun H locs ls hP hD hS hl => lv_astore C.1 C.2.1 d hl hn hl' (fun ls' h' => kk H locs ls' hP hD hS h')
theorem g_dload_n (C : gC p s m args c cc own Ts D cl tys A H0 nL) {z : Fin 4} {x : UInt64} (d : decode cc pc = .ok (.dload_n z, 1)) (q : Nat) (hq : lv[q]? = some ((z : Nat), .double x))
    (kk : gG p l e R s m args below meth c D cl A H0 nL Q k n (ws) (pc + 1) (lv) (.double x :: st)) : gG p l e R s m args below meth c D cl A H0 nL Q k n (ws) (pc) (lv) (st) := fun H locs ls hP hD hS hl => lv_dload_n C.1 C.2.1 d rfl (lv_at hl q hq) (kk H locs ls hP hD hS hl)
theorem g_dload (C : gC p s m args c cc own Ts D cl tys A H0 nL) {i : Nat} {x : UInt64} (d : decode cc pc = .ok (.dload i, 2)) (q : Nat) (hq : lv[q]? = some (i, .double x))
    (kk : gG p l e R s m args below meth c D cl A H0 nL Q k n (ws) (pc + 2) (lv) (.double x :: st)) : gG p l e R s m args below meth c D cl A H0 nL Q k n (ws) (pc) (lv) (st) := fun H locs ls hP hD hS hl => lv_dload C.1 C.2.1 d (lv_at hl q hq) (kk H locs ls hP hD hS hl)
theorem g_dstore_n (C : gC p s m args c cc own Ts D cl tys A H0 nL) {z : Fin 4} {i : Nat} {x : UInt64} {lv' : List (Nat × Value)} (d : decode cc pc = .ok (.dstore_n z, 1)) (hi : (z : Nat) = i) (hn : i + 1 < nL) (hl' : (i, Value.double x) :: lv.filter (fun q => !(q.1 == i) && (!(q.1 == i + 1) && !(q.1 + 1 == i && q.2.category == 2))) = lv')
    (kk : gG p l e R s m args below meth c D cl A H0 nL Q k n (ws) (pc + 1) (lv') (st)) : gG p l e R s m args below meth c D cl A H0 nL Q k n (ws) (pc) (lv) (.double x :: st) := fun H locs ls hP hD hS hl => lv_dstore_n C.1 C.2.1 d hi hl hn hl' (fun ls' h' => kk H locs ls' hP hD hS h')
theorem g_dstore (C : gC p s m args c cc own Ts D cl tys A H0 nL) {i : Nat} {x : UInt64} {lv' : List (Nat × Value)} (d : decode cc pc = .ok (.dstore i, 2)) (hn : i + 1 < nL) (hl' : (i, Value.double x) :: lv.filter (fun q => !(q.1 == i) && (!(q.1 == i + 1) && !(q.1 + 1 == i && q.2.category == 2))) = lv')
    (kk : gG p l e R s m args below meth c D cl A H0 nL Q k n (ws) (pc + 2) (lv') (st)) : gG p l e R s m args below meth c D cl A H0 nL Q k n (ws) (pc) (lv) (.double x :: st) := fun H locs ls hP hD hS hl => lv_dstore C.1 C.2.1 d hl hn hl' (fun ls' h' => kk H locs ls' hP hD hS h')
theorem g_iinc (C : gC p s m args c cc own Ts D cl tys A H0 nL) {i : Nat} {z : Int} {x v : Int32} {lv' : List (Nat × Value)} (d : decode cc pc = .ok (.iinc i z, 3)) (q : Nat) (hq : lv[q]? = some (i, .int x)) (hv : x + Int32.ofInt z = v) (hn : i < nL) (hl' : (i, Value.int v) :: lv.filter (fun q => !(q.1 == i) && !(q.1 + 1 == i && q.2.category == 2)) = lv')
    (kk : gG p l e R s m args below meth c D cl A H0 nL Q k n (ws) (pc + 3) (lv') (st)) : gG p l e R s m args below meth c D cl A H0 nL Q k n (ws) (pc) (lv) (st) := fun H locs ls hP hD hS hl => lv_iinc C.1 C.2.1 d hl hq hv hn hl' (fun ls' h' => kk H locs ls' hP hD hS h')
theorem g_dconst0 (C : gC p s m args c cc own Ts D cl tys A H0 nL)  (d : decode cc pc = .ok (.dconst 0, 1)) 
    (kk : gG p l e R s m args below meth c D cl A H0 nL Q k n (ws) (pc + 1) (lv) (.double FP.dconst0 :: st)) : gG p l e R s m args below meth c D cl A H0 nL Q k n (ws) (pc) (lv) (st) := fun H locs ls hP hD hS hl => lv_dconst0 C.1 C.2.1 d (kk H locs ls hP hD hS hl)
theorem g_dconst1 (C : gC p s m args c cc own Ts D cl tys A H0 nL)  (d : decode cc pc = .ok (.dconst 1, 1)) 
    (kk : gG p l e R s m args below meth c D cl A H0 nL Q k n (ws) (pc + 1) (lv) (.double FP.dconst1 :: st)) : gG p l e R s m args below meth c D cl A H0 nL Q k n (ws) (pc) (lv) (st) := fun H locs ls hP hD hS hl => lv_dconst1 C.1 C.2.1 d (kk H locs ls hP hD hS hl)
theorem g_iadd (C : gC p s m args c cc own Ts D cl tys A H0 nL) {x y v : Int32} (d : decode cc pc = .ok (.iadd, 1)) (hv : x + y = v)
    (kk : gG p l e R s m args below meth c D cl A H0 nL Q k n (ws) (pc + 1) (lv) (.int v :: st)) : gG p l e R s m args below meth c D cl A H0 nL Q k n (ws) (pc) (lv) (.int y :: .int x :: st) := by subst hv; exact fun H locs ls hP hD hS hl => lv_iadd C.1 C.2.1 d (kk H locs ls hP hD hS hl)
theorem g_isub (C : gC p s m args c cc own Ts D cl tys A H0 nL) {x y v : Int32} (d : decode cc pc = .ok (.isub, 1)) (hv : x - y = v)
    (kk : gG p l e R s m args below meth c D cl A H0 nL Q k n (ws) (pc + 1) (lv) (.int v :: st)) : gG p l e R s m args below meth c D cl A H0 nL Q k n (ws) (pc) (lv) (.int y :: .int x :: st) := by subst hv; exact fun H locs ls hP hD hS hl => lv_isub C.1 C.2.1 d (kk H locs ls hP hD hS hl)
theorem g_imul (C : gC p s m args c cc own Ts D cl tys A H0 nL) {x y v : Int32} (d : decode cc pc = .ok (.imul, 1)) (hv : x * y = v)
    (kk : gG p l e R s m args below meth c D cl A H0 nL Q k n (ws) (pc + 1) (lv) (.int v :: st)) : gG p l e R s m args below meth c D cl A H0 nL Q k n (ws) (pc) (lv) (.int y :: .int x :: st) := by subst hv; exact fun H locs ls hP hD hS hl => lv_imul C.1 C.2.1 d (kk H locs ls hP hD hS hl)
theorem g_iand (C : gC p s m args c cc own Ts D cl tys A H0 nL) {x y v : Int32} (d : decode cc pc = .ok (.iand, 1)) (hv : x &&& y = v)
    (kk : gG p l e R s m args below meth c D cl A H0 nL Q k n (ws) (pc + 1) (lv) (.int v :: st)) : gG p l e R s m args below meth c D cl A H0 nL Q k n (ws) (pc) (lv) (.int y :: .int x :: st) := by subst hv; exact fun H locs ls hP hD hS hl => lv_iand C.1 C.2.1 d (kk H locs ls hP hD hS hl)
theorem g_idiv (C : gC p s m args c cc own Ts D cl tys A H0 nL) {x y v : Int32} (d : decode cc pc = .ok (.idiv, 1)) (hne : ¬ y = 0) (hv : x / y = v)
    (kk : gG p l e R s m args below meth c D cl A H0 nL Q k n (ws) (pc + 1) (lv) (.int v :: st)) : gG p l e R s m args below meth c D cl A H0 nL Q k n (ws) (pc) (lv) (.int y :: .int x :: st) := by subst hv; exact fun H locs ls hP hD hS hl => lv_idiv C.1 C.2.1 d hne (kk H locs ls hP hD hS hl)
theorem g_irem (C : gC p s m args c cc own Ts D cl tys A H0 nL) {x y v : Int32} (d : decode cc pc = .ok (.irem, 1)) (hne : ¬ y = 0) (hv : x - x / y * y = v)
    (kk : gG p l e R s m args below meth c D cl A H0 nL Q k n (ws) (pc + 1) (lv) (.int v :: st)) : gG p l e R s m args below meth c D cl A H0 nL Q k n (ws) (pc) (lv) (.int y :: .int x :: st) := by subst hv; exact fun H locs ls hP hD hS hl => lv_irem C.1 C.2.1 d hne (kk H locs ls hP hD hS hl)
theorem g_ineg (C : gC p s m args c cc own Ts D cl tys A H0 nL) {x v : Int32} (d : decode cc pc = .ok (.ineg, 1)) (hv : -x = v)
    (kk : gG p l e R s m args below meth c D cl A H0 nL Q k n (ws) (pc + 1) (lv) (.int v :: st)) : gG p l e R s m args below meth c D cl A H0 nL Q k n (ws) (pc) (lv) (.int x :: st) := by subst hv; exact fun H locs ls hP hD hS hl => lv_ineg C.1 C.2.1 d (kk H locs ls hP hD hS hl)
theorem g_ladd (C : gC p s m args c cc own Ts D cl tys A H0 nL) {x y v : Int64} (d : decode cc pc = .ok (.ladd, 1)) (hv : x + y = v)
    (kk : gG p l e R s m args below meth c D cl A H0 nL Q k n (ws) (pc + 1) (lv) (.long v :: st)) : gG p l e R s m args below meth c D cl A H0 nL Q k n (ws) (pc) (lv) (.long y :: .long x :: st) := by subst hv; exact fun H locs ls hP hD hS hl => lv_ladd C.1 C.2.1 d (kk H locs ls hP hD hS hl)
theorem g_lsub (C : gC p s m args c cc own Ts D cl tys A H0 nL) {x y v : Int64} (d : decode cc pc = .ok (.lsub, 1)) (hv : x - y = v)
    (kk : gG p l e R s m args below meth c D cl A H0 nL Q k n (ws) (pc + 1) (lv) (.long v :: st)) : gG p l e R s m args below meth c D cl A H0 nL Q k n (ws) (pc) (lv) (.long y :: .long x :: st) := by subst hv; exact fun H locs ls hP hD hS hl => lv_lsub C.1 C.2.1 d (kk H locs ls hP hD hS hl)
theorem g_lmul (C : gC p s m args c cc own Ts D cl tys A H0 nL) {x y v : Int64} (d : decode cc pc = .ok (.lmul, 1)) (hv : x * y = v)
    (kk : gG p l e R s m args below meth c D cl A H0 nL Q k n (ws) (pc + 1) (lv) (.long v :: st)) : gG p l e R s m args below meth c D cl A H0 nL Q k n (ws) (pc) (lv) (.long y :: .long x :: st) := by subst hv; exact fun H locs ls hP hD hS hl => lv_lmul C.1 C.2.1 d (kk H locs ls hP hD hS hl)
theorem g_i2l (C : gC p s m args c cc own Ts D cl tys A H0 nL) {x : Int32} {v : Int64} (d : decode cc pc = .ok (.i2l, 1)) (hv : x.toInt64 = v)
    (kk : gG p l e R s m args below meth c D cl A H0 nL Q k n (ws) (pc + 1) (lv) (.long v :: st)) : gG p l e R s m args below meth c D cl A H0 nL Q k n (ws) (pc) (lv) (.int x :: st) := fun H locs ls hP hD hS hl => lv_i2l C.1 C.2.1 d hv (kk H locs ls hP hD hS hl)
theorem g_lshl (C : gC p s m args c cc own Ts D cl tys A H0 nL) {x v : Int64} {y : Int32} (d : decode cc pc = .ok (.lshl, 1)) (hv : x <<< (y.toInt64 &&& 63) = v)
    (kk : gG p l e R s m args below meth c D cl A H0 nL Q k n (ws) (pc + 1) (lv) (.long v :: st)) : gG p l e R s m args below meth c D cl A H0 nL Q k n (ws) (pc) (lv) (.int y :: .long x :: st) := fun H locs ls hP hD hS hl => lv_lshl C.1 C.2.1 d hv (kk H locs ls hP hD hS hl)
theorem g_dup (C : gC p s m args c cc own Ts D cl tys A H0 nL) {va : Value} (d : decode cc pc = .ok (.dup, 1)) (h1 : va.category = 1)
    (kk : gG p l e R s m args below meth c D cl A H0 nL Q k n (ws) (pc + 1) (lv) (va :: va :: st)) : gG p l e R s m args below meth c D cl A H0 nL Q k n (ws) (pc) (lv) (va :: st) := fun H locs ls hP hD hS hl => lv_dup C.1 C.2.1 d h1 (kk H locs ls hP hD hS hl)
theorem g_pop (C : gC p s m args c cc own Ts D cl tys A H0 nL) {va : Value} (d : decode cc pc = .ok (.pop, 1)) (h1 : va.category = 1)
    (kk : gG p l e R s m args below meth c D cl A H0 nL Q k n (ws) (pc + 1) (lv) (st)) : gG p l e R s m args below meth c D cl A H0 nL Q k n (ws) (pc) (lv) (va :: st) := fun H locs ls hP hD hS hl => lv_pop C.1 C.2.1 d h1 (kk H locs ls hP hD hS hl)
theorem g_dup2 (C : gC p s m args c cc own Ts D cl tys A H0 nL) {va vb : Value} (d : decode cc pc = .ok (.dup2, 1)) (h1 : va.category = 1) (h2 : vb.category = 1)
    (kk : gG p l e R s m args below meth c D cl A H0 nL Q k n (ws) (pc + 1) (lv) (va :: vb :: va :: vb :: st)) : gG p l e R s m args below meth c D cl A H0 nL Q k n (ws) (pc) (lv) (va :: vb :: st) := fun H locs ls hP hD hS hl => lv_dup2_11 C.1 C.2.1 d h1 h2 (kk H locs ls hP hD hS hl)
theorem g_i2d (C : gC p s m args c cc own Ts D cl tys A H0 nL) {x : Int32} {v : UInt64} (d : decode cc pc = .ok (.i2d, 1)) (hv : FP.i2d x = v)
    (kk : gG p l e R s m args below meth c D cl A H0 nL Q k n (ws) (pc + 1) (lv) (.double v :: st)) : gG p l e R s m args below meth c D cl A H0 nL Q k n (ws) (pc) (lv) (.int x :: st) := by subst hv; exact fun H locs ls hP hD hS hl => lv_i2d C.1 C.2.1 d (kk H locs ls hP hD hS hl)
theorem g_d2l (C : gC p s m args c cc own Ts D cl tys A H0 nL) {x : UInt64} {v : Int64} (d : decode cc pc = .ok (.d2l, 1)) (hv : FP.d2l x = v)
    (kk : gG p l e R s m args below meth c D cl A H0 nL Q k n (ws) (pc + 1) (lv) (.long v :: st)) : gG p l e R s m args below meth c D cl A H0 nL Q k n (ws) (pc) (lv) (.double x :: st) := by subst hv; exact fun H locs ls hP hD hS hl => lv_d2l C.1 C.2.1 d (kk H locs ls hP hD hS hl)
theorem g_dmul (C : gC p s m args c cc own Ts D cl tys A H0 nL) {x y v : UInt64} (d : decode cc pc = .ok (.dmul, 1)) (hne : vf_n64 (FP.dmul x y)) (hv : FP.dmul x y = v)
    (kk : gG p l e R s m args below meth c D cl A H0 nL Q k n (ws) (pc + 1) (lv) (.double v :: st)) : gG p l e R s m args below meth c D cl A H0 nL Q k n (ws) (pc) (lv) (.double y :: .double x :: st) := by subst hv; exact fun H locs ls hP hD hS hl => lv_dmul C.1 C.2.1 d hne (kk H locs ls hP hD hS hl)
theorem g_dsub (C : gC p s m args c cc own Ts D cl tys A H0 nL) {x y v : UInt64} (d : decode cc pc = .ok (.dsub, 1)) (hne : vf_n64 (FP.dsub x y)) (hv : FP.dsub x y = v)
    (kk : gG p l e R s m args below meth c D cl A H0 nL Q k n (ws) (pc + 1) (lv) (.double v :: st)) : gG p l e R s m args below meth c D cl A H0 nL Q k n (ws) (pc) (lv) (.double y :: .double x :: st) := by subst hv; exact fun H locs ls hP hD hS hl => lv_dsub C.1 C.2.1 d hne (kk H locs ls hP hD hS hl)
theorem g_ddiv (C : gC p s m args c cc own Ts D cl tys A H0 nL) {x y v : UInt64} (d : decode cc pc = .ok (.ddiv, 1)) (hne : vf_n64 (FP.ddiv x y)) (hv : FP.ddiv x y = v)
    (kk : gG p l e R s m args below meth c D cl A H0 nL Q k n (ws) (pc + 1) (lv) (.double v :: st)) : gG p l e R s m args below meth c D cl A H0 nL Q k n (ws) (pc) (lv) (.double y :: .double x :: st) := by subst hv; exact fun H locs ls hP hD hS hl => lv_ddiv C.1 C.2.1 d hne (kk H locs ls hP hD hS hl)
theorem g_dcmp (C : gC p s m args c cc own Ts D cl tys A H0 nL) {x y : UInt64} {op : CmpOp} {v : Int32} (d : decode cc pc = .ok (.dcmp op, 1)) (hv : Op.cmpValue (FP.dcmp x y) op = v)
    (kk : gG p l e R s m args below meth c D cl A H0 nL Q k n (ws) (pc + 1) (lv) (.int v :: st)) : gG p l e R s m args below meth c D cl A H0 nL Q k n (ws) (pc) (lv) (.double y :: .double x :: st) := by subst hv; exact fun H locs ls hP hD hS hl => lv_dcmp C.1 C.2.1 d (kk H locs ls hP hD hS hl)
theorem g_lcmp (C : gC p s m args c cc own Ts D cl tys A H0 nL) {x y : Int64} {v : Int32} (d : decode cc pc = .ok (.lcmp, 1)) (hv : lg_cmp x y = v)
    (kk : gG p l e R s m args below meth c D cl A H0 nL Q k n (ws) (pc + 1) (lv) (.int v :: st)) : gG p l e R s m args below meth c D cl A H0 nL Q k n (ws) (pc) (lv) (.long y :: .long x :: st) := by subst hv; exact fun H locs ls hP hD hS hl => W.lcmp C.1 C.2.1 d (kk H locs ls hP hD hS hl)
theorem g_if_eq (C : gC p s m args c cc own Ts D cl tys A H0 nL) {x : Int32} {off : Int} {tgt : Nat} (d : decode cc pc = .ok (.ifCond .eq off, 3)) (ht : (pc : Int) + off = (tgt : Int))
    (kt : x = 0 → gG p l e R s m args below meth c D cl A H0 nL Q k n (ws) (tgt) (lv) (st)) (kf : ¬ x = 0 → gG p l e R s m args below meth c D cl A H0 nL Q k n (ws) (pc + 3) (lv) (st)) : gG p l e R s m args below meth c D cl A H0 nL Q k n (ws) (pc) (lv) (.int x :: st) := fun H locs ls hP hD hS hl => lv_if_eq C.1 C.2.1 d ht (fun h => kt h H locs ls hP hD hS hl) (fun h => kf h H locs ls hP hD hS hl)
theorem g_icmp_eq (C : gC p s m args c cc own Ts D cl tys A H0 nL) {x y : Int32} {off : Int} {tgt : Nat} (d : decode cc pc = .ok (.if_icmp .eq off, 3)) (ht : (pc : Int) + off = (tgt : Int))
    (kt : x = y → gG p l e R s m args below meth c D cl A H0 nL Q k n (ws) (tgt) (lv) (st)) (kf : ¬ x = y → gG p l e R s m args below meth c D cl A H0 nL Q k n (ws) (pc + 3) (lv) (st)) : gG p l e R s m args below meth c D cl A H0 nL Q k n (ws) (pc) (lv) (.int y :: .int x :: st) := fun H locs ls hP hD hS hl => lv_icmp_eq C.1 C.2.1 d ht (fun h => kt h H locs ls hP hD hS hl) (fun h => kf h H locs ls hP hD hS hl)
theorem g_if_ne (C : gC p s m args c cc own Ts D cl tys A H0 nL) {x : Int32} {off : Int} {tgt : Nat} (d : decode cc pc = .ok (.ifCond .ne off, 3)) (ht : (pc : Int) + off = (tgt : Int))
    (kt : ¬ x = 0 → gG p l e R s m args below meth c D cl A H0 nL Q k n (ws) (tgt) (lv) (st)) (kf : x = 0 → gG p l e R s m args below meth c D cl A H0 nL Q k n (ws) (pc + 3) (lv) (st)) : gG p l e R s m args below meth c D cl A H0 nL Q k n (ws) (pc) (lv) (.int x :: st) := fun H locs ls hP hD hS hl => lv_if_ne C.1 C.2.1 d ht (fun h => kt h H locs ls hP hD hS hl) (fun h => kf h H locs ls hP hD hS hl)
theorem g_icmp_ne (C : gC p s m args c cc own Ts D cl tys A H0 nL) {x y : Int32} {off : Int} {tgt : Nat} (d : decode cc pc = .ok (.if_icmp .ne off, 3)) (ht : (pc : Int) + off = (tgt : Int))
    (kt : ¬ x = y → gG p l e R s m args below meth c D cl A H0 nL Q k n (ws) (tgt) (lv) (st)) (kf : x = y → gG p l e R s m args below meth c D cl A H0 nL Q k n (ws) (pc + 3) (lv) (st)) : gG p l e R s m args below meth c D cl A H0 nL Q k n (ws) (pc) (lv) (.int y :: .int x :: st) := fun H locs ls hP hD hS hl => lv_icmp_ne C.1 C.2.1 d ht (fun h => kt h H locs ls hP hD hS hl) (fun h => kf h H locs ls hP hD hS hl)
theorem g_if_lt (C : gC p s m args c cc own Ts D cl tys A H0 nL) {x : Int32} {off : Int} {tgt : Nat} (d : decode cc pc = .ok (.ifCond .lt off, 3)) (ht : (pc : Int) + off = (tgt : Int))
    (kt : x < 0 → gG p l e R s m args below meth c D cl A H0 nL Q k n (ws) (tgt) (lv) (st)) (kf : ¬ x < 0 → gG p l e R s m args below meth c D cl A H0 nL Q k n (ws) (pc + 3) (lv) (st)) : gG p l e R s m args below meth c D cl A H0 nL Q k n (ws) (pc) (lv) (.int x :: st) := fun H locs ls hP hD hS hl => lv_if_lt C.1 C.2.1 d ht (fun h => kt h H locs ls hP hD hS hl) (fun h => kf h H locs ls hP hD hS hl)
theorem g_icmp_lt (C : gC p s m args c cc own Ts D cl tys A H0 nL) {x y : Int32} {off : Int} {tgt : Nat} (d : decode cc pc = .ok (.if_icmp .lt off, 3)) (ht : (pc : Int) + off = (tgt : Int))
    (kt : x < y → gG p l e R s m args below meth c D cl A H0 nL Q k n (ws) (tgt) (lv) (st)) (kf : ¬ x < y → gG p l e R s m args below meth c D cl A H0 nL Q k n (ws) (pc + 3) (lv) (st)) : gG p l e R s m args below meth c D cl A H0 nL Q k n (ws) (pc) (lv) (.int y :: .int x :: st) := fun H locs ls hP hD hS hl => lv_icmp_lt C.1 C.2.1 d ht (fun h => kt h H locs ls hP hD hS hl) (fun h => kf h H locs ls hP hD hS hl)
theorem g_if_ge (C : gC p s m args c cc own Ts D cl tys A H0 nL) {x : Int32} {off : Int} {tgt : Nat} (d : decode cc pc = .ok (.ifCond .ge off, 3)) (ht : (pc : Int) + off = (tgt : Int))
    (kt : 0 ≤ x → gG p l e R s m args below meth c D cl A H0 nL Q k n (ws) (tgt) (lv) (st)) (kf : ¬ 0 ≤ x → gG p l e R s m args below meth c D cl A H0 nL Q k n (ws) (pc + 3) (lv) (st)) : gG p l e R s m args below meth c D cl A H0 nL Q k n (ws) (pc) (lv) (.int x :: st) := fun H locs ls hP hD hS hl => lv_if_ge C.1 C.2.1 d ht (fun h => kt h H locs ls hP hD hS hl) (fun h => kf h H locs ls hP hD hS hl)
theorem g_icmp_ge (C : gC p s m args c cc own Ts D cl tys A H0 nL) {x y : Int32} {off : Int} {tgt : Nat} (d : decode cc pc = .ok (.if_icmp .ge off, 3)) (ht : (pc : Int) + off = (tgt : Int))
    (kt : y ≤ x → gG p l e R s m args below meth c D cl A H0 nL Q k n (ws) (tgt) (lv) (st)) (kf : ¬ y ≤ x → gG p l e R s m args below meth c D cl A H0 nL Q k n (ws) (pc + 3) (lv) (st)) : gG p l e R s m args below meth c D cl A H0 nL Q k n (ws) (pc) (lv) (.int y :: .int x :: st) := fun H locs ls hP hD hS hl => lv_icmp_ge C.1 C.2.1 d ht (fun h => kt h H locs ls hP hD hS hl) (fun h => kf h H locs ls hP hD hS hl)
theorem g_if_gt (C : gC p s m args c cc own Ts D cl tys A H0 nL) {x : Int32} {off : Int} {tgt : Nat} (d : decode cc pc = .ok (.ifCond .gt off, 3)) (ht : (pc : Int) + off = (tgt : Int))
    (kt : 0 < x → gG p l e R s m args below meth c D cl A H0 nL Q k n (ws) (tgt) (lv) (st)) (kf : ¬ 0 < x → gG p l e R s m args below meth c D cl A H0 nL Q k n (ws) (pc + 3) (lv) (st)) : gG p l e R s m args below meth c D cl A H0 nL Q k n (ws) (pc) (lv) (.int x :: st) := fun H locs ls hP hD hS hl => lv_if_gt C.1 C.2.1 d ht (fun h => kt h H locs ls hP hD hS hl) (fun h => kf h H locs ls hP hD hS hl)
theorem g_icmp_gt (C : gC p s m args c cc own Ts D cl tys A H0 nL) {x y : Int32} {off : Int} {tgt : Nat} (d : decode cc pc = .ok (.if_icmp .gt off, 3)) (ht : (pc : Int) + off = (tgt : Int))
    (kt : y < x → gG p l e R s m args below meth c D cl A H0 nL Q k n (ws) (tgt) (lv) (st)) (kf : ¬ y < x → gG p l e R s m args below meth c D cl A H0 nL Q k n (ws) (pc + 3) (lv) (st)) : gG p l e R s m args below meth c D cl A H0 nL Q k n (ws) (pc) (lv) (.int y :: .int x :: st) := fun H locs ls hP hD hS hl => lv_icmp_gt C.1 C.2.1 d ht (fun h => kt h H locs ls hP hD hS hl) (fun h => kf h H locs ls hP hD hS hl)
theorem g_if_le (C : gC p s m args c cc own Ts D cl tys A H0 nL) {x : Int32} {off : Int} {tgt : Nat} (d : decode cc pc = .ok (.ifCond .le off, 3)) (ht : (pc : Int) + off = (tgt : Int))
    (kt : x ≤ 0 → gG p l e R s m args below meth c D cl A H0 nL Q k n (ws) (tgt) (lv) (st)) (kf : ¬ x ≤ 0 → gG p l e R s m args below meth c D cl A H0 nL Q k n (ws) (pc + 3) (lv) (st)) : gG p l e R s m args below meth c D cl A H0 nL Q k n (ws) (pc) (lv) (.int x :: st) := fun H locs ls hP hD hS hl => lv_if_le C.1 C.2.1 d ht (fun h => kt h H locs ls hP hD hS hl) (fun h => kf h H locs ls hP hD hS hl)
theorem g_icmp_le (C : gC p s m args c cc own Ts D cl tys A H0 nL) {x y : Int32} {off : Int} {tgt : Nat} (d : decode cc pc = .ok (.if_icmp .le off, 3)) (ht : (pc : Int) + off = (tgt : Int))
    (kt : x ≤ y → gG p l e R s m args below meth c D cl A H0 nL Q k n (ws) (tgt) (lv) (st)) (kf : ¬ x ≤ y → gG p l e R s m args below meth c D cl A H0 nL Q k n (ws) (pc + 3) (lv) (st)) : gG p l e R s m args below meth c D cl A H0 nL Q k n (ws) (pc) (lv) (.int y :: .int x :: st) := fun H locs ls hP hD hS hl => lv_icmp_le C.1 C.2.1 d ht (fun h => kt h H locs ls hP hD hS hl) (fun h => kf h H locs ls hP hD hS hl)
theorem g_goto (C : gC p s m args c cc own Ts D cl tys A H0 nL) {off : Int} {tgt : Nat} (d : decode cc pc = .ok (.goto off, 3)) (ht : (pc : Int) + off = (tgt : Int))
    (kk : gG p l e R s m args below meth c D cl A H0 nL Q k n (ws) (tgt) (lv) (st)) : gG p l e R s m args below meth c D cl A H0 nL Q k n (ws) (pc) (lv) (st) := fun H locs ls hP hD hS hl => lv_goto C.1 C.2.1 d ht (kk H locs ls hP hD hS hl)
theorem g_ldc (C : gC p s m args c cc own Ts D cl tys A H0 nL) {index : Nat} {v : Int32} (d : decode cc pc = .ok (.ldc index, 2)) (hw : Jvm.Cond.constant own index v ∈ Ts)
    (kk : gG p l e R s m args below meth c D cl A H0 nL Q k n (ws) (pc + 2) (lv) (.int v :: st)) : gG p l e R s m args below meth c D cl A H0 nL Q k n (ws) (pc) (lv) (st) := fun H locs ls hP hD hS hl => lv_ldc C.1 C.2.1 C.2.2.2.1 (C.2.2.2.2.1 _ hw) d (kk H locs ls hP hD hS hl)
theorem g_ldc2 (C : gC p s m args c cc own Ts D cl tys A H0 nL) {index : Nat} {v : Int64} (d : decode cc pc = .ok (.ldc2_w index, 3)) (hw : Jvm.Cond.constantLong own index v ∈ Ts)
    (kk : gG p l e R s m args below meth c D cl A H0 nL Q k n (ws) (pc + 3) (lv) (.long v :: st)) : gG p l e R s m args below meth c D cl A H0 nL Q k n (ws) (pc) (lv) (st) := fun H locs ls hP hD hS hl => lv_ldc2 C.1 C.2.1 C.2.2.2.1 (C.2.2.2.2.1 _ hw) d (kk H locs ls hP hD hS hl)
theorem g_ldc2d (C : gC p s m args c cc own Ts D cl tys A H0 nL) {index : Nat} {v : UInt64} (d : decode cc pc = .ok (.ldc2_w index, 3)) (hw : Jvm.Cond.constantDouble own index v ∈ Ts)
    (kk : gG p l e R s m args below meth c D cl A H0 nL Q k n (ws) (pc + 3) (lv) (.double v :: st)) : gG p l e R s m args below meth c D cl A H0 nL Q k n (ws) (pc) (lv) (st) := fun H locs ls hP hD hS hl => lv_ldc2d C.1 C.2.1 C.2.2.2.1 (C.2.2.2.2.1 _ hw) d (kk H locs ls hP hD hS hl)
theorem g_tableIn (C : gC p s m args c cc own Ts D cl tys A H0 nL) {dflt lo hi : Int} {offs : Array Int} {len : Nat} {x : Int32} {off : Int} {tgt : Nat} (d : decode cc pc = .ok (.tableswitch dflt lo hi offs, len)) (h1 : ¬ x.toInt < lo) (h2 : ¬ hi < x.toInt) (ho : offs[(x.toInt - lo).toNat]? = some off) (ht : (pc : Int) + off = (tgt : Int))
    (kk : gG p l e R s m args below meth c D cl A H0 nL Q k n (ws) (tgt) (lv) (st)) : gG p l e R s m args below meth c D cl A H0 nL Q k n (ws) (pc) (lv) (.int x :: st) := fun H locs ls hP hD hS hl => lv_tableIn C.1 C.2.1 d h1 h2 ho ht (kk H locs ls hP hD hS hl)
theorem g_tableOut (C : gC p s m args c cc own Ts D cl tys A H0 nL) {dflt lo hi : Int} {offs : Array Int} {len : Nat} {x : Int32} {tgt : Nat} (d : decode cc pc = .ok (.tableswitch dflt lo hi offs, len)) (h : x.toInt < lo ∨ hi < x.toInt) (ht : (pc : Int) + dflt = (tgt : Int))
    (kk : gG p l e R s m args below meth c D cl A H0 nL Q k n (ws) (tgt) (lv) (st)) : gG p l e R s m args below meth c D cl A H0 nL Q k n (ws) (pc) (lv) (.int x :: st) := fun H locs ls hP hD hS hl => lv_tableOut C.1 C.2.1 d h ht (kk H locs ls hP hD hS hl)
theorem g_lv (ks : List Nat) {lv' : List (Nat × Value)} (hl' : lv_pick lv ks = lv') (kk : gG p l e R s m args below meth c D cl A H0 nL Q k n (ws) (pc) (lv') (st)) : gG p l e R s m args below meth c D cl A H0 nL Q k n (ws) (pc) (lv) (st) := fun H locs ls hP hD hS hl => kk H locs ls hP hD hS (lv_sub hl ks hl')
theorem g_ws {ws' : va_W} (h : ws = ws') (kk : gG p l e R s m args below meth c D cl A H0 nL Q k n (ws') (pc) (lv) (st)) : gG p l e R s m args below meth c D cl A H0 nL Q k n (ws) (pc) (lv) (st) := by subst h; exact kk
theorem g_pc {pc' : Nat} (h : pc = pc') (kk : gG p l e R s m args below meth c D cl A H0 nL Q k n (ws) (pc') (lv) (st)) : gG p l e R s m args below meth c D cl A H0 nL Q k n (ws) (pc) (lv) (st) := by subst h; exact kk
theorem g_perm (ps : List Nat) {ws' : va_W} (h1 : va_nd ps = true) (h2 : ps.map (fun i => ws[i]?) = ws'.map some) (h3 : ps.filterMap (fun i => ws[i]?) = ws') (kk : gG p l e R s m args below meth c D cl A H0 nL Q k n (ws') (pc) (lv) (st)) : gG p l e R s m args below meth c D cl A H0 nL Q k n (ws) (pc) (lv) (st) := fun H locs ls hP hD hS hl => kk H locs ls (hP.sub ps h3) (hD.sub ps h1 h2) hS hl
theorem g_wid {k' n' : Nat} (h1 : k ≤ k') (h2 : n ≤ n') (kk : gG p l e R s m args below meth c D cl A H0 nL Q k' n' (ws) (pc) (lv) (st)) : gG p l e R s m args below meth c D cl A H0 nL Q k n (ws) (pc) (lv) (st) := fun H locs ls hP hD hS hl => W.widen h1 h2 (kk H locs ls hP hD hS hl)
theorem g_get (C : gC p s m args c cc own Ts D cl tys A H0 nL) {C0 : String} {T : u_T} {N ci index a : Nat} {fs : List Value} {v : Value} (hin : ∀ w ∈ u_ws C0 T N, w ∈ Ts) (q0 : Nat) (he : ws[q0]? = some (a, .inr (ci, fs))) (hc : cl[ci]? = some (C0, T, N)) (j : Nat) (hj : j < N) (hlink : Cond.fieldLink own index (T j).1 (T j).2.1 (T j).2.2.1 ∈ Ts) (hv : fs[j]? = some v) (d : decode cc pc = .ok (.getfield index, 3))
    (kk : gG p l e R s m args below meth c D cl A H0 nL Q k n (ws) (pc + 3) (lv) (v :: st)) : gG p l e R s m args below meth c D cl A H0 nL Q k n (ws) (pc) (lv) (.ref a :: st) := fun H locs ls hP hD hS hl => va_get C.1 C.2.1 C.2.2.2.2.1 hin C.2.2.2.1 C.2.2.2.2.2.1 hP q0 he hc j hj (C.2.2.2.2.1 _ hlink) (fun _ h => h) hv d (kk H locs ls hP hD hS hl)
theorem g_put (C : gC p s m args c cc own Ts D cl tys A H0 nL) {C0 : String} {T : u_T} {N ci index a : Nat} {fs : List Value} {v : Value} {ty : FieldType} {ws' : va_W} (hin : ∀ w ∈ u_ws C0 T N, w ∈ Ts) (ty0 : Nat → FieldType) (hty : ∀ k, k < N → parseFieldDescriptor (T k).2.2.1 = some (ty0 k)) (hnm : ∀ a, a < N → ∀ b, b < N → a ≠ b → (T a).2.1 ≠ (T b).2.1) (q0 : Nat) (he : ws[q0]? = some (a, .inr (ci, fs))) (hc : cl[ci]? = some (C0, T, N)) (j : Nat) (hj : j < N) (hlink : Cond.fieldLink own index (T j).1 (T j).2.1 (T j).2.2.1 ∈ Ts) (hfin : (T j).2.2.2 = false) (hd : parseFieldDescriptor (T j).2.2.1 = some ty) (hnr : narrow ty v = v) (hfit : fits ty v = true) (hlt : j < fs.length) (d : decode cc pc = .ok (.putfield index, 3)) (hw : ws.set q0 (a, .inr (ci, fs.set j v)) = ws')
    (kk : gG p l e R s m args below meth c D cl A H0 nL Q k n (ws') (pc + 3) (lv) (st)) : gG p l e R s m args below meth c D cl A H0 nL Q k n (ws) (pc) (lv) (v :: .ref a :: st) := by
  subst hw
  exact fun H locs ls hP hD hS hl => va_put C.1 C.2.1 C.2.2.2.2.1 hin ty0 hty hnm C.2.2.2.1 C.2.2.2.2.2.1 hP hD hS q0 he hc j hj (C.2.2.2.2.1 _ hlink) (fun _ h => h) hfin hd hnr hfit hlt d (fun H1 locs1 hP1 hD1 hS1 => kk H1 locs1 ls hP1 hD1 hS1 hl)
theorem g_putF (C : gC p s m args c cc own Ts D cl tys A H0 nL) {C0 : String} {T : u_T} {N ci index a : Nat} {fs : List Value} {v : Value} {ty : FieldType} {ws' : va_W} (hin : ∀ w ∈ u_ws C0 T N, w ∈ Ts) (ty0 : Nat → FieldType) (hty : ∀ k, k < N → parseFieldDescriptor (T k).2.2.1 = some (ty0 k)) (hnm : ∀ a, a < N → ∀ b, b < N → a ≠ b → (T a).2.1 ≠ (T b).2.1) (q0 : Nat) (he : ws[q0]? = some (a, .inr (ci, fs))) (hc : cl[ci]? = some (C0, T, N)) (j : Nat) (hj : j < N) (hlink : Cond.fieldLink own index (T j).1 (T j).2.1 (T j).2.2.1 ∈ Ts) (hfin : (T j).2.2.2 = true) (hin2 : meth.name = "<init>") (hdecl : (T j).1 = own) (hd : parseFieldDescriptor (T j).2.2.1 = some ty) (hnr : narrow ty v = v) (hfit : fits ty v = true) (hlt : j < fs.length) (d : decode cc pc = .ok (.putfield index, 3)) (hw : ws.set q0 (a, .inr (ci, fs.set j v)) = ws')
    (kk : gG p l e R s m args below meth c D cl A H0 nL Q k n (ws') (pc + 3) (lv) (st)) : gG p l e R s m args below meth c D cl A H0 nL Q k n (ws) (pc) (lv) (v :: .ref a :: st) := by
  subst hw
  exact fun H locs ls hP hD hS hl => va_putF C.1 C.2.1 C.2.2.2.2.1 hin ty0 hty hnm C.2.2.2.1 C.2.2.2.2.2.1 hP hD hS q0 he hc j hj (C.2.2.2.2.1 _ hlink) (fun _ h => h) hfin hin2 hdecl hd hnr hfit hlt d (fun H1 locs1 hP1 hD1 hS1 => kk H1 locs1 ls hP1 hD1 hS1 hl)
theorem g_iald (C : gC p s m args c cc own Ts D cl tys A H0 nL) {a : Nat} {cA : ClassId} {N : Nat} {f : Nat → Int32} {i : Int32} {x : Int32} (q0 t0 : Nat) (ha : ws[q0]? = some (a, .inl (cA, N, .inl f))) (ht : tys[t0]? = some (cA, .int)) (j : Nat) (hi : i = nI j) (hj : j < N) (hN : N < 2 ^ 31) (hx : f j = x) (d : decode cc pc = .ok (.iaload, 1))
    (kk : gG p l e R s m args below meth c D cl A H0 nL Q k n (ws) (pc + 1) (lv) (.int x :: st)) : gG p l e R s m args below meth c D cl A H0 nL Q k n (ws) (pc) (lv) (.int i :: .ref a :: st) := by
  subst hi; subst hx
  intro H locs ls hP hD hS hl
  refine va_iald C.1 C.2.1 C.2.2.2.2.2.1 hP q0 t0 ha ht (vp_in_nI hj hN) d ?_
  rw [nI_clamp (Nat.lt_trans hj hN)]
  exact kk H locs ls hP hD hS hl
theorem g_lald (C : gC p s m args c cc own Ts D cl tys A H0 nL) {a : Nat} {cA : ClassId} {N : Nat} {f : Nat → Int64} {i : Int32} {x : Int64} (q0 t0 : Nat) (ha : ws[q0]? = some (a, .inl (cA, N, .inr (.inl f)))) (ht : tys[t0]? = some (cA, .long)) (j : Nat) (hi : i = nI j) (hj : j < N) (hN : N < 2 ^ 31) (hx : f j = x) (d : decode cc pc = .ok (.laload, 1))
    (kk : gG p l e R s m args below meth c D cl A H0 nL Q k n (ws) (pc + 1) (lv) (.long x :: st)) : gG p l e R s m args below meth c D cl A H0 nL Q k n (ws) (pc) (lv) (.int i :: .ref a :: st) := by
  subst hi; subst hx
  intro H locs ls hP hD hS hl
  refine va_lald C.1 C.2.1 C.2.2.2.2.2.1 hP q0 t0 ha ht (vp_in_nI hj hN) d ?_
  rw [nI_clamp (Nat.lt_trans hj hN)]
  exact kk H locs ls hP hD hS hl
theorem g_iast (C : gC p s m args c cc own Ts D cl tys A H0 nL) {a : Nat} {cA : ClassId} {N : Nat} {f : Nat → Int32} {i : Int32} {x : Int32} {ws' : va_W} (q0 t0 : Nat) (ha : ws[q0]? = some (a, .inl (cA, N, .inl f))) (ht : tys[t0]? = some (cA, .int)) (j : Nat) (hi : i = nI j) (hj : j < N) (hN : N < 2 ^ 31) (d : decode cc pc = .ok (.iastore, 1)) (hw : ws.set q0 (a, .inl (cA, N, .inl (upd f j x))) = ws')
    (kk : gG p l e R s m args below meth c D cl A H0 nL Q k n (ws') (pc + 1) (lv) (st)) : gG p l e R s m args below meth c D cl A H0 nL Q k n (ws) (pc) (lv) (.int x :: .int i :: .ref a :: st) := by
  subst hi; subst hw
  intro H locs ls hP hD hS hl
  refine va_iast C.1 C.2.1 C.2.2.2.2.2.1 hP hD hS q0 t0 ha ht (vp_in_nI hj hN) d ?_
  rw [nI_clamp (Nat.lt_trans hj hN)]
  exact fun H1 locs1 hP1 hD1 hS1 => kk H1 locs1 ls hP1 hD1 hS1 hl
theorem g_last (C : gC p s m args c cc own Ts D cl tys A H0 nL) {a : Nat} {cA : ClassId} {N : Nat} {f : Nat → Int64} {i : Int32} {x : Int64} {ws' : va_W} (q0 t0 : Nat) (ha : ws[q0]? = some (a, .inl (cA, N, .inr (.inl f)))) (ht : tys[t0]? = some (cA, .long)) (j : Nat) (hi : i = nI j) (hj : j < N) (hN : N < 2 ^ 31) (d : decode cc pc = .ok (.lastore, 1)) (hw : ws.set q0 (a, .inl (cA, N, .inr (.inl (vp_updL f j x)))) = ws')
    (kk : gG p l e R s m args below meth c D cl A H0 nL Q k n (ws') (pc + 1) (lv) (st)) : gG p l e R s m args below meth c D cl A H0 nL Q k n (ws) (pc) (lv) (.long x :: .int i :: .ref a :: st) := by
  subst hi; subst hw
  intro H locs ls hP hD hS hl
  refine va_last C.1 C.2.1 C.2.2.2.2.2.1 hP hD hS q0 t0 ha ht (vp_in_nI hj hN) d ?_
  rw [nI_clamp (Nat.lt_trans hj hN)]
  exact fun H1 locs1 hP1 hD1 hS1 => kk H1 locs1 ls hP1 hD1 hS1 hl
theorem g_aldq (C : gC p s m args c cc own Ts D cl tys A H0 nL) {a : Nat} {cA : ClassId} {N : Nat} {C0 : String} {f : Nat → Option Nat} {i : Int32} {x : Value} (q0 t0 : Nat) (ha : ws[q0]? = some (a, .inl (cA, N, .inr (.inr (.inr (.inr f)))))) (ht : tys[t0]? = some (cA, .object C0)) (j : Nat) (hi : i = nI j) (hj : j < N) (hN : N < 2 ^ 31) (hx : va_rf (f j) = x) (d : decode cc pc = .ok (.aaload, 1))
    (kk : gG p l e R s m args below meth c D cl A H0 nL Q k n (ws) (pc + 1) (lv) (x :: st)) : gG p l e R s m args below meth c D cl A H0 nL Q k n (ws) (pc) (lv) (.int i :: .ref a :: st) := by
  subst hi; subst hx
  intro H locs ls hP hD hS hl
  refine va_aldq C.1 C.2.1 C.2.2.2.2.2.1 hP q0 t0 ha ht (vp_in_nI hj hN) d ?_
  rw [nI_clamp (Nat.lt_trans hj hN)]
  exact kk H locs ls hP hD hS hl
theorem g_abs (C : gC p s m args c cc own Ts D cl tys A H0 nL) {index : Nat} {x v : Int32} (d : decode cc pc = .ok (.invokestatic index, 3)) (h1 : Cond.methodLink own index Lib.Math.abs.name ∈ Ts) (h2 : Cond.static Lib.Math.abs.name ∈ Ts) (h3 : Cond.initialized "java/lang/Math" ∈ Ts) (h4 : Cond.code Lib.Math.abs.name Lib.Math.abs.code 1 (some .int) ∈ Ts) (hf : 1 ≤ R.frames) (hlo : (st.map fun v => v.category).sum + 13 ≤ R.locals) (hc : k ≤ R.cells) (hs : n ≤ R.slots) (hv : (if 0 ≤ x then x else 0 - x) = v)
    (kk : gG p l e R s m args below meth c D cl A H0 nL Q k n (ws) (pc + 3) (lv) (.int v :: st)) : gG p l e R s m args below meth c D cl A H0 nL Q k n (ws) (pc) (lv) (.int x :: st) := by
  subst hv
  exact fun H locs ls hP hD hS hl => va_mabs C.1 C.2.1 (C.2.2.1.trans hl.1.symm) C.2.2.2.1 (C.2.2.2.2.1 _ h1) (C.2.2.2.2.1 _ h2) (C.2.2.2.2.1 _ h3) (C.2.2.2.2.1 _ h4) hf hlo hc hs d (kk H locs ls hP hD hS hl)
theorem g_objInit (C : gC p s m args c cc own Ts D cl tys A H0 nL) {index a : Nat} (d : decode cc pc = .ok (.invokespecial index, 3)) (h1 : Cond.methodLink own index Lib.objectInit ∈ Ts) (h2 : Cond.instanceMethod Lib.objectInit ∈ Ts) (h3 : Cond.code Lib.objectInit ⟨#[0xb1]⟩ 1 none ∈ Ts) (hf : 1 ≤ R.frames) (hlo : (st.map fun v => v.category).sum + 12 ≤ R.locals)
    (kk : gG p l e R s m args below meth c D cl A H0 nL Q k n (ws) (pc + 3) (lv) (st)) : gG p l e R s m args below meth c D cl A H0 nL Q k n (ws) (pc) (lv) (.ref a :: st) := by
  intro H locs ls hP hD hS hl
  refine W.objInit C.1 C.2.1 C.2.2.2.1 (C.2.2.2.2.1 _ h1) (C.2.2.2.2.1 _ h2) (C.2.2.2.2.1 _ h3) rfl (hl.1.trans C.2.2.1.symm) rfl d hf (by show 2 * 0 + _ + 12 ≤ _; omega) ?_
  exact kk H locs ls hP hD hS hl
end GL

section GW
variable {p : Program} {l : Launch} {e : Env} {R : Room} {s : State} {m : MethodId} {args : Array Value} {below : List Frame} {meth : Method} {c : Code} {D : va_G} {cl : List vw_C} {A : Nat → Prop} {H0 : Heap} {nL : Nat} {Q : State → Prop} {k n : Nat} {ws : va_W} {pc : Nat} {lv : List (Nat × Value)} {st : List Value}
theorem g_wsE {ws' : va_W} (h : ∀ H : Heap, va_P D cl ws H → va_P D cl ws' H) (h2 : va_D A ws → va_D A ws') (kk : gG p l e R s m args below meth c D cl A H0 nL Q k n ws' pc lv st) : gG p l e R s m args below meth c D cl A H0 nL Q k n ws pc lv st := fun H locs ls hP hD hS hl => kk H locs ls (h H hP) (h2 hD) hS hl
end GW
/-! worlds side by side -/
section WJ
variable {D : va_G} {cl : List vw_C} {A : Nat → Prop} {a b : va_W} {H H1 : Heap}
theorem wl_in {x y : va_W} {i : Nat} {q : Nat × va_E} (h : x[i]? = some q) : (x ++ y)[i]? = some q := by
  rw [List.getElem?_append_left (List.getElem?_eq_some_iff.mp h).1]; exact h
theorem wr_in {x y : va_W} {i : Nat} {q : Nat × va_E} (h : y[i]? = some q) : (x ++ y)[x.length + i]? = some q := by
  rw [List.getElem?_append_right (Nat.le_add_right _ _), Nat.add_sub_cancel_left]; exact h
theorem wP_l (h : va_P D cl (a ++ b) H) : va_P D cl a H := fun i q hq => h i q (wl_in hq)
theorem wP_r (h : va_P D cl (a ++ b) H) : va_P D cl b H := fun i q hq => h _ q (wr_in hq)
theorem wD_l (h : va_D A (a ++ b)) : va_D A a := ⟨fun i j p q hi hj he => h.1 i j p q (wl_in hi) (wl_in hj) he, fun i q hq => h.2 i q (wl_in hq)⟩
theorem wD_r (h : va_D A (a ++ b)) : va_D A b := ⟨fun i j p q hi hj he => by have := h.1 _ _ p q (wr_in (x := a) hi) (wr_in (x := a) hj) he; omega, fun i q hq => h.2 _ q (wr_in (x := a) hq)⟩
theorem wD_x (h : va_D A (a ++ b)) {i j : Nat} {p q : Nat × va_E} (hi : a[i]? = some p) (hj : b[j]? = some q) : p.1 ≠ q.1 := fun he => by
  have h1 := h.1 i _ p q (wl_in hi) (wr_in (x := a) hj) he
  have h2 := (List.getElem?_eq_some_iff.mp hi).1
  omega
theorem wD_xs (h : va_D A (a ++ b)) {i j : Nat} {p q : Nat × va_E} (hi : a[i]? = some p) (hj : b[j]? = some q) : q.1 ≠ p.1 := fun he => wD_x h hi hj he.symm
theorem w_join {pre wc post w1 : va_W} (hP : va_P D cl (pre ++ (wc ++ post)) H) (hD : va_D A (pre ++ (wc ++ post))) (hk : ∀ q : Nat, q < H.size → ¬ va_A wc H.size q → H1[q]? = H[q]?) (hF : ∀ q, va_A wc H.size q → A q)
    (hP1 : va_P D cl w1 H1) (hD1 : va_D (va_A wc H.size) w1) : va_P D cl (pre ++ (w1 ++ post)) H1 ∧ va_D A (pre ++ (w1 ++ post)) := by
  have dp := wD_l hD
  have dr := wD_r hD
  have dq := wD_r dr
  have pp := wP_l hP
  have pq := wP_r (wP_r hP)
  have ap : ∀ (i : Nat) (q : Nat × va_E), pre[i]? = some q → q.1 < H.size ∧ ¬ va_A wc H.size q.1 := fun i q hq => ⟨(pp i q hq).lt, fun h => by
    rcases h with ⟨j, e, hj⟩ | h
    · exact wD_x hD hq (wl_in hj) rfl
    · have := (pp i q hq).lt
      omega⟩
  have aq : ∀ (i : Nat) (q : Nat × va_E), post[i]? = some q → q.1 < H.size ∧ ¬ va_A wc H.size q.1 := fun i q hq => ⟨(pq i q hq).lt, fun h => by
    rcases h with ⟨j, e, hj⟩ | h
    · exact wD_x dr hj hq rfl
    · have := (pq i q hq).lt
      omega⟩
  refine ⟨va_P.app (fun i q hq => (pp i q hq).kept (hk q.1 (ap i q hq).1 (ap i q hq).2)) (va_P.app hP1 (fun i q hq => (pq i q hq).kept (hk q.1 (aq i q hq).1 (aq i q hq).2))), ?_⟩
  refine va_D.app dp (va_D.app (hD1.weaken (fun _ q _ h => hF q.1 h)) dq (fun i j x y hx hy hxy => (aq j y hy).2 (by rw [← hxy]; exact hD1.2 i x hx))) (fun i j x y hx hy hxy => ?_)
  rcases Nat.lt_or_ge j w1.length with hj | hj
  · rw [List.getElem?_append_left hj] at hy
    exact (ap i x hx).2 (by rw [hxy]; exact hD1.2 j y hy)
  · rw [List.getElem?_append_right hj] at hy
    exact wD_x hD hx (wr_in (x := wc) hy) hxy
theorem w_free {pre wc post : va_W} {H0 : Heap} {locs : List Loc} (hD : va_D A (pre ++ (wc ++ post))) (hS : va_S A H0 H locs) (hA : ∀ q : Nat, H0.size ≤ q → A q) : ∀ q, va_A wc H.size q → A q := fun q h => by
  rcases h with ⟨j, e, hj⟩ | h
  · exact (wD_l (wD_r hD)).2 j (q, e) hj
  · exact hA q (Nat.le_trans hS.1 h)
end WJ
/-! contracts: a start (arguments, a heap of sz cells, a world), and an end that is one answer and one world -/
def cPre (F : Vm → Prop) (D : va_G) (cl : List vw_C) (tys : List (ClassId × FieldType)) (av : List Value) (wc : va_W) (sz : Nat) : Array Value → State → Prop :=
  va_Pc av (fun U => F U.vm ∧ U.heap.size = sz ∧ va_P D cl wc U.heap ∧ va_K D cl tys U ∧ va_D (fun _ => True) wc)
def cB (D : va_G) (cl : List vw_C) (tys : List (ClassId × FieldType)) (A : Nat → Prop) (w1 : va_W) : State → Prop := fun t => va_P D cl w1 t.heap ∧ va_K D cl tys t ∧ va_D A w1
def cQ (v : Option Value) (B : State → Prop) (A : Nat → Prop) : Array Value → State → Outcome → State → Prop := fun _ st oc t => oc = .returned v ∧ B t ∧ va_F A st t
def cR (F : Vm → Prop) (l : Launch) (y : MethodName) (wsY : List Cond) (rm : Room) (D : va_G) (cl : List vw_C) (tys : List (ClassId × FieldType)) (av : List Value) (wc : va_W) (v : Option Value) (w1 : va_W) : Prop :=
  ∀ sz : Nat, Met l y wsY rm (cPre F D cl tys av wc sz) (cQ v (cB D cl tys (va_A wc sz) w1) (va_A wc sz)) 0 0 (va_A wc sz)
theorem cPre_blind (F : Vm → Prop) (D : va_G) (cl : List vw_C) (tys : List (ClassId × FieldType)) (av : List Value) (wc : va_W) (sz : Nat) : FrameBlind (cPre F D cl tys av wc sz) := fun a U g mk q => by
  obtain ⟨q0, qF, q1, qP, qK, qD⟩ := q
  exact ⟨q0, qF, q1, qP, va_K.moved (u := U) (U := U.calling g mk a) (Vm.Alike.refl U.vm) qK, qD⟩
section CR
variable {F : Vm → Prop} {l : Launch} {y : MethodName} {wsY ws' : List Cond} {rm : Room} {D : va_G} {cl : List vw_C} {tys : List (ClassId × FieldType)} {av : List Value} {wc w1 : va_W} {v : Option Value} {cc : ByteArray} {maxL : Nat} {ret : Option FieldType}
theorem cR_of (hy : plainName y.cls = true) (hw : wsY = Cond.code y cc maxL ret :: ws') (hlen : (lg_sl av).length ≤ maxL)
    (body : ∀ (p : Program) (e : Env) (s : State) (m : MethodId) (below : List Frame) (meth : Method) (c : Code) (A : Nat → Prop), gC p s m av.toArray c cc y.cls wsY D cl tys A s.heap maxL → meth.sig.returnType = ret → meth.locks = false → meth.name = y.name → F s.vm →
      gG p l e rm s m av.toArray below meth c D cl A s.heap maxL (MQ below (cQ v (cB D cl tys A w1) A) av.toArray s 0 0 A) 0 0 wc 0 (lv_args 0 av) []) : cR F l y wsY rm D cl tys av wc v w1 := by
  intro sz
  refine Met.ofW (cc := cc) (maxL := maxL) (ret := ret) hy hw ?_
  intro p e s m args below meth c s₁ B hml hv
  obtain ⟨rfl, hF, hsz, hP, hK, hD0⟩ := hv
  subst hsz
  have hD := hD0.self (sz := s.heap.size)
  generalize hAe : va_A wc s.heap.size = A at hD ⊢
  have hA : ∀ q : Nat, s.heap.size ≤ q → A q := fun q h => by rw [← hAe]; exact Or.inr h
  have hl := lv_entry av (n := maxL) hlen
  rw [lg_entry_eq]
  exact body p e s m below meth c A ⟨B.exec, B.bytes, hml, findClass_of_methodNamed B.named, atoms_spec (ws := wsY) B.pre, hK, hA⟩ B.returns B.notSynchronized (name_of_methodNamed B.named B.method).1 hF s.heap [] _ hP hD va_S.rf hl
end CR
section GR
variable {p : Program} {l : Launch} {e : Env} {R : Room} {s : State} {m : MethodId} {args : Array Value} {below : List Frame} {meth : Method} {c : Code} {cc : ByteArray} {own : String} {Ts : List Cond} {D : va_G} {cl : List vw_C} {tys : List (ClassId × FieldType)} {A : Nat → Prop} {H0 : Heap} {nL : Nat} {Q : State → Prop} {k n : Nat} {ws : va_W} {pc : Nat} {lv : List (Nat × Value)} {st : List Value} {w1 : va_W}
theorem g_iret (C : gC p s m args c cc own Ts D cl tys A s.heap nL) (hr : meth.sig.returnType = some .int) (hlk : meth.locks = false) (d : decode cc pc = .ok (.ireturn, 1)) {x r : Int32} (hv : x = r) (hw : ws = w1) :
    gG p l e R s m args below meth c D cl A s.heap nL (MQ below (cQ (some (.int r)) (cB D cl tys A w1) A) args s k n A) k n ws pc lv [.int x] := by
  subst hv; subst hw
  intro H locs ls hP hD hS hl
  exact W.iret C.1 C.2.1 hr (fun t ht hW => ⟨rfl, ⟨by rw [ht]; exact hP, va_K.moved hW.alike C.2.2.2.2.2.1, hD⟩, hS.F ht⟩) hS.2.2 d hlk
theorem g_zret (C : gC p s m args c cc own Ts D cl tys A s.heap nL) (hr : meth.sig.returnType = some .boolean) (hlk : meth.locks = false) (d : decode cc pc = .ok (.ireturn, 1)) {x r : Int32} (hb01 : x = 0 ∨ x = 1) (hv : x = r) (hw : ws = w1) :
    gG p l e R s m args below meth c D cl A s.heap nL (MQ below (cQ (some (.int r)) (cB D cl tys A w1) A) args s k n A) k n ws pc lv [.int x] := by
  subst hv; subst hw
  intro H locs ls hP hD hS hl
  exact W.zret C.1 C.2.1 hr (by rcases hb01 with h | h <;> subst h <;> rfl) (fun t ht hW => ⟨rfl, ⟨by rw [ht]; exact hP, va_K.moved hW.alike C.2.2.2.2.2.1, hD⟩, hS.F ht⟩) hS.2.2 d hlk
theorem g_lret (C : gC p s m args c cc own Ts D cl tys A s.heap nL) (hr : meth.sig.returnType = some .long) (hlk : meth.locks = false) (d : decode cc pc = .ok (.lreturn, 1)) {x r : Int64} (hv : x = r) (hw : ws = w1) :
    gG p l e R s m args below meth c D cl A s.heap nL (MQ below (cQ (some (.long r)) (cB D cl tys A w1) A) args s k n A) k n ws pc lv [.long x] := by
  subst hv; subst hw
  intro H locs ls hP hD hS hl
  exact W.lret C.1 C.2.1 hr (fun t ht hW => ⟨rfl, ⟨by rw [ht]; exact hP, va_K.moved hW.alike C.2.2.2.2.2.1, hD⟩, hS.F ht⟩) hS.2.2 d hlk
theorem g_dret (C : gC p s m args c cc own Ts D cl tys A s.heap nL) (hr : meth.sig.returnType = some .double) (hlk : meth.locks = false) (d : decode cc pc = .ok (.dreturn, 1)) {x r : UInt64} (hv : x = r) (hw : ws = w1) :
    gG p l e R s m args below meth c D cl A s.heap nL (MQ below (cQ (some (.double r)) (cB D cl tys A w1) A) args s k n A) k n ws pc lv [.double x] := by
  subst hv; subst hw
  intro H locs ls hP hD hS hl
  exact W.dret C.1 C.2.1 hr (fun t ht hW => ⟨rfl, ⟨by rw [ht]; exact hP, va_K.moved hW.alike C.2.2.2.2.2.1, hD⟩, hS.F ht⟩) hS.2.2 d hlk
theorem g_vret (C : gC p s m args c cc own Ts D cl tys A s.heap nL) (hr : meth.sig.returnType = none) (hlk : meth.locks = false) (d : decode cc pc = .ok (.return_, 1)) (hw : ws = w1) :
    gG p l e R s m args below meth c D cl A s.heap nL (MQ below (cQ none (cB D cl tys A w1) A) args s k n A) k n ws pc lv [] := by
  subst hw
  intro H locs ls hP hD hS hl
  exact W.vret C.1 C.2.1 hr (fun t ht hW => ⟨rfl, ⟨by rw [ht]; exact hP, va_K.moved hW.alike C.2.2.2.2.2.1, hD⟩, hS.F ht⟩) hS.2.2 d hlk
/-- a call by a contract cR: the callee's cells stand side by side in the world -/
theorem g_run {v : Option Value} {pre wc post w1 ws' : va_W} {rest : List Value} {a : Array Value} {mc ms : Nat} (C : gC p s m args c cc own Ts D cl tys A H0 nL) (hsp : ws = pre ++ (wc ++ post)) (hres : pre ++ (w1 ++ post) = ws') {tysY : List (ClassId × FieldType)}
    (run : ∀ (H : Heap) (locs : List Loc) (ls : Array Slot), va_P D cl wc H → va_D (fun _ => True) wc → lv_has ls nL lv → va_Run p l e R s m args below meth c H locs k n mc ms (F0 m pc ls st) rest (cQ v (cB D cl tysY (va_A wc H.size) w1) (va_A wc H.size) a) (va_A wc H.size))
    (kk : gG p l e R s m args below meth c D cl A H0 nL Q (k + mc) (n + ms) ws' (pc + 3) lv (v.toList ++ rest)) : gG p l e R s m args below meth c D cl A H0 nL Q k n ws pc lv st := by
  subst hsp; subst hres
  intro H locs ls hP hD hS hl T hT X
  obtain ⟨v', st₀, t, T', L, h0, X', hL, e1, e2, ⟨hv, ⟨hP1, hK1, hD1⟩, hz, hk⟩, go⟩ := run H locs ls (wP_l (wP_r hP)) ((wD_l (wD_r hD)).weaken (fun _ _ _ _ => trivial)) hl T hT X
  cases hv
  rw [h0] at hz hk
  have hF := w_free hD hS C.2.2.2.2.2.2
  have hk' : ∀ q : Nat, q < H.size → ¬ va_A wc H.size q → T'.heap[q]? = H[q]? := fun q h1 h2 => by rw [e1]; exact hk q h1 h2
  obtain ⟨jP, jD⟩ := w_join hP hD hk' hF (by rw [e1]; exact hP1) hD1
  have hS' : va_S A H0 T'.heap (locs ++ L) := ⟨Nat.le_trans hS.1 (by rw [e1]; exact hz), fun q h1 h2 => by rw [hk' q (Nat.lt_of_lt_of_le h1 hS.1) (fun z => h2 (hF q z))]; exact hS.2.1 q h1 h2, fun q hq => by
    rcases List.mem_append.mp hq with h | h
    · exact hS.2.2 q h
    · exact hF _ (hL q h)⟩
  obtain ⟨t2, a1, b1⟩ := kk T'.heap (locs ++ L) ls jP jD hS' hl T' rfl X'
  exact ⟨t2, go t2 a1, b1⟩
theorem g_callV {F : Vm → Prop} {y : MethodName} {wsY ws9 : List Cond} {rm : Room} {tysY : List (ClassId × FieldType)} {C0 : String} {index maxL nA : Nat} {bytes : ByteArray} {ret : Option FieldType} {b ci : Nat} {fs : List Value} {q9 : vw_C} {As rest : List Value} {v : Option Value} {pre wc post w1 ws' : va_W}
    (C : gC p s m args c cc own Ts D cl tys A H0 nL) (hM : cR F l y wsY rm D cl tysY (.ref b :: As) wc v w1) (hG : GoodIn Ts (wsV own index C0 y wsY)) (hw : wsY = Cond.code y bytes maxL ret :: ws9)
    (hrm : rm.cells = 0 ∧ rm.slots = 0) (hd : y.cls = C0 ∧ y.cls ≠ "java/lang/invoke/MethodHandle" ∧ y.cls ≠ "java/lang/invoke/VarHandle" ∧ (parseMethodDescriptor y.desc).map (fun d => d.parameters.length) = some nA) (hR : rm.frames + 1 ≤ R.frames ∧ 8 + (maxL + 11) + rm.locals ≤ R.locals)
    (isT : List Nat) (hT : isT.filterMap (fun i => tys[i]?) = tysY) (hF : ∀ vm' : Vm, s.WarmedH vm' → F vm') (hn : As.length = nA) (hst : st = As.reverse ++ .ref b :: rest) (hrest : (rest.map fun v => v.category).sum ≤ 8) (d : decode cc pc = .ok (.invokevirtual index, 3)) (hc : k ≤ R.cells ∧ n ≤ R.slots)
    (q0 : Nat) (he : wc[q0]? = some (b, .inr (ci, fs))) (hcl : cl[ci]? = some q9) (hq9 : q9.1 = C0) (hsp : ws = pre ++ (wc ++ post)) (hres : pre ++ (w1 ++ post) = ws')
    (kk : gG p l e R s m args below meth c D cl A H0 nL Q k n ws' (pc + 3) lv (v.toList ++ rest)) : gG p l e R s m args below meth c D cl A H0 nL Q k n ws pc lv st := by
  have hK := C.2.2.2.2.2.1.sub isT hT
  subst hq9
  exact g_run C hsp hres (fun H locs ls hP hD hl => va_runV (As := As) (rest := rest) ⟨C.1, C.2.1, C.2.2.1, C.2.2.2.1, C.2.2.2.2.1⟩ (hM H.size) (cwV nA C.2.2.2.2.1 hG hw hrm.1 hrm.2 hd hR) ⟨cPre_blind _ _ _ _ _ _ _, va_recv hK hP hcl he, fun U hU hW => ⟨rfl, hF _ hW, by rw [hU], by rw [hU]; exact hP, va_K.moved hW.alike hK, hD⟩⟩ rfl hn hl.1 hst (lv_room hrest) d ⟨hc.1, hc.2⟩) kk
theorem g_callS {F : Vm → Prop} {y : MethodName} {wsY ws9 : List Cond} {rm : Room} {tysY : List (ClassId × FieldType)} {index maxL nA : Nat} {bytes : ByteArray} {ret : Option FieldType} {As rest : List Value} {v : Option Value} {pre wc post w1 ws' : va_W}
    (C : gC p s m args c cc own Ts D cl tys A H0 nL) (hM : cR F l y wsY rm D cl tysY As wc v w1) (hG : GoodIn Ts (va_wsS own index y wsY)) (hw : wsY = Cond.code y bytes maxL ret :: ws9)
    (hrm : rm.cells = 0 ∧ rm.slots = 0) (hd : y.cls ≠ "java/lang/invoke/MethodHandle" ∧ y.cls ≠ "java/lang/invoke/VarHandle" ∧ (parseMethodDescriptor y.desc).map (fun d => d.parameters.length) = some nA) (hR : rm.frames + 1 ≤ R.frames ∧ 8 + (maxL + 11) + rm.locals ≤ R.locals)
    (isT : List Nat) (hT : isT.filterMap (fun i => tys[i]?) = tysY) (hF : ∀ vm' : Vm, s.WarmedH vm' → F vm') (hn : As.length = nA) (hst : st = As.reverse ++ rest) (hrest : (rest.map fun v => v.category).sum ≤ 8) (d : decode cc pc = .ok (.invokestatic index, 3)) (hc : k ≤ R.cells ∧ n ≤ R.slots)
    (hsp : ws = pre ++ (wc ++ post)) (hres : pre ++ (w1 ++ post) = ws')
    (kk : gG p l e R s m args below meth c D cl A H0 nL Q k n ws' (pc + 3) lv (v.toList ++ rest)) : gG p l e R s m args below meth c D cl A H0 nL Q k n ws pc lv st := by
  have hK := C.2.2.2.2.2.1.sub isT hT
  exact g_run C hsp hres (fun H locs ls hP hD hl => va_runS (As := As) (rest := rest) ⟨C.1, C.2.1, C.2.2.1, C.2.2.2.1, C.2.2.2.2.1⟩ (hM H.size) (va_cwS nA C.2.2.2.2.1 hG hw hrm.1 hrm.2 hd hR) ⟨cPre_blind _ _ _ _ _ _ _, fun U hU hW => ⟨rfl, hF _ hW, by rw [hU], by rw [hU]; exact hP, va_K.moved hW.alike hK, hD⟩⟩ rfl hn hl.1 hst (lv_room hrest) d ⟨hc.1, hc.2⟩) kk
theorem g_callSN {F : Vm → Prop} {y : MethodName} {host : String} {wsY ws9 : List Cond} {rm : Room} {tysY : List (ClassId × FieldType)} {index maxL nA : Nat} {bytes : ByteArray} {ret : Option FieldType} {As rest : List Value} {v : Option Value} {pre wc post w1 ws' : va_W}
    (C : gC p s m args c cc own Ts D cl tys A H0 nL) (hM : cR F l y wsY rm D cl tysY As wc v w1) (hG : GoodIn Ts wsY) (hw : wsY = Cond.code y bytes maxL ret :: ws9)
    (hnest : va_Nw (.methodLinkNest own index y host) s) (hini : Cond.initialized y.cls ∈ Ts) (hsta : Cond.static y ∈ Ts)
    (hrm : rm.cells = 0 ∧ rm.slots = 0) (hd : y.cls ≠ "java/lang/invoke/MethodHandle" ∧ y.cls ≠ "java/lang/invoke/VarHandle" ∧ (parseMethodDescriptor y.desc).map (fun d => d.parameters.length) = some nA) (hR : rm.frames + 1 ≤ R.frames ∧ 8 + (maxL + 11) + rm.locals ≤ R.locals)
    (isT : List Nat) (hT : isT.filterMap (fun i => tys[i]?) = tysY) (hF : ∀ vm' : Vm, s.WarmedH vm' → F vm') (hn : As.length = nA) (hst : st = As.reverse ++ rest) (hrest : (rest.map fun v => v.category).sum ≤ 8) (d : decode cc pc = .ok (.invokestatic index, 3)) (hc : k ≤ R.cells ∧ n ≤ R.slots)
    (hsp : ws = pre ++ (wc ++ post)) (hres : pre ++ (w1 ++ post) = ws')
    (kk : gG p l e R s m args below meth c D cl A H0 nL Q k n ws' (pc + 3) lv (v.toList ++ rest)) : gG p l e R s m args below meth c D cl A H0 nL Q k n ws pc lv st := by
  have hK := C.2.2.2.2.2.1.sub isT hT
  exact g_run C hsp hres (fun H locs ls hP hD hl => va_runSN (host := host) (As := As) (rest := rest) ⟨C.1, C.2.1, C.2.2.1, C.2.2.2.1, C.2.2.2.2.1⟩ (hM H.size) ⟨va_cnB nA C.2.2.2.2.1 hG hw hrm.1 hrm.2 hnest (C.2.2.2.2.1 _ hini) hd hR, C.2.2.2.2.1 _ hsta, trivial⟩ ⟨cPre_blind _ _ _ _ _ _ _, fun U hU hW => ⟨rfl, hF _ hW, by rw [hU], by rw [hU]; exact hP, va_K.moved hW.alike hK, hD⟩⟩ rfl hn hl.1 hst (lv_room hrest) d ⟨hc.1, hc.2⟩) kk

theorem g_callVi {F : Vm → Prop} {y : MethodName} {wsY ws9 : List Cond} {rm : Room} {tysY : List (ClassId × FieldType)} {C0 : String} {index maxL nA : Nat} {bytes : ByteArray} {ret : Option FieldType} {b ci : Nat} {fs : List Value} {q9 : vw_C} {As rest : List Value} {r : Int32} {pre wc post w1 ws' : va_W}
    (C : gC p s m args c cc own Ts D cl tys A H0 nL) (hM : cR F l y wsY rm D cl tysY (.ref b :: As) wc (some (.int r)) w1) (hG : GoodIn Ts (wsV own index C0 y wsY)) (hw : wsY = Cond.code y bytes maxL ret :: ws9)
    (hrm : rm.cells = 0 ∧ rm.slots = 0) (hd : y.cls = C0 ∧ y.cls ≠ "java/lang/invoke/MethodHandle" ∧ y.cls ≠ "java/lang/invoke/VarHandle" ∧ (parseMethodDescriptor y.desc).map (fun d => d.parameters.length) = some nA) (hR : rm.frames + 1 ≤ R.frames ∧ 8 + (maxL + 11) + rm.locals ≤ R.locals)
    (isT : List Nat) (hT : isT.filterMap (fun i => tys[i]?) = tysY) (hF : ∀ vm' : Vm, s.WarmedH vm' → F vm') (hn : As.length = nA) (hst : st = As.reverse ++ .ref b :: rest) (hrest : (rest.map fun v => v.category).sum ≤ 8) (d : decode cc pc = .ok (.invokevirtual index, 3)) (hc : k ≤ R.cells ∧ n ≤ R.slots)
    (q0 : Nat) (he : wc[q0]? = some (b, .inr (ci, fs))) (hcl : cl[ci]? = some q9) (hq9 : q9.1 = C0) (hsp : ws = pre ++ (wc ++ post)) (hres : pre ++ (w1 ++ post) = ws')
    (kk : gG p l e R s m args below meth c D cl A H0 nL Q k n ws' (pc + 3) lv (.int r :: rest)) : gG p l e R s m args below meth c D cl A H0 nL Q k n ws pc lv st := g_callV C hM hG hw hrm hd hR isT hT hF hn hst hrest d hc q0 he hcl hq9 hsp hres kk
theorem g_callVl {F : Vm → Prop} {y : MethodName} {wsY ws9 : List Cond} {rm : Room} {tysY : List (ClassId × FieldType)} {C0 : String} {index maxL nA : Nat} {bytes : ByteArray} {ret : Option FieldType} {b ci : Nat} {fs : List Value} {q9 : vw_C} {As rest : List Value} {r : Int64} {pre wc post w1 ws' : va_W}
    (C : gC p s m args c cc own Ts D cl tys A H0 nL) (hM : cR F l y wsY rm D cl tysY (.ref b :: As) wc (some (.long r)) w1) (hG : GoodIn Ts (wsV own index C0 y wsY)) (hw : wsY = Cond.code y bytes maxL ret :: ws9)
    (hrm : rm.cells = 0 ∧ rm.slots = 0) (hd : y.cls = C0 ∧ y.cls ≠ "java/lang/invoke/MethodHandle" ∧ y.cls ≠ "java/lang/invoke/VarHandle" ∧ (parseMethodDescriptor y.desc).map (fun d => d.parameters.length) = some nA) (hR : rm.frames + 1 ≤ R.frames ∧ 8 + (maxL + 11) + rm.locals ≤ R.locals)
    (isT : List Nat) (hT : isT.filterMap (fun i => tys[i]?) = tysY) (hF : ∀ vm' : Vm, s.WarmedH vm' → F vm') (hn : As.length = nA) (hst : st = As.reverse ++ .ref b :: rest) (hrest : (rest.map fun v => v.category).sum ≤ 8) (d : decode cc pc = .ok (.invokevirtual index, 3)) (hc : k ≤ R.cells ∧ n ≤ R.slots)
    (q0 : Nat) (he : wc[q0]? = some (b, .inr (ci, fs))) (hcl : cl[ci]? = some q9) (hq9 : q9.1 = C0) (hsp : ws = pre ++ (wc ++ post)) (hres : pre ++ (w1 ++ post) = ws')
    (kk : gG p l e R s m args below meth c D cl A H0 nL Q k n ws' (pc + 3) lv (.long r :: rest)) : gG p l e R s m args below meth c D cl A H0 nL Q k n ws pc lv st := g_callV C hM hG hw hrm hd hR isT hT hF hn hst hrest d hc q0 he hcl hq9 hsp hres kk
theorem g_callVd {F : Vm → Prop} {y : MethodName} {wsY ws9 : List Cond} {rm : Room} {tysY : List (ClassId × FieldType)} {C0 : String} {index maxL nA : Nat} {bytes : ByteArray} {ret : Option FieldType} {b ci : Nat} {fs : List Value} {q9 : vw_C} {As rest : List Value} {r : UInt64} {pre wc post w1 ws' : va_W}
    (C : gC p s m args c cc own Ts D cl tys A H0 nL) (hM : cR F l y wsY rm D cl tysY (.ref b :: As) wc (some (.double r)) w1) (hG : GoodIn Ts (wsV own index C0 y wsY)) (hw : wsY = Cond.code y bytes maxL ret :: ws9)
    (hrm : rm.cells = 0 ∧ rm.slots = 0) (hd : y.cls = C0 ∧ y.cls ≠ "java/lang/invoke/MethodHandle" ∧ y.cls ≠ "java/lang/invoke/VarHandle" ∧ (parseMethodDescriptor y.desc).map (fun d => d.parameters.length) = some nA) (hR : rm.frames + 1 ≤ R.frames ∧ 8 + (maxL + 11) + rm.locals ≤ R.locals)
    (isT : List Nat) (hT : isT.filterMap (fun i => tys[i]?) = tysY) (hF : ∀ vm' : Vm, s.WarmedH vm' → F vm') (hn : As.length = nA) (hst : st = As.reverse ++ .ref b :: rest) (hrest : (rest.map fun v => v.category).sum ≤ 8) (d : decode cc pc = .ok (.invokevirtual index, 3)) (hc : k ≤ R.cells ∧ n ≤ R.slots)
    (q0 : Nat) (he : wc[q0]? = some (b, .inr (ci, fs))) (hcl : cl[ci]? = some q9) (hq9 : q9.1 = C0) (hsp : ws = pre ++ (wc ++ post)) (hres : pre ++ (w1 ++ post) = ws')
    (kk : gG p l e R s m args below meth c D cl A H0 nL Q k n ws' (pc + 3) lv (.double r :: rest)) : gG p l e R s m args below meth c D cl A H0 nL Q k n ws pc lv st := g_callV C hM hG hw hrm hd hR isT hT hF hn hst hrest d hc q0 he hcl hq9 hsp hres kk
theorem g_callVv {F : Vm → Prop} {y : MethodName} {wsY ws9 : List Cond} {rm : Room} {tysY : List (ClassId × FieldType)} {C0 : String} {index maxL nA : Nat} {bytes : ByteArray} {ret : Option FieldType} {b ci : Nat} {fs : List Value} {q9 : vw_C} {As rest : List Value}  {pre wc post w1 ws' : va_W}
    (C : gC p s m args c cc own Ts D cl tys A H0 nL) (hM : cR F l y wsY rm D cl tysY (.ref b :: As) wc (none) w1) (hG : GoodIn Ts (wsV own index C0 y wsY)) (hw : wsY = Cond.code y bytes maxL ret :: ws9)
    (hrm : rm.cells = 0 ∧ rm.slots = 0) (hd : y.cls = C0 ∧ y.cls ≠ "java/lang/invoke/MethodHandle" ∧ y.cls ≠ "java/lang/invoke/VarHandle" ∧ (parseMethodDescriptor y.desc).map (fun d => d.parameters.length) = some nA) (hR : rm.frames + 1 ≤ R.frames ∧ 8 + (maxL + 11) + rm.locals ≤ R.locals)
    (isT : List Nat) (hT : isT.filterMap (fun i => tys[i]?) = tysY) (hF : ∀ vm' : Vm, s.WarmedH vm' → F vm') (hn : As.length = nA) (hst : st = As.reverse ++ .ref b :: rest) (hrest : (rest.map fun v => v.category).sum ≤ 8) (d : decode cc pc = .ok (.invokevirtual index, 3)) (hc : k ≤ R.cells ∧ n ≤ R.slots)
    (q0 : Nat) (he : wc[q0]? = some (b, .inr (ci, fs))) (hcl : cl[ci]? = some q9) (hq9 : q9.1 = C0) (hsp : ws = pre ++ (wc ++ post)) (hres : pre ++ (w1 ++ post) = ws')
    (kk : gG p l e R s m args below meth c D cl A H0 nL Q k n ws' (pc + 3) lv (rest)) : gG p l e R s m args below meth c D cl A H0 nL Q k n ws pc lv st := g_callV C hM hG hw hrm hd hR isT hT hF hn hst hrest d hc q0 he hcl hq9 hsp hres kk
theorem g_callSi {F : Vm → Prop} {y : MethodName} {wsY ws9 : List Cond} {rm : Room} {tysY : List (ClassId × FieldType)} {index maxL nA : Nat} {bytes : ByteArray} {ret : Option FieldType} {As rest : List Value} {r : Int32} {pre wc post w1 ws' : va_W}
    (C : gC p s m args c cc own Ts D cl tys A H0 nL) (hM : cR F l y wsY rm D cl tysY As wc (some (.int r)) w1) (hG : GoodIn Ts (va_wsS own index y wsY)) (hw : wsY = Cond.code y bytes maxL ret :: ws9)
    (hrm : rm.cells = 0 ∧ rm.slots = 0) (hd : y.cls ≠ "java/lang/invoke/MethodHandle" ∧ y.cls ≠ "java/lang/invoke/VarHandle" ∧ (parseMethodDescriptor y.desc).map (fun d => d.parameters.length) = some nA) (hR : rm.frames + 1 ≤ R.frames ∧ 8 + (maxL + 11) + rm.locals ≤ R.locals)
    (isT : List Nat) (hT : isT.filterMap (fun i => tys[i]?) = tysY) (hF : ∀ vm' : Vm, s.WarmedH vm' → F vm') (hn : As.length = nA) (hst : st = As.reverse ++ rest) (hrest : (rest.map fun v => v.category).sum ≤ 8) (d : decode cc pc = .ok (.invokestatic index, 3)) (hc : k ≤ R.cells ∧ n ≤ R.slots)
    (hsp : ws = pre ++ (wc ++ post)) (hres : pre ++ (w1 ++ post) = ws')
    (kk : gG p l e R s m args below meth c D cl A H0 nL Q k n ws' (pc + 3) lv (.int r :: rest)) : gG p l e R s m args below meth c D cl A H0 nL Q k n ws pc lv st := g_callS C hM hG hw hrm hd hR isT hT hF hn hst hrest d hc hsp hres kk
theorem g_callSl {F : Vm → Prop} {y : MethodName} {wsY ws9 : List Cond} {rm : Room} {tysY : List (ClassId × FieldType)} {index maxL nA : Nat} {bytes : ByteArray} {ret : Option FieldType} {As rest : List Value} {r : Int64} {pre wc post w1 ws' : va_W}
    (C : gC p s m args c cc own Ts D cl tys A H0 nL) (hM : cR F l y wsY rm D cl tysY As wc (some (.long r)) w1) (hG : GoodIn Ts (va_wsS own index y wsY)) (hw : wsY = Cond.code y bytes maxL ret :: ws9)
    (hrm : rm.cells = 0 ∧ rm.slots = 0) (hd : y.cls ≠ "java/lang/invoke/MethodHandle" ∧ y.cls ≠ "java/lang/invoke/VarHandle" ∧ (parseMethodDescriptor y.desc).map (fun d => d.parameters.length) = some nA) (hR : rm.frames + 1 ≤ R.frames ∧ 8 + (maxL + 11) + rm.locals ≤ R.locals)
    (isT : List Nat) (hT : isT.filterMap (fun i => tys[i]?) = tysY) (hF : ∀ vm' : Vm, s.WarmedH vm' → F vm') (hn : As.length = nA) (hst : st = As.reverse ++ rest) (hrest : (rest.map fun v => v.category).sum ≤ 8) (d : decode cc pc = .ok (.invokestatic index, 3)) (hc : k ≤ R.cells ∧ n ≤ R.slots)
    (hsp : ws = pre ++ (wc ++ post)) (hres : pre ++ (w1 ++ post) = ws')
    (kk : gG p l e R s m args below meth c D cl A H0 nL Q k n ws' (pc + 3) lv (.long r :: rest)) : gG p l e R s m args below meth c D cl A H0 nL Q k n ws pc lv st := g_callS C hM hG hw hrm hd hR isT hT hF hn hst hrest d hc hsp hres kk
theorem g_callSd {F : Vm → Prop} {y : MethodName} {wsY ws9 : List Cond} {rm : Room} {tysY : List (ClassId × FieldType)} {index maxL nA : Nat} {bytes : ByteArray} {ret : Option FieldType} {As rest : List Value} {r : UInt64} {pre wc post w1 ws' : va_W}
    (C : gC p s m args c cc own Ts D cl tys A H0 nL) (hM : cR F l y wsY rm D cl tysY As wc (some (.double r)) w1) (hG : GoodIn Ts (va_wsS own index y wsY)) (hw : wsY = Cond.code y bytes maxL ret :: ws9)
    (hrm : rm.cells = 0 ∧ rm.slots = 0) (hd : y.cls ≠ "java/lang/invoke/MethodHandle" ∧ y.cls ≠ "java/lang/invoke/VarHandle" ∧ (parseMethodDescriptor y.desc).map (fun d => d.parameters.length) = some nA) (hR : rm.frames + 1 ≤ R.frames ∧ 8 + (maxL + 11) + rm.locals ≤ R.locals)
    (isT : List Nat) (hT : isT.filterMap (fun i => tys[i]?) = tysY) (hF : ∀ vm' : Vm, s.WarmedH vm' → F vm') (hn : As.length = nA) (hst : st = As.reverse ++ rest) (hrest : (rest.map fun v => v.category).sum ≤ 8) (d : decode cc pc = .ok (.invokestatic index, 3)) (hc : k ≤ R.cells ∧ n ≤ R.slots)
    (hsp : ws = pre ++ (wc ++ post)) (hres : pre ++ (w1 ++ post) = ws')
    (kk : gG p l e R s m args below meth c D cl A H0 nL Q k n ws' (pc + 3) lv (.double r :: rest)) : gG p l e R s m args below meth c D cl A H0 nL Q k n ws pc lv st := g_callS C hM hG hw hrm hd hR isT hT hF hn hst hrest d hc hsp hres kk
theorem g_callSv {F : Vm → Prop} {y : MethodName} {wsY ws9 : List Cond} {rm : Room} {tysY : List (ClassId × FieldType)} {index maxL nA : Nat} {bytes : ByteArray} {ret : Option FieldType} {As rest : List Value}  {pre wc post w1 ws' : va_W}
    (C : gC p s m args c cc own Ts D cl tys A H0 nL) (hM : cR F l y wsY rm D cl tysY As wc (none) w1) (hG : GoodIn Ts (va_wsS own index y wsY)) (hw : wsY = Cond.code y bytes maxL ret :: ws9)
    (hrm : rm.cells = 0 ∧ rm.slots = 0) (hd : y.cls ≠ "java/lang/invoke/MethodHandle" ∧ y.cls ≠ "java/lang/invoke/VarHandle" ∧ (parseMethodDescriptor y.desc).map (fun d => d.parameters.length) = some nA) (hR : rm.frames + 1 ≤ R.frames ∧ 8 + (maxL + 11) + rm.locals ≤ R.locals)
    (isT : List Nat) (hT : isT.filterMap (fun i => tys[i]?) = tysY) (hF : ∀ vm' : Vm, s.WarmedH vm' → F vm') (hn : As.length = nA) (hst : st = As.reverse ++ rest) (hrest : (rest.map fun v => v.category).sum ≤ 8) (d : decode cc pc = .ok (.invokestatic index, 3)) (hc : k ≤ R.cells ∧ n ≤ R.slots)
    (hsp : ws = pre ++ (wc ++ post)) (hres : pre ++ (w1 ++ post) = ws')
    (kk : gG p l e R s m args below meth c D cl A H0 nL Q k n ws' (pc + 3) lv (rest)) : gG p l e R s m args below meth c D cl A H0 nL Q k n ws pc lv st := g_callS C hM hG hw hrm hd hR isT hT hF hn hst hrest d hc hsp hres kk
theorem g_callSNi {F : Vm → Prop} {y : MethodName} {host : String} {wsY ws9 : List Cond} {rm : Room} {tysY : List (ClassId × FieldType)} {index maxL nA : Nat} {bytes : ByteArray} {ret : Option FieldType} {As rest : List Value} {r : Int32} {pre wc post w1 ws' : va_W}
    (C : gC p s m args c cc own Ts D cl tys A H0 nL) (hM : cR F l y wsY rm D cl tysY As wc (some (.int r)) w1) (hG : GoodIn Ts wsY) (hw : wsY = Cond.code y bytes maxL ret :: ws9)
    (hnest : va_Nw (.methodLinkNest own index y host) s) (hini : Cond.initialized y.cls ∈ Ts) (hsta : Cond.static y ∈ Ts)
    (hrm : rm.cells = 0 ∧ rm.slots = 0) (hd : y.cls ≠ "java/lang/invoke/MethodHandle" ∧ y.cls ≠ "java/lang/invoke/VarHandle" ∧ (parseMethodDescriptor y.desc).map (fun d => d.parameters.length) = some nA) (hR : rm.frames + 1 ≤ R.frames ∧ 8 + (maxL + 11) + rm.locals ≤ R.locals)
    (isT : List Nat) (hT : isT.filterMap (fun i => tys[i]?) = tysY) (hF : ∀ vm' : Vm, s.WarmedH vm' → F vm') (hn : As.length = nA) (hst : st = As.reverse ++ rest) (hrest : (rest.map fun v => v.category).sum ≤ 8) (d : decode cc pc = .ok (.invokestatic index, 3)) (hc : k ≤ R.cells ∧ n ≤ R.slots)
    (hsp : ws = pre ++ (wc ++ post)) (hres : pre ++ (w1 ++ post) = ws')
    (kk : gG p l e R s m args below meth c D cl A H0 nL Q k n ws' (pc + 3) lv (.int r :: rest)) : gG p l e R s m args below meth c D cl A H0 nL Q k n ws pc lv st := g_callSN C hM hG hw hnest hini hsta hrm hd hR isT hT hF hn hst hrest d hc hsp hres kk
end GR
theorem ci_m1 : Int32.ofInt (-1) = -1 := by decide
theorem ci_0 : Int32.ofInt (0) = 0 := by decide
theorem ci_1 : Int32.ofInt (1) = 1 := by decide
theorem ci_2 : Int32.ofInt (2) = 2 := by decide
theorem ci_3 : Int32.ofInt (3) = 3 := by decide
theorem ci_4 : Int32.ofInt (4) = 4 := by decide
theorem ci_5 : Int32.ofInt (5) = 5 := by decide
theorem cb_52 : (Int8.ofInt 52).toInt32 = 52 := by decide
theorem cb_55 : (Int8.ofInt 55).toInt32 = 55 := by decide
theorem cb_100 : (Int8.ofInt 100).toInt32 = 100 := by decide
theorem cb_9 : (Int8.ofInt 9).toInt32 = 9 := by decide
theorem cb_10 : (Int8.ofInt 10).toInt32 = 10 := by decide
theorem cb_15 : (Int8.ofInt 15).toInt32 = 15 := by decide
theorem cb_33 : (Int8.ofInt 33).toInt32 = 33 := by decide
theorem cb_43 : (Int8.ofInt 43).toInt32 = 43 := by decide
theorem cb_45 : (Int8.ofInt 45).toInt32 = 45 := by decide
theorem cb_48 : (Int8.ofInt 48).toInt32 = 48 := by decide
theorem cb_57 : (Int8.ofInt 57).toInt32 = 57 := by decide
theorem cb_60 : (Int8.ofInt 60).toInt32 = 60 := by decide
theorem cb_90 : (Int8.ofInt 90).toInt32 = 90 := by decide
theorem cb_126 : (Int8.ofInt 126).toInt32 = 126 := by decide
theorem cb_7 : (Int8.ofInt 7).toInt32 = 7 := by decide
theorem cb_6 : (Int8.ofInt 6).toInt32 = 6 := by decide
theorem cb_8 : (Int8.ofInt 8).toInt32 = 8 := by decide
theorem cb_13 : (Int8.ofInt 13).toInt32 = 13 := by decide
theorem cb_18 : (Int8.ofInt 18).toInt32 = 18 := by decide
theorem cb_16 : (Int8.ofInt 16).toInt32 = 16 := by decide
theorem cb_12 : (Int8.ofInt 12).toInt32 = 12 := by decide
theorem cb_14 : (Int8.ofInt 14).toInt32 = 14 := by decide
theorem cb_17 : (Int8.ofInt 17).toInt32 = 17 := by decide
theorem cb_19 : (Int8.ofInt 19).toInt32 = 19 := by decide
theorem cb_20 : (Int8.ofInt 20).toInt32 = 20 := by decide
theorem cb_31 : (Int8.ofInt 31).toInt32 = 31 := by decide
theorem cs_275 : (Int16.ofInt 275).toInt32 = 275 := by decide
theorem cs_330 : (Int16.ofInt 330).toInt32 = 330 := by decide
theorem cb_m9 : (Int8.ofInt (-9)).toInt32 = -9 := by decide
theorem cb_m6 : (Int8.ofInt (-6)).toInt32 = -6 := by decide
