section
-- ===== PART A: goes FIRST, ahead of the names: the tables' words, and 'selects' of the private methods out of them =====
/-- a private method of a class that the tables say can be made, by its rows of tables_1 -/
def lw_okq (q : MethodName × Nat) : Prop := (q.1.cls ≠ "java/lang/invoke/MethodHandle" ∧ q.1.cls ≠ "java/lang/invoke/VarHandle") ∧ Cond.instantiable q.1.cls q.2 ∈ tables_1 ∧ Cond.privateMethod q.1 ∈ tables_1 ∧ Cond.instanceMethod q.1 ∈ tables_1
theorem lw_p0 : lw_okq (⟨"java/lang/Throwable", "fillInStackTrace", "(I)Ljava/lang/Throwable;"⟩, 6) := ⟨⟨by decide +kernel, by decide +kernel⟩, List.mem_of_getElem? (i := 164) (by decide +kernel), List.mem_of_getElem? (i := 162) (by decide +kernel), List.mem_of_getElem? (i := 163) (by decide +kernel)⟩
theorem lw_p1 : lw_okq (⟨"StuckRods", "changeOrThrow", "(II)I"⟩, 3) := ⟨⟨by decide +kernel, by decide +kernel⟩, List.mem_of_getElem? (i := 13) (by decide +kernel), List.mem_of_getElem? (i := 309) (by decide +kernel), List.mem_of_getElem? (i := 310) (by decide +kernel)⟩
def lw_privs_1 : List (MethodName × Nat) := [(⟨"java/lang/Throwable", "fillInStackTrace", "(I)Ljava/lang/Throwable;"⟩, 6), (⟨"StuckRods", "changeOrThrow", "(II)I"⟩, 3)]
theorem lw_r1 : ∀ q ∈ lw_privs_1, lw_okq q := List.forall_mem_cons.mpr ⟨lw_p0, List.forall_mem_cons.mpr ⟨lw_p1, fun _ h => absurd h List.not_mem_nil⟩⟩
def lw_privs : List (MethodName × Nat) := lw_privs_1
def lw_tbl : List Cond := k2_sels lw_privs ++ tables_1
theorem lw_privs_ok : ∀ q ∈ lw_privs, lw_okq q := lw_r1
/-- the streams that the claim lets the run draw from -/
abbrev lw_cs : List Choice := [Jvm.Choice.named "NaN.bits"]
theorem lw_bits : nanBits ∈ lw_cs := by first | decide | exact List.mem_cons_self | simp [lw_cs, nanBits]
-- ===== end of PART A; then your names; then what follows =====
/-! ===== BEGIN words of one list among another's, by their places ===== -/
theorem goodIn_r {big : List Cond} (ws : List Cond) (ps : List Nat) (hp : ws = ps.filterMap (fun i => big[i]?)) (h : ws.all goodWord = true) : GoodIn big ws := by
  intro w hw
  have h1 := List.all_eq_true.mp h w hw
  rw [hp] at hw
  obtain ⟨i, -, hi⟩ := List.mem_filterMap.mp hw
  have hm : w ∈ big := by first | exact List.mem_of_getElem? hi | exact List.getElem?_mem hi
  exact ⟨hm, good_of_word h1⟩
theorem goodIn_app {big a b : List Cond} (ha : GoodIn big a) (hb : GoodIn big b) : GoodIn big (a ++ b) := fun w h => (List.mem_append.mp h).elim (ha w) (hb w)
theorem goodIn_ca {big a b : List Cond} {c : Cond} (ha : GoodIn big (c :: a)) (hb : GoodIn big b) : GoodIn big (c :: (a ++ b)) := fun w h => (List.mem_cons.mp h).elim (fun e => ha w (List.mem_cons.mpr (Or.inl e))) (fun h => (List.mem_append.mp h).elim (fun h => ha w (List.mem_cons.mpr (Or.inr h))) (hb w))
theorem goodIn_sub {big ws : List Cond} (hm : ∀ w ∈ ws, w ∈ big) (h : ws.all goodWord = true) : GoodIn big ws := fun w hw => ⟨hm w hw, good_of_word (List.all_eq_true.mp h w hw)⟩
/-! ===== END ===== -/

/-! ===== BEGIN exceptions that leave a method, and their catching by the caller (launches without stack traces) ===== -/
section VXA
/-! The laws vx_back, vx_callV, vx_callS, vx_callSW, vx_throw0, vx_throwS follow proofs of the library, with one case more: JvmDerived/Free/Laws.lean (Back.of_free), Shelf42/LK1.lean (callV, callS), Shelf/KitTraced.lean (throwNew0V, throwNewS). -/
/-- where a method has thrown q: the class by its name, the cell, what was written, the world -/
def vx_T (XC : String → State → State → Prop) (st : State) (q : Addr) (t : State) (mc ms : Nat) (free : Addr → Prop) : Prop :=
  ∃ (E : String) (ce : Cell) (L : List Loc), XC E st t ∧ t.heap[q]? = some ce ∧ ce.vm = .none ∧ st.vm.findClass E = some ce.cls ∧ st.WarmedH t.vm ∧ st.sameButNew ({ t with vm := st.vm } : State) L mc ms ∧ ∀ z ∈ L, free z.base
def vx_Q (Qc : Array Value → State → Outcome → State → Prop) (XC : String → State → State → Prop) (mc ms : Nat) (free : Addr → Prop) : Array Value → State → Outcome → State → Prop := fun a st o t =>
  (Qc a st o t ∧ ∃ L, FrameEnd st o t L mc ms ∧ ∀ q ∈ L, free q.base) ∨ ∃ q, o = .threw q ∧ vx_T XC st q t mc ms free
/-- a callee that returns or throws -/
def vx_Met (l : Launch) (y : MethodName) (ws : List Cond) (rm : Room) (Pc : Array Value → State → Prop) (Qc : Array Value → State → Outcome → State → Prop) (XC : String → State → State → Prop) (mc ms : Nat) (free : Addr → Prop) : Prop :=
  MetFree l y (headSpec ws rm) Pc (fun _ _ _ _ _ => True) (vx_Q Qc XC mc ms free)
def vx_Post (XC : String → State → State → Prop) (mc ms : Nat) (free : Addr → Prop) : Pt → Array Value → Addr → Pt → Prop := fun A a q B =>
  ∃ (g : JFrame) (mk : MethodId) (t : State) (L : List Loc) (E : String) (ce : Cell), B.U.heap = t.heap ∧ B.U.vm = t.vm ∧ XC E (A.U.calling g mk a) t ∧ t.heap[q]? = some ce ∧ ce.vm = .none ∧ A.U.vm.findClass E = some ce.cls ∧ B.locs = A.locs ++ L ∧ (∀ z ∈ L, free z.base) ∧ B.cells = A.cells + mc ∧ B.slots = A.slots + ms
def vx_Back (l : Launch) (R : Room) (p : Program) (e : Env) (below : List Frame) (s : State) (sargs : Array Value) (y : MethodName) (len W9 : Nat)
    (Pre : Pt → Array Value → Prop) (Post : Pt → Array Value → Option Value → Pt → Prop) (PostX : Pt → Array Value → Addr → Pt → Prop) : Prop :=
  ∀ (m : MethodId) (meth : Method) (c : Code) (A : Pt) (g : JFrame) (ig : Instr) (mk : MethodId) (a : Array Value),
    Stand p l e R s m sargs below meth c A.U A.locs A.cells A.slots → g.method = m → g.locals.size = c.maxLocals → decode c.code g.pc = .ok (ig, len) →
    2 * g.monitorRoom + (g.stack.map fun v => v.category).sum ≤ W9 → A.U.methodNamed? y = some mk → Pre A a →
    (∃ (v : Option Value) (B : Pt), Stand p l e R s m sargs below meth c B.U B.locs B.cells B.slots ∧ Post A a v B ∧
      Steps p.tables e below (doInvoke e (A.U.setTop g) [] mk a).1 (B.U.setTop { g with pc := g.pc + len, stack := v.toList ++ g.stack })) ∨
    (∃ (q : Addr) (B : Pt), Stand p l e R s m sargs below meth c B.U B.locs B.cells B.slots ∧ PostX A a q B ∧
      Steps p.tables e below (doInvoke e (A.U.setTop g) [] mk a).1 ((B.U.setTop g).pushFrame (.throwing q)))
section Payer
variable {l : Launch} {R : Room} {p : Program} {e : Env} {below : List Frame} {s : State} {sargs : Array Value} {y : MethodName} {len W9 : Nat}
theorem vx_back {ws : List Cond} {rm : Room} {Pc : Array Value → State → Prop} {Qc : Array Value → State → Outcome → State → Prop} {XC : String → State → State → Prop} {mc ms : Nat} {free : Addr → Prop} {bytes : ByteArray} {maxL : Nat} {ret : Option FieldType}
    (hM : vx_Met l y ws rm Pc Qc XC mc ms free) (hblind : FrameBlind Pc) (hrc : rm.cells = mc) (hrs : rm.slots = ms)
    (hframes : rm.frames + 1 ≤ R.frames) (hlocals : W9 + (maxL + 11) + rm.locals ≤ R.locals)
    (hws : ∀ w ∈ ws, ∀ a' U, s.WarmedH U.vm → w.before a' U = true) (hcode : Cond.code y bytes maxL ret ∈ ws) (hinit : ∀ a' U, s.WarmedH U.vm → (Cond.initialized y.cls).before a' U = true) :
    vx_Back l R p e below s sargs y len W9 (PreOf R mc ms Pc) (PostOf Qc mc ms free) (vx_Post XC mc ms free) := by
  intro m meth c A g ig mk a X hg hsize hdg hW hn hp
  have h1 : (headSpec ws rm).pre.before a A.U = true := atoms_intro fun w hw => hws w hw _ _ X.warmed
  have h2 : (Cond.code y bytes maxL ret).before a A.U = true := hws _ hcode _ _ X.warmed
  have h3 : (Cond.initialized y.cls).before a A.U = true := hinit _ _ X.warmed
  have h4 : A.cells + (headSpec ws rm).room.cells ≤ R.cells := by rw [show (headSpec ws rm).room.cells = mc from hrc]; exact hp.1
  have h5 : A.slots + (headSpec ws rm).room.slots ≤ R.slots := by rw [show (headSpec ws rm).room.slots = ms from hrs]; exact hp.2.1
  have hPc : Pc a (A.U.calling g mk a) := hblind _ _ _ _ hp.2.2
  obtain ⟨U, Ls, c0, s0⟩ := A
  dsimp only [Pt.U, Pt.locs, Pt.cells, Pt.slots] at h1 h2 h3 h4 h5 X hn hPc ⊢
  obtain ⟨methY, cY, hmY, hcY, -, hlY, -, -, -, -⟩ := Cond.code_spec hn h2
  obtain ⟨kY, hkY, -⟩ := className_of_methodNamed hn
  have hinitY : kY.init = .initialized := Cond.initialized_spec (findClass_of_methodNamed hn) hkY h3
  have h : At U g.method c below := by rw [hg]; exact X.here
  have hlocals9 : W9 + (maxL + 11) + (headSpec ws rm).room.locals ≤ R.locals := hlocals
  have happ : (headSpec ws rm).appliesLoose y e.platform (U.calling g mk a) = true :=
    Spec.appliesLoose_calling (g := g) h hdg hn hkY hinitY
      (X.room_calling (g := g) (R' := (headSpec ws rm).room) hsize hmY hcY hframes (by rw [hlY]; omega) h4 h5) h1
  obtain ⟨mid, hmid⟩ := h.above
  have hfr : (U.setTop g).frames = (.java g :: mid) ++ below := by rw [State.frames_setTop' g h.top, hmid]; rfl
  obtain ⟨o, s₂, hsteps, -, hend, hq⟩ := Steps.callFree hM p X.admits X.cas X.clock (acts := []) hfr happ hPc trivial
  have hq' : vx_Q Qc XC mc ms free a (U.calling g mk a) o s₂ := hq
  rw [State.frames_setTop' g h.top] at hend
  obtain ⟨g₀, hg0⟩ := Option.isSome_iff_exists.mp h.top
  obtain ⟨r, hr⟩ := State.topJava?_eq_some.mp hg0
  have hr' : (({ U with heap := s₂.heap, slotsUsed := s₂.slotsUsed } : State).setVm s₂.vm).frames = .java g₀ :: r := hr
  rcases hq' with ⟨hqc, L, hfe, hL⟩ | ⟨q, rfl, E, ce, L, hx, hce, hcv, hcl, hW₂, hsm, hL⟩
  · obtain ⟨⟨v, rfl⟩, hW₂, e2, q2, q3, q4, q5, q6⟩ := id hfe
    have e3 : s₂ = ({ (U.calling g mk a).setFrames s₂.frames with heap := s₂.heap, slotsUsed := s₂.slotsUsed } : State).setVm s₂.vm := by
      have : s₂ = ({ s₂ with vm := (U.calling g mk a).vm } : State).setVm s₂.vm := rfl
      rw [e2] at this
      exact this
    obtain ⟨c₂, i₂, len₂, hc₂, hd₂, hf₂⟩ := hend
    have hW' : U.WarmedH s₂.vm := hW₂
    have hcc : c₂ = c := by
      have h1 : s₂.code? g.method = U.code? g.method := by
        rw [State.code?_eq, State.code?_eq, hW'.alike.method?]
      exact Option.some.inj (hc₂.symm.trans (h1.trans h.code))
    subst hcc
    have hlen : len₂ = len := by rw [hdg] at hd₂; cases hd₂; rfl
    subst hlen
    have hs₂ : s₂ = (({ U with heap := s₂.heap, slotsUsed := s₂.slotsUsed } : State).setVm s₂.vm).setTop { g with pc := g.pc + len₂, stack := v.toList ++ g.stack } := by
      refine e3.trans ?_
      rw [hf₂, State.calling_eq h.top, State.setFrames_setFrames, State.setTop_of_frames _ hr', hr]
      rfl
    have hsame : U.sameButNew ({ U with heap := s₂.heap, slotsUsed := s₂.slotsUsed } : State) L mc ms := by
      refine ⟨?_, q2, q3, q4, q5, q6⟩
      obtain ⟨t, ht, -⟩ := State.frames_cons hr
      show ({ U with heap := s₂.heap, slotsUsed := s₂.slotsUsed } : State) = { U.setFrames U.frames with heap := s₂.heap, slotsUsed := s₂.slotsUsed }
      rw [State.setFrames_self ht]
    subst hg
    refine Or.inl ⟨v, ⟨(({ U with heap := s₂.heap, slotsUsed := s₂.slotsUsed } : State).setVm s₂.vm), Ls ++ L, c0 + mc, s0 + ms⟩,
      ⟨X.admits, X.cas, X.clock, X.frames, X.room, X.hears, X.method, X.code, (X.here.setHeapUsed s₂.heap s₂.slotsUsed).setVm hW'.alike, X.tail, State.WarmedH.trans X.warmed hW', X.limits, X.bytes, X.same.trans (hsame.setVm s.vm)⟩,
      ⟨g, mk, s₂, L, rfl, rfl, hqc, rfl, hL, rfl, rfl⟩, ?_⟩
    show Steps p.tables e below _ ((({ U with heap := s₂.heap, slotsUsed := s₂.slotsUsed } : State).setVm s₂.vm).setTop { g with pc := g.pc + len₂, stack := v.toList ++ g.stack })
    rw [← hs₂]
    exact hsteps
  · obtain ⟨e2, q2, q3, q4, q5, q6⟩ := id hsm
    have e3 : s₂ = ({ (U.calling g mk a).setFrames s₂.frames with heap := s₂.heap, slotsUsed := s₂.slotsUsed } : State).setVm s₂.vm := by
      have : s₂ = ({ s₂ with vm := (U.calling g mk a).vm } : State).setVm s₂.vm := rfl
      rw [e2] at this
      exact this
    have hf₂ : s₂.frames = .throwing q :: .java g :: U.frames.tail := hend
    have hW' : U.WarmedH s₂.vm := hW₂
    have hs₂ : s₂ = ((({ U with heap := s₂.heap, slotsUsed := s₂.slotsUsed } : State).setVm s₂.vm).setTop g).pushFrame (.throwing q) := by
      refine e3.trans ?_
      rw [hf₂, State.calling_eq h.top, State.setFrames_setFrames, State.pushFrame, State.frames_setTop _ hr', State.setTop_of_frames _ hr', State.setFrames_setFrames, hr]
      rfl
    have hsame : U.sameButNew ({ U with heap := s₂.heap, slotsUsed := s₂.slotsUsed } : State) L mc ms := by
      refine ⟨?_, q2, q3, q4, q5, q6⟩
      obtain ⟨t, ht, -⟩ := State.frames_cons hr
      show ({ U with heap := s₂.heap, slotsUsed := s₂.slotsUsed } : State) = { U.setFrames U.frames with heap := s₂.heap, slotsUsed := s₂.slotsUsed }
      rw [State.setFrames_self ht]
    subst hg
    refine Or.inr ⟨q, ⟨(({ U with heap := s₂.heap, slotsUsed := s₂.slotsUsed } : State).setVm s₂.vm), Ls ++ L, c0 + mc, s0 + ms⟩,
      ⟨X.admits, X.cas, X.clock, X.frames, X.room, X.hears, X.method, X.code, (X.here.setHeapUsed s₂.heap s₂.slotsUsed).setVm hW'.alike, X.tail, State.WarmedH.trans X.warmed hW', X.limits, X.bytes, X.same.trans (hsame.setVm s.vm)⟩,
      ⟨g, mk, s₂, L, E, ce, rfl, rfl, hx, hce, hcv, hcl, rfl, hL, rfl, rfl⟩, ?_⟩
    show Steps p.tables e below _ (((({ U with heap := s₂.heap, slotsUsed := s₂.slotsUsed } : State).setVm s₂.vm).setTop g).pushFrame (.throwing q))
    rw [← hs₂]
    exact hsteps
end Payer
section Calls
variable {p : Program} {l : Launch} {e : Env} {R : Room} {s : State} {m : MethodId} {args : Array Value} {below : List Frame} {meth : Method} {c : Code} {T : State} {locs : List Loc} {cells slots : Nat}
theorem vx_callV (X : Stand p l e R s m args below meth c T locs cells slots) (hexec : p.tables.exec = Jvm.exec) {own C : String} {index : Nat} {y : MethodName} {bytes : ByteArray} {maxL : Nat} {ret : Option FieldType}
    (hown : s.vm.findClass own = some m.cls) (hlink : (Cond.methodLink own index y).before args s = true) (hinst : (Cond.instanceMethod y).before args s = true) (hsel : (Cond.selects C y y).before args s = true)
    (hcode : (Cond.code y bytes maxL ret).before args s = true) (hy : y.cls ≠ "java/lang/invoke/MethodHandle" ∧ y.cls ≠ "java/lang/invoke/VarHandle")
    {W9 : Nat} {Pre : Pt → Array Value → Prop} {Post : Pt → Array Value → Option Value → Pt → Prop} {PostX : Pt → Array Value → Addr → Pt → Prop} (hK : vx_Back l R p e below s args y 3 W9 Pre Post PostX)
    {b : Addr} {cellB : Cell} (hcell : T.heap[b]? = some cellB) (hobj : cellB.vm.isStatics = false) (hcls : s.vm.findClass C = some cellB.cls)
    {g : JFrame} (hg : g.method = m) (hsize : g.locals.size = c.maxLocals) {argsL rest : List Value} (hlen : ∀ sig, parseMethodDescriptor y.desc = some sig → argsL.length = sig.parameters.length)
    (hstack : g.stack = argsL.reverse ++ .ref b :: rest) (hW : 2 * g.monitorRoom + (rest.map fun v => v.category).sum ≤ W9) (hdg : decode c.code g.pc = .ok (.invokevirtual index, 3))
    (hpre : ∀ vm₁, s.WarmedH vm₁ → Pre ⟨T.setVm vm₁, locs, cells, slots⟩ (Value.ref b :: argsL).toArray) :
    (∃ (v : Option Value) (vm₁ : Vm) (B : Pt), s.WarmedH vm₁ ∧ Stand p l e R s m args below meth c B.U B.locs B.cells B.slots ∧ Post ⟨T.setVm vm₁, locs, cells, slots⟩ (Value.ref b :: argsL).toArray v B ∧
      ∀ target, Steps p.tables e below (B.U.setTop { g with pc := g.pc + 3, stack := v.toList ++ rest }) target → Steps p.tables e below (T.setTop g) target) ∨
    (∃ (q : Addr) (vm₁ : Vm) (B : Pt), s.WarmedH vm₁ ∧ Stand p l e R s m args below meth c B.U B.locs B.cells B.slots ∧ PostX ⟨T.setVm vm₁, locs, cells, slots⟩ (Value.ref b :: argsL).toArray q B ∧
      Steps p.tables e below (T.setTop g) ((B.U.setTop { g with stack := rest }).pushFrame (.throwing q))) := by
  obtain ⟨mk, methM, hnamed, hmethM, hstM, habM⟩ := Cond.instanceMethod_spec hinst
  obtain ⟨methM', cM, hmethM', -, -, -, -, -, -, hsigM⟩ := Cond.code_spec hnamed hcode
  cases hmethM.symm.trans hmethM'
  obtain ⟨c2, r2, m2, q1, q2, q3, q4, kP, hkP, hkPi⟩ := Cond.selects_spec hsel
  cases hcls.symm.trans q1
  cases (State.methodFound?_of_named hnamed hy).symm.trans q2
  cases hnamed.symm.trans q3
  have hselP : selectMethod e.platform s.vm cellB.cls mk = .method mk := by rw [Launch.admits_selectMethod X.admits]; exact q4
  obtain ⟨vm₁, X₁, hstep₁⟩ := X.invokevirtual hexec hown hlink hnamed hmethM hstM hkP hkPi hy (a := b) (cell := cellB) hcell
    (fun z h => by rw [h] at hobj; cases hobj) hselP hmethM habM hkP hkPi (g := g) hg (argsL := argsL) (rest := rest) (hlen _ hsigM) hstack hdg
  rcases hK m meth c ⟨T.setVm vm₁, locs, cells, slots⟩ { g with stack := rest } (.invokevirtual index) mk (Value.ref b :: argsL).toArray X₁ hg hsize hdg hW (X₁.named hnamed) (hpre vm₁ X₁.warmed) with ⟨v, B, X', hpost, hsteps⟩ | ⟨q, B, X', hpost, hsteps⟩
  · exact Or.inl ⟨v, vm₁, B, X₁.warmed, X', hpost, fun target h => hstep₁ _ fun acts => by rw [doInvoke_state]; exact hsteps.trans h⟩
  · exact Or.inr ⟨q, vm₁, B, X₁.warmed, X', hpost, hstep₁ _ fun acts => by rw [doInvoke_state]; exact hsteps⟩
theorem vx_callS (X : Stand p l e R s m args below meth c T locs cells slots) (hexec : p.tables.exec = Jvm.exec) {own : String} {index : Nat} {y : MethodName} {bytes : ByteArray} {maxL : Nat} {ret : Option FieldType}
    (hown : s.vm.findClass own = some m.cls) (hlink : (Cond.methodLink own index y).before args s = true) (hstat : (Cond.static y).before args s = true) (hinit : (Cond.initialized y.cls).before args s = true)
    (hcode : (Cond.code y bytes maxL ret).before args s = true) (hy : y.cls ≠ "java/lang/invoke/MethodHandle" ∧ y.cls ≠ "java/lang/invoke/VarHandle")
    {W9 : Nat} {Pre : Pt → Array Value → Prop} {Post : Pt → Array Value → Option Value → Pt → Prop} {PostX : Pt → Array Value → Addr → Pt → Prop} (hK : vx_Back l R p e below s args y 3 W9 Pre Post PostX)
    {g : JFrame} (hg : g.method = m) (hsize : g.locals.size = c.maxLocals) {argsL rest : List Value} (hlen : ∀ sig, parseMethodDescriptor y.desc = some sig → argsL.length = sig.parameters.length)
    (hstack : g.stack = argsL.reverse ++ rest) (hW : 2 * g.monitorRoom + (rest.map fun v => v.category).sum ≤ W9) (hdg : decode c.code g.pc = .ok (.invokestatic index, 3))
    (hpre : ∀ vm₁, s.WarmedH vm₁ → Pre ⟨T.setVm vm₁, locs, cells, slots⟩ argsL.toArray) :
    (∃ (v : Option Value) (vm₁ : Vm) (B : Pt), s.WarmedH vm₁ ∧ Stand p l e R s m args below meth c B.U B.locs B.cells B.slots ∧ Post ⟨T.setVm vm₁, locs, cells, slots⟩ argsL.toArray v B ∧
      ∀ target, Steps p.tables e below (B.U.setTop { g with pc := g.pc + 3, stack := v.toList ++ rest }) target → Steps p.tables e below (T.setTop g) target) ∨
    (∃ (q : Addr) (vm₁ : Vm) (B : Pt), s.WarmedH vm₁ ∧ Stand p l e R s m args below meth c B.U B.locs B.cells B.slots ∧ PostX ⟨T.setVm vm₁, locs, cells, slots⟩ argsL.toArray q B ∧
      Steps p.tables e below (T.setTop g) ((B.U.setTop { g with stack := rest }).pushFrame (.throwing q))) := by
  obtain ⟨mk, hnamed⟩ := Cond.code_named hcode
  obtain ⟨methM, cM, hmethM, -, -, -, -, -, -, hsigM⟩ := Cond.code_spec hnamed hcode
  have hstatic : methM.isStatic = true := Cond.static_spec hnamed hmethM hstat
  obtain ⟨kP, hkP, -⟩ := className_of_methodNamed hnamed
  have hinitP : kP.init = .initialized := Cond.initialized_spec (findClass_of_methodNamed hnamed) hkP hinit
  obtain ⟨vm₁, X₁, hstep₁⟩ := X.invokestatic hexec hown hlink hnamed hmethM hstatic hkP hinitP hy (g := g) hg (argsL := argsL) (rest := rest) (hlen _ hsigM) hstack hdg
  rcases hK m meth c ⟨T.setVm vm₁, locs, cells, slots⟩ { g with stack := rest } (.invokestatic index) mk argsL.toArray X₁ hg hsize hdg hW (X₁.named hnamed) (hpre vm₁ X₁.warmed) with ⟨v, B, X', hpost, hsteps⟩ | ⟨q, B, X', hpost, hsteps⟩
  · exact Or.inl ⟨v, vm₁, B, X₁.warmed, X', hpost, fun target h => hstep₁ _ fun acts => by rw [doInvoke_state]; exact hsteps.trans h⟩
  · exact Or.inr ⟨q, vm₁, B, X₁.warmed, X', hpost, hstep₁ _ fun acts => by rw [doInvoke_state]; exact hsteps⟩
end Calls
theorem vx_cls {s : State} {T : State} {vm₁ : Vm} {E : String} {k : ClassId} (hW : s.WarmedH vm₁) (h : (T.setVm vm₁).vm.findClass E = some k) : s.vm.findClass E = some k := by
  have h1 : vm₁.findClass E = some k := h
  rw [hW.alike.findClass] at h1
  exact h1
/-- the method's frame g, with q thrown over it -/
def vx_W (p : Program) (l : Launch) (e : Env) (R : Room) (s : State) (m : MethodId) (args : Array Value) (below : List Frame) (meth : Method) (c : Code) (H : Heap) (locs : List Loc) (cells slots : Nat) (Q : State → Prop) (g : JFrame) (q : Addr) : Prop :=
  ∀ T : State, T.heap = H → Stand p l e R s m args below meth c T locs cells slots → ∃ t, Steps p.tables e below ((T.setTop g).pushFrame (.throwing q)) t ∧ Q t
def vx_Run (p : Program) (l : Launch) (e : Env) (R : Room) (s : State) (m : MethodId) (args : Array Value) (below : List Frame) (meth : Method) (c : Code) (H : Heap) (locs : List Loc) (cells slots mc ms : Nat) (g : JFrame) (rest : List Value) (Qa : State → Outcome → State → Prop) (XC : String → State → State → Prop) (free : Addr → Prop) : Prop :=
  ∀ T : State, T.heap = H → Stand p l e R s m args below meth c T locs cells slots →
    (∃ (v : Option Value) (st₀ t T' : State) (L : List Loc), st₀.heap = H ∧ Stand p l e R s m args below meth c T' (locs ++ L) (cells + mc) (slots + ms) ∧ (∀ q ∈ L, free q.base) ∧ T'.heap = t.heap ∧ T'.vm = t.vm ∧ Qa st₀ (.returned v) t ∧
      Goes p e below T g T' { g with pc := g.pc + 3, stack := v.toList ++ rest }) ∨
    (∃ (q : Addr) (st₀ t T' : State) (L : List Loc) (E : String) (ce : Cell), st₀.heap = H ∧ Stand p l e R s m args below meth c T' (locs ++ L) (cells + mc) (slots + ms) ∧ (∀ z ∈ L, free z.base) ∧ T'.heap = t.heap ∧ T'.vm = t.vm ∧ XC E st₀ t ∧ t.heap[q]? = some ce ∧ ce.vm = .none ∧ s.vm.findClass E = some ce.cls ∧
      Steps p.tables e below (T.setTop g) ((T'.setTop { g with stack := rest }).pushFrame (.throwing q)))
def vx_X {S : Type} (px : S → Prop) (B : String → S → State → Prop) (A : Nat → Prop) : String → State → State → Prop := fun E st t => ∃ u : S, px u ∧ B E u t ∧ va_F A st t
section Runs
variable {p : Program} {l : Launch} {e : Env} {R : Room} {s : State} {m : MethodId} {args : Array Value} {below : List Frame} {meth : Method} {c : Code} {H : Heap} {locs : List Loc} {cells slots : Nat}
variable {y : MethodName} {bytes cc : ByteArray} {maxL nL mc ms n index : Nat} {ret : Option FieldType} {ws : List Cond} {rm : Room} {Pc : Array Value → State → Prop} {Qc : Array Value → State → Outcome → State → Prop} {XC : String → State → State → Prop} {free : Addr → Prop} {Ts : List Cond} {own C : String} {b : Addr} {As rest : List Value} {g : JFrame}
theorem vx_callBack (cb : CallB R s args own index y bytes maxL ret ws rm mc ms n) (hM : vx_Met l y ws rm Pc Qc XC mc ms free) (hbl : FrameBlind Pc) : vx_Back l R p e below s args y 3 8 (PreOf R mc ms Pc) (PostOf Qc mc ms free) (vx_Post XC mc ms free) := by
  obtain ⟨hrc, hrs, hfr, hlo, hws, hcw, -, hini, -⟩ := cb
  exact vx_back (bytes := bytes) (maxL := maxL) (ret := ret) hM hbl hrc hrs hfr hlo hws hcw (fun a' U hW => word_at hW (Or.inl (by first | rfl | simp [Cond.onTables, Cond.keeps, Cond.steady])) hini)
theorem vx_runV (S : CallFix p m c cc nL s args Ts own) (hM : vx_Met l y ws rm Pc Qc XC mc ms free) (cw : CallW R s args own C index y bytes maxL ret ws rm mc ms n) (hp : PreV s H C b Pc As)
    (hg : g.method = m) (hn : As.length = n) (hsize : g.locals.size = nL) (hstack : g.stack = As.reverse ++ .ref b :: rest) (hW : 2 * g.monitorRoom + (rest.map fun v => v.category).sum ≤ 8) (hdg : decode cc g.pc = .ok (.invokevirtual index, 3)) (hf : cells + mc ≤ R.cells ∧ slots + ms ≤ R.slots) :
    vx_Run p l e R s m args below meth c H locs cells slots mc ms g rest (Qc (Value.ref b :: As).toArray) XC free := by
  have hK : vx_Back l R p e below s args y 3 8 (PreOf R mc ms Pc) (PostOf Qc mc ms free) (vx_Post XC mc ms free) := vx_callBack cw.1 hM hp.1
  obtain ⟨⟨-, -, -, -, -, -, hcode, -, hy, hlen, hl⟩, hin, hse⟩ := cw
  obtain ⟨hx, hb, hml, ho, -⟩ := S
  obtain ⟨-, ⟨cellB, hcB, hoB, hclB⟩, hPc⟩ := hp
  intro T hT X
  rcases vx_callV X hx (C := C) (bytes := bytes) (maxL := maxL) (ret := ret) ho hl hin hse hcode hy hK (by rw [hT]; exact hcB) hoB hclB hg (hsize.trans hml.symm) (argsL := As) (rest := rest) (fun sig h => hn.trans (hlen sig h)) hstack hW (by rw [hb]; exact hdg)
    (fun vm₁ hW₁ => ⟨hf.1, hf.2, hPc (T.setVm vm₁) hT hW₁⟩) with ⟨v, vm₁, ⟨U', l2, c2, s2⟩, hW₁, X', ⟨g', mk, t, L, e1, e2, hq, h1, hL, h2, h3⟩, st⟩ | ⟨q, vm₁, ⟨U', l2, c2, s2⟩, hW₁, X', ⟨g', mk, t, L, E, ce, e1, e2, hq, hce, hcv, hcl, h1, hL, h2, h3⟩, st⟩
  · dsimp only [Pt.U, Pt.locs, Pt.cells, Pt.slots] at X' e1 e2 h1 h2 h3 st
    subst h1; subst h2; subst h3
    exact Or.inl ⟨v, (T.setVm vm₁).calling g' mk (Value.ref b :: As).toArray, t, U', L, hT, X', hL, e1, e2, hq, st⟩
  · dsimp only [Pt.U, Pt.locs, Pt.cells, Pt.slots] at X' e1 e2 h1 h2 h3 st hcl
    subst h1; subst h2; subst h3
    exact Or.inr ⟨q, (T.setVm vm₁).calling g' mk (Value.ref b :: As).toArray, t, U', L, E, ce, hT, X', hL, e1, e2, hq, hce, hcv, vx_cls hW₁ hcl, st⟩
theorem vx_runS (S : CallFix p m c cc nL s args Ts own) (hM : vx_Met l y ws rm Pc Qc XC mc ms free) (cw : CallB R s args own index y bytes maxL ret ws rm mc ms n ∧ (Cond.static y).before args s = true) (hp : PreS s H Pc As)
    (hg : g.method = m) (hn : As.length = n) (hsize : g.locals.size = nL) (hstack : g.stack = As.reverse ++ rest) (hW : 2 * g.monitorRoom + (rest.map fun v => v.category).sum ≤ 8) (hdg : decode cc g.pc = .ok (.invokestatic index, 3)) (hf : cells + mc ≤ R.cells ∧ slots + ms ≤ R.slots) :
    vx_Run p l e R s m args below meth c H locs cells slots mc ms g rest (Qc As.toArray) XC free := by
  have hK : vx_Back l R p e below s args y 3 8 (PreOf R mc ms Pc) (PostOf Qc mc ms free) (vx_Post XC mc ms free) := vx_callBack cw.1 hM hp.1
  obtain ⟨⟨-, -, -, -, -, -, hcode, hini, hy, hlen, hl⟩, hstt⟩ := cw
  obtain ⟨hx, hb, hml, ho, -⟩ := S
  intro T hT X
  rcases vx_callS X hx (bytes := bytes) (maxL := maxL) (ret := ret) ho hl hstt hini hcode hy hK hg (hsize.trans hml.symm) (argsL := As) (rest := rest) (fun sig h => hn.trans (hlen sig h)) hstack hW (by rw [hb]; exact hdg)
    (fun vm₁ hW₁ => ⟨hf.1, hf.2, hp.2 (T.setVm vm₁) hT hW₁⟩) with ⟨v, vm₁, ⟨U', l2, c2, s2⟩, hW₁, X', ⟨g', mk, t, L, e1, e2, hq, h1, hL, h2, h3⟩, st⟩ | ⟨q, vm₁, ⟨U', l2, c2, s2⟩, hW₁, X', ⟨g', mk, t, L, E, ce, e1, e2, hq, hce, hcv, hcl, h1, hL, h2, h3⟩, st⟩
  · dsimp only [Pt.U, Pt.locs, Pt.cells, Pt.slots] at X' e1 e2 h1 h2 h3 st
    subst h1; subst h2; subst h3
    exact Or.inl ⟨v, (T.setVm vm₁).calling g' mk As.toArray, t, U', L, hT, X', hL, e1, e2, hq, st⟩
  · dsimp only [Pt.U, Pt.locs, Pt.cells, Pt.slots] at X' e1 e2 h1 h2 h3 st hcl
    subst h1; subst h2; subst h3
    exact Or.inr ⟨q, (T.setVm vm₁).calling g' mk As.toArray, t, U', L, E, ce, hT, X', hL, e1, e2, hq, hce, hcv, vx_cls hW₁ hcl, st⟩
end Runs
section Rows
variable {p : Program} {l : Launch} {e : Env} {R : Room} {s : State} {m : MethodId} {args : Array Value} {below : List Frame} {meth : Method} {c : Code} {H : Heap} {locs : List Loc} {cells slots : Nat} {Q : State → Prop}
variable {mc ms : Nat} {free : Addr → Prop} {A0 A1 : Nat → Prop} {H0 : Heap} {a : Array Value} {pc : Nat} {ls : Array Slot} {st0 rest : List Value}
theorem vx_keep {st₀ t T' : State} {L : List Loc} (h0 : st₀.heap = H) (e1 : T'.heap = t.heap) (hS : va_S A0 H0 H locs) (hA : ∀ q, q < H.size → A1 q → A0 q) (hf : ∀ q, free q → A0 q) (hL : ∀ q ∈ L, free q.base) (hF : va_F A1 st₀ t) :
    H.size ≤ T'.heap.size ∧ (∀ q : Nat, q < H.size → ¬ A1 q → T'.heap[q]? = H[q]?) ∧ va_S A0 H0 T'.heap (locs ++ L) := by
  obtain ⟨hz, hk⟩ := hF
  rw [h0] at hz hk
  exact ⟨by rw [e1]; exact hz, fun q h1 h2 => by rw [e1]; exact hk q h1 h2,
    ⟨Nat.le_trans hS.1 (by rw [e1]; exact hz), fun q h1 h2 => by rw [e1, hk q (Nat.lt_of_lt_of_le h1 hS.1) (fun z => h2 (hA q (Nat.lt_of_lt_of_le h1 hS.1) z))]; exact hS.2.1 q h1 h2, fun q hq => by
      rcases List.mem_append.mp hq with h | h
      · exact hS.2.2 q h
      · exact hf _ (hL q h)⟩⟩
theorem vx_calli {S SX : Type} {post : Int32 → S → Prop} {px : SX → Prop} {B : S → State → Prop} {BX : String → SX → State → Prop} {AX : Nat → Prop} (hr : vx_Run p l e R s m args below meth c H locs cells slots mc ms (F0 m pc ls st0) rest (va_Qi post B A1 a) (vx_X px BX AX) free) (hS : va_S A0 H0 H locs) (hA : ∀ q, q < H.size → A1 q → A0 q) (hf : ∀ q, free q → A0 q) (hAX : ∀ q, q < H.size → AX q → A0 q)
    (kx : ∀ (E : String) (ce : Cell) (q9 : Addr) (u : SX) (t : State) (H1 : Heap) (locs1 : List Loc), t.heap = H1 → s.vm.Alike t.vm → px u → BX E u t → H.size ≤ H1.size → (∀ q : Nat, q < H.size → ¬ AX q → H1[q]? = H[q]?) → va_S A0 H0 H1 locs1 → H1[q9]? = some ce → ce.vm = .none → s.vm.findClass E = some ce.cls → vx_W p l e R s m args below meth c H1 locs1 (cells + mc) (slots + ms) Q (F0 m pc ls rest) q9)
    (kk : ∀ (r : Int32) (u : S) (t : State) (H1 : Heap) (locs1 : List Loc), t.heap = H1 → s.vm.Alike t.vm → post r u → B u t → H.size ≤ H1.size → (∀ q : Nat, q < H.size → ¬ A1 q → H1[q]? = H[q]?) → va_S A0 H0 H1 locs1 → W p l e R s m args below meth c H1 locs1 (cells + mc) (slots + ms) Q (F0 m (pc + 3) ls (.int r :: rest))) : W p l e R s m args below meth c H locs cells slots Q (F0 m pc ls st0) := by
  intro T hT X
  rcases hr T hT X with ⟨v, st₀, t, T', L, h0, X', hL, e1, e2, ⟨⟨r, u, hv, hp, hb⟩, hF⟩, st⟩ | ⟨q, st₀, t, T', L, E, ce, h0, X', hL, e1, e2, ⟨u, hp, hb, hF⟩, hce, hcv, hcl, st⟩
  · cases hv
    obtain ⟨k1, k2, k3⟩ := vx_keep h0 e1 hS hA hf hL hF
    obtain ⟨t2, a1, b1⟩ := kk r u t T'.heap (locs ++ L) e1.symm (by rw [← e2]; exact X'.warmed.alike) hp hb k1 k2 k3 T' rfl X'
    exact ⟨t2, st t2 a1, b1⟩
  · obtain ⟨k1, k2, k3⟩ := vx_keep h0 e1 hS hAX hf hL hF
    obtain ⟨t2, a1, b1⟩ := kx E ce q u t T'.heap (locs ++ L) e1.symm (by rw [← e2]; exact X'.warmed.alike) hp hb k1 k2 k3 (by rw [e1]; exact hce) hcv hcl T' rfl X'
    exact ⟨t2, st.trans a1, b1⟩
theorem vx_calll {S SX : Type} {post : Int64 → S → Prop} {px : SX → Prop} {B : S → State → Prop} {BX : String → SX → State → Prop} {AX : Nat → Prop} (hr : vx_Run p l e R s m args below meth c H locs cells slots mc ms (F0 m pc ls st0) rest (va_Ql post B A1 a) (vx_X px BX AX) free) (hS : va_S A0 H0 H locs) (hA : ∀ q, q < H.size → A1 q → A0 q) (hf : ∀ q, free q → A0 q) (hAX : ∀ q, q < H.size → AX q → A0 q)
    (kx : ∀ (E : String) (ce : Cell) (q9 : Addr) (u : SX) (t : State) (H1 : Heap) (locs1 : List Loc), t.heap = H1 → s.vm.Alike t.vm → px u → BX E u t → H.size ≤ H1.size → (∀ q : Nat, q < H.size → ¬ AX q → H1[q]? = H[q]?) → va_S A0 H0 H1 locs1 → H1[q9]? = some ce → ce.vm = .none → s.vm.findClass E = some ce.cls → vx_W p l e R s m args below meth c H1 locs1 (cells + mc) (slots + ms) Q (F0 m pc ls rest) q9)
    (kk : ∀ (r : Int64) (u : S) (t : State) (H1 : Heap) (locs1 : List Loc), t.heap = H1 → s.vm.Alike t.vm → post r u → B u t → H.size ≤ H1.size → (∀ q : Nat, q < H.size → ¬ A1 q → H1[q]? = H[q]?) → va_S A0 H0 H1 locs1 → W p l e R s m args below meth c H1 locs1 (cells + mc) (slots + ms) Q (F0 m (pc + 3) ls (.long r :: rest))) : W p l e R s m args below meth c H locs cells slots Q (F0 m pc ls st0) := by
  intro T hT X
  rcases hr T hT X with ⟨v, st₀, t, T', L, h0, X', hL, e1, e2, ⟨⟨r, u, hv, hp, hb⟩, hF⟩, st⟩ | ⟨q, st₀, t, T', L, E, ce, h0, X', hL, e1, e2, ⟨u, hp, hb, hF⟩, hce, hcv, hcl, st⟩
  · cases hv
    obtain ⟨k1, k2, k3⟩ := vx_keep h0 e1 hS hA hf hL hF
    obtain ⟨t2, a1, b1⟩ := kk r u t T'.heap (locs ++ L) e1.symm (by rw [← e2]; exact X'.warmed.alike) hp hb k1 k2 k3 T' rfl X'
    exact ⟨t2, st t2 a1, b1⟩
  · obtain ⟨k1, k2, k3⟩ := vx_keep h0 e1 hS hAX hf hL hF
    obtain ⟨t2, a1, b1⟩ := kx E ce q u t T'.heap (locs ++ L) e1.symm (by rw [← e2]; exact X'.warmed.alike) hp hb k1 k2 k3 (by rw [e1]; exact hce) hcv hcl T' rfl X'
    exact ⟨t2, st.trans a1, b1⟩
theorem vx_callf {S SX : Type} {post : UInt32 → S → Prop} {px : SX → Prop} {B : S → State → Prop} {BX : String → SX → State → Prop} {AX : Nat → Prop} (hr : vx_Run p l e R s m args below meth c H locs cells slots mc ms (F0 m pc ls st0) rest (va_Qf post B A1 a) (vx_X px BX AX) free) (hS : va_S A0 H0 H locs) (hA : ∀ q, q < H.size → A1 q → A0 q) (hf : ∀ q, free q → A0 q) (hAX : ∀ q, q < H.size → AX q → A0 q)
    (kx : ∀ (E : String) (ce : Cell) (q9 : Addr) (u : SX) (t : State) (H1 : Heap) (locs1 : List Loc), t.heap = H1 → s.vm.Alike t.vm → px u → BX E u t → H.size ≤ H1.size → (∀ q : Nat, q < H.size → ¬ AX q → H1[q]? = H[q]?) → va_S A0 H0 H1 locs1 → H1[q9]? = some ce → ce.vm = .none → s.vm.findClass E = some ce.cls → vx_W p l e R s m args below meth c H1 locs1 (cells + mc) (slots + ms) Q (F0 m pc ls rest) q9)
    (kk : ∀ (r : UInt32) (u : S) (t : State) (H1 : Heap) (locs1 : List Loc), t.heap = H1 → s.vm.Alike t.vm → post r u → B u t → H.size ≤ H1.size → (∀ q : Nat, q < H.size → ¬ A1 q → H1[q]? = H[q]?) → va_S A0 H0 H1 locs1 → W p l e R s m args below meth c H1 locs1 (cells + mc) (slots + ms) Q (F0 m (pc + 3) ls (.float r :: rest))) : W p l e R s m args below meth c H locs cells slots Q (F0 m pc ls st0) := by
  intro T hT X
  rcases hr T hT X with ⟨v, st₀, t, T', L, h0, X', hL, e1, e2, ⟨⟨r, u, hv, hp, hb⟩, hF⟩, st⟩ | ⟨q, st₀, t, T', L, E, ce, h0, X', hL, e1, e2, ⟨u, hp, hb, hF⟩, hce, hcv, hcl, st⟩
  · cases hv
    obtain ⟨k1, k2, k3⟩ := vx_keep h0 e1 hS hA hf hL hF
    obtain ⟨t2, a1, b1⟩ := kk r u t T'.heap (locs ++ L) e1.symm (by rw [← e2]; exact X'.warmed.alike) hp hb k1 k2 k3 T' rfl X'
    exact ⟨t2, st t2 a1, b1⟩
  · obtain ⟨k1, k2, k3⟩ := vx_keep h0 e1 hS hAX hf hL hF
    obtain ⟨t2, a1, b1⟩ := kx E ce q u t T'.heap (locs ++ L) e1.symm (by rw [← e2]; exact X'.warmed.alike) hp hb k1 k2 k3 (by rw [e1]; exact hce) hcv hcl T' rfl X'
    exact ⟨t2, st.trans a1, b1⟩
theorem vx_calld {S SX : Type} {post : UInt64 → S → Prop} {px : SX → Prop} {B : S → State → Prop} {BX : String → SX → State → Prop} {AX : Nat → Prop} (hr : vx_Run p l e R s m args below meth c H locs cells slots mc ms (F0 m pc ls st0) rest (va_Qd post B A1 a) (vx_X px BX AX) free) (hS : va_S A0 H0 H locs) (hA : ∀ q, q < H.size → A1 q → A0 q) (hf : ∀ q, free q → A0 q) (hAX : ∀ q, q < H.size → AX q → A0 q)
    (kx : ∀ (E : String) (ce : Cell) (q9 : Addr) (u : SX) (t : State) (H1 : Heap) (locs1 : List Loc), t.heap = H1 → s.vm.Alike t.vm → px u → BX E u t → H.size ≤ H1.size → (∀ q : Nat, q < H.size → ¬ AX q → H1[q]? = H[q]?) → va_S A0 H0 H1 locs1 → H1[q9]? = some ce → ce.vm = .none → s.vm.findClass E = some ce.cls → vx_W p l e R s m args below meth c H1 locs1 (cells + mc) (slots + ms) Q (F0 m pc ls rest) q9)
    (kk : ∀ (r : UInt64) (u : S) (t : State) (H1 : Heap) (locs1 : List Loc), t.heap = H1 → s.vm.Alike t.vm → post r u → B u t → H.size ≤ H1.size → (∀ q : Nat, q < H.size → ¬ A1 q → H1[q]? = H[q]?) → va_S A0 H0 H1 locs1 → W p l e R s m args below meth c H1 locs1 (cells + mc) (slots + ms) Q (F0 m (pc + 3) ls (.double r :: rest))) : W p l e R s m args below meth c H locs cells slots Q (F0 m pc ls st0) := by
  intro T hT X
  rcases hr T hT X with ⟨v, st₀, t, T', L, h0, X', hL, e1, e2, ⟨⟨r, u, hv, hp, hb⟩, hF⟩, st⟩ | ⟨q, st₀, t, T', L, E, ce, h0, X', hL, e1, e2, ⟨u, hp, hb, hF⟩, hce, hcv, hcl, st⟩
  · cases hv
    obtain ⟨k1, k2, k3⟩ := vx_keep h0 e1 hS hA hf hL hF
    obtain ⟨t2, a1, b1⟩ := kk r u t T'.heap (locs ++ L) e1.symm (by rw [← e2]; exact X'.warmed.alike) hp hb k1 k2 k3 T' rfl X'
    exact ⟨t2, st t2 a1, b1⟩
  · obtain ⟨k1, k2, k3⟩ := vx_keep h0 e1 hS hAX hf hL hF
    obtain ⟨t2, a1, b1⟩ := kx E ce q u t T'.heap (locs ++ L) e1.symm (by rw [← e2]; exact X'.warmed.alike) hp hb k1 k2 k3 (by rw [e1]; exact hce) hcv hcl T' rfl X'
    exact ⟨t2, st.trans a1, b1⟩
theorem vx_callv {S SX : Type} {post : S → Prop} {px : SX → Prop} {B : S → State → Prop} {BX : String → SX → State → Prop} {AX : Nat → Prop} (hr : vx_Run p l e R s m args below meth c H locs cells slots mc ms (F0 m pc ls st0) rest (va_Qv post B A1 a) (vx_X px BX AX) free) (hS : va_S A0 H0 H locs) (hA : ∀ q, q < H.size → A1 q → A0 q) (hf : ∀ q, free q → A0 q) (hAX : ∀ q, q < H.size → AX q → A0 q)
    (kx : ∀ (E : String) (ce : Cell) (q9 : Addr) (u : SX) (t : State) (H1 : Heap) (locs1 : List Loc), t.heap = H1 → s.vm.Alike t.vm → px u → BX E u t → H.size ≤ H1.size → (∀ q : Nat, q < H.size → ¬ AX q → H1[q]? = H[q]?) → va_S A0 H0 H1 locs1 → H1[q9]? = some ce → ce.vm = .none → s.vm.findClass E = some ce.cls → vx_W p l e R s m args below meth c H1 locs1 (cells + mc) (slots + ms) Q (F0 m pc ls rest) q9)
    (kk : ∀ (u : S) (t : State) (H1 : Heap) (locs1 : List Loc), t.heap = H1 → s.vm.Alike t.vm → post u → B u t → H.size ≤ H1.size → (∀ q : Nat, q < H.size → ¬ A1 q → H1[q]? = H[q]?) → va_S A0 H0 H1 locs1 → W p l e R s m args below meth c H1 locs1 (cells + mc) (slots + ms) Q (F0 m (pc + 3) ls (rest))) : W p l e R s m args below meth c H locs cells slots Q (F0 m pc ls st0) := by
  intro T hT X
  rcases hr T hT X with ⟨v, st₀, t, T', L, h0, X', hL, e1, e2, ⟨⟨u, hv, hp, hb⟩, hF⟩, st⟩ | ⟨q, st₀, t, T', L, E, ce, h0, X', hL, e1, e2, ⟨u, hp, hb, hF⟩, hce, hcv, hcl, st⟩
  · cases hv
    obtain ⟨k1, k2, k3⟩ := vx_keep h0 e1 hS hA hf hL hF
    obtain ⟨t2, a1, b1⟩ := kk u t T'.heap (locs ++ L) e1.symm (by rw [← e2]; exact X'.warmed.alike) hp hb k1 k2 k3 T' rfl X'
    exact ⟨t2, st t2 a1, b1⟩
  · obtain ⟨k1, k2, k3⟩ := vx_keep h0 e1 hS hAX hf hL hF
    obtain ⟨t2, a1, b1⟩ := kx E ce q u t T'.heap (locs ++ L) e1.symm (by rw [← e2]; exact X'.warmed.alike) hp hb k1 k2 k3 (by rw [e1]; exact hce) hcv hcl T' rfl X'
    exact ⟨t2, st.trans a1, b1⟩
/-- caught by the row x of this method's table; the rows ahead don't take it -/
theorem vx_catch {own name : String} {E : String} {ce : Cell} {q : Addr} (hown : s.vm.findClass own = some m.cls) (pre : List ExceptionTableEntry) (x : ExceptionTableEntry) (suf : List ExceptionTableEntry) (hsplit : c.exceptionTable.toList = pre ++ x :: suf)
    (hpass : ∀ z ∈ pre, covers z pc = false ∨ (z.catchType ≠ 0 ∧ ∃ nm : String, (Cond.classLink own z.catchType nm).before args s = true ∧ va_Nc E nm s)) (hx : covers x pc = true) (h0 : x.catchType ≠ 0)
    (hlink : (Cond.classLink own x.catchType name).before args s = true) (hcast : (Cond.castable E name).before args s = true) (hcell : H[q]? = some ce) (hv : ce.vm = .none) (hcl : s.vm.findClass E = some ce.cls)
    (kk : W p l e R s m args below meth c H locs cells slots Q (F0 m x.handlerPc ls [.ref q])) : vx_W p l e R s m args below meth c H locs cells slots Q (F0 m pc ls rest) q := by
  intro T hT X
  have hpl : e.platform.magicAccessors = ({} : Platform).magicAccessors := by rw [X.admits.platform]
  obtain ⟨c3, c4, hc3, hc4, hasg⟩ := Cond.castable_spec hcast
  cases Option.some.inj (hc3.symm.trans hcl)
  obtain ⟨c5, hc5, hcl5⟩ := Cond.classLink_spec hown hlink e.platform hpl
  cases Option.some.inj (hc4.symm.trans hc5)
  obtain ⟨vm', X', st⟩ := X.thenCaughtThrough q (g := F0 m pc ls rest) rfl (Steps.refl _) (by rw [hT]; exact hcell) (by rw [hv]; rfl) (by obtain ⟨k9, h9, -⟩ := Vm.findClass_spec hcl; exact ⟨k9, h9⟩) pre x suf hsplit
    (fun z hz => by
      rcases hpass z hz with h | ⟨hz0, nm, hl1, hn1⟩
      · exact Or.inl h
      · obtain ⟨c6, hc6, hcl6⟩ := Cond.classLink_spec hown hl1 e.platform hpl
        obtain ⟨a8, b8, h1, h2, h3⟩ := hn1
        cases Option.some.inj (h1.symm.trans hcl)
        cases Option.some.inj (h2.symm.trans hc6)
        exact Or.inr ⟨hz0, _, hcl6, h3⟩) hx (Or.inr ⟨h0, c4, hcl5, hasg⟩)
  obtain ⟨t, a1, b1⟩ := kk (T.setVm vm') hT X'
  exact ⟨t, st.trans a1, b1⟩
end Rows
section Ends
variable {p : Program} {l : Launch} {e : Env} {R : Room} {s : State} {m : MethodId} {args : Array Value} {below : List Frame} {meth : Method} {c : Code} {H : Heap} {locs : List Loc} {cells slots : Nat} {Q : State → Prop}
variable {mc ms : Nat} {free : Addr → Prop} {A0 A1 : Nat → Prop} {H0 : Heap} {a : Array Value} {ls : Array Slot} {st0 rest : List Value}
variable {Qc : Array Value → State → Outcome → State → Prop} {XC : String → State → State → Prop}
/-- what a body that may throw owes at its end -/
def vx_MQ (below : List Frame) (Qc : Array Value → State → Outcome → State → Prop) (XC : String → State → State → Prop) (a : Array Value) (s : State) (mc ms : Nat) (free : Addr → Prop) : State → Prop := fun t =>
  ∃ o, t.status = .running ∧ Ended t below o ∧ vx_Q Qc XC mc ms free a s o t
theorem vx_ret {g : JFrame} {mc ms : Nat} (k : W p l e R s m args below meth c H locs cells slots (MQ below Qc args s mc ms free) g) : W p l e R s m args below meth c H locs cells slots (vx_MQ below Qc XC args s mc ms free) g := by
  intro T hT X
  obtain ⟨t, a1, o, b1, b2, b3, b4⟩ := k T hT X
  exact ⟨t, a1, o, b1, b2, Or.inl ⟨b3, b4⟩⟩
/-- not caught here: it goes on to the caller -/
theorem vx_widen {g : JFrame} {q : Addr} {k n : Nat} (h1 : cells ≤ k) (h2 : slots ≤ n) (kk : vx_W p l e R s m args below meth c H locs k n Q g q) : vx_W p l e R s m args below meth c H locs cells slots Q g q := fun T hT X => kk T hT (stand_widen X h1 h2)
theorem vx_out {pc : Nat} {E : String} {ce : Cell} {q : Addr} {mc ms : Nat} (hout : ∀ x ∈ c.exceptionTable.toList, covers x pc = false) (hlocks : meth.locks = false) (hcell : H[q]? = some ce) (hv : ce.vm = .none) (hcl : s.vm.findClass E = some ce.cls)
    (hx : ∀ t : State, t.heap = H → s.vm.Alike t.vm → XC E s t) (hf : ∀ z ∈ locs, free z.base) (hc : cells ≤ mc) (hs : slots ≤ ms) :
    vx_W p l e R s m args below meth c H locs cells slots (vx_MQ below Qc XC args s mc ms free) (F0 m pc ls rest) q := by
  intro T hT X
  obtain ⟨st1, hrun, hend, hW, hsm⟩ := X.leaveThrown q (g := F0 m pc ls rest) rfl rfl rfl hout hlocks
  have hcell9 : (T.setFrames (.throwing q :: below)).heap[q]? = some ce := by
    show T.heap[q]? = some ce
    rw [hT]; exact hcell
  exact ⟨_, st1, .threw q, hrun, hend, Or.inr ⟨q, rfl, E, ce, locs, hx _ hT hW.alike, hcell9, hv, hcl, hW, hsm.mono hc hs, hf⟩⟩
theorem vx_frame {U : State} {k n : Nat} (h : s.sameButNew ({ U with vm := s.vm } : State) locs k n) : s.heap.size ≤ U.heap.size ∧ ∀ q : Nat, q < s.heap.size → (∀ z ∈ locs, z.base ≠ q) → U.heap[q]? = s.heap[q]? := by
  obtain ⟨-, h2, -, -, -, h6⟩ := h
  refine ⟨h2, fun q hq hz => ?_⟩
  obtain ⟨c9, e1, e2, e3, e4⟩ := h6 q _ (Array.getElem?_eq_getElem hq)
  have hs : c9.slots = (s.heap[q]).slots := Array.ext_getElem? fun i => e4 i fun hm => hz _ hm rfl
  have h9 : c9 = s.heap[q] := by
    rw [hs] at e2
    exact e2
  have e5 : U.heap[q]? = some c9 := e1
  rw [e5, h9, Array.getElem?_eq_getElem hq]
/-- the words of a throw but the four that speak of the heap -/
def vx_no (w : Cond) : Bool := decide (w ≠ .isRef (.static Bundle.tN "UNASSIGNED_STACK" Bundle.steD)) && decide (w ≠ .isRef (.static Bundle.tN "SUPPRESSED_SENTINEL" Bundle.listD)) && decide (w ≠ .laysStatic Bundle.tN "UNASSIGNED_STACK" Bundle.steD) && decide (w ≠ .laysStatic Bundle.tN "SUPPRESSED_SENTINEL" Bundle.listD)
def vx_at0 (own : String) (ic : Nat) (X : String) (names : List String) : List Cond := (Bundle.ownAtoms0 own ic X names).filter vx_no
def vx_atS (own : String) (ic : Nat) (X : String) (names : List String) : List Cond := (Bundle.ownAtoms own ic X names).filter vx_no
/-- a word that the tables alone decide, or a good one -/
def vx_ot (w : Cond) : Bool := w.onTables || goodWord w
theorem vx_ot_at {args a' : Array Value} {s U : State} {w : Cond} (hW : s.WarmedH U.vm) (hvm : s.vm = U.vm) (hg : vx_ot w = true) (h : w.before args s = true) : w.before a' U = true := by
  simp only [vx_ot, Bool.or_eq_true] at hg
  rcases hg with hg | hg
  · exact va_tabs hg hvm h
  · exact word_at hW (good_of_word hg) h
/-- a list's words: the good ones out of the method's own list, the others by premises of their own -/
theorem vx_hat {args : Array Value} {s : State} {L B : List Cond} (h1 : ∀ w ∈ L.filter goodWord, w.before args s = true) (h2 : ∀ w ∈ L.filter (fun w => !goodWord w), w ∈ B) (h3 : ∀ w ∈ B, w.before args s = true) : ∀ w ∈ L, w.before args s = true := by
  intro w hw
  by_cases g : goodWord w = true
  · exact h1 w (List.mem_filter.mpr ⟨hw, g⟩)
  · refine h3 w (h2 w (List.mem_filter.mpr ⟨hw, ?_⟩))
    show (!goodWord w) = true
    cases hgw : goodWord w
    · rfl
    · exact absurd hgw g
theorem vx_c {args : Array Value} {s : State} {w : Cond} {B : List Cond} (h : w.before args s = true) (t : ∀ w ∈ B, w.before args s = true) : ∀ w' ∈ w :: B, w'.before args s = true := fun w' h' => (List.mem_cons.mp h').elim (fun e => by rw [e]; exact h) (t w')
theorem vx_n {args : Array Value} {s : State} : ∀ w ∈ ([] : List Cond), w.before args s = true := fun _ h => nomatch h
theorem vx_own {args : Array Value} {s : State} {L : List Cond} (h1 : ∀ w ∈ L.filter vx_no, w.before args s = true)
    (hU : (Cond.isRef (.static Bundle.tN "UNASSIGNED_STACK" Bundle.steD)).before args s = true) (hN : (Cond.isRef (.static Bundle.tN "SUPPRESSED_SENTINEL" Bundle.listD)).before args s = true)
    (lU : (Cond.laysStatic Bundle.tN "UNASSIGNED_STACK" Bundle.steD).before args s = true) (lN : (Cond.laysStatic Bundle.tN "SUPPRESSED_SENTINEL" Bundle.listD).before args s = true) : ∀ w ∈ L, w.before args s = true := by
  intro w hw
  by_cases e1 : w = .isRef (.static Bundle.tN "UNASSIGNED_STACK" Bundle.steD)
  · rw [e1]; exact hU
  · by_cases e2 : w = .isRef (.static Bundle.tN "SUPPRESSED_SENTINEL" Bundle.listD)
    · rw [e2]; exact hN
    · by_cases e3 : w = .laysStatic Bundle.tN "UNASSIGNED_STACK" Bundle.steD
      · rw [e3]; exact lU
      · by_cases e4 : w = .laysStatic Bundle.tN "SUPPRESSED_SENTINEL" Bundle.listD
        · rw [e4]; exact lN
        · exact h1 w (List.mem_filter.mpr ⟨hw, by unfold vx_no; rw [decide_eq_true e1, decide_eq_true e2, decide_eq_true e3, decide_eq_true e4]; rfl⟩)
/-- where a static field lies, its class's statics cell in H -/
def vx_L (C n d : String) (A : Nat → Prop) (U : State) (H : Heap) : Prop := ∃ (c : ClassId) (k : Class) (i : Nat) (f : Field) (a : Nat) (cell : Cell), U.vm.findClass C = some c ∧ U.fieldFound? C n d = some (c, k, i, f) ∧ f.isStatic = true ∧ k.statics = some a ∧ H[a]? = some cell ∧ cell.vm.isStatics = true ∧ cell.cls = c ∧ f.slot < cell.slots.size ∧ k.staticTypes[f.slot]? = some f.type ∧ ¬ A a
theorem vx_L.moved {C n d : String} {A : Nat → Prop} {u U : State} {H : Heap} (hvm : u.vm.Alike U.vm) (h : vx_L C n d A u H) : vx_L C n d A U H := by
  obtain ⟨c, k, i, f, a, cell, h1, h2, h3, h4, h5, h6, h7, h8, h9, h10⟩ := h
  obtain ⟨k', hi', he⟩ := State.fieldFound?_setVm hvm h2
  exact ⟨c, k', i, f, a, cell, by rw [hvm.findClass]; exact h1, hi', h3, by rw [he]; exact h4, h5, h6, h7, h8, by rw [he]; exact h9, h10⟩
theorem vx_L.kept {C n d : String} {A : Nat → Prop} {U : State} {H H1 : Heap} (h : vx_L C n d A U H) (hq : ∀ a : Nat, a < H.size → ¬ A a → H1[a]? = H[a]?) : vx_L C n d A U H1 := by
  obtain ⟨c, k, i, f, a, cell, h1, h2, h3, h4, h5, h6, h7, h8, h9, h10⟩ := h
  exact ⟨c, k, i, f, a, cell, h1, h2, h3, h4, by rw [hq a (Array.getElem?_eq_some_iff.mp h5).1 h10]; exact h5, h6, h7, h8, h9, h10⟩
theorem vx_L.narrow {C n d : String} {A B : Nat → Prop} {U : State} {H : Heap} (h : vx_L C n d A U H) (hAB : ∀ q, B q → A q) : vx_L C n d B U H := by
  obtain ⟨c, k, i, f, a, cell, h1, h2, h3, h4, h5, h6, h7, h8, h9, h10⟩ := h
  exact ⟨c, k, i, f, a, cell, h1, h2, h3, h4, h5, h6, h7, h8, h9, fun z => h10 (hAB _ z)⟩
theorem vx_L.word {C n d : String} {A : Nat → Prop} {s : State} {args : Array Value} (h : vx_L C n d A s s.heap) : (Cond.laysStatic C n d).before args s = true := by
  obtain ⟨c, k, i, f, a, cell, h1, h2, h3, h4, h5, h6, h7, h8, h9, -⟩ := h
  show (Cond.laysStatic C n d).holds args s none s [] = true
  exact Cond.laysStatic_of h1 h2 h3 h4 h5 h6 h7 h8 h9
/-- .. and what it holds: null or some reference -/
def vx_Zq (C n d : String) (A : Nat → Prop) (U : State) (H : Heap) : Prop := va_Zq C n d A U H ∧ vx_L C n d A U H
theorem vx_Zq.moved {C n d : String} {A : Nat → Prop} {u U : State} {H : Heap} (hvm : u.vm.Alike U.vm) (h : vx_Zq C n d A u H) : vx_Zq C n d A U H := ⟨va_Zq.moved hvm h.1, vx_L.moved hvm h.2⟩
theorem vx_Zq.kept {C n d : String} {A : Nat → Prop} {U : State} {H H1 : Heap} (h : vx_Zq C n d A U H) (hq : ∀ a : Nat, a < H.size → ¬ A a → H1[a]? = H[a]?) : vx_Zq C n d A U H1 := ⟨va_Zq.kept h.1 hq, vx_L.kept h.2 hq⟩
theorem vx_Zq.narrow {C n d : String} {A B : Nat → Prop} {U : State} {H : Heap} (h : vx_Zq C n d A U H) (hAB : ∀ q, B q → A q) : vx_Zq C n d B U H := ⟨va_Zq.narrow h.1 hAB, vx_L.narrow h.2 hAB⟩
theorem vx_Zqof {args : Array Value} {s : State} {C n d : String} {A : Nat → Prop} (hl : (Cond.laysStatic C n d).before args s = true) (hini : (Cond.initialized C).before args s = true) (h : (Cond.isRef (.static C n d)).before args s = true) (hA : ∀ a : Nat, a < s.heap.size → ¬ A a) : vx_Zq C n d A s s.heap := by
  refine ⟨va_Zqof hl hini h hA, ?_⟩
  obtain ⟨c, k, i, f, a, cell, h1, h2, h3, h4, h5, h6, h7, h8, h9⟩ := Cond.laysStatic_spec hl
  exact ⟨c, k, i, f, a, cell, h1, h2, h3, h4, h5, h6, h7, h8, h9, hA a (Array.getElem?_eq_some_iff.mp h5).1⟩
theorem vx_isRef {C n d : String} {v : Value} {A : Nat → Prop} {s : State} {args : Array Value} (h : va_Z C n d v A s s.heap) (hv : v.isRef = true) : (Cond.isRef (.static C n d)).before args s = true := by
  obtain ⟨cf, kf, fi, f, a, cell, h1, h2, h3, h4, h5, h6, h7, -⟩ := h
  have he : (Term.static C n d).eval args s none [] s = some v := by
    simp [Term.eval, State.fieldNamed?, h1, h2, h4, h5, h6, h7]
  simp only [Cond.before, Cond.holds, Cond.value, he]
  cases v <;> simp_all [Value.isRef]
theorem vx_isRefq {C n d : String} {A : Nat → Prop} {s : State} {args : Array Value} (h : va_Zq C n d A s s.heap) : (Cond.isRef (.static C n d)).before args s = true := by
  rcases h with h | ⟨t, h⟩
  · exact vx_isRef h rfl
  · exact vx_isRef h rfl
/-- the same frame, seen from here: as if the method were called anew in this heap -/
theorem vx_rebase {T : State} (X : Stand p l e R s m args below meth c T locs cells slots) {R' : Room} (hf : R'.frames ≤ R.frames) (hl : R'.locals ≤ R.locals) (hc : cells + R'.cells ≤ R.cells) (hs : slots + R'.slots ≤ R.slots) :
    Stand p l e R' ((T.setVm s.vm).setFrames (.invoking m args :: below)) m args below meth c T [] 0 0 := by
  have htop : (T.setVm s.vm).topJava?.isSome := X.here.top
  have hF : ((T.setVm s.vm).setFrames (.invoking m args :: below)).frames = .invoking m args :: below := State.frames_setFrames _ (State.cur_lt_of_top htop)
  obtain ⟨g₀, hg0⟩ := Option.isSome_iff_exists.mp htop
  obtain ⟨r, hr⟩ := State.topJava?_eq_some.mp hg0
  have hl9 : e.platform.stackLimits (T.setVm s.vm).me = e.platform.stackLimits s.me := X.limits
  have hb9 : (T.setVm s.vm).me.stackBytes = s.me.stackBytes := X.bytes
  refine ⟨X.admits, X.cas, X.clock, hF, ?_, X.hears, X.method, X.code, X.here, X.tail, X.warmed, ?_, ?_, ?_⟩
  · have h := X.room
    have hU : ((T.setVm s.vm).setFrames (.invoking m args :: below)).localsInUse = s.localsInUse := by
      rw [State.localsInUse_invoking hF (meth := meth) (c := c) X.method X.code, State.localsInUse_invoking X.frames X.method X.code]
    simp only [State.hasRoom, Bool.and_eq_true, decide_eq_true_eq] at h ⊢
    obtain ⟨⟨⟨⟨h1, h2, h3, h4, h5, h6⟩, h7⟩, h8⟩, h9⟩ := h
    rw [X.frames, List.length_cons] at h2 h3
    have q1 := X.heapSize
    have q2 := X.used
    simp only [hF, hU, List.length_cons, State.stackLimits_setFrames, State.stackBytes_setFrames, hl9, hb9]
    refine ⟨⟨⟨⟨by omega, by omega, by omega, by omega, by omega, h6⟩, ?_⟩, ?_⟩, X.book⟩
    · show T.heap.size + R'.cells ≤ e.platform.maxCells
      omega
    · show T.slotsUsed + R'.slots ≤ e.platform.maxSlots
      omega
  · rw [State.stackLimits_setFrames]; rfl
  · rw [State.stackBytes_setFrames]; rfl
  · refine ⟨?_, Nat.le_refl _, Nat.le_refl _, ?_, ?_, fun a c9 h9 => ⟨c9, h9, rfl, rfl, fun _ _ => rfl⟩⟩
    · obtain ⟨t, ht, -⟩ := State.frames_cons hr
      show T.setVm s.vm = { ((T.setVm s.vm).setFrames (.invoking m args :: below)).setFrames (T.setVm s.vm).frames with heap := T.heap, slotsUsed := T.slotsUsed }
      rw [State.setFrames_setFrames, State.setFrames_self ht]
      rfl
    · show T.slotsUsed = T.slotsUsed + ((T.heap.toList.drop T.heap.size).map (·.slots.size)).sum
      rw [List.drop_eq_nil_of_le (Nat.le_of_eq Array.length_toList)]
      rfl
    · show ((T.heap.toList.drop T.heap.size).map (·.slots.size)).sum ≤ 0
      rw [List.drop_eq_nil_of_le (Nat.le_of_eq Array.length_toList)]
      exact Nat.le_refl _
/-- 'throw new E()': new; dup; invokespecial; athrow -/
theorem vx_throw0 {cc : ByteArray} {pc : Nat} (hexec : p.tables.exec = Jvm.exec) (hb : c.code = cc) (hl : l.stackTraces = false) {own cls : String} {names : List String} {ik ic mc ms : Nat} {A : Nat → Prop}
    (hown : s.vm.findClass own = some m.cls) (hcls : Bundle.fit cls = true) (hnames : ∀ n ∈ names, Bundle.fit n = true)
    (hk : (Cond.classLink own ik cls).before args s = true) (hini : (Cond.initialized cls).before args s = true) (hat : ∀ w ∈ vx_at0 own ic cls names, w.before args s = true)
    (hgood : ∀ w ∈ Cond.classLink own ik cls :: Cond.initialized cls :: vx_at0 own ic cls names, vx_ot w = true)
    (hU : vx_Zq Bundle.tN "UNASSIGNED_STACK" Bundle.steD A s s.heap) (hN : vx_Zq Bundle.tN "SUPPRESSED_SENTINEL" Bundle.listD A s s.heap) (hS : va_S A s.heap H locs) (hsize : ls.size = c.maxLocals)
    (d0 : decode cc pc = .ok (.new ik, 3)) (d3 : decode cc (pc + 3) = .ok (.dup, 1)) (d4 : decode cc (pc + 4) = .ok (.invokespecial ic, 3)) (d7 : decode cc (pc + 7) = .ok (.athrow, 1))
    (hout : ∀ x ∈ c.exceptionTable.toList, covers x (pc + 7) = false)
    (hRframes : names.length + 3 < R.frames) (hRlocals : (rest.map fun v => v.category).sum + (13 * (names.length + 1) + 42) ≤ R.locals) (hRcells : cells + 1 ≤ R.cells) (hRslots : slots + 6 ≤ R.slots) (hlocks : meth.locks = false)
    (hx : ∀ t : State, s.vm.Alike t.vm → H.size ≤ t.heap.size → (∀ q : Nat, q < H.size → t.heap[q]? = H[q]?) → XC cls s t)
    (hf : ∀ z ∈ locs, free z.base) (hc : cells + 1 ≤ mc) (hs : slots + 6 ≤ ms) :
    W p l e R s m args below meth c H locs cells slots (vx_MQ below Qc XC args s mc ms free) (F0 m pc ls rest) := by
  intro T hT X
  have htr : e.platform.stackTraces = false := (show e.platform.stackTraces = l.stackTraces by rw [X.admits.platform]).trans hl
  have Y := vx_rebase X (R' := { frames := R.frames, locals := R.locals, cells := 1, slots := 6 }) (Nat.le_refl _) (Nat.le_refl _) hRcells hRslots
  obtain ⟨s', hA⟩ : ∃ z, z = (T.setVm s.vm).setFrames (.invoking m args :: below) := ⟨_, rfl⟩
  rw [← hA] at Y
  have hvm : s'.vm = s.vm := by rw [hA]; rfl
  have hhp : s'.heap = H := by rw [hA]; exact hT
  have hW0 : s.WarmedH s'.vm := by rw [hvm]; exact State.WarmedH.refl s
  have hat' : ∀ w ∈ vx_at0 own ic cls names, w.before args s' = true := fun w hw => vx_ot_at hW0 hvm.symm (hgood w (List.mem_cons_of_mem _ (List.mem_cons_of_mem _ hw))) (hat w hw)
  have hk' : (Cond.classLink own ik cls).before args s' = true := vx_ot_at hW0 hvm.symm (hgood _ List.mem_cons_self) hk
  have hini' : (Cond.initialized cls).before args s' = true := vx_ot_at hW0 hvm.symm (hgood _ (List.mem_cons_of_mem _ List.mem_cons_self)) hini
  have hU' : vx_Zq Bundle.tN "UNASSIGNED_STACK" Bundle.steD A s' s'.heap := by rw [hhp]; exact vx_Zq.moved hW0.alike (hU.kept hS.2.1)
  have hN' : vx_Zq Bundle.tN "SUPPRESSED_SENTINEL" Bundle.listD A s' s'.heap := by rw [hhp]; exact vx_Zq.moved hW0.alike (hN.kept hS.2.1)
  have h : ∀ w ∈ Bundle.ownAtoms0 own ic cls names, w.before args s' = true := vx_own hat' (vx_isRefq hU'.1) (vx_isRefq hN'.1) hU'.2.word hN'.2.word
  have hown' : s'.vm.findClass own = some m.cls := by rw [hvm]; exact hown
  have hins : (Cond.instantiable cls 6).before args s' = true := h _ (by simp [Bundle.ownAtoms0])
  obtain ⟨vm₁, cX, kX, hfX, hkX, -, -, X₁, st1⟩ := Y.newCold hexec (own := own) (C := cls) (index := ik) (n := 6) hown' hk' hins hini'
    (g := F0 m pc ls rest) rfl (by rw [hb]; exact d0) (Nat.le_refl _) (Nat.le_refl _)
  generalize hT1 : (T.setVm vm₁).pushCell { cls := cX, slots := kX.instanceTypes.map defaultValue, vm := .none } = T1 at X₁ st1
  have hcat : (Value.ref T.heap.size).category = 1 := rfl
  have hcellA : T1.heap[T.heap.size]? = some (freshCell cX kX) := by rw [← hT1]; exact State.heap_pushCell_size _ _
  have d3' : decode c.code (pc + 3) = .ok (.dup, 1) := by rw [hb]; exact d3
  obtain ⟨U, hsteps, hrun, hend, hW, hsame, ce, hce, hO⟩ := X₁.ctorThrow0 hexec htr (own := own) (cls := cls) (names := names) (ic := ic) hown' hcls hnames h (fun x hx => nomatch hx) hfX hkX hcellA (by rw [hhp, hT]; exact Nat.le_refl _)
    (g := { method := m, pc := pc + 4, locals := ls, stack := .ref T.heap.size :: .ref T.heap.size :: rest, locked := none }) rfl hsize rfl rfl (rest := rest) rfl
    (by rw [hb]; exact d4) (by rw [hb]; exact d7) hout hRframes (by simp only [List.map_cons, List.sum_cons, hcat]; omega) hlocks
  obtain ⟨f1, f2⟩ := vx_frame hsame
  rw [hhp] at f1 f2
  have hWs : s.WarmedH U.vm := State.WarmedH.trans hW0 hW
  have hcl : s.vm.findClass cls = some ce.cls := by
    have h9 := hO.cls
    rw [hvm] at h9
    exact h9
  have hall : s.sameButNew ({ U with vm := s.vm } : State) locs mc ms := by
    subst hA
    obtain ⟨e1, e2⟩ := hsame
    rw [State.setFrames_setFrames] at e1
    have h2 : (T.setVm s.vm).sameButNew ({ U with vm := s.vm } : State) [] (0 + 1) (0 + 6) := ⟨e1, e2⟩
    have h3 := X.same.trans h2
    rw [List.append_nil] at h3
    exact h3.mono hc hs
  refine ⟨U, ?_, .threw T.heap.size, hrun, hend, Or.inr ⟨T.heap.size, rfl, cls, ce, locs, hx U hWs.alike f1 (fun q hq => f2 q hq (fun z hz => nomatch hz)), hce, hO.vm, hcl, hWs, hall, hf⟩⟩
  refine st1 _ ?_
  show Steps p.tables e below (T1.setTop { method := m, pc := pc + 3, locals := ls, stack := .ref T.heap.size :: rest, locked := none }) _
  jvm_step X₁.here [X₁.here.top, hexec, d3', Value.category]
  exact hsteps
/-- 'throw new E("text")': new; dup; ldc; invokespecial; athrow -/
theorem vx_throwS {cc : ByteArray} {pc : Nat} (hexec : p.tables.exec = Jvm.exec) (hb : c.code = cc) (hl : l.stackTraces = false) {own cls text : String} {names : List String} {ik is ic mc ms sa : Nat} {A : Nat → Prop}
    (hown : s.vm.findClass own = some m.cls) (hcls : Bundle.fit cls = true) (hnames : ∀ n ∈ names, Bundle.fit n = true)
    (hk : (Cond.classLink own ik cls).before args s = true) (hini : (Cond.initialized cls).before args s = true) (hstr : vk_R own is text sa s) (hat : ∀ w ∈ vx_atS own ic cls names, w.before args s = true)
    (hgood : ∀ w ∈ Cond.classLink own ik cls :: Cond.initialized cls :: vx_atS own ic cls names, vx_ot w = true)
    (hU : vx_Zq Bundle.tN "UNASSIGNED_STACK" Bundle.steD A s s.heap) (hN : vx_Zq Bundle.tN "SUPPRESSED_SENTINEL" Bundle.listD A s s.heap) (hS : va_S A s.heap H locs) (hsize : ls.size = c.maxLocals)
    (d0 : decode cc pc = .ok (.new ik, 3)) (d3 : decode cc (pc + 3) = .ok (.dup, 1)) (d4 : decode cc (pc + 4) = .ok (.ldc is, 2)) (d6 : decode cc (pc + 6) = .ok (.invokespecial ic, 3)) (d9 : decode cc (pc + 9) = .ok (.athrow, 1))
    (hout : ∀ x ∈ c.exceptionTable.toList, covers x (pc + 9) = false)
    (hRframes : names.length + 3 < R.frames) (hRlocals : (rest.map fun v => v.category).sum + (13 * (names.length + 1) + 43) ≤ R.locals) (hRcells : cells + 1 ≤ R.cells) (hRslots : slots + 6 ≤ R.slots) (hlocks : meth.locks = false)
    (hx : ∀ t : State, s.vm.Alike t.vm → H.size ≤ t.heap.size → (∀ q : Nat, q < H.size → t.heap[q]? = H[q]?) → XC cls s t)
    (hf : ∀ z ∈ locs, free z.base) (hc : cells + 1 ≤ mc) (hs : slots + 6 ≤ ms) :
    W p l e R s m args below meth c H locs cells slots (vx_MQ below Qc XC args s mc ms free) (F0 m pc ls rest) := by
  intro T hT X
  have htr : e.platform.stackTraces = false := (show e.platform.stackTraces = l.stackTraces by rw [X.admits.platform]).trans hl
  have Y := vx_rebase X (R' := { frames := R.frames, locals := R.locals, cells := 1, slots := 6 }) (Nat.le_refl _) (Nat.le_refl _) hRcells hRslots
  obtain ⟨s', hA⟩ : ∃ z, z = (T.setVm s.vm).setFrames (.invoking m args :: below) := ⟨_, rfl⟩
  rw [← hA] at Y
  have hvm : s'.vm = s.vm := by rw [hA]; rfl
  have hhp : s'.heap = H := by rw [hA]; exact hT
  have hW0 : s.WarmedH s'.vm := by rw [hvm]; exact State.WarmedH.refl s
  have hat' : ∀ w ∈ vx_atS own ic cls names, w.before args s' = true := fun w hw => vx_ot_at hW0 hvm.symm (hgood w (List.mem_cons_of_mem _ (List.mem_cons_of_mem _ hw))) (hat w hw)
  have hk' : (Cond.classLink own ik cls).before args s' = true := vx_ot_at hW0 hvm.symm (hgood _ List.mem_cons_self) hk
  have hini' : (Cond.initialized cls).before args s' = true := vx_ot_at hW0 hvm.symm (hgood _ (List.mem_cons_of_mem _ List.mem_cons_self)) hini
  have hU' : vx_Zq Bundle.tN "UNASSIGNED_STACK" Bundle.steD A s' s'.heap := by rw [hhp]; exact vx_Zq.moved hW0.alike (hU.kept hS.2.1)
  have hN' : vx_Zq Bundle.tN "SUPPRESSED_SENTINEL" Bundle.listD A s' s'.heap := by rw [hhp]; exact vx_Zq.moved hW0.alike (hN.kept hS.2.1)
  have h : ∀ w ∈ Bundle.ownAtoms own ic cls names, w.before args s' = true := vx_own hat' (vx_isRefq hU'.1) (vx_isRefq hN'.1) hU'.2.word hN'.2.word
  have hown' : s'.vm.findClass own = some m.cls := by rw [hvm]; exact hown
  have hins : (Cond.instantiable cls 6).before args s' = true := h _ (by simp [Bundle.ownAtoms])
  obtain ⟨vm₁, cX, kX, hfX, hkX, -, -, X₁, st1⟩ := Y.newCold hexec (own := own) (C := cls) (index := ik) (n := 6) hown' hk' hins hini'
    (g := F0 m pc ls rest) rfl (by rw [hb]; exact d0) (Nat.le_refl _) (Nat.le_refl _)
  generalize hT1 : (T.setVm vm₁).pushCell { cls := cX, slots := kX.instanceTypes.map defaultValue, vm := .none } = T1 at X₁ st1
  have hcat : (Value.ref T.heap.size).category = 1 := rfl
  have hcellA : T1.heap[T.heap.size]? = some (freshCell cX kX) := by rw [← hT1]; exact State.heap_pushCell_size _ _
  have d3' : decode c.code (pc + 3) = .ok (.dup, 1) := by rw [hb]; exact d3
  have d4' : decode c.code (pc + 4) = .ok (.ldc is, 2) := by rw [hb]; exact d4
  have hstr' : vk_R own is text sa s' := vk_R.warm hW0 hstr
  obtain ⟨U, hsteps, hrun, hend, hW, hsame, ce, hce, hO⟩ := X₁.ctorThrowS hexec htr (own := own) (cls := cls) (names := names) (ic := ic) hown' hcls hnames h (fun x hx => nomatch hx) hfX hkX hcellA (by rw [hhp, hT]; exact Nat.le_refl _) (msg := .ref sa) rfl
    (g := { method := m, pc := pc + 6, locals := ls, stack := .ref sa :: .ref T.heap.size :: .ref T.heap.size :: rest, locked := none }) rfl hsize rfl rfl (rest := rest) rfl
    (by rw [hb]; exact d6) (by rw [hb]; exact d9) hout hRframes (by simp only [List.map_cons, List.sum_cons, hcat]; omega) hlocks
  obtain ⟨f1, f2⟩ := vx_frame hsame
  rw [hhp] at f1 f2
  have hWs : s.WarmedH U.vm := State.WarmedH.trans hW0 hW
  have hcl : s.vm.findClass cls = some ce.cls := by
    have h9 := hO.cls
    rw [hvm] at h9
    exact h9
  have hall : s.sameButNew ({ U with vm := s.vm } : State) locs mc ms := by
    subst hA
    obtain ⟨e1, e2⟩ := hsame
    rw [State.setFrames_setFrames] at e1
    have h2 : (T.setVm s.vm).sameButNew ({ U with vm := s.vm } : State) [] (0 + 1) (0 + 6) := ⟨e1, e2⟩
    have h3 := X.same.trans h2
    rw [List.append_nil] at h3
    exact h3.mono hc hs
  refine ⟨U, ?_, .threw T.heap.size, hrun, hend, Or.inr ⟨T.heap.size, rfl, cls, ce, locs, hx U hWs.alike f1 (fun q hq => f2 q hq (fun z hz => nomatch hz)), hce, hO.vm, hcl, hWs, hall, hf⟩⟩
  refine st1 _ ?_
  show Steps p.tables e below (T1.setTop { method := m, pc := pc + 3, locals := ls, stack := .ref T.heap.size :: rest, locked := none }) _
  jvm_step X₁.here [X₁.here.top, hexec, d3', Value.category]
  exact X₁.ldcString hexec (own := own) (text := text) (index := is) (a := sa) hown' hstr'.1 hstr'.2
    (g := { method := m, pc := pc + 4, locals := ls, stack := .ref T.heap.size :: .ref T.heap.size :: rest, locked := none }) rfl d4' _ hsteps
/-- 'throw new E("text")', the text by a wide index -/
theorem vx_throwSW {cc : ByteArray} {pc : Nat} (hexec : p.tables.exec = Jvm.exec) (hb : c.code = cc) (hl : l.stackTraces = false) {own cls text : String} {names : List String} {ik is ic mc ms sa : Nat} {A : Nat → Prop}
    (hown : s.vm.findClass own = some m.cls) (hcls : Bundle.fit cls = true) (hnames : ∀ n ∈ names, Bundle.fit n = true)
    (hk : (Cond.classLink own ik cls).before args s = true) (hini : (Cond.initialized cls).before args s = true) (hstr : vk_R own is text sa s) (hat : ∀ w ∈ vx_atS own ic cls names, w.before args s = true)
    (hgood : ∀ w ∈ Cond.classLink own ik cls :: Cond.initialized cls :: vx_atS own ic cls names, vx_ot w = true)
    (hU : vx_Zq Bundle.tN "UNASSIGNED_STACK" Bundle.steD A s s.heap) (hN : vx_Zq Bundle.tN "SUPPRESSED_SENTINEL" Bundle.listD A s s.heap) (hS : va_S A s.heap H locs) (hsize : ls.size = c.maxLocals)
    (d0 : decode cc pc = .ok (.new ik, 3)) (d3 : decode cc (pc + 3) = .ok (.dup, 1)) (d4 : decode cc (pc + 4) = .ok (.ldc_w is, 3)) (d7 : decode cc (pc + 7) = .ok (.invokespecial ic, 3)) (d10 : decode cc (pc + 10) = .ok (.athrow, 1))
    (hout : ∀ x ∈ c.exceptionTable.toList, covers x (pc + 10) = false)
    (hRframes : names.length + 3 < R.frames) (hRlocals : (rest.map fun v => v.category).sum + (13 * (names.length + 1) + 43) ≤ R.locals) (hRcells : cells + 1 ≤ R.cells) (hRslots : slots + 6 ≤ R.slots) (hlocks : meth.locks = false)
    (hx : ∀ t : State, s.vm.Alike t.vm → H.size ≤ t.heap.size → (∀ q : Nat, q < H.size → t.heap[q]? = H[q]?) → XC cls s t)
    (hf : ∀ z ∈ locs, free z.base) (hc : cells + 1 ≤ mc) (hs : slots + 6 ≤ ms) :
    W p l e R s m args below meth c H locs cells slots (vx_MQ below Qc XC args s mc ms free) (F0 m pc ls rest) := by
  intro T hT X
  have htr : e.platform.stackTraces = false := (show e.platform.stackTraces = l.stackTraces by rw [X.admits.platform]).trans hl
  have Y := vx_rebase X (R' := { frames := R.frames, locals := R.locals, cells := 1, slots := 6 }) (Nat.le_refl _) (Nat.le_refl _) hRcells hRslots
  obtain ⟨s', hA⟩ : ∃ z, z = (T.setVm s.vm).setFrames (.invoking m args :: below) := ⟨_, rfl⟩
  rw [← hA] at Y
  have hvm : s'.vm = s.vm := by rw [hA]; rfl
  have hhp : s'.heap = H := by rw [hA]; exact hT
  have hW0 : s.WarmedH s'.vm := by rw [hvm]; exact State.WarmedH.refl s
  have hat' : ∀ w ∈ vx_atS own ic cls names, w.before args s' = true := fun w hw => vx_ot_at hW0 hvm.symm (hgood w (List.mem_cons_of_mem _ (List.mem_cons_of_mem _ hw))) (hat w hw)
  have hk' : (Cond.classLink own ik cls).before args s' = true := vx_ot_at hW0 hvm.symm (hgood _ List.mem_cons_self) hk
  have hini' : (Cond.initialized cls).before args s' = true := vx_ot_at hW0 hvm.symm (hgood _ (List.mem_cons_of_mem _ List.mem_cons_self)) hini
  have hU' : vx_Zq Bundle.tN "UNASSIGNED_STACK" Bundle.steD A s' s'.heap := by rw [hhp]; exact vx_Zq.moved hW0.alike (hU.kept hS.2.1)
  have hN' : vx_Zq Bundle.tN "SUPPRESSED_SENTINEL" Bundle.listD A s' s'.heap := by rw [hhp]; exact vx_Zq.moved hW0.alike (hN.kept hS.2.1)
  have h : ∀ w ∈ Bundle.ownAtoms own ic cls names, w.before args s' = true := vx_own hat' (vx_isRefq hU'.1) (vx_isRefq hN'.1) hU'.2.word hN'.2.word
  have hown' : s'.vm.findClass own = some m.cls := by rw [hvm]; exact hown
  have hins : (Cond.instantiable cls 6).before args s' = true := h _ (by simp [Bundle.ownAtoms])
  obtain ⟨vm₁, cX, kX, hfX, hkX, -, -, X₁, st1⟩ := Y.newCold hexec (own := own) (C := cls) (index := ik) (n := 6) hown' hk' hins hini'
    (g := F0 m pc ls rest) rfl (by rw [hb]; exact d0) (Nat.le_refl _) (Nat.le_refl _)
  generalize hT1 : (T.setVm vm₁).pushCell { cls := cX, slots := kX.instanceTypes.map defaultValue, vm := .none } = T1 at X₁ st1
  have hcat : (Value.ref T.heap.size).category = 1 := rfl
  have hcellA : T1.heap[T.heap.size]? = some (freshCell cX kX) := by rw [← hT1]; exact State.heap_pushCell_size _ _
  have d3' : decode c.code (pc + 3) = .ok (.dup, 1) := by rw [hb]; exact d3
  have d4' : decode c.code (pc + 4) = .ok (.ldc_w is, 3) := by rw [hb]; exact d4
  have hstr' : vk_R own is text sa s' := vk_R.warm hW0 hstr
  obtain ⟨U, hsteps, hrun, hend, hW, hsame, ce, hce, hO⟩ := X₁.ctorThrowS hexec htr (own := own) (cls := cls) (names := names) (ic := ic) hown' hcls hnames h (fun x hx => nomatch hx) hfX hkX hcellA (by rw [hhp, hT]; exact Nat.le_refl _) (msg := .ref sa) rfl
    (g := { method := m, pc := pc + 7, locals := ls, stack := .ref sa :: .ref T.heap.size :: .ref T.heap.size :: rest, locked := none }) rfl hsize rfl rfl (rest := rest) rfl
    (by rw [hb]; exact d7) (by rw [hb]; exact d10) hout hRframes (by simp only [List.map_cons, List.sum_cons, hcat]; omega) hlocks
  obtain ⟨f1, f2⟩ := vx_frame hsame
  rw [hhp] at f1 f2
  have hWs : s.WarmedH U.vm := State.WarmedH.trans hW0 hW
  have hcl : s.vm.findClass cls = some ce.cls := by
    have h9 := hO.cls
    rw [hvm] at h9
    exact h9
  have hall : s.sameButNew ({ U with vm := s.vm } : State) locs mc ms := by
    subst hA
    obtain ⟨e1, e2⟩ := hsame
    rw [State.setFrames_setFrames] at e1
    have h2 : (T.setVm s.vm).sameButNew ({ U with vm := s.vm } : State) [] (0 + 1) (0 + 6) := ⟨e1, e2⟩
    have h3 := X.same.trans h2
    rw [List.append_nil] at h3
    exact h3.mono hc hs
  refine ⟨U, ?_, .threw T.heap.size, hrun, hend, Or.inr ⟨T.heap.size, rfl, cls, ce, locs, hx U hWs.alike f1 (fun q hq => f2 q hq (fun z hz => nomatch hz)), hce, hO.vm, hcl, hWs, hall, hf⟩⟩
  refine st1 _ ?_
  show Steps p.tables e below (T1.setTop { method := m, pc := pc + 3, locals := ls, stack := .ref T.heap.size :: rest, locked := none }) _
  jvm_step X₁.here [X₁.here.top, hexec, d3', Value.category]
  exact X₁.ldcStringW hexec (own := own) (text := text) (index := is) (a := sa) hown' hstr'.1 hstr'.2
    (g := { method := m, pc := pc + 4, locals := ls, stack := .ref T.heap.size :: .ref T.heap.size :: rest, locked := none }) rfl d4' _ hsteps
end Ends
section Bodies
variable {l : Launch}
theorem vx_ofW {y : MethodName} {ws ws' : List Cond} {rm : Room} {Pc : Array Value → State → Prop} {Qc : Array Value → State → Outcome → State → Prop} {XC : String → State → State → Prop} {mc ms : Nat} {free : Addr → Prop} {cc : ByteArray} {maxL : Nat} {ret : Option FieldType}
    (hy : plainName y.cls = true) (hw : ws = Cond.code y cc maxL ret :: ws')
    (body : ∀ p e s m args below meth c s₁, BodyLoose p l y (headSpec ws rm) cc maxL ret e s m args below meth c s₁ → c.maxLocals = maxL → (∀ x ∈ c.exceptionTable.toList, False) → Pc args s →
      W p l e (headSpec ws rm).room s m args below meth c s.heap [] 0 0 (vx_MQ below Qc XC args s mc ms free) (entryFrame m args maxL)) : vx_Met l y ws rm Pc Qc XC mc ms free := by
  refine MetFree.of_bodyS (code := cc) (maxLocals := maxL) (ret := ret) hy ?_ ?_
  · intro args s m h hn
    obtain ⟨meth, c, h1, h2, h3, h4, h5, h6, -, -⟩ := Cond.code_spec hn (atoms_spec (ws := ws) h _ (by rw [hw]; exact List.mem_cons_self))
    exact ⟨meth, c, h1, h2, h3, h4, h5, h6⟩
  · intro p e s m args below meth c s₁ B hml hP _
    have hh0 : s₁.heap = s.heap := by rw [B.state]; rfl
    have ht : ∀ x ∈ c.exceptionTable.toList, False := by
      obtain ⟨meth9, c9, h1, h2, -, -, -, -, h7, -⟩ := Cond.code_spec B.named (atoms_spec (ws := ws) B.pre _ (by rw [hw]; exact List.mem_cons_self))
      cases Option.some.inj (h1.symm.trans B.method)
      cases Option.some.inj (h2.symm.trans (Stand.of_body B).code)
      intro x hx
      rw [Array.isEmpty_iff.mp h7] at hx
      cases hx
    obtain ⟨t, a1, o, b1, b2, b3⟩ := body p e s m args below meth c s₁ B hml ht hP s₁ hh0 (Stand.of_body B)
    exact ⟨t, o, a1, b1, b2, b3⟩
/-- the table of a body with handlers -/
theorem vx_table {p : Program} {x y : MethodName} {S : Spec} {cc bytes : ByteArray} {maxL maxL' : Nat} {ret ret' : Option FieldType} {e : Env} {s s₁ : State} {m : MethodId} {args : Array Value} {below : List Frame} {meth : Method} {c : Code} {hh : List (Nat × Nat × Nat × Nat)}
    (B : BodyLoose p l y S cc maxL ret e s m args below meth c s₁) (h : (Cond.codeWith y bytes maxL' ret' hh).before args s = true) : c.exceptionTable.toList = tableOf hh := by
  obtain ⟨m9, meth9, c9, hn9, h1, h2, -, -, h6, -⟩ := Cond.codeWith_spec h
  cases Option.some.inj (hn9.symm.trans B.named)
  cases Option.some.inj (h1.symm.trans B.method)
  cases Option.some.inj (h2.symm.trans (Stand.of_body B).code)
  rw [← h6, table_eq]
end Bodies
end VXA
/-! ===== END ===== -/
/-! ===== BEGIN a static call of a method with an exception table ===== -/
section VXS
variable {p : Program} {l : Launch} {e : Env} {R : Room} {s : State} {m : MethodId} {args : Array Value} {below : List Frame} {meth : Method} {c : Code} {T : State} {H : Heap} {locs : List Loc} {cells slots : Nat}
abbrev vx_CSW (R : Room) (s : State) (args : Array Value) (own : String) (index : Nat) (y : MethodName) (bytes : ByteArray) (maxL : Nat) (ret : Option FieldType) (hh : List (Nat × Nat × Nat × Nat)) (ws : List Cond) (rm : Room) (mc ms n : Nat) : Prop :=
  (rm.cells = mc ∧ rm.slots = ms ∧ rm.frames + 1 ≤ R.frames ∧ 8 + (maxL + 11) + rm.locals ≤ R.locals ∧ (∀ w ∈ ws, ∀ (a' : Array Value) (U : State), s.WarmedH U.vm → w.before a' U = true) ∧ Cond.codeWith y bytes maxL ret hh ∈ ws) ∧
  (Cond.codeWith y bytes maxL ret hh).before args s = true ∧ (Cond.initialized y.cls).before args s = true ∧ (y.cls ≠ "java/lang/invoke/MethodHandle" ∧ y.cls ≠ "java/lang/invoke/VarHandle") ∧
  (∀ sig, parseMethodDescriptor y.desc = some sig → n = sig.parameters.length) ∧ (Cond.methodLink own index y).before args s = true ∧ (Cond.static y).before args s = true
theorem vx_cwSW {own : String} {index maxL mc ms : Nat} {y : MethodName} {bytes : ByteArray} {ret : Option FieldType} {hh : List (Nat × Nat × Nat × Nat)} {Ts ws ws' : List Cond} {rm : Room} (n : Nat) (ht : ∀ w ∈ Ts, w.before args s = true) (hT : GoodIn Ts (va_wsS own index y ws)) (hw : ws = Cond.codeWith y bytes maxL ret hh :: ws') (hrc : rm.cells = mc) (hrs : rm.slots = ms)
    (hd : y.cls ≠ "java/lang/invoke/MethodHandle" ∧ y.cls ≠ "java/lang/invoke/VarHandle" ∧ (parseMethodDescriptor y.desc).map (fun d => d.parameters.length) = some n) (hR : rm.frames + 1 ≤ R.frames ∧ 8 + (maxL + 11) + rm.locals ≤ R.locals) :
    vx_CSW R s args own index y bytes maxL ret hh ws rm mc ms n := by
  have ok : ∀ w ∈ va_wsS own index y ws, w.before args s = true := fun w h => ht w (hT w h).1
  have hG : GoodIn Ts ws := fun w h => hT w (by unfold va_wsS; exact List.mem_append_right _ h)
  have hc : Cond.codeWith y bytes maxL ret hh ∈ ws := by rw [hw]; exact List.mem_cons_self
  refine ⟨⟨hrc, hrs, hR.1, hR.2, pay_in ht hG, hc⟩, ht _ (hG _ hc).1, ok _ (by simp [va_wsS]), ⟨hd.1, hd.2.1⟩, fun sig h => ?_, ok _ (by simp [va_wsS]), ok _ (by simp [va_wsS])⟩
  have h2 := hd.2.2
  rw [h] at h2
  exact (Option.some.inj h2).symm
theorem vx_callSW (X : Stand p l e R s m args below meth c T locs cells slots) (hexec : p.tables.exec = Jvm.exec) {own : String} {index : Nat} {y : MethodName} {bytes : ByteArray} {maxL : Nat} {ret : Option FieldType} {hh : List (Nat × Nat × Nat × Nat)}
    (hown : s.vm.findClass own = some m.cls) (hlink : (Cond.methodLink own index y).before args s = true) (hstat : (Cond.static y).before args s = true) (hinit : (Cond.initialized y.cls).before args s = true)
    (hcode : (Cond.codeWith y bytes maxL ret hh).before args s = true) (hy : y.cls ≠ "java/lang/invoke/MethodHandle" ∧ y.cls ≠ "java/lang/invoke/VarHandle")
    {W9 : Nat} {Pre : Pt → Array Value → Prop} {Post : Pt → Array Value → Option Value → Pt → Prop} (hK : Back l R p e below s args y 3 W9 Pre Post)
    {g : JFrame} (hg : g.method = m) (hsize : g.locals.size = c.maxLocals) {argsL rest : List Value} (hlen : ∀ sig, parseMethodDescriptor y.desc = some sig → argsL.length = sig.parameters.length)
    (hstack : g.stack = argsL.reverse ++ rest) (hW : 2 * g.monitorRoom + (rest.map fun v => v.category).sum ≤ W9) (hdg : decode c.code g.pc = .ok (.invokestatic index, 3))
    (hpre : ∀ vm₁, s.WarmedH vm₁ → Pre ⟨T.setVm vm₁, locs, cells, slots⟩ argsL.toArray) :
    ∃ (v : Option Value) (vm₁ : Vm) (B : Pt), s.WarmedH vm₁ ∧ Stand p l e R s m args below meth c B.U B.locs B.cells B.slots ∧ Post ⟨T.setVm vm₁, locs, cells, slots⟩ argsL.toArray v B ∧
      ∀ target, Steps p.tables e below (B.U.setTop { g with pc := g.pc + 3, stack := v.toList ++ rest }) target → Steps p.tables e below (T.setTop g) target := by
  obtain ⟨mk, methM, cM, hnamed, hmethM, -, -, -, -, -, -, hsigM⟩ := Cond.codeWith_spec hcode
  have hstatic : methM.isStatic = true := Cond.static_spec hnamed hmethM hstat
  obtain ⟨kP, hkP, -⟩ := className_of_methodNamed hnamed
  have hinitP : kP.init = .initialized := Cond.initialized_spec (findClass_of_methodNamed hnamed) hkP hinit
  obtain ⟨vm₁, X₁, hstep₁⟩ := X.invokestatic hexec hown hlink hnamed hmethM hstatic hkP hinitP hy (g := g) hg (argsL := argsL) (rest := rest) (hlen _ hsigM) hstack hdg
  obtain ⟨v, B, X', hpost, hsteps⟩ := hK m meth c ⟨T.setVm vm₁, locs, cells, slots⟩ { g with stack := rest } (.invokestatic index) mk argsL.toArray X₁ hg hsize hdg hW (X₁.named hnamed) (hpre vm₁ X₁.warmed)
  exact ⟨v, vm₁, B, X₁.warmed, X', hpost, fun target h => hstep₁ _ fun acts => by rw [doInvoke_state]; exact hsteps.trans h⟩
theorem vx_runSW {y : MethodName} {bytes cc : ByteArray} {maxL nL mc ms n index : Nat} {ret : Option FieldType} {hh : List (Nat × Nat × Nat × Nat)} {ws : List Cond} {rm : Room} {Pc : Array Value → State → Prop} {Qc : Array Value → State → Outcome → State → Prop} {free : Addr → Prop} {Ts : List Cond} {own : String} {As rest : List Value} {g : JFrame}
    (S : CallFix p m c cc nL s args Ts own) (hM : Met l y ws rm Pc Qc mc ms free) (cw : vx_CSW R s args own index y bytes maxL ret hh ws rm mc ms n) (hp : PreS s H Pc As)
    (hg : g.method = m) (hn : As.length = n) (hsize : g.locals.size = nL) (hstack : g.stack = As.reverse ++ rest) (hW : 2 * g.monitorRoom + (rest.map fun v => v.category).sum ≤ 8) (hdg : decode cc g.pc = .ok (.invokestatic index, 3)) (hf : cells + mc ≤ R.cells ∧ slots + ms ≤ R.slots) :
    va_Run p l e R s m args below meth c H locs cells slots mc ms g rest (Qc As.toArray) (free) := by
  obtain ⟨⟨hrc, hrs, hfr, hlo, hws, hcw⟩, hcode, hini, hy, hlen, hl, hstt⟩ := cw
  have hK : Back l R p e below s args y 3 8 (PreOf R mc ms Pc) (PostOf Qc mc ms free) := va_backW (hh := hh) (bytes := bytes) (maxL := maxL) (ret := ret) hM hp.1 hrc hrs hfr hlo hws hcw (fun a' U hW => word_at hW (Or.inl (by first | rfl | simp [Cond.onTables, Cond.keeps, Cond.steady])) hini)
  obtain ⟨hx, hb, hml, ho, -⟩ := S
  intro T hT X
  obtain ⟨v, vm₁, ⟨U', l2, c2, s2⟩, hW₁, X', ⟨g', mk, t, L, e1, e2, hq, h1, hL, h2, h3⟩, st⟩ := vx_callSW X hx (hh := hh) (bytes := bytes) (maxL := maxL) (ret := ret) ho hl hstt hini hcode hy hK hg (hsize.trans hml.symm) (argsL := As) (rest := rest) (fun sig h => hn.trans (hlen sig h)) hstack hW (by rw [hb]; exact hdg)
    (fun vm₁ hW₁ => ⟨hf.1, hf.2, hp.2 (T.setVm vm₁) hT hW₁⟩)
  dsimp only [Pt.U, Pt.locs, Pt.cells, Pt.slots] at X' e1 e2 h1 h2 h3 st
  subst h1; subst h2; subst h3
  exact ⟨v, (T.setVm vm₁).calling g' mk As.toArray, t, U', L, hT, X', hL, e1, e2, hq, st⟩
/-- not caught here, past rows that name other classes: it goes on to the caller -/
theorem vx_outP {p : Program} {l : Launch} {e : Env} {R : Room} {s : State} {m : MethodId} {args : Array Value} {below : List Frame} {meth : Method} {c : Code} {H : Heap} {locs : List Loc} {cells slots : Nat} {free : Addr → Prop} {ls : Array Slot} {rest : List Value} {Qc : Array Value → State → Outcome → State → Prop} {XC : String → State → State → Prop}
    {pc : Nat} {own E : String} {ce : Cell} {q : Addr} {mc ms : Nat} (hown : s.vm.findClass own = some m.cls) (hlocks : meth.locks = false)
    (hpass : ∀ z ∈ c.exceptionTable.toList, covers z pc = false ∨ (z.catchType ≠ 0 ∧ ∃ nm : String, (Cond.classLink own z.catchType nm).before args s = true ∧ va_Nc E nm s)) (hcell : H[q]? = some ce) (hv : ce.vm = .none) (hcl : s.vm.findClass E = some ce.cls)
    (hx : ∀ t : State, t.heap = H → s.vm.Alike t.vm → XC E s t) (hf : ∀ z ∈ locs, free z.base) (hc : cells ≤ mc) (hs : slots ≤ ms) :
    vx_W p l e R s m args below meth c H locs cells slots (vx_MQ below Qc XC args s mc ms free) (F0 m pc ls rest) q := by
  intro T hT X
  have hpl : e.platform.magicAccessors = ({} : Platform).magicAccessors := by rw [X.admits.platform]
  obtain ⟨vm', hW', X', st⟩ := X.outThrough hlocks q (g := F0 m pc ls rest) rfl rfl rfl (cell := ce) (by rw [hT]; exact hcell) (by rw [hv]; rfl)
    (by obtain ⟨k9, h9, -⟩ := Vm.findClass_spec hcl; exact ⟨k9, h9⟩) (fun z hz => by
      rcases hpass z hz with h | ⟨hz0, nm, hl1, hn1⟩
      · exact Or.inl h
      · obtain ⟨c6, hc6, hcl6⟩ := Cond.classLink_spec hown hl1 e.platform hpl
        obtain ⟨a8, b8, h1, h2, h3⟩ := hn1
        cases Option.some.inj (h1.symm.trans hcl)
        cases Option.some.inj (h2.symm.trans hc6)
        exact Or.inr ⟨hz0, _, hcl6, h3⟩)
  obtain ⟨g₀, hfr⟩ := X'.frames_eq
  have hcell9 : ((T.setVm vm').setFrames (.throwing q :: below)).heap[q]? = some ce := by
    show T.heap[q]? = some ce
    rw [hT]; exact hcell
  have hend : Ended ((T.setVm vm').setFrames (.throwing q :: below)) below (.threw q) := State.frames_setFrames _ (State.cur_lt_of_frames hfr)
  refine ⟨(T.setVm vm').setFrames (.throwing q :: below), ?_, .threw q, X'.here.running, hend, Or.inr ⟨q, rfl, E, ce, locs, hx _ hT (X'.ends _).1.alike, hcell9, hv, hcl, (X'.ends _).1, (X'.ends _).2.mono hc hs, hf⟩⟩
  rw [X.pushThrowing_eq]
  exact st
/-- a thing of a world lies in the heap -/
theorem vx_lt {D : va_G} {cl : List vw_C} {ws : va_W} {H1 : Heap} (h : va_P D cl ws H1) {k : Nat} {q : Nat × va_E} (hk : ws[k]? = some q) : q.1 < H1.size := (h k q hk).lt
end VXS
/-! ===== END ===== -/
/-! ===== BEGIN methods with a table of their own: called by a name, returning or throwing ===== -/
section VXH
/-! vx_backW, vx_callVX, vx_callSX, vx_callVW, vx_runVW, vx_runVX, vx_runSX, vx_ofWH follow the same proofs as their sisters above (Free/Laws.lean, Shelf42/LK1.lean); vx_outP calls Shelf42/NT130.lean (outThrough). -/
section
variable {l : Launch} {R : Room} {p : Program} {e : Env} {below : List Frame} {s : State} {sargs : Array Value} {y : MethodName} {len W9 : Nat}
theorem vx_backW {ws : List Cond} {rm : Room} {Pc : Array Value → State → Prop} {Qc : Array Value → State → Outcome → State → Prop} {XC : String → State → State → Prop} {mc ms : Nat} {free : Addr → Prop} {bytes : ByteArray} {maxL : Nat} {ret : Option FieldType} {hh : List (Nat × Nat × Nat × Nat)}
    (hM : vx_Met l y ws rm Pc Qc XC mc ms free) (hblind : FrameBlind Pc) (hrc : rm.cells = mc) (hrs : rm.slots = ms)
    (hframes : rm.frames + 1 ≤ R.frames) (hlocals : W9 + (maxL + 11) + rm.locals ≤ R.locals)
    (hws : ∀ w ∈ ws, ∀ a' U, s.WarmedH U.vm → w.before a' U = true) (hcode : Cond.codeWith y bytes maxL ret hh ∈ ws) (hinit : ∀ a' U, s.WarmedH U.vm → (Cond.initialized y.cls).before a' U = true) :
    vx_Back l R p e below s sargs y len W9 (PreOf R mc ms Pc) (PostOf Qc mc ms free) (vx_Post XC mc ms free) := by
  intro m meth c A g ig mk a X hg hsize hdg hW hn hp
  have h1 : (headSpec ws rm).pre.before a A.U = true := atoms_intro fun w hw => hws w hw _ _ X.warmed
  have h2 : (Cond.codeWith y bytes maxL ret hh).before a A.U = true := hws _ hcode _ _ X.warmed
  have h3 : (Cond.initialized y.cls).before a A.U = true := hinit _ _ X.warmed
  have h4 : A.cells + (headSpec ws rm).room.cells ≤ R.cells := by rw [show (headSpec ws rm).room.cells = mc from hrc]; exact hp.1
  have h5 : A.slots + (headSpec ws rm).room.slots ≤ R.slots := by rw [show (headSpec ws rm).room.slots = ms from hrs]; exact hp.2.1
  have hPc : Pc a (A.U.calling g mk a) := hblind _ _ _ _ hp.2.2
  obtain ⟨U, Ls, c0, s0⟩ := A
  dsimp only [Pt.U, Pt.locs, Pt.cells, Pt.slots] at h1 h2 h3 h4 h5 X hn hPc ⊢
  obtain ⟨m9, methY, cY, hn9, hmY, hcY, -, hlY, -⟩ := Cond.codeWith_spec h2
  cases Option.some.inj (hn9.symm.trans hn)
  obtain ⟨kY, hkY, -⟩ := className_of_methodNamed hn
  have hinitY : kY.init = .initialized := Cond.initialized_spec (findClass_of_methodNamed hn) hkY h3
  have h : At U g.method c below := by rw [hg]; exact X.here
  have hlocals9 : W9 + (maxL + 11) + (headSpec ws rm).room.locals ≤ R.locals := hlocals
  have happ : (headSpec ws rm).appliesLoose y e.platform (U.calling g mk a) = true :=
    Spec.appliesLoose_calling (g := g) h hdg hn hkY hinitY
      (X.room_calling (g := g) (R' := (headSpec ws rm).room) hsize hmY hcY hframes (by rw [hlY]; omega) h4 h5) h1
  obtain ⟨mid, hmid⟩ := h.above
  have hfr : (U.setTop g).frames = (.java g :: mid) ++ below := by rw [State.frames_setTop' g h.top, hmid]; rfl
  obtain ⟨o, s₂, hsteps, -, hend, hq⟩ := Steps.callFree hM p X.admits X.cas X.clock (acts := []) hfr happ hPc trivial
  have hq' : vx_Q Qc XC mc ms free a (U.calling g mk a) o s₂ := hq
  rw [State.frames_setTop' g h.top] at hend
  obtain ⟨g₀, hg0⟩ := Option.isSome_iff_exists.mp h.top
  obtain ⟨r, hr⟩ := State.topJava?_eq_some.mp hg0
  have hr' : (({ U with heap := s₂.heap, slotsUsed := s₂.slotsUsed } : State).setVm s₂.vm).frames = .java g₀ :: r := hr
  rcases hq' with ⟨hqc, L, hfe, hL⟩ | ⟨q, rfl, E, ce, L, hx, hce, hcv, hcl, hW₂, hsm, hL⟩
  · obtain ⟨⟨v, rfl⟩, hW₂, e2, q2, q3, q4, q5, q6⟩ := id hfe
    have e3 : s₂ = ({ (U.calling g mk a).setFrames s₂.frames with heap := s₂.heap, slotsUsed := s₂.slotsUsed } : State).setVm s₂.vm := by
      have : s₂ = ({ s₂ with vm := (U.calling g mk a).vm } : State).setVm s₂.vm := rfl
      rw [e2] at this
      exact this
    obtain ⟨c₂, i₂, len₂, hc₂, hd₂, hf₂⟩ := hend
    have hW' : U.WarmedH s₂.vm := hW₂
    have hcc : c₂ = c := by
      have h1 : s₂.code? g.method = U.code? g.method := by
        rw [State.code?_eq, State.code?_eq, hW'.alike.method?]
      exact Option.some.inj (hc₂.symm.trans (h1.trans h.code))
    subst hcc
    have hlen : len₂ = len := by rw [hdg] at hd₂; cases hd₂; rfl
    subst hlen
    have hs₂ : s₂ = (({ U with heap := s₂.heap, slotsUsed := s₂.slotsUsed } : State).setVm s₂.vm).setTop { g with pc := g.pc + len₂, stack := v.toList ++ g.stack } := by
      refine e3.trans ?_
      rw [hf₂, State.calling_eq h.top, State.setFrames_setFrames, State.setTop_of_frames _ hr', hr]
      rfl
    have hsame : U.sameButNew ({ U with heap := s₂.heap, slotsUsed := s₂.slotsUsed } : State) L mc ms := by
      refine ⟨?_, q2, q3, q4, q5, q6⟩
      obtain ⟨t, ht, -⟩ := State.frames_cons hr
      show ({ U with heap := s₂.heap, slotsUsed := s₂.slotsUsed } : State) = { U.setFrames U.frames with heap := s₂.heap, slotsUsed := s₂.slotsUsed }
      rw [State.setFrames_self ht]
    subst hg
    refine Or.inl ⟨v, ⟨(({ U with heap := s₂.heap, slotsUsed := s₂.slotsUsed } : State).setVm s₂.vm), Ls ++ L, c0 + mc, s0 + ms⟩,
      ⟨X.admits, X.cas, X.clock, X.frames, X.room, X.hears, X.method, X.code, (X.here.setHeapUsed s₂.heap s₂.slotsUsed).setVm hW'.alike, X.tail, State.WarmedH.trans X.warmed hW', X.limits, X.bytes, X.same.trans (hsame.setVm s.vm)⟩,
      ⟨g, mk, s₂, L, rfl, rfl, hqc, rfl, hL, rfl, rfl⟩, ?_⟩
    show Steps p.tables e below _ ((({ U with heap := s₂.heap, slotsUsed := s₂.slotsUsed } : State).setVm s₂.vm).setTop { g with pc := g.pc + len₂, stack := v.toList ++ g.stack })
    rw [← hs₂]
    exact hsteps
  · obtain ⟨e2, q2, q3, q4, q5, q6⟩ := id hsm
    have e3 : s₂ = ({ (U.calling g mk a).setFrames s₂.frames with heap := s₂.heap, slotsUsed := s₂.slotsUsed } : State).setVm s₂.vm := by
      have : s₂ = ({ s₂ with vm := (U.calling g mk a).vm } : State).setVm s₂.vm := rfl
      rw [e2] at this
      exact this
    have hf₂ : s₂.frames = .throwing q :: .java g :: U.frames.tail := hend
    have hW' : U.WarmedH s₂.vm := hW₂
    have hs₂ : s₂ = ((({ U with heap := s₂.heap, slotsUsed := s₂.slotsUsed } : State).setVm s₂.vm).setTop g).pushFrame (.throwing q) := by
      refine e3.trans ?_
      rw [hf₂, State.calling_eq h.top, State.setFrames_setFrames, State.pushFrame, State.frames_setTop _ hr', State.setTop_of_frames _ hr', State.setFrames_setFrames, hr]
      rfl
    have hsame : U.sameButNew ({ U with heap := s₂.heap, slotsUsed := s₂.slotsUsed } : State) L mc ms := by
      refine ⟨?_, q2, q3, q4, q5, q6⟩
      obtain ⟨t, ht, -⟩ := State.frames_cons hr
      show ({ U with heap := s₂.heap, slotsUsed := s₂.slotsUsed } : State) = { U.setFrames U.frames with heap := s₂.heap, slotsUsed := s₂.slotsUsed }
      rw [State.setFrames_self ht]
    subst hg
    refine Or.inr ⟨q, ⟨(({ U with heap := s₂.heap, slotsUsed := s₂.slotsUsed } : State).setVm s₂.vm), Ls ++ L, c0 + mc, s0 + ms⟩,
      ⟨X.admits, X.cas, X.clock, X.frames, X.room, X.hears, X.method, X.code, (X.here.setHeapUsed s₂.heap s₂.slotsUsed).setVm hW'.alike, X.tail, State.WarmedH.trans X.warmed hW', X.limits, X.bytes, X.same.trans (hsame.setVm s.vm)⟩,
      ⟨g, mk, s₂, L, E, ce, rfl, rfl, hx, hce, hcv, hcl, rfl, hL, rfl, rfl⟩, ?_⟩
    show Steps p.tables e below _ (((({ U with heap := s₂.heap, slotsUsed := s₂.slotsUsed } : State).setVm s₂.vm).setTop g).pushFrame (.throwing q))
    rw [← hs₂]
    exact hsteps
end
variable {p : Program} {l : Launch} {e : Env} {R : Room} {s : State} {m : MethodId} {args : Array Value} {below : List Frame} {meth : Method} {c : Code} {T : State} {H : Heap} {locs : List Loc} {cells slots : Nat}
theorem vx_callVX (X : Stand p l e R s m args below meth c T locs cells slots) (hexec : p.tables.exec = Jvm.exec) {own C : String} {index : Nat} {y : MethodName} {bytes : ByteArray} {maxL : Nat} {ret : Option FieldType} {hh : List (Nat × Nat × Nat × Nat)}
    (hown : s.vm.findClass own = some m.cls) (hlink : (Cond.methodLink own index y).before args s = true) (hinst : (Cond.instanceMethod y).before args s = true) (hsel : (Cond.selects C y y).before args s = true)
    (hcode : (Cond.codeWith y bytes maxL ret hh).before args s = true) (hy : y.cls ≠ "java/lang/invoke/MethodHandle" ∧ y.cls ≠ "java/lang/invoke/VarHandle")
    {W9 : Nat} {Pre : Pt → Array Value → Prop} {Post : Pt → Array Value → Option Value → Pt → Prop} {PostX : Pt → Array Value → Addr → Pt → Prop} (hK : vx_Back l R p e below s args y 3 W9 Pre Post PostX)
    {b : Addr} {cellB : Cell} (hcell : T.heap[b]? = some cellB) (hobj : cellB.vm.isStatics = false) (hcls : s.vm.findClass C = some cellB.cls)
    {g : JFrame} (hg : g.method = m) (hsize : g.locals.size = c.maxLocals) {argsL rest : List Value} (hlen : ∀ sig, parseMethodDescriptor y.desc = some sig → argsL.length = sig.parameters.length)
    (hstack : g.stack = argsL.reverse ++ .ref b :: rest) (hW : 2 * g.monitorRoom + (rest.map fun v => v.category).sum ≤ W9) (hdg : decode c.code g.pc = .ok (.invokevirtual index, 3))
    (hpre : ∀ vm₁, s.WarmedH vm₁ → Pre ⟨T.setVm vm₁, locs, cells, slots⟩ (Value.ref b :: argsL).toArray) :
    (∃ (v : Option Value) (vm₁ : Vm) (B : Pt), s.WarmedH vm₁ ∧ Stand p l e R s m args below meth c B.U B.locs B.cells B.slots ∧ Post ⟨T.setVm vm₁, locs, cells, slots⟩ (Value.ref b :: argsL).toArray v B ∧
      ∀ target, Steps p.tables e below (B.U.setTop { g with pc := g.pc + 3, stack := v.toList ++ rest }) target → Steps p.tables e below (T.setTop g) target) ∨
    (∃ (q : Addr) (vm₁ : Vm) (B : Pt), s.WarmedH vm₁ ∧ Stand p l e R s m args below meth c B.U B.locs B.cells B.slots ∧ PostX ⟨T.setVm vm₁, locs, cells, slots⟩ (Value.ref b :: argsL).toArray q B ∧
      Steps p.tables e below (T.setTop g) ((B.U.setTop { g with stack := rest }).pushFrame (.throwing q))) := by
  obtain ⟨mk, methM, hnamed, hmethM, hstM, habM⟩ := Cond.instanceMethod_spec hinst
  obtain ⟨m8, methM', cM, hn8, hmethM', -, -, -, -, -, -, hsigM⟩ := Cond.codeWith_spec hcode
  cases Option.some.inj (hn8.symm.trans hnamed)
  cases hmethM.symm.trans hmethM'
  obtain ⟨c2, r2, m2, q1, q2, q3, q4, kP, hkP, hkPi⟩ := Cond.selects_spec hsel
  cases hcls.symm.trans q1
  cases (State.methodFound?_of_named hnamed hy).symm.trans q2
  cases hnamed.symm.trans q3
  have hselP : selectMethod e.platform s.vm cellB.cls mk = .method mk := by rw [Launch.admits_selectMethod X.admits]; exact q4
  obtain ⟨vm₁, X₁, hstep₁⟩ := X.invokevirtual hexec hown hlink hnamed hmethM hstM hkP hkPi hy (a := b) (cell := cellB) hcell
    (fun z h => by rw [h] at hobj; cases hobj) hselP hmethM habM hkP hkPi (g := g) hg (argsL := argsL) (rest := rest) (hlen _ hsigM) hstack hdg
  rcases hK m meth c ⟨T.setVm vm₁, locs, cells, slots⟩ { g with stack := rest } (.invokevirtual index) mk (Value.ref b :: argsL).toArray X₁ hg hsize hdg hW (X₁.named hnamed) (hpre vm₁ X₁.warmed) with ⟨v, B, X', hpost, hsteps⟩ | ⟨q, B, X', hpost, hsteps⟩
  · exact Or.inl ⟨v, vm₁, B, X₁.warmed, X', hpost, fun target h => hstep₁ _ fun acts => by rw [doInvoke_state]; exact hsteps.trans h⟩
  · exact Or.inr ⟨q, vm₁, B, X₁.warmed, X', hpost, hstep₁ _ fun acts => by rw [doInvoke_state]; exact hsteps⟩
theorem vx_callSX (X : Stand p l e R s m args below meth c T locs cells slots) (hexec : p.tables.exec = Jvm.exec) {own : String} {index : Nat} {y : MethodName} {bytes : ByteArray} {maxL : Nat} {ret : Option FieldType} {hh : List (Nat × Nat × Nat × Nat)}
    (hown : s.vm.findClass own = some m.cls) (hlink : (Cond.methodLink own index y).before args s = true) (hstat : (Cond.static y).before args s = true) (hinit : (Cond.initialized y.cls).before args s = true)
    (hcode : (Cond.codeWith y bytes maxL ret hh).before args s = true) (hy : y.cls ≠ "java/lang/invoke/MethodHandle" ∧ y.cls ≠ "java/lang/invoke/VarHandle")
    {W9 : Nat} {Pre : Pt → Array Value → Prop} {Post : Pt → Array Value → Option Value → Pt → Prop} {PostX : Pt → Array Value → Addr → Pt → Prop} (hK : vx_Back l R p e below s args y 3 W9 Pre Post PostX)
    {g : JFrame} (hg : g.method = m) (hsize : g.locals.size = c.maxLocals) {argsL rest : List Value} (hlen : ∀ sig, parseMethodDescriptor y.desc = some sig → argsL.length = sig.parameters.length)
    (hstack : g.stack = argsL.reverse ++ rest) (hW : 2 * g.monitorRoom + (rest.map fun v => v.category).sum ≤ W9) (hdg : decode c.code g.pc = .ok (.invokestatic index, 3))
    (hpre : ∀ vm₁, s.WarmedH vm₁ → Pre ⟨T.setVm vm₁, locs, cells, slots⟩ argsL.toArray) :
    (∃ (v : Option Value) (vm₁ : Vm) (B : Pt), s.WarmedH vm₁ ∧ Stand p l e R s m args below meth c B.U B.locs B.cells B.slots ∧ Post ⟨T.setVm vm₁, locs, cells, slots⟩ argsL.toArray v B ∧
      ∀ target, Steps p.tables e below (B.U.setTop { g with pc := g.pc + 3, stack := v.toList ++ rest }) target → Steps p.tables e below (T.setTop g) target) ∨
    (∃ (q : Addr) (vm₁ : Vm) (B : Pt), s.WarmedH vm₁ ∧ Stand p l e R s m args below meth c B.U B.locs B.cells B.slots ∧ PostX ⟨T.setVm vm₁, locs, cells, slots⟩ argsL.toArray q B ∧
      Steps p.tables e below (T.setTop g) ((B.U.setTop { g with stack := rest }).pushFrame (.throwing q))) := by
  obtain ⟨mk, methM, cM, hnamed, hmethM, -, -, -, -, -, -, hsigM⟩ := Cond.codeWith_spec hcode
  have hstatic : methM.isStatic = true := Cond.static_spec hnamed hmethM hstat
  obtain ⟨kP, hkP, -⟩ := className_of_methodNamed hnamed
  have hinitP : kP.init = .initialized := Cond.initialized_spec (findClass_of_methodNamed hnamed) hkP hinit
  obtain ⟨vm₁, X₁, hstep₁⟩ := X.invokestatic hexec hown hlink hnamed hmethM hstatic hkP hinitP hy (g := g) hg (argsL := argsL) (rest := rest) (hlen _ hsigM) hstack hdg
  rcases hK m meth c ⟨T.setVm vm₁, locs, cells, slots⟩ { g with stack := rest } (.invokestatic index) mk argsL.toArray X₁ hg hsize hdg hW (X₁.named hnamed) (hpre vm₁ X₁.warmed) with ⟨v, B, X', hpost, hsteps⟩ | ⟨q, B, X', hpost, hsteps⟩
  · exact Or.inl ⟨v, vm₁, B, X₁.warmed, X', hpost, fun target h => hstep₁ _ fun acts => by rw [doInvoke_state]; exact hsteps.trans h⟩
  · exact Or.inr ⟨q, vm₁, B, X₁.warmed, X', hpost, hstep₁ _ fun acts => by rw [doInvoke_state]; exact hsteps⟩
theorem vx_callVW (X : Stand p l e R s m args below meth c T locs cells slots) (hexec : p.tables.exec = Jvm.exec) {own C : String} {index : Nat} {y : MethodName} {bytes : ByteArray} {maxL : Nat} {ret : Option FieldType} {hh : List (Nat × Nat × Nat × Nat)}
    (hown : s.vm.findClass own = some m.cls) (hlink : (Cond.methodLink own index y).before args s = true) (hinst : (Cond.instanceMethod y).before args s = true) (hsel : (Cond.selects C y y).before args s = true)
    (hcode : (Cond.codeWith y bytes maxL ret hh).before args s = true) (hy : y.cls ≠ "java/lang/invoke/MethodHandle" ∧ y.cls ≠ "java/lang/invoke/VarHandle")
    {W9 : Nat} {Pre : Pt → Array Value → Prop} {Post : Pt → Array Value → Option Value → Pt → Prop} (hK : Back l R p e below s args y 3 W9 Pre Post)
    {b : Addr} {cellB : Cell} (hcell : T.heap[b]? = some cellB) (hobj : cellB.vm.isStatics = false) (hcls : s.vm.findClass C = some cellB.cls)
    {g : JFrame} (hg : g.method = m) (hsize : g.locals.size = c.maxLocals) {argsL rest : List Value} (hlen : ∀ sig, parseMethodDescriptor y.desc = some sig → argsL.length = sig.parameters.length)
    (hstack : g.stack = argsL.reverse ++ .ref b :: rest) (hW : 2 * g.monitorRoom + (rest.map fun v => v.category).sum ≤ W9) (hdg : decode c.code g.pc = .ok (.invokevirtual index, 3))
    (hpre : ∀ vm₁, s.WarmedH vm₁ → Pre ⟨T.setVm vm₁, locs, cells, slots⟩ (Value.ref b :: argsL).toArray) :
    ∃ (v : Option Value) (vm₁ : Vm) (B : Pt), s.WarmedH vm₁ ∧ Stand p l e R s m args below meth c B.U B.locs B.cells B.slots ∧ Post ⟨T.setVm vm₁, locs, cells, slots⟩ (Value.ref b :: argsL).toArray v B ∧
      ∀ target, Steps p.tables e below (B.U.setTop { g with pc := g.pc + 3, stack := v.toList ++ rest }) target → Steps p.tables e below (T.setTop g) target := by
  obtain ⟨mk, methM, hnamed, hmethM, hstM, habM⟩ := Cond.instanceMethod_spec hinst
  obtain ⟨m8, methM', cM, hn8, hmethM', -, -, -, -, -, -, hsigM⟩ := Cond.codeWith_spec hcode
  cases Option.some.inj (hn8.symm.trans hnamed)
  cases hmethM.symm.trans hmethM'
  obtain ⟨c2, r2, m2, q1, q2, q3, q4, kP, hkP, hkPi⟩ := Cond.selects_spec hsel
  cases hcls.symm.trans q1
  cases (State.methodFound?_of_named hnamed hy).symm.trans q2
  cases hnamed.symm.trans q3
  have hselP : selectMethod e.platform s.vm cellB.cls mk = .method mk := by rw [Launch.admits_selectMethod X.admits]; exact q4
  obtain ⟨vm₁, X₁, hstep₁⟩ := X.invokevirtual hexec hown hlink hnamed hmethM hstM hkP hkPi hy (a := b) (cell := cellB) hcell
    (fun z h => by rw [h] at hobj; cases hobj) hselP hmethM habM hkP hkPi (g := g) hg (argsL := argsL) (rest := rest) (hlen _ hsigM) hstack hdg
  obtain ⟨v, B, X', hpost, hsteps⟩ := hK m meth c ⟨T.setVm vm₁, locs, cells, slots⟩ { g with stack := rest } (.invokevirtual index) mk (Value.ref b :: argsL).toArray X₁ hg hsize hdg hW (X₁.named hnamed) (hpre vm₁ X₁.warmed)
  exact ⟨v, vm₁, B, X₁.warmed, X', hpost, fun target h => hstep₁ _ fun acts => by rw [doInvoke_state]; exact hsteps.trans h⟩
abbrev vx_CVW (R : Room) (s : State) (args : Array Value) (own C : String) (index : Nat) (y : MethodName) (bytes : ByteArray) (maxL : Nat) (ret : Option FieldType) (hh : List (Nat × Nat × Nat × Nat)) (ws : List Cond) (rm : Room) (mc ms n : Nat) : Prop :=
  (rm.cells = mc ∧ rm.slots = ms ∧ rm.frames + 1 ≤ R.frames ∧ 8 + (maxL + 11) + rm.locals ≤ R.locals ∧ (∀ w ∈ ws, ∀ (a' : Array Value) (U : State), s.WarmedH U.vm → w.before a' U = true) ∧ Cond.codeWith y bytes maxL ret hh ∈ ws) ∧
  (Cond.codeWith y bytes maxL ret hh).before args s = true ∧ (Cond.initialized y.cls).before args s = true ∧ (y.cls ≠ "java/lang/invoke/MethodHandle" ∧ y.cls ≠ "java/lang/invoke/VarHandle") ∧
  (∀ sig, parseMethodDescriptor y.desc = some sig → n = sig.parameters.length) ∧ (Cond.methodLink own index y).before args s = true ∧ (Cond.instanceMethod y).before args s = true ∧ (Cond.selects C y y).before args s = true
theorem vx_cwVW {own C : String} {index maxL mc ms : Nat} {y : MethodName} {bytes : ByteArray} {ret : Option FieldType} {hh : List (Nat × Nat × Nat × Nat)} {Ts ws ws' : List Cond} {rm : Room} (n : Nat) (ht : ∀ w ∈ Ts, w.before args s = true) (hT : GoodIn Ts (wsV own index C y ws)) (hw : ws = Cond.codeWith y bytes maxL ret hh :: ws') (hrc : rm.cells = mc) (hrs : rm.slots = ms)
    (hd : y.cls = C ∧ y.cls ≠ "java/lang/invoke/MethodHandle" ∧ y.cls ≠ "java/lang/invoke/VarHandle" ∧ (parseMethodDescriptor y.desc).map (fun d => d.parameters.length) = some n) (hR : rm.frames + 1 ≤ R.frames ∧ 8 + (maxL + 11) + rm.locals ≤ R.locals) :
    vx_CVW R s args own C index y bytes maxL ret hh ws rm mc ms n := by
  obtain ⟨hC, hd⟩ := hd
  subst hC
  have ok : ∀ w ∈ wsV own index y.cls y ws, w.before args s = true := fun w h => ht w (hT w h).1
  have hG : GoodIn Ts ws := fun w h => hT w (by unfold wsV; exact List.mem_append_right _ h)
  have hc : Cond.codeWith y bytes maxL ret hh ∈ ws := by rw [hw]; exact List.mem_cons_self
  refine ⟨⟨hrc, hrs, hR.1, hR.2, pay_in ht hG, hc⟩, ht _ (hG _ hc).1, ok _ (by simp [wsV]), ⟨hd.1, hd.2.1⟩, fun sig h => ?_, ok _ (by simp [wsV]), ok _ (by simp [wsV]), ok _ (by simp [wsV])⟩
  have h2 := hd.2.2
  rw [h] at h2
  exact (Option.some.inj h2).symm
theorem vx_runVW {y : MethodName} {bytes cc : ByteArray} {maxL nL mc ms n index : Nat} {ret : Option FieldType} {hh : List (Nat × Nat × Nat × Nat)} {ws : List Cond} {rm : Room} {Pc : Array Value → State → Prop} {Qc : Array Value → State → Outcome → State → Prop} {free : Addr → Prop} {Ts : List Cond} {own C : String} {b : Addr} {As rest : List Value} {g : JFrame}
    (S : CallFix p m c cc nL s args Ts own) (hM : Met l y ws rm Pc Qc mc ms free) (cw : vx_CVW R s args own C index y bytes maxL ret hh ws rm mc ms n) (hp : PreV s H C b Pc As)
    (hg : g.method = m) (hn : As.length = n) (hsize : g.locals.size = nL) (hstack : g.stack = As.reverse ++ .ref b :: rest) (hW : 2 * g.monitorRoom + (rest.map fun v => v.category).sum ≤ 8) (hdg : decode cc g.pc = .ok (.invokevirtual index, 3)) (hf : cells + mc ≤ R.cells ∧ slots + ms ≤ R.slots) :
    va_Run p l e R s m args below meth c H locs cells slots mc ms g rest (Qc (Value.ref b :: As).toArray) free := by
  obtain ⟨⟨hrc, hrs, hfr, hlo, hws, hcw⟩, hcode, hini, hy, hlen, hl, hin, hse⟩ := cw
  have hK : Back l R p e below s args y 3 8 (PreOf R mc ms Pc) (PostOf Qc mc ms free) := va_backW (hh := hh) (bytes := bytes) (maxL := maxL) (ret := ret) hM hp.1 hrc hrs hfr hlo hws hcw (fun a' U hW => word_at hW (Or.inl (by first | rfl | simp [Cond.onTables, Cond.keeps, Cond.steady])) hini)
  obtain ⟨hx, hb, hml, ho, -⟩ := S
  obtain ⟨-, ⟨cellB, hcB, hoB, hclB⟩, hPc⟩ := hp
  intro T hT X
  obtain ⟨v, vm₁, ⟨U', l2, c2, s2⟩, hW₁, X', ⟨g', mk, t, L, e1, e2, hq, h1, hL, h2, h3⟩, st⟩ := vx_callVW X hx (C := C) (hh := hh) (bytes := bytes) (maxL := maxL) (ret := ret) ho hl hin hse hcode hy hK (by rw [hT]; exact hcB) hoB hclB hg (hsize.trans hml.symm) (argsL := As) (rest := rest) (fun sig h => hn.trans (hlen sig h)) hstack hW (by rw [hb]; exact hdg)
    (fun vm₁ hW₁ => ⟨hf.1, hf.2, hPc (T.setVm vm₁) hT hW₁⟩)
  dsimp only [Pt.U, Pt.locs, Pt.cells, Pt.slots] at X' e1 e2 h1 h2 h3 st
  subst h1; subst h2; subst h3
  exact ⟨v, (T.setVm vm₁).calling g' mk (Value.ref b :: As).toArray, t, U', L, hT, X', hL, e1, e2, hq, st⟩
section
variable {y : MethodName} {bytes cc : ByteArray} {maxL nL mc ms n index : Nat} {ret : Option FieldType} {ws : List Cond} {rm : Room} {Pc : Array Value → State → Prop} {Qc : Array Value → State → Outcome → State → Prop} {XC : String → State → State → Prop} {free : Addr → Prop} {Ts : List Cond} {own C : String} {b : Addr} {As rest : List Value} {g : JFrame}
theorem vx_runVX {hh : List (Nat × Nat × Nat × Nat)} (S : CallFix p m c cc nL s args Ts own) (hM : vx_Met l y ws rm Pc Qc XC mc ms free) (cw : vx_CVW R s args own C index y bytes maxL ret hh ws rm mc ms n) (hp : PreV s H C b Pc As)
    (hg : g.method = m) (hn : As.length = n) (hsize : g.locals.size = nL) (hstack : g.stack = As.reverse ++ .ref b :: rest) (hW : 2 * g.monitorRoom + (rest.map fun v => v.category).sum ≤ 8) (hdg : decode cc g.pc = .ok (.invokevirtual index, 3)) (hf : cells + mc ≤ R.cells ∧ slots + ms ≤ R.slots) :
    vx_Run p l e R s m args below meth c H locs cells slots mc ms g rest (Qc (Value.ref b :: As).toArray) XC free := by
  obtain ⟨⟨hrc, hrs, hfr, hlo, hws, hcw⟩, hcode, hini, hy, hlen, hl, hin, hse⟩ := cw
  have hK : vx_Back l R p e below s args y 3 8 (PreOf R mc ms Pc) (PostOf Qc mc ms free) (vx_Post XC mc ms free) := vx_backW (hh := hh) (bytes := bytes) (maxL := maxL) (ret := ret) hM hp.1 hrc hrs hfr hlo hws hcw (fun a' U hW => word_at hW (Or.inl (by first | rfl | simp [Cond.onTables, Cond.keeps, Cond.steady])) hini)
  obtain ⟨hx, hb, hml, ho, -⟩ := S
  obtain ⟨-, ⟨cellB, hcB, hoB, hclB⟩, hPc⟩ := hp
  intro T hT X
  rcases vx_callVX X hx (C := C) (hh := hh) (bytes := bytes) (maxL := maxL) (ret := ret) ho hl hin hse hcode hy hK (by rw [hT]; exact hcB) hoB hclB hg (hsize.trans hml.symm) (argsL := As) (rest := rest) (fun sig h => hn.trans (hlen sig h)) hstack hW (by rw [hb]; exact hdg)
    (fun vm₁ hW₁ => ⟨hf.1, hf.2, hPc (T.setVm vm₁) hT hW₁⟩) with ⟨v, vm₁, ⟨U', l2, c2, s2⟩, hW₁, X', ⟨g', mk, t, L, e1, e2, hq, h1, hL, h2, h3⟩, st⟩ | ⟨q, vm₁, ⟨U', l2, c2, s2⟩, hW₁, X', ⟨g', mk, t, L, E, ce, e1, e2, hq, hce, hcv, hcl, h1, hL, h2, h3⟩, st⟩
  · dsimp only [Pt.U, Pt.locs, Pt.cells, Pt.slots] at X' e1 e2 h1 h2 h3 st
    subst h1; subst h2; subst h3
    exact Or.inl ⟨v, (T.setVm vm₁).calling g' mk (Value.ref b :: As).toArray, t, U', L, hT, X', hL, e1, e2, hq, st⟩
  · dsimp only [Pt.U, Pt.locs, Pt.cells, Pt.slots] at X' e1 e2 h1 h2 h3 st hcl
    subst h1; subst h2; subst h3
    exact Or.inr ⟨q, (T.setVm vm₁).calling g' mk (Value.ref b :: As).toArray, t, U', L, E, ce, hT, X', hL, e1, e2, hq, hce, hcv, vx_cls hW₁ hcl, st⟩
theorem vx_runSX {hh : List (Nat × Nat × Nat × Nat)} (S : CallFix p m c cc nL s args Ts own) (hM : vx_Met l y ws rm Pc Qc XC mc ms free) (cw : vx_CSW R s args own index y bytes maxL ret hh ws rm mc ms n) (hp : PreS s H Pc As)
    (hg : g.method = m) (hn : As.length = n) (hsize : g.locals.size = nL) (hstack : g.stack = As.reverse ++ rest) (hW : 2 * g.monitorRoom + (rest.map fun v => v.category).sum ≤ 8) (hdg : decode cc g.pc = .ok (.invokestatic index, 3)) (hf : cells + mc ≤ R.cells ∧ slots + ms ≤ R.slots) :
    vx_Run p l e R s m args below meth c H locs cells slots mc ms g rest (Qc As.toArray) XC free := by
  obtain ⟨⟨hrc, hrs, hfr, hlo, hws, hcw⟩, hcode, hini, hy, hlen, hl, hstt⟩ := cw
  have hK : vx_Back l R p e below s args y 3 8 (PreOf R mc ms Pc) (PostOf Qc mc ms free) (vx_Post XC mc ms free) := vx_backW (hh := hh) (bytes := bytes) (maxL := maxL) (ret := ret) hM hp.1 hrc hrs hfr hlo hws hcw (fun a' U hW => word_at hW (Or.inl (by first | rfl | simp [Cond.onTables, Cond.keeps, Cond.steady])) hini)
  obtain ⟨hx, hb, hml, ho, -⟩ := S
  intro T hT X
  rcases vx_callSX X hx (hh := hh) (bytes := bytes) (maxL := maxL) (ret := ret) ho hl hstt hini hcode hy hK hg (hsize.trans hml.symm) (argsL := As) (rest := rest) (fun sig h => hn.trans (hlen sig h)) hstack hW (by rw [hb]; exact hdg)
    (fun vm₁ hW₁ => ⟨hf.1, hf.2, hp.2 (T.setVm vm₁) hT hW₁⟩) with ⟨v, vm₁, ⟨U', l2, c2, s2⟩, hW₁, X', ⟨g', mk, t, L, e1, e2, hq, h1, hL, h2, h3⟩, st⟩ | ⟨q, vm₁, ⟨U', l2, c2, s2⟩, hW₁, X', ⟨g', mk, t, L, E, ce, e1, e2, hq, hce, hcv, hcl, h1, hL, h2, h3⟩, st⟩
  · dsimp only [Pt.U, Pt.locs, Pt.cells, Pt.slots] at X' e1 e2 h1 h2 h3 st
    subst h1; subst h2; subst h3
    exact Or.inl ⟨v, (T.setVm vm₁).calling g' mk As.toArray, t, U', L, hT, X', hL, e1, e2, hq, st⟩
  · dsimp only [Pt.U, Pt.locs, Pt.cells, Pt.slots] at X' e1 e2 h1 h2 h3 st hcl
    subst h1; subst h2; subst h3
    exact Or.inr ⟨q, (T.setVm vm₁).calling g' mk As.toArray, t, U', L, E, ce, hT, X', hL, e1, e2, hq, hce, hcv, vx_cls hW₁ hcl, st⟩
end
end VXH
theorem vx_ofWH {l : Launch} {y : MethodName} {ws ws' : List Cond} {rm : Room} {Pc : Array Value → State → Prop} {Qc : Array Value → State → Outcome → State → Prop} {XC : String → State → State → Prop} {mc ms : Nat} {free : Addr → Prop} {cc : ByteArray} {maxL : Nat} {ret : Option FieldType} {hh : List (Nat × Nat × Nat × Nat)}
    (hy : plainName y.cls = true) (hw : ws = Cond.codeWith y cc maxL ret hh :: ws')
    (body : ∀ p e s m args below meth c s₁, BodyLoose p l y (headSpec ws rm) cc maxL ret e s m args below meth c s₁ → c.maxLocals = maxL → Pc args s →
      W p l e (headSpec ws rm).room s m args below meth c s.heap [] 0 0 (vx_MQ below Qc XC args s mc ms free) (entryFrame m args maxL)) : vx_Met l y ws rm Pc Qc XC mc ms free := by
  refine MetFree.of_bodyS (code := cc) (maxLocals := maxL) (ret := ret) hy ?_ ?_
  · intro args s m h hn
    obtain ⟨m9, meth, c, hn9, h1, h2, h3, h4, -, h5, h6, -⟩ := Cond.codeWith_spec (atoms_spec (ws := ws) h _ (by rw [hw]; exact List.mem_cons_self))
    cases hn.symm.trans hn9
    exact ⟨meth, c, h1, h2, h3, h4, h5, h6⟩
  · intro p e s m args below meth c s₁ B hml hP _
    have hh0 : s₁.heap = s.heap := by rw [B.state]; rfl
    obtain ⟨t, a1, o, b1, b2, b3⟩ := body p e s m args below meth c s₁ B hml hP s₁ hh0 (Stand.of_body B)
    exact ⟨t, o, a1, b1, b2, b3⟩
/-! ===== END ===== -/
end
section
/-! ===== BEGIN printed: names, fields, word lists, decode rows ===== -/
def RX0 : String := "StuckRods$Board"
def TX0 : u_T := fun k => match k with
  | 0 => ("StuckRods$Board", "fives", "[I", true)
  | 1 => ("StuckRods$Board", "ones", "[I", true)
  | 2 => ("StuckRods$Board", "stuck", "[I", true)
  | 3 => ("StuckRods$Board", "loan", "[I", true)
  | 4 => ("StuckRods$Board", "moved", "[I", true)
  | 5 => ("StuckRods$Board", "borrowed", "[I", true)
  | _ => ("StuckRods$Board", "setting", "I", false)
def tyX0 : Nat → FieldType := fun k => match k with
  | 0 => .array .int
  | 1 => .array .int
  | 2 => .array .int
  | 3 => .array .int
  | 4 => .array .int
  | 5 => .array .int
  | _ => .int
abbrev wsX00 : List Cond := u_ws RX0 TX0 7
theorem nmX0 : ∀ a, a < 7 → ∀ b, b < 7 → a ≠ b → (TX0 a).2.1 ≠ (TX0 b).2.1 := by decide +kernel
theorem tyX0_ok : ∀ k, k < 7 → parseFieldDescriptor (TX0 k).2.2.1 = some (tyX0 k) := by decide +kernel
abbrev cX0_init : ByteArray := prog_2_method_1_code
def yX0_init : MethodName := ⟨RX0, "<init>", "()V"⟩
abbrev cX0_copyFrom : ByteArray := prog_2_method_2_code
def yX0_copyFrom : MethodName := ⟨RX0, "copyFrom", "(LStuckRods$Board;)V"⟩
abbrev cX0_shown : ByteArray := prog_2_method_3_code
def yX0_shown : MethodName := ⟨RX0, "shown", "(I)I"⟩
abbrev cX0_movesBy : ByteArray := prog_2_method_4_code
def yX0_movesBy : MethodName := ⟨RX0, "movesBy", "(III)I"⟩
abbrev cX0_place : ByteArray := prog_2_method_5_code
def yX0_place : MethodName := ⟨RX0, "place", "(IIII)V"⟩
abbrev cX0_turn : ByteArray := prog_2_method_6_code
def yX0_turn : MethodName := ⟨RX0, "turn", "(IIZ)I"⟩
abbrev cX0_change : ByteArray := prog_2_method_7_code
def yX0_change : MethodName := ⟨RX0, "change", "(IIZ)I"⟩
abbrev cX0_turnAndCarry : ByteArray := prog_2_method_8_code
def yX0_turnAndCarry : MethodName := ⟨RX0, "turnAndCarry", "(IIIZ)I"⟩
abbrev cX0_borrow : ByteArray := prog_2_method_9_code
def yX0_borrow : MethodName := ⟨RX0, "borrow", "(IIZ)Z"⟩
abbrev cX0_payIfPossible : ByteArray := prog_2_method_10_code
def yX0_payIfPossible : MethodName := ⟨RX0, "payIfPossible", "(I)I"⟩
abbrev cX0_orderIfPossible : ByteArray := prog_2_method_11_code
def yX0_orderIfPossible : MethodName := ⟨RX0, "orderIfPossible", "(I)I"⟩
abbrev cX0_reach : ByteArray := prog_2_method_12_code
def yX0_reach : MethodName := ⟨RX0, "reach", "(I)I"⟩
abbrev cX0_allMoved : ByteArray := prog_2_method_13_code
def yX0_allMoved : MethodName := ⟨RX0, "allMoved", "()I"⟩
abbrev cX0_allLoans : ByteArray := prog_2_method_14_code
def yX0_allLoans : MethodName := ⟨RX0, "allLoans", "()I"⟩
abbrev cX0_allShown : ByteArray := prog_2_method_15_code
def yX0_allShown : MethodName := ⟨RX0, "allShown", "()I"⟩
abbrev cX0_rodsWithLoan : ByteArray := prog_2_method_16_code
def yX0_rodsWithLoan : MethodName := ⟨RX0, "rodsWithLoan", "()I"⟩
abbrev cX0_rodsOutOfOrder : ByteArray := prog_2_method_17_code
def yX0_rodsOutOfOrder : MethodName := ⟨RX0, "rodsOutOfOrder", "()I"⟩
abbrev cX0_rodsWithStuck : ByteArray := prog_2_method_18_code
def yX0_rodsWithStuck : MethodName := ⟨RX0, "rodsWithStuck", "()I"⟩
def RX1 : String := "StuckRods$History"
def TX1 : u_T := fun k => match k with
  | 0 => ("StuckRods$History", "slots", "[LStuckRods$Board;", true)
  | 1 => ("StuckRods$History", "oldest", "I", false)
  | _ => ("StuckRods$History", "size", "I", false)
def tyX1 : Nat → FieldType := fun k => match k with
  | 0 => .array (.object "StuckRods$Board")
  | 1 => .int
  | _ => .int
abbrev wsX10 : List Cond := u_ws RX1 TX1 3
theorem nmX1 : ∀ a, a < 3 → ∀ b, b < 3 → a ≠ b → (TX1 a).2.1 ≠ (TX1 b).2.1 := by decide +kernel
theorem tyX1_ok : ∀ k, k < 3 → parseFieldDescriptor (TX1 k).2.2.1 = some (tyX1 k) := by decide +kernel
abbrev cX1_init : ByteArray := prog_3_method_1_code
def yX1_init : MethodName := ⟨RX1, "<init>", "()V"⟩
abbrev cX1_keep : ByteArray := prog_3_method_2_code
def yX1_keep : MethodName := ⟨RX1, "keep", "(LStuckRods$Board;)V"⟩
abbrev cX1_restore : ByteArray := prog_3_method_3_code
def yX1_restore : MethodName := ⟨RX1, "restore", "(LStuckRods$Board;)V"⟩
def RX2 : String := "StuckRods$SumText"
def TX2 : u_T := fun k => match k with
  | 0 => ("StuckRods$SumText", "codes", "[I", true)
  | _ => ("StuckRods$SumText", "length", "I", false)
def tyX2 : Nat → FieldType := fun k => match k with
  | 0 => .array .int
  | _ => .int
abbrev wsX20 : List Cond := u_ws RX2 TX2 2
theorem nmX2 : ∀ a, a < 2 → ∀ b, b < 2 → a ≠ b → (TX2 a).2.1 ≠ (TX2 b).2.1 := by decide +kernel
theorem tyX2_ok : ∀ k, k < 2 → parseFieldDescriptor (TX2 k).2.2.1 = some (tyX2 k) := by decide +kernel
abbrev cX2_init : ByteArray := prog_4_method_1_code
def yX2_init : MethodName := ⟨RX2, "<init>", "()V"⟩
def RX3 : String := "StuckRods"
def TX3 : u_T := fun k => match k with
  | 0 => ("StuckRods", "board", "LStuckRods$Board;", true)
  | 1 => ("StuckRods", "history", "LStuckRods$History;", true)
  | _ => ("StuckRods", "text", "LStuckRods$SumText;", true)
def tyX3 : Nat → FieldType := fun k => match k with
  | 0 => .object "StuckRods$Board"
  | 1 => .object "StuckRods$History"
  | _ => .object "StuckRods$SumText"
abbrev wsX30 : List Cond := u_ws RX3 TX3 3
theorem nmX3 : ∀ a, a < 3 → ∀ b, b < 3 → a ≠ b → (TX3 a).2.1 ≠ (TX3 b).2.1 := by decide +kernel
theorem tyX3_ok : ∀ k, k < 3 → parseFieldDescriptor (TX3 k).2.2.1 = some (tyX3 k) := by decide +kernel
abbrev cX3_init : ByteArray := prog_1_method_1_code
def yX3_init : MethodName := ⟨RX3, "<init>", "()V"⟩
abbrev cX3_move : ByteArray := prog_1_method_2_code
def yX3_move : MethodName := ⟨RX3, "move", "(III)I"⟩
abbrev cX3_stick : ByteArray := prog_1_method_3_code
def yX3_stick : MethodName := ⟨RX3, "stick", "(II)I"⟩
abbrev cX3_set : ByteArray := prog_1_method_4_code
def yX3_set : MethodName := ⟨RX3, "set", "(I)I"⟩
abbrev cX3_add : ByteArray := prog_1_method_5_code
def yX3_add : MethodName := ⟨RX3, "add", "(II)I"⟩
abbrev cX3_less : ByteArray := prog_1_method_6_code
def yX3_less : MethodName := ⟨RX3, "less", "(II)I"⟩
abbrev cX3_pay : ByteArray := prog_1_method_7_code
def yX3_pay : MethodName := ⟨RX3, "pay", "(I)I"⟩
abbrev cX3_tidy : ByteArray := prog_1_method_8_code
def yX3_tidy : MethodName := ⟨RX3, "tidy", "()I"⟩
abbrev cX3_undo : ByteArray := prog_1_method_13_code
def yX3_undo : MethodName := ⟨RX3, "undo", "()I"⟩
abbrev cX3_rod : ByteArray := prog_1_method_14_code
def yX3_rod : MethodName := ⟨RX3, "rod", "(II)I"⟩
abbrev cX3_whole : ByteArray := prog_1_method_15_code
def yX3_whole : MethodName := ⟨RX3, "whole", "()J"⟩
abbrev cX3_count : ByteArray := prog_1_method_16_code
def yX3_count : MethodName := ⟨RX3, "count", "(I)I"⟩
abbrev cX3_moves : ByteArray := prog_1_method_17_code
def yX3_moves : MethodName := ⟨RX3, "moves", "(II)I"⟩
abbrev cX3_ifAdded : ByteArray := prog_1_method_18_code
def yX3_ifAdded : MethodName := ⟨RX3, "ifAdded", "(II)I"⟩
abbrev cX3_toShow : ByteArray := prog_1_method_19_code
def yX3_toShow : MethodName := ⟨RX3, "toShow", "(I)I"⟩
abbrev cX3_cheapestLoan : ByteArray := prog_1_method_20_code
def yX3_cheapestLoan : MethodName := ⟨RX3, "cheapestLoan", "()I"⟩
abbrev cX3_looseness : ByteArray := prog_1_method_21_code
def yX3_looseness : MethodName := ⟨RX3, "looseness", "()D"⟩
abbrev cX3_checkRod : ByteArray := prog_1_method_23_code
def yX3_checkRod : MethodName := ⟨RX3, "checkRod", "(I)V"⟩
abbrev cX3_checkRange : ByteArray := prog_1_method_24_code
def yX3_checkRange : MethodName := ⟨RX3, "checkRange", "(III)V"⟩
abbrev cX3_changeOrThrow : ByteArray := prog_1_method_25_code
def yX3_changeOrThrow : MethodName := ⟨RX3, "changeOrThrow", "(II)I"⟩
def RX4 : String := "StuckRodsModel"
def TX4 : u_T := fun k => match k with
  | _ => ("", "", "", false)
def tyX4 : Nat → FieldType := fun k => match k with
  | _ => .int
abbrev wsX40 : List Cond := u_ws RX4 TX4 0
theorem nmX4 : ∀ a, a < 0 → ∀ b, b < 0 → a ≠ b → (TX4 a).2.1 ≠ (TX4 b).2.1 := by decide +kernel
theorem tyX4_ok : ∀ k, k < 0 → parseFieldDescriptor (TX4 k).2.2.1 = some (tyX4 k) := by decide +kernel
def RJ9 : String := "java/lang/Math"
def TJ9 : u_T := fun k => match k with
  | _ => ("", "", "", false)
def tyJ9 : Nat → FieldType := fun k => match k with
  | _ => .int
abbrev wsJ90 : List Cond := u_ws RJ9 TJ9 0
theorem nmJ9 : ∀ a, a < 0 → ∀ b, b < 0 → a ≠ b → (TJ9 a).2.1 ≠ (TJ9 b).2.1 := by decide +kernel
theorem tyJ9_ok : ∀ k, k < 0 → parseFieldDescriptor (TJ9 k).2.2.1 = some (tyJ9 k) := by decide +kernel
abbrev cJ9_floorMod_7cf53 : ByteArray := prog_11_method_50_code
def yJ9_floorMod_7cf53 : MethodName := ⟨RJ9, "floorMod", "(II)I"⟩
abbrev cJ9_abs_0f7a4 : ByteArray := prog_11_method_59_code
def yJ9_abs_0f7a4 : MethodName := ⟨RJ9, "abs", "(I)I"⟩
def RJ0 : String := "java/lang/String"
def TJ0 : u_T := fun k => match k with
  | _ => ("", "", "", false)
def tyJ0 : Nat → FieldType := fun k => match k with
  | _ => .int
abbrev wsJ00 : List Cond := u_ws RJ0 TJ0 0
theorem nmJ0 : ∀ a, a < 0 → ∀ b, b < 0 → a ≠ b → (TJ0 a).2.1 ≠ (TJ0 b).2.1 := by decide +kernel
theorem tyJ0_ok : ∀ k, k < 0 → parseFieldDescriptor (TJ0 k).2.2.1 = some (tyJ0 k) := by decide +kernel
def RL : String := "StuckRodsLaw"
abbrev cL_cell : ByteArray := method_2_code
def yL_cell : MethodName := ⟨RL, "cell", "([II)I"⟩
abbrev cL_low : ByteArray := method_3_code
def yL_low : MethodName := ⟨RL, "low", "(II)I"⟩
abbrev cL_does : ByteArray := method_4_code
def yL_does : MethodName := ⟨RL, "does", "(LStuckRods;I)I"⟩
abbrev cL_areRodsSo : ByteArray := method_5_code
def yL_areRodsSo : MethodName := ⟨RL, "areRodsSo", "(LStuckRods;)Z"⟩
abbrev cL_power : ByteArray := method_6_code
def yL_power : MethodName := ⟨RL, "power", "(I)J"⟩
abbrev cL_isAddedSo : ByteArray := method_7_code
def yL_isAddedSo : MethodName := ⟨RL, "isAddedSo", "(LStuckRods;II)Z"⟩
abbrev cL_arePaidSo : ByteArray := method_8_code
def yL_arePaidSo : MethodName := ⟨RL, "arePaidSo", "(LStuckRods;)Z"⟩
abbrev cL_isShownSo : ByteArray := method_9_code
def yL_isShownSo : MethodName := ⟨RL, "isShownSo", "(LStuckRods;I)Z"⟩
abbrev cL_law : ByteArray := code
def yL_law : MethodName := ⟨RL, "law", "([I)Z"⟩
def wsX0_init : List Cond := .code yX0_init cX0_init 1 none :: ([.methodLink RX0 3 objectInit, .instanceMethod objectInit, .code objectInit ⟨#[0xb1]⟩ 1 none, .arrayClass .int, .fieldLink RX0 9 "StuckRods$Board" "fives" "[I", .fieldLink RX0 15 "StuckRods$Board" "ones" "[I", .fieldLink RX0 18 "StuckRods$Board" "stuck" "[I", .fieldLink RX0 21 "StuckRods$Board" "loan" "[I", .fieldLink RX0 24 "StuckRods$Board" "moved" "[I", .fieldLink RX0 27 "StuckRods$Board" "borrowed" "[I", .fieldLink RX0 30 "StuckRods$Board" "setting" "I"] ++ wsX00)
def wsX0_copyFrom : List Cond := .code yX0_copyFrom cX0_copyFrom 3 none :: ([.fieldLink RX0 9 "StuckRods$Board" "fives" "[I", .fieldLink RX0 15 "StuckRods$Board" "ones" "[I", .fieldLink RX0 18 "StuckRods$Board" "stuck" "[I", .fieldLink RX0 21 "StuckRods$Board" "loan" "[I", .fieldLink RX0 24 "StuckRods$Board" "moved" "[I", .fieldLink RX0 27 "StuckRods$Board" "borrowed" "[I", .fieldLink RX0 30 "StuckRods$Board" "setting" "I"] ++ wsX00)
def wsX0_shown : List Cond := .code yX0_shown cX0_shown 2 (some .int) :: ([.fieldLink RX0 9 "StuckRods$Board" "fives" "[I", .fieldLink RX0 15 "StuckRods$Board" "ones" "[I"] ++ wsX00)
def wsX0_movesBy : List Cond := .code yX0_movesBy cX0_movesBy 6 (some .int) :: ([.fieldLink RX0 9 "StuckRods$Board" "fives" "[I", .methodLink RX0 34 Lib.Math.abs.name, .static Lib.Math.abs.name, .initialized "java/lang/Math", .code Lib.Math.abs.name Lib.Math.abs.code 1 (some .int), .fieldLink RX0 15 "StuckRods$Board" "ones" "[I", .fieldLink RX0 18 "StuckRods$Board" "stuck" "[I"] ++ wsX00)
def wsX0_place : List Cond := .code yX0_place cX0_place 5 none :: ([.fieldLink RX0 9 "StuckRods$Board" "fives" "[I", .fieldLink RX0 15 "StuckRods$Board" "ones" "[I", .fieldLink RX0 24 "StuckRods$Board" "moved" "[I"] ++ wsX00)
def wsX0_turn : List Cond := .code yX0_turn cX0_turn 8 (some .int) :: ([.methodLink RX0 40 yX0_movesBy, .instanceMethod yX0_movesBy, .selects RX0 yX0_movesBy yX0_movesBy, .initialized RX0, .code yX0_movesBy cX0_movesBy 6 (some .int), .fieldLink RX0 9 "StuckRods$Board" "fives" "[I", .methodLink RX0 34 Lib.Math.abs.name, .static Lib.Math.abs.name, .initialized "java/lang/Math", .code Lib.Math.abs.name Lib.Math.abs.code 1 (some .int), .fieldLink RX0 15 "StuckRods$Board" "ones" "[I", .fieldLink RX0 18 "StuckRods$Board" "stuck" "[I", .methodLink RX0 44 yX0_place, .instanceMethod yX0_place, .selects RX0 yX0_place yX0_place, .code yX0_place cX0_place 5 none, .fieldLink RX0 24 "StuckRods$Board" "moved" "[I"] ++ wsX00)
def wsX0_borrow : List Cond := .code yX0_borrow cX0_borrow 5 (some .boolean) :: ([.fieldLink RX0 21 "StuckRods$Board" "loan" "[I", .fieldLink RX0 30 "StuckRods$Board" "setting" "I", .fieldLink RX0 27 "StuckRods$Board" "borrowed" "[I"] ++ wsX00)
def wsX0_turnAndCarry_r1 : List Cond := [Cond.methodLink RX0 51 yX0_turn, Cond.instanceMethod yX0_turn, Cond.selects RX0 yX0_turn yX0_turn, Cond.initialized RX0, Cond.code yX0_turn cX0_turn 8 (some .int), Cond.methodLink RX0 40 yX0_movesBy, Cond.instanceMethod yX0_movesBy, Cond.selects RX0 yX0_movesBy yX0_movesBy, Cond.code yX0_movesBy cX0_movesBy 6 (some .int), Cond.fieldLink RX0 9 "StuckRods$Board" "fives" "[I", Cond.methodLink RX0 34 Lib.Math.abs.name, Cond.static Lib.Math.abs.name, Cond.initialized "java/lang/Math", Cond.code Lib.Math.abs.name Lib.Math.abs.code 1 (some .int), Cond.fieldLink RX0 15 "StuckRods$Board" "ones" "[I", Cond.fieldLink RX0 18 "StuckRods$Board" "stuck" "[I", Cond.methodLink RX0 44 yX0_place, Cond.instanceMethod yX0_place, Cond.selects RX0 yX0_place yX0_place, Cond.code yX0_place cX0_place 5 none, Cond.fieldLink RX0 24 "StuckRods$Board" "moved" "[I", Cond.methodLink RX0 48 yX0_shown, Cond.instanceMethod yX0_shown, Cond.selects RX0 yX0_shown yX0_shown]
def wsX0_turnAndCarry_r2 : List Cond := [Cond.code yX0_shown cX0_shown 2 (some .int), Cond.methodLink RX0 59 yX0_borrow, Cond.instanceMethod yX0_borrow, Cond.selects RX0 yX0_borrow yX0_borrow, Cond.code yX0_borrow cX0_borrow 5 (some .boolean), Cond.fieldLink RX0 21 "StuckRods$Board" "loan" "[I", Cond.fieldLink RX0 30 "StuckRods$Board" "setting" "I", Cond.fieldLink RX0 27 "StuckRods$Board" "borrowed" "[I"]
def wsX0_turnAndCarry : List Cond := .code yX0_turnAndCarry cX0_turnAndCarry 8 (some .int) :: ((wsX0_turnAndCarry_r1 ++ wsX0_turnAndCarry_r2) ++ wsX00)
def wsX0_change_r1 : List Cond := [Cond.methodLink RX0 48 yX0_shown, Cond.instanceMethod yX0_shown, Cond.selects RX0 yX0_shown yX0_shown, Cond.initialized RX0, Cond.code yX0_shown cX0_shown 2 (some .int), Cond.fieldLink RX0 9 "StuckRods$Board" "fives" "[I", Cond.fieldLink RX0 15 "StuckRods$Board" "ones" "[I", Cond.methodLink RX0 51 yX0_turn, Cond.instanceMethod yX0_turn, Cond.selects RX0 yX0_turn yX0_turn, Cond.code yX0_turn cX0_turn 8 (some .int), Cond.methodLink RX0 40 yX0_movesBy, Cond.instanceMethod yX0_movesBy, Cond.selects RX0 yX0_movesBy yX0_movesBy, Cond.code yX0_movesBy cX0_movesBy 6 (some .int), Cond.methodLink RX0 34 Lib.Math.abs.name, Cond.static Lib.Math.abs.name, Cond.initialized "java/lang/Math", Cond.code Lib.Math.abs.name Lib.Math.abs.code 1 (some .int), Cond.fieldLink RX0 18 "StuckRods$Board" "stuck" "[I", Cond.methodLink RX0 44 yX0_place, Cond.instanceMethod yX0_place, Cond.selects RX0 yX0_place yX0_place, Cond.code yX0_place cX0_place 5 none]
def wsX0_change_r2 : List Cond := [Cond.fieldLink RX0 24 "StuckRods$Board" "moved" "[I", Cond.methodLink RX0 55 yX0_turnAndCarry, Cond.instanceMethod yX0_turnAndCarry, Cond.selects RX0 yX0_turnAndCarry yX0_turnAndCarry, Cond.code yX0_turnAndCarry cX0_turnAndCarry 8 (some .int), Cond.methodLink RX0 59 yX0_borrow, Cond.instanceMethod yX0_borrow, Cond.selects RX0 yX0_borrow yX0_borrow, Cond.code yX0_borrow cX0_borrow 5 (some .boolean), Cond.fieldLink RX0 21 "StuckRods$Board" "loan" "[I", Cond.fieldLink RX0 30 "StuckRods$Board" "setting" "I", Cond.fieldLink RX0 27 "StuckRods$Board" "borrowed" "[I"]
def wsX0_change : List Cond := .code yX0_change cX0_change 6 (some .int) :: ((wsX0_change_r1 ++ wsX0_change_r2) ++ wsX00)
def wsX0_payIfPossible_r1 : List Cond := [Cond.fieldLink RX0 21 "StuckRods$Board" "loan" "[I", Cond.methodLink RX0 63 yX0_change, Cond.instanceMethod yX0_change, Cond.selects RX0 yX0_change yX0_change, Cond.initialized RX0, Cond.code yX0_change cX0_change 6 (some .int), Cond.methodLink RX0 48 yX0_shown, Cond.instanceMethod yX0_shown, Cond.selects RX0 yX0_shown yX0_shown, Cond.code yX0_shown cX0_shown 2 (some .int), Cond.fieldLink RX0 9 "StuckRods$Board" "fives" "[I", Cond.fieldLink RX0 15 "StuckRods$Board" "ones" "[I", Cond.methodLink RX0 51 yX0_turn, Cond.instanceMethod yX0_turn, Cond.selects RX0 yX0_turn yX0_turn, Cond.code yX0_turn cX0_turn 8 (some .int), Cond.methodLink RX0 40 yX0_movesBy, Cond.instanceMethod yX0_movesBy, Cond.selects RX0 yX0_movesBy yX0_movesBy, Cond.code yX0_movesBy cX0_movesBy 6 (some .int), Cond.methodLink RX0 34 Lib.Math.abs.name, Cond.static Lib.Math.abs.name, Cond.initialized "java/lang/Math", Cond.code Lib.Math.abs.name Lib.Math.abs.code 1 (some .int)]
def wsX0_payIfPossible_r2 : List Cond := [Cond.fieldLink RX0 18 "StuckRods$Board" "stuck" "[I", Cond.methodLink RX0 44 yX0_place, Cond.instanceMethod yX0_place, Cond.selects RX0 yX0_place yX0_place, Cond.code yX0_place cX0_place 5 none, Cond.fieldLink RX0 24 "StuckRods$Board" "moved" "[I", Cond.methodLink RX0 55 yX0_turnAndCarry, Cond.instanceMethod yX0_turnAndCarry, Cond.selects RX0 yX0_turnAndCarry yX0_turnAndCarry, Cond.code yX0_turnAndCarry cX0_turnAndCarry 8 (some .int), Cond.methodLink RX0 59 yX0_borrow, Cond.instanceMethod yX0_borrow, Cond.selects RX0 yX0_borrow yX0_borrow, Cond.code yX0_borrow cX0_borrow 5 (some .boolean), Cond.fieldLink RX0 30 "StuckRods$Board" "setting" "I", Cond.fieldLink RX0 27 "StuckRods$Board" "borrowed" "[I"]
def wsX0_payIfPossible : List Cond := .code yX0_payIfPossible cX0_payIfPossible 3 (some .int) :: ((wsX0_payIfPossible_r1 ++ wsX0_payIfPossible_r2) ++ wsX00)
def wsX0_orderIfPossible_r1 : List Cond := [Cond.methodLink RX0 48 yX0_shown, Cond.instanceMethod yX0_shown, Cond.selects RX0 yX0_shown yX0_shown, Cond.initialized RX0, Cond.code yX0_shown cX0_shown 2 (some .int), Cond.fieldLink RX0 9 "StuckRods$Board" "fives" "[I", Cond.fieldLink RX0 15 "StuckRods$Board" "ones" "[I", Cond.methodLink RX0 55 yX0_turnAndCarry, Cond.instanceMethod yX0_turnAndCarry, Cond.selects RX0 yX0_turnAndCarry yX0_turnAndCarry, Cond.code yX0_turnAndCarry cX0_turnAndCarry 8 (some .int), Cond.methodLink RX0 51 yX0_turn, Cond.instanceMethod yX0_turn, Cond.selects RX0 yX0_turn yX0_turn, Cond.code yX0_turn cX0_turn 8 (some .int), Cond.methodLink RX0 40 yX0_movesBy, Cond.instanceMethod yX0_movesBy, Cond.selects RX0 yX0_movesBy yX0_movesBy, Cond.code yX0_movesBy cX0_movesBy 6 (some .int), Cond.methodLink RX0 34 Lib.Math.abs.name, Cond.static Lib.Math.abs.name, Cond.initialized "java/lang/Math", Cond.code Lib.Math.abs.name Lib.Math.abs.code 1 (some .int), Cond.fieldLink RX0 18 "StuckRods$Board" "stuck" "[I"]
def wsX0_orderIfPossible_r2 : List Cond := [Cond.methodLink RX0 44 yX0_place, Cond.instanceMethod yX0_place, Cond.selects RX0 yX0_place yX0_place, Cond.code yX0_place cX0_place 5 none, Cond.fieldLink RX0 24 "StuckRods$Board" "moved" "[I", Cond.methodLink RX0 59 yX0_borrow, Cond.instanceMethod yX0_borrow, Cond.selects RX0 yX0_borrow yX0_borrow, Cond.code yX0_borrow cX0_borrow 5 (some .boolean), Cond.fieldLink RX0 21 "StuckRods$Board" "loan" "[I", Cond.fieldLink RX0 30 "StuckRods$Board" "setting" "I", Cond.fieldLink RX0 27 "StuckRods$Board" "borrowed" "[I"]
def wsX0_orderIfPossible : List Cond := .code yX0_orderIfPossible cX0_orderIfPossible 3 (some .int) :: ((wsX0_orderIfPossible_r1 ++ wsX0_orderIfPossible_r2) ++ wsX00)
def wsX0_reach : List Cond := .code yX0_reach cX0_reach 4 (some .int) :: ([.methodLink RX0 51 yX0_turn, .instanceMethod yX0_turn, .selects RX0 yX0_turn yX0_turn, .initialized RX0, .code yX0_turn cX0_turn 8 (some .int), .methodLink RX0 40 yX0_movesBy, .instanceMethod yX0_movesBy, .selects RX0 yX0_movesBy yX0_movesBy, .code yX0_movesBy cX0_movesBy 6 (some .int), .fieldLink RX0 9 "StuckRods$Board" "fives" "[I", .methodLink RX0 34 Lib.Math.abs.name, .static Lib.Math.abs.name, .initialized "java/lang/Math", .code Lib.Math.abs.name Lib.Math.abs.code 1 (some .int), .fieldLink RX0 15 "StuckRods$Board" "ones" "[I", .fieldLink RX0 18 "StuckRods$Board" "stuck" "[I", .methodLink RX0 44 yX0_place, .instanceMethod yX0_place, .selects RX0 yX0_place yX0_place, .code yX0_place cX0_place 5 none, .fieldLink RX0 24 "StuckRods$Board" "moved" "[I"] ++ wsX00)
def wsX0_allMoved : List Cond := .code yX0_allMoved cX0_allMoved 3 (some .int) :: ([.fieldLink RX0 24 "StuckRods$Board" "moved" "[I"] ++ wsX00)
def wsX0_allLoans : List Cond := .code yX0_allLoans cX0_allLoans 3 (some .int) :: ([.fieldLink RX0 21 "StuckRods$Board" "loan" "[I"] ++ wsX00)
def wsX0_allShown : List Cond := .code yX0_allShown cX0_allShown 3 (some .int) :: ([.methodLink RX0 48 yX0_shown, .instanceMethod yX0_shown, .selects RX0 yX0_shown yX0_shown, .initialized RX0, .code yX0_shown cX0_shown 2 (some .int), .fieldLink RX0 9 "StuckRods$Board" "fives" "[I", .fieldLink RX0 15 "StuckRods$Board" "ones" "[I"] ++ wsX00)
def wsX0_rodsWithLoan : List Cond := .code yX0_rodsWithLoan cX0_rodsWithLoan 3 (some .int) :: ([.fieldLink RX0 21 "StuckRods$Board" "loan" "[I"] ++ wsX00)
def wsX0_rodsOutOfOrder : List Cond := .code yX0_rodsOutOfOrder cX0_rodsOutOfOrder 3 (some .int) :: ([.methodLink RX0 48 yX0_shown, .instanceMethod yX0_shown, .selects RX0 yX0_shown yX0_shown, .initialized RX0, .code yX0_shown cX0_shown 2 (some .int), .fieldLink RX0 9 "StuckRods$Board" "fives" "[I", .fieldLink RX0 15 "StuckRods$Board" "ones" "[I"] ++ wsX00)
def wsX0_rodsWithStuck : List Cond := .code yX0_rodsWithStuck cX0_rodsWithStuck 3 (some .int) :: ([.fieldLink RX0 18 "StuckRods$Board" "stuck" "[I"] ++ wsX00)
def wsX1_init : List Cond := .code yX1_init cX1_init 2 none :: ([.methodLink RX1 3 objectInit, .instanceMethod objectInit, .code objectInit ⟨#[0xb1]⟩ 1 none, .classLink RX1 9 RX0, .fieldLink RX1 11 "StuckRods$History" "slots" "[LStuckRods$Board;", .fieldLink RX1 17 "StuckRods$History" "oldest" "I", .fieldLink RX1 21 "StuckRods$History" "size" "I", .instantiable RX0 7, .initialized RX0, .methodLink RX1 24 yX0_init, .instanceMethod yX0_init, .code yX0_init cX0_init 1 none, .methodLink RX0 3 objectInit, .arrayClass .int, .fieldLink RX0 9 "StuckRods$Board" "fives" "[I", .fieldLink RX0 15 "StuckRods$Board" "ones" "[I", .fieldLink RX0 18 "StuckRods$Board" "stuck" "[I", .fieldLink RX0 21 "StuckRods$Board" "loan" "[I", .fieldLink RX0 24 "StuckRods$Board" "moved" "[I", .fieldLink RX0 27 "StuckRods$Board" "borrowed" "[I", .fieldLink RX0 30 "StuckRods$Board" "setting" "I"] ++ wsX10 ++ wsX00)
def wsX1_keep : List Cond := .code yX1_keep cX1_keep 2 none :: ([.fieldLink RX1 21 "StuckRods$History" "size" "I", .fieldLink RX1 17 "StuckRods$History" "oldest" "I", .fieldLink RX1 11 "StuckRods$History" "slots" "[LStuckRods$Board;", .methodLink RX1 25 yX0_copyFrom, .instanceMethod yX0_copyFrom, .selects RX0 yX0_copyFrom yX0_copyFrom, .initialized RX0, .code yX0_copyFrom cX0_copyFrom 3 none, .fieldLink RX0 9 "StuckRods$Board" "fives" "[I", .fieldLink RX0 15 "StuckRods$Board" "ones" "[I", .fieldLink RX0 18 "StuckRods$Board" "stuck" "[I", .fieldLink RX0 21 "StuckRods$Board" "loan" "[I", .fieldLink RX0 24 "StuckRods$Board" "moved" "[I", .fieldLink RX0 27 "StuckRods$Board" "borrowed" "[I", .fieldLink RX0 30 "StuckRods$Board" "setting" "I"] ++ wsX10 ++ wsX00)
def wsX1_restore : List Cond := .code yX1_restore cX1_restore 2 none :: ([.fieldLink RX1 21 "StuckRods$History" "size" "I", .fieldLink RX1 11 "StuckRods$History" "slots" "[LStuckRods$Board;", .fieldLink RX1 17 "StuckRods$History" "oldest" "I", .methodLink RX1 25 yX0_copyFrom, .instanceMethod yX0_copyFrom, .selects RX0 yX0_copyFrom yX0_copyFrom, .initialized RX0, .code yX0_copyFrom cX0_copyFrom 3 none, .fieldLink RX0 9 "StuckRods$Board" "fives" "[I", .fieldLink RX0 15 "StuckRods$Board" "ones" "[I", .fieldLink RX0 18 "StuckRods$Board" "stuck" "[I", .fieldLink RX0 21 "StuckRods$Board" "loan" "[I", .fieldLink RX0 24 "StuckRods$Board" "moved" "[I", .fieldLink RX0 27 "StuckRods$Board" "borrowed" "[I", .fieldLink RX0 30 "StuckRods$Board" "setting" "I"] ++ wsX10 ++ wsX00)
def wsX2_init : List Cond := .code yX2_init cX2_init 1 none :: ([.methodLink RX2 3 objectInit, .instanceMethod objectInit, .code objectInit ⟨#[0xb1]⟩ 1 none, .arrayClass .int, .fieldLink RX2 9 "StuckRods$SumText" "codes" "[I", .fieldLink RX2 15 "StuckRods$SumText" "length" "I"] ++ wsX20)
def wsX3_init_r1 : List Cond := [Cond.methodLink RX3 3 objectInit, Cond.instanceMethod objectInit, Cond.code objectInit ⟨#[0xb1]⟩ 1 none, Cond.classLink RX3 9 RX0, Cond.instantiable RX0 7, Cond.initialized RX0, Cond.fieldLink RX3 12 "StuckRods" "board" "LStuckRods$Board;", Cond.classLink RX3 16 RX1, Cond.instantiable RX1 3, Cond.initialized RX1, Cond.fieldLink RX3 19 "StuckRods" "history" "LStuckRods$History;", Cond.classLink RX3 23 RX2, Cond.instantiable RX2 2, Cond.initialized RX2, Cond.fieldLink RX3 26 "StuckRods" "text" "LStuckRods$SumText;", Cond.methodLink RX3 11 yX0_init, Cond.instanceMethod yX0_init, Cond.code yX0_init cX0_init 1 none, Cond.methodLink RX0 3 objectInit, Cond.arrayClass .int, Cond.fieldLink RX0 9 "StuckRods$Board" "fives" "[I", Cond.fieldLink RX0 15 "StuckRods$Board" "ones" "[I", Cond.fieldLink RX0 18 "StuckRods$Board" "stuck" "[I", Cond.fieldLink RX0 21 "StuckRods$Board" "loan" "[I"]
def wsX3_init_r2 : List Cond := [Cond.fieldLink RX0 24 "StuckRods$Board" "moved" "[I", Cond.fieldLink RX0 27 "StuckRods$Board" "borrowed" "[I", Cond.fieldLink RX0 30 "StuckRods$Board" "setting" "I", Cond.methodLink RX3 18 yX1_init, Cond.instanceMethod yX1_init, Cond.code yX1_init cX1_init 2 none, Cond.methodLink RX1 3 objectInit, Cond.classLink RX1 9 RX0, Cond.fieldLink RX1 11 "StuckRods$History" "slots" "[LStuckRods$Board;", Cond.fieldLink RX1 17 "StuckRods$History" "oldest" "I", Cond.fieldLink RX1 21 "StuckRods$History" "size" "I", Cond.methodLink RX1 24 yX0_init, Cond.methodLink RX3 25 yX2_init, Cond.instanceMethod yX2_init, Cond.code yX2_init cX2_init 1 none, Cond.methodLink RX2 3 objectInit, Cond.fieldLink RX2 9 "StuckRods$SumText" "codes" "[I", Cond.fieldLink RX2 15 "StuckRods$SumText" "length" "I"]
def wsX3_init : List Cond := .code yX3_init cX3_init 1 none :: ((wsX3_init_r1 ++ wsX3_init_r2) ++ wsX00 ++ wsX30 ++ wsX10 ++ wsX20)
def wsX3_checkRod : List Cond := .code yX3_checkRod cX3_checkRod 1 none :: ([.classLink RX3 210 "java/lang/IndexOutOfBoundsException", .initialized "java/lang/IndexOutOfBoundsException"] ++ (vx_atS RX3 214 "java/lang/IndexOutOfBoundsException" ["java/lang/RuntimeException", "java/lang/Exception"]).filter goodWord)
def wsX3_checkRange : List Cond := .code yX3_checkRange cX3_checkRange 3 none :: ([.classLink RX3 101 "java/lang/IllegalArgumentException", .initialized "java/lang/IllegalArgumentException"] ++ (vx_atS RX3 105 "java/lang/IllegalArgumentException" ["java/lang/RuntimeException", "java/lang/Exception"]).filter goodWord)
def wsX3_move_r1 : List Cond := [Cond.classLink RX3 42 "java/lang/IllegalStateException", Cond.initialized "java/lang/IllegalStateException", Cond.fieldLink RX3 12 "StuckRods" "board" "LStuckRods$Board;", Cond.fieldLink RX3 19 "StuckRods" "history" "LStuckRods$History;", Cond.methodLink RX3 30 yX3_checkRod, Cond.static yX3_checkRod, Cond.initialized RX3, Cond.code yX3_checkRod cX3_checkRod 1 none, Cond.classLink RX3 210 "java/lang/IndexOutOfBoundsException", Cond.initialized "java/lang/IndexOutOfBoundsException", Cond.methodLink RX3 34 yX3_checkRange, Cond.static yX3_checkRange, Cond.code yX3_checkRange cX3_checkRange 3 none, Cond.classLink RX3 101 "java/lang/IllegalArgumentException", Cond.initialized "java/lang/IllegalArgumentException", Cond.methodLink RX3 38 yX0_movesBy, Cond.instanceMethod yX0_movesBy, Cond.selects RX0 yX0_movesBy yX0_movesBy, Cond.initialized RX0, Cond.code yX0_movesBy cX0_movesBy 6 (some .int), Cond.fieldLink RX0 9 "StuckRods$Board" "fives" "[I", Cond.methodLink RX0 34 Lib.Math.abs.name, Cond.static Lib.Math.abs.name, Cond.initialized "java/lang/Math"]
def wsX3_move_r2 : List Cond := [Cond.code Lib.Math.abs.name Lib.Math.abs.code 1 (some .int), Cond.fieldLink RX0 15 "StuckRods$Board" "ones" "[I", Cond.fieldLink RX0 18 "StuckRods$Board" "stuck" "[I", Cond.methodLink RX3 49 yX1_keep, Cond.instanceMethod yX1_keep, Cond.selects RX1 yX1_keep yX1_keep, Cond.initialized RX1, Cond.code yX1_keep cX1_keep 2 none, Cond.fieldLink RX1 21 "StuckRods$History" "size" "I", Cond.fieldLink RX1 17 "StuckRods$History" "oldest" "I", Cond.fieldLink RX1 11 "StuckRods$History" "slots" "[LStuckRods$Board;", Cond.methodLink RX1 25 yX0_copyFrom, Cond.instanceMethod yX0_copyFrom, Cond.selects RX0 yX0_copyFrom yX0_copyFrom, Cond.code yX0_copyFrom cX0_copyFrom 3 none, Cond.fieldLink RX0 21 "StuckRods$Board" "loan" "[I", Cond.fieldLink RX0 24 "StuckRods$Board" "moved" "[I", Cond.fieldLink RX0 27 "StuckRods$Board" "borrowed" "[I", Cond.fieldLink RX0 30 "StuckRods$Board" "setting" "I", Cond.methodLink RX3 53 yX0_place, Cond.instanceMethod yX0_place, Cond.selects RX0 yX0_place yX0_place, Cond.code yX0_place cX0_place 5 none]
def wsX3_move : List Cond := .code yX3_move cX3_move 5 (some .int) :: ((wsX3_move_r1 ++ wsX3_move_r2) ++ wsX30 ++ wsX00 ++ wsX10 ++ (vx_atS RX3 46 "java/lang/IllegalStateException" ["java/lang/RuntimeException", "java/lang/Exception"]).filter goodWord ++ (vx_atS RX3 214 "java/lang/IndexOutOfBoundsException" ["java/lang/RuntimeException", "java/lang/Exception"]).filter goodWord ++ (vx_atS RX3 105 "java/lang/IllegalArgumentException" ["java/lang/RuntimeException", "java/lang/Exception"]).filter goodWord)
def wsX3_stick_r1 : List Cond := [Cond.fieldLink RX3 19 "StuckRods" "history" "LStuckRods$History;", Cond.fieldLink RX3 12 "StuckRods" "board" "LStuckRods$Board;", Cond.fieldLink RX3 57 "StuckRods$Board" "stuck" "[I", Cond.methodLink RX3 30 yX3_checkRod, Cond.static yX3_checkRod, Cond.initialized RX3, Cond.code yX3_checkRod cX3_checkRod 1 none, Cond.classLink RX3 210 "java/lang/IndexOutOfBoundsException", Cond.initialized "java/lang/IndexOutOfBoundsException", Cond.methodLink RX3 34 yX3_checkRange, Cond.static yX3_checkRange, Cond.code yX3_checkRange cX3_checkRange 3 none, Cond.classLink RX3 101 "java/lang/IllegalArgumentException", Cond.initialized "java/lang/IllegalArgumentException", Cond.methodLink RX3 49 yX1_keep, Cond.instanceMethod yX1_keep, Cond.selects RX1 yX1_keep yX1_keep, Cond.initialized RX1, Cond.code yX1_keep cX1_keep 2 none, Cond.fieldLink RX1 21 "StuckRods$History" "size" "I", Cond.fieldLink RX1 17 "StuckRods$History" "oldest" "I", Cond.fieldLink RX1 11 "StuckRods$History" "slots" "[LStuckRods$Board;", Cond.methodLink RX1 25 yX0_copyFrom, Cond.instanceMethod yX0_copyFrom]
def wsX3_stick_r2 : List Cond := [Cond.selects RX0 yX0_copyFrom yX0_copyFrom, Cond.initialized RX0, Cond.code yX0_copyFrom cX0_copyFrom 3 none, Cond.fieldLink RX0 9 "StuckRods$Board" "fives" "[I", Cond.fieldLink RX0 15 "StuckRods$Board" "ones" "[I", Cond.fieldLink RX0 18 "StuckRods$Board" "stuck" "[I", Cond.fieldLink RX0 21 "StuckRods$Board" "loan" "[I", Cond.fieldLink RX0 24 "StuckRods$Board" "moved" "[I", Cond.fieldLink RX0 27 "StuckRods$Board" "borrowed" "[I", Cond.fieldLink RX0 30 "StuckRods$Board" "setting" "I"]
def wsX3_stick : List Cond := .code yX3_stick cX3_stick 4 (some .int) :: ((wsX3_stick_r1 ++ wsX3_stick_r2) ++ wsX30 ++ wsX00 ++ wsX10 ++ (vx_atS RX3 214 "java/lang/IndexOutOfBoundsException" ["java/lang/RuntimeException", "java/lang/Exception"]).filter goodWord ++ (vx_atS RX3 105 "java/lang/IllegalArgumentException" ["java/lang/RuntimeException", "java/lang/Exception"]).filter goodWord)
def wsX3_set_r1 : List Cond := [Cond.fieldLink RX3 19 "StuckRods" "history" "LStuckRods$History;", Cond.fieldLink RX3 12 "StuckRods" "board" "LStuckRods$Board;", Cond.fieldLink RX3 61 "StuckRods$Board" "setting" "I", Cond.methodLink RX3 34 yX3_checkRange, Cond.static yX3_checkRange, Cond.initialized RX3, Cond.code yX3_checkRange cX3_checkRange 3 none, Cond.classLink RX3 101 "java/lang/IllegalArgumentException", Cond.initialized "java/lang/IllegalArgumentException", Cond.methodLink RX3 49 yX1_keep, Cond.instanceMethod yX1_keep, Cond.selects RX1 yX1_keep yX1_keep, Cond.initialized RX1, Cond.code yX1_keep cX1_keep 2 none, Cond.fieldLink RX1 21 "StuckRods$History" "size" "I", Cond.fieldLink RX1 17 "StuckRods$History" "oldest" "I", Cond.fieldLink RX1 11 "StuckRods$History" "slots" "[LStuckRods$Board;", Cond.methodLink RX1 25 yX0_copyFrom, Cond.instanceMethod yX0_copyFrom, Cond.selects RX0 yX0_copyFrom yX0_copyFrom, Cond.initialized RX0, Cond.code yX0_copyFrom cX0_copyFrom 3 none, Cond.fieldLink RX0 9 "StuckRods$Board" "fives" "[I", Cond.fieldLink RX0 15 "StuckRods$Board" "ones" "[I"]
def wsX3_set_r2 : List Cond := [Cond.fieldLink RX0 18 "StuckRods$Board" "stuck" "[I", Cond.fieldLink RX0 21 "StuckRods$Board" "loan" "[I", Cond.fieldLink RX0 24 "StuckRods$Board" "moved" "[I", Cond.fieldLink RX0 27 "StuckRods$Board" "borrowed" "[I", Cond.fieldLink RX0 30 "StuckRods$Board" "setting" "I"]
def wsX3_set : List Cond := .code yX3_set cX3_set 3 (some .int) :: ((wsX3_set_r1 ++ wsX3_set_r2) ++ wsX30 ++ wsX00 ++ wsX10 ++ (vx_atS RX3 105 "java/lang/IllegalArgumentException" ["java/lang/RuntimeException", "java/lang/Exception"]).filter goodWord)
def wsX3_changeOrThrow_r1 : List Cond := [Cond.classLink RX3 42 "java/lang/IllegalStateException", Cond.initialized "java/lang/IllegalStateException", Cond.fieldLink RX3 12 "StuckRods" "board" "LStuckRods$Board;", Cond.fieldLink RX3 19 "StuckRods" "history" "LStuckRods$History;", Cond.methodLink RX3 72 yX0_change, Cond.instanceMethod yX0_change, Cond.selects RX0 yX0_change yX0_change, Cond.initialized RX0, Cond.code yX0_change cX0_change 6 (some .int), Cond.methodLink RX0 48 yX0_shown, Cond.instanceMethod yX0_shown, Cond.selects RX0 yX0_shown yX0_shown, Cond.code yX0_shown cX0_shown 2 (some .int), Cond.fieldLink RX0 9 "StuckRods$Board" "fives" "[I", Cond.fieldLink RX0 15 "StuckRods$Board" "ones" "[I", Cond.methodLink RX0 51 yX0_turn, Cond.instanceMethod yX0_turn, Cond.selects RX0 yX0_turn yX0_turn, Cond.code yX0_turn cX0_turn 8 (some .int), Cond.methodLink RX0 40 yX0_movesBy, Cond.instanceMethod yX0_movesBy, Cond.selects RX0 yX0_movesBy yX0_movesBy, Cond.code yX0_movesBy cX0_movesBy 6 (some .int), Cond.methodLink RX0 34 Lib.Math.abs.name]
def wsX3_changeOrThrow_r2 : List Cond := [Cond.static Lib.Math.abs.name, Cond.initialized "java/lang/Math", Cond.code Lib.Math.abs.name Lib.Math.abs.code 1 (some .int), Cond.fieldLink RX0 18 "StuckRods$Board" "stuck" "[I", Cond.methodLink RX0 44 yX0_place, Cond.instanceMethod yX0_place, Cond.selects RX0 yX0_place yX0_place, Cond.code yX0_place cX0_place 5 none, Cond.fieldLink RX0 24 "StuckRods$Board" "moved" "[I", Cond.methodLink RX0 55 yX0_turnAndCarry, Cond.instanceMethod yX0_turnAndCarry, Cond.selects RX0 yX0_turnAndCarry yX0_turnAndCarry, Cond.code yX0_turnAndCarry cX0_turnAndCarry 8 (some .int), Cond.methodLink RX0 59 yX0_borrow, Cond.instanceMethod yX0_borrow, Cond.selects RX0 yX0_borrow yX0_borrow, Cond.code yX0_borrow cX0_borrow 5 (some .boolean), Cond.fieldLink RX0 21 "StuckRods$Board" "loan" "[I", Cond.fieldLink RX0 30 "StuckRods$Board" "setting" "I", Cond.fieldLink RX0 27 "StuckRods$Board" "borrowed" "[I", Cond.methodLink RX3 49 yX1_keep, Cond.instanceMethod yX1_keep, Cond.selects RX1 yX1_keep yX1_keep, Cond.initialized RX1]
def wsX3_changeOrThrow_r3 : List Cond := [Cond.code yX1_keep cX1_keep 2 none, Cond.fieldLink RX1 21 "StuckRods$History" "size" "I", Cond.fieldLink RX1 17 "StuckRods$History" "oldest" "I", Cond.fieldLink RX1 11 "StuckRods$History" "slots" "[LStuckRods$Board;", Cond.methodLink RX1 25 yX0_copyFrom, Cond.instanceMethod yX0_copyFrom, Cond.selects RX0 yX0_copyFrom yX0_copyFrom, Cond.code yX0_copyFrom cX0_copyFrom 3 none]
def wsX3_changeOrThrow : List Cond := .code yX3_changeOrThrow cX3_changeOrThrow 3 (some .int) :: ((wsX3_changeOrThrow_r1 ++ (wsX3_changeOrThrow_r2 ++ wsX3_changeOrThrow_r3)) ++ wsX30 ++ wsX00 ++ wsX10 ++ (vx_atS RX3 46 "java/lang/IllegalStateException" ["java/lang/RuntimeException", "java/lang/Exception"]).filter goodWord)
def wsX3_add_r1 : List Cond := [Cond.methodLink RX3 30 yX3_checkRod, Cond.static yX3_checkRod, Cond.initialized RX3, Cond.code yX3_checkRod cX3_checkRod 1 none, Cond.classLink RX3 210 "java/lang/IndexOutOfBoundsException", Cond.initialized "java/lang/IndexOutOfBoundsException", Cond.methodLink RX3 34 yX3_checkRange, Cond.static yX3_checkRange, Cond.code yX3_checkRange cX3_checkRange 3 none, Cond.classLink RX3 101 "java/lang/IllegalArgumentException", Cond.initialized "java/lang/IllegalArgumentException", Cond.methodLink RX3 65 yX3_changeOrThrow, Cond.instanceMethod yX3_changeOrThrow, Cond.selects RX3 yX3_changeOrThrow yX3_changeOrThrow, Cond.code yX3_changeOrThrow cX3_changeOrThrow 3 (some .int), Cond.classLink RX3 42 "java/lang/IllegalStateException", Cond.initialized "java/lang/IllegalStateException", Cond.fieldLink RX3 12 "StuckRods" "board" "LStuckRods$Board;", Cond.fieldLink RX3 19 "StuckRods" "history" "LStuckRods$History;", Cond.methodLink RX3 72 yX0_change, Cond.instanceMethod yX0_change, Cond.selects RX0 yX0_change yX0_change, Cond.initialized RX0, Cond.code yX0_change cX0_change 6 (some .int)]
def wsX3_add_r2 : List Cond := [Cond.methodLink RX0 48 yX0_shown, Cond.instanceMethod yX0_shown, Cond.selects RX0 yX0_shown yX0_shown, Cond.code yX0_shown cX0_shown 2 (some .int), Cond.fieldLink RX0 9 "StuckRods$Board" "fives" "[I", Cond.fieldLink RX0 15 "StuckRods$Board" "ones" "[I", Cond.methodLink RX0 51 yX0_turn, Cond.instanceMethod yX0_turn, Cond.selects RX0 yX0_turn yX0_turn, Cond.code yX0_turn cX0_turn 8 (some .int), Cond.methodLink RX0 40 yX0_movesBy, Cond.instanceMethod yX0_movesBy, Cond.selects RX0 yX0_movesBy yX0_movesBy, Cond.code yX0_movesBy cX0_movesBy 6 (some .int), Cond.methodLink RX0 34 Lib.Math.abs.name, Cond.static Lib.Math.abs.name, Cond.initialized "java/lang/Math", Cond.code Lib.Math.abs.name Lib.Math.abs.code 1 (some .int), Cond.fieldLink RX0 18 "StuckRods$Board" "stuck" "[I", Cond.methodLink RX0 44 yX0_place, Cond.instanceMethod yX0_place, Cond.selects RX0 yX0_place yX0_place, Cond.code yX0_place cX0_place 5 none, Cond.fieldLink RX0 24 "StuckRods$Board" "moved" "[I"]
def wsX3_add_r3 : List Cond := [Cond.methodLink RX0 55 yX0_turnAndCarry, Cond.instanceMethod yX0_turnAndCarry, Cond.selects RX0 yX0_turnAndCarry yX0_turnAndCarry, Cond.code yX0_turnAndCarry cX0_turnAndCarry 8 (some .int), Cond.methodLink RX0 59 yX0_borrow, Cond.instanceMethod yX0_borrow, Cond.selects RX0 yX0_borrow yX0_borrow, Cond.code yX0_borrow cX0_borrow 5 (some .boolean), Cond.fieldLink RX0 21 "StuckRods$Board" "loan" "[I", Cond.fieldLink RX0 30 "StuckRods$Board" "setting" "I", Cond.fieldLink RX0 27 "StuckRods$Board" "borrowed" "[I", Cond.methodLink RX3 49 yX1_keep, Cond.instanceMethod yX1_keep, Cond.selects RX1 yX1_keep yX1_keep, Cond.initialized RX1, Cond.code yX1_keep cX1_keep 2 none, Cond.fieldLink RX1 21 "StuckRods$History" "size" "I", Cond.fieldLink RX1 17 "StuckRods$History" "oldest" "I", Cond.fieldLink RX1 11 "StuckRods$History" "slots" "[LStuckRods$Board;", Cond.methodLink RX1 25 yX0_copyFrom, Cond.instanceMethod yX0_copyFrom, Cond.selects RX0 yX0_copyFrom yX0_copyFrom, Cond.code yX0_copyFrom cX0_copyFrom 3 none]
def wsX3_add : List Cond := .code yX3_add cX3_add 3 (some .int) :: ((wsX3_add_r1 ++ (wsX3_add_r2 ++ wsX3_add_r3)) ++ wsX30 ++ wsX00 ++ wsX10 ++ (vx_atS RX3 214 "java/lang/IndexOutOfBoundsException" ["java/lang/RuntimeException", "java/lang/Exception"]).filter goodWord ++ (vx_atS RX3 105 "java/lang/IllegalArgumentException" ["java/lang/RuntimeException", "java/lang/Exception"]).filter goodWord ++ (vx_atS RX3 46 "java/lang/IllegalStateException" ["java/lang/RuntimeException", "java/lang/Exception"]).filter goodWord)
def wsX3_less_r1 : List Cond := [Cond.methodLink RX3 30 yX3_checkRod, Cond.static yX3_checkRod, Cond.initialized RX3, Cond.code yX3_checkRod cX3_checkRod 1 none, Cond.classLink RX3 210 "java/lang/IndexOutOfBoundsException", Cond.initialized "java/lang/IndexOutOfBoundsException", Cond.methodLink RX3 34 yX3_checkRange, Cond.static yX3_checkRange, Cond.code yX3_checkRange cX3_checkRange 3 none, Cond.classLink RX3 101 "java/lang/IllegalArgumentException", Cond.initialized "java/lang/IllegalArgumentException", Cond.methodLink RX3 65 yX3_changeOrThrow, Cond.instanceMethod yX3_changeOrThrow, Cond.selects RX3 yX3_changeOrThrow yX3_changeOrThrow, Cond.code yX3_changeOrThrow cX3_changeOrThrow 3 (some .int), Cond.classLink RX3 42 "java/lang/IllegalStateException", Cond.initialized "java/lang/IllegalStateException", Cond.fieldLink RX3 12 "StuckRods" "board" "LStuckRods$Board;", Cond.fieldLink RX3 19 "StuckRods" "history" "LStuckRods$History;", Cond.methodLink RX3 72 yX0_change, Cond.instanceMethod yX0_change, Cond.selects RX0 yX0_change yX0_change, Cond.initialized RX0, Cond.code yX0_change cX0_change 6 (some .int)]
def wsX3_less_r2 : List Cond := [Cond.methodLink RX0 48 yX0_shown, Cond.instanceMethod yX0_shown, Cond.selects RX0 yX0_shown yX0_shown, Cond.code yX0_shown cX0_shown 2 (some .int), Cond.fieldLink RX0 9 "StuckRods$Board" "fives" "[I", Cond.fieldLink RX0 15 "StuckRods$Board" "ones" "[I", Cond.methodLink RX0 51 yX0_turn, Cond.instanceMethod yX0_turn, Cond.selects RX0 yX0_turn yX0_turn, Cond.code yX0_turn cX0_turn 8 (some .int), Cond.methodLink RX0 40 yX0_movesBy, Cond.instanceMethod yX0_movesBy, Cond.selects RX0 yX0_movesBy yX0_movesBy, Cond.code yX0_movesBy cX0_movesBy 6 (some .int), Cond.methodLink RX0 34 Lib.Math.abs.name, Cond.static Lib.Math.abs.name, Cond.initialized "java/lang/Math", Cond.code Lib.Math.abs.name Lib.Math.abs.code 1 (some .int), Cond.fieldLink RX0 18 "StuckRods$Board" "stuck" "[I", Cond.methodLink RX0 44 yX0_place, Cond.instanceMethod yX0_place, Cond.selects RX0 yX0_place yX0_place, Cond.code yX0_place cX0_place 5 none, Cond.fieldLink RX0 24 "StuckRods$Board" "moved" "[I"]
def wsX3_less_r3 : List Cond := [Cond.methodLink RX0 55 yX0_turnAndCarry, Cond.instanceMethod yX0_turnAndCarry, Cond.selects RX0 yX0_turnAndCarry yX0_turnAndCarry, Cond.code yX0_turnAndCarry cX0_turnAndCarry 8 (some .int), Cond.methodLink RX0 59 yX0_borrow, Cond.instanceMethod yX0_borrow, Cond.selects RX0 yX0_borrow yX0_borrow, Cond.code yX0_borrow cX0_borrow 5 (some .boolean), Cond.fieldLink RX0 21 "StuckRods$Board" "loan" "[I", Cond.fieldLink RX0 30 "StuckRods$Board" "setting" "I", Cond.fieldLink RX0 27 "StuckRods$Board" "borrowed" "[I", Cond.methodLink RX3 49 yX1_keep, Cond.instanceMethod yX1_keep, Cond.selects RX1 yX1_keep yX1_keep, Cond.initialized RX1, Cond.code yX1_keep cX1_keep 2 none, Cond.fieldLink RX1 21 "StuckRods$History" "size" "I", Cond.fieldLink RX1 17 "StuckRods$History" "oldest" "I", Cond.fieldLink RX1 11 "StuckRods$History" "slots" "[LStuckRods$Board;", Cond.methodLink RX1 25 yX0_copyFrom, Cond.instanceMethod yX0_copyFrom, Cond.selects RX0 yX0_copyFrom yX0_copyFrom, Cond.code yX0_copyFrom cX0_copyFrom 3 none]
def wsX3_less : List Cond := .code yX3_less cX3_less 3 (some .int) :: ((wsX3_less_r1 ++ (wsX3_less_r2 ++ wsX3_less_r3)) ++ wsX30 ++ wsX00 ++ wsX10 ++ (vx_atS RX3 214 "java/lang/IndexOutOfBoundsException" ["java/lang/RuntimeException", "java/lang/Exception"]).filter goodWord ++ (vx_atS RX3 105 "java/lang/IllegalArgumentException" ["java/lang/RuntimeException", "java/lang/Exception"]).filter goodWord ++ (vx_atS RX3 46 "java/lang/IllegalStateException" ["java/lang/RuntimeException", "java/lang/Exception"]).filter goodWord)
def wsX3_pay_r1 : List Cond := [Cond.classLink RX3 42 "java/lang/IllegalStateException", Cond.initialized "java/lang/IllegalStateException", Cond.fieldLink RX3 12 "StuckRods" "board" "LStuckRods$Board;", Cond.fieldLink RX3 69 "StuckRods$Board" "loan" "[I", Cond.fieldLink RX3 19 "StuckRods" "history" "LStuckRods$History;", Cond.methodLink RX3 30 yX3_checkRod, Cond.static yX3_checkRod, Cond.initialized RX3, Cond.code yX3_checkRod cX3_checkRod 1 none, Cond.classLink RX3 210 "java/lang/IndexOutOfBoundsException", Cond.initialized "java/lang/IndexOutOfBoundsException", Cond.methodLink RX3 72 yX0_change, Cond.instanceMethod yX0_change, Cond.selects RX0 yX0_change yX0_change, Cond.initialized RX0, Cond.code yX0_change cX0_change 6 (some .int), Cond.methodLink RX0 48 yX0_shown, Cond.instanceMethod yX0_shown, Cond.selects RX0 yX0_shown yX0_shown, Cond.code yX0_shown cX0_shown 2 (some .int), Cond.fieldLink RX0 9 "StuckRods$Board" "fives" "[I", Cond.fieldLink RX0 15 "StuckRods$Board" "ones" "[I", Cond.methodLink RX0 51 yX0_turn, Cond.instanceMethod yX0_turn]
def wsX3_pay_r2 : List Cond := [Cond.selects RX0 yX0_turn yX0_turn, Cond.code yX0_turn cX0_turn 8 (some .int), Cond.methodLink RX0 40 yX0_movesBy, Cond.instanceMethod yX0_movesBy, Cond.selects RX0 yX0_movesBy yX0_movesBy, Cond.code yX0_movesBy cX0_movesBy 6 (some .int), Cond.methodLink RX0 34 Lib.Math.abs.name, Cond.static Lib.Math.abs.name, Cond.initialized "java/lang/Math", Cond.code Lib.Math.abs.name Lib.Math.abs.code 1 (some .int), Cond.fieldLink RX0 18 "StuckRods$Board" "stuck" "[I", Cond.methodLink RX0 44 yX0_place, Cond.instanceMethod yX0_place, Cond.selects RX0 yX0_place yX0_place, Cond.code yX0_place cX0_place 5 none, Cond.fieldLink RX0 24 "StuckRods$Board" "moved" "[I", Cond.methodLink RX0 55 yX0_turnAndCarry, Cond.instanceMethod yX0_turnAndCarry, Cond.selects RX0 yX0_turnAndCarry yX0_turnAndCarry, Cond.code yX0_turnAndCarry cX0_turnAndCarry 8 (some .int), Cond.methodLink RX0 59 yX0_borrow, Cond.instanceMethod yX0_borrow, Cond.selects RX0 yX0_borrow yX0_borrow, Cond.code yX0_borrow cX0_borrow 5 (some .boolean)]
def wsX3_pay_r3 : List Cond := [Cond.fieldLink RX0 21 "StuckRods$Board" "loan" "[I", Cond.fieldLink RX0 30 "StuckRods$Board" "setting" "I", Cond.fieldLink RX0 27 "StuckRods$Board" "borrowed" "[I", Cond.methodLink RX3 49 yX1_keep, Cond.instanceMethod yX1_keep, Cond.selects RX1 yX1_keep yX1_keep, Cond.initialized RX1, Cond.code yX1_keep cX1_keep 2 none, Cond.fieldLink RX1 21 "StuckRods$History" "size" "I", Cond.fieldLink RX1 17 "StuckRods$History" "oldest" "I", Cond.fieldLink RX1 11 "StuckRods$History" "slots" "[LStuckRods$Board;", Cond.methodLink RX1 25 yX0_copyFrom, Cond.instanceMethod yX0_copyFrom, Cond.selects RX0 yX0_copyFrom yX0_copyFrom, Cond.code yX0_copyFrom cX0_copyFrom 3 none, Cond.methodLink RX3 78 yX0_payIfPossible, Cond.instanceMethod yX0_payIfPossible, Cond.selects RX0 yX0_payIfPossible yX0_payIfPossible, Cond.code yX0_payIfPossible cX0_payIfPossible 3 (some .int), Cond.methodLink RX0 63 yX0_change]
def wsX3_pay : List Cond := .code yX3_pay cX3_pay 2 (some .int) :: ((wsX3_pay_r1 ++ (wsX3_pay_r2 ++ wsX3_pay_r3)) ++ wsX30 ++ wsX00 ++ wsX10 ++ (vx_atS RX3 46 "java/lang/IllegalStateException" ["java/lang/RuntimeException", "java/lang/Exception"]).filter goodWord ++ (vx_atS RX3 214 "java/lang/IndexOutOfBoundsException" ["java/lang/RuntimeException", "java/lang/Exception"]).filter goodWord)
def wsX3_tidy_r1 : List Cond := [Cond.fieldLink RX3 19 "StuckRods" "history" "LStuckRods$History;", Cond.fieldLink RX3 12 "StuckRods" "board" "LStuckRods$Board;", Cond.methodLink RX3 49 yX1_keep, Cond.instanceMethod yX1_keep, Cond.selects RX1 yX1_keep yX1_keep, Cond.initialized RX1, Cond.code yX1_keep cX1_keep 2 none, Cond.fieldLink RX1 21 "StuckRods$History" "size" "I", Cond.fieldLink RX1 17 "StuckRods$History" "oldest" "I", Cond.fieldLink RX1 11 "StuckRods$History" "slots" "[LStuckRods$Board;", Cond.methodLink RX1 25 yX0_copyFrom, Cond.instanceMethod yX0_copyFrom, Cond.selects RX0 yX0_copyFrom yX0_copyFrom, Cond.initialized RX0, Cond.code yX0_copyFrom cX0_copyFrom 3 none, Cond.fieldLink RX0 9 "StuckRods$Board" "fives" "[I", Cond.fieldLink RX0 15 "StuckRods$Board" "ones" "[I", Cond.fieldLink RX0 18 "StuckRods$Board" "stuck" "[I", Cond.fieldLink RX0 21 "StuckRods$Board" "loan" "[I", Cond.fieldLink RX0 24 "StuckRods$Board" "moved" "[I", Cond.fieldLink RX0 27 "StuckRods$Board" "borrowed" "[I", Cond.fieldLink RX0 30 "StuckRods$Board" "setting" "I", Cond.methodLink RX3 78 yX0_payIfPossible, Cond.instanceMethod yX0_payIfPossible]
def wsX3_tidy_r2 : List Cond := [Cond.selects RX0 yX0_payIfPossible yX0_payIfPossible, Cond.code yX0_payIfPossible cX0_payIfPossible 3 (some .int), Cond.methodLink RX0 63 yX0_change, Cond.instanceMethod yX0_change, Cond.selects RX0 yX0_change yX0_change, Cond.code yX0_change cX0_change 6 (some .int), Cond.methodLink RX0 48 yX0_shown, Cond.instanceMethod yX0_shown, Cond.selects RX0 yX0_shown yX0_shown, Cond.code yX0_shown cX0_shown 2 (some .int), Cond.methodLink RX0 51 yX0_turn, Cond.instanceMethod yX0_turn, Cond.selects RX0 yX0_turn yX0_turn, Cond.code yX0_turn cX0_turn 8 (some .int), Cond.methodLink RX0 40 yX0_movesBy, Cond.instanceMethod yX0_movesBy, Cond.selects RX0 yX0_movesBy yX0_movesBy, Cond.code yX0_movesBy cX0_movesBy 6 (some .int), Cond.methodLink RX0 34 Lib.Math.abs.name, Cond.static Lib.Math.abs.name, Cond.initialized "java/lang/Math", Cond.code Lib.Math.abs.name Lib.Math.abs.code 1 (some .int), Cond.methodLink RX0 44 yX0_place, Cond.instanceMethod yX0_place]
def wsX3_tidy_r3 : List Cond := [Cond.selects RX0 yX0_place yX0_place, Cond.code yX0_place cX0_place 5 none, Cond.methodLink RX0 55 yX0_turnAndCarry, Cond.instanceMethod yX0_turnAndCarry, Cond.selects RX0 yX0_turnAndCarry yX0_turnAndCarry, Cond.code yX0_turnAndCarry cX0_turnAndCarry 8 (some .int), Cond.methodLink RX0 59 yX0_borrow, Cond.instanceMethod yX0_borrow, Cond.selects RX0 yX0_borrow yX0_borrow, Cond.code yX0_borrow cX0_borrow 5 (some .boolean), Cond.methodLink RX3 82 yX0_orderIfPossible, Cond.instanceMethod yX0_orderIfPossible, Cond.selects RX0 yX0_orderIfPossible yX0_orderIfPossible, Cond.code yX0_orderIfPossible cX0_orderIfPossible 3 (some .int)]
def wsX3_tidy : List Cond := .code yX3_tidy cX3_tidy 3 (some .int) :: ((wsX3_tidy_r1 ++ (wsX3_tidy_r2 ++ wsX3_tidy_r3)) ++ wsX30 ++ wsX10 ++ wsX00)
def wsX3_undo_r1 : List Cond := [Cond.classLink RX3 42 "java/lang/IllegalStateException", Cond.initialized "java/lang/IllegalStateException", Cond.fieldLink RX3 19 "StuckRods" "history" "LStuckRods$History;", Cond.fieldLink RX3 116 "StuckRods$History" "size" "I", Cond.fieldLink RX3 12 "StuckRods" "board" "LStuckRods$Board;", Cond.methodLink RX3 121 yX1_restore, Cond.instanceMethod yX1_restore, Cond.selects RX1 yX1_restore yX1_restore, Cond.initialized RX1, Cond.code yX1_restore cX1_restore 2 none, Cond.fieldLink RX1 21 "StuckRods$History" "size" "I", Cond.fieldLink RX1 11 "StuckRods$History" "slots" "[LStuckRods$Board;", Cond.fieldLink RX1 17 "StuckRods$History" "oldest" "I", Cond.methodLink RX1 25 yX0_copyFrom, Cond.instanceMethod yX0_copyFrom, Cond.selects RX0 yX0_copyFrom yX0_copyFrom, Cond.initialized RX0, Cond.code yX0_copyFrom cX0_copyFrom 3 none, Cond.fieldLink RX0 9 "StuckRods$Board" "fives" "[I", Cond.fieldLink RX0 15 "StuckRods$Board" "ones" "[I", Cond.fieldLink RX0 18 "StuckRods$Board" "stuck" "[I", Cond.fieldLink RX0 21 "StuckRods$Board" "loan" "[I", Cond.fieldLink RX0 24 "StuckRods$Board" "moved" "[I", Cond.fieldLink RX0 27 "StuckRods$Board" "borrowed" "[I"]
def wsX3_undo_r2 : List Cond := [Cond.fieldLink RX0 30 "StuckRods$Board" "setting" "I"]
def wsX3_undo : List Cond := .code yX3_undo cX3_undo 1 (some .int) :: ((wsX3_undo_r1 ++ wsX3_undo_r2) ++ wsX30 ++ wsX10 ++ wsX00 ++ (vx_atS RX3 46 "java/lang/IllegalStateException" ["java/lang/RuntimeException", "java/lang/Exception"]).filter goodWord)
def wsX3_rod_r1 : List Cond := [Cond.fieldLink RX3 12 "StuckRods" "board" "LStuckRods$Board;", Cond.fieldLink RX3 124 "StuckRods$Board" "fives" "[I", Cond.fieldLink RX3 127 "StuckRods$Board" "ones" "[I", Cond.fieldLink RX3 69 "StuckRods$Board" "loan" "[I", Cond.fieldLink RX3 57 "StuckRods$Board" "stuck" "[I", Cond.fieldLink RX3 133 "StuckRods$Board" "moved" "[I", Cond.fieldLink RX3 136 "StuckRods$Board" "borrowed" "[I", Cond.methodLink RX3 30 yX3_checkRod, Cond.static yX3_checkRod, Cond.initialized RX3, Cond.code yX3_checkRod cX3_checkRod 1 none, Cond.classLink RX3 210 "java/lang/IndexOutOfBoundsException", Cond.initialized "java/lang/IndexOutOfBoundsException", Cond.methodLink RX3 34 yX3_checkRange, Cond.static yX3_checkRange, Cond.code yX3_checkRange cX3_checkRange 3 none, Cond.classLink RX3 101 "java/lang/IllegalArgumentException", Cond.initialized "java/lang/IllegalArgumentException", Cond.methodLink RX3 130 yX0_shown, Cond.instanceMethod yX0_shown, Cond.selects RX0 yX0_shown yX0_shown, Cond.initialized RX0, Cond.code yX0_shown cX0_shown 2 (some .int), Cond.fieldLink RX0 9 "StuckRods$Board" "fives" "[I"]
def wsX3_rod_r2 : List Cond := [Cond.fieldLink RX0 15 "StuckRods$Board" "ones" "[I", Cond.methodLink RX3 139 yX0_reach, Cond.instanceMethod yX0_reach, Cond.selects RX0 yX0_reach yX0_reach, Cond.code yX0_reach cX0_reach 4 (some .int), Cond.methodLink RX0 51 yX0_turn, Cond.instanceMethod yX0_turn, Cond.selects RX0 yX0_turn yX0_turn, Cond.code yX0_turn cX0_turn 8 (some .int), Cond.methodLink RX0 40 yX0_movesBy, Cond.instanceMethod yX0_movesBy, Cond.selects RX0 yX0_movesBy yX0_movesBy, Cond.code yX0_movesBy cX0_movesBy 6 (some .int), Cond.methodLink RX0 34 Lib.Math.abs.name, Cond.static Lib.Math.abs.name, Cond.initialized "java/lang/Math", Cond.code Lib.Math.abs.name Lib.Math.abs.code 1 (some .int), Cond.fieldLink RX0 18 "StuckRods$Board" "stuck" "[I", Cond.methodLink RX0 44 yX0_place, Cond.instanceMethod yX0_place, Cond.selects RX0 yX0_place yX0_place, Cond.code yX0_place cX0_place 5 none, Cond.fieldLink RX0 24 "StuckRods$Board" "moved" "[I"]
def wsX3_rod : List Cond := .code yX3_rod cX3_rod 3 (some .int) :: ((wsX3_rod_r1 ++ wsX3_rod_r2) ++ wsX30 ++ wsX00 ++ (vx_atS RX3 214 "java/lang/IndexOutOfBoundsException" ["java/lang/RuntimeException", "java/lang/Exception"]).filter goodWord ++ (vx_atS RX3 105 "java/lang/IllegalArgumentException" ["java/lang/RuntimeException", "java/lang/Exception"]).filter goodWord)
def wsX3_whole : List Cond := .code yX3_whole cX3_whole 6 (some .long) :: ([.fieldLink RX3 12 "StuckRods" "board" "LStuckRods$Board;", .fieldLink RX3 69 "StuckRods$Board" "loan" "[I", .constantLong RX3 142 (10), .methodLink RX3 130 yX0_shown, .instanceMethod yX0_shown, .selects RX0 yX0_shown yX0_shown, .initialized RX0, .code yX0_shown cX0_shown 2 (some .int), .fieldLink RX0 9 "StuckRods$Board" "fives" "[I", .fieldLink RX0 15 "StuckRods$Board" "ones" "[I"] ++ wsX30 ++ wsX00)
def wsJ9_floorMod_7cf53 : List Cond := .code yJ9_floorMod_7cf53 cJ9_floorMod_7cf53 3 (some .int) :: ([])
def wsX3_count_r1 : List Cond := [Cond.fieldLink RX3 12 "StuckRods" "board" "LStuckRods$Board;", Cond.fieldLink RX3 61 "StuckRods$Board" "setting" "I", Cond.fieldLink RX3 19 "StuckRods" "history" "LStuckRods$History;", Cond.fieldLink RX3 116 "StuckRods$History" "size" "I", Cond.methodLink RX3 34 yX3_checkRange, Cond.static yX3_checkRange, Cond.initialized RX3, Cond.code yX3_checkRange cX3_checkRange 3 none, Cond.classLink RX3 101 "java/lang/IllegalArgumentException", Cond.initialized "java/lang/IllegalArgumentException", Cond.methodLink RX3 144 yX0_allMoved, Cond.instanceMethod yX0_allMoved, Cond.selects RX0 yX0_allMoved yX0_allMoved, Cond.initialized RX0, Cond.code yX0_allMoved cX0_allMoved 3 (some .int), Cond.fieldLink RX0 24 "StuckRods$Board" "moved" "[I", Cond.methodLink RX3 147 yX0_rodsWithLoan, Cond.instanceMethod yX0_rodsWithLoan, Cond.selects RX0 yX0_rodsWithLoan yX0_rodsWithLoan, Cond.code yX0_rodsWithLoan cX0_rodsWithLoan 3 (some .int), Cond.fieldLink RX0 21 "StuckRods$Board" "loan" "[I", Cond.methodLink RX3 150 yX0_allLoans, Cond.instanceMethod yX0_allLoans, Cond.selects RX0 yX0_allLoans yX0_allLoans]
def wsX3_count_r2 : List Cond := [Cond.code yX0_allLoans cX0_allLoans 3 (some .int), Cond.methodLink RX3 153 yX0_allShown, Cond.instanceMethod yX0_allShown, Cond.selects RX0 yX0_allShown yX0_allShown, Cond.code yX0_allShown cX0_allShown 3 (some .int), Cond.methodLink RX0 48 yX0_shown, Cond.instanceMethod yX0_shown, Cond.selects RX0 yX0_shown yX0_shown, Cond.code yX0_shown cX0_shown 2 (some .int), Cond.fieldLink RX0 9 "StuckRods$Board" "fives" "[I", Cond.fieldLink RX0 15 "StuckRods$Board" "ones" "[I", Cond.methodLink RX3 156 yJ9_floorMod_7cf53, Cond.static yJ9_floorMod_7cf53, Cond.initialized RJ9, Cond.code yJ9_floorMod_7cf53 cJ9_floorMod_7cf53 3 (some .int), Cond.methodLink RX3 161 yX0_rodsOutOfOrder, Cond.instanceMethod yX0_rodsOutOfOrder, Cond.selects RX0 yX0_rodsOutOfOrder yX0_rodsOutOfOrder, Cond.code yX0_rodsOutOfOrder cX0_rodsOutOfOrder 3 (some .int), Cond.methodLink RX3 164 yX0_rodsWithStuck, Cond.instanceMethod yX0_rodsWithStuck, Cond.selects RX0 yX0_rodsWithStuck yX0_rodsWithStuck, Cond.code yX0_rodsWithStuck cX0_rodsWithStuck 3 (some .int), Cond.fieldLink RX0 18 "StuckRods$Board" "stuck" "[I"]
def wsX3_count : List Cond := .code yX3_count cX3_count 2 (some .int) :: ((wsX3_count_r1 ++ wsX3_count_r2) ++ wsX30 ++ wsX00 ++ wsX10 ++ (vx_atS RX3 105 "java/lang/IllegalArgumentException" ["java/lang/RuntimeException", "java/lang/Exception"]).filter goodWord)
def wsX3_moves_r1 : List Cond := [Cond.fieldLink RX3 12 "StuckRods" "board" "LStuckRods$Board;", Cond.methodLink RX3 30 yX3_checkRod, Cond.static yX3_checkRod, Cond.initialized RX3, Cond.code yX3_checkRod cX3_checkRod 1 none, Cond.classLink RX3 210 "java/lang/IndexOutOfBoundsException", Cond.initialized "java/lang/IndexOutOfBoundsException", Cond.methodLink RX3 34 yX3_checkRange, Cond.static yX3_checkRange, Cond.code yX3_checkRange cX3_checkRange 3 none, Cond.classLink RX3 101 "java/lang/IllegalArgumentException", Cond.initialized "java/lang/IllegalArgumentException", Cond.methodLink RX3 167 yX0_turn, Cond.instanceMethod yX0_turn, Cond.selects RX0 yX0_turn yX0_turn, Cond.initialized RX0, Cond.code yX0_turn cX0_turn 8 (some .int), Cond.methodLink RX0 40 yX0_movesBy, Cond.instanceMethod yX0_movesBy, Cond.selects RX0 yX0_movesBy yX0_movesBy, Cond.code yX0_movesBy cX0_movesBy 6 (some .int), Cond.fieldLink RX0 9 "StuckRods$Board" "fives" "[I", Cond.methodLink RX0 34 Lib.Math.abs.name, Cond.static Lib.Math.abs.name]
def wsX3_moves_r2 : List Cond := [Cond.initialized "java/lang/Math", Cond.code Lib.Math.abs.name Lib.Math.abs.code 1 (some .int), Cond.fieldLink RX0 15 "StuckRods$Board" "ones" "[I", Cond.fieldLink RX0 18 "StuckRods$Board" "stuck" "[I", Cond.methodLink RX0 44 yX0_place, Cond.instanceMethod yX0_place, Cond.selects RX0 yX0_place yX0_place, Cond.code yX0_place cX0_place 5 none, Cond.fieldLink RX0 24 "StuckRods$Board" "moved" "[I"]
def wsX3_moves : List Cond := .code yX3_moves cX3_moves 3 (some .int) :: ((wsX3_moves_r1 ++ wsX3_moves_r2) ++ wsX30 ++ wsX00 ++ (vx_atS RX3 214 "java/lang/IndexOutOfBoundsException" ["java/lang/RuntimeException", "java/lang/Exception"]).filter goodWord ++ (vx_atS RX3 105 "java/lang/IllegalArgumentException" ["java/lang/RuntimeException", "java/lang/Exception"]).filter goodWord)
def wsX3_ifAdded_r1 : List Cond := [Cond.fieldLink RX3 12 "StuckRods" "board" "LStuckRods$Board;", Cond.methodLink RX3 30 yX3_checkRod, Cond.static yX3_checkRod, Cond.initialized RX3, Cond.code yX3_checkRod cX3_checkRod 1 none, Cond.classLink RX3 210 "java/lang/IndexOutOfBoundsException", Cond.initialized "java/lang/IndexOutOfBoundsException", Cond.methodLink RX3 34 yX3_checkRange, Cond.static yX3_checkRange, Cond.code yX3_checkRange cX3_checkRange 3 none, Cond.classLink RX3 101 "java/lang/IllegalArgumentException", Cond.initialized "java/lang/IllegalArgumentException", Cond.methodLink RX3 72 yX0_change, Cond.instanceMethod yX0_change, Cond.selects RX0 yX0_change yX0_change, Cond.initialized RX0, Cond.code yX0_change cX0_change 6 (some .int), Cond.methodLink RX0 48 yX0_shown, Cond.instanceMethod yX0_shown, Cond.selects RX0 yX0_shown yX0_shown, Cond.code yX0_shown cX0_shown 2 (some .int), Cond.fieldLink RX0 9 "StuckRods$Board" "fives" "[I", Cond.fieldLink RX0 15 "StuckRods$Board" "ones" "[I", Cond.methodLink RX0 51 yX0_turn]
def wsX3_ifAdded_r2 : List Cond := [Cond.instanceMethod yX0_turn, Cond.selects RX0 yX0_turn yX0_turn, Cond.code yX0_turn cX0_turn 8 (some .int), Cond.methodLink RX0 40 yX0_movesBy, Cond.instanceMethod yX0_movesBy, Cond.selects RX0 yX0_movesBy yX0_movesBy, Cond.code yX0_movesBy cX0_movesBy 6 (some .int), Cond.methodLink RX0 34 Lib.Math.abs.name, Cond.static Lib.Math.abs.name, Cond.initialized "java/lang/Math", Cond.code Lib.Math.abs.name Lib.Math.abs.code 1 (some .int), Cond.fieldLink RX0 18 "StuckRods$Board" "stuck" "[I", Cond.methodLink RX0 44 yX0_place, Cond.instanceMethod yX0_place, Cond.selects RX0 yX0_place yX0_place, Cond.code yX0_place cX0_place 5 none, Cond.fieldLink RX0 24 "StuckRods$Board" "moved" "[I", Cond.methodLink RX0 55 yX0_turnAndCarry, Cond.instanceMethod yX0_turnAndCarry, Cond.selects RX0 yX0_turnAndCarry yX0_turnAndCarry, Cond.code yX0_turnAndCarry cX0_turnAndCarry 8 (some .int), Cond.methodLink RX0 59 yX0_borrow, Cond.instanceMethod yX0_borrow, Cond.selects RX0 yX0_borrow yX0_borrow]
def wsX3_ifAdded_r3 : List Cond := [Cond.code yX0_borrow cX0_borrow 5 (some .boolean), Cond.fieldLink RX0 21 "StuckRods$Board" "loan" "[I", Cond.fieldLink RX0 30 "StuckRods$Board" "setting" "I", Cond.fieldLink RX0 27 "StuckRods$Board" "borrowed" "[I"]
def wsX3_ifAdded : List Cond := .code yX3_ifAdded cX3_ifAdded 3 (some .int) :: ((wsX3_ifAdded_r1 ++ (wsX3_ifAdded_r2 ++ wsX3_ifAdded_r3)) ++ wsX30 ++ wsX00 ++ (vx_atS RX3 214 "java/lang/IndexOutOfBoundsException" ["java/lang/RuntimeException", "java/lang/Exception"]).filter goodWord ++ (vx_atS RX3 105 "java/lang/IllegalArgumentException" ["java/lang/RuntimeException", "java/lang/Exception"]).filter goodWord)
def wsX3_toShow_r1 : List Cond := [Cond.constant RX3 170 (999999999), Cond.fieldLink RX3 12 "StuckRods" "board" "LStuckRods$Board;", Cond.methodLink RX3 34 yX3_checkRange, Cond.static yX3_checkRange, Cond.initialized RX3, Cond.code yX3_checkRange cX3_checkRange 3 none, Cond.classLink RX3 101 "java/lang/IllegalArgumentException", Cond.initialized "java/lang/IllegalArgumentException", Cond.methodLink RX3 167 yX0_turn, Cond.instanceMethod yX0_turn, Cond.selects RX0 yX0_turn yX0_turn, Cond.initialized RX0, Cond.code yX0_turn cX0_turn 8 (some .int), Cond.methodLink RX0 40 yX0_movesBy, Cond.instanceMethod yX0_movesBy, Cond.selects RX0 yX0_movesBy yX0_movesBy, Cond.code yX0_movesBy cX0_movesBy 6 (some .int), Cond.fieldLink RX0 9 "StuckRods$Board" "fives" "[I", Cond.methodLink RX0 34 Lib.Math.abs.name, Cond.static Lib.Math.abs.name, Cond.initialized "java/lang/Math", Cond.code Lib.Math.abs.name Lib.Math.abs.code 1 (some .int), Cond.fieldLink RX0 15 "StuckRods$Board" "ones" "[I", Cond.fieldLink RX0 18 "StuckRods$Board" "stuck" "[I"]
def wsX3_toShow_r2 : List Cond := [Cond.methodLink RX0 44 yX0_place, Cond.instanceMethod yX0_place, Cond.selects RX0 yX0_place yX0_place, Cond.code yX0_place cX0_place 5 none, Cond.fieldLink RX0 24 "StuckRods$Board" "moved" "[I"]
def wsX3_toShow : List Cond := .code yX3_toShow cX3_toShow 6 (some .int) :: ((wsX3_toShow_r1 ++ wsX3_toShow_r2) ++ wsX30 ++ wsX00 ++ (vx_atS RX3 105 "java/lang/IllegalArgumentException" ["java/lang/RuntimeException", "java/lang/Exception"]).filter goodWord)
def wsX3_cheapestLoan_r1 : List Cond := [Cond.fieldLink RX3 12 "StuckRods" "board" "LStuckRods$Board;", Cond.fieldLink RX3 69 "StuckRods$Board" "loan" "[I", Cond.methodLink RX3 72 yX0_change, Cond.instanceMethod yX0_change, Cond.selects RX0 yX0_change yX0_change, Cond.initialized RX0, Cond.code yX0_change cX0_change 6 (some .int), Cond.methodLink RX0 48 yX0_shown, Cond.instanceMethod yX0_shown, Cond.selects RX0 yX0_shown yX0_shown, Cond.code yX0_shown cX0_shown 2 (some .int), Cond.fieldLink RX0 9 "StuckRods$Board" "fives" "[I", Cond.fieldLink RX0 15 "StuckRods$Board" "ones" "[I", Cond.methodLink RX0 51 yX0_turn, Cond.instanceMethod yX0_turn, Cond.selects RX0 yX0_turn yX0_turn, Cond.code yX0_turn cX0_turn 8 (some .int), Cond.methodLink RX0 40 yX0_movesBy, Cond.instanceMethod yX0_movesBy, Cond.selects RX0 yX0_movesBy yX0_movesBy, Cond.code yX0_movesBy cX0_movesBy 6 (some .int), Cond.methodLink RX0 34 Lib.Math.abs.name, Cond.static Lib.Math.abs.name, Cond.initialized "java/lang/Math"]
def wsX3_cheapestLoan_r2 : List Cond := [Cond.code Lib.Math.abs.name Lib.Math.abs.code 1 (some .int), Cond.fieldLink RX0 18 "StuckRods$Board" "stuck" "[I", Cond.methodLink RX0 44 yX0_place, Cond.instanceMethod yX0_place, Cond.selects RX0 yX0_place yX0_place, Cond.code yX0_place cX0_place 5 none, Cond.fieldLink RX0 24 "StuckRods$Board" "moved" "[I", Cond.methodLink RX0 55 yX0_turnAndCarry, Cond.instanceMethod yX0_turnAndCarry, Cond.selects RX0 yX0_turnAndCarry yX0_turnAndCarry, Cond.code yX0_turnAndCarry cX0_turnAndCarry 8 (some .int), Cond.methodLink RX0 59 yX0_borrow, Cond.instanceMethod yX0_borrow, Cond.selects RX0 yX0_borrow yX0_borrow, Cond.code yX0_borrow cX0_borrow 5 (some .boolean), Cond.fieldLink RX0 21 "StuckRods$Board" "loan" "[I", Cond.fieldLink RX0 30 "StuckRods$Board" "setting" "I", Cond.fieldLink RX0 27 "StuckRods$Board" "borrowed" "[I"]
def wsX3_cheapestLoan : List Cond := .code yX3_cheapestLoan cX3_cheapestLoan 5 (some .int) :: ((wsX3_cheapestLoan_r1 ++ wsX3_cheapestLoan_r2) ++ wsX30 ++ wsX00)
def wsX3_looseness_r1 : List Cond := [Cond.fieldLink RX3 12 "StuckRods" "board" "LStuckRods$Board;", Cond.constantDouble RX3 171 (4639270566145032192), Cond.methodLink RX3 139 yX0_reach, Cond.instanceMethod yX0_reach, Cond.selects RX0 yX0_reach yX0_reach, Cond.initialized RX0, Cond.code yX0_reach cX0_reach 4 (some .int), Cond.methodLink RX0 51 yX0_turn, Cond.instanceMethod yX0_turn, Cond.selects RX0 yX0_turn yX0_turn, Cond.code yX0_turn cX0_turn 8 (some .int), Cond.methodLink RX0 40 yX0_movesBy, Cond.instanceMethod yX0_movesBy, Cond.selects RX0 yX0_movesBy yX0_movesBy, Cond.code yX0_movesBy cX0_movesBy 6 (some .int), Cond.fieldLink RX0 9 "StuckRods$Board" "fives" "[I", Cond.methodLink RX0 34 Lib.Math.abs.name, Cond.static Lib.Math.abs.name, Cond.initialized "java/lang/Math", Cond.code Lib.Math.abs.name Lib.Math.abs.code 1 (some .int), Cond.fieldLink RX0 15 "StuckRods$Board" "ones" "[I", Cond.fieldLink RX0 18 "StuckRods$Board" "stuck" "[I", Cond.methodLink RX0 44 yX0_place, Cond.instanceMethod yX0_place]
def wsX3_looseness_r2 : List Cond := [Cond.selects RX0 yX0_place yX0_place, Cond.code yX0_place cX0_place 5 none, Cond.fieldLink RX0 24 "StuckRods$Board" "moved" "[I"]
def wsX3_looseness : List Cond := .code yX3_looseness cX3_looseness 3 (some .double) :: ((wsX3_looseness_r1 ++ wsX3_looseness_r2) ++ wsX30 ++ wsX00)
def wsJ9_abs_0f7a4 : List Cond := .code yJ9_abs_0f7a4 cJ9_abs_0f7a4 1 (some .int) :: ([])
def wsL_cell : List Cond := .code yL_cell cL_cell 2 (some .int) :: ([])
def wsL_low : List Cond := .code yL_low cL_low 2 (some .int) :: ([.constant RL 7 (2147483647)])
def wsL_does_r1 : List Cond := [Cond.methodLink RL 8 yL_low, Cond.static yL_low, Cond.initialized RL, Cond.code yL_low cL_low 2 (some .int), Cond.constant RL 7 (2147483647), Cond.methodLink RL 14 yX3_rod, Cond.instanceMethod yX3_rod, Cond.selects RX3 yX3_rod yX3_rod, Cond.initialized RX3, Cond.code yX3_rod cX3_rod 3 (some .int), Cond.fieldLink RX3 12 "StuckRods" "board" "LStuckRods$Board;", Cond.fieldLink RX3 124 "StuckRods$Board" "fives" "[I", Cond.fieldLink RX3 127 "StuckRods$Board" "ones" "[I", Cond.fieldLink RX3 69 "StuckRods$Board" "loan" "[I", Cond.fieldLink RX3 57 "StuckRods$Board" "stuck" "[I", Cond.fieldLink RX3 133 "StuckRods$Board" "moved" "[I", Cond.fieldLink RX3 136 "StuckRods$Board" "borrowed" "[I", Cond.methodLink RX3 30 yX3_checkRod, Cond.static yX3_checkRod, Cond.code yX3_checkRod cX3_checkRod 1 none, Cond.classLink RX3 210 "java/lang/IndexOutOfBoundsException", Cond.initialized "java/lang/IndexOutOfBoundsException", Cond.methodLink RX3 34 yX3_checkRange, Cond.static yX3_checkRange]
def wsL_does_r2 : List Cond := [Cond.code yX3_checkRange cX3_checkRange 3 none, Cond.classLink RX3 101 "java/lang/IllegalArgumentException", Cond.initialized "java/lang/IllegalArgumentException", Cond.methodLink RX3 130 yX0_shown, Cond.instanceMethod yX0_shown, Cond.selects RX0 yX0_shown yX0_shown, Cond.initialized RX0, Cond.code yX0_shown cX0_shown 2 (some .int), Cond.fieldLink RX0 9 "StuckRods$Board" "fives" "[I", Cond.fieldLink RX0 15 "StuckRods$Board" "ones" "[I", Cond.methodLink RX3 139 yX0_reach, Cond.instanceMethod yX0_reach, Cond.selects RX0 yX0_reach yX0_reach, Cond.code yX0_reach cX0_reach 4 (some .int), Cond.methodLink RX0 51 yX0_turn, Cond.instanceMethod yX0_turn, Cond.selects RX0 yX0_turn yX0_turn, Cond.code yX0_turn cX0_turn 8 (some .int), Cond.methodLink RX0 40 yX0_movesBy, Cond.instanceMethod yX0_movesBy, Cond.selects RX0 yX0_movesBy yX0_movesBy, Cond.code yX0_movesBy cX0_movesBy 6 (some .int), Cond.methodLink RX0 34 Lib.Math.abs.name, Cond.static Lib.Math.abs.name]
def wsL_does_r3 : List Cond := [Cond.initialized "java/lang/Math", Cond.code Lib.Math.abs.name Lib.Math.abs.code 1 (some .int), Cond.fieldLink RX0 18 "StuckRods$Board" "stuck" "[I", Cond.methodLink RX0 44 yX0_place, Cond.instanceMethod yX0_place, Cond.selects RX0 yX0_place yX0_place, Cond.code yX0_place cX0_place 5 none, Cond.fieldLink RX0 24 "StuckRods$Board" "moved" "[I", Cond.methodLink RL 19 yX3_move, Cond.instanceMethod yX3_move, Cond.selects RX3 yX3_move yX3_move, Cond.code yX3_move cX3_move 5 (some .int), Cond.classLink RX3 42 "java/lang/IllegalStateException", Cond.initialized "java/lang/IllegalStateException", Cond.fieldLink RX3 19 "StuckRods" "history" "LStuckRods$History;", Cond.methodLink RX3 38 yX0_movesBy, Cond.methodLink RX3 49 yX1_keep, Cond.instanceMethod yX1_keep, Cond.selects RX1 yX1_keep yX1_keep, Cond.initialized RX1, Cond.code yX1_keep cX1_keep 2 none, Cond.fieldLink RX1 21 "StuckRods$History" "size" "I", Cond.fieldLink RX1 17 "StuckRods$History" "oldest" "I", Cond.fieldLink RX1 11 "StuckRods$History" "slots" "[LStuckRods$Board;"]
def wsL_does_r4 : List Cond := [Cond.methodLink RX1 25 yX0_copyFrom, Cond.instanceMethod yX0_copyFrom, Cond.selects RX0 yX0_copyFrom yX0_copyFrom, Cond.code yX0_copyFrom cX0_copyFrom 3 none, Cond.fieldLink RX0 21 "StuckRods$Board" "loan" "[I", Cond.fieldLink RX0 27 "StuckRods$Board" "borrowed" "[I", Cond.fieldLink RX0 30 "StuckRods$Board" "setting" "I", Cond.methodLink RX3 53 yX0_place, Cond.methodLink RL 23 yX3_stick, Cond.instanceMethod yX3_stick, Cond.selects RX3 yX3_stick yX3_stick, Cond.code yX3_stick cX3_stick 4 (some .int), Cond.methodLink RL 26 yX3_set, Cond.instanceMethod yX3_set, Cond.selects RX3 yX3_set yX3_set, Cond.code yX3_set cX3_set 3 (some .int), Cond.fieldLink RX3 61 "StuckRods$Board" "setting" "I", Cond.methodLink RL 30 yX3_tidy, Cond.instanceMethod yX3_tidy, Cond.selects RX3 yX3_tidy yX3_tidy, Cond.code yX3_tidy cX3_tidy 3 (some .int), Cond.methodLink RX3 78 yX0_payIfPossible, Cond.instanceMethod yX0_payIfPossible, Cond.selects RX0 yX0_payIfPossible yX0_payIfPossible]
def wsL_does_r5 : List Cond := [Cond.code yX0_payIfPossible cX0_payIfPossible 3 (some .int), Cond.methodLink RX0 63 yX0_change, Cond.instanceMethod yX0_change, Cond.selects RX0 yX0_change yX0_change, Cond.code yX0_change cX0_change 6 (some .int), Cond.methodLink RX0 48 yX0_shown, Cond.methodLink RX0 55 yX0_turnAndCarry, Cond.instanceMethod yX0_turnAndCarry, Cond.selects RX0 yX0_turnAndCarry yX0_turnAndCarry, Cond.code yX0_turnAndCarry cX0_turnAndCarry 8 (some .int), Cond.methodLink RX0 59 yX0_borrow, Cond.instanceMethod yX0_borrow, Cond.selects RX0 yX0_borrow yX0_borrow, Cond.code yX0_borrow cX0_borrow 5 (some .boolean), Cond.methodLink RX3 82 yX0_orderIfPossible, Cond.instanceMethod yX0_orderIfPossible, Cond.selects RX0 yX0_orderIfPossible yX0_orderIfPossible, Cond.code yX0_orderIfPossible cX0_orderIfPossible 3 (some .int), Cond.methodLink RL 34 yX3_pay, Cond.instanceMethod yX3_pay, Cond.selects RX3 yX3_pay yX3_pay, Cond.code yX3_pay cX3_pay 2 (some .int), Cond.methodLink RX3 72 yX0_change, Cond.methodLink RL 37 yX3_ifAdded]
def wsL_does_r6 : List Cond := [Cond.instanceMethod yX3_ifAdded, Cond.selects RX3 yX3_ifAdded yX3_ifAdded, Cond.code yX3_ifAdded cX3_ifAdded 3 (some .int), Cond.methodLink RL 40 yX3_add, Cond.instanceMethod yX3_add, Cond.selects RX3 yX3_add yX3_add, Cond.code yX3_add cX3_add 3 (some .int), Cond.methodLink RX3 65 yX3_changeOrThrow, Cond.instanceMethod yX3_changeOrThrow, Cond.selects RX3 yX3_changeOrThrow yX3_changeOrThrow, Cond.code yX3_changeOrThrow cX3_changeOrThrow 3 (some .int), Cond.methodLink RL 43 yX3_less, Cond.instanceMethod yX3_less, Cond.selects RX3 yX3_less yX3_less, Cond.code yX3_less cX3_less 3 (some .int)]
def wsL_does : List Cond := .code yL_does cL_does 5 (some .int) :: ((wsL_does_r1 ++ (wsL_does_r2 ++ (wsL_does_r3 ++ (wsL_does_r4 ++ (wsL_does_r5 ++ wsL_does_r6))))) ++ wsX30 ++ wsX00 ++ wsX10 ++ (vx_atS RX3 214 "java/lang/IndexOutOfBoundsException" ["java/lang/RuntimeException", "java/lang/Exception"]).filter goodWord ++ (vx_atS RX3 105 "java/lang/IllegalArgumentException" ["java/lang/RuntimeException", "java/lang/Exception"]).filter goodWord ++ (vx_atS RX3 46 "java/lang/IllegalStateException" ["java/lang/RuntimeException", "java/lang/Exception"]).filter goodWord)
def wsL_areRodsSo_r1 : List Cond := [Cond.constantLong RL 49 (10), Cond.constantLong RL 51 (9), Cond.methodLink RL 14 yX3_rod, Cond.instanceMethod yX3_rod, Cond.selects RX3 yX3_rod yX3_rod, Cond.initialized RX3, Cond.code yX3_rod cX3_rod 3 (some .int), Cond.fieldLink RX3 12 "StuckRods" "board" "LStuckRods$Board;", Cond.fieldLink RX3 124 "StuckRods$Board" "fives" "[I", Cond.fieldLink RX3 127 "StuckRods$Board" "ones" "[I", Cond.fieldLink RX3 69 "StuckRods$Board" "loan" "[I", Cond.fieldLink RX3 57 "StuckRods$Board" "stuck" "[I", Cond.fieldLink RX3 133 "StuckRods$Board" "moved" "[I", Cond.fieldLink RX3 136 "StuckRods$Board" "borrowed" "[I", Cond.methodLink RX3 30 yX3_checkRod, Cond.static yX3_checkRod, Cond.code yX3_checkRod cX3_checkRod 1 none, Cond.classLink RX3 210 "java/lang/IndexOutOfBoundsException", Cond.initialized "java/lang/IndexOutOfBoundsException", Cond.methodLink RX3 34 yX3_checkRange, Cond.static yX3_checkRange, Cond.code yX3_checkRange cX3_checkRange 3 none, Cond.classLink RX3 101 "java/lang/IllegalArgumentException", Cond.initialized "java/lang/IllegalArgumentException"]
def wsL_areRodsSo_r2 : List Cond := [Cond.methodLink RX3 130 yX0_shown, Cond.instanceMethod yX0_shown, Cond.selects RX0 yX0_shown yX0_shown, Cond.initialized RX0, Cond.code yX0_shown cX0_shown 2 (some .int), Cond.fieldLink RX0 9 "StuckRods$Board" "fives" "[I", Cond.fieldLink RX0 15 "StuckRods$Board" "ones" "[I", Cond.methodLink RX3 139 yX0_reach, Cond.instanceMethod yX0_reach, Cond.selects RX0 yX0_reach yX0_reach, Cond.code yX0_reach cX0_reach 4 (some .int), Cond.methodLink RX0 51 yX0_turn, Cond.instanceMethod yX0_turn, Cond.selects RX0 yX0_turn yX0_turn, Cond.code yX0_turn cX0_turn 8 (some .int), Cond.methodLink RX0 40 yX0_movesBy, Cond.instanceMethod yX0_movesBy, Cond.selects RX0 yX0_movesBy yX0_movesBy, Cond.code yX0_movesBy cX0_movesBy 6 (some .int), Cond.methodLink RX0 34 Lib.Math.abs.name, Cond.static Lib.Math.abs.name, Cond.initialized "java/lang/Math", Cond.code Lib.Math.abs.name Lib.Math.abs.code 1 (some .int), Cond.fieldLink RX0 18 "StuckRods$Board" "stuck" "[I"]
def wsL_areRodsSo_r3 : List Cond := [Cond.methodLink RX0 44 yX0_place, Cond.instanceMethod yX0_place, Cond.selects RX0 yX0_place yX0_place, Cond.code yX0_place cX0_place 5 none, Cond.fieldLink RX0 24 "StuckRods$Board" "moved" "[I", Cond.methodLink RL 46 yX3_moves, Cond.instanceMethod yX3_moves, Cond.selects RX3 yX3_moves yX3_moves, Cond.code yX3_moves cX3_moves 3 (some .int), Cond.methodLink RX3 167 yX0_turn, Cond.methodLink RL 53 yX3_whole, Cond.instanceMethod yX3_whole, Cond.selects RX3 yX3_whole yX3_whole, Cond.code yX3_whole cX3_whole 6 (some .long), Cond.constantLong RX3 142 (10), Cond.methodLink RL 57 yX3_count, Cond.instanceMethod yX3_count, Cond.selects RX3 yX3_count yX3_count, Cond.code yX3_count cX3_count 2 (some .int), Cond.fieldLink RX3 61 "StuckRods$Board" "setting" "I", Cond.fieldLink RX3 19 "StuckRods" "history" "LStuckRods$History;", Cond.fieldLink RX3 116 "StuckRods$History" "size" "I", Cond.methodLink RX3 144 yX0_allMoved, Cond.instanceMethod yX0_allMoved]
def wsL_areRodsSo_r4 : List Cond := [Cond.selects RX0 yX0_allMoved yX0_allMoved, Cond.code yX0_allMoved cX0_allMoved 3 (some .int), Cond.methodLink RX3 147 yX0_rodsWithLoan, Cond.instanceMethod yX0_rodsWithLoan, Cond.selects RX0 yX0_rodsWithLoan yX0_rodsWithLoan, Cond.code yX0_rodsWithLoan cX0_rodsWithLoan 3 (some .int), Cond.fieldLink RX0 21 "StuckRods$Board" "loan" "[I", Cond.methodLink RX3 150 yX0_allLoans, Cond.instanceMethod yX0_allLoans, Cond.selects RX0 yX0_allLoans yX0_allLoans, Cond.code yX0_allLoans cX0_allLoans 3 (some .int), Cond.methodLink RX3 153 yX0_allShown, Cond.instanceMethod yX0_allShown, Cond.selects RX0 yX0_allShown yX0_allShown, Cond.code yX0_allShown cX0_allShown 3 (some .int), Cond.methodLink RX0 48 yX0_shown, Cond.methodLink RX3 156 yJ9_floorMod_7cf53, Cond.static yJ9_floorMod_7cf53, Cond.initialized RJ9, Cond.code yJ9_floorMod_7cf53 cJ9_floorMod_7cf53 3 (some .int), Cond.methodLink RX3 161 yX0_rodsOutOfOrder, Cond.instanceMethod yX0_rodsOutOfOrder, Cond.selects RX0 yX0_rodsOutOfOrder yX0_rodsOutOfOrder, Cond.code yX0_rodsOutOfOrder cX0_rodsOutOfOrder 3 (some .int)]
def wsL_areRodsSo_r5 : List Cond := [Cond.methodLink RX3 164 yX0_rodsWithStuck, Cond.instanceMethod yX0_rodsWithStuck, Cond.selects RX0 yX0_rodsWithStuck yX0_rodsWithStuck, Cond.code yX0_rodsWithStuck cX0_rodsWithStuck 3 (some .int)]
def wsL_areRodsSo : List Cond := .code yL_areRodsSo cL_areRodsSo 21 (some .boolean) :: ((wsL_areRodsSo_r1 ++ (wsL_areRodsSo_r2 ++ (wsL_areRodsSo_r3 ++ (wsL_areRodsSo_r4 ++ wsL_areRodsSo_r5)))) ++ wsX30 ++ wsX00 ++ wsX10 ++ (vx_atS RX3 214 "java/lang/IndexOutOfBoundsException" ["java/lang/RuntimeException", "java/lang/Exception"]).filter goodWord ++ (vx_atS RX3 105 "java/lang/IllegalArgumentException" ["java/lang/RuntimeException", "java/lang/Exception"]).filter goodWord)
def wsL_power : List Cond := .code yL_power cL_power 4 (some .long) :: ([.constantLong RL 49 (10)])
def wsL_isAddedSo_r1 : List Cond := [Cond.methodLink RL 37 yX3_ifAdded, Cond.instanceMethod yX3_ifAdded, Cond.selects RX3 yX3_ifAdded yX3_ifAdded, Cond.initialized RX3, Cond.code yX3_ifAdded cX3_ifAdded 3 (some .int), Cond.fieldLink RX3 12 "StuckRods" "board" "LStuckRods$Board;", Cond.methodLink RX3 30 yX3_checkRod, Cond.static yX3_checkRod, Cond.code yX3_checkRod cX3_checkRod 1 none, Cond.classLink RX3 210 "java/lang/IndexOutOfBoundsException", Cond.initialized "java/lang/IndexOutOfBoundsException", Cond.methodLink RX3 34 yX3_checkRange, Cond.static yX3_checkRange, Cond.code yX3_checkRange cX3_checkRange 3 none, Cond.classLink RX3 101 "java/lang/IllegalArgumentException", Cond.initialized "java/lang/IllegalArgumentException", Cond.methodLink RX3 72 yX0_change, Cond.instanceMethod yX0_change, Cond.selects RX0 yX0_change yX0_change, Cond.initialized RX0, Cond.code yX0_change cX0_change 6 (some .int), Cond.methodLink RX0 48 yX0_shown, Cond.instanceMethod yX0_shown, Cond.selects RX0 yX0_shown yX0_shown]
def wsL_isAddedSo_r2 : List Cond := [Cond.code yX0_shown cX0_shown 2 (some .int), Cond.fieldLink RX0 9 "StuckRods$Board" "fives" "[I", Cond.fieldLink RX0 15 "StuckRods$Board" "ones" "[I", Cond.methodLink RX0 51 yX0_turn, Cond.instanceMethod yX0_turn, Cond.selects RX0 yX0_turn yX0_turn, Cond.code yX0_turn cX0_turn 8 (some .int), Cond.methodLink RX0 40 yX0_movesBy, Cond.instanceMethod yX0_movesBy, Cond.selects RX0 yX0_movesBy yX0_movesBy, Cond.code yX0_movesBy cX0_movesBy 6 (some .int), Cond.methodLink RX0 34 Lib.Math.abs.name, Cond.static Lib.Math.abs.name, Cond.initialized "java/lang/Math", Cond.code Lib.Math.abs.name Lib.Math.abs.code 1 (some .int), Cond.fieldLink RX0 18 "StuckRods$Board" "stuck" "[I", Cond.methodLink RX0 44 yX0_place, Cond.instanceMethod yX0_place, Cond.selects RX0 yX0_place yX0_place, Cond.code yX0_place cX0_place 5 none, Cond.fieldLink RX0 24 "StuckRods$Board" "moved" "[I", Cond.methodLink RX0 55 yX0_turnAndCarry, Cond.instanceMethod yX0_turnAndCarry, Cond.selects RX0 yX0_turnAndCarry yX0_turnAndCarry]
def wsL_isAddedSo_r3 : List Cond := [Cond.code yX0_turnAndCarry cX0_turnAndCarry 8 (some .int), Cond.methodLink RX0 59 yX0_borrow, Cond.instanceMethod yX0_borrow, Cond.selects RX0 yX0_borrow yX0_borrow, Cond.code yX0_borrow cX0_borrow 5 (some .boolean), Cond.fieldLink RX0 21 "StuckRods$Board" "loan" "[I", Cond.fieldLink RX0 30 "StuckRods$Board" "setting" "I", Cond.fieldLink RX0 27 "StuckRods$Board" "borrowed" "[I", Cond.methodLink RL 53 yX3_whole, Cond.instanceMethod yX3_whole, Cond.selects RX3 yX3_whole yX3_whole, Cond.code yX3_whole cX3_whole 6 (some .long), Cond.fieldLink RX3 69 "StuckRods$Board" "loan" "[I", Cond.constantLong RX3 142 (10), Cond.methodLink RX3 130 yX0_shown, Cond.methodLink RL 57 yX3_count, Cond.instanceMethod yX3_count, Cond.selects RX3 yX3_count yX3_count, Cond.code yX3_count cX3_count 2 (some .int), Cond.fieldLink RX3 61 "StuckRods$Board" "setting" "I", Cond.fieldLink RX3 19 "StuckRods" "history" "LStuckRods$History;", Cond.fieldLink RX3 116 "StuckRods$History" "size" "I", Cond.methodLink RX3 144 yX0_allMoved, Cond.instanceMethod yX0_allMoved]
def wsL_isAddedSo_r4 : List Cond := [Cond.selects RX0 yX0_allMoved yX0_allMoved, Cond.code yX0_allMoved cX0_allMoved 3 (some .int), Cond.methodLink RX3 147 yX0_rodsWithLoan, Cond.instanceMethod yX0_rodsWithLoan, Cond.selects RX0 yX0_rodsWithLoan yX0_rodsWithLoan, Cond.code yX0_rodsWithLoan cX0_rodsWithLoan 3 (some .int), Cond.methodLink RX3 150 yX0_allLoans, Cond.instanceMethod yX0_allLoans, Cond.selects RX0 yX0_allLoans yX0_allLoans, Cond.code yX0_allLoans cX0_allLoans 3 (some .int), Cond.methodLink RX3 153 yX0_allShown, Cond.instanceMethod yX0_allShown, Cond.selects RX0 yX0_allShown yX0_allShown, Cond.code yX0_allShown cX0_allShown 3 (some .int), Cond.methodLink RX3 156 yJ9_floorMod_7cf53, Cond.static yJ9_floorMod_7cf53, Cond.initialized RJ9, Cond.code yJ9_floorMod_7cf53 cJ9_floorMod_7cf53 3 (some .int), Cond.methodLink RX3 161 yX0_rodsOutOfOrder, Cond.instanceMethod yX0_rodsOutOfOrder, Cond.selects RX0 yX0_rodsOutOfOrder yX0_rodsOutOfOrder, Cond.code yX0_rodsOutOfOrder cX0_rodsOutOfOrder 3 (some .int), Cond.methodLink RX3 164 yX0_rodsWithStuck, Cond.instanceMethod yX0_rodsWithStuck]
def wsL_isAddedSo_r5 : List Cond := [Cond.selects RX0 yX0_rodsWithStuck yX0_rodsWithStuck, Cond.code yX0_rodsWithStuck cX0_rodsWithStuck 3 (some .int), Cond.methodLink RL 40 yX3_add, Cond.instanceMethod yX3_add, Cond.selects RX3 yX3_add yX3_add, Cond.code yX3_add cX3_add 3 (some .int), Cond.methodLink RX3 65 yX3_changeOrThrow, Cond.instanceMethod yX3_changeOrThrow, Cond.selects RX3 yX3_changeOrThrow yX3_changeOrThrow, Cond.code yX3_changeOrThrow cX3_changeOrThrow 3 (some .int), Cond.classLink RX3 42 "java/lang/IllegalStateException", Cond.initialized "java/lang/IllegalStateException", Cond.methodLink RX3 49 yX1_keep, Cond.instanceMethod yX1_keep, Cond.selects RX1 yX1_keep yX1_keep, Cond.initialized RX1, Cond.code yX1_keep cX1_keep 2 none, Cond.fieldLink RX1 21 "StuckRods$History" "size" "I", Cond.fieldLink RX1 17 "StuckRods$History" "oldest" "I", Cond.fieldLink RX1 11 "StuckRods$History" "slots" "[LStuckRods$Board;", Cond.methodLink RX1 25 yX0_copyFrom, Cond.instanceMethod yX0_copyFrom, Cond.selects RX0 yX0_copyFrom yX0_copyFrom, Cond.code yX0_copyFrom cX0_copyFrom 3 none]
def wsL_isAddedSo_r6 : List Cond := [Cond.methodLink RL 43 yX3_less, Cond.instanceMethod yX3_less, Cond.selects RX3 yX3_less yX3_less, Cond.code yX3_less cX3_less 3 (some .int), Cond.methodLink RL 60 yL_power, Cond.static yL_power, Cond.initialized RL, Cond.code yL_power cL_power 4 (some .long), Cond.constantLong RL 49 (10), Cond.methodLink RL 64 yX3_undo, Cond.instanceMethod yX3_undo, Cond.selects RX3 yX3_undo yX3_undo, Cond.code yX3_undo cX3_undo 1 (some .int), Cond.methodLink RX3 121 yX1_restore, Cond.instanceMethod yX1_restore, Cond.selects RX1 yX1_restore yX1_restore, Cond.code yX1_restore cX1_restore 2 none]
def wsL_isAddedSo : List Cond := .code yL_isAddedSo cL_isAddedSo 10 (some .boolean) :: ((wsL_isAddedSo_r1 ++ (wsL_isAddedSo_r2 ++ (wsL_isAddedSo_r3 ++ (wsL_isAddedSo_r4 ++ (wsL_isAddedSo_r5 ++ wsL_isAddedSo_r6))))) ++ wsX30 ++ wsX00 ++ wsX10 ++ (vx_atS RX3 214 "java/lang/IndexOutOfBoundsException" ["java/lang/RuntimeException", "java/lang/Exception"]).filter goodWord ++ (vx_atS RX3 105 "java/lang/IllegalArgumentException" ["java/lang/RuntimeException", "java/lang/Exception"]).filter goodWord ++ (vx_atS RX3 46 "java/lang/IllegalStateException" ["java/lang/RuntimeException", "java/lang/Exception"]).filter goodWord)
def wsL_arePaidSo_r1 : List Cond := [Cond.methodLink RL 67 yX3_cheapestLoan, Cond.instanceMethod yX3_cheapestLoan, Cond.selects RX3 yX3_cheapestLoan yX3_cheapestLoan, Cond.initialized RX3, Cond.code yX3_cheapestLoan cX3_cheapestLoan 5 (some .int), Cond.fieldLink RX3 12 "StuckRods" "board" "LStuckRods$Board;", Cond.fieldLink RX3 69 "StuckRods$Board" "loan" "[I", Cond.methodLink RX3 72 yX0_change, Cond.instanceMethod yX0_change, Cond.selects RX0 yX0_change yX0_change, Cond.initialized RX0, Cond.code yX0_change cX0_change 6 (some .int), Cond.methodLink RX0 48 yX0_shown, Cond.instanceMethod yX0_shown, Cond.selects RX0 yX0_shown yX0_shown, Cond.code yX0_shown cX0_shown 2 (some .int), Cond.fieldLink RX0 9 "StuckRods$Board" "fives" "[I", Cond.fieldLink RX0 15 "StuckRods$Board" "ones" "[I", Cond.methodLink RX0 51 yX0_turn, Cond.instanceMethod yX0_turn, Cond.selects RX0 yX0_turn yX0_turn, Cond.code yX0_turn cX0_turn 8 (some .int), Cond.methodLink RX0 40 yX0_movesBy, Cond.instanceMethod yX0_movesBy]
def wsL_arePaidSo_r2 : List Cond := [Cond.selects RX0 yX0_movesBy yX0_movesBy, Cond.code yX0_movesBy cX0_movesBy 6 (some .int), Cond.methodLink RX0 34 Lib.Math.abs.name, Cond.static Lib.Math.abs.name, Cond.initialized "java/lang/Math", Cond.code Lib.Math.abs.name Lib.Math.abs.code 1 (some .int), Cond.fieldLink RX0 18 "StuckRods$Board" "stuck" "[I", Cond.methodLink RX0 44 yX0_place, Cond.instanceMethod yX0_place, Cond.selects RX0 yX0_place yX0_place, Cond.code yX0_place cX0_place 5 none, Cond.fieldLink RX0 24 "StuckRods$Board" "moved" "[I", Cond.methodLink RX0 55 yX0_turnAndCarry, Cond.instanceMethod yX0_turnAndCarry, Cond.selects RX0 yX0_turnAndCarry yX0_turnAndCarry, Cond.code yX0_turnAndCarry cX0_turnAndCarry 8 (some .int), Cond.methodLink RX0 59 yX0_borrow, Cond.instanceMethod yX0_borrow, Cond.selects RX0 yX0_borrow yX0_borrow, Cond.code yX0_borrow cX0_borrow 5 (some .boolean), Cond.fieldLink RX0 21 "StuckRods$Board" "loan" "[I", Cond.fieldLink RX0 30 "StuckRods$Board" "setting" "I", Cond.fieldLink RX0 27 "StuckRods$Board" "borrowed" "[I", Cond.methodLink RL 53 yX3_whole]
def wsL_arePaidSo_r3 : List Cond := [Cond.instanceMethod yX3_whole, Cond.selects RX3 yX3_whole yX3_whole, Cond.code yX3_whole cX3_whole 6 (some .long), Cond.constantLong RX3 142 (10), Cond.methodLink RX3 130 yX0_shown, Cond.methodLink RL 57 yX3_count, Cond.instanceMethod yX3_count, Cond.selects RX3 yX3_count yX3_count, Cond.code yX3_count cX3_count 2 (some .int), Cond.fieldLink RX3 61 "StuckRods$Board" "setting" "I", Cond.fieldLink RX3 19 "StuckRods" "history" "LStuckRods$History;", Cond.fieldLink RX3 116 "StuckRods$History" "size" "I", Cond.methodLink RX3 34 yX3_checkRange, Cond.static yX3_checkRange, Cond.code yX3_checkRange cX3_checkRange 3 none, Cond.classLink RX3 101 "java/lang/IllegalArgumentException", Cond.initialized "java/lang/IllegalArgumentException", Cond.methodLink RX3 144 yX0_allMoved, Cond.instanceMethod yX0_allMoved, Cond.selects RX0 yX0_allMoved yX0_allMoved, Cond.code yX0_allMoved cX0_allMoved 3 (some .int), Cond.methodLink RX3 147 yX0_rodsWithLoan, Cond.instanceMethod yX0_rodsWithLoan, Cond.selects RX0 yX0_rodsWithLoan yX0_rodsWithLoan]
def wsL_arePaidSo_r4 : List Cond := [Cond.code yX0_rodsWithLoan cX0_rodsWithLoan 3 (some .int), Cond.methodLink RX3 150 yX0_allLoans, Cond.instanceMethod yX0_allLoans, Cond.selects RX0 yX0_allLoans yX0_allLoans, Cond.code yX0_allLoans cX0_allLoans 3 (some .int), Cond.methodLink RX3 153 yX0_allShown, Cond.instanceMethod yX0_allShown, Cond.selects RX0 yX0_allShown yX0_allShown, Cond.code yX0_allShown cX0_allShown 3 (some .int), Cond.methodLink RX3 156 yJ9_floorMod_7cf53, Cond.static yJ9_floorMod_7cf53, Cond.initialized RJ9, Cond.code yJ9_floorMod_7cf53 cJ9_floorMod_7cf53 3 (some .int), Cond.methodLink RX3 161 yX0_rodsOutOfOrder, Cond.instanceMethod yX0_rodsOutOfOrder, Cond.selects RX0 yX0_rodsOutOfOrder yX0_rodsOutOfOrder, Cond.code yX0_rodsOutOfOrder cX0_rodsOutOfOrder 3 (some .int), Cond.methodLink RX3 164 yX0_rodsWithStuck, Cond.instanceMethod yX0_rodsWithStuck, Cond.selects RX0 yX0_rodsWithStuck yX0_rodsWithStuck, Cond.code yX0_rodsWithStuck cX0_rodsWithStuck 3 (some .int), Cond.methodLink RL 14 yX3_rod, Cond.instanceMethod yX3_rod, Cond.selects RX3 yX3_rod yX3_rod]
def wsL_arePaidSo_r5 : List Cond := [Cond.code yX3_rod cX3_rod 3 (some .int), Cond.fieldLink RX3 124 "StuckRods$Board" "fives" "[I", Cond.fieldLink RX3 127 "StuckRods$Board" "ones" "[I", Cond.fieldLink RX3 57 "StuckRods$Board" "stuck" "[I", Cond.fieldLink RX3 133 "StuckRods$Board" "moved" "[I", Cond.fieldLink RX3 136 "StuckRods$Board" "borrowed" "[I", Cond.methodLink RX3 30 yX3_checkRod, Cond.static yX3_checkRod, Cond.code yX3_checkRod cX3_checkRod 1 none, Cond.classLink RX3 210 "java/lang/IndexOutOfBoundsException", Cond.initialized "java/lang/IndexOutOfBoundsException", Cond.methodLink RX3 139 yX0_reach, Cond.instanceMethod yX0_reach, Cond.selects RX0 yX0_reach yX0_reach, Cond.code yX0_reach cX0_reach 4 (some .int), Cond.methodLink RL 37 yX3_ifAdded, Cond.instanceMethod yX3_ifAdded, Cond.selects RX3 yX3_ifAdded yX3_ifAdded, Cond.code yX3_ifAdded cX3_ifAdded 3 (some .int), Cond.methodLink RL 34 yX3_pay, Cond.instanceMethod yX3_pay, Cond.selects RX3 yX3_pay yX3_pay, Cond.code yX3_pay cX3_pay 2 (some .int), Cond.classLink RX3 42 "java/lang/IllegalStateException"]
def wsL_arePaidSo_r6 : List Cond := [Cond.initialized "java/lang/IllegalStateException", Cond.methodLink RX3 49 yX1_keep, Cond.instanceMethod yX1_keep, Cond.selects RX1 yX1_keep yX1_keep, Cond.initialized RX1, Cond.code yX1_keep cX1_keep 2 none, Cond.fieldLink RX1 21 "StuckRods$History" "size" "I", Cond.fieldLink RX1 17 "StuckRods$History" "oldest" "I", Cond.fieldLink RX1 11 "StuckRods$History" "slots" "[LStuckRods$Board;", Cond.methodLink RX1 25 yX0_copyFrom, Cond.instanceMethod yX0_copyFrom, Cond.selects RX0 yX0_copyFrom yX0_copyFrom, Cond.code yX0_copyFrom cX0_copyFrom 3 none, Cond.methodLink RX3 78 yX0_payIfPossible, Cond.instanceMethod yX0_payIfPossible, Cond.selects RX0 yX0_payIfPossible yX0_payIfPossible, Cond.code yX0_payIfPossible cX0_payIfPossible 3 (some .int), Cond.methodLink RX0 63 yX0_change, Cond.methodLink RL 64 yX3_undo, Cond.instanceMethod yX3_undo, Cond.selects RX3 yX3_undo yX3_undo, Cond.code yX3_undo cX3_undo 1 (some .int), Cond.methodLink RX3 121 yX1_restore, Cond.instanceMethod yX1_restore]
def wsL_arePaidSo_r7 : List Cond := [Cond.selects RX1 yX1_restore yX1_restore, Cond.code yX1_restore cX1_restore 2 none, Cond.methodLink RL 30 yX3_tidy, Cond.instanceMethod yX3_tidy, Cond.selects RX3 yX3_tidy yX3_tidy, Cond.code yX3_tidy cX3_tidy 3 (some .int), Cond.methodLink RX3 82 yX0_orderIfPossible, Cond.instanceMethod yX0_orderIfPossible, Cond.selects RX0 yX0_orderIfPossible yX0_orderIfPossible, Cond.code yX0_orderIfPossible cX0_orderIfPossible 3 (some .int)]
def wsL_arePaidSo : List Cond := .code yL_arePaidSo cL_arePaidSo 12 (some .boolean) :: ((wsL_arePaidSo_r1 ++ (wsL_arePaidSo_r2 ++ (wsL_arePaidSo_r3 ++ (wsL_arePaidSo_r4 ++ (wsL_arePaidSo_r5 ++ (wsL_arePaidSo_r6 ++ wsL_arePaidSo_r7)))))) ++ wsX30 ++ wsX00 ++ wsX10 ++ (vx_atS RX3 105 "java/lang/IllegalArgumentException" ["java/lang/RuntimeException", "java/lang/Exception"]).filter goodWord ++ (vx_atS RX3 214 "java/lang/IndexOutOfBoundsException" ["java/lang/RuntimeException", "java/lang/Exception"]).filter goodWord ++ (vx_atS RX3 46 "java/lang/IllegalStateException" ["java/lang/RuntimeException", "java/lang/Exception"]).filter goodWord)
def wsL_isShownSo_r1 : List Cond := [Cond.methodLink RL 46 yX3_moves, Cond.instanceMethod yX3_moves, Cond.selects RX3 yX3_moves yX3_moves, Cond.initialized RX3, Cond.code yX3_moves cX3_moves 3 (some .int), Cond.fieldLink RX3 12 "StuckRods" "board" "LStuckRods$Board;", Cond.methodLink RX3 30 yX3_checkRod, Cond.static yX3_checkRod, Cond.code yX3_checkRod cX3_checkRod 1 none, Cond.classLink RX3 210 "java/lang/IndexOutOfBoundsException", Cond.initialized "java/lang/IndexOutOfBoundsException", Cond.methodLink RX3 34 yX3_checkRange, Cond.static yX3_checkRange, Cond.code yX3_checkRange cX3_checkRange 3 none, Cond.classLink RX3 101 "java/lang/IllegalArgumentException", Cond.initialized "java/lang/IllegalArgumentException", Cond.methodLink RX3 167 yX0_turn, Cond.instanceMethod yX0_turn, Cond.selects RX0 yX0_turn yX0_turn, Cond.initialized RX0, Cond.code yX0_turn cX0_turn 8 (some .int), Cond.methodLink RX0 40 yX0_movesBy, Cond.instanceMethod yX0_movesBy, Cond.selects RX0 yX0_movesBy yX0_movesBy]
def wsL_isShownSo_r2 : List Cond := [Cond.code yX0_movesBy cX0_movesBy 6 (some .int), Cond.fieldLink RX0 9 "StuckRods$Board" "fives" "[I", Cond.methodLink RX0 34 Lib.Math.abs.name, Cond.static Lib.Math.abs.name, Cond.initialized "java/lang/Math", Cond.code Lib.Math.abs.name Lib.Math.abs.code 1 (some .int), Cond.fieldLink RX0 15 "StuckRods$Board" "ones" "[I", Cond.fieldLink RX0 18 "StuckRods$Board" "stuck" "[I", Cond.methodLink RX0 44 yX0_place, Cond.instanceMethod yX0_place, Cond.selects RX0 yX0_place yX0_place, Cond.code yX0_place cX0_place 5 none, Cond.fieldLink RX0 24 "StuckRods$Board" "moved" "[I", Cond.methodLink RL 70 yX3_toShow, Cond.instanceMethod yX3_toShow, Cond.selects RX3 yX3_toShow yX3_toShow, Cond.code yX3_toShow cX3_toShow 6 (some .int), Cond.constant RX3 170 (999999999), Cond.methodLink RL 73 yX3_looseness, Cond.instanceMethod yX3_looseness, Cond.selects RX3 yX3_looseness yX3_looseness, Cond.code yX3_looseness cX3_looseness 3 (some .double), Cond.constantDouble RX3 171 (4639270566145032192), Cond.methodLink RX3 139 yX0_reach]
def wsL_isShownSo_r3 : List Cond := [Cond.instanceMethod yX0_reach, Cond.selects RX0 yX0_reach yX0_reach, Cond.code yX0_reach cX0_reach 4 (some .int), Cond.methodLink RX0 51 yX0_turn]
def wsL_isShownSo : List Cond := .code yL_isShownSo cL_isShownSo 7 (some .boolean) :: ((wsL_isShownSo_r1 ++ (wsL_isShownSo_r2 ++ wsL_isShownSo_r3)) ++ wsX30 ++ wsX00 ++ (vx_atS RX3 214 "java/lang/IndexOutOfBoundsException" ["java/lang/RuntimeException", "java/lang/Exception"]).filter goodWord ++ (vx_atS RX3 105 "java/lang/IllegalArgumentException" ["java/lang/RuntimeException", "java/lang/Exception"]).filter goodWord)
def wsL_law0_r1 : List Cond := [Cond.classLink RL 15 RX3, Cond.instantiable RX3 3, Cond.initialized RX3, Cond.constant RL 97 (1000000000), Cond.methodLink RL 77 yX3_init, Cond.instanceMethod yX3_init, Cond.code yX3_init cX3_init 1 none, Cond.methodLink RX3 3 objectInit, Cond.instanceMethod objectInit, Cond.code objectInit ⟨#[0xb1]⟩ 1 none, Cond.classLink RX3 9 RX0, Cond.instantiable RX0 7, Cond.initialized RX0, Cond.fieldLink RX3 12 "StuckRods" "board" "LStuckRods$Board;", Cond.classLink RX3 16 RX1, Cond.instantiable RX1 3, Cond.initialized RX1, Cond.fieldLink RX3 19 "StuckRods" "history" "LStuckRods$History;", Cond.classLink RX3 23 RX2, Cond.instantiable RX2 2, Cond.initialized RX2, Cond.fieldLink RX3 26 "StuckRods" "text" "LStuckRods$SumText;", Cond.methodLink RX3 11 yX0_init, Cond.instanceMethod yX0_init]
def wsL_law0_r2 : List Cond := [Cond.code yX0_init cX0_init 1 none, Cond.methodLink RX0 3 objectInit, Cond.arrayClass .int, Cond.fieldLink RX0 9 "StuckRods$Board" "fives" "[I", Cond.fieldLink RX0 15 "StuckRods$Board" "ones" "[I", Cond.fieldLink RX0 18 "StuckRods$Board" "stuck" "[I", Cond.fieldLink RX0 21 "StuckRods$Board" "loan" "[I", Cond.fieldLink RX0 24 "StuckRods$Board" "moved" "[I", Cond.fieldLink RX0 27 "StuckRods$Board" "borrowed" "[I", Cond.fieldLink RX0 30 "StuckRods$Board" "setting" "I", Cond.methodLink RX3 18 yX1_init, Cond.instanceMethod yX1_init, Cond.code yX1_init cX1_init 2 none, Cond.methodLink RX1 3 objectInit, Cond.classLink RX1 9 RX0, Cond.fieldLink RX1 11 "StuckRods$History" "slots" "[LStuckRods$Board;", Cond.fieldLink RX1 17 "StuckRods$History" "oldest" "I", Cond.fieldLink RX1 21 "StuckRods$History" "size" "I", Cond.methodLink RX1 24 yX0_init, Cond.methodLink RX3 25 yX2_init, Cond.instanceMethod yX2_init, Cond.code yX2_init cX2_init 1 none, Cond.methodLink RX2 3 objectInit, Cond.fieldLink RX2 9 "StuckRods$SumText" "codes" "[I"]
def wsL_law0_r3 : List Cond := [Cond.fieldLink RX2 15 "StuckRods$SumText" "length" "I", Cond.methodLink RL 78 yL_cell, Cond.static yL_cell, Cond.initialized RL, Cond.code yL_cell cL_cell 2 (some .int), Cond.methodLink RL 53 yX3_whole, Cond.instanceMethod yX3_whole, Cond.selects RX3 yX3_whole yX3_whole, Cond.code yX3_whole cX3_whole 6 (some .long), Cond.fieldLink RX3 69 "StuckRods$Board" "loan" "[I", Cond.constantLong RX3 142 (10), Cond.methodLink RX3 130 yX0_shown, Cond.instanceMethod yX0_shown, Cond.selects RX0 yX0_shown yX0_shown, Cond.code yX0_shown cX0_shown 2 (some .int), Cond.methodLink RL 82 yL_does, Cond.static yL_does, Cond.code yL_does cL_does 5 (some .int), Cond.methodLink RL 8 yL_low, Cond.static yL_low, Cond.code yL_low cL_low 2 (some .int), Cond.constant RL 7 (2147483647), Cond.methodLink RL 14 yX3_rod, Cond.instanceMethod yX3_rod]
def wsL_law0_r4 : List Cond := [Cond.selects RX3 yX3_rod yX3_rod, Cond.code yX3_rod cX3_rod 3 (some .int), Cond.fieldLink RX3 124 "StuckRods$Board" "fives" "[I", Cond.fieldLink RX3 127 "StuckRods$Board" "ones" "[I", Cond.fieldLink RX3 57 "StuckRods$Board" "stuck" "[I", Cond.fieldLink RX3 133 "StuckRods$Board" "moved" "[I", Cond.fieldLink RX3 136 "StuckRods$Board" "borrowed" "[I", Cond.methodLink RX3 30 yX3_checkRod, Cond.static yX3_checkRod, Cond.code yX3_checkRod cX3_checkRod 1 none, Cond.classLink RX3 210 "java/lang/IndexOutOfBoundsException", Cond.initialized "java/lang/IndexOutOfBoundsException", Cond.methodLink RX3 34 yX3_checkRange, Cond.static yX3_checkRange, Cond.code yX3_checkRange cX3_checkRange 3 none, Cond.classLink RX3 101 "java/lang/IllegalArgumentException", Cond.initialized "java/lang/IllegalArgumentException", Cond.methodLink RX3 139 yX0_reach, Cond.instanceMethod yX0_reach, Cond.selects RX0 yX0_reach yX0_reach, Cond.code yX0_reach cX0_reach 4 (some .int), Cond.methodLink RX0 51 yX0_turn, Cond.instanceMethod yX0_turn, Cond.selects RX0 yX0_turn yX0_turn]
def wsL_law0_r5 : List Cond := [Cond.code yX0_turn cX0_turn 8 (some .int), Cond.methodLink RX0 40 yX0_movesBy, Cond.instanceMethod yX0_movesBy, Cond.selects RX0 yX0_movesBy yX0_movesBy, Cond.code yX0_movesBy cX0_movesBy 6 (some .int), Cond.methodLink RX0 34 Lib.Math.abs.name, Cond.static Lib.Math.abs.name, Cond.initialized "java/lang/Math", Cond.code Lib.Math.abs.name Lib.Math.abs.code 1 (some .int), Cond.methodLink RX0 44 yX0_place, Cond.instanceMethod yX0_place, Cond.selects RX0 yX0_place yX0_place, Cond.code yX0_place cX0_place 5 none, Cond.methodLink RL 19 yX3_move, Cond.instanceMethod yX3_move, Cond.selects RX3 yX3_move yX3_move, Cond.code yX3_move cX3_move 5 (some .int), Cond.classLink RX3 42 "java/lang/IllegalStateException", Cond.initialized "java/lang/IllegalStateException", Cond.methodLink RX3 38 yX0_movesBy, Cond.methodLink RX3 49 yX1_keep, Cond.instanceMethod yX1_keep, Cond.selects RX1 yX1_keep yX1_keep, Cond.code yX1_keep cX1_keep 2 none]
def wsL_law0_r6 : List Cond := [Cond.methodLink RX1 25 yX0_copyFrom, Cond.instanceMethod yX0_copyFrom, Cond.selects RX0 yX0_copyFrom yX0_copyFrom, Cond.code yX0_copyFrom cX0_copyFrom 3 none, Cond.methodLink RX3 53 yX0_place, Cond.methodLink RL 23 yX3_stick, Cond.instanceMethod yX3_stick, Cond.selects RX3 yX3_stick yX3_stick, Cond.code yX3_stick cX3_stick 4 (some .int), Cond.methodLink RL 26 yX3_set, Cond.instanceMethod yX3_set, Cond.selects RX3 yX3_set yX3_set, Cond.code yX3_set cX3_set 3 (some .int), Cond.fieldLink RX3 61 "StuckRods$Board" "setting" "I", Cond.methodLink RL 30 yX3_tidy, Cond.instanceMethod yX3_tidy, Cond.selects RX3 yX3_tidy yX3_tidy, Cond.code yX3_tidy cX3_tidy 3 (some .int), Cond.methodLink RX3 78 yX0_payIfPossible, Cond.instanceMethod yX0_payIfPossible, Cond.selects RX0 yX0_payIfPossible yX0_payIfPossible, Cond.code yX0_payIfPossible cX0_payIfPossible 3 (some .int), Cond.methodLink RX0 63 yX0_change, Cond.instanceMethod yX0_change]
def wsL_law0_r7 : List Cond := [Cond.selects RX0 yX0_change yX0_change, Cond.code yX0_change cX0_change 6 (some .int), Cond.methodLink RX0 48 yX0_shown, Cond.methodLink RX0 55 yX0_turnAndCarry, Cond.instanceMethod yX0_turnAndCarry, Cond.selects RX0 yX0_turnAndCarry yX0_turnAndCarry, Cond.code yX0_turnAndCarry cX0_turnAndCarry 8 (some .int), Cond.methodLink RX0 59 yX0_borrow, Cond.instanceMethod yX0_borrow, Cond.selects RX0 yX0_borrow yX0_borrow, Cond.code yX0_borrow cX0_borrow 5 (some .boolean), Cond.methodLink RX3 82 yX0_orderIfPossible, Cond.instanceMethod yX0_orderIfPossible, Cond.selects RX0 yX0_orderIfPossible yX0_orderIfPossible, Cond.code yX0_orderIfPossible cX0_orderIfPossible 3 (some .int), Cond.methodLink RL 34 yX3_pay, Cond.instanceMethod yX3_pay, Cond.selects RX3 yX3_pay yX3_pay, Cond.code yX3_pay cX3_pay 2 (some .int), Cond.methodLink RX3 72 yX0_change, Cond.methodLink RL 37 yX3_ifAdded, Cond.instanceMethod yX3_ifAdded, Cond.selects RX3 yX3_ifAdded yX3_ifAdded, Cond.code yX3_ifAdded cX3_ifAdded 3 (some .int)]
def wsL_law0_r8 : List Cond := [Cond.methodLink RL 40 yX3_add, Cond.instanceMethod yX3_add, Cond.selects RX3 yX3_add yX3_add, Cond.code yX3_add cX3_add 3 (some .int), Cond.methodLink RX3 65 yX3_changeOrThrow, Cond.instanceMethod yX3_changeOrThrow, Cond.selects RX3 yX3_changeOrThrow yX3_changeOrThrow, Cond.code yX3_changeOrThrow cX3_changeOrThrow 3 (some .int), Cond.methodLink RL 43 yX3_less, Cond.instanceMethod yX3_less, Cond.selects RX3 yX3_less yX3_less, Cond.code yX3_less cX3_less 3 (some .int), Cond.methodLink RL 86 yL_isAddedSo, Cond.static yL_isAddedSo, Cond.code yL_isAddedSo cL_isAddedSo 10 (some .boolean), Cond.methodLink RL 57 yX3_count, Cond.instanceMethod yX3_count, Cond.selects RX3 yX3_count yX3_count, Cond.code yX3_count cX3_count 2 (some .int), Cond.fieldLink RX3 116 "StuckRods$History" "size" "I", Cond.methodLink RX3 144 yX0_allMoved, Cond.instanceMethod yX0_allMoved, Cond.selects RX0 yX0_allMoved yX0_allMoved, Cond.code yX0_allMoved cX0_allMoved 3 (some .int)]
def wsL_law0_r9 : List Cond := [Cond.methodLink RX3 147 yX0_rodsWithLoan, Cond.instanceMethod yX0_rodsWithLoan, Cond.selects RX0 yX0_rodsWithLoan yX0_rodsWithLoan, Cond.code yX0_rodsWithLoan cX0_rodsWithLoan 3 (some .int), Cond.methodLink RX3 150 yX0_allLoans, Cond.instanceMethod yX0_allLoans, Cond.selects RX0 yX0_allLoans yX0_allLoans, Cond.code yX0_allLoans cX0_allLoans 3 (some .int), Cond.methodLink RX3 153 yX0_allShown, Cond.instanceMethod yX0_allShown, Cond.selects RX0 yX0_allShown yX0_allShown, Cond.code yX0_allShown cX0_allShown 3 (some .int), Cond.methodLink RX3 156 yJ9_floorMod_7cf53, Cond.static yJ9_floorMod_7cf53, Cond.initialized RJ9, Cond.code yJ9_floorMod_7cf53 cJ9_floorMod_7cf53 3 (some .int), Cond.methodLink RX3 161 yX0_rodsOutOfOrder, Cond.instanceMethod yX0_rodsOutOfOrder, Cond.selects RX0 yX0_rodsOutOfOrder yX0_rodsOutOfOrder, Cond.code yX0_rodsOutOfOrder cX0_rodsOutOfOrder 3 (some .int), Cond.methodLink RX3 164 yX0_rodsWithStuck, Cond.instanceMethod yX0_rodsWithStuck, Cond.selects RX0 yX0_rodsWithStuck yX0_rodsWithStuck, Cond.code yX0_rodsWithStuck cX0_rodsWithStuck 3 (some .int)]
def wsL_law0_r10a : List Cond := [Cond.methodLink RL 60 yL_power, Cond.static yL_power, Cond.code yL_power cL_power 4 (some .long), Cond.constantLong RL 49 (10), Cond.methodLink RL 64 yX3_undo, Cond.instanceMethod yX3_undo, Cond.selects RX3 yX3_undo yX3_undo, Cond.code yX3_undo cX3_undo 1 (some .int), Cond.methodLink RX3 121 yX1_restore, Cond.instanceMethod yX1_restore, Cond.selects RX1 yX1_restore yX1_restore, Cond.code yX1_restore cX1_restore 2 none, Cond.methodLink RL 90 yL_areRodsSo, Cond.static yL_areRodsSo]
def wsL_law0_r10b : List Cond := [Cond.code yL_areRodsSo cL_areRodsSo 21 (some .boolean)]
def wsL_law0_r10c : List Cond := [Cond.constantLong RL 51 (9), Cond.methodLink RL 46 yX3_moves, Cond.instanceMethod yX3_moves, Cond.selects RX3 yX3_moves yX3_moves, Cond.code yX3_moves cX3_moves 3 (some .int), Cond.methodLink RX3 167 yX0_turn, Cond.methodLink RL 94 yL_arePaidSo, Cond.static yL_arePaidSo]
def wsL_law0_r10d : List Cond := [Cond.code yL_arePaidSo cL_arePaidSo 12 (some .boolean)]
def wsL_law0_r10 : List Cond := wsL_law0_r10a ++ (wsL_law0_r10b ++ (wsL_law0_r10c ++ wsL_law0_r10d))
def wsL_law0_r11 : List Cond := [Cond.methodLink RL 67 yX3_cheapestLoan, Cond.instanceMethod yX3_cheapestLoan, Cond.selects RX3 yX3_cheapestLoan yX3_cheapestLoan, Cond.code yX3_cheapestLoan cX3_cheapestLoan 5 (some .int), Cond.methodLink RL 98 yL_isShownSo, Cond.static yL_isShownSo, Cond.code yL_isShownSo cL_isShownSo 7 (some .boolean), Cond.methodLink RL 70 yX3_toShow, Cond.instanceMethod yX3_toShow, Cond.selects RX3 yX3_toShow yX3_toShow, Cond.code yX3_toShow cX3_toShow 6 (some .int), Cond.constant RX3 170 (999999999), Cond.methodLink RL 73 yX3_looseness, Cond.instanceMethod yX3_looseness, Cond.selects RX3 yX3_looseness yX3_looseness, Cond.code yX3_looseness cX3_looseness 3 (some .double), Cond.constantDouble RX3 171 (4639270566145032192)]
def wsL_law0 : List Cond := (wsL_law0_r1 ++ (wsL_law0_r2 ++ (wsL_law0_r3 ++ (wsL_law0_r4 ++ (wsL_law0_r5 ++ (wsL_law0_r6 ++ (wsL_law0_r7 ++ (wsL_law0_r8 ++ (wsL_law0_r9 ++ (wsL_law0_r10 ++ wsL_law0_r11)))))))))) ++ wsX30 ++ wsX00 ++ wsX10 ++ wsX20 ++ ([] : List Cond)
def wsL_law : List Cond := wsL_law0 ++ (vx_atS RX3 214 "java/lang/IndexOutOfBoundsException" ["java/lang/RuntimeException", "java/lang/Exception"]).filter goodWord ++ (vx_atS RX3 105 "java/lang/IllegalArgumentException" ["java/lang/RuntimeException", "java/lang/Exception"]).filter goodWord ++ (vx_atS RX3 46 "java/lang/IllegalStateException" ["java/lang/RuntimeException", "java/lang/Exception"]).filter goodWord
abbrev vwCl : List vw_C := [(RX0, TX0, 7), (RX1, TX1, 3), (RX2, TX2, 2), (RX3, TX3, 3)]
end
section
theorem mem_at {big ws : List Cond} (ps : List Nat) (hp : ws = ps.filterMap (fun i => big[i]?)) : ∀ w ∈ ws, w ∈ big := by
  intro w hw
  rw [hp] at hw
  obtain ⟨i, -, hi⟩ := List.mem_filterMap.mp hw
  exact List.mem_of_getElem? hi
theorem in_wsL_law0_r1 : ∀ w ∈ wsL_law0_r1, w ∈ lw_tbl := mem_at [14, 15, 3, 395, 16, 17, 18, 19, 20, 21, 22, 23, 4, 91, 58, 59, 5, 92, 78, 79, 6, 93, 24, 25] (by decide +kernel)
theorem in_wsL_law0_r2 : ∀ w ∈ wsL_law0_r2, w ∈ lw_tbl := mem_at [26, 27, 57, 28, 30, 32, 34, 36, 38, 40, 60, 61, 62, 63, 64, 67, 68, 69, 66, 80, 81, 82, 83, 84] (by decide +kernel)
theorem in_wsL_law0_r3 : ∀ w ∈ wsL_law0_r3, w ∈ lw_tbl := mem_at [85, 110, 111, 2, 112, 101, 102, 103, 104, 35, 109, 105, 106, 107, 108, 117, 118, 119, 113, 114, 115, 116, 120, 121] (by decide +kernel)
theorem in_wsL_law0_r4 : ∀ w ∈ wsL_law0_r4, w ∈ lw_tbl := mem_at [122, 123, 29, 31, 33, 37, 39, 124, 125, 126, 127, 10, 195, 196, 197, 198, 11, 214, 215, 216, 217, 218, 219, 220] (by decide +kernel)
theorem in_wsL_law0_r5 : ∀ w ∈ wsL_law0_r5, w ∈ lw_tbl := mem_at [221, 222, 223, 224, 225, 226, 227, 12, 228, 229, 230, 231, 232, 233, 234, 235, 236, 238, 13, 237, 254, 255, 256, 257] (by decide +kernel)
theorem in_wsL_law0_r6 : ∀ w ∈ wsL_law0_r6, w ∈ lw_tbl := mem_at [258, 259, 260, 261, 262, 263, 264, 265, 266, 267, 268, 269, 270, 41, 271, 272, 273, 274, 275, 276, 277, 278, 279, 280] (by decide +kernel)
theorem in_wsL_law0_r7 : ∀ w ∈ wsL_law0_r7, w ∈ lw_tbl := mem_at [281, 282, 283, 284, 285, 286, 287, 288, 289, 290, 291, 292, 293, 294, 295, 296, 297, 298, 299, 300, 302, 303, 304, 305] (by decide +kernel)
theorem in_wsL_law0_r8 : ∀ w ∈ wsL_law0_r8, w ∈ lw_tbl := mem_at [306, 307, 308, 309, 310, 312, 1, 313, 315, 316, 317, 318, 360, 361, 362, 329, 330, 331, 332, 70, 333, 334, 335, 336] (by decide +kernel)
theorem in_wsL_law0_r9 : ∀ w ∈ wsL_law0_r9, w ∈ lw_tbl := mem_at [337, 338, 339, 340, 341, 342, 343, 344, 345, 346, 347, 348, 349, 350, 12, 351, 352, 353, 354, 355, 356, 357, 358, 359] (by decide +kernel)
theorem in_wsL_law0_r10a : ∀ w ∈ wsL_law0_r10a, w ∈ lw_tbl := mem_at [363, 364, 365, 327, 366, 367, 368, 369, 371, 372, 373, 374, 319, 320] (by decide +kernel)
theorem in_wsL_law0_r10b : ∀ w ∈ wsL_law0_r10b, w ∈ lw_tbl := fun w h => (List.mem_singleton.mp h) ▸ List.mem_of_getElem? (i := 321) (by rfl)
theorem in_wsL_law0_r10c : ∀ w ∈ wsL_law0_r10c, w ∈ lw_tbl := mem_at [328, 322, 323, 324, 325, 326, 375, 376] (by decide +kernel)
theorem in_wsL_law0_r10d : ∀ w ∈ wsL_law0_r10d, w ∈ lw_tbl := fun w h => (List.mem_singleton.mp h) ▸ List.mem_of_getElem? (i := 377) (by rfl)
theorem in_wsL_law0_r10 : ∀ w ∈ wsL_law0_r10, w ∈ lw_tbl := fun w h => (List.mem_append.mp h).elim (fun h => in_wsL_law0_r10a w h) (fun h => (List.mem_append.mp h).elim (fun h => in_wsL_law0_r10b w h) (fun h => (List.mem_append.mp h).elim (fun h => in_wsL_law0_r10c w h) (fun h => in_wsL_law0_r10d w h)))
theorem in_wsL_law0_r11 : ∀ w ∈ wsL_law0_r11, w ∈ lw_tbl := mem_at [378, 379, 380, 381, 382, 383, 384, 385, 386, 387, 388, 389, 390, 391, 392, 393, 394] (by decide +kernel)
theorem in_wsX00 : ∀ w ∈ wsX00, w ∈ lw_tbl := mem_at [42, 44, 46, 48, 50, 52, 54] (by decide +kernel)
theorem in_wsX10 : ∀ w ∈ wsX10, w ∈ lw_tbl := mem_at [71, 73, 75] (by decide +kernel)
theorem in_wsX20 : ∀ w ∈ wsX20, w ∈ lw_tbl := mem_at [86, 88] (by decide +kernel)
theorem in_wsX30 : ∀ w ∈ wsX30, w ∈ lw_tbl := mem_at [94, 96, 98] (by decide +kernel)
theorem wsL_law_in0 : ∀ w ∈ wsL_law0, w ∈ lw_tbl := fun w h => (List.mem_append.mp h).elim (fun h => (fun w h => (List.mem_append.mp h).elim (fun h => (fun w h => (List.mem_append.mp h).elim (fun h => (fun w h => (List.mem_append.mp h).elim (fun h => (fun w h => (List.mem_append.mp h).elim (fun h => (fun w h => (List.mem_append.mp h).elim (fun h => in_wsL_law0_r1 w h) (fun h => (List.mem_append.mp h).elim (fun h => in_wsL_law0_r2 w h) (fun h => (List.mem_append.mp h).elim (fun h => in_wsL_law0_r3 w h) (fun h => (List.mem_append.mp h).elim (fun h => in_wsL_law0_r4 w h) (fun h => (List.mem_append.mp h).elim (fun h => in_wsL_law0_r5 w h) (fun h => (List.mem_append.mp h).elim (fun h => in_wsL_law0_r6 w h) (fun h => (List.mem_append.mp h).elim (fun h => in_wsL_law0_r7 w h) (fun h => (List.mem_append.mp h).elim (fun h => in_wsL_law0_r8 w h) (fun h => (List.mem_append.mp h).elim (fun h => in_wsL_law0_r9 w h) (fun h => (List.mem_append.mp h).elim (fun h => in_wsL_law0_r10 w h) (fun h => in_wsL_law0_r11 w h))))))))))) w h) (fun h => in_wsX30 w h)) w h) (fun h => in_wsX00 w h)) w h) (fun h => in_wsX10 w h)) w h) (fun h => in_wsX20 w h)) w h) (fun h => absurd h List.not_mem_nil)
theorem wsL_law_x0 : ∀ w ∈ (vx_atS RX3 214 "java/lang/IndexOutOfBoundsException" ["java/lang/RuntimeException", "java/lang/Exception"]).filter goodWord, w ∈ lw_tbl := by decide +kernel
theorem wsL_law_x1 : ∀ w ∈ (vx_atS RX3 105 "java/lang/IllegalArgumentException" ["java/lang/RuntimeException", "java/lang/Exception"]).filter goodWord, w ∈ lw_tbl := by decide +kernel
theorem wsL_law_x2 : ∀ w ∈ (vx_atS RX3 46 "java/lang/IllegalStateException" ["java/lang/RuntimeException", "java/lang/Exception"]).filter goodWord, w ∈ lw_tbl := by decide +kernel
theorem wsL_law_in : ∀ w ∈ wsL_law, w ∈ lw_tbl := fun w h => (List.mem_append.mp h).elim (fun h => (List.mem_append.mp h).elim (fun h => (List.mem_append.mp h).elim (fun h => wsL_law_in0 w h) (fun h => wsL_law_x0 w h)) (fun h => wsL_law_x1 w h)) (fun h => wsL_law_x2 w h)
theorem inlX0 : ∀ w ∈ wsX00, w ∈ wsL_law := fun _ h => List.mem_append_left _ (List.mem_append_left _ (List.mem_append_left _ (List.mem_append_left _ (List.mem_append_left _ (List.mem_append_left _ (List.mem_append_right _ h))))))
theorem inX0 : ∀ w ∈ wsX00, w ∈ lw_tbl := fun w h => wsL_law_in w (inlX0 w h)
theorem inlX1 : ∀ w ∈ wsX10, w ∈ wsL_law := fun _ h => List.mem_append_left _ (List.mem_append_left _ (List.mem_append_left _ (List.mem_append_left _ (List.mem_append_left _ (List.mem_append_right _ h)))))
theorem inX1 : ∀ w ∈ wsX10, w ∈ lw_tbl := fun w h => wsL_law_in w (inlX1 w h)
theorem inlX2 : ∀ w ∈ wsX20, w ∈ wsL_law := fun _ h => List.mem_append_left _ (List.mem_append_left _ (List.mem_append_left _ (List.mem_append_left _ (List.mem_append_right _ h))))
theorem inX2 : ∀ w ∈ wsX20, w ∈ lw_tbl := fun w h => wsL_law_in w (inlX2 w h)
theorem inlX3 : ∀ w ∈ wsX30, w ∈ wsL_law := fun _ h => List.mem_append_left _ (List.mem_append_left _ (List.mem_append_left _ (List.mem_append_left _ (List.mem_append_left _ (List.mem_append_left _ (List.mem_append_left _ (List.mem_append_right _ h)))))))
theorem inX3 : ∀ w ∈ wsX30, w ∈ lw_tbl := fun w h => wsL_law_in w (inlX3 w h)
theorem inX4 : ∀ w ∈ wsX40, w ∈ lw_tbl := by decide +kernel
theorem inJ9 : ∀ w ∈ wsJ90, w ∈ lw_tbl := by decide +kernel
theorem inJ0 : ∀ w ∈ wsJ00, w ∈ lw_tbl := by decide +kernel
end
section
theorem dX0_init_0 : decode cX0_init 0 = .ok (.aload_n 0, 1) := by decide +kernel
theorem dX0_init_1 : decode cX0_init 1 = .ok (.invokespecial 3, 3) := by decide +kernel
theorem dX0_init_4 : decode cX0_init 4 = .ok (.aload_n 0, 1) := by decide +kernel
theorem dX0_init_5 : decode cX0_init 5 = .ok (.bipush 9, 2) := by decide +kernel
theorem dX0_init_7 : decode cX0_init 7 = .ok (.newarray .int, 2) := by decide +kernel
theorem dX0_init_9 : decode cX0_init 9 = .ok (.putfield 9, 3) := by decide +kernel
theorem dX0_init_12 : decode cX0_init 12 = .ok (.aload_n 0, 1) := by decide +kernel
theorem dX0_init_13 : decode cX0_init 13 = .ok (.bipush 9, 2) := by decide +kernel
theorem dX0_init_15 : decode cX0_init 15 = .ok (.newarray .int, 2) := by decide +kernel
theorem dX0_init_17 : decode cX0_init 17 = .ok (.putfield 15, 3) := by decide +kernel
theorem dX0_init_20 : decode cX0_init 20 = .ok (.aload_n 0, 1) := by decide +kernel
theorem dX0_init_21 : decode cX0_init 21 = .ok (.bipush 9, 2) := by decide +kernel
theorem dX0_init_23 : decode cX0_init 23 = .ok (.newarray .int, 2) := by decide +kernel
theorem dX0_init_25 : decode cX0_init 25 = .ok (.putfield 18, 3) := by decide +kernel
theorem dX0_init_28 : decode cX0_init 28 = .ok (.aload_n 0, 1) := by decide +kernel
theorem dX0_init_29 : decode cX0_init 29 = .ok (.bipush 9, 2) := by decide +kernel
theorem dX0_init_31 : decode cX0_init 31 = .ok (.newarray .int, 2) := by decide +kernel
theorem dX0_init_33 : decode cX0_init 33 = .ok (.putfield 21, 3) := by decide +kernel
theorem dX0_init_36 : decode cX0_init 36 = .ok (.aload_n 0, 1) := by decide +kernel
theorem dX0_init_37 : decode cX0_init 37 = .ok (.bipush 9, 2) := by decide +kernel
theorem dX0_init_39 : decode cX0_init 39 = .ok (.newarray .int, 2) := by decide +kernel
theorem dX0_init_41 : decode cX0_init 41 = .ok (.putfield 24, 3) := by decide +kernel
theorem dX0_init_44 : decode cX0_init 44 = .ok (.aload_n 0, 1) := by decide +kernel
theorem dX0_init_45 : decode cX0_init 45 = .ok (.bipush 9, 2) := by decide +kernel
theorem dX0_init_47 : decode cX0_init 47 = .ok (.newarray .int, 2) := by decide +kernel
theorem dX0_init_49 : decode cX0_init 49 = .ok (.putfield 27, 3) := by decide +kernel
theorem dX0_init_52 : decode cX0_init 52 = .ok (.aload_n 0, 1) := by decide +kernel
theorem dX0_init_53 : decode cX0_init 53 = .ok (.iconst 3, 1) := by decide +kernel
theorem dX0_init_54 : decode cX0_init 54 = .ok (.putfield 30, 3) := by decide +kernel
theorem dX0_init_57 : decode cX0_init 57 = .ok (.return_, 1) := by decide +kernel
theorem dX0_copyFrom_0 : decode cX0_copyFrom 0 = .ok (.iconst 0, 1) := by decide +kernel
theorem dX0_copyFrom_1 : decode cX0_copyFrom 1 = .ok (.istore_n 2, 1) := by decide +kernel
theorem dX0_copyFrom_2 : decode cX0_copyFrom 2 = .ok (.iload_n 2, 1) := by decide +kernel
theorem dX0_copyFrom_3 : decode cX0_copyFrom 3 = .ok (.bipush 9, 2) := by decide +kernel
theorem dX0_copyFrom_5 : decode cX0_copyFrom 5 = .ok (.if_icmp .ge 81, 3) := by decide +kernel
theorem dX0_copyFrom_8 : decode cX0_copyFrom 8 = .ok (.aload_n 0, 1) := by decide +kernel
theorem dX0_copyFrom_9 : decode cX0_copyFrom 9 = .ok (.getfield 9, 3) := by decide +kernel
theorem dX0_copyFrom_12 : decode cX0_copyFrom 12 = .ok (.iload_n 2, 1) := by decide +kernel
theorem dX0_copyFrom_13 : decode cX0_copyFrom 13 = .ok (.aload_n 1, 1) := by decide +kernel
theorem dX0_copyFrom_14 : decode cX0_copyFrom 14 = .ok (.getfield 9, 3) := by decide +kernel
theorem dX0_copyFrom_17 : decode cX0_copyFrom 17 = .ok (.iload_n 2, 1) := by decide +kernel
theorem dX0_copyFrom_18 : decode cX0_copyFrom 18 = .ok (.iaload, 1) := by decide +kernel
theorem dX0_copyFrom_19 : decode cX0_copyFrom 19 = .ok (.iastore, 1) := by decide +kernel
theorem dX0_copyFrom_20 : decode cX0_copyFrom 20 = .ok (.aload_n 0, 1) := by decide +kernel
theorem dX0_copyFrom_21 : decode cX0_copyFrom 21 = .ok (.getfield 15, 3) := by decide +kernel
theorem dX0_copyFrom_24 : decode cX0_copyFrom 24 = .ok (.iload_n 2, 1) := by decide +kernel
theorem dX0_copyFrom_25 : decode cX0_copyFrom 25 = .ok (.aload_n 1, 1) := by decide +kernel
theorem dX0_copyFrom_26 : decode cX0_copyFrom 26 = .ok (.getfield 15, 3) := by decide +kernel
theorem dX0_copyFrom_29 : decode cX0_copyFrom 29 = .ok (.iload_n 2, 1) := by decide +kernel
theorem dX0_copyFrom_30 : decode cX0_copyFrom 30 = .ok (.iaload, 1) := by decide +kernel
theorem dX0_copyFrom_31 : decode cX0_copyFrom 31 = .ok (.iastore, 1) := by decide +kernel
theorem dX0_copyFrom_32 : decode cX0_copyFrom 32 = .ok (.aload_n 0, 1) := by decide +kernel
theorem dX0_copyFrom_33 : decode cX0_copyFrom 33 = .ok (.getfield 18, 3) := by decide +kernel
theorem dX0_copyFrom_36 : decode cX0_copyFrom 36 = .ok (.iload_n 2, 1) := by decide +kernel
theorem dX0_copyFrom_37 : decode cX0_copyFrom 37 = .ok (.aload_n 1, 1) := by decide +kernel
theorem dX0_copyFrom_38 : decode cX0_copyFrom 38 = .ok (.getfield 18, 3) := by decide +kernel
theorem dX0_copyFrom_41 : decode cX0_copyFrom 41 = .ok (.iload_n 2, 1) := by decide +kernel
theorem dX0_copyFrom_42 : decode cX0_copyFrom 42 = .ok (.iaload, 1) := by decide +kernel
theorem dX0_copyFrom_43 : decode cX0_copyFrom 43 = .ok (.iastore, 1) := by decide +kernel
theorem dX0_copyFrom_44 : decode cX0_copyFrom 44 = .ok (.aload_n 0, 1) := by decide +kernel
theorem dX0_copyFrom_45 : decode cX0_copyFrom 45 = .ok (.getfield 21, 3) := by decide +kernel
theorem dX0_copyFrom_48 : decode cX0_copyFrom 48 = .ok (.iload_n 2, 1) := by decide +kernel
theorem dX0_copyFrom_49 : decode cX0_copyFrom 49 = .ok (.aload_n 1, 1) := by decide +kernel
theorem dX0_copyFrom_50 : decode cX0_copyFrom 50 = .ok (.getfield 21, 3) := by decide +kernel
theorem dX0_copyFrom_53 : decode cX0_copyFrom 53 = .ok (.iload_n 2, 1) := by decide +kernel
theorem dX0_copyFrom_54 : decode cX0_copyFrom 54 = .ok (.iaload, 1) := by decide +kernel
theorem dX0_copyFrom_55 : decode cX0_copyFrom 55 = .ok (.iastore, 1) := by decide +kernel
theorem dX0_copyFrom_56 : decode cX0_copyFrom 56 = .ok (.aload_n 0, 1) := by decide +kernel
theorem dX0_copyFrom_57 : decode cX0_copyFrom 57 = .ok (.getfield 24, 3) := by decide +kernel
theorem dX0_copyFrom_60 : decode cX0_copyFrom 60 = .ok (.iload_n 2, 1) := by decide +kernel
theorem dX0_copyFrom_61 : decode cX0_copyFrom 61 = .ok (.aload_n 1, 1) := by decide +kernel
theorem dX0_copyFrom_62 : decode cX0_copyFrom 62 = .ok (.getfield 24, 3) := by decide +kernel
theorem dX0_copyFrom_65 : decode cX0_copyFrom 65 = .ok (.iload_n 2, 1) := by decide +kernel
theorem dX0_copyFrom_66 : decode cX0_copyFrom 66 = .ok (.iaload, 1) := by decide +kernel
theorem dX0_copyFrom_67 : decode cX0_copyFrom 67 = .ok (.iastore, 1) := by decide +kernel
theorem dX0_copyFrom_68 : decode cX0_copyFrom 68 = .ok (.aload_n 0, 1) := by decide +kernel
theorem dX0_copyFrom_69 : decode cX0_copyFrom 69 = .ok (.getfield 27, 3) := by decide +kernel
theorem dX0_copyFrom_72 : decode cX0_copyFrom 72 = .ok (.iload_n 2, 1) := by decide +kernel
theorem dX0_copyFrom_73 : decode cX0_copyFrom 73 = .ok (.aload_n 1, 1) := by decide +kernel
theorem dX0_copyFrom_74 : decode cX0_copyFrom 74 = .ok (.getfield 27, 3) := by decide +kernel
theorem dX0_copyFrom_77 : decode cX0_copyFrom 77 = .ok (.iload_n 2, 1) := by decide +kernel
theorem dX0_copyFrom_78 : decode cX0_copyFrom 78 = .ok (.iaload, 1) := by decide +kernel
theorem dX0_copyFrom_79 : decode cX0_copyFrom 79 = .ok (.iastore, 1) := by decide +kernel
theorem dX0_copyFrom_80 : decode cX0_copyFrom 80 = .ok (.iinc 2 1, 3) := by decide +kernel
theorem dX0_copyFrom_83 : decode cX0_copyFrom 83 = .ok (.goto (-81), 3) := by decide +kernel
theorem dX0_copyFrom_86 : decode cX0_copyFrom 86 = .ok (.aload_n 0, 1) := by decide +kernel
theorem dX0_copyFrom_87 : decode cX0_copyFrom 87 = .ok (.aload_n 1, 1) := by decide +kernel
theorem dX0_copyFrom_88 : decode cX0_copyFrom 88 = .ok (.getfield 30, 3) := by decide +kernel
theorem dX0_copyFrom_91 : decode cX0_copyFrom 91 = .ok (.putfield 30, 3) := by decide +kernel
theorem dX0_copyFrom_94 : decode cX0_copyFrom 94 = .ok (.return_, 1) := by decide +kernel
theorem dX0_shown_0 : decode cX0_shown 0 = .ok (.iconst 5, 1) := by decide +kernel
theorem dX0_shown_1 : decode cX0_shown 1 = .ok (.aload_n 0, 1) := by decide +kernel
theorem dX0_shown_2 : decode cX0_shown 2 = .ok (.getfield 9, 3) := by decide +kernel
theorem dX0_shown_5 : decode cX0_shown 5 = .ok (.iload_n 1, 1) := by decide +kernel
theorem dX0_shown_6 : decode cX0_shown 6 = .ok (.iaload, 1) := by decide +kernel
theorem dX0_shown_7 : decode cX0_shown 7 = .ok (.imul, 1) := by decide +kernel
theorem dX0_shown_8 : decode cX0_shown 8 = .ok (.aload_n 0, 1) := by decide +kernel
theorem dX0_shown_9 : decode cX0_shown 9 = .ok (.getfield 15, 3) := by decide +kernel
theorem dX0_shown_12 : decode cX0_shown 12 = .ok (.iload_n 1, 1) := by decide +kernel
theorem dX0_shown_13 : decode cX0_shown 13 = .ok (.iaload, 1) := by decide +kernel
theorem dX0_shown_14 : decode cX0_shown 14 = .ok (.iadd, 1) := by decide +kernel
theorem dX0_shown_15 : decode cX0_shown 15 = .ok (.ireturn, 1) := by decide +kernel
theorem dX0_movesBy_0 : decode cX0_movesBy 0 = .ok (.iload_n 3, 1) := by decide +kernel
theorem dX0_movesBy_1 : decode cX0_movesBy 1 = .ok (.ifCond .lt 8, 3) := by decide +kernel
theorem dX0_movesBy_4 : decode cX0_movesBy 4 = .ok (.iload_n 3, 1) := by decide +kernel
theorem dX0_movesBy_5 : decode cX0_movesBy 5 = .ok (.iconst 5, 1) := by decide +kernel
theorem dX0_movesBy_6 : decode cX0_movesBy 6 = .ok (.if_icmp .le 5, 3) := by decide +kernel
theorem dX0_movesBy_9 : decode cX0_movesBy 9 = .ok (.iconst (-1), 1) := by decide +kernel
theorem dX0_movesBy_10 : decode cX0_movesBy 10 = .ok (.ireturn, 1) := by decide +kernel
theorem dX0_movesBy_11 : decode cX0_movesBy 11 = .ok (.iload_n 2, 1) := by decide +kernel
theorem dX0_movesBy_12 : decode cX0_movesBy 12 = .ok (.aload_n 0, 1) := by decide +kernel
theorem dX0_movesBy_13 : decode cX0_movesBy 13 = .ok (.getfield 9, 3) := by decide +kernel
theorem dX0_movesBy_16 : decode cX0_movesBy 16 = .ok (.iload_n 1, 1) := by decide +kernel
theorem dX0_movesBy_17 : decode cX0_movesBy 17 = .ok (.iaload, 1) := by decide +kernel
theorem dX0_movesBy_18 : decode cX0_movesBy 18 = .ok (.isub, 1) := by decide +kernel
theorem dX0_movesBy_19 : decode cX0_movesBy 19 = .ok (.invokestatic 34, 3) := by decide +kernel
theorem dX0_movesBy_22 : decode cX0_movesBy 22 = .ok (.istore 4, 2) := by decide +kernel
theorem dX0_movesBy_24 : decode cX0_movesBy 24 = .ok (.iload_n 3, 1) := by decide +kernel
theorem dX0_movesBy_25 : decode cX0_movesBy 25 = .ok (.aload_n 0, 1) := by decide +kernel
theorem dX0_movesBy_26 : decode cX0_movesBy 26 = .ok (.getfield 15, 3) := by decide +kernel
theorem dX0_movesBy_29 : decode cX0_movesBy 29 = .ok (.iload_n 1, 1) := by decide +kernel
theorem dX0_movesBy_30 : decode cX0_movesBy 30 = .ok (.iaload, 1) := by decide +kernel
theorem dX0_movesBy_31 : decode cX0_movesBy 31 = .ok (.isub, 1) := by decide +kernel
theorem dX0_movesBy_32 : decode cX0_movesBy 32 = .ok (.invokestatic 34, 3) := by decide +kernel
theorem dX0_movesBy_35 : decode cX0_movesBy 35 = .ok (.istore 5, 2) := by decide +kernel
theorem dX0_movesBy_37 : decode cX0_movesBy 37 = .ok (.iload 4, 2) := by decide +kernel
theorem dX0_movesBy_39 : decode cX0_movesBy 39 = .ok (.ifCond .le 16, 3) := by decide +kernel
theorem dX0_movesBy_42 : decode cX0_movesBy 42 = .ok (.aload_n 0, 1) := by decide +kernel
theorem dX0_movesBy_43 : decode cX0_movesBy 43 = .ok (.getfield 18, 3) := by decide +kernel
theorem dX0_movesBy_46 : decode cX0_movesBy 46 = .ok (.iload_n 1, 1) := by decide +kernel
theorem dX0_movesBy_47 : decode cX0_movesBy 47 = .ok (.iaload, 1) := by decide +kernel
theorem dX0_movesBy_48 : decode cX0_movesBy 48 = .ok (.iconst 1, 1) := by decide +kernel
theorem dX0_movesBy_49 : decode cX0_movesBy 49 = .ok (.iand, 1) := by decide +kernel
theorem dX0_movesBy_50 : decode cX0_movesBy 50 = .ok (.ifCond .eq 5, 3) := by decide +kernel
theorem dX0_movesBy_53 : decode cX0_movesBy 53 = .ok (.iconst (-1), 1) := by decide +kernel
theorem dX0_movesBy_54 : decode cX0_movesBy 54 = .ok (.ireturn, 1) := by decide +kernel
theorem dX0_movesBy_55 : decode cX0_movesBy 55 = .ok (.iload 5, 2) := by decide +kernel
theorem dX0_movesBy_57 : decode cX0_movesBy 57 = .ok (.ifCond .le 16, 3) := by decide +kernel
theorem dX0_movesBy_60 : decode cX0_movesBy 60 = .ok (.aload_n 0, 1) := by decide +kernel
theorem dX0_movesBy_61 : decode cX0_movesBy 61 = .ok (.getfield 18, 3) := by decide +kernel
theorem dX0_movesBy_64 : decode cX0_movesBy 64 = .ok (.iload_n 1, 1) := by decide +kernel
theorem dX0_movesBy_65 : decode cX0_movesBy 65 = .ok (.iaload, 1) := by decide +kernel
theorem dX0_movesBy_66 : decode cX0_movesBy 66 = .ok (.iconst 2, 1) := by decide +kernel
theorem dX0_movesBy_67 : decode cX0_movesBy 67 = .ok (.iand, 1) := by decide +kernel
theorem dX0_movesBy_68 : decode cX0_movesBy 68 = .ok (.ifCond .eq 5, 3) := by decide +kernel
theorem dX0_movesBy_71 : decode cX0_movesBy 71 = .ok (.iconst (-1), 1) := by decide +kernel
theorem dX0_movesBy_72 : decode cX0_movesBy 72 = .ok (.ireturn, 1) := by decide +kernel
theorem dX0_movesBy_73 : decode cX0_movesBy 73 = .ok (.iload 4, 2) := by decide +kernel
theorem dX0_movesBy_75 : decode cX0_movesBy 75 = .ok (.iload 5, 2) := by decide +kernel
theorem dX0_movesBy_77 : decode cX0_movesBy 77 = .ok (.iadd, 1) := by decide +kernel
theorem dX0_movesBy_78 : decode cX0_movesBy 78 = .ok (.ireturn, 1) := by decide +kernel
theorem dX0_place_0 : decode cX0_place 0 = .ok (.aload_n 0, 1) := by decide +kernel
theorem dX0_place_1 : decode cX0_place 1 = .ok (.getfield 9, 3) := by decide +kernel
theorem dX0_place_4 : decode cX0_place 4 = .ok (.iload_n 1, 1) := by decide +kernel
theorem dX0_place_5 : decode cX0_place 5 = .ok (.iload_n 2, 1) := by decide +kernel
theorem dX0_place_6 : decode cX0_place 6 = .ok (.iastore, 1) := by decide +kernel
theorem dX0_place_7 : decode cX0_place 7 = .ok (.aload_n 0, 1) := by decide +kernel
theorem dX0_place_8 : decode cX0_place 8 = .ok (.getfield 15, 3) := by decide +kernel
theorem dX0_place_11 : decode cX0_place 11 = .ok (.iload_n 1, 1) := by decide +kernel
theorem dX0_place_12 : decode cX0_place 12 = .ok (.iload_n 3, 1) := by decide +kernel
theorem dX0_place_13 : decode cX0_place 13 = .ok (.iastore, 1) := by decide +kernel
theorem dX0_place_14 : decode cX0_place 14 = .ok (.aload_n 0, 1) := by decide +kernel
theorem dX0_place_15 : decode cX0_place 15 = .ok (.getfield 24, 3) := by decide +kernel
theorem dX0_place_18 : decode cX0_place 18 = .ok (.iload_n 1, 1) := by decide +kernel
theorem dX0_place_19 : decode cX0_place 19 = .ok (.dup2, 1) := by decide +kernel
theorem dX0_place_20 : decode cX0_place 20 = .ok (.iaload, 1) := by decide +kernel
theorem dX0_place_21 : decode cX0_place 21 = .ok (.iload 4, 2) := by decide +kernel
theorem dX0_place_23 : decode cX0_place 23 = .ok (.iadd, 1) := by decide +kernel
theorem dX0_place_24 : decode cX0_place 24 = .ok (.iastore, 1) := by decide +kernel
theorem dX0_place_25 : decode cX0_place 25 = .ok (.return_, 1) := by decide +kernel
set_option maxRecDepth 20000 in
theorem ggX0_turn_X0_movesBy : GoodIn wsX0_turn wsX0_movesBy := goodIn_r _ [5, 6, 7, 8, 9, 10, 11, 12, 18, 19, 20, 21, 22, 23, 24] (by decide +kernel) (by decide +kernel)
set_option maxRecDepth 20000 in
theorem gX0_turn_X0_movesBy : GoodIn wsX0_turn (wsV RX0 40 RX0 yX0_movesBy wsX0_movesBy) := goodIn_app (goodIn_of _ (by decide +kernel)) ggX0_turn_X0_movesBy
set_option maxRecDepth 20000 in
theorem ggX0_turn_X0_place : GoodIn wsX0_turn wsX0_place := goodIn_r _ [16, 6, 11, 17, 18, 19, 20, 21, 22, 23, 24] (by decide +kernel) (by decide +kernel)
set_option maxRecDepth 20000 in
theorem gX0_turn_X0_place : GoodIn wsX0_turn (wsV RX0 44 RX0 yX0_place wsX0_place) := goodIn_app (goodIn_of _ (by decide +kernel)) ggX0_turn_X0_place
theorem dX0_turn_0 : decode cX0_turn 0 = .ok (.iconst (-1), 1) := by decide +kernel
theorem dX0_turn_1 : decode cX0_turn 1 = .ok (.istore 4, 2) := by decide +kernel
theorem dX0_turn_3 : decode cX0_turn 3 = .ok (.iconst 0, 1) := by decide +kernel
theorem dX0_turn_4 : decode cX0_turn 4 = .ok (.istore 5, 2) := by decide +kernel
theorem dX0_turn_6 : decode cX0_turn 6 = .ok (.iconst 2, 1) := by decide +kernel
theorem dX0_turn_7 : decode cX0_turn 7 = .ok (.istore 6, 2) := by decide +kernel
theorem dX0_turn_9 : decode cX0_turn 9 = .ok (.iload 6, 2) := by decide +kernel
theorem dX0_turn_11 : decode cX0_turn 11 = .ok (.ifCond .lt 51, 3) := by decide +kernel
theorem dX0_turn_14 : decode cX0_turn 14 = .ok (.aload_n 0, 1) := by decide +kernel
theorem dX0_turn_15 : decode cX0_turn 15 = .ok (.iload_n 1, 1) := by decide +kernel
theorem dX0_turn_16 : decode cX0_turn 16 = .ok (.iload 6, 2) := by decide +kernel
theorem dX0_turn_18 : decode cX0_turn 18 = .ok (.iload_n 2, 1) := by decide +kernel
theorem dX0_turn_19 : decode cX0_turn 19 = .ok (.iconst 5, 1) := by decide +kernel
theorem dX0_turn_20 : decode cX0_turn 20 = .ok (.iload 6, 2) := by decide +kernel
theorem dX0_turn_22 : decode cX0_turn 22 = .ok (.imul, 1) := by decide +kernel
theorem dX0_turn_23 : decode cX0_turn 23 = .ok (.isub, 1) := by decide +kernel
theorem dX0_turn_24 : decode cX0_turn 24 = .ok (.invokevirtual 40, 3) := by decide +kernel
theorem dX0_turn_27 : decode cX0_turn 27 = .ok (.istore 7, 2) := by decide +kernel
theorem dX0_turn_29 : decode cX0_turn 29 = .ok (.iload 7, 2) := by decide +kernel
theorem dX0_turn_31 : decode cX0_turn 31 = .ok (.iconst (-1), 1) := by decide +kernel
theorem dX0_turn_32 : decode cX0_turn 32 = .ok (.if_icmp .eq 24, 3) := by decide +kernel
theorem dX0_turn_35 : decode cX0_turn 35 = .ok (.iload 4, 2) := by decide +kernel
theorem dX0_turn_37 : decode cX0_turn 37 = .ok (.iconst (-1), 1) := by decide +kernel
theorem dX0_turn_38 : decode cX0_turn 38 = .ok (.if_icmp .eq 10, 3) := by decide +kernel
theorem dX0_turn_41 : decode cX0_turn 41 = .ok (.iload 7, 2) := by decide +kernel
theorem dX0_turn_43 : decode cX0_turn 43 = .ok (.iload 4, 2) := by decide +kernel
theorem dX0_turn_45 : decode cX0_turn 45 = .ok (.if_icmp .ge 11, 3) := by decide +kernel
theorem dX0_turn_48 : decode cX0_turn 48 = .ok (.iload 7, 2) := by decide +kernel
theorem dX0_turn_50 : decode cX0_turn 50 = .ok (.istore 4, 2) := by decide +kernel
theorem dX0_turn_52 : decode cX0_turn 52 = .ok (.iload 6, 2) := by decide +kernel
theorem dX0_turn_54 : decode cX0_turn 54 = .ok (.istore 5, 2) := by decide +kernel
theorem dX0_turn_56 : decode cX0_turn 56 = .ok (.iinc 6 (-1), 3) := by decide +kernel
theorem dX0_turn_59 : decode cX0_turn 59 = .ok (.goto (-50), 3) := by decide +kernel
theorem dX0_turn_62 : decode cX0_turn 62 = .ok (.iload_n 3, 1) := by decide +kernel
theorem dX0_turn_63 : decode cX0_turn 63 = .ok (.ifCond .eq 24, 3) := by decide +kernel
theorem dX0_turn_66 : decode cX0_turn 66 = .ok (.iload 4, 2) := by decide +kernel
theorem dX0_turn_68 : decode cX0_turn 68 = .ok (.iconst (-1), 1) := by decide +kernel
theorem dX0_turn_69 : decode cX0_turn 69 = .ok (.if_icmp .eq 18, 3) := by decide +kernel
theorem dX0_turn_72 : decode cX0_turn 72 = .ok (.aload_n 0, 1) := by decide +kernel
theorem dX0_turn_73 : decode cX0_turn 73 = .ok (.iload_n 1, 1) := by decide +kernel
theorem dX0_turn_74 : decode cX0_turn 74 = .ok (.iload 5, 2) := by decide +kernel
theorem dX0_turn_76 : decode cX0_turn 76 = .ok (.iload_n 2, 1) := by decide +kernel
theorem dX0_turn_77 : decode cX0_turn 77 = .ok (.iconst 5, 1) := by decide +kernel
theorem dX0_turn_78 : decode cX0_turn 78 = .ok (.iload 5, 2) := by decide +kernel
theorem dX0_turn_80 : decode cX0_turn 80 = .ok (.imul, 1) := by decide +kernel
theorem dX0_turn_81 : decode cX0_turn 81 = .ok (.isub, 1) := by decide +kernel
theorem dX0_turn_82 : decode cX0_turn 82 = .ok (.iload 4, 2) := by decide +kernel
theorem dX0_turn_84 : decode cX0_turn 84 = .ok (.invokevirtual 44, 3) := by decide +kernel
theorem dX0_turn_87 : decode cX0_turn 87 = .ok (.iload 4, 2) := by decide +kernel
theorem dX0_turn_89 : decode cX0_turn 89 = .ok (.ireturn, 1) := by decide +kernel
set_option maxRecDepth 20000 in
theorem ggX0_change_X0_shown : GoodIn wsX0_change wsX0_shown := goodIn_r _ [5, 6, 7, 37, 38, 39, 40, 41, 42, 43] (by decide +kernel) (by decide +kernel)
set_option maxRecDepth 20000 in
theorem gX0_change_X0_shown : GoodIn wsX0_change (wsV RX0 48 RX0 yX0_shown wsX0_shown) := goodIn_app (goodIn_of _ (by decide +kernel)) ggX0_change_X0_shown
set_option maxRecDepth 20000 in
theorem ggX0_change_X0_turn : GoodIn wsX0_change wsX0_turn := goodIn_r _ [11, 12, 13, 14, 4, 15, 6, 16, 17, 18, 19, 7, 20, 21, 22, 23, 24, 25, 37, 38, 39, 40, 41, 42, 43] (by decide +kernel) (by decide +kernel)
set_option maxRecDepth 20000 in
theorem gX0_change_X0_turn : GoodIn wsX0_change (wsV RX0 51 RX0 yX0_turn wsX0_turn) := goodIn_app (goodIn_of _ (by decide +kernel)) ggX0_change_X0_turn
set_option maxRecDepth 20000 in
theorem ggX0_change_X0_turnAndCarry : GoodIn wsX0_change wsX0_turnAndCarry := goodIn_r _ [29, 8, 9, 10, 4, 11, 12, 13, 14, 15, 6, 16, 17, 18, 19, 7, 20, 21, 22, 23, 24, 25, 1, 2, 3, 5, 30, 31, 32, 33, 34, 35, 36, 37, 38, 39, 40, 41, 42, 43] (by decide +kernel) (by decide +kernel)
set_option maxRecDepth 20000 in
theorem gX0_change_X0_turnAndCarry : GoodIn wsX0_change (wsV RX0 55 RX0 yX0_turnAndCarry wsX0_turnAndCarry) := goodIn_app (goodIn_of _ (by decide +kernel)) ggX0_change_X0_turnAndCarry
theorem dX0_change_0 : decode cX0_change 0 = .ok (.iload_n 2, 1) := by decide +kernel
theorem dX0_change_1 : decode cX0_change 1 = .ok (.ifCond .ge 7, 3) := by decide +kernel
theorem dX0_change_4 : decode cX0_change 4 = .ok (.iconst (-1), 1) := by decide +kernel
theorem dX0_change_5 : decode cX0_change 5 = .ok (.goto 4, 3) := by decide +kernel
theorem dX0_change_8 : decode cX0_change 8 = .ok (.iconst 1, 1) := by decide +kernel
theorem dX0_change_9 : decode cX0_change 9 = .ok (.istore 4, 2) := by decide +kernel
theorem dX0_change_11 : decode cX0_change 11 = .ok (.aload_n 0, 1) := by decide +kernel
theorem dX0_change_12 : decode cX0_change 12 = .ok (.iload_n 1, 1) := by decide +kernel
theorem dX0_change_13 : decode cX0_change 13 = .ok (.aload_n 0, 1) := by decide +kernel
theorem dX0_change_14 : decode cX0_change 14 = .ok (.iload_n 1, 1) := by decide +kernel
theorem dX0_change_15 : decode cX0_change 15 = .ok (.invokevirtual 48, 3) := by decide +kernel
theorem dX0_change_18 : decode cX0_change 18 = .ok (.iload_n 2, 1) := by decide +kernel
theorem dX0_change_19 : decode cX0_change 19 = .ok (.iadd, 1) := by decide +kernel
theorem dX0_change_20 : decode cX0_change 20 = .ok (.iload_n 3, 1) := by decide +kernel
theorem dX0_change_21 : decode cX0_change 21 = .ok (.invokevirtual 51, 3) := by decide +kernel
theorem dX0_change_24 : decode cX0_change 24 = .ok (.istore 5, 2) := by decide +kernel
theorem dX0_change_26 : decode cX0_change 26 = .ok (.iload 5, 2) := by decide +kernel
theorem dX0_change_28 : decode cX0_change 28 = .ok (.iconst (-1), 1) := by decide +kernel
theorem dX0_change_29 : decode cX0_change 29 = .ok (.if_icmp .eq 6, 3) := by decide +kernel
theorem dX0_change_32 : decode cX0_change 32 = .ok (.iload 5, 2) := by decide +kernel
theorem dX0_change_34 : decode cX0_change 34 = .ok (.ireturn, 1) := by decide +kernel
theorem dX0_change_35 : decode cX0_change 35 = .ok (.aload_n 0, 1) := by decide +kernel
theorem dX0_change_36 : decode cX0_change 36 = .ok (.iload_n 1, 1) := by decide +kernel
theorem dX0_change_37 : decode cX0_change 37 = .ok (.aload_n 0, 1) := by decide +kernel
theorem dX0_change_38 : decode cX0_change 38 = .ok (.iload_n 1, 1) := by decide +kernel
theorem dX0_change_39 : decode cX0_change 39 = .ok (.invokevirtual 48, 3) := by decide +kernel
theorem dX0_change_42 : decode cX0_change 42 = .ok (.iload_n 2, 1) := by decide +kernel
theorem dX0_change_43 : decode cX0_change 43 = .ok (.iadd, 1) := by decide +kernel
theorem dX0_change_44 : decode cX0_change 44 = .ok (.bipush 10, 2) := by decide +kernel
theorem dX0_change_46 : decode cX0_change 46 = .ok (.iload 4, 2) := by decide +kernel
theorem dX0_change_48 : decode cX0_change 48 = .ok (.imul, 1) := by decide +kernel
theorem dX0_change_49 : decode cX0_change 49 = .ok (.isub, 1) := by decide +kernel
theorem dX0_change_50 : decode cX0_change 50 = .ok (.iload 4, 2) := by decide +kernel
theorem dX0_change_52 : decode cX0_change 52 = .ok (.iload_n 3, 1) := by decide +kernel
theorem dX0_change_53 : decode cX0_change 53 = .ok (.invokevirtual 55, 3) := by decide +kernel
theorem dX0_change_56 : decode cX0_change 56 = .ok (.ireturn, 1) := by decide +kernel
set_option maxRecDepth 20000 in
theorem ggX0_turnAndCarry_X0_turn : GoodIn wsX0_turnAndCarry wsX0_turn := goodIn_r _ [5, 6, 7, 8, 4, 9, 10, 11, 12, 13, 14, 15, 16, 17, 18, 19, 20, 21, 33, 34, 35, 36, 37, 38, 39] (by decide +kernel) (by decide +kernel)
set_option maxRecDepth 20000 in
theorem gX0_turnAndCarry_X0_turn : GoodIn wsX0_turnAndCarry (wsV RX0 51 RX0 yX0_turn wsX0_turn) := goodIn_app (goodIn_of _ (by decide +kernel)) ggX0_turnAndCarry_X0_turn
set_option maxRecDepth 20000 in
theorem ggX0_turnAndCarry_X0_shown : GoodIn wsX0_turnAndCarry wsX0_shown := goodIn_r _ [25, 10, 15, 33, 34, 35, 36, 37, 38, 39] (by decide +kernel) (by decide +kernel)
set_option maxRecDepth 20000 in
theorem gX0_turnAndCarry_X0_shown : GoodIn wsX0_turnAndCarry (wsV RX0 48 RX0 yX0_shown wsX0_shown) := goodIn_app (goodIn_of _ (by decide +kernel)) ggX0_turnAndCarry_X0_shown
set_option maxRecDepth 20000 in
theorem ggX0_turnAndCarry_X0_borrow : GoodIn wsX0_turnAndCarry wsX0_borrow := goodIn_r _ [29, 30, 31, 32, 33, 34, 35, 36, 37, 38, 39] (by decide +kernel) (by decide +kernel)
set_option maxRecDepth 20000 in
theorem gX0_turnAndCarry_X0_borrow : GoodIn wsX0_turnAndCarry (wsV RX0 59 RX0 yX0_borrow wsX0_borrow) := goodIn_app (goodIn_of _ (by decide +kernel)) ggX0_turnAndCarry_X0_borrow
theorem dX0_turnAndCarry_0 : decode cX0_turnAndCarry 0 = .ok (.aload_n 0, 1) := by decide +kernel
theorem dX0_turnAndCarry_1 : decode cX0_turnAndCarry 1 = .ok (.iload_n 1, 1) := by decide +kernel
theorem dX0_turnAndCarry_2 : decode cX0_turnAndCarry 2 = .ok (.iload_n 2, 1) := by decide +kernel
theorem dX0_turnAndCarry_3 : decode cX0_turnAndCarry 3 = .ok (.iload 4, 2) := by decide +kernel
theorem dX0_turnAndCarry_5 : decode cX0_turnAndCarry 5 = .ok (.invokevirtual 51, 3) := by decide +kernel
theorem dX0_turnAndCarry_8 : decode cX0_turnAndCarry 8 = .ok (.istore 5, 2) := by decide +kernel
theorem dX0_turnAndCarry_10 : decode cX0_turnAndCarry 10 = .ok (.iload 5, 2) := by decide +kernel
theorem dX0_turnAndCarry_12 : decode cX0_turnAndCarry 12 = .ok (.iconst (-1), 1) := by decide +kernel
theorem dX0_turnAndCarry_13 : decode cX0_turnAndCarry 13 = .ok (.if_icmp .ne 5, 3) := by decide +kernel
theorem dX0_turnAndCarry_16 : decode cX0_turnAndCarry 16 = .ok (.iconst (-1), 1) := by decide +kernel
theorem dX0_turnAndCarry_17 : decode cX0_turnAndCarry 17 = .ok (.ireturn, 1) := by decide +kernel
theorem dX0_turnAndCarry_18 : decode cX0_turnAndCarry 18 = .ok (.iload_n 1, 1) := by decide +kernel
theorem dX0_turnAndCarry_19 : decode cX0_turnAndCarry 19 = .ok (.iconst 1, 1) := by decide +kernel
theorem dX0_turnAndCarry_20 : decode cX0_turnAndCarry 20 = .ok (.iadd, 1) := by decide +kernel
theorem dX0_turnAndCarry_21 : decode cX0_turnAndCarry 21 = .ok (.istore 6, 2) := by decide +kernel
theorem dX0_turnAndCarry_23 : decode cX0_turnAndCarry 23 = .ok (.iload 6, 2) := by decide +kernel
theorem dX0_turnAndCarry_25 : decode cX0_turnAndCarry 25 = .ok (.bipush 9, 2) := by decide +kernel
theorem dX0_turnAndCarry_27 : decode cX0_turnAndCarry 27 = .ok (.if_icmp .ge 92, 3) := by decide +kernel
theorem dX0_turnAndCarry_30 : decode cX0_turnAndCarry 30 = .ok (.aload_n 0, 1) := by decide +kernel
theorem dX0_turnAndCarry_31 : decode cX0_turnAndCarry 31 = .ok (.iload 6, 2) := by decide +kernel
theorem dX0_turnAndCarry_33 : decode cX0_turnAndCarry 33 = .ok (.aload_n 0, 1) := by decide +kernel
theorem dX0_turnAndCarry_34 : decode cX0_turnAndCarry 34 = .ok (.iload 6, 2) := by decide +kernel
theorem dX0_turnAndCarry_36 : decode cX0_turnAndCarry 36 = .ok (.invokevirtual 48, 3) := by decide +kernel
theorem dX0_turnAndCarry_39 : decode cX0_turnAndCarry 39 = .ok (.iload_n 3, 1) := by decide +kernel
theorem dX0_turnAndCarry_40 : decode cX0_turnAndCarry 40 = .ok (.iadd, 1) := by decide +kernel
theorem dX0_turnAndCarry_41 : decode cX0_turnAndCarry 41 = .ok (.iload 4, 2) := by decide +kernel
theorem dX0_turnAndCarry_43 : decode cX0_turnAndCarry 43 = .ok (.invokevirtual 51, 3) := by decide +kernel
theorem dX0_turnAndCarry_46 : decode cX0_turnAndCarry 46 = .ok (.istore 7, 2) := by decide +kernel
theorem dX0_turnAndCarry_48 : decode cX0_turnAndCarry 48 = .ok (.iload 7, 2) := by decide +kernel
theorem dX0_turnAndCarry_50 : decode cX0_turnAndCarry 50 = .ok (.iconst (-1), 1) := by decide +kernel
theorem dX0_turnAndCarry_51 : decode cX0_turnAndCarry 51 = .ok (.if_icmp .eq 9, 3) := by decide +kernel
theorem dX0_turnAndCarry_54 : decode cX0_turnAndCarry 54 = .ok (.iload 5, 2) := by decide +kernel
theorem dX0_turnAndCarry_56 : decode cX0_turnAndCarry 56 = .ok (.iload 7, 2) := by decide +kernel
theorem dX0_turnAndCarry_58 : decode cX0_turnAndCarry 58 = .ok (.iadd, 1) := by decide +kernel
theorem dX0_turnAndCarry_59 : decode cX0_turnAndCarry 59 = .ok (.ireturn, 1) := by decide +kernel
theorem dX0_turnAndCarry_60 : decode cX0_turnAndCarry 60 = .ok (.aload_n 0, 1) := by decide +kernel
theorem dX0_turnAndCarry_61 : decode cX0_turnAndCarry 61 = .ok (.iload 6, 2) := by decide +kernel
theorem dX0_turnAndCarry_63 : decode cX0_turnAndCarry 63 = .ok (.aload_n 0, 1) := by decide +kernel
theorem dX0_turnAndCarry_64 : decode cX0_turnAndCarry 64 = .ok (.iload 6, 2) := by decide +kernel
theorem dX0_turnAndCarry_66 : decode cX0_turnAndCarry 66 = .ok (.invokevirtual 48, 3) := by decide +kernel
theorem dX0_turnAndCarry_69 : decode cX0_turnAndCarry 69 = .ok (.bipush 9, 2) := by decide +kernel
theorem dX0_turnAndCarry_71 : decode cX0_turnAndCarry 71 = .ok (.iload_n 3, 1) := by decide +kernel
theorem dX0_turnAndCarry_72 : decode cX0_turnAndCarry 72 = .ok (.imul, 1) := by decide +kernel
theorem dX0_turnAndCarry_73 : decode cX0_turnAndCarry 73 = .ok (.isub, 1) := by decide +kernel
theorem dX0_turnAndCarry_74 : decode cX0_turnAndCarry 74 = .ok (.iload 4, 2) := by decide +kernel
theorem dX0_turnAndCarry_76 : decode cX0_turnAndCarry 76 = .ok (.invokevirtual 51, 3) := by decide +kernel
theorem dX0_turnAndCarry_79 : decode cX0_turnAndCarry 79 = .ok (.istore 7, 2) := by decide +kernel
theorem dX0_turnAndCarry_81 : decode cX0_turnAndCarry 81 = .ok (.iload 7, 2) := by decide +kernel
theorem dX0_turnAndCarry_83 : decode cX0_turnAndCarry 83 = .ok (.iconst (-1), 1) := by decide +kernel
theorem dX0_turnAndCarry_84 : decode cX0_turnAndCarry 84 = .ok (.if_icmp .ne 22, 3) := by decide +kernel
theorem dX0_turnAndCarry_87 : decode cX0_turnAndCarry 87 = .ok (.aload_n 0, 1) := by decide +kernel
theorem dX0_turnAndCarry_88 : decode cX0_turnAndCarry 88 = .ok (.iload 6, 2) := by decide +kernel
theorem dX0_turnAndCarry_90 : decode cX0_turnAndCarry 90 = .ok (.iload_n 3, 1) := by decide +kernel
theorem dX0_turnAndCarry_91 : decode cX0_turnAndCarry 91 = .ok (.iload 4, 2) := by decide +kernel
theorem dX0_turnAndCarry_93 : decode cX0_turnAndCarry 93 = .ok (.invokevirtual 59, 3) := by decide +kernel
theorem dX0_turnAndCarry_96 : decode cX0_turnAndCarry 96 = .ok (.ifCond .eq 8, 3) := by decide +kernel
theorem dX0_turnAndCarry_99 : decode cX0_turnAndCarry 99 = .ok (.iload 5, 2) := by decide +kernel
theorem dX0_turnAndCarry_101 : decode cX0_turnAndCarry 101 = .ok (.goto 4, 3) := by decide +kernel
theorem dX0_turnAndCarry_104 : decode cX0_turnAndCarry 104 = .ok (.iconst (-1), 1) := by decide +kernel
theorem dX0_turnAndCarry_105 : decode cX0_turnAndCarry 105 = .ok (.ireturn, 1) := by decide +kernel
theorem dX0_turnAndCarry_106 : decode cX0_turnAndCarry 106 = .ok (.iload 5, 2) := by decide +kernel
theorem dX0_turnAndCarry_108 : decode cX0_turnAndCarry 108 = .ok (.iload 7, 2) := by decide +kernel
theorem dX0_turnAndCarry_110 : decode cX0_turnAndCarry 110 = .ok (.iadd, 1) := by decide +kernel
theorem dX0_turnAndCarry_111 : decode cX0_turnAndCarry 111 = .ok (.istore 5, 2) := by decide +kernel
theorem dX0_turnAndCarry_113 : decode cX0_turnAndCarry 113 = .ok (.iinc 6 1, 3) := by decide +kernel
theorem dX0_turnAndCarry_116 : decode cX0_turnAndCarry 116 = .ok (.goto (-93), 3) := by decide +kernel
theorem dX0_turnAndCarry_119 : decode cX0_turnAndCarry 119 = .ok (.iconst (-1), 1) := by decide +kernel
theorem dX0_turnAndCarry_120 : decode cX0_turnAndCarry 120 = .ok (.ireturn, 1) := by decide +kernel
theorem dX0_borrow_0 : decode cX0_borrow 0 = .ok (.aload_n 0, 1) := by decide +kernel
theorem dX0_borrow_1 : decode cX0_borrow 1 = .ok (.getfield 21, 3) := by decide +kernel
theorem dX0_borrow_4 : decode cX0_borrow 4 = .ok (.iload_n 1, 1) := by decide +kernel
theorem dX0_borrow_5 : decode cX0_borrow 5 = .ok (.iaload, 1) := by decide +kernel
theorem dX0_borrow_6 : decode cX0_borrow 6 = .ok (.iload_n 2, 1) := by decide +kernel
theorem dX0_borrow_7 : decode cX0_borrow 7 = .ok (.iadd, 1) := by decide +kernel
theorem dX0_borrow_8 : decode cX0_borrow 8 = .ok (.istore 4, 2) := by decide +kernel
theorem dX0_borrow_10 : decode cX0_borrow 10 = .ok (.iload 4, 2) := by decide +kernel
theorem dX0_borrow_12 : decode cX0_borrow 12 = .ok (.iload_n 2, 1) := by decide +kernel
theorem dX0_borrow_13 : decode cX0_borrow 13 = .ok (.imul, 1) := by decide +kernel
theorem dX0_borrow_14 : decode cX0_borrow 14 = .ok (.aload_n 0, 1) := by decide +kernel
theorem dX0_borrow_15 : decode cX0_borrow 15 = .ok (.getfield 30, 3) := by decide +kernel
theorem dX0_borrow_18 : decode cX0_borrow 18 = .ok (.if_icmp .le 5, 3) := by decide +kernel
theorem dX0_borrow_21 : decode cX0_borrow 21 = .ok (.iconst 0, 1) := by decide +kernel
theorem dX0_borrow_22 : decode cX0_borrow 22 = .ok (.ireturn, 1) := by decide +kernel
theorem dX0_borrow_23 : decode cX0_borrow 23 = .ok (.iload_n 3, 1) := by decide +kernel
theorem dX0_borrow_24 : decode cX0_borrow 24 = .ok (.ifCond .eq 21, 3) := by decide +kernel
theorem dX0_borrow_27 : decode cX0_borrow 27 = .ok (.aload_n 0, 1) := by decide +kernel
theorem dX0_borrow_28 : decode cX0_borrow 28 = .ok (.getfield 21, 3) := by decide +kernel
theorem dX0_borrow_31 : decode cX0_borrow 31 = .ok (.iload_n 1, 1) := by decide +kernel
theorem dX0_borrow_32 : decode cX0_borrow 32 = .ok (.iload 4, 2) := by decide +kernel
theorem dX0_borrow_34 : decode cX0_borrow 34 = .ok (.iastore, 1) := by decide +kernel
theorem dX0_borrow_35 : decode cX0_borrow 35 = .ok (.aload_n 0, 1) := by decide +kernel
theorem dX0_borrow_36 : decode cX0_borrow 36 = .ok (.getfield 27, 3) := by decide +kernel
theorem dX0_borrow_39 : decode cX0_borrow 39 = .ok (.iload_n 1, 1) := by decide +kernel
theorem dX0_borrow_40 : decode cX0_borrow 40 = .ok (.dup2, 1) := by decide +kernel
theorem dX0_borrow_41 : decode cX0_borrow 41 = .ok (.iaload, 1) := by decide +kernel
theorem dX0_borrow_42 : decode cX0_borrow 42 = .ok (.iconst 1, 1) := by decide +kernel
theorem dX0_borrow_43 : decode cX0_borrow 43 = .ok (.iadd, 1) := by decide +kernel
theorem dX0_borrow_44 : decode cX0_borrow 44 = .ok (.iastore, 1) := by decide +kernel
theorem dX0_borrow_45 : decode cX0_borrow 45 = .ok (.iconst 1, 1) := by decide +kernel
theorem dX0_borrow_46 : decode cX0_borrow 46 = .ok (.ireturn, 1) := by decide +kernel
set_option maxRecDepth 20000 in
theorem ggX0_payIfPossible_X0_change : GoodIn wsX0_payIfPossible wsX0_change := goodIn_r _ [6, 7, 8, 9, 5, 10, 11, 12, 13, 14, 15, 16, 17, 18, 19, 20, 21, 22, 23, 24, 25, 26, 27, 28, 29, 30, 31, 32, 33, 34, 35, 36, 37, 38, 1, 39, 40, 41, 42, 43, 44, 45, 46, 47] (by decide +kernel) (by decide +kernel)
set_option maxRecDepth 20000 in
theorem gX0_payIfPossible_X0_change : GoodIn wsX0_payIfPossible (wsV RX0 63 RX0 yX0_change wsX0_change) := goodIn_app (goodIn_of _ (by decide +kernel)) ggX0_payIfPossible_X0_change
theorem dX0_payIfPossible_0 : decode cX0_payIfPossible 0 = .ok (.aload_n 0, 1) := by decide +kernel
theorem dX0_payIfPossible_1 : decode cX0_payIfPossible 1 = .ok (.iload_n 1, 1) := by decide +kernel
theorem dX0_payIfPossible_2 : decode cX0_payIfPossible 2 = .ok (.aload_n 0, 1) := by decide +kernel
theorem dX0_payIfPossible_3 : decode cX0_payIfPossible 3 = .ok (.getfield 21, 3) := by decide +kernel
theorem dX0_payIfPossible_6 : decode cX0_payIfPossible 6 = .ok (.iload_n 1, 1) := by decide +kernel
theorem dX0_payIfPossible_7 : decode cX0_payIfPossible 7 = .ok (.iaload, 1) := by decide +kernel
theorem dX0_payIfPossible_8 : decode cX0_payIfPossible 8 = .ok (.iconst 0, 1) := by decide +kernel
theorem dX0_payIfPossible_9 : decode cX0_payIfPossible 9 = .ok (.invokevirtual 63, 3) := by decide +kernel
theorem dX0_payIfPossible_12 : decode cX0_payIfPossible 12 = .ok (.iconst (-1), 1) := by decide +kernel
theorem dX0_payIfPossible_13 : decode cX0_payIfPossible 13 = .ok (.if_icmp .ne 5, 3) := by decide +kernel
theorem dX0_payIfPossible_16 : decode cX0_payIfPossible 16 = .ok (.iconst 0, 1) := by decide +kernel
theorem dX0_payIfPossible_17 : decode cX0_payIfPossible 17 = .ok (.ireturn, 1) := by decide +kernel
theorem dX0_payIfPossible_18 : decode cX0_payIfPossible 18 = .ok (.aload_n 0, 1) := by decide +kernel
theorem dX0_payIfPossible_19 : decode cX0_payIfPossible 19 = .ok (.iload_n 1, 1) := by decide +kernel
theorem dX0_payIfPossible_20 : decode cX0_payIfPossible 20 = .ok (.aload_n 0, 1) := by decide +kernel
theorem dX0_payIfPossible_21 : decode cX0_payIfPossible 21 = .ok (.getfield 21, 3) := by decide +kernel
theorem dX0_payIfPossible_24 : decode cX0_payIfPossible 24 = .ok (.iload_n 1, 1) := by decide +kernel
theorem dX0_payIfPossible_25 : decode cX0_payIfPossible 25 = .ok (.iaload, 1) := by decide +kernel
theorem dX0_payIfPossible_26 : decode cX0_payIfPossible 26 = .ok (.iconst 1, 1) := by decide +kernel
theorem dX0_payIfPossible_27 : decode cX0_payIfPossible 27 = .ok (.invokevirtual 63, 3) := by decide +kernel
theorem dX0_payIfPossible_30 : decode cX0_payIfPossible 30 = .ok (.istore_n 2, 1) := by decide +kernel
theorem dX0_payIfPossible_31 : decode cX0_payIfPossible 31 = .ok (.aload_n 0, 1) := by decide +kernel
theorem dX0_payIfPossible_32 : decode cX0_payIfPossible 32 = .ok (.getfield 21, 3) := by decide +kernel
theorem dX0_payIfPossible_35 : decode cX0_payIfPossible 35 = .ok (.iload_n 1, 1) := by decide +kernel
theorem dX0_payIfPossible_36 : decode cX0_payIfPossible 36 = .ok (.iconst 0, 1) := by decide +kernel
theorem dX0_payIfPossible_37 : decode cX0_payIfPossible 37 = .ok (.iastore, 1) := by decide +kernel
theorem dX0_payIfPossible_38 : decode cX0_payIfPossible 38 = .ok (.iload_n 2, 1) := by decide +kernel
theorem dX0_payIfPossible_39 : decode cX0_payIfPossible 39 = .ok (.ireturn, 1) := by decide +kernel
set_option maxRecDepth 20000 in
theorem ggX0_orderIfPossible_X0_shown : GoodIn wsX0_orderIfPossible wsX0_shown := goodIn_r _ [5, 6, 7, 37, 38, 39, 40, 41, 42, 43] (by decide +kernel) (by decide +kernel)
set_option maxRecDepth 20000 in
theorem gX0_orderIfPossible_X0_shown : GoodIn wsX0_orderIfPossible (wsV RX0 48 RX0 yX0_shown wsX0_shown) := goodIn_app (goodIn_of _ (by decide +kernel)) ggX0_orderIfPossible_X0_shown
set_option maxRecDepth 20000 in
theorem ggX0_orderIfPossible_X0_turnAndCarry : GoodIn wsX0_orderIfPossible wsX0_turnAndCarry := goodIn_r _ [11, 12, 13, 14, 4, 15, 16, 17, 18, 19, 6, 20, 21, 22, 23, 7, 24, 25, 26, 27, 28, 29, 1, 2, 3, 5, 30, 31, 32, 33, 34, 35, 36, 37, 38, 39, 40, 41, 42, 43] (by decide +kernel) (by decide +kernel)
set_option maxRecDepth 20000 in
theorem gX0_orderIfPossible_X0_turnAndCarry : GoodIn wsX0_orderIfPossible (wsV RX0 55 RX0 yX0_turnAndCarry wsX0_turnAndCarry) := goodIn_app (goodIn_of _ (by decide +kernel)) ggX0_orderIfPossible_X0_turnAndCarry
theorem dX0_orderIfPossible_0 : decode cX0_orderIfPossible 0 = .ok (.aload_n 0, 1) := by decide +kernel
theorem dX0_orderIfPossible_1 : decode cX0_orderIfPossible 1 = .ok (.iload_n 1, 1) := by decide +kernel
theorem dX0_orderIfPossible_2 : decode cX0_orderIfPossible 2 = .ok (.invokevirtual 48, 3) := by decide +kernel
theorem dX0_orderIfPossible_5 : decode cX0_orderIfPossible 5 = .ok (.bipush 10, 2) := by decide +kernel
theorem dX0_orderIfPossible_7 : decode cX0_orderIfPossible 7 = .ok (.isub, 1) := by decide +kernel
theorem dX0_orderIfPossible_8 : decode cX0_orderIfPossible 8 = .ok (.istore_n 2, 1) := by decide +kernel
theorem dX0_orderIfPossible_9 : decode cX0_orderIfPossible 9 = .ok (.iload_n 2, 1) := by decide +kernel
theorem dX0_orderIfPossible_10 : decode cX0_orderIfPossible 10 = .ok (.ifCond .lt 15, 3) := by decide +kernel
theorem dX0_orderIfPossible_13 : decode cX0_orderIfPossible 13 = .ok (.aload_n 0, 1) := by decide +kernel
theorem dX0_orderIfPossible_14 : decode cX0_orderIfPossible 14 = .ok (.iload_n 1, 1) := by decide +kernel
theorem dX0_orderIfPossible_15 : decode cX0_orderIfPossible 15 = .ok (.iload_n 2, 1) := by decide +kernel
theorem dX0_orderIfPossible_16 : decode cX0_orderIfPossible 16 = .ok (.iconst 1, 1) := by decide +kernel
theorem dX0_orderIfPossible_17 : decode cX0_orderIfPossible 17 = .ok (.iconst 0, 1) := by decide +kernel
theorem dX0_orderIfPossible_18 : decode cX0_orderIfPossible 18 = .ok (.invokevirtual 55, 3) := by decide +kernel
theorem dX0_orderIfPossible_21 : decode cX0_orderIfPossible 21 = .ok (.iconst (-1), 1) := by decide +kernel
theorem dX0_orderIfPossible_22 : decode cX0_orderIfPossible 22 = .ok (.if_icmp .ne 5, 3) := by decide +kernel
theorem dX0_orderIfPossible_25 : decode cX0_orderIfPossible 25 = .ok (.iconst 0, 1) := by decide +kernel
theorem dX0_orderIfPossible_26 : decode cX0_orderIfPossible 26 = .ok (.ireturn, 1) := by decide +kernel
theorem dX0_orderIfPossible_27 : decode cX0_orderIfPossible 27 = .ok (.aload_n 0, 1) := by decide +kernel
theorem dX0_orderIfPossible_28 : decode cX0_orderIfPossible 28 = .ok (.iload_n 1, 1) := by decide +kernel
theorem dX0_orderIfPossible_29 : decode cX0_orderIfPossible 29 = .ok (.iload_n 2, 1) := by decide +kernel
theorem dX0_orderIfPossible_30 : decode cX0_orderIfPossible 30 = .ok (.iconst 1, 1) := by decide +kernel
theorem dX0_orderIfPossible_31 : decode cX0_orderIfPossible 31 = .ok (.iconst 1, 1) := by decide +kernel
theorem dX0_orderIfPossible_32 : decode cX0_orderIfPossible 32 = .ok (.invokevirtual 55, 3) := by decide +kernel
theorem dX0_orderIfPossible_35 : decode cX0_orderIfPossible 35 = .ok (.ireturn, 1) := by decide +kernel
set_option maxRecDepth 20000 in
theorem ggX0_reach_X0_turn : GoodIn wsX0_reach wsX0_turn := goodIn_r _ [5, 6, 7, 8, 4, 9, 10, 11, 12, 13, 14, 15, 16, 17, 18, 19, 20, 21, 22, 23, 24, 25, 26, 27, 28] (by decide +kernel) (by decide +kernel)
set_option maxRecDepth 20000 in
theorem gX0_reach_X0_turn : GoodIn wsX0_reach (wsV RX0 51 RX0 yX0_turn wsX0_turn) := goodIn_app (goodIn_of _ (by decide +kernel)) ggX0_reach_X0_turn
theorem dX0_reach_0 : decode cX0_reach 0 = .ok (.iconst 0, 1) := by decide +kernel
theorem dX0_reach_1 : decode cX0_reach 1 = .ok (.istore_n 2, 1) := by decide +kernel
theorem dX0_reach_2 : decode cX0_reach 2 = .ok (.iconst 0, 1) := by decide +kernel
theorem dX0_reach_3 : decode cX0_reach 3 = .ok (.istore_n 3, 1) := by decide +kernel
theorem dX0_reach_4 : decode cX0_reach 4 = .ok (.iload_n 3, 1) := by decide +kernel
theorem dX0_reach_5 : decode cX0_reach 5 = .ok (.bipush 15, 2) := by decide +kernel
theorem dX0_reach_7 : decode cX0_reach 7 = .ok (.if_icmp .gt 23, 3) := by decide +kernel
theorem dX0_reach_10 : decode cX0_reach 10 = .ok (.aload_n 0, 1) := by decide +kernel
theorem dX0_reach_11 : decode cX0_reach 11 = .ok (.iload_n 1, 1) := by decide +kernel
theorem dX0_reach_12 : decode cX0_reach 12 = .ok (.iload_n 3, 1) := by decide +kernel
theorem dX0_reach_13 : decode cX0_reach 13 = .ok (.iconst 0, 1) := by decide +kernel
theorem dX0_reach_14 : decode cX0_reach 14 = .ok (.invokevirtual 51, 3) := by decide +kernel
theorem dX0_reach_17 : decode cX0_reach 17 = .ok (.iconst (-1), 1) := by decide +kernel
theorem dX0_reach_18 : decode cX0_reach 18 = .ok (.if_icmp .eq 6, 3) := by decide +kernel
theorem dX0_reach_21 : decode cX0_reach 21 = .ok (.iinc 2 1, 3) := by decide +kernel
theorem dX0_reach_24 : decode cX0_reach 24 = .ok (.iinc 3 1, 3) := by decide +kernel
theorem dX0_reach_27 : decode cX0_reach 27 = .ok (.goto (-23), 3) := by decide +kernel
theorem dX0_reach_30 : decode cX0_reach 30 = .ok (.iload_n 2, 1) := by decide +kernel
theorem dX0_reach_31 : decode cX0_reach 31 = .ok (.ireturn, 1) := by decide +kernel
theorem dX0_allMoved_0 : decode cX0_allMoved 0 = .ok (.iconst 0, 1) := by decide +kernel
theorem dX0_allMoved_1 : decode cX0_allMoved 1 = .ok (.istore_n 1, 1) := by decide +kernel
theorem dX0_allMoved_2 : decode cX0_allMoved 2 = .ok (.iconst 0, 1) := by decide +kernel
theorem dX0_allMoved_3 : decode cX0_allMoved 3 = .ok (.istore_n 2, 1) := by decide +kernel
theorem dX0_allMoved_4 : decode cX0_allMoved 4 = .ok (.iload_n 2, 1) := by decide +kernel
theorem dX0_allMoved_5 : decode cX0_allMoved 5 = .ok (.bipush 9, 2) := by decide +kernel
theorem dX0_allMoved_7 : decode cX0_allMoved 7 = .ok (.if_icmp .ge 18, 3) := by decide +kernel
theorem dX0_allMoved_10 : decode cX0_allMoved 10 = .ok (.iload_n 1, 1) := by decide +kernel
theorem dX0_allMoved_11 : decode cX0_allMoved 11 = .ok (.aload_n 0, 1) := by decide +kernel
theorem dX0_allMoved_12 : decode cX0_allMoved 12 = .ok (.getfield 24, 3) := by decide +kernel
theorem dX0_allMoved_15 : decode cX0_allMoved 15 = .ok (.iload_n 2, 1) := by decide +kernel
theorem dX0_allMoved_16 : decode cX0_allMoved 16 = .ok (.iaload, 1) := by decide +kernel
theorem dX0_allMoved_17 : decode cX0_allMoved 17 = .ok (.iadd, 1) := by decide +kernel
theorem dX0_allMoved_18 : decode cX0_allMoved 18 = .ok (.istore_n 1, 1) := by decide +kernel
theorem dX0_allMoved_19 : decode cX0_allMoved 19 = .ok (.iinc 2 1, 3) := by decide +kernel
theorem dX0_allMoved_22 : decode cX0_allMoved 22 = .ok (.goto (-18), 3) := by decide +kernel
theorem dX0_allMoved_25 : decode cX0_allMoved 25 = .ok (.iload_n 1, 1) := by decide +kernel
theorem dX0_allMoved_26 : decode cX0_allMoved 26 = .ok (.ireturn, 1) := by decide +kernel
theorem dX0_allLoans_0 : decode cX0_allLoans 0 = .ok (.iconst 0, 1) := by decide +kernel
theorem dX0_allLoans_1 : decode cX0_allLoans 1 = .ok (.istore_n 1, 1) := by decide +kernel
theorem dX0_allLoans_2 : decode cX0_allLoans 2 = .ok (.iconst 0, 1) := by decide +kernel
theorem dX0_allLoans_3 : decode cX0_allLoans 3 = .ok (.istore_n 2, 1) := by decide +kernel
theorem dX0_allLoans_4 : decode cX0_allLoans 4 = .ok (.iload_n 2, 1) := by decide +kernel
theorem dX0_allLoans_5 : decode cX0_allLoans 5 = .ok (.bipush 9, 2) := by decide +kernel
theorem dX0_allLoans_7 : decode cX0_allLoans 7 = .ok (.if_icmp .ge 18, 3) := by decide +kernel
theorem dX0_allLoans_10 : decode cX0_allLoans 10 = .ok (.iload_n 1, 1) := by decide +kernel
theorem dX0_allLoans_11 : decode cX0_allLoans 11 = .ok (.aload_n 0, 1) := by decide +kernel
theorem dX0_allLoans_12 : decode cX0_allLoans 12 = .ok (.getfield 21, 3) := by decide +kernel
theorem dX0_allLoans_15 : decode cX0_allLoans 15 = .ok (.iload_n 2, 1) := by decide +kernel
theorem dX0_allLoans_16 : decode cX0_allLoans 16 = .ok (.iaload, 1) := by decide +kernel
theorem dX0_allLoans_17 : decode cX0_allLoans 17 = .ok (.iadd, 1) := by decide +kernel
theorem dX0_allLoans_18 : decode cX0_allLoans 18 = .ok (.istore_n 1, 1) := by decide +kernel
theorem dX0_allLoans_19 : decode cX0_allLoans 19 = .ok (.iinc 2 1, 3) := by decide +kernel
theorem dX0_allLoans_22 : decode cX0_allLoans 22 = .ok (.goto (-18), 3) := by decide +kernel
theorem dX0_allLoans_25 : decode cX0_allLoans 25 = .ok (.iload_n 1, 1) := by decide +kernel
theorem dX0_allLoans_26 : decode cX0_allLoans 26 = .ok (.ireturn, 1) := by decide +kernel
set_option maxRecDepth 20000 in
theorem ggX0_allShown_X0_shown : GoodIn wsX0_allShown wsX0_shown := goodIn_r _ [5, 6, 7, 8, 9, 10, 11, 12, 13, 14] (by decide +kernel) (by decide +kernel)
set_option maxRecDepth 20000 in
theorem gX0_allShown_X0_shown : GoodIn wsX0_allShown (wsV RX0 48 RX0 yX0_shown wsX0_shown) := goodIn_app (goodIn_of _ (by decide +kernel)) ggX0_allShown_X0_shown
theorem dX0_allShown_0 : decode cX0_allShown 0 = .ok (.iconst 0, 1) := by decide +kernel
theorem dX0_allShown_1 : decode cX0_allShown 1 = .ok (.istore_n 1, 1) := by decide +kernel
theorem dX0_allShown_2 : decode cX0_allShown 2 = .ok (.iconst 0, 1) := by decide +kernel
theorem dX0_allShown_3 : decode cX0_allShown 3 = .ok (.istore_n 2, 1) := by decide +kernel
theorem dX0_allShown_4 : decode cX0_allShown 4 = .ok (.iload_n 2, 1) := by decide +kernel
theorem dX0_allShown_5 : decode cX0_allShown 5 = .ok (.bipush 9, 2) := by decide +kernel
theorem dX0_allShown_7 : decode cX0_allShown 7 = .ok (.if_icmp .ge 17, 3) := by decide +kernel
theorem dX0_allShown_10 : decode cX0_allShown 10 = .ok (.iload_n 1, 1) := by decide +kernel
theorem dX0_allShown_11 : decode cX0_allShown 11 = .ok (.aload_n 0, 1) := by decide +kernel
theorem dX0_allShown_12 : decode cX0_allShown 12 = .ok (.iload_n 2, 1) := by decide +kernel
theorem dX0_allShown_13 : decode cX0_allShown 13 = .ok (.invokevirtual 48, 3) := by decide +kernel
theorem dX0_allShown_16 : decode cX0_allShown 16 = .ok (.iadd, 1) := by decide +kernel
theorem dX0_allShown_17 : decode cX0_allShown 17 = .ok (.istore_n 1, 1) := by decide +kernel
theorem dX0_allShown_18 : decode cX0_allShown 18 = .ok (.iinc 2 1, 3) := by decide +kernel
theorem dX0_allShown_21 : decode cX0_allShown 21 = .ok (.goto (-17), 3) := by decide +kernel
theorem dX0_allShown_24 : decode cX0_allShown 24 = .ok (.iload_n 1, 1) := by decide +kernel
theorem dX0_allShown_25 : decode cX0_allShown 25 = .ok (.ireturn, 1) := by decide +kernel
theorem dX0_rodsWithLoan_0 : decode cX0_rodsWithLoan 0 = .ok (.iconst 0, 1) := by decide +kernel
theorem dX0_rodsWithLoan_1 : decode cX0_rodsWithLoan 1 = .ok (.istore_n 1, 1) := by decide +kernel
theorem dX0_rodsWithLoan_2 : decode cX0_rodsWithLoan 2 = .ok (.iconst 0, 1) := by decide +kernel
theorem dX0_rodsWithLoan_3 : decode cX0_rodsWithLoan 3 = .ok (.istore_n 2, 1) := by decide +kernel
theorem dX0_rodsWithLoan_4 : decode cX0_rodsWithLoan 4 = .ok (.iload_n 2, 1) := by decide +kernel
theorem dX0_rodsWithLoan_5 : decode cX0_rodsWithLoan 5 = .ok (.bipush 9, 2) := by decide +kernel
theorem dX0_rodsWithLoan_7 : decode cX0_rodsWithLoan 7 = .ok (.if_icmp .ge 21, 3) := by decide +kernel
theorem dX0_rodsWithLoan_10 : decode cX0_rodsWithLoan 10 = .ok (.aload_n 0, 1) := by decide +kernel
theorem dX0_rodsWithLoan_11 : decode cX0_rodsWithLoan 11 = .ok (.getfield 21, 3) := by decide +kernel
theorem dX0_rodsWithLoan_14 : decode cX0_rodsWithLoan 14 = .ok (.iload_n 2, 1) := by decide +kernel
theorem dX0_rodsWithLoan_15 : decode cX0_rodsWithLoan 15 = .ok (.iaload, 1) := by decide +kernel
theorem dX0_rodsWithLoan_16 : decode cX0_rodsWithLoan 16 = .ok (.ifCond .eq 6, 3) := by decide +kernel
theorem dX0_rodsWithLoan_19 : decode cX0_rodsWithLoan 19 = .ok (.iinc 1 1, 3) := by decide +kernel
theorem dX0_rodsWithLoan_22 : decode cX0_rodsWithLoan 22 = .ok (.iinc 2 1, 3) := by decide +kernel
theorem dX0_rodsWithLoan_25 : decode cX0_rodsWithLoan 25 = .ok (.goto (-21), 3) := by decide +kernel
theorem dX0_rodsWithLoan_28 : decode cX0_rodsWithLoan 28 = .ok (.iload_n 1, 1) := by decide +kernel
theorem dX0_rodsWithLoan_29 : decode cX0_rodsWithLoan 29 = .ok (.ireturn, 1) := by decide +kernel
set_option maxRecDepth 20000 in
theorem ggX0_rodsOutOfOrder_X0_shown : GoodIn wsX0_rodsOutOfOrder wsX0_shown := goodIn_r _ [5, 6, 7, 8, 9, 10, 11, 12, 13, 14] (by decide +kernel) (by decide +kernel)
set_option maxRecDepth 20000 in
theorem gX0_rodsOutOfOrder_X0_shown : GoodIn wsX0_rodsOutOfOrder (wsV RX0 48 RX0 yX0_shown wsX0_shown) := goodIn_app (goodIn_of _ (by decide +kernel)) ggX0_rodsOutOfOrder_X0_shown
theorem dX0_rodsOutOfOrder_0 : decode cX0_rodsOutOfOrder 0 = .ok (.iconst 0, 1) := by decide +kernel
theorem dX0_rodsOutOfOrder_1 : decode cX0_rodsOutOfOrder 1 = .ok (.istore_n 1, 1) := by decide +kernel
theorem dX0_rodsOutOfOrder_2 : decode cX0_rodsOutOfOrder 2 = .ok (.iconst 0, 1) := by decide +kernel
theorem dX0_rodsOutOfOrder_3 : decode cX0_rodsOutOfOrder 3 = .ok (.istore_n 2, 1) := by decide +kernel
theorem dX0_rodsOutOfOrder_4 : decode cX0_rodsOutOfOrder 4 = .ok (.iload_n 2, 1) := by decide +kernel
theorem dX0_rodsOutOfOrder_5 : decode cX0_rodsOutOfOrder 5 = .ok (.bipush 9, 2) := by decide +kernel
theorem dX0_rodsOutOfOrder_7 : decode cX0_rodsOutOfOrder 7 = .ok (.if_icmp .ge 22, 3) := by decide +kernel
theorem dX0_rodsOutOfOrder_10 : decode cX0_rodsOutOfOrder 10 = .ok (.aload_n 0, 1) := by decide +kernel
theorem dX0_rodsOutOfOrder_11 : decode cX0_rodsOutOfOrder 11 = .ok (.iload_n 2, 1) := by decide +kernel
theorem dX0_rodsOutOfOrder_12 : decode cX0_rodsOutOfOrder 12 = .ok (.invokevirtual 48, 3) := by decide +kernel
theorem dX0_rodsOutOfOrder_15 : decode cX0_rodsOutOfOrder 15 = .ok (.bipush 10, 2) := by decide +kernel
theorem dX0_rodsOutOfOrder_17 : decode cX0_rodsOutOfOrder 17 = .ok (.if_icmp .lt 6, 3) := by decide +kernel
theorem dX0_rodsOutOfOrder_20 : decode cX0_rodsOutOfOrder 20 = .ok (.iinc 1 1, 3) := by decide +kernel
theorem dX0_rodsOutOfOrder_23 : decode cX0_rodsOutOfOrder 23 = .ok (.iinc 2 1, 3) := by decide +kernel
theorem dX0_rodsOutOfOrder_26 : decode cX0_rodsOutOfOrder 26 = .ok (.goto (-22), 3) := by decide +kernel
theorem dX0_rodsOutOfOrder_29 : decode cX0_rodsOutOfOrder 29 = .ok (.iload_n 1, 1) := by decide +kernel
theorem dX0_rodsOutOfOrder_30 : decode cX0_rodsOutOfOrder 30 = .ok (.ireturn, 1) := by decide +kernel
theorem dX0_rodsWithStuck_0 : decode cX0_rodsWithStuck 0 = .ok (.iconst 0, 1) := by decide +kernel
theorem dX0_rodsWithStuck_1 : decode cX0_rodsWithStuck 1 = .ok (.istore_n 1, 1) := by decide +kernel
theorem dX0_rodsWithStuck_2 : decode cX0_rodsWithStuck 2 = .ok (.iconst 0, 1) := by decide +kernel
theorem dX0_rodsWithStuck_3 : decode cX0_rodsWithStuck 3 = .ok (.istore_n 2, 1) := by decide +kernel
theorem dX0_rodsWithStuck_4 : decode cX0_rodsWithStuck 4 = .ok (.iload_n 2, 1) := by decide +kernel
theorem dX0_rodsWithStuck_5 : decode cX0_rodsWithStuck 5 = .ok (.bipush 9, 2) := by decide +kernel
theorem dX0_rodsWithStuck_7 : decode cX0_rodsWithStuck 7 = .ok (.if_icmp .ge 21, 3) := by decide +kernel
theorem dX0_rodsWithStuck_10 : decode cX0_rodsWithStuck 10 = .ok (.aload_n 0, 1) := by decide +kernel
theorem dX0_rodsWithStuck_11 : decode cX0_rodsWithStuck 11 = .ok (.getfield 18, 3) := by decide +kernel
theorem dX0_rodsWithStuck_14 : decode cX0_rodsWithStuck 14 = .ok (.iload_n 2, 1) := by decide +kernel
theorem dX0_rodsWithStuck_15 : decode cX0_rodsWithStuck 15 = .ok (.iaload, 1) := by decide +kernel
theorem dX0_rodsWithStuck_16 : decode cX0_rodsWithStuck 16 = .ok (.ifCond .eq 6, 3) := by decide +kernel
theorem dX0_rodsWithStuck_19 : decode cX0_rodsWithStuck 19 = .ok (.iinc 1 1, 3) := by decide +kernel
theorem dX0_rodsWithStuck_22 : decode cX0_rodsWithStuck 22 = .ok (.iinc 2 1, 3) := by decide +kernel
theorem dX0_rodsWithStuck_25 : decode cX0_rodsWithStuck 25 = .ok (.goto (-21), 3) := by decide +kernel
theorem dX0_rodsWithStuck_28 : decode cX0_rodsWithStuck 28 = .ok (.iload_n 1, 1) := by decide +kernel
theorem dX0_rodsWithStuck_29 : decode cX0_rodsWithStuck 29 = .ok (.ireturn, 1) := by decide +kernel
set_option maxRecDepth 20000 in
theorem ggX1_init_X0_init : GoodIn wsX1_init wsX0_init := goodIn_r _ [12, 13, 2, 3, 14, 15, 16, 17, 18, 19, 20, 21, 25, 26, 27, 28, 29, 30, 31] (by decide +kernel) (by decide +kernel)
set_option maxRecDepth 20000 in
theorem gX1_init_X0_init : GoodIn wsX1_init (wsX0_init) := ggX1_init_X0_init
theorem dX1_init_0 : decode cX1_init 0 = .ok (.aload_n 0, 1) := by decide +kernel
theorem dX1_init_1 : decode cX1_init 1 = .ok (.invokespecial 3, 3) := by decide +kernel
theorem dX1_init_4 : decode cX1_init 4 = .ok (.aload_n 0, 1) := by decide +kernel
theorem dX1_init_5 : decode cX1_init 5 = .ok (.bipush 6, 2) := by decide +kernel
theorem dX1_init_7 : decode cX1_init 7 = .ok (.anewarray 9, 3) := by decide +kernel
theorem dX1_init_10 : decode cX1_init 10 = .ok (.putfield 11, 3) := by decide +kernel
theorem dX1_init_13 : decode cX1_init 13 = .ok (.aload_n 0, 1) := by decide +kernel
theorem dX1_init_14 : decode cX1_init 14 = .ok (.iconst 0, 1) := by decide +kernel
theorem dX1_init_15 : decode cX1_init 15 = .ok (.putfield 17, 3) := by decide +kernel
theorem dX1_init_18 : decode cX1_init 18 = .ok (.aload_n 0, 1) := by decide +kernel
theorem dX1_init_19 : decode cX1_init 19 = .ok (.iconst 0, 1) := by decide +kernel
theorem dX1_init_20 : decode cX1_init 20 = .ok (.putfield 21, 3) := by decide +kernel
theorem dX1_init_23 : decode cX1_init 23 = .ok (.iconst 0, 1) := by decide +kernel
theorem dX1_init_24 : decode cX1_init 24 = .ok (.istore_n 1, 1) := by decide +kernel
theorem dX1_init_25 : decode cX1_init 25 = .ok (.iload_n 1, 1) := by decide +kernel
theorem dX1_init_26 : decode cX1_init 26 = .ok (.bipush 6, 2) := by decide +kernel
theorem dX1_init_28 : decode cX1_init 28 = .ok (.if_icmp .ge 22, 3) := by decide +kernel
theorem dX1_init_31 : decode cX1_init 31 = .ok (.aload_n 0, 1) := by decide +kernel
theorem dX1_init_32 : decode cX1_init 32 = .ok (.getfield 11, 3) := by decide +kernel
theorem dX1_init_35 : decode cX1_init 35 = .ok (.iload_n 1, 1) := by decide +kernel
theorem dX1_init_36 : decode cX1_init 36 = .ok (.new 9, 3) := by decide +kernel
theorem dX1_init_39 : decode cX1_init 39 = .ok (.dup, 1) := by decide +kernel
theorem dX1_init_40 : decode cX1_init 40 = .ok (.invokespecial 24, 3) := by decide +kernel
theorem dX1_init_43 : decode cX1_init 43 = .ok (.aastore, 1) := by decide +kernel
theorem dX1_init_44 : decode cX1_init 44 = .ok (.iinc 1 1, 3) := by decide +kernel
theorem dX1_init_47 : decode cX1_init 47 = .ok (.goto (-22), 3) := by decide +kernel
theorem dX1_init_50 : decode cX1_init 50 = .ok (.return_, 1) := by decide +kernel
set_option maxRecDepth 20000 in
theorem ggX1_keep_X0_copyFrom : GoodIn wsX1_keep wsX0_copyFrom := goodIn_r _ [8, 9, 10, 11, 12, 13, 14, 15, 19, 20, 21, 22, 23, 24, 25] (by decide +kernel) (by decide +kernel)
set_option maxRecDepth 20000 in
theorem gX1_keep_X0_copyFrom : GoodIn wsX1_keep (wsV RX1 25 RX0 yX0_copyFrom wsX0_copyFrom) := goodIn_app (goodIn_of _ (by decide +kernel)) ggX1_keep_X0_copyFrom
theorem dX1_keep_0 : decode cX1_keep 0 = .ok (.aload_n 0, 1) := by decide +kernel
theorem dX1_keep_1 : decode cX1_keep 1 = .ok (.getfield 21, 3) := by decide +kernel
theorem dX1_keep_4 : decode cX1_keep 4 = .ok (.bipush 6, 2) := by decide +kernel
theorem dX1_keep_6 : decode cX1_keep 6 = .ok (.if_icmp .ne 26, 3) := by decide +kernel
theorem dX1_keep_9 : decode cX1_keep 9 = .ok (.aload_n 0, 1) := by decide +kernel
theorem dX1_keep_10 : decode cX1_keep 10 = .ok (.aload_n 0, 1) := by decide +kernel
theorem dX1_keep_11 : decode cX1_keep 11 = .ok (.getfield 17, 3) := by decide +kernel
theorem dX1_keep_14 : decode cX1_keep 14 = .ok (.iconst 1, 1) := by decide +kernel
theorem dX1_keep_15 : decode cX1_keep 15 = .ok (.iadd, 1) := by decide +kernel
theorem dX1_keep_16 : decode cX1_keep 16 = .ok (.bipush 6, 2) := by decide +kernel
theorem dX1_keep_18 : decode cX1_keep 18 = .ok (.irem, 1) := by decide +kernel
theorem dX1_keep_19 : decode cX1_keep 19 = .ok (.putfield 17, 3) := by decide +kernel
theorem dX1_keep_22 : decode cX1_keep 22 = .ok (.aload_n 0, 1) := by decide +kernel
theorem dX1_keep_23 : decode cX1_keep 23 = .ok (.dup, 1) := by decide +kernel
theorem dX1_keep_24 : decode cX1_keep 24 = .ok (.getfield 21, 3) := by decide +kernel
theorem dX1_keep_27 : decode cX1_keep 27 = .ok (.iconst 1, 1) := by decide +kernel
theorem dX1_keep_28 : decode cX1_keep 28 = .ok (.isub, 1) := by decide +kernel
theorem dX1_keep_29 : decode cX1_keep 29 = .ok (.putfield 21, 3) := by decide +kernel
theorem dX1_keep_32 : decode cX1_keep 32 = .ok (.aload_n 0, 1) := by decide +kernel
theorem dX1_keep_33 : decode cX1_keep 33 = .ok (.getfield 11, 3) := by decide +kernel
theorem dX1_keep_36 : decode cX1_keep 36 = .ok (.aload_n 0, 1) := by decide +kernel
theorem dX1_keep_37 : decode cX1_keep 37 = .ok (.getfield 17, 3) := by decide +kernel
theorem dX1_keep_40 : decode cX1_keep 40 = .ok (.aload_n 0, 1) := by decide +kernel
theorem dX1_keep_41 : decode cX1_keep 41 = .ok (.getfield 21, 3) := by decide +kernel
theorem dX1_keep_44 : decode cX1_keep 44 = .ok (.iadd, 1) := by decide +kernel
theorem dX1_keep_45 : decode cX1_keep 45 = .ok (.bipush 6, 2) := by decide +kernel
theorem dX1_keep_47 : decode cX1_keep 47 = .ok (.irem, 1) := by decide +kernel
theorem dX1_keep_48 : decode cX1_keep 48 = .ok (.aaload, 1) := by decide +kernel
theorem dX1_keep_49 : decode cX1_keep 49 = .ok (.aload_n 1, 1) := by decide +kernel
theorem dX1_keep_50 : decode cX1_keep 50 = .ok (.invokevirtual 25, 3) := by decide +kernel
theorem dX1_keep_53 : decode cX1_keep 53 = .ok (.aload_n 0, 1) := by decide +kernel
theorem dX1_keep_54 : decode cX1_keep 54 = .ok (.dup, 1) := by decide +kernel
theorem dX1_keep_55 : decode cX1_keep 55 = .ok (.getfield 21, 3) := by decide +kernel
theorem dX1_keep_58 : decode cX1_keep 58 = .ok (.iconst 1, 1) := by decide +kernel
theorem dX1_keep_59 : decode cX1_keep 59 = .ok (.iadd, 1) := by decide +kernel
theorem dX1_keep_60 : decode cX1_keep 60 = .ok (.putfield 21, 3) := by decide +kernel
theorem dX1_keep_63 : decode cX1_keep 63 = .ok (.return_, 1) := by decide +kernel
set_option maxRecDepth 20000 in
theorem ggX1_restore_X0_copyFrom : GoodIn wsX1_restore wsX0_copyFrom := goodIn_r _ [8, 9, 10, 11, 12, 13, 14, 15, 19, 20, 21, 22, 23, 24, 25] (by decide +kernel) (by decide +kernel)
set_option maxRecDepth 20000 in
theorem gX1_restore_X0_copyFrom : GoodIn wsX1_restore (wsV RX1 25 RX0 yX0_copyFrom wsX0_copyFrom) := goodIn_app (goodIn_of _ (by decide +kernel)) ggX1_restore_X0_copyFrom
theorem dX1_restore_0 : decode cX1_restore 0 = .ok (.aload_n 0, 1) := by decide +kernel
theorem dX1_restore_1 : decode cX1_restore 1 = .ok (.getfield 21, 3) := by decide +kernel
theorem dX1_restore_4 : decode cX1_restore 4 = .ok (.ifCond .le 34, 3) := by decide +kernel
theorem dX1_restore_7 : decode cX1_restore 7 = .ok (.aload_n 0, 1) := by decide +kernel
theorem dX1_restore_8 : decode cX1_restore 8 = .ok (.dup, 1) := by decide +kernel
theorem dX1_restore_9 : decode cX1_restore 9 = .ok (.getfield 21, 3) := by decide +kernel
theorem dX1_restore_12 : decode cX1_restore 12 = .ok (.iconst 1, 1) := by decide +kernel
theorem dX1_restore_13 : decode cX1_restore 13 = .ok (.isub, 1) := by decide +kernel
theorem dX1_restore_14 : decode cX1_restore 14 = .ok (.putfield 21, 3) := by decide +kernel
theorem dX1_restore_17 : decode cX1_restore 17 = .ok (.aload_n 1, 1) := by decide +kernel
theorem dX1_restore_18 : decode cX1_restore 18 = .ok (.aload_n 0, 1) := by decide +kernel
theorem dX1_restore_19 : decode cX1_restore 19 = .ok (.getfield 11, 3) := by decide +kernel
theorem dX1_restore_22 : decode cX1_restore 22 = .ok (.aload_n 0, 1) := by decide +kernel
theorem dX1_restore_23 : decode cX1_restore 23 = .ok (.getfield 17, 3) := by decide +kernel
theorem dX1_restore_26 : decode cX1_restore 26 = .ok (.aload_n 0, 1) := by decide +kernel
theorem dX1_restore_27 : decode cX1_restore 27 = .ok (.getfield 21, 3) := by decide +kernel
theorem dX1_restore_30 : decode cX1_restore 30 = .ok (.iadd, 1) := by decide +kernel
theorem dX1_restore_31 : decode cX1_restore 31 = .ok (.bipush 6, 2) := by decide +kernel
theorem dX1_restore_33 : decode cX1_restore 33 = .ok (.irem, 1) := by decide +kernel
theorem dX1_restore_34 : decode cX1_restore 34 = .ok (.aaload, 1) := by decide +kernel
theorem dX1_restore_35 : decode cX1_restore 35 = .ok (.invokevirtual 25, 3) := by decide +kernel
theorem dX1_restore_38 : decode cX1_restore 38 = .ok (.return_, 1) := by decide +kernel
theorem dX2_init_0 : decode cX2_init 0 = .ok (.aload_n 0, 1) := by decide +kernel
theorem dX2_init_1 : decode cX2_init 1 = .ok (.invokespecial 3, 3) := by decide +kernel
theorem dX2_init_4 : decode cX2_init 4 = .ok (.aload_n 0, 1) := by decide +kernel
theorem dX2_init_5 : decode cX2_init 5 = .ok (.bipush 60, 2) := by decide +kernel
theorem dX2_init_7 : decode cX2_init 7 = .ok (.newarray .int, 2) := by decide +kernel
theorem dX2_init_9 : decode cX2_init 9 = .ok (.putfield 9, 3) := by decide +kernel
theorem dX2_init_12 : decode cX2_init 12 = .ok (.aload_n 0, 1) := by decide +kernel
theorem dX2_init_13 : decode cX2_init 13 = .ok (.iconst 0, 1) := by decide +kernel
theorem dX2_init_14 : decode cX2_init 14 = .ok (.putfield 15, 3) := by decide +kernel
theorem dX2_init_17 : decode cX2_init 17 = .ok (.return_, 1) := by decide +kernel
set_option maxRecDepth 20000 in
theorem ggX3_init_X0_init : GoodIn wsX3_init wsX0_init := goodIn_r _ [18, 19, 2, 3, 20, 21, 22, 23, 24, 25, 26, 27, 43, 44, 45, 46, 47, 48, 49] (by decide +kernel) (by decide +kernel)
set_option maxRecDepth 20000 in
theorem gX3_init_X0_init : GoodIn wsX3_init (wsX0_init) := ggX3_init_X0_init
set_option maxRecDepth 20000 in
theorem ggX3_init_X1_init : GoodIn wsX3_init wsX1_init := goodIn_r _ [30, 31, 2, 3, 32, 33, 34, 35, 5, 6, 36, 17, 18, 19, 20, 21, 22, 23, 24, 25, 26, 27, 53, 54, 55, 43, 44, 45, 46, 47, 48, 49] (by decide +kernel) (by decide +kernel)
set_option maxRecDepth 20000 in
theorem gX3_init_X1_init : GoodIn wsX3_init (wsX1_init) := ggX3_init_X1_init
set_option maxRecDepth 20000 in
theorem ggX3_init_X2_init : GoodIn wsX3_init wsX2_init := goodIn_r _ [39, 40, 2, 3, 20, 41, 42, 56, 57] (by decide +kernel) (by decide +kernel)
set_option maxRecDepth 20000 in
theorem gX3_init_X2_init : GoodIn wsX3_init (wsX2_init) := ggX3_init_X2_init
theorem dX3_init_0 : decode cX3_init 0 = .ok (.aload_n 0, 1) := by decide +kernel
theorem dX3_init_1 : decode cX3_init 1 = .ok (.invokespecial 3, 3) := by decide +kernel
theorem dX3_init_4 : decode cX3_init 4 = .ok (.aload_n 0, 1) := by decide +kernel
theorem dX3_init_5 : decode cX3_init 5 = .ok (.new 9, 3) := by decide +kernel
theorem dX3_init_8 : decode cX3_init 8 = .ok (.dup, 1) := by decide +kernel
theorem dX3_init_9 : decode cX3_init 9 = .ok (.invokespecial 11, 3) := by decide +kernel
theorem dX3_init_12 : decode cX3_init 12 = .ok (.putfield 12, 3) := by decide +kernel
theorem dX3_init_15 : decode cX3_init 15 = .ok (.aload_n 0, 1) := by decide +kernel
theorem dX3_init_16 : decode cX3_init 16 = .ok (.new 16, 3) := by decide +kernel
theorem dX3_init_19 : decode cX3_init 19 = .ok (.dup, 1) := by decide +kernel
theorem dX3_init_20 : decode cX3_init 20 = .ok (.invokespecial 18, 3) := by decide +kernel
theorem dX3_init_23 : decode cX3_init 23 = .ok (.putfield 19, 3) := by decide +kernel
theorem dX3_init_26 : decode cX3_init 26 = .ok (.aload_n 0, 1) := by decide +kernel
theorem dX3_init_27 : decode cX3_init 27 = .ok (.new 23, 3) := by decide +kernel
theorem dX3_init_30 : decode cX3_init 30 = .ok (.dup, 1) := by decide +kernel
theorem dX3_init_31 : decode cX3_init 31 = .ok (.invokespecial 25, 3) := by decide +kernel
theorem dX3_init_34 : decode cX3_init 34 = .ok (.putfield 26, 3) := by decide +kernel
theorem dX3_init_37 : decode cX3_init 37 = .ok (.return_, 1) := by decide +kernel
set_option maxRecDepth 20000 in
theorem ggX3_move_X3_checkRod : GoodIn wsX3_move wsX3_checkRod := goodIn_ca (goodIn_r _ [8, 9, 10] (by decide +kernel) (by decide +kernel)) (goodIn_sub (fun _ h => List.mem_cons_of_mem _ (List.mem_append_left _ (List.mem_append_right _ h))) (by decide +kernel))
set_option maxRecDepth 20000 in
theorem gX3_move_X3_checkRod : GoodIn wsX3_move (va_wsS RX3 30 yX3_checkRod wsX3_checkRod) := goodIn_app (goodIn_of _ (by decide +kernel)) ggX3_move_X3_checkRod
set_option maxRecDepth 20000 in
theorem ggX3_move_X3_checkRange : GoodIn wsX3_move wsX3_checkRange := goodIn_ca (goodIn_r _ [13, 14, 15] (by decide +kernel) (by decide +kernel)) (goodIn_sub (fun _ h => List.mem_cons_of_mem _ (List.mem_append_right _ h)) (by decide +kernel))
set_option maxRecDepth 20000 in
theorem gX3_move_X3_checkRange : GoodIn wsX3_move (va_wsS RX3 34 yX3_checkRange wsX3_checkRange) := goodIn_app (goodIn_of _ (by decide +kernel)) ggX3_move_X3_checkRange
set_option maxRecDepth 20000 in
theorem ggX3_move_X0_movesBy : GoodIn wsX3_move wsX0_movesBy := goodIn_r _ [20, 21, 22, 23, 24, 25, 26, 27, 51, 52, 53, 54, 55, 56, 57] (by decide +kernel) (by decide +kernel)
set_option maxRecDepth 20000 in
theorem gX3_move_X0_movesBy : GoodIn wsX3_move (wsV RX3 38 RX0 yX0_movesBy wsX0_movesBy) := goodIn_app (goodIn_of _ (by decide +kernel)) ggX3_move_X0_movesBy
set_option maxRecDepth 20000 in
theorem ggX3_move_X1_keep : GoodIn wsX3_move wsX1_keep := goodIn_r _ [32, 33, 34, 35, 36, 37, 38, 19, 39, 21, 26, 27, 40, 41, 42, 43, 58, 59, 60, 51, 52, 53, 54, 55, 56, 57] (by decide +kernel) (by decide +kernel)
set_option maxRecDepth 20000 in
theorem gX3_move_X1_keep : GoodIn wsX3_move (wsV RX3 49 RX1 yX1_keep wsX1_keep) := goodIn_app (goodIn_of _ (by decide +kernel)) ggX3_move_X1_keep
set_option maxRecDepth 20000 in
theorem ggX3_move_X0_place : GoodIn wsX3_move wsX0_place := goodIn_r _ [47, 21, 26, 41, 51, 52, 53, 54, 55, 56, 57] (by decide +kernel) (by decide +kernel)
set_option maxRecDepth 20000 in
theorem gX3_move_X0_place : GoodIn wsX3_move (wsV RX3 53 RX0 yX0_place wsX0_place) := goodIn_app (goodIn_of _ (by decide +kernel)) ggX3_move_X0_place
theorem dX3_move_0 : decode cX3_move 0 = .ok (.iload_n 1, 1) := by decide +kernel
theorem dX3_move_1 : decode cX3_move 1 = .ok (.invokestatic 30, 3) := by decide +kernel
theorem dX3_move_4 : decode cX3_move 4 = .ok (.iload_n 2, 1) := by decide +kernel
theorem dX3_move_5 : decode cX3_move 5 = .ok (.iconst 0, 1) := by decide +kernel
theorem dX3_move_6 : decode cX3_move 6 = .ok (.iconst 2, 1) := by decide +kernel
theorem dX3_move_7 : decode cX3_move 7 = .ok (.invokestatic 34, 3) := by decide +kernel
theorem dX3_move_10 : decode cX3_move 10 = .ok (.iload_n 3, 1) := by decide +kernel
theorem dX3_move_11 : decode cX3_move 11 = .ok (.iconst 0, 1) := by decide +kernel
theorem dX3_move_12 : decode cX3_move 12 = .ok (.iconst 5, 1) := by decide +kernel
theorem dX3_move_13 : decode cX3_move 13 = .ok (.invokestatic 34, 3) := by decide +kernel
theorem dX3_move_16 : decode cX3_move 16 = .ok (.aload_n 0, 1) := by decide +kernel
theorem dX3_move_17 : decode cX3_move 17 = .ok (.getfield 12, 3) := by decide +kernel
theorem dX3_move_20 : decode cX3_move 20 = .ok (.iload_n 1, 1) := by decide +kernel
theorem dX3_move_21 : decode cX3_move 21 = .ok (.iload_n 2, 1) := by decide +kernel
theorem dX3_move_22 : decode cX3_move 22 = .ok (.iload_n 3, 1) := by decide +kernel
theorem dX3_move_23 : decode cX3_move 23 = .ok (.invokevirtual 38, 3) := by decide +kernel
theorem dX3_move_26 : decode cX3_move 26 = .ok (.istore 4, 2) := by decide +kernel
theorem dX3_move_28 : decode cX3_move 28 = .ok (.iload 4, 2) := by decide +kernel
theorem dX3_move_30 : decode cX3_move 30 = .ok (.iconst (-1), 1) := by decide +kernel
theorem dX3_move_31 : decode cX3_move 31 = .ok (.if_icmp .ne 13, 3) := by decide +kernel
theorem dX3_move_34 : decode cX3_move 34 = .ok (.new 42, 3) := by decide +kernel
theorem dX3_move_37 : decode cX3_move 37 = .ok (.dup, 1) := by decide +kernel
theorem dX3_move_38 : decode cX3_move 38 = .ok (.ldc 44, 2) := by decide +kernel
theorem dX3_move_40 : decode cX3_move 40 = .ok (.invokespecial 46, 3) := by decide +kernel
theorem dX3_move_43 : decode cX3_move 43 = .ok (.athrow, 1) := by decide +kernel
theorem dX3_move_44 : decode cX3_move 44 = .ok (.aload_n 0, 1) := by decide +kernel
theorem dX3_move_45 : decode cX3_move 45 = .ok (.getfield 19, 3) := by decide +kernel
theorem dX3_move_48 : decode cX3_move 48 = .ok (.aload_n 0, 1) := by decide +kernel
theorem dX3_move_49 : decode cX3_move 49 = .ok (.getfield 12, 3) := by decide +kernel
theorem dX3_move_52 : decode cX3_move 52 = .ok (.invokevirtual 49, 3) := by decide +kernel
theorem dX3_move_55 : decode cX3_move 55 = .ok (.aload_n 0, 1) := by decide +kernel
theorem dX3_move_56 : decode cX3_move 56 = .ok (.getfield 12, 3) := by decide +kernel
theorem dX3_move_59 : decode cX3_move 59 = .ok (.iload_n 1, 1) := by decide +kernel
theorem dX3_move_60 : decode cX3_move 60 = .ok (.iload_n 2, 1) := by decide +kernel
theorem dX3_move_61 : decode cX3_move 61 = .ok (.iload_n 3, 1) := by decide +kernel
theorem dX3_move_62 : decode cX3_move 62 = .ok (.iload 4, 2) := by decide +kernel
theorem dX3_move_64 : decode cX3_move 64 = .ok (.invokevirtual 53, 3) := by decide +kernel
theorem dX3_move_67 : decode cX3_move 67 = .ok (.iload 4, 2) := by decide +kernel
theorem dX3_move_69 : decode cX3_move 69 = .ok (.ireturn, 1) := by decide +kernel
set_option maxRecDepth 20000 in
theorem ggX3_stick_X3_checkRod : GoodIn wsX3_stick wsX3_checkRod := goodIn_ca (goodIn_r _ [7, 8, 9] (by decide +kernel) (by decide +kernel)) (goodIn_sub (fun _ h => List.mem_cons_of_mem _ (List.mem_append_left _ (List.mem_append_right _ h))) (by decide +kernel))
set_option maxRecDepth 20000 in
theorem gX3_stick_X3_checkRod : GoodIn wsX3_stick (va_wsS RX3 30 yX3_checkRod wsX3_checkRod) := goodIn_app (goodIn_of _ (by decide +kernel)) ggX3_stick_X3_checkRod
set_option maxRecDepth 20000 in
theorem ggX3_stick_X3_checkRange : GoodIn wsX3_stick wsX3_checkRange := goodIn_ca (goodIn_r _ [12, 13, 14] (by decide +kernel) (by decide +kernel)) (goodIn_sub (fun _ h => List.mem_cons_of_mem _ (List.mem_append_right _ h)) (by decide +kernel))
set_option maxRecDepth 20000 in
theorem gX3_stick_X3_checkRange : GoodIn wsX3_stick (va_wsS RX3 34 yX3_checkRange wsX3_checkRange) := goodIn_app (goodIn_of _ (by decide +kernel)) ggX3_stick_X3_checkRange
set_option maxRecDepth 20000 in
theorem ggX3_stick_X1_keep : GoodIn wsX3_stick wsX1_keep := goodIn_r _ [19, 20, 21, 22, 23, 24, 25, 26, 27, 28, 29, 30, 31, 32, 33, 34, 45, 46, 47, 38, 39, 40, 41, 42, 43, 44] (by decide +kernel) (by decide +kernel)
set_option maxRecDepth 20000 in
theorem gX3_stick_X1_keep : GoodIn wsX3_stick (wsV RX3 49 RX1 yX1_keep wsX1_keep) := goodIn_app (goodIn_of _ (by decide +kernel)) ggX3_stick_X1_keep
theorem dX3_stick_0 : decode cX3_stick 0 = .ok (.iload_n 1, 1) := by decide +kernel
theorem dX3_stick_1 : decode cX3_stick 1 = .ok (.invokestatic 30, 3) := by decide +kernel
theorem dX3_stick_4 : decode cX3_stick 4 = .ok (.iload_n 2, 1) := by decide +kernel
end
section
theorem dX3_stick_5 : decode cX3_stick 5 = .ok (.iconst 0, 1) := by decide +kernel
theorem dX3_stick_6 : decode cX3_stick 6 = .ok (.iconst 3, 1) := by decide +kernel
theorem dX3_stick_7 : decode cX3_stick 7 = .ok (.invokestatic 34, 3) := by decide +kernel
theorem dX3_stick_10 : decode cX3_stick 10 = .ok (.aload_n 0, 1) := by decide +kernel
theorem dX3_stick_11 : decode cX3_stick 11 = .ok (.getfield 19, 3) := by decide +kernel
theorem dX3_stick_14 : decode cX3_stick 14 = .ok (.aload_n 0, 1) := by decide +kernel
theorem dX3_stick_15 : decode cX3_stick 15 = .ok (.getfield 12, 3) := by decide +kernel
theorem dX3_stick_18 : decode cX3_stick 18 = .ok (.invokevirtual 49, 3) := by decide +kernel
theorem dX3_stick_21 : decode cX3_stick 21 = .ok (.aload_n 0, 1) := by decide +kernel
theorem dX3_stick_22 : decode cX3_stick 22 = .ok (.getfield 12, 3) := by decide +kernel
theorem dX3_stick_25 : decode cX3_stick 25 = .ok (.getfield 57, 3) := by decide +kernel
theorem dX3_stick_28 : decode cX3_stick 28 = .ok (.iload_n 1, 1) := by decide +kernel
theorem dX3_stick_29 : decode cX3_stick 29 = .ok (.iaload, 1) := by decide +kernel
theorem dX3_stick_30 : decode cX3_stick 30 = .ok (.istore_n 3, 1) := by decide +kernel
theorem dX3_stick_31 : decode cX3_stick 31 = .ok (.aload_n 0, 1) := by decide +kernel
theorem dX3_stick_32 : decode cX3_stick 32 = .ok (.getfield 12, 3) := by decide +kernel
theorem dX3_stick_35 : decode cX3_stick 35 = .ok (.getfield 57, 3) := by decide +kernel
theorem dX3_stick_38 : decode cX3_stick 38 = .ok (.iload_n 1, 1) := by decide +kernel
theorem dX3_stick_39 : decode cX3_stick 39 = .ok (.iload_n 2, 1) := by decide +kernel
theorem dX3_stick_40 : decode cX3_stick 40 = .ok (.iastore, 1) := by decide +kernel
theorem dX3_stick_41 : decode cX3_stick 41 = .ok (.iload_n 3, 1) := by decide +kernel
theorem dX3_stick_42 : decode cX3_stick 42 = .ok (.ireturn, 1) := by decide +kernel
set_option maxRecDepth 20000 in
theorem ggX3_set_X3_checkRange : GoodIn wsX3_set wsX3_checkRange := goodIn_ca (goodIn_r _ [7, 8, 9] (by decide +kernel) (by decide +kernel)) (goodIn_sub (fun _ h => List.mem_cons_of_mem _ (List.mem_append_right _ h)) (by decide +kernel))
set_option maxRecDepth 20000 in
theorem gX3_set_X3_checkRange : GoodIn wsX3_set (va_wsS RX3 34 yX3_checkRange wsX3_checkRange) := goodIn_app (goodIn_of _ (by decide +kernel)) ggX3_set_X3_checkRange
set_option maxRecDepth 20000 in
theorem ggX3_set_X1_keep : GoodIn wsX3_set wsX1_keep := goodIn_r _ [14, 15, 16, 17, 18, 19, 20, 21, 22, 23, 24, 25, 26, 27, 28, 29, 40, 41, 42, 33, 34, 35, 36, 37, 38, 39] (by decide +kernel) (by decide +kernel)
set_option maxRecDepth 20000 in
theorem gX3_set_X1_keep : GoodIn wsX3_set (wsV RX3 49 RX1 yX1_keep wsX1_keep) := goodIn_app (goodIn_of _ (by decide +kernel)) ggX3_set_X1_keep
theorem dX3_set_0 : decode cX3_set 0 = .ok (.iload_n 1, 1) := by decide +kernel
theorem dX3_set_1 : decode cX3_set 1 = .ok (.iconst 0, 1) := by decide +kernel
theorem dX3_set_2 : decode cX3_set 2 = .ok (.bipush 9, 2) := by decide +kernel
theorem dX3_set_4 : decode cX3_set 4 = .ok (.invokestatic 34, 3) := by decide +kernel
theorem dX3_set_7 : decode cX3_set 7 = .ok (.aload_n 0, 1) := by decide +kernel
theorem dX3_set_8 : decode cX3_set 8 = .ok (.getfield 19, 3) := by decide +kernel
theorem dX3_set_11 : decode cX3_set 11 = .ok (.aload_n 0, 1) := by decide +kernel
theorem dX3_set_12 : decode cX3_set 12 = .ok (.getfield 12, 3) := by decide +kernel
theorem dX3_set_15 : decode cX3_set 15 = .ok (.invokevirtual 49, 3) := by decide +kernel
theorem dX3_set_18 : decode cX3_set 18 = .ok (.aload_n 0, 1) := by decide +kernel
theorem dX3_set_19 : decode cX3_set 19 = .ok (.getfield 12, 3) := by decide +kernel
theorem dX3_set_22 : decode cX3_set 22 = .ok (.getfield 61, 3) := by decide +kernel
theorem dX3_set_25 : decode cX3_set 25 = .ok (.istore_n 2, 1) := by decide +kernel
theorem dX3_set_26 : decode cX3_set 26 = .ok (.aload_n 0, 1) := by decide +kernel
theorem dX3_set_27 : decode cX3_set 27 = .ok (.getfield 12, 3) := by decide +kernel
theorem dX3_set_30 : decode cX3_set 30 = .ok (.iload_n 1, 1) := by decide +kernel
theorem dX3_set_31 : decode cX3_set 31 = .ok (.putfield 61, 3) := by decide +kernel
theorem dX3_set_34 : decode cX3_set 34 = .ok (.iload_n 2, 1) := by decide +kernel
theorem dX3_set_35 : decode cX3_set 35 = .ok (.ireturn, 1) := by decide +kernel
set_option maxRecDepth 20000 in
theorem ggX3_add_X3_checkRod : GoodIn wsX3_add wsX3_checkRod := goodIn_ca (goodIn_r _ [4, 5, 6] (by decide +kernel) (by decide +kernel)) (goodIn_sub (fun _ h => List.mem_cons_of_mem _ (List.mem_append_left _ (List.mem_append_left _ (List.mem_append_right _ h)))) (by decide +kernel))
set_option maxRecDepth 20000 in
theorem gX3_add_X3_checkRod : GoodIn wsX3_add (va_wsS RX3 30 yX3_checkRod wsX3_checkRod) := goodIn_app (goodIn_of _ (by decide +kernel)) ggX3_add_X3_checkRod
set_option maxRecDepth 20000 in
theorem ggX3_add_X3_checkRange : GoodIn wsX3_add wsX3_checkRange := goodIn_ca (goodIn_r _ [9, 10, 11] (by decide +kernel) (by decide +kernel)) (goodIn_sub (fun _ h => List.mem_cons_of_mem _ (List.mem_append_left _ (List.mem_append_right _ h))) (by decide +kernel))
set_option maxRecDepth 20000 in
theorem gX3_add_X3_checkRange : GoodIn wsX3_add (va_wsS RX3 34 yX3_checkRange wsX3_checkRange) := goodIn_app (goodIn_of _ (by decide +kernel)) ggX3_add_X3_checkRange
set_option maxRecDepth 20000 in
theorem ggX3_add_X3_changeOrThrow : GoodIn wsX3_add wsX3_changeOrThrow := goodIn_ca (goodIn_r _ [15, 16, 17, 18, 19, 20, 21, 22, 23, 24, 25, 26, 27, 28, 29, 30, 31, 32, 33, 34, 35, 36, 37, 38, 39, 40, 41, 42, 43, 44, 45, 46, 47, 48, 49, 50, 51, 52, 53, 54, 55, 56, 57, 58, 59, 60, 61, 62, 63, 64, 65, 66, 67, 68, 69, 70, 71, 72, 73, 74, 75, 76, 77, 78, 79, 80, 81, 82, 83, 84] (by decide +kernel) (by decide +kernel)) (goodIn_sub (fun _ h => List.mem_cons_of_mem _ (List.mem_append_right _ h)) (by decide +kernel))
set_option maxRecDepth 20000 in
theorem gX3_add_X3_changeOrThrow : GoodIn wsX3_add (wsV RX3 65 RX3 yX3_changeOrThrow wsX3_changeOrThrow) := goodIn_app (goodIn_of _ (by decide +kernel)) ggX3_add_X3_changeOrThrow
theorem dX3_add_0 : decode cX3_add 0 = .ok (.iload_n 1, 1) := by decide +kernel
theorem dX3_add_1 : decode cX3_add 1 = .ok (.invokestatic 30, 3) := by decide +kernel
theorem dX3_add_4 : decode cX3_add 4 = .ok (.iload_n 2, 1) := by decide +kernel
theorem dX3_add_5 : decode cX3_add 5 = .ok (.iconst 1, 1) := by decide +kernel
theorem dX3_add_6 : decode cX3_add 6 = .ok (.bipush 9, 2) := by decide +kernel
theorem dX3_add_8 : decode cX3_add 8 = .ok (.invokestatic 34, 3) := by decide +kernel
theorem dX3_add_11 : decode cX3_add 11 = .ok (.aload_n 0, 1) := by decide +kernel
theorem dX3_add_12 : decode cX3_add 12 = .ok (.iload_n 1, 1) := by decide +kernel
theorem dX3_add_13 : decode cX3_add 13 = .ok (.iload_n 2, 1) := by decide +kernel
theorem dX3_add_14 : decode cX3_add 14 = .ok (.invokevirtual 65, 3) := by decide +kernel
theorem dX3_add_17 : decode cX3_add 17 = .ok (.ireturn, 1) := by decide +kernel
set_option maxRecDepth 20000 in
theorem ggX3_less_X3_checkRod : GoodIn wsX3_less wsX3_checkRod := goodIn_ca (goodIn_r _ [4, 5, 6] (by decide +kernel) (by decide +kernel)) (goodIn_sub (fun _ h => List.mem_cons_of_mem _ (List.mem_append_left _ (List.mem_append_left _ (List.mem_append_right _ h)))) (by decide +kernel))
set_option maxRecDepth 20000 in
theorem gX3_less_X3_checkRod : GoodIn wsX3_less (va_wsS RX3 30 yX3_checkRod wsX3_checkRod) := goodIn_app (goodIn_of _ (by decide +kernel)) ggX3_less_X3_checkRod
set_option maxRecDepth 20000 in
theorem ggX3_less_X3_checkRange : GoodIn wsX3_less wsX3_checkRange := goodIn_ca (goodIn_r _ [9, 10, 11] (by decide +kernel) (by decide +kernel)) (goodIn_sub (fun _ h => List.mem_cons_of_mem _ (List.mem_append_left _ (List.mem_append_right _ h))) (by decide +kernel))
set_option maxRecDepth 20000 in
theorem gX3_less_X3_checkRange : GoodIn wsX3_less (va_wsS RX3 34 yX3_checkRange wsX3_checkRange) := goodIn_app (goodIn_of _ (by decide +kernel)) ggX3_less_X3_checkRange
set_option maxRecDepth 20000 in
theorem ggX3_less_X3_changeOrThrow : GoodIn wsX3_less wsX3_changeOrThrow := goodIn_ca (goodIn_r _ [15, 16, 17, 18, 19, 20, 21, 22, 23, 24, 25, 26, 27, 28, 29, 30, 31, 32, 33, 34, 35, 36, 37, 38, 39, 40, 41, 42, 43, 44, 45, 46, 47, 48, 49, 50, 51, 52, 53, 54, 55, 56, 57, 58, 59, 60, 61, 62, 63, 64, 65, 66, 67, 68, 69, 70, 71, 72, 73, 74, 75, 76, 77, 78, 79, 80, 81, 82, 83, 84] (by decide +kernel) (by decide +kernel)) (goodIn_sub (fun _ h => List.mem_cons_of_mem _ (List.mem_append_right _ h)) (by decide +kernel))
set_option maxRecDepth 20000 in
theorem gX3_less_X3_changeOrThrow : GoodIn wsX3_less (wsV RX3 65 RX3 yX3_changeOrThrow wsX3_changeOrThrow) := goodIn_app (goodIn_of _ (by decide +kernel)) ggX3_less_X3_changeOrThrow
theorem dX3_less_0 : decode cX3_less 0 = .ok (.iload_n 1, 1) := by decide +kernel
theorem dX3_less_1 : decode cX3_less 1 = .ok (.invokestatic 30, 3) := by decide +kernel
theorem dX3_less_4 : decode cX3_less 4 = .ok (.iload_n 2, 1) := by decide +kernel
theorem dX3_less_5 : decode cX3_less 5 = .ok (.iconst 1, 1) := by decide +kernel
theorem dX3_less_6 : decode cX3_less 6 = .ok (.bipush 9, 2) := by decide +kernel
theorem dX3_less_8 : decode cX3_less 8 = .ok (.invokestatic 34, 3) := by decide +kernel
theorem dX3_less_11 : decode cX3_less 11 = .ok (.aload_n 0, 1) := by decide +kernel
theorem dX3_less_12 : decode cX3_less 12 = .ok (.iload_n 1, 1) := by decide +kernel
theorem dX3_less_13 : decode cX3_less 13 = .ok (.iload_n 2, 1) := by decide +kernel
theorem dX3_less_14 : decode cX3_less 14 = .ok (.ineg, 1) := by decide +kernel
theorem dX3_less_15 : decode cX3_less 15 = .ok (.invokevirtual 65, 3) := by decide +kernel
theorem dX3_less_18 : decode cX3_less 18 = .ok (.ireturn, 1) := by decide +kernel
set_option maxRecDepth 20000 in
theorem ggX3_pay_X3_checkRod : GoodIn wsX3_pay wsX3_checkRod := goodIn_ca (goodIn_r _ [9, 10, 11] (by decide +kernel) (by decide +kernel)) (goodIn_sub (fun _ h => List.mem_cons_of_mem _ (List.mem_append_right _ h)) (by decide +kernel))
set_option maxRecDepth 20000 in
theorem gX3_pay_X3_checkRod : GoodIn wsX3_pay (va_wsS RX3 30 yX3_checkRod wsX3_checkRod) := goodIn_app (goodIn_of _ (by decide +kernel)) ggX3_pay_X3_checkRod
set_option maxRecDepth 20000 in
theorem ggX3_pay_X0_change : GoodIn wsX3_pay wsX0_change := goodIn_r _ [16, 17, 18, 19, 15, 20, 21, 22, 23, 24, 25, 26, 27, 28, 29, 30, 31, 32, 33, 34, 35, 36, 37, 38, 39, 40, 41, 42, 43, 44, 45, 46, 47, 48, 49, 50, 51, 72, 73, 74, 75, 76, 77, 78] (by decide +kernel) (by decide +kernel)
set_option maxRecDepth 20000 in
theorem gX3_pay_X0_change : GoodIn wsX3_pay (wsV RX3 72 RX0 yX0_change wsX0_change) := goodIn_app (goodIn_of _ (by decide +kernel)) ggX3_pay_X0_change
set_option maxRecDepth 20000 in
theorem ggX3_pay_X1_keep : GoodIn wsX3_pay wsX1_keep := goodIn_r _ [56, 57, 58, 59, 60, 61, 62, 15, 63, 21, 22, 35, 49, 40, 51, 50, 79, 80, 81, 72, 73, 74, 75, 76, 77, 78] (by decide +kernel) (by decide +kernel)
set_option maxRecDepth 20000 in
theorem gX3_pay_X1_keep : GoodIn wsX3_pay (wsV RX3 49 RX1 yX1_keep wsX1_keep) := goodIn_app (goodIn_of _ (by decide +kernel)) ggX3_pay_X1_keep
set_option maxRecDepth 20000 in
theorem ggX3_pay_X0_payIfPossible : GoodIn wsX3_pay wsX0_payIfPossible := goodIn_r _ [67, 49, 68, 13, 14, 15, 16, 17, 18, 19, 20, 21, 22, 23, 24, 25, 26, 27, 28, 29, 30, 31, 32, 33, 34, 35, 36, 37, 38, 39, 40, 41, 42, 43, 44, 45, 46, 47, 48, 50, 51, 72, 73, 74, 75, 76, 77, 78] (by decide +kernel) (by decide +kernel)
set_option maxRecDepth 20000 in
theorem gX3_pay_X0_payIfPossible : GoodIn wsX3_pay (wsV RX3 78 RX0 yX0_payIfPossible wsX0_payIfPossible) := goodIn_app (goodIn_of _ (by decide +kernel)) ggX3_pay_X0_payIfPossible
theorem dX3_pay_0 : decode cX3_pay 0 = .ok (.iload_n 1, 1) := by decide +kernel
theorem dX3_pay_1 : decode cX3_pay 1 = .ok (.invokestatic 30, 3) := by decide +kernel
theorem dX3_pay_4 : decode cX3_pay 4 = .ok (.aload_n 0, 1) := by decide +kernel
theorem dX3_pay_5 : decode cX3_pay 5 = .ok (.getfield 12, 3) := by decide +kernel
theorem dX3_pay_8 : decode cX3_pay 8 = .ok (.iload_n 1, 1) := by decide +kernel
theorem dX3_pay_9 : decode cX3_pay 9 = .ok (.aload_n 0, 1) := by decide +kernel
theorem dX3_pay_10 : decode cX3_pay 10 = .ok (.getfield 12, 3) := by decide +kernel
theorem dX3_pay_13 : decode cX3_pay 13 = .ok (.getfield 69, 3) := by decide +kernel
theorem dX3_pay_16 : decode cX3_pay 16 = .ok (.iload_n 1, 1) := by decide +kernel
theorem dX3_pay_17 : decode cX3_pay 17 = .ok (.iaload, 1) := by decide +kernel
theorem dX3_pay_18 : decode cX3_pay 18 = .ok (.iconst 0, 1) := by decide +kernel
theorem dX3_pay_19 : decode cX3_pay 19 = .ok (.invokevirtual 72, 3) := by decide +kernel
theorem dX3_pay_22 : decode cX3_pay 22 = .ok (.iconst (-1), 1) := by decide +kernel
theorem dX3_pay_23 : decode cX3_pay 23 = .ok (.if_icmp .ne 13, 3) := by decide +kernel
theorem dX3_pay_26 : decode cX3_pay 26 = .ok (.new 42, 3) := by decide +kernel
theorem dX3_pay_29 : decode cX3_pay 29 = .ok (.dup, 1) := by decide +kernel
theorem dX3_pay_30 : decode cX3_pay 30 = .ok (.ldc 76, 2) := by decide +kernel
theorem dX3_pay_32 : decode cX3_pay 32 = .ok (.invokespecial 46, 3) := by decide +kernel
theorem dX3_pay_35 : decode cX3_pay 35 = .ok (.athrow, 1) := by decide +kernel
theorem dX3_pay_36 : decode cX3_pay 36 = .ok (.aload_n 0, 1) := by decide +kernel
theorem dX3_pay_37 : decode cX3_pay 37 = .ok (.getfield 19, 3) := by decide +kernel
theorem dX3_pay_40 : decode cX3_pay 40 = .ok (.aload_n 0, 1) := by decide +kernel
theorem dX3_pay_41 : decode cX3_pay 41 = .ok (.getfield 12, 3) := by decide +kernel
theorem dX3_pay_44 : decode cX3_pay 44 = .ok (.invokevirtual 49, 3) := by decide +kernel
theorem dX3_pay_47 : decode cX3_pay 47 = .ok (.aload_n 0, 1) := by decide +kernel
theorem dX3_pay_48 : decode cX3_pay 48 = .ok (.getfield 12, 3) := by decide +kernel
theorem dX3_pay_51 : decode cX3_pay 51 = .ok (.iload_n 1, 1) := by decide +kernel
theorem dX3_pay_52 : decode cX3_pay 52 = .ok (.invokevirtual 78, 3) := by decide +kernel
theorem dX3_pay_55 : decode cX3_pay 55 = .ok (.ireturn, 1) := by decide +kernel
set_option maxRecDepth 20000 in
theorem ggX3_tidy_X1_keep : GoodIn wsX3_tidy wsX1_keep := goodIn_r _ [7, 8, 9, 10, 11, 12, 13, 14, 15, 16, 17, 18, 19, 20, 21, 22, 66, 67, 68, 69, 70, 71, 72, 73, 74, 75] (by decide +kernel) (by decide +kernel)
set_option maxRecDepth 20000 in
theorem gX3_tidy_X1_keep : GoodIn wsX3_tidy (wsV RX3 49 RX1 yX1_keep wsX1_keep) := goodIn_app (goodIn_of _ (by decide +kernel)) ggX3_tidy_X1_keep
set_option maxRecDepth 20000 in
theorem ggX3_tidy_X0_payIfPossible : GoodIn wsX3_tidy wsX0_payIfPossible := goodIn_r _ [26, 19, 27, 28, 29, 14, 30, 31, 32, 33, 34, 16, 17, 35, 36, 37, 38, 39, 40, 41, 42, 43, 44, 45, 46, 18, 47, 48, 49, 50, 20, 51, 52, 53, 54, 55, 56, 57, 58, 22, 21, 69, 70, 71, 72, 73, 74, 75] (by decide +kernel) (by decide +kernel)
set_option maxRecDepth 20000 in
theorem gX3_tidy_X0_payIfPossible : GoodIn wsX3_tidy (wsV RX3 78 RX0 yX0_payIfPossible wsX0_payIfPossible) := goodIn_app (goodIn_of _ (by decide +kernel)) ggX3_tidy_X0_payIfPossible
set_option maxRecDepth 20000 in
theorem ggX3_tidy_X0_orderIfPossible : GoodIn wsX3_tidy wsX0_orderIfPossible := goodIn_r _ [62, 31, 32, 33, 14, 34, 16, 17, 51, 52, 53, 54, 35, 36, 37, 38, 39, 40, 41, 42, 43, 44, 45, 46, 18, 47, 48, 49, 50, 20, 55, 56, 57, 58, 19, 22, 21, 69, 70, 71, 72, 73, 74, 75] (by decide +kernel) (by decide +kernel)
set_option maxRecDepth 20000 in
theorem gX3_tidy_X0_orderIfPossible : GoodIn wsX3_tidy (wsV RX3 82 RX0 yX0_orderIfPossible wsX0_orderIfPossible) := goodIn_app (goodIn_of _ (by decide +kernel)) ggX3_tidy_X0_orderIfPossible
theorem dX3_tidy_0 : decode cX3_tidy 0 = .ok (.aload_n 0, 1) := by decide +kernel
theorem dX3_tidy_1 : decode cX3_tidy 1 = .ok (.getfield 19, 3) := by decide +kernel
theorem dX3_tidy_4 : decode cX3_tidy 4 = .ok (.aload_n 0, 1) := by decide +kernel
theorem dX3_tidy_5 : decode cX3_tidy 5 = .ok (.getfield 12, 3) := by decide +kernel
theorem dX3_tidy_8 : decode cX3_tidy 8 = .ok (.invokevirtual 49, 3) := by decide +kernel
theorem dX3_tidy_11 : decode cX3_tidy 11 = .ok (.iconst 0, 1) := by decide +kernel
theorem dX3_tidy_12 : decode cX3_tidy 12 = .ok (.istore_n 1, 1) := by decide +kernel
theorem dX3_tidy_13 : decode cX3_tidy 13 = .ok (.iconst 0, 1) := by decide +kernel
theorem dX3_tidy_14 : decode cX3_tidy 14 = .ok (.istore_n 2, 1) := by decide +kernel
theorem dX3_tidy_15 : decode cX3_tidy 15 = .ok (.iload_n 2, 1) := by decide +kernel
theorem dX3_tidy_16 : decode cX3_tidy 16 = .ok (.bipush 9, 2) := by decide +kernel
theorem dX3_tidy_18 : decode cX3_tidy 18 = .ok (.if_icmp .ge 31, 3) := by decide +kernel
theorem dX3_tidy_21 : decode cX3_tidy 21 = .ok (.iload_n 1, 1) := by decide +kernel
theorem dX3_tidy_22 : decode cX3_tidy 22 = .ok (.aload_n 0, 1) := by decide +kernel
theorem dX3_tidy_23 : decode cX3_tidy 23 = .ok (.getfield 12, 3) := by decide +kernel
theorem dX3_tidy_26 : decode cX3_tidy 26 = .ok (.iload_n 2, 1) := by decide +kernel
theorem dX3_tidy_27 : decode cX3_tidy 27 = .ok (.invokevirtual 78, 3) := by decide +kernel
theorem dX3_tidy_30 : decode cX3_tidy 30 = .ok (.iadd, 1) := by decide +kernel
theorem dX3_tidy_31 : decode cX3_tidy 31 = .ok (.istore_n 1, 1) := by decide +kernel
theorem dX3_tidy_32 : decode cX3_tidy 32 = .ok (.iload_n 1, 1) := by decide +kernel
theorem dX3_tidy_33 : decode cX3_tidy 33 = .ok (.aload_n 0, 1) := by decide +kernel
theorem dX3_tidy_34 : decode cX3_tidy 34 = .ok (.getfield 12, 3) := by decide +kernel
theorem dX3_tidy_37 : decode cX3_tidy 37 = .ok (.iload_n 2, 1) := by decide +kernel
theorem dX3_tidy_38 : decode cX3_tidy 38 = .ok (.invokevirtual 82, 3) := by decide +kernel
theorem dX3_tidy_41 : decode cX3_tidy 41 = .ok (.iadd, 1) := by decide +kernel
theorem dX3_tidy_42 : decode cX3_tidy 42 = .ok (.istore_n 1, 1) := by decide +kernel
theorem dX3_tidy_43 : decode cX3_tidy 43 = .ok (.iinc 2 1, 3) := by decide +kernel
theorem dX3_tidy_46 : decode cX3_tidy 46 = .ok (.goto (-31), 3) := by decide +kernel
theorem dX3_tidy_49 : decode cX3_tidy 49 = .ok (.iload_n 1, 1) := by decide +kernel
theorem dX3_tidy_50 : decode cX3_tidy 50 = .ok (.ireturn, 1) := by decide +kernel
set_option maxRecDepth 20000 in
theorem ggX3_undo_X1_restore : GoodIn wsX3_undo wsX1_restore := goodIn_r _ [10, 11, 12, 13, 14, 15, 16, 17, 18, 19, 20, 21, 22, 23, 24, 25, 29, 30, 31, 32, 33, 34, 35, 36, 37, 38] (by decide +kernel) (by decide +kernel)
set_option maxRecDepth 20000 in
theorem gX3_undo_X1_restore : GoodIn wsX3_undo (wsV RX3 121 RX1 yX1_restore wsX1_restore) := goodIn_app (goodIn_of _ (by decide +kernel)) ggX3_undo_X1_restore
theorem dX3_undo_0 : decode cX3_undo 0 = .ok (.aload_n 0, 1) := by decide +kernel
theorem dX3_undo_1 : decode cX3_undo 1 = .ok (.getfield 19, 3) := by decide +kernel
theorem dX3_undo_4 : decode cX3_undo 4 = .ok (.getfield 116, 3) := by decide +kernel
theorem dX3_undo_7 : decode cX3_undo 7 = .ok (.ifCond .ne 13, 3) := by decide +kernel
theorem dX3_undo_10 : decode cX3_undo 10 = .ok (.new 42, 3) := by decide +kernel
theorem dX3_undo_13 : decode cX3_undo 13 = .ok (.dup, 1) := by decide +kernel
theorem dX3_undo_14 : decode cX3_undo 14 = .ok (.ldc 119, 2) := by decide +kernel
theorem dX3_undo_16 : decode cX3_undo 16 = .ok (.invokespecial 46, 3) := by decide +kernel
theorem dX3_undo_19 : decode cX3_undo 19 = .ok (.athrow, 1) := by decide +kernel
theorem dX3_undo_20 : decode cX3_undo 20 = .ok (.aload_n 0, 1) := by decide +kernel
theorem dX3_undo_21 : decode cX3_undo 21 = .ok (.getfield 19, 3) := by decide +kernel
theorem dX3_undo_24 : decode cX3_undo 24 = .ok (.aload_n 0, 1) := by decide +kernel
theorem dX3_undo_25 : decode cX3_undo 25 = .ok (.getfield 12, 3) := by decide +kernel
theorem dX3_undo_28 : decode cX3_undo 28 = .ok (.invokevirtual 121, 3) := by decide +kernel
theorem dX3_undo_31 : decode cX3_undo 31 = .ok (.aload_n 0, 1) := by decide +kernel
theorem dX3_undo_32 : decode cX3_undo 32 = .ok (.getfield 19, 3) := by decide +kernel
theorem dX3_undo_35 : decode cX3_undo 35 = .ok (.getfield 116, 3) := by decide +kernel
theorem dX3_undo_38 : decode cX3_undo 38 = .ok (.ireturn, 1) := by decide +kernel
set_option maxRecDepth 20000 in
theorem ggX3_rod_X3_checkRod : GoodIn wsX3_rod wsX3_checkRod := goodIn_ca (goodIn_r _ [11, 12, 13] (by decide +kernel) (by decide +kernel)) (goodIn_sub (fun _ h => List.mem_cons_of_mem _ (List.mem_append_left _ (List.mem_append_right _ h))) (by decide +kernel))
set_option maxRecDepth 20000 in
theorem gX3_rod_X3_checkRod : GoodIn wsX3_rod (va_wsS RX3 30 yX3_checkRod wsX3_checkRod) := goodIn_app (goodIn_of _ (by decide +kernel)) ggX3_rod_X3_checkRod
set_option maxRecDepth 20000 in
theorem ggX3_rod_X3_checkRange : GoodIn wsX3_rod wsX3_checkRange := goodIn_ca (goodIn_r _ [16, 17, 18] (by decide +kernel) (by decide +kernel)) (goodIn_sub (fun _ h => List.mem_cons_of_mem _ (List.mem_append_right _ h)) (by decide +kernel))
set_option maxRecDepth 20000 in
theorem gX3_rod_X3_checkRange : GoodIn wsX3_rod (va_wsS RX3 34 yX3_checkRange wsX3_checkRange) := goodIn_app (goodIn_of _ (by decide +kernel)) ggX3_rod_X3_checkRange
set_option maxRecDepth 20000 in
theorem ggX3_rod_X0_shown : GoodIn wsX3_rod wsX0_shown := goodIn_r _ [23, 24, 25, 51, 52, 53, 54, 55, 56, 57] (by decide +kernel) (by decide +kernel)
set_option maxRecDepth 20000 in
theorem gX3_rod_X0_shown : GoodIn wsX3_rod (wsV RX3 130 RX0 yX0_shown wsX0_shown) := goodIn_app (goodIn_of _ (by decide +kernel)) ggX3_rod_X0_shown
set_option maxRecDepth 20000 in
theorem ggX3_rod_X0_reach : GoodIn wsX3_rod wsX0_reach := goodIn_r _ [29, 30, 31, 32, 22, 33, 34, 35, 36, 37, 24, 38, 39, 40, 41, 25, 42, 43, 44, 45, 46, 47, 51, 52, 53, 54, 55, 56, 57] (by decide +kernel) (by decide +kernel)
set_option maxRecDepth 20000 in
theorem gX3_rod_X0_reach : GoodIn wsX3_rod (wsV RX3 139 RX0 yX0_reach wsX0_reach) := goodIn_app (goodIn_of _ (by decide +kernel)) ggX3_rod_X0_reach
theorem dX3_rod_0 : decode cX3_rod 0 = .ok (.iload_n 1, 1) := by decide +kernel
theorem dX3_rod_1 : decode cX3_rod 1 = .ok (.invokestatic 30, 3) := by decide +kernel
theorem dX3_rod_4 : decode cX3_rod 4 = .ok (.iload_n 2, 1) := by decide +kernel
theorem dX3_rod_5 : decode cX3_rod 5 = .ok (.iconst 0, 1) := by decide +kernel
theorem dX3_rod_6 : decode cX3_rod 6 = .ok (.bipush 7, 2) := by decide +kernel
theorem dX3_rod_8 : decode cX3_rod 8 = .ok (.invokestatic 34, 3) := by decide +kernel
theorem dX3_rod_11 : decode cX3_rod 11 = .ok (.iload_n 2, 1) := by decide +kernel
theorem dX3_rod_12 : decode cX3_rod 12 = .ok (.tableswitch 116 0 6 #[44, 54, 64, 73, 86, 96, 106], 44) := by decide +kernel
theorem dX3_rod_56 : decode cX3_rod 56 = .ok (.aload_n 0, 1) := by decide +kernel
theorem dX3_rod_57 : decode cX3_rod 57 = .ok (.getfield 12, 3) := by decide +kernel
theorem dX3_rod_60 : decode cX3_rod 60 = .ok (.getfield 124, 3) := by decide +kernel
theorem dX3_rod_63 : decode cX3_rod 63 = .ok (.iload_n 1, 1) := by decide +kernel
theorem dX3_rod_64 : decode cX3_rod 64 = .ok (.iaload, 1) := by decide +kernel
theorem dX3_rod_65 : decode cX3_rod 65 = .ok (.ireturn, 1) := by decide +kernel
theorem dX3_rod_66 : decode cX3_rod 66 = .ok (.aload_n 0, 1) := by decide +kernel
theorem dX3_rod_67 : decode cX3_rod 67 = .ok (.getfield 12, 3) := by decide +kernel
theorem dX3_rod_70 : decode cX3_rod 70 = .ok (.getfield 127, 3) := by decide +kernel
theorem dX3_rod_73 : decode cX3_rod 73 = .ok (.iload_n 1, 1) := by decide +kernel
theorem dX3_rod_74 : decode cX3_rod 74 = .ok (.iaload, 1) := by decide +kernel
theorem dX3_rod_75 : decode cX3_rod 75 = .ok (.ireturn, 1) := by decide +kernel
theorem dX3_rod_76 : decode cX3_rod 76 = .ok (.aload_n 0, 1) := by decide +kernel
theorem dX3_rod_77 : decode cX3_rod 77 = .ok (.getfield 12, 3) := by decide +kernel
theorem dX3_rod_80 : decode cX3_rod 80 = .ok (.iload_n 1, 1) := by decide +kernel
theorem dX3_rod_81 : decode cX3_rod 81 = .ok (.invokevirtual 130, 3) := by decide +kernel
theorem dX3_rod_84 : decode cX3_rod 84 = .ok (.ireturn, 1) := by decide +kernel
theorem dX3_rod_85 : decode cX3_rod 85 = .ok (.aload_n 0, 1) := by decide +kernel
theorem dX3_rod_86 : decode cX3_rod 86 = .ok (.getfield 12, 3) := by decide +kernel
theorem dX3_rod_89 : decode cX3_rod 89 = .ok (.getfield 69, 3) := by decide +kernel
theorem dX3_rod_92 : decode cX3_rod 92 = .ok (.iload_n 1, 1) := by decide +kernel
theorem dX3_rod_93 : decode cX3_rod 93 = .ok (.iaload, 1) := by decide +kernel
theorem dX3_rod_94 : decode cX3_rod 94 = .ok (.bipush 100, 2) := by decide +kernel
theorem dX3_rod_96 : decode cX3_rod 96 = .ok (.iadd, 1) := by decide +kernel
theorem dX3_rod_97 : decode cX3_rod 97 = .ok (.ireturn, 1) := by decide +kernel
theorem dX3_rod_98 : decode cX3_rod 98 = .ok (.aload_n 0, 1) := by decide +kernel
theorem dX3_rod_99 : decode cX3_rod 99 = .ok (.getfield 12, 3) := by decide +kernel
theorem dX3_rod_102 : decode cX3_rod 102 = .ok (.getfield 57, 3) := by decide +kernel
theorem dX3_rod_105 : decode cX3_rod 105 = .ok (.iload_n 1, 1) := by decide +kernel
theorem dX3_rod_106 : decode cX3_rod 106 = .ok (.iaload, 1) := by decide +kernel
theorem dX3_rod_107 : decode cX3_rod 107 = .ok (.ireturn, 1) := by decide +kernel
theorem dX3_rod_108 : decode cX3_rod 108 = .ok (.aload_n 0, 1) := by decide +kernel
theorem dX3_rod_109 : decode cX3_rod 109 = .ok (.getfield 12, 3) := by decide +kernel
theorem dX3_rod_112 : decode cX3_rod 112 = .ok (.getfield 133, 3) := by decide +kernel
theorem dX3_rod_115 : decode cX3_rod 115 = .ok (.iload_n 1, 1) := by decide +kernel
theorem dX3_rod_116 : decode cX3_rod 116 = .ok (.iaload, 1) := by decide +kernel
theorem dX3_rod_117 : decode cX3_rod 117 = .ok (.ireturn, 1) := by decide +kernel
theorem dX3_rod_118 : decode cX3_rod 118 = .ok (.aload_n 0, 1) := by decide +kernel
theorem dX3_rod_119 : decode cX3_rod 119 = .ok (.getfield 12, 3) := by decide +kernel
theorem dX3_rod_122 : decode cX3_rod 122 = .ok (.getfield 136, 3) := by decide +kernel
theorem dX3_rod_125 : decode cX3_rod 125 = .ok (.iload_n 1, 1) := by decide +kernel
theorem dX3_rod_126 : decode cX3_rod 126 = .ok (.iaload, 1) := by decide +kernel
theorem dX3_rod_127 : decode cX3_rod 127 = .ok (.ireturn, 1) := by decide +kernel
theorem dX3_rod_128 : decode cX3_rod 128 = .ok (.aload_n 0, 1) := by decide +kernel
theorem dX3_rod_129 : decode cX3_rod 129 = .ok (.getfield 12, 3) := by decide +kernel
theorem dX3_rod_132 : decode cX3_rod 132 = .ok (.iload_n 1, 1) := by decide +kernel
theorem dX3_rod_133 : decode cX3_rod 133 = .ok (.invokevirtual 139, 3) := by decide +kernel
theorem dX3_rod_136 : decode cX3_rod 136 = .ok (.ireturn, 1) := by decide +kernel
set_option maxRecDepth 20000 in
theorem ggX3_whole_X0_shown : GoodIn wsX3_whole wsX0_shown := goodIn_r _ [8, 9, 10, 14, 15, 16, 17, 18, 19, 20] (by decide +kernel) (by decide +kernel)
set_option maxRecDepth 20000 in
theorem gX3_whole_X0_shown : GoodIn wsX3_whole (wsV RX3 130 RX0 yX0_shown wsX0_shown) := goodIn_app (goodIn_of _ (by decide +kernel)) ggX3_whole_X0_shown
theorem dX3_whole_0 : decode cX3_whole 0 = .ok (.lconst 0, 1) := by decide +kernel
theorem dX3_whole_1 : decode cX3_whole 1 = .ok (.lstore_n 1, 1) := by decide +kernel
theorem dX3_whole_2 : decode cX3_whole 2 = .ok (.lconst 1, 1) := by decide +kernel
theorem dX3_whole_3 : decode cX3_whole 3 = .ok (.lstore_n 3, 1) := by decide +kernel
theorem dX3_whole_4 : decode cX3_whole 4 = .ok (.iconst 0, 1) := by decide +kernel
theorem dX3_whole_5 : decode cX3_whole 5 = .ok (.istore 5, 2) := by decide +kernel
theorem dX3_whole_7 : decode cX3_whole 7 = .ok (.iload 5, 2) := by decide +kernel
theorem dX3_whole_9 : decode cX3_whole 9 = .ok (.bipush 9, 2) := by decide +kernel
theorem dX3_whole_11 : decode cX3_whole 11 = .ok (.if_icmp .ge 41, 3) := by decide +kernel
theorem dX3_whole_14 : decode cX3_whole 14 = .ok (.lload_n 1, 1) := by decide +kernel
theorem dX3_whole_15 : decode cX3_whole 15 = .ok (.aload_n 0, 1) := by decide +kernel
theorem dX3_whole_16 : decode cX3_whole 16 = .ok (.getfield 12, 3) := by decide +kernel
theorem dX3_whole_19 : decode cX3_whole 19 = .ok (.iload 5, 2) := by decide +kernel
theorem dX3_whole_21 : decode cX3_whole 21 = .ok (.invokevirtual 130, 3) := by decide +kernel
theorem dX3_whole_24 : decode cX3_whole 24 = .ok (.aload_n 0, 1) := by decide +kernel
theorem dX3_whole_25 : decode cX3_whole 25 = .ok (.getfield 12, 3) := by decide +kernel
theorem dX3_whole_28 : decode cX3_whole 28 = .ok (.getfield 69, 3) := by decide +kernel
theorem dX3_whole_31 : decode cX3_whole 31 = .ok (.iload 5, 2) := by decide +kernel
theorem dX3_whole_33 : decode cX3_whole 33 = .ok (.iaload, 1) := by decide +kernel
theorem dX3_whole_34 : decode cX3_whole 34 = .ok (.iadd, 1) := by decide +kernel
theorem dX3_whole_35 : decode cX3_whole 35 = .ok (.i2l, 1) := by decide +kernel
theorem dX3_whole_36 : decode cX3_whole 36 = .ok (.lload_n 3, 1) := by decide +kernel
theorem dX3_whole_37 : decode cX3_whole 37 = .ok (.lmul, 1) := by decide +kernel
theorem dX3_whole_38 : decode cX3_whole 38 = .ok (.ladd, 1) := by decide +kernel
theorem dX3_whole_39 : decode cX3_whole 39 = .ok (.lstore_n 1, 1) := by decide +kernel
theorem dX3_whole_40 : decode cX3_whole 40 = .ok (.lload_n 3, 1) := by decide +kernel
theorem dX3_whole_41 : decode cX3_whole 41 = .ok (.ldc2_w 142, 3) := by decide +kernel
theorem dX3_whole_44 : decode cX3_whole 44 = .ok (.lmul, 1) := by decide +kernel
theorem dX3_whole_45 : decode cX3_whole 45 = .ok (.lstore_n 3, 1) := by decide +kernel
theorem dX3_whole_46 : decode cX3_whole 46 = .ok (.iinc 5 1, 3) := by decide +kernel
theorem dX3_whole_49 : decode cX3_whole 49 = .ok (.goto (-42), 3) := by decide +kernel
theorem dX3_whole_52 : decode cX3_whole 52 = .ok (.lload_n 1, 1) := by decide +kernel
theorem dX3_whole_53 : decode cX3_whole 53 = .ok (.lreturn, 1) := by decide +kernel
set_option maxRecDepth 20000 in
theorem ggX3_count_X3_checkRange : GoodIn wsX3_count wsX3_checkRange := goodIn_ca (goodIn_r _ [8, 9, 10] (by decide +kernel) (by decide +kernel)) (goodIn_sub (fun _ h => List.mem_cons_of_mem _ (List.mem_append_right _ h)) (by decide +kernel))
set_option maxRecDepth 20000 in
theorem gX3_count_X3_checkRange : GoodIn wsX3_count (va_wsS RX3 34 yX3_checkRange wsX3_checkRange) := goodIn_app (goodIn_of _ (by decide +kernel)) ggX3_count_X3_checkRange
set_option maxRecDepth 20000 in
theorem ggX3_count_X0_allMoved : GoodIn wsX3_count wsX0_allMoved := goodIn_r _ [15, 16, 52, 53, 54, 55, 56, 57, 58] (by decide +kernel) (by decide +kernel)
set_option maxRecDepth 20000 in
theorem gX3_count_X0_allMoved : GoodIn wsX3_count (wsV RX3 144 RX0 yX0_allMoved wsX0_allMoved) := goodIn_app (goodIn_of _ (by decide +kernel)) ggX3_count_X0_allMoved
set_option maxRecDepth 20000 in
theorem ggX3_count_X0_rodsWithLoan : GoodIn wsX3_count wsX0_rodsWithLoan := goodIn_r _ [20, 21, 52, 53, 54, 55, 56, 57, 58] (by decide +kernel) (by decide +kernel)
set_option maxRecDepth 20000 in
theorem gX3_count_X0_rodsWithLoan : GoodIn wsX3_count (wsV RX3 147 RX0 yX0_rodsWithLoan wsX0_rodsWithLoan) := goodIn_app (goodIn_of _ (by decide +kernel)) ggX3_count_X0_rodsWithLoan
set_option maxRecDepth 20000 in
theorem ggX3_count_X0_allLoans : GoodIn wsX3_count wsX0_allLoans := goodIn_r _ [25, 21, 52, 53, 54, 55, 56, 57, 58] (by decide +kernel) (by decide +kernel)
set_option maxRecDepth 20000 in
theorem gX3_count_X0_allLoans : GoodIn wsX3_count (wsV RX3 150 RX0 yX0_allLoans wsX0_allLoans) := goodIn_app (goodIn_of _ (by decide +kernel)) ggX3_count_X0_allLoans
set_option maxRecDepth 20000 in
theorem ggX3_count_X0_allShown : GoodIn wsX3_count wsX0_allShown := goodIn_r _ [29, 30, 31, 32, 14, 33, 34, 35, 52, 53, 54, 55, 56, 57, 58] (by decide +kernel) (by decide +kernel)
set_option maxRecDepth 20000 in
theorem gX3_count_X0_allShown : GoodIn wsX3_count (wsV RX3 153 RX0 yX0_allShown wsX0_allShown) := goodIn_app (goodIn_of _ (by decide +kernel)) ggX3_count_X0_allShown
set_option maxRecDepth 20000 in
theorem ggX3_count_J9_floorMod_7cf53 : GoodIn wsX3_count wsJ9_floorMod_7cf53 := goodIn_r _ [39] (by decide +kernel) (by decide +kernel)
set_option maxRecDepth 20000 in
theorem gX3_count_J9_floorMod_7cf53 : GoodIn wsX3_count (va_wsS RX3 156 yJ9_floorMod_7cf53 wsJ9_floorMod_7cf53) := goodIn_app (goodIn_of _ (by decide +kernel)) ggX3_count_J9_floorMod_7cf53
set_option maxRecDepth 20000 in
theorem ggX3_count_X0_rodsOutOfOrder : GoodIn wsX3_count wsX0_rodsOutOfOrder := goodIn_r _ [43, 30, 31, 32, 14, 33, 34, 35, 52, 53, 54, 55, 56, 57, 58] (by decide +kernel) (by decide +kernel)
set_option maxRecDepth 20000 in
theorem gX3_count_X0_rodsOutOfOrder : GoodIn wsX3_count (wsV RX3 161 RX0 yX0_rodsOutOfOrder wsX0_rodsOutOfOrder) := goodIn_app (goodIn_of _ (by decide +kernel)) ggX3_count_X0_rodsOutOfOrder
set_option maxRecDepth 20000 in
theorem ggX3_count_X0_rodsWithStuck : GoodIn wsX3_count wsX0_rodsWithStuck := goodIn_r _ [47, 48, 52, 53, 54, 55, 56, 57, 58] (by decide +kernel) (by decide +kernel)
set_option maxRecDepth 20000 in
theorem gX3_count_X0_rodsWithStuck : GoodIn wsX3_count (wsV RX3 164 RX0 yX0_rodsWithStuck wsX0_rodsWithStuck) := goodIn_app (goodIn_of _ (by decide +kernel)) ggX3_count_X0_rodsWithStuck
theorem dX3_count_0 : decode cX3_count 0 = .ok (.iload_n 1, 1) := by decide +kernel
theorem dX3_count_1 : decode cX3_count 1 = .ok (.iconst 0, 1) := by decide +kernel
theorem dX3_count_2 : decode cX3_count 2 = .ok (.bipush 7, 2) := by decide +kernel
theorem dX3_count_4 : decode cX3_count 4 = .ok (.invokestatic 34, 3) := by decide +kernel
theorem dX3_count_7 : decode cX3_count 7 = .ok (.iload_n 1, 1) := by decide +kernel
theorem dX3_count_8 : decode cX3_count 8 = .ok (.tableswitch 116 0 6 #[44, 52, 60, 71, 92, 100, 108], 44) := by decide +kernel
theorem dX3_count_52 : decode cX3_count 52 = .ok (.aload_n 0, 1) := by decide +kernel
theorem dX3_count_53 : decode cX3_count 53 = .ok (.getfield 12, 3) := by decide +kernel
theorem dX3_count_56 : decode cX3_count 56 = .ok (.invokevirtual 144, 3) := by decide +kernel
theorem dX3_count_59 : decode cX3_count 59 = .ok (.ireturn, 1) := by decide +kernel
theorem dX3_count_60 : decode cX3_count 60 = .ok (.aload_n 0, 1) := by decide +kernel
theorem dX3_count_61 : decode cX3_count 61 = .ok (.getfield 12, 3) := by decide +kernel
theorem dX3_count_64 : decode cX3_count 64 = .ok (.invokevirtual 147, 3) := by decide +kernel
theorem dX3_count_67 : decode cX3_count 67 = .ok (.ireturn, 1) := by decide +kernel
theorem dX3_count_68 : decode cX3_count 68 = .ok (.aload_n 0, 1) := by decide +kernel
theorem dX3_count_69 : decode cX3_count 69 = .ok (.getfield 12, 3) := by decide +kernel
theorem dX3_count_72 : decode cX3_count 72 = .ok (.invokevirtual 150, 3) := by decide +kernel
theorem dX3_count_75 : decode cX3_count 75 = .ok (.bipush 100, 2) := by decide +kernel
theorem dX3_count_77 : decode cX3_count 77 = .ok (.iadd, 1) := by decide +kernel
theorem dX3_count_78 : decode cX3_count 78 = .ok (.ireturn, 1) := by decide +kernel
theorem dX3_count_79 : decode cX3_count 79 = .ok (.aload_n 0, 1) := by decide +kernel
theorem dX3_count_80 : decode cX3_count 80 = .ok (.getfield 12, 3) := by decide +kernel
theorem dX3_count_83 : decode cX3_count 83 = .ok (.invokevirtual 153, 3) := by decide +kernel
theorem dX3_count_86 : decode cX3_count 86 = .ok (.aload_n 0, 1) := by decide +kernel
theorem dX3_count_87 : decode cX3_count 87 = .ok (.getfield 12, 3) := by decide +kernel
theorem dX3_count_90 : decode cX3_count 90 = .ok (.invokevirtual 150, 3) := by decide +kernel
theorem dX3_count_93 : decode cX3_count 93 = .ok (.iadd, 1) := by decide +kernel
theorem dX3_count_94 : decode cX3_count 94 = .ok (.bipush 9, 2) := by decide +kernel
theorem dX3_count_96 : decode cX3_count 96 = .ok (.invokestatic 156, 3) := by decide +kernel
theorem dX3_count_99 : decode cX3_count 99 = .ok (.ireturn, 1) := by decide +kernel
theorem dX3_count_100 : decode cX3_count 100 = .ok (.aload_n 0, 1) := by decide +kernel
theorem dX3_count_101 : decode cX3_count 101 = .ok (.getfield 12, 3) := by decide +kernel
theorem dX3_count_104 : decode cX3_count 104 = .ok (.invokevirtual 161, 3) := by decide +kernel
theorem dX3_count_107 : decode cX3_count 107 = .ok (.ireturn, 1) := by decide +kernel
theorem dX3_count_108 : decode cX3_count 108 = .ok (.aload_n 0, 1) := by decide +kernel
theorem dX3_count_109 : decode cX3_count 109 = .ok (.getfield 12, 3) := by decide +kernel
theorem dX3_count_112 : decode cX3_count 112 = .ok (.invokevirtual 164, 3) := by decide +kernel
theorem dX3_count_115 : decode cX3_count 115 = .ok (.ireturn, 1) := by decide +kernel
theorem dX3_count_116 : decode cX3_count 116 = .ok (.aload_n 0, 1) := by decide +kernel
theorem dX3_count_117 : decode cX3_count 117 = .ok (.getfield 12, 3) := by decide +kernel
theorem dX3_count_120 : decode cX3_count 120 = .ok (.getfield 61, 3) := by decide +kernel
theorem dX3_count_123 : decode cX3_count 123 = .ok (.ireturn, 1) := by decide +kernel
theorem dX3_count_124 : decode cX3_count 124 = .ok (.aload_n 0, 1) := by decide +kernel
theorem dX3_count_125 : decode cX3_count 125 = .ok (.getfield 19, 3) := by decide +kernel
theorem dX3_count_128 : decode cX3_count 128 = .ok (.getfield 116, 3) := by decide +kernel
theorem dX3_count_131 : decode cX3_count 131 = .ok (.ireturn, 1) := by decide +kernel
set_option maxRecDepth 20000 in
theorem ggX3_moves_X3_checkRod : GoodIn wsX3_moves wsX3_checkRod := goodIn_ca (goodIn_r _ [5, 6, 7] (by decide +kernel) (by decide +kernel)) (goodIn_sub (fun _ h => List.mem_cons_of_mem _ (List.mem_append_left _ (List.mem_append_right _ h))) (by decide +kernel))
set_option maxRecDepth 20000 in
theorem gX3_moves_X3_checkRod : GoodIn wsX3_moves (va_wsS RX3 30 yX3_checkRod wsX3_checkRod) := goodIn_app (goodIn_of _ (by decide +kernel)) ggX3_moves_X3_checkRod
set_option maxRecDepth 20000 in
theorem ggX3_moves_X3_checkRange : GoodIn wsX3_moves wsX3_checkRange := goodIn_ca (goodIn_r _ [10, 11, 12] (by decide +kernel) (by decide +kernel)) (goodIn_sub (fun _ h => List.mem_cons_of_mem _ (List.mem_append_right _ h)) (by decide +kernel))
set_option maxRecDepth 20000 in
theorem gX3_moves_X3_checkRange : GoodIn wsX3_moves (va_wsS RX3 34 yX3_checkRange wsX3_checkRange) := goodIn_app (goodIn_of _ (by decide +kernel)) ggX3_moves_X3_checkRange
set_option maxRecDepth 20000 in
theorem ggX3_moves_X0_turn : GoodIn wsX3_moves wsX0_turn := goodIn_r _ [17, 18, 19, 20, 16, 21, 22, 23, 24, 25, 26, 27, 28, 29, 30, 31, 32, 33, 37, 38, 39, 40, 41, 42, 43] (by decide +kernel) (by decide +kernel)
set_option maxRecDepth 20000 in
theorem gX3_moves_X0_turn : GoodIn wsX3_moves (wsV RX3 167 RX0 yX0_turn wsX0_turn) := goodIn_app (goodIn_of _ (by decide +kernel)) ggX3_moves_X0_turn
theorem dX3_moves_0 : decode cX3_moves 0 = .ok (.iload_n 1, 1) := by decide +kernel
theorem dX3_moves_1 : decode cX3_moves 1 = .ok (.invokestatic 30, 3) := by decide +kernel
theorem dX3_moves_4 : decode cX3_moves 4 = .ok (.iload_n 2, 1) := by decide +kernel
theorem dX3_moves_5 : decode cX3_moves 5 = .ok (.iconst 0, 1) := by decide +kernel
theorem dX3_moves_6 : decode cX3_moves 6 = .ok (.bipush 15, 2) := by decide +kernel
theorem dX3_moves_8 : decode cX3_moves 8 = .ok (.invokestatic 34, 3) := by decide +kernel
theorem dX3_moves_11 : decode cX3_moves 11 = .ok (.aload_n 0, 1) := by decide +kernel
theorem dX3_moves_12 : decode cX3_moves 12 = .ok (.getfield 12, 3) := by decide +kernel
theorem dX3_moves_15 : decode cX3_moves 15 = .ok (.iload_n 1, 1) := by decide +kernel
theorem dX3_moves_16 : decode cX3_moves 16 = .ok (.iload_n 2, 1) := by decide +kernel
theorem dX3_moves_17 : decode cX3_moves 17 = .ok (.iconst 0, 1) := by decide +kernel
theorem dX3_moves_18 : decode cX3_moves 18 = .ok (.invokevirtual 167, 3) := by decide +kernel
theorem dX3_moves_21 : decode cX3_moves 21 = .ok (.ireturn, 1) := by decide +kernel
set_option maxRecDepth 20000 in
theorem ggX3_ifAdded_X3_checkRod : GoodIn wsX3_ifAdded wsX3_checkRod := goodIn_ca (goodIn_r _ [5, 6, 7] (by decide +kernel) (by decide +kernel)) (goodIn_sub (fun _ h => List.mem_cons_of_mem _ (List.mem_append_left _ (List.mem_append_right _ h))) (by decide +kernel))
set_option maxRecDepth 20000 in
theorem gX3_ifAdded_X3_checkRod : GoodIn wsX3_ifAdded (va_wsS RX3 30 yX3_checkRod wsX3_checkRod) := goodIn_app (goodIn_of _ (by decide +kernel)) ggX3_ifAdded_X3_checkRod
set_option maxRecDepth 20000 in
theorem ggX3_ifAdded_X3_checkRange : GoodIn wsX3_ifAdded wsX3_checkRange := goodIn_ca (goodIn_r _ [10, 11, 12] (by decide +kernel) (by decide +kernel)) (goodIn_sub (fun _ h => List.mem_cons_of_mem _ (List.mem_append_right _ h)) (by decide +kernel))
set_option maxRecDepth 20000 in
theorem gX3_ifAdded_X3_checkRange : GoodIn wsX3_ifAdded (va_wsS RX3 34 yX3_checkRange wsX3_checkRange) := goodIn_app (goodIn_of _ (by decide +kernel)) ggX3_ifAdded_X3_checkRange
set_option maxRecDepth 20000 in
theorem ggX3_ifAdded_X0_change : GoodIn wsX3_ifAdded wsX0_change := goodIn_r _ [17, 18, 19, 20, 16, 21, 22, 23, 24, 25, 26, 27, 28, 29, 30, 31, 32, 33, 34, 35, 36, 37, 38, 39, 40, 41, 42, 43, 44, 45, 46, 47, 48, 49, 50, 51, 52, 56, 57, 58, 59, 60, 61, 62] (by decide +kernel) (by decide +kernel)
set_option maxRecDepth 20000 in
theorem gX3_ifAdded_X0_change : GoodIn wsX3_ifAdded (wsV RX3 72 RX0 yX0_change wsX0_change) := goodIn_app (goodIn_of _ (by decide +kernel)) ggX3_ifAdded_X0_change
theorem dX3_ifAdded_0 : decode cX3_ifAdded 0 = .ok (.iload_n 1, 1) := by decide +kernel
theorem dX3_ifAdded_1 : decode cX3_ifAdded 1 = .ok (.invokestatic 30, 3) := by decide +kernel
theorem dX3_ifAdded_4 : decode cX3_ifAdded 4 = .ok (.iload_n 2, 1) := by decide +kernel
theorem dX3_ifAdded_5 : decode cX3_ifAdded 5 = .ok (.bipush (-9), 2) := by decide +kernel
theorem dX3_ifAdded_7 : decode cX3_ifAdded 7 = .ok (.bipush 9, 2) := by decide +kernel
theorem dX3_ifAdded_9 : decode cX3_ifAdded 9 = .ok (.invokestatic 34, 3) := by decide +kernel
theorem dX3_ifAdded_12 : decode cX3_ifAdded 12 = .ok (.aload_n 0, 1) := by decide +kernel
theorem dX3_ifAdded_13 : decode cX3_ifAdded 13 = .ok (.getfield 12, 3) := by decide +kernel
theorem dX3_ifAdded_16 : decode cX3_ifAdded 16 = .ok (.iload_n 1, 1) := by decide +kernel
theorem dX3_ifAdded_17 : decode cX3_ifAdded 17 = .ok (.iload_n 2, 1) := by decide +kernel
theorem dX3_ifAdded_18 : decode cX3_ifAdded 18 = .ok (.iconst 0, 1) := by decide +kernel
theorem dX3_ifAdded_19 : decode cX3_ifAdded 19 = .ok (.invokevirtual 72, 3) := by decide +kernel
theorem dX3_ifAdded_22 : decode cX3_ifAdded 22 = .ok (.ireturn, 1) := by decide +kernel
set_option maxRecDepth 20000 in
theorem ggX3_toShow_X3_checkRange : GoodIn wsX3_toShow wsX3_checkRange := goodIn_ca (goodIn_r _ [6, 7, 8] (by decide +kernel) (by decide +kernel)) (goodIn_sub (fun _ h => List.mem_cons_of_mem _ (List.mem_append_right _ h)) (by decide +kernel))
set_option maxRecDepth 20000 in
theorem gX3_toShow_X3_checkRange : GoodIn wsX3_toShow (va_wsS RX3 34 yX3_checkRange wsX3_checkRange) := goodIn_app (goodIn_of _ (by decide +kernel)) ggX3_toShow_X3_checkRange
set_option maxRecDepth 20000 in
theorem ggX3_toShow_X0_turn : GoodIn wsX3_toShow wsX0_turn := goodIn_r _ [13, 14, 15, 16, 12, 17, 18, 19, 20, 21, 22, 23, 24, 25, 26, 27, 28, 29, 33, 34, 35, 36, 37, 38, 39] (by decide +kernel) (by decide +kernel)
set_option maxRecDepth 20000 in
theorem gX3_toShow_X0_turn : GoodIn wsX3_toShow (wsV RX3 167 RX0 yX0_turn wsX0_turn) := goodIn_app (goodIn_of _ (by decide +kernel)) ggX3_toShow_X0_turn
theorem dX3_toShow_0 : decode cX3_toShow 0 = .ok (.iload_n 1, 1) := by decide +kernel
theorem dX3_toShow_1 : decode cX3_toShow 1 = .ok (.iconst 0, 1) := by decide +kernel
theorem dX3_toShow_2 : decode cX3_toShow 2 = .ok (.ldc 170, 2) := by decide +kernel
theorem dX3_toShow_4 : decode cX3_toShow 4 = .ok (.invokestatic 34, 3) := by decide +kernel
theorem dX3_toShow_7 : decode cX3_toShow 7 = .ok (.iconst 0, 1) := by decide +kernel
theorem dX3_toShow_8 : decode cX3_toShow 8 = .ok (.istore_n 2, 1) := by decide +kernel
theorem dX3_toShow_9 : decode cX3_toShow 9 = .ok (.iload_n 1, 1) := by decide +kernel
theorem dX3_toShow_10 : decode cX3_toShow 10 = .ok (.istore_n 3, 1) := by decide +kernel
theorem dX3_toShow_11 : decode cX3_toShow 11 = .ok (.iconst 0, 1) := by decide +kernel
theorem dX3_toShow_12 : decode cX3_toShow 12 = .ok (.istore 4, 2) := by decide +kernel
theorem dX3_toShow_14 : decode cX3_toShow 14 = .ok (.iload 4, 2) := by decide +kernel
theorem dX3_toShow_16 : decode cX3_toShow 16 = .ok (.bipush 9, 2) := by decide +kernel
theorem dX3_toShow_18 : decode cX3_toShow 18 = .ok (.if_icmp .ge 43, 3) := by decide +kernel
theorem dX3_toShow_21 : decode cX3_toShow 21 = .ok (.aload_n 0, 1) := by decide +kernel
theorem dX3_toShow_22 : decode cX3_toShow 22 = .ok (.getfield 12, 3) := by decide +kernel
theorem dX3_toShow_25 : decode cX3_toShow 25 = .ok (.iload 4, 2) := by decide +kernel
theorem dX3_toShow_27 : decode cX3_toShow 27 = .ok (.iload_n 3, 1) := by decide +kernel
theorem dX3_toShow_28 : decode cX3_toShow 28 = .ok (.bipush 10, 2) := by decide +kernel
theorem dX3_toShow_30 : decode cX3_toShow 30 = .ok (.irem, 1) := by decide +kernel
theorem dX3_toShow_31 : decode cX3_toShow 31 = .ok (.iconst 0, 1) := by decide +kernel
theorem dX3_toShow_32 : decode cX3_toShow 32 = .ok (.invokevirtual 167, 3) := by decide +kernel
theorem dX3_toShow_35 : decode cX3_toShow 35 = .ok (.istore 5, 2) := by decide +kernel
theorem dX3_toShow_37 : decode cX3_toShow 37 = .ok (.iload 5, 2) := by decide +kernel
theorem dX3_toShow_39 : decode cX3_toShow 39 = .ok (.iconst (-1), 1) := by decide +kernel
theorem dX3_toShow_40 : decode cX3_toShow 40 = .ok (.if_icmp .ne 5, 3) := by decide +kernel
theorem dX3_toShow_43 : decode cX3_toShow 43 = .ok (.iconst (-1), 1) := by decide +kernel
theorem dX3_toShow_44 : decode cX3_toShow 44 = .ok (.ireturn, 1) := by decide +kernel
theorem dX3_toShow_45 : decode cX3_toShow 45 = .ok (.iload_n 2, 1) := by decide +kernel
theorem dX3_toShow_46 : decode cX3_toShow 46 = .ok (.iload 5, 2) := by decide +kernel
theorem dX3_toShow_48 : decode cX3_toShow 48 = .ok (.iadd, 1) := by decide +kernel
theorem dX3_toShow_49 : decode cX3_toShow 49 = .ok (.istore_n 2, 1) := by decide +kernel
theorem dX3_toShow_50 : decode cX3_toShow 50 = .ok (.iload_n 3, 1) := by decide +kernel
theorem dX3_toShow_51 : decode cX3_toShow 51 = .ok (.bipush 10, 2) := by decide +kernel
theorem dX3_toShow_53 : decode cX3_toShow 53 = .ok (.idiv, 1) := by decide +kernel
theorem dX3_toShow_54 : decode cX3_toShow 54 = .ok (.istore_n 3, 1) := by decide +kernel
theorem dX3_toShow_55 : decode cX3_toShow 55 = .ok (.iinc 4 1, 3) := by decide +kernel
theorem dX3_toShow_58 : decode cX3_toShow 58 = .ok (.goto (-44), 3) := by decide +kernel
theorem dX3_toShow_61 : decode cX3_toShow 61 = .ok (.iload_n 2, 1) := by decide +kernel
theorem dX3_toShow_62 : decode cX3_toShow 62 = .ok (.ireturn, 1) := by decide +kernel
set_option maxRecDepth 20000 in
theorem ggX3_cheapestLoan_X0_change : GoodIn wsX3_cheapestLoan wsX0_change := goodIn_r _ [7, 8, 9, 10, 6, 11, 12, 13, 14, 15, 16, 17, 18, 19, 20, 21, 22, 23, 24, 25, 26, 27, 28, 29, 30, 31, 32, 33, 34, 35, 36, 37, 38, 39, 40, 41, 42, 46, 47, 48, 49, 50, 51, 52] (by decide +kernel) (by decide +kernel)
set_option maxRecDepth 20000 in
theorem gX3_cheapestLoan_X0_change : GoodIn wsX3_cheapestLoan (wsV RX3 72 RX0 yX0_change wsX0_change) := goodIn_app (goodIn_of _ (by decide +kernel)) ggX3_cheapestLoan_X0_change
theorem dX3_cheapestLoan_0 : decode cX3_cheapestLoan 0 = .ok (.iconst (-1), 1) := by decide +kernel
theorem dX3_cheapestLoan_1 : decode cX3_cheapestLoan 1 = .ok (.istore_n 1, 1) := by decide +kernel
theorem dX3_cheapestLoan_2 : decode cX3_cheapestLoan 2 = .ok (.iconst 0, 1) := by decide +kernel
theorem dX3_cheapestLoan_3 : decode cX3_cheapestLoan 3 = .ok (.istore_n 2, 1) := by decide +kernel
theorem dX3_cheapestLoan_4 : decode cX3_cheapestLoan 4 = .ok (.iconst 0, 1) := by decide +kernel
theorem dX3_cheapestLoan_5 : decode cX3_cheapestLoan 5 = .ok (.istore_n 3, 1) := by decide +kernel
theorem dX3_cheapestLoan_6 : decode cX3_cheapestLoan 6 = .ok (.iload_n 3, 1) := by decide +kernel
theorem dX3_cheapestLoan_7 : decode cX3_cheapestLoan 7 = .ok (.bipush 9, 2) := by decide +kernel
theorem dX3_cheapestLoan_9 : decode cX3_cheapestLoan 9 = .ok (.if_icmp .ge 63, 3) := by decide +kernel
theorem dX3_cheapestLoan_12 : decode cX3_cheapestLoan 12 = .ok (.aload_n 0, 1) := by decide +kernel
theorem dX3_cheapestLoan_13 : decode cX3_cheapestLoan 13 = .ok (.getfield 12, 3) := by decide +kernel
theorem dX3_cheapestLoan_16 : decode cX3_cheapestLoan 16 = .ok (.getfield 69, 3) := by decide +kernel
theorem dX3_cheapestLoan_19 : decode cX3_cheapestLoan 19 = .ok (.iload_n 3, 1) := by decide +kernel
theorem dX3_cheapestLoan_20 : decode cX3_cheapestLoan 20 = .ok (.iaload, 1) := by decide +kernel
theorem dX3_cheapestLoan_21 : decode cX3_cheapestLoan 21 = .ok (.ifCond .eq 45, 3) := by decide +kernel
theorem dX3_cheapestLoan_24 : decode cX3_cheapestLoan 24 = .ok (.aload_n 0, 1) := by decide +kernel
theorem dX3_cheapestLoan_25 : decode cX3_cheapestLoan 25 = .ok (.getfield 12, 3) := by decide +kernel
theorem dX3_cheapestLoan_28 : decode cX3_cheapestLoan 28 = .ok (.iload_n 3, 1) := by decide +kernel
theorem dX3_cheapestLoan_29 : decode cX3_cheapestLoan 29 = .ok (.aload_n 0, 1) := by decide +kernel
theorem dX3_cheapestLoan_30 : decode cX3_cheapestLoan 30 = .ok (.getfield 12, 3) := by decide +kernel
theorem dX3_cheapestLoan_33 : decode cX3_cheapestLoan 33 = .ok (.getfield 69, 3) := by decide +kernel
theorem dX3_cheapestLoan_36 : decode cX3_cheapestLoan 36 = .ok (.iload_n 3, 1) := by decide +kernel
theorem dX3_cheapestLoan_37 : decode cX3_cheapestLoan 37 = .ok (.iaload, 1) := by decide +kernel
theorem dX3_cheapestLoan_38 : decode cX3_cheapestLoan 38 = .ok (.iconst 0, 1) := by decide +kernel
theorem dX3_cheapestLoan_39 : decode cX3_cheapestLoan 39 = .ok (.invokevirtual 72, 3) := by decide +kernel
theorem dX3_cheapestLoan_42 : decode cX3_cheapestLoan 42 = .ok (.istore 4, 2) := by decide +kernel
theorem dX3_cheapestLoan_44 : decode cX3_cheapestLoan 44 = .ok (.iload 4, 2) := by decide +kernel
theorem dX3_cheapestLoan_46 : decode cX3_cheapestLoan 46 = .ok (.iconst (-1), 1) := by decide +kernel
theorem dX3_cheapestLoan_47 : decode cX3_cheapestLoan 47 = .ok (.if_icmp .eq 19, 3) := by decide +kernel
theorem dX3_cheapestLoan_50 : decode cX3_cheapestLoan 50 = .ok (.iload_n 1, 1) := by decide +kernel
theorem dX3_cheapestLoan_51 : decode cX3_cheapestLoan 51 = .ok (.iconst (-1), 1) := by decide +kernel
theorem dX3_cheapestLoan_52 : decode cX3_cheapestLoan 52 = .ok (.if_icmp .eq 9, 3) := by decide +kernel
theorem dX3_cheapestLoan_55 : decode cX3_cheapestLoan 55 = .ok (.iload 4, 2) := by decide +kernel
theorem dX3_cheapestLoan_57 : decode cX3_cheapestLoan 57 = .ok (.iload_n 2, 1) := by decide +kernel
theorem dX3_cheapestLoan_58 : decode cX3_cheapestLoan 58 = .ok (.if_icmp .ge 8, 3) := by decide +kernel
theorem dX3_cheapestLoan_61 : decode cX3_cheapestLoan 61 = .ok (.iload_n 3, 1) := by decide +kernel
theorem dX3_cheapestLoan_62 : decode cX3_cheapestLoan 62 = .ok (.istore_n 1, 1) := by decide +kernel
theorem dX3_cheapestLoan_63 : decode cX3_cheapestLoan 63 = .ok (.iload 4, 2) := by decide +kernel
theorem dX3_cheapestLoan_65 : decode cX3_cheapestLoan 65 = .ok (.istore_n 2, 1) := by decide +kernel
theorem dX3_cheapestLoan_66 : decode cX3_cheapestLoan 66 = .ok (.iinc 3 1, 3) := by decide +kernel
theorem dX3_cheapestLoan_69 : decode cX3_cheapestLoan 69 = .ok (.goto (-63), 3) := by decide +kernel
theorem dX3_cheapestLoan_72 : decode cX3_cheapestLoan 72 = .ok (.iload_n 1, 1) := by decide +kernel
theorem dX3_cheapestLoan_73 : decode cX3_cheapestLoan 73 = .ok (.ireturn, 1) := by decide +kernel
set_option maxRecDepth 20000 in
theorem ggX3_looseness_X0_reach : GoodIn wsX3_looseness wsX0_reach := goodIn_r _ [7, 8, 9, 10, 6, 11, 12, 13, 14, 15, 16, 17, 18, 19, 20, 21, 22, 23, 24, 25, 26, 27, 31, 32, 33, 34, 35, 36, 37] (by decide +kernel) (by decide +kernel)
set_option maxRecDepth 20000 in
theorem gX3_looseness_X0_reach : GoodIn wsX3_looseness (wsV RX3 139 RX0 yX0_reach wsX0_reach) := goodIn_app (goodIn_of _ (by decide +kernel)) ggX3_looseness_X0_reach
theorem dX3_looseness_0 : decode cX3_looseness 0 = .ok (.iconst 0, 1) := by decide +kernel
theorem dX3_looseness_1 : decode cX3_looseness 1 = .ok (.istore_n 1, 1) := by decide +kernel
theorem dX3_looseness_2 : decode cX3_looseness 2 = .ok (.iconst 0, 1) := by decide +kernel
theorem dX3_looseness_3 : decode cX3_looseness 3 = .ok (.istore_n 2, 1) := by decide +kernel
theorem dX3_looseness_4 : decode cX3_looseness 4 = .ok (.iload_n 2, 1) := by decide +kernel
theorem dX3_looseness_5 : decode cX3_looseness 5 = .ok (.bipush 9, 2) := by decide +kernel
theorem dX3_looseness_7 : decode cX3_looseness 7 = .ok (.if_icmp .ge 20, 3) := by decide +kernel
theorem dX3_looseness_10 : decode cX3_looseness 10 = .ok (.iload_n 1, 1) := by decide +kernel
theorem dX3_looseness_11 : decode cX3_looseness 11 = .ok (.aload_n 0, 1) := by decide +kernel
theorem dX3_looseness_12 : decode cX3_looseness 12 = .ok (.getfield 12, 3) := by decide +kernel
theorem dX3_looseness_15 : decode cX3_looseness 15 = .ok (.iload_n 2, 1) := by decide +kernel
theorem dX3_looseness_16 : decode cX3_looseness 16 = .ok (.invokevirtual 139, 3) := by decide +kernel
theorem dX3_looseness_19 : decode cX3_looseness 19 = .ok (.iadd, 1) := by decide +kernel
theorem dX3_looseness_20 : decode cX3_looseness 20 = .ok (.istore_n 1, 1) := by decide +kernel
theorem dX3_looseness_21 : decode cX3_looseness 21 = .ok (.iinc 2 1, 3) := by decide +kernel
theorem dX3_looseness_24 : decode cX3_looseness 24 = .ok (.goto (-20), 3) := by decide +kernel
theorem dX3_looseness_27 : decode cX3_looseness 27 = .ok (.iload_n 1, 1) := by decide +kernel
theorem dX3_looseness_28 : decode cX3_looseness 28 = .ok (.i2d, 1) := by decide +kernel
theorem dX3_looseness_29 : decode cX3_looseness 29 = .ok (.ldc2_w 171, 3) := by decide +kernel
theorem dX3_looseness_32 : decode cX3_looseness 32 = .ok (.ddiv, 1) := by decide +kernel
theorem dX3_looseness_33 : decode cX3_looseness 33 = .ok (.dreturn, 1) := by decide +kernel
theorem dX3_checkRod_0 : decode cX3_checkRod 0 = .ok (.iload_n 0, 1) := by decide +kernel
theorem dX3_checkRod_1 : decode cX3_checkRod 1 = .ok (.ifCond .lt 9, 3) := by decide +kernel
theorem dX3_checkRod_4 : decode cX3_checkRod 4 = .ok (.iload_n 0, 1) := by decide +kernel
theorem dX3_checkRod_5 : decode cX3_checkRod 5 = .ok (.bipush 9, 2) := by decide +kernel
theorem dX3_checkRod_7 : decode cX3_checkRod 7 = .ok (.if_icmp .lt 13, 3) := by decide +kernel
theorem dX3_checkRod_10 : decode cX3_checkRod 10 = .ok (.new 210, 3) := by decide +kernel
theorem dX3_checkRod_13 : decode cX3_checkRod 13 = .ok (.dup, 1) := by decide +kernel
theorem dX3_checkRod_14 : decode cX3_checkRod 14 = .ok (.ldc 212, 2) := by decide +kernel
theorem dX3_checkRod_16 : decode cX3_checkRod 16 = .ok (.invokespecial 214, 3) := by decide +kernel
theorem dX3_checkRod_19 : decode cX3_checkRod 19 = .ok (.athrow, 1) := by decide +kernel
theorem dX3_checkRod_20 : decode cX3_checkRod 20 = .ok (.return_, 1) := by decide +kernel
theorem dX3_checkRange_0 : decode cX3_checkRange 0 = .ok (.iload_n 0, 1) := by decide +kernel
theorem dX3_checkRange_1 : decode cX3_checkRange 1 = .ok (.iload_n 1, 1) := by decide +kernel
theorem dX3_checkRange_2 : decode cX3_checkRange 2 = .ok (.if_icmp .lt 8, 3) := by decide +kernel
theorem dX3_checkRange_5 : decode cX3_checkRange 5 = .ok (.iload_n 0, 1) := by decide +kernel
theorem dX3_checkRange_6 : decode cX3_checkRange 6 = .ok (.iload_n 2, 1) := by decide +kernel
theorem dX3_checkRange_7 : decode cX3_checkRange 7 = .ok (.if_icmp .le 13, 3) := by decide +kernel
theorem dX3_checkRange_10 : decode cX3_checkRange 10 = .ok (.new 101, 3) := by decide +kernel
theorem dX3_checkRange_13 : decode cX3_checkRange 13 = .ok (.dup, 1) := by decide +kernel
theorem dX3_checkRange_14 : decode cX3_checkRange 14 = .ok (.ldc 215, 2) := by decide +kernel
theorem dX3_checkRange_16 : decode cX3_checkRange 16 = .ok (.invokespecial 105, 3) := by decide +kernel
theorem dX3_checkRange_19 : decode cX3_checkRange 19 = .ok (.athrow, 1) := by decide +kernel
theorem dX3_checkRange_20 : decode cX3_checkRange 20 = .ok (.return_, 1) := by decide +kernel
set_option maxRecDepth 20000 in
theorem ggX3_changeOrThrow_X0_change : GoodIn wsX3_changeOrThrow wsX0_change := goodIn_r _ [9, 10, 11, 12, 8, 13, 14, 15, 16, 17, 18, 19, 20, 21, 22, 23, 24, 25, 26, 27, 28, 29, 30, 31, 32, 33, 34, 35, 36, 37, 38, 39, 40, 41, 42, 43, 44, 60, 61, 62, 63, 64, 65, 66] (by decide +kernel) (by decide +kernel)
set_option maxRecDepth 20000 in
theorem gX3_changeOrThrow_X0_change : GoodIn wsX3_changeOrThrow (wsV RX3 72 RX0 yX0_change wsX0_change) := goodIn_app (goodIn_of _ (by decide +kernel)) ggX3_changeOrThrow_X0_change
set_option maxRecDepth 20000 in
theorem ggX3_changeOrThrow_X1_keep : GoodIn wsX3_changeOrThrow wsX1_keep := goodIn_r _ [49, 50, 51, 52, 53, 54, 55, 8, 56, 14, 15, 28, 42, 33, 44, 43, 67, 68, 69, 60, 61, 62, 63, 64, 65, 66] (by decide +kernel) (by decide +kernel)
set_option maxRecDepth 20000 in
theorem gX3_changeOrThrow_X1_keep : GoodIn wsX3_changeOrThrow (wsV RX3 49 RX1 yX1_keep wsX1_keep) := goodIn_app (goodIn_of _ (by decide +kernel)) ggX3_changeOrThrow_X1_keep
theorem dX3_changeOrThrow_0 : decode cX3_changeOrThrow 0 = .ok (.aload_n 0, 1) := by decide +kernel
theorem dX3_changeOrThrow_1 : decode cX3_changeOrThrow 1 = .ok (.getfield 12, 3) := by decide +kernel
theorem dX3_changeOrThrow_4 : decode cX3_changeOrThrow 4 = .ok (.iload_n 1, 1) := by decide +kernel
theorem dX3_changeOrThrow_5 : decode cX3_changeOrThrow 5 = .ok (.iload_n 2, 1) := by decide +kernel
theorem dX3_changeOrThrow_6 : decode cX3_changeOrThrow 6 = .ok (.iconst 0, 1) := by decide +kernel
theorem dX3_changeOrThrow_7 : decode cX3_changeOrThrow 7 = .ok (.invokevirtual 72, 3) := by decide +kernel
theorem dX3_changeOrThrow_10 : decode cX3_changeOrThrow 10 = .ok (.iconst (-1), 1) := by decide +kernel
theorem dX3_changeOrThrow_11 : decode cX3_changeOrThrow 11 = .ok (.if_icmp .ne 13, 3) := by decide +kernel
theorem dX3_changeOrThrow_14 : decode cX3_changeOrThrow 14 = .ok (.new 42, 3) := by decide +kernel
theorem dX3_changeOrThrow_17 : decode cX3_changeOrThrow 17 = .ok (.dup, 1) := by decide +kernel
theorem dX3_changeOrThrow_18 : decode cX3_changeOrThrow 18 = .ok (.ldc 217, 2) := by decide +kernel
theorem dX3_changeOrThrow_20 : decode cX3_changeOrThrow 20 = .ok (.invokespecial 46, 3) := by decide +kernel
theorem dX3_changeOrThrow_23 : decode cX3_changeOrThrow 23 = .ok (.athrow, 1) := by decide +kernel
theorem dX3_changeOrThrow_24 : decode cX3_changeOrThrow 24 = .ok (.aload_n 0, 1) := by decide +kernel
theorem dX3_changeOrThrow_25 : decode cX3_changeOrThrow 25 = .ok (.getfield 19, 3) := by decide +kernel
theorem dX3_changeOrThrow_28 : decode cX3_changeOrThrow 28 = .ok (.aload_n 0, 1) := by decide +kernel
theorem dX3_changeOrThrow_29 : decode cX3_changeOrThrow 29 = .ok (.getfield 12, 3) := by decide +kernel
theorem dX3_changeOrThrow_32 : decode cX3_changeOrThrow 32 = .ok (.invokevirtual 49, 3) := by decide +kernel
theorem dX3_changeOrThrow_35 : decode cX3_changeOrThrow 35 = .ok (.aload_n 0, 1) := by decide +kernel
theorem dX3_changeOrThrow_36 : decode cX3_changeOrThrow 36 = .ok (.getfield 12, 3) := by decide +kernel
theorem dX3_changeOrThrow_39 : decode cX3_changeOrThrow 39 = .ok (.iload_n 1, 1) := by decide +kernel
theorem dX3_changeOrThrow_40 : decode cX3_changeOrThrow 40 = .ok (.iload_n 2, 1) := by decide +kernel
theorem dX3_changeOrThrow_41 : decode cX3_changeOrThrow 41 = .ok (.iconst 1, 1) := by decide +kernel
theorem dX3_changeOrThrow_42 : decode cX3_changeOrThrow 42 = .ok (.invokevirtual 72, 3) := by decide +kernel
theorem dX3_changeOrThrow_45 : decode cX3_changeOrThrow 45 = .ok (.ireturn, 1) := by decide +kernel
theorem dJ9_floorMod_7cf53_0 : decode cJ9_floorMod_7cf53 0 = .ok (.iload_n 0, 1) := by decide +kernel
theorem dJ9_floorMod_7cf53_1 : decode cJ9_floorMod_7cf53 1 = .ok (.iload_n 1, 1) := by decide +kernel
theorem dJ9_floorMod_7cf53_2 : decode cJ9_floorMod_7cf53 2 = .ok (.irem, 1) := by decide +kernel
theorem dJ9_floorMod_7cf53_3 : decode cJ9_floorMod_7cf53 3 = .ok (.istore_n 2, 1) := by decide +kernel
theorem dJ9_floorMod_7cf53_4 : decode cJ9_floorMod_7cf53 4 = .ok (.iload_n 0, 1) := by decide +kernel
theorem dJ9_floorMod_7cf53_5 : decode cJ9_floorMod_7cf53 5 = .ok (.iload_n 1, 1) := by decide +kernel
theorem dJ9_floorMod_7cf53_6 : decode cJ9_floorMod_7cf53 6 = .ok (.ixor, 1) := by decide +kernel
theorem dJ9_floorMod_7cf53_7 : decode cJ9_floorMod_7cf53 7 = .ok (.ifCond .ge 11, 3) := by decide +kernel
theorem dJ9_floorMod_7cf53_10 : decode cJ9_floorMod_7cf53 10 = .ok (.iload_n 2, 1) := by decide +kernel
theorem dJ9_floorMod_7cf53_11 : decode cJ9_floorMod_7cf53 11 = .ok (.ifCond .eq 7, 3) := by decide +kernel
theorem dJ9_floorMod_7cf53_14 : decode cJ9_floorMod_7cf53 14 = .ok (.iload_n 2, 1) := by decide +kernel
theorem dJ9_floorMod_7cf53_15 : decode cJ9_floorMod_7cf53 15 = .ok (.iload_n 1, 1) := by decide +kernel
theorem dJ9_floorMod_7cf53_16 : decode cJ9_floorMod_7cf53 16 = .ok (.iadd, 1) := by decide +kernel
theorem dJ9_floorMod_7cf53_17 : decode cJ9_floorMod_7cf53 17 = .ok (.ireturn, 1) := by decide +kernel
theorem dJ9_floorMod_7cf53_18 : decode cJ9_floorMod_7cf53 18 = .ok (.iload_n 2, 1) := by decide +kernel
theorem dJ9_floorMod_7cf53_19 : decode cJ9_floorMod_7cf53 19 = .ok (.ireturn, 1) := by decide +kernel
theorem dJ9_abs_0f7a4_0 : decode cJ9_abs_0f7a4 0 = .ok (.iload_n 0, 1) := by decide +kernel
theorem dJ9_abs_0f7a4_1 : decode cJ9_abs_0f7a4 1 = .ok (.ifCond .ge 8, 3) := by decide +kernel
theorem dJ9_abs_0f7a4_4 : decode cJ9_abs_0f7a4 4 = .ok (.iload_n 0, 1) := by decide +kernel
theorem dJ9_abs_0f7a4_5 : decode cJ9_abs_0f7a4 5 = .ok (.ineg, 1) := by decide +kernel
theorem dJ9_abs_0f7a4_6 : decode cJ9_abs_0f7a4 6 = .ok (.goto 4, 3) := by decide +kernel
theorem dJ9_abs_0f7a4_9 : decode cJ9_abs_0f7a4 9 = .ok (.iload_n 0, 1) := by decide +kernel
theorem dJ9_abs_0f7a4_10 : decode cJ9_abs_0f7a4 10 = .ok (.ireturn, 1) := by decide +kernel
theorem dL_cell_0 : decode cL_cell 0 = .ok (.iload_n 1, 1) := by decide +kernel
theorem dL_cell_1 : decode cL_cell 1 = .ok (.aload_n 0, 1) := by decide +kernel
theorem dL_cell_2 : decode cL_cell 2 = .ok (.arraylength, 1) := by decide +kernel
theorem dL_cell_3 : decode cL_cell 3 = .ok (.if_icmp .ge 9, 3) := by decide +kernel
theorem dL_cell_6 : decode cL_cell 6 = .ok (.aload_n 0, 1) := by decide +kernel
theorem dL_cell_7 : decode cL_cell 7 = .ok (.iload_n 1, 1) := by decide +kernel
theorem dL_cell_8 : decode cL_cell 8 = .ok (.iaload, 1) := by decide +kernel
theorem dL_cell_9 : decode cL_cell 9 = .ok (.goto 15, 3) := by decide +kernel
theorem dL_cell_12 : decode cL_cell 12 = .ok (.sipush 7919, 3) := by decide +kernel
theorem dL_cell_15 : decode cL_cell 15 = .ok (.iload_n 1, 1) := by decide +kernel
theorem dL_cell_16 : decode cL_cell 16 = .ok (.iconst 3, 1) := by decide +kernel
theorem dL_cell_17 : decode cL_cell 17 = .ok (.iadd, 1) := by decide +kernel
theorem dL_cell_18 : decode cL_cell 18 = .ok (.imul, 1) := by decide +kernel
theorem dL_cell_19 : decode cL_cell 19 = .ok (.iload_n 1, 1) := by decide +kernel
theorem dL_cell_20 : decode cL_cell 20 = .ok (.bipush 11, 2) := by decide +kernel
theorem dL_cell_22 : decode cL_cell 22 = .ok (.iadd, 1) := by decide +kernel
theorem dL_cell_23 : decode cL_cell 23 = .ok (.imul, 1) := by decide +kernel
theorem dL_cell_24 : decode cL_cell 24 = .ok (.ireturn, 1) := by decide +kernel
theorem dL_low_0 : decode cL_low 0 = .ok (.iload_n 0, 1) := by decide +kernel
theorem dL_low_1 : decode cL_low 1 = .ok (.ldc 7, 2) := by decide +kernel
theorem dL_low_3 : decode cL_low 3 = .ok (.iand, 1) := by decide +kernel
theorem dL_low_4 : decode cL_low 4 = .ok (.iload_n 1, 1) := by decide +kernel
theorem dL_low_5 : decode cL_low 5 = .ok (.irem, 1) := by decide +kernel
theorem dL_low_6 : decode cL_low 6 = .ok (.ireturn, 1) := by decide +kernel
set_option maxRecDepth 20000 in
theorem ggL_does_L_low : GoodIn wsL_does wsL_low := goodIn_r _ [4, 5] (by decide +kernel) (by decide +kernel)
set_option maxRecDepth 20000 in
theorem gL_does_L_low : GoodIn wsL_does (va_wsS RL 8 yL_low wsL_low) := goodIn_app (goodIn_of _ (by decide +kernel)) ggL_does_L_low
set_option maxRecDepth 20000 in
theorem ggL_does_X3_rod : GoodIn wsL_does wsX3_rod := goodIn_ca (goodIn_ca (goodIn_r _ [10, 11, 12, 13, 14, 15, 16, 17, 18, 19, 9, 20, 21, 22, 23, 24, 25, 26, 27, 28, 29, 30, 31, 32, 33, 34, 35, 36, 37, 38, 39, 40, 41, 42, 43, 44, 45, 46, 47, 48, 49, 50, 51, 52, 53, 54, 55, 56, 136, 137, 138, 139, 140, 141, 142, 143, 144, 145] (by decide +kernel) (by decide +kernel)) (goodIn_sub (fun _ h => List.mem_cons_of_mem _ (List.mem_append_left _ (List.mem_append_left _ (List.mem_append_right _ h)))) (by decide +kernel))) (goodIn_sub (fun _ h => List.mem_cons_of_mem _ (List.mem_append_left _ (List.mem_append_right _ h))) (by decide +kernel))
set_option maxRecDepth 20000 in
theorem gL_does_X3_rod : GoodIn wsL_does (wsV RL 14 RX3 yX3_rod wsX3_rod) := goodIn_app (goodIn_of _ (by decide +kernel)) ggL_does_X3_rod
set_option maxRecDepth 20000 in
theorem ggL_does_X3_move : GoodIn wsL_does wsX3_move := goodIn_ca (goodIn_ca (goodIn_ca (goodIn_r _ [60, 61, 62, 11, 63, 18, 19, 9, 20, 21, 22, 23, 24, 25, 26, 27, 64, 44, 45, 31, 46, 33, 47, 48, 49, 50, 34, 51, 65, 66, 67, 68, 69, 70, 71, 72, 73, 74, 75, 76, 77, 56, 78, 79, 80, 53, 54, 55, 136, 137, 138, 139, 140, 141, 142, 143, 144, 145, 146, 147, 148] (by decide +kernel) (by decide +kernel)) (goodIn_sub (fun _ h => List.mem_cons_of_mem _ (List.mem_append_right _ h)) (by decide +kernel))) (goodIn_sub (fun _ h => List.mem_cons_of_mem _ (List.mem_append_left _ (List.mem_append_left _ (List.mem_append_right _ h)))) (by decide +kernel))) (goodIn_sub (fun _ h => List.mem_cons_of_mem _ (List.mem_append_left _ (List.mem_append_right _ h))) (by decide +kernel))
set_option maxRecDepth 20000 in
theorem gL_does_X3_move : GoodIn wsL_does (wsV RL 19 RX3 yX3_move wsX3_move) := goodIn_app (goodIn_of _ (by decide +kernel)) ggL_does_X3_move
set_option maxRecDepth 20000 in
theorem ggL_does_X3_stick : GoodIn wsL_does wsX3_stick := goodIn_ca (goodIn_ca (goodIn_r _ [84, 63, 11, 15, 18, 19, 9, 20, 21, 22, 23, 24, 25, 26, 27, 65, 66, 67, 68, 69, 70, 71, 72, 73, 74, 75, 31, 76, 33, 34, 51, 77, 56, 78, 79, 136, 137, 138, 139, 140, 141, 142, 143, 144, 145, 146, 147, 148] (by decide +kernel) (by decide +kernel)) (goodIn_sub (fun _ h => List.mem_cons_of_mem _ (List.mem_append_left _ (List.mem_append_left _ (List.mem_append_right _ h)))) (by decide +kernel))) (goodIn_sub (fun _ h => List.mem_cons_of_mem _ (List.mem_append_left _ (List.mem_append_right _ h))) (by decide +kernel))
set_option maxRecDepth 20000 in
theorem gL_does_X3_stick : GoodIn wsL_does (wsV RL 23 RX3 yX3_stick wsX3_stick) := goodIn_app (goodIn_of _ (by decide +kernel)) ggL_does_X3_stick
set_option maxRecDepth 20000 in
theorem ggL_does_X3_set : GoodIn wsL_does wsX3_set := goodIn_ca (goodIn_r _ [88, 63, 11, 89, 23, 24, 9, 25, 26, 27, 65, 66, 67, 68, 69, 70, 71, 72, 73, 74, 75, 31, 76, 33, 34, 51, 77, 56, 78, 79, 136, 137, 138, 139, 140, 141, 142, 143, 144, 145, 146, 147, 148] (by decide +kernel) (by decide +kernel)) (goodIn_sub (fun _ h => List.mem_cons_of_mem _ (List.mem_append_left _ (List.mem_append_right _ h))) (by decide +kernel))
set_option maxRecDepth 20000 in
theorem gL_does_X3_set : GoodIn wsL_does (wsV RL 26 RX3 yX3_set wsX3_set) := goodIn_app (goodIn_of _ (by decide +kernel)) ggL_does_X3_set
set_option maxRecDepth 20000 in
theorem ggL_does_X3_tidy : GoodIn wsL_does wsX3_tidy := goodIn_r _ [93, 63, 11, 65, 66, 67, 68, 69, 70, 71, 72, 73, 74, 75, 31, 76, 33, 34, 51, 77, 56, 78, 79, 94, 95, 96, 97, 98, 99, 100, 101, 102, 29, 30, 32, 39, 40, 41, 42, 43, 44, 45, 46, 47, 48, 49, 50, 52, 53, 54, 55, 103, 104, 105, 106, 107, 108, 109, 110, 111, 112, 113, 114, 136, 137, 138, 146, 147, 148, 139, 140, 141, 142, 143, 144, 145] (by decide +kernel) (by decide +kernel)
set_option maxRecDepth 20000 in
theorem gL_does_X3_tidy : GoodIn wsL_does (wsV RL 30 RX3 yX3_tidy wsX3_tidy) := goodIn_app (goodIn_of _ (by decide +kernel)) ggL_does_X3_tidy
set_option maxRecDepth 20000 in
theorem ggL_does_X3_pay : GoodIn wsL_does wsX3_pay := goodIn_ca (goodIn_ca (goodIn_r _ [118, 61, 62, 11, 14, 63, 18, 19, 9, 20, 21, 22, 119, 99, 100, 31, 101, 102, 29, 30, 32, 33, 34, 39, 40, 41, 42, 43, 44, 45, 46, 47, 48, 49, 50, 51, 52, 53, 54, 55, 56, 103, 104, 105, 106, 107, 108, 109, 110, 77, 79, 78, 65, 66, 67, 68, 69, 70, 71, 72, 73, 74, 75, 76, 94, 95, 96, 97, 98, 136, 137, 138, 139, 140, 141, 142, 143, 144, 145, 146, 147, 148] (by decide +kernel) (by decide +kernel)) (goodIn_sub (fun _ h => List.mem_cons_of_mem _ (List.mem_append_right _ h)) (by decide +kernel))) (goodIn_sub (fun _ h => List.mem_cons_of_mem _ (List.mem_append_left _ (List.mem_append_left _ (List.mem_append_right _ h)))) (by decide +kernel))
set_option maxRecDepth 20000 in
theorem gL_does_X3_pay : GoodIn wsL_does (wsV RL 34 RX3 yX3_pay wsX3_pay) := goodIn_app (goodIn_of _ (by decide +kernel)) ggL_does_X3_pay
set_option maxRecDepth 20000 in
theorem ggL_does_X3_ifAdded : GoodIn wsL_does wsX3_ifAdded := goodIn_ca (goodIn_ca (goodIn_r _ [123, 11, 18, 19, 9, 20, 21, 22, 23, 24, 25, 26, 27, 119, 99, 100, 31, 101, 102, 29, 30, 32, 33, 34, 39, 40, 41, 42, 43, 44, 45, 46, 47, 48, 49, 50, 51, 52, 53, 54, 55, 56, 103, 104, 105, 106, 107, 108, 109, 110, 77, 79, 78, 136, 137, 138, 139, 140, 141, 142, 143, 144, 145] (by decide +kernel) (by decide +kernel)) (goodIn_sub (fun _ h => List.mem_cons_of_mem _ (List.mem_append_left _ (List.mem_append_left _ (List.mem_append_right _ h)))) (by decide +kernel))) (goodIn_sub (fun _ h => List.mem_cons_of_mem _ (List.mem_append_left _ (List.mem_append_right _ h))) (by decide +kernel))
set_option maxRecDepth 20000 in
theorem gL_does_X3_ifAdded : GoodIn wsL_does (wsV RL 37 RX3 yX3_ifAdded wsX3_ifAdded) := goodIn_app (goodIn_of _ (by decide +kernel)) ggL_does_X3_ifAdded
set_option maxRecDepth 20000 in
theorem ggL_does_X3_add : GoodIn wsL_does wsX3_add := goodIn_ca (goodIn_ca (goodIn_ca (goodIn_r _ [127, 18, 19, 9, 20, 21, 22, 23, 24, 25, 26, 27, 128, 129, 130, 131, 61, 62, 11, 63, 119, 99, 100, 31, 101, 102, 29, 30, 32, 33, 34, 39, 40, 41, 42, 43, 44, 45, 46, 47, 48, 49, 50, 51, 52, 53, 54, 55, 56, 103, 104, 105, 106, 107, 108, 109, 110, 77, 79, 78, 65, 66, 67, 68, 69, 70, 71, 72, 73, 74, 75, 76, 136, 137, 138, 139, 140, 141, 142, 143, 144, 145, 146, 147, 148] (by decide +kernel) (by decide +kernel)) (goodIn_sub (fun _ h => List.mem_cons_of_mem _ (List.mem_append_left _ (List.mem_append_left _ (List.mem_append_right _ h)))) (by decide +kernel))) (goodIn_sub (fun _ h => List.mem_cons_of_mem _ (List.mem_append_left _ (List.mem_append_right _ h))) (by decide +kernel))) (goodIn_sub (fun _ h => List.mem_cons_of_mem _ (List.mem_append_right _ h)) (by decide +kernel))
set_option maxRecDepth 20000 in
theorem gL_does_X3_add : GoodIn wsL_does (wsV RL 40 RX3 yX3_add wsX3_add) := goodIn_app (goodIn_of _ (by decide +kernel)) ggL_does_X3_add
set_option maxRecDepth 20000 in
theorem ggL_does_X3_less : GoodIn wsL_does wsX3_less := goodIn_ca (goodIn_ca (goodIn_ca (goodIn_r _ [135, 18, 19, 9, 20, 21, 22, 23, 24, 25, 26, 27, 128, 129, 130, 131, 61, 62, 11, 63, 119, 99, 100, 31, 101, 102, 29, 30, 32, 33, 34, 39, 40, 41, 42, 43, 44, 45, 46, 47, 48, 49, 50, 51, 52, 53, 54, 55, 56, 103, 104, 105, 106, 107, 108, 109, 110, 77, 79, 78, 65, 66, 67, 68, 69, 70, 71, 72, 73, 74, 75, 76, 136, 137, 138, 139, 140, 141, 142, 143, 144, 145, 146, 147, 148] (by decide +kernel) (by decide +kernel)) (goodIn_sub (fun _ h => List.mem_cons_of_mem _ (List.mem_append_left _ (List.mem_append_left _ (List.mem_append_right _ h)))) (by decide +kernel))) (goodIn_sub (fun _ h => List.mem_cons_of_mem _ (List.mem_append_left _ (List.mem_append_right _ h))) (by decide +kernel))) (goodIn_sub (fun _ h => List.mem_cons_of_mem _ (List.mem_append_right _ h)) (by decide +kernel))
set_option maxRecDepth 20000 in
theorem gL_does_X3_less : GoodIn wsL_does (wsV RL 43 RX3 yX3_less wsX3_less) := goodIn_app (goodIn_of _ (by decide +kernel)) ggL_does_X3_less
theorem dL_does_0 : decode cL_does 0 = .ok (.iload_n 1, 1) := by decide +kernel
theorem dL_does_1 : decode cL_does 1 = .ok (.iconst 4, 1) := by decide +kernel
theorem dL_does_2 : decode cL_does 2 = .ok (.ishr, 1) := by decide +kernel
theorem dL_does_3 : decode cL_does 3 = .ok (.iload_n 1, 1) := by decide +kernel
theorem dL_does_4 : decode cL_does 4 = .ok (.bipush 14, 2) := by decide +kernel
theorem dL_does_6 : decode cL_does 6 = .ok (.ishr, 1) := by decide +kernel
theorem dL_does_7 : decode cL_does 7 = .ok (.iconst 1, 1) := by decide +kernel
theorem dL_does_8 : decode cL_does 8 = .ok (.iand, 1) := by decide +kernel
theorem dL_does_9 : decode cL_does 9 = .ok (.ifCond .ne 7, 3) := by decide +kernel
theorem dL_does_12 : decode cL_does 12 = .ok (.iconst 4, 1) := by decide +kernel
theorem dL_does_13 : decode cL_does 13 = .ok (.goto 5, 3) := by decide +kernel
theorem dL_does_16 : decode cL_does 16 = .ok (.bipush 9, 2) := by decide +kernel
theorem dL_does_18 : decode cL_does 18 = .ok (.invokestatic 8, 3) := by decide +kernel
theorem dL_does_21 : decode cL_does 21 = .ok (.istore_n 2, 1) := by decide +kernel
theorem dL_does_22 : decode cL_does 22 = .ok (.iconst 1, 1) := by decide +kernel
theorem dL_does_23 : decode cL_does 23 = .ok (.iload_n 1, 1) := by decide +kernel
theorem dL_does_24 : decode cL_does 24 = .ok (.bipush 8, 2) := by decide +kernel
theorem dL_does_26 : decode cL_does 26 = .ok (.ishr, 1) := by decide +kernel
theorem dL_does_27 : decode cL_does 27 = .ok (.bipush 9, 2) := by decide +kernel
theorem dL_does_29 : decode cL_does 29 = .ok (.invokestatic 8, 3) := by decide +kernel
theorem dL_does_32 : decode cL_does 32 = .ok (.iadd, 1) := by decide +kernel
theorem dL_does_33 : decode cL_does 33 = .ok (.istore_n 3, 1) := by decide +kernel
theorem dL_does_34 : decode cL_does 34 = .ok (.iload_n 1, 1) := by decide +kernel
theorem dL_does_35 : decode cL_does 35 = .ok (.bipush 15, 2) := by decide +kernel
theorem dL_does_37 : decode cL_does 37 = .ok (.iand, 1) := by decide +kernel
theorem dL_does_38 : decode cL_does 38 = .ok (.tableswitch 204 0 11 #[62, 62, 131, 131, 131, 145, 158, 163, 184, 184, 184, 184], 62) := by decide +kernel
theorem dL_does_100 : decode cL_does 100 = .ok (.aload_n 0, 1) := by decide +kernel
theorem dL_does_101 : decode cL_does 101 = .ok (.iload_n 2, 1) := by decide +kernel
theorem dL_does_102 : decode cL_does 102 = .ok (.iconst 4, 1) := by decide +kernel
theorem dL_does_103 : decode cL_does 103 = .ok (.invokevirtual 14, 3) := by decide +kernel
theorem dL_does_106 : decode cL_does 106 = .ok (.iconst 1, 1) := by decide +kernel
theorem dL_does_107 : decode cL_does 107 = .ok (.iand, 1) := by decide +kernel
theorem dL_does_108 : decode cL_does 108 = .ok (.iconst 1, 1) := by decide +kernel
theorem dL_does_109 : decode cL_does 109 = .ok (.if_icmp .ne 12, 3) := by decide +kernel
theorem dL_does_112 : decode cL_does 112 = .ok (.aload_n 0, 1) := by decide +kernel
theorem dL_does_113 : decode cL_does 113 = .ok (.iload_n 2, 1) := by decide +kernel
theorem dL_does_114 : decode cL_does 114 = .ok (.iconst 0, 1) := by decide +kernel
theorem dL_does_115 : decode cL_does 115 = .ok (.invokevirtual 14, 3) := by decide +kernel
theorem dL_does_118 : decode cL_does 118 = .ok (.goto 11, 3) := by decide +kernel
theorem dL_does_121 : decode cL_does 121 = .ok (.iload_n 1, 1) := by decide +kernel
theorem dL_does_122 : decode cL_does 122 = .ok (.bipush 7, 2) := by decide +kernel
theorem dL_does_124 : decode cL_does 124 = .ok (.ishr, 1) := by decide +kernel
theorem dL_does_125 : decode cL_does 125 = .ok (.iconst 3, 1) := by decide +kernel
theorem dL_does_126 : decode cL_does 126 = .ok (.invokestatic 8, 3) := by decide +kernel
theorem dL_does_129 : decode cL_does 129 = .ok (.istore 4, 2) := by decide +kernel
theorem dL_does_131 : decode cL_does 131 = .ok (.aload_n 0, 1) := by decide +kernel
theorem dL_does_132 : decode cL_does 132 = .ok (.iload_n 2, 1) := by decide +kernel
theorem dL_does_133 : decode cL_does 133 = .ok (.iload 4, 2) := by decide +kernel
theorem dL_does_135 : decode cL_does 135 = .ok (.aload_n 0, 1) := by decide +kernel
theorem dL_does_136 : decode cL_does 136 = .ok (.iload_n 2, 1) := by decide +kernel
theorem dL_does_137 : decode cL_does 137 = .ok (.iconst 4, 1) := by decide +kernel
theorem dL_does_138 : decode cL_does 138 = .ok (.invokevirtual 14, 3) := by decide +kernel
theorem dL_does_141 : decode cL_does 141 = .ok (.iconst 2, 1) := by decide +kernel
theorem dL_does_142 : decode cL_does 142 = .ok (.iand, 1) := by decide +kernel
theorem dL_does_143 : decode cL_does 143 = .ok (.iconst 2, 1) := by decide +kernel
theorem dL_does_144 : decode cL_does 144 = .ok (.if_icmp .ne 12, 3) := by decide +kernel
theorem dL_does_147 : decode cL_does 147 = .ok (.aload_n 0, 1) := by decide +kernel
theorem dL_does_148 : decode cL_does 148 = .ok (.iload_n 2, 1) := by decide +kernel
theorem dL_does_149 : decode cL_does 149 = .ok (.iconst 1, 1) := by decide +kernel
theorem dL_does_150 : decode cL_does 150 = .ok (.invokevirtual 14, 3) := by decide +kernel
theorem dL_does_153 : decode cL_does 153 = .ok (.goto 12, 3) := by decide +kernel
theorem dL_does_156 : decode cL_does 156 = .ok (.iload_n 1, 1) := by decide +kernel
theorem dL_does_157 : decode cL_does 157 = .ok (.bipush 9, 2) := by decide +kernel
theorem dL_does_159 : decode cL_does 159 = .ok (.ishr, 1) := by decide +kernel
theorem dL_does_160 : decode cL_does 160 = .ok (.bipush 6, 2) := by decide +kernel
theorem dL_does_162 : decode cL_does 162 = .ok (.invokestatic 8, 3) := by decide +kernel
theorem dL_does_165 : decode cL_does 165 = .ok (.invokevirtual 19, 3) := by decide +kernel
theorem dL_does_168 : decode cL_does 168 = .ok (.ireturn, 1) := by decide +kernel
theorem dL_does_169 : decode cL_does 169 = .ok (.aload_n 0, 1) := by decide +kernel
theorem dL_does_170 : decode cL_does 170 = .ok (.iload_n 2, 1) := by decide +kernel
theorem dL_does_171 : decode cL_does 171 = .ok (.iload_n 1, 1) := by decide +kernel
theorem dL_does_172 : decode cL_does 172 = .ok (.bipush 8, 2) := by decide +kernel
theorem dL_does_174 : decode cL_does 174 = .ok (.ishr, 1) := by decide +kernel
theorem dL_does_175 : decode cL_does 175 = .ok (.iconst 4, 1) := by decide +kernel
theorem dL_does_176 : decode cL_does 176 = .ok (.invokestatic 8, 3) := by decide +kernel
theorem dL_does_179 : decode cL_does 179 = .ok (.invokevirtual 23, 3) := by decide +kernel
theorem dL_does_182 : decode cL_does 182 = .ok (.ireturn, 1) := by decide +kernel
theorem dL_does_183 : decode cL_does 183 = .ok (.aload_n 0, 1) := by decide +kernel
theorem dL_does_184 : decode cL_does 184 = .ok (.iload_n 1, 1) := by decide +kernel
theorem dL_does_185 : decode cL_does 185 = .ok (.iconst 4, 1) := by decide +kernel
theorem dL_does_186 : decode cL_does 186 = .ok (.ishr, 1) := by decide +kernel
theorem dL_does_187 : decode cL_does 187 = .ok (.bipush 10, 2) := by decide +kernel
theorem dL_does_189 : decode cL_does 189 = .ok (.invokestatic 8, 3) := by decide +kernel
theorem dL_does_192 : decode cL_does 192 = .ok (.invokevirtual 26, 3) := by decide +kernel
theorem dL_does_195 : decode cL_does 195 = .ok (.ireturn, 1) := by decide +kernel
theorem dL_does_196 : decode cL_does 196 = .ok (.aload_n 0, 1) := by decide +kernel
theorem dL_does_197 : decode cL_does 197 = .ok (.invokevirtual 30, 3) := by decide +kernel
theorem dL_does_200 : decode cL_does 200 = .ok (.ireturn, 1) := by decide +kernel
theorem dL_does_201 : decode cL_does 201 = .ok (.aload_n 0, 1) := by decide +kernel
theorem dL_does_202 : decode cL_does 202 = .ok (.iload_n 2, 1) := by decide +kernel
theorem dL_does_203 : decode cL_does 203 = .ok (.iconst 3, 1) := by decide +kernel
theorem dL_does_204 : decode cL_does 204 = .ok (.invokevirtual 14, 3) := by decide +kernel
theorem dL_does_207 : decode cL_does 207 = .ok (.bipush 100, 2) := by decide +kernel
theorem dL_does_209 : decode cL_does 209 = .ok (.if_icmp .ne 11, 3) := by decide +kernel
theorem dL_does_212 : decode cL_does 212 = .ok (.aload_n 0, 1) := by decide +kernel
theorem dL_does_213 : decode cL_does 213 = .ok (.iload_n 2, 1) := by decide +kernel
end
section
theorem dL_does_214 : decode cL_does 214 = .ok (.invokevirtual 34, 3) := by decide +kernel
theorem dL_does_217 : decode cL_does 217 = .ok (.goto 4, 3) := by decide +kernel
theorem dL_does_220 : decode cL_does 220 = .ok (.iconst 0, 1) := by decide +kernel
theorem dL_does_221 : decode cL_does 221 = .ok (.ireturn, 1) := by decide +kernel
theorem dL_does_222 : decode cL_does 222 = .ok (.aload_n 0, 1) := by decide +kernel
theorem dL_does_223 : decode cL_does 223 = .ok (.iload_n 2, 1) := by decide +kernel
theorem dL_does_224 : decode cL_does 224 = .ok (.iload_n 3, 1) := by decide +kernel
theorem dL_does_225 : decode cL_does 225 = .ok (.invokevirtual 37, 3) := by decide +kernel
theorem dL_does_228 : decode cL_does 228 = .ok (.ifCond .ge 7, 3) := by decide +kernel
theorem dL_does_231 : decode cL_does 231 = .ok (.iconst 0, 1) := by decide +kernel
theorem dL_does_232 : decode cL_does 232 = .ok (.goto 9, 3) := by decide +kernel
theorem dL_does_235 : decode cL_does 235 = .ok (.aload_n 0, 1) := by decide +kernel
theorem dL_does_236 : decode cL_does 236 = .ok (.iload_n 2, 1) := by decide +kernel
theorem dL_does_237 : decode cL_does 237 = .ok (.iload_n 3, 1) := by decide +kernel
theorem dL_does_238 : decode cL_does 238 = .ok (.invokevirtual 40, 3) := by decide +kernel
theorem dL_does_241 : decode cL_does 241 = .ok (.ireturn, 1) := by decide +kernel
theorem dL_does_242 : decode cL_does 242 = .ok (.aload_n 0, 1) := by decide +kernel
theorem dL_does_243 : decode cL_does 243 = .ok (.iload_n 2, 1) := by decide +kernel
theorem dL_does_244 : decode cL_does 244 = .ok (.iload_n 3, 1) := by decide +kernel
theorem dL_does_245 : decode cL_does 245 = .ok (.ineg, 1) := by decide +kernel
theorem dL_does_246 : decode cL_does 246 = .ok (.invokevirtual 37, 3) := by decide +kernel
theorem dL_does_249 : decode cL_does 249 = .ok (.ifCond .ge 7, 3) := by decide +kernel
theorem dL_does_252 : decode cL_does 252 = .ok (.iconst 0, 1) := by decide +kernel
theorem dL_does_253 : decode cL_does 253 = .ok (.goto 9, 3) := by decide +kernel
theorem dL_does_256 : decode cL_does 256 = .ok (.aload_n 0, 1) := by decide +kernel
theorem dL_does_257 : decode cL_does 257 = .ok (.iload_n 2, 1) := by decide +kernel
theorem dL_does_258 : decode cL_does 258 = .ok (.iload_n 3, 1) := by decide +kernel
theorem dL_does_259 : decode cL_does 259 = .ok (.invokevirtual 43, 3) := by decide +kernel
theorem dL_does_262 : decode cL_does 262 = .ok (.ireturn, 1) := by decide +kernel
set_option maxRecDepth 20000 in
theorem ggL_areRodsSo_X3_rod : GoodIn wsL_areRodsSo wsX3_rod := goodIn_ca (goodIn_ca (goodIn_r _ [7, 8, 9, 10, 11, 12, 13, 14, 15, 16, 6, 17, 18, 19, 20, 21, 22, 23, 24, 25, 26, 27, 28, 29, 30, 31, 32, 33, 34, 35, 36, 37, 38, 39, 40, 41, 42, 43, 44, 45, 46, 47, 48, 49, 50, 51, 52, 53, 101, 102, 103, 104, 105, 106, 107, 108, 109, 110] (by decide +kernel) (by decide +kernel)) (goodIn_sub (fun _ h => List.mem_cons_of_mem _ (List.mem_append_left _ (List.mem_append_right _ h))) (by decide +kernel))) (goodIn_sub (fun _ h => List.mem_cons_of_mem _ (List.mem_append_right _ h)) (by decide +kernel))
set_option maxRecDepth 20000 in
theorem gL_areRodsSo_X3_rod : GoodIn wsL_areRodsSo (wsV RL 14 RX3 yX3_rod wsX3_rod) := goodIn_app (goodIn_of _ (by decide +kernel)) ggL_areRodsSo_X3_rod
set_option maxRecDepth 20000 in
theorem ggL_areRodsSo_X3_moves : GoodIn wsL_areRodsSo wsX3_moves := goodIn_ca (goodIn_ca (goodIn_r _ [57, 8, 15, 16, 6, 17, 18, 19, 20, 21, 22, 23, 24, 58, 37, 38, 28, 39, 40, 41, 42, 43, 30, 44, 45, 46, 47, 31, 48, 49, 50, 51, 52, 53, 101, 102, 103, 104, 105, 106, 107, 108, 109, 110] (by decide +kernel) (by decide +kernel)) (goodIn_sub (fun _ h => List.mem_cons_of_mem _ (List.mem_append_left _ (List.mem_append_right _ h))) (by decide +kernel))) (goodIn_sub (fun _ h => List.mem_cons_of_mem _ (List.mem_append_right _ h)) (by decide +kernel))
set_option maxRecDepth 20000 in
theorem gL_areRodsSo_X3_moves : GoodIn wsL_areRodsSo (wsV RL 46 RX3 yX3_moves wsX3_moves) := goodIn_app (goodIn_of _ (by decide +kernel)) ggL_areRodsSo_X3_moves
set_option maxRecDepth 20000 in
theorem ggL_areRodsSo_X3_whole : GoodIn wsL_areRodsSo wsX3_whole := goodIn_r _ [62, 8, 11, 63, 25, 26, 27, 28, 29, 30, 31, 101, 102, 103, 104, 105, 106, 107, 108, 109, 110] (by decide +kernel) (by decide +kernel)
set_option maxRecDepth 20000 in
theorem gL_areRodsSo_X3_whole : GoodIn wsL_areRodsSo (wsV RL 53 RX3 yX3_whole wsX3_whole) := goodIn_app (goodIn_of _ (by decide +kernel)) ggL_areRodsSo_X3_whole
set_option maxRecDepth 20000 in
theorem ggL_areRodsSo_X3_count : GoodIn wsL_areRodsSo wsX3_count := goodIn_ca (goodIn_r _ [67, 8, 68, 69, 70, 20, 21, 6, 22, 23, 24, 71, 72, 73, 28, 74, 53, 75, 76, 77, 78, 79, 80, 81, 82, 83, 84, 85, 86, 87, 88, 26, 27, 29, 30, 31, 89, 90, 91, 92, 93, 94, 95, 96, 97, 98, 99, 100, 48, 101, 102, 103, 104, 105, 106, 107, 108, 109, 110, 111, 112, 113] (by decide +kernel) (by decide +kernel)) (goodIn_sub (fun _ h => List.mem_cons_of_mem _ (List.mem_append_right _ h)) (by decide +kernel))
set_option maxRecDepth 20000 in
theorem gL_areRodsSo_X3_count : GoodIn wsL_areRodsSo (wsV RL 57 RX3 yX3_count wsX3_count) := goodIn_app (goodIn_of _ (by decide +kernel)) ggL_areRodsSo_X3_count
theorem dL_areRodsSo_0 : decode cL_areRodsSo 0 = .ok (.iconst 0, 1) := by decide +kernel
theorem dL_areRodsSo_1 : decode cL_areRodsSo 1 = .ok (.istore_n 1, 1) := by decide +kernel
theorem dL_areRodsSo_2 : decode cL_areRodsSo 2 = .ok (.iconst 0, 1) := by decide +kernel
theorem dL_areRodsSo_3 : decode cL_areRodsSo 3 = .ok (.istore_n 2, 1) := by decide +kernel
theorem dL_areRodsSo_4 : decode cL_areRodsSo 4 = .ok (.iconst 0, 1) := by decide +kernel
theorem dL_areRodsSo_5 : decode cL_areRodsSo 5 = .ok (.istore_n 3, 1) := by decide +kernel
theorem dL_areRodsSo_6 : decode cL_areRodsSo 6 = .ok (.iconst 0, 1) := by decide +kernel
theorem dL_areRodsSo_7 : decode cL_areRodsSo 7 = .ok (.istore 4, 2) := by decide +kernel
theorem dL_areRodsSo_9 : decode cL_areRodsSo 9 = .ok (.iconst 0, 1) := by decide +kernel
theorem dL_areRodsSo_10 : decode cL_areRodsSo 10 = .ok (.istore 5, 2) := by decide +kernel
theorem dL_areRodsSo_12 : decode cL_areRodsSo 12 = .ok (.iconst 0, 1) := by decide +kernel
theorem dL_areRodsSo_13 : decode cL_areRodsSo 13 = .ok (.istore 6, 2) := by decide +kernel
theorem dL_areRodsSo_15 : decode cL_areRodsSo 15 = .ok (.lconst 0, 1) := by decide +kernel
theorem dL_areRodsSo_16 : decode cL_areRodsSo 16 = .ok (.lstore 7, 2) := by decide +kernel
theorem dL_areRodsSo_18 : decode cL_areRodsSo 18 = .ok (.iconst 1, 1) := by decide +kernel
theorem dL_areRodsSo_19 : decode cL_areRodsSo 19 = .ok (.istore 9, 2) := by decide +kernel
theorem dL_areRodsSo_21 : decode cL_areRodsSo 21 = .ok (.bipush 8, 2) := by decide +kernel
theorem dL_areRodsSo_23 : decode cL_areRodsSo 23 = .ok (.istore 10, 2) := by decide +kernel
theorem dL_areRodsSo_25 : decode cL_areRodsSo 25 = .ok (.iload 10, 2) := by decide +kernel
theorem dL_areRodsSo_27 : decode cL_areRodsSo 27 = .ok (.ifCond .lt 449, 3) := by decide +kernel
theorem dL_areRodsSo_30 : decode cL_areRodsSo 30 = .ok (.aload_n 0, 1) := by decide +kernel
theorem dL_areRodsSo_31 : decode cL_areRodsSo 31 = .ok (.iload 10, 2) := by decide +kernel
theorem dL_areRodsSo_33 : decode cL_areRodsSo 33 = .ok (.iconst 0, 1) := by decide +kernel
theorem dL_areRodsSo_34 : decode cL_areRodsSo 34 = .ok (.invokevirtual 14, 3) := by decide +kernel
theorem dL_areRodsSo_37 : decode cL_areRodsSo 37 = .ok (.istore 11, 2) := by decide +kernel
theorem dL_areRodsSo_39 : decode cL_areRodsSo 39 = .ok (.aload_n 0, 1) := by decide +kernel
theorem dL_areRodsSo_40 : decode cL_areRodsSo 40 = .ok (.iload 10, 2) := by decide +kernel
theorem dL_areRodsSo_42 : decode cL_areRodsSo 42 = .ok (.iconst 1, 1) := by decide +kernel
theorem dL_areRodsSo_43 : decode cL_areRodsSo 43 = .ok (.invokevirtual 14, 3) := by decide +kernel
theorem dL_areRodsSo_46 : decode cL_areRodsSo 46 = .ok (.istore 12, 2) := by decide +kernel
theorem dL_areRodsSo_48 : decode cL_areRodsSo 48 = .ok (.aload_n 0, 1) := by decide +kernel
theorem dL_areRodsSo_49 : decode cL_areRodsSo 49 = .ok (.iload 10, 2) := by decide +kernel
theorem dL_areRodsSo_51 : decode cL_areRodsSo 51 = .ok (.iconst 3, 1) := by decide +kernel
theorem dL_areRodsSo_52 : decode cL_areRodsSo 52 = .ok (.invokevirtual 14, 3) := by decide +kernel
theorem dL_areRodsSo_55 : decode cL_areRodsSo 55 = .ok (.bipush 100, 2) := by decide +kernel
theorem dL_areRodsSo_57 : decode cL_areRodsSo 57 = .ok (.isub, 1) := by decide +kernel
theorem dL_areRodsSo_58 : decode cL_areRodsSo 58 = .ok (.istore 13, 2) := by decide +kernel
theorem dL_areRodsSo_60 : decode cL_areRodsSo 60 = .ok (.iconst 0, 1) := by decide +kernel
theorem dL_areRodsSo_61 : decode cL_areRodsSo 61 = .ok (.istore 14, 2) := by decide +kernel
theorem dL_areRodsSo_63 : decode cL_areRodsSo 63 = .ok (.iconst 0, 1) := by decide +kernel
theorem dL_areRodsSo_64 : decode cL_areRodsSo 64 = .ok (.istore 15, 2) := by decide +kernel
theorem dL_areRodsSo_66 : decode cL_areRodsSo 66 = .ok (.iload 15, 2) := by decide +kernel
theorem dL_areRodsSo_68 : decode cL_areRodsSo 68 = .ok (.bipush 16, 2) := by decide +kernel
theorem dL_areRodsSo_70 : decode cL_areRodsSo 70 = .ok (.if_icmp .ge 202, 3) := by decide +kernel
theorem dL_areRodsSo_73 : decode cL_areRodsSo 73 = .ok (.iconst (-1), 1) := by decide +kernel
theorem dL_areRodsSo_74 : decode cL_areRodsSo 74 = .ok (.istore 16, 2) := by decide +kernel
theorem dL_areRodsSo_76 : decode cL_areRodsSo 76 = .ok (.iconst 0, 1) := by decide +kernel
theorem dL_areRodsSo_77 : decode cL_areRodsSo 77 = .ok (.istore 17, 2) := by decide +kernel
theorem dL_areRodsSo_79 : decode cL_areRodsSo 79 = .ok (.iload 17, 2) := by decide +kernel
theorem dL_areRodsSo_81 : decode cL_areRodsSo 81 = .ok (.iconst 3, 1) := by decide +kernel
theorem dL_areRodsSo_82 : decode cL_areRodsSo 82 = .ok (.if_icmp .ge 144, 3) := by decide +kernel
theorem dL_areRodsSo_85 : decode cL_areRodsSo 85 = .ok (.iload 15, 2) := by decide +kernel
theorem dL_areRodsSo_87 : decode cL_areRodsSo 87 = .ok (.iconst 5, 1) := by decide +kernel
theorem dL_areRodsSo_88 : decode cL_areRodsSo 88 = .ok (.iload 17, 2) := by decide +kernel
theorem dL_areRodsSo_90 : decode cL_areRodsSo 90 = .ok (.imul, 1) := by decide +kernel
theorem dL_areRodsSo_91 : decode cL_areRodsSo 91 = .ok (.isub, 1) := by decide +kernel
theorem dL_areRodsSo_92 : decode cL_areRodsSo 92 = .ok (.istore 18, 2) := by decide +kernel
theorem dL_areRodsSo_94 : decode cL_areRodsSo 94 = .ok (.iload 18, 2) := by decide +kernel
theorem dL_areRodsSo_96 : decode cL_areRodsSo 96 = .ok (.ifCond .lt 52, 3) := by decide +kernel
theorem dL_areRodsSo_99 : decode cL_areRodsSo 99 = .ok (.iload 18, 2) := by decide +kernel
theorem dL_areRodsSo_101 : decode cL_areRodsSo 101 = .ok (.bipush 6, 2) := by decide +kernel
theorem dL_areRodsSo_103 : decode cL_areRodsSo 103 = .ok (.if_icmp .ge 45, 3) := by decide +kernel
theorem dL_areRodsSo_106 : decode cL_areRodsSo 106 = .ok (.aload_n 0, 1) := by decide +kernel
theorem dL_areRodsSo_107 : decode cL_areRodsSo 107 = .ok (.iload 10, 2) := by decide +kernel
theorem dL_areRodsSo_109 : decode cL_areRodsSo 109 = .ok (.iconst 4, 1) := by decide +kernel
theorem dL_areRodsSo_110 : decode cL_areRodsSo 110 = .ok (.invokevirtual 14, 3) := by decide +kernel
theorem dL_areRodsSo_113 : decode cL_areRodsSo 113 = .ok (.iconst 1, 1) := by decide +kernel
theorem dL_areRodsSo_114 : decode cL_areRodsSo 114 = .ok (.iand, 1) := by decide +kernel
theorem dL_areRodsSo_115 : decode cL_areRodsSo 115 = .ok (.ifCond .eq 10, 3) := by decide +kernel
theorem dL_areRodsSo_118 : decode cL_areRodsSo 118 = .ok (.iload 17, 2) := by decide +kernel
theorem dL_areRodsSo_120 : decode cL_areRodsSo 120 = .ok (.iload 11, 2) := by decide +kernel
theorem dL_areRodsSo_122 : decode cL_areRodsSo 122 = .ok (.if_icmp .ne 26, 3) := by decide +kernel
theorem dL_areRodsSo_125 : decode cL_areRodsSo 125 = .ok (.aload_n 0, 1) := by decide +kernel
theorem dL_areRodsSo_126 : decode cL_areRodsSo 126 = .ok (.iload 10, 2) := by decide +kernel
theorem dL_areRodsSo_128 : decode cL_areRodsSo 128 = .ok (.iconst 4, 1) := by decide +kernel
theorem dL_areRodsSo_129 : decode cL_areRodsSo 129 = .ok (.invokevirtual 14, 3) := by decide +kernel
theorem dL_areRodsSo_132 : decode cL_areRodsSo 132 = .ok (.iconst 2, 1) := by decide +kernel
theorem dL_areRodsSo_133 : decode cL_areRodsSo 133 = .ok (.iand, 1) := by decide +kernel
theorem dL_areRodsSo_134 : decode cL_areRodsSo 134 = .ok (.ifCond .eq 10, 3) := by decide +kernel
theorem dL_areRodsSo_137 : decode cL_areRodsSo 137 = .ok (.iload 18, 2) := by decide +kernel
theorem dL_areRodsSo_139 : decode cL_areRodsSo 139 = .ok (.iload 12, 2) := by decide +kernel
theorem dL_areRodsSo_141 : decode cL_areRodsSo 141 = .ok (.if_icmp .ne 7, 3) := by decide +kernel
theorem dL_areRodsSo_144 : decode cL_areRodsSo 144 = .ok (.iconst 1, 1) := by decide +kernel
theorem dL_areRodsSo_145 : decode cL_areRodsSo 145 = .ok (.goto 4, 3) := by decide +kernel
theorem dL_areRodsSo_148 : decode cL_areRodsSo 148 = .ok (.iconst 0, 1) := by decide +kernel
theorem dL_areRodsSo_149 : decode cL_areRodsSo 149 = .ok (.istore 19, 2) := by decide +kernel
theorem dL_areRodsSo_151 : decode cL_areRodsSo 151 = .ok (.iload 17, 2) := by decide +kernel
theorem dL_areRodsSo_153 : decode cL_areRodsSo 153 = .ok (.iload 11, 2) := by decide +kernel
theorem dL_areRodsSo_155 : decode cL_areRodsSo 155 = .ok (.if_icmp .le 11, 3) := by decide +kernel
theorem dL_areRodsSo_158 : decode cL_areRodsSo 158 = .ok (.iload 17, 2) := by decide +kernel
theorem dL_areRodsSo_160 : decode cL_areRodsSo 160 = .ok (.iload 11, 2) := by decide +kernel
theorem dL_areRodsSo_162 : decode cL_areRodsSo 162 = .ok (.isub, 1) := by decide +kernel
theorem dL_areRodsSo_163 : decode cL_areRodsSo 163 = .ok (.goto 8, 3) := by decide +kernel
theorem dL_areRodsSo_166 : decode cL_areRodsSo 166 = .ok (.iload 11, 2) := by decide +kernel
theorem dL_areRodsSo_168 : decode cL_areRodsSo 168 = .ok (.iload 17, 2) := by decide +kernel
theorem dL_areRodsSo_170 : decode cL_areRodsSo 170 = .ok (.isub, 1) := by decide +kernel
theorem dL_areRodsSo_171 : decode cL_areRodsSo 171 = .ok (.iload 18, 2) := by decide +kernel
theorem dL_areRodsSo_173 : decode cL_areRodsSo 173 = .ok (.iload 12, 2) := by decide +kernel
theorem dL_areRodsSo_175 : decode cL_areRodsSo 175 = .ok (.if_icmp .le 11, 3) := by decide +kernel
theorem dL_areRodsSo_178 : decode cL_areRodsSo 178 = .ok (.iload 18, 2) := by decide +kernel
theorem dL_areRodsSo_180 : decode cL_areRodsSo 180 = .ok (.iload 12, 2) := by decide +kernel
theorem dL_areRodsSo_182 : decode cL_areRodsSo 182 = .ok (.isub, 1) := by decide +kernel
theorem dL_areRodsSo_183 : decode cL_areRodsSo 183 = .ok (.goto 8, 3) := by decide +kernel
theorem dL_areRodsSo_186 : decode cL_areRodsSo 186 = .ok (.iload 12, 2) := by decide +kernel
theorem dL_areRodsSo_188 : decode cL_areRodsSo 188 = .ok (.iload 18, 2) := by decide +kernel
theorem dL_areRodsSo_190 : decode cL_areRodsSo 190 = .ok (.isub, 1) := by decide +kernel
theorem dL_areRodsSo_191 : decode cL_areRodsSo 191 = .ok (.iadd, 1) := by decide +kernel
theorem dL_areRodsSo_192 : decode cL_areRodsSo 192 = .ok (.istore 20, 2) := by decide +kernel
theorem dL_areRodsSo_194 : decode cL_areRodsSo 194 = .ok (.iload 19, 2) := by decide +kernel
theorem dL_areRodsSo_196 : decode cL_areRodsSo 196 = .ok (.ifCond .eq 20, 3) := by decide +kernel
theorem dL_areRodsSo_199 : decode cL_areRodsSo 199 = .ok (.iload 16, 2) := by decide +kernel
theorem dL_areRodsSo_201 : decode cL_areRodsSo 201 = .ok (.ifCond .lt 10, 3) := by decide +kernel
theorem dL_areRodsSo_204 : decode cL_areRodsSo 204 = .ok (.iload 20, 2) := by decide +kernel
theorem dL_areRodsSo_206 : decode cL_areRodsSo 206 = .ok (.iload 16, 2) := by decide +kernel
theorem dL_areRodsSo_208 : decode cL_areRodsSo 208 = .ok (.if_icmp .ge 8, 3) := by decide +kernel
theorem dL_areRodsSo_211 : decode cL_areRodsSo 211 = .ok (.iload 20, 2) := by decide +kernel
theorem dL_areRodsSo_213 : decode cL_areRodsSo 213 = .ok (.goto 5, 3) := by decide +kernel
theorem dL_areRodsSo_216 : decode cL_areRodsSo 216 = .ok (.iload 16, 2) := by decide +kernel
theorem dL_areRodsSo_218 : decode cL_areRodsSo 218 = .ok (.istore 16, 2) := by decide +kernel
theorem dL_areRodsSo_220 : decode cL_areRodsSo 220 = .ok (.iinc 17 1, 3) := by decide +kernel
theorem dL_areRodsSo_223 : decode cL_areRodsSo 223 = .ok (.goto (-144), 3) := by decide +kernel
theorem dL_areRodsSo_226 : decode cL_areRodsSo 226 = .ok (.iload 14, 2) := by decide +kernel
theorem dL_areRodsSo_228 : decode cL_areRodsSo 228 = .ok (.iload 16, 2) := by decide +kernel
theorem dL_areRodsSo_230 : decode cL_areRodsSo 230 = .ok (.ifCond .lt 7, 3) := by decide +kernel
theorem dL_areRodsSo_233 : decode cL_areRodsSo 233 = .ok (.iconst 1, 1) := by decide +kernel
theorem dL_areRodsSo_234 : decode cL_areRodsSo 234 = .ok (.goto 4, 3) := by decide +kernel
theorem dL_areRodsSo_237 : decode cL_areRodsSo 237 = .ok (.iconst 0, 1) := by decide +kernel
theorem dL_areRodsSo_238 : decode cL_areRodsSo 238 = .ok (.iadd, 1) := by decide +kernel
theorem dL_areRodsSo_239 : decode cL_areRodsSo 239 = .ok (.istore 14, 2) := by decide +kernel
theorem dL_areRodsSo_241 : decode cL_areRodsSo 241 = .ok (.iload 9, 2) := by decide +kernel
theorem dL_areRodsSo_243 : decode cL_areRodsSo 243 = .ok (.ifCond .eq 20, 3) := by decide +kernel
theorem dL_areRodsSo_246 : decode cL_areRodsSo 246 = .ok (.aload_n 0, 1) := by decide +kernel
theorem dL_areRodsSo_247 : decode cL_areRodsSo 247 = .ok (.iload 10, 2) := by decide +kernel
theorem dL_areRodsSo_249 : decode cL_areRodsSo 249 = .ok (.iload 15, 2) := by decide +kernel
theorem dL_areRodsSo_251 : decode cL_areRodsSo 251 = .ok (.invokevirtual 46, 3) := by decide +kernel
theorem dL_areRodsSo_254 : decode cL_areRodsSo 254 = .ok (.iload 16, 2) := by decide +kernel
theorem dL_areRodsSo_256 : decode cL_areRodsSo 256 = .ok (.if_icmp .ne 7, 3) := by decide +kernel
theorem dL_areRodsSo_259 : decode cL_areRodsSo 259 = .ok (.iconst 1, 1) := by decide +kernel
theorem dL_areRodsSo_260 : decode cL_areRodsSo 260 = .ok (.goto 4, 3) := by decide +kernel
theorem dL_areRodsSo_263 : decode cL_areRodsSo 263 = .ok (.iconst 0, 1) := by decide +kernel
theorem dL_areRodsSo_264 : decode cL_areRodsSo 264 = .ok (.istore 9, 2) := by decide +kernel
theorem dL_areRodsSo_266 : decode cL_areRodsSo 266 = .ok (.iinc 15 1, 3) := by decide +kernel
theorem dL_areRodsSo_269 : decode cL_areRodsSo 269 = .ok (.goto (-203), 3) := by decide +kernel
theorem dL_areRodsSo_272 : decode cL_areRodsSo 272 = .ok (.iload_n 1, 1) := by decide +kernel
theorem dL_areRodsSo_273 : decode cL_areRodsSo 273 = .ok (.aload_n 0, 1) := by decide +kernel
theorem dL_areRodsSo_274 : decode cL_areRodsSo 274 = .ok (.iload 10, 2) := by decide +kernel
theorem dL_areRodsSo_276 : decode cL_areRodsSo 276 = .ok (.iconst 5, 1) := by decide +kernel
theorem dL_areRodsSo_277 : decode cL_areRodsSo 277 = .ok (.invokevirtual 14, 3) := by decide +kernel
theorem dL_areRodsSo_280 : decode cL_areRodsSo 280 = .ok (.iadd, 1) := by decide +kernel
theorem dL_areRodsSo_281 : decode cL_areRodsSo 281 = .ok (.istore_n 1, 1) := by decide +kernel
theorem dL_areRodsSo_282 : decode cL_areRodsSo 282 = .ok (.iload_n 2, 1) := by decide +kernel
theorem dL_areRodsSo_283 : decode cL_areRodsSo 283 = .ok (.iload 13, 2) := by decide +kernel
theorem dL_areRodsSo_285 : decode cL_areRodsSo 285 = .ok (.iadd, 1) := by decide +kernel
theorem dL_areRodsSo_286 : decode cL_areRodsSo 286 = .ok (.istore_n 2, 1) := by decide +kernel
theorem dL_areRodsSo_287 : decode cL_areRodsSo 287 = .ok (.iload_n 3, 1) := by decide +kernel
theorem dL_areRodsSo_288 : decode cL_areRodsSo 288 = .ok (.iload 13, 2) := by decide +kernel
theorem dL_areRodsSo_290 : decode cL_areRodsSo 290 = .ok (.ifCond .ne 7, 3) := by decide +kernel
theorem dL_areRodsSo_293 : decode cL_areRodsSo 293 = .ok (.iconst 0, 1) := by decide +kernel
theorem dL_areRodsSo_294 : decode cL_areRodsSo 294 = .ok (.goto 4, 3) := by decide +kernel
theorem dL_areRodsSo_297 : decode cL_areRodsSo 297 = .ok (.iconst 1, 1) := by decide +kernel
theorem dL_areRodsSo_298 : decode cL_areRodsSo 298 = .ok (.iadd, 1) := by decide +kernel
theorem dL_areRodsSo_299 : decode cL_areRodsSo 299 = .ok (.istore_n 3, 1) := by decide +kernel
theorem dL_areRodsSo_300 : decode cL_areRodsSo 300 = .ok (.iload 4, 2) := by decide +kernel
theorem dL_areRodsSo_302 : decode cL_areRodsSo 302 = .ok (.aload_n 0, 1) := by decide +kernel
theorem dL_areRodsSo_303 : decode cL_areRodsSo 303 = .ok (.iload 10, 2) := by decide +kernel
theorem dL_areRodsSo_305 : decode cL_areRodsSo 305 = .ok (.iconst 2, 1) := by decide +kernel
theorem dL_areRodsSo_306 : decode cL_areRodsSo 306 = .ok (.invokevirtual 14, 3) := by decide +kernel
theorem dL_areRodsSo_309 : decode cL_areRodsSo 309 = .ok (.iadd, 1) := by decide +kernel
theorem dL_areRodsSo_310 : decode cL_areRodsSo 310 = .ok (.istore 4, 2) := by decide +kernel
theorem dL_areRodsSo_312 : decode cL_areRodsSo 312 = .ok (.iload 5, 2) := by decide +kernel
theorem dL_areRodsSo_314 : decode cL_areRodsSo 314 = .ok (.aload_n 0, 1) := by decide +kernel
theorem dL_areRodsSo_315 : decode cL_areRodsSo 315 = .ok (.iload 10, 2) := by decide +kernel
theorem dL_areRodsSo_317 : decode cL_areRodsSo 317 = .ok (.iconst 2, 1) := by decide +kernel
theorem dL_areRodsSo_318 : decode cL_areRodsSo 318 = .ok (.invokevirtual 14, 3) := by decide +kernel
theorem dL_areRodsSo_321 : decode cL_areRodsSo 321 = .ok (.bipush 9, 2) := by decide +kernel
theorem dL_areRodsSo_323 : decode cL_areRodsSo 323 = .ok (.if_icmp .le 7, 3) := by decide +kernel
theorem dL_areRodsSo_326 : decode cL_areRodsSo 326 = .ok (.iconst 1, 1) := by decide +kernel
theorem dL_areRodsSo_327 : decode cL_areRodsSo 327 = .ok (.goto 4, 3) := by decide +kernel
theorem dL_areRodsSo_330 : decode cL_areRodsSo 330 = .ok (.iconst 0, 1) := by decide +kernel
theorem dL_areRodsSo_331 : decode cL_areRodsSo 331 = .ok (.iadd, 1) := by decide +kernel
theorem dL_areRodsSo_332 : decode cL_areRodsSo 332 = .ok (.istore 5, 2) := by decide +kernel
theorem dL_areRodsSo_334 : decode cL_areRodsSo 334 = .ok (.iload 6, 2) := by decide +kernel
theorem dL_areRodsSo_336 : decode cL_areRodsSo 336 = .ok (.aload_n 0, 1) := by decide +kernel
theorem dL_areRodsSo_337 : decode cL_areRodsSo 337 = .ok (.iload 10, 2) := by decide +kernel
theorem dL_areRodsSo_339 : decode cL_areRodsSo 339 = .ok (.iconst 4, 1) := by decide +kernel
theorem dL_areRodsSo_340 : decode cL_areRodsSo 340 = .ok (.invokevirtual 14, 3) := by decide +kernel
theorem dL_areRodsSo_343 : decode cL_areRodsSo 343 = .ok (.ifCond .le 7, 3) := by decide +kernel
theorem dL_areRodsSo_346 : decode cL_areRodsSo 346 = .ok (.iconst 1, 1) := by decide +kernel
theorem dL_areRodsSo_347 : decode cL_areRodsSo 347 = .ok (.goto 4, 3) := by decide +kernel
theorem dL_areRodsSo_350 : decode cL_areRodsSo 350 = .ok (.iconst 0, 1) := by decide +kernel
theorem dL_areRodsSo_351 : decode cL_areRodsSo 351 = .ok (.iadd, 1) := by decide +kernel
theorem dL_areRodsSo_352 : decode cL_areRodsSo 352 = .ok (.istore 6, 2) := by decide +kernel
theorem dL_areRodsSo_354 : decode cL_areRodsSo 354 = .ok (.ldc2_w 49, 3) := by decide +kernel
theorem dL_areRodsSo_357 : decode cL_areRodsSo 357 = .ok (.lload 7, 2) := by decide +kernel
theorem dL_areRodsSo_359 : decode cL_areRodsSo 359 = .ok (.lmul, 1) := by decide +kernel
theorem dL_areRodsSo_360 : decode cL_areRodsSo 360 = .ok (.aload_n 0, 1) := by decide +kernel
theorem dL_areRodsSo_361 : decode cL_areRodsSo 361 = .ok (.iload 10, 2) := by decide +kernel
theorem dL_areRodsSo_363 : decode cL_areRodsSo 363 = .ok (.iconst 2, 1) := by decide +kernel
theorem dL_areRodsSo_364 : decode cL_areRodsSo 364 = .ok (.invokevirtual 14, 3) := by decide +kernel
theorem dL_areRodsSo_367 : decode cL_areRodsSo 367 = .ok (.i2l, 1) := by decide +kernel
theorem dL_areRodsSo_368 : decode cL_areRodsSo 368 = .ok (.ladd, 1) := by decide +kernel
theorem dL_areRodsSo_369 : decode cL_areRodsSo 369 = .ok (.iload 13, 2) := by decide +kernel
theorem dL_areRodsSo_371 : decode cL_areRodsSo 371 = .ok (.i2l, 1) := by decide +kernel
theorem dL_areRodsSo_372 : decode cL_areRodsSo 372 = .ok (.ladd, 1) := by decide +kernel
theorem dL_areRodsSo_373 : decode cL_areRodsSo 373 = .ok (.lstore 7, 2) := by decide +kernel
theorem dL_areRodsSo_375 : decode cL_areRodsSo 375 = .ok (.iload 9, 2) := by decide +kernel
theorem dL_areRodsSo_377 : decode cL_areRodsSo 377 = .ok (.ifCond .eq 90, 3) := by decide +kernel
theorem dL_areRodsSo_380 : decode cL_areRodsSo 380 = .ok (.iload 11, 2) := by decide +kernel
theorem dL_areRodsSo_382 : decode cL_areRodsSo 382 = .ok (.ifCond .lt 85, 3) := by decide +kernel
theorem dL_areRodsSo_385 : decode cL_areRodsSo 385 = .ok (.iload 11, 2) := by decide +kernel
theorem dL_areRodsSo_387 : decode cL_areRodsSo 387 = .ok (.iconst 3, 1) := by decide +kernel
theorem dL_areRodsSo_388 : decode cL_areRodsSo 388 = .ok (.if_icmp .ge 79, 3) := by decide +kernel
theorem dL_areRodsSo_391 : decode cL_areRodsSo 391 = .ok (.iload 12, 2) := by decide +kernel
theorem dL_areRodsSo_393 : decode cL_areRodsSo 393 = .ok (.ifCond .lt 74, 3) := by decide +kernel
theorem dL_areRodsSo_396 : decode cL_areRodsSo 396 = .ok (.iload 12, 2) := by decide +kernel
theorem dL_areRodsSo_398 : decode cL_areRodsSo 398 = .ok (.bipush 6, 2) := by decide +kernel
theorem dL_areRodsSo_400 : decode cL_areRodsSo 400 = .ok (.if_icmp .ge 67, 3) := by decide +kernel
theorem dL_areRodsSo_403 : decode cL_areRodsSo 403 = .ok (.aload_n 0, 1) := by decide +kernel
theorem dL_areRodsSo_404 : decode cL_areRodsSo 404 = .ok (.iload 10, 2) := by decide +kernel
theorem dL_areRodsSo_406 : decode cL_areRodsSo 406 = .ok (.iconst 2, 1) := by decide +kernel
theorem dL_areRodsSo_407 : decode cL_areRodsSo 407 = .ok (.invokevirtual 14, 3) := by decide +kernel
theorem dL_areRodsSo_410 : decode cL_areRodsSo 410 = .ok (.iconst 5, 1) := by decide +kernel
theorem dL_areRodsSo_411 : decode cL_areRodsSo 411 = .ok (.iload 11, 2) := by decide +kernel
theorem dL_areRodsSo_413 : decode cL_areRodsSo 413 = .ok (.imul, 1) := by decide +kernel
theorem dL_areRodsSo_414 : decode cL_areRodsSo 414 = .ok (.iload 12, 2) := by decide +kernel
theorem dL_areRodsSo_416 : decode cL_areRodsSo 416 = .ok (.iadd, 1) := by decide +kernel
theorem dL_areRodsSo_417 : decode cL_areRodsSo 417 = .ok (.if_icmp .ne 50, 3) := by decide +kernel
theorem dL_areRodsSo_420 : decode cL_areRodsSo 420 = .ok (.iload 13, 2) := by decide +kernel
theorem dL_areRodsSo_422 : decode cL_areRodsSo 422 = .ok (.bipush (-10), 2) := by decide +kernel
theorem dL_areRodsSo_424 : decode cL_areRodsSo 424 = .ok (.if_icmp .le 43, 3) := by decide +kernel
theorem dL_areRodsSo_427 : decode cL_areRodsSo 427 = .ok (.iload 13, 2) := by decide +kernel
theorem dL_areRodsSo_429 : decode cL_areRodsSo 429 = .ok (.bipush 10, 2) := by decide +kernel
theorem dL_areRodsSo_431 : decode cL_areRodsSo 431 = .ok (.if_icmp .ge 36, 3) := by decide +kernel
theorem dL_areRodsSo_434 : decode cL_areRodsSo 434 = .ok (.iload 14, 2) := by decide +kernel
theorem dL_areRodsSo_436 : decode cL_areRodsSo 436 = .ok (.aload_n 0, 1) := by decide +kernel
theorem dL_areRodsSo_437 : decode cL_areRodsSo 437 = .ok (.iload 10, 2) := by decide +kernel
theorem dL_areRodsSo_439 : decode cL_areRodsSo 439 = .ok (.bipush 7, 2) := by decide +kernel
theorem dL_areRodsSo_441 : decode cL_areRodsSo 441 = .ok (.invokevirtual 14, 3) := by decide +kernel
theorem dL_areRodsSo_444 : decode cL_areRodsSo 444 = .ok (.if_icmp .ne 23, 3) := by decide +kernel
theorem dL_areRodsSo_447 : decode cL_areRodsSo 447 = .ok (.aload_n 0, 1) := by decide +kernel
theorem dL_areRodsSo_448 : decode cL_areRodsSo 448 = .ok (.iload 10, 2) := by decide +kernel
theorem dL_areRodsSo_450 : decode cL_areRodsSo 450 = .ok (.aload_n 0, 1) := by decide +kernel
theorem dL_areRodsSo_451 : decode cL_areRodsSo 451 = .ok (.iload 10, 2) := by decide +kernel
theorem dL_areRodsSo_453 : decode cL_areRodsSo 453 = .ok (.iconst 2, 1) := by decide +kernel
theorem dL_areRodsSo_454 : decode cL_areRodsSo 454 = .ok (.invokevirtual 14, 3) := by decide +kernel
theorem dL_areRodsSo_457 : decode cL_areRodsSo 457 = .ok (.invokevirtual 46, 3) := by decide +kernel
theorem dL_areRodsSo_460 : decode cL_areRodsSo 460 = .ok (.ifCond .ne 7, 3) := by decide +kernel
theorem dL_areRodsSo_463 : decode cL_areRodsSo 463 = .ok (.iconst 1, 1) := by decide +kernel
theorem dL_areRodsSo_464 : decode cL_areRodsSo 464 = .ok (.goto 4, 3) := by decide +kernel
theorem dL_areRodsSo_467 : decode cL_areRodsSo 467 = .ok (.iconst 0, 1) := by decide +kernel
theorem dL_areRodsSo_468 : decode cL_areRodsSo 468 = .ok (.istore 9, 2) := by decide +kernel
theorem dL_areRodsSo_470 : decode cL_areRodsSo 470 = .ok (.iinc 10 (-1), 3) := by decide +kernel
theorem dL_areRodsSo_473 : decode cL_areRodsSo 473 = .ok (.goto (-448), 3) := by decide +kernel
theorem dL_areRodsSo_476 : decode cL_areRodsSo 476 = .ok (.lload 7, 2) := by decide +kernel
theorem dL_areRodsSo_478 : decode cL_areRodsSo 478 = .ok (.ldc2_w 51, 3) := by decide +kernel
theorem dL_areRodsSo_481 : decode cL_areRodsSo 481 = .ok (.lrem, 1) := by decide +kernel
theorem dL_areRodsSo_482 : decode cL_areRodsSo 482 = .ok (.lstore 10, 2) := by decide +kernel
theorem dL_areRodsSo_484 : decode cL_areRodsSo 484 = .ok (.iload 9, 2) := by decide +kernel
theorem dL_areRodsSo_486 : decode cL_areRodsSo 486 = .ok (.ifCond .eq 94, 3) := by decide +kernel
theorem dL_areRodsSo_489 : decode cL_areRodsSo 489 = .ok (.lload 7, 2) := by decide +kernel
theorem dL_areRodsSo_491 : decode cL_areRodsSo 491 = .ok (.aload_n 0, 1) := by decide +kernel
theorem dL_areRodsSo_492 : decode cL_areRodsSo 492 = .ok (.invokevirtual 53, 3) := by decide +kernel
theorem dL_areRodsSo_495 : decode cL_areRodsSo 495 = .ok (.lcmp, 1) := by decide +kernel
theorem dL_areRodsSo_496 : decode cL_areRodsSo 496 = .ok (.ifCond .ne 84, 3) := by decide +kernel
theorem dL_areRodsSo_499 : decode cL_areRodsSo 499 = .ok (.iload_n 1, 1) := by decide +kernel
theorem dL_areRodsSo_500 : decode cL_areRodsSo 500 = .ok (.aload_n 0, 1) := by decide +kernel
theorem dL_areRodsSo_501 : decode cL_areRodsSo 501 = .ok (.iconst 0, 1) := by decide +kernel
theorem dL_areRodsSo_502 : decode cL_areRodsSo 502 = .ok (.invokevirtual 57, 3) := by decide +kernel
theorem dL_areRodsSo_505 : decode cL_areRodsSo 505 = .ok (.if_icmp .ne 75, 3) := by decide +kernel
theorem dL_areRodsSo_508 : decode cL_areRodsSo 508 = .ok (.iload_n 3, 1) := by decide +kernel
theorem dL_areRodsSo_509 : decode cL_areRodsSo 509 = .ok (.aload_n 0, 1) := by decide +kernel
theorem dL_areRodsSo_510 : decode cL_areRodsSo 510 = .ok (.iconst 1, 1) := by decide +kernel
theorem dL_areRodsSo_511 : decode cL_areRodsSo 511 = .ok (.invokevirtual 57, 3) := by decide +kernel
theorem dL_areRodsSo_514 : decode cL_areRodsSo 514 = .ok (.if_icmp .ne 66, 3) := by decide +kernel
theorem dL_areRodsSo_517 : decode cL_areRodsSo 517 = .ok (.iload_n 2, 1) := by decide +kernel
theorem dL_areRodsSo_518 : decode cL_areRodsSo 518 = .ok (.bipush 100, 2) := by decide +kernel
theorem dL_areRodsSo_520 : decode cL_areRodsSo 520 = .ok (.iadd, 1) := by decide +kernel
theorem dL_areRodsSo_521 : decode cL_areRodsSo 521 = .ok (.aload_n 0, 1) := by decide +kernel
theorem dL_areRodsSo_522 : decode cL_areRodsSo 522 = .ok (.iconst 2, 1) := by decide +kernel
theorem dL_areRodsSo_523 : decode cL_areRodsSo 523 = .ok (.invokevirtual 57, 3) := by decide +kernel
theorem dL_areRodsSo_526 : decode cL_areRodsSo 526 = .ok (.if_icmp .ne 54, 3) := by decide +kernel
theorem dL_areRodsSo_529 : decode cL_areRodsSo 529 = .ok (.aload_n 0, 1) := by decide +kernel
theorem dL_areRodsSo_530 : decode cL_areRodsSo 530 = .ok (.iconst 3, 1) := by decide +kernel
theorem dL_areRodsSo_531 : decode cL_areRodsSo 531 = .ok (.invokevirtual 57, 3) := by decide +kernel
theorem dL_areRodsSo_534 : decode cL_areRodsSo 534 = .ok (.lload 10, 2) := by decide +kernel
theorem dL_areRodsSo_536 : decode cL_areRodsSo 536 = .ok (.lconst 0, 1) := by decide +kernel
theorem dL_areRodsSo_537 : decode cL_areRodsSo 537 = .ok (.lcmp, 1) := by decide +kernel
theorem dL_areRodsSo_538 : decode cL_areRodsSo 538 = .ok (.ifCond .ge 12, 3) := by decide +kernel
theorem dL_areRodsSo_541 : decode cL_areRodsSo 541 = .ok (.lload 10, 2) := by decide +kernel
theorem dL_areRodsSo_543 : decode cL_areRodsSo 543 = .ok (.ldc2_w 51, 3) := by decide +kernel
theorem dL_areRodsSo_546 : decode cL_areRodsSo 546 = .ok (.ladd, 1) := by decide +kernel
theorem dL_areRodsSo_547 : decode cL_areRodsSo 547 = .ok (.goto 5, 3) := by decide +kernel
theorem dL_areRodsSo_550 : decode cL_areRodsSo 550 = .ok (.lload 10, 2) := by decide +kernel
theorem dL_areRodsSo_552 : decode cL_areRodsSo 552 = .ok (.l2i, 1) := by decide +kernel
theorem dL_areRodsSo_553 : decode cL_areRodsSo 553 = .ok (.if_icmp .ne 27, 3) := by decide +kernel
theorem dL_areRodsSo_556 : decode cL_areRodsSo 556 = .ok (.iload 5, 2) := by decide +kernel
theorem dL_areRodsSo_558 : decode cL_areRodsSo 558 = .ok (.aload_n 0, 1) := by decide +kernel
theorem dL_areRodsSo_559 : decode cL_areRodsSo 559 = .ok (.iconst 4, 1) := by decide +kernel
theorem dL_areRodsSo_560 : decode cL_areRodsSo 560 = .ok (.invokevirtual 57, 3) := by decide +kernel
theorem dL_areRodsSo_563 : decode cL_areRodsSo 563 = .ok (.if_icmp .ne 17, 3) := by decide +kernel
theorem dL_areRodsSo_566 : decode cL_areRodsSo 566 = .ok (.iload 6, 2) := by decide +kernel
theorem dL_areRodsSo_568 : decode cL_areRodsSo 568 = .ok (.aload_n 0, 1) := by decide +kernel
theorem dL_areRodsSo_569 : decode cL_areRodsSo 569 = .ok (.iconst 5, 1) := by decide +kernel
theorem dL_areRodsSo_570 : decode cL_areRodsSo 570 = .ok (.invokevirtual 57, 3) := by decide +kernel
theorem dL_areRodsSo_573 : decode cL_areRodsSo 573 = .ok (.if_icmp .ne 7, 3) := by decide +kernel
theorem dL_areRodsSo_576 : decode cL_areRodsSo 576 = .ok (.iconst 1, 1) := by decide +kernel
theorem dL_areRodsSo_577 : decode cL_areRodsSo 577 = .ok (.goto 4, 3) := by decide +kernel
theorem dL_areRodsSo_580 : decode cL_areRodsSo 580 = .ok (.iconst 0, 1) := by decide +kernel
theorem dL_areRodsSo_581 : decode cL_areRodsSo 581 = .ok (.ireturn, 1) := by decide +kernel
theorem dL_power_0 : decode cL_power 0 = .ok (.lconst 1, 1) := by decide +kernel
theorem dL_power_1 : decode cL_power 1 = .ok (.lstore_n 1, 1) := by decide +kernel
theorem dL_power_2 : decode cL_power 2 = .ok (.iconst 0, 1) := by decide +kernel
theorem dL_power_3 : decode cL_power 3 = .ok (.istore_n 3, 1) := by decide +kernel
theorem dL_power_4 : decode cL_power 4 = .ok (.iload_n 3, 1) := by decide +kernel
theorem dL_power_5 : decode cL_power 5 = .ok (.iload_n 0, 1) := by decide +kernel
theorem dL_power_6 : decode cL_power 6 = .ok (.if_icmp .ge 15, 3) := by decide +kernel
theorem dL_power_9 : decode cL_power 9 = .ok (.lload_n 1, 1) := by decide +kernel
theorem dL_power_10 : decode cL_power 10 = .ok (.ldc2_w 49, 3) := by decide +kernel
theorem dL_power_13 : decode cL_power 13 = .ok (.lmul, 1) := by decide +kernel
theorem dL_power_14 : decode cL_power 14 = .ok (.lstore_n 1, 1) := by decide +kernel
theorem dL_power_15 : decode cL_power 15 = .ok (.iinc 3 1, 3) := by decide +kernel
theorem dL_power_18 : decode cL_power 18 = .ok (.goto (-14), 3) := by decide +kernel
theorem dL_power_21 : decode cL_power 21 = .ok (.lload_n 1, 1) := by decide +kernel
theorem dL_power_22 : decode cL_power 22 = .ok (.lreturn, 1) := by decide +kernel
set_option maxRecDepth 20000 in
theorem ggL_isAddedSo_X3_ifAdded : GoodIn wsL_isAddedSo wsX3_ifAdded := goodIn_ca (goodIn_ca (goodIn_r _ [5, 6, 7, 8, 4, 9, 10, 11, 12, 13, 14, 15, 16, 17, 18, 19, 20, 21, 22, 23, 24, 25, 26, 27, 28, 29, 30, 31, 32, 33, 34, 35, 36, 37, 38, 39, 40, 41, 42, 43, 44, 45, 46, 47, 48, 49, 50, 51, 52, 53, 54, 55, 56, 138, 139, 140, 141, 142, 143, 144, 145, 146, 147] (by decide +kernel) (by decide +kernel)) (goodIn_sub (fun _ h => List.mem_cons_of_mem _ (List.mem_append_left _ (List.mem_append_left _ (List.mem_append_right _ h)))) (by decide +kernel))) (goodIn_sub (fun _ h => List.mem_cons_of_mem _ (List.mem_append_left _ (List.mem_append_right _ h))) (by decide +kernel))
set_option maxRecDepth 20000 in
theorem gL_isAddedSo_X3_ifAdded : GoodIn wsL_isAddedSo (wsV RL 37 RX3 yX3_ifAdded wsX3_ifAdded) := goodIn_app (goodIn_of _ (by decide +kernel)) ggL_isAddedSo_X3_ifAdded
set_option maxRecDepth 20000 in
theorem ggL_isAddedSo_X3_whole : GoodIn wsL_isAddedSo wsX3_whole := goodIn_r _ [60, 6, 61, 62, 63, 23, 24, 20, 25, 26, 27, 138, 139, 140, 141, 142, 143, 144, 145, 146, 147] (by decide +kernel) (by decide +kernel)
set_option maxRecDepth 20000 in
theorem gL_isAddedSo_X3_whole : GoodIn wsL_isAddedSo (wsV RL 53 RX3 yX3_whole wsX3_whole) := goodIn_app (goodIn_of _ (by decide +kernel)) ggL_isAddedSo_X3_whole
set_option maxRecDepth 20000 in
theorem ggL_isAddedSo_X3_count : GoodIn wsL_isAddedSo wsX3_count := goodIn_ca (goodIn_r _ [67, 6, 68, 69, 70, 12, 13, 4, 14, 15, 16, 71, 72, 73, 20, 74, 45, 75, 76, 77, 78, 54, 79, 80, 81, 82, 83, 84, 85, 86, 22, 23, 24, 25, 26, 27, 87, 88, 89, 90, 91, 92, 93, 94, 95, 96, 97, 98, 40, 138, 139, 140, 141, 142, 143, 144, 145, 146, 147, 148, 149, 150] (by decide +kernel) (by decide +kernel)) (goodIn_sub (fun _ h => List.mem_cons_of_mem _ (List.mem_append_left _ (List.mem_append_right _ h))) (by decide +kernel))
set_option maxRecDepth 20000 in
theorem gL_isAddedSo_X3_count : GoodIn wsL_isAddedSo (wsV RL 57 RX3 yX3_count wsX3_count) := goodIn_app (goodIn_of _ (by decide +kernel)) ggL_isAddedSo_X3_count
set_option maxRecDepth 20000 in
theorem ggL_isAddedSo_X3_add : GoodIn wsL_isAddedSo wsX3_add := goodIn_ca (goodIn_ca (goodIn_ca (goodIn_r _ [102, 7, 8, 4, 9, 10, 11, 12, 13, 14, 15, 16, 103, 104, 105, 106, 107, 108, 6, 69, 17, 18, 19, 20, 21, 22, 23, 24, 25, 26, 27, 28, 29, 30, 31, 32, 33, 34, 35, 36, 37, 38, 39, 40, 41, 42, 43, 44, 45, 46, 47, 48, 49, 50, 51, 52, 53, 54, 55, 56, 109, 110, 111, 112, 113, 114, 115, 116, 117, 118, 119, 120, 138, 139, 140, 141, 142, 143, 144, 145, 146, 147, 148, 149, 150] (by decide +kernel) (by decide +kernel)) (goodIn_sub (fun _ h => List.mem_cons_of_mem _ (List.mem_append_left _ (List.mem_append_left _ (List.mem_append_right _ h)))) (by decide +kernel))) (goodIn_sub (fun _ h => List.mem_cons_of_mem _ (List.mem_append_left _ (List.mem_append_right _ h))) (by decide +kernel))) (goodIn_sub (fun _ h => List.mem_cons_of_mem _ (List.mem_append_right _ h)) (by decide +kernel))
set_option maxRecDepth 20000 in
theorem gL_isAddedSo_X3_add : GoodIn wsL_isAddedSo (wsV RL 40 RX3 yX3_add wsX3_add) := goodIn_app (goodIn_of _ (by decide +kernel)) ggL_isAddedSo_X3_add
set_option maxRecDepth 20000 in
theorem ggL_isAddedSo_X3_less : GoodIn wsL_isAddedSo wsX3_less := goodIn_ca (goodIn_ca (goodIn_ca (goodIn_r _ [124, 7, 8, 4, 9, 10, 11, 12, 13, 14, 15, 16, 103, 104, 105, 106, 107, 108, 6, 69, 17, 18, 19, 20, 21, 22, 23, 24, 25, 26, 27, 28, 29, 30, 31, 32, 33, 34, 35, 36, 37, 38, 39, 40, 41, 42, 43, 44, 45, 46, 47, 48, 49, 50, 51, 52, 53, 54, 55, 56, 109, 110, 111, 112, 113, 114, 115, 116, 117, 118, 119, 120, 138, 139, 140, 141, 142, 143, 144, 145, 146, 147, 148, 149, 150] (by decide +kernel) (by decide +kernel)) (goodIn_sub (fun _ h => List.mem_cons_of_mem _ (List.mem_append_left _ (List.mem_append_left _ (List.mem_append_right _ h)))) (by decide +kernel))) (goodIn_sub (fun _ h => List.mem_cons_of_mem _ (List.mem_append_left _ (List.mem_append_right _ h))) (by decide +kernel))) (goodIn_sub (fun _ h => List.mem_cons_of_mem _ (List.mem_append_right _ h)) (by decide +kernel))
set_option maxRecDepth 20000 in
theorem gL_isAddedSo_X3_less : GoodIn wsL_isAddedSo (wsV RL 43 RX3 yX3_less wsX3_less) := goodIn_app (goodIn_of _ (by decide +kernel)) ggL_isAddedSo_X3_less
set_option maxRecDepth 20000 in
theorem ggL_isAddedSo_L_power : GoodIn wsL_isAddedSo wsL_power := goodIn_r _ [128, 129] (by decide +kernel) (by decide +kernel)
set_option maxRecDepth 20000 in
theorem gL_isAddedSo_L_power : GoodIn wsL_isAddedSo (va_wsS RL 60 yL_power wsL_power) := goodIn_app (goodIn_of _ (by decide +kernel)) ggL_isAddedSo_L_power
set_option maxRecDepth 20000 in
theorem ggL_isAddedSo_X3_undo : GoodIn wsL_isAddedSo wsX3_undo := goodIn_ca (goodIn_r _ [133, 107, 108, 69, 70, 6, 134, 135, 136, 112, 137, 114, 116, 115, 117, 118, 119, 20, 120, 26, 27, 40, 54, 45, 56, 55, 138, 139, 140, 148, 149, 150, 141, 142, 143, 144, 145, 146, 147] (by decide +kernel) (by decide +kernel)) (goodIn_sub (fun _ h => List.mem_cons_of_mem _ (List.mem_append_right _ h)) (by decide +kernel))
set_option maxRecDepth 20000 in
theorem gL_isAddedSo_X3_undo : GoodIn wsL_isAddedSo (wsV RL 64 RX3 yX3_undo wsX3_undo) := goodIn_app (goodIn_of _ (by decide +kernel)) ggL_isAddedSo_X3_undo
theorem dL_isAddedSo_0 : decode cL_isAddedSo 0 = .ok (.aload_n 0, 1) := by decide +kernel
theorem dL_isAddedSo_1 : decode cL_isAddedSo 1 = .ok (.iload_n 1, 1) := by decide +kernel
theorem dL_isAddedSo_2 : decode cL_isAddedSo 2 = .ok (.iload_n 2, 1) := by decide +kernel
theorem dL_isAddedSo_3 : decode cL_isAddedSo 3 = .ok (.invokevirtual 37, 3) := by decide +kernel
theorem dL_isAddedSo_6 : decode cL_isAddedSo 6 = .ok (.istore_n 3, 1) := by decide +kernel
theorem dL_isAddedSo_7 : decode cL_isAddedSo 7 = .ok (.aload_n 0, 1) := by decide +kernel
theorem dL_isAddedSo_8 : decode cL_isAddedSo 8 = .ok (.invokevirtual 53, 3) := by decide +kernel
theorem dL_isAddedSo_11 : decode cL_isAddedSo 11 = .ok (.lstore 4, 2) := by decide +kernel
theorem dL_isAddedSo_13 : decode cL_isAddedSo 13 = .ok (.aload_n 0, 1) := by decide +kernel
theorem dL_isAddedSo_14 : decode cL_isAddedSo 14 = .ok (.iconst 0, 1) := by decide +kernel
theorem dL_isAddedSo_15 : decode cL_isAddedSo 15 = .ok (.invokevirtual 57, 3) := by decide +kernel
theorem dL_isAddedSo_18 : decode cL_isAddedSo 18 = .ok (.istore 6, 2) := by decide +kernel
theorem dL_isAddedSo_20 : decode cL_isAddedSo 20 = .ok (.iload_n 3, 1) := by decide +kernel
theorem dL_isAddedSo_21 : decode cL_isAddedSo 21 = .ok (.ifCond .lt 7, 3) := by decide +kernel
theorem dL_isAddedSo_24 : decode cL_isAddedSo 24 = .ok (.iload_n 2, 1) := by decide +kernel
theorem dL_isAddedSo_25 : decode cL_isAddedSo 25 = .ok (.ifCond .ne 17, 3) := by decide +kernel
theorem dL_isAddedSo_28 : decode cL_isAddedSo 28 = .ok (.iload_n 2, 1) := by decide +kernel
theorem dL_isAddedSo_29 : decode cL_isAddedSo 29 = .ok (.ifCond .ne 7, 3) := by decide +kernel
theorem dL_isAddedSo_32 : decode cL_isAddedSo 32 = .ok (.iload_n 3, 1) := by decide +kernel
theorem dL_isAddedSo_33 : decode cL_isAddedSo 33 = .ok (.ifCond .ne 7, 3) := by decide +kernel
theorem dL_isAddedSo_36 : decode cL_isAddedSo 36 = .ok (.iconst 1, 1) := by decide +kernel
theorem dL_isAddedSo_37 : decode cL_isAddedSo 37 = .ok (.goto 4, 3) := by decide +kernel
theorem dL_isAddedSo_40 : decode cL_isAddedSo 40 = .ok (.iconst 0, 1) := by decide +kernel
theorem dL_isAddedSo_41 : decode cL_isAddedSo 41 = .ok (.ireturn, 1) := by decide +kernel
theorem dL_isAddedSo_42 : decode cL_isAddedSo 42 = .ok (.iload_n 2, 1) := by decide +kernel
theorem dL_isAddedSo_43 : decode cL_isAddedSo 43 = .ok (.ifCond .le 12, 3) := by decide +kernel
theorem dL_isAddedSo_46 : decode cL_isAddedSo 46 = .ok (.aload_n 0, 1) := by decide +kernel
theorem dL_isAddedSo_47 : decode cL_isAddedSo 47 = .ok (.iload_n 1, 1) := by decide +kernel
theorem dL_isAddedSo_48 : decode cL_isAddedSo 48 = .ok (.iload_n 2, 1) := by decide +kernel
theorem dL_isAddedSo_49 : decode cL_isAddedSo 49 = .ok (.invokevirtual 40, 3) := by decide +kernel
theorem dL_isAddedSo_52 : decode cL_isAddedSo 52 = .ok (.goto 10, 3) := by decide +kernel
theorem dL_isAddedSo_55 : decode cL_isAddedSo 55 = .ok (.aload_n 0, 1) := by decide +kernel
theorem dL_isAddedSo_56 : decode cL_isAddedSo 56 = .ok (.iload_n 1, 1) := by decide +kernel
theorem dL_isAddedSo_57 : decode cL_isAddedSo 57 = .ok (.iload_n 2, 1) := by decide +kernel
theorem dL_isAddedSo_58 : decode cL_isAddedSo 58 = .ok (.ineg, 1) := by decide +kernel
theorem dL_isAddedSo_59 : decode cL_isAddedSo 59 = .ok (.invokevirtual 43, 3) := by decide +kernel
theorem dL_isAddedSo_62 : decode cL_isAddedSo 62 = .ok (.istore 7, 2) := by decide +kernel
theorem dL_isAddedSo_64 : decode cL_isAddedSo 64 = .ok (.iload 7, 2) := by decide +kernel
theorem dL_isAddedSo_66 : decode cL_isAddedSo 66 = .ok (.iload_n 3, 1) := by decide +kernel
theorem dL_isAddedSo_67 : decode cL_isAddedSo 67 = .ok (.if_icmp .ne 37, 3) := by decide +kernel
theorem dL_isAddedSo_70 : decode cL_isAddedSo 70 = .ok (.aload_n 0, 1) := by decide +kernel
theorem dL_isAddedSo_71 : decode cL_isAddedSo 71 = .ok (.iconst 0, 1) := by decide +kernel
theorem dL_isAddedSo_72 : decode cL_isAddedSo 72 = .ok (.invokevirtual 57, 3) := by decide +kernel
theorem dL_isAddedSo_75 : decode cL_isAddedSo 75 = .ok (.iload 6, 2) := by decide +kernel
theorem dL_isAddedSo_77 : decode cL_isAddedSo 77 = .ok (.iload_n 3, 1) := by decide +kernel
theorem dL_isAddedSo_78 : decode cL_isAddedSo 78 = .ok (.iadd, 1) := by decide +kernel
theorem dL_isAddedSo_79 : decode cL_isAddedSo 79 = .ok (.if_icmp .ne 25, 3) := by decide +kernel
theorem dL_isAddedSo_82 : decode cL_isAddedSo 82 = .ok (.aload_n 0, 1) := by decide +kernel
theorem dL_isAddedSo_83 : decode cL_isAddedSo 83 = .ok (.invokevirtual 53, 3) := by decide +kernel
theorem dL_isAddedSo_86 : decode cL_isAddedSo 86 = .ok (.lload 4, 2) := by decide +kernel
theorem dL_isAddedSo_88 : decode cL_isAddedSo 88 = .ok (.iload_n 2, 1) := by decide +kernel
theorem dL_isAddedSo_89 : decode cL_isAddedSo 89 = .ok (.i2l, 1) := by decide +kernel
theorem dL_isAddedSo_90 : decode cL_isAddedSo 90 = .ok (.iload_n 1, 1) := by decide +kernel
theorem dL_isAddedSo_91 : decode cL_isAddedSo 91 = .ok (.invokestatic 60, 3) := by decide +kernel
theorem dL_isAddedSo_94 : decode cL_isAddedSo 94 = .ok (.lmul, 1) := by decide +kernel
theorem dL_isAddedSo_95 : decode cL_isAddedSo 95 = .ok (.ladd, 1) := by decide +kernel
theorem dL_isAddedSo_96 : decode cL_isAddedSo 96 = .ok (.lcmp, 1) := by decide +kernel
theorem dL_isAddedSo_97 : decode cL_isAddedSo 97 = .ok (.ifCond .ne 7, 3) := by decide +kernel
theorem dL_isAddedSo_100 : decode cL_isAddedSo 100 = .ok (.iconst 1, 1) := by decide +kernel
theorem dL_isAddedSo_101 : decode cL_isAddedSo 101 = .ok (.goto 4, 3) := by decide +kernel
theorem dL_isAddedSo_104 : decode cL_isAddedSo 104 = .ok (.iconst 0, 1) := by decide +kernel
theorem dL_isAddedSo_105 : decode cL_isAddedSo 105 = .ok (.istore 8, 2) := by decide +kernel
theorem dL_isAddedSo_107 : decode cL_isAddedSo 107 = .ok (.aload_n 0, 1) := by decide +kernel
theorem dL_isAddedSo_108 : decode cL_isAddedSo 108 = .ok (.invokevirtual 64, 3) := by decide +kernel
theorem dL_isAddedSo_111 : decode cL_isAddedSo 111 = .ok (.istore 9, 2) := by decide +kernel
theorem dL_isAddedSo_113 : decode cL_isAddedSo 113 = .ok (.iload 8, 2) := by decide +kernel
theorem dL_isAddedSo_115 : decode cL_isAddedSo 115 = .ok (.ifCond .eq 22, 3) := by decide +kernel
theorem dL_isAddedSo_118 : decode cL_isAddedSo 118 = .ok (.iload 9, 2) := by decide +kernel
theorem dL_isAddedSo_120 : decode cL_isAddedSo 120 = .ok (.ifCond .lt 17, 3) := by decide +kernel
theorem dL_isAddedSo_123 : decode cL_isAddedSo 123 = .ok (.aload_n 0, 1) := by decide +kernel
theorem dL_isAddedSo_124 : decode cL_isAddedSo 124 = .ok (.invokevirtual 53, 3) := by decide +kernel
theorem dL_isAddedSo_127 : decode cL_isAddedSo 127 = .ok (.lload 4, 2) := by decide +kernel
theorem dL_isAddedSo_129 : decode cL_isAddedSo 129 = .ok (.lcmp, 1) := by decide +kernel
theorem dL_isAddedSo_130 : decode cL_isAddedSo 130 = .ok (.ifCond .ne 7, 3) := by decide +kernel
theorem dL_isAddedSo_133 : decode cL_isAddedSo 133 = .ok (.iconst 1, 1) := by decide +kernel
theorem dL_isAddedSo_134 : decode cL_isAddedSo 134 = .ok (.goto 4, 3) := by decide +kernel
theorem dL_isAddedSo_137 : decode cL_isAddedSo 137 = .ok (.iconst 0, 1) := by decide +kernel
theorem dL_isAddedSo_138 : decode cL_isAddedSo 138 = .ok (.ireturn, 1) := by decide +kernel
set_option maxRecDepth 20000 in
theorem ggL_arePaidSo_X3_cheapestLoan : GoodIn wsL_arePaidSo wsX3_cheapestLoan := goodIn_r _ [5, 6, 7, 8, 9, 10, 11, 12, 13, 14, 15, 16, 17, 18, 19, 20, 21, 22, 23, 24, 25, 26, 27, 28, 29, 30, 31, 32, 33, 34, 35, 36, 37, 38, 39, 40, 41, 42, 43, 44, 45, 46, 47, 155, 156, 157, 158, 159, 160, 161, 162, 163, 164] (by decide +kernel) (by decide +kernel)
set_option maxRecDepth 20000 in
theorem gL_arePaidSo_X3_cheapestLoan : GoodIn wsL_arePaidSo (wsV RL 67 RX3 yX3_cheapestLoan wsX3_cheapestLoan) := goodIn_app (goodIn_of _ (by decide +kernel)) ggL_arePaidSo_X3_cheapestLoan
set_option maxRecDepth 20000 in
theorem ggL_arePaidSo_X3_whole : GoodIn wsL_arePaidSo wsX3_whole := goodIn_r _ [51, 6, 7, 52, 53, 14, 15, 11, 16, 17, 18, 155, 156, 157, 158, 159, 160, 161, 162, 163, 164] (by decide +kernel) (by decide +kernel)
set_option maxRecDepth 20000 in
theorem gL_arePaidSo_X3_whole : GoodIn wsL_arePaidSo (wsV RL 53 RX3 yX3_whole wsX3_whole) := goodIn_app (goodIn_of _ (by decide +kernel)) ggL_arePaidSo_X3_whole
set_option maxRecDepth 20000 in
theorem ggL_arePaidSo_X3_count : GoodIn wsL_arePaidSo wsX3_count := goodIn_ca (goodIn_r _ [57, 6, 58, 59, 60, 61, 62, 4, 63, 64, 65, 66, 67, 68, 11, 69, 36, 70, 71, 72, 73, 45, 74, 75, 76, 77, 78, 79, 80, 81, 13, 14, 15, 16, 17, 18, 82, 83, 84, 85, 86, 87, 88, 89, 90, 91, 92, 93, 31, 155, 156, 157, 158, 159, 160, 161, 162, 163, 164, 165, 166, 167] (by decide +kernel) (by decide +kernel)) (goodIn_sub (fun _ h => List.mem_cons_of_mem _ (List.mem_append_left _ (List.mem_append_left _ (List.mem_append_right _ h)))) (by decide +kernel))
set_option maxRecDepth 20000 in
theorem gL_arePaidSo_X3_count : GoodIn wsL_arePaidSo (wsV RL 57 RX3 yX3_count wsX3_count) := goodIn_app (goodIn_of _ (by decide +kernel)) ggL_arePaidSo_X3_count
set_option maxRecDepth 20000 in
theorem ggL_arePaidSo_X3_rod : GoodIn wsL_arePaidSo wsX3_rod := goodIn_ca (goodIn_ca (goodIn_r _ [97, 6, 98, 99, 7, 100, 101, 102, 103, 104, 4, 105, 106, 107, 61, 62, 63, 64, 65, 53, 14, 15, 11, 16, 17, 18, 108, 109, 110, 111, 19, 20, 21, 22, 23, 24, 25, 26, 27, 28, 29, 30, 31, 32, 33, 34, 35, 36, 155, 156, 157, 158, 159, 160, 161, 162, 163, 164] (by decide +kernel) (by decide +kernel)) (goodIn_sub (fun _ h => List.mem_cons_of_mem _ (List.mem_append_left _ (List.mem_append_right _ h))) (by decide +kernel))) (goodIn_sub (fun _ h => List.mem_cons_of_mem _ (List.mem_append_left _ (List.mem_append_left _ (List.mem_append_right _ h)))) (by decide +kernel))
set_option maxRecDepth 20000 in
theorem gL_arePaidSo_X3_rod : GoodIn wsL_arePaidSo (wsV RL 14 RX3 yX3_rod wsX3_rod) := goodIn_app (goodIn_of _ (by decide +kernel)) ggL_arePaidSo_X3_rod
set_option maxRecDepth 20000 in
theorem ggL_arePaidSo_X3_ifAdded : GoodIn wsL_arePaidSo wsX3_ifAdded := goodIn_ca (goodIn_ca (goodIn_r _ [115, 6, 103, 104, 4, 105, 106, 107, 61, 62, 63, 64, 65, 8, 9, 10, 11, 12, 13, 14, 15, 16, 17, 18, 19, 20, 21, 22, 23, 24, 25, 26, 27, 28, 29, 30, 31, 32, 33, 34, 35, 36, 37, 38, 39, 40, 41, 42, 43, 44, 45, 46, 47, 155, 156, 157, 158, 159, 160, 161, 162, 163, 164] (by decide +kernel) (by decide +kernel)) (goodIn_sub (fun _ h => List.mem_cons_of_mem _ (List.mem_append_left _ (List.mem_append_right _ h))) (by decide +kernel))) (goodIn_sub (fun _ h => List.mem_cons_of_mem _ (List.mem_append_left _ (List.mem_append_left _ (List.mem_append_right _ h)))) (by decide +kernel))
set_option maxRecDepth 20000 in
theorem gL_arePaidSo_X3_ifAdded : GoodIn wsL_arePaidSo (wsV RL 37 RX3 yX3_ifAdded wsX3_ifAdded) := goodIn_app (goodIn_of _ (by decide +kernel)) ggL_arePaidSo_X3_ifAdded
set_option maxRecDepth 20000 in
theorem ggL_arePaidSo_X3_pay : GoodIn wsL_arePaidSo wsX3_pay := goodIn_ca (goodIn_ca (goodIn_r _ [119, 120, 121, 6, 7, 59, 103, 104, 4, 105, 106, 107, 8, 9, 10, 11, 12, 13, 14, 15, 16, 17, 18, 19, 20, 21, 22, 23, 24, 25, 26, 27, 28, 29, 30, 31, 32, 33, 34, 35, 36, 37, 38, 39, 40, 41, 42, 43, 44, 45, 46, 47, 122, 123, 124, 125, 126, 127, 128, 129, 130, 131, 132, 133, 134, 135, 136, 137, 138, 155, 156, 157, 158, 159, 160, 161, 162, 163, 164, 165, 166, 167] (by decide +kernel) (by decide +kernel)) (goodIn_sub (fun _ h => List.mem_cons_of_mem _ (List.mem_append_right _ h)) (by decide +kernel))) (goodIn_sub (fun _ h => List.mem_cons_of_mem _ (List.mem_append_left _ (List.mem_append_right _ h))) (by decide +kernel))
set_option maxRecDepth 20000 in
theorem gL_arePaidSo_X3_pay : GoodIn wsL_arePaidSo (wsV RL 34 RX3 yX3_pay wsX3_pay) := goodIn_app (goodIn_of _ (by decide +kernel)) ggL_arePaidSo_X3_pay
set_option maxRecDepth 20000 in
theorem ggL_arePaidSo_X3_undo : GoodIn wsL_arePaidSo wsX3_undo := goodIn_ca (goodIn_r _ [142, 120, 121, 59, 60, 6, 143, 144, 145, 125, 146, 127, 129, 128, 130, 131, 132, 11, 133, 17, 18, 31, 45, 36, 47, 46, 155, 156, 157, 165, 166, 167, 158, 159, 160, 161, 162, 163, 164] (by decide +kernel) (by decide +kernel)) (goodIn_sub (fun _ h => List.mem_cons_of_mem _ (List.mem_append_right _ h)) (by decide +kernel))
set_option maxRecDepth 20000 in
theorem gL_arePaidSo_X3_undo : GoodIn wsL_arePaidSo (wsV RL 64 RX3 yX3_undo wsX3_undo) := goodIn_app (goodIn_of _ (by decide +kernel)) ggL_arePaidSo_X3_undo
set_option maxRecDepth 20000 in
theorem ggL_arePaidSo_X3_tidy : GoodIn wsL_arePaidSo wsX3_tidy := goodIn_r _ [150, 59, 6, 122, 123, 124, 125, 126, 127, 128, 129, 130, 131, 132, 11, 133, 17, 18, 31, 45, 36, 47, 46, 134, 135, 136, 137, 138, 9, 10, 12, 13, 14, 15, 16, 19, 20, 21, 22, 23, 24, 25, 26, 27, 28, 29, 30, 32, 33, 34, 35, 37, 38, 39, 40, 41, 42, 43, 44, 151, 152, 153, 154, 155, 156, 157, 165, 166, 167, 158, 159, 160, 161, 162, 163, 164] (by decide +kernel) (by decide +kernel)
set_option maxRecDepth 20000 in
theorem gL_arePaidSo_X3_tidy : GoodIn wsL_arePaidSo (wsV RL 30 RX3 yX3_tidy wsX3_tidy) := goodIn_app (goodIn_of _ (by decide +kernel)) ggL_arePaidSo_X3_tidy
theorem dL_arePaidSo_0 : decode cL_arePaidSo 0 = .ok (.aload_n 0, 1) := by decide +kernel
theorem dL_arePaidSo_1 : decode cL_arePaidSo 1 = .ok (.invokevirtual 67, 3) := by decide +kernel
theorem dL_arePaidSo_4 : decode cL_arePaidSo 4 = .ok (.istore_n 1, 1) := by decide +kernel
theorem dL_arePaidSo_5 : decode cL_arePaidSo 5 = .ok (.aload_n 0, 1) := by decide +kernel
theorem dL_arePaidSo_6 : decode cL_arePaidSo 6 = .ok (.invokevirtual 53, 3) := by decide +kernel
theorem dL_arePaidSo_9 : decode cL_arePaidSo 9 = .ok (.lstore_n 2, 1) := by decide +kernel
theorem dL_arePaidSo_10 : decode cL_arePaidSo 10 = .ok (.aload_n 0, 1) := by decide +kernel
theorem dL_arePaidSo_11 : decode cL_arePaidSo 11 = .ok (.iconst 0, 1) := by decide +kernel
theorem dL_arePaidSo_12 : decode cL_arePaidSo 12 = .ok (.invokevirtual 57, 3) := by decide +kernel
theorem dL_arePaidSo_15 : decode cL_arePaidSo 15 = .ok (.istore 4, 2) := by decide +kernel
theorem dL_arePaidSo_17 : decode cL_arePaidSo 17 = .ok (.iload_n 1, 1) := by decide +kernel
theorem dL_arePaidSo_18 : decode cL_arePaidSo 18 = .ok (.bipush 9, 2) := by decide +kernel
theorem dL_arePaidSo_20 : decode cL_arePaidSo 20 = .ok (.if_icmp .ge 7, 3) := by decide +kernel
theorem dL_arePaidSo_23 : decode cL_arePaidSo 23 = .ok (.iconst 1, 1) := by decide +kernel
theorem dL_arePaidSo_24 : decode cL_arePaidSo 24 = .ok (.goto 4, 3) := by decide +kernel
theorem dL_arePaidSo_27 : decode cL_arePaidSo 27 = .ok (.iconst 0, 1) := by decide +kernel
theorem dL_arePaidSo_28 : decode cL_arePaidSo 28 = .ok (.istore 5, 2) := by decide +kernel
theorem dL_arePaidSo_30 : decode cL_arePaidSo 30 = .ok (.iload_n 1, 1) := by decide +kernel
theorem dL_arePaidSo_31 : decode cL_arePaidSo 31 = .ok (.ifCond .lt 160, 3) := by decide +kernel
theorem dL_arePaidSo_34 : decode cL_arePaidSo 34 = .ok (.aload_n 0, 1) := by decide +kernel
theorem dL_arePaidSo_35 : decode cL_arePaidSo 35 = .ok (.iload_n 1, 1) := by decide +kernel
theorem dL_arePaidSo_36 : decode cL_arePaidSo 36 = .ok (.iconst 3, 1) := by decide +kernel
theorem dL_arePaidSo_37 : decode cL_arePaidSo 37 = .ok (.invokevirtual 14, 3) := by decide +kernel
theorem dL_arePaidSo_40 : decode cL_arePaidSo 40 = .ok (.bipush 100, 2) := by decide +kernel
theorem dL_arePaidSo_42 : decode cL_arePaidSo 42 = .ok (.isub, 1) := by decide +kernel
theorem dL_arePaidSo_43 : decode cL_arePaidSo 43 = .ok (.istore 6, 2) := by decide +kernel
theorem dL_arePaidSo_45 : decode cL_arePaidSo 45 = .ok (.aload_n 0, 1) := by decide +kernel
theorem dL_arePaidSo_46 : decode cL_arePaidSo 46 = .ok (.iload_n 1, 1) := by decide +kernel
theorem dL_arePaidSo_47 : decode cL_arePaidSo 47 = .ok (.iload 6, 2) := by decide +kernel
theorem dL_arePaidSo_49 : decode cL_arePaidSo 49 = .ok (.invokevirtual 37, 3) := by decide +kernel
theorem dL_arePaidSo_52 : decode cL_arePaidSo 52 = .ok (.istore 7, 2) := by decide +kernel
theorem dL_arePaidSo_54 : decode cL_arePaidSo 54 = .ok (.iload 6, 2) := by decide +kernel
theorem dL_arePaidSo_56 : decode cL_arePaidSo 56 = .ok (.ifCond .eq 42, 3) := by decide +kernel
theorem dL_arePaidSo_59 : decode cL_arePaidSo 59 = .ok (.iload 7, 2) := by decide +kernel
theorem dL_arePaidSo_61 : decode cL_arePaidSo 61 = .ok (.ifCond .lt 37, 3) := by decide +kernel
theorem dL_arePaidSo_64 : decode cL_arePaidSo 64 = .ok (.aload_n 0, 1) := by decide +kernel
theorem dL_arePaidSo_65 : decode cL_arePaidSo 65 = .ok (.iload_n 1, 1) := by decide +kernel
theorem dL_arePaidSo_66 : decode cL_arePaidSo 66 = .ok (.invokevirtual 34, 3) := by decide +kernel
theorem dL_arePaidSo_69 : decode cL_arePaidSo 69 = .ok (.iload 7, 2) := by decide +kernel
theorem dL_arePaidSo_71 : decode cL_arePaidSo 71 = .ok (.if_icmp .ne 27, 3) := by decide +kernel
theorem dL_arePaidSo_74 : decode cL_arePaidSo 74 = .ok (.aload_n 0, 1) := by decide +kernel
theorem dL_arePaidSo_75 : decode cL_arePaidSo 75 = .ok (.iload_n 1, 1) := by decide +kernel
theorem dL_arePaidSo_76 : decode cL_arePaidSo 76 = .ok (.iconst 3, 1) := by decide +kernel
theorem dL_arePaidSo_77 : decode cL_arePaidSo 77 = .ok (.invokevirtual 14, 3) := by decide +kernel
theorem dL_arePaidSo_80 : decode cL_arePaidSo 80 = .ok (.bipush 100, 2) := by decide +kernel
theorem dL_arePaidSo_82 : decode cL_arePaidSo 82 = .ok (.if_icmp .ne 16, 3) := by decide +kernel
theorem dL_arePaidSo_85 : decode cL_arePaidSo 85 = .ok (.aload_n 0, 1) := by decide +kernel
theorem dL_arePaidSo_86 : decode cL_arePaidSo 86 = .ok (.invokevirtual 53, 3) := by decide +kernel
theorem dL_arePaidSo_89 : decode cL_arePaidSo 89 = .ok (.lload_n 2, 1) := by decide +kernel
theorem dL_arePaidSo_90 : decode cL_arePaidSo 90 = .ok (.lcmp, 1) := by decide +kernel
theorem dL_arePaidSo_91 : decode cL_arePaidSo 91 = .ok (.ifCond .ne 7, 3) := by decide +kernel
theorem dL_arePaidSo_94 : decode cL_arePaidSo 94 = .ok (.iconst 1, 1) := by decide +kernel
theorem dL_arePaidSo_95 : decode cL_arePaidSo 95 = .ok (.goto 4, 3) := by decide +kernel
theorem dL_arePaidSo_98 : decode cL_arePaidSo 98 = .ok (.iconst 0, 1) := by decide +kernel
theorem dL_arePaidSo_99 : decode cL_arePaidSo 99 = .ok (.istore 5, 2) := by decide +kernel
theorem dL_arePaidSo_101 : decode cL_arePaidSo 101 = .ok (.aload_n 0, 1) := by decide +kernel
theorem dL_arePaidSo_102 : decode cL_arePaidSo 102 = .ok (.invokevirtual 64, 3) := by decide +kernel
theorem dL_arePaidSo_105 : decode cL_arePaidSo 105 = .ok (.istore 8, 2) := by decide +kernel
theorem dL_arePaidSo_107 : decode cL_arePaidSo 107 = .ok (.iconst 0, 1) := by decide +kernel
theorem dL_arePaidSo_108 : decode cL_arePaidSo 108 = .ok (.istore 9, 2) := by decide +kernel
theorem dL_arePaidSo_110 : decode cL_arePaidSo 110 = .ok (.iload 9, 2) := by decide +kernel
theorem dL_arePaidSo_112 : decode cL_arePaidSo 112 = .ok (.bipush 9, 2) := by decide +kernel
theorem dL_arePaidSo_114 : decode cL_arePaidSo 114 = .ok (.if_icmp .ge 77, 3) := by decide +kernel
theorem dL_arePaidSo_117 : decode cL_arePaidSo 117 = .ok (.aload_n 0, 1) := by decide +kernel
theorem dL_arePaidSo_118 : decode cL_arePaidSo 118 = .ok (.iload 9, 2) := by decide +kernel
theorem dL_arePaidSo_120 : decode cL_arePaidSo 120 = .ok (.iconst 3, 1) := by decide +kernel
theorem dL_arePaidSo_121 : decode cL_arePaidSo 121 = .ok (.invokevirtual 14, 3) := by decide +kernel
theorem dL_arePaidSo_124 : decode cL_arePaidSo 124 = .ok (.bipush 100, 2) := by decide +kernel
theorem dL_arePaidSo_126 : decode cL_arePaidSo 126 = .ok (.isub, 1) := by decide +kernel
theorem dL_arePaidSo_127 : decode cL_arePaidSo 127 = .ok (.istore 10, 2) := by decide +kernel
theorem dL_arePaidSo_129 : decode cL_arePaidSo 129 = .ok (.iload 10, 2) := by decide +kernel
theorem dL_arePaidSo_131 : decode cL_arePaidSo 131 = .ok (.ifCond .ne 7, 3) := by decide +kernel
theorem dL_arePaidSo_134 : decode cL_arePaidSo 134 = .ok (.iconst (-1), 1) := by decide +kernel
theorem dL_arePaidSo_135 : decode cL_arePaidSo 135 = .ok (.goto 11, 3) := by decide +kernel
theorem dL_arePaidSo_138 : decode cL_arePaidSo 138 = .ok (.aload_n 0, 1) := by decide +kernel
theorem dL_arePaidSo_139 : decode cL_arePaidSo 139 = .ok (.iload 9, 2) := by decide +kernel
theorem dL_arePaidSo_141 : decode cL_arePaidSo 141 = .ok (.iload 10, 2) := by decide +kernel
theorem dL_arePaidSo_143 : decode cL_arePaidSo 143 = .ok (.invokevirtual 37, 3) := by decide +kernel
theorem dL_arePaidSo_146 : decode cL_arePaidSo 146 = .ok (.istore 11, 2) := by decide +kernel
theorem dL_arePaidSo_148 : decode cL_arePaidSo 148 = .ok (.iload 5, 2) := by decide +kernel
theorem dL_arePaidSo_150 : decode cL_arePaidSo 150 = .ok (.ifCond .eq 32, 3) := by decide +kernel
theorem dL_arePaidSo_153 : decode cL_arePaidSo 153 = .ok (.iload 11, 2) := by decide +kernel
theorem dL_arePaidSo_155 : decode cL_arePaidSo 155 = .ok (.ifCond .lt 23, 3) := by decide +kernel
theorem dL_arePaidSo_158 : decode cL_arePaidSo 158 = .ok (.iload 7, 2) := by decide +kernel
theorem dL_arePaidSo_160 : decode cL_arePaidSo 160 = .ok (.iload 11, 2) := by decide +kernel
theorem dL_arePaidSo_162 : decode cL_arePaidSo 162 = .ok (.if_icmp .lt 16, 3) := by decide +kernel
theorem dL_arePaidSo_165 : decode cL_arePaidSo 165 = .ok (.iload 7, 2) := by decide +kernel
theorem dL_arePaidSo_167 : decode cL_arePaidSo 167 = .ok (.iload 11, 2) := by decide +kernel
theorem dL_arePaidSo_169 : decode cL_arePaidSo 169 = .ok (.if_icmp .ne 13, 3) := by decide +kernel
theorem dL_arePaidSo_172 : decode cL_arePaidSo 172 = .ok (.iload_n 1, 1) := by decide +kernel
theorem dL_arePaidSo_173 : decode cL_arePaidSo 173 = .ok (.iload 9, 2) := by decide +kernel
theorem dL_arePaidSo_175 : decode cL_arePaidSo 175 = .ok (.if_icmp .gt 7, 3) := by decide +kernel
theorem dL_arePaidSo_178 : decode cL_arePaidSo 178 = .ok (.iconst 1, 1) := by decide +kernel
theorem dL_arePaidSo_179 : decode cL_arePaidSo 179 = .ok (.goto 4, 3) := by decide +kernel
theorem dL_arePaidSo_182 : decode cL_arePaidSo 182 = .ok (.iconst 0, 1) := by decide +kernel
theorem dL_arePaidSo_183 : decode cL_arePaidSo 183 = .ok (.istore 5, 2) := by decide +kernel
theorem dL_arePaidSo_185 : decode cL_arePaidSo 185 = .ok (.iinc 9 1, 3) := by decide +kernel
theorem dL_arePaidSo_188 : decode cL_arePaidSo 188 = .ok (.goto (-78), 3) := by decide +kernel
theorem dL_arePaidSo_191 : decode cL_arePaidSo 191 = .ok (.iconst 0, 1) := by decide +kernel
theorem dL_arePaidSo_192 : decode cL_arePaidSo 192 = .ok (.istore 6, 2) := by decide +kernel
theorem dL_arePaidSo_194 : decode cL_arePaidSo 194 = .ok (.iload 6, 2) := by decide +kernel
theorem dL_arePaidSo_196 : decode cL_arePaidSo 196 = .ok (.bipush 9, 2) := by decide +kernel
theorem dL_arePaidSo_198 : decode cL_arePaidSo 198 = .ok (.if_icmp .ge 56, 3) := by decide +kernel
theorem dL_arePaidSo_201 : decode cL_arePaidSo 201 = .ok (.iload_n 1, 1) := by decide +kernel
theorem dL_arePaidSo_202 : decode cL_arePaidSo 202 = .ok (.ifCond .ge 52, 3) := by decide +kernel
theorem dL_arePaidSo_205 : decode cL_arePaidSo 205 = .ok (.iload 5, 2) := by decide +kernel
theorem dL_arePaidSo_207 : decode cL_arePaidSo 207 = .ok (.ifCond .eq 38, 3) := by decide +kernel
theorem dL_arePaidSo_210 : decode cL_arePaidSo 210 = .ok (.aload_n 0, 1) := by decide +kernel
theorem dL_arePaidSo_211 : decode cL_arePaidSo 211 = .ok (.iload 6, 2) := by decide +kernel
theorem dL_arePaidSo_213 : decode cL_arePaidSo 213 = .ok (.iconst 3, 1) := by decide +kernel
theorem dL_arePaidSo_214 : decode cL_arePaidSo 214 = .ok (.invokevirtual 14, 3) := by decide +kernel
theorem dL_arePaidSo_217 : decode cL_arePaidSo 217 = .ok (.bipush 100, 2) := by decide +kernel
theorem dL_arePaidSo_219 : decode cL_arePaidSo 219 = .ok (.if_icmp .eq 22, 3) := by decide +kernel
theorem dL_arePaidSo_222 : decode cL_arePaidSo 222 = .ok (.aload_n 0, 1) := by decide +kernel
theorem dL_arePaidSo_223 : decode cL_arePaidSo 223 = .ok (.iload 6, 2) := by decide +kernel
theorem dL_arePaidSo_225 : decode cL_arePaidSo 225 = .ok (.aload_n 0, 1) := by decide +kernel
theorem dL_arePaidSo_226 : decode cL_arePaidSo 226 = .ok (.iload 6, 2) := by decide +kernel
theorem dL_arePaidSo_228 : decode cL_arePaidSo 228 = .ok (.iconst 3, 1) := by decide +kernel
theorem dL_arePaidSo_229 : decode cL_arePaidSo 229 = .ok (.invokevirtual 14, 3) := by decide +kernel
theorem dL_arePaidSo_232 : decode cL_arePaidSo 232 = .ok (.bipush 100, 2) := by decide +kernel
theorem dL_arePaidSo_234 : decode cL_arePaidSo 234 = .ok (.isub, 1) := by decide +kernel
theorem dL_arePaidSo_235 : decode cL_arePaidSo 235 = .ok (.invokevirtual 37, 3) := by decide +kernel
theorem dL_arePaidSo_238 : decode cL_arePaidSo 238 = .ok (.ifCond .ge 7, 3) := by decide +kernel
theorem dL_arePaidSo_241 : decode cL_arePaidSo 241 = .ok (.iconst 1, 1) := by decide +kernel
theorem dL_arePaidSo_242 : decode cL_arePaidSo 242 = .ok (.goto 4, 3) := by decide +kernel
theorem dL_arePaidSo_245 : decode cL_arePaidSo 245 = .ok (.iconst 0, 1) := by decide +kernel
theorem dL_arePaidSo_246 : decode cL_arePaidSo 246 = .ok (.istore 5, 2) := by decide +kernel
theorem dL_arePaidSo_248 : decode cL_arePaidSo 248 = .ok (.iinc 6 1, 3) := by decide +kernel
theorem dL_arePaidSo_251 : decode cL_arePaidSo 251 = .ok (.goto (-57), 3) := by decide +kernel
theorem dL_arePaidSo_254 : decode cL_arePaidSo 254 = .ok (.aload_n 0, 1) := by decide +kernel
theorem dL_arePaidSo_255 : decode cL_arePaidSo 255 = .ok (.invokevirtual 30, 3) := by decide +kernel
theorem dL_arePaidSo_258 : decode cL_arePaidSo 258 = .ok (.istore 6, 2) := by decide +kernel
theorem dL_arePaidSo_260 : decode cL_arePaidSo 260 = .ok (.iload 5, 2) := by decide +kernel
theorem dL_arePaidSo_262 : decode cL_arePaidSo 262 = .ok (.ifCond .eq 29, 3) := by decide +kernel
theorem dL_arePaidSo_265 : decode cL_arePaidSo 265 = .ok (.aload_n 0, 1) := by decide +kernel
theorem dL_arePaidSo_266 : decode cL_arePaidSo 266 = .ok (.invokevirtual 53, 3) := by decide +kernel
theorem dL_arePaidSo_269 : decode cL_arePaidSo 269 = .ok (.lload_n 2, 1) := by decide +kernel
theorem dL_arePaidSo_270 : decode cL_arePaidSo 270 = .ok (.lcmp, 1) := by decide +kernel
theorem dL_arePaidSo_271 : decode cL_arePaidSo 271 = .ok (.ifCond .ne 20, 3) := by decide +kernel
theorem dL_arePaidSo_274 : decode cL_arePaidSo 274 = .ok (.aload_n 0, 1) := by decide +kernel
theorem dL_arePaidSo_275 : decode cL_arePaidSo 275 = .ok (.iconst 0, 1) := by decide +kernel
theorem dL_arePaidSo_276 : decode cL_arePaidSo 276 = .ok (.invokevirtual 57, 3) := by decide +kernel
theorem dL_arePaidSo_279 : decode cL_arePaidSo 279 = .ok (.iload 4, 2) := by decide +kernel
theorem dL_arePaidSo_281 : decode cL_arePaidSo 281 = .ok (.iload 6, 2) := by decide +kernel
theorem dL_arePaidSo_283 : decode cL_arePaidSo 283 = .ok (.iadd, 1) := by decide +kernel
theorem dL_arePaidSo_284 : decode cL_arePaidSo 284 = .ok (.if_icmp .ne 7, 3) := by decide +kernel
theorem dL_arePaidSo_287 : decode cL_arePaidSo 287 = .ok (.iconst 1, 1) := by decide +kernel
theorem dL_arePaidSo_288 : decode cL_arePaidSo 288 = .ok (.goto 4, 3) := by decide +kernel
theorem dL_arePaidSo_291 : decode cL_arePaidSo 291 = .ok (.iconst 0, 1) := by decide +kernel
theorem dL_arePaidSo_292 : decode cL_arePaidSo 292 = .ok (.istore 5, 2) := by decide +kernel
theorem dL_arePaidSo_294 : decode cL_arePaidSo 294 = .ok (.aload_n 0, 1) := by decide +kernel
theorem dL_arePaidSo_295 : decode cL_arePaidSo 295 = .ok (.invokevirtual 64, 3) := by decide +kernel
theorem dL_arePaidSo_298 : decode cL_arePaidSo 298 = .ok (.istore 7, 2) := by decide +kernel
theorem dL_arePaidSo_300 : decode cL_arePaidSo 300 = .ok (.iload 5, 2) := by decide +kernel
theorem dL_arePaidSo_302 : decode cL_arePaidSo 302 = .ok (.ifCond .eq 12, 3) := by decide +kernel
theorem dL_arePaidSo_305 : decode cL_arePaidSo 305 = .ok (.iload 7, 2) := by decide +kernel
theorem dL_arePaidSo_307 : decode cL_arePaidSo 307 = .ok (.ifCond .lt 7, 3) := by decide +kernel
theorem dL_arePaidSo_310 : decode cL_arePaidSo 310 = .ok (.iconst 1, 1) := by decide +kernel
theorem dL_arePaidSo_311 : decode cL_arePaidSo 311 = .ok (.goto 4, 3) := by decide +kernel
theorem dL_arePaidSo_314 : decode cL_arePaidSo 314 = .ok (.iconst 0, 1) := by decide +kernel
theorem dL_arePaidSo_315 : decode cL_arePaidSo 315 = .ok (.ireturn, 1) := by decide +kernel
set_option maxRecDepth 20000 in
theorem ggL_isShownSo_X3_moves : GoodIn wsL_isShownSo wsX3_moves := goodIn_ca (goodIn_ca (goodIn_r _ [5, 6, 7, 8, 4, 9, 10, 11, 12, 13, 14, 15, 16, 17, 18, 19, 20, 21, 22, 23, 24, 25, 26, 27, 28, 29, 30, 31, 32, 33, 34, 35, 36, 37, 53, 54, 55, 56, 57, 58, 59, 60, 61, 62] (by decide +kernel) (by decide +kernel)) (goodIn_sub (fun _ h => List.mem_cons_of_mem _ (List.mem_append_left _ (List.mem_append_right _ h))) (by decide +kernel))) (goodIn_sub (fun _ h => List.mem_cons_of_mem _ (List.mem_append_right _ h)) (by decide +kernel))
set_option maxRecDepth 20000 in
theorem gL_isShownSo_X3_moves : GoodIn wsL_isShownSo (wsV RL 46 RX3 yX3_moves wsX3_moves) := goodIn_app (goodIn_of _ (by decide +kernel)) ggL_isShownSo_X3_moves
set_option maxRecDepth 20000 in
theorem ggL_isShownSo_X3_toShow : GoodIn wsL_isShownSo wsX3_toShow := goodIn_ca (goodIn_r _ [41, 42, 6, 12, 13, 4, 14, 15, 16, 17, 18, 19, 20, 21, 22, 23, 24, 25, 26, 27, 28, 29, 30, 31, 32, 33, 34, 35, 36, 37, 53, 54, 55, 56, 57, 58, 59, 60, 61, 62] (by decide +kernel) (by decide +kernel)) (goodIn_sub (fun _ h => List.mem_cons_of_mem _ (List.mem_append_right _ h)) (by decide +kernel))
set_option maxRecDepth 20000 in
theorem gL_isShownSo_X3_toShow : GoodIn wsL_isShownSo (wsV RL 70 RX3 yX3_toShow wsX3_toShow) := goodIn_app (goodIn_of _ (by decide +kernel)) ggL_isShownSo_X3_toShow
set_option maxRecDepth 20000 in
theorem ggL_isShownSo_X3_looseness : GoodIn wsL_isShownSo wsX3_looseness := goodIn_r _ [46, 6, 47, 48, 49, 50, 20, 51, 52, 18, 19, 21, 22, 23, 24, 25, 26, 27, 28, 29, 30, 31, 32, 33, 34, 35, 36, 37, 53, 54, 55, 56, 57, 58, 59, 60, 61, 62] (by decide +kernel) (by decide +kernel)
set_option maxRecDepth 20000 in
theorem gL_isShownSo_X3_looseness : GoodIn wsL_isShownSo (wsV RL 73 RX3 yX3_looseness wsX3_looseness) := goodIn_app (goodIn_of _ (by decide +kernel)) ggL_isShownSo_X3_looseness
theorem dL_isShownSo_0 : decode cL_isShownSo 0 = .ok (.iconst 0, 1) := by decide +kernel
theorem dL_isShownSo_1 : decode cL_isShownSo 1 = .ok (.istore_n 2, 1) := by decide +kernel
theorem dL_isShownSo_2 : decode cL_isShownSo 2 = .ok (.iload_n 1, 1) := by decide +kernel
theorem dL_isShownSo_3 : decode cL_isShownSo 3 = .ok (.istore_n 3, 1) := by decide +kernel
theorem dL_isShownSo_4 : decode cL_isShownSo 4 = .ok (.iconst 1, 1) := by decide +kernel
theorem dL_isShownSo_5 : decode cL_isShownSo 5 = .ok (.istore 4, 2) := by decide +kernel
theorem dL_isShownSo_7 : decode cL_isShownSo 7 = .ok (.iconst 0, 1) := by decide +kernel
theorem dL_isShownSo_8 : decode cL_isShownSo 8 = .ok (.istore 5, 2) := by decide +kernel
theorem dL_isShownSo_10 : decode cL_isShownSo 10 = .ok (.iload 5, 2) := by decide +kernel
theorem dL_isShownSo_12 : decode cL_isShownSo 12 = .ok (.bipush 9, 2) := by decide +kernel
theorem dL_isShownSo_14 : decode cL_isShownSo 14 = .ok (.if_icmp .ge 48, 3) := by decide +kernel
theorem dL_isShownSo_17 : decode cL_isShownSo 17 = .ok (.aload_n 0, 1) := by decide +kernel
theorem dL_isShownSo_18 : decode cL_isShownSo 18 = .ok (.iload 5, 2) := by decide +kernel
theorem dL_isShownSo_20 : decode cL_isShownSo 20 = .ok (.iload_n 3, 1) := by decide +kernel
theorem dL_isShownSo_21 : decode cL_isShownSo 21 = .ok (.bipush 10, 2) := by decide +kernel
theorem dL_isShownSo_23 : decode cL_isShownSo 23 = .ok (.irem, 1) := by decide +kernel
theorem dL_isShownSo_24 : decode cL_isShownSo 24 = .ok (.invokevirtual 46, 3) := by decide +kernel
theorem dL_isShownSo_27 : decode cL_isShownSo 27 = .ok (.istore 6, 2) := by decide +kernel
theorem dL_isShownSo_29 : decode cL_isShownSo 29 = .ok (.iload 4, 2) := by decide +kernel
theorem dL_isShownSo_31 : decode cL_isShownSo 31 = .ok (.ifCond .eq 12, 3) := by decide +kernel
theorem dL_isShownSo_34 : decode cL_isShownSo 34 = .ok (.iload 6, 2) := by decide +kernel
theorem dL_isShownSo_36 : decode cL_isShownSo 36 = .ok (.ifCond .lt 7, 3) := by decide +kernel
theorem dL_isShownSo_39 : decode cL_isShownSo 39 = .ok (.iconst 1, 1) := by decide +kernel
theorem dL_isShownSo_40 : decode cL_isShownSo 40 = .ok (.goto 4, 3) := by decide +kernel
theorem dL_isShownSo_43 : decode cL_isShownSo 43 = .ok (.iconst 0, 1) := by decide +kernel
theorem dL_isShownSo_44 : decode cL_isShownSo 44 = .ok (.istore 4, 2) := by decide +kernel
theorem dL_isShownSo_46 : decode cL_isShownSo 46 = .ok (.iload_n 2, 1) := by decide +kernel
theorem dL_isShownSo_47 : decode cL_isShownSo 47 = .ok (.iload 6, 2) := by decide +kernel
theorem dL_isShownSo_49 : decode cL_isShownSo 49 = .ok (.iadd, 1) := by decide +kernel
theorem dL_isShownSo_50 : decode cL_isShownSo 50 = .ok (.istore_n 2, 1) := by decide +kernel
theorem dL_isShownSo_51 : decode cL_isShownSo 51 = .ok (.iload_n 3, 1) := by decide +kernel
theorem dL_isShownSo_52 : decode cL_isShownSo 52 = .ok (.bipush 10, 2) := by decide +kernel
theorem dL_isShownSo_54 : decode cL_isShownSo 54 = .ok (.idiv, 1) := by decide +kernel
theorem dL_isShownSo_55 : decode cL_isShownSo 55 = .ok (.istore_n 3, 1) := by decide +kernel
theorem dL_isShownSo_56 : decode cL_isShownSo 56 = .ok (.iinc 5 1, 3) := by decide +kernel
theorem dL_isShownSo_59 : decode cL_isShownSo 59 = .ok (.goto (-49), 3) := by decide +kernel
theorem dL_isShownSo_62 : decode cL_isShownSo 62 = .ok (.aload_n 0, 1) := by decide +kernel
theorem dL_isShownSo_63 : decode cL_isShownSo 63 = .ok (.iload_n 1, 1) := by decide +kernel
theorem dL_isShownSo_64 : decode cL_isShownSo 64 = .ok (.invokevirtual 70, 3) := by decide +kernel
theorem dL_isShownSo_67 : decode cL_isShownSo 67 = .ok (.iload 4, 2) := by decide +kernel
theorem dL_isShownSo_69 : decode cL_isShownSo 69 = .ok (.ifCond .eq 7, 3) := by decide +kernel
theorem dL_isShownSo_72 : decode cL_isShownSo 72 = .ok (.iload_n 2, 1) := by decide +kernel
theorem dL_isShownSo_73 : decode cL_isShownSo 73 = .ok (.goto 4, 3) := by decide +kernel
theorem dL_isShownSo_76 : decode cL_isShownSo 76 = .ok (.iconst (-1), 1) := by decide +kernel
theorem dL_isShownSo_77 : decode cL_isShownSo 77 = .ok (.if_icmp .ne 25, 3) := by decide +kernel
theorem dL_isShownSo_80 : decode cL_isShownSo 80 = .ok (.aload_n 0, 1) := by decide +kernel
theorem dL_isShownSo_81 : decode cL_isShownSo 81 = .ok (.invokevirtual 73, 3) := by decide +kernel
theorem dL_isShownSo_84 : decode cL_isShownSo 84 = .ok (.dconst 0, 1) := by decide +kernel
theorem dL_isShownSo_85 : decode cL_isShownSo 85 = .ok (.dcmp .l, 1) := by decide +kernel
theorem dL_isShownSo_86 : decode cL_isShownSo 86 = .ok (.ifCond .le 16, 3) := by decide +kernel
theorem dL_isShownSo_89 : decode cL_isShownSo 89 = .ok (.aload_n 0, 1) := by decide +kernel
theorem dL_isShownSo_90 : decode cL_isShownSo 90 = .ok (.invokevirtual 73, 3) := by decide +kernel
theorem dL_isShownSo_93 : decode cL_isShownSo 93 = .ok (.dconst 1, 1) := by decide +kernel
theorem dL_isShownSo_94 : decode cL_isShownSo 94 = .ok (.dcmp .g, 1) := by decide +kernel
theorem dL_isShownSo_95 : decode cL_isShownSo 95 = .ok (.ifCond .gt 7, 3) := by decide +kernel
theorem dL_isShownSo_98 : decode cL_isShownSo 98 = .ok (.iconst 1, 1) := by decide +kernel
theorem dL_isShownSo_99 : decode cL_isShownSo 99 = .ok (.goto 4, 3) := by decide +kernel
theorem dL_isShownSo_102 : decode cL_isShownSo 102 = .ok (.iconst 0, 1) := by decide +kernel
theorem dL_isShownSo_103 : decode cL_isShownSo 103 = .ok (.ireturn, 1) := by decide +kernel
set_option maxRecDepth 20000 in
theorem ggL_law_X3_init : GoodIn wsL_law wsX3_init := goodIn_r _ [6, 7, 8, 9, 10, 11, 12, 13, 14, 15, 16, 17, 18, 19, 20, 21, 22, 23, 24, 25, 26, 27, 28, 29, 30, 31, 32, 33, 34, 35, 36, 37, 38, 39, 40, 41, 42, 43, 44, 45, 46, 47, 48, 260, 261, 262, 263, 264, 265, 266, 257, 258, 259, 267, 268, 269, 270, 271] (by decide +kernel) (by decide +kernel)
set_option maxRecDepth 20000 in
theorem gL_law_X3_init : GoodIn wsL_law (wsX3_init) := ggL_law_X3_init
set_option maxRecDepth 20000 in
theorem ggL_law_L_cell : GoodIn wsL_law wsL_cell := goodIn_r _ [52] (by decide +kernel) (by decide +kernel)
set_option maxRecDepth 20000 in
theorem gL_law_L_cell : GoodIn wsL_law (va_wsS RL 78 yL_cell wsL_cell) := goodIn_app (goodIn_of _ (by decide +kernel)) ggL_law_L_cell
set_option maxRecDepth 20000 in
theorem ggL_law_X3_whole : GoodIn wsL_law wsX3_whole := goodIn_r _ [56, 13, 57, 58, 59, 60, 61, 12, 62, 27, 28, 257, 258, 259, 260, 261, 262, 263, 264, 265, 266] (by decide +kernel) (by decide +kernel)
set_option maxRecDepth 20000 in
theorem gL_law_X3_whole : GoodIn wsL_law (wsV RL 53 RX3 yX3_whole wsX3_whole) := goodIn_app (goodIn_of _ (by decide +kernel)) ggL_law_X3_whole
set_option maxRecDepth 20000 in
theorem ggL_law_L_does : GoodIn wsL_law wsL_does := goodIn_ca (goodIn_ca (goodIn_ca (goodIn_r _ [65, 66, 67, 51, 68, 69, 70, 71, 72, 2, 73, 13, 74, 75, 57, 76, 77, 78, 79, 80, 81, 82, 83, 84, 85, 86, 87, 88, 59, 60, 61, 12, 62, 27, 28, 89, 90, 91, 92, 93, 94, 95, 96, 97, 98, 99, 100, 101, 102, 103, 104, 29, 105, 106, 107, 108, 31, 109, 110, 111, 112, 113, 114, 17, 115, 116, 117, 118, 16, 119, 41, 40, 39, 120, 121, 122, 123, 30, 32, 33, 124, 125, 126, 127, 128, 129, 130, 131, 132, 133, 134, 135, 136, 137, 138, 139, 140, 141, 142, 143, 144, 145, 146, 147, 148, 149, 150, 151, 152, 153, 154, 155, 156, 157, 158, 159, 160, 161, 162, 163, 164, 165, 166, 167, 168, 169, 170, 171, 172, 173, 174, 175, 176, 177, 178, 179, 257, 258, 259, 260, 261, 262, 263, 264, 265, 266, 267, 268, 269] (by decide +kernel) (by decide +kernel)) (goodIn_sub (fun _ h => List.mem_append_left _ (List.mem_append_left _ (List.mem_append_right _ h))) (by decide +kernel))) (goodIn_sub (fun _ h => List.mem_append_left _ (List.mem_append_right _ h)) (by decide +kernel))) (goodIn_sub (fun _ h => List.mem_append_right _ h) (by decide +kernel))
set_option maxRecDepth 20000 in
theorem gL_law_L_does : GoodIn wsL_law (va_wsS RL 82 yL_does wsL_does) := goodIn_app (goodIn_of _ (by decide +kernel)) ggL_law_L_does
set_option maxRecDepth 20000 in
theorem ggL_law_L_low : GoodIn wsL_law wsL_low := goodIn_r _ [68, 69] (by decide +kernel) (by decide +kernel)
set_option maxRecDepth 20000 in
theorem gL_law_L_low : GoodIn wsL_law (va_wsS RL 8 yL_low wsL_low) := goodIn_app (goodIn_of _ (by decide +kernel)) ggL_law_L_low
set_option maxRecDepth 20000 in
theorem ggL_law_L_isAddedSo : GoodIn wsL_law wsL_isAddedSo := goodIn_ca (goodIn_ca (goodIn_ca (goodIn_r _ [182, 164, 165, 166, 2, 167, 13, 79, 80, 81, 82, 83, 84, 85, 86, 87, 88, 163, 143, 144, 12, 145, 146, 60, 61, 62, 27, 28, 93, 94, 95, 96, 97, 98, 99, 100, 101, 102, 103, 104, 29, 105, 106, 107, 108, 31, 147, 148, 149, 150, 151, 152, 153, 154, 30, 33, 32, 53, 54, 55, 56, 57, 58, 59, 183, 184, 185, 186, 133, 17, 187, 188, 189, 190, 191, 192, 193, 194, 195, 196, 197, 198, 199, 200, 201, 202, 203, 204, 205, 206, 207, 208, 209, 210, 211, 212, 213, 214, 215, 168, 169, 170, 171, 172, 173, 174, 175, 113, 114, 116, 117, 118, 16, 119, 41, 40, 39, 120, 121, 122, 123, 176, 177, 178, 179, 216, 217, 51, 218, 219, 220, 221, 222, 223, 224, 225, 226, 227, 257, 258, 259, 260, 261, 262, 263, 264, 265, 266, 267, 268, 269] (by decide +kernel) (by decide +kernel)) (goodIn_sub (fun _ h => List.mem_append_left _ (List.mem_append_left _ (List.mem_append_right _ h))) (by decide +kernel))) (goodIn_sub (fun _ h => List.mem_append_left _ (List.mem_append_right _ h)) (by decide +kernel))) (goodIn_sub (fun _ h => List.mem_append_right _ h) (by decide +kernel))
set_option maxRecDepth 20000 in
theorem gL_law_L_isAddedSo : GoodIn wsL_law (va_wsS RL 86 yL_isAddedSo wsL_isAddedSo) := goodIn_app (goodIn_of _ (by decide +kernel)) ggL_law_L_isAddedSo
set_option maxRecDepth 20000 in
theorem goodIn_hd {big a : List Cond} {c : Cond} (hm : c ∈ big) (hc : goodWord c = true) (ha : GoodIn big a) : GoodIn big (c :: a) := fun w h => (List.mem_cons.mp h).elim (fun e => ⟨e ▸ hm, good_of_word (e ▸ hc)⟩) (ha w)
theorem ggL_law_L_areRodsSo : GoodIn wsL_law wsL_areRodsSo := goodIn_ca (goodIn_ca (goodIn_hd (List.mem_of_getElem? (i := 230) (by rfl)) (by decide +kernel) (goodIn_r _ [219, 231, 70, 71, 72, 2, 73, 13, 74, 75, 57, 76, 77, 78, 79, 80, 81, 82, 83, 84, 85, 86, 87, 88, 59, 60, 61, 12, 62, 27, 28, 89, 90, 91, 92, 93, 94, 95, 96, 97, 98, 99, 100, 101, 102, 103, 104, 29, 105, 106, 107, 108, 31, 232, 233, 234, 235, 236, 53, 54, 55, 56, 58, 183, 184, 185, 186, 133, 17, 187, 188, 189, 190, 191, 192, 193, 194, 195, 30, 196, 197, 198, 199, 200, 201, 202, 203, 146, 204, 205, 206, 207, 208, 209, 210, 211, 212, 213, 214, 215, 257, 258, 259, 260, 261, 262, 263, 264, 265, 266, 267, 268, 269] (by decide +kernel) (by decide +kernel))) (goodIn_sub (fun _ h => List.mem_append_left _ (List.mem_append_left _ (List.mem_append_right _ h))) (by decide +kernel))) (goodIn_sub (fun _ h => List.mem_append_left _ (List.mem_append_right _ h)) (by decide +kernel))
set_option maxRecDepth 20000 in
theorem gL_law_L_areRodsSo : GoodIn wsL_law (va_wsS RL 90 yL_areRodsSo wsL_areRodsSo) := goodIn_app (goodIn_of _ (by decide +kernel)) ggL_law_L_areRodsSo
set_option maxRecDepth 20000 in
theorem ggL_law_L_arePaidSo : GoodIn wsL_law wsL_arePaidSo := goodIn_ca (goodIn_ca (goodIn_ca (goodIn_r _ [239, 240, 241, 242, 2, 243, 13, 57, 163, 143, 144, 12, 145, 146, 60, 61, 62, 27, 28, 93, 94, 95, 96, 97, 98, 99, 100, 101, 102, 103, 104, 29, 105, 106, 107, 108, 31, 147, 148, 149, 150, 151, 152, 153, 154, 30, 33, 32, 53, 54, 55, 56, 58, 59, 183, 184, 185, 186, 133, 17, 187, 84, 85, 86, 87, 88, 188, 189, 190, 191, 192, 193, 194, 195, 196, 197, 198, 199, 200, 201, 202, 203, 204, 205, 206, 207, 208, 209, 210, 211, 212, 213, 214, 215, 70, 71, 72, 73, 74, 75, 76, 77, 78, 79, 80, 81, 82, 83, 89, 90, 91, 92, 164, 165, 166, 167, 159, 160, 161, 162, 113, 114, 116, 117, 118, 16, 119, 41, 40, 39, 120, 121, 122, 123, 138, 139, 140, 141, 142, 220, 221, 222, 223, 224, 225, 226, 227, 134, 135, 136, 137, 155, 156, 157, 158, 257, 258, 259, 260, 261, 262, 263, 264, 265, 266, 267, 268, 269] (by decide +kernel) (by decide +kernel)) (goodIn_sub (fun _ h => List.mem_append_left _ (List.mem_append_right _ h)) (by decide +kernel))) (goodIn_sub (fun _ h => List.mem_append_left _ (List.mem_append_left _ (List.mem_append_right _ h))) (by decide +kernel))) (goodIn_sub (fun _ h => List.mem_append_right _ h) (by decide +kernel))
set_option maxRecDepth 20000 in
theorem gL_law_L_arePaidSo : GoodIn wsL_law (va_wsS RL 94 yL_arePaidSo wsL_arePaidSo) := goodIn_app (goodIn_of _ (by decide +kernel)) ggL_law_L_arePaidSo
set_option maxRecDepth 20000 in
theorem ggL_law_L_isShownSo : GoodIn wsL_law wsL_isShownSo := goodIn_ca (goodIn_ca (goodIn_r _ [246, 232, 233, 234, 2, 235, 13, 79, 80, 81, 82, 83, 84, 85, 86, 87, 88, 236, 94, 95, 12, 96, 97, 98, 99, 100, 27, 101, 102, 103, 104, 28, 29, 105, 106, 107, 108, 31, 247, 248, 249, 250, 251, 252, 253, 254, 255, 256, 89, 90, 91, 92, 93, 257, 258, 259, 260, 261, 262, 263, 264, 265, 266] (by decide +kernel) (by decide +kernel)) (goodIn_sub (fun _ h => List.mem_append_left _ (List.mem_append_left _ (List.mem_append_right _ h))) (by decide +kernel))) (goodIn_sub (fun _ h => List.mem_append_left _ (List.mem_append_right _ h)) (by decide +kernel))
set_option maxRecDepth 20000 in
theorem gL_law_L_isShownSo : GoodIn wsL_law (va_wsS RL 98 yL_isShownSo wsL_isShownSo) := goodIn_app (goodIn_of _ (by decide +kernel)) ggL_law_L_isShownSo
theorem dL_law_0 : decode cL_law 0 = .ok (.new 15, 3) := by decide +kernel
theorem dL_law_3 : decode cL_law 3 = .ok (.dup, 1) := by decide +kernel
theorem dL_law_4 : decode cL_law 4 = .ok (.invokespecial 77, 3) := by decide +kernel
theorem dL_law_7 : decode cL_law 7 = .ok (.astore_n 1, 1) := by decide +kernel
theorem dL_law_8 : decode cL_law 8 = .ok (.iconst 0, 1) := by decide +kernel
theorem dL_law_9 : decode cL_law 9 = .ok (.istore_n 2, 1) := by decide +kernel
theorem dL_law_10 : decode cL_law 10 = .ok (.iload_n 2, 1) := by decide +kernel
theorem dL_law_11 : decode cL_law 11 = .ok (.bipush 60, 2) := by decide +kernel
theorem dL_law_13 : decode cL_law 13 = .ok (.if_icmp .ge 151, 3) := by decide +kernel
theorem dL_law_16 : decode cL_law 16 = .ok (.aload_n 0, 1) := by decide +kernel
theorem dL_law_17 : decode cL_law 17 = .ok (.iload_n 2, 1) := by decide +kernel
theorem dL_law_18 : decode cL_law 18 = .ok (.invokestatic 78, 3) := by decide +kernel
theorem dL_law_21 : decode cL_law 21 = .ok (.istore_n 3, 1) := by decide +kernel
theorem dL_law_22 : decode cL_law 22 = .ok (.iload_n 3, 1) := by decide +kernel
theorem dL_law_23 : decode cL_law 23 = .ok (.bipush 15, 2) := by decide +kernel
theorem dL_law_25 : decode cL_law 25 = .ok (.iand, 1) := by decide +kernel
theorem dL_law_26 : decode cL_law 26 = .ok (.istore 4, 2) := by decide +kernel
theorem dL_law_28 : decode cL_law 28 = .ok (.aload_n 1, 1) := by decide +kernel
theorem dL_law_29 : decode cL_law 29 = .ok (.invokevirtual 53, 3) := by decide +kernel
theorem dL_law_32 : decode cL_law 32 = .ok (.lstore 5, 2) := by decide +kernel
theorem dL_law_34 : decode cL_law 34 = .ok (.aload_n 1, 1) := by decide +kernel
theorem dL_law_35 : decode cL_law 35 = .ok (.iload_n 3, 1) := by decide +kernel
theorem dL_law_36 : decode cL_law 36 = .ok (.invokestatic 82, 3) := by decide +kernel
theorem dL_law_39 : decode cL_law 39 = .ok (.istore 7, 2) := by decide +kernel
theorem dL_law_41 : decode cL_law 41 = .ok (.iload 7, 2) := by decide +kernel
end
section
theorem dL_law_43 : decode cL_law 43 = .ok (.ifCond .lt 30, 3) := by decide +kernel
theorem dL_law_46 : decode cL_law 46 = .ok (.iload 4, 2) := by decide +kernel
theorem dL_law_48 : decode cL_law 48 = .ok (.iconst 2, 1) := by decide +kernel
theorem dL_law_49 : decode cL_law 49 = .ok (.if_icmp .lt 20, 3) := by decide +kernel
theorem dL_law_52 : decode cL_law 52 = .ok (.iload 4, 2) := by decide +kernel
theorem dL_law_54 : decode cL_law 54 = .ok (.bipush 7, 2) := by decide +kernel
theorem dL_law_56 : decode cL_law 56 = .ok (.if_icmp .gt 13, 3) := by decide +kernel
theorem dL_law_59 : decode cL_law 59 = .ok (.aload_n 1, 1) := by decide +kernel
theorem dL_law_60 : decode cL_law 60 = .ok (.invokevirtual 53, 3) := by decide +kernel
theorem dL_law_63 : decode cL_law 63 = .ok (.lload 5, 2) := by decide +kernel
theorem dL_law_65 : decode cL_law 65 = .ok (.lcmp, 1) := by decide +kernel
theorem dL_law_66 : decode cL_law 66 = .ok (.ifCond .ne 7, 3) := by decide +kernel
theorem dL_law_69 : decode cL_law 69 = .ok (.iconst 1, 1) := by decide +kernel
theorem dL_law_70 : decode cL_law 70 = .ok (.goto 4, 3) := by decide +kernel
theorem dL_law_73 : decode cL_law 73 = .ok (.iconst 0, 1) := by decide +kernel
theorem dL_law_74 : decode cL_law 74 = .ok (.istore 8, 2) := by decide +kernel
theorem dL_law_76 : decode cL_law 76 = .ok (.iload 8, 2) := by decide +kernel
theorem dL_law_78 : decode cL_law 78 = .ok (.ifCond .eq 78, 3) := by decide +kernel
theorem dL_law_81 : decode cL_law 81 = .ok (.aload_n 1, 1) := by decide +kernel
theorem dL_law_82 : decode cL_law 82 = .ok (.iload_n 3, 1) := by decide +kernel
theorem dL_law_83 : decode cL_law 83 = .ok (.iconst 5, 1) := by decide +kernel
theorem dL_law_84 : decode cL_law 84 = .ok (.ishr, 1) := by decide +kernel
theorem dL_law_85 : decode cL_law 85 = .ok (.bipush 9, 2) := by decide +kernel
theorem dL_law_87 : decode cL_law 87 = .ok (.invokestatic 8, 3) := by decide +kernel
theorem dL_law_90 : decode cL_law 90 = .ok (.iload_n 3, 1) := by decide +kernel
theorem dL_law_91 : decode cL_law 91 = .ok (.bipush 8, 2) := by decide +kernel
theorem dL_law_93 : decode cL_law 93 = .ok (.ishr, 1) := by decide +kernel
theorem dL_law_94 : decode cL_law 94 = .ok (.bipush 19, 2) := by decide +kernel
theorem dL_law_96 : decode cL_law 96 = .ok (.invokestatic 8, 3) := by decide +kernel
theorem dL_law_99 : decode cL_law 99 = .ok (.bipush 9, 2) := by decide +kernel
theorem dL_law_101 : decode cL_law 101 = .ok (.isub, 1) := by decide +kernel
theorem dL_law_102 : decode cL_law 102 = .ok (.invokestatic 86, 3) := by decide +kernel
theorem dL_law_105 : decode cL_law 105 = .ok (.ifCond .eq 51, 3) := by decide +kernel
theorem dL_law_108 : decode cL_law 108 = .ok (.iload_n 2, 1) := by decide +kernel
theorem dL_law_109 : decode cL_law 109 = .ok (.iconst 4, 1) := by decide +kernel
theorem dL_law_110 : decode cL_law 110 = .ok (.irem, 1) := by decide +kernel
theorem dL_law_111 : decode cL_law 111 = .ok (.iconst 1, 1) := by decide +kernel
theorem dL_law_112 : decode cL_law 112 = .ok (.if_icmp .ne 10, 3) := by decide +kernel
theorem dL_law_115 : decode cL_law 115 = .ok (.aload_n 1, 1) := by decide +kernel
theorem dL_law_116 : decode cL_law 116 = .ok (.invokestatic 90, 3) := by decide +kernel
theorem dL_law_119 : decode cL_law 119 = .ok (.ifCond .eq 37, 3) := by decide +kernel
theorem dL_law_122 : decode cL_law 122 = .ok (.iload_n 2, 1) := by decide +kernel
theorem dL_law_123 : decode cL_law 123 = .ok (.iconst 3, 1) := by decide +kernel
theorem dL_law_124 : decode cL_law 124 = .ok (.irem, 1) := by decide +kernel
theorem dL_law_125 : decode cL_law 125 = .ok (.iconst 2, 1) := by decide +kernel
theorem dL_law_126 : decode cL_law 126 = .ok (.if_icmp .ne 10, 3) := by decide +kernel
theorem dL_law_129 : decode cL_law 129 = .ok (.aload_n 1, 1) := by decide +kernel
theorem dL_law_130 : decode cL_law 130 = .ok (.invokestatic 94, 3) := by decide +kernel
theorem dL_law_133 : decode cL_law 133 = .ok (.ifCond .eq 23, 3) := by decide +kernel
theorem dL_law_136 : decode cL_law 136 = .ok (.iload_n 2, 1) := by decide +kernel
theorem dL_law_137 : decode cL_law 137 = .ok (.iconst 5, 1) := by decide +kernel
theorem dL_law_138 : decode cL_law 138 = .ok (.irem, 1) := by decide +kernel
theorem dL_law_139 : decode cL_law 139 = .ok (.iconst 3, 1) := by decide +kernel
theorem dL_law_140 : decode cL_law 140 = .ok (.if_icmp .ne 18, 3) := by decide +kernel
theorem dL_law_143 : decode cL_law 143 = .ok (.aload_n 1, 1) := by decide +kernel
theorem dL_law_144 : decode cL_law 144 = .ok (.iload_n 3, 1) := by decide +kernel
theorem dL_law_145 : decode cL_law 145 = .ok (.ldc 97, 2) := by decide +kernel
theorem dL_law_147 : decode cL_law 147 = .ok (.invokestatic 8, 3) := by decide +kernel
theorem dL_law_150 : decode cL_law 150 = .ok (.invokestatic 98, 3) := by decide +kernel
theorem dL_law_153 : decode cL_law 153 = .ok (.ifCond .ne 5, 3) := by decide +kernel
theorem dL_law_156 : decode cL_law 156 = .ok (.iconst 0, 1) := by decide +kernel
theorem dL_law_157 : decode cL_law 157 = .ok (.ireturn, 1) := by decide +kernel
theorem dL_law_158 : decode cL_law 158 = .ok (.iinc 2 1, 3) := by decide +kernel
theorem dL_law_161 : decode cL_law 161 = .ok (.goto (-151), 3) := by decide +kernel
theorem dL_law_164 : decode cL_law 164 = .ok (.iconst 1, 1) := by decide +kernel
theorem dL_law_165 : decode cL_law 165 = .ok (.ireturn, 1) := by decide +kernel
end
section
/-! my own layer: gG = the machine at a pc, with a world, a list of locals and a stack; gC = what stays through a method's body -/
section GL
variable {p : Program} {l : Launch} {e : Env} {R : Room} {s : State} {m : MethodId} {args : Array Value} {below : List Frame} {meth : Method} {c : Code} {cc : ByteArray} {own : String} {Ts : List Cond} {D : va_G} {cl : List vw_C} {tys : List (ClassId × FieldType)} {A : Nat → Prop} {H0 : Heap} {nL : Nat} {Q : State → Prop} {k n : Nat} {ws : va_W} {pc : Nat} {lv : List (Nat × Value)} {st : List Value}
def gG (p : Program) (l : Launch) (e : Env) (R : Room) (s : State) (m : MethodId) (args : Array Value) (below : List Frame) (meth : Method) (c : Code) (D : va_G) (cl : List vw_C) (A : Nat → Prop) (H0 : Heap) (nL : Nat) (Q : State → Prop) (k n : Nat) (ws : va_W) (pc : Nat) (lv : List (Nat × Value)) (st : List Value) : Prop :=
  ∀ (H : Heap) (locs : List Loc) (ls : Array Slot), va_P D cl ws H → va_D A ws → va_S A H0 H locs → lv_has ls nL lv → W p l e R s m args below meth c H locs k n Q (F0 m pc ls st)
def gC (p : Program) (s : State) (m : MethodId) (args : Array Value) (c : Code) (cc : ByteArray) (own : String) (Ts : List Cond) (D : va_G) (cl : List vw_C) (tys : List (ClassId × FieldType)) (A : Nat → Prop) (H0 : Heap) (nL : Nat) : Prop :=
  p.tables.exec = Jvm.exec ∧ c.code = cc ∧ c.maxLocals = nL ∧ s.vm.findClass own = some m.cls ∧ (∀ w ∈ Ts, w.before args s = true) ∧ va_K D cl tys s ∧ ∀ q : Nat, H0.size ≤ q → A q
theorem g_iconst (C : gC p s m args c cc own Ts D cl tys A H0 nL) {z : Int} {v : Int32} (d : decode cc pc = .ok (.iconst z, 1)) (hv : Int32.ofInt z = v)
    (kk : gG p l e R s m args below meth c D cl A H0 nL Q k n (ws) (pc + 1) (lv) (.int v :: st)) : gG p l e R s m args below meth c D cl A H0 nL Q k n (ws) (pc) (lv) (st) := fun H locs ls hP hD hS hl => lv_iconst C.1 C.2.1 d hv (kk H locs ls hP hD hS hl)
theorem g_bipush (C : gC p s m args c cc own Ts D cl tys A H0 nL) {z : Int} {v : Int32} (d : decode cc pc = .ok (.bipush z, 2)) (hv : (Int8.ofInt z).toInt32 = v)
    (kk : gG p l e R s m args below meth c D cl A H0 nL Q k n (ws) (pc + 2) (lv) (.int v :: st)) : gG p l e R s m args below meth c D cl A H0 nL Q k n (ws) (pc) (lv) (st) := fun H locs ls hP hD hS hl => lv_bipush C.1 C.2.1 d hv (kk H locs ls hP hD hS hl)
theorem g_sipush (C : gC p s m args c cc own Ts D cl tys A H0 nL) {z : Int} {v : Int32} (d : decode cc pc = .ok (.sipush z, 3)) (hv : (Int16.ofInt z).toInt32 = v)
    (kk : gG p l e R s m args below meth c D cl A H0 nL Q k n (ws) (pc + 3) (lv) (.int v :: st)) : gG p l e R s m args below meth c D cl A H0 nL Q k n (ws) (pc) (lv) (st) := fun H locs ls hP hD hS hl => lv_sipush C.1 C.2.1 d hv (kk H locs ls hP hD hS hl)
theorem g_lconst (C : gC p s m args c cc own Ts D cl tys A H0 nL) {z : Fin 2} {v : Int64} (d : decode cc pc = .ok (.lconst z, 1)) (hv : Int64.ofNat (z : Nat) = v)
    (kk : gG p l e R s m args below meth c D cl A H0 nL Q k n (ws) (pc + 1) (lv) (.long v :: st)) : gG p l e R s m args below meth c D cl A H0 nL Q k n (ws) (pc) (lv) (st) := fun H locs ls hP hD hS hl => lv_lconst C.1 C.2.1 d hv (kk H locs ls hP hD hS hl)
theorem g_iload_n (C : gC p s m args c cc own Ts D cl tys A H0 nL) {z : Fin 4} {x : Int32} (d : decode cc pc = .ok (.iload_n z, 1)) (q : Nat) (hq : lv[q]? = some ((z : Nat), .int x))
    (kk : gG p l e R s m args below meth c D cl A H0 nL Q k n (ws) (pc + 1) (lv) (.int x :: st)) : gG p l e R s m args below meth c D cl A H0 nL Q k n (ws) (pc) (lv) (st) := fun H locs ls hP hD hS hl => lv_iload_n C.1 C.2.1 d rfl (lv_at hl q hq) (kk H locs ls hP hD hS hl)
theorem g_iload (C : gC p s m args c cc own Ts D cl tys A H0 nL) {i : Nat} {x : Int32} (d : decode cc pc = .ok (.iload i, 2)) (q : Nat) (hq : lv[q]? = some (i, .int x))
    (kk : gG p l e R s m args below meth c D cl A H0 nL Q k n (ws) (pc + 2) (lv) (.int x :: st)) : gG p l e R s m args below meth c D cl A H0 nL Q k n (ws) (pc) (lv) (st) := fun H locs ls hP hD hS hl => lv_iload C.1 C.2.1 d (lv_at hl q hq) (kk H locs ls hP hD hS hl)
theorem g_istore_n (C : gC p s m args c cc own Ts D cl tys A H0 nL) {z : Fin 4} {i : Nat} {x : Int32} {lv' : List (Nat × Value)} (d : decode cc pc = .ok (.istore_n z, 1)) (hi : (z : Nat) = i) (hn : i < nL) (hl' : (i, Value.int x) :: lv.filter (fun q => !(q.1 == i) && !(q.1 + 1 == i && q.2.category == 2)) = lv')
    (kk : gG p l e R s m args below meth c D cl A H0 nL Q k n (ws) (pc + 1) (lv') (st)) : gG p l e R s m args below meth c D cl A H0 nL Q k n (ws) (pc) (lv) (.int x :: st) := fun H locs ls hP hD hS hl => lv_istore_n C.1 C.2.1 d hi hl hn hl' (fun ls' h' => kk H locs ls' hP hD hS h')
theorem g_istore (C : gC p s m args c cc own Ts D cl tys A H0 nL) {i : Nat} {x : Int32} {lv' : List (Nat × Value)} (d : decode cc pc = .ok (.istore i, 2)) (hn : i < nL) (hl' : (i, Value.int x) :: lv.filter (fun q => !(q.1 == i) && !(q.1 + 1 == i && q.2.category == 2)) = lv')
    (kk : gG p l e R s m args below meth c D cl A H0 nL Q k n (ws) (pc + 2) (lv') (st)) : gG p l e R s m args below meth c D cl A H0 nL Q k n (ws) (pc) (lv) (.int x :: st) := fun H locs ls hP hD hS hl => lv_istore C.1 C.2.1 d hl hn hl' (fun ls' h' => kk H locs ls' hP hD hS h')
theorem g_lload_n (C : gC p s m args c cc own Ts D cl tys A H0 nL) {z : Fin 4} {x : Int64} (d : decode cc pc = .ok (.lload_n z, 1)) (q : Nat) (hq : lv[q]? = some ((z : Nat), .long x))
    (kk : gG p l e R s m args below meth c D cl A H0 nL Q k n (ws) (pc + 1) (lv) (.long x :: st)) : gG p l e R s m args below meth c D cl A H0 nL Q k n (ws) (pc) (lv) (st) := fun H locs ls hP hD hS hl => lv_lload_n C.1 C.2.1 d rfl (lv_at hl q hq) (kk H locs ls hP hD hS hl)
theorem g_lload (C : gC p s m args c cc own Ts D cl tys A H0 nL) {i : Nat} {x : Int64} (d : decode cc pc = .ok (.lload i, 2)) (q : Nat) (hq : lv[q]? = some (i, .long x))
    (kk : gG p l e R s m args below meth c D cl A H0 nL Q k n (ws) (pc + 2) (lv) (.long x :: st)) : gG p l e R s m args below meth c D cl A H0 nL Q k n (ws) (pc) (lv) (st) := fun H locs ls hP hD hS hl => lv_lload C.1 C.2.1 d (lv_at hl q hq) (kk H locs ls hP hD hS hl)
theorem g_lstore_n (C : gC p s m args c cc own Ts D cl tys A H0 nL) {z : Fin 4} {i : Nat} {x : Int64} {lv' : List (Nat × Value)} (d : decode cc pc = .ok (.lstore_n z, 1)) (hi : (z : Nat) = i) (hn : i + 1 < nL) (hl' : (i, Value.long x) :: lv.filter (fun q => !(q.1 == i) && (!(q.1 == i + 1) && !(q.1 + 1 == i && q.2.category == 2))) = lv')
    (kk : gG p l e R s m args below meth c D cl A H0 nL Q k n (ws) (pc + 1) (lv') (st)) : gG p l e R s m args below meth c D cl A H0 nL Q k n (ws) (pc) (lv) (.long x :: st) := fun H locs ls hP hD hS hl => lv_lstore_n C.1 C.2.1 d hi hl hn hl' (fun ls' h' => kk H locs ls' hP hD hS h')
theorem g_lstore (C : gC p s m args c cc own Ts D cl tys A H0 nL) {i : Nat} {x : Int64} {lv' : List (Nat × Value)} (d : decode cc pc = .ok (.lstore i, 2)) (hn : i + 1 < nL) (hl' : (i, Value.long x) :: lv.filter (fun q => !(q.1 == i) && (!(q.1 == i + 1) && !(q.1 + 1 == i && q.2.category == 2))) = lv')
    (kk : gG p l e R s m args below meth c D cl A H0 nL Q k n (ws) (pc + 2) (lv') (st)) : gG p l e R s m args below meth c D cl A H0 nL Q k n (ws) (pc) (lv) (.long x :: st) := fun H locs ls hP hD hS hl => lv_lstore C.1 C.2.1 d hl hn hl' (fun ls' h' => kk H locs ls' hP hD hS h')
theorem g_aload_n (C : gC p s m args c cc own Ts D cl tys A H0 nL) {z : Fin 4} {x : Nat} (d : decode cc pc = .ok (.aload_n z, 1)) (q : Nat) (hq : lv[q]? = some ((z : Nat), .ref x))
    (kk : gG p l e R s m args below meth c D cl A H0 nL Q k n (ws) (pc + 1) (lv) (.ref x :: st)) : gG p l e R s m args below meth c D cl A H0 nL Q k n (ws) (pc) (lv) (st) := fun H locs ls hP hD hS hl => lv_aload_n C.1 C.2.1 d rfl (lv_at hl q hq) (kk H locs ls hP hD hS hl)
theorem g_aload (C : gC p s m args c cc own Ts D cl tys A H0 nL) {i : Nat} {x : Nat} (d : decode cc pc = .ok (.aload i, 2)) (q : Nat) (hq : lv[q]? = some (i, .ref x))
    (kk : gG p l e R s m args below meth c D cl A H0 nL Q k n (ws) (pc + 2) (lv) (.ref x :: st)) : gG p l e R s m args below meth c D cl A H0 nL Q k n (ws) (pc) (lv) (st) := fun H locs ls hP hD hS hl => lv_aload C.1 C.2.1 d (lv_at hl q hq) (kk H locs ls hP hD hS hl)
theorem g_astore_n (C : gC p s m args c cc own Ts D cl tys A H0 nL) {z : Fin 4} {i : Nat} {x : Nat} {lv' : List (Nat × Value)} (d : decode cc pc = .ok (.astore_n z, 1)) (hi : (z : Nat) = i) (hn : i < nL) (hl' : (i, Value.ref x) :: lv.filter (fun q => !(q.1 == i) && !(q.1 + 1 == i && q.2.category == 2)) = lv')
    (kk : gG p l e R s m args below meth c D cl A H0 nL Q k n (ws) (pc + 1) (lv') (st)) : gG p l e R s m args below meth c D cl A H0 nL Q k n (ws) (pc) (lv) (.ref x :: st) := fun H locs ls hP hD hS hl => lv_astore_n C.1 C.2.1 d hi hl hn hl' (fun ls' h' => kk H locs ls' hP hD hS h')
theorem g_astore (C : gC p s m args c cc own Ts D cl tys A H0 nL) {i : Nat} {x : Nat} {lv' : List (Nat × Value)} (d : decode cc pc = .ok (.astore i, 2)) (hn : i < nL) (hl' : (i, Value.ref x) :: lv.filter (fun q => !(q.1 == i) && !(q.1 + 1 == i && q.2.category == 2)) = lv')
    (kk : gG p l e R s m args below meth c D cl A H0 nL Q k n (ws) (pc + 2) (lv') (st)) : gG p l e R s m args below meth c D cl A H0 nL Q k n (ws) (pc) (lv) (.ref x :: st) := fun H locs ls hP hD hS hl => lv_astore C.1 C.2.1 d hl hn hl' (fun ls' h' => kk H locs ls' hP hD hS h')
theorem g_dload_n (C : gC p s m args c cc own Ts D cl tys A H0 nL) {z : Fin 4} {x : UInt64} (d : decode cc pc = .ok (.dload_n z, 1)) (q : Nat) (hq : lv[q]? = some ((z : Nat), .double x))
    (kk : gG p l e R s m args below meth c D cl A H0 nL Q k n (ws) (pc + 1) (lv) (.double x :: st)) : gG p l e R s m args below meth c D cl A H0 nL Q k n (ws) (pc) (lv) (st) := fun H locs ls hP hD hS hl => lv_dload_n C.1 C.2.1 d rfl (lv_at hl q hq) (kk H locs ls hP hD hS hl)
theorem g_dload (C : gC p s m args c cc own Ts D cl tys A H0 nL) {i : Nat} {x : UInt64} (d : decode cc pc = .ok (.dload i, 2)) (q : Nat) (hq : lv[q]? = some (i, .double x))
    (kk : gG p l e R s m args below meth c D cl A H0 nL Q k n (ws) (pc + 2) (lv) (.double x :: st)) : gG p l e R s m args below meth c D cl A H0 nL Q k n (ws) (pc) (lv) (st) := fun H locs ls hP hD hS hl => lv_dload C.1 C.2.1 d (lv_at hl q hq) (kk H locs ls hP hD hS hl)
theorem g_dstore_n (C : gC p s m args c cc own Ts D cl tys A H0 nL) {z : Fin 4} {i : Nat} {x : UInt64} {lv' : List (Nat × Value)} (d : decode cc pc = .ok (.dstore_n z, 1)) (hi : (z : Nat) = i) (hn : i + 1 < nL) (hl' : (i, Value.double x) :: lv.filter (fun q => !(q.1 == i) && (!(q.1 == i + 1) && !(q.1 + 1 == i && q.2.category == 2))) = lv')
    (kk : gG p l e R s m args below meth c D cl A H0 nL Q k n (ws) (pc + 1) (lv') (st)) : gG p l e R s m args below meth c D cl A H0 nL Q k n (ws) (pc) (lv) (.double x :: st) := fun H locs ls hP hD hS hl => lv_dstore_n C.1 C.2.1 d hi hl hn hl' (fun ls' h' => kk H locs ls' hP hD hS h')
theorem g_dstore (C : gC p s m args c cc own Ts D cl tys A H0 nL) {i : Nat} {x : UInt64} {lv' : List (Nat × Value)} (d : decode cc pc = .ok (.dstore i, 2)) (hn : i + 1 < nL) (hl' : (i, Value.double x) :: lv.filter (fun q => !(q.1 == i) && (!(q.1 == i + 1) && !(q.1 + 1 == i && q.2.category == 2))) = lv')
    (kk : gG p l e R s m args below meth c D cl A H0 nL Q k n (ws) (pc + 2) (lv') (st)) : gG p l e R s m args below meth c D cl A H0 nL Q k n (ws) (pc) (lv) (.double x :: st) := fun H locs ls hP hD hS hl => lv_dstore C.1 C.2.1 d hl hn hl' (fun ls' h' => kk H locs ls' hP hD hS h')
theorem g_iinc (C : gC p s m args c cc own Ts D cl tys A H0 nL) {i : Nat} {z : Int} {x v : Int32} {lv' : List (Nat × Value)} (d : decode cc pc = .ok (.iinc i z, 3)) (q : Nat) (hq : lv[q]? = some (i, .int x)) (hv : x + Int32.ofInt z = v) (hn : i < nL) (hl' : (i, Value.int v) :: lv.filter (fun q => !(q.1 == i) && !(q.1 + 1 == i && q.2.category == 2)) = lv')
    (kk : gG p l e R s m args below meth c D cl A H0 nL Q k n (ws) (pc + 3) (lv') (st)) : gG p l e R s m args below meth c D cl A H0 nL Q k n (ws) (pc) (lv) (st) := fun H locs ls hP hD hS hl => lv_iinc C.1 C.2.1 d hl hq hv hn hl' (fun ls' h' => kk H locs ls' hP hD hS h')
theorem g_dconst0 (C : gC p s m args c cc own Ts D cl tys A H0 nL)  (d : decode cc pc = .ok (.dconst 0, 1)) 
    (kk : gG p l e R s m args below meth c D cl A H0 nL Q k n (ws) (pc + 1) (lv) (.double FP.dconst0 :: st)) : gG p l e R s m args below meth c D cl A H0 nL Q k n (ws) (pc) (lv) (st) := fun H locs ls hP hD hS hl => lv_dconst0 C.1 C.2.1 d (kk H locs ls hP hD hS hl)
theorem g_dconst1 (C : gC p s m args c cc own Ts D cl tys A H0 nL)  (d : decode cc pc = .ok (.dconst 1, 1)) 
    (kk : gG p l e R s m args below meth c D cl A H0 nL Q k n (ws) (pc + 1) (lv) (.double FP.dconst1 :: st)) : gG p l e R s m args below meth c D cl A H0 nL Q k n (ws) (pc) (lv) (st) := fun H locs ls hP hD hS hl => lv_dconst1 C.1 C.2.1 d (kk H locs ls hP hD hS hl)
theorem g_iadd (C : gC p s m args c cc own Ts D cl tys A H0 nL) {x y v : Int32} (d : decode cc pc = .ok (.iadd, 1)) (hv : x + y = v)
    (kk : gG p l e R s m args below meth c D cl A H0 nL Q k n (ws) (pc + 1) (lv) (.int v :: st)) : gG p l e R s m args below meth c D cl A H0 nL Q k n (ws) (pc) (lv) (.int y :: .int x :: st) := by subst hv; exact fun H locs ls hP hD hS hl => lv_iadd C.1 C.2.1 d (kk H locs ls hP hD hS hl)
theorem g_isub (C : gC p s m args c cc own Ts D cl tys A H0 nL) {x y v : Int32} (d : decode cc pc = .ok (.isub, 1)) (hv : x - y = v)
    (kk : gG p l e R s m args below meth c D cl A H0 nL Q k n (ws) (pc + 1) (lv) (.int v :: st)) : gG p l e R s m args below meth c D cl A H0 nL Q k n (ws) (pc) (lv) (.int y :: .int x :: st) := by subst hv; exact fun H locs ls hP hD hS hl => lv_isub C.1 C.2.1 d (kk H locs ls hP hD hS hl)
theorem g_imul (C : gC p s m args c cc own Ts D cl tys A H0 nL) {x y v : Int32} (d : decode cc pc = .ok (.imul, 1)) (hv : x * y = v)
    (kk : gG p l e R s m args below meth c D cl A H0 nL Q k n (ws) (pc + 1) (lv) (.int v :: st)) : gG p l e R s m args below meth c D cl A H0 nL Q k n (ws) (pc) (lv) (.int y :: .int x :: st) := by subst hv; exact fun H locs ls hP hD hS hl => lv_imul C.1 C.2.1 d (kk H locs ls hP hD hS hl)
theorem g_iand (C : gC p s m args c cc own Ts D cl tys A H0 nL) {x y v : Int32} (d : decode cc pc = .ok (.iand, 1)) (hv : x &&& y = v)
    (kk : gG p l e R s m args below meth c D cl A H0 nL Q k n (ws) (pc + 1) (lv) (.int v :: st)) : gG p l e R s m args below meth c D cl A H0 nL Q k n (ws) (pc) (lv) (.int y :: .int x :: st) := by subst hv; exact fun H locs ls hP hD hS hl => lv_iand C.1 C.2.1 d (kk H locs ls hP hD hS hl)
theorem g_idiv (C : gC p s m args c cc own Ts D cl tys A H0 nL) {x y v : Int32} (d : decode cc pc = .ok (.idiv, 1)) (hne : ¬ y = 0) (hv : x / y = v)
    (kk : gG p l e R s m args below meth c D cl A H0 nL Q k n (ws) (pc + 1) (lv) (.int v :: st)) : gG p l e R s m args below meth c D cl A H0 nL Q k n (ws) (pc) (lv) (.int y :: .int x :: st) := by subst hv; exact fun H locs ls hP hD hS hl => lv_idiv C.1 C.2.1 d hne (kk H locs ls hP hD hS hl)
theorem g_irem (C : gC p s m args c cc own Ts D cl tys A H0 nL) {x y v : Int32} (d : decode cc pc = .ok (.irem, 1)) (hne : ¬ y = 0) (hv : x - x / y * y = v)
    (kk : gG p l e R s m args below meth c D cl A H0 nL Q k n (ws) (pc + 1) (lv) (.int v :: st)) : gG p l e R s m args below meth c D cl A H0 nL Q k n (ws) (pc) (lv) (.int y :: .int x :: st) := by subst hv; exact fun H locs ls hP hD hS hl => lv_irem C.1 C.2.1 d hne (kk H locs ls hP hD hS hl)
theorem g_ineg (C : gC p s m args c cc own Ts D cl tys A H0 nL) {x v : Int32} (d : decode cc pc = .ok (.ineg, 1)) (hv : -x = v)
    (kk : gG p l e R s m args below meth c D cl A H0 nL Q k n (ws) (pc + 1) (lv) (.int v :: st)) : gG p l e R s m args below meth c D cl A H0 nL Q k n (ws) (pc) (lv) (.int x :: st) := by subst hv; exact fun H locs ls hP hD hS hl => lv_ineg C.1 C.2.1 d (kk H locs ls hP hD hS hl)
theorem g_ladd (C : gC p s m args c cc own Ts D cl tys A H0 nL) {x y v : Int64} (d : decode cc pc = .ok (.ladd, 1)) (hv : x + y = v)
    (kk : gG p l e R s m args below meth c D cl A H0 nL Q k n (ws) (pc + 1) (lv) (.long v :: st)) : gG p l e R s m args below meth c D cl A H0 nL Q k n (ws) (pc) (lv) (.long y :: .long x :: st) := by subst hv; exact fun H locs ls hP hD hS hl => lv_ladd C.1 C.2.1 d (kk H locs ls hP hD hS hl)
theorem g_lsub (C : gC p s m args c cc own Ts D cl tys A H0 nL) {x y v : Int64} (d : decode cc pc = .ok (.lsub, 1)) (hv : x - y = v)
    (kk : gG p l e R s m args below meth c D cl A H0 nL Q k n (ws) (pc + 1) (lv) (.long v :: st)) : gG p l e R s m args below meth c D cl A H0 nL Q k n (ws) (pc) (lv) (.long y :: .long x :: st) := by subst hv; exact fun H locs ls hP hD hS hl => lv_lsub C.1 C.2.1 d (kk H locs ls hP hD hS hl)
theorem g_lmul (C : gC p s m args c cc own Ts D cl tys A H0 nL) {x y v : Int64} (d : decode cc pc = .ok (.lmul, 1)) (hv : x * y = v)
    (kk : gG p l e R s m args below meth c D cl A H0 nL Q k n (ws) (pc + 1) (lv) (.long v :: st)) : gG p l e R s m args below meth c D cl A H0 nL Q k n (ws) (pc) (lv) (.long y :: .long x :: st) := by subst hv; exact fun H locs ls hP hD hS hl => lv_lmul C.1 C.2.1 d (kk H locs ls hP hD hS hl)
theorem g_i2l (C : gC p s m args c cc own Ts D cl tys A H0 nL) {x : Int32} {v : Int64} (d : decode cc pc = .ok (.i2l, 1)) (hv : x.toInt64 = v)
    (kk : gG p l e R s m args below meth c D cl A H0 nL Q k n (ws) (pc + 1) (lv) (.long v :: st)) : gG p l e R s m args below meth c D cl A H0 nL Q k n (ws) (pc) (lv) (.int x :: st) := fun H locs ls hP hD hS hl => lv_i2l C.1 C.2.1 d hv (kk H locs ls hP hD hS hl)
theorem g_lshl (C : gC p s m args c cc own Ts D cl tys A H0 nL) {x v : Int64} {y : Int32} (d : decode cc pc = .ok (.lshl, 1)) (hv : x <<< (y.toInt64 &&& 63) = v)
    (kk : gG p l e R s m args below meth c D cl A H0 nL Q k n (ws) (pc + 1) (lv) (.long v :: st)) : gG p l e R s m args below meth c D cl A H0 nL Q k n (ws) (pc) (lv) (.int y :: .long x :: st) := fun H locs ls hP hD hS hl => lv_lshl C.1 C.2.1 d hv (kk H locs ls hP hD hS hl)
theorem g_dup (C : gC p s m args c cc own Ts D cl tys A H0 nL) {va : Value} (d : decode cc pc = .ok (.dup, 1)) (h1 : va.category = 1)
    (kk : gG p l e R s m args below meth c D cl A H0 nL Q k n (ws) (pc + 1) (lv) (va :: va :: st)) : gG p l e R s m args below meth c D cl A H0 nL Q k n (ws) (pc) (lv) (va :: st) := fun H locs ls hP hD hS hl => lv_dup C.1 C.2.1 d h1 (kk H locs ls hP hD hS hl)
theorem g_pop (C : gC p s m args c cc own Ts D cl tys A H0 nL) {va : Value} (d : decode cc pc = .ok (.pop, 1)) (h1 : va.category = 1)
    (kk : gG p l e R s m args below meth c D cl A H0 nL Q k n (ws) (pc + 1) (lv) (st)) : gG p l e R s m args below meth c D cl A H0 nL Q k n (ws) (pc) (lv) (va :: st) := fun H locs ls hP hD hS hl => lv_pop C.1 C.2.1 d h1 (kk H locs ls hP hD hS hl)
theorem g_dup2 (C : gC p s m args c cc own Ts D cl tys A H0 nL) {va vb : Value} (d : decode cc pc = .ok (.dup2, 1)) (h1 : va.category = 1) (h2 : vb.category = 1)
    (kk : gG p l e R s m args below meth c D cl A H0 nL Q k n (ws) (pc + 1) (lv) (va :: vb :: va :: vb :: st)) : gG p l e R s m args below meth c D cl A H0 nL Q k n (ws) (pc) (lv) (va :: vb :: st) := fun H locs ls hP hD hS hl => lv_dup2_11 C.1 C.2.1 d h1 h2 (kk H locs ls hP hD hS hl)
theorem g_i2d (C : gC p s m args c cc own Ts D cl tys A H0 nL) {x : Int32} {v : UInt64} (d : decode cc pc = .ok (.i2d, 1)) (hv : FP.i2d x = v)
    (kk : gG p l e R s m args below meth c D cl A H0 nL Q k n (ws) (pc + 1) (lv) (.double v :: st)) : gG p l e R s m args below meth c D cl A H0 nL Q k n (ws) (pc) (lv) (.int x :: st) := by subst hv; exact fun H locs ls hP hD hS hl => lv_i2d C.1 C.2.1 d (kk H locs ls hP hD hS hl)
theorem g_d2l (C : gC p s m args c cc own Ts D cl tys A H0 nL) {x : UInt64} {v : Int64} (d : decode cc pc = .ok (.d2l, 1)) (hv : FP.d2l x = v)
    (kk : gG p l e R s m args below meth c D cl A H0 nL Q k n (ws) (pc + 1) (lv) (.long v :: st)) : gG p l e R s m args below meth c D cl A H0 nL Q k n (ws) (pc) (lv) (.double x :: st) := by subst hv; exact fun H locs ls hP hD hS hl => lv_d2l C.1 C.2.1 d (kk H locs ls hP hD hS hl)
theorem g_dmul (C : gC p s m args c cc own Ts D cl tys A H0 nL) {x y v : UInt64} (d : decode cc pc = .ok (.dmul, 1)) (hne : vf_n64 (FP.dmul x y)) (hv : FP.dmul x y = v)
    (kk : gG p l e R s m args below meth c D cl A H0 nL Q k n (ws) (pc + 1) (lv) (.double v :: st)) : gG p l e R s m args below meth c D cl A H0 nL Q k n (ws) (pc) (lv) (.double y :: .double x :: st) := by subst hv; exact fun H locs ls hP hD hS hl => lv_dmul C.1 C.2.1 d hne (kk H locs ls hP hD hS hl)
theorem g_dsub (C : gC p s m args c cc own Ts D cl tys A H0 nL) {x y v : UInt64} (d : decode cc pc = .ok (.dsub, 1)) (hne : vf_n64 (FP.dsub x y)) (hv : FP.dsub x y = v)
    (kk : gG p l e R s m args below meth c D cl A H0 nL Q k n (ws) (pc + 1) (lv) (.double v :: st)) : gG p l e R s m args below meth c D cl A H0 nL Q k n (ws) (pc) (lv) (.double y :: .double x :: st) := by subst hv; exact fun H locs ls hP hD hS hl => lv_dsub C.1 C.2.1 d hne (kk H locs ls hP hD hS hl)
theorem g_ddiv (C : gC p s m args c cc own Ts D cl tys A H0 nL) {x y v : UInt64} (d : decode cc pc = .ok (.ddiv, 1)) (hne : vf_n64 (FP.ddiv x y)) (hv : FP.ddiv x y = v)
    (kk : gG p l e R s m args below meth c D cl A H0 nL Q k n (ws) (pc + 1) (lv) (.double v :: st)) : gG p l e R s m args below meth c D cl A H0 nL Q k n (ws) (pc) (lv) (.double y :: .double x :: st) := by subst hv; exact fun H locs ls hP hD hS hl => lv_ddiv C.1 C.2.1 d hne (kk H locs ls hP hD hS hl)
theorem g_dcmp (C : gC p s m args c cc own Ts D cl tys A H0 nL) {x y : UInt64} {op : CmpOp} {v : Int32} (d : decode cc pc = .ok (.dcmp op, 1)) (hv : Op.cmpValue (FP.dcmp x y) op = v)
    (kk : gG p l e R s m args below meth c D cl A H0 nL Q k n (ws) (pc + 1) (lv) (.int v :: st)) : gG p l e R s m args below meth c D cl A H0 nL Q k n (ws) (pc) (lv) (.double y :: .double x :: st) := by subst hv; exact fun H locs ls hP hD hS hl => lv_dcmp C.1 C.2.1 d (kk H locs ls hP hD hS hl)
theorem g_lcmp (C : gC p s m args c cc own Ts D cl tys A H0 nL) {x y : Int64} {v : Int32} (d : decode cc pc = .ok (.lcmp, 1)) (hv : lg_cmp x y = v)
    (kk : gG p l e R s m args below meth c D cl A H0 nL Q k n (ws) (pc + 1) (lv) (.int v :: st)) : gG p l e R s m args below meth c D cl A H0 nL Q k n (ws) (pc) (lv) (.long y :: .long x :: st) := by subst hv; exact fun H locs ls hP hD hS hl => W.lcmp C.1 C.2.1 d (kk H locs ls hP hD hS hl)
theorem g_if_eq (C : gC p s m args c cc own Ts D cl tys A H0 nL) {x : Int32} {off : Int} {tgt : Nat} (d : decode cc pc = .ok (.ifCond .eq off, 3)) (ht : (pc : Int) + off = (tgt : Int))
    (kt : x = 0 → gG p l e R s m args below meth c D cl A H0 nL Q k n (ws) (tgt) (lv) (st)) (kf : ¬ x = 0 → gG p l e R s m args below meth c D cl A H0 nL Q k n (ws) (pc + 3) (lv) (st)) : gG p l e R s m args below meth c D cl A H0 nL Q k n (ws) (pc) (lv) (.int x :: st) := fun H locs ls hP hD hS hl => lv_if_eq C.1 C.2.1 d ht (fun h => kt h H locs ls hP hD hS hl) (fun h => kf h H locs ls hP hD hS hl)
theorem g_icmp_eq (C : gC p s m args c cc own Ts D cl tys A H0 nL) {x y : Int32} {off : Int} {tgt : Nat} (d : decode cc pc = .ok (.if_icmp .eq off, 3)) (ht : (pc : Int) + off = (tgt : Int))
    (kt : x = y → gG p l e R s m args below meth c D cl A H0 nL Q k n (ws) (tgt) (lv) (st)) (kf : ¬ x = y → gG p l e R s m args below meth c D cl A H0 nL Q k n (ws) (pc + 3) (lv) (st)) : gG p l e R s m args below meth c D cl A H0 nL Q k n (ws) (pc) (lv) (.int y :: .int x :: st) := fun H locs ls hP hD hS hl => lv_icmp_eq C.1 C.2.1 d ht (fun h => kt h H locs ls hP hD hS hl) (fun h => kf h H locs ls hP hD hS hl)
theorem g_if_ne (C : gC p s m args c cc own Ts D cl tys A H0 nL) {x : Int32} {off : Int} {tgt : Nat} (d : decode cc pc = .ok (.ifCond .ne off, 3)) (ht : (pc : Int) + off = (tgt : Int))
    (kt : ¬ x = 0 → gG p l e R s m args below meth c D cl A H0 nL Q k n (ws) (tgt) (lv) (st)) (kf : x = 0 → gG p l e R s m args below meth c D cl A H0 nL Q k n (ws) (pc + 3) (lv) (st)) : gG p l e R s m args below meth c D cl A H0 nL Q k n (ws) (pc) (lv) (.int x :: st) := fun H locs ls hP hD hS hl => lv_if_ne C.1 C.2.1 d ht (fun h => kt h H locs ls hP hD hS hl) (fun h => kf h H locs ls hP hD hS hl)
theorem g_icmp_ne (C : gC p s m args c cc own Ts D cl tys A H0 nL) {x y : Int32} {off : Int} {tgt : Nat} (d : decode cc pc = .ok (.if_icmp .ne off, 3)) (ht : (pc : Int) + off = (tgt : Int))
    (kt : ¬ x = y → gG p l e R s m args below meth c D cl A H0 nL Q k n (ws) (tgt) (lv) (st)) (kf : x = y → gG p l e R s m args below meth c D cl A H0 nL Q k n (ws) (pc + 3) (lv) (st)) : gG p l e R s m args below meth c D cl A H0 nL Q k n (ws) (pc) (lv) (.int y :: .int x :: st) := fun H locs ls hP hD hS hl => lv_icmp_ne C.1 C.2.1 d ht (fun h => kt h H locs ls hP hD hS hl) (fun h => kf h H locs ls hP hD hS hl)
theorem g_if_lt (C : gC p s m args c cc own Ts D cl tys A H0 nL) {x : Int32} {off : Int} {tgt : Nat} (d : decode cc pc = .ok (.ifCond .lt off, 3)) (ht : (pc : Int) + off = (tgt : Int))
    (kt : x < 0 → gG p l e R s m args below meth c D cl A H0 nL Q k n (ws) (tgt) (lv) (st)) (kf : ¬ x < 0 → gG p l e R s m args below meth c D cl A H0 nL Q k n (ws) (pc + 3) (lv) (st)) : gG p l e R s m args below meth c D cl A H0 nL Q k n (ws) (pc) (lv) (.int x :: st) := fun H locs ls hP hD hS hl => lv_if_lt C.1 C.2.1 d ht (fun h => kt h H locs ls hP hD hS hl) (fun h => kf h H locs ls hP hD hS hl)
theorem g_icmp_lt (C : gC p s m args c cc own Ts D cl tys A H0 nL) {x y : Int32} {off : Int} {tgt : Nat} (d : decode cc pc = .ok (.if_icmp .lt off, 3)) (ht : (pc : Int) + off = (tgt : Int))
    (kt : x < y → gG p l e R s m args below meth c D cl A H0 nL Q k n (ws) (tgt) (lv) (st)) (kf : ¬ x < y → gG p l e R s m args below meth c D cl A H0 nL Q k n (ws) (pc + 3) (lv) (st)) : gG p l e R s m args below meth c D cl A H0 nL Q k n (ws) (pc) (lv) (.int y :: .int x :: st) := fun H locs ls hP hD hS hl => lv_icmp_lt C.1 C.2.1 d ht (fun h => kt h H locs ls hP hD hS hl) (fun h => kf h H locs ls hP hD hS hl)
theorem g_if_ge (C : gC p s m args c cc own Ts D cl tys A H0 nL) {x : Int32} {off : Int} {tgt : Nat} (d : decode cc pc = .ok (.ifCond .ge off, 3)) (ht : (pc : Int) + off = (tgt : Int))
    (kt : 0 ≤ x → gG p l e R s m args below meth c D cl A H0 nL Q k n (ws) (tgt) (lv) (st)) (kf : ¬ 0 ≤ x → gG p l e R s m args below meth c D cl A H0 nL Q k n (ws) (pc + 3) (lv) (st)) : gG p l e R s m args below meth c D cl A H0 nL Q k n (ws) (pc) (lv) (.int x :: st) := fun H locs ls hP hD hS hl => lv_if_ge C.1 C.2.1 d ht (fun h => kt h H locs ls hP hD hS hl) (fun h => kf h H locs ls hP hD hS hl)
theorem g_icmp_ge (C : gC p s m args c cc own Ts D cl tys A H0 nL) {x y : Int32} {off : Int} {tgt : Nat} (d : decode cc pc = .ok (.if_icmp .ge off, 3)) (ht : (pc : Int) + off = (tgt : Int))
    (kt : y ≤ x → gG p l e R s m args below meth c D cl A H0 nL Q k n (ws) (tgt) (lv) (st)) (kf : ¬ y ≤ x → gG p l e R s m args below meth c D cl A H0 nL Q k n (ws) (pc + 3) (lv) (st)) : gG p l e R s m args below meth c D cl A H0 nL Q k n (ws) (pc) (lv) (.int y :: .int x :: st) := fun H locs ls hP hD hS hl => lv_icmp_ge C.1 C.2.1 d ht (fun h => kt h H locs ls hP hD hS hl) (fun h => kf h H locs ls hP hD hS hl)
theorem g_if_gt (C : gC p s m args c cc own Ts D cl tys A H0 nL) {x : Int32} {off : Int} {tgt : Nat} (d : decode cc pc = .ok (.ifCond .gt off, 3)) (ht : (pc : Int) + off = (tgt : Int))
    (kt : 0 < x → gG p l e R s m args below meth c D cl A H0 nL Q k n (ws) (tgt) (lv) (st)) (kf : ¬ 0 < x → gG p l e R s m args below meth c D cl A H0 nL Q k n (ws) (pc + 3) (lv) (st)) : gG p l e R s m args below meth c D cl A H0 nL Q k n (ws) (pc) (lv) (.int x :: st) := fun H locs ls hP hD hS hl => lv_if_gt C.1 C.2.1 d ht (fun h => kt h H locs ls hP hD hS hl) (fun h => kf h H locs ls hP hD hS hl)
theorem g_icmp_gt (C : gC p s m args c cc own Ts D cl tys A H0 nL) {x y : Int32} {off : Int} {tgt : Nat} (d : decode cc pc = .ok (.if_icmp .gt off, 3)) (ht : (pc : Int) + off = (tgt : Int))
    (kt : y < x → gG p l e R s m args below meth c D cl A H0 nL Q k n (ws) (tgt) (lv) (st)) (kf : ¬ y < x → gG p l e R s m args below meth c D cl A H0 nL Q k n (ws) (pc + 3) (lv) (st)) : gG p l e R s m args below meth c D cl A H0 nL Q k n (ws) (pc) (lv) (.int y :: .int x :: st) := fun H locs ls hP hD hS hl => lv_icmp_gt C.1 C.2.1 d ht (fun h => kt h H locs ls hP hD hS hl) (fun h => kf h H locs ls hP hD hS hl)
theorem g_if_le (C : gC p s m args c cc own Ts D cl tys A H0 nL) {x : Int32} {off : Int} {tgt : Nat} (d : decode cc pc = .ok (.ifCond .le off, 3)) (ht : (pc : Int) + off = (tgt : Int))
    (kt : x ≤ 0 → gG p l e R s m args below meth c D cl A H0 nL Q k n (ws) (tgt) (lv) (st)) (kf : ¬ x ≤ 0 → gG p l e R s m args below meth c D cl A H0 nL Q k n (ws) (pc + 3) (lv) (st)) : gG p l e R s m args below meth c D cl A H0 nL Q k n (ws) (pc) (lv) (.int x :: st) := fun H locs ls hP hD hS hl => lv_if_le C.1 C.2.1 d ht (fun h => kt h H locs ls hP hD hS hl) (fun h => kf h H locs ls hP hD hS hl)
theorem g_icmp_le (C : gC p s m args c cc own Ts D cl tys A H0 nL) {x y : Int32} {off : Int} {tgt : Nat} (d : decode cc pc = .ok (.if_icmp .le off, 3)) (ht : (pc : Int) + off = (tgt : Int))
    (kt : x ≤ y → gG p l e R s m args below meth c D cl A H0 nL Q k n (ws) (tgt) (lv) (st)) (kf : ¬ x ≤ y → gG p l e R s m args below meth c D cl A H0 nL Q k n (ws) (pc + 3) (lv) (st)) : gG p l e R s m args below meth c D cl A H0 nL Q k n (ws) (pc) (lv) (.int y :: .int x :: st) := fun H locs ls hP hD hS hl => lv_icmp_le C.1 C.2.1 d ht (fun h => kt h H locs ls hP hD hS hl) (fun h => kf h H locs ls hP hD hS hl)
theorem g_goto (C : gC p s m args c cc own Ts D cl tys A H0 nL) {off : Int} {tgt : Nat} (d : decode cc pc = .ok (.goto off, 3)) (ht : (pc : Int) + off = (tgt : Int))
    (kk : gG p l e R s m args below meth c D cl A H0 nL Q k n (ws) (tgt) (lv) (st)) : gG p l e R s m args below meth c D cl A H0 nL Q k n (ws) (pc) (lv) (st) := fun H locs ls hP hD hS hl => lv_goto C.1 C.2.1 d ht (kk H locs ls hP hD hS hl)
theorem g_ldc (C : gC p s m args c cc own Ts D cl tys A H0 nL) {index : Nat} {v : Int32} (d : decode cc pc = .ok (.ldc index, 2)) (hw : Jvm.Cond.constant own index v ∈ Ts)
    (kk : gG p l e R s m args below meth c D cl A H0 nL Q k n (ws) (pc + 2) (lv) (.int v :: st)) : gG p l e R s m args below meth c D cl A H0 nL Q k n (ws) (pc) (lv) (st) := fun H locs ls hP hD hS hl => lv_ldc C.1 C.2.1 C.2.2.2.1 (C.2.2.2.2.1 _ hw) d (kk H locs ls hP hD hS hl)
theorem g_ldc2 (C : gC p s m args c cc own Ts D cl tys A H0 nL) {index : Nat} {v : Int64} (d : decode cc pc = .ok (.ldc2_w index, 3)) (hw : Jvm.Cond.constantLong own index v ∈ Ts)
    (kk : gG p l e R s m args below meth c D cl A H0 nL Q k n (ws) (pc + 3) (lv) (.long v :: st)) : gG p l e R s m args below meth c D cl A H0 nL Q k n (ws) (pc) (lv) (st) := fun H locs ls hP hD hS hl => lv_ldc2 C.1 C.2.1 C.2.2.2.1 (C.2.2.2.2.1 _ hw) d (kk H locs ls hP hD hS hl)
theorem g_ldc2d (C : gC p s m args c cc own Ts D cl tys A H0 nL) {index : Nat} {v : UInt64} (d : decode cc pc = .ok (.ldc2_w index, 3)) (hw : Jvm.Cond.constantDouble own index v ∈ Ts)
    (kk : gG p l e R s m args below meth c D cl A H0 nL Q k n (ws) (pc + 3) (lv) (.double v :: st)) : gG p l e R s m args below meth c D cl A H0 nL Q k n (ws) (pc) (lv) (st) := fun H locs ls hP hD hS hl => lv_ldc2d C.1 C.2.1 C.2.2.2.1 (C.2.2.2.2.1 _ hw) d (kk H locs ls hP hD hS hl)
theorem g_tableIn (C : gC p s m args c cc own Ts D cl tys A H0 nL) {dflt lo hi : Int} {offs : Array Int} {len : Nat} {x : Int32} {off : Int} {tgt : Nat} (d : decode cc pc = .ok (.tableswitch dflt lo hi offs, len)) (h1 : ¬ x.toInt < lo) (h2 : ¬ hi < x.toInt) (ho : offs[(x.toInt - lo).toNat]? = some off) (ht : (pc : Int) + off = (tgt : Int))
    (kk : gG p l e R s m args below meth c D cl A H0 nL Q k n (ws) (tgt) (lv) (st)) : gG p l e R s m args below meth c D cl A H0 nL Q k n (ws) (pc) (lv) (.int x :: st) := fun H locs ls hP hD hS hl => lv_tableIn C.1 C.2.1 d h1 h2 ho ht (kk H locs ls hP hD hS hl)
theorem g_tableOut (C : gC p s m args c cc own Ts D cl tys A H0 nL) {dflt lo hi : Int} {offs : Array Int} {len : Nat} {x : Int32} {tgt : Nat} (d : decode cc pc = .ok (.tableswitch dflt lo hi offs, len)) (h : x.toInt < lo ∨ hi < x.toInt) (ht : (pc : Int) + dflt = (tgt : Int))
    (kk : gG p l e R s m args below meth c D cl A H0 nL Q k n (ws) (tgt) (lv) (st)) : gG p l e R s m args below meth c D cl A H0 nL Q k n (ws) (pc) (lv) (.int x :: st) := fun H locs ls hP hD hS hl => lv_tableOut C.1 C.2.1 d h ht (kk H locs ls hP hD hS hl)
theorem g_lv (ks : List Nat) {lv' : List (Nat × Value)} (hl' : lv_pick lv ks = lv') (kk : gG p l e R s m args below meth c D cl A H0 nL Q k n (ws) (pc) (lv') (st)) : gG p l e R s m args below meth c D cl A H0 nL Q k n (ws) (pc) (lv) (st) := fun H locs ls hP hD hS hl => kk H locs ls hP hD hS (lv_sub hl ks hl')
theorem g_ws {ws' : va_W} (h : ws = ws') (kk : gG p l e R s m args below meth c D cl A H0 nL Q k n (ws') (pc) (lv) (st)) : gG p l e R s m args below meth c D cl A H0 nL Q k n (ws) (pc) (lv) (st) := by subst h; exact kk
theorem g_pc {pc' : Nat} (h : pc = pc') (kk : gG p l e R s m args below meth c D cl A H0 nL Q k n (ws) (pc') (lv) (st)) : gG p l e R s m args below meth c D cl A H0 nL Q k n (ws) (pc) (lv) (st) := by subst h; exact kk
theorem g_perm (ps : List Nat) {ws' : va_W} (h1 : va_nd ps = true) (h2 : ps.map (fun i => ws[i]?) = ws'.map some) (h3 : ps.filterMap (fun i => ws[i]?) = ws') (kk : gG p l e R s m args below meth c D cl A H0 nL Q k n (ws') (pc) (lv) (st)) : gG p l e R s m args below meth c D cl A H0 nL Q k n (ws) (pc) (lv) (st) := fun H locs ls hP hD hS hl => kk H locs ls (hP.sub ps h3) (hD.sub ps h1 h2) hS hl
theorem g_wid {k' n' : Nat} (h1 : k ≤ k') (h2 : n ≤ n') (kk : gG p l e R s m args below meth c D cl A H0 nL Q k' n' (ws) (pc) (lv) (st)) : gG p l e R s m args below meth c D cl A H0 nL Q k n (ws) (pc) (lv) (st) := fun H locs ls hP hD hS hl => W.widen h1 h2 (kk H locs ls hP hD hS hl)
theorem g_get (C : gC p s m args c cc own Ts D cl tys A H0 nL) {C0 : String} {T : u_T} {N ci index a : Nat} {fs : List Value} {v : Value} (hin : ∀ w ∈ u_ws C0 T N, w ∈ Ts) (q0 : Nat) (he : ws[q0]? = some (a, .inr (ci, fs))) (hc : cl[ci]? = some (C0, T, N)) (j : Nat) (hj : j < N) (hlink : Cond.fieldLink own index (T j).1 (T j).2.1 (T j).2.2.1 ∈ Ts) (hv : fs[j]? = some v) (d : decode cc pc = .ok (.getfield index, 3))
    (kk : gG p l e R s m args below meth c D cl A H0 nL Q k n (ws) (pc + 3) (lv) (v :: st)) : gG p l e R s m args below meth c D cl A H0 nL Q k n (ws) (pc) (lv) (.ref a :: st) := fun H locs ls hP hD hS hl => va_get C.1 C.2.1 C.2.2.2.2.1 hin C.2.2.2.1 C.2.2.2.2.2.1 hP q0 he hc j hj (C.2.2.2.2.1 _ hlink) (fun _ h => h) hv d (kk H locs ls hP hD hS hl)
theorem g_put (C : gC p s m args c cc own Ts D cl tys A H0 nL) {C0 : String} {T : u_T} {N ci index a : Nat} {fs : List Value} {v : Value} {ty : FieldType} {ws' : va_W} (hin : ∀ w ∈ u_ws C0 T N, w ∈ Ts) (ty0 : Nat → FieldType) (hty : ∀ k, k < N → parseFieldDescriptor (T k).2.2.1 = some (ty0 k)) (hnm : ∀ a, a < N → ∀ b, b < N → a ≠ b → (T a).2.1 ≠ (T b).2.1) (q0 : Nat) (he : ws[q0]? = some (a, .inr (ci, fs))) (hc : cl[ci]? = some (C0, T, N)) (j : Nat) (hj : j < N) (hlink : Cond.fieldLink own index (T j).1 (T j).2.1 (T j).2.2.1 ∈ Ts) (hfin : (T j).2.2.2 = false) (hd : parseFieldDescriptor (T j).2.2.1 = some ty) (hnr : narrow ty v = v) (hfit : fits ty v = true) (hlt : j < fs.length) (d : decode cc pc = .ok (.putfield index, 3)) (hw : ws.set q0 (a, .inr (ci, fs.set j v)) = ws')
    (kk : gG p l e R s m args below meth c D cl A H0 nL Q k n (ws') (pc + 3) (lv) (st)) : gG p l e R s m args below meth c D cl A H0 nL Q k n (ws) (pc) (lv) (v :: .ref a :: st) := by
  subst hw
  exact fun H locs ls hP hD hS hl => va_put C.1 C.2.1 C.2.2.2.2.1 hin ty0 hty hnm C.2.2.2.1 C.2.2.2.2.2.1 hP hD hS q0 he hc j hj (C.2.2.2.2.1 _ hlink) (fun _ h => h) hfin hd hnr hfit hlt d (fun H1 locs1 hP1 hD1 hS1 => kk H1 locs1 ls hP1 hD1 hS1 hl)
theorem g_putF (C : gC p s m args c cc own Ts D cl tys A H0 nL) {C0 : String} {T : u_T} {N ci index a : Nat} {fs : List Value} {v : Value} {ty : FieldType} {ws' : va_W} (hin : ∀ w ∈ u_ws C0 T N, w ∈ Ts) (ty0 : Nat → FieldType) (hty : ∀ k, k < N → parseFieldDescriptor (T k).2.2.1 = some (ty0 k)) (hnm : ∀ a, a < N → ∀ b, b < N → a ≠ b → (T a).2.1 ≠ (T b).2.1) (q0 : Nat) (he : ws[q0]? = some (a, .inr (ci, fs))) (hc : cl[ci]? = some (C0, T, N)) (j : Nat) (hj : j < N) (hlink : Cond.fieldLink own index (T j).1 (T j).2.1 (T j).2.2.1 ∈ Ts) (hfin : (T j).2.2.2 = true) (hin2 : meth.name = "<init>") (hdecl : (T j).1 = own) (hd : parseFieldDescriptor (T j).2.2.1 = some ty) (hnr : narrow ty v = v) (hfit : fits ty v = true) (hlt : j < fs.length) (d : decode cc pc = .ok (.putfield index, 3)) (hw : ws.set q0 (a, .inr (ci, fs.set j v)) = ws')
    (kk : gG p l e R s m args below meth c D cl A H0 nL Q k n (ws') (pc + 3) (lv) (st)) : gG p l e R s m args below meth c D cl A H0 nL Q k n (ws) (pc) (lv) (v :: .ref a :: st) := by
  subst hw
  exact fun H locs ls hP hD hS hl => va_putF C.1 C.2.1 C.2.2.2.2.1 hin ty0 hty hnm C.2.2.2.1 C.2.2.2.2.2.1 hP hD hS q0 he hc j hj (C.2.2.2.2.1 _ hlink) (fun _ h => h) hfin hin2 hdecl hd hnr hfit hlt d (fun H1 locs1 hP1 hD1 hS1 => kk H1 locs1 ls hP1 hD1 hS1 hl)
theorem g_iald (C : gC p s m args c cc own Ts D cl tys A H0 nL) {a : Nat} {cA : ClassId} {N : Nat} {f : Nat → Int32} {i : Int32} {x : Int32} (q0 t0 : Nat) (ha : ws[q0]? = some (a, .inl (cA, N, .inl f))) (ht : tys[t0]? = some (cA, .int)) (j : Nat) (hi : i = nI j) (hj : j < N) (hN : N < 2 ^ 31) (hx : f j = x) (d : decode cc pc = .ok (.iaload, 1))
    (kk : gG p l e R s m args below meth c D cl A H0 nL Q k n (ws) (pc + 1) (lv) (.int x :: st)) : gG p l e R s m args below meth c D cl A H0 nL Q k n (ws) (pc) (lv) (.int i :: .ref a :: st) := by
  subst hi; subst hx
  intro H locs ls hP hD hS hl
  refine va_iald C.1 C.2.1 C.2.2.2.2.2.1 hP q0 t0 ha ht (vp_in_nI hj hN) d ?_
  rw [nI_clamp (Nat.lt_trans hj hN)]
  exact kk H locs ls hP hD hS hl
theorem g_lald (C : gC p s m args c cc own Ts D cl tys A H0 nL) {a : Nat} {cA : ClassId} {N : Nat} {f : Nat → Int64} {i : Int32} {x : Int64} (q0 t0 : Nat) (ha : ws[q0]? = some (a, .inl (cA, N, .inr (.inl f)))) (ht : tys[t0]? = some (cA, .long)) (j : Nat) (hi : i = nI j) (hj : j < N) (hN : N < 2 ^ 31) (hx : f j = x) (d : decode cc pc = .ok (.laload, 1))
    (kk : gG p l e R s m args below meth c D cl A H0 nL Q k n (ws) (pc + 1) (lv) (.long x :: st)) : gG p l e R s m args below meth c D cl A H0 nL Q k n (ws) (pc) (lv) (.int i :: .ref a :: st) := by
  subst hi; subst hx
  intro H locs ls hP hD hS hl
  refine va_lald C.1 C.2.1 C.2.2.2.2.2.1 hP q0 t0 ha ht (vp_in_nI hj hN) d ?_
  rw [nI_clamp (Nat.lt_trans hj hN)]
  exact kk H locs ls hP hD hS hl
theorem g_iast (C : gC p s m args c cc own Ts D cl tys A H0 nL) {a : Nat} {cA : ClassId} {N : Nat} {f : Nat → Int32} {i : Int32} {x : Int32} {ws' : va_W} (q0 t0 : Nat) (ha : ws[q0]? = some (a, .inl (cA, N, .inl f))) (ht : tys[t0]? = some (cA, .int)) (j : Nat) (hi : i = nI j) (hj : j < N) (hN : N < 2 ^ 31) (d : decode cc pc = .ok (.iastore, 1)) (hw : ws.set q0 (a, .inl (cA, N, .inl (upd f j x))) = ws')
    (kk : gG p l e R s m args below meth c D cl A H0 nL Q k n (ws') (pc + 1) (lv) (st)) : gG p l e R s m args below meth c D cl A H0 nL Q k n (ws) (pc) (lv) (.int x :: .int i :: .ref a :: st) := by
  subst hi; subst hw
  intro H locs ls hP hD hS hl
  refine va_iast C.1 C.2.1 C.2.2.2.2.2.1 hP hD hS q0 t0 ha ht (vp_in_nI hj hN) d ?_
  rw [nI_clamp (Nat.lt_trans hj hN)]
  exact fun H1 locs1 hP1 hD1 hS1 => kk H1 locs1 ls hP1 hD1 hS1 hl
theorem g_last (C : gC p s m args c cc own Ts D cl tys A H0 nL) {a : Nat} {cA : ClassId} {N : Nat} {f : Nat → Int64} {i : Int32} {x : Int64} {ws' : va_W} (q0 t0 : Nat) (ha : ws[q0]? = some (a, .inl (cA, N, .inr (.inl f)))) (ht : tys[t0]? = some (cA, .long)) (j : Nat) (hi : i = nI j) (hj : j < N) (hN : N < 2 ^ 31) (d : decode cc pc = .ok (.lastore, 1)) (hw : ws.set q0 (a, .inl (cA, N, .inr (.inl (vp_updL f j x)))) = ws')
    (kk : gG p l e R s m args below meth c D cl A H0 nL Q k n (ws') (pc + 1) (lv) (st)) : gG p l e R s m args below meth c D cl A H0 nL Q k n (ws) (pc) (lv) (.long x :: .int i :: .ref a :: st) := by
  subst hi; subst hw
  intro H locs ls hP hD hS hl
  refine va_last C.1 C.2.1 C.2.2.2.2.2.1 hP hD hS q0 t0 ha ht (vp_in_nI hj hN) d ?_
  rw [nI_clamp (Nat.lt_trans hj hN)]
  exact fun H1 locs1 hP1 hD1 hS1 => kk H1 locs1 ls hP1 hD1 hS1 hl
theorem g_aldq (C : gC p s m args c cc own Ts D cl tys A H0 nL) {a : Nat} {cA : ClassId} {N : Nat} {C0 : String} {f : Nat → Option Nat} {i : Int32} {x : Value} (q0 t0 : Nat) (ha : ws[q0]? = some (a, .inl (cA, N, .inr (.inr (.inr (.inr f)))))) (ht : tys[t0]? = some (cA, .object C0)) (j : Nat) (hi : i = nI j) (hj : j < N) (hN : N < 2 ^ 31) (hx : va_rf (f j) = x) (d : decode cc pc = .ok (.aaload, 1))
    (kk : gG p l e R s m args below meth c D cl A H0 nL Q k n (ws) (pc + 1) (lv) (x :: st)) : gG p l e R s m args below meth c D cl A H0 nL Q k n (ws) (pc) (lv) (.int i :: .ref a :: st) := by
  subst hi; subst hx
  intro H locs ls hP hD hS hl
  refine va_aldq C.1 C.2.1 C.2.2.2.2.2.1 hP q0 t0 ha ht (vp_in_nI hj hN) d ?_
  rw [nI_clamp (Nat.lt_trans hj hN)]
  exact kk H locs ls hP hD hS hl
theorem g_abs (C : gC p s m args c cc own Ts D cl tys A H0 nL) {index : Nat} {x v : Int32} (d : decode cc pc = .ok (.invokestatic index, 3)) (h1 : Cond.methodLink own index Lib.Math.abs.name ∈ Ts) (h2 : Cond.static Lib.Math.abs.name ∈ Ts) (h3 : Cond.initialized "java/lang/Math" ∈ Ts) (h4 : Cond.code Lib.Math.abs.name Lib.Math.abs.code 1 (some .int) ∈ Ts) (hf : 1 ≤ R.frames) (hlo : (st.map fun v => v.category).sum + 13 ≤ R.locals) (hc : k ≤ R.cells) (hs : n ≤ R.slots) (hv : (if 0 ≤ x then x else 0 - x) = v)
    (kk : gG p l e R s m args below meth c D cl A H0 nL Q k n (ws) (pc + 3) (lv) (.int v :: st)) : gG p l e R s m args below meth c D cl A H0 nL Q k n (ws) (pc) (lv) (.int x :: st) := by
  subst hv
  exact fun H locs ls hP hD hS hl => va_mabs C.1 C.2.1 (C.2.2.1.trans hl.1.symm) C.2.2.2.1 (C.2.2.2.2.1 _ h1) (C.2.2.2.2.1 _ h2) (C.2.2.2.2.1 _ h3) (C.2.2.2.2.1 _ h4) hf hlo hc hs d (kk H locs ls hP hD hS hl)
theorem g_objInit (C : gC p s m args c cc own Ts D cl tys A H0 nL) {index a : Nat} (d : decode cc pc = .ok (.invokespecial index, 3)) (h1 : Cond.methodLink own index Lib.objectInit ∈ Ts) (h2 : Cond.instanceMethod Lib.objectInit ∈ Ts) (h3 : Cond.code Lib.objectInit ⟨#[0xb1]⟩ 1 none ∈ Ts) (hf : 1 ≤ R.frames) (hlo : (st.map fun v => v.category).sum + 12 ≤ R.locals)
    (kk : gG p l e R s m args below meth c D cl A H0 nL Q k n (ws) (pc + 3) (lv) (st)) : gG p l e R s m args below meth c D cl A H0 nL Q k n (ws) (pc) (lv) (.ref a :: st) := by
  intro H locs ls hP hD hS hl
  refine W.objInit C.1 C.2.1 C.2.2.2.1 (C.2.2.2.2.1 _ h1) (C.2.2.2.2.1 _ h2) (C.2.2.2.2.1 _ h3) rfl (hl.1.trans C.2.2.1.symm) rfl d hf (by show 2 * 0 + _ + 12 ≤ _; omega) ?_
  exact kk H locs ls hP hD hS hl
end GL

section GW
variable {p : Program} {l : Launch} {e : Env} {R : Room} {s : State} {m : MethodId} {args : Array Value} {below : List Frame} {meth : Method} {c : Code} {D : va_G} {cl : List vw_C} {A : Nat → Prop} {H0 : Heap} {nL : Nat} {Q : State → Prop} {k n : Nat} {ws : va_W} {pc : Nat} {lv : List (Nat × Value)} {st : List Value}
theorem g_wsE {ws' : va_W} (h : ∀ H : Heap, va_P D cl ws H → va_P D cl ws' H) (h2 : va_D A ws → va_D A ws') (kk : gG p l e R s m args below meth c D cl A H0 nL Q k n ws' pc lv st) : gG p l e R s m args below meth c D cl A H0 nL Q k n ws pc lv st := fun H locs ls hP hD hS hl => kk H locs ls (h H hP) (h2 hD) hS hl
end GW
/-! worlds side by side -/
section WJ
variable {D : va_G} {cl : List vw_C} {A : Nat → Prop} {a b : va_W} {H H1 : Heap}
theorem wl_in {x y : va_W} {i : Nat} {q : Nat × va_E} (h : x[i]? = some q) : (x ++ y)[i]? = some q := by
  rw [List.getElem?_append_left (List.getElem?_eq_some_iff.mp h).1]; exact h
theorem wr_in {x y : va_W} {i : Nat} {q : Nat × va_E} (h : y[i]? = some q) : (x ++ y)[x.length + i]? = some q := by
  rw [List.getElem?_append_right (Nat.le_add_right _ _), Nat.add_sub_cancel_left]; exact h
theorem wP_l (h : va_P D cl (a ++ b) H) : va_P D cl a H := fun i q hq => h i q (wl_in hq)
theorem wP_r (h : va_P D cl (a ++ b) H) : va_P D cl b H := fun i q hq => h _ q (wr_in hq)
theorem wD_l (h : va_D A (a ++ b)) : va_D A a := ⟨fun i j p q hi hj he => h.1 i j p q (wl_in hi) (wl_in hj) he, fun i q hq => h.2 i q (wl_in hq)⟩
theorem wD_r (h : va_D A (a ++ b)) : va_D A b := ⟨fun i j p q hi hj he => by have := h.1 _ _ p q (wr_in (x := a) hi) (wr_in (x := a) hj) he; omega, fun i q hq => h.2 _ q (wr_in (x := a) hq)⟩
theorem wD_x (h : va_D A (a ++ b)) {i j : Nat} {p q : Nat × va_E} (hi : a[i]? = some p) (hj : b[j]? = some q) : p.1 ≠ q.1 := fun he => by
  have h1 := h.1 i _ p q (wl_in hi) (wr_in (x := a) hj) he
  have h2 := (List.getElem?_eq_some_iff.mp hi).1
  omega
theorem wD_xs (h : va_D A (a ++ b)) {i j : Nat} {p q : Nat × va_E} (hi : a[i]? = some p) (hj : b[j]? = some q) : q.1 ≠ p.1 := fun he => wD_x h hi hj he.symm
theorem w_join {pre wc post w1 : va_W} (hP : va_P D cl (pre ++ (wc ++ post)) H) (hD : va_D A (pre ++ (wc ++ post))) (hk : ∀ q : Nat, q < H.size → ¬ va_A wc H.size q → H1[q]? = H[q]?) (hF : ∀ q, va_A wc H.size q → A q)
    (hP1 : va_P D cl w1 H1) (hD1 : va_D (va_A wc H.size) w1) : va_P D cl (pre ++ (w1 ++ post)) H1 ∧ va_D A (pre ++ (w1 ++ post)) := by
  have dp := wD_l hD
  have dr := wD_r hD
  have dq := wD_r dr
  have pp := wP_l hP
  have pq := wP_r (wP_r hP)
  have ap : ∀ (i : Nat) (q : Nat × va_E), pre[i]? = some q → q.1 < H.size ∧ ¬ va_A wc H.size q.1 := fun i q hq => ⟨(pp i q hq).lt, fun h => by
    rcases h with ⟨j, e, hj⟩ | h
    · exact wD_x hD hq (wl_in hj) rfl
    · have := (pp i q hq).lt
      omega⟩
  have aq : ∀ (i : Nat) (q : Nat × va_E), post[i]? = some q → q.1 < H.size ∧ ¬ va_A wc H.size q.1 := fun i q hq => ⟨(pq i q hq).lt, fun h => by
    rcases h with ⟨j, e, hj⟩ | h
    · exact wD_x dr hj hq rfl
    · have := (pq i q hq).lt
      omega⟩
  refine ⟨va_P.app (fun i q hq => (pp i q hq).kept (hk q.1 (ap i q hq).1 (ap i q hq).2)) (va_P.app hP1 (fun i q hq => (pq i q hq).kept (hk q.1 (aq i q hq).1 (aq i q hq).2))), ?_⟩
  refine va_D.app dp (va_D.app (hD1.weaken (fun _ q _ h => hF q.1 h)) dq (fun i j x y hx hy hxy => (aq j y hy).2 (by rw [← hxy]; exact hD1.2 i x hx))) (fun i j x y hx hy hxy => ?_)
  rcases Nat.lt_or_ge j w1.length with hj | hj
  · rw [List.getElem?_append_left hj] at hy
    exact (ap i x hx).2 (by rw [hxy]; exact hD1.2 j y hy)
  · rw [List.getElem?_append_right hj] at hy
    exact wD_x hD hx (wr_in (x := wc) hy) hxy
theorem w_free {pre wc post : va_W} {H0 : Heap} {locs : List Loc} (hD : va_D A (pre ++ (wc ++ post))) (hS : va_S A H0 H locs) (hA : ∀ q : Nat, H0.size ≤ q → A q) : ∀ q, va_A wc H.size q → A q := fun q h => by
  rcases h with ⟨j, e, hj⟩ | h
  · exact (wD_l (wD_r hD)).2 j (q, e) hj
  · exact hA q (Nat.le_trans hS.1 h)
end WJ
/-! contracts: a start (arguments, a heap of sz cells, a world), and an end that is one answer and one world -/
def cPre (F : Vm → Prop) (D : va_G) (cl : List vw_C) (tys : List (ClassId × FieldType)) (av : List Value) (wc : va_W) (sz : Nat) : Array Value → State → Prop :=
  va_Pc av (fun U => F U.vm ∧ U.heap.size = sz ∧ va_P D cl wc U.heap ∧ va_K D cl tys U ∧ va_D (fun _ => True) wc)
def cB (D : va_G) (cl : List vw_C) (tys : List (ClassId × FieldType)) (A : Nat → Prop) (w1 : va_W) : State → Prop := fun t => va_P D cl w1 t.heap ∧ va_K D cl tys t ∧ va_D A w1
def cQ (v : Option Value) (B : State → Prop) (A : Nat → Prop) : Array Value → State → Outcome → State → Prop := fun _ st oc t => oc = .returned v ∧ B t ∧ va_F A st t
def cR (F : Vm → Prop) (l : Launch) (y : MethodName) (wsY : List Cond) (rm : Room) (D : va_G) (cl : List vw_C) (tys : List (ClassId × FieldType)) (av : List Value) (wc : va_W) (v : Option Value) (w1 : va_W) : Prop :=
  ∀ sz : Nat, Met l y wsY rm (cPre F D cl tys av wc sz) (cQ v (cB D cl tys (va_A wc sz) w1) (va_A wc sz)) 0 0 (va_A wc sz)
theorem cPre_blind (F : Vm → Prop) (D : va_G) (cl : List vw_C) (tys : List (ClassId × FieldType)) (av : List Value) (wc : va_W) (sz : Nat) : FrameBlind (cPre F D cl tys av wc sz) := fun a U g mk q => by
  obtain ⟨q0, qF, q1, qP, qK, qD⟩ := q
  exact ⟨q0, qF, q1, qP, va_K.moved (u := U) (U := U.calling g mk a) (Vm.Alike.refl U.vm) qK, qD⟩
section CR
variable {F : Vm → Prop} {l : Launch} {y : MethodName} {wsY ws' : List Cond} {rm : Room} {D : va_G} {cl : List vw_C} {tys : List (ClassId × FieldType)} {av : List Value} {wc w1 : va_W} {v : Option Value} {cc : ByteArray} {maxL : Nat} {ret : Option FieldType}
theorem cR_of (hy : plainName y.cls = true) (hw : wsY = Cond.code y cc maxL ret :: ws') (hlen : (lg_sl av).length ≤ maxL)
    (body : ∀ (p : Program) (e : Env) (s : State) (m : MethodId) (below : List Frame) (meth : Method) (c : Code) (A : Nat → Prop), gC p s m av.toArray c cc y.cls wsY D cl tys A s.heap maxL → meth.sig.returnType = ret → meth.locks = false → meth.name = y.name → F s.vm →
      gG p l e rm s m av.toArray below meth c D cl A s.heap maxL (MQ below (cQ v (cB D cl tys A w1) A) av.toArray s 0 0 A) 0 0 wc 0 (lv_args 0 av) []) : cR F l y wsY rm D cl tys av wc v w1 := by
  intro sz
  refine Met.ofW (cc := cc) (maxL := maxL) (ret := ret) hy hw ?_
  intro p e s m args below meth c s₁ B hml hv
  obtain ⟨rfl, hF, hsz, hP, hK, hD0⟩ := hv
  subst hsz
  have hD := hD0.self (sz := s.heap.size)
  generalize hAe : va_A wc s.heap.size = A at hD ⊢
  have hA : ∀ q : Nat, s.heap.size ≤ q → A q := fun q h => by rw [← hAe]; exact Or.inr h
  have hl := lv_entry av (n := maxL) hlen
  rw [lg_entry_eq]
  exact body p e s m below meth c A ⟨B.exec, B.bytes, hml, findClass_of_methodNamed B.named, atoms_spec (ws := wsY) B.pre, hK, hA⟩ B.returns B.notSynchronized (name_of_methodNamed B.named B.method).1 hF s.heap [] _ hP hD va_S.rf hl
end CR
section GR
variable {p : Program} {l : Launch} {e : Env} {R : Room} {s : State} {m : MethodId} {args : Array Value} {below : List Frame} {meth : Method} {c : Code} {cc : ByteArray} {own : String} {Ts : List Cond} {D : va_G} {cl : List vw_C} {tys : List (ClassId × FieldType)} {A : Nat → Prop} {H0 : Heap} {nL : Nat} {Q : State → Prop} {k n : Nat} {ws : va_W} {pc : Nat} {lv : List (Nat × Value)} {st : List Value} {w1 : va_W}
theorem g_iret (C : gC p s m args c cc own Ts D cl tys A s.heap nL) (hr : meth.sig.returnType = some .int) (hlk : meth.locks = false) (d : decode cc pc = .ok (.ireturn, 1)) {x r : Int32} (hv : x = r) (hw : ws = w1) :
    gG p l e R s m args below meth c D cl A s.heap nL (MQ below (cQ (some (.int r)) (cB D cl tys A w1) A) args s k n A) k n ws pc lv [.int x] := by
  subst hv; subst hw
  intro H locs ls hP hD hS hl
  exact W.iret C.1 C.2.1 hr (fun t ht hW => ⟨rfl, ⟨by rw [ht]; exact hP, va_K.moved hW.alike C.2.2.2.2.2.1, hD⟩, hS.F ht⟩) hS.2.2 d hlk
theorem g_zret (C : gC p s m args c cc own Ts D cl tys A s.heap nL) (hr : meth.sig.returnType = some .boolean) (hlk : meth.locks = false) (d : decode cc pc = .ok (.ireturn, 1)) {x r : Int32} (hb01 : x = 0 ∨ x = 1) (hv : x = r) (hw : ws = w1) :
    gG p l e R s m args below meth c D cl A s.heap nL (MQ below (cQ (some (.int r)) (cB D cl tys A w1) A) args s k n A) k n ws pc lv [.int x] := by
  subst hv; subst hw
  intro H locs ls hP hD hS hl
  exact W.zret C.1 C.2.1 hr (by rcases hb01 with h | h <;> subst h <;> rfl) (fun t ht hW => ⟨rfl, ⟨by rw [ht]; exact hP, va_K.moved hW.alike C.2.2.2.2.2.1, hD⟩, hS.F ht⟩) hS.2.2 d hlk
theorem g_lret (C : gC p s m args c cc own Ts D cl tys A s.heap nL) (hr : meth.sig.returnType = some .long) (hlk : meth.locks = false) (d : decode cc pc = .ok (.lreturn, 1)) {x r : Int64} (hv : x = r) (hw : ws = w1) :
    gG p l e R s m args below meth c D cl A s.heap nL (MQ below (cQ (some (.long r)) (cB D cl tys A w1) A) args s k n A) k n ws pc lv [.long x] := by
  subst hv; subst hw
  intro H locs ls hP hD hS hl
  exact W.lret C.1 C.2.1 hr (fun t ht hW => ⟨rfl, ⟨by rw [ht]; exact hP, va_K.moved hW.alike C.2.2.2.2.2.1, hD⟩, hS.F ht⟩) hS.2.2 d hlk
theorem g_dret (C : gC p s m args c cc own Ts D cl tys A s.heap nL) (hr : meth.sig.returnType = some .double) (hlk : meth.locks = false) (d : decode cc pc = .ok (.dreturn, 1)) {x r : UInt64} (hv : x = r) (hw : ws = w1) :
    gG p l e R s m args below meth c D cl A s.heap nL (MQ below (cQ (some (.double r)) (cB D cl tys A w1) A) args s k n A) k n ws pc lv [.double x] := by
  subst hv; subst hw
  intro H locs ls hP hD hS hl
  exact W.dret C.1 C.2.1 hr (fun t ht hW => ⟨rfl, ⟨by rw [ht]; exact hP, va_K.moved hW.alike C.2.2.2.2.2.1, hD⟩, hS.F ht⟩) hS.2.2 d hlk
theorem g_vret (C : gC p s m args c cc own Ts D cl tys A s.heap nL) (hr : meth.sig.returnType = none) (hlk : meth.locks = false) (d : decode cc pc = .ok (.return_, 1)) (hw : ws = w1) :
    gG p l e R s m args below meth c D cl A s.heap nL (MQ below (cQ none (cB D cl tys A w1) A) args s k n A) k n ws pc lv [] := by
  subst hw
  intro H locs ls hP hD hS hl
  exact W.vret C.1 C.2.1 hr (fun t ht hW => ⟨rfl, ⟨by rw [ht]; exact hP, va_K.moved hW.alike C.2.2.2.2.2.1, hD⟩, hS.F ht⟩) hS.2.2 d hlk
/-- a call by a contract cR: the callee's cells stand side by side in the world -/
theorem g_run {v : Option Value} {pre wc post w1 ws' : va_W} {rest : List Value} {a : Array Value} {mc ms : Nat} (C : gC p s m args c cc own Ts D cl tys A H0 nL) (hsp : ws = pre ++ (wc ++ post)) (hres : pre ++ (w1 ++ post) = ws') {tysY : List (ClassId × FieldType)}
    (run : ∀ (H : Heap) (locs : List Loc) (ls : Array Slot), va_P D cl wc H → va_D (fun _ => True) wc → lv_has ls nL lv → va_Run p l e R s m args below meth c H locs k n mc ms (F0 m pc ls st) rest (cQ v (cB D cl tysY (va_A wc H.size) w1) (va_A wc H.size) a) (va_A wc H.size))
    (kk : gG p l e R s m args below meth c D cl A H0 nL Q (k + mc) (n + ms) ws' (pc + 3) lv (v.toList ++ rest)) : gG p l e R s m args below meth c D cl A H0 nL Q k n ws pc lv st := by
  subst hsp; subst hres
  intro H locs ls hP hD hS hl T hT X
  obtain ⟨v', st₀, t, T', L, h0, X', hL, e1, e2, ⟨hv, ⟨hP1, hK1, hD1⟩, hz, hk⟩, go⟩ := run H locs ls (wP_l (wP_r hP)) ((wD_l (wD_r hD)).weaken (fun _ _ _ _ => trivial)) hl T hT X
  cases hv
  rw [h0] at hz hk
  have hF := w_free hD hS C.2.2.2.2.2.2
  have hk' : ∀ q : Nat, q < H.size → ¬ va_A wc H.size q → T'.heap[q]? = H[q]? := fun q h1 h2 => by rw [e1]; exact hk q h1 h2
  obtain ⟨jP, jD⟩ := w_join hP hD hk' hF (by rw [e1]; exact hP1) hD1
  have hS' : va_S A H0 T'.heap (locs ++ L) := ⟨Nat.le_trans hS.1 (by rw [e1]; exact hz), fun q h1 h2 => by rw [hk' q (Nat.lt_of_lt_of_le h1 hS.1) (fun z => h2 (hF q z))]; exact hS.2.1 q h1 h2, fun q hq => by
    rcases List.mem_append.mp hq with h | h
    · exact hS.2.2 q h
    · exact hF _ (hL q h)⟩
  obtain ⟨t2, a1, b1⟩ := kk T'.heap (locs ++ L) ls jP jD hS' hl T' rfl X'
  exact ⟨t2, go t2 a1, b1⟩
theorem g_callV {F : Vm → Prop} {y : MethodName} {wsY ws9 : List Cond} {rm : Room} {tysY : List (ClassId × FieldType)} {C0 : String} {index maxL nA : Nat} {bytes : ByteArray} {ret : Option FieldType} {b ci : Nat} {fs : List Value} {q9 : vw_C} {As rest : List Value} {v : Option Value} {pre wc post w1 ws' : va_W}
    (C : gC p s m args c cc own Ts D cl tys A H0 nL) (hM : cR F l y wsY rm D cl tysY (.ref b :: As) wc v w1) (hG : GoodIn Ts (wsV own index C0 y wsY)) (hw : wsY = Cond.code y bytes maxL ret :: ws9)
    (hrm : rm.cells = 0 ∧ rm.slots = 0) (hd : y.cls = C0 ∧ y.cls ≠ "java/lang/invoke/MethodHandle" ∧ y.cls ≠ "java/lang/invoke/VarHandle" ∧ (parseMethodDescriptor y.desc).map (fun d => d.parameters.length) = some nA) (hR : rm.frames + 1 ≤ R.frames ∧ 8 + (maxL + 11) + rm.locals ≤ R.locals)
    (isT : List Nat) (hT : isT.filterMap (fun i => tys[i]?) = tysY) (hF : ∀ vm' : Vm, s.WarmedH vm' → F vm') (hn : As.length = nA) (hst : st = As.reverse ++ .ref b :: rest) (hrest : (rest.map fun v => v.category).sum ≤ 8) (d : decode cc pc = .ok (.invokevirtual index, 3)) (hc : k ≤ R.cells ∧ n ≤ R.slots)
    (q0 : Nat) (he : wc[q0]? = some (b, .inr (ci, fs))) (hcl : cl[ci]? = some q9) (hq9 : q9.1 = C0) (hsp : ws = pre ++ (wc ++ post)) (hres : pre ++ (w1 ++ post) = ws')
    (kk : gG p l e R s m args below meth c D cl A H0 nL Q k n ws' (pc + 3) lv (v.toList ++ rest)) : gG p l e R s m args below meth c D cl A H0 nL Q k n ws pc lv st := by
  have hK := C.2.2.2.2.2.1.sub isT hT
  subst hq9
  exact g_run C hsp hres (fun H locs ls hP hD hl => va_runV (As := As) (rest := rest) ⟨C.1, C.2.1, C.2.2.1, C.2.2.2.1, C.2.2.2.2.1⟩ (hM H.size) (cwV nA C.2.2.2.2.1 hG hw hrm.1 hrm.2 hd hR) ⟨cPre_blind _ _ _ _ _ _ _, va_recv hK hP hcl he, fun U hU hW => ⟨rfl, hF _ hW, by rw [hU], by rw [hU]; exact hP, va_K.moved hW.alike hK, hD⟩⟩ rfl hn hl.1 hst (lv_room hrest) d ⟨hc.1, hc.2⟩) kk
theorem g_callS {F : Vm → Prop} {y : MethodName} {wsY ws9 : List Cond} {rm : Room} {tysY : List (ClassId × FieldType)} {index maxL nA : Nat} {bytes : ByteArray} {ret : Option FieldType} {As rest : List Value} {v : Option Value} {pre wc post w1 ws' : va_W}
    (C : gC p s m args c cc own Ts D cl tys A H0 nL) (hM : cR F l y wsY rm D cl tysY As wc v w1) (hG : GoodIn Ts (va_wsS own index y wsY)) (hw : wsY = Cond.code y bytes maxL ret :: ws9)
    (hrm : rm.cells = 0 ∧ rm.slots = 0) (hd : y.cls ≠ "java/lang/invoke/MethodHandle" ∧ y.cls ≠ "java/lang/invoke/VarHandle" ∧ (parseMethodDescriptor y.desc).map (fun d => d.parameters.length) = some nA) (hR : rm.frames + 1 ≤ R.frames ∧ 8 + (maxL + 11) + rm.locals ≤ R.locals)
    (isT : List Nat) (hT : isT.filterMap (fun i => tys[i]?) = tysY) (hF : ∀ vm' : Vm, s.WarmedH vm' → F vm') (hn : As.length = nA) (hst : st = As.reverse ++ rest) (hrest : (rest.map fun v => v.category).sum ≤ 8) (d : decode cc pc = .ok (.invokestatic index, 3)) (hc : k ≤ R.cells ∧ n ≤ R.slots)
    (hsp : ws = pre ++ (wc ++ post)) (hres : pre ++ (w1 ++ post) = ws')
    (kk : gG p l e R s m args below meth c D cl A H0 nL Q k n ws' (pc + 3) lv (v.toList ++ rest)) : gG p l e R s m args below meth c D cl A H0 nL Q k n ws pc lv st := by
  have hK := C.2.2.2.2.2.1.sub isT hT
  exact g_run C hsp hres (fun H locs ls hP hD hl => va_runS (As := As) (rest := rest) ⟨C.1, C.2.1, C.2.2.1, C.2.2.2.1, C.2.2.2.2.1⟩ (hM H.size) (va_cwS nA C.2.2.2.2.1 hG hw hrm.1 hrm.2 hd hR) ⟨cPre_blind _ _ _ _ _ _ _, fun U hU hW => ⟨rfl, hF _ hW, by rw [hU], by rw [hU]; exact hP, va_K.moved hW.alike hK, hD⟩⟩ rfl hn hl.1 hst (lv_room hrest) d ⟨hc.1, hc.2⟩) kk
theorem g_callSN {F : Vm → Prop} {y : MethodName} {host : String} {wsY ws9 : List Cond} {rm : Room} {tysY : List (ClassId × FieldType)} {index maxL nA : Nat} {bytes : ByteArray} {ret : Option FieldType} {As rest : List Value} {v : Option Value} {pre wc post w1 ws' : va_W}
    (C : gC p s m args c cc own Ts D cl tys A H0 nL) (hM : cR F l y wsY rm D cl tysY As wc v w1) (hG : GoodIn Ts wsY) (hw : wsY = Cond.code y bytes maxL ret :: ws9)
    (hnest : va_Nw (.methodLinkNest own index y host) s) (hini : Cond.initialized y.cls ∈ Ts) (hsta : Cond.static y ∈ Ts)
    (hrm : rm.cells = 0 ∧ rm.slots = 0) (hd : y.cls ≠ "java/lang/invoke/MethodHandle" ∧ y.cls ≠ "java/lang/invoke/VarHandle" ∧ (parseMethodDescriptor y.desc).map (fun d => d.parameters.length) = some nA) (hR : rm.frames + 1 ≤ R.frames ∧ 8 + (maxL + 11) + rm.locals ≤ R.locals)
    (isT : List Nat) (hT : isT.filterMap (fun i => tys[i]?) = tysY) (hF : ∀ vm' : Vm, s.WarmedH vm' → F vm') (hn : As.length = nA) (hst : st = As.reverse ++ rest) (hrest : (rest.map fun v => v.category).sum ≤ 8) (d : decode cc pc = .ok (.invokestatic index, 3)) (hc : k ≤ R.cells ∧ n ≤ R.slots)
    (hsp : ws = pre ++ (wc ++ post)) (hres : pre ++ (w1 ++ post) = ws')
    (kk : gG p l e R s m args below meth c D cl A H0 nL Q k n ws' (pc + 3) lv (v.toList ++ rest)) : gG p l e R s m args below meth c D cl A H0 nL Q k n ws pc lv st := by
  have hK := C.2.2.2.2.2.1.sub isT hT
  exact g_run C hsp hres (fun H locs ls hP hD hl => va_runSN (host := host) (As := As) (rest := rest) ⟨C.1, C.2.1, C.2.2.1, C.2.2.2.1, C.2.2.2.2.1⟩ (hM H.size) ⟨va_cnB nA C.2.2.2.2.1 hG hw hrm.1 hrm.2 hnest (C.2.2.2.2.1 _ hini) hd hR, C.2.2.2.2.1 _ hsta, trivial⟩ ⟨cPre_blind _ _ _ _ _ _ _, fun U hU hW => ⟨rfl, hF _ hW, by rw [hU], by rw [hU]; exact hP, va_K.moved hW.alike hK, hD⟩⟩ rfl hn hl.1 hst (lv_room hrest) d ⟨hc.1, hc.2⟩) kk

theorem g_callVi {F : Vm → Prop} {y : MethodName} {wsY ws9 : List Cond} {rm : Room} {tysY : List (ClassId × FieldType)} {C0 : String} {index maxL nA : Nat} {bytes : ByteArray} {ret : Option FieldType} {b ci : Nat} {fs : List Value} {q9 : vw_C} {As rest : List Value} {r : Int32} {pre wc post w1 ws' : va_W}
    (C : gC p s m args c cc own Ts D cl tys A H0 nL) (hM : cR F l y wsY rm D cl tysY (.ref b :: As) wc (some (.int r)) w1) (hG : GoodIn Ts (wsV own index C0 y wsY)) (hw : wsY = Cond.code y bytes maxL ret :: ws9)
    (hrm : rm.cells = 0 ∧ rm.slots = 0) (hd : y.cls = C0 ∧ y.cls ≠ "java/lang/invoke/MethodHandle" ∧ y.cls ≠ "java/lang/invoke/VarHandle" ∧ (parseMethodDescriptor y.desc).map (fun d => d.parameters.length) = some nA) (hR : rm.frames + 1 ≤ R.frames ∧ 8 + (maxL + 11) + rm.locals ≤ R.locals)
    (isT : List Nat) (hT : isT.filterMap (fun i => tys[i]?) = tysY) (hF : ∀ vm' : Vm, s.WarmedH vm' → F vm') (hn : As.length = nA) (hst : st = As.reverse ++ .ref b :: rest) (hrest : (rest.map fun v => v.category).sum ≤ 8) (d : decode cc pc = .ok (.invokevirtual index, 3)) (hc : k ≤ R.cells ∧ n ≤ R.slots)
    (q0 : Nat) (he : wc[q0]? = some (b, .inr (ci, fs))) (hcl : cl[ci]? = some q9) (hq9 : q9.1 = C0) (hsp : ws = pre ++ (wc ++ post)) (hres : pre ++ (w1 ++ post) = ws')
    (kk : gG p l e R s m args below meth c D cl A H0 nL Q k n ws' (pc + 3) lv (.int r :: rest)) : gG p l e R s m args below meth c D cl A H0 nL Q k n ws pc lv st := g_callV C hM hG hw hrm hd hR isT hT hF hn hst hrest d hc q0 he hcl hq9 hsp hres kk
theorem g_callVl {F : Vm → Prop} {y : MethodName} {wsY ws9 : List Cond} {rm : Room} {tysY : List (ClassId × FieldType)} {C0 : String} {index maxL nA : Nat} {bytes : ByteArray} {ret : Option FieldType} {b ci : Nat} {fs : List Value} {q9 : vw_C} {As rest : List Value} {r : Int64} {pre wc post w1 ws' : va_W}
    (C : gC p s m args c cc own Ts D cl tys A H0 nL) (hM : cR F l y wsY rm D cl tysY (.ref b :: As) wc (some (.long r)) w1) (hG : GoodIn Ts (wsV own index C0 y wsY)) (hw : wsY = Cond.code y bytes maxL ret :: ws9)
    (hrm : rm.cells = 0 ∧ rm.slots = 0) (hd : y.cls = C0 ∧ y.cls ≠ "java/lang/invoke/MethodHandle" ∧ y.cls ≠ "java/lang/invoke/VarHandle" ∧ (parseMethodDescriptor y.desc).map (fun d => d.parameters.length) = some nA) (hR : rm.frames + 1 ≤ R.frames ∧ 8 + (maxL + 11) + rm.locals ≤ R.locals)
    (isT : List Nat) (hT : isT.filterMap (fun i => tys[i]?) = tysY) (hF : ∀ vm' : Vm, s.WarmedH vm' → F vm') (hn : As.length = nA) (hst : st = As.reverse ++ .ref b :: rest) (hrest : (rest.map fun v => v.category).sum ≤ 8) (d : decode cc pc = .ok (.invokevirtual index, 3)) (hc : k ≤ R.cells ∧ n ≤ R.slots)
    (q0 : Nat) (he : wc[q0]? = some (b, .inr (ci, fs))) (hcl : cl[ci]? = some q9) (hq9 : q9.1 = C0) (hsp : ws = pre ++ (wc ++ post)) (hres : pre ++ (w1 ++ post) = ws')
    (kk : gG p l e R s m args below meth c D cl A H0 nL Q k n ws' (pc + 3) lv (.long r :: rest)) : gG p l e R s m args below meth c D cl A H0 nL Q k n ws pc lv st := g_callV C hM hG hw hrm hd hR isT hT hF hn hst hrest d hc q0 he hcl hq9 hsp hres kk
theorem g_callVd {F : Vm → Prop} {y : MethodName} {wsY ws9 : List Cond} {rm : Room} {tysY : List (ClassId × FieldType)} {C0 : String} {index maxL nA : Nat} {bytes : ByteArray} {ret : Option FieldType} {b ci : Nat} {fs : List Value} {q9 : vw_C} {As rest : List Value} {r : UInt64} {pre wc post w1 ws' : va_W}
    (C : gC p s m args c cc own Ts D cl tys A H0 nL) (hM : cR F l y wsY rm D cl tysY (.ref b :: As) wc (some (.double r)) w1) (hG : GoodIn Ts (wsV own index C0 y wsY)) (hw : wsY = Cond.code y bytes maxL ret :: ws9)
    (hrm : rm.cells = 0 ∧ rm.slots = 0) (hd : y.cls = C0 ∧ y.cls ≠ "java/lang/invoke/MethodHandle" ∧ y.cls ≠ "java/lang/invoke/VarHandle" ∧ (parseMethodDescriptor y.desc).map (fun d => d.parameters.length) = some nA) (hR : rm.frames + 1 ≤ R.frames ∧ 8 + (maxL + 11) + rm.locals ≤ R.locals)
    (isT : List Nat) (hT : isT.filterMap (fun i => tys[i]?) = tysY) (hF : ∀ vm' : Vm, s.WarmedH vm' → F vm') (hn : As.length = nA) (hst : st = As.reverse ++ .ref b :: rest) (hrest : (rest.map fun v => v.category).sum ≤ 8) (d : decode cc pc = .ok (.invokevirtual index, 3)) (hc : k ≤ R.cells ∧ n ≤ R.slots)
    (q0 : Nat) (he : wc[q0]? = some (b, .inr (ci, fs))) (hcl : cl[ci]? = some q9) (hq9 : q9.1 = C0) (hsp : ws = pre ++ (wc ++ post)) (hres : pre ++ (w1 ++ post) = ws')
    (kk : gG p l e R s m args below meth c D cl A H0 nL Q k n ws' (pc + 3) lv (.double r :: rest)) : gG p l e R s m args below meth c D cl A H0 nL Q k n ws pc lv st := g_callV C hM hG hw hrm hd hR isT hT hF hn hst hrest d hc q0 he hcl hq9 hsp hres kk
theorem g_callVv {F : Vm → Prop} {y : MethodName} {wsY ws9 : List Cond} {rm : Room} {tysY : List (ClassId × FieldType)} {C0 : String} {index maxL nA : Nat} {bytes : ByteArray} {ret : Option FieldType} {b ci : Nat} {fs : List Value} {q9 : vw_C} {As rest : List Value}  {pre wc post w1 ws' : va_W}
    (C : gC p s m args c cc own Ts D cl tys A H0 nL) (hM : cR F l y wsY rm D cl tysY (.ref b :: As) wc (none) w1) (hG : GoodIn Ts (wsV own index C0 y wsY)) (hw : wsY = Cond.code y bytes maxL ret :: ws9)
    (hrm : rm.cells = 0 ∧ rm.slots = 0) (hd : y.cls = C0 ∧ y.cls ≠ "java/lang/invoke/MethodHandle" ∧ y.cls ≠ "java/lang/invoke/VarHandle" ∧ (parseMethodDescriptor y.desc).map (fun d => d.parameters.length) = some nA) (hR : rm.frames + 1 ≤ R.frames ∧ 8 + (maxL + 11) + rm.locals ≤ R.locals)
    (isT : List Nat) (hT : isT.filterMap (fun i => tys[i]?) = tysY) (hF : ∀ vm' : Vm, s.WarmedH vm' → F vm') (hn : As.length = nA) (hst : st = As.reverse ++ .ref b :: rest) (hrest : (rest.map fun v => v.category).sum ≤ 8) (d : decode cc pc = .ok (.invokevirtual index, 3)) (hc : k ≤ R.cells ∧ n ≤ R.slots)
    (q0 : Nat) (he : wc[q0]? = some (b, .inr (ci, fs))) (hcl : cl[ci]? = some q9) (hq9 : q9.1 = C0) (hsp : ws = pre ++ (wc ++ post)) (hres : pre ++ (w1 ++ post) = ws')
    (kk : gG p l e R s m args below meth c D cl A H0 nL Q k n ws' (pc + 3) lv (rest)) : gG p l e R s m args below meth c D cl A H0 nL Q k n ws pc lv st := g_callV C hM hG hw hrm hd hR isT hT hF hn hst hrest d hc q0 he hcl hq9 hsp hres kk
theorem g_callSi {F : Vm → Prop} {y : MethodName} {wsY ws9 : List Cond} {rm : Room} {tysY : List (ClassId × FieldType)} {index maxL nA : Nat} {bytes : ByteArray} {ret : Option FieldType} {As rest : List Value} {r : Int32} {pre wc post w1 ws' : va_W}
    (C : gC p s m args c cc own Ts D cl tys A H0 nL) (hM : cR F l y wsY rm D cl tysY As wc (some (.int r)) w1) (hG : GoodIn Ts (va_wsS own index y wsY)) (hw : wsY = Cond.code y bytes maxL ret :: ws9)
    (hrm : rm.cells = 0 ∧ rm.slots = 0) (hd : y.cls ≠ "java/lang/invoke/MethodHandle" ∧ y.cls ≠ "java/lang/invoke/VarHandle" ∧ (parseMethodDescriptor y.desc).map (fun d => d.parameters.length) = some nA) (hR : rm.frames + 1 ≤ R.frames ∧ 8 + (maxL + 11) + rm.locals ≤ R.locals)
    (isT : List Nat) (hT : isT.filterMap (fun i => tys[i]?) = tysY) (hF : ∀ vm' : Vm, s.WarmedH vm' → F vm') (hn : As.length = nA) (hst : st = As.reverse ++ rest) (hrest : (rest.map fun v => v.category).sum ≤ 8) (d : decode cc pc = .ok (.invokestatic index, 3)) (hc : k ≤ R.cells ∧ n ≤ R.slots)
    (hsp : ws = pre ++ (wc ++ post)) (hres : pre ++ (w1 ++ post) = ws')
    (kk : gG p l e R s m args below meth c D cl A H0 nL Q k n ws' (pc + 3) lv (.int r :: rest)) : gG p l e R s m args below meth c D cl A H0 nL Q k n ws pc lv st := g_callS C hM hG hw hrm hd hR isT hT hF hn hst hrest d hc hsp hres kk
theorem g_callSl {F : Vm → Prop} {y : MethodName} {wsY ws9 : List Cond} {rm : Room} {tysY : List (ClassId × FieldType)} {index maxL nA : Nat} {bytes : ByteArray} {ret : Option FieldType} {As rest : List Value} {r : Int64} {pre wc post w1 ws' : va_W}
    (C : gC p s m args c cc own Ts D cl tys A H0 nL) (hM : cR F l y wsY rm D cl tysY As wc (some (.long r)) w1) (hG : GoodIn Ts (va_wsS own index y wsY)) (hw : wsY = Cond.code y bytes maxL ret :: ws9)
    (hrm : rm.cells = 0 ∧ rm.slots = 0) (hd : y.cls ≠ "java/lang/invoke/MethodHandle" ∧ y.cls ≠ "java/lang/invoke/VarHandle" ∧ (parseMethodDescriptor y.desc).map (fun d => d.parameters.length) = some nA) (hR : rm.frames + 1 ≤ R.frames ∧ 8 + (maxL + 11) + rm.locals ≤ R.locals)
    (isT : List Nat) (hT : isT.filterMap (fun i => tys[i]?) = tysY) (hF : ∀ vm' : Vm, s.WarmedH vm' → F vm') (hn : As.length = nA) (hst : st = As.reverse ++ rest) (hrest : (rest.map fun v => v.category).sum ≤ 8) (d : decode cc pc = .ok (.invokestatic index, 3)) (hc : k ≤ R.cells ∧ n ≤ R.slots)
    (hsp : ws = pre ++ (wc ++ post)) (hres : pre ++ (w1 ++ post) = ws')
    (kk : gG p l e R s m args below meth c D cl A H0 nL Q k n ws' (pc + 3) lv (.long r :: rest)) : gG p l e R s m args below meth c D cl A H0 nL Q k n ws pc lv st := g_callS C hM hG hw hrm hd hR isT hT hF hn hst hrest d hc hsp hres kk
theorem g_callSd {F : Vm → Prop} {y : MethodName} {wsY ws9 : List Cond} {rm : Room} {tysY : List (ClassId × FieldType)} {index maxL nA : Nat} {bytes : ByteArray} {ret : Option FieldType} {As rest : List Value} {r : UInt64} {pre wc post w1 ws' : va_W}
    (C : gC p s m args c cc own Ts D cl tys A H0 nL) (hM : cR F l y wsY rm D cl tysY As wc (some (.double r)) w1) (hG : GoodIn Ts (va_wsS own index y wsY)) (hw : wsY = Cond.code y bytes maxL ret :: ws9)
    (hrm : rm.cells = 0 ∧ rm.slots = 0) (hd : y.cls ≠ "java/lang/invoke/MethodHandle" ∧ y.cls ≠ "java/lang/invoke/VarHandle" ∧ (parseMethodDescriptor y.desc).map (fun d => d.parameters.length) = some nA) (hR : rm.frames + 1 ≤ R.frames ∧ 8 + (maxL + 11) + rm.locals ≤ R.locals)
    (isT : List Nat) (hT : isT.filterMap (fun i => tys[i]?) = tysY) (hF : ∀ vm' : Vm, s.WarmedH vm' → F vm') (hn : As.length = nA) (hst : st = As.reverse ++ rest) (hrest : (rest.map fun v => v.category).sum ≤ 8) (d : decode cc pc = .ok (.invokestatic index, 3)) (hc : k ≤ R.cells ∧ n ≤ R.slots)
    (hsp : ws = pre ++ (wc ++ post)) (hres : pre ++ (w1 ++ post) = ws')
    (kk : gG p l e R s m args below meth c D cl A H0 nL Q k n ws' (pc + 3) lv (.double r :: rest)) : gG p l e R s m args below meth c D cl A H0 nL Q k n ws pc lv st := g_callS C hM hG hw hrm hd hR isT hT hF hn hst hrest d hc hsp hres kk
theorem g_callSv {F : Vm → Prop} {y : MethodName} {wsY ws9 : List Cond} {rm : Room} {tysY : List (ClassId × FieldType)} {index maxL nA : Nat} {bytes : ByteArray} {ret : Option FieldType} {As rest : List Value}  {pre wc post w1 ws' : va_W}
    (C : gC p s m args c cc own Ts D cl tys A H0 nL) (hM : cR F l y wsY rm D cl tysY As wc (none) w1) (hG : GoodIn Ts (va_wsS own index y wsY)) (hw : wsY = Cond.code y bytes maxL ret :: ws9)
    (hrm : rm.cells = 0 ∧ rm.slots = 0) (hd : y.cls ≠ "java/lang/invoke/MethodHandle" ∧ y.cls ≠ "java/lang/invoke/VarHandle" ∧ (parseMethodDescriptor y.desc).map (fun d => d.parameters.length) = some nA) (hR : rm.frames + 1 ≤ R.frames ∧ 8 + (maxL + 11) + rm.locals ≤ R.locals)
    (isT : List Nat) (hT : isT.filterMap (fun i => tys[i]?) = tysY) (hF : ∀ vm' : Vm, s.WarmedH vm' → F vm') (hn : As.length = nA) (hst : st = As.reverse ++ rest) (hrest : (rest.map fun v => v.category).sum ≤ 8) (d : decode cc pc = .ok (.invokestatic index, 3)) (hc : k ≤ R.cells ∧ n ≤ R.slots)
    (hsp : ws = pre ++ (wc ++ post)) (hres : pre ++ (w1 ++ post) = ws')
    (kk : gG p l e R s m args below meth c D cl A H0 nL Q k n ws' (pc + 3) lv (rest)) : gG p l e R s m args below meth c D cl A H0 nL Q k n ws pc lv st := g_callS C hM hG hw hrm hd hR isT hT hF hn hst hrest d hc hsp hres kk
theorem g_callSNi {F : Vm → Prop} {y : MethodName} {host : String} {wsY ws9 : List Cond} {rm : Room} {tysY : List (ClassId × FieldType)} {index maxL nA : Nat} {bytes : ByteArray} {ret : Option FieldType} {As rest : List Value} {r : Int32} {pre wc post w1 ws' : va_W}
    (C : gC p s m args c cc own Ts D cl tys A H0 nL) (hM : cR F l y wsY rm D cl tysY As wc (some (.int r)) w1) (hG : GoodIn Ts wsY) (hw : wsY = Cond.code y bytes maxL ret :: ws9)
    (hnest : va_Nw (.methodLinkNest own index y host) s) (hini : Cond.initialized y.cls ∈ Ts) (hsta : Cond.static y ∈ Ts)
    (hrm : rm.cells = 0 ∧ rm.slots = 0) (hd : y.cls ≠ "java/lang/invoke/MethodHandle" ∧ y.cls ≠ "java/lang/invoke/VarHandle" ∧ (parseMethodDescriptor y.desc).map (fun d => d.parameters.length) = some nA) (hR : rm.frames + 1 ≤ R.frames ∧ 8 + (maxL + 11) + rm.locals ≤ R.locals)
    (isT : List Nat) (hT : isT.filterMap (fun i => tys[i]?) = tysY) (hF : ∀ vm' : Vm, s.WarmedH vm' → F vm') (hn : As.length = nA) (hst : st = As.reverse ++ rest) (hrest : (rest.map fun v => v.category).sum ≤ 8) (d : decode cc pc = .ok (.invokestatic index, 3)) (hc : k ≤ R.cells ∧ n ≤ R.slots)
    (hsp : ws = pre ++ (wc ++ post)) (hres : pre ++ (w1 ++ post) = ws')
    (kk : gG p l e R s m args below meth c D cl A H0 nL Q k n ws' (pc + 3) lv (.int r :: rest)) : gG p l e R s m args below meth c D cl A H0 nL Q k n ws pc lv st := g_callSN C hM hG hw hnest hini hsta hrm hd hR isT hT hF hn hst hrest d hc hsp hres kk
end GR
theorem ci_m1 : Int32.ofInt (-1) = -1 := by decide
theorem ci_0 : Int32.ofInt (0) = 0 := by decide
theorem ci_1 : Int32.ofInt (1) = 1 := by decide
theorem ci_2 : Int32.ofInt (2) = 2 := by decide
theorem ci_3 : Int32.ofInt (3) = 3 := by decide
theorem ci_4 : Int32.ofInt (4) = 4 := by decide
theorem ci_5 : Int32.ofInt (5) = 5 := by decide
theorem cb_52 : (Int8.ofInt 52).toInt32 = 52 := by decide
theorem cb_55 : (Int8.ofInt 55).toInt32 = 55 := by decide
theorem cb_100 : (Int8.ofInt 100).toInt32 = 100 := by decide
theorem cb_9 : (Int8.ofInt 9).toInt32 = 9 := by decide
theorem cb_10 : (Int8.ofInt 10).toInt32 = 10 := by decide
theorem cb_15 : (Int8.ofInt 15).toInt32 = 15 := by decide
theorem cb_33 : (Int8.ofInt 33).toInt32 = 33 := by decide
theorem cb_43 : (Int8.ofInt 43).toInt32 = 43 := by decide
theorem cb_45 : (Int8.ofInt 45).toInt32 = 45 := by decide
theorem cb_48 : (Int8.ofInt 48).toInt32 = 48 := by decide
theorem cb_57 : (Int8.ofInt 57).toInt32 = 57 := by decide
theorem cb_60 : (Int8.ofInt 60).toInt32 = 60 := by decide
theorem cb_90 : (Int8.ofInt 90).toInt32 = 90 := by decide
theorem cb_126 : (Int8.ofInt 126).toInt32 = 126 := by decide
theorem cb_7 : (Int8.ofInt 7).toInt32 = 7 := by decide
theorem cb_6 : (Int8.ofInt 6).toInt32 = 6 := by decide
theorem cb_8 : (Int8.ofInt 8).toInt32 = 8 := by decide
theorem cb_13 : (Int8.ofInt 13).toInt32 = 13 := by decide
theorem cb_18 : (Int8.ofInt 18).toInt32 = 18 := by decide
theorem cb_16 : (Int8.ofInt 16).toInt32 = 16 := by decide
theorem cb_12 : (Int8.ofInt 12).toInt32 = 12 := by decide
theorem cb_14 : (Int8.ofInt 14).toInt32 = 14 := by decide
theorem cb_17 : (Int8.ofInt 17).toInt32 = 17 := by decide
theorem cb_19 : (Int8.ofInt 19).toInt32 = 19 := by decide
theorem cb_20 : (Int8.ofInt 20).toInt32 = 20 := by decide
theorem cb_31 : (Int8.ofInt 31).toInt32 = 31 := by decide
theorem cs_275 : (Int16.ofInt 275).toInt32 = 275 := by decide
theorem cs_330 : (Int16.ofInt 330).toInt32 = 330 := by decide
theorem cb_m9 : (Int8.ofInt (-9)).toInt32 = -9 := by decide
theorem cb_m6 : (Int8.ofInt (-6)).toInt32 = -6 := by decide
end
section
/-! ===== what a board is: g 0 the setting; of rod j: g (6j+1) fives, (6j+2) ones, (6j+3) loan, (6j+4) stuck, (6j+5) moved, (6j+6) borrowed ===== -/
abbrev tyA (cI cO : ClassId) : List (ClassId × FieldType) := [(cI, .int), (cO, .object RX0)]
def wB (ad : Nat → Nat) (cI : ClassId) (g : Nat → Int32) : va_W :=
  [(ad 0, .inr (0, [.ref (ad 1), .ref (ad 2), .ref (ad 3), .ref (ad 4), .ref (ad 5), .ref (ad 6), .int (g 0)])),
   (ad 1, .inl (cI, 9, .inl (fun j => g (6 * j + 1)))), (ad 2, .inl (cI, 9, .inl (fun j => g (6 * j + 2)))), (ad 3, .inl (cI, 9, .inl (fun j => g (6 * j + 4)))),
   (ad 4, .inl (cI, 9, .inl (fun j => g (6 * j + 3)))), (ad 5, .inl (cI, 9, .inl (fun j => g (6 * j + 5)))), (ad 6, .inl (cI, 9, .inl (fun j => g (6 * j + 6))))]
theorem upd_in {g : Nat → Int32} {r o : Nat} {v : Int32} : upd (fun j => g (6 * j + o)) r v = fun j => upd g (6 * r + o) v (6 * j + o) := by
  funext j
  by_cases h : j = r
  · subst h; simp [upd]
  · have h2 : ¬ 6 * j + o = 6 * r + o := by omega
    show (if j = r then v else g (6 * j + o)) = if 6 * j + o = 6 * r + o then v else g (6 * j + o)
    rw [if_neg h, if_neg h2]
theorem upd_off {g : Nat → Int32} {r o q : Nat} {v : Int32} (h : 0 < o ∧ o < 7 ∧ 0 < q ∧ q < 7 ∧ q ≠ o) : (fun j => g (6 * j + q)) = fun j => upd g (6 * r + o) v (6 * j + q) := by
  funext j
  have : ¬ 6 * j + q = 6 * r + o := by omega
  simp [upd, this]
theorem upd_set {g : Nat → Int32} {r o : Nat} {v : Int32} (h : 0 < o) : upd g (6 * r + o) v 0 = g 0 := by
  have : ¬ 0 = 6 * r + o := by omega
  simp [upd, this]
theorem upd_0 {g : Nat → Int32} {q : Nat} {v : Int32} (h : 0 < q) : (fun j => g (6 * j + q)) = fun j => upd g 0 v (6 * j + q) := by
  funext j
  have h2 : ¬ 6 * j + q = 0 := by omega
  show g (6 * j + q) = if 6 * j + q = 0 then v else g (6 * j + q)
  rw [if_neg h2]
theorem wB_1 (ad : Nat → Nat) (cI : ClassId) (g : Nat → Int32) (r : Nat) (v : Int32) : (wB ad cI g).set 1 (ad 1, .inl (cI, 9, .inl (upd (fun j => g (6 * j + 1)) r v))) = wB ad cI (upd g (6 * r + 1) v) := by
  simp only [wB, List.set]
  rw [upd_in, upd_off (g := g) (r := r) (o := 1) (q := 2) (v := v) (by decide), upd_off (g := g) (r := r) (o := 1) (q := 3) (v := v) (by decide), upd_off (g := g) (r := r) (o := 1) (q := 4) (v := v) (by decide), upd_off (g := g) (r := r) (o := 1) (q := 5) (v := v) (by decide), upd_off (g := g) (r := r) (o := 1) (q := 6) (v := v) (by decide), upd_set (by decide)]
theorem wB_2 (ad : Nat → Nat) (cI : ClassId) (g : Nat → Int32) (r : Nat) (v : Int32) : (wB ad cI g).set 2 (ad 2, .inl (cI, 9, .inl (upd (fun j => g (6 * j + 2)) r v))) = wB ad cI (upd g (6 * r + 2) v) := by
  simp only [wB, List.set]
  rw [upd_in, upd_off (g := g) (r := r) (o := 2) (q := 1) (v := v) (by decide), upd_off (g := g) (r := r) (o := 2) (q := 3) (v := v) (by decide), upd_off (g := g) (r := r) (o := 2) (q := 4) (v := v) (by decide), upd_off (g := g) (r := r) (o := 2) (q := 5) (v := v) (by decide), upd_off (g := g) (r := r) (o := 2) (q := 6) (v := v) (by decide), upd_set (by decide)]
theorem wB_3 (ad : Nat → Nat) (cI : ClassId) (g : Nat → Int32) (r : Nat) (v : Int32) : (wB ad cI g).set 3 (ad 3, .inl (cI, 9, .inl (upd (fun j => g (6 * j + 4)) r v))) = wB ad cI (upd g (6 * r + 4) v) := by
  simp only [wB, List.set]
  rw [upd_in, upd_off (g := g) (r := r) (o := 4) (q := 1) (v := v) (by decide), upd_off (g := g) (r := r) (o := 4) (q := 2) (v := v) (by decide), upd_off (g := g) (r := r) (o := 4) (q := 3) (v := v) (by decide), upd_off (g := g) (r := r) (o := 4) (q := 5) (v := v) (by decide), upd_off (g := g) (r := r) (o := 4) (q := 6) (v := v) (by decide), upd_set (by decide)]
theorem wB_4 (ad : Nat → Nat) (cI : ClassId) (g : Nat → Int32) (r : Nat) (v : Int32) : (wB ad cI g).set 4 (ad 4, .inl (cI, 9, .inl (upd (fun j => g (6 * j + 3)) r v))) = wB ad cI (upd g (6 * r + 3) v) := by
  simp only [wB, List.set]
  rw [upd_in, upd_off (g := g) (r := r) (o := 3) (q := 1) (v := v) (by decide), upd_off (g := g) (r := r) (o := 3) (q := 2) (v := v) (by decide), upd_off (g := g) (r := r) (o := 3) (q := 4) (v := v) (by decide), upd_off (g := g) (r := r) (o := 3) (q := 5) (v := v) (by decide), upd_off (g := g) (r := r) (o := 3) (q := 6) (v := v) (by decide), upd_set (by decide)]
theorem wB_5 (ad : Nat → Nat) (cI : ClassId) (g : Nat → Int32) (r : Nat) (v : Int32) : (wB ad cI g).set 5 (ad 5, .inl (cI, 9, .inl (upd (fun j => g (6 * j + 5)) r v))) = wB ad cI (upd g (6 * r + 5) v) := by
  simp only [wB, List.set]
  rw [upd_in, upd_off (g := g) (r := r) (o := 5) (q := 1) (v := v) (by decide), upd_off (g := g) (r := r) (o := 5) (q := 2) (v := v) (by decide), upd_off (g := g) (r := r) (o := 5) (q := 3) (v := v) (by decide), upd_off (g := g) (r := r) (o := 5) (q := 4) (v := v) (by decide), upd_off (g := g) (r := r) (o := 5) (q := 6) (v := v) (by decide), upd_set (by decide)]
theorem wB_6 (ad : Nat → Nat) (cI : ClassId) (g : Nat → Int32) (r : Nat) (v : Int32) : (wB ad cI g).set 6 (ad 6, .inl (cI, 9, .inl (upd (fun j => g (6 * j + 6)) r v))) = wB ad cI (upd g (6 * r + 6) v) := by
  simp only [wB, List.set]
  rw [upd_in, upd_off (g := g) (r := r) (o := 6) (q := 1) (v := v) (by decide), upd_off (g := g) (r := r) (o := 6) (q := 2) (v := v) (by decide), upd_off (g := g) (r := r) (o := 6) (q := 3) (v := v) (by decide), upd_off (g := g) (r := r) (o := 6) (q := 4) (v := v) (by decide), upd_off (g := g) (r := r) (o := 6) (q := 5) (v := v) (by decide), upd_set (by decide)]
theorem wB_0 (ad : Nat → Nat) (cI : ClassId) (g : Nat → Int32) (v : Int32) : (wB ad cI g).set 0 (ad 0, .inr (0, [.ref (ad 1), .ref (ad 2), .ref (ad 3), .ref (ad 4), .ref (ad 5), .ref (ad 6), .int v])) = wB ad cI (upd g 0 v) := by
  simp only [wB, List.set]
  rw [upd_0 (g := g) (q := 1) (v := v) (by decide), upd_0 (g := g) (q := 2) (v := v) (by decide), upd_0 (g := g) (q := 3) (v := v) (by decide), upd_0 (g := g) (q := 4) (v := v) (by decide), upd_0 (g := g) (q := 5) (v := v) (by decide), upd_0 (g := g) (q := 6) (v := v) (by decide)]
  simp [upd]
/-! the class's own words for its methods, as they are written -/
def xAb (x : Int32) : Int32 := if 0 ≤ x then x else 0 - x
def xSh (g : Nat → Int32) (r : Nat) : Int32 := 5 * g (6 * r + 1) + g (6 * r + 2)
def xMb (g : Nat → Int32) (r : Nat) (f o : Int32) : Int32 :=
  if o < 0 then -1 else if ¬ o ≤ 5 then -1 else
  if ¬ xAb (f - g (6 * r + 1)) ≤ 0 ∧ ¬ g (6 * r + 4) &&& 1 = 0 then -1 else
  if ¬ xAb (o - g (6 * r + 2)) ≤ 0 ∧ ¬ g (6 * r + 4) &&& 2 = 0 then -1 else xAb (f - g (6 * r + 1)) + xAb (o - g (6 * r + 2))
def xPl (g : Nat → Int32) (r : Nat) (f o q : Int32) : Nat → Int32 :=
  upd (upd (upd g (6 * r + 1) f) (6 * r + 2) o) (6 * r + 5) (upd (upd g (6 * r + 1) f) (6 * r + 2) o (6 * r + 5) + q)
def xTs (g : Nat → Int32) (r : Nat) (v f : Int32) (q : Int32 × Int32) : Int32 × Int32 :=
  if ¬ xMb g r f (v - 5 * f) = -1 ∧ (q.1 = -1 ∨ ¬ q.1 ≤ xMb g r f (v - 5 * f)) then (xMb g r f (v - 5 * f), f) else q
def xFi : Nat → Int32
  | 0 => -1
  | 1 => 0
  | 2 => 1
  | _ => 2
def xTf (g : Nat → Int32) (r : Nat) (v : Int32) : Nat → Int32 × Int32 → Int32 × Int32
  | 0, q => q
  | j + 1, q => xTf g r v j (xTs g r v (xFi (j + 1)) q)
def xTq (g : Nat → Int32) (r : Nat) (v : Int32) : Int32 × Int32 := xTf g r v 3 (-1, 0)
def xTv (g : Nat → Int32) (r : Nat) (v : Int32) : Int32 := (xTq g r v).1
def xTn (g : Nat → Int32) (r : Nat) (v d : Int32) : Nat → Int32 :=
  if d = 0 then g else if (xTq g r v).1 = -1 then g else xPl g r (xTq g r v).2 (v - 5 * (xTq g r v).2) (xTq g r v).1
def xBo (g : Nat → Int32) (r : Nat) (s : Int32) : Prop := (g (6 * r + 3) + s) * s ≤ g 0
def xBn (g : Nat → Int32) (r : Nat) (s d : Int32) : Nat → Int32 :=
  if ¬ (g (6 * r + 3) + s) * s ≤ g 0 then g else if d = 0 then g else upd (upd g (6 * r + 3) (g (6 * r + 3) + s)) (6 * r + 6) (upd g (6 * r + 3) (g (6 * r + 3) + s) (6 * r + 6) + 1)
def xCa (s d : Int32) : Nat → (Nat → Int32) → Nat → Int32 → Int32 × (Nat → Int32)
  | 0, g, _, _ => (-1, g)
  | n + 1, g, r, t =>
    if ¬ xTv g r (xSh g r + s) = -1 then (t + xTv g r (xSh g r + s), xTn g r (xSh g r + s) d) else
    if xTv g r (xSh g r - 9 * s) = -1 then (if (g (6 * r + 3) + s) * s ≤ g 0 then t else -1, xBn g r s d) else
    xCa s d n (xTn g r (xSh g r - 9 * s) d) (r + 1) (t + xTv g r (xSh g r - 9 * s))
def xTc (g : Nat → Int32) (r : Nat) (v s d : Int32) : Int32 × (Nat → Int32) :=
  if xTv g r v = -1 then (-1, g) else xCa s d (8 - r) (xTn g r v d) (r + 1) (xTv g r v)
def xSg (n : Int32) : Int32 := if 0 ≤ n then 1 else -1
def xCh (g : Nat → Int32) (r : Nat) (n d : Int32) : Int32 × (Nat → Int32) :=
  if ¬ xTv g r (xSh g r + n) = -1 then (xTv g r (xSh g r + n), xTn g r (xSh g r + n) d) else xTc g r (xSh g r + n - 10 * xSg n) (xSg n) d
theorem xTn_no {g : Nat → Int32} {r : Nat} {v d : Int32} (h : xTv g r v = -1) : xTn g r v d = g := by
  unfold xTn
  rw [if_pos (show (xTq g r v).1 = -1 from h)]
  split <;> rfl
theorem xTn_0 {g : Nat → Int32} {r : Nat} {v : Int32} : xTn g r v 0 = g := if_pos rfl
theorem xBn_0 {g : Nat → Int32} {r : Nat} {s : Int32} : xBn g r s 0 = g := by
  unfold xBn
  split
  · rfl
  · rfl
theorem xCa_0 (s : Int32) : ∀ (n : Nat) (g : Nat → Int32) (r : Nat) (t : Int32), (xCa s 0 n g r t).2 = g
  | 0, g, r, t => rfl
  | n + 1, g, r, t => by
    unfold xCa
    split
    · show xTn g r (xSh g r + s) 0 = g
      exact xTn_0
    · split
      · show xBn g r s 0 = g
        exact xBn_0
      · rw [xTn_0]; exact xCa_0 s n g (r + 1) _
theorem xTc_0 {g : Nat → Int32} {r : Nat} {v s : Int32} : (xTc g r v s 0).2 = g := by
  unfold xTc
  split
  · rfl
  · rw [xCa_0, xTn_0]
theorem xCh_0 {g : Nat → Int32} {r : Nat} {n : Int32} : (xCh g r n 0).2 = g := by
  unfold xCh
  split
  · show xTn g r (xSh g r + n) 0 = g
    exact xTn_0
  · exact xTc_0
def xPa (g : Nat → Int32) (r : Nat) : Int32 × (Nat → Int32) :=
  if (xCh g r (g (6 * r + 3)) 0).1 = -1 then (0, g) else ((xCh g r (g (6 * r + 3)) 1).1, upd (xCh g r (g (6 * r + 3)) 1).2 (6 * r + 3) 0)
def xOr (g : Nat → Int32) (r : Nat) : Int32 × (Nat → Int32) :=
  if xSh g r - 10 < 0 then (0, g) else if (xTc g r (xSh g r - 10) 1 0).1 = -1 then (0, g) else xTc g r (xSh g r - 10) 1 1
def xRe (g : Nat → Int32) (r : Nat) : Nat → Int32
  | 0 => 0
  | n + 1 => if xTv g r (nI n) = -1 then xRe g r n else xRe g r n + 1
def xSu (f : Nat → Int32) : Nat → Int32
  | 0 => 0
  | n + 1 => xSu f n + f n
def xCt (f : Nat → Prop) [∀ j, Decidable (f j)] : Nat → Int32
  | 0 => 0
  | n + 1 => if f n then xCt f n + 1 else xCt f n
theorem fw_X0_shown_fld9 : Cond.fieldLink RX0 9 "StuckRods$Board" "fives" "[I" ∈ wsX0_shown := (List.mem_cons_of_mem _ (List.mem_append_left _ (List.mem_of_getElem? (i := 0) rfl)))
theorem fl_X0_shown_X0 : ∀ w ∈ wsX00, w ∈ wsX0_shown := fun _ h => List.mem_cons_of_mem _ (List.mem_append_right _ h)
theorem fw_X0_shown_fld15 : Cond.fieldLink RX0 15 "StuckRods$Board" "ones" "[I" ∈ wsX0_shown := (List.mem_cons_of_mem _ (List.mem_append_left _ (List.mem_of_getElem? (i := 1) rfl)))
abbrev rmX0_shown : Room := { frames := 0, cells := 0, slots := 0, locals := 0 }
set_option maxHeartbeats 1000000 in
set_option maxRecDepth 100000 in
theorem c_X0_shown (l : Launch) (D : va_G) (cI cO : ClassId) (ad : Nat → Nat) (g : Nat → Int32) (r : Nat) (hr : r < 9) : cR (fun _ => True) l yX0_shown wsX0_shown rmX0_shown D vwCl (tyA cI cO) [.ref (ad 0), .int (nI r)] (wB ad cI g) (some (.int (xSh g r))) (wB ad cI g) := by
  refine cR_of (cc := cX0_shown) (maxL := 2) (ret := (some .int)) (by decide) rfl (Nat.le_of_ble_eq_true rfl) ?_
  intro p e s m below meth c A C hret hlk hnm hF
  refine g_lv [0, 1] (lv' := [(0, .ref (ad 0)), (1, .int (nI r))]) rfl ?_
  refine g_iconst C (v := 5) dX0_shown_0 ci_5 ?_
  refine g_aload_n C dX0_shown_1 0 rfl ?_
  refine g_get C (v := .ref (ad 1)) fl_X0_shown_X0 0 rfl rfl 0 (by decide) fw_X0_shown_fld9 rfl dX0_shown_2 ?_
  refine g_iload_n C dX0_shown_5 1 rfl ?_
  refine g_iald C (x := g (6 * r + 1)) 1 0 rfl rfl r rfl hr (by decide) rfl dX0_shown_6 ?_
  refine g_imul C (v := 5 * (g (6 * r + 1))) dX0_shown_7 rfl ?_
  refine g_aload_n C dX0_shown_8 0 rfl ?_
  refine g_get C (v := .ref (ad 2)) fl_X0_shown_X0 0 rfl rfl 1 (by decide) fw_X0_shown_fld15 rfl dX0_shown_9 ?_
  refine g_iload_n C dX0_shown_12 1 rfl ?_
  refine g_iald C (x := g (6 * r + 2)) 2 0 rfl rfl r rfl hr (by decide) rfl dX0_shown_13 ?_
  refine g_iadd C (v := (5 * (g (6 * r + 1))) + (g (6 * r + 2))) dX0_shown_14 rfl ?_
  exact g_iret C hret hlk dX0_shown_15 rfl rfl
theorem fw_X0_movesBy_fld9 : Cond.fieldLink RX0 9 "StuckRods$Board" "fives" "[I" ∈ wsX0_movesBy := (List.mem_cons_of_mem _ (List.mem_append_left _ (List.mem_of_getElem? (i := 0) rfl)))
theorem fl_X0_movesBy_X0 : ∀ w ∈ wsX00, w ∈ wsX0_movesBy := fun _ h => List.mem_cons_of_mem _ (List.mem_append_right _ h)
theorem fw_X0_movesBy_abs1 : Cond.methodLink RX0 34 Lib.Math.abs.name ∈ wsX0_movesBy := (List.mem_cons_of_mem _ (List.mem_append_left _ (List.mem_of_getElem? (i := 1) rfl)))
theorem fw_X0_movesBy_abs2 : Cond.static Lib.Math.abs.name ∈ wsX0_movesBy := (List.mem_cons_of_mem _ (List.mem_append_left _ (List.mem_of_getElem? (i := 2) rfl)))
theorem fw_X0_movesBy_abs3 : Cond.initialized "java/lang/Math" ∈ wsX0_movesBy := (List.mem_cons_of_mem _ (List.mem_append_left _ (List.mem_of_getElem? (i := 3) rfl)))
theorem fw_X0_movesBy_abs4 : Cond.code Lib.Math.abs.name Lib.Math.abs.code 1 ( some .int ) ∈ wsX0_movesBy := (List.mem_cons_of_mem _ (List.mem_append_left _ (List.mem_of_getElem? (i := 4) rfl)))
theorem fw_X0_movesBy_fld15 : Cond.fieldLink RX0 15 "StuckRods$Board" "ones" "[I" ∈ wsX0_movesBy := (List.mem_cons_of_mem _ (List.mem_append_left _ (List.mem_of_getElem? (i := 5) rfl)))
theorem fw_X0_movesBy_fld18 : Cond.fieldLink RX0 18 "StuckRods$Board" "stuck" "[I" ∈ wsX0_movesBy := (List.mem_cons_of_mem _ (List.mem_append_left _ (List.mem_of_getElem? (i := 6) rfl)))
abbrev rmX0_movesBy : Room := { frames := 1, cells := 0, slots := 0, locals := 21 }
set_option maxHeartbeats 1000000 in
set_option maxRecDepth 100000 in
theorem c_X0_movesBy (l : Launch) (D : va_G) (cI cO : ClassId) (ad : Nat → Nat) (g : Nat → Int32) (r : Nat) (hr : r < 9) (f o : Int32) : cR (fun _ => True) l yX0_movesBy wsX0_movesBy rmX0_movesBy D vwCl (tyA cI cO) [.ref (ad 0), .int (nI r), .int f, .int o] (wB ad cI g) (some (.int (xMb g r f o))) (wB ad cI g) := by
  refine cR_of (cc := cX0_movesBy) (maxL := 6) (ret := (some .int)) (by decide) rfl (Nat.le_of_ble_eq_true rfl) ?_
  intro p e s m below meth c A C hret hlk hnm hF
  refine g_lv [0, 1, 2, 3] (lv' := [(0, .ref (ad 0)), (1, .int (nI r)), (2, .int f), (3, .int o)]) rfl ?_
  refine g_iload_n C dX0_movesBy_0 3 rfl ?_
  refine g_if_lt C (tgt := 9) dX0_movesBy_1 (by decide) (fun h1_1 => ?_) (fun h1_1 => ?_)
  · refine g_iconst C (v := -1) dX0_movesBy_9 ci_m1 ?_
    exact g_iret C hret hlk dX0_movesBy_10 (by simp only [xMb, eq_true h1_1, Bool.false_eq_true, not_false_eq_true, not_true_eq_false, and_self, and_true, true_and, and_false, false_and, or_true, true_or, or_false, false_or, or_self, if_true, if_false, eq_self, ite_true, ite_false, reduceIte]) rfl
  · refine g_iload_n C dX0_movesBy_4 3 rfl ?_
    refine g_iconst C (v := 5) dX0_movesBy_5 ci_5 ?_
    refine g_icmp_le C (tgt := 11) dX0_movesBy_6 (by decide) (fun h6_2 => ?_) (fun h6_2 => ?_)
    · refine g_iload_n C dX0_movesBy_11 2 rfl ?_
      refine g_aload_n C dX0_movesBy_12 0 rfl ?_
      refine g_get C (v := .ref (ad 1)) fl_X0_movesBy_X0 0 rfl rfl 0 (by decide) fw_X0_movesBy_fld9 rfl dX0_movesBy_13 ?_
      refine g_iload_n C dX0_movesBy_16 1 rfl ?_
      refine g_iald C (x := g (6 * r + 1)) 1 0 rfl rfl r rfl hr (by decide) rfl dX0_movesBy_17 ?_
      refine g_isub C (v := f - (g (6 * r + 1))) dX0_movesBy_18 rfl ?_
      refine g_abs C (v := xAb (f - (g (6 * r + 1)))) dX0_movesBy_19 fw_X0_movesBy_abs1 fw_X0_movesBy_abs2 fw_X0_movesBy_abs3 fw_X0_movesBy_abs4 (Nat.le_of_ble_eq_true rfl) (Nat.le_of_ble_eq_true rfl) (Nat.zero_le _) (Nat.zero_le _) rfl ?_
      refine g_istore C (lv' := [(4, .int (xAb (f - (g (6 * r + 1))))), (0, .ref (ad 0)), (1, .int (nI r)), (2, .int f), (3, .int o)]) dX0_movesBy_22 (by decide) rfl ?_
      refine g_iload_n C dX0_movesBy_24 4 rfl ?_
      refine g_aload_n C dX0_movesBy_25 1 rfl ?_
      refine g_get C (v := .ref (ad 2)) fl_X0_movesBy_X0 0 rfl rfl 1 (by decide) fw_X0_movesBy_fld15 rfl dX0_movesBy_26 ?_
      refine g_iload_n C dX0_movesBy_29 2 rfl ?_
      refine g_iald C (x := g (6 * r + 2)) 2 0 rfl rfl r rfl hr (by decide) rfl dX0_movesBy_30 ?_
      refine g_isub C (v := o - (g (6 * r + 2))) dX0_movesBy_31 rfl ?_
      refine g_abs C (v := xAb (o - (g (6 * r + 2)))) dX0_movesBy_32 fw_X0_movesBy_abs1 fw_X0_movesBy_abs2 fw_X0_movesBy_abs3 fw_X0_movesBy_abs4 (Nat.le_of_ble_eq_true rfl) (Nat.le_of_ble_eq_true rfl) (Nat.zero_le _) (Nat.zero_le _) rfl ?_
      refine g_istore C (lv' := [(5, .int (xAb (o - (g (6 * r + 2))))), (4, .int (xAb (f - (g (6 * r + 1))))), (0, .ref (ad 0)), (1, .int (nI r)), (2, .int f), (3, .int o)]) dX0_movesBy_35 (by decide) rfl ?_
      refine g_iload C dX0_movesBy_37 1 rfl ?_
      refine g_if_le C (tgt := 55) dX0_movesBy_39 (by decide) (fun h39_3 => ?_) (fun h39_3 => ?_)
      · refine g_iload C dX0_movesBy_55 0 rfl ?_
        refine g_if_le C (tgt := 73) dX0_movesBy_57 (by decide) (fun h57_4 => ?_) (fun h57_4 => ?_)
        · refine g_iload C dX0_movesBy_73 1 rfl ?_
          refine g_iload C dX0_movesBy_75 0 rfl ?_
          refine g_iadd C (v := (xAb (f - (g (6 * r + 1)))) + (xAb (o - (g (6 * r + 2))))) dX0_movesBy_77 rfl ?_
          exact g_iret C hret hlk dX0_movesBy_78 (by simp only [xMb, h1_1, eq_true h6_2, eq_true h39_3, eq_true h57_4, Bool.false_eq_true, not_false_eq_true, not_true_eq_false, and_self, and_true, true_and, and_false, false_and, or_true, true_or, or_false, false_or, or_self, if_true, if_false, eq_self, ite_true, ite_false, reduceIte]) rfl
        · refine g_aload_n C dX0_movesBy_60 2 rfl ?_
          refine g_get C (v := .ref (ad 3)) fl_X0_movesBy_X0 0 rfl rfl 2 (by decide) fw_X0_movesBy_fld18 rfl dX0_movesBy_61 ?_
          refine g_iload_n C dX0_movesBy_64 3 rfl ?_
          refine g_iald C (x := g (6 * r + 4)) 3 0 rfl rfl r rfl hr (by decide) rfl dX0_movesBy_65 ?_
          refine g_iconst C (v := 2) dX0_movesBy_66 ci_2 ?_
          refine g_iand C (v := (g (6 * r + 4)) &&& 2) dX0_movesBy_67 rfl ?_
          refine g_if_eq C (tgt := 73) dX0_movesBy_68 (by decide) (fun h68_5 => ?_) (fun h68_5 => ?_)
          · refine g_iload C dX0_movesBy_73 1 rfl ?_
            refine g_iload C dX0_movesBy_75 0 rfl ?_
            refine g_iadd C (v := (xAb (f - (g (6 * r + 1)))) + (xAb (o - (g (6 * r + 2))))) dX0_movesBy_77 rfl ?_
            exact g_iret C hret hlk dX0_movesBy_78 (by simp only [xMb, h1_1, eq_true h6_2, eq_true h39_3, h57_4, eq_true h68_5, Bool.false_eq_true, not_false_eq_true, not_true_eq_false, and_self, and_true, true_and, and_false, false_and, or_true, true_or, or_false, false_or, or_self, if_true, if_false, eq_self, ite_true, ite_false, reduceIte]) rfl
          · refine g_iconst C (v := -1) dX0_movesBy_71 ci_m1 ?_
            exact g_iret C hret hlk dX0_movesBy_72 (by simp only [xMb, h1_1, eq_true h6_2, eq_true h39_3, h57_4, h68_5, Bool.false_eq_true, not_false_eq_true, not_true_eq_false, and_self, and_true, true_and, and_false, false_and, or_true, true_or, or_false, false_or, or_self, if_true, if_false, eq_self, ite_true, ite_false, reduceIte]) rfl
      · refine g_aload_n C dX0_movesBy_42 2 rfl ?_
        refine g_get C (v := .ref (ad 3)) fl_X0_movesBy_X0 0 rfl rfl 2 (by decide) fw_X0_movesBy_fld18 rfl dX0_movesBy_43 ?_
        refine g_iload_n C dX0_movesBy_46 3 rfl ?_
        refine g_iald C (x := g (6 * r + 4)) 3 0 rfl rfl r rfl hr (by decide) rfl dX0_movesBy_47 ?_
        refine g_iconst C (v := 1) dX0_movesBy_48 ci_1 ?_
        refine g_iand C (v := (g (6 * r + 4)) &&& 1) dX0_movesBy_49 rfl ?_
        refine g_if_eq C (tgt := 55) dX0_movesBy_50 (by decide) (fun h50_6 => ?_) (fun h50_6 => ?_)
        · refine g_iload C dX0_movesBy_55 0 rfl ?_
          refine g_if_le C (tgt := 73) dX0_movesBy_57 (by decide) (fun h57_7 => ?_) (fun h57_7 => ?_)
          · refine g_iload C dX0_movesBy_73 1 rfl ?_
            refine g_iload C dX0_movesBy_75 0 rfl ?_
            refine g_iadd C (v := (xAb (f - (g (6 * r + 1)))) + (xAb (o - (g (6 * r + 2))))) dX0_movesBy_77 rfl ?_
            exact g_iret C hret hlk dX0_movesBy_78 (by simp only [xMb, h1_1, eq_true h6_2, h39_3, eq_true h50_6, eq_true h57_7, Bool.false_eq_true, not_false_eq_true, not_true_eq_false, and_self, and_true, true_and, and_false, false_and, or_true, true_or, or_false, false_or, or_self, if_true, if_false, eq_self, ite_true, ite_false, reduceIte]) rfl
          · refine g_aload_n C dX0_movesBy_60 2 rfl ?_
            refine g_get C (v := .ref (ad 3)) fl_X0_movesBy_X0 0 rfl rfl 2 (by decide) fw_X0_movesBy_fld18 rfl dX0_movesBy_61 ?_
            refine g_iload_n C dX0_movesBy_64 3 rfl ?_
            refine g_iald C (x := g (6 * r + 4)) 3 0 rfl rfl r rfl hr (by decide) rfl dX0_movesBy_65 ?_
            refine g_iconst C (v := 2) dX0_movesBy_66 ci_2 ?_
            refine g_iand C (v := (g (6 * r + 4)) &&& 2) dX0_movesBy_67 rfl ?_
            refine g_if_eq C (tgt := 73) dX0_movesBy_68 (by decide) (fun h68_8 => ?_) (fun h68_8 => ?_)
            · refine g_iload C dX0_movesBy_73 1 rfl ?_
              refine g_iload C dX0_movesBy_75 0 rfl ?_
              refine g_iadd C (v := (xAb (f - (g (6 * r + 1)))) + (xAb (o - (g (6 * r + 2))))) dX0_movesBy_77 rfl ?_
              exact g_iret C hret hlk dX0_movesBy_78 (by simp only [xMb, h1_1, eq_true h6_2, h39_3, eq_true h50_6, h57_7, eq_true h68_8, Bool.false_eq_true, not_false_eq_true, not_true_eq_false, and_self, and_true, true_and, and_false, false_and, or_true, true_or, or_false, false_or, or_self, if_true, if_false, eq_self, ite_true, ite_false, reduceIte]) rfl
            · refine g_iconst C (v := -1) dX0_movesBy_71 ci_m1 ?_
              exact g_iret C hret hlk dX0_movesBy_72 (by simp only [xMb, h1_1, eq_true h6_2, h39_3, eq_true h50_6, h57_7, h68_8, Bool.false_eq_true, not_false_eq_true, not_true_eq_false, and_self, and_true, true_and, and_false, false_and, or_true, true_or, or_false, false_or, or_self, if_true, if_false, eq_self, ite_true, ite_false, reduceIte]) rfl
        · refine g_iconst C (v := -1) dX0_movesBy_53 ci_m1 ?_
          exact g_iret C hret hlk dX0_movesBy_54 (by simp only [xMb, h1_1, eq_true h6_2, h39_3, h50_6, Bool.false_eq_true, not_false_eq_true, not_true_eq_false, and_self, and_true, true_and, and_false, false_and, or_true, true_or, or_false, false_or, or_self, if_true, if_false, eq_self, ite_true, ite_false, reduceIte]) rfl
    · refine g_iconst C (v := -1) dX0_movesBy_9 ci_m1 ?_
      exact g_iret C hret hlk dX0_movesBy_10 (by simp only [xMb, h1_1, h6_2, Bool.false_eq_true, not_false_eq_true, not_true_eq_false, and_self, and_true, true_and, and_false, false_and, or_true, true_or, or_false, false_or, or_self, if_true, if_false, eq_self, ite_true, ite_false, reduceIte]) rfl
theorem fw_X0_place_fld9 : Cond.fieldLink RX0 9 "StuckRods$Board" "fives" "[I" ∈ wsX0_place := (List.mem_cons_of_mem _ (List.mem_append_left _ (List.mem_of_getElem? (i := 0) rfl)))
theorem fl_X0_place_X0 : ∀ w ∈ wsX00, w ∈ wsX0_place := fun _ h => List.mem_cons_of_mem _ (List.mem_append_right _ h)
theorem fw_X0_place_fld15 : Cond.fieldLink RX0 15 "StuckRods$Board" "ones" "[I" ∈ wsX0_place := (List.mem_cons_of_mem _ (List.mem_append_left _ (List.mem_of_getElem? (i := 1) rfl)))
theorem fw_X0_place_fld24 : Cond.fieldLink RX0 24 "StuckRods$Board" "moved" "[I" ∈ wsX0_place := (List.mem_cons_of_mem _ (List.mem_append_left _ (List.mem_of_getElem? (i := 2) rfl)))
abbrev rmX0_place : Room := { frames := 0, cells := 0, slots := 0, locals := 0 }
set_option maxHeartbeats 1000000 in
set_option maxRecDepth 100000 in
theorem c_X0_place (l : Launch) (D : va_G) (cI cO : ClassId) (ad : Nat → Nat) (g : Nat → Int32) (r : Nat) (hr : r < 9) (f o q : Int32) : cR (fun _ => True) l yX0_place wsX0_place rmX0_place D vwCl (tyA cI cO) [.ref (ad 0), .int (nI r), .int f, .int o, .int q] (wB ad cI g) none (wB ad cI (xPl g r f o q)) := by
  refine cR_of (cc := cX0_place) (maxL := 5) (ret := none) (by decide) rfl (Nat.le_of_ble_eq_true rfl) ?_
  intro p e s m below meth c A C hret hlk hnm hF
  refine g_lv [0, 1, 2, 3, 4] (lv' := [(0, .ref (ad 0)), (1, .int (nI r)), (2, .int f), (3, .int o), (4, .int q)]) rfl ?_
  refine g_aload_n C dX0_place_0 0 rfl ?_
  refine g_get C (v := .ref (ad 1)) fl_X0_place_X0 0 rfl rfl 0 (by decide) fw_X0_place_fld9 rfl dX0_place_1 ?_
  refine g_iload_n C dX0_place_4 1 rfl ?_
  refine g_iload_n C dX0_place_5 2 rfl ?_
  refine g_iast C (ws' := (wB ad cI (upd g (6 * r + 1) f))) 1 0 rfl rfl r rfl hr (by decide) dX0_place_6 (wB_1 ad cI g r f) ?_
  refine g_aload_n C dX0_place_7 0 rfl ?_
  refine g_get C (v := .ref (ad 2)) fl_X0_place_X0 0 rfl rfl 1 (by decide) fw_X0_place_fld15 rfl dX0_place_8 ?_
  refine g_iload_n C dX0_place_11 1 rfl ?_
  refine g_iload_n C dX0_place_12 3 rfl ?_
  refine g_iast C (ws' := (wB ad cI (upd (upd g (6 * r + 1) f) (6 * r + 2) o))) 2 0 rfl rfl r rfl hr (by decide) dX0_place_13 (wB_2 ad cI (upd g (6 * r + 1) f) r o) ?_
  refine g_aload_n C dX0_place_14 0 rfl ?_
  refine g_get C (v := .ref (ad 5)) fl_X0_place_X0 0 rfl rfl 4 (by decide) fw_X0_place_fld24 rfl dX0_place_15 ?_
  refine g_iload_n C dX0_place_18 1 rfl ?_
  refine g_dup2 C dX0_place_19 rfl rfl ?_
  refine g_iald C (x := (upd (upd g (6 * r + 1) f) (6 * r + 2) o) (6 * r + 5)) 5 0 rfl rfl r rfl hr (by decide) rfl dX0_place_20 ?_
  refine g_iload C dX0_place_21 4 rfl ?_
  refine g_iadd C (v := ((upd (upd g (6 * r + 1) f) (6 * r + 2) o) (6 * r + 5)) + q) dX0_place_23 rfl ?_
  refine g_iast C (ws' := (wB ad cI (upd (upd (upd g (6 * r + 1) f) (6 * r + 2) o) (6 * r + 5) (((upd (upd g (6 * r + 1) f) (6 * r + 2) o) (6 * r + 5)) + q)))) 5 0 rfl rfl r rfl hr (by decide) dX0_place_24 (wB_5 ad cI (upd (upd g (6 * r + 1) f) (6 * r + 2) o) r (((upd (upd g (6 * r + 1) f) (6 * r + 2) o) (6 * r + 5)) + q)) ?_
  exact g_vret C hret hlk dX0_place_25 rfl
theorem xFi_nn {j : Nat} (h : j + 1 ≤ 3) : ¬ xFi (j + 1) < 0 := by
  rcases (show j = 0 ∨ j = 1 ∨ j = 2 by omega) with h | h | h <;> subst h <;> decide
theorem xFi_dec {j : Nat} (h : j + 1 ≤ 3) : xFi (j + 1) + Int32.ofInt (-1) = xFi j := by
  rcases (show j = 0 ∨ j = 1 ∨ j = 2 by omega) with h | h | h <;> subst h <;> decide
theorem bz {q : Prop} [Decidable q] (h : (if q then (1 : Int32) else 0) = 0) : ¬ q := fun hq => by rw [if_pos hq] at h; exact absurd h (by decide)
theorem bnz {q : Prop} [Decidable q] (h : ¬ (if q then (1 : Int32) else 0) = 0) : q := Decidable.byContradiction fun hq => h (if_neg hq)
theorem ws_setl {a a1 b : va_W} {q : Nat} {x : Nat × va_E} (hq : q < a.length) (t : a.set q x = a1) : (a ++ b).set q x = a1 ++ b := by rw [List.set_append, if_pos hq, t]
theorem ws_setr {a b b1 : va_W} {q q1 : Nat} {x : Nat × va_E} (hq : q = a.length + q1) (t : b.set q1 x = b1) : (a ++ b).set q x = a ++ b1 := by rw [List.set_append, if_neg (by omega), show q - a.length = q1 by omega, t]
theorem cell_i {cA : ClassId} {N : Nat} {f f1 : Nat → Int32} (h : ∀ j, j < N → f j = f1 j) : vp_cell cA (N, .inl f) = vp_cell cA (N, .inl f1) := by
  show arrV cA N (fun j => .int (f j)) = arrV cA N (fun j => .int (f1 j))
  unfold arrV
  congr 2
  funext j
  exact congrArg Value.int (h j.val j.isLt)
theorem at_i {D : va_G} {cl : List vw_C} {a : Nat} {cA : ClassId} {N : Nat} {f f1 : Nat → Int32} {H : Heap} (h : ∀ j, j < N → f j = f1 j) (hp : va_at D cl (a, .inl (cA, N, .inl f)) H) : va_at D cl (a, .inl (cA, N, .inl f1)) H := by
  show H[a]? = some (vp_cell cA (N, .inl f1))
  rw [← cell_i h]
  exact hp
theorem wD_same {A : Nat → Prop} {a b : va_W} (hm : a.map Prod.fst = b.map Prod.fst) (h : va_D A a) : va_D A b := by
  have key : ∀ (k : Nat) (q : Nat × va_E), b[k]? = some q → ∃ e, a[k]? = some (q.1, e) := fun k q hk => by
    have h1 : (b.map Prod.fst)[k]? = some q.1 := by rw [List.getElem?_map, hk]; rfl
    rw [← hm, List.getElem?_map] at h1
    cases hz : a[k]? with
    | none => rw [hz] at h1; cases h1
    | some z => rw [hz] at h1; exact ⟨z.2, by rw [← Option.some.inj h1]⟩
  refine ⟨fun i j p q hi hj he => ?_, fun k q hk => ?_⟩
  · obtain ⟨e1, h1⟩ := key i p hi
    obtain ⟨e2, h2⟩ := key j q hj
    exact h.1 i j _ _ h1 h2 he
  · obtain ⟨e1, h1⟩ := key k q hk
    exact (h.2 k (q.1, e1) h1 : A q.1)
theorem wB_eq {D : va_G} {cl : List vw_C} {ad : Nat → Nat} {cI : ClassId} {g g1 : Nat → Int32} {H : Heap} (h : ∀ j, j < 55 → g j = g1 j) (hp : va_P D cl (wB ad cI g) H) : va_P D cl (wB ad cI g1) H := by
  intro k q hk
  have hk7 : k < 7 := (List.getElem?_eq_some_iff.mp hk).1
  rcases (show k = 0 ∨ k = 1 ∨ k = 2 ∨ k = 3 ∨ k = 4 ∨ k = 5 ∨ k = 6 by omega) with e | e | e | e | e | e | e <;> subst e <;> cases hk
  · have := hp 0 _ rfl
    rw [h 0 (by decide)] at this
    exact this
  all_goals first | exact at_i (fun j hj => h _ (by omega)) (hp 1 _ rfl) | exact at_i (fun j hj => h _ (by omega)) (hp 2 _ rfl) | exact at_i (fun j hj => h _ (by omega)) (hp 3 _ rfl) | exact at_i (fun j hj => h _ (by omega)) (hp 4 _ rfl) | exact at_i (fun j hj => h _ (by omega)) (hp 5 _ rfl) | exact at_i (fun j hj => h _ (by omega)) (hp 6 _ rfl)
theorem inc_x (x : Int32) : x + Int32.ofInt 1 = x + 1 := by rw [ci_1]
theorem inc_nI (k : Nat) : nI k + Int32.ofInt 1 = nI (k + 1) := nI_1 k
theorem ge9 {k : Nat} (h : k < 9) : ¬ (9 : Int32) ≤ nI k := fun z => absurd ((nI_leI (a := 9) (b := k) (by decide) (by omega)).mp z) (by omega)
theorem hd_X0_place : yX0_place.cls = RX0 ∧ yX0_place.cls ≠ "java/lang/invoke/MethodHandle" ∧ yX0_place.cls ≠ "java/lang/invoke/VarHandle" ∧ (parseMethodDescriptor yX0_place.desc).map (fun d => d.parameters.length) = some 4 := by decide +kernel
theorem hd_X0_movesBy : yX0_movesBy.cls = RX0 ∧ yX0_movesBy.cls ≠ "java/lang/invoke/MethodHandle" ∧ yX0_movesBy.cls ≠ "java/lang/invoke/VarHandle" ∧ (parseMethodDescriptor yX0_movesBy.desc).map (fun d => d.parameters.length) = some 3 := by decide +kernel
abbrev rmX0_turn : Room := { frames := 2, cells := 0, slots := 0, locals := 46 }
set_option maxHeartbeats 1000000 in
set_option maxRecDepth 100000 in
theorem c_X0_turn (l : Launch) (D : va_G) (cI cO : ClassId) (ad : Nat → Nat) (g : Nat → Int32) (r : Nat) (hr : r < 9) (v d : Int32) : cR (fun _ => True) l yX0_turn wsX0_turn rmX0_turn D vwCl (tyA cI cO) [.ref (ad 0), .int (nI r), .int v, .int d] (wB ad cI g) (some (.int (xTv g r v))) (wB ad cI (xTn g r v d)) := by
  refine cR_of (cc := cX0_turn) (maxL := 8) (ret := (some .int)) (by decide) rfl (Nat.le_of_ble_eq_true rfl) ?_
  intro p e s m below meth c A C hret hlk hnm hF
  refine g_lv [0, 1, 2, 3] (lv' := [(0, .ref (ad 0)), (1, .int (nI r)), (2, .int v), (3, .int d)]) rfl ?_
  have K : ∀ (j : Nat), j ≤ 3 → ∀ q : Int32 × Int32, xTf g r v j q = xTq g r v → gG p l e rmX0_turn s m ([.ref (ad 0), .int (nI r), .int v, .int d] : List Value).toArray below meth c D vwCl A s.heap 8 (MQ below (cQ (some (.int (xTv g r v))) (cB D vwCl (tyA cI cO) A (wB ad cI (xTn g r v d))) A) ([.ref (ad 0), .int (nI r), .int v, .int d] : List Value).toArray s 0 0 A) 0 0 (wB ad cI g) 9 [(0, .ref (ad 0)), (1, .int (nI r)), (2, .int v), (3, .int d), (4, .int q.1), (5, .int q.2), (6, .int (xFi j))] [] := by
    intro j
    induction j with
    | zero =>
      intro _ q hq
      have hq : q = xTq g r v := hq
      subst hq
      refine g_iload C dX0_turn_9 6 rfl ?_
      refine g_if_lt C (tgt := 62) dX0_turn_11 (by decide) (fun _ => ?_) (fun h11_1 => absurd (by decide) h11_1)
      refine g_iload_n C dX0_turn_62 3 rfl ?_
      refine g_if_eq C (tgt := 87) dX0_turn_63 (by decide) (fun h63_2 => ?_) (fun h63_2 => ?_)
      · refine g_iload C dX0_turn_87 4 rfl ?_
        exact g_iret C hret hlk dX0_turn_89 rfl (by simp only [xTn, eq_true h63_2, Bool.false_eq_true, not_false_eq_true, not_true_eq_false, and_self, and_true, true_and, and_false, false_and, or_true, true_or, or_false, false_or, or_self, if_true, if_false, eq_self, ite_true, ite_false, reduceIte])
      · refine g_iload C dX0_turn_66 4 rfl ?_
        refine g_iconst C (v := -1) dX0_turn_68 ci_m1 ?_
        refine g_icmp_eq C (tgt := 87) dX0_turn_69 (by decide) (fun h69_3 => ?_) (fun h69_3 => ?_)
        · refine g_iload C dX0_turn_87 4 rfl ?_
          exact g_iret C hret hlk dX0_turn_89 rfl (by simp only [xTn, h63_2, eq_true h69_3, Bool.false_eq_true, not_false_eq_true, not_true_eq_false, and_self, and_true, true_and, and_false, false_and, or_true, true_or, or_false, false_or, or_self, if_true, if_false, eq_self, ite_true, ite_false, reduceIte])
        · refine g_aload_n C dX0_turn_72 0 rfl ?_
          refine g_iload_n C dX0_turn_73 1 rfl ?_
          refine g_iload C dX0_turn_74 5 rfl ?_
          refine g_iload_n C dX0_turn_76 2 rfl ?_
          refine g_iconst C (v := 5) dX0_turn_77 ci_5 ?_
          refine g_iload C dX0_turn_78 5 rfl ?_
          refine g_imul C (v := 5 * ((xTq g r v).2)) dX0_turn_80 rfl ?_
          refine g_isub C (v := v - (5 * ((xTq g r v).2))) dX0_turn_81 rfl ?_
          refine g_iload C dX0_turn_82 4 rfl ?_
          refine g_callVv C (c_X0_place l D cI cO ad g r hr ((xTq g r v).2) (v - (5 * ((xTq g r v).2))) ((xTq g r v).1)) gX0_turn_X0_place rfl ⟨rfl, rfl⟩ hd_X0_place ⟨Nat.le_of_ble_eq_true rfl, Nat.le_of_ble_eq_true rfl⟩ [0, 1] rfl (fun _ _ => trivial) rfl (rest := []) rfl (Nat.le_of_ble_eq_true rfl) dX0_turn_84 ⟨Nat.zero_le _, Nat.zero_le _⟩ 0 rfl rfl rfl (pre := []) (post := []) (ws' := (wB ad cI (xPl g r ((xTq g r v).2) (v - (5 * ((xTq g r v).2))) ((xTq g r v).1)))) rfl rfl ?_
          refine g_iload C dX0_turn_87 4 rfl ?_
          exact g_iret C hret hlk dX0_turn_89 rfl (by simp only [xTn, h63_2, h69_3, Bool.false_eq_true, not_false_eq_true, not_true_eq_false, and_self, and_true, true_and, and_false, false_and, or_true, true_or, or_false, false_or, or_self, if_true, if_false, eq_self, ite_true, ite_false, reduceIte])
    | succ j ih =>
      intro hj q hq
      refine g_iload C dX0_turn_9 6 rfl ?_
      refine g_if_lt C (tgt := 62) dX0_turn_11 (by decide) (fun h11_4 => absurd h11_4 (xFi_nn hj)) (fun _ => ?_)
      refine g_aload_n C dX0_turn_14 0 rfl ?_
      refine g_iload_n C dX0_turn_15 1 rfl ?_
      refine g_iload C dX0_turn_16 6 rfl ?_
      refine g_iload_n C dX0_turn_18 2 rfl ?_
      refine g_iconst C (v := 5) dX0_turn_19 ci_5 ?_
      refine g_iload C dX0_turn_20 6 rfl ?_
      refine g_imul C (v := 5 * (xFi (j + 1))) dX0_turn_22 rfl ?_
      refine g_isub C (v := v - (5 * (xFi (j + 1)))) dX0_turn_23 rfl ?_
      refine g_callVi C (c_X0_movesBy l D cI cO ad g r hr (xFi (j + 1)) (v - (5 * (xFi (j + 1))))) gX0_turn_X0_movesBy rfl ⟨rfl, rfl⟩ hd_X0_movesBy ⟨Nat.le_of_ble_eq_true rfl, Nat.le_of_ble_eq_true rfl⟩ [0, 1] rfl (fun _ _ => trivial) rfl (rest := []) rfl (Nat.le_of_ble_eq_true rfl) dX0_turn_24 ⟨Nat.zero_le _, Nat.zero_le _⟩ 0 rfl rfl rfl (pre := []) (post := []) (ws' := (wB ad cI g)) rfl rfl ?_
      refine g_istore C (lv' := [(7, .int (xMb g r (xFi (j + 1)) (v - (5 * (xFi (j + 1)))))), (0, .ref (ad 0)), (1, .int (nI r)), (2, .int v), (3, .int d), (4, .int q.1), (5, .int q.2), (6, .int (xFi (j + 1)))]) dX0_turn_27 (by decide) rfl ?_
      refine g_iload C dX0_turn_29 0 rfl ?_
      refine g_iconst C (v := -1) dX0_turn_31 ci_m1 ?_
      refine g_icmp_eq C (tgt := 56) dX0_turn_32 (by decide) (fun h32_5 => ?_) (fun h32_5 => ?_)
      · refine g_iinc C (v := xFi j) (lv' := [(6, .int (xFi j)), (7, .int (xMb g r (xFi (j + 1)) (v - (5 * (xFi (j + 1)))))), (0, .ref (ad 0)), (1, .int (nI r)), (2, .int v), (3, .int d), (4, .int q.1), (5, .int q.2)]) dX0_turn_56 7 rfl (xFi_dec hj) (by decide) rfl ?_
        refine g_goto C (tgt := 9) dX0_turn_59 (by decide) ?_
        refine g_lv [2, 3, 4, 5, 6, 7, 0] (lv' := [(0, .ref (ad 0)), (1, .int (nI r)), (2, .int v), (3, .int d), (4, .int q.1), (5, .int q.2), (6, .int (xFi j))]) rfl ?_
        exact ih (by omega) (q.1, q.2) (by rw [← hq]; simp only [xTf, xTs, eq_true h32_5, Bool.false_eq_true, not_false_eq_true, not_true_eq_false, and_self, and_true, true_and, and_false, false_and, or_true, true_or, or_false, false_or, or_self, if_true, if_false, eq_self, ite_true, ite_false, reduceIte])
      · refine g_iload C dX0_turn_35 5 rfl ?_
        refine g_iconst C (v := -1) dX0_turn_37 ci_m1 ?_
        refine g_icmp_eq C (tgt := 48) dX0_turn_38 (by decide) (fun h38_6 => ?_) (fun h38_6 => ?_)
        · refine g_iload C dX0_turn_48 0 rfl ?_
          refine g_istore C (lv' := [(4, .int (xMb g r (xFi (j + 1)) (v - (5 * (xFi (j + 1)))))), (7, .int (xMb g r (xFi (j + 1)) (v - (5 * (xFi (j + 1)))))), (0, .ref (ad 0)), (1, .int (nI r)), (2, .int v), (3, .int d), (5, .int q.2), (6, .int (xFi (j + 1)))]) dX0_turn_50 (by decide) rfl ?_
          refine g_iload C dX0_turn_52 7 rfl ?_
          refine g_istore C (lv' := [(5, .int (xFi (j + 1))), (4, .int (xMb g r (xFi (j + 1)) (v - (5 * (xFi (j + 1)))))), (7, .int (xMb g r (xFi (j + 1)) (v - (5 * (xFi (j + 1)))))), (0, .ref (ad 0)), (1, .int (nI r)), (2, .int v), (3, .int d), (6, .int (xFi (j + 1)))]) dX0_turn_54 (by decide) rfl ?_
          refine g_iinc C (v := xFi j) (lv' := [(6, .int (xFi j)), (5, .int (xFi (j + 1))), (4, .int (xMb g r (xFi (j + 1)) (v - (5 * (xFi (j + 1)))))), (7, .int (xMb g r (xFi (j + 1)) (v - (5 * (xFi (j + 1)))))), (0, .ref (ad 0)), (1, .int (nI r)), (2, .int v), (3, .int d)]) dX0_turn_56 7 rfl (xFi_dec hj) (by decide) rfl ?_
          refine g_goto C (tgt := 9) dX0_turn_59 (by decide) ?_
          refine g_lv [4, 5, 6, 7, 2, 1, 0] (lv' := [(0, .ref (ad 0)), (1, .int (nI r)), (2, .int v), (3, .int d), (4, .int (xMb g r (xFi (j + 1)) (v - (5 * (xFi (j + 1)))))), (5, .int (xFi (j + 1))), (6, .int (xFi j))]) rfl ?_
          exact ih (by omega) (xMb g r (xFi (j + 1)) (v - (5 * (xFi (j + 1)))), xFi (j + 1)) (by rw [← hq]; simp only [xTf, xTs, h32_5, eq_true h38_6, Bool.false_eq_true, not_false_eq_true, not_true_eq_false, and_self, and_true, true_and, and_false, false_and, or_true, true_or, or_false, false_or, or_self, if_true, if_false, eq_self, ite_true, ite_false, reduceIte])
        · refine g_iload C dX0_turn_41 0 rfl ?_
          refine g_iload C dX0_turn_43 5 rfl ?_
          refine g_icmp_ge C (tgt := 56) dX0_turn_45 (by decide) (fun h45_7 => ?_) (fun h45_7 => ?_)
          · refine g_iinc C (v := xFi j) (lv' := [(6, .int (xFi j)), (7, .int (xMb g r (xFi (j + 1)) (v - (5 * (xFi (j + 1)))))), (0, .ref (ad 0)), (1, .int (nI r)), (2, .int v), (3, .int d), (4, .int q.1), (5, .int q.2)]) dX0_turn_56 7 rfl (xFi_dec hj) (by decide) rfl ?_
            refine g_goto C (tgt := 9) dX0_turn_59 (by decide) ?_
            refine g_lv [2, 3, 4, 5, 6, 7, 0] (lv' := [(0, .ref (ad 0)), (1, .int (nI r)), (2, .int v), (3, .int d), (4, .int q.1), (5, .int q.2), (6, .int (xFi j))]) rfl ?_
            exact ih (by omega) (q.1, q.2) (by rw [← hq]; simp only [xTf, xTs, h32_5, h38_6, eq_true h45_7, Bool.false_eq_true, not_false_eq_true, not_true_eq_false, and_self, and_true, true_and, and_false, false_and, or_true, true_or, or_false, false_or, or_self, if_true, if_false, eq_self, ite_true, ite_false, reduceIte])
          · refine g_iload C dX0_turn_48 0 rfl ?_
            refine g_istore C (lv' := [(4, .int (xMb g r (xFi (j + 1)) (v - (5 * (xFi (j + 1)))))), (7, .int (xMb g r (xFi (j + 1)) (v - (5 * (xFi (j + 1)))))), (0, .ref (ad 0)), (1, .int (nI r)), (2, .int v), (3, .int d), (5, .int q.2), (6, .int (xFi (j + 1)))]) dX0_turn_50 (by decide) rfl ?_
            refine g_iload C dX0_turn_52 7 rfl ?_
            refine g_istore C (lv' := [(5, .int (xFi (j + 1))), (4, .int (xMb g r (xFi (j + 1)) (v - (5 * (xFi (j + 1)))))), (7, .int (xMb g r (xFi (j + 1)) (v - (5 * (xFi (j + 1)))))), (0, .ref (ad 0)), (1, .int (nI r)), (2, .int v), (3, .int d), (6, .int (xFi (j + 1)))]) dX0_turn_54 (by decide) rfl ?_
            refine g_iinc C (v := xFi j) (lv' := [(6, .int (xFi j)), (5, .int (xFi (j + 1))), (4, .int (xMb g r (xFi (j + 1)) (v - (5 * (xFi (j + 1)))))), (7, .int (xMb g r (xFi (j + 1)) (v - (5 * (xFi (j + 1)))))), (0, .ref (ad 0)), (1, .int (nI r)), (2, .int v), (3, .int d)]) dX0_turn_56 7 rfl (xFi_dec hj) (by decide) rfl ?_
            refine g_goto C (tgt := 9) dX0_turn_59 (by decide) ?_
            refine g_lv [4, 5, 6, 7, 2, 1, 0] (lv' := [(0, .ref (ad 0)), (1, .int (nI r)), (2, .int v), (3, .int d), (4, .int (xMb g r (xFi (j + 1)) (v - (5 * (xFi (j + 1)))))), (5, .int (xFi (j + 1))), (6, .int (xFi j))]) rfl ?_
            exact ih (by omega) (xMb g r (xFi (j + 1)) (v - (5 * (xFi (j + 1)))), xFi (j + 1)) (by rw [← hq]; simp only [xTf, xTs, h32_5, h38_6, h45_7, Bool.false_eq_true, not_false_eq_true, not_true_eq_false, and_self, and_true, true_and, and_false, false_and, or_true, true_or, or_false, false_or, or_self, if_true, if_false, eq_self, ite_true, ite_false, reduceIte])
  refine g_iconst C (v := -1) dX0_turn_0 ci_m1 ?_
  refine g_istore C (lv' := [(4, .int (-1)), (0, .ref (ad 0)), (1, .int (nI r)), (2, .int v), (3, .int d)]) dX0_turn_1 (by decide) rfl ?_
  refine g_iconst C (v := 0) dX0_turn_3 ci_0 ?_
  refine g_istore C (lv' := [(5, .int 0), (4, .int (-1)), (0, .ref (ad 0)), (1, .int (nI r)), (2, .int v), (3, .int d)]) dX0_turn_4 (by decide) rfl ?_
  refine g_iconst C (v := 2) dX0_turn_6 ci_2 ?_
  refine g_istore C (lv' := [(6, .int 2), (5, .int 0), (4, .int (-1)), (0, .ref (ad 0)), (1, .int (nI r)), (2, .int v), (3, .int d)]) dX0_turn_7 (by decide) rfl ?_
  refine g_lv [3, 4, 5, 6, 2, 1, 0] (lv' := [(0, .ref (ad 0)), (1, .int (nI r)), (2, .int v), (3, .int d), (4, .int (-1)), (5, .int 0), (6, .int 2)]) rfl ?_
  exact K 3 (Nat.le_refl _) (-1, 0) rfl
theorem xBo_or {g : Nat → Int32} {r : Nat} {s : Int32} : True := trivial
theorem fw_X0_borrow_fld21 : Cond.fieldLink RX0 21 "StuckRods$Board" "loan" "[I" ∈ wsX0_borrow := (List.mem_cons_of_mem _ (List.mem_append_left _ (List.mem_of_getElem? (i := 0) rfl)))
theorem fl_X0_borrow_X0 : ∀ w ∈ wsX00, w ∈ wsX0_borrow := fun _ h => List.mem_cons_of_mem _ (List.mem_append_right _ h)
theorem fw_X0_borrow_fld30 : Cond.fieldLink RX0 30 "StuckRods$Board" "setting" "I" ∈ wsX0_borrow := (List.mem_cons_of_mem _ (List.mem_append_left _ (List.mem_of_getElem? (i := 1) rfl)))
theorem fw_X0_borrow_fld27 : Cond.fieldLink RX0 27 "StuckRods$Board" "borrowed" "[I" ∈ wsX0_borrow := (List.mem_cons_of_mem _ (List.mem_append_left _ (List.mem_of_getElem? (i := 2) rfl)))
abbrev rmX0_borrow : Room := { frames := 0, cells := 0, slots := 0, locals := 0 }
set_option maxHeartbeats 1000000 in
set_option maxRecDepth 100000 in
theorem c_X0_borrow (l : Launch) (D : va_G) (cI cO : ClassId) (ad : Nat → Nat) (g : Nat → Int32) (r : Nat) (hr : r < 9) (s9 d : Int32) : cR (fun _ => True) l yX0_borrow wsX0_borrow rmX0_borrow D vwCl (tyA cI cO) [.ref (ad 0), .int (nI r), .int s9, .int d] (wB ad cI g) (some (.int ((if (g (6 * r + 3) + s9) * s9 ≤ g 0 then 1 else 0)))) (wB ad cI (xBn g r s9 d)) := by
  refine cR_of (cc := cX0_borrow) (maxL := 5) (ret := (some .boolean)) (by decide) rfl (Nat.le_of_ble_eq_true rfl) ?_
  intro p e s m below meth c A C hret hlk hnm hF
  refine g_lv [0, 1, 2, 3] (lv' := [(0, .ref (ad 0)), (1, .int (nI r)), (2, .int s9), (3, .int d)]) rfl ?_
  refine g_aload_n C dX0_borrow_0 0 rfl ?_
  refine g_get C (v := .ref (ad 4)) fl_X0_borrow_X0 0 rfl rfl 3 (by decide) fw_X0_borrow_fld21 rfl dX0_borrow_1 ?_
  refine g_iload_n C dX0_borrow_4 1 rfl ?_
  refine g_iald C (x := g (6 * r + 3)) 4 0 rfl rfl r rfl hr (by decide) rfl dX0_borrow_5 ?_
  refine g_iload_n C dX0_borrow_6 2 rfl ?_
  refine g_iadd C (v := (g (6 * r + 3)) + s9) dX0_borrow_7 rfl ?_
  refine g_istore C (lv' := [(4, .int ((g (6 * r + 3)) + s9)), (0, .ref (ad 0)), (1, .int (nI r)), (2, .int s9), (3, .int d)]) dX0_borrow_8 (by decide) rfl ?_
  refine g_iload C dX0_borrow_10 0 rfl ?_
  refine g_iload_n C dX0_borrow_12 3 rfl ?_
  refine g_imul C (v := ((g (6 * r + 3)) + s9) * s9) dX0_borrow_13 rfl ?_
  refine g_aload_n C dX0_borrow_14 1 rfl ?_
  refine g_get C (v := .int (g 0)) fl_X0_borrow_X0 0 rfl rfl 6 (by decide) fw_X0_borrow_fld30 rfl dX0_borrow_15 ?_
  refine g_icmp_le C (tgt := 23) dX0_borrow_18 (by decide) (fun h18_1 => ?_) (fun h18_1 => ?_)
  · refine g_iload_n C dX0_borrow_23 4 rfl ?_
    refine g_if_eq C (tgt := 45) dX0_borrow_24 (by decide) (fun h24_2 => ?_) (fun h24_2 => ?_)
    · refine g_iconst C (v := 1) dX0_borrow_45 ci_1 ?_
      exact g_zret C hret hlk dX0_borrow_46 (Or.inr rfl) (by simp only [eq_true h18_1, eq_true h24_2, Bool.false_eq_true, not_false_eq_true, not_true_eq_false, and_self, and_true, true_and, and_false, false_and, or_true, true_or, or_false, false_or, or_self, if_true, if_false, eq_self, ite_true, ite_false, reduceIte]) (by simp only [xBn, eq_true h18_1, eq_true h24_2, Bool.false_eq_true, not_false_eq_true, not_true_eq_false, and_self, and_true, true_and, and_false, false_and, or_true, true_or, or_false, false_or, or_self, if_true, if_false, eq_self, ite_true, ite_false, reduceIte])
    · refine g_aload_n C dX0_borrow_27 1 rfl ?_
      refine g_get C (v := .ref (ad 4)) fl_X0_borrow_X0 0 rfl rfl 3 (by decide) fw_X0_borrow_fld21 rfl dX0_borrow_28 ?_
      refine g_iload_n C dX0_borrow_31 2 rfl ?_
      refine g_iload C dX0_borrow_32 0 rfl ?_
      refine g_iast C (ws' := (wB ad cI (upd g (6 * r + 3) ((g (6 * r + 3)) + s9)))) 4 0 rfl rfl r rfl hr (by decide) dX0_borrow_34 (wB_4 ad cI g r ((g (6 * r + 3)) + s9)) ?_
      refine g_aload_n C dX0_borrow_35 1 rfl ?_
      refine g_get C (v := .ref (ad 6)) fl_X0_borrow_X0 0 rfl rfl 5 (by decide) fw_X0_borrow_fld27 rfl dX0_borrow_36 ?_
      refine g_iload_n C dX0_borrow_39 2 rfl ?_
      refine g_dup2 C dX0_borrow_40 rfl rfl ?_
      refine g_iald C (x := (upd g (6 * r + 3) ((g (6 * r + 3)) + s9)) (6 * r + 6)) 6 0 rfl rfl r rfl hr (by decide) rfl dX0_borrow_41 ?_
      refine g_iconst C (v := 1) dX0_borrow_42 ci_1 ?_
      refine g_iadd C (v := ((upd g (6 * r + 3) ((g (6 * r + 3)) + s9)) (6 * r + 6)) + 1) dX0_borrow_43 rfl ?_
      refine g_iast C (ws' := (wB ad cI (upd (upd g (6 * r + 3) ((g (6 * r + 3)) + s9)) (6 * r + 6) (((upd g (6 * r + 3) ((g (6 * r + 3)) + s9)) (6 * r + 6)) + 1)))) 6 0 rfl rfl r rfl hr (by decide) dX0_borrow_44 (wB_6 ad cI (upd g (6 * r + 3) ((g (6 * r + 3)) + s9)) r (((upd g (6 * r + 3) ((g (6 * r + 3)) + s9)) (6 * r + 6)) + 1)) ?_
      refine g_iconst C (v := 1) dX0_borrow_45 ci_1 ?_
      exact g_zret C hret hlk dX0_borrow_46 (Or.inr rfl) (by simp only [eq_true h18_1, h24_2, Bool.false_eq_true, not_false_eq_true, not_true_eq_false, and_self, and_true, true_and, and_false, false_and, or_true, true_or, or_false, false_or, or_self, if_true, if_false, eq_self, ite_true, ite_false, reduceIte]) (by simp only [xBn, eq_true h18_1, h24_2, Bool.false_eq_true, not_false_eq_true, not_true_eq_false, and_self, and_true, true_and, and_false, false_and, or_true, true_or, or_false, false_or, or_self, if_true, if_false, eq_self, ite_true, ite_false, reduceIte])
  · refine g_iconst C (v := 0) dX0_borrow_21 ci_0 ?_
    exact g_zret C hret hlk dX0_borrow_22 (Or.inl rfl) (by simp only [h18_1, Bool.false_eq_true, not_false_eq_true, not_true_eq_false, and_self, and_true, true_and, and_false, false_and, or_true, true_or, or_false, false_or, or_self, if_true, if_false, eq_self, ite_true, ite_false, reduceIte]) (by simp only [xBn, h18_1, Bool.false_eq_true, not_false_eq_true, not_true_eq_false, and_self, and_true, true_and, and_false, false_and, or_true, true_or, or_false, false_or, or_self, if_true, if_false, eq_self, ite_true, ite_false, reduceIte])
theorem hd_X0_shown : yX0_shown.cls = RX0 ∧ yX0_shown.cls ≠ "java/lang/invoke/MethodHandle" ∧ yX0_shown.cls ≠ "java/lang/invoke/VarHandle" ∧ (parseMethodDescriptor yX0_shown.desc).map (fun d => d.parameters.length) = some 1 := by decide +kernel
theorem hd_X0_turn : yX0_turn.cls = RX0 ∧ yX0_turn.cls ≠ "java/lang/invoke/MethodHandle" ∧ yX0_turn.cls ≠ "java/lang/invoke/VarHandle" ∧ (parseMethodDescriptor yX0_turn.desc).map (fun d => d.parameters.length) = some 3 := by decide +kernel
theorem hd_X0_borrow : yX0_borrow.cls = RX0 ∧ yX0_borrow.cls ≠ "java/lang/invoke/MethodHandle" ∧ yX0_borrow.cls ≠ "java/lang/invoke/VarHandle" ∧ (parseMethodDescriptor yX0_borrow.desc).map (fun d => d.parameters.length) = some 3 := by decide +kernel
abbrev rmX0_turnAndCarry : Room := { frames := 3, cells := 0, slots := 0, locals := 73 }
set_option maxHeartbeats 1000000 in
set_option maxRecDepth 100000 in
theorem c_X0_turnAndCarry (l : Launch) (D : va_G) (cI cO : ClassId) (ad : Nat → Nat) (g : Nat → Int32) (r : Nat) (hr : r < 9) (v s9 d : Int32) : cR (fun _ => True) l yX0_turnAndCarry wsX0_turnAndCarry rmX0_turnAndCarry D vwCl (tyA cI cO) [.ref (ad 0), .int (nI r), .int v, .int s9, .int d] (wB ad cI g) (some (.int ((xTc g r v s9 d).1))) (wB ad cI ((xTc g r v s9 d).2)) := by
  refine cR_of (cc := cX0_turnAndCarry) (maxL := 8) (ret := (some .int)) (by decide) rfl (Nat.le_of_ble_eq_true rfl) ?_
  intro p e s m below meth c A C hret hlk hnm hF
  refine g_lv [0, 1, 2, 3, 4] (lv' := [(0, .ref (ad 0)), (1, .int (nI r)), (2, .int v), (3, .int s9), (4, .int d)]) rfl ?_
  have K : ∀ (n q : Nat), n + q = 9 → ∀ (g1 : Nat → Int32) (t : Int32), xCa s9 d n g1 q t = xTc g r v s9 d → gG p l e rmX0_turnAndCarry s m ([.ref (ad 0), .int (nI r), .int v, .int s9, .int d] : List Value).toArray below meth c D vwCl A s.heap 8 (MQ below (cQ (some (.int ((xTc g r v s9 d).1))) (cB D vwCl (tyA cI cO) A (wB ad cI ((xTc g r v s9 d).2))) A) ([.ref (ad 0), .int (nI r), .int v, .int s9, .int d] : List Value).toArray s 0 0 A) 0 0 (wB ad cI g1) 23 [(0, .ref (ad 0)), (1, .int (nI r)), (2, .int v), (3, .int s9), (4, .int d), (5, .int t), (6, .int (nI q))] [] := by
    intro n
    induction n with
    | zero =>
      intro q hn g1 t hq
      obtain rfl : q = 9 := by omega
      refine g_iload C dX0_turnAndCarry_23 6 rfl ?_
      refine g_bipush C (v := 9) dX0_turnAndCarry_25 cb_9 ?_
      refine g_icmp_ge C (tgt := 119) dX0_turnAndCarry_27 (by decide) (fun _ => ?_) (fun h27_1 => absurd (by decide) h27_1)
      refine g_iconst C (v := -1) dX0_turnAndCarry_119 ci_m1 ?_
      exact g_iret C hret hlk dX0_turnAndCarry_120 (by rw [← hq]; rfl) (by rw [← hq]; rfl)
    | succ n ih =>
      intro q hn g1 t hq
      have hq9 : q < 9 := by omega
      refine g_iload C dX0_turnAndCarry_23 6 rfl ?_
      refine g_bipush C (v := 9) dX0_turnAndCarry_25 cb_9 ?_
      refine g_icmp_ge C (tgt := 119) dX0_turnAndCarry_27 (by decide) (fun h27_2 => absurd h27_2 (ge9 hq9)) (fun _ => ?_)
      refine g_aload_n C dX0_turnAndCarry_30 0 rfl ?_
      refine g_iload C dX0_turnAndCarry_31 6 rfl ?_
      refine g_aload_n C dX0_turnAndCarry_33 0 rfl ?_
      refine g_iload C dX0_turnAndCarry_34 6 rfl ?_
      refine g_callVi C (c_X0_shown l D cI cO ad g1 q hq9) gX0_turnAndCarry_X0_shown rfl ⟨rfl, rfl⟩ hd_X0_shown ⟨Nat.le_of_ble_eq_true rfl, Nat.le_of_ble_eq_true rfl⟩ [0, 1] rfl (fun _ _ => trivial) rfl (rest := [.int (nI q), .ref (ad 0)]) rfl (Nat.le_of_ble_eq_true rfl) dX0_turnAndCarry_36 ⟨Nat.zero_le _, Nat.zero_le _⟩ 0 rfl rfl rfl (pre := []) (post := []) (ws' := (wB ad cI g1)) rfl rfl ?_
      refine g_iload_n C dX0_turnAndCarry_39 3 rfl ?_
      refine g_iadd C (v := (xSh g1 q) + s9) dX0_turnAndCarry_40 rfl ?_
      refine g_iload C dX0_turnAndCarry_41 4 rfl ?_
      refine g_callVi C (c_X0_turn l D cI cO ad g1 q hq9 ((xSh g1 q) + s9) d) gX0_turnAndCarry_X0_turn rfl ⟨rfl, rfl⟩ hd_X0_turn ⟨Nat.le_of_ble_eq_true rfl, Nat.le_of_ble_eq_true rfl⟩ [0, 1] rfl (fun _ _ => trivial) rfl (rest := []) rfl (Nat.le_of_ble_eq_true rfl) dX0_turnAndCarry_43 ⟨Nat.zero_le _, Nat.zero_le _⟩ 0 rfl rfl rfl (pre := []) (post := []) (ws' := (wB ad cI (xTn g1 q ((xSh g1 q) + s9) d))) rfl rfl ?_
      refine g_istore C (lv' := [(7, .int (xTv g1 q ((xSh g1 q) + s9))), (0, .ref (ad 0)), (1, .int (nI r)), (2, .int v), (3, .int s9), (4, .int d), (5, .int t), (6, .int (nI q))]) dX0_turnAndCarry_46 (by decide) rfl ?_
      refine g_iload C dX0_turnAndCarry_48 0 rfl ?_
      refine g_iconst C (v := -1) dX0_turnAndCarry_50 ci_m1 ?_
      refine g_icmp_eq C (tgt := 60) dX0_turnAndCarry_51 (by decide) (fun h51_3 => ?_) (fun h51_3 => ?_)
      · refine g_ws (ws' := (wB ad cI g1)) (by rw [xTn_no h51_3]) ?_
        refine g_aload_n C dX0_turnAndCarry_60 1 rfl ?_
        refine g_iload C dX0_turnAndCarry_61 7 rfl ?_
        refine g_aload_n C dX0_turnAndCarry_63 1 rfl ?_
        refine g_iload C dX0_turnAndCarry_64 7 rfl ?_
        refine g_callVi C (c_X0_shown l D cI cO ad g1 q hq9) gX0_turnAndCarry_X0_shown rfl ⟨rfl, rfl⟩ hd_X0_shown ⟨Nat.le_of_ble_eq_true rfl, Nat.le_of_ble_eq_true rfl⟩ [0, 1] rfl (fun _ _ => trivial) rfl (rest := [.int (nI q), .ref (ad 0)]) rfl (Nat.le_of_ble_eq_true rfl) dX0_turnAndCarry_66 ⟨Nat.zero_le _, Nat.zero_le _⟩ 0 rfl rfl rfl (pre := []) (post := []) (ws' := (wB ad cI g1)) rfl rfl ?_
        refine g_bipush C (v := 9) dX0_turnAndCarry_69 cb_9 ?_
        refine g_iload_n C dX0_turnAndCarry_71 4 rfl ?_
        refine g_imul C (v := 9 * s9) dX0_turnAndCarry_72 rfl ?_
        refine g_isub C (v := (xSh g1 q) - (9 * s9)) dX0_turnAndCarry_73 rfl ?_
        refine g_iload C dX0_turnAndCarry_74 5 rfl ?_
        refine g_callVi C (c_X0_turn l D cI cO ad g1 q hq9 ((xSh g1 q) - (9 * s9)) d) gX0_turnAndCarry_X0_turn rfl ⟨rfl, rfl⟩ hd_X0_turn ⟨Nat.le_of_ble_eq_true rfl, Nat.le_of_ble_eq_true rfl⟩ [0, 1] rfl (fun _ _ => trivial) rfl (rest := []) rfl (Nat.le_of_ble_eq_true rfl) dX0_turnAndCarry_76 ⟨Nat.zero_le _, Nat.zero_le _⟩ 0 rfl rfl rfl (pre := []) (post := []) (ws' := (wB ad cI (xTn g1 q ((xSh g1 q) - (9 * s9)) d))) rfl rfl ?_
        refine g_istore C (lv' := [(7, .int (xTv g1 q ((xSh g1 q) - (9 * s9)))), (0, .ref (ad 0)), (1, .int (nI r)), (2, .int v), (3, .int s9), (4, .int d), (5, .int t), (6, .int (nI q))]) dX0_turnAndCarry_79 (by decide) rfl ?_
        refine g_iload C dX0_turnAndCarry_81 0 rfl ?_
        refine g_iconst C (v := -1) dX0_turnAndCarry_83 ci_m1 ?_
        refine g_icmp_ne C (tgt := 106) dX0_turnAndCarry_84 (by decide) (fun h84_4 => ?_) (fun h84_4 => ?_)
        · refine g_iload C dX0_turnAndCarry_106 6 rfl ?_
          refine g_iload C dX0_turnAndCarry_108 0 rfl ?_
          refine g_iadd C (v := t + (xTv g1 q ((xSh g1 q) - (9 * s9)))) dX0_turnAndCarry_110 rfl ?_
          refine g_istore C (lv' := [(5, .int (t + (xTv g1 q ((xSh g1 q) - (9 * s9))))), (7, .int (xTv g1 q ((xSh g1 q) - (9 * s9)))), (0, .ref (ad 0)), (1, .int (nI r)), (2, .int v), (3, .int s9), (4, .int d), (6, .int (nI q))]) dX0_turnAndCarry_111 (by decide) rfl ?_
          refine g_iinc C (v := nI (q + 1)) (lv' := [(6, .int (nI (q + 1))), (5, .int (t + (xTv g1 q ((xSh g1 q) - (9 * s9))))), (7, .int (xTv g1 q ((xSh g1 q) - (9 * s9)))), (0, .ref (ad 0)), (1, .int (nI r)), (2, .int v), (3, .int s9), (4, .int d)]) dX0_turnAndCarry_113 7 rfl (inc_nI _) (by decide) rfl ?_
          refine g_goto C (tgt := 23) dX0_turnAndCarry_116 (by decide) ?_
          refine g_lv [3, 4, 5, 6, 7, 1, 0] (lv' := [(0, .ref (ad 0)), (1, .int (nI r)), (2, .int v), (3, .int s9), (4, .int d), (5, .int (t + (xTv g1 q ((xSh g1 q) - (9 * s9))))), (6, .int (nI (q + 1)))]) rfl ?_
          exact ih (q + 1) (by omega) _ _ (by rw [← hq]; simp only [xCa, eq_true h51_3, h84_4, Bool.false_eq_true, not_false_eq_true, not_true_eq_false, and_self, and_true, true_and, and_false, false_and, or_true, true_or, or_false, false_or, or_self, if_true, if_false, eq_self, ite_true, ite_false, reduceIte])
        · refine g_ws (ws' := (wB ad cI g1)) (by rw [xTn_no h84_4]) ?_
          refine g_aload_n C dX0_turnAndCarry_87 1 rfl ?_
          refine g_iload C dX0_turnAndCarry_88 7 rfl ?_
          refine g_iload_n C dX0_turnAndCarry_90 4 rfl ?_
          refine g_iload C dX0_turnAndCarry_91 5 rfl ?_
          refine g_callVi C (c_X0_borrow l D cI cO ad g1 q hq9 s9 d) gX0_turnAndCarry_X0_borrow rfl ⟨rfl, rfl⟩ hd_X0_borrow ⟨Nat.le_of_ble_eq_true rfl, Nat.le_of_ble_eq_true rfl⟩ [0, 1] rfl (fun _ _ => trivial) rfl (rest := []) rfl (Nat.le_of_ble_eq_true rfl) dX0_turnAndCarry_93 ⟨Nat.zero_le _, Nat.zero_le _⟩ 0 rfl rfl rfl (pre := []) (post := []) (ws' := (wB ad cI (xBn g1 q s9 d))) rfl rfl ?_
          refine g_if_eq C (tgt := 104) dX0_turnAndCarry_96 (by decide) (fun h96_5 => ?_) (fun h96_5 => ?_)
          · have h96_5 := bz h96_5
            refine g_iconst C (v := -1) dX0_turnAndCarry_104 ci_m1 ?_
            exact g_iret C hret hlk dX0_turnAndCarry_105 (by rw [← hq]; simp only [xCa, eq_true h51_3, eq_true h84_4, h96_5, Bool.false_eq_true, not_false_eq_true, not_true_eq_false, and_self, and_true, true_and, and_false, false_and, or_true, true_or, or_false, false_or, or_self, if_true, if_false, eq_self, ite_true, ite_false, reduceIte]) (by rw [← hq]; simp only [xCa, eq_true h51_3, eq_true h84_4, h96_5, Bool.false_eq_true, not_false_eq_true, not_true_eq_false, and_self, and_true, true_and, and_false, false_and, or_true, true_or, or_false, false_or, or_self, if_true, if_false, eq_self, ite_true, ite_false, reduceIte])
          · have h96_5 := bnz h96_5
            refine g_iload C dX0_turnAndCarry_99 6 rfl ?_
            refine g_goto C (tgt := 105) dX0_turnAndCarry_101 (by decide) ?_
            exact g_iret C hret hlk dX0_turnAndCarry_105 (by rw [← hq]; simp only [xCa, eq_true h51_3, eq_true h84_4, eq_true h96_5, Bool.false_eq_true, not_false_eq_true, not_true_eq_false, and_self, and_true, true_and, and_false, false_and, or_true, true_or, or_false, false_or, or_self, if_true, if_false, eq_self, ite_true, ite_false, reduceIte]) (by rw [← hq]; simp only [xCa, eq_true h51_3, eq_true h84_4, eq_true h96_5, Bool.false_eq_true, not_false_eq_true, not_true_eq_false, and_self, and_true, true_and, and_false, false_and, or_true, true_or, or_false, false_or, or_self, if_true, if_false, eq_self, ite_true, ite_false, reduceIte])
      · refine g_iload C dX0_turnAndCarry_54 6 rfl ?_
        refine g_iload C dX0_turnAndCarry_56 0 rfl ?_
        refine g_iadd C (v := t + (xTv g1 q ((xSh g1 q) + s9))) dX0_turnAndCarry_58 rfl ?_
        exact g_iret C hret hlk dX0_turnAndCarry_59 (by rw [← hq]; simp only [xCa, h51_3, Bool.false_eq_true, not_false_eq_true, not_true_eq_false, and_self, and_true, true_and, and_false, false_and, or_true, true_or, or_false, false_or, or_self, if_true, if_false, eq_self, ite_true, ite_false, reduceIte]) (by rw [← hq]; simp only [xCa, h51_3, Bool.false_eq_true, not_false_eq_true, not_true_eq_false, and_self, and_true, true_and, and_false, false_and, or_true, true_or, or_false, false_or, or_self, if_true, if_false, eq_self, ite_true, ite_false, reduceIte])
  refine g_aload_n C dX0_turnAndCarry_0 0 rfl ?_
  refine g_iload_n C dX0_turnAndCarry_1 1 rfl ?_
  refine g_iload_n C dX0_turnAndCarry_2 2 rfl ?_
  refine g_iload C dX0_turnAndCarry_3 4 rfl ?_
  refine g_callVi C (c_X0_turn l D cI cO ad g r hr v d) gX0_turnAndCarry_X0_turn rfl ⟨rfl, rfl⟩ hd_X0_turn ⟨Nat.le_of_ble_eq_true rfl, Nat.le_of_ble_eq_true rfl⟩ [0, 1] rfl (fun _ _ => trivial) rfl (rest := []) rfl (Nat.le_of_ble_eq_true rfl) dX0_turnAndCarry_5 ⟨Nat.zero_le _, Nat.zero_le _⟩ 0 rfl rfl rfl (pre := []) (post := []) (ws' := (wB ad cI (xTn g r v d))) rfl rfl ?_
  refine g_istore C (lv' := [(5, .int (xTv g r v)), (0, .ref (ad 0)), (1, .int (nI r)), (2, .int v), (3, .int s9), (4, .int d)]) dX0_turnAndCarry_8 (by decide) rfl ?_
  refine g_iload C dX0_turnAndCarry_10 0 rfl ?_
  refine g_iconst C (v := -1) dX0_turnAndCarry_12 ci_m1 ?_
  refine g_icmp_ne C (tgt := 18) dX0_turnAndCarry_13 (by decide) (fun h13_6 => ?_) (fun h13_6 => ?_)
  · refine g_iload_n C dX0_turnAndCarry_18 2 rfl ?_
    refine g_iconst C (v := 1) dX0_turnAndCarry_19 ci_1 ?_
    refine g_iadd C (v := nI (r + 1)) dX0_turnAndCarry_20 (nI_1 r) ?_
    refine g_istore C (lv' := [(6, .int (nI (r + 1))), (5, .int (xTv g r v)), (0, .ref (ad 0)), (1, .int (nI r)), (2, .int v), (3, .int s9), (4, .int d)]) dX0_turnAndCarry_21 (by decide) rfl ?_
    refine g_lv [2, 3, 4, 5, 6, 1, 0] (lv' := [(0, .ref (ad 0)), (1, .int (nI r)), (2, .int v), (3, .int s9), (4, .int d), (5, .int (xTv g r v)), (6, .int (nI (r + 1)))]) rfl ?_
    exact K (8 - r) (r + 1) (by omega) _ _ (by simp only [xTc, h13_6, Bool.false_eq_true, not_false_eq_true, not_true_eq_false, and_self, and_true, true_and, and_false, false_and, or_true, true_or, or_false, false_or, or_self, if_true, if_false, eq_self, ite_true, ite_false, reduceIte])
  · refine g_ws (ws' := (wB ad cI g)) (by rw [xTn_no h13_6]) ?_
    refine g_iconst C (v := -1) dX0_turnAndCarry_16 ci_m1 ?_
    exact g_iret C hret hlk dX0_turnAndCarry_17 (by simp only [xTc, eq_true h13_6, Bool.false_eq_true, not_false_eq_true, not_true_eq_false, and_self, and_true, true_and, and_false, false_and, or_true, true_or, or_false, false_or, or_self, if_true, if_false, eq_self, ite_true, ite_false, reduceIte]) (by simp only [xTc, eq_true h13_6, Bool.false_eq_true, not_false_eq_true, not_true_eq_false, and_self, and_true, true_and, and_false, false_and, or_true, true_or, or_false, false_or, or_self, if_true, if_false, eq_self, ite_true, ite_false, reduceIte])
theorem hd_X0_turnAndCarry : yX0_turnAndCarry.cls = RX0 ∧ yX0_turnAndCarry.cls ≠ "java/lang/invoke/MethodHandle" ∧ yX0_turnAndCarry.cls ≠ "java/lang/invoke/VarHandle" ∧ (parseMethodDescriptor yX0_turnAndCarry.desc).map (fun d => d.parameters.length) = some 4 := by decide +kernel
abbrev rmX0_change : Room := { frames := 4, cells := 0, slots := 0, locals := 100 }
set_option maxHeartbeats 1000000 in
set_option maxRecDepth 100000 in
theorem c_X0_change (l : Launch) (D : va_G) (cI cO : ClassId) (ad : Nat → Nat) (g : Nat → Int32) (r : Nat) (hr : r < 9) (n9 d : Int32) : cR (fun _ => True) l yX0_change wsX0_change rmX0_change D vwCl (tyA cI cO) [.ref (ad 0), .int (nI r), .int n9, .int d] (wB ad cI g) (some (.int ((xCh g r n9 d).1))) (wB ad cI ((xCh g r n9 d).2)) := by
  refine cR_of (cc := cX0_change) (maxL := 6) (ret := (some .int)) (by decide) rfl (Nat.le_of_ble_eq_true rfl) ?_
  intro p e s m below meth c A C hret hlk hnm hF
  refine g_lv [0, 1, 2, 3] (lv' := [(0, .ref (ad 0)), (1, .int (nI r)), (2, .int n9), (3, .int d)]) rfl ?_
  have K : ∀ x : Int32, x = xSg n9 → gG p l e rmX0_change s m ([.ref (ad 0), .int (nI r), .int n9, .int d] : List Value).toArray below meth c D vwCl A s.heap 6 (MQ below (cQ (some (.int ((xCh g r n9 d).1))) (cB D vwCl (tyA cI cO) A (wB ad cI ((xCh g r n9 d).2))) A) ([.ref (ad 0), .int (nI r), .int n9, .int d] : List Value).toArray s 0 0 A) 0 0 (wB ad cI g) 9 [(0, .ref (ad 0)), (1, .int (nI r)), (2, .int n9), (3, .int d)] [.int x] := by
    intro x hx
    subst hx
    refine g_istore C (lv' := [(4, .int (xSg n9)), (0, .ref (ad 0)), (1, .int (nI r)), (2, .int n9), (3, .int d)]) dX0_change_9 (by decide) rfl ?_
    refine g_aload_n C dX0_change_11 1 rfl ?_
    refine g_iload_n C dX0_change_12 2 rfl ?_
    refine g_aload_n C dX0_change_13 1 rfl ?_
    refine g_iload_n C dX0_change_14 2 rfl ?_
    refine g_callVi C (c_X0_shown l D cI cO ad g r hr) gX0_change_X0_shown rfl ⟨rfl, rfl⟩ hd_X0_shown ⟨Nat.le_of_ble_eq_true rfl, Nat.le_of_ble_eq_true rfl⟩ [0, 1] rfl (fun _ _ => trivial) rfl (rest := [.int (nI r), .ref (ad 0)]) rfl (Nat.le_of_ble_eq_true rfl) dX0_change_15 ⟨Nat.zero_le _, Nat.zero_le _⟩ 0 rfl rfl rfl (pre := []) (post := []) (ws' := (wB ad cI g)) rfl rfl ?_
    refine g_iload_n C dX0_change_18 3 rfl ?_
    refine g_iadd C (v := (xSh g r) + n9) dX0_change_19 rfl ?_
    refine g_iload_n C dX0_change_20 4 rfl ?_
    refine g_callVi C (c_X0_turn l D cI cO ad g r hr ((xSh g r) + n9) d) gX0_change_X0_turn rfl ⟨rfl, rfl⟩ hd_X0_turn ⟨Nat.le_of_ble_eq_true rfl, Nat.le_of_ble_eq_true rfl⟩ [0, 1] rfl (fun _ _ => trivial) rfl (rest := []) rfl (Nat.le_of_ble_eq_true rfl) dX0_change_21 ⟨Nat.zero_le _, Nat.zero_le _⟩ 0 rfl rfl rfl (pre := []) (post := []) (ws' := (wB ad cI (xTn g r ((xSh g r) + n9) d))) rfl rfl ?_
    refine g_istore C (lv' := [(5, .int (xTv g r ((xSh g r) + n9))), (4, .int (xSg n9)), (0, .ref (ad 0)), (1, .int (nI r)), (2, .int n9), (3, .int d)]) dX0_change_24 (by decide) rfl ?_
    refine g_iload C dX0_change_26 0 rfl ?_
    refine g_iconst C (v := -1) dX0_change_28 ci_m1 ?_
    refine g_icmp_eq C (tgt := 35) dX0_change_29 (by decide) (fun h29_1 => ?_) (fun h29_1 => ?_)
    · refine g_ws (ws' := (wB ad cI g)) (by rw [xTn_no h29_1]) ?_
      refine g_aload_n C dX0_change_35 2 rfl ?_
      refine g_iload_n C dX0_change_36 3 rfl ?_
      refine g_aload_n C dX0_change_37 2 rfl ?_
      refine g_iload_n C dX0_change_38 3 rfl ?_
      refine g_callVi C (c_X0_shown l D cI cO ad g r hr) gX0_change_X0_shown rfl ⟨rfl, rfl⟩ hd_X0_shown ⟨Nat.le_of_ble_eq_true rfl, Nat.le_of_ble_eq_true rfl⟩ [0, 1] rfl (fun _ _ => trivial) rfl (rest := [.int (nI r), .ref (ad 0)]) rfl (Nat.le_of_ble_eq_true rfl) dX0_change_39 ⟨Nat.zero_le _, Nat.zero_le _⟩ 0 rfl rfl rfl (pre := []) (post := []) (ws' := (wB ad cI g)) rfl rfl ?_
      refine g_iload_n C dX0_change_42 4 rfl ?_
      refine g_iadd C (v := (xSh g r) + n9) dX0_change_43 rfl ?_
      refine g_bipush C (v := 10) dX0_change_44 cb_10 ?_
      refine g_iload C dX0_change_46 1 rfl ?_
      refine g_imul C (v := 10 * (xSg n9)) dX0_change_48 rfl ?_
      refine g_isub C (v := ((xSh g r) + n9) - (10 * (xSg n9))) dX0_change_49 rfl ?_
      refine g_iload C dX0_change_50 1 rfl ?_
      refine g_iload_n C dX0_change_52 5 rfl ?_
      refine g_callVi C (c_X0_turnAndCarry l D cI cO ad g r hr (((xSh g r) + n9) - (10 * (xSg n9))) (xSg n9) d) gX0_change_X0_turnAndCarry rfl ⟨rfl, rfl⟩ hd_X0_turnAndCarry ⟨Nat.le_of_ble_eq_true rfl, Nat.le_of_ble_eq_true rfl⟩ [0, 1] rfl (fun _ _ => trivial) rfl (rest := []) rfl (Nat.le_of_ble_eq_true rfl) dX0_change_53 ⟨Nat.zero_le _, Nat.zero_le _⟩ 0 rfl rfl rfl (pre := []) (post := []) (ws' := (wB ad cI ((xTc g r (((xSh g r) + n9) - (10 * (xSg n9))) (xSg n9) d).2))) rfl rfl ?_
      exact g_iret C hret hlk dX0_change_56 (by simp only [xCh, eq_true h29_1, Bool.false_eq_true, not_false_eq_true, not_true_eq_false, and_self, and_true, true_and, and_false, false_and, or_true, true_or, or_false, false_or, or_self, if_true, if_false, eq_self, ite_true, ite_false, reduceIte]) (by simp only [xCh, eq_true h29_1, Bool.false_eq_true, not_false_eq_true, not_true_eq_false, and_self, and_true, true_and, and_false, false_and, or_true, true_or, or_false, false_or, or_self, if_true, if_false, eq_self, ite_true, ite_false, reduceIte])
    · refine g_iload C dX0_change_32 0 rfl ?_
      exact g_iret C hret hlk dX0_change_34 (by simp only [xCh, h29_1, Bool.false_eq_true, not_false_eq_true, not_true_eq_false, and_self, and_true, true_and, and_false, false_and, or_true, true_or, or_false, false_or, or_self, if_true, if_false, eq_self, ite_true, ite_false, reduceIte]) (by simp only [xCh, h29_1, Bool.false_eq_true, not_false_eq_true, not_true_eq_false, and_self, and_true, true_and, and_false, false_and, or_true, true_or, or_false, false_or, or_self, if_true, if_false, eq_self, ite_true, ite_false, reduceIte])
  refine g_iload_n C dX0_change_0 2 rfl ?_
  refine g_if_ge C (tgt := 8) dX0_change_1 (by decide) (fun h1_2 => ?_) (fun h1_2 => ?_)
  · refine g_iconst C (v := 1) dX0_change_8 ci_1 ?_
    exact K _ (by simp only [xSg, eq_true h1_2, Bool.false_eq_true, not_false_eq_true, not_true_eq_false, and_self, and_true, true_and, and_false, false_and, or_true, true_or, or_false, false_or, or_self, if_true, if_false, eq_self, ite_true, ite_false, reduceIte])
  · refine g_iconst C (v := -1) dX0_change_4 ci_m1 ?_
    refine g_goto C (tgt := 9) dX0_change_5 (by decide) ?_
    exact K _ (by simp only [xSg, h1_2, Bool.false_eq_true, not_false_eq_true, not_true_eq_false, and_self, and_true, true_and, and_false, false_and, or_true, true_or, or_false, false_or, or_self, if_true, if_false, eq_self, ite_true, ite_false, reduceIte])
theorem fw_X0_payIfPossible_fld21 : Cond.fieldLink RX0 21 "StuckRods$Board" "loan" "[I" ∈ wsX0_payIfPossible := (List.mem_cons_of_mem _ (List.mem_append_left _ (List.mem_append_left _ (List.mem_of_getElem? (i := 0) rfl))))
theorem fl_X0_payIfPossible_X0 : ∀ w ∈ wsX00, w ∈ wsX0_payIfPossible := fun _ h => List.mem_cons_of_mem _ (List.mem_append_right _ h)
theorem hd_X0_change : yX0_change.cls = RX0 ∧ yX0_change.cls ≠ "java/lang/invoke/MethodHandle" ∧ yX0_change.cls ≠ "java/lang/invoke/VarHandle" ∧ (parseMethodDescriptor yX0_change.desc).map (fun d => d.parameters.length) = some 3 := by decide +kernel
abbrev rmX0_payIfPossible : Room := { frames := 5, cells := 0, slots := 0, locals := 125 }
set_option maxHeartbeats 1000000 in
set_option maxRecDepth 100000 in
theorem c_X0_payIfPossible (l : Launch) (D : va_G) (cI cO : ClassId) (ad : Nat → Nat) (g : Nat → Int32) (r : Nat) (hr : r < 9) : cR (fun _ => True) l yX0_payIfPossible wsX0_payIfPossible rmX0_payIfPossible D vwCl (tyA cI cO) [.ref (ad 0), .int (nI r)] (wB ad cI g) (some (.int ((xPa g r).1))) (wB ad cI ((xPa g r).2)) := by
  refine cR_of (cc := cX0_payIfPossible) (maxL := 3) (ret := (some .int)) (by decide) rfl (Nat.le_of_ble_eq_true rfl) ?_
  intro p e s m below meth c A C hret hlk hnm hF
  refine g_lv [0, 1] (lv' := [(0, .ref (ad 0)), (1, .int (nI r))]) rfl ?_
  refine g_aload_n C dX0_payIfPossible_0 0 rfl ?_
  refine g_iload_n C dX0_payIfPossible_1 1 rfl ?_
  refine g_aload_n C dX0_payIfPossible_2 0 rfl ?_
  refine g_get C (v := .ref (ad 4)) fl_X0_payIfPossible_X0 0 rfl rfl 3 (by decide) fw_X0_payIfPossible_fld21 rfl dX0_payIfPossible_3 ?_
  refine g_iload_n C dX0_payIfPossible_6 1 rfl ?_
  refine g_iald C (x := g (6 * r + 3)) 4 0 rfl rfl r rfl hr (by decide) rfl dX0_payIfPossible_7 ?_
  refine g_iconst C (v := 0) dX0_payIfPossible_8 ci_0 ?_
  refine g_callVi C (c_X0_change l D cI cO ad g r hr (g (6 * r + 3)) 0) gX0_payIfPossible_X0_change rfl ⟨rfl, rfl⟩ hd_X0_change ⟨Nat.le_of_ble_eq_true rfl, Nat.le_of_ble_eq_true rfl⟩ [0, 1] rfl (fun _ _ => trivial) rfl (rest := []) rfl (Nat.le_of_ble_eq_true rfl) dX0_payIfPossible_9 ⟨Nat.zero_le _, Nat.zero_le _⟩ 0 rfl rfl rfl (pre := []) (post := []) (ws' := (wB ad cI ((xCh g r (g (6 * r + 3)) 0).2))) rfl rfl ?_
  refine g_iconst C (v := -1) dX0_payIfPossible_12 ci_m1 ?_
  refine g_icmp_ne C (tgt := 18) dX0_payIfPossible_13 (by decide) (fun h13_1 => ?_) (fun h13_1 => ?_)
  · refine g_ws (ws' := (wB ad cI g)) (by rw [xCh_0]) ?_
    refine g_aload_n C dX0_payIfPossible_18 0 rfl ?_
    refine g_iload_n C dX0_payIfPossible_19 1 rfl ?_
    refine g_aload_n C dX0_payIfPossible_20 0 rfl ?_
    refine g_get C (v := .ref (ad 4)) fl_X0_payIfPossible_X0 0 rfl rfl 3 (by decide) fw_X0_payIfPossible_fld21 rfl dX0_payIfPossible_21 ?_
    refine g_iload_n C dX0_payIfPossible_24 1 rfl ?_
    refine g_iald C (x := g (6 * r + 3)) 4 0 rfl rfl r rfl hr (by decide) rfl dX0_payIfPossible_25 ?_
    refine g_iconst C (v := 1) dX0_payIfPossible_26 ci_1 ?_
    refine g_callVi C (c_X0_change l D cI cO ad g r hr (g (6 * r + 3)) 1) gX0_payIfPossible_X0_change rfl ⟨rfl, rfl⟩ hd_X0_change ⟨Nat.le_of_ble_eq_true rfl, Nat.le_of_ble_eq_true rfl⟩ [0, 1] rfl (fun _ _ => trivial) rfl (rest := []) rfl (Nat.le_of_ble_eq_true rfl) dX0_payIfPossible_27 ⟨Nat.zero_le _, Nat.zero_le _⟩ 0 rfl rfl rfl (pre := []) (post := []) (ws' := (wB ad cI ((xCh g r (g (6 * r + 3)) 1).2))) rfl rfl ?_
    refine g_istore_n C (lv' := [(2, .int ((xCh g r (g (6 * r + 3)) 1).1)), (0, .ref (ad 0)), (1, .int (nI r))]) dX0_payIfPossible_30 rfl (by decide) rfl ?_
    refine g_aload_n C dX0_payIfPossible_31 1 rfl ?_
    refine g_get C (v := .ref (ad 4)) fl_X0_payIfPossible_X0 0 rfl rfl 3 (by decide) fw_X0_payIfPossible_fld21 rfl dX0_payIfPossible_32 ?_
    refine g_iload_n C dX0_payIfPossible_35 2 rfl ?_
    refine g_iconst C (v := 0) dX0_payIfPossible_36 ci_0 ?_
    refine g_iast C (ws' := (wB ad cI (upd ((xCh g r (g (6 * r + 3)) 1).2) (6 * r + 3) 0))) 4 0 rfl rfl r rfl hr (by decide) dX0_payIfPossible_37 (wB_4 ad cI ((xCh g r (g (6 * r + 3)) 1).2) r 0) ?_
    refine g_iload_n C dX0_payIfPossible_38 0 rfl ?_
    exact g_iret C hret hlk dX0_payIfPossible_39 (by simp only [xPa, h13_1, Bool.false_eq_true, not_false_eq_true, not_true_eq_false, and_self, and_true, true_and, and_false, false_and, or_true, true_or, or_false, false_or, or_self, if_true, if_false, eq_self, ite_true, ite_false, reduceIte]) (by simp only [xPa, h13_1, Bool.false_eq_true, not_false_eq_true, not_true_eq_false, and_self, and_true, true_and, and_false, false_and, or_true, true_or, or_false, false_or, or_self, if_true, if_false, eq_self, ite_true, ite_false, reduceIte])
  · refine g_ws (ws' := (wB ad cI g)) (by rw [xCh_0]) ?_
    refine g_iconst C (v := 0) dX0_payIfPossible_16 ci_0 ?_
    exact g_iret C hret hlk dX0_payIfPossible_17 (by simp only [xPa, eq_true h13_1, Bool.false_eq_true, not_false_eq_true, not_true_eq_false, and_self, and_true, true_and, and_false, false_and, or_true, true_or, or_false, false_or, or_self, if_true, if_false, eq_self, ite_true, ite_false, reduceIte]) (by simp only [xPa, eq_true h13_1, Bool.false_eq_true, not_false_eq_true, not_true_eq_false, and_self, and_true, true_and, and_false, false_and, or_true, true_or, or_false, false_or, or_self, if_true, if_false, eq_self, ite_true, ite_false, reduceIte])
abbrev rmX0_orderIfPossible : Room := { frames := 4, cells := 0, slots := 0, locals := 100 }
set_option maxHeartbeats 1000000 in
set_option maxRecDepth 100000 in
theorem c_X0_orderIfPossible (l : Launch) (D : va_G) (cI cO : ClassId) (ad : Nat → Nat) (g : Nat → Int32) (r : Nat) (hr : r < 9) : cR (fun _ => True) l yX0_orderIfPossible wsX0_orderIfPossible rmX0_orderIfPossible D vwCl (tyA cI cO) [.ref (ad 0), .int (nI r)] (wB ad cI g) (some (.int ((xOr g r).1))) (wB ad cI ((xOr g r).2)) := by
  refine cR_of (cc := cX0_orderIfPossible) (maxL := 3) (ret := (some .int)) (by decide) rfl (Nat.le_of_ble_eq_true rfl) ?_
  intro p e s m below meth c A C hret hlk hnm hF
  refine g_lv [0, 1] (lv' := [(0, .ref (ad 0)), (1, .int (nI r))]) rfl ?_
  refine g_aload_n C dX0_orderIfPossible_0 0 rfl ?_
  refine g_iload_n C dX0_orderIfPossible_1 1 rfl ?_
  refine g_callVi C (c_X0_shown l D cI cO ad g r hr) gX0_orderIfPossible_X0_shown rfl ⟨rfl, rfl⟩ hd_X0_shown ⟨Nat.le_of_ble_eq_true rfl, Nat.le_of_ble_eq_true rfl⟩ [0, 1] rfl (fun _ _ => trivial) rfl (rest := []) rfl (Nat.le_of_ble_eq_true rfl) dX0_orderIfPossible_2 ⟨Nat.zero_le _, Nat.zero_le _⟩ 0 rfl rfl rfl (pre := []) (post := []) (ws' := (wB ad cI g)) rfl rfl ?_
  refine g_bipush C (v := 10) dX0_orderIfPossible_5 cb_10 ?_
  refine g_isub C (v := (xSh g r) - 10) dX0_orderIfPossible_7 rfl ?_
  refine g_istore_n C (lv' := [(2, .int ((xSh g r) - 10)), (0, .ref (ad 0)), (1, .int (nI r))]) dX0_orderIfPossible_8 rfl (by decide) rfl ?_
  refine g_iload_n C dX0_orderIfPossible_9 0 rfl ?_
  refine g_if_lt C (tgt := 25) dX0_orderIfPossible_10 (by decide) (fun h10_1 => ?_) (fun h10_1 => ?_)
  · refine g_iconst C (v := 0) dX0_orderIfPossible_25 ci_0 ?_
    exact g_iret C hret hlk dX0_orderIfPossible_26 (by simp only [xOr, eq_true h10_1, Bool.false_eq_true, not_false_eq_true, not_true_eq_false, and_self, and_true, true_and, and_false, false_and, or_true, true_or, or_false, false_or, or_self, if_true, if_false, eq_self, ite_true, ite_false, reduceIte]) (by simp only [xOr, eq_true h10_1, Bool.false_eq_true, not_false_eq_true, not_true_eq_false, and_self, and_true, true_and, and_false, false_and, or_true, true_or, or_false, false_or, or_self, if_true, if_false, eq_self, ite_true, ite_false, reduceIte])
  · refine g_aload_n C dX0_orderIfPossible_13 1 rfl ?_
    refine g_iload_n C dX0_orderIfPossible_14 2 rfl ?_
    refine g_iload_n C dX0_orderIfPossible_15 0 rfl ?_
    refine g_iconst C (v := 1) dX0_orderIfPossible_16 ci_1 ?_
    refine g_iconst C (v := 0) dX0_orderIfPossible_17 ci_0 ?_
    refine g_callVi C (c_X0_turnAndCarry l D cI cO ad g r hr ((xSh g r) - 10) 1 0) gX0_orderIfPossible_X0_turnAndCarry rfl ⟨rfl, rfl⟩ hd_X0_turnAndCarry ⟨Nat.le_of_ble_eq_true rfl, Nat.le_of_ble_eq_true rfl⟩ [0, 1] rfl (fun _ _ => trivial) rfl (rest := []) rfl (Nat.le_of_ble_eq_true rfl) dX0_orderIfPossible_18 ⟨Nat.zero_le _, Nat.zero_le _⟩ 0 rfl rfl rfl (pre := []) (post := []) (ws' := (wB ad cI ((xTc g r ((xSh g r) - 10) 1 0).2))) rfl rfl ?_
    refine g_iconst C (v := -1) dX0_orderIfPossible_21 ci_m1 ?_
    refine g_icmp_ne C (tgt := 27) dX0_orderIfPossible_22 (by decide) (fun h22_2 => ?_) (fun h22_2 => ?_)
    · refine g_ws (ws' := (wB ad cI g)) (by rw [xTc_0]) ?_
      refine g_aload_n C dX0_orderIfPossible_27 1 rfl ?_
      refine g_iload_n C dX0_orderIfPossible_28 2 rfl ?_
      refine g_iload_n C dX0_orderIfPossible_29 0 rfl ?_
      refine g_iconst C (v := 1) dX0_orderIfPossible_30 ci_1 ?_
      refine g_iconst C (v := 1) dX0_orderIfPossible_31 ci_1 ?_
      refine g_callVi C (c_X0_turnAndCarry l D cI cO ad g r hr ((xSh g r) - 10) 1 1) gX0_orderIfPossible_X0_turnAndCarry rfl ⟨rfl, rfl⟩ hd_X0_turnAndCarry ⟨Nat.le_of_ble_eq_true rfl, Nat.le_of_ble_eq_true rfl⟩ [0, 1] rfl (fun _ _ => trivial) rfl (rest := []) rfl (Nat.le_of_ble_eq_true rfl) dX0_orderIfPossible_32 ⟨Nat.zero_le _, Nat.zero_le _⟩ 0 rfl rfl rfl (pre := []) (post := []) (ws' := (wB ad cI ((xTc g r ((xSh g r) - 10) 1 1).2))) rfl rfl ?_
      exact g_iret C hret hlk dX0_orderIfPossible_35 (by simp only [xOr, h10_1, h22_2, Bool.false_eq_true, not_false_eq_true, not_true_eq_false, and_self, and_true, true_and, and_false, false_and, or_true, true_or, or_false, false_or, or_self, if_true, if_false, eq_self, ite_true, ite_false, reduceIte]) (by simp only [xOr, h10_1, h22_2, Bool.false_eq_true, not_false_eq_true, not_true_eq_false, and_self, and_true, true_and, and_false, false_and, or_true, true_or, or_false, false_or, or_self, if_true, if_false, eq_self, ite_true, ite_false, reduceIte])
    · refine g_ws (ws' := (wB ad cI g)) (by rw [xTc_0]) ?_
      refine g_iconst C (v := 0) dX0_orderIfPossible_25 ci_0 ?_
      exact g_iret C hret hlk dX0_orderIfPossible_26 (by simp only [xOr, h10_1, eq_true h22_2, Bool.false_eq_true, not_false_eq_true, not_true_eq_false, and_self, and_true, true_and, and_false, false_and, or_true, true_or, or_false, false_or, or_self, if_true, if_false, eq_self, ite_true, ite_false, reduceIte]) (by simp only [xOr, h10_1, eq_true h22_2, Bool.false_eq_true, not_false_eq_true, not_true_eq_false, and_self, and_true, true_and, and_false, false_and, or_true, true_or, or_false, false_or, or_self, if_true, if_false, eq_self, ite_true, ite_false, reduceIte])
theorem gt15 {k : Nat} (h : k < 16) : ¬ (15 : Int32) < nI k := fun z => absurd ((nI_ltI (a := 15) (b := k) (by decide) (by omega)).mp z) (by omega)
abbrev rmX0_reach : Room := { frames := 3, cells := 0, slots := 0, locals := 73 }
set_option maxHeartbeats 1000000 in
set_option maxRecDepth 100000 in
theorem c_X0_reach (l : Launch) (D : va_G) (cI cO : ClassId) (ad : Nat → Nat) (g : Nat → Int32) (r : Nat) (hr : r < 9) : cR (fun _ => True) l yX0_reach wsX0_reach rmX0_reach D vwCl (tyA cI cO) [.ref (ad 0), .int (nI r)] (wB ad cI g) (some (.int (xRe g r 16))) (wB ad cI g) := by
  refine cR_of (cc := cX0_reach) (maxL := 4) (ret := (some .int)) (by decide) rfl (Nat.le_of_ble_eq_true rfl) ?_
  intro p e s m below meth c A C hret hlk hnm hF
  refine g_lv [0, 1] (lv' := [(0, .ref (ad 0)), (1, .int (nI r))]) rfl ?_
  have K : ∀ (n q : Nat), n + q = 16 → ∀ x : Int32, x = xRe g r q → gG p l e rmX0_reach s m ([.ref (ad 0), .int (nI r)] : List Value).toArray below meth c D vwCl A s.heap 4 (MQ below (cQ (some (.int (xRe g r 16))) (cB D vwCl (tyA cI cO) A (wB ad cI g)) A) ([.ref (ad 0), .int (nI r)] : List Value).toArray s 0 0 A) 0 0 (wB ad cI g) 4 [(0, .ref (ad 0)), (1, .int (nI r)), (2, .int x), (3, .int (nI q))] [] := by
    intro n
    induction n with
    | zero =>
      intro q hn x hx
      obtain rfl : q = 16 := by omega
      refine g_iload_n C dX0_reach_4 3 rfl ?_
      refine g_bipush C (v := 15) dX0_reach_5 cb_15 ?_
      refine g_icmp_gt C (tgt := 30) dX0_reach_7 (by decide) (fun _ => ?_) (fun h7_1 => absurd (by decide) h7_1)
      refine g_iload_n C dX0_reach_30 2 rfl ?_
      exact g_iret C hret hlk dX0_reach_31 hx rfl
    | succ n ih =>
      intro q hn x hx
      have hq9 : q < 16 := by omega
      refine g_iload_n C dX0_reach_4 3 rfl ?_
      refine g_bipush C (v := 15) dX0_reach_5 cb_15 ?_
      refine g_icmp_gt C (tgt := 30) dX0_reach_7 (by decide) (fun h7_2 => absurd h7_2 (gt15 hq9)) (fun _ => ?_)
      refine g_aload_n C dX0_reach_10 0 rfl ?_
      refine g_iload_n C dX0_reach_11 1 rfl ?_
      refine g_iload_n C dX0_reach_12 3 rfl ?_
      refine g_iconst C (v := 0) dX0_reach_13 ci_0 ?_
      refine g_callVi C (c_X0_turn l D cI cO ad g r hr (nI q) 0) gX0_reach_X0_turn rfl ⟨rfl, rfl⟩ hd_X0_turn ⟨Nat.le_of_ble_eq_true rfl, Nat.le_of_ble_eq_true rfl⟩ [0, 1] rfl (fun _ _ => trivial) rfl (rest := []) rfl (Nat.le_of_ble_eq_true rfl) dX0_reach_14 ⟨Nat.zero_le _, Nat.zero_le _⟩ 0 rfl rfl rfl (pre := []) (post := []) (ws' := (wB ad cI (xTn g r (nI q) 0))) rfl rfl ?_
      refine g_iconst C (v := -1) dX0_reach_17 ci_m1 ?_
      refine g_icmp_eq C (tgt := 24) dX0_reach_18 (by decide) (fun h18_3 => ?_) (fun h18_3 => ?_)
      · refine g_ws (ws' := (wB ad cI g)) (by rw [xTn_0]) ?_
        refine g_iinc C (v := nI (q + 1)) (lv' := [(3, .int (nI (q + 1))), (0, .ref (ad 0)), (1, .int (nI r)), (2, .int x)]) dX0_reach_24 3 rfl (inc_nI _) (by decide) rfl ?_
        refine g_goto C (tgt := 4) dX0_reach_27 (by decide) ?_
        refine g_lv [1, 2, 3, 0] (lv' := [(0, .ref (ad 0)), (1, .int (nI r)), (2, .int x), (3, .int (nI (q + 1)))]) rfl ?_
        exact ih (q + 1) (by omega) _ (by rw [hx]; simp only [xRe, eq_true h18_3, Bool.false_eq_true, not_false_eq_true, not_true_eq_false, and_self, and_true, true_and, and_false, false_and, or_true, true_or, or_false, false_or, or_self, if_true, if_false, eq_self, ite_true, ite_false, reduceIte])
      · refine g_ws (ws' := (wB ad cI g)) (by rw [xTn_0]) ?_
        refine g_iinc C (v := x + 1) (lv' := [(2, .int (x + 1)), (0, .ref (ad 0)), (1, .int (nI r)), (3, .int (nI q))]) dX0_reach_21 2 rfl (inc_x _) (by decide) rfl ?_
        refine g_iinc C (v := nI (q + 1)) (lv' := [(3, .int (nI (q + 1))), (2, .int (x + 1)), (0, .ref (ad 0)), (1, .int (nI r))]) dX0_reach_24 3 rfl (inc_nI _) (by decide) rfl ?_
        refine g_goto C (tgt := 4) dX0_reach_27 (by decide) ?_
        refine g_lv [2, 3, 1, 0] (lv' := [(0, .ref (ad 0)), (1, .int (nI r)), (2, .int (x + 1)), (3, .int (nI (q + 1)))]) rfl ?_
        exact ih (q + 1) (by omega) _ (by rw [hx]; simp only [xRe, h18_3, Bool.false_eq_true, not_false_eq_true, not_true_eq_false, and_self, and_true, true_and, and_false, false_and, or_true, true_or, or_false, false_or, or_self, if_true, if_false, eq_self, ite_true, ite_false, reduceIte])
  refine g_iconst C (v := 0) dX0_reach_0 ci_0 ?_
  refine g_istore_n C (lv' := [(2, .int 0), (0, .ref (ad 0)), (1, .int (nI r))]) dX0_reach_1 rfl (by decide) rfl ?_
  refine g_iconst C (v := 0) dX0_reach_2 ci_0 ?_
  refine g_istore_n C (lv' := [(3, .int 0), (2, .int 0), (0, .ref (ad 0)), (1, .int (nI r))]) dX0_reach_3 rfl (by decide) rfl ?_
  refine g_lv [2, 3, 1, 0] (lv' := [(0, .ref (ad 0)), (1, .int (nI r)), (2, .int 0), (3, .int 0)]) rfl ?_
  exact K 16 0 rfl _ rfl
theorem fw_X0_allMoved_fld24 : Cond.fieldLink RX0 24 "StuckRods$Board" "moved" "[I" ∈ wsX0_allMoved := (List.mem_cons_of_mem _ (List.mem_append_left _ (List.mem_of_getElem? (i := 0) rfl)))
theorem fl_X0_allMoved_X0 : ∀ w ∈ wsX00, w ∈ wsX0_allMoved := fun _ h => List.mem_cons_of_mem _ (List.mem_append_right _ h)
abbrev rmX0_allMoved : Room := { frames := 0, cells := 0, slots := 0, locals := 0 }
set_option maxHeartbeats 1000000 in
set_option maxRecDepth 100000 in
theorem c_X0_allMoved (l : Launch) (D : va_G) (cI cO : ClassId) (ad : Nat → Nat) (g : Nat → Int32) : cR (fun _ => True) l yX0_allMoved wsX0_allMoved rmX0_allMoved D vwCl (tyA cI cO) [.ref (ad 0)] (wB ad cI g) (some (.int (xSu (fun j => g (6 * j + 5)) 9))) (wB ad cI g) := by
  refine cR_of (cc := cX0_allMoved) (maxL := 3) (ret := (some .int)) (by decide) rfl (Nat.le_of_ble_eq_true rfl) ?_
  intro p e s m below meth c A C hret hlk hnm hF
  refine g_lv [0] (lv' := [(0, .ref (ad 0))]) rfl ?_
  have K : ∀ (n q : Nat), n + q = 9 → ∀ x : Int32, x = xSu (fun j => g (6 * j + 5)) q → gG p l e rmX0_allMoved s m ([.ref (ad 0)] : List Value).toArray below meth c D vwCl A s.heap 3 (MQ below (cQ (some (.int (xSu (fun j => g (6 * j + 5)) 9))) (cB D vwCl (tyA cI cO) A (wB ad cI g)) A) ([.ref (ad 0)] : List Value).toArray s 0 0 A) 0 0 (wB ad cI g) 4 [(0, .ref (ad 0)), (1, .int x), (2, .int (nI q))] [] := by
    intro n
    induction n with
    | zero =>
      intro q hn x hx
      obtain rfl : q = 9 := by omega
      refine g_iload_n C dX0_allMoved_4 2 rfl ?_
      refine g_bipush C (v := 9) dX0_allMoved_5 cb_9 ?_
      refine g_icmp_ge C (tgt := 25) dX0_allMoved_7 (by decide) (fun _ => ?_) (fun h7_1 => absurd (by decide) h7_1)
      refine g_iload_n C dX0_allMoved_25 1 rfl ?_
      exact g_iret C hret hlk dX0_allMoved_26 hx rfl
    | succ n ih =>
      intro q hn x hx
      have hq9 : q < 9 := by omega
      refine g_iload_n C dX0_allMoved_4 2 rfl ?_
      refine g_bipush C (v := 9) dX0_allMoved_5 cb_9 ?_
      refine g_icmp_ge C (tgt := 25) dX0_allMoved_7 (by decide) (fun h7_2 => absurd h7_2 (ge9 hq9)) (fun _ => ?_)
      refine g_iload_n C dX0_allMoved_10 1 rfl ?_
      refine g_aload_n C dX0_allMoved_11 0 rfl ?_
      refine g_get C (v := .ref (ad 5)) fl_X0_allMoved_X0 0 rfl rfl 4 (by decide) fw_X0_allMoved_fld24 rfl dX0_allMoved_12 ?_
      refine g_iload_n C dX0_allMoved_15 2 rfl ?_
      refine g_iald C (x := g (6 * q + 5)) 5 0 rfl rfl q rfl hq9 (by decide) rfl dX0_allMoved_16 ?_
      refine g_iadd C (v := x + (g (6 * q + 5))) dX0_allMoved_17 rfl ?_
      refine g_istore_n C (lv' := [(1, .int (x + (g (6 * q + 5)))), (0, .ref (ad 0)), (2, .int (nI q))]) dX0_allMoved_18 rfl (by decide) rfl ?_
      refine g_iinc C (v := nI (q + 1)) (lv' := [(2, .int (nI (q + 1))), (1, .int (x + (g (6 * q + 5)))), (0, .ref (ad 0))]) dX0_allMoved_19 2 rfl (inc_nI _) (by decide) rfl ?_
      refine g_goto C (tgt := 4) dX0_allMoved_22 (by decide) ?_
      refine g_lv [2, 1, 0] (lv' := [(0, .ref (ad 0)), (1, .int (x + (g (6 * q + 5)))), (2, .int (nI (q + 1)))]) rfl ?_
      exact ih (q + 1) (by omega) _ (by rw [hx]; simp only [xSu, Bool.false_eq_true, not_false_eq_true, not_true_eq_false, and_self, and_true, true_and, and_false, false_and, or_true, true_or, or_false, false_or, or_self, if_true, if_false, eq_self, ite_true, ite_false, reduceIte])
  refine g_iconst C (v := 0) dX0_allMoved_0 ci_0 ?_
  refine g_istore_n C (lv' := [(1, .int 0), (0, .ref (ad 0))]) dX0_allMoved_1 rfl (by decide) rfl ?_
  refine g_iconst C (v := 0) dX0_allMoved_2 ci_0 ?_
  refine g_istore_n C (lv' := [(2, .int 0), (1, .int 0), (0, .ref (ad 0))]) dX0_allMoved_3 rfl (by decide) rfl ?_
  refine g_lv [2, 1, 0] (lv' := [(0, .ref (ad 0)), (1, .int 0), (2, .int 0)]) rfl ?_
  exact K 9 0 rfl _ rfl
theorem fw_X0_allLoans_fld21 : Cond.fieldLink RX0 21 "StuckRods$Board" "loan" "[I" ∈ wsX0_allLoans := (List.mem_cons_of_mem _ (List.mem_append_left _ (List.mem_of_getElem? (i := 0) rfl)))
theorem fl_X0_allLoans_X0 : ∀ w ∈ wsX00, w ∈ wsX0_allLoans := fun _ h => List.mem_cons_of_mem _ (List.mem_append_right _ h)
abbrev rmX0_allLoans : Room := { frames := 0, cells := 0, slots := 0, locals := 0 }
set_option maxHeartbeats 1000000 in
set_option maxRecDepth 100000 in
theorem c_X0_allLoans (l : Launch) (D : va_G) (cI cO : ClassId) (ad : Nat → Nat) (g : Nat → Int32) : cR (fun _ => True) l yX0_allLoans wsX0_allLoans rmX0_allLoans D vwCl (tyA cI cO) [.ref (ad 0)] (wB ad cI g) (some (.int (xSu (fun j => g (6 * j + 3)) 9))) (wB ad cI g) := by
  refine cR_of (cc := cX0_allLoans) (maxL := 3) (ret := (some .int)) (by decide) rfl (Nat.le_of_ble_eq_true rfl) ?_
  intro p e s m below meth c A C hret hlk hnm hF
  refine g_lv [0] (lv' := [(0, .ref (ad 0))]) rfl ?_
  have K : ∀ (n q : Nat), n + q = 9 → ∀ x : Int32, x = xSu (fun j => g (6 * j + 3)) q → gG p l e rmX0_allLoans s m ([.ref (ad 0)] : List Value).toArray below meth c D vwCl A s.heap 3 (MQ below (cQ (some (.int (xSu (fun j => g (6 * j + 3)) 9))) (cB D vwCl (tyA cI cO) A (wB ad cI g)) A) ([.ref (ad 0)] : List Value).toArray s 0 0 A) 0 0 (wB ad cI g) 4 [(0, .ref (ad 0)), (1, .int x), (2, .int (nI q))] [] := by
    intro n
    induction n with
    | zero =>
      intro q hn x hx
      obtain rfl : q = 9 := by omega
      refine g_iload_n C dX0_allLoans_4 2 rfl ?_
      refine g_bipush C (v := 9) dX0_allLoans_5 cb_9 ?_
      refine g_icmp_ge C (tgt := 25) dX0_allLoans_7 (by decide) (fun _ => ?_) (fun h7_1 => absurd (by decide) h7_1)
      refine g_iload_n C dX0_allLoans_25 1 rfl ?_
      exact g_iret C hret hlk dX0_allLoans_26 hx rfl
    | succ n ih =>
      intro q hn x hx
      have hq9 : q < 9 := by omega
      refine g_iload_n C dX0_allLoans_4 2 rfl ?_
      refine g_bipush C (v := 9) dX0_allLoans_5 cb_9 ?_
      refine g_icmp_ge C (tgt := 25) dX0_allLoans_7 (by decide) (fun h7_2 => absurd h7_2 (ge9 hq9)) (fun _ => ?_)
      refine g_iload_n C dX0_allLoans_10 1 rfl ?_
      refine g_aload_n C dX0_allLoans_11 0 rfl ?_
      refine g_get C (v := .ref (ad 4)) fl_X0_allLoans_X0 0 rfl rfl 3 (by decide) fw_X0_allLoans_fld21 rfl dX0_allLoans_12 ?_
      refine g_iload_n C dX0_allLoans_15 2 rfl ?_
      refine g_iald C (x := g (6 * q + 3)) 4 0 rfl rfl q rfl hq9 (by decide) rfl dX0_allLoans_16 ?_
      refine g_iadd C (v := x + (g (6 * q + 3))) dX0_allLoans_17 rfl ?_
      refine g_istore_n C (lv' := [(1, .int (x + (g (6 * q + 3)))), (0, .ref (ad 0)), (2, .int (nI q))]) dX0_allLoans_18 rfl (by decide) rfl ?_
      refine g_iinc C (v := nI (q + 1)) (lv' := [(2, .int (nI (q + 1))), (1, .int (x + (g (6 * q + 3)))), (0, .ref (ad 0))]) dX0_allLoans_19 2 rfl (inc_nI _) (by decide) rfl ?_
      refine g_goto C (tgt := 4) dX0_allLoans_22 (by decide) ?_
      refine g_lv [2, 1, 0] (lv' := [(0, .ref (ad 0)), (1, .int (x + (g (6 * q + 3)))), (2, .int (nI (q + 1)))]) rfl ?_
      exact ih (q + 1) (by omega) _ (by rw [hx]; simp only [xSu, Bool.false_eq_true, not_false_eq_true, not_true_eq_false, and_self, and_true, true_and, and_false, false_and, or_true, true_or, or_false, false_or, or_self, if_true, if_false, eq_self, ite_true, ite_false, reduceIte])
  refine g_iconst C (v := 0) dX0_allLoans_0 ci_0 ?_
  refine g_istore_n C (lv' := [(1, .int 0), (0, .ref (ad 0))]) dX0_allLoans_1 rfl (by decide) rfl ?_
  refine g_iconst C (v := 0) dX0_allLoans_2 ci_0 ?_
  refine g_istore_n C (lv' := [(2, .int 0), (1, .int 0), (0, .ref (ad 0))]) dX0_allLoans_3 rfl (by decide) rfl ?_
  refine g_lv [2, 1, 0] (lv' := [(0, .ref (ad 0)), (1, .int 0), (2, .int 0)]) rfl ?_
  exact K 9 0 rfl _ rfl
abbrev rmX0_allShown : Room := { frames := 1, cells := 0, slots := 0, locals := 21 }
set_option maxHeartbeats 1000000 in
set_option maxRecDepth 100000 in
theorem c_X0_allShown (l : Launch) (D : va_G) (cI cO : ClassId) (ad : Nat → Nat) (g : Nat → Int32) : cR (fun _ => True) l yX0_allShown wsX0_allShown rmX0_allShown D vwCl (tyA cI cO) [.ref (ad 0)] (wB ad cI g) (some (.int (xSu (fun j => xSh g j) 9))) (wB ad cI g) := by
  refine cR_of (cc := cX0_allShown) (maxL := 3) (ret := (some .int)) (by decide) rfl (Nat.le_of_ble_eq_true rfl) ?_
  intro p e s m below meth c A C hret hlk hnm hF
  refine g_lv [0] (lv' := [(0, .ref (ad 0))]) rfl ?_
  have K : ∀ (n q : Nat), n + q = 9 → ∀ x : Int32, x = xSu (fun j => xSh g j) q → gG p l e rmX0_allShown s m ([.ref (ad 0)] : List Value).toArray below meth c D vwCl A s.heap 3 (MQ below (cQ (some (.int (xSu (fun j => xSh g j) 9))) (cB D vwCl (tyA cI cO) A (wB ad cI g)) A) ([.ref (ad 0)] : List Value).toArray s 0 0 A) 0 0 (wB ad cI g) 4 [(0, .ref (ad 0)), (1, .int x), (2, .int (nI q))] [] := by
    intro n
    induction n with
    | zero =>
      intro q hn x hx
      obtain rfl : q = 9 := by omega
      refine g_iload_n C dX0_allShown_4 2 rfl ?_
      refine g_bipush C (v := 9) dX0_allShown_5 cb_9 ?_
      refine g_icmp_ge C (tgt := 24) dX0_allShown_7 (by decide) (fun _ => ?_) (fun h7_1 => absurd (by decide) h7_1)
      refine g_iload_n C dX0_allShown_24 1 rfl ?_
      exact g_iret C hret hlk dX0_allShown_25 hx rfl
    | succ n ih =>
      intro q hn x hx
      have hq9 : q < 9 := by omega
      refine g_iload_n C dX0_allShown_4 2 rfl ?_
      refine g_bipush C (v := 9) dX0_allShown_5 cb_9 ?_
      refine g_icmp_ge C (tgt := 24) dX0_allShown_7 (by decide) (fun h7_2 => absurd h7_2 (ge9 hq9)) (fun _ => ?_)
      refine g_iload_n C dX0_allShown_10 1 rfl ?_
      refine g_aload_n C dX0_allShown_11 0 rfl ?_
      refine g_iload_n C dX0_allShown_12 2 rfl ?_
      refine g_callVi C (c_X0_shown l D cI cO ad g q hq9) gX0_allShown_X0_shown rfl ⟨rfl, rfl⟩ hd_X0_shown ⟨Nat.le_of_ble_eq_true rfl, Nat.le_of_ble_eq_true rfl⟩ [0, 1] rfl (fun _ _ => trivial) rfl (rest := [.int x]) rfl (Nat.le_of_ble_eq_true rfl) dX0_allShown_13 ⟨Nat.zero_le _, Nat.zero_le _⟩ 0 rfl rfl rfl (pre := []) (post := []) (ws' := (wB ad cI g)) rfl rfl ?_
      refine g_iadd C (v := x + (xSh g q)) dX0_allShown_16 rfl ?_
      refine g_istore_n C (lv' := [(1, .int (x + (xSh g q))), (0, .ref (ad 0)), (2, .int (nI q))]) dX0_allShown_17 rfl (by decide) rfl ?_
      refine g_iinc C (v := nI (q + 1)) (lv' := [(2, .int (nI (q + 1))), (1, .int (x + (xSh g q))), (0, .ref (ad 0))]) dX0_allShown_18 2 rfl (inc_nI _) (by decide) rfl ?_
      refine g_goto C (tgt := 4) dX0_allShown_21 (by decide) ?_
      refine g_lv [2, 1, 0] (lv' := [(0, .ref (ad 0)), (1, .int (x + (xSh g q))), (2, .int (nI (q + 1)))]) rfl ?_
      exact ih (q + 1) (by omega) _ (by rw [hx]; simp only [xSu, Bool.false_eq_true, not_false_eq_true, not_true_eq_false, and_self, and_true, true_and, and_false, false_and, or_true, true_or, or_false, false_or, or_self, if_true, if_false, eq_self, ite_true, ite_false, reduceIte])
  refine g_iconst C (v := 0) dX0_allShown_0 ci_0 ?_
  refine g_istore_n C (lv' := [(1, .int 0), (0, .ref (ad 0))]) dX0_allShown_1 rfl (by decide) rfl ?_
  refine g_iconst C (v := 0) dX0_allShown_2 ci_0 ?_
  refine g_istore_n C (lv' := [(2, .int 0), (1, .int 0), (0, .ref (ad 0))]) dX0_allShown_3 rfl (by decide) rfl ?_
  refine g_lv [2, 1, 0] (lv' := [(0, .ref (ad 0)), (1, .int 0), (2, .int 0)]) rfl ?_
  exact K 9 0 rfl _ rfl
theorem fw_X0_rodsWithLoan_fld21 : Cond.fieldLink RX0 21 "StuckRods$Board" "loan" "[I" ∈ wsX0_rodsWithLoan := (List.mem_cons_of_mem _ (List.mem_append_left _ (List.mem_of_getElem? (i := 0) rfl)))
theorem fl_X0_rodsWithLoan_X0 : ∀ w ∈ wsX00, w ∈ wsX0_rodsWithLoan := fun _ h => List.mem_cons_of_mem _ (List.mem_append_right _ h)
abbrev rmX0_rodsWithLoan : Room := { frames := 0, cells := 0, slots := 0, locals := 0 }
set_option maxHeartbeats 1000000 in
set_option maxRecDepth 100000 in
theorem c_X0_rodsWithLoan (l : Launch) (D : va_G) (cI cO : ClassId) (ad : Nat → Nat) (g : Nat → Int32) : cR (fun _ => True) l yX0_rodsWithLoan wsX0_rodsWithLoan rmX0_rodsWithLoan D vwCl (tyA cI cO) [.ref (ad 0)] (wB ad cI g) (some (.int (xCt (fun j => ¬ g (6 * j + 3) = 0) 9))) (wB ad cI g) := by
  refine cR_of (cc := cX0_rodsWithLoan) (maxL := 3) (ret := (some .int)) (by decide) rfl (Nat.le_of_ble_eq_true rfl) ?_
  intro p e s m below meth c A C hret hlk hnm hF
  refine g_lv [0] (lv' := [(0, .ref (ad 0))]) rfl ?_
  have K : ∀ (n q : Nat), n + q = 9 → ∀ x : Int32, x = xCt (fun j => ¬ g (6 * j + 3) = 0) q → gG p l e rmX0_rodsWithLoan s m ([.ref (ad 0)] : List Value).toArray below meth c D vwCl A s.heap 3 (MQ below (cQ (some (.int (xCt (fun j => ¬ g (6 * j + 3) = 0) 9))) (cB D vwCl (tyA cI cO) A (wB ad cI g)) A) ([.ref (ad 0)] : List Value).toArray s 0 0 A) 0 0 (wB ad cI g) 4 [(0, .ref (ad 0)), (1, .int x), (2, .int (nI q))] [] := by
    intro n
    induction n with
    | zero =>
      intro q hn x hx
      obtain rfl : q = 9 := by omega
      refine g_iload_n C dX0_rodsWithLoan_4 2 rfl ?_
      refine g_bipush C (v := 9) dX0_rodsWithLoan_5 cb_9 ?_
      refine g_icmp_ge C (tgt := 28) dX0_rodsWithLoan_7 (by decide) (fun _ => ?_) (fun h7_1 => absurd (by decide) h7_1)
      refine g_iload_n C dX0_rodsWithLoan_28 1 rfl ?_
      exact g_iret C hret hlk dX0_rodsWithLoan_29 hx rfl
    | succ n ih =>
      intro q hn x hx
      have hq9 : q < 9 := by omega
      refine g_iload_n C dX0_rodsWithLoan_4 2 rfl ?_
      refine g_bipush C (v := 9) dX0_rodsWithLoan_5 cb_9 ?_
      refine g_icmp_ge C (tgt := 28) dX0_rodsWithLoan_7 (by decide) (fun h7_2 => absurd h7_2 (ge9 hq9)) (fun _ => ?_)
      refine g_aload_n C dX0_rodsWithLoan_10 0 rfl ?_
      refine g_get C (v := .ref (ad 4)) fl_X0_rodsWithLoan_X0 0 rfl rfl 3 (by decide) fw_X0_rodsWithLoan_fld21 rfl dX0_rodsWithLoan_11 ?_
      refine g_iload_n C dX0_rodsWithLoan_14 2 rfl ?_
      refine g_iald C (x := g (6 * q + 3)) 4 0 rfl rfl q rfl hq9 (by decide) rfl dX0_rodsWithLoan_15 ?_
      refine g_if_eq C (tgt := 22) dX0_rodsWithLoan_16 (by decide) (fun h16_3 => ?_) (fun h16_3 => ?_)
      · refine g_iinc C (v := nI (q + 1)) (lv' := [(2, .int (nI (q + 1))), (0, .ref (ad 0)), (1, .int x)]) dX0_rodsWithLoan_22 2 rfl (inc_nI _) (by decide) rfl ?_
        refine g_goto C (tgt := 4) dX0_rodsWithLoan_25 (by decide) ?_
        refine g_lv [1, 2, 0] (lv' := [(0, .ref (ad 0)), (1, .int x), (2, .int (nI (q + 1)))]) rfl ?_
        exact ih (q + 1) (by omega) _ (by rw [hx]; simp only [xCt, eq_true h16_3, Bool.false_eq_true, not_false_eq_true, not_true_eq_false, and_self, and_true, true_and, and_false, false_and, or_true, true_or, or_false, false_or, or_self, if_true, if_false, eq_self, ite_true, ite_false, reduceIte])
      · refine g_iinc C (v := x + 1) (lv' := [(1, .int (x + 1)), (0, .ref (ad 0)), (2, .int (nI q))]) dX0_rodsWithLoan_19 1 rfl (inc_x _) (by decide) rfl ?_
        refine g_iinc C (v := nI (q + 1)) (lv' := [(2, .int (nI (q + 1))), (1, .int (x + 1)), (0, .ref (ad 0))]) dX0_rodsWithLoan_22 2 rfl (inc_nI _) (by decide) rfl ?_
        refine g_goto C (tgt := 4) dX0_rodsWithLoan_25 (by decide) ?_
        refine g_lv [2, 1, 0] (lv' := [(0, .ref (ad 0)), (1, .int (x + 1)), (2, .int (nI (q + 1)))]) rfl ?_
        exact ih (q + 1) (by omega) _ (by rw [hx]; simp only [xCt, h16_3, Bool.false_eq_true, not_false_eq_true, not_true_eq_false, and_self, and_true, true_and, and_false, false_and, or_true, true_or, or_false, false_or, or_self, if_true, if_false, eq_self, ite_true, ite_false, reduceIte])
  refine g_iconst C (v := 0) dX0_rodsWithLoan_0 ci_0 ?_
  refine g_istore_n C (lv' := [(1, .int 0), (0, .ref (ad 0))]) dX0_rodsWithLoan_1 rfl (by decide) rfl ?_
  refine g_iconst C (v := 0) dX0_rodsWithLoan_2 ci_0 ?_
  refine g_istore_n C (lv' := [(2, .int 0), (1, .int 0), (0, .ref (ad 0))]) dX0_rodsWithLoan_3 rfl (by decide) rfl ?_
  refine g_lv [2, 1, 0] (lv' := [(0, .ref (ad 0)), (1, .int 0), (2, .int 0)]) rfl ?_
  exact K 9 0 rfl _ rfl
abbrev rmX0_rodsOutOfOrder : Room := { frames := 1, cells := 0, slots := 0, locals := 21 }
set_option maxHeartbeats 1000000 in
set_option maxRecDepth 100000 in
theorem c_X0_rodsOutOfOrder (l : Launch) (D : va_G) (cI cO : ClassId) (ad : Nat → Nat) (g : Nat → Int32) : cR (fun _ => True) l yX0_rodsOutOfOrder wsX0_rodsOutOfOrder rmX0_rodsOutOfOrder D vwCl (tyA cI cO) [.ref (ad 0)] (wB ad cI g) (some (.int (xCt (fun j => ¬ xSh g j < 10) 9))) (wB ad cI g) := by
  refine cR_of (cc := cX0_rodsOutOfOrder) (maxL := 3) (ret := (some .int)) (by decide) rfl (Nat.le_of_ble_eq_true rfl) ?_
  intro p e s m below meth c A C hret hlk hnm hF
  refine g_lv [0] (lv' := [(0, .ref (ad 0))]) rfl ?_
  have K : ∀ (n q : Nat), n + q = 9 → ∀ x : Int32, x = xCt (fun j => ¬ xSh g j < 10) q → gG p l e rmX0_rodsOutOfOrder s m ([.ref (ad 0)] : List Value).toArray below meth c D vwCl A s.heap 3 (MQ below (cQ (some (.int (xCt (fun j => ¬ xSh g j < 10) 9))) (cB D vwCl (tyA cI cO) A (wB ad cI g)) A) ([.ref (ad 0)] : List Value).toArray s 0 0 A) 0 0 (wB ad cI g) 4 [(0, .ref (ad 0)), (1, .int x), (2, .int (nI q))] [] := by
    intro n
    induction n with
    | zero =>
      intro q hn x hx
      obtain rfl : q = 9 := by omega
      refine g_iload_n C dX0_rodsOutOfOrder_4 2 rfl ?_
      refine g_bipush C (v := 9) dX0_rodsOutOfOrder_5 cb_9 ?_
      refine g_icmp_ge C (tgt := 29) dX0_rodsOutOfOrder_7 (by decide) (fun _ => ?_) (fun h7_1 => absurd (by decide) h7_1)
      refine g_iload_n C dX0_rodsOutOfOrder_29 1 rfl ?_
      exact g_iret C hret hlk dX0_rodsOutOfOrder_30 hx rfl
    | succ n ih =>
      intro q hn x hx
      have hq9 : q < 9 := by omega
      refine g_iload_n C dX0_rodsOutOfOrder_4 2 rfl ?_
      refine g_bipush C (v := 9) dX0_rodsOutOfOrder_5 cb_9 ?_
      refine g_icmp_ge C (tgt := 29) dX0_rodsOutOfOrder_7 (by decide) (fun h7_2 => absurd h7_2 (ge9 hq9)) (fun _ => ?_)
      refine g_aload_n C dX0_rodsOutOfOrder_10 0 rfl ?_
      refine g_iload_n C dX0_rodsOutOfOrder_11 2 rfl ?_
      refine g_callVi C (c_X0_shown l D cI cO ad g q hq9) gX0_rodsOutOfOrder_X0_shown rfl ⟨rfl, rfl⟩ hd_X0_shown ⟨Nat.le_of_ble_eq_true rfl, Nat.le_of_ble_eq_true rfl⟩ [0, 1] rfl (fun _ _ => trivial) rfl (rest := []) rfl (Nat.le_of_ble_eq_true rfl) dX0_rodsOutOfOrder_12 ⟨Nat.zero_le _, Nat.zero_le _⟩ 0 rfl rfl rfl (pre := []) (post := []) (ws' := (wB ad cI g)) rfl rfl ?_
      refine g_bipush C (v := 10) dX0_rodsOutOfOrder_15 cb_10 ?_
      refine g_icmp_lt C (tgt := 23) dX0_rodsOutOfOrder_17 (by decide) (fun h17_3 => ?_) (fun h17_3 => ?_)
      · refine g_iinc C (v := nI (q + 1)) (lv' := [(2, .int (nI (q + 1))), (0, .ref (ad 0)), (1, .int x)]) dX0_rodsOutOfOrder_23 2 rfl (inc_nI _) (by decide) rfl ?_
        refine g_goto C (tgt := 4) dX0_rodsOutOfOrder_26 (by decide) ?_
        refine g_lv [1, 2, 0] (lv' := [(0, .ref (ad 0)), (1, .int x), (2, .int (nI (q + 1)))]) rfl ?_
        exact ih (q + 1) (by omega) _ (by rw [hx]; simp only [xCt, eq_true h17_3, Bool.false_eq_true, not_false_eq_true, not_true_eq_false, and_self, and_true, true_and, and_false, false_and, or_true, true_or, or_false, false_or, or_self, if_true, if_false, eq_self, ite_true, ite_false, reduceIte])
      · refine g_iinc C (v := x + 1) (lv' := [(1, .int (x + 1)), (0, .ref (ad 0)), (2, .int (nI q))]) dX0_rodsOutOfOrder_20 1 rfl (inc_x _) (by decide) rfl ?_
        refine g_iinc C (v := nI (q + 1)) (lv' := [(2, .int (nI (q + 1))), (1, .int (x + 1)), (0, .ref (ad 0))]) dX0_rodsOutOfOrder_23 2 rfl (inc_nI _) (by decide) rfl ?_
        refine g_goto C (tgt := 4) dX0_rodsOutOfOrder_26 (by decide) ?_
        refine g_lv [2, 1, 0] (lv' := [(0, .ref (ad 0)), (1, .int (x + 1)), (2, .int (nI (q + 1)))]) rfl ?_
        exact ih (q + 1) (by omega) _ (by rw [hx]; simp only [xCt, h17_3, Bool.false_eq_true, not_false_eq_true, not_true_eq_false, and_self, and_true, true_and, and_false, false_and, or_true, true_or, or_false, false_or, or_self, if_true, if_false, eq_self, ite_true, ite_false, reduceIte])
  refine g_iconst C (v := 0) dX0_rodsOutOfOrder_0 ci_0 ?_
  refine g_istore_n C (lv' := [(1, .int 0), (0, .ref (ad 0))]) dX0_rodsOutOfOrder_1 rfl (by decide) rfl ?_
  refine g_iconst C (v := 0) dX0_rodsOutOfOrder_2 ci_0 ?_
  refine g_istore_n C (lv' := [(2, .int 0), (1, .int 0), (0, .ref (ad 0))]) dX0_rodsOutOfOrder_3 rfl (by decide) rfl ?_
  refine g_lv [2, 1, 0] (lv' := [(0, .ref (ad 0)), (1, .int 0), (2, .int 0)]) rfl ?_
  exact K 9 0 rfl _ rfl
theorem fw_X0_rodsWithStuck_fld18 : Cond.fieldLink RX0 18 "StuckRods$Board" "stuck" "[I" ∈ wsX0_rodsWithStuck := (List.mem_cons_of_mem _ (List.mem_append_left _ (List.mem_of_getElem? (i := 0) rfl)))
theorem fl_X0_rodsWithStuck_X0 : ∀ w ∈ wsX00, w ∈ wsX0_rodsWithStuck := fun _ h => List.mem_cons_of_mem _ (List.mem_append_right _ h)
abbrev rmX0_rodsWithStuck : Room := { frames := 0, cells := 0, slots := 0, locals := 0 }
set_option maxHeartbeats 1000000 in
set_option maxRecDepth 100000 in
theorem c_X0_rodsWithStuck (l : Launch) (D : va_G) (cI cO : ClassId) (ad : Nat → Nat) (g : Nat → Int32) : cR (fun _ => True) l yX0_rodsWithStuck wsX0_rodsWithStuck rmX0_rodsWithStuck D vwCl (tyA cI cO) [.ref (ad 0)] (wB ad cI g) (some (.int (xCt (fun j => ¬ g (6 * j + 4) = 0) 9))) (wB ad cI g) := by
  refine cR_of (cc := cX0_rodsWithStuck) (maxL := 3) (ret := (some .int)) (by decide) rfl (Nat.le_of_ble_eq_true rfl) ?_
  intro p e s m below meth c A C hret hlk hnm hF
  refine g_lv [0] (lv' := [(0, .ref (ad 0))]) rfl ?_
  have K : ∀ (n q : Nat), n + q = 9 → ∀ x : Int32, x = xCt (fun j => ¬ g (6 * j + 4) = 0) q → gG p l e rmX0_rodsWithStuck s m ([.ref (ad 0)] : List Value).toArray below meth c D vwCl A s.heap 3 (MQ below (cQ (some (.int (xCt (fun j => ¬ g (6 * j + 4) = 0) 9))) (cB D vwCl (tyA cI cO) A (wB ad cI g)) A) ([.ref (ad 0)] : List Value).toArray s 0 0 A) 0 0 (wB ad cI g) 4 [(0, .ref (ad 0)), (1, .int x), (2, .int (nI q))] [] := by
    intro n
    induction n with
    | zero =>
      intro q hn x hx
      obtain rfl : q = 9 := by omega
      refine g_iload_n C dX0_rodsWithStuck_4 2 rfl ?_
      refine g_bipush C (v := 9) dX0_rodsWithStuck_5 cb_9 ?_
      refine g_icmp_ge C (tgt := 28) dX0_rodsWithStuck_7 (by decide) (fun _ => ?_) (fun h7_1 => absurd (by decide) h7_1)
      refine g_iload_n C dX0_rodsWithStuck_28 1 rfl ?_
      exact g_iret C hret hlk dX0_rodsWithStuck_29 hx rfl
    | succ n ih =>
      intro q hn x hx
      have hq9 : q < 9 := by omega
      refine g_iload_n C dX0_rodsWithStuck_4 2 rfl ?_
      refine g_bipush C (v := 9) dX0_rodsWithStuck_5 cb_9 ?_
      refine g_icmp_ge C (tgt := 28) dX0_rodsWithStuck_7 (by decide) (fun h7_2 => absurd h7_2 (ge9 hq9)) (fun _ => ?_)
      refine g_aload_n C dX0_rodsWithStuck_10 0 rfl ?_
      refine g_get C (v := .ref (ad 3)) fl_X0_rodsWithStuck_X0 0 rfl rfl 2 (by decide) fw_X0_rodsWithStuck_fld18 rfl dX0_rodsWithStuck_11 ?_
      refine g_iload_n C dX0_rodsWithStuck_14 2 rfl ?_
      refine g_iald C (x := g (6 * q + 4)) 3 0 rfl rfl q rfl hq9 (by decide) rfl dX0_rodsWithStuck_15 ?_
      refine g_if_eq C (tgt := 22) dX0_rodsWithStuck_16 (by decide) (fun h16_3 => ?_) (fun h16_3 => ?_)
      · refine g_iinc C (v := nI (q + 1)) (lv' := [(2, .int (nI (q + 1))), (0, .ref (ad 0)), (1, .int x)]) dX0_rodsWithStuck_22 2 rfl (inc_nI _) (by decide) rfl ?_
        refine g_goto C (tgt := 4) dX0_rodsWithStuck_25 (by decide) ?_
        refine g_lv [1, 2, 0] (lv' := [(0, .ref (ad 0)), (1, .int x), (2, .int (nI (q + 1)))]) rfl ?_
        exact ih (q + 1) (by omega) _ (by rw [hx]; simp only [xCt, eq_true h16_3, Bool.false_eq_true, not_false_eq_true, not_true_eq_false, and_self, and_true, true_and, and_false, false_and, or_true, true_or, or_false, false_or, or_self, if_true, if_false, eq_self, ite_true, ite_false, reduceIte])
      · refine g_iinc C (v := x + 1) (lv' := [(1, .int (x + 1)), (0, .ref (ad 0)), (2, .int (nI q))]) dX0_rodsWithStuck_19 1 rfl (inc_x _) (by decide) rfl ?_
        refine g_iinc C (v := nI (q + 1)) (lv' := [(2, .int (nI (q + 1))), (1, .int (x + 1)), (0, .ref (ad 0))]) dX0_rodsWithStuck_22 2 rfl (inc_nI _) (by decide) rfl ?_
        refine g_goto C (tgt := 4) dX0_rodsWithStuck_25 (by decide) ?_
        refine g_lv [2, 1, 0] (lv' := [(0, .ref (ad 0)), (1, .int (x + 1)), (2, .int (nI (q + 1)))]) rfl ?_
        exact ih (q + 1) (by omega) _ (by rw [hx]; simp only [xCt, h16_3, Bool.false_eq_true, not_false_eq_true, not_true_eq_false, and_self, and_true, true_and, and_false, false_and, or_true, true_or, or_false, false_or, or_self, if_true, if_false, eq_self, ite_true, ite_false, reduceIte])
  refine g_iconst C (v := 0) dX0_rodsWithStuck_0 ci_0 ?_
  refine g_istore_n C (lv' := [(1, .int 0), (0, .ref (ad 0))]) dX0_rodsWithStuck_1 rfl (by decide) rfl ?_
  refine g_iconst C (v := 0) dX0_rodsWithStuck_2 ci_0 ?_
  refine g_istore_n C (lv' := [(2, .int 0), (1, .int 0), (0, .ref (ad 0))]) dX0_rodsWithStuck_3 rfl (by decide) rfl ?_
  refine g_lv [2, 1, 0] (lv' := [(0, .ref (ad 0)), (1, .int 0), (2, .int 0)]) rfl ?_
  exact K 9 0 rfl _ rfl
theorem cf_all {g1 g2 : Nat → Int32} (h : ∀ j o : Nat, j < 9 → 0 < o → o < 7 → g1 (6 * j + o) = g2 (6 * j + o)) : ∀ j, j < 55 → upd g1 0 (g2 0) j = g2 j := by
  intro j hj
  by_cases h0 : j = 0
  · subst h0; rfl
  · show (if j = 0 then g2 0 else g1 j) = g2 j
    rw [if_neg h0]
    have e : j = 6 * ((j - 1) / 6) + ((j - 1) % 6 + 1) := by omega
    rw [e]
    exact h _ _ (by omega) (by omega) (by omega)
theorem cf_step {g1 g2 : Nat → Int32} {q : Nat} (h : ∀ j o : Nat, j < q → 0 < o → o < 7 → g1 (6 * j + o) = g2 (6 * j + o)) : ∀ j o : Nat, j < q + 1 → 0 < o → o < 7 → upd (upd (upd (upd (upd (upd g1 (6 * q + 1) (g2 (6 * q + 1))) (6 * q + 2) (g2 (6 * q + 2))) (6 * q + 4) (g2 (6 * q + 4))) (6 * q + 3) (g2 (6 * q + 3))) (6 * q + 5) (g2 (6 * q + 5))) (6 * q + 6) (g2 (6 * q + 6)) (6 * j + o) = g2 (6 * j + o) := by
  intro j o hj h0 h7
  by_cases hq : j = q
  · subst hq
    rcases (show o = 1 ∨ o = 2 ∨ o = 3 ∨ o = 4 ∨ o = 5 ∨ o = 6 by omega) with e | e | e | e | e | e <;> subst e <;> simp [upd]
  · have hj2 : j < q := by omega
    simp only [upd]
    rw [if_neg (by omega), if_neg (by omega), if_neg (by omega), if_neg (by omega), if_neg (by omega), if_neg (by omega)]
    exact h j o hj2 h0 h7
theorem fw_X0_copyFrom_fld30 : Cond.fieldLink RX0 30 "StuckRods$Board" "setting" "I" ∈ wsX0_copyFrom := (List.mem_cons_of_mem _ (List.mem_append_left _ (List.mem_of_getElem? (i := 6) rfl)))
theorem fl_X0_copyFrom_X0 : ∀ w ∈ wsX00, w ∈ wsX0_copyFrom := fun _ h => List.mem_cons_of_mem _ (List.mem_append_right _ h)
theorem fw_X0_copyFrom_fld9 : Cond.fieldLink RX0 9 "StuckRods$Board" "fives" "[I" ∈ wsX0_copyFrom := (List.mem_cons_of_mem _ (List.mem_append_left _ (List.mem_of_getElem? (i := 0) rfl)))
theorem fw_X0_copyFrom_fld15 : Cond.fieldLink RX0 15 "StuckRods$Board" "ones" "[I" ∈ wsX0_copyFrom := (List.mem_cons_of_mem _ (List.mem_append_left _ (List.mem_of_getElem? (i := 1) rfl)))
theorem fw_X0_copyFrom_fld18 : Cond.fieldLink RX0 18 "StuckRods$Board" "stuck" "[I" ∈ wsX0_copyFrom := (List.mem_cons_of_mem _ (List.mem_append_left _ (List.mem_of_getElem? (i := 2) rfl)))
theorem fw_X0_copyFrom_fld21 : Cond.fieldLink RX0 21 "StuckRods$Board" "loan" "[I" ∈ wsX0_copyFrom := (List.mem_cons_of_mem _ (List.mem_append_left _ (List.mem_of_getElem? (i := 3) rfl)))
theorem fw_X0_copyFrom_fld24 : Cond.fieldLink RX0 24 "StuckRods$Board" "moved" "[I" ∈ wsX0_copyFrom := (List.mem_cons_of_mem _ (List.mem_append_left _ (List.mem_of_getElem? (i := 4) rfl)))
theorem fw_X0_copyFrom_fld27 : Cond.fieldLink RX0 27 "StuckRods$Board" "borrowed" "[I" ∈ wsX0_copyFrom := (List.mem_cons_of_mem _ (List.mem_append_left _ (List.mem_of_getElem? (i := 5) rfl)))
abbrev rmX0_copyFrom : Room := { frames := 0, cells := 0, slots := 0, locals := 0 }
set_option maxHeartbeats 1000000 in
set_option maxRecDepth 100000 in
theorem c_X0_copyFrom (l : Launch) (D : va_G) (cI cO : ClassId) (ad ad2 : Nat → Nat) (g g2 : Nat → Int32) : cR (fun _ => True) l yX0_copyFrom wsX0_copyFrom rmX0_copyFrom D vwCl (tyA cI cO) [.ref (ad 0), .ref (ad2 0)] ((wB ad cI g) ++ (wB ad2 cI g2)) none ((wB ad cI g2) ++ (wB ad2 cI g2)) := by
  refine cR_of (cc := cX0_copyFrom) (maxL := 3) (ret := none) (by decide) rfl (Nat.le_of_ble_eq_true rfl) ?_
  intro p e s m below meth c A C hret hlk hnm hF
  refine g_lv [0, 1] (lv' := [(0, .ref (ad 0)), (1, .ref (ad2 0))]) rfl ?_
  have K : ∀ (n q : Nat), n + q = 9 → ∀ g1 : Nat → Int32, (∀ j o : Nat, j < q → 0 < o → o < 7 → g1 (6 * j + o) = g2 (6 * j + o)) → gG p l e rmX0_copyFrom s m ([.ref (ad 0), .ref (ad2 0)] : List Value).toArray below meth c D vwCl A s.heap 3 (MQ below (cQ none (cB D vwCl (tyA cI cO) A ((wB ad cI g2) ++ (wB ad2 cI g2))) A) ([.ref (ad 0), .ref (ad2 0)] : List Value).toArray s 0 0 A) 0 0 ((wB ad cI g1) ++ (wB ad2 cI g2)) 2 [(0, .ref (ad 0)), (1, .ref (ad2 0)), (2, .int (nI q))] [] := by
    intro n
    induction n with
    | zero =>
      intro q hn g1 hg
      obtain rfl : q = 9 := by omega
      refine g_iload_n C dX0_copyFrom_2 2 rfl ?_
      refine g_bipush C (v := 9) dX0_copyFrom_3 cb_9 ?_
      refine g_icmp_ge C (tgt := 86) dX0_copyFrom_5 (by decide) (fun _ => ?_) (fun h5_1 => absurd (by decide) h5_1)
      refine g_aload_n C dX0_copyFrom_86 0 rfl ?_
      refine g_aload_n C dX0_copyFrom_87 1 rfl ?_
      refine g_get C (v := .int (g2 0)) fl_X0_copyFrom_X0 7 rfl rfl 6 (by decide) fw_X0_copyFrom_fld30 rfl dX0_copyFrom_88 ?_
      refine g_put C (ws' := ((wB ad cI (upd g1 0 (g2 0))) ++ (wB ad2 cI g2))) fl_X0_copyFrom_X0 tyX0 tyX0_ok nmX0 0 rfl rfl 6 (by decide) fw_X0_copyFrom_fld30 rfl (tyX0_ok 6 (by decide)) rfl rfl (Nat.le_of_ble_eq_true rfl) dX0_copyFrom_91 (ws_setl (Nat.le_of_ble_eq_true rfl) (wB_0 ad cI g1 (g2 0))) ?_
      refine g_wsE (ws' := ((wB ad cI g2) ++ (wB ad2 cI g2))) (fun H hP => va_P.app (wB_eq (cf_all hg) (wP_l hP)) (wP_r hP)) (wD_same rfl) ?_
      exact g_vret C hret hlk dX0_copyFrom_94 rfl
    | succ n ih =>
      intro q hn g1 hg
      have hq9 : q < 9 := by omega
      refine g_iload_n C dX0_copyFrom_2 2 rfl ?_
      refine g_bipush C (v := 9) dX0_copyFrom_3 cb_9 ?_
      refine g_icmp_ge C (tgt := 86) dX0_copyFrom_5 (by decide) (fun h5_2 => absurd h5_2 (ge9 hq9)) (fun _ => ?_)
      refine g_aload_n C dX0_copyFrom_8 0 rfl ?_
      refine g_get C (v := .ref (ad 1)) fl_X0_copyFrom_X0 0 rfl rfl 0 (by decide) fw_X0_copyFrom_fld9 rfl dX0_copyFrom_9 ?_
      refine g_iload_n C dX0_copyFrom_12 2 rfl ?_
      refine g_aload_n C dX0_copyFrom_13 1 rfl ?_
      refine g_get C (v := .ref (ad2 1)) fl_X0_copyFrom_X0 7 rfl rfl 0 (by decide) fw_X0_copyFrom_fld9 rfl dX0_copyFrom_14 ?_
      refine g_iload_n C dX0_copyFrom_17 2 rfl ?_
      refine g_iald C (x := g2 (6 * q + 1)) 8 0 rfl rfl q rfl hq9 (by decide) rfl dX0_copyFrom_18 ?_
      refine g_iast C (ws' := ((wB ad cI (upd g1 (6 * q + 1) (g2 (6 * q + 1)))) ++ (wB ad2 cI g2))) 1 0 rfl rfl q rfl hq9 (by decide) dX0_copyFrom_19 (ws_setl (Nat.le_of_ble_eq_true rfl) (wB_1 ad cI g1 q (g2 (6 * q + 1)))) ?_
      refine g_aload_n C dX0_copyFrom_20 0 rfl ?_
      refine g_get C (v := .ref (ad 2)) fl_X0_copyFrom_X0 0 rfl rfl 1 (by decide) fw_X0_copyFrom_fld15 rfl dX0_copyFrom_21 ?_
      refine g_iload_n C dX0_copyFrom_24 2 rfl ?_
      refine g_aload_n C dX0_copyFrom_25 1 rfl ?_
      refine g_get C (v := .ref (ad2 2)) fl_X0_copyFrom_X0 7 rfl rfl 1 (by decide) fw_X0_copyFrom_fld15 rfl dX0_copyFrom_26 ?_
      refine g_iload_n C dX0_copyFrom_29 2 rfl ?_
      refine g_iald C (x := g2 (6 * q + 2)) 9 0 rfl rfl q rfl hq9 (by decide) rfl dX0_copyFrom_30 ?_
      refine g_iast C (ws' := ((wB ad cI (upd (upd g1 (6 * q + 1) (g2 (6 * q + 1))) (6 * q + 2) (g2 (6 * q + 2)))) ++ (wB ad2 cI g2))) 2 0 rfl rfl q rfl hq9 (by decide) dX0_copyFrom_31 (ws_setl (Nat.le_of_ble_eq_true rfl) (wB_2 ad cI (upd g1 (6 * q + 1) (g2 (6 * q + 1))) q (g2 (6 * q + 2)))) ?_
      refine g_aload_n C dX0_copyFrom_32 0 rfl ?_
      refine g_get C (v := .ref (ad 3)) fl_X0_copyFrom_X0 0 rfl rfl 2 (by decide) fw_X0_copyFrom_fld18 rfl dX0_copyFrom_33 ?_
      refine g_iload_n C dX0_copyFrom_36 2 rfl ?_
      refine g_aload_n C dX0_copyFrom_37 1 rfl ?_
      refine g_get C (v := .ref (ad2 3)) fl_X0_copyFrom_X0 7 rfl rfl 2 (by decide) fw_X0_copyFrom_fld18 rfl dX0_copyFrom_38 ?_
      refine g_iload_n C dX0_copyFrom_41 2 rfl ?_
      refine g_iald C (x := g2 (6 * q + 4)) 10 0 rfl rfl q rfl hq9 (by decide) rfl dX0_copyFrom_42 ?_
      refine g_iast C (ws' := ((wB ad cI (upd (upd (upd g1 (6 * q + 1) (g2 (6 * q + 1))) (6 * q + 2) (g2 (6 * q + 2))) (6 * q + 4) (g2 (6 * q + 4)))) ++ (wB ad2 cI g2))) 3 0 rfl rfl q rfl hq9 (by decide) dX0_copyFrom_43 (ws_setl (Nat.le_of_ble_eq_true rfl) (wB_3 ad cI (upd (upd g1 (6 * q + 1) (g2 (6 * q + 1))) (6 * q + 2) (g2 (6 * q + 2))) q (g2 (6 * q + 4)))) ?_
      refine g_aload_n C dX0_copyFrom_44 0 rfl ?_
      refine g_get C (v := .ref (ad 4)) fl_X0_copyFrom_X0 0 rfl rfl 3 (by decide) fw_X0_copyFrom_fld21 rfl dX0_copyFrom_45 ?_
      refine g_iload_n C dX0_copyFrom_48 2 rfl ?_
      refine g_aload_n C dX0_copyFrom_49 1 rfl ?_
      refine g_get C (v := .ref (ad2 4)) fl_X0_copyFrom_X0 7 rfl rfl 3 (by decide) fw_X0_copyFrom_fld21 rfl dX0_copyFrom_50 ?_
      refine g_iload_n C dX0_copyFrom_53 2 rfl ?_
      refine g_iald C (x := g2 (6 * q + 3)) 11 0 rfl rfl q rfl hq9 (by decide) rfl dX0_copyFrom_54 ?_
      refine g_iast C (ws' := ((wB ad cI (upd (upd (upd (upd g1 (6 * q + 1) (g2 (6 * q + 1))) (6 * q + 2) (g2 (6 * q + 2))) (6 * q + 4) (g2 (6 * q + 4))) (6 * q + 3) (g2 (6 * q + 3)))) ++ (wB ad2 cI g2))) 4 0 rfl rfl q rfl hq9 (by decide) dX0_copyFrom_55 (ws_setl (Nat.le_of_ble_eq_true rfl) (wB_4 ad cI (upd (upd (upd g1 (6 * q + 1) (g2 (6 * q + 1))) (6 * q + 2) (g2 (6 * q + 2))) (6 * q + 4) (g2 (6 * q + 4))) q (g2 (6 * q + 3)))) ?_
      refine g_aload_n C dX0_copyFrom_56 0 rfl ?_
      refine g_get C (v := .ref (ad 5)) fl_X0_copyFrom_X0 0 rfl rfl 4 (by decide) fw_X0_copyFrom_fld24 rfl dX0_copyFrom_57 ?_
      refine g_iload_n C dX0_copyFrom_60 2 rfl ?_
      refine g_aload_n C dX0_copyFrom_61 1 rfl ?_
      refine g_get C (v := .ref (ad2 5)) fl_X0_copyFrom_X0 7 rfl rfl 4 (by decide) fw_X0_copyFrom_fld24 rfl dX0_copyFrom_62 ?_
      refine g_iload_n C dX0_copyFrom_65 2 rfl ?_
      refine g_iald C (x := g2 (6 * q + 5)) 12 0 rfl rfl q rfl hq9 (by decide) rfl dX0_copyFrom_66 ?_
      refine g_iast C (ws' := ((wB ad cI (upd (upd (upd (upd (upd g1 (6 * q + 1) (g2 (6 * q + 1))) (6 * q + 2) (g2 (6 * q + 2))) (6 * q + 4) (g2 (6 * q + 4))) (6 * q + 3) (g2 (6 * q + 3))) (6 * q + 5) (g2 (6 * q + 5)))) ++ (wB ad2 cI g2))) 5 0 rfl rfl q rfl hq9 (by decide) dX0_copyFrom_67 (ws_setl (Nat.le_of_ble_eq_true rfl) (wB_5 ad cI (upd (upd (upd (upd g1 (6 * q + 1) (g2 (6 * q + 1))) (6 * q + 2) (g2 (6 * q + 2))) (6 * q + 4) (g2 (6 * q + 4))) (6 * q + 3) (g2 (6 * q + 3))) q (g2 (6 * q + 5)))) ?_
      refine g_aload_n C dX0_copyFrom_68 0 rfl ?_
      refine g_get C (v := .ref (ad 6)) fl_X0_copyFrom_X0 0 rfl rfl 5 (by decide) fw_X0_copyFrom_fld27 rfl dX0_copyFrom_69 ?_
      refine g_iload_n C dX0_copyFrom_72 2 rfl ?_
      refine g_aload_n C dX0_copyFrom_73 1 rfl ?_
      refine g_get C (v := .ref (ad2 6)) fl_X0_copyFrom_X0 7 rfl rfl 5 (by decide) fw_X0_copyFrom_fld27 rfl dX0_copyFrom_74 ?_
      refine g_iload_n C dX0_copyFrom_77 2 rfl ?_
      refine g_iald C (x := g2 (6 * q + 6)) 13 0 rfl rfl q rfl hq9 (by decide) rfl dX0_copyFrom_78 ?_
      refine g_iast C (ws' := ((wB ad cI (upd (upd (upd (upd (upd (upd g1 (6 * q + 1) (g2 (6 * q + 1))) (6 * q + 2) (g2 (6 * q + 2))) (6 * q + 4) (g2 (6 * q + 4))) (6 * q + 3) (g2 (6 * q + 3))) (6 * q + 5) (g2 (6 * q + 5))) (6 * q + 6) (g2 (6 * q + 6)))) ++ (wB ad2 cI g2))) 6 0 rfl rfl q rfl hq9 (by decide) dX0_copyFrom_79 (ws_setl (Nat.le_of_ble_eq_true rfl) (wB_6 ad cI (upd (upd (upd (upd (upd g1 (6 * q + 1) (g2 (6 * q + 1))) (6 * q + 2) (g2 (6 * q + 2))) (6 * q + 4) (g2 (6 * q + 4))) (6 * q + 3) (g2 (6 * q + 3))) (6 * q + 5) (g2 (6 * q + 5))) q (g2 (6 * q + 6)))) ?_
      refine g_iinc C (v := nI (q + 1)) (lv' := [(2, .int (nI (q + 1))), (0, .ref (ad 0)), (1, .ref (ad2 0))]) dX0_copyFrom_80 2 rfl (inc_nI _) (by decide) rfl ?_
      refine g_goto C (tgt := 2) dX0_copyFrom_83 (by decide) ?_
      refine g_lv [1, 2, 0] (lv' := [(0, .ref (ad 0)), (1, .ref (ad2 0)), (2, .int (nI (q + 1)))]) rfl ?_
      exact ih (q + 1) (by omega) _ (cf_step hg)
  refine g_iconst C (v := 0) dX0_copyFrom_0 ci_0 ?_
  refine g_istore_n C (lv' := [(2, .int 0), (0, .ref (ad 0)), (1, .ref (ad2 0))]) dX0_copyFrom_1 rfl (by decide) rfl ?_
  refine g_lv [1, 2, 0] (lv' := [(0, .ref (ad 0)), (1, .ref (ad2 0)), (2, .int 0)]) rfl ?_
  exact K 9 0 rfl _ (fun j o h => absurd h (Nat.not_lt_zero j))
end
section
/-! ===== the saved states (a ring of six boards), and the text ===== -/
def wH0 (ha : Nat → Nat) (hb : Nat → Nat → Nat) (cO : ClassId) (o z : Int32) : va_W := [(ha 0, .inr (1, [.ref (ha 1), .int o, .int z])), (ha 1, .inl (cO, 6, .inr (.inr (.inr (.inr (fun k => some (hb k 0)))))))]
def wHs (ha : Nat → Nat) (hb : Nat → Nat → Nat) (cI cO : ClassId) (G : Nat → Nat → Int32) (o z : Int32) : va_W :=
  wH0 ha hb cO o z ++ (wB (hb 0) cI (G 0) ++ (wB (hb 1) cI (G 1) ++ (wB (hb 2) cI (G 2) ++ (wB (hb 3) cI (G 3) ++ (wB (hb 4) cI (G 4) ++ wB (hb 5) cI (G 5))))))
def kO (o z : Nat) : Nat := if z = 6 then (o + 1) % 6 else o
def kM (z : Nat) : Nat := if z = 6 then 5 else z
def kI (o z : Nat) : Nat := (kO o z + kM z) % 6
def kG (G : Nat → Nat → Int32) (o z : Nat) (g : Nat → Int32) : Nat → Nat → Int32 := fun k => if k = kI o z then g else G k
theorem kI_6 (o z : Nat) : kI o z = 0 ∨ kI o z = 1 ∨ kI o z = 2 ∨ kI o z = 3 ∨ kI o z = 4 ∨ kI o z = 5 := by
  have : kI o z < 6 := Nat.mod_lt _ (by decide)
  omega
def rI (o z : Nat) : Nat := (o + (z - 1)) % 6
theorem rI_6 (o z : Nat) : rI o z = 0 ∨ rI o z = 1 ∨ rI o z = 2 ∨ rI o z = 3 ∨ rI o z = 4 ∨ rI o z = 5 := by
  have : rI o z < 6 := Nat.mod_lt _ (by decide)
  omega
theorem kM_lt {z : Nat} (h : z ≤ 6) : kM z < 6 := by
  unfold kM
  split <;> omega
theorem kO_lt {o z : Nat} (h : o < 6) : kO o z < 6 := by
  unfold kO
  split <;> omega
theorem is6 {z : Nat} (hz : z ≤ 6) (h : nI z = 6) : z = 6 := (nI_eq (b := 6) (by omega) (by decide)).mp h
theorem isn6 {z : Nat} (h : ¬ nI z = 6) : ¬ z = 6 := fun e => h (by rw [e]; rfl)
theorem posI {i : Nat} (h : ¬ nI i ≤ 0) : 1 ≤ i := by
  rcases Nat.eq_zero_or_pos i with e | e
  · subst e; exact absurd (by decide) h
  · exact e
def wT (ta : Nat → Nat) (cI : ClassId) (t : Nat → Int32) (n : Int32) : va_W := [(ta 0, .inr (2, [.ref (ta 1), .int n])), (ta 1, .inl (cI, 60, .inl t))]
def sg (x : Int32) : Bool := if x = 43 then true else if x = 45 then true else false
def dg (x : Int32) : Bool := if x < 48 then false else if 57 < x then false else true
abbrev xNb (t : Nat → Int32) (i : Nat) : Prop := ¬ nI i ≤ 0 ∧ sg (t (i - 1)) = true
def xFw (t : Nat → Int32) (n : Nat) : Nat → Nat → Int32 → Int32
  | 0, _, _ => nI n
  | k + 1, i, a =>
    if sg (t i) = true ∧ ¬ xNb t i then xFw t n k (i + 1) 6 else
    if dg (t i) = true ∧ ¬ a ≤ 0 then xFw t n k (i + 1) (if xNb t i ∧ t i = 48 then 0 else a - 1) else nI i
def xFW (t : Nat → Int32) (n : Nat) : Int32 := xFw t n n 0 0
abbrev xCs (t : Nat → Int32) (n : Nat) : Prop := ¬ nI n < 1 ∧ xFW t n = nI n ∧ dg (t (n - 1)) = true
def xDb (t : Nat → Int32) : Nat → Nat → Nat → Nat
  | 0, _, a => a
  | k + 1, i, a => if dg (t i) = true then xDb t k (i + 1) (a + 1) else a
theorem fw_X1_keep_fld11 : Cond.fieldLink RX1 11 "StuckRods$History" "slots" "[LStuckRods$Board;" ∈ wsX1_keep := (List.mem_cons_of_mem _ (List.mem_append_left _ (List.mem_append_left _ (List.mem_of_getElem? (i := 2) rfl))))
theorem fl_X1_keep_X1 : ∀ w ∈ wsX10, w ∈ wsX1_keep := fun _ h => List.mem_cons_of_mem _ (List.mem_append_left _ (List.mem_append_right _ h))
theorem fw_X1_keep_fld17 : Cond.fieldLink RX1 17 "StuckRods$History" "oldest" "I" ∈ wsX1_keep := (List.mem_cons_of_mem _ (List.mem_append_left _ (List.mem_append_left _ (List.mem_of_getElem? (i := 1) rfl))))
theorem fw_X1_keep_fld21 : Cond.fieldLink RX1 21 "StuckRods$History" "size" "I" ∈ wsX1_keep := (List.mem_cons_of_mem _ (List.mem_append_left _ (List.mem_append_left _ (List.mem_of_getElem? (i := 0) rfl))))
theorem hd_X0_copyFrom : yX0_copyFrom.cls = RX0 ∧ yX0_copyFrom.cls ≠ "java/lang/invoke/MethodHandle" ∧ yX0_copyFrom.cls ≠ "java/lang/invoke/VarHandle" ∧ (parseMethodDescriptor yX0_copyFrom.desc).map (fun d => d.parameters.length) = some 1 := by decide +kernel
abbrev rmX1_keep : Room := { frames := 1, cells := 0, slots := 0, locals := 22 }
set_option maxHeartbeats 1000000 in
set_option maxRecDepth 100000 in
theorem c_X1_keep (l : Launch) (D : va_G) (cI cO : ClassId) (ha : Nat → Nat) (hb : Nat → Nat → Nat) (ad : Nat → Nat) (G : Nat → Nat → Int32) (g : Nat → Int32) (o z : Nat) (ho : o < 6) (hz : z ≤ 6) : cR (fun _ => True) l yX1_keep wsX1_keep rmX1_keep D vwCl (tyA cI cO) [.ref (ha 0), .ref (ad 0)] ((wHs ha hb cI cO G (nI o) (nI z)) ++ (wB ad cI g)) none ((wHs ha hb cI cO (kG G o z g) (nI (kO o z)) (nI (kM z + 1))) ++ (wB ad cI g)) := by
  refine cR_of (cc := cX1_keep) (maxL := 2) (ret := none) (by decide) rfl (Nat.le_of_ble_eq_true rfl) ?_
  intro p e s m below meth c A C hret hlk hnm hF
  refine g_lv [0, 1] (lv' := [(0, .ref (ha 0)), (1, .ref (ad 0))]) rfl ?_
  refine g_ws (ws' := ((wH0 ha hb cO (nI o) (nI z)) ++ ((wB (hb 0) cI (G 0)) ++ ((wB (hb 1) cI (G 1)) ++ ((wB (hb 2) cI (G 2)) ++ ((wB (hb 3) cI (G 3)) ++ ((wB (hb 4) cI (G 4)) ++ ((wB (hb 5) cI (G 5)) ++ (wB ad cI g))))))))) rfl ?_
  have K : gG p l e rmX1_keep s m ([.ref (ha 0), .ref (ad 0)] : List Value).toArray below meth c D vwCl A s.heap 2 (MQ below (cQ none (cB D vwCl (tyA cI cO) A ((wHs ha hb cI cO (kG G o z g) (nI (kO o z)) (nI (kM z + 1))) ++ (wB ad cI g))) A) ([.ref (ha 0), .ref (ad 0)] : List Value).toArray s 0 0 A) 0 0 ((wH0 ha hb cO (nI (kO o z)) (nI (kM z))) ++ ((wB (hb 0) cI (G 0)) ++ ((wB (hb 1) cI (G 1)) ++ ((wB (hb 2) cI (G 2)) ++ ((wB (hb 3) cI (G 3)) ++ ((wB (hb 4) cI (G 4)) ++ ((wB (hb 5) cI (G 5)) ++ (wB ad cI g)))))))) 32 [(0, .ref (ha 0)), (1, .ref (ad 0))] [] := by
    refine g_aload_n C dX1_keep_32 0 rfl ?_
    refine g_get C (v := .ref (ha 1)) fl_X1_keep_X1 0 rfl rfl 0 (by decide) fw_X1_keep_fld11 rfl dX1_keep_33 ?_
    refine g_aload_n C dX1_keep_36 0 rfl ?_
    refine g_get C (v := .int (nI (kO o z))) fl_X1_keep_X1 0 rfl rfl 1 (by decide) fw_X1_keep_fld17 rfl dX1_keep_37 ?_
    refine g_aload_n C dX1_keep_40 0 rfl ?_
    refine g_get C (v := .int (nI (kM z))) fl_X1_keep_X1 0 rfl rfl 2 (by decide) fw_X1_keep_fld21 rfl dX1_keep_41 ?_
    refine g_iadd C (v := nI (kO o z + kM z)) dX1_keep_44 (nI_add _ _) ?_
    refine g_bipush C (v := 6) dX1_keep_45 cb_6 ?_
    refine g_irem C (v := nI (kI o z)) dX1_keep_47 (by decide) (pk_rem (d := 6) (by have := kO_lt (z := z) ho; have := kM_lt hz; omega) (by decide) (by decide)) ?_
    refine g_aldq C (x := .ref (hb (kI o z) 0)) 1 1 rfl rfl (kI o z) rfl (Nat.mod_lt _ (by decide)) (by decide) rfl dX1_keep_48 ?_
    refine g_aload_n C dX1_keep_49 1 rfl ?_
    rcases kI_6 o z with h | h | h | h | h | h
    · rw [h]
      refine g_perm [0, 1, 9, 10, 11, 12, 13, 14, 15, 16, 17, 18, 19, 20, 21, 22, 23, 24, 25, 26, 27, 28, 29, 30, 31, 32, 33, 34, 35, 36, 37, 38, 39, 40, 41, 42, 43, 2, 3, 4, 5, 6, 7, 8, 44, 45, 46, 47, 48, 49, 50] (ws' := ((wH0 ha hb cO (nI (kO o z)) (nI (kM z))) ++ ((wB (hb 1) cI (G 1)) ++ ((wB (hb 2) cI (G 2)) ++ ((wB (hb 3) cI (G 3)) ++ ((wB (hb 4) cI (G 4)) ++ ((wB (hb 5) cI (G 5)) ++ ((wB (hb 0) cI (G 0)) ++ (wB ad cI g))))))))) rfl rfl rfl ?_
      refine g_callVv C (c_X0_copyFrom l D cI cO (hb 0) ad (G 0) g) gX1_keep_X0_copyFrom rfl ⟨rfl, rfl⟩ hd_X0_copyFrom ⟨Nat.le_of_ble_eq_true rfl, Nat.le_of_ble_eq_true rfl⟩ [0, 1] rfl (fun _ _ => trivial) rfl (rest := []) rfl (Nat.le_of_ble_eq_true rfl) dX1_keep_50 ⟨Nat.zero_le _, Nat.zero_le _⟩ 0 rfl rfl rfl (pre := ((wH0 ha hb cO (nI (kO o z)) (nI (kM z))) ++ ((wB (hb 1) cI (G 1)) ++ ((wB (hb 2) cI (G 2)) ++ ((wB (hb 3) cI (G 3)) ++ ((wB (hb 4) cI (G 4)) ++ (wB (hb 5) cI (G 5)))))))) (post := []) (ws' := ((wH0 ha hb cO (nI (kO o z)) (nI (kM z))) ++ ((wB (hb 1) cI (G 1)) ++ ((wB (hb 2) cI (G 2)) ++ ((wB (hb 3) cI (G 3)) ++ ((wB (hb 4) cI (G 4)) ++ ((wB (hb 5) cI (G 5)) ++ ((wB (hb 0) cI g) ++ (wB ad cI g))))))))) rfl rfl ?_
      refine g_perm [0, 1, 37, 38, 39, 40, 41, 42, 43, 2, 3, 4, 5, 6, 7, 8, 9, 10, 11, 12, 13, 14, 15, 16, 17, 18, 19, 20, 21, 22, 23, 24, 25, 26, 27, 28, 29, 30, 31, 32, 33, 34, 35, 36, 44, 45, 46, 47, 48, 49, 50] (ws' := ((wH0 ha hb cO (nI (kO o z)) (nI (kM z))) ++ ((wB (hb 0) cI g) ++ ((wB (hb 1) cI (G 1)) ++ ((wB (hb 2) cI (G 2)) ++ ((wB (hb 3) cI (G 3)) ++ ((wB (hb 4) cI (G 4)) ++ ((wB (hb 5) cI (G 5)) ++ (wB ad cI g))))))))) rfl rfl rfl ?_
      refine g_aload_n C dX1_keep_53 0 rfl ?_
      refine g_dup C dX1_keep_54 rfl ?_
      refine g_get C (v := .int (nI (kM z))) fl_X1_keep_X1 0 rfl rfl 2 (by decide) fw_X1_keep_fld21 rfl dX1_keep_55 ?_
      refine g_iconst C (v := 1) dX1_keep_58 ci_1 ?_
      refine g_iadd C (v := nI (kM z + 1)) dX1_keep_59 (nI_1 _) ?_
      refine g_put C (ws' := ((wH0 ha hb cO (nI (kO o z)) (nI (kM z + 1))) ++ ((wB (hb 0) cI g) ++ ((wB (hb 1) cI (G 1)) ++ ((wB (hb 2) cI (G 2)) ++ ((wB (hb 3) cI (G 3)) ++ ((wB (hb 4) cI (G 4)) ++ ((wB (hb 5) cI (G 5)) ++ (wB ad cI g))))))))) fl_X1_keep_X1 tyX1 tyX1_ok nmX1 0 rfl rfl 2 (by decide) fw_X1_keep_fld21 rfl (tyX1_ok 2 (by decide)) rfl rfl (Nat.le_of_ble_eq_true rfl) dX1_keep_60 (ws_setl (Nat.le_of_ble_eq_true rfl) rfl) ?_
      exact g_vret C hret hlk dX1_keep_63 (by unfold wHs kG; simp only [h]; first | done | rfl)
    · rw [h]
      refine g_perm [0, 1, 2, 3, 4, 5, 6, 7, 8, 16, 17, 18, 19, 20, 21, 22, 23, 24, 25, 26, 27, 28, 29, 30, 31, 32, 33, 34, 35, 36, 37, 38, 39, 40, 41, 42, 43, 9, 10, 11, 12, 13, 14, 15, 44, 45, 46, 47, 48, 49, 50] (ws' := ((wH0 ha hb cO (nI (kO o z)) (nI (kM z))) ++ ((wB (hb 0) cI (G 0)) ++ ((wB (hb 2) cI (G 2)) ++ ((wB (hb 3) cI (G 3)) ++ ((wB (hb 4) cI (G 4)) ++ ((wB (hb 5) cI (G 5)) ++ ((wB (hb 1) cI (G 1)) ++ (wB ad cI g))))))))) rfl rfl rfl ?_
      refine g_callVv C (c_X0_copyFrom l D cI cO (hb 1) ad (G 1) g) gX1_keep_X0_copyFrom rfl ⟨rfl, rfl⟩ hd_X0_copyFrom ⟨Nat.le_of_ble_eq_true rfl, Nat.le_of_ble_eq_true rfl⟩ [0, 1] rfl (fun _ _ => trivial) rfl (rest := []) rfl (Nat.le_of_ble_eq_true rfl) dX1_keep_50 ⟨Nat.zero_le _, Nat.zero_le _⟩ 0 rfl rfl rfl (pre := ((wH0 ha hb cO (nI (kO o z)) (nI (kM z))) ++ ((wB (hb 0) cI (G 0)) ++ ((wB (hb 2) cI (G 2)) ++ ((wB (hb 3) cI (G 3)) ++ ((wB (hb 4) cI (G 4)) ++ (wB (hb 5) cI (G 5)))))))) (post := []) (ws' := ((wH0 ha hb cO (nI (kO o z)) (nI (kM z))) ++ ((wB (hb 0) cI (G 0)) ++ ((wB (hb 2) cI (G 2)) ++ ((wB (hb 3) cI (G 3)) ++ ((wB (hb 4) cI (G 4)) ++ ((wB (hb 5) cI (G 5)) ++ ((wB (hb 1) cI g) ++ (wB ad cI g))))))))) rfl rfl ?_
      refine g_perm [0, 1, 2, 3, 4, 5, 6, 7, 8, 37, 38, 39, 40, 41, 42, 43, 9, 10, 11, 12, 13, 14, 15, 16, 17, 18, 19, 20, 21, 22, 23, 24, 25, 26, 27, 28, 29, 30, 31, 32, 33, 34, 35, 36, 44, 45, 46, 47, 48, 49, 50] (ws' := ((wH0 ha hb cO (nI (kO o z)) (nI (kM z))) ++ ((wB (hb 0) cI (G 0)) ++ ((wB (hb 1) cI g) ++ ((wB (hb 2) cI (G 2)) ++ ((wB (hb 3) cI (G 3)) ++ ((wB (hb 4) cI (G 4)) ++ ((wB (hb 5) cI (G 5)) ++ (wB ad cI g))))))))) rfl rfl rfl ?_
      refine g_aload_n C dX1_keep_53 0 rfl ?_
      refine g_dup C dX1_keep_54 rfl ?_
      refine g_get C (v := .int (nI (kM z))) fl_X1_keep_X1 0 rfl rfl 2 (by decide) fw_X1_keep_fld21 rfl dX1_keep_55 ?_
      refine g_iconst C (v := 1) dX1_keep_58 ci_1 ?_
      refine g_iadd C (v := nI (kM z + 1)) dX1_keep_59 (nI_1 _) ?_
      refine g_put C (ws' := ((wH0 ha hb cO (nI (kO o z)) (nI (kM z + 1))) ++ ((wB (hb 0) cI (G 0)) ++ ((wB (hb 1) cI g) ++ ((wB (hb 2) cI (G 2)) ++ ((wB (hb 3) cI (G 3)) ++ ((wB (hb 4) cI (G 4)) ++ ((wB (hb 5) cI (G 5)) ++ (wB ad cI g))))))))) fl_X1_keep_X1 tyX1 tyX1_ok nmX1 0 rfl rfl 2 (by decide) fw_X1_keep_fld21 rfl (tyX1_ok 2 (by decide)) rfl rfl (Nat.le_of_ble_eq_true rfl) dX1_keep_60 (ws_setl (Nat.le_of_ble_eq_true rfl) rfl) ?_
      exact g_vret C hret hlk dX1_keep_63 (by unfold wHs kG; simp only [h]; first | done | rfl)
    · rw [h]
      refine g_perm [0, 1, 2, 3, 4, 5, 6, 7, 8, 9, 10, 11, 12, 13, 14, 15, 23, 24, 25, 26, 27, 28, 29, 30, 31, 32, 33, 34, 35, 36, 37, 38, 39, 40, 41, 42, 43, 16, 17, 18, 19, 20, 21, 22, 44, 45, 46, 47, 48, 49, 50] (ws' := ((wH0 ha hb cO (nI (kO o z)) (nI (kM z))) ++ ((wB (hb 0) cI (G 0)) ++ ((wB (hb 1) cI (G 1)) ++ ((wB (hb 3) cI (G 3)) ++ ((wB (hb 4) cI (G 4)) ++ ((wB (hb 5) cI (G 5)) ++ ((wB (hb 2) cI (G 2)) ++ (wB ad cI g))))))))) rfl rfl rfl ?_
      refine g_callVv C (c_X0_copyFrom l D cI cO (hb 2) ad (G 2) g) gX1_keep_X0_copyFrom rfl ⟨rfl, rfl⟩ hd_X0_copyFrom ⟨Nat.le_of_ble_eq_true rfl, Nat.le_of_ble_eq_true rfl⟩ [0, 1] rfl (fun _ _ => trivial) rfl (rest := []) rfl (Nat.le_of_ble_eq_true rfl) dX1_keep_50 ⟨Nat.zero_le _, Nat.zero_le _⟩ 0 rfl rfl rfl (pre := ((wH0 ha hb cO (nI (kO o z)) (nI (kM z))) ++ ((wB (hb 0) cI (G 0)) ++ ((wB (hb 1) cI (G 1)) ++ ((wB (hb 3) cI (G 3)) ++ ((wB (hb 4) cI (G 4)) ++ (wB (hb 5) cI (G 5)))))))) (post := []) (ws' := ((wH0 ha hb cO (nI (kO o z)) (nI (kM z))) ++ ((wB (hb 0) cI (G 0)) ++ ((wB (hb 1) cI (G 1)) ++ ((wB (hb 3) cI (G 3)) ++ ((wB (hb 4) cI (G 4)) ++ ((wB (hb 5) cI (G 5)) ++ ((wB (hb 2) cI g) ++ (wB ad cI g))))))))) rfl rfl ?_
      refine g_perm [0, 1, 2, 3, 4, 5, 6, 7, 8, 9, 10, 11, 12, 13, 14, 15, 37, 38, 39, 40, 41, 42, 43, 16, 17, 18, 19, 20, 21, 22, 23, 24, 25, 26, 27, 28, 29, 30, 31, 32, 33, 34, 35, 36, 44, 45, 46, 47, 48, 49, 50] (ws' := ((wH0 ha hb cO (nI (kO o z)) (nI (kM z))) ++ ((wB (hb 0) cI (G 0)) ++ ((wB (hb 1) cI (G 1)) ++ ((wB (hb 2) cI g) ++ ((wB (hb 3) cI (G 3)) ++ ((wB (hb 4) cI (G 4)) ++ ((wB (hb 5) cI (G 5)) ++ (wB ad cI g))))))))) rfl rfl rfl ?_
      refine g_aload_n C dX1_keep_53 0 rfl ?_
      refine g_dup C dX1_keep_54 rfl ?_
      refine g_get C (v := .int (nI (kM z))) fl_X1_keep_X1 0 rfl rfl 2 (by decide) fw_X1_keep_fld21 rfl dX1_keep_55 ?_
      refine g_iconst C (v := 1) dX1_keep_58 ci_1 ?_
      refine g_iadd C (v := nI (kM z + 1)) dX1_keep_59 (nI_1 _) ?_
      refine g_put C (ws' := ((wH0 ha hb cO (nI (kO o z)) (nI (kM z + 1))) ++ ((wB (hb 0) cI (G 0)) ++ ((wB (hb 1) cI (G 1)) ++ ((wB (hb 2) cI g) ++ ((wB (hb 3) cI (G 3)) ++ ((wB (hb 4) cI (G 4)) ++ ((wB (hb 5) cI (G 5)) ++ (wB ad cI g))))))))) fl_X1_keep_X1 tyX1 tyX1_ok nmX1 0 rfl rfl 2 (by decide) fw_X1_keep_fld21 rfl (tyX1_ok 2 (by decide)) rfl rfl (Nat.le_of_ble_eq_true rfl) dX1_keep_60 (ws_setl (Nat.le_of_ble_eq_true rfl) rfl) ?_
      exact g_vret C hret hlk dX1_keep_63 (by unfold wHs kG; simp only [h]; first | done | rfl)
    · rw [h]
      refine g_perm [0, 1, 2, 3, 4, 5, 6, 7, 8, 9, 10, 11, 12, 13, 14, 15, 16, 17, 18, 19, 20, 21, 22, 30, 31, 32, 33, 34, 35, 36, 37, 38, 39, 40, 41, 42, 43, 23, 24, 25, 26, 27, 28, 29, 44, 45, 46, 47, 48, 49, 50] (ws' := ((wH0 ha hb cO (nI (kO o z)) (nI (kM z))) ++ ((wB (hb 0) cI (G 0)) ++ ((wB (hb 1) cI (G 1)) ++ ((wB (hb 2) cI (G 2)) ++ ((wB (hb 4) cI (G 4)) ++ ((wB (hb 5) cI (G 5)) ++ ((wB (hb 3) cI (G 3)) ++ (wB ad cI g))))))))) rfl rfl rfl ?_
      refine g_callVv C (c_X0_copyFrom l D cI cO (hb 3) ad (G 3) g) gX1_keep_X0_copyFrom rfl ⟨rfl, rfl⟩ hd_X0_copyFrom ⟨Nat.le_of_ble_eq_true rfl, Nat.le_of_ble_eq_true rfl⟩ [0, 1] rfl (fun _ _ => trivial) rfl (rest := []) rfl (Nat.le_of_ble_eq_true rfl) dX1_keep_50 ⟨Nat.zero_le _, Nat.zero_le _⟩ 0 rfl rfl rfl (pre := ((wH0 ha hb cO (nI (kO o z)) (nI (kM z))) ++ ((wB (hb 0) cI (G 0)) ++ ((wB (hb 1) cI (G 1)) ++ ((wB (hb 2) cI (G 2)) ++ ((wB (hb 4) cI (G 4)) ++ (wB (hb 5) cI (G 5)))))))) (post := []) (ws' := ((wH0 ha hb cO (nI (kO o z)) (nI (kM z))) ++ ((wB (hb 0) cI (G 0)) ++ ((wB (hb 1) cI (G 1)) ++ ((wB (hb 2) cI (G 2)) ++ ((wB (hb 4) cI (G 4)) ++ ((wB (hb 5) cI (G 5)) ++ ((wB (hb 3) cI g) ++ (wB ad cI g))))))))) rfl rfl ?_
      refine g_perm [0, 1, 2, 3, 4, 5, 6, 7, 8, 9, 10, 11, 12, 13, 14, 15, 16, 17, 18, 19, 20, 21, 22, 37, 38, 39, 40, 41, 42, 43, 23, 24, 25, 26, 27, 28, 29, 30, 31, 32, 33, 34, 35, 36, 44, 45, 46, 47, 48, 49, 50] (ws' := ((wH0 ha hb cO (nI (kO o z)) (nI (kM z))) ++ ((wB (hb 0) cI (G 0)) ++ ((wB (hb 1) cI (G 1)) ++ ((wB (hb 2) cI (G 2)) ++ ((wB (hb 3) cI g) ++ ((wB (hb 4) cI (G 4)) ++ ((wB (hb 5) cI (G 5)) ++ (wB ad cI g))))))))) rfl rfl rfl ?_
      refine g_aload_n C dX1_keep_53 0 rfl ?_
      refine g_dup C dX1_keep_54 rfl ?_
      refine g_get C (v := .int (nI (kM z))) fl_X1_keep_X1 0 rfl rfl 2 (by decide) fw_X1_keep_fld21 rfl dX1_keep_55 ?_
      refine g_iconst C (v := 1) dX1_keep_58 ci_1 ?_
      refine g_iadd C (v := nI (kM z + 1)) dX1_keep_59 (nI_1 _) ?_
      refine g_put C (ws' := ((wH0 ha hb cO (nI (kO o z)) (nI (kM z + 1))) ++ ((wB (hb 0) cI (G 0)) ++ ((wB (hb 1) cI (G 1)) ++ ((wB (hb 2) cI (G 2)) ++ ((wB (hb 3) cI g) ++ ((wB (hb 4) cI (G 4)) ++ ((wB (hb 5) cI (G 5)) ++ (wB ad cI g))))))))) fl_X1_keep_X1 tyX1 tyX1_ok nmX1 0 rfl rfl 2 (by decide) fw_X1_keep_fld21 rfl (tyX1_ok 2 (by decide)) rfl rfl (Nat.le_of_ble_eq_true rfl) dX1_keep_60 (ws_setl (Nat.le_of_ble_eq_true rfl) rfl) ?_
      exact g_vret C hret hlk dX1_keep_63 (by unfold wHs kG; simp only [h]; first | done | rfl)
    · rw [h]
      refine g_perm [0, 1, 2, 3, 4, 5, 6, 7, 8, 9, 10, 11, 12, 13, 14, 15, 16, 17, 18, 19, 20, 21, 22, 23, 24, 25, 26, 27, 28, 29, 37, 38, 39, 40, 41, 42, 43, 30, 31, 32, 33, 34, 35, 36, 44, 45, 46, 47, 48, 49, 50] (ws' := ((wH0 ha hb cO (nI (kO o z)) (nI (kM z))) ++ ((wB (hb 0) cI (G 0)) ++ ((wB (hb 1) cI (G 1)) ++ ((wB (hb 2) cI (G 2)) ++ ((wB (hb 3) cI (G 3)) ++ ((wB (hb 5) cI (G 5)) ++ ((wB (hb 4) cI (G 4)) ++ (wB ad cI g))))))))) rfl rfl rfl ?_
      refine g_callVv C (c_X0_copyFrom l D cI cO (hb 4) ad (G 4) g) gX1_keep_X0_copyFrom rfl ⟨rfl, rfl⟩ hd_X0_copyFrom ⟨Nat.le_of_ble_eq_true rfl, Nat.le_of_ble_eq_true rfl⟩ [0, 1] rfl (fun _ _ => trivial) rfl (rest := []) rfl (Nat.le_of_ble_eq_true rfl) dX1_keep_50 ⟨Nat.zero_le _, Nat.zero_le _⟩ 0 rfl rfl rfl (pre := ((wH0 ha hb cO (nI (kO o z)) (nI (kM z))) ++ ((wB (hb 0) cI (G 0)) ++ ((wB (hb 1) cI (G 1)) ++ ((wB (hb 2) cI (G 2)) ++ ((wB (hb 3) cI (G 3)) ++ (wB (hb 5) cI (G 5)))))))) (post := []) (ws' := ((wH0 ha hb cO (nI (kO o z)) (nI (kM z))) ++ ((wB (hb 0) cI (G 0)) ++ ((wB (hb 1) cI (G 1)) ++ ((wB (hb 2) cI (G 2)) ++ ((wB (hb 3) cI (G 3)) ++ ((wB (hb 5) cI (G 5)) ++ ((wB (hb 4) cI g) ++ (wB ad cI g))))))))) rfl rfl ?_
      refine g_perm [0, 1, 2, 3, 4, 5, 6, 7, 8, 9, 10, 11, 12, 13, 14, 15, 16, 17, 18, 19, 20, 21, 22, 23, 24, 25, 26, 27, 28, 29, 37, 38, 39, 40, 41, 42, 43, 30, 31, 32, 33, 34, 35, 36, 44, 45, 46, 47, 48, 49, 50] (ws' := ((wH0 ha hb cO (nI (kO o z)) (nI (kM z))) ++ ((wB (hb 0) cI (G 0)) ++ ((wB (hb 1) cI (G 1)) ++ ((wB (hb 2) cI (G 2)) ++ ((wB (hb 3) cI (G 3)) ++ ((wB (hb 4) cI g) ++ ((wB (hb 5) cI (G 5)) ++ (wB ad cI g))))))))) rfl rfl rfl ?_
      refine g_aload_n C dX1_keep_53 0 rfl ?_
      refine g_dup C dX1_keep_54 rfl ?_
      refine g_get C (v := .int (nI (kM z))) fl_X1_keep_X1 0 rfl rfl 2 (by decide) fw_X1_keep_fld21 rfl dX1_keep_55 ?_
      refine g_iconst C (v := 1) dX1_keep_58 ci_1 ?_
      refine g_iadd C (v := nI (kM z + 1)) dX1_keep_59 (nI_1 _) ?_
      refine g_put C (ws' := ((wH0 ha hb cO (nI (kO o z)) (nI (kM z + 1))) ++ ((wB (hb 0) cI (G 0)) ++ ((wB (hb 1) cI (G 1)) ++ ((wB (hb 2) cI (G 2)) ++ ((wB (hb 3) cI (G 3)) ++ ((wB (hb 4) cI g) ++ ((wB (hb 5) cI (G 5)) ++ (wB ad cI g))))))))) fl_X1_keep_X1 tyX1 tyX1_ok nmX1 0 rfl rfl 2 (by decide) fw_X1_keep_fld21 rfl (tyX1_ok 2 (by decide)) rfl rfl (Nat.le_of_ble_eq_true rfl) dX1_keep_60 (ws_setl (Nat.le_of_ble_eq_true rfl) rfl) ?_
      exact g_vret C hret hlk dX1_keep_63 (by unfold wHs kG; simp only [h]; first | done | rfl)
    · rw [h]
      refine g_perm [0, 1, 2, 3, 4, 5, 6, 7, 8, 9, 10, 11, 12, 13, 14, 15, 16, 17, 18, 19, 20, 21, 22, 23, 24, 25, 26, 27, 28, 29, 30, 31, 32, 33, 34, 35, 36, 37, 38, 39, 40, 41, 42, 43, 44, 45, 46, 47, 48, 49, 50] (ws' := ((wH0 ha hb cO (nI (kO o z)) (nI (kM z))) ++ ((wB (hb 0) cI (G 0)) ++ ((wB (hb 1) cI (G 1)) ++ ((wB (hb 2) cI (G 2)) ++ ((wB (hb 3) cI (G 3)) ++ ((wB (hb 4) cI (G 4)) ++ ((wB (hb 5) cI (G 5)) ++ (wB ad cI g))))))))) rfl rfl rfl ?_
      refine g_callVv C (c_X0_copyFrom l D cI cO (hb 5) ad (G 5) g) gX1_keep_X0_copyFrom rfl ⟨rfl, rfl⟩ hd_X0_copyFrom ⟨Nat.le_of_ble_eq_true rfl, Nat.le_of_ble_eq_true rfl⟩ [0, 1] rfl (fun _ _ => trivial) rfl (rest := []) rfl (Nat.le_of_ble_eq_true rfl) dX1_keep_50 ⟨Nat.zero_le _, Nat.zero_le _⟩ 0 rfl rfl rfl (pre := ((wH0 ha hb cO (nI (kO o z)) (nI (kM z))) ++ ((wB (hb 0) cI (G 0)) ++ ((wB (hb 1) cI (G 1)) ++ ((wB (hb 2) cI (G 2)) ++ ((wB (hb 3) cI (G 3)) ++ (wB (hb 4) cI (G 4)))))))) (post := []) (ws' := ((wH0 ha hb cO (nI (kO o z)) (nI (kM z))) ++ ((wB (hb 0) cI (G 0)) ++ ((wB (hb 1) cI (G 1)) ++ ((wB (hb 2) cI (G 2)) ++ ((wB (hb 3) cI (G 3)) ++ ((wB (hb 4) cI (G 4)) ++ ((wB (hb 5) cI g) ++ (wB ad cI g))))))))) rfl rfl ?_
      refine g_perm [0, 1, 2, 3, 4, 5, 6, 7, 8, 9, 10, 11, 12, 13, 14, 15, 16, 17, 18, 19, 20, 21, 22, 23, 24, 25, 26, 27, 28, 29, 30, 31, 32, 33, 34, 35, 36, 37, 38, 39, 40, 41, 42, 43, 44, 45, 46, 47, 48, 49, 50] (ws' := ((wH0 ha hb cO (nI (kO o z)) (nI (kM z))) ++ ((wB (hb 0) cI (G 0)) ++ ((wB (hb 1) cI (G 1)) ++ ((wB (hb 2) cI (G 2)) ++ ((wB (hb 3) cI (G 3)) ++ ((wB (hb 4) cI (G 4)) ++ ((wB (hb 5) cI g) ++ (wB ad cI g))))))))) rfl rfl rfl ?_
      refine g_aload_n C dX1_keep_53 0 rfl ?_
      refine g_dup C dX1_keep_54 rfl ?_
      refine g_get C (v := .int (nI (kM z))) fl_X1_keep_X1 0 rfl rfl 2 (by decide) fw_X1_keep_fld21 rfl dX1_keep_55 ?_
      refine g_iconst C (v := 1) dX1_keep_58 ci_1 ?_
      refine g_iadd C (v := nI (kM z + 1)) dX1_keep_59 (nI_1 _) ?_
      refine g_put C (ws' := ((wH0 ha hb cO (nI (kO o z)) (nI (kM z + 1))) ++ ((wB (hb 0) cI (G 0)) ++ ((wB (hb 1) cI (G 1)) ++ ((wB (hb 2) cI (G 2)) ++ ((wB (hb 3) cI (G 3)) ++ ((wB (hb 4) cI (G 4)) ++ ((wB (hb 5) cI g) ++ (wB ad cI g))))))))) fl_X1_keep_X1 tyX1 tyX1_ok nmX1 0 rfl rfl 2 (by decide) fw_X1_keep_fld21 rfl (tyX1_ok 2 (by decide)) rfl rfl (Nat.le_of_ble_eq_true rfl) dX1_keep_60 (ws_setl (Nat.le_of_ble_eq_true rfl) rfl) ?_
      exact g_vret C hret hlk dX1_keep_63 (by unfold wHs kG; simp only [h]; first | done | rfl)
  refine g_aload_n C dX1_keep_0 0 rfl ?_
  refine g_get C (v := .int (nI z)) fl_X1_keep_X1 0 rfl rfl 2 (by decide) fw_X1_keep_fld21 rfl dX1_keep_1 ?_
  refine g_bipush C (v := 6) dX1_keep_4 cb_6 ?_
  refine g_icmp_ne C (tgt := 32) dX1_keep_6 (by decide) (fun h6_1 => ?_) (fun h6_1 => ?_)
  · have h6_1 := isn6 h6_1
    exact g_ws (by simp only [kO, kM, h6_1, Bool.false_eq_true, not_false_eq_true, not_true_eq_false, and_self, and_true, true_and, and_false, false_and, or_true, true_or, or_false, false_or, or_self, if_true, if_false, eq_self, ite_true, ite_false, reduceIte]) K
  · have h6_1 := is6 hz h6_1
    refine g_aload_n C dX1_keep_9 0 rfl ?_
    refine g_aload_n C dX1_keep_10 0 rfl ?_
    refine g_get C (v := .int (nI o)) fl_X1_keep_X1 0 rfl rfl 1 (by decide) fw_X1_keep_fld17 rfl dX1_keep_11 ?_
    refine g_iconst C (v := 1) dX1_keep_14 ci_1 ?_
    refine g_iadd C (v := nI (o + 1)) dX1_keep_15 (nI_1 _) ?_
    refine g_bipush C (v := 6) dX1_keep_16 cb_6 ?_
    refine g_irem C (v := nI (((o + 1)) % 6)) dX1_keep_18 (by decide) (pk_rem (d := 6) (by have := kO_lt (z := z) ho; have := kM_lt hz; omega) (by decide) (by decide)) ?_
    refine g_put C (ws' := ((wH0 ha hb cO (nI (((o + 1)) % 6)) (nI z)) ++ ((wB (hb 0) cI (G 0)) ++ ((wB (hb 1) cI (G 1)) ++ ((wB (hb 2) cI (G 2)) ++ ((wB (hb 3) cI (G 3)) ++ ((wB (hb 4) cI (G 4)) ++ ((wB (hb 5) cI (G 5)) ++ (wB ad cI g))))))))) fl_X1_keep_X1 tyX1 tyX1_ok nmX1 0 rfl rfl 1 (by decide) fw_X1_keep_fld17 rfl (tyX1_ok 1 (by decide)) rfl rfl (Nat.le_of_ble_eq_true rfl) dX1_keep_19 (ws_setl (Nat.le_of_ble_eq_true rfl) rfl) ?_
    refine g_aload_n C dX1_keep_22 0 rfl ?_
    refine g_dup C dX1_keep_23 rfl ?_
    refine g_get C (v := .int (nI z)) fl_X1_keep_X1 0 rfl rfl 2 (by decide) fw_X1_keep_fld21 rfl dX1_keep_24 ?_
    refine g_iconst C (v := 1) dX1_keep_27 ci_1 ?_
    refine g_isub C (v := nI (z - 1)) dX1_keep_28 (pk_sub (b := 1) (by omega)) ?_
    refine g_put C (ws' := ((wH0 ha hb cO (nI (((o + 1)) % 6)) (nI (z - 1))) ++ ((wB (hb 0) cI (G 0)) ++ ((wB (hb 1) cI (G 1)) ++ ((wB (hb 2) cI (G 2)) ++ ((wB (hb 3) cI (G 3)) ++ ((wB (hb 4) cI (G 4)) ++ ((wB (hb 5) cI (G 5)) ++ (wB ad cI g))))))))) fl_X1_keep_X1 tyX1 tyX1_ok nmX1 0 rfl rfl 2 (by decide) fw_X1_keep_fld21 rfl (tyX1_ok 2 (by decide)) rfl rfl (Nat.le_of_ble_eq_true rfl) dX1_keep_29 (ws_setl (Nat.le_of_ble_eq_true rfl) rfl) ?_
    exact g_ws (by simp only [kO, kM, h6_1, Bool.false_eq_true, not_false_eq_true, not_true_eq_false, and_self, and_true, true_and, and_false, false_and, or_true, true_or, or_false, false_or, or_self, if_true, if_false, eq_self, ite_true, ite_false, reduceIte]) K
theorem fw_X1_restore_fld21 : Cond.fieldLink RX1 21 "StuckRods$History" "size" "I" ∈ wsX1_restore := (List.mem_cons_of_mem _ (List.mem_append_left _ (List.mem_append_left _ (List.mem_of_getElem? (i := 0) rfl))))
theorem fl_X1_restore_X1 : ∀ w ∈ wsX10, w ∈ wsX1_restore := fun _ h => List.mem_cons_of_mem _ (List.mem_append_left _ (List.mem_append_right _ h))
theorem fw_X1_restore_fld11 : Cond.fieldLink RX1 11 "StuckRods$History" "slots" "[LStuckRods$Board;" ∈ wsX1_restore := (List.mem_cons_of_mem _ (List.mem_append_left _ (List.mem_append_left _ (List.mem_of_getElem? (i := 1) rfl))))
theorem fw_X1_restore_fld17 : Cond.fieldLink RX1 17 "StuckRods$History" "oldest" "I" ∈ wsX1_restore := (List.mem_cons_of_mem _ (List.mem_append_left _ (List.mem_append_left _ (List.mem_of_getElem? (i := 2) rfl))))
abbrev rmX1_restore : Room := { frames := 1, cells := 0, slots := 0, locals := 22 }
set_option maxHeartbeats 1000000 in
set_option maxRecDepth 100000 in
theorem c_X1_restore (l : Launch) (D : va_G) (cI cO : ClassId) (ha : Nat → Nat) (hb : Nat → Nat → Nat) (ad : Nat → Nat) (G : Nat → Nat → Int32) (g : Nat → Int32) (o z : Nat) (ho : o < 6) (hz : z ≤ 6) (hp : 0 < z) : cR (fun _ => True) l yX1_restore wsX1_restore rmX1_restore D vwCl (tyA cI cO) [.ref (ha 0), .ref (ad 0)] ((wHs ha hb cI cO G (nI o) (nI z)) ++ (wB ad cI g)) none ((wHs ha hb cI cO G (nI o) (nI (z - 1))) ++ (wB ad cI (G (rI o z)))) := by
  refine cR_of (cc := cX1_restore) (maxL := 2) (ret := none) (by decide) rfl (Nat.le_of_ble_eq_true rfl) ?_
  intro p e s m below meth c A C hret hlk hnm hF
  refine g_lv [0, 1] (lv' := [(0, .ref (ha 0)), (1, .ref (ad 0))]) rfl ?_
  refine g_ws (ws' := ((wH0 ha hb cO (nI o) (nI z)) ++ ((wB (hb 0) cI (G 0)) ++ ((wB (hb 1) cI (G 1)) ++ ((wB (hb 2) cI (G 2)) ++ ((wB (hb 3) cI (G 3)) ++ ((wB (hb 4) cI (G 4)) ++ ((wB (hb 5) cI (G 5)) ++ (wB ad cI g))))))))) rfl ?_
  refine g_aload_n C dX1_restore_0 0 rfl ?_
  refine g_get C (v := .int (nI z)) fl_X1_restore_X1 0 rfl rfl 2 (by decide) fw_X1_restore_fld21 rfl dX1_restore_1 ?_
  refine g_if_le C (tgt := 38) dX1_restore_4 (by decide) (fun h4_1 => absurd h4_1 (nI_nle hp (by omega))) (fun _ => ?_)
  refine g_aload_n C dX1_restore_7 0 rfl ?_
  refine g_dup C dX1_restore_8 rfl ?_
  refine g_get C (v := .int (nI z)) fl_X1_restore_X1 0 rfl rfl 2 (by decide) fw_X1_restore_fld21 rfl dX1_restore_9 ?_
  refine g_iconst C (v := 1) dX1_restore_12 ci_1 ?_
  refine g_isub C (v := nI (z - 1)) dX1_restore_13 (pk_sub (b := 1) (by omega)) ?_
  refine g_put C (ws' := ((wH0 ha hb cO (nI o) (nI (z - 1))) ++ ((wB (hb 0) cI (G 0)) ++ ((wB (hb 1) cI (G 1)) ++ ((wB (hb 2) cI (G 2)) ++ ((wB (hb 3) cI (G 3)) ++ ((wB (hb 4) cI (G 4)) ++ ((wB (hb 5) cI (G 5)) ++ (wB ad cI g))))))))) fl_X1_restore_X1 tyX1 tyX1_ok nmX1 0 rfl rfl 2 (by decide) fw_X1_restore_fld21 rfl (tyX1_ok 2 (by decide)) rfl rfl (Nat.le_of_ble_eq_true rfl) dX1_restore_14 (ws_setl (Nat.le_of_ble_eq_true rfl) rfl) ?_
  refine g_aload_n C dX1_restore_17 1 rfl ?_
  refine g_aload_n C dX1_restore_18 0 rfl ?_
  refine g_get C (v := .ref (ha 1)) fl_X1_restore_X1 0 rfl rfl 0 (by decide) fw_X1_restore_fld11 rfl dX1_restore_19 ?_
  refine g_aload_n C dX1_restore_22 0 rfl ?_
  refine g_get C (v := .int (nI o)) fl_X1_restore_X1 0 rfl rfl 1 (by decide) fw_X1_restore_fld17 rfl dX1_restore_23 ?_
  refine g_aload_n C dX1_restore_26 0 rfl ?_
  refine g_get C (v := .int (nI (z - 1))) fl_X1_restore_X1 0 rfl rfl 2 (by decide) fw_X1_restore_fld21 rfl dX1_restore_27 ?_
  refine g_iadd C (v := nI (o + (z - 1))) dX1_restore_30 (nI_add _ _) ?_
  refine g_bipush C (v := 6) dX1_restore_31 cb_6 ?_
  refine g_irem C (v := nI (rI o z)) dX1_restore_33 (by decide) (pk_rem (d := 6) (by have := kO_lt (z := z) ho; have := kM_lt hz; omega) (by decide) (by decide)) ?_
  refine g_aldq C (x := .ref (hb (rI o z) 0)) 1 1 rfl rfl (rI o z) rfl (Nat.mod_lt _ (by decide)) (by decide) rfl dX1_restore_34 ?_
  rcases rI_6 o z with h | h | h | h | h | h
  · rw [h]
    refine g_perm [0, 1, 9, 10, 11, 12, 13, 14, 15, 16, 17, 18, 19, 20, 21, 22, 23, 24, 25, 26, 27, 28, 29, 30, 31, 32, 33, 34, 35, 36, 37, 38, 39, 40, 41, 42, 43, 44, 45, 46, 47, 48, 49, 50, 2, 3, 4, 5, 6, 7, 8] (ws' := ((wH0 ha hb cO (nI o) (nI (z - 1))) ++ ((wB (hb 1) cI (G 1)) ++ ((wB (hb 2) cI (G 2)) ++ ((wB (hb 3) cI (G 3)) ++ ((wB (hb 4) cI (G 4)) ++ ((wB (hb 5) cI (G 5)) ++ ((wB ad cI g) ++ (wB (hb 0) cI (G 0)))))))))) rfl rfl rfl ?_
    refine g_callVv C (c_X0_copyFrom l D cI cO ad (hb 0) g (G 0)) gX1_restore_X0_copyFrom rfl ⟨rfl, rfl⟩ hd_X0_copyFrom ⟨Nat.le_of_ble_eq_true rfl, Nat.le_of_ble_eq_true rfl⟩ [0, 1] rfl (fun _ _ => trivial) rfl (rest := []) rfl (Nat.le_of_ble_eq_true rfl) dX1_restore_35 ⟨Nat.zero_le _, Nat.zero_le _⟩ 0 rfl rfl rfl (pre := ((wH0 ha hb cO (nI o) (nI (z - 1))) ++ ((wB (hb 1) cI (G 1)) ++ ((wB (hb 2) cI (G 2)) ++ ((wB (hb 3) cI (G 3)) ++ ((wB (hb 4) cI (G 4)) ++ (wB (hb 5) cI (G 5)))))))) (post := []) (ws' := ((wH0 ha hb cO (nI o) (nI (z - 1))) ++ ((wB (hb 1) cI (G 1)) ++ ((wB (hb 2) cI (G 2)) ++ ((wB (hb 3) cI (G 3)) ++ ((wB (hb 4) cI (G 4)) ++ ((wB (hb 5) cI (G 5)) ++ ((wB ad cI (G 0)) ++ (wB (hb 0) cI (G 0)))))))))) rfl rfl ?_
    refine g_perm [0, 1, 44, 45, 46, 47, 48, 49, 50, 2, 3, 4, 5, 6, 7, 8, 9, 10, 11, 12, 13, 14, 15, 16, 17, 18, 19, 20, 21, 22, 23, 24, 25, 26, 27, 28, 29, 30, 31, 32, 33, 34, 35, 36, 37, 38, 39, 40, 41, 42, 43] (ws' := ((wH0 ha hb cO (nI o) (nI (z - 1))) ++ ((wB (hb 0) cI (G 0)) ++ ((wB (hb 1) cI (G 1)) ++ ((wB (hb 2) cI (G 2)) ++ ((wB (hb 3) cI (G 3)) ++ ((wB (hb 4) cI (G 4)) ++ ((wB (hb 5) cI (G 5)) ++ (wB ad cI (G 0)))))))))) rfl rfl rfl ?_
    exact g_vret C hret hlk dX1_restore_38 rfl
  · rw [h]
    refine g_perm [0, 1, 2, 3, 4, 5, 6, 7, 8, 16, 17, 18, 19, 20, 21, 22, 23, 24, 25, 26, 27, 28, 29, 30, 31, 32, 33, 34, 35, 36, 37, 38, 39, 40, 41, 42, 43, 44, 45, 46, 47, 48, 49, 50, 9, 10, 11, 12, 13, 14, 15] (ws' := ((wH0 ha hb cO (nI o) (nI (z - 1))) ++ ((wB (hb 0) cI (G 0)) ++ ((wB (hb 2) cI (G 2)) ++ ((wB (hb 3) cI (G 3)) ++ ((wB (hb 4) cI (G 4)) ++ ((wB (hb 5) cI (G 5)) ++ ((wB ad cI g) ++ (wB (hb 1) cI (G 1)))))))))) rfl rfl rfl ?_
    refine g_callVv C (c_X0_copyFrom l D cI cO ad (hb 1) g (G 1)) gX1_restore_X0_copyFrom rfl ⟨rfl, rfl⟩ hd_X0_copyFrom ⟨Nat.le_of_ble_eq_true rfl, Nat.le_of_ble_eq_true rfl⟩ [0, 1] rfl (fun _ _ => trivial) rfl (rest := []) rfl (Nat.le_of_ble_eq_true rfl) dX1_restore_35 ⟨Nat.zero_le _, Nat.zero_le _⟩ 0 rfl rfl rfl (pre := ((wH0 ha hb cO (nI o) (nI (z - 1))) ++ ((wB (hb 0) cI (G 0)) ++ ((wB (hb 2) cI (G 2)) ++ ((wB (hb 3) cI (G 3)) ++ ((wB (hb 4) cI (G 4)) ++ (wB (hb 5) cI (G 5)))))))) (post := []) (ws' := ((wH0 ha hb cO (nI o) (nI (z - 1))) ++ ((wB (hb 0) cI (G 0)) ++ ((wB (hb 2) cI (G 2)) ++ ((wB (hb 3) cI (G 3)) ++ ((wB (hb 4) cI (G 4)) ++ ((wB (hb 5) cI (G 5)) ++ ((wB ad cI (G 1)) ++ (wB (hb 1) cI (G 1)))))))))) rfl rfl ?_
    refine g_perm [0, 1, 2, 3, 4, 5, 6, 7, 8, 44, 45, 46, 47, 48, 49, 50, 9, 10, 11, 12, 13, 14, 15, 16, 17, 18, 19, 20, 21, 22, 23, 24, 25, 26, 27, 28, 29, 30, 31, 32, 33, 34, 35, 36, 37, 38, 39, 40, 41, 42, 43] (ws' := ((wH0 ha hb cO (nI o) (nI (z - 1))) ++ ((wB (hb 0) cI (G 0)) ++ ((wB (hb 1) cI (G 1)) ++ ((wB (hb 2) cI (G 2)) ++ ((wB (hb 3) cI (G 3)) ++ ((wB (hb 4) cI (G 4)) ++ ((wB (hb 5) cI (G 5)) ++ (wB ad cI (G 1)))))))))) rfl rfl rfl ?_
    exact g_vret C hret hlk dX1_restore_38 rfl
  · rw [h]
    refine g_perm [0, 1, 2, 3, 4, 5, 6, 7, 8, 9, 10, 11, 12, 13, 14, 15, 23, 24, 25, 26, 27, 28, 29, 30, 31, 32, 33, 34, 35, 36, 37, 38, 39, 40, 41, 42, 43, 44, 45, 46, 47, 48, 49, 50, 16, 17, 18, 19, 20, 21, 22] (ws' := ((wH0 ha hb cO (nI o) (nI (z - 1))) ++ ((wB (hb 0) cI (G 0)) ++ ((wB (hb 1) cI (G 1)) ++ ((wB (hb 3) cI (G 3)) ++ ((wB (hb 4) cI (G 4)) ++ ((wB (hb 5) cI (G 5)) ++ ((wB ad cI g) ++ (wB (hb 2) cI (G 2)))))))))) rfl rfl rfl ?_
    refine g_callVv C (c_X0_copyFrom l D cI cO ad (hb 2) g (G 2)) gX1_restore_X0_copyFrom rfl ⟨rfl, rfl⟩ hd_X0_copyFrom ⟨Nat.le_of_ble_eq_true rfl, Nat.le_of_ble_eq_true rfl⟩ [0, 1] rfl (fun _ _ => trivial) rfl (rest := []) rfl (Nat.le_of_ble_eq_true rfl) dX1_restore_35 ⟨Nat.zero_le _, Nat.zero_le _⟩ 0 rfl rfl rfl (pre := ((wH0 ha hb cO (nI o) (nI (z - 1))) ++ ((wB (hb 0) cI (G 0)) ++ ((wB (hb 1) cI (G 1)) ++ ((wB (hb 3) cI (G 3)) ++ ((wB (hb 4) cI (G 4)) ++ (wB (hb 5) cI (G 5)))))))) (post := []) (ws' := ((wH0 ha hb cO (nI o) (nI (z - 1))) ++ ((wB (hb 0) cI (G 0)) ++ ((wB (hb 1) cI (G 1)) ++ ((wB (hb 3) cI (G 3)) ++ ((wB (hb 4) cI (G 4)) ++ ((wB (hb 5) cI (G 5)) ++ ((wB ad cI (G 2)) ++ (wB (hb 2) cI (G 2)))))))))) rfl rfl ?_
    refine g_perm [0, 1, 2, 3, 4, 5, 6, 7, 8, 9, 10, 11, 12, 13, 14, 15, 44, 45, 46, 47, 48, 49, 50, 16, 17, 18, 19, 20, 21, 22, 23, 24, 25, 26, 27, 28, 29, 30, 31, 32, 33, 34, 35, 36, 37, 38, 39, 40, 41, 42, 43] (ws' := ((wH0 ha hb cO (nI o) (nI (z - 1))) ++ ((wB (hb 0) cI (G 0)) ++ ((wB (hb 1) cI (G 1)) ++ ((wB (hb 2) cI (G 2)) ++ ((wB (hb 3) cI (G 3)) ++ ((wB (hb 4) cI (G 4)) ++ ((wB (hb 5) cI (G 5)) ++ (wB ad cI (G 2)))))))))) rfl rfl rfl ?_
    exact g_vret C hret hlk dX1_restore_38 rfl
  · rw [h]
    refine g_perm [0, 1, 2, 3, 4, 5, 6, 7, 8, 9, 10, 11, 12, 13, 14, 15, 16, 17, 18, 19, 20, 21, 22, 30, 31, 32, 33, 34, 35, 36, 37, 38, 39, 40, 41, 42, 43, 44, 45, 46, 47, 48, 49, 50, 23, 24, 25, 26, 27, 28, 29] (ws' := ((wH0 ha hb cO (nI o) (nI (z - 1))) ++ ((wB (hb 0) cI (G 0)) ++ ((wB (hb 1) cI (G 1)) ++ ((wB (hb 2) cI (G 2)) ++ ((wB (hb 4) cI (G 4)) ++ ((wB (hb 5) cI (G 5)) ++ ((wB ad cI g) ++ (wB (hb 3) cI (G 3)))))))))) rfl rfl rfl ?_
    refine g_callVv C (c_X0_copyFrom l D cI cO ad (hb 3) g (G 3)) gX1_restore_X0_copyFrom rfl ⟨rfl, rfl⟩ hd_X0_copyFrom ⟨Nat.le_of_ble_eq_true rfl, Nat.le_of_ble_eq_true rfl⟩ [0, 1] rfl (fun _ _ => trivial) rfl (rest := []) rfl (Nat.le_of_ble_eq_true rfl) dX1_restore_35 ⟨Nat.zero_le _, Nat.zero_le _⟩ 0 rfl rfl rfl (pre := ((wH0 ha hb cO (nI o) (nI (z - 1))) ++ ((wB (hb 0) cI (G 0)) ++ ((wB (hb 1) cI (G 1)) ++ ((wB (hb 2) cI (G 2)) ++ ((wB (hb 4) cI (G 4)) ++ (wB (hb 5) cI (G 5)))))))) (post := []) (ws' := ((wH0 ha hb cO (nI o) (nI (z - 1))) ++ ((wB (hb 0) cI (G 0)) ++ ((wB (hb 1) cI (G 1)) ++ ((wB (hb 2) cI (G 2)) ++ ((wB (hb 4) cI (G 4)) ++ ((wB (hb 5) cI (G 5)) ++ ((wB ad cI (G 3)) ++ (wB (hb 3) cI (G 3)))))))))) rfl rfl ?_
    refine g_perm [0, 1, 2, 3, 4, 5, 6, 7, 8, 9, 10, 11, 12, 13, 14, 15, 16, 17, 18, 19, 20, 21, 22, 44, 45, 46, 47, 48, 49, 50, 23, 24, 25, 26, 27, 28, 29, 30, 31, 32, 33, 34, 35, 36, 37, 38, 39, 40, 41, 42, 43] (ws' := ((wH0 ha hb cO (nI o) (nI (z - 1))) ++ ((wB (hb 0) cI (G 0)) ++ ((wB (hb 1) cI (G 1)) ++ ((wB (hb 2) cI (G 2)) ++ ((wB (hb 3) cI (G 3)) ++ ((wB (hb 4) cI (G 4)) ++ ((wB (hb 5) cI (G 5)) ++ (wB ad cI (G 3)))))))))) rfl rfl rfl ?_
    exact g_vret C hret hlk dX1_restore_38 rfl
  · rw [h]
    refine g_perm [0, 1, 2, 3, 4, 5, 6, 7, 8, 9, 10, 11, 12, 13, 14, 15, 16, 17, 18, 19, 20, 21, 22, 23, 24, 25, 26, 27, 28, 29, 37, 38, 39, 40, 41, 42, 43, 44, 45, 46, 47, 48, 49, 50, 30, 31, 32, 33, 34, 35, 36] (ws' := ((wH0 ha hb cO (nI o) (nI (z - 1))) ++ ((wB (hb 0) cI (G 0)) ++ ((wB (hb 1) cI (G 1)) ++ ((wB (hb 2) cI (G 2)) ++ ((wB (hb 3) cI (G 3)) ++ ((wB (hb 5) cI (G 5)) ++ ((wB ad cI g) ++ (wB (hb 4) cI (G 4)))))))))) rfl rfl rfl ?_
    refine g_callVv C (c_X0_copyFrom l D cI cO ad (hb 4) g (G 4)) gX1_restore_X0_copyFrom rfl ⟨rfl, rfl⟩ hd_X0_copyFrom ⟨Nat.le_of_ble_eq_true rfl, Nat.le_of_ble_eq_true rfl⟩ [0, 1] rfl (fun _ _ => trivial) rfl (rest := []) rfl (Nat.le_of_ble_eq_true rfl) dX1_restore_35 ⟨Nat.zero_le _, Nat.zero_le _⟩ 0 rfl rfl rfl (pre := ((wH0 ha hb cO (nI o) (nI (z - 1))) ++ ((wB (hb 0) cI (G 0)) ++ ((wB (hb 1) cI (G 1)) ++ ((wB (hb 2) cI (G 2)) ++ ((wB (hb 3) cI (G 3)) ++ (wB (hb 5) cI (G 5)))))))) (post := []) (ws' := ((wH0 ha hb cO (nI o) (nI (z - 1))) ++ ((wB (hb 0) cI (G 0)) ++ ((wB (hb 1) cI (G 1)) ++ ((wB (hb 2) cI (G 2)) ++ ((wB (hb 3) cI (G 3)) ++ ((wB (hb 5) cI (G 5)) ++ ((wB ad cI (G 4)) ++ (wB (hb 4) cI (G 4)))))))))) rfl rfl ?_
    refine g_perm [0, 1, 2, 3, 4, 5, 6, 7, 8, 9, 10, 11, 12, 13, 14, 15, 16, 17, 18, 19, 20, 21, 22, 23, 24, 25, 26, 27, 28, 29, 44, 45, 46, 47, 48, 49, 50, 30, 31, 32, 33, 34, 35, 36, 37, 38, 39, 40, 41, 42, 43] (ws' := ((wH0 ha hb cO (nI o) (nI (z - 1))) ++ ((wB (hb 0) cI (G 0)) ++ ((wB (hb 1) cI (G 1)) ++ ((wB (hb 2) cI (G 2)) ++ ((wB (hb 3) cI (G 3)) ++ ((wB (hb 4) cI (G 4)) ++ ((wB (hb 5) cI (G 5)) ++ (wB ad cI (G 4)))))))))) rfl rfl rfl ?_
    exact g_vret C hret hlk dX1_restore_38 rfl
  · rw [h]
    refine g_perm [0, 1, 2, 3, 4, 5, 6, 7, 8, 9, 10, 11, 12, 13, 14, 15, 16, 17, 18, 19, 20, 21, 22, 23, 24, 25, 26, 27, 28, 29, 30, 31, 32, 33, 34, 35, 36, 44, 45, 46, 47, 48, 49, 50, 37, 38, 39, 40, 41, 42, 43] (ws' := ((wH0 ha hb cO (nI o) (nI (z - 1))) ++ ((wB (hb 0) cI (G 0)) ++ ((wB (hb 1) cI (G 1)) ++ ((wB (hb 2) cI (G 2)) ++ ((wB (hb 3) cI (G 3)) ++ ((wB (hb 4) cI (G 4)) ++ ((wB ad cI g) ++ (wB (hb 5) cI (G 5)))))))))) rfl rfl rfl ?_
    refine g_callVv C (c_X0_copyFrom l D cI cO ad (hb 5) g (G 5)) gX1_restore_X0_copyFrom rfl ⟨rfl, rfl⟩ hd_X0_copyFrom ⟨Nat.le_of_ble_eq_true rfl, Nat.le_of_ble_eq_true rfl⟩ [0, 1] rfl (fun _ _ => trivial) rfl (rest := []) rfl (Nat.le_of_ble_eq_true rfl) dX1_restore_35 ⟨Nat.zero_le _, Nat.zero_le _⟩ 0 rfl rfl rfl (pre := ((wH0 ha hb cO (nI o) (nI (z - 1))) ++ ((wB (hb 0) cI (G 0)) ++ ((wB (hb 1) cI (G 1)) ++ ((wB (hb 2) cI (G 2)) ++ ((wB (hb 3) cI (G 3)) ++ (wB (hb 4) cI (G 4)))))))) (post := []) (ws' := ((wH0 ha hb cO (nI o) (nI (z - 1))) ++ ((wB (hb 0) cI (G 0)) ++ ((wB (hb 1) cI (G 1)) ++ ((wB (hb 2) cI (G 2)) ++ ((wB (hb 3) cI (G 3)) ++ ((wB (hb 4) cI (G 4)) ++ ((wB ad cI (G 5)) ++ (wB (hb 5) cI (G 5)))))))))) rfl rfl ?_
    refine g_perm [0, 1, 2, 3, 4, 5, 6, 7, 8, 9, 10, 11, 12, 13, 14, 15, 16, 17, 18, 19, 20, 21, 22, 23, 24, 25, 26, 27, 28, 29, 30, 31, 32, 33, 34, 35, 36, 44, 45, 46, 47, 48, 49, 50, 37, 38, 39, 40, 41, 42, 43] (ws' := ((wH0 ha hb cO (nI o) (nI (z - 1))) ++ ((wB (hb 0) cI (G 0)) ++ ((wB (hb 1) cI (G 1)) ++ ((wB (hb 2) cI (G 2)) ++ ((wB (hb 3) cI (G 3)) ++ ((wB (hb 4) cI (G 4)) ++ ((wB (hb 5) cI (G 5)) ++ (wB ad cI (G 5)))))))))) rfl rfl rfl ?_
    exact g_vret C hret hlk dX1_restore_38 rfl
end
section
theorem pos1 {i : Nat} (h : ¬ nI i < 1) : 1 ≤ i := by
  rcases Nat.eq_zero_or_pos i with e | e
  · subst e; exact absurd (by decide) h
  · exact e
theorem leI {a b : Nat} (h : a ≤ b) (hb : b < 2 ^ 31) : nI a ≤ nI b := (nI_leI (by omega) hb).mpr h
theorem nleI {a b : Nat} (h : a < b) (hb : b < 2 ^ 31) : ¬ nI b ≤ nI a := fun z => absurd ((nI_leI hb (by omega)).mp z) (by omega)
/-! ===== the class itself ===== -/
def wS0 (xa : Nat) (ad ha ta : Nat → Nat) : va_W := [(xa, .inr (3, [.ref (ad 0), .ref (ha 0), .ref (ta 0)]))]
theorem c0_X0_change (l : Launch) (D : va_G) (cI cO : ClassId) (ad : Nat → Nat) (g : Nat → Int32) (r : Nat) (hr : r < 9) (n9 : Int32) : cR (fun _ => True) l yX0_change wsX0_change rmX0_change D vwCl (tyA cI cO) [.ref (ad 0), .int (nI r), .int n9, .int 0] (wB ad cI g) (some (.int (xCh g r n9 0).1)) (wB ad cI g) := by
  have h := c_X0_change l D cI cO ad g r hr n9 0
  rw [xCh_0] at h
  exact h
theorem c0_X0_turn (l : Launch) (D : va_G) (cI cO : ClassId) (ad : Nat → Nat) (g : Nat → Int32) (r : Nat) (hr : r < 9) (v : Int32) : cR (fun _ => True) l yX0_turn wsX0_turn rmX0_turn D vwCl (tyA cI cO) [.ref (ad 0), .int (nI r), .int v, .int 0] (wB ad cI g) (some (.int (xTv g r v))) (wB ad cI g) := by
  have h := c_X0_turn l D cI cO ad g r hr v 0
  rw [xTn_0] at h
  exact h
abbrev rmX3_checkRod : Room := { frames := 0, cells := 0, slots := 0, locals := 0 }
set_option maxHeartbeats 1000000 in
set_option maxRecDepth 100000 in
theorem c_X3_checkRod (l : Launch) (D : va_G) (cI cO : ClassId) (r : Nat) (hr : r < 9)  : cR (fun _ => True) l yX3_checkRod wsX3_checkRod rmX3_checkRod D vwCl (tyA cI cO) [.int (nI r)] ([] : va_W) none ([] : va_W) := by
  refine cR_of (cc := cX3_checkRod) (maxL := 1) (ret := none) (by decide) rfl (Nat.le_of_ble_eq_true rfl) ?_
  intro p e s m below meth c A C hret hlk hnm hF
  refine g_lv [0] (lv' := [(0, .int (nI r))]) rfl ?_
  refine g_iload_n C dX3_checkRod_0 0 rfl ?_
  refine g_if_lt C (tgt := 10) dX3_checkRod_1 (by decide) (fun h1_1 => absurd h1_1 (nI_pos (by omega))) (fun _ => ?_)
  refine g_iload_n C dX3_checkRod_4 0 rfl ?_
  refine g_bipush C (v := 9) dX3_checkRod_5 cb_9 ?_
  refine g_icmp_lt C (tgt := 20) dX3_checkRod_7 (by decide) (fun _ => ?_) (fun h7_2 => absurd (nI_lt (b := 9) hr (by decide)) h7_2)
  exact g_vret C hret hlk dX3_checkRod_20 rfl
abbrev rmX3_checkRange : Room := { frames := 0, cells := 0, slots := 0, locals := 0 }
set_option maxHeartbeats 1000000 in
set_option maxRecDepth 100000 in
theorem c_X3_checkRange (l : Launch) (D : va_G) (cI cO : ClassId) (v lo hi : Int32) (h1 : ¬ v < lo) (h2 : v ≤ hi)  : cR (fun _ => True) l yX3_checkRange wsX3_checkRange rmX3_checkRange D vwCl (tyA cI cO) [.int v, .int lo, .int hi] ([] : va_W) none ([] : va_W) := by
  refine cR_of (cc := cX3_checkRange) (maxL := 3) (ret := none) (by decide) rfl (Nat.le_of_ble_eq_true rfl) ?_
  intro p e s m below meth c A C hret hlk hnm hF
  refine g_lv [0, 1, 2] (lv' := [(0, .int v), (1, .int lo), (2, .int hi)]) rfl ?_
  refine g_iload_n C dX3_checkRange_0 0 rfl ?_
  refine g_iload_n C dX3_checkRange_1 1 rfl ?_
  refine g_icmp_lt C (tgt := 10) dX3_checkRange_2 (by decide) (fun h2_1 => absurd h2_1 h1) (fun _ => ?_)
  refine g_iload_n C dX3_checkRange_5 0 rfl ?_
  refine g_iload_n C dX3_checkRange_6 2 rfl ?_
  refine g_icmp_le C (tgt := 20) dX3_checkRange_7 (by decide) (fun _ => ?_) (fun h7_2 => absurd h2 h7_2)
  exact g_vret C hret hlk dX3_checkRange_20 rfl
theorem hd_X3_checkRod : yX3_checkRod.cls ≠ "java/lang/invoke/MethodHandle" ∧ yX3_checkRod.cls ≠ "java/lang/invoke/VarHandle" ∧ (parseMethodDescriptor yX3_checkRod.desc).map (fun d => d.parameters.length) = some 1 := by decide +kernel
theorem hd_X3_checkRange : yX3_checkRange.cls ≠ "java/lang/invoke/MethodHandle" ∧ yX3_checkRange.cls ≠ "java/lang/invoke/VarHandle" ∧ (parseMethodDescriptor yX3_checkRange.desc).map (fun d => d.parameters.length) = some 3 := by decide +kernel
theorem fw_X3_move_fld12 : Cond.fieldLink RX3 12 "StuckRods" "board" "LStuckRods$Board;" ∈ wsX3_move := (List.mem_cons_of_mem _ (List.mem_append_left _ (List.mem_append_left _ (List.mem_append_left _ (List.mem_append_left _ (List.mem_append_left _ (List.mem_append_left _ (List.mem_append_left _ (List.mem_of_getElem? (i := 2) rfl)))))))))
theorem fl_X3_move_X3 : ∀ w ∈ wsX30, w ∈ wsX3_move := fun _ h => List.mem_cons_of_mem _ (List.mem_append_left _ (List.mem_append_left _ (List.mem_append_left _ (List.mem_append_left _ (List.mem_append_left _ (List.mem_append_right _ h))))))
theorem fw_X3_move_fld19 : Cond.fieldLink RX3 19 "StuckRods" "history" "LStuckRods$History;" ∈ wsX3_move := (List.mem_cons_of_mem _ (List.mem_append_left _ (List.mem_append_left _ (List.mem_append_left _ (List.mem_append_left _ (List.mem_append_left _ (List.mem_append_left _ (List.mem_append_left _ (List.mem_of_getElem? (i := 3) rfl)))))))))
theorem hd_X1_keep : yX1_keep.cls = RX1 ∧ yX1_keep.cls ≠ "java/lang/invoke/MethodHandle" ∧ yX1_keep.cls ≠ "java/lang/invoke/VarHandle" ∧ (parseMethodDescriptor yX1_keep.desc).map (fun d => d.parameters.length) = some 1 := by decide +kernel
abbrev rmX3_move : Room := { frames := 2, cells := 0, slots := 0, locals := 46 }
set_option maxHeartbeats 1000000 in
set_option maxRecDepth 100000 in
theorem c_X3_move (l : Launch) (D : va_G) (cI cO : ClassId) (xa : Nat) (ta ha : Nat → Nat) (hb : Nat → Nat → Nat) (ad : Nat → Nat) (t : Nat → Int32) (n : Nat) (G : Nat → Nat → Int32) (g : Nat → Int32) (o z : Nat) (hn : n ≤ 60) (ho : o < 6) (hz : z ≤ 6) (r : Nat) (hr : r < 9) (f q9 : Int32) (h1 : ¬ f < 0) (h2 : f ≤ 2) (h3 : ¬ q9 < 0) (h4 : q9 ≤ 5) (hm : ¬ xMb g r f q9 = -1) : cR (fun _ => True) l yX3_move wsX3_move rmX3_move D vwCl (tyA cI cO) [.ref xa, .int (nI r), .int f, .int q9] ((wS0 xa ad ha ta) ++ ((wT ta cI t (nI n)) ++ ((wHs ha hb cI cO G (nI o) (nI z)) ++ (wB ad cI g)))) (some (.int (xMb g r f q9))) ((wS0 xa ad ha ta) ++ ((wT ta cI t (nI n)) ++ ((wHs ha hb cI cO (kG G o z g) (nI (kO o z)) (nI (kM z + 1))) ++ (wB ad cI (xPl g r f q9 (xMb g r f q9)))))) := by
  refine cR_of (cc := cX3_move) (maxL := 5) (ret := (some .int)) (by decide) rfl (Nat.le_of_ble_eq_true rfl) ?_
  intro p e s m below meth c A C hret hlk hnm hF
  refine g_lv [0, 1, 2, 3] (lv' := [(0, .ref xa), (1, .int (nI r)), (2, .int f), (3, .int q9)]) rfl ?_
  refine g_iload_n C dX3_move_0 1 rfl ?_
  refine g_callSv C (c_X3_checkRod l D cI cO r hr) gX3_move_X3_checkRod rfl ⟨rfl, rfl⟩ hd_X3_checkRod ⟨Nat.le_of_ble_eq_true rfl, Nat.le_of_ble_eq_true rfl⟩ [0, 1] rfl (fun _ _ => trivial) rfl (rest := []) rfl (Nat.le_of_ble_eq_true rfl) dX3_move_1 ⟨Nat.zero_le _, Nat.zero_le _⟩ (pre := []) (post := ((wS0 xa ad ha ta) ++ ((wT ta cI t (nI n)) ++ ((wHs ha hb cI cO G (nI o) (nI z)) ++ (wB ad cI g))))) (ws' := ((wS0 xa ad ha ta) ++ ((wT ta cI t (nI n)) ++ ((wHs ha hb cI cO G (nI o) (nI z)) ++ (wB ad cI g))))) rfl rfl ?_
  refine g_iload_n C dX3_move_4 2 rfl ?_
  refine g_iconst C (v := 0) dX3_move_5 ci_0 ?_
  refine g_iconst C (v := 2) dX3_move_6 ci_2 ?_
  refine g_callSv C (c_X3_checkRange l D cI cO f 0 2 h1 h2) gX3_move_X3_checkRange rfl ⟨rfl, rfl⟩ hd_X3_checkRange ⟨Nat.le_of_ble_eq_true rfl, Nat.le_of_ble_eq_true rfl⟩ [0, 1] rfl (fun _ _ => trivial) rfl (rest := []) rfl (Nat.le_of_ble_eq_true rfl) dX3_move_7 ⟨Nat.zero_le _, Nat.zero_le _⟩ (pre := []) (post := ((wS0 xa ad ha ta) ++ ((wT ta cI t (nI n)) ++ ((wHs ha hb cI cO G (nI o) (nI z)) ++ (wB ad cI g))))) (ws' := ((wS0 xa ad ha ta) ++ ((wT ta cI t (nI n)) ++ ((wHs ha hb cI cO G (nI o) (nI z)) ++ (wB ad cI g))))) rfl rfl ?_
  refine g_iload_n C dX3_move_10 3 rfl ?_
  refine g_iconst C (v := 0) dX3_move_11 ci_0 ?_
  refine g_iconst C (v := 5) dX3_move_12 ci_5 ?_
  refine g_callSv C (c_X3_checkRange l D cI cO q9 0 5 h3 h4) gX3_move_X3_checkRange rfl ⟨rfl, rfl⟩ hd_X3_checkRange ⟨Nat.le_of_ble_eq_true rfl, Nat.le_of_ble_eq_true rfl⟩ [0, 1] rfl (fun _ _ => trivial) rfl (rest := []) rfl (Nat.le_of_ble_eq_true rfl) dX3_move_13 ⟨Nat.zero_le _, Nat.zero_le _⟩ (pre := []) (post := ((wS0 xa ad ha ta) ++ ((wT ta cI t (nI n)) ++ ((wHs ha hb cI cO G (nI o) (nI z)) ++ (wB ad cI g))))) (ws' := ((wS0 xa ad ha ta) ++ ((wT ta cI t (nI n)) ++ ((wHs ha hb cI cO G (nI o) (nI z)) ++ (wB ad cI g))))) rfl rfl ?_
  refine g_aload_n C dX3_move_16 0 rfl ?_
  refine g_get C (v := .ref (ad 0)) fl_X3_move_X3 0 rfl rfl 0 (by decide) fw_X3_move_fld12 rfl dX3_move_17 ?_
  refine g_iload_n C dX3_move_20 1 rfl ?_
  refine g_iload_n C dX3_move_21 2 rfl ?_
  refine g_iload_n C dX3_move_22 3 rfl ?_
  refine g_callVi C (c_X0_movesBy l D cI cO ad g r hr f q9) gX3_move_X0_movesBy rfl ⟨rfl, rfl⟩ hd_X0_movesBy ⟨Nat.le_of_ble_eq_true rfl, Nat.le_of_ble_eq_true rfl⟩ [0, 1] rfl (fun _ _ => trivial) rfl (rest := []) rfl (Nat.le_of_ble_eq_true rfl) dX3_move_23 ⟨Nat.zero_le _, Nat.zero_le _⟩ 0 rfl rfl rfl (pre := ((wS0 xa ad ha ta) ++ ((wT ta cI t (nI n)) ++ (wHs ha hb cI cO G (nI o) (nI z))))) (post := []) (ws' := ((wS0 xa ad ha ta) ++ ((wT ta cI t (nI n)) ++ ((wHs ha hb cI cO G (nI o) (nI z)) ++ (wB ad cI g))))) rfl rfl ?_
  refine g_istore C (lv' := [(4, .int (xMb g r f q9)), (0, .ref xa), (1, .int (nI r)), (2, .int f), (3, .int q9)]) dX3_move_26 (by decide) rfl ?_
  refine g_iload C dX3_move_28 0 rfl ?_
  refine g_iconst C (v := -1) dX3_move_30 ci_m1 ?_
  refine g_icmp_ne C (tgt := 44) dX3_move_31 (by decide) (fun _ => ?_) (fun h31_1 => absurd h31_1 hm)
  refine g_aload_n C dX3_move_44 1 rfl ?_
  refine g_get C (v := .ref (ha 0)) fl_X3_move_X3 0 rfl rfl 1 (by decide) fw_X3_move_fld19 rfl dX3_move_45 ?_
  refine g_aload_n C dX3_move_48 1 rfl ?_
  refine g_get C (v := .ref (ad 0)) fl_X3_move_X3 0 rfl rfl 0 (by decide) fw_X3_move_fld12 rfl dX3_move_49 ?_
  refine g_callVv C (c_X1_keep l D cI cO ha hb ad G g o z ho hz) gX3_move_X1_keep rfl ⟨rfl, rfl⟩ hd_X1_keep ⟨Nat.le_of_ble_eq_true rfl, Nat.le_of_ble_eq_true rfl⟩ [0, 1] rfl (fun _ _ => trivial) rfl (rest := []) rfl (Nat.le_of_ble_eq_true rfl) dX3_move_52 ⟨Nat.zero_le _, Nat.zero_le _⟩ 0 rfl rfl rfl (pre := ((wS0 xa ad ha ta) ++ (wT ta cI t (nI n)))) (post := []) (ws' := ((wS0 xa ad ha ta) ++ ((wT ta cI t (nI n)) ++ ((wHs ha hb cI cO (kG G o z g) (nI (kO o z)) (nI (kM z + 1))) ++ (wB ad cI g))))) rfl rfl ?_
  refine g_aload_n C dX3_move_55 1 rfl ?_
  refine g_get C (v := .ref (ad 0)) fl_X3_move_X3 0 rfl rfl 0 (by decide) fw_X3_move_fld12 rfl dX3_move_56 ?_
  refine g_iload_n C dX3_move_59 2 rfl ?_
  refine g_iload_n C dX3_move_60 3 rfl ?_
  refine g_iload_n C dX3_move_61 4 rfl ?_
  refine g_iload C dX3_move_62 0 rfl ?_
  refine g_callVv C (c_X0_place l D cI cO ad g r hr f q9 (xMb g r f q9)) gX3_move_X0_place rfl ⟨rfl, rfl⟩ hd_X0_place ⟨Nat.le_of_ble_eq_true rfl, Nat.le_of_ble_eq_true rfl⟩ [0, 1] rfl (fun _ _ => trivial) rfl (rest := []) rfl (Nat.le_of_ble_eq_true rfl) dX3_move_64 ⟨Nat.zero_le _, Nat.zero_le _⟩ 0 rfl rfl rfl (pre := ((wS0 xa ad ha ta) ++ ((wT ta cI t (nI n)) ++ (wHs ha hb cI cO (kG G o z g) (nI (kO o z)) (nI (kM z + 1)))))) (post := []) (ws' := ((wS0 xa ad ha ta) ++ ((wT ta cI t (nI n)) ++ ((wHs ha hb cI cO (kG G o z g) (nI (kO o z)) (nI (kM z + 1))) ++ (wB ad cI (xPl g r f q9 (xMb g r f q9))))))) rfl rfl ?_
  refine g_iload C dX3_move_67 0 rfl ?_
  exact g_iret C hret hlk dX3_move_69 rfl rfl
theorem fw_X3_stick_fld19 : Cond.fieldLink RX3 19 "StuckRods" "history" "LStuckRods$History;" ∈ wsX3_stick := (List.mem_cons_of_mem _ (List.mem_append_left _ (List.mem_append_left _ (List.mem_append_left _ (List.mem_append_left _ (List.mem_append_left _ (List.mem_append_left _ (List.mem_of_getElem? (i := 0) rfl))))))))
theorem fl_X3_stick_X3 : ∀ w ∈ wsX30, w ∈ wsX3_stick := fun _ h => List.mem_cons_of_mem _ (List.mem_append_left _ (List.mem_append_left _ (List.mem_append_left _ (List.mem_append_left _ (List.mem_append_right _ h)))))
theorem fw_X3_stick_fld12 : Cond.fieldLink RX3 12 "StuckRods" "board" "LStuckRods$Board;" ∈ wsX3_stick := (List.mem_cons_of_mem _ (List.mem_append_left _ (List.mem_append_left _ (List.mem_append_left _ (List.mem_append_left _ (List.mem_append_left _ (List.mem_append_left _ (List.mem_of_getElem? (i := 1) rfl))))))))
theorem fw_X3_stick_fld57 : Cond.fieldLink RX3 57 "StuckRods$Board" "stuck" "[I" ∈ wsX3_stick := (List.mem_cons_of_mem _ (List.mem_append_left _ (List.mem_append_left _ (List.mem_append_left _ (List.mem_append_left _ (List.mem_append_left _ (List.mem_append_left _ (List.mem_of_getElem? (i := 2) rfl))))))))
theorem fl_X3_stick_X0 : ∀ w ∈ wsX00, w ∈ wsX3_stick := fun _ h => List.mem_cons_of_mem _ (List.mem_append_left _ (List.mem_append_left _ (List.mem_append_left _ (List.mem_append_right _ h))))
abbrev rmX3_stick : Room := { frames := 2, cells := 0, slots := 0, locals := 43 }
set_option maxHeartbeats 1000000 in
set_option maxRecDepth 100000 in
theorem c_X3_stick (l : Launch) (D : va_G) (cI cO : ClassId) (xa : Nat) (ta ha : Nat → Nat) (hb : Nat → Nat → Nat) (ad : Nat → Nat) (t : Nat → Int32) (n : Nat) (G : Nat → Nat → Int32) (g : Nat → Int32) (o z : Nat) (hn : n ≤ 60) (ho : o < 6) (hz : z ≤ 6) (r : Nat) (hr : r < 9) (w9 : Int32) (h1 : ¬ w9 < 0) (h2 : w9 ≤ 3) : cR (fun _ => True) l yX3_stick wsX3_stick rmX3_stick D vwCl (tyA cI cO) [.ref xa, .int (nI r), .int w9] ((wS0 xa ad ha ta) ++ ((wT ta cI t (nI n)) ++ ((wHs ha hb cI cO G (nI o) (nI z)) ++ (wB ad cI g)))) (some (.int (g (6 * r + 4)))) ((wS0 xa ad ha ta) ++ ((wT ta cI t (nI n)) ++ ((wHs ha hb cI cO (kG G o z g) (nI (kO o z)) (nI (kM z + 1))) ++ (wB ad cI (upd g (6 * r + 4) w9))))) := by
  refine cR_of (cc := cX3_stick) (maxL := 4) (ret := (some .int)) (by decide) rfl (Nat.le_of_ble_eq_true rfl) ?_
  intro p e s m below meth c A C hret hlk hnm hF
  refine g_lv [0, 1, 2] (lv' := [(0, .ref xa), (1, .int (nI r)), (2, .int w9)]) rfl ?_
  refine g_iload_n C dX3_stick_0 1 rfl ?_
  refine g_callSv C (c_X3_checkRod l D cI cO r hr) gX3_stick_X3_checkRod rfl ⟨rfl, rfl⟩ hd_X3_checkRod ⟨Nat.le_of_ble_eq_true rfl, Nat.le_of_ble_eq_true rfl⟩ [0, 1] rfl (fun _ _ => trivial) rfl (rest := []) rfl (Nat.le_of_ble_eq_true rfl) dX3_stick_1 ⟨Nat.zero_le _, Nat.zero_le _⟩ (pre := []) (post := ((wS0 xa ad ha ta) ++ ((wT ta cI t (nI n)) ++ ((wHs ha hb cI cO G (nI o) (nI z)) ++ (wB ad cI g))))) (ws' := ((wS0 xa ad ha ta) ++ ((wT ta cI t (nI n)) ++ ((wHs ha hb cI cO G (nI o) (nI z)) ++ (wB ad cI g))))) rfl rfl ?_
  refine g_iload_n C dX3_stick_4 2 rfl ?_
  refine g_iconst C (v := 0) dX3_stick_5 ci_0 ?_
  refine g_iconst C (v := 3) dX3_stick_6 ci_3 ?_
  refine g_callSv C (c_X3_checkRange l D cI cO w9 0 3 h1 h2) gX3_stick_X3_checkRange rfl ⟨rfl, rfl⟩ hd_X3_checkRange ⟨Nat.le_of_ble_eq_true rfl, Nat.le_of_ble_eq_true rfl⟩ [0, 1] rfl (fun _ _ => trivial) rfl (rest := []) rfl (Nat.le_of_ble_eq_true rfl) dX3_stick_7 ⟨Nat.zero_le _, Nat.zero_le _⟩ (pre := []) (post := ((wS0 xa ad ha ta) ++ ((wT ta cI t (nI n)) ++ ((wHs ha hb cI cO G (nI o) (nI z)) ++ (wB ad cI g))))) (ws' := ((wS0 xa ad ha ta) ++ ((wT ta cI t (nI n)) ++ ((wHs ha hb cI cO G (nI o) (nI z)) ++ (wB ad cI g))))) rfl rfl ?_
  refine g_aload_n C dX3_stick_10 0 rfl ?_
  refine g_get C (v := .ref (ha 0)) fl_X3_stick_X3 0 rfl rfl 1 (by decide) fw_X3_stick_fld19 rfl dX3_stick_11 ?_
  refine g_aload_n C dX3_stick_14 0 rfl ?_
  refine g_get C (v := .ref (ad 0)) fl_X3_stick_X3 0 rfl rfl 0 (by decide) fw_X3_stick_fld12 rfl dX3_stick_15 ?_
  refine g_callVv C (c_X1_keep l D cI cO ha hb ad G g o z ho hz) gX3_stick_X1_keep rfl ⟨rfl, rfl⟩ hd_X1_keep ⟨Nat.le_of_ble_eq_true rfl, Nat.le_of_ble_eq_true rfl⟩ [0, 1] rfl (fun _ _ => trivial) rfl (rest := []) rfl (Nat.le_of_ble_eq_true rfl) dX3_stick_18 ⟨Nat.zero_le _, Nat.zero_le _⟩ 0 rfl rfl rfl (pre := ((wS0 xa ad ha ta) ++ (wT ta cI t (nI n)))) (post := []) (ws' := ((wS0 xa ad ha ta) ++ ((wT ta cI t (nI n)) ++ ((wHs ha hb cI cO (kG G o z g) (nI (kO o z)) (nI (kM z + 1))) ++ (wB ad cI g))))) rfl rfl ?_
  refine g_aload_n C dX3_stick_21 0 rfl ?_
  refine g_get C (v := .ref (ad 0)) fl_X3_stick_X3 0 rfl rfl 0 (by decide) fw_X3_stick_fld12 rfl dX3_stick_22 ?_
  refine g_get C (v := .ref (ad 3)) fl_X3_stick_X0 47 rfl rfl 2 (by decide) fw_X3_stick_fld57 rfl dX3_stick_25 ?_
  refine g_iload_n C dX3_stick_28 1 rfl ?_
  refine g_iald C (x := g (6 * r + 4)) 50 0 rfl rfl r rfl hr (by decide) rfl dX3_stick_29 ?_
  refine g_istore_n C (lv' := [(3, .int (g (6 * r + 4))), (0, .ref xa), (1, .int (nI r)), (2, .int w9)]) dX3_stick_30 rfl (by decide) rfl ?_
  refine g_aload_n C dX3_stick_31 1 rfl ?_
  refine g_get C (v := .ref (ad 0)) fl_X3_stick_X3 0 rfl rfl 0 (by decide) fw_X3_stick_fld12 rfl dX3_stick_32 ?_
  refine g_get C (v := .ref (ad 3)) fl_X3_stick_X0 47 rfl rfl 2 (by decide) fw_X3_stick_fld57 rfl dX3_stick_35 ?_
  refine g_iload_n C dX3_stick_38 2 rfl ?_
  refine g_iload_n C dX3_stick_39 3 rfl ?_
  refine g_iast C (ws' := ((wS0 xa ad ha ta) ++ ((wT ta cI t (nI n)) ++ ((wHs ha hb cI cO (kG G o z g) (nI (kO o z)) (nI (kM z + 1))) ++ (wB ad cI (upd g (6 * r + 4) w9)))))) 50 0 rfl rfl r rfl hr (by decide) dX3_stick_40 (ws_setr (q1 := 49) rfl (ws_setr (q1 := 47) rfl (ws_setr (q1 := 3) rfl (wB_3 ad cI g r w9)))) ?_
  refine g_iload_n C dX3_stick_41 0 rfl ?_
  exact g_iret C hret hlk dX3_stick_42 rfl rfl
theorem fw_X3_set_fld19 : Cond.fieldLink RX3 19 "StuckRods" "history" "LStuckRods$History;" ∈ wsX3_set := (List.mem_cons_of_mem _ (List.mem_append_left _ (List.mem_append_left _ (List.mem_append_left _ (List.mem_append_left _ (List.mem_append_left _ (List.mem_of_getElem? (i := 0) rfl)))))))
theorem fl_X3_set_X3 : ∀ w ∈ wsX30, w ∈ wsX3_set := fun _ h => List.mem_cons_of_mem _ (List.mem_append_left _ (List.mem_append_left _ (List.mem_append_left _ (List.mem_append_right _ h))))
theorem fw_X3_set_fld12 : Cond.fieldLink RX3 12 "StuckRods" "board" "LStuckRods$Board;" ∈ wsX3_set := (List.mem_cons_of_mem _ (List.mem_append_left _ (List.mem_append_left _ (List.mem_append_left _ (List.mem_append_left _ (List.mem_append_left _ (List.mem_of_getElem? (i := 1) rfl)))))))
theorem fw_X3_set_fld61 : Cond.fieldLink RX3 61 "StuckRods$Board" "setting" "I" ∈ wsX3_set := (List.mem_cons_of_mem _ (List.mem_append_left _ (List.mem_append_left _ (List.mem_append_left _ (List.mem_append_left _ (List.mem_append_left _ (List.mem_of_getElem? (i := 2) rfl)))))))
theorem fl_X3_set_X0 : ∀ w ∈ wsX00, w ∈ wsX3_set := fun _ h => List.mem_cons_of_mem _ (List.mem_append_left _ (List.mem_append_left _ (List.mem_append_right _ h)))
abbrev rmX3_set : Room := { frames := 2, cells := 0, slots := 0, locals := 43 }
set_option maxHeartbeats 1000000 in
set_option maxRecDepth 100000 in
theorem c_X3_set (l : Launch) (D : va_G) (cI cO : ClassId) (xa : Nat) (ta ha : Nat → Nat) (hb : Nat → Nat → Nat) (ad : Nat → Nat) (t : Nat → Int32) (n : Nat) (G : Nat → Nat → Int32) (g : Nat → Int32) (o z : Nat) (hn : n ≤ 60) (ho : o < 6) (hz : z ≤ 6) (v : Int32) (h1 : ¬ v < 0) (h2 : v ≤ 9) : cR (fun _ => True) l yX3_set wsX3_set rmX3_set D vwCl (tyA cI cO) [.ref xa, .int v] ((wS0 xa ad ha ta) ++ ((wT ta cI t (nI n)) ++ ((wHs ha hb cI cO G (nI o) (nI z)) ++ (wB ad cI g)))) (some (.int (g 0))) ((wS0 xa ad ha ta) ++ ((wT ta cI t (nI n)) ++ ((wHs ha hb cI cO (kG G o z g) (nI (kO o z)) (nI (kM z + 1))) ++ (wB ad cI (upd g 0 v))))) := by
  refine cR_of (cc := cX3_set) (maxL := 3) (ret := (some .int)) (by decide) rfl (Nat.le_of_ble_eq_true rfl) ?_
  intro p e s m below meth c A C hret hlk hnm hF
  refine g_lv [0, 1] (lv' := [(0, .ref xa), (1, .int v)]) rfl ?_
  refine g_iload_n C dX3_set_0 1 rfl ?_
  refine g_iconst C (v := 0) dX3_set_1 ci_0 ?_
  refine g_bipush C (v := 9) dX3_set_2 cb_9 ?_
  refine g_callSv C (c_X3_checkRange l D cI cO v 0 9 h1 h2) gX3_set_X3_checkRange rfl ⟨rfl, rfl⟩ hd_X3_checkRange ⟨Nat.le_of_ble_eq_true rfl, Nat.le_of_ble_eq_true rfl⟩ [0, 1] rfl (fun _ _ => trivial) rfl (rest := []) rfl (Nat.le_of_ble_eq_true rfl) dX3_set_4 ⟨Nat.zero_le _, Nat.zero_le _⟩ (pre := []) (post := ((wS0 xa ad ha ta) ++ ((wT ta cI t (nI n)) ++ ((wHs ha hb cI cO G (nI o) (nI z)) ++ (wB ad cI g))))) (ws' := ((wS0 xa ad ha ta) ++ ((wT ta cI t (nI n)) ++ ((wHs ha hb cI cO G (nI o) (nI z)) ++ (wB ad cI g))))) rfl rfl ?_
  refine g_aload_n C dX3_set_7 0 rfl ?_
  refine g_get C (v := .ref (ha 0)) fl_X3_set_X3 0 rfl rfl 1 (by decide) fw_X3_set_fld19 rfl dX3_set_8 ?_
  refine g_aload_n C dX3_set_11 0 rfl ?_
  refine g_get C (v := .ref (ad 0)) fl_X3_set_X3 0 rfl rfl 0 (by decide) fw_X3_set_fld12 rfl dX3_set_12 ?_
  refine g_callVv C (c_X1_keep l D cI cO ha hb ad G g o z ho hz) gX3_set_X1_keep rfl ⟨rfl, rfl⟩ hd_X1_keep ⟨Nat.le_of_ble_eq_true rfl, Nat.le_of_ble_eq_true rfl⟩ [0, 1] rfl (fun _ _ => trivial) rfl (rest := []) rfl (Nat.le_of_ble_eq_true rfl) dX3_set_15 ⟨Nat.zero_le _, Nat.zero_le _⟩ 0 rfl rfl rfl (pre := ((wS0 xa ad ha ta) ++ (wT ta cI t (nI n)))) (post := []) (ws' := ((wS0 xa ad ha ta) ++ ((wT ta cI t (nI n)) ++ ((wHs ha hb cI cO (kG G o z g) (nI (kO o z)) (nI (kM z + 1))) ++ (wB ad cI g))))) rfl rfl ?_
  refine g_aload_n C dX3_set_18 0 rfl ?_
  refine g_get C (v := .ref (ad 0)) fl_X3_set_X3 0 rfl rfl 0 (by decide) fw_X3_set_fld12 rfl dX3_set_19 ?_
  refine g_get C (v := .int (g 0)) fl_X3_set_X0 47 rfl rfl 6 (by decide) fw_X3_set_fld61 rfl dX3_set_22 ?_
  refine g_istore_n C (lv' := [(2, .int (g 0)), (0, .ref xa), (1, .int v)]) dX3_set_25 rfl (by decide) rfl ?_
  refine g_aload_n C dX3_set_26 1 rfl ?_
  refine g_get C (v := .ref (ad 0)) fl_X3_set_X3 0 rfl rfl 0 (by decide) fw_X3_set_fld12 rfl dX3_set_27 ?_
  refine g_iload_n C dX3_set_30 2 rfl ?_
  refine g_put C (ws' := ((wS0 xa ad ha ta) ++ ((wT ta cI t (nI n)) ++ ((wHs ha hb cI cO (kG G o z g) (nI (kO o z)) (nI (kM z + 1))) ++ (wB ad cI (upd g 0 v)))))) fl_X3_set_X0 tyX0 tyX0_ok nmX0 47 rfl rfl 6 (by decide) fw_X3_set_fld61 rfl (tyX0_ok 6 (by decide)) rfl rfl (Nat.le_of_ble_eq_true rfl) dX3_set_31 (ws_setr (q1 := 46) rfl (ws_setr (q1 := 44) rfl (ws_setr (q1 := 0) rfl (wB_0 ad cI g v)))) ?_
  refine g_iload_n C dX3_set_34 0 rfl ?_
  exact g_iret C hret hlk dX3_set_35 rfl rfl
theorem fw_X3_changeOrThrow_fld12 : Cond.fieldLink RX3 12 "StuckRods" "board" "LStuckRods$Board;" ∈ wsX3_changeOrThrow := (List.mem_cons_of_mem _ (List.mem_append_left _ (List.mem_append_left _ (List.mem_append_left _ (List.mem_append_left _ (List.mem_append_left _ (List.mem_of_getElem? (i := 2) rfl)))))))
theorem fl_X3_changeOrThrow_X3 : ∀ w ∈ wsX30, w ∈ wsX3_changeOrThrow := fun _ h => List.mem_cons_of_mem _ (List.mem_append_left _ (List.mem_append_left _ (List.mem_append_left _ (List.mem_append_right _ h))))
theorem fw_X3_changeOrThrow_fld19 : Cond.fieldLink RX3 19 "StuckRods" "history" "LStuckRods$History;" ∈ wsX3_changeOrThrow := (List.mem_cons_of_mem _ (List.mem_append_left _ (List.mem_append_left _ (List.mem_append_left _ (List.mem_append_left _ (List.mem_append_left _ (List.mem_of_getElem? (i := 3) rfl)))))))
abbrev rmX3_changeOrThrow : Room := { frames := 5, cells := 0, slots := 0, locals := 125 }
set_option maxHeartbeats 1000000 in
set_option maxRecDepth 100000 in
theorem c_X3_changeOrThrow (l : Launch) (D : va_G) (cI cO : ClassId) (xa : Nat) (ta ha : Nat → Nat) (hb : Nat → Nat → Nat) (ad : Nat → Nat) (t : Nat → Int32) (n : Nat) (G : Nat → Nat → Int32) (g : Nat → Int32) (o z : Nat) (hn : n ≤ 60) (ho : o < 6) (hz : z ≤ 6) (r : Nat) (hr : r < 9) (n9 : Int32) (hm : ¬ (xCh g r n9 0).1 = -1) : cR (fun _ => True) l yX3_changeOrThrow wsX3_changeOrThrow rmX3_changeOrThrow D vwCl (tyA cI cO) [.ref xa, .int (nI r), .int n9] ((wS0 xa ad ha ta) ++ ((wT ta cI t (nI n)) ++ ((wHs ha hb cI cO G (nI o) (nI z)) ++ (wB ad cI g)))) (some (.int ((xCh g r n9 1).1))) ((wS0 xa ad ha ta) ++ ((wT ta cI t (nI n)) ++ ((wHs ha hb cI cO (kG G o z g) (nI (kO o z)) (nI (kM z + 1))) ++ (wB ad cI ((xCh g r n9 1).2))))) := by
  refine cR_of (cc := cX3_changeOrThrow) (maxL := 3) (ret := (some .int)) (by decide) rfl (Nat.le_of_ble_eq_true rfl) ?_
  intro p e s m below meth c A C hret hlk hnm hF
  refine g_lv [0, 1, 2] (lv' := [(0, .ref xa), (1, .int (nI r)), (2, .int n9)]) rfl ?_
  refine g_aload_n C dX3_changeOrThrow_0 0 rfl ?_
  refine g_get C (v := .ref (ad 0)) fl_X3_changeOrThrow_X3 0 rfl rfl 0 (by decide) fw_X3_changeOrThrow_fld12 rfl dX3_changeOrThrow_1 ?_
  refine g_iload_n C dX3_changeOrThrow_4 1 rfl ?_
  refine g_iload_n C dX3_changeOrThrow_5 2 rfl ?_
  refine g_iconst C (v := 0) dX3_changeOrThrow_6 ci_0 ?_
  refine g_callVi C (c0_X0_change l D cI cO ad g r hr n9) gX3_changeOrThrow_X0_change rfl ⟨rfl, rfl⟩ hd_X0_change ⟨Nat.le_of_ble_eq_true rfl, Nat.le_of_ble_eq_true rfl⟩ [0, 1] rfl (fun _ _ => trivial) rfl (rest := []) rfl (Nat.le_of_ble_eq_true rfl) dX3_changeOrThrow_7 ⟨Nat.zero_le _, Nat.zero_le _⟩ 0 rfl rfl rfl (pre := ((wS0 xa ad ha ta) ++ ((wT ta cI t (nI n)) ++ (wHs ha hb cI cO G (nI o) (nI z))))) (post := []) (ws' := ((wS0 xa ad ha ta) ++ ((wT ta cI t (nI n)) ++ ((wHs ha hb cI cO G (nI o) (nI z)) ++ (wB ad cI g))))) rfl rfl ?_
  refine g_iconst C (v := -1) dX3_changeOrThrow_10 ci_m1 ?_
  refine g_icmp_ne C (tgt := 24) dX3_changeOrThrow_11 (by decide) (fun _ => ?_) (fun h11_1 => absurd h11_1 hm)
  refine g_aload_n C dX3_changeOrThrow_24 0 rfl ?_
  refine g_get C (v := .ref (ha 0)) fl_X3_changeOrThrow_X3 0 rfl rfl 1 (by decide) fw_X3_changeOrThrow_fld19 rfl dX3_changeOrThrow_25 ?_
  refine g_aload_n C dX3_changeOrThrow_28 0 rfl ?_
  refine g_get C (v := .ref (ad 0)) fl_X3_changeOrThrow_X3 0 rfl rfl 0 (by decide) fw_X3_changeOrThrow_fld12 rfl dX3_changeOrThrow_29 ?_
  refine g_callVv C (c_X1_keep l D cI cO ha hb ad G g o z ho hz) gX3_changeOrThrow_X1_keep rfl ⟨rfl, rfl⟩ hd_X1_keep ⟨Nat.le_of_ble_eq_true rfl, Nat.le_of_ble_eq_true rfl⟩ [0, 1] rfl (fun _ _ => trivial) rfl (rest := []) rfl (Nat.le_of_ble_eq_true rfl) dX3_changeOrThrow_32 ⟨Nat.zero_le _, Nat.zero_le _⟩ 0 rfl rfl rfl (pre := ((wS0 xa ad ha ta) ++ (wT ta cI t (nI n)))) (post := []) (ws' := ((wS0 xa ad ha ta) ++ ((wT ta cI t (nI n)) ++ ((wHs ha hb cI cO (kG G o z g) (nI (kO o z)) (nI (kM z + 1))) ++ (wB ad cI g))))) rfl rfl ?_
  refine g_aload_n C dX3_changeOrThrow_35 0 rfl ?_
  refine g_get C (v := .ref (ad 0)) fl_X3_changeOrThrow_X3 0 rfl rfl 0 (by decide) fw_X3_changeOrThrow_fld12 rfl dX3_changeOrThrow_36 ?_
  refine g_iload_n C dX3_changeOrThrow_39 1 rfl ?_
  refine g_iload_n C dX3_changeOrThrow_40 2 rfl ?_
  refine g_iconst C (v := 1) dX3_changeOrThrow_41 ci_1 ?_
  refine g_callVi C (c_X0_change l D cI cO ad g r hr n9 1) gX3_changeOrThrow_X0_change rfl ⟨rfl, rfl⟩ hd_X0_change ⟨Nat.le_of_ble_eq_true rfl, Nat.le_of_ble_eq_true rfl⟩ [0, 1] rfl (fun _ _ => trivial) rfl (rest := []) rfl (Nat.le_of_ble_eq_true rfl) dX3_changeOrThrow_42 ⟨Nat.zero_le _, Nat.zero_le _⟩ 0 rfl rfl rfl (pre := ((wS0 xa ad ha ta) ++ ((wT ta cI t (nI n)) ++ (wHs ha hb cI cO (kG G o z g) (nI (kO o z)) (nI (kM z + 1)))))) (post := []) (ws' := ((wS0 xa ad ha ta) ++ ((wT ta cI t (nI n)) ++ ((wHs ha hb cI cO (kG G o z g) (nI (kO o z)) (nI (kM z + 1))) ++ (wB ad cI ((xCh g r n9 1).2)))))) rfl rfl ?_
  exact g_iret C hret hlk dX3_changeOrThrow_45 rfl rfl
theorem hd_X3_changeOrThrow : yX3_changeOrThrow.cls = RX3 ∧ yX3_changeOrThrow.cls ≠ "java/lang/invoke/MethodHandle" ∧ yX3_changeOrThrow.cls ≠ "java/lang/invoke/VarHandle" ∧ (parseMethodDescriptor yX3_changeOrThrow.desc).map (fun d => d.parameters.length) = some 2 := by decide +kernel
abbrev rmX3_add : Room := { frames := 6, cells := 0, slots := 0, locals := 147 }
set_option maxHeartbeats 1000000 in
set_option maxRecDepth 100000 in
theorem c_X3_add (l : Launch) (D : va_G) (cI cO : ClassId) (xa : Nat) (ta ha : Nat → Nat) (hb : Nat → Nat → Nat) (ad : Nat → Nat) (t : Nat → Int32) (n : Nat) (G : Nat → Nat → Int32) (g : Nat → Int32) (o z : Nat) (hn : n ≤ 60) (ho : o < 6) (hz : z ≤ 6) (r : Nat) (hr : r < 9) (n9 : Int32) (h1 : ¬ n9 < 1) (h2 : n9 ≤ 9) (hm : ¬ (xCh g r (n9) 0).1 = -1) : cR (fun _ => True) l yX3_add wsX3_add rmX3_add D vwCl (tyA cI cO) [.ref xa, .int (nI r), .int n9] ((wS0 xa ad ha ta) ++ ((wT ta cI t (nI n)) ++ ((wHs ha hb cI cO G (nI o) (nI z)) ++ (wB ad cI g)))) (some (.int ((xCh g r (n9) 1).1))) ((wS0 xa ad ha ta) ++ ((wT ta cI t (nI n)) ++ ((wHs ha hb cI cO (kG G o z g) (nI (kO o z)) (nI (kM z + 1))) ++ (wB ad cI ((xCh g r (n9) 1).2))))) := by
  refine cR_of (cc := cX3_add) (maxL := 3) (ret := (some .int)) (by decide) rfl (Nat.le_of_ble_eq_true rfl) ?_
  intro p e s m below meth c A C hret hlk hnm hF
  refine g_lv [0, 1, 2] (lv' := [(0, .ref xa), (1, .int (nI r)), (2, .int n9)]) rfl ?_
  refine g_iload_n C dX3_add_0 1 rfl ?_
  refine g_callSv C (c_X3_checkRod l D cI cO r hr) gX3_add_X3_checkRod rfl ⟨rfl, rfl⟩ hd_X3_checkRod ⟨Nat.le_of_ble_eq_true rfl, Nat.le_of_ble_eq_true rfl⟩ [0, 1] rfl (fun _ _ => trivial) rfl (rest := []) rfl (Nat.le_of_ble_eq_true rfl) dX3_add_1 ⟨Nat.zero_le _, Nat.zero_le _⟩ (pre := []) (post := ((wS0 xa ad ha ta) ++ ((wT ta cI t (nI n)) ++ ((wHs ha hb cI cO G (nI o) (nI z)) ++ (wB ad cI g))))) (ws' := ((wS0 xa ad ha ta) ++ ((wT ta cI t (nI n)) ++ ((wHs ha hb cI cO G (nI o) (nI z)) ++ (wB ad cI g))))) rfl rfl ?_
  refine g_iload_n C dX3_add_4 2 rfl ?_
  refine g_iconst C (v := 1) dX3_add_5 ci_1 ?_
  refine g_bipush C (v := 9) dX3_add_6 cb_9 ?_
  refine g_callSv C (c_X3_checkRange l D cI cO n9 1 9 h1 h2) gX3_add_X3_checkRange rfl ⟨rfl, rfl⟩ hd_X3_checkRange ⟨Nat.le_of_ble_eq_true rfl, Nat.le_of_ble_eq_true rfl⟩ [0, 1] rfl (fun _ _ => trivial) rfl (rest := []) rfl (Nat.le_of_ble_eq_true rfl) dX3_add_8 ⟨Nat.zero_le _, Nat.zero_le _⟩ (pre := []) (post := ((wS0 xa ad ha ta) ++ ((wT ta cI t (nI n)) ++ ((wHs ha hb cI cO G (nI o) (nI z)) ++ (wB ad cI g))))) (ws' := ((wS0 xa ad ha ta) ++ ((wT ta cI t (nI n)) ++ ((wHs ha hb cI cO G (nI o) (nI z)) ++ (wB ad cI g))))) rfl rfl ?_
  refine g_aload_n C dX3_add_11 0 rfl ?_
  refine g_iload_n C dX3_add_12 1 rfl ?_
  refine g_iload_n C dX3_add_13 2 rfl ?_
  refine g_callVi C (c_X3_changeOrThrow l D cI cO xa ta ha hb ad t n G g o z hn ho hz r hr n9 hm) gX3_add_X3_changeOrThrow rfl ⟨rfl, rfl⟩ hd_X3_changeOrThrow ⟨Nat.le_of_ble_eq_true rfl, Nat.le_of_ble_eq_true rfl⟩ [0, 1] rfl (fun _ _ => trivial) rfl (rest := []) rfl (Nat.le_of_ble_eq_true rfl) dX3_add_14 ⟨Nat.zero_le _, Nat.zero_le _⟩ 0 rfl rfl rfl (pre := []) (post := []) (ws' := ((wS0 xa ad ha ta) ++ ((wT ta cI t (nI n)) ++ ((wHs ha hb cI cO (kG G o z g) (nI (kO o z)) (nI (kM z + 1))) ++ (wB ad cI ((xCh g r n9 1).2)))))) rfl rfl ?_
  exact g_iret C hret hlk dX3_add_17 rfl rfl
abbrev rmX3_less : Room := { frames := 6, cells := 0, slots := 0, locals := 147 }
set_option maxHeartbeats 1000000 in
set_option maxRecDepth 100000 in
theorem c_X3_less (l : Launch) (D : va_G) (cI cO : ClassId) (xa : Nat) (ta ha : Nat → Nat) (hb : Nat → Nat → Nat) (ad : Nat → Nat) (t : Nat → Int32) (n : Nat) (G : Nat → Nat → Int32) (g : Nat → Int32) (o z : Nat) (hn : n ≤ 60) (ho : o < 6) (hz : z ≤ 6) (r : Nat) (hr : r < 9) (n9 : Int32) (h1 : ¬ n9 < 1) (h2 : n9 ≤ 9) (hm : ¬ (xCh g r (-n9) 0).1 = -1) : cR (fun _ => True) l yX3_less wsX3_less rmX3_less D vwCl (tyA cI cO) [.ref xa, .int (nI r), .int n9] ((wS0 xa ad ha ta) ++ ((wT ta cI t (nI n)) ++ ((wHs ha hb cI cO G (nI o) (nI z)) ++ (wB ad cI g)))) (some (.int ((xCh g r (-n9) 1).1))) ((wS0 xa ad ha ta) ++ ((wT ta cI t (nI n)) ++ ((wHs ha hb cI cO (kG G o z g) (nI (kO o z)) (nI (kM z + 1))) ++ (wB ad cI ((xCh g r (-n9) 1).2))))) := by
  refine cR_of (cc := cX3_less) (maxL := 3) (ret := (some .int)) (by decide) rfl (Nat.le_of_ble_eq_true rfl) ?_
  intro p e s m below meth c A C hret hlk hnm hF
  refine g_lv [0, 1, 2] (lv' := [(0, .ref xa), (1, .int (nI r)), (2, .int n9)]) rfl ?_
  refine g_iload_n C dX3_less_0 1 rfl ?_
  refine g_callSv C (c_X3_checkRod l D cI cO r hr) gX3_less_X3_checkRod rfl ⟨rfl, rfl⟩ hd_X3_checkRod ⟨Nat.le_of_ble_eq_true rfl, Nat.le_of_ble_eq_true rfl⟩ [0, 1] rfl (fun _ _ => trivial) rfl (rest := []) rfl (Nat.le_of_ble_eq_true rfl) dX3_less_1 ⟨Nat.zero_le _, Nat.zero_le _⟩ (pre := []) (post := ((wS0 xa ad ha ta) ++ ((wT ta cI t (nI n)) ++ ((wHs ha hb cI cO G (nI o) (nI z)) ++ (wB ad cI g))))) (ws' := ((wS0 xa ad ha ta) ++ ((wT ta cI t (nI n)) ++ ((wHs ha hb cI cO G (nI o) (nI z)) ++ (wB ad cI g))))) rfl rfl ?_
  refine g_iload_n C dX3_less_4 2 rfl ?_
  refine g_iconst C (v := 1) dX3_less_5 ci_1 ?_
  refine g_bipush C (v := 9) dX3_less_6 cb_9 ?_
  refine g_callSv C (c_X3_checkRange l D cI cO n9 1 9 h1 h2) gX3_less_X3_checkRange rfl ⟨rfl, rfl⟩ hd_X3_checkRange ⟨Nat.le_of_ble_eq_true rfl, Nat.le_of_ble_eq_true rfl⟩ [0, 1] rfl (fun _ _ => trivial) rfl (rest := []) rfl (Nat.le_of_ble_eq_true rfl) dX3_less_8 ⟨Nat.zero_le _, Nat.zero_le _⟩ (pre := []) (post := ((wS0 xa ad ha ta) ++ ((wT ta cI t (nI n)) ++ ((wHs ha hb cI cO G (nI o) (nI z)) ++ (wB ad cI g))))) (ws' := ((wS0 xa ad ha ta) ++ ((wT ta cI t (nI n)) ++ ((wHs ha hb cI cO G (nI o) (nI z)) ++ (wB ad cI g))))) rfl rfl ?_
  refine g_aload_n C dX3_less_11 0 rfl ?_
  refine g_iload_n C dX3_less_12 1 rfl ?_
  refine g_iload_n C dX3_less_13 2 rfl ?_
  refine g_ineg C (v := -n9) dX3_less_14 rfl ?_
  refine g_callVi C (c_X3_changeOrThrow l D cI cO xa ta ha hb ad t n G g o z hn ho hz r hr (-n9) hm) gX3_less_X3_changeOrThrow rfl ⟨rfl, rfl⟩ hd_X3_changeOrThrow ⟨Nat.le_of_ble_eq_true rfl, Nat.le_of_ble_eq_true rfl⟩ [0, 1] rfl (fun _ _ => trivial) rfl (rest := []) rfl (Nat.le_of_ble_eq_true rfl) dX3_less_15 ⟨Nat.zero_le _, Nat.zero_le _⟩ 0 rfl rfl rfl (pre := []) (post := []) (ws' := ((wS0 xa ad ha ta) ++ ((wT ta cI t (nI n)) ++ ((wHs ha hb cI cO (kG G o z g) (nI (kO o z)) (nI (kM z + 1))) ++ (wB ad cI ((xCh g r (-n9) 1).2)))))) rfl rfl ?_
  exact g_iret C hret hlk dX3_less_18 rfl rfl
theorem fw_X3_pay_fld12 : Cond.fieldLink RX3 12 "StuckRods" "board" "LStuckRods$Board;" ∈ wsX3_pay := (List.mem_cons_of_mem _ (List.mem_append_left _ (List.mem_append_left _ (List.mem_append_left _ (List.mem_append_left _ (List.mem_append_left _ (List.mem_append_left _ (List.mem_of_getElem? (i := 2) rfl))))))))
theorem fl_X3_pay_X3 : ∀ w ∈ wsX30, w ∈ wsX3_pay := fun _ h => List.mem_cons_of_mem _ (List.mem_append_left _ (List.mem_append_left _ (List.mem_append_left _ (List.mem_append_left _ (List.mem_append_right _ h)))))
theorem fw_X3_pay_fld69 : Cond.fieldLink RX3 69 "StuckRods$Board" "loan" "[I" ∈ wsX3_pay := (List.mem_cons_of_mem _ (List.mem_append_left _ (List.mem_append_left _ (List.mem_append_left _ (List.mem_append_left _ (List.mem_append_left _ (List.mem_append_left _ (List.mem_of_getElem? (i := 3) rfl))))))))
theorem fl_X3_pay_X0 : ∀ w ∈ wsX00, w ∈ wsX3_pay := fun _ h => List.mem_cons_of_mem _ (List.mem_append_left _ (List.mem_append_left _ (List.mem_append_left _ (List.mem_append_right _ h))))
theorem fw_X3_pay_fld19 : Cond.fieldLink RX3 19 "StuckRods" "history" "LStuckRods$History;" ∈ wsX3_pay := (List.mem_cons_of_mem _ (List.mem_append_left _ (List.mem_append_left _ (List.mem_append_left _ (List.mem_append_left _ (List.mem_append_left _ (List.mem_append_left _ (List.mem_of_getElem? (i := 4) rfl))))))))
theorem hd_X0_payIfPossible : yX0_payIfPossible.cls = RX0 ∧ yX0_payIfPossible.cls ≠ "java/lang/invoke/MethodHandle" ∧ yX0_payIfPossible.cls ≠ "java/lang/invoke/VarHandle" ∧ (parseMethodDescriptor yX0_payIfPossible.desc).map (fun d => d.parameters.length) = some 1 := by decide +kernel
abbrev rmX3_pay : Room := { frames := 6, cells := 0, slots := 0, locals := 147 }
set_option maxHeartbeats 1000000 in
set_option maxRecDepth 100000 in
theorem c_X3_pay (l : Launch) (D : va_G) (cI cO : ClassId) (xa : Nat) (ta ha : Nat → Nat) (hb : Nat → Nat → Nat) (ad : Nat → Nat) (t : Nat → Int32) (n : Nat) (G : Nat → Nat → Int32) (g : Nat → Int32) (o z : Nat) (hn : n ≤ 60) (ho : o < 6) (hz : z ≤ 6) (r : Nat) (hr : r < 9) (hm : ¬ (xCh g r (g (6 * r + 3)) 0).1 = -1) : cR (fun _ => True) l yX3_pay wsX3_pay rmX3_pay D vwCl (tyA cI cO) [.ref xa, .int (nI r)] ((wS0 xa ad ha ta) ++ ((wT ta cI t (nI n)) ++ ((wHs ha hb cI cO G (nI o) (nI z)) ++ (wB ad cI g)))) (some (.int ((xPa g r).1))) ((wS0 xa ad ha ta) ++ ((wT ta cI t (nI n)) ++ ((wHs ha hb cI cO (kG G o z g) (nI (kO o z)) (nI (kM z + 1))) ++ (wB ad cI ((xPa g r).2))))) := by
  refine cR_of (cc := cX3_pay) (maxL := 2) (ret := (some .int)) (by decide) rfl (Nat.le_of_ble_eq_true rfl) ?_
  intro p e s m below meth c A C hret hlk hnm hF
  refine g_lv [0, 1] (lv' := [(0, .ref xa), (1, .int (nI r))]) rfl ?_
  refine g_iload_n C dX3_pay_0 1 rfl ?_
  refine g_callSv C (c_X3_checkRod l D cI cO r hr) gX3_pay_X3_checkRod rfl ⟨rfl, rfl⟩ hd_X3_checkRod ⟨Nat.le_of_ble_eq_true rfl, Nat.le_of_ble_eq_true rfl⟩ [0, 1] rfl (fun _ _ => trivial) rfl (rest := []) rfl (Nat.le_of_ble_eq_true rfl) dX3_pay_1 ⟨Nat.zero_le _, Nat.zero_le _⟩ (pre := []) (post := ((wS0 xa ad ha ta) ++ ((wT ta cI t (nI n)) ++ ((wHs ha hb cI cO G (nI o) (nI z)) ++ (wB ad cI g))))) (ws' := ((wS0 xa ad ha ta) ++ ((wT ta cI t (nI n)) ++ ((wHs ha hb cI cO G (nI o) (nI z)) ++ (wB ad cI g))))) rfl rfl ?_
  refine g_aload_n C dX3_pay_4 0 rfl ?_
  refine g_get C (v := .ref (ad 0)) fl_X3_pay_X3 0 rfl rfl 0 (by decide) fw_X3_pay_fld12 rfl dX3_pay_5 ?_
  refine g_iload_n C dX3_pay_8 1 rfl ?_
  refine g_aload_n C dX3_pay_9 0 rfl ?_
  refine g_get C (v := .ref (ad 0)) fl_X3_pay_X3 0 rfl rfl 0 (by decide) fw_X3_pay_fld12 rfl dX3_pay_10 ?_
  refine g_get C (v := .ref (ad 4)) fl_X3_pay_X0 47 rfl rfl 3 (by decide) fw_X3_pay_fld69 rfl dX3_pay_13 ?_
  refine g_iload_n C dX3_pay_16 1 rfl ?_
  refine g_iald C (x := g (6 * r + 3)) 51 0 rfl rfl r rfl hr (by decide) rfl dX3_pay_17 ?_
  refine g_iconst C (v := 0) dX3_pay_18 ci_0 ?_
  refine g_callVi C (c0_X0_change l D cI cO ad g r hr (g (6 * r + 3))) gX3_pay_X0_change rfl ⟨rfl, rfl⟩ hd_X0_change ⟨Nat.le_of_ble_eq_true rfl, Nat.le_of_ble_eq_true rfl⟩ [0, 1] rfl (fun _ _ => trivial) rfl (rest := []) rfl (Nat.le_of_ble_eq_true rfl) dX3_pay_19 ⟨Nat.zero_le _, Nat.zero_le _⟩ 0 rfl rfl rfl (pre := ((wS0 xa ad ha ta) ++ ((wT ta cI t (nI n)) ++ (wHs ha hb cI cO G (nI o) (nI z))))) (post := []) (ws' := ((wS0 xa ad ha ta) ++ ((wT ta cI t (nI n)) ++ ((wHs ha hb cI cO G (nI o) (nI z)) ++ (wB ad cI g))))) rfl rfl ?_
  refine g_iconst C (v := -1) dX3_pay_22 ci_m1 ?_
  refine g_icmp_ne C (tgt := 36) dX3_pay_23 (by decide) (fun _ => ?_) (fun h23_1 => absurd h23_1 hm)
  refine g_aload_n C dX3_pay_36 0 rfl ?_
  refine g_get C (v := .ref (ha 0)) fl_X3_pay_X3 0 rfl rfl 1 (by decide) fw_X3_pay_fld19 rfl dX3_pay_37 ?_
  refine g_aload_n C dX3_pay_40 0 rfl ?_
  refine g_get C (v := .ref (ad 0)) fl_X3_pay_X3 0 rfl rfl 0 (by decide) fw_X3_pay_fld12 rfl dX3_pay_41 ?_
  refine g_callVv C (c_X1_keep l D cI cO ha hb ad G g o z ho hz) gX3_pay_X1_keep rfl ⟨rfl, rfl⟩ hd_X1_keep ⟨Nat.le_of_ble_eq_true rfl, Nat.le_of_ble_eq_true rfl⟩ [0, 1] rfl (fun _ _ => trivial) rfl (rest := []) rfl (Nat.le_of_ble_eq_true rfl) dX3_pay_44 ⟨Nat.zero_le _, Nat.zero_le _⟩ 0 rfl rfl rfl (pre := ((wS0 xa ad ha ta) ++ (wT ta cI t (nI n)))) (post := []) (ws' := ((wS0 xa ad ha ta) ++ ((wT ta cI t (nI n)) ++ ((wHs ha hb cI cO (kG G o z g) (nI (kO o z)) (nI (kM z + 1))) ++ (wB ad cI g))))) rfl rfl ?_
  refine g_aload_n C dX3_pay_47 0 rfl ?_
  refine g_get C (v := .ref (ad 0)) fl_X3_pay_X3 0 rfl rfl 0 (by decide) fw_X3_pay_fld12 rfl dX3_pay_48 ?_
  refine g_iload_n C dX3_pay_51 1 rfl ?_
  refine g_callVi C (c_X0_payIfPossible l D cI cO ad g r hr) gX3_pay_X0_payIfPossible rfl ⟨rfl, rfl⟩ hd_X0_payIfPossible ⟨Nat.le_of_ble_eq_true rfl, Nat.le_of_ble_eq_true rfl⟩ [0, 1] rfl (fun _ _ => trivial) rfl (rest := []) rfl (Nat.le_of_ble_eq_true rfl) dX3_pay_52 ⟨Nat.zero_le _, Nat.zero_le _⟩ 0 rfl rfl rfl (pre := ((wS0 xa ad ha ta) ++ ((wT ta cI t (nI n)) ++ (wHs ha hb cI cO (kG G o z g) (nI (kO o z)) (nI (kM z + 1)))))) (post := []) (ws' := ((wS0 xa ad ha ta) ++ ((wT ta cI t (nI n)) ++ ((wHs ha hb cI cO (kG G o z g) (nI (kO o z)) (nI (kM z + 1))) ++ (wB ad cI ((xPa g r).2)))))) rfl rfl ?_
  exact g_iret C hret hlk dX3_pay_55 rfl rfl
theorem fw_X3_undo_fld19 : Cond.fieldLink RX3 19 "StuckRods" "history" "LStuckRods$History;" ∈ wsX3_undo := (List.mem_cons_of_mem _ (List.mem_append_left _ (List.mem_append_left _ (List.mem_append_left _ (List.mem_append_left _ (List.mem_append_left _ (List.mem_of_getElem? (i := 2) rfl)))))))
theorem fl_X3_undo_X3 : ∀ w ∈ wsX30, w ∈ wsX3_undo := fun _ h => List.mem_cons_of_mem _ (List.mem_append_left _ (List.mem_append_left _ (List.mem_append_left _ (List.mem_append_right _ h))))
theorem fw_X3_undo_fld116 : Cond.fieldLink RX3 116 "StuckRods$History" "size" "I" ∈ wsX3_undo := (List.mem_cons_of_mem _ (List.mem_append_left _ (List.mem_append_left _ (List.mem_append_left _ (List.mem_append_left _ (List.mem_append_left _ (List.mem_of_getElem? (i := 3) rfl)))))))
theorem fl_X3_undo_X1 : ∀ w ∈ wsX10, w ∈ wsX3_undo := fun _ h => List.mem_cons_of_mem _ (List.mem_append_left _ (List.mem_append_left _ (List.mem_append_right _ h)))
theorem fw_X3_undo_fld12 : Cond.fieldLink RX3 12 "StuckRods" "board" "LStuckRods$Board;" ∈ wsX3_undo := (List.mem_cons_of_mem _ (List.mem_append_left _ (List.mem_append_left _ (List.mem_append_left _ (List.mem_append_left _ (List.mem_append_left _ (List.mem_of_getElem? (i := 4) rfl)))))))
theorem hd_X1_restore : yX1_restore.cls = RX1 ∧ yX1_restore.cls ≠ "java/lang/invoke/MethodHandle" ∧ yX1_restore.cls ≠ "java/lang/invoke/VarHandle" ∧ (parseMethodDescriptor yX1_restore.desc).map (fun d => d.parameters.length) = some 1 := by decide +kernel
abbrev rmX3_undo : Room := { frames := 2, cells := 0, slots := 0, locals := 43 }
set_option maxHeartbeats 1000000 in
set_option maxRecDepth 100000 in
theorem c_X3_undo (l : Launch) (D : va_G) (cI cO : ClassId) (xa : Nat) (ta ha : Nat → Nat) (hb : Nat → Nat → Nat) (ad : Nat → Nat) (t : Nat → Int32) (n : Nat) (G : Nat → Nat → Int32) (g : Nat → Int32) (o z : Nat) (hn : n ≤ 60) (ho : o < 6) (hz : z ≤ 6) (hp : 0 < z) : cR (fun _ => True) l yX3_undo wsX3_undo rmX3_undo D vwCl (tyA cI cO) [.ref xa] ((wS0 xa ad ha ta) ++ ((wT ta cI t (nI n)) ++ ((wHs ha hb cI cO G (nI o) (nI z)) ++ (wB ad cI g)))) (some (.int (nI (z - 1)))) ((wS0 xa ad ha ta) ++ ((wT ta cI t (nI n)) ++ ((wHs ha hb cI cO G (nI o) (nI (z - 1))) ++ (wB ad cI (G (rI o z)))))) := by
  refine cR_of (cc := cX3_undo) (maxL := 1) (ret := (some .int)) (by decide) rfl (Nat.le_of_ble_eq_true rfl) ?_
  intro p e s m below meth c A C hret hlk hnm hF
  refine g_lv [0] (lv' := [(0, .ref xa)]) rfl ?_
  refine g_aload_n C dX3_undo_0 0 rfl ?_
  refine g_get C (v := .ref (ha 0)) fl_X3_undo_X3 0 rfl rfl 1 (by decide) fw_X3_undo_fld19 rfl dX3_undo_1 ?_
  refine g_get C (v := .int (nI z)) fl_X3_undo_X1 3 rfl rfl 2 (by decide) fw_X3_undo_fld116 rfl dX3_undo_4 ?_
  refine g_if_ne C (tgt := 20) dX3_undo_7 (by decide) (fun _ => ?_) (fun h7_1 => absurd h7_1 (nI_ne0 hp (by omega)))
  refine g_aload_n C dX3_undo_20 0 rfl ?_
  refine g_get C (v := .ref (ha 0)) fl_X3_undo_X3 0 rfl rfl 1 (by decide) fw_X3_undo_fld19 rfl dX3_undo_21 ?_
  refine g_aload_n C dX3_undo_24 0 rfl ?_
  refine g_get C (v := .ref (ad 0)) fl_X3_undo_X3 0 rfl rfl 0 (by decide) fw_X3_undo_fld12 rfl dX3_undo_25 ?_
  refine g_callVv C (c_X1_restore l D cI cO ha hb ad G g o z ho hz hp) gX3_undo_X1_restore rfl ⟨rfl, rfl⟩ hd_X1_restore ⟨Nat.le_of_ble_eq_true rfl, Nat.le_of_ble_eq_true rfl⟩ [0, 1] rfl (fun _ _ => trivial) rfl (rest := []) rfl (Nat.le_of_ble_eq_true rfl) dX3_undo_28 ⟨Nat.zero_le _, Nat.zero_le _⟩ 0 rfl rfl rfl (pre := ((wS0 xa ad ha ta) ++ (wT ta cI t (nI n)))) (post := []) (ws' := ((wS0 xa ad ha ta) ++ ((wT ta cI t (nI n)) ++ ((wHs ha hb cI cO G (nI o) (nI (z - 1))) ++ (wB ad cI (G (rI o z))))))) rfl rfl ?_
  refine g_aload_n C dX3_undo_31 0 rfl ?_
  refine g_get C (v := .ref (ha 0)) fl_X3_undo_X3 0 rfl rfl 1 (by decide) fw_X3_undo_fld19 rfl dX3_undo_32 ?_
  refine g_get C (v := .int (nI (z - 1))) fl_X3_undo_X1 3 rfl rfl 2 (by decide) fw_X3_undo_fld116 rfl dX3_undo_35 ?_
  exact g_iret C hret hlk dX3_undo_38 rfl rfl
end
section
theorem g_ixor {p : Program} {l : Launch} {e : Env} {R : Room} {s : State} {m : MethodId} {args : Array Value} {below : List Frame} {meth : Method} {c : Code} {cc : ByteArray} {own : String} {Ts : List Cond} {D : va_G} {cl : List vw_C} {tys : List (ClassId × FieldType)} {A : Nat → Prop} {H0 : Heap} {nL : Nat} {Q : State → Prop} {k n : Nat} {ws : va_W} {pc : Nat} {lv : List (Nat × Value)} {st : List Value} (C : gC p s m args c cc own Ts D cl tys A H0 nL) {x y v : Int32} (d : decode cc pc = .ok (.ixor, 1)) (hv : x ^^^ y = v)
    (kk : gG p l e R s m args below meth c D cl A H0 nL Q k n ws (pc + 1) lv (.int v :: st)) : gG p l e R s m args below meth c D cl A H0 nL Q k n ws pc lv (.int y :: .int x :: st) := by
  subst hv
  exact fun H locs ls hP hD hS hl => lv_ixor C.1 C.2.1 d (kk H locs ls hP hD hS hl)
def xWs (g : Nat → Int32) : Nat → Int64 × Int64
  | 0 => (0, 1)
  | r + 1 => ((xWs g r).1 + (xSh g r + g (6 * r + 3)).toInt64 * (xWs g r).2, (xWs g r).2 * 10)
def xTd (g : Nat → Int32) : Nat → Int32 × (Nat → Int32)
  | 0 => (0, g)
  | r + 1 => ((xTd g r).1 + (xPa (xTd g r).2 r).1 + (xOr (xPa (xTd g r).2 r).2 r).1, (xOr (xPa (xTd g r).2 r).2 r).2)
def xRod (g : Nat → Int32) (r : Nat) : Nat → Int32
  | 0 => g (6 * r + 1)
  | 1 => g (6 * r + 2)
  | 2 => xSh g r
  | 3 => g (6 * r + 3) + 100
  | 4 => g (6 * r + 4)
  | 5 => g (6 * r + 5)
  | 6 => g (6 * r + 6)
  | _ => xRe g r 16
def xFm (x y : Int32) : Int32 := if ¬ 0 ≤ x ^^^ y ∧ ¬ x - x / y * y = 0 then x - x / y * y + y else x - x / y * y
def xCn (g : Nat → Int32) (z : Nat) : Nat → Int32
  | 0 => xSu (fun j => g (6 * j + 5)) 9
  | 1 => xCt (fun j => ¬ g (6 * j + 3) = 0) 9
  | 2 => xSu (fun j => g (6 * j + 3)) 9 + 100
  | 3 => xFm (xSu (fun j => xSh g j) 9 + xSu (fun j => g (6 * j + 3)) 9) 9
  | 4 => xCt (fun j => ¬ xSh g j < 10) 9
  | 5 => xCt (fun j => ¬ g (6 * j + 4) = 0) 9
  | 6 => g 0
  | _ => nI z
def xTo (g : Nat → Int32) : Nat → Nat → Nat → Int32 → Int32
  | 0, _, _, a => a
  | k + 1, r, w, a => if xTv g r (nI (w % 10)) = -1 then -1 else xTo g k (r + 1) (w / 10) (a + xTv g r (nI (w % 10)))
def xCp (g : Nat → Int32) : Nat → Int32 × Int32
  | 0 => (-1, 0)
  | r + 1 => if g (6 * r + 3) = 0 then xCp g r else if (xCh g r (g (6 * r + 3)) 0).1 = -1 then xCp g r else
    if (xCp g r).1 = -1 ∨ ¬ (xCp g r).2 ≤ (xCh g r (g (6 * r + 3)) 0).1 then (nI r, (xCh g r (g (6 * r + 3)) 0).1) else xCp g r
def xLs (g : Nat → Int32) : Int32 := xSu (fun j => xRe g j 16) 9
def xLo (g : Nat → Int32) : UInt64 := FP.ddiv (FP.i2d (xLs g)) 4639270566145032192
theorem xRe_n (g : Nat → Int32) (r : Nat) : ∀ n : Nat, ∃ c : Nat, c ≤ n ∧ xRe g r n = nI c
  | 0 => ⟨0, Nat.le_refl _, rfl⟩
  | n + 1 => by
    obtain ⟨c, hc, e⟩ := xRe_n g r n
    unfold xRe
    split
    · exact ⟨c, by omega, e⟩
    · exact ⟨c + 1, by omega, by rw [e]; exact nI_1 c⟩
theorem xLs_n (g : Nat → Int32) : ∃ c : Nat, c < 145 ∧ xLs g = nI c := by
  have key : ∀ n : Nat, ∃ c : Nat, c ≤ 16 * n ∧ xSu (fun j => xRe g j 16) n = nI c := by
    intro n
    induction n with
    | zero => exact ⟨0, Nat.le_refl _, rfl⟩
    | succ n ih =>
      obtain ⟨c, hc, e⟩ := ih
      obtain ⟨c2, hc2, e2⟩ := xRe_n g n 16
      refine ⟨c + c2, by omega, ?_⟩
      show xSu (fun j => xRe g j 16) n + xRe g n 16 = _
      rw [e, e2]; exact nI_add c c2
  obtain ⟨c, hc, e⟩ := key 9
  exact ⟨c, by omega, e⟩
theorem lo_ok : ∀ c : Nat, c < 145 → vf_n64 (FP.ddiv (FP.i2d (nI c)) 4639270566145032192) := fun c hc => co_dec (N := 145) (P := fun c => FP.ddiv (FP.i2d (nI c)) 4639270566145032192 &&& 0x7fffffffffffffff ≤ 0x7ff0000000000000) (by decide +kernel) hc
theorem xLo_ok (g : Nat → Int32) : vf_n64 (FP.ddiv (FP.i2d (xLs g)) 4639270566145032192) := by
  obtain ⟨c, hc, e⟩ := xLs_n g
  rw [e]; exact lo_ok c hc
theorem fw_X3_whole_fld12 : Cond.fieldLink RX3 12 "StuckRods" "board" "LStuckRods$Board;" ∈ wsX3_whole := (List.mem_cons_of_mem _ (List.mem_append_left _ (List.mem_append_left _ (List.mem_of_getElem? (i := 0) rfl))))
theorem fl_X3_whole_X3 : ∀ w ∈ wsX30, w ∈ wsX3_whole := fun _ h => List.mem_cons_of_mem _ (List.mem_append_left _ (List.mem_append_right _ h))
theorem fw_X3_whole_fld69 : Cond.fieldLink RX3 69 "StuckRods$Board" "loan" "[I" ∈ wsX3_whole := (List.mem_cons_of_mem _ (List.mem_append_left _ (List.mem_append_left _ (List.mem_of_getElem? (i := 1) rfl))))
theorem fl_X3_whole_X0 : ∀ w ∈ wsX00, w ∈ wsX3_whole := fun _ h => List.mem_cons_of_mem _ (List.mem_append_right _ h)
theorem fw_X3_whole_const142 : Cond.constantLong RX3 142 (10) ∈ wsX3_whole := (List.mem_cons_of_mem _ (List.mem_append_left _ (List.mem_append_left _ (List.mem_of_getElem? (i := 2) rfl))))
abbrev rmX3_whole : Room := { frames := 1, cells := 0, slots := 0, locals := 21 }
set_option maxHeartbeats 1000000 in
set_option maxRecDepth 100000 in
theorem c_X3_whole (l : Launch) (D : va_G) (cI cO : ClassId) (xa : Nat) (ta ha : Nat → Nat) (hb : Nat → Nat → Nat) (ad : Nat → Nat) (t : Nat → Int32) (n : Nat) (G : Nat → Nat → Int32) (g : Nat → Int32) (o z : Nat) (hn : n ≤ 60) (ho : o < 6) (hz : z ≤ 6)  : cR (fun _ => True) l yX3_whole wsX3_whole rmX3_whole D vwCl (tyA cI cO) [.ref xa] ((wS0 xa ad ha ta) ++ ((wT ta cI t (nI n)) ++ ((wHs ha hb cI cO G (nI o) (nI z)) ++ (wB ad cI g)))) (some (.long ((xWs g 9).1))) ((wS0 xa ad ha ta) ++ ((wT ta cI t (nI n)) ++ ((wHs ha hb cI cO G (nI o) (nI z)) ++ (wB ad cI g)))) := by
  refine cR_of (cc := cX3_whole) (maxL := 6) (ret := (some .long)) (by decide) rfl (Nat.le_of_ble_eq_true rfl) ?_
  intro p e s m below meth c A C hret hlk hnm hF
  refine g_lv [0] (lv' := [(0, .ref xa)]) rfl ?_
  have K : ∀ (k q : Nat), k + q = 9 → gG p l e rmX3_whole s m ([.ref xa] : List Value).toArray below meth c D vwCl A s.heap 6 (MQ below (cQ (some (.long ((xWs g 9).1))) (cB D vwCl (tyA cI cO) A ((wS0 xa ad ha ta) ++ ((wT ta cI t (nI n)) ++ ((wHs ha hb cI cO G (nI o) (nI z)) ++ (wB ad cI g))))) A) ([.ref xa] : List Value).toArray s 0 0 A) 0 0 ((wS0 xa ad ha ta) ++ ((wT ta cI t (nI n)) ++ ((wHs ha hb cI cO G (nI o) (nI z)) ++ (wB ad cI g)))) 7 [(0, .ref xa), (1, .long ((xWs g q).1)), (3, .long ((xWs g q).2)), (5, .int (nI q))] [] := by
    intro k
    induction k with
    | zero =>
      intro q hn9
      obtain rfl : 9 = q := by omega
      refine g_iload C dX3_whole_7 3 rfl ?_
      refine g_bipush C (v := 9) dX3_whole_9 cb_9 ?_
      refine g_icmp_ge C (tgt := 52) dX3_whole_11 (by decide) (fun _ => ?_) (fun h11_1 => absurd (by decide) h11_1)
      refine g_lload_n C dX3_whole_52 1 rfl ?_
      exact g_lret C hret hlk dX3_whole_53 rfl rfl
    | succ k ih =>
      intro q hn9
      have hq9 : q < 9 := by omega
      refine g_iload C dX3_whole_7 3 rfl ?_
      refine g_bipush C (v := 9) dX3_whole_9 cb_9 ?_
      refine g_icmp_ge C (tgt := 52) dX3_whole_11 (by decide) (fun h11_2 => absurd h11_2 (ge9 hq9)) (fun _ => ?_)
      refine g_lload_n C dX3_whole_14 1 rfl ?_
      refine g_aload_n C dX3_whole_15 0 rfl ?_
      refine g_get C (v := .ref (ad 0)) fl_X3_whole_X3 0 rfl rfl 0 (by decide) fw_X3_whole_fld12 rfl dX3_whole_16 ?_
      refine g_iload C dX3_whole_19 3 rfl ?_
      refine g_callVi C (c_X0_shown l D cI cO ad g q hq9) gX3_whole_X0_shown rfl ⟨rfl, rfl⟩ hd_X0_shown ⟨Nat.le_of_ble_eq_true rfl, Nat.le_of_ble_eq_true rfl⟩ [0, 1] rfl (fun _ _ => trivial) rfl (rest := [.long ((xWs g q).1)]) rfl (Nat.le_of_ble_eq_true rfl) dX3_whole_21 ⟨Nat.zero_le _, Nat.zero_le _⟩ 0 rfl rfl rfl (pre := ((wS0 xa ad ha ta) ++ ((wT ta cI t (nI n)) ++ (wHs ha hb cI cO G (nI o) (nI z))))) (post := []) (ws' := ((wS0 xa ad ha ta) ++ ((wT ta cI t (nI n)) ++ ((wHs ha hb cI cO G (nI o) (nI z)) ++ (wB ad cI g))))) rfl rfl ?_
      refine g_aload_n C dX3_whole_24 0 rfl ?_
      refine g_get C (v := .ref (ad 0)) fl_X3_whole_X3 0 rfl rfl 0 (by decide) fw_X3_whole_fld12 rfl dX3_whole_25 ?_
      refine g_get C (v := .ref (ad 4)) fl_X3_whole_X0 47 rfl rfl 3 (by decide) fw_X3_whole_fld69 rfl dX3_whole_28 ?_
      refine g_iload C dX3_whole_31 3 rfl ?_
      refine g_iald C (x := g (6 * q + 3)) 51 0 rfl rfl q rfl hq9 (by decide) rfl dX3_whole_33 ?_
      refine g_iadd C (v := (xSh g q) + (g (6 * q + 3))) dX3_whole_34 rfl ?_
      refine g_i2l C (v := ((xSh g q) + (g (6 * q + 3))).toInt64) dX3_whole_35 rfl ?_
      refine g_lload_n C dX3_whole_36 2 rfl ?_
      refine g_lmul C (v := (((xSh g q) + (g (6 * q + 3))).toInt64) * ((xWs g q).2)) dX3_whole_37 rfl ?_
      refine g_ladd C (v := ((xWs g q).1) + ((((xSh g q) + (g (6 * q + 3))).toInt64) * ((xWs g q).2))) dX3_whole_38 rfl ?_
      refine g_lstore_n C (lv' := [(1, .long (((xWs g q).1) + ((((xSh g q) + (g (6 * q + 3))).toInt64) * ((xWs g q).2)))), (0, .ref xa), (3, .long ((xWs g q).2)), (5, .int (nI q))]) dX3_whole_39 rfl (by decide) rfl ?_
      refine g_lload_n C dX3_whole_40 2 rfl ?_
      refine g_ldc2 C (v := 10) dX3_whole_41 fw_X3_whole_const142 ?_
      refine g_lmul C (v := ((xWs g q).2) * 10) dX3_whole_44 rfl ?_
      refine g_lstore_n C (lv' := [(3, .long (((xWs g q).2) * 10)), (1, .long (((xWs g q).1) + ((((xSh g q) + (g (6 * q + 3))).toInt64) * ((xWs g q).2)))), (0, .ref xa), (5, .int (nI q))]) dX3_whole_45 rfl (by decide) rfl ?_
      refine g_iinc C (v := nI (q + 1)) (lv' := [(5, .int (nI (q + 1))), (3, .long (((xWs g q).2) * 10)), (1, .long (((xWs g q).1) + ((((xSh g q) + (g (6 * q + 3))).toInt64) * ((xWs g q).2)))), (0, .ref xa)]) dX3_whole_46 3 rfl (inc_nI _) (by decide) rfl ?_
      refine g_goto C (tgt := 7) dX3_whole_49 (by decide) ?_
      refine g_lv [3, 2, 1, 0] (lv' := [(0, .ref xa), (1, .long (((xWs g q).1) + ((((xSh g q) + (g (6 * q + 3))).toInt64) * ((xWs g q).2)))), (3, .long (((xWs g q).2) * 10)), (5, .int (nI (q + 1)))]) rfl ?_
      exact ih (q + 1) (by omega)
  refine g_lconst C (v := 0) dX3_whole_0 rfl ?_
  refine g_lstore_n C (lv' := [(1, .long 0), (0, .ref xa)]) dX3_whole_1 rfl (by decide) rfl ?_
  refine g_lconst C (v := 1) dX3_whole_2 rfl ?_
  refine g_lstore_n C (lv' := [(3, .long 1), (1, .long 0), (0, .ref xa)]) dX3_whole_3 rfl (by decide) rfl ?_
  refine g_iconst C (v := 0) dX3_whole_4 ci_0 ?_
  refine g_istore C (lv' := [(5, .int 0), (3, .long 1), (1, .long 0), (0, .ref xa)]) dX3_whole_5 (by decide) rfl ?_
  refine g_lv [3, 2, 1, 0] (lv' := [(0, .ref xa), (1, .long 0), (3, .long 1), (5, .int 0)]) rfl ?_
  exact K 9 0 rfl
theorem fw_X3_tidy_fld12 : Cond.fieldLink RX3 12 "StuckRods" "board" "LStuckRods$Board;" ∈ wsX3_tidy := (List.mem_cons_of_mem _ (List.mem_append_left _ (List.mem_append_left _ (List.mem_append_left _ (List.mem_append_left _ (List.mem_of_getElem? (i := 1) rfl))))))
theorem fl_X3_tidy_X3 : ∀ w ∈ wsX30, w ∈ wsX3_tidy := fun _ h => List.mem_cons_of_mem _ (List.mem_append_left _ (List.mem_append_left _ (List.mem_append_right _ h)))
theorem hd_X0_orderIfPossible : yX0_orderIfPossible.cls = RX0 ∧ yX0_orderIfPossible.cls ≠ "java/lang/invoke/MethodHandle" ∧ yX0_orderIfPossible.cls ≠ "java/lang/invoke/VarHandle" ∧ (parseMethodDescriptor yX0_orderIfPossible.desc).map (fun d => d.parameters.length) = some 1 := by decide +kernel
theorem fw_X3_tidy_fld19 : Cond.fieldLink RX3 19 "StuckRods" "history" "LStuckRods$History;" ∈ wsX3_tidy := (List.mem_cons_of_mem _ (List.mem_append_left _ (List.mem_append_left _ (List.mem_append_left _ (List.mem_append_left _ (List.mem_of_getElem? (i := 0) rfl))))))
abbrev rmX3_tidy : Room := { frames := 6, cells := 0, slots := 0, locals := 147 }
set_option maxHeartbeats 1000000 in
set_option maxRecDepth 100000 in
theorem c_X3_tidy (l : Launch) (D : va_G) (cI cO : ClassId) (xa : Nat) (ta ha : Nat → Nat) (hb : Nat → Nat → Nat) (ad : Nat → Nat) (t : Nat → Int32) (n : Nat) (G : Nat → Nat → Int32) (g : Nat → Int32) (o z : Nat) (hn : n ≤ 60) (ho : o < 6) (hz : z ≤ 6)  : cR (fun _ => True) l yX3_tidy wsX3_tidy rmX3_tidy D vwCl (tyA cI cO) [.ref xa] ((wS0 xa ad ha ta) ++ ((wT ta cI t (nI n)) ++ ((wHs ha hb cI cO G (nI o) (nI z)) ++ (wB ad cI g)))) (some (.int ((xTd g 9).1))) ((wS0 xa ad ha ta) ++ ((wT ta cI t (nI n)) ++ ((wHs ha hb cI cO (kG G o z g) (nI (kO o z)) (nI (kM z + 1))) ++ (wB ad cI ((xTd g 9).2))))) := by
  refine cR_of (cc := cX3_tidy) (maxL := 3) (ret := (some .int)) (by decide) rfl (Nat.le_of_ble_eq_true rfl) ?_
  intro p e s m below meth c A C hret hlk hnm hF
  refine g_lv [0] (lv' := [(0, .ref xa)]) rfl ?_
  have K : ∀ (k q : Nat), k + q = 9 → gG p l e rmX3_tidy s m ([.ref xa] : List Value).toArray below meth c D vwCl A s.heap 3 (MQ below (cQ (some (.int ((xTd g 9).1))) (cB D vwCl (tyA cI cO) A ((wS0 xa ad ha ta) ++ ((wT ta cI t (nI n)) ++ ((wHs ha hb cI cO (kG G o z g) (nI (kO o z)) (nI (kM z + 1))) ++ (wB ad cI ((xTd g 9).2)))))) A) ([.ref xa] : List Value).toArray s 0 0 A) 0 0 ((wS0 xa ad ha ta) ++ ((wT ta cI t (nI n)) ++ ((wHs ha hb cI cO (kG G o z g) (nI (kO o z)) (nI (kM z + 1))) ++ (wB ad cI ((xTd g q).2))))) 15 [(0, .ref xa), (1, .int ((xTd g q).1)), (2, .int (nI q))] [] := by
    intro k
    induction k with
    | zero =>
      intro q hn9
      obtain rfl : 9 = q := by omega
      refine g_iload_n C dX3_tidy_15 2 rfl ?_
      refine g_bipush C (v := 9) dX3_tidy_16 cb_9 ?_
      refine g_icmp_ge C (tgt := 49) dX3_tidy_18 (by decide) (fun _ => ?_) (fun h18_1 => absurd (by decide) h18_1)
      refine g_iload_n C dX3_tidy_49 1 rfl ?_
      exact g_iret C hret hlk dX3_tidy_50 rfl rfl
    | succ k ih =>
      intro q hn9
      have hq9 : q < 9 := by omega
      refine g_iload_n C dX3_tidy_15 2 rfl ?_
      refine g_bipush C (v := 9) dX3_tidy_16 cb_9 ?_
      refine g_icmp_ge C (tgt := 49) dX3_tidy_18 (by decide) (fun h18_2 => absurd h18_2 (ge9 hq9)) (fun _ => ?_)
      refine g_iload_n C dX3_tidy_21 1 rfl ?_
      refine g_aload_n C dX3_tidy_22 0 rfl ?_
      refine g_get C (v := .ref (ad 0)) fl_X3_tidy_X3 0 rfl rfl 0 (by decide) fw_X3_tidy_fld12 rfl dX3_tidy_23 ?_
      refine g_iload_n C dX3_tidy_26 2 rfl ?_
      refine g_callVi C (c_X0_payIfPossible l D cI cO ad ((xTd g q).2) q hq9) gX3_tidy_X0_payIfPossible rfl ⟨rfl, rfl⟩ hd_X0_payIfPossible ⟨Nat.le_of_ble_eq_true rfl, Nat.le_of_ble_eq_true rfl⟩ [0, 1] rfl (fun _ _ => trivial) rfl (rest := [.int ((xTd g q).1)]) rfl (Nat.le_of_ble_eq_true rfl) dX3_tidy_27 ⟨Nat.zero_le _, Nat.zero_le _⟩ 0 rfl rfl rfl (pre := ((wS0 xa ad ha ta) ++ ((wT ta cI t (nI n)) ++ (wHs ha hb cI cO (kG G o z g) (nI (kO o z)) (nI (kM z + 1)))))) (post := []) (ws' := ((wS0 xa ad ha ta) ++ ((wT ta cI t (nI n)) ++ ((wHs ha hb cI cO (kG G o z g) (nI (kO o z)) (nI (kM z + 1))) ++ (wB ad cI ((xPa ((xTd g q).2) q).2)))))) rfl rfl ?_
      refine g_iadd C (v := ((xTd g q).1) + ((xPa ((xTd g q).2) q).1)) dX3_tidy_30 rfl ?_
      refine g_istore_n C (lv' := [(1, .int (((xTd g q).1) + ((xPa ((xTd g q).2) q).1))), (0, .ref xa), (2, .int (nI q))]) dX3_tidy_31 rfl (by decide) rfl ?_
      refine g_iload_n C dX3_tidy_32 0 rfl ?_
      refine g_aload_n C dX3_tidy_33 1 rfl ?_
      refine g_get C (v := .ref (ad 0)) fl_X3_tidy_X3 0 rfl rfl 0 (by decide) fw_X3_tidy_fld12 rfl dX3_tidy_34 ?_
      refine g_iload_n C dX3_tidy_37 2 rfl ?_
      refine g_callVi C (c_X0_orderIfPossible l D cI cO ad ((xPa ((xTd g q).2) q).2) q hq9) gX3_tidy_X0_orderIfPossible rfl ⟨rfl, rfl⟩ hd_X0_orderIfPossible ⟨Nat.le_of_ble_eq_true rfl, Nat.le_of_ble_eq_true rfl⟩ [0, 1] rfl (fun _ _ => trivial) rfl (rest := [.int (((xTd g q).1) + ((xPa ((xTd g q).2) q).1))]) rfl (Nat.le_of_ble_eq_true rfl) dX3_tidy_38 ⟨Nat.zero_le _, Nat.zero_le _⟩ 0 rfl rfl rfl (pre := ((wS0 xa ad ha ta) ++ ((wT ta cI t (nI n)) ++ (wHs ha hb cI cO (kG G o z g) (nI (kO o z)) (nI (kM z + 1)))))) (post := []) (ws' := ((wS0 xa ad ha ta) ++ ((wT ta cI t (nI n)) ++ ((wHs ha hb cI cO (kG G o z g) (nI (kO o z)) (nI (kM z + 1))) ++ (wB ad cI ((xOr ((xPa ((xTd g q).2) q).2) q).2)))))) rfl rfl ?_
      refine g_iadd C (v := (((xTd g q).1) + ((xPa ((xTd g q).2) q).1)) + ((xOr ((xPa ((xTd g q).2) q).2) q).1)) dX3_tidy_41 rfl ?_
      refine g_istore_n C (lv' := [(1, .int ((((xTd g q).1) + ((xPa ((xTd g q).2) q).1)) + ((xOr ((xPa ((xTd g q).2) q).2) q).1))), (0, .ref xa), (2, .int (nI q))]) dX3_tidy_42 rfl (by decide) rfl ?_
      refine g_iinc C (v := nI (q + 1)) (lv' := [(2, .int (nI (q + 1))), (1, .int ((((xTd g q).1) + ((xPa ((xTd g q).2) q).1)) + ((xOr ((xPa ((xTd g q).2) q).2) q).1))), (0, .ref xa)]) dX3_tidy_43 2 rfl (inc_nI _) (by decide) rfl ?_
      refine g_goto C (tgt := 15) dX3_tidy_46 (by decide) ?_
      refine g_lv [2, 1, 0] (lv' := [(0, .ref xa), (1, .int ((((xTd g q).1) + ((xPa ((xTd g q).2) q).1)) + ((xOr ((xPa ((xTd g q).2) q).2) q).1))), (2, .int (nI (q + 1)))]) rfl ?_
      have i9 := ih (q + 1) (by omega)
      rw [show xTd g (q + 1) = ((((xTd g q).1) + ((xPa ((xTd g q).2) q).1)) + ((xOr ((xPa ((xTd g q).2) q).2) q).1), (xOr ((xPa ((xTd g q).2) q).2) q).2) from rfl] at i9
      dsimp only at i9
      exact i9
  refine g_aload_n C dX3_tidy_0 0 rfl ?_
  refine g_get C (v := .ref (ha 0)) fl_X3_tidy_X3 0 rfl rfl 1 (by decide) fw_X3_tidy_fld19 rfl dX3_tidy_1 ?_
  refine g_aload_n C dX3_tidy_4 0 rfl ?_
  refine g_get C (v := .ref (ad 0)) fl_X3_tidy_X3 0 rfl rfl 0 (by decide) fw_X3_tidy_fld12 rfl dX3_tidy_5 ?_
  refine g_callVv C (c_X1_keep l D cI cO ha hb ad G g o z ho hz) gX3_tidy_X1_keep rfl ⟨rfl, rfl⟩ hd_X1_keep ⟨Nat.le_of_ble_eq_true rfl, Nat.le_of_ble_eq_true rfl⟩ [0, 1] rfl (fun _ _ => trivial) rfl (rest := []) rfl (Nat.le_of_ble_eq_true rfl) dX3_tidy_8 ⟨Nat.zero_le _, Nat.zero_le _⟩ 0 rfl rfl rfl (pre := ((wS0 xa ad ha ta) ++ (wT ta cI t (nI n)))) (post := []) (ws' := ((wS0 xa ad ha ta) ++ ((wT ta cI t (nI n)) ++ ((wHs ha hb cI cO (kG G o z g) (nI (kO o z)) (nI (kM z + 1))) ++ (wB ad cI g))))) rfl rfl ?_
  refine g_iconst C (v := 0) dX3_tidy_11 ci_0 ?_
  refine g_istore_n C (lv' := [(1, .int 0), (0, .ref xa)]) dX3_tidy_12 rfl (by decide) rfl ?_
  refine g_iconst C (v := 0) dX3_tidy_13 ci_0 ?_
  refine g_istore_n C (lv' := [(2, .int 0), (1, .int 0), (0, .ref xa)]) dX3_tidy_14 rfl (by decide) rfl ?_
  refine g_lv [2, 1, 0] (lv' := [(0, .ref xa), (1, .int 0), (2, .int 0)]) rfl ?_
  exact K 9 0 rfl
theorem fw_X3_rod_fld12 : Cond.fieldLink RX3 12 "StuckRods" "board" "LStuckRods$Board;" ∈ wsX3_rod := (List.mem_cons_of_mem _ (List.mem_append_left _ (List.mem_append_left _ (List.mem_append_left _ (List.mem_append_left _ (List.mem_append_left _ (List.mem_of_getElem? (i := 0) rfl)))))))
theorem fl_X3_rod_X3 : ∀ w ∈ wsX30, w ∈ wsX3_rod := fun _ h => List.mem_cons_of_mem _ (List.mem_append_left _ (List.mem_append_left _ (List.mem_append_left _ (List.mem_append_right _ h))))
theorem fw_X3_rod_fld124 : Cond.fieldLink RX3 124 "StuckRods$Board" "fives" "[I" ∈ wsX3_rod := (List.mem_cons_of_mem _ (List.mem_append_left _ (List.mem_append_left _ (List.mem_append_left _ (List.mem_append_left _ (List.mem_append_left _ (List.mem_of_getElem? (i := 1) rfl)))))))
theorem fl_X3_rod_X0 : ∀ w ∈ wsX00, w ∈ wsX3_rod := fun _ h => List.mem_cons_of_mem _ (List.mem_append_left _ (List.mem_append_left _ (List.mem_append_right _ h)))
theorem fw_X3_rod_fld127 : Cond.fieldLink RX3 127 "StuckRods$Board" "ones" "[I" ∈ wsX3_rod := (List.mem_cons_of_mem _ (List.mem_append_left _ (List.mem_append_left _ (List.mem_append_left _ (List.mem_append_left _ (List.mem_append_left _ (List.mem_of_getElem? (i := 2) rfl)))))))
theorem fw_X3_rod_fld69 : Cond.fieldLink RX3 69 "StuckRods$Board" "loan" "[I" ∈ wsX3_rod := (List.mem_cons_of_mem _ (List.mem_append_left _ (List.mem_append_left _ (List.mem_append_left _ (List.mem_append_left _ (List.mem_append_left _ (List.mem_of_getElem? (i := 3) rfl)))))))
theorem fw_X3_rod_fld57 : Cond.fieldLink RX3 57 "StuckRods$Board" "stuck" "[I" ∈ wsX3_rod := (List.mem_cons_of_mem _ (List.mem_append_left _ (List.mem_append_left _ (List.mem_append_left _ (List.mem_append_left _ (List.mem_append_left _ (List.mem_of_getElem? (i := 4) rfl)))))))
theorem fw_X3_rod_fld133 : Cond.fieldLink RX3 133 "StuckRods$Board" "moved" "[I" ∈ wsX3_rod := (List.mem_cons_of_mem _ (List.mem_append_left _ (List.mem_append_left _ (List.mem_append_left _ (List.mem_append_left _ (List.mem_append_left _ (List.mem_of_getElem? (i := 5) rfl)))))))
theorem fw_X3_rod_fld136 : Cond.fieldLink RX3 136 "StuckRods$Board" "borrowed" "[I" ∈ wsX3_rod := (List.mem_cons_of_mem _ (List.mem_append_left _ (List.mem_append_left _ (List.mem_append_left _ (List.mem_append_left _ (List.mem_append_left _ (List.mem_of_getElem? (i := 6) rfl)))))))
theorem hd_X0_reach : yX0_reach.cls = RX0 ∧ yX0_reach.cls ≠ "java/lang/invoke/MethodHandle" ∧ yX0_reach.cls ≠ "java/lang/invoke/VarHandle" ∧ (parseMethodDescriptor yX0_reach.desc).map (fun d => d.parameters.length) = some 1 := by decide +kernel
abbrev rmX3_rod : Room := { frames := 4, cells := 0, slots := 0, locals := 96 }
set_option maxHeartbeats 1000000 in
set_option maxRecDepth 100000 in
theorem c_X3_rod (l : Launch) (D : va_G) (cI cO : ClassId) (xa : Nat) (ta ha : Nat → Nat) (hb : Nat → Nat → Nat) (ad : Nat → Nat) (t : Nat → Int32) (n : Nat) (G : Nat → Nat → Int32) (g : Nat → Int32) (o z : Nat) (hn : n ≤ 60) (ho : o < 6) (hz : z ≤ 6) (r : Nat) (hr : r < 9) (w : Nat) (hw : w ≤ 7) : cR (fun _ => True) l yX3_rod wsX3_rod rmX3_rod D vwCl (tyA cI cO) [.ref xa, .int (nI r), .int (nI w)] ((wS0 xa ad ha ta) ++ ((wT ta cI t (nI n)) ++ ((wHs ha hb cI cO G (nI o) (nI z)) ++ (wB ad cI g)))) (some (.int (xRod g r w))) ((wS0 xa ad ha ta) ++ ((wT ta cI t (nI n)) ++ ((wHs ha hb cI cO G (nI o) (nI z)) ++ (wB ad cI g)))) := by
  refine cR_of (cc := cX3_rod) (maxL := 3) (ret := (some .int)) (by decide) rfl (Nat.le_of_ble_eq_true rfl) ?_
  intro p e s m below meth c A C hret hlk hnm hF
  refine g_lv [0, 1, 2] (lv' := [(0, .ref xa), (1, .int (nI r)), (2, .int (nI w))]) rfl ?_
  rcases (show w = 0 ∨ w = 1 ∨ w = 2 ∨ w = 3 ∨ w = 4 ∨ w = 5 ∨ w = 6 ∨ w = 7 by omega) with e | e | e | e | e | e | e | e <;> subst e
  · refine g_iload_n C dX3_rod_0 1 rfl ?_
    refine g_callSv C (c_X3_checkRod l D cI cO r hr) gX3_rod_X3_checkRod rfl ⟨rfl, rfl⟩ hd_X3_checkRod ⟨Nat.le_of_ble_eq_true rfl, Nat.le_of_ble_eq_true rfl⟩ [0, 1] rfl (fun _ _ => trivial) rfl (rest := []) rfl (Nat.le_of_ble_eq_true rfl) dX3_rod_1 ⟨Nat.zero_le _, Nat.zero_le _⟩ (pre := []) (post := ((wS0 xa ad ha ta) ++ ((wT ta cI t (nI n)) ++ ((wHs ha hb cI cO G (nI o) (nI z)) ++ (wB ad cI g))))) (ws' := ((wS0 xa ad ha ta) ++ ((wT ta cI t (nI n)) ++ ((wHs ha hb cI cO G (nI o) (nI z)) ++ (wB ad cI g))))) rfl rfl ?_
    refine g_iload_n C dX3_rod_4 2 rfl ?_
    refine g_iconst C (v := 0) dX3_rod_5 ci_0 ?_
    refine g_bipush C (v := 7) dX3_rod_6 cb_7 ?_
    refine g_callSv C (c_X3_checkRange l D cI cO (nI 0) 0 7 (nI_pos (by decide)) (leI (b := 7) (by decide) (by decide))) gX3_rod_X3_checkRange rfl ⟨rfl, rfl⟩ hd_X3_checkRange ⟨Nat.le_of_ble_eq_true rfl, Nat.le_of_ble_eq_true rfl⟩ [0, 1] rfl (fun _ _ => trivial) rfl (rest := []) rfl (Nat.le_of_ble_eq_true rfl) dX3_rod_8 ⟨Nat.zero_le _, Nat.zero_le _⟩ (pre := []) (post := ((wS0 xa ad ha ta) ++ ((wT ta cI t (nI n)) ++ ((wHs ha hb cI cO G (nI o) (nI z)) ++ (wB ad cI g))))) (ws' := ((wS0 xa ad ha ta) ++ ((wT ta cI t (nI n)) ++ ((wHs ha hb cI cO G (nI o) (nI z)) ++ (wB ad cI g))))) rfl rfl ?_
    refine g_iload_n C dX3_rod_11 2 rfl ?_
    refine g_tableIn C (tgt := 56) dX3_rod_12 (by decide) (by decide) rfl (by decide) ?_
    refine g_aload_n C dX3_rod_56 0 rfl ?_
    refine g_get C (v := .ref (ad 0)) fl_X3_rod_X3 0 rfl rfl 0 (by decide) fw_X3_rod_fld12 rfl dX3_rod_57 ?_
    refine g_get C (v := .ref (ad 1)) fl_X3_rod_X0 47 rfl rfl 0 (by decide) fw_X3_rod_fld124 rfl dX3_rod_60 ?_
    refine g_iload_n C dX3_rod_63 1 rfl ?_
    refine g_iald C (x := g (6 * r + 1)) 48 0 rfl rfl r rfl hr (by decide) rfl dX3_rod_64 ?_
    exact g_iret C hret hlk dX3_rod_65 rfl rfl
  · refine g_iload_n C dX3_rod_0 1 rfl ?_
    refine g_callSv C (c_X3_checkRod l D cI cO r hr) gX3_rod_X3_checkRod rfl ⟨rfl, rfl⟩ hd_X3_checkRod ⟨Nat.le_of_ble_eq_true rfl, Nat.le_of_ble_eq_true rfl⟩ [0, 1] rfl (fun _ _ => trivial) rfl (rest := []) rfl (Nat.le_of_ble_eq_true rfl) dX3_rod_1 ⟨Nat.zero_le _, Nat.zero_le _⟩ (pre := []) (post := ((wS0 xa ad ha ta) ++ ((wT ta cI t (nI n)) ++ ((wHs ha hb cI cO G (nI o) (nI z)) ++ (wB ad cI g))))) (ws' := ((wS0 xa ad ha ta) ++ ((wT ta cI t (nI n)) ++ ((wHs ha hb cI cO G (nI o) (nI z)) ++ (wB ad cI g))))) rfl rfl ?_
    refine g_iload_n C dX3_rod_4 2 rfl ?_
    refine g_iconst C (v := 0) dX3_rod_5 ci_0 ?_
    refine g_bipush C (v := 7) dX3_rod_6 cb_7 ?_
    refine g_callSv C (c_X3_checkRange l D cI cO (nI 1) 0 7 (nI_pos (by decide)) (leI (b := 7) (by decide) (by decide))) gX3_rod_X3_checkRange rfl ⟨rfl, rfl⟩ hd_X3_checkRange ⟨Nat.le_of_ble_eq_true rfl, Nat.le_of_ble_eq_true rfl⟩ [0, 1] rfl (fun _ _ => trivial) rfl (rest := []) rfl (Nat.le_of_ble_eq_true rfl) dX3_rod_8 ⟨Nat.zero_le _, Nat.zero_le _⟩ (pre := []) (post := ((wS0 xa ad ha ta) ++ ((wT ta cI t (nI n)) ++ ((wHs ha hb cI cO G (nI o) (nI z)) ++ (wB ad cI g))))) (ws' := ((wS0 xa ad ha ta) ++ ((wT ta cI t (nI n)) ++ ((wHs ha hb cI cO G (nI o) (nI z)) ++ (wB ad cI g))))) rfl rfl ?_
    refine g_iload_n C dX3_rod_11 2 rfl ?_
    refine g_tableIn C (tgt := 66) dX3_rod_12 (by decide) (by decide) rfl (by decide) ?_
    refine g_aload_n C dX3_rod_66 0 rfl ?_
    refine g_get C (v := .ref (ad 0)) fl_X3_rod_X3 0 rfl rfl 0 (by decide) fw_X3_rod_fld12 rfl dX3_rod_67 ?_
    refine g_get C (v := .ref (ad 2)) fl_X3_rod_X0 47 rfl rfl 1 (by decide) fw_X3_rod_fld127 rfl dX3_rod_70 ?_
    refine g_iload_n C dX3_rod_73 1 rfl ?_
    refine g_iald C (x := g (6 * r + 2)) 49 0 rfl rfl r rfl hr (by decide) rfl dX3_rod_74 ?_
    exact g_iret C hret hlk dX3_rod_75 rfl rfl
  · refine g_iload_n C dX3_rod_0 1 rfl ?_
    refine g_callSv C (c_X3_checkRod l D cI cO r hr) gX3_rod_X3_checkRod rfl ⟨rfl, rfl⟩ hd_X3_checkRod ⟨Nat.le_of_ble_eq_true rfl, Nat.le_of_ble_eq_true rfl⟩ [0, 1] rfl (fun _ _ => trivial) rfl (rest := []) rfl (Nat.le_of_ble_eq_true rfl) dX3_rod_1 ⟨Nat.zero_le _, Nat.zero_le _⟩ (pre := []) (post := ((wS0 xa ad ha ta) ++ ((wT ta cI t (nI n)) ++ ((wHs ha hb cI cO G (nI o) (nI z)) ++ (wB ad cI g))))) (ws' := ((wS0 xa ad ha ta) ++ ((wT ta cI t (nI n)) ++ ((wHs ha hb cI cO G (nI o) (nI z)) ++ (wB ad cI g))))) rfl rfl ?_
    refine g_iload_n C dX3_rod_4 2 rfl ?_
    refine g_iconst C (v := 0) dX3_rod_5 ci_0 ?_
    refine g_bipush C (v := 7) dX3_rod_6 cb_7 ?_
    refine g_callSv C (c_X3_checkRange l D cI cO (nI 2) 0 7 (nI_pos (by decide)) (leI (b := 7) (by decide) (by decide))) gX3_rod_X3_checkRange rfl ⟨rfl, rfl⟩ hd_X3_checkRange ⟨Nat.le_of_ble_eq_true rfl, Nat.le_of_ble_eq_true rfl⟩ [0, 1] rfl (fun _ _ => trivial) rfl (rest := []) rfl (Nat.le_of_ble_eq_true rfl) dX3_rod_8 ⟨Nat.zero_le _, Nat.zero_le _⟩ (pre := []) (post := ((wS0 xa ad ha ta) ++ ((wT ta cI t (nI n)) ++ ((wHs ha hb cI cO G (nI o) (nI z)) ++ (wB ad cI g))))) (ws' := ((wS0 xa ad ha ta) ++ ((wT ta cI t (nI n)) ++ ((wHs ha hb cI cO G (nI o) (nI z)) ++ (wB ad cI g))))) rfl rfl ?_
    refine g_iload_n C dX3_rod_11 2 rfl ?_
    refine g_tableIn C (tgt := 76) dX3_rod_12 (by decide) (by decide) rfl (by decide) ?_
    refine g_aload_n C dX3_rod_76 0 rfl ?_
    refine g_get C (v := .ref (ad 0)) fl_X3_rod_X3 0 rfl rfl 0 (by decide) fw_X3_rod_fld12 rfl dX3_rod_77 ?_
    refine g_iload_n C dX3_rod_80 1 rfl ?_
    refine g_callVi C (c_X0_shown l D cI cO ad g r hr) gX3_rod_X0_shown rfl ⟨rfl, rfl⟩ hd_X0_shown ⟨Nat.le_of_ble_eq_true rfl, Nat.le_of_ble_eq_true rfl⟩ [0, 1] rfl (fun _ _ => trivial) rfl (rest := []) rfl (Nat.le_of_ble_eq_true rfl) dX3_rod_81 ⟨Nat.zero_le _, Nat.zero_le _⟩ 0 rfl rfl rfl (pre := ((wS0 xa ad ha ta) ++ ((wT ta cI t (nI n)) ++ (wHs ha hb cI cO G (nI o) (nI z))))) (post := []) (ws' := ((wS0 xa ad ha ta) ++ ((wT ta cI t (nI n)) ++ ((wHs ha hb cI cO G (nI o) (nI z)) ++ (wB ad cI g))))) rfl rfl ?_
    exact g_iret C hret hlk dX3_rod_84 rfl rfl
  · refine g_iload_n C dX3_rod_0 1 rfl ?_
    refine g_callSv C (c_X3_checkRod l D cI cO r hr) gX3_rod_X3_checkRod rfl ⟨rfl, rfl⟩ hd_X3_checkRod ⟨Nat.le_of_ble_eq_true rfl, Nat.le_of_ble_eq_true rfl⟩ [0, 1] rfl (fun _ _ => trivial) rfl (rest := []) rfl (Nat.le_of_ble_eq_true rfl) dX3_rod_1 ⟨Nat.zero_le _, Nat.zero_le _⟩ (pre := []) (post := ((wS0 xa ad ha ta) ++ ((wT ta cI t (nI n)) ++ ((wHs ha hb cI cO G (nI o) (nI z)) ++ (wB ad cI g))))) (ws' := ((wS0 xa ad ha ta) ++ ((wT ta cI t (nI n)) ++ ((wHs ha hb cI cO G (nI o) (nI z)) ++ (wB ad cI g))))) rfl rfl ?_
    refine g_iload_n C dX3_rod_4 2 rfl ?_
    refine g_iconst C (v := 0) dX3_rod_5 ci_0 ?_
    refine g_bipush C (v := 7) dX3_rod_6 cb_7 ?_
    refine g_callSv C (c_X3_checkRange l D cI cO (nI 3) 0 7 (nI_pos (by decide)) (leI (b := 7) (by decide) (by decide))) gX3_rod_X3_checkRange rfl ⟨rfl, rfl⟩ hd_X3_checkRange ⟨Nat.le_of_ble_eq_true rfl, Nat.le_of_ble_eq_true rfl⟩ [0, 1] rfl (fun _ _ => trivial) rfl (rest := []) rfl (Nat.le_of_ble_eq_true rfl) dX3_rod_8 ⟨Nat.zero_le _, Nat.zero_le _⟩ (pre := []) (post := ((wS0 xa ad ha ta) ++ ((wT ta cI t (nI n)) ++ ((wHs ha hb cI cO G (nI o) (nI z)) ++ (wB ad cI g))))) (ws' := ((wS0 xa ad ha ta) ++ ((wT ta cI t (nI n)) ++ ((wHs ha hb cI cO G (nI o) (nI z)) ++ (wB ad cI g))))) rfl rfl ?_
    refine g_iload_n C dX3_rod_11 2 rfl ?_
    refine g_tableIn C (tgt := 85) dX3_rod_12 (by decide) (by decide) rfl (by decide) ?_
    refine g_aload_n C dX3_rod_85 0 rfl ?_
    refine g_get C (v := .ref (ad 0)) fl_X3_rod_X3 0 rfl rfl 0 (by decide) fw_X3_rod_fld12 rfl dX3_rod_86 ?_
    refine g_get C (v := .ref (ad 4)) fl_X3_rod_X0 47 rfl rfl 3 (by decide) fw_X3_rod_fld69 rfl dX3_rod_89 ?_
    refine g_iload_n C dX3_rod_92 1 rfl ?_
    refine g_iald C (x := g (6 * r + 3)) 51 0 rfl rfl r rfl hr (by decide) rfl dX3_rod_93 ?_
    refine g_bipush C (v := 100) dX3_rod_94 cb_100 ?_
    refine g_iadd C (v := (g (6 * r + 3)) + 100) dX3_rod_96 rfl ?_
    exact g_iret C hret hlk dX3_rod_97 rfl rfl
  · refine g_iload_n C dX3_rod_0 1 rfl ?_
    refine g_callSv C (c_X3_checkRod l D cI cO r hr) gX3_rod_X3_checkRod rfl ⟨rfl, rfl⟩ hd_X3_checkRod ⟨Nat.le_of_ble_eq_true rfl, Nat.le_of_ble_eq_true rfl⟩ [0, 1] rfl (fun _ _ => trivial) rfl (rest := []) rfl (Nat.le_of_ble_eq_true rfl) dX3_rod_1 ⟨Nat.zero_le _, Nat.zero_le _⟩ (pre := []) (post := ((wS0 xa ad ha ta) ++ ((wT ta cI t (nI n)) ++ ((wHs ha hb cI cO G (nI o) (nI z)) ++ (wB ad cI g))))) (ws' := ((wS0 xa ad ha ta) ++ ((wT ta cI t (nI n)) ++ ((wHs ha hb cI cO G (nI o) (nI z)) ++ (wB ad cI g))))) rfl rfl ?_
    refine g_iload_n C dX3_rod_4 2 rfl ?_
    refine g_iconst C (v := 0) dX3_rod_5 ci_0 ?_
    refine g_bipush C (v := 7) dX3_rod_6 cb_7 ?_
    refine g_callSv C (c_X3_checkRange l D cI cO (nI 4) 0 7 (nI_pos (by decide)) (leI (b := 7) (by decide) (by decide))) gX3_rod_X3_checkRange rfl ⟨rfl, rfl⟩ hd_X3_checkRange ⟨Nat.le_of_ble_eq_true rfl, Nat.le_of_ble_eq_true rfl⟩ [0, 1] rfl (fun _ _ => trivial) rfl (rest := []) rfl (Nat.le_of_ble_eq_true rfl) dX3_rod_8 ⟨Nat.zero_le _, Nat.zero_le _⟩ (pre := []) (post := ((wS0 xa ad ha ta) ++ ((wT ta cI t (nI n)) ++ ((wHs ha hb cI cO G (nI o) (nI z)) ++ (wB ad cI g))))) (ws' := ((wS0 xa ad ha ta) ++ ((wT ta cI t (nI n)) ++ ((wHs ha hb cI cO G (nI o) (nI z)) ++ (wB ad cI g))))) rfl rfl ?_
    refine g_iload_n C dX3_rod_11 2 rfl ?_
    refine g_tableIn C (tgt := 98) dX3_rod_12 (by decide) (by decide) rfl (by decide) ?_
    refine g_aload_n C dX3_rod_98 0 rfl ?_
    refine g_get C (v := .ref (ad 0)) fl_X3_rod_X3 0 rfl rfl 0 (by decide) fw_X3_rod_fld12 rfl dX3_rod_99 ?_
    refine g_get C (v := .ref (ad 3)) fl_X3_rod_X0 47 rfl rfl 2 (by decide) fw_X3_rod_fld57 rfl dX3_rod_102 ?_
    refine g_iload_n C dX3_rod_105 1 rfl ?_
    refine g_iald C (x := g (6 * r + 4)) 50 0 rfl rfl r rfl hr (by decide) rfl dX3_rod_106 ?_
    exact g_iret C hret hlk dX3_rod_107 rfl rfl
  · refine g_iload_n C dX3_rod_0 1 rfl ?_
    refine g_callSv C (c_X3_checkRod l D cI cO r hr) gX3_rod_X3_checkRod rfl ⟨rfl, rfl⟩ hd_X3_checkRod ⟨Nat.le_of_ble_eq_true rfl, Nat.le_of_ble_eq_true rfl⟩ [0, 1] rfl (fun _ _ => trivial) rfl (rest := []) rfl (Nat.le_of_ble_eq_true rfl) dX3_rod_1 ⟨Nat.zero_le _, Nat.zero_le _⟩ (pre := []) (post := ((wS0 xa ad ha ta) ++ ((wT ta cI t (nI n)) ++ ((wHs ha hb cI cO G (nI o) (nI z)) ++ (wB ad cI g))))) (ws' := ((wS0 xa ad ha ta) ++ ((wT ta cI t (nI n)) ++ ((wHs ha hb cI cO G (nI o) (nI z)) ++ (wB ad cI g))))) rfl rfl ?_
    refine g_iload_n C dX3_rod_4 2 rfl ?_
    refine g_iconst C (v := 0) dX3_rod_5 ci_0 ?_
    refine g_bipush C (v := 7) dX3_rod_6 cb_7 ?_
    refine g_callSv C (c_X3_checkRange l D cI cO (nI 5) 0 7 (nI_pos (by decide)) (leI (b := 7) (by decide) (by decide))) gX3_rod_X3_checkRange rfl ⟨rfl, rfl⟩ hd_X3_checkRange ⟨Nat.le_of_ble_eq_true rfl, Nat.le_of_ble_eq_true rfl⟩ [0, 1] rfl (fun _ _ => trivial) rfl (rest := []) rfl (Nat.le_of_ble_eq_true rfl) dX3_rod_8 ⟨Nat.zero_le _, Nat.zero_le _⟩ (pre := []) (post := ((wS0 xa ad ha ta) ++ ((wT ta cI t (nI n)) ++ ((wHs ha hb cI cO G (nI o) (nI z)) ++ (wB ad cI g))))) (ws' := ((wS0 xa ad ha ta) ++ ((wT ta cI t (nI n)) ++ ((wHs ha hb cI cO G (nI o) (nI z)) ++ (wB ad cI g))))) rfl rfl ?_
    refine g_iload_n C dX3_rod_11 2 rfl ?_
    refine g_tableIn C (tgt := 108) dX3_rod_12 (by decide) (by decide) rfl (by decide) ?_
    refine g_aload_n C dX3_rod_108 0 rfl ?_
    refine g_get C (v := .ref (ad 0)) fl_X3_rod_X3 0 rfl rfl 0 (by decide) fw_X3_rod_fld12 rfl dX3_rod_109 ?_
    refine g_get C (v := .ref (ad 5)) fl_X3_rod_X0 47 rfl rfl 4 (by decide) fw_X3_rod_fld133 rfl dX3_rod_112 ?_
    refine g_iload_n C dX3_rod_115 1 rfl ?_
    refine g_iald C (x := g (6 * r + 5)) 52 0 rfl rfl r rfl hr (by decide) rfl dX3_rod_116 ?_
    exact g_iret C hret hlk dX3_rod_117 rfl rfl
  · refine g_iload_n C dX3_rod_0 1 rfl ?_
    refine g_callSv C (c_X3_checkRod l D cI cO r hr) gX3_rod_X3_checkRod rfl ⟨rfl, rfl⟩ hd_X3_checkRod ⟨Nat.le_of_ble_eq_true rfl, Nat.le_of_ble_eq_true rfl⟩ [0, 1] rfl (fun _ _ => trivial) rfl (rest := []) rfl (Nat.le_of_ble_eq_true rfl) dX3_rod_1 ⟨Nat.zero_le _, Nat.zero_le _⟩ (pre := []) (post := ((wS0 xa ad ha ta) ++ ((wT ta cI t (nI n)) ++ ((wHs ha hb cI cO G (nI o) (nI z)) ++ (wB ad cI g))))) (ws' := ((wS0 xa ad ha ta) ++ ((wT ta cI t (nI n)) ++ ((wHs ha hb cI cO G (nI o) (nI z)) ++ (wB ad cI g))))) rfl rfl ?_
    refine g_iload_n C dX3_rod_4 2 rfl ?_
    refine g_iconst C (v := 0) dX3_rod_5 ci_0 ?_
    refine g_bipush C (v := 7) dX3_rod_6 cb_7 ?_
    refine g_callSv C (c_X3_checkRange l D cI cO (nI 6) 0 7 (nI_pos (by decide)) (leI (b := 7) (by decide) (by decide))) gX3_rod_X3_checkRange rfl ⟨rfl, rfl⟩ hd_X3_checkRange ⟨Nat.le_of_ble_eq_true rfl, Nat.le_of_ble_eq_true rfl⟩ [0, 1] rfl (fun _ _ => trivial) rfl (rest := []) rfl (Nat.le_of_ble_eq_true rfl) dX3_rod_8 ⟨Nat.zero_le _, Nat.zero_le _⟩ (pre := []) (post := ((wS0 xa ad ha ta) ++ ((wT ta cI t (nI n)) ++ ((wHs ha hb cI cO G (nI o) (nI z)) ++ (wB ad cI g))))) (ws' := ((wS0 xa ad ha ta) ++ ((wT ta cI t (nI n)) ++ ((wHs ha hb cI cO G (nI o) (nI z)) ++ (wB ad cI g))))) rfl rfl ?_
    refine g_iload_n C dX3_rod_11 2 rfl ?_
    refine g_tableIn C (tgt := 118) dX3_rod_12 (by decide) (by decide) rfl (by decide) ?_
    refine g_aload_n C dX3_rod_118 0 rfl ?_
    refine g_get C (v := .ref (ad 0)) fl_X3_rod_X3 0 rfl rfl 0 (by decide) fw_X3_rod_fld12 rfl dX3_rod_119 ?_
    refine g_get C (v := .ref (ad 6)) fl_X3_rod_X0 47 rfl rfl 5 (by decide) fw_X3_rod_fld136 rfl dX3_rod_122 ?_
    refine g_iload_n C dX3_rod_125 1 rfl ?_
    refine g_iald C (x := g (6 * r + 6)) 53 0 rfl rfl r rfl hr (by decide) rfl dX3_rod_126 ?_
    exact g_iret C hret hlk dX3_rod_127 rfl rfl
  · refine g_iload_n C dX3_rod_0 1 rfl ?_
    refine g_callSv C (c_X3_checkRod l D cI cO r hr) gX3_rod_X3_checkRod rfl ⟨rfl, rfl⟩ hd_X3_checkRod ⟨Nat.le_of_ble_eq_true rfl, Nat.le_of_ble_eq_true rfl⟩ [0, 1] rfl (fun _ _ => trivial) rfl (rest := []) rfl (Nat.le_of_ble_eq_true rfl) dX3_rod_1 ⟨Nat.zero_le _, Nat.zero_le _⟩ (pre := []) (post := ((wS0 xa ad ha ta) ++ ((wT ta cI t (nI n)) ++ ((wHs ha hb cI cO G (nI o) (nI z)) ++ (wB ad cI g))))) (ws' := ((wS0 xa ad ha ta) ++ ((wT ta cI t (nI n)) ++ ((wHs ha hb cI cO G (nI o) (nI z)) ++ (wB ad cI g))))) rfl rfl ?_
    refine g_iload_n C dX3_rod_4 2 rfl ?_
    refine g_iconst C (v := 0) dX3_rod_5 ci_0 ?_
    refine g_bipush C (v := 7) dX3_rod_6 cb_7 ?_
    refine g_callSv C (c_X3_checkRange l D cI cO (nI 7) 0 7 (nI_pos (by decide)) (leI (b := 7) (by decide) (by decide))) gX3_rod_X3_checkRange rfl ⟨rfl, rfl⟩ hd_X3_checkRange ⟨Nat.le_of_ble_eq_true rfl, Nat.le_of_ble_eq_true rfl⟩ [0, 1] rfl (fun _ _ => trivial) rfl (rest := []) rfl (Nat.le_of_ble_eq_true rfl) dX3_rod_8 ⟨Nat.zero_le _, Nat.zero_le _⟩ (pre := []) (post := ((wS0 xa ad ha ta) ++ ((wT ta cI t (nI n)) ++ ((wHs ha hb cI cO G (nI o) (nI z)) ++ (wB ad cI g))))) (ws' := ((wS0 xa ad ha ta) ++ ((wT ta cI t (nI n)) ++ ((wHs ha hb cI cO G (nI o) (nI z)) ++ (wB ad cI g))))) rfl rfl ?_
    refine g_iload_n C dX3_rod_11 2 rfl ?_
    refine g_tableOut C (tgt := 128) dX3_rod_12 (by decide) (by decide) ?_
    refine g_aload_n C dX3_rod_128 0 rfl ?_
    refine g_get C (v := .ref (ad 0)) fl_X3_rod_X3 0 rfl rfl 0 (by decide) fw_X3_rod_fld12 rfl dX3_rod_129 ?_
    refine g_iload_n C dX3_rod_132 1 rfl ?_
    refine g_callVi C (c_X0_reach l D cI cO ad g r hr) gX3_rod_X0_reach rfl ⟨rfl, rfl⟩ hd_X0_reach ⟨Nat.le_of_ble_eq_true rfl, Nat.le_of_ble_eq_true rfl⟩ [0, 1] rfl (fun _ _ => trivial) rfl (rest := []) rfl (Nat.le_of_ble_eq_true rfl) dX3_rod_133 ⟨Nat.zero_le _, Nat.zero_le _⟩ 0 rfl rfl rfl (pre := ((wS0 xa ad ha ta) ++ ((wT ta cI t (nI n)) ++ (wHs ha hb cI cO G (nI o) (nI z))))) (post := []) (ws' := ((wS0 xa ad ha ta) ++ ((wT ta cI t (nI n)) ++ ((wHs ha hb cI cO G (nI o) (nI z)) ++ (wB ad cI g))))) rfl rfl ?_
    exact g_iret C hret hlk dX3_rod_136 rfl rfl
theorem Met_ofWF {l : Launch} {y : MethodName} {ws ws' : List Cond} {rm : Room} {Pc : Array Value → State → Prop} {Qc : Array Value → State → Outcome → State → Prop} {mc ms : Nat} {free : Addr → Prop} {cc : ByteArray} {maxL : Nat} {ret : Option FieldType}
    (hy : plainFor y = true) (hw : ws = Cond.code y cc maxL ret :: ws')
    (body : ∀ p e s m args below meth c s₁, BodyLoose p l y (headSpec ws rm) cc maxL ret e s m args below meth c s₁ → c.maxLocals = maxL → Pc args s →
      W p l e (headSpec ws rm).room s m args below meth c s.heap [] 0 0 (MQ below Qc args s mc ms free) (entryFrame m args maxL)) : Met l y ws rm Pc Qc mc ms free := by
  refine MetFree.of_bodySF (code := cc) (maxLocals := maxL) (ret := ret) hy ?_ ?_
  · intro args s m h hn
    obtain ⟨meth, c, h1, h2, h3, h4, h5, h6, -, -⟩ := Cond.code_spec hn (atoms_spec (ws := ws) h _ (by rw [hw]; exact List.mem_cons_self))
    exact ⟨meth, c, h1, h2, h3, h4, h5, h6⟩
  · intro p e s m args below meth c s₁ B hml hP _
    have hh0 : s₁.heap = s.heap := by rw [B.state]; rfl
    obtain ⟨t, a1, o, b1, b2, b3⟩ := body p e s m args below meth c s₁ B hml hP s₁ hh0 (Stand.of_body B)
    exact ⟨t, o, a1, b1, b2, ⟨b3.1, b3.2⟩⟩
theorem cR_ofF {F : Vm → Prop} {l : Launch} {y : MethodName} {wsY ws' : List Cond} {rm : Room} {D : va_G} {cl : List vw_C} {tys : List (ClassId × FieldType)} {av : List Value} {wc w1 : va_W} {v : Option Value} {cc : ByteArray} {maxL : Nat} {ret : Option FieldType} (hy : plainFor y = true) (hw : wsY = Cond.code y cc maxL ret :: ws') (hlen : (lg_sl av).length ≤ maxL)
    (body : ∀ (p : Program) (e : Env) (s : State) (m : MethodId) (below : List Frame) (meth : Method) (c : Code) (A : Nat → Prop), gC p s m av.toArray c cc y.cls wsY D cl tys A s.heap maxL → meth.sig.returnType = ret → meth.locks = false → meth.name = y.name → F s.vm →
      gG p l e rm s m av.toArray below meth c D cl A s.heap maxL (MQ below (cQ v (cB D cl tys A w1) A) av.toArray s 0 0 A) 0 0 wc 0 (lv_args 0 av) []) : cR F l y wsY rm D cl tys av wc v w1 := by
  intro sz
  refine Met_ofWF (cc := cc) (maxL := maxL) (ret := ret) hy hw ?_
  intro p e s m args below meth c s₁ B hml hv
  obtain ⟨rfl, hF, hsz, hP, hK, hD0⟩ := hv
  subst hsz
  have hD := hD0.self (sz := s.heap.size)
  generalize hAe : va_A wc s.heap.size = A at hD ⊢
  have hA : ∀ q : Nat, s.heap.size ≤ q → A q := fun q h => by rw [← hAe]; exact Or.inr h
  have hl := lv_entry av (n := maxL) hlen
  rw [lg_entry_eq]
  exact body p e s m below meth c A ⟨B.exec, B.bytes, hml, findClass_of_methodNamed B.named, atoms_spec (ws := wsY) B.pre, hK, hA⟩ B.returns B.notSynchronized (name_of_methodNamed B.named B.method).1 hF s.heap [] _ hP hD va_S.rf hl
abbrev rmJ9_floorMod_7cf53 : Room := { frames := 0, cells := 0, slots := 0, locals := 0 }
set_option maxHeartbeats 1000000 in
set_option maxRecDepth 100000 in
theorem c_J9_floorMod_7cf53 (l : Launch) (D : va_G) (cI cO : ClassId) (x y : Int32) (hy : ¬ y = 0) : cR (fun _ => True) l yJ9_floorMod_7cf53 wsJ9_floorMod_7cf53 rmJ9_floorMod_7cf53 D vwCl (tyA cI cO) [.int x, .int y] ([] : va_W) (some (.int (xFm x y))) ([] : va_W) := by
  refine cR_ofF (cc := cJ9_floorMod_7cf53) (maxL := 3) (ret := (some .int)) (by decide +kernel) rfl (Nat.le_of_ble_eq_true rfl) ?_
  intro p e s m below meth c A C hret hlk hnm hF
  refine g_lv [0, 1] (lv' := [(0, .int x), (1, .int y)]) rfl ?_
  refine g_iload_n C dJ9_floorMod_7cf53_0 0 rfl ?_
  refine g_iload_n C dJ9_floorMod_7cf53_1 1 rfl ?_
  refine g_irem C (v := x - x / y * y) dJ9_floorMod_7cf53_2 hy rfl ?_
  refine g_istore_n C (lv' := [(2, .int (x - x / y * y)), (0, .int x), (1, .int y)]) dJ9_floorMod_7cf53_3 rfl (by decide) rfl ?_
  refine g_iload_n C dJ9_floorMod_7cf53_4 1 rfl ?_
  refine g_iload_n C dJ9_floorMod_7cf53_5 2 rfl ?_
  refine g_ixor C (v := x ^^^ y) dJ9_floorMod_7cf53_6 rfl ?_
  refine g_if_ge C (tgt := 18) dJ9_floorMod_7cf53_7 (by decide) (fun h7_1 => ?_) (fun h7_1 => ?_)
  · refine g_iload_n C dJ9_floorMod_7cf53_18 0 rfl ?_
    exact g_iret C hret hlk dJ9_floorMod_7cf53_19 (by simp only [xFm, eq_true h7_1, Bool.false_eq_true, not_false_eq_true, not_true_eq_false, and_self, and_true, true_and, and_false, false_and, or_true, true_or, or_false, false_or, or_self, if_true, if_false, eq_self, ite_true, ite_false, reduceIte]) rfl
  · refine g_iload_n C dJ9_floorMod_7cf53_10 0 rfl ?_
    refine g_if_eq C (tgt := 18) dJ9_floorMod_7cf53_11 (by decide) (fun h11_2 => ?_) (fun h11_2 => ?_)
    · refine g_iload_n C dJ9_floorMod_7cf53_18 0 rfl ?_
      exact g_iret C hret hlk dJ9_floorMod_7cf53_19 (by simp only [xFm, h7_1, eq_true h11_2, Bool.false_eq_true, not_false_eq_true, not_true_eq_false, and_self, and_true, true_and, and_false, false_and, or_true, true_or, or_false, false_or, or_self, if_true, if_false, eq_self, ite_true, ite_false, reduceIte]) rfl
    · refine g_iload_n C dJ9_floorMod_7cf53_14 0 rfl ?_
      refine g_iload_n C dJ9_floorMod_7cf53_15 2 rfl ?_
      refine g_iadd C (v := (x - x / y * y) + y) dJ9_floorMod_7cf53_16 rfl ?_
      exact g_iret C hret hlk dJ9_floorMod_7cf53_17 (by simp only [xFm, h7_1, h11_2, Bool.false_eq_true, not_false_eq_true, not_true_eq_false, and_self, and_true, true_and, and_false, false_and, or_true, true_or, or_false, false_or, or_self, if_true, if_false, eq_self, ite_true, ite_false, reduceIte]) rfl
theorem fw_X3_count_fld12 : Cond.fieldLink RX3 12 "StuckRods" "board" "LStuckRods$Board;" ∈ wsX3_count := (List.mem_cons_of_mem _ (List.mem_append_left _ (List.mem_append_left _ (List.mem_append_left _ (List.mem_append_left _ (List.mem_append_left _ (List.mem_of_getElem? (i := 0) rfl)))))))
theorem fl_X3_count_X3 : ∀ w ∈ wsX30, w ∈ wsX3_count := fun _ h => List.mem_cons_of_mem _ (List.mem_append_left _ (List.mem_append_left _ (List.mem_append_left _ (List.mem_append_right _ h))))
theorem hd_X0_allMoved : yX0_allMoved.cls = RX0 ∧ yX0_allMoved.cls ≠ "java/lang/invoke/MethodHandle" ∧ yX0_allMoved.cls ≠ "java/lang/invoke/VarHandle" ∧ (parseMethodDescriptor yX0_allMoved.desc).map (fun d => d.parameters.length) = some 0 := by decide +kernel
theorem hd_X0_rodsWithLoan : yX0_rodsWithLoan.cls = RX0 ∧ yX0_rodsWithLoan.cls ≠ "java/lang/invoke/MethodHandle" ∧ yX0_rodsWithLoan.cls ≠ "java/lang/invoke/VarHandle" ∧ (parseMethodDescriptor yX0_rodsWithLoan.desc).map (fun d => d.parameters.length) = some 0 := by decide +kernel
theorem hd_X0_allLoans : yX0_allLoans.cls = RX0 ∧ yX0_allLoans.cls ≠ "java/lang/invoke/MethodHandle" ∧ yX0_allLoans.cls ≠ "java/lang/invoke/VarHandle" ∧ (parseMethodDescriptor yX0_allLoans.desc).map (fun d => d.parameters.length) = some 0 := by decide +kernel
theorem hd_X0_allShown : yX0_allShown.cls = RX0 ∧ yX0_allShown.cls ≠ "java/lang/invoke/MethodHandle" ∧ yX0_allShown.cls ≠ "java/lang/invoke/VarHandle" ∧ (parseMethodDescriptor yX0_allShown.desc).map (fun d => d.parameters.length) = some 0 := by decide +kernel
theorem hd_J9_floorMod_7cf53 : yJ9_floorMod_7cf53.cls ≠ "java/lang/invoke/MethodHandle" ∧ yJ9_floorMod_7cf53.cls ≠ "java/lang/invoke/VarHandle" ∧ (parseMethodDescriptor yJ9_floorMod_7cf53.desc).map (fun d => d.parameters.length) = some 2 := by decide +kernel
theorem hd_X0_rodsOutOfOrder : yX0_rodsOutOfOrder.cls = RX0 ∧ yX0_rodsOutOfOrder.cls ≠ "java/lang/invoke/MethodHandle" ∧ yX0_rodsOutOfOrder.cls ≠ "java/lang/invoke/VarHandle" ∧ (parseMethodDescriptor yX0_rodsOutOfOrder.desc).map (fun d => d.parameters.length) = some 0 := by decide +kernel
theorem hd_X0_rodsWithStuck : yX0_rodsWithStuck.cls = RX0 ∧ yX0_rodsWithStuck.cls ≠ "java/lang/invoke/MethodHandle" ∧ yX0_rodsWithStuck.cls ≠ "java/lang/invoke/VarHandle" ∧ (parseMethodDescriptor yX0_rodsWithStuck.desc).map (fun d => d.parameters.length) = some 0 := by decide +kernel
theorem fw_X3_count_fld61 : Cond.fieldLink RX3 61 "StuckRods$Board" "setting" "I" ∈ wsX3_count := (List.mem_cons_of_mem _ (List.mem_append_left _ (List.mem_append_left _ (List.mem_append_left _ (List.mem_append_left _ (List.mem_append_left _ (List.mem_of_getElem? (i := 1) rfl)))))))
theorem fl_X3_count_X0 : ∀ w ∈ wsX00, w ∈ wsX3_count := fun _ h => List.mem_cons_of_mem _ (List.mem_append_left _ (List.mem_append_left _ (List.mem_append_right _ h)))
theorem fw_X3_count_fld19 : Cond.fieldLink RX3 19 "StuckRods" "history" "LStuckRods$History;" ∈ wsX3_count := (List.mem_cons_of_mem _ (List.mem_append_left _ (List.mem_append_left _ (List.mem_append_left _ (List.mem_append_left _ (List.mem_append_left _ (List.mem_of_getElem? (i := 2) rfl)))))))
theorem fw_X3_count_fld116 : Cond.fieldLink RX3 116 "StuckRods$History" "size" "I" ∈ wsX3_count := (List.mem_cons_of_mem _ (List.mem_append_left _ (List.mem_append_left _ (List.mem_append_left _ (List.mem_append_left _ (List.mem_append_left _ (List.mem_of_getElem? (i := 3) rfl)))))))
theorem fl_X3_count_X1 : ∀ w ∈ wsX10, w ∈ wsX3_count := fun _ h => List.mem_cons_of_mem _ (List.mem_append_left _ (List.mem_append_right _ h))
abbrev rmX3_count : Room := { frames := 2, cells := 0, slots := 0, locals := 43 }
set_option maxHeartbeats 1000000 in
set_option maxRecDepth 100000 in
theorem c_X3_count (l : Launch) (D : va_G) (cI cO : ClassId) (xa : Nat) (ta ha : Nat → Nat) (hb : Nat → Nat → Nat) (ad : Nat → Nat) (t : Nat → Int32) (n : Nat) (G : Nat → Nat → Int32) (g : Nat → Int32) (o z : Nat) (hn : n ≤ 60) (ho : o < 6) (hz : z ≤ 6) (w : Nat) (hw : w ≤ 7) : cR (fun _ => True) l yX3_count wsX3_count rmX3_count D vwCl (tyA cI cO) [.ref xa, .int (nI w)] ((wS0 xa ad ha ta) ++ ((wT ta cI t (nI n)) ++ ((wHs ha hb cI cO G (nI o) (nI z)) ++ (wB ad cI g)))) (some (.int (xCn g z w))) ((wS0 xa ad ha ta) ++ ((wT ta cI t (nI n)) ++ ((wHs ha hb cI cO G (nI o) (nI z)) ++ (wB ad cI g)))) := by
  refine cR_of (cc := cX3_count) (maxL := 2) (ret := (some .int)) (by decide) rfl (Nat.le_of_ble_eq_true rfl) ?_
  intro p e s m below meth c A C hret hlk hnm hF
  refine g_lv [0, 1] (lv' := [(0, .ref xa), (1, .int (nI w))]) rfl ?_
  rcases (show w = 0 ∨ w = 1 ∨ w = 2 ∨ w = 3 ∨ w = 4 ∨ w = 5 ∨ w = 6 ∨ w = 7 by omega) with e | e | e | e | e | e | e | e <;> subst e
  · refine g_iload_n C dX3_count_0 1 rfl ?_
    refine g_iconst C (v := 0) dX3_count_1 ci_0 ?_
    refine g_bipush C (v := 7) dX3_count_2 cb_7 ?_
    refine g_callSv C (c_X3_checkRange l D cI cO (nI 0) 0 7 (nI_pos (by decide)) (leI (b := 7) (by decide) (by decide))) gX3_count_X3_checkRange rfl ⟨rfl, rfl⟩ hd_X3_checkRange ⟨Nat.le_of_ble_eq_true rfl, Nat.le_of_ble_eq_true rfl⟩ [0, 1] rfl (fun _ _ => trivial) rfl (rest := []) rfl (Nat.le_of_ble_eq_true rfl) dX3_count_4 ⟨Nat.zero_le _, Nat.zero_le _⟩ (pre := []) (post := ((wS0 xa ad ha ta) ++ ((wT ta cI t (nI n)) ++ ((wHs ha hb cI cO G (nI o) (nI z)) ++ (wB ad cI g))))) (ws' := ((wS0 xa ad ha ta) ++ ((wT ta cI t (nI n)) ++ ((wHs ha hb cI cO G (nI o) (nI z)) ++ (wB ad cI g))))) rfl rfl ?_
    refine g_iload_n C dX3_count_7 1 rfl ?_
    refine g_tableIn C (tgt := 52) dX3_count_8 (by decide) (by decide) rfl (by decide) ?_
    refine g_aload_n C dX3_count_52 0 rfl ?_
    refine g_get C (v := .ref (ad 0)) fl_X3_count_X3 0 rfl rfl 0 (by decide) fw_X3_count_fld12 rfl dX3_count_53 ?_
    refine g_callVi C (c_X0_allMoved l D cI cO ad g) gX3_count_X0_allMoved rfl ⟨rfl, rfl⟩ hd_X0_allMoved ⟨Nat.le_of_ble_eq_true rfl, Nat.le_of_ble_eq_true rfl⟩ [0, 1] rfl (fun _ _ => trivial) rfl (rest := []) rfl (Nat.le_of_ble_eq_true rfl) dX3_count_56 ⟨Nat.zero_le _, Nat.zero_le _⟩ 0 rfl rfl rfl (pre := ((wS0 xa ad ha ta) ++ ((wT ta cI t (nI n)) ++ (wHs ha hb cI cO G (nI o) (nI z))))) (post := []) (ws' := ((wS0 xa ad ha ta) ++ ((wT ta cI t (nI n)) ++ ((wHs ha hb cI cO G (nI o) (nI z)) ++ (wB ad cI g))))) rfl rfl ?_
    exact g_iret C hret hlk dX3_count_59 rfl rfl
  · refine g_iload_n C dX3_count_0 1 rfl ?_
    refine g_iconst C (v := 0) dX3_count_1 ci_0 ?_
    refine g_bipush C (v := 7) dX3_count_2 cb_7 ?_
    refine g_callSv C (c_X3_checkRange l D cI cO (nI 1) 0 7 (nI_pos (by decide)) (leI (b := 7) (by decide) (by decide))) gX3_count_X3_checkRange rfl ⟨rfl, rfl⟩ hd_X3_checkRange ⟨Nat.le_of_ble_eq_true rfl, Nat.le_of_ble_eq_true rfl⟩ [0, 1] rfl (fun _ _ => trivial) rfl (rest := []) rfl (Nat.le_of_ble_eq_true rfl) dX3_count_4 ⟨Nat.zero_le _, Nat.zero_le _⟩ (pre := []) (post := ((wS0 xa ad ha ta) ++ ((wT ta cI t (nI n)) ++ ((wHs ha hb cI cO G (nI o) (nI z)) ++ (wB ad cI g))))) (ws' := ((wS0 xa ad ha ta) ++ ((wT ta cI t (nI n)) ++ ((wHs ha hb cI cO G (nI o) (nI z)) ++ (wB ad cI g))))) rfl rfl ?_
    refine g_iload_n C dX3_count_7 1 rfl ?_
    refine g_tableIn C (tgt := 60) dX3_count_8 (by decide) (by decide) rfl (by decide) ?_
    refine g_aload_n C dX3_count_60 0 rfl ?_
    refine g_get C (v := .ref (ad 0)) fl_X3_count_X3 0 rfl rfl 0 (by decide) fw_X3_count_fld12 rfl dX3_count_61 ?_
    refine g_callVi C (c_X0_rodsWithLoan l D cI cO ad g) gX3_count_X0_rodsWithLoan rfl ⟨rfl, rfl⟩ hd_X0_rodsWithLoan ⟨Nat.le_of_ble_eq_true rfl, Nat.le_of_ble_eq_true rfl⟩ [0, 1] rfl (fun _ _ => trivial) rfl (rest := []) rfl (Nat.le_of_ble_eq_true rfl) dX3_count_64 ⟨Nat.zero_le _, Nat.zero_le _⟩ 0 rfl rfl rfl (pre := ((wS0 xa ad ha ta) ++ ((wT ta cI t (nI n)) ++ (wHs ha hb cI cO G (nI o) (nI z))))) (post := []) (ws' := ((wS0 xa ad ha ta) ++ ((wT ta cI t (nI n)) ++ ((wHs ha hb cI cO G (nI o) (nI z)) ++ (wB ad cI g))))) rfl rfl ?_
    exact g_iret C hret hlk dX3_count_67 rfl rfl
  · refine g_iload_n C dX3_count_0 1 rfl ?_
    refine g_iconst C (v := 0) dX3_count_1 ci_0 ?_
    refine g_bipush C (v := 7) dX3_count_2 cb_7 ?_
    refine g_callSv C (c_X3_checkRange l D cI cO (nI 2) 0 7 (nI_pos (by decide)) (leI (b := 7) (by decide) (by decide))) gX3_count_X3_checkRange rfl ⟨rfl, rfl⟩ hd_X3_checkRange ⟨Nat.le_of_ble_eq_true rfl, Nat.le_of_ble_eq_true rfl⟩ [0, 1] rfl (fun _ _ => trivial) rfl (rest := []) rfl (Nat.le_of_ble_eq_true rfl) dX3_count_4 ⟨Nat.zero_le _, Nat.zero_le _⟩ (pre := []) (post := ((wS0 xa ad ha ta) ++ ((wT ta cI t (nI n)) ++ ((wHs ha hb cI cO G (nI o) (nI z)) ++ (wB ad cI g))))) (ws' := ((wS0 xa ad ha ta) ++ ((wT ta cI t (nI n)) ++ ((wHs ha hb cI cO G (nI o) (nI z)) ++ (wB ad cI g))))) rfl rfl ?_
    refine g_iload_n C dX3_count_7 1 rfl ?_
    refine g_tableIn C (tgt := 68) dX3_count_8 (by decide) (by decide) rfl (by decide) ?_
    refine g_aload_n C dX3_count_68 0 rfl ?_
    refine g_get C (v := .ref (ad 0)) fl_X3_count_X3 0 rfl rfl 0 (by decide) fw_X3_count_fld12 rfl dX3_count_69 ?_
    refine g_callVi C (c_X0_allLoans l D cI cO ad g) gX3_count_X0_allLoans rfl ⟨rfl, rfl⟩ hd_X0_allLoans ⟨Nat.le_of_ble_eq_true rfl, Nat.le_of_ble_eq_true rfl⟩ [0, 1] rfl (fun _ _ => trivial) rfl (rest := []) rfl (Nat.le_of_ble_eq_true rfl) dX3_count_72 ⟨Nat.zero_le _, Nat.zero_le _⟩ 0 rfl rfl rfl (pre := ((wS0 xa ad ha ta) ++ ((wT ta cI t (nI n)) ++ (wHs ha hb cI cO G (nI o) (nI z))))) (post := []) (ws' := ((wS0 xa ad ha ta) ++ ((wT ta cI t (nI n)) ++ ((wHs ha hb cI cO G (nI o) (nI z)) ++ (wB ad cI g))))) rfl rfl ?_
    refine g_bipush C (v := 100) dX3_count_75 cb_100 ?_
    refine g_iadd C (v := (xSu (fun j => g (6 * j + 3)) 9) + 100) dX3_count_77 rfl ?_
    exact g_iret C hret hlk dX3_count_78 rfl rfl
  · refine g_iload_n C dX3_count_0 1 rfl ?_
    refine g_iconst C (v := 0) dX3_count_1 ci_0 ?_
    refine g_bipush C (v := 7) dX3_count_2 cb_7 ?_
    refine g_callSv C (c_X3_checkRange l D cI cO (nI 3) 0 7 (nI_pos (by decide)) (leI (b := 7) (by decide) (by decide))) gX3_count_X3_checkRange rfl ⟨rfl, rfl⟩ hd_X3_checkRange ⟨Nat.le_of_ble_eq_true rfl, Nat.le_of_ble_eq_true rfl⟩ [0, 1] rfl (fun _ _ => trivial) rfl (rest := []) rfl (Nat.le_of_ble_eq_true rfl) dX3_count_4 ⟨Nat.zero_le _, Nat.zero_le _⟩ (pre := []) (post := ((wS0 xa ad ha ta) ++ ((wT ta cI t (nI n)) ++ ((wHs ha hb cI cO G (nI o) (nI z)) ++ (wB ad cI g))))) (ws' := ((wS0 xa ad ha ta) ++ ((wT ta cI t (nI n)) ++ ((wHs ha hb cI cO G (nI o) (nI z)) ++ (wB ad cI g))))) rfl rfl ?_
    refine g_iload_n C dX3_count_7 1 rfl ?_
    refine g_tableIn C (tgt := 79) dX3_count_8 (by decide) (by decide) rfl (by decide) ?_
    refine g_aload_n C dX3_count_79 0 rfl ?_
    refine g_get C (v := .ref (ad 0)) fl_X3_count_X3 0 rfl rfl 0 (by decide) fw_X3_count_fld12 rfl dX3_count_80 ?_
    refine g_callVi C (c_X0_allShown l D cI cO ad g) gX3_count_X0_allShown rfl ⟨rfl, rfl⟩ hd_X0_allShown ⟨Nat.le_of_ble_eq_true rfl, Nat.le_of_ble_eq_true rfl⟩ [0, 1] rfl (fun _ _ => trivial) rfl (rest := []) rfl (Nat.le_of_ble_eq_true rfl) dX3_count_83 ⟨Nat.zero_le _, Nat.zero_le _⟩ 0 rfl rfl rfl (pre := ((wS0 xa ad ha ta) ++ ((wT ta cI t (nI n)) ++ (wHs ha hb cI cO G (nI o) (nI z))))) (post := []) (ws' := ((wS0 xa ad ha ta) ++ ((wT ta cI t (nI n)) ++ ((wHs ha hb cI cO G (nI o) (nI z)) ++ (wB ad cI g))))) rfl rfl ?_
    refine g_aload_n C dX3_count_86 0 rfl ?_
    refine g_get C (v := .ref (ad 0)) fl_X3_count_X3 0 rfl rfl 0 (by decide) fw_X3_count_fld12 rfl dX3_count_87 ?_
    refine g_callVi C (c_X0_allLoans l D cI cO ad g) gX3_count_X0_allLoans rfl ⟨rfl, rfl⟩ hd_X0_allLoans ⟨Nat.le_of_ble_eq_true rfl, Nat.le_of_ble_eq_true rfl⟩ [0, 1] rfl (fun _ _ => trivial) rfl (rest := [.int (xSu (fun j => xSh g j) 9)]) rfl (Nat.le_of_ble_eq_true rfl) dX3_count_90 ⟨Nat.zero_le _, Nat.zero_le _⟩ 0 rfl rfl rfl (pre := ((wS0 xa ad ha ta) ++ ((wT ta cI t (nI n)) ++ (wHs ha hb cI cO G (nI o) (nI z))))) (post := []) (ws' := ((wS0 xa ad ha ta) ++ ((wT ta cI t (nI n)) ++ ((wHs ha hb cI cO G (nI o) (nI z)) ++ (wB ad cI g))))) rfl rfl ?_
    refine g_iadd C (v := (xSu (fun j => xSh g j) 9) + (xSu (fun j => g (6 * j + 3)) 9)) dX3_count_93 rfl ?_
    refine g_bipush C (v := 9) dX3_count_94 cb_9 ?_
    refine g_callSi C (c_J9_floorMod_7cf53 l D cI cO ((xSu (fun j => xSh g j) 9) + (xSu (fun j => g (6 * j + 3)) 9)) 9 (by decide)) gX3_count_J9_floorMod_7cf53 rfl ⟨rfl, rfl⟩ hd_J9_floorMod_7cf53 ⟨Nat.le_of_ble_eq_true rfl, Nat.le_of_ble_eq_true rfl⟩ [0, 1] rfl (fun _ _ => trivial) rfl (rest := []) rfl (Nat.le_of_ble_eq_true rfl) dX3_count_96 ⟨Nat.zero_le _, Nat.zero_le _⟩ (pre := []) (post := ((wS0 xa ad ha ta) ++ ((wT ta cI t (nI n)) ++ ((wHs ha hb cI cO G (nI o) (nI z)) ++ (wB ad cI g))))) (ws' := ((wS0 xa ad ha ta) ++ ((wT ta cI t (nI n)) ++ ((wHs ha hb cI cO G (nI o) (nI z)) ++ (wB ad cI g))))) rfl rfl ?_
    exact g_iret C hret hlk dX3_count_99 rfl rfl
  · refine g_iload_n C dX3_count_0 1 rfl ?_
    refine g_iconst C (v := 0) dX3_count_1 ci_0 ?_
    refine g_bipush C (v := 7) dX3_count_2 cb_7 ?_
    refine g_callSv C (c_X3_checkRange l D cI cO (nI 4) 0 7 (nI_pos (by decide)) (leI (b := 7) (by decide) (by decide))) gX3_count_X3_checkRange rfl ⟨rfl, rfl⟩ hd_X3_checkRange ⟨Nat.le_of_ble_eq_true rfl, Nat.le_of_ble_eq_true rfl⟩ [0, 1] rfl (fun _ _ => trivial) rfl (rest := []) rfl (Nat.le_of_ble_eq_true rfl) dX3_count_4 ⟨Nat.zero_le _, Nat.zero_le _⟩ (pre := []) (post := ((wS0 xa ad ha ta) ++ ((wT ta cI t (nI n)) ++ ((wHs ha hb cI cO G (nI o) (nI z)) ++ (wB ad cI g))))) (ws' := ((wS0 xa ad ha ta) ++ ((wT ta cI t (nI n)) ++ ((wHs ha hb cI cO G (nI o) (nI z)) ++ (wB ad cI g))))) rfl rfl ?_
    refine g_iload_n C dX3_count_7 1 rfl ?_
    refine g_tableIn C (tgt := 100) dX3_count_8 (by decide) (by decide) rfl (by decide) ?_
    refine g_aload_n C dX3_count_100 0 rfl ?_
    refine g_get C (v := .ref (ad 0)) fl_X3_count_X3 0 rfl rfl 0 (by decide) fw_X3_count_fld12 rfl dX3_count_101 ?_
    refine g_callVi C (c_X0_rodsOutOfOrder l D cI cO ad g) gX3_count_X0_rodsOutOfOrder rfl ⟨rfl, rfl⟩ hd_X0_rodsOutOfOrder ⟨Nat.le_of_ble_eq_true rfl, Nat.le_of_ble_eq_true rfl⟩ [0, 1] rfl (fun _ _ => trivial) rfl (rest := []) rfl (Nat.le_of_ble_eq_true rfl) dX3_count_104 ⟨Nat.zero_le _, Nat.zero_le _⟩ 0 rfl rfl rfl (pre := ((wS0 xa ad ha ta) ++ ((wT ta cI t (nI n)) ++ (wHs ha hb cI cO G (nI o) (nI z))))) (post := []) (ws' := ((wS0 xa ad ha ta) ++ ((wT ta cI t (nI n)) ++ ((wHs ha hb cI cO G (nI o) (nI z)) ++ (wB ad cI g))))) rfl rfl ?_
    exact g_iret C hret hlk dX3_count_107 rfl rfl
  · refine g_iload_n C dX3_count_0 1 rfl ?_
    refine g_iconst C (v := 0) dX3_count_1 ci_0 ?_
    refine g_bipush C (v := 7) dX3_count_2 cb_7 ?_
    refine g_callSv C (c_X3_checkRange l D cI cO (nI 5) 0 7 (nI_pos (by decide)) (leI (b := 7) (by decide) (by decide))) gX3_count_X3_checkRange rfl ⟨rfl, rfl⟩ hd_X3_checkRange ⟨Nat.le_of_ble_eq_true rfl, Nat.le_of_ble_eq_true rfl⟩ [0, 1] rfl (fun _ _ => trivial) rfl (rest := []) rfl (Nat.le_of_ble_eq_true rfl) dX3_count_4 ⟨Nat.zero_le _, Nat.zero_le _⟩ (pre := []) (post := ((wS0 xa ad ha ta) ++ ((wT ta cI t (nI n)) ++ ((wHs ha hb cI cO G (nI o) (nI z)) ++ (wB ad cI g))))) (ws' := ((wS0 xa ad ha ta) ++ ((wT ta cI t (nI n)) ++ ((wHs ha hb cI cO G (nI o) (nI z)) ++ (wB ad cI g))))) rfl rfl ?_
    refine g_iload_n C dX3_count_7 1 rfl ?_
    refine g_tableIn C (tgt := 108) dX3_count_8 (by decide) (by decide) rfl (by decide) ?_
    refine g_aload_n C dX3_count_108 0 rfl ?_
    refine g_get C (v := .ref (ad 0)) fl_X3_count_X3 0 rfl rfl 0 (by decide) fw_X3_count_fld12 rfl dX3_count_109 ?_
    refine g_callVi C (c_X0_rodsWithStuck l D cI cO ad g) gX3_count_X0_rodsWithStuck rfl ⟨rfl, rfl⟩ hd_X0_rodsWithStuck ⟨Nat.le_of_ble_eq_true rfl, Nat.le_of_ble_eq_true rfl⟩ [0, 1] rfl (fun _ _ => trivial) rfl (rest := []) rfl (Nat.le_of_ble_eq_true rfl) dX3_count_112 ⟨Nat.zero_le _, Nat.zero_le _⟩ 0 rfl rfl rfl (pre := ((wS0 xa ad ha ta) ++ ((wT ta cI t (nI n)) ++ (wHs ha hb cI cO G (nI o) (nI z))))) (post := []) (ws' := ((wS0 xa ad ha ta) ++ ((wT ta cI t (nI n)) ++ ((wHs ha hb cI cO G (nI o) (nI z)) ++ (wB ad cI g))))) rfl rfl ?_
    exact g_iret C hret hlk dX3_count_115 rfl rfl
  · refine g_iload_n C dX3_count_0 1 rfl ?_
    refine g_iconst C (v := 0) dX3_count_1 ci_0 ?_
    refine g_bipush C (v := 7) dX3_count_2 cb_7 ?_
    refine g_callSv C (c_X3_checkRange l D cI cO (nI 6) 0 7 (nI_pos (by decide)) (leI (b := 7) (by decide) (by decide))) gX3_count_X3_checkRange rfl ⟨rfl, rfl⟩ hd_X3_checkRange ⟨Nat.le_of_ble_eq_true rfl, Nat.le_of_ble_eq_true rfl⟩ [0, 1] rfl (fun _ _ => trivial) rfl (rest := []) rfl (Nat.le_of_ble_eq_true rfl) dX3_count_4 ⟨Nat.zero_le _, Nat.zero_le _⟩ (pre := []) (post := ((wS0 xa ad ha ta) ++ ((wT ta cI t (nI n)) ++ ((wHs ha hb cI cO G (nI o) (nI z)) ++ (wB ad cI g))))) (ws' := ((wS0 xa ad ha ta) ++ ((wT ta cI t (nI n)) ++ ((wHs ha hb cI cO G (nI o) (nI z)) ++ (wB ad cI g))))) rfl rfl ?_
    refine g_iload_n C dX3_count_7 1 rfl ?_
    refine g_tableIn C (tgt := 116) dX3_count_8 (by decide) (by decide) rfl (by decide) ?_
    refine g_aload_n C dX3_count_116 0 rfl ?_
    refine g_get C (v := .ref (ad 0)) fl_X3_count_X3 0 rfl rfl 0 (by decide) fw_X3_count_fld12 rfl dX3_count_117 ?_
    refine g_get C (v := .int (g 0)) fl_X3_count_X0 47 rfl rfl 6 (by decide) fw_X3_count_fld61 rfl dX3_count_120 ?_
    exact g_iret C hret hlk dX3_count_123 rfl rfl
  · refine g_iload_n C dX3_count_0 1 rfl ?_
    refine g_iconst C (v := 0) dX3_count_1 ci_0 ?_
    refine g_bipush C (v := 7) dX3_count_2 cb_7 ?_
    refine g_callSv C (c_X3_checkRange l D cI cO (nI 7) 0 7 (nI_pos (by decide)) (leI (b := 7) (by decide) (by decide))) gX3_count_X3_checkRange rfl ⟨rfl, rfl⟩ hd_X3_checkRange ⟨Nat.le_of_ble_eq_true rfl, Nat.le_of_ble_eq_true rfl⟩ [0, 1] rfl (fun _ _ => trivial) rfl (rest := []) rfl (Nat.le_of_ble_eq_true rfl) dX3_count_4 ⟨Nat.zero_le _, Nat.zero_le _⟩ (pre := []) (post := ((wS0 xa ad ha ta) ++ ((wT ta cI t (nI n)) ++ ((wHs ha hb cI cO G (nI o) (nI z)) ++ (wB ad cI g))))) (ws' := ((wS0 xa ad ha ta) ++ ((wT ta cI t (nI n)) ++ ((wHs ha hb cI cO G (nI o) (nI z)) ++ (wB ad cI g))))) rfl rfl ?_
    refine g_iload_n C dX3_count_7 1 rfl ?_
    refine g_tableOut C (tgt := 124) dX3_count_8 (by decide) (by decide) ?_
    refine g_aload_n C dX3_count_124 0 rfl ?_
    refine g_get C (v := .ref (ha 0)) fl_X3_count_X3 0 rfl rfl 1 (by decide) fw_X3_count_fld19 rfl dX3_count_125 ?_
    refine g_get C (v := .int (nI z)) fl_X3_count_X1 3 rfl rfl 2 (by decide) fw_X3_count_fld116 rfl dX3_count_128 ?_
    exact g_iret C hret hlk dX3_count_131 rfl rfl
theorem fw_X3_moves_fld12 : Cond.fieldLink RX3 12 "StuckRods" "board" "LStuckRods$Board;" ∈ wsX3_moves := (List.mem_cons_of_mem _ (List.mem_append_left _ (List.mem_append_left _ (List.mem_append_left _ (List.mem_append_left _ (List.mem_append_left _ (List.mem_of_getElem? (i := 0) rfl)))))))
theorem fl_X3_moves_X3 : ∀ w ∈ wsX30, w ∈ wsX3_moves := fun _ h => List.mem_cons_of_mem _ (List.mem_append_left _ (List.mem_append_left _ (List.mem_append_left _ (List.mem_append_right _ h))))
abbrev rmX3_moves : Room := { frames := 3, cells := 0, slots := 0, locals := 73 }
set_option maxHeartbeats 1000000 in
set_option maxRecDepth 100000 in
theorem c_X3_moves (l : Launch) (D : va_G) (cI cO : ClassId) (xa : Nat) (ta ha : Nat → Nat) (hb : Nat → Nat → Nat) (ad : Nat → Nat) (t : Nat → Int32) (n : Nat) (G : Nat → Nat → Int32) (g : Nat → Int32) (o z : Nat) (hn : n ≤ 60) (ho : o < 6) (hz : z ≤ 6) (r : Nat) (hr : r < 9) (v : Int32) (h1 : ¬ v < 0) (h2 : v ≤ 15) : cR (fun _ => True) l yX3_moves wsX3_moves rmX3_moves D vwCl (tyA cI cO) [.ref xa, .int (nI r), .int v] ((wS0 xa ad ha ta) ++ ((wT ta cI t (nI n)) ++ ((wHs ha hb cI cO G (nI o) (nI z)) ++ (wB ad cI g)))) (some (.int (xTv g r v))) ((wS0 xa ad ha ta) ++ ((wT ta cI t (nI n)) ++ ((wHs ha hb cI cO G (nI o) (nI z)) ++ (wB ad cI g)))) := by
  refine cR_of (cc := cX3_moves) (maxL := 3) (ret := (some .int)) (by decide) rfl (Nat.le_of_ble_eq_true rfl) ?_
  intro p e s m below meth c A C hret hlk hnm hF
  refine g_lv [0, 1, 2] (lv' := [(0, .ref xa), (1, .int (nI r)), (2, .int v)]) rfl ?_
  refine g_iload_n C dX3_moves_0 1 rfl ?_
  refine g_callSv C (c_X3_checkRod l D cI cO r hr) gX3_moves_X3_checkRod rfl ⟨rfl, rfl⟩ hd_X3_checkRod ⟨Nat.le_of_ble_eq_true rfl, Nat.le_of_ble_eq_true rfl⟩ [0, 1] rfl (fun _ _ => trivial) rfl (rest := []) rfl (Nat.le_of_ble_eq_true rfl) dX3_moves_1 ⟨Nat.zero_le _, Nat.zero_le _⟩ (pre := []) (post := ((wS0 xa ad ha ta) ++ ((wT ta cI t (nI n)) ++ ((wHs ha hb cI cO G (nI o) (nI z)) ++ (wB ad cI g))))) (ws' := ((wS0 xa ad ha ta) ++ ((wT ta cI t (nI n)) ++ ((wHs ha hb cI cO G (nI o) (nI z)) ++ (wB ad cI g))))) rfl rfl ?_
  refine g_iload_n C dX3_moves_4 2 rfl ?_
  refine g_iconst C (v := 0) dX3_moves_5 ci_0 ?_
  refine g_bipush C (v := 15) dX3_moves_6 cb_15 ?_
  refine g_callSv C (c_X3_checkRange l D cI cO v 0 15 h1 h2) gX3_moves_X3_checkRange rfl ⟨rfl, rfl⟩ hd_X3_checkRange ⟨Nat.le_of_ble_eq_true rfl, Nat.le_of_ble_eq_true rfl⟩ [0, 1] rfl (fun _ _ => trivial) rfl (rest := []) rfl (Nat.le_of_ble_eq_true rfl) dX3_moves_8 ⟨Nat.zero_le _, Nat.zero_le _⟩ (pre := []) (post := ((wS0 xa ad ha ta) ++ ((wT ta cI t (nI n)) ++ ((wHs ha hb cI cO G (nI o) (nI z)) ++ (wB ad cI g))))) (ws' := ((wS0 xa ad ha ta) ++ ((wT ta cI t (nI n)) ++ ((wHs ha hb cI cO G (nI o) (nI z)) ++ (wB ad cI g))))) rfl rfl ?_
  refine g_aload_n C dX3_moves_11 0 rfl ?_
  refine g_get C (v := .ref (ad 0)) fl_X3_moves_X3 0 rfl rfl 0 (by decide) fw_X3_moves_fld12 rfl dX3_moves_12 ?_
  refine g_iload_n C dX3_moves_15 1 rfl ?_
  refine g_iload_n C dX3_moves_16 2 rfl ?_
  refine g_iconst C (v := 0) dX3_moves_17 ci_0 ?_
  refine g_callVi C (c0_X0_turn l D cI cO ad g r hr v) gX3_moves_X0_turn rfl ⟨rfl, rfl⟩ hd_X0_turn ⟨Nat.le_of_ble_eq_true rfl, Nat.le_of_ble_eq_true rfl⟩ [0, 1] rfl (fun _ _ => trivial) rfl (rest := []) rfl (Nat.le_of_ble_eq_true rfl) dX3_moves_18 ⟨Nat.zero_le _, Nat.zero_le _⟩ 0 rfl rfl rfl (pre := ((wS0 xa ad ha ta) ++ ((wT ta cI t (nI n)) ++ (wHs ha hb cI cO G (nI o) (nI z))))) (post := []) (ws' := ((wS0 xa ad ha ta) ++ ((wT ta cI t (nI n)) ++ ((wHs ha hb cI cO G (nI o) (nI z)) ++ (wB ad cI g))))) rfl rfl ?_
  exact g_iret C hret hlk dX3_moves_21 rfl rfl
theorem fw_X3_ifAdded_fld12 : Cond.fieldLink RX3 12 "StuckRods" "board" "LStuckRods$Board;" ∈ wsX3_ifAdded := (List.mem_cons_of_mem _ (List.mem_append_left _ (List.mem_append_left _ (List.mem_append_left _ (List.mem_append_left _ (List.mem_append_left _ (List.mem_of_getElem? (i := 0) rfl)))))))
theorem fl_X3_ifAdded_X3 : ∀ w ∈ wsX30, w ∈ wsX3_ifAdded := fun _ h => List.mem_cons_of_mem _ (List.mem_append_left _ (List.mem_append_left _ (List.mem_append_left _ (List.mem_append_right _ h))))
abbrev rmX3_ifAdded : Room := { frames := 5, cells := 0, slots := 0, locals := 125 }
set_option maxHeartbeats 1000000 in
set_option maxRecDepth 100000 in
theorem c_X3_ifAdded (l : Launch) (D : va_G) (cI cO : ClassId) (xa : Nat) (ta ha : Nat → Nat) (hb : Nat → Nat → Nat) (ad : Nat → Nat) (t : Nat → Int32) (n : Nat) (G : Nat → Nat → Int32) (g : Nat → Int32) (o z : Nat) (hn : n ≤ 60) (ho : o < 6) (hz : z ≤ 6) (r : Nat) (hr : r < 9) (v : Int32) (h1 : ¬ v < -9) (h2 : v ≤ 9) : cR (fun _ => True) l yX3_ifAdded wsX3_ifAdded rmX3_ifAdded D vwCl (tyA cI cO) [.ref xa, .int (nI r), .int v] ((wS0 xa ad ha ta) ++ ((wT ta cI t (nI n)) ++ ((wHs ha hb cI cO G (nI o) (nI z)) ++ (wB ad cI g)))) (some (.int ((xCh g r v 0).1))) ((wS0 xa ad ha ta) ++ ((wT ta cI t (nI n)) ++ ((wHs ha hb cI cO G (nI o) (nI z)) ++ (wB ad cI g)))) := by
  refine cR_of (cc := cX3_ifAdded) (maxL := 3) (ret := (some .int)) (by decide) rfl (Nat.le_of_ble_eq_true rfl) ?_
  intro p e s m below meth c A C hret hlk hnm hF
  refine g_lv [0, 1, 2] (lv' := [(0, .ref xa), (1, .int (nI r)), (2, .int v)]) rfl ?_
  refine g_iload_n C dX3_ifAdded_0 1 rfl ?_
  refine g_callSv C (c_X3_checkRod l D cI cO r hr) gX3_ifAdded_X3_checkRod rfl ⟨rfl, rfl⟩ hd_X3_checkRod ⟨Nat.le_of_ble_eq_true rfl, Nat.le_of_ble_eq_true rfl⟩ [0, 1] rfl (fun _ _ => trivial) rfl (rest := []) rfl (Nat.le_of_ble_eq_true rfl) dX3_ifAdded_1 ⟨Nat.zero_le _, Nat.zero_le _⟩ (pre := []) (post := ((wS0 xa ad ha ta) ++ ((wT ta cI t (nI n)) ++ ((wHs ha hb cI cO G (nI o) (nI z)) ++ (wB ad cI g))))) (ws' := ((wS0 xa ad ha ta) ++ ((wT ta cI t (nI n)) ++ ((wHs ha hb cI cO G (nI o) (nI z)) ++ (wB ad cI g))))) rfl rfl ?_
  refine g_iload_n C dX3_ifAdded_4 2 rfl ?_
  refine g_bipush C (v := -9) dX3_ifAdded_5 cb_m9 ?_
  refine g_bipush C (v := 9) dX3_ifAdded_7 cb_9 ?_
  refine g_callSv C (c_X3_checkRange l D cI cO v (-9) 9 h1 h2) gX3_ifAdded_X3_checkRange rfl ⟨rfl, rfl⟩ hd_X3_checkRange ⟨Nat.le_of_ble_eq_true rfl, Nat.le_of_ble_eq_true rfl⟩ [0, 1] rfl (fun _ _ => trivial) rfl (rest := []) rfl (Nat.le_of_ble_eq_true rfl) dX3_ifAdded_9 ⟨Nat.zero_le _, Nat.zero_le _⟩ (pre := []) (post := ((wS0 xa ad ha ta) ++ ((wT ta cI t (nI n)) ++ ((wHs ha hb cI cO G (nI o) (nI z)) ++ (wB ad cI g))))) (ws' := ((wS0 xa ad ha ta) ++ ((wT ta cI t (nI n)) ++ ((wHs ha hb cI cO G (nI o) (nI z)) ++ (wB ad cI g))))) rfl rfl ?_
  refine g_aload_n C dX3_ifAdded_12 0 rfl ?_
  refine g_get C (v := .ref (ad 0)) fl_X3_ifAdded_X3 0 rfl rfl 0 (by decide) fw_X3_ifAdded_fld12 rfl dX3_ifAdded_13 ?_
  refine g_iload_n C dX3_ifAdded_16 1 rfl ?_
  refine g_iload_n C dX3_ifAdded_17 2 rfl ?_
  refine g_iconst C (v := 0) dX3_ifAdded_18 ci_0 ?_
  refine g_callVi C (c0_X0_change l D cI cO ad g r hr v) gX3_ifAdded_X0_change rfl ⟨rfl, rfl⟩ hd_X0_change ⟨Nat.le_of_ble_eq_true rfl, Nat.le_of_ble_eq_true rfl⟩ [0, 1] rfl (fun _ _ => trivial) rfl (rest := []) rfl (Nat.le_of_ble_eq_true rfl) dX3_ifAdded_19 ⟨Nat.zero_le _, Nat.zero_le _⟩ 0 rfl rfl rfl (pre := ((wS0 xa ad ha ta) ++ ((wT ta cI t (nI n)) ++ (wHs ha hb cI cO G (nI o) (nI z))))) (post := []) (ws' := ((wS0 xa ad ha ta) ++ ((wT ta cI t (nI n)) ++ ((wHs ha hb cI cO G (nI o) (nI z)) ++ (wB ad cI g))))) rfl rfl ?_
  exact g_iret C hret hlk dX3_ifAdded_22 rfl rfl
theorem fw_X3_toShow_fld12 : Cond.fieldLink RX3 12 "StuckRods" "board" "LStuckRods$Board;" ∈ wsX3_toShow := (List.mem_cons_of_mem _ (List.mem_append_left _ (List.mem_append_left _ (List.mem_append_left _ (List.mem_append_left _ (List.mem_of_getElem? (i := 1) rfl))))))
theorem fl_X3_toShow_X3 : ∀ w ∈ wsX30, w ∈ wsX3_toShow := fun _ h => List.mem_cons_of_mem _ (List.mem_append_left _ (List.mem_append_left _ (List.mem_append_right _ h)))
theorem fw_X3_toShow_const170 : Cond.constant RX3 170 (999999999) ∈ wsX3_toShow := (List.mem_cons_of_mem _ (List.mem_append_left _ (List.mem_append_left _ (List.mem_append_left _ (List.mem_append_left _ (List.mem_of_getElem? (i := 0) rfl))))))
abbrev rmX3_toShow : Room := { frames := 3, cells := 0, slots := 0, locals := 73 }
set_option maxHeartbeats 1000000 in
set_option maxRecDepth 100000 in
theorem c_X3_toShow (l : Launch) (D : va_G) (cI cO : ClassId) (xa : Nat) (ta ha : Nat → Nat) (hb : Nat → Nat → Nat) (ad : Nat → Nat) (t : Nat → Int32) (n : Nat) (G : Nat → Nat → Int32) (g : Nat → Int32) (o z : Nat) (hn : n ≤ 60) (ho : o < 6) (hz : z ≤ 6) (m9 : Nat) (hm9 : m9 ≤ 999999999) : cR (fun _ => True) l yX3_toShow wsX3_toShow rmX3_toShow D vwCl (tyA cI cO) [.ref xa, .int (nI m9)] ((wS0 xa ad ha ta) ++ ((wT ta cI t (nI n)) ++ ((wHs ha hb cI cO G (nI o) (nI z)) ++ (wB ad cI g)))) (some (.int (xTo g 9 0 m9 0))) ((wS0 xa ad ha ta) ++ ((wT ta cI t (nI n)) ++ ((wHs ha hb cI cO G (nI o) (nI z)) ++ (wB ad cI g)))) := by
  refine cR_of (cc := cX3_toShow) (maxL := 6) (ret := (some .int)) (by decide) rfl (Nat.le_of_ble_eq_true rfl) ?_
  intro p e s m below meth c A C hret hlk hnm hF
  refine g_lv [0, 1] (lv' := [(0, .ref xa), (1, .int (nI m9))]) rfl ?_
  have K : ∀ (k q : Nat), k + q = 9 → ∀ (w : Nat) (a : Int32), w ≤ 999999999 → xTo g k q w a = xTo g 9 0 m9 0 → gG p l e rmX3_toShow s m ([.ref xa, .int (nI m9)] : List Value).toArray below meth c D vwCl A s.heap 6 (MQ below (cQ (some (.int (xTo g 9 0 m9 0))) (cB D vwCl (tyA cI cO) A ((wS0 xa ad ha ta) ++ ((wT ta cI t (nI n)) ++ ((wHs ha hb cI cO G (nI o) (nI z)) ++ (wB ad cI g))))) A) ([.ref xa, .int (nI m9)] : List Value).toArray s 0 0 A) 0 0 ((wS0 xa ad ha ta) ++ ((wT ta cI t (nI n)) ++ ((wHs ha hb cI cO G (nI o) (nI z)) ++ (wB ad cI g)))) 14 [(0, .ref xa), (1, .int (nI m9)), (2, .int a), (3, .int (nI w)), (4, .int (nI q))] [] := by
    intro k
    induction k with
    | zero =>
      intro q hn9 w a hw hq
      obtain rfl : q = 9 := by omega
      refine g_iload C dX3_toShow_14 4 rfl ?_
      refine g_bipush C (v := 9) dX3_toShow_16 cb_9 ?_
      refine g_icmp_ge C (tgt := 61) dX3_toShow_18 (by decide) (fun _ => ?_) (fun h18_1 => absurd (by decide) h18_1)
      refine g_iload_n C dX3_toShow_61 2 rfl ?_
      exact g_iret C hret hlk dX3_toShow_62 hq rfl
    | succ k ih =>
      intro q hn9 w a hw hq
      have hq9 : q < 9 := by omega
      refine g_iload C dX3_toShow_14 4 rfl ?_
      refine g_bipush C (v := 9) dX3_toShow_16 cb_9 ?_
      refine g_icmp_ge C (tgt := 61) dX3_toShow_18 (by decide) (fun h18_2 => absurd h18_2 (ge9 hq9)) (fun _ => ?_)
      refine g_aload_n C dX3_toShow_21 0 rfl ?_
      refine g_get C (v := .ref (ad 0)) fl_X3_toShow_X3 0 rfl rfl 0 (by decide) fw_X3_toShow_fld12 rfl dX3_toShow_22 ?_
      refine g_iload C dX3_toShow_25 4 rfl ?_
      refine g_iload_n C dX3_toShow_27 3 rfl ?_
      refine g_bipush C (v := 10) dX3_toShow_28 cb_10 ?_
      refine g_irem C (v := nI (w % 10)) dX3_toShow_30 (by decide) (pk_rem (d := 10) (by omega) (by decide) (by decide)) ?_
      refine g_iconst C (v := 0) dX3_toShow_31 ci_0 ?_
      refine g_callVi C (c0_X0_turn l D cI cO ad g q hq9 (nI (w % 10))) gX3_toShow_X0_turn rfl ⟨rfl, rfl⟩ hd_X0_turn ⟨Nat.le_of_ble_eq_true rfl, Nat.le_of_ble_eq_true rfl⟩ [0, 1] rfl (fun _ _ => trivial) rfl (rest := []) rfl (Nat.le_of_ble_eq_true rfl) dX3_toShow_32 ⟨Nat.zero_le _, Nat.zero_le _⟩ 0 rfl rfl rfl (pre := ((wS0 xa ad ha ta) ++ ((wT ta cI t (nI n)) ++ (wHs ha hb cI cO G (nI o) (nI z))))) (post := []) (ws' := ((wS0 xa ad ha ta) ++ ((wT ta cI t (nI n)) ++ ((wHs ha hb cI cO G (nI o) (nI z)) ++ (wB ad cI g))))) rfl rfl ?_
      refine g_istore C (lv' := [(5, .int (xTv g q (nI (w % 10)))), (0, .ref xa), (1, .int (nI m9)), (2, .int a), (3, .int (nI w)), (4, .int (nI q))]) dX3_toShow_35 (by decide) rfl ?_
      refine g_iload C dX3_toShow_37 0 rfl ?_
      refine g_iconst C (v := -1) dX3_toShow_39 ci_m1 ?_
      refine g_icmp_ne C (tgt := 45) dX3_toShow_40 (by decide) (fun h40_3 => ?_) (fun h40_3 => ?_)
      · refine g_iload_n C dX3_toShow_45 3 rfl ?_
        refine g_iload C dX3_toShow_46 0 rfl ?_
        refine g_iadd C (v := a + (xTv g q (nI (w % 10)))) dX3_toShow_48 rfl ?_
        refine g_istore_n C (lv' := [(2, .int (a + (xTv g q (nI (w % 10))))), (5, .int (xTv g q (nI (w % 10)))), (0, .ref xa), (1, .int (nI m9)), (3, .int (nI w)), (4, .int (nI q))]) dX3_toShow_49 rfl (by decide) rfl ?_
        refine g_iload_n C dX3_toShow_50 4 rfl ?_
        refine g_bipush C (v := 10) dX3_toShow_51 cb_10 ?_
        refine g_idiv C (v := nI (w / 10)) dX3_toShow_53 (by decide) (pk_div (d := 10) (by omega) (by decide) (by decide)) ?_
        refine g_istore_n C (lv' := [(3, .int (nI (w / 10))), (2, .int (a + (xTv g q (nI (w % 10))))), (5, .int (xTv g q (nI (w % 10)))), (0, .ref xa), (1, .int (nI m9)), (4, .int (nI q))]) dX3_toShow_54 rfl (by decide) rfl ?_
        refine g_iinc C (v := nI (q + 1)) (lv' := [(4, .int (nI (q + 1))), (3, .int (nI (w / 10))), (2, .int (a + (xTv g q (nI (w % 10))))), (5, .int (xTv g q (nI (w % 10)))), (0, .ref xa), (1, .int (nI m9))]) dX3_toShow_55 5 rfl (inc_nI _) (by decide) rfl ?_
        refine g_goto C (tgt := 14) dX3_toShow_58 (by decide) ?_
        refine g_lv [4, 5, 2, 1, 0] (lv' := [(0, .ref xa), (1, .int (nI m9)), (2, .int (a + (xTv g q (nI (w % 10))))), (3, .int (nI (w / 10))), (4, .int (nI (q + 1)))]) rfl ?_
        exact ih (q + 1) (by omega) _ _ (by omega) (by rw [← hq]; simp only [xTo, h40_3, Bool.false_eq_true, not_false_eq_true, not_true_eq_false, and_self, and_true, true_and, and_false, false_and, or_true, true_or, or_false, false_or, or_self, if_true, if_false, eq_self, ite_true, ite_false, reduceIte])
      · refine g_iconst C (v := -1) dX3_toShow_43 ci_m1 ?_
        exact g_iret C hret hlk dX3_toShow_44 (by rw [← hq]; simp only [xTo, eq_true h40_3, Bool.false_eq_true, not_false_eq_true, not_true_eq_false, and_self, and_true, true_and, and_false, false_and, or_true, true_or, or_false, false_or, or_self, if_true, if_false, eq_self, ite_true, ite_false, reduceIte]) rfl
  refine g_iload_n C dX3_toShow_0 1 rfl ?_
  refine g_iconst C (v := 0) dX3_toShow_1 ci_0 ?_
  refine g_ldc C (v := 999999999) dX3_toShow_2 fw_X3_toShow_const170 ?_
  refine g_callSv C (c_X3_checkRange l D cI cO (nI m9) 0 999999999 (nI_pos (by omega)) (leI (b := 999999999) hm9 (by decide))) gX3_toShow_X3_checkRange rfl ⟨rfl, rfl⟩ hd_X3_checkRange ⟨Nat.le_of_ble_eq_true rfl, Nat.le_of_ble_eq_true rfl⟩ [0, 1] rfl (fun _ _ => trivial) rfl (rest := []) rfl (Nat.le_of_ble_eq_true rfl) dX3_toShow_4 ⟨Nat.zero_le _, Nat.zero_le _⟩ (pre := []) (post := ((wS0 xa ad ha ta) ++ ((wT ta cI t (nI n)) ++ ((wHs ha hb cI cO G (nI o) (nI z)) ++ (wB ad cI g))))) (ws' := ((wS0 xa ad ha ta) ++ ((wT ta cI t (nI n)) ++ ((wHs ha hb cI cO G (nI o) (nI z)) ++ (wB ad cI g))))) rfl rfl ?_
  refine g_iconst C (v := 0) dX3_toShow_7 ci_0 ?_
  refine g_istore_n C (lv' := [(2, .int 0), (0, .ref xa), (1, .int (nI m9))]) dX3_toShow_8 rfl (by decide) rfl ?_
  refine g_iload_n C dX3_toShow_9 2 rfl ?_
  refine g_istore_n C (lv' := [(3, .int (nI m9)), (2, .int 0), (0, .ref xa), (1, .int (nI m9))]) dX3_toShow_10 rfl (by decide) rfl ?_
  refine g_iconst C (v := 0) dX3_toShow_11 ci_0 ?_
  refine g_istore C (lv' := [(4, .int 0), (3, .int (nI m9)), (2, .int 0), (0, .ref xa), (1, .int (nI m9))]) dX3_toShow_12 (by decide) rfl ?_
  refine g_lv [3, 4, 2, 1, 0] (lv' := [(0, .ref xa), (1, .int (nI m9)), (2, .int 0), (3, .int (nI m9)), (4, .int 0)]) rfl ?_
  exact K 9 0 rfl m9 0 hm9 rfl
theorem fw_X3_cheapestLoan_fld12 : Cond.fieldLink RX3 12 "StuckRods" "board" "LStuckRods$Board;" ∈ wsX3_cheapestLoan := (List.mem_cons_of_mem _ (List.mem_append_left _ (List.mem_append_left _ (List.mem_append_left _ (List.mem_of_getElem? (i := 0) rfl)))))
theorem fl_X3_cheapestLoan_X3 : ∀ w ∈ wsX30, w ∈ wsX3_cheapestLoan := fun _ h => List.mem_cons_of_mem _ (List.mem_append_left _ (List.mem_append_right _ h))
theorem fw_X3_cheapestLoan_fld69 : Cond.fieldLink RX3 69 "StuckRods$Board" "loan" "[I" ∈ wsX3_cheapestLoan := (List.mem_cons_of_mem _ (List.mem_append_left _ (List.mem_append_left _ (List.mem_append_left _ (List.mem_of_getElem? (i := 1) rfl)))))
theorem fl_X3_cheapestLoan_X0 : ∀ w ∈ wsX00, w ∈ wsX3_cheapestLoan := fun _ h => List.mem_cons_of_mem _ (List.mem_append_right _ h)
abbrev rmX3_cheapestLoan : Room := { frames := 5, cells := 0, slots := 0, locals := 125 }
set_option maxHeartbeats 1000000 in
set_option maxRecDepth 100000 in
theorem c_X3_cheapestLoan (l : Launch) (D : va_G) (cI cO : ClassId) (xa : Nat) (ta ha : Nat → Nat) (hb : Nat → Nat → Nat) (ad : Nat → Nat) (t : Nat → Int32) (n : Nat) (G : Nat → Nat → Int32) (g : Nat → Int32) (o z : Nat) (hn : n ≤ 60) (ho : o < 6) (hz : z ≤ 6)  : cR (fun _ => True) l yX3_cheapestLoan wsX3_cheapestLoan rmX3_cheapestLoan D vwCl (tyA cI cO) [.ref xa] ((wS0 xa ad ha ta) ++ ((wT ta cI t (nI n)) ++ ((wHs ha hb cI cO G (nI o) (nI z)) ++ (wB ad cI g)))) (some (.int ((xCp g 9).1))) ((wS0 xa ad ha ta) ++ ((wT ta cI t (nI n)) ++ ((wHs ha hb cI cO G (nI o) (nI z)) ++ (wB ad cI g)))) := by
  refine cR_of (cc := cX3_cheapestLoan) (maxL := 5) (ret := (some .int)) (by decide) rfl (Nat.le_of_ble_eq_true rfl) ?_
  intro p e s m below meth c A C hret hlk hnm hF
  refine g_lv [0] (lv' := [(0, .ref xa)]) rfl ?_
  have K : ∀ (k q : Nat), k + q = 9 → gG p l e rmX3_cheapestLoan s m ([.ref xa] : List Value).toArray below meth c D vwCl A s.heap 5 (MQ below (cQ (some (.int ((xCp g 9).1))) (cB D vwCl (tyA cI cO) A ((wS0 xa ad ha ta) ++ ((wT ta cI t (nI n)) ++ ((wHs ha hb cI cO G (nI o) (nI z)) ++ (wB ad cI g))))) A) ([.ref xa] : List Value).toArray s 0 0 A) 0 0 ((wS0 xa ad ha ta) ++ ((wT ta cI t (nI n)) ++ ((wHs ha hb cI cO G (nI o) (nI z)) ++ (wB ad cI g)))) 6 [(0, .ref xa), (1, .int ((xCp g q).1)), (2, .int ((xCp g q).2)), (3, .int (nI q))] [] := by
    intro k
    induction k with
    | zero =>
      intro q hn9
      obtain rfl : 9 = q := by omega
      refine g_iload_n C dX3_cheapestLoan_6 3 rfl ?_
      refine g_bipush C (v := 9) dX3_cheapestLoan_7 cb_9 ?_
      refine g_icmp_ge C (tgt := 72) dX3_cheapestLoan_9 (by decide) (fun _ => ?_) (fun h9_1 => absurd (by decide) h9_1)
      refine g_iload_n C dX3_cheapestLoan_72 1 rfl ?_
      exact g_iret C hret hlk dX3_cheapestLoan_73 rfl rfl
    | succ k ih =>
      intro q hn9
      have hq9 : q < 9 := by omega
      refine g_iload_n C dX3_cheapestLoan_6 3 rfl ?_
      refine g_bipush C (v := 9) dX3_cheapestLoan_7 cb_9 ?_
      refine g_icmp_ge C (tgt := 72) dX3_cheapestLoan_9 (by decide) (fun h9_2 => absurd h9_2 (ge9 hq9)) (fun _ => ?_)
      refine g_aload_n C dX3_cheapestLoan_12 0 rfl ?_
      refine g_get C (v := .ref (ad 0)) fl_X3_cheapestLoan_X3 0 rfl rfl 0 (by decide) fw_X3_cheapestLoan_fld12 rfl dX3_cheapestLoan_13 ?_
      refine g_get C (v := .ref (ad 4)) fl_X3_cheapestLoan_X0 47 rfl rfl 3 (by decide) fw_X3_cheapestLoan_fld69 rfl dX3_cheapestLoan_16 ?_
      refine g_iload_n C dX3_cheapestLoan_19 3 rfl ?_
      refine g_iald C (x := g (6 * q + 3)) 51 0 rfl rfl q rfl hq9 (by decide) rfl dX3_cheapestLoan_20 ?_
      refine g_if_eq C (tgt := 66) dX3_cheapestLoan_21 (by decide) (fun h21_3 => ?_) (fun h21_3 => ?_)
      · refine g_iinc C (v := nI (q + 1)) (lv' := [(3, .int (nI (q + 1))), (0, .ref xa), (1, .int ((xCp g q).1)), (2, .int ((xCp g q).2))]) dX3_cheapestLoan_66 3 rfl (inc_nI _) (by decide) rfl ?_
        refine g_goto C (tgt := 6) dX3_cheapestLoan_69 (by decide) ?_
        refine g_lv [1, 2, 3, 0] (lv' := [(0, .ref xa), (1, .int ((xCp g q).1)), (2, .int ((xCp g q).2)), (3, .int (nI (q + 1)))]) rfl ?_
        have i9 := ih (q + 1) (by omega)
        rw [show xCp g (q + 1) = ((xCp g q).1, (xCp g q).2) by simp only [xCp, eq_true h21_3, Bool.false_eq_true, not_false_eq_true, not_true_eq_false, and_self, and_true, true_and, and_false, false_and, or_true, true_or, or_false, false_or, or_self, if_true, if_false, eq_self, ite_true, ite_false, reduceIte]] at i9
        exact i9
      · refine g_aload_n C dX3_cheapestLoan_24 0 rfl ?_
        refine g_get C (v := .ref (ad 0)) fl_X3_cheapestLoan_X3 0 rfl rfl 0 (by decide) fw_X3_cheapestLoan_fld12 rfl dX3_cheapestLoan_25 ?_
        refine g_iload_n C dX3_cheapestLoan_28 3 rfl ?_
        refine g_aload_n C dX3_cheapestLoan_29 0 rfl ?_
        refine g_get C (v := .ref (ad 0)) fl_X3_cheapestLoan_X3 0 rfl rfl 0 (by decide) fw_X3_cheapestLoan_fld12 rfl dX3_cheapestLoan_30 ?_
        refine g_get C (v := .ref (ad 4)) fl_X3_cheapestLoan_X0 47 rfl rfl 3 (by decide) fw_X3_cheapestLoan_fld69 rfl dX3_cheapestLoan_33 ?_
        refine g_iload_n C dX3_cheapestLoan_36 3 rfl ?_
        refine g_iald C (x := g (6 * q + 3)) 51 0 rfl rfl q rfl hq9 (by decide) rfl dX3_cheapestLoan_37 ?_
        refine g_iconst C (v := 0) dX3_cheapestLoan_38 ci_0 ?_
        refine g_callVi C (c0_X0_change l D cI cO ad g q hq9 (g (6 * q + 3))) gX3_cheapestLoan_X0_change rfl ⟨rfl, rfl⟩ hd_X0_change ⟨Nat.le_of_ble_eq_true rfl, Nat.le_of_ble_eq_true rfl⟩ [0, 1] rfl (fun _ _ => trivial) rfl (rest := []) rfl (Nat.le_of_ble_eq_true rfl) dX3_cheapestLoan_39 ⟨Nat.zero_le _, Nat.zero_le _⟩ 0 rfl rfl rfl (pre := ((wS0 xa ad ha ta) ++ ((wT ta cI t (nI n)) ++ (wHs ha hb cI cO G (nI o) (nI z))))) (post := []) (ws' := ((wS0 xa ad ha ta) ++ ((wT ta cI t (nI n)) ++ ((wHs ha hb cI cO G (nI o) (nI z)) ++ (wB ad cI g))))) rfl rfl ?_
        refine g_istore C (lv' := [(4, .int ((xCh g q (g (6 * q + 3)) 0).1)), (0, .ref xa), (1, .int ((xCp g q).1)), (2, .int ((xCp g q).2)), (3, .int (nI q))]) dX3_cheapestLoan_42 (by decide) rfl ?_
        refine g_iload C dX3_cheapestLoan_44 0 rfl ?_
        refine g_iconst C (v := -1) dX3_cheapestLoan_46 ci_m1 ?_
        refine g_icmp_eq C (tgt := 66) dX3_cheapestLoan_47 (by decide) (fun h47_4 => ?_) (fun h47_4 => ?_)
        · refine g_iinc C (v := nI (q + 1)) (lv' := [(3, .int (nI (q + 1))), (4, .int ((xCh g q (g (6 * q + 3)) 0).1)), (0, .ref xa), (1, .int ((xCp g q).1)), (2, .int ((xCp g q).2))]) dX3_cheapestLoan_66 4 rfl (inc_nI _) (by decide) rfl ?_
          refine g_goto C (tgt := 6) dX3_cheapestLoan_69 (by decide) ?_
          refine g_lv [2, 3, 4, 0] (lv' := [(0, .ref xa), (1, .int ((xCp g q).1)), (2, .int ((xCp g q).2)), (3, .int (nI (q + 1)))]) rfl ?_
          have i9 := ih (q + 1) (by omega)
          rw [show xCp g (q + 1) = ((xCp g q).1, (xCp g q).2) by simp only [xCp, h21_3, eq_true h47_4, Bool.false_eq_true, not_false_eq_true, not_true_eq_false, and_self, and_true, true_and, and_false, false_and, or_true, true_or, or_false, false_or, or_self, if_true, if_false, eq_self, ite_true, ite_false, reduceIte]] at i9
          exact i9
        · refine g_iload_n C dX3_cheapestLoan_50 2 rfl ?_
          refine g_iconst C (v := -1) dX3_cheapestLoan_51 ci_m1 ?_
          refine g_icmp_eq C (tgt := 61) dX3_cheapestLoan_52 (by decide) (fun h52_5 => ?_) (fun h52_5 => ?_)
          · refine g_iload_n C dX3_cheapestLoan_61 4 rfl ?_
            refine g_istore_n C (lv' := [(1, .int (nI q)), (4, .int ((xCh g q (g (6 * q + 3)) 0).1)), (0, .ref xa), (2, .int ((xCp g q).2)), (3, .int (nI q))]) dX3_cheapestLoan_62 rfl (by decide) rfl ?_
            refine g_iload C dX3_cheapestLoan_63 1 rfl ?_
            refine g_istore_n C (lv' := [(2, .int ((xCh g q (g (6 * q + 3)) 0).1)), (1, .int (nI q)), (4, .int ((xCh g q (g (6 * q + 3)) 0).1)), (0, .ref xa), (3, .int (nI q))]) dX3_cheapestLoan_65 rfl (by decide) rfl ?_
            refine g_iinc C (v := nI (q + 1)) (lv' := [(3, .int (nI (q + 1))), (2, .int ((xCh g q (g (6 * q + 3)) 0).1)), (1, .int (nI q)), (4, .int ((xCh g q (g (6 * q + 3)) 0).1)), (0, .ref xa)]) dX3_cheapestLoan_66 4 rfl (inc_nI _) (by decide) rfl ?_
            refine g_goto C (tgt := 6) dX3_cheapestLoan_69 (by decide) ?_
            refine g_lv [4, 2, 1, 0] (lv' := [(0, .ref xa), (1, .int (nI q)), (2, .int ((xCh g q (g (6 * q + 3)) 0).1)), (3, .int (nI (q + 1)))]) rfl ?_
            have i9 := ih (q + 1) (by omega)
            rw [show xCp g (q + 1) = (nI q, (xCh g q (g (6 * q + 3)) 0).1) by simp only [xCp, h21_3, h47_4, eq_true h52_5, Bool.false_eq_true, not_false_eq_true, not_true_eq_false, and_self, and_true, true_and, and_false, false_and, or_true, true_or, or_false, false_or, or_self, if_true, if_false, eq_self, ite_true, ite_false, reduceIte]] at i9
            exact i9
          · refine g_iload C dX3_cheapestLoan_55 0 rfl ?_
            refine g_iload_n C dX3_cheapestLoan_57 3 rfl ?_
            refine g_icmp_ge C (tgt := 66) dX3_cheapestLoan_58 (by decide) (fun h58_6 => ?_) (fun h58_6 => ?_)
            · refine g_iinc C (v := nI (q + 1)) (lv' := [(3, .int (nI (q + 1))), (4, .int ((xCh g q (g (6 * q + 3)) 0).1)), (0, .ref xa), (1, .int ((xCp g q).1)), (2, .int ((xCp g q).2))]) dX3_cheapestLoan_66 4 rfl (inc_nI _) (by decide) rfl ?_
              refine g_goto C (tgt := 6) dX3_cheapestLoan_69 (by decide) ?_
              refine g_lv [2, 3, 4, 0] (lv' := [(0, .ref xa), (1, .int ((xCp g q).1)), (2, .int ((xCp g q).2)), (3, .int (nI (q + 1)))]) rfl ?_
              have i9 := ih (q + 1) (by omega)
              rw [show xCp g (q + 1) = ((xCp g q).1, (xCp g q).2) by simp only [xCp, h21_3, h47_4, h52_5, eq_true h58_6, Bool.false_eq_true, not_false_eq_true, not_true_eq_false, and_self, and_true, true_and, and_false, false_and, or_true, true_or, or_false, false_or, or_self, if_true, if_false, eq_self, ite_true, ite_false, reduceIte]] at i9
              exact i9
            · refine g_iload_n C dX3_cheapestLoan_61 4 rfl ?_
              refine g_istore_n C (lv' := [(1, .int (nI q)), (4, .int ((xCh g q (g (6 * q + 3)) 0).1)), (0, .ref xa), (2, .int ((xCp g q).2)), (3, .int (nI q))]) dX3_cheapestLoan_62 rfl (by decide) rfl ?_
              refine g_iload C dX3_cheapestLoan_63 1 rfl ?_
              refine g_istore_n C (lv' := [(2, .int ((xCh g q (g (6 * q + 3)) 0).1)), (1, .int (nI q)), (4, .int ((xCh g q (g (6 * q + 3)) 0).1)), (0, .ref xa), (3, .int (nI q))]) dX3_cheapestLoan_65 rfl (by decide) rfl ?_
              refine g_iinc C (v := nI (q + 1)) (lv' := [(3, .int (nI (q + 1))), (2, .int ((xCh g q (g (6 * q + 3)) 0).1)), (1, .int (nI q)), (4, .int ((xCh g q (g (6 * q + 3)) 0).1)), (0, .ref xa)]) dX3_cheapestLoan_66 4 rfl (inc_nI _) (by decide) rfl ?_
              refine g_goto C (tgt := 6) dX3_cheapestLoan_69 (by decide) ?_
              refine g_lv [4, 2, 1, 0] (lv' := [(0, .ref xa), (1, .int (nI q)), (2, .int ((xCh g q (g (6 * q + 3)) 0).1)), (3, .int (nI (q + 1)))]) rfl ?_
              have i9 := ih (q + 1) (by omega)
              rw [show xCp g (q + 1) = (nI q, (xCh g q (g (6 * q + 3)) 0).1) by simp only [xCp, h21_3, h47_4, h52_5, h58_6, Bool.false_eq_true, not_false_eq_true, not_true_eq_false, and_self, and_true, true_and, and_false, false_and, or_true, true_or, or_false, false_or, or_self, if_true, if_false, eq_self, ite_true, ite_false, reduceIte]] at i9
              exact i9
  refine g_iconst C (v := -1) dX3_cheapestLoan_0 ci_m1 ?_
  refine g_istore_n C (lv' := [(1, .int (-1)), (0, .ref xa)]) dX3_cheapestLoan_1 rfl (by decide) rfl ?_
  refine g_iconst C (v := 0) dX3_cheapestLoan_2 ci_0 ?_
  refine g_istore_n C (lv' := [(2, .int 0), (1, .int (-1)), (0, .ref xa)]) dX3_cheapestLoan_3 rfl (by decide) rfl ?_
  refine g_iconst C (v := 0) dX3_cheapestLoan_4 ci_0 ?_
  refine g_istore_n C (lv' := [(3, .int 0), (2, .int 0), (1, .int (-1)), (0, .ref xa)]) dX3_cheapestLoan_5 rfl (by decide) rfl ?_
  refine g_lv [3, 2, 1, 0] (lv' := [(0, .ref xa), (1, .int (-1)), (2, .int 0), (3, .int 0)]) rfl ?_
  exact K 9 0 rfl
theorem fw_X3_looseness_const171 : Cond.constantDouble RX3 171 (4639270566145032192) ∈ wsX3_looseness := (List.mem_cons_of_mem _ (List.mem_append_left _ (List.mem_append_left _ (List.mem_append_left _ (List.mem_of_getElem? (i := 1) rfl)))))
theorem fw_X3_looseness_fld12 : Cond.fieldLink RX3 12 "StuckRods" "board" "LStuckRods$Board;" ∈ wsX3_looseness := (List.mem_cons_of_mem _ (List.mem_append_left _ (List.mem_append_left _ (List.mem_append_left _ (List.mem_of_getElem? (i := 0) rfl)))))
theorem fl_X3_looseness_X3 : ∀ w ∈ wsX30, w ∈ wsX3_looseness := fun _ h => List.mem_cons_of_mem _ (List.mem_append_left _ (List.mem_append_right _ h))
abbrev rmX3_looseness : Room := { frames := 4, cells := 0, slots := 0, locals := 96 }
set_option maxHeartbeats 1000000 in
set_option maxRecDepth 100000 in
theorem c_X3_looseness (l : Launch) (D : va_G) (cI cO : ClassId) (xa : Nat) (ta ha : Nat → Nat) (hb : Nat → Nat → Nat) (ad : Nat → Nat) (t : Nat → Int32) (n : Nat) (G : Nat → Nat → Int32) (g : Nat → Int32) (o z : Nat) (hn : n ≤ 60) (ho : o < 6) (hz : z ≤ 6)  : cR (fun _ => True) l yX3_looseness wsX3_looseness rmX3_looseness D vwCl (tyA cI cO) [.ref xa] ((wS0 xa ad ha ta) ++ ((wT ta cI t (nI n)) ++ ((wHs ha hb cI cO G (nI o) (nI z)) ++ (wB ad cI g)))) (some (.double (xLo g))) ((wS0 xa ad ha ta) ++ ((wT ta cI t (nI n)) ++ ((wHs ha hb cI cO G (nI o) (nI z)) ++ (wB ad cI g)))) := by
  refine cR_of (cc := cX3_looseness) (maxL := 3) (ret := (some .double)) (by decide) rfl (Nat.le_of_ble_eq_true rfl) ?_
  intro p e s m below meth c A C hret hlk hnm hF
  refine g_lv [0] (lv' := [(0, .ref xa)]) rfl ?_
  have K : ∀ (k q : Nat), k + q = 9 → gG p l e rmX3_looseness s m ([.ref xa] : List Value).toArray below meth c D vwCl A s.heap 3 (MQ below (cQ (some (.double (xLo g))) (cB D vwCl (tyA cI cO) A ((wS0 xa ad ha ta) ++ ((wT ta cI t (nI n)) ++ ((wHs ha hb cI cO G (nI o) (nI z)) ++ (wB ad cI g))))) A) ([.ref xa] : List Value).toArray s 0 0 A) 0 0 ((wS0 xa ad ha ta) ++ ((wT ta cI t (nI n)) ++ ((wHs ha hb cI cO G (nI o) (nI z)) ++ (wB ad cI g)))) 4 [(0, .ref xa), (1, .int (xSu (fun j => xRe g j 16) q)), (2, .int (nI q))] [] := by
    intro k
    induction k with
    | zero =>
      intro q hn9
      obtain rfl : 9 = q := by omega
      refine g_iload_n C dX3_looseness_4 2 rfl ?_
      refine g_bipush C (v := 9) dX3_looseness_5 cb_9 ?_
      refine g_icmp_ge C (tgt := 27) dX3_looseness_7 (by decide) (fun _ => ?_) (fun h7_1 => absurd (by decide) h7_1)
      refine g_iload_n C dX3_looseness_27 1 rfl ?_
      refine g_i2d C (v := FP.i2d (xSu (fun j => xRe g j 16) 9)) dX3_looseness_28 rfl ?_
      refine g_ldc2d C (v := 4639270566145032192) dX3_looseness_29 fw_X3_looseness_const171 ?_
      refine g_ddiv C (v := FP.ddiv (FP.i2d (xSu (fun j => xRe g j 16) 9)) 4639270566145032192) dX3_looseness_32 (xLo_ok g) rfl ?_
      exact g_dret C hret hlk dX3_looseness_33 rfl rfl
    | succ k ih =>
      intro q hn9
      have hq9 : q < 9 := by omega
      refine g_iload_n C dX3_looseness_4 2 rfl ?_
      refine g_bipush C (v := 9) dX3_looseness_5 cb_9 ?_
      refine g_icmp_ge C (tgt := 27) dX3_looseness_7 (by decide) (fun h7_2 => absurd h7_2 (ge9 hq9)) (fun _ => ?_)
      refine g_iload_n C dX3_looseness_10 1 rfl ?_
      refine g_aload_n C dX3_looseness_11 0 rfl ?_
      refine g_get C (v := .ref (ad 0)) fl_X3_looseness_X3 0 rfl rfl 0 (by decide) fw_X3_looseness_fld12 rfl dX3_looseness_12 ?_
      refine g_iload_n C dX3_looseness_15 2 rfl ?_
      refine g_callVi C (c_X0_reach l D cI cO ad g q hq9) gX3_looseness_X0_reach rfl ⟨rfl, rfl⟩ hd_X0_reach ⟨Nat.le_of_ble_eq_true rfl, Nat.le_of_ble_eq_true rfl⟩ [0, 1] rfl (fun _ _ => trivial) rfl (rest := [.int (xSu (fun j => xRe g j 16) q)]) rfl (Nat.le_of_ble_eq_true rfl) dX3_looseness_16 ⟨Nat.zero_le _, Nat.zero_le _⟩ 0 rfl rfl rfl (pre := ((wS0 xa ad ha ta) ++ ((wT ta cI t (nI n)) ++ (wHs ha hb cI cO G (nI o) (nI z))))) (post := []) (ws' := ((wS0 xa ad ha ta) ++ ((wT ta cI t (nI n)) ++ ((wHs ha hb cI cO G (nI o) (nI z)) ++ (wB ad cI g))))) rfl rfl ?_
      refine g_iadd C (v := (xSu (fun j => xRe g j 16) q) + (xRe g q 16)) dX3_looseness_19 rfl ?_
      refine g_istore_n C (lv' := [(1, .int ((xSu (fun j => xRe g j 16) q) + (xRe g q 16))), (0, .ref xa), (2, .int (nI q))]) dX3_looseness_20 rfl (by decide) rfl ?_
      refine g_iinc C (v := nI (q + 1)) (lv' := [(2, .int (nI (q + 1))), (1, .int ((xSu (fun j => xRe g j 16) q) + (xRe g q 16))), (0, .ref xa)]) dX3_looseness_21 2 rfl (inc_nI _) (by decide) rfl ?_
      refine g_goto C (tgt := 4) dX3_looseness_24 (by decide) ?_
      refine g_lv [2, 1, 0] (lv' := [(0, .ref xa), (1, .int ((xSu (fun j => xRe g j 16) q) + (xRe g q 16))), (2, .int (nI (q + 1)))]) rfl ?_
      exact ih (q + 1) (by omega)
  refine g_iconst C (v := 0) dX3_looseness_0 ci_0 ?_
  refine g_istore_n C (lv' := [(1, .int 0), (0, .ref xa)]) dX3_looseness_1 rfl (by decide) rfl ?_
  refine g_iconst C (v := 0) dX3_looseness_2 ci_0 ?_
  refine g_istore_n C (lv' := [(2, .int 0), (1, .int 0), (0, .ref xa)]) dX3_looseness_3 rfl (by decide) rfl ?_
  refine g_lv [2, 1, 0] (lv' := [(0, .ref xa), (1, .int 0), (2, .int 0)]) rfl ?_
  exact K 9 0 rfl
end
section
/-! ===== what the class's own words mean: ranges, the whole number, carries ===== -/
def Rd9 (g : Nat → Int32) (r : Nat) : Prop := ∃ F O S L : Nat, F ≤ 2 ∧ O ≤ 5 ∧ S ≤ 3 ∧ L ≤ 18 ∧ g (6 * r + 1) = nI F ∧ g (6 * r + 2) = nI O ∧ g (6 * r + 4) = nI S ∧ g (6 * r + 3) = nI L - 9
def Iv (g : Nat → Int32) : Prop := (∀ r, r < 9 → Rd9 g r) ∧ ∃ m : Nat, m ≤ 9 ∧ g 0 = nI m
theorem nIm1 {k : Nat} (h : k < 2 ^ 31) : ¬ nI k = -1 := fun z => nI_pos h (by rw [z]; decide)
def mbE (F O S f o : Int32) : Int32 := if o < 0 then (-1 : Int32) else if ¬ o ≤ 5 then -1 else if ¬ xAb (f - F) ≤ 0 ∧ ¬ S &&& 1 = 0 then -1 else if ¬ xAb (o - O) ≤ 0 ∧ ¬ S &&& 2 = 0 then -1 else xAb (f - F) + xAb (o - O)
def tA (F O S f o : Nat) : Bool := decide ((mbE (nI F) (nI O) (nI S) (nI f) (nI o) = -1 ∨ mbE (nI F) (nI O) (nI S) (nI f) (nI o) = nI ((f - F) + (F - f) + ((o - O) + (O - o)))) ∧ ((nI S &&& 1 = 1 → f = F) → (nI S &&& 2 = 2 → o = O) → ¬ mbE (nI F) (nI O) (nI S) (nI f) (nI o) = -1))
theorem eTab : ∀ F, F < 3 → ∀ O, O < 6 → ∀ S, S < 4 → ∀ f, f < 3 → ∀ o, o < 6 → tA F O S f o = true := by decide +kernel
theorem eMb {g : Nat → Int32} {r f o : Nat} (hR : Rd9 g r) (hf : f ≤ 2) (ho : o ≤ 5) : xMb g r (nI f) (nI o) = -1 ∨ ∃ k : Nat, k ≤ 7 ∧ xMb g r (nI f) (nI o) = nI k := by
  obtain ⟨F, O, S, L, hF, hO, hS, -, e1, e2, e4, -⟩ := hR
  have h := (of_decide_eq_true (eTab F (by omega) O (by omega) S (by omega) f (by omega) o (by omega))).1
  rw [← e1, ← e2, ← e4] at h
  rcases h with h | h
  · exact Or.inl h
  · exact Or.inr ⟨_, by omega, h⟩
theorem eMbN {g : Nat → Int32} {r f o : Nat} (hR : Rd9 g r) (hf : f ≤ 2) (ho : o ≤ 5) (h1 : g (6 * r + 4) &&& 1 = 1 → nI f = g (6 * r + 1)) (h2 : g (6 * r + 4) &&& 2 = 2 → nI o = g (6 * r + 2)) : ¬ xMb g r (nI f) (nI o) = -1 := by
  obtain ⟨F, O, S, L, hF, hO, hS, -, e1, e2, e4, -⟩ := hR
  have h := (of_decide_eq_true (eTab F (by omega) O (by omega) S (by omega) f (by omega) o (by omega))).2
  rw [e4, e1] at h1
  rw [e4, e2] at h2
  have h := h (fun z => (nI_eq (by omega) (by omega)).mp (h1 z)) (fun z => (nI_eq (by omega) (by omega)).mp (h2 z))
  rw [← e1, ← e2, ← e4] at h
  exact h
def eR (v : Int32) (q : Int32 × Int32) : Prop := q = (-1, 0) ∨ ∃ f k o : Nat, f ≤ 2 ∧ k ≤ 7 ∧ o ≤ 5 ∧ q = (nI k, nI f) ∧ v - 5 * nI f = nI o
theorem eStep {g : Nat → Int32} {r : Nat} {v : Int32} {q : Int32 × Int32} (hR : Rd9 g r) {f : Nat} (hf : f ≤ 2) (h : eR v q) : eR v (xTs g r v (nI f) q) := by
  unfold xTs
  by_cases hc : ¬ xMb g r (nI f) (v - 5 * nI f) = -1 ∧ (q.1 = -1 ∨ ¬ q.1 ≤ xMb g r (nI f) (v - 5 * nI f))
  · rw [if_pos hc]
    have h1 : ¬ v - 5 * nI f < 0 := fun z => hc.1 (if_pos z)
    have h2 : v - 5 * nI f ≤ 5 := Decidable.byContradiction fun z => hc.1 (by unfold xMb; rw [if_neg h1, if_pos z])
    obtain ⟨o, ho, eo⟩ := nI_of2 (M := 5) (n := 5) rfl h1 h2
    rcases eMb (g := g) (r := r) hR hf ho with e | ⟨k, hk, e⟩
    · exact absurd (by rw [eo]; exact e) hc.1
    · exact Or.inr ⟨f, k, o, hf, hk, ho, by rw [eo, e], eo⟩
  · rw [if_neg hc]; exact h
theorem eTV {g : Nat → Int32} {r : Nat} (hR : Rd9 g r) (v : Int32) : eR v (xTq g r v) :=
  eStep (f := 0) hR (by decide) (eStep (f := 1) hR (by decide) (eStep (f := 2) hR (by decide) (Or.inl rfl)))
/-- a rod that comes to show a number, or cannot -/
theorem eT {g : Nat → Int32} {r : Nat} (hR : Rd9 g r) (v : Int32) :
    xTv g r v = -1 ∨ ∃ f k o : Nat, f ≤ 2 ∧ k ≤ 7 ∧ o ≤ 5 ∧ xTv g r v = nI k ∧ v = nI (5 * f + o) ∧ xTn g r v 1 = xPl g r (nI f) (nI o) (nI k) := by
  rcases eTV hR v with e1 | ⟨f, k, o, hf, hk, ho, e1, e4⟩
  · exact Or.inl (by unfold xTv; rw [e1])
  · refine Or.inr ⟨f, k, o, hf, hk, ho, by unfold xTv; rw [e1], ?_, ?_⟩
    · have h : v = v - 5 * nI f + 5 * nI f := (Int32.sub_add_cancel _ _).symm
      rw [e4] at h
      rw [h, show (5 : Int32) = nI 5 from rfl, pk_mul, nI_add, Nat.add_comm]
    · unfold xTn
      rw [if_neg (by decide), e1]
      dsimp only
      rw [if_neg (nIm1 (by omega)), e4]
theorem eT_lt {g : Nat → Int32} {r : Nat} (hR : Rd9 g r) (v : Int32) : xTv g r v < 0 ↔ xTv g r v = -1 := by
  rcases eT hR v with e | ⟨f, k, o, hf, hk, ho, e, -⟩
  · rw [e]; decide
  · rw [e]; exact ⟨fun z => absurd z (nI_pos (by omega)), fun z => absurd z (nIm1 (by omega))⟩
theorem xPl_at (g : Nat → Int32) (r : Nat) (f o q : Int32) (j : Nat) : xPl g r f o q j = if j = 6 * r + 5 then g (6 * r + 5) + q else if j = 6 * r + 2 then o else if j = 6 * r + 1 then f else g j := by
  unfold xPl upd
  have h1 : ¬ 6 * r + 5 = 6 * r + 2 := by omega
  have h2 : ¬ 6 * r + 5 = 6 * r + 1 := by omega
  simp only [h1, h2, if_false]
theorem xPl_un {g : Nat → Int32} {r : Nat} {f o q : Int32} {j : Nat} (h5 : ¬ j = 6 * r + 5) (h2 : ¬ j = 6 * r + 2) (h1 : ¬ j = 6 * r + 1) : xPl g r f o q j = g j := by
  rw [xPl_at, if_neg h5, if_neg h2, if_neg h1]
theorem eIvPl {g : Nat → Int32} {r f o : Nat} {q : Int32} (h : Iv g) (hf : f ≤ 2) (ho : o ≤ 5) : Iv (xPl g r (nI f) (nI o) q) := by
  refine ⟨fun r1 hr1 => ?_, ?_⟩
  · obtain ⟨F, O, S, L, hF, hO, hS, hL, e1, e2, e4, e3⟩ := h.1 r1 hr1
    by_cases hq : r1 = r
    · subst hq
      refine ⟨f, o, S, L, hf, ho, hS, hL, ?_, ?_, ?_, ?_⟩
      · rw [xPl_at, if_neg (by omega), if_neg (by omega), if_pos rfl]
      · rw [xPl_at, if_neg (by omega), if_pos rfl]
      · rw [xPl_un (by omega) (by omega) (by omega), e4]
      · rw [xPl_un (by omega) (by omega) (by omega), e3]
    · refine ⟨F, O, S, L, hF, hO, hS, hL, ?_, ?_, ?_, ?_⟩
      · rw [xPl_un (by omega) (by omega) (by omega), e1]
      · rw [xPl_un (by omega) (by omega) (by omega), e2]
      · rw [xPl_un (by omega) (by omega) (by omega), e4]
      · rw [xPl_un (by omega) (by omega) (by omega), e3]
  · obtain ⟨m, hm, e⟩ := h.2
    exact ⟨m, hm, by rw [xPl_un (by omega) (by omega) (by omega), e]⟩
/-! the moves of all rods -/
def xAm (g : Nat → Int32) : Int32 := xSu (fun j => g (6 * j + 5)) 9
theorem eAmU {g : Nat → Int32} {k : Nat} {x : Int32} (n : Nat) (h : ∀ j, j < n → ¬ 6 * j + 5 = k) : xSu (fun j => upd g k x (6 * j + 5)) n = xSu (fun j => g (6 * j + 5)) n := by
  induction n with
  | zero => rfl
  | succ n ih =>
    show xSu (fun j => upd g k x (6 * j + 5)) n + upd g k x (6 * n + 5) = xSu (fun j => g (6 * j + 5)) n + g (6 * n + 5)
    rw [ih (fun j hj => h j (by omega)), pk_un (h n (by omega))]
theorem eAm5 {g : Nat → Int32} {r : Nat} {q : Int32} (n : Nat) (hr : r < n) : xSu (fun j => upd g (6 * r + 5) (g (6 * r + 5) + q) (6 * j + 5)) n = xSu (fun j => g (6 * j + 5)) n + q := by
  induction n with
  | zero => omega
  | succ n ih =>
    show xSu (fun j => upd g (6 * r + 5) (g (6 * r + 5) + q) (6 * j + 5)) n + upd g (6 * r + 5) (g (6 * r + 5) + q) (6 * n + 5) = xSu (fun j => g (6 * j + 5)) n + g (6 * n + 5) + q
    by_cases h : r = n
    · subst h
      rw [eAmU r (fun j hj => by omega), pk_us, Int32.add_assoc]
    · rw [ih (by omega), pk_un (by omega), Int32.add_assoc, Int32.add_comm q, ← Int32.add_assoc]
theorem eAmPl {g : Nat → Int32} {r : Nat} {f o q : Int32} (hr : r < 9) : xAm (xPl g r f o q) = xAm g + q := by
  unfold xAm xPl
  rw [eAm5 9 hr, eAmU 9 (fun j _ => by omega), eAmU 9 (fun j _ => by omega)]
/-! the whole number -/
def zc (g : Nat → Int32) (r : Nat) : Int := (xSh g r).toInt + (g (6 * r + 3)).toInt
def zW (g : Nat → Int32) : Nat → Int
  | 0 => 0
  | n + 1 => zW g n + zc g n * 10 ^ n
theorem zc_eq {g g1 : Nat → Int32} {j : Nat} (h1 : g1 (6 * j + 1) = g (6 * j + 1)) (h2 : g1 (6 * j + 2) = g (6 * j + 2)) (h3 : g1 (6 * j + 3) = g (6 * j + 3)) : zc g1 j = zc g j := by
  unfold zc xSh
  rw [h1, h2, h3]
theorem zW_same {g g1 : Nat → Int32} : ∀ n : Nat, (∀ j, j < n → zc g1 j = zc g j) → zW g1 n = zW g n
  | 0, _ => rfl
  | n + 1, h => by
    show zW g1 n + zc g1 n * 10 ^ n = zW g n + zc g n * 10 ^ n
    rw [zW_same n (fun j hj => h j (by omega)), h n (by omega)]
theorem zW_upd {g g1 : Nat → Int32} {r : Nat} (h : ∀ j, j ≠ r → zc g1 j = zc g j) : ∀ n : Nat, r < n → zW g1 n = zW g n + (zc g1 r - zc g r) * 10 ^ r
  | 0, hr => by omega
  | n + 1, hr => by
    show zW g1 n + zc g1 n * 10 ^ n = zW g n + zc g n * 10 ^ n + (zc g1 r - zc g r) * 10 ^ r
    by_cases hn : r = n
    · subst hn
      rw [zW_same r (fun j hj => h j (by omega)), Int.sub_mul]
      omega
    · rw [zW_upd h n (by omega), h n (fun z => hn z.symm)]
      omega
theorem eShN {g : Nat → Int32} {r : Nat} (hR : Rd9 g r) : ∃ c : Nat, c ≤ 15 ∧ xSh g r = nI c := by
  obtain ⟨F, O, S, L, hF, hO, hS, -, e1, e2, -⟩ := hR
  refine ⟨5 * F + O, by omega, ?_⟩
  unfold xSh
  rw [e1, e2, show (5 : Int32) = nI 5 from rfl, pk_mul, nI_add]
theorem loI {L : Nat} (h : L ≤ 18) : (nI L - 9).toInt = (L : Int) - 9 := pk_sub_toInt (a := L) (b := 9) (by omega) (by decide)
/-- from one board to another: how many moves more, how much more the whole number; the loans of the rods below r stay -/
def mv (g g1 : Nat → Int32) (r : Nat) (k : Int32) (d : Int) : Prop := Iv g1 ∧ zW g1 9 = zW g 9 + d ∧ xAm g1 = xAm g + k ∧ ∀ j, j < r → g1 (6 * j + 3) = g (6 * j + 3)
theorem mv_tr {g g1 g2 : Nat → Int32} {r r1 : Nat} {k k1 : Int32} {d d1 : Int} (h : mv g g1 r k d) (h1 : mv g1 g2 r1 k1 d1) (hr : r ≤ r1) : mv g g2 r (k + k1) (d + d1) :=
  ⟨h1.1, by rw [h1.2.1, h.2.1]; omega, by rw [h1.2.2.1, h.2.2.1, Int32.add_assoc], fun j hj => by rw [h1.2.2.2 j (by omega), h.2.2.2 j hj]⟩
theorem mvPl {g : Nat → Int32} {r f o k : Nat} {d : Int32} (hr : r < 9) (hI : Iv g) (hf : f ≤ 2) (ho : o ≤ 5) (hv : xSh g r + d = nI (5 * f + o)) (r1 : Nat) : mv g (xPl g r (nI f) (nI o) (nI k)) r1 (nI k) (d.toInt * 10 ^ r) := by
  refine ⟨eIvPl hI hf ho, ?_, eAmPl hr, fun j _ => xPl_un (by omega) (by omega) (by omega)⟩
  rw [zW_upd (g := g) (r := r) (fun j hj => zc_eq (xPl_un (by omega) (by omega) (by omega)) (xPl_un (by omega) (by omega) (by omega)) (xPl_un (by omega) (by omega) (by omega))) 9 hr]
  have e : zc (xPl g r (nI f) (nI o) (nI k)) r - zc g r = d.toInt := by
    obtain ⟨c, hc, ec⟩ := eShN (hI.1 r hr)
    have s1 : xSh (xPl g r (nI f) (nI o) (nI k)) r = nI (5 * f + o) := by
      unfold xSh
      rw [xPl_at, if_neg (by omega), if_neg (by omega), if_pos rfl, xPl_at, if_neg (by omega), if_pos rfl, show (5 : Int32) = nI 5 from rfl, pk_mul, nI_add]
    have s3 : xPl g r (nI f) (nI o) (nI k) (6 * r + 3) = g (6 * r + 3) := xPl_un (by omega) (by omega) (by omega)
    have sd : d = nI (5 * f + o) - nI c := by
      rw [← hv, ec, Int32.add_comm, Int32.add_sub_cancel]
    unfold zc
    rw [s1, s3, sd, pk_sub_toInt (by omega) (by omega), ec, nI_toInt (by omega), nI_toInt (by omega)]
    omega
  rw [e]
/-! carries: the trial looks at rods that nothing has touched -/
def agr (g g1 : Nat → Int32) (r : Nat) : Prop := (∀ j, 6 * r + 1 ≤ j → g j = g1 j) ∧ g 0 = g1 0
theorem agr_Tv {g g1 : Nat → Int32} {r : Nat} (h : agr g g1 r) (v : Int32) : xTv g r v = xTv g1 r v := by
  unfold xTv xTq
  simp only [xTf, xTs, xMb, h.1 (6 * r + 1) (by omega), h.1 (6 * r + 2) (by omega), h.1 (6 * r + 4) (by omega)]
theorem agr_Sh {g g1 : Nat → Int32} {r : Nat} (h : agr g g1 r) : xSh g r = xSh g1 r := by
  unfold xSh
  rw [h.1 (6 * r + 1) (by omega), h.1 (6 * r + 2) (by omega)]
theorem agr_Pl {g g1 : Nat → Int32} {r : Nat} {f o q : Int32} (h : agr g g1 r) : agr (xPl g r f o q) g1 (r + 1) :=
  ⟨fun j hj => by rw [xPl_un (by omega) (by omega) (by omega)]; exact h.1 j (by omega), by rw [xPl_un (by omega) (by omega) (by omega)]; exact h.2⟩
theorem eBwTab : ∀ L, L < 19 → ∀ m, m < 10 → (((nI L - 9 + 1) * 1 ≤ nI m) → nI L - 9 + 1 = nI (L + 1) - 9 ∧ L + 1 ≤ 18) ∧ (((nI L - 9 + -1) * -1 ≤ nI m) → nI L - 9 + -1 = nI (L - 1) - 9 ∧ 1 ≤ L) := by decide +kernel
theorem xBn_at {g : Nat → Int32} {r : Nat} {s : Int32} (hc : (g (6 * r + 3) + s) * s ≤ g 0) (j : Nat) : xBn g r s 1 j = if j = 6 * r + 6 then g (6 * r + 6) + 1 else if j = 6 * r + 3 then g (6 * r + 3) + s else g j := by
  unfold xBn
  rw [if_neg (fun z => z hc), if_neg (by decide)]
  unfold upd
  have h1 : ¬ 6 * r + 6 = 6 * r + 3 := by omega
  simp only [h1, if_false]
theorem xBn_un {g : Nat → Int32} {r : Nat} {s : Int32} (hc : (g (6 * r + 3) + s) * s ≤ g 0) {j : Nat} (h6 : ¬ j = 6 * r + 6) (h3 : ¬ j = 6 * r + 3) : xBn g r s 1 j = g j := by
  rw [xBn_at hc, if_neg h6, if_neg h3]
theorem mvBn {g : Nat → Int32} {r : Nat} {s : Int32} (hs : s = 1 ∨ s = -1) (hr : r < 9) (hI : Iv g) (hc : (g (6 * r + 3) + s) * s ≤ g 0) : mv g (xBn g r s 1) r (nI 0) (s.toInt * 10 ^ r) := by
  obtain ⟨F0, O0, S0, L0, hF0, hO0, hS0, hL0, e10, e20, e40, e30⟩ := hI.1 r hr
  obtain ⟨m, hm, em⟩ := hI.2
  have key : ∃ L1 : Nat, L1 ≤ 18 ∧ g (6 * r + 3) + s = nI L1 - 9 ∧ ((L1 : Int) - 9 = (L0 : Int) - 9 + s.toInt) := by
    have t := eBwTab L0 (by omega) m (by omega)
    rw [e30, em] at hc
    rcases hs with rfl | rfl
    · exact ⟨L0 + 1, (t.1 hc).2, by rw [e30]; exact (t.1 hc).1, by rw [show (1 : Int32).toInt = 1 from by decide]; omega⟩
    · have := (t.2 hc).2
      exact ⟨L0 - 1, by omega, by rw [e30]; exact (t.2 hc).1, by rw [show (-1 : Int32).toInt = -1 from by decide]; omega⟩
  obtain ⟨L1, hL1, eL, eZ⟩ := key
  have b3 : xBn g r s 1 (6 * r + 3) = nI L1 - 9 := by rw [xBn_at hc, if_neg (by omega), if_pos rfl, eL]
  refine ⟨⟨fun r1 hr1 => ?_, m, hm, by rw [xBn_un hc (by omega) (by omega), em]⟩, ?_, ?_, fun j hj => xBn_un hc (by omega) (by omega)⟩
  · obtain ⟨F, O, S, L, hF, hO, hS, hL, e1, e2, e4, e3⟩ := hI.1 r1 hr1
    by_cases hq : r1 = r
    · subst hq
      exact ⟨F, O, S, L1, hF, hO, hS, hL1, by rw [xBn_un hc (by omega) (by omega), e1], by rw [xBn_un hc (by omega) (by omega), e2], by rw [xBn_un hc (by omega) (by omega), e4], b3⟩
    · exact ⟨F, O, S, L, hF, hO, hS, hL, by rw [xBn_un hc (by omega) (by omega), e1], by rw [xBn_un hc (by omega) (by omega), e2], by rw [xBn_un hc (by omega) (by omega), e4], by rw [xBn_un hc (by omega) (by omega), e3]⟩
  · rw [zW_upd (g := g) (r := r) (fun j hj => zc_eq (xBn_un hc (by omega) (by omega)) (xBn_un hc (by omega) (by omega)) (xBn_un hc (by omega) (by omega))) 9 hr]
    have e : zc (xBn g r s 1) r - zc g r = s.toInt := by
      have s1 : xSh (xBn g r s 1) r = xSh g r := by
        unfold xSh
        rw [xBn_un hc (by omega) (by omega), xBn_un hc (by omega) (by omega)]
      unfold zc
      rw [s1, b3, e30, loI hL0, loI hL1]
      omega
    rw [e]
  · have a : ∀ n : Nat, xSu (fun j => xBn g r s 1 (6 * j + 5)) n = xSu (fun j => g (6 * j + 5)) n := by
      intro n
      induction n with
      | zero => rfl
      | succ n ih =>
        show xSu (fun j => xBn g r s 1 (6 * j + 5)) n + xBn g r s 1 (6 * n + 5) = xSu (fun j => g (6 * j + 5)) n + g (6 * n + 5)
        rw [ih, xBn_un hc (by omega) (by omega)]
    show xSu (fun j => xBn g r s 1 (6 * j + 5)) 9 = xSu (fun j => g (6 * j + 5)) 9 + nI 0
    rw [a, nI_0, Int32.add_zero]
theorem sub9 {s : Int32} (hs : s = 1 ∨ s = -1) : (-(9 * s)).toInt = -9 * s.toInt := by
  rcases hs with rfl | rfl <;> decide
theorem p10 (r : Nat) : (10 : Int) ^ (r + 1) = 10 * 10 ^ r := by rw [Int.pow_succ]; omega
theorem eCa {s : Int32} (hs : s = 1 ∨ s = -1) : ∀ (n r : Nat), n + r = 9 → ∀ (g g1 : Nat → Int32) (a : Nat), Iv g → agr g g1 r → a + 7 * n ≤ 1000 →
    (∃ b : Nat, b ≤ 7 * n ∧ (xCa s 0 n g1 r (nI a)).1 = nI (a + b) ∧ (xCa s 1 n g r (nI a)).1 = nI (a + b) ∧ mv g (xCa s 1 n g r (nI a)).2 r (nI b) (s.toInt * 10 ^ r)) ∨ (xCa s 0 n g1 r (nI a)).1 = -1
  | 0, r, hr, g, g1, a, hI, hA, ha => Or.inr rfl
  | n + 1, r, hr, g, g1, a, hI, hA, ha => by
    have hr9 : r < 9 := by omega
    have hR := hI.1 r hr9
    have en : xSh g r - 9 * s = xSh g r + -(9 * s) := Int32.sub_eq_add_neg _ _
    rcases eT hR (xSh g r + s) with x1 | ⟨f, k, o, hf, hk, ho, x1, xv, x3⟩
    · have x1' : xTv g1 r (xSh g1 r + s) = -1 := by rw [← agr_Sh hA, ← agr_Tv hA]; exact x1
      rcases eT hR (xSh g r - 9 * s) with y1 | ⟨f, k, o, hf, hk, ho, y1, yv, y3⟩
      · have y1' : xTv g1 r (xSh g1 r - 9 * s) = -1 := by rw [← agr_Sh hA, ← agr_Tv hA]; exact y1
        have z0 : (xCa s 0 (n + 1) g1 r (nI a)).1 = if (g1 (6 * r + 3) + s) * s ≤ g1 0 then nI a else -1 := by
          unfold xCa
          rw [if_neg (fun z => z x1'), if_pos y1']
        have z1 : xCa s 1 (n + 1) g r (nI a) = (if (g (6 * r + 3) + s) * s ≤ g 0 then nI a else -1, xBn g r s 1) := by
          unfold xCa
          rw [if_neg (fun z => z x1), if_pos y1]
        rw [z0, z1, ← hA.1 (6 * r + 3) (by omega), ← hA.2]
        by_cases hc : (g (6 * r + 3) + s) * s ≤ g 0
        · exact Or.inl ⟨0, by omega, by rw [if_pos hc]; rfl, by rw [if_pos hc]; rfl, mvBn hs hr9 hI hc⟩
        · exact Or.inr (by rw [if_neg hc])
      · have y1' : xTv g1 r (xSh g1 r - 9 * s) = nI k := by rw [← agr_Sh hA, ← agr_Tv hA]; exact y1
        have z0 : (xCa s 0 (n + 1) g1 r (nI a)).1 = (xCa s 0 n g1 (r + 1) (nI (a + k))).1 := by
          conv => lhs; unfold xCa
          rw [if_neg (fun z => z x1'), if_neg (by rw [y1']; exact nIm1 (by omega)), xTn_0, y1', nI_add]
        have z1 : xCa s 1 (n + 1) g r (nI a) = xCa s 1 n (xPl g r (nI f) (nI o) (nI k)) (r + 1) (nI (a + k)) := by
          conv => lhs; unfold xCa
          rw [if_neg (fun z => z x1), if_neg (by rw [y1]; exact nIm1 (by omega)), y3, y1, nI_add]
        have m1 : mv g (xPl g r (nI f) (nI o) (nI k)) r (nI k) ((-(9 * s)).toInt * 10 ^ r) := mvPl hr9 hI hf ho (by rw [← en]; exact yv) r
        rw [z0, z1]
        rcases eCa hs n (r + 1) (by omega) (xPl g r (nI f) (nI o) (nI k)) g1 (a + k) m1.1 (agr_Pl hA) (by omega) with ⟨b, hb, w2, w3, w4⟩ | w
        · refine Or.inl ⟨k + b, by omega, by rw [w2, Nat.add_assoc], by rw [w3, Nat.add_assoc], ?_⟩
          have m2 := mv_tr m1 w4 (Nat.le_succ r)
          rw [nI_add] at m2
          have e : (-(9 * s)).toInt * 10 ^ r + s.toInt * 10 ^ (r + 1) = s.toInt * 10 ^ r := by
            rw [sub9 hs, p10, Int.mul_assoc, Int.mul_left_comm s.toInt]
            omega
          rw [e] at m2
          exact m2
        · exact Or.inr w
    · have x1' : xTv g1 r (xSh g1 r + s) = nI k := by rw [← agr_Sh hA, ← agr_Tv hA]; exact x1
      have z0 : (xCa s 0 (n + 1) g1 r (nI a)).1 = nI (a + k) := by
        unfold xCa
        rw [if_pos (by rw [x1']; exact nIm1 (by omega)), x1', nI_add]
      have z1 : xCa s 1 (n + 1) g r (nI a) = (nI (a + k), xPl g r (nI f) (nI o) (nI k)) := by
        unfold xCa
        rw [if_pos (by rw [x1]; exact nIm1 (by omega)), x1, x3, nI_add]
      rw [z0, z1]
      exact Or.inl ⟨k, by omega, rfl, rfl, mvPl hr9 hI hf ho xv r⟩
/-! a rod's own number; to add a number, to pay, to put in order -/
def tO (F O S : Nat) : Bool := decide (xTq (fun j => if j = 1 then nI F else if j = 2 then nI O else nI S) 0 (5 * nI F + nI O) = (0, nI F))
theorem eOwnT : ∀ F, F < 3 → ∀ O, O < 6 → ∀ S, S < 4 → tO F O S = true := by decide +kernel
theorem eOwnV {g : Nat → Int32} {r : Nat} (hR : Rd9 g r) : xTv g r (xSh g r) = 0 := by
  obtain ⟨F, O, S, L, hF, hO, hS, -, e1, e2, e4, -⟩ := hR
  have h := congrArg Prod.fst (of_decide_eq_true (eOwnT F (by omega) O (by omega) S (by omega)))
  unfold xTv xSh
  unfold xTq at h ⊢
  simp only [xTf, xTs, xMb, e1, e2, e4] at h ⊢
  exact h
theorem sg_or (v : Int32) : xSg v = 1 ∨ xSg v = -1 := by
  unfold xSg
  by_cases h : 0 ≤ v
  · exact Or.inl (if_pos h)
  · exact Or.inr (if_neg h)
theorem eTc {g : Nat → Int32} {r : Nat} {s d : Int32} (hs : s = 1 ∨ s = -1) (hr : r < 9) (hI : Iv g) (v : Int32) (hv : v = xSh g r + d) :
    (∃ b : Nat, b ≤ 100 ∧ (xTc g r v s 0).1 = nI b ∧ (xTc g r v s 1).1 = nI b ∧ mv g (xTc g r v s 1).2 (r + 1) (nI b) (d.toInt * 10 ^ r + s.toInt * 10 ^ (r + 1))) ∨ (xTc g r v s 0).1 = -1 := by
  rcases eT (hI.1 r hr) v with x1 | ⟨f, k, o, hf, hk, ho, x1, xv, x3⟩
  · refine Or.inr ?_
    unfold xTc
    rw [if_pos x1]
  · have hn : ¬ xTv g r v = -1 := by rw [x1]; exact nIm1 (by omega)
    have z0 : (xTc g r v s 0).1 = (xCa s 0 (8 - r) g (r + 1) (nI k)).1 := by
      unfold xTc
      rw [if_neg hn, xTn_0, x1]
    have z1 : xTc g r v s 1 = xCa s 1 (8 - r) (xPl g r (nI f) (nI o) (nI k)) (r + 1) (nI k) := by
      unfold xTc
      rw [if_neg hn, x3, x1]
    have m1 : mv g (xPl g r (nI f) (nI o) (nI k)) (r + 1) (nI k) (d.toInt * 10 ^ r) := mvPl hr hI hf ho (by rw [← hv]; exact xv) (r + 1)
    rw [z0, z1]
    have hA : agr (xPl g r (nI f) (nI o) (nI k)) g (r + 1) := agr_Pl ⟨fun _ _ => rfl, rfl⟩
    rcases eCa hs (8 - r) (r + 1) (by omega) (xPl g r (nI f) (nI o) (nI k)) g k m1.1 hA (by omega) with ⟨b, hb, w2, w3, w4⟩ | w
    · refine Or.inl ⟨k + b, by omega, w2, w3, ?_⟩
      have m2 := mv_tr m1 w4 (Nat.le_refl _)
      rw [nI_add] at m2
      exact m2
    · exact Or.inr w
theorem eN10 : ∀ m, m < 19 → (nI m - 9 - 10 * xSg (nI m - 9)).toInt = (nI m - 9).toInt - 10 * (xSg (nI m - 9)).toInt := by decide +kernel
theorem eCh {g : Nat → Int32} {r m : Nat} (hr : r < 9) (hI : Iv g) (hm : m ≤ 18) {v : Int32} (ev : v = nI m - 9) :
    (∃ b : Nat, b ≤ 100 ∧ (xCh g r v 0).1 = nI b ∧ (xCh g r v 1).1 = nI b ∧ mv g (xCh g r v 1).2 (r + 1) (nI b) (v.toInt * 10 ^ r)) ∨ (xCh g r v 0).1 = -1 := by
  have hR := hI.1 r hr
  rcases eT hR (xSh g r + v) with x1 | ⟨f, k, o, hf, hk, ho, x1, xv, x3⟩
  · have z : ∀ d : Int32, xCh g r v d = xTc g r (xSh g r + v - 10 * xSg v) (xSg v) d := fun d => by unfold xCh; rw [if_neg (fun z => z x1)]
    rw [z, z]
    have e10 := eN10 m (by omega)
    rw [← ev] at e10
    have hh := eTc (g := g) (r := r) (s := xSg v) (d := v - 10 * xSg v) (sg_or v) hr hI (xSh g r + v - 10 * xSg v) (by rw [Int32.sub_eq_add_neg, Int32.sub_eq_add_neg, Int32.add_assoc])
    have e : (v - 10 * xSg v).toInt * 10 ^ r + (xSg v).toInt * 10 ^ (r + 1) = v.toInt * 10 ^ r := by
      rw [e10, p10, Int.sub_mul, Int.mul_assoc, Int.mul_left_comm (xSg v).toInt]
      omega
    rw [e] at hh
    exact hh
  · have hn : ¬ xTv g r (xSh g r + v) = -1 := by rw [x1]; exact nIm1 (by omega)
    have z0 : (xCh g r v 0).1 = nI k := by unfold xCh; rw [if_pos hn, x1]
    have z1 : xCh g r v 1 = (nI k, xPl g r (nI f) (nI o) (nI k)) := by unfold xCh; rw [if_pos hn, x1, x3]
    rw [z0, z1]
    exact Or.inl ⟨k, by omega, rfl, rfl, mvPl hr hI hf ho xv (r + 1)⟩
theorem eCh0 {g : Nat → Int32} {r : Nat} (hR : Rd9 g r) : (xCh g r 0 0).1 = 0 := by
  have h0 : xTv g r (xSh g r + 0) = 0 := by rw [Int32.add_zero, eOwnV hR]
  unfold xCh
  rw [if_pos (by rw [h0]; decide), h0]
theorem eIv3 {g : Nat → Int32} {r : Nat} (hI : Iv g) : Iv (upd g (6 * r + 3) 0) := by
  refine ⟨fun r1 hr1 => ?_, ?_⟩
  · obtain ⟨F, O, S, L, hF, hO, hS, hL, e1, e2, e4, e3⟩ := hI.1 r1 hr1
    by_cases hq : r1 = r
    · subst hq
      exact ⟨F, O, S, 9, hF, hO, hS, by decide, by rw [pk_un (by omega), e1], by rw [pk_un (by omega), e2], by rw [pk_un (by omega), e4], by rw [pk_us]; decide⟩
    · exact ⟨F, O, S, L, hF, hO, hS, hL, by rw [pk_un (by omega), e1], by rw [pk_un (by omega), e2], by rw [pk_un (by omega), e4], by rw [pk_un (by omega), e3]⟩
  · obtain ⟨m, hm, e⟩ := hI.2
    exact ⟨m, hm, by rw [pk_un (by omega), e]⟩
/-- a loan that can be paid back -/
theorem ePy {g : Nat → Int32} {r : Nat} (hr : r < 9) (hI : Iv g) (h : ¬ (xCh g r (g (6 * r + 3)) 0).1 = -1) :
    ∃ b : Nat, b ≤ 100 ∧ (xCh g r (g (6 * r + 3)) 0).1 = nI b ∧ (xPa g r).1 = nI b ∧ (xPa g r).2 (6 * r + 3) = 0 ∧ Iv (xPa g r).2 ∧ zW (xPa g r).2 9 = zW g 9 ∧ xAm (xPa g r).2 = xAm g + nI b := by
  obtain ⟨F, O, S, L, hF, hO, hS, hL, e1, e2, e4, e3⟩ := hI.1 r hr
  rcases eCh hr hI hL e3 with ⟨b, hb, h1, h2, h3⟩ | h0
  · refine ⟨b, hb, h1, ?_⟩
    have z : xPa g r = ((xCh g r (g (6 * r + 3)) 1).1, upd (xCh g r (g (6 * r + 3)) 1).2 (6 * r + 3) 0) := by
      unfold xPa
      rw [if_neg h]
    rw [z]
    generalize (xCh g r (g (6 * r + 3)) 1) = X at h2 h3
    obtain ⟨m1, m2, m3, m4⟩ := h3
    refine ⟨h2, pk_us, eIv3 m1, ?_, ?_⟩
    · show zW (upd X.2 (6 * r + 3) 0) 9 = zW g 9
      rw [zW_upd (g := X.2) (r := r) (fun j hj => zc_eq (pk_un (by omega)) (pk_un (by omega)) (pk_un (by omega))) 9 hr, m2]
      have s1 : xSh (upd X.2 (6 * r + 3) 0) r = xSh X.2 r := by
        unfold xSh
        rw [pk_un (by omega), pk_un (by omega)]
      have e : zc (upd X.2 (6 * r + 3) 0) r - zc X.2 r = -(g (6 * r + 3)).toInt := by
        unfold zc
        rw [s1, pk_us, m4 r (by omega), show (0 : Int32).toInt = 0 from by decide]
        omega
      rw [e, Int.neg_mul]
      omega
    · show xAm (upd X.2 (6 * r + 3) 0) = xAm g + nI b
      rw [← m3]
      exact eAmU 9 (fun j _ => by omega)
  · exact absurd h0 h
theorem ePa {g : Nat → Int32} {r : Nat} (hr : r < 9) (hI : Iv g) : ∃ b : Nat, b ≤ 100 ∧ (xPa g r).1 = nI b ∧ Iv (xPa g r).2 ∧ zW (xPa g r).2 9 = zW g 9 ∧ xAm (xPa g r).2 = xAm g + nI b := by
  by_cases h : (xCh g r (g (6 * r + 3)) 0).1 = -1
  · have z : xPa g r = (0, g) := by unfold xPa; rw [if_pos h]
    rw [z]
    exact ⟨0, by decide, rfl, hI, rfl, (Int32.add_zero _).symm⟩
  · obtain ⟨b, hb, -, h2, -, h4, h5, h6⟩ := ePy hr hI h
    exact ⟨b, hb, h2, h4, h5, h6⟩
theorem eOr {g : Nat → Int32} {r : Nat} (hr : r < 9) (hI : Iv g) : ∃ b : Nat, b ≤ 100 ∧ (xOr g r).1 = nI b ∧ Iv (xOr g r).2 ∧ zW (xOr g r).2 9 = zW g 9 ∧ xAm (xOr g r).2 = xAm g + nI b := by
  have h0 : ∃ b : Nat, b ≤ 100 ∧ ((0 : Int32), g).1 = nI b ∧ Iv ((0 : Int32), g).2 ∧ zW ((0 : Int32), g).2 9 = zW g 9 ∧ xAm ((0 : Int32), g).2 = xAm g + nI b := ⟨0, by decide, rfl, hI, rfl, (Int32.add_zero _).symm⟩
  unfold xOr
  by_cases h1 : xSh g r - 10 < 0
  · rw [if_pos h1]; exact h0
  · rw [if_neg h1]
    by_cases h2 : (xTc g r (xSh g r - 10) 1 0).1 = -1
    · rw [if_pos h2]; exact h0
    · rw [if_neg h2]
      rcases eTc (g := g) (r := r) (s := 1) (d := -10) (Or.inl rfl) hr hI (xSh g r - 10) (Int32.sub_eq_add_neg _ _) with ⟨b, hb, w1, w2, w3⟩ | w
      · refine ⟨b, hb, w2, w3.1, ?_, w3.2.2.1⟩
        rw [w3.2.1, p10, show (1 : Int32).toInt = 1 from by decide, show (-10 : Int32).toInt = -10 from by decide]
        omega
      · exact absurd w h2
theorem bd3 {b0 b1 b2 q : Nat} (h0 : b0 ≤ 200 * q) (h1 : b1 ≤ 100) (h2 : b2 ≤ 100) : b0 + b1 + b2 ≤ 200 * (q + 1) := by omega
theorem eTd_s {g g1 : Nat → Int32} {T : Int32} {q b0 : Nat} (hq : q < 9) (hb0 : b0 ≤ 200 * q) (h1 : T = nI b0) (h2 : Iv g1) (h3 : zW g1 9 = zW g 9) (h4 : xAm g1 = xAm g + nI b0) :
    ∃ b : Nat, b ≤ 200 * (q + 1) ∧ T + (xPa g1 q).1 + (xOr (xPa g1 q).2 q).1 = nI b ∧ Iv (xOr (xPa g1 q).2 q).2 ∧ zW (xOr (xPa g1 q).2 q).2 9 = zW g 9 ∧ xAm (xOr (xPa g1 q).2 q).2 = xAm g + nI b := by
  obtain ⟨b1, hb1, k1, k2, k3, k4⟩ := ePa hq h2
  obtain ⟨b2, hb2, l1, l2, l3, l4⟩ := eOr hq k2
  refine ⟨b0 + b1 + b2, bd3 hb0 hb1 hb2, ?_, l2, l3.trans (k3.trans h3), ?_⟩
  · rw [h1, k1, l1, nI_add, nI_add]
  · rw [l4, k4, h4, ← nI_add, ← nI_add]
    simp only [Int32.add_assoc]
theorem eTd {g : Nat → Int32} (hI : Iv g) (q : Nat) : q ≤ 9 → ∃ b : Nat, b ≤ 200 * q ∧ (xTd g q).1 = nI b ∧ Iv (xTd g q).2 ∧ zW (xTd g q).2 9 = zW g 9 ∧ xAm (xTd g q).2 = xAm g + nI b := by
  induction q with
  | zero => exact fun _ => ⟨0, Nat.le_refl _, rfl, hI, rfl, (Int32.add_zero _).symm⟩
  | succ q ih =>
    intro hq
    obtain ⟨b0, hb0, h1, h2, h3, h4⟩ := ih (Nat.le_of_lt hq)
    exact eTd_s hq hb0 h1 h2 h3 h4
/-! the whole number, as the class says it -/
theorem zcN {g : Nat → Int32} {r : Nat} (hR : Rd9 g r) : ∃ c L : Nat, c ≤ 15 ∧ L ≤ 18 ∧ xSh g r = nI c ∧ g (6 * r + 3) = nI L - 9 ∧ zc g r = (c : Int) + L - 9 := by
  obtain ⟨c, hc, ec⟩ := eShN hR
  obtain ⟨F, O, S, L, hF, hO, hS, hL, e1, e2, e4, e3⟩ := hR
  refine ⟨c, L, hc, hL, ec, e3, ?_⟩
  unfold zc
  rw [ec, e3, loI hL, nI_toInt (by omega)]
  omega
theorem eCL : ∀ c, c < 16 → ∀ L, L < 19 → (nI c + (nI L - 9)).toInt = (c : Int) + L - 9 := by decide +kernel
theorem zcI {g : Nat → Int32} {r : Nat} (hR : Rd9 g r) : (xSh g r + g (6 * r + 3)).toInt64 = Int64.ofInt (zc g r) := by
  obtain ⟨c, L, hc, hL, e1, e2, e3⟩ := zcN hR
  rw [← Int64.ofInt_int32ToInt, e3, e1, e2, eCL c (by omega) L (by omega)]
theorem xWs_z {g : Nat → Int32} (hI : Iv g) : ∀ n : Nat, n ≤ 9 → (xWs g n).1 = Int64.ofInt (zW g n) ∧ (xWs g n).2 = Int64.ofInt (10 ^ n)
  | 0, _ => ⟨rfl, rfl⟩
  | n + 1, h => by
    obtain ⟨h1, h2⟩ := xWs_z hI n (by omega)
    refine ⟨?_, ?_⟩
    · show (xWs g n).1 + (xSh g n + g (6 * n + 3)).toInt64 * (xWs g n).2 = Int64.ofInt (zW g n + zc g n * 10 ^ n)
      rw [h1, h2, zcI (hI.1 n (by omega)), Int64.ofInt_add, Int64.ofInt_mul]
    · show (xWs g n).2 * 10 = Int64.ofInt (10 ^ (n + 1))
      rw [h2, Int.pow_succ, Int64.ofInt_mul]
      rfl
theorem xWh {g : Nat → Int32} (hI : Iv g) : (xWs g 9).1 = Int64.ofInt (zW g 9) := (xWs_z hI 9 (by decide)).1
end
section
/-! ===== rows of the law: a contract whose answer and world are said to exist; the script read by a method; shifts, long remainders ===== -/
def cQE (P : Int32 → va_W → Prop) (D : va_G) (cl : List vw_C) (tys : List (ClassId × FieldType)) (A : Nat → Prop) : Array Value → State → Outcome → State → Prop := fun _ st oc t => ∃ (x : Int32) (w1 : va_W), oc = .returned (some (.int x)) ∧ P x w1 ∧ cB D cl tys A w1 t ∧ va_F A st t
def cE (F : Vm → Prop) (l : Launch) (y : MethodName) (wsY : List Cond) (rm : Room) (D : va_G) (cl : List vw_C) (tys : List (ClassId × FieldType)) (av : List Value) (wc : va_W) (P : Int32 → va_W → Prop) : Prop :=
  ∀ sz : Nat, Met l y wsY rm (cPre F D cl tys av wc sz) (cQE P D cl tys (va_A wc sz)) 0 0 (va_A wc sz)
/-- a contract of a method that reads the script of L ints xs at the cell b -/
def cPX (b L : Nat) (xs : Nat → Int32) (D : va_G) (cl : List vw_C) (tys : List (ClassId × FieldType)) (av : List Value) (sz : Nat) : Array Value → State → Prop :=
  va_Pc av (fun U => U.heap.size = sz ∧ va_X b L xs U U.heap ∧ va_K D cl tys U)
def cX (l : Launch) (y : MethodName) (wsY : List Cond) (rm : Room) (D : va_G) (cl : List vw_C) (tys : List (ClassId × FieldType)) (b L : Nat) (xs : Nat → Int32) (av : List Value) (v : Option Value) : Prop :=
  ∀ sz : Nat, Met l y wsY rm (cPX b L xs D cl tys av sz) (cQ v (cB D cl tys (va_A [] sz) []) (va_A [] sz)) 0 0 (va_A [] sz)
theorem cPX_blind (b L : Nat) (xs : Nat → Int32) (D : va_G) (cl : List vw_C) (tys : List (ClassId × FieldType)) (av : List Value) (sz : Nat) : FrameBlind (cPX b L xs D cl tys av sz) := fun a U g mk q => by
  obtain ⟨q0, q1, qX, qK⟩ := q
  exact ⟨q0, q1, va_X.moved (u := U) (U := U.calling g mk a) (Vm.Alike.refl U.vm) qX, va_K.moved (u := U) (U := U.calling g mk a) (Vm.Alike.refl U.vm) qK⟩
theorem cE_of {F : Vm → Prop} {l : Launch} {y : MethodName} {wsY ws' : List Cond} {rm : Room} {D : va_G} {cl : List vw_C} {tys : List (ClassId × FieldType)} {av : List Value} {wc : va_W} {P : Int32 → va_W → Prop} {cc : ByteArray} {maxL : Nat} {ret : Option FieldType} (hy : plainName y.cls = true) (hw : wsY = Cond.code y cc maxL ret :: ws') (hlen : (lg_sl av).length ≤ maxL)
    (body : ∀ (p : Program) (e : Env) (s : State) (m : MethodId) (below : List Frame) (meth : Method) (c : Code) (A : Nat → Prop), gC p s m av.toArray c cc y.cls wsY D cl tys A s.heap maxL → meth.sig.returnType = ret → meth.locks = false → meth.name = y.name → F s.vm →
      gG p l e rm s m av.toArray below meth c D cl A s.heap maxL (MQ below (cQE P D cl tys A) av.toArray s 0 0 A) 0 0 wc 0 (lv_args 0 av) []) : cE F l y wsY rm D cl tys av wc P := by
  intro sz
  refine Met.ofW (cc := cc) (maxL := maxL) (ret := ret) hy hw ?_
  intro p e s m args below meth c s₁ B hml hv
  obtain ⟨rfl, hF, hsz, hP, hK, hD0⟩ := hv
  subst hsz
  have hD := hD0.self (sz := s.heap.size)
  generalize hAe : va_A wc s.heap.size = A at hD ⊢
  have hA : ∀ q : Nat, s.heap.size ≤ q → A q := fun q h => by rw [← hAe]; exact Or.inr h
  have hl := lv_entry av (n := maxL) hlen
  rw [lg_entry_eq]
  exact body p e s m below meth c A ⟨B.exec, B.bytes, hml, findClass_of_methodNamed B.named, atoms_spec (ws := wsY) B.pre, hK, hA⟩ B.returns B.notSynchronized (name_of_methodNamed B.named B.method).1 hF s.heap [] _ hP hD va_S.rf hl

theorem cX_of {l : Launch} {y : MethodName} {wsY ws' : List Cond} {rm : Room} {D : va_G} {cl : List vw_C} {tys : List (ClassId × FieldType)} {b L : Nat} {xs : Nat → Int32} {av : List Value} {v : Option Value} {cc : ByteArray} {maxL : Nat} {ret : Option FieldType} (hy : plainName y.cls = true) (hw : wsY = Cond.code y cc maxL ret :: ws') (hlen : (lg_sl av).length ≤ maxL)
    (body : ∀ (p : Program) (e : Env) (s : State) (m : MethodId) (below : List Frame) (meth : Method) (c : Code) (A : Nat → Prop), gC p s m av.toArray c cc y.cls wsY D cl tys A s.heap maxL → meth.sig.returnType = ret → meth.locks = false → va_X b L xs s s.heap → b < s.heap.size → ¬ A b →
      gG p l e rm s m av.toArray below meth c D cl A s.heap maxL (MQ below (cQ v (cB D cl tys A []) A) av.toArray s 0 0 A) 0 0 [] 0 (lv_args 0 av) []) : cX l y wsY rm D cl tys b L xs av v := by
  intro sz
  refine Met.ofW (cc := cc) (maxL := maxL) (ret := ret) hy hw ?_
  intro p e s m args below meth c s₁ B hml hv
  obtain ⟨rfl, hsz, hX, hK⟩ := hv
  subst hsz
  have hbl : b < s.heap.size := by
    obtain ⟨scr, h1, -⟩ := hX
    exact (Array.getElem?_eq_some_iff.mp h1).1
  have hbA : ¬ va_A [] s.heap.size b := fun h => by
    rcases h with ⟨k, e, h⟩ | h
    · cases h
    · omega
  generalize hAe : va_A [] s.heap.size = A at hbA ⊢
  have hA : ∀ q : Nat, s.heap.size ≤ q → A q := fun q h => by rw [← hAe]; exact Or.inr h
  have hl := lv_entry av (n := maxL) hlen
  rw [lg_entry_eq]
  exact body p e s m below meth c A ⟨B.exec, B.bytes, hml, findClass_of_methodNamed B.named, atoms_spec (ws := wsY) B.pre, hK, hA⟩ B.returns B.notSynchronized hX hbl hbA s.heap [] _ (fun k q h => (by cases h)) ⟨fun i j p q h => (by cases h), fun k q h => (by cases h)⟩ va_S.rf hl
section GE
variable {p : Program} {l : Launch} {e : Env} {R : Room} {s : State} {m : MethodId} {args : Array Value} {below : List Frame} {meth : Method} {c : Code} {cc : ByteArray} {own : String} {Ts : List Cond} {D : va_G} {cl : List vw_C} {tys : List (ClassId × FieldType)} {A : Nat → Prop} {H0 : Heap} {nL : Nat} {Q : State → Prop} {k n : Nat} {ws : va_W} {pc : Nat} {lv : List (Nat × Value)} {st : List Value}
theorem g_iretE {P : Int32 → va_W → Prop} (C : gC p s m args c cc own Ts D cl tys A s.heap nL) (hr : meth.sig.returnType = some .int) (hlk : meth.locks = false) (d : decode cc pc = .ok (.ireturn, 1)) {x : Int32} (hp : P x ws) :
    gG p l e R s m args below meth c D cl A s.heap nL (MQ below (cQE P D cl tys A) args s k n A) k n ws pc lv [.int x] := by
  intro H locs ls hP hD hS hl
  exact W.iret C.1 C.2.1 hr (fun t ht hW => ⟨x, ws, rfl, hp, ⟨by rw [ht]; exact hP, va_K.moved hW.alike C.2.2.2.2.2.1, hD⟩, hS.F ht⟩) hS.2.2 d hlk
theorem g_zretE {P : Int32 → va_W → Prop} (C : gC p s m args c cc own Ts D cl tys A s.heap nL) (hr : meth.sig.returnType = some .boolean) (hlk : meth.locks = false) (d : decode cc pc = .ok (.ireturn, 1)) {x : Int32} (hb01 : x = 0 ∨ x = 1) (hp : P x ws) :
    gG p l e R s m args below meth c D cl A s.heap nL (MQ below (cQE P D cl tys A) args s k n A) k n ws pc lv [.int x] := by
  intro H locs ls hP hD hS hl
  exact W.zret C.1 C.2.1 hr (by rcases hb01 with h | h <;> subst h <;> rfl) (fun t ht hW => ⟨x, ws, rfl, hp, ⟨by rw [ht]; exact hP, va_K.moved hW.alike C.2.2.2.2.2.1, hD⟩, hS.F ht⟩) hS.2.2 d hlk
theorem g_runE {P : Int32 → va_W → Prop} {pre wc post : va_W} {rest : List Value} {a : Array Value} {mc ms : Nat} (C : gC p s m args c cc own Ts D cl tys A H0 nL) (hsp : ws = pre ++ (wc ++ post)) {tysY : List (ClassId × FieldType)}
    (run : ∀ (H : Heap) (locs : List Loc) (ls : Array Slot), va_P D cl wc H → va_D (fun _ => True) wc → lv_has ls nL lv → va_Run p l e R s m args below meth c H locs k n mc ms (F0 m pc ls st) rest (cQE P D cl tysY (va_A wc H.size) a) (va_A wc H.size))
    (kk : ∀ (x : Int32) (w1 : va_W), P x w1 → gG p l e R s m args below meth c D cl A H0 nL Q (k + mc) (n + ms) (pre ++ (w1 ++ post)) (pc + 3) lv (.int x :: rest)) : gG p l e R s m args below meth c D cl A H0 nL Q k n ws pc lv st := by
  subst hsp
  intro H locs ls hP hD hS hl T hT X
  obtain ⟨v', st₀, t, T', L, h0, X', hL, e1, e2, ⟨x, w1, hv, hp1, ⟨hP1, hK1, hD1⟩, hz, hk⟩, go⟩ := run H locs ls (wP_l (wP_r hP)) ((wD_l (wD_r hD)).weaken (fun _ _ _ _ => trivial)) hl T hT X
  cases hv
  rw [h0] at hz hk
  have hF := w_free hD hS C.2.2.2.2.2.2
  have hk' : ∀ q : Nat, q < H.size → ¬ va_A wc H.size q → T'.heap[q]? = H[q]? := fun q h1 h2 => by rw [e1]; exact hk q h1 h2
  obtain ⟨jP, jD⟩ := w_join hP hD hk' hF (by rw [e1]; exact hP1) hD1
  have hS' : va_S A H0 T'.heap (locs ++ L) := ⟨Nat.le_trans hS.1 (by rw [e1]; exact hz), fun q h1 h2 => by rw [hk' q (Nat.lt_of_lt_of_le h1 hS.1) (fun z => h2 (hF q z))]; exact hS.2.1 q h1 h2, fun q hq => by
    rcases List.mem_append.mp hq with h | h
    · exact hS.2.2 q h
    · exact hF _ (hL q h)⟩
  obtain ⟨t2, a1, b1⟩ := kk x w1 hp1 T'.heap (locs ++ L) ls jP jD hS' hl T' rfl X'
  exact ⟨t2, go t2 a1, b1⟩
/-- a call of a method that reads the script -/
theorem g_runX {v : Option Value} {rest : List Value} {a : Array Value} {mc ms : Nat} (C : gC p s m args c cc own Ts D cl tys A H0 nL) {tysY : List (ClassId × FieldType)}
    (run : ∀ (H : Heap) (locs : List Loc) (ls : Array Slot), va_S A H0 H locs → lv_has ls nL lv → va_Run p l e R s m args below meth c H locs k n mc ms (F0 m pc ls st) rest (cQ v (cB D cl tysY (va_A [] H.size) []) (va_A [] H.size) a) (va_A [] H.size))
    (kk : gG p l e R s m args below meth c D cl A H0 nL Q (k + mc) (n + ms) ws (pc + 3) lv (v.toList ++ rest)) : gG p l e R s m args below meth c D cl A H0 nL Q k n ws pc lv st := by
  intro H locs ls hP hD hS hl T hT X
  have hP' : va_P D cl (ws ++ (([] : va_W) ++ [])) H := by rw [List.append_nil, List.append_nil]; exact hP
  have hD' : va_D A (ws ++ (([] : va_W) ++ [])) := by rw [List.append_nil, List.append_nil]; exact hD
  obtain ⟨v', st₀, t, T', L, h0, X', hL, e1, e2, ⟨hv, ⟨hP1, hK1, hD1⟩, hz, hk⟩, go⟩ := run H locs ls hS hl T hT X
  cases hv
  rw [h0] at hz hk
  have hF := w_free hD' hS C.2.2.2.2.2.2
  have hk' : ∀ q : Nat, q < H.size → ¬ va_A [] H.size q → T'.heap[q]? = H[q]? := fun q h1 h2 => by rw [e1]; exact hk q h1 h2
  obtain ⟨jP, jD⟩ := w_join hP' hD' hk' hF (by rw [e1]; exact hP1) hD1
  rw [List.append_nil, List.append_nil] at jP jD
  have hS' : va_S A H0 T'.heap (locs ++ L) := ⟨Nat.le_trans hS.1 (by rw [e1]; exact hz), fun q h1 h2 => by rw [hk' q (Nat.lt_of_lt_of_le h1 hS.1) (fun z => h2 (hF q z))]; exact hS.2.1 q h1 h2, fun q hq => by
    rcases List.mem_append.mp hq with h | h
    · exact hS.2.2 q h
    · exact hF _ (hL q h)⟩
  obtain ⟨t2, a1, b1⟩ := kk T'.heap (locs ++ L) ls jP jD hS' hl T' rfl X'
  exact ⟨t2, go t2 a1, b1⟩
theorem g_callSE {F : Vm → Prop} {y : MethodName} {wsY ws9 : List Cond} {rm : Room} {tysY : List (ClassId × FieldType)} {index maxL nA : Nat} {bytes : ByteArray} {ret : Option FieldType} {As rest : List Value} {P : Int32 → va_W → Prop} {pre wc post : va_W}
    (C : gC p s m args c cc own Ts D cl tys A H0 nL) (hM : cE F l y wsY rm D cl tysY As wc P) (hG : GoodIn Ts (va_wsS own index y wsY)) (hw : wsY = Cond.code y bytes maxL ret :: ws9)
    (hrm : rm.cells = 0 ∧ rm.slots = 0) (hd : y.cls ≠ "java/lang/invoke/MethodHandle" ∧ y.cls ≠ "java/lang/invoke/VarHandle" ∧ (parseMethodDescriptor y.desc).map (fun d => d.parameters.length) = some nA) (hR : rm.frames + 1 ≤ R.frames ∧ 8 + (maxL + 11) + rm.locals ≤ R.locals)
    (isT : List Nat) (hT : isT.filterMap (fun i => tys[i]?) = tysY) (hF : ∀ vm' : Vm, s.WarmedH vm' → F vm') (hn : As.length = nA) (hst : st = As.reverse ++ rest) (hrest : (rest.map fun v => v.category).sum ≤ 8) (d : decode cc pc = .ok (.invokestatic index, 3)) (hc : k ≤ R.cells ∧ n ≤ R.slots)
    (hsp : ws = pre ++ (wc ++ post))
    (kk : ∀ (x : Int32) (w1 : va_W), P x w1 → gG p l e R s m args below meth c D cl A H0 nL Q k n (pre ++ (w1 ++ post)) (pc + 3) lv (.int x :: rest)) : gG p l e R s m args below meth c D cl A H0 nL Q k n ws pc lv st := by
  have hK := C.2.2.2.2.2.1.sub isT hT
  exact g_runE C hsp (fun H locs ls hP hD hl => va_runS (As := As) (rest := rest) ⟨C.1, C.2.1, C.2.2.1, C.2.2.2.1, C.2.2.2.2.1⟩ (hM H.size) (va_cwS nA C.2.2.2.2.1 hG hw hrm.1 hrm.2 hd hR) ⟨cPre_blind _ _ _ _ _ _ _, fun U hU hW => ⟨rfl, hF _ hW, by rw [hU], by rw [hU]; exact hP, va_K.moved hW.alike hK, hD⟩⟩ rfl hn hl.1 hst (lv_room hrest) d ⟨hc.1, hc.2⟩) kk
theorem g_callSX {y : MethodName} {wsY ws9 : List Cond} {rm : Room} {tysY : List (ClassId × FieldType)} {index maxL nA : Nat} {bytes : ByteArray} {ret : Option FieldType} {As rest : List Value} {v : Int32} {b L : Nat} {xs : Nat → Int32}
    (C : gC p s m args c cc own Ts D cl tys A H0 nL) (hX : va_X b L xs s H0) (hbl : b < H0.size) (hbA : ¬ A b) (hM : cX l y wsY rm D cl tysY b L xs As (some (.int v))) (hG : GoodIn Ts (va_wsS own index y wsY)) (hw : wsY = Cond.code y bytes maxL ret :: ws9)
    (hrm : rm.cells = 0 ∧ rm.slots = 0) (hd : y.cls ≠ "java/lang/invoke/MethodHandle" ∧ y.cls ≠ "java/lang/invoke/VarHandle" ∧ (parseMethodDescriptor y.desc).map (fun d => d.parameters.length) = some nA) (hR : rm.frames + 1 ≤ R.frames ∧ 8 + (maxL + 11) + rm.locals ≤ R.locals)
    (isT : List Nat) (hT : isT.filterMap (fun i => tys[i]?) = tysY) (hn : As.length = nA) (hst : st = As.reverse ++ rest) (hrest : (rest.map fun v => v.category).sum ≤ 8) (d : decode cc pc = .ok (.invokestatic index, 3)) (hc : k ≤ R.cells ∧ n ≤ R.slots)
    (kk : gG p l e R s m args below meth c D cl A H0 nL Q k n ws (pc + 3) lv (.int v :: rest)) : gG p l e R s m args below meth c D cl A H0 nL Q k n ws pc lv st := by
  have hK := C.2.2.2.2.2.1.sub isT hT
  exact g_runX C (fun H locs ls hS hl => va_runS (As := As) (rest := rest) ⟨C.1, C.2.1, C.2.2.1, C.2.2.2.1, C.2.2.2.2.1⟩ (hM H.size) (va_cwS nA C.2.2.2.2.1 hG hw hrm.1 hrm.2 hd hR) ⟨cPX_blind _ _ _ _ _ _ _ _, fun U hU hW => ⟨rfl, by rw [hU], by rw [hU]; exact va_X.moved hW.alike (hX.kept (hS.2.1 b hbl hbA)), va_K.moved hW.alike hK⟩⟩ rfl hn hl.1 hst (lv_room hrest) d ⟨hc.1, hc.2⟩) kk
theorem g_ishr (C : gC p s m args c cc own Ts D cl tys A H0 nL) {x y v : Int32} (d : decode cc pc = .ok (.ishr, 1)) (hv : x >>> (y &&& 31) = v)
    (kk : gG p l e R s m args below meth c D cl A H0 nL Q k n ws (pc + 1) lv (.int v :: st)) : gG p l e R s m args below meth c D cl A H0 nL Q k n ws pc lv (.int y :: .int x :: st) := by
  subst hv
  exact fun H locs ls hP hD hS hl => lv_ishr C.1 C.2.1 d (kk H locs ls hP hD hS hl)
theorem g_lrem (C : gC p s m args c cc own Ts D cl tys A H0 nL) {x y v : Int64} (d : decode cc pc = .ok (.lrem, 1)) (hne : ¬ y = 0) (hv : x - x / y * y = v)
    (kk : gG p l e R s m args below meth c D cl A H0 nL Q k n ws (pc + 1) lv (.long v :: st)) : gG p l e R s m args below meth c D cl A H0 nL Q k n ws pc lv (.long y :: .long x :: st) := by
  subst hv
  exact fun H locs ls hP hD hS hl => lv_lrem C.1 C.2.1 d hne (kk H locs ls hP hD hS hl)
theorem g_l2i (C : gC p s m args c cc own Ts D cl tys A H0 nL) {x : Int64} {v : Int32} (d : decode cc pc = .ok (.l2i, 1)) (hv : x.toInt32 = v)
    (kk : gG p l e R s m args below meth c D cl A H0 nL Q k n ws (pc + 1) lv (.int v :: st)) : gG p l e R s m args below meth c D cl A H0 nL Q k n ws pc lv (.long x :: st) := by
  subst hv
  exact fun H locs ls hP hD hS hl => lv_l2i C.1 C.2.1 d rfl (kk H locs ls hP hD hS hl)
theorem g_sld (C : gC p s m args c cc own Ts D cl tys A H0 nL) {b L : Nat} {xs : Nat → Int32} {i x : Int32} (hX : va_X b L xs s H0) (hbl : b < H0.size) (hbA : ¬ A b) (hL : L < 2 ^ 31) (j : Nat) (hi : i = nI j) (hj : j < L) (hx : xs j = x) (d : decode cc pc = .ok (.iaload, 1))
    (kk : gG p l e R s m args below meth c D cl A H0 nL Q k n ws (pc + 1) lv (.int x :: st)) : gG p l e R s m args below meth c D cl A H0 nL Q k n ws pc lv (.int i :: .ref b :: st) := by
  subst hi; subst hx
  intro H locs ls hP hD hS hl
  refine va_sld C.1 C.2.1 hX hbl hbA hS (vp_in_nI hj hL) d ?_
  rw [nI_clamp (by omega)]
  exact kk H locs ls hP hD hS hl
theorem g_slen (C : gC p s m args c cc own Ts D cl tys A H0 nL) {b L : Nat} {xs : Nat → Int32} (hX : va_X b L xs s H0) (hbl : b < H0.size) (hbA : ¬ A b) (d : decode cc pc = .ok (.arraylength, 1))
    (kk : gG p l e R s m args below meth c D cl A H0 nL Q k n ws (pc + 1) lv (.int (nI L) :: st)) : gG p l e R s m args below meth c D cl A H0 nL Q k n ws pc lv (.ref b :: st) := by
  intro H locs ls hP hD hS hl
  exact va_slen C.1 C.2.1 hX hbl hbA hS d (kk H locs ls hP hD hS hl)
end GE
theorem cb_11 : (Int8.ofInt 11).toInt32 = 11 := by decide
theorem cb_m10 : (Int8.ofInt (-10)).toInt32 = -10 := by decide
theorem cs_7919 : (Int16.ofInt 7919).toInt32 = 7919 := by decide
theorem lgz {x y : Int64} (h : x = y) : lg_cmp x y = 0 := by
  subst h
  unfold lg_cmp
  rw [if_neg (fun z => absurd (Int64.lt_iff_toInt_lt.mp z) (Int.lt_irrefl _)), if_pos rfl]
end
section
/-! ===== what is made: constructors ===== -/
def g00 : Nat → Int32 := upd (fun _ => 0) 0 3
def cQA (P : va_W → Prop) (D : va_G) (cl : List vw_C) (A : Nat → Prop) : Array Value → State → Outcome → State → Prop := fun _ st oc t => oc = .returned none ∧ (∃ w1 : va_W, P w1 ∧ va_P D cl w1 t.heap ∧ va_D A w1) ∧ va_F A st t
def cA (F : Vm → Prop) (l : Launch) (y : MethodName) (wsY : List Cond) (rm : Room) (D : va_G) (cl : List vw_C) (tys : List (ClassId × FieldType)) (av : List Value) (wc : va_W) (P : va_W → Prop) (mc ms : Nat) : Prop :=
  ∀ sz : Nat, Met l y wsY rm (cPre F D cl tys av wc sz) (cQA P D cl (va_A wc sz)) mc ms (va_A wc sz)
def aF : Vm → Prop := fun vm => ∃ U : State, U.vm = vm ∧ va_AO RX0 U
theorem aF_of {s : State} (h : aF s.vm) : va_AO RX0 s := by
  obtain ⟨U, hU, h1⟩ := h
  exact va_AO.moved (by rw [hU]; exact Vm.Alike.refl s.vm) h1
theorem aF_w {s : State} (h : aF s.vm) : ∀ vm' : Vm, s.WarmedH vm' → aF vm' := fun vm' hW => ⟨s.setVm vm', rfl, va_AO.moved (u := s) (U := s.setVm vm') hW.alike (aF_of h)⟩
theorem cA_of {F : Vm → Prop} {l : Launch} {y : MethodName} {wsY ws' : List Cond} {rm : Room} {D : va_G} {cl : List vw_C} {tys : List (ClassId × FieldType)} {av : List Value} {wc : va_W} {P : va_W → Prop} {mc ms : Nat} {cc : ByteArray} {maxL : Nat} {ret : Option FieldType} (hy : plainName y.cls = true) (hw : wsY = Cond.code y cc maxL ret :: ws') (hlen : (lg_sl av).length ≤ maxL)
    (body : ∀ (p : Program) (e : Env) (s : State) (m : MethodId) (below : List Frame) (meth : Method) (c : Code) (A : Nat → Prop), gC p s m av.toArray c cc y.cls wsY D cl tys A s.heap maxL → meth.sig.returnType = ret → meth.locks = false → meth.name = y.name → F s.vm →
      gG p l e rm s m av.toArray below meth c D cl A s.heap maxL (MQ below (cQA P D cl A) av.toArray s mc ms A) 0 0 wc 0 (lv_args 0 av) []) : cA F l y wsY rm D cl tys av wc P mc ms := by
  intro sz
  refine Met.ofW (cc := cc) (maxL := maxL) (ret := ret) hy hw ?_
  intro p e s m args below meth c s₁ B hml hv
  obtain ⟨rfl, hF, hsz, hP, hK, hD0⟩ := hv
  subst hsz
  have hD := hD0.self (sz := s.heap.size)
  generalize hAe : va_A wc s.heap.size = A at hD ⊢
  have hA : ∀ q : Nat, s.heap.size ≤ q → A q := fun q h => by rw [← hAe]; exact Or.inr h
  have hl := lv_entry av (n := maxL) hlen
  rw [lg_entry_eq]
  exact body p e s m below meth c A ⟨B.exec, B.bytes, hml, findClass_of_methodNamed B.named, atoms_spec (ws := wsY) B.pre, hK, hA⟩ B.returns B.notSynchronized (name_of_methodNamed B.named B.method).1 hF s.heap [] _ hP hD va_S.rf hl
section GAL
variable {p : Program} {l : Launch} {e : Env} {R : Room} {s : State} {m : MethodId} {args : Array Value} {below : List Frame} {meth : Method} {c : Code} {cc : ByteArray} {own : String} {Ts : List Cond} {D : va_G} {cl : List vw_C} {tys : List (ClassId × FieldType)} {A : Nat → Prop} {H0 : Heap} {nL : Nat} {Q : State → Prop} {k n : Nat} {ws : va_W} {pc : Nat} {lv : List (Nat × Value)} {st : List Value}
theorem g_vretA {P : va_W → Prop} (C : gC p s m args c cc own Ts D cl tys A s.heap nL) (hr : meth.sig.returnType = none) (hlk : meth.locks = false) (d : decode cc pc = .ok (.return_, 1)) (hw : P ws) :
    gG p l e R s m args below meth c D cl A s.heap nL (MQ below (cQA P D cl A) args s k n A) k n ws pc lv [] := by
  intro H locs ls hP hD hS hl
  exact W.vret C.1 C.2.1 hr (fun t ht hW => ⟨rfl, ⟨ws, hw, by rw [ht]; exact hP, hD⟩, hS.F ht⟩) hS.2.2 d hlk
theorem g_runA {P : va_W → Prop} {pre wc post : va_W} {rest : List Value} {a : Array Value} {mc ms : Nat} (C : gC p s m args c cc own Ts D cl tys A H0 nL) (hsp : ws = pre ++ (wc ++ post))
    (run : ∀ (H : Heap) (locs : List Loc) (ls : Array Slot), va_P D cl wc H → va_D (fun _ => True) wc → lv_has ls nL lv → va_Run p l e R s m args below meth c H locs k n mc ms (F0 m pc ls st) rest (cQA P D cl (va_A wc H.size) a) (va_A wc H.size))
    (kk : ∀ w1 : va_W, P w1 → gG p l e R s m args below meth c D cl A H0 nL Q (k + mc) (n + ms) (pre ++ (w1 ++ post)) (pc + 3) lv rest) : gG p l e R s m args below meth c D cl A H0 nL Q k n ws pc lv st := by
  subst hsp
  intro H locs ls hP hD hS hl T hT X
  obtain ⟨v', st₀, t, T', L, h0, X', hL, e1, e2, ⟨hv, ⟨w1, hp1, hP1, hD1⟩, hz, hk⟩, go⟩ := run H locs ls (wP_l (wP_r hP)) ((wD_l (wD_r hD)).weaken (fun _ _ _ _ => trivial)) hl T hT X
  cases hv
  rw [h0] at hz hk
  have hF := w_free hD hS C.2.2.2.2.2.2
  have hk' : ∀ q : Nat, q < H.size → ¬ va_A wc H.size q → T'.heap[q]? = H[q]? := fun q h1 h2 => by rw [e1]; exact hk q h1 h2
  obtain ⟨jP, jD⟩ := w_join hP hD hk' hF (by rw [e1]; exact hP1) hD1
  have hS' : va_S A H0 T'.heap (locs ++ L) := ⟨Nat.le_trans hS.1 (by rw [e1]; exact hz), fun q h1 h2 => by rw [hk' q (Nat.lt_of_lt_of_le h1 hS.1) (fun z => h2 (hF q z))]; exact hS.2.1 q h1 h2, fun q hq => by
    rcases List.mem_append.mp hq with h | h
    · exact hS.2.2 q h
    · exact hF _ (hL q h)⟩
  obtain ⟨t2, a1, b1⟩ := kk w1 hp1 T'.heap (locs ++ L) ls jP jD hS' hl T' rfl X'
  exact ⟨t2, go t2 a1, b1⟩
theorem g_callI {F : Vm → Prop} {y : MethodName} {wsY ws9 : List Cond} {rm : Room} {tysY : List (ClassId × FieldType)} {index maxL nA mc ms : Nat} {bytes : ByteArray} {b : Nat} {As rest : List Value} {P : va_W → Prop} {pre wc post : va_W}
    (C : gC p s m args c cc own Ts D cl tys A H0 nL) (hM : cA F l y wsY rm D cl tysY (.ref b :: As) wc P mc ms) (hG : GoodIn Ts wsY) (hw : wsY = Cond.code y bytes maxL none :: ws9) (hini : Cond.initialized y.cls ∈ Ts) (hl1 : Cond.methodLink own index y ∈ Ts) (hin1 : Cond.instanceMethod y ∈ Ts) (hy1 : y.name = "<init>")
    (hrm : rm.cells = mc ∧ rm.slots = ms) (hd : y.cls ≠ "java/lang/invoke/MethodHandle" ∧ y.cls ≠ "java/lang/invoke/VarHandle" ∧ (parseMethodDescriptor y.desc).map (fun d => d.parameters.length) = some nA) (hR : rm.frames + 1 ≤ R.frames ∧ 8 + (maxL + 11) + rm.locals ≤ R.locals)
    (isT : List Nat) (hT : isT.filterMap (fun i => tys[i]?) = tysY) (hF : ∀ vm' : Vm, s.WarmedH vm' → F vm') (hn : As.length = nA) (hst : st = As.reverse ++ .ref b :: rest) (hrest : (rest.map fun v => v.category).sum ≤ 8) (d : decode cc pc = .ok (.invokespecial index, 3)) (hc : k + mc ≤ R.cells ∧ n + ms ≤ R.slots)
    (hsp : ws = pre ++ (wc ++ post))
    (kk : ∀ w1 : va_W, P w1 → gG p l e R s m args below meth c D cl A H0 nL Q (k + mc) (n + ms) (pre ++ (w1 ++ post)) (pc + 3) lv rest) : gG p l e R s m args below meth c D cl A H0 nL Q k n ws pc lv st := by
  have hK := C.2.2.2.2.2.1.sub isT hT
  exact g_runA C hsp (fun H locs ls hP hD hl => va_runI (As := As) (rest := rest) ⟨C.1, C.2.1, C.2.2.1, C.2.2.2.1, C.2.2.2.2.1⟩ (hM H.size) (cwI nA C.2.2.2.2.1 hG hw hrm.1 hrm.2 (C.2.2.2.2.1 _ hini) (C.2.2.2.2.1 _ hl1) (C.2.2.2.2.1 _ hin1) hy1 hd hR) ⟨cPre_blind _ _ _ _ _ _ _, fun U hU hW => ⟨rfl, hF _ hW, by rw [hU], by rw [hU]; exact hP, va_K.moved hW.alike hK, hD⟩⟩ rfl hn hl.1 hst (lv_room hrest) d ⟨hc.1, hc.2⟩) kk
theorem g_new {C0 : String} {T : u_T} {N index : Nat} (C : gC p s m args c cc own Ts D cl tys A H0 nL) (hin : ∀ w ∈ u_ws C0 T N, w ∈ Ts) (ty : Nat → FieldType) (hty : ∀ k, k < N → parseFieldDescriptor (T k).2.2.1 = some (ty k)) (ci : Nat) (hcl : cl[ci]? = some (C0, T, N)) (h1 : Cond.classLink own index C0 ∈ Ts) (h2 : Cond.instantiable C0 N ∈ Ts) (h3 : Cond.initialized C0 ∈ Ts)
    {fs : List Value} (hfs : ∀ j, j < N → defaultValue (ty j) = vp_V fs j) (hc : k + 1 ≤ R.cells ∧ n + N ≤ R.slots) (d : decode cc pc = .ok (.new index, 3))
    (kk : ∀ q : Nat, gG p l e R s m args below meth c D cl A H0 nL Q (k + 1) (n + N) (ws ++ [(q, .inr (ci, fs))]) (pc + 3) lv (.ref q :: st)) : gG p l e R s m args below meth c D cl A H0 nL Q k n ws pc lv st := by
  intro H locs ls hP hD hS hl
  exact va_new C.1 C.2.1 C.2.2.2.2.1 hin ty hty C.2.2.2.1 (C.2.2.2.2.1 _ h1) (C.2.2.2.2.1 _ h2) (C.2.2.2.2.1 _ h3) C.2.2.2.2.2.1 hP hD hS C.2.2.2.2.2.2 hcl hfs hc.1 hc.2 d (fun q H1 hP1 hD1 hS1 => kk q H1 locs ls hP1 hD1 hS1 hl)
theorem g_newaI (C : gC p s m args c cc own Ts D cl tys A H0 nL) {cI : ClassId} (t0 : Nat) (ht : tys[t0]? = some (cI, .int)) (h1 : Cond.arrayClass .int ∈ Ts) (N : Nat) {i : Int32} (hi : i = nI N) (hN : N < 2 ^ 20) (hc : k + 1 ≤ R.cells ∧ n + N ≤ R.slots) (d : decode cc pc = .ok (.newarray .int, 2))
    (kk : ∀ q : Nat, gG p l e R s m args below meth c D cl A H0 nL Q (k + 1) (n + N) (ws ++ [(q, .inl (cI, N, .inl (fun _ => 0)))]) (pc + 2) lv (.ref q :: st)) : gG p l e R s m args below meth c D cl A H0 nL Q k n ws pc lv (.int i :: st) := by
  subst hi
  intro H locs ls hP hD hS hl
  refine va_newa (atype := .int) (ty := .int) (N' := N) (a0 := (N, .inl (fun _ => 0))) C.1 C.2.1 (C.2.2.2.2.1 _ h1) rfl C.2.2.2.2.2.1 hP hD hS C.2.2.2.2.2.2 (fun _ => rfl) (nI_pos (by omega)) (nI_clamp (by omega)) (by show N * 4 ≤ _; omega) hc.1 hc.2 d ?_
  intro q cA H1 hK1 hP1 hD1 hS1
  have e1 := (hK1.2 tys.length (cA, .int) (by rw [List.getElem?_append_right (Nat.le_refl _), Nat.sub_self]; rfl)).2
  have e2 := (C.2.2.2.2.2.1.2 t0 (cI, .int) ht).2
  have e3 : cA = cI := Option.some.inj (Eq.trans (Eq.symm e1) e2)
  subst e3
  exact kk q H1 locs ls hP1 hD1 hS1 hl
theorem g_newqB (C : gC p s m args c cc own Ts D cl tys A H0 nL) {cO : ClassId} {C0 : String} {index : Nat} (t0 : Nat) (ht : tys[t0]? = some (cO, .object C0)) (h1 : Cond.classLink own index C0 ∈ Ts) (hover : va_AO C0 s) (N : Nat) {i : Int32} (hi : i = nI N) (hN : N < 2 ^ 20) (hc : k + 1 ≤ R.cells ∧ n + N ≤ R.slots) (d : decode cc pc = .ok (.anewarray index, 3))
    (kk : ∀ q : Nat, gG p l e R s m args below meth c D cl A H0 nL Q (k + 1) (n + N) (ws ++ [(q, .inl (cO, N, .inr (.inr (.inr (.inr (fun _ => none))))))]) (pc + 3) lv (.ref q :: st)) : gG p l e R s m args below meth c D cl A H0 nL Q k n ws pc lv (.int i :: st) := by
  subst hi
  intro H locs ls hP hD hS hl
  refine va_newq (N' := N) C.1 C.2.1 C.2.2.2.1 (C.2.2.2.2.1 _ h1) hover C.2.2.2.2.2.1 hP hD hS C.2.2.2.2.2.2 (nI_pos (by omega)) (nI_clamp (by omega)) (by omega) hc.1 hc.2 d ?_
  intro q cA H1 hK1 hP1 hD1 hS1
  obtain ⟨k1, p1, -, -, -, e1⟩ := (hK1.2 tys.length (cA, .object C0) (by rw [List.getElem?_append_right (Nat.le_refl _), Nat.sub_self]; rfl)).2
  obtain ⟨k2, p2, -, -, -, e2⟩ := (C.2.2.2.2.2.1.2 t0 (cO, .object C0) ht).2
  have e3 : cA = cO := Option.some.inj (Eq.trans (Eq.symm e1) e2)
  subst e3
  exact kk q H1 locs ls hP1 hD1 hS1 hl
theorem g_astq (C : gC p s m args c cc own Ts D cl tys A H0 nL) {a : Nat} {cA : ClassId} {r : vw_C} {N v : Nat} {vs : List Value} {f : Nat → Option Nat} {i : Int32} {ws' : va_W} (q0 t0 qk ci : Nat) (ha : ws[q0]? = some (a, .inl (cA, N, .inr (.inr (.inr (.inr f)))))) (ht : tys[t0]? = some (cA, .object r.1)) (hv : ws[qk]? = some (v, .inr (ci, vs))) (hcl : cl[ci]? = some r) (j : Nat) (hi : i = nI j) (hj : j < N) (hN : N < 2 ^ 31) (d : decode cc pc = .ok (.aastore, 1)) (hw : ws.set q0 (a, .inl (cA, N, .inr (.inr (.inr (.inr (va_up f j (some v))))))) = ws')
    (kk : gG p l e R s m args below meth c D cl A H0 nL Q k n ws' (pc + 1) lv st) : gG p l e R s m args below meth c D cl A H0 nL Q k n ws pc lv (.ref v :: .int i :: .ref a :: st) := by
  subst hi; subst hw
  intro H locs ls hP hD hS hl
  refine va_astq C.1 C.2.1 C.2.2.2.2.2.1 hP hD hS q0 t0 qk ci ha ht hv hcl (vp_in_nI hj hN) d ?_
  rw [nI_clamp (by omega)]
  intro H1 locs1 hP1 hD1 hS1
  exact kk H1 locs1 ls hP1 hD1 hS1 hl
end GAL
theorem cell_q {cA : ClassId} {N : Nat} {f f1 : Nat → Option Nat} (h : ∀ j, j < N → f j = f1 j) : vp_cell cA (N, .inr (.inr (.inr (.inr f)))) = vp_cell cA (N, .inr (.inr (.inr (.inr f1)))) := by
  show arrV cA N (fun j => va_rf (f j)) = arrV cA N (fun j => va_rf (f1 j))
  unfold arrV
  congr 2
  funext j
  exact congrArg va_rf (h j.val j.isLt)
theorem g00_0 {c : Nat} (h : 0 < c) : (fun j => g00 (6 * j + c)) = fun _ => 0 := by
  funext j
  exact if_neg (by omega)
theorem wB_new (ad : Nat → Nat) (cI : ClassId) : [(ad 0, .inr (0, [.ref (ad 1), .ref (ad 2), .ref (ad 3), .ref (ad 4), .ref (ad 5), .ref (ad 6), .int 3])), (ad 1, .inl (cI, 9, .inl (fun _ => 0))), (ad 2, .inl (cI, 9, .inl (fun _ => 0))), (ad 3, .inl (cI, 9, .inl (fun _ => 0))), (ad 4, .inl (cI, 9, .inl (fun _ => 0))), (ad 5, .inl (cI, 9, .inl (fun _ => 0))), (ad 6, .inl (cI, 9, .inl (fun _ => 0)))] = wB ad cI g00 := by
  unfold wB
  rw [g00_0 (c := 1) (by decide), g00_0 (c := 2) (by decide), g00_0 (c := 3) (by decide), g00_0 (c := 4) (by decide), g00_0 (c := 5) (by decide), g00_0 (c := 6) (by decide)]
  rfl
theorem fo_X0_init_link : Cond.methodLink RX0 3 objectInit ∈ wsX0_init := (List.mem_cons_of_mem _ (List.mem_append_left _ (List.mem_of_getElem? (i := 0) rfl)))
theorem fo_X0_init_inst : Cond.instanceMethod objectInit ∈ wsX0_init := (List.mem_cons_of_mem _ (List.mem_append_left _ (List.mem_of_getElem? (i := 1) rfl)))
theorem fo_X0_init_code : Cond.code objectInit ⟨#[0xb1]⟩ 1 none ∈ wsX0_init := (List.mem_cons_of_mem _ (List.mem_append_left _ (List.mem_of_getElem? (i := 2) rfl)))
theorem fw_X0_init_aci : Cond.arrayClass .int ∈ wsX0_init := (List.mem_cons_of_mem _ (List.mem_append_left _ (List.mem_of_getElem? (i := 3) rfl)))
theorem fw_X0_init_fld9 : Cond.fieldLink RX0 9 "StuckRods$Board" "fives" "[I" ∈ wsX0_init := (List.mem_cons_of_mem _ (List.mem_append_left _ (List.mem_of_getElem? (i := 4) rfl)))
theorem fl_X0_init_X0 : ∀ w ∈ wsX00, w ∈ wsX0_init := fun _ h => List.mem_cons_of_mem _ (List.mem_append_right _ h)
theorem fw_X0_init_fld15 : Cond.fieldLink RX0 15 "StuckRods$Board" "ones" "[I" ∈ wsX0_init := (List.mem_cons_of_mem _ (List.mem_append_left _ (List.mem_of_getElem? (i := 5) rfl)))
theorem fw_X0_init_fld18 : Cond.fieldLink RX0 18 "StuckRods$Board" "stuck" "[I" ∈ wsX0_init := (List.mem_cons_of_mem _ (List.mem_append_left _ (List.mem_of_getElem? (i := 6) rfl)))
theorem fw_X0_init_fld21 : Cond.fieldLink RX0 21 "StuckRods$Board" "loan" "[I" ∈ wsX0_init := (List.mem_cons_of_mem _ (List.mem_append_left _ (List.mem_of_getElem? (i := 7) rfl)))
theorem fw_X0_init_fld24 : Cond.fieldLink RX0 24 "StuckRods$Board" "moved" "[I" ∈ wsX0_init := (List.mem_cons_of_mem _ (List.mem_append_left _ (List.mem_of_getElem? (i := 8) rfl)))
theorem fw_X0_init_fld27 : Cond.fieldLink RX0 27 "StuckRods$Board" "borrowed" "[I" ∈ wsX0_init := (List.mem_cons_of_mem _ (List.mem_append_left _ (List.mem_of_getElem? (i := 9) rfl)))
theorem fw_X0_init_fld30 : Cond.fieldLink RX0 30 "StuckRods$Board" "setting" "I" ∈ wsX0_init := (List.mem_cons_of_mem _ (List.mem_append_left _ (List.mem_of_getElem? (i := 10) rfl)))
abbrev rmX0_init : Room := { frames := 1, cells := 6, slots := 54, locals := 12 }
set_option maxHeartbeats 2000000 in
set_option maxRecDepth 100000 in
theorem c_X0_init (l : Launch) (D : va_G) (cI cO : ClassId) (a : Nat) : cA (fun _ => True) l yX0_init wsX0_init rmX0_init D vwCl (tyA cI cO) [.ref a] ([(a, .inr (0, [.null, .null, .null, .null, .null, .null, .int 0]))] : va_W) (fun w => ∃ ad : Nat → Nat, ad 0 = a ∧ w = wB ad cI g00) 6 54 := by
  refine cA_of (cc := cX0_init) (maxL := 1) (ret := none) (by decide) rfl (Nat.le_of_ble_eq_true rfl) ?_
  intro p e s m below meth c A C hret hlk hnm hF
  refine g_lv [0] (lv' := [(0, .ref a)]) rfl ?_
  refine g_aload_n C dX0_init_0 0 rfl ?_
  refine g_objInit C dX0_init_1 fo_X0_init_link fo_X0_init_inst fo_X0_init_code (Nat.le_of_ble_eq_true rfl) (Nat.le_of_ble_eq_true rfl) ?_
  refine g_aload_n C dX0_init_4 0 rfl ?_
  refine g_bipush C (v := 9) dX0_init_5 cb_9 ?_
  refine g_newaI C 0 rfl fw_X0_init_aci 9 rfl (by decide) ⟨Nat.le_of_ble_eq_true rfl, Nat.le_of_ble_eq_true rfl⟩ dX0_init_7 ?_
  intro q1
  refine g_ws (ws' := (([(a, .inr (0, [.null, .null, .null, .null, .null, .null, .int 0]))] : va_W) ++ ([(q1, .inl (cI, 9, .inl (fun _ => 0)))] : va_W))) rfl ?_
  refine g_putF C (ws' := (([(a, .inr (0, [.ref q1, .null, .null, .null, .null, .null, .int 0]))] : va_W) ++ ([(q1, .inl (cI, 9, .inl (fun _ => 0)))] : va_W))) fl_X0_init_X0 tyX0 tyX0_ok nmX0 0 rfl rfl 0 (by decide) fw_X0_init_fld9 rfl hnm rfl (tyX0_ok 0 (by decide)) rfl rfl (Nat.le_of_ble_eq_true rfl) dX0_init_9 (ws_setl (Nat.le_of_ble_eq_true rfl) rfl) ?_
  refine g_aload_n C dX0_init_12 0 rfl ?_
  refine g_bipush C (v := 9) dX0_init_13 cb_9 ?_
  refine g_newaI C 0 rfl fw_X0_init_aci 9 rfl (by decide) ⟨Nat.le_of_ble_eq_true rfl, Nat.le_of_ble_eq_true rfl⟩ dX0_init_15 ?_
  intro q2
  refine g_ws (ws' := (([(a, .inr (0, [.ref q1, .null, .null, .null, .null, .null, .int 0]))] : va_W) ++ (([(q1, .inl (cI, 9, .inl (fun _ => 0)))] : va_W) ++ ([(q2, .inl (cI, 9, .inl (fun _ => 0)))] : va_W)))) rfl ?_
  refine g_putF C (ws' := (([(a, .inr (0, [.ref q1, .ref q2, .null, .null, .null, .null, .int 0]))] : va_W) ++ (([(q1, .inl (cI, 9, .inl (fun _ => 0)))] : va_W) ++ ([(q2, .inl (cI, 9, .inl (fun _ => 0)))] : va_W)))) fl_X0_init_X0 tyX0 tyX0_ok nmX0 0 rfl rfl 1 (by decide) fw_X0_init_fld15 rfl hnm rfl (tyX0_ok 1 (by decide)) rfl rfl (Nat.le_of_ble_eq_true rfl) dX0_init_17 (ws_setl (Nat.le_of_ble_eq_true rfl) rfl) ?_
  refine g_aload_n C dX0_init_20 0 rfl ?_
  refine g_bipush C (v := 9) dX0_init_21 cb_9 ?_
  refine g_newaI C 0 rfl fw_X0_init_aci 9 rfl (by decide) ⟨Nat.le_of_ble_eq_true rfl, Nat.le_of_ble_eq_true rfl⟩ dX0_init_23 ?_
  intro q3
  refine g_ws (ws' := (([(a, .inr (0, [.ref q1, .ref q2, .null, .null, .null, .null, .int 0]))] : va_W) ++ (([(q1, .inl (cI, 9, .inl (fun _ => 0)))] : va_W) ++ (([(q2, .inl (cI, 9, .inl (fun _ => 0)))] : va_W) ++ ([(q3, .inl (cI, 9, .inl (fun _ => 0)))] : va_W))))) rfl ?_
  refine g_putF C (ws' := (([(a, .inr (0, [.ref q1, .ref q2, .ref q3, .null, .null, .null, .int 0]))] : va_W) ++ (([(q1, .inl (cI, 9, .inl (fun _ => 0)))] : va_W) ++ (([(q2, .inl (cI, 9, .inl (fun _ => 0)))] : va_W) ++ ([(q3, .inl (cI, 9, .inl (fun _ => 0)))] : va_W))))) fl_X0_init_X0 tyX0 tyX0_ok nmX0 0 rfl rfl 2 (by decide) fw_X0_init_fld18 rfl hnm rfl (tyX0_ok 2 (by decide)) rfl rfl (Nat.le_of_ble_eq_true rfl) dX0_init_25 (ws_setl (Nat.le_of_ble_eq_true rfl) rfl) ?_
  refine g_aload_n C dX0_init_28 0 rfl ?_
  refine g_bipush C (v := 9) dX0_init_29 cb_9 ?_
  refine g_newaI C 0 rfl fw_X0_init_aci 9 rfl (by decide) ⟨Nat.le_of_ble_eq_true rfl, Nat.le_of_ble_eq_true rfl⟩ dX0_init_31 ?_
  intro q4
  refine g_ws (ws' := (([(a, .inr (0, [.ref q1, .ref q2, .ref q3, .null, .null, .null, .int 0]))] : va_W) ++ (([(q1, .inl (cI, 9, .inl (fun _ => 0)))] : va_W) ++ (([(q2, .inl (cI, 9, .inl (fun _ => 0)))] : va_W) ++ (([(q3, .inl (cI, 9, .inl (fun _ => 0)))] : va_W) ++ ([(q4, .inl (cI, 9, .inl (fun _ => 0)))] : va_W)))))) rfl ?_
  refine g_putF C (ws' := (([(a, .inr (0, [.ref q1, .ref q2, .ref q3, .ref q4, .null, .null, .int 0]))] : va_W) ++ (([(q1, .inl (cI, 9, .inl (fun _ => 0)))] : va_W) ++ (([(q2, .inl (cI, 9, .inl (fun _ => 0)))] : va_W) ++ (([(q3, .inl (cI, 9, .inl (fun _ => 0)))] : va_W) ++ ([(q4, .inl (cI, 9, .inl (fun _ => 0)))] : va_W)))))) fl_X0_init_X0 tyX0 tyX0_ok nmX0 0 rfl rfl 3 (by decide) fw_X0_init_fld21 rfl hnm rfl (tyX0_ok 3 (by decide)) rfl rfl (Nat.le_of_ble_eq_true rfl) dX0_init_33 (ws_setl (Nat.le_of_ble_eq_true rfl) rfl) ?_
  refine g_aload_n C dX0_init_36 0 rfl ?_
  refine g_bipush C (v := 9) dX0_init_37 cb_9 ?_
  refine g_newaI C 0 rfl fw_X0_init_aci 9 rfl (by decide) ⟨Nat.le_of_ble_eq_true rfl, Nat.le_of_ble_eq_true rfl⟩ dX0_init_39 ?_
  intro q5
  refine g_ws (ws' := (([(a, .inr (0, [.ref q1, .ref q2, .ref q3, .ref q4, .null, .null, .int 0]))] : va_W) ++ (([(q1, .inl (cI, 9, .inl (fun _ => 0)))] : va_W) ++ (([(q2, .inl (cI, 9, .inl (fun _ => 0)))] : va_W) ++ (([(q3, .inl (cI, 9, .inl (fun _ => 0)))] : va_W) ++ (([(q4, .inl (cI, 9, .inl (fun _ => 0)))] : va_W) ++ ([(q5, .inl (cI, 9, .inl (fun _ => 0)))] : va_W))))))) rfl ?_
  refine g_putF C (ws' := (([(a, .inr (0, [.ref q1, .ref q2, .ref q3, .ref q4, .ref q5, .null, .int 0]))] : va_W) ++ (([(q1, .inl (cI, 9, .inl (fun _ => 0)))] : va_W) ++ (([(q2, .inl (cI, 9, .inl (fun _ => 0)))] : va_W) ++ (([(q3, .inl (cI, 9, .inl (fun _ => 0)))] : va_W) ++ (([(q4, .inl (cI, 9, .inl (fun _ => 0)))] : va_W) ++ ([(q5, .inl (cI, 9, .inl (fun _ => 0)))] : va_W))))))) fl_X0_init_X0 tyX0 tyX0_ok nmX0 0 rfl rfl 4 (by decide) fw_X0_init_fld24 rfl hnm rfl (tyX0_ok 4 (by decide)) rfl rfl (Nat.le_of_ble_eq_true rfl) dX0_init_41 (ws_setl (Nat.le_of_ble_eq_true rfl) rfl) ?_
  refine g_aload_n C dX0_init_44 0 rfl ?_
  refine g_bipush C (v := 9) dX0_init_45 cb_9 ?_
  refine g_newaI C 0 rfl fw_X0_init_aci 9 rfl (by decide) ⟨Nat.le_of_ble_eq_true rfl, Nat.le_of_ble_eq_true rfl⟩ dX0_init_47 ?_
  intro q6
  refine g_ws (ws' := (([(a, .inr (0, [.ref q1, .ref q2, .ref q3, .ref q4, .ref q5, .null, .int 0]))] : va_W) ++ (([(q1, .inl (cI, 9, .inl (fun _ => 0)))] : va_W) ++ (([(q2, .inl (cI, 9, .inl (fun _ => 0)))] : va_W) ++ (([(q3, .inl (cI, 9, .inl (fun _ => 0)))] : va_W) ++ (([(q4, .inl (cI, 9, .inl (fun _ => 0)))] : va_W) ++ (([(q5, .inl (cI, 9, .inl (fun _ => 0)))] : va_W) ++ ([(q6, .inl (cI, 9, .inl (fun _ => 0)))] : va_W)))))))) rfl ?_
  refine g_putF C (ws' := (([(a, .inr (0, [.ref q1, .ref q2, .ref q3, .ref q4, .ref q5, .ref q6, .int 0]))] : va_W) ++ (([(q1, .inl (cI, 9, .inl (fun _ => 0)))] : va_W) ++ (([(q2, .inl (cI, 9, .inl (fun _ => 0)))] : va_W) ++ (([(q3, .inl (cI, 9, .inl (fun _ => 0)))] : va_W) ++ (([(q4, .inl (cI, 9, .inl (fun _ => 0)))] : va_W) ++ (([(q5, .inl (cI, 9, .inl (fun _ => 0)))] : va_W) ++ ([(q6, .inl (cI, 9, .inl (fun _ => 0)))] : va_W)))))))) fl_X0_init_X0 tyX0 tyX0_ok nmX0 0 rfl rfl 5 (by decide) fw_X0_init_fld27 rfl hnm rfl (tyX0_ok 5 (by decide)) rfl rfl (Nat.le_of_ble_eq_true rfl) dX0_init_49 (ws_setl (Nat.le_of_ble_eq_true rfl) rfl) ?_
  refine g_aload_n C dX0_init_52 0 rfl ?_
  refine g_iconst C (v := 3) dX0_init_53 ci_3 ?_
  refine g_put C (ws' := (([(a, .inr (0, [.ref q1, .ref q2, .ref q3, .ref q4, .ref q5, .ref q6, .int 3]))] : va_W) ++ (([(q1, .inl (cI, 9, .inl (fun _ => 0)))] : va_W) ++ (([(q2, .inl (cI, 9, .inl (fun _ => 0)))] : va_W) ++ (([(q3, .inl (cI, 9, .inl (fun _ => 0)))] : va_W) ++ (([(q4, .inl (cI, 9, .inl (fun _ => 0)))] : va_W) ++ (([(q5, .inl (cI, 9, .inl (fun _ => 0)))] : va_W) ++ ([(q6, .inl (cI, 9, .inl (fun _ => 0)))] : va_W)))))))) fl_X0_init_X0 tyX0 tyX0_ok nmX0 0 rfl rfl 6 (by decide) fw_X0_init_fld30 rfl (tyX0_ok 6 (by decide)) rfl rfl (Nat.le_of_ble_eq_true rfl) dX0_init_54 (ws_setl (Nat.le_of_ble_eq_true rfl) rfl) ?_
  exact g_vretA C hret hlk dX0_init_57 ⟨(fun i => match i with | 0 => a | 1 => q1 | 2 => q2 | 3 => q3 | 4 => q4 | 5 => q5 | _ => q6), rfl, wB_new (fun i => match i with | 0 => a | 1 => q1 | 2 => q2 | 3 => q3 | 4 => q4 | 5 => q5 | _ => q6) cI⟩
theorem fo_X2_init_link : Cond.methodLink RX2 3 objectInit ∈ wsX2_init := (List.mem_cons_of_mem _ (List.mem_append_left _ (List.mem_of_getElem? (i := 0) rfl)))
theorem fo_X2_init_inst : Cond.instanceMethod objectInit ∈ wsX2_init := (List.mem_cons_of_mem _ (List.mem_append_left _ (List.mem_of_getElem? (i := 1) rfl)))
theorem fo_X2_init_code : Cond.code objectInit ⟨#[0xb1]⟩ 1 none ∈ wsX2_init := (List.mem_cons_of_mem _ (List.mem_append_left _ (List.mem_of_getElem? (i := 2) rfl)))
theorem fw_X2_init_aci : Cond.arrayClass .int ∈ wsX2_init := (List.mem_cons_of_mem _ (List.mem_append_left _ (List.mem_of_getElem? (i := 3) rfl)))
theorem fw_X2_init_fld9 : Cond.fieldLink RX2 9 "StuckRods$SumText" "codes" "[I" ∈ wsX2_init := (List.mem_cons_of_mem _ (List.mem_append_left _ (List.mem_of_getElem? (i := 4) rfl)))
theorem fl_X2_init_X2 : ∀ w ∈ wsX20, w ∈ wsX2_init := fun _ h => List.mem_cons_of_mem _ (List.mem_append_right _ h)
theorem fw_X2_init_fld15 : Cond.fieldLink RX2 15 "StuckRods$SumText" "length" "I" ∈ wsX2_init := (List.mem_cons_of_mem _ (List.mem_append_left _ (List.mem_of_getElem? (i := 5) rfl)))
abbrev rmX2_init : Room := { frames := 1, cells := 1, slots := 60, locals := 12 }
set_option maxHeartbeats 2000000 in
set_option maxRecDepth 100000 in
theorem c_X2_init (l : Launch) (D : va_G) (cI cO : ClassId) (a : Nat) : cA (fun _ => True) l yX2_init wsX2_init rmX2_init D vwCl (tyA cI cO) [.ref a] ([(a, .inr (2, [.null, .int 0]))] : va_W) (fun w => ∃ ta : Nat → Nat, ta 0 = a ∧ w = wT ta cI (fun _ => 0) (nI 0)) 1 60 := by
  refine cA_of (cc := cX2_init) (maxL := 1) (ret := none) (by decide) rfl (Nat.le_of_ble_eq_true rfl) ?_
  intro p e s m below meth c A C hret hlk hnm hF
  refine g_lv [0] (lv' := [(0, .ref a)]) rfl ?_
  refine g_aload_n C dX2_init_0 0 rfl ?_
  refine g_objInit C dX2_init_1 fo_X2_init_link fo_X2_init_inst fo_X2_init_code (Nat.le_of_ble_eq_true rfl) (Nat.le_of_ble_eq_true rfl) ?_
  refine g_aload_n C dX2_init_4 0 rfl ?_
  refine g_bipush C (v := 60) dX2_init_5 cb_60 ?_
  refine g_newaI C 0 rfl fw_X2_init_aci 60 rfl (by decide) ⟨Nat.le_of_ble_eq_true rfl, Nat.le_of_ble_eq_true rfl⟩ dX2_init_7 ?_
  intro q1
  refine g_ws (ws' := (([(a, .inr (2, [.null, .int 0]))] : va_W) ++ ([(q1, .inl (cI, 60, .inl (fun _ => 0)))] : va_W))) rfl ?_
  refine g_putF C (ws' := (([(a, .inr (2, [.ref q1, .int 0]))] : va_W) ++ ([(q1, .inl (cI, 60, .inl (fun _ => 0)))] : va_W))) fl_X2_init_X2 tyX2 tyX2_ok nmX2 0 rfl rfl 0 (by decide) fw_X2_init_fld9 rfl hnm rfl (tyX2_ok 0 (by decide)) rfl rfl (Nat.le_of_ble_eq_true rfl) dX2_init_9 (ws_setl (Nat.le_of_ble_eq_true rfl) rfl) ?_
  refine g_aload_n C dX2_init_12 0 rfl ?_
  refine g_iconst C (v := 0) dX2_init_13 ci_0 ?_
  refine g_put C (ws' := (([(a, .inr (2, [.ref q1, .int 0]))] : va_W) ++ ([(q1, .inl (cI, 60, .inl (fun _ => 0)))] : va_W))) fl_X2_init_X2 tyX2 tyX2_ok nmX2 0 rfl rfl 1 (by decide) fw_X2_init_fld15 rfl (tyX2_ok 1 (by decide)) rfl rfl (Nat.le_of_ble_eq_true rfl) dX2_init_14 (ws_setl (Nat.le_of_ble_eq_true rfl) rfl) ?_
  exact g_vretA C hret hlk dX2_init_17 ⟨(fun i => match i with | 0 => a | _ => q1), rfl, rfl⟩
theorem hist_new {D : va_G} {cI cO : ClassId} {H : Heap} {h0 h1 : Nat} {a0 a1 a2 a3 a4 a5 : Nat → Nat}
    (hP : va_P D vwCl ([(h0, .inr (1, [.ref h1, .int 0, .int 0]))] ++ ([(h1, .inl (cO, 6, .inr (.inr (.inr (.inr (va_up (va_up (va_up (va_up (va_up (va_up (fun _ => none) 0 (some (a0 0))) 1 (some (a1 0))) 2 (some (a2 0))) 3 (some (a3 0))) 4 (some (a4 0))) 5 (some (a5 0))))))))] ++ (wB a0 cI g00 ++ (wB a1 cI g00 ++ (wB a2 cI g00 ++ (wB a3 cI g00 ++ (wB a4 cI g00 ++ wB a5 cI g00))))))) H) :
    va_P D vwCl (wHs (fun i => match i with | 0 => h0 | _ => h1) (fun k => match k with | 0 => a0 | 1 => a1 | 2 => a2 | 3 => a3 | 4 => a4 | _ => a5) cI cO (fun _ => g00) (nI 0) (nI 0)) H := by
  refine va_P.app (?_ : va_P D vwCl (wH0 (fun i => match i with | 0 => h0 | _ => h1) (fun k => match k with | 0 => a0 | 1 => a1 | 2 => a2 | 3 => a3 | 4 => a4 | _ => a5) cO (nI 0) (nI 0)) H) (wP_r (wP_r hP))
  intro k q hk
  have hk2 : k < 2 := (List.getElem?_eq_some_iff.mp hk).1
  rcases (show k = 0 ∨ k = 1 by omega) with e | e <;> subst e <;> cases hk
  · exact hP 0 _ rfl
  · have h := hP 1 _ rfl
    show H[h1]? = some (vp_cell _ _)
    have h' : H[h1]? = some (vp_cell cO (6, .inr (.inr (.inr (.inr (va_up (va_up (va_up (va_up (va_up (va_up (fun _ => none) 0 (some (a0 0))) 1 (some (a1 0))) 2 (some (a2 0))) 3 (some (a3 0))) 4 (some (a4 0))) 5 (some (a5 0)))))))) := h
    rw [h', cell_q (fun j hj => ?_)]
    rcases (show j = 0 ∨ j = 1 ∨ j = 2 ∨ j = 3 ∨ j = 4 ∨ j = 5 by omega) with e | e | e | e | e | e <;> subst e <;> rfl
theorem fo_X1_init_link : Cond.methodLink RX1 3 objectInit ∈ wsX1_init := (List.mem_cons_of_mem _ (List.mem_append_left _ (List.mem_append_left _ (List.mem_of_getElem? (i := 0) rfl))))
theorem fo_X1_init_inst : Cond.instanceMethod objectInit ∈ wsX1_init := (List.mem_cons_of_mem _ (List.mem_append_left _ (List.mem_append_left _ (List.mem_of_getElem? (i := 1) rfl))))
theorem fo_X1_init_code : Cond.code objectInit ⟨#[0xb1]⟩ 1 none ∈ wsX1_init := (List.mem_cons_of_mem _ (List.mem_append_left _ (List.mem_append_left _ (List.mem_of_getElem? (i := 2) rfl))))
theorem fw_X1_init_clk9 : Cond.classLink RX1 9 RX0 ∈ wsX1_init := (List.mem_cons_of_mem _ (List.mem_append_left _ (List.mem_append_left _ (List.mem_of_getElem? (i := 3) rfl))))
theorem fw_X1_init_fld11 : Cond.fieldLink RX1 11 "StuckRods$History" "slots" "[LStuckRods$Board;" ∈ wsX1_init := (List.mem_cons_of_mem _ (List.mem_append_left _ (List.mem_append_left _ (List.mem_of_getElem? (i := 4) rfl))))
theorem fl_X1_init_X1 : ∀ w ∈ wsX10, w ∈ wsX1_init := fun _ h => List.mem_cons_of_mem _ (List.mem_append_left _ (List.mem_append_right _ h))
theorem fw_X1_init_fld17 : Cond.fieldLink RX1 17 "StuckRods$History" "oldest" "I" ∈ wsX1_init := (List.mem_cons_of_mem _ (List.mem_append_left _ (List.mem_append_left _ (List.mem_of_getElem? (i := 5) rfl))))
theorem fw_X1_init_fld21 : Cond.fieldLink RX1 21 "StuckRods$History" "size" "I" ∈ wsX1_init := (List.mem_cons_of_mem _ (List.mem_append_left _ (List.mem_append_left _ (List.mem_of_getElem? (i := 6) rfl))))
theorem fw_X1_init_isbX0 : Cond.instantiable RX0 7 ∈ wsX1_init := (List.mem_cons_of_mem _ (List.mem_append_left _ (List.mem_append_left _ (List.mem_of_getElem? (i := 7) rfl))))
theorem fw_X1_init_iniX0 : Cond.initialized RX0 ∈ wsX1_init := (List.mem_cons_of_mem _ (List.mem_append_left _ (List.mem_append_left _ (List.mem_of_getElem? (i := 8) rfl))))
theorem fl_X1_init_X0 : ∀ w ∈ wsX00, w ∈ wsX1_init := fun _ h => List.mem_cons_of_mem _ (List.mem_append_right _ h)
theorem fw_X1_init_mlX0 : Cond.methodLink RX1 24 yX0_init ∈ wsX1_init := (List.mem_cons_of_mem _ (List.mem_append_left _ (List.mem_append_left _ (List.mem_of_getElem? (i := 9) rfl))))
theorem fw_X1_init_imX0 : Cond.instanceMethod yX0_init ∈ wsX1_init := (List.mem_cons_of_mem _ (List.mem_append_left _ (List.mem_append_left _ (List.mem_of_getElem? (i := 10) rfl))))
theorem hd_X0_init : yX0_init.cls ≠ "java/lang/invoke/MethodHandle" ∧ yX0_init.cls ≠ "java/lang/invoke/VarHandle" ∧ (parseMethodDescriptor yX0_init.desc).map (fun d => d.parameters.length) = some 0 := by decide +kernel
abbrev rmX1_init : Room := { frames := 2, cells := 43, slots := 372, locals := 32 }
set_option maxHeartbeats 2000000 in
set_option maxRecDepth 100000 in
theorem c_X1_init (l : Launch) (D : va_G) (cI cO : ClassId) (a : Nat) : cA aF l yX1_init wsX1_init rmX1_init D vwCl (tyA cI cO) [.ref a] ([(a, .inr (1, [.null, .int 0, .int 0]))] : va_W) (fun w => ∃ (ha : Nat → Nat) (hb : Nat → Nat → Nat), ha 0 = a ∧ w = wHs ha hb cI cO (fun _ => g00) (nI 0) (nI 0)) 43 372 := by
  refine cA_of (cc := cX1_init) (maxL := 2) (ret := none) (by decide) rfl (Nat.le_of_ble_eq_true rfl) ?_
  intro p e s m below meth c A C hret hlk hnm hF
  refine g_lv [0] (lv' := [(0, .ref a)]) rfl ?_
  refine g_aload_n C dX1_init_0 0 rfl ?_
  refine g_objInit C dX1_init_1 fo_X1_init_link fo_X1_init_inst fo_X1_init_code (Nat.le_of_ble_eq_true rfl) (Nat.le_of_ble_eq_true rfl) ?_
  refine g_aload_n C dX1_init_4 0 rfl ?_
  refine g_bipush C (v := 6) dX1_init_5 cb_6 ?_
  refine g_newqB C 1 rfl fw_X1_init_clk9 (aF_of hF) 6 rfl (by decide) ⟨Nat.le_of_ble_eq_true rfl, Nat.le_of_ble_eq_true rfl⟩ dX1_init_7 ?_
  intro q1
  refine g_ws (ws' := (([(a, .inr (1, [.null, .int 0, .int 0]))] : va_W) ++ ([(q1, .inl (cO, 6, .inr (.inr (.inr (.inr (fun _ => none))))))] : va_W))) rfl ?_
  refine g_putF C (ws' := (([(a, .inr (1, [.ref q1, .int 0, .int 0]))] : va_W) ++ ([(q1, .inl (cO, 6, .inr (.inr (.inr (.inr (fun _ => none))))))] : va_W))) fl_X1_init_X1 tyX1 tyX1_ok nmX1 0 rfl rfl 0 (by decide) fw_X1_init_fld11 rfl hnm rfl (tyX1_ok 0 (by decide)) rfl rfl (Nat.le_of_ble_eq_true rfl) dX1_init_10 (ws_setl (Nat.le_of_ble_eq_true rfl) rfl) ?_
  refine g_aload_n C dX1_init_13 0 rfl ?_
  refine g_iconst C (v := 0) dX1_init_14 ci_0 ?_
  refine g_put C (ws' := (([(a, .inr (1, [.ref q1, .int 0, .int 0]))] : va_W) ++ ([(q1, .inl (cO, 6, .inr (.inr (.inr (.inr (fun _ => none))))))] : va_W))) fl_X1_init_X1 tyX1 tyX1_ok nmX1 0 rfl rfl 1 (by decide) fw_X1_init_fld17 rfl (tyX1_ok 1 (by decide)) rfl rfl (Nat.le_of_ble_eq_true rfl) dX1_init_15 (ws_setl (Nat.le_of_ble_eq_true rfl) rfl) ?_
  refine g_aload_n C dX1_init_18 0 rfl ?_
  refine g_iconst C (v := 0) dX1_init_19 ci_0 ?_
  refine g_put C (ws' := (([(a, .inr (1, [.ref q1, .int 0, .int 0]))] : va_W) ++ ([(q1, .inl (cO, 6, .inr (.inr (.inr (.inr (fun _ => none))))))] : va_W))) fl_X1_init_X1 tyX1 tyX1_ok nmX1 0 rfl rfl 2 (by decide) fw_X1_init_fld21 rfl (tyX1_ok 2 (by decide)) rfl rfl (Nat.le_of_ble_eq_true rfl) dX1_init_20 (ws_setl (Nat.le_of_ble_eq_true rfl) rfl) ?_
  refine g_iconst C (v := 0) dX1_init_23 ci_0 ?_
  refine g_istore_n C (lv' := [(1, .int 0), (0, .ref a)]) dX1_init_24 rfl (by decide) rfl ?_
  refine g_iload_n C dX1_init_25 0 rfl ?_
  refine g_bipush C (v := 6) dX1_init_26 cb_6 ?_
  refine g_icmp_ge C (tgt := 50) dX1_init_28 (by decide) (fun h28_2 => absurd h28_2 (by decide)) (fun _ => ?_)
  refine g_aload_n C dX1_init_31 1 rfl ?_
  refine g_get C (v := .ref q1) fl_X1_init_X1 0 rfl rfl 0 (by decide) fw_X1_init_fld11 rfl dX1_init_32 ?_
  refine g_iload_n C dX1_init_35 0 rfl ?_
  refine g_new C fl_X1_init_X0 tyX0 tyX0_ok 0 rfl fw_X1_init_clk9 fw_X1_init_isbX0 fw_X1_init_iniX0 (fs := [.null, .null, .null, .null, .null, .null, .int 0]) (by decide +kernel) ⟨Nat.le_of_ble_eq_true rfl, Nat.le_of_ble_eq_true rfl⟩ dX1_init_36 ?_
  intro q3
  refine g_ws (ws' := (([(a, .inr (1, [.ref q1, .int 0, .int 0]))] : va_W) ++ (([(q1, .inl (cO, 6, .inr (.inr (.inr (.inr (fun _ => none))))))] : va_W) ++ ([(q3, .inr (0, [.null, .null, .null, .null, .null, .null, .int 0]))] : va_W)))) rfl ?_
  refine g_dup C dX1_init_39 rfl ?_
  refine g_callI C (c_X0_init l D cI cO q3) gX1_init_X0_init rfl fw_X1_init_iniX0 fw_X1_init_mlX0 fw_X1_init_imX0 rfl ⟨rfl, rfl⟩ hd_X0_init ⟨Nat.le_of_ble_eq_true rfl, Nat.le_of_ble_eq_true rfl⟩ [0, 1] rfl (fun _ _ => trivial) rfl (rest := [.ref q3, .int 0, .ref q1]) rfl (Nat.le_of_ble_eq_true rfl) dX1_init_40 ⟨Nat.le_of_ble_eq_true rfl, Nat.le_of_ble_eq_true rfl⟩ (pre := (([(a, .inr (1, [.ref q1, .int 0, .int 0]))] : va_W) ++ ([(q1, .inl (cO, 6, .inr (.inr (.inr (.inr (fun _ => none))))))] : va_W))) (post := []) rfl ?_
  intro w9 hw9
  obtain ⟨ad4, rfl, rfl⟩ := hw9
  refine g_ws (ws' := (([(a, .inr (1, [.ref q1, .int 0, .int 0]))] : va_W) ++ (([(q1, .inl (cO, 6, .inr (.inr (.inr (.inr (fun _ => none))))))] : va_W) ++ (wB ad4 cI g00)))) rfl ?_
  refine g_astq C (ws' := (([(a, .inr (1, [.ref q1, .int 0, .int 0]))] : va_W) ++ (([(q1, .inl (cO, 6, .inr (.inr (.inr (.inr (va_up (fun _ => none) 0 (some (ad4 0))))))))] : va_W) ++ (wB ad4 cI g00)))) 1 1 2 0 rfl rfl rfl rfl 0 rfl (by decide) (by decide) dX1_init_43 rfl ?_
  refine g_iinc C (v := 1) (lv' := [(1, .int 1), (0, .ref a)]) dX1_init_44 0 rfl (by decide) (by decide) rfl ?_
  refine g_goto C (tgt := 25) dX1_init_47 (by decide) ?_
  refine g_iload_n C dX1_init_25 0 rfl ?_
  refine g_bipush C (v := 6) dX1_init_26 cb_6 ?_
  refine g_icmp_ge C (tgt := 50) dX1_init_28 (by decide) (fun h28_5 => absurd h28_5 (by decide)) (fun _ => ?_)
  refine g_aload_n C dX1_init_31 1 rfl ?_
  refine g_get C (v := .ref q1) fl_X1_init_X1 0 rfl rfl 0 (by decide) fw_X1_init_fld11 rfl dX1_init_32 ?_
  refine g_iload_n C dX1_init_35 0 rfl ?_
  refine g_new C fl_X1_init_X0 tyX0 tyX0_ok 0 rfl fw_X1_init_clk9 fw_X1_init_isbX0 fw_X1_init_iniX0 (fs := [.null, .null, .null, .null, .null, .null, .int 0]) (by decide +kernel) ⟨Nat.le_of_ble_eq_true rfl, Nat.le_of_ble_eq_true rfl⟩ dX1_init_36 ?_
  intro q6
  refine g_ws (ws' := (([(a, .inr (1, [.ref q1, .int 0, .int 0]))] : va_W) ++ (([(q1, .inl (cO, 6, .inr (.inr (.inr (.inr (va_up (fun _ => none) 0 (some (ad4 0))))))))] : va_W) ++ ((wB ad4 cI g00) ++ ([(q6, .inr (0, [.null, .null, .null, .null, .null, .null, .int 0]))] : va_W))))) rfl ?_
  refine g_dup C dX1_init_39 rfl ?_
  refine g_callI C (c_X0_init l D cI cO q6) gX1_init_X0_init rfl fw_X1_init_iniX0 fw_X1_init_mlX0 fw_X1_init_imX0 rfl ⟨rfl, rfl⟩ hd_X0_init ⟨Nat.le_of_ble_eq_true rfl, Nat.le_of_ble_eq_true rfl⟩ [0, 1] rfl (fun _ _ => trivial) rfl (rest := [.ref q6, .int 1, .ref q1]) rfl (Nat.le_of_ble_eq_true rfl) dX1_init_40 ⟨Nat.le_of_ble_eq_true rfl, Nat.le_of_ble_eq_true rfl⟩ (pre := (([(a, .inr (1, [.ref q1, .int 0, .int 0]))] : va_W) ++ (([(q1, .inl (cO, 6, .inr (.inr (.inr (.inr (va_up (fun _ => none) 0 (some (ad4 0))))))))] : va_W) ++ (wB ad4 cI g00)))) (post := []) rfl ?_
  intro w9 hw9
  obtain ⟨ad7, rfl, rfl⟩ := hw9
  refine g_ws (ws' := (([(a, .inr (1, [.ref q1, .int 0, .int 0]))] : va_W) ++ (([(q1, .inl (cO, 6, .inr (.inr (.inr (.inr (va_up (fun _ => none) 0 (some (ad4 0))))))))] : va_W) ++ ((wB ad4 cI g00) ++ (wB ad7 cI g00))))) rfl ?_
  refine g_astq C (ws' := (([(a, .inr (1, [.ref q1, .int 0, .int 0]))] : va_W) ++ (([(q1, .inl (cO, 6, .inr (.inr (.inr (.inr (va_up (va_up (fun _ => none) 0 (some (ad4 0))) 1 (some (ad7 0))))))))] : va_W) ++ ((wB ad4 cI g00) ++ (wB ad7 cI g00))))) 1 1 9 0 rfl rfl rfl rfl 1 rfl (by decide) (by decide) dX1_init_43 rfl ?_
  refine g_iinc C (v := 2) (lv' := [(1, .int 2), (0, .ref a)]) dX1_init_44 0 rfl (by decide) (by decide) rfl ?_
  refine g_goto C (tgt := 25) dX1_init_47 (by decide) ?_
  refine g_iload_n C dX1_init_25 0 rfl ?_
  refine g_bipush C (v := 6) dX1_init_26 cb_6 ?_
  refine g_icmp_ge C (tgt := 50) dX1_init_28 (by decide) (fun h28_8 => absurd h28_8 (by decide)) (fun _ => ?_)
  refine g_aload_n C dX1_init_31 1 rfl ?_
  refine g_get C (v := .ref q1) fl_X1_init_X1 0 rfl rfl 0 (by decide) fw_X1_init_fld11 rfl dX1_init_32 ?_
  refine g_iload_n C dX1_init_35 0 rfl ?_
  refine g_new C fl_X1_init_X0 tyX0 tyX0_ok 0 rfl fw_X1_init_clk9 fw_X1_init_isbX0 fw_X1_init_iniX0 (fs := [.null, .null, .null, .null, .null, .null, .int 0]) (by decide +kernel) ⟨Nat.le_of_ble_eq_true rfl, Nat.le_of_ble_eq_true rfl⟩ dX1_init_36 ?_
  intro q9
  refine g_ws (ws' := (([(a, .inr (1, [.ref q1, .int 0, .int 0]))] : va_W) ++ (([(q1, .inl (cO, 6, .inr (.inr (.inr (.inr (va_up (va_up (fun _ => none) 0 (some (ad4 0))) 1 (some (ad7 0))))))))] : va_W) ++ ((wB ad4 cI g00) ++ ((wB ad7 cI g00) ++ ([(q9, .inr (0, [.null, .null, .null, .null, .null, .null, .int 0]))] : va_W)))))) rfl ?_
  refine g_dup C dX1_init_39 rfl ?_
  refine g_callI C (c_X0_init l D cI cO q9) gX1_init_X0_init rfl fw_X1_init_iniX0 fw_X1_init_mlX0 fw_X1_init_imX0 rfl ⟨rfl, rfl⟩ hd_X0_init ⟨Nat.le_of_ble_eq_true rfl, Nat.le_of_ble_eq_true rfl⟩ [0, 1] rfl (fun _ _ => trivial) rfl (rest := [.ref q9, .int 2, .ref q1]) rfl (Nat.le_of_ble_eq_true rfl) dX1_init_40 ⟨Nat.le_of_ble_eq_true rfl, Nat.le_of_ble_eq_true rfl⟩ (pre := (([(a, .inr (1, [.ref q1, .int 0, .int 0]))] : va_W) ++ (([(q1, .inl (cO, 6, .inr (.inr (.inr (.inr (va_up (va_up (fun _ => none) 0 (some (ad4 0))) 1 (some (ad7 0))))))))] : va_W) ++ ((wB ad4 cI g00) ++ (wB ad7 cI g00))))) (post := []) rfl ?_
  intro w9 hw9
  obtain ⟨ad10, rfl, rfl⟩ := hw9
  refine g_ws (ws' := (([(a, .inr (1, [.ref q1, .int 0, .int 0]))] : va_W) ++ (([(q1, .inl (cO, 6, .inr (.inr (.inr (.inr (va_up (va_up (fun _ => none) 0 (some (ad4 0))) 1 (some (ad7 0))))))))] : va_W) ++ ((wB ad4 cI g00) ++ ((wB ad7 cI g00) ++ (wB ad10 cI g00)))))) rfl ?_
  refine g_astq C (ws' := (([(a, .inr (1, [.ref q1, .int 0, .int 0]))] : va_W) ++ (([(q1, .inl (cO, 6, .inr (.inr (.inr (.inr (va_up (va_up (va_up (fun _ => none) 0 (some (ad4 0))) 1 (some (ad7 0))) 2 (some (ad10 0))))))))] : va_W) ++ ((wB ad4 cI g00) ++ ((wB ad7 cI g00) ++ (wB ad10 cI g00)))))) 1 1 16 0 rfl rfl rfl rfl 2 rfl (by decide) (by decide) dX1_init_43 rfl ?_
  refine g_iinc C (v := 3) (lv' := [(1, .int 3), (0, .ref a)]) dX1_init_44 0 rfl (by decide) (by decide) rfl ?_
  refine g_goto C (tgt := 25) dX1_init_47 (by decide) ?_
  refine g_iload_n C dX1_init_25 0 rfl ?_
  refine g_bipush C (v := 6) dX1_init_26 cb_6 ?_
  refine g_icmp_ge C (tgt := 50) dX1_init_28 (by decide) (fun h28_11 => absurd h28_11 (by decide)) (fun _ => ?_)
  refine g_aload_n C dX1_init_31 1 rfl ?_
  refine g_get C (v := .ref q1) fl_X1_init_X1 0 rfl rfl 0 (by decide) fw_X1_init_fld11 rfl dX1_init_32 ?_
  refine g_iload_n C dX1_init_35 0 rfl ?_
  refine g_new C fl_X1_init_X0 tyX0 tyX0_ok 0 rfl fw_X1_init_clk9 fw_X1_init_isbX0 fw_X1_init_iniX0 (fs := [.null, .null, .null, .null, .null, .null, .int 0]) (by decide +kernel) ⟨Nat.le_of_ble_eq_true rfl, Nat.le_of_ble_eq_true rfl⟩ dX1_init_36 ?_
  intro q12
  refine g_ws (ws' := (([(a, .inr (1, [.ref q1, .int 0, .int 0]))] : va_W) ++ (([(q1, .inl (cO, 6, .inr (.inr (.inr (.inr (va_up (va_up (va_up (fun _ => none) 0 (some (ad4 0))) 1 (some (ad7 0))) 2 (some (ad10 0))))))))] : va_W) ++ ((wB ad4 cI g00) ++ ((wB ad7 cI g00) ++ ((wB ad10 cI g00) ++ ([(q12, .inr (0, [.null, .null, .null, .null, .null, .null, .int 0]))] : va_W))))))) rfl ?_
  refine g_dup C dX1_init_39 rfl ?_
  refine g_callI C (c_X0_init l D cI cO q12) gX1_init_X0_init rfl fw_X1_init_iniX0 fw_X1_init_mlX0 fw_X1_init_imX0 rfl ⟨rfl, rfl⟩ hd_X0_init ⟨Nat.le_of_ble_eq_true rfl, Nat.le_of_ble_eq_true rfl⟩ [0, 1] rfl (fun _ _ => trivial) rfl (rest := [.ref q12, .int 3, .ref q1]) rfl (Nat.le_of_ble_eq_true rfl) dX1_init_40 ⟨Nat.le_of_ble_eq_true rfl, Nat.le_of_ble_eq_true rfl⟩ (pre := (([(a, .inr (1, [.ref q1, .int 0, .int 0]))] : va_W) ++ (([(q1, .inl (cO, 6, .inr (.inr (.inr (.inr (va_up (va_up (va_up (fun _ => none) 0 (some (ad4 0))) 1 (some (ad7 0))) 2 (some (ad10 0))))))))] : va_W) ++ ((wB ad4 cI g00) ++ ((wB ad7 cI g00) ++ (wB ad10 cI g00)))))) (post := []) rfl ?_
  intro w9 hw9
  obtain ⟨ad13, rfl, rfl⟩ := hw9
  refine g_ws (ws' := (([(a, .inr (1, [.ref q1, .int 0, .int 0]))] : va_W) ++ (([(q1, .inl (cO, 6, .inr (.inr (.inr (.inr (va_up (va_up (va_up (fun _ => none) 0 (some (ad4 0))) 1 (some (ad7 0))) 2 (some (ad10 0))))))))] : va_W) ++ ((wB ad4 cI g00) ++ ((wB ad7 cI g00) ++ ((wB ad10 cI g00) ++ (wB ad13 cI g00))))))) rfl ?_
  refine g_astq C (ws' := (([(a, .inr (1, [.ref q1, .int 0, .int 0]))] : va_W) ++ (([(q1, .inl (cO, 6, .inr (.inr (.inr (.inr (va_up (va_up (va_up (va_up (fun _ => none) 0 (some (ad4 0))) 1 (some (ad7 0))) 2 (some (ad10 0))) 3 (some (ad13 0))))))))] : va_W) ++ ((wB ad4 cI g00) ++ ((wB ad7 cI g00) ++ ((wB ad10 cI g00) ++ (wB ad13 cI g00))))))) 1 1 23 0 rfl rfl rfl rfl 3 rfl (by decide) (by decide) dX1_init_43 rfl ?_
  refine g_iinc C (v := 4) (lv' := [(1, .int 4), (0, .ref a)]) dX1_init_44 0 rfl (by decide) (by decide) rfl ?_
  refine g_goto C (tgt := 25) dX1_init_47 (by decide) ?_
  refine g_iload_n C dX1_init_25 0 rfl ?_
  refine g_bipush C (v := 6) dX1_init_26 cb_6 ?_
  refine g_icmp_ge C (tgt := 50) dX1_init_28 (by decide) (fun h28_14 => absurd h28_14 (by decide)) (fun _ => ?_)
  refine g_aload_n C dX1_init_31 1 rfl ?_
  refine g_get C (v := .ref q1) fl_X1_init_X1 0 rfl rfl 0 (by decide) fw_X1_init_fld11 rfl dX1_init_32 ?_
  refine g_iload_n C dX1_init_35 0 rfl ?_
  refine g_new C fl_X1_init_X0 tyX0 tyX0_ok 0 rfl fw_X1_init_clk9 fw_X1_init_isbX0 fw_X1_init_iniX0 (fs := [.null, .null, .null, .null, .null, .null, .int 0]) (by decide +kernel) ⟨Nat.le_of_ble_eq_true rfl, Nat.le_of_ble_eq_true rfl⟩ dX1_init_36 ?_
  intro q15
  refine g_ws (ws' := (([(a, .inr (1, [.ref q1, .int 0, .int 0]))] : va_W) ++ (([(q1, .inl (cO, 6, .inr (.inr (.inr (.inr (va_up (va_up (va_up (va_up (fun _ => none) 0 (some (ad4 0))) 1 (some (ad7 0))) 2 (some (ad10 0))) 3 (some (ad13 0))))))))] : va_W) ++ ((wB ad4 cI g00) ++ ((wB ad7 cI g00) ++ ((wB ad10 cI g00) ++ ((wB ad13 cI g00) ++ ([(q15, .inr (0, [.null, .null, .null, .null, .null, .null, .int 0]))] : va_W)))))))) rfl ?_
  refine g_dup C dX1_init_39 rfl ?_
  refine g_callI C (c_X0_init l D cI cO q15) gX1_init_X0_init rfl fw_X1_init_iniX0 fw_X1_init_mlX0 fw_X1_init_imX0 rfl ⟨rfl, rfl⟩ hd_X0_init ⟨Nat.le_of_ble_eq_true rfl, Nat.le_of_ble_eq_true rfl⟩ [0, 1] rfl (fun _ _ => trivial) rfl (rest := [.ref q15, .int 4, .ref q1]) rfl (Nat.le_of_ble_eq_true rfl) dX1_init_40 ⟨Nat.le_of_ble_eq_true rfl, Nat.le_of_ble_eq_true rfl⟩ (pre := (([(a, .inr (1, [.ref q1, .int 0, .int 0]))] : va_W) ++ (([(q1, .inl (cO, 6, .inr (.inr (.inr (.inr (va_up (va_up (va_up (va_up (fun _ => none) 0 (some (ad4 0))) 1 (some (ad7 0))) 2 (some (ad10 0))) 3 (some (ad13 0))))))))] : va_W) ++ ((wB ad4 cI g00) ++ ((wB ad7 cI g00) ++ ((wB ad10 cI g00) ++ (wB ad13 cI g00))))))) (post := []) rfl ?_
  intro w9 hw9
  obtain ⟨ad16, rfl, rfl⟩ := hw9
  refine g_ws (ws' := (([(a, .inr (1, [.ref q1, .int 0, .int 0]))] : va_W) ++ (([(q1, .inl (cO, 6, .inr (.inr (.inr (.inr (va_up (va_up (va_up (va_up (fun _ => none) 0 (some (ad4 0))) 1 (some (ad7 0))) 2 (some (ad10 0))) 3 (some (ad13 0))))))))] : va_W) ++ ((wB ad4 cI g00) ++ ((wB ad7 cI g00) ++ ((wB ad10 cI g00) ++ ((wB ad13 cI g00) ++ (wB ad16 cI g00)))))))) rfl ?_
  refine g_astq C (ws' := (([(a, .inr (1, [.ref q1, .int 0, .int 0]))] : va_W) ++ (([(q1, .inl (cO, 6, .inr (.inr (.inr (.inr (va_up (va_up (va_up (va_up (va_up (fun _ => none) 0 (some (ad4 0))) 1 (some (ad7 0))) 2 (some (ad10 0))) 3 (some (ad13 0))) 4 (some (ad16 0))))))))] : va_W) ++ ((wB ad4 cI g00) ++ ((wB ad7 cI g00) ++ ((wB ad10 cI g00) ++ ((wB ad13 cI g00) ++ (wB ad16 cI g00)))))))) 1 1 30 0 rfl rfl rfl rfl 4 rfl (by decide) (by decide) dX1_init_43 rfl ?_
  refine g_iinc C (v := 5) (lv' := [(1, .int 5), (0, .ref a)]) dX1_init_44 0 rfl (by decide) (by decide) rfl ?_
  refine g_goto C (tgt := 25) dX1_init_47 (by decide) ?_
  refine g_iload_n C dX1_init_25 0 rfl ?_
  refine g_bipush C (v := 6) dX1_init_26 cb_6 ?_
  refine g_icmp_ge C (tgt := 50) dX1_init_28 (by decide) (fun h28_17 => absurd h28_17 (by decide)) (fun _ => ?_)
  refine g_aload_n C dX1_init_31 1 rfl ?_
  refine g_get C (v := .ref q1) fl_X1_init_X1 0 rfl rfl 0 (by decide) fw_X1_init_fld11 rfl dX1_init_32 ?_
  refine g_iload_n C dX1_init_35 0 rfl ?_
  refine g_new C fl_X1_init_X0 tyX0 tyX0_ok 0 rfl fw_X1_init_clk9 fw_X1_init_isbX0 fw_X1_init_iniX0 (fs := [.null, .null, .null, .null, .null, .null, .int 0]) (by decide +kernel) ⟨Nat.le_of_ble_eq_true rfl, Nat.le_of_ble_eq_true rfl⟩ dX1_init_36 ?_
  intro q18
  refine g_ws (ws' := (([(a, .inr (1, [.ref q1, .int 0, .int 0]))] : va_W) ++ (([(q1, .inl (cO, 6, .inr (.inr (.inr (.inr (va_up (va_up (va_up (va_up (va_up (fun _ => none) 0 (some (ad4 0))) 1 (some (ad7 0))) 2 (some (ad10 0))) 3 (some (ad13 0))) 4 (some (ad16 0))))))))] : va_W) ++ ((wB ad4 cI g00) ++ ((wB ad7 cI g00) ++ ((wB ad10 cI g00) ++ ((wB ad13 cI g00) ++ ((wB ad16 cI g00) ++ ([(q18, .inr (0, [.null, .null, .null, .null, .null, .null, .int 0]))] : va_W))))))))) rfl ?_
  refine g_dup C dX1_init_39 rfl ?_
  refine g_callI C (c_X0_init l D cI cO q18) gX1_init_X0_init rfl fw_X1_init_iniX0 fw_X1_init_mlX0 fw_X1_init_imX0 rfl ⟨rfl, rfl⟩ hd_X0_init ⟨Nat.le_of_ble_eq_true rfl, Nat.le_of_ble_eq_true rfl⟩ [0, 1] rfl (fun _ _ => trivial) rfl (rest := [.ref q18, .int 5, .ref q1]) rfl (Nat.le_of_ble_eq_true rfl) dX1_init_40 ⟨Nat.le_of_ble_eq_true rfl, Nat.le_of_ble_eq_true rfl⟩ (pre := (([(a, .inr (1, [.ref q1, .int 0, .int 0]))] : va_W) ++ (([(q1, .inl (cO, 6, .inr (.inr (.inr (.inr (va_up (va_up (va_up (va_up (va_up (fun _ => none) 0 (some (ad4 0))) 1 (some (ad7 0))) 2 (some (ad10 0))) 3 (some (ad13 0))) 4 (some (ad16 0))))))))] : va_W) ++ ((wB ad4 cI g00) ++ ((wB ad7 cI g00) ++ ((wB ad10 cI g00) ++ ((wB ad13 cI g00) ++ (wB ad16 cI g00)))))))) (post := []) rfl ?_
  intro w9 hw9
  obtain ⟨ad19, rfl, rfl⟩ := hw9
  refine g_ws (ws' := (([(a, .inr (1, [.ref q1, .int 0, .int 0]))] : va_W) ++ (([(q1, .inl (cO, 6, .inr (.inr (.inr (.inr (va_up (va_up (va_up (va_up (va_up (fun _ => none) 0 (some (ad4 0))) 1 (some (ad7 0))) 2 (some (ad10 0))) 3 (some (ad13 0))) 4 (some (ad16 0))))))))] : va_W) ++ ((wB ad4 cI g00) ++ ((wB ad7 cI g00) ++ ((wB ad10 cI g00) ++ ((wB ad13 cI g00) ++ ((wB ad16 cI g00) ++ (wB ad19 cI g00))))))))) rfl ?_
  refine g_astq C (ws' := (([(a, .inr (1, [.ref q1, .int 0, .int 0]))] : va_W) ++ (([(q1, .inl (cO, 6, .inr (.inr (.inr (.inr (va_up (va_up (va_up (va_up (va_up (va_up (fun _ => none) 0 (some (ad4 0))) 1 (some (ad7 0))) 2 (some (ad10 0))) 3 (some (ad13 0))) 4 (some (ad16 0))) 5 (some (ad19 0))))))))] : va_W) ++ ((wB ad4 cI g00) ++ ((wB ad7 cI g00) ++ ((wB ad10 cI g00) ++ ((wB ad13 cI g00) ++ ((wB ad16 cI g00) ++ (wB ad19 cI g00))))))))) 1 1 37 0 rfl rfl rfl rfl 5 rfl (by decide) (by decide) dX1_init_43 rfl ?_
  refine g_iinc C (v := 6) (lv' := [(1, .int 6), (0, .ref a)]) dX1_init_44 0 rfl (by decide) (by decide) rfl ?_
  refine g_goto C (tgt := 25) dX1_init_47 (by decide) ?_
  refine g_iload_n C dX1_init_25 0 rfl ?_
  refine g_bipush C (v := 6) dX1_init_26 cb_6 ?_
  refine g_icmp_ge C (tgt := 50) dX1_init_28 (by decide) (fun _ => ?_) (fun h28_20 => absurd (by decide) h28_20)
  refine g_wsE (ws' := (wHs (fun i => match i with | 0 => a | _ => q1) (fun k => match k with | 0 => ad4 | 1 => ad7 | 2 => ad10 | 3 => ad13 | 4 => ad16 | _ => ad19) cI cO (fun _ => g00) (nI 0) (nI 0))) (fun H hP => hist_new hP) (wD_same rfl) ?_
  exact g_vretA C hret hlk dX1_init_50 ⟨(fun i => match i with | 0 => a | _ => q1), (fun k => match k with | 0 => ad4 | 1 => ad7 | 2 => ad10 | 3 => ad13 | 4 => ad16 | _ => ad19), rfl, rfl⟩
theorem fo_X3_init_link : Cond.methodLink RX3 3 objectInit ∈ wsX3_init := (List.mem_cons_of_mem _ (List.mem_append_left _ (List.mem_append_left _ (List.mem_append_left _ (List.mem_append_left _ (List.mem_append_left _ (List.mem_of_getElem? (i := 0) rfl)))))))
theorem fo_X3_init_inst : Cond.instanceMethod objectInit ∈ wsX3_init := (List.mem_cons_of_mem _ (List.mem_append_left _ (List.mem_append_left _ (List.mem_append_left _ (List.mem_append_left _ (List.mem_append_left _ (List.mem_of_getElem? (i := 1) rfl)))))))
theorem fo_X3_init_code : Cond.code objectInit ⟨#[0xb1]⟩ 1 none ∈ wsX3_init := (List.mem_cons_of_mem _ (List.mem_append_left _ (List.mem_append_left _ (List.mem_append_left _ (List.mem_append_left _ (List.mem_append_left _ (List.mem_of_getElem? (i := 2) rfl)))))))
theorem fw_X3_init_clk9 : Cond.classLink RX3 9 RX0 ∈ wsX3_init := (List.mem_cons_of_mem _ (List.mem_append_left _ (List.mem_append_left _ (List.mem_append_left _ (List.mem_append_left _ (List.mem_append_left _ (List.mem_of_getElem? (i := 3) rfl)))))))
theorem fw_X3_init_isbX0 : Cond.instantiable RX0 7 ∈ wsX3_init := (List.mem_cons_of_mem _ (List.mem_append_left _ (List.mem_append_left _ (List.mem_append_left _ (List.mem_append_left _ (List.mem_append_left _ (List.mem_of_getElem? (i := 4) rfl)))))))
theorem fw_X3_init_iniX0 : Cond.initialized RX0 ∈ wsX3_init := (List.mem_cons_of_mem _ (List.mem_append_left _ (List.mem_append_left _ (List.mem_append_left _ (List.mem_append_left _ (List.mem_append_left _ (List.mem_of_getElem? (i := 5) rfl)))))))
theorem fl_X3_init_X0 : ∀ w ∈ wsX00, w ∈ wsX3_init := fun _ h => List.mem_cons_of_mem _ (List.mem_append_left _ (List.mem_append_left _ (List.mem_append_left _ (List.mem_append_right _ h))))
theorem fw_X3_init_mlX0 : Cond.methodLink RX3 11 yX0_init ∈ wsX3_init := (List.mem_cons_of_mem _ (List.mem_append_left _ (List.mem_append_left _ (List.mem_append_left _ (List.mem_append_left _ (List.mem_append_left _ (List.mem_of_getElem? (i := 15) rfl)))))))
theorem fw_X3_init_imX0 : Cond.instanceMethod yX0_init ∈ wsX3_init := (List.mem_cons_of_mem _ (List.mem_append_left _ (List.mem_append_left _ (List.mem_append_left _ (List.mem_append_left _ (List.mem_append_left _ (List.mem_of_getElem? (i := 16) rfl)))))))
theorem fw_X3_init_fld12 : Cond.fieldLink RX3 12 "StuckRods" "board" "LStuckRods$Board;" ∈ wsX3_init := (List.mem_cons_of_mem _ (List.mem_append_left _ (List.mem_append_left _ (List.mem_append_left _ (List.mem_append_left _ (List.mem_append_left _ (List.mem_of_getElem? (i := 6) rfl)))))))
theorem fl_X3_init_X3 : ∀ w ∈ wsX30, w ∈ wsX3_init := fun _ h => List.mem_cons_of_mem _ (List.mem_append_left _ (List.mem_append_left _ (List.mem_append_right _ h)))
theorem fw_X3_init_clk16 : Cond.classLink RX3 16 RX1 ∈ wsX3_init := (List.mem_cons_of_mem _ (List.mem_append_left _ (List.mem_append_left _ (List.mem_append_left _ (List.mem_append_left _ (List.mem_append_left _ (List.mem_of_getElem? (i := 7) rfl)))))))
theorem fw_X3_init_isbX1 : Cond.instantiable RX1 3 ∈ wsX3_init := (List.mem_cons_of_mem _ (List.mem_append_left _ (List.mem_append_left _ (List.mem_append_left _ (List.mem_append_left _ (List.mem_append_left _ (List.mem_of_getElem? (i := 8) rfl)))))))
theorem fw_X3_init_iniX1 : Cond.initialized RX1 ∈ wsX3_init := (List.mem_cons_of_mem _ (List.mem_append_left _ (List.mem_append_left _ (List.mem_append_left _ (List.mem_append_left _ (List.mem_append_left _ (List.mem_of_getElem? (i := 9) rfl)))))))
theorem fl_X3_init_X1 : ∀ w ∈ wsX10, w ∈ wsX3_init := fun _ h => List.mem_cons_of_mem _ (List.mem_append_left _ (List.mem_append_right _ h))
theorem fw_X3_init_mlX1 : Cond.methodLink RX3 18 yX1_init ∈ wsX3_init := (List.mem_cons_of_mem _ (List.mem_append_left _ (List.mem_append_left _ (List.mem_append_left _ (List.mem_append_left _ (List.mem_append_right _ (List.mem_of_getElem? (i := 3) rfl)))))))
theorem fw_X3_init_imX1 : Cond.instanceMethod yX1_init ∈ wsX3_init := (List.mem_cons_of_mem _ (List.mem_append_left _ (List.mem_append_left _ (List.mem_append_left _ (List.mem_append_left _ (List.mem_append_right _ (List.mem_of_getElem? (i := 4) rfl)))))))
theorem hd_X1_init : yX1_init.cls ≠ "java/lang/invoke/MethodHandle" ∧ yX1_init.cls ≠ "java/lang/invoke/VarHandle" ∧ (parseMethodDescriptor yX1_init.desc).map (fun d => d.parameters.length) = some 0 := by decide +kernel
theorem fw_X3_init_fld19 : Cond.fieldLink RX3 19 "StuckRods" "history" "LStuckRods$History;" ∈ wsX3_init := (List.mem_cons_of_mem _ (List.mem_append_left _ (List.mem_append_left _ (List.mem_append_left _ (List.mem_append_left _ (List.mem_append_left _ (List.mem_of_getElem? (i := 10) rfl)))))))
theorem fw_X3_init_clk23 : Cond.classLink RX3 23 RX2 ∈ wsX3_init := (List.mem_cons_of_mem _ (List.mem_append_left _ (List.mem_append_left _ (List.mem_append_left _ (List.mem_append_left _ (List.mem_append_left _ (List.mem_of_getElem? (i := 11) rfl)))))))
theorem fw_X3_init_isbX2 : Cond.instantiable RX2 2 ∈ wsX3_init := (List.mem_cons_of_mem _ (List.mem_append_left _ (List.mem_append_left _ (List.mem_append_left _ (List.mem_append_left _ (List.mem_append_left _ (List.mem_of_getElem? (i := 12) rfl)))))))
theorem fw_X3_init_iniX2 : Cond.initialized RX2 ∈ wsX3_init := (List.mem_cons_of_mem _ (List.mem_append_left _ (List.mem_append_left _ (List.mem_append_left _ (List.mem_append_left _ (List.mem_append_left _ (List.mem_of_getElem? (i := 13) rfl)))))))
theorem fl_X3_init_X2 : ∀ w ∈ wsX20, w ∈ wsX3_init := fun _ h => List.mem_cons_of_mem _ (List.mem_append_right _ h)
theorem fw_X3_init_mlX2 : Cond.methodLink RX3 25 yX2_init ∈ wsX3_init := (List.mem_cons_of_mem _ (List.mem_append_left _ (List.mem_append_left _ (List.mem_append_left _ (List.mem_append_left _ (List.mem_append_right _ (List.mem_of_getElem? (i := 12) rfl)))))))
theorem fw_X3_init_imX2 : Cond.instanceMethod yX2_init ∈ wsX3_init := (List.mem_cons_of_mem _ (List.mem_append_left _ (List.mem_append_left _ (List.mem_append_left _ (List.mem_append_left _ (List.mem_append_right _ (List.mem_of_getElem? (i := 13) rfl)))))))
theorem hd_X2_init : yX2_init.cls ≠ "java/lang/invoke/MethodHandle" ∧ yX2_init.cls ≠ "java/lang/invoke/VarHandle" ∧ (parseMethodDescriptor yX2_init.desc).map (fun d => d.parameters.length) = some 0 := by decide +kernel
theorem fw_X3_init_fld26 : Cond.fieldLink RX3 26 "StuckRods" "text" "LStuckRods$SumText;" ∈ wsX3_init := (List.mem_cons_of_mem _ (List.mem_append_left _ (List.mem_append_left _ (List.mem_append_left _ (List.mem_append_left _ (List.mem_append_left _ (List.mem_of_getElem? (i := 14) rfl)))))))
abbrev rmX3_init : Room := { frames := 3, cells := 53, slots := 498, locals := 53 }
set_option maxHeartbeats 2000000 in
set_option maxRecDepth 100000 in
theorem c_X3_init (l : Launch) (D : va_G) (cI cO : ClassId) (a : Nat) : cA aF l yX3_init wsX3_init rmX3_init D vwCl (tyA cI cO) [.ref a] ([(a, .inr (3, [.null, .null, .null]))] : va_W) (fun w => ∃ (ta ha : Nat → Nat) (hb : Nat → Nat → Nat) (ad : Nat → Nat), w = wS0 a ad ha ta ++ (wT ta cI (fun _ => 0) (nI 0) ++ (wHs ha hb cI cO (fun _ => g00) (nI 0) (nI 0) ++ wB ad cI g00))) 53 498 := by
  refine cA_of (cc := cX3_init) (maxL := 1) (ret := none) (by decide) rfl (Nat.le_of_ble_eq_true rfl) ?_
  intro p e s m below meth c A C hret hlk hnm hF
  refine g_lv [0] (lv' := [(0, .ref a)]) rfl ?_
  refine g_aload_n C dX3_init_0 0 rfl ?_
  refine g_objInit C dX3_init_1 fo_X3_init_link fo_X3_init_inst fo_X3_init_code (Nat.le_of_ble_eq_true rfl) (Nat.le_of_ble_eq_true rfl) ?_
  refine g_aload_n C dX3_init_4 0 rfl ?_
  refine g_new C fl_X3_init_X0 tyX0 tyX0_ok 0 rfl fw_X3_init_clk9 fw_X3_init_isbX0 fw_X3_init_iniX0 (fs := [.null, .null, .null, .null, .null, .null, .int 0]) (by decide +kernel) ⟨Nat.le_of_ble_eq_true rfl, Nat.le_of_ble_eq_true rfl⟩ dX3_init_5 ?_
  intro q1
  refine g_ws (ws' := (([(a, .inr (3, [.null, .null, .null]))] : va_W) ++ ([(q1, .inr (0, [.null, .null, .null, .null, .null, .null, .int 0]))] : va_W))) rfl ?_
  refine g_dup C dX3_init_8 rfl ?_
  refine g_callI C (c_X0_init l D cI cO q1) gX3_init_X0_init rfl fw_X3_init_iniX0 fw_X3_init_mlX0 fw_X3_init_imX0 rfl ⟨rfl, rfl⟩ hd_X0_init ⟨Nat.le_of_ble_eq_true rfl, Nat.le_of_ble_eq_true rfl⟩ [0, 1] rfl (fun _ _ => trivial) rfl (rest := [.ref q1, .ref a]) rfl (Nat.le_of_ble_eq_true rfl) dX3_init_9 ⟨Nat.le_of_ble_eq_true rfl, Nat.le_of_ble_eq_true rfl⟩ (pre := ([(a, .inr (3, [.null, .null, .null]))] : va_W)) (post := []) rfl ?_
  intro w9 hw9
  obtain ⟨ad2, rfl, rfl⟩ := hw9
  refine g_ws (ws' := (([(a, .inr (3, [.null, .null, .null]))] : va_W) ++ (wB ad2 cI g00))) rfl ?_
  refine g_putF C (ws' := (([(a, .inr (3, [.ref (ad2 0), .null, .null]))] : va_W) ++ (wB ad2 cI g00))) fl_X3_init_X3 tyX3 tyX3_ok nmX3 0 rfl rfl 0 (by decide) fw_X3_init_fld12 rfl hnm rfl (tyX3_ok 0 (by decide)) rfl rfl (Nat.le_of_ble_eq_true rfl) dX3_init_12 (ws_setl (Nat.le_of_ble_eq_true rfl) rfl) ?_
  refine g_aload_n C dX3_init_15 0 rfl ?_
  refine g_new C fl_X3_init_X1 tyX1 tyX1_ok 1 rfl fw_X3_init_clk16 fw_X3_init_isbX1 fw_X3_init_iniX1 (fs := [.null, .int 0, .int 0]) (by decide +kernel) ⟨Nat.le_of_ble_eq_true rfl, Nat.le_of_ble_eq_true rfl⟩ dX3_init_16 ?_
  intro q3
  refine g_ws (ws' := (([(a, .inr (3, [.ref (ad2 0), .null, .null]))] : va_W) ++ ((wB ad2 cI g00) ++ ([(q3, .inr (1, [.null, .int 0, .int 0]))] : va_W)))) rfl ?_
  refine g_dup C dX3_init_19 rfl ?_
  refine g_callI C (c_X1_init l D cI cO q3) gX3_init_X1_init rfl fw_X3_init_iniX1 fw_X3_init_mlX1 fw_X3_init_imX1 rfl ⟨rfl, rfl⟩ hd_X1_init ⟨Nat.le_of_ble_eq_true rfl, Nat.le_of_ble_eq_true rfl⟩ [0, 1] rfl (aF_w hF) rfl (rest := [.ref q3, .ref a]) rfl (Nat.le_of_ble_eq_true rfl) dX3_init_20 ⟨Nat.le_of_ble_eq_true rfl, Nat.le_of_ble_eq_true rfl⟩ (pre := (([(a, .inr (3, [.ref (ad2 0), .null, .null]))] : va_W) ++ (wB ad2 cI g00))) (post := []) rfl ?_
  intro w9 hw9
  obtain ⟨ha4, hb5, rfl, rfl⟩ := hw9
  refine g_ws (ws' := (([(a, .inr (3, [.ref (ad2 0), .null, .null]))] : va_W) ++ ((wB ad2 cI g00) ++ (wHs ha4 hb5 cI cO ((fun _ => g00)) (nI 0) (nI 0))))) rfl ?_
  refine g_putF C (ws' := (([(a, .inr (3, [.ref (ad2 0), .ref (ha4 0), .null]))] : va_W) ++ ((wB ad2 cI g00) ++ (wHs ha4 hb5 cI cO ((fun _ => g00)) (nI 0) (nI 0))))) fl_X3_init_X3 tyX3 tyX3_ok nmX3 0 rfl rfl 1 (by decide) fw_X3_init_fld19 rfl hnm rfl (tyX3_ok 1 (by decide)) rfl rfl (Nat.le_of_ble_eq_true rfl) dX3_init_23 (ws_setl (Nat.le_of_ble_eq_true rfl) rfl) ?_
  refine g_aload_n C dX3_init_26 0 rfl ?_
  refine g_new C fl_X3_init_X2 tyX2 tyX2_ok 2 rfl fw_X3_init_clk23 fw_X3_init_isbX2 fw_X3_init_iniX2 (fs := [.null, .int 0]) (by decide +kernel) ⟨Nat.le_of_ble_eq_true rfl, Nat.le_of_ble_eq_true rfl⟩ dX3_init_27 ?_
  intro q6
  refine g_ws (ws' := (([(a, .inr (3, [.ref (ad2 0), .ref (ha4 0), .null]))] : va_W) ++ ((wB ad2 cI g00) ++ ((wHs ha4 hb5 cI cO ((fun _ => g00)) (nI 0) (nI 0)) ++ ([(q6, .inr (2, [.null, .int 0]))] : va_W))))) rfl ?_
  refine g_dup C dX3_init_30 rfl ?_
  refine g_callI C (c_X2_init l D cI cO q6) gX3_init_X2_init rfl fw_X3_init_iniX2 fw_X3_init_mlX2 fw_X3_init_imX2 rfl ⟨rfl, rfl⟩ hd_X2_init ⟨Nat.le_of_ble_eq_true rfl, Nat.le_of_ble_eq_true rfl⟩ [0, 1] rfl (fun _ _ => trivial) rfl (rest := [.ref q6, .ref a]) rfl (Nat.le_of_ble_eq_true rfl) dX3_init_31 ⟨Nat.le_of_ble_eq_true rfl, Nat.le_of_ble_eq_true rfl⟩ (pre := (([(a, .inr (3, [.ref (ad2 0), .ref (ha4 0), .null]))] : va_W) ++ ((wB ad2 cI g00) ++ (wHs ha4 hb5 cI cO ((fun _ => g00)) (nI 0) (nI 0))))) (post := []) rfl ?_
  intro w9 hw9
  obtain ⟨ta7, rfl, rfl⟩ := hw9
  refine g_ws (ws' := (([(a, .inr (3, [.ref (ad2 0), .ref (ha4 0), .null]))] : va_W) ++ ((wB ad2 cI g00) ++ ((wHs ha4 hb5 cI cO ((fun _ => g00)) (nI 0) (nI 0)) ++ (wT ta7 cI (fun _ => 0) (nI 0)))))) rfl ?_
  refine g_putF C (ws' := (([(a, .inr (3, [.ref (ad2 0), .ref (ha4 0), .ref (ta7 0)]))] : va_W) ++ ((wB ad2 cI g00) ++ ((wHs ha4 hb5 cI cO ((fun _ => g00)) (nI 0) (nI 0)) ++ (wT ta7 cI (fun _ => 0) (nI 0)))))) fl_X3_init_X3 tyX3 tyX3_ok nmX3 0 rfl rfl 2 (by decide) fw_X3_init_fld26 rfl hnm rfl (tyX3_ok 2 (by decide)) rfl rfl (Nat.le_of_ble_eq_true rfl) dX3_init_34 (ws_setl (Nat.le_of_ble_eq_true rfl) rfl) ?_
  refine g_perm [0, 52, 53, 8, 9, 10, 11, 12, 13, 14, 15, 16, 17, 18, 19, 20, 21, 22, 23, 24, 25, 26, 27, 28, 29, 30, 31, 32, 33, 34, 35, 36, 37, 38, 39, 40, 41, 42, 43, 44, 45, 46, 47, 48, 49, 50, 51, 1, 2, 3, 4, 5, 6, 7] (ws' := (wS0 a ad2 ha4 ta7 ++ ((wT ta7 cI (fun _ => 0) (nI 0)) ++ ((wHs ha4 hb5 cI cO ((fun _ => g00)) (nI 0) (nI 0)) ++ (wB ad2 cI g00))))) rfl rfl rfl ?_
  exact g_vretA C hret hlk dX3_init_37 ⟨ta7, ha4, hb5, ad2, rfl⟩
end
section
/-! ===== what the law says of the rods, in its own words, and that it is so ===== -/
def lw (v : Int32) (n : Nat) : Nat := v.toBitVec.toNat % 2 ^ 31 % n
theorem lw_lt {v : Int32} {n : Nat} (h : 0 < n) : lw v n < n := Nat.mod_lt _ h
def xC (xs : Nat → Int32) (L e : Nat) : Int32 := if nI L ≤ nI e then 7919 * (nI e + 3) * (nI e + 11) else xs e
/-! one rod: the least number of moves by trying every place of the fives -/
def lM (g : Nat → Int32) (r : Nat) (v f : Int32) : Int32 :=
  if v - 5 * f < 0 then 0 else if 6 ≤ v - 5 * f then 0 else
  if ¬ xRod g r 4 &&& 1 = 0 ∧ ¬ f = xRod g r 0 then 0 else if ¬ xRod g r 4 &&& 2 = 0 ∧ ¬ v - 5 * f = xRod g r 1 then 0 else 1
def lT (g : Nat → Int32) (r : Nat) (v f : Int32) : Int32 :=
  (if f ≤ xRod g r 0 then xRod g r 0 - f else f - xRod g r 0) + (if v - 5 * f ≤ xRod g r 1 then xRod g r 1 - (v - 5 * f) else v - 5 * f - xRod g r 1)
def lS (g : Nat → Int32) (r : Nat) (v f a : Int32) : Int32 := if lM g r v f = 0 then a else if a < 0 then lT g r v f else if a ≤ lT g r v f then a else lT g r v f
def lF (g : Nat → Int32) (r : Nat) (v : Int32) : Nat → Nat → Int32 → Int32
  | 0, _, a => a
  | n + 1, q, a => lF g r v n (q + 1) (lS g r v (nI q) a)
def gg (F O S : Nat) : Nat → Int32 := fun j => if j = 1 then nI F else if j = 2 then nI O else nI S
theorem xTv_congr {g g1 : Nat → Int32} {r r1 : Nat} (h1 : g (6 * r + 1) = g1 (6 * r1 + 1)) (h2 : g (6 * r + 2) = g1 (6 * r1 + 2)) (h4 : g (6 * r + 4) = g1 (6 * r1 + 4)) (v : Int32) : xTv g r v = xTv g1 r1 v := by
  unfold xTv xTq
  simp only [xTf, xTs, xMb, h1, h2, h4]
theorem lF_congr {g g1 : Nat → Int32} {r r1 : Nat} (h1 : g (6 * r + 1) = g1 (6 * r1 + 1)) (h2 : g (6 * r + 2) = g1 (6 * r1 + 2)) (h4 : g (6 * r + 4) = g1 (6 * r1 + 4)) (v a : Int32) : lF g r v 3 0 a = lF g1 r1 v 3 0 a := by
  simp only [lF, lS, lM, lT, xRod, h1, h2, h4]
theorem eLTab : ∀ F, F < 3 → ∀ O, O < 6 → ∀ S, S < 4 → ∀ w, w < 16 → decide (lF (gg F O S) 0 (nI w) 3 0 (-1) = xTv (gg F O S) 0 (nI w)) = true := by decide +kernel
theorem eLeast {g : Nat → Int32} {r w : Nat} (hR : Rd9 g r) (hw : w < 16) : lF g r (nI w) 3 0 (-1) = xTv g r (nI w) := by
  obtain ⟨F, O, S, L, hF, hO, hS, -, e1, e2, e4, -⟩ := hR
  rw [lF_congr (g1 := gg F O S) (r1 := 0) e1 e2 e4, xTv_congr (g1 := gg F O S) (r1 := 0) e1 e2 e4]
  exact of_decide_eq_true (eLTab F (by omega) O (by omega) S (by omega) w hw)
theorem rd_f {g : Nat → Int32} {r : Nat} (hR : Rd9 g r) : ¬ xRod g r 0 < 0 ∧ ¬ 3 ≤ xRod g r 0 := by
  obtain ⟨F, O, S, L, hF, hO, hS, -, e1, e2, e4, -⟩ := hR
  rw [show xRod g r 0 = nI F from e1]
  exact ⟨nI_pos (by omega), nI_ge (b := 3) (by omega) (by decide)⟩
theorem rd_o {g : Nat → Int32} {r : Nat} (hR : Rd9 g r) : ¬ xRod g r 1 < 0 ∧ ¬ 6 ≤ xRod g r 1 := by
  obtain ⟨F, O, S, L, hF, hO, hS, -, e1, e2, e4, -⟩ := hR
  rw [show xRod g r 1 = nI O from e2]
  exact ⟨nI_pos (by omega), nI_ge (b := 6) (by omega) (by decide)⟩
theorem rl_eq (g : Nat → Int32) (r : Nat) : xRod g r 3 - 100 = g (6 * r + 3) := Int32.add_sub_cancel _ _
theorem rdlT : ∀ L, L < 19 → ¬ nI L - 9 ≤ -10 ∧ ¬ 10 ≤ nI L - 9 := by decide +kernel
theorem rd_l {g : Nat → Int32} {r : Nat} (hR : Rd9 g r) : ¬ xRod g r 3 - 100 ≤ -10 ∧ ¬ 10 ≤ xRod g r 3 - 100 := by
  obtain ⟨F, O, S, L, hF, hO, hS, hL, e1, e2, e4, e3⟩ := hR
  rw [rl_eq, e3]
  exact rdlT L (by omega)
theorem rd_2 {g : Nat → Int32} {r : Nat} (hR : Rd9 g r) : ¬ xRod g r 2 < 0 ∧ xRod g r 2 ≤ 15 := by
  obtain ⟨c, hc, e⟩ := eShN hR
  rw [show xRod g r 2 = nI c from e]
  exact ⟨nI_pos (by omega), nI_le (b := 15) hc (by decide)⟩
/-! sums from the last rod down -/
def dS (f : Nat → Int32) : Nat → Int32
  | 0 => 0
  | k + 1 => dS f k + f (8 - k)
theorem dS_s {f : Nat → Int32} {q : Nat} (h : q < 9) : dS f (9 - q) = dS f (9 - (q + 1)) + f q := by
  rw [show 9 - q = (9 - (q + 1)) + 1 by omega]
  show dS f (9 - (q + 1)) + f (8 - (9 - (q + 1))) = _
  rw [show 8 - (9 - (q + 1)) = q by omega]
theorem dS_su (f : Nat → Int32) : dS f 9 = xSu f 9 := by
  simp only [dS, xSu, Int32.zero_add]
  ac_rfl
theorem xSu_eq {f f1 : Nat → Int32} : ∀ n : Nat, (∀ j, j < n → f j = f1 j) → xSu f n = xSu f1 n
  | 0, _ => rfl
  | n + 1, h => by
    show xSu f n + f n = xSu f1 n + f1 n
    rw [xSu_eq n (fun j hj => h j (by omega)), h n (by omega)]
theorem xCt_su {f : Nat → Prop} [∀ j, Decidable (f j)] {h : Nat → Int32} : ∀ n : Nat, (∀ j, j < n → h j = if f j then 1 else 0) → xCt f n = xSu h n
  | 0, _ => rfl
  | n + 1, hh => by
    show (if f n then xCt f n + 1 else xCt f n) = xSu h n + h n
    rw [hh n (by omega), xCt_su n (fun j hj => hh j (by omega))]
    by_cases hf : f n
    · rw [if_pos hf, if_pos hf]
    · rw [if_neg hf, if_neg hf, Int32.add_zero]
def f1 (g : Nat → Int32) (j : Nat) : Int32 := xRod g j 5
def f2 (g : Nat → Int32) (j : Nat) : Int32 := xRod g j 3 - 100
def f3 (g : Nat → Int32) (j : Nat) : Int32 := if xRod g j 3 - 100 = 0 then 0 else 1
def f4 (g : Nat → Int32) (j : Nat) : Int32 := xRod g j 2
def f5 (g : Nat → Int32) (j : Nat) : Int32 := if xRod g j 2 ≤ 9 then 0 else 1
def f6 (g : Nat → Int32) (j : Nat) : Int32 := if xRod g j 4 ≤ 0 then 0 else 1
theorem c0 (g : Nat → Int32) (z : Nat) : dS (f1 g) 9 = xCn g z 0 := dS_su _
theorem c1 (g : Nat → Int32) (z : Nat) : dS (f3 g) 9 = xCn g z 1 := by
  rw [dS_su]
  refine (xCt_su (f := fun j => ¬ g (6 * j + 3) = 0) 9 (fun j hj => ?_)).symm
  unfold f3
  rw [rl_eq]
  by_cases h : g (6 * j + 3) = 0
  · rw [if_pos h, if_neg (fun z => z h)]
  · rw [if_neg h, if_pos h]
theorem c2 (g : Nat → Int32) (z : Nat) : dS (f2 g) 9 + 100 = xCn g z 2 := by
  rw [dS_su]
  show xSu (f2 g) 9 + 100 = xSu (fun j => g (6 * j + 3)) 9 + 100
  rw [xSu_eq (f1 := fun j => g (6 * j + 3)) 9 (fun j _ => rl_eq g j)]
theorem c4T : ∀ c, c < 16 → ((if nI c ≤ 9 then (0 : Int32) else 1) = if ¬ nI c < 10 then 1 else 0) := by decide +kernel
theorem c4 {g : Nat → Int32} (hI : Iv g) (z : Nat) : dS (f5 g) 9 = xCn g z 4 := by
  rw [dS_su]
  refine (xCt_su (f := fun j => ¬ xSh g j < 10) 9 (fun j hj => ?_)).symm
  obtain ⟨c, hc, e⟩ := eShN (hI.1 j hj)
  unfold f5
  rw [show xRod g j 2 = nI c from e]
  show _ = if ¬ xSh g j < 10 then 1 else 0
  rw [e]
  exact c4T c (by omega)
theorem c5T : ∀ c, c < 4 → ((if nI c ≤ 0 then (0 : Int32) else 1) = if ¬ nI c = 0 then 1 else 0) := by decide +kernel
theorem c5 {g : Nat → Int32} (hI : Iv g) (z : Nat) : dS (f6 g) 9 = xCn g z 5 := by
  rw [dS_su]
  refine (xCt_su (f := fun j => ¬ g (6 * j + 4) = 0) 9 (fun j hj => ?_)).symm
  obtain ⟨F, O, S, L, hF, hO, hS, hL, e1, e2, e4, e3⟩ := hI.1 j hj
  unfold f6
  rw [show xRod g j 4 = nI S from e4]
  show _ = if ¬ g (6 * j + 4) = 0 then 1 else 0
  rw [e4]
  exact c5T S (by omega)
/-! the whole number from the last rod down -/
def dW (g : Nat → Int32) : Nat → Int64
  | 0 => 0
  | k + 1 => 10 * dW g k + (xRod g (8 - k) 2).toInt64 + (xRod g (8 - k) 3 - 100).toInt64
theorem dW_s {g : Nat → Int32} {q : Nat} (h : q < 9) : dW g (9 - q) = 10 * dW g (9 - (q + 1)) + (xRod g q 2).toInt64 + (xRod g q 3 - 100).toInt64 := by
  rw [show 9 - q = (9 - (q + 1)) + 1 by omega]
  show 10 * dW g (9 - (q + 1)) + (xRod g (8 - (9 - (q + 1))) 2).toInt64 + (xRod g (8 - (9 - (q + 1))) 3 - 100).toInt64 = _
  rw [show 8 - (9 - (q + 1)) = q by omega]
def hW (g : Nat → Int32) : Nat → Int
  | 0 => 0
  | k + 1 => 10 * hW g k + zc g (8 - k)
theorem dW_h (g : Nat → Int32) : ∀ k : Nat, dW g k = Int64.ofInt (hW g k)
  | 0 => rfl
  | k + 1 => by
    show 10 * dW g k + (xSh g (8 - k)).toInt64 + (xRod g (8 - k) 3 - 100).toInt64 = Int64.ofInt (10 * hW g k + ((xSh g (8 - k)).toInt + (g (6 * (8 - k) + 3)).toInt))
    rw [rl_eq, dW_h g k, Int64.ofInt_add, Int64.ofInt_add, Int64.ofInt_mul, Int64.ofInt_int32ToInt, Int64.ofInt_int32ToInt, Int64.add_assoc]
    rfl
theorem hW_z (g : Nat → Int32) : ∀ k : Nat, k ≤ 9 → zW g (9 - k) + 10 ^ (9 - k) * hW g k = zW g 9
  | 0, _ => by
    show zW g 9 + 10 ^ 9 * 0 = zW g 9
    omega
  | k + 1, h => by
    have ih := hW_z g k (by omega)
    have e : 9 - k = (9 - (k + 1)) + 1 := by omega
    rw [e] at ih
    have e2 : zW g (9 - (k + 1) + 1) = zW g (9 - (k + 1)) + zc g (9 - (k + 1)) * 10 ^ (9 - (k + 1)) := rfl
    rw [e2, p10] at ih
    show zW g (9 - (k + 1)) + 10 ^ (9 - (k + 1)) * (10 * hW g k + zc g (8 - k)) = zW g 9
    rw [← ih, show 8 - k = 9 - (k + 1) by omega, Int.mul_add, Int.mul_comm (zc g (9 - (k + 1))), Int.mul_left_comm, Int.mul_assoc]
    omega
theorem dW_w {g : Nat → Int32} (hI : Iv g) : dW g 9 = (xWs g 9).1 := by
  rw [dW_h, xWh hI]
  have h := hW_z g 9 (by decide)
  rw [show 9 - 9 = 0 from rfl, show zW g 0 = 0 from rfl, show (10 : Int) ^ 0 = 1 from rfl] at h
  rw [show hW g 9 = zW g 9 by omega]
/-! the check by nine -/
def zS (g : Nat → Int32) : Nat → Int
  | 0 => 0
  | n + 1 => zS g n + zc g n
theorem ten9 : ∀ n : Nat, ∃ t : Int, (10 : Int) ^ n = 1 + 9 * t
  | 0 => ⟨0, rfl⟩
  | n + 1 => by
    obtain ⟨t, h⟩ := ten9 n
    exact ⟨1 + 10 * t, by rw [p10, h]; omega⟩
theorem zW9 (g : Nat → Int32) : ∀ n : Nat, ∃ t : Int, zW g n = zS g n + 9 * t
  | 0 => ⟨0, rfl⟩
  | n + 1 => by
    obtain ⟨t, h⟩ := zW9 g n
    obtain ⟨u, hu⟩ := ten9 n
    refine ⟨t + zc g n * u, ?_⟩
    show zW g n + zc g n * 10 ^ n = zS g n + zc g n + 9 * (t + zc g n * u)
    rw [h, hu, Int.mul_add, Int.mul_left_comm]
    omega
theorem zW_bd {g : Nat → Int32} (hI : Iv g) : ∀ n : Nat, n ≤ 9 → -(10 ^ n) ≤ zW g n ∧ zW g n ≤ 3 * 10 ^ n
  | 0, _ => by
    show -((10 : Int) ^ 0) ≤ 0 ∧ (0 : Int) ≤ 3 * 10 ^ 0
    decide
  | n + 1, h => by
    obtain ⟨h1, h2⟩ := zW_bd hI n (by omega)
    obtain ⟨c, L, hc, hL, -, -, e⟩ := zcN (hI.1 n (by omega))
    have hp : (0 : Int) ≤ 10 ^ n := Int.le_of_lt (Int.pow_pos (by decide))
    have b1 : -9 * 10 ^ n ≤ zc g n * 10 ^ n := Int.mul_le_mul_of_nonneg_right (by omega) hp
    have b2 : zc g n * 10 ^ n ≤ 24 * 10 ^ n := Int.mul_le_mul_of_nonneg_right (by omega) hp
    show -(10 ^ (n + 1)) ≤ zW g n + zc g n * 10 ^ n ∧ zW g n + zc g n * 10 ^ n ≤ 3 * 10 ^ (n + 1)
    rw [p10]
    omega
theorem tdiv9 (W : Int) : W.tdiv 9 = if 0 ≤ W then W / 9 else -((-W) / 9) := by
  by_cases h : 0 ≤ W
  · rw [if_pos h]; exact Int.tdiv_eq_ediv_of_nonneg h
  · rw [if_neg h]
    have e : W.tdiv 9 = -((-W).tdiv 9) := by rw [← Int.neg_tdiv, Int.neg_neg]
    rw [e, Int.tdiv_eq_ediv_of_nonneg (by omega)]
theorem rem9 {W : Int} (h1 : -10000000000 ≤ W) (h2 : W ≤ 10000000000) : Int64.ofInt W - Int64.ofInt W / 9 * 9 = Int64.ofInt (W - W.tdiv 9 * 9) := by
  have hd := tdiv9 W
  have e : Int64.ofInt W / 9 = Int64.ofInt (W.tdiv 9) := by
    refine Int64.toInt_inj.mp ?_
    rw [Int64.toInt_div_of_ne_right _ _ (by decide), Int64.toInt_ofInt_of_le (by omega) (by omega), show (9 : Int64).toInt = 9 from by decide, Int64.toInt_ofInt_of_le (by split at hd <;> omega) (by split at hd <;> omega)]
  rw [e, Int64.ofInt_sub, Int64.ofInt_mul]
  rfl
theorem c3T : ∀ j, j < 17 → (if 0 ≤ lg_cmp (Int64.ofInt ((j : Int) - 8)) 0 then Int64.ofInt ((j : Int) - 8) else Int64.ofInt ((j : Int) - 8) + 9).toInt32 = Int32.ofInt (if 8 ≤ j then (j : Int) - 8 else (j : Int) + 1) := by decide +kernel
theorem eFmT : ∀ k : Nat, k < 300 → xFm (nI k - 81) 9 = Int32.ofInt (((k : Int) - 81) % 9) := fun k hk => of_decide_eq_true (co_dec (N := 300) (P := fun k => decide (xFm (nI k - 81) 9 = Int32.ofInt (((k : Int) - 81) % 9)) = true) (by decide +kernel) (i := k) hk)
theorem eSm3 {g : Nat → Int32} (hI : Iv g) : ∀ n : Nat, n ≤ 9 → ∃ a b : Nat, a ≤ 15 * n ∧ b ≤ 18 * n ∧ xSu (fun j => xSh g j) n = nI a ∧ xSu (fun j => g (6 * j + 3)) n = nI b - nI (9 * n) ∧ zS g n = (a : Int) + b - 9 * n
  | 0, _ => ⟨0, 0, by decide, by decide, rfl, rfl, rfl⟩
  | n + 1, hn => by
    obtain ⟨a, b, ha, hb, e1, e2, e3⟩ := eSm3 hI n (by omega)
    obtain ⟨c, L, hc, hL, ec, eL, ez⟩ := zcN (hI.1 n (by omega))
    have key : nI b - nI (9 * n) + (nI L - 9) = nI (b + L) - nI (9 * (n + 1)) := by
      rw [show 9 * (n + 1) = 9 * n + 9 by omega, ← nI_add, ← nI_add, show nI 9 = 9 from rfl]
      simp only [Int32.sub_eq_add_neg, Int32.neg_add]
      rw [Int32.add_assoc, Int32.add_assoc, ← Int32.add_assoc (-nI (9 * n)), Int32.add_comm (-nI (9 * n)), Int32.add_assoc]
    refine ⟨a + c, b + L, by omega, by omega, ?_, ?_, ?_⟩
    · show xSu (fun j => xSh g j) n + xSh g n = _
      rw [e1, ec, nI_add]
    · show xSu (fun j => g (6 * j + 3)) n + g (6 * n + 3) = _
      rw [e2, eL, key]
    · show zS g n + zc g n = _
      rw [e3, ez]
      omega
theorem c3 {g : Nat → Int32} (hI : Iv g) (z : Nat) : (if 0 ≤ lg_cmp (dW g 9 - dW g 9 / 9 * 9) 0 then dW g 9 - dW g 9 / 9 * 9 else dW g 9 - dW g 9 / 9 * 9 + 9).toInt32 = xCn g z 3 := by
  obtain ⟨a, b, ha, hb, e1, e2, e3⟩ := eSm3 hI 9 (by decide)
  obtain ⟨t, ht⟩ := zW9 g 9
  obtain ⟨b1, b2⟩ := zW_bd hI 9 (by decide)
  have b1' : -1000000000 ≤ zW g 9 := b1
  have b2' : zW g 9 ≤ 3 * 1000000000 := b2
  have e4 : nI a + (nI b - nI (9 * 9)) = nI (a + b) - 81 := by
    rw [← nI_add, show nI (9 * 9) = 81 from rfl]
    simp only [Int32.sub_eq_add_neg, Int32.add_assoc]
  show _ = xFm (xSu (fun j => xSh g j) 9 + xSu (fun j => g (6 * j + 3)) 9) 9
  rw [e1, e2, e4, eFmT (a + b) (by omega), dW_w hI, xWh hI, rem9 (by omega) (by omega)]
  have hd := tdiv9 (zW g 9)
  generalize hT : zW g 9 - (zW g 9).tdiv 9 * 9 = T
  have hT1 : -8 ≤ T ∧ T ≤ 8 := by split at hd <;> omega
  obtain ⟨j, hj⟩ : ∃ j : Nat, T = (j : Int) - 8 := ⟨(T + 8).toNat, by omega⟩
  rw [hj, c3T j (by omega)]
  congr 1
  split at hd <;> split <;> omega
/-! adding: the whole number -/
theorem eWadd {g g1 : Nat → Int32} (hI : Iv g) (hI1 : Iv g1) {d : Int32} {r : Nat} (h : zW g1 9 = zW g 9 + d.toInt * 10 ^ r) : (xWs g1 9).1 = (xWs g 9).1 + d.toInt64 * Int64.ofInt (10 ^ r) := by
  rw [xWh hI1, xWh hI, h, Int64.ofInt_add, Int64.ofInt_mul, Int64.ofInt_int32ToInt]
theorem eWsame {g g1 : Nat → Int32} (hI : Iv g) (hI1 : Iv g1) (h : zW g1 9 = zW g 9) : (xWs g1 9).1 = (xWs g 9).1 := by
  rw [xWh hI1, xWh hI, h]
theorem kG_un (G : Nat → Nat → Int32) (o z : Nat) (g : Nat → Int32) : kG G o z g (rI (kO o z) (kM z + 1)) = g := by
  unfold kG rI kI
  rw [Nat.add_sub_cancel]
  exact if_pos rfl
theorem nm9 : ∀ m, m < 19 → ¬ nI m - 9 < -9 ∧ nI m - 9 ≤ 9 ∧ (¬ nI m - 9 ≤ 0 → ¬ nI m - 9 < 1) ∧ (nI m - 9 ≤ 0 → ¬ nI m - 9 = 0 → ¬ -(nI m - 9) < 1) ∧ -(nI m - 9) ≤ 9 := by decide +kernel
theorem n1_9 : ∀ j, j < 9 → nI (1 + j) = nI (10 + j) - 9 ∧ -nI (1 + j) = nI (8 - j) - 9 := by decide +kernel
theorem tk_lt {x : Int32} (h : ¬ x < 0) : ¬ x = -1 := fun z => h (by rw [z]; decide)
/-! the cheapest loan -/
def cpI (g : Nat → Int32) (n : Nat) (p : Int32 × Int32) : Prop :=
  (p.1 = -1 ∧ ∀ r, r < n → g (6 * r + 3) = 0 ∨ (xCh g r (g (6 * r + 3)) 0).1 = -1) ∨
  ∃ q b : Nat, q < n ∧ b ≤ 100 ∧ p = (nI q, nI b) ∧ ¬ g (6 * q + 3) = 0 ∧ (xCh g q (g (6 * q + 3)) 0).1 = nI b ∧
    ∀ r, r < n → g (6 * r + 3) = 0 ∨ (xCh g r (g (6 * r + 3)) 0).1 = -1 ∨ ∃ b1 : Nat, b1 ≤ 100 ∧ (xCh g r (g (6 * r + 3)) 0).1 = nI b1 ∧ (b < b1 ∨ b = b1 ∧ q ≤ r)
theorem xCp_I {g : Nat → Int32} (hI : Iv g) : ∀ n : Nat, n ≤ 9 → cpI g n (xCp g n)
  | 0, _ => Or.inl ⟨rfl, fun r hr => by omega⟩
  | n + 1, hn => by
    have ih := xCp_I hI n (by omega)
    have ext : ∀ {p : Int32 × Int32}, cpI g n p → (g (6 * n + 3) = 0 ∨ (xCh g n (g (6 * n + 3)) 0).1 = -1) → cpI g (n + 1) p := fun {p} h h0 => by
      have le : ∀ r, r < n + 1 → r < n ∨ r = n := fun r hr => by omega
      rcases h with ⟨h1, h2⟩ | ⟨q, b, hq, hb, hp, h3, h4, h5⟩
      · exact Or.inl ⟨h1, fun r hr => (le r hr).elim (h2 r) (fun e => e ▸ h0)⟩
      · exact Or.inr ⟨q, b, by omega, hb, hp, h3, h4, fun r hr => (le r hr).elim (h5 r) (fun e => by
          subst e
          rcases h0 with h0 | h0
          · exact Or.inl h0
          · exact Or.inr (Or.inl h0))⟩
    unfold xCp
    by_cases h1 : g (6 * n + 3) = 0
    · rw [if_pos h1]; exact ext ih (Or.inl h1)
    · rw [if_neg h1]
      by_cases h2 : (xCh g n (g (6 * n + 3)) 0).1 = -1
      · rw [if_pos h2]; exact ext ih (Or.inr h2)
      · rw [if_neg h2]
        obtain ⟨b9, hb9, e9, -⟩ := ePy (r := n) (by omega) hI h2
        rw [e9]
        rcases ih with ⟨k1, k2⟩ | ⟨q, b, hq, hb, hp, k3, k4, k5⟩
        · rw [if_pos (Or.inl k1)]
          refine Or.inr ⟨n, b9, by omega, hb9, rfl, h1, e9, fun r hr => ?_⟩
          by_cases hrn : r = n
          · subst hrn; exact Or.inr (Or.inr ⟨b9, hb9, e9, Or.inr ⟨rfl, Nat.le_refl _⟩⟩)
          · rcases k2 r (by omega) with k | k
            · exact Or.inl k
            · exact Or.inr (Or.inl k)
        · rw [hp]
          by_cases h3 : nI b ≤ nI b9
          · rw [if_neg (fun z => z.elim (nIm1 (by omega)) (fun w => w h3))]
            have h3' := (nI_leI (by omega) (by omega)).mp h3
            refine Or.inr ⟨q, b, by omega, hb, rfl, k3, k4, fun r hr => ?_⟩
            by_cases hrn : r = n
            · subst hrn; exact Or.inr (Or.inr ⟨b9, hb9, e9, by omega⟩)
            · exact k5 r (by omega)
          · rw [if_pos (Or.inr h3)]
            have h3' : b9 < b := Nat.lt_of_not_le fun z => h3 (nI_le z (by omega))
            refine Or.inr ⟨n, b9, by omega, hb9, rfl, h1, e9, fun r hr => ?_⟩
            by_cases hrn : r = n
            · subst hrn; exact Or.inr (Or.inr ⟨b9, hb9, e9, Or.inr ⟨rfl, Nat.le_refl _⟩⟩)
            · rcases k5 r (by omega) with k | k | ⟨b1, hb1, k, w⟩
              · exact Or.inl k
              · exact Or.inr (Or.inl k)
              · exact Or.inr (Or.inr ⟨b1, hb1, k, by omega⟩)
/-! what a rod can show -/
theorem xRe_1 {g : Nat → Int32} {r c : Nat} (h : ¬ xTv g r (nI c) = -1) : ∀ n : Nat, c < n → ∃ k : Nat, 1 ≤ k ∧ k ≤ n ∧ xRe g r n = nI k
  | 0, hc => by omega
  | n + 1, hc => by
    obtain ⟨k0, hk0, e0⟩ := xRe_n g r n
    unfold xRe
    by_cases hn : c = n
    · subst hn
      rw [if_neg h, e0, nI_1]
      exact ⟨k0 + 1, by omega, by omega, rfl⟩
    · obtain ⟨k, h1, h2, e⟩ := xRe_1 h n (by omega)
      rw [e]
      split
      · exact ⟨k, h1, by omega, rfl⟩
      · rw [nI_1]; exact ⟨k + 1, by omega, by omega, rfl⟩
theorem xLs_1 {g : Nat → Int32} (hI : Iv g) : ∃ c : Nat, 1 ≤ c ∧ c < 145 ∧ xLs g = nI c := by
  have key : ∀ n : Nat, n ≤ 9 → ∃ c : Nat, n ≤ c ∧ c ≤ 16 * n ∧ xSu (fun j => xRe g j 16) n = nI c := by
    intro n
    induction n with
    | zero => exact fun _ => ⟨0, Nat.le_refl _, Nat.le_refl _, rfl⟩
    | succ n ih =>
      intro hn
      obtain ⟨c, h1, h2, e⟩ := ih (by omega)
      obtain ⟨v, hv, ev⟩ := eShN (hI.1 n (by omega))
      have h0 : ¬ xTv g n (nI v) = -1 := by rw [← ev, eOwnV (hI.1 n (by omega))]; decide
      obtain ⟨k, k1, k2, ek⟩ := xRe_1 h0 16 (by omega)
      refine ⟨c + k, by omega, by omega, ?_⟩
      show xSu (fun j => xRe g j 16) n + xRe g n 16 = _
      rw [e, ek]; exact nI_add c k
  obtain ⟨c, h1, h2, e⟩ := key 9 (by decide)
  exact ⟨c, by omega, by omega, e⟩
theorem loT : ∀ c, c < 145 → 1 ≤ c → ¬ Op.cmpValue (FP.dcmp (FP.ddiv (FP.i2d (nI c)) 4639270566145032192) FP.dconst0) CmpOp.l ≤ 0 ∧ ¬ 0 < Op.cmpValue (FP.dcmp (FP.ddiv (FP.i2d (nI c)) 4639270566145032192) FP.dconst1) CmpOp.g := fun c hc => of_decide_eq_true (co_dec (N := 145) (P := fun c => decide (1 ≤ c → ¬ Op.cmpValue (FP.dcmp (FP.ddiv (FP.i2d (nI c)) 4639270566145032192) FP.dconst0) CmpOp.l ≤ 0 ∧ ¬ 0 < Op.cmpValue (FP.dcmp (FP.ddiv (FP.i2d (nI c)) 4639270566145032192) FP.dconst1) CmpOp.g) = true) (by decide +kernel) (i := c) hc)
theorem lLo {g : Nat → Int32} (hI : Iv g) : ¬ Op.cmpValue (FP.dcmp (xLo g) FP.dconst0) CmpOp.l ≤ 0 ∧ ¬ 0 < Op.cmpValue (FP.dcmp (xLo g) FP.dconst1) CmpOp.g := by
  obtain ⟨c, h1, h2, e⟩ := xLs_1 hI
  unfold xLo
  rw [e]
  exact loT c h2 h1
/-! what is changed by move, stick and set -/
theorem lMoveI {g : Nat → Int32} {r : Nat} (hI : Iv g) {f q k : Int32} (h1 : ¬ f < 0) (h2 : f ≤ 2) (h3 : ¬ q < 0) (h4 : q ≤ 5) : Iv (xPl g r f q k) := by
  obtain ⟨a, ha, rfl⟩ := nI_of2 (M := 2) (n := 2) rfl h1 h2
  obtain ⟨b, hb, rfl⟩ := nI_of2 (M := 5) (n := 5) rfl h3 h4
  exact eIvPl hI ha hb
theorem lStickI {g : Nat → Int32} {r : Nat} (hI : Iv g) {a : Nat} (ha : a ≤ 3) : Iv (upd g (6 * r + 4) (nI a)) := by
  refine ⟨fun r1 hr1 => ?_, ?_⟩
  · obtain ⟨F, O, S, L, hF, hO, hS, hL, e1, e2, e4, e3⟩ := hI.1 r1 hr1
    by_cases hq : r1 = r
    · subst hq
      exact ⟨F, O, a, L, hF, hO, ha, hL, by rw [pk_un (by omega), e1], by rw [pk_un (by omega), e2], by rw [pk_us], by rw [pk_un (by omega), e3]⟩
    · exact ⟨F, O, S, L, hF, hO, hS, hL, by rw [pk_un (by omega), e1], by rw [pk_un (by omega), e2], by rw [pk_un (by omega), e4], by rw [pk_un (by omega), e3]⟩
  · obtain ⟨m, hm, e⟩ := hI.2
    exact ⟨m, hm, by rw [pk_un (by omega), e]⟩
theorem lSetI {g : Nat → Int32} (hI : Iv g) {a : Nat} (ha : a ≤ 9) : Iv (upd g 0 (nI a)) := by
  refine ⟨fun r1 hr1 => ?_, a, ha, pk_us⟩
  obtain ⟨F, O, S, L, hF, hO, hS, hL, e1, e2, e4, e3⟩ := hI.1 r1 hr1
  exact ⟨F, O, S, L, hF, hO, hS, hL, by rw [pk_un (by omega), e1], by rw [pk_un (by omega), e2], by rw [pk_un (by omega), e4], by rw [pk_un (by omega), e3]⟩
theorem lStickW {g : Nat → Int32} {r : Nat} {x : Int32} : zW (upd g (6 * r + 4) x) 9 = zW g 9 :=
  zW_same 9 (fun j _ => zc_eq (pk_un (by omega)) (pk_un (by omega)) (pk_un (by omega)))
theorem lSetW {g : Nat → Int32} {x : Int32} : zW (upd g 0 x) 9 = zW g 9 :=
  zW_same 9 (fun j _ => zc_eq (pk_un (by omega)) (pk_un (by omega)) (pk_un (by omega)))
theorem lStickN {g : Nat → Int32} {r : Nat} (hR : Rd9 g r) : ¬ g (6 * r + 4) < 0 := by
  obtain ⟨F, O, S, L, hF, hO, hS, hL, e1, e2, e4, e3⟩ := hR
  rw [e4]; exact nI_pos (by omega)
theorem lSetN {g : Nat → Int32} (hI : Iv g) : ¬ g 0 < 0 := by
  obtain ⟨m, hm, e⟩ := hI.2
  rw [e]; exact nI_pos (by omega)
theorem g00_Iv : Iv g00 := by
  refine ⟨fun r hr => ⟨0, 0, 0, 9, by decide, by decide, by decide, by decide, ?_, ?_, ?_, ?_⟩, 3, by decide, rfl⟩
  · exact pk_un (by omega)
  · exact pk_un (by omega)
  · exact pk_un (by omega)
  · rw [show g00 (6 * r + 3) = 0 from pk_un (by omega)]; decide
end
