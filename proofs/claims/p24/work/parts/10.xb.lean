theorem g_ixor {p : Program} {l : Launch} {e : Env} {R : Room} {s : State} {m : MethodId} {args : Array Value} {below : List Frame} {meth : Method} {c : Code} {cc : ByteArray} {own : String} {Ts : List Cond} {D : va_G} {cl : List vw_C} {tys : List (ClassId × FieldType)} {A : Nat → Prop} {H0 : Heap} {nL : Nat} {Q : State → Prop} {k n : Nat} {ws : va_W} {pc : Nat} {lv : List (Nat × Value)} {st : List Value} (C : gC p s m args c cc own Ts D cl tys A H0 nL) {x y v : Int32} (d : decode cc pc = .ok (.ixor, 1)) (hv : x ^^^ y = v)
    (kk : gG p l e R s m args below meth c D cl A H0 nL Q k n ws (pc + 1) lv (.int v :: st)) : gG p l e R s m args below meth c D cl A H0 nL Q k n ws pc lv (.int y :: .int x :: st) := by
  subst hv
  exact fun H locs ls hP hD hS hl => lv_ixor C.1 C.2.1 d (kk H locs ls hP hD hS hl)
def xWs (g : Nat → Int32) : Nat → Int64 × Int64
  | 0 => (0, 1)
  | r + 1 => ((xWs g r).1 + (xSh g r + g (6 * r + 3)).toInt64 * (xWs g r).2, (xWs g r).2 * 10)
def xTd (g : Nat → Int32) : Nat → Int32 × (Nat → Int32)
  | 0 => (0, g)
  | r + 1 => ((xTd g r).1 + (xPa (xTd g r).2 r).1 + (xOr (xPa (xTd g r).2 r).2 r).1, (xOr (xPa (xTd g r).2 r).2 r).2)
def xRod (g : Nat → Int32) (r : Nat) : Nat → Int32
  | 0 => g (6 * r + 1)
  | 1 => g (6 * r + 2)
  | 2 => xSh g r
  | 3 => g (6 * r + 3) + 100
  | 4 => g (6 * r + 4)
  | 5 => g (6 * r + 5)
  | 6 => g (6 * r + 6)
  | _ => xRe g r 16
def xFm (x y : Int32) : Int32 := if ¬ 0 ≤ x ^^^ y ∧ ¬ x - x / y * y = 0 then x - x / y * y + y else x - x / y * y
def xCn (g : Nat → Int32) (z : Nat) : Nat → Int32
  | 0 => xSu (fun j => g (6 * j + 5)) 9
  | 1 => xCt (fun j => ¬ g (6 * j + 3) = 0) 9
  | 2 => xSu (fun j => g (6 * j + 3)) 9 + 100
  | 3 => xFm (xSu (fun j => xSh g j) 9 + xSu (fun j => g (6 * j + 3)) 9) 9
  | 4 => xCt (fun j => ¬ xSh g j < 10) 9
  | 5 => xCt (fun j => ¬ g (6 * j + 4) = 0) 9
  | 6 => g 0
  | _ => nI z
def xTo (g : Nat → Int32) : Nat → Nat → Nat → Int32 → Int32
  | 0, _, _, a => a
  | k + 1, r, w, a => if xTv g r (nI (w % 10)) = -1 then -1 else xTo g k (r + 1) (w / 10) (a + xTv g r (nI (w % 10)))
def xCp (g : Nat → Int32) : Nat → Int32 × Int32
  | 0 => (-1, 0)
  | r + 1 => if g (6 * r + 3) = 0 then xCp g r else if (xCh g r (g (6 * r + 3)) 0).1 = -1 then xCp g r else
    if (xCp g r).1 = -1 ∨ ¬ (xCp g r).2 ≤ (xCh g r (g (6 * r + 3)) 0).1 then (nI r, (xCh g r (g (6 * r + 3)) 0).1) else xCp g r
def xLs (g : Nat → Int32) : Int32 := xSu (fun j => xRe g j 16) 9
def xLo (g : Nat → Int32) : UInt64 := FP.ddiv (FP.i2d (xLs g)) 4639270566145032192
theorem xRe_n (g : Nat → Int32) (r : Nat) : ∀ n : Nat, ∃ c : Nat, c ≤ n ∧ xRe g r n = nI c
  | 0 => ⟨0, Nat.le_refl _, rfl⟩
  | n + 1 => by
    obtain ⟨c, hc, e⟩ := xRe_n g r n
    unfold xRe
    split
    · exact ⟨c, by omega, e⟩
    · exact ⟨c + 1, by omega, by rw [e]; exact nI_1 c⟩
theorem xLs_n (g : Nat → Int32) : ∃ c : Nat, c < 145 ∧ xLs g = nI c := by
  have key : ∀ n : Nat, ∃ c : Nat, c ≤ 16 * n ∧ xSu (fun j => xRe g j 16) n = nI c := by
    intro n
    induction n with
    | zero => exact ⟨0, Nat.le_refl _, rfl⟩
    | succ n ih =>
      obtain ⟨c, hc, e⟩ := ih
      obtain ⟨c2, hc2, e2⟩ := xRe_n g n 16
      refine ⟨c + c2, by omega, ?_⟩
      show xSu (fun j => xRe g j 16) n + xRe g n 16 = _
      rw [e, e2]; exact nI_add c c2
  obtain ⟨c, hc, e⟩ := key 9
  exact ⟨c, by omega, e⟩
theorem lo_ok : ∀ c : Nat, c < 145 → vf_n64 (FP.ddiv (FP.i2d (nI c)) 4639270566145032192) := fun c hc => co_dec (N := 145) (P := fun c => FP.ddiv (FP.i2d (nI c)) 4639270566145032192 &&& 0x7fffffffffffffff ≤ 0x7ff0000000000000) (by decide +kernel) hc
theorem xLo_ok (g : Nat → Int32) : vf_n64 (FP.ddiv (FP.i2d (xLs g)) 4639270566145032192) := by
  obtain ⟨c, hc, e⟩ := xLs_n g
  rw [e]; exact lo_ok c hc
theorem fw_X3_whole_fld12 : Cond.fieldLink RX3 12 "StuckRods" "board" "LStuckRods$Board;" ∈ wsX3_whole := (List.mem_cons_of_mem _ (List.mem_append_left _ (List.mem_append_left _ (List.mem_of_getElem? (i := 0) rfl))))
theorem fl_X3_whole_X3 : ∀ w ∈ wsX30, w ∈ wsX3_whole := fun _ h => List.mem_cons_of_mem _ (List.mem_append_left _ (List.mem_append_right _ h))
theorem fw_X3_whole_fld69 : Cond.fieldLink RX3 69 "StuckRods$Board" "loan" "[I" ∈ wsX3_whole := (List.mem_cons_of_mem _ (List.mem_append_left _ (List.mem_append_left _ (List.mem_of_getElem? (i := 1) rfl))))
theorem fl_X3_whole_X0 : ∀ w ∈ wsX00, w ∈ wsX3_whole := fun _ h => List.mem_cons_of_mem _ (List.mem_append_right _ h)
theorem fw_X3_whole_const142 : Cond.constantLong RX3 142 (10) ∈ wsX3_whole := (List.mem_cons_of_mem _ (List.mem_append_left _ (List.mem_append_left _ (List.mem_of_getElem? (i := 2) rfl))))
abbrev rmX3_whole : Room := { frames := 1, cells := 0, slots := 0, locals := 21 }
set_option maxHeartbeats 1000000 in
set_option maxRecDepth 100000 in
theorem c_X3_whole (l : Launch) (D : va_G) (cI cO : ClassId) (xa : Nat) (ta ha : Nat → Nat) (hb : Nat → Nat → Nat) (ad : Nat → Nat) (t : Nat → Int32) (n : Nat) (G : Nat → Nat → Int32) (g : Nat → Int32) (o z : Nat) (hn : n ≤ 60) (ho : o < 6) (hz : z ≤ 6)  : cR (fun _ => True) l yX3_whole wsX3_whole rmX3_whole D vwCl (tyA cI cO) [.ref xa] ((wS0 xa ad ha ta) ++ ((wT ta cI t (nI n)) ++ ((wHs ha hb cI cO G (nI o) (nI z)) ++ (wB ad cI g)))) (some (.long ((xWs g 9).1))) ((wS0 xa ad ha ta) ++ ((wT ta cI t (nI n)) ++ ((wHs ha hb cI cO G (nI o) (nI z)) ++ (wB ad cI g)))) := by
  refine cR_of (cc := cX3_whole) (maxL := 6) (ret := (some .long)) (by decide) rfl (Nat.le_of_ble_eq_true rfl) ?_
  intro p e s m below meth c A C hret hlk hnm hF
  refine g_lv [0] (lv' := [(0, .ref xa)]) rfl ?_
  have K : ∀ (k q : Nat), k + q = 9 → gG p l e rmX3_whole s m ([.ref xa] : List Value).toArray below meth c D vwCl A s.heap 6 (MQ below (cQ (some (.long ((xWs g 9).1))) (cB D vwCl (tyA cI cO) A ((wS0 xa ad ha ta) ++ ((wT ta cI t (nI n)) ++ ((wHs ha hb cI cO G (nI o) (nI z)) ++ (wB ad cI g))))) A) ([.ref xa] : List Value).toArray s 0 0 A) 0 0 ((wS0 xa ad ha ta) ++ ((wT ta cI t (nI n)) ++ ((wHs ha hb cI cO G (nI o) (nI z)) ++ (wB ad cI g)))) 7 [(0, .ref xa), (1, .long ((xWs g q).1)), (3, .long ((xWs g q).2)), (5, .int (nI q))] [] := by
    intro k
    induction k with
    | zero =>
      intro q hn9
      obtain rfl : 9 = q := by omega
      refine g_iload C dX3_whole_7 3 rfl ?_
      refine g_bipush C (v := 9) dX3_whole_9 cb_9 ?_
      refine g_icmp_ge C (tgt := 52) dX3_whole_11 (by decide) (fun _ => ?_) (fun h11_1 => absurd (by decide) h11_1)
      refine g_lload_n C dX3_whole_52 1 rfl ?_
      exact g_lret C hret hlk dX3_whole_53 rfl rfl
    | succ k ih =>
      intro q hn9
      have hq9 : q < 9 := by omega
      refine g_iload C dX3_whole_7 3 rfl ?_
      refine g_bipush C (v := 9) dX3_whole_9 cb_9 ?_
      refine g_icmp_ge C (tgt := 52) dX3_whole_11 (by decide) (fun h11_2 => absurd h11_2 (ge9 hq9)) (fun _ => ?_)
      refine g_lload_n C dX3_whole_14 1 rfl ?_
      refine g_aload_n C dX3_whole_15 0 rfl ?_
      refine g_get C (v := .ref (ad 0)) fl_X3_whole_X3 0 rfl rfl 0 (by decide) fw_X3_whole_fld12 rfl dX3_whole_16 ?_
      refine g_iload C dX3_whole_19 3 rfl ?_
      refine g_callVi C (c_X0_shown l D cI cO ad g q hq9) gX3_whole_X0_shown rfl ⟨rfl, rfl⟩ hd_X0_shown ⟨Nat.le_of_ble_eq_true rfl, Nat.le_of_ble_eq_true rfl⟩ [0, 1] rfl (fun _ _ => trivial) rfl (rest := [.long ((xWs g q).1)]) rfl (Nat.le_of_ble_eq_true rfl) dX3_whole_21 ⟨Nat.zero_le _, Nat.zero_le _⟩ 0 rfl rfl rfl (pre := ((wS0 xa ad ha ta) ++ ((wT ta cI t (nI n)) ++ (wHs ha hb cI cO G (nI o) (nI z))))) (post := []) (ws' := ((wS0 xa ad ha ta) ++ ((wT ta cI t (nI n)) ++ ((wHs ha hb cI cO G (nI o) (nI z)) ++ (wB ad cI g))))) rfl rfl ?_
      refine g_aload_n C dX3_whole_24 0 rfl ?_
      refine g_get C (v := .ref (ad 0)) fl_X3_whole_X3 0 rfl rfl 0 (by decide) fw_X3_whole_fld12 rfl dX3_whole_25 ?_
      refine g_get C (v := .ref (ad 4)) fl_X3_whole_X0 47 rfl rfl 3 (by decide) fw_X3_whole_fld69 rfl dX3_whole_28 ?_
      refine g_iload C dX3_whole_31 3 rfl ?_
      refine g_iald C (x := g (6 * q + 3)) 51 0 rfl rfl q rfl hq9 (by decide) rfl dX3_whole_33 ?_
      refine g_iadd C (v := (xSh g q) + (g (6 * q + 3))) dX3_whole_34 rfl ?_
      refine g_i2l C (v := ((xSh g q) + (g (6 * q + 3))).toInt64) dX3_whole_35 rfl ?_
      refine g_lload_n C dX3_whole_36 2 rfl ?_
      refine g_lmul C (v := (((xSh g q) + (g (6 * q + 3))).toInt64) * ((xWs g q).2)) dX3_whole_37 rfl ?_
      refine g_ladd C (v := ((xWs g q).1) + ((((xSh g q) + (g (6 * q + 3))).toInt64) * ((xWs g q).2))) dX3_whole_38 rfl ?_
      refine g_lstore_n C (lv' := [(1, .long (((xWs g q).1) + ((((xSh g q) + (g (6 * q + 3))).toInt64) * ((xWs g q).2)))), (0, .ref xa), (3, .long ((xWs g q).2)), (5, .int (nI q))]) dX3_whole_39 rfl (by decide) rfl ?_
      refine g_lload_n C dX3_whole_40 2 rfl ?_
      refine g_ldc2 C (v := 10) dX3_whole_41 fw_X3_whole_const142 ?_
      refine g_lmul C (v := ((xWs g q).2) * 10) dX3_whole_44 rfl ?_
      refine g_lstore_n C (lv' := [(3, .long (((xWs g q).2) * 10)), (1, .long (((xWs g q).1) + ((((xSh g q) + (g (6 * q + 3))).toInt64) * ((xWs g q).2)))), (0, .ref xa), (5, .int (nI q))]) dX3_whole_45 rfl (by decide) rfl ?_
      refine g_iinc C (v := nI (q + 1)) (lv' := [(5, .int (nI (q + 1))), (3, .long (((xWs g q).2) * 10)), (1, .long (((xWs g q).1) + ((((xSh g q) + (g (6 * q + 3))).toInt64) * ((xWs g q).2)))), (0, .ref xa)]) dX3_whole_46 3 rfl (inc_nI _) (by decide) rfl ?_
      refine g_goto C (tgt := 7) dX3_whole_49 (by decide) ?_
      refine g_lv [3, 2, 1, 0] (lv' := [(0, .ref xa), (1, .long (((xWs g q).1) + ((((xSh g q) + (g (6 * q + 3))).toInt64) * ((xWs g q).2)))), (3, .long (((xWs g q).2) * 10)), (5, .int (nI (q + 1)))]) rfl ?_
      exact ih (q + 1) (by omega)
  refine g_lconst C (v := 0) dX3_whole_0 rfl ?_
  refine g_lstore_n C (lv' := [(1, .long 0), (0, .ref xa)]) dX3_whole_1 rfl (by decide) rfl ?_
  refine g_lconst C (v := 1) dX3_whole_2 rfl ?_
  refine g_lstore_n C (lv' := [(3, .long 1), (1, .long 0), (0, .ref xa)]) dX3_whole_3 rfl (by decide) rfl ?_
  refine g_iconst C (v := 0) dX3_whole_4 ci_0 ?_
  refine g_istore C (lv' := [(5, .int 0), (3, .long 1), (1, .long 0), (0, .ref xa)]) dX3_whole_5 (by decide) rfl ?_
  refine g_lv [3, 2, 1, 0] (lv' := [(0, .ref xa), (1, .long 0), (3, .long 1), (5, .int 0)]) rfl ?_
  exact K 9 0 rfl
theorem fw_X3_tidy_fld12 : Cond.fieldLink RX3 12 "StuckRods" "board" "LStuckRods$Board;" ∈ wsX3_tidy := (List.mem_cons_of_mem _ (List.mem_append_left _ (List.mem_append_left _ (List.mem_append_left _ (List.mem_append_left _ (List.mem_of_getElem? (i := 1) rfl))))))
theorem fl_X3_tidy_X3 : ∀ w ∈ wsX30, w ∈ wsX3_tidy := fun _ h => List.mem_cons_of_mem _ (List.mem_append_left _ (List.mem_append_left _ (List.mem_append_right _ h)))
theorem hd_X0_orderIfPossible : yX0_orderIfPossible.cls = RX0 ∧ yX0_orderIfPossible.cls ≠ "java/lang/invoke/MethodHandle" ∧ yX0_orderIfPossible.cls ≠ "java/lang/invoke/VarHandle" ∧ (parseMethodDescriptor yX0_orderIfPossible.desc).map (fun d => d.parameters.length) = some 1 := by decide +kernel
theorem fw_X3_tidy_fld19 : Cond.fieldLink RX3 19 "StuckRods" "history" "LStuckRods$History;" ∈ wsX3_tidy := (List.mem_cons_of_mem _ (List.mem_append_left _ (List.mem_append_left _ (List.mem_append_left _ (List.mem_append_left _ (List.mem_of_getElem? (i := 0) rfl))))))
abbrev rmX3_tidy : Room := { frames := 6, cells := 0, slots := 0, locals := 147 }
set_option maxHeartbeats 1000000 in
set_option maxRecDepth 100000 in
theorem c_X3_tidy (l : Launch) (D : va_G) (cI cO : ClassId) (xa : Nat) (ta ha : Nat → Nat) (hb : Nat → Nat → Nat) (ad : Nat → Nat) (t : Nat → Int32) (n : Nat) (G : Nat → Nat → Int32) (g : Nat → Int32) (o z : Nat) (hn : n ≤ 60) (ho : o < 6) (hz : z ≤ 6)  : cR (fun _ => True) l yX3_tidy wsX3_tidy rmX3_tidy D vwCl (tyA cI cO) [.ref xa] ((wS0 xa ad ha ta) ++ ((wT ta cI t (nI n)) ++ ((wHs ha hb cI cO G (nI o) (nI z)) ++ (wB ad cI g)))) (some (.int ((xTd g 9).1))) ((wS0 xa ad ha ta) ++ ((wT ta cI t (nI n)) ++ ((wHs ha hb cI cO (kG G o z g) (nI (kO o z)) (nI (kM z + 1))) ++ (wB ad cI ((xTd g 9).2))))) := by
  refine cR_of (cc := cX3_tidy) (maxL := 3) (ret := (some .int)) (by decide) rfl (Nat.le_of_ble_eq_true rfl) ?_
  intro p e s m below meth c A C hret hlk hnm hF
  refine g_lv [0] (lv' := [(0, .ref xa)]) rfl ?_
  have K : ∀ (k q : Nat), k + q = 9 → gG p l e rmX3_tidy s m ([.ref xa] : List Value).toArray below meth c D vwCl A s.heap 3 (MQ below (cQ (some (.int ((xTd g 9).1))) (cB D vwCl (tyA cI cO) A ((wS0 xa ad ha ta) ++ ((wT ta cI t (nI n)) ++ ((wHs ha hb cI cO (kG G o z g) (nI (kO o z)) (nI (kM z + 1))) ++ (wB ad cI ((xTd g 9).2)))))) A) ([.ref xa] : List Value).toArray s 0 0 A) 0 0 ((wS0 xa ad ha ta) ++ ((wT ta cI t (nI n)) ++ ((wHs ha hb cI cO (kG G o z g) (nI (kO o z)) (nI (kM z + 1))) ++ (wB ad cI ((xTd g q).2))))) 15 [(0, .ref xa), (1, .int ((xTd g q).1)), (2, .int (nI q))] [] := by
    intro k
    induction k with
    | zero =>
      intro q hn9
      obtain rfl : 9 = q := by omega
      refine g_iload_n C dX3_tidy_15 2 rfl ?_
      refine g_bipush C (v := 9) dX3_tidy_16 cb_9 ?_
      refine g_icmp_ge C (tgt := 49) dX3_tidy_18 (by decide) (fun _ => ?_) (fun h18_1 => absurd (by decide) h18_1)
      refine g_iload_n C dX3_tidy_49 1 rfl ?_
      exact g_iret C hret hlk dX3_tidy_50 rfl rfl
    | succ k ih =>
      intro q hn9
      have hq9 : q < 9 := by omega
      refine g_iload_n C dX3_tidy_15 2 rfl ?_
      refine g_bipush C (v := 9) dX3_tidy_16 cb_9 ?_
      refine g_icmp_ge C (tgt := 49) dX3_tidy_18 (by decide) (fun h18_2 => absurd h18_2 (ge9 hq9)) (fun _ => ?_)
      refine g_iload_n C dX3_tidy_21 1 rfl ?_
      refine g_aload_n C dX3_tidy_22 0 rfl ?_
      refine g_get C (v := .ref (ad 0)) fl_X3_tidy_X3 0 rfl rfl 0 (by decide) fw_X3_tidy_fld12 rfl dX3_tidy_23 ?_
      refine g_iload_n C dX3_tidy_26 2 rfl ?_
      refine g_callVi C (c_X0_payIfPossible l D cI cO ad ((xTd g q).2) q hq9) gX3_tidy_X0_payIfPossible rfl ⟨rfl, rfl⟩ hd_X0_payIfPossible ⟨Nat.le_of_ble_eq_true rfl, Nat.le_of_ble_eq_true rfl⟩ [0, 1] rfl (fun _ _ => trivial) rfl (rest := [.int ((xTd g q).1)]) rfl (Nat.le_of_ble_eq_true rfl) dX3_tidy_27 ⟨Nat.zero_le _, Nat.zero_le _⟩ 0 rfl rfl rfl (pre := ((wS0 xa ad ha ta) ++ ((wT ta cI t (nI n)) ++ (wHs ha hb cI cO (kG G o z g) (nI (kO o z)) (nI (kM z + 1)))))) (post := []) (ws' := ((wS0 xa ad ha ta) ++ ((wT ta cI t (nI n)) ++ ((wHs ha hb cI cO (kG G o z g) (nI (kO o z)) (nI (kM z + 1))) ++ (wB ad cI ((xPa ((xTd g q).2) q).2)))))) rfl rfl ?_
      refine g_iadd C (v := ((xTd g q).1) + ((xPa ((xTd g q).2) q).1)) dX3_tidy_30 rfl ?_
      refine g_istore_n C (lv' := [(1, .int (((xTd g q).1) + ((xPa ((xTd g q).2) q).1))), (0, .ref xa), (2, .int (nI q))]) dX3_tidy_31 rfl (by decide) rfl ?_
      refine g_iload_n C dX3_tidy_32 0 rfl ?_
      refine g_aload_n C dX3_tidy_33 1 rfl ?_
      refine g_get C (v := .ref (ad 0)) fl_X3_tidy_X3 0 rfl rfl 0 (by decide) fw_X3_tidy_fld12 rfl dX3_tidy_34 ?_
      refine g_iload_n C dX3_tidy_37 2 rfl ?_
      refine g_callVi C (c_X0_orderIfPossible l D cI cO ad ((xPa ((xTd g q).2) q).2) q hq9) gX3_tidy_X0_orderIfPossible rfl ⟨rfl, rfl⟩ hd_X0_orderIfPossible ⟨Nat.le_of_ble_eq_true rfl, Nat.le_of_ble_eq_true rfl⟩ [0, 1] rfl (fun _ _ => trivial) rfl (rest := [.int (((xTd g q).1) + ((xPa ((xTd g q).2) q).1))]) rfl (Nat.le_of_ble_eq_true rfl) dX3_tidy_38 ⟨Nat.zero_le _, Nat.zero_le _⟩ 0 rfl rfl rfl (pre := ((wS0 xa ad ha ta) ++ ((wT ta cI t (nI n)) ++ (wHs ha hb cI cO (kG G o z g) (nI (kO o z)) (nI (kM z + 1)))))) (post := []) (ws' := ((wS0 xa ad ha ta) ++ ((wT ta cI t (nI n)) ++ ((wHs ha hb cI cO (kG G o z g) (nI (kO o z)) (nI (kM z + 1))) ++ (wB ad cI ((xOr ((xPa ((xTd g q).2) q).2) q).2)))))) rfl rfl ?_
      refine g_iadd C (v := (((xTd g q).1) + ((xPa ((xTd g q).2) q).1)) + ((xOr ((xPa ((xTd g q).2) q).2) q).1)) dX3_tidy_41 rfl ?_
      refine g_istore_n C (lv' := [(1, .int ((((xTd g q).1) + ((xPa ((xTd g q).2) q).1)) + ((xOr ((xPa ((xTd g q).2) q).2) q).1))), (0, .ref xa), (2, .int (nI q))]) dX3_tidy_42 rfl (by decide) rfl ?_
      refine g_iinc C (v := nI (q + 1)) (lv' := [(2, .int (nI (q + 1))), (1, .int ((((xTd g q).1) + ((xPa ((xTd g q).2) q).1)) + ((xOr ((xPa ((xTd g q).2) q).2) q).1))), (0, .ref xa)]) dX3_tidy_43 2 rfl (inc_nI _) (by decide) rfl ?_
      refine g_goto C (tgt := 15) dX3_tidy_46 (by decide) ?_
      refine g_lv [2, 1, 0] (lv' := [(0, .ref xa), (1, .int ((((xTd g q).1) + ((xPa ((xTd g q).2) q).1)) + ((xOr ((xPa ((xTd g q).2) q).2) q).1))), (2, .int (nI (q + 1)))]) rfl ?_
      have i9 := ih (q + 1) (by omega)
      rw [show xTd g (q + 1) = ((((xTd g q).1) + ((xPa ((xTd g q).2) q).1)) + ((xOr ((xPa ((xTd g q).2) q).2) q).1), (xOr ((xPa ((xTd g q).2) q).2) q).2) from rfl] at i9
      dsimp only at i9
      exact i9
  refine g_aload_n C dX3_tidy_0 0 rfl ?_
  refine g_get C (v := .ref (ha 0)) fl_X3_tidy_X3 0 rfl rfl 1 (by decide) fw_X3_tidy_fld19 rfl dX3_tidy_1 ?_
  refine g_aload_n C dX3_tidy_4 0 rfl ?_
  refine g_get C (v := .ref (ad 0)) fl_X3_tidy_X3 0 rfl rfl 0 (by decide) fw_X3_tidy_fld12 rfl dX3_tidy_5 ?_
  refine g_callVv C (c_X1_keep l D cI cO ha hb ad G g o z ho hz) gX3_tidy_X1_keep rfl ⟨rfl, rfl⟩ hd_X1_keep ⟨Nat.le_of_ble_eq_true rfl, Nat.le_of_ble_eq_true rfl⟩ [0, 1] rfl (fun _ _ => trivial) rfl (rest := []) rfl (Nat.le_of_ble_eq_true rfl) dX3_tidy_8 ⟨Nat.zero_le _, Nat.zero_le _⟩ 0 rfl rfl rfl (pre := ((wS0 xa ad ha ta) ++ (wT ta cI t (nI n)))) (post := []) (ws' := ((wS0 xa ad ha ta) ++ ((wT ta cI t (nI n)) ++ ((wHs ha hb cI cO (kG G o z g) (nI (kO o z)) (nI (kM z + 1))) ++ (wB ad cI g))))) rfl rfl ?_
  refine g_iconst C (v := 0) dX3_tidy_11 ci_0 ?_
  refine g_istore_n C (lv' := [(1, .int 0), (0, .ref xa)]) dX3_tidy_12 rfl (by decide) rfl ?_
  refine g_iconst C (v := 0) dX3_tidy_13 ci_0 ?_
  refine g_istore_n C (lv' := [(2, .int 0), (1, .int 0), (0, .ref xa)]) dX3_tidy_14 rfl (by decide) rfl ?_
  refine g_lv [2, 1, 0] (lv' := [(0, .ref xa), (1, .int 0), (2, .int 0)]) rfl ?_
  exact K 9 0 rfl
theorem fw_X3_rod_fld12 : Cond.fieldLink RX3 12 "StuckRods" "board" "LStuckRods$Board;" ∈ wsX3_rod := (List.mem_cons_of_mem _ (List.mem_append_left _ (List.mem_append_left _ (List.mem_append_left _ (List.mem_append_left _ (List.mem_append_left _ (List.mem_of_getElem? (i := 0) rfl)))))))
theorem fl_X3_rod_X3 : ∀ w ∈ wsX30, w ∈ wsX3_rod := fun _ h => List.mem_cons_of_mem _ (List.mem_append_left _ (List.mem_append_left _ (List.mem_append_left _ (List.mem_append_right _ h))))
theorem fw_X3_rod_fld124 : Cond.fieldLink RX3 124 "StuckRods$Board" "fives" "[I" ∈ wsX3_rod := (List.mem_cons_of_mem _ (List.mem_append_left _ (List.mem_append_left _ (List.mem_append_left _ (List.mem_append_left _ (List.mem_append_left _ (List.mem_of_getElem? (i := 1) rfl)))))))
theorem fl_X3_rod_X0 : ∀ w ∈ wsX00, w ∈ wsX3_rod := fun _ h => List.mem_cons_of_mem _ (List.mem_append_left _ (List.mem_append_left _ (List.mem_append_right _ h)))
theorem fw_X3_rod_fld127 : Cond.fieldLink RX3 127 "StuckRods$Board" "ones" "[I" ∈ wsX3_rod := (List.mem_cons_of_mem _ (List.mem_append_left _ (List.mem_append_left _ (List.mem_append_left _ (List.mem_append_left _ (List.mem_append_left _ (List.mem_of_getElem? (i := 2) rfl)))))))
theorem fw_X3_rod_fld69 : Cond.fieldLink RX3 69 "StuckRods$Board" "loan" "[I" ∈ wsX3_rod := (List.mem_cons_of_mem _ (List.mem_append_left _ (List.mem_append_left _ (List.mem_append_left _ (List.mem_append_left _ (List.mem_append_left _ (List.mem_of_getElem? (i := 3) rfl)))))))
theorem fw_X3_rod_fld57 : Cond.fieldLink RX3 57 "StuckRods$Board" "stuck" "[I" ∈ wsX3_rod := (List.mem_cons_of_mem _ (List.mem_append_left _ (List.mem_append_left _ (List.mem_append_left _ (List.mem_append_left _ (List.mem_append_left _ (List.mem_of_getElem? (i := 4) rfl)))))))
theorem fw_X3_rod_fld133 : Cond.fieldLink RX3 133 "StuckRods$Board" "moved" "[I" ∈ wsX3_rod := (List.mem_cons_of_mem _ (List.mem_append_left _ (List.mem_append_left _ (List.mem_append_left _ (List.mem_append_left _ (List.mem_append_left _ (List.mem_of_getElem? (i := 5) rfl)))))))
theorem fw_X3_rod_fld136 : Cond.fieldLink RX3 136 "StuckRods$Board" "borrowed" "[I" ∈ wsX3_rod := (List.mem_cons_of_mem _ (List.mem_append_left _ (List.mem_append_left _ (List.mem_append_left _ (List.mem_append_left _ (List.mem_append_left _ (List.mem_of_getElem? (i := 6) rfl)))))))
theorem hd_X0_reach : yX0_reach.cls = RX0 ∧ yX0_reach.cls ≠ "java/lang/invoke/MethodHandle" ∧ yX0_reach.cls ≠ "java/lang/invoke/VarHandle" ∧ (parseMethodDescriptor yX0_reach.desc).map (fun d => d.parameters.length) = some 1 := by decide +kernel
abbrev rmX3_rod : Room := { frames := 4, cells := 0, slots := 0, locals := 96 }
set_option maxHeartbeats 1000000 in
set_option maxRecDepth 100000 in
theorem c_X3_rod (l : Launch) (D : va_G) (cI cO : ClassId) (xa : Nat) (ta ha : Nat → Nat) (hb : Nat → Nat → Nat) (ad : Nat → Nat) (t : Nat → Int32) (n : Nat) (G : Nat → Nat → Int32) (g : Nat → Int32) (o z : Nat) (hn : n ≤ 60) (ho : o < 6) (hz : z ≤ 6) (r : Nat) (hr : r < 9) (w : Nat) (hw : w ≤ 7) : cR (fun _ => True) l yX3_rod wsX3_rod rmX3_rod D vwCl (tyA cI cO) [.ref xa, .int (nI r), .int (nI w)] ((wS0 xa ad ha ta) ++ ((wT ta cI t (nI n)) ++ ((wHs ha hb cI cO G (nI o) (nI z)) ++ (wB ad cI g)))) (some (.int (xRod g r w))) ((wS0 xa ad ha ta) ++ ((wT ta cI t (nI n)) ++ ((wHs ha hb cI cO G (nI o) (nI z)) ++ (wB ad cI g)))) := by
  refine cR_of (cc := cX3_rod) (maxL := 3) (ret := (some .int)) (by decide) rfl (Nat.le_of_ble_eq_true rfl) ?_
  intro p e s m below meth c A C hret hlk hnm hF
  refine g_lv [0, 1, 2] (lv' := [(0, .ref xa), (1, .int (nI r)), (2, .int (nI w))]) rfl ?_
  rcases (show w = 0 ∨ w = 1 ∨ w = 2 ∨ w = 3 ∨ w = 4 ∨ w = 5 ∨ w = 6 ∨ w = 7 by omega) with e | e | e | e | e | e | e | e <;> subst e
  · refine g_iload_n C dX3_rod_0 1 rfl ?_
    refine g_callSv C (c_X3_checkRod l D cI cO r hr) gX3_rod_X3_checkRod rfl ⟨rfl, rfl⟩ hd_X3_checkRod ⟨Nat.le_of_ble_eq_true rfl, Nat.le_of_ble_eq_true rfl⟩ [0, 1] rfl (fun _ _ => trivial) rfl (rest := []) rfl (Nat.le_of_ble_eq_true rfl) dX3_rod_1 ⟨Nat.zero_le _, Nat.zero_le _⟩ (pre := []) (post := ((wS0 xa ad ha ta) ++ ((wT ta cI t (nI n)) ++ ((wHs ha hb cI cO G (nI o) (nI z)) ++ (wB ad cI g))))) (ws' := ((wS0 xa ad ha ta) ++ ((wT ta cI t (nI n)) ++ ((wHs ha hb cI cO G (nI o) (nI z)) ++ (wB ad cI g))))) rfl rfl ?_
    refine g_iload_n C dX3_rod_4 2 rfl ?_
    refine g_iconst C (v := 0) dX3_rod_5 ci_0 ?_
    refine g_bipush C (v := 7) dX3_rod_6 cb_7 ?_
    refine g_callSv C (c_X3_checkRange l D cI cO (nI 0) 0 7 (nI_pos (by decide)) (leI (b := 7) (by decide) (by decide))) gX3_rod_X3_checkRange rfl ⟨rfl, rfl⟩ hd_X3_checkRange ⟨Nat.le_of_ble_eq_true rfl, Nat.le_of_ble_eq_true rfl⟩ [0, 1] rfl (fun _ _ => trivial) rfl (rest := []) rfl (Nat.le_of_ble_eq_true rfl) dX3_rod_8 ⟨Nat.zero_le _, Nat.zero_le _⟩ (pre := []) (post := ((wS0 xa ad ha ta) ++ ((wT ta cI t (nI n)) ++ ((wHs ha hb cI cO G (nI o) (nI z)) ++ (wB ad cI g))))) (ws' := ((wS0 xa ad ha ta) ++ ((wT ta cI t (nI n)) ++ ((wHs ha hb cI cO G (nI o) (nI z)) ++ (wB ad cI g))))) rfl rfl ?_
    refine g_iload_n C dX3_rod_11 2 rfl ?_
    refine g_tableIn C (tgt := 56) dX3_rod_12 (by decide) (by decide) rfl (by decide) ?_
    refine g_aload_n C dX3_rod_56 0 rfl ?_
    refine g_get C (v := .ref (ad 0)) fl_X3_rod_X3 0 rfl rfl 0 (by decide) fw_X3_rod_fld12 rfl dX3_rod_57 ?_
    refine g_get C (v := .ref (ad 1)) fl_X3_rod_X0 47 rfl rfl 0 (by decide) fw_X3_rod_fld124 rfl dX3_rod_60 ?_
    refine g_iload_n C dX3_rod_63 1 rfl ?_
    refine g_iald C (x := g (6 * r + 1)) 48 0 rfl rfl r rfl hr (by decide) rfl dX3_rod_64 ?_
    exact g_iret C hret hlk dX3_rod_65 rfl rfl
  · refine g_iload_n C dX3_rod_0 1 rfl ?_
    refine g_callSv C (c_X3_checkRod l D cI cO r hr) gX3_rod_X3_checkRod rfl ⟨rfl, rfl⟩ hd_X3_checkRod ⟨Nat.le_of_ble_eq_true rfl, Nat.le_of_ble_eq_true rfl⟩ [0, 1] rfl (fun _ _ => trivial) rfl (rest := []) rfl (Nat.le_of_ble_eq_true rfl) dX3_rod_1 ⟨Nat.zero_le _, Nat.zero_le _⟩ (pre := []) (post := ((wS0 xa ad ha ta) ++ ((wT ta cI t (nI n)) ++ ((wHs ha hb cI cO G (nI o) (nI z)) ++ (wB ad cI g))))) (ws' := ((wS0 xa ad ha ta) ++ ((wT ta cI t (nI n)) ++ ((wHs ha hb cI cO G (nI o) (nI z)) ++ (wB ad cI g))))) rfl rfl ?_
    refine g_iload_n C dX3_rod_4 2 rfl ?_
    refine g_iconst C (v := 0) dX3_rod_5 ci_0 ?_
    refine g_bipush C (v := 7) dX3_rod_6 cb_7 ?_
    refine g_callSv C (c_X3_checkRange l D cI cO (nI 1) 0 7 (nI_pos (by decide)) (leI (b := 7) (by decide) (by decide))) gX3_rod_X3_checkRange rfl ⟨rfl, rfl⟩ hd_X3_checkRange ⟨Nat.le_of_ble_eq_true rfl, Nat.le_of_ble_eq_true rfl⟩ [0, 1] rfl (fun _ _ => trivial) rfl (rest := []) rfl (Nat.le_of_ble_eq_true rfl) dX3_rod_8 ⟨Nat.zero_le _, Nat.zero_le _⟩ (pre := []) (post := ((wS0 xa ad ha ta) ++ ((wT ta cI t (nI n)) ++ ((wHs ha hb cI cO G (nI o) (nI z)) ++ (wB ad cI g))))) (ws' := ((wS0 xa ad ha ta) ++ ((wT ta cI t (nI n)) ++ ((wHs ha hb cI cO G (nI o) (nI z)) ++ (wB ad cI g))))) rfl rfl ?_
    refine g_iload_n C dX3_rod_11 2 rfl ?_
    refine g_tableIn C (tgt := 66) dX3_rod_12 (by decide) (by decide) rfl (by decide) ?_
    refine g_aload_n C dX3_rod_66 0 rfl ?_
    refine g_get C (v := .ref (ad 0)) fl_X3_rod_X3 0 rfl rfl 0 (by decide) fw_X3_rod_fld12 rfl dX3_rod_67 ?_
    refine g_get C (v := .ref (ad 2)) fl_X3_rod_X0 47 rfl rfl 1 (by decide) fw_X3_rod_fld127 rfl dX3_rod_70 ?_
    refine g_iload_n C dX3_rod_73 1 rfl ?_
    refine g_iald C (x := g (6 * r + 2)) 49 0 rfl rfl r rfl hr (by decide) rfl dX3_rod_74 ?_
    exact g_iret C hret hlk dX3_rod_75 rfl rfl
  · refine g_iload_n C dX3_rod_0 1 rfl ?_
    refine g_callSv C (c_X3_checkRod l D cI cO r hr) gX3_rod_X3_checkRod rfl ⟨rfl, rfl⟩ hd_X3_checkRod ⟨Nat.le_of_ble_eq_true rfl, Nat.le_of_ble_eq_true rfl⟩ [0, 1] rfl (fun _ _ => trivial) rfl (rest := []) rfl (Nat.le_of_ble_eq_true rfl) dX3_rod_1 ⟨Nat.zero_le _, Nat.zero_le _⟩ (pre := []) (post := ((wS0 xa ad ha ta) ++ ((wT ta cI t (nI n)) ++ ((wHs ha hb cI cO G (nI o) (nI z)) ++ (wB ad cI g))))) (ws' := ((wS0 xa ad ha ta) ++ ((wT ta cI t (nI n)) ++ ((wHs ha hb cI cO G (nI o) (nI z)) ++ (wB ad cI g))))) rfl rfl ?_
    refine g_iload_n C dX3_rod_4 2 rfl ?_
    refine g_iconst C (v := 0) dX3_rod_5 ci_0 ?_
    refine g_bipush C (v := 7) dX3_rod_6 cb_7 ?_
    refine g_callSv C (c_X3_checkRange l D cI cO (nI 2) 0 7 (nI_pos (by decide)) (leI (b := 7) (by decide) (by decide))) gX3_rod_X3_checkRange rfl ⟨rfl, rfl⟩ hd_X3_checkRange ⟨Nat.le_of_ble_eq_true rfl, Nat.le_of_ble_eq_true rfl⟩ [0, 1] rfl (fun _ _ => trivial) rfl (rest := []) rfl (Nat.le_of_ble_eq_true rfl) dX3_rod_8 ⟨Nat.zero_le _, Nat.zero_le _⟩ (pre := []) (post := ((wS0 xa ad ha ta) ++ ((wT ta cI t (nI n)) ++ ((wHs ha hb cI cO G (nI o) (nI z)) ++ (wB ad cI g))))) (ws' := ((wS0 xa ad ha ta) ++ ((wT ta cI t (nI n)) ++ ((wHs ha hb cI cO G (nI o) (nI z)) ++ (wB ad cI g))))) rfl rfl ?_
    refine g_iload_n C dX3_rod_11 2 rfl ?_
    refine g_tableIn C (tgt := 76) dX3_rod_12 (by decide) (by decide) rfl (by decide) ?_
    refine g_aload_n C dX3_rod_76 0 rfl ?_
    refine g_get C (v := .ref (ad 0)) fl_X3_rod_X3 0 rfl rfl 0 (by decide) fw_X3_rod_fld12 rfl dX3_rod_77 ?_
    refine g_iload_n C dX3_rod_80 1 rfl ?_
    refine g_callVi C (c_X0_shown l D cI cO ad g r hr) gX3_rod_X0_shown rfl ⟨rfl, rfl⟩ hd_X0_shown ⟨Nat.le_of_ble_eq_true rfl, Nat.le_of_ble_eq_true rfl⟩ [0, 1] rfl (fun _ _ => trivial) rfl (rest := []) rfl (Nat.le_of_ble_eq_true rfl) dX3_rod_81 ⟨Nat.zero_le _, Nat.zero_le _⟩ 0 rfl rfl rfl (pre := ((wS0 xa ad ha ta) ++ ((wT ta cI t (nI n)) ++ (wHs ha hb cI cO G (nI o) (nI z))))) (post := []) (ws' := ((wS0 xa ad ha ta) ++ ((wT ta cI t (nI n)) ++ ((wHs ha hb cI cO G (nI o) (nI z)) ++ (wB ad cI g))))) rfl rfl ?_
    exact g_iret C hret hlk dX3_rod_84 rfl rfl
  · refine g_iload_n C dX3_rod_0 1 rfl ?_
    refine g_callSv C (c_X3_checkRod l D cI cO r hr) gX3_rod_X3_checkRod rfl ⟨rfl, rfl⟩ hd_X3_checkRod ⟨Nat.le_of_ble_eq_true rfl, Nat.le_of_ble_eq_true rfl⟩ [0, 1] rfl (fun _ _ => trivial) rfl (rest := []) rfl (Nat.le_of_ble_eq_true rfl) dX3_rod_1 ⟨Nat.zero_le _, Nat.zero_le _⟩ (pre := []) (post := ((wS0 xa ad ha ta) ++ ((wT ta cI t (nI n)) ++ ((wHs ha hb cI cO G (nI o) (nI z)) ++ (wB ad cI g))))) (ws' := ((wS0 xa ad ha ta) ++ ((wT ta cI t (nI n)) ++ ((wHs ha hb cI cO G (nI o) (nI z)) ++ (wB ad cI g))))) rfl rfl ?_
    refine g_iload_n C dX3_rod_4 2 rfl ?_
    refine g_iconst C (v := 0) dX3_rod_5 ci_0 ?_
    refine g_bipush C (v := 7) dX3_rod_6 cb_7 ?_
    refine g_callSv C (c_X3_checkRange l D cI cO (nI 3) 0 7 (nI_pos (by decide)) (leI (b := 7) (by decide) (by decide))) gX3_rod_X3_checkRange rfl ⟨rfl, rfl⟩ hd_X3_checkRange ⟨Nat.le_of_ble_eq_true rfl, Nat.le_of_ble_eq_true rfl⟩ [0, 1] rfl (fun _ _ => trivial) rfl (rest := []) rfl (Nat.le_of_ble_eq_true rfl) dX3_rod_8 ⟨Nat.zero_le _, Nat.zero_le _⟩ (pre := []) (post := ((wS0 xa ad ha ta) ++ ((wT ta cI t (nI n)) ++ ((wHs ha hb cI cO G (nI o) (nI z)) ++ (wB ad cI g))))) (ws' := ((wS0 xa ad ha ta) ++ ((wT ta cI t (nI n)) ++ ((wHs ha hb cI cO G (nI o) (nI z)) ++ (wB ad cI g))))) rfl rfl ?_
    refine g_iload_n C dX3_rod_11 2 rfl ?_
    refine g_tableIn C (tgt := 85) dX3_rod_12 (by decide) (by decide) rfl (by decide) ?_
    refine g_aload_n C dX3_rod_85 0 rfl ?_
    refine g_get C (v := .ref (ad 0)) fl_X3_rod_X3 0 rfl rfl 0 (by decide) fw_X3_rod_fld12 rfl dX3_rod_86 ?_
    refine g_get C (v := .ref (ad 4)) fl_X3_rod_X0 47 rfl rfl 3 (by decide) fw_X3_rod_fld69 rfl dX3_rod_89 ?_
    refine g_iload_n C dX3_rod_92 1 rfl ?_
    refine g_iald C (x := g (6 * r + 3)) 51 0 rfl rfl r rfl hr (by decide) rfl dX3_rod_93 ?_
    refine g_bipush C (v := 100) dX3_rod_94 cb_100 ?_
    refine g_iadd C (v := (g (6 * r + 3)) + 100) dX3_rod_96 rfl ?_
    exact g_iret C hret hlk dX3_rod_97 rfl rfl
  · refine g_iload_n C dX3_rod_0 1 rfl ?_
    refine g_callSv C (c_X3_checkRod l D cI cO r hr) gX3_rod_X3_checkRod rfl ⟨rfl, rfl⟩ hd_X3_checkRod ⟨Nat.le_of_ble_eq_true rfl, Nat.le_of_ble_eq_true rfl⟩ [0, 1] rfl (fun _ _ => trivial) rfl (rest := []) rfl (Nat.le_of_ble_eq_true rfl) dX3_rod_1 ⟨Nat.zero_le _, Nat.zero_le _⟩ (pre := []) (post := ((wS0 xa ad ha ta) ++ ((wT ta cI t (nI n)) ++ ((wHs ha hb cI cO G (nI o) (nI z)) ++ (wB ad cI g))))) (ws' := ((wS0 xa ad ha ta) ++ ((wT ta cI t (nI n)) ++ ((wHs ha hb cI cO G (nI o) (nI z)) ++ (wB ad cI g))))) rfl rfl ?_
    refine g_iload_n C dX3_rod_4 2 rfl ?_
    refine g_iconst C (v := 0) dX3_rod_5 ci_0 ?_
    refine g_bipush C (v := 7) dX3_rod_6 cb_7 ?_
    refine g_callSv C (c_X3_checkRange l D cI cO (nI 4) 0 7 (nI_pos (by decide)) (leI (b := 7) (by decide) (by decide))) gX3_rod_X3_checkRange rfl ⟨rfl, rfl⟩ hd_X3_checkRange ⟨Nat.le_of_ble_eq_true rfl, Nat.le_of_ble_eq_true rfl⟩ [0, 1] rfl (fun _ _ => trivial) rfl (rest := []) rfl (Nat.le_of_ble_eq_true rfl) dX3_rod_8 ⟨Nat.zero_le _, Nat.zero_le _⟩ (pre := []) (post := ((wS0 xa ad ha ta) ++ ((wT ta cI t (nI n)) ++ ((wHs ha hb cI cO G (nI o) (nI z)) ++ (wB ad cI g))))) (ws' := ((wS0 xa ad ha ta) ++ ((wT ta cI t (nI n)) ++ ((wHs ha hb cI cO G (nI o) (nI z)) ++ (wB ad cI g))))) rfl rfl ?_
    refine g_iload_n C dX3_rod_11 2 rfl ?_
    refine g_tableIn C (tgt := 98) dX3_rod_12 (by decide) (by decide) rfl (by decide) ?_
    refine g_aload_n C dX3_rod_98 0 rfl ?_
    refine g_get C (v := .ref (ad 0)) fl_X3_rod_X3 0 rfl rfl 0 (by decide) fw_X3_rod_fld12 rfl dX3_rod_99 ?_
    refine g_get C (v := .ref (ad 3)) fl_X3_rod_X0 47 rfl rfl 2 (by decide) fw_X3_rod_fld57 rfl dX3_rod_102 ?_
    refine g_iload_n C dX3_rod_105 1 rfl ?_
    refine g_iald C (x := g (6 * r + 4)) 50 0 rfl rfl r rfl hr (by decide) rfl dX3_rod_106 ?_
    exact g_iret C hret hlk dX3_rod_107 rfl rfl
  · refine g_iload_n C dX3_rod_0 1 rfl ?_
    refine g_callSv C (c_X3_checkRod l D cI cO r hr) gX3_rod_X3_checkRod rfl ⟨rfl, rfl⟩ hd_X3_checkRod ⟨Nat.le_of_ble_eq_true rfl, Nat.le_of_ble_eq_true rfl⟩ [0, 1] rfl (fun _ _ => trivial) rfl (rest := []) rfl (Nat.le_of_ble_eq_true rfl) dX3_rod_1 ⟨Nat.zero_le _, Nat.zero_le _⟩ (pre := []) (post := ((wS0 xa ad ha ta) ++ ((wT ta cI t (nI n)) ++ ((wHs ha hb cI cO G (nI o) (nI z)) ++ (wB ad cI g))))) (ws' := ((wS0 xa ad ha ta) ++ ((wT ta cI t (nI n)) ++ ((wHs ha hb cI cO G (nI o) (nI z)) ++ (wB ad cI g))))) rfl rfl ?_
    refine g_iload_n C dX3_rod_4 2 rfl ?_
    refine g_iconst C (v := 0) dX3_rod_5 ci_0 ?_
    refine g_bipush C (v := 7) dX3_rod_6 cb_7 ?_
    refine g_callSv C (c_X3_checkRange l D cI cO (nI 5) 0 7 (nI_pos (by decide)) (leI (b := 7) (by decide) (by decide))) gX3_rod_X3_checkRange rfl ⟨rfl, rfl⟩ hd_X3_checkRange ⟨Nat.le_of_ble_eq_true rfl, Nat.le_of_ble_eq_true rfl⟩ [0, 1] rfl (fun _ _ => trivial) rfl (rest := []) rfl (Nat.le_of_ble_eq_true rfl) dX3_rod_8 ⟨Nat.zero_le _, Nat.zero_le _⟩ (pre := []) (post := ((wS0 xa ad ha ta) ++ ((wT ta cI t (nI n)) ++ ((wHs ha hb cI cO G (nI o) (nI z)) ++ (wB ad cI g))))) (ws' := ((wS0 xa ad ha ta) ++ ((wT ta cI t (nI n)) ++ ((wHs ha hb cI cO G (nI o) (nI z)) ++ (wB ad cI g))))) rfl rfl ?_
    refine g_iload_n C dX3_rod_11 2 rfl ?_
    refine g_tableIn C (tgt := 108) dX3_rod_12 (by decide) (by decide) rfl (by decide) ?_
    refine g_aload_n C dX3_rod_108 0 rfl ?_
    refine g_get C (v := .ref (ad 0)) fl_X3_rod_X3 0 rfl rfl 0 (by decide) fw_X3_rod_fld12 rfl dX3_rod_109 ?_
    refine g_get C (v := .ref (ad 5)) fl_X3_rod_X0 47 rfl rfl 4 (by decide) fw_X3_rod_fld133 rfl dX3_rod_112 ?_
    refine g_iload_n C dX3_rod_115 1 rfl ?_
    refine g_iald C (x := g (6 * r + 5)) 52 0 rfl rfl r rfl hr (by decide) rfl dX3_rod_116 ?_
    exact g_iret C hret hlk dX3_rod_117 rfl rfl
  · refine g_iload_n C dX3_rod_0 1 rfl ?_
    refine g_callSv C (c_X3_checkRod l D cI cO r hr) gX3_rod_X3_checkRod rfl ⟨rfl, rfl⟩ hd_X3_checkRod ⟨Nat.le_of_ble_eq_true rfl, Nat.le_of_ble_eq_true rfl⟩ [0, 1] rfl (fun _ _ => trivial) rfl (rest := []) rfl (Nat.le_of_ble_eq_true rfl) dX3_rod_1 ⟨Nat.zero_le _, Nat.zero_le _⟩ (pre := []) (post := ((wS0 xa ad ha ta) ++ ((wT ta cI t (nI n)) ++ ((wHs ha hb cI cO G (nI o) (nI z)) ++ (wB ad cI g))))) (ws' := ((wS0 xa ad ha ta) ++ ((wT ta cI t (nI n)) ++ ((wHs ha hb cI cO G (nI o) (nI z)) ++ (wB ad cI g))))) rfl rfl ?_
    refine g_iload_n C dX3_rod_4 2 rfl ?_
    refine g_iconst C (v := 0) dX3_rod_5 ci_0 ?_
    refine g_bipush C (v := 7) dX3_rod_6 cb_7 ?_
    refine g_callSv C (c_X3_checkRange l D cI cO (nI 6) 0 7 (nI_pos (by decide)) (leI (b := 7) (by decide) (by decide))) gX3_rod_X3_checkRange rfl ⟨rfl, rfl⟩ hd_X3_checkRange ⟨Nat.le_of_ble_eq_true rfl, Nat.le_of_ble_eq_true rfl⟩ [0, 1] rfl (fun _ _ => trivial) rfl (rest := []) rfl (Nat.le_of_ble_eq_true rfl) dX3_rod_8 ⟨Nat.zero_le _, Nat.zero_le _⟩ (pre := []) (post := ((wS0 xa ad ha ta) ++ ((wT ta cI t (nI n)) ++ ((wHs ha hb cI cO G (nI o) (nI z)) ++ (wB ad cI g))))) (ws' := ((wS0 xa ad ha ta) ++ ((wT ta cI t (nI n)) ++ ((wHs ha hb cI cO G (nI o) (nI z)) ++ (wB ad cI g))))) rfl rfl ?_
    refine g_iload_n C dX3_rod_11 2 rfl ?_
    refine g_tableIn C (tgt := 118) dX3_rod_12 (by decide) (by decide) rfl (by decide) ?_
    refine g_aload_n C dX3_rod_118 0 rfl ?_
    refine g_get C (v := .ref (ad 0)) fl_X3_rod_X3 0 rfl rfl 0 (by decide) fw_X3_rod_fld12 rfl dX3_rod_119 ?_
    refine g_get C (v := .ref (ad 6)) fl_X3_rod_X0 47 rfl rfl 5 (by decide) fw_X3_rod_fld136 rfl dX3_rod_122 ?_
    refine g_iload_n C dX3_rod_125 1 rfl ?_
    refine g_iald C (x := g (6 * r + 6)) 53 0 rfl rfl r rfl hr (by decide) rfl dX3_rod_126 ?_
    exact g_iret C hret hlk dX3_rod_127 rfl rfl
  · refine g_iload_n C dX3_rod_0 1 rfl ?_
    refine g_callSv C (c_X3_checkRod l D cI cO r hr) gX3_rod_X3_checkRod rfl ⟨rfl, rfl⟩ hd_X3_checkRod ⟨Nat.le_of_ble_eq_true rfl, Nat.le_of_ble_eq_true rfl⟩ [0, 1] rfl (fun _ _ => trivial) rfl (rest := []) rfl (Nat.le_of_ble_eq_true rfl) dX3_rod_1 ⟨Nat.zero_le _, Nat.zero_le _⟩ (pre := []) (post := ((wS0 xa ad ha ta) ++ ((wT ta cI t (nI n)) ++ ((wHs ha hb cI cO G (nI o) (nI z)) ++ (wB ad cI g))))) (ws' := ((wS0 xa ad ha ta) ++ ((wT ta cI t (nI n)) ++ ((wHs ha hb cI cO G (nI o) (nI z)) ++ (wB ad cI g))))) rfl rfl ?_
    refine g_iload_n C dX3_rod_4 2 rfl ?_
    refine g_iconst C (v := 0) dX3_rod_5 ci_0 ?_
    refine g_bipush C (v := 7) dX3_rod_6 cb_7 ?_
    refine g_callSv C (c_X3_checkRange l D cI cO (nI 7) 0 7 (nI_pos (by decide)) (leI (b := 7) (by decide) (by decide))) gX3_rod_X3_checkRange rfl ⟨rfl, rfl⟩ hd_X3_checkRange ⟨Nat.le_of_ble_eq_true rfl, Nat.le_of_ble_eq_true rfl⟩ [0, 1] rfl (fun _ _ => trivial) rfl (rest := []) rfl (Nat.le_of_ble_eq_true rfl) dX3_rod_8 ⟨Nat.zero_le _, Nat.zero_le _⟩ (pre := []) (post := ((wS0 xa ad ha ta) ++ ((wT ta cI t (nI n)) ++ ((wHs ha hb cI cO G (nI o) (nI z)) ++ (wB ad cI g))))) (ws' := ((wS0 xa ad ha ta) ++ ((wT ta cI t (nI n)) ++ ((wHs ha hb cI cO G (nI o) (nI z)) ++ (wB ad cI g))))) rfl rfl ?_
    refine g_iload_n C dX3_rod_11 2 rfl ?_
    refine g_tableOut C (tgt := 128) dX3_rod_12 (by decide) (by decide) ?_
    refine g_aload_n C dX3_rod_128 0 rfl ?_
    refine g_get C (v := .ref (ad 0)) fl_X3_rod_X3 0 rfl rfl 0 (by decide) fw_X3_rod_fld12 rfl dX3_rod_129 ?_
    refine g_iload_n C dX3_rod_132 1 rfl ?_
    refine g_callVi C (c_X0_reach l D cI cO ad g r hr) gX3_rod_X0_reach rfl ⟨rfl, rfl⟩ hd_X0_reach ⟨Nat.le_of_ble_eq_true rfl, Nat.le_of_ble_eq_true rfl⟩ [0, 1] rfl (fun _ _ => trivial) rfl (rest := []) rfl (Nat.le_of_ble_eq_true rfl) dX3_rod_133 ⟨Nat.zero_le _, Nat.zero_le _⟩ 0 rfl rfl rfl (pre := ((wS0 xa ad ha ta) ++ ((wT ta cI t (nI n)) ++ (wHs ha hb cI cO G (nI o) (nI z))))) (post := []) (ws' := ((wS0 xa ad ha ta) ++ ((wT ta cI t (nI n)) ++ ((wHs ha hb cI cO G (nI o) (nI z)) ++ (wB ad cI g))))) rfl rfl ?_
    exact g_iret C hret hlk dX3_rod_136 rfl rfl
theorem Met_ofWF {l : Launch} {y : MethodName} {ws ws' : List Cond} {rm : Room} {Pc : Array Value → State → Prop} {Qc : Array Value → State → Outcome → State → Prop} {mc ms : Nat} {free : Addr → Prop} {cc : ByteArray} {maxL : Nat} {ret : Option FieldType}
    (hy : plainFor y = true) (hw : ws = Cond.code y cc maxL ret :: ws')
    (body : ∀ p e s m args below meth c s₁, BodyLoose p l y (headSpec ws rm) cc maxL ret e s m args below meth c s₁ → c.maxLocals = maxL → Pc args s →
      W p l e (headSpec ws rm).room s m args below meth c s.heap [] 0 0 (MQ below Qc args s mc ms free) (entryFrame m args maxL)) : Met l y ws rm Pc Qc mc ms free := by
  refine MetFree.of_bodySF (code := cc) (maxLocals := maxL) (ret := ret) hy ?_ ?_
  · intro args s m h hn
    obtain ⟨meth, c, h1, h2, h3, h4, h5, h6, -, -⟩ := Cond.code_spec hn (atoms_spec (ws := ws) h _ (by rw [hw]; exact List.mem_cons_self))
    exact ⟨meth, c, h1, h2, h3, h4, h5, h6⟩
  · intro p e s m args below meth c s₁ B hml hP _
    have hh0 : s₁.heap = s.heap := by rw [B.state]; rfl
    obtain ⟨t, a1, o, b1, b2, b3⟩ := body p e s m args below meth c s₁ B hml hP s₁ hh0 (Stand.of_body B)
    exact ⟨t, o, a1, b1, b2, ⟨b3.1, b3.2⟩⟩
theorem cR_ofF {F : Vm → Prop} {l : Launch} {y : MethodName} {wsY ws' : List Cond} {rm : Room} {D : va_G} {cl : List vw_C} {tys : List (ClassId × FieldType)} {av : List Value} {wc w1 : va_W} {v : Option Value} {cc : ByteArray} {maxL : Nat} {ret : Option FieldType} (hy : plainFor y = true) (hw : wsY = Cond.code y cc maxL ret :: ws') (hlen : (lg_sl av).length ≤ maxL)
    (body : ∀ (p : Program) (e : Env) (s : State) (m : MethodId) (below : List Frame) (meth : Method) (c : Code) (A : Nat → Prop), gC p s m av.toArray c cc y.cls wsY D cl tys A s.heap maxL → meth.sig.returnType = ret → meth.locks = false → meth.name = y.name → F s.vm →
      gG p l e rm s m av.toArray below meth c D cl A s.heap maxL (MQ below (cQ v (cB D cl tys A w1) A) av.toArray s 0 0 A) 0 0 wc 0 (lv_args 0 av) []) : cR F l y wsY rm D cl tys av wc v w1 := by
  intro sz
  refine Met_ofWF (cc := cc) (maxL := maxL) (ret := ret) hy hw ?_
  intro p e s m args below meth c s₁ B hml hv
  obtain ⟨rfl, hF, hsz, hP, hK, hD0⟩ := hv
  subst hsz
  have hD := hD0.self (sz := s.heap.size)
  generalize hAe : va_A wc s.heap.size = A at hD ⊢
  have hA : ∀ q : Nat, s.heap.size ≤ q → A q := fun q h => by rw [← hAe]; exact Or.inr h
  have hl := lv_entry av (n := maxL) hlen
  rw [lg_entry_eq]
  exact body p e s m below meth c A ⟨B.exec, B.bytes, hml, findClass_of_methodNamed B.named, atoms_spec (ws := wsY) B.pre, hK, hA⟩ B.returns B.notSynchronized (name_of_methodNamed B.named B.method).1 hF s.heap [] _ hP hD va_S.rf hl
abbrev rmJ9_floorMod_7cf53 : Room := { frames := 0, cells := 0, slots := 0, locals := 0 }
set_option maxHeartbeats 1000000 in
set_option maxRecDepth 100000 in
theorem c_J9_floorMod_7cf53 (l : Launch) (D : va_G) (cI cO : ClassId) (x y : Int32) (hy : ¬ y = 0) : cR (fun _ => True) l yJ9_floorMod_7cf53 wsJ9_floorMod_7cf53 rmJ9_floorMod_7cf53 D vwCl (tyA cI cO) [.int x, .int y] ([] : va_W) (some (.int (xFm x y))) ([] : va_W) := by
  refine cR_ofF (cc := cJ9_floorMod_7cf53) (maxL := 3) (ret := (some .int)) (by decide +kernel) rfl (Nat.le_of_ble_eq_true rfl) ?_
  intro p e s m below meth c A C hret hlk hnm hF
  refine g_lv [0, 1] (lv' := [(0, .int x), (1, .int y)]) rfl ?_
  refine g_iload_n C dJ9_floorMod_7cf53_0 0 rfl ?_
  refine g_iload_n C dJ9_floorMod_7cf53_1 1 rfl ?_
  refine g_irem C (v := x - x / y * y) dJ9_floorMod_7cf53_2 hy rfl ?_
  refine g_istore_n C (lv' := [(2, .int (x - x / y * y)), (0, .int x), (1, .int y)]) dJ9_floorMod_7cf53_3 rfl (by decide) rfl ?_
  refine g_iload_n C dJ9_floorMod_7cf53_4 1 rfl ?_
  refine g_iload_n C dJ9_floorMod_7cf53_5 2 rfl ?_
  refine g_ixor C (v := x ^^^ y) dJ9_floorMod_7cf53_6 rfl ?_
  refine g_if_ge C (tgt := 18) dJ9_floorMod_7cf53_7 (by decide) (fun h7_1 => ?_) (fun h7_1 => ?_)
  · refine g_iload_n C dJ9_floorMod_7cf53_18 0 rfl ?_
    exact g_iret C hret hlk dJ9_floorMod_7cf53_19 (by simp only [xFm, eq_true h7_1, Bool.false_eq_true, not_false_eq_true, not_true_eq_false, and_self, and_true, true_and, and_false, false_and, or_true, true_or, or_false, false_or, or_self, if_true, if_false, eq_self, ite_true, ite_false, reduceIte]) rfl
  · refine g_iload_n C dJ9_floorMod_7cf53_10 0 rfl ?_
    refine g_if_eq C (tgt := 18) dJ9_floorMod_7cf53_11 (by decide) (fun h11_2 => ?_) (fun h11_2 => ?_)
    · refine g_iload_n C dJ9_floorMod_7cf53_18 0 rfl ?_
      exact g_iret C hret hlk dJ9_floorMod_7cf53_19 (by simp only [xFm, h7_1, eq_true h11_2, Bool.false_eq_true, not_false_eq_true, not_true_eq_false, and_self, and_true, true_and, and_false, false_and, or_true, true_or, or_false, false_or, or_self, if_true, if_false, eq_self, ite_true, ite_false, reduceIte]) rfl
    · refine g_iload_n C dJ9_floorMod_7cf53_14 0 rfl ?_
      refine g_iload_n C dJ9_floorMod_7cf53_15 2 rfl ?_
      refine g_iadd C (v := (x - x / y * y) + y) dJ9_floorMod_7cf53_16 rfl ?_
      exact g_iret C hret hlk dJ9_floorMod_7cf53_17 (by simp only [xFm, h7_1, h11_2, Bool.false_eq_true, not_false_eq_true, not_true_eq_false, and_self, and_true, true_and, and_false, false_and, or_true, true_or, or_false, false_or, or_self, if_true, if_false, eq_self, ite_true, ite_false, reduceIte]) rfl
theorem fw_X3_count_fld12 : Cond.fieldLink RX3 12 "StuckRods" "board" "LStuckRods$Board;" ∈ wsX3_count := (List.mem_cons_of_mem _ (List.mem_append_left _ (List.mem_append_left _ (List.mem_append_left _ (List.mem_append_left _ (List.mem_append_left _ (List.mem_of_getElem? (i := 0) rfl)))))))
theorem fl_X3_count_X3 : ∀ w ∈ wsX30, w ∈ wsX3_count := fun _ h => List.mem_cons_of_mem _ (List.mem_append_left _ (List.mem_append_left _ (List.mem_append_left _ (List.mem_append_right _ h))))
theorem hd_X0_allMoved : yX0_allMoved.cls = RX0 ∧ yX0_allMoved.cls ≠ "java/lang/invoke/MethodHandle" ∧ yX0_allMoved.cls ≠ "java/lang/invoke/VarHandle" ∧ (parseMethodDescriptor yX0_allMoved.desc).map (fun d => d.parameters.length) = some 0 := by decide +kernel
theorem hd_X0_rodsWithLoan : yX0_rodsWithLoan.cls = RX0 ∧ yX0_rodsWithLoan.cls ≠ "java/lang/invoke/MethodHandle" ∧ yX0_rodsWithLoan.cls ≠ "java/lang/invoke/VarHandle" ∧ (parseMethodDescriptor yX0_rodsWithLoan.desc).map (fun d => d.parameters.length) = some 0 := by decide +kernel
theorem hd_X0_allLoans : yX0_allLoans.cls = RX0 ∧ yX0_allLoans.cls ≠ "java/lang/invoke/MethodHandle" ∧ yX0_allLoans.cls ≠ "java/lang/invoke/VarHandle" ∧ (parseMethodDescriptor yX0_allLoans.desc).map (fun d => d.parameters.length) = some 0 := by decide +kernel
theorem hd_X0_allShown : yX0_allShown.cls = RX0 ∧ yX0_allShown.cls ≠ "java/lang/invoke/MethodHandle" ∧ yX0_allShown.cls ≠ "java/lang/invoke/VarHandle" ∧ (parseMethodDescriptor yX0_allShown.desc).map (fun d => d.parameters.length) = some 0 := by decide +kernel
theorem hd_J9_floorMod_7cf53 : yJ9_floorMod_7cf53.cls ≠ "java/lang/invoke/MethodHandle" ∧ yJ9_floorMod_7cf53.cls ≠ "java/lang/invoke/VarHandle" ∧ (parseMethodDescriptor yJ9_floorMod_7cf53.desc).map (fun d => d.parameters.length) = some 2 := by decide +kernel
theorem hd_X0_rodsOutOfOrder : yX0_rodsOutOfOrder.cls = RX0 ∧ yX0_rodsOutOfOrder.cls ≠ "java/lang/invoke/MethodHandle" ∧ yX0_rodsOutOfOrder.cls ≠ "java/lang/invoke/VarHandle" ∧ (parseMethodDescriptor yX0_rodsOutOfOrder.desc).map (fun d => d.parameters.length) = some 0 := by decide +kernel
theorem hd_X0_rodsWithStuck : yX0_rodsWithStuck.cls = RX0 ∧ yX0_rodsWithStuck.cls ≠ "java/lang/invoke/MethodHandle" ∧ yX0_rodsWithStuck.cls ≠ "java/lang/invoke/VarHandle" ∧ (parseMethodDescriptor yX0_rodsWithStuck.desc).map (fun d => d.parameters.length) = some 0 := by decide +kernel
theorem fw_X3_count_fld61 : Cond.fieldLink RX3 61 "StuckRods$Board" "setting" "I" ∈ wsX3_count := (List.mem_cons_of_mem _ (List.mem_append_left _ (List.mem_append_left _ (List.mem_append_left _ (List.mem_append_left _ (List.mem_append_left _ (List.mem_of_getElem? (i := 1) rfl)))))))
theorem fl_X3_count_X0 : ∀ w ∈ wsX00, w ∈ wsX3_count := fun _ h => List.mem_cons_of_mem _ (List.mem_append_left _ (List.mem_append_left _ (List.mem_append_right _ h)))
theorem fw_X3_count_fld19 : Cond.fieldLink RX3 19 "StuckRods" "history" "LStuckRods$History;" ∈ wsX3_count := (List.mem_cons_of_mem _ (List.mem_append_left _ (List.mem_append_left _ (List.mem_append_left _ (List.mem_append_left _ (List.mem_append_left _ (List.mem_of_getElem? (i := 2) rfl)))))))
theorem fw_X3_count_fld116 : Cond.fieldLink RX3 116 "StuckRods$History" "size" "I" ∈ wsX3_count := (List.mem_cons_of_mem _ (List.mem_append_left _ (List.mem_append_left _ (List.mem_append_left _ (List.mem_append_left _ (List.mem_append_left _ (List.mem_of_getElem? (i := 3) rfl)))))))
theorem fl_X3_count_X1 : ∀ w ∈ wsX10, w ∈ wsX3_count := fun _ h => List.mem_cons_of_mem _ (List.mem_append_left _ (List.mem_append_right _ h))
abbrev rmX3_count : Room := { frames := 2, cells := 0, slots := 0, locals := 43 }
set_option maxHeartbeats 1000000 in
set_option maxRecDepth 100000 in
theorem c_X3_count (l : Launch) (D : va_G) (cI cO : ClassId) (xa : Nat) (ta ha : Nat → Nat) (hb : Nat → Nat → Nat) (ad : Nat → Nat) (t : Nat → Int32) (n : Nat) (G : Nat → Nat → Int32) (g : Nat → Int32) (o z : Nat) (hn : n ≤ 60) (ho : o < 6) (hz : z ≤ 6) (w : Nat) (hw : w ≤ 7) : cR (fun _ => True) l yX3_count wsX3_count rmX3_count D vwCl (tyA cI cO) [.ref xa, .int (nI w)] ((wS0 xa ad ha ta) ++ ((wT ta cI t (nI n)) ++ ((wHs ha hb cI cO G (nI o) (nI z)) ++ (wB ad cI g)))) (some (.int (xCn g z w))) ((wS0 xa ad ha ta) ++ ((wT ta cI t (nI n)) ++ ((wHs ha hb cI cO G (nI o) (nI z)) ++ (wB ad cI g)))) := by
  refine cR_of (cc := cX3_count) (maxL := 2) (ret := (some .int)) (by decide) rfl (Nat.le_of_ble_eq_true rfl) ?_
  intro p e s m below meth c A C hret hlk hnm hF
  refine g_lv [0, 1] (lv' := [(0, .ref xa), (1, .int (nI w))]) rfl ?_
  rcases (show w = 0 ∨ w = 1 ∨ w = 2 ∨ w = 3 ∨ w = 4 ∨ w = 5 ∨ w = 6 ∨ w = 7 by omega) with e | e | e | e | e | e | e | e <;> subst e
  · refine g_iload_n C dX3_count_0 1 rfl ?_
    refine g_iconst C (v := 0) dX3_count_1 ci_0 ?_
    refine g_bipush C (v := 7) dX3_count_2 cb_7 ?_
    refine g_callSv C (c_X3_checkRange l D cI cO (nI 0) 0 7 (nI_pos (by decide)) (leI (b := 7) (by decide) (by decide))) gX3_count_X3_checkRange rfl ⟨rfl, rfl⟩ hd_X3_checkRange ⟨Nat.le_of_ble_eq_true rfl, Nat.le_of_ble_eq_true rfl⟩ [0, 1] rfl (fun _ _ => trivial) rfl (rest := []) rfl (Nat.le_of_ble_eq_true rfl) dX3_count_4 ⟨Nat.zero_le _, Nat.zero_le _⟩ (pre := []) (post := ((wS0 xa ad ha ta) ++ ((wT ta cI t (nI n)) ++ ((wHs ha hb cI cO G (nI o) (nI z)) ++ (wB ad cI g))))) (ws' := ((wS0 xa ad ha ta) ++ ((wT ta cI t (nI n)) ++ ((wHs ha hb cI cO G (nI o) (nI z)) ++ (wB ad cI g))))) rfl rfl ?_
    refine g_iload_n C dX3_count_7 1 rfl ?_
    refine g_tableIn C (tgt := 52) dX3_count_8 (by decide) (by decide) rfl (by decide) ?_
    refine g_aload_n C dX3_count_52 0 rfl ?_
    refine g_get C (v := .ref (ad 0)) fl_X3_count_X3 0 rfl rfl 0 (by decide) fw_X3_count_fld12 rfl dX3_count_53 ?_
    refine g_callVi C (c_X0_allMoved l D cI cO ad g) gX3_count_X0_allMoved rfl ⟨rfl, rfl⟩ hd_X0_allMoved ⟨Nat.le_of_ble_eq_true rfl, Nat.le_of_ble_eq_true rfl⟩ [0, 1] rfl (fun _ _ => trivial) rfl (rest := []) rfl (Nat.le_of_ble_eq_true rfl) dX3_count_56 ⟨Nat.zero_le _, Nat.zero_le _⟩ 0 rfl rfl rfl (pre := ((wS0 xa ad ha ta) ++ ((wT ta cI t (nI n)) ++ (wHs ha hb cI cO G (nI o) (nI z))))) (post := []) (ws' := ((wS0 xa ad ha ta) ++ ((wT ta cI t (nI n)) ++ ((wHs ha hb cI cO G (nI o) (nI z)) ++ (wB ad cI g))))) rfl rfl ?_
    exact g_iret C hret hlk dX3_count_59 rfl rfl
  · refine g_iload_n C dX3_count_0 1 rfl ?_
    refine g_iconst C (v := 0) dX3_count_1 ci_0 ?_
    refine g_bipush C (v := 7) dX3_count_2 cb_7 ?_
    refine g_callSv C (c_X3_checkRange l D cI cO (nI 1) 0 7 (nI_pos (by decide)) (leI (b := 7) (by decide) (by decide))) gX3_count_X3_checkRange rfl ⟨rfl, rfl⟩ hd_X3_checkRange ⟨Nat.le_of_ble_eq_true rfl, Nat.le_of_ble_eq_true rfl⟩ [0, 1] rfl (fun _ _ => trivial) rfl (rest := []) rfl (Nat.le_of_ble_eq_true rfl) dX3_count_4 ⟨Nat.zero_le _, Nat.zero_le _⟩ (pre := []) (post := ((wS0 xa ad ha ta) ++ ((wT ta cI t (nI n)) ++ ((wHs ha hb cI cO G (nI o) (nI z)) ++ (wB ad cI g))))) (ws' := ((wS0 xa ad ha ta) ++ ((wT ta cI t (nI n)) ++ ((wHs ha hb cI cO G (nI o) (nI z)) ++ (wB ad cI g))))) rfl rfl ?_
    refine g_iload_n C dX3_count_7 1 rfl ?_
    refine g_tableIn C (tgt := 60) dX3_count_8 (by decide) (by decide) rfl (by decide) ?_
    refine g_aload_n C dX3_count_60 0 rfl ?_
    refine g_get C (v := .ref (ad 0)) fl_X3_count_X3 0 rfl rfl 0 (by decide) fw_X3_count_fld12 rfl dX3_count_61 ?_
    refine g_callVi C (c_X0_rodsWithLoan l D cI cO ad g) gX3_count_X0_rodsWithLoan rfl ⟨rfl, rfl⟩ hd_X0_rodsWithLoan ⟨Nat.le_of_ble_eq_true rfl, Nat.le_of_ble_eq_true rfl⟩ [0, 1] rfl (fun _ _ => trivial) rfl (rest := []) rfl (Nat.le_of_ble_eq_true rfl) dX3_count_64 ⟨Nat.zero_le _, Nat.zero_le _⟩ 0 rfl rfl rfl (pre := ((wS0 xa ad ha ta) ++ ((wT ta cI t (nI n)) ++ (wHs ha hb cI cO G (nI o) (nI z))))) (post := []) (ws' := ((wS0 xa ad ha ta) ++ ((wT ta cI t (nI n)) ++ ((wHs ha hb cI cO G (nI o) (nI z)) ++ (wB ad cI g))))) rfl rfl ?_
    exact g_iret C hret hlk dX3_count_67 rfl rfl
  · refine g_iload_n C dX3_count_0 1 rfl ?_
    refine g_iconst C (v := 0) dX3_count_1 ci_0 ?_
    refine g_bipush C (v := 7) dX3_count_2 cb_7 ?_
    refine g_callSv C (c_X3_checkRange l D cI cO (nI 2) 0 7 (nI_pos (by decide)) (leI (b := 7) (by decide) (by decide))) gX3_count_X3_checkRange rfl ⟨rfl, rfl⟩ hd_X3_checkRange ⟨Nat.le_of_ble_eq_true rfl, Nat.le_of_ble_eq_true rfl⟩ [0, 1] rfl (fun _ _ => trivial) rfl (rest := []) rfl (Nat.le_of_ble_eq_true rfl) dX3_count_4 ⟨Nat.zero_le _, Nat.zero_le _⟩ (pre := []) (post := ((wS0 xa ad ha ta) ++ ((wT ta cI t (nI n)) ++ ((wHs ha hb cI cO G (nI o) (nI z)) ++ (wB ad cI g))))) (ws' := ((wS0 xa ad ha ta) ++ ((wT ta cI t (nI n)) ++ ((wHs ha hb cI cO G (nI o) (nI z)) ++ (wB ad cI g))))) rfl rfl ?_
    refine g_iload_n C dX3_count_7 1 rfl ?_
    refine g_tableIn C (tgt := 68) dX3_count_8 (by decide) (by decide) rfl (by decide) ?_
    refine g_aload_n C dX3_count_68 0 rfl ?_
    refine g_get C (v := .ref (ad 0)) fl_X3_count_X3 0 rfl rfl 0 (by decide) fw_X3_count_fld12 rfl dX3_count_69 ?_
    refine g_callVi C (c_X0_allLoans l D cI cO ad g) gX3_count_X0_allLoans rfl ⟨rfl, rfl⟩ hd_X0_allLoans ⟨Nat.le_of_ble_eq_true rfl, Nat.le_of_ble_eq_true rfl⟩ [0, 1] rfl (fun _ _ => trivial) rfl (rest := []) rfl (Nat.le_of_ble_eq_true rfl) dX3_count_72 ⟨Nat.zero_le _, Nat.zero_le _⟩ 0 rfl rfl rfl (pre := ((wS0 xa ad ha ta) ++ ((wT ta cI t (nI n)) ++ (wHs ha hb cI cO G (nI o) (nI z))))) (post := []) (ws' := ((wS0 xa ad ha ta) ++ ((wT ta cI t (nI n)) ++ ((wHs ha hb cI cO G (nI o) (nI z)) ++ (wB ad cI g))))) rfl rfl ?_
    refine g_bipush C (v := 100) dX3_count_75 cb_100 ?_
    refine g_iadd C (v := (xSu (fun j => g (6 * j + 3)) 9) + 100) dX3_count_77 rfl ?_
    exact g_iret C hret hlk dX3_count_78 rfl rfl
  · refine g_iload_n C dX3_count_0 1 rfl ?_
    refine g_iconst C (v := 0) dX3_count_1 ci_0 ?_
    refine g_bipush C (v := 7) dX3_count_2 cb_7 ?_
    refine g_callSv C (c_X3_checkRange l D cI cO (nI 3) 0 7 (nI_pos (by decide)) (leI (b := 7) (by decide) (by decide))) gX3_count_X3_checkRange rfl ⟨rfl, rfl⟩ hd_X3_checkRange ⟨Nat.le_of_ble_eq_true rfl, Nat.le_of_ble_eq_true rfl⟩ [0, 1] rfl (fun _ _ => trivial) rfl (rest := []) rfl (Nat.le_of_ble_eq_true rfl) dX3_count_4 ⟨Nat.zero_le _, Nat.zero_le _⟩ (pre := []) (post := ((wS0 xa ad ha ta) ++ ((wT ta cI t (nI n)) ++ ((wHs ha hb cI cO G (nI o) (nI z)) ++ (wB ad cI g))))) (ws' := ((wS0 xa ad ha ta) ++ ((wT ta cI t (nI n)) ++ ((wHs ha hb cI cO G (nI o) (nI z)) ++ (wB ad cI g))))) rfl rfl ?_
    refine g_iload_n C dX3_count_7 1 rfl ?_
    refine g_tableIn C (tgt := 79) dX3_count_8 (by decide) (by decide) rfl (by decide) ?_
    refine g_aload_n C dX3_count_79 0 rfl ?_
    refine g_get C (v := .ref (ad 0)) fl_X3_count_X3 0 rfl rfl 0 (by decide) fw_X3_count_fld12 rfl dX3_count_80 ?_
    refine g_callVi C (c_X0_allShown l D cI cO ad g) gX3_count_X0_allShown rfl ⟨rfl, rfl⟩ hd_X0_allShown ⟨Nat.le_of_ble_eq_true rfl, Nat.le_of_ble_eq_true rfl⟩ [0, 1] rfl (fun _ _ => trivial) rfl (rest := []) rfl (Nat.le_of_ble_eq_true rfl) dX3_count_83 ⟨Nat.zero_le _, Nat.zero_le _⟩ 0 rfl rfl rfl (pre := ((wS0 xa ad ha ta) ++ ((wT ta cI t (nI n)) ++ (wHs ha hb cI cO G (nI o) (nI z))))) (post := []) (ws' := ((wS0 xa ad ha ta) ++ ((wT ta cI t (nI n)) ++ ((wHs ha hb cI cO G (nI o) (nI z)) ++ (wB ad cI g))))) rfl rfl ?_
    refine g_aload_n C dX3_count_86 0 rfl ?_
    refine g_get C (v := .ref (ad 0)) fl_X3_count_X3 0 rfl rfl 0 (by decide) fw_X3_count_fld12 rfl dX3_count_87 ?_
    refine g_callVi C (c_X0_allLoans l D cI cO ad g) gX3_count_X0_allLoans rfl ⟨rfl, rfl⟩ hd_X0_allLoans ⟨Nat.le_of_ble_eq_true rfl, Nat.le_of_ble_eq_true rfl⟩ [0, 1] rfl (fun _ _ => trivial) rfl (rest := [.int (xSu (fun j => xSh g j) 9)]) rfl (Nat.le_of_ble_eq_true rfl) dX3_count_90 ⟨Nat.zero_le _, Nat.zero_le _⟩ 0 rfl rfl rfl (pre := ((wS0 xa ad ha ta) ++ ((wT ta cI t (nI n)) ++ (wHs ha hb cI cO G (nI o) (nI z))))) (post := []) (ws' := ((wS0 xa ad ha ta) ++ ((wT ta cI t (nI n)) ++ ((wHs ha hb cI cO G (nI o) (nI z)) ++ (wB ad cI g))))) rfl rfl ?_
    refine g_iadd C (v := (xSu (fun j => xSh g j) 9) + (xSu (fun j => g (6 * j + 3)) 9)) dX3_count_93 rfl ?_
    refine g_bipush C (v := 9) dX3_count_94 cb_9 ?_
    refine g_callSi C (c_J9_floorMod_7cf53 l D cI cO ((xSu (fun j => xSh g j) 9) + (xSu (fun j => g (6 * j + 3)) 9)) 9 (by decide)) gX3_count_J9_floorMod_7cf53 rfl ⟨rfl, rfl⟩ hd_J9_floorMod_7cf53 ⟨Nat.le_of_ble_eq_true rfl, Nat.le_of_ble_eq_true rfl⟩ [0, 1] rfl (fun _ _ => trivial) rfl (rest := []) rfl (Nat.le_of_ble_eq_true rfl) dX3_count_96 ⟨Nat.zero_le _, Nat.zero_le _⟩ (pre := []) (post := ((wS0 xa ad ha ta) ++ ((wT ta cI t (nI n)) ++ ((wHs ha hb cI cO G (nI o) (nI z)) ++ (wB ad cI g))))) (ws' := ((wS0 xa ad ha ta) ++ ((wT ta cI t (nI n)) ++ ((wHs ha hb cI cO G (nI o) (nI z)) ++ (wB ad cI g))))) rfl rfl ?_
    exact g_iret C hret hlk dX3_count_99 rfl rfl
  · refine g_iload_n C dX3_count_0 1 rfl ?_
    refine g_iconst C (v := 0) dX3_count_1 ci_0 ?_
    refine g_bipush C (v := 7) dX3_count_2 cb_7 ?_
    refine g_callSv C (c_X3_checkRange l D cI cO (nI 4) 0 7 (nI_pos (by decide)) (leI (b := 7) (by decide) (by decide))) gX3_count_X3_checkRange rfl ⟨rfl, rfl⟩ hd_X3_checkRange ⟨Nat.le_of_ble_eq_true rfl, Nat.le_of_ble_eq_true rfl⟩ [0, 1] rfl (fun _ _ => trivial) rfl (rest := []) rfl (Nat.le_of_ble_eq_true rfl) dX3_count_4 ⟨Nat.zero_le _, Nat.zero_le _⟩ (pre := []) (post := ((wS0 xa ad ha ta) ++ ((wT ta cI t (nI n)) ++ ((wHs ha hb cI cO G (nI o) (nI z)) ++ (wB ad cI g))))) (ws' := ((wS0 xa ad ha ta) ++ ((wT ta cI t (nI n)) ++ ((wHs ha hb cI cO G (nI o) (nI z)) ++ (wB ad cI g))))) rfl rfl ?_
    refine g_iload_n C dX3_count_7 1 rfl ?_
    refine g_tableIn C (tgt := 100) dX3_count_8 (by decide) (by decide) rfl (by decide) ?_
    refine g_aload_n C dX3_count_100 0 rfl ?_
    refine g_get C (v := .ref (ad 0)) fl_X3_count_X3 0 rfl rfl 0 (by decide) fw_X3_count_fld12 rfl dX3_count_101 ?_
    refine g_callVi C (c_X0_rodsOutOfOrder l D cI cO ad g) gX3_count_X0_rodsOutOfOrder rfl ⟨rfl, rfl⟩ hd_X0_rodsOutOfOrder ⟨Nat.le_of_ble_eq_true rfl, Nat.le_of_ble_eq_true rfl⟩ [0, 1] rfl (fun _ _ => trivial) rfl (rest := []) rfl (Nat.le_of_ble_eq_true rfl) dX3_count_104 ⟨Nat.zero_le _, Nat.zero_le _⟩ 0 rfl rfl rfl (pre := ((wS0 xa ad ha ta) ++ ((wT ta cI t (nI n)) ++ (wHs ha hb cI cO G (nI o) (nI z))))) (post := []) (ws' := ((wS0 xa ad ha ta) ++ ((wT ta cI t (nI n)) ++ ((wHs ha hb cI cO G (nI o) (nI z)) ++ (wB ad cI g))))) rfl rfl ?_
    exact g_iret C hret hlk dX3_count_107 rfl rfl
  · refine g_iload_n C dX3_count_0 1 rfl ?_
    refine g_iconst C (v := 0) dX3_count_1 ci_0 ?_
    refine g_bipush C (v := 7) dX3_count_2 cb_7 ?_
    refine g_callSv C (c_X3_checkRange l D cI cO (nI 5) 0 7 (nI_pos (by decide)) (leI (b := 7) (by decide) (by decide))) gX3_count_X3_checkRange rfl ⟨rfl, rfl⟩ hd_X3_checkRange ⟨Nat.le_of_ble_eq_true rfl, Nat.le_of_ble_eq_true rfl⟩ [0, 1] rfl (fun _ _ => trivial) rfl (rest := []) rfl (Nat.le_of_ble_eq_true rfl) dX3_count_4 ⟨Nat.zero_le _, Nat.zero_le _⟩ (pre := []) (post := ((wS0 xa ad ha ta) ++ ((wT ta cI t (nI n)) ++ ((wHs ha hb cI cO G (nI o) (nI z)) ++ (wB ad cI g))))) (ws' := ((wS0 xa ad ha ta) ++ ((wT ta cI t (nI n)) ++ ((wHs ha hb cI cO G (nI o) (nI z)) ++ (wB ad cI g))))) rfl rfl ?_
    refine g_iload_n C dX3_count_7 1 rfl ?_
    refine g_tableIn C (tgt := 108) dX3_count_8 (by decide) (by decide) rfl (by decide) ?_
    refine g_aload_n C dX3_count_108 0 rfl ?_
    refine g_get C (v := .ref (ad 0)) fl_X3_count_X3 0 rfl rfl 0 (by decide) fw_X3_count_fld12 rfl dX3_count_109 ?_
    refine g_callVi C (c_X0_rodsWithStuck l D cI cO ad g) gX3_count_X0_rodsWithStuck rfl ⟨rfl, rfl⟩ hd_X0_rodsWithStuck ⟨Nat.le_of_ble_eq_true rfl, Nat.le_of_ble_eq_true rfl⟩ [0, 1] rfl (fun _ _ => trivial) rfl (rest := []) rfl (Nat.le_of_ble_eq_true rfl) dX3_count_112 ⟨Nat.zero_le _, Nat.zero_le _⟩ 0 rfl rfl rfl (pre := ((wS0 xa ad ha ta) ++ ((wT ta cI t (nI n)) ++ (wHs ha hb cI cO G (nI o) (nI z))))) (post := []) (ws' := ((wS0 xa ad ha ta) ++ ((wT ta cI t (nI n)) ++ ((wHs ha hb cI cO G (nI o) (nI z)) ++ (wB ad cI g))))) rfl rfl ?_
    exact g_iret C hret hlk dX3_count_115 rfl rfl
  · refine g_iload_n C dX3_count_0 1 rfl ?_
    refine g_iconst C (v := 0) dX3_count_1 ci_0 ?_
    refine g_bipush C (v := 7) dX3_count_2 cb_7 ?_
    refine g_callSv C (c_X3_checkRange l D cI cO (nI 6) 0 7 (nI_pos (by decide)) (leI (b := 7) (by decide) (by decide))) gX3_count_X3_checkRange rfl ⟨rfl, rfl⟩ hd_X3_checkRange ⟨Nat.le_of_ble_eq_true rfl, Nat.le_of_ble_eq_true rfl⟩ [0, 1] rfl (fun _ _ => trivial) rfl (rest := []) rfl (Nat.le_of_ble_eq_true rfl) dX3_count_4 ⟨Nat.zero_le _, Nat.zero_le _⟩ (pre := []) (post := ((wS0 xa ad ha ta) ++ ((wT ta cI t (nI n)) ++ ((wHs ha hb cI cO G (nI o) (nI z)) ++ (wB ad cI g))))) (ws' := ((wS0 xa ad ha ta) ++ ((wT ta cI t (nI n)) ++ ((wHs ha hb cI cO G (nI o) (nI z)) ++ (wB ad cI g))))) rfl rfl ?_
    refine g_iload_n C dX3_count_7 1 rfl ?_
    refine g_tableIn C (tgt := 116) dX3_count_8 (by decide) (by decide) rfl (by decide) ?_
    refine g_aload_n C dX3_count_116 0 rfl ?_
    refine g_get C (v := .ref (ad 0)) fl_X3_count_X3 0 rfl rfl 0 (by decide) fw_X3_count_fld12 rfl dX3_count_117 ?_
    refine g_get C (v := .int (g 0)) fl_X3_count_X0 47 rfl rfl 6 (by decide) fw_X3_count_fld61 rfl dX3_count_120 ?_
    exact g_iret C hret hlk dX3_count_123 rfl rfl
  · refine g_iload_n C dX3_count_0 1 rfl ?_
    refine g_iconst C (v := 0) dX3_count_1 ci_0 ?_
    refine g_bipush C (v := 7) dX3_count_2 cb_7 ?_
    refine g_callSv C (c_X3_checkRange l D cI cO (nI 7) 0 7 (nI_pos (by decide)) (leI (b := 7) (by decide) (by decide))) gX3_count_X3_checkRange rfl ⟨rfl, rfl⟩ hd_X3_checkRange ⟨Nat.le_of_ble_eq_true rfl, Nat.le_of_ble_eq_true rfl⟩ [0, 1] rfl (fun _ _ => trivial) rfl (rest := []) rfl (Nat.le_of_ble_eq_true rfl) dX3_count_4 ⟨Nat.zero_le _, Nat.zero_le _⟩ (pre := []) (post := ((wS0 xa ad ha ta) ++ ((wT ta cI t (nI n)) ++ ((wHs ha hb cI cO G (nI o) (nI z)) ++ (wB ad cI g))))) (ws' := ((wS0 xa ad ha ta) ++ ((wT ta cI t (nI n)) ++ ((wHs ha hb cI cO G (nI o) (nI z)) ++ (wB ad cI g))))) rfl rfl ?_
    refine g_iload_n C dX3_count_7 1 rfl ?_
    refine g_tableOut C (tgt := 124) dX3_count_8 (by decide) (by decide) ?_
    refine g_aload_n C dX3_count_124 0 rfl ?_
    refine g_get C (v := .ref (ha 0)) fl_X3_count_X3 0 rfl rfl 1 (by decide) fw_X3_count_fld19 rfl dX3_count_125 ?_
    refine g_get C (v := .int (nI z)) fl_X3_count_X1 3 rfl rfl 2 (by decide) fw_X3_count_fld116 rfl dX3_count_128 ?_
    exact g_iret C hret hlk dX3_count_131 rfl rfl
theorem fw_X3_moves_fld12 : Cond.fieldLink RX3 12 "StuckRods" "board" "LStuckRods$Board;" ∈ wsX3_moves := (List.mem_cons_of_mem _ (List.mem_append_left _ (List.mem_append_left _ (List.mem_append_left _ (List.mem_append_left _ (List.mem_append_left _ (List.mem_of_getElem? (i := 0) rfl)))))))
theorem fl_X3_moves_X3 : ∀ w ∈ wsX30, w ∈ wsX3_moves := fun _ h => List.mem_cons_of_mem _ (List.mem_append_left _ (List.mem_append_left _ (List.mem_append_left _ (List.mem_append_right _ h))))
abbrev rmX3_moves : Room := { frames := 3, cells := 0, slots := 0, locals := 73 }
set_option maxHeartbeats 1000000 in
set_option maxRecDepth 100000 in
theorem c_X3_moves (l : Launch) (D : va_G) (cI cO : ClassId) (xa : Nat) (ta ha : Nat → Nat) (hb : Nat → Nat → Nat) (ad : Nat → Nat) (t : Nat → Int32) (n : Nat) (G : Nat → Nat → Int32) (g : Nat → Int32) (o z : Nat) (hn : n ≤ 60) (ho : o < 6) (hz : z ≤ 6) (r : Nat) (hr : r < 9) (v : Int32) (h1 : ¬ v < 0) (h2 : v ≤ 15) : cR (fun _ => True) l yX3_moves wsX3_moves rmX3_moves D vwCl (tyA cI cO) [.ref xa, .int (nI r), .int v] ((wS0 xa ad ha ta) ++ ((wT ta cI t (nI n)) ++ ((wHs ha hb cI cO G (nI o) (nI z)) ++ (wB ad cI g)))) (some (.int (xTv g r v))) ((wS0 xa ad ha ta) ++ ((wT ta cI t (nI n)) ++ ((wHs ha hb cI cO G (nI o) (nI z)) ++ (wB ad cI g)))) := by
  refine cR_of (cc := cX3_moves) (maxL := 3) (ret := (some .int)) (by decide) rfl (Nat.le_of_ble_eq_true rfl) ?_
  intro p e s m below meth c A C hret hlk hnm hF
  refine g_lv [0, 1, 2] (lv' := [(0, .ref xa), (1, .int (nI r)), (2, .int v)]) rfl ?_
  refine g_iload_n C dX3_moves_0 1 rfl ?_
  refine g_callSv C (c_X3_checkRod l D cI cO r hr) gX3_moves_X3_checkRod rfl ⟨rfl, rfl⟩ hd_X3_checkRod ⟨Nat.le_of_ble_eq_true rfl, Nat.le_of_ble_eq_true rfl⟩ [0, 1] rfl (fun _ _ => trivial) rfl (rest := []) rfl (Nat.le_of_ble_eq_true rfl) dX3_moves_1 ⟨Nat.zero_le _, Nat.zero_le _⟩ (pre := []) (post := ((wS0 xa ad ha ta) ++ ((wT ta cI t (nI n)) ++ ((wHs ha hb cI cO G (nI o) (nI z)) ++ (wB ad cI g))))) (ws' := ((wS0 xa ad ha ta) ++ ((wT ta cI t (nI n)) ++ ((wHs ha hb cI cO G (nI o) (nI z)) ++ (wB ad cI g))))) rfl rfl ?_
  refine g_iload_n C dX3_moves_4 2 rfl ?_
  refine g_iconst C (v := 0) dX3_moves_5 ci_0 ?_
  refine g_bipush C (v := 15) dX3_moves_6 cb_15 ?_
  refine g_callSv C (c_X3_checkRange l D cI cO v 0 15 h1 h2) gX3_moves_X3_checkRange rfl ⟨rfl, rfl⟩ hd_X3_checkRange ⟨Nat.le_of_ble_eq_true rfl, Nat.le_of_ble_eq_true rfl⟩ [0, 1] rfl (fun _ _ => trivial) rfl (rest := []) rfl (Nat.le_of_ble_eq_true rfl) dX3_moves_8 ⟨Nat.zero_le _, Nat.zero_le _⟩ (pre := []) (post := ((wS0 xa ad ha ta) ++ ((wT ta cI t (nI n)) ++ ((wHs ha hb cI cO G (nI o) (nI z)) ++ (wB ad cI g))))) (ws' := ((wS0 xa ad ha ta) ++ ((wT ta cI t (nI n)) ++ ((wHs ha hb cI cO G (nI o) (nI z)) ++ (wB ad cI g))))) rfl rfl ?_
  refine g_aload_n C dX3_moves_11 0 rfl ?_
  refine g_get C (v := .ref (ad 0)) fl_X3_moves_X3 0 rfl rfl 0 (by decide) fw_X3_moves_fld12 rfl dX3_moves_12 ?_
  refine g_iload_n C dX3_moves_15 1 rfl ?_
  refine g_iload_n C dX3_moves_16 2 rfl ?_
  refine g_iconst C (v := 0) dX3_moves_17 ci_0 ?_
  refine g_callVi C (c0_X0_turn l D cI cO ad g r hr v) gX3_moves_X0_turn rfl ⟨rfl, rfl⟩ hd_X0_turn ⟨Nat.le_of_ble_eq_true rfl, Nat.le_of_ble_eq_true rfl⟩ [0, 1] rfl (fun _ _ => trivial) rfl (rest := []) rfl (Nat.le_of_ble_eq_true rfl) dX3_moves_18 ⟨Nat.zero_le _, Nat.zero_le _⟩ 0 rfl rfl rfl (pre := ((wS0 xa ad ha ta) ++ ((wT ta cI t (nI n)) ++ (wHs ha hb cI cO G (nI o) (nI z))))) (post := []) (ws' := ((wS0 xa ad ha ta) ++ ((wT ta cI t (nI n)) ++ ((wHs ha hb cI cO G (nI o) (nI z)) ++ (wB ad cI g))))) rfl rfl ?_
  exact g_iret C hret hlk dX3_moves_21 rfl rfl
theorem fw_X3_ifAdded_fld12 : Cond.fieldLink RX3 12 "StuckRods" "board" "LStuckRods$Board;" ∈ wsX3_ifAdded := (List.mem_cons_of_mem _ (List.mem_append_left _ (List.mem_append_left _ (List.mem_append_left _ (List.mem_append_left _ (List.mem_append_left _ (List.mem_of_getElem? (i := 0) rfl)))))))
theorem fl_X3_ifAdded_X3 : ∀ w ∈ wsX30, w ∈ wsX3_ifAdded := fun _ h => List.mem_cons_of_mem _ (List.mem_append_left _ (List.mem_append_left _ (List.mem_append_left _ (List.mem_append_right _ h))))
abbrev rmX3_ifAdded : Room := { frames := 5, cells := 0, slots := 0, locals := 125 }
set_option maxHeartbeats 1000000 in
set_option maxRecDepth 100000 in
theorem c_X3_ifAdded (l : Launch) (D : va_G) (cI cO : ClassId) (xa : Nat) (ta ha : Nat → Nat) (hb : Nat → Nat → Nat) (ad : Nat → Nat) (t : Nat → Int32) (n : Nat) (G : Nat → Nat → Int32) (g : Nat → Int32) (o z : Nat) (hn : n ≤ 60) (ho : o < 6) (hz : z ≤ 6) (r : Nat) (hr : r < 9) (v : Int32) (h1 : ¬ v < -9) (h2 : v ≤ 9) : cR (fun _ => True) l yX3_ifAdded wsX3_ifAdded rmX3_ifAdded D vwCl (tyA cI cO) [.ref xa, .int (nI r), .int v] ((wS0 xa ad ha ta) ++ ((wT ta cI t (nI n)) ++ ((wHs ha hb cI cO G (nI o) (nI z)) ++ (wB ad cI g)))) (some (.int ((xCh g r v 0).1))) ((wS0 xa ad ha ta) ++ ((wT ta cI t (nI n)) ++ ((wHs ha hb cI cO G (nI o) (nI z)) ++ (wB ad cI g)))) := by
  refine cR_of (cc := cX3_ifAdded) (maxL := 3) (ret := (some .int)) (by decide) rfl (Nat.le_of_ble_eq_true rfl) ?_
  intro p e s m below meth c A C hret hlk hnm hF
  refine g_lv [0, 1, 2] (lv' := [(0, .ref xa), (1, .int (nI r)), (2, .int v)]) rfl ?_
  refine g_iload_n C dX3_ifAdded_0 1 rfl ?_
  refine g_callSv C (c_X3_checkRod l D cI cO r hr) gX3_ifAdded_X3_checkRod rfl ⟨rfl, rfl⟩ hd_X3_checkRod ⟨Nat.le_of_ble_eq_true rfl, Nat.le_of_ble_eq_true rfl⟩ [0, 1] rfl (fun _ _ => trivial) rfl (rest := []) rfl (Nat.le_of_ble_eq_true rfl) dX3_ifAdded_1 ⟨Nat.zero_le _, Nat.zero_le _⟩ (pre := []) (post := ((wS0 xa ad ha ta) ++ ((wT ta cI t (nI n)) ++ ((wHs ha hb cI cO G (nI o) (nI z)) ++ (wB ad cI g))))) (ws' := ((wS0 xa ad ha ta) ++ ((wT ta cI t (nI n)) ++ ((wHs ha hb cI cO G (nI o) (nI z)) ++ (wB ad cI g))))) rfl rfl ?_
  refine g_iload_n C dX3_ifAdded_4 2 rfl ?_
  refine g_bipush C (v := -9) dX3_ifAdded_5 cb_m9 ?_
  refine g_bipush C (v := 9) dX3_ifAdded_7 cb_9 ?_
  refine g_callSv C (c_X3_checkRange l D cI cO v (-9) 9 h1 h2) gX3_ifAdded_X3_checkRange rfl ⟨rfl, rfl⟩ hd_X3_checkRange ⟨Nat.le_of_ble_eq_true rfl, Nat.le_of_ble_eq_true rfl⟩ [0, 1] rfl (fun _ _ => trivial) rfl (rest := []) rfl (Nat.le_of_ble_eq_true rfl) dX3_ifAdded_9 ⟨Nat.zero_le _, Nat.zero_le _⟩ (pre := []) (post := ((wS0 xa ad ha ta) ++ ((wT ta cI t (nI n)) ++ ((wHs ha hb cI cO G (nI o) (nI z)) ++ (wB ad cI g))))) (ws' := ((wS0 xa ad ha ta) ++ ((wT ta cI t (nI n)) ++ ((wHs ha hb cI cO G (nI o) (nI z)) ++ (wB ad cI g))))) rfl rfl ?_
  refine g_aload_n C dX3_ifAdded_12 0 rfl ?_
  refine g_get C (v := .ref (ad 0)) fl_X3_ifAdded_X3 0 rfl rfl 0 (by decide) fw_X3_ifAdded_fld12 rfl dX3_ifAdded_13 ?_
  refine g_iload_n C dX3_ifAdded_16 1 rfl ?_
  refine g_iload_n C dX3_ifAdded_17 2 rfl ?_
  refine g_iconst C (v := 0) dX3_ifAdded_18 ci_0 ?_
  refine g_callVi C (c0_X0_change l D cI cO ad g r hr v) gX3_ifAdded_X0_change rfl ⟨rfl, rfl⟩ hd_X0_change ⟨Nat.le_of_ble_eq_true rfl, Nat.le_of_ble_eq_true rfl⟩ [0, 1] rfl (fun _ _ => trivial) rfl (rest := []) rfl (Nat.le_of_ble_eq_true rfl) dX3_ifAdded_19 ⟨Nat.zero_le _, Nat.zero_le _⟩ 0 rfl rfl rfl (pre := ((wS0 xa ad ha ta) ++ ((wT ta cI t (nI n)) ++ (wHs ha hb cI cO G (nI o) (nI z))))) (post := []) (ws' := ((wS0 xa ad ha ta) ++ ((wT ta cI t (nI n)) ++ ((wHs ha hb cI cO G (nI o) (nI z)) ++ (wB ad cI g))))) rfl rfl ?_
  exact g_iret C hret hlk dX3_ifAdded_22 rfl rfl
theorem fw_X3_toShow_fld12 : Cond.fieldLink RX3 12 "StuckRods" "board" "LStuckRods$Board;" ∈ wsX3_toShow := (List.mem_cons_of_mem _ (List.mem_append_left _ (List.mem_append_left _ (List.mem_append_left _ (List.mem_append_left _ (List.mem_of_getElem? (i := 1) rfl))))))
theorem fl_X3_toShow_X3 : ∀ w ∈ wsX30, w ∈ wsX3_toShow := fun _ h => List.mem_cons_of_mem _ (List.mem_append_left _ (List.mem_append_left _ (List.mem_append_right _ h)))
theorem fw_X3_toShow_const170 : Cond.constant RX3 170 (999999999) ∈ wsX3_toShow := (List.mem_cons_of_mem _ (List.mem_append_left _ (List.mem_append_left _ (List.mem_append_left _ (List.mem_append_left _ (List.mem_of_getElem? (i := 0) rfl))))))
abbrev rmX3_toShow : Room := { frames := 3, cells := 0, slots := 0, locals := 73 }
set_option maxHeartbeats 1000000 in
set_option maxRecDepth 100000 in
theorem c_X3_toShow (l : Launch) (D : va_G) (cI cO : ClassId) (xa : Nat) (ta ha : Nat → Nat) (hb : Nat → Nat → Nat) (ad : Nat → Nat) (t : Nat → Int32) (n : Nat) (G : Nat → Nat → Int32) (g : Nat → Int32) (o z : Nat) (hn : n ≤ 60) (ho : o < 6) (hz : z ≤ 6) (m9 : Nat) (hm9 : m9 ≤ 999999999) : cR (fun _ => True) l yX3_toShow wsX3_toShow rmX3_toShow D vwCl (tyA cI cO) [.ref xa, .int (nI m9)] ((wS0 xa ad ha ta) ++ ((wT ta cI t (nI n)) ++ ((wHs ha hb cI cO G (nI o) (nI z)) ++ (wB ad cI g)))) (some (.int (xTo g 9 0 m9 0))) ((wS0 xa ad ha ta) ++ ((wT ta cI t (nI n)) ++ ((wHs ha hb cI cO G (nI o) (nI z)) ++ (wB ad cI g)))) := by
  refine cR_of (cc := cX3_toShow) (maxL := 6) (ret := (some .int)) (by decide) rfl (Nat.le_of_ble_eq_true rfl) ?_
  intro p e s m below meth c A C hret hlk hnm hF
  refine g_lv [0, 1] (lv' := [(0, .ref xa), (1, .int (nI m9))]) rfl ?_
  have K : ∀ (k q : Nat), k + q = 9 → ∀ (w : Nat) (a : Int32), w ≤ 999999999 → xTo g k q w a = xTo g 9 0 m9 0 → gG p l e rmX3_toShow s m ([.ref xa, .int (nI m9)] : List Value).toArray below meth c D vwCl A s.heap 6 (MQ below (cQ (some (.int (xTo g 9 0 m9 0))) (cB D vwCl (tyA cI cO) A ((wS0 xa ad ha ta) ++ ((wT ta cI t (nI n)) ++ ((wHs ha hb cI cO G (nI o) (nI z)) ++ (wB ad cI g))))) A) ([.ref xa, .int (nI m9)] : List Value).toArray s 0 0 A) 0 0 ((wS0 xa ad ha ta) ++ ((wT ta cI t (nI n)) ++ ((wHs ha hb cI cO G (nI o) (nI z)) ++ (wB ad cI g)))) 14 [(0, .ref xa), (1, .int (nI m9)), (2, .int a), (3, .int (nI w)), (4, .int (nI q))] [] := by
    intro k
    induction k with
    | zero =>
      intro q hn9 w a hw hq
      obtain rfl : q = 9 := by omega
      refine g_iload C dX3_toShow_14 4 rfl ?_
      refine g_bipush C (v := 9) dX3_toShow_16 cb_9 ?_
      refine g_icmp_ge C (tgt := 61) dX3_toShow_18 (by decide) (fun _ => ?_) (fun h18_1 => absurd (by decide) h18_1)
      refine g_iload_n C dX3_toShow_61 2 rfl ?_
      exact g_iret C hret hlk dX3_toShow_62 hq rfl
    | succ k ih =>
      intro q hn9 w a hw hq
      have hq9 : q < 9 := by omega
      refine g_iload C dX3_toShow_14 4 rfl ?_
      refine g_bipush C (v := 9) dX3_toShow_16 cb_9 ?_
      refine g_icmp_ge C (tgt := 61) dX3_toShow_18 (by decide) (fun h18_2 => absurd h18_2 (ge9 hq9)) (fun _ => ?_)
      refine g_aload_n C dX3_toShow_21 0 rfl ?_
      refine g_get C (v := .ref (ad 0)) fl_X3_toShow_X3 0 rfl rfl 0 (by decide) fw_X3_toShow_fld12 rfl dX3_toShow_22 ?_
      refine g_iload C dX3_toShow_25 4 rfl ?_
      refine g_iload_n C dX3_toShow_27 3 rfl ?_
      refine g_bipush C (v := 10) dX3_toShow_28 cb_10 ?_
      refine g_irem C (v := nI (w % 10)) dX3_toShow_30 (by decide) (pk_rem (d := 10) (by omega) (by decide) (by decide)) ?_
      refine g_iconst C (v := 0) dX3_toShow_31 ci_0 ?_
      refine g_callVi C (c0_X0_turn l D cI cO ad g q hq9 (nI (w % 10))) gX3_toShow_X0_turn rfl ⟨rfl, rfl⟩ hd_X0_turn ⟨Nat.le_of_ble_eq_true rfl, Nat.le_of_ble_eq_true rfl⟩ [0, 1] rfl (fun _ _ => trivial) rfl (rest := []) rfl (Nat.le_of_ble_eq_true rfl) dX3_toShow_32 ⟨Nat.zero_le _, Nat.zero_le _⟩ 0 rfl rfl rfl (pre := ((wS0 xa ad ha ta) ++ ((wT ta cI t (nI n)) ++ (wHs ha hb cI cO G (nI o) (nI z))))) (post := []) (ws' := ((wS0 xa ad ha ta) ++ ((wT ta cI t (nI n)) ++ ((wHs ha hb cI cO G (nI o) (nI z)) ++ (wB ad cI g))))) rfl rfl ?_
      refine g_istore C (lv' := [(5, .int (xTv g q (nI (w % 10)))), (0, .ref xa), (1, .int (nI m9)), (2, .int a), (3, .int (nI w)), (4, .int (nI q))]) dX3_toShow_35 (by decide) rfl ?_
      refine g_iload C dX3_toShow_37 0 rfl ?_
      refine g_iconst C (v := -1) dX3_toShow_39 ci_m1 ?_
      refine g_icmp_ne C (tgt := 45) dX3_toShow_40 (by decide) (fun h40_3 => ?_) (fun h40_3 => ?_)
      · refine g_iload_n C dX3_toShow_45 3 rfl ?_
        refine g_iload C dX3_toShow_46 0 rfl ?_
        refine g_iadd C (v := a + (xTv g q (nI (w % 10)))) dX3_toShow_48 rfl ?_
        refine g_istore_n C (lv' := [(2, .int (a + (xTv g q (nI (w % 10))))), (5, .int (xTv g q (nI (w % 10)))), (0, .ref xa), (1, .int (nI m9)), (3, .int (nI w)), (4, .int (nI q))]) dX3_toShow_49 rfl (by decide) rfl ?_
        refine g_iload_n C dX3_toShow_50 4 rfl ?_
        refine g_bipush C (v := 10) dX3_toShow_51 cb_10 ?_
        refine g_idiv C (v := nI (w / 10)) dX3_toShow_53 (by decide) (pk_div (d := 10) (by omega) (by decide) (by decide)) ?_
        refine g_istore_n C (lv' := [(3, .int (nI (w / 10))), (2, .int (a + (xTv g q (nI (w % 10))))), (5, .int (xTv g q (nI (w % 10)))), (0, .ref xa), (1, .int (nI m9)), (4, .int (nI q))]) dX3_toShow_54 rfl (by decide) rfl ?_
        refine g_iinc C (v := nI (q + 1)) (lv' := [(4, .int (nI (q + 1))), (3, .int (nI (w / 10))), (2, .int (a + (xTv g q (nI (w % 10))))), (5, .int (xTv g q (nI (w % 10)))), (0, .ref xa), (1, .int (nI m9))]) dX3_toShow_55 5 rfl (inc_nI _) (by decide) rfl ?_
        refine g_goto C (tgt := 14) dX3_toShow_58 (by decide) ?_
        refine g_lv [4, 5, 2, 1, 0] (lv' := [(0, .ref xa), (1, .int (nI m9)), (2, .int (a + (xTv g q (nI (w % 10))))), (3, .int (nI (w / 10))), (4, .int (nI (q + 1)))]) rfl ?_
        exact ih (q + 1) (by omega) _ _ (by omega) (by rw [← hq]; simp only [xTo, h40_3, Bool.false_eq_true, not_false_eq_true, not_true_eq_false, and_self, and_true, true_and, and_false, false_and, or_true, true_or, or_false, false_or, or_self, if_true, if_false, eq_self, ite_true, ite_false, reduceIte])
      · refine g_iconst C (v := -1) dX3_toShow_43 ci_m1 ?_
        exact g_iret C hret hlk dX3_toShow_44 (by rw [← hq]; simp only [xTo, eq_true h40_3, Bool.false_eq_true, not_false_eq_true, not_true_eq_false, and_self, and_true, true_and, and_false, false_and, or_true, true_or, or_false, false_or, or_self, if_true, if_false, eq_self, ite_true, ite_false, reduceIte]) rfl
  refine g_iload_n C dX3_toShow_0 1 rfl ?_
  refine g_iconst C (v := 0) dX3_toShow_1 ci_0 ?_
  refine g_ldc C (v := 999999999) dX3_toShow_2 fw_X3_toShow_const170 ?_
  refine g_callSv C (c_X3_checkRange l D cI cO (nI m9) 0 999999999 (nI_pos (by omega)) (leI (b := 999999999) hm9 (by decide))) gX3_toShow_X3_checkRange rfl ⟨rfl, rfl⟩ hd_X3_checkRange ⟨Nat.le_of_ble_eq_true rfl, Nat.le_of_ble_eq_true rfl⟩ [0, 1] rfl (fun _ _ => trivial) rfl (rest := []) rfl (Nat.le_of_ble_eq_true rfl) dX3_toShow_4 ⟨Nat.zero_le _, Nat.zero_le _⟩ (pre := []) (post := ((wS0 xa ad ha ta) ++ ((wT ta cI t (nI n)) ++ ((wHs ha hb cI cO G (nI o) (nI z)) ++ (wB ad cI g))))) (ws' := ((wS0 xa ad ha ta) ++ ((wT ta cI t (nI n)) ++ ((wHs ha hb cI cO G (nI o) (nI z)) ++ (wB ad cI g))))) rfl rfl ?_
  refine g_iconst C (v := 0) dX3_toShow_7 ci_0 ?_
  refine g_istore_n C (lv' := [(2, .int 0), (0, .ref xa), (1, .int (nI m9))]) dX3_toShow_8 rfl (by decide) rfl ?_
  refine g_iload_n C dX3_toShow_9 2 rfl ?_
  refine g_istore_n C (lv' := [(3, .int (nI m9)), (2, .int 0), (0, .ref xa), (1, .int (nI m9))]) dX3_toShow_10 rfl (by decide) rfl ?_
  refine g_iconst C (v := 0) dX3_toShow_11 ci_0 ?_
  refine g_istore C (lv' := [(4, .int 0), (3, .int (nI m9)), (2, .int 0), (0, .ref xa), (1, .int (nI m9))]) dX3_toShow_12 (by decide) rfl ?_
  refine g_lv [3, 4, 2, 1, 0] (lv' := [(0, .ref xa), (1, .int (nI m9)), (2, .int 0), (3, .int (nI m9)), (4, .int 0)]) rfl ?_
  exact K 9 0 rfl m9 0 hm9 rfl
theorem fw_X3_cheapestLoan_fld12 : Cond.fieldLink RX3 12 "StuckRods" "board" "LStuckRods$Board;" ∈ wsX3_cheapestLoan := (List.mem_cons_of_mem _ (List.mem_append_left _ (List.mem_append_left _ (List.mem_append_left _ (List.mem_of_getElem? (i := 0) rfl)))))
theorem fl_X3_cheapestLoan_X3 : ∀ w ∈ wsX30, w ∈ wsX3_cheapestLoan := fun _ h => List.mem_cons_of_mem _ (List.mem_append_left _ (List.mem_append_right _ h))
theorem fw_X3_cheapestLoan_fld69 : Cond.fieldLink RX3 69 "StuckRods$Board" "loan" "[I" ∈ wsX3_cheapestLoan := (List.mem_cons_of_mem _ (List.mem_append_left _ (List.mem_append_left _ (List.mem_append_left _ (List.mem_of_getElem? (i := 1) rfl)))))
theorem fl_X3_cheapestLoan_X0 : ∀ w ∈ wsX00, w ∈ wsX3_cheapestLoan := fun _ h => List.mem_cons_of_mem _ (List.mem_append_right _ h)
abbrev rmX3_cheapestLoan : Room := { frames := 5, cells := 0, slots := 0, locals := 125 }
set_option maxHeartbeats 1000000 in
set_option maxRecDepth 100000 in
theorem c_X3_cheapestLoan (l : Launch) (D : va_G) (cI cO : ClassId) (xa : Nat) (ta ha : Nat → Nat) (hb : Nat → Nat → Nat) (ad : Nat → Nat) (t : Nat → Int32) (n : Nat) (G : Nat → Nat → Int32) (g : Nat → Int32) (o z : Nat) (hn : n ≤ 60) (ho : o < 6) (hz : z ≤ 6)  : cR (fun _ => True) l yX3_cheapestLoan wsX3_cheapestLoan rmX3_cheapestLoan D vwCl (tyA cI cO) [.ref xa] ((wS0 xa ad ha ta) ++ ((wT ta cI t (nI n)) ++ ((wHs ha hb cI cO G (nI o) (nI z)) ++ (wB ad cI g)))) (some (.int ((xCp g 9).1))) ((wS0 xa ad ha ta) ++ ((wT ta cI t (nI n)) ++ ((wHs ha hb cI cO G (nI o) (nI z)) ++ (wB ad cI g)))) := by
  refine cR_of (cc := cX3_cheapestLoan) (maxL := 5) (ret := (some .int)) (by decide) rfl (Nat.le_of_ble_eq_true rfl) ?_
  intro p e s m below meth c A C hret hlk hnm hF
  refine g_lv [0] (lv' := [(0, .ref xa)]) rfl ?_
  have K : ∀ (k q : Nat), k + q = 9 → gG p l e rmX3_cheapestLoan s m ([.ref xa] : List Value).toArray below meth c D vwCl A s.heap 5 (MQ below (cQ (some (.int ((xCp g 9).1))) (cB D vwCl (tyA cI cO) A ((wS0 xa ad ha ta) ++ ((wT ta cI t (nI n)) ++ ((wHs ha hb cI cO G (nI o) (nI z)) ++ (wB ad cI g))))) A) ([.ref xa] : List Value).toArray s 0 0 A) 0 0 ((wS0 xa ad ha ta) ++ ((wT ta cI t (nI n)) ++ ((wHs ha hb cI cO G (nI o) (nI z)) ++ (wB ad cI g)))) 6 [(0, .ref xa), (1, .int ((xCp g q).1)), (2, .int ((xCp g q).2)), (3, .int (nI q))] [] := by
    intro k
    induction k with
    | zero =>
      intro q hn9
      obtain rfl : 9 = q := by omega
      refine g_iload_n C dX3_cheapestLoan_6 3 rfl ?_
      refine g_bipush C (v := 9) dX3_cheapestLoan_7 cb_9 ?_
      refine g_icmp_ge C (tgt := 72) dX3_cheapestLoan_9 (by decide) (fun _ => ?_) (fun h9_1 => absurd (by decide) h9_1)
      refine g_iload_n C dX3_cheapestLoan_72 1 rfl ?_
      exact g_iret C hret hlk dX3_cheapestLoan_73 rfl rfl
    | succ k ih =>
      intro q hn9
      have hq9 : q < 9 := by omega
      refine g_iload_n C dX3_cheapestLoan_6 3 rfl ?_
      refine g_bipush C (v := 9) dX3_cheapestLoan_7 cb_9 ?_
      refine g_icmp_ge C (tgt := 72) dX3_cheapestLoan_9 (by decide) (fun h9_2 => absurd h9_2 (ge9 hq9)) (fun _ => ?_)
      refine g_aload_n C dX3_cheapestLoan_12 0 rfl ?_
      refine g_get C (v := .ref (ad 0)) fl_X3_cheapestLoan_X3 0 rfl rfl 0 (by decide) fw_X3_cheapestLoan_fld12 rfl dX3_cheapestLoan_13 ?_
      refine g_get C (v := .ref (ad 4)) fl_X3_cheapestLoan_X0 47 rfl rfl 3 (by decide) fw_X3_cheapestLoan_fld69 rfl dX3_cheapestLoan_16 ?_
      refine g_iload_n C dX3_cheapestLoan_19 3 rfl ?_
      refine g_iald C (x := g (6 * q + 3)) 51 0 rfl rfl q rfl hq9 (by decide) rfl dX3_cheapestLoan_20 ?_
      refine g_if_eq C (tgt := 66) dX3_cheapestLoan_21 (by decide) (fun h21_3 => ?_) (fun h21_3 => ?_)
      · refine g_iinc C (v := nI (q + 1)) (lv' := [(3, .int (nI (q + 1))), (0, .ref xa), (1, .int ((xCp g q).1)), (2, .int ((xCp g q).2))]) dX3_cheapestLoan_66 3 rfl (inc_nI _) (by decide) rfl ?_
        refine g_goto C (tgt := 6) dX3_cheapestLoan_69 (by decide) ?_
        refine g_lv [1, 2, 3, 0] (lv' := [(0, .ref xa), (1, .int ((xCp g q).1)), (2, .int ((xCp g q).2)), (3, .int (nI (q + 1)))]) rfl ?_
        have i9 := ih (q + 1) (by omega)
        rw [show xCp g (q + 1) = ((xCp g q).1, (xCp g q).2) by simp only [xCp, eq_true h21_3, Bool.false_eq_true, not_false_eq_true, not_true_eq_false, and_self, and_true, true_and, and_false, false_and, or_true, true_or, or_false, false_or, or_self, if_true, if_false, eq_self, ite_true, ite_false, reduceIte]] at i9
        exact i9
      · refine g_aload_n C dX3_cheapestLoan_24 0 rfl ?_
        refine g_get C (v := .ref (ad 0)) fl_X3_cheapestLoan_X3 0 rfl rfl 0 (by decide) fw_X3_cheapestLoan_fld12 rfl dX3_cheapestLoan_25 ?_
        refine g_iload_n C dX3_cheapestLoan_28 3 rfl ?_
        refine g_aload_n C dX3_cheapestLoan_29 0 rfl ?_
        refine g_get C (v := .ref (ad 0)) fl_X3_cheapestLoan_X3 0 rfl rfl 0 (by decide) fw_X3_cheapestLoan_fld12 rfl dX3_cheapestLoan_30 ?_
        refine g_get C (v := .ref (ad 4)) fl_X3_cheapestLoan_X0 47 rfl rfl 3 (by decide) fw_X3_cheapestLoan_fld69 rfl dX3_cheapestLoan_33 ?_
        refine g_iload_n C dX3_cheapestLoan_36 3 rfl ?_
        refine g_iald C (x := g (6 * q + 3)) 51 0 rfl rfl q rfl hq9 (by decide) rfl dX3_cheapestLoan_37 ?_
        refine g_iconst C (v := 0) dX3_cheapestLoan_38 ci_0 ?_
        refine g_callVi C (c0_X0_change l D cI cO ad g q hq9 (g (6 * q + 3))) gX3_cheapestLoan_X0_change rfl ⟨rfl, rfl⟩ hd_X0_change ⟨Nat.le_of_ble_eq_true rfl, Nat.le_of_ble_eq_true rfl⟩ [0, 1] rfl (fun _ _ => trivial) rfl (rest := []) rfl (Nat.le_of_ble_eq_true rfl) dX3_cheapestLoan_39 ⟨Nat.zero_le _, Nat.zero_le _⟩ 0 rfl rfl rfl (pre := ((wS0 xa ad ha ta) ++ ((wT ta cI t (nI n)) ++ (wHs ha hb cI cO G (nI o) (nI z))))) (post := []) (ws' := ((wS0 xa ad ha ta) ++ ((wT ta cI t (nI n)) ++ ((wHs ha hb cI cO G (nI o) (nI z)) ++ (wB ad cI g))))) rfl rfl ?_
        refine g_istore C (lv' := [(4, .int ((xCh g q (g (6 * q + 3)) 0).1)), (0, .ref xa), (1, .int ((xCp g q).1)), (2, .int ((xCp g q).2)), (3, .int (nI q))]) dX3_cheapestLoan_42 (by decide) rfl ?_
        refine g_iload C dX3_cheapestLoan_44 0 rfl ?_
        refine g_iconst C (v := -1) dX3_cheapestLoan_46 ci_m1 ?_
        refine g_icmp_eq C (tgt := 66) dX3_cheapestLoan_47 (by decide) (fun h47_4 => ?_) (fun h47_4 => ?_)
        · refine g_iinc C (v := nI (q + 1)) (lv' := [(3, .int (nI (q + 1))), (4, .int ((xCh g q (g (6 * q + 3)) 0).1)), (0, .ref xa), (1, .int ((xCp g q).1)), (2, .int ((xCp g q).2))]) dX3_cheapestLoan_66 4 rfl (inc_nI _) (by decide) rfl ?_
          refine g_goto C (tgt := 6) dX3_cheapestLoan_69 (by decide) ?_
          refine g_lv [2, 3, 4, 0] (lv' := [(0, .ref xa), (1, .int ((xCp g q).1)), (2, .int ((xCp g q).2)), (3, .int (nI (q + 1)))]) rfl ?_
          have i9 := ih (q + 1) (by omega)
          rw [show xCp g (q + 1) = ((xCp g q).1, (xCp g q).2) by simp only [xCp, h21_3, eq_true h47_4, Bool.false_eq_true, not_false_eq_true, not_true_eq_false, and_self, and_true, true_and, and_false, false_and, or_true, true_or, or_false, false_or, or_self, if_true, if_false, eq_self, ite_true, ite_false, reduceIte]] at i9
          exact i9
        · refine g_iload_n C dX3_cheapestLoan_50 2 rfl ?_
          refine g_iconst C (v := -1) dX3_cheapestLoan_51 ci_m1 ?_
          refine g_icmp_eq C (tgt := 61) dX3_cheapestLoan_52 (by decide) (fun h52_5 => ?_) (fun h52_5 => ?_)
          · refine g_iload_n C dX3_cheapestLoan_61 4 rfl ?_
            refine g_istore_n C (lv' := [(1, .int (nI q)), (4, .int ((xCh g q (g (6 * q + 3)) 0).1)), (0, .ref xa), (2, .int ((xCp g q).2)), (3, .int (nI q))]) dX3_cheapestLoan_62 rfl (by decide) rfl ?_
            refine g_iload C dX3_cheapestLoan_63 1 rfl ?_
            refine g_istore_n C (lv' := [(2, .int ((xCh g q (g (6 * q + 3)) 0).1)), (1, .int (nI q)), (4, .int ((xCh g q (g (6 * q + 3)) 0).1)), (0, .ref xa), (3, .int (nI q))]) dX3_cheapestLoan_65 rfl (by decide) rfl ?_
            refine g_iinc C (v := nI (q + 1)) (lv' := [(3, .int (nI (q + 1))), (2, .int ((xCh g q (g (6 * q + 3)) 0).1)), (1, .int (nI q)), (4, .int ((xCh g q (g (6 * q + 3)) 0).1)), (0, .ref xa)]) dX3_cheapestLoan_66 4 rfl (inc_nI _) (by decide) rfl ?_
            refine g_goto C (tgt := 6) dX3_cheapestLoan_69 (by decide) ?_
            refine g_lv [4, 2, 1, 0] (lv' := [(0, .ref xa), (1, .int (nI q)), (2, .int ((xCh g q (g (6 * q + 3)) 0).1)), (3, .int (nI (q + 1)))]) rfl ?_
            have i9 := ih (q + 1) (by omega)
            rw [show xCp g (q + 1) = (nI q, (xCh g q (g (6 * q + 3)) 0).1) by simp only [xCp, h21_3, h47_4, eq_true h52_5, Bool.false_eq_true, not_false_eq_true, not_true_eq_false, and_self, and_true, true_and, and_false, false_and, or_true, true_or, or_false, false_or, or_self, if_true, if_false, eq_self, ite_true, ite_false, reduceIte]] at i9
            exact i9
          · refine g_iload C dX3_cheapestLoan_55 0 rfl ?_
            refine g_iload_n C dX3_cheapestLoan_57 3 rfl ?_
            refine g_icmp_ge C (tgt := 66) dX3_cheapestLoan_58 (by decide) (fun h58_6 => ?_) (fun h58_6 => ?_)
            · refine g_iinc C (v := nI (q + 1)) (lv' := [(3, .int (nI (q + 1))), (4, .int ((xCh g q (g (6 * q + 3)) 0).1)), (0, .ref xa), (1, .int ((xCp g q).1)), (2, .int ((xCp g q).2))]) dX3_cheapestLoan_66 4 rfl (inc_nI _) (by decide) rfl ?_
              refine g_goto C (tgt := 6) dX3_cheapestLoan_69 (by decide) ?_
              refine g_lv [2, 3, 4, 0] (lv' := [(0, .ref xa), (1, .int ((xCp g q).1)), (2, .int ((xCp g q).2)), (3, .int (nI (q + 1)))]) rfl ?_
              have i9 := ih (q + 1) (by omega)
              rw [show xCp g (q + 1) = ((xCp g q).1, (xCp g q).2) by simp only [xCp, h21_3, h47_4, h52_5, eq_true h58_6, Bool.false_eq_true, not_false_eq_true, not_true_eq_false, and_self, and_true, true_and, and_false, false_and, or_true, true_or, or_false, false_or, or_self, if_true, if_false, eq_self, ite_true, ite_false, reduceIte]] at i9
              exact i9
            · refine g_iload_n C dX3_cheapestLoan_61 4 rfl ?_
              refine g_istore_n C (lv' := [(1, .int (nI q)), (4, .int ((xCh g q (g (6 * q + 3)) 0).1)), (0, .ref xa), (2, .int ((xCp g q).2)), (3, .int (nI q))]) dX3_cheapestLoan_62 rfl (by decide) rfl ?_
              refine g_iload C dX3_cheapestLoan_63 1 rfl ?_
              refine g_istore_n C (lv' := [(2, .int ((xCh g q (g (6 * q + 3)) 0).1)), (1, .int (nI q)), (4, .int ((xCh g q (g (6 * q + 3)) 0).1)), (0, .ref xa), (3, .int (nI q))]) dX3_cheapestLoan_65 rfl (by decide) rfl ?_
              refine g_iinc C (v := nI (q + 1)) (lv' := [(3, .int (nI (q + 1))), (2, .int ((xCh g q (g (6 * q + 3)) 0).1)), (1, .int (nI q)), (4, .int ((xCh g q (g (6 * q + 3)) 0).1)), (0, .ref xa)]) dX3_cheapestLoan_66 4 rfl (inc_nI _) (by decide) rfl ?_
              refine g_goto C (tgt := 6) dX3_cheapestLoan_69 (by decide) ?_
              refine g_lv [4, 2, 1, 0] (lv' := [(0, .ref xa), (1, .int (nI q)), (2, .int ((xCh g q (g (6 * q + 3)) 0).1)), (3, .int (nI (q + 1)))]) rfl ?_
              have i9 := ih (q + 1) (by omega)
              rw [show xCp g (q + 1) = (nI q, (xCh g q (g (6 * q + 3)) 0).1) by simp only [xCp, h21_3, h47_4, h52_5, h58_6, Bool.false_eq_true, not_false_eq_true, not_true_eq_false, and_self, and_true, true_and, and_false, false_and, or_true, true_or, or_false, false_or, or_self, if_true, if_false, eq_self, ite_true, ite_false, reduceIte]] at i9
              exact i9
  refine g_iconst C (v := -1) dX3_cheapestLoan_0 ci_m1 ?_
  refine g_istore_n C (lv' := [(1, .int (-1)), (0, .ref xa)]) dX3_cheapestLoan_1 rfl (by decide) rfl ?_
  refine g_iconst C (v := 0) dX3_cheapestLoan_2 ci_0 ?_
  refine g_istore_n C (lv' := [(2, .int 0), (1, .int (-1)), (0, .ref xa)]) dX3_cheapestLoan_3 rfl (by decide) rfl ?_
  refine g_iconst C (v := 0) dX3_cheapestLoan_4 ci_0 ?_
  refine g_istore_n C (lv' := [(3, .int 0), (2, .int 0), (1, .int (-1)), (0, .ref xa)]) dX3_cheapestLoan_5 rfl (by decide) rfl ?_
  refine g_lv [3, 2, 1, 0] (lv' := [(0, .ref xa), (1, .int (-1)), (2, .int 0), (3, .int 0)]) rfl ?_
  exact K 9 0 rfl
theorem fw_X3_looseness_const171 : Cond.constantDouble RX3 171 (4639270566145032192) ∈ wsX3_looseness := (List.mem_cons_of_mem _ (List.mem_append_left _ (List.mem_append_left _ (List.mem_append_left _ (List.mem_of_getElem? (i := 1) rfl)))))
theorem fw_X3_looseness_fld12 : Cond.fieldLink RX3 12 "StuckRods" "board" "LStuckRods$Board;" ∈ wsX3_looseness := (List.mem_cons_of_mem _ (List.mem_append_left _ (List.mem_append_left _ (List.mem_append_left _ (List.mem_of_getElem? (i := 0) rfl)))))
theorem fl_X3_looseness_X3 : ∀ w ∈ wsX30, w ∈ wsX3_looseness := fun _ h => List.mem_cons_of_mem _ (List.mem_append_left _ (List.mem_append_right _ h))
abbrev rmX3_looseness : Room := { frames := 4, cells := 0, slots := 0, locals := 96 }
set_option maxHeartbeats 1000000 in
set_option maxRecDepth 100000 in
theorem c_X3_looseness (l : Launch) (D : va_G) (cI cO : ClassId) (xa : Nat) (ta ha : Nat → Nat) (hb : Nat → Nat → Nat) (ad : Nat → Nat) (t : Nat → Int32) (n : Nat) (G : Nat → Nat → Int32) (g : Nat → Int32) (o z : Nat) (hn : n ≤ 60) (ho : o < 6) (hz : z ≤ 6)  : cR (fun _ => True) l yX3_looseness wsX3_looseness rmX3_looseness D vwCl (tyA cI cO) [.ref xa] ((wS0 xa ad ha ta) ++ ((wT ta cI t (nI n)) ++ ((wHs ha hb cI cO G (nI o) (nI z)) ++ (wB ad cI g)))) (some (.double (xLo g))) ((wS0 xa ad ha ta) ++ ((wT ta cI t (nI n)) ++ ((wHs ha hb cI cO G (nI o) (nI z)) ++ (wB ad cI g)))) := by
  refine cR_of (cc := cX3_looseness) (maxL := 3) (ret := (some .double)) (by decide) rfl (Nat.le_of_ble_eq_true rfl) ?_
  intro p e s m below meth c A C hret hlk hnm hF
  refine g_lv [0] (lv' := [(0, .ref xa)]) rfl ?_
  have K : ∀ (k q : Nat), k + q = 9 → gG p l e rmX3_looseness s m ([.ref xa] : List Value).toArray below meth c D vwCl A s.heap 3 (MQ below (cQ (some (.double (xLo g))) (cB D vwCl (tyA cI cO) A ((wS0 xa ad ha ta) ++ ((wT ta cI t (nI n)) ++ ((wHs ha hb cI cO G (nI o) (nI z)) ++ (wB ad cI g))))) A) ([.ref xa] : List Value).toArray s 0 0 A) 0 0 ((wS0 xa ad ha ta) ++ ((wT ta cI t (nI n)) ++ ((wHs ha hb cI cO G (nI o) (nI z)) ++ (wB ad cI g)))) 4 [(0, .ref xa), (1, .int (xSu (fun j => xRe g j 16) q)), (2, .int (nI q))] [] := by
    intro k
    induction k with
    | zero =>
      intro q hn9
      obtain rfl : 9 = q := by omega
      refine g_iload_n C dX3_looseness_4 2 rfl ?_
      refine g_bipush C (v := 9) dX3_looseness_5 cb_9 ?_
      refine g_icmp_ge C (tgt := 27) dX3_looseness_7 (by decide) (fun _ => ?_) (fun h7_1 => absurd (by decide) h7_1)
      refine g_iload_n C dX3_looseness_27 1 rfl ?_
      refine g_i2d C (v := FP.i2d (xSu (fun j => xRe g j 16) 9)) dX3_looseness_28 rfl ?_
      refine g_ldc2d C (v := 4639270566145032192) dX3_looseness_29 fw_X3_looseness_const171 ?_
      refine g_ddiv C (v := FP.ddiv (FP.i2d (xSu (fun j => xRe g j 16) 9)) 4639270566145032192) dX3_looseness_32 (xLo_ok g) rfl ?_
      exact g_dret C hret hlk dX3_looseness_33 rfl rfl
    | succ k ih =>
      intro q hn9
      have hq9 : q < 9 := by omega
      refine g_iload_n C dX3_looseness_4 2 rfl ?_
      refine g_bipush C (v := 9) dX3_looseness_5 cb_9 ?_
      refine g_icmp_ge C (tgt := 27) dX3_looseness_7 (by decide) (fun h7_2 => absurd h7_2 (ge9 hq9)) (fun _ => ?_)
      refine g_iload_n C dX3_looseness_10 1 rfl ?_
      refine g_aload_n C dX3_looseness_11 0 rfl ?_
      refine g_get C (v := .ref (ad 0)) fl_X3_looseness_X3 0 rfl rfl 0 (by decide) fw_X3_looseness_fld12 rfl dX3_looseness_12 ?_
      refine g_iload_n C dX3_looseness_15 2 rfl ?_
      refine g_callVi C (c_X0_reach l D cI cO ad g q hq9) gX3_looseness_X0_reach rfl ⟨rfl, rfl⟩ hd_X0_reach ⟨Nat.le_of_ble_eq_true rfl, Nat.le_of_ble_eq_true rfl⟩ [0, 1] rfl (fun _ _ => trivial) rfl (rest := [.int (xSu (fun j => xRe g j 16) q)]) rfl (Nat.le_of_ble_eq_true rfl) dX3_looseness_16 ⟨Nat.zero_le _, Nat.zero_le _⟩ 0 rfl rfl rfl (pre := ((wS0 xa ad ha ta) ++ ((wT ta cI t (nI n)) ++ (wHs ha hb cI cO G (nI o) (nI z))))) (post := []) (ws' := ((wS0 xa ad ha ta) ++ ((wT ta cI t (nI n)) ++ ((wHs ha hb cI cO G (nI o) (nI z)) ++ (wB ad cI g))))) rfl rfl ?_
      refine g_iadd C (v := (xSu (fun j => xRe g j 16) q) + (xRe g q 16)) dX3_looseness_19 rfl ?_
      refine g_istore_n C (lv' := [(1, .int ((xSu (fun j => xRe g j 16) q) + (xRe g q 16))), (0, .ref xa), (2, .int (nI q))]) dX3_looseness_20 rfl (by decide) rfl ?_
      refine g_iinc C (v := nI (q + 1)) (lv' := [(2, .int (nI (q + 1))), (1, .int ((xSu (fun j => xRe g j 16) q) + (xRe g q 16))), (0, .ref xa)]) dX3_looseness_21 2 rfl (inc_nI _) (by decide) rfl ?_
      refine g_goto C (tgt := 4) dX3_looseness_24 (by decide) ?_
      refine g_lv [2, 1, 0] (lv' := [(0, .ref xa), (1, .int ((xSu (fun j => xRe g j 16) q) + (xRe g q 16))), (2, .int (nI (q + 1)))]) rfl ?_
      exact ih (q + 1) (by omega)
  refine g_iconst C (v := 0) dX3_looseness_0 ci_0 ?_
  refine g_istore_n C (lv' := [(1, .int 0), (0, .ref xa)]) dX3_looseness_1 rfl (by decide) rfl ?_
  refine g_iconst C (v := 0) dX3_looseness_2 ci_0 ?_
  refine g_istore_n C (lv' := [(2, .int 0), (1, .int 0), (0, .ref xa)]) dX3_looseness_3 rfl (by decide) rfl ?_
  refine g_lv [2, 1, 0] (lv' := [(0, .ref xa), (1, .int 0), (2, .int 0)]) rfl ?_
  exact K 9 0 rfl
