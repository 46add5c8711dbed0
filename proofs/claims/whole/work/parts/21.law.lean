/-! ===== the law's loop ===== -/
section GLW
variable {p : Program} {l : Launch} {e : Env} {R : Room} {s : State} {m : MethodId} {args : Array Value} {below : List Frame} {meth : Method} {c : Code} {cc : ByteArray} {own : String} {Ts : List Cond} {D : va_G} {cl : List vw_C} {tys : List (ClassId × FieldType)} {A : Nat → Prop} {H0 : Heap} {nL : Nat} {Q : State → Prop} {k n : Nat} {ws : va_W} {pc : Nat} {lv : List (Nat × Value)} {st : List Value}
theorem g_sld (C : gC p s m args c cc own Ts D cl tys A H0 nL) {b L : Nat} {xs : Nat → Int32} {i x : Int32} (hX : va_X b L xs s H0) (hbl : b < H0.size) (hbA : ¬ A b) (hL : L < 2 ^ 31) (j : Nat) (hi : i = nI j) (hj : j < L) (hx : xs j = x) (d : decode cc pc = .ok (.iaload, 1))
    (kk : gG p l e R s m args below meth c D cl A H0 nL Q k n ws (pc + 1) lv (.int x :: st)) : gG p l e R s m args below meth c D cl A H0 nL Q k n ws pc lv (.int i :: .ref b :: st) := by
  subst hi; subst hx
  intro H locs ls hP hD hS hl
  refine va_sld C.1 C.2.1 hX hbl hbA hS (vp_in_nI hj hL) d ?_
  rw [nI_clamp (by omega)]
  exact kk H locs ls hP hD hS hl
theorem g_slen (C : gC p s m args c cc own Ts D cl tys A H0 nL) {b L : Nat} {xs : Nat → Int32} (hX : va_X b L xs s H0) (hbl : b < H0.size) (hbA : ¬ A b) (d : decode cc pc = .ok (.arraylength, 1))
    (kk : gG p l e R s m args below meth c D cl A H0 nL Q k n ws (pc + 1) lv (.int (nI L) :: st)) : gG p l e R s m args below meth c D cl A H0 nL Q k n ws pc lv (.ref b :: st) := by
  intro H locs ls hP hD hS hl
  exact va_slen C.1 C.2.1 hX hbl hbA hS d (kk H locs ls hP hD hS hl)
theorem g_newaL (C : gC p s m args c cc own Ts D cl tys A H0 nL) {cJ : ClassId} (t0 : Nat) (ht : tys[t0]? = some (cJ, .long)) (h1 : Cond.arrayClass .long ∈ Ts) (N : Nat) {i : Int32} (hi : i = nI N) (hN : N < 2 ^ 20) (hc : k + 1 ≤ R.cells ∧ n + N ≤ R.slots) (d : decode cc pc = .ok (.newarray .long, 2))
    (kk : ∀ q : Nat, gG p l e R s m args below meth c D cl A H0 nL Q (k + 1) (n + N) (ws ++ [(q, .inl (cJ, N, .inr (.inl (fun _ => 0))))]) (pc + 2) lv (.ref q :: st)) : gG p l e R s m args below meth c D cl A H0 nL Q k n ws pc lv (.int i :: st) := by
  subst hi
  intro H locs ls hP hD hS hl
  refine va_newa (atype := .long) (ty := .long) (N' := N) (a0 := (N, .inr (.inl (fun _ => 0)))) C.1 C.2.1 (C.2.2.2.2.1 _ h1) rfl C.2.2.2.2.2.1 hP hD hS C.2.2.2.2.2.2 (fun _ => rfl) (nI_pos (by omega)) (nI_clamp (by omega)) (by show N * 8 ≤ _; omega) hc.1 hc.2 d ?_
  intro q cA H1 hK1 hP1 hD1 hS1
  have e1 := (hK1.2 tys.length (cA, .long) (by rw [List.getElem?_append_right (Nat.le_refl _), Nat.sub_self]; rfl)).2
  have e2 := (C.2.2.2.2.2.1.2 t0 (cJ, .long) ht).2
  have e3 : cA = cJ := Option.some.inj (Eq.trans (Eq.symm e1) e2)
  subst e3
  exact kk q H1 locs ls hP1 hD1 hS1 hl
end GLW
theorem hd_L_move : yL_move.cls ≠ "java/lang/invoke/MethodHandle" ∧ yL_move.cls ≠ "java/lang/invoke/VarHandle" ∧ (parseMethodDescriptor yL_move.desc).map (fun d => d.parameters.length) = some 5 := by decide +kernel
theorem hd_X4_move : yX4_move.cls = RX4 ∧ yX4_move.cls ≠ "java/lang/invoke/MethodHandle" ∧ yX4_move.cls ≠ "java/lang/invoke/VarHandle" ∧ (parseMethodDescriptor yX4_move.desc).map (fun d => d.parameters.length) = some 3 := by decide +kernel
theorem hd_X4_thrown : yX4_thrown.cls = RX4 ∧ yX4_thrown.cls ≠ "java/lang/invoke/MethodHandle" ∧ yX4_thrown.cls ≠ "java/lang/invoke/VarHandle" ∧ (parseMethodDescriptor yX4_thrown.desc).map (fun d => d.parameters.length) = some 0 := by decide +kernel
set_option maxHeartbeats 2000000 in
set_option maxRecDepth 100000 in
theorem law_move {p : Program} {l : Launch} {e : Env} {s : State} {m : MethodId} {below : List Frame} {meth : Method} {c : Code} {D : va_G} {cI cO cJ : ClassId} {b L : Nat} {xs : Nat → Int32} {Q9 : State → Prop} (hl : l.stackTraces = false) (hL : L ≤ 2048) (C : gC p s m (#[.ref b] : Array Value) c cL_law RL wsL_law D vwCl (tyW cI cO cJ) (fun q9 => s.heap.size ≤ q9) s.heap 9) (hF : sF s.vm) (hZ : zF (fun q9 => s.heap.size ≤ q9) s s.heap) (hX : va_X b L xs s s.heap) (hbl : b < s.heap.size) {xa oa : Nat} {ta ha : Nat → Nat} {hb : Nat → Nat → Nat} {ad ma : Nat → Nat} (q : Nat) (hq : 4 * q + 4 ≤ L) (t : Nat → Int32) (n : Nat) (G : Nat → Nat → Int32) (g : Nat → Int32) (o z : Nat) (th : Int32) (a9 sv : Nat → Int32) (dg : Int64) (oj : Nat → Int64) (hI : LI t n G g o z sv) (hnext : (∀ (t : Nat → Int32) (n : Nat) (G : Nat → Nat → Int32) (g : Nat → Int32) (o z : Nat) (th : Int32) (a9 sv : Nat → Int32) (dg : Int64) (oj : Nat → Int64), LI t n G g o z sv → gG p l e room_1 s m (#[.ref b] : Array Value) below meth c D vwCl (fun q9 => s.heap.size ≤ q9) s.heap 9 Q9 (60 + (q + 1)) (1010 + 6 * (q + 1)) ((wS0 xa ad ha ta) ++ ((wT ta cI t (nI n)) ++ ((wHs ha hb cI cO G (nI o) (nI z)) ++ ((wB ad cI g) ++ ((wO oa cJ oj) ++ (wM ma cI th g a9 sv z t n dg)))))) 1113 [(0, .ref b), (1, .ref xa), (2, .ref (ma 0)), (3, .ref oa), (4, .int (nI (4 * q)))] [])) : gG p l e room_1 s m (#[.ref b] : Array Value) below meth c D vwCl (fun q9 => s.heap.size ≤ q9) s.heap 9 Q9 (60 + q) (1010 + 6 * q) ((wS0 xa ad ha ta) ++ ((wT ta cI t (nI n)) ++ ((wHs ha hb cI cO G (nI o) (nI z)) ++ ((wB ad cI g) ++ ((wO oa cJ oj) ++ (wM ma cI th g a9 sv z t n dg)))))) 136 [(0, .ref b), (1, .ref xa), (2, .ref (ma 0)), (3, .ref oa), (4, .int (nI (4 * q)))] [] := by
  obtain ⟨v9, e1⟩ : ∃ x9, xs (4 * q + 1) = x9 := ⟨_, rfl⟩
  obtain ⟨f, e2⟩ : ∃ x9, xs (4 * q + 2) = x9 := ⟨_, rfl⟩
  obtain ⟨q9, e3⟩ : ∃ x9, xs (4 * q + 3) = x9 := ⟨_, rfl⟩
  by_cases h : v9 < 0 ∨ ¬ v9 < 9
  · have hI9 : LI t n G g o z sv := hI
    refine g_aload_n C dL_law_136 1 rfl ?_
    refine g_aload_n C dL_law_137 0 rfl ?_
    refine g_iload C dL_law_138 4 rfl ?_
    refine g_iconst C (v := 1) dL_law_140 ci_1 ?_
    refine g_iadd C (v := nI (4 * q + 1)) dL_law_141 (nI_add _ 1) ?_
    refine g_sld C (x := v9) hX hbl (fun z9 => absurd hbl (Nat.not_lt.mpr z9)) (by omega) (4 * q + 1) rfl (by omega) e1 dL_law_142 ?_
    refine g_aload_n C dL_law_143 0 rfl ?_
    refine g_iload C dL_law_144 4 rfl ?_
    refine g_iconst C (v := 2) dL_law_146 ci_2 ?_
    refine g_iadd C (v := nI (4 * q + 2)) dL_law_147 (nI_add _ 2) ?_
    refine g_sld C (x := f) hX hbl (fun z9 => absurd hbl (Nat.not_lt.mpr z9)) (by omega) (4 * q + 2) rfl (by omega) e2 dL_law_148 ?_
    refine g_aload_n C dL_law_149 0 rfl ?_
    refine g_iload C dL_law_150 4 rfl ?_
    refine g_iconst C (v := 3) dL_law_152 ci_3 ?_
    refine g_iadd C (v := nI (4 * q + 3)) dL_law_153 (nI_add _ 3) ?_
    refine g_sld C (x := q9) hX hbl (fun z9 => absurd hbl (Nat.not_lt.mpr z9)) (by omega) (4 * q + 3) rfl (by omega) e3 dL_law_154 ?_
    refine g_aload_n C dL_law_155 3 rfl ?_
    refine g_callSW C hZ (w_L_move_1 l hl D cI cO cJ xa ta ha hb ad t n G g o z hI.1 hI.2.1 hI.2.2.1 v9 f q9 h oa oj) gL_law_L_move rfl ⟨rfl, rfl⟩ hd_L_move ⟨Nat.le_of_ble_eq_true rfl, Nat.le_of_ble_eq_true rfl⟩ [0, 1, 2] rfl (sF_w hF) rfl (rest := []) rfl (Nat.le_of_ble_eq_true rfl) dL_law_156 ⟨(by show _ + 1 ≤ 621006; omega), (by show _ + 6 ≤ 7233085; omega)⟩ (pre := []) (post := (wM ma cI th g a9 sv z t n dg)) (ws' := ((wS0 xa ad ha ta) ++ ((wT ta cI t (nI n)) ++ ((wHs ha hb cI cO G (nI o) (nI z)) ++ ((wB ad cI g) ++ ((wO oa cJ oj) ++ (wM ma cI th g a9 sv z t n dg))))))) rfl rfl ?_
    refine g_istore C (lv' := [(5, .int 1), (0, .ref b), (1, .ref xa), (2, .ref (ma 0)), (3, .ref oa), (4, .int (nI (4 * q)))]) dL_law_159 (by decide) rfl ?_
    refine g_aload_n C dL_law_161 3 rfl ?_
    refine g_aload_n C dL_law_162 1 rfl ?_
    refine g_iload C dL_law_163 5 rfl ?_
    refine g_iconst C (v := 1) dL_law_165 ci_1 ?_
    refine g_iadd C (v := nI (4 * q + 1)) dL_law_166 (nI_add _ 1) ?_
    refine g_sld C (x := v9) hX hbl (fun z9 => absurd hbl (Nat.not_lt.mpr z9)) (by omega) (4 * q + 1) rfl (by omega) e1 dL_law_167 ?_
    refine g_aload_n C dL_law_168 1 rfl ?_
    refine g_iload C dL_law_169 5 rfl ?_
    refine g_iconst C (v := 2) dL_law_171 ci_2 ?_
    refine g_iadd C (v := nI (4 * q + 2)) dL_law_172 (nI_add _ 2) ?_
    refine g_sld C (x := f) hX hbl (fun z9 => absurd hbl (Nat.not_lt.mpr z9)) (by omega) (4 * q + 2) rfl (by omega) e2 dL_law_173 ?_
    refine g_aload_n C dL_law_174 1 rfl ?_
    refine g_iload C dL_law_175 5 rfl ?_
    refine g_iconst C (v := 3) dL_law_177 ci_3 ?_
    refine g_iadd C (v := nI (4 * q + 3)) dL_law_178 (nI_add _ 3) ?_
    refine g_sld C (x := q9) hX hbl (fun z9 => absurd hbl (Nat.not_lt.mpr z9)) (by omega) (4 * q + 3) rfl (by omega) e3 dL_law_179 ?_
    refine g_callVi C (c_X4_move_1 l D cI cO ma th g a9 sv z t n dg hI.1 hI.2.2.1 v9 h f q9) gL_law_X4_move rfl ⟨rfl, rfl⟩ hd_X4_move ⟨Nat.le_of_ble_eq_true rfl, Nat.le_of_ble_eq_true rfl⟩ [0, 1] rfl (fun _ _ => trivial) rfl (rest := []) rfl (Nat.le_of_ble_eq_true rfl) dL_law_180 ⟨(by show _ ≤ 621006; omega), (by show _ ≤ 7233085; omega)⟩ 0 rfl rfl rfl (pre := ((wS0 xa ad ha ta) ++ ((wT ta cI t (nI n)) ++ ((wHs ha hb cI cO G (nI o) (nI z)) ++ ((wB ad cI g) ++ (wO oa cJ oj)))))) (post := []) (ws' := ((wS0 xa ad ha ta) ++ ((wT ta cI t (nI n)) ++ ((wHs ha hb cI cO G (nI o) (nI z)) ++ ((wB ad cI g) ++ ((wO oa cJ oj) ++ (wM ma cI 1 g a9 sv z t n dg))))))) rfl rfl ?_
    refine g_istore C (lv' := [(6, .int 0), (5, .int 1), (0, .ref b), (1, .ref xa), (2, .ref (ma 0)), (3, .ref oa), (4, .int (nI (4 * q)))]) dL_law_183 (by decide) rfl ?_
    refine g_aload_n C dL_law_185 4 rfl ?_
    refine g_callVi C (c_X4_thrown l D cI cO ma 1 g a9 sv z t n dg hI9.1 hI9.2.2.1) gL_law_X4_thrown rfl ⟨rfl, rfl⟩ hd_X4_thrown ⟨Nat.le_of_ble_eq_true rfl, Nat.le_of_ble_eq_true rfl⟩ [0, 1] rfl (fun _ _ => trivial) rfl (rest := []) rfl (Nat.le_of_ble_eq_true rfl) dL_law_186 ⟨(by show _ ≤ 621006; omega), (by show _ ≤ 7233085; omega)⟩ 0 rfl rfl rfl (pre := ((wS0 xa ad ha ta) ++ ((wT ta cI t (nI n)) ++ ((wHs ha hb cI cO G (nI o) (nI z)) ++ ((wB ad cI g) ++ (wO oa cJ oj)))))) (post := []) (ws' := ((wS0 xa ad ha ta) ++ ((wT ta cI t (nI n)) ++ ((wHs ha hb cI cO G (nI o) (nI z)) ++ ((wB ad cI g) ++ ((wO oa cJ oj) ++ (wM ma cI 1 g a9 sv z t n dg))))))) rfl rfl ?_
    refine g_iload C dL_law_189 1 rfl ?_
    refine g_icmp_eq C (tgt := 196) dL_law_191 (by decide) (fun _ => ?_) (fun h191_1 => absurd (by decide) h191_1)
    refine g_iload C dL_law_196 1 rfl ?_
    refine g_if_ne C (tgt := 213) dL_law_198 (by decide) (fun _ => ?_) (fun h198_2 => absurd h198_2 (by decide))
    refine g_goto C (tgt := 1113) dL_law_213 (by decide) ?_
    refine g_lv [2, 3, 4, 5, 6] (lv' := [(0, .ref b), (1, .ref xa), (2, .ref (ma 0)), (3, .ref oa), (4, .int (nI (4 * q)))]) rfl ?_
    refine g_wid (k' := 60 + (q + 1)) (n' := 1010 + 6 * (q + 1)) (by omega) (by omega) ?_
    exact hnext _ _ _ _ _ _ _ _ _ _ _ hI9
  obtain ⟨r, hr, rfl⟩ := orR h
  by_cases h : f < 0 ∨ ¬ f ≤ 2
  · have hI9 : LI t n G g o z sv := hI
    refine g_aload_n C dL_law_136 1 rfl ?_
    refine g_aload_n C dL_law_137 0 rfl ?_
    refine g_iload C dL_law_138 4 rfl ?_
    refine g_iconst C (v := 1) dL_law_140 ci_1 ?_
    refine g_iadd C (v := nI (4 * q + 1)) dL_law_141 (nI_add _ 1) ?_
    refine g_sld C (x := nI r) hX hbl (fun z9 => absurd hbl (Nat.not_lt.mpr z9)) (by omega) (4 * q + 1) rfl (by omega) e1 dL_law_142 ?_
    refine g_aload_n C dL_law_143 0 rfl ?_
    refine g_iload C dL_law_144 4 rfl ?_
    refine g_iconst C (v := 2) dL_law_146 ci_2 ?_
    refine g_iadd C (v := nI (4 * q + 2)) dL_law_147 (nI_add _ 2) ?_
    refine g_sld C (x := f) hX hbl (fun z9 => absurd hbl (Nat.not_lt.mpr z9)) (by omega) (4 * q + 2) rfl (by omega) e2 dL_law_148 ?_
    refine g_aload_n C dL_law_149 0 rfl ?_
    refine g_iload C dL_law_150 4 rfl ?_
    refine g_iconst C (v := 3) dL_law_152 ci_3 ?_
    refine g_iadd C (v := nI (4 * q + 3)) dL_law_153 (nI_add _ 3) ?_
    refine g_sld C (x := q9) hX hbl (fun z9 => absurd hbl (Nat.not_lt.mpr z9)) (by omega) (4 * q + 3) rfl (by omega) e3 dL_law_154 ?_
    refine g_aload_n C dL_law_155 3 rfl ?_
    refine g_callSW C hZ (w_L_move_2 l hl D cI cO cJ xa ta ha hb ad t n G g o z hI.1 hI.2.1 hI.2.2.1 r hr f q9 h oa oj) gL_law_L_move rfl ⟨rfl, rfl⟩ hd_L_move ⟨Nat.le_of_ble_eq_true rfl, Nat.le_of_ble_eq_true rfl⟩ [0, 1, 2] rfl (sF_w hF) rfl (rest := []) rfl (Nat.le_of_ble_eq_true rfl) dL_law_156 ⟨(by show _ + 1 ≤ 621006; omega), (by show _ + 6 ≤ 7233085; omega)⟩ (pre := []) (post := (wM ma cI th g a9 sv z t n dg)) (ws' := ((wS0 xa ad ha ta) ++ ((wT ta cI t (nI n)) ++ ((wHs ha hb cI cO G (nI o) (nI z)) ++ ((wB ad cI g) ++ ((wO oa cJ oj) ++ (wM ma cI th g a9 sv z t n dg))))))) rfl rfl ?_
    refine g_istore C (lv' := [(5, .int 2), (0, .ref b), (1, .ref xa), (2, .ref (ma 0)), (3, .ref oa), (4, .int (nI (4 * q)))]) dL_law_159 (by decide) rfl ?_
    refine g_aload_n C dL_law_161 3 rfl ?_
    refine g_aload_n C dL_law_162 1 rfl ?_
    refine g_iload C dL_law_163 5 rfl ?_
    refine g_iconst C (v := 1) dL_law_165 ci_1 ?_
    refine g_iadd C (v := nI (4 * q + 1)) dL_law_166 (nI_add _ 1) ?_
    refine g_sld C (x := nI r) hX hbl (fun z9 => absurd hbl (Nat.not_lt.mpr z9)) (by omega) (4 * q + 1) rfl (by omega) e1 dL_law_167 ?_
    refine g_aload_n C dL_law_168 1 rfl ?_
    refine g_iload C dL_law_169 5 rfl ?_
    refine g_iconst C (v := 2) dL_law_171 ci_2 ?_
    refine g_iadd C (v := nI (4 * q + 2)) dL_law_172 (nI_add _ 2) ?_
    refine g_sld C (x := f) hX hbl (fun z9 => absurd hbl (Nat.not_lt.mpr z9)) (by omega) (4 * q + 2) rfl (by omega) e2 dL_law_173 ?_
    refine g_aload_n C dL_law_174 1 rfl ?_
    refine g_iload C dL_law_175 5 rfl ?_
    refine g_iconst C (v := 3) dL_law_177 ci_3 ?_
    refine g_iadd C (v := nI (4 * q + 3)) dL_law_178 (nI_add _ 3) ?_
    refine g_sld C (x := q9) hX hbl (fun z9 => absurd hbl (Nat.not_lt.mpr z9)) (by omega) (4 * q + 3) rfl (by omega) e3 dL_law_179 ?_
    refine g_callVi C (c_X4_move_2 l D cI cO ma th g a9 sv z t n dg hI.1 hI.2.2.1 r hr f q9 h) gL_law_X4_move rfl ⟨rfl, rfl⟩ hd_X4_move ⟨Nat.le_of_ble_eq_true rfl, Nat.le_of_ble_eq_true rfl⟩ [0, 1] rfl (fun _ _ => trivial) rfl (rest := []) rfl (Nat.le_of_ble_eq_true rfl) dL_law_180 ⟨(by show _ ≤ 621006; omega), (by show _ ≤ 7233085; omega)⟩ 0 rfl rfl rfl (pre := ((wS0 xa ad ha ta) ++ ((wT ta cI t (nI n)) ++ ((wHs ha hb cI cO G (nI o) (nI z)) ++ ((wB ad cI g) ++ (wO oa cJ oj)))))) (post := []) (ws' := ((wS0 xa ad ha ta) ++ ((wT ta cI t (nI n)) ++ ((wHs ha hb cI cO G (nI o) (nI z)) ++ ((wB ad cI g) ++ ((wO oa cJ oj) ++ (wM ma cI 2 g a9 sv z t n dg))))))) rfl rfl ?_
    refine g_istore C (lv' := [(6, .int 0), (5, .int 2), (0, .ref b), (1, .ref xa), (2, .ref (ma 0)), (3, .ref oa), (4, .int (nI (4 * q)))]) dL_law_183 (by decide) rfl ?_
    refine g_aload_n C dL_law_185 4 rfl ?_
    refine g_callVi C (c_X4_thrown l D cI cO ma 2 g a9 sv z t n dg hI9.1 hI9.2.2.1) gL_law_X4_thrown rfl ⟨rfl, rfl⟩ hd_X4_thrown ⟨Nat.le_of_ble_eq_true rfl, Nat.le_of_ble_eq_true rfl⟩ [0, 1] rfl (fun _ _ => trivial) rfl (rest := []) rfl (Nat.le_of_ble_eq_true rfl) dL_law_186 ⟨(by show _ ≤ 621006; omega), (by show _ ≤ 7233085; omega)⟩ 0 rfl rfl rfl (pre := ((wS0 xa ad ha ta) ++ ((wT ta cI t (nI n)) ++ ((wHs ha hb cI cO G (nI o) (nI z)) ++ ((wB ad cI g) ++ (wO oa cJ oj)))))) (post := []) (ws' := ((wS0 xa ad ha ta) ++ ((wT ta cI t (nI n)) ++ ((wHs ha hb cI cO G (nI o) (nI z)) ++ ((wB ad cI g) ++ ((wO oa cJ oj) ++ (wM ma cI 2 g a9 sv z t n dg))))))) rfl rfl ?_
    refine g_iload C dL_law_189 1 rfl ?_
    refine g_icmp_eq C (tgt := 196) dL_law_191 (by decide) (fun _ => ?_) (fun h191_1 => absurd (by decide) h191_1)
    refine g_iload C dL_law_196 1 rfl ?_
    refine g_if_ne C (tgt := 213) dL_law_198 (by decide) (fun _ => ?_) (fun h198_2 => absurd h198_2 (by decide))
    refine g_goto C (tgt := 1113) dL_law_213 (by decide) ?_
    refine g_lv [2, 3, 4, 5, 6] (lv' := [(0, .ref b), (1, .ref xa), (2, .ref (ma 0)), (3, .ref oa), (4, .int (nI (4 * q)))]) rfl ?_
    refine g_wid (k' := 60 + (q + 1)) (n' := 1010 + 6 * (q + 1)) (by omega) (by omega) ?_
    exact hnext _ _ _ _ _ _ _ _ _ _ _ hI9
  obtain ⟨h1, h2⟩ := orB h
  by_cases h : q9 < 0 ∨ ¬ q9 ≤ 5
  · have hI9 : LI t n G g o z sv := hI
    refine g_aload_n C dL_law_136 1 rfl ?_
    refine g_aload_n C dL_law_137 0 rfl ?_
    refine g_iload C dL_law_138 4 rfl ?_
    refine g_iconst C (v := 1) dL_law_140 ci_1 ?_
    refine g_iadd C (v := nI (4 * q + 1)) dL_law_141 (nI_add _ 1) ?_
    refine g_sld C (x := nI r) hX hbl (fun z9 => absurd hbl (Nat.not_lt.mpr z9)) (by omega) (4 * q + 1) rfl (by omega) e1 dL_law_142 ?_
    refine g_aload_n C dL_law_143 0 rfl ?_
    refine g_iload C dL_law_144 4 rfl ?_
    refine g_iconst C (v := 2) dL_law_146 ci_2 ?_
    refine g_iadd C (v := nI (4 * q + 2)) dL_law_147 (nI_add _ 2) ?_
    refine g_sld C (x := f) hX hbl (fun z9 => absurd hbl (Nat.not_lt.mpr z9)) (by omega) (4 * q + 2) rfl (by omega) e2 dL_law_148 ?_
    refine g_aload_n C dL_law_149 0 rfl ?_
    refine g_iload C dL_law_150 4 rfl ?_
    refine g_iconst C (v := 3) dL_law_152 ci_3 ?_
    refine g_iadd C (v := nI (4 * q + 3)) dL_law_153 (nI_add _ 3) ?_
    refine g_sld C (x := q9) hX hbl (fun z9 => absurd hbl (Nat.not_lt.mpr z9)) (by omega) (4 * q + 3) rfl (by omega) e3 dL_law_154 ?_
    refine g_aload_n C dL_law_155 3 rfl ?_
    refine g_callSW C hZ (w_L_move_3 l hl D cI cO cJ xa ta ha hb ad t n G g o z hI.1 hI.2.1 hI.2.2.1 r hr f q9 h1 h2 h oa oj) gL_law_L_move rfl ⟨rfl, rfl⟩ hd_L_move ⟨Nat.le_of_ble_eq_true rfl, Nat.le_of_ble_eq_true rfl⟩ [0, 1, 2] rfl (sF_w hF) rfl (rest := []) rfl (Nat.le_of_ble_eq_true rfl) dL_law_156 ⟨(by show _ + 1 ≤ 621006; omega), (by show _ + 6 ≤ 7233085; omega)⟩ (pre := []) (post := (wM ma cI th g a9 sv z t n dg)) (ws' := ((wS0 xa ad ha ta) ++ ((wT ta cI t (nI n)) ++ ((wHs ha hb cI cO G (nI o) (nI z)) ++ ((wB ad cI g) ++ ((wO oa cJ oj) ++ (wM ma cI th g a9 sv z t n dg))))))) rfl rfl ?_
    refine g_istore C (lv' := [(5, .int 2), (0, .ref b), (1, .ref xa), (2, .ref (ma 0)), (3, .ref oa), (4, .int (nI (4 * q)))]) dL_law_159 (by decide) rfl ?_
    refine g_aload_n C dL_law_161 3 rfl ?_
    refine g_aload_n C dL_law_162 1 rfl ?_
    refine g_iload C dL_law_163 5 rfl ?_
    refine g_iconst C (v := 1) dL_law_165 ci_1 ?_
    refine g_iadd C (v := nI (4 * q + 1)) dL_law_166 (nI_add _ 1) ?_
    refine g_sld C (x := nI r) hX hbl (fun z9 => absurd hbl (Nat.not_lt.mpr z9)) (by omega) (4 * q + 1) rfl (by omega) e1 dL_law_167 ?_
    refine g_aload_n C dL_law_168 1 rfl ?_
    refine g_iload C dL_law_169 5 rfl ?_
    refine g_iconst C (v := 2) dL_law_171 ci_2 ?_
    refine g_iadd C (v := nI (4 * q + 2)) dL_law_172 (nI_add _ 2) ?_
    refine g_sld C (x := f) hX hbl (fun z9 => absurd hbl (Nat.not_lt.mpr z9)) (by omega) (4 * q + 2) rfl (by omega) e2 dL_law_173 ?_
    refine g_aload_n C dL_law_174 1 rfl ?_
    refine g_iload C dL_law_175 5 rfl ?_
    refine g_iconst C (v := 3) dL_law_177 ci_3 ?_
    refine g_iadd C (v := nI (4 * q + 3)) dL_law_178 (nI_add _ 3) ?_
    refine g_sld C (x := q9) hX hbl (fun z9 => absurd hbl (Nat.not_lt.mpr z9)) (by omega) (4 * q + 3) rfl (by omega) e3 dL_law_179 ?_
    refine g_callVi C (c_X4_move_3 l D cI cO ma th g a9 sv z t n dg hI.1 hI.2.2.1 r hr f q9 h1 h2 h) gL_law_X4_move rfl ⟨rfl, rfl⟩ hd_X4_move ⟨Nat.le_of_ble_eq_true rfl, Nat.le_of_ble_eq_true rfl⟩ [0, 1] rfl (fun _ _ => trivial) rfl (rest := []) rfl (Nat.le_of_ble_eq_true rfl) dL_law_180 ⟨(by show _ ≤ 621006; omega), (by show _ ≤ 7233085; omega)⟩ 0 rfl rfl rfl (pre := ((wS0 xa ad ha ta) ++ ((wT ta cI t (nI n)) ++ ((wHs ha hb cI cO G (nI o) (nI z)) ++ ((wB ad cI g) ++ (wO oa cJ oj)))))) (post := []) (ws' := ((wS0 xa ad ha ta) ++ ((wT ta cI t (nI n)) ++ ((wHs ha hb cI cO G (nI o) (nI z)) ++ ((wB ad cI g) ++ ((wO oa cJ oj) ++ (wM ma cI 2 g a9 sv z t n dg))))))) rfl rfl ?_
    refine g_istore C (lv' := [(6, .int 0), (5, .int 2), (0, .ref b), (1, .ref xa), (2, .ref (ma 0)), (3, .ref oa), (4, .int (nI (4 * q)))]) dL_law_183 (by decide) rfl ?_
    refine g_aload_n C dL_law_185 4 rfl ?_
    refine g_callVi C (c_X4_thrown l D cI cO ma 2 g a9 sv z t n dg hI9.1 hI9.2.2.1) gL_law_X4_thrown rfl ⟨rfl, rfl⟩ hd_X4_thrown ⟨Nat.le_of_ble_eq_true rfl, Nat.le_of_ble_eq_true rfl⟩ [0, 1] rfl (fun _ _ => trivial) rfl (rest := []) rfl (Nat.le_of_ble_eq_true rfl) dL_law_186 ⟨(by show _ ≤ 621006; omega), (by show _ ≤ 7233085; omega)⟩ 0 rfl rfl rfl (pre := ((wS0 xa ad ha ta) ++ ((wT ta cI t (nI n)) ++ ((wHs ha hb cI cO G (nI o) (nI z)) ++ ((wB ad cI g) ++ (wO oa cJ oj)))))) (post := []) (ws' := ((wS0 xa ad ha ta) ++ ((wT ta cI t (nI n)) ++ ((wHs ha hb cI cO G (nI o) (nI z)) ++ ((wB ad cI g) ++ ((wO oa cJ oj) ++ (wM ma cI 2 g a9 sv z t n dg))))))) rfl rfl ?_
    refine g_iload C dL_law_189 1 rfl ?_
    refine g_icmp_eq C (tgt := 196) dL_law_191 (by decide) (fun _ => ?_) (fun h191_1 => absurd (by decide) h191_1)
    refine g_iload C dL_law_196 1 rfl ?_
    refine g_if_ne C (tgt := 213) dL_law_198 (by decide) (fun _ => ?_) (fun h198_2 => absurd h198_2 (by decide))
    refine g_goto C (tgt := 1113) dL_law_213 (by decide) ?_
    refine g_lv [2, 3, 4, 5, 6] (lv' := [(0, .ref b), (1, .ref xa), (2, .ref (ma 0)), (3, .ref oa), (4, .int (nI (4 * q)))]) rfl ?_
    refine g_wid (k' := 60 + (q + 1)) (n' := 1010 + 6 * (q + 1)) (by omega) (by omega) ?_
    exact hnext _ _ _ _ _ _ _ _ _ _ _ hI9
  obtain ⟨h3, h4⟩ := orB h
  rcases lMove (hI.2.2.2.1.1 r hr) h1 h2 h3 h4 with ⟨h, hy⟩ | ⟨hy, h, eR0⟩
  · have hI9 : LI t n G g o z sv := hI
    refine g_aload_n C dL_law_136 1 rfl ?_
    refine g_aload_n C dL_law_137 0 rfl ?_
    refine g_iload C dL_law_138 4 rfl ?_
    refine g_iconst C (v := 1) dL_law_140 ci_1 ?_
    refine g_iadd C (v := nI (4 * q + 1)) dL_law_141 (nI_add _ 1) ?_
    refine g_sld C (x := nI r) hX hbl (fun z9 => absurd hbl (Nat.not_lt.mpr z9)) (by omega) (4 * q + 1) rfl (by omega) e1 dL_law_142 ?_
    refine g_aload_n C dL_law_143 0 rfl ?_
    refine g_iload C dL_law_144 4 rfl ?_
    refine g_iconst C (v := 2) dL_law_146 ci_2 ?_
    refine g_iadd C (v := nI (4 * q + 2)) dL_law_147 (nI_add _ 2) ?_
    refine g_sld C (x := f) hX hbl (fun z9 => absurd hbl (Nat.not_lt.mpr z9)) (by omega) (4 * q + 2) rfl (by omega) e2 dL_law_148 ?_
    refine g_aload_n C dL_law_149 0 rfl ?_
    refine g_iload C dL_law_150 4 rfl ?_
    refine g_iconst C (v := 3) dL_law_152 ci_3 ?_
    refine g_iadd C (v := nI (4 * q + 3)) dL_law_153 (nI_add _ 3) ?_
    refine g_sld C (x := q9) hX hbl (fun z9 => absurd hbl (Nat.not_lt.mpr z9)) (by omega) (4 * q + 3) rfl (by omega) e3 dL_law_154 ?_
    refine g_aload_n C dL_law_155 3 rfl ?_
    refine g_callSW C hZ (w_L_move_4 l hl D cI cO cJ xa ta ha hb ad t n G g o z hI.1 hI.2.1 hI.2.2.1 r hr f q9 h1 h2 h3 h4 h oa oj) gL_law_L_move rfl ⟨rfl, rfl⟩ hd_L_move ⟨Nat.le_of_ble_eq_true rfl, Nat.le_of_ble_eq_true rfl⟩ [0, 1, 2] rfl (sF_w hF) rfl (rest := []) rfl (Nat.le_of_ble_eq_true rfl) dL_law_156 ⟨(by show _ + 1 ≤ 621006; omega), (by show _ + 6 ≤ 7233085; omega)⟩ (pre := []) (post := (wM ma cI th g a9 sv z t n dg)) (ws' := ((wS0 xa ad ha ta) ++ ((wT ta cI t (nI n)) ++ ((wHs ha hb cI cO G (nI o) (nI z)) ++ ((wB ad cI g) ++ ((wO oa cJ oj) ++ (wM ma cI th g a9 sv z t n dg))))))) rfl rfl ?_
    refine g_istore C (lv' := [(5, .int 3), (0, .ref b), (1, .ref xa), (2, .ref (ma 0)), (3, .ref oa), (4, .int (nI (4 * q)))]) dL_law_159 (by decide) rfl ?_
    refine g_aload_n C dL_law_161 3 rfl ?_
    refine g_aload_n C dL_law_162 1 rfl ?_
    refine g_iload C dL_law_163 5 rfl ?_
    refine g_iconst C (v := 1) dL_law_165 ci_1 ?_
    refine g_iadd C (v := nI (4 * q + 1)) dL_law_166 (nI_add _ 1) ?_
    refine g_sld C (x := nI r) hX hbl (fun z9 => absurd hbl (Nat.not_lt.mpr z9)) (by omega) (4 * q + 1) rfl (by omega) e1 dL_law_167 ?_
    refine g_aload_n C dL_law_168 1 rfl ?_
    refine g_iload C dL_law_169 5 rfl ?_
    refine g_iconst C (v := 2) dL_law_171 ci_2 ?_
    refine g_iadd C (v := nI (4 * q + 2)) dL_law_172 (nI_add _ 2) ?_
    refine g_sld C (x := f) hX hbl (fun z9 => absurd hbl (Nat.not_lt.mpr z9)) (by omega) (4 * q + 2) rfl (by omega) e2 dL_law_173 ?_
    refine g_aload_n C dL_law_174 1 rfl ?_
    refine g_iload C dL_law_175 5 rfl ?_
    refine g_iconst C (v := 3) dL_law_177 ci_3 ?_
    refine g_iadd C (v := nI (4 * q + 3)) dL_law_178 (nI_add _ 3) ?_
    refine g_sld C (x := q9) hX hbl (fun z9 => absurd hbl (Nat.not_lt.mpr z9)) (by omega) (4 * q + 3) rfl (by omega) e3 dL_law_179 ?_
    refine g_callVi C (c_X4_move_4 l D cI cO ma th g a9 sv z t n dg hI.1 hI.2.2.1 r hr f q9 h1 h2 h3 h4 hy) gL_law_X4_move rfl ⟨rfl, rfl⟩ hd_X4_move ⟨Nat.le_of_ble_eq_true rfl, Nat.le_of_ble_eq_true rfl⟩ [0, 1] rfl (fun _ _ => trivial) rfl (rest := []) rfl (Nat.le_of_ble_eq_true rfl) dL_law_180 ⟨(by show _ ≤ 621006; omega), (by show _ ≤ 7233085; omega)⟩ 0 rfl rfl rfl (pre := ((wS0 xa ad ha ta) ++ ((wT ta cI t (nI n)) ++ ((wHs ha hb cI cO G (nI o) (nI z)) ++ ((wB ad cI g) ++ (wO oa cJ oj)))))) (post := []) (ws' := ((wS0 xa ad ha ta) ++ ((wT ta cI t (nI n)) ++ ((wHs ha hb cI cO G (nI o) (nI z)) ++ ((wB ad cI g) ++ ((wO oa cJ oj) ++ (wM ma cI 3 g a9 sv z t n dg))))))) rfl rfl ?_
    refine g_istore C (lv' := [(6, .int 0), (5, .int 3), (0, .ref b), (1, .ref xa), (2, .ref (ma 0)), (3, .ref oa), (4, .int (nI (4 * q)))]) dL_law_183 (by decide) rfl ?_
    refine g_aload_n C dL_law_185 4 rfl ?_
    refine g_callVi C (c_X4_thrown l D cI cO ma 3 g a9 sv z t n dg hI9.1 hI9.2.2.1) gL_law_X4_thrown rfl ⟨rfl, rfl⟩ hd_X4_thrown ⟨Nat.le_of_ble_eq_true rfl, Nat.le_of_ble_eq_true rfl⟩ [0, 1] rfl (fun _ _ => trivial) rfl (rest := []) rfl (Nat.le_of_ble_eq_true rfl) dL_law_186 ⟨(by show _ ≤ 621006; omega), (by show _ ≤ 7233085; omega)⟩ 0 rfl rfl rfl (pre := ((wS0 xa ad ha ta) ++ ((wT ta cI t (nI n)) ++ ((wHs ha hb cI cO G (nI o) (nI z)) ++ ((wB ad cI g) ++ (wO oa cJ oj)))))) (post := []) (ws' := ((wS0 xa ad ha ta) ++ ((wT ta cI t (nI n)) ++ ((wHs ha hb cI cO G (nI o) (nI z)) ++ ((wB ad cI g) ++ ((wO oa cJ oj) ++ (wM ma cI 3 g a9 sv z t n dg))))))) rfl rfl ?_
    refine g_iload C dL_law_189 1 rfl ?_
    refine g_icmp_eq C (tgt := 196) dL_law_191 (by decide) (fun _ => ?_) (fun h191_1 => absurd (by decide) h191_1)
    refine g_iload C dL_law_196 1 rfl ?_
    refine g_if_ne C (tgt := 213) dL_law_198 (by decide) (fun _ => ?_) (fun h198_2 => absurd h198_2 (by decide))
    refine g_goto C (tgt := 1113) dL_law_213 (by decide) ?_
    refine g_lv [2, 3, 4, 5, 6] (lv' := [(0, .ref b), (1, .ref xa), (2, .ref (ma 0)), (3, .ref oa), (4, .int (nI (4 * q)))]) rfl ?_
    refine g_wid (k' := 60 + (q + 1)) (n' := 1010 + 6 * (q + 1)) (by omega) (by omega) ?_
    exact hnext _ _ _ _ _ _ _ _ _ _ _ hI9
  · have hI9 : LI t n (kG G o z g) (xPl g r f q9 (xMb g r f q9)) (kO o z) (kM z + 1) (ySv g sv z) := LI_keep hI (lMoveI hI.2.2.2.1 h1 h2 h3 h4)
    have eR : (xMb g r f q9 : Int32) = yMv g r f q9 := eR0
    refine g_aload_n C dL_law_136 1 rfl ?_
    refine g_aload_n C dL_law_137 0 rfl ?_
    refine g_iload C dL_law_138 4 rfl ?_
    refine g_iconst C (v := 1) dL_law_140 ci_1 ?_
    refine g_iadd C (v := nI (4 * q + 1)) dL_law_141 (nI_add _ 1) ?_
    refine g_sld C (x := nI r) hX hbl (fun z9 => absurd hbl (Nat.not_lt.mpr z9)) (by omega) (4 * q + 1) rfl (by omega) e1 dL_law_142 ?_
    refine g_aload_n C dL_law_143 0 rfl ?_
    refine g_iload C dL_law_144 4 rfl ?_
    refine g_iconst C (v := 2) dL_law_146 ci_2 ?_
    refine g_iadd C (v := nI (4 * q + 2)) dL_law_147 (nI_add _ 2) ?_
    refine g_sld C (x := f) hX hbl (fun z9 => absurd hbl (Nat.not_lt.mpr z9)) (by omega) (4 * q + 2) rfl (by omega) e2 dL_law_148 ?_
    refine g_aload_n C dL_law_149 0 rfl ?_
    refine g_iload C dL_law_150 4 rfl ?_
    refine g_iconst C (v := 3) dL_law_152 ci_3 ?_
    refine g_iadd C (v := nI (4 * q + 3)) dL_law_153 (nI_add _ 3) ?_
    refine g_sld C (x := q9) hX hbl (fun z9 => absurd hbl (Nat.not_lt.mpr z9)) (by omega) (4 * q + 3) rfl (by omega) e3 dL_law_154 ?_
    refine g_aload_n C dL_law_155 3 rfl ?_
    refine g_callSW C hZ (w_L_move l hl D cI cO cJ xa ta ha hb ad t n G g o z hI.1 hI.2.1 hI.2.2.1 r hr f q9 h1 h2 h3 h4 h oa oj) gL_law_L_move rfl ⟨rfl, rfl⟩ hd_L_move ⟨Nat.le_of_ble_eq_true rfl, Nat.le_of_ble_eq_true rfl⟩ [0, 1, 2] rfl (sF_w hF) rfl (rest := []) rfl (Nat.le_of_ble_eq_true rfl) dL_law_156 ⟨(by show _ + 1 ≤ 621006; omega), (by show _ + 6 ≤ 7233085; omega)⟩ (pre := []) (post := (wM ma cI th g a9 sv z t n dg)) (ws' := ((wS0 xa ad ha ta) ++ ((wT ta cI t (nI n)) ++ ((wHs ha hb cI cO (kG G o z g) (nI (kO o z)) (nI (kM z + 1))) ++ ((wB ad cI (xPl g r f q9 (xMb g r f q9))) ++ ((wO oa cJ (vp_updL oj 0 (xMb g r f q9).toInt64)) ++ (wM ma cI th g a9 sv z t n dg))))))) rfl rfl ?_
    refine g_istore C (lv' := [(5, .int 0), (0, .ref b), (1, .ref xa), (2, .ref (ma 0)), (3, .ref oa), (4, .int (nI (4 * q)))]) dL_law_159 (by decide) rfl ?_
    refine g_aload_n C dL_law_161 3 rfl ?_
    refine g_aload_n C dL_law_162 1 rfl ?_
    refine g_iload C dL_law_163 5 rfl ?_
    refine g_iconst C (v := 1) dL_law_165 ci_1 ?_
    refine g_iadd C (v := nI (4 * q + 1)) dL_law_166 (nI_add _ 1) ?_
    refine g_sld C (x := nI r) hX hbl (fun z9 => absurd hbl (Nat.not_lt.mpr z9)) (by omega) (4 * q + 1) rfl (by omega) e1 dL_law_167 ?_
    refine g_aload_n C dL_law_168 1 rfl ?_
    refine g_iload C dL_law_169 5 rfl ?_
    refine g_iconst C (v := 2) dL_law_171 ci_2 ?_
    refine g_iadd C (v := nI (4 * q + 2)) dL_law_172 (nI_add _ 2) ?_
    refine g_sld C (x := f) hX hbl (fun z9 => absurd hbl (Nat.not_lt.mpr z9)) (by omega) (4 * q + 2) rfl (by omega) e2 dL_law_173 ?_
    refine g_aload_n C dL_law_174 1 rfl ?_
    refine g_iload C dL_law_175 5 rfl ?_
    refine g_iconst C (v := 3) dL_law_177 ci_3 ?_
    refine g_iadd C (v := nI (4 * q + 3)) dL_law_178 (nI_add _ 3) ?_
    refine g_sld C (x := q9) hX hbl (fun z9 => absurd hbl (Nat.not_lt.mpr z9)) (by omega) (4 * q + 3) rfl (by omega) e3 dL_law_179 ?_
    refine g_callVi C (c_X4_move l D cI cO ma th g a9 sv z t n dg hI.1 hI.2.2.1 r hr f q9 h1 h2 h3 h4 hy) gL_law_X4_move rfl ⟨rfl, rfl⟩ hd_X4_move ⟨Nat.le_of_ble_eq_true rfl, Nat.le_of_ble_eq_true rfl⟩ [0, 1] rfl (fun _ _ => trivial) rfl (rest := []) rfl (Nat.le_of_ble_eq_true rfl) dL_law_180 ⟨(by show _ ≤ 621006; omega), (by show _ ≤ 7233085; omega)⟩ 0 rfl rfl rfl (pre := ((wS0 xa ad ha ta) ++ ((wT ta cI t (nI n)) ++ ((wHs ha hb cI cO (kG G o z g) (nI (kO o z)) (nI (kM z + 1))) ++ ((wB ad cI (xPl g r f q9 (xMb g r f q9))) ++ (wO oa cJ (vp_updL oj 0 (xMb g r f q9).toInt64))))))) (post := []) (ws' := ((wS0 xa ad ha ta) ++ ((wT ta cI t (nI n)) ++ ((wHs ha hb cI cO (kG G o z g) (nI (kO o z)) (nI (kM z + 1))) ++ ((wB ad cI (xPl g r f q9 (xMb g r f q9))) ++ ((wO oa cJ (vp_updL oj 0 (xMb g r f q9).toInt64)) ++ (wM ma cI 0 (xPl g r f q9 (yMv g r f q9)) a9 (ySv g sv z) (kM z + 1) t n dg))))))) rfl rfl ?_
    refine g_istore C (lv' := [(6, .int (yMv g r f q9)), (5, .int 0), (0, .ref b), (1, .ref xa), (2, .ref (ma 0)), (3, .ref oa), (4, .int (nI (4 * q)))]) dL_law_183 (by decide) rfl ?_
    refine g_aload_n C dL_law_185 4 rfl ?_
    refine g_callVi C (c_X4_thrown l D cI cO ma 0 (xPl g r f q9 (yMv g r f q9)) a9 (ySv g sv z) (kM z + 1) t n dg hI9.1 hI9.2.2.1) gL_law_X4_thrown rfl ⟨rfl, rfl⟩ hd_X4_thrown ⟨Nat.le_of_ble_eq_true rfl, Nat.le_of_ble_eq_true rfl⟩ [0, 1] rfl (fun _ _ => trivial) rfl (rest := []) rfl (Nat.le_of_ble_eq_true rfl) dL_law_186 ⟨(by show _ ≤ 621006; omega), (by show _ ≤ 7233085; omega)⟩ 0 rfl rfl rfl (pre := ((wS0 xa ad ha ta) ++ ((wT ta cI t (nI n)) ++ ((wHs ha hb cI cO (kG G o z g) (nI (kO o z)) (nI (kM z + 1))) ++ ((wB ad cI (xPl g r f q9 (xMb g r f q9))) ++ (wO oa cJ (vp_updL oj 0 (xMb g r f q9).toInt64))))))) (post := []) (ws' := ((wS0 xa ad ha ta) ++ ((wT ta cI t (nI n)) ++ ((wHs ha hb cI cO (kG G o z g) (nI (kO o z)) (nI (kM z + 1))) ++ ((wB ad cI (xPl g r f q9 (xMb g r f q9))) ++ ((wO oa cJ (vp_updL oj 0 (xMb g r f q9).toInt64)) ++ (wM ma cI 0 (xPl g r f q9 (yMv g r f q9)) a9 (ySv g sv z) (kM z + 1) t n dg))))))) rfl rfl ?_
    refine g_iload C dL_law_189 1 rfl ?_
    refine g_icmp_eq C (tgt := 196) dL_law_191 (by decide) (fun _ => ?_) (fun h191_1 => absurd (by decide) h191_1)
    refine g_iload C dL_law_196 1 rfl ?_
    refine g_if_ne C (tgt := 213) dL_law_198 (by decide) (fun h198_2 => absurd (by decide) h198_2) (fun _ => ?_)
    refine g_aload_n C dL_law_201 5 rfl ?_
    refine g_iconst C (v := 0) dL_law_202 ci_0 ?_
    refine g_lald C (x := (vp_updL oj 0 (xMb g r f q9).toInt64) 0) 54 2 rfl rfl 0 rfl (by decide) (by decide) rfl dL_law_203 ?_
    refine g_iload C dL_law_204 0 rfl ?_
    refine g_i2l C (v := (yMv g r f q9).toInt64) dL_law_206 rfl ?_
    refine g_lcmp C (v := lg_cmp ((vp_updL oj 0 (xMb g r f q9).toInt64) 0) ((yMv g r f q9).toInt64)) dL_law_207 rfl ?_
    refine g_if_eq C (tgt := 213) dL_law_208 (by decide) (fun _ => ?_) (fun h208_3 => absurd (lgz (by rw [pk_uLs, eR])) h208_3)
    refine g_goto C (tgt := 1113) dL_law_213 (by decide) ?_
    refine g_lv [2, 3, 4, 5, 6] (lv' := [(0, .ref b), (1, .ref xa), (2, .ref (ma 0)), (3, .ref oa), (4, .int (nI (4 * q)))]) rfl ?_
    refine g_wid (k' := 60 + (q + 1)) (n' := 1010 + 6 * (q + 1)) (by omega) (by omega) ?_
    refine g_ws (ws' := ((wS0 xa ad ha ta) ++ ((wT ta cI t (nI n)) ++ ((wHs ha hb cI cO (kG G o z g) (nI (kO o z)) (nI (kM z + 1))) ++ ((wB ad cI (xPl g r f q9 (xMb g r f q9))) ++ ((wO oa cJ (vp_updL oj 0 (xMb g r f q9).toInt64)) ++ (wM ma cI 0 (xPl g r f q9 (xMb g r f q9)) a9 (ySv g sv z) (kM z + 1) t n dg))))))) (by rw [eR0]) ?_
    exact hnext _ _ _ _ _ _ _ _ _ _ _ hI9
theorem hd_L_stick : yL_stick.cls ≠ "java/lang/invoke/MethodHandle" ∧ yL_stick.cls ≠ "java/lang/invoke/VarHandle" ∧ (parseMethodDescriptor yL_stick.desc).map (fun d => d.parameters.length) = some 4 := by decide +kernel
theorem hd_X4_stick : yX4_stick.cls = RX4 ∧ yX4_stick.cls ≠ "java/lang/invoke/MethodHandle" ∧ yX4_stick.cls ≠ "java/lang/invoke/VarHandle" ∧ (parseMethodDescriptor yX4_stick.desc).map (fun d => d.parameters.length) = some 2 := by decide +kernel
set_option maxHeartbeats 2000000 in
set_option maxRecDepth 100000 in
theorem law_stick {p : Program} {l : Launch} {e : Env} {s : State} {m : MethodId} {below : List Frame} {meth : Method} {c : Code} {D : va_G} {cI cO cJ : ClassId} {b L : Nat} {xs : Nat → Int32} {Q9 : State → Prop} (hl : l.stackTraces = false) (hL : L ≤ 2048) (C : gC p s m (#[.ref b] : Array Value) c cL_law RL wsL_law D vwCl (tyW cI cO cJ) (fun q9 => s.heap.size ≤ q9) s.heap 9) (hF : sF s.vm) (hZ : zF (fun q9 => s.heap.size ≤ q9) s s.heap) (hX : va_X b L xs s s.heap) (hbl : b < s.heap.size) {xa oa : Nat} {ta ha : Nat → Nat} {hb : Nat → Nat → Nat} {ad ma : Nat → Nat} (q : Nat) (hq : 4 * q + 4 ≤ L) (t : Nat → Int32) (n : Nat) (G : Nat → Nat → Int32) (g : Nat → Int32) (o z : Nat) (th : Int32) (a9 sv : Nat → Int32) (dg : Int64) (oj : Nat → Int64) (hI : LI t n G g o z sv) (hnext : (∀ (t : Nat → Int32) (n : Nat) (G : Nat → Nat → Int32) (g : Nat → Int32) (o z : Nat) (th : Int32) (a9 sv : Nat → Int32) (dg : Int64) (oj : Nat → Int64), LI t n G g o z sv → gG p l e room_1 s m (#[.ref b] : Array Value) below meth c D vwCl (fun q9 => s.heap.size ≤ q9) s.heap 9 Q9 (60 + (q + 1)) (1010 + 6 * (q + 1)) ((wS0 xa ad ha ta) ++ ((wT ta cI t (nI n)) ++ ((wHs ha hb cI cO G (nI o) (nI z)) ++ ((wB ad cI g) ++ ((wO oa cJ oj) ++ (wM ma cI th g a9 sv z t n dg)))))) 1113 [(0, .ref b), (1, .ref xa), (2, .ref (ma 0)), (3, .ref oa), (4, .int (nI (4 * q)))] [])) : gG p l e room_1 s m (#[.ref b] : Array Value) below meth c D vwCl (fun q9 => s.heap.size ≤ q9) s.heap 9 Q9 (60 + q) (1010 + 6 * q) ((wS0 xa ad ha ta) ++ ((wT ta cI t (nI n)) ++ ((wHs ha hb cI cO G (nI o) (nI z)) ++ ((wB ad cI g) ++ ((wO oa cJ oj) ++ (wM ma cI th g a9 sv z t n dg)))))) 216 [(0, .ref b), (1, .ref xa), (2, .ref (ma 0)), (3, .ref oa), (4, .int (nI (4 * q)))] [] := by
  obtain ⟨v9, e1⟩ : ∃ x9, xs (4 * q + 1) = x9 := ⟨_, rfl⟩
  obtain ⟨w9, e2⟩ : ∃ x9, xs (4 * q + 2) = x9 := ⟨_, rfl⟩
  by_cases h : v9 < 0 ∨ ¬ v9 < 9
  · have hI9 : LI t n G g o z sv := hI
    refine g_aload_n C dL_law_216 1 rfl ?_
    refine g_aload_n C dL_law_217 0 rfl ?_
    refine g_iload C dL_law_218 4 rfl ?_
    refine g_iconst C (v := 1) dL_law_220 ci_1 ?_
    refine g_iadd C (v := nI (4 * q + 1)) dL_law_221 (nI_add _ 1) ?_
    refine g_sld C (x := v9) hX hbl (fun z9 => absurd hbl (Nat.not_lt.mpr z9)) (by omega) (4 * q + 1) rfl (by omega) e1 dL_law_222 ?_
    refine g_aload_n C dL_law_223 0 rfl ?_
    refine g_iload C dL_law_224 4 rfl ?_
    refine g_iconst C (v := 2) dL_law_226 ci_2 ?_
    refine g_iadd C (v := nI (4 * q + 2)) dL_law_227 (nI_add _ 2) ?_
    refine g_sld C (x := w9) hX hbl (fun z9 => absurd hbl (Nat.not_lt.mpr z9)) (by omega) (4 * q + 2) rfl (by omega) e2 dL_law_228 ?_
    refine g_aload_n C dL_law_229 3 rfl ?_
    refine g_callSW C hZ (w_L_stick_1 l hl D cI cO cJ xa ta ha hb ad t n G g o z hI.1 hI.2.1 hI.2.2.1 v9 w9 h oa oj) gL_law_L_stick rfl ⟨rfl, rfl⟩ hd_L_stick ⟨Nat.le_of_ble_eq_true rfl, Nat.le_of_ble_eq_true rfl⟩ [0, 1, 2] rfl (sF_w hF) rfl (rest := []) rfl (Nat.le_of_ble_eq_true rfl) dL_law_230 ⟨(by show _ + 1 ≤ 621006; omega), (by show _ + 6 ≤ 7233085; omega)⟩ (pre := []) (post := (wM ma cI th g a9 sv z t n dg)) (ws' := ((wS0 xa ad ha ta) ++ ((wT ta cI t (nI n)) ++ ((wHs ha hb cI cO G (nI o) (nI z)) ++ ((wB ad cI g) ++ ((wO oa cJ oj) ++ (wM ma cI th g a9 sv z t n dg))))))) rfl rfl ?_
    refine g_istore C (lv' := [(5, .int 1), (0, .ref b), (1, .ref xa), (2, .ref (ma 0)), (3, .ref oa), (4, .int (nI (4 * q)))]) dL_law_233 (by decide) rfl ?_
    refine g_aload_n C dL_law_235 3 rfl ?_
    refine g_aload_n C dL_law_236 1 rfl ?_
    refine g_iload C dL_law_237 5 rfl ?_
    refine g_iconst C (v := 1) dL_law_239 ci_1 ?_
    refine g_iadd C (v := nI (4 * q + 1)) dL_law_240 (nI_add _ 1) ?_
    refine g_sld C (x := v9) hX hbl (fun z9 => absurd hbl (Nat.not_lt.mpr z9)) (by omega) (4 * q + 1) rfl (by omega) e1 dL_law_241 ?_
    refine g_aload_n C dL_law_242 1 rfl ?_
    refine g_iload C dL_law_243 5 rfl ?_
    refine g_iconst C (v := 2) dL_law_245 ci_2 ?_
    refine g_iadd C (v := nI (4 * q + 2)) dL_law_246 (nI_add _ 2) ?_
    refine g_sld C (x := w9) hX hbl (fun z9 => absurd hbl (Nat.not_lt.mpr z9)) (by omega) (4 * q + 2) rfl (by omega) e2 dL_law_247 ?_
    refine g_callVi C (c_X4_stick_1 l D cI cO ma th g a9 sv z t n dg hI.1 hI.2.2.1 v9 h w9) gL_law_X4_stick rfl ⟨rfl, rfl⟩ hd_X4_stick ⟨Nat.le_of_ble_eq_true rfl, Nat.le_of_ble_eq_true rfl⟩ [0, 1] rfl (fun _ _ => trivial) rfl (rest := []) rfl (Nat.le_of_ble_eq_true rfl) dL_law_248 ⟨(by show _ ≤ 621006; omega), (by show _ ≤ 7233085; omega)⟩ 0 rfl rfl rfl (pre := ((wS0 xa ad ha ta) ++ ((wT ta cI t (nI n)) ++ ((wHs ha hb cI cO G (nI o) (nI z)) ++ ((wB ad cI g) ++ (wO oa cJ oj)))))) (post := []) (ws' := ((wS0 xa ad ha ta) ++ ((wT ta cI t (nI n)) ++ ((wHs ha hb cI cO G (nI o) (nI z)) ++ ((wB ad cI g) ++ ((wO oa cJ oj) ++ (wM ma cI 1 g a9 sv z t n dg))))))) rfl rfl ?_
    refine g_istore C (lv' := [(6, .int 0), (5, .int 1), (0, .ref b), (1, .ref xa), (2, .ref (ma 0)), (3, .ref oa), (4, .int (nI (4 * q)))]) dL_law_251 (by decide) rfl ?_
    refine g_aload_n C dL_law_253 4 rfl ?_
    refine g_callVi C (c_X4_thrown l D cI cO ma 1 g a9 sv z t n dg hI9.1 hI9.2.2.1) gL_law_X4_thrown rfl ⟨rfl, rfl⟩ hd_X4_thrown ⟨Nat.le_of_ble_eq_true rfl, Nat.le_of_ble_eq_true rfl⟩ [0, 1] rfl (fun _ _ => trivial) rfl (rest := []) rfl (Nat.le_of_ble_eq_true rfl) dL_law_254 ⟨(by show _ ≤ 621006; omega), (by show _ ≤ 7233085; omega)⟩ 0 rfl rfl rfl (pre := ((wS0 xa ad ha ta) ++ ((wT ta cI t (nI n)) ++ ((wHs ha hb cI cO G (nI o) (nI z)) ++ ((wB ad cI g) ++ (wO oa cJ oj)))))) (post := []) (ws' := ((wS0 xa ad ha ta) ++ ((wT ta cI t (nI n)) ++ ((wHs ha hb cI cO G (nI o) (nI z)) ++ ((wB ad cI g) ++ ((wO oa cJ oj) ++ (wM ma cI 1 g a9 sv z t n dg))))))) rfl rfl ?_
    refine g_iload C dL_law_257 1 rfl ?_
    refine g_icmp_eq C (tgt := 264) dL_law_259 (by decide) (fun _ => ?_) (fun h259_1 => absurd (by decide) h259_1)
    refine g_iload C dL_law_264 1 rfl ?_
    refine g_if_ne C (tgt := 281) dL_law_266 (by decide) (fun _ => ?_) (fun h266_2 => absurd h266_2 (by decide))
    refine g_goto C (tgt := 1113) dL_law_281 (by decide) ?_
    refine g_lv [2, 3, 4, 5, 6] (lv' := [(0, .ref b), (1, .ref xa), (2, .ref (ma 0)), (3, .ref oa), (4, .int (nI (4 * q)))]) rfl ?_
    refine g_wid (k' := 60 + (q + 1)) (n' := 1010 + 6 * (q + 1)) (by omega) (by omega) ?_
    exact hnext _ _ _ _ _ _ _ _ _ _ _ hI9
  obtain ⟨r, hr, rfl⟩ := orR h
  by_cases h : w9 < 0 ∨ ¬ w9 ≤ 3
  · have hI9 : LI t n G g o z sv := hI
    refine g_aload_n C dL_law_216 1 rfl ?_
    refine g_aload_n C dL_law_217 0 rfl ?_
    refine g_iload C dL_law_218 4 rfl ?_
    refine g_iconst C (v := 1) dL_law_220 ci_1 ?_
    refine g_iadd C (v := nI (4 * q + 1)) dL_law_221 (nI_add _ 1) ?_
    refine g_sld C (x := nI r) hX hbl (fun z9 => absurd hbl (Nat.not_lt.mpr z9)) (by omega) (4 * q + 1) rfl (by omega) e1 dL_law_222 ?_
    refine g_aload_n C dL_law_223 0 rfl ?_
    refine g_iload C dL_law_224 4 rfl ?_
    refine g_iconst C (v := 2) dL_law_226 ci_2 ?_
    refine g_iadd C (v := nI (4 * q + 2)) dL_law_227 (nI_add _ 2) ?_
    refine g_sld C (x := w9) hX hbl (fun z9 => absurd hbl (Nat.not_lt.mpr z9)) (by omega) (4 * q + 2) rfl (by omega) e2 dL_law_228 ?_
    refine g_aload_n C dL_law_229 3 rfl ?_
    refine g_callSW C hZ (w_L_stick_2 l hl D cI cO cJ xa ta ha hb ad t n G g o z hI.1 hI.2.1 hI.2.2.1 r hr w9 h oa oj) gL_law_L_stick rfl ⟨rfl, rfl⟩ hd_L_stick ⟨Nat.le_of_ble_eq_true rfl, Nat.le_of_ble_eq_true rfl⟩ [0, 1, 2] rfl (sF_w hF) rfl (rest := []) rfl (Nat.le_of_ble_eq_true rfl) dL_law_230 ⟨(by show _ + 1 ≤ 621006; omega), (by show _ + 6 ≤ 7233085; omega)⟩ (pre := []) (post := (wM ma cI th g a9 sv z t n dg)) (ws' := ((wS0 xa ad ha ta) ++ ((wT ta cI t (nI n)) ++ ((wHs ha hb cI cO G (nI o) (nI z)) ++ ((wB ad cI g) ++ ((wO oa cJ oj) ++ (wM ma cI th g a9 sv z t n dg))))))) rfl rfl ?_
    refine g_istore C (lv' := [(5, .int 2), (0, .ref b), (1, .ref xa), (2, .ref (ma 0)), (3, .ref oa), (4, .int (nI (4 * q)))]) dL_law_233 (by decide) rfl ?_
    refine g_aload_n C dL_law_235 3 rfl ?_
    refine g_aload_n C dL_law_236 1 rfl ?_
    refine g_iload C dL_law_237 5 rfl ?_
    refine g_iconst C (v := 1) dL_law_239 ci_1 ?_
    refine g_iadd C (v := nI (4 * q + 1)) dL_law_240 (nI_add _ 1) ?_
    refine g_sld C (x := nI r) hX hbl (fun z9 => absurd hbl (Nat.not_lt.mpr z9)) (by omega) (4 * q + 1) rfl (by omega) e1 dL_law_241 ?_
    refine g_aload_n C dL_law_242 1 rfl ?_
    refine g_iload C dL_law_243 5 rfl ?_
    refine g_iconst C (v := 2) dL_law_245 ci_2 ?_
    refine g_iadd C (v := nI (4 * q + 2)) dL_law_246 (nI_add _ 2) ?_
    refine g_sld C (x := w9) hX hbl (fun z9 => absurd hbl (Nat.not_lt.mpr z9)) (by omega) (4 * q + 2) rfl (by omega) e2 dL_law_247 ?_
    refine g_callVi C (c_X4_stick_2 l D cI cO ma th g a9 sv z t n dg hI.1 hI.2.2.1 r hr w9 h) gL_law_X4_stick rfl ⟨rfl, rfl⟩ hd_X4_stick ⟨Nat.le_of_ble_eq_true rfl, Nat.le_of_ble_eq_true rfl⟩ [0, 1] rfl (fun _ _ => trivial) rfl (rest := []) rfl (Nat.le_of_ble_eq_true rfl) dL_law_248 ⟨(by show _ ≤ 621006; omega), (by show _ ≤ 7233085; omega)⟩ 0 rfl rfl rfl (pre := ((wS0 xa ad ha ta) ++ ((wT ta cI t (nI n)) ++ ((wHs ha hb cI cO G (nI o) (nI z)) ++ ((wB ad cI g) ++ (wO oa cJ oj)))))) (post := []) (ws' := ((wS0 xa ad ha ta) ++ ((wT ta cI t (nI n)) ++ ((wHs ha hb cI cO G (nI o) (nI z)) ++ ((wB ad cI g) ++ ((wO oa cJ oj) ++ (wM ma cI 2 g a9 sv z t n dg))))))) rfl rfl ?_
    refine g_istore C (lv' := [(6, .int 0), (5, .int 2), (0, .ref b), (1, .ref xa), (2, .ref (ma 0)), (3, .ref oa), (4, .int (nI (4 * q)))]) dL_law_251 (by decide) rfl ?_
    refine g_aload_n C dL_law_253 4 rfl ?_
    refine g_callVi C (c_X4_thrown l D cI cO ma 2 g a9 sv z t n dg hI9.1 hI9.2.2.1) gL_law_X4_thrown rfl ⟨rfl, rfl⟩ hd_X4_thrown ⟨Nat.le_of_ble_eq_true rfl, Nat.le_of_ble_eq_true rfl⟩ [0, 1] rfl (fun _ _ => trivial) rfl (rest := []) rfl (Nat.le_of_ble_eq_true rfl) dL_law_254 ⟨(by show _ ≤ 621006; omega), (by show _ ≤ 7233085; omega)⟩ 0 rfl rfl rfl (pre := ((wS0 xa ad ha ta) ++ ((wT ta cI t (nI n)) ++ ((wHs ha hb cI cO G (nI o) (nI z)) ++ ((wB ad cI g) ++ (wO oa cJ oj)))))) (post := []) (ws' := ((wS0 xa ad ha ta) ++ ((wT ta cI t (nI n)) ++ ((wHs ha hb cI cO G (nI o) (nI z)) ++ ((wB ad cI g) ++ ((wO oa cJ oj) ++ (wM ma cI 2 g a9 sv z t n dg))))))) rfl rfl ?_
    refine g_iload C dL_law_257 1 rfl ?_
    refine g_icmp_eq C (tgt := 264) dL_law_259 (by decide) (fun _ => ?_) (fun h259_1 => absurd (by decide) h259_1)
    refine g_iload C dL_law_264 1 rfl ?_
    refine g_if_ne C (tgt := 281) dL_law_266 (by decide) (fun _ => ?_) (fun h266_2 => absurd h266_2 (by decide))
    refine g_goto C (tgt := 1113) dL_law_281 (by decide) ?_
    refine g_lv [2, 3, 4, 5, 6] (lv' := [(0, .ref b), (1, .ref xa), (2, .ref (ma 0)), (3, .ref oa), (4, .int (nI (4 * q)))]) rfl ?_
    refine g_wid (k' := 60 + (q + 1)) (n' := 1010 + 6 * (q + 1)) (by omega) (by omega) ?_
    exact hnext _ _ _ _ _ _ _ _ _ _ _ hI9
  obtain ⟨h1, h2⟩ := orB h
  have hI9 : LI t n (kG G o z g) (upd g (6 * r + 4) w9) (kO o z) (kM z + 1) (ySv g sv z) := LI_keep hI (lStickI hI.2.2.2.1 h1 h2)
  have eR : (g (6 * r + 4) : Int32) = g (6 * r + 4) := rfl
  refine g_aload_n C dL_law_216 1 rfl ?_
  refine g_aload_n C dL_law_217 0 rfl ?_
  refine g_iload C dL_law_218 4 rfl ?_
  refine g_iconst C (v := 1) dL_law_220 ci_1 ?_
  refine g_iadd C (v := nI (4 * q + 1)) dL_law_221 (nI_add _ 1) ?_
  refine g_sld C (x := nI r) hX hbl (fun z9 => absurd hbl (Nat.not_lt.mpr z9)) (by omega) (4 * q + 1) rfl (by omega) e1 dL_law_222 ?_
  refine g_aload_n C dL_law_223 0 rfl ?_
  refine g_iload C dL_law_224 4 rfl ?_
  refine g_iconst C (v := 2) dL_law_226 ci_2 ?_
  refine g_iadd C (v := nI (4 * q + 2)) dL_law_227 (nI_add _ 2) ?_
  refine g_sld C (x := w9) hX hbl (fun z9 => absurd hbl (Nat.not_lt.mpr z9)) (by omega) (4 * q + 2) rfl (by omega) e2 dL_law_228 ?_
  refine g_aload_n C dL_law_229 3 rfl ?_
  refine g_callSW C hZ (w_L_stick l hl D cI cO cJ xa ta ha hb ad t n G g o z hI.1 hI.2.1 hI.2.2.1 r hr w9 h1 h2 oa oj) gL_law_L_stick rfl ⟨rfl, rfl⟩ hd_L_stick ⟨Nat.le_of_ble_eq_true rfl, Nat.le_of_ble_eq_true rfl⟩ [0, 1, 2] rfl (sF_w hF) rfl (rest := []) rfl (Nat.le_of_ble_eq_true rfl) dL_law_230 ⟨(by show _ + 1 ≤ 621006; omega), (by show _ + 6 ≤ 7233085; omega)⟩ (pre := []) (post := (wM ma cI th g a9 sv z t n dg)) (ws' := ((wS0 xa ad ha ta) ++ ((wT ta cI t (nI n)) ++ ((wHs ha hb cI cO (kG G o z g) (nI (kO o z)) (nI (kM z + 1))) ++ ((wB ad cI (upd g (6 * r + 4) w9)) ++ ((wO oa cJ (vp_updL oj 0 (g (6 * r + 4)).toInt64)) ++ (wM ma cI th g a9 sv z t n dg))))))) rfl rfl ?_
  refine g_istore C (lv' := [(5, .int 0), (0, .ref b), (1, .ref xa), (2, .ref (ma 0)), (3, .ref oa), (4, .int (nI (4 * q)))]) dL_law_233 (by decide) rfl ?_
  refine g_aload_n C dL_law_235 3 rfl ?_
  refine g_aload_n C dL_law_236 1 rfl ?_
  refine g_iload C dL_law_237 5 rfl ?_
  refine g_iconst C (v := 1) dL_law_239 ci_1 ?_
  refine g_iadd C (v := nI (4 * q + 1)) dL_law_240 (nI_add _ 1) ?_
  refine g_sld C (x := nI r) hX hbl (fun z9 => absurd hbl (Nat.not_lt.mpr z9)) (by omega) (4 * q + 1) rfl (by omega) e1 dL_law_241 ?_
  refine g_aload_n C dL_law_242 1 rfl ?_
  refine g_iload C dL_law_243 5 rfl ?_
  refine g_iconst C (v := 2) dL_law_245 ci_2 ?_
  refine g_iadd C (v := nI (4 * q + 2)) dL_law_246 (nI_add _ 2) ?_
  refine g_sld C (x := w9) hX hbl (fun z9 => absurd hbl (Nat.not_lt.mpr z9)) (by omega) (4 * q + 2) rfl (by omega) e2 dL_law_247 ?_
  refine g_callVi C (c_X4_stick l D cI cO ma th g a9 sv z t n dg hI.1 hI.2.2.1 r hr w9 h1 h2) gL_law_X4_stick rfl ⟨rfl, rfl⟩ hd_X4_stick ⟨Nat.le_of_ble_eq_true rfl, Nat.le_of_ble_eq_true rfl⟩ [0, 1] rfl (fun _ _ => trivial) rfl (rest := []) rfl (Nat.le_of_ble_eq_true rfl) dL_law_248 ⟨(by show _ ≤ 621006; omega), (by show _ ≤ 7233085; omega)⟩ 0 rfl rfl rfl (pre := ((wS0 xa ad ha ta) ++ ((wT ta cI t (nI n)) ++ ((wHs ha hb cI cO (kG G o z g) (nI (kO o z)) (nI (kM z + 1))) ++ ((wB ad cI (upd g (6 * r + 4) w9)) ++ (wO oa cJ (vp_updL oj 0 (g (6 * r + 4)).toInt64))))))) (post := []) (ws' := ((wS0 xa ad ha ta) ++ ((wT ta cI t (nI n)) ++ ((wHs ha hb cI cO (kG G o z g) (nI (kO o z)) (nI (kM z + 1))) ++ ((wB ad cI (upd g (6 * r + 4) w9)) ++ ((wO oa cJ (vp_updL oj 0 (g (6 * r + 4)).toInt64)) ++ (wM ma cI 0 (upd g (6 * r + 4) w9) a9 (ySv g sv z) (kM z + 1) t n dg))))))) rfl rfl ?_
  refine g_istore C (lv' := [(6, .int (g (6 * r + 4))), (5, .int 0), (0, .ref b), (1, .ref xa), (2, .ref (ma 0)), (3, .ref oa), (4, .int (nI (4 * q)))]) dL_law_251 (by decide) rfl ?_
  refine g_aload_n C dL_law_253 4 rfl ?_
  refine g_callVi C (c_X4_thrown l D cI cO ma 0 (upd g (6 * r + 4) w9) a9 (ySv g sv z) (kM z + 1) t n dg hI9.1 hI9.2.2.1) gL_law_X4_thrown rfl ⟨rfl, rfl⟩ hd_X4_thrown ⟨Nat.le_of_ble_eq_true rfl, Nat.le_of_ble_eq_true rfl⟩ [0, 1] rfl (fun _ _ => trivial) rfl (rest := []) rfl (Nat.le_of_ble_eq_true rfl) dL_law_254 ⟨(by show _ ≤ 621006; omega), (by show _ ≤ 7233085; omega)⟩ 0 rfl rfl rfl (pre := ((wS0 xa ad ha ta) ++ ((wT ta cI t (nI n)) ++ ((wHs ha hb cI cO (kG G o z g) (nI (kO o z)) (nI (kM z + 1))) ++ ((wB ad cI (upd g (6 * r + 4) w9)) ++ (wO oa cJ (vp_updL oj 0 (g (6 * r + 4)).toInt64))))))) (post := []) (ws' := ((wS0 xa ad ha ta) ++ ((wT ta cI t (nI n)) ++ ((wHs ha hb cI cO (kG G o z g) (nI (kO o z)) (nI (kM z + 1))) ++ ((wB ad cI (upd g (6 * r + 4) w9)) ++ ((wO oa cJ (vp_updL oj 0 (g (6 * r + 4)).toInt64)) ++ (wM ma cI 0 (upd g (6 * r + 4) w9) a9 (ySv g sv z) (kM z + 1) t n dg))))))) rfl rfl ?_
  refine g_iload C dL_law_257 1 rfl ?_
  refine g_icmp_eq C (tgt := 264) dL_law_259 (by decide) (fun _ => ?_) (fun h259_1 => absurd (by decide) h259_1)
  refine g_iload C dL_law_264 1 rfl ?_
  refine g_if_ne C (tgt := 281) dL_law_266 (by decide) (fun h266_2 => absurd (by decide) h266_2) (fun _ => ?_)
  refine g_aload_n C dL_law_269 5 rfl ?_
  refine g_iconst C (v := 0) dL_law_270 ci_0 ?_
  refine g_lald C (x := (vp_updL oj 0 (g (6 * r + 4)).toInt64) 0) 54 2 rfl rfl 0 rfl (by decide) (by decide) rfl dL_law_271 ?_
  refine g_iload C dL_law_272 0 rfl ?_
  refine g_i2l C (v := (g (6 * r + 4)).toInt64) dL_law_274 rfl ?_
  refine g_lcmp C (v := lg_cmp ((vp_updL oj 0 (g (6 * r + 4)).toInt64) 0) ((g (6 * r + 4)).toInt64)) dL_law_275 rfl ?_
  refine g_if_eq C (tgt := 281) dL_law_276 (by decide) (fun _ => ?_) (fun h276_3 => absurd (lgz (by rw [pk_uLs, eR])) h276_3)
  refine g_goto C (tgt := 1113) dL_law_281 (by decide) ?_
  refine g_lv [2, 3, 4, 5, 6] (lv' := [(0, .ref b), (1, .ref xa), (2, .ref (ma 0)), (3, .ref oa), (4, .int (nI (4 * q)))]) rfl ?_
  refine g_wid (k' := 60 + (q + 1)) (n' := 1010 + 6 * (q + 1)) (by omega) (by omega) ?_
  exact hnext _ _ _ _ _ _ _ _ _ _ _ hI9
theorem hd_L_set : yL_set.cls ≠ "java/lang/invoke/MethodHandle" ∧ yL_set.cls ≠ "java/lang/invoke/VarHandle" ∧ (parseMethodDescriptor yL_set.desc).map (fun d => d.parameters.length) = some 3 := by decide +kernel
theorem hd_X4_set : yX4_set.cls = RX4 ∧ yX4_set.cls ≠ "java/lang/invoke/MethodHandle" ∧ yX4_set.cls ≠ "java/lang/invoke/VarHandle" ∧ (parseMethodDescriptor yX4_set.desc).map (fun d => d.parameters.length) = some 1 := by decide +kernel
set_option maxHeartbeats 2000000 in
set_option maxRecDepth 100000 in
theorem law_set {p : Program} {l : Launch} {e : Env} {s : State} {m : MethodId} {below : List Frame} {meth : Method} {c : Code} {D : va_G} {cI cO cJ : ClassId} {b L : Nat} {xs : Nat → Int32} {Q9 : State → Prop} (hl : l.stackTraces = false) (hL : L ≤ 2048) (C : gC p s m (#[.ref b] : Array Value) c cL_law RL wsL_law D vwCl (tyW cI cO cJ) (fun q9 => s.heap.size ≤ q9) s.heap 9) (hF : sF s.vm) (hZ : zF (fun q9 => s.heap.size ≤ q9) s s.heap) (hX : va_X b L xs s s.heap) (hbl : b < s.heap.size) {xa oa : Nat} {ta ha : Nat → Nat} {hb : Nat → Nat → Nat} {ad ma : Nat → Nat} (q : Nat) (hq : 4 * q + 4 ≤ L) (t : Nat → Int32) (n : Nat) (G : Nat → Nat → Int32) (g : Nat → Int32) (o z : Nat) (th : Int32) (a9 sv : Nat → Int32) (dg : Int64) (oj : Nat → Int64) (hI : LI t n G g o z sv) (hnext : (∀ (t : Nat → Int32) (n : Nat) (G : Nat → Nat → Int32) (g : Nat → Int32) (o z : Nat) (th : Int32) (a9 sv : Nat → Int32) (dg : Int64) (oj : Nat → Int64), LI t n G g o z sv → gG p l e room_1 s m (#[.ref b] : Array Value) below meth c D vwCl (fun q9 => s.heap.size ≤ q9) s.heap 9 Q9 (60 + (q + 1)) (1010 + 6 * (q + 1)) ((wS0 xa ad ha ta) ++ ((wT ta cI t (nI n)) ++ ((wHs ha hb cI cO G (nI o) (nI z)) ++ ((wB ad cI g) ++ ((wO oa cJ oj) ++ (wM ma cI th g a9 sv z t n dg)))))) 1113 [(0, .ref b), (1, .ref xa), (2, .ref (ma 0)), (3, .ref oa), (4, .int (nI (4 * q)))] [])) : gG p l e room_1 s m (#[.ref b] : Array Value) below meth c D vwCl (fun q9 => s.heap.size ≤ q9) s.heap 9 Q9 (60 + q) (1010 + 6 * q) ((wS0 xa ad ha ta) ++ ((wT ta cI t (nI n)) ++ ((wHs ha hb cI cO G (nI o) (nI z)) ++ ((wB ad cI g) ++ ((wO oa cJ oj) ++ (wM ma cI th g a9 sv z t n dg)))))) 284 [(0, .ref b), (1, .ref xa), (2, .ref (ma 0)), (3, .ref oa), (4, .int (nI (4 * q)))] [] := by
  obtain ⟨v, e1⟩ : ∃ x9, xs (4 * q + 1) = x9 := ⟨_, rfl⟩
  by_cases h : v < 0 ∨ ¬ v ≤ 9
  · have hI9 : LI t n G g o z sv := hI
    refine g_aload_n C dL_law_284 1 rfl ?_
    refine g_aload_n C dL_law_285 0 rfl ?_
    refine g_iload C dL_law_286 4 rfl ?_
    refine g_iconst C (v := 1) dL_law_288 ci_1 ?_
    refine g_iadd C (v := nI (4 * q + 1)) dL_law_289 (nI_add _ 1) ?_
    refine g_sld C (x := v) hX hbl (fun z9 => absurd hbl (Nat.not_lt.mpr z9)) (by omega) (4 * q + 1) rfl (by omega) e1 dL_law_290 ?_
    refine g_aload_n C dL_law_291 3 rfl ?_
    refine g_callSW C hZ (w_L_set_1 l hl D cI cO cJ xa ta ha hb ad t n G g o z hI.1 hI.2.1 hI.2.2.1 v h oa oj) gL_law_L_set rfl ⟨rfl, rfl⟩ hd_L_set ⟨Nat.le_of_ble_eq_true rfl, Nat.le_of_ble_eq_true rfl⟩ [0, 1, 2] rfl (sF_w hF) rfl (rest := []) rfl (Nat.le_of_ble_eq_true rfl) dL_law_292 ⟨(by show _ + 1 ≤ 621006; omega), (by show _ + 6 ≤ 7233085; omega)⟩ (pre := []) (post := (wM ma cI th g a9 sv z t n dg)) (ws' := ((wS0 xa ad ha ta) ++ ((wT ta cI t (nI n)) ++ ((wHs ha hb cI cO G (nI o) (nI z)) ++ ((wB ad cI g) ++ ((wO oa cJ oj) ++ (wM ma cI th g a9 sv z t n dg))))))) rfl rfl ?_
    refine g_istore C (lv' := [(5, .int 1), (0, .ref b), (1, .ref xa), (2, .ref (ma 0)), (3, .ref oa), (4, .int (nI (4 * q)))]) dL_law_295 (by decide) rfl ?_
    refine g_aload_n C dL_law_297 3 rfl ?_
    refine g_aload_n C dL_law_298 1 rfl ?_
    refine g_iload C dL_law_299 5 rfl ?_
    refine g_iconst C (v := 1) dL_law_301 ci_1 ?_
    refine g_iadd C (v := nI (4 * q + 1)) dL_law_302 (nI_add _ 1) ?_
    refine g_sld C (x := v) hX hbl (fun z9 => absurd hbl (Nat.not_lt.mpr z9)) (by omega) (4 * q + 1) rfl (by omega) e1 dL_law_303 ?_
    refine g_callVi C (c_X4_set_1 l D cI cO ma th g a9 sv z t n dg hI.1 hI.2.2.1 v h) gL_law_X4_set rfl ⟨rfl, rfl⟩ hd_X4_set ⟨Nat.le_of_ble_eq_true rfl, Nat.le_of_ble_eq_true rfl⟩ [0, 1] rfl (fun _ _ => trivial) rfl (rest := []) rfl (Nat.le_of_ble_eq_true rfl) dL_law_304 ⟨(by show _ ≤ 621006; omega), (by show _ ≤ 7233085; omega)⟩ 0 rfl rfl rfl (pre := ((wS0 xa ad ha ta) ++ ((wT ta cI t (nI n)) ++ ((wHs ha hb cI cO G (nI o) (nI z)) ++ ((wB ad cI g) ++ (wO oa cJ oj)))))) (post := []) (ws' := ((wS0 xa ad ha ta) ++ ((wT ta cI t (nI n)) ++ ((wHs ha hb cI cO G (nI o) (nI z)) ++ ((wB ad cI g) ++ ((wO oa cJ oj) ++ (wM ma cI 1 g a9 sv z t n dg))))))) rfl rfl ?_
    refine g_istore C (lv' := [(6, .int 0), (5, .int 1), (0, .ref b), (1, .ref xa), (2, .ref (ma 0)), (3, .ref oa), (4, .int (nI (4 * q)))]) dL_law_307 (by decide) rfl ?_
    refine g_aload_n C dL_law_309 4 rfl ?_
    refine g_callVi C (c_X4_thrown l D cI cO ma 1 g a9 sv z t n dg hI9.1 hI9.2.2.1) gL_law_X4_thrown rfl ⟨rfl, rfl⟩ hd_X4_thrown ⟨Nat.le_of_ble_eq_true rfl, Nat.le_of_ble_eq_true rfl⟩ [0, 1] rfl (fun _ _ => trivial) rfl (rest := []) rfl (Nat.le_of_ble_eq_true rfl) dL_law_310 ⟨(by show _ ≤ 621006; omega), (by show _ ≤ 7233085; omega)⟩ 0 rfl rfl rfl (pre := ((wS0 xa ad ha ta) ++ ((wT ta cI t (nI n)) ++ ((wHs ha hb cI cO G (nI o) (nI z)) ++ ((wB ad cI g) ++ (wO oa cJ oj)))))) (post := []) (ws' := ((wS0 xa ad ha ta) ++ ((wT ta cI t (nI n)) ++ ((wHs ha hb cI cO G (nI o) (nI z)) ++ ((wB ad cI g) ++ ((wO oa cJ oj) ++ (wM ma cI 1 g a9 sv z t n dg))))))) rfl rfl ?_
    refine g_iload C dL_law_313 1 rfl ?_
    refine g_icmp_eq C (tgt := 320) dL_law_315 (by decide) (fun _ => ?_) (fun h315_1 => absurd (by decide) h315_1)
    refine g_iload C dL_law_320 1 rfl ?_
    refine g_if_ne C (tgt := 337) dL_law_322 (by decide) (fun _ => ?_) (fun h322_2 => absurd h322_2 (by decide))
    refine g_goto C (tgt := 1113) dL_law_337 (by decide) ?_
    refine g_lv [2, 3, 4, 5, 6] (lv' := [(0, .ref b), (1, .ref xa), (2, .ref (ma 0)), (3, .ref oa), (4, .int (nI (4 * q)))]) rfl ?_
    refine g_wid (k' := 60 + (q + 1)) (n' := 1010 + 6 * (q + 1)) (by omega) (by omega) ?_
    exact hnext _ _ _ _ _ _ _ _ _ _ _ hI9
  obtain ⟨h1, h2⟩ := orB h
  have hI9 : LI t n (kG G o z g) (upd g 0 v) (kO o z) (kM z + 1) (ySv g sv z) := LI_keep hI (lSetI hI.2.2.2.1 h1 h2)
  have eR : (g 0 : Int32) = g 0 := rfl
  refine g_aload_n C dL_law_284 1 rfl ?_
  refine g_aload_n C dL_law_285 0 rfl ?_
  refine g_iload C dL_law_286 4 rfl ?_
  refine g_iconst C (v := 1) dL_law_288 ci_1 ?_
  refine g_iadd C (v := nI (4 * q + 1)) dL_law_289 (nI_add _ 1) ?_
  refine g_sld C (x := v) hX hbl (fun z9 => absurd hbl (Nat.not_lt.mpr z9)) (by omega) (4 * q + 1) rfl (by omega) e1 dL_law_290 ?_
  refine g_aload_n C dL_law_291 3 rfl ?_
  refine g_callSW C hZ (w_L_set l hl D cI cO cJ xa ta ha hb ad t n G g o z hI.1 hI.2.1 hI.2.2.1 v h1 h2 oa oj) gL_law_L_set rfl ⟨rfl, rfl⟩ hd_L_set ⟨Nat.le_of_ble_eq_true rfl, Nat.le_of_ble_eq_true rfl⟩ [0, 1, 2] rfl (sF_w hF) rfl (rest := []) rfl (Nat.le_of_ble_eq_true rfl) dL_law_292 ⟨(by show _ + 1 ≤ 621006; omega), (by show _ + 6 ≤ 7233085; omega)⟩ (pre := []) (post := (wM ma cI th g a9 sv z t n dg)) (ws' := ((wS0 xa ad ha ta) ++ ((wT ta cI t (nI n)) ++ ((wHs ha hb cI cO (kG G o z g) (nI (kO o z)) (nI (kM z + 1))) ++ ((wB ad cI (upd g 0 v)) ++ ((wO oa cJ (vp_updL oj 0 (g 0).toInt64)) ++ (wM ma cI th g a9 sv z t n dg))))))) rfl rfl ?_
  refine g_istore C (lv' := [(5, .int 0), (0, .ref b), (1, .ref xa), (2, .ref (ma 0)), (3, .ref oa), (4, .int (nI (4 * q)))]) dL_law_295 (by decide) rfl ?_
  refine g_aload_n C dL_law_297 3 rfl ?_
  refine g_aload_n C dL_law_298 1 rfl ?_
  refine g_iload C dL_law_299 5 rfl ?_
  refine g_iconst C (v := 1) dL_law_301 ci_1 ?_
  refine g_iadd C (v := nI (4 * q + 1)) dL_law_302 (nI_add _ 1) ?_
  refine g_sld C (x := v) hX hbl (fun z9 => absurd hbl (Nat.not_lt.mpr z9)) (by omega) (4 * q + 1) rfl (by omega) e1 dL_law_303 ?_
  refine g_callVi C (c_X4_set l D cI cO ma th g a9 sv z t n dg hI.1 hI.2.2.1 v h1 h2) gL_law_X4_set rfl ⟨rfl, rfl⟩ hd_X4_set ⟨Nat.le_of_ble_eq_true rfl, Nat.le_of_ble_eq_true rfl⟩ [0, 1] rfl (fun _ _ => trivial) rfl (rest := []) rfl (Nat.le_of_ble_eq_true rfl) dL_law_304 ⟨(by show _ ≤ 621006; omega), (by show _ ≤ 7233085; omega)⟩ 0 rfl rfl rfl (pre := ((wS0 xa ad ha ta) ++ ((wT ta cI t (nI n)) ++ ((wHs ha hb cI cO (kG G o z g) (nI (kO o z)) (nI (kM z + 1))) ++ ((wB ad cI (upd g 0 v)) ++ (wO oa cJ (vp_updL oj 0 (g 0).toInt64))))))) (post := []) (ws' := ((wS0 xa ad ha ta) ++ ((wT ta cI t (nI n)) ++ ((wHs ha hb cI cO (kG G o z g) (nI (kO o z)) (nI (kM z + 1))) ++ ((wB ad cI (upd g 0 v)) ++ ((wO oa cJ (vp_updL oj 0 (g 0).toInt64)) ++ (wM ma cI 0 (upd g 0 v) a9 (ySv g sv z) (kM z + 1) t n dg))))))) rfl rfl ?_
  refine g_istore C (lv' := [(6, .int (g 0)), (5, .int 0), (0, .ref b), (1, .ref xa), (2, .ref (ma 0)), (3, .ref oa), (4, .int (nI (4 * q)))]) dL_law_307 (by decide) rfl ?_
  refine g_aload_n C dL_law_309 4 rfl ?_
  refine g_callVi C (c_X4_thrown l D cI cO ma 0 (upd g 0 v) a9 (ySv g sv z) (kM z + 1) t n dg hI9.1 hI9.2.2.1) gL_law_X4_thrown rfl ⟨rfl, rfl⟩ hd_X4_thrown ⟨Nat.le_of_ble_eq_true rfl, Nat.le_of_ble_eq_true rfl⟩ [0, 1] rfl (fun _ _ => trivial) rfl (rest := []) rfl (Nat.le_of_ble_eq_true rfl) dL_law_310 ⟨(by show _ ≤ 621006; omega), (by show _ ≤ 7233085; omega)⟩ 0 rfl rfl rfl (pre := ((wS0 xa ad ha ta) ++ ((wT ta cI t (nI n)) ++ ((wHs ha hb cI cO (kG G o z g) (nI (kO o z)) (nI (kM z + 1))) ++ ((wB ad cI (upd g 0 v)) ++ (wO oa cJ (vp_updL oj 0 (g 0).toInt64))))))) (post := []) (ws' := ((wS0 xa ad ha ta) ++ ((wT ta cI t (nI n)) ++ ((wHs ha hb cI cO (kG G o z g) (nI (kO o z)) (nI (kM z + 1))) ++ ((wB ad cI (upd g 0 v)) ++ ((wO oa cJ (vp_updL oj 0 (g 0).toInt64)) ++ (wM ma cI 0 (upd g 0 v) a9 (ySv g sv z) (kM z + 1) t n dg))))))) rfl rfl ?_
  refine g_iload C dL_law_313 1 rfl ?_
  refine g_icmp_eq C (tgt := 320) dL_law_315 (by decide) (fun _ => ?_) (fun h315_1 => absurd (by decide) h315_1)
  refine g_iload C dL_law_320 1 rfl ?_
  refine g_if_ne C (tgt := 337) dL_law_322 (by decide) (fun h322_2 => absurd (by decide) h322_2) (fun _ => ?_)
  refine g_aload_n C dL_law_325 5 rfl ?_
  refine g_iconst C (v := 0) dL_law_326 ci_0 ?_
  refine g_lald C (x := (vp_updL oj 0 (g 0).toInt64) 0) 54 2 rfl rfl 0 rfl (by decide) (by decide) rfl dL_law_327 ?_
  refine g_iload C dL_law_328 0 rfl ?_
  refine g_i2l C (v := (g 0).toInt64) dL_law_330 rfl ?_
  refine g_lcmp C (v := lg_cmp ((vp_updL oj 0 (g 0).toInt64) 0) ((g 0).toInt64)) dL_law_331 rfl ?_
  refine g_if_eq C (tgt := 337) dL_law_332 (by decide) (fun _ => ?_) (fun h332_3 => absurd (lgz (by rw [pk_uLs, eR])) h332_3)
  refine g_goto C (tgt := 1113) dL_law_337 (by decide) ?_
  refine g_lv [2, 3, 4, 5, 6] (lv' := [(0, .ref b), (1, .ref xa), (2, .ref (ma 0)), (3, .ref oa), (4, .int (nI (4 * q)))]) rfl ?_
  refine g_wid (k' := 60 + (q + 1)) (n' := 1010 + 6 * (q + 1)) (by omega) (by omega) ?_
  exact hnext _ _ _ _ _ _ _ _ _ _ _ hI9
theorem hd_L_add : yL_add.cls ≠ "java/lang/invoke/MethodHandle" ∧ yL_add.cls ≠ "java/lang/invoke/VarHandle" ∧ (parseMethodDescriptor yL_add.desc).map (fun d => d.parameters.length) = some 4 := by decide +kernel
theorem hd_X4_add : yX4_add.cls = RX4 ∧ yX4_add.cls ≠ "java/lang/invoke/MethodHandle" ∧ yX4_add.cls ≠ "java/lang/invoke/VarHandle" ∧ (parseMethodDescriptor yX4_add.desc).map (fun d => d.parameters.length) = some 2 := by decide +kernel
set_option maxHeartbeats 2000000 in
set_option maxRecDepth 100000 in
theorem law_add {p : Program} {l : Launch} {e : Env} {s : State} {m : MethodId} {below : List Frame} {meth : Method} {c : Code} {D : va_G} {cI cO cJ : ClassId} {b L : Nat} {xs : Nat → Int32} {Q9 : State → Prop} (hl : l.stackTraces = false) (hL : L ≤ 2048) (C : gC p s m (#[.ref b] : Array Value) c cL_law RL wsL_law D vwCl (tyW cI cO cJ) (fun q9 => s.heap.size ≤ q9) s.heap 9) (hF : sF s.vm) (hZ : zF (fun q9 => s.heap.size ≤ q9) s s.heap) (hX : va_X b L xs s s.heap) (hbl : b < s.heap.size) {xa oa : Nat} {ta ha : Nat → Nat} {hb : Nat → Nat → Nat} {ad ma : Nat → Nat} (q : Nat) (hq : 4 * q + 4 ≤ L) (t : Nat → Int32) (n : Nat) (G : Nat → Nat → Int32) (g : Nat → Int32) (o z : Nat) (th : Int32) (a9 sv : Nat → Int32) (dg : Int64) (oj : Nat → Int64) (hI : LI t n G g o z sv) (hnext : (∀ (t : Nat → Int32) (n : Nat) (G : Nat → Nat → Int32) (g : Nat → Int32) (o z : Nat) (th : Int32) (a9 sv : Nat → Int32) (dg : Int64) (oj : Nat → Int64), LI t n G g o z sv → gG p l e room_1 s m (#[.ref b] : Array Value) below meth c D vwCl (fun q9 => s.heap.size ≤ q9) s.heap 9 Q9 (60 + (q + 1)) (1010 + 6 * (q + 1)) ((wS0 xa ad ha ta) ++ ((wT ta cI t (nI n)) ++ ((wHs ha hb cI cO G (nI o) (nI z)) ++ ((wB ad cI g) ++ ((wO oa cJ oj) ++ (wM ma cI th g a9 sv z t n dg)))))) 1113 [(0, .ref b), (1, .ref xa), (2, .ref (ma 0)), (3, .ref oa), (4, .int (nI (4 * q)))] [])) : gG p l e room_1 s m (#[.ref b] : Array Value) below meth c D vwCl (fun q9 => s.heap.size ≤ q9) s.heap 9 Q9 (60 + q) (1010 + 6 * q) ((wS0 xa ad ha ta) ++ ((wT ta cI t (nI n)) ++ ((wHs ha hb cI cO G (nI o) (nI z)) ++ ((wB ad cI g) ++ ((wO oa cJ oj) ++ (wM ma cI th g a9 sv z t n dg)))))) 340 [(0, .ref b), (1, .ref xa), (2, .ref (ma 0)), (3, .ref oa), (4, .int (nI (4 * q)))] [] := by
  obtain ⟨v9, e1⟩ : ∃ x9, xs (4 * q + 1) = x9 := ⟨_, rfl⟩
  obtain ⟨n9, e2⟩ : ∃ x9, xs (4 * q + 2) = x9 := ⟨_, rfl⟩
  by_cases h : v9 < 0 ∨ ¬ v9 < 9
  · have hI9 : LI t n G g o z sv := hI
    refine g_aload_n C dL_law_340 1 rfl ?_
    refine g_aload_n C dL_law_341 0 rfl ?_
    refine g_iload C dL_law_342 4 rfl ?_
    refine g_iconst C (v := 1) dL_law_344 ci_1 ?_
    refine g_iadd C (v := nI (4 * q + 1)) dL_law_345 (nI_add _ 1) ?_
    refine g_sld C (x := v9) hX hbl (fun z9 => absurd hbl (Nat.not_lt.mpr z9)) (by omega) (4 * q + 1) rfl (by omega) e1 dL_law_346 ?_
    refine g_aload_n C dL_law_347 0 rfl ?_
    refine g_iload C dL_law_348 4 rfl ?_
    refine g_iconst C (v := 2) dL_law_350 ci_2 ?_
    refine g_iadd C (v := nI (4 * q + 2)) dL_law_351 (nI_add _ 2) ?_
    refine g_sld C (x := n9) hX hbl (fun z9 => absurd hbl (Nat.not_lt.mpr z9)) (by omega) (4 * q + 2) rfl (by omega) e2 dL_law_352 ?_
    refine g_aload_n C dL_law_353 3 rfl ?_
    refine g_callSW C hZ (w_L_add_1 l hl D cI cO cJ xa ta ha hb ad t n G g o z hI.1 hI.2.1 hI.2.2.1 v9 n9 h oa oj) gL_law_L_add rfl ⟨rfl, rfl⟩ hd_L_add ⟨Nat.le_of_ble_eq_true rfl, Nat.le_of_ble_eq_true rfl⟩ [0, 1, 2] rfl (sF_w hF) rfl (rest := []) rfl (Nat.le_of_ble_eq_true rfl) dL_law_354 ⟨(by show _ + 1 ≤ 621006; omega), (by show _ + 6 ≤ 7233085; omega)⟩ (pre := []) (post := (wM ma cI th g a9 sv z t n dg)) (ws' := ((wS0 xa ad ha ta) ++ ((wT ta cI t (nI n)) ++ ((wHs ha hb cI cO G (nI o) (nI z)) ++ ((wB ad cI g) ++ ((wO oa cJ oj) ++ (wM ma cI th g a9 sv z t n dg))))))) rfl rfl ?_
    refine g_istore C (lv' := [(5, .int 1), (0, .ref b), (1, .ref xa), (2, .ref (ma 0)), (3, .ref oa), (4, .int (nI (4 * q)))]) dL_law_357 (by decide) rfl ?_
    refine g_aload_n C dL_law_359 3 rfl ?_
    refine g_aload_n C dL_law_360 1 rfl ?_
    refine g_iload C dL_law_361 5 rfl ?_
    refine g_iconst C (v := 1) dL_law_363 ci_1 ?_
    refine g_iadd C (v := nI (4 * q + 1)) dL_law_364 (nI_add _ 1) ?_
    refine g_sld C (x := v9) hX hbl (fun z9 => absurd hbl (Nat.not_lt.mpr z9)) (by omega) (4 * q + 1) rfl (by omega) e1 dL_law_365 ?_
    refine g_aload_n C dL_law_366 1 rfl ?_
    refine g_iload C dL_law_367 5 rfl ?_
    refine g_iconst C (v := 2) dL_law_369 ci_2 ?_
    refine g_iadd C (v := nI (4 * q + 2)) dL_law_370 (nI_add _ 2) ?_
    refine g_sld C (x := n9) hX hbl (fun z9 => absurd hbl (Nat.not_lt.mpr z9)) (by omega) (4 * q + 2) rfl (by omega) e2 dL_law_371 ?_
    refine g_callVi C (c_X4_add_1 l D cI cO ma th g a9 sv z t n dg hI.1 hI.2.2.1 v9 h n9) gL_law_X4_add rfl ⟨rfl, rfl⟩ hd_X4_add ⟨Nat.le_of_ble_eq_true rfl, Nat.le_of_ble_eq_true rfl⟩ [0, 1] rfl (fun _ _ => trivial) rfl (rest := []) rfl (Nat.le_of_ble_eq_true rfl) dL_law_372 ⟨(by show _ ≤ 621006; omega), (by show _ ≤ 7233085; omega)⟩ 0 rfl rfl rfl (pre := ((wS0 xa ad ha ta) ++ ((wT ta cI t (nI n)) ++ ((wHs ha hb cI cO G (nI o) (nI z)) ++ ((wB ad cI g) ++ (wO oa cJ oj)))))) (post := []) (ws' := ((wS0 xa ad ha ta) ++ ((wT ta cI t (nI n)) ++ ((wHs ha hb cI cO G (nI o) (nI z)) ++ ((wB ad cI g) ++ ((wO oa cJ oj) ++ (wM ma cI 1 g a9 sv z t n dg))))))) rfl rfl ?_
    refine g_istore C (lv' := [(6, .int 0), (5, .int 1), (0, .ref b), (1, .ref xa), (2, .ref (ma 0)), (3, .ref oa), (4, .int (nI (4 * q)))]) dL_law_375 (by decide) rfl ?_
    refine g_aload_n C dL_law_377 4 rfl ?_
    refine g_callVi C (c_X4_thrown l D cI cO ma 1 g a9 sv z t n dg hI9.1 hI9.2.2.1) gL_law_X4_thrown rfl ⟨rfl, rfl⟩ hd_X4_thrown ⟨Nat.le_of_ble_eq_true rfl, Nat.le_of_ble_eq_true rfl⟩ [0, 1] rfl (fun _ _ => trivial) rfl (rest := []) rfl (Nat.le_of_ble_eq_true rfl) dL_law_378 ⟨(by show _ ≤ 621006; omega), (by show _ ≤ 7233085; omega)⟩ 0 rfl rfl rfl (pre := ((wS0 xa ad ha ta) ++ ((wT ta cI t (nI n)) ++ ((wHs ha hb cI cO G (nI o) (nI z)) ++ ((wB ad cI g) ++ (wO oa cJ oj)))))) (post := []) (ws' := ((wS0 xa ad ha ta) ++ ((wT ta cI t (nI n)) ++ ((wHs ha hb cI cO G (nI o) (nI z)) ++ ((wB ad cI g) ++ ((wO oa cJ oj) ++ (wM ma cI 1 g a9 sv z t n dg))))))) rfl rfl ?_
    refine g_iload C dL_law_381 1 rfl ?_
    refine g_icmp_eq C (tgt := 388) dL_law_383 (by decide) (fun _ => ?_) (fun h383_1 => absurd (by decide) h383_1)
    refine g_iload C dL_law_388 1 rfl ?_
    refine g_if_ne C (tgt := 405) dL_law_390 (by decide) (fun _ => ?_) (fun h390_2 => absurd h390_2 (by decide))
    refine g_goto C (tgt := 1113) dL_law_405 (by decide) ?_
    refine g_lv [2, 3, 4, 5, 6] (lv' := [(0, .ref b), (1, .ref xa), (2, .ref (ma 0)), (3, .ref oa), (4, .int (nI (4 * q)))]) rfl ?_
    refine g_wid (k' := 60 + (q + 1)) (n' := 1010 + 6 * (q + 1)) (by omega) (by omega) ?_
    exact hnext _ _ _ _ _ _ _ _ _ _ _ hI9
  obtain ⟨r, hr, rfl⟩ := orR h
  by_cases h : n9 < 1 ∨ ¬ n9 ≤ 9
  · have hI9 : LI t n G g o z sv := hI
    refine g_aload_n C dL_law_340 1 rfl ?_
    refine g_aload_n C dL_law_341 0 rfl ?_
    refine g_iload C dL_law_342 4 rfl ?_
    refine g_iconst C (v := 1) dL_law_344 ci_1 ?_
    refine g_iadd C (v := nI (4 * q + 1)) dL_law_345 (nI_add _ 1) ?_
    refine g_sld C (x := nI r) hX hbl (fun z9 => absurd hbl (Nat.not_lt.mpr z9)) (by omega) (4 * q + 1) rfl (by omega) e1 dL_law_346 ?_
    refine g_aload_n C dL_law_347 0 rfl ?_
    refine g_iload C dL_law_348 4 rfl ?_
    refine g_iconst C (v := 2) dL_law_350 ci_2 ?_
    refine g_iadd C (v := nI (4 * q + 2)) dL_law_351 (nI_add _ 2) ?_
    refine g_sld C (x := n9) hX hbl (fun z9 => absurd hbl (Nat.not_lt.mpr z9)) (by omega) (4 * q + 2) rfl (by omega) e2 dL_law_352 ?_
    refine g_aload_n C dL_law_353 3 rfl ?_
    refine g_callSW C hZ (w_L_add_2 l hl D cI cO cJ xa ta ha hb ad t n G g o z hI.1 hI.2.1 hI.2.2.1 r hr n9 h oa oj) gL_law_L_add rfl ⟨rfl, rfl⟩ hd_L_add ⟨Nat.le_of_ble_eq_true rfl, Nat.le_of_ble_eq_true rfl⟩ [0, 1, 2] rfl (sF_w hF) rfl (rest := []) rfl (Nat.le_of_ble_eq_true rfl) dL_law_354 ⟨(by show _ + 1 ≤ 621006; omega), (by show _ + 6 ≤ 7233085; omega)⟩ (pre := []) (post := (wM ma cI th g a9 sv z t n dg)) (ws' := ((wS0 xa ad ha ta) ++ ((wT ta cI t (nI n)) ++ ((wHs ha hb cI cO G (nI o) (nI z)) ++ ((wB ad cI g) ++ ((wO oa cJ oj) ++ (wM ma cI th g a9 sv z t n dg))))))) rfl rfl ?_
    refine g_istore C (lv' := [(5, .int 2), (0, .ref b), (1, .ref xa), (2, .ref (ma 0)), (3, .ref oa), (4, .int (nI (4 * q)))]) dL_law_357 (by decide) rfl ?_
    refine g_aload_n C dL_law_359 3 rfl ?_
    refine g_aload_n C dL_law_360 1 rfl ?_
    refine g_iload C dL_law_361 5 rfl ?_
    refine g_iconst C (v := 1) dL_law_363 ci_1 ?_
    refine g_iadd C (v := nI (4 * q + 1)) dL_law_364 (nI_add _ 1) ?_
    refine g_sld C (x := nI r) hX hbl (fun z9 => absurd hbl (Nat.not_lt.mpr z9)) (by omega) (4 * q + 1) rfl (by omega) e1 dL_law_365 ?_
    refine g_aload_n C dL_law_366 1 rfl ?_
    refine g_iload C dL_law_367 5 rfl ?_
    refine g_iconst C (v := 2) dL_law_369 ci_2 ?_
    refine g_iadd C (v := nI (4 * q + 2)) dL_law_370 (nI_add _ 2) ?_
    refine g_sld C (x := n9) hX hbl (fun z9 => absurd hbl (Nat.not_lt.mpr z9)) (by omega) (4 * q + 2) rfl (by omega) e2 dL_law_371 ?_
    refine g_callVi C (c_X4_add_2 l D cI cO ma th g a9 sv z t n dg hI.1 hI.2.2.1 r hr n9 h) gL_law_X4_add rfl ⟨rfl, rfl⟩ hd_X4_add ⟨Nat.le_of_ble_eq_true rfl, Nat.le_of_ble_eq_true rfl⟩ [0, 1] rfl (fun _ _ => trivial) rfl (rest := []) rfl (Nat.le_of_ble_eq_true rfl) dL_law_372 ⟨(by show _ ≤ 621006; omega), (by show _ ≤ 7233085; omega)⟩ 0 rfl rfl rfl (pre := ((wS0 xa ad ha ta) ++ ((wT ta cI t (nI n)) ++ ((wHs ha hb cI cO G (nI o) (nI z)) ++ ((wB ad cI g) ++ (wO oa cJ oj)))))) (post := []) (ws' := ((wS0 xa ad ha ta) ++ ((wT ta cI t (nI n)) ++ ((wHs ha hb cI cO G (nI o) (nI z)) ++ ((wB ad cI g) ++ ((wO oa cJ oj) ++ (wM ma cI 2 g a9 sv z t n dg))))))) rfl rfl ?_
    refine g_istore C (lv' := [(6, .int 0), (5, .int 2), (0, .ref b), (1, .ref xa), (2, .ref (ma 0)), (3, .ref oa), (4, .int (nI (4 * q)))]) dL_law_375 (by decide) rfl ?_
    refine g_aload_n C dL_law_377 4 rfl ?_
    refine g_callVi C (c_X4_thrown l D cI cO ma 2 g a9 sv z t n dg hI9.1 hI9.2.2.1) gL_law_X4_thrown rfl ⟨rfl, rfl⟩ hd_X4_thrown ⟨Nat.le_of_ble_eq_true rfl, Nat.le_of_ble_eq_true rfl⟩ [0, 1] rfl (fun _ _ => trivial) rfl (rest := []) rfl (Nat.le_of_ble_eq_true rfl) dL_law_378 ⟨(by show _ ≤ 621006; omega), (by show _ ≤ 7233085; omega)⟩ 0 rfl rfl rfl (pre := ((wS0 xa ad ha ta) ++ ((wT ta cI t (nI n)) ++ ((wHs ha hb cI cO G (nI o) (nI z)) ++ ((wB ad cI g) ++ (wO oa cJ oj)))))) (post := []) (ws' := ((wS0 xa ad ha ta) ++ ((wT ta cI t (nI n)) ++ ((wHs ha hb cI cO G (nI o) (nI z)) ++ ((wB ad cI g) ++ ((wO oa cJ oj) ++ (wM ma cI 2 g a9 sv z t n dg))))))) rfl rfl ?_
    refine g_iload C dL_law_381 1 rfl ?_
    refine g_icmp_eq C (tgt := 388) dL_law_383 (by decide) (fun _ => ?_) (fun h383_1 => absurd (by decide) h383_1)
    refine g_iload C dL_law_388 1 rfl ?_
    refine g_if_ne C (tgt := 405) dL_law_390 (by decide) (fun _ => ?_) (fun h390_2 => absurd h390_2 (by decide))
    refine g_goto C (tgt := 1113) dL_law_405 (by decide) ?_
    refine g_lv [2, 3, 4, 5, 6] (lv' := [(0, .ref b), (1, .ref xa), (2, .ref (ma 0)), (3, .ref oa), (4, .int (nI (4 * q)))]) rfl ?_
    refine g_wid (k' := 60 + (q + 1)) (n' := 1010 + 6 * (q + 1)) (by omega) (by omega) ?_
    exact hnext _ _ _ _ _ _ _ _ _ _ _ hI9
  obtain ⟨h1, h2⟩ := orB h
  by_cases h : (xCh g r (n9) 0).1 = -1
  · have hI9 : LI t n G g o z sv := hI
    refine g_aload_n C dL_law_340 1 rfl ?_
    refine g_aload_n C dL_law_341 0 rfl ?_
    refine g_iload C dL_law_342 4 rfl ?_
    refine g_iconst C (v := 1) dL_law_344 ci_1 ?_
    refine g_iadd C (v := nI (4 * q + 1)) dL_law_345 (nI_add _ 1) ?_
    refine g_sld C (x := nI r) hX hbl (fun z9 => absurd hbl (Nat.not_lt.mpr z9)) (by omega) (4 * q + 1) rfl (by omega) e1 dL_law_346 ?_
    refine g_aload_n C dL_law_347 0 rfl ?_
    refine g_iload C dL_law_348 4 rfl ?_
    refine g_iconst C (v := 2) dL_law_350 ci_2 ?_
    refine g_iadd C (v := nI (4 * q + 2)) dL_law_351 (nI_add _ 2) ?_
    refine g_sld C (x := n9) hX hbl (fun z9 => absurd hbl (Nat.not_lt.mpr z9)) (by omega) (4 * q + 2) rfl (by omega) e2 dL_law_352 ?_
    refine g_aload_n C dL_law_353 3 rfl ?_
    refine g_callSW C hZ (w_L_add_3 l hl D cI cO cJ xa ta ha hb ad t n G g o z hI.1 hI.2.1 hI.2.2.1 r hr n9 h1 h2 h oa oj) gL_law_L_add rfl ⟨rfl, rfl⟩ hd_L_add ⟨Nat.le_of_ble_eq_true rfl, Nat.le_of_ble_eq_true rfl⟩ [0, 1, 2] rfl (sF_w hF) rfl (rest := []) rfl (Nat.le_of_ble_eq_true rfl) dL_law_354 ⟨(by show _ + 1 ≤ 621006; omega), (by show _ + 6 ≤ 7233085; omega)⟩ (pre := []) (post := (wM ma cI th g a9 sv z t n dg)) (ws' := ((wS0 xa ad ha ta) ++ ((wT ta cI t (nI n)) ++ ((wHs ha hb cI cO G (nI o) (nI z)) ++ ((wB ad cI g) ++ ((wO oa cJ oj) ++ (wM ma cI th g a9 sv z t n dg))))))) rfl rfl ?_
    refine g_istore C (lv' := [(5, .int 3), (0, .ref b), (1, .ref xa), (2, .ref (ma 0)), (3, .ref oa), (4, .int (nI (4 * q)))]) dL_law_357 (by decide) rfl ?_
    refine g_aload_n C dL_law_359 3 rfl ?_
    refine g_aload_n C dL_law_360 1 rfl ?_
    refine g_iload C dL_law_361 5 rfl ?_
    refine g_iconst C (v := 1) dL_law_363 ci_1 ?_
    refine g_iadd C (v := nI (4 * q + 1)) dL_law_364 (nI_add _ 1) ?_
    refine g_sld C (x := nI r) hX hbl (fun z9 => absurd hbl (Nat.not_lt.mpr z9)) (by omega) (4 * q + 1) rfl (by omega) e1 dL_law_365 ?_
    refine g_aload_n C dL_law_366 1 rfl ?_
    refine g_iload C dL_law_367 5 rfl ?_
    refine g_iconst C (v := 2) dL_law_369 ci_2 ?_
    refine g_iadd C (v := nI (4 * q + 2)) dL_law_370 (nI_add _ 2) ?_
    refine g_sld C (x := n9) hX hbl (fun z9 => absurd hbl (Nat.not_lt.mpr z9)) (by omega) (4 * q + 2) rfl (by omega) e2 dL_law_371 ?_
    refine g_callVi C (c_X4_add_3 l D cI cO ma th g a9 sv z t n dg hI.1 hI.2.2.1 r hr n9 h1 h2 (by rw [eK0 hr hI.2.2.2.1]; exact h)) gL_law_X4_add rfl ⟨rfl, rfl⟩ hd_X4_add ⟨Nat.le_of_ble_eq_true rfl, Nat.le_of_ble_eq_true rfl⟩ [0, 1] rfl (fun _ _ => trivial) rfl (rest := []) rfl (Nat.le_of_ble_eq_true rfl) dL_law_372 ⟨(by show _ ≤ 621006; omega), (by show _ ≤ 7233085; omega)⟩ 0 rfl rfl rfl (pre := ((wS0 xa ad ha ta) ++ ((wT ta cI t (nI n)) ++ ((wHs ha hb cI cO G (nI o) (nI z)) ++ ((wB ad cI g) ++ (wO oa cJ oj)))))) (post := []) (ws' := ((wS0 xa ad ha ta) ++ ((wT ta cI t (nI n)) ++ ((wHs ha hb cI cO G (nI o) (nI z)) ++ ((wB ad cI g) ++ ((wO oa cJ oj) ++ (wM ma cI 3 g g sv z t n dg))))))) rfl rfl ?_
    refine g_istore C (lv' := [(6, .int 0), (5, .int 3), (0, .ref b), (1, .ref xa), (2, .ref (ma 0)), (3, .ref oa), (4, .int (nI (4 * q)))]) dL_law_375 (by decide) rfl ?_
    refine g_aload_n C dL_law_377 4 rfl ?_
    refine g_callVi C (c_X4_thrown l D cI cO ma 3 g g sv z t n dg hI9.1 hI9.2.2.1) gL_law_X4_thrown rfl ⟨rfl, rfl⟩ hd_X4_thrown ⟨Nat.le_of_ble_eq_true rfl, Nat.le_of_ble_eq_true rfl⟩ [0, 1] rfl (fun _ _ => trivial) rfl (rest := []) rfl (Nat.le_of_ble_eq_true rfl) dL_law_378 ⟨(by show _ ≤ 621006; omega), (by show _ ≤ 7233085; omega)⟩ 0 rfl rfl rfl (pre := ((wS0 xa ad ha ta) ++ ((wT ta cI t (nI n)) ++ ((wHs ha hb cI cO G (nI o) (nI z)) ++ ((wB ad cI g) ++ (wO oa cJ oj)))))) (post := []) (ws' := ((wS0 xa ad ha ta) ++ ((wT ta cI t (nI n)) ++ ((wHs ha hb cI cO G (nI o) (nI z)) ++ ((wB ad cI g) ++ ((wO oa cJ oj) ++ (wM ma cI 3 g g sv z t n dg))))))) rfl rfl ?_
    refine g_iload C dL_law_381 1 rfl ?_
    refine g_icmp_eq C (tgt := 388) dL_law_383 (by decide) (fun _ => ?_) (fun h383_1 => absurd (by decide) h383_1)
    refine g_iload C dL_law_388 1 rfl ?_
    refine g_if_ne C (tgt := 405) dL_law_390 (by decide) (fun _ => ?_) (fun h390_2 => absurd h390_2 (by decide))
    refine g_goto C (tgt := 1113) dL_law_405 (by decide) ?_
    refine g_lv [2, 3, 4, 5, 6] (lv' := [(0, .ref b), (1, .ref xa), (2, .ref (ma 0)), (3, .ref oa), (4, .int (nI (4 * q)))]) rfl ?_
    refine g_wid (k' := 60 + (q + 1)) (n' := 1010 + 6 * (q + 1)) (by omega) (by omega) ?_
    exact hnext _ _ _ _ _ _ _ _ _ _ _ hI9
  obtain ⟨eR0, eu0, hI1, hy⟩ := lAdd hr hI.2.2.2.1 (v := n9) h
  have hI9 : LI t n (kG G o z g) ((xCh g r (n9) 1).2) (kO o z) (kM z + 1) (ySv g sv z) := LI_keep hI hI1
  have eR : ((xCh g r (n9) 1).1 : Int32) = yAm (yT0 g r (n9)).2 - yAm g := eR0
  refine g_aload_n C dL_law_340 1 rfl ?_
  refine g_aload_n C dL_law_341 0 rfl ?_
  refine g_iload C dL_law_342 4 rfl ?_
  refine g_iconst C (v := 1) dL_law_344 ci_1 ?_
  refine g_iadd C (v := nI (4 * q + 1)) dL_law_345 (nI_add _ 1) ?_
  refine g_sld C (x := nI r) hX hbl (fun z9 => absurd hbl (Nat.not_lt.mpr z9)) (by omega) (4 * q + 1) rfl (by omega) e1 dL_law_346 ?_
  refine g_aload_n C dL_law_347 0 rfl ?_
  refine g_iload C dL_law_348 4 rfl ?_
  refine g_iconst C (v := 2) dL_law_350 ci_2 ?_
  refine g_iadd C (v := nI (4 * q + 2)) dL_law_351 (nI_add _ 2) ?_
  refine g_sld C (x := n9) hX hbl (fun z9 => absurd hbl (Nat.not_lt.mpr z9)) (by omega) (4 * q + 2) rfl (by omega) e2 dL_law_352 ?_
  refine g_aload_n C dL_law_353 3 rfl ?_
  refine g_callSW C hZ (w_L_add l hl D cI cO cJ xa ta ha hb ad t n G g o z hI.1 hI.2.1 hI.2.2.1 r hr n9 h1 h2 h oa oj) gL_law_L_add rfl ⟨rfl, rfl⟩ hd_L_add ⟨Nat.le_of_ble_eq_true rfl, Nat.le_of_ble_eq_true rfl⟩ [0, 1, 2] rfl (sF_w hF) rfl (rest := []) rfl (Nat.le_of_ble_eq_true rfl) dL_law_354 ⟨(by show _ + 1 ≤ 621006; omega), (by show _ + 6 ≤ 7233085; omega)⟩ (pre := []) (post := (wM ma cI th g a9 sv z t n dg)) (ws' := ((wS0 xa ad ha ta) ++ ((wT ta cI t (nI n)) ++ ((wHs ha hb cI cO (kG G o z g) (nI (kO o z)) (nI (kM z + 1))) ++ ((wB ad cI ((xCh g r (n9) 1).2)) ++ ((wO oa cJ (vp_updL oj 0 ((xCh g r (n9) 1).1).toInt64)) ++ (wM ma cI th g a9 sv z t n dg))))))) rfl rfl ?_
  refine g_istore C (lv' := [(5, .int 0), (0, .ref b), (1, .ref xa), (2, .ref (ma 0)), (3, .ref oa), (4, .int (nI (4 * q)))]) dL_law_357 (by decide) rfl ?_
  refine g_aload_n C dL_law_359 3 rfl ?_
  refine g_aload_n C dL_law_360 1 rfl ?_
  refine g_iload C dL_law_361 5 rfl ?_
  refine g_iconst C (v := 1) dL_law_363 ci_1 ?_
  refine g_iadd C (v := nI (4 * q + 1)) dL_law_364 (nI_add _ 1) ?_
  refine g_sld C (x := nI r) hX hbl (fun z9 => absurd hbl (Nat.not_lt.mpr z9)) (by omega) (4 * q + 1) rfl (by omega) e1 dL_law_365 ?_
  refine g_aload_n C dL_law_366 1 rfl ?_
  refine g_iload C dL_law_367 5 rfl ?_
  refine g_iconst C (v := 2) dL_law_369 ci_2 ?_
  refine g_iadd C (v := nI (4 * q + 2)) dL_law_370 (nI_add _ 2) ?_
  refine g_sld C (x := n9) hX hbl (fun z9 => absurd hbl (Nat.not_lt.mpr z9)) (by omega) (4 * q + 2) rfl (by omega) e2 dL_law_371 ?_
  refine g_callVi C (c_X4_add l D cI cO ma th g a9 sv z t n dg hI.1 hI.2.2.1 r hr n9 h1 h2 hy) gL_law_X4_add rfl ⟨rfl, rfl⟩ hd_X4_add ⟨Nat.le_of_ble_eq_true rfl, Nat.le_of_ble_eq_true rfl⟩ [0, 1] rfl (fun _ _ => trivial) rfl (rest := []) rfl (Nat.le_of_ble_eq_true rfl) dL_law_372 ⟨(by show _ ≤ 621006; omega), (by show _ ≤ 7233085; omega)⟩ 0 rfl rfl rfl (pre := ((wS0 xa ad ha ta) ++ ((wT ta cI t (nI n)) ++ ((wHs ha hb cI cO (kG G o z g) (nI (kO o z)) (nI (kM z + 1))) ++ ((wB ad cI ((xCh g r (n9) 1).2)) ++ (wO oa cJ (vp_updL oj 0 ((xCh g r (n9) 1).1).toInt64))))))) (post := []) (ws' := ((wS0 xa ad ha ta) ++ ((wT ta cI t (nI n)) ++ ((wHs ha hb cI cO (kG G o z g) (nI (kO o z)) (nI (kM z + 1))) ++ ((wB ad cI ((xCh g r (n9) 1).2)) ++ ((wO oa cJ (vp_updL oj 0 ((xCh g r (n9) 1).1).toInt64)) ++ (wM ma cI 0 ((yT0 g r (n9)).2) g (ySv g sv z) (kM z + 1) t n dg))))))) rfl rfl ?_
  refine g_istore C (lv' := [(6, .int (yAm (yT0 g r (n9)).2 - yAm g)), (5, .int 0), (0, .ref b), (1, .ref xa), (2, .ref (ma 0)), (3, .ref oa), (4, .int (nI (4 * q)))]) dL_law_375 (by decide) rfl ?_
  refine g_aload_n C dL_law_377 4 rfl ?_
  refine g_callVi C (c_X4_thrown l D cI cO ma 0 ((yT0 g r (n9)).2) g (ySv g sv z) (kM z + 1) t n dg hI9.1 hI9.2.2.1) gL_law_X4_thrown rfl ⟨rfl, rfl⟩ hd_X4_thrown ⟨Nat.le_of_ble_eq_true rfl, Nat.le_of_ble_eq_true rfl⟩ [0, 1] rfl (fun _ _ => trivial) rfl (rest := []) rfl (Nat.le_of_ble_eq_true rfl) dL_law_378 ⟨(by show _ ≤ 621006; omega), (by show _ ≤ 7233085; omega)⟩ 0 rfl rfl rfl (pre := ((wS0 xa ad ha ta) ++ ((wT ta cI t (nI n)) ++ ((wHs ha hb cI cO (kG G o z g) (nI (kO o z)) (nI (kM z + 1))) ++ ((wB ad cI ((xCh g r (n9) 1).2)) ++ (wO oa cJ (vp_updL oj 0 ((xCh g r (n9) 1).1).toInt64))))))) (post := []) (ws' := ((wS0 xa ad ha ta) ++ ((wT ta cI t (nI n)) ++ ((wHs ha hb cI cO (kG G o z g) (nI (kO o z)) (nI (kM z + 1))) ++ ((wB ad cI ((xCh g r (n9) 1).2)) ++ ((wO oa cJ (vp_updL oj 0 ((xCh g r (n9) 1).1).toInt64)) ++ (wM ma cI 0 ((yT0 g r (n9)).2) g (ySv g sv z) (kM z + 1) t n dg))))))) rfl rfl ?_
  refine g_iload C dL_law_381 1 rfl ?_
  refine g_icmp_eq C (tgt := 388) dL_law_383 (by decide) (fun _ => ?_) (fun h383_1 => absurd (by decide) h383_1)
  refine g_iload C dL_law_388 1 rfl ?_
  refine g_if_ne C (tgt := 405) dL_law_390 (by decide) (fun h390_2 => absurd (by decide) h390_2) (fun _ => ?_)
  refine g_aload_n C dL_law_393 5 rfl ?_
  refine g_iconst C (v := 0) dL_law_394 ci_0 ?_
  refine g_lald C (x := (vp_updL oj 0 ((xCh g r (n9) 1).1).toInt64) 0) 54 2 rfl rfl 0 rfl (by decide) (by decide) rfl dL_law_395 ?_
  refine g_iload C dL_law_396 0 rfl ?_
  refine g_i2l C (v := (yAm (yT0 g r (n9)).2 - yAm g).toInt64) dL_law_398 rfl ?_
  refine g_lcmp C (v := lg_cmp ((vp_updL oj 0 ((xCh g r (n9) 1).1).toInt64) 0) ((yAm (yT0 g r (n9)).2 - yAm g).toInt64)) dL_law_399 rfl ?_
  refine g_if_eq C (tgt := 405) dL_law_400 (by decide) (fun _ => ?_) (fun h400_3 => absurd (lgz (by rw [pk_uLs, eR])) h400_3)
  refine g_goto C (tgt := 1113) dL_law_405 (by decide) ?_
  refine g_lv [2, 3, 4, 5, 6] (lv' := [(0, .ref b), (1, .ref xa), (2, .ref (ma 0)), (3, .ref oa), (4, .int (nI (4 * q)))]) rfl ?_
  refine g_wid (k' := 60 + (q + 1)) (n' := 1010 + 6 * (q + 1)) (by omega) (by omega) ?_
  refine g_ws (ws' := ((wS0 xa ad ha ta) ++ ((wT ta cI t (nI n)) ++ ((wHs ha hb cI cO (kG G o z g) (nI (kO o z)) (nI (kM z + 1))) ++ ((wB ad cI ((xCh g r (n9) 1).2)) ++ ((wO oa cJ (vp_updL oj 0 ((xCh g r (n9) 1).1).toInt64)) ++ (wM ma cI 0 ((xCh g r (n9) 1).2) g (ySv g sv z) (kM z + 1) t n dg))))))) (by rw [eu0]) ?_
  exact hnext _ _ _ _ _ _ _ _ _ _ _ hI9
theorem hd_L_less : yL_less.cls ≠ "java/lang/invoke/MethodHandle" ∧ yL_less.cls ≠ "java/lang/invoke/VarHandle" ∧ (parseMethodDescriptor yL_less.desc).map (fun d => d.parameters.length) = some 4 := by decide +kernel
theorem hd_X4_less : yX4_less.cls = RX4 ∧ yX4_less.cls ≠ "java/lang/invoke/MethodHandle" ∧ yX4_less.cls ≠ "java/lang/invoke/VarHandle" ∧ (parseMethodDescriptor yX4_less.desc).map (fun d => d.parameters.length) = some 2 := by decide +kernel
set_option maxHeartbeats 2000000 in
set_option maxRecDepth 100000 in
theorem law_less {p : Program} {l : Launch} {e : Env} {s : State} {m : MethodId} {below : List Frame} {meth : Method} {c : Code} {D : va_G} {cI cO cJ : ClassId} {b L : Nat} {xs : Nat → Int32} {Q9 : State → Prop} (hl : l.stackTraces = false) (hL : L ≤ 2048) (C : gC p s m (#[.ref b] : Array Value) c cL_law RL wsL_law D vwCl (tyW cI cO cJ) (fun q9 => s.heap.size ≤ q9) s.heap 9) (hF : sF s.vm) (hZ : zF (fun q9 => s.heap.size ≤ q9) s s.heap) (hX : va_X b L xs s s.heap) (hbl : b < s.heap.size) {xa oa : Nat} {ta ha : Nat → Nat} {hb : Nat → Nat → Nat} {ad ma : Nat → Nat} (q : Nat) (hq : 4 * q + 4 ≤ L) (t : Nat → Int32) (n : Nat) (G : Nat → Nat → Int32) (g : Nat → Int32) (o z : Nat) (th : Int32) (a9 sv : Nat → Int32) (dg : Int64) (oj : Nat → Int64) (hI : LI t n G g o z sv) (hnext : (∀ (t : Nat → Int32) (n : Nat) (G : Nat → Nat → Int32) (g : Nat → Int32) (o z : Nat) (th : Int32) (a9 sv : Nat → Int32) (dg : Int64) (oj : Nat → Int64), LI t n G g o z sv → gG p l e room_1 s m (#[.ref b] : Array Value) below meth c D vwCl (fun q9 => s.heap.size ≤ q9) s.heap 9 Q9 (60 + (q + 1)) (1010 + 6 * (q + 1)) ((wS0 xa ad ha ta) ++ ((wT ta cI t (nI n)) ++ ((wHs ha hb cI cO G (nI o) (nI z)) ++ ((wB ad cI g) ++ ((wO oa cJ oj) ++ (wM ma cI th g a9 sv z t n dg)))))) 1113 [(0, .ref b), (1, .ref xa), (2, .ref (ma 0)), (3, .ref oa), (4, .int (nI (4 * q)))] [])) : gG p l e room_1 s m (#[.ref b] : Array Value) below meth c D vwCl (fun q9 => s.heap.size ≤ q9) s.heap 9 Q9 (60 + q) (1010 + 6 * q) ((wS0 xa ad ha ta) ++ ((wT ta cI t (nI n)) ++ ((wHs ha hb cI cO G (nI o) (nI z)) ++ ((wB ad cI g) ++ ((wO oa cJ oj) ++ (wM ma cI th g a9 sv z t n dg)))))) 408 [(0, .ref b), (1, .ref xa), (2, .ref (ma 0)), (3, .ref oa), (4, .int (nI (4 * q)))] [] := by
  obtain ⟨v9, e1⟩ : ∃ x9, xs (4 * q + 1) = x9 := ⟨_, rfl⟩
  obtain ⟨n9, e2⟩ : ∃ x9, xs (4 * q + 2) = x9 := ⟨_, rfl⟩
  by_cases h : v9 < 0 ∨ ¬ v9 < 9
  · have hI9 : LI t n G g o z sv := hI
    refine g_aload_n C dL_law_408 1 rfl ?_
    refine g_aload_n C dL_law_409 0 rfl ?_
    refine g_iload C dL_law_410 4 rfl ?_
    refine g_iconst C (v := 1) dL_law_412 ci_1 ?_
    refine g_iadd C (v := nI (4 * q + 1)) dL_law_413 (nI_add _ 1) ?_
    refine g_sld C (x := v9) hX hbl (fun z9 => absurd hbl (Nat.not_lt.mpr z9)) (by omega) (4 * q + 1) rfl (by omega) e1 dL_law_414 ?_
    refine g_aload_n C dL_law_415 0 rfl ?_
    refine g_iload C dL_law_416 4 rfl ?_
    refine g_iconst C (v := 2) dL_law_418 ci_2 ?_
    refine g_iadd C (v := nI (4 * q + 2)) dL_law_419 (nI_add _ 2) ?_
    refine g_sld C (x := n9) hX hbl (fun z9 => absurd hbl (Nat.not_lt.mpr z9)) (by omega) (4 * q + 2) rfl (by omega) e2 dL_law_420 ?_
    refine g_aload_n C dL_law_421 3 rfl ?_
    refine g_callSW C hZ (w_L_less_1 l hl D cI cO cJ xa ta ha hb ad t n G g o z hI.1 hI.2.1 hI.2.2.1 v9 n9 h oa oj) gL_law_L_less rfl ⟨rfl, rfl⟩ hd_L_less ⟨Nat.le_of_ble_eq_true rfl, Nat.le_of_ble_eq_true rfl⟩ [0, 1, 2] rfl (sF_w hF) rfl (rest := []) rfl (Nat.le_of_ble_eq_true rfl) dL_law_422 ⟨(by show _ + 1 ≤ 621006; omega), (by show _ + 6 ≤ 7233085; omega)⟩ (pre := []) (post := (wM ma cI th g a9 sv z t n dg)) (ws' := ((wS0 xa ad ha ta) ++ ((wT ta cI t (nI n)) ++ ((wHs ha hb cI cO G (nI o) (nI z)) ++ ((wB ad cI g) ++ ((wO oa cJ oj) ++ (wM ma cI th g a9 sv z t n dg))))))) rfl rfl ?_
    refine g_istore C (lv' := [(5, .int 1), (0, .ref b), (1, .ref xa), (2, .ref (ma 0)), (3, .ref oa), (4, .int (nI (4 * q)))]) dL_law_425 (by decide) rfl ?_
    refine g_aload_n C dL_law_427 3 rfl ?_
    refine g_aload_n C dL_law_428 1 rfl ?_
    refine g_iload C dL_law_429 5 rfl ?_
    refine g_iconst C (v := 1) dL_law_431 ci_1 ?_
    refine g_iadd C (v := nI (4 * q + 1)) dL_law_432 (nI_add _ 1) ?_
    refine g_sld C (x := v9) hX hbl (fun z9 => absurd hbl (Nat.not_lt.mpr z9)) (by omega) (4 * q + 1) rfl (by omega) e1 dL_law_433 ?_
    refine g_aload_n C dL_law_434 1 rfl ?_
    refine g_iload C dL_law_435 5 rfl ?_
    refine g_iconst C (v := 2) dL_law_437 ci_2 ?_
    refine g_iadd C (v := nI (4 * q + 2)) dL_law_438 (nI_add _ 2) ?_
    refine g_sld C (x := n9) hX hbl (fun z9 => absurd hbl (Nat.not_lt.mpr z9)) (by omega) (4 * q + 2) rfl (by omega) e2 dL_law_439 ?_
    refine g_callVi C (c_X4_less_1 l D cI cO ma th g a9 sv z t n dg hI.1 hI.2.2.1 v9 h n9) gL_law_X4_less rfl ⟨rfl, rfl⟩ hd_X4_less ⟨Nat.le_of_ble_eq_true rfl, Nat.le_of_ble_eq_true rfl⟩ [0, 1] rfl (fun _ _ => trivial) rfl (rest := []) rfl (Nat.le_of_ble_eq_true rfl) dL_law_440 ⟨(by show _ ≤ 621006; omega), (by show _ ≤ 7233085; omega)⟩ 0 rfl rfl rfl (pre := ((wS0 xa ad ha ta) ++ ((wT ta cI t (nI n)) ++ ((wHs ha hb cI cO G (nI o) (nI z)) ++ ((wB ad cI g) ++ (wO oa cJ oj)))))) (post := []) (ws' := ((wS0 xa ad ha ta) ++ ((wT ta cI t (nI n)) ++ ((wHs ha hb cI cO G (nI o) (nI z)) ++ ((wB ad cI g) ++ ((wO oa cJ oj) ++ (wM ma cI 1 g a9 sv z t n dg))))))) rfl rfl ?_
    refine g_istore C (lv' := [(6, .int 0), (5, .int 1), (0, .ref b), (1, .ref xa), (2, .ref (ma 0)), (3, .ref oa), (4, .int (nI (4 * q)))]) dL_law_443 (by decide) rfl ?_
    refine g_aload_n C dL_law_445 4 rfl ?_
    refine g_callVi C (c_X4_thrown l D cI cO ma 1 g a9 sv z t n dg hI9.1 hI9.2.2.1) gL_law_X4_thrown rfl ⟨rfl, rfl⟩ hd_X4_thrown ⟨Nat.le_of_ble_eq_true rfl, Nat.le_of_ble_eq_true rfl⟩ [0, 1] rfl (fun _ _ => trivial) rfl (rest := []) rfl (Nat.le_of_ble_eq_true rfl) dL_law_446 ⟨(by show _ ≤ 621006; omega), (by show _ ≤ 7233085; omega)⟩ 0 rfl rfl rfl (pre := ((wS0 xa ad ha ta) ++ ((wT ta cI t (nI n)) ++ ((wHs ha hb cI cO G (nI o) (nI z)) ++ ((wB ad cI g) ++ (wO oa cJ oj)))))) (post := []) (ws' := ((wS0 xa ad ha ta) ++ ((wT ta cI t (nI n)) ++ ((wHs ha hb cI cO G (nI o) (nI z)) ++ ((wB ad cI g) ++ ((wO oa cJ oj) ++ (wM ma cI 1 g a9 sv z t n dg))))))) rfl rfl ?_
    refine g_iload C dL_law_449 1 rfl ?_
    refine g_icmp_eq C (tgt := 456) dL_law_451 (by decide) (fun _ => ?_) (fun h451_1 => absurd (by decide) h451_1)
    refine g_iload C dL_law_456 1 rfl ?_
    refine g_if_ne C (tgt := 473) dL_law_458 (by decide) (fun _ => ?_) (fun h458_2 => absurd h458_2 (by decide))
    refine g_goto C (tgt := 1113) dL_law_473 (by decide) ?_
    refine g_lv [2, 3, 4, 5, 6] (lv' := [(0, .ref b), (1, .ref xa), (2, .ref (ma 0)), (3, .ref oa), (4, .int (nI (4 * q)))]) rfl ?_
    refine g_wid (k' := 60 + (q + 1)) (n' := 1010 + 6 * (q + 1)) (by omega) (by omega) ?_
    exact hnext _ _ _ _ _ _ _ _ _ _ _ hI9
  obtain ⟨r, hr, rfl⟩ := orR h
  by_cases h : n9 < 1 ∨ ¬ n9 ≤ 9
  · have hI9 : LI t n G g o z sv := hI
    refine g_aload_n C dL_law_408 1 rfl ?_
    refine g_aload_n C dL_law_409 0 rfl ?_
    refine g_iload C dL_law_410 4 rfl ?_
    refine g_iconst C (v := 1) dL_law_412 ci_1 ?_
    refine g_iadd C (v := nI (4 * q + 1)) dL_law_413 (nI_add _ 1) ?_
    refine g_sld C (x := nI r) hX hbl (fun z9 => absurd hbl (Nat.not_lt.mpr z9)) (by omega) (4 * q + 1) rfl (by omega) e1 dL_law_414 ?_
    refine g_aload_n C dL_law_415 0 rfl ?_
    refine g_iload C dL_law_416 4 rfl ?_
    refine g_iconst C (v := 2) dL_law_418 ci_2 ?_
    refine g_iadd C (v := nI (4 * q + 2)) dL_law_419 (nI_add _ 2) ?_
    refine g_sld C (x := n9) hX hbl (fun z9 => absurd hbl (Nat.not_lt.mpr z9)) (by omega) (4 * q + 2) rfl (by omega) e2 dL_law_420 ?_
    refine g_aload_n C dL_law_421 3 rfl ?_
    refine g_callSW C hZ (w_L_less_2 l hl D cI cO cJ xa ta ha hb ad t n G g o z hI.1 hI.2.1 hI.2.2.1 r hr n9 h oa oj) gL_law_L_less rfl ⟨rfl, rfl⟩ hd_L_less ⟨Nat.le_of_ble_eq_true rfl, Nat.le_of_ble_eq_true rfl⟩ [0, 1, 2] rfl (sF_w hF) rfl (rest := []) rfl (Nat.le_of_ble_eq_true rfl) dL_law_422 ⟨(by show _ + 1 ≤ 621006; omega), (by show _ + 6 ≤ 7233085; omega)⟩ (pre := []) (post := (wM ma cI th g a9 sv z t n dg)) (ws' := ((wS0 xa ad ha ta) ++ ((wT ta cI t (nI n)) ++ ((wHs ha hb cI cO G (nI o) (nI z)) ++ ((wB ad cI g) ++ ((wO oa cJ oj) ++ (wM ma cI th g a9 sv z t n dg))))))) rfl rfl ?_
    refine g_istore C (lv' := [(5, .int 2), (0, .ref b), (1, .ref xa), (2, .ref (ma 0)), (3, .ref oa), (4, .int (nI (4 * q)))]) dL_law_425 (by decide) rfl ?_
    refine g_aload_n C dL_law_427 3 rfl ?_
    refine g_aload_n C dL_law_428 1 rfl ?_
    refine g_iload C dL_law_429 5 rfl ?_
    refine g_iconst C (v := 1) dL_law_431 ci_1 ?_
    refine g_iadd C (v := nI (4 * q + 1)) dL_law_432 (nI_add _ 1) ?_
    refine g_sld C (x := nI r) hX hbl (fun z9 => absurd hbl (Nat.not_lt.mpr z9)) (by omega) (4 * q + 1) rfl (by omega) e1 dL_law_433 ?_
    refine g_aload_n C dL_law_434 1 rfl ?_
    refine g_iload C dL_law_435 5 rfl ?_
    refine g_iconst C (v := 2) dL_law_437 ci_2 ?_
    refine g_iadd C (v := nI (4 * q + 2)) dL_law_438 (nI_add _ 2) ?_
    refine g_sld C (x := n9) hX hbl (fun z9 => absurd hbl (Nat.not_lt.mpr z9)) (by omega) (4 * q + 2) rfl (by omega) e2 dL_law_439 ?_
    refine g_callVi C (c_X4_less_2 l D cI cO ma th g a9 sv z t n dg hI.1 hI.2.2.1 r hr n9 h) gL_law_X4_less rfl ⟨rfl, rfl⟩ hd_X4_less ⟨Nat.le_of_ble_eq_true rfl, Nat.le_of_ble_eq_true rfl⟩ [0, 1] rfl (fun _ _ => trivial) rfl (rest := []) rfl (Nat.le_of_ble_eq_true rfl) dL_law_440 ⟨(by show _ ≤ 621006; omega), (by show _ ≤ 7233085; omega)⟩ 0 rfl rfl rfl (pre := ((wS0 xa ad ha ta) ++ ((wT ta cI t (nI n)) ++ ((wHs ha hb cI cO G (nI o) (nI z)) ++ ((wB ad cI g) ++ (wO oa cJ oj)))))) (post := []) (ws' := ((wS0 xa ad ha ta) ++ ((wT ta cI t (nI n)) ++ ((wHs ha hb cI cO G (nI o) (nI z)) ++ ((wB ad cI g) ++ ((wO oa cJ oj) ++ (wM ma cI 2 g a9 sv z t n dg))))))) rfl rfl ?_
    refine g_istore C (lv' := [(6, .int 0), (5, .int 2), (0, .ref b), (1, .ref xa), (2, .ref (ma 0)), (3, .ref oa), (4, .int (nI (4 * q)))]) dL_law_443 (by decide) rfl ?_
    refine g_aload_n C dL_law_445 4 rfl ?_
    refine g_callVi C (c_X4_thrown l D cI cO ma 2 g a9 sv z t n dg hI9.1 hI9.2.2.1) gL_law_X4_thrown rfl ⟨rfl, rfl⟩ hd_X4_thrown ⟨Nat.le_of_ble_eq_true rfl, Nat.le_of_ble_eq_true rfl⟩ [0, 1] rfl (fun _ _ => trivial) rfl (rest := []) rfl (Nat.le_of_ble_eq_true rfl) dL_law_446 ⟨(by show _ ≤ 621006; omega), (by show _ ≤ 7233085; omega)⟩ 0 rfl rfl rfl (pre := ((wS0 xa ad ha ta) ++ ((wT ta cI t (nI n)) ++ ((wHs ha hb cI cO G (nI o) (nI z)) ++ ((wB ad cI g) ++ (wO oa cJ oj)))))) (post := []) (ws' := ((wS0 xa ad ha ta) ++ ((wT ta cI t (nI n)) ++ ((wHs ha hb cI cO G (nI o) (nI z)) ++ ((wB ad cI g) ++ ((wO oa cJ oj) ++ (wM ma cI 2 g a9 sv z t n dg))))))) rfl rfl ?_
    refine g_iload C dL_law_449 1 rfl ?_
    refine g_icmp_eq C (tgt := 456) dL_law_451 (by decide) (fun _ => ?_) (fun h451_1 => absurd (by decide) h451_1)
    refine g_iload C dL_law_456 1 rfl ?_
    refine g_if_ne C (tgt := 473) dL_law_458 (by decide) (fun _ => ?_) (fun h458_2 => absurd h458_2 (by decide))
    refine g_goto C (tgt := 1113) dL_law_473 (by decide) ?_
    refine g_lv [2, 3, 4, 5, 6] (lv' := [(0, .ref b), (1, .ref xa), (2, .ref (ma 0)), (3, .ref oa), (4, .int (nI (4 * q)))]) rfl ?_
    refine g_wid (k' := 60 + (q + 1)) (n' := 1010 + 6 * (q + 1)) (by omega) (by omega) ?_
    exact hnext _ _ _ _ _ _ _ _ _ _ _ hI9
  obtain ⟨h1, h2⟩ := orB h
  by_cases h : (xCh g r (-n9) 0).1 = -1
  · have hI9 : LI t n G g o z sv := hI
    refine g_aload_n C dL_law_408 1 rfl ?_
    refine g_aload_n C dL_law_409 0 rfl ?_
    refine g_iload C dL_law_410 4 rfl ?_
    refine g_iconst C (v := 1) dL_law_412 ci_1 ?_
    refine g_iadd C (v := nI (4 * q + 1)) dL_law_413 (nI_add _ 1) ?_
    refine g_sld C (x := nI r) hX hbl (fun z9 => absurd hbl (Nat.not_lt.mpr z9)) (by omega) (4 * q + 1) rfl (by omega) e1 dL_law_414 ?_
    refine g_aload_n C dL_law_415 0 rfl ?_
    refine g_iload C dL_law_416 4 rfl ?_
    refine g_iconst C (v := 2) dL_law_418 ci_2 ?_
    refine g_iadd C (v := nI (4 * q + 2)) dL_law_419 (nI_add _ 2) ?_
    refine g_sld C (x := n9) hX hbl (fun z9 => absurd hbl (Nat.not_lt.mpr z9)) (by omega) (4 * q + 2) rfl (by omega) e2 dL_law_420 ?_
    refine g_aload_n C dL_law_421 3 rfl ?_
    refine g_callSW C hZ (w_L_less_3 l hl D cI cO cJ xa ta ha hb ad t n G g o z hI.1 hI.2.1 hI.2.2.1 r hr n9 h1 h2 h oa oj) gL_law_L_less rfl ⟨rfl, rfl⟩ hd_L_less ⟨Nat.le_of_ble_eq_true rfl, Nat.le_of_ble_eq_true rfl⟩ [0, 1, 2] rfl (sF_w hF) rfl (rest := []) rfl (Nat.le_of_ble_eq_true rfl) dL_law_422 ⟨(by show _ + 1 ≤ 621006; omega), (by show _ + 6 ≤ 7233085; omega)⟩ (pre := []) (post := (wM ma cI th g a9 sv z t n dg)) (ws' := ((wS0 xa ad ha ta) ++ ((wT ta cI t (nI n)) ++ ((wHs ha hb cI cO G (nI o) (nI z)) ++ ((wB ad cI g) ++ ((wO oa cJ oj) ++ (wM ma cI th g a9 sv z t n dg))))))) rfl rfl ?_
    refine g_istore C (lv' := [(5, .int 3), (0, .ref b), (1, .ref xa), (2, .ref (ma 0)), (3, .ref oa), (4, .int (nI (4 * q)))]) dL_law_425 (by decide) rfl ?_
    refine g_aload_n C dL_law_427 3 rfl ?_
    refine g_aload_n C dL_law_428 1 rfl ?_
    refine g_iload C dL_law_429 5 rfl ?_
    refine g_iconst C (v := 1) dL_law_431 ci_1 ?_
    refine g_iadd C (v := nI (4 * q + 1)) dL_law_432 (nI_add _ 1) ?_
    refine g_sld C (x := nI r) hX hbl (fun z9 => absurd hbl (Nat.not_lt.mpr z9)) (by omega) (4 * q + 1) rfl (by omega) e1 dL_law_433 ?_
    refine g_aload_n C dL_law_434 1 rfl ?_
    refine g_iload C dL_law_435 5 rfl ?_
    refine g_iconst C (v := 2) dL_law_437 ci_2 ?_
    refine g_iadd C (v := nI (4 * q + 2)) dL_law_438 (nI_add _ 2) ?_
    refine g_sld C (x := n9) hX hbl (fun z9 => absurd hbl (Nat.not_lt.mpr z9)) (by omega) (4 * q + 2) rfl (by omega) e2 dL_law_439 ?_
    refine g_callVi C (c_X4_less_3 l D cI cO ma th g a9 sv z t n dg hI.1 hI.2.2.1 r hr n9 h1 h2 (by rw [eK0 hr hI.2.2.2.1]; exact h)) gL_law_X4_less rfl ⟨rfl, rfl⟩ hd_X4_less ⟨Nat.le_of_ble_eq_true rfl, Nat.le_of_ble_eq_true rfl⟩ [0, 1] rfl (fun _ _ => trivial) rfl (rest := []) rfl (Nat.le_of_ble_eq_true rfl) dL_law_440 ⟨(by show _ ≤ 621006; omega), (by show _ ≤ 7233085; omega)⟩ 0 rfl rfl rfl (pre := ((wS0 xa ad ha ta) ++ ((wT ta cI t (nI n)) ++ ((wHs ha hb cI cO G (nI o) (nI z)) ++ ((wB ad cI g) ++ (wO oa cJ oj)))))) (post := []) (ws' := ((wS0 xa ad ha ta) ++ ((wT ta cI t (nI n)) ++ ((wHs ha hb cI cO G (nI o) (nI z)) ++ ((wB ad cI g) ++ ((wO oa cJ oj) ++ (wM ma cI 3 g g sv z t n dg))))))) rfl rfl ?_
    refine g_istore C (lv' := [(6, .int 0), (5, .int 3), (0, .ref b), (1, .ref xa), (2, .ref (ma 0)), (3, .ref oa), (4, .int (nI (4 * q)))]) dL_law_443 (by decide) rfl ?_
    refine g_aload_n C dL_law_445 4 rfl ?_
    refine g_callVi C (c_X4_thrown l D cI cO ma 3 g g sv z t n dg hI9.1 hI9.2.2.1) gL_law_X4_thrown rfl ⟨rfl, rfl⟩ hd_X4_thrown ⟨Nat.le_of_ble_eq_true rfl, Nat.le_of_ble_eq_true rfl⟩ [0, 1] rfl (fun _ _ => trivial) rfl (rest := []) rfl (Nat.le_of_ble_eq_true rfl) dL_law_446 ⟨(by show _ ≤ 621006; omega), (by show _ ≤ 7233085; omega)⟩ 0 rfl rfl rfl (pre := ((wS0 xa ad ha ta) ++ ((wT ta cI t (nI n)) ++ ((wHs ha hb cI cO G (nI o) (nI z)) ++ ((wB ad cI g) ++ (wO oa cJ oj)))))) (post := []) (ws' := ((wS0 xa ad ha ta) ++ ((wT ta cI t (nI n)) ++ ((wHs ha hb cI cO G (nI o) (nI z)) ++ ((wB ad cI g) ++ ((wO oa cJ oj) ++ (wM ma cI 3 g g sv z t n dg))))))) rfl rfl ?_
    refine g_iload C dL_law_449 1 rfl ?_
    refine g_icmp_eq C (tgt := 456) dL_law_451 (by decide) (fun _ => ?_) (fun h451_1 => absurd (by decide) h451_1)
    refine g_iload C dL_law_456 1 rfl ?_
    refine g_if_ne C (tgt := 473) dL_law_458 (by decide) (fun _ => ?_) (fun h458_2 => absurd h458_2 (by decide))
    refine g_goto C (tgt := 1113) dL_law_473 (by decide) ?_
    refine g_lv [2, 3, 4, 5, 6] (lv' := [(0, .ref b), (1, .ref xa), (2, .ref (ma 0)), (3, .ref oa), (4, .int (nI (4 * q)))]) rfl ?_
    refine g_wid (k' := 60 + (q + 1)) (n' := 1010 + 6 * (q + 1)) (by omega) (by omega) ?_
    exact hnext _ _ _ _ _ _ _ _ _ _ _ hI9
  obtain ⟨eR0, eu0, hI1, hy⟩ := lAdd hr hI.2.2.2.1 (v := -n9) h
  have hI9 : LI t n (kG G o z g) ((xCh g r (-n9) 1).2) (kO o z) (kM z + 1) (ySv g sv z) := LI_keep hI hI1
  have eR : ((xCh g r (-n9) 1).1 : Int32) = yAm (yT0 g r (-n9)).2 - yAm g := eR0
  refine g_aload_n C dL_law_408 1 rfl ?_
  refine g_aload_n C dL_law_409 0 rfl ?_
  refine g_iload C dL_law_410 4 rfl ?_
  refine g_iconst C (v := 1) dL_law_412 ci_1 ?_
  refine g_iadd C (v := nI (4 * q + 1)) dL_law_413 (nI_add _ 1) ?_
  refine g_sld C (x := nI r) hX hbl (fun z9 => absurd hbl (Nat.not_lt.mpr z9)) (by omega) (4 * q + 1) rfl (by omega) e1 dL_law_414 ?_
  refine g_aload_n C dL_law_415 0 rfl ?_
  refine g_iload C dL_law_416 4 rfl ?_
  refine g_iconst C (v := 2) dL_law_418 ci_2 ?_
  refine g_iadd C (v := nI (4 * q + 2)) dL_law_419 (nI_add _ 2) ?_
  refine g_sld C (x := n9) hX hbl (fun z9 => absurd hbl (Nat.not_lt.mpr z9)) (by omega) (4 * q + 2) rfl (by omega) e2 dL_law_420 ?_
  refine g_aload_n C dL_law_421 3 rfl ?_
  refine g_callSW C hZ (w_L_less l hl D cI cO cJ xa ta ha hb ad t n G g o z hI.1 hI.2.1 hI.2.2.1 r hr n9 h1 h2 h oa oj) gL_law_L_less rfl ⟨rfl, rfl⟩ hd_L_less ⟨Nat.le_of_ble_eq_true rfl, Nat.le_of_ble_eq_true rfl⟩ [0, 1, 2] rfl (sF_w hF) rfl (rest := []) rfl (Nat.le_of_ble_eq_true rfl) dL_law_422 ⟨(by show _ + 1 ≤ 621006; omega), (by show _ + 6 ≤ 7233085; omega)⟩ (pre := []) (post := (wM ma cI th g a9 sv z t n dg)) (ws' := ((wS0 xa ad ha ta) ++ ((wT ta cI t (nI n)) ++ ((wHs ha hb cI cO (kG G o z g) (nI (kO o z)) (nI (kM z + 1))) ++ ((wB ad cI ((xCh g r (-n9) 1).2)) ++ ((wO oa cJ (vp_updL oj 0 ((xCh g r (-n9) 1).1).toInt64)) ++ (wM ma cI th g a9 sv z t n dg))))))) rfl rfl ?_
  refine g_istore C (lv' := [(5, .int 0), (0, .ref b), (1, .ref xa), (2, .ref (ma 0)), (3, .ref oa), (4, .int (nI (4 * q)))]) dL_law_425 (by decide) rfl ?_
  refine g_aload_n C dL_law_427 3 rfl ?_
  refine g_aload_n C dL_law_428 1 rfl ?_
  refine g_iload C dL_law_429 5 rfl ?_
  refine g_iconst C (v := 1) dL_law_431 ci_1 ?_
  refine g_iadd C (v := nI (4 * q + 1)) dL_law_432 (nI_add _ 1) ?_
  refine g_sld C (x := nI r) hX hbl (fun z9 => absurd hbl (Nat.not_lt.mpr z9)) (by omega) (4 * q + 1) rfl (by omega) e1 dL_law_433 ?_
  refine g_aload_n C dL_law_434 1 rfl ?_
  refine g_iload C dL_law_435 5 rfl ?_
  refine g_iconst C (v := 2) dL_law_437 ci_2 ?_
  refine g_iadd C (v := nI (4 * q + 2)) dL_law_438 (nI_add _ 2) ?_
  refine g_sld C (x := n9) hX hbl (fun z9 => absurd hbl (Nat.not_lt.mpr z9)) (by omega) (4 * q + 2) rfl (by omega) e2 dL_law_439 ?_
  refine g_callVi C (c_X4_less l D cI cO ma th g a9 sv z t n dg hI.1 hI.2.2.1 r hr n9 h1 h2 hy) gL_law_X4_less rfl ⟨rfl, rfl⟩ hd_X4_less ⟨Nat.le_of_ble_eq_true rfl, Nat.le_of_ble_eq_true rfl⟩ [0, 1] rfl (fun _ _ => trivial) rfl (rest := []) rfl (Nat.le_of_ble_eq_true rfl) dL_law_440 ⟨(by show _ ≤ 621006; omega), (by show _ ≤ 7233085; omega)⟩ 0 rfl rfl rfl (pre := ((wS0 xa ad ha ta) ++ ((wT ta cI t (nI n)) ++ ((wHs ha hb cI cO (kG G o z g) (nI (kO o z)) (nI (kM z + 1))) ++ ((wB ad cI ((xCh g r (-n9) 1).2)) ++ (wO oa cJ (vp_updL oj 0 ((xCh g r (-n9) 1).1).toInt64))))))) (post := []) (ws' := ((wS0 xa ad ha ta) ++ ((wT ta cI t (nI n)) ++ ((wHs ha hb cI cO (kG G o z g) (nI (kO o z)) (nI (kM z + 1))) ++ ((wB ad cI ((xCh g r (-n9) 1).2)) ++ ((wO oa cJ (vp_updL oj 0 ((xCh g r (-n9) 1).1).toInt64)) ++ (wM ma cI 0 ((yT0 g r (-n9)).2) g (ySv g sv z) (kM z + 1) t n dg))))))) rfl rfl ?_
  refine g_istore C (lv' := [(6, .int (yAm (yT0 g r (-n9)).2 - yAm g)), (5, .int 0), (0, .ref b), (1, .ref xa), (2, .ref (ma 0)), (3, .ref oa), (4, .int (nI (4 * q)))]) dL_law_443 (by decide) rfl ?_
  refine g_aload_n C dL_law_445 4 rfl ?_
  refine g_callVi C (c_X4_thrown l D cI cO ma 0 ((yT0 g r (-n9)).2) g (ySv g sv z) (kM z + 1) t n dg hI9.1 hI9.2.2.1) gL_law_X4_thrown rfl ⟨rfl, rfl⟩ hd_X4_thrown ⟨Nat.le_of_ble_eq_true rfl, Nat.le_of_ble_eq_true rfl⟩ [0, 1] rfl (fun _ _ => trivial) rfl (rest := []) rfl (Nat.le_of_ble_eq_true rfl) dL_law_446 ⟨(by show _ ≤ 621006; omega), (by show _ ≤ 7233085; omega)⟩ 0 rfl rfl rfl (pre := ((wS0 xa ad ha ta) ++ ((wT ta cI t (nI n)) ++ ((wHs ha hb cI cO (kG G o z g) (nI (kO o z)) (nI (kM z + 1))) ++ ((wB ad cI ((xCh g r (-n9) 1).2)) ++ (wO oa cJ (vp_updL oj 0 ((xCh g r (-n9) 1).1).toInt64))))))) (post := []) (ws' := ((wS0 xa ad ha ta) ++ ((wT ta cI t (nI n)) ++ ((wHs ha hb cI cO (kG G o z g) (nI (kO o z)) (nI (kM z + 1))) ++ ((wB ad cI ((xCh g r (-n9) 1).2)) ++ ((wO oa cJ (vp_updL oj 0 ((xCh g r (-n9) 1).1).toInt64)) ++ (wM ma cI 0 ((yT0 g r (-n9)).2) g (ySv g sv z) (kM z + 1) t n dg))))))) rfl rfl ?_
  refine g_iload C dL_law_449 1 rfl ?_
  refine g_icmp_eq C (tgt := 456) dL_law_451 (by decide) (fun _ => ?_) (fun h451_1 => absurd (by decide) h451_1)
  refine g_iload C dL_law_456 1 rfl ?_
  refine g_if_ne C (tgt := 473) dL_law_458 (by decide) (fun h458_2 => absurd (by decide) h458_2) (fun _ => ?_)
  refine g_aload_n C dL_law_461 5 rfl ?_
  refine g_iconst C (v := 0) dL_law_462 ci_0 ?_
  refine g_lald C (x := (vp_updL oj 0 ((xCh g r (-n9) 1).1).toInt64) 0) 54 2 rfl rfl 0 rfl (by decide) (by decide) rfl dL_law_463 ?_
  refine g_iload C dL_law_464 0 rfl ?_
  refine g_i2l C (v := (yAm (yT0 g r (-n9)).2 - yAm g).toInt64) dL_law_466 rfl ?_
  refine g_lcmp C (v := lg_cmp ((vp_updL oj 0 ((xCh g r (-n9) 1).1).toInt64) 0) ((yAm (yT0 g r (-n9)).2 - yAm g).toInt64)) dL_law_467 rfl ?_
  refine g_if_eq C (tgt := 473) dL_law_468 (by decide) (fun _ => ?_) (fun h468_3 => absurd (lgz (by rw [pk_uLs, eR])) h468_3)
  refine g_goto C (tgt := 1113) dL_law_473 (by decide) ?_
  refine g_lv [2, 3, 4, 5, 6] (lv' := [(0, .ref b), (1, .ref xa), (2, .ref (ma 0)), (3, .ref oa), (4, .int (nI (4 * q)))]) rfl ?_
  refine g_wid (k' := 60 + (q + 1)) (n' := 1010 + 6 * (q + 1)) (by omega) (by omega) ?_
  refine g_ws (ws' := ((wS0 xa ad ha ta) ++ ((wT ta cI t (nI n)) ++ ((wHs ha hb cI cO (kG G o z g) (nI (kO o z)) (nI (kM z + 1))) ++ ((wB ad cI ((xCh g r (-n9) 1).2)) ++ ((wO oa cJ (vp_updL oj 0 ((xCh g r (-n9) 1).1).toInt64)) ++ (wM ma cI 0 ((xCh g r (-n9) 1).2) g (ySv g sv z) (kM z + 1) t n dg))))))) (by rw [eu0]) ?_
  exact hnext _ _ _ _ _ _ _ _ _ _ _ hI9
theorem hd_L_pay : yL_pay.cls ≠ "java/lang/invoke/MethodHandle" ∧ yL_pay.cls ≠ "java/lang/invoke/VarHandle" ∧ (parseMethodDescriptor yL_pay.desc).map (fun d => d.parameters.length) = some 3 := by decide +kernel
theorem hd_X4_pay : yX4_pay.cls = RX4 ∧ yX4_pay.cls ≠ "java/lang/invoke/MethodHandle" ∧ yX4_pay.cls ≠ "java/lang/invoke/VarHandle" ∧ (parseMethodDescriptor yX4_pay.desc).map (fun d => d.parameters.length) = some 1 := by decide +kernel
set_option maxHeartbeats 2000000 in
set_option maxRecDepth 100000 in
theorem law_pay {p : Program} {l : Launch} {e : Env} {s : State} {m : MethodId} {below : List Frame} {meth : Method} {c : Code} {D : va_G} {cI cO cJ : ClassId} {b L : Nat} {xs : Nat → Int32} {Q9 : State → Prop} (hl : l.stackTraces = false) (hL : L ≤ 2048) (C : gC p s m (#[.ref b] : Array Value) c cL_law RL wsL_law D vwCl (tyW cI cO cJ) (fun q9 => s.heap.size ≤ q9) s.heap 9) (hF : sF s.vm) (hZ : zF (fun q9 => s.heap.size ≤ q9) s s.heap) (hX : va_X b L xs s s.heap) (hbl : b < s.heap.size) {xa oa : Nat} {ta ha : Nat → Nat} {hb : Nat → Nat → Nat} {ad ma : Nat → Nat} (q : Nat) (hq : 4 * q + 4 ≤ L) (t : Nat → Int32) (n : Nat) (G : Nat → Nat → Int32) (g : Nat → Int32) (o z : Nat) (th : Int32) (a9 sv : Nat → Int32) (dg : Int64) (oj : Nat → Int64) (hI : LI t n G g o z sv) (hnext : (∀ (t : Nat → Int32) (n : Nat) (G : Nat → Nat → Int32) (g : Nat → Int32) (o z : Nat) (th : Int32) (a9 sv : Nat → Int32) (dg : Int64) (oj : Nat → Int64), LI t n G g o z sv → gG p l e room_1 s m (#[.ref b] : Array Value) below meth c D vwCl (fun q9 => s.heap.size ≤ q9) s.heap 9 Q9 (60 + (q + 1)) (1010 + 6 * (q + 1)) ((wS0 xa ad ha ta) ++ ((wT ta cI t (nI n)) ++ ((wHs ha hb cI cO G (nI o) (nI z)) ++ ((wB ad cI g) ++ ((wO oa cJ oj) ++ (wM ma cI th g a9 sv z t n dg)))))) 1113 [(0, .ref b), (1, .ref xa), (2, .ref (ma 0)), (3, .ref oa), (4, .int (nI (4 * q)))] [])) : gG p l e room_1 s m (#[.ref b] : Array Value) below meth c D vwCl (fun q9 => s.heap.size ≤ q9) s.heap 9 Q9 (60 + q) (1010 + 6 * q) ((wS0 xa ad ha ta) ++ ((wT ta cI t (nI n)) ++ ((wHs ha hb cI cO G (nI o) (nI z)) ++ ((wB ad cI g) ++ ((wO oa cJ oj) ++ (wM ma cI th g a9 sv z t n dg)))))) 476 [(0, .ref b), (1, .ref xa), (2, .ref (ma 0)), (3, .ref oa), (4, .int (nI (4 * q)))] [] := by
  obtain ⟨v9, e1⟩ : ∃ x9, xs (4 * q + 1) = x9 := ⟨_, rfl⟩
  by_cases h : v9 < 0 ∨ ¬ v9 < 9
  · have hI9 : LI t n G g o z sv := hI
    refine g_aload_n C dL_law_476 1 rfl ?_
    refine g_aload_n C dL_law_477 0 rfl ?_
    refine g_iload C dL_law_478 4 rfl ?_
    refine g_iconst C (v := 1) dL_law_480 ci_1 ?_
    refine g_iadd C (v := nI (4 * q + 1)) dL_law_481 (nI_add _ 1) ?_
    refine g_sld C (x := v9) hX hbl (fun z9 => absurd hbl (Nat.not_lt.mpr z9)) (by omega) (4 * q + 1) rfl (by omega) e1 dL_law_482 ?_
    refine g_aload_n C dL_law_483 3 rfl ?_
    refine g_callSW C hZ (w_L_pay_1 l hl D cI cO cJ xa ta ha hb ad t n G g o z hI.1 hI.2.1 hI.2.2.1 v9 h oa oj) gL_law_L_pay rfl ⟨rfl, rfl⟩ hd_L_pay ⟨Nat.le_of_ble_eq_true rfl, Nat.le_of_ble_eq_true rfl⟩ [0, 1, 2] rfl (sF_w hF) rfl (rest := []) rfl (Nat.le_of_ble_eq_true rfl) dL_law_484 ⟨(by show _ + 1 ≤ 621006; omega), (by show _ + 6 ≤ 7233085; omega)⟩ (pre := []) (post := (wM ma cI th g a9 sv z t n dg)) (ws' := ((wS0 xa ad ha ta) ++ ((wT ta cI t (nI n)) ++ ((wHs ha hb cI cO G (nI o) (nI z)) ++ ((wB ad cI g) ++ ((wO oa cJ oj) ++ (wM ma cI th g a9 sv z t n dg))))))) rfl rfl ?_
    refine g_istore C (lv' := [(5, .int 1), (0, .ref b), (1, .ref xa), (2, .ref (ma 0)), (3, .ref oa), (4, .int (nI (4 * q)))]) dL_law_487 (by decide) rfl ?_
    refine g_aload_n C dL_law_489 3 rfl ?_
    refine g_aload_n C dL_law_490 1 rfl ?_
    refine g_iload C dL_law_491 5 rfl ?_
    refine g_iconst C (v := 1) dL_law_493 ci_1 ?_
    refine g_iadd C (v := nI (4 * q + 1)) dL_law_494 (nI_add _ 1) ?_
    refine g_sld C (x := v9) hX hbl (fun z9 => absurd hbl (Nat.not_lt.mpr z9)) (by omega) (4 * q + 1) rfl (by omega) e1 dL_law_495 ?_
    refine g_callVi C (c_X4_pay_1 l D cI cO ma th g a9 sv z t n dg hI.1 hI.2.2.1 v9 h) gL_law_X4_pay rfl ⟨rfl, rfl⟩ hd_X4_pay ⟨Nat.le_of_ble_eq_true rfl, Nat.le_of_ble_eq_true rfl⟩ [0, 1] rfl (fun _ _ => trivial) rfl (rest := []) rfl (Nat.le_of_ble_eq_true rfl) dL_law_496 ⟨(by show _ ≤ 621006; omega), (by show _ ≤ 7233085; omega)⟩ 0 rfl rfl rfl (pre := ((wS0 xa ad ha ta) ++ ((wT ta cI t (nI n)) ++ ((wHs ha hb cI cO G (nI o) (nI z)) ++ ((wB ad cI g) ++ (wO oa cJ oj)))))) (post := []) (ws' := ((wS0 xa ad ha ta) ++ ((wT ta cI t (nI n)) ++ ((wHs ha hb cI cO G (nI o) (nI z)) ++ ((wB ad cI g) ++ ((wO oa cJ oj) ++ (wM ma cI 1 g a9 sv z t n dg))))))) rfl rfl ?_
    refine g_istore C (lv' := [(6, .int 0), (5, .int 1), (0, .ref b), (1, .ref xa), (2, .ref (ma 0)), (3, .ref oa), (4, .int (nI (4 * q)))]) dL_law_499 (by decide) rfl ?_
    refine g_aload_n C dL_law_501 4 rfl ?_
    refine g_callVi C (c_X4_thrown l D cI cO ma 1 g a9 sv z t n dg hI9.1 hI9.2.2.1) gL_law_X4_thrown rfl ⟨rfl, rfl⟩ hd_X4_thrown ⟨Nat.le_of_ble_eq_true rfl, Nat.le_of_ble_eq_true rfl⟩ [0, 1] rfl (fun _ _ => trivial) rfl (rest := []) rfl (Nat.le_of_ble_eq_true rfl) dL_law_502 ⟨(by show _ ≤ 621006; omega), (by show _ ≤ 7233085; omega)⟩ 0 rfl rfl rfl (pre := ((wS0 xa ad ha ta) ++ ((wT ta cI t (nI n)) ++ ((wHs ha hb cI cO G (nI o) (nI z)) ++ ((wB ad cI g) ++ (wO oa cJ oj)))))) (post := []) (ws' := ((wS0 xa ad ha ta) ++ ((wT ta cI t (nI n)) ++ ((wHs ha hb cI cO G (nI o) (nI z)) ++ ((wB ad cI g) ++ ((wO oa cJ oj) ++ (wM ma cI 1 g a9 sv z t n dg))))))) rfl rfl ?_
    refine g_iload C dL_law_505 1 rfl ?_
    refine g_icmp_eq C (tgt := 512) dL_law_507 (by decide) (fun _ => ?_) (fun h507_1 => absurd (by decide) h507_1)
    refine g_iload C dL_law_512 1 rfl ?_
    refine g_if_ne C (tgt := 529) dL_law_514 (by decide) (fun _ => ?_) (fun h514_2 => absurd h514_2 (by decide))
    refine g_goto C (tgt := 1113) dL_law_529 (by decide) ?_
    refine g_lv [2, 3, 4, 5, 6] (lv' := [(0, .ref b), (1, .ref xa), (2, .ref (ma 0)), (3, .ref oa), (4, .int (nI (4 * q)))]) rfl ?_
    refine g_wid (k' := 60 + (q + 1)) (n' := 1010 + 6 * (q + 1)) (by omega) (by omega) ?_
    exact hnext _ _ _ _ _ _ _ _ _ _ _ hI9
  obtain ⟨r, hr, rfl⟩ := orR h
  by_cases h : (xCh g r (g (6 * r + 3)) 0).1 = -1
  · have hI9 : LI t n G g o z sv := hI
    refine g_aload_n C dL_law_476 1 rfl ?_
    refine g_aload_n C dL_law_477 0 rfl ?_
    refine g_iload C dL_law_478 4 rfl ?_
    refine g_iconst C (v := 1) dL_law_480 ci_1 ?_
    refine g_iadd C (v := nI (4 * q + 1)) dL_law_481 (nI_add _ 1) ?_
    refine g_sld C (x := nI r) hX hbl (fun z9 => absurd hbl (Nat.not_lt.mpr z9)) (by omega) (4 * q + 1) rfl (by omega) e1 dL_law_482 ?_
    refine g_aload_n C dL_law_483 3 rfl ?_
    refine g_callSW C hZ (w_L_pay_2 l hl D cI cO cJ xa ta ha hb ad t n G g o z hI.1 hI.2.1 hI.2.2.1 r hr h oa oj) gL_law_L_pay rfl ⟨rfl, rfl⟩ hd_L_pay ⟨Nat.le_of_ble_eq_true rfl, Nat.le_of_ble_eq_true rfl⟩ [0, 1, 2] rfl (sF_w hF) rfl (rest := []) rfl (Nat.le_of_ble_eq_true rfl) dL_law_484 ⟨(by show _ + 1 ≤ 621006; omega), (by show _ + 6 ≤ 7233085; omega)⟩ (pre := []) (post := (wM ma cI th g a9 sv z t n dg)) (ws' := ((wS0 xa ad ha ta) ++ ((wT ta cI t (nI n)) ++ ((wHs ha hb cI cO G (nI o) (nI z)) ++ ((wB ad cI g) ++ ((wO oa cJ oj) ++ (wM ma cI th g a9 sv z t n dg))))))) rfl rfl ?_
    refine g_istore C (lv' := [(5, .int 2), (0, .ref b), (1, .ref xa), (2, .ref (ma 0)), (3, .ref oa), (4, .int (nI (4 * q)))]) dL_law_487 (by decide) rfl ?_
    refine g_aload_n C dL_law_489 3 rfl ?_
    refine g_aload_n C dL_law_490 1 rfl ?_
    refine g_iload C dL_law_491 5 rfl ?_
    refine g_iconst C (v := 1) dL_law_493 ci_1 ?_
    refine g_iadd C (v := nI (4 * q + 1)) dL_law_494 (nI_add _ 1) ?_
    refine g_sld C (x := nI r) hX hbl (fun z9 => absurd hbl (Nat.not_lt.mpr z9)) (by omega) (4 * q + 1) rfl (by omega) e1 dL_law_495 ?_
    refine g_callVi C (c_X4_pay_2 l D cI cO ma th g a9 sv z t n dg hI.1 hI.2.2.1 r hr (by rw [eK1 hr hI.2.2.2.1]; exact h)) gL_law_X4_pay rfl ⟨rfl, rfl⟩ hd_X4_pay ⟨Nat.le_of_ble_eq_true rfl, Nat.le_of_ble_eq_true rfl⟩ [0, 1] rfl (fun _ _ => trivial) rfl (rest := []) rfl (Nat.le_of_ble_eq_true rfl) dL_law_496 ⟨(by show _ ≤ 621006; omega), (by show _ ≤ 7233085; omega)⟩ 0 rfl rfl rfl (pre := ((wS0 xa ad ha ta) ++ ((wT ta cI t (nI n)) ++ ((wHs ha hb cI cO G (nI o) (nI z)) ++ ((wB ad cI g) ++ (wO oa cJ oj)))))) (post := []) (ws' := ((wS0 xa ad ha ta) ++ ((wT ta cI t (nI n)) ++ ((wHs ha hb cI cO G (nI o) (nI z)) ++ ((wB ad cI g) ++ ((wO oa cJ oj) ++ (wM ma cI 2 g g sv z t n dg))))))) rfl rfl ?_
    refine g_istore C (lv' := [(6, .int 0), (5, .int 2), (0, .ref b), (1, .ref xa), (2, .ref (ma 0)), (3, .ref oa), (4, .int (nI (4 * q)))]) dL_law_499 (by decide) rfl ?_
    refine g_aload_n C dL_law_501 4 rfl ?_
    refine g_callVi C (c_X4_thrown l D cI cO ma 2 g g sv z t n dg hI9.1 hI9.2.2.1) gL_law_X4_thrown rfl ⟨rfl, rfl⟩ hd_X4_thrown ⟨Nat.le_of_ble_eq_true rfl, Nat.le_of_ble_eq_true rfl⟩ [0, 1] rfl (fun _ _ => trivial) rfl (rest := []) rfl (Nat.le_of_ble_eq_true rfl) dL_law_502 ⟨(by show _ ≤ 621006; omega), (by show _ ≤ 7233085; omega)⟩ 0 rfl rfl rfl (pre := ((wS0 xa ad ha ta) ++ ((wT ta cI t (nI n)) ++ ((wHs ha hb cI cO G (nI o) (nI z)) ++ ((wB ad cI g) ++ (wO oa cJ oj)))))) (post := []) (ws' := ((wS0 xa ad ha ta) ++ ((wT ta cI t (nI n)) ++ ((wHs ha hb cI cO G (nI o) (nI z)) ++ ((wB ad cI g) ++ ((wO oa cJ oj) ++ (wM ma cI 2 g g sv z t n dg))))))) rfl rfl ?_
    refine g_iload C dL_law_505 1 rfl ?_
    refine g_icmp_eq C (tgt := 512) dL_law_507 (by decide) (fun _ => ?_) (fun h507_1 => absurd (by decide) h507_1)
    refine g_iload C dL_law_512 1 rfl ?_
    refine g_if_ne C (tgt := 529) dL_law_514 (by decide) (fun _ => ?_) (fun h514_2 => absurd h514_2 (by decide))
    refine g_goto C (tgt := 1113) dL_law_529 (by decide) ?_
    refine g_lv [2, 3, 4, 5, 6] (lv' := [(0, .ref b), (1, .ref xa), (2, .ref (ma 0)), (3, .ref oa), (4, .int (nI (4 * q)))]) rfl ?_
    refine g_wid (k' := 60 + (q + 1)) (n' := 1010 + 6 * (q + 1)) (by omega) (by omega) ?_
    exact hnext _ _ _ _ _ _ _ _ _ _ _ hI9
  obtain ⟨eR0, eu0, hI1, hy⟩ := lPay hr hI.2.2.2.1 h
  have hI9 : LI t n (kG G o z g) ((xPa g r).2) (kO o z) (kM z + 1) (ySv g sv z) := LI_keep hI hI1
  have eR : ((xPa g r).1 : Int32) = yAm (yT1 g r).2 - yAm g := eR0
  refine g_aload_n C dL_law_476 1 rfl ?_
  refine g_aload_n C dL_law_477 0 rfl ?_
  refine g_iload C dL_law_478 4 rfl ?_
  refine g_iconst C (v := 1) dL_law_480 ci_1 ?_
  refine g_iadd C (v := nI (4 * q + 1)) dL_law_481 (nI_add _ 1) ?_
  refine g_sld C (x := nI r) hX hbl (fun z9 => absurd hbl (Nat.not_lt.mpr z9)) (by omega) (4 * q + 1) rfl (by omega) e1 dL_law_482 ?_
  refine g_aload_n C dL_law_483 3 rfl ?_
  refine g_callSW C hZ (w_L_pay l hl D cI cO cJ xa ta ha hb ad t n G g o z hI.1 hI.2.1 hI.2.2.1 r hr h oa oj) gL_law_L_pay rfl ⟨rfl, rfl⟩ hd_L_pay ⟨Nat.le_of_ble_eq_true rfl, Nat.le_of_ble_eq_true rfl⟩ [0, 1, 2] rfl (sF_w hF) rfl (rest := []) rfl (Nat.le_of_ble_eq_true rfl) dL_law_484 ⟨(by show _ + 1 ≤ 621006; omega), (by show _ + 6 ≤ 7233085; omega)⟩ (pre := []) (post := (wM ma cI th g a9 sv z t n dg)) (ws' := ((wS0 xa ad ha ta) ++ ((wT ta cI t (nI n)) ++ ((wHs ha hb cI cO (kG G o z g) (nI (kO o z)) (nI (kM z + 1))) ++ ((wB ad cI ((xPa g r).2)) ++ ((wO oa cJ (vp_updL oj 0 ((xPa g r).1).toInt64)) ++ (wM ma cI th g a9 sv z t n dg))))))) rfl rfl ?_
  refine g_istore C (lv' := [(5, .int 0), (0, .ref b), (1, .ref xa), (2, .ref (ma 0)), (3, .ref oa), (4, .int (nI (4 * q)))]) dL_law_487 (by decide) rfl ?_
  refine g_aload_n C dL_law_489 3 rfl ?_
  refine g_aload_n C dL_law_490 1 rfl ?_
  refine g_iload C dL_law_491 5 rfl ?_
  refine g_iconst C (v := 1) dL_law_493 ci_1 ?_
  refine g_iadd C (v := nI (4 * q + 1)) dL_law_494 (nI_add _ 1) ?_
  refine g_sld C (x := nI r) hX hbl (fun z9 => absurd hbl (Nat.not_lt.mpr z9)) (by omega) (4 * q + 1) rfl (by omega) e1 dL_law_495 ?_
  refine g_callVi C (c_X4_pay l D cI cO ma th g a9 sv z t n dg hI.1 hI.2.2.1 r hr hy) gL_law_X4_pay rfl ⟨rfl, rfl⟩ hd_X4_pay ⟨Nat.le_of_ble_eq_true rfl, Nat.le_of_ble_eq_true rfl⟩ [0, 1] rfl (fun _ _ => trivial) rfl (rest := []) rfl (Nat.le_of_ble_eq_true rfl) dL_law_496 ⟨(by show _ ≤ 621006; omega), (by show _ ≤ 7233085; omega)⟩ 0 rfl rfl rfl (pre := ((wS0 xa ad ha ta) ++ ((wT ta cI t (nI n)) ++ ((wHs ha hb cI cO (kG G o z g) (nI (kO o z)) (nI (kM z + 1))) ++ ((wB ad cI ((xPa g r).2)) ++ (wO oa cJ (vp_updL oj 0 ((xPa g r).1).toInt64))))))) (post := []) (ws' := ((wS0 xa ad ha ta) ++ ((wT ta cI t (nI n)) ++ ((wHs ha hb cI cO (kG G o z g) (nI (kO o z)) (nI (kM z + 1))) ++ ((wB ad cI ((xPa g r).2)) ++ ((wO oa cJ (vp_updL oj 0 ((xPa g r).1).toInt64)) ++ (wM ma cI 0 ((yT1 g r).2) g (ySv g sv z) (kM z + 1) t n dg))))))) rfl rfl ?_
  refine g_istore C (lv' := [(6, .int (yAm (yT1 g r).2 - yAm g)), (5, .int 0), (0, .ref b), (1, .ref xa), (2, .ref (ma 0)), (3, .ref oa), (4, .int (nI (4 * q)))]) dL_law_499 (by decide) rfl ?_
  refine g_aload_n C dL_law_501 4 rfl ?_
  refine g_callVi C (c_X4_thrown l D cI cO ma 0 ((yT1 g r).2) g (ySv g sv z) (kM z + 1) t n dg hI9.1 hI9.2.2.1) gL_law_X4_thrown rfl ⟨rfl, rfl⟩ hd_X4_thrown ⟨Nat.le_of_ble_eq_true rfl, Nat.le_of_ble_eq_true rfl⟩ [0, 1] rfl (fun _ _ => trivial) rfl (rest := []) rfl (Nat.le_of_ble_eq_true rfl) dL_law_502 ⟨(by show _ ≤ 621006; omega), (by show _ ≤ 7233085; omega)⟩ 0 rfl rfl rfl (pre := ((wS0 xa ad ha ta) ++ ((wT ta cI t (nI n)) ++ ((wHs ha hb cI cO (kG G o z g) (nI (kO o z)) (nI (kM z + 1))) ++ ((wB ad cI ((xPa g r).2)) ++ (wO oa cJ (vp_updL oj 0 ((xPa g r).1).toInt64))))))) (post := []) (ws' := ((wS0 xa ad ha ta) ++ ((wT ta cI t (nI n)) ++ ((wHs ha hb cI cO (kG G o z g) (nI (kO o z)) (nI (kM z + 1))) ++ ((wB ad cI ((xPa g r).2)) ++ ((wO oa cJ (vp_updL oj 0 ((xPa g r).1).toInt64)) ++ (wM ma cI 0 ((yT1 g r).2) g (ySv g sv z) (kM z + 1) t n dg))))))) rfl rfl ?_
  refine g_iload C dL_law_505 1 rfl ?_
  refine g_icmp_eq C (tgt := 512) dL_law_507 (by decide) (fun _ => ?_) (fun h507_1 => absurd (by decide) h507_1)
  refine g_iload C dL_law_512 1 rfl ?_
  refine g_if_ne C (tgt := 529) dL_law_514 (by decide) (fun h514_2 => absurd (by decide) h514_2) (fun _ => ?_)
  refine g_aload_n C dL_law_517 5 rfl ?_
  refine g_iconst C (v := 0) dL_law_518 ci_0 ?_
  refine g_lald C (x := (vp_updL oj 0 ((xPa g r).1).toInt64) 0) 54 2 rfl rfl 0 rfl (by decide) (by decide) rfl dL_law_519 ?_
  refine g_iload C dL_law_520 0 rfl ?_
  refine g_i2l C (v := (yAm (yT1 g r).2 - yAm g).toInt64) dL_law_522 rfl ?_
  refine g_lcmp C (v := lg_cmp ((vp_updL oj 0 ((xPa g r).1).toInt64) 0) ((yAm (yT1 g r).2 - yAm g).toInt64)) dL_law_523 rfl ?_
  refine g_if_eq C (tgt := 529) dL_law_524 (by decide) (fun _ => ?_) (fun h524_3 => absurd (lgz (by rw [pk_uLs, eR])) h524_3)
  refine g_goto C (tgt := 1113) dL_law_529 (by decide) ?_
  refine g_lv [2, 3, 4, 5, 6] (lv' := [(0, .ref b), (1, .ref xa), (2, .ref (ma 0)), (3, .ref oa), (4, .int (nI (4 * q)))]) rfl ?_
  refine g_wid (k' := 60 + (q + 1)) (n' := 1010 + 6 * (q + 1)) (by omega) (by omega) ?_
  refine g_ws (ws' := ((wS0 xa ad ha ta) ++ ((wT ta cI t (nI n)) ++ ((wHs ha hb cI cO (kG G o z g) (nI (kO o z)) (nI (kM z + 1))) ++ ((wB ad cI ((xPa g r).2)) ++ ((wO oa cJ (vp_updL oj 0 ((xPa g r).1).toInt64)) ++ (wM ma cI 0 ((xPa g r).2) g (ySv g sv z) (kM z + 1) t n dg))))))) (by rw [eu0]) ?_
  exact hnext _ _ _ _ _ _ _ _ _ _ _ hI9
theorem hd_X3_tidy : yX3_tidy.cls = RX3 ∧ yX3_tidy.cls ≠ "java/lang/invoke/MethodHandle" ∧ yX3_tidy.cls ≠ "java/lang/invoke/VarHandle" ∧ (parseMethodDescriptor yX3_tidy.desc).map (fun d => d.parameters.length) = some 0 := by decide +kernel
theorem hd_X4_tidy : yX4_tidy.cls = RX4 ∧ yX4_tidy.cls ≠ "java/lang/invoke/MethodHandle" ∧ yX4_tidy.cls ≠ "java/lang/invoke/VarHandle" ∧ (parseMethodDescriptor yX4_tidy.desc).map (fun d => d.parameters.length) = some 0 := by decide +kernel
set_option maxHeartbeats 2000000 in
set_option maxRecDepth 100000 in
theorem law_tidy {p : Program} {l : Launch} {e : Env} {s : State} {m : MethodId} {below : List Frame} {meth : Method} {c : Code} {D : va_G} {cI cO cJ : ClassId} {b L : Nat} {xs : Nat → Int32} {Q9 : State → Prop} (hl : l.stackTraces = false) (hL : L ≤ 2048) (C : gC p s m (#[.ref b] : Array Value) c cL_law RL wsL_law D vwCl (tyW cI cO cJ) (fun q9 => s.heap.size ≤ q9) s.heap 9) (hF : sF s.vm) (hZ : zF (fun q9 => s.heap.size ≤ q9) s s.heap) (hX : va_X b L xs s s.heap) (hbl : b < s.heap.size) {xa oa : Nat} {ta ha : Nat → Nat} {hb : Nat → Nat → Nat} {ad ma : Nat → Nat} (q : Nat) (hq : 4 * q + 4 ≤ L) (t : Nat → Int32) (n : Nat) (G : Nat → Nat → Int32) (g : Nat → Int32) (o z : Nat) (th : Int32) (a9 sv : Nat → Int32) (dg : Int64) (oj : Nat → Int64) (hI : LI t n G g o z sv) (hnext : (∀ (t : Nat → Int32) (n : Nat) (G : Nat → Nat → Int32) (g : Nat → Int32) (o z : Nat) (th : Int32) (a9 sv : Nat → Int32) (dg : Int64) (oj : Nat → Int64), LI t n G g o z sv → gG p l e room_1 s m (#[.ref b] : Array Value) below meth c D vwCl (fun q9 => s.heap.size ≤ q9) s.heap 9 Q9 (60 + (q + 1)) (1010 + 6 * (q + 1)) ((wS0 xa ad ha ta) ++ ((wT ta cI t (nI n)) ++ ((wHs ha hb cI cO G (nI o) (nI z)) ++ ((wB ad cI g) ++ ((wO oa cJ oj) ++ (wM ma cI th g a9 sv z t n dg)))))) 1113 [(0, .ref b), (1, .ref xa), (2, .ref (ma 0)), (3, .ref oa), (4, .int (nI (4 * q)))] [])) : gG p l e room_1 s m (#[.ref b] : Array Value) below meth c D vwCl (fun q9 => s.heap.size ≤ q9) s.heap 9 Q9 (60 + q) (1010 + 6 * q) ((wS0 xa ad ha ta) ++ ((wT ta cI t (nI n)) ++ ((wHs ha hb cI cO G (nI o) (nI z)) ++ ((wB ad cI g) ++ ((wO oa cJ oj) ++ (wM ma cI th g a9 sv z t n dg)))))) 532 [(0, .ref b), (1, .ref xa), (2, .ref (ma 0)), (3, .ref oa), (4, .int (nI (4 * q)))] [] := by
  obtain ⟨eR0, eu0, hI1⟩ := lTidy (a9 := a9) hI.2.2.2.1
  have hI9 : LI t n (kG G o z g) ((xTd g 9).2) (kO o z) (kM z + 1) (ySv g sv z) := LI_keep hI hI1
  have eR : ((xTd g 9).1 : Int32) = yAm (yTd g a9 9).1 - yAm g := eR0
  refine g_aload_n C dL_law_532 1 rfl ?_
  refine g_callVi C (c_X3_tidy l D cI cO xa ta ha hb ad t n G g o z hI.1 hI.2.1 hI.2.2.1 ) gL_law_X3_tidy rfl ⟨rfl, rfl⟩ hd_X3_tidy ⟨Nat.le_of_ble_eq_true rfl, Nat.le_of_ble_eq_true rfl⟩ [0, 1] rfl (sF_w hF) rfl (rest := []) rfl (Nat.le_of_ble_eq_true rfl) dL_law_533 ⟨(by show _ ≤ 621006; omega), (by show _ ≤ 7233085; omega)⟩ 0 rfl rfl rfl (pre := []) (post := ((wO oa cJ oj) ++ (wM ma cI th g a9 sv z t n dg))) (ws' := ((wS0 xa ad ha ta) ++ ((wT ta cI t (nI n)) ++ ((wHs ha hb cI cO (kG G o z g) (nI (kO o z)) (nI (kM z + 1))) ++ ((wB ad cI ((xTd g 9).2)) ++ ((wO oa cJ oj) ++ (wM ma cI th g a9 sv z t n dg))))))) rfl rfl ?_
  refine g_aload_n C dL_law_536 2 rfl ?_
  refine g_callVi C (c_X4_tidy l D cI cO ma th g a9 sv z t n dg hI.1 hI.2.2.1 ) gL_law_X4_tidy rfl ⟨rfl, rfl⟩ hd_X4_tidy ⟨Nat.le_of_ble_eq_true rfl, Nat.le_of_ble_eq_true rfl⟩ [0, 1] rfl (fun _ _ => trivial) rfl (rest := [.int ((xTd g 9).1)]) rfl (Nat.le_of_ble_eq_true rfl) dL_law_537 ⟨(by show _ ≤ 621006; omega), (by show _ ≤ 7233085; omega)⟩ 0 rfl rfl rfl (pre := ((wS0 xa ad ha ta) ++ ((wT ta cI t (nI n)) ++ ((wHs ha hb cI cO (kG G o z g) (nI (kO o z)) (nI (kM z + 1))) ++ ((wB ad cI ((xTd g 9).2)) ++ (wO oa cJ oj)))))) (post := []) (ws' := ((wS0 xa ad ha ta) ++ ((wT ta cI t (nI n)) ++ ((wHs ha hb cI cO (kG G o z g) (nI (kO o z)) (nI (kM z + 1))) ++ ((wB ad cI ((xTd g 9).2)) ++ ((wO oa cJ oj) ++ (wM ma cI 0 ((yTd g a9 9).1) ((yTd g a9 9).2) (ySv g sv z) (kM z + 1) t n dg))))))) rfl rfl ?_
  refine g_icmp_eq C (tgt := 1113) dL_law_540 (by decide) (fun _ => ?_) (fun h540_1 => absurd eR h540_1)
  refine g_wid (k' := 60 + (q + 1)) (n' := 1010 + 6 * (q + 1)) (by omega) (by omega) ?_
  refine g_ws (ws' := ((wS0 xa ad ha ta) ++ ((wT ta cI t (nI n)) ++ ((wHs ha hb cI cO (kG G o z g) (nI (kO o z)) (nI (kM z + 1))) ++ ((wB ad cI ((xTd g 9).2)) ++ ((wO oa cJ oj) ++ (wM ma cI 0 ((xTd g 9).2) ((yTd g a9 9).2) (ySv g sv z) (kM z + 1) t n dg))))))) (by rw [eu0]) ?_
  exact hnext _ _ _ _ _ _ _ _ _ _ _ hI9
theorem hd_L_append : yL_append.cls ≠ "java/lang/invoke/MethodHandle" ∧ yL_append.cls ≠ "java/lang/invoke/VarHandle" ∧ (parseMethodDescriptor yL_append.desc).map (fun d => d.parameters.length) = some 3 := by decide +kernel
theorem hd_X4_append : yX4_append.cls = RX4 ∧ yX4_append.cls ≠ "java/lang/invoke/MethodHandle" ∧ yX4_append.cls ≠ "java/lang/invoke/VarHandle" ∧ (parseMethodDescriptor yX4_append.desc).map (fun d => d.parameters.length) = some 1 := by decide +kernel
set_option maxHeartbeats 2000000 in
set_option maxRecDepth 100000 in
theorem law_append {p : Program} {l : Launch} {e : Env} {s : State} {m : MethodId} {below : List Frame} {meth : Method} {c : Code} {D : va_G} {cI cO cJ : ClassId} {b L : Nat} {xs : Nat → Int32} {Q9 : State → Prop} (hl : l.stackTraces = false) (hL : L ≤ 2048) (C : gC p s m (#[.ref b] : Array Value) c cL_law RL wsL_law D vwCl (tyW cI cO cJ) (fun q9 => s.heap.size ≤ q9) s.heap 9) (hF : sF s.vm) (hZ : zF (fun q9 => s.heap.size ≤ q9) s s.heap) (hX : va_X b L xs s s.heap) (hbl : b < s.heap.size) {xa oa : Nat} {ta ha : Nat → Nat} {hb : Nat → Nat → Nat} {ad ma : Nat → Nat} (q : Nat) (hq : 4 * q + 4 ≤ L) (t : Nat → Int32) (n : Nat) (G : Nat → Nat → Int32) (g : Nat → Int32) (o z : Nat) (th : Int32) (a9 sv : Nat → Int32) (dg : Int64) (oj : Nat → Int64) (hI : LI t n G g o z sv) (hnext : (∀ (t : Nat → Int32) (n : Nat) (G : Nat → Nat → Int32) (g : Nat → Int32) (o z : Nat) (th : Int32) (a9 sv : Nat → Int32) (dg : Int64) (oj : Nat → Int64), LI t n G g o z sv → gG p l e room_1 s m (#[.ref b] : Array Value) below meth c D vwCl (fun q9 => s.heap.size ≤ q9) s.heap 9 Q9 (60 + (q + 1)) (1010 + 6 * (q + 1)) ((wS0 xa ad ha ta) ++ ((wT ta cI t (nI n)) ++ ((wHs ha hb cI cO G (nI o) (nI z)) ++ ((wB ad cI g) ++ ((wO oa cJ oj) ++ (wM ma cI th g a9 sv z t n dg)))))) 1113 [(0, .ref b), (1, .ref xa), (2, .ref (ma 0)), (3, .ref oa), (4, .int (nI (4 * q)))] [])) : gG p l e room_1 s m (#[.ref b] : Array Value) below meth c D vwCl (fun q9 => s.heap.size ≤ q9) s.heap 9 Q9 (60 + q) (1010 + 6 * q) ((wS0 xa ad ha ta) ++ ((wT ta cI t (nI n)) ++ ((wHs ha hb cI cO G (nI o) (nI z)) ++ ((wB ad cI g) ++ ((wO oa cJ oj) ++ (wM ma cI th g a9 sv z t n dg)))))) 545 [(0, .ref b), (1, .ref xa), (2, .ref (ma 0)), (3, .ref oa), (4, .int (nI (4 * q)))] [] := by
  obtain ⟨v, e1⟩ : ∃ x9, xs (4 * q + 1) = x9 := ⟨_, rfl⟩
  by_cases h : v < 33 ∨ ¬ v ≤ 126
  · have hI9 : LI t n G g o z sv := hI
    refine g_aload_n C dL_law_545 1 rfl ?_
    refine g_aload_n C dL_law_546 0 rfl ?_
    refine g_iload C dL_law_547 4 rfl ?_
    refine g_iconst C (v := 1) dL_law_549 ci_1 ?_
    refine g_iadd C (v := nI (4 * q + 1)) dL_law_550 (nI_add _ 1) ?_
    refine g_sld C (x := v) hX hbl (fun z9 => absurd hbl (Nat.not_lt.mpr z9)) (by omega) (4 * q + 1) rfl (by omega) e1 dL_law_551 ?_
    refine g_aload_n C dL_law_552 3 rfl ?_
    refine g_callSW C hZ (w_L_append_1 l hl D cI cO cJ xa ta ha hb ad t n G g o z hI.1 hI.2.1 hI.2.2.1 v h oa oj) gL_law_L_append rfl ⟨rfl, rfl⟩ hd_L_append ⟨Nat.le_of_ble_eq_true rfl, Nat.le_of_ble_eq_true rfl⟩ [0, 1, 2] rfl (sF_w hF) rfl (rest := []) rfl (Nat.le_of_ble_eq_true rfl) dL_law_553 ⟨(by show _ + 1 ≤ 621006; omega), (by show _ + 6 ≤ 7233085; omega)⟩ (pre := []) (post := (wM ma cI th g a9 sv z t n dg)) (ws' := ((wS0 xa ad ha ta) ++ ((wT ta cI t (nI n)) ++ ((wHs ha hb cI cO G (nI o) (nI z)) ++ ((wB ad cI g) ++ ((wO oa cJ oj) ++ (wM ma cI th g a9 sv z t n dg))))))) rfl rfl ?_
    refine g_istore C (lv' := [(5, .int 1), (0, .ref b), (1, .ref xa), (2, .ref (ma 0)), (3, .ref oa), (4, .int (nI (4 * q)))]) dL_law_556 (by decide) rfl ?_
    refine g_aload_n C dL_law_558 3 rfl ?_
    refine g_aload_n C dL_law_559 1 rfl ?_
    refine g_iload C dL_law_560 5 rfl ?_
    refine g_iconst C (v := 1) dL_law_562 ci_1 ?_
    refine g_iadd C (v := nI (4 * q + 1)) dL_law_563 (nI_add _ 1) ?_
    refine g_sld C (x := v) hX hbl (fun z9 => absurd hbl (Nat.not_lt.mpr z9)) (by omega) (4 * q + 1) rfl (by omega) e1 dL_law_564 ?_
    refine g_callVi C (c_X4_append_1 l D cI cO ma th g a9 sv z t n dg hI.1 hI.2.2.1 v h) gL_law_X4_append rfl ⟨rfl, rfl⟩ hd_X4_append ⟨Nat.le_of_ble_eq_true rfl, Nat.le_of_ble_eq_true rfl⟩ [0, 1] rfl (fun _ _ => trivial) rfl (rest := []) rfl (Nat.le_of_ble_eq_true rfl) dL_law_565 ⟨(by show _ ≤ 621006; omega), (by show _ ≤ 7233085; omega)⟩ 0 rfl rfl rfl (pre := ((wS0 xa ad ha ta) ++ ((wT ta cI t (nI n)) ++ ((wHs ha hb cI cO G (nI o) (nI z)) ++ ((wB ad cI g) ++ (wO oa cJ oj)))))) (post := []) (ws' := ((wS0 xa ad ha ta) ++ ((wT ta cI t (nI n)) ++ ((wHs ha hb cI cO G (nI o) (nI z)) ++ ((wB ad cI g) ++ ((wO oa cJ oj) ++ (wM ma cI 1 g a9 sv z t n dg))))))) rfl rfl ?_
    refine g_istore C (lv' := [(6, .int 0), (5, .int 1), (0, .ref b), (1, .ref xa), (2, .ref (ma 0)), (3, .ref oa), (4, .int (nI (4 * q)))]) dL_law_568 (by decide) rfl ?_
    refine g_aload_n C dL_law_570 4 rfl ?_
    refine g_callVi C (c_X4_thrown l D cI cO ma 1 g a9 sv z t n dg hI9.1 hI9.2.2.1) gL_law_X4_thrown rfl ⟨rfl, rfl⟩ hd_X4_thrown ⟨Nat.le_of_ble_eq_true rfl, Nat.le_of_ble_eq_true rfl⟩ [0, 1] rfl (fun _ _ => trivial) rfl (rest := []) rfl (Nat.le_of_ble_eq_true rfl) dL_law_571 ⟨(by show _ ≤ 621006; omega), (by show _ ≤ 7233085; omega)⟩ 0 rfl rfl rfl (pre := ((wS0 xa ad ha ta) ++ ((wT ta cI t (nI n)) ++ ((wHs ha hb cI cO G (nI o) (nI z)) ++ ((wB ad cI g) ++ (wO oa cJ oj)))))) (post := []) (ws' := ((wS0 xa ad ha ta) ++ ((wT ta cI t (nI n)) ++ ((wHs ha hb cI cO G (nI o) (nI z)) ++ ((wB ad cI g) ++ ((wO oa cJ oj) ++ (wM ma cI 1 g a9 sv z t n dg))))))) rfl rfl ?_
    refine g_iload C dL_law_574 1 rfl ?_
    refine g_icmp_eq C (tgt := 581) dL_law_576 (by decide) (fun _ => ?_) (fun h576_1 => absurd (by decide) h576_1)
    refine g_iload C dL_law_581 1 rfl ?_
    refine g_if_ne C (tgt := 598) dL_law_583 (by decide) (fun _ => ?_) (fun h583_2 => absurd h583_2 (by decide))
    refine g_goto C (tgt := 1113) dL_law_598 (by decide) ?_
    refine g_lv [2, 3, 4, 5, 6] (lv' := [(0, .ref b), (1, .ref xa), (2, .ref (ma 0)), (3, .ref oa), (4, .int (nI (4 * q)))]) rfl ?_
    refine g_wid (k' := 60 + (q + 1)) (n' := 1010 + 6 * (q + 1)) (by omega) (by omega) ?_
    exact hnext _ _ _ _ _ _ _ _ _ _ _ hI9
  obtain ⟨h1, h2⟩ := orB h
  by_cases hf : n = 60
  · have hI9 : LI t n G g o z sv := hI
    refine g_aload_n C dL_law_545 1 rfl ?_
    refine g_aload_n C dL_law_546 0 rfl ?_
    refine g_iload C dL_law_547 4 rfl ?_
    refine g_iconst C (v := 1) dL_law_549 ci_1 ?_
    refine g_iadd C (v := nI (4 * q + 1)) dL_law_550 (nI_add _ 1) ?_
    refine g_sld C (x := v) hX hbl (fun z9 => absurd hbl (Nat.not_lt.mpr z9)) (by omega) (4 * q + 1) rfl (by omega) e1 dL_law_551 ?_
    refine g_aload_n C dL_law_552 3 rfl ?_
    refine g_callSW C hZ (w_L_append_2 l hl D cI cO cJ xa ta ha hb ad t n G g o z hI.1 hI.2.1 hI.2.2.1 v h1 h2 hf oa oj) gL_law_L_append rfl ⟨rfl, rfl⟩ hd_L_append ⟨Nat.le_of_ble_eq_true rfl, Nat.le_of_ble_eq_true rfl⟩ [0, 1, 2] rfl (sF_w hF) rfl (rest := []) rfl (Nat.le_of_ble_eq_true rfl) dL_law_553 ⟨(by show _ + 1 ≤ 621006; omega), (by show _ + 6 ≤ 7233085; omega)⟩ (pre := []) (post := (wM ma cI th g a9 sv z t n dg)) (ws' := ((wS0 xa ad ha ta) ++ ((wT ta cI t (nI n)) ++ ((wHs ha hb cI cO G (nI o) (nI z)) ++ ((wB ad cI g) ++ ((wO oa cJ oj) ++ (wM ma cI th g a9 sv z t n dg))))))) rfl rfl ?_
    refine g_istore C (lv' := [(5, .int 2), (0, .ref b), (1, .ref xa), (2, .ref (ma 0)), (3, .ref oa), (4, .int (nI (4 * q)))]) dL_law_556 (by decide) rfl ?_
    refine g_aload_n C dL_law_558 3 rfl ?_
    refine g_aload_n C dL_law_559 1 rfl ?_
    refine g_iload C dL_law_560 5 rfl ?_
    refine g_iconst C (v := 1) dL_law_562 ci_1 ?_
    refine g_iadd C (v := nI (4 * q + 1)) dL_law_563 (nI_add _ 1) ?_
    refine g_sld C (x := v) hX hbl (fun z9 => absurd hbl (Nat.not_lt.mpr z9)) (by omega) (4 * q + 1) rfl (by omega) e1 dL_law_564 ?_
    refine g_callVi C (c_X4_append_2 l D cI cO ma th g a9 sv z t n dg hI.1 hI.2.2.1 v h1 h2 hf) gL_law_X4_append rfl ⟨rfl, rfl⟩ hd_X4_append ⟨Nat.le_of_ble_eq_true rfl, Nat.le_of_ble_eq_true rfl⟩ [0, 1] rfl (fun _ _ => trivial) rfl (rest := []) rfl (Nat.le_of_ble_eq_true rfl) dL_law_565 ⟨(by show _ ≤ 621006; omega), (by show _ ≤ 7233085; omega)⟩ 0 rfl rfl rfl (pre := ((wS0 xa ad ha ta) ++ ((wT ta cI t (nI n)) ++ ((wHs ha hb cI cO G (nI o) (nI z)) ++ ((wB ad cI g) ++ (wO oa cJ oj)))))) (post := []) (ws' := ((wS0 xa ad ha ta) ++ ((wT ta cI t (nI n)) ++ ((wHs ha hb cI cO G (nI o) (nI z)) ++ ((wB ad cI g) ++ ((wO oa cJ oj) ++ (wM ma cI 2 g a9 sv z t n dg))))))) rfl rfl ?_
    refine g_istore C (lv' := [(6, .int 0), (5, .int 2), (0, .ref b), (1, .ref xa), (2, .ref (ma 0)), (3, .ref oa), (4, .int (nI (4 * q)))]) dL_law_568 (by decide) rfl ?_
    refine g_aload_n C dL_law_570 4 rfl ?_
    refine g_callVi C (c_X4_thrown l D cI cO ma 2 g a9 sv z t n dg hI9.1 hI9.2.2.1) gL_law_X4_thrown rfl ⟨rfl, rfl⟩ hd_X4_thrown ⟨Nat.le_of_ble_eq_true rfl, Nat.le_of_ble_eq_true rfl⟩ [0, 1] rfl (fun _ _ => trivial) rfl (rest := []) rfl (Nat.le_of_ble_eq_true rfl) dL_law_571 ⟨(by show _ ≤ 621006; omega), (by show _ ≤ 7233085; omega)⟩ 0 rfl rfl rfl (pre := ((wS0 xa ad ha ta) ++ ((wT ta cI t (nI n)) ++ ((wHs ha hb cI cO G (nI o) (nI z)) ++ ((wB ad cI g) ++ (wO oa cJ oj)))))) (post := []) (ws' := ((wS0 xa ad ha ta) ++ ((wT ta cI t (nI n)) ++ ((wHs ha hb cI cO G (nI o) (nI z)) ++ ((wB ad cI g) ++ ((wO oa cJ oj) ++ (wM ma cI 2 g a9 sv z t n dg))))))) rfl rfl ?_
    refine g_iload C dL_law_574 1 rfl ?_
    refine g_icmp_eq C (tgt := 581) dL_law_576 (by decide) (fun _ => ?_) (fun h576_1 => absurd (by decide) h576_1)
    refine g_iload C dL_law_581 1 rfl ?_
    refine g_if_ne C (tgt := 598) dL_law_583 (by decide) (fun _ => ?_) (fun h583_2 => absurd h583_2 (by decide))
    refine g_goto C (tgt := 1113) dL_law_598 (by decide) ?_
    refine g_lv [2, 3, 4, 5, 6] (lv' := [(0, .ref b), (1, .ref xa), (2, .ref (ma 0)), (3, .ref oa), (4, .int (nI (4 * q)))]) rfl ?_
    refine g_wid (k' := 60 + (q + 1)) (n' := 1010 + 6 * (q + 1)) (by omega) (by omega) ?_
    exact hnext _ _ _ _ _ _ _ _ _ _ _ hI9
  have hf9 : n < 60 := by have := hI.1; omega
  have hI9 : LI (upd t n v) (n + 1) G g o z sv := LI_text hI (by omega)
  have eR : (nI (n + 1) : Int32) = nI (n + 1) := rfl
  refine g_aload_n C dL_law_545 1 rfl ?_
  refine g_aload_n C dL_law_546 0 rfl ?_
  refine g_iload C dL_law_547 4 rfl ?_
  refine g_iconst C (v := 1) dL_law_549 ci_1 ?_
  refine g_iadd C (v := nI (4 * q + 1)) dL_law_550 (nI_add _ 1) ?_
  refine g_sld C (x := v) hX hbl (fun z9 => absurd hbl (Nat.not_lt.mpr z9)) (by omega) (4 * q + 1) rfl (by omega) e1 dL_law_551 ?_
  refine g_aload_n C dL_law_552 3 rfl ?_
  refine g_callSW C hZ (w_L_append l hl D cI cO cJ xa ta ha hb ad t n G g o z hI.1 hI.2.1 hI.2.2.1 v h1 h2 hf9 oa oj) gL_law_L_append rfl ⟨rfl, rfl⟩ hd_L_append ⟨Nat.le_of_ble_eq_true rfl, Nat.le_of_ble_eq_true rfl⟩ [0, 1, 2] rfl (sF_w hF) rfl (rest := []) rfl (Nat.le_of_ble_eq_true rfl) dL_law_553 ⟨(by show _ + 1 ≤ 621006; omega), (by show _ + 6 ≤ 7233085; omega)⟩ (pre := []) (post := (wM ma cI th g a9 sv z t n dg)) (ws' := ((wS0 xa ad ha ta) ++ ((wT ta cI (upd t n v) (nI (n + 1))) ++ ((wHs ha hb cI cO G (nI o) (nI z)) ++ ((wB ad cI g) ++ ((wO oa cJ (vp_updL oj 0 (nI (n + 1)).toInt64)) ++ (wM ma cI th g a9 sv z t n dg))))))) rfl rfl ?_
  refine g_istore C (lv' := [(5, .int 0), (0, .ref b), (1, .ref xa), (2, .ref (ma 0)), (3, .ref oa), (4, .int (nI (4 * q)))]) dL_law_556 (by decide) rfl ?_
  refine g_aload_n C dL_law_558 3 rfl ?_
  refine g_aload_n C dL_law_559 1 rfl ?_
  refine g_iload C dL_law_560 5 rfl ?_
  refine g_iconst C (v := 1) dL_law_562 ci_1 ?_
  refine g_iadd C (v := nI (4 * q + 1)) dL_law_563 (nI_add _ 1) ?_
  refine g_sld C (x := v) hX hbl (fun z9 => absurd hbl (Nat.not_lt.mpr z9)) (by omega) (4 * q + 1) rfl (by omega) e1 dL_law_564 ?_
  refine g_callVi C (c_X4_append l D cI cO ma th g a9 sv z t n dg hI.1 hI.2.2.1 v h1 h2 hf9) gL_law_X4_append rfl ⟨rfl, rfl⟩ hd_X4_append ⟨Nat.le_of_ble_eq_true rfl, Nat.le_of_ble_eq_true rfl⟩ [0, 1] rfl (fun _ _ => trivial) rfl (rest := []) rfl (Nat.le_of_ble_eq_true rfl) dL_law_565 ⟨(by show _ ≤ 621006; omega), (by show _ ≤ 7233085; omega)⟩ 0 rfl rfl rfl (pre := ((wS0 xa ad ha ta) ++ ((wT ta cI (upd t n v) (nI (n + 1))) ++ ((wHs ha hb cI cO G (nI o) (nI z)) ++ ((wB ad cI g) ++ (wO oa cJ (vp_updL oj 0 (nI (n + 1)).toInt64))))))) (post := []) (ws' := ((wS0 xa ad ha ta) ++ ((wT ta cI (upd t n v) (nI (n + 1))) ++ ((wHs ha hb cI cO G (nI o) (nI z)) ++ ((wB ad cI g) ++ ((wO oa cJ (vp_updL oj 0 (nI (n + 1)).toInt64)) ++ (wM ma cI 0 g a9 sv z (upd t n v) (n + 1) dg))))))) rfl rfl ?_
  refine g_istore C (lv' := [(6, .int (nI (n + 1))), (5, .int 0), (0, .ref b), (1, .ref xa), (2, .ref (ma 0)), (3, .ref oa), (4, .int (nI (4 * q)))]) dL_law_568 (by decide) rfl ?_
  refine g_aload_n C dL_law_570 4 rfl ?_
  refine g_callVi C (c_X4_thrown l D cI cO ma 0 g a9 sv z (upd t n v) (n + 1) dg hI9.1 hI9.2.2.1) gL_law_X4_thrown rfl ⟨rfl, rfl⟩ hd_X4_thrown ⟨Nat.le_of_ble_eq_true rfl, Nat.le_of_ble_eq_true rfl⟩ [0, 1] rfl (fun _ _ => trivial) rfl (rest := []) rfl (Nat.le_of_ble_eq_true rfl) dL_law_571 ⟨(by show _ ≤ 621006; omega), (by show _ ≤ 7233085; omega)⟩ 0 rfl rfl rfl (pre := ((wS0 xa ad ha ta) ++ ((wT ta cI (upd t n v) (nI (n + 1))) ++ ((wHs ha hb cI cO G (nI o) (nI z)) ++ ((wB ad cI g) ++ (wO oa cJ (vp_updL oj 0 (nI (n + 1)).toInt64))))))) (post := []) (ws' := ((wS0 xa ad ha ta) ++ ((wT ta cI (upd t n v) (nI (n + 1))) ++ ((wHs ha hb cI cO G (nI o) (nI z)) ++ ((wB ad cI g) ++ ((wO oa cJ (vp_updL oj 0 (nI (n + 1)).toInt64)) ++ (wM ma cI 0 g a9 sv z (upd t n v) (n + 1) dg))))))) rfl rfl ?_
  refine g_iload C dL_law_574 1 rfl ?_
  refine g_icmp_eq C (tgt := 581) dL_law_576 (by decide) (fun _ => ?_) (fun h576_1 => absurd (by decide) h576_1)
  refine g_iload C dL_law_581 1 rfl ?_
  refine g_if_ne C (tgt := 598) dL_law_583 (by decide) (fun h583_2 => absurd (by decide) h583_2) (fun _ => ?_)
  refine g_aload_n C dL_law_586 5 rfl ?_
  refine g_iconst C (v := 0) dL_law_587 ci_0 ?_
  refine g_lald C (x := (vp_updL oj 0 (nI (n + 1)).toInt64) 0) 54 2 rfl rfl 0 rfl (by decide) (by decide) rfl dL_law_588 ?_
  refine g_iload C dL_law_589 0 rfl ?_
  refine g_i2l C (v := (nI (n + 1)).toInt64) dL_law_591 rfl ?_
  refine g_lcmp C (v := lg_cmp ((vp_updL oj 0 (nI (n + 1)).toInt64) 0) ((nI (n + 1)).toInt64)) dL_law_592 rfl ?_
  refine g_if_eq C (tgt := 598) dL_law_593 (by decide) (fun _ => ?_) (fun h593_3 => absurd (lgz (by rw [pk_uLs, eR])) h593_3)
  refine g_goto C (tgt := 1113) dL_law_598 (by decide) ?_
  refine g_lv [2, 3, 4, 5, 6] (lv' := [(0, .ref b), (1, .ref xa), (2, .ref (ma 0)), (3, .ref oa), (4, .int (nI (4 * q)))]) rfl ?_
  refine g_wid (k' := 60 + (q + 1)) (n' := 1010 + 6 * (q + 1)) (by omega) (by omega) ?_
  exact hnext _ _ _ _ _ _ _ _ _ _ _ hI9
theorem hd_X3_clearBuffer : yX3_clearBuffer.cls = RX3 ∧ yX3_clearBuffer.cls ≠ "java/lang/invoke/MethodHandle" ∧ yX3_clearBuffer.cls ≠ "java/lang/invoke/VarHandle" ∧ (parseMethodDescriptor yX3_clearBuffer.desc).map (fun d => d.parameters.length) = some 0 := by decide +kernel
theorem hd_X4_clearBuffer : yX4_clearBuffer.cls = RX4 ∧ yX4_clearBuffer.cls ≠ "java/lang/invoke/MethodHandle" ∧ yX4_clearBuffer.cls ≠ "java/lang/invoke/VarHandle" ∧ (parseMethodDescriptor yX4_clearBuffer.desc).map (fun d => d.parameters.length) = some 0 := by decide +kernel
set_option maxHeartbeats 2000000 in
set_option maxRecDepth 100000 in
theorem law_clearBuffer {p : Program} {l : Launch} {e : Env} {s : State} {m : MethodId} {below : List Frame} {meth : Method} {c : Code} {D : va_G} {cI cO cJ : ClassId} {b L : Nat} {xs : Nat → Int32} {Q9 : State → Prop} (hl : l.stackTraces = false) (hL : L ≤ 2048) (C : gC p s m (#[.ref b] : Array Value) c cL_law RL wsL_law D vwCl (tyW cI cO cJ) (fun q9 => s.heap.size ≤ q9) s.heap 9) (hF : sF s.vm) (hZ : zF (fun q9 => s.heap.size ≤ q9) s s.heap) (hX : va_X b L xs s s.heap) (hbl : b < s.heap.size) {xa oa : Nat} {ta ha : Nat → Nat} {hb : Nat → Nat → Nat} {ad ma : Nat → Nat} (q : Nat) (hq : 4 * q + 4 ≤ L) (t : Nat → Int32) (n : Nat) (G : Nat → Nat → Int32) (g : Nat → Int32) (o z : Nat) (th : Int32) (a9 sv : Nat → Int32) (dg : Int64) (oj : Nat → Int64) (hI : LI t n G g o z sv) (hnext : (∀ (t : Nat → Int32) (n : Nat) (G : Nat → Nat → Int32) (g : Nat → Int32) (o z : Nat) (th : Int32) (a9 sv : Nat → Int32) (dg : Int64) (oj : Nat → Int64), LI t n G g o z sv → gG p l e room_1 s m (#[.ref b] : Array Value) below meth c D vwCl (fun q9 => s.heap.size ≤ q9) s.heap 9 Q9 (60 + (q + 1)) (1010 + 6 * (q + 1)) ((wS0 xa ad ha ta) ++ ((wT ta cI t (nI n)) ++ ((wHs ha hb cI cO G (nI o) (nI z)) ++ ((wB ad cI g) ++ ((wO oa cJ oj) ++ (wM ma cI th g a9 sv z t n dg)))))) 1113 [(0, .ref b), (1, .ref xa), (2, .ref (ma 0)), (3, .ref oa), (4, .int (nI (4 * q)))] [])) : gG p l e room_1 s m (#[.ref b] : Array Value) below meth c D vwCl (fun q9 => s.heap.size ≤ q9) s.heap 9 Q9 (60 + q) (1010 + 6 * q) ((wS0 xa ad ha ta) ++ ((wT ta cI t (nI n)) ++ ((wHs ha hb cI cO G (nI o) (nI z)) ++ ((wB ad cI g) ++ ((wO oa cJ oj) ++ (wM ma cI th g a9 sv z t n dg)))))) 601 [(0, .ref b), (1, .ref xa), (2, .ref (ma 0)), (3, .ref oa), (4, .int (nI (4 * q)))] [] := by
  have hI9 : LI t 0 G g o z sv := LI_text hI (by decide)
  have eR : (nI n : Int32) = nI n := rfl
  refine g_aload_n C dL_law_601 1 rfl ?_
  refine g_callVi C (c_X3_clearBuffer l D cI cO xa ta ha hb ad t n G g o z hI.1 hI.2.1 hI.2.2.1 ) gL_law_X3_clearBuffer rfl ⟨rfl, rfl⟩ hd_X3_clearBuffer ⟨Nat.le_of_ble_eq_true rfl, Nat.le_of_ble_eq_true rfl⟩ [0, 1] rfl (sF_w hF) rfl (rest := []) rfl (Nat.le_of_ble_eq_true rfl) dL_law_602 ⟨(by show _ ≤ 621006; omega), (by show _ ≤ 7233085; omega)⟩ 0 rfl rfl rfl (pre := []) (post := ((wO oa cJ oj) ++ (wM ma cI th g a9 sv z t n dg))) (ws' := ((wS0 xa ad ha ta) ++ ((wT ta cI t (nI 0)) ++ ((wHs ha hb cI cO G (nI o) (nI z)) ++ ((wB ad cI g) ++ ((wO oa cJ oj) ++ (wM ma cI th g a9 sv z t n dg))))))) rfl rfl ?_
  refine g_aload_n C dL_law_605 2 rfl ?_
  refine g_callVi C (c_X4_clearBuffer l D cI cO ma th g a9 sv z t n dg hI.1 hI.2.2.1 ) gL_law_X4_clearBuffer rfl ⟨rfl, rfl⟩ hd_X4_clearBuffer ⟨Nat.le_of_ble_eq_true rfl, Nat.le_of_ble_eq_true rfl⟩ [0, 1] rfl (fun _ _ => trivial) rfl (rest := [.int (nI n)]) rfl (Nat.le_of_ble_eq_true rfl) dL_law_606 ⟨(by show _ ≤ 621006; omega), (by show _ ≤ 7233085; omega)⟩ 0 rfl rfl rfl (pre := ((wS0 xa ad ha ta) ++ ((wT ta cI t (nI 0)) ++ ((wHs ha hb cI cO G (nI o) (nI z)) ++ ((wB ad cI g) ++ (wO oa cJ oj)))))) (post := []) (ws' := ((wS0 xa ad ha ta) ++ ((wT ta cI t (nI 0)) ++ ((wHs ha hb cI cO G (nI o) (nI z)) ++ ((wB ad cI g) ++ ((wO oa cJ oj) ++ (wM ma cI 0 g a9 sv z t 0 dg))))))) rfl rfl ?_
  refine g_icmp_eq C (tgt := 1113) dL_law_609 (by decide) (fun _ => ?_) (fun h609_1 => absurd eR h609_1)
  refine g_wid (k' := 60 + (q + 1)) (n' := 1010 + 6 * (q + 1)) (by omega) (by omega) ?_
  exact hnext _ _ _ _ _ _ _ _ _ _ _ hI9
theorem hd_X3_firstError : yX3_firstError.cls = RX3 ∧ yX3_firstError.cls ≠ "java/lang/invoke/MethodHandle" ∧ yX3_firstError.cls ≠ "java/lang/invoke/VarHandle" ∧ (parseMethodDescriptor yX3_firstError.desc).map (fun d => d.parameters.length) = some 0 := by decide +kernel
theorem hd_X4_firstError : yX4_firstError.cls = RX4 ∧ yX4_firstError.cls ≠ "java/lang/invoke/MethodHandle" ∧ yX4_firstError.cls ≠ "java/lang/invoke/VarHandle" ∧ (parseMethodDescriptor yX4_firstError.desc).map (fun d => d.parameters.length) = some 0 := by decide +kernel
set_option maxHeartbeats 2000000 in
set_option maxRecDepth 100000 in
theorem law_firstError {p : Program} {l : Launch} {e : Env} {s : State} {m : MethodId} {below : List Frame} {meth : Method} {c : Code} {D : va_G} {cI cO cJ : ClassId} {b L : Nat} {xs : Nat → Int32} {Q9 : State → Prop} (hl : l.stackTraces = false) (hL : L ≤ 2048) (C : gC p s m (#[.ref b] : Array Value) c cL_law RL wsL_law D vwCl (tyW cI cO cJ) (fun q9 => s.heap.size ≤ q9) s.heap 9) (hF : sF s.vm) (hZ : zF (fun q9 => s.heap.size ≤ q9) s s.heap) (hX : va_X b L xs s s.heap) (hbl : b < s.heap.size) {xa oa : Nat} {ta ha : Nat → Nat} {hb : Nat → Nat → Nat} {ad ma : Nat → Nat} (q : Nat) (hq : 4 * q + 4 ≤ L) (t : Nat → Int32) (n : Nat) (G : Nat → Nat → Int32) (g : Nat → Int32) (o z : Nat) (th : Int32) (a9 sv : Nat → Int32) (dg : Int64) (oj : Nat → Int64) (hI : LI t n G g o z sv) (hnext : (∀ (t : Nat → Int32) (n : Nat) (G : Nat → Nat → Int32) (g : Nat → Int32) (o z : Nat) (th : Int32) (a9 sv : Nat → Int32) (dg : Int64) (oj : Nat → Int64), LI t n G g o z sv → gG p l e room_1 s m (#[.ref b] : Array Value) below meth c D vwCl (fun q9 => s.heap.size ≤ q9) s.heap 9 Q9 (60 + (q + 1)) (1010 + 6 * (q + 1)) ((wS0 xa ad ha ta) ++ ((wT ta cI t (nI n)) ++ ((wHs ha hb cI cO G (nI o) (nI z)) ++ ((wB ad cI g) ++ ((wO oa cJ oj) ++ (wM ma cI th g a9 sv z t n dg)))))) 1113 [(0, .ref b), (1, .ref xa), (2, .ref (ma 0)), (3, .ref oa), (4, .int (nI (4 * q)))] [])) : gG p l e room_1 s m (#[.ref b] : Array Value) below meth c D vwCl (fun q9 => s.heap.size ≤ q9) s.heap 9 Q9 (60 + q) (1010 + 6 * q) ((wS0 xa ad ha ta) ++ ((wT ta cI t (nI n)) ++ ((wHs ha hb cI cO G (nI o) (nI z)) ++ ((wB ad cI g) ++ ((wO oa cJ oj) ++ (wM ma cI th g a9 sv z t n dg)))))) 614 [(0, .ref b), (1, .ref xa), (2, .ref (ma 0)), (3, .ref oa), (4, .int (nI (4 * q)))] [] := by
  have hI9 : LI t n G g o z sv := hI
  have eR : (xFW t n : Int32) = yWR t n := eFW hI.1
  refine g_aload_n C dL_law_614 1 rfl ?_
  refine g_callVi C (c_X3_firstError l D cI cO xa ta ha hb ad t n G g o z hI.1 hI.2.1 hI.2.2.1 ) gL_law_X3_firstError rfl ⟨rfl, rfl⟩ hd_X3_firstError ⟨Nat.le_of_ble_eq_true rfl, Nat.le_of_ble_eq_true rfl⟩ [0, 1] rfl (sF_w hF) rfl (rest := []) rfl (Nat.le_of_ble_eq_true rfl) dL_law_615 ⟨(by show _ ≤ 621006; omega), (by show _ ≤ 7233085; omega)⟩ 0 rfl rfl rfl (pre := []) (post := ((wO oa cJ oj) ++ (wM ma cI th g a9 sv z t n dg))) (ws' := ((wS0 xa ad ha ta) ++ ((wT ta cI t (nI n)) ++ ((wHs ha hb cI cO G (nI o) (nI z)) ++ ((wB ad cI g) ++ ((wO oa cJ oj) ++ (wM ma cI th g a9 sv z t n dg))))))) rfl rfl ?_
  refine g_aload_n C dL_law_618 2 rfl ?_
  refine g_callVi C (c_X4_firstError l D cI cO ma th g a9 sv z t n dg hI.1 hI.2.2.1 ) gL_law_X4_firstError rfl ⟨rfl, rfl⟩ hd_X4_firstError ⟨Nat.le_of_ble_eq_true rfl, Nat.le_of_ble_eq_true rfl⟩ [0, 1] rfl (fun _ _ => trivial) rfl (rest := [.int (xFW t n)]) rfl (Nat.le_of_ble_eq_true rfl) dL_law_619 ⟨(by show _ ≤ 621006; omega), (by show _ ≤ 7233085; omega)⟩ 0 rfl rfl rfl (pre := ((wS0 xa ad ha ta) ++ ((wT ta cI t (nI n)) ++ ((wHs ha hb cI cO G (nI o) (nI z)) ++ ((wB ad cI g) ++ (wO oa cJ oj)))))) (post := []) (ws' := ((wS0 xa ad ha ta) ++ ((wT ta cI t (nI n)) ++ ((wHs ha hb cI cO G (nI o) (nI z)) ++ ((wB ad cI g) ++ ((wO oa cJ oj) ++ (wM ma cI 0 g a9 sv z t n dg))))))) rfl rfl ?_
  refine g_icmp_eq C (tgt := 1113) dL_law_622 (by decide) (fun _ => ?_) (fun h622_1 => absurd eR h622_1)
  refine g_wid (k' := 60 + (q + 1)) (n' := 1010 + 6 * (q + 1)) (by omega) (by omega) ?_
  exact hnext _ _ _ _ _ _ _ _ _ _ _ hI9
theorem hd_L_reckon : yL_reckon.cls ≠ "java/lang/invoke/MethodHandle" ∧ yL_reckon.cls ≠ "java/lang/invoke/VarHandle" ∧ (parseMethodDescriptor yL_reckon.desc).map (fun d => d.parameters.length) = some 2 := by decide +kernel
theorem hd_X4_reckon : yX4_reckon.cls = RX4 ∧ yX4_reckon.cls ≠ "java/lang/invoke/MethodHandle" ∧ yX4_reckon.cls ≠ "java/lang/invoke/VarHandle" ∧ (parseMethodDescriptor yX4_reckon.desc).map (fun d => d.parameters.length) = some 0 := by decide +kernel
set_option maxHeartbeats 2000000 in
set_option maxRecDepth 100000 in
theorem law_reckon {p : Program} {l : Launch} {e : Env} {s : State} {m : MethodId} {below : List Frame} {meth : Method} {c : Code} {D : va_G} {cI cO cJ : ClassId} {b L : Nat} {xs : Nat → Int32} {Q9 : State → Prop} (hl : l.stackTraces = false) (hL : L ≤ 2048) (C : gC p s m (#[.ref b] : Array Value) c cL_law RL wsL_law D vwCl (tyW cI cO cJ) (fun q9 => s.heap.size ≤ q9) s.heap 9) (hF : sF s.vm) (hZ : zF (fun q9 => s.heap.size ≤ q9) s s.heap) (hX : va_X b L xs s s.heap) (hbl : b < s.heap.size) {xa oa : Nat} {ta ha : Nat → Nat} {hb : Nat → Nat → Nat} {ad ma : Nat → Nat} (q : Nat) (hq : 4 * q + 4 ≤ L) (t : Nat → Int32) (n : Nat) (G : Nat → Nat → Int32) (g : Nat → Int32) (o z : Nat) (th : Int32) (a9 sv : Nat → Int32) (dg : Int64) (oj : Nat → Int64) (hI : LI t n G g o z sv) (hnext : (∀ (t : Nat → Int32) (n : Nat) (G : Nat → Nat → Int32) (g : Nat → Int32) (o z : Nat) (th : Int32) (a9 sv : Nat → Int32) (dg : Int64) (oj : Nat → Int64), LI t n G g o z sv → gG p l e room_1 s m (#[.ref b] : Array Value) below meth c D vwCl (fun q9 => s.heap.size ≤ q9) s.heap 9 Q9 (60 + (q + 1)) (1010 + 6 * (q + 1)) ((wS0 xa ad ha ta) ++ ((wT ta cI t (nI n)) ++ ((wHs ha hb cI cO G (nI o) (nI z)) ++ ((wB ad cI g) ++ ((wO oa cJ oj) ++ (wM ma cI th g a9 sv z t n dg)))))) 1113 [(0, .ref b), (1, .ref xa), (2, .ref (ma 0)), (3, .ref oa), (4, .int (nI (4 * q)))] [])) : gG p l e room_1 s m (#[.ref b] : Array Value) below meth c D vwCl (fun q9 => s.heap.size ≤ q9) s.heap 9 Q9 (60 + q) (1010 + 6 * q) ((wS0 xa ad ha ta) ++ ((wT ta cI t (nI n)) ++ ((wHs ha hb cI cO G (nI o) (nI z)) ++ ((wB ad cI g) ++ ((wO oa cJ oj) ++ (wM ma cI th g a9 sv z t n dg)))))) 627 [(0, .ref b), (1, .ref xa), (2, .ref (ma 0)), (3, .ref oa), (4, .int (nI (4 * q)))] [] := by
  by_cases hc : xCs t n
  · have hy := (eCs hI.1).mp hc
    obtain ⟨eR0, eu0, hI1, hd9⟩ := eReckon (a9 := a9) hI.1 hy hI.2.2.2.1
    have hI9 : LI t 0 (kG G o z g) ((xRk t n n 0 0 g).2) (kO o z) (kM z + 1) (ySv g sv z) := LI_text (LI_keep hI hI1) (by decide)
    have eR : (nI (xRk t n n 0 0 g).1 : Int32) = (yRk t n n 0 0 (g, a9)).1 := eR0.symm
    refine g_aload_n C dL_law_627 1 rfl ?_
    refine g_aload_n C dL_law_628 3 rfl ?_
    refine g_callSW C hZ (w_L_reckon l hl D cI cO cJ xa ta ha hb ad t n G g o z hI.1 hI.2.1 hI.2.2.1 hc oa oj) gL_law_L_reckon rfl ⟨rfl, rfl⟩ hd_L_reckon ⟨Nat.le_of_ble_eq_true rfl, Nat.le_of_ble_eq_true rfl⟩ [0, 1, 2] rfl (sF_w hF) rfl (rest := []) rfl (Nat.le_of_ble_eq_true rfl) dL_law_629 ⟨(by show _ + 1 ≤ 621006; omega), (by show _ + 6 ≤ 7233085; omega)⟩ (pre := []) (post := (wM ma cI th g a9 sv z t n dg)) (ws' := ((wS0 xa ad ha ta) ++ ((wT ta cI t (nI 0)) ++ ((wHs ha hb cI cO (kG G o z g) (nI (kO o z)) (nI (kM z + 1))) ++ ((wB ad cI ((xRk t n n 0 0 g).2)) ++ ((wO oa cJ (vp_updL oj 0 (nI (xRk t n n 0 0 g).1).toInt64)) ++ (wM ma cI th g a9 sv z t n dg))))))) rfl rfl ?_
    refine g_istore C (lv' := [(5, .int 0), (0, .ref b), (1, .ref xa), (2, .ref (ma 0)), (3, .ref oa), (4, .int (nI (4 * q)))]) dL_law_632 (by decide) rfl ?_
    refine g_aload_n C dL_law_634 3 rfl ?_
    refine g_callVi C (c_X4_reckon l D cI cO ma th g a9 sv z t n dg hI.1 hI.2.2.1 hy hd9) gL_law_X4_reckon rfl ⟨rfl, rfl⟩ hd_X4_reckon ⟨Nat.le_of_ble_eq_true rfl, Nat.le_of_ble_eq_true rfl⟩ [0, 1] rfl (fun _ _ => trivial) rfl (rest := []) rfl (Nat.le_of_ble_eq_true rfl) dL_law_635 ⟨(by show _ ≤ 621006; omega), (by show _ ≤ 7233085; omega)⟩ 0 rfl rfl rfl (pre := ((wS0 xa ad ha ta) ++ ((wT ta cI t (nI 0)) ++ ((wHs ha hb cI cO (kG G o z g) (nI (kO o z)) (nI (kM z + 1))) ++ ((wB ad cI ((xRk t n n 0 0 g).2)) ++ (wO oa cJ (vp_updL oj 0 (nI (xRk t n n 0 0 g).1).toInt64))))))) (post := []) (ws' := ((wS0 xa ad ha ta) ++ ((wT ta cI t (nI 0)) ++ ((wHs ha hb cI cO (kG G o z g) (nI (kO o z)) (nI (kM z + 1))) ++ ((wB ad cI ((xRk t n n 0 0 g).2)) ++ ((wO oa cJ (vp_updL oj 0 (nI (xRk t n n 0 0 g).1).toInt64)) ++ (wM ma cI 0 ((yRk t n n 0 0 (g, a9)).2.1) ((yRk t n n 0 0 (g, a9)).2.2) (ySv g sv z) (kM z + 1) t 0 dg))))))) rfl rfl ?_
    refine g_istore C (lv' := [(6, .int ((yRk t n n 0 0 (g, a9)).1)), (5, .int 0), (0, .ref b), (1, .ref xa), (2, .ref (ma 0)), (3, .ref oa), (4, .int (nI (4 * q)))]) dL_law_638 (by decide) rfl ?_
    refine g_aload_n C dL_law_640 4 rfl ?_
    refine g_callVi C (c_X4_thrown l D cI cO ma 0 ((yRk t n n 0 0 (g, a9)).2.1) ((yRk t n n 0 0 (g, a9)).2.2) (ySv g sv z) (kM z + 1) t 0 dg hI9.1 hI9.2.2.1) gL_law_X4_thrown rfl ⟨rfl, rfl⟩ hd_X4_thrown ⟨Nat.le_of_ble_eq_true rfl, Nat.le_of_ble_eq_true rfl⟩ [0, 1] rfl (fun _ _ => trivial) rfl (rest := []) rfl (Nat.le_of_ble_eq_true rfl) dL_law_641 ⟨(by show _ ≤ 621006; omega), (by show _ ≤ 7233085; omega)⟩ 0 rfl rfl rfl (pre := ((wS0 xa ad ha ta) ++ ((wT ta cI t (nI 0)) ++ ((wHs ha hb cI cO (kG G o z g) (nI (kO o z)) (nI (kM z + 1))) ++ ((wB ad cI ((xRk t n n 0 0 g).2)) ++ (wO oa cJ (vp_updL oj 0 (nI (xRk t n n 0 0 g).1).toInt64))))))) (post := []) (ws' := ((wS0 xa ad ha ta) ++ ((wT ta cI t (nI 0)) ++ ((wHs ha hb cI cO (kG G o z g) (nI (kO o z)) (nI (kM z + 1))) ++ ((wB ad cI ((xRk t n n 0 0 g).2)) ++ ((wO oa cJ (vp_updL oj 0 (nI (xRk t n n 0 0 g).1).toInt64)) ++ (wM ma cI 0 ((yRk t n n 0 0 (g, a9)).2.1) ((yRk t n n 0 0 (g, a9)).2.2) (ySv g sv z) (kM z + 1) t 0 dg))))))) rfl rfl ?_
    refine g_iload C dL_law_644 1 rfl ?_
    refine g_icmp_eq C (tgt := 651) dL_law_646 (by decide) (fun _ => ?_) (fun h646_1 => absurd (by decide) h646_1)
    refine g_iload C dL_law_651 1 rfl ?_
    refine g_if_ne C (tgt := 668) dL_law_653 (by decide) (fun h653_2 => absurd (by decide) h653_2) (fun _ => ?_)
    refine g_aload_n C dL_law_656 5 rfl ?_
    refine g_iconst C (v := 0) dL_law_657 ci_0 ?_
    refine g_lald C (x := (vp_updL oj 0 (nI (xRk t n n 0 0 g).1).toInt64) 0) 54 2 rfl rfl 0 rfl (by decide) (by decide) rfl dL_law_658 ?_
    refine g_iload C dL_law_659 0 rfl ?_
    refine g_i2l C (v := ((yRk t n n 0 0 (g, a9)).1).toInt64) dL_law_661 rfl ?_
    refine g_lcmp C (v := lg_cmp ((vp_updL oj 0 (nI (xRk t n n 0 0 g).1).toInt64) 0) (((yRk t n n 0 0 (g, a9)).1).toInt64)) dL_law_662 rfl ?_
    refine g_if_eq C (tgt := 668) dL_law_663 (by decide) (fun _ => ?_) (fun h663_3 => absurd (lgz (by rw [pk_uLs, eR])) h663_3)
    refine g_goto C (tgt := 1113) dL_law_668 (by decide) ?_
    refine g_lv [2, 3, 4, 5, 6] (lv' := [(0, .ref b), (1, .ref xa), (2, .ref (ma 0)), (3, .ref oa), (4, .int (nI (4 * q)))]) rfl ?_
    refine g_wid (k' := 60 + (q + 1)) (n' := 1010 + 6 * (q + 1)) (by omega) (by omega) ?_
    refine g_ws (ws' := ((wS0 xa ad ha ta) ++ ((wT ta cI t (nI 0)) ++ ((wHs ha hb cI cO (kG G o z g) (nI (kO o z)) (nI (kM z + 1))) ++ ((wB ad cI ((xRk t n n 0 0 g).2)) ++ ((wO oa cJ (vp_updL oj 0 (nI (xRk t n n 0 0 g).1).toInt64)) ++ (wM ma cI 0 ((xRk t n n 0 0 g).2) ((yRk t n n 0 0 (g, a9)).2.2) (ySv g sv z) (kM z + 1) t 0 dg))))))) (by rw [eu0]) ?_
    exact hnext _ _ _ _ _ _ _ _ _ _ _ hI9
  · have hI9 : LI t n G g o z sv := hI
    refine g_aload_n C dL_law_627 1 rfl ?_
    refine g_aload_n C dL_law_628 3 rfl ?_
    refine g_callSW C hZ (w_L_reckon_1 l hl D cI cO cJ xa ta ha hb ad t n G g o z hI.1 hI.2.1 hI.2.2.1 hc oa oj) gL_law_L_reckon rfl ⟨rfl, rfl⟩ hd_L_reckon ⟨Nat.le_of_ble_eq_true rfl, Nat.le_of_ble_eq_true rfl⟩ [0, 1, 2] rfl (sF_w hF) rfl (rest := []) rfl (Nat.le_of_ble_eq_true rfl) dL_law_629 ⟨(by show _ + 1 ≤ 621006; omega), (by show _ + 6 ≤ 7233085; omega)⟩ (pre := []) (post := (wM ma cI th g a9 sv z t n dg)) (ws' := ((wS0 xa ad ha ta) ++ ((wT ta cI t (nI n)) ++ ((wHs ha hb cI cO G (nI o) (nI z)) ++ ((wB ad cI g) ++ ((wO oa cJ oj) ++ (wM ma cI th g a9 sv z t n dg))))))) rfl rfl ?_
    refine g_istore C (lv' := [(5, .int 1), (0, .ref b), (1, .ref xa), (2, .ref (ma 0)), (3, .ref oa), (4, .int (nI (4 * q)))]) dL_law_632 (by decide) rfl ?_
    refine g_aload_n C dL_law_634 3 rfl ?_
    refine g_callVi C (c_X4_reckon_1 l D cI cO ma th g a9 sv z t n dg hI.1 hI.2.2.1 (fun z9 => hc ((eCs hI.1).mpr z9))) gL_law_X4_reckon rfl ⟨rfl, rfl⟩ hd_X4_reckon ⟨Nat.le_of_ble_eq_true rfl, Nat.le_of_ble_eq_true rfl⟩ [0, 1] rfl (fun _ _ => trivial) rfl (rest := []) rfl (Nat.le_of_ble_eq_true rfl) dL_law_635 ⟨(by show _ ≤ 621006; omega), (by show _ ≤ 7233085; omega)⟩ 0 rfl rfl rfl (pre := ((wS0 xa ad ha ta) ++ ((wT ta cI t (nI n)) ++ ((wHs ha hb cI cO G (nI o) (nI z)) ++ ((wB ad cI g) ++ (wO oa cJ oj)))))) (post := []) (ws' := ((wS0 xa ad ha ta) ++ ((wT ta cI t (nI n)) ++ ((wHs ha hb cI cO G (nI o) (nI z)) ++ ((wB ad cI g) ++ ((wO oa cJ oj) ++ (wM ma cI 1 g a9 sv z t n dg))))))) rfl rfl ?_
    refine g_istore C (lv' := [(6, .int 0), (5, .int 1), (0, .ref b), (1, .ref xa), (2, .ref (ma 0)), (3, .ref oa), (4, .int (nI (4 * q)))]) dL_law_638 (by decide) rfl ?_
    refine g_aload_n C dL_law_640 4 rfl ?_
    refine g_callVi C (c_X4_thrown l D cI cO ma 1 g a9 sv z t n dg hI9.1 hI9.2.2.1) gL_law_X4_thrown rfl ⟨rfl, rfl⟩ hd_X4_thrown ⟨Nat.le_of_ble_eq_true rfl, Nat.le_of_ble_eq_true rfl⟩ [0, 1] rfl (fun _ _ => trivial) rfl (rest := []) rfl (Nat.le_of_ble_eq_true rfl) dL_law_641 ⟨(by show _ ≤ 621006; omega), (by show _ ≤ 7233085; omega)⟩ 0 rfl rfl rfl (pre := ((wS0 xa ad ha ta) ++ ((wT ta cI t (nI n)) ++ ((wHs ha hb cI cO G (nI o) (nI z)) ++ ((wB ad cI g) ++ (wO oa cJ oj)))))) (post := []) (ws' := ((wS0 xa ad ha ta) ++ ((wT ta cI t (nI n)) ++ ((wHs ha hb cI cO G (nI o) (nI z)) ++ ((wB ad cI g) ++ ((wO oa cJ oj) ++ (wM ma cI 1 g a9 sv z t n dg))))))) rfl rfl ?_
    refine g_iload C dL_law_644 1 rfl ?_
    refine g_icmp_eq C (tgt := 651) dL_law_646 (by decide) (fun _ => ?_) (fun h646_1 => absurd (by decide) h646_1)
    refine g_iload C dL_law_651 1 rfl ?_
    refine g_if_ne C (tgt := 668) dL_law_653 (by decide) (fun _ => ?_) (fun h653_2 => absurd h653_2 (by decide))
    refine g_goto C (tgt := 1113) dL_law_668 (by decide) ?_
    refine g_lv [2, 3, 4, 5, 6] (lv' := [(0, .ref b), (1, .ref xa), (2, .ref (ma 0)), (3, .ref oa), (4, .int (nI (4 * q)))]) rfl ?_
    refine g_wid (k' := 60 + (q + 1)) (n' := 1010 + 6 * (q + 1)) (by omega) (by omega) ?_
    exact hnext _ _ _ _ _ _ _ _ _ _ _ hI9
theorem hd_L_undo : yL_undo.cls ≠ "java/lang/invoke/MethodHandle" ∧ yL_undo.cls ≠ "java/lang/invoke/VarHandle" ∧ (parseMethodDescriptor yL_undo.desc).map (fun d => d.parameters.length) = some 2 := by decide +kernel
theorem hd_X4_undo : yX4_undo.cls = RX4 ∧ yX4_undo.cls ≠ "java/lang/invoke/MethodHandle" ∧ yX4_undo.cls ≠ "java/lang/invoke/VarHandle" ∧ (parseMethodDescriptor yX4_undo.desc).map (fun d => d.parameters.length) = some 0 := by decide +kernel
set_option maxHeartbeats 2000000 in
set_option maxRecDepth 100000 in
theorem law_undo {p : Program} {l : Launch} {e : Env} {s : State} {m : MethodId} {below : List Frame} {meth : Method} {c : Code} {D : va_G} {cI cO cJ : ClassId} {b L : Nat} {xs : Nat → Int32} {Q9 : State → Prop} (hl : l.stackTraces = false) (hL : L ≤ 2048) (C : gC p s m (#[.ref b] : Array Value) c cL_law RL wsL_law D vwCl (tyW cI cO cJ) (fun q9 => s.heap.size ≤ q9) s.heap 9) (hF : sF s.vm) (hZ : zF (fun q9 => s.heap.size ≤ q9) s s.heap) (hX : va_X b L xs s s.heap) (hbl : b < s.heap.size) {xa oa : Nat} {ta ha : Nat → Nat} {hb : Nat → Nat → Nat} {ad ma : Nat → Nat} (q : Nat) (hq : 4 * q + 4 ≤ L) (t : Nat → Int32) (n : Nat) (G : Nat → Nat → Int32) (g : Nat → Int32) (o z : Nat) (th : Int32) (a9 sv : Nat → Int32) (dg : Int64) (oj : Nat → Int64) (hI : LI t n G g o z sv) (hnext : (∀ (t : Nat → Int32) (n : Nat) (G : Nat → Nat → Int32) (g : Nat → Int32) (o z : Nat) (th : Int32) (a9 sv : Nat → Int32) (dg : Int64) (oj : Nat → Int64), LI t n G g o z sv → gG p l e room_1 s m (#[.ref b] : Array Value) below meth c D vwCl (fun q9 => s.heap.size ≤ q9) s.heap 9 Q9 (60 + (q + 1)) (1010 + 6 * (q + 1)) ((wS0 xa ad ha ta) ++ ((wT ta cI t (nI n)) ++ ((wHs ha hb cI cO G (nI o) (nI z)) ++ ((wB ad cI g) ++ ((wO oa cJ oj) ++ (wM ma cI th g a9 sv z t n dg)))))) 1113 [(0, .ref b), (1, .ref xa), (2, .ref (ma 0)), (3, .ref oa), (4, .int (nI (4 * q)))] [])) : gG p l e room_1 s m (#[.ref b] : Array Value) below meth c D vwCl (fun q9 => s.heap.size ≤ q9) s.heap 9 Q9 (60 + q) (1010 + 6 * q) ((wS0 xa ad ha ta) ++ ((wT ta cI t (nI n)) ++ ((wHs ha hb cI cO G (nI o) (nI z)) ++ ((wB ad cI g) ++ ((wO oa cJ oj) ++ (wM ma cI th g a9 sv z t n dg)))))) 671 [(0, .ref b), (1, .ref xa), (2, .ref (ma 0)), (3, .ref oa), (4, .int (nI (4 * q)))] [] := by
  by_cases h : z = 0
  · have hI9 : LI t n G g o z sv := hI
    refine g_aload_n C dL_law_671 1 rfl ?_
    refine g_aload_n C dL_law_672 3 rfl ?_
    refine g_callSW C hZ (w_L_undo_1 l hl D cI cO cJ xa ta ha hb ad t n G g o z hI.1 hI.2.1 hI.2.2.1 h oa oj) gL_law_L_undo rfl ⟨rfl, rfl⟩ hd_L_undo ⟨Nat.le_of_ble_eq_true rfl, Nat.le_of_ble_eq_true rfl⟩ [0, 1, 2] rfl (sF_w hF) rfl (rest := []) rfl (Nat.le_of_ble_eq_true rfl) dL_law_673 ⟨(by show _ + 1 ≤ 621006; omega), (by show _ + 6 ≤ 7233085; omega)⟩ (pre := []) (post := (wM ma cI th g a9 sv z t n dg)) (ws' := ((wS0 xa ad ha ta) ++ ((wT ta cI t (nI n)) ++ ((wHs ha hb cI cO G (nI o) (nI z)) ++ ((wB ad cI g) ++ ((wO oa cJ oj) ++ (wM ma cI th g a9 sv z t n dg))))))) rfl rfl ?_
    refine g_istore C (lv' := [(5, .int 1), (0, .ref b), (1, .ref xa), (2, .ref (ma 0)), (3, .ref oa), (4, .int (nI (4 * q)))]) dL_law_676 (by decide) rfl ?_
    refine g_aload_n C dL_law_678 3 rfl ?_
    refine g_callVi C (c_X4_undo_1 l D cI cO ma th g a9 sv z t n dg hI.1 hI.2.2.1 h) gL_law_X4_undo rfl ⟨rfl, rfl⟩ hd_X4_undo ⟨Nat.le_of_ble_eq_true rfl, Nat.le_of_ble_eq_true rfl⟩ [0, 1] rfl (fun _ _ => trivial) rfl (rest := []) rfl (Nat.le_of_ble_eq_true rfl) dL_law_679 ⟨(by show _ ≤ 621006; omega), (by show _ ≤ 7233085; omega)⟩ 0 rfl rfl rfl (pre := ((wS0 xa ad ha ta) ++ ((wT ta cI t (nI n)) ++ ((wHs ha hb cI cO G (nI o) (nI z)) ++ ((wB ad cI g) ++ (wO oa cJ oj)))))) (post := []) (ws' := ((wS0 xa ad ha ta) ++ ((wT ta cI t (nI n)) ++ ((wHs ha hb cI cO G (nI o) (nI z)) ++ ((wB ad cI g) ++ ((wO oa cJ oj) ++ (wM ma cI 1 g a9 sv z t n dg))))))) rfl rfl ?_
    refine g_istore C (lv' := [(6, .int 0), (5, .int 1), (0, .ref b), (1, .ref xa), (2, .ref (ma 0)), (3, .ref oa), (4, .int (nI (4 * q)))]) dL_law_682 (by decide) rfl ?_
    refine g_aload_n C dL_law_684 4 rfl ?_
    refine g_callVi C (c_X4_thrown l D cI cO ma 1 g a9 sv z t n dg hI9.1 hI9.2.2.1) gL_law_X4_thrown rfl ⟨rfl, rfl⟩ hd_X4_thrown ⟨Nat.le_of_ble_eq_true rfl, Nat.le_of_ble_eq_true rfl⟩ [0, 1] rfl (fun _ _ => trivial) rfl (rest := []) rfl (Nat.le_of_ble_eq_true rfl) dL_law_685 ⟨(by show _ ≤ 621006; omega), (by show _ ≤ 7233085; omega)⟩ 0 rfl rfl rfl (pre := ((wS0 xa ad ha ta) ++ ((wT ta cI t (nI n)) ++ ((wHs ha hb cI cO G (nI o) (nI z)) ++ ((wB ad cI g) ++ (wO oa cJ oj)))))) (post := []) (ws' := ((wS0 xa ad ha ta) ++ ((wT ta cI t (nI n)) ++ ((wHs ha hb cI cO G (nI o) (nI z)) ++ ((wB ad cI g) ++ ((wO oa cJ oj) ++ (wM ma cI 1 g a9 sv z t n dg))))))) rfl rfl ?_
    refine g_iload C dL_law_688 1 rfl ?_
    refine g_icmp_eq C (tgt := 695) dL_law_690 (by decide) (fun _ => ?_) (fun h690_1 => absurd (by decide) h690_1)
    refine g_iload C dL_law_695 1 rfl ?_
    refine g_if_ne C (tgt := 712) dL_law_697 (by decide) (fun _ => ?_) (fun h697_2 => absurd h697_2 (by decide))
    refine g_goto C (tgt := 1113) dL_law_712 (by decide) ?_
    refine g_lv [2, 3, 4, 5, 6] (lv' := [(0, .ref b), (1, .ref xa), (2, .ref (ma 0)), (3, .ref oa), (4, .int (nI (4 * q)))]) rfl ?_
    refine g_wid (k' := 60 + (q + 1)) (n' := 1010 + 6 * (q + 1)) (by omega) (by omega) ?_
    exact hnext _ _ _ _ _ _ _ _ _ _ _ hI9
  have hp : 0 < z := by omega
  have hI9 : LI t n G (G (rI o z)) o (z - 1) sv := LI_undo hI hp
  have eR : (nI (z - 1) : Int32) = nI (z - 1) := rfl
  refine g_aload_n C dL_law_671 1 rfl ?_
  refine g_aload_n C dL_law_672 3 rfl ?_
  refine g_callSW C hZ (w_L_undo l hl D cI cO cJ xa ta ha hb ad t n G g o z hI.1 hI.2.1 hI.2.2.1 hp oa oj) gL_law_L_undo rfl ⟨rfl, rfl⟩ hd_L_undo ⟨Nat.le_of_ble_eq_true rfl, Nat.le_of_ble_eq_true rfl⟩ [0, 1, 2] rfl (sF_w hF) rfl (rest := []) rfl (Nat.le_of_ble_eq_true rfl) dL_law_673 ⟨(by show _ + 1 ≤ 621006; omega), (by show _ + 6 ≤ 7233085; omega)⟩ (pre := []) (post := (wM ma cI th g a9 sv z t n dg)) (ws' := ((wS0 xa ad ha ta) ++ ((wT ta cI t (nI n)) ++ ((wHs ha hb cI cO G (nI o) (nI (z - 1))) ++ ((wB ad cI (G (rI o z))) ++ ((wO oa cJ (vp_updL oj 0 (nI (z - 1)).toInt64)) ++ (wM ma cI th g a9 sv z t n dg))))))) rfl rfl ?_
  refine g_istore C (lv' := [(5, .int 0), (0, .ref b), (1, .ref xa), (2, .ref (ma 0)), (3, .ref oa), (4, .int (nI (4 * q)))]) dL_law_676 (by decide) rfl ?_
  refine g_aload_n C dL_law_678 3 rfl ?_
  refine g_callVi C (c_X4_undo l D cI cO ma th g a9 sv z t n dg hI.1 hI.2.2.1 hp) gL_law_X4_undo rfl ⟨rfl, rfl⟩ hd_X4_undo ⟨Nat.le_of_ble_eq_true rfl, Nat.le_of_ble_eq_true rfl⟩ [0, 1] rfl (fun _ _ => trivial) rfl (rest := []) rfl (Nat.le_of_ble_eq_true rfl) dL_law_679 ⟨(by show _ ≤ 621006; omega), (by show _ ≤ 7233085; omega)⟩ 0 rfl rfl rfl (pre := ((wS0 xa ad ha ta) ++ ((wT ta cI t (nI n)) ++ ((wHs ha hb cI cO G (nI o) (nI (z - 1))) ++ ((wB ad cI (G (rI o z))) ++ (wO oa cJ (vp_updL oj 0 (nI (z - 1)).toInt64))))))) (post := []) (ws' := ((wS0 xa ad ha ta) ++ ((wT ta cI t (nI n)) ++ ((wHs ha hb cI cO G (nI o) (nI (z - 1))) ++ ((wB ad cI (G (rI o z))) ++ ((wO oa cJ (vp_updL oj 0 (nI (z - 1)).toInt64)) ++ (wM ma cI 0 (yUn g sv z) a9 sv (z - 1) t n dg))))))) rfl rfl ?_
  refine g_istore C (lv' := [(6, .int (nI (z - 1))), (5, .int 0), (0, .ref b), (1, .ref xa), (2, .ref (ma 0)), (3, .ref oa), (4, .int (nI (4 * q)))]) dL_law_682 (by decide) rfl ?_
  refine g_aload_n C dL_law_684 4 rfl ?_
  refine g_callVi C (c_X4_thrown l D cI cO ma 0 (yUn g sv z) a9 sv (z - 1) t n dg hI9.1 hI9.2.2.1) gL_law_X4_thrown rfl ⟨rfl, rfl⟩ hd_X4_thrown ⟨Nat.le_of_ble_eq_true rfl, Nat.le_of_ble_eq_true rfl⟩ [0, 1] rfl (fun _ _ => trivial) rfl (rest := []) rfl (Nat.le_of_ble_eq_true rfl) dL_law_685 ⟨(by show _ ≤ 621006; omega), (by show _ ≤ 7233085; omega)⟩ 0 rfl rfl rfl (pre := ((wS0 xa ad ha ta) ++ ((wT ta cI t (nI n)) ++ ((wHs ha hb cI cO G (nI o) (nI (z - 1))) ++ ((wB ad cI (G (rI o z))) ++ (wO oa cJ (vp_updL oj 0 (nI (z - 1)).toInt64))))))) (post := []) (ws' := ((wS0 xa ad ha ta) ++ ((wT ta cI t (nI n)) ++ ((wHs ha hb cI cO G (nI o) (nI (z - 1))) ++ ((wB ad cI (G (rI o z))) ++ ((wO oa cJ (vp_updL oj 0 (nI (z - 1)).toInt64)) ++ (wM ma cI 0 (yUn g sv z) a9 sv (z - 1) t n dg))))))) rfl rfl ?_
  refine g_iload C dL_law_688 1 rfl ?_
  refine g_icmp_eq C (tgt := 695) dL_law_690 (by decide) (fun _ => ?_) (fun h690_1 => absurd (by decide) h690_1)
  refine g_iload C dL_law_695 1 rfl ?_
  refine g_if_ne C (tgt := 712) dL_law_697 (by decide) (fun h697_2 => absurd (by decide) h697_2) (fun _ => ?_)
  refine g_aload_n C dL_law_700 5 rfl ?_
  refine g_iconst C (v := 0) dL_law_701 ci_0 ?_
  refine g_lald C (x := (vp_updL oj 0 (nI (z - 1)).toInt64) 0) 54 2 rfl rfl 0 rfl (by decide) (by decide) rfl dL_law_702 ?_
  refine g_iload C dL_law_703 0 rfl ?_
  refine g_i2l C (v := (nI (z - 1)).toInt64) dL_law_705 rfl ?_
  refine g_lcmp C (v := lg_cmp ((vp_updL oj 0 (nI (z - 1)).toInt64) 0) ((nI (z - 1)).toInt64)) dL_law_706 rfl ?_
  refine g_if_eq C (tgt := 712) dL_law_707 (by decide) (fun _ => ?_) (fun h707_3 => absurd (lgz (by rw [pk_uLs, eR])) h707_3)
  refine g_goto C (tgt := 1113) dL_law_712 (by decide) ?_
  refine g_lv [2, 3, 4, 5, 6] (lv' := [(0, .ref b), (1, .ref xa), (2, .ref (ma 0)), (3, .ref oa), (4, .int (nI (4 * q)))]) rfl ?_
  refine g_wid (k' := 60 + (q + 1)) (n' := 1010 + 6 * (q + 1)) (by omega) (by omega) ?_
  refine g_wsE (ws' := ((wS0 xa ad ha ta) ++ ((wT ta cI t (nI n)) ++ ((wHs ha hb cI cO G (nI o) (nI (z - 1))) ++ ((wB ad cI (G (rI o z))) ++ ((wO oa cJ (vp_updL oj 0 (nI (z - 1)).toInt64)) ++ (wM ma cI 0 (G (rI o z)) a9 sv (z - 1) t n dg))))))) (fun H hP => undo_ws (rg_un (g := g) hp hI.2.2.2.2.1) hP) (wD_same rfl) ?_
  exact hnext _ _ _ _ _ _ _ _ _ _ _ hI9
theorem hd_L_rod : yL_rod.cls ≠ "java/lang/invoke/MethodHandle" ∧ yL_rod.cls ≠ "java/lang/invoke/VarHandle" ∧ (parseMethodDescriptor yL_rod.desc).map (fun d => d.parameters.length) = some 4 := by decide +kernel
theorem hd_X4_rod : yX4_rod.cls = RX4 ∧ yX4_rod.cls ≠ "java/lang/invoke/MethodHandle" ∧ yX4_rod.cls ≠ "java/lang/invoke/VarHandle" ∧ (parseMethodDescriptor yX4_rod.desc).map (fun d => d.parameters.length) = some 2 := by decide +kernel
set_option maxHeartbeats 2000000 in
set_option maxRecDepth 100000 in
theorem law_rod {p : Program} {l : Launch} {e : Env} {s : State} {m : MethodId} {below : List Frame} {meth : Method} {c : Code} {D : va_G} {cI cO cJ : ClassId} {b L : Nat} {xs : Nat → Int32} {Q9 : State → Prop} (hl : l.stackTraces = false) (hL : L ≤ 2048) (C : gC p s m (#[.ref b] : Array Value) c cL_law RL wsL_law D vwCl (tyW cI cO cJ) (fun q9 => s.heap.size ≤ q9) s.heap 9) (hF : sF s.vm) (hZ : zF (fun q9 => s.heap.size ≤ q9) s s.heap) (hX : va_X b L xs s s.heap) (hbl : b < s.heap.size) {xa oa : Nat} {ta ha : Nat → Nat} {hb : Nat → Nat → Nat} {ad ma : Nat → Nat} (q : Nat) (hq : 4 * q + 4 ≤ L) (t : Nat → Int32) (n : Nat) (G : Nat → Nat → Int32) (g : Nat → Int32) (o z : Nat) (th : Int32) (a9 sv : Nat → Int32) (dg : Int64) (oj : Nat → Int64) (hI : LI t n G g o z sv) (hnext : (∀ (t : Nat → Int32) (n : Nat) (G : Nat → Nat → Int32) (g : Nat → Int32) (o z : Nat) (th : Int32) (a9 sv : Nat → Int32) (dg : Int64) (oj : Nat → Int64), LI t n G g o z sv → gG p l e room_1 s m (#[.ref b] : Array Value) below meth c D vwCl (fun q9 => s.heap.size ≤ q9) s.heap 9 Q9 (60 + (q + 1)) (1010 + 6 * (q + 1)) ((wS0 xa ad ha ta) ++ ((wT ta cI t (nI n)) ++ ((wHs ha hb cI cO G (nI o) (nI z)) ++ ((wB ad cI g) ++ ((wO oa cJ oj) ++ (wM ma cI th g a9 sv z t n dg)))))) 1113 [(0, .ref b), (1, .ref xa), (2, .ref (ma 0)), (3, .ref oa), (4, .int (nI (4 * q)))] [])) : gG p l e room_1 s m (#[.ref b] : Array Value) below meth c D vwCl (fun q9 => s.heap.size ≤ q9) s.heap 9 Q9 (60 + q) (1010 + 6 * q) ((wS0 xa ad ha ta) ++ ((wT ta cI t (nI n)) ++ ((wHs ha hb cI cO G (nI o) (nI z)) ++ ((wB ad cI g) ++ ((wO oa cJ oj) ++ (wM ma cI th g a9 sv z t n dg)))))) 715 [(0, .ref b), (1, .ref xa), (2, .ref (ma 0)), (3, .ref oa), (4, .int (nI (4 * q)))] [] := by
  obtain ⟨v9, e1⟩ : ∃ x9, xs (4 * q + 1) = x9 := ⟨_, rfl⟩
  obtain ⟨w9, e2⟩ : ∃ x9, xs (4 * q + 2) = x9 := ⟨_, rfl⟩
  by_cases h : v9 < 0 ∨ ¬ v9 < 9
  · have hI9 : LI t n G g o z sv := hI
    refine g_aload_n C dL_law_715 1 rfl ?_
    refine g_aload_n C dL_law_716 0 rfl ?_
    refine g_iload C dL_law_717 4 rfl ?_
    refine g_iconst C (v := 1) dL_law_719 ci_1 ?_
    refine g_iadd C (v := nI (4 * q + 1)) dL_law_720 (nI_add _ 1) ?_
    refine g_sld C (x := v9) hX hbl (fun z9 => absurd hbl (Nat.not_lt.mpr z9)) (by omega) (4 * q + 1) rfl (by omega) e1 dL_law_721 ?_
    refine g_aload_n C dL_law_722 0 rfl ?_
    refine g_iload C dL_law_723 4 rfl ?_
    refine g_iconst C (v := 2) dL_law_725 ci_2 ?_
    refine g_iadd C (v := nI (4 * q + 2)) dL_law_726 (nI_add _ 2) ?_
    refine g_sld C (x := w9) hX hbl (fun z9 => absurd hbl (Nat.not_lt.mpr z9)) (by omega) (4 * q + 2) rfl (by omega) e2 dL_law_727 ?_
    refine g_aload_n C dL_law_728 3 rfl ?_
    refine g_callSW C hZ (w_L_rod_1 l hl D cI cO cJ xa ta ha hb ad t n G g o z hI.1 hI.2.1 hI.2.2.1 v9 w9 h oa oj) gL_law_L_rod rfl ⟨rfl, rfl⟩ hd_L_rod ⟨Nat.le_of_ble_eq_true rfl, Nat.le_of_ble_eq_true rfl⟩ [0, 1, 2] rfl (sF_w hF) rfl (rest := []) rfl (Nat.le_of_ble_eq_true rfl) dL_law_729 ⟨(by show _ + 1 ≤ 621006; omega), (by show _ + 6 ≤ 7233085; omega)⟩ (pre := []) (post := (wM ma cI th g a9 sv z t n dg)) (ws' := ((wS0 xa ad ha ta) ++ ((wT ta cI t (nI n)) ++ ((wHs ha hb cI cO G (nI o) (nI z)) ++ ((wB ad cI g) ++ ((wO oa cJ oj) ++ (wM ma cI th g a9 sv z t n dg))))))) rfl rfl ?_
    refine g_istore C (lv' := [(5, .int 1), (0, .ref b), (1, .ref xa), (2, .ref (ma 0)), (3, .ref oa), (4, .int (nI (4 * q)))]) dL_law_732 (by decide) rfl ?_
    refine g_aload_n C dL_law_734 3 rfl ?_
    refine g_aload_n C dL_law_735 1 rfl ?_
    refine g_iload C dL_law_736 5 rfl ?_
    refine g_iconst C (v := 1) dL_law_738 ci_1 ?_
    refine g_iadd C (v := nI (4 * q + 1)) dL_law_739 (nI_add _ 1) ?_
    refine g_sld C (x := v9) hX hbl (fun z9 => absurd hbl (Nat.not_lt.mpr z9)) (by omega) (4 * q + 1) rfl (by omega) e1 dL_law_740 ?_
    refine g_aload_n C dL_law_741 1 rfl ?_
    refine g_iload C dL_law_742 5 rfl ?_
    refine g_iconst C (v := 2) dL_law_744 ci_2 ?_
    refine g_iadd C (v := nI (4 * q + 2)) dL_law_745 (nI_add _ 2) ?_
    refine g_sld C (x := w9) hX hbl (fun z9 => absurd hbl (Nat.not_lt.mpr z9)) (by omega) (4 * q + 2) rfl (by omega) e2 dL_law_746 ?_
    refine g_callVi C (c_X4_rod_1 l D cI cO ma th g a9 sv z t n dg hI.1 hI.2.2.1 v9 h w9) gL_law_X4_rod rfl ⟨rfl, rfl⟩ hd_X4_rod ⟨Nat.le_of_ble_eq_true rfl, Nat.le_of_ble_eq_true rfl⟩ [0, 1] rfl (fun _ _ => trivial) rfl (rest := []) rfl (Nat.le_of_ble_eq_true rfl) dL_law_747 ⟨(by show _ ≤ 621006; omega), (by show _ ≤ 7233085; omega)⟩ 0 rfl rfl rfl (pre := ((wS0 xa ad ha ta) ++ ((wT ta cI t (nI n)) ++ ((wHs ha hb cI cO G (nI o) (nI z)) ++ ((wB ad cI g) ++ (wO oa cJ oj)))))) (post := []) (ws' := ((wS0 xa ad ha ta) ++ ((wT ta cI t (nI n)) ++ ((wHs ha hb cI cO G (nI o) (nI z)) ++ ((wB ad cI g) ++ ((wO oa cJ oj) ++ (wM ma cI 1 g a9 sv z t n dg))))))) rfl rfl ?_
    refine g_istore C (lv' := [(6, .int 0), (5, .int 1), (0, .ref b), (1, .ref xa), (2, .ref (ma 0)), (3, .ref oa), (4, .int (nI (4 * q)))]) dL_law_750 (by decide) rfl ?_
    refine g_aload_n C dL_law_752 4 rfl ?_
    refine g_callVi C (c_X4_thrown l D cI cO ma 1 g a9 sv z t n dg hI9.1 hI9.2.2.1) gL_law_X4_thrown rfl ⟨rfl, rfl⟩ hd_X4_thrown ⟨Nat.le_of_ble_eq_true rfl, Nat.le_of_ble_eq_true rfl⟩ [0, 1] rfl (fun _ _ => trivial) rfl (rest := []) rfl (Nat.le_of_ble_eq_true rfl) dL_law_753 ⟨(by show _ ≤ 621006; omega), (by show _ ≤ 7233085; omega)⟩ 0 rfl rfl rfl (pre := ((wS0 xa ad ha ta) ++ ((wT ta cI t (nI n)) ++ ((wHs ha hb cI cO G (nI o) (nI z)) ++ ((wB ad cI g) ++ (wO oa cJ oj)))))) (post := []) (ws' := ((wS0 xa ad ha ta) ++ ((wT ta cI t (nI n)) ++ ((wHs ha hb cI cO G (nI o) (nI z)) ++ ((wB ad cI g) ++ ((wO oa cJ oj) ++ (wM ma cI 1 g a9 sv z t n dg))))))) rfl rfl ?_
    refine g_iload C dL_law_756 1 rfl ?_
    refine g_icmp_eq C (tgt := 763) dL_law_758 (by decide) (fun _ => ?_) (fun h758_1 => absurd (by decide) h758_1)
    refine g_iload C dL_law_763 1 rfl ?_
    refine g_if_ne C (tgt := 780) dL_law_765 (by decide) (fun _ => ?_) (fun h765_2 => absurd h765_2 (by decide))
    refine g_goto C (tgt := 1113) dL_law_780 (by decide) ?_
    refine g_lv [2, 3, 4, 5, 6] (lv' := [(0, .ref b), (1, .ref xa), (2, .ref (ma 0)), (3, .ref oa), (4, .int (nI (4 * q)))]) rfl ?_
    refine g_wid (k' := 60 + (q + 1)) (n' := 1010 + 6 * (q + 1)) (by omega) (by omega) ?_
    exact hnext _ _ _ _ _ _ _ _ _ _ _ hI9
  obtain ⟨r, hr, rfl⟩ := orR h
  by_cases h : w9 < 0 ∨ ¬ w9 ≤ 7
  · have hI9 : LI t n G g o z sv := hI
    refine g_aload_n C dL_law_715 1 rfl ?_
    refine g_aload_n C dL_law_716 0 rfl ?_
    refine g_iload C dL_law_717 4 rfl ?_
    refine g_iconst C (v := 1) dL_law_719 ci_1 ?_
    refine g_iadd C (v := nI (4 * q + 1)) dL_law_720 (nI_add _ 1) ?_
    refine g_sld C (x := nI r) hX hbl (fun z9 => absurd hbl (Nat.not_lt.mpr z9)) (by omega) (4 * q + 1) rfl (by omega) e1 dL_law_721 ?_
    refine g_aload_n C dL_law_722 0 rfl ?_
    refine g_iload C dL_law_723 4 rfl ?_
    refine g_iconst C (v := 2) dL_law_725 ci_2 ?_
    refine g_iadd C (v := nI (4 * q + 2)) dL_law_726 (nI_add _ 2) ?_
    refine g_sld C (x := w9) hX hbl (fun z9 => absurd hbl (Nat.not_lt.mpr z9)) (by omega) (4 * q + 2) rfl (by omega) e2 dL_law_727 ?_
    refine g_aload_n C dL_law_728 3 rfl ?_
    refine g_callSW C hZ (w_L_rod_2 l hl D cI cO cJ xa ta ha hb ad t n G g o z hI.1 hI.2.1 hI.2.2.1 r hr w9 h oa oj) gL_law_L_rod rfl ⟨rfl, rfl⟩ hd_L_rod ⟨Nat.le_of_ble_eq_true rfl, Nat.le_of_ble_eq_true rfl⟩ [0, 1, 2] rfl (sF_w hF) rfl (rest := []) rfl (Nat.le_of_ble_eq_true rfl) dL_law_729 ⟨(by show _ + 1 ≤ 621006; omega), (by show _ + 6 ≤ 7233085; omega)⟩ (pre := []) (post := (wM ma cI th g a9 sv z t n dg)) (ws' := ((wS0 xa ad ha ta) ++ ((wT ta cI t (nI n)) ++ ((wHs ha hb cI cO G (nI o) (nI z)) ++ ((wB ad cI g) ++ ((wO oa cJ oj) ++ (wM ma cI th g a9 sv z t n dg))))))) rfl rfl ?_
    refine g_istore C (lv' := [(5, .int 2), (0, .ref b), (1, .ref xa), (2, .ref (ma 0)), (3, .ref oa), (4, .int (nI (4 * q)))]) dL_law_732 (by decide) rfl ?_
    refine g_aload_n C dL_law_734 3 rfl ?_
    refine g_aload_n C dL_law_735 1 rfl ?_
    refine g_iload C dL_law_736 5 rfl ?_
    refine g_iconst C (v := 1) dL_law_738 ci_1 ?_
    refine g_iadd C (v := nI (4 * q + 1)) dL_law_739 (nI_add _ 1) ?_
    refine g_sld C (x := nI r) hX hbl (fun z9 => absurd hbl (Nat.not_lt.mpr z9)) (by omega) (4 * q + 1) rfl (by omega) e1 dL_law_740 ?_
    refine g_aload_n C dL_law_741 1 rfl ?_
    refine g_iload C dL_law_742 5 rfl ?_
    refine g_iconst C (v := 2) dL_law_744 ci_2 ?_
    refine g_iadd C (v := nI (4 * q + 2)) dL_law_745 (nI_add _ 2) ?_
    refine g_sld C (x := w9) hX hbl (fun z9 => absurd hbl (Nat.not_lt.mpr z9)) (by omega) (4 * q + 2) rfl (by omega) e2 dL_law_746 ?_
    refine g_callVi C (c_X4_rod_2 l D cI cO ma th g a9 sv z t n dg hI.1 hI.2.2.1 r hr w9 h) gL_law_X4_rod rfl ⟨rfl, rfl⟩ hd_X4_rod ⟨Nat.le_of_ble_eq_true rfl, Nat.le_of_ble_eq_true rfl⟩ [0, 1] rfl (fun _ _ => trivial) rfl (rest := []) rfl (Nat.le_of_ble_eq_true rfl) dL_law_747 ⟨(by show _ ≤ 621006; omega), (by show _ ≤ 7233085; omega)⟩ 0 rfl rfl rfl (pre := ((wS0 xa ad ha ta) ++ ((wT ta cI t (nI n)) ++ ((wHs ha hb cI cO G (nI o) (nI z)) ++ ((wB ad cI g) ++ (wO oa cJ oj)))))) (post := []) (ws' := ((wS0 xa ad ha ta) ++ ((wT ta cI t (nI n)) ++ ((wHs ha hb cI cO G (nI o) (nI z)) ++ ((wB ad cI g) ++ ((wO oa cJ oj) ++ (wM ma cI 2 g a9 sv z t n dg))))))) rfl rfl ?_
    refine g_istore C (lv' := [(6, .int 0), (5, .int 2), (0, .ref b), (1, .ref xa), (2, .ref (ma 0)), (3, .ref oa), (4, .int (nI (4 * q)))]) dL_law_750 (by decide) rfl ?_
    refine g_aload_n C dL_law_752 4 rfl ?_
    refine g_callVi C (c_X4_thrown l D cI cO ma 2 g a9 sv z t n dg hI9.1 hI9.2.2.1) gL_law_X4_thrown rfl ⟨rfl, rfl⟩ hd_X4_thrown ⟨Nat.le_of_ble_eq_true rfl, Nat.le_of_ble_eq_true rfl⟩ [0, 1] rfl (fun _ _ => trivial) rfl (rest := []) rfl (Nat.le_of_ble_eq_true rfl) dL_law_753 ⟨(by show _ ≤ 621006; omega), (by show _ ≤ 7233085; omega)⟩ 0 rfl rfl rfl (pre := ((wS0 xa ad ha ta) ++ ((wT ta cI t (nI n)) ++ ((wHs ha hb cI cO G (nI o) (nI z)) ++ ((wB ad cI g) ++ (wO oa cJ oj)))))) (post := []) (ws' := ((wS0 xa ad ha ta) ++ ((wT ta cI t (nI n)) ++ ((wHs ha hb cI cO G (nI o) (nI z)) ++ ((wB ad cI g) ++ ((wO oa cJ oj) ++ (wM ma cI 2 g a9 sv z t n dg))))))) rfl rfl ?_
    refine g_iload C dL_law_756 1 rfl ?_
    refine g_icmp_eq C (tgt := 763) dL_law_758 (by decide) (fun _ => ?_) (fun h758_1 => absurd (by decide) h758_1)
    refine g_iload C dL_law_763 1 rfl ?_
    refine g_if_ne C (tgt := 780) dL_law_765 (by decide) (fun _ => ?_) (fun h765_2 => absurd h765_2 (by decide))
    refine g_goto C (tgt := 1113) dL_law_780 (by decide) ?_
    refine g_lv [2, 3, 4, 5, 6] (lv' := [(0, .ref b), (1, .ref xa), (2, .ref (ma 0)), (3, .ref oa), (4, .int (nI (4 * q)))]) rfl ?_
    refine g_wid (k' := 60 + (q + 1)) (n' := 1010 + 6 * (q + 1)) (by omega) (by omega) ?_
    exact hnext _ _ _ _ _ _ _ _ _ _ _ hI9
  obtain ⟨w, hw, rfl⟩ := orW h
  have hI9 : LI t n G g o z sv := hI
  have eR : (xRod g r w : Int32) = yRd g r w := (eRd (hI.2.2.2.1.1 r hr) w).symm
  refine g_aload_n C dL_law_715 1 rfl ?_
  refine g_aload_n C dL_law_716 0 rfl ?_
  refine g_iload C dL_law_717 4 rfl ?_
  refine g_iconst C (v := 1) dL_law_719 ci_1 ?_
  refine g_iadd C (v := nI (4 * q + 1)) dL_law_720 (nI_add _ 1) ?_
  refine g_sld C (x := nI r) hX hbl (fun z9 => absurd hbl (Nat.not_lt.mpr z9)) (by omega) (4 * q + 1) rfl (by omega) e1 dL_law_721 ?_
  refine g_aload_n C dL_law_722 0 rfl ?_
  refine g_iload C dL_law_723 4 rfl ?_
  refine g_iconst C (v := 2) dL_law_725 ci_2 ?_
  refine g_iadd C (v := nI (4 * q + 2)) dL_law_726 (nI_add _ 2) ?_
  refine g_sld C (x := nI w) hX hbl (fun z9 => absurd hbl (Nat.not_lt.mpr z9)) (by omega) (4 * q + 2) rfl (by omega) e2 dL_law_727 ?_
  refine g_aload_n C dL_law_728 3 rfl ?_
  refine g_callSW C hZ (w_L_rod l hl D cI cO cJ xa ta ha hb ad t n G g o z hI.1 hI.2.1 hI.2.2.1 r hr w hw oa oj) gL_law_L_rod rfl ⟨rfl, rfl⟩ hd_L_rod ⟨Nat.le_of_ble_eq_true rfl, Nat.le_of_ble_eq_true rfl⟩ [0, 1, 2] rfl (sF_w hF) rfl (rest := []) rfl (Nat.le_of_ble_eq_true rfl) dL_law_729 ⟨(by show _ + 1 ≤ 621006; omega), (by show _ + 6 ≤ 7233085; omega)⟩ (pre := []) (post := (wM ma cI th g a9 sv z t n dg)) (ws' := ((wS0 xa ad ha ta) ++ ((wT ta cI t (nI n)) ++ ((wHs ha hb cI cO G (nI o) (nI z)) ++ ((wB ad cI g) ++ ((wO oa cJ (vp_updL oj 0 (xRod g r w).toInt64)) ++ (wM ma cI th g a9 sv z t n dg))))))) rfl rfl ?_
  refine g_istore C (lv' := [(5, .int 0), (0, .ref b), (1, .ref xa), (2, .ref (ma 0)), (3, .ref oa), (4, .int (nI (4 * q)))]) dL_law_732 (by decide) rfl ?_
  refine g_aload_n C dL_law_734 3 rfl ?_
  refine g_aload_n C dL_law_735 1 rfl ?_
  refine g_iload C dL_law_736 5 rfl ?_
  refine g_iconst C (v := 1) dL_law_738 ci_1 ?_
  refine g_iadd C (v := nI (4 * q + 1)) dL_law_739 (nI_add _ 1) ?_
  refine g_sld C (x := nI r) hX hbl (fun z9 => absurd hbl (Nat.not_lt.mpr z9)) (by omega) (4 * q + 1) rfl (by omega) e1 dL_law_740 ?_
  refine g_aload_n C dL_law_741 1 rfl ?_
  refine g_iload C dL_law_742 5 rfl ?_
  refine g_iconst C (v := 2) dL_law_744 ci_2 ?_
  refine g_iadd C (v := nI (4 * q + 2)) dL_law_745 (nI_add _ 2) ?_
  refine g_sld C (x := nI w) hX hbl (fun z9 => absurd hbl (Nat.not_lt.mpr z9)) (by omega) (4 * q + 2) rfl (by omega) e2 dL_law_746 ?_
  refine g_callVi C (c_X4_rod l D cI cO ma th g a9 sv z t n dg hI.1 hI.2.2.1 r hr w hw) gL_law_X4_rod rfl ⟨rfl, rfl⟩ hd_X4_rod ⟨Nat.le_of_ble_eq_true rfl, Nat.le_of_ble_eq_true rfl⟩ [0, 1] rfl (fun _ _ => trivial) rfl (rest := []) rfl (Nat.le_of_ble_eq_true rfl) dL_law_747 ⟨(by show _ ≤ 621006; omega), (by show _ ≤ 7233085; omega)⟩ 0 rfl rfl rfl (pre := ((wS0 xa ad ha ta) ++ ((wT ta cI t (nI n)) ++ ((wHs ha hb cI cO G (nI o) (nI z)) ++ ((wB ad cI g) ++ (wO oa cJ (vp_updL oj 0 (xRod g r w).toInt64))))))) (post := []) (ws' := ((wS0 xa ad ha ta) ++ ((wT ta cI t (nI n)) ++ ((wHs ha hb cI cO G (nI o) (nI z)) ++ ((wB ad cI g) ++ ((wO oa cJ (vp_updL oj 0 (xRod g r w).toInt64)) ++ (wM ma cI 0 g a9 sv z t n dg))))))) rfl rfl ?_
  refine g_istore C (lv' := [(6, .int (yRd g r w)), (5, .int 0), (0, .ref b), (1, .ref xa), (2, .ref (ma 0)), (3, .ref oa), (4, .int (nI (4 * q)))]) dL_law_750 (by decide) rfl ?_
  refine g_aload_n C dL_law_752 4 rfl ?_
  refine g_callVi C (c_X4_thrown l D cI cO ma 0 g a9 sv z t n dg hI9.1 hI9.2.2.1) gL_law_X4_thrown rfl ⟨rfl, rfl⟩ hd_X4_thrown ⟨Nat.le_of_ble_eq_true rfl, Nat.le_of_ble_eq_true rfl⟩ [0, 1] rfl (fun _ _ => trivial) rfl (rest := []) rfl (Nat.le_of_ble_eq_true rfl) dL_law_753 ⟨(by show _ ≤ 621006; omega), (by show _ ≤ 7233085; omega)⟩ 0 rfl rfl rfl (pre := ((wS0 xa ad ha ta) ++ ((wT ta cI t (nI n)) ++ ((wHs ha hb cI cO G (nI o) (nI z)) ++ ((wB ad cI g) ++ (wO oa cJ (vp_updL oj 0 (xRod g r w).toInt64))))))) (post := []) (ws' := ((wS0 xa ad ha ta) ++ ((wT ta cI t (nI n)) ++ ((wHs ha hb cI cO G (nI o) (nI z)) ++ ((wB ad cI g) ++ ((wO oa cJ (vp_updL oj 0 (xRod g r w).toInt64)) ++ (wM ma cI 0 g a9 sv z t n dg))))))) rfl rfl ?_
  refine g_iload C dL_law_756 1 rfl ?_
  refine g_icmp_eq C (tgt := 763) dL_law_758 (by decide) (fun _ => ?_) (fun h758_1 => absurd (by decide) h758_1)
  refine g_iload C dL_law_763 1 rfl ?_
  refine g_if_ne C (tgt := 780) dL_law_765 (by decide) (fun h765_2 => absurd (by decide) h765_2) (fun _ => ?_)
  refine g_aload_n C dL_law_768 5 rfl ?_
  refine g_iconst C (v := 0) dL_law_769 ci_0 ?_
  refine g_lald C (x := (vp_updL oj 0 (xRod g r w).toInt64) 0) 54 2 rfl rfl 0 rfl (by decide) (by decide) rfl dL_law_770 ?_
  refine g_iload C dL_law_771 0 rfl ?_
  refine g_i2l C (v := (yRd g r w).toInt64) dL_law_773 rfl ?_
  refine g_lcmp C (v := lg_cmp ((vp_updL oj 0 (xRod g r w).toInt64) 0) ((yRd g r w).toInt64)) dL_law_774 rfl ?_
  refine g_if_eq C (tgt := 780) dL_law_775 (by decide) (fun _ => ?_) (fun h775_3 => absurd (lgz (by rw [pk_uLs, eR])) h775_3)
  refine g_goto C (tgt := 1113) dL_law_780 (by decide) ?_
  refine g_lv [2, 3, 4, 5, 6] (lv' := [(0, .ref b), (1, .ref xa), (2, .ref (ma 0)), (3, .ref oa), (4, .int (nI (4 * q)))]) rfl ?_
  refine g_wid (k' := 60 + (q + 1)) (n' := 1010 + 6 * (q + 1)) (by omega) (by omega) ?_
  exact hnext _ _ _ _ _ _ _ _ _ _ _ hI9
theorem hd_X4_whole : yX4_whole.cls = RX4 ∧ yX4_whole.cls ≠ "java/lang/invoke/MethodHandle" ∧ yX4_whole.cls ≠ "java/lang/invoke/VarHandle" ∧ (parseMethodDescriptor yX4_whole.desc).map (fun d => d.parameters.length) = some 0 := by decide +kernel
set_option maxHeartbeats 2000000 in
set_option maxRecDepth 100000 in
theorem law_whole {p : Program} {l : Launch} {e : Env} {s : State} {m : MethodId} {below : List Frame} {meth : Method} {c : Code} {D : va_G} {cI cO cJ : ClassId} {b L : Nat} {xs : Nat → Int32} {Q9 : State → Prop} (hl : l.stackTraces = false) (hL : L ≤ 2048) (C : gC p s m (#[.ref b] : Array Value) c cL_law RL wsL_law D vwCl (tyW cI cO cJ) (fun q9 => s.heap.size ≤ q9) s.heap 9) (hF : sF s.vm) (hZ : zF (fun q9 => s.heap.size ≤ q9) s s.heap) (hX : va_X b L xs s s.heap) (hbl : b < s.heap.size) {xa oa : Nat} {ta ha : Nat → Nat} {hb : Nat → Nat → Nat} {ad ma : Nat → Nat} (q : Nat) (hq : 4 * q + 4 ≤ L) (t : Nat → Int32) (n : Nat) (G : Nat → Nat → Int32) (g : Nat → Int32) (o z : Nat) (th : Int32) (a9 sv : Nat → Int32) (dg : Int64) (oj : Nat → Int64) (hI : LI t n G g o z sv) (hnext : (∀ (t : Nat → Int32) (n : Nat) (G : Nat → Nat → Int32) (g : Nat → Int32) (o z : Nat) (th : Int32) (a9 sv : Nat → Int32) (dg : Int64) (oj : Nat → Int64), LI t n G g o z sv → gG p l e room_1 s m (#[.ref b] : Array Value) below meth c D vwCl (fun q9 => s.heap.size ≤ q9) s.heap 9 Q9 (60 + (q + 1)) (1010 + 6 * (q + 1)) ((wS0 xa ad ha ta) ++ ((wT ta cI t (nI n)) ++ ((wHs ha hb cI cO G (nI o) (nI z)) ++ ((wB ad cI g) ++ ((wO oa cJ oj) ++ (wM ma cI th g a9 sv z t n dg)))))) 1113 [(0, .ref b), (1, .ref xa), (2, .ref (ma 0)), (3, .ref oa), (4, .int (nI (4 * q)))] [])) : gG p l e room_1 s m (#[.ref b] : Array Value) below meth c D vwCl (fun q9 => s.heap.size ≤ q9) s.heap 9 Q9 (60 + q) (1010 + 6 * q) ((wS0 xa ad ha ta) ++ ((wT ta cI t (nI n)) ++ ((wHs ha hb cI cO G (nI o) (nI z)) ++ ((wB ad cI g) ++ ((wO oa cJ oj) ++ (wM ma cI th g a9 sv z t n dg)))))) 783 [(0, .ref b), (1, .ref xa), (2, .ref (ma 0)), (3, .ref oa), (4, .int (nI (4 * q)))] [] := by
  have hI9 : LI t n G g o z sv := hI
  have eR : ((xWs g 9).1 : Int64) = yAl g 9 := eWhole hI.2.2.2.1
  refine g_aload_n C dL_law_783 1 rfl ?_
  refine g_callVl C (c_X3_whole l D cI cO xa ta ha hb ad t n G g o z hI.1 hI.2.1 hI.2.2.1 ) gL_law_X3_whole rfl ⟨rfl, rfl⟩ hd_X3_whole ⟨Nat.le_of_ble_eq_true rfl, Nat.le_of_ble_eq_true rfl⟩ [0, 1] rfl (sF_w hF) rfl (rest := []) rfl (Nat.le_of_ble_eq_true rfl) dL_law_784 ⟨(by show _ ≤ 621006; omega), (by show _ ≤ 7233085; omega)⟩ 0 rfl rfl rfl (pre := []) (post := ((wO oa cJ oj) ++ (wM ma cI th g a9 sv z t n dg))) (ws' := ((wS0 xa ad ha ta) ++ ((wT ta cI t (nI n)) ++ ((wHs ha hb cI cO G (nI o) (nI z)) ++ ((wB ad cI g) ++ ((wO oa cJ oj) ++ (wM ma cI th g a9 sv z t n dg))))))) rfl rfl ?_
  refine g_aload_n C dL_law_787 2 rfl ?_
  refine g_callVl C (c_X4_whole l D cI cO ma th g a9 sv z t n dg hI.1 hI.2.2.1 ) gL_law_X4_whole rfl ⟨rfl, rfl⟩ hd_X4_whole ⟨Nat.le_of_ble_eq_true rfl, Nat.le_of_ble_eq_true rfl⟩ [0, 1] rfl (fun _ _ => trivial) rfl (rest := [.long ((xWs g 9).1)]) rfl (Nat.le_of_ble_eq_true rfl) dL_law_788 ⟨(by show _ ≤ 621006; omega), (by show _ ≤ 7233085; omega)⟩ 0 rfl rfl rfl (pre := ((wS0 xa ad ha ta) ++ ((wT ta cI t (nI n)) ++ ((wHs ha hb cI cO G (nI o) (nI z)) ++ ((wB ad cI g) ++ (wO oa cJ oj)))))) (post := []) (ws' := ((wS0 xa ad ha ta) ++ ((wT ta cI t (nI n)) ++ ((wHs ha hb cI cO G (nI o) (nI z)) ++ ((wB ad cI g) ++ ((wO oa cJ oj) ++ (wM ma cI 0 g a9 sv z t n dg))))))) rfl rfl ?_
  refine g_lcmp C (v := lg_cmp ((xWs g 9).1) (yAl g 9)) dL_law_791 rfl ?_
  refine g_if_eq C (tgt := 1113) dL_law_792 (by decide) (fun _ => ?_) (fun h792_1 => absurd (lgz eR) h792_1)
  refine g_wid (k' := 60 + (q + 1)) (n' := 1010 + 6 * (q + 1)) (by omega) (by omega) ?_
  exact hnext _ _ _ _ _ _ _ _ _ _ _ hI9
theorem hd_L_count : yL_count.cls ≠ "java/lang/invoke/MethodHandle" ∧ yL_count.cls ≠ "java/lang/invoke/VarHandle" ∧ (parseMethodDescriptor yL_count.desc).map (fun d => d.parameters.length) = some 3 := by decide +kernel
theorem hd_X4_count : yX4_count.cls = RX4 ∧ yX4_count.cls ≠ "java/lang/invoke/MethodHandle" ∧ yX4_count.cls ≠ "java/lang/invoke/VarHandle" ∧ (parseMethodDescriptor yX4_count.desc).map (fun d => d.parameters.length) = some 1 := by decide +kernel
set_option maxHeartbeats 2000000 in
set_option maxRecDepth 100000 in
theorem law_count {p : Program} {l : Launch} {e : Env} {s : State} {m : MethodId} {below : List Frame} {meth : Method} {c : Code} {D : va_G} {cI cO cJ : ClassId} {b L : Nat} {xs : Nat → Int32} {Q9 : State → Prop} (hl : l.stackTraces = false) (hL : L ≤ 2048) (C : gC p s m (#[.ref b] : Array Value) c cL_law RL wsL_law D vwCl (tyW cI cO cJ) (fun q9 => s.heap.size ≤ q9) s.heap 9) (hF : sF s.vm) (hZ : zF (fun q9 => s.heap.size ≤ q9) s s.heap) (hX : va_X b L xs s s.heap) (hbl : b < s.heap.size) {xa oa : Nat} {ta ha : Nat → Nat} {hb : Nat → Nat → Nat} {ad ma : Nat → Nat} (q : Nat) (hq : 4 * q + 4 ≤ L) (t : Nat → Int32) (n : Nat) (G : Nat → Nat → Int32) (g : Nat → Int32) (o z : Nat) (th : Int32) (a9 sv : Nat → Int32) (dg : Int64) (oj : Nat → Int64) (hI : LI t n G g o z sv) (hnext : (∀ (t : Nat → Int32) (n : Nat) (G : Nat → Nat → Int32) (g : Nat → Int32) (o z : Nat) (th : Int32) (a9 sv : Nat → Int32) (dg : Int64) (oj : Nat → Int64), LI t n G g o z sv → gG p l e room_1 s m (#[.ref b] : Array Value) below meth c D vwCl (fun q9 => s.heap.size ≤ q9) s.heap 9 Q9 (60 + (q + 1)) (1010 + 6 * (q + 1)) ((wS0 xa ad ha ta) ++ ((wT ta cI t (nI n)) ++ ((wHs ha hb cI cO G (nI o) (nI z)) ++ ((wB ad cI g) ++ ((wO oa cJ oj) ++ (wM ma cI th g a9 sv z t n dg)))))) 1113 [(0, .ref b), (1, .ref xa), (2, .ref (ma 0)), (3, .ref oa), (4, .int (nI (4 * q)))] [])) : gG p l e room_1 s m (#[.ref b] : Array Value) below meth c D vwCl (fun q9 => s.heap.size ≤ q9) s.heap 9 Q9 (60 + q) (1010 + 6 * q) ((wS0 xa ad ha ta) ++ ((wT ta cI t (nI n)) ++ ((wHs ha hb cI cO G (nI o) (nI z)) ++ ((wB ad cI g) ++ ((wO oa cJ oj) ++ (wM ma cI th g a9 sv z t n dg)))))) 797 [(0, .ref b), (1, .ref xa), (2, .ref (ma 0)), (3, .ref oa), (4, .int (nI (4 * q)))] [] := by
  obtain ⟨w9, e1⟩ : ∃ x9, xs (4 * q + 1) = x9 := ⟨_, rfl⟩
  by_cases h : w9 < 0 ∨ ¬ w9 ≤ 7
  · have hI9 : LI t n G g o z sv := hI
    refine g_aload_n C dL_law_797 1 rfl ?_
    refine g_aload_n C dL_law_798 0 rfl ?_
    refine g_iload C dL_law_799 4 rfl ?_
    refine g_iconst C (v := 1) dL_law_801 ci_1 ?_
    refine g_iadd C (v := nI (4 * q + 1)) dL_law_802 (nI_add _ 1) ?_
    refine g_sld C (x := w9) hX hbl (fun z9 => absurd hbl (Nat.not_lt.mpr z9)) (by omega) (4 * q + 1) rfl (by omega) e1 dL_law_803 ?_
    refine g_aload_n C dL_law_804 3 rfl ?_
    refine g_callSW C hZ (w_L_count_1 l hl D cI cO cJ xa ta ha hb ad t n G g o z hI.1 hI.2.1 hI.2.2.1 w9 h oa oj) gL_law_L_count rfl ⟨rfl, rfl⟩ hd_L_count ⟨Nat.le_of_ble_eq_true rfl, Nat.le_of_ble_eq_true rfl⟩ [0, 1, 2] rfl (sF_w hF) rfl (rest := []) rfl (Nat.le_of_ble_eq_true rfl) dL_law_805 ⟨(by show _ + 1 ≤ 621006; omega), (by show _ + 6 ≤ 7233085; omega)⟩ (pre := []) (post := (wM ma cI th g a9 sv z t n dg)) (ws' := ((wS0 xa ad ha ta) ++ ((wT ta cI t (nI n)) ++ ((wHs ha hb cI cO G (nI o) (nI z)) ++ ((wB ad cI g) ++ ((wO oa cJ oj) ++ (wM ma cI th g a9 sv z t n dg))))))) rfl rfl ?_
    refine g_istore C (lv' := [(5, .int 1), (0, .ref b), (1, .ref xa), (2, .ref (ma 0)), (3, .ref oa), (4, .int (nI (4 * q)))]) dL_law_808 (by decide) rfl ?_
    refine g_aload_n C dL_law_810 3 rfl ?_
    refine g_aload_n C dL_law_811 1 rfl ?_
    refine g_iload C dL_law_812 5 rfl ?_
    refine g_iconst C (v := 1) dL_law_814 ci_1 ?_
    refine g_iadd C (v := nI (4 * q + 1)) dL_law_815 (nI_add _ 1) ?_
    refine g_sld C (x := w9) hX hbl (fun z9 => absurd hbl (Nat.not_lt.mpr z9)) (by omega) (4 * q + 1) rfl (by omega) e1 dL_law_816 ?_
    refine g_callVi C (c_X4_count_1 l D cI cO ma th g a9 sv z t n dg hI.1 hI.2.2.1 w9 h) gL_law_X4_count rfl ⟨rfl, rfl⟩ hd_X4_count ⟨Nat.le_of_ble_eq_true rfl, Nat.le_of_ble_eq_true rfl⟩ [0, 1] rfl (fun _ _ => trivial) rfl (rest := []) rfl (Nat.le_of_ble_eq_true rfl) dL_law_817 ⟨(by show _ ≤ 621006; omega), (by show _ ≤ 7233085; omega)⟩ 0 rfl rfl rfl (pre := ((wS0 xa ad ha ta) ++ ((wT ta cI t (nI n)) ++ ((wHs ha hb cI cO G (nI o) (nI z)) ++ ((wB ad cI g) ++ (wO oa cJ oj)))))) (post := []) (ws' := ((wS0 xa ad ha ta) ++ ((wT ta cI t (nI n)) ++ ((wHs ha hb cI cO G (nI o) (nI z)) ++ ((wB ad cI g) ++ ((wO oa cJ oj) ++ (wM ma cI 1 g a9 sv z t n dg))))))) rfl rfl ?_
    refine g_istore C (lv' := [(6, .int 0), (5, .int 1), (0, .ref b), (1, .ref xa), (2, .ref (ma 0)), (3, .ref oa), (4, .int (nI (4 * q)))]) dL_law_820 (by decide) rfl ?_
    refine g_aload_n C dL_law_822 4 rfl ?_
    refine g_callVi C (c_X4_thrown l D cI cO ma 1 g a9 sv z t n dg hI9.1 hI9.2.2.1) gL_law_X4_thrown rfl ⟨rfl, rfl⟩ hd_X4_thrown ⟨Nat.le_of_ble_eq_true rfl, Nat.le_of_ble_eq_true rfl⟩ [0, 1] rfl (fun _ _ => trivial) rfl (rest := []) rfl (Nat.le_of_ble_eq_true rfl) dL_law_823 ⟨(by show _ ≤ 621006; omega), (by show _ ≤ 7233085; omega)⟩ 0 rfl rfl rfl (pre := ((wS0 xa ad ha ta) ++ ((wT ta cI t (nI n)) ++ ((wHs ha hb cI cO G (nI o) (nI z)) ++ ((wB ad cI g) ++ (wO oa cJ oj)))))) (post := []) (ws' := ((wS0 xa ad ha ta) ++ ((wT ta cI t (nI n)) ++ ((wHs ha hb cI cO G (nI o) (nI z)) ++ ((wB ad cI g) ++ ((wO oa cJ oj) ++ (wM ma cI 1 g a9 sv z t n dg))))))) rfl rfl ?_
    refine g_iload C dL_law_826 1 rfl ?_
    refine g_icmp_eq C (tgt := 833) dL_law_828 (by decide) (fun _ => ?_) (fun h828_1 => absurd (by decide) h828_1)
    refine g_iload C dL_law_833 1 rfl ?_
    refine g_if_ne C (tgt := 850) dL_law_835 (by decide) (fun _ => ?_) (fun h835_2 => absurd h835_2 (by decide))
    refine g_goto C (tgt := 1113) dL_law_850 (by decide) ?_
    refine g_lv [2, 3, 4, 5, 6] (lv' := [(0, .ref b), (1, .ref xa), (2, .ref (ma 0)), (3, .ref oa), (4, .int (nI (4 * q)))]) rfl ?_
    refine g_wid (k' := 60 + (q + 1)) (n' := 1010 + 6 * (q + 1)) (by omega) (by omega) ?_
    exact hnext _ _ _ _ _ _ _ _ _ _ _ hI9
  obtain ⟨w, hw, rfl⟩ := orW h
  have hI9 : LI t n G g o z sv := hI
  have eR : (xCn g z w : Int32) = yCn g z w := (eCn hI.2.2.2.1 z w).symm
  refine g_aload_n C dL_law_797 1 rfl ?_
  refine g_aload_n C dL_law_798 0 rfl ?_
  refine g_iload C dL_law_799 4 rfl ?_
  refine g_iconst C (v := 1) dL_law_801 ci_1 ?_
  refine g_iadd C (v := nI (4 * q + 1)) dL_law_802 (nI_add _ 1) ?_
  refine g_sld C (x := nI w) hX hbl (fun z9 => absurd hbl (Nat.not_lt.mpr z9)) (by omega) (4 * q + 1) rfl (by omega) e1 dL_law_803 ?_
  refine g_aload_n C dL_law_804 3 rfl ?_
  refine g_callSW C hZ (w_L_count l hl D cI cO cJ xa ta ha hb ad t n G g o z hI.1 hI.2.1 hI.2.2.1 w hw oa oj) gL_law_L_count rfl ⟨rfl, rfl⟩ hd_L_count ⟨Nat.le_of_ble_eq_true rfl, Nat.le_of_ble_eq_true rfl⟩ [0, 1, 2] rfl (sF_w hF) rfl (rest := []) rfl (Nat.le_of_ble_eq_true rfl) dL_law_805 ⟨(by show _ + 1 ≤ 621006; omega), (by show _ + 6 ≤ 7233085; omega)⟩ (pre := []) (post := (wM ma cI th g a9 sv z t n dg)) (ws' := ((wS0 xa ad ha ta) ++ ((wT ta cI t (nI n)) ++ ((wHs ha hb cI cO G (nI o) (nI z)) ++ ((wB ad cI g) ++ ((wO oa cJ (vp_updL oj 0 (xCn g z w).toInt64)) ++ (wM ma cI th g a9 sv z t n dg))))))) rfl rfl ?_
  refine g_istore C (lv' := [(5, .int 0), (0, .ref b), (1, .ref xa), (2, .ref (ma 0)), (3, .ref oa), (4, .int (nI (4 * q)))]) dL_law_808 (by decide) rfl ?_
  refine g_aload_n C dL_law_810 3 rfl ?_
  refine g_aload_n C dL_law_811 1 rfl ?_
  refine g_iload C dL_law_812 5 rfl ?_
  refine g_iconst C (v := 1) dL_law_814 ci_1 ?_
  refine g_iadd C (v := nI (4 * q + 1)) dL_law_815 (nI_add _ 1) ?_
  refine g_sld C (x := nI w) hX hbl (fun z9 => absurd hbl (Nat.not_lt.mpr z9)) (by omega) (4 * q + 1) rfl (by omega) e1 dL_law_816 ?_
  refine g_callVi C (c_X4_count l D cI cO ma th g a9 sv z t n dg hI.1 hI.2.2.1 w hw) gL_law_X4_count rfl ⟨rfl, rfl⟩ hd_X4_count ⟨Nat.le_of_ble_eq_true rfl, Nat.le_of_ble_eq_true rfl⟩ [0, 1] rfl (fun _ _ => trivial) rfl (rest := []) rfl (Nat.le_of_ble_eq_true rfl) dL_law_817 ⟨(by show _ ≤ 621006; omega), (by show _ ≤ 7233085; omega)⟩ 0 rfl rfl rfl (pre := ((wS0 xa ad ha ta) ++ ((wT ta cI t (nI n)) ++ ((wHs ha hb cI cO G (nI o) (nI z)) ++ ((wB ad cI g) ++ (wO oa cJ (vp_updL oj 0 (xCn g z w).toInt64))))))) (post := []) (ws' := ((wS0 xa ad ha ta) ++ ((wT ta cI t (nI n)) ++ ((wHs ha hb cI cO G (nI o) (nI z)) ++ ((wB ad cI g) ++ ((wO oa cJ (vp_updL oj 0 (xCn g z w).toInt64)) ++ (wM ma cI 0 g a9 sv z t n dg))))))) rfl rfl ?_
  refine g_istore C (lv' := [(6, .int (yCn g z w)), (5, .int 0), (0, .ref b), (1, .ref xa), (2, .ref (ma 0)), (3, .ref oa), (4, .int (nI (4 * q)))]) dL_law_820 (by decide) rfl ?_
  refine g_aload_n C dL_law_822 4 rfl ?_
  refine g_callVi C (c_X4_thrown l D cI cO ma 0 g a9 sv z t n dg hI9.1 hI9.2.2.1) gL_law_X4_thrown rfl ⟨rfl, rfl⟩ hd_X4_thrown ⟨Nat.le_of_ble_eq_true rfl, Nat.le_of_ble_eq_true rfl⟩ [0, 1] rfl (fun _ _ => trivial) rfl (rest := []) rfl (Nat.le_of_ble_eq_true rfl) dL_law_823 ⟨(by show _ ≤ 621006; omega), (by show _ ≤ 7233085; omega)⟩ 0 rfl rfl rfl (pre := ((wS0 xa ad ha ta) ++ ((wT ta cI t (nI n)) ++ ((wHs ha hb cI cO G (nI o) (nI z)) ++ ((wB ad cI g) ++ (wO oa cJ (vp_updL oj 0 (xCn g z w).toInt64))))))) (post := []) (ws' := ((wS0 xa ad ha ta) ++ ((wT ta cI t (nI n)) ++ ((wHs ha hb cI cO G (nI o) (nI z)) ++ ((wB ad cI g) ++ ((wO oa cJ (vp_updL oj 0 (xCn g z w).toInt64)) ++ (wM ma cI 0 g a9 sv z t n dg))))))) rfl rfl ?_
  refine g_iload C dL_law_826 1 rfl ?_
  refine g_icmp_eq C (tgt := 833) dL_law_828 (by decide) (fun _ => ?_) (fun h828_1 => absurd (by decide) h828_1)
  refine g_iload C dL_law_833 1 rfl ?_
  refine g_if_ne C (tgt := 850) dL_law_835 (by decide) (fun h835_2 => absurd (by decide) h835_2) (fun _ => ?_)
  refine g_aload_n C dL_law_838 5 rfl ?_
  refine g_iconst C (v := 0) dL_law_839 ci_0 ?_
  refine g_lald C (x := (vp_updL oj 0 (xCn g z w).toInt64) 0) 54 2 rfl rfl 0 rfl (by decide) (by decide) rfl dL_law_840 ?_
  refine g_iload C dL_law_841 0 rfl ?_
  refine g_i2l C (v := (yCn g z w).toInt64) dL_law_843 rfl ?_
  refine g_lcmp C (v := lg_cmp ((vp_updL oj 0 (xCn g z w).toInt64) 0) ((yCn g z w).toInt64)) dL_law_844 rfl ?_
  refine g_if_eq C (tgt := 850) dL_law_845 (by decide) (fun _ => ?_) (fun h845_3 => absurd (lgz (by rw [pk_uLs, eR])) h845_3)
  refine g_goto C (tgt := 1113) dL_law_850 (by decide) ?_
  refine g_lv [2, 3, 4, 5, 6] (lv' := [(0, .ref b), (1, .ref xa), (2, .ref (ma 0)), (3, .ref oa), (4, .int (nI (4 * q)))]) rfl ?_
  refine g_wid (k' := 60 + (q + 1)) (n' := 1010 + 6 * (q + 1)) (by omega) (by omega) ?_
  exact hnext _ _ _ _ _ _ _ _ _ _ _ hI9
theorem hd_L_moves : yL_moves.cls ≠ "java/lang/invoke/MethodHandle" ∧ yL_moves.cls ≠ "java/lang/invoke/VarHandle" ∧ (parseMethodDescriptor yL_moves.desc).map (fun d => d.parameters.length) = some 4 := by decide +kernel
theorem hd_X4_moves : yX4_moves.cls = RX4 ∧ yX4_moves.cls ≠ "java/lang/invoke/MethodHandle" ∧ yX4_moves.cls ≠ "java/lang/invoke/VarHandle" ∧ (parseMethodDescriptor yX4_moves.desc).map (fun d => d.parameters.length) = some 2 := by decide +kernel
set_option maxHeartbeats 2000000 in
set_option maxRecDepth 100000 in
theorem law_moves {p : Program} {l : Launch} {e : Env} {s : State} {m : MethodId} {below : List Frame} {meth : Method} {c : Code} {D : va_G} {cI cO cJ : ClassId} {b L : Nat} {xs : Nat → Int32} {Q9 : State → Prop} (hl : l.stackTraces = false) (hL : L ≤ 2048) (C : gC p s m (#[.ref b] : Array Value) c cL_law RL wsL_law D vwCl (tyW cI cO cJ) (fun q9 => s.heap.size ≤ q9) s.heap 9) (hF : sF s.vm) (hZ : zF (fun q9 => s.heap.size ≤ q9) s s.heap) (hX : va_X b L xs s s.heap) (hbl : b < s.heap.size) {xa oa : Nat} {ta ha : Nat → Nat} {hb : Nat → Nat → Nat} {ad ma : Nat → Nat} (q : Nat) (hq : 4 * q + 4 ≤ L) (t : Nat → Int32) (n : Nat) (G : Nat → Nat → Int32) (g : Nat → Int32) (o z : Nat) (th : Int32) (a9 sv : Nat → Int32) (dg : Int64) (oj : Nat → Int64) (hI : LI t n G g o z sv) (hnext : (∀ (t : Nat → Int32) (n : Nat) (G : Nat → Nat → Int32) (g : Nat → Int32) (o z : Nat) (th : Int32) (a9 sv : Nat → Int32) (dg : Int64) (oj : Nat → Int64), LI t n G g o z sv → gG p l e room_1 s m (#[.ref b] : Array Value) below meth c D vwCl (fun q9 => s.heap.size ≤ q9) s.heap 9 Q9 (60 + (q + 1)) (1010 + 6 * (q + 1)) ((wS0 xa ad ha ta) ++ ((wT ta cI t (nI n)) ++ ((wHs ha hb cI cO G (nI o) (nI z)) ++ ((wB ad cI g) ++ ((wO oa cJ oj) ++ (wM ma cI th g a9 sv z t n dg)))))) 1113 [(0, .ref b), (1, .ref xa), (2, .ref (ma 0)), (3, .ref oa), (4, .int (nI (4 * q)))] [])) : gG p l e room_1 s m (#[.ref b] : Array Value) below meth c D vwCl (fun q9 => s.heap.size ≤ q9) s.heap 9 Q9 (60 + q) (1010 + 6 * q) ((wS0 xa ad ha ta) ++ ((wT ta cI t (nI n)) ++ ((wHs ha hb cI cO G (nI o) (nI z)) ++ ((wB ad cI g) ++ ((wO oa cJ oj) ++ (wM ma cI th g a9 sv z t n dg)))))) 853 [(0, .ref b), (1, .ref xa), (2, .ref (ma 0)), (3, .ref oa), (4, .int (nI (4 * q)))] [] := by
  obtain ⟨v9, e1⟩ : ∃ x9, xs (4 * q + 1) = x9 := ⟨_, rfl⟩
  obtain ⟨v, e2⟩ : ∃ x9, xs (4 * q + 2) = x9 := ⟨_, rfl⟩
  by_cases h : v9 < 0 ∨ ¬ v9 < 9
  · have hI9 : LI t n G g o z sv := hI
    refine g_aload_n C dL_law_853 1 rfl ?_
    refine g_aload_n C dL_law_854 0 rfl ?_
    refine g_iload C dL_law_855 4 rfl ?_
    refine g_iconst C (v := 1) dL_law_857 ci_1 ?_
    refine g_iadd C (v := nI (4 * q + 1)) dL_law_858 (nI_add _ 1) ?_
    refine g_sld C (x := v9) hX hbl (fun z9 => absurd hbl (Nat.not_lt.mpr z9)) (by omega) (4 * q + 1) rfl (by omega) e1 dL_law_859 ?_
    refine g_aload_n C dL_law_860 0 rfl ?_
    refine g_iload C dL_law_861 4 rfl ?_
    refine g_iconst C (v := 2) dL_law_863 ci_2 ?_
    refine g_iadd C (v := nI (4 * q + 2)) dL_law_864 (nI_add _ 2) ?_
    refine g_sld C (x := v) hX hbl (fun z9 => absurd hbl (Nat.not_lt.mpr z9)) (by omega) (4 * q + 2) rfl (by omega) e2 dL_law_865 ?_
    refine g_aload_n C dL_law_866 3 rfl ?_
    refine g_callSW C hZ (w_L_moves_1 l hl D cI cO cJ xa ta ha hb ad t n G g o z hI.1 hI.2.1 hI.2.2.1 v9 v h oa oj) gL_law_L_moves rfl ⟨rfl, rfl⟩ hd_L_moves ⟨Nat.le_of_ble_eq_true rfl, Nat.le_of_ble_eq_true rfl⟩ [0, 1, 2] rfl (sF_w hF) rfl (rest := []) rfl (Nat.le_of_ble_eq_true rfl) dL_law_867 ⟨(by show _ + 1 ≤ 621006; omega), (by show _ + 6 ≤ 7233085; omega)⟩ (pre := []) (post := (wM ma cI th g a9 sv z t n dg)) (ws' := ((wS0 xa ad ha ta) ++ ((wT ta cI t (nI n)) ++ ((wHs ha hb cI cO G (nI o) (nI z)) ++ ((wB ad cI g) ++ ((wO oa cJ oj) ++ (wM ma cI th g a9 sv z t n dg))))))) rfl rfl ?_
    refine g_istore C (lv' := [(5, .int 1), (0, .ref b), (1, .ref xa), (2, .ref (ma 0)), (3, .ref oa), (4, .int (nI (4 * q)))]) dL_law_870 (by decide) rfl ?_
    refine g_aload_n C dL_law_872 3 rfl ?_
    refine g_aload_n C dL_law_873 1 rfl ?_
    refine g_iload C dL_law_874 5 rfl ?_
    refine g_iconst C (v := 1) dL_law_876 ci_1 ?_
    refine g_iadd C (v := nI (4 * q + 1)) dL_law_877 (nI_add _ 1) ?_
    refine g_sld C (x := v9) hX hbl (fun z9 => absurd hbl (Nat.not_lt.mpr z9)) (by omega) (4 * q + 1) rfl (by omega) e1 dL_law_878 ?_
    refine g_aload_n C dL_law_879 1 rfl ?_
    refine g_iload C dL_law_880 5 rfl ?_
    refine g_iconst C (v := 2) dL_law_882 ci_2 ?_
    refine g_iadd C (v := nI (4 * q + 2)) dL_law_883 (nI_add _ 2) ?_
    refine g_sld C (x := v) hX hbl (fun z9 => absurd hbl (Nat.not_lt.mpr z9)) (by omega) (4 * q + 2) rfl (by omega) e2 dL_law_884 ?_
    refine g_callVi C (c_X4_moves_1 l D cI cO ma th g a9 sv z t n dg hI.1 hI.2.2.1 v9 h v) gL_law_X4_moves rfl ⟨rfl, rfl⟩ hd_X4_moves ⟨Nat.le_of_ble_eq_true rfl, Nat.le_of_ble_eq_true rfl⟩ [0, 1] rfl (fun _ _ => trivial) rfl (rest := []) rfl (Nat.le_of_ble_eq_true rfl) dL_law_885 ⟨(by show _ ≤ 621006; omega), (by show _ ≤ 7233085; omega)⟩ 0 rfl rfl rfl (pre := ((wS0 xa ad ha ta) ++ ((wT ta cI t (nI n)) ++ ((wHs ha hb cI cO G (nI o) (nI z)) ++ ((wB ad cI g) ++ (wO oa cJ oj)))))) (post := []) (ws' := ((wS0 xa ad ha ta) ++ ((wT ta cI t (nI n)) ++ ((wHs ha hb cI cO G (nI o) (nI z)) ++ ((wB ad cI g) ++ ((wO oa cJ oj) ++ (wM ma cI 1 g a9 sv z t n dg))))))) rfl rfl ?_
    refine g_istore C (lv' := [(6, .int 0), (5, .int 1), (0, .ref b), (1, .ref xa), (2, .ref (ma 0)), (3, .ref oa), (4, .int (nI (4 * q)))]) dL_law_888 (by decide) rfl ?_
    refine g_aload_n C dL_law_890 4 rfl ?_
    refine g_callVi C (c_X4_thrown l D cI cO ma 1 g a9 sv z t n dg hI9.1 hI9.2.2.1) gL_law_X4_thrown rfl ⟨rfl, rfl⟩ hd_X4_thrown ⟨Nat.le_of_ble_eq_true rfl, Nat.le_of_ble_eq_true rfl⟩ [0, 1] rfl (fun _ _ => trivial) rfl (rest := []) rfl (Nat.le_of_ble_eq_true rfl) dL_law_891 ⟨(by show _ ≤ 621006; omega), (by show _ ≤ 7233085; omega)⟩ 0 rfl rfl rfl (pre := ((wS0 xa ad ha ta) ++ ((wT ta cI t (nI n)) ++ ((wHs ha hb cI cO G (nI o) (nI z)) ++ ((wB ad cI g) ++ (wO oa cJ oj)))))) (post := []) (ws' := ((wS0 xa ad ha ta) ++ ((wT ta cI t (nI n)) ++ ((wHs ha hb cI cO G (nI o) (nI z)) ++ ((wB ad cI g) ++ ((wO oa cJ oj) ++ (wM ma cI 1 g a9 sv z t n dg))))))) rfl rfl ?_
    refine g_iload C dL_law_894 1 rfl ?_
    refine g_icmp_eq C (tgt := 901) dL_law_896 (by decide) (fun _ => ?_) (fun h896_1 => absurd (by decide) h896_1)
    refine g_iload C dL_law_901 1 rfl ?_
    refine g_if_ne C (tgt := 918) dL_law_903 (by decide) (fun _ => ?_) (fun h903_2 => absurd h903_2 (by decide))
    refine g_goto C (tgt := 1113) dL_law_918 (by decide) ?_
    refine g_lv [2, 3, 4, 5, 6] (lv' := [(0, .ref b), (1, .ref xa), (2, .ref (ma 0)), (3, .ref oa), (4, .int (nI (4 * q)))]) rfl ?_
    refine g_wid (k' := 60 + (q + 1)) (n' := 1010 + 6 * (q + 1)) (by omega) (by omega) ?_
    exact hnext _ _ _ _ _ _ _ _ _ _ _ hI9
  obtain ⟨r, hr, rfl⟩ := orR h
  by_cases h : v < 0 ∨ ¬ v ≤ 15
  · have hI9 : LI t n G g o z sv := hI
    refine g_aload_n C dL_law_853 1 rfl ?_
    refine g_aload_n C dL_law_854 0 rfl ?_
    refine g_iload C dL_law_855 4 rfl ?_
    refine g_iconst C (v := 1) dL_law_857 ci_1 ?_
    refine g_iadd C (v := nI (4 * q + 1)) dL_law_858 (nI_add _ 1) ?_
    refine g_sld C (x := nI r) hX hbl (fun z9 => absurd hbl (Nat.not_lt.mpr z9)) (by omega) (4 * q + 1) rfl (by omega) e1 dL_law_859 ?_
    refine g_aload_n C dL_law_860 0 rfl ?_
    refine g_iload C dL_law_861 4 rfl ?_
    refine g_iconst C (v := 2) dL_law_863 ci_2 ?_
    refine g_iadd C (v := nI (4 * q + 2)) dL_law_864 (nI_add _ 2) ?_
    refine g_sld C (x := v) hX hbl (fun z9 => absurd hbl (Nat.not_lt.mpr z9)) (by omega) (4 * q + 2) rfl (by omega) e2 dL_law_865 ?_
    refine g_aload_n C dL_law_866 3 rfl ?_
    refine g_callSW C hZ (w_L_moves_2 l hl D cI cO cJ xa ta ha hb ad t n G g o z hI.1 hI.2.1 hI.2.2.1 r hr v h oa oj) gL_law_L_moves rfl ⟨rfl, rfl⟩ hd_L_moves ⟨Nat.le_of_ble_eq_true rfl, Nat.le_of_ble_eq_true rfl⟩ [0, 1, 2] rfl (sF_w hF) rfl (rest := []) rfl (Nat.le_of_ble_eq_true rfl) dL_law_867 ⟨(by show _ + 1 ≤ 621006; omega), (by show _ + 6 ≤ 7233085; omega)⟩ (pre := []) (post := (wM ma cI th g a9 sv z t n dg)) (ws' := ((wS0 xa ad ha ta) ++ ((wT ta cI t (nI n)) ++ ((wHs ha hb cI cO G (nI o) (nI z)) ++ ((wB ad cI g) ++ ((wO oa cJ oj) ++ (wM ma cI th g a9 sv z t n dg))))))) rfl rfl ?_
    refine g_istore C (lv' := [(5, .int 2), (0, .ref b), (1, .ref xa), (2, .ref (ma 0)), (3, .ref oa), (4, .int (nI (4 * q)))]) dL_law_870 (by decide) rfl ?_
    refine g_aload_n C dL_law_872 3 rfl ?_
    refine g_aload_n C dL_law_873 1 rfl ?_
    refine g_iload C dL_law_874 5 rfl ?_
    refine g_iconst C (v := 1) dL_law_876 ci_1 ?_
    refine g_iadd C (v := nI (4 * q + 1)) dL_law_877 (nI_add _ 1) ?_
    refine g_sld C (x := nI r) hX hbl (fun z9 => absurd hbl (Nat.not_lt.mpr z9)) (by omega) (4 * q + 1) rfl (by omega) e1 dL_law_878 ?_
    refine g_aload_n C dL_law_879 1 rfl ?_
    refine g_iload C dL_law_880 5 rfl ?_
    refine g_iconst C (v := 2) dL_law_882 ci_2 ?_
    refine g_iadd C (v := nI (4 * q + 2)) dL_law_883 (nI_add _ 2) ?_
    refine g_sld C (x := v) hX hbl (fun z9 => absurd hbl (Nat.not_lt.mpr z9)) (by omega) (4 * q + 2) rfl (by omega) e2 dL_law_884 ?_
    refine g_callVi C (c_X4_moves_2 l D cI cO ma th g a9 sv z t n dg hI.1 hI.2.2.1 r hr v h) gL_law_X4_moves rfl ⟨rfl, rfl⟩ hd_X4_moves ⟨Nat.le_of_ble_eq_true rfl, Nat.le_of_ble_eq_true rfl⟩ [0, 1] rfl (fun _ _ => trivial) rfl (rest := []) rfl (Nat.le_of_ble_eq_true rfl) dL_law_885 ⟨(by show _ ≤ 621006; omega), (by show _ ≤ 7233085; omega)⟩ 0 rfl rfl rfl (pre := ((wS0 xa ad ha ta) ++ ((wT ta cI t (nI n)) ++ ((wHs ha hb cI cO G (nI o) (nI z)) ++ ((wB ad cI g) ++ (wO oa cJ oj)))))) (post := []) (ws' := ((wS0 xa ad ha ta) ++ ((wT ta cI t (nI n)) ++ ((wHs ha hb cI cO G (nI o) (nI z)) ++ ((wB ad cI g) ++ ((wO oa cJ oj) ++ (wM ma cI 2 g a9 sv z t n dg))))))) rfl rfl ?_
    refine g_istore C (lv' := [(6, .int 0), (5, .int 2), (0, .ref b), (1, .ref xa), (2, .ref (ma 0)), (3, .ref oa), (4, .int (nI (4 * q)))]) dL_law_888 (by decide) rfl ?_
    refine g_aload_n C dL_law_890 4 rfl ?_
    refine g_callVi C (c_X4_thrown l D cI cO ma 2 g a9 sv z t n dg hI9.1 hI9.2.2.1) gL_law_X4_thrown rfl ⟨rfl, rfl⟩ hd_X4_thrown ⟨Nat.le_of_ble_eq_true rfl, Nat.le_of_ble_eq_true rfl⟩ [0, 1] rfl (fun _ _ => trivial) rfl (rest := []) rfl (Nat.le_of_ble_eq_true rfl) dL_law_891 ⟨(by show _ ≤ 621006; omega), (by show _ ≤ 7233085; omega)⟩ 0 rfl rfl rfl (pre := ((wS0 xa ad ha ta) ++ ((wT ta cI t (nI n)) ++ ((wHs ha hb cI cO G (nI o) (nI z)) ++ ((wB ad cI g) ++ (wO oa cJ oj)))))) (post := []) (ws' := ((wS0 xa ad ha ta) ++ ((wT ta cI t (nI n)) ++ ((wHs ha hb cI cO G (nI o) (nI z)) ++ ((wB ad cI g) ++ ((wO oa cJ oj) ++ (wM ma cI 2 g a9 sv z t n dg))))))) rfl rfl ?_
    refine g_iload C dL_law_894 1 rfl ?_
    refine g_icmp_eq C (tgt := 901) dL_law_896 (by decide) (fun _ => ?_) (fun h896_1 => absurd (by decide) h896_1)
    refine g_iload C dL_law_901 1 rfl ?_
    refine g_if_ne C (tgt := 918) dL_law_903 (by decide) (fun _ => ?_) (fun h903_2 => absurd h903_2 (by decide))
    refine g_goto C (tgt := 1113) dL_law_918 (by decide) ?_
    refine g_lv [2, 3, 4, 5, 6] (lv' := [(0, .ref b), (1, .ref xa), (2, .ref (ma 0)), (3, .ref oa), (4, .int (nI (4 * q)))]) rfl ?_
    refine g_wid (k' := 60 + (q + 1)) (n' := 1010 + 6 * (q + 1)) (by omega) (by omega) ?_
    exact hnext _ _ _ _ _ _ _ _ _ _ _ hI9
  obtain ⟨h1, h2⟩ := orB h
  have hI9 : LI t n G g o z sv := hI
  have eR : (xTv g r v : Int32) = yMF g r v := (eXY (hI.2.2.2.1.1 r hr) v).1.symm
  refine g_aload_n C dL_law_853 1 rfl ?_
  refine g_aload_n C dL_law_854 0 rfl ?_
  refine g_iload C dL_law_855 4 rfl ?_
  refine g_iconst C (v := 1) dL_law_857 ci_1 ?_
  refine g_iadd C (v := nI (4 * q + 1)) dL_law_858 (nI_add _ 1) ?_
  refine g_sld C (x := nI r) hX hbl (fun z9 => absurd hbl (Nat.not_lt.mpr z9)) (by omega) (4 * q + 1) rfl (by omega) e1 dL_law_859 ?_
  refine g_aload_n C dL_law_860 0 rfl ?_
  refine g_iload C dL_law_861 4 rfl ?_
  refine g_iconst C (v := 2) dL_law_863 ci_2 ?_
  refine g_iadd C (v := nI (4 * q + 2)) dL_law_864 (nI_add _ 2) ?_
  refine g_sld C (x := v) hX hbl (fun z9 => absurd hbl (Nat.not_lt.mpr z9)) (by omega) (4 * q + 2) rfl (by omega) e2 dL_law_865 ?_
  refine g_aload_n C dL_law_866 3 rfl ?_
  refine g_callSW C hZ (w_L_moves l hl D cI cO cJ xa ta ha hb ad t n G g o z hI.1 hI.2.1 hI.2.2.1 r hr v h1 h2 oa oj) gL_law_L_moves rfl ⟨rfl, rfl⟩ hd_L_moves ⟨Nat.le_of_ble_eq_true rfl, Nat.le_of_ble_eq_true rfl⟩ [0, 1, 2] rfl (sF_w hF) rfl (rest := []) rfl (Nat.le_of_ble_eq_true rfl) dL_law_867 ⟨(by show _ + 1 ≤ 621006; omega), (by show _ + 6 ≤ 7233085; omega)⟩ (pre := []) (post := (wM ma cI th g a9 sv z t n dg)) (ws' := ((wS0 xa ad ha ta) ++ ((wT ta cI t (nI n)) ++ ((wHs ha hb cI cO G (nI o) (nI z)) ++ ((wB ad cI g) ++ ((wO oa cJ (vp_updL oj 0 (xTv g r v).toInt64)) ++ (wM ma cI th g a9 sv z t n dg))))))) rfl rfl ?_
  refine g_istore C (lv' := [(5, .int 0), (0, .ref b), (1, .ref xa), (2, .ref (ma 0)), (3, .ref oa), (4, .int (nI (4 * q)))]) dL_law_870 (by decide) rfl ?_
  refine g_aload_n C dL_law_872 3 rfl ?_
  refine g_aload_n C dL_law_873 1 rfl ?_
  refine g_iload C dL_law_874 5 rfl ?_
  refine g_iconst C (v := 1) dL_law_876 ci_1 ?_
  refine g_iadd C (v := nI (4 * q + 1)) dL_law_877 (nI_add _ 1) ?_
  refine g_sld C (x := nI r) hX hbl (fun z9 => absurd hbl (Nat.not_lt.mpr z9)) (by omega) (4 * q + 1) rfl (by omega) e1 dL_law_878 ?_
  refine g_aload_n C dL_law_879 1 rfl ?_
  refine g_iload C dL_law_880 5 rfl ?_
  refine g_iconst C (v := 2) dL_law_882 ci_2 ?_
  refine g_iadd C (v := nI (4 * q + 2)) dL_law_883 (nI_add _ 2) ?_
  refine g_sld C (x := v) hX hbl (fun z9 => absurd hbl (Nat.not_lt.mpr z9)) (by omega) (4 * q + 2) rfl (by omega) e2 dL_law_884 ?_
  refine g_callVi C (c_X4_moves l D cI cO ma th g a9 sv z t n dg hI.1 hI.2.2.1 r hr v h1 h2) gL_law_X4_moves rfl ⟨rfl, rfl⟩ hd_X4_moves ⟨Nat.le_of_ble_eq_true rfl, Nat.le_of_ble_eq_true rfl⟩ [0, 1] rfl (fun _ _ => trivial) rfl (rest := []) rfl (Nat.le_of_ble_eq_true rfl) dL_law_885 ⟨(by show _ ≤ 621006; omega), (by show _ ≤ 7233085; omega)⟩ 0 rfl rfl rfl (pre := ((wS0 xa ad ha ta) ++ ((wT ta cI t (nI n)) ++ ((wHs ha hb cI cO G (nI o) (nI z)) ++ ((wB ad cI g) ++ (wO oa cJ (vp_updL oj 0 (xTv g r v).toInt64))))))) (post := []) (ws' := ((wS0 xa ad ha ta) ++ ((wT ta cI t (nI n)) ++ ((wHs ha hb cI cO G (nI o) (nI z)) ++ ((wB ad cI g) ++ ((wO oa cJ (vp_updL oj 0 (xTv g r v).toInt64)) ++ (wM ma cI 0 g a9 sv z t n dg))))))) rfl rfl ?_
  refine g_istore C (lv' := [(6, .int (yMF g r v)), (5, .int 0), (0, .ref b), (1, .ref xa), (2, .ref (ma 0)), (3, .ref oa), (4, .int (nI (4 * q)))]) dL_law_888 (by decide) rfl ?_
  refine g_aload_n C dL_law_890 4 rfl ?_
  refine g_callVi C (c_X4_thrown l D cI cO ma 0 g a9 sv z t n dg hI9.1 hI9.2.2.1) gL_law_X4_thrown rfl ⟨rfl, rfl⟩ hd_X4_thrown ⟨Nat.le_of_ble_eq_true rfl, Nat.le_of_ble_eq_true rfl⟩ [0, 1] rfl (fun _ _ => trivial) rfl (rest := []) rfl (Nat.le_of_ble_eq_true rfl) dL_law_891 ⟨(by show _ ≤ 621006; omega), (by show _ ≤ 7233085; omega)⟩ 0 rfl rfl rfl (pre := ((wS0 xa ad ha ta) ++ ((wT ta cI t (nI n)) ++ ((wHs ha hb cI cO G (nI o) (nI z)) ++ ((wB ad cI g) ++ (wO oa cJ (vp_updL oj 0 (xTv g r v).toInt64))))))) (post := []) (ws' := ((wS0 xa ad ha ta) ++ ((wT ta cI t (nI n)) ++ ((wHs ha hb cI cO G (nI o) (nI z)) ++ ((wB ad cI g) ++ ((wO oa cJ (vp_updL oj 0 (xTv g r v).toInt64)) ++ (wM ma cI 0 g a9 sv z t n dg))))))) rfl rfl ?_
  refine g_iload C dL_law_894 1 rfl ?_
  refine g_icmp_eq C (tgt := 901) dL_law_896 (by decide) (fun _ => ?_) (fun h896_1 => absurd (by decide) h896_1)
  refine g_iload C dL_law_901 1 rfl ?_
  refine g_if_ne C (tgt := 918) dL_law_903 (by decide) (fun h903_2 => absurd (by decide) h903_2) (fun _ => ?_)
  refine g_aload_n C dL_law_906 5 rfl ?_
  refine g_iconst C (v := 0) dL_law_907 ci_0 ?_
  refine g_lald C (x := (vp_updL oj 0 (xTv g r v).toInt64) 0) 54 2 rfl rfl 0 rfl (by decide) (by decide) rfl dL_law_908 ?_
  refine g_iload C dL_law_909 0 rfl ?_
  refine g_i2l C (v := (yMF g r v).toInt64) dL_law_911 rfl ?_
  refine g_lcmp C (v := lg_cmp ((vp_updL oj 0 (xTv g r v).toInt64) 0) ((yMF g r v).toInt64)) dL_law_912 rfl ?_
  refine g_if_eq C (tgt := 918) dL_law_913 (by decide) (fun _ => ?_) (fun h913_3 => absurd (lgz (by rw [pk_uLs, eR])) h913_3)
  refine g_goto C (tgt := 1113) dL_law_918 (by decide) ?_
  refine g_lv [2, 3, 4, 5, 6] (lv' := [(0, .ref b), (1, .ref xa), (2, .ref (ma 0)), (3, .ref oa), (4, .int (nI (4 * q)))]) rfl ?_
  refine g_wid (k' := 60 + (q + 1)) (n' := 1010 + 6 * (q + 1)) (by omega) (by omega) ?_
  exact hnext _ _ _ _ _ _ _ _ _ _ _ hI9
theorem hd_L_ifAdded : yL_ifAdded.cls ≠ "java/lang/invoke/MethodHandle" ∧ yL_ifAdded.cls ≠ "java/lang/invoke/VarHandle" ∧ (parseMethodDescriptor yL_ifAdded.desc).map (fun d => d.parameters.length) = some 4 := by decide +kernel
theorem hd_X4_ifAdded : yX4_ifAdded.cls = RX4 ∧ yX4_ifAdded.cls ≠ "java/lang/invoke/MethodHandle" ∧ yX4_ifAdded.cls ≠ "java/lang/invoke/VarHandle" ∧ (parseMethodDescriptor yX4_ifAdded.desc).map (fun d => d.parameters.length) = some 2 := by decide +kernel
set_option maxHeartbeats 2000000 in
set_option maxRecDepth 100000 in
theorem law_ifAdded {p : Program} {l : Launch} {e : Env} {s : State} {m : MethodId} {below : List Frame} {meth : Method} {c : Code} {D : va_G} {cI cO cJ : ClassId} {b L : Nat} {xs : Nat → Int32} {Q9 : State → Prop} (hl : l.stackTraces = false) (hL : L ≤ 2048) (C : gC p s m (#[.ref b] : Array Value) c cL_law RL wsL_law D vwCl (tyW cI cO cJ) (fun q9 => s.heap.size ≤ q9) s.heap 9) (hF : sF s.vm) (hZ : zF (fun q9 => s.heap.size ≤ q9) s s.heap) (hX : va_X b L xs s s.heap) (hbl : b < s.heap.size) {xa oa : Nat} {ta ha : Nat → Nat} {hb : Nat → Nat → Nat} {ad ma : Nat → Nat} (q : Nat) (hq : 4 * q + 4 ≤ L) (t : Nat → Int32) (n : Nat) (G : Nat → Nat → Int32) (g : Nat → Int32) (o z : Nat) (th : Int32) (a9 sv : Nat → Int32) (dg : Int64) (oj : Nat → Int64) (hI : LI t n G g o z sv) (hnext : (∀ (t : Nat → Int32) (n : Nat) (G : Nat → Nat → Int32) (g : Nat → Int32) (o z : Nat) (th : Int32) (a9 sv : Nat → Int32) (dg : Int64) (oj : Nat → Int64), LI t n G g o z sv → gG p l e room_1 s m (#[.ref b] : Array Value) below meth c D vwCl (fun q9 => s.heap.size ≤ q9) s.heap 9 Q9 (60 + (q + 1)) (1010 + 6 * (q + 1)) ((wS0 xa ad ha ta) ++ ((wT ta cI t (nI n)) ++ ((wHs ha hb cI cO G (nI o) (nI z)) ++ ((wB ad cI g) ++ ((wO oa cJ oj) ++ (wM ma cI th g a9 sv z t n dg)))))) 1113 [(0, .ref b), (1, .ref xa), (2, .ref (ma 0)), (3, .ref oa), (4, .int (nI (4 * q)))] [])) : gG p l e room_1 s m (#[.ref b] : Array Value) below meth c D vwCl (fun q9 => s.heap.size ≤ q9) s.heap 9 Q9 (60 + q) (1010 + 6 * q) ((wS0 xa ad ha ta) ++ ((wT ta cI t (nI n)) ++ ((wHs ha hb cI cO G (nI o) (nI z)) ++ ((wB ad cI g) ++ ((wO oa cJ oj) ++ (wM ma cI th g a9 sv z t n dg)))))) 921 [(0, .ref b), (1, .ref xa), (2, .ref (ma 0)), (3, .ref oa), (4, .int (nI (4 * q)))] [] := by
  obtain ⟨v9, e1⟩ : ∃ x9, xs (4 * q + 1) = x9 := ⟨_, rfl⟩
  obtain ⟨v, e2⟩ : ∃ x9, xs (4 * q + 2) = x9 := ⟨_, rfl⟩
  by_cases h : v9 < 0 ∨ ¬ v9 < 9
  · have hI9 : LI t n G g o z sv := hI
    refine g_aload_n C dL_law_921 1 rfl ?_
    refine g_aload_n C dL_law_922 0 rfl ?_
    refine g_iload C dL_law_923 4 rfl ?_
    refine g_iconst C (v := 1) dL_law_925 ci_1 ?_
    refine g_iadd C (v := nI (4 * q + 1)) dL_law_926 (nI_add _ 1) ?_
    refine g_sld C (x := v9) hX hbl (fun z9 => absurd hbl (Nat.not_lt.mpr z9)) (by omega) (4 * q + 1) rfl (by omega) e1 dL_law_927 ?_
    refine g_aload_n C dL_law_928 0 rfl ?_
    refine g_iload C dL_law_929 4 rfl ?_
    refine g_iconst C (v := 2) dL_law_931 ci_2 ?_
    refine g_iadd C (v := nI (4 * q + 2)) dL_law_932 (nI_add _ 2) ?_
    refine g_sld C (x := v) hX hbl (fun z9 => absurd hbl (Nat.not_lt.mpr z9)) (by omega) (4 * q + 2) rfl (by omega) e2 dL_law_933 ?_
    refine g_aload_n C dL_law_934 3 rfl ?_
    refine g_callSW C hZ (w_L_ifAdded_1 l hl D cI cO cJ xa ta ha hb ad t n G g o z hI.1 hI.2.1 hI.2.2.1 v9 v h oa oj) gL_law_L_ifAdded rfl ⟨rfl, rfl⟩ hd_L_ifAdded ⟨Nat.le_of_ble_eq_true rfl, Nat.le_of_ble_eq_true rfl⟩ [0, 1, 2] rfl (sF_w hF) rfl (rest := []) rfl (Nat.le_of_ble_eq_true rfl) dL_law_935 ⟨(by show _ + 1 ≤ 621006; omega), (by show _ + 6 ≤ 7233085; omega)⟩ (pre := []) (post := (wM ma cI th g a9 sv z t n dg)) (ws' := ((wS0 xa ad ha ta) ++ ((wT ta cI t (nI n)) ++ ((wHs ha hb cI cO G (nI o) (nI z)) ++ ((wB ad cI g) ++ ((wO oa cJ oj) ++ (wM ma cI th g a9 sv z t n dg))))))) rfl rfl ?_
    refine g_istore C (lv' := [(5, .int 1), (0, .ref b), (1, .ref xa), (2, .ref (ma 0)), (3, .ref oa), (4, .int (nI (4 * q)))]) dL_law_938 (by decide) rfl ?_
    refine g_aload_n C dL_law_940 3 rfl ?_
    refine g_aload_n C dL_law_941 1 rfl ?_
    refine g_iload C dL_law_942 5 rfl ?_
    refine g_iconst C (v := 1) dL_law_944 ci_1 ?_
    refine g_iadd C (v := nI (4 * q + 1)) dL_law_945 (nI_add _ 1) ?_
    refine g_sld C (x := v9) hX hbl (fun z9 => absurd hbl (Nat.not_lt.mpr z9)) (by omega) (4 * q + 1) rfl (by omega) e1 dL_law_946 ?_
    refine g_aload_n C dL_law_947 1 rfl ?_
    refine g_iload C dL_law_948 5 rfl ?_
    refine g_iconst C (v := 2) dL_law_950 ci_2 ?_
    refine g_iadd C (v := nI (4 * q + 2)) dL_law_951 (nI_add _ 2) ?_
    refine g_sld C (x := v) hX hbl (fun z9 => absurd hbl (Nat.not_lt.mpr z9)) (by omega) (4 * q + 2) rfl (by omega) e2 dL_law_952 ?_
    refine g_callVi C (c_X4_ifAdded_1 l D cI cO ma th g a9 sv z t n dg hI.1 hI.2.2.1 v9 h v) gL_law_X4_ifAdded rfl ⟨rfl, rfl⟩ hd_X4_ifAdded ⟨Nat.le_of_ble_eq_true rfl, Nat.le_of_ble_eq_true rfl⟩ [0, 1] rfl (fun _ _ => trivial) rfl (rest := []) rfl (Nat.le_of_ble_eq_true rfl) dL_law_953 ⟨(by show _ ≤ 621006; omega), (by show _ ≤ 7233085; omega)⟩ 0 rfl rfl rfl (pre := ((wS0 xa ad ha ta) ++ ((wT ta cI t (nI n)) ++ ((wHs ha hb cI cO G (nI o) (nI z)) ++ ((wB ad cI g) ++ (wO oa cJ oj)))))) (post := []) (ws' := ((wS0 xa ad ha ta) ++ ((wT ta cI t (nI n)) ++ ((wHs ha hb cI cO G (nI o) (nI z)) ++ ((wB ad cI g) ++ ((wO oa cJ oj) ++ (wM ma cI 1 g a9 sv z t n dg))))))) rfl rfl ?_
    refine g_istore C (lv' := [(6, .int 0), (5, .int 1), (0, .ref b), (1, .ref xa), (2, .ref (ma 0)), (3, .ref oa), (4, .int (nI (4 * q)))]) dL_law_956 (by decide) rfl ?_
    refine g_aload_n C dL_law_958 4 rfl ?_
    refine g_callVi C (c_X4_thrown l D cI cO ma 1 g a9 sv z t n dg hI9.1 hI9.2.2.1) gL_law_X4_thrown rfl ⟨rfl, rfl⟩ hd_X4_thrown ⟨Nat.le_of_ble_eq_true rfl, Nat.le_of_ble_eq_true rfl⟩ [0, 1] rfl (fun _ _ => trivial) rfl (rest := []) rfl (Nat.le_of_ble_eq_true rfl) dL_law_959 ⟨(by show _ ≤ 621006; omega), (by show _ ≤ 7233085; omega)⟩ 0 rfl rfl rfl (pre := ((wS0 xa ad ha ta) ++ ((wT ta cI t (nI n)) ++ ((wHs ha hb cI cO G (nI o) (nI z)) ++ ((wB ad cI g) ++ (wO oa cJ oj)))))) (post := []) (ws' := ((wS0 xa ad ha ta) ++ ((wT ta cI t (nI n)) ++ ((wHs ha hb cI cO G (nI o) (nI z)) ++ ((wB ad cI g) ++ ((wO oa cJ oj) ++ (wM ma cI 1 g a9 sv z t n dg))))))) rfl rfl ?_
    refine g_iload C dL_law_962 1 rfl ?_
    refine g_icmp_eq C (tgt := 969) dL_law_964 (by decide) (fun _ => ?_) (fun h964_1 => absurd (by decide) h964_1)
    refine g_iload C dL_law_969 1 rfl ?_
    refine g_if_ne C (tgt := 986) dL_law_971 (by decide) (fun _ => ?_) (fun h971_2 => absurd h971_2 (by decide))
    refine g_goto C (tgt := 1113) dL_law_986 (by decide) ?_
    refine g_lv [2, 3, 4, 5, 6] (lv' := [(0, .ref b), (1, .ref xa), (2, .ref (ma 0)), (3, .ref oa), (4, .int (nI (4 * q)))]) rfl ?_
    refine g_wid (k' := 60 + (q + 1)) (n' := 1010 + 6 * (q + 1)) (by omega) (by omega) ?_
    exact hnext _ _ _ _ _ _ _ _ _ _ _ hI9
  obtain ⟨r, hr, rfl⟩ := orR h
  by_cases h : v < -9 ∨ ¬ v ≤ 9
  · have hI9 : LI t n G g o z sv := hI
    refine g_aload_n C dL_law_921 1 rfl ?_
    refine g_aload_n C dL_law_922 0 rfl ?_
    refine g_iload C dL_law_923 4 rfl ?_
    refine g_iconst C (v := 1) dL_law_925 ci_1 ?_
    refine g_iadd C (v := nI (4 * q + 1)) dL_law_926 (nI_add _ 1) ?_
    refine g_sld C (x := nI r) hX hbl (fun z9 => absurd hbl (Nat.not_lt.mpr z9)) (by omega) (4 * q + 1) rfl (by omega) e1 dL_law_927 ?_
    refine g_aload_n C dL_law_928 0 rfl ?_
    refine g_iload C dL_law_929 4 rfl ?_
    refine g_iconst C (v := 2) dL_law_931 ci_2 ?_
    refine g_iadd C (v := nI (4 * q + 2)) dL_law_932 (nI_add _ 2) ?_
    refine g_sld C (x := v) hX hbl (fun z9 => absurd hbl (Nat.not_lt.mpr z9)) (by omega) (4 * q + 2) rfl (by omega) e2 dL_law_933 ?_
    refine g_aload_n C dL_law_934 3 rfl ?_
    refine g_callSW C hZ (w_L_ifAdded_2 l hl D cI cO cJ xa ta ha hb ad t n G g o z hI.1 hI.2.1 hI.2.2.1 r hr v h oa oj) gL_law_L_ifAdded rfl ⟨rfl, rfl⟩ hd_L_ifAdded ⟨Nat.le_of_ble_eq_true rfl, Nat.le_of_ble_eq_true rfl⟩ [0, 1, 2] rfl (sF_w hF) rfl (rest := []) rfl (Nat.le_of_ble_eq_true rfl) dL_law_935 ⟨(by show _ + 1 ≤ 621006; omega), (by show _ + 6 ≤ 7233085; omega)⟩ (pre := []) (post := (wM ma cI th g a9 sv z t n dg)) (ws' := ((wS0 xa ad ha ta) ++ ((wT ta cI t (nI n)) ++ ((wHs ha hb cI cO G (nI o) (nI z)) ++ ((wB ad cI g) ++ ((wO oa cJ oj) ++ (wM ma cI th g a9 sv z t n dg))))))) rfl rfl ?_
    refine g_istore C (lv' := [(5, .int 2), (0, .ref b), (1, .ref xa), (2, .ref (ma 0)), (3, .ref oa), (4, .int (nI (4 * q)))]) dL_law_938 (by decide) rfl ?_
    refine g_aload_n C dL_law_940 3 rfl ?_
    refine g_aload_n C dL_law_941 1 rfl ?_
    refine g_iload C dL_law_942 5 rfl ?_
    refine g_iconst C (v := 1) dL_law_944 ci_1 ?_
    refine g_iadd C (v := nI (4 * q + 1)) dL_law_945 (nI_add _ 1) ?_
    refine g_sld C (x := nI r) hX hbl (fun z9 => absurd hbl (Nat.not_lt.mpr z9)) (by omega) (4 * q + 1) rfl (by omega) e1 dL_law_946 ?_
    refine g_aload_n C dL_law_947 1 rfl ?_
    refine g_iload C dL_law_948 5 rfl ?_
    refine g_iconst C (v := 2) dL_law_950 ci_2 ?_
    refine g_iadd C (v := nI (4 * q + 2)) dL_law_951 (nI_add _ 2) ?_
    refine g_sld C (x := v) hX hbl (fun z9 => absurd hbl (Nat.not_lt.mpr z9)) (by omega) (4 * q + 2) rfl (by omega) e2 dL_law_952 ?_
    refine g_callVi C (c_X4_ifAdded_2 l D cI cO ma th g a9 sv z t n dg hI.1 hI.2.2.1 r hr v h) gL_law_X4_ifAdded rfl ⟨rfl, rfl⟩ hd_X4_ifAdded ⟨Nat.le_of_ble_eq_true rfl, Nat.le_of_ble_eq_true rfl⟩ [0, 1] rfl (fun _ _ => trivial) rfl (rest := []) rfl (Nat.le_of_ble_eq_true rfl) dL_law_953 ⟨(by show _ ≤ 621006; omega), (by show _ ≤ 7233085; omega)⟩ 0 rfl rfl rfl (pre := ((wS0 xa ad ha ta) ++ ((wT ta cI t (nI n)) ++ ((wHs ha hb cI cO G (nI o) (nI z)) ++ ((wB ad cI g) ++ (wO oa cJ oj)))))) (post := []) (ws' := ((wS0 xa ad ha ta) ++ ((wT ta cI t (nI n)) ++ ((wHs ha hb cI cO G (nI o) (nI z)) ++ ((wB ad cI g) ++ ((wO oa cJ oj) ++ (wM ma cI 2 g a9 sv z t n dg))))))) rfl rfl ?_
    refine g_istore C (lv' := [(6, .int 0), (5, .int 2), (0, .ref b), (1, .ref xa), (2, .ref (ma 0)), (3, .ref oa), (4, .int (nI (4 * q)))]) dL_law_956 (by decide) rfl ?_
    refine g_aload_n C dL_law_958 4 rfl ?_
    refine g_callVi C (c_X4_thrown l D cI cO ma 2 g a9 sv z t n dg hI9.1 hI9.2.2.1) gL_law_X4_thrown rfl ⟨rfl, rfl⟩ hd_X4_thrown ⟨Nat.le_of_ble_eq_true rfl, Nat.le_of_ble_eq_true rfl⟩ [0, 1] rfl (fun _ _ => trivial) rfl (rest := []) rfl (Nat.le_of_ble_eq_true rfl) dL_law_959 ⟨(by show _ ≤ 621006; omega), (by show _ ≤ 7233085; omega)⟩ 0 rfl rfl rfl (pre := ((wS0 xa ad ha ta) ++ ((wT ta cI t (nI n)) ++ ((wHs ha hb cI cO G (nI o) (nI z)) ++ ((wB ad cI g) ++ (wO oa cJ oj)))))) (post := []) (ws' := ((wS0 xa ad ha ta) ++ ((wT ta cI t (nI n)) ++ ((wHs ha hb cI cO G (nI o) (nI z)) ++ ((wB ad cI g) ++ ((wO oa cJ oj) ++ (wM ma cI 2 g a9 sv z t n dg))))))) rfl rfl ?_
    refine g_iload C dL_law_962 1 rfl ?_
    refine g_icmp_eq C (tgt := 969) dL_law_964 (by decide) (fun _ => ?_) (fun h964_1 => absurd (by decide) h964_1)
    refine g_iload C dL_law_969 1 rfl ?_
    refine g_if_ne C (tgt := 986) dL_law_971 (by decide) (fun _ => ?_) (fun h971_2 => absurd h971_2 (by decide))
    refine g_goto C (tgt := 1113) dL_law_986 (by decide) ?_
    refine g_lv [2, 3, 4, 5, 6] (lv' := [(0, .ref b), (1, .ref xa), (2, .ref (ma 0)), (3, .ref oa), (4, .int (nI (4 * q)))]) rfl ?_
    refine g_wid (k' := 60 + (q + 1)) (n' := 1010 + 6 * (q + 1)) (by omega) (by omega) ?_
    exact hnext _ _ _ _ _ _ _ _ _ _ _ hI9
  obtain ⟨h1, h2⟩ := orB h
  have hI9 : LI t n G g o z sv := hI
  have eR : ((xCh g r v 0).1 : Int32) = yK0 g r v := (eK0 hr hI.2.2.2.1 v).symm
  refine g_aload_n C dL_law_921 1 rfl ?_
  refine g_aload_n C dL_law_922 0 rfl ?_
  refine g_iload C dL_law_923 4 rfl ?_
  refine g_iconst C (v := 1) dL_law_925 ci_1 ?_
  refine g_iadd C (v := nI (4 * q + 1)) dL_law_926 (nI_add _ 1) ?_
  refine g_sld C (x := nI r) hX hbl (fun z9 => absurd hbl (Nat.not_lt.mpr z9)) (by omega) (4 * q + 1) rfl (by omega) e1 dL_law_927 ?_
  refine g_aload_n C dL_law_928 0 rfl ?_
  refine g_iload C dL_law_929 4 rfl ?_
  refine g_iconst C (v := 2) dL_law_931 ci_2 ?_
  refine g_iadd C (v := nI (4 * q + 2)) dL_law_932 (nI_add _ 2) ?_
  refine g_sld C (x := v) hX hbl (fun z9 => absurd hbl (Nat.not_lt.mpr z9)) (by omega) (4 * q + 2) rfl (by omega) e2 dL_law_933 ?_
  refine g_aload_n C dL_law_934 3 rfl ?_
  refine g_callSW C hZ (w_L_ifAdded l hl D cI cO cJ xa ta ha hb ad t n G g o z hI.1 hI.2.1 hI.2.2.1 r hr v h1 h2 oa oj) gL_law_L_ifAdded rfl ⟨rfl, rfl⟩ hd_L_ifAdded ⟨Nat.le_of_ble_eq_true rfl, Nat.le_of_ble_eq_true rfl⟩ [0, 1, 2] rfl (sF_w hF) rfl (rest := []) rfl (Nat.le_of_ble_eq_true rfl) dL_law_935 ⟨(by show _ + 1 ≤ 621006; omega), (by show _ + 6 ≤ 7233085; omega)⟩ (pre := []) (post := (wM ma cI th g a9 sv z t n dg)) (ws' := ((wS0 xa ad ha ta) ++ ((wT ta cI t (nI n)) ++ ((wHs ha hb cI cO G (nI o) (nI z)) ++ ((wB ad cI g) ++ ((wO oa cJ (vp_updL oj 0 ((xCh g r v 0).1).toInt64)) ++ (wM ma cI th g a9 sv z t n dg))))))) rfl rfl ?_
  refine g_istore C (lv' := [(5, .int 0), (0, .ref b), (1, .ref xa), (2, .ref (ma 0)), (3, .ref oa), (4, .int (nI (4 * q)))]) dL_law_938 (by decide) rfl ?_
  refine g_aload_n C dL_law_940 3 rfl ?_
  refine g_aload_n C dL_law_941 1 rfl ?_
  refine g_iload C dL_law_942 5 rfl ?_
  refine g_iconst C (v := 1) dL_law_944 ci_1 ?_
  refine g_iadd C (v := nI (4 * q + 1)) dL_law_945 (nI_add _ 1) ?_
  refine g_sld C (x := nI r) hX hbl (fun z9 => absurd hbl (Nat.not_lt.mpr z9)) (by omega) (4 * q + 1) rfl (by omega) e1 dL_law_946 ?_
  refine g_aload_n C dL_law_947 1 rfl ?_
  refine g_iload C dL_law_948 5 rfl ?_
  refine g_iconst C (v := 2) dL_law_950 ci_2 ?_
  refine g_iadd C (v := nI (4 * q + 2)) dL_law_951 (nI_add _ 2) ?_
  refine g_sld C (x := v) hX hbl (fun z9 => absurd hbl (Nat.not_lt.mpr z9)) (by omega) (4 * q + 2) rfl (by omega) e2 dL_law_952 ?_
  refine g_callVi C (c_X4_ifAdded l D cI cO ma th g a9 sv z t n dg hI.1 hI.2.2.1 r hr v h1 h2) gL_law_X4_ifAdded rfl ⟨rfl, rfl⟩ hd_X4_ifAdded ⟨Nat.le_of_ble_eq_true rfl, Nat.le_of_ble_eq_true rfl⟩ [0, 1] rfl (fun _ _ => trivial) rfl (rest := []) rfl (Nat.le_of_ble_eq_true rfl) dL_law_953 ⟨(by show _ ≤ 621006; omega), (by show _ ≤ 7233085; omega)⟩ 0 rfl rfl rfl (pre := ((wS0 xa ad ha ta) ++ ((wT ta cI t (nI n)) ++ ((wHs ha hb cI cO G (nI o) (nI z)) ++ ((wB ad cI g) ++ (wO oa cJ (vp_updL oj 0 ((xCh g r v 0).1).toInt64))))))) (post := []) (ws' := ((wS0 xa ad ha ta) ++ ((wT ta cI t (nI n)) ++ ((wHs ha hb cI cO G (nI o) (nI z)) ++ ((wB ad cI g) ++ ((wO oa cJ (vp_updL oj 0 ((xCh g r v 0).1).toInt64)) ++ (wM ma cI 0 g g sv z t n dg))))))) rfl rfl ?_
  refine g_istore C (lv' := [(6, .int (yK0 g r v)), (5, .int 0), (0, .ref b), (1, .ref xa), (2, .ref (ma 0)), (3, .ref oa), (4, .int (nI (4 * q)))]) dL_law_956 (by decide) rfl ?_
  refine g_aload_n C dL_law_958 4 rfl ?_
  refine g_callVi C (c_X4_thrown l D cI cO ma 0 g g sv z t n dg hI9.1 hI9.2.2.1) gL_law_X4_thrown rfl ⟨rfl, rfl⟩ hd_X4_thrown ⟨Nat.le_of_ble_eq_true rfl, Nat.le_of_ble_eq_true rfl⟩ [0, 1] rfl (fun _ _ => trivial) rfl (rest := []) rfl (Nat.le_of_ble_eq_true rfl) dL_law_959 ⟨(by show _ ≤ 621006; omega), (by show _ ≤ 7233085; omega)⟩ 0 rfl rfl rfl (pre := ((wS0 xa ad ha ta) ++ ((wT ta cI t (nI n)) ++ ((wHs ha hb cI cO G (nI o) (nI z)) ++ ((wB ad cI g) ++ (wO oa cJ (vp_updL oj 0 ((xCh g r v 0).1).toInt64))))))) (post := []) (ws' := ((wS0 xa ad ha ta) ++ ((wT ta cI t (nI n)) ++ ((wHs ha hb cI cO G (nI o) (nI z)) ++ ((wB ad cI g) ++ ((wO oa cJ (vp_updL oj 0 ((xCh g r v 0).1).toInt64)) ++ (wM ma cI 0 g g sv z t n dg))))))) rfl rfl ?_
  refine g_iload C dL_law_962 1 rfl ?_
  refine g_icmp_eq C (tgt := 969) dL_law_964 (by decide) (fun _ => ?_) (fun h964_1 => absurd (by decide) h964_1)
  refine g_iload C dL_law_969 1 rfl ?_
  refine g_if_ne C (tgt := 986) dL_law_971 (by decide) (fun h971_2 => absurd (by decide) h971_2) (fun _ => ?_)
  refine g_aload_n C dL_law_974 5 rfl ?_
  refine g_iconst C (v := 0) dL_law_975 ci_0 ?_
  refine g_lald C (x := (vp_updL oj 0 ((xCh g r v 0).1).toInt64) 0) 54 2 rfl rfl 0 rfl (by decide) (by decide) rfl dL_law_976 ?_
  refine g_iload C dL_law_977 0 rfl ?_
  refine g_i2l C (v := (yK0 g r v).toInt64) dL_law_979 rfl ?_
  refine g_lcmp C (v := lg_cmp ((vp_updL oj 0 ((xCh g r v 0).1).toInt64) 0) ((yK0 g r v).toInt64)) dL_law_980 rfl ?_
  refine g_if_eq C (tgt := 986) dL_law_981 (by decide) (fun _ => ?_) (fun h981_3 => absurd (lgz (by rw [pk_uLs, eR])) h981_3)
  refine g_goto C (tgt := 1113) dL_law_986 (by decide) ?_
  refine g_lv [2, 3, 4, 5, 6] (lv' := [(0, .ref b), (1, .ref xa), (2, .ref (ma 0)), (3, .ref oa), (4, .int (nI (4 * q)))]) rfl ?_
  refine g_wid (k' := 60 + (q + 1)) (n' := 1010 + 6 * (q + 1)) (by omega) (by omega) ?_
  exact hnext _ _ _ _ _ _ _ _ _ _ _ hI9
theorem hd_L_toShow : yL_toShow.cls ≠ "java/lang/invoke/MethodHandle" ∧ yL_toShow.cls ≠ "java/lang/invoke/VarHandle" ∧ (parseMethodDescriptor yL_toShow.desc).map (fun d => d.parameters.length) = some 3 := by decide +kernel
theorem hd_X4_toShow : yX4_toShow.cls = RX4 ∧ yX4_toShow.cls ≠ "java/lang/invoke/MethodHandle" ∧ yX4_toShow.cls ≠ "java/lang/invoke/VarHandle" ∧ (parseMethodDescriptor yX4_toShow.desc).map (fun d => d.parameters.length) = some 1 := by decide +kernel
set_option maxHeartbeats 2000000 in
set_option maxRecDepth 100000 in
theorem law_toShow {p : Program} {l : Launch} {e : Env} {s : State} {m : MethodId} {below : List Frame} {meth : Method} {c : Code} {D : va_G} {cI cO cJ : ClassId} {b L : Nat} {xs : Nat → Int32} {Q9 : State → Prop} (hl : l.stackTraces = false) (hL : L ≤ 2048) (C : gC p s m (#[.ref b] : Array Value) c cL_law RL wsL_law D vwCl (tyW cI cO cJ) (fun q9 => s.heap.size ≤ q9) s.heap 9) (hF : sF s.vm) (hZ : zF (fun q9 => s.heap.size ≤ q9) s s.heap) (hX : va_X b L xs s s.heap) (hbl : b < s.heap.size) {xa oa : Nat} {ta ha : Nat → Nat} {hb : Nat → Nat → Nat} {ad ma : Nat → Nat} (q : Nat) (hq : 4 * q + 4 ≤ L) (t : Nat → Int32) (n : Nat) (G : Nat → Nat → Int32) (g : Nat → Int32) (o z : Nat) (th : Int32) (a9 sv : Nat → Int32) (dg : Int64) (oj : Nat → Int64) (hI : LI t n G g o z sv) (hnext : (∀ (t : Nat → Int32) (n : Nat) (G : Nat → Nat → Int32) (g : Nat → Int32) (o z : Nat) (th : Int32) (a9 sv : Nat → Int32) (dg : Int64) (oj : Nat → Int64), LI t n G g o z sv → gG p l e room_1 s m (#[.ref b] : Array Value) below meth c D vwCl (fun q9 => s.heap.size ≤ q9) s.heap 9 Q9 (60 + (q + 1)) (1010 + 6 * (q + 1)) ((wS0 xa ad ha ta) ++ ((wT ta cI t (nI n)) ++ ((wHs ha hb cI cO G (nI o) (nI z)) ++ ((wB ad cI g) ++ ((wO oa cJ oj) ++ (wM ma cI th g a9 sv z t n dg)))))) 1113 [(0, .ref b), (1, .ref xa), (2, .ref (ma 0)), (3, .ref oa), (4, .int (nI (4 * q)))] [])) : gG p l e room_1 s m (#[.ref b] : Array Value) below meth c D vwCl (fun q9 => s.heap.size ≤ q9) s.heap 9 Q9 (60 + q) (1010 + 6 * q) ((wS0 xa ad ha ta) ++ ((wT ta cI t (nI n)) ++ ((wHs ha hb cI cO G (nI o) (nI z)) ++ ((wB ad cI g) ++ ((wO oa cJ oj) ++ (wM ma cI th g a9 sv z t n dg)))))) 989 [(0, .ref b), (1, .ref xa), (2, .ref (ma 0)), (3, .ref oa), (4, .int (nI (4 * q)))] [] := by
  obtain ⟨v, e1⟩ : ∃ x9, xs (4 * q + 1) = x9 := ⟨_, rfl⟩
  by_cases h : v < 0 ∨ ¬ v ≤ 999999999
  · have hI9 : LI t n G g o z sv := hI
    refine g_aload_n C dL_law_989 1 rfl ?_
    refine g_aload_n C dL_law_990 0 rfl ?_
    refine g_iload C dL_law_991 4 rfl ?_
    refine g_iconst C (v := 1) dL_law_993 ci_1 ?_
    refine g_iadd C (v := nI (4 * q + 1)) dL_law_994 (nI_add _ 1) ?_
    refine g_sld C (x := v) hX hbl (fun z9 => absurd hbl (Nat.not_lt.mpr z9)) (by omega) (4 * q + 1) rfl (by omega) e1 dL_law_995 ?_
    refine g_aload_n C dL_law_996 3 rfl ?_
    refine g_callSW C hZ (w_L_toShow_1 l hl D cI cO cJ xa ta ha hb ad t n G g o z hI.1 hI.2.1 hI.2.2.1 v h oa oj) gL_law_L_toShow rfl ⟨rfl, rfl⟩ hd_L_toShow ⟨Nat.le_of_ble_eq_true rfl, Nat.le_of_ble_eq_true rfl⟩ [0, 1, 2] rfl (sF_w hF) rfl (rest := []) rfl (Nat.le_of_ble_eq_true rfl) dL_law_997 ⟨(by show _ + 1 ≤ 621006; omega), (by show _ + 6 ≤ 7233085; omega)⟩ (pre := []) (post := (wM ma cI th g a9 sv z t n dg)) (ws' := ((wS0 xa ad ha ta) ++ ((wT ta cI t (nI n)) ++ ((wHs ha hb cI cO G (nI o) (nI z)) ++ ((wB ad cI g) ++ ((wO oa cJ oj) ++ (wM ma cI th g a9 sv z t n dg))))))) rfl rfl ?_
    refine g_istore C (lv' := [(5, .int 1), (0, .ref b), (1, .ref xa), (2, .ref (ma 0)), (3, .ref oa), (4, .int (nI (4 * q)))]) dL_law_1000 (by decide) rfl ?_
    refine g_aload_n C dL_law_1002 3 rfl ?_
    refine g_aload_n C dL_law_1003 1 rfl ?_
    refine g_iload C dL_law_1004 5 rfl ?_
    refine g_iconst C (v := 1) dL_law_1006 ci_1 ?_
    refine g_iadd C (v := nI (4 * q + 1)) dL_law_1007 (nI_add _ 1) ?_
    refine g_sld C (x := v) hX hbl (fun z9 => absurd hbl (Nat.not_lt.mpr z9)) (by omega) (4 * q + 1) rfl (by omega) e1 dL_law_1008 ?_
    refine g_callVi C (c_X4_toShow_1 l D cI cO ma th g a9 sv z t n dg hI.1 hI.2.2.1 v h) gL_law_X4_toShow rfl ⟨rfl, rfl⟩ hd_X4_toShow ⟨Nat.le_of_ble_eq_true rfl, Nat.le_of_ble_eq_true rfl⟩ [0, 1] rfl (fun _ _ => trivial) rfl (rest := []) rfl (Nat.le_of_ble_eq_true rfl) dL_law_1009 ⟨(by show _ ≤ 621006; omega), (by show _ ≤ 7233085; omega)⟩ 0 rfl rfl rfl (pre := ((wS0 xa ad ha ta) ++ ((wT ta cI t (nI n)) ++ ((wHs ha hb cI cO G (nI o) (nI z)) ++ ((wB ad cI g) ++ (wO oa cJ oj)))))) (post := []) (ws' := ((wS0 xa ad ha ta) ++ ((wT ta cI t (nI n)) ++ ((wHs ha hb cI cO G (nI o) (nI z)) ++ ((wB ad cI g) ++ ((wO oa cJ oj) ++ (wM ma cI 1 g a9 sv z t n dg))))))) rfl rfl ?_
    refine g_istore C (lv' := [(6, .int 0), (5, .int 1), (0, .ref b), (1, .ref xa), (2, .ref (ma 0)), (3, .ref oa), (4, .int (nI (4 * q)))]) dL_law_1012 (by decide) rfl ?_
    refine g_aload_n C dL_law_1014 4 rfl ?_
    refine g_callVi C (c_X4_thrown l D cI cO ma 1 g a9 sv z t n dg hI9.1 hI9.2.2.1) gL_law_X4_thrown rfl ⟨rfl, rfl⟩ hd_X4_thrown ⟨Nat.le_of_ble_eq_true rfl, Nat.le_of_ble_eq_true rfl⟩ [0, 1] rfl (fun _ _ => trivial) rfl (rest := []) rfl (Nat.le_of_ble_eq_true rfl) dL_law_1015 ⟨(by show _ ≤ 621006; omega), (by show _ ≤ 7233085; omega)⟩ 0 rfl rfl rfl (pre := ((wS0 xa ad ha ta) ++ ((wT ta cI t (nI n)) ++ ((wHs ha hb cI cO G (nI o) (nI z)) ++ ((wB ad cI g) ++ (wO oa cJ oj)))))) (post := []) (ws' := ((wS0 xa ad ha ta) ++ ((wT ta cI t (nI n)) ++ ((wHs ha hb cI cO G (nI o) (nI z)) ++ ((wB ad cI g) ++ ((wO oa cJ oj) ++ (wM ma cI 1 g a9 sv z t n dg))))))) rfl rfl ?_
    refine g_iload C dL_law_1018 1 rfl ?_
    refine g_icmp_eq C (tgt := 1025) dL_law_1020 (by decide) (fun _ => ?_) (fun h1020_1 => absurd (by decide) h1020_1)
    refine g_iload C dL_law_1025 1 rfl ?_
    refine g_if_ne C (tgt := 1042) dL_law_1027 (by decide) (fun _ => ?_) (fun h1027_2 => absurd h1027_2 (by decide))
    refine g_goto C (tgt := 1113) dL_law_1042 (by decide) ?_
    refine g_lv [2, 3, 4, 5, 6] (lv' := [(0, .ref b), (1, .ref xa), (2, .ref (ma 0)), (3, .ref oa), (4, .int (nI (4 * q)))]) rfl ?_
    refine g_wid (k' := 60 + (q + 1)) (n' := 1010 + 6 * (q + 1)) (by omega) (by omega) ?_
    exact hnext _ _ _ _ _ _ _ _ _ _ _ hI9
  obtain ⟨m9, hm9, rfl⟩ := orM h
  have hI9 : LI t n G g o z sv := hI
  have eR : (xTo g 9 0 m9 0 : Int32) = yS g 9 0 m9 0 1 := (eS1 hI.2.2.2.1 9 0 m9 0 rfl).symm
  refine g_aload_n C dL_law_989 1 rfl ?_
  refine g_aload_n C dL_law_990 0 rfl ?_
  refine g_iload C dL_law_991 4 rfl ?_
  refine g_iconst C (v := 1) dL_law_993 ci_1 ?_
  refine g_iadd C (v := nI (4 * q + 1)) dL_law_994 (nI_add _ 1) ?_
  refine g_sld C (x := nI m9) hX hbl (fun z9 => absurd hbl (Nat.not_lt.mpr z9)) (by omega) (4 * q + 1) rfl (by omega) e1 dL_law_995 ?_
  refine g_aload_n C dL_law_996 3 rfl ?_
  refine g_callSW C hZ (w_L_toShow l hl D cI cO cJ xa ta ha hb ad t n G g o z hI.1 hI.2.1 hI.2.2.1 m9 hm9 oa oj) gL_law_L_toShow rfl ⟨rfl, rfl⟩ hd_L_toShow ⟨Nat.le_of_ble_eq_true rfl, Nat.le_of_ble_eq_true rfl⟩ [0, 1, 2] rfl (sF_w hF) rfl (rest := []) rfl (Nat.le_of_ble_eq_true rfl) dL_law_997 ⟨(by show _ + 1 ≤ 621006; omega), (by show _ + 6 ≤ 7233085; omega)⟩ (pre := []) (post := (wM ma cI th g a9 sv z t n dg)) (ws' := ((wS0 xa ad ha ta) ++ ((wT ta cI t (nI n)) ++ ((wHs ha hb cI cO G (nI o) (nI z)) ++ ((wB ad cI g) ++ ((wO oa cJ (vp_updL oj 0 (xTo g 9 0 m9 0).toInt64)) ++ (wM ma cI th g a9 sv z t n dg))))))) rfl rfl ?_
  refine g_istore C (lv' := [(5, .int 0), (0, .ref b), (1, .ref xa), (2, .ref (ma 0)), (3, .ref oa), (4, .int (nI (4 * q)))]) dL_law_1000 (by decide) rfl ?_
  refine g_aload_n C dL_law_1002 3 rfl ?_
  refine g_aload_n C dL_law_1003 1 rfl ?_
  refine g_iload C dL_law_1004 5 rfl ?_
  refine g_iconst C (v := 1) dL_law_1006 ci_1 ?_
  refine g_iadd C (v := nI (4 * q + 1)) dL_law_1007 (nI_add _ 1) ?_
  refine g_sld C (x := nI m9) hX hbl (fun z9 => absurd hbl (Nat.not_lt.mpr z9)) (by omega) (4 * q + 1) rfl (by omega) e1 dL_law_1008 ?_
  refine g_callVi C (c_X4_toShow l D cI cO ma th g a9 sv z t n dg hI.1 hI.2.2.1 m9 hm9) gL_law_X4_toShow rfl ⟨rfl, rfl⟩ hd_X4_toShow ⟨Nat.le_of_ble_eq_true rfl, Nat.le_of_ble_eq_true rfl⟩ [0, 1] rfl (fun _ _ => trivial) rfl (rest := []) rfl (Nat.le_of_ble_eq_true rfl) dL_law_1009 ⟨(by show _ ≤ 621006; omega), (by show _ ≤ 7233085; omega)⟩ 0 rfl rfl rfl (pre := ((wS0 xa ad ha ta) ++ ((wT ta cI t (nI n)) ++ ((wHs ha hb cI cO G (nI o) (nI z)) ++ ((wB ad cI g) ++ (wO oa cJ (vp_updL oj 0 (xTo g 9 0 m9 0).toInt64))))))) (post := []) (ws' := ((wS0 xa ad ha ta) ++ ((wT ta cI t (nI n)) ++ ((wHs ha hb cI cO G (nI o) (nI z)) ++ ((wB ad cI g) ++ ((wO oa cJ (vp_updL oj 0 (xTo g 9 0 m9 0).toInt64)) ++ (wM ma cI 0 g a9 sv z t n dg))))))) rfl rfl ?_
  refine g_istore C (lv' := [(6, .int (yS g 9 0 m9 0 1)), (5, .int 0), (0, .ref b), (1, .ref xa), (2, .ref (ma 0)), (3, .ref oa), (4, .int (nI (4 * q)))]) dL_law_1012 (by decide) rfl ?_
  refine g_aload_n C dL_law_1014 4 rfl ?_
  refine g_callVi C (c_X4_thrown l D cI cO ma 0 g a9 sv z t n dg hI9.1 hI9.2.2.1) gL_law_X4_thrown rfl ⟨rfl, rfl⟩ hd_X4_thrown ⟨Nat.le_of_ble_eq_true rfl, Nat.le_of_ble_eq_true rfl⟩ [0, 1] rfl (fun _ _ => trivial) rfl (rest := []) rfl (Nat.le_of_ble_eq_true rfl) dL_law_1015 ⟨(by show _ ≤ 621006; omega), (by show _ ≤ 7233085; omega)⟩ 0 rfl rfl rfl (pre := ((wS0 xa ad ha ta) ++ ((wT ta cI t (nI n)) ++ ((wHs ha hb cI cO G (nI o) (nI z)) ++ ((wB ad cI g) ++ (wO oa cJ (vp_updL oj 0 (xTo g 9 0 m9 0).toInt64))))))) (post := []) (ws' := ((wS0 xa ad ha ta) ++ ((wT ta cI t (nI n)) ++ ((wHs ha hb cI cO G (nI o) (nI z)) ++ ((wB ad cI g) ++ ((wO oa cJ (vp_updL oj 0 (xTo g 9 0 m9 0).toInt64)) ++ (wM ma cI 0 g a9 sv z t n dg))))))) rfl rfl ?_
  refine g_iload C dL_law_1018 1 rfl ?_
  refine g_icmp_eq C (tgt := 1025) dL_law_1020 (by decide) (fun _ => ?_) (fun h1020_1 => absurd (by decide) h1020_1)
  refine g_iload C dL_law_1025 1 rfl ?_
  refine g_if_ne C (tgt := 1042) dL_law_1027 (by decide) (fun h1027_2 => absurd (by decide) h1027_2) (fun _ => ?_)
  refine g_aload_n C dL_law_1030 5 rfl ?_
  refine g_iconst C (v := 0) dL_law_1031 ci_0 ?_
  refine g_lald C (x := (vp_updL oj 0 (xTo g 9 0 m9 0).toInt64) 0) 54 2 rfl rfl 0 rfl (by decide) (by decide) rfl dL_law_1032 ?_
  refine g_iload C dL_law_1033 0 rfl ?_
  refine g_i2l C (v := (yS g 9 0 m9 0 1).toInt64) dL_law_1035 rfl ?_
  refine g_lcmp C (v := lg_cmp ((vp_updL oj 0 (xTo g 9 0 m9 0).toInt64) 0) ((yS g 9 0 m9 0 1).toInt64)) dL_law_1036 rfl ?_
  refine g_if_eq C (tgt := 1042) dL_law_1037 (by decide) (fun _ => ?_) (fun h1037_3 => absurd (lgz (by rw [pk_uLs, eR])) h1037_3)
  refine g_goto C (tgt := 1113) dL_law_1042 (by decide) ?_
  refine g_lv [2, 3, 4, 5, 6] (lv' := [(0, .ref b), (1, .ref xa), (2, .ref (ma 0)), (3, .ref oa), (4, .int (nI (4 * q)))]) rfl ?_
  refine g_wid (k' := 60 + (q + 1)) (n' := 1010 + 6 * (q + 1)) (by omega) (by omega) ?_
  exact hnext _ _ _ _ _ _ _ _ _ _ _ hI9
theorem hd_X4_cheapestLoan : yX4_cheapestLoan.cls = RX4 ∧ yX4_cheapestLoan.cls ≠ "java/lang/invoke/MethodHandle" ∧ yX4_cheapestLoan.cls ≠ "java/lang/invoke/VarHandle" ∧ (parseMethodDescriptor yX4_cheapestLoan.desc).map (fun d => d.parameters.length) = some 0 := by decide +kernel
set_option maxHeartbeats 2000000 in
set_option maxRecDepth 100000 in
theorem law_cheapestLoan {p : Program} {l : Launch} {e : Env} {s : State} {m : MethodId} {below : List Frame} {meth : Method} {c : Code} {D : va_G} {cI cO cJ : ClassId} {b L : Nat} {xs : Nat → Int32} {Q9 : State → Prop} (hl : l.stackTraces = false) (hL : L ≤ 2048) (C : gC p s m (#[.ref b] : Array Value) c cL_law RL wsL_law D vwCl (tyW cI cO cJ) (fun q9 => s.heap.size ≤ q9) s.heap 9) (hF : sF s.vm) (hZ : zF (fun q9 => s.heap.size ≤ q9) s s.heap) (hX : va_X b L xs s s.heap) (hbl : b < s.heap.size) {xa oa : Nat} {ta ha : Nat → Nat} {hb : Nat → Nat → Nat} {ad ma : Nat → Nat} (q : Nat) (hq : 4 * q + 4 ≤ L) (t : Nat → Int32) (n : Nat) (G : Nat → Nat → Int32) (g : Nat → Int32) (o z : Nat) (th : Int32) (a9 sv : Nat → Int32) (dg : Int64) (oj : Nat → Int64) (hI : LI t n G g o z sv) (hnext : (∀ (t : Nat → Int32) (n : Nat) (G : Nat → Nat → Int32) (g : Nat → Int32) (o z : Nat) (th : Int32) (a9 sv : Nat → Int32) (dg : Int64) (oj : Nat → Int64), LI t n G g o z sv → gG p l e room_1 s m (#[.ref b] : Array Value) below meth c D vwCl (fun q9 => s.heap.size ≤ q9) s.heap 9 Q9 (60 + (q + 1)) (1010 + 6 * (q + 1)) ((wS0 xa ad ha ta) ++ ((wT ta cI t (nI n)) ++ ((wHs ha hb cI cO G (nI o) (nI z)) ++ ((wB ad cI g) ++ ((wO oa cJ oj) ++ (wM ma cI th g a9 sv z t n dg)))))) 1113 [(0, .ref b), (1, .ref xa), (2, .ref (ma 0)), (3, .ref oa), (4, .int (nI (4 * q)))] [])) : gG p l e room_1 s m (#[.ref b] : Array Value) below meth c D vwCl (fun q9 => s.heap.size ≤ q9) s.heap 9 Q9 (60 + q) (1010 + 6 * q) ((wS0 xa ad ha ta) ++ ((wT ta cI t (nI n)) ++ ((wHs ha hb cI cO G (nI o) (nI z)) ++ ((wB ad cI g) ++ ((wO oa cJ oj) ++ (wM ma cI th g a9 sv z t n dg)))))) 1045 [(0, .ref b), (1, .ref xa), (2, .ref (ma 0)), (3, .ref oa), (4, .int (nI (4 * q)))] [] := by
  have hI9 : LI t n G g o z sv := hI
  have eR : ((xCp g 9).1 : Int32) = (yCp g a9 9).1 := ((eCp (a9 := a9) hI.2.2.2.1 9 (by decide)).1).symm
  refine g_aload_n C dL_law_1045 1 rfl ?_
  refine g_callVi C (c_X3_cheapestLoan l D cI cO xa ta ha hb ad t n G g o z hI.1 hI.2.1 hI.2.2.1 ) gL_law_X3_cheapestLoan rfl ⟨rfl, rfl⟩ hd_X3_cheapestLoan ⟨Nat.le_of_ble_eq_true rfl, Nat.le_of_ble_eq_true rfl⟩ [0, 1] rfl (sF_w hF) rfl (rest := []) rfl (Nat.le_of_ble_eq_true rfl) dL_law_1046 ⟨(by show _ ≤ 621006; omega), (by show _ ≤ 7233085; omega)⟩ 0 rfl rfl rfl (pre := []) (post := ((wO oa cJ oj) ++ (wM ma cI th g a9 sv z t n dg))) (ws' := ((wS0 xa ad ha ta) ++ ((wT ta cI t (nI n)) ++ ((wHs ha hb cI cO G (nI o) (nI z)) ++ ((wB ad cI g) ++ ((wO oa cJ oj) ++ (wM ma cI th g a9 sv z t n dg))))))) rfl rfl ?_
  refine g_aload_n C dL_law_1049 2 rfl ?_
  refine g_callVi C (c_X4_cheapestLoan l D cI cO ma th g a9 sv z t n dg hI.1 hI.2.2.1 ) gL_law_X4_cheapestLoan rfl ⟨rfl, rfl⟩ hd_X4_cheapestLoan ⟨Nat.le_of_ble_eq_true rfl, Nat.le_of_ble_eq_true rfl⟩ [0, 1] rfl (fun _ _ => trivial) rfl (rest := [.int ((xCp g 9).1)]) rfl (Nat.le_of_ble_eq_true rfl) dL_law_1050 ⟨(by show _ ≤ 621006; omega), (by show _ ≤ 7233085; omega)⟩ 0 rfl rfl rfl (pre := ((wS0 xa ad ha ta) ++ ((wT ta cI t (nI n)) ++ ((wHs ha hb cI cO G (nI o) (nI z)) ++ ((wB ad cI g) ++ (wO oa cJ oj)))))) (post := []) (ws' := ((wS0 xa ad ha ta) ++ ((wT ta cI t (nI n)) ++ ((wHs ha hb cI cO G (nI o) (nI z)) ++ ((wB ad cI g) ++ ((wO oa cJ oj) ++ (wM ma cI 0 g ((yCp g a9 9).2.2) sv z t n dg))))))) rfl rfl ?_
  refine g_icmp_eq C (tgt := 1113) dL_law_1053 (by decide) (fun _ => ?_) (fun h1053_1 => absurd eR h1053_1)
  refine g_wid (k' := 60 + (q + 1)) (n' := 1010 + 6 * (q + 1)) (by omega) (by omega) ?_
  exact hnext _ _ _ _ _ _ _ _ _ _ _ hI9
theorem hd_X4_looseness : yX4_looseness.cls = RX4 ∧ yX4_looseness.cls ≠ "java/lang/invoke/MethodHandle" ∧ yX4_looseness.cls ≠ "java/lang/invoke/VarHandle" ∧ (parseMethodDescriptor yX4_looseness.desc).map (fun d => d.parameters.length) = some 0 := by decide +kernel
set_option maxHeartbeats 2000000 in
set_option maxRecDepth 100000 in
theorem law_looseness {p : Program} {l : Launch} {e : Env} {s : State} {m : MethodId} {below : List Frame} {meth : Method} {c : Code} {D : va_G} {cI cO cJ : ClassId} {b L : Nat} {xs : Nat → Int32} {Q9 : State → Prop} (hl : l.stackTraces = false) (hL : L ≤ 2048) (C : gC p s m (#[.ref b] : Array Value) c cL_law RL wsL_law D vwCl (tyW cI cO cJ) (fun q9 => s.heap.size ≤ q9) s.heap 9) (hF : sF s.vm) (hZ : zF (fun q9 => s.heap.size ≤ q9) s s.heap) (hX : va_X b L xs s s.heap) (hbl : b < s.heap.size) {xa oa : Nat} {ta ha : Nat → Nat} {hb : Nat → Nat → Nat} {ad ma : Nat → Nat} (q : Nat) (hq : 4 * q + 4 ≤ L) (t : Nat → Int32) (n : Nat) (G : Nat → Nat → Int32) (g : Nat → Int32) (o z : Nat) (th : Int32) (a9 sv : Nat → Int32) (dg : Int64) (oj : Nat → Int64) (hI : LI t n G g o z sv) (hnext : (∀ (t : Nat → Int32) (n : Nat) (G : Nat → Nat → Int32) (g : Nat → Int32) (o z : Nat) (th : Int32) (a9 sv : Nat → Int32) (dg : Int64) (oj : Nat → Int64), LI t n G g o z sv → gG p l e room_1 s m (#[.ref b] : Array Value) below meth c D vwCl (fun q9 => s.heap.size ≤ q9) s.heap 9 Q9 (60 + (q + 1)) (1010 + 6 * (q + 1)) ((wS0 xa ad ha ta) ++ ((wT ta cI t (nI n)) ++ ((wHs ha hb cI cO G (nI o) (nI z)) ++ ((wB ad cI g) ++ ((wO oa cJ oj) ++ (wM ma cI th g a9 sv z t n dg)))))) 1113 [(0, .ref b), (1, .ref xa), (2, .ref (ma 0)), (3, .ref oa), (4, .int (nI (4 * q)))] [])) : gG p l e room_1 s m (#[.ref b] : Array Value) below meth c D vwCl (fun q9 => s.heap.size ≤ q9) s.heap 9 Q9 (60 + q) (1010 + 6 * q) ((wS0 xa ad ha ta) ++ ((wT ta cI t (nI n)) ++ ((wHs ha hb cI cO G (nI o) (nI z)) ++ ((wB ad cI g) ++ ((wO oa cJ oj) ++ (wM ma cI th g a9 sv z t n dg)))))) 1058 [(0, .ref b), (1, .ref xa), (2, .ref (ma 0)), (3, .ref oa), (4, .int (nI (4 * q)))] [] := by
  have hI9 : LI t n G g o z sv := hI
  refine g_aload_n C dL_law_1058 1 rfl ?_
  refine g_callVd C (c_X3_looseness l D cI cO xa ta ha hb ad t n G g o z hI.1 hI.2.1 hI.2.2.1 ) gL_law_X3_looseness rfl ⟨rfl, rfl⟩ hd_X3_looseness ⟨Nat.le_of_ble_eq_true rfl, Nat.le_of_ble_eq_true rfl⟩ [0, 1] rfl (sF_w hF) rfl (rest := []) rfl (Nat.le_of_ble_eq_true rfl) dL_law_1059 ⟨(by show _ ≤ 621006; omega), (by show _ ≤ 7233085; omega)⟩ 0 rfl rfl rfl (pre := []) (post := ((wO oa cJ oj) ++ (wM ma cI th g a9 sv z t n dg))) (ws' := ((wS0 xa ad ha ta) ++ ((wT ta cI t (nI n)) ++ ((wHs ha hb cI cO G (nI o) (nI z)) ++ ((wB ad cI g) ++ ((wO oa cJ oj) ++ (wM ma cI th g a9 sv z t n dg))))))) rfl rfl ?_
  refine g_dstore C (lv' := [(5, .double (xLo g)), (0, .ref b), (1, .ref xa), (2, .ref (ma 0)), (3, .ref oa), (4, .int (nI (4 * q)))]) dL_law_1062 (by decide) rfl ?_
  refine g_aload_n C dL_law_1064 3 rfl ?_
  refine g_callVd C (c_X4_looseness l D cI cO ma th g a9 sv z t n dg hI.1 hI.2.2.1 ) gL_law_X4_looseness rfl ⟨rfl, rfl⟩ hd_X4_looseness ⟨Nat.le_of_ble_eq_true rfl, Nat.le_of_ble_eq_true rfl⟩ [0, 1] rfl (fun _ _ => trivial) rfl (rest := []) rfl (Nat.le_of_ble_eq_true rfl) dL_law_1065 ⟨(by show _ ≤ 621006; omega), (by show _ ≤ 7233085; omega)⟩ 0 rfl rfl rfl (pre := ((wS0 xa ad ha ta) ++ ((wT ta cI t (nI n)) ++ ((wHs ha hb cI cO G (nI o) (nI z)) ++ ((wB ad cI g) ++ (wO oa cJ oj)))))) (post := []) (ws' := ((wS0 xa ad ha ta) ++ ((wT ta cI t (nI n)) ++ ((wHs ha hb cI cO G (nI o) (nI z)) ++ ((wB ad cI g) ++ ((wO oa cJ oj) ++ (wM ma cI 0 g a9 sv z t n dg))))))) rfl rfl ?_
  refine g_dstore C (lv' := [(7, .double (yLo9 g)), (5, .double (xLo g)), (0, .ref b), (1, .ref xa), (2, .ref (ma 0)), (3, .ref oa), (4, .int (nI (4 * q)))]) dL_law_1068 (by decide) rfl ?_
  refine g_dload C dL_law_1070 1 rfl ?_
  refine g_dload C dL_law_1072 0 rfl ?_
  refine g_dcmp C (v := Op.cmpValue (FP.dcmp (xLo g) (yLo9 g)) CmpOp.l) dL_law_1074 rfl ?_
  refine g_if_eq C (tgt := 1096) dL_law_1075 (by decide) (fun _ => ?_) (fun h1075_1 => absurd (lLoose hI.2.2.2.1) h1075_1)
  refine g_goto C (tgt := 1113) dL_law_1096 (by decide) ?_
  refine g_lv [2, 3, 4, 5, 6] (lv' := [(0, .ref b), (1, .ref xa), (2, .ref (ma 0)), (3, .ref oa), (4, .int (nI (4 * q)))]) rfl ?_
  refine g_wid (k' := 60 + (q + 1)) (n' := 1010 + 6 * (q + 1)) (by omega) (by omega) ?_
  exact hnext _ _ _ _ _ _ _ _ _ _ _ hI9
theorem hd_X3_digest : yX3_digest.cls = RX3 ∧ yX3_digest.cls ≠ "java/lang/invoke/MethodHandle" ∧ yX3_digest.cls ≠ "java/lang/invoke/VarHandle" ∧ (parseMethodDescriptor yX3_digest.desc).map (fun d => d.parameters.length) = some 0 := by decide +kernel
theorem hd_X4_digest : yX4_digest.cls = RX4 ∧ yX4_digest.cls ≠ "java/lang/invoke/MethodHandle" ∧ yX4_digest.cls ≠ "java/lang/invoke/VarHandle" ∧ (parseMethodDescriptor yX4_digest.desc).map (fun d => d.parameters.length) = some 0 := by decide +kernel
set_option maxHeartbeats 2000000 in
set_option maxRecDepth 100000 in
theorem law_digest {p : Program} {l : Launch} {e : Env} {s : State} {m : MethodId} {below : List Frame} {meth : Method} {c : Code} {D : va_G} {cI cO cJ : ClassId} {b L : Nat} {xs : Nat → Int32} {Q9 : State → Prop} (hl : l.stackTraces = false) (hL : L ≤ 2048) (C : gC p s m (#[.ref b] : Array Value) c cL_law RL wsL_law D vwCl (tyW cI cO cJ) (fun q9 => s.heap.size ≤ q9) s.heap 9) (hF : sF s.vm) (hZ : zF (fun q9 => s.heap.size ≤ q9) s s.heap) (hX : va_X b L xs s s.heap) (hbl : b < s.heap.size) {xa oa : Nat} {ta ha : Nat → Nat} {hb : Nat → Nat → Nat} {ad ma : Nat → Nat} (q : Nat) (hq : 4 * q + 4 ≤ L) (t : Nat → Int32) (n : Nat) (G : Nat → Nat → Int32) (g : Nat → Int32) (o z : Nat) (th : Int32) (a9 sv : Nat → Int32) (dg : Int64) (oj : Nat → Int64) (hI : LI t n G g o z sv) (hnext : (∀ (t : Nat → Int32) (n : Nat) (G : Nat → Nat → Int32) (g : Nat → Int32) (o z : Nat) (th : Int32) (a9 sv : Nat → Int32) (dg : Int64) (oj : Nat → Int64), LI t n G g o z sv → gG p l e room_1 s m (#[.ref b] : Array Value) below meth c D vwCl (fun q9 => s.heap.size ≤ q9) s.heap 9 Q9 (60 + (q + 1)) (1010 + 6 * (q + 1)) ((wS0 xa ad ha ta) ++ ((wT ta cI t (nI n)) ++ ((wHs ha hb cI cO G (nI o) (nI z)) ++ ((wB ad cI g) ++ ((wO oa cJ oj) ++ (wM ma cI th g a9 sv z t n dg)))))) 1113 [(0, .ref b), (1, .ref xa), (2, .ref (ma 0)), (3, .ref oa), (4, .int (nI (4 * q)))] [])) : gG p l e room_1 s m (#[.ref b] : Array Value) below meth c D vwCl (fun q9 => s.heap.size ≤ q9) s.heap 9 Q9 (60 + q) (1010 + 6 * q) ((wS0 xa ad ha ta) ++ ((wT ta cI t (nI n)) ++ ((wHs ha hb cI cO G (nI o) (nI z)) ++ ((wB ad cI g) ++ ((wO oa cJ oj) ++ (wM ma cI th g a9 sv z t n dg)))))) 1099 [(0, .ref b), (1, .ref xa), (2, .ref (ma 0)), (3, .ref oa), (4, .int (nI (4 * q)))] [] := by
  have hI9 : LI t n G g o z sv := hI
  have eR : (xDg t g z n 8 : Int64) = yDg t g z n 8 := eDg hI.2.2.2.1 z n
  refine g_aload_n C dL_law_1099 1 rfl ?_
  refine g_callVl C (c_X3_digest l D cI cO xa ta ha hb ad t n G g o z hI.1 hI.2.1 hI.2.2.1 8 (eBits hI.2.2.2.1).1) gL_law_X3_digest rfl ⟨rfl, rfl⟩ hd_X3_digest ⟨Nat.le_of_ble_eq_true rfl, Nat.le_of_ble_eq_true rfl⟩ [0, 1] rfl (sF_w hF) rfl (rest := []) rfl (Nat.le_of_ble_eq_true rfl) dL_law_1100 ⟨(by show _ ≤ 621006; omega), (by show _ ≤ 7233085; omega)⟩ 0 rfl rfl rfl (pre := []) (post := ((wO oa cJ oj) ++ (wM ma cI th g a9 sv z t n dg))) (ws' := ((wS0 xa ad ha ta) ++ ((wT ta cI t (nI n)) ++ ((wHs ha hb cI cO G (nI o) (nI z)) ++ ((wB ad cI g) ++ ((wO oa cJ oj) ++ (wM ma cI th g a9 sv z t n dg))))))) rfl rfl ?_
  refine g_aload_n C dL_law_1103 2 rfl ?_
  refine g_callVl C (c_X4_digest l D cI cO ma th g a9 sv z t n dg hI.1 hI.2.2.1 8 (by rw [eLo hI.2.2.2.1]; exact (eBits hI.2.2.2.1).2.2.1) (by rw [eLo hI.2.2.2.1]; exact (eBits hI.2.2.2.1).2.1)) gL_law_X4_digest rfl ⟨rfl, rfl⟩ hd_X4_digest ⟨Nat.le_of_ble_eq_true rfl, Nat.le_of_ble_eq_true rfl⟩ [0, 1] rfl (fun _ _ => trivial) rfl (rest := [.long (xDg t g z n 8)]) rfl (Nat.le_of_ble_eq_true rfl) dL_law_1104 ⟨(by show _ ≤ 621006; omega), (by show _ ≤ 7233085; omega)⟩ 0 rfl rfl rfl (pre := ((wS0 xa ad ha ta) ++ ((wT ta cI t (nI n)) ++ ((wHs ha hb cI cO G (nI o) (nI z)) ++ ((wB ad cI g) ++ (wO oa cJ oj)))))) (post := []) (ws' := ((wS0 xa ad ha ta) ++ ((wT ta cI t (nI n)) ++ ((wHs ha hb cI cO G (nI o) (nI z)) ++ ((wB ad cI g) ++ ((wO oa cJ oj) ++ (wM ma cI 0 g g sv z t n (yDg t g z n 8)))))))) rfl rfl ?_
  refine g_lcmp C (v := lg_cmp (xDg t g z n 8) (yDg t g z n 8)) dL_law_1107 rfl ?_
  refine g_if_eq C (tgt := 1113) dL_law_1108 (by decide) (fun _ => ?_) (fun h1108_1 => absurd (lgz eR) h1108_1)
  refine g_wid (k' := 60 + (q + 1)) (n' := 1010 + 6 * (q + 1)) (by omega) (by omega) ?_
  exact hnext _ _ _ _ _ _ _ _ _ _ _ hI9
