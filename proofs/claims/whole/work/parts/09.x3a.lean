/-! ===== the class itself ===== -/
def wS0 (xa : Nat) (ad ha ta : Nat → Nat) : va_W := [(xa, .inr (3, [.ref (ad 0), .ref (ha 0), .ref (ta 0)]))]
theorem ot_xIob : ∀ w ∈ Cond.classLink RX3 210 xIob :: Cond.initialized xIob :: vx_atS RX3 214 xIob xNms, vx_ot w = true := by decide +kernel
theorem bad_xIob : ∀ w ∈ (vx_atS RX3 214 xIob xNms).filter (fun w => !goodWord w), w ∈ [Cond.declares (Bundle.initS "java/lang/RuntimeException"), Cond.declares (Bundle.initS "java/lang/Exception"), Cond.declares (Bundle.initS Bundle.tN), Cond.castable xIob xIob] := by decide +kernel
theorem fit_xIob : Bundle.fit xIob = true := by decide +kernel
theorem ot_xIae : ∀ w ∈ Cond.classLink RX3 101 xIae :: Cond.initialized xIae :: vx_atS RX3 105 xIae xNms, vx_ot w = true := by decide +kernel
theorem bad_xIae : ∀ w ∈ (vx_atS RX3 105 xIae xNms).filter (fun w => !goodWord w), w ∈ [Cond.declares (Bundle.initS "java/lang/RuntimeException"), Cond.declares (Bundle.initS "java/lang/Exception"), Cond.declares (Bundle.initS Bundle.tN), Cond.castable xIae xIae] := by decide +kernel
theorem fit_xIae : Bundle.fit xIae = true := by decide +kernel
theorem ot_xIse : ∀ w ∈ Cond.classLink RX3 42 xIse :: Cond.initialized xIse :: vx_atS RX3 46 xIse xNms, vx_ot w = true := by decide +kernel
theorem bad_xIse : ∀ w ∈ (vx_atS RX3 46 xIse xNms).filter (fun w => !goodWord w), w ∈ [Cond.declares (Bundle.initS "java/lang/RuntimeException"), Cond.declares (Bundle.initS "java/lang/Exception"), Cond.declares (Bundle.initS Bundle.tN), Cond.castable xIse xIse] := by decide +kernel
theorem fit_xIse : Bundle.fit xIse = true := by decide +kernel
theorem c0_X0_change (l : Launch) (D : va_G) (cI cO : ClassId) (ad : Nat → Nat) (g : Nat → Int32) (r : Nat) (hr : r < 9) (n9 : Int32) : cR (fun _ => True) l yX0_change wsX0_change rmX0_change D vwCl (tyA cI cO) [.ref (ad 0), .int (nI r), .int n9, .int 0] (wB ad cI g) (some (.int (xCh g r n9 0).1)) (wB ad cI g) := by
  have h := c_X0_change l D cI cO ad g r hr n9 0
  rw [xCh_0] at h
  exact h
theorem c0_X0_turn (l : Launch) (D : va_G) (cI cO : ClassId) (ad : Nat → Nat) (g : Nat → Int32) (r : Nat) (hr : r < 9) (v : Int32) : cR (fun _ => True) l yX0_turn wsX0_turn rmX0_turn D vwCl (tyA cI cO) [.ref (ad 0), .int (nI r), .int v, .int 0] (wB ad cI g) (some (.int (xTv g r v))) (wB ad cI g) := by
  have h := c_X0_turn l D cI cO ad g r hr v 0
  rw [xTn_0] at h
  exact h
abbrev rmX3_checkRod : Room := { frames := 0, cells := 0, slots := 0, locals := 0 }
set_option maxHeartbeats 4000000 in
set_option maxRecDepth 100000 in
theorem c_X3_checkRod (l : Launch) (D : va_G) (cI cO : ClassId) (r : Nat) (hr : r < 9)  : cR (fun _ => True) l yX3_checkRod wsX3_checkRod rmX3_checkRod D vwCl (tyA cI cO) [.int (nI r)] ([] : va_W) none ([] : va_W) := by
  refine cR_of (cc := cX3_checkRod) (maxL := 1) (ret := none) (by decide) rfl (Nat.le_of_ble_eq_true rfl) ?_
  intro p e s m below meth c A C hret hlk hnm hF
  refine g_lv [0] (lv' := [(0, .int (nI r))]) rfl ?_
  refine g_iload_n C dX3_checkRod_0 0 rfl ?_
  refine g_if_lt C (tgt := 10) dX3_checkRod_1 (by decide) (fun h1_1 => absurd h1_1 (nI_pos (by omega))) (fun _ => ?_)
  refine g_iload_n C dX3_checkRod_4 0 rfl ?_
  refine g_bipush C (v := 9) dX3_checkRod_5 cb_9 ?_
  refine g_icmp_lt C (tgt := 20) dX3_checkRod_7 (by decide) (fun _ => ?_) (fun h7_2 => absurd (nI_lt (b := 9) hr (by decide)) h7_2)
  exact g_vret C hret hlk dX3_checkRod_20 rfl
abbrev rmX3_checkRange : Room := { frames := 0, cells := 0, slots := 0, locals := 0 }
set_option maxHeartbeats 4000000 in
set_option maxRecDepth 100000 in
theorem c_X3_checkRange (l : Launch) (D : va_G) (cI cO : ClassId) (v lo hi : Int32) (h1 : ¬ v < lo) (h2 : v ≤ hi)  : cR (fun _ => True) l yX3_checkRange wsX3_checkRange rmX3_checkRange D vwCl (tyA cI cO) [.int v, .int lo, .int hi] ([] : va_W) none ([] : va_W) := by
  refine cR_of (cc := cX3_checkRange) (maxL := 3) (ret := none) (by decide) rfl (Nat.le_of_ble_eq_true rfl) ?_
  intro p e s m below meth c A C hret hlk hnm hF
  refine g_lv [0, 1, 2] (lv' := [(0, .int v), (1, .int lo), (2, .int hi)]) rfl ?_
  refine g_iload_n C dX3_checkRange_0 0 rfl ?_
  refine g_iload_n C dX3_checkRange_1 1 rfl ?_
  refine g_icmp_lt C (tgt := 10) dX3_checkRange_2 (by decide) (fun h2_1 => absurd h2_1 h1) (fun _ => ?_)
  refine g_iload_n C dX3_checkRange_5 0 rfl ?_
  refine g_iload_n C dX3_checkRange_6 2 rfl ?_
  refine g_icmp_le C (tgt := 20) dX3_checkRange_7 (by decide) (fun _ => ?_) (fun h7_2 => absurd h2 h7_2)
  exact g_vret C hret hlk dX3_checkRange_20 rfl
theorem fw_X3_mixed_const219 : Cond.constantLong RX3 219 (31) ∈ wsX3_mixed := (List.mem_cons_of_mem _ (List.mem_of_getElem? (i := 0) rfl))
abbrev rmX3_mixed : Room := { frames := 0, cells := 0, slots := 0, locals := 0 }
set_option maxHeartbeats 4000000 in
set_option maxRecDepth 100000 in
theorem c_X3_mixed (l : Launch) (D : va_G) (cI cO : ClassId) (h v : Int64)  : cR (fun _ => True) l yX3_mixed wsX3_mixed rmX3_mixed D vwCl (tyA cI cO) [.long h, .long v] ([] : va_W) (some (.long (31 * h + v))) ([] : va_W) := by
  refine cR_of (cc := cX3_mixed) (maxL := 4) (ret := (some .long)) (by decide) rfl (Nat.le_of_ble_eq_true rfl) ?_
  intro p e s m below meth c A C hret hlk hnm hF
  refine g_lv [0, 1] (lv' := [(0, .long h), (2, .long v)]) rfl ?_
  refine g_ldc2 C (v := 31) dX3_mixed_0 fw_X3_mixed_const219 ?_
  refine g_lload_n C dX3_mixed_3 0 rfl ?_
  refine g_lmul C (v := 31 * h) dX3_mixed_4 rfl ?_
  refine g_lload_n C dX3_mixed_5 1 rfl ?_
  refine g_ladd C (v := (31 * h) + v) dX3_mixed_6 rfl ?_
  exact g_lret C hret hlk dX3_mixed_7 rfl rfl
theorem fw_X3_checkRod_clIndexOutOfBoundsException : Cond.classLink RX3 210 "java/lang/IndexOutOfBoundsException" ∈ wsX3_checkRod := (List.mem_cons_of_mem _ (List.mem_append_left _ (List.mem_of_getElem? (i := 0) rfl)))
theorem fw_X3_checkRod_iniIndexOutOfBoundsException : Cond.initialized "java/lang/IndexOutOfBoundsException" ∈ wsX3_checkRod := (List.mem_cons_of_mem _ (List.mem_append_left _ (List.mem_of_getElem? (i := 1) rfl)))
theorem fx_X3_checkRod_IndexOutOfBoundsException : ∀ w ∈ (vx_atS RX3 214 xIob xNms).filter goodWord, w ∈ wsX3_checkRod := fun _ h => List.mem_cons_of_mem _ (List.mem_append_right _ h)
abbrev rmTX3_checkRod : Room := { frames := 6, cells := 1, slots := 6, locals := 82 }
set_option maxHeartbeats 4000000 in
set_option maxRecDepth 100000 in
theorem t_X3_checkRod (l : Launch) (hl : l.stackTraces = false) (D : va_G) (cI cO : ClassId) (v : Int32) (h : v < 0 ∨ ¬ v < 9) : cT sF l yX3_checkRod wsX3_checkRod rmTX3_checkRod D vwCl (tyA cI cO) [.int v] ([] : va_W) xIob := by
  refine cT_of (cc := cX3_checkRod) (maxL := 1) (ret := none) (by decide) rfl (Nat.le_of_ble_eq_true rfl) ?_
  intro p e s m below meth c A C hlk hF hne hZ
  refine g_lv [0] (lv' := [(0, .int v)]) rfl ?_
  refine g_iload_n C dX3_checkRod_0 0 rfl ?_
  refine g_if_lt C (tgt := 10) dX3_checkRod_1 (by decide) (fun h1_1 => ?_) (fun h1_1 => ?_)
  · exact g_throw (XN := xIob) (tx := "there is no such rod") C hl hF hZ hne hlk (by decide) (by decide) fw_X3_checkRod_clIndexOutOfBoundsException fw_X3_checkRod_iniIndexOutOfBoundsException fx_X3_checkRod_IndexOutOfBoundsException ot_xIob bad_xIob fit_xIob dX3_checkRod_10 dX3_checkRod_13 dX3_checkRod_14 dX3_checkRod_16 dX3_checkRod_19 (Nat.le_of_ble_eq_true rfl) (Nat.le_of_ble_eq_true rfl) (Nat.le_of_ble_eq_true rfl) (Nat.le_of_ble_eq_true rfl) (Nat.le_refl _) (Nat.le_refl _)
  · refine g_iload_n C dX3_checkRod_4 0 rfl ?_
    refine g_bipush C (v := 9) dX3_checkRod_5 cb_9 ?_
    refine g_icmp_lt C (tgt := 20) dX3_checkRod_7 (by decide) (fun h7_2 => absurd h7_2 (h.resolve_left h1_1)) (fun _ => ?_)
    exact g_throw (XN := xIob) (tx := "there is no such rod") C hl hF hZ hne hlk (by decide) (by decide) fw_X3_checkRod_clIndexOutOfBoundsException fw_X3_checkRod_iniIndexOutOfBoundsException fx_X3_checkRod_IndexOutOfBoundsException ot_xIob bad_xIob fit_xIob dX3_checkRod_10 dX3_checkRod_13 dX3_checkRod_14 dX3_checkRod_16 dX3_checkRod_19 (Nat.le_of_ble_eq_true rfl) (Nat.le_of_ble_eq_true rfl) (Nat.le_of_ble_eq_true rfl) (Nat.le_of_ble_eq_true rfl) (Nat.le_refl _) (Nat.le_refl _)
theorem fw_X3_checkRange_clIllegalArgumentException : Cond.classLink RX3 101 "java/lang/IllegalArgumentException" ∈ wsX3_checkRange := (List.mem_cons_of_mem _ (List.mem_append_left _ (List.mem_of_getElem? (i := 0) rfl)))
theorem fw_X3_checkRange_iniIllegalArgumentException : Cond.initialized "java/lang/IllegalArgumentException" ∈ wsX3_checkRange := (List.mem_cons_of_mem _ (List.mem_append_left _ (List.mem_of_getElem? (i := 1) rfl)))
theorem fx_X3_checkRange_IllegalArgumentException : ∀ w ∈ (vx_atS RX3 105 xIae xNms).filter goodWord, w ∈ wsX3_checkRange := fun _ h => List.mem_cons_of_mem _ (List.mem_append_right _ h)
abbrev rmTX3_checkRange : Room := { frames := 6, cells := 1, slots := 6, locals := 82 }
set_option maxHeartbeats 4000000 in
set_option maxRecDepth 100000 in
theorem t_X3_checkRange (l : Launch) (hl : l.stackTraces = false) (D : va_G) (cI cO : ClassId) (v lo hi : Int32) (h : v < lo ∨ ¬ v ≤ hi) : cT sF l yX3_checkRange wsX3_checkRange rmTX3_checkRange D vwCl (tyA cI cO) [.int v, .int lo, .int hi] ([] : va_W) xIae := by
  refine cT_of (cc := cX3_checkRange) (maxL := 3) (ret := none) (by decide) rfl (Nat.le_of_ble_eq_true rfl) ?_
  intro p e s m below meth c A C hlk hF hne hZ
  refine g_lv [0, 1, 2] (lv' := [(0, .int v), (1, .int lo), (2, .int hi)]) rfl ?_
  refine g_iload_n C dX3_checkRange_0 0 rfl ?_
  refine g_iload_n C dX3_checkRange_1 1 rfl ?_
  refine g_icmp_lt C (tgt := 10) dX3_checkRange_2 (by decide) (fun h2_1 => ?_) (fun h2_1 => ?_)
  · exact g_throw (XN := xIae) (tx := "out of range") C hl hF hZ hne hlk (by decide) (by decide) fw_X3_checkRange_clIllegalArgumentException fw_X3_checkRange_iniIllegalArgumentException fx_X3_checkRange_IllegalArgumentException ot_xIae bad_xIae fit_xIae dX3_checkRange_10 dX3_checkRange_13 dX3_checkRange_14 dX3_checkRange_16 dX3_checkRange_19 (Nat.le_of_ble_eq_true rfl) (Nat.le_of_ble_eq_true rfl) (Nat.le_of_ble_eq_true rfl) (Nat.le_of_ble_eq_true rfl) (Nat.le_refl _) (Nat.le_refl _)
  · refine g_iload_n C dX3_checkRange_5 0 rfl ?_
    refine g_iload_n C dX3_checkRange_6 2 rfl ?_
    refine g_icmp_le C (tgt := 20) dX3_checkRange_7 (by decide) (fun h7_2 => absurd h7_2 (h.resolve_left h2_1)) (fun _ => ?_)
    exact g_throw (XN := xIae) (tx := "out of range") C hl hF hZ hne hlk (by decide) (by decide) fw_X3_checkRange_clIllegalArgumentException fw_X3_checkRange_iniIllegalArgumentException fx_X3_checkRange_IllegalArgumentException ot_xIae bad_xIae fit_xIae dX3_checkRange_10 dX3_checkRange_13 dX3_checkRange_14 dX3_checkRange_16 dX3_checkRange_19 (Nat.le_of_ble_eq_true rfl) (Nat.le_of_ble_eq_true rfl) (Nat.le_of_ble_eq_true rfl) (Nat.le_of_ble_eq_true rfl) (Nat.le_refl _) (Nat.le_refl _)
theorem hd_X3_checkRod : yX3_checkRod.cls ≠ "java/lang/invoke/MethodHandle" ∧ yX3_checkRod.cls ≠ "java/lang/invoke/VarHandle" ∧ (parseMethodDescriptor yX3_checkRod.desc).map (fun d => d.parameters.length) = some 1 := by decide +kernel
theorem hd_X3_checkRange : yX3_checkRange.cls ≠ "java/lang/invoke/MethodHandle" ∧ yX3_checkRange.cls ≠ "java/lang/invoke/VarHandle" ∧ (parseMethodDescriptor yX3_checkRange.desc).map (fun d => d.parameters.length) = some 3 := by decide +kernel
theorem fw_X3_move_fld12 : Cond.fieldLink RX3 12 "StuckRods" "board" "LStuckRods$Board;" ∈ wsX3_move := (List.mem_cons_of_mem _ (List.mem_append_left _ (List.mem_append_left _ (List.mem_append_left _ (List.mem_append_left _ (List.mem_append_left _ (List.mem_append_left _ (List.mem_append_left _ (List.mem_of_getElem? (i := 2) rfl)))))))))
theorem fl_X3_move_X3 : ∀ w ∈ wsX30, w ∈ wsX3_move := fun _ h => List.mem_cons_of_mem _ (List.mem_append_left _ (List.mem_append_left _ (List.mem_append_left _ (List.mem_append_left _ (List.mem_append_left _ (List.mem_append_right _ h))))))
theorem fw_X3_move_fld19 : Cond.fieldLink RX3 19 "StuckRods" "history" "LStuckRods$History;" ∈ wsX3_move := (List.mem_cons_of_mem _ (List.mem_append_left _ (List.mem_append_left _ (List.mem_append_left _ (List.mem_append_left _ (List.mem_append_left _ (List.mem_append_left _ (List.mem_append_left _ (List.mem_of_getElem? (i := 3) rfl)))))))))
theorem hd_X1_keep : yX1_keep.cls = RX1 ∧ yX1_keep.cls ≠ "java/lang/invoke/MethodHandle" ∧ yX1_keep.cls ≠ "java/lang/invoke/VarHandle" ∧ (parseMethodDescriptor yX1_keep.desc).map (fun d => d.parameters.length) = some 1 := by decide +kernel
abbrev rmX3_move : Room := { frames := 2, cells := 0, slots := 0, locals := 46 }
set_option maxHeartbeats 4000000 in
set_option maxRecDepth 100000 in
theorem c_X3_move (l : Launch) (D : va_G) (cI cO : ClassId) (xa : Nat) (ta ha : Nat → Nat) (hb : Nat → Nat → Nat) (ad : Nat → Nat) (t : Nat → Int32) (n : Nat) (G : Nat → Nat → Int32) (g : Nat → Int32) (o z : Nat) (hn : n ≤ 60) (ho : o < 6) (hz : z ≤ 6) (r : Nat) (hr : r < 9) (f q9 : Int32) (h1 : ¬ f < 0) (h2 : f ≤ 2) (h3 : ¬ q9 < 0) (h4 : q9 ≤ 5) (hm : ¬ xMb g r f q9 = -1) : cR sF l yX3_move wsX3_move rmX3_move D vwCl (tyA cI cO) [.ref xa, .int (nI r), .int f, .int q9] ((wS0 xa ad ha ta) ++ ((wT ta cI t (nI n)) ++ ((wHs ha hb cI cO G (nI o) (nI z)) ++ (wB ad cI g)))) (some (.int (xMb g r f q9))) ((wS0 xa ad ha ta) ++ ((wT ta cI t (nI n)) ++ ((wHs ha hb cI cO (kG G o z g) (nI (kO o z)) (nI (kM z + 1))) ++ (wB ad cI (xPl g r f q9 (xMb g r f q9)))))) := by
  refine cR_of (cc := cX3_move) (maxL := 5) (ret := (some .int)) (by decide) rfl (Nat.le_of_ble_eq_true rfl) ?_
  intro p e s m below meth c A C hret hlk hnm hF
  refine g_lv [0, 1, 2, 3] (lv' := [(0, .ref xa), (1, .int (nI r)), (2, .int f), (3, .int q9)]) rfl ?_
  refine g_iload_n C dX3_move_0 1 rfl ?_
  refine g_callSv C (c_X3_checkRod l D cI cO r hr) gX3_move_X3_checkRod rfl ⟨rfl, rfl⟩ hd_X3_checkRod ⟨Nat.le_of_ble_eq_true rfl, Nat.le_of_ble_eq_true rfl⟩ [0, 1] rfl (fun _ _ => trivial) rfl (rest := []) rfl (Nat.le_of_ble_eq_true rfl) dX3_move_1 ⟨Nat.zero_le _, Nat.zero_le _⟩ (pre := []) (post := ((wS0 xa ad ha ta) ++ ((wT ta cI t (nI n)) ++ ((wHs ha hb cI cO G (nI o) (nI z)) ++ (wB ad cI g))))) (ws' := ((wS0 xa ad ha ta) ++ ((wT ta cI t (nI n)) ++ ((wHs ha hb cI cO G (nI o) (nI z)) ++ (wB ad cI g))))) rfl rfl ?_
  refine g_iload_n C dX3_move_4 2 rfl ?_
  refine g_iconst C (v := 0) dX3_move_5 ci_0 ?_
  refine g_iconst C (v := 2) dX3_move_6 ci_2 ?_
  refine g_callSv C (c_X3_checkRange l D cI cO f 0 2 h1 h2) gX3_move_X3_checkRange rfl ⟨rfl, rfl⟩ hd_X3_checkRange ⟨Nat.le_of_ble_eq_true rfl, Nat.le_of_ble_eq_true rfl⟩ [0, 1] rfl (fun _ _ => trivial) rfl (rest := []) rfl (Nat.le_of_ble_eq_true rfl) dX3_move_7 ⟨Nat.zero_le _, Nat.zero_le _⟩ (pre := []) (post := ((wS0 xa ad ha ta) ++ ((wT ta cI t (nI n)) ++ ((wHs ha hb cI cO G (nI o) (nI z)) ++ (wB ad cI g))))) (ws' := ((wS0 xa ad ha ta) ++ ((wT ta cI t (nI n)) ++ ((wHs ha hb cI cO G (nI o) (nI z)) ++ (wB ad cI g))))) rfl rfl ?_
  refine g_iload_n C dX3_move_10 3 rfl ?_
  refine g_iconst C (v := 0) dX3_move_11 ci_0 ?_
  refine g_iconst C (v := 5) dX3_move_12 ci_5 ?_
  refine g_callSv C (c_X3_checkRange l D cI cO q9 0 5 h3 h4) gX3_move_X3_checkRange rfl ⟨rfl, rfl⟩ hd_X3_checkRange ⟨Nat.le_of_ble_eq_true rfl, Nat.le_of_ble_eq_true rfl⟩ [0, 1] rfl (fun _ _ => trivial) rfl (rest := []) rfl (Nat.le_of_ble_eq_true rfl) dX3_move_13 ⟨Nat.zero_le _, Nat.zero_le _⟩ (pre := []) (post := ((wS0 xa ad ha ta) ++ ((wT ta cI t (nI n)) ++ ((wHs ha hb cI cO G (nI o) (nI z)) ++ (wB ad cI g))))) (ws' := ((wS0 xa ad ha ta) ++ ((wT ta cI t (nI n)) ++ ((wHs ha hb cI cO G (nI o) (nI z)) ++ (wB ad cI g))))) rfl rfl ?_
  refine g_aload_n C dX3_move_16 0 rfl ?_
  refine g_get C (v := .ref (ad 0)) fl_X3_move_X3 0 rfl rfl 0 (by decide) fw_X3_move_fld12 rfl dX3_move_17 ?_
  refine g_iload_n C dX3_move_20 1 rfl ?_
  refine g_iload_n C dX3_move_21 2 rfl ?_
  refine g_iload_n C dX3_move_22 3 rfl ?_
  refine g_callVi C (c_X0_movesBy l D cI cO ad g r hr f q9) gX3_move_X0_movesBy rfl ⟨rfl, rfl⟩ hd_X0_movesBy ⟨Nat.le_of_ble_eq_true rfl, Nat.le_of_ble_eq_true rfl⟩ [0, 1] rfl (fun _ _ => trivial) rfl (rest := []) rfl (Nat.le_of_ble_eq_true rfl) dX3_move_23 ⟨Nat.zero_le _, Nat.zero_le _⟩ 0 rfl rfl rfl (pre := ((wS0 xa ad ha ta) ++ ((wT ta cI t (nI n)) ++ (wHs ha hb cI cO G (nI o) (nI z))))) (post := []) (ws' := ((wS0 xa ad ha ta) ++ ((wT ta cI t (nI n)) ++ ((wHs ha hb cI cO G (nI o) (nI z)) ++ (wB ad cI g))))) rfl rfl ?_
  refine g_istore C (lv' := [(4, .int (xMb g r f q9)), (0, .ref xa), (1, .int (nI r)), (2, .int f), (3, .int q9)]) dX3_move_26 (by decide) rfl ?_
  refine g_iload C dX3_move_28 0 rfl ?_
  refine g_iconst C (v := -1) dX3_move_30 ci_m1 ?_
  refine g_icmp_ne C (tgt := 44) dX3_move_31 (by decide) (fun _ => ?_) (fun h31_1 => absurd h31_1 hm)
  refine g_aload_n C dX3_move_44 1 rfl ?_
  refine g_get C (v := .ref (ha 0)) fl_X3_move_X3 0 rfl rfl 1 (by decide) fw_X3_move_fld19 rfl dX3_move_45 ?_
  refine g_aload_n C dX3_move_48 1 rfl ?_
  refine g_get C (v := .ref (ad 0)) fl_X3_move_X3 0 rfl rfl 0 (by decide) fw_X3_move_fld12 rfl dX3_move_49 ?_
  refine g_callVv C (c_X1_keep l D cI cO ha hb ad G g o z ho hz) gX3_move_X1_keep rfl ⟨rfl, rfl⟩ hd_X1_keep ⟨Nat.le_of_ble_eq_true rfl, Nat.le_of_ble_eq_true rfl⟩ [0, 1] rfl (fun _ _ => trivial) rfl (rest := []) rfl (Nat.le_of_ble_eq_true rfl) dX3_move_52 ⟨Nat.zero_le _, Nat.zero_le _⟩ 0 rfl rfl rfl (pre := ((wS0 xa ad ha ta) ++ (wT ta cI t (nI n)))) (post := []) (ws' := ((wS0 xa ad ha ta) ++ ((wT ta cI t (nI n)) ++ ((wHs ha hb cI cO (kG G o z g) (nI (kO o z)) (nI (kM z + 1))) ++ (wB ad cI g))))) rfl rfl ?_
  refine g_aload_n C dX3_move_55 1 rfl ?_
  refine g_get C (v := .ref (ad 0)) fl_X3_move_X3 0 rfl rfl 0 (by decide) fw_X3_move_fld12 rfl dX3_move_56 ?_
  refine g_iload_n C dX3_move_59 2 rfl ?_
  refine g_iload_n C dX3_move_60 3 rfl ?_
  refine g_iload_n C dX3_move_61 4 rfl ?_
  refine g_iload C dX3_move_62 0 rfl ?_
  refine g_callVv C (c_X0_place l D cI cO ad g r hr f q9 (xMb g r f q9)) gX3_move_X0_place rfl ⟨rfl, rfl⟩ hd_X0_place ⟨Nat.le_of_ble_eq_true rfl, Nat.le_of_ble_eq_true rfl⟩ [0, 1] rfl (fun _ _ => trivial) rfl (rest := []) rfl (Nat.le_of_ble_eq_true rfl) dX3_move_64 ⟨Nat.zero_le _, Nat.zero_le _⟩ 0 rfl rfl rfl (pre := ((wS0 xa ad ha ta) ++ ((wT ta cI t (nI n)) ++ (wHs ha hb cI cO (kG G o z g) (nI (kO o z)) (nI (kM z + 1)))))) (post := []) (ws' := ((wS0 xa ad ha ta) ++ ((wT ta cI t (nI n)) ++ ((wHs ha hb cI cO (kG G o z g) (nI (kO o z)) (nI (kM z + 1))) ++ (wB ad cI (xPl g r f q9 (xMb g r f q9))))))) rfl rfl ?_
  refine g_iload C dX3_move_67 0 rfl ?_
  exact g_iret C hret hlk dX3_move_69 rfl rfl
abbrev rmTX3_move_1 : Room := { frames := 7, cells := 1, slots := 6, locals := 102 }
set_option maxHeartbeats 4000000 in
set_option maxRecDepth 100000 in
theorem t_X3_move_1 (l : Launch) (hl : l.stackTraces = false) (D : va_G) (cI cO : ClassId) (xa : Nat) (ta ha : Nat → Nat) (hb : Nat → Nat → Nat) (ad : Nat → Nat) (t : Nat → Int32) (n : Nat) (G : Nat → Nat → Int32) (g : Nat → Int32) (o z : Nat) (hn : n ≤ 60) (ho : o < 6) (hz : z ≤ 6) (v f q9 : Int32) (h : v < 0 ∨ ¬ v < 9) : cT sF l yX3_move wsX3_move rmTX3_move_1 D vwCl (tyA cI cO) [.ref xa, .int v, .int f, .int q9] ((wS0 xa ad ha ta) ++ ((wT ta cI t (nI n)) ++ ((wHs ha hb cI cO G (nI o) (nI z)) ++ (wB ad cI g)))) xIob := by
  refine cT_of (cc := cX3_move) (maxL := 5) (ret := (some .int)) (by decide) rfl (Nat.le_of_ble_eq_true rfl) ?_
  intro p e s m below meth c A C hlk hF hne hZ
  refine g_lv [0, 1, 2, 3] (lv' := [(0, .ref xa), (1, .int v), (2, .int f), (3, .int q9)]) rfl ?_
  refine g_iload_n C dX3_move_0 1 rfl ?_
  refine g_callST C hZ (t_X3_checkRod l hl D cI cO v h) gX3_move_X3_checkRod rfl ⟨rfl, rfl⟩ hd_X3_checkRod ⟨Nat.le_of_ble_eq_true rfl, Nat.le_of_ble_eq_true rfl⟩ [0, 1] rfl (sF_w hF) rfl (rest := []) rfl (Nat.le_of_ble_eq_true rfl) dX3_move_1 ⟨Nat.le_of_ble_eq_true rfl, Nat.le_of_ble_eq_true rfl⟩ (pre := []) (post := ((wS0 xa ad ha ta) ++ ((wT ta cI t (nI n)) ++ ((wHs ha hb cI cO G (nI o) (nI z)) ++ (wB ad cI g))))) rfl ?_
  exact g_out C hne hlk (Nat.le_refl _) (Nat.le_refl _)
abbrev rmTX3_move_2 : Room := { frames := 7, cells := 1, slots := 6, locals := 104 }
set_option maxHeartbeats 4000000 in
set_option maxRecDepth 100000 in
theorem t_X3_move_2 (l : Launch) (hl : l.stackTraces = false) (D : va_G) (cI cO : ClassId) (xa : Nat) (ta ha : Nat → Nat) (hb : Nat → Nat → Nat) (ad : Nat → Nat) (t : Nat → Int32) (n : Nat) (G : Nat → Nat → Int32) (g : Nat → Int32) (o z : Nat) (hn : n ≤ 60) (ho : o < 6) (hz : z ≤ 6) (r : Nat) (hr : r < 9) (f q9 : Int32) (h : f < 0 ∨ ¬ f ≤ 2) : cT sF l yX3_move wsX3_move rmTX3_move_2 D vwCl (tyA cI cO) [.ref xa, .int (nI r), .int f, .int q9] ((wS0 xa ad ha ta) ++ ((wT ta cI t (nI n)) ++ ((wHs ha hb cI cO G (nI o) (nI z)) ++ (wB ad cI g)))) xIae := by
  refine cT_of (cc := cX3_move) (maxL := 5) (ret := (some .int)) (by decide) rfl (Nat.le_of_ble_eq_true rfl) ?_
  intro p e s m below meth c A C hlk hF hne hZ
  refine g_lv [0, 1, 2, 3] (lv' := [(0, .ref xa), (1, .int (nI r)), (2, .int f), (3, .int q9)]) rfl ?_
  refine g_iload_n C dX3_move_0 1 rfl ?_
  refine g_callSv C (c_X3_checkRod l D cI cO r hr) gX3_move_X3_checkRod rfl ⟨rfl, rfl⟩ hd_X3_checkRod ⟨Nat.le_of_ble_eq_true rfl, Nat.le_of_ble_eq_true rfl⟩ [0, 1] rfl (fun _ _ => trivial) rfl (rest := []) rfl (Nat.le_of_ble_eq_true rfl) dX3_move_1 ⟨Nat.zero_le _, Nat.zero_le _⟩ (pre := []) (post := ((wS0 xa ad ha ta) ++ ((wT ta cI t (nI n)) ++ ((wHs ha hb cI cO G (nI o) (nI z)) ++ (wB ad cI g))))) (ws' := ((wS0 xa ad ha ta) ++ ((wT ta cI t (nI n)) ++ ((wHs ha hb cI cO G (nI o) (nI z)) ++ (wB ad cI g))))) rfl rfl ?_
  refine g_iload_n C dX3_move_4 2 rfl ?_
  refine g_iconst C (v := 0) dX3_move_5 ci_0 ?_
  refine g_iconst C (v := 2) dX3_move_6 ci_2 ?_
  refine g_callST C hZ (t_X3_checkRange l hl D cI cO f 0 2 h) gX3_move_X3_checkRange rfl ⟨rfl, rfl⟩ hd_X3_checkRange ⟨Nat.le_of_ble_eq_true rfl, Nat.le_of_ble_eq_true rfl⟩ [0, 1] rfl (sF_w hF) rfl (rest := []) rfl (Nat.le_of_ble_eq_true rfl) dX3_move_7 ⟨Nat.le_of_ble_eq_true rfl, Nat.le_of_ble_eq_true rfl⟩ (pre := []) (post := ((wS0 xa ad ha ta) ++ ((wT ta cI t (nI n)) ++ ((wHs ha hb cI cO G (nI o) (nI z)) ++ (wB ad cI g))))) rfl ?_
  exact g_out C hne hlk (Nat.le_refl _) (Nat.le_refl _)
abbrev rmTX3_move_3 : Room := { frames := 7, cells := 1, slots := 6, locals := 104 }
set_option maxHeartbeats 4000000 in
set_option maxRecDepth 100000 in
theorem t_X3_move_3 (l : Launch) (hl : l.stackTraces = false) (D : va_G) (cI cO : ClassId) (xa : Nat) (ta ha : Nat → Nat) (hb : Nat → Nat → Nat) (ad : Nat → Nat) (t : Nat → Int32) (n : Nat) (G : Nat → Nat → Int32) (g : Nat → Int32) (o z : Nat) (hn : n ≤ 60) (ho : o < 6) (hz : z ≤ 6) (r : Nat) (hr : r < 9) (f q9 : Int32) (h1 : ¬ f < 0) (h2 : f ≤ 2) (h : q9 < 0 ∨ ¬ q9 ≤ 5) : cT sF l yX3_move wsX3_move rmTX3_move_3 D vwCl (tyA cI cO) [.ref xa, .int (nI r), .int f, .int q9] ((wS0 xa ad ha ta) ++ ((wT ta cI t (nI n)) ++ ((wHs ha hb cI cO G (nI o) (nI z)) ++ (wB ad cI g)))) xIae := by
  refine cT_of (cc := cX3_move) (maxL := 5) (ret := (some .int)) (by decide) rfl (Nat.le_of_ble_eq_true rfl) ?_
  intro p e s m below meth c A C hlk hF hne hZ
  refine g_lv [0, 1, 2, 3] (lv' := [(0, .ref xa), (1, .int (nI r)), (2, .int f), (3, .int q9)]) rfl ?_
  refine g_iload_n C dX3_move_0 1 rfl ?_
  refine g_callSv C (c_X3_checkRod l D cI cO r hr) gX3_move_X3_checkRod rfl ⟨rfl, rfl⟩ hd_X3_checkRod ⟨Nat.le_of_ble_eq_true rfl, Nat.le_of_ble_eq_true rfl⟩ [0, 1] rfl (fun _ _ => trivial) rfl (rest := []) rfl (Nat.le_of_ble_eq_true rfl) dX3_move_1 ⟨Nat.zero_le _, Nat.zero_le _⟩ (pre := []) (post := ((wS0 xa ad ha ta) ++ ((wT ta cI t (nI n)) ++ ((wHs ha hb cI cO G (nI o) (nI z)) ++ (wB ad cI g))))) (ws' := ((wS0 xa ad ha ta) ++ ((wT ta cI t (nI n)) ++ ((wHs ha hb cI cO G (nI o) (nI z)) ++ (wB ad cI g))))) rfl rfl ?_
  refine g_iload_n C dX3_move_4 2 rfl ?_
  refine g_iconst C (v := 0) dX3_move_5 ci_0 ?_
  refine g_iconst C (v := 2) dX3_move_6 ci_2 ?_
  refine g_callSv C (c_X3_checkRange l D cI cO f 0 2 h1 h2) gX3_move_X3_checkRange rfl ⟨rfl, rfl⟩ hd_X3_checkRange ⟨Nat.le_of_ble_eq_true rfl, Nat.le_of_ble_eq_true rfl⟩ [0, 1] rfl (fun _ _ => trivial) rfl (rest := []) rfl (Nat.le_of_ble_eq_true rfl) dX3_move_7 ⟨Nat.zero_le _, Nat.zero_le _⟩ (pre := []) (post := ((wS0 xa ad ha ta) ++ ((wT ta cI t (nI n)) ++ ((wHs ha hb cI cO G (nI o) (nI z)) ++ (wB ad cI g))))) (ws' := ((wS0 xa ad ha ta) ++ ((wT ta cI t (nI n)) ++ ((wHs ha hb cI cO G (nI o) (nI z)) ++ (wB ad cI g))))) rfl rfl ?_
  refine g_iload_n C dX3_move_10 3 rfl ?_
  refine g_iconst C (v := 0) dX3_move_11 ci_0 ?_
  refine g_iconst C (v := 5) dX3_move_12 ci_5 ?_
  refine g_callST C hZ (t_X3_checkRange l hl D cI cO q9 0 5 h) gX3_move_X3_checkRange rfl ⟨rfl, rfl⟩ hd_X3_checkRange ⟨Nat.le_of_ble_eq_true rfl, Nat.le_of_ble_eq_true rfl⟩ [0, 1] rfl (sF_w hF) rfl (rest := []) rfl (Nat.le_of_ble_eq_true rfl) dX3_move_13 ⟨Nat.le_of_ble_eq_true rfl, Nat.le_of_ble_eq_true rfl⟩ (pre := []) (post := ((wS0 xa ad ha ta) ++ ((wT ta cI t (nI n)) ++ ((wHs ha hb cI cO G (nI o) (nI z)) ++ (wB ad cI g))))) rfl ?_
  exact g_out C hne hlk (Nat.le_refl _) (Nat.le_refl _)
theorem fw_X3_move_clIllegalStateException : Cond.classLink RX3 42 "java/lang/IllegalStateException" ∈ wsX3_move := (List.mem_cons_of_mem _ (List.mem_append_left _ (List.mem_append_left _ (List.mem_append_left _ (List.mem_append_left _ (List.mem_append_left _ (List.mem_append_left _ (List.mem_append_left _ (List.mem_of_getElem? (i := 0) rfl)))))))))
theorem fw_X3_move_iniIllegalStateException : Cond.initialized "java/lang/IllegalStateException" ∈ wsX3_move := (List.mem_cons_of_mem _ (List.mem_append_left _ (List.mem_append_left _ (List.mem_append_left _ (List.mem_append_left _ (List.mem_append_left _ (List.mem_append_left _ (List.mem_append_left _ (List.mem_of_getElem? (i := 1) rfl)))))))))
theorem fx_X3_move_IllegalStateException : ∀ w ∈ (vx_atS RX3 46 xIse xNms).filter goodWord, w ∈ wsX3_move := fun _ h => List.mem_cons_of_mem _ (List.mem_append_left _ (List.mem_append_left _ (List.mem_append_right _ h)))
abbrev rmTX3_move_4 : Room := { frames := 6, cells := 1, slots := 6, locals := 82 }
set_option maxHeartbeats 4000000 in
set_option maxRecDepth 100000 in
theorem t_X3_move_4 (l : Launch) (hl : l.stackTraces = false) (D : va_G) (cI cO : ClassId) (xa : Nat) (ta ha : Nat → Nat) (hb : Nat → Nat → Nat) (ad : Nat → Nat) (t : Nat → Int32) (n : Nat) (G : Nat → Nat → Int32) (g : Nat → Int32) (o z : Nat) (hn : n ≤ 60) (ho : o < 6) (hz : z ≤ 6) (r : Nat) (hr : r < 9) (f q9 : Int32) (h1 : ¬ f < 0) (h2 : f ≤ 2) (h3 : ¬ q9 < 0) (h4 : q9 ≤ 5) (h : xMb g r f q9 = -1) : cT sF l yX3_move wsX3_move rmTX3_move_4 D vwCl (tyA cI cO) [.ref xa, .int (nI r), .int f, .int q9] ((wS0 xa ad ha ta) ++ ((wT ta cI t (nI n)) ++ ((wHs ha hb cI cO G (nI o) (nI z)) ++ (wB ad cI g)))) xIse := by
  refine cT_of (cc := cX3_move) (maxL := 5) (ret := (some .int)) (by decide) rfl (Nat.le_of_ble_eq_true rfl) ?_
  intro p e s m below meth c A C hlk hF hne hZ
  refine g_lv [0, 1, 2, 3] (lv' := [(0, .ref xa), (1, .int (nI r)), (2, .int f), (3, .int q9)]) rfl ?_
  refine g_iload_n C dX3_move_0 1 rfl ?_
  refine g_callSv C (c_X3_checkRod l D cI cO r hr) gX3_move_X3_checkRod rfl ⟨rfl, rfl⟩ hd_X3_checkRod ⟨Nat.le_of_ble_eq_true rfl, Nat.le_of_ble_eq_true rfl⟩ [0, 1] rfl (fun _ _ => trivial) rfl (rest := []) rfl (Nat.le_of_ble_eq_true rfl) dX3_move_1 ⟨Nat.zero_le _, Nat.zero_le _⟩ (pre := []) (post := ((wS0 xa ad ha ta) ++ ((wT ta cI t (nI n)) ++ ((wHs ha hb cI cO G (nI o) (nI z)) ++ (wB ad cI g))))) (ws' := ((wS0 xa ad ha ta) ++ ((wT ta cI t (nI n)) ++ ((wHs ha hb cI cO G (nI o) (nI z)) ++ (wB ad cI g))))) rfl rfl ?_
  refine g_iload_n C dX3_move_4 2 rfl ?_
  refine g_iconst C (v := 0) dX3_move_5 ci_0 ?_
  refine g_iconst C (v := 2) dX3_move_6 ci_2 ?_
  refine g_callSv C (c_X3_checkRange l D cI cO f 0 2 h1 h2) gX3_move_X3_checkRange rfl ⟨rfl, rfl⟩ hd_X3_checkRange ⟨Nat.le_of_ble_eq_true rfl, Nat.le_of_ble_eq_true rfl⟩ [0, 1] rfl (fun _ _ => trivial) rfl (rest := []) rfl (Nat.le_of_ble_eq_true rfl) dX3_move_7 ⟨Nat.zero_le _, Nat.zero_le _⟩ (pre := []) (post := ((wS0 xa ad ha ta) ++ ((wT ta cI t (nI n)) ++ ((wHs ha hb cI cO G (nI o) (nI z)) ++ (wB ad cI g))))) (ws' := ((wS0 xa ad ha ta) ++ ((wT ta cI t (nI n)) ++ ((wHs ha hb cI cO G (nI o) (nI z)) ++ (wB ad cI g))))) rfl rfl ?_
  refine g_iload_n C dX3_move_10 3 rfl ?_
  refine g_iconst C (v := 0) dX3_move_11 ci_0 ?_
  refine g_iconst C (v := 5) dX3_move_12 ci_5 ?_
  refine g_callSv C (c_X3_checkRange l D cI cO q9 0 5 h3 h4) gX3_move_X3_checkRange rfl ⟨rfl, rfl⟩ hd_X3_checkRange ⟨Nat.le_of_ble_eq_true rfl, Nat.le_of_ble_eq_true rfl⟩ [0, 1] rfl (fun _ _ => trivial) rfl (rest := []) rfl (Nat.le_of_ble_eq_true rfl) dX3_move_13 ⟨Nat.zero_le _, Nat.zero_le _⟩ (pre := []) (post := ((wS0 xa ad ha ta) ++ ((wT ta cI t (nI n)) ++ ((wHs ha hb cI cO G (nI o) (nI z)) ++ (wB ad cI g))))) (ws' := ((wS0 xa ad ha ta) ++ ((wT ta cI t (nI n)) ++ ((wHs ha hb cI cO G (nI o) (nI z)) ++ (wB ad cI g))))) rfl rfl ?_
  refine g_aload_n C dX3_move_16 0 rfl ?_
  refine g_get C (v := .ref (ad 0)) fl_X3_move_X3 0 rfl rfl 0 (by decide) fw_X3_move_fld12 rfl dX3_move_17 ?_
  refine g_iload_n C dX3_move_20 1 rfl ?_
  refine g_iload_n C dX3_move_21 2 rfl ?_
  refine g_iload_n C dX3_move_22 3 rfl ?_
  refine g_callVi C (c_X0_movesBy l D cI cO ad g r hr f q9) gX3_move_X0_movesBy rfl ⟨rfl, rfl⟩ hd_X0_movesBy ⟨Nat.le_of_ble_eq_true rfl, Nat.le_of_ble_eq_true rfl⟩ [0, 1] rfl (fun _ _ => trivial) rfl (rest := []) rfl (Nat.le_of_ble_eq_true rfl) dX3_move_23 ⟨Nat.zero_le _, Nat.zero_le _⟩ 0 rfl rfl rfl (pre := ((wS0 xa ad ha ta) ++ ((wT ta cI t (nI n)) ++ (wHs ha hb cI cO G (nI o) (nI z))))) (post := []) (ws' := ((wS0 xa ad ha ta) ++ ((wT ta cI t (nI n)) ++ ((wHs ha hb cI cO G (nI o) (nI z)) ++ (wB ad cI g))))) rfl rfl ?_
  refine g_istore C (lv' := [(4, .int (xMb g r f q9)), (0, .ref xa), (1, .int (nI r)), (2, .int f), (3, .int q9)]) dX3_move_26 (by decide) rfl ?_
  refine g_iload C dX3_move_28 0 rfl ?_
  refine g_iconst C (v := -1) dX3_move_30 ci_m1 ?_
  refine g_icmp_ne C (tgt := 44) dX3_move_31 (by decide) (fun h31_1 => absurd h h31_1) (fun _ => ?_)
  exact g_throw (XN := xIse) (tx := "stuck beads would change") C hl hF hZ hne hlk (by decide) (by decide) fw_X3_move_clIllegalStateException fw_X3_move_iniIllegalStateException fx_X3_move_IllegalStateException ot_xIse bad_xIse fit_xIse dX3_move_34 dX3_move_37 dX3_move_38 dX3_move_40 dX3_move_43 (Nat.le_of_ble_eq_true rfl) (Nat.le_of_ble_eq_true rfl) (Nat.le_of_ble_eq_true rfl) (Nat.le_of_ble_eq_true rfl) (Nat.le_refl _) (Nat.le_refl _)
theorem fw_X3_stick_fld19 : Cond.fieldLink RX3 19 "StuckRods" "history" "LStuckRods$History;" ∈ wsX3_stick := (List.mem_cons_of_mem _ (List.mem_append_left _ (List.mem_append_left _ (List.mem_append_left _ (List.mem_append_left _ (List.mem_append_left _ (List.mem_append_left _ (List.mem_of_getElem? (i := 0) rfl))))))))
theorem fl_X3_stick_X3 : ∀ w ∈ wsX30, w ∈ wsX3_stick := fun _ h => List.mem_cons_of_mem _ (List.mem_append_left _ (List.mem_append_left _ (List.mem_append_left _ (List.mem_append_left _ (List.mem_append_right _ h)))))
theorem fw_X3_stick_fld12 : Cond.fieldLink RX3 12 "StuckRods" "board" "LStuckRods$Board;" ∈ wsX3_stick := (List.mem_cons_of_mem _ (List.mem_append_left _ (List.mem_append_left _ (List.mem_append_left _ (List.mem_append_left _ (List.mem_append_left _ (List.mem_append_left _ (List.mem_of_getElem? (i := 1) rfl))))))))
theorem fw_X3_stick_fld57 : Cond.fieldLink RX3 57 "StuckRods$Board" "stuck" "[I" ∈ wsX3_stick := (List.mem_cons_of_mem _ (List.mem_append_left _ (List.mem_append_left _ (List.mem_append_left _ (List.mem_append_left _ (List.mem_append_left _ (List.mem_append_left _ (List.mem_of_getElem? (i := 2) rfl))))))))
theorem fl_X3_stick_X0 : ∀ w ∈ wsX00, w ∈ wsX3_stick := fun _ h => List.mem_cons_of_mem _ (List.mem_append_left _ (List.mem_append_left _ (List.mem_append_left _ (List.mem_append_right _ h))))
abbrev rmX3_stick : Room := { frames := 2, cells := 0, slots := 0, locals := 43 }
set_option maxHeartbeats 4000000 in
set_option maxRecDepth 100000 in
theorem c_X3_stick (l : Launch) (D : va_G) (cI cO : ClassId) (xa : Nat) (ta ha : Nat → Nat) (hb : Nat → Nat → Nat) (ad : Nat → Nat) (t : Nat → Int32) (n : Nat) (G : Nat → Nat → Int32) (g : Nat → Int32) (o z : Nat) (hn : n ≤ 60) (ho : o < 6) (hz : z ≤ 6) (r : Nat) (hr : r < 9) (w9 : Int32) (h1 : ¬ w9 < 0) (h2 : w9 ≤ 3) : cR sF l yX3_stick wsX3_stick rmX3_stick D vwCl (tyA cI cO) [.ref xa, .int (nI r), .int w9] ((wS0 xa ad ha ta) ++ ((wT ta cI t (nI n)) ++ ((wHs ha hb cI cO G (nI o) (nI z)) ++ (wB ad cI g)))) (some (.int (g (6 * r + 4)))) ((wS0 xa ad ha ta) ++ ((wT ta cI t (nI n)) ++ ((wHs ha hb cI cO (kG G o z g) (nI (kO o z)) (nI (kM z + 1))) ++ (wB ad cI (upd g (6 * r + 4) w9))))) := by
  refine cR_of (cc := cX3_stick) (maxL := 4) (ret := (some .int)) (by decide) rfl (Nat.le_of_ble_eq_true rfl) ?_
  intro p e s m below meth c A C hret hlk hnm hF
  refine g_lv [0, 1, 2] (lv' := [(0, .ref xa), (1, .int (nI r)), (2, .int w9)]) rfl ?_
  refine g_iload_n C dX3_stick_0 1 rfl ?_
  refine g_callSv C (c_X3_checkRod l D cI cO r hr) gX3_stick_X3_checkRod rfl ⟨rfl, rfl⟩ hd_X3_checkRod ⟨Nat.le_of_ble_eq_true rfl, Nat.le_of_ble_eq_true rfl⟩ [0, 1] rfl (fun _ _ => trivial) rfl (rest := []) rfl (Nat.le_of_ble_eq_true rfl) dX3_stick_1 ⟨Nat.zero_le _, Nat.zero_le _⟩ (pre := []) (post := ((wS0 xa ad ha ta) ++ ((wT ta cI t (nI n)) ++ ((wHs ha hb cI cO G (nI o) (nI z)) ++ (wB ad cI g))))) (ws' := ((wS0 xa ad ha ta) ++ ((wT ta cI t (nI n)) ++ ((wHs ha hb cI cO G (nI o) (nI z)) ++ (wB ad cI g))))) rfl rfl ?_
  refine g_iload_n C dX3_stick_4 2 rfl ?_
  refine g_iconst C (v := 0) dX3_stick_5 ci_0 ?_
  refine g_iconst C (v := 3) dX3_stick_6 ci_3 ?_
  refine g_callSv C (c_X3_checkRange l D cI cO w9 0 3 h1 h2) gX3_stick_X3_checkRange rfl ⟨rfl, rfl⟩ hd_X3_checkRange ⟨Nat.le_of_ble_eq_true rfl, Nat.le_of_ble_eq_true rfl⟩ [0, 1] rfl (fun _ _ => trivial) rfl (rest := []) rfl (Nat.le_of_ble_eq_true rfl) dX3_stick_7 ⟨Nat.zero_le _, Nat.zero_le _⟩ (pre := []) (post := ((wS0 xa ad ha ta) ++ ((wT ta cI t (nI n)) ++ ((wHs ha hb cI cO G (nI o) (nI z)) ++ (wB ad cI g))))) (ws' := ((wS0 xa ad ha ta) ++ ((wT ta cI t (nI n)) ++ ((wHs ha hb cI cO G (nI o) (nI z)) ++ (wB ad cI g))))) rfl rfl ?_
  refine g_aload_n C dX3_stick_10 0 rfl ?_
  refine g_get C (v := .ref (ha 0)) fl_X3_stick_X3 0 rfl rfl 1 (by decide) fw_X3_stick_fld19 rfl dX3_stick_11 ?_
  refine g_aload_n C dX3_stick_14 0 rfl ?_
  refine g_get C (v := .ref (ad 0)) fl_X3_stick_X3 0 rfl rfl 0 (by decide) fw_X3_stick_fld12 rfl dX3_stick_15 ?_
  refine g_callVv C (c_X1_keep l D cI cO ha hb ad G g o z ho hz) gX3_stick_X1_keep rfl ⟨rfl, rfl⟩ hd_X1_keep ⟨Nat.le_of_ble_eq_true rfl, Nat.le_of_ble_eq_true rfl⟩ [0, 1] rfl (fun _ _ => trivial) rfl (rest := []) rfl (Nat.le_of_ble_eq_true rfl) dX3_stick_18 ⟨Nat.zero_le _, Nat.zero_le _⟩ 0 rfl rfl rfl (pre := ((wS0 xa ad ha ta) ++ (wT ta cI t (nI n)))) (post := []) (ws' := ((wS0 xa ad ha ta) ++ ((wT ta cI t (nI n)) ++ ((wHs ha hb cI cO (kG G o z g) (nI (kO o z)) (nI (kM z + 1))) ++ (wB ad cI g))))) rfl rfl ?_
  refine g_aload_n C dX3_stick_21 0 rfl ?_
  refine g_get C (v := .ref (ad 0)) fl_X3_stick_X3 0 rfl rfl 0 (by decide) fw_X3_stick_fld12 rfl dX3_stick_22 ?_
  refine g_get C (v := .ref (ad 3)) fl_X3_stick_X0 47 rfl rfl 2 (by decide) fw_X3_stick_fld57 rfl dX3_stick_25 ?_
  refine g_iload_n C dX3_stick_28 1 rfl ?_
  refine g_iald C (x := g (6 * r + 4)) 50 0 rfl rfl r rfl hr (by decide) rfl dX3_stick_29 ?_
  refine g_istore_n C (lv' := [(3, .int (g (6 * r + 4))), (0, .ref xa), (1, .int (nI r)), (2, .int w9)]) dX3_stick_30 rfl (by decide) rfl ?_
  refine g_aload_n C dX3_stick_31 1 rfl ?_
  refine g_get C (v := .ref (ad 0)) fl_X3_stick_X3 0 rfl rfl 0 (by decide) fw_X3_stick_fld12 rfl dX3_stick_32 ?_
  refine g_get C (v := .ref (ad 3)) fl_X3_stick_X0 47 rfl rfl 2 (by decide) fw_X3_stick_fld57 rfl dX3_stick_35 ?_
  refine g_iload_n C dX3_stick_38 2 rfl ?_
  refine g_iload_n C dX3_stick_39 3 rfl ?_
  refine g_iast C (ws' := ((wS0 xa ad ha ta) ++ ((wT ta cI t (nI n)) ++ ((wHs ha hb cI cO (kG G o z g) (nI (kO o z)) (nI (kM z + 1))) ++ (wB ad cI (upd g (6 * r + 4) w9)))))) 50 0 rfl rfl r rfl hr (by decide) dX3_stick_40 (ws_setr (q1 := 49) rfl (ws_setr (q1 := 47) rfl (ws_setr (q1 := 3) rfl (wB_3 ad cI g r w9)))) ?_
  refine g_iload_n C dX3_stick_41 0 rfl ?_
  exact g_iret C hret hlk dX3_stick_42 rfl rfl
abbrev rmTX3_stick_1 : Room := { frames := 7, cells := 1, slots := 6, locals := 102 }
set_option maxHeartbeats 4000000 in
set_option maxRecDepth 100000 in
theorem t_X3_stick_1 (l : Launch) (hl : l.stackTraces = false) (D : va_G) (cI cO : ClassId) (xa : Nat) (ta ha : Nat → Nat) (hb : Nat → Nat → Nat) (ad : Nat → Nat) (t : Nat → Int32) (n : Nat) (G : Nat → Nat → Int32) (g : Nat → Int32) (o z : Nat) (hn : n ≤ 60) (ho : o < 6) (hz : z ≤ 6) (v w9 : Int32) (h : v < 0 ∨ ¬ v < 9) : cT sF l yX3_stick wsX3_stick rmTX3_stick_1 D vwCl (tyA cI cO) [.ref xa, .int v, .int w9] ((wS0 xa ad ha ta) ++ ((wT ta cI t (nI n)) ++ ((wHs ha hb cI cO G (nI o) (nI z)) ++ (wB ad cI g)))) xIob := by
  refine cT_of (cc := cX3_stick) (maxL := 4) (ret := (some .int)) (by decide) rfl (Nat.le_of_ble_eq_true rfl) ?_
  intro p e s m below meth c A C hlk hF hne hZ
  refine g_lv [0, 1, 2] (lv' := [(0, .ref xa), (1, .int v), (2, .int w9)]) rfl ?_
  refine g_iload_n C dX3_stick_0 1 rfl ?_
  refine g_callST C hZ (t_X3_checkRod l hl D cI cO v h) gX3_stick_X3_checkRod rfl ⟨rfl, rfl⟩ hd_X3_checkRod ⟨Nat.le_of_ble_eq_true rfl, Nat.le_of_ble_eq_true rfl⟩ [0, 1] rfl (sF_w hF) rfl (rest := []) rfl (Nat.le_of_ble_eq_true rfl) dX3_stick_1 ⟨Nat.le_of_ble_eq_true rfl, Nat.le_of_ble_eq_true rfl⟩ (pre := []) (post := ((wS0 xa ad ha ta) ++ ((wT ta cI t (nI n)) ++ ((wHs ha hb cI cO G (nI o) (nI z)) ++ (wB ad cI g))))) rfl ?_
  exact g_out C hne hlk (Nat.le_refl _) (Nat.le_refl _)
abbrev rmTX3_stick_2 : Room := { frames := 7, cells := 1, slots := 6, locals := 104 }
set_option maxHeartbeats 4000000 in
set_option maxRecDepth 100000 in
theorem t_X3_stick_2 (l : Launch) (hl : l.stackTraces = false) (D : va_G) (cI cO : ClassId) (xa : Nat) (ta ha : Nat → Nat) (hb : Nat → Nat → Nat) (ad : Nat → Nat) (t : Nat → Int32) (n : Nat) (G : Nat → Nat → Int32) (g : Nat → Int32) (o z : Nat) (hn : n ≤ 60) (ho : o < 6) (hz : z ≤ 6) (r : Nat) (hr : r < 9) (w9 : Int32) (h : w9 < 0 ∨ ¬ w9 ≤ 3) : cT sF l yX3_stick wsX3_stick rmTX3_stick_2 D vwCl (tyA cI cO) [.ref xa, .int (nI r), .int w9] ((wS0 xa ad ha ta) ++ ((wT ta cI t (nI n)) ++ ((wHs ha hb cI cO G (nI o) (nI z)) ++ (wB ad cI g)))) xIae := by
  refine cT_of (cc := cX3_stick) (maxL := 4) (ret := (some .int)) (by decide) rfl (Nat.le_of_ble_eq_true rfl) ?_
  intro p e s m below meth c A C hlk hF hne hZ
  refine g_lv [0, 1, 2] (lv' := [(0, .ref xa), (1, .int (nI r)), (2, .int w9)]) rfl ?_
  refine g_iload_n C dX3_stick_0 1 rfl ?_
  refine g_callSv C (c_X3_checkRod l D cI cO r hr) gX3_stick_X3_checkRod rfl ⟨rfl, rfl⟩ hd_X3_checkRod ⟨Nat.le_of_ble_eq_true rfl, Nat.le_of_ble_eq_true rfl⟩ [0, 1] rfl (fun _ _ => trivial) rfl (rest := []) rfl (Nat.le_of_ble_eq_true rfl) dX3_stick_1 ⟨Nat.zero_le _, Nat.zero_le _⟩ (pre := []) (post := ((wS0 xa ad ha ta) ++ ((wT ta cI t (nI n)) ++ ((wHs ha hb cI cO G (nI o) (nI z)) ++ (wB ad cI g))))) (ws' := ((wS0 xa ad ha ta) ++ ((wT ta cI t (nI n)) ++ ((wHs ha hb cI cO G (nI o) (nI z)) ++ (wB ad cI g))))) rfl rfl ?_
  refine g_iload_n C dX3_stick_4 2 rfl ?_
  refine g_iconst C (v := 0) dX3_stick_5 ci_0 ?_
  refine g_iconst C (v := 3) dX3_stick_6 ci_3 ?_
  refine g_callST C hZ (t_X3_checkRange l hl D cI cO w9 0 3 h) gX3_stick_X3_checkRange rfl ⟨rfl, rfl⟩ hd_X3_checkRange ⟨Nat.le_of_ble_eq_true rfl, Nat.le_of_ble_eq_true rfl⟩ [0, 1] rfl (sF_w hF) rfl (rest := []) rfl (Nat.le_of_ble_eq_true rfl) dX3_stick_7 ⟨Nat.le_of_ble_eq_true rfl, Nat.le_of_ble_eq_true rfl⟩ (pre := []) (post := ((wS0 xa ad ha ta) ++ ((wT ta cI t (nI n)) ++ ((wHs ha hb cI cO G (nI o) (nI z)) ++ (wB ad cI g))))) rfl ?_
  exact g_out C hne hlk (Nat.le_refl _) (Nat.le_refl _)
theorem fw_X3_set_fld19 : Cond.fieldLink RX3 19 "StuckRods" "history" "LStuckRods$History;" ∈ wsX3_set := (List.mem_cons_of_mem _ (List.mem_append_left _ (List.mem_append_left _ (List.mem_append_left _ (List.mem_append_left _ (List.mem_append_left _ (List.mem_of_getElem? (i := 0) rfl)))))))
theorem fl_X3_set_X3 : ∀ w ∈ wsX30, w ∈ wsX3_set := fun _ h => List.mem_cons_of_mem _ (List.mem_append_left _ (List.mem_append_left _ (List.mem_append_left _ (List.mem_append_right _ h))))
theorem fw_X3_set_fld12 : Cond.fieldLink RX3 12 "StuckRods" "board" "LStuckRods$Board;" ∈ wsX3_set := (List.mem_cons_of_mem _ (List.mem_append_left _ (List.mem_append_left _ (List.mem_append_left _ (List.mem_append_left _ (List.mem_append_left _ (List.mem_of_getElem? (i := 1) rfl)))))))
theorem fw_X3_set_fld61 : Cond.fieldLink RX3 61 "StuckRods$Board" "setting" "I" ∈ wsX3_set := (List.mem_cons_of_mem _ (List.mem_append_left _ (List.mem_append_left _ (List.mem_append_left _ (List.mem_append_left _ (List.mem_append_left _ (List.mem_of_getElem? (i := 2) rfl)))))))
theorem fl_X3_set_X0 : ∀ w ∈ wsX00, w ∈ wsX3_set := fun _ h => List.mem_cons_of_mem _ (List.mem_append_left _ (List.mem_append_left _ (List.mem_append_right _ h)))
abbrev rmX3_set : Room := { frames := 2, cells := 0, slots := 0, locals := 43 }
set_option maxHeartbeats 4000000 in
set_option maxRecDepth 100000 in
theorem c_X3_set (l : Launch) (D : va_G) (cI cO : ClassId) (xa : Nat) (ta ha : Nat → Nat) (hb : Nat → Nat → Nat) (ad : Nat → Nat) (t : Nat → Int32) (n : Nat) (G : Nat → Nat → Int32) (g : Nat → Int32) (o z : Nat) (hn : n ≤ 60) (ho : o < 6) (hz : z ≤ 6) (v : Int32) (h1 : ¬ v < 0) (h2 : v ≤ 9) : cR sF l yX3_set wsX3_set rmX3_set D vwCl (tyA cI cO) [.ref xa, .int v] ((wS0 xa ad ha ta) ++ ((wT ta cI t (nI n)) ++ ((wHs ha hb cI cO G (nI o) (nI z)) ++ (wB ad cI g)))) (some (.int (g 0))) ((wS0 xa ad ha ta) ++ ((wT ta cI t (nI n)) ++ ((wHs ha hb cI cO (kG G o z g) (nI (kO o z)) (nI (kM z + 1))) ++ (wB ad cI (upd g 0 v))))) := by
  refine cR_of (cc := cX3_set) (maxL := 3) (ret := (some .int)) (by decide) rfl (Nat.le_of_ble_eq_true rfl) ?_
  intro p e s m below meth c A C hret hlk hnm hF
  refine g_lv [0, 1] (lv' := [(0, .ref xa), (1, .int v)]) rfl ?_
  refine g_iload_n C dX3_set_0 1 rfl ?_
  refine g_iconst C (v := 0) dX3_set_1 ci_0 ?_
  refine g_bipush C (v := 9) dX3_set_2 cb_9 ?_
  refine g_callSv C (c_X3_checkRange l D cI cO v 0 9 h1 h2) gX3_set_X3_checkRange rfl ⟨rfl, rfl⟩ hd_X3_checkRange ⟨Nat.le_of_ble_eq_true rfl, Nat.le_of_ble_eq_true rfl⟩ [0, 1] rfl (fun _ _ => trivial) rfl (rest := []) rfl (Nat.le_of_ble_eq_true rfl) dX3_set_4 ⟨Nat.zero_le _, Nat.zero_le _⟩ (pre := []) (post := ((wS0 xa ad ha ta) ++ ((wT ta cI t (nI n)) ++ ((wHs ha hb cI cO G (nI o) (nI z)) ++ (wB ad cI g))))) (ws' := ((wS0 xa ad ha ta) ++ ((wT ta cI t (nI n)) ++ ((wHs ha hb cI cO G (nI o) (nI z)) ++ (wB ad cI g))))) rfl rfl ?_
  refine g_aload_n C dX3_set_7 0 rfl ?_
  refine g_get C (v := .ref (ha 0)) fl_X3_set_X3 0 rfl rfl 1 (by decide) fw_X3_set_fld19 rfl dX3_set_8 ?_
  refine g_aload_n C dX3_set_11 0 rfl ?_
  refine g_get C (v := .ref (ad 0)) fl_X3_set_X3 0 rfl rfl 0 (by decide) fw_X3_set_fld12 rfl dX3_set_12 ?_
  refine g_callVv C (c_X1_keep l D cI cO ha hb ad G g o z ho hz) gX3_set_X1_keep rfl ⟨rfl, rfl⟩ hd_X1_keep ⟨Nat.le_of_ble_eq_true rfl, Nat.le_of_ble_eq_true rfl⟩ [0, 1] rfl (fun _ _ => trivial) rfl (rest := []) rfl (Nat.le_of_ble_eq_true rfl) dX3_set_15 ⟨Nat.zero_le _, Nat.zero_le _⟩ 0 rfl rfl rfl (pre := ((wS0 xa ad ha ta) ++ (wT ta cI t (nI n)))) (post := []) (ws' := ((wS0 xa ad ha ta) ++ ((wT ta cI t (nI n)) ++ ((wHs ha hb cI cO (kG G o z g) (nI (kO o z)) (nI (kM z + 1))) ++ (wB ad cI g))))) rfl rfl ?_
  refine g_aload_n C dX3_set_18 0 rfl ?_
  refine g_get C (v := .ref (ad 0)) fl_X3_set_X3 0 rfl rfl 0 (by decide) fw_X3_set_fld12 rfl dX3_set_19 ?_
  refine g_get C (v := .int (g 0)) fl_X3_set_X0 47 rfl rfl 6 (by decide) fw_X3_set_fld61 rfl dX3_set_22 ?_
  refine g_istore_n C (lv' := [(2, .int (g 0)), (0, .ref xa), (1, .int v)]) dX3_set_25 rfl (by decide) rfl ?_
  refine g_aload_n C dX3_set_26 1 rfl ?_
  refine g_get C (v := .ref (ad 0)) fl_X3_set_X3 0 rfl rfl 0 (by decide) fw_X3_set_fld12 rfl dX3_set_27 ?_
  refine g_iload_n C dX3_set_30 2 rfl ?_
  refine g_put C (ws' := ((wS0 xa ad ha ta) ++ ((wT ta cI t (nI n)) ++ ((wHs ha hb cI cO (kG G o z g) (nI (kO o z)) (nI (kM z + 1))) ++ (wB ad cI (upd g 0 v)))))) fl_X3_set_X0 tyX0 tyX0_ok nmX0 47 rfl rfl 6 (by decide) fw_X3_set_fld61 rfl (tyX0_ok 6 (by decide)) rfl rfl (Nat.le_of_ble_eq_true rfl) dX3_set_31 (ws_setr (q1 := 46) rfl (ws_setr (q1 := 44) rfl (ws_setr (q1 := 0) rfl (wB_0 ad cI g v)))) ?_
  refine g_iload_n C dX3_set_34 0 rfl ?_
  exact g_iret C hret hlk dX3_set_35 rfl rfl
abbrev rmTX3_set_1 : Room := { frames := 7, cells := 1, slots := 6, locals := 104 }
set_option maxHeartbeats 4000000 in
set_option maxRecDepth 100000 in
theorem t_X3_set_1 (l : Launch) (hl : l.stackTraces = false) (D : va_G) (cI cO : ClassId) (xa : Nat) (ta ha : Nat → Nat) (hb : Nat → Nat → Nat) (ad : Nat → Nat) (t : Nat → Int32) (n : Nat) (G : Nat → Nat → Int32) (g : Nat → Int32) (o z : Nat) (hn : n ≤ 60) (ho : o < 6) (hz : z ≤ 6) (v : Int32) (h : v < 0 ∨ ¬ v ≤ 9) : cT sF l yX3_set wsX3_set rmTX3_set_1 D vwCl (tyA cI cO) [.ref xa, .int v] ((wS0 xa ad ha ta) ++ ((wT ta cI t (nI n)) ++ ((wHs ha hb cI cO G (nI o) (nI z)) ++ (wB ad cI g)))) xIae := by
  refine cT_of (cc := cX3_set) (maxL := 3) (ret := (some .int)) (by decide) rfl (Nat.le_of_ble_eq_true rfl) ?_
  intro p e s m below meth c A C hlk hF hne hZ
  refine g_lv [0, 1] (lv' := [(0, .ref xa), (1, .int v)]) rfl ?_
  refine g_iload_n C dX3_set_0 1 rfl ?_
  refine g_iconst C (v := 0) dX3_set_1 ci_0 ?_
  refine g_bipush C (v := 9) dX3_set_2 cb_9 ?_
  refine g_callST C hZ (t_X3_checkRange l hl D cI cO v 0 9 h) gX3_set_X3_checkRange rfl ⟨rfl, rfl⟩ hd_X3_checkRange ⟨Nat.le_of_ble_eq_true rfl, Nat.le_of_ble_eq_true rfl⟩ [0, 1] rfl (sF_w hF) rfl (rest := []) rfl (Nat.le_of_ble_eq_true rfl) dX3_set_4 ⟨Nat.le_of_ble_eq_true rfl, Nat.le_of_ble_eq_true rfl⟩ (pre := []) (post := ((wS0 xa ad ha ta) ++ ((wT ta cI t (nI n)) ++ ((wHs ha hb cI cO G (nI o) (nI z)) ++ (wB ad cI g))))) rfl ?_
  exact g_out C hne hlk (Nat.le_refl _) (Nat.le_refl _)
theorem fw_X3_changeOrThrow_fld12 : Cond.fieldLink RX3 12 "StuckRods" "board" "LStuckRods$Board;" ∈ wsX3_changeOrThrow := (List.mem_cons_of_mem _ (List.mem_append_left _ (List.mem_append_left _ (List.mem_append_left _ (List.mem_append_left _ (List.mem_append_left _ (List.mem_of_getElem? (i := 2) rfl)))))))
theorem fl_X3_changeOrThrow_X3 : ∀ w ∈ wsX30, w ∈ wsX3_changeOrThrow := fun _ h => List.mem_cons_of_mem _ (List.mem_append_left _ (List.mem_append_left _ (List.mem_append_left _ (List.mem_append_right _ h))))
theorem fw_X3_changeOrThrow_fld19 : Cond.fieldLink RX3 19 "StuckRods" "history" "LStuckRods$History;" ∈ wsX3_changeOrThrow := (List.mem_cons_of_mem _ (List.mem_append_left _ (List.mem_append_left _ (List.mem_append_left _ (List.mem_append_left _ (List.mem_append_left _ (List.mem_of_getElem? (i := 3) rfl)))))))
abbrev rmX3_changeOrThrow : Room := { frames := 5, cells := 0, slots := 0, locals := 125 }
set_option maxHeartbeats 4000000 in
set_option maxRecDepth 100000 in
theorem c_X3_changeOrThrow (l : Launch) (D : va_G) (cI cO : ClassId) (xa : Nat) (ta ha : Nat → Nat) (hb : Nat → Nat → Nat) (ad : Nat → Nat) (t : Nat → Int32) (n : Nat) (G : Nat → Nat → Int32) (g : Nat → Int32) (o z : Nat) (hn : n ≤ 60) (ho : o < 6) (hz : z ≤ 6) (r : Nat) (hr : r < 9) (n9 : Int32) (hm : ¬ (xCh g r n9 0).1 = -1) : cR sF l yX3_changeOrThrow wsX3_changeOrThrow rmX3_changeOrThrow D vwCl (tyA cI cO) [.ref xa, .int (nI r), .int n9] ((wS0 xa ad ha ta) ++ ((wT ta cI t (nI n)) ++ ((wHs ha hb cI cO G (nI o) (nI z)) ++ (wB ad cI g)))) (some (.int ((xCh g r n9 1).1))) ((wS0 xa ad ha ta) ++ ((wT ta cI t (nI n)) ++ ((wHs ha hb cI cO (kG G o z g) (nI (kO o z)) (nI (kM z + 1))) ++ (wB ad cI ((xCh g r n9 1).2))))) := by
  refine cR_of (cc := cX3_changeOrThrow) (maxL := 3) (ret := (some .int)) (by decide) rfl (Nat.le_of_ble_eq_true rfl) ?_
  intro p e s m below meth c A C hret hlk hnm hF
  refine g_lv [0, 1, 2] (lv' := [(0, .ref xa), (1, .int (nI r)), (2, .int n9)]) rfl ?_
  refine g_aload_n C dX3_changeOrThrow_0 0 rfl ?_
  refine g_get C (v := .ref (ad 0)) fl_X3_changeOrThrow_X3 0 rfl rfl 0 (by decide) fw_X3_changeOrThrow_fld12 rfl dX3_changeOrThrow_1 ?_
  refine g_iload_n C dX3_changeOrThrow_4 1 rfl ?_
  refine g_iload_n C dX3_changeOrThrow_5 2 rfl ?_
  refine g_iconst C (v := 0) dX3_changeOrThrow_6 ci_0 ?_
  refine g_callVi C (c0_X0_change l D cI cO ad g r hr n9) gX3_changeOrThrow_X0_change rfl ⟨rfl, rfl⟩ hd_X0_change ⟨Nat.le_of_ble_eq_true rfl, Nat.le_of_ble_eq_true rfl⟩ [0, 1] rfl (fun _ _ => trivial) rfl (rest := []) rfl (Nat.le_of_ble_eq_true rfl) dX3_changeOrThrow_7 ⟨Nat.zero_le _, Nat.zero_le _⟩ 0 rfl rfl rfl (pre := ((wS0 xa ad ha ta) ++ ((wT ta cI t (nI n)) ++ (wHs ha hb cI cO G (nI o) (nI z))))) (post := []) (ws' := ((wS0 xa ad ha ta) ++ ((wT ta cI t (nI n)) ++ ((wHs ha hb cI cO G (nI o) (nI z)) ++ (wB ad cI g))))) rfl rfl ?_
  refine g_iconst C (v := -1) dX3_changeOrThrow_10 ci_m1 ?_
  refine g_icmp_ne C (tgt := 24) dX3_changeOrThrow_11 (by decide) (fun _ => ?_) (fun h11_1 => absurd h11_1 hm)
  refine g_aload_n C dX3_changeOrThrow_24 0 rfl ?_
  refine g_get C (v := .ref (ha 0)) fl_X3_changeOrThrow_X3 0 rfl rfl 1 (by decide) fw_X3_changeOrThrow_fld19 rfl dX3_changeOrThrow_25 ?_
  refine g_aload_n C dX3_changeOrThrow_28 0 rfl ?_
  refine g_get C (v := .ref (ad 0)) fl_X3_changeOrThrow_X3 0 rfl rfl 0 (by decide) fw_X3_changeOrThrow_fld12 rfl dX3_changeOrThrow_29 ?_
  refine g_callVv C (c_X1_keep l D cI cO ha hb ad G g o z ho hz) gX3_changeOrThrow_X1_keep rfl ⟨rfl, rfl⟩ hd_X1_keep ⟨Nat.le_of_ble_eq_true rfl, Nat.le_of_ble_eq_true rfl⟩ [0, 1] rfl (fun _ _ => trivial) rfl (rest := []) rfl (Nat.le_of_ble_eq_true rfl) dX3_changeOrThrow_32 ⟨Nat.zero_le _, Nat.zero_le _⟩ 0 rfl rfl rfl (pre := ((wS0 xa ad ha ta) ++ (wT ta cI t (nI n)))) (post := []) (ws' := ((wS0 xa ad ha ta) ++ ((wT ta cI t (nI n)) ++ ((wHs ha hb cI cO (kG G o z g) (nI (kO o z)) (nI (kM z + 1))) ++ (wB ad cI g))))) rfl rfl ?_
  refine g_aload_n C dX3_changeOrThrow_35 0 rfl ?_
  refine g_get C (v := .ref (ad 0)) fl_X3_changeOrThrow_X3 0 rfl rfl 0 (by decide) fw_X3_changeOrThrow_fld12 rfl dX3_changeOrThrow_36 ?_
  refine g_iload_n C dX3_changeOrThrow_39 1 rfl ?_
  refine g_iload_n C dX3_changeOrThrow_40 2 rfl ?_
  refine g_iconst C (v := 1) dX3_changeOrThrow_41 ci_1 ?_
  refine g_callVi C (c_X0_change l D cI cO ad g r hr n9 1) gX3_changeOrThrow_X0_change rfl ⟨rfl, rfl⟩ hd_X0_change ⟨Nat.le_of_ble_eq_true rfl, Nat.le_of_ble_eq_true rfl⟩ [0, 1] rfl (fun _ _ => trivial) rfl (rest := []) rfl (Nat.le_of_ble_eq_true rfl) dX3_changeOrThrow_42 ⟨Nat.zero_le _, Nat.zero_le _⟩ 0 rfl rfl rfl (pre := ((wS0 xa ad ha ta) ++ ((wT ta cI t (nI n)) ++ (wHs ha hb cI cO (kG G o z g) (nI (kO o z)) (nI (kM z + 1)))))) (post := []) (ws' := ((wS0 xa ad ha ta) ++ ((wT ta cI t (nI n)) ++ ((wHs ha hb cI cO (kG G o z g) (nI (kO o z)) (nI (kM z + 1))) ++ (wB ad cI ((xCh g r n9 1).2)))))) rfl rfl ?_
  exact g_iret C hret hlk dX3_changeOrThrow_45 rfl rfl
theorem fw_X3_changeOrThrow_clIllegalStateException : Cond.classLink RX3 42 "java/lang/IllegalStateException" ∈ wsX3_changeOrThrow := (List.mem_cons_of_mem _ (List.mem_append_left _ (List.mem_append_left _ (List.mem_append_left _ (List.mem_append_left _ (List.mem_append_left _ (List.mem_of_getElem? (i := 0) rfl)))))))
theorem fw_X3_changeOrThrow_iniIllegalStateException : Cond.initialized "java/lang/IllegalStateException" ∈ wsX3_changeOrThrow := (List.mem_cons_of_mem _ (List.mem_append_left _ (List.mem_append_left _ (List.mem_append_left _ (List.mem_append_left _ (List.mem_append_left _ (List.mem_of_getElem? (i := 1) rfl)))))))
theorem fx_X3_changeOrThrow_IllegalStateException : ∀ w ∈ (vx_atS RX3 46 xIse xNms).filter goodWord, w ∈ wsX3_changeOrThrow := fun _ h => List.mem_cons_of_mem _ (List.mem_append_right _ h)
abbrev rmTX3_changeOrThrow : Room := { frames := 6, cells := 1, slots := 6, locals := 125 }
set_option maxHeartbeats 4000000 in
set_option maxRecDepth 100000 in
theorem t_X3_changeOrThrow (l : Launch) (hl : l.stackTraces = false) (D : va_G) (cI cO : ClassId) (xa : Nat) (ta ha : Nat → Nat) (hb : Nat → Nat → Nat) (ad : Nat → Nat) (t : Nat → Int32) (n : Nat) (G : Nat → Nat → Int32) (g : Nat → Int32) (o z : Nat) (hn : n ≤ 60) (ho : o < 6) (hz : z ≤ 6) (r : Nat) (hr : r < 9) (n9 : Int32) (h : (xCh g r n9 0).1 = -1) : cT sF l yX3_changeOrThrow wsX3_changeOrThrow rmTX3_changeOrThrow D vwCl (tyA cI cO) [.ref xa, .int (nI r), .int n9] ((wS0 xa ad ha ta) ++ ((wT ta cI t (nI n)) ++ ((wHs ha hb cI cO G (nI o) (nI z)) ++ (wB ad cI g)))) xIse := by
  refine cT_of (cc := cX3_changeOrThrow) (maxL := 3) (ret := (some .int)) (by decide) rfl (Nat.le_of_ble_eq_true rfl) ?_
  intro p e s m below meth c A C hlk hF hne hZ
  refine g_lv [0, 1, 2] (lv' := [(0, .ref xa), (1, .int (nI r)), (2, .int n9)]) rfl ?_
  refine g_aload_n C dX3_changeOrThrow_0 0 rfl ?_
  refine g_get C (v := .ref (ad 0)) fl_X3_changeOrThrow_X3 0 rfl rfl 0 (by decide) fw_X3_changeOrThrow_fld12 rfl dX3_changeOrThrow_1 ?_
  refine g_iload_n C dX3_changeOrThrow_4 1 rfl ?_
  refine g_iload_n C dX3_changeOrThrow_5 2 rfl ?_
  refine g_iconst C (v := 0) dX3_changeOrThrow_6 ci_0 ?_
  refine g_callVi C (c0_X0_change l D cI cO ad g r hr n9) gX3_changeOrThrow_X0_change rfl ⟨rfl, rfl⟩ hd_X0_change ⟨Nat.le_of_ble_eq_true rfl, Nat.le_of_ble_eq_true rfl⟩ [0, 1] rfl (fun _ _ => trivial) rfl (rest := []) rfl (Nat.le_of_ble_eq_true rfl) dX3_changeOrThrow_7 ⟨Nat.zero_le _, Nat.zero_le _⟩ 0 rfl rfl rfl (pre := ((wS0 xa ad ha ta) ++ ((wT ta cI t (nI n)) ++ (wHs ha hb cI cO G (nI o) (nI z))))) (post := []) (ws' := ((wS0 xa ad ha ta) ++ ((wT ta cI t (nI n)) ++ ((wHs ha hb cI cO G (nI o) (nI z)) ++ (wB ad cI g))))) rfl rfl ?_
  refine g_iconst C (v := -1) dX3_changeOrThrow_10 ci_m1 ?_
  refine g_icmp_ne C (tgt := 24) dX3_changeOrThrow_11 (by decide) (fun h11_1 => absurd h h11_1) (fun _ => ?_)
  exact g_throw (XN := xIse) (tx := "it cannot be done") C hl hF hZ hne hlk (by decide) (by decide) fw_X3_changeOrThrow_clIllegalStateException fw_X3_changeOrThrow_iniIllegalStateException fx_X3_changeOrThrow_IllegalStateException ot_xIse bad_xIse fit_xIse dX3_changeOrThrow_14 dX3_changeOrThrow_17 dX3_changeOrThrow_18 dX3_changeOrThrow_20 dX3_changeOrThrow_23 (Nat.le_of_ble_eq_true rfl) (Nat.le_of_ble_eq_true rfl) (Nat.le_of_ble_eq_true rfl) (Nat.le_of_ble_eq_true rfl) (Nat.le_refl _) (Nat.le_refl _)
theorem hd_X3_changeOrThrow : yX3_changeOrThrow.cls = RX3 ∧ yX3_changeOrThrow.cls ≠ "java/lang/invoke/MethodHandle" ∧ yX3_changeOrThrow.cls ≠ "java/lang/invoke/VarHandle" ∧ (parseMethodDescriptor yX3_changeOrThrow.desc).map (fun d => d.parameters.length) = some 2 := by decide +kernel
abbrev rmX3_add : Room := { frames := 6, cells := 0, slots := 0, locals := 147 }
set_option maxHeartbeats 4000000 in
set_option maxRecDepth 100000 in
theorem c_X3_add (l : Launch) (D : va_G) (cI cO : ClassId) (xa : Nat) (ta ha : Nat → Nat) (hb : Nat → Nat → Nat) (ad : Nat → Nat) (t : Nat → Int32) (n : Nat) (G : Nat → Nat → Int32) (g : Nat → Int32) (o z : Nat) (hn : n ≤ 60) (ho : o < 6) (hz : z ≤ 6) (r : Nat) (hr : r < 9) (n9 : Int32) (h1 : ¬ n9 < 1) (h2 : n9 ≤ 9) (hm : ¬ (xCh g r (n9) 0).1 = -1) : cR sF l yX3_add wsX3_add rmX3_add D vwCl (tyA cI cO) [.ref xa, .int (nI r), .int n9] ((wS0 xa ad ha ta) ++ ((wT ta cI t (nI n)) ++ ((wHs ha hb cI cO G (nI o) (nI z)) ++ (wB ad cI g)))) (some (.int ((xCh g r (n9) 1).1))) ((wS0 xa ad ha ta) ++ ((wT ta cI t (nI n)) ++ ((wHs ha hb cI cO (kG G o z g) (nI (kO o z)) (nI (kM z + 1))) ++ (wB ad cI ((xCh g r (n9) 1).2))))) := by
  refine cR_of (cc := cX3_add) (maxL := 3) (ret := (some .int)) (by decide) rfl (Nat.le_of_ble_eq_true rfl) ?_
  intro p e s m below meth c A C hret hlk hnm hF
  refine g_lv [0, 1, 2] (lv' := [(0, .ref xa), (1, .int (nI r)), (2, .int n9)]) rfl ?_
  refine g_iload_n C dX3_add_0 1 rfl ?_
  refine g_callSv C (c_X3_checkRod l D cI cO r hr) gX3_add_X3_checkRod rfl ⟨rfl, rfl⟩ hd_X3_checkRod ⟨Nat.le_of_ble_eq_true rfl, Nat.le_of_ble_eq_true rfl⟩ [0, 1] rfl (fun _ _ => trivial) rfl (rest := []) rfl (Nat.le_of_ble_eq_true rfl) dX3_add_1 ⟨Nat.zero_le _, Nat.zero_le _⟩ (pre := []) (post := ((wS0 xa ad ha ta) ++ ((wT ta cI t (nI n)) ++ ((wHs ha hb cI cO G (nI o) (nI z)) ++ (wB ad cI g))))) (ws' := ((wS0 xa ad ha ta) ++ ((wT ta cI t (nI n)) ++ ((wHs ha hb cI cO G (nI o) (nI z)) ++ (wB ad cI g))))) rfl rfl ?_
  refine g_iload_n C dX3_add_4 2 rfl ?_
  refine g_iconst C (v := 1) dX3_add_5 ci_1 ?_
  refine g_bipush C (v := 9) dX3_add_6 cb_9 ?_
  refine g_callSv C (c_X3_checkRange l D cI cO n9 1 9 h1 h2) gX3_add_X3_checkRange rfl ⟨rfl, rfl⟩ hd_X3_checkRange ⟨Nat.le_of_ble_eq_true rfl, Nat.le_of_ble_eq_true rfl⟩ [0, 1] rfl (fun _ _ => trivial) rfl (rest := []) rfl (Nat.le_of_ble_eq_true rfl) dX3_add_8 ⟨Nat.zero_le _, Nat.zero_le _⟩ (pre := []) (post := ((wS0 xa ad ha ta) ++ ((wT ta cI t (nI n)) ++ ((wHs ha hb cI cO G (nI o) (nI z)) ++ (wB ad cI g))))) (ws' := ((wS0 xa ad ha ta) ++ ((wT ta cI t (nI n)) ++ ((wHs ha hb cI cO G (nI o) (nI z)) ++ (wB ad cI g))))) rfl rfl ?_
  refine g_aload_n C dX3_add_11 0 rfl ?_
  refine g_iload_n C dX3_add_12 1 rfl ?_
  refine g_iload_n C dX3_add_13 2 rfl ?_
  refine g_callVi C (c_X3_changeOrThrow l D cI cO xa ta ha hb ad t n G g o z hn ho hz r hr n9 hm) gX3_add_X3_changeOrThrow rfl ⟨rfl, rfl⟩ hd_X3_changeOrThrow ⟨Nat.le_of_ble_eq_true rfl, Nat.le_of_ble_eq_true rfl⟩ [0, 1] rfl (sF_w hF) rfl (rest := []) rfl (Nat.le_of_ble_eq_true rfl) dX3_add_14 ⟨Nat.zero_le _, Nat.zero_le _⟩ 0 rfl rfl rfl (pre := []) (post := []) (ws' := ((wS0 xa ad ha ta) ++ ((wT ta cI t (nI n)) ++ ((wHs ha hb cI cO (kG G o z g) (nI (kO o z)) (nI (kM z + 1))) ++ (wB ad cI ((xCh g r n9 1).2)))))) rfl rfl ?_
  exact g_iret C hret hlk dX3_add_17 rfl rfl
abbrev rmTX3_add_1 : Room := { frames := 7, cells := 1, slots := 6, locals := 102 }
set_option maxHeartbeats 4000000 in
set_option maxRecDepth 100000 in
theorem t_X3_add_1 (l : Launch) (hl : l.stackTraces = false) (D : va_G) (cI cO : ClassId) (xa : Nat) (ta ha : Nat → Nat) (hb : Nat → Nat → Nat) (ad : Nat → Nat) (t : Nat → Int32) (n : Nat) (G : Nat → Nat → Int32) (g : Nat → Int32) (o z : Nat) (hn : n ≤ 60) (ho : o < 6) (hz : z ≤ 6) (v n9 : Int32) (h : v < 0 ∨ ¬ v < 9) : cT sF l yX3_add wsX3_add rmTX3_add_1 D vwCl (tyA cI cO) [.ref xa, .int v, .int n9] ((wS0 xa ad ha ta) ++ ((wT ta cI t (nI n)) ++ ((wHs ha hb cI cO G (nI o) (nI z)) ++ (wB ad cI g)))) xIob := by
  refine cT_of (cc := cX3_add) (maxL := 3) (ret := (some .int)) (by decide) rfl (Nat.le_of_ble_eq_true rfl) ?_
  intro p e s m below meth c A C hlk hF hne hZ
  refine g_lv [0, 1, 2] (lv' := [(0, .ref xa), (1, .int v), (2, .int n9)]) rfl ?_
  refine g_iload_n C dX3_add_0 1 rfl ?_
  refine g_callST C hZ (t_X3_checkRod l hl D cI cO v h) gX3_add_X3_checkRod rfl ⟨rfl, rfl⟩ hd_X3_checkRod ⟨Nat.le_of_ble_eq_true rfl, Nat.le_of_ble_eq_true rfl⟩ [0, 1] rfl (sF_w hF) rfl (rest := []) rfl (Nat.le_of_ble_eq_true rfl) dX3_add_1 ⟨Nat.le_of_ble_eq_true rfl, Nat.le_of_ble_eq_true rfl⟩ (pre := []) (post := ((wS0 xa ad ha ta) ++ ((wT ta cI t (nI n)) ++ ((wHs ha hb cI cO G (nI o) (nI z)) ++ (wB ad cI g))))) rfl ?_
  exact g_out C hne hlk (Nat.le_refl _) (Nat.le_refl _)
abbrev rmTX3_add_2 : Room := { frames := 7, cells := 1, slots := 6, locals := 104 }
set_option maxHeartbeats 4000000 in
set_option maxRecDepth 100000 in
theorem t_X3_add_2 (l : Launch) (hl : l.stackTraces = false) (D : va_G) (cI cO : ClassId) (xa : Nat) (ta ha : Nat → Nat) (hb : Nat → Nat → Nat) (ad : Nat → Nat) (t : Nat → Int32) (n : Nat) (G : Nat → Nat → Int32) (g : Nat → Int32) (o z : Nat) (hn : n ≤ 60) (ho : o < 6) (hz : z ≤ 6) (r : Nat) (hr : r < 9) (n9 : Int32) (h : n9 < 1 ∨ ¬ n9 ≤ 9) : cT sF l yX3_add wsX3_add rmTX3_add_2 D vwCl (tyA cI cO) [.ref xa, .int (nI r), .int n9] ((wS0 xa ad ha ta) ++ ((wT ta cI t (nI n)) ++ ((wHs ha hb cI cO G (nI o) (nI z)) ++ (wB ad cI g)))) xIae := by
  refine cT_of (cc := cX3_add) (maxL := 3) (ret := (some .int)) (by decide) rfl (Nat.le_of_ble_eq_true rfl) ?_
  intro p e s m below meth c A C hlk hF hne hZ
  refine g_lv [0, 1, 2] (lv' := [(0, .ref xa), (1, .int (nI r)), (2, .int n9)]) rfl ?_
  refine g_iload_n C dX3_add_0 1 rfl ?_
  refine g_callSv C (c_X3_checkRod l D cI cO r hr) gX3_add_X3_checkRod rfl ⟨rfl, rfl⟩ hd_X3_checkRod ⟨Nat.le_of_ble_eq_true rfl, Nat.le_of_ble_eq_true rfl⟩ [0, 1] rfl (fun _ _ => trivial) rfl (rest := []) rfl (Nat.le_of_ble_eq_true rfl) dX3_add_1 ⟨Nat.zero_le _, Nat.zero_le _⟩ (pre := []) (post := ((wS0 xa ad ha ta) ++ ((wT ta cI t (nI n)) ++ ((wHs ha hb cI cO G (nI o) (nI z)) ++ (wB ad cI g))))) (ws' := ((wS0 xa ad ha ta) ++ ((wT ta cI t (nI n)) ++ ((wHs ha hb cI cO G (nI o) (nI z)) ++ (wB ad cI g))))) rfl rfl ?_
  refine g_iload_n C dX3_add_4 2 rfl ?_
  refine g_iconst C (v := 1) dX3_add_5 ci_1 ?_
  refine g_bipush C (v := 9) dX3_add_6 cb_9 ?_
  refine g_callST C hZ (t_X3_checkRange l hl D cI cO n9 1 9 h) gX3_add_X3_checkRange rfl ⟨rfl, rfl⟩ hd_X3_checkRange ⟨Nat.le_of_ble_eq_true rfl, Nat.le_of_ble_eq_true rfl⟩ [0, 1] rfl (sF_w hF) rfl (rest := []) rfl (Nat.le_of_ble_eq_true rfl) dX3_add_8 ⟨Nat.le_of_ble_eq_true rfl, Nat.le_of_ble_eq_true rfl⟩ (pre := []) (post := ((wS0 xa ad ha ta) ++ ((wT ta cI t (nI n)) ++ ((wHs ha hb cI cO G (nI o) (nI z)) ++ (wB ad cI g))))) rfl ?_
  exact g_out C hne hlk (Nat.le_refl _) (Nat.le_refl _)
abbrev rmTX3_add_3 : Room := { frames := 7, cells := 1, slots := 6, locals := 147 }
set_option maxHeartbeats 4000000 in
set_option maxRecDepth 100000 in
theorem t_X3_add_3 (l : Launch) (hl : l.stackTraces = false) (D : va_G) (cI cO : ClassId) (xa : Nat) (ta ha : Nat → Nat) (hb : Nat → Nat → Nat) (ad : Nat → Nat) (t : Nat → Int32) (n : Nat) (G : Nat → Nat → Int32) (g : Nat → Int32) (o z : Nat) (hn : n ≤ 60) (ho : o < 6) (hz : z ≤ 6) (r : Nat) (hr : r < 9) (n9 : Int32) (h1 : ¬ n9 < 1) (h2 : n9 ≤ 9) (h : (xCh g r (n9) 0).1 = -1) : cT sF l yX3_add wsX3_add rmTX3_add_3 D vwCl (tyA cI cO) [.ref xa, .int (nI r), .int n9] ((wS0 xa ad ha ta) ++ ((wT ta cI t (nI n)) ++ ((wHs ha hb cI cO G (nI o) (nI z)) ++ (wB ad cI g)))) xIse := by
  refine cT_of (cc := cX3_add) (maxL := 3) (ret := (some .int)) (by decide) rfl (Nat.le_of_ble_eq_true rfl) ?_
  intro p e s m below meth c A C hlk hF hne hZ
  refine g_lv [0, 1, 2] (lv' := [(0, .ref xa), (1, .int (nI r)), (2, .int n9)]) rfl ?_
  refine g_iload_n C dX3_add_0 1 rfl ?_
  refine g_callSv C (c_X3_checkRod l D cI cO r hr) gX3_add_X3_checkRod rfl ⟨rfl, rfl⟩ hd_X3_checkRod ⟨Nat.le_of_ble_eq_true rfl, Nat.le_of_ble_eq_true rfl⟩ [0, 1] rfl (fun _ _ => trivial) rfl (rest := []) rfl (Nat.le_of_ble_eq_true rfl) dX3_add_1 ⟨Nat.zero_le _, Nat.zero_le _⟩ (pre := []) (post := ((wS0 xa ad ha ta) ++ ((wT ta cI t (nI n)) ++ ((wHs ha hb cI cO G (nI o) (nI z)) ++ (wB ad cI g))))) (ws' := ((wS0 xa ad ha ta) ++ ((wT ta cI t (nI n)) ++ ((wHs ha hb cI cO G (nI o) (nI z)) ++ (wB ad cI g))))) rfl rfl ?_
  refine g_iload_n C dX3_add_4 2 rfl ?_
  refine g_iconst C (v := 1) dX3_add_5 ci_1 ?_
  refine g_bipush C (v := 9) dX3_add_6 cb_9 ?_
  refine g_callSv C (c_X3_checkRange l D cI cO n9 1 9 h1 h2) gX3_add_X3_checkRange rfl ⟨rfl, rfl⟩ hd_X3_checkRange ⟨Nat.le_of_ble_eq_true rfl, Nat.le_of_ble_eq_true rfl⟩ [0, 1] rfl (fun _ _ => trivial) rfl (rest := []) rfl (Nat.le_of_ble_eq_true rfl) dX3_add_8 ⟨Nat.zero_le _, Nat.zero_le _⟩ (pre := []) (post := ((wS0 xa ad ha ta) ++ ((wT ta cI t (nI n)) ++ ((wHs ha hb cI cO G (nI o) (nI z)) ++ (wB ad cI g))))) (ws' := ((wS0 xa ad ha ta) ++ ((wT ta cI t (nI n)) ++ ((wHs ha hb cI cO G (nI o) (nI z)) ++ (wB ad cI g))))) rfl rfl ?_
  refine g_aload_n C dX3_add_11 0 rfl ?_
  refine g_iload_n C dX3_add_12 1 rfl ?_
  refine g_iload_n C dX3_add_13 2 rfl ?_
  refine g_callVT C hZ (t_X3_changeOrThrow l hl D cI cO xa ta ha hb ad t n G g o z hn ho hz r hr n9 h) gX3_add_X3_changeOrThrow rfl ⟨rfl, rfl⟩ hd_X3_changeOrThrow ⟨Nat.le_of_ble_eq_true rfl, Nat.le_of_ble_eq_true rfl⟩ [0, 1] rfl (sF_w hF) rfl (rest := []) rfl (Nat.le_of_ble_eq_true rfl) dX3_add_14 ⟨Nat.le_of_ble_eq_true rfl, Nat.le_of_ble_eq_true rfl⟩ 0 rfl rfl rfl (pre := []) (post := []) rfl ?_
  exact g_out C hne hlk (Nat.le_refl _) (Nat.le_refl _)
abbrev rmX3_less : Room := { frames := 6, cells := 0, slots := 0, locals := 147 }
set_option maxHeartbeats 4000000 in
set_option maxRecDepth 100000 in
theorem c_X3_less (l : Launch) (D : va_G) (cI cO : ClassId) (xa : Nat) (ta ha : Nat → Nat) (hb : Nat → Nat → Nat) (ad : Nat → Nat) (t : Nat → Int32) (n : Nat) (G : Nat → Nat → Int32) (g : Nat → Int32) (o z : Nat) (hn : n ≤ 60) (ho : o < 6) (hz : z ≤ 6) (r : Nat) (hr : r < 9) (n9 : Int32) (h1 : ¬ n9 < 1) (h2 : n9 ≤ 9) (hm : ¬ (xCh g r (-n9) 0).1 = -1) : cR sF l yX3_less wsX3_less rmX3_less D vwCl (tyA cI cO) [.ref xa, .int (nI r), .int n9] ((wS0 xa ad ha ta) ++ ((wT ta cI t (nI n)) ++ ((wHs ha hb cI cO G (nI o) (nI z)) ++ (wB ad cI g)))) (some (.int ((xCh g r (-n9) 1).1))) ((wS0 xa ad ha ta) ++ ((wT ta cI t (nI n)) ++ ((wHs ha hb cI cO (kG G o z g) (nI (kO o z)) (nI (kM z + 1))) ++ (wB ad cI ((xCh g r (-n9) 1).2))))) := by
  refine cR_of (cc := cX3_less) (maxL := 3) (ret := (some .int)) (by decide) rfl (Nat.le_of_ble_eq_true rfl) ?_
  intro p e s m below meth c A C hret hlk hnm hF
  refine g_lv [0, 1, 2] (lv' := [(0, .ref xa), (1, .int (nI r)), (2, .int n9)]) rfl ?_
  refine g_iload_n C dX3_less_0 1 rfl ?_
  refine g_callSv C (c_X3_checkRod l D cI cO r hr) gX3_less_X3_checkRod rfl ⟨rfl, rfl⟩ hd_X3_checkRod ⟨Nat.le_of_ble_eq_true rfl, Nat.le_of_ble_eq_true rfl⟩ [0, 1] rfl (fun _ _ => trivial) rfl (rest := []) rfl (Nat.le_of_ble_eq_true rfl) dX3_less_1 ⟨Nat.zero_le _, Nat.zero_le _⟩ (pre := []) (post := ((wS0 xa ad ha ta) ++ ((wT ta cI t (nI n)) ++ ((wHs ha hb cI cO G (nI o) (nI z)) ++ (wB ad cI g))))) (ws' := ((wS0 xa ad ha ta) ++ ((wT ta cI t (nI n)) ++ ((wHs ha hb cI cO G (nI o) (nI z)) ++ (wB ad cI g))))) rfl rfl ?_
  refine g_iload_n C dX3_less_4 2 rfl ?_
  refine g_iconst C (v := 1) dX3_less_5 ci_1 ?_
  refine g_bipush C (v := 9) dX3_less_6 cb_9 ?_
  refine g_callSv C (c_X3_checkRange l D cI cO n9 1 9 h1 h2) gX3_less_X3_checkRange rfl ⟨rfl, rfl⟩ hd_X3_checkRange ⟨Nat.le_of_ble_eq_true rfl, Nat.le_of_ble_eq_true rfl⟩ [0, 1] rfl (fun _ _ => trivial) rfl (rest := []) rfl (Nat.le_of_ble_eq_true rfl) dX3_less_8 ⟨Nat.zero_le _, Nat.zero_le _⟩ (pre := []) (post := ((wS0 xa ad ha ta) ++ ((wT ta cI t (nI n)) ++ ((wHs ha hb cI cO G (nI o) (nI z)) ++ (wB ad cI g))))) (ws' := ((wS0 xa ad ha ta) ++ ((wT ta cI t (nI n)) ++ ((wHs ha hb cI cO G (nI o) (nI z)) ++ (wB ad cI g))))) rfl rfl ?_
  refine g_aload_n C dX3_less_11 0 rfl ?_
  refine g_iload_n C dX3_less_12 1 rfl ?_
  refine g_iload_n C dX3_less_13 2 rfl ?_
  refine g_ineg C (v := -n9) dX3_less_14 rfl ?_
  refine g_callVi C (c_X3_changeOrThrow l D cI cO xa ta ha hb ad t n G g o z hn ho hz r hr (-n9) hm) gX3_less_X3_changeOrThrow rfl ⟨rfl, rfl⟩ hd_X3_changeOrThrow ⟨Nat.le_of_ble_eq_true rfl, Nat.le_of_ble_eq_true rfl⟩ [0, 1] rfl (sF_w hF) rfl (rest := []) rfl (Nat.le_of_ble_eq_true rfl) dX3_less_15 ⟨Nat.zero_le _, Nat.zero_le _⟩ 0 rfl rfl rfl (pre := []) (post := []) (ws' := ((wS0 xa ad ha ta) ++ ((wT ta cI t (nI n)) ++ ((wHs ha hb cI cO (kG G o z g) (nI (kO o z)) (nI (kM z + 1))) ++ (wB ad cI ((xCh g r (-n9) 1).2)))))) rfl rfl ?_
  exact g_iret C hret hlk dX3_less_18 rfl rfl
abbrev rmTX3_less_1 : Room := { frames := 7, cells := 1, slots := 6, locals := 102 }
set_option maxHeartbeats 4000000 in
set_option maxRecDepth 100000 in
theorem t_X3_less_1 (l : Launch) (hl : l.stackTraces = false) (D : va_G) (cI cO : ClassId) (xa : Nat) (ta ha : Nat → Nat) (hb : Nat → Nat → Nat) (ad : Nat → Nat) (t : Nat → Int32) (n : Nat) (G : Nat → Nat → Int32) (g : Nat → Int32) (o z : Nat) (hn : n ≤ 60) (ho : o < 6) (hz : z ≤ 6) (v n9 : Int32) (h : v < 0 ∨ ¬ v < 9) : cT sF l yX3_less wsX3_less rmTX3_less_1 D vwCl (tyA cI cO) [.ref xa, .int v, .int n9] ((wS0 xa ad ha ta) ++ ((wT ta cI t (nI n)) ++ ((wHs ha hb cI cO G (nI o) (nI z)) ++ (wB ad cI g)))) xIob := by
  refine cT_of (cc := cX3_less) (maxL := 3) (ret := (some .int)) (by decide) rfl (Nat.le_of_ble_eq_true rfl) ?_
  intro p e s m below meth c A C hlk hF hne hZ
  refine g_lv [0, 1, 2] (lv' := [(0, .ref xa), (1, .int v), (2, .int n9)]) rfl ?_
  refine g_iload_n C dX3_less_0 1 rfl ?_
  refine g_callST C hZ (t_X3_checkRod l hl D cI cO v h) gX3_less_X3_checkRod rfl ⟨rfl, rfl⟩ hd_X3_checkRod ⟨Nat.le_of_ble_eq_true rfl, Nat.le_of_ble_eq_true rfl⟩ [0, 1] rfl (sF_w hF) rfl (rest := []) rfl (Nat.le_of_ble_eq_true rfl) dX3_less_1 ⟨Nat.le_of_ble_eq_true rfl, Nat.le_of_ble_eq_true rfl⟩ (pre := []) (post := ((wS0 xa ad ha ta) ++ ((wT ta cI t (nI n)) ++ ((wHs ha hb cI cO G (nI o) (nI z)) ++ (wB ad cI g))))) rfl ?_
  exact g_out C hne hlk (Nat.le_refl _) (Nat.le_refl _)
abbrev rmTX3_less_2 : Room := { frames := 7, cells := 1, slots := 6, locals := 104 }
set_option maxHeartbeats 4000000 in
set_option maxRecDepth 100000 in
theorem t_X3_less_2 (l : Launch) (hl : l.stackTraces = false) (D : va_G) (cI cO : ClassId) (xa : Nat) (ta ha : Nat → Nat) (hb : Nat → Nat → Nat) (ad : Nat → Nat) (t : Nat → Int32) (n : Nat) (G : Nat → Nat → Int32) (g : Nat → Int32) (o z : Nat) (hn : n ≤ 60) (ho : o < 6) (hz : z ≤ 6) (r : Nat) (hr : r < 9) (n9 : Int32) (h : n9 < 1 ∨ ¬ n9 ≤ 9) : cT sF l yX3_less wsX3_less rmTX3_less_2 D vwCl (tyA cI cO) [.ref xa, .int (nI r), .int n9] ((wS0 xa ad ha ta) ++ ((wT ta cI t (nI n)) ++ ((wHs ha hb cI cO G (nI o) (nI z)) ++ (wB ad cI g)))) xIae := by
  refine cT_of (cc := cX3_less) (maxL := 3) (ret := (some .int)) (by decide) rfl (Nat.le_of_ble_eq_true rfl) ?_
  intro p e s m below meth c A C hlk hF hne hZ
  refine g_lv [0, 1, 2] (lv' := [(0, .ref xa), (1, .int (nI r)), (2, .int n9)]) rfl ?_
  refine g_iload_n C dX3_less_0 1 rfl ?_
  refine g_callSv C (c_X3_checkRod l D cI cO r hr) gX3_less_X3_checkRod rfl ⟨rfl, rfl⟩ hd_X3_checkRod ⟨Nat.le_of_ble_eq_true rfl, Nat.le_of_ble_eq_true rfl⟩ [0, 1] rfl (fun _ _ => trivial) rfl (rest := []) rfl (Nat.le_of_ble_eq_true rfl) dX3_less_1 ⟨Nat.zero_le _, Nat.zero_le _⟩ (pre := []) (post := ((wS0 xa ad ha ta) ++ ((wT ta cI t (nI n)) ++ ((wHs ha hb cI cO G (nI o) (nI z)) ++ (wB ad cI g))))) (ws' := ((wS0 xa ad ha ta) ++ ((wT ta cI t (nI n)) ++ ((wHs ha hb cI cO G (nI o) (nI z)) ++ (wB ad cI g))))) rfl rfl ?_
  refine g_iload_n C dX3_less_4 2 rfl ?_
  refine g_iconst C (v := 1) dX3_less_5 ci_1 ?_
  refine g_bipush C (v := 9) dX3_less_6 cb_9 ?_
  refine g_callST C hZ (t_X3_checkRange l hl D cI cO n9 1 9 h) gX3_less_X3_checkRange rfl ⟨rfl, rfl⟩ hd_X3_checkRange ⟨Nat.le_of_ble_eq_true rfl, Nat.le_of_ble_eq_true rfl⟩ [0, 1] rfl (sF_w hF) rfl (rest := []) rfl (Nat.le_of_ble_eq_true rfl) dX3_less_8 ⟨Nat.le_of_ble_eq_true rfl, Nat.le_of_ble_eq_true rfl⟩ (pre := []) (post := ((wS0 xa ad ha ta) ++ ((wT ta cI t (nI n)) ++ ((wHs ha hb cI cO G (nI o) (nI z)) ++ (wB ad cI g))))) rfl ?_
  exact g_out C hne hlk (Nat.le_refl _) (Nat.le_refl _)
abbrev rmTX3_less_3 : Room := { frames := 7, cells := 1, slots := 6, locals := 147 }
set_option maxHeartbeats 4000000 in
set_option maxRecDepth 100000 in
theorem t_X3_less_3 (l : Launch) (hl : l.stackTraces = false) (D : va_G) (cI cO : ClassId) (xa : Nat) (ta ha : Nat → Nat) (hb : Nat → Nat → Nat) (ad : Nat → Nat) (t : Nat → Int32) (n : Nat) (G : Nat → Nat → Int32) (g : Nat → Int32) (o z : Nat) (hn : n ≤ 60) (ho : o < 6) (hz : z ≤ 6) (r : Nat) (hr : r < 9) (n9 : Int32) (h1 : ¬ n9 < 1) (h2 : n9 ≤ 9) (h : (xCh g r (-n9) 0).1 = -1) : cT sF l yX3_less wsX3_less rmTX3_less_3 D vwCl (tyA cI cO) [.ref xa, .int (nI r), .int n9] ((wS0 xa ad ha ta) ++ ((wT ta cI t (nI n)) ++ ((wHs ha hb cI cO G (nI o) (nI z)) ++ (wB ad cI g)))) xIse := by
  refine cT_of (cc := cX3_less) (maxL := 3) (ret := (some .int)) (by decide) rfl (Nat.le_of_ble_eq_true rfl) ?_
  intro p e s m below meth c A C hlk hF hne hZ
  refine g_lv [0, 1, 2] (lv' := [(0, .ref xa), (1, .int (nI r)), (2, .int n9)]) rfl ?_
  refine g_iload_n C dX3_less_0 1 rfl ?_
  refine g_callSv C (c_X3_checkRod l D cI cO r hr) gX3_less_X3_checkRod rfl ⟨rfl, rfl⟩ hd_X3_checkRod ⟨Nat.le_of_ble_eq_true rfl, Nat.le_of_ble_eq_true rfl⟩ [0, 1] rfl (fun _ _ => trivial) rfl (rest := []) rfl (Nat.le_of_ble_eq_true rfl) dX3_less_1 ⟨Nat.zero_le _, Nat.zero_le _⟩ (pre := []) (post := ((wS0 xa ad ha ta) ++ ((wT ta cI t (nI n)) ++ ((wHs ha hb cI cO G (nI o) (nI z)) ++ (wB ad cI g))))) (ws' := ((wS0 xa ad ha ta) ++ ((wT ta cI t (nI n)) ++ ((wHs ha hb cI cO G (nI o) (nI z)) ++ (wB ad cI g))))) rfl rfl ?_
  refine g_iload_n C dX3_less_4 2 rfl ?_
  refine g_iconst C (v := 1) dX3_less_5 ci_1 ?_
  refine g_bipush C (v := 9) dX3_less_6 cb_9 ?_
  refine g_callSv C (c_X3_checkRange l D cI cO n9 1 9 h1 h2) gX3_less_X3_checkRange rfl ⟨rfl, rfl⟩ hd_X3_checkRange ⟨Nat.le_of_ble_eq_true rfl, Nat.le_of_ble_eq_true rfl⟩ [0, 1] rfl (fun _ _ => trivial) rfl (rest := []) rfl (Nat.le_of_ble_eq_true rfl) dX3_less_8 ⟨Nat.zero_le _, Nat.zero_le _⟩ (pre := []) (post := ((wS0 xa ad ha ta) ++ ((wT ta cI t (nI n)) ++ ((wHs ha hb cI cO G (nI o) (nI z)) ++ (wB ad cI g))))) (ws' := ((wS0 xa ad ha ta) ++ ((wT ta cI t (nI n)) ++ ((wHs ha hb cI cO G (nI o) (nI z)) ++ (wB ad cI g))))) rfl rfl ?_
  refine g_aload_n C dX3_less_11 0 rfl ?_
  refine g_iload_n C dX3_less_12 1 rfl ?_
  refine g_iload_n C dX3_less_13 2 rfl ?_
  refine g_ineg C (v := -n9) dX3_less_14 rfl ?_
  refine g_callVT C hZ (t_X3_changeOrThrow l hl D cI cO xa ta ha hb ad t n G g o z hn ho hz r hr (-n9) h) gX3_less_X3_changeOrThrow rfl ⟨rfl, rfl⟩ hd_X3_changeOrThrow ⟨Nat.le_of_ble_eq_true rfl, Nat.le_of_ble_eq_true rfl⟩ [0, 1] rfl (sF_w hF) rfl (rest := []) rfl (Nat.le_of_ble_eq_true rfl) dX3_less_15 ⟨Nat.le_of_ble_eq_true rfl, Nat.le_of_ble_eq_true rfl⟩ 0 rfl rfl rfl (pre := []) (post := []) rfl ?_
  exact g_out C hne hlk (Nat.le_refl _) (Nat.le_refl _)
theorem fw_X3_pay_fld12 : Cond.fieldLink RX3 12 "StuckRods" "board" "LStuckRods$Board;" ∈ wsX3_pay := (List.mem_cons_of_mem _ (List.mem_append_left _ (List.mem_append_left _ (List.mem_append_left _ (List.mem_append_left _ (List.mem_append_left _ (List.mem_append_left _ (List.mem_of_getElem? (i := 2) rfl))))))))
theorem fl_X3_pay_X3 : ∀ w ∈ wsX30, w ∈ wsX3_pay := fun _ h => List.mem_cons_of_mem _ (List.mem_append_left _ (List.mem_append_left _ (List.mem_append_left _ (List.mem_append_left _ (List.mem_append_right _ h)))))
theorem fw_X3_pay_fld69 : Cond.fieldLink RX3 69 "StuckRods$Board" "loan" "[I" ∈ wsX3_pay := (List.mem_cons_of_mem _ (List.mem_append_left _ (List.mem_append_left _ (List.mem_append_left _ (List.mem_append_left _ (List.mem_append_left _ (List.mem_append_left _ (List.mem_of_getElem? (i := 3) rfl))))))))
theorem fl_X3_pay_X0 : ∀ w ∈ wsX00, w ∈ wsX3_pay := fun _ h => List.mem_cons_of_mem _ (List.mem_append_left _ (List.mem_append_left _ (List.mem_append_left _ (List.mem_append_right _ h))))
theorem fw_X3_pay_fld19 : Cond.fieldLink RX3 19 "StuckRods" "history" "LStuckRods$History;" ∈ wsX3_pay := (List.mem_cons_of_mem _ (List.mem_append_left _ (List.mem_append_left _ (List.mem_append_left _ (List.mem_append_left _ (List.mem_append_left _ (List.mem_append_left _ (List.mem_of_getElem? (i := 4) rfl))))))))
theorem hd_X0_payIfPossible : yX0_payIfPossible.cls = RX0 ∧ yX0_payIfPossible.cls ≠ "java/lang/invoke/MethodHandle" ∧ yX0_payIfPossible.cls ≠ "java/lang/invoke/VarHandle" ∧ (parseMethodDescriptor yX0_payIfPossible.desc).map (fun d => d.parameters.length) = some 1 := by decide +kernel
abbrev rmX3_pay : Room := { frames := 6, cells := 0, slots := 0, locals := 147 }
set_option maxHeartbeats 4000000 in
set_option maxRecDepth 100000 in
theorem c_X3_pay (l : Launch) (D : va_G) (cI cO : ClassId) (xa : Nat) (ta ha : Nat → Nat) (hb : Nat → Nat → Nat) (ad : Nat → Nat) (t : Nat → Int32) (n : Nat) (G : Nat → Nat → Int32) (g : Nat → Int32) (o z : Nat) (hn : n ≤ 60) (ho : o < 6) (hz : z ≤ 6) (r : Nat) (hr : r < 9) (hm : ¬ (xCh g r (g (6 * r + 3)) 0).1 = -1) : cR sF l yX3_pay wsX3_pay rmX3_pay D vwCl (tyA cI cO) [.ref xa, .int (nI r)] ((wS0 xa ad ha ta) ++ ((wT ta cI t (nI n)) ++ ((wHs ha hb cI cO G (nI o) (nI z)) ++ (wB ad cI g)))) (some (.int ((xPa g r).1))) ((wS0 xa ad ha ta) ++ ((wT ta cI t (nI n)) ++ ((wHs ha hb cI cO (kG G o z g) (nI (kO o z)) (nI (kM z + 1))) ++ (wB ad cI ((xPa g r).2))))) := by
  refine cR_of (cc := cX3_pay) (maxL := 2) (ret := (some .int)) (by decide) rfl (Nat.le_of_ble_eq_true rfl) ?_
  intro p e s m below meth c A C hret hlk hnm hF
  refine g_lv [0, 1] (lv' := [(0, .ref xa), (1, .int (nI r))]) rfl ?_
  refine g_iload_n C dX3_pay_0 1 rfl ?_
  refine g_callSv C (c_X3_checkRod l D cI cO r hr) gX3_pay_X3_checkRod rfl ⟨rfl, rfl⟩ hd_X3_checkRod ⟨Nat.le_of_ble_eq_true rfl, Nat.le_of_ble_eq_true rfl⟩ [0, 1] rfl (fun _ _ => trivial) rfl (rest := []) rfl (Nat.le_of_ble_eq_true rfl) dX3_pay_1 ⟨Nat.zero_le _, Nat.zero_le _⟩ (pre := []) (post := ((wS0 xa ad ha ta) ++ ((wT ta cI t (nI n)) ++ ((wHs ha hb cI cO G (nI o) (nI z)) ++ (wB ad cI g))))) (ws' := ((wS0 xa ad ha ta) ++ ((wT ta cI t (nI n)) ++ ((wHs ha hb cI cO G (nI o) (nI z)) ++ (wB ad cI g))))) rfl rfl ?_
  refine g_aload_n C dX3_pay_4 0 rfl ?_
  refine g_get C (v := .ref (ad 0)) fl_X3_pay_X3 0 rfl rfl 0 (by decide) fw_X3_pay_fld12 rfl dX3_pay_5 ?_
  refine g_iload_n C dX3_pay_8 1 rfl ?_
  refine g_aload_n C dX3_pay_9 0 rfl ?_
  refine g_get C (v := .ref (ad 0)) fl_X3_pay_X3 0 rfl rfl 0 (by decide) fw_X3_pay_fld12 rfl dX3_pay_10 ?_
  refine g_get C (v := .ref (ad 4)) fl_X3_pay_X0 47 rfl rfl 3 (by decide) fw_X3_pay_fld69 rfl dX3_pay_13 ?_
  refine g_iload_n C dX3_pay_16 1 rfl ?_
  refine g_iald C (x := g (6 * r + 3)) 51 0 rfl rfl r rfl hr (by decide) rfl dX3_pay_17 ?_
  refine g_iconst C (v := 0) dX3_pay_18 ci_0 ?_
  refine g_callVi C (c0_X0_change l D cI cO ad g r hr (g (6 * r + 3))) gX3_pay_X0_change rfl ⟨rfl, rfl⟩ hd_X0_change ⟨Nat.le_of_ble_eq_true rfl, Nat.le_of_ble_eq_true rfl⟩ [0, 1] rfl (fun _ _ => trivial) rfl (rest := []) rfl (Nat.le_of_ble_eq_true rfl) dX3_pay_19 ⟨Nat.zero_le _, Nat.zero_le _⟩ 0 rfl rfl rfl (pre := ((wS0 xa ad ha ta) ++ ((wT ta cI t (nI n)) ++ (wHs ha hb cI cO G (nI o) (nI z))))) (post := []) (ws' := ((wS0 xa ad ha ta) ++ ((wT ta cI t (nI n)) ++ ((wHs ha hb cI cO G (nI o) (nI z)) ++ (wB ad cI g))))) rfl rfl ?_
  refine g_iconst C (v := -1) dX3_pay_22 ci_m1 ?_
  refine g_icmp_ne C (tgt := 36) dX3_pay_23 (by decide) (fun _ => ?_) (fun h23_1 => absurd h23_1 hm)
  refine g_aload_n C dX3_pay_36 0 rfl ?_
  refine g_get C (v := .ref (ha 0)) fl_X3_pay_X3 0 rfl rfl 1 (by decide) fw_X3_pay_fld19 rfl dX3_pay_37 ?_
  refine g_aload_n C dX3_pay_40 0 rfl ?_
  refine g_get C (v := .ref (ad 0)) fl_X3_pay_X3 0 rfl rfl 0 (by decide) fw_X3_pay_fld12 rfl dX3_pay_41 ?_
  refine g_callVv C (c_X1_keep l D cI cO ha hb ad G g o z ho hz) gX3_pay_X1_keep rfl ⟨rfl, rfl⟩ hd_X1_keep ⟨Nat.le_of_ble_eq_true rfl, Nat.le_of_ble_eq_true rfl⟩ [0, 1] rfl (fun _ _ => trivial) rfl (rest := []) rfl (Nat.le_of_ble_eq_true rfl) dX3_pay_44 ⟨Nat.zero_le _, Nat.zero_le _⟩ 0 rfl rfl rfl (pre := ((wS0 xa ad ha ta) ++ (wT ta cI t (nI n)))) (post := []) (ws' := ((wS0 xa ad ha ta) ++ ((wT ta cI t (nI n)) ++ ((wHs ha hb cI cO (kG G o z g) (nI (kO o z)) (nI (kM z + 1))) ++ (wB ad cI g))))) rfl rfl ?_
  refine g_aload_n C dX3_pay_47 0 rfl ?_
  refine g_get C (v := .ref (ad 0)) fl_X3_pay_X3 0 rfl rfl 0 (by decide) fw_X3_pay_fld12 rfl dX3_pay_48 ?_
  refine g_iload_n C dX3_pay_51 1 rfl ?_
  refine g_callVi C (c_X0_payIfPossible l D cI cO ad g r hr) gX3_pay_X0_payIfPossible rfl ⟨rfl, rfl⟩ hd_X0_payIfPossible ⟨Nat.le_of_ble_eq_true rfl, Nat.le_of_ble_eq_true rfl⟩ [0, 1] rfl (fun _ _ => trivial) rfl (rest := []) rfl (Nat.le_of_ble_eq_true rfl) dX3_pay_52 ⟨Nat.zero_le _, Nat.zero_le _⟩ 0 rfl rfl rfl (pre := ((wS0 xa ad ha ta) ++ ((wT ta cI t (nI n)) ++ (wHs ha hb cI cO (kG G o z g) (nI (kO o z)) (nI (kM z + 1)))))) (post := []) (ws' := ((wS0 xa ad ha ta) ++ ((wT ta cI t (nI n)) ++ ((wHs ha hb cI cO (kG G o z g) (nI (kO o z)) (nI (kM z + 1))) ++ (wB ad cI ((xPa g r).2)))))) rfl rfl ?_
  exact g_iret C hret hlk dX3_pay_55 rfl rfl
abbrev rmTX3_pay_1 : Room := { frames := 7, cells := 1, slots := 6, locals := 102 }
set_option maxHeartbeats 4000000 in
set_option maxRecDepth 100000 in
theorem t_X3_pay_1 (l : Launch) (hl : l.stackTraces = false) (D : va_G) (cI cO : ClassId) (xa : Nat) (ta ha : Nat → Nat) (hb : Nat → Nat → Nat) (ad : Nat → Nat) (t : Nat → Int32) (n : Nat) (G : Nat → Nat → Int32) (g : Nat → Int32) (o z : Nat) (hn : n ≤ 60) (ho : o < 6) (hz : z ≤ 6) (v : Int32) (h : v < 0 ∨ ¬ v < 9) : cT sF l yX3_pay wsX3_pay rmTX3_pay_1 D vwCl (tyA cI cO) [.ref xa, .int v] ((wS0 xa ad ha ta) ++ ((wT ta cI t (nI n)) ++ ((wHs ha hb cI cO G (nI o) (nI z)) ++ (wB ad cI g)))) xIob := by
  refine cT_of (cc := cX3_pay) (maxL := 2) (ret := (some .int)) (by decide) rfl (Nat.le_of_ble_eq_true rfl) ?_
  intro p e s m below meth c A C hlk hF hne hZ
  refine g_lv [0, 1] (lv' := [(0, .ref xa), (1, .int v)]) rfl ?_
  refine g_iload_n C dX3_pay_0 1 rfl ?_
  refine g_callST C hZ (t_X3_checkRod l hl D cI cO v h) gX3_pay_X3_checkRod rfl ⟨rfl, rfl⟩ hd_X3_checkRod ⟨Nat.le_of_ble_eq_true rfl, Nat.le_of_ble_eq_true rfl⟩ [0, 1] rfl (sF_w hF) rfl (rest := []) rfl (Nat.le_of_ble_eq_true rfl) dX3_pay_1 ⟨Nat.le_of_ble_eq_true rfl, Nat.le_of_ble_eq_true rfl⟩ (pre := []) (post := ((wS0 xa ad ha ta) ++ ((wT ta cI t (nI n)) ++ ((wHs ha hb cI cO G (nI o) (nI z)) ++ (wB ad cI g))))) rfl ?_
  exact g_out C hne hlk (Nat.le_refl _) (Nat.le_refl _)
theorem fw_X3_pay_clIllegalStateException : Cond.classLink RX3 42 "java/lang/IllegalStateException" ∈ wsX3_pay := (List.mem_cons_of_mem _ (List.mem_append_left _ (List.mem_append_left _ (List.mem_append_left _ (List.mem_append_left _ (List.mem_append_left _ (List.mem_append_left _ (List.mem_of_getElem? (i := 0) rfl))))))))
theorem fw_X3_pay_iniIllegalStateException : Cond.initialized "java/lang/IllegalStateException" ∈ wsX3_pay := (List.mem_cons_of_mem _ (List.mem_append_left _ (List.mem_append_left _ (List.mem_append_left _ (List.mem_append_left _ (List.mem_append_left _ (List.mem_append_left _ (List.mem_of_getElem? (i := 1) rfl))))))))
theorem fx_X3_pay_IllegalStateException : ∀ w ∈ (vx_atS RX3 46 xIse xNms).filter goodWord, w ∈ wsX3_pay := fun _ h => List.mem_cons_of_mem _ (List.mem_append_left _ (List.mem_append_right _ h))
abbrev rmTX3_pay_2 : Room := { frames := 6, cells := 1, slots := 6, locals := 125 }
set_option maxHeartbeats 4000000 in
set_option maxRecDepth 100000 in
theorem t_X3_pay_2 (l : Launch) (hl : l.stackTraces = false) (D : va_G) (cI cO : ClassId) (xa : Nat) (ta ha : Nat → Nat) (hb : Nat → Nat → Nat) (ad : Nat → Nat) (t : Nat → Int32) (n : Nat) (G : Nat → Nat → Int32) (g : Nat → Int32) (o z : Nat) (hn : n ≤ 60) (ho : o < 6) (hz : z ≤ 6) (r : Nat) (hr : r < 9) (h : (xCh g r (g (6 * r + 3)) 0).1 = -1) : cT sF l yX3_pay wsX3_pay rmTX3_pay_2 D vwCl (tyA cI cO) [.ref xa, .int (nI r)] ((wS0 xa ad ha ta) ++ ((wT ta cI t (nI n)) ++ ((wHs ha hb cI cO G (nI o) (nI z)) ++ (wB ad cI g)))) xIse := by
  refine cT_of (cc := cX3_pay) (maxL := 2) (ret := (some .int)) (by decide) rfl (Nat.le_of_ble_eq_true rfl) ?_
  intro p e s m below meth c A C hlk hF hne hZ
  refine g_lv [0, 1] (lv' := [(0, .ref xa), (1, .int (nI r))]) rfl ?_
  refine g_iload_n C dX3_pay_0 1 rfl ?_
  refine g_callSv C (c_X3_checkRod l D cI cO r hr) gX3_pay_X3_checkRod rfl ⟨rfl, rfl⟩ hd_X3_checkRod ⟨Nat.le_of_ble_eq_true rfl, Nat.le_of_ble_eq_true rfl⟩ [0, 1] rfl (fun _ _ => trivial) rfl (rest := []) rfl (Nat.le_of_ble_eq_true rfl) dX3_pay_1 ⟨Nat.zero_le _, Nat.zero_le _⟩ (pre := []) (post := ((wS0 xa ad ha ta) ++ ((wT ta cI t (nI n)) ++ ((wHs ha hb cI cO G (nI o) (nI z)) ++ (wB ad cI g))))) (ws' := ((wS0 xa ad ha ta) ++ ((wT ta cI t (nI n)) ++ ((wHs ha hb cI cO G (nI o) (nI z)) ++ (wB ad cI g))))) rfl rfl ?_
  refine g_aload_n C dX3_pay_4 0 rfl ?_
  refine g_get C (v := .ref (ad 0)) fl_X3_pay_X3 0 rfl rfl 0 (by decide) fw_X3_pay_fld12 rfl dX3_pay_5 ?_
  refine g_iload_n C dX3_pay_8 1 rfl ?_
  refine g_aload_n C dX3_pay_9 0 rfl ?_
  refine g_get C (v := .ref (ad 0)) fl_X3_pay_X3 0 rfl rfl 0 (by decide) fw_X3_pay_fld12 rfl dX3_pay_10 ?_
  refine g_get C (v := .ref (ad 4)) fl_X3_pay_X0 47 rfl rfl 3 (by decide) fw_X3_pay_fld69 rfl dX3_pay_13 ?_
  refine g_iload_n C dX3_pay_16 1 rfl ?_
  refine g_iald C (x := g (6 * r + 3)) 51 0 rfl rfl r rfl hr (by decide) rfl dX3_pay_17 ?_
  refine g_iconst C (v := 0) dX3_pay_18 ci_0 ?_
  refine g_callVi C (c0_X0_change l D cI cO ad g r hr (g (6 * r + 3))) gX3_pay_X0_change rfl ⟨rfl, rfl⟩ hd_X0_change ⟨Nat.le_of_ble_eq_true rfl, Nat.le_of_ble_eq_true rfl⟩ [0, 1] rfl (fun _ _ => trivial) rfl (rest := []) rfl (Nat.le_of_ble_eq_true rfl) dX3_pay_19 ⟨Nat.zero_le _, Nat.zero_le _⟩ 0 rfl rfl rfl (pre := ((wS0 xa ad ha ta) ++ ((wT ta cI t (nI n)) ++ (wHs ha hb cI cO G (nI o) (nI z))))) (post := []) (ws' := ((wS0 xa ad ha ta) ++ ((wT ta cI t (nI n)) ++ ((wHs ha hb cI cO G (nI o) (nI z)) ++ (wB ad cI g))))) rfl rfl ?_
  refine g_iconst C (v := -1) dX3_pay_22 ci_m1 ?_
  refine g_icmp_ne C (tgt := 36) dX3_pay_23 (by decide) (fun h23_1 => absurd h h23_1) (fun _ => ?_)
  exact g_throw (XN := xIse) (tx := "the loan cannot be paid back") C hl hF hZ hne hlk (by decide) (by decide) fw_X3_pay_clIllegalStateException fw_X3_pay_iniIllegalStateException fx_X3_pay_IllegalStateException ot_xIse bad_xIse fit_xIse dX3_pay_26 dX3_pay_29 dX3_pay_30 dX3_pay_32 dX3_pay_35 (Nat.le_of_ble_eq_true rfl) (Nat.le_of_ble_eq_true rfl) (Nat.le_of_ble_eq_true rfl) (Nat.le_of_ble_eq_true rfl) (Nat.le_refl _) (Nat.le_refl _)
theorem fw_X3_append_fld26 : Cond.fieldLink RX3 26 "StuckRods" "text" "LStuckRods$SumText;" ∈ wsX3_append := (List.mem_cons_of_mem _ (List.mem_append_left _ (List.mem_append_left _ (List.mem_append_left _ (List.mem_append_left _ (List.mem_of_getElem? (i := 2) rfl))))))
theorem fl_X3_append_X3 : ∀ w ∈ wsX30, w ∈ wsX3_append := fun _ h => List.mem_cons_of_mem _ (List.mem_append_left _ (List.mem_append_left _ (List.mem_append_left _ (List.mem_append_right _ h))))
theorem fw_X3_append_fld85 : Cond.fieldLink RX3 85 "StuckRods$SumText" "length" "I" ∈ wsX3_append := (List.mem_cons_of_mem _ (List.mem_append_left _ (List.mem_append_left _ (List.mem_append_left _ (List.mem_append_left _ (List.mem_of_getElem? (i := 3) rfl))))))
theorem fl_X3_append_X2 : ∀ w ∈ wsX20, w ∈ wsX3_append := fun _ h => List.mem_cons_of_mem _ (List.mem_append_left _ (List.mem_append_left _ (List.mem_append_right _ h)))
theorem fw_X3_append_fld90 : Cond.fieldLink RX3 90 "StuckRods$SumText" "codes" "[I" ∈ wsX3_append := (List.mem_cons_of_mem _ (List.mem_append_left _ (List.mem_append_left _ (List.mem_append_left _ (List.mem_append_left _ (List.mem_of_getElem? (i := 4) rfl))))))
abbrev rmX3_append : Room := { frames := 1, cells := 0, slots := 0, locals := 22 }
set_option maxHeartbeats 4000000 in
set_option maxRecDepth 100000 in
theorem c_X3_append (l : Launch) (D : va_G) (cI cO : ClassId) (xa : Nat) (ta ha : Nat → Nat) (hb : Nat → Nat → Nat) (ad : Nat → Nat) (t : Nat → Int32) (n : Nat) (G : Nat → Nat → Int32) (g : Nat → Int32) (o z : Nat) (hn : n ≤ 60) (ho : o < 6) (hz : z ≤ 6) (v : Int32) (h1 : ¬ v < 33) (h2 : v ≤ 126) (hf : n < 60) : cR sF l yX3_append wsX3_append rmX3_append D vwCl (tyA cI cO) [.ref xa, .int v] ((wS0 xa ad ha ta) ++ ((wT ta cI t (nI n)) ++ ((wHs ha hb cI cO G (nI o) (nI z)) ++ (wB ad cI g)))) (some (.int (nI (n + 1)))) ((wS0 xa ad ha ta) ++ ((wT ta cI (upd t n v) (nI (n + 1))) ++ ((wHs ha hb cI cO G (nI o) (nI z)) ++ (wB ad cI g)))) := by
  refine cR_of (cc := cX3_append) (maxL := 2) (ret := (some .int)) (by decide) rfl (Nat.le_of_ble_eq_true rfl) ?_
  intro p e s m below meth c A C hret hlk hnm hF
  refine g_lv [0, 1] (lv' := [(0, .ref xa), (1, .int v)]) rfl ?_
  refine g_iload_n C dX3_append_0 1 rfl ?_
  refine g_bipush C (v := 33) dX3_append_1 cb_33 ?_
  refine g_bipush C (v := 126) dX3_append_3 cb_126 ?_
  refine g_callSv C (c_X3_checkRange l D cI cO v 33 126 h1 h2) gX3_append_X3_checkRange rfl ⟨rfl, rfl⟩ hd_X3_checkRange ⟨Nat.le_of_ble_eq_true rfl, Nat.le_of_ble_eq_true rfl⟩ [0, 1] rfl (fun _ _ => trivial) rfl (rest := []) rfl (Nat.le_of_ble_eq_true rfl) dX3_append_5 ⟨Nat.zero_le _, Nat.zero_le _⟩ (pre := []) (post := ((wS0 xa ad ha ta) ++ ((wT ta cI t (nI n)) ++ ((wHs ha hb cI cO G (nI o) (nI z)) ++ (wB ad cI g))))) (ws' := ((wS0 xa ad ha ta) ++ ((wT ta cI t (nI n)) ++ ((wHs ha hb cI cO G (nI o) (nI z)) ++ (wB ad cI g))))) rfl rfl ?_
  refine g_aload_n C dX3_append_8 0 rfl ?_
  refine g_get C (v := .ref (ta 0)) fl_X3_append_X3 0 rfl rfl 2 (by decide) fw_X3_append_fld26 rfl dX3_append_9 ?_
  refine g_get C (v := .int (nI n)) fl_X3_append_X2 1 rfl rfl 1 (by decide) fw_X3_append_fld85 rfl dX3_append_12 ?_
  refine g_bipush C (v := 60) dX3_append_15 cb_60 ?_
  refine g_icmp_lt C (tgt := 30) dX3_append_17 (by decide) (fun _ => ?_) (fun h17_1 => absurd (nI_lt (b := 60) hf (by decide)) h17_1)
  refine g_aload_n C dX3_append_30 0 rfl ?_
  refine g_get C (v := .ref (ta 0)) fl_X3_append_X3 0 rfl rfl 2 (by decide) fw_X3_append_fld26 rfl dX3_append_31 ?_
  refine g_get C (v := .ref (ta 1)) fl_X3_append_X2 1 rfl rfl 0 (by decide) fw_X3_append_fld90 rfl dX3_append_34 ?_
  refine g_aload_n C dX3_append_37 0 rfl ?_
  refine g_get C (v := .ref (ta 0)) fl_X3_append_X3 0 rfl rfl 2 (by decide) fw_X3_append_fld26 rfl dX3_append_38 ?_
  refine g_get C (v := .int (nI n)) fl_X3_append_X2 1 rfl rfl 1 (by decide) fw_X3_append_fld85 rfl dX3_append_41 ?_
  refine g_iload_n C dX3_append_44 1 rfl ?_
  refine g_iast C (ws' := ((wS0 xa ad ha ta) ++ ((wT ta cI (upd t n v) (nI n)) ++ ((wHs ha hb cI cO G (nI o) (nI z)) ++ (wB ad cI g))))) 2 0 rfl rfl n rfl hf (by decide) dX3_append_45 (ws_setr (q1 := 1) rfl (ws_setl (Nat.le_of_ble_eq_true rfl) rfl)) ?_
  refine g_aload_n C dX3_append_46 0 rfl ?_
  refine g_get C (v := .ref (ta 0)) fl_X3_append_X3 0 rfl rfl 2 (by decide) fw_X3_append_fld26 rfl dX3_append_47 ?_
  refine g_dup C dX3_append_50 rfl ?_
  refine g_get C (v := .int (nI n)) fl_X3_append_X2 1 rfl rfl 1 (by decide) fw_X3_append_fld85 rfl dX3_append_51 ?_
  refine g_iconst C (v := 1) dX3_append_54 ci_1 ?_
  refine g_iadd C (v := nI (n + 1)) dX3_append_55 (nI_1 _) ?_
  refine g_put C (ws' := ((wS0 xa ad ha ta) ++ ((wT ta cI (upd t n v) (nI (n + 1))) ++ ((wHs ha hb cI cO G (nI o) (nI z)) ++ (wB ad cI g))))) fl_X3_append_X2 tyX2 tyX2_ok nmX2 1 rfl rfl 1 (by decide) fw_X3_append_fld85 rfl (tyX2_ok 1 (by decide)) rfl rfl (Nat.le_of_ble_eq_true rfl) dX3_append_56 (ws_setr (q1 := 0) rfl (ws_setl (Nat.le_of_ble_eq_true rfl) rfl)) ?_
  refine g_aload_n C dX3_append_59 0 rfl ?_
  refine g_get C (v := .ref (ta 0)) fl_X3_append_X3 0 rfl rfl 2 (by decide) fw_X3_append_fld26 rfl dX3_append_60 ?_
  refine g_get C (v := .int (nI (n + 1))) fl_X3_append_X2 1 rfl rfl 1 (by decide) fw_X3_append_fld85 rfl dX3_append_63 ?_
  exact g_iret C hret hlk dX3_append_66 rfl rfl
abbrev rmTX3_append_1 : Room := { frames := 7, cells := 1, slots := 6, locals := 104 }
set_option maxHeartbeats 4000000 in
set_option maxRecDepth 100000 in
theorem t_X3_append_1 (l : Launch) (hl : l.stackTraces = false) (D : va_G) (cI cO : ClassId) (xa : Nat) (ta ha : Nat → Nat) (hb : Nat → Nat → Nat) (ad : Nat → Nat) (t : Nat → Int32) (n : Nat) (G : Nat → Nat → Int32) (g : Nat → Int32) (o z : Nat) (hn : n ≤ 60) (ho : o < 6) (hz : z ≤ 6) (v : Int32) (h : v < 33 ∨ ¬ v ≤ 126) : cT sF l yX3_append wsX3_append rmTX3_append_1 D vwCl (tyA cI cO) [.ref xa, .int v] ((wS0 xa ad ha ta) ++ ((wT ta cI t (nI n)) ++ ((wHs ha hb cI cO G (nI o) (nI z)) ++ (wB ad cI g)))) xIae := by
  refine cT_of (cc := cX3_append) (maxL := 2) (ret := (some .int)) (by decide) rfl (Nat.le_of_ble_eq_true rfl) ?_
  intro p e s m below meth c A C hlk hF hne hZ
  refine g_lv [0, 1] (lv' := [(0, .ref xa), (1, .int v)]) rfl ?_
  refine g_iload_n C dX3_append_0 1 rfl ?_
  refine g_bipush C (v := 33) dX3_append_1 cb_33 ?_
  refine g_bipush C (v := 126) dX3_append_3 cb_126 ?_
  refine g_callST C hZ (t_X3_checkRange l hl D cI cO v 33 126 h) gX3_append_X3_checkRange rfl ⟨rfl, rfl⟩ hd_X3_checkRange ⟨Nat.le_of_ble_eq_true rfl, Nat.le_of_ble_eq_true rfl⟩ [0, 1] rfl (sF_w hF) rfl (rest := []) rfl (Nat.le_of_ble_eq_true rfl) dX3_append_5 ⟨Nat.le_of_ble_eq_true rfl, Nat.le_of_ble_eq_true rfl⟩ (pre := []) (post := ((wS0 xa ad ha ta) ++ ((wT ta cI t (nI n)) ++ ((wHs ha hb cI cO G (nI o) (nI z)) ++ (wB ad cI g))))) rfl ?_
  exact g_out C hne hlk (Nat.le_refl _) (Nat.le_refl _)
theorem fw_X3_append_clIllegalStateException : Cond.classLink RX3 42 "java/lang/IllegalStateException" ∈ wsX3_append := (List.mem_cons_of_mem _ (List.mem_append_left _ (List.mem_append_left _ (List.mem_append_left _ (List.mem_append_left _ (List.mem_of_getElem? (i := 0) rfl))))))
theorem fw_X3_append_iniIllegalStateException : Cond.initialized "java/lang/IllegalStateException" ∈ wsX3_append := (List.mem_cons_of_mem _ (List.mem_append_left _ (List.mem_append_left _ (List.mem_append_left _ (List.mem_append_left _ (List.mem_of_getElem? (i := 1) rfl))))))
theorem fx_X3_append_IllegalStateException : ∀ w ∈ (vx_atS RX3 46 xIse xNms).filter goodWord, w ∈ wsX3_append := fun _ h => List.mem_cons_of_mem _ (List.mem_append_left _ (List.mem_append_right _ h))
abbrev rmTX3_append_2 : Room := { frames := 6, cells := 1, slots := 6, locals := 82 }
set_option maxHeartbeats 4000000 in
set_option maxRecDepth 100000 in
theorem t_X3_append_2 (l : Launch) (hl : l.stackTraces = false) (D : va_G) (cI cO : ClassId) (xa : Nat) (ta ha : Nat → Nat) (hb : Nat → Nat → Nat) (ad : Nat → Nat) (t : Nat → Int32) (n : Nat) (G : Nat → Nat → Int32) (g : Nat → Int32) (o z : Nat) (hn : n ≤ 60) (ho : o < 6) (hz : z ≤ 6) (v : Int32) (h1 : ¬ v < 33) (h2 : v ≤ 126) (hf : n = 60) : cT sF l yX3_append wsX3_append rmTX3_append_2 D vwCl (tyA cI cO) [.ref xa, .int v] ((wS0 xa ad ha ta) ++ ((wT ta cI t (nI n)) ++ ((wHs ha hb cI cO G (nI o) (nI z)) ++ (wB ad cI g)))) xIse := by
  refine cT_of (cc := cX3_append) (maxL := 2) (ret := (some .int)) (by decide) rfl (Nat.le_of_ble_eq_true rfl) ?_
  intro p e s m below meth c A C hlk hF hne hZ
  refine g_lv [0, 1] (lv' := [(0, .ref xa), (1, .int v)]) rfl ?_
  refine g_iload_n C dX3_append_0 1 rfl ?_
  refine g_bipush C (v := 33) dX3_append_1 cb_33 ?_
  refine g_bipush C (v := 126) dX3_append_3 cb_126 ?_
  refine g_callSv C (c_X3_checkRange l D cI cO v 33 126 h1 h2) gX3_append_X3_checkRange rfl ⟨rfl, rfl⟩ hd_X3_checkRange ⟨Nat.le_of_ble_eq_true rfl, Nat.le_of_ble_eq_true rfl⟩ [0, 1] rfl (fun _ _ => trivial) rfl (rest := []) rfl (Nat.le_of_ble_eq_true rfl) dX3_append_5 ⟨Nat.zero_le _, Nat.zero_le _⟩ (pre := []) (post := ((wS0 xa ad ha ta) ++ ((wT ta cI t (nI n)) ++ ((wHs ha hb cI cO G (nI o) (nI z)) ++ (wB ad cI g))))) (ws' := ((wS0 xa ad ha ta) ++ ((wT ta cI t (nI n)) ++ ((wHs ha hb cI cO G (nI o) (nI z)) ++ (wB ad cI g))))) rfl rfl ?_
  refine g_aload_n C dX3_append_8 0 rfl ?_
  refine g_get C (v := .ref (ta 0)) fl_X3_append_X3 0 rfl rfl 2 (by decide) fw_X3_append_fld26 rfl dX3_append_9 ?_
  refine g_get C (v := .int (nI n)) fl_X3_append_X2 1 rfl rfl 1 (by decide) fw_X3_append_fld85 rfl dX3_append_12 ?_
  refine g_bipush C (v := 60) dX3_append_15 cb_60 ?_
  refine g_icmp_lt C (tgt := 30) dX3_append_17 (by decide) (fun h17_1 => absurd h17_1 (nI_nlt (b := 60) (by omega) (by omega))) (fun _ => ?_)
  exact g_throw (XN := xIse) (tx := "the buffer is full") C hl hF hZ hne hlk (by decide) (by decide) fw_X3_append_clIllegalStateException fw_X3_append_iniIllegalStateException fx_X3_append_IllegalStateException ot_xIse bad_xIse fit_xIse dX3_append_20 dX3_append_23 dX3_append_24 dX3_append_26 dX3_append_29 (Nat.le_of_ble_eq_true rfl) (Nat.le_of_ble_eq_true rfl) (Nat.le_of_ble_eq_true rfl) (Nat.le_of_ble_eq_true rfl) (Nat.le_refl _) (Nat.le_refl _)
theorem fw_X3_clearBuffer_fld26 : Cond.fieldLink RX3 26 "StuckRods" "text" "LStuckRods$SumText;" ∈ wsX3_clearBuffer := (List.mem_cons_of_mem _ (List.mem_append_left _ (List.mem_append_left _ (List.mem_of_getElem? (i := 0) rfl))))
theorem fl_X3_clearBuffer_X3 : ∀ w ∈ wsX30, w ∈ wsX3_clearBuffer := fun _ h => List.mem_cons_of_mem _ (List.mem_append_left _ (List.mem_append_right _ h))
theorem fw_X3_clearBuffer_fld85 : Cond.fieldLink RX3 85 "StuckRods$SumText" "length" "I" ∈ wsX3_clearBuffer := (List.mem_cons_of_mem _ (List.mem_append_left _ (List.mem_append_left _ (List.mem_of_getElem? (i := 1) rfl))))
theorem fl_X3_clearBuffer_X2 : ∀ w ∈ wsX20, w ∈ wsX3_clearBuffer := fun _ h => List.mem_cons_of_mem _ (List.mem_append_right _ h)
abbrev rmX3_clearBuffer : Room := { frames := 0, cells := 0, slots := 0, locals := 0 }
set_option maxHeartbeats 4000000 in
set_option maxRecDepth 100000 in
theorem c_X3_clearBuffer (l : Launch) (D : va_G) (cI cO : ClassId) (xa : Nat) (ta ha : Nat → Nat) (hb : Nat → Nat → Nat) (ad : Nat → Nat) (t : Nat → Int32) (n : Nat) (G : Nat → Nat → Int32) (g : Nat → Int32) (o z : Nat) (hn : n ≤ 60) (ho : o < 6) (hz : z ≤ 6)  : cR sF l yX3_clearBuffer wsX3_clearBuffer rmX3_clearBuffer D vwCl (tyA cI cO) [.ref xa] ((wS0 xa ad ha ta) ++ ((wT ta cI t (nI n)) ++ ((wHs ha hb cI cO G (nI o) (nI z)) ++ (wB ad cI g)))) (some (.int (nI n))) ((wS0 xa ad ha ta) ++ ((wT ta cI t (nI 0)) ++ ((wHs ha hb cI cO G (nI o) (nI z)) ++ (wB ad cI g)))) := by
  refine cR_of (cc := cX3_clearBuffer) (maxL := 2) (ret := (some .int)) (by decide) rfl (Nat.le_of_ble_eq_true rfl) ?_
  intro p e s m below meth c A C hret hlk hnm hF
  refine g_lv [0] (lv' := [(0, .ref xa)]) rfl ?_
  refine g_aload_n C dX3_clearBuffer_0 0 rfl ?_
  refine g_get C (v := .ref (ta 0)) fl_X3_clearBuffer_X3 0 rfl rfl 2 (by decide) fw_X3_clearBuffer_fld26 rfl dX3_clearBuffer_1 ?_
  refine g_get C (v := .int (nI n)) fl_X3_clearBuffer_X2 1 rfl rfl 1 (by decide) fw_X3_clearBuffer_fld85 rfl dX3_clearBuffer_4 ?_
  refine g_istore_n C (lv' := [(1, .int (nI n)), (0, .ref xa)]) dX3_clearBuffer_7 rfl (by decide) rfl ?_
  refine g_aload_n C dX3_clearBuffer_8 1 rfl ?_
  refine g_get C (v := .ref (ta 0)) fl_X3_clearBuffer_X3 0 rfl rfl 2 (by decide) fw_X3_clearBuffer_fld26 rfl dX3_clearBuffer_9 ?_
  refine g_iconst C (v := 0) dX3_clearBuffer_12 ci_0 ?_
  refine g_put C (ws' := ((wS0 xa ad ha ta) ++ ((wT ta cI t 0) ++ ((wHs ha hb cI cO G (nI o) (nI z)) ++ (wB ad cI g))))) fl_X3_clearBuffer_X2 tyX2 tyX2_ok nmX2 1 rfl rfl 1 (by decide) fw_X3_clearBuffer_fld85 rfl (tyX2_ok 1 (by decide)) rfl rfl (Nat.le_of_ble_eq_true rfl) dX3_clearBuffer_13 (ws_setr (q1 := 0) rfl (ws_setl (Nat.le_of_ble_eq_true rfl) rfl)) ?_
  refine g_iload_n C dX3_clearBuffer_16 0 rfl ?_
  exact g_iret C hret hlk dX3_clearBuffer_17 rfl rfl
theorem fw_X3_firstError_fld26 : Cond.fieldLink RX3 26 "StuckRods" "text" "LStuckRods$SumText;" ∈ wsX3_firstError := (List.mem_cons_of_mem _ (List.mem_append_left _ (List.mem_append_left _ (List.mem_of_getElem? (i := 0) rfl))))
theorem fl_X3_firstError_X3 : ∀ w ∈ wsX30, w ∈ wsX3_firstError := fun _ h => List.mem_cons_of_mem _ (List.mem_append_left _ (List.mem_append_right _ h))
abbrev rmX3_firstError : Room := { frames := 2, cells := 0, slots := 0, locals := 43 }
set_option maxHeartbeats 4000000 in
set_option maxRecDepth 100000 in
theorem c_X3_firstError (l : Launch) (D : va_G) (cI cO : ClassId) (xa : Nat) (ta ha : Nat → Nat) (hb : Nat → Nat → Nat) (ad : Nat → Nat) (t : Nat → Int32) (n : Nat) (G : Nat → Nat → Int32) (g : Nat → Int32) (o z : Nat) (hn : n ≤ 60) (ho : o < 6) (hz : z ≤ 6)  : cR sF l yX3_firstError wsX3_firstError rmX3_firstError D vwCl (tyA cI cO) [.ref xa] ((wS0 xa ad ha ta) ++ ((wT ta cI t (nI n)) ++ ((wHs ha hb cI cO G (nI o) (nI z)) ++ (wB ad cI g)))) (some (.int (xFW t n))) ((wS0 xa ad ha ta) ++ ((wT ta cI t (nI n)) ++ ((wHs ha hb cI cO G (nI o) (nI z)) ++ (wB ad cI g)))) := by
  refine cR_of (cc := cX3_firstError) (maxL := 1) (ret := (some .int)) (by decide) rfl (Nat.le_of_ble_eq_true rfl) ?_
  intro p e s m below meth c A C hret hlk hnm hF
  refine g_lv [0] (lv' := [(0, .ref xa)]) rfl ?_
  refine g_aload_n C dX3_firstError_0 0 rfl ?_
  refine g_get C (v := .ref (ta 0)) fl_X3_firstError_X3 0 rfl rfl 2 (by decide) fw_X3_firstError_fld26 rfl dX3_firstError_1 ?_
  refine g_callVi C (c_X2_firstWrong l D cI cO ta t n hn) gX3_firstError_X2_firstWrong rfl ⟨rfl, rfl⟩ hd_X2_firstWrong ⟨Nat.le_of_ble_eq_true rfl, Nat.le_of_ble_eq_true rfl⟩ [0, 1] rfl (nF_w hF.1) rfl (rest := []) rfl (Nat.le_of_ble_eq_true rfl) dX3_firstError_4 ⟨Nat.zero_le _, Nat.zero_le _⟩ 0 rfl rfl rfl (pre := (wS0 xa ad ha ta)) (post := ((wHs ha hb cI cO G (nI o) (nI z)) ++ (wB ad cI g))) (ws' := ((wS0 xa ad ha ta) ++ ((wT ta cI t (nI n)) ++ ((wHs ha hb cI cO G (nI o) (nI z)) ++ (wB ad cI g))))) rfl rfl ?_
  exact g_iret C hret hlk dX3_firstError_7 rfl rfl
theorem fw_X3_undo_fld19 : Cond.fieldLink RX3 19 "StuckRods" "history" "LStuckRods$History;" ∈ wsX3_undo := (List.mem_cons_of_mem _ (List.mem_append_left _ (List.mem_append_left _ (List.mem_append_left _ (List.mem_append_left _ (List.mem_append_left _ (List.mem_of_getElem? (i := 2) rfl)))))))
theorem fl_X3_undo_X3 : ∀ w ∈ wsX30, w ∈ wsX3_undo := fun _ h => List.mem_cons_of_mem _ (List.mem_append_left _ (List.mem_append_left _ (List.mem_append_left _ (List.mem_append_right _ h))))
theorem fw_X3_undo_fld116 : Cond.fieldLink RX3 116 "StuckRods$History" "size" "I" ∈ wsX3_undo := (List.mem_cons_of_mem _ (List.mem_append_left _ (List.mem_append_left _ (List.mem_append_left _ (List.mem_append_left _ (List.mem_append_left _ (List.mem_of_getElem? (i := 3) rfl)))))))
theorem fl_X3_undo_X1 : ∀ w ∈ wsX10, w ∈ wsX3_undo := fun _ h => List.mem_cons_of_mem _ (List.mem_append_left _ (List.mem_append_left _ (List.mem_append_right _ h)))
theorem fw_X3_undo_fld12 : Cond.fieldLink RX3 12 "StuckRods" "board" "LStuckRods$Board;" ∈ wsX3_undo := (List.mem_cons_of_mem _ (List.mem_append_left _ (List.mem_append_left _ (List.mem_append_left _ (List.mem_append_left _ (List.mem_append_left _ (List.mem_of_getElem? (i := 4) rfl)))))))
theorem hd_X1_restore : yX1_restore.cls = RX1 ∧ yX1_restore.cls ≠ "java/lang/invoke/MethodHandle" ∧ yX1_restore.cls ≠ "java/lang/invoke/VarHandle" ∧ (parseMethodDescriptor yX1_restore.desc).map (fun d => d.parameters.length) = some 1 := by decide +kernel
abbrev rmX3_undo : Room := { frames := 2, cells := 0, slots := 0, locals := 43 }
set_option maxHeartbeats 4000000 in
set_option maxRecDepth 100000 in
theorem c_X3_undo (l : Launch) (D : va_G) (cI cO : ClassId) (xa : Nat) (ta ha : Nat → Nat) (hb : Nat → Nat → Nat) (ad : Nat → Nat) (t : Nat → Int32) (n : Nat) (G : Nat → Nat → Int32) (g : Nat → Int32) (o z : Nat) (hn : n ≤ 60) (ho : o < 6) (hz : z ≤ 6) (hp : 0 < z) : cR sF l yX3_undo wsX3_undo rmX3_undo D vwCl (tyA cI cO) [.ref xa] ((wS0 xa ad ha ta) ++ ((wT ta cI t (nI n)) ++ ((wHs ha hb cI cO G (nI o) (nI z)) ++ (wB ad cI g)))) (some (.int (nI (z - 1)))) ((wS0 xa ad ha ta) ++ ((wT ta cI t (nI n)) ++ ((wHs ha hb cI cO G (nI o) (nI (z - 1))) ++ (wB ad cI (G (rI o z)))))) := by
  refine cR_of (cc := cX3_undo) (maxL := 1) (ret := (some .int)) (by decide) rfl (Nat.le_of_ble_eq_true rfl) ?_
  intro p e s m below meth c A C hret hlk hnm hF
  refine g_lv [0] (lv' := [(0, .ref xa)]) rfl ?_
  refine g_aload_n C dX3_undo_0 0 rfl ?_
  refine g_get C (v := .ref (ha 0)) fl_X3_undo_X3 0 rfl rfl 1 (by decide) fw_X3_undo_fld19 rfl dX3_undo_1 ?_
  refine g_get C (v := .int (nI z)) fl_X3_undo_X1 3 rfl rfl 2 (by decide) fw_X3_undo_fld116 rfl dX3_undo_4 ?_
  refine g_if_ne C (tgt := 20) dX3_undo_7 (by decide) (fun _ => ?_) (fun h7_1 => absurd h7_1 (nI_ne0 hp (by omega)))
  refine g_aload_n C dX3_undo_20 0 rfl ?_
  refine g_get C (v := .ref (ha 0)) fl_X3_undo_X3 0 rfl rfl 1 (by decide) fw_X3_undo_fld19 rfl dX3_undo_21 ?_
  refine g_aload_n C dX3_undo_24 0 rfl ?_
  refine g_get C (v := .ref (ad 0)) fl_X3_undo_X3 0 rfl rfl 0 (by decide) fw_X3_undo_fld12 rfl dX3_undo_25 ?_
  refine g_callVv C (c_X1_restore l D cI cO ha hb ad G g o z ho hz hp) gX3_undo_X1_restore rfl ⟨rfl, rfl⟩ hd_X1_restore ⟨Nat.le_of_ble_eq_true rfl, Nat.le_of_ble_eq_true rfl⟩ [0, 1] rfl (fun _ _ => trivial) rfl (rest := []) rfl (Nat.le_of_ble_eq_true rfl) dX3_undo_28 ⟨Nat.zero_le _, Nat.zero_le _⟩ 0 rfl rfl rfl (pre := ((wS0 xa ad ha ta) ++ (wT ta cI t (nI n)))) (post := []) (ws' := ((wS0 xa ad ha ta) ++ ((wT ta cI t (nI n)) ++ ((wHs ha hb cI cO G (nI o) (nI (z - 1))) ++ (wB ad cI (G (rI o z))))))) rfl rfl ?_
  refine g_aload_n C dX3_undo_31 0 rfl ?_
  refine g_get C (v := .ref (ha 0)) fl_X3_undo_X3 0 rfl rfl 1 (by decide) fw_X3_undo_fld19 rfl dX3_undo_32 ?_
  refine g_get C (v := .int (nI (z - 1))) fl_X3_undo_X1 3 rfl rfl 2 (by decide) fw_X3_undo_fld116 rfl dX3_undo_35 ?_
  exact g_iret C hret hlk dX3_undo_38 rfl rfl
theorem fw_X3_undo_clIllegalStateException : Cond.classLink RX3 42 "java/lang/IllegalStateException" ∈ wsX3_undo := (List.mem_cons_of_mem _ (List.mem_append_left _ (List.mem_append_left _ (List.mem_append_left _ (List.mem_append_left _ (List.mem_append_left _ (List.mem_of_getElem? (i := 0) rfl)))))))
theorem fw_X3_undo_iniIllegalStateException : Cond.initialized "java/lang/IllegalStateException" ∈ wsX3_undo := (List.mem_cons_of_mem _ (List.mem_append_left _ (List.mem_append_left _ (List.mem_append_left _ (List.mem_append_left _ (List.mem_append_left _ (List.mem_of_getElem? (i := 1) rfl)))))))
theorem fx_X3_undo_IllegalStateException : ∀ w ∈ (vx_atS RX3 46 xIse xNms).filter goodWord, w ∈ wsX3_undo := fun _ h => List.mem_cons_of_mem _ (List.mem_append_right _ h)
abbrev rmTX3_undo_1 : Room := { frames := 6, cells := 1, slots := 6, locals := 82 }
set_option maxHeartbeats 4000000 in
set_option maxRecDepth 100000 in
theorem t_X3_undo_1 (l : Launch) (hl : l.stackTraces = false) (D : va_G) (cI cO : ClassId) (xa : Nat) (ta ha : Nat → Nat) (hb : Nat → Nat → Nat) (ad : Nat → Nat) (t : Nat → Int32) (n : Nat) (G : Nat → Nat → Int32) (g : Nat → Int32) (o z : Nat) (hn : n ≤ 60) (ho : o < 6) (hz : z ≤ 6) (hp : z = 0) : cT sF l yX3_undo wsX3_undo rmTX3_undo_1 D vwCl (tyA cI cO) [.ref xa] ((wS0 xa ad ha ta) ++ ((wT ta cI t (nI n)) ++ ((wHs ha hb cI cO G (nI o) (nI z)) ++ (wB ad cI g)))) xIse := by
  refine cT_of (cc := cX3_undo) (maxL := 1) (ret := (some .int)) (by decide) rfl (Nat.le_of_ble_eq_true rfl) ?_
  intro p e s m below meth c A C hlk hF hne hZ
  refine g_lv [0] (lv' := [(0, .ref xa)]) rfl ?_
  refine g_aload_n C dX3_undo_0 0 rfl ?_
  refine g_get C (v := .ref (ha 0)) fl_X3_undo_X3 0 rfl rfl 1 (by decide) fw_X3_undo_fld19 rfl dX3_undo_1 ?_
  refine g_get C (v := .int (nI z)) fl_X3_undo_X1 3 rfl rfl 2 (by decide) fw_X3_undo_fld116 rfl dX3_undo_4 ?_
  refine g_if_ne C (tgt := 20) dX3_undo_7 (by decide) (fun h7_1 => absurd (by rw [hp]; rfl) h7_1) (fun _ => ?_)
  exact g_throw (XN := xIse) (tx := "no state is saved") C hl hF hZ hne hlk (by decide) (by decide) fw_X3_undo_clIllegalStateException fw_X3_undo_iniIllegalStateException fx_X3_undo_IllegalStateException ot_xIse bad_xIse fit_xIse dX3_undo_10 dX3_undo_13 dX3_undo_14 dX3_undo_16 dX3_undo_19 (Nat.le_of_ble_eq_true rfl) (Nat.le_of_ble_eq_true rfl) (Nat.le_of_ble_eq_true rfl) (Nat.le_of_ble_eq_true rfl) (Nat.le_refl _) (Nat.le_refl _)
