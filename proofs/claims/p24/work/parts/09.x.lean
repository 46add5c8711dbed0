theorem pos1 {i : Nat} (h : ¬ nI i < 1) : 1 ≤ i := by
  rcases Nat.eq_zero_or_pos i with e | e
  · subst e; exact absurd (by decide) h
  · exact e
theorem leI {a b : Nat} (h : a ≤ b) (hb : b < 2 ^ 31) : nI a ≤ nI b := (nI_leI (by omega) hb).mpr h
theorem nleI {a b : Nat} (h : a < b) (hb : b < 2 ^ 31) : ¬ nI b ≤ nI a := fun z => absurd ((nI_leI hb (by omega)).mp z) (by omega)
/-! ===== the class itself ===== -/
def wS0 (xa : Nat) (ad ha ta : Nat → Nat) : va_W := [(xa, .inr (3, [.ref (ad 0), .ref (ha 0), .ref (ta 0)]))]
theorem c0_X0_change (l : Launch) (D : va_G) (cI cO : ClassId) (ad : Nat → Nat) (g : Nat → Int32) (r : Nat) (hr : r < 9) (n9 : Int32) : cR (fun _ => True) l yX0_change wsX0_change rmX0_change D vwCl (tyA cI cO) [.ref (ad 0), .int (nI r), .int n9, .int 0] (wB ad cI g) (some (.int (xCh g r n9 0).1)) (wB ad cI g) := by
  have h := c_X0_change l D cI cO ad g r hr n9 0
  rw [xCh_0] at h
  exact h
theorem c0_X0_turn (l : Launch) (D : va_G) (cI cO : ClassId) (ad : Nat → Nat) (g : Nat → Int32) (r : Nat) (hr : r < 9) (v : Int32) : cR (fun _ => True) l yX0_turn wsX0_turn rmX0_turn D vwCl (tyA cI cO) [.ref (ad 0), .int (nI r), .int v, .int 0] (wB ad cI g) (some (.int (xTv g r v))) (wB ad cI g) := by
  have h := c_X0_turn l D cI cO ad g r hr v 0
  rw [xTn_0] at h
  exact h
abbrev rmX3_checkRod : Room := { frames := 0, cells := 0, slots := 0, locals := 0 }
set_option maxHeartbeats 1000000 in
set_option maxRecDepth 100000 in
theorem c_X3_checkRod (l : Launch) (D : va_G) (cI cO : ClassId) (r : Nat) (hr : r < 9)  : cR (fun _ => True) l yX3_checkRod wsX3_checkRod rmX3_checkRod D vwCl (tyA cI cO) [.int (nI r)] ([] : va_W) none ([] : va_W) := by
  refine cR_of (cc := cX3_checkRod) (maxL := 1) (ret := none) (by decide) rfl (Nat.le_of_ble_eq_true rfl) ?_
  intro p e s m below meth c A C hret hlk hnm hF
  refine g_lv [0] (lv' := [(0, .int (nI r))]) rfl ?_
  refine g_iload_n C dX3_checkRod_0 0 rfl ?_
  refine g_if_lt C (tgt := 10) dX3_checkRod_1 (by decide) (fun h1_1 => absurd h1_1 (nI_pos (by omega))) (fun _ => ?_)
  refine g_iload_n C dX3_checkRod_4 0 rfl ?_
  refine g_bipush C (v := 9) dX3_checkRod_5 cb_9 ?_
  refine g_icmp_lt C (tgt := 20) dX3_checkRod_7 (by decide) (fun _ => ?_) (fun h7_2 => absurd (nI_lt (b := 9) hr (by decide)) h7_2)
  exact g_vret C hret hlk dX3_checkRod_20 rfl
abbrev rmX3_checkRange : Room := { frames := 0, cells := 0, slots := 0, locals := 0 }
set_option maxHeartbeats 1000000 in
set_option maxRecDepth 100000 in
theorem c_X3_checkRange (l : Launch) (D : va_G) (cI cO : ClassId) (v lo hi : Int32) (h1 : ¬ v < lo) (h2 : v ≤ hi)  : cR (fun _ => True) l yX3_checkRange wsX3_checkRange rmX3_checkRange D vwCl (tyA cI cO) [.int v, .int lo, .int hi] ([] : va_W) none ([] : va_W) := by
  refine cR_of (cc := cX3_checkRange) (maxL := 3) (ret := none) (by decide) rfl (Nat.le_of_ble_eq_true rfl) ?_
  intro p e s m below meth c A C hret hlk hnm hF
  refine g_lv [0, 1, 2] (lv' := [(0, .int v), (1, .int lo), (2, .int hi)]) rfl ?_
  refine g_iload_n C dX3_checkRange_0 0 rfl ?_
  refine g_iload_n C dX3_checkRange_1 1 rfl ?_
  refine g_icmp_lt C (tgt := 10) dX3_checkRange_2 (by decide) (fun h2_1 => absurd h2_1 h1) (fun _ => ?_)
  refine g_iload_n C dX3_checkRange_5 0 rfl ?_
  refine g_iload_n C dX3_checkRange_6 2 rfl ?_
  refine g_icmp_le C (tgt := 20) dX3_checkRange_7 (by decide) (fun _ => ?_) (fun h7_2 => absurd h2 h7_2)
  exact g_vret C hret hlk dX3_checkRange_20 rfl
theorem hd_X3_checkRod : yX3_checkRod.cls ≠ "java/lang/invoke/MethodHandle" ∧ yX3_checkRod.cls ≠ "java/lang/invoke/VarHandle" ∧ (parseMethodDescriptor yX3_checkRod.desc).map (fun d => d.parameters.length) = some 1 := by decide +kernel
theorem hd_X3_checkRange : yX3_checkRange.cls ≠ "java/lang/invoke/MethodHandle" ∧ yX3_checkRange.cls ≠ "java/lang/invoke/VarHandle" ∧ (parseMethodDescriptor yX3_checkRange.desc).map (fun d => d.parameters.length) = some 3 := by decide +kernel
theorem fw_X3_move_fld12 : Cond.fieldLink RX3 12 "StuckRods" "board" "LStuckRods$Board;" ∈ wsX3_move := (List.mem_cons_of_mem _ (List.mem_append_left _ (List.mem_append_left _ (List.mem_append_left _ (List.mem_append_left _ (List.mem_append_left _ (List.mem_append_left _ (List.mem_append_left _ (List.mem_of_getElem? (i := 2) rfl)))))))))
theorem fl_X3_move_X3 : ∀ w ∈ wsX30, w ∈ wsX3_move := fun _ h => List.mem_cons_of_mem _ (List.mem_append_left _ (List.mem_append_left _ (List.mem_append_left _ (List.mem_append_left _ (List.mem_append_left _ (List.mem_append_right _ h))))))
theorem fw_X3_move_fld19 : Cond.fieldLink RX3 19 "StuckRods" "history" "LStuckRods$History;" ∈ wsX3_move := (List.mem_cons_of_mem _ (List.mem_append_left _ (List.mem_append_left _ (List.mem_append_left _ (List.mem_append_left _ (List.mem_append_left _ (List.mem_append_left _ (List.mem_append_left _ (List.mem_of_getElem? (i := 3) rfl)))))))))
theorem hd_X1_keep : yX1_keep.cls = RX1 ∧ yX1_keep.cls ≠ "java/lang/invoke/MethodHandle" ∧ yX1_keep.cls ≠ "java/lang/invoke/VarHandle" ∧ (parseMethodDescriptor yX1_keep.desc).map (fun d => d.parameters.length) = some 1 := by decide +kernel
abbrev rmX3_move : Room := { frames := 2, cells := 0, slots := 0, locals := 46 }
set_option maxHeartbeats 1000000 in
set_option maxRecDepth 100000 in
theorem c_X3_move (l : Launch) (D : va_G) (cI cO : ClassId) (xa : Nat) (ta ha : Nat → Nat) (hb : Nat → Nat → Nat) (ad : Nat → Nat) (t : Nat → Int32) (n : Nat) (G : Nat → Nat → Int32) (g : Nat → Int32) (o z : Nat) (hn : n ≤ 60) (ho : o < 6) (hz : z ≤ 6) (r : Nat) (hr : r < 9) (f q9 : Int32) (h1 : ¬ f < 0) (h2 : f ≤ 2) (h3 : ¬ q9 < 0) (h4 : q9 ≤ 5) (hm : ¬ xMb g r f q9 = -1) : cR (fun _ => True) l yX3_move wsX3_move rmX3_move D vwCl (tyA cI cO) [.ref xa, .int (nI r), .int f, .int q9] ((wS0 xa ad ha ta) ++ ((wT ta cI t (nI n)) ++ ((wHs ha hb cI cO G (nI o) (nI z)) ++ (wB ad cI g)))) (some (.int (xMb g r f q9))) ((wS0 xa ad ha ta) ++ ((wT ta cI t (nI n)) ++ ((wHs ha hb cI cO (kG G o z g) (nI (kO o z)) (nI (kM z + 1))) ++ (wB ad cI (xPl g r f q9 (xMb g r f q9)))))) := by
  refine cR_of (cc := cX3_move) (maxL := 5) (ret := (some .int)) (by decide) rfl (Nat.le_of_ble_eq_true rfl) ?_
  intro p e s m below meth c A C hret hlk hnm hF
  refine g_lv [0, 1, 2, 3] (lv' := [(0, .ref xa), (1, .int (nI r)), (2, .int f), (3, .int q9)]) rfl ?_
  refine g_iload_n C dX3_move_0 1 rfl ?_
  refine g_callSv C (c_X3_checkRod l D cI cO r hr) gX3_move_X3_checkRod rfl ⟨rfl, rfl⟩ hd_X3_checkRod ⟨Nat.le_of_ble_eq_true rfl, Nat.le_of_ble_eq_true rfl⟩ [0, 1] rfl (fun _ _ => trivial) rfl (rest := []) rfl (Nat.le_of_ble_eq_true rfl) dX3_move_1 ⟨Nat.zero_le _, Nat.zero_le _⟩ (pre := []) (post := ((wS0 xa ad ha ta) ++ ((wT ta cI t (nI n)) ++ ((wHs ha hb cI cO G (nI o) (nI z)) ++ (wB ad cI g))))) (ws' := ((wS0 xa ad ha ta) ++ ((wT ta cI t (nI n)) ++ ((wHs ha hb cI cO G (nI o) (nI z)) ++ (wB ad cI g))))) rfl rfl ?_
  refine g_iload_n C dX3_move_4 2 rfl ?_
  refine g_iconst C (v := 0) dX3_move_5 ci_0 ?_
  refine g_iconst C (v := 2) dX3_move_6 ci_2 ?_
  refine g_callSv C (c_X3_checkRange l D cI cO f 0 2 h1 h2) gX3_move_X3_checkRange rfl ⟨rfl, rfl⟩ hd_X3_checkRange ⟨Nat.le_of_ble_eq_true rfl, Nat.le_of_ble_eq_true rfl⟩ [0, 1] rfl (fun _ _ => trivial) rfl (rest := []) rfl (Nat.le_of_ble_eq_true rfl) dX3_move_7 ⟨Nat.zero_le _, Nat.zero_le _⟩ (pre := []) (post := ((wS0 xa ad ha ta) ++ ((wT ta cI t (nI n)) ++ ((wHs ha hb cI cO G (nI o) (nI z)) ++ (wB ad cI g))))) (ws' := ((wS0 xa ad ha ta) ++ ((wT ta cI t (nI n)) ++ ((wHs ha hb cI cO G (nI o) (nI z)) ++ (wB ad cI g))))) rfl rfl ?_
  refine g_iload_n C dX3_move_10 3 rfl ?_
  refine g_iconst C (v := 0) dX3_move_11 ci_0 ?_
  refine g_iconst C (v := 5) dX3_move_12 ci_5 ?_
  refine g_callSv C (c_X3_checkRange l D cI cO q9 0 5 h3 h4) gX3_move_X3_checkRange rfl ⟨rfl, rfl⟩ hd_X3_checkRange ⟨Nat.le_of_ble_eq_true rfl, Nat.le_of_ble_eq_true rfl⟩ [0, 1] rfl (fun _ _ => trivial) rfl (rest := []) rfl (Nat.le_of_ble_eq_true rfl) dX3_move_13 ⟨Nat.zero_le _, Nat.zero_le _⟩ (pre := []) (post := ((wS0 xa ad ha ta) ++ ((wT ta cI t (nI n)) ++ ((wHs ha hb cI cO G (nI o) (nI z)) ++ (wB ad cI g))))) (ws' := ((wS0 xa ad ha ta) ++ ((wT ta cI t (nI n)) ++ ((wHs ha hb cI cO G (nI o) (nI z)) ++ (wB ad cI g))))) rfl rfl ?_
  refine g_aload_n C dX3_move_16 0 rfl ?_
  refine g_get C (v := .ref (ad 0)) fl_X3_move_X3 0 rfl rfl 0 (by decide) fw_X3_move_fld12 rfl dX3_move_17 ?_
  refine g_iload_n C dX3_move_20 1 rfl ?_
  refine g_iload_n C dX3_move_21 2 rfl ?_
  refine g_iload_n C dX3_move_22 3 rfl ?_
  refine g_callVi C (c_X0_movesBy l D cI cO ad g r hr f q9) gX3_move_X0_movesBy rfl ⟨rfl, rfl⟩ hd_X0_movesBy ⟨Nat.le_of_ble_eq_true rfl, Nat.le_of_ble_eq_true rfl⟩ [0, 1] rfl (fun _ _ => trivial) rfl (rest := []) rfl (Nat.le_of_ble_eq_true rfl) dX3_move_23 ⟨Nat.zero_le _, Nat.zero_le _⟩ 0 rfl rfl rfl (pre := ((wS0 xa ad ha ta) ++ ((wT ta cI t (nI n)) ++ (wHs ha hb cI cO G (nI o) (nI z))))) (post := []) (ws' := ((wS0 xa ad ha ta) ++ ((wT ta cI t (nI n)) ++ ((wHs ha hb cI cO G (nI o) (nI z)) ++ (wB ad cI g))))) rfl rfl ?_
  refine g_istore C (lv' := [(4, .int (xMb g r f q9)), (0, .ref xa), (1, .int (nI r)), (2, .int f), (3, .int q9)]) dX3_move_26 (by decide) rfl ?_
  refine g_iload C dX3_move_28 0 rfl ?_
  refine g_iconst C (v := -1) dX3_move_30 ci_m1 ?_
  refine g_icmp_ne C (tgt := 44) dX3_move_31 (by decide) (fun _ => ?_) (fun h31_1 => absurd h31_1 hm)
  refine g_aload_n C dX3_move_44 1 rfl ?_
  refine g_get C (v := .ref (ha 0)) fl_X3_move_X3 0 rfl rfl 1 (by decide) fw_X3_move_fld19 rfl dX3_move_45 ?_
  refine g_aload_n C dX3_move_48 1 rfl ?_
  refine g_get C (v := .ref (ad 0)) fl_X3_move_X3 0 rfl rfl 0 (by decide) fw_X3_move_fld12 rfl dX3_move_49 ?_
  refine g_callVv C (c_X1_keep l D cI cO ha hb ad G g o z ho hz) gX3_move_X1_keep rfl ⟨rfl, rfl⟩ hd_X1_keep ⟨Nat.le_of_ble_eq_true rfl, Nat.le_of_ble_eq_true rfl⟩ [0, 1] rfl (fun _ _ => trivial) rfl (rest := []) rfl (Nat.le_of_ble_eq_true rfl) dX3_move_52 ⟨Nat.zero_le _, Nat.zero_le _⟩ 0 rfl rfl rfl (pre := ((wS0 xa ad ha ta) ++ (wT ta cI t (nI n)))) (post := []) (ws' := ((wS0 xa ad ha ta) ++ ((wT ta cI t (nI n)) ++ ((wHs ha hb cI cO (kG G o z g) (nI (kO o z)) (nI (kM z + 1))) ++ (wB ad cI g))))) rfl rfl ?_
  refine g_aload_n C dX3_move_55 1 rfl ?_
  refine g_get C (v := .ref (ad 0)) fl_X3_move_X3 0 rfl rfl 0 (by decide) fw_X3_move_fld12 rfl dX3_move_56 ?_
  refine g_iload_n C dX3_move_59 2 rfl ?_
  refine g_iload_n C dX3_move_60 3 rfl ?_
  refine g_iload_n C dX3_move_61 4 rfl ?_
  refine g_iload C dX3_move_62 0 rfl ?_
  refine g_callVv C (c_X0_place l D cI cO ad g r hr f q9 (xMb g r f q9)) gX3_move_X0_place rfl ⟨rfl, rfl⟩ hd_X0_place ⟨Nat.le_of_ble_eq_true rfl, Nat.le_of_ble_eq_true rfl⟩ [0, 1] rfl (fun _ _ => trivial) rfl (rest := []) rfl (Nat.le_of_ble_eq_true rfl) dX3_move_64 ⟨Nat.zero_le _, Nat.zero_le _⟩ 0 rfl rfl rfl (pre := ((wS0 xa ad ha ta) ++ ((wT ta cI t (nI n)) ++ (wHs ha hb cI cO (kG G o z g) (nI (kO o z)) (nI (kM z + 1)))))) (post := []) (ws' := ((wS0 xa ad ha ta) ++ ((wT ta cI t (nI n)) ++ ((wHs ha hb cI cO (kG G o z g) (nI (kO o z)) (nI (kM z + 1))) ++ (wB ad cI (xPl g r f q9 (xMb g r f q9))))))) rfl rfl ?_
  refine g_iload C dX3_move_67 0 rfl ?_
  exact g_iret C hret hlk dX3_move_69 rfl rfl
theorem fw_X3_stick_fld19 : Cond.fieldLink RX3 19 "StuckRods" "history" "LStuckRods$History;" ∈ wsX3_stick := (List.mem_cons_of_mem _ (List.mem_append_left _ (List.mem_append_left _ (List.mem_append_left _ (List.mem_append_left _ (List.mem_append_left _ (List.mem_append_left _ (List.mem_of_getElem? (i := 0) rfl))))))))
theorem fl_X3_stick_X3 : ∀ w ∈ wsX30, w ∈ wsX3_stick := fun _ h => List.mem_cons_of_mem _ (List.mem_append_left _ (List.mem_append_left _ (List.mem_append_left _ (List.mem_append_left _ (List.mem_append_right _ h)))))
theorem fw_X3_stick_fld12 : Cond.fieldLink RX3 12 "StuckRods" "board" "LStuckRods$Board;" ∈ wsX3_stick := (List.mem_cons_of_mem _ (List.mem_append_left _ (List.mem_append_left _ (List.mem_append_left _ (List.mem_append_left _ (List.mem_append_left _ (List.mem_append_left _ (List.mem_of_getElem? (i := 1) rfl))))))))
theorem fw_X3_stick_fld57 : Cond.fieldLink RX3 57 "StuckRods$Board" "stuck" "[I" ∈ wsX3_stick := (List.mem_cons_of_mem _ (List.mem_append_left _ (List.mem_append_left _ (List.mem_append_left _ (List.mem_append_left _ (List.mem_append_left _ (List.mem_append_left _ (List.mem_of_getElem? (i := 2) rfl))))))))
theorem fl_X3_stick_X0 : ∀ w ∈ wsX00, w ∈ wsX3_stick := fun _ h => List.mem_cons_of_mem _ (List.mem_append_left _ (List.mem_append_left _ (List.mem_append_left _ (List.mem_append_right _ h))))
abbrev rmX3_stick : Room := { frames := 2, cells := 0, slots := 0, locals := 43 }
set_option maxHeartbeats 1000000 in
set_option maxRecDepth 100000 in
theorem c_X3_stick (l : Launch) (D : va_G) (cI cO : ClassId) (xa : Nat) (ta ha : Nat → Nat) (hb : Nat → Nat → Nat) (ad : Nat → Nat) (t : Nat → Int32) (n : Nat) (G : Nat → Nat → Int32) (g : Nat → Int32) (o z : Nat) (hn : n ≤ 60) (ho : o < 6) (hz : z ≤ 6) (r : Nat) (hr : r < 9) (w9 : Int32) (h1 : ¬ w9 < 0) (h2 : w9 ≤ 3) : cR (fun _ => True) l yX3_stick wsX3_stick rmX3_stick D vwCl (tyA cI cO) [.ref xa, .int (nI r), .int w9] ((wS0 xa ad ha ta) ++ ((wT ta cI t (nI n)) ++ ((wHs ha hb cI cO G (nI o) (nI z)) ++ (wB ad cI g)))) (some (.int (g (6 * r + 4)))) ((wS0 xa ad ha ta) ++ ((wT ta cI t (nI n)) ++ ((wHs ha hb cI cO (kG G o z g) (nI (kO o z)) (nI (kM z + 1))) ++ (wB ad cI (upd g (6 * r + 4) w9))))) := by
  refine cR_of (cc := cX3_stick) (maxL := 4) (ret := (some .int)) (by decide) rfl (Nat.le_of_ble_eq_true rfl) ?_
  intro p e s m below meth c A C hret hlk hnm hF
  refine g_lv [0, 1, 2] (lv' := [(0, .ref xa), (1, .int (nI r)), (2, .int w9)]) rfl ?_
  refine g_iload_n C dX3_stick_0 1 rfl ?_
  refine g_callSv C (c_X3_checkRod l D cI cO r hr) gX3_stick_X3_checkRod rfl ⟨rfl, rfl⟩ hd_X3_checkRod ⟨Nat.le_of_ble_eq_true rfl, Nat.le_of_ble_eq_true rfl⟩ [0, 1] rfl (fun _ _ => trivial) rfl (rest := []) rfl (Nat.le_of_ble_eq_true rfl) dX3_stick_1 ⟨Nat.zero_le _, Nat.zero_le _⟩ (pre := []) (post := ((wS0 xa ad ha ta) ++ ((wT ta cI t (nI n)) ++ ((wHs ha hb cI cO G (nI o) (nI z)) ++ (wB ad cI g))))) (ws' := ((wS0 xa ad ha ta) ++ ((wT ta cI t (nI n)) ++ ((wHs ha hb cI cO G (nI o) (nI z)) ++ (wB ad cI g))))) rfl rfl ?_
  refine g_iload_n C dX3_stick_4 2 rfl ?_
  refine g_iconst C (v := 0) dX3_stick_5 ci_0 ?_
  refine g_iconst C (v := 3) dX3_stick_6 ci_3 ?_
  refine g_callSv C (c_X3_checkRange l D cI cO w9 0 3 h1 h2) gX3_stick_X3_checkRange rfl ⟨rfl, rfl⟩ hd_X3_checkRange ⟨Nat.le_of_ble_eq_true rfl, Nat.le_of_ble_eq_true rfl⟩ [0, 1] rfl (fun _ _ => trivial) rfl (rest := []) rfl (Nat.le_of_ble_eq_true rfl) dX3_stick_7 ⟨Nat.zero_le _, Nat.zero_le _⟩ (pre := []) (post := ((wS0 xa ad ha ta) ++ ((wT ta cI t (nI n)) ++ ((wHs ha hb cI cO G (nI o) (nI z)) ++ (wB ad cI g))))) (ws' := ((wS0 xa ad ha ta) ++ ((wT ta cI t (nI n)) ++ ((wHs ha hb cI cO G (nI o) (nI z)) ++ (wB ad cI g))))) rfl rfl ?_
  refine g_aload_n C dX3_stick_10 0 rfl ?_
  refine g_get C (v := .ref (ha 0)) fl_X3_stick_X3 0 rfl rfl 1 (by decide) fw_X3_stick_fld19 rfl dX3_stick_11 ?_
  refine g_aload_n C dX3_stick_14 0 rfl ?_
  refine g_get C (v := .ref (ad 0)) fl_X3_stick_X3 0 rfl rfl 0 (by decide) fw_X3_stick_fld12 rfl dX3_stick_15 ?_
  refine g_callVv C (c_X1_keep l D cI cO ha hb ad G g o z ho hz) gX3_stick_X1_keep rfl ⟨rfl, rfl⟩ hd_X1_keep ⟨Nat.le_of_ble_eq_true rfl, Nat.le_of_ble_eq_true rfl⟩ [0, 1] rfl (fun _ _ => trivial) rfl (rest := []) rfl (Nat.le_of_ble_eq_true rfl) dX3_stick_18 ⟨Nat.zero_le _, Nat.zero_le _⟩ 0 rfl rfl rfl (pre := ((wS0 xa ad ha ta) ++ (wT ta cI t (nI n)))) (post := []) (ws' := ((wS0 xa ad ha ta) ++ ((wT ta cI t (nI n)) ++ ((wHs ha hb cI cO (kG G o z g) (nI (kO o z)) (nI (kM z + 1))) ++ (wB ad cI g))))) rfl rfl ?_
  refine g_aload_n C dX3_stick_21 0 rfl ?_
  refine g_get C (v := .ref (ad 0)) fl_X3_stick_X3 0 rfl rfl 0 (by decide) fw_X3_stick_fld12 rfl dX3_stick_22 ?_
  refine g_get C (v := .ref (ad 3)) fl_X3_stick_X0 47 rfl rfl 2 (by decide) fw_X3_stick_fld57 rfl dX3_stick_25 ?_
  refine g_iload_n C dX3_stick_28 1 rfl ?_
  refine g_iald C (x := g (6 * r + 4)) 50 0 rfl rfl r rfl hr (by decide) rfl dX3_stick_29 ?_
  refine g_istore_n C (lv' := [(3, .int (g (6 * r + 4))), (0, .ref xa), (1, .int (nI r)), (2, .int w9)]) dX3_stick_30 rfl (by decide) rfl ?_
  refine g_aload_n C dX3_stick_31 1 rfl ?_
  refine g_get C (v := .ref (ad 0)) fl_X3_stick_X3 0 rfl rfl 0 (by decide) fw_X3_stick_fld12 rfl dX3_stick_32 ?_
  refine g_get C (v := .ref (ad 3)) fl_X3_stick_X0 47 rfl rfl 2 (by decide) fw_X3_stick_fld57 rfl dX3_stick_35 ?_
  refine g_iload_n C dX3_stick_38 2 rfl ?_
  refine g_iload_n C dX3_stick_39 3 rfl ?_
  refine g_iast C (ws' := ((wS0 xa ad ha ta) ++ ((wT ta cI t (nI n)) ++ ((wHs ha hb cI cO (kG G o z g) (nI (kO o z)) (nI (kM z + 1))) ++ (wB ad cI (upd g (6 * r + 4) w9)))))) 50 0 rfl rfl r rfl hr (by decide) dX3_stick_40 (ws_setr (q1 := 49) rfl (ws_setr (q1 := 47) rfl (ws_setr (q1 := 3) rfl (wB_3 ad cI g r w9)))) ?_
  refine g_iload_n C dX3_stick_41 0 rfl ?_
  exact g_iret C hret hlk dX3_stick_42 rfl rfl
theorem fw_X3_set_fld19 : Cond.fieldLink RX3 19 "StuckRods" "history" "LStuckRods$History;" ∈ wsX3_set := (List.mem_cons_of_mem _ (List.mem_append_left _ (List.mem_append_left _ (List.mem_append_left _ (List.mem_append_left _ (List.mem_append_left _ (List.mem_of_getElem? (i := 0) rfl)))))))
theorem fl_X3_set_X3 : ∀ w ∈ wsX30, w ∈ wsX3_set := fun _ h => List.mem_cons_of_mem _ (List.mem_append_left _ (List.mem_append_left _ (List.mem_append_left _ (List.mem_append_right _ h))))
theorem fw_X3_set_fld12 : Cond.fieldLink RX3 12 "StuckRods" "board" "LStuckRods$Board;" ∈ wsX3_set := (List.mem_cons_of_mem _ (List.mem_append_left _ (List.mem_append_left _ (List.mem_append_left _ (List.mem_append_left _ (List.mem_append_left _ (List.mem_of_getElem? (i := 1) rfl)))))))
theorem fw_X3_set_fld61 : Cond.fieldLink RX3 61 "StuckRods$Board" "setting" "I" ∈ wsX3_set := (List.mem_cons_of_mem _ (List.mem_append_left _ (List.mem_append_left _ (List.mem_append_left _ (List.mem_append_left _ (List.mem_append_left _ (List.mem_of_getElem? (i := 2) rfl)))))))
theorem fl_X3_set_X0 : ∀ w ∈ wsX00, w ∈ wsX3_set := fun _ h => List.mem_cons_of_mem _ (List.mem_append_left _ (List.mem_append_left _ (List.mem_append_right _ h)))
abbrev rmX3_set : Room := { frames := 2, cells := 0, slots := 0, locals := 43 }
set_option maxHeartbeats 1000000 in
set_option maxRecDepth 100000 in
theorem c_X3_set (l : Launch) (D : va_G) (cI cO : ClassId) (xa : Nat) (ta ha : Nat → Nat) (hb : Nat → Nat → Nat) (ad : Nat → Nat) (t : Nat → Int32) (n : Nat) (G : Nat → Nat → Int32) (g : Nat → Int32) (o z : Nat) (hn : n ≤ 60) (ho : o < 6) (hz : z ≤ 6) (v : Int32) (h1 : ¬ v < 0) (h2 : v ≤ 9) : cR (fun _ => True) l yX3_set wsX3_set rmX3_set D vwCl (tyA cI cO) [.ref xa, .int v] ((wS0 xa ad ha ta) ++ ((wT ta cI t (nI n)) ++ ((wHs ha hb cI cO G (nI o) (nI z)) ++ (wB ad cI g)))) (some (.int (g 0))) ((wS0 xa ad ha ta) ++ ((wT ta cI t (nI n)) ++ ((wHs ha hb cI cO (kG G o z g) (nI (kO o z)) (nI (kM z + 1))) ++ (wB ad cI (upd g 0 v))))) := by
  refine cR_of (cc := cX3_set) (maxL := 3) (ret := (some .int)) (by decide) rfl (Nat.le_of_ble_eq_true rfl) ?_
  intro p e s m below meth c A C hret hlk hnm hF
  refine g_lv [0, 1] (lv' := [(0, .ref xa), (1, .int v)]) rfl ?_
  refine g_iload_n C dX3_set_0 1 rfl ?_
  refine g_iconst C (v := 0) dX3_set_1 ci_0 ?_
  refine g_bipush C (v := 9) dX3_set_2 cb_9 ?_
  refine g_callSv C (c_X3_checkRange l D cI cO v 0 9 h1 h2) gX3_set_X3_checkRange rfl ⟨rfl, rfl⟩ hd_X3_checkRange ⟨Nat.le_of_ble_eq_true rfl, Nat.le_of_ble_eq_true rfl⟩ [0, 1] rfl (fun _ _ => trivial) rfl (rest := []) rfl (Nat.le_of_ble_eq_true rfl) dX3_set_4 ⟨Nat.zero_le _, Nat.zero_le _⟩ (pre := []) (post := ((wS0 xa ad ha ta) ++ ((wT ta cI t (nI n)) ++ ((wHs ha hb cI cO G (nI o) (nI z)) ++ (wB ad cI g))))) (ws' := ((wS0 xa ad ha ta) ++ ((wT ta cI t (nI n)) ++ ((wHs ha hb cI cO G (nI o) (nI z)) ++ (wB ad cI g))))) rfl rfl ?_
  refine g_aload_n C dX3_set_7 0 rfl ?_
  refine g_get C (v := .ref (ha 0)) fl_X3_set_X3 0 rfl rfl 1 (by decide) fw_X3_set_fld19 rfl dX3_set_8 ?_
  refine g_aload_n C dX3_set_11 0 rfl ?_
  refine g_get C (v := .ref (ad 0)) fl_X3_set_X3 0 rfl rfl 0 (by decide) fw_X3_set_fld12 rfl dX3_set_12 ?_
  refine g_callVv C (c_X1_keep l D cI cO ha hb ad G g o z ho hz) gX3_set_X1_keep rfl ⟨rfl, rfl⟩ hd_X1_keep ⟨Nat.le_of_ble_eq_true rfl, Nat.le_of_ble_eq_true rfl⟩ [0, 1] rfl (fun _ _ => trivial) rfl (rest := []) rfl (Nat.le_of_ble_eq_true rfl) dX3_set_15 ⟨Nat.zero_le _, Nat.zero_le _⟩ 0 rfl rfl rfl (pre := ((wS0 xa ad ha ta) ++ (wT ta cI t (nI n)))) (post := []) (ws' := ((wS0 xa ad ha ta) ++ ((wT ta cI t (nI n)) ++ ((wHs ha hb cI cO (kG G o z g) (nI (kO o z)) (nI (kM z + 1))) ++ (wB ad cI g))))) rfl rfl ?_
  refine g_aload_n C dX3_set_18 0 rfl ?_
  refine g_get C (v := .ref (ad 0)) fl_X3_set_X3 0 rfl rfl 0 (by decide) fw_X3_set_fld12 rfl dX3_set_19 ?_
  refine g_get C (v := .int (g 0)) fl_X3_set_X0 47 rfl rfl 6 (by decide) fw_X3_set_fld61 rfl dX3_set_22 ?_
  refine g_istore_n C (lv' := [(2, .int (g 0)), (0, .ref xa), (1, .int v)]) dX3_set_25 rfl (by decide) rfl ?_
  refine g_aload_n C dX3_set_26 1 rfl ?_
  refine g_get C (v := .ref (ad 0)) fl_X3_set_X3 0 rfl rfl 0 (by decide) fw_X3_set_fld12 rfl dX3_set_27 ?_
  refine g_iload_n C dX3_set_30 2 rfl ?_
  refine g_put C (ws' := ((wS0 xa ad ha ta) ++ ((wT ta cI t (nI n)) ++ ((wHs ha hb cI cO (kG G o z g) (nI (kO o z)) (nI (kM z + 1))) ++ (wB ad cI (upd g 0 v)))))) fl_X3_set_X0 tyX0 tyX0_ok nmX0 47 rfl rfl 6 (by decide) fw_X3_set_fld61 rfl (tyX0_ok 6 (by decide)) rfl rfl (Nat.le_of_ble_eq_true rfl) dX3_set_31 (ws_setr (q1 := 46) rfl (ws_setr (q1 := 44) rfl (ws_setr (q1 := 0) rfl (wB_0 ad cI g v)))) ?_
  refine g_iload_n C dX3_set_34 0 rfl ?_
  exact g_iret C hret hlk dX3_set_35 rfl rfl
theorem fw_X3_changeOrThrow_fld12 : Cond.fieldLink RX3 12 "StuckRods" "board" "LStuckRods$Board;" ∈ wsX3_changeOrThrow := (List.mem_cons_of_mem _ (List.mem_append_left _ (List.mem_append_left _ (List.mem_append_left _ (List.mem_append_left _ (List.mem_append_left _ (List.mem_of_getElem? (i := 2) rfl)))))))
theorem fl_X3_changeOrThrow_X3 : ∀ w ∈ wsX30, w ∈ wsX3_changeOrThrow := fun _ h => List.mem_cons_of_mem _ (List.mem_append_left _ (List.mem_append_left _ (List.mem_append_left _ (List.mem_append_right _ h))))
theorem fw_X3_changeOrThrow_fld19 : Cond.fieldLink RX3 19 "StuckRods" "history" "LStuckRods$History;" ∈ wsX3_changeOrThrow := (List.mem_cons_of_mem _ (List.mem_append_left _ (List.mem_append_left _ (List.mem_append_left _ (List.mem_append_left _ (List.mem_append_left _ (List.mem_of_getElem? (i := 3) rfl)))))))
abbrev rmX3_changeOrThrow : Room := { frames := 5, cells := 0, slots := 0, locals := 125 }
set_option maxHeartbeats 1000000 in
set_option maxRecDepth 100000 in
theorem c_X3_changeOrThrow (l : Launch) (D : va_G) (cI cO : ClassId) (xa : Nat) (ta ha : Nat → Nat) (hb : Nat → Nat → Nat) (ad : Nat → Nat) (t : Nat → Int32) (n : Nat) (G : Nat → Nat → Int32) (g : Nat → Int32) (o z : Nat) (hn : n ≤ 60) (ho : o < 6) (hz : z ≤ 6) (r : Nat) (hr : r < 9) (n9 : Int32) (hm : ¬ (xCh g r n9 0).1 = -1) : cR (fun _ => True) l yX3_changeOrThrow wsX3_changeOrThrow rmX3_changeOrThrow D vwCl (tyA cI cO) [.ref xa, .int (nI r), .int n9] ((wS0 xa ad ha ta) ++ ((wT ta cI t (nI n)) ++ ((wHs ha hb cI cO G (nI o) (nI z)) ++ (wB ad cI g)))) (some (.int ((xCh g r n9 1).1))) ((wS0 xa ad ha ta) ++ ((wT ta cI t (nI n)) ++ ((wHs ha hb cI cO (kG G o z g) (nI (kO o z)) (nI (kM z + 1))) ++ (wB ad cI ((xCh g r n9 1).2))))) := by
  refine cR_of (cc := cX3_changeOrThrow) (maxL := 3) (ret := (some .int)) (by decide) rfl (Nat.le_of_ble_eq_true rfl) ?_
  intro p e s m below meth c A C hret hlk hnm hF
  refine g_lv [0, 1, 2] (lv' := [(0, .ref xa), (1, .int (nI r)), (2, .int n9)]) rfl ?_
  refine g_aload_n C dX3_changeOrThrow_0 0 rfl ?_
  refine g_get C (v := .ref (ad 0)) fl_X3_changeOrThrow_X3 0 rfl rfl 0 (by decide) fw_X3_changeOrThrow_fld12 rfl dX3_changeOrThrow_1 ?_
  refine g_iload_n C dX3_changeOrThrow_4 1 rfl ?_
  refine g_iload_n C dX3_changeOrThrow_5 2 rfl ?_
  refine g_iconst C (v := 0) dX3_changeOrThrow_6 ci_0 ?_
  refine g_callVi C (c0_X0_change l D cI cO ad g r hr n9) gX3_changeOrThrow_X0_change rfl ⟨rfl, rfl⟩ hd_X0_change ⟨Nat.le_of_ble_eq_true rfl, Nat.le_of_ble_eq_true rfl⟩ [0, 1] rfl (fun _ _ => trivial) rfl (rest := []) rfl (Nat.le_of_ble_eq_true rfl) dX3_changeOrThrow_7 ⟨Nat.zero_le _, Nat.zero_le _⟩ 0 rfl rfl rfl (pre := ((wS0 xa ad ha ta) ++ ((wT ta cI t (nI n)) ++ (wHs ha hb cI cO G (nI o) (nI z))))) (post := []) (ws' := ((wS0 xa ad ha ta) ++ ((wT ta cI t (nI n)) ++ ((wHs ha hb cI cO G (nI o) (nI z)) ++ (wB ad cI g))))) rfl rfl ?_
  refine g_iconst C (v := -1) dX3_changeOrThrow_10 ci_m1 ?_
  refine g_icmp_ne C (tgt := 24) dX3_changeOrThrow_11 (by decide) (fun _ => ?_) (fun h11_1 => absurd h11_1 hm)
  refine g_aload_n C dX3_changeOrThrow_24 0 rfl ?_
  refine g_get C (v := .ref (ha 0)) fl_X3_changeOrThrow_X3 0 rfl rfl 1 (by decide) fw_X3_changeOrThrow_fld19 rfl dX3_changeOrThrow_25 ?_
  refine g_aload_n C dX3_changeOrThrow_28 0 rfl ?_
  refine g_get C (v := .ref (ad 0)) fl_X3_changeOrThrow_X3 0 rfl rfl 0 (by decide) fw_X3_changeOrThrow_fld12 rfl dX3_changeOrThrow_29 ?_
  refine g_callVv C (c_X1_keep l D cI cO ha hb ad G g o z ho hz) gX3_changeOrThrow_X1_keep rfl ⟨rfl, rfl⟩ hd_X1_keep ⟨Nat.le_of_ble_eq_true rfl, Nat.le_of_ble_eq_true rfl⟩ [0, 1] rfl (fun _ _ => trivial) rfl (rest := []) rfl (Nat.le_of_ble_eq_true rfl) dX3_changeOrThrow_32 ⟨Nat.zero_le _, Nat.zero_le _⟩ 0 rfl rfl rfl (pre := ((wS0 xa ad ha ta) ++ (wT ta cI t (nI n)))) (post := []) (ws' := ((wS0 xa ad ha ta) ++ ((wT ta cI t (nI n)) ++ ((wHs ha hb cI cO (kG G o z g) (nI (kO o z)) (nI (kM z + 1))) ++ (wB ad cI g))))) rfl rfl ?_
  refine g_aload_n C dX3_changeOrThrow_35 0 rfl ?_
  refine g_get C (v := .ref (ad 0)) fl_X3_changeOrThrow_X3 0 rfl rfl 0 (by decide) fw_X3_changeOrThrow_fld12 rfl dX3_changeOrThrow_36 ?_
  refine g_iload_n C dX3_changeOrThrow_39 1 rfl ?_
  refine g_iload_n C dX3_changeOrThrow_40 2 rfl ?_
  refine g_iconst C (v := 1) dX3_changeOrThrow_41 ci_1 ?_
  refine g_callVi C (c_X0_change l D cI cO ad g r hr n9 1) gX3_changeOrThrow_X0_change rfl ⟨rfl, rfl⟩ hd_X0_change ⟨Nat.le_of_ble_eq_true rfl, Nat.le_of_ble_eq_true rfl⟩ [0, 1] rfl (fun _ _ => trivial) rfl (rest := []) rfl (Nat.le_of_ble_eq_true rfl) dX3_changeOrThrow_42 ⟨Nat.zero_le _, Nat.zero_le _⟩ 0 rfl rfl rfl (pre := ((wS0 xa ad ha ta) ++ ((wT ta cI t (nI n)) ++ (wHs ha hb cI cO (kG G o z g) (nI (kO o z)) (nI (kM z + 1)))))) (post := []) (ws' := ((wS0 xa ad ha ta) ++ ((wT ta cI t (nI n)) ++ ((wHs ha hb cI cO (kG G o z g) (nI (kO o z)) (nI (kM z + 1))) ++ (wB ad cI ((xCh g r n9 1).2)))))) rfl rfl ?_
  exact g_iret C hret hlk dX3_changeOrThrow_45 rfl rfl
theorem hd_X3_changeOrThrow : yX3_changeOrThrow.cls = RX3 ∧ yX3_changeOrThrow.cls ≠ "java/lang/invoke/MethodHandle" ∧ yX3_changeOrThrow.cls ≠ "java/lang/invoke/VarHandle" ∧ (parseMethodDescriptor yX3_changeOrThrow.desc).map (fun d => d.parameters.length) = some 2 := by decide +kernel
abbrev rmX3_add : Room := { frames := 6, cells := 0, slots := 0, locals := 147 }
set_option maxHeartbeats 1000000 in
set_option maxRecDepth 100000 in
theorem c_X3_add (l : Launch) (D : va_G) (cI cO : ClassId) (xa : Nat) (ta ha : Nat → Nat) (hb : Nat → Nat → Nat) (ad : Nat → Nat) (t : Nat → Int32) (n : Nat) (G : Nat → Nat → Int32) (g : Nat → Int32) (o z : Nat) (hn : n ≤ 60) (ho : o < 6) (hz : z ≤ 6) (r : Nat) (hr : r < 9) (n9 : Int32) (h1 : ¬ n9 < 1) (h2 : n9 ≤ 9) (hm : ¬ (xCh g r (n9) 0).1 = -1) : cR (fun _ => True) l yX3_add wsX3_add rmX3_add D vwCl (tyA cI cO) [.ref xa, .int (nI r), .int n9] ((wS0 xa ad ha ta) ++ ((wT ta cI t (nI n)) ++ ((wHs ha hb cI cO G (nI o) (nI z)) ++ (wB ad cI g)))) (some (.int ((xCh g r (n9) 1).1))) ((wS0 xa ad ha ta) ++ ((wT ta cI t (nI n)) ++ ((wHs ha hb cI cO (kG G o z g) (nI (kO o z)) (nI (kM z + 1))) ++ (wB ad cI ((xCh g r (n9) 1).2))))) := by
  refine cR_of (cc := cX3_add) (maxL := 3) (ret := (some .int)) (by decide) rfl (Nat.le_of_ble_eq_true rfl) ?_
  intro p e s m below meth c A C hret hlk hnm hF
  refine g_lv [0, 1, 2] (lv' := [(0, .ref xa), (1, .int (nI r)), (2, .int n9)]) rfl ?_
  refine g_iload_n C dX3_add_0 1 rfl ?_
  refine g_callSv C (c_X3_checkRod l D cI cO r hr) gX3_add_X3_checkRod rfl ⟨rfl, rfl⟩ hd_X3_checkRod ⟨Nat.le_of_ble_eq_true rfl, Nat.le_of_ble_eq_true rfl⟩ [0, 1] rfl (fun _ _ => trivial) rfl (rest := []) rfl (Nat.le_of_ble_eq_true rfl) dX3_add_1 ⟨Nat.zero_le _, Nat.zero_le _⟩ (pre := []) (post := ((wS0 xa ad ha ta) ++ ((wT ta cI t (nI n)) ++ ((wHs ha hb cI cO G (nI o) (nI z)) ++ (wB ad cI g))))) (ws' := ((wS0 xa ad ha ta) ++ ((wT ta cI t (nI n)) ++ ((wHs ha hb cI cO G (nI o) (nI z)) ++ (wB ad cI g))))) rfl rfl ?_
  refine g_iload_n C dX3_add_4 2 rfl ?_
  refine g_iconst C (v := 1) dX3_add_5 ci_1 ?_
  refine g_bipush C (v := 9) dX3_add_6 cb_9 ?_
  refine g_callSv C (c_X3_checkRange l D cI cO n9 1 9 h1 h2) gX3_add_X3_checkRange rfl ⟨rfl, rfl⟩ hd_X3_checkRange ⟨Nat.le_of_ble_eq_true rfl, Nat.le_of_ble_eq_true rfl⟩ [0, 1] rfl (fun _ _ => trivial) rfl (rest := []) rfl (Nat.le_of_ble_eq_true rfl) dX3_add_8 ⟨Nat.zero_le _, Nat.zero_le _⟩ (pre := []) (post := ((wS0 xa ad ha ta) ++ ((wT ta cI t (nI n)) ++ ((wHs ha hb cI cO G (nI o) (nI z)) ++ (wB ad cI g))))) (ws' := ((wS0 xa ad ha ta) ++ ((wT ta cI t (nI n)) ++ ((wHs ha hb cI cO G (nI o) (nI z)) ++ (wB ad cI g))))) rfl rfl ?_
  refine g_aload_n C dX3_add_11 0 rfl ?_
  refine g_iload_n C dX3_add_12 1 rfl ?_
  refine g_iload_n C dX3_add_13 2 rfl ?_
  refine g_callVi C (c_X3_changeOrThrow l D cI cO xa ta ha hb ad t n G g o z hn ho hz r hr n9 hm) gX3_add_X3_changeOrThrow rfl ⟨rfl, rfl⟩ hd_X3_changeOrThrow ⟨Nat.le_of_ble_eq_true rfl, Nat.le_of_ble_eq_true rfl⟩ [0, 1] rfl (fun _ _ => trivial) rfl (rest := []) rfl (Nat.le_of_ble_eq_true rfl) dX3_add_14 ⟨Nat.zero_le _, Nat.zero_le _⟩ 0 rfl rfl rfl (pre := []) (post := []) (ws' := ((wS0 xa ad ha ta) ++ ((wT ta cI t (nI n)) ++ ((wHs ha hb cI cO (kG G o z g) (nI (kO o z)) (nI (kM z + 1))) ++ (wB ad cI ((xCh g r n9 1).2)))))) rfl rfl ?_
  exact g_iret C hret hlk dX3_add_17 rfl rfl
abbrev rmX3_less : Room := { frames := 6, cells := 0, slots := 0, locals := 147 }
set_option maxHeartbeats 1000000 in
set_option maxRecDepth 100000 in
theorem c_X3_less (l : Launch) (D : va_G) (cI cO : ClassId) (xa : Nat) (ta ha : Nat → Nat) (hb : Nat → Nat → Nat) (ad : Nat → Nat) (t : Nat → Int32) (n : Nat) (G : Nat → Nat → Int32) (g : Nat → Int32) (o z : Nat) (hn : n ≤ 60) (ho : o < 6) (hz : z ≤ 6) (r : Nat) (hr : r < 9) (n9 : Int32) (h1 : ¬ n9 < 1) (h2 : n9 ≤ 9) (hm : ¬ (xCh g r (-n9) 0).1 = -1) : cR (fun _ => True) l yX3_less wsX3_less rmX3_less D vwCl (tyA cI cO) [.ref xa, .int (nI r), .int n9] ((wS0 xa ad ha ta) ++ ((wT ta cI t (nI n)) ++ ((wHs ha hb cI cO G (nI o) (nI z)) ++ (wB ad cI g)))) (some (.int ((xCh g r (-n9) 1).1))) ((wS0 xa ad ha ta) ++ ((wT ta cI t (nI n)) ++ ((wHs ha hb cI cO (kG G o z g) (nI (kO o z)) (nI (kM z + 1))) ++ (wB ad cI ((xCh g r (-n9) 1).2))))) := by
  refine cR_of (cc := cX3_less) (maxL := 3) (ret := (some .int)) (by decide) rfl (Nat.le_of_ble_eq_true rfl) ?_
  intro p e s m below meth c A C hret hlk hnm hF
  refine g_lv [0, 1, 2] (lv' := [(0, .ref xa), (1, .int (nI r)), (2, .int n9)]) rfl ?_
  refine g_iload_n C dX3_less_0 1 rfl ?_
  refine g_callSv C (c_X3_checkRod l D cI cO r hr) gX3_less_X3_checkRod rfl ⟨rfl, rfl⟩ hd_X3_checkRod ⟨Nat.le_of_ble_eq_true rfl, Nat.le_of_ble_eq_true rfl⟩ [0, 1] rfl (fun _ _ => trivial) rfl (rest := []) rfl (Nat.le_of_ble_eq_true rfl) dX3_less_1 ⟨Nat.zero_le _, Nat.zero_le _⟩ (pre := []) (post := ((wS0 xa ad ha ta) ++ ((wT ta cI t (nI n)) ++ ((wHs ha hb cI cO G (nI o) (nI z)) ++ (wB ad cI g))))) (ws' := ((wS0 xa ad ha ta) ++ ((wT ta cI t (nI n)) ++ ((wHs ha hb cI cO G (nI o) (nI z)) ++ (wB ad cI g))))) rfl rfl ?_
  refine g_iload_n C dX3_less_4 2 rfl ?_
  refine g_iconst C (v := 1) dX3_less_5 ci_1 ?_
  refine g_bipush C (v := 9) dX3_less_6 cb_9 ?_
  refine g_callSv C (c_X3_checkRange l D cI cO n9 1 9 h1 h2) gX3_less_X3_checkRange rfl ⟨rfl, rfl⟩ hd_X3_checkRange ⟨Nat.le_of_ble_eq_true rfl, Nat.le_of_ble_eq_true rfl⟩ [0, 1] rfl (fun _ _ => trivial) rfl (rest := []) rfl (Nat.le_of_ble_eq_true rfl) dX3_less_8 ⟨Nat.zero_le _, Nat.zero_le _⟩ (pre := []) (post := ((wS0 xa ad ha ta) ++ ((wT ta cI t (nI n)) ++ ((wHs ha hb cI cO G (nI o) (nI z)) ++ (wB ad cI g))))) (ws' := ((wS0 xa ad ha ta) ++ ((wT ta cI t (nI n)) ++ ((wHs ha hb cI cO G (nI o) (nI z)) ++ (wB ad cI g))))) rfl rfl ?_
  refine g_aload_n C dX3_less_11 0 rfl ?_
  refine g_iload_n C dX3_less_12 1 rfl ?_
  refine g_iload_n C dX3_less_13 2 rfl ?_
  refine g_ineg C (v := -n9) dX3_less_14 rfl ?_
  refine g_callVi C (c_X3_changeOrThrow l D cI cO xa ta ha hb ad t n G g o z hn ho hz r hr (-n9) hm) gX3_less_X3_changeOrThrow rfl ⟨rfl, rfl⟩ hd_X3_changeOrThrow ⟨Nat.le_of_ble_eq_true rfl, Nat.le_of_ble_eq_true rfl⟩ [0, 1] rfl (fun _ _ => trivial) rfl (rest := []) rfl (Nat.le_of_ble_eq_true rfl) dX3_less_15 ⟨Nat.zero_le _, Nat.zero_le _⟩ 0 rfl rfl rfl (pre := []) (post := []) (ws' := ((wS0 xa ad ha ta) ++ ((wT ta cI t (nI n)) ++ ((wHs ha hb cI cO (kG G o z g) (nI (kO o z)) (nI (kM z + 1))) ++ (wB ad cI ((xCh g r (-n9) 1).2)))))) rfl rfl ?_
  exact g_iret C hret hlk dX3_less_18 rfl rfl
theorem fw_X3_pay_fld12 : Cond.fieldLink RX3 12 "StuckRods" "board" "LStuckRods$Board;" ∈ wsX3_pay := (List.mem_cons_of_mem _ (List.mem_append_left _ (List.mem_append_left _ (List.mem_append_left _ (List.mem_append_left _ (List.mem_append_left _ (List.mem_append_left _ (List.mem_of_getElem? (i := 2) rfl))))))))
theorem fl_X3_pay_X3 : ∀ w ∈ wsX30, w ∈ wsX3_pay := fun _ h => List.mem_cons_of_mem _ (List.mem_append_left _ (List.mem_append_left _ (List.mem_append_left _ (List.mem_append_left _ (List.mem_append_right _ h)))))
theorem fw_X3_pay_fld69 : Cond.fieldLink RX3 69 "StuckRods$Board" "loan" "[I" ∈ wsX3_pay := (List.mem_cons_of_mem _ (List.mem_append_left _ (List.mem_append_left _ (List.mem_append_left _ (List.mem_append_left _ (List.mem_append_left _ (List.mem_append_left _ (List.mem_of_getElem? (i := 3) rfl))))))))
theorem fl_X3_pay_X0 : ∀ w ∈ wsX00, w ∈ wsX3_pay := fun _ h => List.mem_cons_of_mem _ (List.mem_append_left _ (List.mem_append_left _ (List.mem_append_left _ (List.mem_append_right _ h))))
theorem fw_X3_pay_fld19 : Cond.fieldLink RX3 19 "StuckRods" "history" "LStuckRods$History;" ∈ wsX3_pay := (List.mem_cons_of_mem _ (List.mem_append_left _ (List.mem_append_left _ (List.mem_append_left _ (List.mem_append_left _ (List.mem_append_left _ (List.mem_append_left _ (List.mem_of_getElem? (i := 4) rfl))))))))
theorem hd_X0_payIfPossible : yX0_payIfPossible.cls = RX0 ∧ yX0_payIfPossible.cls ≠ "java/lang/invoke/MethodHandle" ∧ yX0_payIfPossible.cls ≠ "java/lang/invoke/VarHandle" ∧ (parseMethodDescriptor yX0_payIfPossible.desc).map (fun d => d.parameters.length) = some 1 := by decide +kernel
abbrev rmX3_pay : Room := { frames := 6, cells := 0, slots := 0, locals := 147 }
set_option maxHeartbeats 1000000 in
set_option maxRecDepth 100000 in
theorem c_X3_pay (l : Launch) (D : va_G) (cI cO : ClassId) (xa : Nat) (ta ha : Nat → Nat) (hb : Nat → Nat → Nat) (ad : Nat → Nat) (t : Nat → Int32) (n : Nat) (G : Nat → Nat → Int32) (g : Nat → Int32) (o z : Nat) (hn : n ≤ 60) (ho : o < 6) (hz : z ≤ 6) (r : Nat) (hr : r < 9) (hm : ¬ (xCh g r (g (6 * r + 3)) 0).1 = -1) : cR (fun _ => True) l yX3_pay wsX3_pay rmX3_pay D vwCl (tyA cI cO) [.ref xa, .int (nI r)] ((wS0 xa ad ha ta) ++ ((wT ta cI t (nI n)) ++ ((wHs ha hb cI cO G (nI o) (nI z)) ++ (wB ad cI g)))) (some (.int ((xPa g r).1))) ((wS0 xa ad ha ta) ++ ((wT ta cI t (nI n)) ++ ((wHs ha hb cI cO (kG G o z g) (nI (kO o z)) (nI (kM z + 1))) ++ (wB ad cI ((xPa g r).2))))) := by
  refine cR_of (cc := cX3_pay) (maxL := 2) (ret := (some .int)) (by decide) rfl (Nat.le_of_ble_eq_true rfl) ?_
  intro p e s m below meth c A C hret hlk hnm hF
  refine g_lv [0, 1] (lv' := [(0, .ref xa), (1, .int (nI r))]) rfl ?_
  refine g_iload_n C dX3_pay_0 1 rfl ?_
  refine g_callSv C (c_X3_checkRod l D cI cO r hr) gX3_pay_X3_checkRod rfl ⟨rfl, rfl⟩ hd_X3_checkRod ⟨Nat.le_of_ble_eq_true rfl, Nat.le_of_ble_eq_true rfl⟩ [0, 1] rfl (fun _ _ => trivial) rfl (rest := []) rfl (Nat.le_of_ble_eq_true rfl) dX3_pay_1 ⟨Nat.zero_le _, Nat.zero_le _⟩ (pre := []) (post := ((wS0 xa ad ha ta) ++ ((wT ta cI t (nI n)) ++ ((wHs ha hb cI cO G (nI o) (nI z)) ++ (wB ad cI g))))) (ws' := ((wS0 xa ad ha ta) ++ ((wT ta cI t (nI n)) ++ ((wHs ha hb cI cO G (nI o) (nI z)) ++ (wB ad cI g))))) rfl rfl ?_
  refine g_aload_n C dX3_pay_4 0 rfl ?_
  refine g_get C (v := .ref (ad 0)) fl_X3_pay_X3 0 rfl rfl 0 (by decide) fw_X3_pay_fld12 rfl dX3_pay_5 ?_
  refine g_iload_n C dX3_pay_8 1 rfl ?_
  refine g_aload_n C dX3_pay_9 0 rfl ?_
  refine g_get C (v := .ref (ad 0)) fl_X3_pay_X3 0 rfl rfl 0 (by decide) fw_X3_pay_fld12 rfl dX3_pay_10 ?_
  refine g_get C (v := .ref (ad 4)) fl_X3_pay_X0 47 rfl rfl 3 (by decide) fw_X3_pay_fld69 rfl dX3_pay_13 ?_
  refine g_iload_n C dX3_pay_16 1 rfl ?_
  refine g_iald C (x := g (6 * r + 3)) 51 0 rfl rfl r rfl hr (by decide) rfl dX3_pay_17 ?_
  refine g_iconst C (v := 0) dX3_pay_18 ci_0 ?_
  refine g_callVi C (c0_X0_change l D cI cO ad g r hr (g (6 * r + 3))) gX3_pay_X0_change rfl ⟨rfl, rfl⟩ hd_X0_change ⟨Nat.le_of_ble_eq_true rfl, Nat.le_of_ble_eq_true rfl⟩ [0, 1] rfl (fun _ _ => trivial) rfl (rest := []) rfl (Nat.le_of_ble_eq_true rfl) dX3_pay_19 ⟨Nat.zero_le _, Nat.zero_le _⟩ 0 rfl rfl rfl (pre := ((wS0 xa ad ha ta) ++ ((wT ta cI t (nI n)) ++ (wHs ha hb cI cO G (nI o) (nI z))))) (post := []) (ws' := ((wS0 xa ad ha ta) ++ ((wT ta cI t (nI n)) ++ ((wHs ha hb cI cO G (nI o) (nI z)) ++ (wB ad cI g))))) rfl rfl ?_
  refine g_iconst C (v := -1) dX3_pay_22 ci_m1 ?_
  refine g_icmp_ne C (tgt := 36) dX3_pay_23 (by decide) (fun _ => ?_) (fun h23_1 => absurd h23_1 hm)
  refine g_aload_n C dX3_pay_36 0 rfl ?_
  refine g_get C (v := .ref (ha 0)) fl_X3_pay_X3 0 rfl rfl 1 (by decide) fw_X3_pay_fld19 rfl dX3_pay_37 ?_
  refine g_aload_n C dX3_pay_40 0 rfl ?_
  refine g_get C (v := .ref (ad 0)) fl_X3_pay_X3 0 rfl rfl 0 (by decide) fw_X3_pay_fld12 rfl dX3_pay_41 ?_
  refine g_callVv C (c_X1_keep l D cI cO ha hb ad G g o z ho hz) gX3_pay_X1_keep rfl ⟨rfl, rfl⟩ hd_X1_keep ⟨Nat.le_of_ble_eq_true rfl, Nat.le_of_ble_eq_true rfl⟩ [0, 1] rfl (fun _ _ => trivial) rfl (rest := []) rfl (Nat.le_of_ble_eq_true rfl) dX3_pay_44 ⟨Nat.zero_le _, Nat.zero_le _⟩ 0 rfl rfl rfl (pre := ((wS0 xa ad ha ta) ++ (wT ta cI t (nI n)))) (post := []) (ws' := ((wS0 xa ad ha ta) ++ ((wT ta cI t (nI n)) ++ ((wHs ha hb cI cO (kG G o z g) (nI (kO o z)) (nI (kM z + 1))) ++ (wB ad cI g))))) rfl rfl ?_
  refine g_aload_n C dX3_pay_47 0 rfl ?_
  refine g_get C (v := .ref (ad 0)) fl_X3_pay_X3 0 rfl rfl 0 (by decide) fw_X3_pay_fld12 rfl dX3_pay_48 ?_
  refine g_iload_n C dX3_pay_51 1 rfl ?_
  refine g_callVi C (c_X0_payIfPossible l D cI cO ad g r hr) gX3_pay_X0_payIfPossible rfl ⟨rfl, rfl⟩ hd_X0_payIfPossible ⟨Nat.le_of_ble_eq_true rfl, Nat.le_of_ble_eq_true rfl⟩ [0, 1] rfl (fun _ _ => trivial) rfl (rest := []) rfl (Nat.le_of_ble_eq_true rfl) dX3_pay_52 ⟨Nat.zero_le _, Nat.zero_le _⟩ 0 rfl rfl rfl (pre := ((wS0 xa ad ha ta) ++ ((wT ta cI t (nI n)) ++ (wHs ha hb cI cO (kG G o z g) (nI (kO o z)) (nI (kM z + 1)))))) (post := []) (ws' := ((wS0 xa ad ha ta) ++ ((wT ta cI t (nI n)) ++ ((wHs ha hb cI cO (kG G o z g) (nI (kO o z)) (nI (kM z + 1))) ++ (wB ad cI ((xPa g r).2)))))) rfl rfl ?_
  exact g_iret C hret hlk dX3_pay_55 rfl rfl
theorem fw_X3_undo_fld19 : Cond.fieldLink RX3 19 "StuckRods" "history" "LStuckRods$History;" ∈ wsX3_undo := (List.mem_cons_of_mem _ (List.mem_append_left _ (List.mem_append_left _ (List.mem_append_left _ (List.mem_append_left _ (List.mem_append_left _ (List.mem_of_getElem? (i := 2) rfl)))))))
theorem fl_X3_undo_X3 : ∀ w ∈ wsX30, w ∈ wsX3_undo := fun _ h => List.mem_cons_of_mem _ (List.mem_append_left _ (List.mem_append_left _ (List.mem_append_left _ (List.mem_append_right _ h))))
theorem fw_X3_undo_fld116 : Cond.fieldLink RX3 116 "StuckRods$History" "size" "I" ∈ wsX3_undo := (List.mem_cons_of_mem _ (List.mem_append_left _ (List.mem_append_left _ (List.mem_append_left _ (List.mem_append_left _ (List.mem_append_left _ (List.mem_of_getElem? (i := 3) rfl)))))))
theorem fl_X3_undo_X1 : ∀ w ∈ wsX10, w ∈ wsX3_undo := fun _ h => List.mem_cons_of_mem _ (List.mem_append_left _ (List.mem_append_left _ (List.mem_append_right _ h)))
theorem fw_X3_undo_fld12 : Cond.fieldLink RX3 12 "StuckRods" "board" "LStuckRods$Board;" ∈ wsX3_undo := (List.mem_cons_of_mem _ (List.mem_append_left _ (List.mem_append_left _ (List.mem_append_left _ (List.mem_append_left _ (List.mem_append_left _ (List.mem_of_getElem? (i := 4) rfl)))))))
theorem hd_X1_restore : yX1_restore.cls = RX1 ∧ yX1_restore.cls ≠ "java/lang/invoke/MethodHandle" ∧ yX1_restore.cls ≠ "java/lang/invoke/VarHandle" ∧ (parseMethodDescriptor yX1_restore.desc).map (fun d => d.parameters.length) = some 1 := by decide +kernel
abbrev rmX3_undo : Room := { frames := 2, cells := 0, slots := 0, locals := 43 }
set_option maxHeartbeats 1000000 in
set_option maxRecDepth 100000 in
theorem c_X3_undo (l : Launch) (D : va_G) (cI cO : ClassId) (xa : Nat) (ta ha : Nat → Nat) (hb : Nat → Nat → Nat) (ad : Nat → Nat) (t : Nat → Int32) (n : Nat) (G : Nat → Nat → Int32) (g : Nat → Int32) (o z : Nat) (hn : n ≤ 60) (ho : o < 6) (hz : z ≤ 6) (hp : 0 < z) : cR (fun _ => True) l yX3_undo wsX3_undo rmX3_undo D vwCl (tyA cI cO) [.ref xa] ((wS0 xa ad ha ta) ++ ((wT ta cI t (nI n)) ++ ((wHs ha hb cI cO G (nI o) (nI z)) ++ (wB ad cI g)))) (some (.int (nI (z - 1)))) ((wS0 xa ad ha ta) ++ ((wT ta cI t (nI n)) ++ ((wHs ha hb cI cO G (nI o) (nI (z - 1))) ++ (wB ad cI (G (rI o z)))))) := by
  refine cR_of (cc := cX3_undo) (maxL := 1) (ret := (some .int)) (by decide) rfl (Nat.le_of_ble_eq_true rfl) ?_
  intro p e s m below meth c A C hret hlk hnm hF
  refine g_lv [0] (lv' := [(0, .ref xa)]) rfl ?_
  refine g_aload_n C dX3_undo_0 0 rfl ?_
  refine g_get C (v := .ref (ha 0)) fl_X3_undo_X3 0 rfl rfl 1 (by decide) fw_X3_undo_fld19 rfl dX3_undo_1 ?_
  refine g_get C (v := .int (nI z)) fl_X3_undo_X1 3 rfl rfl 2 (by decide) fw_X3_undo_fld116 rfl dX3_undo_4 ?_
  refine g_if_ne C (tgt := 20) dX3_undo_7 (by decide) (fun _ => ?_) (fun h7_1 => absurd h7_1 (nI_ne0 hp (by omega)))
  refine g_aload_n C dX3_undo_20 0 rfl ?_
  refine g_get C (v := .ref (ha 0)) fl_X3_undo_X3 0 rfl rfl 1 (by decide) fw_X3_undo_fld19 rfl dX3_undo_21 ?_
  refine g_aload_n C dX3_undo_24 0 rfl ?_
  refine g_get C (v := .ref (ad 0)) fl_X3_undo_X3 0 rfl rfl 0 (by decide) fw_X3_undo_fld12 rfl dX3_undo_25 ?_
  refine g_callVv C (c_X1_restore l D cI cO ha hb ad G g o z ho hz hp) gX3_undo_X1_restore rfl ⟨rfl, rfl⟩ hd_X1_restore ⟨Nat.le_of_ble_eq_true rfl, Nat.le_of_ble_eq_true rfl⟩ [0, 1] rfl (fun _ _ => trivial) rfl (rest := []) rfl (Nat.le_of_ble_eq_true rfl) dX3_undo_28 ⟨Nat.zero_le _, Nat.zero_le _⟩ 0 rfl rfl rfl (pre := ((wS0 xa ad ha ta) ++ (wT ta cI t (nI n)))) (post := []) (ws' := ((wS0 xa ad ha ta) ++ ((wT ta cI t (nI n)) ++ ((wHs ha hb cI cO G (nI o) (nI (z - 1))) ++ (wB ad cI (G (rI o z))))))) rfl rfl ?_
  refine g_aload_n C dX3_undo_31 0 rfl ?_
  refine g_get C (v := .ref (ha 0)) fl_X3_undo_X3 0 rfl rfl 1 (by decide) fw_X3_undo_fld19 rfl dX3_undo_32 ?_
  refine g_get C (v := .int (nI (z - 1))) fl_X3_undo_X1 3 rfl rfl 2 (by decide) fw_X3_undo_fld116 rfl dX3_undo_35 ?_
  exact g_iret C hret hlk dX3_undo_38 rfl rfl
