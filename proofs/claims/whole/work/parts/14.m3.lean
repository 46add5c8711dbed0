theorem yAl_s {u : Nat → Int32} {d k : Nat} (h : 8 - d = k) : yAl u (d + 1) = 10 * yAl u d + (xSh u k).toInt64 + (u (6 * k + 3)).toInt64 := by subst h; rfl
theorem fw_X4_told_fld7 : Cond.fieldLink RX4 7 "StuckRodsModel" "s" "[I" ∈ wsX4_told := (List.mem_cons_of_mem _ (List.mem_append_left _ (List.mem_append_left _ (List.mem_of_getElem? (i := 0) rfl))))
theorem fl_X4_told_X4 : ∀ w ∈ wsX40, w ∈ wsX4_told := fun _ h => List.mem_cons_of_mem _ (List.mem_append_right _ h)
theorem hd_X4_numbers : yX4_numbers.cls = RX4 ∧ yX4_numbers.cls ≠ "java/lang/invoke/MethodHandle" ∧ yX4_numbers.cls ≠ "java/lang/invoke/VarHandle" ∧ (parseMethodDescriptor yX4_numbers.desc).map (fun d => d.parameters.length) = some 1 := by decide +kernel
abbrev rmX4_told : Room := { frames := 5, cells := 0, slots := 0, locals := 116 }
set_option maxHeartbeats 1000000 in
set_option maxRecDepth 100000 in
theorem c_X4_told (l : Launch) (D : va_G) (cI cO : ClassId) (ma : Nat → Nat) (th : Int32) (u a9 sv : Nat → Int32) (z : Nat) (t : Nat → Int32) (n : Nat) (dg : Int64) (hn : n ≤ 60) (hz : z ≤ 6) (r : Nat) (hr : r < 9) (w : Nat) (hw : w ≤ 7) : cR (fun _ => True) l yX4_told wsX4_told rmX4_told D vwCl (tyA cI cO) [.ref (ma 0), .int (nI r), .int (nI w)] (wM ma cI th u a9 sv z t n dg) (some (.int (yRd u r w))) (wM ma cI th u a9 sv z t n dg) := by
  refine cR_of (cc := cX4_told) (maxL := 3) (ret := (some .int)) (by decide) rfl (Nat.le_of_ble_eq_true rfl) ?_
  intro p e s m below meth c A C hret hlk hnm hF
  refine g_lv [0, 1, 2] (lv' := [(0, .ref (ma 0)), (1, .int (nI r)), (2, .int (nI w))]) rfl ?_
  rcases (show w = 0 ∨ w = 1 ∨ w = 2 ∨ w = 3 ∨ w = 4 ∨ w = 5 ∨ w = 6 ∨ w = 7 by omega) with e | e | e | e | e | e | e | e <;> subst e
  · refine g_iload_n C dX4_told_0 2 rfl ?_
    refine g_tableIn C (tgt := 44) dX4_told_1 (by decide) (by decide) rfl (by decide) ?_
    refine g_aload_n C dX4_told_44 0 rfl ?_
    refine g_get C (v := .ref (ma 1)) fl_X4_told_X4 0 rfl rfl 1 (by decide) fw_X4_told_fld7 rfl dX4_told_45 ?_
    refine g_iload_n C dX4_told_48 1 rfl ?_
    refine g_iload_n C dX4_told_49 2 rfl ?_
    refine g_callSi C (c_X4_of l D cI cO r 0 (6 * r + 1) rfl) gX4_told_X4_of rfl ⟨rfl, rfl⟩ hd_X4_of ⟨Nat.le_of_ble_eq_true rfl, Nat.le_of_ble_eq_true rfl⟩ [0, 1] rfl (fun _ _ => trivial) rfl (rest := [.ref (ma 1)]) rfl (Nat.le_of_ble_eq_true rfl) dX4_told_50 ⟨Nat.zero_le _, Nat.zero_le _⟩ (pre := []) (post := (wM ma cI th u a9 sv z t n dg)) (ws' := (wM ma cI th u a9 sv z t n dg)) rfl rfl ?_
    refine g_iald C (x := u (6 * r + 1)) 1 0 rfl rfl (6 * r + 1) rfl (by omega) (by decide) rfl dX4_told_53 ?_
    exact g_iret C hret hlk dX4_told_54 rfl rfl
  · refine g_iload_n C dX4_told_0 2 rfl ?_
    refine g_tableIn C (tgt := 44) dX4_told_1 (by decide) (by decide) rfl (by decide) ?_
    refine g_aload_n C dX4_told_44 0 rfl ?_
    refine g_get C (v := .ref (ma 1)) fl_X4_told_X4 0 rfl rfl 1 (by decide) fw_X4_told_fld7 rfl dX4_told_45 ?_
    refine g_iload_n C dX4_told_48 1 rfl ?_
    refine g_iload_n C dX4_told_49 2 rfl ?_
    refine g_callSi C (c_X4_of l D cI cO r 1 (6 * r + 2) rfl) gX4_told_X4_of rfl ⟨rfl, rfl⟩ hd_X4_of ⟨Nat.le_of_ble_eq_true rfl, Nat.le_of_ble_eq_true rfl⟩ [0, 1] rfl (fun _ _ => trivial) rfl (rest := [.ref (ma 1)]) rfl (Nat.le_of_ble_eq_true rfl) dX4_told_50 ⟨Nat.zero_le _, Nat.zero_le _⟩ (pre := []) (post := (wM ma cI th u a9 sv z t n dg)) (ws' := (wM ma cI th u a9 sv z t n dg)) rfl rfl ?_
    refine g_iald C (x := u (6 * r + 2)) 1 0 rfl rfl (6 * r + 2) rfl (by omega) (by decide) rfl dX4_told_53 ?_
    exact g_iret C hret hlk dX4_told_54 rfl rfl
  · refine g_iload_n C dX4_told_0 2 rfl ?_
    refine g_tableIn C (tgt := 55) dX4_told_1 (by decide) (by decide) rfl (by decide) ?_
    refine g_aload_n C dX4_told_55 0 rfl ?_
    refine g_iload_n C dX4_told_56 1 rfl ?_
    refine g_callVi C (c_X4_shows l D cI cO ma th u a9 sv z t n dg hn hz r ((by omega))) gX4_told_X4_shows rfl ⟨rfl, rfl⟩ hd_X4_shows ⟨Nat.le_of_ble_eq_true rfl, Nat.le_of_ble_eq_true rfl⟩ [0, 1] rfl (fun _ _ => trivial) rfl (rest := []) rfl (Nat.le_of_ble_eq_true rfl) dX4_told_57 ⟨Nat.zero_le _, Nat.zero_le _⟩ 0 rfl rfl rfl (pre := []) (post := []) (ws' := (wM ma cI th u a9 sv z t n dg)) rfl rfl ?_
    exact g_iret C hret hlk dX4_told_60 rfl rfl
  · refine g_iload_n C dX4_told_0 2 rfl ?_
    refine g_tableIn C (tgt := 61) dX4_told_1 (by decide) (by decide) rfl (by decide) ?_
    refine g_aload_n C dX4_told_61 0 rfl ?_
    refine g_get C (v := .ref (ma 1)) fl_X4_told_X4 0 rfl rfl 1 (by decide) fw_X4_told_fld7 rfl dX4_told_62 ?_
    refine g_iload_n C dX4_told_65 1 rfl ?_
    refine g_iconst C (v := 2) dX4_told_66 ci_2 ?_
    refine g_callSi C (c_X4_of l D cI cO r 2 (6 * r + 3) rfl) gX4_told_X4_of rfl ⟨rfl, rfl⟩ hd_X4_of ⟨Nat.le_of_ble_eq_true rfl, Nat.le_of_ble_eq_true rfl⟩ [0, 1] rfl (fun _ _ => trivial) rfl (rest := [.ref (ma 1)]) rfl (Nat.le_of_ble_eq_true rfl) dX4_told_67 ⟨Nat.zero_le _, Nat.zero_le _⟩ (pre := []) (post := (wM ma cI th u a9 sv z t n dg)) (ws' := (wM ma cI th u a9 sv z t n dg)) rfl rfl ?_
    refine g_iald C (x := u (6 * r + 3)) 1 0 rfl rfl (6 * r + 3) rfl (by omega) (by decide) rfl dX4_told_70 ?_
    refine g_bipush C (v := 100) dX4_told_71 cb_100 ?_
    refine g_iadd C (v := (u (6 * r + 3)) + 100) dX4_told_73 rfl ?_
    exact g_iret C hret hlk dX4_told_74 rfl rfl
  · refine g_iload_n C dX4_told_0 2 rfl ?_
    refine g_tableIn C (tgt := 75) dX4_told_1 (by decide) (by decide) rfl (by decide) ?_
    refine g_aload_n C dX4_told_75 0 rfl ?_
    refine g_get C (v := .ref (ma 1)) fl_X4_told_X4 0 rfl rfl 1 (by decide) fw_X4_told_fld7 rfl dX4_told_76 ?_
    refine g_iload_n C dX4_told_79 1 rfl ?_
    refine g_iconst C (v := 3) dX4_told_80 ci_3 ?_
    refine g_iload_n C dX4_told_81 2 rfl ?_
    refine g_iadd C (v := nI 7) dX4_told_82 rfl ?_
    refine g_iconst C (v := 4) dX4_told_83 ci_4 ?_
    refine g_isub C (v := nI 3) dX4_told_84 rfl ?_
    refine g_callSi C (c_X4_of l D cI cO r 3 (6 * r + 4) rfl) gX4_told_X4_of rfl ⟨rfl, rfl⟩ hd_X4_of ⟨Nat.le_of_ble_eq_true rfl, Nat.le_of_ble_eq_true rfl⟩ [0, 1] rfl (fun _ _ => trivial) rfl (rest := [.ref (ma 1)]) rfl (Nat.le_of_ble_eq_true rfl) dX4_told_85 ⟨Nat.zero_le _, Nat.zero_le _⟩ (pre := []) (post := (wM ma cI th u a9 sv z t n dg)) (ws' := (wM ma cI th u a9 sv z t n dg)) rfl rfl ?_
    refine g_iald C (x := u (6 * r + 4)) 1 0 rfl rfl (6 * r + 4) rfl (by omega) (by decide) rfl dX4_told_88 ?_
    exact g_iret C hret hlk dX4_told_89 rfl rfl
  · refine g_iload_n C dX4_told_0 2 rfl ?_
    refine g_tableIn C (tgt := 75) dX4_told_1 (by decide) (by decide) rfl (by decide) ?_
    refine g_aload_n C dX4_told_75 0 rfl ?_
    refine g_get C (v := .ref (ma 1)) fl_X4_told_X4 0 rfl rfl 1 (by decide) fw_X4_told_fld7 rfl dX4_told_76 ?_
    refine g_iload_n C dX4_told_79 1 rfl ?_
    refine g_iconst C (v := 3) dX4_told_80 ci_3 ?_
    refine g_iload_n C dX4_told_81 2 rfl ?_
    refine g_iadd C (v := nI 8) dX4_told_82 rfl ?_
    refine g_iconst C (v := 4) dX4_told_83 ci_4 ?_
    refine g_isub C (v := nI 4) dX4_told_84 rfl ?_
    refine g_callSi C (c_X4_of l D cI cO r 4 (6 * r + 5) rfl) gX4_told_X4_of rfl ⟨rfl, rfl⟩ hd_X4_of ⟨Nat.le_of_ble_eq_true rfl, Nat.le_of_ble_eq_true rfl⟩ [0, 1] rfl (fun _ _ => trivial) rfl (rest := [.ref (ma 1)]) rfl (Nat.le_of_ble_eq_true rfl) dX4_told_85 ⟨Nat.zero_le _, Nat.zero_le _⟩ (pre := []) (post := (wM ma cI th u a9 sv z t n dg)) (ws' := (wM ma cI th u a9 sv z t n dg)) rfl rfl ?_
    refine g_iald C (x := u (6 * r + 5)) 1 0 rfl rfl (6 * r + 5) rfl (by omega) (by decide) rfl dX4_told_88 ?_
    exact g_iret C hret hlk dX4_told_89 rfl rfl
  · refine g_iload_n C dX4_told_0 2 rfl ?_
    refine g_tableIn C (tgt := 75) dX4_told_1 (by decide) (by decide) rfl (by decide) ?_
    refine g_aload_n C dX4_told_75 0 rfl ?_
    refine g_get C (v := .ref (ma 1)) fl_X4_told_X4 0 rfl rfl 1 (by decide) fw_X4_told_fld7 rfl dX4_told_76 ?_
    refine g_iload_n C dX4_told_79 1 rfl ?_
    refine g_iconst C (v := 3) dX4_told_80 ci_3 ?_
    refine g_iload_n C dX4_told_81 2 rfl ?_
    refine g_iadd C (v := nI 9) dX4_told_82 rfl ?_
    refine g_iconst C (v := 4) dX4_told_83 ci_4 ?_
    refine g_isub C (v := nI 5) dX4_told_84 rfl ?_
    refine g_callSi C (c_X4_of l D cI cO r 5 (6 * r + 6) rfl) gX4_told_X4_of rfl ⟨rfl, rfl⟩ hd_X4_of ⟨Nat.le_of_ble_eq_true rfl, Nat.le_of_ble_eq_true rfl⟩ [0, 1] rfl (fun _ _ => trivial) rfl (rest := [.ref (ma 1)]) rfl (Nat.le_of_ble_eq_true rfl) dX4_told_85 ⟨Nat.zero_le _, Nat.zero_le _⟩ (pre := []) (post := (wM ma cI th u a9 sv z t n dg)) (ws' := (wM ma cI th u a9 sv z t n dg)) rfl rfl ?_
    refine g_iald C (x := u (6 * r + 6)) 1 0 rfl rfl (6 * r + 6) rfl (by omega) (by decide) rfl dX4_told_88 ?_
    exact g_iret C hret hlk dX4_told_89 rfl rfl
  · refine g_iload_n C dX4_told_0 2 rfl ?_
    refine g_tableOut C (tgt := 90) dX4_told_1 (by decide) (by decide) ?_
    refine g_aload_n C dX4_told_90 0 rfl ?_
    refine g_iload_n C dX4_told_91 1 rfl ?_
    refine g_callVi C (c_X4_numbers l D cI cO ma th u a9 sv z t n dg hn hz r ((by omega))) gX4_told_X4_numbers rfl ⟨rfl, rfl⟩ hd_X4_numbers ⟨Nat.le_of_ble_eq_true rfl, Nat.le_of_ble_eq_true rfl⟩ [0, 1] rfl (fun _ _ => trivial) rfl (rest := []) rfl (Nat.le_of_ble_eq_true rfl) dX4_told_92 ⟨Nat.zero_le _, Nat.zero_le _⟩ 0 rfl rfl rfl (pre := []) (post := []) (ws' := (wM ma cI th u a9 sv z t n dg)) rfl rfl ?_
    exact g_iret C hret hlk dX4_told_95 rfl rfl
abbrev rmX4_rod_1 : Room := { frames := 2, cells := 0, slots := 0, locals := 42 }
set_option maxHeartbeats 1000000 in
set_option maxRecDepth 100000 in
theorem c_X4_rod_1 (l : Launch) (D : va_G) (cI cO : ClassId) (ma : Nat → Nat) (th : Int32) (u a9 sv : Nat → Int32) (z : Nat) (t : Nat → Int32) (n : Nat) (dg : Int64) (hn : n ≤ 60) (hz : z ≤ 6) (v9 : Int32) (h : v9 < 0 ∨ ¬ v9 < 9) (w9 : Int32) : cR (fun _ => True) l yX4_rod wsX4_rod rmX4_rod_1 D vwCl (tyA cI cO) [.ref (ma 0), .int v9, .int w9] (wM ma cI th u a9 sv z t n dg) (some (.int 0)) (wM ma cI 1 u a9 sv z t n dg) := by
  refine cR_of (cc := cX4_rod) (maxL := 3) (ret := (some .int)) (by decide) rfl (Nat.le_of_ble_eq_true rfl) ?_
  intro p e s m below meth c A C hret hlk hnm hF
  refine g_lv [0, 1, 2] (lv' := [(0, .ref (ma 0)), (1, .int v9), (2, .int w9)]) rfl ?_
  refine g_aload_n C dX4_rod_0 0 rfl ?_
  refine g_iload_n C dX4_rod_1 1 rfl ?_
  refine g_callSi C (c_X4_isRod l D cI cO v9) gX4_rod_X4_isRod rfl ⟨rfl, rfl⟩ hd_X4_isRod ⟨Nat.le_of_ble_eq_true rfl, Nat.le_of_ble_eq_true rfl⟩ [0, 1] rfl (fun _ _ => trivial) rfl (rest := [.ref (ma 0)]) rfl (Nat.le_of_ble_eq_true rfl) dX4_rod_2 ⟨Nat.zero_le _, Nat.zero_le _⟩ (pre := []) (post := (wM ma cI th u a9 sv z t n dg)) (ws' := (wM ma cI th u a9 sv z t n dg)) rfl rfl ?_
  refine g_if_ne C (tgt := 12) dX4_rod_5 (by decide) (fun h5_1 => absurd (bf (nrod h)) h5_1) (fun _ => ?_)
  refine g_iconst C (v := 1) dX4_rod_8 ci_1 ?_
  refine g_goto C (tgt := 27) dX4_rod_9 (by decide) ?_
  refine g_callVi C (c_X4_holds l D cI cO ma th u a9 sv z t n dg hn hz 1) gX4_rod_X4_holds rfl ⟨rfl, rfl⟩ hd_X4_holds ⟨Nat.le_of_ble_eq_true rfl, Nat.le_of_ble_eq_true rfl⟩ [0, 1] rfl (fun _ _ => trivial) rfl (rest := []) rfl (Nat.le_of_ble_eq_true rfl) dX4_rod_27 ⟨Nat.zero_le _, Nat.zero_le _⟩ 0 rfl rfl rfl (pre := []) (post := []) (ws' := (wM ma cI 1 u a9 sv z t n dg)) rfl rfl ?_
  refine g_if_eq C (tgt := 42) dX4_rod_30 (by decide) (fun _ => ?_) (fun h30_2 => absurd (by decide) h30_2)
  refine g_iconst C (v := 0) dX4_rod_42 ci_0 ?_
  exact g_iret C hret hlk dX4_rod_43 rfl rfl
abbrev rmX4_rod_2 : Room := { frames := 2, cells := 0, slots := 0, locals := 42 }
set_option maxHeartbeats 1000000 in
set_option maxRecDepth 100000 in
theorem c_X4_rod_2 (l : Launch) (D : va_G) (cI cO : ClassId) (ma : Nat → Nat) (th : Int32) (u a9 sv : Nat → Int32) (z : Nat) (t : Nat → Int32) (n : Nat) (dg : Int64) (hn : n ≤ 60) (hz : z ≤ 6) (r : Nat) (hr : r < 9) (w9 : Int32) (h : w9 < 0 ∨ ¬ w9 ≤ 7) : cR (fun _ => True) l yX4_rod wsX4_rod rmX4_rod_2 D vwCl (tyA cI cO) [.ref (ma 0), .int (nI r), .int w9] (wM ma cI th u a9 sv z t n dg) (some (.int 0)) (wM ma cI 2 u a9 sv z t n dg) := by
  refine cR_of (cc := cX4_rod) (maxL := 3) (ret := (some .int)) (by decide) rfl (Nat.le_of_ble_eq_true rfl) ?_
  intro p e s m below meth c A C hret hlk hnm hF
  refine g_lv [0, 1, 2] (lv' := [(0, .ref (ma 0)), (1, .int (nI r)), (2, .int w9)]) rfl ?_
  refine g_aload_n C dX4_rod_0 0 rfl ?_
  refine g_iload_n C dX4_rod_1 1 rfl ?_
  refine g_callSi C (c_X4_isRod l D cI cO (nI r)) gX4_rod_X4_isRod rfl ⟨rfl, rfl⟩ hd_X4_isRod ⟨Nat.le_of_ble_eq_true rfl, Nat.le_of_ble_eq_true rfl⟩ [0, 1] rfl (fun _ _ => trivial) rfl (rest := [.ref (ma 0)]) rfl (Nat.le_of_ble_eq_true rfl) dX4_rod_2 ⟨Nat.zero_le _, Nat.zero_le _⟩ (pre := []) (post := (wM ma cI th u a9 sv z t n dg)) (ws' := (wM ma cI th u a9 sv z t n dg)) rfl rfl ?_
  refine g_if_ne C (tgt := 12) dX4_rod_5 (by decide) (fun _ => ?_) (fun h5_1 => absurd h5_1 (bt (rodp hr)))
  refine g_iload_n C dX4_rod_12 2 rfl ?_
  refine g_iconst C (v := 0) dX4_rod_13 ci_0 ?_
  refine g_bipush C (v := 7) dX4_rod_14 cb_7 ?_
  refine g_callSi C (c_X4_in l D cI cO w9 0 7) gX4_rod_X4_in rfl ⟨rfl, rfl⟩ hd_X4_in ⟨Nat.le_of_ble_eq_true rfl, Nat.le_of_ble_eq_true rfl⟩ [0, 1] rfl (fun _ _ => trivial) rfl (rest := [.ref (ma 0)]) rfl (Nat.le_of_ble_eq_true rfl) dX4_rod_16 ⟨Nat.zero_le _, Nat.zero_le _⟩ (pre := []) (post := (wM ma cI th u a9 sv z t n dg)) (ws' := (wM ma cI th u a9 sv z t n dg)) rfl rfl ?_
  refine g_if_ne C (tgt := 26) dX4_rod_19 (by decide) (fun h19_2 => absurd (bf (nin h)) h19_2) (fun _ => ?_)
  refine g_iconst C (v := 2) dX4_rod_22 ci_2 ?_
  refine g_goto C (tgt := 27) dX4_rod_23 (by decide) ?_
  refine g_callVi C (c_X4_holds l D cI cO ma th u a9 sv z t n dg hn hz 2) gX4_rod_X4_holds rfl ⟨rfl, rfl⟩ hd_X4_holds ⟨Nat.le_of_ble_eq_true rfl, Nat.le_of_ble_eq_true rfl⟩ [0, 1] rfl (fun _ _ => trivial) rfl (rest := []) rfl (Nat.le_of_ble_eq_true rfl) dX4_rod_27 ⟨Nat.zero_le _, Nat.zero_le _⟩ 0 rfl rfl rfl (pre := []) (post := []) (ws' := (wM ma cI 2 u a9 sv z t n dg)) rfl rfl ?_
  refine g_if_eq C (tgt := 42) dX4_rod_30 (by decide) (fun _ => ?_) (fun h30_3 => absurd (by decide) h30_3)
  refine g_iconst C (v := 0) dX4_rod_42 ci_0 ?_
  exact g_iret C hret hlk dX4_rod_43 rfl rfl
theorem hd_X4_told : yX4_told.cls = RX4 ∧ yX4_told.cls ≠ "java/lang/invoke/MethodHandle" ∧ yX4_told.cls ≠ "java/lang/invoke/VarHandle" ∧ (parseMethodDescriptor yX4_told.desc).map (fun d => d.parameters.length) = some 2 := by decide +kernel
abbrev rmX4_rod : Room := { frames := 6, cells := 0, slots := 0, locals := 138 }
set_option maxHeartbeats 1000000 in
set_option maxRecDepth 100000 in
theorem c_X4_rod (l : Launch) (D : va_G) (cI cO : ClassId) (ma : Nat → Nat) (th : Int32) (u a9 sv : Nat → Int32) (z : Nat) (t : Nat → Int32) (n : Nat) (dg : Int64) (hn : n ≤ 60) (hz : z ≤ 6) (r : Nat) (hr : r < 9) (w : Nat) (hw : w ≤ 7) : cR (fun _ => True) l yX4_rod wsX4_rod rmX4_rod D vwCl (tyA cI cO) [.ref (ma 0), .int (nI r), .int (nI w)] (wM ma cI th u a9 sv z t n dg) (some (.int (yRd u r w))) (wM ma cI 0 u a9 sv z t n dg) := by
  refine cR_of (cc := cX4_rod) (maxL := 3) (ret := (some .int)) (by decide) rfl (Nat.le_of_ble_eq_true rfl) ?_
  intro p e s m below meth c A C hret hlk hnm hF
  refine g_lv [0, 1, 2] (lv' := [(0, .ref (ma 0)), (1, .int (nI r)), (2, .int (nI w))]) rfl ?_
  refine g_aload_n C dX4_rod_0 0 rfl ?_
  refine g_iload_n C dX4_rod_1 1 rfl ?_
  refine g_callSi C (c_X4_isRod l D cI cO (nI r)) gX4_rod_X4_isRod rfl ⟨rfl, rfl⟩ hd_X4_isRod ⟨Nat.le_of_ble_eq_true rfl, Nat.le_of_ble_eq_true rfl⟩ [0, 1] rfl (fun _ _ => trivial) rfl (rest := [.ref (ma 0)]) rfl (Nat.le_of_ble_eq_true rfl) dX4_rod_2 ⟨Nat.zero_le _, Nat.zero_le _⟩ (pre := []) (post := (wM ma cI th u a9 sv z t n dg)) (ws' := (wM ma cI th u a9 sv z t n dg)) rfl rfl ?_
  refine g_if_ne C (tgt := 12) dX4_rod_5 (by decide) (fun _ => ?_) (fun h5_1 => absurd h5_1 (bt (rodp hr)))
  refine g_iload_n C dX4_rod_12 2 rfl ?_
  refine g_iconst C (v := 0) dX4_rod_13 ci_0 ?_
  refine g_bipush C (v := 7) dX4_rod_14 cb_7 ?_
  refine g_callSi C (c_X4_in l D cI cO (nI w) 0 7) gX4_rod_X4_in rfl ⟨rfl, rfl⟩ hd_X4_in ⟨Nat.le_of_ble_eq_true rfl, Nat.le_of_ble_eq_true rfl⟩ [0, 1] rfl (fun _ _ => trivial) rfl (rest := [.ref (ma 0)]) rfl (Nat.le_of_ble_eq_true rfl) dX4_rod_16 ⟨Nat.zero_le _, Nat.zero_le _⟩ (pre := []) (post := (wM ma cI th u a9 sv z t n dg)) (ws' := (wM ma cI th u a9 sv z t n dg)) rfl rfl ?_
  refine g_if_ne C (tgt := 26) dX4_rod_19 (by decide) (fun _ => ?_) (fun h19_2 => absurd h19_2 (bt (inp (nI_pos (by omega)) (leI (b := 7) hw (by decide)))))
  refine g_iconst C (v := 0) dX4_rod_26 ci_0 ?_
  refine g_callVi C (c_X4_holds l D cI cO ma th u a9 sv z t n dg hn hz 0) gX4_rod_X4_holds rfl ⟨rfl, rfl⟩ hd_X4_holds ⟨Nat.le_of_ble_eq_true rfl, Nat.le_of_ble_eq_true rfl⟩ [0, 1] rfl (fun _ _ => trivial) rfl (rest := []) rfl (Nat.le_of_ble_eq_true rfl) dX4_rod_27 ⟨Nat.zero_le _, Nat.zero_le _⟩ 0 rfl rfl rfl (pre := []) (post := []) (ws' := (wM ma cI 0 u a9 sv z t n dg)) rfl rfl ?_
  refine g_if_eq C (tgt := 42) dX4_rod_30 (by decide) (fun h30_3 => absurd h30_3 (by decide)) (fun _ => ?_)
  refine g_aload_n C dX4_rod_33 0 rfl ?_
  refine g_iload_n C dX4_rod_34 1 rfl ?_
  refine g_iload_n C dX4_rod_35 2 rfl ?_
  refine g_callVi C (c_X4_told l D cI cO ma 0 u a9 sv z t n dg hn hz r ((by omega)) w hw) gX4_rod_X4_told rfl ⟨rfl, rfl⟩ hd_X4_told ⟨Nat.le_of_ble_eq_true rfl, Nat.le_of_ble_eq_true rfl⟩ [0, 1] rfl (fun _ _ => trivial) rfl (rest := []) rfl (Nat.le_of_ble_eq_true rfl) dX4_rod_36 ⟨Nat.zero_le _, Nat.zero_le _⟩ 0 rfl rfl rfl (pre := []) (post := []) (ws' := (wM ma cI 0 u a9 sv z t n dg)) rfl rfl ?_
  refine g_goto C (tgt := 43) dX4_rod_39 (by decide) ?_
  exact g_iret C hret hlk dX4_rod_43 rfl rfl
theorem fw_X4_all_const127 : Cond.constantLong RX4 127 (10) ∈ wsX4_all := (List.mem_cons_of_mem _ (List.mem_append_left _ (List.mem_of_getElem? (i := 0) rfl)))
theorem fw_X4_all_fld7 : Cond.fieldLink RX4 7 "StuckRodsModel" "s" "[I" ∈ wsX4_all := (List.mem_cons_of_mem _ (List.mem_append_left _ (List.mem_of_getElem? (i := 1) rfl)))
theorem fl_X4_all_X4 : ∀ w ∈ wsX40, w ∈ wsX4_all := fun _ h => List.mem_cons_of_mem _ (List.mem_append_right _ h)
abbrev rmX4_all : Room := { frames := 2, cells := 0, slots := 0, locals := 42 }
set_option maxHeartbeats 1000000 in
set_option maxRecDepth 100000 in
theorem c_X4_all (l : Launch) (D : va_G) (cI cO : ClassId) (ma : Nat → Nat) (th : Int32) (u a9 sv : Nat → Int32) (z : Nat) (t : Nat → Int32) (n : Nat) (dg : Int64) (hn : n ≤ 60) (hz : z ≤ 6)  : cR (fun _ => True) l yX4_all wsX4_all rmX4_all D vwCl (tyA cI cO) [.ref (ma 0)] (wM ma cI th u a9 sv z t n dg) (some (.long (yAl u 9))) (wM ma cI th u a9 sv z t n dg) := by
  refine cR_of (cc := cX4_all) (maxL := 4) (ret := (some .long)) (by decide) rfl (Nat.le_of_ble_eq_true rfl) ?_
  intro p e s m below meth c A C hret hlk hnm hF
  refine g_lv [0] (lv' := [(0, .ref (ma 0))]) rfl ?_
  have K : ∀ k, k ≤ 9 → gG p l e rmX4_all s m ([.ref (ma 0)] : List Value).toArray below meth c D vwCl A s.heap 4 (MQ below (cQ (some (.long (yAl u 9))) (cB D vwCl (tyA cI cO) A (wM ma cI th u a9 sv z t n dg)) A) ([.ref (ma 0)] : List Value).toArray s 0 0 A) 0 0 (wM ma cI th u a9 sv z t n dg) 5 [(0, .ref (ma 0)), (1, .long (yAl u ((9 - k)))), (3, .int (yDn k))] [] := by
    intro k
    induction k with
    | zero =>
      intro _
      refine g_iload_n C dX4_all_5 2 rfl ?_
      refine g_if_lt C (tgt := 40) dX4_all_6 (by decide) (fun _ => ?_) (fun h6_1 => absurd (by decide) h6_1)
      refine g_lload_n C dX4_all_40 1 rfl ?_
      exact g_lret C hret hlk dX4_all_41 rfl rfl
    | succ k ih =>
      intro hk9
      refine g_lv [0, 1, 2] (lv' := [(0, .ref (ma 0)), (1, .long (yAl u ((9 - (k + 1))))), (3, .int (nI k))]) rfl ?_
      refine g_iload_n C dX4_all_5 2 rfl ?_
      refine g_if_lt C (tgt := 40) dX4_all_6 (by decide) (fun h6_2 => absurd h6_2 (nI_pos (by omega))) (fun _ => ?_)
      refine g_ldc2 C (v := 10) dX4_all_9 fw_X4_all_const127 ?_
      refine g_lload_n C dX4_all_12 1 rfl ?_
      refine g_lmul C (v := 10 * (yAl u ((9 - (k + 1))))) dX4_all_13 rfl ?_
      refine g_aload_n C dX4_all_14 0 rfl ?_
      refine g_iload_n C dX4_all_15 2 rfl ?_
      refine g_callVi C (c_X4_shows l D cI cO ma th u a9 sv z t n dg hn hz k ((by omega))) gX4_all_X4_shows rfl ⟨rfl, rfl⟩ hd_X4_shows ⟨Nat.le_of_ble_eq_true rfl, Nat.le_of_ble_eq_true rfl⟩ [0, 1] rfl (fun _ _ => trivial) rfl (rest := [.long (10 * (yAl u ((9 - (k + 1)))))]) rfl (Nat.le_of_ble_eq_true rfl) dX4_all_16 ⟨Nat.zero_le _, Nat.zero_le _⟩ 0 rfl rfl rfl (pre := []) (post := []) (ws' := (wM ma cI th u a9 sv z t n dg)) rfl rfl ?_
      refine g_i2l C (v := (xSh u k).toInt64) dX4_all_19 rfl ?_
      refine g_ladd C (v := (10 * (yAl u ((9 - (k + 1))))) + ((xSh u k).toInt64)) dX4_all_20 rfl ?_
      refine g_aload_n C dX4_all_21 0 rfl ?_
      refine g_get C (v := .ref (ma 1)) fl_X4_all_X4 0 rfl rfl 1 (by decide) fw_X4_all_fld7 rfl dX4_all_22 ?_
      refine g_iload_n C dX4_all_25 2 rfl ?_
      refine g_iconst C (v := 2) dX4_all_26 ci_2 ?_
      refine g_callSi C (c_X4_of l D cI cO k 2 (6 * k + 3) rfl) gX4_all_X4_of rfl ⟨rfl, rfl⟩ hd_X4_of ⟨Nat.le_of_ble_eq_true rfl, Nat.le_of_ble_eq_true rfl⟩ [0, 1] rfl (fun _ _ => trivial) rfl (rest := [.ref (ma 1), .long ((10 * (yAl u ((9 - (k + 1))))) + ((xSh u k).toInt64))]) rfl (Nat.le_of_ble_eq_true rfl) dX4_all_27 ⟨Nat.zero_le _, Nat.zero_le _⟩ (pre := []) (post := (wM ma cI th u a9 sv z t n dg)) (ws' := (wM ma cI th u a9 sv z t n dg)) rfl rfl ?_
      refine g_iald C (x := u (6 * k + 3)) 1 0 rfl rfl (6 * k + 3) rfl (by omega) (by decide) rfl dX4_all_30 ?_
      refine g_i2l C (v := (u (6 * k + 3)).toInt64) dX4_all_31 rfl ?_
      refine g_ladd C (v := ((10 * (yAl u ((9 - (k + 1))))) + ((xSh u k).toInt64)) + ((u (6 * k + 3)).toInt64)) dX4_all_32 rfl ?_
      refine g_lstore_n C (lv' := [(1, .long (((10 * (yAl u ((9 - (k + 1))))) + ((xSh u k).toInt64)) + ((u (6 * k + 3)).toInt64))), (0, .ref (ma 0)), (3, .int (nI k))]) dX4_all_33 rfl (by decide) rfl ?_
      refine g_iinc C (v := yDn k) (lv' := [(3, .int (yDn k)), (1, .long (((10 * (yAl u ((9 - (k + 1))))) + ((xSh u k).toInt64)) + ((u (6 * k + 3)).toInt64))), (0, .ref (ma 0))]) dX4_all_34 2 rfl (yDn_dec k) (by decide) rfl ?_
      refine g_goto C (tgt := 5) dX4_all_37 (by decide) ?_
      refine g_lv [2, 1, 0] (lv' := [(0, .ref (ma 0)), (1, .long (((10 * (yAl u ((9 - (k + 1))))) + ((xSh u k).toInt64)) + ((u (6 * k + 3)).toInt64))), (3, .int (yDn k))]) rfl ?_
      have i9 := ih (by omega)
      rw [show 9 - k = (9 - (k + 1)) + 1 by omega] at i9
      rw [yAl_s (d := 9 - (k + 1)) (k := k) (by omega)] at i9
      exact i9
  refine g_lconst C (v := 0) dX4_all_0 rfl ?_
  refine g_lstore_n C (lv' := [(1, .long 0), (0, .ref (ma 0))]) dX4_all_1 rfl (by decide) rfl ?_
  refine g_bipush C (v := 8) dX4_all_2 cb_8 ?_
  refine g_istore_n C (lv' := [(3, .int 8), (1, .long 0), (0, .ref (ma 0))]) dX4_all_4 rfl (by decide) rfl ?_
  refine g_lv [2, 1, 0] (lv' := [(0, .ref (ma 0)), (1, .long 0), (3, .int 8)]) rfl ?_
  exact K 9 (Nat.le_refl _)
theorem fw_X4_whole_fld22 : Cond.fieldLink RX4 22 "StuckRodsModel" "thrown" "I" ∈ wsX4_whole := (List.mem_cons_of_mem _ (List.mem_append_left _ (List.mem_of_getElem? (i := 0) rfl)))
theorem fl_X4_whole_X4 : ∀ w ∈ wsX40, w ∈ wsX4_whole := fun _ h => List.mem_cons_of_mem _ (List.mem_append_right _ h)
theorem hd_X4_all : yX4_all.cls = RX4 ∧ yX4_all.cls ≠ "java/lang/invoke/MethodHandle" ∧ yX4_all.cls ≠ "java/lang/invoke/VarHandle" ∧ (parseMethodDescriptor yX4_all.desc).map (fun d => d.parameters.length) = some 0 := by decide +kernel
abbrev rmX4_whole : Room := { frames := 3, cells := 0, slots := 0, locals := 65 }
set_option maxHeartbeats 1000000 in
set_option maxRecDepth 100000 in
theorem c_X4_whole (l : Launch) (D : va_G) (cI cO : ClassId) (ma : Nat → Nat) (th : Int32) (u a9 sv : Nat → Int32) (z : Nat) (t : Nat → Int32) (n : Nat) (dg : Int64) (hn : n ≤ 60) (hz : z ≤ 6)  : cR (fun _ => True) l yX4_whole wsX4_whole rmX4_whole D vwCl (tyA cI cO) [.ref (ma 0)] (wM ma cI th u a9 sv z t n dg) (some (.long (yAl u 9))) (wM ma cI 0 u a9 sv z t n dg) := by
  refine cR_of (cc := cX4_whole) (maxL := 1) (ret := (some .long)) (by decide) rfl (Nat.le_of_ble_eq_true rfl) ?_
  intro p e s m below meth c A C hret hlk hnm hF
  refine g_lv [0] (lv' := [(0, .ref (ma 0))]) rfl ?_
  refine g_aload_n C dX4_whole_0 0 rfl ?_
  refine g_iconst C (v := 0) dX4_whole_1 ci_0 ?_
  refine g_put C (ws' := (wM ma cI 0 u a9 sv z t n dg)) fl_X4_whole_X4 tyX4 tyX4_ok nmX4 0 rfl rfl 0 (by decide) fw_X4_whole_fld22 rfl (tyX4_ok 0 (by decide)) rfl rfl (Nat.le_of_ble_eq_true rfl) dX4_whole_2 rfl ?_
  refine g_aload_n C dX4_whole_5 0 rfl ?_
  refine g_callVl C (c_X4_all l D cI cO ma 0 u a9 sv z t n dg hn hz) gX4_whole_X4_all rfl ⟨rfl, rfl⟩ hd_X4_all ⟨Nat.le_of_ble_eq_true rfl, Nat.le_of_ble_eq_true rfl⟩ [0, 1] rfl (fun _ _ => trivial) rfl (rest := []) rfl (Nat.le_of_ble_eq_true rfl) dX4_whole_6 ⟨Nat.zero_le _, Nat.zero_le _⟩ 0 rfl rfl rfl (pre := []) (post := []) (ws' := (wM ma cI 0 u a9 sv z t n dg)) rfl rfl ?_
  exact g_lret C hret hlk dX4_whole_9 rfl rfl
theorem fw_X4_sum_fld7 : Cond.fieldLink RX4 7 "StuckRodsModel" "s" "[I" ∈ wsX4_sum := (List.mem_cons_of_mem _ (List.mem_append_left _ (List.mem_of_getElem? (i := 0) rfl)))
theorem fl_X4_sum_X4 : ∀ w ∈ wsX40, w ∈ wsX4_sum := fun _ h => List.mem_cons_of_mem _ (List.mem_append_right _ h)
abbrev rmX4_sum : Room := { frames := 2, cells := 0, slots := 0, locals := 42 }
set_option maxHeartbeats 1000000 in
set_option maxRecDepth 100000 in
theorem c_X4_sum (l : Launch) (D : va_G) (cI cO : ClassId) (ma : Nat → Nat) (th : Int32) (u a9 sv : Nat → Int32) (z : Nat) (t : Nat → Int32) (n : Nat) (dg : Int64) (hn : n ≤ 60) (hz : z ≤ 6) (w : Nat) (hw1 : 1 ≤ w) (hw : w ≤ 5) : cR (fun _ => True) l yX4_sum wsX4_sum rmX4_sum D vwCl (tyA cI cO) [.ref (ma 0), .int (nI w)] (wM ma cI th u a9 sv z t n dg) (some (.int (ySm u w 9))) (wM ma cI th u a9 sv z t n dg) := by
  refine cR_of (cc := cX4_sum) (maxL := 5) (ret := (some .int)) (by decide) rfl (Nat.le_of_ble_eq_true rfl) ?_
  intro p e s m below meth c A C hret hlk hnm hF
  refine g_lv [0, 1] (lv' := [(0, .ref (ma 0)), (1, .int (nI w))]) rfl ?_
  rcases (show w = 1 ∨ w = 2 ∨ w = 3 ∨ w = 4 ∨ w = 5 by omega) with e | e | e | e | e <;> subst e
  · refine g_lv [0, 1] (lv' := [(0, .ref (ma 0)), (1, .int 1)]) rfl ?_
    have K : ∀ (k q : Nat), k + q = 9 → gG p l e rmX4_sum s m ([.ref (ma 0), .int (nI 1)] : List Value).toArray below meth c D vwCl A s.heap 5 (MQ below (cQ (some (.int (ySm u 1 9))) (cB D vwCl (tyA cI cO) A (wM ma cI th u a9 sv z t n dg)) A) ([.ref (ma 0), .int (nI 1)] : List Value).toArray s 0 0 A) 0 0 (wM ma cI th u a9 sv z t n dg) 4 [(0, .ref (ma 0)), (1, .int 1), (2, .int (ySm u 1 q)), (3, .int (nI q))] [] := by
      intro k
      induction k with
      | zero =>
        intro q hn9 
        obtain rfl : q = 9 := by omega
        refine g_iload_n C dX4_sum_4 3 rfl ?_
        refine g_bipush C (v := 9) dX4_sum_5 cb_9 ?_
        refine g_icmp_ge C (tgt := 106) dX4_sum_7 (by decide) (fun _ => ?_) (fun h7_1 => absurd (by decide) h7_1)
        refine g_iload_n C dX4_sum_106 2 rfl ?_
        exact g_iret C hret hlk dX4_sum_107 rfl rfl
      | succ k ih =>
        intro q hn9 
        have hq9 : q < 9 := by omega
        refine g_iload_n C dX4_sum_4 3 rfl ?_
        refine g_bipush C (v := 9) dX4_sum_5 cb_9 ?_
        refine g_icmp_ge C (tgt := 106) dX4_sum_7 (by decide) (fun h7_2 => absurd h7_2 (ge9 hq9)) (fun _ => ?_)
        refine g_aload_n C dX4_sum_10 0 rfl ?_
        refine g_get C (v := .ref (ma 1)) fl_X4_sum_X4 0 rfl rfl 1 (by decide) fw_X4_sum_fld7 rfl dX4_sum_11 ?_
        refine g_iload_n C dX4_sum_14 3 rfl ?_
        refine g_iconst C (v := 2) dX4_sum_15 ci_2 ?_
        refine g_callSi C (c_X4_of l D cI cO q 2 (6 * q + 3) rfl) gX4_sum_X4_of rfl ⟨rfl, rfl⟩ hd_X4_of ⟨Nat.le_of_ble_eq_true rfl, Nat.le_of_ble_eq_true rfl⟩ [0, 1] rfl (fun _ _ => trivial) rfl (rest := [.ref (ma 1)]) rfl (Nat.le_of_ble_eq_true rfl) dX4_sum_16 ⟨Nat.zero_le _, Nat.zero_le _⟩ (pre := []) (post := (wM ma cI th u a9 sv z t n dg)) (ws' := (wM ma cI th u a9 sv z t n dg)) rfl rfl ?_
        refine g_iald C (x := u (6 * q + 3)) 1 0 rfl rfl (6 * q + 3) rfl (by omega) (by decide) rfl dX4_sum_19 ?_
        refine g_istore C (lv' := [(4, .int (u (6 * q + 3))), (0, .ref (ma 0)), (1, .int 1), (2, .int (ySm u 1 q)), (3, .int (nI q))]) dX4_sum_20 (by decide) rfl ?_
        refine g_iload_n C dX4_sum_22 3 rfl ?_
        refine g_iload_n C dX4_sum_23 2 rfl ?_
        refine g_iconst C (v := 2) dX4_sum_24 ci_2 ?_
        refine g_icmp_ne C (tgt := 33) dX4_sum_25 (by decide) (fun _ => ?_) (fun h25_3 => absurd h25_3 (by decide))
        refine g_iload_n C dX4_sum_33 2 rfl ?_
        refine g_iconst C (v := 3) dX4_sum_34 ci_3 ?_
        refine g_icmp_ne C (tgt := 49) dX4_sum_35 (by decide) (fun _ => ?_) (fun h35_4 => absurd h35_4 (by decide))
        refine g_iload_n C dX4_sum_49 2 rfl ?_
        refine g_iconst C (v := 1) dX4_sum_50 ci_1 ?_
        refine g_icmp_ne C (tgt := 62) dX4_sum_51 (by decide) (fun h51_5 => absurd (by decide) h51_5) (fun _ => ?_)
        refine g_iload C dX4_sum_54 0 rfl ?_
        refine g_if_eq C (tgt := 97) dX4_sum_56 (by decide) (fun h56_6 => ?_) (fun h56_6 => ?_)
        · refine g_iconst C (v := 0) dX4_sum_97 ci_0 ?_
          refine g_iadd C (v := (ySm u 1 q) + 0) dX4_sum_98 rfl ?_
          refine g_istore_n C (lv' := [(2, .int ((ySm u 1 q) + 0)), (4, .int (u (6 * q + 3))), (0, .ref (ma 0)), (1, .int 1), (3, .int (nI q))]) dX4_sum_99 rfl (by decide) rfl ?_
          refine g_iinc C (v := nI (q + 1)) (lv' := [(3, .int (nI (q + 1))), (2, .int ((ySm u 1 q) + 0)), (4, .int (u (6 * q + 3))), (0, .ref (ma 0)), (1, .int 1)]) dX4_sum_100 4 rfl (inc_nI _) (by decide) rfl ?_
          refine g_goto C (tgt := 4) dX4_sum_103 (by decide) ?_
          refine g_lv [3, 4, 1, 0] (lv' := [(0, .ref (ma 0)), (1, .int 1), (2, .int ((ySm u 1 q) + 0)), (3, .int (nI (q + 1)))]) rfl ?_
          have i9 := ih (q + 1) (by omega)
          rw [show ySm u 1 (q + 1) = (ySm u 1 q) + 0 by simp only [ySm, yIt, eq_true h56_6, Bool.false_eq_true, not_false_eq_true, not_true_eq_false, and_self, and_true, true_and, and_false, false_and, or_true, true_or, or_false, false_or, or_self, if_true, if_false, eq_self, ite_true, ite_false, reduceIte]] at i9
          exact i9
        · refine g_goto C (tgt := 93) dX4_sum_59 (by decide) ?_
          refine g_iconst C (v := 1) dX4_sum_93 ci_1 ?_
          refine g_goto C (tgt := 98) dX4_sum_94 (by decide) ?_
          refine g_iadd C (v := (ySm u 1 q) + 1) dX4_sum_98 rfl ?_
          refine g_istore_n C (lv' := [(2, .int ((ySm u 1 q) + 1)), (4, .int (u (6 * q + 3))), (0, .ref (ma 0)), (1, .int 1), (3, .int (nI q))]) dX4_sum_99 rfl (by decide) rfl ?_
          refine g_iinc C (v := nI (q + 1)) (lv' := [(3, .int (nI (q + 1))), (2, .int ((ySm u 1 q) + 1)), (4, .int (u (6 * q + 3))), (0, .ref (ma 0)), (1, .int 1)]) dX4_sum_100 4 rfl (inc_nI _) (by decide) rfl ?_
          refine g_goto C (tgt := 4) dX4_sum_103 (by decide) ?_
          refine g_lv [3, 4, 1, 0] (lv' := [(0, .ref (ma 0)), (1, .int 1), (2, .int ((ySm u 1 q) + 1)), (3, .int (nI (q + 1)))]) rfl ?_
          have i9 := ih (q + 1) (by omega)
          rw [show ySm u 1 (q + 1) = (ySm u 1 q) + 1 by simp only [ySm, yIt, h56_6, Bool.false_eq_true, not_false_eq_true, not_true_eq_false, and_self, and_true, true_and, and_false, false_and, or_true, true_or, or_false, false_or, or_self, if_true, if_false, eq_self, ite_true, ite_false, reduceIte]] at i9
          exact i9
    refine g_iconst C (v := 0) dX4_sum_0 ci_0 ?_
    refine g_istore_n C (lv' := [(2, .int 0), (0, .ref (ma 0)), (1, .int 1)]) dX4_sum_1 rfl (by decide) rfl ?_
    refine g_iconst C (v := 0) dX4_sum_2 ci_0 ?_
    refine g_istore_n C (lv' := [(3, .int 0), (2, .int 0), (0, .ref (ma 0)), (1, .int 1)]) dX4_sum_3 rfl (by decide) rfl ?_
    refine g_lv [2, 3, 1, 0] (lv' := [(0, .ref (ma 0)), (1, .int 1), (2, .int 0), (3, .int 0)]) rfl ?_
    exact K 9 0 rfl
  · refine g_lv [0, 1] (lv' := [(0, .ref (ma 0)), (1, .int 2)]) rfl ?_
    have K : ∀ (k q : Nat), k + q = 9 → gG p l e rmX4_sum s m ([.ref (ma 0), .int (nI 2)] : List Value).toArray below meth c D vwCl A s.heap 5 (MQ below (cQ (some (.int (ySm u 2 9))) (cB D vwCl (tyA cI cO) A (wM ma cI th u a9 sv z t n dg)) A) ([.ref (ma 0), .int (nI 2)] : List Value).toArray s 0 0 A) 0 0 (wM ma cI th u a9 sv z t n dg) 4 [(0, .ref (ma 0)), (1, .int 2), (2, .int (ySm u 2 q)), (3, .int (nI q))] [] := by
      intro k
      induction k with
      | zero =>
        intro q hn9 
        obtain rfl : q = 9 := by omega
        refine g_iload_n C dX4_sum_4 3 rfl ?_
        refine g_bipush C (v := 9) dX4_sum_5 cb_9 ?_
        refine g_icmp_ge C (tgt := 106) dX4_sum_7 (by decide) (fun _ => ?_) (fun h7_7 => absurd (by decide) h7_7)
        refine g_iload_n C dX4_sum_106 2 rfl ?_
        exact g_iret C hret hlk dX4_sum_107 rfl rfl
      | succ k ih =>
        intro q hn9 
        have hq9 : q < 9 := by omega
        refine g_iload_n C dX4_sum_4 3 rfl ?_
        refine g_bipush C (v := 9) dX4_sum_5 cb_9 ?_
        refine g_icmp_ge C (tgt := 106) dX4_sum_7 (by decide) (fun h7_8 => absurd h7_8 (ge9 hq9)) (fun _ => ?_)
        refine g_aload_n C dX4_sum_10 0 rfl ?_
        refine g_get C (v := .ref (ma 1)) fl_X4_sum_X4 0 rfl rfl 1 (by decide) fw_X4_sum_fld7 rfl dX4_sum_11 ?_
        refine g_iload_n C dX4_sum_14 3 rfl ?_
        refine g_iconst C (v := 2) dX4_sum_15 ci_2 ?_
        refine g_callSi C (c_X4_of l D cI cO q 2 (6 * q + 3) rfl) gX4_sum_X4_of rfl ⟨rfl, rfl⟩ hd_X4_of ⟨Nat.le_of_ble_eq_true rfl, Nat.le_of_ble_eq_true rfl⟩ [0, 1] rfl (fun _ _ => trivial) rfl (rest := [.ref (ma 1)]) rfl (Nat.le_of_ble_eq_true rfl) dX4_sum_16 ⟨Nat.zero_le _, Nat.zero_le _⟩ (pre := []) (post := (wM ma cI th u a9 sv z t n dg)) (ws' := (wM ma cI th u a9 sv z t n dg)) rfl rfl ?_
        refine g_iald C (x := u (6 * q + 3)) 1 0 rfl rfl (6 * q + 3) rfl (by omega) (by decide) rfl dX4_sum_19 ?_
        refine g_istore C (lv' := [(4, .int (u (6 * q + 3))), (0, .ref (ma 0)), (1, .int 2), (2, .int (ySm u 2 q)), (3, .int (nI q))]) dX4_sum_20 (by decide) rfl ?_
        refine g_iload_n C dX4_sum_22 3 rfl ?_
        refine g_iload_n C dX4_sum_23 2 rfl ?_
        refine g_iconst C (v := 2) dX4_sum_24 ci_2 ?_
        refine g_icmp_ne C (tgt := 33) dX4_sum_25 (by decide) (fun h25_9 => absurd (by decide) h25_9) (fun _ => ?_)
        refine g_iload C dX4_sum_28 0 rfl ?_
        refine g_goto C (tgt := 98) dX4_sum_30 (by decide) ?_
        refine g_iadd C (v := (ySm u 2 q) + (u (6 * q + 3))) dX4_sum_98 rfl ?_
        refine g_istore_n C (lv' := [(2, .int ((ySm u 2 q) + (u (6 * q + 3)))), (4, .int (u (6 * q + 3))), (0, .ref (ma 0)), (1, .int 2), (3, .int (nI q))]) dX4_sum_99 rfl (by decide) rfl ?_
        refine g_iinc C (v := nI (q + 1)) (lv' := [(3, .int (nI (q + 1))), (2, .int ((ySm u 2 q) + (u (6 * q + 3)))), (4, .int (u (6 * q + 3))), (0, .ref (ma 0)), (1, .int 2)]) dX4_sum_100 4 rfl (inc_nI _) (by decide) rfl ?_
        refine g_goto C (tgt := 4) dX4_sum_103 (by decide) ?_
        refine g_lv [3, 4, 1, 0] (lv' := [(0, .ref (ma 0)), (1, .int 2), (2, .int ((ySm u 2 q) + (u (6 * q + 3)))), (3, .int (nI (q + 1)))]) rfl ?_
        have i9 := ih (q + 1) (by omega)
        rw [show ySm u 2 (q + 1) = (ySm u 2 q) + (u (6 * q + 3)) by simp only [ySm, yIt, Bool.false_eq_true, not_false_eq_true, not_true_eq_false, and_self, and_true, true_and, and_false, false_and, or_true, true_or, or_false, false_or, or_self, if_true, if_false, eq_self, ite_true, ite_false, reduceIte]] at i9
        exact i9
    refine g_iconst C (v := 0) dX4_sum_0 ci_0 ?_
    refine g_istore_n C (lv' := [(2, .int 0), (0, .ref (ma 0)), (1, .int 2)]) dX4_sum_1 rfl (by decide) rfl ?_
    refine g_iconst C (v := 0) dX4_sum_2 ci_0 ?_
    refine g_istore_n C (lv' := [(3, .int 0), (2, .int 0), (0, .ref (ma 0)), (1, .int 2)]) dX4_sum_3 rfl (by decide) rfl ?_
    refine g_lv [2, 3, 1, 0] (lv' := [(0, .ref (ma 0)), (1, .int 2), (2, .int 0), (3, .int 0)]) rfl ?_
    exact K 9 0 rfl
  · refine g_lv [0, 1] (lv' := [(0, .ref (ma 0)), (1, .int 3)]) rfl ?_
    have K : ∀ (k q : Nat), k + q = 9 → gG p l e rmX4_sum s m ([.ref (ma 0), .int (nI 3)] : List Value).toArray below meth c D vwCl A s.heap 5 (MQ below (cQ (some (.int (ySm u 3 9))) (cB D vwCl (tyA cI cO) A (wM ma cI th u a9 sv z t n dg)) A) ([.ref (ma 0), .int (nI 3)] : List Value).toArray s 0 0 A) 0 0 (wM ma cI th u a9 sv z t n dg) 4 [(0, .ref (ma 0)), (1, .int 3), (2, .int (ySm u 3 q)), (3, .int (nI q))] [] := by
      intro k
      induction k with
      | zero =>
        intro q hn9 
        obtain rfl : q = 9 := by omega
        refine g_iload_n C dX4_sum_4 3 rfl ?_
        refine g_bipush C (v := 9) dX4_sum_5 cb_9 ?_
        refine g_icmp_ge C (tgt := 106) dX4_sum_7 (by decide) (fun _ => ?_) (fun h7_10 => absurd (by decide) h7_10)
        refine g_iload_n C dX4_sum_106 2 rfl ?_
        exact g_iret C hret hlk dX4_sum_107 rfl rfl
      | succ k ih =>
        intro q hn9 
        have hq9 : q < 9 := by omega
        refine g_iload_n C dX4_sum_4 3 rfl ?_
        refine g_bipush C (v := 9) dX4_sum_5 cb_9 ?_
        refine g_icmp_ge C (tgt := 106) dX4_sum_7 (by decide) (fun h7_11 => absurd h7_11 (ge9 hq9)) (fun _ => ?_)
        refine g_aload_n C dX4_sum_10 0 rfl ?_
        refine g_get C (v := .ref (ma 1)) fl_X4_sum_X4 0 rfl rfl 1 (by decide) fw_X4_sum_fld7 rfl dX4_sum_11 ?_
        refine g_iload_n C dX4_sum_14 3 rfl ?_
        refine g_iconst C (v := 2) dX4_sum_15 ci_2 ?_
        refine g_callSi C (c_X4_of l D cI cO q 2 (6 * q + 3) rfl) gX4_sum_X4_of rfl ⟨rfl, rfl⟩ hd_X4_of ⟨Nat.le_of_ble_eq_true rfl, Nat.le_of_ble_eq_true rfl⟩ [0, 1] rfl (fun _ _ => trivial) rfl (rest := [.ref (ma 1)]) rfl (Nat.le_of_ble_eq_true rfl) dX4_sum_16 ⟨Nat.zero_le _, Nat.zero_le _⟩ (pre := []) (post := (wM ma cI th u a9 sv z t n dg)) (ws' := (wM ma cI th u a9 sv z t n dg)) rfl rfl ?_
        refine g_iald C (x := u (6 * q + 3)) 1 0 rfl rfl (6 * q + 3) rfl (by omega) (by decide) rfl dX4_sum_19 ?_
        refine g_istore C (lv' := [(4, .int (u (6 * q + 3))), (0, .ref (ma 0)), (1, .int 3), (2, .int (ySm u 3 q)), (3, .int (nI q))]) dX4_sum_20 (by decide) rfl ?_
        refine g_iload_n C dX4_sum_22 3 rfl ?_
        refine g_iload_n C dX4_sum_23 2 rfl ?_
        refine g_iconst C (v := 2) dX4_sum_24 ci_2 ?_
        refine g_icmp_ne C (tgt := 33) dX4_sum_25 (by decide) (fun _ => ?_) (fun h25_12 => absurd h25_12 (by decide))
        refine g_iload_n C dX4_sum_33 2 rfl ?_
        refine g_iconst C (v := 3) dX4_sum_34 ci_3 ?_
        refine g_icmp_ne C (tgt := 49) dX4_sum_35 (by decide) (fun h35_13 => absurd (by decide) h35_13) (fun _ => ?_)
        refine g_aload_n C dX4_sum_38 1 rfl ?_
        refine g_iload_n C dX4_sum_39 4 rfl ?_
        refine g_callVi C (c_X4_shows l D cI cO ma th u a9 sv z t n dg hn hz q ((by omega))) gX4_sum_X4_shows rfl ⟨rfl, rfl⟩ hd_X4_shows ⟨Nat.le_of_ble_eq_true rfl, Nat.le_of_ble_eq_true rfl⟩ [0, 1] rfl (fun _ _ => trivial) rfl (rest := [.int (ySm u 3 q)]) rfl (Nat.le_of_ble_eq_true rfl) dX4_sum_40 ⟨Nat.zero_le _, Nat.zero_le _⟩ 0 rfl rfl rfl (pre := []) (post := []) (ws' := (wM ma cI th u a9 sv z t n dg)) rfl rfl ?_
        refine g_iload C dX4_sum_43 0 rfl ?_
        refine g_iadd C (v := (xSh u q) + (u (6 * q + 3))) dX4_sum_45 rfl ?_
        refine g_goto C (tgt := 98) dX4_sum_46 (by decide) ?_
        refine g_iadd C (v := (ySm u 3 q) + ((xSh u q) + (u (6 * q + 3)))) dX4_sum_98 rfl ?_
        refine g_istore_n C (lv' := [(2, .int ((ySm u 3 q) + ((xSh u q) + (u (6 * q + 3))))), (4, .int (u (6 * q + 3))), (0, .ref (ma 0)), (1, .int 3), (3, .int (nI q))]) dX4_sum_99 rfl (by decide) rfl ?_
        refine g_iinc C (v := nI (q + 1)) (lv' := [(3, .int (nI (q + 1))), (2, .int ((ySm u 3 q) + ((xSh u q) + (u (6 * q + 3))))), (4, .int (u (6 * q + 3))), (0, .ref (ma 0)), (1, .int 3)]) dX4_sum_100 4 rfl (inc_nI _) (by decide) rfl ?_
        refine g_goto C (tgt := 4) dX4_sum_103 (by decide) ?_
        refine g_lv [3, 4, 1, 0] (lv' := [(0, .ref (ma 0)), (1, .int 3), (2, .int ((ySm u 3 q) + ((xSh u q) + (u (6 * q + 3))))), (3, .int (nI (q + 1)))]) rfl ?_
        have i9 := ih (q + 1) (by omega)
        rw [show ySm u 3 (q + 1) = (ySm u 3 q) + ((xSh u q) + (u (6 * q + 3))) by simp only [ySm, yIt, Bool.false_eq_true, not_false_eq_true, not_true_eq_false, and_self, and_true, true_and, and_false, false_and, or_true, true_or, or_false, false_or, or_self, if_true, if_false, eq_self, ite_true, ite_false, reduceIte]] at i9
        exact i9
    refine g_iconst C (v := 0) dX4_sum_0 ci_0 ?_
    refine g_istore_n C (lv' := [(2, .int 0), (0, .ref (ma 0)), (1, .int 3)]) dX4_sum_1 rfl (by decide) rfl ?_
    refine g_iconst C (v := 0) dX4_sum_2 ci_0 ?_
    refine g_istore_n C (lv' := [(3, .int 0), (2, .int 0), (0, .ref (ma 0)), (1, .int 3)]) dX4_sum_3 rfl (by decide) rfl ?_
    refine g_lv [2, 3, 1, 0] (lv' := [(0, .ref (ma 0)), (1, .int 3), (2, .int 0), (3, .int 0)]) rfl ?_
    exact K 9 0 rfl
  · refine g_lv [0, 1] (lv' := [(0, .ref (ma 0)), (1, .int 4)]) rfl ?_
    have K : ∀ (k q : Nat), k + q = 9 → gG p l e rmX4_sum s m ([.ref (ma 0), .int (nI 4)] : List Value).toArray below meth c D vwCl A s.heap 5 (MQ below (cQ (some (.int (ySm u 4 9))) (cB D vwCl (tyA cI cO) A (wM ma cI th u a9 sv z t n dg)) A) ([.ref (ma 0), .int (nI 4)] : List Value).toArray s 0 0 A) 0 0 (wM ma cI th u a9 sv z t n dg) 4 [(0, .ref (ma 0)), (1, .int 4), (2, .int (ySm u 4 q)), (3, .int (nI q))] [] := by
      intro k
      induction k with
      | zero =>
        intro q hn9 
        obtain rfl : q = 9 := by omega
        refine g_iload_n C dX4_sum_4 3 rfl ?_
        refine g_bipush C (v := 9) dX4_sum_5 cb_9 ?_
        refine g_icmp_ge C (tgt := 106) dX4_sum_7 (by decide) (fun _ => ?_) (fun h7_14 => absurd (by decide) h7_14)
        refine g_iload_n C dX4_sum_106 2 rfl ?_
        exact g_iret C hret hlk dX4_sum_107 rfl rfl
      | succ k ih =>
        intro q hn9 
        have hq9 : q < 9 := by omega
        refine g_iload_n C dX4_sum_4 3 rfl ?_
        refine g_bipush C (v := 9) dX4_sum_5 cb_9 ?_
        refine g_icmp_ge C (tgt := 106) dX4_sum_7 (by decide) (fun h7_15 => absurd h7_15 (ge9 hq9)) (fun _ => ?_)
        refine g_aload_n C dX4_sum_10 0 rfl ?_
        refine g_get C (v := .ref (ma 1)) fl_X4_sum_X4 0 rfl rfl 1 (by decide) fw_X4_sum_fld7 rfl dX4_sum_11 ?_
        refine g_iload_n C dX4_sum_14 3 rfl ?_
        refine g_iconst C (v := 2) dX4_sum_15 ci_2 ?_
        refine g_callSi C (c_X4_of l D cI cO q 2 (6 * q + 3) rfl) gX4_sum_X4_of rfl ⟨rfl, rfl⟩ hd_X4_of ⟨Nat.le_of_ble_eq_true rfl, Nat.le_of_ble_eq_true rfl⟩ [0, 1] rfl (fun _ _ => trivial) rfl (rest := [.ref (ma 1)]) rfl (Nat.le_of_ble_eq_true rfl) dX4_sum_16 ⟨Nat.zero_le _, Nat.zero_le _⟩ (pre := []) (post := (wM ma cI th u a9 sv z t n dg)) (ws' := (wM ma cI th u a9 sv z t n dg)) rfl rfl ?_
        refine g_iald C (x := u (6 * q + 3)) 1 0 rfl rfl (6 * q + 3) rfl (by omega) (by decide) rfl dX4_sum_19 ?_
        refine g_istore C (lv' := [(4, .int (u (6 * q + 3))), (0, .ref (ma 0)), (1, .int 4), (2, .int (ySm u 4 q)), (3, .int (nI q))]) dX4_sum_20 (by decide) rfl ?_
        refine g_iload_n C dX4_sum_22 3 rfl ?_
        refine g_iload_n C dX4_sum_23 2 rfl ?_
        refine g_iconst C (v := 2) dX4_sum_24 ci_2 ?_
        refine g_icmp_ne C (tgt := 33) dX4_sum_25 (by decide) (fun _ => ?_) (fun h25_16 => absurd h25_16 (by decide))
        refine g_iload_n C dX4_sum_33 2 rfl ?_
        refine g_iconst C (v := 3) dX4_sum_34 ci_3 ?_
        refine g_icmp_ne C (tgt := 49) dX4_sum_35 (by decide) (fun _ => ?_) (fun h35_17 => absurd h35_17 (by decide))
        refine g_iload_n C dX4_sum_49 2 rfl ?_
        refine g_iconst C (v := 1) dX4_sum_50 ci_1 ?_
        refine g_icmp_ne C (tgt := 62) dX4_sum_51 (by decide) (fun _ => ?_) (fun h51_18 => absurd h51_18 (by decide))
        refine g_iload_n C dX4_sum_62 2 rfl ?_
        refine g_iconst C (v := 4) dX4_sum_63 ci_4 ?_
        refine g_icmp_ne C (tgt := 80) dX4_sum_64 (by decide) (fun h64_19 => absurd (by decide) h64_19) (fun _ => ?_)
        refine g_aload_n C dX4_sum_67 1 rfl ?_
        refine g_iload_n C dX4_sum_68 4 rfl ?_
        refine g_callVi C (c_X4_shows l D cI cO ma th u a9 sv z t n dg hn hz q ((by omega))) gX4_sum_X4_shows rfl ⟨rfl, rfl⟩ hd_X4_shows ⟨Nat.le_of_ble_eq_true rfl, Nat.le_of_ble_eq_true rfl⟩ [0, 1] rfl (fun _ _ => trivial) rfl (rest := [.int (ySm u 4 q)]) rfl (Nat.le_of_ble_eq_true rfl) dX4_sum_69 ⟨Nat.zero_le _, Nat.zero_le _⟩ 0 rfl rfl rfl (pre := []) (post := []) (ws' := (wM ma cI th u a9 sv z t n dg)) rfl rfl ?_
        refine g_bipush C (v := 10) dX4_sum_72 cb_10 ?_
        refine g_icmp_lt C (tgt := 97) dX4_sum_74 (by decide) (fun h74_20 => ?_) (fun h74_20 => ?_)
        · refine g_iconst C (v := 0) dX4_sum_97 ci_0 ?_
          refine g_iadd C (v := (ySm u 4 q) + 0) dX4_sum_98 rfl ?_
          refine g_istore_n C (lv' := [(2, .int ((ySm u 4 q) + 0)), (4, .int (u (6 * q + 3))), (0, .ref (ma 0)), (1, .int 4), (3, .int (nI q))]) dX4_sum_99 rfl (by decide) rfl ?_
          refine g_iinc C (v := nI (q + 1)) (lv' := [(3, .int (nI (q + 1))), (2, .int ((ySm u 4 q) + 0)), (4, .int (u (6 * q + 3))), (0, .ref (ma 0)), (1, .int 4)]) dX4_sum_100 4 rfl (inc_nI _) (by decide) rfl ?_
          refine g_goto C (tgt := 4) dX4_sum_103 (by decide) ?_
          refine g_lv [3, 4, 1, 0] (lv' := [(0, .ref (ma 0)), (1, .int 4), (2, .int ((ySm u 4 q) + 0)), (3, .int (nI (q + 1)))]) rfl ?_
          have i9 := ih (q + 1) (by omega)
          rw [show ySm u 4 (q + 1) = (ySm u 4 q) + 0 by simp only [ySm, yIt, eq_true h74_20, Bool.false_eq_true, not_false_eq_true, not_true_eq_false, and_self, and_true, true_and, and_false, false_and, or_true, true_or, or_false, false_or, or_self, if_true, if_false, eq_self, ite_true, ite_false, reduceIte]] at i9
          exact i9
        · refine g_goto C (tgt := 93) dX4_sum_77 (by decide) ?_
          refine g_iconst C (v := 1) dX4_sum_93 ci_1 ?_
          refine g_goto C (tgt := 98) dX4_sum_94 (by decide) ?_
          refine g_iadd C (v := (ySm u 4 q) + 1) dX4_sum_98 rfl ?_
          refine g_istore_n C (lv' := [(2, .int ((ySm u 4 q) + 1)), (4, .int (u (6 * q + 3))), (0, .ref (ma 0)), (1, .int 4), (3, .int (nI q))]) dX4_sum_99 rfl (by decide) rfl ?_
          refine g_iinc C (v := nI (q + 1)) (lv' := [(3, .int (nI (q + 1))), (2, .int ((ySm u 4 q) + 1)), (4, .int (u (6 * q + 3))), (0, .ref (ma 0)), (1, .int 4)]) dX4_sum_100 4 rfl (inc_nI _) (by decide) rfl ?_
          refine g_goto C (tgt := 4) dX4_sum_103 (by decide) ?_
          refine g_lv [3, 4, 1, 0] (lv' := [(0, .ref (ma 0)), (1, .int 4), (2, .int ((ySm u 4 q) + 1)), (3, .int (nI (q + 1)))]) rfl ?_
          have i9 := ih (q + 1) (by omega)
          rw [show ySm u 4 (q + 1) = (ySm u 4 q) + 1 by simp only [ySm, yIt, h74_20, Bool.false_eq_true, not_false_eq_true, not_true_eq_false, and_self, and_true, true_and, and_false, false_and, or_true, true_or, or_false, false_or, or_self, if_true, if_false, eq_self, ite_true, ite_false, reduceIte]] at i9
          exact i9
    refine g_iconst C (v := 0) dX4_sum_0 ci_0 ?_
    refine g_istore_n C (lv' := [(2, .int 0), (0, .ref (ma 0)), (1, .int 4)]) dX4_sum_1 rfl (by decide) rfl ?_
    refine g_iconst C (v := 0) dX4_sum_2 ci_0 ?_
    refine g_istore_n C (lv' := [(3, .int 0), (2, .int 0), (0, .ref (ma 0)), (1, .int 4)]) dX4_sum_3 rfl (by decide) rfl ?_
    refine g_lv [2, 3, 1, 0] (lv' := [(0, .ref (ma 0)), (1, .int 4), (2, .int 0), (3, .int 0)]) rfl ?_
    exact K 9 0 rfl
  · refine g_lv [0, 1] (lv' := [(0, .ref (ma 0)), (1, .int 5)]) rfl ?_
    have K : ∀ (k q : Nat), k + q = 9 → gG p l e rmX4_sum s m ([.ref (ma 0), .int (nI 5)] : List Value).toArray below meth c D vwCl A s.heap 5 (MQ below (cQ (some (.int (ySm u 5 9))) (cB D vwCl (tyA cI cO) A (wM ma cI th u a9 sv z t n dg)) A) ([.ref (ma 0), .int (nI 5)] : List Value).toArray s 0 0 A) 0 0 (wM ma cI th u a9 sv z t n dg) 4 [(0, .ref (ma 0)), (1, .int 5), (2, .int (ySm u 5 q)), (3, .int (nI q))] [] := by
      intro k
      induction k with
      | zero =>
        intro q hn9 
        obtain rfl : q = 9 := by omega
        refine g_iload_n C dX4_sum_4 3 rfl ?_
        refine g_bipush C (v := 9) dX4_sum_5 cb_9 ?_
        refine g_icmp_ge C (tgt := 106) dX4_sum_7 (by decide) (fun _ => ?_) (fun h7_21 => absurd (by decide) h7_21)
        refine g_iload_n C dX4_sum_106 2 rfl ?_
        exact g_iret C hret hlk dX4_sum_107 rfl rfl
      | succ k ih =>
        intro q hn9 
        have hq9 : q < 9 := by omega
        refine g_iload_n C dX4_sum_4 3 rfl ?_
        refine g_bipush C (v := 9) dX4_sum_5 cb_9 ?_
        refine g_icmp_ge C (tgt := 106) dX4_sum_7 (by decide) (fun h7_22 => absurd h7_22 (ge9 hq9)) (fun _ => ?_)
        refine g_aload_n C dX4_sum_10 0 rfl ?_
        refine g_get C (v := .ref (ma 1)) fl_X4_sum_X4 0 rfl rfl 1 (by decide) fw_X4_sum_fld7 rfl dX4_sum_11 ?_
        refine g_iload_n C dX4_sum_14 3 rfl ?_
        refine g_iconst C (v := 2) dX4_sum_15 ci_2 ?_
        refine g_callSi C (c_X4_of l D cI cO q 2 (6 * q + 3) rfl) gX4_sum_X4_of rfl ⟨rfl, rfl⟩ hd_X4_of ⟨Nat.le_of_ble_eq_true rfl, Nat.le_of_ble_eq_true rfl⟩ [0, 1] rfl (fun _ _ => trivial) rfl (rest := [.ref (ma 1)]) rfl (Nat.le_of_ble_eq_true rfl) dX4_sum_16 ⟨Nat.zero_le _, Nat.zero_le _⟩ (pre := []) (post := (wM ma cI th u a9 sv z t n dg)) (ws' := (wM ma cI th u a9 sv z t n dg)) rfl rfl ?_
        refine g_iald C (x := u (6 * q + 3)) 1 0 rfl rfl (6 * q + 3) rfl (by omega) (by decide) rfl dX4_sum_19 ?_
        refine g_istore C (lv' := [(4, .int (u (6 * q + 3))), (0, .ref (ma 0)), (1, .int 5), (2, .int (ySm u 5 q)), (3, .int (nI q))]) dX4_sum_20 (by decide) rfl ?_
        refine g_iload_n C dX4_sum_22 3 rfl ?_
        refine g_iload_n C dX4_sum_23 2 rfl ?_
        refine g_iconst C (v := 2) dX4_sum_24 ci_2 ?_
        refine g_icmp_ne C (tgt := 33) dX4_sum_25 (by decide) (fun _ => ?_) (fun h25_23 => absurd h25_23 (by decide))
        refine g_iload_n C dX4_sum_33 2 rfl ?_
        refine g_iconst C (v := 3) dX4_sum_34 ci_3 ?_
        refine g_icmp_ne C (tgt := 49) dX4_sum_35 (by decide) (fun _ => ?_) (fun h35_24 => absurd h35_24 (by decide))
        refine g_iload_n C dX4_sum_49 2 rfl ?_
        refine g_iconst C (v := 1) dX4_sum_50 ci_1 ?_
        refine g_icmp_ne C (tgt := 62) dX4_sum_51 (by decide) (fun _ => ?_) (fun h51_25 => absurd h51_25 (by decide))
        refine g_iload_n C dX4_sum_62 2 rfl ?_
        refine g_iconst C (v := 4) dX4_sum_63 ci_4 ?_
        refine g_icmp_ne C (tgt := 80) dX4_sum_64 (by decide) (fun _ => ?_) (fun h64_26 => absurd h64_26 (by decide))
        refine g_aload_n C dX4_sum_80 1 rfl ?_
        refine g_get C (v := .ref (ma 1)) fl_X4_sum_X4 0 rfl rfl 1 (by decide) fw_X4_sum_fld7 rfl dX4_sum_81 ?_
        refine g_iload_n C dX4_sum_84 4 rfl ?_
        refine g_iconst C (v := 3) dX4_sum_85 ci_3 ?_
        refine g_callSi C (c_X4_of l D cI cO q 3 (6 * q + 4) rfl) gX4_sum_X4_of rfl ⟨rfl, rfl⟩ hd_X4_of ⟨Nat.le_of_ble_eq_true rfl, Nat.le_of_ble_eq_true rfl⟩ [0, 1] rfl (fun _ _ => trivial) rfl (rest := [.ref (ma 1), .int (ySm u 5 q)]) rfl (Nat.le_of_ble_eq_true rfl) dX4_sum_86 ⟨Nat.zero_le _, Nat.zero_le _⟩ (pre := []) (post := (wM ma cI th u a9 sv z t n dg)) (ws' := (wM ma cI th u a9 sv z t n dg)) rfl rfl ?_
        refine g_iald C (x := u (6 * q + 4)) 1 0 rfl rfl (6 * q + 4) rfl (by omega) (by decide) rfl dX4_sum_89 ?_
        refine g_if_le C (tgt := 97) dX4_sum_90 (by decide) (fun h90_27 => ?_) (fun h90_27 => ?_)
        · refine g_iconst C (v := 0) dX4_sum_97 ci_0 ?_
          refine g_iadd C (v := (ySm u 5 q) + 0) dX4_sum_98 rfl ?_
          refine g_istore_n C (lv' := [(2, .int ((ySm u 5 q) + 0)), (4, .int (u (6 * q + 3))), (0, .ref (ma 0)), (1, .int 5), (3, .int (nI q))]) dX4_sum_99 rfl (by decide) rfl ?_
          refine g_iinc C (v := nI (q + 1)) (lv' := [(3, .int (nI (q + 1))), (2, .int ((ySm u 5 q) + 0)), (4, .int (u (6 * q + 3))), (0, .ref (ma 0)), (1, .int 5)]) dX4_sum_100 4 rfl (inc_nI _) (by decide) rfl ?_
          refine g_goto C (tgt := 4) dX4_sum_103 (by decide) ?_
          refine g_lv [3, 4, 1, 0] (lv' := [(0, .ref (ma 0)), (1, .int 5), (2, .int ((ySm u 5 q) + 0)), (3, .int (nI (q + 1)))]) rfl ?_
          have i9 := ih (q + 1) (by omega)
          rw [show ySm u 5 (q + 1) = (ySm u 5 q) + 0 by simp only [ySm, yIt, eq_true h90_27, Bool.false_eq_true, not_false_eq_true, not_true_eq_false, and_self, and_true, true_and, and_false, false_and, or_true, true_or, or_false, false_or, or_self, if_true, if_false, eq_self, ite_true, ite_false, reduceIte]] at i9
          exact i9
        · refine g_iconst C (v := 1) dX4_sum_93 ci_1 ?_
          refine g_goto C (tgt := 98) dX4_sum_94 (by decide) ?_
          refine g_iadd C (v := (ySm u 5 q) + 1) dX4_sum_98 rfl ?_
          refine g_istore_n C (lv' := [(2, .int ((ySm u 5 q) + 1)), (4, .int (u (6 * q + 3))), (0, .ref (ma 0)), (1, .int 5), (3, .int (nI q))]) dX4_sum_99 rfl (by decide) rfl ?_
          refine g_iinc C (v := nI (q + 1)) (lv' := [(3, .int (nI (q + 1))), (2, .int ((ySm u 5 q) + 1)), (4, .int (u (6 * q + 3))), (0, .ref (ma 0)), (1, .int 5)]) dX4_sum_100 4 rfl (inc_nI _) (by decide) rfl ?_
          refine g_goto C (tgt := 4) dX4_sum_103 (by decide) ?_
          refine g_lv [3, 4, 1, 0] (lv' := [(0, .ref (ma 0)), (1, .int 5), (2, .int ((ySm u 5 q) + 1)), (3, .int (nI (q + 1)))]) rfl ?_
          have i9 := ih (q + 1) (by omega)
          rw [show ySm u 5 (q + 1) = (ySm u 5 q) + 1 by simp only [ySm, yIt, h90_27, Bool.false_eq_true, not_false_eq_true, not_true_eq_false, and_self, and_true, true_and, and_false, false_and, or_true, true_or, or_false, false_or, or_self, if_true, if_false, eq_self, ite_true, ite_false, reduceIte]] at i9
          exact i9
    refine g_iconst C (v := 0) dX4_sum_0 ci_0 ?_
    refine g_istore_n C (lv' := [(2, .int 0), (0, .ref (ma 0)), (1, .int 5)]) dX4_sum_1 rfl (by decide) rfl ?_
    refine g_iconst C (v := 0) dX4_sum_2 ci_0 ?_
    refine g_istore_n C (lv' := [(3, .int 0), (2, .int 0), (0, .ref (ma 0)), (1, .int 5)]) dX4_sum_3 rfl (by decide) rfl ?_
    refine g_lv [2, 3, 1, 0] (lv' := [(0, .ref (ma 0)), (1, .int 5), (2, .int 0), (3, .int 0)]) rfl ?_
    exact K 9 0 rfl
theorem hd_X4_sum : yX4_sum.cls = RX4 ∧ yX4_sum.cls ≠ "java/lang/invoke/MethodHandle" ∧ yX4_sum.cls ≠ "java/lang/invoke/VarHandle" ∧ (parseMethodDescriptor yX4_sum.desc).map (fun d => d.parameters.length) = some 1 := by decide +kernel
theorem fw_X4_counted_fld7 : Cond.fieldLink RX4 7 "StuckRodsModel" "s" "[I" ∈ wsX4_counted := (List.mem_cons_of_mem _ (List.mem_append_left _ (List.mem_of_getElem? (i := 0) rfl)))
theorem fl_X4_counted_X4 : ∀ w ∈ wsX40, w ∈ wsX4_counted := fun _ h => List.mem_cons_of_mem _ (List.mem_append_right _ h)
theorem fw_X4_counted_fld30 : Cond.fieldLink RX4 30 "StuckRodsModel" "savedMany" "I" ∈ wsX4_counted := (List.mem_cons_of_mem _ (List.mem_append_left _ (List.mem_of_getElem? (i := 1) rfl)))
abbrev rmX4_counted : Room := { frames := 3, cells := 0, slots := 0, locals := 66 }
set_option maxHeartbeats 1000000 in
set_option maxRecDepth 100000 in
theorem c_X4_counted (l : Launch) (D : va_G) (cI cO : ClassId) (ma : Nat → Nat) (th : Int32) (u a9 sv : Nat → Int32) (z : Nat) (t : Nat → Int32) (n : Nat) (dg : Int64) (hn : n ≤ 60) (hz : z ≤ 6) (w : Nat) (hw : w ≤ 7) : cR (fun _ => True) l yX4_counted wsX4_counted rmX4_counted D vwCl (tyA cI cO) [.ref (ma 0), .int (nI w)] (wM ma cI th u a9 sv z t n dg) (some (.int (yCn u z w))) (wM ma cI th u a9 sv z t n dg) := by
  refine cR_of (cc := cX4_counted) (maxL := 2) (ret := (some .int)) (by decide) rfl (Nat.le_of_ble_eq_true rfl) ?_
  intro p e s m below meth c A C hret hlk hnm hF
  refine g_lv [0, 1] (lv' := [(0, .ref (ma 0)), (1, .int (nI w))]) rfl ?_
  rcases (show w = 0 ∨ w = 1 ∨ w = 2 ∨ w = 3 ∨ w = 4 ∨ w = 5 ∨ w = 6 ∨ w = 7 by omega) with e | e | e | e | e | e | e | e <;> subst e
  · refine g_iload_n C dX4_counted_0 1 rfl ?_
    refine g_tableIn C (tgt := 44) dX4_counted_1 (by decide) (by decide) rfl (by decide) ?_
    refine g_aload_n C dX4_counted_44 0 rfl ?_
    refine g_callVi C (c_X4_allMoves l D cI cO ma th u a9 sv z t n dg hn hz) gX4_counted_X4_allMoves rfl ⟨rfl, rfl⟩ hd_X4_allMoves ⟨Nat.le_of_ble_eq_true rfl, Nat.le_of_ble_eq_true rfl⟩ [0, 1] rfl (fun _ _ => trivial) rfl (rest := []) rfl (Nat.le_of_ble_eq_true rfl) dX4_counted_45 ⟨Nat.zero_le _, Nat.zero_le _⟩ 0 rfl rfl rfl (pre := []) (post := []) (ws' := (wM ma cI th u a9 sv z t n dg)) rfl rfl ?_
    exact g_iret C hret hlk dX4_counted_48 rfl rfl
  · refine g_iload_n C dX4_counted_0 1 rfl ?_
    refine g_tableIn C (tgt := 49) dX4_counted_1 (by decide) (by decide) rfl (by decide) ?_
    refine g_aload_n C dX4_counted_49 0 rfl ?_
    refine g_iload_n C dX4_counted_50 1 rfl ?_
    refine g_callVi C (c_X4_sum l D cI cO ma th u a9 sv z t n dg hn hz 1 ((by decide)) ((by decide))) gX4_counted_X4_sum rfl ⟨rfl, rfl⟩ hd_X4_sum ⟨Nat.le_of_ble_eq_true rfl, Nat.le_of_ble_eq_true rfl⟩ [0, 1] rfl (fun _ _ => trivial) rfl (rest := []) rfl (Nat.le_of_ble_eq_true rfl) dX4_counted_51 ⟨Nat.zero_le _, Nat.zero_le _⟩ 0 rfl rfl rfl (pre := []) (post := []) (ws' := (wM ma cI th u a9 sv z t n dg)) rfl rfl ?_
    exact g_iret C hret hlk dX4_counted_54 rfl rfl
  · refine g_iload_n C dX4_counted_0 1 rfl ?_
    refine g_tableIn C (tgt := 55) dX4_counted_1 (by decide) (by decide) rfl (by decide) ?_
    refine g_aload_n C dX4_counted_55 0 rfl ?_
    refine g_iconst C (v := 2) dX4_counted_56 ci_2 ?_
    refine g_callVi C (c_X4_sum l D cI cO ma th u a9 sv z t n dg hn hz 2 ((by decide)) ((by decide))) gX4_counted_X4_sum rfl ⟨rfl, rfl⟩ hd_X4_sum ⟨Nat.le_of_ble_eq_true rfl, Nat.le_of_ble_eq_true rfl⟩ [0, 1] rfl (fun _ _ => trivial) rfl (rest := []) rfl (Nat.le_of_ble_eq_true rfl) dX4_counted_57 ⟨Nat.zero_le _, Nat.zero_le _⟩ 0 rfl rfl rfl (pre := []) (post := []) (ws' := (wM ma cI th u a9 sv z t n dg)) rfl rfl ?_
    refine g_bipush C (v := 100) dX4_counted_60 cb_100 ?_
    refine g_iadd C (v := (ySm u 2 9) + 100) dX4_counted_62 rfl ?_
    exact g_iret C hret hlk dX4_counted_63 rfl rfl
  · refine g_iload_n C dX4_counted_0 1 rfl ?_
    refine g_tableIn C (tgt := 64) dX4_counted_1 (by decide) (by decide) rfl (by decide) ?_
    refine g_aload_n C dX4_counted_64 0 rfl ?_
    refine g_iconst C (v := 3) dX4_counted_65 ci_3 ?_
    refine g_callVi C (c_X4_sum l D cI cO ma th u a9 sv z t n dg hn hz 3 ((by decide)) ((by decide))) gX4_counted_X4_sum rfl ⟨rfl, rfl⟩ hd_X4_sum ⟨Nat.le_of_ble_eq_true rfl, Nat.le_of_ble_eq_true rfl⟩ [0, 1] rfl (fun _ _ => trivial) rfl (rest := []) rfl (Nat.le_of_ble_eq_true rfl) dX4_counted_66 ⟨Nat.zero_le _, Nat.zero_le _⟩ 0 rfl rfl rfl (pre := []) (post := []) (ws' := (wM ma cI th u a9 sv z t n dg)) rfl rfl ?_
    refine g_bipush C (v := 90) dX4_counted_69 cb_90 ?_
    refine g_iadd C (v := (ySm u 3 9) + 90) dX4_counted_71 rfl ?_
    refine g_bipush C (v := 9) dX4_counted_72 cb_9 ?_
    refine g_irem C (v := ((ySm u 3 9) + 90) - ((ySm u 3 9) + 90) / 9 * 9) dX4_counted_74 (by decide) rfl ?_
    exact g_iret C hret hlk dX4_counted_75 rfl rfl
  · refine g_iload_n C dX4_counted_0 1 rfl ?_
    refine g_tableIn C (tgt := 49) dX4_counted_1 (by decide) (by decide) rfl (by decide) ?_
    refine g_aload_n C dX4_counted_49 0 rfl ?_
    refine g_iload_n C dX4_counted_50 1 rfl ?_
    refine g_callVi C (c_X4_sum l D cI cO ma th u a9 sv z t n dg hn hz 4 ((by decide)) ((by decide))) gX4_counted_X4_sum rfl ⟨rfl, rfl⟩ hd_X4_sum ⟨Nat.le_of_ble_eq_true rfl, Nat.le_of_ble_eq_true rfl⟩ [0, 1] rfl (fun _ _ => trivial) rfl (rest := []) rfl (Nat.le_of_ble_eq_true rfl) dX4_counted_51 ⟨Nat.zero_le _, Nat.zero_le _⟩ 0 rfl rfl rfl (pre := []) (post := []) (ws' := (wM ma cI th u a9 sv z t n dg)) rfl rfl ?_
    exact g_iret C hret hlk dX4_counted_54 rfl rfl
  · refine g_iload_n C dX4_counted_0 1 rfl ?_
    refine g_tableIn C (tgt := 49) dX4_counted_1 (by decide) (by decide) rfl (by decide) ?_
    refine g_aload_n C dX4_counted_49 0 rfl ?_
    refine g_iload_n C dX4_counted_50 1 rfl ?_
    refine g_callVi C (c_X4_sum l D cI cO ma th u a9 sv z t n dg hn hz 5 ((by decide)) ((by decide))) gX4_counted_X4_sum rfl ⟨rfl, rfl⟩ hd_X4_sum ⟨Nat.le_of_ble_eq_true rfl, Nat.le_of_ble_eq_true rfl⟩ [0, 1] rfl (fun _ _ => trivial) rfl (rest := []) rfl (Nat.le_of_ble_eq_true rfl) dX4_counted_51 ⟨Nat.zero_le _, Nat.zero_le _⟩ 0 rfl rfl rfl (pre := []) (post := []) (ws' := (wM ma cI th u a9 sv z t n dg)) rfl rfl ?_
    exact g_iret C hret hlk dX4_counted_54 rfl rfl
  · refine g_iload_n C dX4_counted_0 1 rfl ?_
    refine g_tableIn C (tgt := 76) dX4_counted_1 (by decide) (by decide) rfl (by decide) ?_
    refine g_aload_n C dX4_counted_76 0 rfl ?_
    refine g_get C (v := .ref (ma 1)) fl_X4_counted_X4 0 rfl rfl 1 (by decide) fw_X4_counted_fld7 rfl dX4_counted_77 ?_
    refine g_iconst C (v := 0) dX4_counted_80 ci_0 ?_
    refine g_iald C (x := u 0) 1 0 rfl rfl 0 rfl (by decide) (by decide) rfl dX4_counted_81 ?_
    exact g_iret C hret hlk dX4_counted_82 rfl rfl
  · refine g_iload_n C dX4_counted_0 1 rfl ?_
    refine g_tableOut C (tgt := 83) dX4_counted_1 (by decide) (by decide) ?_
    refine g_aload_n C dX4_counted_83 0 rfl ?_
    refine g_get C (v := .int (nI z)) fl_X4_counted_X4 0 rfl rfl 4 (by decide) fw_X4_counted_fld30 rfl dX4_counted_84 ?_
    exact g_iret C hret hlk dX4_counted_87 rfl rfl
abbrev rmX4_count_1 : Room := { frames := 1, cells := 0, slots := 0, locals := 22 }
set_option maxHeartbeats 1000000 in
set_option maxRecDepth 100000 in
theorem c_X4_count_1 (l : Launch) (D : va_G) (cI cO : ClassId) (ma : Nat → Nat) (th : Int32) (u a9 sv : Nat → Int32) (z : Nat) (t : Nat → Int32) (n : Nat) (dg : Int64) (hn : n ≤ 60) (hz : z ≤ 6) (w9 : Int32) (h : w9 < 0 ∨ ¬ w9 ≤ 7) : cR (fun _ => True) l yX4_count wsX4_count rmX4_count_1 D vwCl (tyA cI cO) [.ref (ma 0), .int w9] (wM ma cI th u a9 sv z t n dg) (some (.int 0)) (wM ma cI 1 u a9 sv z t n dg) := by
  refine cR_of (cc := cX4_count) (maxL := 2) (ret := (some .int)) (by decide) rfl (Nat.le_of_ble_eq_true rfl) ?_
  intro p e s m below meth c A C hret hlk hnm hF
  refine g_lv [0, 1] (lv' := [(0, .ref (ma 0)), (1, .int w9)]) rfl ?_
  refine g_aload_n C dX4_count_0 0 rfl ?_
  refine g_iload_n C dX4_count_1 1 rfl ?_
  refine g_iconst C (v := 0) dX4_count_2 ci_0 ?_
  refine g_bipush C (v := 7) dX4_count_3 cb_7 ?_
  refine g_callSi C (c_X4_in l D cI cO w9 0 7) gX4_count_X4_in rfl ⟨rfl, rfl⟩ hd_X4_in ⟨Nat.le_of_ble_eq_true rfl, Nat.le_of_ble_eq_true rfl⟩ [0, 1] rfl (fun _ _ => trivial) rfl (rest := [.ref (ma 0)]) rfl (Nat.le_of_ble_eq_true rfl) dX4_count_5 ⟨Nat.zero_le _, Nat.zero_le _⟩ (pre := []) (post := (wM ma cI th u a9 sv z t n dg)) (ws' := (wM ma cI th u a9 sv z t n dg)) rfl rfl ?_
  refine g_if_eq C (tgt := 15) dX4_count_8 (by decide) (fun _ => ?_) (fun h8_1 => absurd (bf (nin h)) h8_1)
  refine g_iconst C (v := 1) dX4_count_15 ci_1 ?_
  refine g_callVi C (c_X4_holds l D cI cO ma th u a9 sv z t n dg hn hz 1) gX4_count_X4_holds rfl ⟨rfl, rfl⟩ hd_X4_holds ⟨Nat.le_of_ble_eq_true rfl, Nat.le_of_ble_eq_true rfl⟩ [0, 1] rfl (fun _ _ => trivial) rfl (rest := []) rfl (Nat.le_of_ble_eq_true rfl) dX4_count_16 ⟨Nat.zero_le _, Nat.zero_le _⟩ 0 rfl rfl rfl (pre := []) (post := []) (ws' := (wM ma cI 1 u a9 sv z t n dg)) rfl rfl ?_
  refine g_if_eq C (tgt := 30) dX4_count_19 (by decide) (fun _ => ?_) (fun h19_2 => absurd (by decide) h19_2)
  refine g_iconst C (v := 0) dX4_count_30 ci_0 ?_
  exact g_iret C hret hlk dX4_count_31 rfl rfl
theorem hd_X4_counted : yX4_counted.cls = RX4 ∧ yX4_counted.cls ≠ "java/lang/invoke/MethodHandle" ∧ yX4_counted.cls ≠ "java/lang/invoke/VarHandle" ∧ (parseMethodDescriptor yX4_counted.desc).map (fun d => d.parameters.length) = some 1 := by decide +kernel
abbrev rmX4_count : Room := { frames := 4, cells := 0, slots := 0, locals := 87 }
set_option maxHeartbeats 1000000 in
set_option maxRecDepth 100000 in
theorem c_X4_count (l : Launch) (D : va_G) (cI cO : ClassId) (ma : Nat → Nat) (th : Int32) (u a9 sv : Nat → Int32) (z : Nat) (t : Nat → Int32) (n : Nat) (dg : Int64) (hn : n ≤ 60) (hz : z ≤ 6) (w : Nat) (hw : w ≤ 7) : cR (fun _ => True) l yX4_count wsX4_count rmX4_count D vwCl (tyA cI cO) [.ref (ma 0), .int (nI w)] (wM ma cI th u a9 sv z t n dg) (some (.int (yCn u z w))) (wM ma cI 0 u a9 sv z t n dg) := by
  refine cR_of (cc := cX4_count) (maxL := 2) (ret := (some .int)) (by decide) rfl (Nat.le_of_ble_eq_true rfl) ?_
  intro p e s m below meth c A C hret hlk hnm hF
  refine g_lv [0, 1] (lv' := [(0, .ref (ma 0)), (1, .int (nI w))]) rfl ?_
  refine g_aload_n C dX4_count_0 0 rfl ?_
  refine g_iload_n C dX4_count_1 1 rfl ?_
  refine g_iconst C (v := 0) dX4_count_2 ci_0 ?_
  refine g_bipush C (v := 7) dX4_count_3 cb_7 ?_
  refine g_callSi C (c_X4_in l D cI cO (nI w) 0 7) gX4_count_X4_in rfl ⟨rfl, rfl⟩ hd_X4_in ⟨Nat.le_of_ble_eq_true rfl, Nat.le_of_ble_eq_true rfl⟩ [0, 1] rfl (fun _ _ => trivial) rfl (rest := [.ref (ma 0)]) rfl (Nat.le_of_ble_eq_true rfl) dX4_count_5 ⟨Nat.zero_le _, Nat.zero_le _⟩ (pre := []) (post := (wM ma cI th u a9 sv z t n dg)) (ws' := (wM ma cI th u a9 sv z t n dg)) rfl rfl ?_
  refine g_if_eq C (tgt := 15) dX4_count_8 (by decide) (fun h8_1 => absurd h8_1 (bt (inp (nI_pos (by omega)) (leI (b := 7) hw (by decide))))) (fun _ => ?_)
  refine g_iconst C (v := 0) dX4_count_11 ci_0 ?_
  refine g_goto C (tgt := 16) dX4_count_12 (by decide) ?_
  refine g_callVi C (c_X4_holds l D cI cO ma th u a9 sv z t n dg hn hz 0) gX4_count_X4_holds rfl ⟨rfl, rfl⟩ hd_X4_holds ⟨Nat.le_of_ble_eq_true rfl, Nat.le_of_ble_eq_true rfl⟩ [0, 1] rfl (fun _ _ => trivial) rfl (rest := []) rfl (Nat.le_of_ble_eq_true rfl) dX4_count_16 ⟨Nat.zero_le _, Nat.zero_le _⟩ 0 rfl rfl rfl (pre := []) (post := []) (ws' := (wM ma cI 0 u a9 sv z t n dg)) rfl rfl ?_
  refine g_if_eq C (tgt := 30) dX4_count_19 (by decide) (fun h19_2 => absurd h19_2 (by decide)) (fun _ => ?_)
  refine g_aload_n C dX4_count_22 0 rfl ?_
  refine g_iload_n C dX4_count_23 1 rfl ?_
  refine g_callVi C (c_X4_counted l D cI cO ma 0 u a9 sv z t n dg hn hz w hw) gX4_count_X4_counted rfl ⟨rfl, rfl⟩ hd_X4_counted ⟨Nat.le_of_ble_eq_true rfl, Nat.le_of_ble_eq_true rfl⟩ [0, 1] rfl (fun _ _ => trivial) rfl (rest := []) rfl (Nat.le_of_ble_eq_true rfl) dX4_count_24 ⟨Nat.zero_le _, Nat.zero_le _⟩ 0 rfl rfl rfl (pre := []) (post := []) (ws' := (wM ma cI 0 u a9 sv z t n dg)) rfl rfl ?_
  refine g_goto C (tgt := 31) dX4_count_27 (by decide) ?_
  exact g_iret C hret hlk dX4_count_31 rfl rfl
abbrev rmX4_movesFor : Room := { frames := 3, cells := 0, slots := 0, locals := 71 }
set_option maxHeartbeats 1000000 in
set_option maxRecDepth 100000 in
theorem c_X4_movesFor (l : Launch) (D : va_G) (cI cO : ClassId) (ma : Nat → Nat) (th : Int32) (u a9 sv : Nat → Int32) (z : Nat) (t : Nat → Int32) (n : Nat) (dg : Int64) (hn : n ≤ 60) (hz : z ≤ 6) (r : Nat) (hr : r < 9) (v : Int32) : cR (fun _ => True) l yX4_movesFor wsX4_movesFor rmX4_movesFor D vwCl (tyA cI cO) [.ref (ma 0), .int (nI r), .int v] (wM ma cI th u a9 sv z t n dg) (some (.int (yMF u r v))) (wM ma cI th u a9 sv z t n dg) := by
  refine cR_of (cc := cX4_movesFor) (maxL := 4) (ret := (some .int)) (by decide) rfl (Nat.le_of_ble_eq_true rfl) ?_
  intro p e s m below meth c A C hret hlk hnm hF
  refine g_lv [0, 1, 2] (lv' := [(0, .ref (ma 0)), (1, .int (nI r)), (2, .int v)]) rfl ?_
  refine g_aload_n C dX4_movesFor_0 0 rfl ?_
  refine g_iload_n C dX4_movesFor_1 1 rfl ?_
  refine g_iload_n C dX4_movesFor_2 2 rfl ?_
  refine g_callVi C (c_X4_fivesFor l D cI cO ma th u a9 sv z t n dg hn hz r ((by omega)) v) gX4_movesFor_X4_fivesFor rfl ⟨rfl, rfl⟩ hd_X4_fivesFor ⟨Nat.le_of_ble_eq_true rfl, Nat.le_of_ble_eq_true rfl⟩ [0, 1] rfl (fun _ _ => trivial) rfl (rest := []) rfl (Nat.le_of_ble_eq_true rfl) dX4_movesFor_3 ⟨Nat.zero_le _, Nat.zero_le _⟩ 0 rfl rfl rfl (pre := []) (post := []) (ws' := (wM ma cI th u a9 sv z t n dg)) rfl rfl ?_
  refine g_istore_n C (lv' := [(3, .int (yFv u r v)), (0, .ref (ma 0)), (1, .int (nI r)), (2, .int v)]) dX4_movesFor_6 rfl (by decide) rfl ?_
  refine g_iload_n C dX4_movesFor_7 0 rfl ?_
  refine g_iconst C (v := -1) dX4_movesFor_8 ci_m1 ?_
  refine g_icmp_ne C (tgt := 16) dX4_movesFor_9 (by decide) (fun h9_1 => ?_) (fun h9_1 => ?_)
  · refine g_aload_n C dX4_movesFor_16 1 rfl ?_
    refine g_iload_n C dX4_movesFor_17 2 rfl ?_
    refine g_iload_n C dX4_movesFor_18 0 rfl ?_
    refine g_iload_n C dX4_movesFor_19 3 rfl ?_
    refine g_iconst C (v := 5) dX4_movesFor_20 ci_5 ?_
    refine g_iload_n C dX4_movesFor_21 0 rfl ?_
    refine g_imul C (v := 5 * (yFv u r v)) dX4_movesFor_22 rfl ?_
    refine g_isub C (v := v - (5 * (yFv u r v))) dX4_movesFor_23 rfl ?_
    refine g_callVi C (c_X4_movesTo l D cI cO ma th u a9 sv z t n dg hn hz r ((by omega)) (yFv u r v) (v - (5 * (yFv u r v)))) gX4_movesFor_X4_movesTo rfl ⟨rfl, rfl⟩ hd_X4_movesTo ⟨Nat.le_of_ble_eq_true rfl, Nat.le_of_ble_eq_true rfl⟩ [0, 1] rfl (fun _ _ => trivial) rfl (rest := []) rfl (Nat.le_of_ble_eq_true rfl) dX4_movesFor_24 ⟨Nat.zero_le _, Nat.zero_le _⟩ 0 rfl rfl rfl (pre := []) (post := []) (ws' := (wM ma cI th u a9 sv z t n dg)) rfl rfl ?_
    exact g_iret C hret hlk dX4_movesFor_27 (by simp only [yMF, h9_1, Bool.false_eq_true, not_false_eq_true, not_true_eq_false, and_self, and_true, true_and, and_false, false_and, or_true, true_or, or_false, false_or, or_self, if_true, if_false, eq_self, ite_true, ite_false, reduceIte]) rfl
  · refine g_iconst C (v := -1) dX4_movesFor_12 ci_m1 ?_
    refine g_goto C (tgt := 27) dX4_movesFor_13 (by decide) ?_
    exact g_iret C hret hlk dX4_movesFor_27 (by simp only [yMF, eq_true h9_1, Bool.false_eq_true, not_false_eq_true, not_true_eq_false, and_self, and_true, true_and, and_false, false_and, or_true, true_or, or_false, false_or, or_self, if_true, if_false, eq_self, ite_true, ite_false, reduceIte]) rfl
abbrev rmX4_moves_1 : Room := { frames := 2, cells := 0, slots := 0, locals := 42 }
set_option maxHeartbeats 1000000 in
set_option maxRecDepth 100000 in
theorem c_X4_moves_1 (l : Launch) (D : va_G) (cI cO : ClassId) (ma : Nat → Nat) (th : Int32) (u a9 sv : Nat → Int32) (z : Nat) (t : Nat → Int32) (n : Nat) (dg : Int64) (hn : n ≤ 60) (hz : z ≤ 6) (v9 : Int32) (h : v9 < 0 ∨ ¬ v9 < 9) (v : Int32) : cR (fun _ => True) l yX4_moves wsX4_moves rmX4_moves_1 D vwCl (tyA cI cO) [.ref (ma 0), .int v9, .int v] (wM ma cI th u a9 sv z t n dg) (some (.int 0)) (wM ma cI 1 u a9 sv z t n dg) := by
  refine cR_of (cc := cX4_moves) (maxL := 3) (ret := (some .int)) (by decide) rfl (Nat.le_of_ble_eq_true rfl) ?_
  intro p e s m below meth c A C hret hlk hnm hF
  refine g_lv [0, 1, 2] (lv' := [(0, .ref (ma 0)), (1, .int v9), (2, .int v)]) rfl ?_
  refine g_aload_n C dX4_moves_0 0 rfl ?_
  refine g_iload_n C dX4_moves_1 1 rfl ?_
  refine g_callSi C (c_X4_isRod l D cI cO v9) gX4_moves_X4_isRod rfl ⟨rfl, rfl⟩ hd_X4_isRod ⟨Nat.le_of_ble_eq_true rfl, Nat.le_of_ble_eq_true rfl⟩ [0, 1] rfl (fun _ _ => trivial) rfl (rest := [.ref (ma 0)]) rfl (Nat.le_of_ble_eq_true rfl) dX4_moves_2 ⟨Nat.zero_le _, Nat.zero_le _⟩ (pre := []) (post := (wM ma cI th u a9 sv z t n dg)) (ws' := (wM ma cI th u a9 sv z t n dg)) rfl rfl ?_
  refine g_if_ne C (tgt := 12) dX4_moves_5 (by decide) (fun h5_1 => absurd (bf (nrod h)) h5_1) (fun _ => ?_)
  refine g_iconst C (v := 1) dX4_moves_8 ci_1 ?_
  refine g_goto C (tgt := 27) dX4_moves_9 (by decide) ?_
  refine g_callVi C (c_X4_holds l D cI cO ma th u a9 sv z t n dg hn hz 1) gX4_moves_X4_holds rfl ⟨rfl, rfl⟩ hd_X4_holds ⟨Nat.le_of_ble_eq_true rfl, Nat.le_of_ble_eq_true rfl⟩ [0, 1] rfl (fun _ _ => trivial) rfl (rest := []) rfl (Nat.le_of_ble_eq_true rfl) dX4_moves_27 ⟨Nat.zero_le _, Nat.zero_le _⟩ 0 rfl rfl rfl (pre := []) (post := []) (ws' := (wM ma cI 1 u a9 sv z t n dg)) rfl rfl ?_
  refine g_if_eq C (tgt := 42) dX4_moves_30 (by decide) (fun _ => ?_) (fun h30_2 => absurd (by decide) h30_2)
  refine g_iconst C (v := 0) dX4_moves_42 ci_0 ?_
  exact g_iret C hret hlk dX4_moves_43 rfl rfl
abbrev rmX4_moves_2 : Room := { frames := 2, cells := 0, slots := 0, locals := 42 }
set_option maxHeartbeats 1000000 in
set_option maxRecDepth 100000 in
theorem c_X4_moves_2 (l : Launch) (D : va_G) (cI cO : ClassId) (ma : Nat → Nat) (th : Int32) (u a9 sv : Nat → Int32) (z : Nat) (t : Nat → Int32) (n : Nat) (dg : Int64) (hn : n ≤ 60) (hz : z ≤ 6) (r : Nat) (hr : r < 9) (v : Int32) (h : v < 0 ∨ ¬ v ≤ 15) : cR (fun _ => True) l yX4_moves wsX4_moves rmX4_moves_2 D vwCl (tyA cI cO) [.ref (ma 0), .int (nI r), .int v] (wM ma cI th u a9 sv z t n dg) (some (.int 0)) (wM ma cI 2 u a9 sv z t n dg) := by
  refine cR_of (cc := cX4_moves) (maxL := 3) (ret := (some .int)) (by decide) rfl (Nat.le_of_ble_eq_true rfl) ?_
  intro p e s m below meth c A C hret hlk hnm hF
  refine g_lv [0, 1, 2] (lv' := [(0, .ref (ma 0)), (1, .int (nI r)), (2, .int v)]) rfl ?_
  refine g_aload_n C dX4_moves_0 0 rfl ?_
  refine g_iload_n C dX4_moves_1 1 rfl ?_
  refine g_callSi C (c_X4_isRod l D cI cO (nI r)) gX4_moves_X4_isRod rfl ⟨rfl, rfl⟩ hd_X4_isRod ⟨Nat.le_of_ble_eq_true rfl, Nat.le_of_ble_eq_true rfl⟩ [0, 1] rfl (fun _ _ => trivial) rfl (rest := [.ref (ma 0)]) rfl (Nat.le_of_ble_eq_true rfl) dX4_moves_2 ⟨Nat.zero_le _, Nat.zero_le _⟩ (pre := []) (post := (wM ma cI th u a9 sv z t n dg)) (ws' := (wM ma cI th u a9 sv z t n dg)) rfl rfl ?_
  refine g_if_ne C (tgt := 12) dX4_moves_5 (by decide) (fun _ => ?_) (fun h5_1 => absurd h5_1 (bt (rodp hr)))
  refine g_iload_n C dX4_moves_12 2 rfl ?_
  refine g_iconst C (v := 0) dX4_moves_13 ci_0 ?_
  refine g_bipush C (v := 15) dX4_moves_14 cb_15 ?_
  refine g_callSi C (c_X4_in l D cI cO v 0 15) gX4_moves_X4_in rfl ⟨rfl, rfl⟩ hd_X4_in ⟨Nat.le_of_ble_eq_true rfl, Nat.le_of_ble_eq_true rfl⟩ [0, 1] rfl (fun _ _ => trivial) rfl (rest := [.ref (ma 0)]) rfl (Nat.le_of_ble_eq_true rfl) dX4_moves_16 ⟨Nat.zero_le _, Nat.zero_le _⟩ (pre := []) (post := (wM ma cI th u a9 sv z t n dg)) (ws' := (wM ma cI th u a9 sv z t n dg)) rfl rfl ?_
  refine g_if_ne C (tgt := 26) dX4_moves_19 (by decide) (fun h19_2 => absurd (bf (nin h)) h19_2) (fun _ => ?_)
  refine g_iconst C (v := 2) dX4_moves_22 ci_2 ?_
  refine g_goto C (tgt := 27) dX4_moves_23 (by decide) ?_
  refine g_callVi C (c_X4_holds l D cI cO ma th u a9 sv z t n dg hn hz 2) gX4_moves_X4_holds rfl ⟨rfl, rfl⟩ hd_X4_holds ⟨Nat.le_of_ble_eq_true rfl, Nat.le_of_ble_eq_true rfl⟩ [0, 1] rfl (fun _ _ => trivial) rfl (rest := []) rfl (Nat.le_of_ble_eq_true rfl) dX4_moves_27 ⟨Nat.zero_le _, Nat.zero_le _⟩ 0 rfl rfl rfl (pre := []) (post := []) (ws' := (wM ma cI 2 u a9 sv z t n dg)) rfl rfl ?_
  refine g_if_eq C (tgt := 42) dX4_moves_30 (by decide) (fun _ => ?_) (fun h30_3 => absurd (by decide) h30_3)
  refine g_iconst C (v := 0) dX4_moves_42 ci_0 ?_
  exact g_iret C hret hlk dX4_moves_43 rfl rfl
theorem hd_X4_movesFor : yX4_movesFor.cls = RX4 ∧ yX4_movesFor.cls ≠ "java/lang/invoke/MethodHandle" ∧ yX4_movesFor.cls ≠ "java/lang/invoke/VarHandle" ∧ (parseMethodDescriptor yX4_movesFor.desc).map (fun d => d.parameters.length) = some 2 := by decide +kernel
abbrev rmX4_moves : Room := { frames := 4, cells := 0, slots := 0, locals := 94 }
set_option maxHeartbeats 1000000 in
set_option maxRecDepth 100000 in
theorem c_X4_moves (l : Launch) (D : va_G) (cI cO : ClassId) (ma : Nat → Nat) (th : Int32) (u a9 sv : Nat → Int32) (z : Nat) (t : Nat → Int32) (n : Nat) (dg : Int64) (hn : n ≤ 60) (hz : z ≤ 6) (r : Nat) (hr : r < 9) (v : Int32) (h1 : ¬ v < 0) (h2 : v ≤ 15) : cR (fun _ => True) l yX4_moves wsX4_moves rmX4_moves D vwCl (tyA cI cO) [.ref (ma 0), .int (nI r), .int v] (wM ma cI th u a9 sv z t n dg) (some (.int (yMF u r v))) (wM ma cI 0 u a9 sv z t n dg) := by
  refine cR_of (cc := cX4_moves) (maxL := 3) (ret := (some .int)) (by decide) rfl (Nat.le_of_ble_eq_true rfl) ?_
  intro p e s m below meth c A C hret hlk hnm hF
  refine g_lv [0, 1, 2] (lv' := [(0, .ref (ma 0)), (1, .int (nI r)), (2, .int v)]) rfl ?_
  refine g_aload_n C dX4_moves_0 0 rfl ?_
  refine g_iload_n C dX4_moves_1 1 rfl ?_
  refine g_callSi C (c_X4_isRod l D cI cO (nI r)) gX4_moves_X4_isRod rfl ⟨rfl, rfl⟩ hd_X4_isRod ⟨Nat.le_of_ble_eq_true rfl, Nat.le_of_ble_eq_true rfl⟩ [0, 1] rfl (fun _ _ => trivial) rfl (rest := [.ref (ma 0)]) rfl (Nat.le_of_ble_eq_true rfl) dX4_moves_2 ⟨Nat.zero_le _, Nat.zero_le _⟩ (pre := []) (post := (wM ma cI th u a9 sv z t n dg)) (ws' := (wM ma cI th u a9 sv z t n dg)) rfl rfl ?_
  refine g_if_ne C (tgt := 12) dX4_moves_5 (by decide) (fun _ => ?_) (fun h5_1 => absurd h5_1 (bt (rodp hr)))
  refine g_iload_n C dX4_moves_12 2 rfl ?_
  refine g_iconst C (v := 0) dX4_moves_13 ci_0 ?_
  refine g_bipush C (v := 15) dX4_moves_14 cb_15 ?_
  refine g_callSi C (c_X4_in l D cI cO v 0 15) gX4_moves_X4_in rfl ⟨rfl, rfl⟩ hd_X4_in ⟨Nat.le_of_ble_eq_true rfl, Nat.le_of_ble_eq_true rfl⟩ [0, 1] rfl (fun _ _ => trivial) rfl (rest := [.ref (ma 0)]) rfl (Nat.le_of_ble_eq_true rfl) dX4_moves_16 ⟨Nat.zero_le _, Nat.zero_le _⟩ (pre := []) (post := (wM ma cI th u a9 sv z t n dg)) (ws' := (wM ma cI th u a9 sv z t n dg)) rfl rfl ?_
  refine g_if_ne C (tgt := 26) dX4_moves_19 (by decide) (fun _ => ?_) (fun h19_2 => absurd h19_2 (bt (inp h1 h2)))
  refine g_iconst C (v := 0) dX4_moves_26 ci_0 ?_
  refine g_callVi C (c_X4_holds l D cI cO ma th u a9 sv z t n dg hn hz 0) gX4_moves_X4_holds rfl ⟨rfl, rfl⟩ hd_X4_holds ⟨Nat.le_of_ble_eq_true rfl, Nat.le_of_ble_eq_true rfl⟩ [0, 1] rfl (fun _ _ => trivial) rfl (rest := []) rfl (Nat.le_of_ble_eq_true rfl) dX4_moves_27 ⟨Nat.zero_le _, Nat.zero_le _⟩ 0 rfl rfl rfl (pre := []) (post := []) (ws' := (wM ma cI 0 u a9 sv z t n dg)) rfl rfl ?_
  refine g_if_eq C (tgt := 42) dX4_moves_30 (by decide) (fun h30_3 => absurd h30_3 (by decide)) (fun _ => ?_)
  refine g_aload_n C dX4_moves_33 0 rfl ?_
  refine g_iload_n C dX4_moves_34 1 rfl ?_
  refine g_iload_n C dX4_moves_35 2 rfl ?_
  refine g_callVi C (c_X4_movesFor l D cI cO ma 0 u a9 sv z t n dg hn hz r ((by omega)) v) gX4_moves_X4_movesFor rfl ⟨rfl, rfl⟩ hd_X4_movesFor ⟨Nat.le_of_ble_eq_true rfl, Nat.le_of_ble_eq_true rfl⟩ [0, 1] rfl (fun _ _ => trivial) rfl (rest := []) rfl (Nat.le_of_ble_eq_true rfl) dX4_moves_36 ⟨Nat.zero_le _, Nat.zero_le _⟩ 0 rfl rfl rfl (pre := []) (post := []) (ws' := (wM ma cI 0 u a9 sv z t n dg)) rfl rfl ?_
  refine g_goto C (tgt := 43) dX4_moves_39 (by decide) ?_
  exact g_iret C hret hlk dX4_moves_43 rfl rfl
abbrev rmX4_ifAdded_1 : Room := { frames := 2, cells := 0, slots := 0, locals := 42 }
set_option maxHeartbeats 1000000 in
set_option maxRecDepth 100000 in
theorem c_X4_ifAdded_1 (l : Launch) (D : va_G) (cI cO : ClassId) (ma : Nat → Nat) (th : Int32) (u a9 sv : Nat → Int32) (z : Nat) (t : Nat → Int32) (n : Nat) (dg : Int64) (hn : n ≤ 60) (hz : z ≤ 6) (v9 : Int32) (h : v9 < 0 ∨ ¬ v9 < 9) (v : Int32) : cR (fun _ => True) l yX4_ifAdded wsX4_ifAdded rmX4_ifAdded_1 D vwCl (tyA cI cO) [.ref (ma 0), .int v9, .int v] (wM ma cI th u a9 sv z t n dg) (some (.int 0)) (wM ma cI 1 u a9 sv z t n dg) := by
  refine cR_of (cc := cX4_ifAdded) (maxL := 3) (ret := (some .int)) (by decide) rfl (Nat.le_of_ble_eq_true rfl) ?_
  intro p e s m below meth c A C hret hlk hnm hF
  refine g_lv [0, 1, 2] (lv' := [(0, .ref (ma 0)), (1, .int v9), (2, .int v)]) rfl ?_
  refine g_aload_n C dX4_ifAdded_0 0 rfl ?_
  refine g_iload_n C dX4_ifAdded_1 1 rfl ?_
  refine g_callSi C (c_X4_isRod l D cI cO v9) gX4_ifAdded_X4_isRod rfl ⟨rfl, rfl⟩ hd_X4_isRod ⟨Nat.le_of_ble_eq_true rfl, Nat.le_of_ble_eq_true rfl⟩ [0, 1] rfl (fun _ _ => trivial) rfl (rest := [.ref (ma 0)]) rfl (Nat.le_of_ble_eq_true rfl) dX4_ifAdded_2 ⟨Nat.zero_le _, Nat.zero_le _⟩ (pre := []) (post := (wM ma cI th u a9 sv z t n dg)) (ws' := (wM ma cI th u a9 sv z t n dg)) rfl rfl ?_
  refine g_if_ne C (tgt := 12) dX4_ifAdded_5 (by decide) (fun h5_1 => absurd (bf (nrod h)) h5_1) (fun _ => ?_)
  refine g_iconst C (v := 1) dX4_ifAdded_8 ci_1 ?_
  refine g_goto C (tgt := 28) dX4_ifAdded_9 (by decide) ?_
  refine g_callVi C (c_X4_holds l D cI cO ma th u a9 sv z t n dg hn hz 1) gX4_ifAdded_X4_holds rfl ⟨rfl, rfl⟩ hd_X4_holds ⟨Nat.le_of_ble_eq_true rfl, Nat.le_of_ble_eq_true rfl⟩ [0, 1] rfl (fun _ _ => trivial) rfl (rest := []) rfl (Nat.le_of_ble_eq_true rfl) dX4_ifAdded_28 ⟨Nat.zero_le _, Nat.zero_le _⟩ 0 rfl rfl rfl (pre := []) (post := []) (ws' := (wM ma cI 1 u a9 sv z t n dg)) rfl rfl ?_
  refine g_if_eq C (tgt := 44) dX4_ifAdded_31 (by decide) (fun _ => ?_) (fun h31_2 => absurd (by decide) h31_2)
  refine g_iconst C (v := 0) dX4_ifAdded_44 ci_0 ?_
  exact g_iret C hret hlk dX4_ifAdded_45 rfl rfl
abbrev rmX4_ifAdded_2 : Room := { frames := 2, cells := 0, slots := 0, locals := 42 }
set_option maxHeartbeats 1000000 in
set_option maxRecDepth 100000 in
theorem c_X4_ifAdded_2 (l : Launch) (D : va_G) (cI cO : ClassId) (ma : Nat → Nat) (th : Int32) (u a9 sv : Nat → Int32) (z : Nat) (t : Nat → Int32) (n : Nat) (dg : Int64) (hn : n ≤ 60) (hz : z ≤ 6) (r : Nat) (hr : r < 9) (v : Int32) (h : v < -9 ∨ ¬ v ≤ 9) : cR (fun _ => True) l yX4_ifAdded wsX4_ifAdded rmX4_ifAdded_2 D vwCl (tyA cI cO) [.ref (ma 0), .int (nI r), .int v] (wM ma cI th u a9 sv z t n dg) (some (.int 0)) (wM ma cI 2 u a9 sv z t n dg) := by
  refine cR_of (cc := cX4_ifAdded) (maxL := 3) (ret := (some .int)) (by decide) rfl (Nat.le_of_ble_eq_true rfl) ?_
  intro p e s m below meth c A C hret hlk hnm hF
  refine g_lv [0, 1, 2] (lv' := [(0, .ref (ma 0)), (1, .int (nI r)), (2, .int v)]) rfl ?_
  refine g_aload_n C dX4_ifAdded_0 0 rfl ?_
  refine g_iload_n C dX4_ifAdded_1 1 rfl ?_
  refine g_callSi C (c_X4_isRod l D cI cO (nI r)) gX4_ifAdded_X4_isRod rfl ⟨rfl, rfl⟩ hd_X4_isRod ⟨Nat.le_of_ble_eq_true rfl, Nat.le_of_ble_eq_true rfl⟩ [0, 1] rfl (fun _ _ => trivial) rfl (rest := [.ref (ma 0)]) rfl (Nat.le_of_ble_eq_true rfl) dX4_ifAdded_2 ⟨Nat.zero_le _, Nat.zero_le _⟩ (pre := []) (post := (wM ma cI th u a9 sv z t n dg)) (ws' := (wM ma cI th u a9 sv z t n dg)) rfl rfl ?_
  refine g_if_ne C (tgt := 12) dX4_ifAdded_5 (by decide) (fun _ => ?_) (fun h5_1 => absurd h5_1 (bt (rodp hr)))
  refine g_iload_n C dX4_ifAdded_12 2 rfl ?_
  refine g_bipush C (v := -9) dX4_ifAdded_13 cb_m9 ?_
  refine g_bipush C (v := 9) dX4_ifAdded_15 cb_9 ?_
  refine g_callSi C (c_X4_in l D cI cO v (-9) 9) gX4_ifAdded_X4_in rfl ⟨rfl, rfl⟩ hd_X4_in ⟨Nat.le_of_ble_eq_true rfl, Nat.le_of_ble_eq_true rfl⟩ [0, 1] rfl (fun _ _ => trivial) rfl (rest := [.ref (ma 0)]) rfl (Nat.le_of_ble_eq_true rfl) dX4_ifAdded_17 ⟨Nat.zero_le _, Nat.zero_le _⟩ (pre := []) (post := (wM ma cI th u a9 sv z t n dg)) (ws' := (wM ma cI th u a9 sv z t n dg)) rfl rfl ?_
  refine g_if_ne C (tgt := 27) dX4_ifAdded_20 (by decide) (fun h20_2 => absurd (bf (nin h)) h20_2) (fun _ => ?_)
  refine g_iconst C (v := 2) dX4_ifAdded_23 ci_2 ?_
  refine g_goto C (tgt := 28) dX4_ifAdded_24 (by decide) ?_
  refine g_callVi C (c_X4_holds l D cI cO ma th u a9 sv z t n dg hn hz 2) gX4_ifAdded_X4_holds rfl ⟨rfl, rfl⟩ hd_X4_holds ⟨Nat.le_of_ble_eq_true rfl, Nat.le_of_ble_eq_true rfl⟩ [0, 1] rfl (fun _ _ => trivial) rfl (rest := []) rfl (Nat.le_of_ble_eq_true rfl) dX4_ifAdded_28 ⟨Nat.zero_le _, Nat.zero_le _⟩ 0 rfl rfl rfl (pre := []) (post := []) (ws' := (wM ma cI 2 u a9 sv z t n dg)) rfl rfl ?_
  refine g_if_eq C (tgt := 44) dX4_ifAdded_31 (by decide) (fun _ => ?_) (fun h31_3 => absurd (by decide) h31_3)
  refine g_iconst C (v := 0) dX4_ifAdded_44 ci_0 ?_
  exact g_iret C hret hlk dX4_ifAdded_45 rfl rfl
abbrev rmX4_ifAdded : Room := { frames := 9, cells := 0, slots := 0, locals := 213 }
set_option maxHeartbeats 1000000 in
set_option maxRecDepth 100000 in
theorem c_X4_ifAdded (l : Launch) (D : va_G) (cI cO : ClassId) (ma : Nat → Nat) (th : Int32) (u a9 sv : Nat → Int32) (z : Nat) (t : Nat → Int32) (n : Nat) (dg : Int64) (hn : n ≤ 60) (hz : z ≤ 6) (r : Nat) (hr : r < 9) (v : Int32) (h1 : ¬ v < -9) (h2 : v ≤ 9) : cR (fun _ => True) l yX4_ifAdded wsX4_ifAdded rmX4_ifAdded D vwCl (tyA cI cO) [.ref (ma 0), .int (nI r), .int v] (wM ma cI th u a9 sv z t n dg) (some (.int (yK0 u r v))) (wM ma cI 0 u u sv z t n dg) := by
  refine cR_of (cc := cX4_ifAdded) (maxL := 3) (ret := (some .int)) (by decide) rfl (Nat.le_of_ble_eq_true rfl) ?_
  intro p e s m below meth c A C hret hlk hnm hF
  refine g_lv [0, 1, 2] (lv' := [(0, .ref (ma 0)), (1, .int (nI r)), (2, .int v)]) rfl ?_
  refine g_aload_n C dX4_ifAdded_0 0 rfl ?_
  refine g_iload_n C dX4_ifAdded_1 1 rfl ?_
  refine g_callSi C (c_X4_isRod l D cI cO (nI r)) gX4_ifAdded_X4_isRod rfl ⟨rfl, rfl⟩ hd_X4_isRod ⟨Nat.le_of_ble_eq_true rfl, Nat.le_of_ble_eq_true rfl⟩ [0, 1] rfl (fun _ _ => trivial) rfl (rest := [.ref (ma 0)]) rfl (Nat.le_of_ble_eq_true rfl) dX4_ifAdded_2 ⟨Nat.zero_le _, Nat.zero_le _⟩ (pre := []) (post := (wM ma cI th u a9 sv z t n dg)) (ws' := (wM ma cI th u a9 sv z t n dg)) rfl rfl ?_
  refine g_if_ne C (tgt := 12) dX4_ifAdded_5 (by decide) (fun _ => ?_) (fun h5_1 => absurd h5_1 (bt (rodp hr)))
  refine g_iload_n C dX4_ifAdded_12 2 rfl ?_
  refine g_bipush C (v := -9) dX4_ifAdded_13 cb_m9 ?_
  refine g_bipush C (v := 9) dX4_ifAdded_15 cb_9 ?_
  refine g_callSi C (c_X4_in l D cI cO v (-9) 9) gX4_ifAdded_X4_in rfl ⟨rfl, rfl⟩ hd_X4_in ⟨Nat.le_of_ble_eq_true rfl, Nat.le_of_ble_eq_true rfl⟩ [0, 1] rfl (fun _ _ => trivial) rfl (rest := [.ref (ma 0)]) rfl (Nat.le_of_ble_eq_true rfl) dX4_ifAdded_17 ⟨Nat.zero_le _, Nat.zero_le _⟩ (pre := []) (post := (wM ma cI th u a9 sv z t n dg)) (ws' := (wM ma cI th u a9 sv z t n dg)) rfl rfl ?_
  refine g_if_ne C (tgt := 27) dX4_ifAdded_20 (by decide) (fun _ => ?_) (fun h20_2 => absurd h20_2 (bt (inp h1 h2)))
  refine g_iconst C (v := 0) dX4_ifAdded_27 ci_0 ?_
  refine g_callVi C (c_X4_holds l D cI cO ma th u a9 sv z t n dg hn hz 0) gX4_ifAdded_X4_holds rfl ⟨rfl, rfl⟩ hd_X4_holds ⟨Nat.le_of_ble_eq_true rfl, Nat.le_of_ble_eq_true rfl⟩ [0, 1] rfl (fun _ _ => trivial) rfl (rest := []) rfl (Nat.le_of_ble_eq_true rfl) dX4_ifAdded_28 ⟨Nat.zero_le _, Nat.zero_le _⟩ 0 rfl rfl rfl (pre := []) (post := []) (ws' := (wM ma cI 0 u a9 sv z t n dg)) rfl rfl ?_
  refine g_if_eq C (tgt := 44) dX4_ifAdded_31 (by decide) (fun h31_3 => absurd h31_3 (by decide)) (fun _ => ?_)
  refine g_aload_n C dX4_ifAdded_34 0 rfl ?_
  refine g_iconst C (v := 0) dX4_ifAdded_35 ci_0 ?_
  refine g_iload_n C dX4_ifAdded_36 1 rfl ?_
  refine g_iload_n C dX4_ifAdded_37 2 rfl ?_
  refine g_callVi C (c_X4_takes_0 l D cI cO ma 0 u a9 sv z t n dg hn hz r ((by omega)) v) gX4_ifAdded_X4_takes rfl ⟨rfl, rfl⟩ hd_X4_takes ⟨Nat.le_of_ble_eq_true rfl, Nat.le_of_ble_eq_true rfl⟩ [0, 1] rfl (fun _ _ => trivial) rfl (rest := []) rfl (Nat.le_of_ble_eq_true rfl) dX4_ifAdded_38 ⟨Nat.zero_le _, Nat.zero_le _⟩ 0 rfl rfl rfl (pre := []) (post := []) (ws' := (wM ma cI 0 u u sv z t n dg)) rfl rfl ?_
  refine g_goto C (tgt := 45) dX4_ifAdded_41 (by decide) ?_
  exact g_iret C hret hlk dX4_ifAdded_45 rfl rfl
abbrev rmX4_showing : Room := { frames := 4, cells := 0, slots := 0, locals := 94 }
set_option maxHeartbeats 1000000 in
set_option maxRecDepth 100000 in
theorem c_X4_showing (l : Launch) (D : va_G) (cI cO : ClassId) (ma : Nat → Nat) (th : Int32) (u a9 sv : Nat → Int32) (z : Nat) (t : Nat → Int32) (n : Nat) (dg : Int64) (hn : n ≤ 60) (hz : z ≤ 6) (m9 : Nat) (hm9 : m9 ≤ 999999999) : cR (fun _ => True) l yX4_showing wsX4_showing rmX4_showing D vwCl (tyA cI cO) [.ref (ma 0), .int (nI m9)] (wM ma cI th u a9 sv z t n dg) (some (.int (yS u 9 0 m9 0 1))) (wM ma cI th u a9 sv z t n dg) := by
  refine cR_of (cc := cX4_showing) (maxL := 7) (ret := (some .int)) (by decide) rfl (Nat.le_of_ble_eq_true rfl) ?_
  intro p e s m below meth c A C hret hlk hnm hF
  refine g_lv [0, 1] (lv' := [(0, .ref (ma 0)), (1, .int (nI m9))]) rfl ?_
  have K : ∀ (k q : Nat), k + q = 9 → ∀ (w : Nat) (a b : Int32), w ≤ 999999999 → yS u k q w a b = yS u 9 0 m9 0 1 → gG p l e rmX4_showing s m ([.ref (ma 0), .int (nI m9)] : List Value).toArray below meth c D vwCl A s.heap 7 (MQ below (cQ (some (.int (yS u 9 0 m9 0 1))) (cB D vwCl (tyA cI cO) A (wM ma cI th u a9 sv z t n dg)) A) ([.ref (ma 0), .int (nI m9)] : List Value).toArray s 0 0 A) 0 0 (wM ma cI th u a9 sv z t n dg) 10 [(0, .ref (ma 0)), (1, .int (nI m9)), (2, .int a), (3, .int (nI w)), (4, .int b), (5, .int (nI q))] [] := by
    intro k
    induction k with
    | zero =>
      intro q hn9 w a b hw hq
      obtain rfl : q = 9 := by omega
      refine g_iload C dX4_showing_10 5 rfl ?_
      refine g_bipush C (v := 9) dX4_showing_12 cb_9 ?_
      refine g_icmp_ge C (tgt := 63) dX4_showing_14 (by decide) (fun _ => ?_) (fun h14_1 => absurd (by decide) h14_1)
      refine g_iload C dX4_showing_63 4 rfl ?_
      refine g_if_eq C (tgt := 72) dX4_showing_65 (by decide) (fun h65_2 => ?_) (fun h65_2 => ?_)
      · refine g_iconst C (v := -1) dX4_showing_72 ci_m1 ?_
        exact g_iret C hret hlk dX4_showing_73 (by rw [← hq]; simp only [yS, eq_true h65_2, Bool.false_eq_true, not_false_eq_true, not_true_eq_false, and_self, and_true, true_and, and_false, false_and, or_true, true_or, or_false, false_or, or_self, if_true, if_false, eq_self, ite_true, ite_false, reduceIte]) rfl
      · refine g_iload_n C dX4_showing_68 2 rfl ?_
        refine g_goto C (tgt := 73) dX4_showing_69 (by decide) ?_
        exact g_iret C hret hlk dX4_showing_73 (by rw [← hq]; simp only [yS, h65_2, Bool.false_eq_true, not_false_eq_true, not_true_eq_false, and_self, and_true, true_and, and_false, false_and, or_true, true_or, or_false, false_or, or_self, if_true, if_false, eq_self, ite_true, ite_false, reduceIte]) rfl
    | succ k ih =>
      intro q hn9 w a b hw hq
      have hq9 : q < 9 := by omega
      refine g_iload C dX4_showing_10 5 rfl ?_
      refine g_bipush C (v := 9) dX4_showing_12 cb_9 ?_
      refine g_icmp_ge C (tgt := 63) dX4_showing_14 (by decide) (fun h14_3 => absurd h14_3 (ge9 hq9)) (fun _ => ?_)
      refine g_aload_n C dX4_showing_17 0 rfl ?_
      refine g_iload C dX4_showing_18 5 rfl ?_
      refine g_iload_n C dX4_showing_20 3 rfl ?_
      refine g_bipush C (v := 10) dX4_showing_21 cb_10 ?_
      refine g_irem C (v := nI (w % 10)) dX4_showing_23 (by decide) (pk_rem (d := 10) (by omega) (by decide) (by decide)) ?_
      refine g_callVi C (c_X4_movesFor l D cI cO ma th u a9 sv z t n dg hn hz q ((by omega)) (nI (w % 10))) gX4_showing_X4_movesFor rfl ⟨rfl, rfl⟩ hd_X4_movesFor ⟨Nat.le_of_ble_eq_true rfl, Nat.le_of_ble_eq_true rfl⟩ [0, 1] rfl (fun _ _ => trivial) rfl (rest := []) rfl (Nat.le_of_ble_eq_true rfl) dX4_showing_24 ⟨Nat.zero_le _, Nat.zero_le _⟩ 0 rfl rfl rfl (pre := []) (post := []) (ws' := (wM ma cI th u a9 sv z t n dg)) rfl rfl ?_
      refine g_istore C (lv' := [(6, .int (yMF u q (nI (w % 10)))), (0, .ref (ma 0)), (1, .int (nI m9)), (2, .int a), (3, .int (nI w)), (4, .int b), (5, .int (nI q))]) dX4_showing_27 (by decide) rfl ?_
      refine g_iload C dX4_showing_29 5 rfl ?_
      refine g_if_eq C (tgt := 44) dX4_showing_31 (by decide) (fun h31_4 => ?_) (fun h31_4 => ?_)
      · refine g_iconst C (v := 0) dX4_showing_44 ci_0 ?_
        refine g_istore C (lv' := [(4, .int 0), (6, .int (yMF u q (nI (w % 10)))), (0, .ref (ma 0)), (1, .int (nI m9)), (2, .int a), (3, .int (nI w)), (5, .int (nI q))]) dX4_showing_45 (by decide) rfl ?_
        refine g_iload_n C dX4_showing_47 4 rfl ?_
        refine g_iload C dX4_showing_48 1 rfl ?_
        refine g_iadd C (v := a + (yMF u q (nI (w % 10)))) dX4_showing_50 rfl ?_
        refine g_istore_n C (lv' := [(2, .int (a + (yMF u q (nI (w % 10))))), (4, .int 0), (6, .int (yMF u q (nI (w % 10)))), (0, .ref (ma 0)), (1, .int (nI m9)), (3, .int (nI w)), (5, .int (nI q))]) dX4_showing_51 rfl (by decide) rfl ?_
        refine g_iload_n C dX4_showing_52 5 rfl ?_
        refine g_bipush C (v := 10) dX4_showing_53 cb_10 ?_
        refine g_idiv C (v := nI (w / 10)) dX4_showing_55 (by decide) (pk_div (d := 10) (by omega) (by decide) (by decide)) ?_
        refine g_istore_n C (lv' := [(3, .int (nI (w / 10))), (2, .int (a + (yMF u q (nI (w % 10))))), (4, .int 0), (6, .int (yMF u q (nI (w % 10)))), (0, .ref (ma 0)), (1, .int (nI m9)), (5, .int (nI q))]) dX4_showing_56 rfl (by decide) rfl ?_
        refine g_iinc C (v := nI (q + 1)) (lv' := [(5, .int (nI (q + 1))), (3, .int (nI (w / 10))), (2, .int (a + (yMF u q (nI (w % 10))))), (4, .int 0), (6, .int (yMF u q (nI (w % 10)))), (0, .ref (ma 0)), (1, .int (nI m9))]) dX4_showing_57 6 rfl (inc_nI _) (by decide) rfl ?_
        refine g_goto C (tgt := 10) dX4_showing_60 (by decide) ?_
        refine g_lv [5, 6, 2, 1, 3, 0] (lv' := [(0, .ref (ma 0)), (1, .int (nI m9)), (2, .int (a + (yMF u q (nI (w % 10))))), (3, .int (nI (w / 10))), (4, .int 0), (5, .int (nI (q + 1)))]) rfl ?_
        exact ih (q + 1) (by omega) _ _ _ (by omega) (by rw [← hq]; simp only [yS, eq_true h31_4, Bool.false_eq_true, not_false_eq_true, not_true_eq_false, and_self, and_true, true_and, and_false, false_and, or_true, true_or, or_false, false_or, or_self, if_true, if_false, eq_self, ite_true, ite_false, reduceIte])
      · refine g_iload C dX4_showing_34 0 rfl ?_
        refine g_iconst C (v := -1) dX4_showing_36 ci_m1 ?_
        refine g_icmp_eq C (tgt := 44) dX4_showing_37 (by decide) (fun h37_5 => ?_) (fun h37_5 => ?_)
        · refine g_iconst C (v := 0) dX4_showing_44 ci_0 ?_
          refine g_istore C (lv' := [(4, .int 0), (6, .int (yMF u q (nI (w % 10)))), (0, .ref (ma 0)), (1, .int (nI m9)), (2, .int a), (3, .int (nI w)), (5, .int (nI q))]) dX4_showing_45 (by decide) rfl ?_
          refine g_iload_n C dX4_showing_47 4 rfl ?_
          refine g_iload C dX4_showing_48 1 rfl ?_
          refine g_iadd C (v := a + (yMF u q (nI (w % 10)))) dX4_showing_50 rfl ?_
          refine g_istore_n C (lv' := [(2, .int (a + (yMF u q (nI (w % 10))))), (4, .int 0), (6, .int (yMF u q (nI (w % 10)))), (0, .ref (ma 0)), (1, .int (nI m9)), (3, .int (nI w)), (5, .int (nI q))]) dX4_showing_51 rfl (by decide) rfl ?_
          refine g_iload_n C dX4_showing_52 5 rfl ?_
          refine g_bipush C (v := 10) dX4_showing_53 cb_10 ?_
          refine g_idiv C (v := nI (w / 10)) dX4_showing_55 (by decide) (pk_div (d := 10) (by omega) (by decide) (by decide)) ?_
          refine g_istore_n C (lv' := [(3, .int (nI (w / 10))), (2, .int (a + (yMF u q (nI (w % 10))))), (4, .int 0), (6, .int (yMF u q (nI (w % 10)))), (0, .ref (ma 0)), (1, .int (nI m9)), (5, .int (nI q))]) dX4_showing_56 rfl (by decide) rfl ?_
          refine g_iinc C (v := nI (q + 1)) (lv' := [(5, .int (nI (q + 1))), (3, .int (nI (w / 10))), (2, .int (a + (yMF u q (nI (w % 10))))), (4, .int 0), (6, .int (yMF u q (nI (w % 10)))), (0, .ref (ma 0)), (1, .int (nI m9))]) dX4_showing_57 6 rfl (inc_nI _) (by decide) rfl ?_
          refine g_goto C (tgt := 10) dX4_showing_60 (by decide) ?_
          refine g_lv [5, 6, 2, 1, 3, 0] (lv' := [(0, .ref (ma 0)), (1, .int (nI m9)), (2, .int (a + (yMF u q (nI (w % 10))))), (3, .int (nI (w / 10))), (4, .int 0), (5, .int (nI (q + 1)))]) rfl ?_
          exact ih (q + 1) (by omega) _ _ _ (by omega) (by rw [← hq]; simp only [yS, h31_4, eq_true h37_5, Bool.false_eq_true, not_false_eq_true, not_true_eq_false, and_self, and_true, true_and, and_false, false_and, or_true, true_or, or_false, false_or, or_self, if_true, if_false, eq_self, ite_true, ite_false, reduceIte])
        · refine g_iconst C (v := 1) dX4_showing_40 ci_1 ?_
          refine g_goto C (tgt := 45) dX4_showing_41 (by decide) ?_
          refine g_istore C (lv' := [(4, .int 1), (6, .int (yMF u q (nI (w % 10)))), (0, .ref (ma 0)), (1, .int (nI m9)), (2, .int a), (3, .int (nI w)), (5, .int (nI q))]) dX4_showing_45 (by decide) rfl ?_
          refine g_iload_n C dX4_showing_47 4 rfl ?_
          refine g_iload C dX4_showing_48 1 rfl ?_
          refine g_iadd C (v := a + (yMF u q (nI (w % 10)))) dX4_showing_50 rfl ?_
          refine g_istore_n C (lv' := [(2, .int (a + (yMF u q (nI (w % 10))))), (4, .int 1), (6, .int (yMF u q (nI (w % 10)))), (0, .ref (ma 0)), (1, .int (nI m9)), (3, .int (nI w)), (5, .int (nI q))]) dX4_showing_51 rfl (by decide) rfl ?_
          refine g_iload_n C dX4_showing_52 5 rfl ?_
          refine g_bipush C (v := 10) dX4_showing_53 cb_10 ?_
          refine g_idiv C (v := nI (w / 10)) dX4_showing_55 (by decide) (pk_div (d := 10) (by omega) (by decide) (by decide)) ?_
          refine g_istore_n C (lv' := [(3, .int (nI (w / 10))), (2, .int (a + (yMF u q (nI (w % 10))))), (4, .int 1), (6, .int (yMF u q (nI (w % 10)))), (0, .ref (ma 0)), (1, .int (nI m9)), (5, .int (nI q))]) dX4_showing_56 rfl (by decide) rfl ?_
          refine g_iinc C (v := nI (q + 1)) (lv' := [(5, .int (nI (q + 1))), (3, .int (nI (w / 10))), (2, .int (a + (yMF u q (nI (w % 10))))), (4, .int 1), (6, .int (yMF u q (nI (w % 10)))), (0, .ref (ma 0)), (1, .int (nI m9))]) dX4_showing_57 6 rfl (inc_nI _) (by decide) rfl ?_
          refine g_goto C (tgt := 10) dX4_showing_60 (by decide) ?_
          refine g_lv [5, 6, 2, 1, 3, 0] (lv' := [(0, .ref (ma 0)), (1, .int (nI m9)), (2, .int (a + (yMF u q (nI (w % 10))))), (3, .int (nI (w / 10))), (4, .int 1), (5, .int (nI (q + 1)))]) rfl ?_
          exact ih (q + 1) (by omega) _ _ _ (by omega) (by rw [← hq]; simp only [yS, h31_4, h37_5, Bool.false_eq_true, not_false_eq_true, not_true_eq_false, and_self, and_true, true_and, and_false, false_and, or_true, true_or, or_false, false_or, or_self, if_true, if_false, eq_self, ite_true, ite_false, reduceIte])
  refine g_iconst C (v := 0) dX4_showing_0 ci_0 ?_
  refine g_istore_n C (lv' := [(2, .int 0), (0, .ref (ma 0)), (1, .int (nI m9))]) dX4_showing_1 rfl (by decide) rfl ?_
  refine g_iload_n C dX4_showing_2 2 rfl ?_
  refine g_istore_n C (lv' := [(3, .int (nI m9)), (2, .int 0), (0, .ref (ma 0)), (1, .int (nI m9))]) dX4_showing_3 rfl (by decide) rfl ?_
  refine g_iconst C (v := 1) dX4_showing_4 ci_1 ?_
  refine g_istore C (lv' := [(4, .int 1), (3, .int (nI m9)), (2, .int 0), (0, .ref (ma 0)), (1, .int (nI m9))]) dX4_showing_5 (by decide) rfl ?_
  refine g_iconst C (v := 0) dX4_showing_7 ci_0 ?_
  refine g_istore C (lv' := [(5, .int 0), (4, .int 1), (3, .int (nI m9)), (2, .int 0), (0, .ref (ma 0)), (1, .int (nI m9))]) dX4_showing_8 (by decide) rfl ?_
  refine g_lv [4, 5, 3, 2, 1, 0] (lv' := [(0, .ref (ma 0)), (1, .int (nI m9)), (2, .int 0), (3, .int (nI m9)), (4, .int 1), (5, .int 0)]) rfl ?_
  exact K 9 0 rfl m9 0 1 hm9 rfl
theorem fw_X4_toShow_const142 : Cond.constant RX4 142 (999999999) ∈ wsX4_toShow := (List.mem_cons_of_mem _ (List.mem_append_left _ (List.mem_append_left _ (List.mem_of_getElem? (i := 0) rfl))))
abbrev rmX4_toShow_1 : Room := { frames := 1, cells := 0, slots := 0, locals := 22 }
set_option maxHeartbeats 1000000 in
set_option maxRecDepth 100000 in
theorem c_X4_toShow_1 (l : Launch) (D : va_G) (cI cO : ClassId) (ma : Nat → Nat) (th : Int32) (u a9 sv : Nat → Int32) (z : Nat) (t : Nat → Int32) (n : Nat) (dg : Int64) (hn : n ≤ 60) (hz : z ≤ 6) (v : Int32) (h : v < 0 ∨ ¬ v ≤ 999999999) : cR (fun _ => True) l yX4_toShow wsX4_toShow rmX4_toShow_1 D vwCl (tyA cI cO) [.ref (ma 0), .int v] (wM ma cI th u a9 sv z t n dg) (some (.int 0)) (wM ma cI 1 u a9 sv z t n dg) := by
  refine cR_of (cc := cX4_toShow) (maxL := 2) (ret := (some .int)) (by decide) rfl (Nat.le_of_ble_eq_true rfl) ?_
  intro p e s m below meth c A C hret hlk hnm hF
  refine g_lv [0, 1] (lv' := [(0, .ref (ma 0)), (1, .int v)]) rfl ?_
  refine g_aload_n C dX4_toShow_0 0 rfl ?_
  refine g_iload_n C dX4_toShow_1 1 rfl ?_
  refine g_iconst C (v := 0) dX4_toShow_2 ci_0 ?_
  refine g_ldc C (v := 999999999) dX4_toShow_3 fw_X4_toShow_const142 ?_
  refine g_callSi C (c_X4_in l D cI cO v 0 999999999) gX4_toShow_X4_in rfl ⟨rfl, rfl⟩ hd_X4_in ⟨Nat.le_of_ble_eq_true rfl, Nat.le_of_ble_eq_true rfl⟩ [0, 1] rfl (fun _ _ => trivial) rfl (rest := [.ref (ma 0)]) rfl (Nat.le_of_ble_eq_true rfl) dX4_toShow_5 ⟨Nat.zero_le _, Nat.zero_le _⟩ (pre := []) (post := (wM ma cI th u a9 sv z t n dg)) (ws' := (wM ma cI th u a9 sv z t n dg)) rfl rfl ?_
  refine g_if_eq C (tgt := 15) dX4_toShow_8 (by decide) (fun _ => ?_) (fun h8_1 => absurd (bf (nin h)) h8_1)
  refine g_iconst C (v := 1) dX4_toShow_15 ci_1 ?_
  refine g_callVi C (c_X4_holds l D cI cO ma th u a9 sv z t n dg hn hz 1) gX4_toShow_X4_holds rfl ⟨rfl, rfl⟩ hd_X4_holds ⟨Nat.le_of_ble_eq_true rfl, Nat.le_of_ble_eq_true rfl⟩ [0, 1] rfl (fun _ _ => trivial) rfl (rest := []) rfl (Nat.le_of_ble_eq_true rfl) dX4_toShow_16 ⟨Nat.zero_le _, Nat.zero_le _⟩ 0 rfl rfl rfl (pre := []) (post := []) (ws' := (wM ma cI 1 u a9 sv z t n dg)) rfl rfl ?_
  refine g_if_eq C (tgt := 30) dX4_toShow_19 (by decide) (fun _ => ?_) (fun h19_2 => absurd (by decide) h19_2)
  refine g_iconst C (v := 0) dX4_toShow_30 ci_0 ?_
  exact g_iret C hret hlk dX4_toShow_31 rfl rfl
theorem hd_X4_showing : yX4_showing.cls = RX4 ∧ yX4_showing.cls ≠ "java/lang/invoke/MethodHandle" ∧ yX4_showing.cls ≠ "java/lang/invoke/VarHandle" ∧ (parseMethodDescriptor yX4_showing.desc).map (fun d => d.parameters.length) = some 1 := by decide +kernel
abbrev rmX4_toShow : Room := { frames := 5, cells := 0, slots := 0, locals := 120 }
set_option maxHeartbeats 1000000 in
set_option maxRecDepth 100000 in
theorem c_X4_toShow (l : Launch) (D : va_G) (cI cO : ClassId) (ma : Nat → Nat) (th : Int32) (u a9 sv : Nat → Int32) (z : Nat) (t : Nat → Int32) (n : Nat) (dg : Int64) (hn : n ≤ 60) (hz : z ≤ 6) (m9 : Nat) (hm9 : m9 ≤ 999999999) : cR (fun _ => True) l yX4_toShow wsX4_toShow rmX4_toShow D vwCl (tyA cI cO) [.ref (ma 0), .int (nI m9)] (wM ma cI th u a9 sv z t n dg) (some (.int (yS u 9 0 m9 0 1))) (wM ma cI 0 u a9 sv z t n dg) := by
  refine cR_of (cc := cX4_toShow) (maxL := 2) (ret := (some .int)) (by decide) rfl (Nat.le_of_ble_eq_true rfl) ?_
  intro p e s m below meth c A C hret hlk hnm hF
  refine g_lv [0, 1] (lv' := [(0, .ref (ma 0)), (1, .int (nI m9))]) rfl ?_
  refine g_aload_n C dX4_toShow_0 0 rfl ?_
  refine g_iload_n C dX4_toShow_1 1 rfl ?_
  refine g_iconst C (v := 0) dX4_toShow_2 ci_0 ?_
  refine g_ldc C (v := 999999999) dX4_toShow_3 fw_X4_toShow_const142 ?_
  refine g_callSi C (c_X4_in l D cI cO (nI m9) 0 999999999) gX4_toShow_X4_in rfl ⟨rfl, rfl⟩ hd_X4_in ⟨Nat.le_of_ble_eq_true rfl, Nat.le_of_ble_eq_true rfl⟩ [0, 1] rfl (fun _ _ => trivial) rfl (rest := [.ref (ma 0)]) rfl (Nat.le_of_ble_eq_true rfl) dX4_toShow_5 ⟨Nat.zero_le _, Nat.zero_le _⟩ (pre := []) (post := (wM ma cI th u a9 sv z t n dg)) (ws' := (wM ma cI th u a9 sv z t n dg)) rfl rfl ?_
  refine g_if_eq C (tgt := 15) dX4_toShow_8 (by decide) (fun h8_1 => absurd h8_1 (bt (inp (nI_pos (by omega)) (leI (b := 999999999) hm9 (by decide))))) (fun _ => ?_)
  refine g_iconst C (v := 0) dX4_toShow_11 ci_0 ?_
  refine g_goto C (tgt := 16) dX4_toShow_12 (by decide) ?_
  refine g_callVi C (c_X4_holds l D cI cO ma th u a9 sv z t n dg hn hz 0) gX4_toShow_X4_holds rfl ⟨rfl, rfl⟩ hd_X4_holds ⟨Nat.le_of_ble_eq_true rfl, Nat.le_of_ble_eq_true rfl⟩ [0, 1] rfl (fun _ _ => trivial) rfl (rest := []) rfl (Nat.le_of_ble_eq_true rfl) dX4_toShow_16 ⟨Nat.zero_le _, Nat.zero_le _⟩ 0 rfl rfl rfl (pre := []) (post := []) (ws' := (wM ma cI 0 u a9 sv z t n dg)) rfl rfl ?_
  refine g_if_eq C (tgt := 30) dX4_toShow_19 (by decide) (fun h19_2 => absurd h19_2 (by decide)) (fun _ => ?_)
  refine g_aload_n C dX4_toShow_22 0 rfl ?_
  refine g_iload_n C dX4_toShow_23 1 rfl ?_
  refine g_callVi C (c_X4_showing l D cI cO ma 0 u a9 sv z t n dg hn hz m9 hm9) gX4_toShow_X4_showing rfl ⟨rfl, rfl⟩ hd_X4_showing ⟨Nat.le_of_ble_eq_true rfl, Nat.le_of_ble_eq_true rfl⟩ [0, 1] rfl (fun _ _ => trivial) rfl (rest := []) rfl (Nat.le_of_ble_eq_true rfl) dX4_toShow_24 ⟨Nat.zero_le _, Nat.zero_le _⟩ 0 rfl rfl rfl (pre := []) (post := []) (ws' := (wM ma cI 0 u a9 sv z t n dg)) rfl rfl ?_
  refine g_goto C (tgt := 31) dX4_toShow_27 (by decide) ?_
  exact g_iret C hret hlk dX4_toShow_31 rfl rfl
theorem fw_X4_cheapest_fld7 : Cond.fieldLink RX4 7 "StuckRodsModel" "s" "[I" ∈ wsX4_cheapest := (List.mem_cons_of_mem _ (List.mem_append_left _ (List.mem_append_left _ (List.mem_of_getElem? (i := 0) rfl))))
theorem fl_X4_cheapest_X4 : ∀ w ∈ wsX40, w ∈ wsX4_cheapest := fun _ h => List.mem_cons_of_mem _ (List.mem_append_right _ h)
abbrev rmX4_cheapest : Room := { frames := 9, cells := 0, slots := 0, locals := 213 }
set_option maxHeartbeats 1000000 in
set_option maxRecDepth 100000 in
theorem c_X4_cheapest (l : Launch) (D : va_G) (cI cO : ClassId) (ma : Nat → Nat) (th : Int32) (u a9 sv : Nat → Int32) (z : Nat) (t : Nat → Int32) (n : Nat) (dg : Int64) (hn : n ≤ 60) (hz : z ≤ 6)  : cR (fun _ => True) l yX4_cheapest wsX4_cheapest rmX4_cheapest D vwCl (tyA cI cO) [.ref (ma 0)] (wM ma cI th u a9 sv z t n dg) (some (.int ((yCp u a9 9).1))) (wM ma cI th u ((yCp u a9 9).2.2) sv z t n dg) := by
  refine cR_of (cc := cX4_cheapest) (maxL := 6) (ret := (some .int)) (by decide) rfl (Nat.le_of_ble_eq_true rfl) ?_
  intro p e s m below meth c A C hret hlk hnm hF
  refine g_lv [0] (lv' := [(0, .ref (ma 0))]) rfl ?_
  have K : ∀ (k q : Nat), k + q = 9 → gG p l e rmX4_cheapest s m ([.ref (ma 0)] : List Value).toArray below meth c D vwCl A s.heap 6 (MQ below (cQ (some (.int ((yCp u a9 9).1))) (cB D vwCl (tyA cI cO) A (wM ma cI th u ((yCp u a9 9).2.2) sv z t n dg)) A) ([.ref (ma 0)] : List Value).toArray s 0 0 A) 0 0 (wM ma cI th u ((yCp u a9 q).2.2) sv z t n dg) 6 [(0, .ref (ma 0)), (1, .int ((yCp u a9 q).1)), (2, .int ((yCp u a9 q).2.1)), (3, .int (nI q))] [] := by
    intro k
    induction k with
    | zero =>
      intro q hn9 
      obtain rfl : q = 9 := by omega
      refine g_iload_n C dX4_cheapest_6 3 rfl ?_
      refine g_bipush C (v := 9) dX4_cheapest_7 cb_9 ?_
      refine g_icmp_ge C (tgt := 91) dX4_cheapest_9 (by decide) (fun _ => ?_) (fun h9_1 => absurd (by decide) h9_1)
      refine g_iload_n C dX4_cheapest_91 1 rfl ?_
      exact g_iret C hret hlk dX4_cheapest_92 rfl rfl
    | succ k ih =>
      intro q hn9 
      have hq9 : q < 9 := by omega
      refine g_iload_n C dX4_cheapest_6 3 rfl ?_
      refine g_bipush C (v := 9) dX4_cheapest_7 cb_9 ?_
      refine g_icmp_ge C (tgt := 91) dX4_cheapest_9 (by decide) (fun h9_2 => absurd h9_2 (ge9 hq9)) (fun _ => ?_)
      refine g_aload_n C dX4_cheapest_12 0 rfl ?_
      refine g_get C (v := .ref (ma 1)) fl_X4_cheapest_X4 0 rfl rfl 1 (by decide) fw_X4_cheapest_fld7 rfl dX4_cheapest_13 ?_
      refine g_iload_n C dX4_cheapest_16 3 rfl ?_
      refine g_iconst C (v := 2) dX4_cheapest_17 ci_2 ?_
      refine g_callSi C (c_X4_of l D cI cO q 2 (6 * q + 3) rfl) gX4_cheapest_X4_of rfl ⟨rfl, rfl⟩ hd_X4_of ⟨Nat.le_of_ble_eq_true rfl, Nat.le_of_ble_eq_true rfl⟩ [0, 1] rfl (fun _ _ => trivial) rfl (rest := [.ref (ma 1)]) rfl (Nat.le_of_ble_eq_true rfl) dX4_cheapest_18 ⟨Nat.zero_le _, Nat.zero_le _⟩ (pre := []) (post := (wM ma cI th u ((yCp u a9 q).2.2) sv z t n dg)) (ws' := (wM ma cI th u ((yCp u a9 q).2.2) sv z t n dg)) rfl rfl ?_
      refine g_iald C (x := u (6 * q + 3)) 1 0 rfl rfl (6 * q + 3) rfl (by omega) (by decide) rfl dX4_cheapest_21 ?_
      refine g_if_ne C (tgt := 29) dX4_cheapest_22 (by decide) (fun h22_3 => ?_) (fun h22_3 => ?_)
      · refine g_aload_n C dX4_cheapest_29 0 rfl ?_
        refine g_iconst C (v := 1) dX4_cheapest_30 ci_1 ?_
        refine g_iload_n C dX4_cheapest_31 3 rfl ?_
        refine g_iconst C (v := 0) dX4_cheapest_32 ci_0 ?_
        refine g_callVi C (c_X4_takes_1 l D cI cO ma th u ((yCp u a9 q).2.2) sv z t n dg hn hz q ((by omega)) 0) gX4_cheapest_X4_takes rfl ⟨rfl, rfl⟩ hd_X4_takes ⟨Nat.le_of_ble_eq_true rfl, Nat.le_of_ble_eq_true rfl⟩ [0, 1] rfl (fun _ _ => trivial) rfl (rest := []) rfl (Nat.le_of_ble_eq_true rfl) dX4_cheapest_33 ⟨Nat.zero_le _, Nat.zero_le _⟩ 0 rfl rfl rfl (pre := []) (post := []) (ws' := (wM ma cI th u u sv z t n dg)) rfl rfl ?_
        refine g_istore C (lv' := [(4, .int (yK1 u q)), (0, .ref (ma 0)), (1, .int ((yCp u a9 q).1)), (2, .int ((yCp u a9 q).2.1)), (3, .int (nI q))]) dX4_cheapest_36 (by decide) rfl ?_
        refine g_iload C dX4_cheapest_38 0 rfl ?_
        refine g_iconst C (v := -1) dX4_cheapest_40 ci_m1 ?_
        refine g_icmp_eq C (tgt := 59) dX4_cheapest_41 (by decide) (fun h41_4 => ?_) (fun h41_4 => ?_)
        · refine g_iconst C (v := 0) dX4_cheapest_59 ci_0 ?_
          refine g_istore C (lv' := [(5, .int 0), (4, .int (yK1 u q)), (0, .ref (ma 0)), (1, .int ((yCp u a9 q).1)), (2, .int ((yCp u a9 q).2.1)), (3, .int (nI q))]) dX4_cheapest_60 (by decide) rfl ?_
          refine g_iload C dX4_cheapest_62 0 rfl ?_
          refine g_if_eq C (tgt := 71) dX4_cheapest_64 (by decide) (fun _ => ?_) (fun h64_5 => absurd (by decide) h64_5)
          refine g_iload_n C dX4_cheapest_71 3 rfl ?_
          refine g_istore_n C (lv' := [(1, .int ((yCp u a9 q).1)), (5, .int 0), (4, .int (yK1 u q)), (0, .ref (ma 0)), (2, .int ((yCp u a9 q).2.1)), (3, .int (nI q))]) dX4_cheapest_72 rfl (by decide) rfl ?_
          refine g_iload C dX4_cheapest_73 1 rfl ?_
          refine g_if_eq C (tgt := 83) dX4_cheapest_75 (by decide) (fun _ => ?_) (fun h75_6 => absurd (by decide) h75_6)
          refine g_iload_n C dX4_cheapest_83 4 rfl ?_
          refine g_istore_n C (lv' := [(2, .int ((yCp u a9 q).2.1)), (1, .int ((yCp u a9 q).1)), (5, .int 0), (4, .int (yK1 u q)), (0, .ref (ma 0)), (3, .int (nI q))]) dX4_cheapest_84 rfl (by decide) rfl ?_
          refine g_iinc C (v := nI (q + 1)) (lv' := [(3, .int (nI (q + 1))), (2, .int ((yCp u a9 q).2.1)), (1, .int ((yCp u a9 q).1)), (5, .int 0), (4, .int (yK1 u q)), (0, .ref (ma 0))]) dX4_cheapest_85 5 rfl (inc_nI _) (by decide) rfl ?_
          refine g_goto C (tgt := 6) dX4_cheapest_88 (by decide) ?_
          refine g_lv [5, 2, 1, 0] (lv' := [(0, .ref (ma 0)), (1, .int ((yCp u a9 q).1)), (2, .int ((yCp u a9 q).2.1)), (3, .int (nI (q + 1)))]) rfl ?_
          have i9 := ih (q + 1) (by omega)
          rw [show yCp u a9 (q + 1) = ((yCp u a9 q).1, (yCp u a9 q).2.1, u) by simp only [yCp, h22_3, eq_true h41_4, Bool.false_eq_true, not_false_eq_true, not_true_eq_false, and_self, and_true, true_and, and_false, false_and, or_true, true_or, or_false, false_or, or_self, if_true, if_false, eq_self, ite_true, ite_false, reduceIte]] at i9
          exact i9
        · refine g_iload_n C dX4_cheapest_44 2 rfl ?_
          refine g_iconst C (v := -1) dX4_cheapest_45 ci_m1 ?_
          refine g_icmp_eq C (tgt := 55) dX4_cheapest_46 (by decide) (fun h46_7 => ?_) (fun h46_7 => ?_)
          · refine g_iconst C (v := 1) dX4_cheapest_55 ci_1 ?_
            refine g_goto C (tgt := 60) dX4_cheapest_56 (by decide) ?_
            refine g_istore C (lv' := [(5, .int 1), (4, .int (yK1 u q)), (0, .ref (ma 0)), (1, .int ((yCp u a9 q).1)), (2, .int ((yCp u a9 q).2.1)), (3, .int (nI q))]) dX4_cheapest_60 (by decide) rfl ?_
            refine g_iload C dX4_cheapest_62 0 rfl ?_
            refine g_if_eq C (tgt := 71) dX4_cheapest_64 (by decide) (fun h64_8 => absurd h64_8 (by decide)) (fun _ => ?_)
            refine g_iload_n C dX4_cheapest_67 5 rfl ?_
            refine g_goto C (tgt := 72) dX4_cheapest_68 (by decide) ?_
            refine g_istore_n C (lv' := [(1, .int (nI q)), (5, .int 1), (4, .int (yK1 u q)), (0, .ref (ma 0)), (2, .int ((yCp u a9 q).2.1)), (3, .int (nI q))]) dX4_cheapest_72 rfl (by decide) rfl ?_
            refine g_iload C dX4_cheapest_73 1 rfl ?_
            refine g_if_eq C (tgt := 83) dX4_cheapest_75 (by decide) (fun h75_9 => absurd h75_9 (by decide)) (fun _ => ?_)
            refine g_iload C dX4_cheapest_78 2 rfl ?_
            refine g_goto C (tgt := 84) dX4_cheapest_80 (by decide) ?_
            refine g_istore_n C (lv' := [(2, .int (yK1 u q)), (1, .int (nI q)), (5, .int 1), (4, .int (yK1 u q)), (0, .ref (ma 0)), (3, .int (nI q))]) dX4_cheapest_84 rfl (by decide) rfl ?_
            refine g_iinc C (v := nI (q + 1)) (lv' := [(3, .int (nI (q + 1))), (2, .int (yK1 u q)), (1, .int (nI q)), (5, .int 1), (4, .int (yK1 u q)), (0, .ref (ma 0))]) dX4_cheapest_85 5 rfl (inc_nI _) (by decide) rfl ?_
            refine g_goto C (tgt := 6) dX4_cheapest_88 (by decide) ?_
            refine g_lv [5, 2, 1, 0] (lv' := [(0, .ref (ma 0)), (1, .int (nI q)), (2, .int (yK1 u q)), (3, .int (nI (q + 1)))]) rfl ?_
            have i9 := ih (q + 1) (by omega)
            rw [show yCp u a9 (q + 1) = (nI q, yK1 u q, u) by simp only [yCp, h22_3, h41_4, eq_true h46_7, Bool.false_eq_true, not_false_eq_true, not_true_eq_false, and_self, and_true, true_and, and_false, false_and, or_true, true_or, or_false, false_or, or_self, if_true, if_false, eq_self, ite_true, ite_false, reduceIte]] at i9
            exact i9
          · refine g_iload C dX4_cheapest_49 0 rfl ?_
            refine g_iload_n C dX4_cheapest_51 3 rfl ?_
            refine g_icmp_ge C (tgt := 59) dX4_cheapest_52 (by decide) (fun h52_10 => ?_) (fun h52_10 => ?_)
            · refine g_iconst C (v := 0) dX4_cheapest_59 ci_0 ?_
              refine g_istore C (lv' := [(5, .int 0), (4, .int (yK1 u q)), (0, .ref (ma 0)), (1, .int ((yCp u a9 q).1)), (2, .int ((yCp u a9 q).2.1)), (3, .int (nI q))]) dX4_cheapest_60 (by decide) rfl ?_
              refine g_iload C dX4_cheapest_62 0 rfl ?_
              refine g_if_eq C (tgt := 71) dX4_cheapest_64 (by decide) (fun _ => ?_) (fun h64_11 => absurd (by decide) h64_11)
              refine g_iload_n C dX4_cheapest_71 3 rfl ?_
              refine g_istore_n C (lv' := [(1, .int ((yCp u a9 q).1)), (5, .int 0), (4, .int (yK1 u q)), (0, .ref (ma 0)), (2, .int ((yCp u a9 q).2.1)), (3, .int (nI q))]) dX4_cheapest_72 rfl (by decide) rfl ?_
              refine g_iload C dX4_cheapest_73 1 rfl ?_
              refine g_if_eq C (tgt := 83) dX4_cheapest_75 (by decide) (fun _ => ?_) (fun h75_12 => absurd (by decide) h75_12)
              refine g_iload_n C dX4_cheapest_83 4 rfl ?_
              refine g_istore_n C (lv' := [(2, .int ((yCp u a9 q).2.1)), (1, .int ((yCp u a9 q).1)), (5, .int 0), (4, .int (yK1 u q)), (0, .ref (ma 0)), (3, .int (nI q))]) dX4_cheapest_84 rfl (by decide) rfl ?_
              refine g_iinc C (v := nI (q + 1)) (lv' := [(3, .int (nI (q + 1))), (2, .int ((yCp u a9 q).2.1)), (1, .int ((yCp u a9 q).1)), (5, .int 0), (4, .int (yK1 u q)), (0, .ref (ma 0))]) dX4_cheapest_85 5 rfl (inc_nI _) (by decide) rfl ?_
              refine g_goto C (tgt := 6) dX4_cheapest_88 (by decide) ?_
              refine g_lv [5, 2, 1, 0] (lv' := [(0, .ref (ma 0)), (1, .int ((yCp u a9 q).1)), (2, .int ((yCp u a9 q).2.1)), (3, .int (nI (q + 1)))]) rfl ?_
              have i9 := ih (q + 1) (by omega)
              rw [show yCp u a9 (q + 1) = ((yCp u a9 q).1, (yCp u a9 q).2.1, u) by simp only [yCp, h22_3, h41_4, h46_7, eq_true h52_10, Bool.false_eq_true, not_false_eq_true, not_true_eq_false, and_self, and_true, true_and, and_false, false_and, or_true, true_or, or_false, false_or, or_self, if_true, if_false, eq_self, ite_true, ite_false, reduceIte]] at i9
              exact i9
            · refine g_iconst C (v := 1) dX4_cheapest_55 ci_1 ?_
              refine g_goto C (tgt := 60) dX4_cheapest_56 (by decide) ?_
              refine g_istore C (lv' := [(5, .int 1), (4, .int (yK1 u q)), (0, .ref (ma 0)), (1, .int ((yCp u a9 q).1)), (2, .int ((yCp u a9 q).2.1)), (3, .int (nI q))]) dX4_cheapest_60 (by decide) rfl ?_
              refine g_iload C dX4_cheapest_62 0 rfl ?_
              refine g_if_eq C (tgt := 71) dX4_cheapest_64 (by decide) (fun h64_13 => absurd h64_13 (by decide)) (fun _ => ?_)
              refine g_iload_n C dX4_cheapest_67 5 rfl ?_
              refine g_goto C (tgt := 72) dX4_cheapest_68 (by decide) ?_
              refine g_istore_n C (lv' := [(1, .int (nI q)), (5, .int 1), (4, .int (yK1 u q)), (0, .ref (ma 0)), (2, .int ((yCp u a9 q).2.1)), (3, .int (nI q))]) dX4_cheapest_72 rfl (by decide) rfl ?_
              refine g_iload C dX4_cheapest_73 1 rfl ?_
              refine g_if_eq C (tgt := 83) dX4_cheapest_75 (by decide) (fun h75_14 => absurd h75_14 (by decide)) (fun _ => ?_)
              refine g_iload C dX4_cheapest_78 2 rfl ?_
              refine g_goto C (tgt := 84) dX4_cheapest_80 (by decide) ?_
              refine g_istore_n C (lv' := [(2, .int (yK1 u q)), (1, .int (nI q)), (5, .int 1), (4, .int (yK1 u q)), (0, .ref (ma 0)), (3, .int (nI q))]) dX4_cheapest_84 rfl (by decide) rfl ?_
              refine g_iinc C (v := nI (q + 1)) (lv' := [(3, .int (nI (q + 1))), (2, .int (yK1 u q)), (1, .int (nI q)), (5, .int 1), (4, .int (yK1 u q)), (0, .ref (ma 0))]) dX4_cheapest_85 5 rfl (inc_nI _) (by decide) rfl ?_
              refine g_goto C (tgt := 6) dX4_cheapest_88 (by decide) ?_
              refine g_lv [5, 2, 1, 0] (lv' := [(0, .ref (ma 0)), (1, .int (nI q)), (2, .int (yK1 u q)), (3, .int (nI (q + 1)))]) rfl ?_
              have i9 := ih (q + 1) (by omega)
              rw [show yCp u a9 (q + 1) = (nI q, yK1 u q, u) by simp only [yCp, h22_3, h41_4, h46_7, h52_10, Bool.false_eq_true, not_false_eq_true, not_true_eq_false, and_self, and_true, true_and, and_false, false_and, or_true, true_or, or_false, false_or, or_self, if_true, if_false, eq_self, ite_true, ite_false, reduceIte]] at i9
              exact i9
      · refine g_iconst C (v := -1) dX4_cheapest_25 ci_m1 ?_
        refine g_goto C (tgt := 36) dX4_cheapest_26 (by decide) ?_
        refine g_istore C (lv' := [(4, .int (-1)), (0, .ref (ma 0)), (1, .int ((yCp u a9 q).1)), (2, .int ((yCp u a9 q).2.1)), (3, .int (nI q))]) dX4_cheapest_36 (by decide) rfl ?_
        refine g_iload C dX4_cheapest_38 0 rfl ?_
        refine g_iconst C (v := -1) dX4_cheapest_40 ci_m1 ?_
        refine g_icmp_eq C (tgt := 59) dX4_cheapest_41 (by decide) (fun _ => ?_) (fun h41_15 => absurd (by decide) h41_15)
        refine g_iconst C (v := 0) dX4_cheapest_59 ci_0 ?_
        refine g_istore C (lv' := [(5, .int 0), (4, .int (-1)), (0, .ref (ma 0)), (1, .int ((yCp u a9 q).1)), (2, .int ((yCp u a9 q).2.1)), (3, .int (nI q))]) dX4_cheapest_60 (by decide) rfl ?_
        refine g_iload C dX4_cheapest_62 0 rfl ?_
        refine g_if_eq C (tgt := 71) dX4_cheapest_64 (by decide) (fun _ => ?_) (fun h64_16 => absurd (by decide) h64_16)
        refine g_iload_n C dX4_cheapest_71 3 rfl ?_
        refine g_istore_n C (lv' := [(1, .int ((yCp u a9 q).1)), (5, .int 0), (4, .int (-1)), (0, .ref (ma 0)), (2, .int ((yCp u a9 q).2.1)), (3, .int (nI q))]) dX4_cheapest_72 rfl (by decide) rfl ?_
        refine g_iload C dX4_cheapest_73 1 rfl ?_
        refine g_if_eq C (tgt := 83) dX4_cheapest_75 (by decide) (fun _ => ?_) (fun h75_17 => absurd (by decide) h75_17)
        refine g_iload_n C dX4_cheapest_83 4 rfl ?_
        refine g_istore_n C (lv' := [(2, .int ((yCp u a9 q).2.1)), (1, .int ((yCp u a9 q).1)), (5, .int 0), (4, .int (-1)), (0, .ref (ma 0)), (3, .int (nI q))]) dX4_cheapest_84 rfl (by decide) rfl ?_
        refine g_iinc C (v := nI (q + 1)) (lv' := [(3, .int (nI (q + 1))), (2, .int ((yCp u a9 q).2.1)), (1, .int ((yCp u a9 q).1)), (5, .int 0), (4, .int (-1)), (0, .ref (ma 0))]) dX4_cheapest_85 5 rfl (inc_nI _) (by decide) rfl ?_
        refine g_goto C (tgt := 6) dX4_cheapest_88 (by decide) ?_
        refine g_lv [5, 2, 1, 0] (lv' := [(0, .ref (ma 0)), (1, .int ((yCp u a9 q).1)), (2, .int ((yCp u a9 q).2.1)), (3, .int (nI (q + 1)))]) rfl ?_
        have i9 := ih (q + 1) (by omega)
        rw [show yCp u a9 (q + 1) = ((yCp u a9 q).1, (yCp u a9 q).2.1, (yCp u a9 q).2.2) by simp only [yCp, eq_true h22_3, Bool.false_eq_true, not_false_eq_true, not_true_eq_false, and_self, and_true, true_and, and_false, false_and, or_true, true_or, or_false, false_or, or_self, if_true, if_false, eq_self, ite_true, ite_false, reduceIte]] at i9
        exact i9
  refine g_iconst C (v := -1) dX4_cheapest_0 ci_m1 ?_
  refine g_istore_n C (lv' := [(1, .int (-1)), (0, .ref (ma 0))]) dX4_cheapest_1 rfl (by decide) rfl ?_
  refine g_iconst C (v := 0) dX4_cheapest_2 ci_0 ?_
  refine g_istore_n C (lv' := [(2, .int 0), (1, .int (-1)), (0, .ref (ma 0))]) dX4_cheapest_3 rfl (by decide) rfl ?_
  refine g_iconst C (v := 0) dX4_cheapest_4 ci_0 ?_
  refine g_istore_n C (lv' := [(3, .int 0), (2, .int 0), (1, .int (-1)), (0, .ref (ma 0))]) dX4_cheapest_5 rfl (by decide) rfl ?_
  refine g_lv [3, 2, 1, 0] (lv' := [(0, .ref (ma 0)), (1, .int (-1)), (2, .int 0), (3, .int 0)]) rfl ?_
  exact K 9 0 rfl
theorem fw_X4_cheapestLoan_fld22 : Cond.fieldLink RX4 22 "StuckRodsModel" "thrown" "I" ∈ wsX4_cheapestLoan := (List.mem_cons_of_mem _ (List.mem_append_left _ (List.mem_append_left _ (List.mem_of_getElem? (i := 0) rfl))))
theorem fl_X4_cheapestLoan_X4 : ∀ w ∈ wsX40, w ∈ wsX4_cheapestLoan := fun _ h => List.mem_cons_of_mem _ (List.mem_append_right _ h)
theorem hd_X4_cheapest : yX4_cheapest.cls = RX4 ∧ yX4_cheapest.cls ≠ "java/lang/invoke/MethodHandle" ∧ yX4_cheapest.cls ≠ "java/lang/invoke/VarHandle" ∧ (parseMethodDescriptor yX4_cheapest.desc).map (fun d => d.parameters.length) = some 0 := by decide +kernel
abbrev rmX4_cheapestLoan : Room := { frames := 10, cells := 0, slots := 0, locals := 238 }
set_option maxHeartbeats 1000000 in
set_option maxRecDepth 100000 in
theorem c_X4_cheapestLoan (l : Launch) (D : va_G) (cI cO : ClassId) (ma : Nat → Nat) (th : Int32) (u a9 sv : Nat → Int32) (z : Nat) (t : Nat → Int32) (n : Nat) (dg : Int64) (hn : n ≤ 60) (hz : z ≤ 6)  : cR (fun _ => True) l yX4_cheapestLoan wsX4_cheapestLoan rmX4_cheapestLoan D vwCl (tyA cI cO) [.ref (ma 0)] (wM ma cI th u a9 sv z t n dg) (some (.int ((yCp u a9 9).1))) (wM ma cI 0 u ((yCp u a9 9).2.2) sv z t n dg) := by
  refine cR_of (cc := cX4_cheapestLoan) (maxL := 1) (ret := (some .int)) (by decide) rfl (Nat.le_of_ble_eq_true rfl) ?_
  intro p e s m below meth c A C hret hlk hnm hF
  refine g_lv [0] (lv' := [(0, .ref (ma 0))]) rfl ?_
  refine g_aload_n C dX4_cheapestLoan_0 0 rfl ?_
  refine g_iconst C (v := 0) dX4_cheapestLoan_1 ci_0 ?_
  refine g_put C (ws' := (wM ma cI 0 u a9 sv z t n dg)) fl_X4_cheapestLoan_X4 tyX4 tyX4_ok nmX4 0 rfl rfl 0 (by decide) fw_X4_cheapestLoan_fld22 rfl (tyX4_ok 0 (by decide)) rfl rfl (Nat.le_of_ble_eq_true rfl) dX4_cheapestLoan_2 rfl ?_
  refine g_aload_n C dX4_cheapestLoan_5 0 rfl ?_
  refine g_callVi C (c_X4_cheapest l D cI cO ma 0 u a9 sv z t n dg hn hz) gX4_cheapestLoan_X4_cheapest rfl ⟨rfl, rfl⟩ hd_X4_cheapest ⟨Nat.le_of_ble_eq_true rfl, Nat.le_of_ble_eq_true rfl⟩ [0, 1] rfl (fun _ _ => trivial) rfl (rest := []) rfl (Nat.le_of_ble_eq_true rfl) dX4_cheapestLoan_6 ⟨Nat.zero_le _, Nat.zero_le _⟩ 0 rfl rfl rfl (pre := []) (post := []) (ws' := (wM ma cI 0 u ((yCp u a9 9).2.2) sv z t n dg)) rfl rfl ?_
  exact g_iret C hret hlk dX4_cheapestLoan_9 rfl rfl
theorem fw_X4_loose_const149 : Cond.constantDouble RX4 149 (4639270566145032192) ∈ wsX4_loose := (List.mem_cons_of_mem _ (List.mem_append_left _ (List.mem_append_left _ (List.mem_of_getElem? (i := 0) rfl))))
abbrev rmX4_loose : Room := { frames := 5, cells := 0, slots := 0, locals := 116 }
set_option maxHeartbeats 1000000 in
set_option maxRecDepth 100000 in
theorem c_X4_loose (l : Launch) (D : va_G) (cI cO : ClassId) (ma : Nat → Nat) (th : Int32) (u a9 sv : Nat → Int32) (z : Nat) (t : Nat → Int32) (n : Nat) (dg : Int64) (hn : n ≤ 60) (hz : z ≤ 6)  : cR (fun _ => True) l yX4_loose wsX4_loose rmX4_loose D vwCl (tyA cI cO) [.ref (ma 0)] (wM ma cI th u a9 sv z t n dg) (some (.double (yLo9 u))) (wM ma cI th u a9 sv z t n dg) := by
  refine cR_of (cc := cX4_loose) (maxL := 3) (ret := (some .double)) (by decide) rfl (Nat.le_of_ble_eq_true rfl) ?_
  intro p e s m below meth c A C hret hlk hnm hF
  refine g_lv [0] (lv' := [(0, .ref (ma 0))]) rfl ?_
  have K : ∀ (k q : Nat), k + q = 9 → gG p l e rmX4_loose s m ([.ref (ma 0)] : List Value).toArray below meth c D vwCl A s.heap 3 (MQ below (cQ (some (.double (yLo9 u))) (cB D vwCl (tyA cI cO) A (wM ma cI th u a9 sv z t n dg)) A) ([.ref (ma 0)] : List Value).toArray s 0 0 A) 0 0 (wM ma cI th u a9 sv z t n dg) 4 [(0, .ref (ma 0)), (1, .int (yLs u q)), (2, .int (nI q))] [] := by
    intro k
    induction k with
    | zero =>
      intro q hn9 
      obtain rfl : q = 9 := by omega
      refine g_iload_n C dX4_loose_4 2 rfl ?_
      refine g_bipush C (v := 9) dX4_loose_5 cb_9 ?_
      refine g_icmp_ge C (tgt := 24) dX4_loose_7 (by decide) (fun _ => ?_) (fun h7_1 => absurd (by decide) h7_1)
      refine g_iload_n C dX4_loose_24 1 rfl ?_
      refine g_i2d C (v := FP.i2d (yLs u 9)) dX4_loose_25 rfl ?_
      refine g_ldc2d C (v := 4639270566145032192) dX4_loose_26 fw_X4_loose_const149 ?_
      refine g_ddiv C (v := FP.ddiv (FP.i2d (yLs u 9)) 4639270566145032192) dX4_loose_29 (yLo9_ok u) rfl ?_
      exact g_dret C hret hlk dX4_loose_30 rfl rfl
    | succ k ih =>
      intro q hn9 
      have hq9 : q < 9 := by omega
      refine g_iload_n C dX4_loose_4 2 rfl ?_
      refine g_bipush C (v := 9) dX4_loose_5 cb_9 ?_
      refine g_icmp_ge C (tgt := 24) dX4_loose_7 (by decide) (fun h7_2 => absurd h7_2 (ge9 hq9)) (fun _ => ?_)
      refine g_iload_n C dX4_loose_10 1 rfl ?_
      refine g_aload_n C dX4_loose_11 0 rfl ?_
      refine g_iload_n C dX4_loose_12 2 rfl ?_
      refine g_callVi C (c_X4_numbers l D cI cO ma th u a9 sv z t n dg hn hz q ((by omega))) gX4_loose_X4_numbers rfl ⟨rfl, rfl⟩ hd_X4_numbers ⟨Nat.le_of_ble_eq_true rfl, Nat.le_of_ble_eq_true rfl⟩ [0, 1] rfl (fun _ _ => trivial) rfl (rest := [.int (yLs u q)]) rfl (Nat.le_of_ble_eq_true rfl) dX4_loose_13 ⟨Nat.zero_le _, Nat.zero_le _⟩ 0 rfl rfl rfl (pre := []) (post := []) (ws' := (wM ma cI th u a9 sv z t n dg)) rfl rfl ?_
      refine g_iadd C (v := (yLs u q) + (yNu u q 16)) dX4_loose_16 rfl ?_
      refine g_istore_n C (lv' := [(1, .int ((yLs u q) + (yNu u q 16))), (0, .ref (ma 0)), (2, .int (nI q))]) dX4_loose_17 rfl (by decide) rfl ?_
      refine g_iinc C (v := nI (q + 1)) (lv' := [(2, .int (nI (q + 1))), (1, .int ((yLs u q) + (yNu u q 16))), (0, .ref (ma 0))]) dX4_loose_18 2 rfl (inc_nI _) (by decide) rfl ?_
      refine g_goto C (tgt := 4) dX4_loose_21 (by decide) ?_
      refine g_lv [2, 1, 0] (lv' := [(0, .ref (ma 0)), (1, .int ((yLs u q) + (yNu u q 16))), (2, .int (nI (q + 1)))]) rfl ?_
      exact ih (q + 1) (by omega)
  refine g_iconst C (v := 0) dX4_loose_0 ci_0 ?_
  refine g_istore_n C (lv' := [(1, .int 0), (0, .ref (ma 0))]) dX4_loose_1 rfl (by decide) rfl ?_
  refine g_iconst C (v := 0) dX4_loose_2 ci_0 ?_
  refine g_istore_n C (lv' := [(2, .int 0), (1, .int 0), (0, .ref (ma 0))]) dX4_loose_3 rfl (by decide) rfl ?_
  refine g_lv [2, 1, 0] (lv' := [(0, .ref (ma 0)), (1, .int 0), (2, .int 0)]) rfl ?_
  exact K 9 0 rfl
theorem fw_X4_looseness_fld22 : Cond.fieldLink RX4 22 "StuckRodsModel" "thrown" "I" ∈ wsX4_looseness := (List.mem_cons_of_mem _ (List.mem_append_left _ (List.mem_append_left _ (List.mem_of_getElem? (i := 0) rfl))))
theorem fl_X4_looseness_X4 : ∀ w ∈ wsX40, w ∈ wsX4_looseness := fun _ h => List.mem_cons_of_mem _ (List.mem_append_right _ h)
theorem hd_X4_loose : yX4_loose.cls = RX4 ∧ yX4_loose.cls ≠ "java/lang/invoke/MethodHandle" ∧ yX4_loose.cls ≠ "java/lang/invoke/VarHandle" ∧ (parseMethodDescriptor yX4_loose.desc).map (fun d => d.parameters.length) = some 0 := by decide +kernel
abbrev rmX4_looseness : Room := { frames := 6, cells := 0, slots := 0, locals := 138 }
set_option maxHeartbeats 1000000 in
set_option maxRecDepth 100000 in
theorem c_X4_looseness (l : Launch) (D : va_G) (cI cO : ClassId) (ma : Nat → Nat) (th : Int32) (u a9 sv : Nat → Int32) (z : Nat) (t : Nat → Int32) (n : Nat) (dg : Int64) (hn : n ≤ 60) (hz : z ≤ 6)  : cR (fun _ => True) l yX4_looseness wsX4_looseness rmX4_looseness D vwCl (tyA cI cO) [.ref (ma 0)] (wM ma cI th u a9 sv z t n dg) (some (.double (yLo9 u))) (wM ma cI 0 u a9 sv z t n dg) := by
  refine cR_of (cc := cX4_looseness) (maxL := 1) (ret := (some .double)) (by decide) rfl (Nat.le_of_ble_eq_true rfl) ?_
  intro p e s m below meth c A C hret hlk hnm hF
  refine g_lv [0] (lv' := [(0, .ref (ma 0))]) rfl ?_
  refine g_aload_n C dX4_looseness_0 0 rfl ?_
  refine g_iconst C (v := 0) dX4_looseness_1 ci_0 ?_
  refine g_put C (ws' := (wM ma cI 0 u a9 sv z t n dg)) fl_X4_looseness_X4 tyX4 tyX4_ok nmX4 0 rfl rfl 0 (by decide) fw_X4_looseness_fld22 rfl (tyX4_ok 0 (by decide)) rfl rfl (Nat.le_of_ble_eq_true rfl) dX4_looseness_2 rfl ?_
  refine g_aload_n C dX4_looseness_5 0 rfl ?_
  refine g_callVd C (c_X4_loose l D cI cO ma 0 u a9 sv z t n dg hn hz) gX4_looseness_X4_loose rfl ⟨rfl, rfl⟩ hd_X4_loose ⟨Nat.le_of_ble_eq_true rfl, Nat.le_of_ble_eq_true rfl⟩ [0, 1] rfl (fun _ _ => trivial) rfl (rest := []) rfl (Nat.le_of_ble_eq_true rfl) dX4_looseness_6 ⟨Nat.zero_le _, Nat.zero_le _⟩ 0 rfl rfl rfl (pre := []) (post := []) (ws' := (wM ma cI 0 u a9 sv z t n dg)) rfl rfl ?_
  exact g_dret C hret hlk dX4_looseness_9 rfl rfl
theorem fw_X4_bitsOf_const159 : Cond.constantLong RX4 159 (4503599627370496) ∈ wsX4_bitsOf := (List.mem_cons_of_mem _ (List.mem_of_getElem? (i := 2) rfl))
theorem fw_X4_bitsOf_const161 : Cond.constantDouble RX4 161 (4841369599423283200) ∈ wsX4_bitsOf := (List.mem_cons_of_mem _ (List.mem_of_getElem? (i := 3) rfl))
theorem fw_X4_bitsOf_const157 : Cond.constantDouble RX4 157 (4611686018427387904) ∈ wsX4_bitsOf := (List.mem_cons_of_mem _ (List.mem_of_getElem? (i := 1) rfl))
theorem fw_X4_bitsOf_const155 : Cond.constantLong RX4 155 (1023) ∈ wsX4_bitsOf := (List.mem_cons_of_mem _ (List.mem_of_getElem? (i := 0) rfl))
abbrev rmX4_bitsOf : Room := { frames := 0, cells := 0, slots := 0, locals := 0 }
set_option maxHeartbeats 1000000 in
set_option maxRecDepth 100000 in
theorem c_X4_bitsOf (l : Launch) (D : va_G) (cI cO : ClassId) (v : UInt64) (k9 : Nat) (h00 : ¬ Op.cmpValue (FP.dcmp v FP.dconst0) CmpOp.l = 0) (hk9 : yBok k9 v 1023) : cR (fun _ => True) l yX4_bitsOf wsX4_bitsOf rmX4_bitsOf D vwCl (tyA cI cO) [.double v] ([] : va_W) (some (.long (yBf k9 v 1023))) ([] : va_W) := by
  refine cR_of (cc := cX4_bitsOf) (maxL := 6) (ret := (some .long)) (by decide) rfl (Nat.le_of_ble_eq_true rfl) ?_
  intro p e s m below meth c A C hret hlk hnm hF
  refine g_lv [0] (lv' := [(0, .double v)]) rfl ?_
  have K : ∀ (k : Nat) (s9 : UInt64) (e9 : Int64), yBok k s9 e9 → yBf k s9 e9 = yBf k9 v 1023 → gG p l e rmX4_bitsOf s m ([.double v] : List Value).toArray below meth c D vwCl A s.heap 6 (MQ below (cQ (some (.long (yBf k9 v 1023))) (cB D vwCl (tyA cI cO) A ([] : va_W)) A) ([.double v] : List Value).toArray s 0 0 A) 0 0 ([] : va_W) 15 [(0, .double v), (2, .long e9), (4, .double s9)] [] := by
    intro k
    induction k with
    | zero =>
      intro s9 e9 h0
      exact h0.elim
    | succ k ih =>
      intro s9 e9 h0 hq
      unfold yBok at h0
      refine g_dload C dX4_bitsOf_15 2 rfl ?_
      refine g_dconst1 C dX4_bitsOf_17 ?_
      refine g_dcmp C (v := Op.cmpValue (FP.dcmp s9 FP.dconst1) CmpOp.g) dX4_bitsOf_18 rfl ?_
      refine g_if_ge C (tgt := 37) dX4_bitsOf_19 (by decide) (fun h19_1 => ?_) (fun h19_1 => ?_)
      · simp only [eq_true h19_1, Bool.false_eq_true, not_false_eq_true, not_true_eq_false, and_self, and_true, true_and, and_false, false_and, or_true, true_or, or_false, false_or, or_self, if_true, if_false, eq_self, ite_true, ite_false, reduceIte] at h0
        refine g_lload_n C dX4_bitsOf_37 1 rfl ?_
        refine g_ldc2 C (v := 4503599627370496) dX4_bitsOf_38 fw_X4_bitsOf_const159 ?_
        refine g_lmul C (v := e9 * 4503599627370496) dX4_bitsOf_41 rfl ?_
        refine g_dload C dX4_bitsOf_42 2 rfl ?_
        refine g_dconst1 C dX4_bitsOf_44 ?_
        refine g_dsub C (v := FP.dsub s9 FP.dconst1) dX4_bitsOf_45 h0.1 rfl ?_
        refine g_ldc2d C (v := 4841369599423283200) dX4_bitsOf_46 fw_X4_bitsOf_const161 ?_
        refine g_dmul C (v := FP.dmul (FP.dsub s9 FP.dconst1) 4841369599423283200) dX4_bitsOf_49 h0.2 rfl ?_
        refine g_d2l C (v := FP.d2l (FP.dmul (FP.dsub s9 FP.dconst1) 4841369599423283200)) dX4_bitsOf_50 rfl ?_
        refine g_ladd C (v := (e9 * 4503599627370496) + (FP.d2l (FP.dmul (FP.dsub s9 FP.dconst1) 4841369599423283200))) dX4_bitsOf_51 rfl ?_
        exact g_lret C hret hlk dX4_bitsOf_52 (by rw [← hq]; simp only [yBf, eq_true h19_1, Bool.false_eq_true, not_false_eq_true, not_true_eq_false, and_self, and_true, true_and, and_false, false_and, or_true, true_or, or_false, false_or, or_self, if_true, if_false, eq_self, ite_true, ite_false, reduceIte]) rfl
      · simp only [h19_1, Bool.false_eq_true, not_false_eq_true, not_true_eq_false, and_self, and_true, true_and, and_false, false_and, or_true, true_or, or_false, false_or, or_self, if_true, if_false, eq_self, ite_true, ite_false, reduceIte] at h0
        refine g_dload C dX4_bitsOf_22 2 rfl ?_
        refine g_ldc2d C (v := 4611686018427387904) dX4_bitsOf_24 fw_X4_bitsOf_const157 ?_
        refine g_dmul C (v := FP.dmul s9 4611686018427387904) dX4_bitsOf_27 h0.1 rfl ?_
        refine g_dstore C (lv' := [(4, .double (FP.dmul s9 4611686018427387904)), (0, .double v), (2, .long e9)]) dX4_bitsOf_28 (by decide) rfl ?_
        refine g_lload_n C dX4_bitsOf_30 2 rfl ?_
        refine g_lconst C (v := 1) dX4_bitsOf_31 rfl ?_
        refine g_lsub C (v := e9 - 1) dX4_bitsOf_32 rfl ?_
        refine g_lstore_n C (lv' := [(2, .long (e9 - 1)), (4, .double (FP.dmul s9 4611686018427387904)), (0, .double v)]) dX4_bitsOf_33 rfl (by decide) rfl ?_
        refine g_goto C (tgt := 15) dX4_bitsOf_34 (by decide) ?_
        refine g_lv [2, 0, 1] (lv' := [(0, .double v), (2, .long (e9 - 1)), (4, .double (FP.dmul s9 4611686018427387904))]) rfl ?_
        exact ih _ _ h0.2 (by rw [← hq]; simp only [yBf, h19_1, Bool.false_eq_true, not_false_eq_true, not_true_eq_false, and_self, and_true, true_and, and_false, false_and, or_true, true_or, or_false, false_or, or_self, if_true, if_false, eq_self, ite_true, ite_false, reduceIte])
  refine g_dload_n C dX4_bitsOf_0 0 rfl ?_
  refine g_dconst0 C dX4_bitsOf_1 ?_
  refine g_dcmp C (v := Op.cmpValue (FP.dcmp v FP.dconst0) CmpOp.l) dX4_bitsOf_2 rfl ?_
  refine g_if_ne C (tgt := 8) dX4_bitsOf_3 (by decide) (fun _ => ?_) (fun h3_2 => absurd h3_2 h00)
  refine g_ldc2 C (v := 1023) dX4_bitsOf_8 fw_X4_bitsOf_const155 ?_
  refine g_lstore_n C (lv' := [(2, .long 1023), (0, .double v)]) dX4_bitsOf_11 rfl (by decide) rfl ?_
  refine g_dload_n C dX4_bitsOf_12 1 rfl ?_
  refine g_dstore C (lv' := [(4, .double v), (2, .long 1023), (0, .double v)]) dX4_bitsOf_13 (by decide) rfl ?_
  refine g_lv [2, 1, 0] (lv' := [(0, .double v), (2, .long 1023), (4, .double v)]) rfl ?_
  exact K k9 _ _ hk9 rfl
theorem fw_X4_digestOne_const163 : Cond.constantLong RX4 163 (31) ∈ wsX4_digestOne := (List.mem_cons_of_mem _ (List.mem_append_left _ (List.mem_of_getElem? (i := 0) rfl)))
theorem fw_X4_digestOne_fld165 : Cond.fieldLink RX4 165 "StuckRodsModel" "digested" "J" ∈ wsX4_digestOne := (List.mem_cons_of_mem _ (List.mem_append_left _ (List.mem_of_getElem? (i := 1) rfl)))
theorem fl_X4_digestOne_X4 : ∀ w ∈ wsX40, w ∈ wsX4_digestOne := fun _ h => List.mem_cons_of_mem _ (List.mem_append_right _ h)
abbrev rmX4_digestOne : Room := { frames := 0, cells := 0, slots := 0, locals := 0 }
set_option maxHeartbeats 1000000 in
set_option maxRecDepth 100000 in
theorem c_X4_digestOne (l : Launch) (D : va_G) (cI cO : ClassId) (ma : Nat → Nat) (th : Int32) (u a9 sv : Nat → Int32) (z : Nat) (t : Nat → Int32) (n : Nat) (dg : Int64) (hn : n ≤ 60) (hz : z ≤ 6) (v : Int64) : cR (fun _ => True) l yX4_digestOne wsX4_digestOne rmX4_digestOne D vwCl (tyA cI cO) [.ref (ma 0), .long v] (wM ma cI th u a9 sv z t n dg) none (wM ma cI th u a9 sv z t n (31 * dg + v)) := by
  refine cR_of (cc := cX4_digestOne) (maxL := 3) (ret := none) (by decide) rfl (Nat.le_of_ble_eq_true rfl) ?_
  intro p e s m below meth c A C hret hlk hnm hF
  refine g_lv [0, 1] (lv' := [(0, .ref (ma 0)), (1, .long v)]) rfl ?_
  refine g_aload_n C dX4_digestOne_0 0 rfl ?_
  refine g_ldc2 C (v := 31) dX4_digestOne_1 fw_X4_digestOne_const163 ?_
  refine g_aload_n C dX4_digestOne_4 0 rfl ?_
  refine g_get C (v := .long dg) fl_X4_digestOne_X4 0 rfl rfl 7 (by decide) fw_X4_digestOne_fld165 rfl dX4_digestOne_5 ?_
  refine g_lmul C (v := 31 * dg) dX4_digestOne_8 rfl ?_
  refine g_lload_n C dX4_digestOne_9 1 rfl ?_
  refine g_ladd C (v := (31 * dg) + v) dX4_digestOne_10 rfl ?_
  refine g_put C (ws' := (wM ma cI th u a9 sv z t n ((31 * dg) + v))) fl_X4_digestOne_X4 tyX4 tyX4_ok nmX4 0 rfl rfl 7 (by decide) fw_X4_digestOne_fld165 rfl (tyX4_ok 7 (by decide)) rfl rfl (Nat.le_of_ble_eq_true rfl) dX4_digestOne_11 rfl ?_
  exact g_vret C hret hlk dX4_digestOne_14 rfl
theorem hd_X4_digestOne : yX4_digestOne.cls = RX4 ∧ yX4_digestOne.cls ≠ "java/lang/invoke/MethodHandle" ∧ yX4_digestOne.cls ≠ "java/lang/invoke/VarHandle" ∧ (parseMethodDescriptor yX4_digestOne.desc).map (fun d => d.parameters.length) = some 1 := by decide +kernel
abbrev rmX4_digestRod : Room := { frames := 9, cells := 0, slots := 0, locals := 213 }
set_option maxHeartbeats 1000000 in
set_option maxRecDepth 100000 in
theorem c_X4_digestRod (l : Launch) (D : va_G) (cI cO : ClassId) (ma : Nat → Nat) (th : Int32) (u a9 sv : Nat → Int32) (z : Nat) (t : Nat → Int32) (n : Nat) (dg : Int64) (hn : n ≤ 60) (hz : z ≤ 6) (r : Nat) (hr : r < 9) : cR (fun _ => True) l yX4_digestRod wsX4_digestRod rmX4_digestRod D vwCl (tyA cI cO) [.ref (ma 0), .int (nI r)] (wM ma cI th u a9 sv z t n dg) none (wM ma cI th u u sv z t n (yRC u r dg)) := by
  refine cR_of (cc := cX4_digestRod) (maxL := 3) (ret := none) (by decide) rfl (Nat.le_of_ble_eq_true rfl) ?_
  intro p e s m below meth c A C hret hlk hnm hF
  refine g_lv [0, 1] (lv' := [(0, .ref (ma 0)), (1, .int (nI r))]) rfl ?_
  have K : ∀ (k q : Nat), k + q = 8 → gG p l e rmX4_digestRod s m ([.ref (ma 0), .int (nI r)] : List Value).toArray below meth c D vwCl A s.heap 3 (MQ below (cQ none (cB D vwCl (tyA cI cO) A (wM ma cI th u u sv z t n (yRC u r dg))) A) ([.ref (ma 0), .int (nI r)] : List Value).toArray s 0 0 A) 0 0 (wM ma cI th u a9 sv z t n (dK dg (fun w => (yRd u r w).toInt64) q)) 2 [(0, .ref (ma 0)), (1, .int (nI r)), (2, .int (nI q))] [] := by
    intro k
    induction k with
    | zero =>
      intro q hn9 
      obtain rfl : q = 8 := by omega
      refine g_iload_n C dX4_digestRod_2 2 rfl ?_
      refine g_bipush C (v := 8) dX4_digestRod_3 cb_8 ?_
      refine g_icmp_ge C (tgt := 25) dX4_digestRod_5 (by decide) (fun _ => ?_) (fun h5_1 => absurd (by decide) h5_1)
      refine g_aload_n C dX4_digestRod_25 0 rfl ?_
      refine g_aload_n C dX4_digestRod_26 0 rfl ?_
      refine g_iload_n C dX4_digestRod_27 1 rfl ?_
      refine g_iconst C (v := 0) dX4_digestRod_28 ci_0 ?_
      refine g_callVi C (c_X4_movesFor l D cI cO ma th u a9 sv z t n (dK dg (fun w => (yRd u r w).toInt64) 8) hn hz r ((by omega)) 0) gX4_digestRod_X4_movesFor rfl ⟨rfl, rfl⟩ hd_X4_movesFor ⟨Nat.le_of_ble_eq_true rfl, Nat.le_of_ble_eq_true rfl⟩ [0, 1] rfl (fun _ _ => trivial) rfl (rest := [.ref (ma 0)]) rfl (Nat.le_of_ble_eq_true rfl) dX4_digestRod_29 ⟨Nat.zero_le _, Nat.zero_le _⟩ 0 rfl rfl rfl (pre := []) (post := []) (ws' := (wM ma cI th u a9 sv z t n (dK dg (fun w => (yRd u r w).toInt64) 8))) rfl rfl ?_
      refine g_i2l C (v := (yMF u r 0).toInt64) dX4_digestRod_32 rfl ?_
      refine g_callVv C (c_X4_digestOne l D cI cO ma th u a9 sv z t n (dK dg (fun w => (yRd u r w).toInt64) 8) hn hz ((yMF u r 0).toInt64)) gX4_digestRod_X4_digestOne rfl ⟨rfl, rfl⟩ hd_X4_digestOne ⟨Nat.le_of_ble_eq_true rfl, Nat.le_of_ble_eq_true rfl⟩ [0, 1] rfl (fun _ _ => trivial) rfl (rest := []) rfl (Nat.le_of_ble_eq_true rfl) dX4_digestRod_33 ⟨Nat.zero_le _, Nat.zero_le _⟩ 0 rfl rfl rfl (pre := []) (post := []) (ws' := (wM ma cI th u a9 sv z t n (31 * (dK dg (fun w => (yRd u r w).toInt64) 8) + ((yMF u r 0).toInt64)))) rfl rfl ?_
      refine g_aload_n C dX4_digestRod_36 0 rfl ?_
      refine g_aload_n C dX4_digestRod_37 0 rfl ?_
      refine g_iload_n C dX4_digestRod_38 1 rfl ?_
      refine g_bipush C (v := 7) dX4_digestRod_39 cb_7 ?_
      refine g_callVi C (c_X4_movesFor l D cI cO ma th u a9 sv z t n (31 * (dK dg (fun w => (yRd u r w).toInt64) 8) + ((yMF u r 0).toInt64)) hn hz r ((by omega)) 7) gX4_digestRod_X4_movesFor rfl ⟨rfl, rfl⟩ hd_X4_movesFor ⟨Nat.le_of_ble_eq_true rfl, Nat.le_of_ble_eq_true rfl⟩ [0, 1] rfl (fun _ _ => trivial) rfl (rest := [.ref (ma 0)]) rfl (Nat.le_of_ble_eq_true rfl) dX4_digestRod_41 ⟨Nat.zero_le _, Nat.zero_le _⟩ 0 rfl rfl rfl (pre := []) (post := []) (ws' := (wM ma cI th u a9 sv z t n (31 * (dK dg (fun w => (yRd u r w).toInt64) 8) + ((yMF u r 0).toInt64)))) rfl rfl ?_
      refine g_i2l C (v := (yMF u r 7).toInt64) dX4_digestRod_44 rfl ?_
      refine g_callVv C (c_X4_digestOne l D cI cO ma th u a9 sv z t n (31 * (dK dg (fun w => (yRd u r w).toInt64) 8) + ((yMF u r 0).toInt64)) hn hz ((yMF u r 7).toInt64)) gX4_digestRod_X4_digestOne rfl ⟨rfl, rfl⟩ hd_X4_digestOne ⟨Nat.le_of_ble_eq_true rfl, Nat.le_of_ble_eq_true rfl⟩ [0, 1] rfl (fun _ _ => trivial) rfl (rest := []) rfl (Nat.le_of_ble_eq_true rfl) dX4_digestRod_45 ⟨Nat.zero_le _, Nat.zero_le _⟩ 0 rfl rfl rfl (pre := []) (post := []) (ws' := (wM ma cI th u a9 sv z t n (31 * (31 * (dK dg (fun w => (yRd u r w).toInt64) 8) + ((yMF u r 0).toInt64)) + ((yMF u r 7).toInt64)))) rfl rfl ?_
      refine g_aload_n C dX4_digestRod_48 0 rfl ?_
      refine g_aload_n C dX4_digestRod_49 0 rfl ?_
      refine g_iload_n C dX4_digestRod_50 1 rfl ?_
      refine g_bipush C (v := 15) dX4_digestRod_51 cb_15 ?_
      refine g_callVi C (c_X4_movesFor l D cI cO ma th u a9 sv z t n (31 * (31 * (dK dg (fun w => (yRd u r w).toInt64) 8) + ((yMF u r 0).toInt64)) + ((yMF u r 7).toInt64)) hn hz r ((by omega)) 15) gX4_digestRod_X4_movesFor rfl ⟨rfl, rfl⟩ hd_X4_movesFor ⟨Nat.le_of_ble_eq_true rfl, Nat.le_of_ble_eq_true rfl⟩ [0, 1] rfl (fun _ _ => trivial) rfl (rest := [.ref (ma 0)]) rfl (Nat.le_of_ble_eq_true rfl) dX4_digestRod_53 ⟨Nat.zero_le _, Nat.zero_le _⟩ 0 rfl rfl rfl (pre := []) (post := []) (ws' := (wM ma cI th u a9 sv z t n (31 * (31 * (dK dg (fun w => (yRd u r w).toInt64) 8) + ((yMF u r 0).toInt64)) + ((yMF u r 7).toInt64)))) rfl rfl ?_
      refine g_i2l C (v := (yMF u r 15).toInt64) dX4_digestRod_56 rfl ?_
      refine g_callVv C (c_X4_digestOne l D cI cO ma th u a9 sv z t n (31 * (31 * (dK dg (fun w => (yRd u r w).toInt64) 8) + ((yMF u r 0).toInt64)) + ((yMF u r 7).toInt64)) hn hz ((yMF u r 15).toInt64)) gX4_digestRod_X4_digestOne rfl ⟨rfl, rfl⟩ hd_X4_digestOne ⟨Nat.le_of_ble_eq_true rfl, Nat.le_of_ble_eq_true rfl⟩ [0, 1] rfl (fun _ _ => trivial) rfl (rest := []) rfl (Nat.le_of_ble_eq_true rfl) dX4_digestRod_57 ⟨Nat.zero_le _, Nat.zero_le _⟩ 0 rfl rfl rfl (pre := []) (post := []) (ws' := (wM ma cI th u a9 sv z t n (31 * (31 * (31 * (dK dg (fun w => (yRd u r w).toInt64) 8) + ((yMF u r 0).toInt64)) + ((yMF u r 7).toInt64)) + ((yMF u r 15).toInt64)))) rfl rfl ?_
      refine g_aload_n C dX4_digestRod_60 0 rfl ?_
      refine g_aload_n C dX4_digestRod_61 0 rfl ?_
      refine g_iconst C (v := 0) dX4_digestRod_62 ci_0 ?_
      refine g_iload_n C dX4_digestRod_63 1 rfl ?_
      refine g_iconst C (v := 1) dX4_digestRod_64 ci_1 ?_
      refine g_callVi C (c_X4_takes_0 l D cI cO ma th u a9 sv z t n (31 * (31 * (31 * (dK dg (fun w => (yRd u r w).toInt64) 8) + ((yMF u r 0).toInt64)) + ((yMF u r 7).toInt64)) + ((yMF u r 15).toInt64)) hn hz r ((by omega)) 1) gX4_digestRod_X4_takes rfl ⟨rfl, rfl⟩ hd_X4_takes ⟨Nat.le_of_ble_eq_true rfl, Nat.le_of_ble_eq_true rfl⟩ [0, 1] rfl (fun _ _ => trivial) rfl (rest := [.ref (ma 0)]) rfl (Nat.le_of_ble_eq_true rfl) dX4_digestRod_65 ⟨Nat.zero_le _, Nat.zero_le _⟩ 0 rfl rfl rfl (pre := []) (post := []) (ws' := (wM ma cI th u u sv z t n (31 * (31 * (31 * (dK dg (fun w => (yRd u r w).toInt64) 8) + ((yMF u r 0).toInt64)) + ((yMF u r 7).toInt64)) + ((yMF u r 15).toInt64)))) rfl rfl ?_
      refine g_i2l C (v := (yK0 u r 1).toInt64) dX4_digestRod_68 rfl ?_
      refine g_callVv C (c_X4_digestOne l D cI cO ma th u u sv z t n (31 * (31 * (31 * (dK dg (fun w => (yRd u r w).toInt64) 8) + ((yMF u r 0).toInt64)) + ((yMF u r 7).toInt64)) + ((yMF u r 15).toInt64)) hn hz ((yK0 u r 1).toInt64)) gX4_digestRod_X4_digestOne rfl ⟨rfl, rfl⟩ hd_X4_digestOne ⟨Nat.le_of_ble_eq_true rfl, Nat.le_of_ble_eq_true rfl⟩ [0, 1] rfl (fun _ _ => trivial) rfl (rest := []) rfl (Nat.le_of_ble_eq_true rfl) dX4_digestRod_69 ⟨Nat.zero_le _, Nat.zero_le _⟩ 0 rfl rfl rfl (pre := []) (post := []) (ws' := (wM ma cI th u u sv z t n (31 * (31 * (31 * (31 * (dK dg (fun w => (yRd u r w).toInt64) 8) + ((yMF u r 0).toInt64)) + ((yMF u r 7).toInt64)) + ((yMF u r 15).toInt64)) + ((yK0 u r 1).toInt64)))) rfl rfl ?_
      refine g_aload_n C dX4_digestRod_72 0 rfl ?_
      refine g_aload_n C dX4_digestRod_73 0 rfl ?_
      refine g_iconst C (v := 0) dX4_digestRod_74 ci_0 ?_
      refine g_iload_n C dX4_digestRod_75 1 rfl ?_
      refine g_bipush C (v := 6) dX4_digestRod_76 cb_6 ?_
      refine g_callVi C (c_X4_takes_0 l D cI cO ma th u u sv z t n (31 * (31 * (31 * (31 * (dK dg (fun w => (yRd u r w).toInt64) 8) + ((yMF u r 0).toInt64)) + ((yMF u r 7).toInt64)) + ((yMF u r 15).toInt64)) + ((yK0 u r 1).toInt64)) hn hz r ((by omega)) 6) gX4_digestRod_X4_takes rfl ⟨rfl, rfl⟩ hd_X4_takes ⟨Nat.le_of_ble_eq_true rfl, Nat.le_of_ble_eq_true rfl⟩ [0, 1] rfl (fun _ _ => trivial) rfl (rest := [.ref (ma 0)]) rfl (Nat.le_of_ble_eq_true rfl) dX4_digestRod_78 ⟨Nat.zero_le _, Nat.zero_le _⟩ 0 rfl rfl rfl (pre := []) (post := []) (ws' := (wM ma cI th u u sv z t n (31 * (31 * (31 * (31 * (dK dg (fun w => (yRd u r w).toInt64) 8) + ((yMF u r 0).toInt64)) + ((yMF u r 7).toInt64)) + ((yMF u r 15).toInt64)) + ((yK0 u r 1).toInt64)))) rfl rfl ?_
      refine g_i2l C (v := (yK0 u r 6).toInt64) dX4_digestRod_81 rfl ?_
      refine g_callVv C (c_X4_digestOne l D cI cO ma th u u sv z t n (31 * (31 * (31 * (31 * (dK dg (fun w => (yRd u r w).toInt64) 8) + ((yMF u r 0).toInt64)) + ((yMF u r 7).toInt64)) + ((yMF u r 15).toInt64)) + ((yK0 u r 1).toInt64)) hn hz ((yK0 u r 6).toInt64)) gX4_digestRod_X4_digestOne rfl ⟨rfl, rfl⟩ hd_X4_digestOne ⟨Nat.le_of_ble_eq_true rfl, Nat.le_of_ble_eq_true rfl⟩ [0, 1] rfl (fun _ _ => trivial) rfl (rest := []) rfl (Nat.le_of_ble_eq_true rfl) dX4_digestRod_82 ⟨Nat.zero_le _, Nat.zero_le _⟩ 0 rfl rfl rfl (pre := []) (post := []) (ws' := (wM ma cI th u u sv z t n (31 * (31 * (31 * (31 * (31 * (dK dg (fun w => (yRd u r w).toInt64) 8) + ((yMF u r 0).toInt64)) + ((yMF u r 7).toInt64)) + ((yMF u r 15).toInt64)) + ((yK0 u r 1).toInt64)) + ((yK0 u r 6).toInt64)))) rfl rfl ?_
      refine g_aload_n C dX4_digestRod_85 0 rfl ?_
      refine g_aload_n C dX4_digestRod_86 0 rfl ?_
      refine g_iconst C (v := 0) dX4_digestRod_87 ci_0 ?_
      refine g_iload_n C dX4_digestRod_88 1 rfl ?_
      refine g_iconst C (v := -1) dX4_digestRod_89 ci_m1 ?_
      refine g_callVi C (c_X4_takes_0 l D cI cO ma th u u sv z t n (31 * (31 * (31 * (31 * (31 * (dK dg (fun w => (yRd u r w).toInt64) 8) + ((yMF u r 0).toInt64)) + ((yMF u r 7).toInt64)) + ((yMF u r 15).toInt64)) + ((yK0 u r 1).toInt64)) + ((yK0 u r 6).toInt64)) hn hz r ((by omega)) (-1)) gX4_digestRod_X4_takes rfl ⟨rfl, rfl⟩ hd_X4_takes ⟨Nat.le_of_ble_eq_true rfl, Nat.le_of_ble_eq_true rfl⟩ [0, 1] rfl (fun _ _ => trivial) rfl (rest := [.ref (ma 0)]) rfl (Nat.le_of_ble_eq_true rfl) dX4_digestRod_90 ⟨Nat.zero_le _, Nat.zero_le _⟩ 0 rfl rfl rfl (pre := []) (post := []) (ws' := (wM ma cI th u u sv z t n (31 * (31 * (31 * (31 * (31 * (dK dg (fun w => (yRd u r w).toInt64) 8) + ((yMF u r 0).toInt64)) + ((yMF u r 7).toInt64)) + ((yMF u r 15).toInt64)) + ((yK0 u r 1).toInt64)) + ((yK0 u r 6).toInt64)))) rfl rfl ?_
      refine g_i2l C (v := (yK0 u r (-1)).toInt64) dX4_digestRod_93 rfl ?_
      refine g_callVv C (c_X4_digestOne l D cI cO ma th u u sv z t n (31 * (31 * (31 * (31 * (31 * (dK dg (fun w => (yRd u r w).toInt64) 8) + ((yMF u r 0).toInt64)) + ((yMF u r 7).toInt64)) + ((yMF u r 15).toInt64)) + ((yK0 u r 1).toInt64)) + ((yK0 u r 6).toInt64)) hn hz ((yK0 u r (-1)).toInt64)) gX4_digestRod_X4_digestOne rfl ⟨rfl, rfl⟩ hd_X4_digestOne ⟨Nat.le_of_ble_eq_true rfl, Nat.le_of_ble_eq_true rfl⟩ [0, 1] rfl (fun _ _ => trivial) rfl (rest := []) rfl (Nat.le_of_ble_eq_true rfl) dX4_digestRod_94 ⟨Nat.zero_le _, Nat.zero_le _⟩ 0 rfl rfl rfl (pre := []) (post := []) (ws' := (wM ma cI th u u sv z t n (31 * (31 * (31 * (31 * (31 * (31 * (dK dg (fun w => (yRd u r w).toInt64) 8) + ((yMF u r 0).toInt64)) + ((yMF u r 7).toInt64)) + ((yMF u r 15).toInt64)) + ((yK0 u r 1).toInt64)) + ((yK0 u r 6).toInt64)) + ((yK0 u r (-1)).toInt64)))) rfl rfl ?_
      refine g_aload_n C dX4_digestRod_97 0 rfl ?_
      refine g_aload_n C dX4_digestRod_98 0 rfl ?_
      refine g_iconst C (v := 0) dX4_digestRod_99 ci_0 ?_
      refine g_iload_n C dX4_digestRod_100 1 rfl ?_
      refine g_bipush C (v := -6) dX4_digestRod_101 cb_m6 ?_
      refine g_callVi C (c_X4_takes_0 l D cI cO ma th u u sv z t n (31 * (31 * (31 * (31 * (31 * (31 * (dK dg (fun w => (yRd u r w).toInt64) 8) + ((yMF u r 0).toInt64)) + ((yMF u r 7).toInt64)) + ((yMF u r 15).toInt64)) + ((yK0 u r 1).toInt64)) + ((yK0 u r 6).toInt64)) + ((yK0 u r (-1)).toInt64)) hn hz r ((by omega)) (-6)) gX4_digestRod_X4_takes rfl ⟨rfl, rfl⟩ hd_X4_takes ⟨Nat.le_of_ble_eq_true rfl, Nat.le_of_ble_eq_true rfl⟩ [0, 1] rfl (fun _ _ => trivial) rfl (rest := [.ref (ma 0)]) rfl (Nat.le_of_ble_eq_true rfl) dX4_digestRod_103 ⟨Nat.zero_le _, Nat.zero_le _⟩ 0 rfl rfl rfl (pre := []) (post := []) (ws' := (wM ma cI th u u sv z t n (31 * (31 * (31 * (31 * (31 * (31 * (dK dg (fun w => (yRd u r w).toInt64) 8) + ((yMF u r 0).toInt64)) + ((yMF u r 7).toInt64)) + ((yMF u r 15).toInt64)) + ((yK0 u r 1).toInt64)) + ((yK0 u r 6).toInt64)) + ((yK0 u r (-1)).toInt64)))) rfl rfl ?_
      refine g_i2l C (v := (yK0 u r (-6)).toInt64) dX4_digestRod_106 rfl ?_
      refine g_callVv C (c_X4_digestOne l D cI cO ma th u u sv z t n (31 * (31 * (31 * (31 * (31 * (31 * (dK dg (fun w => (yRd u r w).toInt64) 8) + ((yMF u r 0).toInt64)) + ((yMF u r 7).toInt64)) + ((yMF u r 15).toInt64)) + ((yK0 u r 1).toInt64)) + ((yK0 u r 6).toInt64)) + ((yK0 u r (-1)).toInt64)) hn hz ((yK0 u r (-6)).toInt64)) gX4_digestRod_X4_digestOne rfl ⟨rfl, rfl⟩ hd_X4_digestOne ⟨Nat.le_of_ble_eq_true rfl, Nat.le_of_ble_eq_true rfl⟩ [0, 1] rfl (fun _ _ => trivial) rfl (rest := []) rfl (Nat.le_of_ble_eq_true rfl) dX4_digestRod_107 ⟨Nat.zero_le _, Nat.zero_le _⟩ 0 rfl rfl rfl (pre := []) (post := []) (ws' := (wM ma cI th u u sv z t n (31 * (31 * (31 * (31 * (31 * (31 * (31 * (dK dg (fun w => (yRd u r w).toInt64) 8) + ((yMF u r 0).toInt64)) + ((yMF u r 7).toInt64)) + ((yMF u r 15).toInt64)) + ((yK0 u r 1).toInt64)) + ((yK0 u r 6).toInt64)) + ((yK0 u r (-1)).toInt64)) + ((yK0 u r (-6)).toInt64)))) rfl rfl ?_
      exact g_vret C hret hlk dX4_digestRod_110 rfl
    | succ k ih =>
      intro q hn9 
      have hq9 : q < 8 := by omega
      refine g_iload_n C dX4_digestRod_2 2 rfl ?_
      refine g_bipush C (v := 8) dX4_digestRod_3 cb_8 ?_
      refine g_icmp_ge C (tgt := 25) dX4_digestRod_5 (by decide) (fun h5_2 => absurd h5_2 (ge8 hq9)) (fun _ => ?_)
      refine g_aload_n C dX4_digestRod_8 0 rfl ?_
      refine g_aload_n C dX4_digestRod_9 0 rfl ?_
      refine g_iload_n C dX4_digestRod_10 1 rfl ?_
      refine g_iload_n C dX4_digestRod_11 2 rfl ?_
      refine g_callVi C (c_X4_told l D cI cO ma th u a9 sv z t n (dK dg (fun w => (yRd u r w).toInt64) q) hn hz r ((by omega)) q ((by omega))) gX4_digestRod_X4_told rfl ⟨rfl, rfl⟩ hd_X4_told ⟨Nat.le_of_ble_eq_true rfl, Nat.le_of_ble_eq_true rfl⟩ [0, 1] rfl (fun _ _ => trivial) rfl (rest := [.ref (ma 0)]) rfl (Nat.le_of_ble_eq_true rfl) dX4_digestRod_12 ⟨Nat.zero_le _, Nat.zero_le _⟩ 0 rfl rfl rfl (pre := []) (post := []) (ws' := (wM ma cI th u a9 sv z t n (dK dg (fun w => (yRd u r w).toInt64) q))) rfl rfl ?_
      refine g_i2l C (v := (yRd u r q).toInt64) dX4_digestRod_15 rfl ?_
      refine g_callVv C (c_X4_digestOne l D cI cO ma th u a9 sv z t n (dK dg (fun w => (yRd u r w).toInt64) q) hn hz ((yRd u r q).toInt64)) gX4_digestRod_X4_digestOne rfl ⟨rfl, rfl⟩ hd_X4_digestOne ⟨Nat.le_of_ble_eq_true rfl, Nat.le_of_ble_eq_true rfl⟩ [0, 1] rfl (fun _ _ => trivial) rfl (rest := []) rfl (Nat.le_of_ble_eq_true rfl) dX4_digestRod_16 ⟨Nat.zero_le _, Nat.zero_le _⟩ 0 rfl rfl rfl (pre := []) (post := []) (ws' := (wM ma cI th u a9 sv z t n (31 * (dK dg (fun w => (yRd u r w).toInt64) q) + ((yRd u r q).toInt64)))) rfl rfl ?_
      refine g_iinc C (v := nI (q + 1)) (lv' := [(2, .int (nI (q + 1))), (0, .ref (ma 0)), (1, .int (nI r))]) dX4_digestRod_19 2 rfl (inc_nI _) (by decide) rfl ?_
      refine g_goto C (tgt := 2) dX4_digestRod_22 (by decide) ?_
      refine g_lv [1, 2, 0] (lv' := [(0, .ref (ma 0)), (1, .int (nI r)), (2, .int (nI (q + 1)))]) rfl ?_
      exact ih (q + 1) (by omega)
  refine g_iconst C (v := 0) dX4_digestRod_0 ci_0 ?_
  refine g_istore_n C (lv' := [(2, .int 0), (0, .ref (ma 0)), (1, .int (nI r))]) dX4_digestRod_1 rfl (by decide) rfl ?_
  refine g_lv [1, 2, 0] (lv' := [(0, .ref (ma 0)), (1, .int (nI r)), (2, .int 0)]) rfl ?_
  exact K 8 0 rfl
theorem fw_X4_digest_fld109 : Cond.fieldLink RX4 109 "StuckRodsModel" "length" "I" ∈ wsX4_digest := (List.mem_cons_of_mem _ (List.mem_append_left _ (List.mem_append_left _ (List.mem_of_getElem? (i := 4) rfl))))
theorem fl_X4_digest_X4 : ∀ w ∈ wsX40, w ∈ wsX4_digest := fun _ h => List.mem_cons_of_mem _ (List.mem_append_right _ h)
theorem fw_X4_digest_fld165 : Cond.fieldLink RX4 165 "StuckRodsModel" "digested" "J" ∈ wsX4_digest := (List.mem_cons_of_mem _ (List.mem_append_left _ (List.mem_append_left _ (List.mem_of_getElem? (i := 2) rfl))))
theorem fw_X4_digest_fld19 : Cond.fieldLink RX4 19 "StuckRodsModel" "text" "[I" ∈ wsX4_digest := (List.mem_cons_of_mem _ (List.mem_append_left _ (List.mem_append_left _ (List.mem_of_getElem? (i := 5) rfl))))
theorem fw_X4_digest_const179 : Cond.constant RX4 179 (123456789) ∈ wsX4_digest := (List.mem_cons_of_mem _ (List.mem_append_left _ (List.mem_append_left _ (List.mem_of_getElem? (i := 3) rfl))))
theorem hd_X4_bitsOf : yX4_bitsOf.cls ≠ "java/lang/invoke/MethodHandle" ∧ yX4_bitsOf.cls ≠ "java/lang/invoke/VarHandle" ∧ (parseMethodDescriptor yX4_bitsOf.desc).map (fun d => d.parameters.length) = some 1 := by decide +kernel
theorem hd_X4_digestRod : yX4_digestRod.cls = RX4 ∧ yX4_digestRod.cls ≠ "java/lang/invoke/MethodHandle" ∧ yX4_digestRod.cls ≠ "java/lang/invoke/VarHandle" ∧ (parseMethodDescriptor yX4_digestRod.desc).map (fun d => d.parameters.length) = some 1 := by decide +kernel
theorem fw_X4_digest_fld22 : Cond.fieldLink RX4 22 "StuckRodsModel" "thrown" "I" ∈ wsX4_digest := (List.mem_cons_of_mem _ (List.mem_append_left _ (List.mem_append_left _ (List.mem_of_getElem? (i := 0) rfl))))
theorem fw_X4_digest_const173 : Cond.constantLong RX4 173 (3299) ∈ wsX4_digest := (List.mem_cons_of_mem _ (List.mem_append_left _ (List.mem_append_left _ (List.mem_of_getElem? (i := 1) rfl))))
abbrev rmX4_digest : Room := { frames := 10, cells := 0, slots := 0, locals := 238 }
set_option maxHeartbeats 1000000 in
set_option maxRecDepth 100000 in
theorem c_X4_digest (l : Launch) (D : va_G) (cI cO : ClassId) (ma : Nat → Nat) (th : Int32) (u a9 sv : Nat → Int32) (z : Nat) (t : Nat → Int32) (n : Nat) (dg : Int64) (hn : n ≤ 60) (hz : z ≤ 6) (k9 : Nat) (h00 : ¬ Op.cmpValue (FP.dcmp (yLo9 u) FP.dconst0) CmpOp.l = 0) (hk9 : yBok k9 (yLo9 u) 1023) : cR (fun _ => True) l yX4_digest wsX4_digest rmX4_digest D vwCl (tyA cI cO) [.ref (ma 0)] (wM ma cI th u a9 sv z t n dg) (some (.long (yDg t u z n k9))) (wM ma cI 0 u u sv z t n (yDg t u z n k9)) := by
  refine cR_of (cc := cX4_digest) (maxL := 2) (ret := (some .long)) (by decide) rfl (Nat.le_of_ble_eq_true rfl) ?_
  intro p e s m below meth c A C hret hlk hnm hF
  refine g_lv [0] (lv' := [(0, .ref (ma 0))]) rfl ?_
  have K4 : ∀ (k q : Nat), k + q = n → gG p l e rmX4_digest s m ([.ref (ma 0)] : List Value).toArray below meth c D vwCl A s.heap 2 (MQ below (cQ (some (.long (yDg t u z n k9))) (cB D vwCl (tyA cI cO) A (wM ma cI 0 u u sv z t n (yDg t u z n k9))) A) ([.ref (ma 0)] : List Value).toArray s 0 0 A) 0 0 (wM ma cI 0 u u sv z t n (dK (yH8 u z n k9) (fun i => (t i).toInt64) q)) 115 [(0, .ref (ma 0)), (1, .int (nI q))] [] := by
    intro k
    induction k with
    | zero =>
      intro q hn9 
      obtain rfl : n = q := by omega
      refine g_iload_n C dX4_digest_115 1 rfl ?_
      refine g_aload_n C dX4_digest_116 0 rfl ?_
      refine g_get C (v := .int (nI n)) fl_X4_digest_X4 0 rfl rfl 6 (by decide) fw_X4_digest_fld109 rfl dX4_digest_117 ?_
      refine g_icmp_ge C (tgt := 140) dX4_digest_120 (by decide) (fun _ => ?_) (fun h120_1 => absurd (leI (by omega) (by omega)) h120_1)
      refine g_aload_n C dX4_digest_140 0 rfl ?_
      refine g_get C (v := .long (dK (yH8 u z n k9) (fun i => (t i).toInt64) n)) fl_X4_digest_X4 0 rfl rfl 7 (by decide) fw_X4_digest_fld165 rfl dX4_digest_141 ?_
      exact g_lret C hret hlk dX4_digest_144 rfl rfl
    | succ k ih =>
      intro q hn9 
      have hq9 : q < n := by omega
      refine g_iload_n C dX4_digest_115 1 rfl ?_
      refine g_aload_n C dX4_digest_116 0 rfl ?_
      refine g_get C (v := .int (nI n)) fl_X4_digest_X4 0 rfl rfl 6 (by decide) fw_X4_digest_fld109 rfl dX4_digest_117 ?_
      refine g_icmp_ge C (tgt := 140) dX4_digest_120 (by decide) (fun h120_2 => absurd h120_2 (nleI (by omega) (by omega))) (fun _ => ?_)
      refine g_aload_n C dX4_digest_123 0 rfl ?_
      refine g_aload_n C dX4_digest_124 0 rfl ?_
      refine g_get C (v := .ref (ma 4)) fl_X4_digest_X4 0 rfl rfl 5 (by decide) fw_X4_digest_fld19 rfl dX4_digest_125 ?_
      refine g_iload_n C dX4_digest_128 1 rfl ?_
      refine g_iald C (x := t q) 4 0 rfl rfl q rfl (by omega) (by decide) rfl dX4_digest_129 ?_
      refine g_i2l C (v := (t q).toInt64) dX4_digest_130 rfl ?_
      refine g_callVv C (c_X4_digestOne l D cI cO ma 0 u u sv z t n (dK (yH8 u z n k9) (fun i => (t i).toInt64) q) hn hz ((t q).toInt64)) gX4_digest_X4_digestOne rfl ⟨rfl, rfl⟩ hd_X4_digestOne ⟨Nat.le_of_ble_eq_true rfl, Nat.le_of_ble_eq_true rfl⟩ [0, 1] rfl (fun _ _ => trivial) rfl (rest := []) rfl (Nat.le_of_ble_eq_true rfl) dX4_digest_131 ⟨Nat.zero_le _, Nat.zero_le _⟩ 0 rfl rfl rfl (pre := []) (post := []) (ws' := (wM ma cI 0 u u sv z t n (31 * (dK (yH8 u z n k9) (fun i => (t i).toInt64) q) + ((t q).toInt64)))) rfl rfl ?_
      refine g_iinc C (v := nI (q + 1)) (lv' := [(1, .int (nI (q + 1))), (0, .ref (ma 0))]) dX4_digest_134 1 rfl (inc_nI _) (by decide) rfl ?_
      refine g_goto C (tgt := 115) dX4_digest_137 (by decide) ?_
      refine g_lv [1, 0] (lv' := [(0, .ref (ma 0)), (1, .int (nI (q + 1)))]) rfl ?_
      exact ih (q + 1) (by omega)
  have K3 : ∀ (k q : Nat), k + q = 9 → ∀ a1 : Nat → Int32, (q = 9 → u = a1) → gG p l e rmX4_digest s m ([.ref (ma 0)] : List Value).toArray below meth c D vwCl A s.heap 2 (MQ below (cQ (some (.long (yDg t u z n k9))) (cB D vwCl (tyA cI cO) A (wM ma cI 0 u u sv z t n (yDg t u z n k9))) A) ([.ref (ma 0)] : List Value).toArray s 0 0 A) 0 0 (wM ma cI 0 u a1 sv z t n (dL (yRC u) (yH3 u z) q)) 46 [(0, .ref (ma 0)), (1, .int (nI q))] [] := by
    intro k
    induction k with
    | zero =>
      intro q hn9 a1 ha
      obtain rfl : q = 9 := by omega
      obtain rfl : u = a1 := ha rfl
      refine g_iload_n C dX4_digest_46 1 rfl ?_
      refine g_bipush C (v := 9) dX4_digest_47 cb_9 ?_
      refine g_icmp_ge C (tgt := 63) dX4_digest_49 (by decide) (fun _ => ?_) (fun h49_3 => absurd (by decide) h49_3)
      refine g_aload_n C dX4_digest_63 0 rfl ?_
      refine g_aload_n C dX4_digest_64 0 rfl ?_
      refine g_iconst C (v := 0) dX4_digest_65 ci_0 ?_
      refine g_callVi C (c_X4_showing l D cI cO ma 0 u u sv z t n (dL (yRC u) (yH3 u z) 9) hn hz 0 ((by decide))) gX4_digest_X4_showing rfl ⟨rfl, rfl⟩ hd_X4_showing ⟨Nat.le_of_ble_eq_true rfl, Nat.le_of_ble_eq_true rfl⟩ [0, 1] rfl (fun _ _ => trivial) rfl (rest := [.ref (ma 0)]) rfl (Nat.le_of_ble_eq_true rfl) dX4_digest_66 ⟨Nat.zero_le _, Nat.zero_le _⟩ 0 rfl rfl rfl (pre := []) (post := []) (ws' := (wM ma cI 0 u u sv z t n (dL (yRC u) (yH3 u z) 9))) rfl rfl ?_
      refine g_i2l C (v := (yS u 9 0 0 0 1).toInt64) dX4_digest_69 rfl ?_
      refine g_callVv C (c_X4_digestOne l D cI cO ma 0 u u sv z t n (dL (yRC u) (yH3 u z) 9) hn hz ((yS u 9 0 0 0 1).toInt64)) gX4_digest_X4_digestOne rfl ⟨rfl, rfl⟩ hd_X4_digestOne ⟨Nat.le_of_ble_eq_true rfl, Nat.le_of_ble_eq_true rfl⟩ [0, 1] rfl (fun _ _ => trivial) rfl (rest := []) rfl (Nat.le_of_ble_eq_true rfl) dX4_digest_70 ⟨Nat.zero_le _, Nat.zero_le _⟩ 0 rfl rfl rfl (pre := []) (post := []) (ws' := (wM ma cI 0 u u sv z t n (31 * (dL (yRC u) (yH3 u z) 9) + ((yS u 9 0 0 0 1).toInt64)))) rfl rfl ?_
      refine g_aload_n C dX4_digest_73 0 rfl ?_
      refine g_aload_n C dX4_digest_74 0 rfl ?_
      refine g_ldc C (v := 123456789) dX4_digest_75 fw_X4_digest_const179 ?_
      refine g_callVi C (c_X4_showing l D cI cO ma 0 u u sv z t n (31 * (dL (yRC u) (yH3 u z) 9) + ((yS u 9 0 0 0 1).toInt64)) hn hz 123456789 ((by decide))) gX4_digest_X4_showing rfl ⟨rfl, rfl⟩ hd_X4_showing ⟨Nat.le_of_ble_eq_true rfl, Nat.le_of_ble_eq_true rfl⟩ [0, 1] rfl (fun _ _ => trivial) rfl (rest := [.ref (ma 0)]) rfl (Nat.le_of_ble_eq_true rfl) dX4_digest_77 ⟨Nat.zero_le _, Nat.zero_le _⟩ 0 rfl rfl rfl (pre := []) (post := []) (ws' := (wM ma cI 0 u u sv z t n (31 * (dL (yRC u) (yH3 u z) 9) + ((yS u 9 0 0 0 1).toInt64)))) rfl rfl ?_
      refine g_i2l C (v := (yS u 9 0 123456789 0 1).toInt64) dX4_digest_80 rfl ?_
      refine g_callVv C (c_X4_digestOne l D cI cO ma 0 u u sv z t n (31 * (dL (yRC u) (yH3 u z) 9) + ((yS u 9 0 0 0 1).toInt64)) hn hz ((yS u 9 0 123456789 0 1).toInt64)) gX4_digest_X4_digestOne rfl ⟨rfl, rfl⟩ hd_X4_digestOne ⟨Nat.le_of_ble_eq_true rfl, Nat.le_of_ble_eq_true rfl⟩ [0, 1] rfl (fun _ _ => trivial) rfl (rest := []) rfl (Nat.le_of_ble_eq_true rfl) dX4_digest_81 ⟨Nat.zero_le _, Nat.zero_le _⟩ 0 rfl rfl rfl (pre := []) (post := []) (ws' := (wM ma cI 0 u u sv z t n (31 * (31 * (dL (yRC u) (yH3 u z) 9) + ((yS u 9 0 0 0 1).toInt64)) + ((yS u 9 0 123456789 0 1).toInt64)))) rfl rfl ?_
      refine g_aload_n C dX4_digest_84 0 rfl ?_
      refine g_aload_n C dX4_digest_85 0 rfl ?_
      refine g_callVi C (c_X4_cheapest l D cI cO ma 0 u u sv z t n (31 * (31 * (dL (yRC u) (yH3 u z) 9) + ((yS u 9 0 0 0 1).toInt64)) + ((yS u 9 0 123456789 0 1).toInt64)) hn hz) gX4_digest_X4_cheapest rfl ⟨rfl, rfl⟩ hd_X4_cheapest ⟨Nat.le_of_ble_eq_true rfl, Nat.le_of_ble_eq_true rfl⟩ [0, 1] rfl (fun _ _ => trivial) rfl (rest := [.ref (ma 0)]) rfl (Nat.le_of_ble_eq_true rfl) dX4_digest_86 ⟨Nat.zero_le _, Nat.zero_le _⟩ 0 rfl rfl rfl (pre := []) (post := []) (ws' := (wM ma cI 0 u ((yCp u u 9).2.2) sv z t n (31 * (31 * (dL (yRC u) (yH3 u z) 9) + ((yS u 9 0 0 0 1).toInt64)) + ((yS u 9 0 123456789 0 1).toInt64)))) rfl rfl ?_
      refine g_i2l C (v := ((yCp u u 9).1).toInt64) dX4_digest_89 rfl ?_
      refine g_callVv C (c_X4_digestOne l D cI cO ma 0 u ((yCp u u 9).2.2) sv z t n (31 * (31 * (dL (yRC u) (yH3 u z) 9) + ((yS u 9 0 0 0 1).toInt64)) + ((yS u 9 0 123456789 0 1).toInt64)) hn hz (((yCp u u 9).1).toInt64)) gX4_digest_X4_digestOne rfl ⟨rfl, rfl⟩ hd_X4_digestOne ⟨Nat.le_of_ble_eq_true rfl, Nat.le_of_ble_eq_true rfl⟩ [0, 1] rfl (fun _ _ => trivial) rfl (rest := []) rfl (Nat.le_of_ble_eq_true rfl) dX4_digest_90 ⟨Nat.zero_le _, Nat.zero_le _⟩ 0 rfl rfl rfl (pre := []) (post := []) (ws' := (wM ma cI 0 u ((yCp u u 9).2.2) sv z t n (31 * (31 * (31 * (dL (yRC u) (yH3 u z) 9) + ((yS u 9 0 0 0 1).toInt64)) + ((yS u 9 0 123456789 0 1).toInt64)) + (((yCp u u 9).1).toInt64)))) rfl rfl ?_
      refine g_aload_n C dX4_digest_93 0 rfl ?_
      refine g_aload_n C dX4_digest_94 0 rfl ?_
      refine g_callVd C (c_X4_loose l D cI cO ma 0 u ((yCp u u 9).2.2) sv z t n (31 * (31 * (31 * (dL (yRC u) (yH3 u z) 9) + ((yS u 9 0 0 0 1).toInt64)) + ((yS u 9 0 123456789 0 1).toInt64)) + (((yCp u u 9).1).toInt64)) hn hz) gX4_digest_X4_loose rfl ⟨rfl, rfl⟩ hd_X4_loose ⟨Nat.le_of_ble_eq_true rfl, Nat.le_of_ble_eq_true rfl⟩ [0, 1] rfl (fun _ _ => trivial) rfl (rest := [.ref (ma 0)]) rfl (Nat.le_of_ble_eq_true rfl) dX4_digest_95 ⟨Nat.zero_le _, Nat.zero_le _⟩ 0 rfl rfl rfl (pre := []) (post := []) (ws' := (wM ma cI 0 u ((yCp u u 9).2.2) sv z t n (31 * (31 * (31 * (dL (yRC u) (yH3 u z) 9) + ((yS u 9 0 0 0 1).toInt64)) + ((yS u 9 0 123456789 0 1).toInt64)) + (((yCp u u 9).1).toInt64)))) rfl rfl ?_
      refine g_callSl C (c_X4_bitsOf l D cI cO (yLo9 u) k9 h00 hk9) gX4_digest_X4_bitsOf rfl ⟨rfl, rfl⟩ hd_X4_bitsOf ⟨Nat.le_of_ble_eq_true rfl, Nat.le_of_ble_eq_true rfl⟩ [0, 1] rfl (fun _ _ => trivial) rfl (rest := [.ref (ma 0)]) rfl (Nat.le_of_ble_eq_true rfl) dX4_digest_98 ⟨Nat.zero_le _, Nat.zero_le _⟩ (pre := []) (post := (wM ma cI 0 u ((yCp u u 9).2.2) sv z t n (31 * (31 * (31 * (dL (yRC u) (yH3 u z) 9) + ((yS u 9 0 0 0 1).toInt64)) + ((yS u 9 0 123456789 0 1).toInt64)) + (((yCp u u 9).1).toInt64)))) (ws' := (wM ma cI 0 u ((yCp u u 9).2.2) sv z t n (31 * (31 * (31 * (dL (yRC u) (yH3 u z) 9) + ((yS u 9 0 0 0 1).toInt64)) + ((yS u 9 0 123456789 0 1).toInt64)) + (((yCp u u 9).1).toInt64)))) rfl rfl ?_
      refine g_callVv C (c_X4_digestOne l D cI cO ma 0 u ((yCp u u 9).2.2) sv z t n (31 * (31 * (31 * (dL (yRC u) (yH3 u z) 9) + ((yS u 9 0 0 0 1).toInt64)) + ((yS u 9 0 123456789 0 1).toInt64)) + (((yCp u u 9).1).toInt64)) hn hz (yBf k9 (yLo9 u) 1023)) gX4_digest_X4_digestOne rfl ⟨rfl, rfl⟩ hd_X4_digestOne ⟨Nat.le_of_ble_eq_true rfl, Nat.le_of_ble_eq_true rfl⟩ [0, 1] rfl (fun _ _ => trivial) rfl (rest := []) rfl (Nat.le_of_ble_eq_true rfl) dX4_digest_101 ⟨Nat.zero_le _, Nat.zero_le _⟩ 0 rfl rfl rfl (pre := []) (post := []) (ws' := (wM ma cI 0 u ((yCp u u 9).2.2) sv z t n (31 * (31 * (31 * (31 * (dL (yRC u) (yH3 u z) 9) + ((yS u 9 0 0 0 1).toInt64)) + ((yS u 9 0 123456789 0 1).toInt64)) + (((yCp u u 9).1).toInt64)) + (yBf k9 (yLo9 u) 1023)))) rfl rfl ?_
      refine g_aload_n C dX4_digest_104 0 rfl ?_
      refine g_aload_n C dX4_digest_105 0 rfl ?_
      refine g_get C (v := .int (nI n)) fl_X4_digest_X4 0 rfl rfl 6 (by decide) fw_X4_digest_fld109 rfl dX4_digest_106 ?_
      refine g_i2l C (v := (nI n).toInt64) dX4_digest_109 rfl ?_
      refine g_callVv C (c_X4_digestOne l D cI cO ma 0 u ((yCp u u 9).2.2) sv z t n (31 * (31 * (31 * (31 * (dL (yRC u) (yH3 u z) 9) + ((yS u 9 0 0 0 1).toInt64)) + ((yS u 9 0 123456789 0 1).toInt64)) + (((yCp u u 9).1).toInt64)) + (yBf k9 (yLo9 u) 1023)) hn hz ((nI n).toInt64)) gX4_digest_X4_digestOne rfl ⟨rfl, rfl⟩ hd_X4_digestOne ⟨Nat.le_of_ble_eq_true rfl, Nat.le_of_ble_eq_true rfl⟩ [0, 1] rfl (fun _ _ => trivial) rfl (rest := []) rfl (Nat.le_of_ble_eq_true rfl) dX4_digest_110 ⟨Nat.zero_le _, Nat.zero_le _⟩ 0 rfl rfl rfl (pre := []) (post := []) (ws' := (wM ma cI 0 u ((yCp u u 9).2.2) sv z t n (31 * (31 * (31 * (31 * (31 * (dL (yRC u) (yH3 u z) 9) + ((yS u 9 0 0 0 1).toInt64)) + ((yS u 9 0 123456789 0 1).toInt64)) + (((yCp u u 9).1).toInt64)) + (yBf k9 (yLo9 u) 1023)) + ((nI n).toInt64)))) rfl rfl ?_
      refine g_iconst C (v := 0) dX4_digest_113 ci_0 ?_
      refine g_istore_n C (lv' := [(1, .int 0), (0, .ref (ma 0))]) dX4_digest_114 rfl (by decide) rfl ?_
      refine g_lv [1, 0] (lv' := [(0, .ref (ma 0)), (1, .int 0)]) rfl ?_
      refine g_ws (ws' := (wM ma cI 0 u u sv z t n (dK (yH8 u z n k9) (fun i => (t i).toInt64) 0))) (by rw [yCp_u]; rfl) ?_
      exact K4 n 0 rfl
    | succ k ih =>
      intro q hn9 a1 ha
      have hq9 : q < 9 := by omega
      refine g_iload_n C dX4_digest_46 1 rfl ?_
      refine g_bipush C (v := 9) dX4_digest_47 cb_9 ?_
      refine g_icmp_ge C (tgt := 63) dX4_digest_49 (by decide) (fun h49_4 => absurd h49_4 (ge9 hq9)) (fun _ => ?_)
      refine g_aload_n C dX4_digest_52 0 rfl ?_
      refine g_iload_n C dX4_digest_53 1 rfl ?_
      refine g_callVv C (c_X4_digestRod l D cI cO ma 0 u a1 sv z t n (dL (yRC u) (yH3 u z) q) hn hz q ((by omega))) gX4_digest_X4_digestRod rfl ⟨rfl, rfl⟩ hd_X4_digestRod ⟨Nat.le_of_ble_eq_true rfl, Nat.le_of_ble_eq_true rfl⟩ [0, 1] rfl (fun _ _ => trivial) rfl (rest := []) rfl (Nat.le_of_ble_eq_true rfl) dX4_digest_54 ⟨Nat.zero_le _, Nat.zero_le _⟩ 0 rfl rfl rfl (pre := []) (post := []) (ws' := (wM ma cI 0 u u sv z t n (yRC u q (dL (yRC u) (yH3 u z) q)))) rfl rfl ?_
      refine g_iinc C (v := nI (q + 1)) (lv' := [(1, .int (nI (q + 1))), (0, .ref (ma 0))]) dX4_digest_57 1 rfl (inc_nI _) (by decide) rfl ?_
      refine g_goto C (tgt := 46) dX4_digest_60 (by decide) ?_
      refine g_lv [1, 0] (lv' := [(0, .ref (ma 0)), (1, .int (nI (q + 1)))]) rfl ?_
      exact ih (q + 1) (by omega) _ (fun _ => rfl)
  have K1 : ∀ (k q : Nat), k + q = 8 → gG p l e rmX4_digest s m ([.ref (ma 0)] : List Value).toArray below meth c D vwCl A s.heap 2 (MQ below (cQ (some (.long (yDg t u z n k9))) (cB D vwCl (tyA cI cO) A (wM ma cI 0 u u sv z t n (yDg t u z n k9))) A) ([.ref (ma 0)] : List Value).toArray s 0 0 A) 0 0 (wM ma cI 0 u a9 sv z t n (dK 3299 (fun w => (yCn u z w).toInt64) q)) 14 [(0, .ref (ma 0)), (1, .int (nI q))] [] := by
    intro k
    induction k with
    | zero =>
      intro q hn9 
      obtain rfl : q = 8 := by omega
      refine g_iload_n C dX4_digest_14 1 rfl ?_
      refine g_bipush C (v := 8) dX4_digest_15 cb_8 ?_
      refine g_icmp_ge C (tgt := 36) dX4_digest_17 (by decide) (fun _ => ?_) (fun h17_5 => absurd (by decide) h17_5)
      refine g_aload_n C dX4_digest_36 0 rfl ?_
      refine g_aload_n C dX4_digest_37 0 rfl ?_
      refine g_callVl C (c_X4_all l D cI cO ma 0 u a9 sv z t n (dK 3299 (fun w => (yCn u z w).toInt64) 8) hn hz) gX4_digest_X4_all rfl ⟨rfl, rfl⟩ hd_X4_all ⟨Nat.le_of_ble_eq_true rfl, Nat.le_of_ble_eq_true rfl⟩ [0, 1] rfl (fun _ _ => trivial) rfl (rest := [.ref (ma 0)]) rfl (Nat.le_of_ble_eq_true rfl) dX4_digest_38 ⟨Nat.zero_le _, Nat.zero_le _⟩ 0 rfl rfl rfl (pre := []) (post := []) (ws' := (wM ma cI 0 u a9 sv z t n (dK 3299 (fun w => (yCn u z w).toInt64) 8))) rfl rfl ?_
      refine g_callVv C (c_X4_digestOne l D cI cO ma 0 u a9 sv z t n (dK 3299 (fun w => (yCn u z w).toInt64) 8) hn hz (yAl u 9)) gX4_digest_X4_digestOne rfl ⟨rfl, rfl⟩ hd_X4_digestOne ⟨Nat.le_of_ble_eq_true rfl, Nat.le_of_ble_eq_true rfl⟩ [0, 1] rfl (fun _ _ => trivial) rfl (rest := []) rfl (Nat.le_of_ble_eq_true rfl) dX4_digest_41 ⟨Nat.zero_le _, Nat.zero_le _⟩ 0 rfl rfl rfl (pre := []) (post := []) (ws' := (wM ma cI 0 u a9 sv z t n (31 * (dK 3299 (fun w => (yCn u z w).toInt64) 8) + (yAl u 9)))) rfl rfl ?_
      refine g_iconst C (v := 0) dX4_digest_44 ci_0 ?_
      refine g_istore_n C (lv' := [(1, .int 0), (0, .ref (ma 0))]) dX4_digest_45 rfl (by decide) rfl ?_
      refine g_lv [1, 0] (lv' := [(0, .ref (ma 0)), (1, .int 0)]) rfl ?_
      exact K3 9 0 rfl _ (fun h => absurd h (by decide))
    | succ k ih =>
      intro q hn9 
      have hq9 : q < 8 := by omega
      refine g_iload_n C dX4_digest_14 1 rfl ?_
      refine g_bipush C (v := 8) dX4_digest_15 cb_8 ?_
      refine g_icmp_ge C (tgt := 36) dX4_digest_17 (by decide) (fun h17_6 => absurd h17_6 (ge8 hq9)) (fun _ => ?_)
      refine g_aload_n C dX4_digest_20 0 rfl ?_
      refine g_aload_n C dX4_digest_21 0 rfl ?_
      refine g_iload_n C dX4_digest_22 1 rfl ?_
      refine g_callVi C (c_X4_counted l D cI cO ma 0 u a9 sv z t n (dK 3299 (fun w => (yCn u z w).toInt64) q) hn hz q ((by omega))) gX4_digest_X4_counted rfl ⟨rfl, rfl⟩ hd_X4_counted ⟨Nat.le_of_ble_eq_true rfl, Nat.le_of_ble_eq_true rfl⟩ [0, 1] rfl (fun _ _ => trivial) rfl (rest := [.ref (ma 0)]) rfl (Nat.le_of_ble_eq_true rfl) dX4_digest_23 ⟨Nat.zero_le _, Nat.zero_le _⟩ 0 rfl rfl rfl (pre := []) (post := []) (ws' := (wM ma cI 0 u a9 sv z t n (dK 3299 (fun w => (yCn u z w).toInt64) q))) rfl rfl ?_
      refine g_i2l C (v := (yCn u z q).toInt64) dX4_digest_26 rfl ?_
      refine g_callVv C (c_X4_digestOne l D cI cO ma 0 u a9 sv z t n (dK 3299 (fun w => (yCn u z w).toInt64) q) hn hz ((yCn u z q).toInt64)) gX4_digest_X4_digestOne rfl ⟨rfl, rfl⟩ hd_X4_digestOne ⟨Nat.le_of_ble_eq_true rfl, Nat.le_of_ble_eq_true rfl⟩ [0, 1] rfl (fun _ _ => trivial) rfl (rest := []) rfl (Nat.le_of_ble_eq_true rfl) dX4_digest_27 ⟨Nat.zero_le _, Nat.zero_le _⟩ 0 rfl rfl rfl (pre := []) (post := []) (ws' := (wM ma cI 0 u a9 sv z t n (31 * (dK 3299 (fun w => (yCn u z w).toInt64) q) + ((yCn u z q).toInt64)))) rfl rfl ?_
      refine g_iinc C (v := nI (q + 1)) (lv' := [(1, .int (nI (q + 1))), (0, .ref (ma 0))]) dX4_digest_30 1 rfl (inc_nI _) (by decide) rfl ?_
      refine g_goto C (tgt := 14) dX4_digest_33 (by decide) ?_
      refine g_lv [1, 0] (lv' := [(0, .ref (ma 0)), (1, .int (nI (q + 1)))]) rfl ?_
      exact ih (q + 1) (by omega)
  refine g_aload_n C dX4_digest_0 0 rfl ?_
  refine g_iconst C (v := 0) dX4_digest_1 ci_0 ?_
  refine g_put C (ws' := (wM ma cI 0 u a9 sv z t n dg)) fl_X4_digest_X4 tyX4 tyX4_ok nmX4 0 rfl rfl 0 (by decide) fw_X4_digest_fld22 rfl (tyX4_ok 0 (by decide)) rfl rfl (Nat.le_of_ble_eq_true rfl) dX4_digest_2 rfl ?_
  refine g_aload_n C dX4_digest_5 0 rfl ?_
  refine g_ldc2 C (v := 3299) dX4_digest_6 fw_X4_digest_const173 ?_
  refine g_put C (ws' := (wM ma cI 0 u a9 sv z t n 3299)) fl_X4_digest_X4 tyX4 tyX4_ok nmX4 0 rfl rfl 7 (by decide) fw_X4_digest_fld165 rfl (tyX4_ok 7 (by decide)) rfl rfl (Nat.le_of_ble_eq_true rfl) dX4_digest_9 rfl ?_
  refine g_iconst C (v := 0) dX4_digest_12 ci_0 ?_
  refine g_istore_n C (lv' := [(1, .int 0), (0, .ref (ma 0))]) dX4_digest_13 rfl (by decide) rfl ?_
  refine g_lv [1, 0] (lv' := [(0, .ref (ma 0)), (1, .int 0)]) rfl ?_
  exact K1 8 0 rfl
