/-! nest mates: what the tables say of the two private methods that the text calls -/
def nF : Vm → Prop := fun vm => ∃ U : State, U.vm = vm ∧ va_Nw (.methodLinkNest RX2 19 yX3_isSign "StuckRods") U ∧ va_Nw (.methodLinkNest RX2 23 yX3_isDigit "StuckRods") U
theorem nF_19 {s : State} (h : nF s.vm) : va_Nw (.methodLinkNest RX2 19 yX3_isSign "StuckRods") s := by
  obtain ⟨U, hU, h1, h2⟩ := h
  exact va_Nw.same rfl hU h1
theorem nF_23 {s : State} (h : nF s.vm) : va_Nw (.methodLinkNest RX2 23 yX3_isDigit "StuckRods") s := by
  obtain ⟨U, hU, h1, h2⟩ := h
  exact va_Nw.same rfl hU h2
theorem nF_w {s : State} (h : nF s.vm) : ∀ vm' : Vm, s.WarmedH vm' → nF vm' := fun vm' hW =>
  ⟨s.setVm vm', rfl, va_Nw.warmM (s := s) (U := s.setVm vm') hW (nF_19 h), va_Nw.warmM (s := s) (U := s.setVm vm') hW (nF_23 h)⟩
theorem pos1 {i : Nat} (h : ¬ nI i < 1) : 1 ≤ i := by
  rcases Nat.eq_zero_or_pos i with e | e
  · subst e; exact absurd (by decide) h
  · exact e
theorem leI {a b : Nat} (h : a ≤ b) (hb : b < 2 ^ 31) : nI a ≤ nI b := (nI_leI (by omega) hb).mpr h
theorem nleI {a b : Nat} (h : a < b) (hb : b < 2 ^ 31) : ¬ nI b ≤ nI a := fun z => absurd ((nI_leI hb (by omega)).mp z) (by omega)
abbrev rmX3_isSign : Room := { frames := 0, cells := 0, slots := 0, locals := 0 }
set_option maxHeartbeats 4000000 in
set_option maxRecDepth 100000 in
theorem c_X3_isSign (l : Launch) (D : va_G) (cI cO : ClassId) (x : Int32) : cR (fun _ => True) l yX3_isSign wsX3_isSign rmX3_isSign D vwCl (tyA cI cO) [.int x] ([] : va_W) (some (.int ((if sg x = true then 1 else 0)))) ([] : va_W) := by
  refine cR_of (cc := cX3_isSign) (maxL := 1) (ret := (some .boolean)) (by decide) rfl (Nat.le_of_ble_eq_true rfl) ?_
  intro p e s m below meth c A C hret hlk hnm hF
  refine g_lv [0] (lv' := [(0, .int x)]) rfl ?_
  refine g_iload_n C dX3_isSign_0 0 rfl ?_
  refine g_bipush C (v := 43) dX3_isSign_1 cb_43 ?_
  refine g_icmp_eq C (tgt := 12) dX3_isSign_3 (by decide) (fun h3_1 => ?_) (fun h3_1 => ?_)
  · refine g_iconst C (v := 1) dX3_isSign_12 ci_1 ?_
    refine g_goto C (tgt := 17) dX3_isSign_13 (by decide) ?_
    exact g_zret C hret hlk dX3_isSign_17 (Or.inr rfl) (by simp only [sg, eq_true h3_1, Bool.false_eq_true, not_false_eq_true, not_true_eq_false, and_self, and_true, true_and, and_false, false_and, or_true, true_or, or_false, false_or, or_self, if_true, if_false, eq_self, ite_true, ite_false, reduceIte]) rfl
  · refine g_iload_n C dX3_isSign_6 0 rfl ?_
    refine g_bipush C (v := 45) dX3_isSign_7 cb_45 ?_
    refine g_icmp_ne C (tgt := 16) dX3_isSign_9 (by decide) (fun h9_2 => ?_) (fun h9_2 => ?_)
    · refine g_iconst C (v := 0) dX3_isSign_16 ci_0 ?_
      exact g_zret C hret hlk dX3_isSign_17 (Or.inl rfl) (by simp only [sg, h3_1, h9_2, Bool.false_eq_true, not_false_eq_true, not_true_eq_false, and_self, and_true, true_and, and_false, false_and, or_true, true_or, or_false, false_or, or_self, if_true, if_false, eq_self, ite_true, ite_false, reduceIte]) rfl
    · refine g_iconst C (v := 1) dX3_isSign_12 ci_1 ?_
      refine g_goto C (tgt := 17) dX3_isSign_13 (by decide) ?_
      exact g_zret C hret hlk dX3_isSign_17 (Or.inr rfl) (by simp only [sg, h3_1, eq_true h9_2, Bool.false_eq_true, not_false_eq_true, not_true_eq_false, and_self, and_true, true_and, and_false, false_and, or_true, true_or, or_false, false_or, or_self, if_true, if_false, eq_self, ite_true, ite_false, reduceIte]) rfl
abbrev rmX3_isDigit : Room := { frames := 0, cells := 0, slots := 0, locals := 0 }
set_option maxHeartbeats 4000000 in
set_option maxRecDepth 100000 in
theorem c_X3_isDigit (l : Launch) (D : va_G) (cI cO : ClassId) (x : Int32) : cR (fun _ => True) l yX3_isDigit wsX3_isDigit rmX3_isDigit D vwCl (tyA cI cO) [.int x] ([] : va_W) (some (.int ((if dg x = true then 1 else 0)))) ([] : va_W) := by
  refine cR_of (cc := cX3_isDigit) (maxL := 1) (ret := (some .boolean)) (by decide) rfl (Nat.le_of_ble_eq_true rfl) ?_
  intro p e s m below meth c A C hret hlk hnm hF
  refine g_lv [0] (lv' := [(0, .int x)]) rfl ?_
  refine g_iload_n C dX3_isDigit_0 0 rfl ?_
  refine g_bipush C (v := 48) dX3_isDigit_1 cb_48 ?_
  refine g_icmp_lt C (tgt := 16) dX3_isDigit_3 (by decide) (fun h3_1 => ?_) (fun h3_1 => ?_)
  · refine g_iconst C (v := 0) dX3_isDigit_16 ci_0 ?_
    exact g_zret C hret hlk dX3_isDigit_17 (Or.inl rfl) (by simp only [dg, eq_true h3_1, Bool.false_eq_true, not_false_eq_true, not_true_eq_false, and_self, and_true, true_and, and_false, false_and, or_true, true_or, or_false, false_or, or_self, if_true, if_false, eq_self, ite_true, ite_false, reduceIte]) rfl
  · refine g_iload_n C dX3_isDigit_6 0 rfl ?_
    refine g_bipush C (v := 57) dX3_isDigit_7 cb_57 ?_
    refine g_icmp_gt C (tgt := 16) dX3_isDigit_9 (by decide) (fun h9_2 => ?_) (fun h9_2 => ?_)
    · refine g_iconst C (v := 0) dX3_isDigit_16 ci_0 ?_
      exact g_zret C hret hlk dX3_isDigit_17 (Or.inl rfl) (by simp only [dg, h3_1, eq_true h9_2, Bool.false_eq_true, not_false_eq_true, not_true_eq_false, and_self, and_true, true_and, and_false, false_and, or_true, true_or, or_false, false_or, or_self, if_true, if_false, eq_self, ite_true, ite_false, reduceIte]) rfl
    · refine g_iconst C (v := 1) dX3_isDigit_12 ci_1 ?_
      refine g_goto C (tgt := 17) dX3_isDigit_13 (by decide) ?_
      exact g_zret C hret hlk dX3_isDigit_17 (Or.inr rfl) (by simp only [dg, h3_1, h9_2, Bool.false_eq_true, not_false_eq_true, not_true_eq_false, and_self, and_true, true_and, and_false, false_and, or_true, true_or, or_false, false_or, or_self, if_true, if_false, eq_self, ite_true, ite_false, reduceIte]) rfl
theorem fw_X2_firstWrong_fld15 : Cond.fieldLink RX2 15 "StuckRods$SumText" "length" "I" ∈ wsX2_firstWrong := (List.mem_cons_of_mem _ (List.mem_append_left _ (List.mem_of_getElem? (i := 0) rfl)))
theorem fl_X2_firstWrong_X2 : ∀ w ∈ wsX20, w ∈ wsX2_firstWrong := fun _ h => List.mem_cons_of_mem _ (List.mem_append_right _ h)
theorem fw_X2_firstWrong_fld9 : Cond.fieldLink RX2 9 "StuckRods$SumText" "codes" "[I" ∈ wsX2_firstWrong := (List.mem_cons_of_mem _ (List.mem_append_left _ (List.mem_of_getElem? (i := 1) rfl)))
theorem fw_X2_firstWrong_iniX3 : Cond.initialized RX3 ∈ wsX2_firstWrong := (List.mem_cons_of_mem _ (List.mem_append_left _ (List.mem_of_getElem? (i := 3) rfl)))
theorem fw_X2_firstWrong_stisSign : Cond.static yX3_isSign ∈ wsX2_firstWrong := (List.mem_cons_of_mem _ (List.mem_append_left _ (List.mem_of_getElem? (i := 2) rfl)))
theorem hd_X3_isSign : yX3_isSign.cls ≠ "java/lang/invoke/MethodHandle" ∧ yX3_isSign.cls ≠ "java/lang/invoke/VarHandle" ∧ (parseMethodDescriptor yX3_isSign.desc).map (fun d => d.parameters.length) = some 1 := by decide +kernel
theorem fw_X2_firstWrong_stisDigit : Cond.static yX3_isDigit ∈ wsX2_firstWrong := (List.mem_cons_of_mem _ (List.mem_append_left _ (List.mem_of_getElem? (i := 5) rfl)))
theorem hd_X3_isDigit : yX3_isDigit.cls ≠ "java/lang/invoke/MethodHandle" ∧ yX3_isDigit.cls ≠ "java/lang/invoke/VarHandle" ∧ (parseMethodDescriptor yX3_isDigit.desc).map (fun d => d.parameters.length) = some 1 := by decide +kernel
abbrev rmX2_firstWrong : Room := { frames := 1, cells := 0, slots := 0, locals := 20 }
set_option maxHeartbeats 4000000 in
set_option maxRecDepth 100000 in
theorem c_X2_firstWrong (l : Launch) (D : va_G) (cI cO : ClassId) (ta : Nat → Nat) (t : Nat → Int32) (n : Nat) (hn : n ≤ 60) : cR nF l yX2_firstWrong wsX2_firstWrong rmX2_firstWrong D vwCl (tyA cI cO) [.ref (ta 0)] (wT ta cI t (nI n)) (some (.int (xFW t n))) (wT ta cI t (nI n)) := by
  refine cR_of (cc := cX2_firstWrong) (maxL := 4) (ret := (some .int)) (by decide) rfl (Nat.le_of_ble_eq_true rfl) ?_
  intro p e s m below meth c A C hret hlk hnm hF
  refine g_lv [0] (lv' := [(0, .ref (ta 0))]) rfl ?_
  have K : ∀ (k i : Nat), k + i = n → ∀ a : Int32, xFw t n k i a = xFW t n → gG p l e rmX2_firstWrong s m ([.ref (ta 0)] : List Value).toArray below meth c D vwCl A s.heap 4 (MQ below (cQ (some (.int (xFW t n))) (cB D vwCl (tyA cI cO) A (wT ta cI t (nI n))) A) ([.ref (ta 0)] : List Value).toArray s 0 0 A) 0 0 (wT ta cI t (nI n)) 4 [(0, .ref (ta 0)), (1, .int a), (2, .int (nI i))] [] := by
    intro k
    induction k with
    | zero =>
      intro i hi a hq
      refine g_iload_n C dX2_firstWrong_4 2 rfl ?_
      refine g_aload_n C dX2_firstWrong_5 0 rfl ?_
      refine g_get C (v := .int (nI n)) fl_X2_firstWrong_X2 0 rfl rfl 1 (by decide) fw_X2_firstWrong_fld15 rfl dX2_firstWrong_6 ?_
      refine g_icmp_ge C (tgt := 114) dX2_firstWrong_9 (by decide) (fun _ => ?_) (fun h9_1 => absurd (leI (by omega) (by omega)) h9_1)
      refine g_aload_n C dX2_firstWrong_114 0 rfl ?_
      refine g_get C (v := .int (nI n)) fl_X2_firstWrong_X2 0 rfl rfl 1 (by decide) fw_X2_firstWrong_fld15 rfl dX2_firstWrong_115 ?_
      exact g_iret C hret hlk dX2_firstWrong_118 hq rfl
    | succ k ih =>
      intro i hi a hq
      refine g_iload_n C dX2_firstWrong_4 2 rfl ?_
      refine g_aload_n C dX2_firstWrong_5 0 rfl ?_
      refine g_get C (v := .int (nI n)) fl_X2_firstWrong_X2 0 rfl rfl 1 (by decide) fw_X2_firstWrong_fld15 rfl dX2_firstWrong_6 ?_
      refine g_icmp_ge C (tgt := 114) dX2_firstWrong_9 (by decide) (fun h9_2 => absurd h9_2 (nleI (by omega) (by omega))) (fun _ => ?_)
      refine g_iload_n C dX2_firstWrong_12 2 rfl ?_
      refine g_bipush C (v := 60) dX2_firstWrong_13 cb_60 ?_
      refine g_icmp_ge C (tgt := 114) dX2_firstWrong_15 (by decide) (fun h15_3 => absurd h15_3 (nleI (b := 60) (by omega) (by decide))) (fun _ => ?_)
      refine g_iload_n C dX2_firstWrong_18 2 rfl ?_
      refine g_if_le C (tgt := 40) dX2_firstWrong_19 (by decide) (fun h19_4 => ?_) (fun h19_4 => ?_)
      · refine g_iconst C (v := 0) dX2_firstWrong_40 ci_0 ?_
        refine g_istore_n C (lv' := [(3, .int 0), (0, .ref (ta 0)), (1, .int a), (2, .int (nI i))]) dX2_firstWrong_41 rfl (by decide) rfl ?_
        refine g_aload_n C dX2_firstWrong_42 1 rfl ?_
        refine g_get C (v := .ref (ta 1)) fl_X2_firstWrong_X2 0 rfl rfl 0 (by decide) fw_X2_firstWrong_fld9 rfl dX2_firstWrong_43 ?_
        refine g_iload_n C dX2_firstWrong_46 3 rfl ?_
        refine g_iald C (x := t i) 1 0 rfl rfl i rfl (by omega) (by decide) rfl dX2_firstWrong_47 ?_
        refine g_callSNi C (c_X3_isSign l D cI cO (t i)) ggX2_firstWrong_X3_isSign rfl (nF_19 hF) fw_X2_firstWrong_iniX3 fw_X2_firstWrong_stisSign ⟨rfl, rfl⟩ hd_X3_isSign ⟨Nat.le_of_ble_eq_true rfl, Nat.le_of_ble_eq_true rfl⟩ [0, 1] rfl (fun _ _ => trivial) rfl (rest := []) rfl (Nat.le_of_ble_eq_true rfl) dX2_firstWrong_48 ⟨Nat.zero_le _, Nat.zero_le _⟩ (pre := []) (post := (wT ta cI t (nI n))) (ws' := (wT ta cI t (nI n))) rfl rfl ?_
        refine g_if_eq C (tgt := 64) dX2_firstWrong_51 (by decide) (fun h51_5 => ?_) (fun h51_5 => ?_)
        · have h51_5 := bz h51_5
          refine g_aload_n C dX2_firstWrong_64 1 rfl ?_
          refine g_get C (v := .ref (ta 1)) fl_X2_firstWrong_X2 0 rfl rfl 0 (by decide) fw_X2_firstWrong_fld9 rfl dX2_firstWrong_65 ?_
          refine g_iload_n C dX2_firstWrong_68 3 rfl ?_
          refine g_iald C (x := t i) 1 0 rfl rfl i rfl (by omega) (by decide) rfl dX2_firstWrong_69 ?_
          refine g_callSNi C (c_X3_isDigit l D cI cO (t i)) ggX2_firstWrong_X3_isDigit rfl (nF_23 hF) fw_X2_firstWrong_iniX3 fw_X2_firstWrong_stisDigit ⟨rfl, rfl⟩ hd_X3_isDigit ⟨Nat.le_of_ble_eq_true rfl, Nat.le_of_ble_eq_true rfl⟩ [0, 1] rfl (fun _ _ => trivial) rfl (rest := []) rfl (Nat.le_of_ble_eq_true rfl) dX2_firstWrong_70 ⟨Nat.zero_le _, Nat.zero_le _⟩ (pre := []) (post := (wT ta cI t (nI n))) (ws' := (wT ta cI t (nI n))) rfl rfl ?_
          refine g_if_eq C (tgt := 106) dX2_firstWrong_73 (by decide) (fun h73_6 => ?_) (fun h73_6 => ?_)
          · have h73_6 := bz h73_6
            refine g_iload_n C dX2_firstWrong_106 3 rfl ?_
            exact g_iret C hret hlk dX2_firstWrong_107 (by rw [← hq]; simp only [xFw, xNb, eq_true h19_4, h51_5, h73_6, Bool.false_eq_true, not_false_eq_true, not_true_eq_false, and_self, and_true, true_and, and_false, false_and, or_true, true_or, or_false, false_or, or_self, if_true, if_false, eq_self, ite_true, ite_false, reduceIte]) rfl
          · have h73_6 := bnz h73_6
            refine g_iload_n C dX2_firstWrong_76 2 rfl ?_
            refine g_if_le C (tgt := 106) dX2_firstWrong_77 (by decide) (fun h77_7 => ?_) (fun h77_7 => ?_)
            · refine g_iload_n C dX2_firstWrong_106 3 rfl ?_
              exact g_iret C hret hlk dX2_firstWrong_107 (by rw [← hq]; simp only [xFw, xNb, eq_true h19_4, h51_5, eq_true h73_6, eq_true h77_7, Bool.false_eq_true, not_false_eq_true, not_true_eq_false, and_self, and_true, true_and, and_false, false_and, or_true, true_or, or_false, false_or, or_self, if_true, if_false, eq_self, ite_true, ite_false, reduceIte]) rfl
            · refine g_iload_n C dX2_firstWrong_80 0 rfl ?_
              refine g_if_eq C (tgt := 99) dX2_firstWrong_81 (by decide) (fun _ => ?_) (fun h81_8 => absurd (by decide) h81_8)
              refine g_iload_n C dX2_firstWrong_99 2 rfl ?_
              refine g_iconst C (v := 1) dX2_firstWrong_100 ci_1 ?_
              refine g_isub C (v := a - 1) dX2_firstWrong_101 rfl ?_
              refine g_istore_n C (lv' := [(1, .int (a - 1)), (3, .int 0), (0, .ref (ta 0)), (2, .int (nI i))]) dX2_firstWrong_102 rfl (by decide) rfl ?_
              refine g_goto C (tgt := 108) dX2_firstWrong_103 (by decide) ?_
              refine g_iinc C (v := nI (i + 1)) (lv' := [(2, .int (nI (i + 1))), (1, .int (a - 1)), (3, .int 0), (0, .ref (ta 0))]) dX2_firstWrong_108 3 rfl (inc_nI _) (by decide) rfl ?_
              refine g_goto C (tgt := 4) dX2_firstWrong_111 (by decide) ?_
              refine g_lv [3, 1, 0] (lv' := [(0, .ref (ta 0)), (1, .int (a - 1)), (2, .int (nI (i + 1)))]) rfl ?_
              exact ih (i + 1) (by omega) _ (by rw [← hq]; simp only [xFw, xNb, eq_true h19_4, h51_5, eq_true h73_6, h77_7, Bool.false_eq_true, not_false_eq_true, not_true_eq_false, and_self, and_true, true_and, and_false, false_and, or_true, true_or, or_false, false_or, or_self, if_true, if_false, eq_self, ite_true, ite_false, reduceIte])
        · have h51_5 := bnz h51_5
          refine g_iload_n C dX2_firstWrong_54 0 rfl ?_
          refine g_if_ne C (tgt := 64) dX2_firstWrong_55 (by decide) (fun h55_9 => absurd (by decide) h55_9) (fun _ => ?_)
          refine g_bipush C (v := 6) dX2_firstWrong_58 cb_6 ?_
          refine g_istore_n C (lv' := [(1, .int 6), (3, .int 0), (0, .ref (ta 0)), (2, .int (nI i))]) dX2_firstWrong_60 rfl (by decide) rfl ?_
          refine g_goto C (tgt := 108) dX2_firstWrong_61 (by decide) ?_
          refine g_iinc C (v := nI (i + 1)) (lv' := [(2, .int (nI (i + 1))), (1, .int 6), (3, .int 0), (0, .ref (ta 0))]) dX2_firstWrong_108 3 rfl (inc_nI _) (by decide) rfl ?_
          refine g_goto C (tgt := 4) dX2_firstWrong_111 (by decide) ?_
          refine g_lv [3, 1, 0] (lv' := [(0, .ref (ta 0)), (1, .int 6), (2, .int (nI (i + 1)))]) rfl ?_
          exact ih (i + 1) (by omega) _ (by rw [← hq]; simp only [xFw, xNb, eq_true h19_4, eq_true h51_5, Bool.false_eq_true, not_false_eq_true, not_true_eq_false, and_self, and_true, true_and, and_false, false_and, or_true, true_or, or_false, false_or, or_self, if_true, if_false, eq_self, ite_true, ite_false, reduceIte])
      · have hp1 : 1 ≤ i := posI h19_4
        refine g_aload_n C dX2_firstWrong_22 0 rfl ?_
        refine g_get C (v := .ref (ta 1)) fl_X2_firstWrong_X2 0 rfl rfl 0 (by decide) fw_X2_firstWrong_fld9 rfl dX2_firstWrong_23 ?_
        refine g_iload_n C dX2_firstWrong_26 2 rfl ?_
        refine g_iconst C (v := 1) dX2_firstWrong_27 ci_1 ?_
        refine g_isub C (v := nI (i - 1)) dX2_firstWrong_28 (pk_sub (b := 1) hp1) ?_
        refine g_iald C (x := t (i - 1)) 1 0 rfl rfl (i - 1) rfl (by omega) (by decide) rfl dX2_firstWrong_29 ?_
        refine g_callSNi C (c_X3_isSign l D cI cO (t (i - 1))) ggX2_firstWrong_X3_isSign rfl (nF_19 hF) fw_X2_firstWrong_iniX3 fw_X2_firstWrong_stisSign ⟨rfl, rfl⟩ hd_X3_isSign ⟨Nat.le_of_ble_eq_true rfl, Nat.le_of_ble_eq_true rfl⟩ [0, 1] rfl (fun _ _ => trivial) rfl (rest := []) rfl (Nat.le_of_ble_eq_true rfl) dX2_firstWrong_30 ⟨Nat.zero_le _, Nat.zero_le _⟩ (pre := []) (post := (wT ta cI t (nI n))) (ws' := (wT ta cI t (nI n))) rfl rfl ?_
        refine g_if_eq C (tgt := 40) dX2_firstWrong_33 (by decide) (fun h33_10 => ?_) (fun h33_10 => ?_)
        · have h33_10 := bz h33_10
          refine g_iconst C (v := 0) dX2_firstWrong_40 ci_0 ?_
          refine g_istore_n C (lv' := [(3, .int 0), (0, .ref (ta 0)), (1, .int a), (2, .int (nI i))]) dX2_firstWrong_41 rfl (by decide) rfl ?_
          refine g_aload_n C dX2_firstWrong_42 1 rfl ?_
          refine g_get C (v := .ref (ta 1)) fl_X2_firstWrong_X2 0 rfl rfl 0 (by decide) fw_X2_firstWrong_fld9 rfl dX2_firstWrong_43 ?_
          refine g_iload_n C dX2_firstWrong_46 3 rfl ?_
          refine g_iald C (x := t i) 1 0 rfl rfl i rfl (by omega) (by decide) rfl dX2_firstWrong_47 ?_
          refine g_callSNi C (c_X3_isSign l D cI cO (t i)) ggX2_firstWrong_X3_isSign rfl (nF_19 hF) fw_X2_firstWrong_iniX3 fw_X2_firstWrong_stisSign ⟨rfl, rfl⟩ hd_X3_isSign ⟨Nat.le_of_ble_eq_true rfl, Nat.le_of_ble_eq_true rfl⟩ [0, 1] rfl (fun _ _ => trivial) rfl (rest := []) rfl (Nat.le_of_ble_eq_true rfl) dX2_firstWrong_48 ⟨Nat.zero_le _, Nat.zero_le _⟩ (pre := []) (post := (wT ta cI t (nI n))) (ws' := (wT ta cI t (nI n))) rfl rfl ?_
          refine g_if_eq C (tgt := 64) dX2_firstWrong_51 (by decide) (fun h51_11 => ?_) (fun h51_11 => ?_)
          · have h51_11 := bz h51_11
            refine g_aload_n C dX2_firstWrong_64 1 rfl ?_
            refine g_get C (v := .ref (ta 1)) fl_X2_firstWrong_X2 0 rfl rfl 0 (by decide) fw_X2_firstWrong_fld9 rfl dX2_firstWrong_65 ?_
            refine g_iload_n C dX2_firstWrong_68 3 rfl ?_
            refine g_iald C (x := t i) 1 0 rfl rfl i rfl (by omega) (by decide) rfl dX2_firstWrong_69 ?_
            refine g_callSNi C (c_X3_isDigit l D cI cO (t i)) ggX2_firstWrong_X3_isDigit rfl (nF_23 hF) fw_X2_firstWrong_iniX3 fw_X2_firstWrong_stisDigit ⟨rfl, rfl⟩ hd_X3_isDigit ⟨Nat.le_of_ble_eq_true rfl, Nat.le_of_ble_eq_true rfl⟩ [0, 1] rfl (fun _ _ => trivial) rfl (rest := []) rfl (Nat.le_of_ble_eq_true rfl) dX2_firstWrong_70 ⟨Nat.zero_le _, Nat.zero_le _⟩ (pre := []) (post := (wT ta cI t (nI n))) (ws' := (wT ta cI t (nI n))) rfl rfl ?_
            refine g_if_eq C (tgt := 106) dX2_firstWrong_73 (by decide) (fun h73_12 => ?_) (fun h73_12 => ?_)
            · have h73_12 := bz h73_12
              refine g_iload_n C dX2_firstWrong_106 3 rfl ?_
              exact g_iret C hret hlk dX2_firstWrong_107 (by rw [← hq]; simp only [xFw, xNb, h19_4, h33_10, h51_11, h73_12, Bool.false_eq_true, not_false_eq_true, not_true_eq_false, and_self, and_true, true_and, and_false, false_and, or_true, true_or, or_false, false_or, or_self, if_true, if_false, eq_self, ite_true, ite_false, reduceIte]) rfl
            · have h73_12 := bnz h73_12
              refine g_iload_n C dX2_firstWrong_76 2 rfl ?_
              refine g_if_le C (tgt := 106) dX2_firstWrong_77 (by decide) (fun h77_13 => ?_) (fun h77_13 => ?_)
              · refine g_iload_n C dX2_firstWrong_106 3 rfl ?_
                exact g_iret C hret hlk dX2_firstWrong_107 (by rw [← hq]; simp only [xFw, xNb, h19_4, h33_10, h51_11, eq_true h73_12, eq_true h77_13, Bool.false_eq_true, not_false_eq_true, not_true_eq_false, and_self, and_true, true_and, and_false, false_and, or_true, true_or, or_false, false_or, or_self, if_true, if_false, eq_self, ite_true, ite_false, reduceIte]) rfl
              · refine g_iload_n C dX2_firstWrong_80 0 rfl ?_
                refine g_if_eq C (tgt := 99) dX2_firstWrong_81 (by decide) (fun _ => ?_) (fun h81_14 => absurd (by decide) h81_14)
                refine g_iload_n C dX2_firstWrong_99 2 rfl ?_
                refine g_iconst C (v := 1) dX2_firstWrong_100 ci_1 ?_
                refine g_isub C (v := a - 1) dX2_firstWrong_101 rfl ?_
                refine g_istore_n C (lv' := [(1, .int (a - 1)), (3, .int 0), (0, .ref (ta 0)), (2, .int (nI i))]) dX2_firstWrong_102 rfl (by decide) rfl ?_
                refine g_goto C (tgt := 108) dX2_firstWrong_103 (by decide) ?_
                refine g_iinc C (v := nI (i + 1)) (lv' := [(2, .int (nI (i + 1))), (1, .int (a - 1)), (3, .int 0), (0, .ref (ta 0))]) dX2_firstWrong_108 3 rfl (inc_nI _) (by decide) rfl ?_
                refine g_goto C (tgt := 4) dX2_firstWrong_111 (by decide) ?_
                refine g_lv [3, 1, 0] (lv' := [(0, .ref (ta 0)), (1, .int (a - 1)), (2, .int (nI (i + 1)))]) rfl ?_
                exact ih (i + 1) (by omega) _ (by rw [← hq]; simp only [xFw, xNb, h19_4, h33_10, h51_11, eq_true h73_12, h77_13, Bool.false_eq_true, not_false_eq_true, not_true_eq_false, and_self, and_true, true_and, and_false, false_and, or_true, true_or, or_false, false_or, or_self, if_true, if_false, eq_self, ite_true, ite_false, reduceIte])
          · have h51_11 := bnz h51_11
            refine g_iload_n C dX2_firstWrong_54 0 rfl ?_
            refine g_if_ne C (tgt := 64) dX2_firstWrong_55 (by decide) (fun h55_15 => absurd (by decide) h55_15) (fun _ => ?_)
            refine g_bipush C (v := 6) dX2_firstWrong_58 cb_6 ?_
            refine g_istore_n C (lv' := [(1, .int 6), (3, .int 0), (0, .ref (ta 0)), (2, .int (nI i))]) dX2_firstWrong_60 rfl (by decide) rfl ?_
            refine g_goto C (tgt := 108) dX2_firstWrong_61 (by decide) ?_
            refine g_iinc C (v := nI (i + 1)) (lv' := [(2, .int (nI (i + 1))), (1, .int 6), (3, .int 0), (0, .ref (ta 0))]) dX2_firstWrong_108 3 rfl (inc_nI _) (by decide) rfl ?_
            refine g_goto C (tgt := 4) dX2_firstWrong_111 (by decide) ?_
            refine g_lv [3, 1, 0] (lv' := [(0, .ref (ta 0)), (1, .int 6), (2, .int (nI (i + 1)))]) rfl ?_
            exact ih (i + 1) (by omega) _ (by rw [← hq]; simp only [xFw, xNb, h19_4, h33_10, eq_true h51_11, Bool.false_eq_true, not_false_eq_true, not_true_eq_false, and_self, and_true, true_and, and_false, false_and, or_true, true_or, or_false, false_or, or_self, if_true, if_false, eq_self, ite_true, ite_false, reduceIte])
        · have h33_10 := bnz h33_10
          refine g_iconst C (v := 1) dX2_firstWrong_36 ci_1 ?_
          refine g_goto C (tgt := 41) dX2_firstWrong_37 (by decide) ?_
          refine g_istore_n C (lv' := [(3, .int 1), (0, .ref (ta 0)), (1, .int a), (2, .int (nI i))]) dX2_firstWrong_41 rfl (by decide) rfl ?_
          refine g_aload_n C dX2_firstWrong_42 1 rfl ?_
          refine g_get C (v := .ref (ta 1)) fl_X2_firstWrong_X2 0 rfl rfl 0 (by decide) fw_X2_firstWrong_fld9 rfl dX2_firstWrong_43 ?_
          refine g_iload_n C dX2_firstWrong_46 3 rfl ?_
          refine g_iald C (x := t i) 1 0 rfl rfl i rfl (by omega) (by decide) rfl dX2_firstWrong_47 ?_
          refine g_callSNi C (c_X3_isSign l D cI cO (t i)) ggX2_firstWrong_X3_isSign rfl (nF_19 hF) fw_X2_firstWrong_iniX3 fw_X2_firstWrong_stisSign ⟨rfl, rfl⟩ hd_X3_isSign ⟨Nat.le_of_ble_eq_true rfl, Nat.le_of_ble_eq_true rfl⟩ [0, 1] rfl (fun _ _ => trivial) rfl (rest := []) rfl (Nat.le_of_ble_eq_true rfl) dX2_firstWrong_48 ⟨Nat.zero_le _, Nat.zero_le _⟩ (pre := []) (post := (wT ta cI t (nI n))) (ws' := (wT ta cI t (nI n))) rfl rfl ?_
          refine g_if_eq C (tgt := 64) dX2_firstWrong_51 (by decide) (fun h51_16 => ?_) (fun h51_16 => ?_)
          · have h51_16 := bz h51_16
            refine g_aload_n C dX2_firstWrong_64 1 rfl ?_
            refine g_get C (v := .ref (ta 1)) fl_X2_firstWrong_X2 0 rfl rfl 0 (by decide) fw_X2_firstWrong_fld9 rfl dX2_firstWrong_65 ?_
            refine g_iload_n C dX2_firstWrong_68 3 rfl ?_
            refine g_iald C (x := t i) 1 0 rfl rfl i rfl (by omega) (by decide) rfl dX2_firstWrong_69 ?_
            refine g_callSNi C (c_X3_isDigit l D cI cO (t i)) ggX2_firstWrong_X3_isDigit rfl (nF_23 hF) fw_X2_firstWrong_iniX3 fw_X2_firstWrong_stisDigit ⟨rfl, rfl⟩ hd_X3_isDigit ⟨Nat.le_of_ble_eq_true rfl, Nat.le_of_ble_eq_true rfl⟩ [0, 1] rfl (fun _ _ => trivial) rfl (rest := []) rfl (Nat.le_of_ble_eq_true rfl) dX2_firstWrong_70 ⟨Nat.zero_le _, Nat.zero_le _⟩ (pre := []) (post := (wT ta cI t (nI n))) (ws' := (wT ta cI t (nI n))) rfl rfl ?_
            refine g_if_eq C (tgt := 106) dX2_firstWrong_73 (by decide) (fun h73_17 => ?_) (fun h73_17 => ?_)
            · have h73_17 := bz h73_17
              refine g_iload_n C dX2_firstWrong_106 3 rfl ?_
              exact g_iret C hret hlk dX2_firstWrong_107 (by rw [← hq]; simp only [xFw, xNb, h19_4, eq_true h33_10, h51_16, h73_17, Bool.false_eq_true, not_false_eq_true, not_true_eq_false, and_self, and_true, true_and, and_false, false_and, or_true, true_or, or_false, false_or, or_self, if_true, if_false, eq_self, ite_true, ite_false, reduceIte]) rfl
            · have h73_17 := bnz h73_17
              refine g_iload_n C dX2_firstWrong_76 2 rfl ?_
              refine g_if_le C (tgt := 106) dX2_firstWrong_77 (by decide) (fun h77_18 => ?_) (fun h77_18 => ?_)
              · refine g_iload_n C dX2_firstWrong_106 3 rfl ?_
                exact g_iret C hret hlk dX2_firstWrong_107 (by rw [← hq]; simp only [xFw, xNb, h19_4, eq_true h33_10, h51_16, eq_true h73_17, eq_true h77_18, Bool.false_eq_true, not_false_eq_true, not_true_eq_false, and_self, and_true, true_and, and_false, false_and, or_true, true_or, or_false, false_or, or_self, if_true, if_false, eq_self, ite_true, ite_false, reduceIte]) rfl
              · refine g_iload_n C dX2_firstWrong_80 0 rfl ?_
                refine g_if_eq C (tgt := 99) dX2_firstWrong_81 (by decide) (fun h81_19 => absurd h81_19 (by decide)) (fun _ => ?_)
                refine g_aload_n C dX2_firstWrong_84 1 rfl ?_
                refine g_get C (v := .ref (ta 1)) fl_X2_firstWrong_X2 0 rfl rfl 0 (by decide) fw_X2_firstWrong_fld9 rfl dX2_firstWrong_85 ?_
                refine g_iload_n C dX2_firstWrong_88 3 rfl ?_
                refine g_iald C (x := t i) 1 0 rfl rfl i rfl (by omega) (by decide) rfl dX2_firstWrong_89 ?_
                refine g_bipush C (v := 48) dX2_firstWrong_90 cb_48 ?_
                refine g_icmp_ne C (tgt := 99) dX2_firstWrong_92 (by decide) (fun h92_20 => ?_) (fun h92_20 => ?_)
                · refine g_iload_n C dX2_firstWrong_99 2 rfl ?_
                  refine g_iconst C (v := 1) dX2_firstWrong_100 ci_1 ?_
                  refine g_isub C (v := a - 1) dX2_firstWrong_101 rfl ?_
                  refine g_istore_n C (lv' := [(1, .int (a - 1)), (3, .int 1), (0, .ref (ta 0)), (2, .int (nI i))]) dX2_firstWrong_102 rfl (by decide) rfl ?_
                  refine g_goto C (tgt := 108) dX2_firstWrong_103 (by decide) ?_
                  refine g_iinc C (v := nI (i + 1)) (lv' := [(2, .int (nI (i + 1))), (1, .int (a - 1)), (3, .int 1), (0, .ref (ta 0))]) dX2_firstWrong_108 3 rfl (inc_nI _) (by decide) rfl ?_
                  refine g_goto C (tgt := 4) dX2_firstWrong_111 (by decide) ?_
                  refine g_lv [3, 1, 0] (lv' := [(0, .ref (ta 0)), (1, .int (a - 1)), (2, .int (nI (i + 1)))]) rfl ?_
                  exact ih (i + 1) (by omega) _ (by rw [← hq]; simp only [xFw, xNb, h19_4, eq_true h33_10, h51_16, eq_true h73_17, h77_18, h92_20, Bool.false_eq_true, not_false_eq_true, not_true_eq_false, and_self, and_true, true_and, and_false, false_and, or_true, true_or, or_false, false_or, or_self, if_true, if_false, eq_self, ite_true, ite_false, reduceIte])
                · refine g_iconst C (v := 0) dX2_firstWrong_95 ci_0 ?_
                  refine g_goto C (tgt := 102) dX2_firstWrong_96 (by decide) ?_
                  refine g_istore_n C (lv' := [(1, .int 0), (3, .int 1), (0, .ref (ta 0)), (2, .int (nI i))]) dX2_firstWrong_102 rfl (by decide) rfl ?_
                  refine g_goto C (tgt := 108) dX2_firstWrong_103 (by decide) ?_
                  refine g_iinc C (v := nI (i + 1)) (lv' := [(2, .int (nI (i + 1))), (1, .int 0), (3, .int 1), (0, .ref (ta 0))]) dX2_firstWrong_108 3 rfl (inc_nI _) (by decide) rfl ?_
                  refine g_goto C (tgt := 4) dX2_firstWrong_111 (by decide) ?_
                  refine g_lv [3, 1, 0] (lv' := [(0, .ref (ta 0)), (1, .int 0), (2, .int (nI (i + 1)))]) rfl ?_
                  exact ih (i + 1) (by omega) _ (by rw [← hq]; simp only [xFw, xNb, h19_4, eq_true h33_10, h51_16, eq_true h73_17, h77_18, eq_true h92_20, Bool.false_eq_true, not_false_eq_true, not_true_eq_false, and_self, and_true, true_and, and_false, false_and, or_true, true_or, or_false, false_or, or_self, if_true, if_false, eq_self, ite_true, ite_false, reduceIte])
          · have h51_16 := bnz h51_16
            refine g_iload_n C dX2_firstWrong_54 0 rfl ?_
            refine g_if_ne C (tgt := 64) dX2_firstWrong_55 (by decide) (fun _ => ?_) (fun h55_21 => absurd h55_21 (by decide))
            refine g_aload_n C dX2_firstWrong_64 1 rfl ?_
            refine g_get C (v := .ref (ta 1)) fl_X2_firstWrong_X2 0 rfl rfl 0 (by decide) fw_X2_firstWrong_fld9 rfl dX2_firstWrong_65 ?_
            refine g_iload_n C dX2_firstWrong_68 3 rfl ?_
            refine g_iald C (x := t i) 1 0 rfl rfl i rfl (by omega) (by decide) rfl dX2_firstWrong_69 ?_
            refine g_callSNi C (c_X3_isDigit l D cI cO (t i)) ggX2_firstWrong_X3_isDigit rfl (nF_23 hF) fw_X2_firstWrong_iniX3 fw_X2_firstWrong_stisDigit ⟨rfl, rfl⟩ hd_X3_isDigit ⟨Nat.le_of_ble_eq_true rfl, Nat.le_of_ble_eq_true rfl⟩ [0, 1] rfl (fun _ _ => trivial) rfl (rest := []) rfl (Nat.le_of_ble_eq_true rfl) dX2_firstWrong_70 ⟨Nat.zero_le _, Nat.zero_le _⟩ (pre := []) (post := (wT ta cI t (nI n))) (ws' := (wT ta cI t (nI n))) rfl rfl ?_
            refine g_if_eq C (tgt := 106) dX2_firstWrong_73 (by decide) (fun h73_22 => ?_) (fun h73_22 => ?_)
            · have h73_22 := bz h73_22
              refine g_iload_n C dX2_firstWrong_106 3 rfl ?_
              exact g_iret C hret hlk dX2_firstWrong_107 (by rw [← hq]; simp only [xFw, xNb, h19_4, eq_true h33_10, eq_true h51_16, h73_22, Bool.false_eq_true, not_false_eq_true, not_true_eq_false, and_self, and_true, true_and, and_false, false_and, or_true, true_or, or_false, false_or, or_self, if_true, if_false, eq_self, ite_true, ite_false, reduceIte]) rfl
            · have h73_22 := bnz h73_22
              refine g_iload_n C dX2_firstWrong_76 2 rfl ?_
              refine g_if_le C (tgt := 106) dX2_firstWrong_77 (by decide) (fun h77_23 => ?_) (fun h77_23 => ?_)
              · refine g_iload_n C dX2_firstWrong_106 3 rfl ?_
                exact g_iret C hret hlk dX2_firstWrong_107 (by rw [← hq]; simp only [xFw, xNb, h19_4, eq_true h33_10, eq_true h51_16, eq_true h73_22, eq_true h77_23, Bool.false_eq_true, not_false_eq_true, not_true_eq_false, and_self, and_true, true_and, and_false, false_and, or_true, true_or, or_false, false_or, or_self, if_true, if_false, eq_self, ite_true, ite_false, reduceIte]) rfl
              · refine g_iload_n C dX2_firstWrong_80 0 rfl ?_
                refine g_if_eq C (tgt := 99) dX2_firstWrong_81 (by decide) (fun h81_24 => absurd h81_24 (by decide)) (fun _ => ?_)
                refine g_aload_n C dX2_firstWrong_84 1 rfl ?_
                refine g_get C (v := .ref (ta 1)) fl_X2_firstWrong_X2 0 rfl rfl 0 (by decide) fw_X2_firstWrong_fld9 rfl dX2_firstWrong_85 ?_
                refine g_iload_n C dX2_firstWrong_88 3 rfl ?_
                refine g_iald C (x := t i) 1 0 rfl rfl i rfl (by omega) (by decide) rfl dX2_firstWrong_89 ?_
                refine g_bipush C (v := 48) dX2_firstWrong_90 cb_48 ?_
                refine g_icmp_ne C (tgt := 99) dX2_firstWrong_92 (by decide) (fun h92_25 => ?_) (fun h92_25 => ?_)
                · refine g_iload_n C dX2_firstWrong_99 2 rfl ?_
                  refine g_iconst C (v := 1) dX2_firstWrong_100 ci_1 ?_
                  refine g_isub C (v := a - 1) dX2_firstWrong_101 rfl ?_
                  refine g_istore_n C (lv' := [(1, .int (a - 1)), (3, .int 1), (0, .ref (ta 0)), (2, .int (nI i))]) dX2_firstWrong_102 rfl (by decide) rfl ?_
                  refine g_goto C (tgt := 108) dX2_firstWrong_103 (by decide) ?_
                  refine g_iinc C (v := nI (i + 1)) (lv' := [(2, .int (nI (i + 1))), (1, .int (a - 1)), (3, .int 1), (0, .ref (ta 0))]) dX2_firstWrong_108 3 rfl (inc_nI _) (by decide) rfl ?_
                  refine g_goto C (tgt := 4) dX2_firstWrong_111 (by decide) ?_
                  refine g_lv [3, 1, 0] (lv' := [(0, .ref (ta 0)), (1, .int (a - 1)), (2, .int (nI (i + 1)))]) rfl ?_
                  exact ih (i + 1) (by omega) _ (by rw [← hq]; simp only [xFw, xNb, h19_4, eq_true h33_10, eq_true h51_16, eq_true h73_22, h77_23, h92_25, Bool.false_eq_true, not_false_eq_true, not_true_eq_false, and_self, and_true, true_and, and_false, false_and, or_true, true_or, or_false, false_or, or_self, if_true, if_false, eq_self, ite_true, ite_false, reduceIte])
                · refine g_iconst C (v := 0) dX2_firstWrong_95 ci_0 ?_
                  refine g_goto C (tgt := 102) dX2_firstWrong_96 (by decide) ?_
                  refine g_istore_n C (lv' := [(1, .int 0), (3, .int 1), (0, .ref (ta 0)), (2, .int (nI i))]) dX2_firstWrong_102 rfl (by decide) rfl ?_
                  refine g_goto C (tgt := 108) dX2_firstWrong_103 (by decide) ?_
                  refine g_iinc C (v := nI (i + 1)) (lv' := [(2, .int (nI (i + 1))), (1, .int 0), (3, .int 1), (0, .ref (ta 0))]) dX2_firstWrong_108 3 rfl (inc_nI _) (by decide) rfl ?_
                  refine g_goto C (tgt := 4) dX2_firstWrong_111 (by decide) ?_
                  refine g_lv [3, 1, 0] (lv' := [(0, .ref (ta 0)), (1, .int 0), (2, .int (nI (i + 1)))]) rfl ?_
                  exact ih (i + 1) (by omega) _ (by rw [← hq]; simp only [xFw, xNb, h19_4, eq_true h33_10, eq_true h51_16, eq_true h73_22, h77_23, eq_true h92_25, Bool.false_eq_true, not_false_eq_true, not_true_eq_false, and_self, and_true, true_and, and_false, false_and, or_true, true_or, or_false, false_or, or_self, if_true, if_false, eq_self, ite_true, ite_false, reduceIte])
  refine g_iconst C (v := 0) dX2_firstWrong_0 ci_0 ?_
  refine g_istore_n C (lv' := [(1, .int 0), (0, .ref (ta 0))]) dX2_firstWrong_1 rfl (by decide) rfl ?_
  refine g_iconst C (v := 0) dX2_firstWrong_2 ci_0 ?_
  refine g_istore_n C (lv' := [(2, .int 0), (1, .int 0), (0, .ref (ta 0))]) dX2_firstWrong_3 rfl (by decide) rfl ?_
  refine g_lv [2, 1, 0] (lv' := [(0, .ref (ta 0)), (1, .int 0), (2, .int 0)]) rfl ?_
  exact K n 0 rfl _ rfl
theorem fw_X2_isCompleteSum_fld15 : Cond.fieldLink RX2 15 "StuckRods$SumText" "length" "I" ∈ wsX2_isCompleteSum := (List.mem_cons_of_mem _ (List.mem_append_left _ (List.mem_of_getElem? (i := 0) rfl)))
theorem fl_X2_isCompleteSum_X2 : ∀ w ∈ wsX20, w ∈ wsX2_isCompleteSum := fun _ h => List.mem_cons_of_mem _ (List.mem_append_right _ h)
theorem hd_X2_firstWrong : yX2_firstWrong.cls = RX2 ∧ yX2_firstWrong.cls ≠ "java/lang/invoke/MethodHandle" ∧ yX2_firstWrong.cls ≠ "java/lang/invoke/VarHandle" ∧ (parseMethodDescriptor yX2_firstWrong.desc).map (fun d => d.parameters.length) = some 0 := by decide +kernel
theorem fw_X2_isCompleteSum_fld9 : Cond.fieldLink RX2 9 "StuckRods$SumText" "codes" "[I" ∈ wsX2_isCompleteSum := (List.mem_cons_of_mem _ (List.mem_append_left _ (List.mem_of_getElem? (i := 1) rfl)))
theorem fw_X2_isCompleteSum_iniX3 : Cond.initialized RX3 ∈ wsX2_isCompleteSum := (List.mem_cons_of_mem _ (List.mem_append_left _ (List.mem_of_getElem? (i := 8) rfl)))
theorem fw_X2_isCompleteSum_stisDigit : Cond.static yX3_isDigit ∈ wsX2_isCompleteSum := (List.mem_cons_of_mem _ (List.mem_append_left _ (List.mem_of_getElem? (i := 10) rfl)))
abbrev rmX2_isCompleteSum : Room := { frames := 2, cells := 0, slots := 0, locals := 43 }
set_option maxHeartbeats 4000000 in
set_option maxRecDepth 100000 in
theorem c_X2_isCompleteSum (l : Launch) (D : va_G) (cI cO : ClassId) (ta : Nat → Nat) (t : Nat → Int32) (n : Nat) (hn : n ≤ 60) : cR nF l yX2_isCompleteSum wsX2_isCompleteSum rmX2_isCompleteSum D vwCl (tyA cI cO) [.ref (ta 0)] (wT ta cI t (nI n)) (some (.int ((if xCs t n then 1 else 0)))) (wT ta cI t (nI n)) := by
  refine cR_of (cc := cX2_isCompleteSum) (maxL := 1) (ret := (some .boolean)) (by decide) rfl (Nat.le_of_ble_eq_true rfl) ?_
  intro p e s m below meth c A C hret hlk hnm hF
  refine g_lv [0] (lv' := [(0, .ref (ta 0))]) rfl ?_
  refine g_aload_n C dX2_isCompleteSum_0 0 rfl ?_
  refine g_get C (v := .int (nI n)) fl_X2_isCompleteSum_X2 0 rfl rfl 1 (by decide) fw_X2_isCompleteSum_fld15 rfl dX2_isCompleteSum_1 ?_
  refine g_iconst C (v := 1) dX2_isCompleteSum_4 ci_1 ?_
  refine g_icmp_lt C (tgt := 17) dX2_isCompleteSum_5 (by decide) (fun h5_1 => ?_) (fun h5_1 => ?_)
  · refine g_iconst C (v := 0) dX2_isCompleteSum_17 ci_0 ?_
    exact g_zret C hret hlk dX2_isCompleteSum_18 (Or.inl rfl) (by simp only [xCs, eq_true h5_1, Bool.false_eq_true, not_false_eq_true, not_true_eq_false, and_self, and_true, true_and, and_false, false_and, or_true, true_or, or_false, false_or, or_self, if_true, if_false, eq_self, ite_true, ite_false, reduceIte]) rfl
  · have hp1 : 1 ≤ n := pos1 h5_1
    refine g_aload_n C dX2_isCompleteSum_8 0 rfl ?_
    refine g_get C (v := .int (nI n)) fl_X2_isCompleteSum_X2 0 rfl rfl 1 (by decide) fw_X2_isCompleteSum_fld15 rfl dX2_isCompleteSum_9 ?_
    refine g_bipush C (v := 60) dX2_isCompleteSum_12 cb_60 ?_
    refine g_icmp_le C (tgt := 19) dX2_isCompleteSum_14 (by decide) (fun _ => ?_) (fun h14_2 => absurd (leI (b := 60) hn (by decide)) h14_2)
    refine g_aload_n C dX2_isCompleteSum_19 0 rfl ?_
    refine g_callVi C (c_X2_firstWrong l D cI cO ta t n hn) gX2_isCompleteSum_X2_firstWrong rfl ⟨rfl, rfl⟩ hd_X2_firstWrong ⟨Nat.le_of_ble_eq_true rfl, Nat.le_of_ble_eq_true rfl⟩ [0, 1] rfl (nF_w hF) rfl (rest := []) rfl (Nat.le_of_ble_eq_true rfl) dX2_isCompleteSum_20 ⟨Nat.zero_le _, Nat.zero_le _⟩ 0 rfl rfl rfl (pre := []) (post := []) (ws' := (wT ta cI t (nI n))) rfl rfl ?_
    refine g_aload_n C dX2_isCompleteSum_23 0 rfl ?_
    refine g_get C (v := .int (nI n)) fl_X2_isCompleteSum_X2 0 rfl rfl 1 (by decide) fw_X2_isCompleteSum_fld15 rfl dX2_isCompleteSum_24 ?_
    refine g_icmp_ne C (tgt := 51) dX2_isCompleteSum_27 (by decide) (fun h27_3 => ?_) (fun h27_3 => ?_)
    · refine g_iconst C (v := 0) dX2_isCompleteSum_51 ci_0 ?_
      exact g_zret C hret hlk dX2_isCompleteSum_52 (Or.inl rfl) (by simp only [xCs, h5_1, h27_3, Bool.false_eq_true, not_false_eq_true, not_true_eq_false, and_self, and_true, true_and, and_false, false_and, or_true, true_or, or_false, false_or, or_self, if_true, if_false, eq_self, ite_true, ite_false, reduceIte]) rfl
    · refine g_aload_n C dX2_isCompleteSum_30 0 rfl ?_
      refine g_get C (v := .ref (ta 1)) fl_X2_isCompleteSum_X2 0 rfl rfl 0 (by decide) fw_X2_isCompleteSum_fld9 rfl dX2_isCompleteSum_31 ?_
      refine g_aload_n C dX2_isCompleteSum_34 0 rfl ?_
      refine g_get C (v := .int (nI n)) fl_X2_isCompleteSum_X2 0 rfl rfl 1 (by decide) fw_X2_isCompleteSum_fld15 rfl dX2_isCompleteSum_35 ?_
      refine g_iconst C (v := 1) dX2_isCompleteSum_38 ci_1 ?_
      refine g_isub C (v := nI (n - 1)) dX2_isCompleteSum_39 (pk_sub (b := 1) hp1) ?_
      refine g_iald C (x := t (n - 1)) 1 0 rfl rfl (n - 1) rfl (by omega) (by decide) rfl dX2_isCompleteSum_40 ?_
      refine g_callSNi C (c_X3_isDigit l D cI cO (t (n - 1))) ggX2_isCompleteSum_X3_isDigit rfl (nF_23 hF) fw_X2_isCompleteSum_iniX3 fw_X2_isCompleteSum_stisDigit ⟨rfl, rfl⟩ hd_X3_isDigit ⟨Nat.le_of_ble_eq_true rfl, Nat.le_of_ble_eq_true rfl⟩ [0, 1] rfl (fun _ _ => trivial) rfl (rest := []) rfl (Nat.le_of_ble_eq_true rfl) dX2_isCompleteSum_41 ⟨Nat.zero_le _, Nat.zero_le _⟩ (pre := []) (post := (wT ta cI t (nI n))) (ws' := (wT ta cI t (nI n))) rfl rfl ?_
      refine g_if_eq C (tgt := 51) dX2_isCompleteSum_44 (by decide) (fun h44_4 => ?_) (fun h44_4 => ?_)
      · have h44_4 := bz h44_4
        refine g_iconst C (v := 0) dX2_isCompleteSum_51 ci_0 ?_
        exact g_zret C hret hlk dX2_isCompleteSum_52 (Or.inl rfl) (by simp only [xCs, h5_1, eq_true h27_3, h44_4, Bool.false_eq_true, not_false_eq_true, not_true_eq_false, and_self, and_true, true_and, and_false, false_and, or_true, true_or, or_false, false_or, or_self, if_true, if_false, eq_self, ite_true, ite_false, reduceIte]) rfl
      · have h44_4 := bnz h44_4
        refine g_iconst C (v := 1) dX2_isCompleteSum_47 ci_1 ?_
        refine g_goto C (tgt := 52) dX2_isCompleteSum_48 (by decide) ?_
        exact g_zret C hret hlk dX2_isCompleteSum_52 (Or.inr rfl) (by simp only [xCs, h5_1, eq_true h27_3, eq_true h44_4, Bool.false_eq_true, not_false_eq_true, not_true_eq_false, and_self, and_true, true_and, and_false, false_and, or_true, true_or, or_false, false_or, or_self, if_true, if_false, eq_self, ite_true, ite_false, reduceIte]) rfl
theorem fw_X2_digitsBehind_fld15 : Cond.fieldLink RX2 15 "StuckRods$SumText" "length" "I" ∈ wsX2_digitsBehind := (List.mem_cons_of_mem _ (List.mem_append_left _ (List.mem_of_getElem? (i := 0) rfl)))
theorem fl_X2_digitsBehind_X2 : ∀ w ∈ wsX20, w ∈ wsX2_digitsBehind := fun _ h => List.mem_cons_of_mem _ (List.mem_append_right _ h)
theorem fw_X2_digitsBehind_fld9 : Cond.fieldLink RX2 9 "StuckRods$SumText" "codes" "[I" ∈ wsX2_digitsBehind := (List.mem_cons_of_mem _ (List.mem_append_left _ (List.mem_of_getElem? (i := 1) rfl)))
theorem fw_X2_digitsBehind_iniX3 : Cond.initialized RX3 ∈ wsX2_digitsBehind := (List.mem_cons_of_mem _ (List.mem_append_left _ (List.mem_of_getElem? (i := 3) rfl)))
theorem fw_X2_digitsBehind_stisDigit : Cond.static yX3_isDigit ∈ wsX2_digitsBehind := (List.mem_cons_of_mem _ (List.mem_append_left _ (List.mem_of_getElem? (i := 2) rfl)))
abbrev rmX2_digitsBehind : Room := { frames := 1, cells := 0, slots := 0, locals := 20 }
set_option maxHeartbeats 4000000 in
set_option maxRecDepth 100000 in
theorem c_X2_digitsBehind (l : Launch) (D : va_G) (cI cO : ClassId) (ta : Nat → Nat) (t : Nat → Int32) (n : Nat) (hn : n ≤ 60) (q : Nat) (hq : q < n) : cR nF l yX2_digitsBehind wsX2_digitsBehind rmX2_digitsBehind D vwCl (tyA cI cO) [.ref (ta 0), .int (nI q)] (wT ta cI t (nI n)) (some (.int (nI (xDb t (n - (q + 1)) (q + 1) 0)))) (wT ta cI t (nI n)) := by
  refine cR_of (cc := cX2_digitsBehind) (maxL := 4) (ret := (some .int)) (by decide) rfl (Nat.le_of_ble_eq_true rfl) ?_
  intro p e s m below meth c A C hret hlk hnm hF
  refine g_lv [0, 1] (lv' := [(0, .ref (ta 0)), (1, .int (nI q))]) rfl ?_
  have K : ∀ (k i : Nat), k + i = n → ∀ a : Nat, xDb t k i a = xDb t (n - (q + 1)) (q + 1) 0 → gG p l e rmX2_digitsBehind s m ([.ref (ta 0), .int (nI q)] : List Value).toArray below meth c D vwCl A s.heap 4 (MQ below (cQ (some (.int (nI (xDb t (n - (q + 1)) (q + 1) 0)))) (cB D vwCl (tyA cI cO) A (wT ta cI t (nI n))) A) ([.ref (ta 0), .int (nI q)] : List Value).toArray s 0 0 A) 0 0 (wT ta cI t (nI n)) 6 [(0, .ref (ta 0)), (1, .int (nI q)), (2, .int (nI a)), (3, .int (nI i))] [] := by
    intro k
    induction k with
    | zero =>
      intro i hi a hq
      refine g_iload_n C dX2_digitsBehind_6 3 rfl ?_
      refine g_aload_n C dX2_digitsBehind_7 0 rfl ?_
      refine g_get C (v := .int (nI n)) fl_X2_digitsBehind_X2 0 rfl rfl 1 (by decide) fw_X2_digitsBehind_fld15 rfl dX2_digitsBehind_8 ?_
      refine g_icmp_ge C (tgt := 41) dX2_digitsBehind_11 (by decide) (fun _ => ?_) (fun h11_1 => absurd (leI (by omega) (by omega)) h11_1)
      refine g_iload_n C dX2_digitsBehind_41 2 rfl ?_
      exact g_iret C hret hlk dX2_digitsBehind_42 (congrArg nI hq) rfl
    | succ k ih =>
      intro i hi a hq
      refine g_iload_n C dX2_digitsBehind_6 3 rfl ?_
      refine g_aload_n C dX2_digitsBehind_7 0 rfl ?_
      refine g_get C (v := .int (nI n)) fl_X2_digitsBehind_X2 0 rfl rfl 1 (by decide) fw_X2_digitsBehind_fld15 rfl dX2_digitsBehind_8 ?_
      refine g_icmp_ge C (tgt := 41) dX2_digitsBehind_11 (by decide) (fun h11_2 => absurd h11_2 (nleI (by omega) (by omega))) (fun _ => ?_)
      refine g_iload_n C dX2_digitsBehind_14 3 rfl ?_
      refine g_bipush C (v := 60) dX2_digitsBehind_15 cb_60 ?_
      refine g_icmp_ge C (tgt := 41) dX2_digitsBehind_17 (by decide) (fun h17_3 => absurd h17_3 (nleI (b := 60) (by omega) (by decide))) (fun _ => ?_)
      refine g_aload_n C dX2_digitsBehind_20 0 rfl ?_
      refine g_get C (v := .ref (ta 1)) fl_X2_digitsBehind_X2 0 rfl rfl 0 (by decide) fw_X2_digitsBehind_fld9 rfl dX2_digitsBehind_21 ?_
      refine g_iload_n C dX2_digitsBehind_24 3 rfl ?_
      refine g_iald C (x := t i) 1 0 rfl rfl i rfl (by omega) (by decide) rfl dX2_digitsBehind_25 ?_
      refine g_callSNi C (c_X3_isDigit l D cI cO (t i)) ggX2_digitsBehind_X3_isDigit rfl (nF_23 hF) fw_X2_digitsBehind_iniX3 fw_X2_digitsBehind_stisDigit ⟨rfl, rfl⟩ hd_X3_isDigit ⟨Nat.le_of_ble_eq_true rfl, Nat.le_of_ble_eq_true rfl⟩ [0, 1] rfl (fun _ _ => trivial) rfl (rest := []) rfl (Nat.le_of_ble_eq_true rfl) dX2_digitsBehind_26 ⟨Nat.zero_le _, Nat.zero_le _⟩ (pre := []) (post := (wT ta cI t (nI n))) (ws' := (wT ta cI t (nI n))) rfl rfl ?_
      refine g_if_eq C (tgt := 41) dX2_digitsBehind_29 (by decide) (fun h29_4 => ?_) (fun h29_4 => ?_)
      · have h29_4 := bz h29_4
        refine g_iload_n C dX2_digitsBehind_41 2 rfl ?_
        exact g_iret C hret hlk dX2_digitsBehind_42 (by rw [← hq]; simp only [xDb, h29_4, Bool.false_eq_true, not_false_eq_true, not_true_eq_false, and_self, and_true, true_and, and_false, false_and, or_true, true_or, or_false, false_or, or_self, if_true, if_false, eq_self, ite_true, ite_false, reduceIte]) rfl
      · have h29_4 := bnz h29_4
        refine g_iinc C (v := nI (a + 1)) (lv' := [(2, .int (nI (a + 1))), (0, .ref (ta 0)), (1, .int (nI q)), (3, .int (nI i))]) dX2_digitsBehind_32 2 rfl (inc_nI _) (by decide) rfl ?_
        refine g_iinc C (v := nI (i + 1)) (lv' := [(3, .int (nI (i + 1))), (2, .int (nI (a + 1))), (0, .ref (ta 0)), (1, .int (nI q))]) dX2_digitsBehind_35 3 rfl (inc_nI _) (by decide) rfl ?_
        refine g_goto C (tgt := 6) dX2_digitsBehind_38 (by decide) ?_
        refine g_lv [2, 3, 1, 0] (lv' := [(0, .ref (ta 0)), (1, .int (nI q)), (2, .int (nI (a + 1))), (3, .int (nI (i + 1)))]) rfl ?_
        exact ih (i + 1) (by omega) _ (by rw [← hq]; simp only [xDb, eq_true h29_4, Bool.false_eq_true, not_false_eq_true, not_true_eq_false, and_self, and_true, true_and, and_false, false_and, or_true, true_or, or_false, false_or, or_self, if_true, if_false, eq_self, ite_true, ite_false, reduceIte])
  refine g_iconst C (v := 0) dX2_digitsBehind_0 ci_0 ?_
  refine g_istore_n C (lv' := [(2, .int 0), (0, .ref (ta 0)), (1, .int (nI q))]) dX2_digitsBehind_1 rfl (by decide) rfl ?_
  refine g_iload_n C dX2_digitsBehind_2 2 rfl ?_
  refine g_iconst C (v := 1) dX2_digitsBehind_3 ci_1 ?_
  refine g_iadd C (v := nI (q + 1)) dX2_digitsBehind_4 (nI_1 _) ?_
  refine g_istore_n C (lv' := [(3, .int (nI (q + 1))), (2, .int 0), (0, .ref (ta 0)), (1, .int (nI q))]) dX2_digitsBehind_5 rfl (by decide) rfl ?_
  refine g_lv [2, 3, 1, 0] (lv' := [(0, .ref (ta 0)), (1, .int (nI q)), (2, .int 0), (3, .int (nI (q + 1)))]) rfl ?_
  exact K (n - (q + 1)) (q + 1) (by omega) 0 rfl
