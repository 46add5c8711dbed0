theorem fw_L_low_const7 : Cond.constant RL 7 (2147483647) ∈ wsL_low := (List.mem_cons_of_mem _ (List.mem_of_getElem? (i := 0) rfl))
abbrev rmL_low : Room := { frames := 0, cells := 0, slots := 0, locals := 0 }
set_option maxHeartbeats 1000000 in
set_option maxRecDepth 100000 in
theorem c_L_low (l : Launch) (D : va_G) (cI cO : ClassId)  (v : Int32) (n : Nat) (h0 : 0 < n) (hn : n < 2 ^ 31) : cR (fun _ => True) l yL_low wsL_low rmL_low D vwCl (tyA cI cO) [.int v, .int (nI n)] ([] : va_W) (some (.int (nI (lw v n)))) ([] : va_W) := by
  refine cR_of (cc := cL_low) (maxL := 2) (ret := (some .int)) (by decide) rfl (Nat.le_of_ble_eq_true rfl) ?_
  intro p e s m below meth c A C hret hlk hnm hF
  refine g_lv [0, 1] (lv' := [(0, .int v), (1, .int (nI n))]) rfl ?_
  refine g_iload_n C dL_low_0 0 rfl ?_
  refine g_ldc C (v := 2147483647) dL_low_1 fw_L_low_const7 ?_
  refine g_iand C (v := nI (v.toBitVec.toNat % 2 ^ 31)) dL_low_3 (pk_and v 31 rfl) ?_
  refine g_iload_n C dL_low_4 1 rfl ?_
  refine g_irem C (v := nI (v.toBitVec.toNat % 2 ^ 31 % n)) dL_low_5 (nI_ne0 h0 hn) (pk_rem (Nat.mod_lt _ (Nat.two_pow_pos 31)) h0 hn) ?_
  exact g_iret C hret hlk dL_low_6 rfl rfl
abbrev rmL_cell : Room := { frames := 0, cells := 0, slots := 0, locals := 0 }
theorem c_L_cell (l : Launch) (D : va_G) (cI cO : ClassId) (b L : Nat) (xs : Nat → Int32) (hL : L ≤ 260) (q : Nat) (hq : q < 60) : cX l yL_cell wsL_cell rmL_cell D vwCl (tyA cI cO) b L xs [.ref b, .int (nI q)] (some (.int (xC xs L q))) := by
  refine cX_of (cc := cL_cell) (maxL := 2) (ret := (some .int)) (by decide) rfl (Nat.le_of_ble_eq_true rfl) ?_
  intro p e s m below meth c A C hret hlk hX hbl hbA
  refine g_lv [0, 1] (lv' := [(0, .ref b), (1, .int (nI q))]) rfl ?_
  refine g_iload_n C dL_cell_0 1 rfl ?_
  refine g_aload_n C dL_cell_1 0 rfl ?_
  refine g_slen C hX hbl hbA dL_cell_2 ?_
  refine g_icmp_ge C (tgt := 12) dL_cell_3 (by decide) (fun h3_1 => ?_) (fun h3_1 => ?_)
  · refine g_sipush C (v := 7919) dL_cell_12 cs_7919 ?_
    refine g_iload_n C dL_cell_15 1 rfl ?_
    refine g_iconst C (v := 3) dL_cell_16 ci_3 ?_
    refine g_iadd C (v := (nI q) + 3) dL_cell_17 rfl ?_
    refine g_imul C (v := 7919 * ((nI q) + 3)) dL_cell_18 rfl ?_
    refine g_iload_n C dL_cell_19 1 rfl ?_
    refine g_bipush C (v := 11) dL_cell_20 cb_11 ?_
    refine g_iadd C (v := (nI q) + 11) dL_cell_22 rfl ?_
    refine g_imul C (v := (7919 * ((nI q) + 3)) * ((nI q) + 11)) dL_cell_23 rfl ?_
    exact g_iret C hret hlk dL_cell_24 (by simp only [xC, eq_true h3_1, Bool.false_eq_true, not_false_eq_true, not_true_eq_false, and_self, and_true, true_and, and_false, false_and, or_true, true_or, or_false, false_or, or_self, if_true, if_false, eq_self, ite_true, ite_false, reduceIte]) rfl
  · refine g_aload_n C dL_cell_6 0 rfl ?_
    refine g_iload_n C dL_cell_7 1 rfl ?_
    refine g_sld C (x := xs q) hX hbl hbA (by omega) q rfl (Nat.lt_of_not_le fun z => h3_1 (nI_le z (by omega))) rfl dL_cell_8 ?_
    refine g_goto C (tgt := 24) dL_cell_9 (by decide) ?_
    exact g_iret C hret hlk dL_cell_24 (by simp only [xC, h3_1, Bool.false_eq_true, not_false_eq_true, not_true_eq_false, and_self, and_true, true_and, and_false, false_and, or_true, true_or, or_false, false_or, or_self, if_true, if_false, eq_self, ite_true, ite_false, reduceIte]) rfl
theorem fw_L_power_const49 : Cond.constantLong RL 49 (10) ∈ wsL_power := (List.mem_cons_of_mem _ (List.mem_of_getElem? (i := 0) rfl))
abbrev rmL_power : Room := { frames := 0, cells := 0, slots := 0, locals := 0 }
set_option maxHeartbeats 1000000 in
set_option maxRecDepth 100000 in
theorem c_L_power (l : Launch) (D : va_G) (cI cO : ClassId)  (q : Nat) (hq : q < 9) : cR (fun _ => True) l yL_power wsL_power rmL_power D vwCl (tyA cI cO) [.int (nI q)] ([] : va_W) (some (.long (Int64.ofInt (10 ^ q)))) ([] : va_W) := by
  refine cR_of (cc := cL_power) (maxL := 4) (ret := (some .long)) (by decide) rfl (Nat.le_of_ble_eq_true rfl) ?_
  intro p e s m below meth c A C hret hlk hnm hF
  refine g_lv [0] (lv' := [(0, .int (nI q))]) rfl ?_
  have K : ∀ (n i : Nat), n + i = q → ∀ x : Int64, x = Int64.ofInt (10 ^ i) → gG p l e rmL_power s m ([.int (nI q)] : List Value).toArray below meth c D vwCl A s.heap 4 (MQ below (cQ (some (.long (Int64.ofInt (10 ^ q)))) (cB D vwCl (tyA cI cO) A ([] : va_W)) A) ([.int (nI q)] : List Value).toArray s 0 0 A) 0 0 ([] : va_W) 4 [(0, .int (nI q)), (1, .long x), (3, .int (nI i))] [] := by
    intro n
    induction n with
    | zero =>
      intro i hi x hx
      obtain rfl : i = q := by omega
      refine g_iload_n C dL_power_4 2 rfl ?_
      refine g_iload_n C dL_power_5 0 rfl ?_
      refine g_icmp_ge C (tgt := 21) dL_power_6 (by decide) (fun _ => ?_) (fun h6_1 => absurd (leI (Nat.le_refl _) (by omega)) h6_1)
      refine g_lload_n C dL_power_21 1 rfl ?_
      exact g_lret C hret hlk dL_power_22 hx rfl
    | succ n ih =>
      intro i hi x hx
      refine g_iload_n C dL_power_4 2 rfl ?_
      refine g_iload_n C dL_power_5 0 rfl ?_
      refine g_icmp_ge C (tgt := 21) dL_power_6 (by decide) (fun h6_2 => absurd h6_2 (nleI (by omega) (by omega))) (fun _ => ?_)
      refine g_lload_n C dL_power_9 1 rfl ?_
      refine g_ldc2 C (v := 10) dL_power_10 fw_L_power_const49 ?_
      refine g_lmul C (v := x * 10) dL_power_13 rfl ?_
      refine g_lstore_n C (lv' := [(1, .long (x * 10)), (0, .int (nI q)), (3, .int (nI i))]) dL_power_14 rfl (by decide) rfl ?_
      refine g_iinc C (v := nI (i + 1)) (lv' := [(3, .int (nI (i + 1))), (1, .long (x * 10)), (0, .int (nI q))]) dL_power_15 2 rfl (inc_nI _) (by decide) rfl ?_
      refine g_goto C (tgt := 4) dL_power_18 (by decide) ?_
      refine g_lv [2, 1, 0] (lv' := [(0, .int (nI q)), (1, .long (x * 10)), (3, .int (nI (i + 1)))]) rfl ?_
      exact ih (i + 1) (by omega) _ (by rw [hx, Int.pow_succ, Int64.ofInt_mul]; rfl)
  refine g_lconst C (v := 1) dL_power_0 rfl ?_
  refine g_lstore_n C (lv' := [(1, .long 1), (0, .int (nI q))]) dL_power_1 rfl (by decide) rfl ?_
  refine g_iconst C (v := 0) dL_power_2 ci_0 ?_
  refine g_istore_n C (lv' := [(3, .int 0), (1, .long 1), (0, .int (nI q))]) dL_power_3 rfl (by decide) rfl ?_
  refine g_lv [2, 1, 0] (lv' := [(0, .int (nI q)), (1, .long 1), (3, .int 0)]) rfl ?_
  exact K q 0 rfl _ rfl
theorem xTo_t {g : Nat → Int32} {k q w : Nat} {a : Int32} (h : xTv g q (nI (w % 10)) = -1) : xTo g (k + 1) q w a = -1 := if_pos h
theorem xTo_f {g : Nat → Int32} {k q w : Nat} {a : Int32} (h : ¬ xTv g q (nI (w % 10)) = -1) : xTo g (k + 1) q w a = xTo g k (q + 1) (w / 10) (a + xTv g q (nI (w % 10))) := if_neg h
theorem hd_X3_toShow : yX3_toShow.cls = RX3 ∧ yX3_toShow.cls ≠ "java/lang/invoke/MethodHandle" ∧ yX3_toShow.cls ≠ "java/lang/invoke/VarHandle" ∧ (parseMethodDescriptor yX3_toShow.desc).map (fun d => d.parameters.length) = some 1 := by decide +kernel
theorem hd_X3_looseness : yX3_looseness.cls = RX3 ∧ yX3_looseness.cls ≠ "java/lang/invoke/MethodHandle" ∧ yX3_looseness.cls ≠ "java/lang/invoke/VarHandle" ∧ (parseMethodDescriptor yX3_looseness.desc).map (fun d => d.parameters.length) = some 0 := by decide +kernel
theorem hd_X3_moves : yX3_moves.cls = RX3 ∧ yX3_moves.cls ≠ "java/lang/invoke/MethodHandle" ∧ yX3_moves.cls ≠ "java/lang/invoke/VarHandle" ∧ (parseMethodDescriptor yX3_moves.desc).map (fun d => d.parameters.length) = some 2 := by decide +kernel
abbrev rmL_isShownSo : Room := { frames := 5, cells := 0, slots := 0, locals := 118 }
set_option maxHeartbeats 1000000 in
set_option maxRecDepth 100000 in
theorem c_L_isShownSo (l : Launch) (D : va_G) (cI cO : ClassId) (xa : Nat) (ta ha : Nat → Nat) (hb : Nat → Nat → Nat) (ad : Nat → Nat) (t : Nat → Int32) (n : Nat) (G : Nat → Nat → Int32) (g : Nat → Int32) (o z : Nat) (hn : n ≤ 60) (ho : o < 6) (hz : z ≤ 6) (hI : Iv g) (m9 : Nat) (hm9 : m9 ≤ 999999999) : cR (fun _ => True) l yL_isShownSo wsL_isShownSo rmL_isShownSo D vwCl (tyA cI cO) [.ref xa, .int (nI m9)] ((wS0 xa ad ha ta) ++ ((wT ta cI t (nI n)) ++ ((wHs ha hb cI cO G (nI o) (nI z)) ++ (wB ad cI g)))) (some (.int 1)) ((wS0 xa ad ha ta) ++ ((wT ta cI t (nI n)) ++ ((wHs ha hb cI cO G (nI o) (nI z)) ++ (wB ad cI g)))) := by
  refine cR_of (cc := cL_isShownSo) (maxL := 7) (ret := (some .boolean)) (by decide) rfl (Nat.le_of_ble_eq_true rfl) ?_
  intro p e s m below meth c A C hret hlk hnm hF
  refine g_lv [0, 1] (lv' := [(0, .ref xa), (1, .int (nI m9))]) rfl ?_
  have K : ∀ (k q : Nat), k + q = 9 → ∀ (w : Nat) (a c9 : Int32), w ≤ 999999999 → (c9 = 1 ∧ xTo g k q w a = xTo g 9 0 m9 0) ∨ (c9 = 0 ∧ xTo g 9 0 m9 0 = -1) → gG p l e rmL_isShownSo s m ([.ref xa, .int (nI m9)] : List Value).toArray below meth c D vwCl A s.heap 7 (MQ below (cQ (some (.int 1)) (cB D vwCl (tyA cI cO) A ((wS0 xa ad ha ta) ++ ((wT ta cI t (nI n)) ++ ((wHs ha hb cI cO G (nI o) (nI z)) ++ (wB ad cI g))))) A) ([.ref xa, .int (nI m9)] : List Value).toArray s 0 0 A) 0 0 ((wS0 xa ad ha ta) ++ ((wT ta cI t (nI n)) ++ ((wHs ha hb cI cO G (nI o) (nI z)) ++ (wB ad cI g)))) 10 [(0, .ref xa), (1, .int (nI m9)), (2, .int a), (3, .int (nI w)), (4, .int c9), (5, .int (nI q))] [] := by
    intro k
    induction k with
    | zero =>
      intro q hn9 w a c9 hw hc
      obtain rfl : q = 9 := by omega
      rcases hc with ⟨rfl, hc⟩ | ⟨rfl, hc⟩
      · refine g_iload C dL_isShownSo_10 5 rfl ?_
        refine g_bipush C (v := 9) dL_isShownSo_12 cb_9 ?_
        refine g_icmp_ge C (tgt := 62) dL_isShownSo_14 (by decide) (fun _ => ?_) (fun h14_1 => absurd (by decide) h14_1)
        refine g_aload_n C dL_isShownSo_62 0 rfl ?_
        refine g_iload_n C dL_isShownSo_63 1 rfl ?_
        refine g_callVi C (c_X3_toShow l D cI cO xa ta ha hb ad t n G g o z hn ho hz m9 hm9) gL_isShownSo_X3_toShow rfl ⟨rfl, rfl⟩ hd_X3_toShow ⟨Nat.le_of_ble_eq_true rfl, Nat.le_of_ble_eq_true rfl⟩ [0, 1] rfl (fun _ _ => trivial) rfl (rest := []) rfl (Nat.le_of_ble_eq_true rfl) dL_isShownSo_64 ⟨Nat.zero_le _, Nat.zero_le _⟩ 0 rfl rfl rfl (pre := []) (post := []) (ws' := ((wS0 xa ad ha ta) ++ ((wT ta cI t (nI n)) ++ ((wHs ha hb cI cO G (nI o) (nI z)) ++ (wB ad cI g))))) rfl rfl ?_
        refine g_iload C dL_isShownSo_67 4 rfl ?_
        refine g_if_eq C (tgt := 76) dL_isShownSo_69 (by decide) (fun h69_2 => absurd h69_2 (by decide)) (fun _ => ?_)
        refine g_iload_n C dL_isShownSo_72 2 rfl ?_
        refine g_goto C (tgt := 77) dL_isShownSo_73 (by decide) ?_
        refine g_icmp_ne C (tgt := 102) dL_isShownSo_77 (by decide) (fun h77_3 => absurd hc.symm h77_3) (fun _ => ?_)
        refine g_aload_n C dL_isShownSo_80 0 rfl ?_
        refine g_callVd C (c_X3_looseness l D cI cO xa ta ha hb ad t n G g o z hn ho hz) gL_isShownSo_X3_looseness rfl ⟨rfl, rfl⟩ hd_X3_looseness ⟨Nat.le_of_ble_eq_true rfl, Nat.le_of_ble_eq_true rfl⟩ [0, 1] rfl (fun _ _ => trivial) rfl (rest := []) rfl (Nat.le_of_ble_eq_true rfl) dL_isShownSo_81 ⟨Nat.zero_le _, Nat.zero_le _⟩ 0 rfl rfl rfl (pre := []) (post := []) (ws' := ((wS0 xa ad ha ta) ++ ((wT ta cI t (nI n)) ++ ((wHs ha hb cI cO G (nI o) (nI z)) ++ (wB ad cI g))))) rfl rfl ?_
        refine g_dconst0 C dL_isShownSo_84 ?_
        refine g_dcmp C (v := Op.cmpValue (FP.dcmp (xLo g) FP.dconst0) CmpOp.l) dL_isShownSo_85 rfl ?_
        refine g_if_le C (tgt := 102) dL_isShownSo_86 (by decide) (fun h86_4 => absurd h86_4 (lLo hI).1) (fun _ => ?_)
        refine g_aload_n C dL_isShownSo_89 0 rfl ?_
        refine g_callVd C (c_X3_looseness l D cI cO xa ta ha hb ad t n G g o z hn ho hz) gL_isShownSo_X3_looseness rfl ⟨rfl, rfl⟩ hd_X3_looseness ⟨Nat.le_of_ble_eq_true rfl, Nat.le_of_ble_eq_true rfl⟩ [0, 1] rfl (fun _ _ => trivial) rfl (rest := []) rfl (Nat.le_of_ble_eq_true rfl) dL_isShownSo_90 ⟨Nat.zero_le _, Nat.zero_le _⟩ 0 rfl rfl rfl (pre := []) (post := []) (ws' := ((wS0 xa ad ha ta) ++ ((wT ta cI t (nI n)) ++ ((wHs ha hb cI cO G (nI o) (nI z)) ++ (wB ad cI g))))) rfl rfl ?_
        refine g_dconst1 C dL_isShownSo_93 ?_
        refine g_dcmp C (v := Op.cmpValue (FP.dcmp (xLo g) FP.dconst1) CmpOp.g) dL_isShownSo_94 rfl ?_
        refine g_if_gt C (tgt := 102) dL_isShownSo_95 (by decide) (fun h95_5 => absurd h95_5 (lLo hI).2) (fun _ => ?_)
        refine g_iconst C (v := 1) dL_isShownSo_98 ci_1 ?_
        refine g_goto C (tgt := 103) dL_isShownSo_99 (by decide) ?_
        exact g_zret C hret hlk dL_isShownSo_103 (Or.inr rfl) rfl rfl
      · refine g_iload C dL_isShownSo_10 5 rfl ?_
        refine g_bipush C (v := 9) dL_isShownSo_12 cb_9 ?_
        refine g_icmp_ge C (tgt := 62) dL_isShownSo_14 (by decide) (fun _ => ?_) (fun h14_6 => absurd (by decide) h14_6)
        refine g_aload_n C dL_isShownSo_62 0 rfl ?_
        refine g_iload_n C dL_isShownSo_63 1 rfl ?_
        refine g_callVi C (c_X3_toShow l D cI cO xa ta ha hb ad t n G g o z hn ho hz m9 hm9) gL_isShownSo_X3_toShow rfl ⟨rfl, rfl⟩ hd_X3_toShow ⟨Nat.le_of_ble_eq_true rfl, Nat.le_of_ble_eq_true rfl⟩ [0, 1] rfl (fun _ _ => trivial) rfl (rest := []) rfl (Nat.le_of_ble_eq_true rfl) dL_isShownSo_64 ⟨Nat.zero_le _, Nat.zero_le _⟩ 0 rfl rfl rfl (pre := []) (post := []) (ws' := ((wS0 xa ad ha ta) ++ ((wT ta cI t (nI n)) ++ ((wHs ha hb cI cO G (nI o) (nI z)) ++ (wB ad cI g))))) rfl rfl ?_
        refine g_iload C dL_isShownSo_67 4 rfl ?_
        refine g_if_eq C (tgt := 76) dL_isShownSo_69 (by decide) (fun _ => ?_) (fun h69_7 => absurd (by decide) h69_7)
        refine g_iconst C (v := -1) dL_isShownSo_76 ci_m1 ?_
        refine g_icmp_ne C (tgt := 102) dL_isShownSo_77 (by decide) (fun h77_8 => absurd hc h77_8) (fun _ => ?_)
        refine g_aload_n C dL_isShownSo_80 0 rfl ?_
        refine g_callVd C (c_X3_looseness l D cI cO xa ta ha hb ad t n G g o z hn ho hz) gL_isShownSo_X3_looseness rfl ⟨rfl, rfl⟩ hd_X3_looseness ⟨Nat.le_of_ble_eq_true rfl, Nat.le_of_ble_eq_true rfl⟩ [0, 1] rfl (fun _ _ => trivial) rfl (rest := []) rfl (Nat.le_of_ble_eq_true rfl) dL_isShownSo_81 ⟨Nat.zero_le _, Nat.zero_le _⟩ 0 rfl rfl rfl (pre := []) (post := []) (ws' := ((wS0 xa ad ha ta) ++ ((wT ta cI t (nI n)) ++ ((wHs ha hb cI cO G (nI o) (nI z)) ++ (wB ad cI g))))) rfl rfl ?_
        refine g_dconst0 C dL_isShownSo_84 ?_
        refine g_dcmp C (v := Op.cmpValue (FP.dcmp (xLo g) FP.dconst0) CmpOp.l) dL_isShownSo_85 rfl ?_
        refine g_if_le C (tgt := 102) dL_isShownSo_86 (by decide) (fun h86_9 => absurd h86_9 (lLo hI).1) (fun _ => ?_)
        refine g_aload_n C dL_isShownSo_89 0 rfl ?_
        refine g_callVd C (c_X3_looseness l D cI cO xa ta ha hb ad t n G g o z hn ho hz) gL_isShownSo_X3_looseness rfl ⟨rfl, rfl⟩ hd_X3_looseness ⟨Nat.le_of_ble_eq_true rfl, Nat.le_of_ble_eq_true rfl⟩ [0, 1] rfl (fun _ _ => trivial) rfl (rest := []) rfl (Nat.le_of_ble_eq_true rfl) dL_isShownSo_90 ⟨Nat.zero_le _, Nat.zero_le _⟩ 0 rfl rfl rfl (pre := []) (post := []) (ws' := ((wS0 xa ad ha ta) ++ ((wT ta cI t (nI n)) ++ ((wHs ha hb cI cO G (nI o) (nI z)) ++ (wB ad cI g))))) rfl rfl ?_
        refine g_dconst1 C dL_isShownSo_93 ?_
        refine g_dcmp C (v := Op.cmpValue (FP.dcmp (xLo g) FP.dconst1) CmpOp.g) dL_isShownSo_94 rfl ?_
        refine g_if_gt C (tgt := 102) dL_isShownSo_95 (by decide) (fun h95_10 => absurd h95_10 (lLo hI).2) (fun _ => ?_)
        refine g_iconst C (v := 1) dL_isShownSo_98 ci_1 ?_
        refine g_goto C (tgt := 103) dL_isShownSo_99 (by decide) ?_
        exact g_zret C hret hlk dL_isShownSo_103 (Or.inr rfl) rfl rfl
    | succ k ih =>
      intro q hn9 w a c9 hw hc
      have hq9 : q < 9 := by omega
      have hR := hI.1 q hq9
      rcases hc with ⟨rfl, hc⟩ | ⟨rfl, hc⟩
      · refine g_iload C dL_isShownSo_10 5 rfl ?_
        refine g_bipush C (v := 9) dL_isShownSo_12 cb_9 ?_
        refine g_icmp_ge C (tgt := 62) dL_isShownSo_14 (by decide) (fun h14_11 => absurd h14_11 (ge9 hq9)) (fun _ => ?_)
        refine g_aload_n C dL_isShownSo_17 0 rfl ?_
        refine g_iload C dL_isShownSo_18 5 rfl ?_
        refine g_iload_n C dL_isShownSo_20 3 rfl ?_
        refine g_bipush C (v := 10) dL_isShownSo_21 cb_10 ?_
        refine g_irem C (v := nI (w % 10)) dL_isShownSo_23 (by decide) (pk_rem (d := 10) (by omega) (by decide) (by decide)) ?_
        refine g_callVi C (c_X3_moves l D cI cO xa ta ha hb ad t n G g o z hn ho hz q hq9 (nI (w % 10)) ((nI_pos (by omega))) ((nI_le (b := 15) (by omega) (by decide)))) gL_isShownSo_X3_moves rfl ⟨rfl, rfl⟩ hd_X3_moves ⟨Nat.le_of_ble_eq_true rfl, Nat.le_of_ble_eq_true rfl⟩ [0, 1] rfl (fun _ _ => trivial) rfl (rest := []) rfl (Nat.le_of_ble_eq_true rfl) dL_isShownSo_24 ⟨Nat.zero_le _, Nat.zero_le _⟩ 0 rfl rfl rfl (pre := []) (post := []) (ws' := ((wS0 xa ad ha ta) ++ ((wT ta cI t (nI n)) ++ ((wHs ha hb cI cO G (nI o) (nI z)) ++ (wB ad cI g))))) rfl rfl ?_
        refine g_istore C (lv' := [(6, .int (xTv g q (nI (w % 10)))), (0, .ref xa), (1, .int (nI m9)), (2, .int a), (3, .int (nI w)), (4, .int 1), (5, .int (nI q))]) dL_isShownSo_27 (by decide) rfl ?_
        refine g_iload C dL_isShownSo_29 5 rfl ?_
        refine g_if_eq C (tgt := 43) dL_isShownSo_31 (by decide) (fun h31_12 => absurd h31_12 (by decide)) (fun _ => ?_)
        refine g_iload C dL_isShownSo_34 0 rfl ?_
        refine g_if_lt C (tgt := 43) dL_isShownSo_36 (by decide) (fun h36_13 => ?_) (fun h36_13 => ?_)
        · refine g_iconst C (v := 0) dL_isShownSo_43 ci_0 ?_
          refine g_istore C (lv' := [(4, .int 0), (6, .int (xTv g q (nI (w % 10)))), (0, .ref xa), (1, .int (nI m9)), (2, .int a), (3, .int (nI w)), (5, .int (nI q))]) dL_isShownSo_44 (by decide) rfl ?_
          refine g_iload_n C dL_isShownSo_46 4 rfl ?_
          refine g_iload C dL_isShownSo_47 1 rfl ?_
          refine g_iadd C (v := a + (xTv g q (nI (w % 10)))) dL_isShownSo_49 rfl ?_
          refine g_istore_n C (lv' := [(2, .int (a + (xTv g q (nI (w % 10))))), (4, .int 0), (6, .int (xTv g q (nI (w % 10)))), (0, .ref xa), (1, .int (nI m9)), (3, .int (nI w)), (5, .int (nI q))]) dL_isShownSo_50 rfl (by decide) rfl ?_
          refine g_iload_n C dL_isShownSo_51 5 rfl ?_
          refine g_bipush C (v := 10) dL_isShownSo_52 cb_10 ?_
          refine g_idiv C (v := nI (w / 10)) dL_isShownSo_54 (by decide) (pk_div (d := 10) (by omega) (by decide) (by decide)) ?_
          refine g_istore_n C (lv' := [(3, .int (nI (w / 10))), (2, .int (a + (xTv g q (nI (w % 10))))), (4, .int 0), (6, .int (xTv g q (nI (w % 10)))), (0, .ref xa), (1, .int (nI m9)), (5, .int (nI q))]) dL_isShownSo_55 rfl (by decide) rfl ?_
          refine g_iinc C (v := nI (q + 1)) (lv' := [(5, .int (nI (q + 1))), (3, .int (nI (w / 10))), (2, .int (a + (xTv g q (nI (w % 10))))), (4, .int 0), (6, .int (xTv g q (nI (w % 10)))), (0, .ref xa), (1, .int (nI m9))]) dL_isShownSo_56 6 rfl (inc_nI _) (by decide) rfl ?_
          refine g_goto C (tgt := 10) dL_isShownSo_59 (by decide) ?_
          refine g_lv [5, 6, 2, 1, 3, 0] (lv' := [(0, .ref xa), (1, .int (nI m9)), (2, .int (a + (xTv g q (nI (w % 10))))), (3, .int (nI (w / 10))), (4, .int 0), (5, .int (nI (q + 1)))]) rfl ?_
          exact ih (q + 1) (by omega) _ _ _ (by omega) (Or.inr ⟨rfl, by rw [← hc]; exact xTo_t ((eT_lt hR _).mp h36_13)⟩)
        · refine g_iconst C (v := 1) dL_isShownSo_39 ci_1 ?_
          refine g_goto C (tgt := 44) dL_isShownSo_40 (by decide) ?_
          refine g_istore C (lv' := [(4, .int 1), (6, .int (xTv g q (nI (w % 10)))), (0, .ref xa), (1, .int (nI m9)), (2, .int a), (3, .int (nI w)), (5, .int (nI q))]) dL_isShownSo_44 (by decide) rfl ?_
          refine g_iload_n C dL_isShownSo_46 4 rfl ?_
          refine g_iload C dL_isShownSo_47 1 rfl ?_
          refine g_iadd C (v := a + (xTv g q (nI (w % 10)))) dL_isShownSo_49 rfl ?_
          refine g_istore_n C (lv' := [(2, .int (a + (xTv g q (nI (w % 10))))), (4, .int 1), (6, .int (xTv g q (nI (w % 10)))), (0, .ref xa), (1, .int (nI m9)), (3, .int (nI w)), (5, .int (nI q))]) dL_isShownSo_50 rfl (by decide) rfl ?_
          refine g_iload_n C dL_isShownSo_51 5 rfl ?_
          refine g_bipush C (v := 10) dL_isShownSo_52 cb_10 ?_
          refine g_idiv C (v := nI (w / 10)) dL_isShownSo_54 (by decide) (pk_div (d := 10) (by omega) (by decide) (by decide)) ?_
          refine g_istore_n C (lv' := [(3, .int (nI (w / 10))), (2, .int (a + (xTv g q (nI (w % 10))))), (4, .int 1), (6, .int (xTv g q (nI (w % 10)))), (0, .ref xa), (1, .int (nI m9)), (5, .int (nI q))]) dL_isShownSo_55 rfl (by decide) rfl ?_
          refine g_iinc C (v := nI (q + 1)) (lv' := [(5, .int (nI (q + 1))), (3, .int (nI (w / 10))), (2, .int (a + (xTv g q (nI (w % 10))))), (4, .int 1), (6, .int (xTv g q (nI (w % 10)))), (0, .ref xa), (1, .int (nI m9))]) dL_isShownSo_56 6 rfl (inc_nI _) (by decide) rfl ?_
          refine g_goto C (tgt := 10) dL_isShownSo_59 (by decide) ?_
          refine g_lv [5, 6, 2, 1, 3, 0] (lv' := [(0, .ref xa), (1, .int (nI m9)), (2, .int (a + (xTv g q (nI (w % 10))))), (3, .int (nI (w / 10))), (4, .int 1), (5, .int (nI (q + 1)))]) rfl ?_
          exact ih (q + 1) (by omega) _ _ _ (by omega) (Or.inl ⟨rfl, by rw [← hc]; exact (xTo_f (fun z => h36_13 ((eT_lt hR _).mpr z))).symm⟩)
      · refine g_iload C dL_isShownSo_10 5 rfl ?_
        refine g_bipush C (v := 9) dL_isShownSo_12 cb_9 ?_
        refine g_icmp_ge C (tgt := 62) dL_isShownSo_14 (by decide) (fun h14_14 => absurd h14_14 (ge9 hq9)) (fun _ => ?_)
        refine g_aload_n C dL_isShownSo_17 0 rfl ?_
        refine g_iload C dL_isShownSo_18 5 rfl ?_
        refine g_iload_n C dL_isShownSo_20 3 rfl ?_
        refine g_bipush C (v := 10) dL_isShownSo_21 cb_10 ?_
        refine g_irem C (v := nI (w % 10)) dL_isShownSo_23 (by decide) (pk_rem (d := 10) (by omega) (by decide) (by decide)) ?_
        refine g_callVi C (c_X3_moves l D cI cO xa ta ha hb ad t n G g o z hn ho hz q hq9 (nI (w % 10)) ((nI_pos (by omega))) ((nI_le (b := 15) (by omega) (by decide)))) gL_isShownSo_X3_moves rfl ⟨rfl, rfl⟩ hd_X3_moves ⟨Nat.le_of_ble_eq_true rfl, Nat.le_of_ble_eq_true rfl⟩ [0, 1] rfl (fun _ _ => trivial) rfl (rest := []) rfl (Nat.le_of_ble_eq_true rfl) dL_isShownSo_24 ⟨Nat.zero_le _, Nat.zero_le _⟩ 0 rfl rfl rfl (pre := []) (post := []) (ws' := ((wS0 xa ad ha ta) ++ ((wT ta cI t (nI n)) ++ ((wHs ha hb cI cO G (nI o) (nI z)) ++ (wB ad cI g))))) rfl rfl ?_
        refine g_istore C (lv' := [(6, .int (xTv g q (nI (w % 10)))), (0, .ref xa), (1, .int (nI m9)), (2, .int a), (3, .int (nI w)), (4, .int 0), (5, .int (nI q))]) dL_isShownSo_27 (by decide) rfl ?_
        refine g_iload C dL_isShownSo_29 5 rfl ?_
        refine g_if_eq C (tgt := 43) dL_isShownSo_31 (by decide) (fun _ => ?_) (fun h31_15 => absurd (by decide) h31_15)
        refine g_iconst C (v := 0) dL_isShownSo_43 ci_0 ?_
        refine g_istore C (lv' := [(4, .int 0), (6, .int (xTv g q (nI (w % 10)))), (0, .ref xa), (1, .int (nI m9)), (2, .int a), (3, .int (nI w)), (5, .int (nI q))]) dL_isShownSo_44 (by decide) rfl ?_
        refine g_iload_n C dL_isShownSo_46 4 rfl ?_
        refine g_iload C dL_isShownSo_47 1 rfl ?_
        refine g_iadd C (v := a + (xTv g q (nI (w % 10)))) dL_isShownSo_49 rfl ?_
        refine g_istore_n C (lv' := [(2, .int (a + (xTv g q (nI (w % 10))))), (4, .int 0), (6, .int (xTv g q (nI (w % 10)))), (0, .ref xa), (1, .int (nI m9)), (3, .int (nI w)), (5, .int (nI q))]) dL_isShownSo_50 rfl (by decide) rfl ?_
        refine g_iload_n C dL_isShownSo_51 5 rfl ?_
        refine g_bipush C (v := 10) dL_isShownSo_52 cb_10 ?_
        refine g_idiv C (v := nI (w / 10)) dL_isShownSo_54 (by decide) (pk_div (d := 10) (by omega) (by decide) (by decide)) ?_
        refine g_istore_n C (lv' := [(3, .int (nI (w / 10))), (2, .int (a + (xTv g q (nI (w % 10))))), (4, .int 0), (6, .int (xTv g q (nI (w % 10)))), (0, .ref xa), (1, .int (nI m9)), (5, .int (nI q))]) dL_isShownSo_55 rfl (by decide) rfl ?_
        refine g_iinc C (v := nI (q + 1)) (lv' := [(5, .int (nI (q + 1))), (3, .int (nI (w / 10))), (2, .int (a + (xTv g q (nI (w % 10))))), (4, .int 0), (6, .int (xTv g q (nI (w % 10)))), (0, .ref xa), (1, .int (nI m9))]) dL_isShownSo_56 6 rfl (inc_nI _) (by decide) rfl ?_
        refine g_goto C (tgt := 10) dL_isShownSo_59 (by decide) ?_
        refine g_lv [5, 6, 2, 1, 3, 0] (lv' := [(0, .ref xa), (1, .int (nI m9)), (2, .int (a + (xTv g q (nI (w % 10))))), (3, .int (nI (w / 10))), (4, .int 0), (5, .int (nI (q + 1)))]) rfl ?_
        exact ih (q + 1) (by omega) _ _ _ (by omega) (Or.inr ⟨rfl, hc⟩)
  refine g_iconst C (v := 0) dL_isShownSo_0 ci_0 ?_
  refine g_istore_n C (lv' := [(2, .int 0), (0, .ref xa), (1, .int (nI m9))]) dL_isShownSo_1 rfl (by decide) rfl ?_
  refine g_iload_n C dL_isShownSo_2 2 rfl ?_
  refine g_istore_n C (lv' := [(3, .int (nI m9)), (2, .int 0), (0, .ref xa), (1, .int (nI m9))]) dL_isShownSo_3 rfl (by decide) rfl ?_
  refine g_iconst C (v := 1) dL_isShownSo_4 ci_1 ?_
  refine g_istore C (lv' := [(4, .int 1), (3, .int (nI m9)), (2, .int 0), (0, .ref xa), (1, .int (nI m9))]) dL_isShownSo_5 (by decide) rfl ?_
  refine g_iconst C (v := 0) dL_isShownSo_7 ci_0 ?_
  refine g_istore C (lv' := [(5, .int 0), (4, .int 1), (3, .int (nI m9)), (2, .int 0), (0, .ref xa), (1, .int (nI m9))]) dL_isShownSo_8 (by decide) rfl ?_
  refine g_lv [4, 5, 3, 2, 1, 0] (lv' := [(0, .ref xa), (1, .int (nI m9)), (2, .int 0), (3, .int (nI m9)), (4, .int 1), (5, .int 0)]) rfl ?_
  exact K 9 0 rfl m9 0 1 hm9 (Or.inl ⟨rfl, rfl⟩)
def xD : Nat → Int32
  | 0 => -1
  | j + 1 => nI j
theorem xD_dec (j : Nat) : nI j + Int32.ofInt (-1) = xD j := by
  cases j with
  | zero => decide
  | succ j => exact pk_m1 j
theorem xRe_p {g : Nat → Int32} {r n : Nat} {x : Int32} (hR : Rd9 g r) (h : xTv g r (nI n) < 0) (hx : x = xRe g r n) : x + 0 = xRe g r (n + 1) := by
  rw [hx, Int32.add_zero]
  exact (if_pos ((eT_lt hR _).mp h)).symm
theorem xRe_m {g : Nat → Int32} {r n : Nat} {x : Int32} (hR : Rd9 g r) (h : ¬ xTv g r (nI n) < 0) (hx : x = xRe g r n) : x + 1 = xRe g r (n + 1) := by
  rw [hx]
  exact (if_neg (fun z => h ((eT_lt hR _).mpr z))).symm
theorem hd_X3_count : yX3_count.cls = RX3 ∧ yX3_count.cls ≠ "java/lang/invoke/MethodHandle" ∧ yX3_count.cls ≠ "java/lang/invoke/VarHandle" ∧ (parseMethodDescriptor yX3_count.desc).map (fun d => d.parameters.length) = some 1 := by decide +kernel
theorem fw_L_areRodsSo_const51 : Cond.constantLong RL 51 (9) ∈ wsL_areRodsSo := (List.mem_cons_of_mem _ (List.mem_append_left _ (List.mem_append_left _ (List.mem_append_left _ (List.mem_append_left _ (List.mem_append_left _ (List.mem_append_left _ (List.mem_of_getElem? (i := 1) rfl))))))))
theorem hd_X3_whole : yX3_whole.cls = RX3 ∧ yX3_whole.cls ≠ "java/lang/invoke/MethodHandle" ∧ yX3_whole.cls ≠ "java/lang/invoke/VarHandle" ∧ (parseMethodDescriptor yX3_whole.desc).map (fun d => d.parameters.length) = some 0 := by decide +kernel
theorem fw_L_areRodsSo_const49 : Cond.constantLong RL 49 (10) ∈ wsL_areRodsSo := (List.mem_cons_of_mem _ (List.mem_append_left _ (List.mem_append_left _ (List.mem_append_left _ (List.mem_append_left _ (List.mem_append_left _ (List.mem_append_left _ (List.mem_of_getElem? (i := 0) rfl))))))))
theorem hd_X3_rod : yX3_rod.cls = RX3 ∧ yX3_rod.cls ≠ "java/lang/invoke/MethodHandle" ∧ yX3_rod.cls ≠ "java/lang/invoke/VarHandle" ∧ (parseMethodDescriptor yX3_rod.desc).map (fun d => d.parameters.length) = some 2 := by decide +kernel
abbrev rmL_areRodsSo : Room := { frames := 5, cells := 0, slots := 0, locals := 118 }
set_option maxHeartbeats 1000000 in
set_option maxRecDepth 100000 in
theorem c_L_areRodsSo (l : Launch) (D : va_G) (cI cO : ClassId) (xa : Nat) (ta ha : Nat → Nat) (hb : Nat → Nat → Nat) (ad : Nat → Nat) (t : Nat → Int32) (n : Nat) (G : Nat → Nat → Int32) (g : Nat → Int32) (o z : Nat) (hn : n ≤ 60) (ho : o < 6) (hz : z ≤ 6) (hI : Iv g)  : cR (fun _ => True) l yL_areRodsSo wsL_areRodsSo rmL_areRodsSo D vwCl (tyA cI cO) [.ref xa] ((wS0 xa ad ha ta) ++ ((wT ta cI t (nI n)) ++ ((wHs ha hb cI cO G (nI o) (nI z)) ++ (wB ad cI g)))) (some (.int 1)) ((wS0 xa ad ha ta) ++ ((wT ta cI t (nI n)) ++ ((wHs ha hb cI cO G (nI o) (nI z)) ++ (wB ad cI g)))) := by
  refine cR_of (cc := cL_areRodsSo) (maxL := 21) (ret := (some .boolean)) (by decide) rfl (Nat.le_of_ble_eq_true rfl) ?_
  intro p e s m below meth c A C hret hlk hnm hF
  refine g_lv [0] (lv' := [(0, .ref xa)]) rfl ?_
  have K : ∀ j : Nat, j ≤ 9 → ∀ (a1 a2 a3 a4 a5 a6 : Int32) (w9 : Int64), a1 = dS (f1 g) (9 - j) → a2 = dS (f2 g) (9 - j) → a3 = dS (f3 g) (9 - j) → a4 = dS (f4 g) (9 - j) → a5 = dS (f5 g) (9 - j) → a6 = dS (f6 g) (9 - j) → w9 = dW g (9 - j) → gG p l e rmL_areRodsSo s m ([.ref xa] : List Value).toArray below meth c D vwCl A s.heap 21 (MQ below (cQ (some (.int 1)) (cB D vwCl (tyA cI cO) A ((wS0 xa ad ha ta) ++ ((wT ta cI t (nI n)) ++ ((wHs ha hb cI cO G (nI o) (nI z)) ++ (wB ad cI g))))) A) ([.ref xa] : List Value).toArray s 0 0 A) 0 0 ((wS0 xa ad ha ta) ++ ((wT ta cI t (nI n)) ++ ((wHs ha hb cI cO G (nI o) (nI z)) ++ (wB ad cI g)))) 25 [(0, .ref xa), (1, .int a1), (2, .int a2), (3, .int a3), (4, .int a4), (5, .int a5), (6, .int a6), (7, .long w9), (9, .int 1), (10, .int (xD j))] [] := by
    intro j
    induction j with
    | zero =>
      intro _ a1 a2 a3 a4 a5 a6 w9 h1 h2 h3 h4 h5 h6 h7
      have K552 : ∀ x9 : Int64, x9 = (if 0 ≤ lg_cmp (w9 - w9 / 9 * 9) 0 then w9 - w9 / 9 * 9 else w9 - w9 / 9 * 9 + 9) → gG p l e rmL_areRodsSo s m ([.ref xa] : List Value).toArray below meth c D vwCl A s.heap 21 (MQ below (cQ (some (.int 1)) (cB D vwCl (tyA cI cO) A ((wS0 xa ad ha ta) ++ ((wT ta cI t (nI n)) ++ ((wHs ha hb cI cO G (nI o) (nI z)) ++ (wB ad cI g))))) A) ([.ref xa] : List Value).toArray s 0 0 A) 0 0 ((wS0 xa ad ha ta) ++ ((wT ta cI t (nI n)) ++ ((wHs ha hb cI cO G (nI o) (nI z)) ++ (wB ad cI g)))) 552 [(0, .ref xa), (1, .int a1), (2, .int a2), (3, .int a3), (4, .int a4), (5, .int a5), (6, .int a6), (7, .long w9), (9, .int 1), (10, .long (w9 - w9 / 9 * 9))] [.long x9, .int (xCn g z 3)] := by
        intro x9 hx9
        refine g_l2i C (v := x9.toInt32) dL_areRodsSo_552 rfl ?_
        refine g_icmp_ne C (tgt := 580) dL_areRodsSo_553 (by decide) (fun h553_1 => absurd (by rw [hx9, h7]; exact (c3 hI z).symm) h553_1) (fun _ => ?_)
        refine g_iload C dL_areRodsSo_556 5 rfl ?_
        refine g_aload_n C dL_areRodsSo_558 0 rfl ?_
        refine g_iconst C (v := 4) dL_areRodsSo_559 ci_4 ?_
        refine g_callVi C (c_X3_count l D cI cO xa ta ha hb ad t n G g o z hn ho hz 4 ((by decide))) gL_areRodsSo_X3_count rfl ⟨rfl, rfl⟩ hd_X3_count ⟨Nat.le_of_ble_eq_true rfl, Nat.le_of_ble_eq_true rfl⟩ [0, 1] rfl (fun _ _ => trivial) rfl (rest := [.int a5]) rfl (Nat.le_of_ble_eq_true rfl) dL_areRodsSo_560 ⟨Nat.zero_le _, Nat.zero_le _⟩ 0 rfl rfl rfl (pre := []) (post := []) (ws' := ((wS0 xa ad ha ta) ++ ((wT ta cI t (nI n)) ++ ((wHs ha hb cI cO G (nI o) (nI z)) ++ (wB ad cI g))))) rfl rfl ?_
        refine g_icmp_ne C (tgt := 580) dL_areRodsSo_563 (by decide) (fun h563_2 => absurd (by rw [h5]; exact c4 hI z) h563_2) (fun _ => ?_)
        refine g_iload C dL_areRodsSo_566 6 rfl ?_
        refine g_aload_n C dL_areRodsSo_568 0 rfl ?_
        refine g_iconst C (v := 5) dL_areRodsSo_569 ci_5 ?_
        refine g_callVi C (c_X3_count l D cI cO xa ta ha hb ad t n G g o z hn ho hz 5 ((by decide))) gL_areRodsSo_X3_count rfl ⟨rfl, rfl⟩ hd_X3_count ⟨Nat.le_of_ble_eq_true rfl, Nat.le_of_ble_eq_true rfl⟩ [0, 1] rfl (fun _ _ => trivial) rfl (rest := [.int a6]) rfl (Nat.le_of_ble_eq_true rfl) dL_areRodsSo_570 ⟨Nat.zero_le _, Nat.zero_le _⟩ 0 rfl rfl rfl (pre := []) (post := []) (ws' := ((wS0 xa ad ha ta) ++ ((wT ta cI t (nI n)) ++ ((wHs ha hb cI cO G (nI o) (nI z)) ++ (wB ad cI g))))) rfl rfl ?_
        refine g_icmp_ne C (tgt := 580) dL_areRodsSo_573 (by decide) (fun h573_3 => absurd (by rw [h6]; exact c5 hI z) h573_3) (fun _ => ?_)
        refine g_iconst C (v := 1) dL_areRodsSo_576 ci_1 ?_
        refine g_goto C (tgt := 581) dL_areRodsSo_577 (by decide) ?_
        exact g_zret C hret hlk dL_areRodsSo_581 (Or.inr rfl) rfl rfl
      refine g_iload C dL_areRodsSo_25 9 rfl ?_
      refine g_if_lt C (tgt := 476) dL_areRodsSo_27 (by decide) (fun _ => ?_) (fun h27_4 => absurd (by decide) h27_4)
      refine g_lload C dL_areRodsSo_476 7 rfl ?_
      refine g_ldc2 C (v := 9) dL_areRodsSo_478 fw_L_areRodsSo_const51 ?_
      refine g_lrem C (v := w9 - w9 / 9 * 9) dL_areRodsSo_481 (by decide) rfl ?_
      refine g_lstore C (lv' := [(10, .long (w9 - w9 / 9 * 9)), (0, .ref xa), (1, .int a1), (2, .int a2), (3, .int a3), (4, .int a4), (5, .int a5), (6, .int a6), (7, .long w9), (9, .int 1)]) dL_areRodsSo_482 (by decide) rfl ?_
      refine g_iload C dL_areRodsSo_484 9 rfl ?_
      refine g_if_eq C (tgt := 580) dL_areRodsSo_486 (by decide) (fun h486_5 => absurd h486_5 (by decide)) (fun _ => ?_)
      refine g_lload C dL_areRodsSo_489 8 rfl ?_
      refine g_aload_n C dL_areRodsSo_491 1 rfl ?_
      refine g_callVl C (c_X3_whole l D cI cO xa ta ha hb ad t n G g o z hn ho hz) gL_areRodsSo_X3_whole rfl ⟨rfl, rfl⟩ hd_X3_whole ⟨Nat.le_of_ble_eq_true rfl, Nat.le_of_ble_eq_true rfl⟩ [0, 1] rfl (fun _ _ => trivial) rfl (rest := [.long w9]) rfl (Nat.le_of_ble_eq_true rfl) dL_areRodsSo_492 ⟨Nat.zero_le _, Nat.zero_le _⟩ 0 rfl rfl rfl (pre := []) (post := []) (ws' := ((wS0 xa ad ha ta) ++ ((wT ta cI t (nI n)) ++ ((wHs ha hb cI cO G (nI o) (nI z)) ++ (wB ad cI g))))) rfl rfl ?_
      refine g_lcmp C (v := lg_cmp w9 ((xWs g 9).1)) dL_areRodsSo_495 rfl ?_
      refine g_if_ne C (tgt := 580) dL_areRodsSo_496 (by decide) (fun h496_6 => absurd (lgz (by rw [h7]; exact dW_w hI)) h496_6) (fun _ => ?_)
      refine g_iload_n C dL_areRodsSo_499 2 rfl ?_
      refine g_aload_n C dL_areRodsSo_500 1 rfl ?_
      refine g_iconst C (v := 0) dL_areRodsSo_501 ci_0 ?_
      refine g_callVi C (c_X3_count l D cI cO xa ta ha hb ad t n G g o z hn ho hz 0 ((by decide))) gL_areRodsSo_X3_count rfl ⟨rfl, rfl⟩ hd_X3_count ⟨Nat.le_of_ble_eq_true rfl, Nat.le_of_ble_eq_true rfl⟩ [0, 1] rfl (fun _ _ => trivial) rfl (rest := [.int a1]) rfl (Nat.le_of_ble_eq_true rfl) dL_areRodsSo_502 ⟨Nat.zero_le _, Nat.zero_le _⟩ 0 rfl rfl rfl (pre := []) (post := []) (ws' := ((wS0 xa ad ha ta) ++ ((wT ta cI t (nI n)) ++ ((wHs ha hb cI cO G (nI o) (nI z)) ++ (wB ad cI g))))) rfl rfl ?_
      refine g_icmp_ne C (tgt := 580) dL_areRodsSo_505 (by decide) (fun h505_7 => absurd (by rw [h1]; exact c0 g z) h505_7) (fun _ => ?_)
      refine g_iload_n C dL_areRodsSo_508 4 rfl ?_
      refine g_aload_n C dL_areRodsSo_509 1 rfl ?_
      refine g_iconst C (v := 1) dL_areRodsSo_510 ci_1 ?_
      refine g_callVi C (c_X3_count l D cI cO xa ta ha hb ad t n G g o z hn ho hz 1 ((by decide))) gL_areRodsSo_X3_count rfl ⟨rfl, rfl⟩ hd_X3_count ⟨Nat.le_of_ble_eq_true rfl, Nat.le_of_ble_eq_true rfl⟩ [0, 1] rfl (fun _ _ => trivial) rfl (rest := [.int a3]) rfl (Nat.le_of_ble_eq_true rfl) dL_areRodsSo_511 ⟨Nat.zero_le _, Nat.zero_le _⟩ 0 rfl rfl rfl (pre := []) (post := []) (ws' := ((wS0 xa ad ha ta) ++ ((wT ta cI t (nI n)) ++ ((wHs ha hb cI cO G (nI o) (nI z)) ++ (wB ad cI g))))) rfl rfl ?_
      refine g_icmp_ne C (tgt := 580) dL_areRodsSo_514 (by decide) (fun h514_8 => absurd (by rw [h3]; exact c1 g z) h514_8) (fun _ => ?_)
      refine g_iload_n C dL_areRodsSo_517 3 rfl ?_
      refine g_bipush C (v := 100) dL_areRodsSo_518 cb_100 ?_
      refine g_iadd C (v := a2 + 100) dL_areRodsSo_520 rfl ?_
      refine g_aload_n C dL_areRodsSo_521 1 rfl ?_
      refine g_iconst C (v := 2) dL_areRodsSo_522 ci_2 ?_
      refine g_callVi C (c_X3_count l D cI cO xa ta ha hb ad t n G g o z hn ho hz 2 ((by decide))) gL_areRodsSo_X3_count rfl ⟨rfl, rfl⟩ hd_X3_count ⟨Nat.le_of_ble_eq_true rfl, Nat.le_of_ble_eq_true rfl⟩ [0, 1] rfl (fun _ _ => trivial) rfl (rest := [.int (a2 + 100)]) rfl (Nat.le_of_ble_eq_true rfl) dL_areRodsSo_523 ⟨Nat.zero_le _, Nat.zero_le _⟩ 0 rfl rfl rfl (pre := []) (post := []) (ws' := ((wS0 xa ad ha ta) ++ ((wT ta cI t (nI n)) ++ ((wHs ha hb cI cO G (nI o) (nI z)) ++ (wB ad cI g))))) rfl rfl ?_
      refine g_icmp_ne C (tgt := 580) dL_areRodsSo_526 (by decide) (fun h526_9 => absurd (by rw [h2]; exact c2 g z) h526_9) (fun _ => ?_)
      refine g_aload_n C dL_areRodsSo_529 1 rfl ?_
      refine g_iconst C (v := 3) dL_areRodsSo_530 ci_3 ?_
      refine g_callVi C (c_X3_count l D cI cO xa ta ha hb ad t n G g o z hn ho hz 3 ((by decide))) gL_areRodsSo_X3_count rfl ⟨rfl, rfl⟩ hd_X3_count ⟨Nat.le_of_ble_eq_true rfl, Nat.le_of_ble_eq_true rfl⟩ [0, 1] rfl (fun _ _ => trivial) rfl (rest := []) rfl (Nat.le_of_ble_eq_true rfl) dL_areRodsSo_531 ⟨Nat.zero_le _, Nat.zero_le _⟩ 0 rfl rfl rfl (pre := []) (post := []) (ws' := ((wS0 xa ad ha ta) ++ ((wT ta cI t (nI n)) ++ ((wHs ha hb cI cO G (nI o) (nI z)) ++ (wB ad cI g))))) rfl rfl ?_
      refine g_lload C dL_areRodsSo_534 0 rfl ?_
      refine g_lconst C (v := 0) dL_areRodsSo_536 rfl ?_
      refine g_lcmp C (v := lg_cmp (w9 - w9 / 9 * 9) 0) dL_areRodsSo_537 rfl ?_
      refine g_if_ge C (tgt := 550) dL_areRodsSo_538 (by decide) (fun h538_10 => ?_) (fun h538_10 => ?_)
      · refine g_lload C dL_areRodsSo_550 0 rfl ?_
        refine g_lv [1, 2, 3, 4, 5, 6, 7, 8, 9, 0] (lv' := [(0, .ref xa), (1, .int a1), (2, .int a2), (3, .int a3), (4, .int a4), (5, .int a5), (6, .int a6), (7, .long w9), (9, .int 1), (10, .long (w9 - w9 / 9 * 9))]) rfl ?_
        exact K552 _ (by simp only [eq_true h538_10, Bool.false_eq_true, not_false_eq_true, not_true_eq_false, and_self, and_true, true_and, and_false, false_and, or_true, true_or, or_false, false_or, or_self, if_true, if_false, eq_self, ite_true, ite_false, reduceIte])
      · refine g_lload C dL_areRodsSo_541 0 rfl ?_
        refine g_ldc2 C (v := 9) dL_areRodsSo_543 fw_L_areRodsSo_const51 ?_
        refine g_ladd C (v := (w9 - w9 / 9 * 9) + 9) dL_areRodsSo_546 rfl ?_
        refine g_goto C (tgt := 552) dL_areRodsSo_547 (by decide) ?_
        refine g_lv [1, 2, 3, 4, 5, 6, 7, 8, 9, 0] (lv' := [(0, .ref xa), (1, .int a1), (2, .int a2), (3, .int a3), (4, .int a4), (5, .int a5), (6, .int a6), (7, .long w9), (9, .int 1), (10, .long (w9 - w9 / 9 * 9))]) rfl ?_
        exact K552 _ (by simp only [h538_10, Bool.false_eq_true, not_false_eq_true, not_true_eq_false, and_self, and_true, true_and, and_false, false_and, or_true, true_or, or_false, false_or, or_self, if_true, if_false, eq_self, ite_true, ite_false, reduceIte])
    | succ j ih =>
      intro hj a1 a2 a3 a4 a5 a6 w9 h1 h2 h3 h4 h5 h6 h7
      have hj9 : j < 9 := hj
      have hR := hI.1 j hj9
      have K351 : ∀ s3 s5 can x6 : Int32, s3 = a3 + f3 g j → s5 = a5 + f5 g j → can = xRod g j 7 → x6 = f6 g j → gG p l e rmL_areRodsSo s m ([.ref xa] : List Value).toArray below meth c D vwCl A s.heap 21 (MQ below (cQ (some (.int 1)) (cB D vwCl (tyA cI cO) A ((wS0 xa ad ha ta) ++ ((wT ta cI t (nI n)) ++ ((wHs ha hb cI cO G (nI o) (nI z)) ++ (wB ad cI g))))) A) ([.ref xa] : List Value).toArray s 0 0 A) 0 0 ((wS0 xa ad ha ta) ++ ((wT ta cI t (nI n)) ++ ((wHs ha hb cI cO G (nI o) (nI z)) ++ (wB ad cI g)))) 351 [(0, .ref xa), (1, .int (a1 + xRod g j 5)), (2, .int (a2 + (xRod g j 3 - 100))), (3, .int s3), (4, .int (a4 + xRod g j 2)), (5, .int s5), (6, .int a6), (7, .long w9), (9, .int 1), (10, .int (nI j)), (11, .int (xRod g j 0)), (12, .int (xRod g j 1)), (13, .int (xRod g j 3 - 100)), (14, .int can)] [.int x6, .int a6] := by
        intro s3 s5 can x6 hs3 hs5 hcan hx6
        refine g_iadd C (v := a6 + x6) dL_areRodsSo_351 rfl ?_
        refine g_istore C (lv' := [(6, .int (a6 + x6)), (0, .ref xa), (1, .int (a1 + xRod g j 5)), (2, .int (a2 + (xRod g j 3 - 100))), (3, .int s3), (4, .int (a4 + xRod g j 2)), (5, .int s5), (7, .long w9), (9, .int 1), (10, .int (nI j)), (11, .int (xRod g j 0)), (12, .int (xRod g j 1)), (13, .int (xRod g j 3 - 100)), (14, .int can)]) dL_areRodsSo_352 (by decide) rfl ?_
        refine g_ldc2 C (v := 10) dL_areRodsSo_354 fw_L_areRodsSo_const49 ?_
        refine g_lload C dL_areRodsSo_357 7 rfl ?_
        refine g_lmul C (v := 10 * w9) dL_areRodsSo_359 rfl ?_
        refine g_aload_n C dL_areRodsSo_360 1 rfl ?_
        refine g_iload C dL_areRodsSo_361 9 rfl ?_
        refine g_iconst C (v := 2) dL_areRodsSo_363 ci_2 ?_
        refine g_callVi C (c_X3_rod l D cI cO xa ta ha hb ad t n G g o z hn ho hz j hj9 2 ((by decide))) gL_areRodsSo_X3_rod rfl ⟨rfl, rfl⟩ hd_X3_rod ⟨Nat.le_of_ble_eq_true rfl, Nat.le_of_ble_eq_true rfl⟩ [0, 1] rfl (fun _ _ => trivial) rfl (rest := [.long (10 * w9)]) rfl (Nat.le_of_ble_eq_true rfl) dL_areRodsSo_364 ⟨Nat.zero_le _, Nat.zero_le _⟩ 0 rfl rfl rfl (pre := []) (post := []) (ws' := ((wS0 xa ad ha ta) ++ ((wT ta cI t (nI n)) ++ ((wHs ha hb cI cO G (nI o) (nI z)) ++ (wB ad cI g))))) rfl rfl ?_
        refine g_i2l C (v := (xRod g j 2).toInt64) dL_areRodsSo_367 rfl ?_
        refine g_ladd C (v := (10 * w9) + ((xRod g j 2).toInt64)) dL_areRodsSo_368 rfl ?_
        refine g_iload C dL_areRodsSo_369 12 rfl ?_
        refine g_i2l C (v := (xRod g j 3 - 100).toInt64) dL_areRodsSo_371 rfl ?_
        refine g_ladd C (v := ((10 * w9) + ((xRod g j 2).toInt64)) + ((xRod g j 3 - 100).toInt64)) dL_areRodsSo_372 rfl ?_
        refine g_lstore C (lv' := [(7, .long (((10 * w9) + ((xRod g j 2).toInt64)) + ((xRod g j 3 - 100).toInt64))), (6, .int (a6 + x6)), (0, .ref xa), (1, .int (a1 + xRod g j 5)), (2, .int (a2 + (xRod g j 3 - 100))), (3, .int s3), (4, .int (a4 + xRod g j 2)), (5, .int s5), (9, .int 1), (10, .int (nI j)), (11, .int (xRod g j 0)), (12, .int (xRod g j 1)), (13, .int (xRod g j 3 - 100)), (14, .int can)]) dL_areRodsSo_373 (by decide) rfl ?_
        refine g_iload C dL_areRodsSo_375 8 rfl ?_
        refine g_if_eq C (tgt := 467) dL_areRodsSo_377 (by decide) (fun h377_11 => absurd h377_11 (by decide)) (fun _ => ?_)
        refine g_iload C dL_areRodsSo_380 10 rfl ?_
        refine g_if_lt C (tgt := 467) dL_areRodsSo_382 (by decide) (fun h382_12 => absurd h382_12 (rd_f hR).1) (fun _ => ?_)
        refine g_iload C dL_areRodsSo_385 10 rfl ?_
        refine g_iconst C (v := 3) dL_areRodsSo_387 ci_3 ?_
        refine g_icmp_ge C (tgt := 467) dL_areRodsSo_388 (by decide) (fun h388_13 => absurd h388_13 (rd_f hR).2) (fun _ => ?_)
        refine g_iload C dL_areRodsSo_391 11 rfl ?_
        refine g_if_lt C (tgt := 467) dL_areRodsSo_393 (by decide) (fun h393_14 => absurd h393_14 (rd_o hR).1) (fun _ => ?_)
        refine g_iload C dL_areRodsSo_396 11 rfl ?_
        refine g_bipush C (v := 6) dL_areRodsSo_398 cb_6 ?_
        refine g_icmp_ge C (tgt := 467) dL_areRodsSo_400 (by decide) (fun h400_15 => absurd h400_15 (rd_o hR).2) (fun _ => ?_)
        refine g_aload_n C dL_areRodsSo_403 2 rfl ?_
        refine g_iload C dL_areRodsSo_404 9 rfl ?_
        refine g_iconst C (v := 2) dL_areRodsSo_406 ci_2 ?_
        refine g_callVi C (c_X3_rod l D cI cO xa ta ha hb ad t n G g o z hn ho hz j hj9 2 ((by decide))) gL_areRodsSo_X3_rod rfl ⟨rfl, rfl⟩ hd_X3_rod ⟨Nat.le_of_ble_eq_true rfl, Nat.le_of_ble_eq_true rfl⟩ [0, 1] rfl (fun _ _ => trivial) rfl (rest := []) rfl (Nat.le_of_ble_eq_true rfl) dL_areRodsSo_407 ⟨Nat.zero_le _, Nat.zero_le _⟩ 0 rfl rfl rfl (pre := []) (post := []) (ws' := ((wS0 xa ad ha ta) ++ ((wT ta cI t (nI n)) ++ ((wHs ha hb cI cO G (nI o) (nI z)) ++ (wB ad cI g))))) rfl rfl ?_
        refine g_iconst C (v := 5) dL_areRodsSo_410 ci_5 ?_
        refine g_iload C dL_areRodsSo_411 10 rfl ?_
        refine g_imul C (v := 5 * (xRod g j 0)) dL_areRodsSo_413 rfl ?_
        refine g_iload C dL_areRodsSo_414 11 rfl ?_
        refine g_iadd C (v := (5 * (xRod g j 0)) + (xRod g j 1)) dL_areRodsSo_416 rfl ?_
        refine g_icmp_ne C (tgt := 467) dL_areRodsSo_417 (by decide) (fun h417_16 => absurd rfl h417_16) (fun _ => ?_)
        refine g_iload C dL_areRodsSo_420 12 rfl ?_
        refine g_bipush C (v := -10) dL_areRodsSo_422 cb_m10 ?_
        refine g_icmp_le C (tgt := 467) dL_areRodsSo_424 (by decide) (fun h424_17 => absurd h424_17 (rd_l hR).1) (fun _ => ?_)
        refine g_iload C dL_areRodsSo_427 12 rfl ?_
        refine g_bipush C (v := 10) dL_areRodsSo_429 cb_10 ?_
        refine g_icmp_ge C (tgt := 467) dL_areRodsSo_431 (by decide) (fun h431_18 => absurd h431_18 (rd_l hR).2) (fun _ => ?_)
        refine g_iload C dL_areRodsSo_434 13 rfl ?_
        refine g_aload_n C dL_areRodsSo_436 2 rfl ?_
        refine g_iload C dL_areRodsSo_437 9 rfl ?_
        refine g_bipush C (v := 7) dL_areRodsSo_439 cb_7 ?_
        refine g_callVi C (c_X3_rod l D cI cO xa ta ha hb ad t n G g o z hn ho hz j hj9 7 ((by decide))) gL_areRodsSo_X3_rod rfl ⟨rfl, rfl⟩ hd_X3_rod ⟨Nat.le_of_ble_eq_true rfl, Nat.le_of_ble_eq_true rfl⟩ [0, 1] rfl (fun _ _ => trivial) rfl (rest := [.int can]) rfl (Nat.le_of_ble_eq_true rfl) dL_areRodsSo_441 ⟨Nat.zero_le _, Nat.zero_le _⟩ 0 rfl rfl rfl (pre := []) (post := []) (ws' := ((wS0 xa ad ha ta) ++ ((wT ta cI t (nI n)) ++ ((wHs ha hb cI cO G (nI o) (nI z)) ++ (wB ad cI g))))) rfl rfl ?_
        refine g_icmp_ne C (tgt := 467) dL_areRodsSo_444 (by decide) (fun h444_19 => absurd hcan h444_19) (fun _ => ?_)
        refine g_aload_n C dL_areRodsSo_447 2 rfl ?_
        refine g_iload C dL_areRodsSo_448 9 rfl ?_
        refine g_aload_n C dL_areRodsSo_450 2 rfl ?_
        refine g_iload C dL_areRodsSo_451 9 rfl ?_
        refine g_iconst C (v := 2) dL_areRodsSo_453 ci_2 ?_
        refine g_callVi C (c_X3_rod l D cI cO xa ta ha hb ad t n G g o z hn ho hz j hj9 2 ((by decide))) gL_areRodsSo_X3_rod rfl ⟨rfl, rfl⟩ hd_X3_rod ⟨Nat.le_of_ble_eq_true rfl, Nat.le_of_ble_eq_true rfl⟩ [0, 1] rfl (fun _ _ => trivial) rfl (rest := [.int (nI j), .ref xa]) rfl (Nat.le_of_ble_eq_true rfl) dL_areRodsSo_454 ⟨Nat.zero_le _, Nat.zero_le _⟩ 0 rfl rfl rfl (pre := []) (post := []) (ws' := ((wS0 xa ad ha ta) ++ ((wT ta cI t (nI n)) ++ ((wHs ha hb cI cO G (nI o) (nI z)) ++ (wB ad cI g))))) rfl rfl ?_
        refine g_callVi C (c_X3_moves l D cI cO xa ta ha hb ad t n G g o z hn ho hz j hj9 (xRod g j 2) ((rd_2 hR).1) ((rd_2 hR).2)) gL_areRodsSo_X3_moves rfl ⟨rfl, rfl⟩ hd_X3_moves ⟨Nat.le_of_ble_eq_true rfl, Nat.le_of_ble_eq_true rfl⟩ [0, 1] rfl (fun _ _ => trivial) rfl (rest := []) rfl (Nat.le_of_ble_eq_true rfl) dL_areRodsSo_457 ⟨Nat.zero_le _, Nat.zero_le _⟩ 0 rfl rfl rfl (pre := []) (post := []) (ws' := ((wS0 xa ad ha ta) ++ ((wT ta cI t (nI n)) ++ ((wHs ha hb cI cO G (nI o) (nI z)) ++ (wB ad cI g))))) rfl rfl ?_
        refine g_if_ne C (tgt := 467) dL_areRodsSo_460 (by decide) (fun h460_20 => absurd (eOwnV hR) h460_20) (fun _ => ?_)
        refine g_iconst C (v := 1) dL_areRodsSo_463 ci_1 ?_
        refine g_goto C (tgt := 468) dL_areRodsSo_464 (by decide) ?_
        refine g_istore C (lv' := [(9, .int 1), (7, .long (((10 * w9) + ((xRod g j 2).toInt64)) + ((xRod g j 3 - 100).toInt64))), (6, .int (a6 + x6)), (0, .ref xa), (1, .int (a1 + xRod g j 5)), (2, .int (a2 + (xRod g j 3 - 100))), (3, .int s3), (4, .int (a4 + xRod g j 2)), (5, .int s5), (10, .int (nI j)), (11, .int (xRod g j 0)), (12, .int (xRod g j 1)), (13, .int (xRod g j 3 - 100)), (14, .int can)]) dL_areRodsSo_468 (by decide) rfl ?_
        refine g_iinc C (v := xD j) (lv' := [(10, .int (xD j)), (9, .int 1), (7, .long (((10 * w9) + ((xRod g j 2).toInt64)) + ((xRod g j 3 - 100).toInt64))), (6, .int (a6 + x6)), (0, .ref xa), (1, .int (a1 + xRod g j 5)), (2, .int (a2 + (xRod g j 3 - 100))), (3, .int s3), (4, .int (a4 + xRod g j 2)), (5, .int s5), (11, .int (xRod g j 0)), (12, .int (xRod g j 1)), (13, .int (xRod g j 3 - 100)), (14, .int can)]) dL_areRodsSo_470 9 rfl (xD_dec j) (by decide) rfl ?_
        refine g_goto C (tgt := 25) dL_areRodsSo_473 (by decide) ?_
        refine g_lv [4, 5, 6, 7, 8, 9, 3, 2, 1, 0] (lv' := [(0, .ref xa), (1, .int (a1 + xRod g j 5)), (2, .int (a2 + (xRod g j 3 - 100))), (3, .int s3), (4, .int (a4 + xRod g j 2)), (5, .int s5), (6, .int (a6 + x6)), (7, .long (((10 * w9) + ((xRod g j 2).toInt64)) + ((xRod g j 3 - 100).toInt64))), (9, .int 1), (10, .int (xD j))]) rfl ?_
        exact ih (by omega) _ _ _ _ _ _ _ (by rw [dS_s hj9, ← h1]; rfl) (by rw [dS_s hj9, ← h2]; rfl) (by rw [dS_s hj9, ← h3]; exact hs3) (by rw [dS_s hj9, ← h4]; rfl) (by rw [dS_s hj9, ← h5]; exact hs5) (by rw [dS_s hj9, ← h6, hx6]) (by rw [dW_s hj9, ← h7])
      have K331 : ∀ s3 can x5 : Int32, s3 = a3 + f3 g j → can = xRod g j 7 → x5 = f5 g j → gG p l e rmL_areRodsSo s m ([.ref xa] : List Value).toArray below meth c D vwCl A s.heap 21 (MQ below (cQ (some (.int 1)) (cB D vwCl (tyA cI cO) A ((wS0 xa ad ha ta) ++ ((wT ta cI t (nI n)) ++ ((wHs ha hb cI cO G (nI o) (nI z)) ++ (wB ad cI g))))) A) ([.ref xa] : List Value).toArray s 0 0 A) 0 0 ((wS0 xa ad ha ta) ++ ((wT ta cI t (nI n)) ++ ((wHs ha hb cI cO G (nI o) (nI z)) ++ (wB ad cI g)))) 331 [(0, .ref xa), (1, .int (a1 + xRod g j 5)), (2, .int (a2 + (xRod g j 3 - 100))), (3, .int s3), (4, .int (a4 + xRod g j 2)), (5, .int a5), (6, .int a6), (7, .long w9), (9, .int 1), (10, .int (nI j)), (11, .int (xRod g j 0)), (12, .int (xRod g j 1)), (13, .int (xRod g j 3 - 100)), (14, .int can)] [.int x5, .int a5] := by
        intro s3 can x5 hs3 hcan hx5
        refine g_iadd C (v := a5 + x5) dL_areRodsSo_331 rfl ?_
        refine g_istore C (lv' := [(5, .int (a5 + x5)), (0, .ref xa), (1, .int (a1 + xRod g j 5)), (2, .int (a2 + (xRod g j 3 - 100))), (3, .int s3), (4, .int (a4 + xRod g j 2)), (6, .int a6), (7, .long w9), (9, .int 1), (10, .int (nI j)), (11, .int (xRod g j 0)), (12, .int (xRod g j 1)), (13, .int (xRod g j 3 - 100)), (14, .int can)]) dL_areRodsSo_332 (by decide) rfl ?_
        refine g_iload C dL_areRodsSo_334 6 rfl ?_
        refine g_aload_n C dL_areRodsSo_336 1 rfl ?_
        refine g_iload C dL_areRodsSo_337 9 rfl ?_
        refine g_iconst C (v := 4) dL_areRodsSo_339 ci_4 ?_
        refine g_callVi C (c_X3_rod l D cI cO xa ta ha hb ad t n G g o z hn ho hz j hj9 4 ((by decide))) gL_areRodsSo_X3_rod rfl ⟨rfl, rfl⟩ hd_X3_rod ⟨Nat.le_of_ble_eq_true rfl, Nat.le_of_ble_eq_true rfl⟩ [0, 1] rfl (fun _ _ => trivial) rfl (rest := [.int a6]) rfl (Nat.le_of_ble_eq_true rfl) dL_areRodsSo_340 ⟨Nat.zero_le _, Nat.zero_le _⟩ 0 rfl rfl rfl (pre := []) (post := []) (ws' := ((wS0 xa ad ha ta) ++ ((wT ta cI t (nI n)) ++ ((wHs ha hb cI cO G (nI o) (nI z)) ++ (wB ad cI g))))) rfl rfl ?_
        refine g_if_le C (tgt := 350) dL_areRodsSo_343 (by decide) (fun h343_21 => ?_) (fun h343_21 => ?_)
        · refine g_iconst C (v := 0) dL_areRodsSo_350 ci_0 ?_
          refine g_lv [1, 2, 3, 4, 5, 0, 6, 7, 8, 9, 10, 11, 12, 13] (lv' := [(0, .ref xa), (1, .int (a1 + xRod g j 5)), (2, .int (a2 + (xRod g j 3 - 100))), (3, .int s3), (4, .int (a4 + xRod g j 2)), (5, .int (a5 + x5)), (6, .int a6), (7, .long w9), (9, .int 1), (10, .int (nI j)), (11, .int (xRod g j 0)), (12, .int (xRod g j 1)), (13, .int (xRod g j 3 - 100)), (14, .int can)]) rfl ?_
          exact K351 _ _ _ _ hs3 (by rw [hx5]) hcan (by simp only [f6, eq_true h343_21, Bool.false_eq_true, not_false_eq_true, not_true_eq_false, and_self, and_true, true_and, and_false, false_and, or_true, true_or, or_false, false_or, or_self, if_true, if_false, eq_self, ite_true, ite_false, reduceIte])
        · refine g_iconst C (v := 1) dL_areRodsSo_346 ci_1 ?_
          refine g_goto C (tgt := 351) dL_areRodsSo_347 (by decide) ?_
          refine g_lv [1, 2, 3, 4, 5, 0, 6, 7, 8, 9, 10, 11, 12, 13] (lv' := [(0, .ref xa), (1, .int (a1 + xRod g j 5)), (2, .int (a2 + (xRod g j 3 - 100))), (3, .int s3), (4, .int (a4 + xRod g j 2)), (5, .int (a5 + x5)), (6, .int a6), (7, .long w9), (9, .int 1), (10, .int (nI j)), (11, .int (xRod g j 0)), (12, .int (xRod g j 1)), (13, .int (xRod g j 3 - 100)), (14, .int can)]) rfl ?_
          exact K351 _ _ _ _ hs3 (by rw [hx5]) hcan (by simp only [f6, h343_21, Bool.false_eq_true, not_false_eq_true, not_true_eq_false, and_self, and_true, true_and, and_false, false_and, or_true, true_or, or_false, false_or, or_self, if_true, if_false, eq_self, ite_true, ite_false, reduceIte])
      have K298 : ∀ can x3 : Int32, can = xRod g j 7 → x3 = f3 g j → gG p l e rmL_areRodsSo s m ([.ref xa] : List Value).toArray below meth c D vwCl A s.heap 21 (MQ below (cQ (some (.int 1)) (cB D vwCl (tyA cI cO) A ((wS0 xa ad ha ta) ++ ((wT ta cI t (nI n)) ++ ((wHs ha hb cI cO G (nI o) (nI z)) ++ (wB ad cI g))))) A) ([.ref xa] : List Value).toArray s 0 0 A) 0 0 ((wS0 xa ad ha ta) ++ ((wT ta cI t (nI n)) ++ ((wHs ha hb cI cO G (nI o) (nI z)) ++ (wB ad cI g)))) 298 [(0, .ref xa), (1, .int (a1 + xRod g j 5)), (2, .int (a2 + (xRod g j 3 - 100))), (3, .int a3), (4, .int a4), (5, .int a5), (6, .int a6), (7, .long w9), (9, .int 1), (10, .int (nI j)), (11, .int (xRod g j 0)), (12, .int (xRod g j 1)), (13, .int (xRod g j 3 - 100)), (14, .int can)] [.int x3, .int a3] := by
        intro can x3 hcan hx3
        refine g_iadd C (v := a3 + x3) dL_areRodsSo_298 rfl ?_
        refine g_istore_n C (lv' := [(3, .int (a3 + x3)), (0, .ref xa), (1, .int (a1 + xRod g j 5)), (2, .int (a2 + (xRod g j 3 - 100))), (4, .int a4), (5, .int a5), (6, .int a6), (7, .long w9), (9, .int 1), (10, .int (nI j)), (11, .int (xRod g j 0)), (12, .int (xRod g j 1)), (13, .int (xRod g j 3 - 100)), (14, .int can)]) dL_areRodsSo_299 rfl (by decide) rfl ?_
        refine g_iload C dL_areRodsSo_300 4 rfl ?_
        refine g_aload_n C dL_areRodsSo_302 1 rfl ?_
        refine g_iload C dL_areRodsSo_303 9 rfl ?_
        refine g_iconst C (v := 2) dL_areRodsSo_305 ci_2 ?_
        refine g_callVi C (c_X3_rod l D cI cO xa ta ha hb ad t n G g o z hn ho hz j hj9 2 ((by decide))) gL_areRodsSo_X3_rod rfl ⟨rfl, rfl⟩ hd_X3_rod ⟨Nat.le_of_ble_eq_true rfl, Nat.le_of_ble_eq_true rfl⟩ [0, 1] rfl (fun _ _ => trivial) rfl (rest := [.int a4]) rfl (Nat.le_of_ble_eq_true rfl) dL_areRodsSo_306 ⟨Nat.zero_le _, Nat.zero_le _⟩ 0 rfl rfl rfl (pre := []) (post := []) (ws' := ((wS0 xa ad ha ta) ++ ((wT ta cI t (nI n)) ++ ((wHs ha hb cI cO G (nI o) (nI z)) ++ (wB ad cI g))))) rfl rfl ?_
        refine g_iadd C (v := a4 + (xRod g j 2)) dL_areRodsSo_309 rfl ?_
        refine g_istore C (lv' := [(4, .int (a4 + (xRod g j 2))), (3, .int (a3 + x3)), (0, .ref xa), (1, .int (a1 + xRod g j 5)), (2, .int (a2 + (xRod g j 3 - 100))), (5, .int a5), (6, .int a6), (7, .long w9), (9, .int 1), (10, .int (nI j)), (11, .int (xRod g j 0)), (12, .int (xRod g j 1)), (13, .int (xRod g j 3 - 100)), (14, .int can)]) dL_areRodsSo_310 (by decide) rfl ?_
        refine g_iload C dL_areRodsSo_312 5 rfl ?_
        refine g_aload_n C dL_areRodsSo_314 2 rfl ?_
        refine g_iload C dL_areRodsSo_315 9 rfl ?_
        refine g_iconst C (v := 2) dL_areRodsSo_317 ci_2 ?_
        refine g_callVi C (c_X3_rod l D cI cO xa ta ha hb ad t n G g o z hn ho hz j hj9 2 ((by decide))) gL_areRodsSo_X3_rod rfl ⟨rfl, rfl⟩ hd_X3_rod ⟨Nat.le_of_ble_eq_true rfl, Nat.le_of_ble_eq_true rfl⟩ [0, 1] rfl (fun _ _ => trivial) rfl (rest := [.int a5]) rfl (Nat.le_of_ble_eq_true rfl) dL_areRodsSo_318 ⟨Nat.zero_le _, Nat.zero_le _⟩ 0 rfl rfl rfl (pre := []) (post := []) (ws' := ((wS0 xa ad ha ta) ++ ((wT ta cI t (nI n)) ++ ((wHs ha hb cI cO G (nI o) (nI z)) ++ (wB ad cI g))))) rfl rfl ?_
        refine g_bipush C (v := 9) dL_areRodsSo_321 cb_9 ?_
        refine g_icmp_le C (tgt := 330) dL_areRodsSo_323 (by decide) (fun h323_22 => ?_) (fun h323_22 => ?_)
        · refine g_iconst C (v := 0) dL_areRodsSo_330 ci_0 ?_
          refine g_lv [2, 3, 4, 1, 0, 5, 6, 7, 8, 9, 10, 11, 12, 13] (lv' := [(0, .ref xa), (1, .int (a1 + xRod g j 5)), (2, .int (a2 + (xRod g j 3 - 100))), (3, .int (a3 + x3)), (4, .int (a4 + (xRod g j 2))), (5, .int a5), (6, .int a6), (7, .long w9), (9, .int 1), (10, .int (nI j)), (11, .int (xRod g j 0)), (12, .int (xRod g j 1)), (13, .int (xRod g j 3 - 100)), (14, .int can)]) rfl ?_
          exact K331 _ _ _ (by rw [hx3]) hcan (by simp only [f5, eq_true h323_22, Bool.false_eq_true, not_false_eq_true, not_true_eq_false, and_self, and_true, true_and, and_false, false_and, or_true, true_or, or_false, false_or, or_self, if_true, if_false, eq_self, ite_true, ite_false, reduceIte])
        · refine g_iconst C (v := 1) dL_areRodsSo_326 ci_1 ?_
          refine g_goto C (tgt := 331) dL_areRodsSo_327 (by decide) ?_
          refine g_lv [2, 3, 4, 1, 0, 5, 6, 7, 8, 9, 10, 11, 12, 13] (lv' := [(0, .ref xa), (1, .int (a1 + xRod g j 5)), (2, .int (a2 + (xRod g j 3 - 100))), (3, .int (a3 + x3)), (4, .int (a4 + (xRod g j 2))), (5, .int a5), (6, .int a6), (7, .long w9), (9, .int 1), (10, .int (nI j)), (11, .int (xRod g j 0)), (12, .int (xRod g j 1)), (13, .int (xRod g j 3 - 100)), (14, .int can)]) rfl ?_
          exact K331 _ _ _ (by rw [hx3]) hcan (by simp only [f5, h323_22, Bool.false_eq_true, not_false_eq_true, not_true_eq_false, and_self, and_true, true_and, and_false, false_and, or_true, true_or, or_false, false_or, or_self, if_true, if_false, eq_self, ite_true, ite_false, reduceIte])
      have K66 : ∀ (n8 q : Nat), n8 + q = 16 → ∀ x : Int32, x = xRe g j q → gG p l e rmL_areRodsSo s m ([.ref xa] : List Value).toArray below meth c D vwCl A s.heap 21 (MQ below (cQ (some (.int 1)) (cB D vwCl (tyA cI cO) A ((wS0 xa ad ha ta) ++ ((wT ta cI t (nI n)) ++ ((wHs ha hb cI cO G (nI o) (nI z)) ++ (wB ad cI g))))) A) ([.ref xa] : List Value).toArray s 0 0 A) 0 0 ((wS0 xa ad ha ta) ++ ((wT ta cI t (nI n)) ++ ((wHs ha hb cI cO G (nI o) (nI z)) ++ (wB ad cI g)))) 66 [(0, .ref xa), (1, .int a1), (2, .int a2), (3, .int a3), (4, .int a4), (5, .int a5), (6, .int a6), (7, .long w9), (9, .int 1), (10, .int (nI j)), (11, .int (xRod g j 0)), (12, .int (xRod g j 1)), (13, .int (xRod g j 3 - 100)), (14, .int x), (15, .int (nI q))] [] := by
        intro n8
        induction n8 with
        | zero =>
          intro q hq16 x hx
          obtain rfl : q = 16 := by omega
          refine g_iload C dL_areRodsSo_66 14 rfl ?_
          refine g_bipush C (v := 16) dL_areRodsSo_68 cb_16 ?_
          refine g_icmp_ge C (tgt := 272) dL_areRodsSo_70 (by decide) (fun _ => ?_) (fun h70_23 => absurd (by decide) h70_23)
          refine g_iload_n C dL_areRodsSo_272 1 rfl ?_
          refine g_aload_n C dL_areRodsSo_273 0 rfl ?_
          refine g_iload C dL_areRodsSo_274 9 rfl ?_
          refine g_iconst C (v := 5) dL_areRodsSo_276 ci_5 ?_
          refine g_callVi C (c_X3_rod l D cI cO xa ta ha hb ad t n G g o z hn ho hz j hj9 5 ((by decide))) gL_areRodsSo_X3_rod rfl ⟨rfl, rfl⟩ hd_X3_rod ⟨Nat.le_of_ble_eq_true rfl, Nat.le_of_ble_eq_true rfl⟩ [0, 1] rfl (fun _ _ => trivial) rfl (rest := [.int a1]) rfl (Nat.le_of_ble_eq_true rfl) dL_areRodsSo_277 ⟨Nat.zero_le _, Nat.zero_le _⟩ 0 rfl rfl rfl (pre := []) (post := []) (ws' := ((wS0 xa ad ha ta) ++ ((wT ta cI t (nI n)) ++ ((wHs ha hb cI cO G (nI o) (nI z)) ++ (wB ad cI g))))) rfl rfl ?_
          refine g_iadd C (v := a1 + (xRod g j 5)) dL_areRodsSo_280 rfl ?_
          refine g_istore_n C (lv' := [(1, .int (a1 + (xRod g j 5))), (0, .ref xa), (2, .int a2), (3, .int a3), (4, .int a4), (5, .int a5), (6, .int a6), (7, .long w9), (9, .int 1), (10, .int (nI j)), (11, .int (xRod g j 0)), (12, .int (xRod g j 1)), (13, .int (xRod g j 3 - 100)), (14, .int x), (15, .int (nI 16))]) dL_areRodsSo_281 rfl (by decide) rfl ?_
          refine g_iload_n C dL_areRodsSo_282 2 rfl ?_
          refine g_iload C dL_areRodsSo_283 12 rfl ?_
          refine g_iadd C (v := a2 + (xRod g j 3 - 100)) dL_areRodsSo_285 rfl ?_
          refine g_istore_n C (lv' := [(2, .int (a2 + (xRod g j 3 - 100))), (1, .int (a1 + (xRod g j 5))), (0, .ref xa), (3, .int a3), (4, .int a4), (5, .int a5), (6, .int a6), (7, .long w9), (9, .int 1), (10, .int (nI j)), (11, .int (xRod g j 0)), (12, .int (xRod g j 1)), (13, .int (xRod g j 3 - 100)), (14, .int x), (15, .int (nI 16))]) dL_areRodsSo_286 rfl (by decide) rfl ?_
          refine g_iload_n C dL_areRodsSo_287 3 rfl ?_
          refine g_iload C dL_areRodsSo_288 12 rfl ?_
          refine g_if_ne C (tgt := 297) dL_areRodsSo_290 (by decide) (fun h290_24 => ?_) (fun h290_24 => ?_)
          · refine g_iconst C (v := 1) dL_areRodsSo_297 ci_1 ?_
            refine g_lv [2, 1, 0, 3, 4, 5, 6, 7, 8, 9, 10, 11, 12, 13] (lv' := [(0, .ref xa), (1, .int (a1 + (xRod g j 5))), (2, .int (a2 + (xRod g j 3 - 100))), (3, .int a3), (4, .int a4), (5, .int a5), (6, .int a6), (7, .long w9), (9, .int 1), (10, .int (nI j)), (11, .int (xRod g j 0)), (12, .int (xRod g j 1)), (13, .int (xRod g j 3 - 100)), (14, .int x)]) rfl ?_
            exact K298 _ _ hx (by simp only [f3, h290_24, Bool.false_eq_true, not_false_eq_true, not_true_eq_false, and_self, and_true, true_and, and_false, false_and, or_true, true_or, or_false, false_or, or_self, if_true, if_false, eq_self, ite_true, ite_false, reduceIte])
          · refine g_iconst C (v := 0) dL_areRodsSo_293 ci_0 ?_
            refine g_goto C (tgt := 298) dL_areRodsSo_294 (by decide) ?_
            refine g_lv [2, 1, 0, 3, 4, 5, 6, 7, 8, 9, 10, 11, 12, 13] (lv' := [(0, .ref xa), (1, .int (a1 + (xRod g j 5))), (2, .int (a2 + (xRod g j 3 - 100))), (3, .int a3), (4, .int a4), (5, .int a5), (6, .int a6), (7, .long w9), (9, .int 1), (10, .int (nI j)), (11, .int (xRod g j 0)), (12, .int (xRod g j 1)), (13, .int (xRod g j 3 - 100)), (14, .int x)]) rfl ?_
            exact K298 _ _ hx (by simp only [f3, eq_true h290_24, Bool.false_eq_true, not_false_eq_true, not_true_eq_false, and_self, and_true, true_and, and_false, false_and, or_true, true_or, or_false, false_or, or_self, if_true, if_false, eq_self, ite_true, ite_false, reduceIte])
        | succ n8 ih16 =>
          intro q hq16 x hx
          have hq : q < 16 := by omega
          have K79 : ∀ (n7 q2 : Nat), n7 + q2 = 3 → ∀ a : Int32, lF g j (nI q) n7 q2 a = xTv g j (nI q) → gG p l e rmL_areRodsSo s m ([.ref xa] : List Value).toArray below meth c D vwCl A s.heap 21 (MQ below (cQ (some (.int 1)) (cB D vwCl (tyA cI cO) A ((wS0 xa ad ha ta) ++ ((wT ta cI t (nI n)) ++ ((wHs ha hb cI cO G (nI o) (nI z)) ++ (wB ad cI g))))) A) ([.ref xa] : List Value).toArray s 0 0 A) 0 0 ((wS0 xa ad ha ta) ++ ((wT ta cI t (nI n)) ++ ((wHs ha hb cI cO G (nI o) (nI z)) ++ (wB ad cI g)))) 79 [(0, .ref xa), (1, .int a1), (2, .int a2), (3, .int a3), (4, .int a4), (5, .int a5), (6, .int a6), (7, .long w9), (9, .int 1), (10, .int (nI j)), (11, .int (xRod g j 0)), (12, .int (xRod g j 1)), (13, .int (xRod g j 3 - 100)), (14, .int x), (15, .int (nI q)), (16, .int a), (17, .int (nI q2))] [] := by
            intro n7
            induction n7 with
            | zero =>
              intro q2 hq3 a hlf
              obtain rfl : q2 = 3 := by omega
              have hlf : a = xTv g j (nI q) := hlf
              subst hlf
              refine g_iload C dL_areRodsSo_79 16 rfl ?_
              refine g_iconst C (v := 3) dL_areRodsSo_81 ci_3 ?_
              refine g_icmp_ge C (tgt := 226) dL_areRodsSo_82 (by decide) (fun _ => ?_) (fun h82_25 => absurd (by decide) h82_25)
              refine g_iload C dL_areRodsSo_226 13 rfl ?_
              refine g_iload C dL_areRodsSo_228 15 rfl ?_
              refine g_if_lt C (tgt := 237) dL_areRodsSo_230 (by decide) (fun h230_26 => ?_) (fun h230_26 => ?_)
              · refine g_iconst C (v := 0) dL_areRodsSo_237 ci_0 ?_
                refine g_iadd C (v := x + 0) dL_areRodsSo_238 rfl ?_
                refine g_istore C (lv' := [(14, .int (x + 0)), (0, .ref xa), (1, .int a1), (2, .int a2), (3, .int a3), (4, .int a4), (5, .int a5), (6, .int a6), (7, .long w9), (9, .int 1), (10, .int (nI j)), (11, .int (xRod g j 0)), (12, .int (xRod g j 1)), (13, .int (xRod g j 3 - 100)), (15, .int (nI q)), (16, .int (xTv g j (nI q))), (17, .int (nI 3))]) dL_areRodsSo_239 (by decide) rfl ?_
                refine g_iload C dL_areRodsSo_241 9 rfl ?_
                refine g_if_eq C (tgt := 263) dL_areRodsSo_243 (by decide) (fun h243_27 => absurd h243_27 (by decide)) (fun _ => ?_)
                refine g_aload_n C dL_areRodsSo_246 1 rfl ?_
                refine g_iload C dL_areRodsSo_247 10 rfl ?_
                refine g_iload C dL_areRodsSo_249 14 rfl ?_
                refine g_callVi C (c_X3_moves l D cI cO xa ta ha hb ad t n G g o z hn ho hz j hj9 (nI q) ((nI_pos (by omega))) ((nI_le (b := 15) (by omega) (by decide)))) gL_areRodsSo_X3_moves rfl ⟨rfl, rfl⟩ hd_X3_moves ⟨Nat.le_of_ble_eq_true rfl, Nat.le_of_ble_eq_true rfl⟩ [0, 1] rfl (fun _ _ => trivial) rfl (rest := []) rfl (Nat.le_of_ble_eq_true rfl) dL_areRodsSo_251 ⟨Nat.zero_le _, Nat.zero_le _⟩ 0 rfl rfl rfl (pre := []) (post := []) (ws' := ((wS0 xa ad ha ta) ++ ((wT ta cI t (nI n)) ++ ((wHs ha hb cI cO G (nI o) (nI z)) ++ (wB ad cI g))))) rfl rfl ?_
                refine g_iload C dL_areRodsSo_254 15 rfl ?_
                refine g_icmp_ne C (tgt := 263) dL_areRodsSo_256 (by decide) (fun h256_28 => absurd rfl h256_28) (fun _ => ?_)
                refine g_iconst C (v := 1) dL_areRodsSo_259 ci_1 ?_
                refine g_goto C (tgt := 264) dL_areRodsSo_260 (by decide) ?_
                refine g_istore C (lv' := [(9, .int 1), (14, .int (x + 0)), (0, .ref xa), (1, .int a1), (2, .int a2), (3, .int a3), (4, .int a4), (5, .int a5), (6, .int a6), (7, .long w9), (10, .int (nI j)), (11, .int (xRod g j 0)), (12, .int (xRod g j 1)), (13, .int (xRod g j 3 - 100)), (15, .int (nI q)), (16, .int (xTv g j (nI q))), (17, .int (nI 3))]) dL_areRodsSo_264 (by decide) rfl ?_
                refine g_iinc C (v := nI (q + 1)) (lv' := [(15, .int (nI (q + 1))), (9, .int 1), (14, .int (x + 0)), (0, .ref xa), (1, .int a1), (2, .int a2), (3, .int a3), (4, .int a4), (5, .int a5), (6, .int a6), (7, .long w9), (10, .int (nI j)), (11, .int (xRod g j 0)), (12, .int (xRod g j 1)), (13, .int (xRod g j 3 - 100)), (16, .int (xTv g j (nI q))), (17, .int (nI 3))]) dL_areRodsSo_266 14 rfl (inc_nI _) (by decide) rfl ?_
                refine g_goto C (tgt := 66) dL_areRodsSo_269 (by decide) ?_
                refine g_lv [3, 4, 5, 6, 7, 8, 9, 10, 1, 11, 12, 13, 14, 2, 0] (lv' := [(0, .ref xa), (1, .int a1), (2, .int a2), (3, .int a3), (4, .int a4), (5, .int a5), (6, .int a6), (7, .long w9), (9, .int 1), (10, .int (nI j)), (11, .int (xRod g j 0)), (12, .int (xRod g j 1)), (13, .int (xRod g j 3 - 100)), (14, .int (x + 0)), (15, .int (nI (q + 1)))]) rfl ?_
                exact ih16 (q + 1) (by omega) _ (xRe_p hR h230_26 hx)
              · refine g_iconst C (v := 1) dL_areRodsSo_233 ci_1 ?_
                refine g_goto C (tgt := 238) dL_areRodsSo_234 (by decide) ?_
                refine g_iadd C (v := x + 1) dL_areRodsSo_238 rfl ?_
                refine g_istore C (lv' := [(14, .int (x + 1)), (0, .ref xa), (1, .int a1), (2, .int a2), (3, .int a3), (4, .int a4), (5, .int a5), (6, .int a6), (7, .long w9), (9, .int 1), (10, .int (nI j)), (11, .int (xRod g j 0)), (12, .int (xRod g j 1)), (13, .int (xRod g j 3 - 100)), (15, .int (nI q)), (16, .int (xTv g j (nI q))), (17, .int (nI 3))]) dL_areRodsSo_239 (by decide) rfl ?_
                refine g_iload C dL_areRodsSo_241 9 rfl ?_
                refine g_if_eq C (tgt := 263) dL_areRodsSo_243 (by decide) (fun h243_29 => absurd h243_29 (by decide)) (fun _ => ?_)
                refine g_aload_n C dL_areRodsSo_246 1 rfl ?_
                refine g_iload C dL_areRodsSo_247 10 rfl ?_
                refine g_iload C dL_areRodsSo_249 14 rfl ?_
                refine g_callVi C (c_X3_moves l D cI cO xa ta ha hb ad t n G g o z hn ho hz j hj9 (nI q) ((nI_pos (by omega))) ((nI_le (b := 15) (by omega) (by decide)))) gL_areRodsSo_X3_moves rfl ⟨rfl, rfl⟩ hd_X3_moves ⟨Nat.le_of_ble_eq_true rfl, Nat.le_of_ble_eq_true rfl⟩ [0, 1] rfl (fun _ _ => trivial) rfl (rest := []) rfl (Nat.le_of_ble_eq_true rfl) dL_areRodsSo_251 ⟨Nat.zero_le _, Nat.zero_le _⟩ 0 rfl rfl rfl (pre := []) (post := []) (ws' := ((wS0 xa ad ha ta) ++ ((wT ta cI t (nI n)) ++ ((wHs ha hb cI cO G (nI o) (nI z)) ++ (wB ad cI g))))) rfl rfl ?_
                refine g_iload C dL_areRodsSo_254 15 rfl ?_
                refine g_icmp_ne C (tgt := 263) dL_areRodsSo_256 (by decide) (fun h256_30 => absurd rfl h256_30) (fun _ => ?_)
                refine g_iconst C (v := 1) dL_areRodsSo_259 ci_1 ?_
                refine g_goto C (tgt := 264) dL_areRodsSo_260 (by decide) ?_
                refine g_istore C (lv' := [(9, .int 1), (14, .int (x + 1)), (0, .ref xa), (1, .int a1), (2, .int a2), (3, .int a3), (4, .int a4), (5, .int a5), (6, .int a6), (7, .long w9), (10, .int (nI j)), (11, .int (xRod g j 0)), (12, .int (xRod g j 1)), (13, .int (xRod g j 3 - 100)), (15, .int (nI q)), (16, .int (xTv g j (nI q))), (17, .int (nI 3))]) dL_areRodsSo_264 (by decide) rfl ?_
                refine g_iinc C (v := nI (q + 1)) (lv' := [(15, .int (nI (q + 1))), (9, .int 1), (14, .int (x + 1)), (0, .ref xa), (1, .int a1), (2, .int a2), (3, .int a3), (4, .int a4), (5, .int a5), (6, .int a6), (7, .long w9), (10, .int (nI j)), (11, .int (xRod g j 0)), (12, .int (xRod g j 1)), (13, .int (xRod g j 3 - 100)), (16, .int (xTv g j (nI q))), (17, .int (nI 3))]) dL_areRodsSo_266 14 rfl (inc_nI _) (by decide) rfl ?_
                refine g_goto C (tgt := 66) dL_areRodsSo_269 (by decide) ?_
                refine g_lv [3, 4, 5, 6, 7, 8, 9, 10, 1, 11, 12, 13, 14, 2, 0] (lv' := [(0, .ref xa), (1, .int a1), (2, .int a2), (3, .int a3), (4, .int a4), (5, .int a5), (6, .int a6), (7, .long w9), (9, .int 1), (10, .int (nI j)), (11, .int (xRod g j 0)), (12, .int (xRod g j 1)), (13, .int (xRod g j 3 - 100)), (14, .int (x + 1)), (15, .int (nI (q + 1)))]) rfl ?_
                exact ih16 (q + 1) (by omega) _ (xRe_m hR h230_26 hx)
            | succ n7 ih3 =>
              intro q2 hq3 a hlf
              have hq2 : q2 < 3 := by omega
              have K191 : ∀ y2 : Int32, y2 = (if nI q - 5 * nI q2 ≤ xRod g j 1 then xRod g j 1 - (nI q - 5 * nI q2) else nI q - 5 * nI q2 - xRod g j 1) → gG p l e rmL_areRodsSo s m ([.ref xa] : List Value).toArray below meth c D vwCl A s.heap 21 (MQ below (cQ (some (.int 1)) (cB D vwCl (tyA cI cO) A ((wS0 xa ad ha ta) ++ ((wT ta cI t (nI n)) ++ ((wHs ha hb cI cO G (nI o) (nI z)) ++ (wB ad cI g))))) A) ([.ref xa] : List Value).toArray s 0 0 A) 0 0 ((wS0 xa ad ha ta) ++ ((wT ta cI t (nI n)) ++ ((wHs ha hb cI cO G (nI o) (nI z)) ++ (wB ad cI g)))) 191 [(0, .ref xa), (1, .int a1), (2, .int a2), (3, .int a3), (4, .int a4), (5, .int a5), (6, .int a6), (7, .long w9), (9, .int 1), (10, .int (nI j)), (11, .int (xRod g j 0)), (12, .int (xRod g j 1)), (13, .int (xRod g j 3 - 100)), (14, .int x), (15, .int (nI q)), (16, .int a), (17, .int (nI q2)), (18, .int (nI q - 5 * nI q2)), (19, .int (lM g j (nI q) (nI q2)))] [.int y2, .int ((if nI q2 ≤ xRod g j 0 then xRod g j 0 - nI q2 else nI q2 - xRod g j 0))] := by
                intro y2 hy2
                subst hy2
                refine g_iadd C (v := lT g j (nI q) (nI q2)) dL_areRodsSo_191 rfl ?_
                refine g_istore C (lv' := [(20, .int (lT g j (nI q) (nI q2))), (0, .ref xa), (1, .int a1), (2, .int a2), (3, .int a3), (4, .int a4), (5, .int a5), (6, .int a6), (7, .long w9), (9, .int 1), (10, .int (nI j)), (11, .int (xRod g j 0)), (12, .int (xRod g j 1)), (13, .int (xRod g j 3 - 100)), (14, .int x), (15, .int (nI q)), (16, .int a), (17, .int (nI q2)), (18, .int (nI q - 5 * nI q2)), (19, .int (lM g j (nI q) (nI q2)))]) dL_areRodsSo_192 (by decide) rfl ?_
                refine g_iload C dL_areRodsSo_194 19 rfl ?_
                refine g_if_eq C (tgt := 216) dL_areRodsSo_196 (by decide) (fun h196_31 => ?_) (fun h196_31 => ?_)
                · refine g_iload C dL_areRodsSo_216 16 rfl ?_
                  refine g_istore C (lv' := [(16, .int a), (20, .int (lT g j (nI q) (nI q2))), (0, .ref xa), (1, .int a1), (2, .int a2), (3, .int a3), (4, .int a4), (5, .int a5), (6, .int a6), (7, .long w9), (9, .int 1), (10, .int (nI j)), (11, .int (xRod g j 0)), (12, .int (xRod g j 1)), (13, .int (xRod g j 3 - 100)), (14, .int x), (15, .int (nI q)), (17, .int (nI q2)), (18, .int (nI q - 5 * nI q2)), (19, .int (lM g j (nI q) (nI q2)))]) dL_areRodsSo_218 (by decide) rfl ?_
                  refine g_iinc C (v := nI (q2 + 1)) (lv' := [(17, .int (nI (q2 + 1))), (16, .int a), (20, .int (lT g j (nI q) (nI q2))), (0, .ref xa), (1, .int a1), (2, .int a2), (3, .int a3), (4, .int a4), (5, .int a5), (6, .int a6), (7, .long w9), (9, .int 1), (10, .int (nI j)), (11, .int (xRod g j 0)), (12, .int (xRod g j 1)), (13, .int (xRod g j 3 - 100)), (14, .int x), (15, .int (nI q)), (18, .int (nI q - 5 * nI q2)), (19, .int (lM g j (nI q) (nI q2)))]) dL_areRodsSo_220 17 rfl (inc_nI _) (by decide) rfl ?_
                  refine g_goto C (tgt := 79) dL_areRodsSo_223 (by decide) ?_
                  refine g_lv [3, 4, 5, 6, 7, 8, 9, 10, 11, 12, 13, 14, 15, 16, 17, 1, 0] (lv' := [(0, .ref xa), (1, .int a1), (2, .int a2), (3, .int a3), (4, .int a4), (5, .int a5), (6, .int a6), (7, .long w9), (9, .int 1), (10, .int (nI j)), (11, .int (xRod g j 0)), (12, .int (xRod g j 1)), (13, .int (xRod g j 3 - 100)), (14, .int x), (15, .int (nI q)), (16, .int a), (17, .int (nI (q2 + 1)))]) rfl ?_
                  exact ih3 (q2 + 1) (by omega) _ (by rw [← hlf]; simp only [lF, lS, eq_true h196_31, Bool.false_eq_true, not_false_eq_true, not_true_eq_false, and_self, and_true, true_and, and_false, false_and, or_true, true_or, or_false, false_or, or_self, if_true, if_false, eq_self, ite_true, ite_false, reduceIte])
                · refine g_iload C dL_areRodsSo_199 16 rfl ?_
                  refine g_if_lt C (tgt := 211) dL_areRodsSo_201 (by decide) (fun h201_32 => ?_) (fun h201_32 => ?_)
                  · refine g_iload C dL_areRodsSo_211 0 rfl ?_
                    refine g_goto C (tgt := 218) dL_areRodsSo_213 (by decide) ?_
                    refine g_istore C (lv' := [(16, .int (lT g j (nI q) (nI q2))), (20, .int (lT g j (nI q) (nI q2))), (0, .ref xa), (1, .int a1), (2, .int a2), (3, .int a3), (4, .int a4), (5, .int a5), (6, .int a6), (7, .long w9), (9, .int 1), (10, .int (nI j)), (11, .int (xRod g j 0)), (12, .int (xRod g j 1)), (13, .int (xRod g j 3 - 100)), (14, .int x), (15, .int (nI q)), (17, .int (nI q2)), (18, .int (nI q - 5 * nI q2)), (19, .int (lM g j (nI q) (nI q2)))]) dL_areRodsSo_218 (by decide) rfl ?_
                    refine g_iinc C (v := nI (q2 + 1)) (lv' := [(17, .int (nI (q2 + 1))), (16, .int (lT g j (nI q) (nI q2))), (20, .int (lT g j (nI q) (nI q2))), (0, .ref xa), (1, .int a1), (2, .int a2), (3, .int a3), (4, .int a4), (5, .int a5), (6, .int a6), (7, .long w9), (9, .int 1), (10, .int (nI j)), (11, .int (xRod g j 0)), (12, .int (xRod g j 1)), (13, .int (xRod g j 3 - 100)), (14, .int x), (15, .int (nI q)), (18, .int (nI q - 5 * nI q2)), (19, .int (lM g j (nI q) (nI q2)))]) dL_areRodsSo_220 17 rfl (inc_nI _) (by decide) rfl ?_
                    refine g_goto C (tgt := 79) dL_areRodsSo_223 (by decide) ?_
                    refine g_lv [3, 4, 5, 6, 7, 8, 9, 10, 11, 12, 13, 14, 15, 16, 17, 1, 0] (lv' := [(0, .ref xa), (1, .int a1), (2, .int a2), (3, .int a3), (4, .int a4), (5, .int a5), (6, .int a6), (7, .long w9), (9, .int 1), (10, .int (nI j)), (11, .int (xRod g j 0)), (12, .int (xRod g j 1)), (13, .int (xRod g j 3 - 100)), (14, .int x), (15, .int (nI q)), (16, .int (lT g j (nI q) (nI q2))), (17, .int (nI (q2 + 1)))]) rfl ?_
                    exact ih3 (q2 + 1) (by omega) _ (by rw [← hlf]; simp only [lF, lS, h196_31, eq_true h201_32, Bool.false_eq_true, not_false_eq_true, not_true_eq_false, and_self, and_true, true_and, and_false, false_and, or_true, true_or, or_false, false_or, or_self, if_true, if_false, eq_self, ite_true, ite_false, reduceIte])
                  · refine g_iload C dL_areRodsSo_204 0 rfl ?_
                    refine g_iload C dL_areRodsSo_206 16 rfl ?_
                    refine g_icmp_ge C (tgt := 216) dL_areRodsSo_208 (by decide) (fun h208_33 => ?_) (fun h208_33 => ?_)
                    · refine g_iload C dL_areRodsSo_216 16 rfl ?_
                      refine g_istore C (lv' := [(16, .int a), (20, .int (lT g j (nI q) (nI q2))), (0, .ref xa), (1, .int a1), (2, .int a2), (3, .int a3), (4, .int a4), (5, .int a5), (6, .int a6), (7, .long w9), (9, .int 1), (10, .int (nI j)), (11, .int (xRod g j 0)), (12, .int (xRod g j 1)), (13, .int (xRod g j 3 - 100)), (14, .int x), (15, .int (nI q)), (17, .int (nI q2)), (18, .int (nI q - 5 * nI q2)), (19, .int (lM g j (nI q) (nI q2)))]) dL_areRodsSo_218 (by decide) rfl ?_
                      refine g_iinc C (v := nI (q2 + 1)) (lv' := [(17, .int (nI (q2 + 1))), (16, .int a), (20, .int (lT g j (nI q) (nI q2))), (0, .ref xa), (1, .int a1), (2, .int a2), (3, .int a3), (4, .int a4), (5, .int a5), (6, .int a6), (7, .long w9), (9, .int 1), (10, .int (nI j)), (11, .int (xRod g j 0)), (12, .int (xRod g j 1)), (13, .int (xRod g j 3 - 100)), (14, .int x), (15, .int (nI q)), (18, .int (nI q - 5 * nI q2)), (19, .int (lM g j (nI q) (nI q2)))]) dL_areRodsSo_220 17 rfl (inc_nI _) (by decide) rfl ?_
                      refine g_goto C (tgt := 79) dL_areRodsSo_223 (by decide) ?_
                      refine g_lv [3, 4, 5, 6, 7, 8, 9, 10, 11, 12, 13, 14, 15, 16, 17, 1, 0] (lv' := [(0, .ref xa), (1, .int a1), (2, .int a2), (3, .int a3), (4, .int a4), (5, .int a5), (6, .int a6), (7, .long w9), (9, .int 1), (10, .int (nI j)), (11, .int (xRod g j 0)), (12, .int (xRod g j 1)), (13, .int (xRod g j 3 - 100)), (14, .int x), (15, .int (nI q)), (16, .int a), (17, .int (nI (q2 + 1)))]) rfl ?_
                      exact ih3 (q2 + 1) (by omega) _ (by rw [← hlf]; simp only [lF, lS, h196_31, h201_32, eq_true h208_33, Bool.false_eq_true, not_false_eq_true, not_true_eq_false, and_self, and_true, true_and, and_false, false_and, or_true, true_or, or_false, false_or, or_self, if_true, if_false, eq_self, ite_true, ite_false, reduceIte])
                    · refine g_iload C dL_areRodsSo_211 0 rfl ?_
                      refine g_goto C (tgt := 218) dL_areRodsSo_213 (by decide) ?_
                      refine g_istore C (lv' := [(16, .int (lT g j (nI q) (nI q2))), (20, .int (lT g j (nI q) (nI q2))), (0, .ref xa), (1, .int a1), (2, .int a2), (3, .int a3), (4, .int a4), (5, .int a5), (6, .int a6), (7, .long w9), (9, .int 1), (10, .int (nI j)), (11, .int (xRod g j 0)), (12, .int (xRod g j 1)), (13, .int (xRod g j 3 - 100)), (14, .int x), (15, .int (nI q)), (17, .int (nI q2)), (18, .int (nI q - 5 * nI q2)), (19, .int (lM g j (nI q) (nI q2)))]) dL_areRodsSo_218 (by decide) rfl ?_
                      refine g_iinc C (v := nI (q2 + 1)) (lv' := [(17, .int (nI (q2 + 1))), (16, .int (lT g j (nI q) (nI q2))), (20, .int (lT g j (nI q) (nI q2))), (0, .ref xa), (1, .int a1), (2, .int a2), (3, .int a3), (4, .int a4), (5, .int a5), (6, .int a6), (7, .long w9), (9, .int 1), (10, .int (nI j)), (11, .int (xRod g j 0)), (12, .int (xRod g j 1)), (13, .int (xRod g j 3 - 100)), (14, .int x), (15, .int (nI q)), (18, .int (nI q - 5 * nI q2)), (19, .int (lM g j (nI q) (nI q2)))]) dL_areRodsSo_220 17 rfl (inc_nI _) (by decide) rfl ?_
                      refine g_goto C (tgt := 79) dL_areRodsSo_223 (by decide) ?_
                      refine g_lv [3, 4, 5, 6, 7, 8, 9, 10, 11, 12, 13, 14, 15, 16, 17, 1, 0] (lv' := [(0, .ref xa), (1, .int a1), (2, .int a2), (3, .int a3), (4, .int a4), (5, .int a5), (6, .int a6), (7, .long w9), (9, .int 1), (10, .int (nI j)), (11, .int (xRod g j 0)), (12, .int (xRod g j 1)), (13, .int (xRod g j 3 - 100)), (14, .int x), (15, .int (nI q)), (16, .int (lT g j (nI q) (nI q2))), (17, .int (nI (q2 + 1)))]) rfl ?_
                      exact ih3 (q2 + 1) (by omega) _ (by rw [← hlf]; simp only [lF, lS, h196_31, h201_32, h208_33, Bool.false_eq_true, not_false_eq_true, not_true_eq_false, and_self, and_true, true_and, and_false, false_and, or_true, true_or, or_false, false_or, or_self, if_true, if_false, eq_self, ite_true, ite_false, reduceIte])
              have K171 : ∀ y1 : Int32, y1 = (if nI q2 ≤ xRod g j 0 then xRod g j 0 - nI q2 else nI q2 - xRod g j 0) → gG p l e rmL_areRodsSo s m ([.ref xa] : List Value).toArray below meth c D vwCl A s.heap 21 (MQ below (cQ (some (.int 1)) (cB D vwCl (tyA cI cO) A ((wS0 xa ad ha ta) ++ ((wT ta cI t (nI n)) ++ ((wHs ha hb cI cO G (nI o) (nI z)) ++ (wB ad cI g))))) A) ([.ref xa] : List Value).toArray s 0 0 A) 0 0 ((wS0 xa ad ha ta) ++ ((wT ta cI t (nI n)) ++ ((wHs ha hb cI cO G (nI o) (nI z)) ++ (wB ad cI g)))) 171 [(0, .ref xa), (1, .int a1), (2, .int a2), (3, .int a3), (4, .int a4), (5, .int a5), (6, .int a6), (7, .long w9), (9, .int 1), (10, .int (nI j)), (11, .int (xRod g j 0)), (12, .int (xRod g j 1)), (13, .int (xRod g j 3 - 100)), (14, .int x), (15, .int (nI q)), (16, .int a), (17, .int (nI q2)), (18, .int (nI q - 5 * nI q2)), (19, .int (lM g j (nI q) (nI q2)))] [.int y1] := by
                intro y1 hy1
                subst hy1
                refine g_iload C dL_areRodsSo_171 17 rfl ?_
                refine g_iload C dL_areRodsSo_173 11 rfl ?_
                refine g_icmp_le C (tgt := 186) dL_areRodsSo_175 (by decide) (fun h175_34 => ?_) (fun h175_34 => ?_)
                · refine g_iload C dL_areRodsSo_186 11 rfl ?_
                  refine g_iload C dL_areRodsSo_188 17 rfl ?_
                  refine g_isub C (v := (xRod g j 1) - (nI q - 5 * nI q2)) dL_areRodsSo_190 rfl ?_
                  exact K191 _ (by simp only [eq_true h175_34, Bool.false_eq_true, not_false_eq_true, not_true_eq_false, and_self, and_true, true_and, and_false, false_and, or_true, true_or, or_false, false_or, or_self, if_true, if_false, eq_self, ite_true, ite_false, reduceIte])
                · refine g_iload C dL_areRodsSo_178 17 rfl ?_
                  refine g_iload C dL_areRodsSo_180 11 rfl ?_
                  refine g_isub C (v := (nI q - 5 * nI q2) - (xRod g j 1)) dL_areRodsSo_182 rfl ?_
                  refine g_goto C (tgt := 191) dL_areRodsSo_183 (by decide) ?_
                  exact K191 _ (by simp only [h175_34, Bool.false_eq_true, not_false_eq_true, not_true_eq_false, and_self, and_true, true_and, and_false, false_and, or_true, true_or, or_false, false_or, or_self, if_true, if_false, eq_self, ite_true, ite_false, reduceIte])
              have K149 : ∀ x4 : Int32, x4 = lM g j (nI q) (nI q2) → gG p l e rmL_areRodsSo s m ([.ref xa] : List Value).toArray below meth c D vwCl A s.heap 21 (MQ below (cQ (some (.int 1)) (cB D vwCl (tyA cI cO) A ((wS0 xa ad ha ta) ++ ((wT ta cI t (nI n)) ++ ((wHs ha hb cI cO G (nI o) (nI z)) ++ (wB ad cI g))))) A) ([.ref xa] : List Value).toArray s 0 0 A) 0 0 ((wS0 xa ad ha ta) ++ ((wT ta cI t (nI n)) ++ ((wHs ha hb cI cO G (nI o) (nI z)) ++ (wB ad cI g)))) 149 [(0, .ref xa), (1, .int a1), (2, .int a2), (3, .int a3), (4, .int a4), (5, .int a5), (6, .int a6), (7, .long w9), (9, .int 1), (10, .int (nI j)), (11, .int (xRod g j 0)), (12, .int (xRod g j 1)), (13, .int (xRod g j 3 - 100)), (14, .int x), (15, .int (nI q)), (16, .int a), (17, .int (nI q2)), (18, .int (nI q - 5 * nI q2))] [.int x4] := by
                intro x4 hx4
                subst hx4
                refine g_istore C (lv' := [(19, .int (lM g j (nI q) (nI q2))), (0, .ref xa), (1, .int a1), (2, .int a2), (3, .int a3), (4, .int a4), (5, .int a5), (6, .int a6), (7, .long w9), (9, .int 1), (10, .int (nI j)), (11, .int (xRod g j 0)), (12, .int (xRod g j 1)), (13, .int (xRod g j 3 - 100)), (14, .int x), (15, .int (nI q)), (16, .int a), (17, .int (nI q2)), (18, .int (nI q - 5 * nI q2))]) dL_areRodsSo_149 (by decide) rfl ?_
                refine g_iload C dL_areRodsSo_151 17 rfl ?_
                refine g_iload C dL_areRodsSo_153 11 rfl ?_
                refine g_icmp_le C (tgt := 166) dL_areRodsSo_155 (by decide) (fun h155_35 => ?_) (fun h155_35 => ?_)
                · refine g_iload C dL_areRodsSo_166 11 rfl ?_
                  refine g_iload C dL_areRodsSo_168 17 rfl ?_
                  refine g_isub C (v := (xRod g j 0) - (nI q2)) dL_areRodsSo_170 rfl ?_
                  refine g_lv [1, 2, 3, 4, 5, 6, 7, 8, 9, 10, 11, 12, 13, 14, 15, 16, 17, 18, 0] (lv' := [(0, .ref xa), (1, .int a1), (2, .int a2), (3, .int a3), (4, .int a4), (5, .int a5), (6, .int a6), (7, .long w9), (9, .int 1), (10, .int (nI j)), (11, .int (xRod g j 0)), (12, .int (xRod g j 1)), (13, .int (xRod g j 3 - 100)), (14, .int x), (15, .int (nI q)), (16, .int a), (17, .int (nI q2)), (18, .int (nI q - 5 * nI q2)), (19, .int (lM g j (nI q) (nI q2)))]) rfl ?_
                  exact K171 _ (by simp only [eq_true h155_35, Bool.false_eq_true, not_false_eq_true, not_true_eq_false, and_self, and_true, true_and, and_false, false_and, or_true, true_or, or_false, false_or, or_self, if_true, if_false, eq_self, ite_true, ite_false, reduceIte])
                · refine g_iload C dL_areRodsSo_158 17 rfl ?_
                  refine g_iload C dL_areRodsSo_160 11 rfl ?_
                  refine g_isub C (v := (nI q2) - (xRod g j 0)) dL_areRodsSo_162 rfl ?_
                  refine g_goto C (tgt := 171) dL_areRodsSo_163 (by decide) ?_
                  refine g_lv [1, 2, 3, 4, 5, 6, 7, 8, 9, 10, 11, 12, 13, 14, 15, 16, 17, 18, 0] (lv' := [(0, .ref xa), (1, .int a1), (2, .int a2), (3, .int a3), (4, .int a4), (5, .int a5), (6, .int a6), (7, .long w9), (9, .int 1), (10, .int (nI j)), (11, .int (xRod g j 0)), (12, .int (xRod g j 1)), (13, .int (xRod g j 3 - 100)), (14, .int x), (15, .int (nI q)), (16, .int a), (17, .int (nI q2)), (18, .int (nI q - 5 * nI q2)), (19, .int (lM g j (nI q) (nI q2)))]) rfl ?_
                  exact K171 _ (by simp only [h155_35, Bool.false_eq_true, not_false_eq_true, not_true_eq_false, and_self, and_true, true_and, and_false, false_and, or_true, true_or, or_false, false_or, or_self, if_true, if_false, eq_self, ite_true, ite_false, reduceIte])
              refine g_iload C dL_areRodsSo_79 16 rfl ?_
              refine g_iconst C (v := 3) dL_areRodsSo_81 ci_3 ?_
              refine g_icmp_ge C (tgt := 226) dL_areRodsSo_82 (by decide) (fun h82_36 => absurd h82_36 (nI_ge (b := 3) hq2 (by decide))) (fun _ => ?_)
              refine g_iload C dL_areRodsSo_85 14 rfl ?_
              refine g_iconst C (v := 5) dL_areRodsSo_87 ci_5 ?_
              refine g_iload C dL_areRodsSo_88 16 rfl ?_
              refine g_imul C (v := 5 * (nI q2)) dL_areRodsSo_90 rfl ?_
              refine g_isub C (v := (nI q) - (5 * (nI q2))) dL_areRodsSo_91 rfl ?_
              refine g_istore C (lv' := [(18, .int ((nI q) - (5 * (nI q2)))), (0, .ref xa), (1, .int a1), (2, .int a2), (3, .int a3), (4, .int a4), (5, .int a5), (6, .int a6), (7, .long w9), (9, .int 1), (10, .int (nI j)), (11, .int (xRod g j 0)), (12, .int (xRod g j 1)), (13, .int (xRod g j 3 - 100)), (14, .int x), (15, .int (nI q)), (16, .int a), (17, .int (nI q2))]) dL_areRodsSo_92 (by decide) rfl ?_
              refine g_iload C dL_areRodsSo_94 0 rfl ?_
              refine g_if_lt C (tgt := 148) dL_areRodsSo_96 (by decide) (fun h96_37 => ?_) (fun h96_37 => ?_)
              · refine g_iconst C (v := 0) dL_areRodsSo_148 ci_0 ?_
                refine g_lv [1, 2, 3, 4, 5, 6, 7, 8, 9, 10, 11, 12, 13, 14, 15, 16, 17, 0] (lv' := [(0, .ref xa), (1, .int a1), (2, .int a2), (3, .int a3), (4, .int a4), (5, .int a5), (6, .int a6), (7, .long w9), (9, .int 1), (10, .int (nI j)), (11, .int (xRod g j 0)), (12, .int (xRod g j 1)), (13, .int (xRod g j 3 - 100)), (14, .int x), (15, .int (nI q)), (16, .int a), (17, .int (nI q2)), (18, .int ((nI q) - (5 * (nI q2))))]) rfl ?_
                exact K149 _ (by simp only [lM, eq_true h96_37, Bool.false_eq_true, not_false_eq_true, not_true_eq_false, and_self, and_true, true_and, and_false, false_and, or_true, true_or, or_false, false_or, or_self, if_true, if_false, eq_self, ite_true, ite_false, reduceIte])
              · refine g_iload C dL_areRodsSo_99 0 rfl ?_
                refine g_bipush C (v := 6) dL_areRodsSo_101 cb_6 ?_
                refine g_icmp_ge C (tgt := 148) dL_areRodsSo_103 (by decide) (fun h103_38 => ?_) (fun h103_38 => ?_)
                · refine g_iconst C (v := 0) dL_areRodsSo_148 ci_0 ?_
                  refine g_lv [1, 2, 3, 4, 5, 6, 7, 8, 9, 10, 11, 12, 13, 14, 15, 16, 17, 0] (lv' := [(0, .ref xa), (1, .int a1), (2, .int a2), (3, .int a3), (4, .int a4), (5, .int a5), (6, .int a6), (7, .long w9), (9, .int 1), (10, .int (nI j)), (11, .int (xRod g j 0)), (12, .int (xRod g j 1)), (13, .int (xRod g j 3 - 100)), (14, .int x), (15, .int (nI q)), (16, .int a), (17, .int (nI q2)), (18, .int ((nI q) - (5 * (nI q2))))]) rfl ?_
                  exact K149 _ (by simp only [lM, h96_37, eq_true h103_38, Bool.false_eq_true, not_false_eq_true, not_true_eq_false, and_self, and_true, true_and, and_false, false_and, or_true, true_or, or_false, false_or, or_self, if_true, if_false, eq_self, ite_true, ite_false, reduceIte])
                · refine g_aload_n C dL_areRodsSo_106 1 rfl ?_
                  refine g_iload C dL_areRodsSo_107 10 rfl ?_
                  refine g_iconst C (v := 4) dL_areRodsSo_109 ci_4 ?_
                  refine g_callVi C (c_X3_rod l D cI cO xa ta ha hb ad t n G g o z hn ho hz j hj9 4 ((by decide))) gL_areRodsSo_X3_rod rfl ⟨rfl, rfl⟩ hd_X3_rod ⟨Nat.le_of_ble_eq_true rfl, Nat.le_of_ble_eq_true rfl⟩ [0, 1] rfl (fun _ _ => trivial) rfl (rest := []) rfl (Nat.le_of_ble_eq_true rfl) dL_areRodsSo_110 ⟨Nat.zero_le _, Nat.zero_le _⟩ 0 rfl rfl rfl (pre := []) (post := []) (ws' := ((wS0 xa ad ha ta) ++ ((wT ta cI t (nI n)) ++ ((wHs ha hb cI cO G (nI o) (nI z)) ++ (wB ad cI g))))) rfl rfl ?_
                  refine g_iconst C (v := 1) dL_areRodsSo_113 ci_1 ?_
                  refine g_iand C (v := (xRod g j 4) &&& 1) dL_areRodsSo_114 rfl ?_
                  refine g_if_eq C (tgt := 125) dL_areRodsSo_115 (by decide) (fun h115_39 => ?_) (fun h115_39 => ?_)
                  · refine g_aload_n C dL_areRodsSo_125 1 rfl ?_
                    refine g_iload C dL_areRodsSo_126 10 rfl ?_
                    refine g_iconst C (v := 4) dL_areRodsSo_128 ci_4 ?_
                    refine g_callVi C (c_X3_rod l D cI cO xa ta ha hb ad t n G g o z hn ho hz j hj9 4 ((by decide))) gL_areRodsSo_X3_rod rfl ⟨rfl, rfl⟩ hd_X3_rod ⟨Nat.le_of_ble_eq_true rfl, Nat.le_of_ble_eq_true rfl⟩ [0, 1] rfl (fun _ _ => trivial) rfl (rest := []) rfl (Nat.le_of_ble_eq_true rfl) dL_areRodsSo_129 ⟨Nat.zero_le _, Nat.zero_le _⟩ 0 rfl rfl rfl (pre := []) (post := []) (ws' := ((wS0 xa ad ha ta) ++ ((wT ta cI t (nI n)) ++ ((wHs ha hb cI cO G (nI o) (nI z)) ++ (wB ad cI g))))) rfl rfl ?_
                    refine g_iconst C (v := 2) dL_areRodsSo_132 ci_2 ?_
                    refine g_iand C (v := (xRod g j 4) &&& 2) dL_areRodsSo_133 rfl ?_
                    refine g_if_eq C (tgt := 144) dL_areRodsSo_134 (by decide) (fun h134_40 => ?_) (fun h134_40 => ?_)
                    · refine g_iconst C (v := 1) dL_areRodsSo_144 ci_1 ?_
                      refine g_goto C (tgt := 149) dL_areRodsSo_145 (by decide) ?_
                      refine g_lv [1, 2, 3, 4, 5, 6, 7, 8, 9, 10, 11, 12, 13, 14, 15, 16, 17, 0] (lv' := [(0, .ref xa), (1, .int a1), (2, .int a2), (3, .int a3), (4, .int a4), (5, .int a5), (6, .int a6), (7, .long w9), (9, .int 1), (10, .int (nI j)), (11, .int (xRod g j 0)), (12, .int (xRod g j 1)), (13, .int (xRod g j 3 - 100)), (14, .int x), (15, .int (nI q)), (16, .int a), (17, .int (nI q2)), (18, .int ((nI q) - (5 * (nI q2))))]) rfl ?_
                      exact K149 _ (by simp only [lM, h96_37, h103_38, eq_true h115_39, eq_true h134_40, Bool.false_eq_true, not_false_eq_true, not_true_eq_false, and_self, and_true, true_and, and_false, false_and, or_true, true_or, or_false, false_or, or_self, if_true, if_false, eq_self, ite_true, ite_false, reduceIte])
                    · refine g_iload C dL_areRodsSo_137 0 rfl ?_
                      refine g_iload C dL_areRodsSo_139 12 rfl ?_
                      refine g_icmp_ne C (tgt := 148) dL_areRodsSo_141 (by decide) (fun h141_41 => ?_) (fun h141_41 => ?_)
                      · refine g_iconst C (v := 0) dL_areRodsSo_148 ci_0 ?_
                        refine g_lv [1, 2, 3, 4, 5, 6, 7, 8, 9, 10, 11, 12, 13, 14, 15, 16, 17, 0] (lv' := [(0, .ref xa), (1, .int a1), (2, .int a2), (3, .int a3), (4, .int a4), (5, .int a5), (6, .int a6), (7, .long w9), (9, .int 1), (10, .int (nI j)), (11, .int (xRod g j 0)), (12, .int (xRod g j 1)), (13, .int (xRod g j 3 - 100)), (14, .int x), (15, .int (nI q)), (16, .int a), (17, .int (nI q2)), (18, .int ((nI q) - (5 * (nI q2))))]) rfl ?_
                        exact K149 _ (by simp only [lM, h96_37, h103_38, eq_true h115_39, h134_40, h141_41, Bool.false_eq_true, not_false_eq_true, not_true_eq_false, and_self, and_true, true_and, and_false, false_and, or_true, true_or, or_false, false_or, or_self, if_true, if_false, eq_self, ite_true, ite_false, reduceIte])
                      · refine g_iconst C (v := 1) dL_areRodsSo_144 ci_1 ?_
                        refine g_goto C (tgt := 149) dL_areRodsSo_145 (by decide) ?_
                        refine g_lv [1, 2, 3, 4, 5, 6, 7, 8, 9, 10, 11, 12, 13, 14, 15, 16, 17, 0] (lv' := [(0, .ref xa), (1, .int a1), (2, .int a2), (3, .int a3), (4, .int a4), (5, .int a5), (6, .int a6), (7, .long w9), (9, .int 1), (10, .int (nI j)), (11, .int (xRod g j 0)), (12, .int (xRod g j 1)), (13, .int (xRod g j 3 - 100)), (14, .int x), (15, .int (nI q)), (16, .int a), (17, .int (nI q2)), (18, .int ((nI q) - (5 * (nI q2))))]) rfl ?_
                        exact K149 _ (by simp only [lM, h96_37, h103_38, eq_true h115_39, h134_40, eq_true h141_41, Bool.false_eq_true, not_false_eq_true, not_true_eq_false, and_self, and_true, true_and, and_false, false_and, or_true, true_or, or_false, false_or, or_self, if_true, if_false, eq_self, ite_true, ite_false, reduceIte])
                  · refine g_iload C dL_areRodsSo_118 17 rfl ?_
                    refine g_iload C dL_areRodsSo_120 11 rfl ?_
                    refine g_icmp_ne C (tgt := 148) dL_areRodsSo_122 (by decide) (fun h122_42 => ?_) (fun h122_42 => ?_)
                    · refine g_iconst C (v := 0) dL_areRodsSo_148 ci_0 ?_
                      refine g_lv [1, 2, 3, 4, 5, 6, 7, 8, 9, 10, 11, 12, 13, 14, 15, 16, 17, 0] (lv' := [(0, .ref xa), (1, .int a1), (2, .int a2), (3, .int a3), (4, .int a4), (5, .int a5), (6, .int a6), (7, .long w9), (9, .int 1), (10, .int (nI j)), (11, .int (xRod g j 0)), (12, .int (xRod g j 1)), (13, .int (xRod g j 3 - 100)), (14, .int x), (15, .int (nI q)), (16, .int a), (17, .int (nI q2)), (18, .int ((nI q) - (5 * (nI q2))))]) rfl ?_
                      exact K149 _ (by simp only [lM, h96_37, h103_38, h115_39, h122_42, Bool.false_eq_true, not_false_eq_true, not_true_eq_false, and_self, and_true, true_and, and_false, false_and, or_true, true_or, or_false, false_or, or_self, if_true, if_false, eq_self, ite_true, ite_false, reduceIte])
                    · refine g_aload_n C dL_areRodsSo_125 1 rfl ?_
                      refine g_iload C dL_areRodsSo_126 10 rfl ?_
                      refine g_iconst C (v := 4) dL_areRodsSo_128 ci_4 ?_
                      refine g_callVi C (c_X3_rod l D cI cO xa ta ha hb ad t n G g o z hn ho hz j hj9 4 ((by decide))) gL_areRodsSo_X3_rod rfl ⟨rfl, rfl⟩ hd_X3_rod ⟨Nat.le_of_ble_eq_true rfl, Nat.le_of_ble_eq_true rfl⟩ [0, 1] rfl (fun _ _ => trivial) rfl (rest := []) rfl (Nat.le_of_ble_eq_true rfl) dL_areRodsSo_129 ⟨Nat.zero_le _, Nat.zero_le _⟩ 0 rfl rfl rfl (pre := []) (post := []) (ws' := ((wS0 xa ad ha ta) ++ ((wT ta cI t (nI n)) ++ ((wHs ha hb cI cO G (nI o) (nI z)) ++ (wB ad cI g))))) rfl rfl ?_
                      refine g_iconst C (v := 2) dL_areRodsSo_132 ci_2 ?_
                      refine g_iand C (v := (xRod g j 4) &&& 2) dL_areRodsSo_133 rfl ?_
                      refine g_if_eq C (tgt := 144) dL_areRodsSo_134 (by decide) (fun h134_43 => ?_) (fun h134_43 => ?_)
                      · refine g_iconst C (v := 1) dL_areRodsSo_144 ci_1 ?_
                        refine g_goto C (tgt := 149) dL_areRodsSo_145 (by decide) ?_
                        refine g_lv [1, 2, 3, 4, 5, 6, 7, 8, 9, 10, 11, 12, 13, 14, 15, 16, 17, 0] (lv' := [(0, .ref xa), (1, .int a1), (2, .int a2), (3, .int a3), (4, .int a4), (5, .int a5), (6, .int a6), (7, .long w9), (9, .int 1), (10, .int (nI j)), (11, .int (xRod g j 0)), (12, .int (xRod g j 1)), (13, .int (xRod g j 3 - 100)), (14, .int x), (15, .int (nI q)), (16, .int a), (17, .int (nI q2)), (18, .int ((nI q) - (5 * (nI q2))))]) rfl ?_
                        exact K149 _ (by simp only [lM, h96_37, h103_38, h115_39, eq_true h122_42, eq_true h134_43, Bool.false_eq_true, not_false_eq_true, not_true_eq_false, and_self, and_true, true_and, and_false, false_and, or_true, true_or, or_false, false_or, or_self, if_true, if_false, eq_self, ite_true, ite_false, reduceIte])
                      · refine g_iload C dL_areRodsSo_137 0 rfl ?_
                        refine g_iload C dL_areRodsSo_139 12 rfl ?_
                        refine g_icmp_ne C (tgt := 148) dL_areRodsSo_141 (by decide) (fun h141_44 => ?_) (fun h141_44 => ?_)
                        · refine g_iconst C (v := 0) dL_areRodsSo_148 ci_0 ?_
                          refine g_lv [1, 2, 3, 4, 5, 6, 7, 8, 9, 10, 11, 12, 13, 14, 15, 16, 17, 0] (lv' := [(0, .ref xa), (1, .int a1), (2, .int a2), (3, .int a3), (4, .int a4), (5, .int a5), (6, .int a6), (7, .long w9), (9, .int 1), (10, .int (nI j)), (11, .int (xRod g j 0)), (12, .int (xRod g j 1)), (13, .int (xRod g j 3 - 100)), (14, .int x), (15, .int (nI q)), (16, .int a), (17, .int (nI q2)), (18, .int ((nI q) - (5 * (nI q2))))]) rfl ?_
                          exact K149 _ (by simp only [lM, h96_37, h103_38, h115_39, eq_true h122_42, h134_43, h141_44, Bool.false_eq_true, not_false_eq_true, not_true_eq_false, and_self, and_true, true_and, and_false, false_and, or_true, true_or, or_false, false_or, or_self, if_true, if_false, eq_self, ite_true, ite_false, reduceIte])
                        · refine g_iconst C (v := 1) dL_areRodsSo_144 ci_1 ?_
                          refine g_goto C (tgt := 149) dL_areRodsSo_145 (by decide) ?_
                          refine g_lv [1, 2, 3, 4, 5, 6, 7, 8, 9, 10, 11, 12, 13, 14, 15, 16, 17, 0] (lv' := [(0, .ref xa), (1, .int a1), (2, .int a2), (3, .int a3), (4, .int a4), (5, .int a5), (6, .int a6), (7, .long w9), (9, .int 1), (10, .int (nI j)), (11, .int (xRod g j 0)), (12, .int (xRod g j 1)), (13, .int (xRod g j 3 - 100)), (14, .int x), (15, .int (nI q)), (16, .int a), (17, .int (nI q2)), (18, .int ((nI q) - (5 * (nI q2))))]) rfl ?_
                          exact K149 _ (by simp only [lM, h96_37, h103_38, h115_39, eq_true h122_42, h134_43, eq_true h141_44, Bool.false_eq_true, not_false_eq_true, not_true_eq_false, and_self, and_true, true_and, and_false, false_and, or_true, true_or, or_false, false_or, or_self, if_true, if_false, eq_self, ite_true, ite_false, reduceIte])
          refine g_iload C dL_areRodsSo_66 14 rfl ?_
          refine g_bipush C (v := 16) dL_areRodsSo_68 cb_16 ?_
          refine g_icmp_ge C (tgt := 272) dL_areRodsSo_70 (by decide) (fun h70_45 => absurd h70_45 (nI_ge (b := 16) hq (by decide))) (fun _ => ?_)
          refine g_iconst C (v := -1) dL_areRodsSo_73 ci_m1 ?_
          refine g_istore C (lv' := [(16, .int (-1)), (0, .ref xa), (1, .int a1), (2, .int a2), (3, .int a3), (4, .int a4), (5, .int a5), (6, .int a6), (7, .long w9), (9, .int 1), (10, .int (nI j)), (11, .int (xRod g j 0)), (12, .int (xRod g j 1)), (13, .int (xRod g j 3 - 100)), (14, .int x), (15, .int (nI q))]) dL_areRodsSo_74 (by decide) rfl ?_
          refine g_iconst C (v := 0) dL_areRodsSo_76 ci_0 ?_
          refine g_istore C (lv' := [(17, .int 0), (16, .int (-1)), (0, .ref xa), (1, .int a1), (2, .int a2), (3, .int a3), (4, .int a4), (5, .int a5), (6, .int a6), (7, .long w9), (9, .int 1), (10, .int (nI j)), (11, .int (xRod g j 0)), (12, .int (xRod g j 1)), (13, .int (xRod g j 3 - 100)), (14, .int x), (15, .int (nI q))]) dL_areRodsSo_77 (by decide) rfl ?_
          refine g_lv [2, 3, 4, 5, 6, 7, 8, 9, 10, 11, 12, 13, 14, 15, 16, 1, 0] (lv' := [(0, .ref xa), (1, .int a1), (2, .int a2), (3, .int a3), (4, .int a4), (5, .int a5), (6, .int a6), (7, .long w9), (9, .int 1), (10, .int (nI j)), (11, .int (xRod g j 0)), (12, .int (xRod g j 1)), (13, .int (xRod g j 3 - 100)), (14, .int x), (15, .int (nI q)), (16, .int (-1)), (17, .int 0)]) rfl ?_
          exact K79 3 0 rfl _ (eLeast hR hq)
      refine g_lv [0, 1, 2, 3, 4, 5, 6, 7, 8, 9] (lv' := [(0, .ref xa), (1, .int a1), (2, .int a2), (3, .int a3), (4, .int a4), (5, .int a5), (6, .int a6), (7, .long w9), (9, .int 1), (10, .int (nI j))]) rfl ?_
      refine g_iload C dL_areRodsSo_25 9 rfl ?_
      refine g_if_lt C (tgt := 476) dL_areRodsSo_27 (by decide) (fun h27_46 => absurd h27_46 (nI_pos (by omega))) (fun _ => ?_)
      refine g_aload_n C dL_areRodsSo_30 0 rfl ?_
      refine g_iload C dL_areRodsSo_31 9 rfl ?_
      refine g_iconst C (v := 0) dL_areRodsSo_33 ci_0 ?_
      refine g_callVi C (c_X3_rod l D cI cO xa ta ha hb ad t n G g o z hn ho hz j hj9 0 ((by decide))) gL_areRodsSo_X3_rod rfl ⟨rfl, rfl⟩ hd_X3_rod ⟨Nat.le_of_ble_eq_true rfl, Nat.le_of_ble_eq_true rfl⟩ [0, 1] rfl (fun _ _ => trivial) rfl (rest := []) rfl (Nat.le_of_ble_eq_true rfl) dL_areRodsSo_34 ⟨Nat.zero_le _, Nat.zero_le _⟩ 0 rfl rfl rfl (pre := []) (post := []) (ws' := ((wS0 xa ad ha ta) ++ ((wT ta cI t (nI n)) ++ ((wHs ha hb cI cO G (nI o) (nI z)) ++ (wB ad cI g))))) rfl rfl ?_
      refine g_istore C (lv' := [(11, .int (xRod g j 0)), (0, .ref xa), (1, .int a1), (2, .int a2), (3, .int a3), (4, .int a4), (5, .int a5), (6, .int a6), (7, .long w9), (9, .int 1), (10, .int (nI j))]) dL_areRodsSo_37 (by decide) rfl ?_
      refine g_aload_n C dL_areRodsSo_39 1 rfl ?_
      refine g_iload C dL_areRodsSo_40 10 rfl ?_
      refine g_iconst C (v := 1) dL_areRodsSo_42 ci_1 ?_
      refine g_callVi C (c_X3_rod l D cI cO xa ta ha hb ad t n G g o z hn ho hz j hj9 1 ((by decide))) gL_areRodsSo_X3_rod rfl ⟨rfl, rfl⟩ hd_X3_rod ⟨Nat.le_of_ble_eq_true rfl, Nat.le_of_ble_eq_true rfl⟩ [0, 1] rfl (fun _ _ => trivial) rfl (rest := []) rfl (Nat.le_of_ble_eq_true rfl) dL_areRodsSo_43 ⟨Nat.zero_le _, Nat.zero_le _⟩ 0 rfl rfl rfl (pre := []) (post := []) (ws' := ((wS0 xa ad ha ta) ++ ((wT ta cI t (nI n)) ++ ((wHs ha hb cI cO G (nI o) (nI z)) ++ (wB ad cI g))))) rfl rfl ?_
      refine g_istore C (lv' := [(12, .int (xRod g j 1)), (11, .int (xRod g j 0)), (0, .ref xa), (1, .int a1), (2, .int a2), (3, .int a3), (4, .int a4), (5, .int a5), (6, .int a6), (7, .long w9), (9, .int 1), (10, .int (nI j))]) dL_areRodsSo_46 (by decide) rfl ?_
      refine g_aload_n C dL_areRodsSo_48 2 rfl ?_
      refine g_iload C dL_areRodsSo_49 11 rfl ?_
      refine g_iconst C (v := 3) dL_areRodsSo_51 ci_3 ?_
      refine g_callVi C (c_X3_rod l D cI cO xa ta ha hb ad t n G g o z hn ho hz j hj9 3 ((by decide))) gL_areRodsSo_X3_rod rfl ⟨rfl, rfl⟩ hd_X3_rod ⟨Nat.le_of_ble_eq_true rfl, Nat.le_of_ble_eq_true rfl⟩ [0, 1] rfl (fun _ _ => trivial) rfl (rest := []) rfl (Nat.le_of_ble_eq_true rfl) dL_areRodsSo_52 ⟨Nat.zero_le _, Nat.zero_le _⟩ 0 rfl rfl rfl (pre := []) (post := []) (ws' := ((wS0 xa ad ha ta) ++ ((wT ta cI t (nI n)) ++ ((wHs ha hb cI cO G (nI o) (nI z)) ++ (wB ad cI g))))) rfl rfl ?_
      refine g_bipush C (v := 100) dL_areRodsSo_55 cb_100 ?_
      refine g_isub C (v := (xRod g j 3) - 100) dL_areRodsSo_57 rfl ?_
      refine g_istore C (lv' := [(13, .int ((xRod g j 3) - 100)), (12, .int (xRod g j 1)), (11, .int (xRod g j 0)), (0, .ref xa), (1, .int a1), (2, .int a2), (3, .int a3), (4, .int a4), (5, .int a5), (6, .int a6), (7, .long w9), (9, .int 1), (10, .int (nI j))]) dL_areRodsSo_58 (by decide) rfl ?_
      refine g_iconst C (v := 0) dL_areRodsSo_60 ci_0 ?_
      refine g_istore C (lv' := [(14, .int 0), (13, .int ((xRod g j 3) - 100)), (12, .int (xRod g j 1)), (11, .int (xRod g j 0)), (0, .ref xa), (1, .int a1), (2, .int a2), (3, .int a3), (4, .int a4), (5, .int a5), (6, .int a6), (7, .long w9), (9, .int 1), (10, .int (nI j))]) dL_areRodsSo_61 (by decide) rfl ?_
      refine g_iconst C (v := 0) dL_areRodsSo_63 ci_0 ?_
      refine g_istore C (lv' := [(15, .int 0), (14, .int 0), (13, .int ((xRod g j 3) - 100)), (12, .int (xRod g j 1)), (11, .int (xRod g j 0)), (0, .ref xa), (1, .int a1), (2, .int a2), (3, .int a3), (4, .int a4), (5, .int a5), (6, .int a6), (7, .long w9), (9, .int 1), (10, .int (nI j))]) dL_areRodsSo_64 (by decide) rfl ?_
      refine g_lv [5, 6, 7, 8, 9, 10, 11, 12, 13, 14, 4, 3, 2, 1, 0] (lv' := [(0, .ref xa), (1, .int a1), (2, .int a2), (3, .int a3), (4, .int a4), (5, .int a5), (6, .int a6), (7, .long w9), (9, .int 1), (10, .int (nI j)), (11, .int (xRod g j 0)), (12, .int (xRod g j 1)), (13, .int ((xRod g j 3) - 100)), (14, .int 0), (15, .int 0)]) rfl ?_
      exact K66 16 0 rfl _ rfl
  refine g_iconst C (v := 0) dL_areRodsSo_0 ci_0 ?_
  refine g_istore_n C (lv' := [(1, .int 0), (0, .ref xa)]) dL_areRodsSo_1 rfl (by decide) rfl ?_
  refine g_iconst C (v := 0) dL_areRodsSo_2 ci_0 ?_
  refine g_istore_n C (lv' := [(2, .int 0), (1, .int 0), (0, .ref xa)]) dL_areRodsSo_3 rfl (by decide) rfl ?_
  refine g_iconst C (v := 0) dL_areRodsSo_4 ci_0 ?_
  refine g_istore_n C (lv' := [(3, .int 0), (2, .int 0), (1, .int 0), (0, .ref xa)]) dL_areRodsSo_5 rfl (by decide) rfl ?_
  refine g_iconst C (v := 0) dL_areRodsSo_6 ci_0 ?_
  refine g_istore C (lv' := [(4, .int 0), (3, .int 0), (2, .int 0), (1, .int 0), (0, .ref xa)]) dL_areRodsSo_7 (by decide) rfl ?_
  refine g_iconst C (v := 0) dL_areRodsSo_9 ci_0 ?_
  refine g_istore C (lv' := [(5, .int 0), (4, .int 0), (3, .int 0), (2, .int 0), (1, .int 0), (0, .ref xa)]) dL_areRodsSo_10 (by decide) rfl ?_
  refine g_iconst C (v := 0) dL_areRodsSo_12 ci_0 ?_
  refine g_istore C (lv' := [(6, .int 0), (5, .int 0), (4, .int 0), (3, .int 0), (2, .int 0), (1, .int 0), (0, .ref xa)]) dL_areRodsSo_13 (by decide) rfl ?_
  refine g_lconst C (v := 0) dL_areRodsSo_15 rfl ?_
  refine g_lstore C (lv' := [(7, .long 0), (6, .int 0), (5, .int 0), (4, .int 0), (3, .int 0), (2, .int 0), (1, .int 0), (0, .ref xa)]) dL_areRodsSo_16 (by decide) rfl ?_
  refine g_iconst C (v := 1) dL_areRodsSo_18 ci_1 ?_
  refine g_istore C (lv' := [(9, .int 1), (7, .long 0), (6, .int 0), (5, .int 0), (4, .int 0), (3, .int 0), (2, .int 0), (1, .int 0), (0, .ref xa)]) dL_areRodsSo_19 (by decide) rfl ?_
  refine g_bipush C (v := 8) dL_areRodsSo_21 cb_8 ?_
  refine g_istore C (lv' := [(10, .int 8), (9, .int 1), (7, .long 0), (6, .int 0), (5, .int 0), (4, .int 0), (3, .int 0), (2, .int 0), (1, .int 0), (0, .ref xa)]) dL_areRodsSo_23 (by decide) rfl ?_
  refine g_lv [9, 8, 7, 6, 5, 4, 3, 2, 1, 0] (lv' := [(0, .ref xa), (1, .int 0), (2, .int 0), (3, .int 0), (4, .int 0), (5, .int 0), (6, .int 0), (7, .long 0), (9, .int 1), (10, .int 8)]) rfl ?_
  exact K 9 (Nat.le_refl _) _ _ _ _ _ _ _ rfl rfl rfl rfl rfl rfl rfl
theorem c_X3_lessN (l : Launch) (D : va_G) (cI cO : ClassId) (xa : Nat) (ta ha : Nat → Nat) (hb : Nat → Nat → Nat) (ad : Nat → Nat) (t : Nat → Int32) (n : Nat) (G : Nat → Nat → Int32) (g : Nat → Int32) (o z : Nat) (hn : n ≤ 60) (ho : o < 6) (hz : z ≤ 6) (r : Nat) (hr : r < 9) (n9 : Int32) (h1 : ¬ -n9 < 1) (h2 : -n9 ≤ 9) (hm : ¬ (xCh g r n9 0).1 = -1) : cR (fun _ => True) l yX3_less wsX3_less rmX3_less D vwCl (tyA cI cO) [.ref xa, .int (nI r), .int (-n9)] ((wS0 xa ad ha ta) ++ ((wT ta cI t (nI n)) ++ ((wHs ha hb cI cO G (nI o) (nI z)) ++ (wB ad cI g)))) (some (.int (xCh g r n9 1).1)) ((wS0 xa ad ha ta) ++ ((wT ta cI t (nI n)) ++ ((wHs ha hb cI cO (kG G o z g) (nI (kO o z)) (nI (kM z + 1))) ++ (wB ad cI ((xCh g r n9 1).2))))) := by
  have h := c_X3_less l D cI cO xa ta ha hb ad t n G g o z hn ho hz r hr (-n9) h1 h2 (by rw [Int32.neg_neg]; exact hm)
  rw [Int32.neg_neg] at h
  exact h
/-- the law's methods that change and undo: they answer 1, and the board is as it was -/
def sP (xa : Nat) (ta ha : Nat → Nat) (hb : Nat → Nat → Nat) (ad : Nat → Nat) (cI cO : ClassId) (t : Nat → Int32) (n : Nat) (g : Nat → Int32) : Int32 → va_W → Prop := fun x w => x = 1 ∧ ∃ (G1 : Nat → Nat → Int32) (o1 z1 : Nat), o1 < 6 ∧ z1 ≤ 6 ∧ w = ((wS0 xa ad ha ta) ++ ((wT ta cI t (nI n)) ++ ((wHs ha hb cI cO G1 (nI o1) (nI z1)) ++ (wB ad cI g))))
/-- what the law does to the rods in one step: its answer isn't below 0, and where it only sticks, sets, tidies or pays the whole number stays -/
def dP (xa : Nat) (ta ha : Nat → Nat) (hb : Nat → Nat → Nat) (ad : Nat → Nat) (cI cO : ClassId) (t : Nat → Int32) (n : Nat) (g : Nat → Int32) (v : Int32) : Int32 → va_W → Prop := fun x w => ¬ x < 0 ∧ ∃ (G1 : Nat → Nat → Int32) (o1 z1 : Nat) (g1 : Nat → Int32), o1 < 6 ∧ z1 ≤ 6 ∧ Iv g1 ∧ (¬ v &&& 15 < 2 → v &&& 15 ≤ 7 → zW g1 9 = zW g 9) ∧ w = ((wS0 xa ad ha ta) ++ ((wT ta cI t (nI n)) ++ ((wHs ha hb cI cO G1 (nI o1) (nI z1)) ++ (wB ad cI g1))))
theorem hd_L_power : yL_power.cls ≠ "java/lang/invoke/MethodHandle" ∧ yL_power.cls ≠ "java/lang/invoke/VarHandle" ∧ (parseMethodDescriptor yL_power.desc).map (fun d => d.parameters.length) = some 1 := by decide +kernel
theorem hd_X3_undo : yX3_undo.cls = RX3 ∧ yX3_undo.cls ≠ "java/lang/invoke/MethodHandle" ∧ yX3_undo.cls ≠ "java/lang/invoke/VarHandle" ∧ (parseMethodDescriptor yX3_undo.desc).map (fun d => d.parameters.length) = some 0 := by decide +kernel
theorem hd_X3_ifAdded : yX3_ifAdded.cls = RX3 ∧ yX3_ifAdded.cls ≠ "java/lang/invoke/MethodHandle" ∧ yX3_ifAdded.cls ≠ "java/lang/invoke/VarHandle" ∧ (parseMethodDescriptor yX3_ifAdded.desc).map (fun d => d.parameters.length) = some 2 := by decide +kernel
theorem hd_X3_less : yX3_less.cls = RX3 ∧ yX3_less.cls ≠ "java/lang/invoke/MethodHandle" ∧ yX3_less.cls ≠ "java/lang/invoke/VarHandle" ∧ (parseMethodDescriptor yX3_less.desc).map (fun d => d.parameters.length) = some 2 := by decide +kernel
theorem hd_X3_add : yX3_add.cls = RX3 ∧ yX3_add.cls ≠ "java/lang/invoke/MethodHandle" ∧ yX3_add.cls ≠ "java/lang/invoke/VarHandle" ∧ (parseMethodDescriptor yX3_add.desc).map (fun d => d.parameters.length) = some 2 := by decide +kernel
abbrev rmL_isAddedSo : Room := { frames := 7, cells := 0, slots := 0, locals := 169 }
set_option maxHeartbeats 2000000 in
set_option maxRecDepth 100000 in
theorem c_L_isAddedSo (l : Launch) (D : va_G) (cI cO : ClassId) (xa : Nat) (ta ha : Nat → Nat) (hb : Nat → Nat → Nat) (ad : Nat → Nat) (t : Nat → Int32) (n : Nat) (G : Nat → Nat → Int32) (g : Nat → Int32) (o z : Nat) (hn : n ≤ 60) (ho : o < 6) (hz : z ≤ 6) (hI : Iv g) (r : Nat) (hr : r < 9) (n9 : Int32) (m9 : Nat) (hm : m9 ≤ 18) (en : n9 = nI m9 - 9) : cE (fun _ => True) l yL_isAddedSo wsL_isAddedSo rmL_isAddedSo D vwCl (tyA cI cO) [.ref xa, .int (nI r), .int n9] ((wS0 xa ad ha ta) ++ ((wT ta cI t (nI n)) ++ ((wHs ha hb cI cO G (nI o) (nI z)) ++ (wB ad cI g)))) (sP xa ta ha hb ad cI cO t n g) := by
  refine cE_of (cc := cL_isAddedSo) (maxL := 10) (ret := (some .boolean)) (by decide) rfl (Nat.le_of_ble_eq_true rfl) ?_
  intro p e s m below meth c A C hret hlk hnm hF
  refine g_lv [0, 1, 2] (lv' := [(0, .ref xa), (1, .int (nI r)), (2, .int n9)]) rfl ?_
  have hm9 := nm9 m9 (by omega)
  rw [← en] at hm9
  have K62 : ∀ b : Nat, b ≤ 100 → (xCh g r n9 0).1 = nI b → (xCh g r n9 1).1 = nI b → mv g (xCh g r n9 1).2 (r + 1) (nI b) (n9.toInt * 10 ^ r) → gG p l e rmL_isAddedSo s m ([.ref xa, .int (nI r), .int n9] : List Value).toArray below meth c D vwCl A s.heap 10 (MQ below (cQE (sP xa ta ha hb ad cI cO t n g) D vwCl (tyA cI cO) A) ([.ref xa, .int (nI r), .int n9] : List Value).toArray s 0 0 A) 0 0 ((wS0 xa ad ha ta) ++ ((wT ta cI t (nI n)) ++ ((wHs ha hb cI cO (kG G o z g) (nI (kO o z)) (nI (kM z + 1))) ++ (wB ad cI ((xCh g r n9 1).2))))) 62 [(0, .ref xa), (1, .int (nI r)), (2, .int n9), (3, .int ((xCh g r n9 0).1)), (4, .long ((xWs g 9).1)), (6, .int (xCn g z 0))] [.int ((xCh g r n9 1).1)] := by
    intro b hb9 h0 h1 hmv
    refine g_istore C (lv' := [(7, .int ((xCh g r n9 1).1)), (0, .ref xa), (1, .int (nI r)), (2, .int n9), (3, .int ((xCh g r n9 0).1)), (4, .long ((xWs g 9).1)), (6, .int (xCn g z 0))]) dL_isAddedSo_62 (by decide) rfl ?_
    refine g_iload C dL_isAddedSo_64 0 rfl ?_
    refine g_iload_n C dL_isAddedSo_66 4 rfl ?_
    refine g_icmp_ne C (tgt := 104) dL_isAddedSo_67 (by decide) (fun h67_1 => absurd (h1.trans h0.symm) h67_1) (fun _ => ?_)
    refine g_aload_n C dL_isAddedSo_70 1 rfl ?_
    refine g_iconst C (v := 0) dL_isAddedSo_71 ci_0 ?_
    refine g_callVi C (c_X3_count l D cI cO xa ta ha hb ad t n (kG G o z g) ((xCh g r n9 1).2) (kO o z) (kM z + 1) hn (kO_lt ho) (by have := kM_lt hz; omega) 0 ((by decide))) gL_isAddedSo_X3_count rfl ⟨rfl, rfl⟩ hd_X3_count ⟨Nat.le_of_ble_eq_true rfl, Nat.le_of_ble_eq_true rfl⟩ [0, 1] rfl (fun _ _ => trivial) rfl (rest := []) rfl (Nat.le_of_ble_eq_true rfl) dL_isAddedSo_72 ⟨Nat.zero_le _, Nat.zero_le _⟩ 0 rfl rfl rfl (pre := []) (post := []) (ws' := ((wS0 xa ad ha ta) ++ ((wT ta cI t (nI n)) ++ ((wHs ha hb cI cO (kG G o z g) (nI (kO o z)) (nI (kM z + 1))) ++ (wB ad cI ((xCh g r n9 1).2)))))) rfl rfl ?_
    refine g_iload C dL_isAddedSo_75 6 rfl ?_
    refine g_iload_n C dL_isAddedSo_77 4 rfl ?_
    refine g_iadd C (v := (xCn g z 0) + ((xCh g r n9 0).1)) dL_isAddedSo_78 rfl ?_
    refine g_icmp_ne C (tgt := 104) dL_isAddedSo_79 (by decide) (fun h79_2 => absurd (by rw [h0]; exact hmv.2.2.1) h79_2) (fun _ => ?_)
    refine g_aload_n C dL_isAddedSo_82 1 rfl ?_
    refine g_callVl C (c_X3_whole l D cI cO xa ta ha hb ad t n (kG G o z g) ((xCh g r n9 1).2) (kO o z) (kM z + 1) hn (kO_lt ho) (by have := kM_lt hz; omega)) gL_isAddedSo_X3_whole rfl ⟨rfl, rfl⟩ hd_X3_whole ⟨Nat.le_of_ble_eq_true rfl, Nat.le_of_ble_eq_true rfl⟩ [0, 1] rfl (fun _ _ => trivial) rfl (rest := []) rfl (Nat.le_of_ble_eq_true rfl) dL_isAddedSo_83 ⟨Nat.zero_le _, Nat.zero_le _⟩ 0 rfl rfl rfl (pre := []) (post := []) (ws' := ((wS0 xa ad ha ta) ++ ((wT ta cI t (nI n)) ++ ((wHs ha hb cI cO (kG G o z g) (nI (kO o z)) (nI (kM z + 1))) ++ (wB ad cI ((xCh g r n9 1).2)))))) rfl rfl ?_
    refine g_lload C dL_isAddedSo_86 5 rfl ?_
    refine g_iload_n C dL_isAddedSo_88 3 rfl ?_
    refine g_i2l C (v := n9.toInt64) dL_isAddedSo_89 rfl ?_
    refine g_iload_n C dL_isAddedSo_90 2 rfl ?_
    refine g_callSl C (c_L_power l D cI cO r hr) gL_isAddedSo_L_power rfl ⟨rfl, rfl⟩ hd_L_power ⟨Nat.le_of_ble_eq_true rfl, Nat.le_of_ble_eq_true rfl⟩ [0, 1] rfl (fun _ _ => trivial) rfl (rest := [.long n9.toInt64, .long ((xWs g 9).1), .long ((xWs ((xCh g r n9 1).2) 9).1)]) rfl (Nat.le_of_ble_eq_true rfl) dL_isAddedSo_91 ⟨Nat.zero_le _, Nat.zero_le _⟩ (pre := []) (post := ((wS0 xa ad ha ta) ++ ((wT ta cI t (nI n)) ++ ((wHs ha hb cI cO (kG G o z g) (nI (kO o z)) (nI (kM z + 1))) ++ (wB ad cI ((xCh g r n9 1).2)))))) (ws' := ((wS0 xa ad ha ta) ++ ((wT ta cI t (nI n)) ++ ((wHs ha hb cI cO (kG G o z g) (nI (kO o z)) (nI (kM z + 1))) ++ (wB ad cI ((xCh g r n9 1).2)))))) rfl rfl ?_
    refine g_lmul C (v := n9.toInt64 * (Int64.ofInt (10 ^ r))) dL_isAddedSo_94 rfl ?_
    refine g_ladd C (v := ((xWs g 9).1) + (n9.toInt64 * (Int64.ofInt (10 ^ r)))) dL_isAddedSo_95 rfl ?_
    refine g_lcmp C (v := lg_cmp ((xWs ((xCh g r n9 1).2) 9).1) (((xWs g 9).1) + (n9.toInt64 * (Int64.ofInt (10 ^ r))))) dL_isAddedSo_96 rfl ?_
    refine g_if_ne C (tgt := 104) dL_isAddedSo_97 (by decide) (fun h97_3 => absurd (lgz (eWadd hI hmv.1 hmv.2.1)) h97_3) (fun _ => ?_)
    refine g_iconst C (v := 1) dL_isAddedSo_100 ci_1 ?_
    refine g_goto C (tgt := 105) dL_isAddedSo_101 (by decide) ?_
    refine g_istore C (lv' := [(8, .int 1), (7, .int ((xCh g r n9 1).1)), (0, .ref xa), (1, .int (nI r)), (2, .int n9), (3, .int ((xCh g r n9 0).1)), (4, .long ((xWs g 9).1)), (6, .int (xCn g z 0))]) dL_isAddedSo_105 (by decide) rfl ?_
    refine g_aload_n C dL_isAddedSo_107 2 rfl ?_
    refine g_callVi C (c_X3_undo l D cI cO xa ta ha hb ad t n (kG G o z g) ((xCh g r n9 1).2) (kO o z) (kM z + 1) hn (kO_lt ho) (by have := kM_lt hz; omega) ((Nat.succ_pos _))) gL_isAddedSo_X3_undo rfl ⟨rfl, rfl⟩ hd_X3_undo ⟨Nat.le_of_ble_eq_true rfl, Nat.le_of_ble_eq_true rfl⟩ [0, 1] rfl (fun _ _ => trivial) rfl (rest := []) rfl (Nat.le_of_ble_eq_true rfl) dL_isAddedSo_108 ⟨Nat.zero_le _, Nat.zero_le _⟩ 0 rfl rfl rfl (pre := []) (post := []) (ws' := ((wS0 xa ad ha ta) ++ ((wT ta cI t (nI n)) ++ ((wHs ha hb cI cO (kG G o z g) (nI (kO o z)) (nI (kM z + 1 - 1))) ++ (wB ad cI ((kG G o z g) (rI (kO o z) (kM z + 1)))))))) rfl rfl ?_
    refine g_ws (ws' := ((wS0 xa ad ha ta) ++ ((wT ta cI t (nI n)) ++ ((wHs ha hb cI cO (kG G o z g) (nI (kO o z)) (nI (kM z + 1 - 1))) ++ (wB ad cI g))))) (by rw [kG_un]) ?_
    refine g_istore C (lv' := [(9, .int (nI (kM z + 1 - 1))), (8, .int 1), (7, .int ((xCh g r n9 1).1)), (0, .ref xa), (1, .int (nI r)), (2, .int n9), (3, .int ((xCh g r n9 0).1)), (4, .long ((xWs g 9).1)), (6, .int (xCn g z 0))]) dL_isAddedSo_111 (by decide) rfl ?_
    refine g_iload C dL_isAddedSo_113 1 rfl ?_
    refine g_if_eq C (tgt := 137) dL_isAddedSo_115 (by decide) (fun h115_4 => absurd h115_4 (by decide)) (fun _ => ?_)
    refine g_iload C dL_isAddedSo_118 0 rfl ?_
    refine g_if_lt C (tgt := 137) dL_isAddedSo_120 (by decide) (fun h120_5 => absurd h120_5 (nI_pos (by have := kM_lt hz; omega))) (fun _ => ?_)
    refine g_aload_n C dL_isAddedSo_123 3 rfl ?_
    refine g_callVl C (c_X3_whole l D cI cO xa ta ha hb ad t n (kG G o z g) g (kO o z) (kM z + 1 - 1) hn (kO_lt ho) (by have := kM_lt hz; omega)) gL_isAddedSo_X3_whole rfl ⟨rfl, rfl⟩ hd_X3_whole ⟨Nat.le_of_ble_eq_true rfl, Nat.le_of_ble_eq_true rfl⟩ [0, 1] rfl (fun _ _ => trivial) rfl (rest := []) rfl (Nat.le_of_ble_eq_true rfl) dL_isAddedSo_124 ⟨Nat.zero_le _, Nat.zero_le _⟩ 0 rfl rfl rfl (pre := []) (post := []) (ws' := ((wS0 xa ad ha ta) ++ ((wT ta cI t (nI n)) ++ ((wHs ha hb cI cO (kG G o z g) (nI (kO o z)) (nI (kM z + 1 - 1))) ++ (wB ad cI g))))) rfl rfl ?_
    refine g_lload C dL_isAddedSo_127 7 rfl ?_
    refine g_lcmp C (v := lg_cmp ((xWs g 9).1) ((xWs g 9).1)) dL_isAddedSo_129 rfl ?_
    refine g_if_ne C (tgt := 137) dL_isAddedSo_130 (by decide) (fun h130_6 => absurd (lgz rfl) h130_6) (fun _ => ?_)
    refine g_iconst C (v := 1) dL_isAddedSo_133 ci_1 ?_
    refine g_goto C (tgt := 138) dL_isAddedSo_134 (by decide) ?_
    exact g_zretE C hret hlk dL_isAddedSo_138 (Or.inr rfl) ⟨rfl, _, _, _, (kO_lt ho), (by have := kM_lt hz; omega), rfl⟩
  refine g_aload_n C dL_isAddedSo_0 0 rfl ?_
  refine g_iload_n C dL_isAddedSo_1 1 rfl ?_
  refine g_iload_n C dL_isAddedSo_2 2 rfl ?_
  refine g_callVi C (c_X3_ifAdded l D cI cO xa ta ha hb ad t n G g o z hn ho hz r hr n9 hm9.1 hm9.2.1) gL_isAddedSo_X3_ifAdded rfl ⟨rfl, rfl⟩ hd_X3_ifAdded ⟨Nat.le_of_ble_eq_true rfl, Nat.le_of_ble_eq_true rfl⟩ [0, 1] rfl (fun _ _ => trivial) rfl (rest := []) rfl (Nat.le_of_ble_eq_true rfl) dL_isAddedSo_3 ⟨Nat.zero_le _, Nat.zero_le _⟩ 0 rfl rfl rfl (pre := []) (post := []) (ws' := ((wS0 xa ad ha ta) ++ ((wT ta cI t (nI n)) ++ ((wHs ha hb cI cO G (nI o) (nI z)) ++ (wB ad cI g))))) rfl rfl ?_
  refine g_istore_n C (lv' := [(3, .int ((xCh g r n9 0).1)), (0, .ref xa), (1, .int (nI r)), (2, .int n9)]) dL_isAddedSo_6 rfl (by decide) rfl ?_
  refine g_aload_n C dL_isAddedSo_7 1 rfl ?_
  refine g_callVl C (c_X3_whole l D cI cO xa ta ha hb ad t n G g o z hn ho hz) gL_isAddedSo_X3_whole rfl ⟨rfl, rfl⟩ hd_X3_whole ⟨Nat.le_of_ble_eq_true rfl, Nat.le_of_ble_eq_true rfl⟩ [0, 1] rfl (fun _ _ => trivial) rfl (rest := []) rfl (Nat.le_of_ble_eq_true rfl) dL_isAddedSo_8 ⟨Nat.zero_le _, Nat.zero_le _⟩ 0 rfl rfl rfl (pre := []) (post := []) (ws' := ((wS0 xa ad ha ta) ++ ((wT ta cI t (nI n)) ++ ((wHs ha hb cI cO G (nI o) (nI z)) ++ (wB ad cI g))))) rfl rfl ?_
  refine g_lstore C (lv' := [(4, .long ((xWs g 9).1)), (3, .int ((xCh g r n9 0).1)), (0, .ref xa), (1, .int (nI r)), (2, .int n9)]) dL_isAddedSo_11 (by decide) rfl ?_
  refine g_aload_n C dL_isAddedSo_13 2 rfl ?_
  refine g_iconst C (v := 0) dL_isAddedSo_14 ci_0 ?_
  refine g_callVi C (c_X3_count l D cI cO xa ta ha hb ad t n G g o z hn ho hz 0 ((by decide))) gL_isAddedSo_X3_count rfl ⟨rfl, rfl⟩ hd_X3_count ⟨Nat.le_of_ble_eq_true rfl, Nat.le_of_ble_eq_true rfl⟩ [0, 1] rfl (fun _ _ => trivial) rfl (rest := []) rfl (Nat.le_of_ble_eq_true rfl) dL_isAddedSo_15 ⟨Nat.zero_le _, Nat.zero_le _⟩ 0 rfl rfl rfl (pre := []) (post := []) (ws' := ((wS0 xa ad ha ta) ++ ((wT ta cI t (nI n)) ++ ((wHs ha hb cI cO G (nI o) (nI z)) ++ (wB ad cI g))))) rfl rfl ?_
  refine g_istore C (lv' := [(6, .int (xCn g z 0)), (4, .long ((xWs g 9).1)), (3, .int ((xCh g r n9 0).1)), (0, .ref xa), (1, .int (nI r)), (2, .int n9)]) dL_isAddedSo_18 (by decide) rfl ?_
  refine g_iload_n C dL_isAddedSo_20 2 rfl ?_
  refine g_if_lt C (tgt := 28) dL_isAddedSo_21 (by decide) (fun h21_7 => ?_) (fun h21_7 => ?_)
  · refine g_iload_n C dL_isAddedSo_28 5 rfl ?_
    refine g_if_ne C (tgt := 36) dL_isAddedSo_29 (by decide) (fun h29_8 => ?_) (fun h29_8 => ?_)
    · refine g_iconst C (v := 1) dL_isAddedSo_36 ci_1 ?_
      refine g_goto C (tgt := 41) dL_isAddedSo_37 (by decide) ?_
      exact g_zretE C hret hlk dL_isAddedSo_41 (Or.inr rfl) ⟨rfl, _, _, _, ho, hz, rfl⟩
    · have hz0 : n9 = 0 := h29_8
      refine g_iload_n C dL_isAddedSo_32 2 rfl ?_
      refine g_if_ne C (tgt := 40) dL_isAddedSo_33 (by decide) (fun h33_9 => absurd (by rw [hz0]; exact eCh0 (hI.1 r hr)) h33_9) (fun _ => ?_)
      refine g_iconst C (v := 1) dL_isAddedSo_36 ci_1 ?_
      refine g_goto C (tgt := 41) dL_isAddedSo_37 (by decide) ?_
      exact g_zretE C hret hlk dL_isAddedSo_41 (Or.inr rfl) ⟨rfl, _, _, _, ho, hz, rfl⟩
  · have hge := h21_7
    refine g_iload_n C dL_isAddedSo_24 5 rfl ?_
    refine g_if_ne C (tgt := 42) dL_isAddedSo_25 (by decide) (fun h25_10 => ?_) (fun h25_10 => ?_)
    · have hne0 := h25_10
      refine g_iload_n C dL_isAddedSo_42 5 rfl ?_
      refine g_if_le C (tgt := 55) dL_isAddedSo_43 (by decide) (fun h43_11 => ?_) (fun h43_11 => ?_)
      · have hle := h43_11
        refine g_aload_n C dL_isAddedSo_55 3 rfl ?_
        refine g_iload_n C dL_isAddedSo_56 4 rfl ?_
        refine g_iload_n C dL_isAddedSo_57 5 rfl ?_
        refine g_ineg C (v := -n9) dL_isAddedSo_58 rfl ?_
        refine g_callVi C (c_X3_lessN l D cI cO xa ta ha hb ad t n G g o z hn ho hz r hr n9 ((hm9.2.2.2.1 hle hne0)) hm9.2.2.2.2 ((tk_lt hge))) gL_isAddedSo_X3_less rfl ⟨rfl, rfl⟩ hd_X3_less ⟨Nat.le_of_ble_eq_true rfl, Nat.le_of_ble_eq_true rfl⟩ [0, 1] rfl (fun _ _ => trivial) rfl (rest := []) rfl (Nat.le_of_ble_eq_true rfl) dL_isAddedSo_59 ⟨Nat.zero_le _, Nat.zero_le _⟩ 0 rfl rfl rfl (pre := []) (post := []) (ws' := ((wS0 xa ad ha ta) ++ ((wT ta cI t (nI n)) ++ ((wHs ha hb cI cO (kG G o z g) (nI (kO o z)) (nI (kM z + 1))) ++ (wB ad cI ((xCh g r n9 1).2)))))) rfl rfl ?_
        refine g_lv [3, 4, 5, 2, 1, 0] (lv' := [(0, .ref xa), (1, .int (nI r)), (2, .int n9), (3, .int ((xCh g r n9 0).1)), (4, .long ((xWs g 9).1)), (6, .int (xCn g z 0))]) rfl ?_
        rcases eCh hr hI hm en with ⟨b, hb9, h0, h1, hmv⟩ | h0
        · exact K62 b hb9 h0 h1 hmv
        · exact absurd h0 (tk_lt hge)
      · have hgt := h43_11
        refine g_aload_n C dL_isAddedSo_46 3 rfl ?_
        refine g_iload_n C dL_isAddedSo_47 4 rfl ?_
        refine g_iload_n C dL_isAddedSo_48 5 rfl ?_
        refine g_callVi C (c_X3_add l D cI cO xa ta ha hb ad t n G g o z hn ho hz r hr n9 ((hm9.2.2.1 hgt)) hm9.2.1 ((tk_lt hge))) gL_isAddedSo_X3_add rfl ⟨rfl, rfl⟩ hd_X3_add ⟨Nat.le_of_ble_eq_true rfl, Nat.le_of_ble_eq_true rfl⟩ [0, 1] rfl (fun _ _ => trivial) rfl (rest := []) rfl (Nat.le_of_ble_eq_true rfl) dL_isAddedSo_49 ⟨Nat.zero_le _, Nat.zero_le _⟩ 0 rfl rfl rfl (pre := []) (post := []) (ws' := ((wS0 xa ad ha ta) ++ ((wT ta cI t (nI n)) ++ ((wHs ha hb cI cO (kG G o z g) (nI (kO o z)) (nI (kM z + 1))) ++ (wB ad cI ((xCh g r n9 1).2)))))) rfl rfl ?_
        refine g_goto C (tgt := 62) dL_isAddedSo_52 (by decide) ?_
        refine g_lv [3, 4, 5, 2, 1, 0] (lv' := [(0, .ref xa), (1, .int (nI r)), (2, .int n9), (3, .int ((xCh g r n9 0).1)), (4, .long ((xWs g 9).1)), (6, .int (xCn g z 0))]) rfl ?_
        rcases eCh hr hI hm en with ⟨b, hb9, h0, h1, hmv⟩ | h0
        · exact K62 b hb9 h0 h1 hmv
        · exact absurd h0 (tk_lt hge)
    · refine g_iload_n C dL_isAddedSo_28 5 rfl ?_
      refine g_if_ne C (tgt := 36) dL_isAddedSo_29 (by decide) (fun h29_12 => ?_) (fun h29_12 => ?_)
      · refine g_iconst C (v := 1) dL_isAddedSo_36 ci_1 ?_
        refine g_goto C (tgt := 41) dL_isAddedSo_37 (by decide) ?_
        exact g_zretE C hret hlk dL_isAddedSo_41 (Or.inr rfl) ⟨rfl, _, _, _, ho, hz, rfl⟩
      · have hz0 : n9 = 0 := h29_12
        refine g_iload_n C dL_isAddedSo_32 2 rfl ?_
        refine g_if_ne C (tgt := 40) dL_isAddedSo_33 (by decide) (fun h33_13 => absurd (by rw [hz0]; exact eCh0 (hI.1 r hr)) h33_13) (fun _ => ?_)
        refine g_iconst C (v := 1) dL_isAddedSo_36 ci_1 ?_
        refine g_goto C (tgt := 41) dL_isAddedSo_37 (by decide) ?_
        exact g_zretE C hret hlk dL_isAddedSo_41 (Or.inr rfl) ⟨rfl, _, _, _, ho, hz, rfl⟩
theorem rd_l2 {g : Nat → Int32} {r : Nat} (hR : Rd9 g r) : ¬ xRod g r 3 - 100 < -9 ∧ xRod g r 3 - 100 ≤ 9 := by
  obtain ⟨F, O, S, L, hF, hO, hS, hL, e1, e2, e4, e3⟩ := hR
  rw [rl_eq, e3]
  exact ⟨(nm9 L (by omega)).1, (nm9 L (by omega)).2.1⟩
theorem cpA {g : Nat → Int32} {r : Nat} (h : ¬ xRod g r 3 = 100) (hk : g (6 * r + 3) = 0 ∨ (xCh g r (g (6 * r + 3)) 0).1 = -1) : ¬ 0 ≤ (xCh g r (xRod g r 3 - 100) 0).1 := by
  rcases hk with k | k
  · exact absurd (show g (6 * r + 3) + 100 = 100 by rw [k]; decide) h
  · rw [rl_eq, k]; decide
theorem hd_X3_tidy : yX3_tidy.cls = RX3 ∧ yX3_tidy.cls ≠ "java/lang/invoke/MethodHandle" ∧ yX3_tidy.cls ≠ "java/lang/invoke/VarHandle" ∧ (parseMethodDescriptor yX3_tidy.desc).map (fun d => d.parameters.length) = some 0 := by decide +kernel
theorem hd_X3_cheapestLoan : yX3_cheapestLoan.cls = RX3 ∧ yX3_cheapestLoan.cls ≠ "java/lang/invoke/MethodHandle" ∧ yX3_cheapestLoan.cls ≠ "java/lang/invoke/VarHandle" ∧ (parseMethodDescriptor yX3_cheapestLoan.desc).map (fun d => d.parameters.length) = some 0 := by decide +kernel
theorem hd_X3_pay : yX3_pay.cls = RX3 ∧ yX3_pay.cls ≠ "java/lang/invoke/MethodHandle" ∧ yX3_pay.cls ≠ "java/lang/invoke/VarHandle" ∧ (parseMethodDescriptor yX3_pay.desc).map (fun d => d.parameters.length) = some 1 := by decide +kernel
abbrev rmL_arePaidSo : Room := { frames := 7, cells := 0, slots := 0, locals := 169 }
set_option maxHeartbeats 2000000 in
set_option maxRecDepth 100000 in
theorem c_L_arePaidSo (l : Launch) (D : va_G) (cI cO : ClassId) (xa : Nat) (ta ha : Nat → Nat) (hb : Nat → Nat → Nat) (ad : Nat → Nat) (t : Nat → Int32) (n : Nat) (G : Nat → Nat → Int32) (g : Nat → Int32) (o z : Nat) (hn : n ≤ 60) (ho : o < 6) (hz : z ≤ 6) (hI : Iv g)  : cE (fun _ => True) l yL_arePaidSo wsL_arePaidSo rmL_arePaidSo D vwCl (tyA cI cO) [.ref xa] ((wS0 xa ad ha ta) ++ ((wT ta cI t (nI n)) ++ ((wHs ha hb cI cO G (nI o) (nI z)) ++ (wB ad cI g)))) (sP xa ta ha hb ad cI cO t n g) := by
  refine cE_of (cc := cL_arePaidSo) (maxL := 12) (ret := (some .boolean)) (by decide) rfl (Nat.le_of_ble_eq_true rfl) ?_
  intro p e s m below meth c A C hret hlk hnm hF
  refine g_lv [0] (lv' := [(0, .ref xa)]) rfl ?_
  obtain ⟨b0, hb0, t1, t2, t3, t4⟩ := eTd hI 9 (by decide)
  have KT : ∀ (r9 : Int32) (G1 : Nat → Nat → Int32) (o1 z1 : Nat) (ho1 : o1 < 6) (hz1 : z1 ≤ 6), gG p l e rmL_arePaidSo s m ([.ref xa] : List Value).toArray below meth c D vwCl A s.heap 12 (MQ below (cQE (sP xa ta ha hb ad cI cO t n g) D vwCl (tyA cI cO) A) ([.ref xa] : List Value).toArray s 0 0 A) 0 0 ((wS0 xa ad ha ta) ++ ((wT ta cI t (nI n)) ++ ((wHs ha hb cI cO G1 (nI o1) (nI z1)) ++ (wB ad cI g)))) 254 [(0, .ref xa), (1, .int r9), (2, .long ((xWs g 9).1)), (4, .int (xCn g z 0)), (5, .int 1)] [] := by
    intro r9 G1 o1 z1 ho1 hz1
    refine g_aload_n C dL_arePaidSo_254 0 rfl ?_
    refine g_callVi C (c_X3_tidy l D cI cO xa ta ha hb ad t n G1 g o1 z1 hn ho1 hz1) gL_arePaidSo_X3_tidy rfl ⟨rfl, rfl⟩ hd_X3_tidy ⟨Nat.le_of_ble_eq_true rfl, Nat.le_of_ble_eq_true rfl⟩ [0, 1] rfl (fun _ _ => trivial) rfl (rest := []) rfl (Nat.le_of_ble_eq_true rfl) dL_arePaidSo_255 ⟨Nat.zero_le _, Nat.zero_le _⟩ 0 rfl rfl rfl (pre := []) (post := []) (ws' := ((wS0 xa ad ha ta) ++ ((wT ta cI t (nI n)) ++ ((wHs ha hb cI cO (kG G1 o1 z1 g) (nI (kO o1 z1)) (nI (kM z1 + 1))) ++ (wB ad cI ((xTd g 9).2)))))) rfl rfl ?_
    refine g_istore C (lv' := [(6, .int ((xTd g 9).1)), (0, .ref xa), (1, .int r9), (2, .long ((xWs g 9).1)), (4, .int (xCn g z 0)), (5, .int 1)]) dL_arePaidSo_258 (by decide) rfl ?_
    refine g_iload C dL_arePaidSo_260 5 rfl ?_
    refine g_if_eq C (tgt := 291) dL_arePaidSo_262 (by decide) (fun h262_1 => absurd h262_1 (by decide)) (fun _ => ?_)
    refine g_aload_n C dL_arePaidSo_265 1 rfl ?_
    refine g_callVl C (c_X3_whole l D cI cO xa ta ha hb ad t n (kG G1 o1 z1 g) ((xTd g 9).2) (kO o1 z1) (kM z1 + 1) hn (kO_lt ho1) (by have := kM_lt hz1; omega)) gL_arePaidSo_X3_whole rfl ⟨rfl, rfl⟩ hd_X3_whole ⟨Nat.le_of_ble_eq_true rfl, Nat.le_of_ble_eq_true rfl⟩ [0, 1] rfl (fun _ _ => trivial) rfl (rest := []) rfl (Nat.le_of_ble_eq_true rfl) dL_arePaidSo_266 ⟨Nat.zero_le _, Nat.zero_le _⟩ 0 rfl rfl rfl (pre := []) (post := []) (ws' := ((wS0 xa ad ha ta) ++ ((wT ta cI t (nI n)) ++ ((wHs ha hb cI cO (kG G1 o1 z1 g) (nI (kO o1 z1)) (nI (kM z1 + 1))) ++ (wB ad cI ((xTd g 9).2)))))) rfl rfl ?_
    refine g_lload_n C dL_arePaidSo_269 3 rfl ?_
    refine g_lcmp C (v := lg_cmp ((xWs ((xTd g 9).2) 9).1) ((xWs g 9).1)) dL_arePaidSo_270 rfl ?_
    refine g_if_ne C (tgt := 291) dL_arePaidSo_271 (by decide) (fun h271_2 => absurd (lgz (eWsame hI t2 t3)) h271_2) (fun _ => ?_)
    refine g_aload_n C dL_arePaidSo_274 1 rfl ?_
    refine g_iconst C (v := 0) dL_arePaidSo_275 ci_0 ?_
    refine g_callVi C (c_X3_count l D cI cO xa ta ha hb ad t n (kG G1 o1 z1 g) ((xTd g 9).2) (kO o1 z1) (kM z1 + 1) hn (kO_lt ho1) (by have := kM_lt hz1; omega) 0 ((by decide))) gL_arePaidSo_X3_count rfl ⟨rfl, rfl⟩ hd_X3_count ⟨Nat.le_of_ble_eq_true rfl, Nat.le_of_ble_eq_true rfl⟩ [0, 1] rfl (fun _ _ => trivial) rfl (rest := []) rfl (Nat.le_of_ble_eq_true rfl) dL_arePaidSo_276 ⟨Nat.zero_le _, Nat.zero_le _⟩ 0 rfl rfl rfl (pre := []) (post := []) (ws' := ((wS0 xa ad ha ta) ++ ((wT ta cI t (nI n)) ++ ((wHs ha hb cI cO (kG G1 o1 z1 g) (nI (kO o1 z1)) (nI (kM z1 + 1))) ++ (wB ad cI ((xTd g 9).2)))))) rfl rfl ?_
    refine g_iload C dL_arePaidSo_279 4 rfl ?_
    refine g_iload C dL_arePaidSo_281 0 rfl ?_
    refine g_iadd C (v := (xCn g z 0) + ((xTd g 9).1)) dL_arePaidSo_283 rfl ?_
    refine g_icmp_ne C (tgt := 291) dL_arePaidSo_284 (by decide) (fun h284_3 => absurd (by rw [t1]; exact t4) h284_3) (fun _ => ?_)
    refine g_iconst C (v := 1) dL_arePaidSo_287 ci_1 ?_
    refine g_goto C (tgt := 292) dL_arePaidSo_288 (by decide) ?_
    refine g_istore C (lv' := [(5, .int 1), (6, .int ((xTd g 9).1)), (0, .ref xa), (1, .int r9), (2, .long ((xWs g 9).1)), (4, .int (xCn g z 0))]) dL_arePaidSo_292 (by decide) rfl ?_
    refine g_aload_n C dL_arePaidSo_294 2 rfl ?_
    refine g_callVi C (c_X3_undo l D cI cO xa ta ha hb ad t n (kG G1 o1 z1 g) ((xTd g 9).2) (kO o1 z1) (kM z1 + 1) hn (kO_lt ho1) (by have := kM_lt hz1; omega) ((Nat.succ_pos _))) gL_arePaidSo_X3_undo rfl ⟨rfl, rfl⟩ hd_X3_undo ⟨Nat.le_of_ble_eq_true rfl, Nat.le_of_ble_eq_true rfl⟩ [0, 1] rfl (fun _ _ => trivial) rfl (rest := []) rfl (Nat.le_of_ble_eq_true rfl) dL_arePaidSo_295 ⟨Nat.zero_le _, Nat.zero_le _⟩ 0 rfl rfl rfl (pre := []) (post := []) (ws' := ((wS0 xa ad ha ta) ++ ((wT ta cI t (nI n)) ++ ((wHs ha hb cI cO (kG G1 o1 z1 g) (nI (kO o1 z1)) (nI (kM z1 + 1 - 1))) ++ (wB ad cI ((kG G1 o1 z1 g) (rI (kO o1 z1) (kM z1 + 1)))))))) rfl rfl ?_
    refine g_ws (ws' := ((wS0 xa ad ha ta) ++ ((wT ta cI t (nI n)) ++ ((wHs ha hb cI cO (kG G1 o1 z1 g) (nI (kO o1 z1)) (nI (kM z1 + 1 - 1))) ++ (wB ad cI g))))) (by rw [kG_un]) ?_
    refine g_istore C (lv' := [(7, .int (nI (kM z1 + 1 - 1))), (5, .int 1), (6, .int ((xTd g 9).1)), (0, .ref xa), (1, .int r9), (2, .long ((xWs g 9).1)), (4, .int (xCn g z 0))]) dL_arePaidSo_298 (by decide) rfl ?_
    refine g_iload C dL_arePaidSo_300 1 rfl ?_
    refine g_if_eq C (tgt := 314) dL_arePaidSo_302 (by decide) (fun h302_4 => absurd h302_4 (by decide)) (fun _ => ?_)
    refine g_iload C dL_arePaidSo_305 0 rfl ?_
    refine g_if_lt C (tgt := 314) dL_arePaidSo_307 (by decide) (fun h307_5 => absurd h307_5 (nI_pos (by have := kM_lt hz1; omega))) (fun _ => ?_)
    refine g_iconst C (v := 1) dL_arePaidSo_310 ci_1 ?_
    refine g_goto C (tgt := 315) dL_arePaidSo_311 (by decide) ?_
    exact g_zretE C hret hlk dL_arePaidSo_315 (Or.inr rfl) ⟨rfl, _, _, _, (kO_lt ho1), (by have := kM_lt hz1; omega), rfl⟩
  rcases xCp_I hI 9 (by decide) with ⟨k1, k2⟩ | ⟨q, b, hq, hb9, hp, k3, k4, k5⟩
  · have K194 : ∀ (k i : Nat), k + i = 9 → gG p l e rmL_arePaidSo s m ([.ref xa] : List Value).toArray below meth c D vwCl A s.heap 12 (MQ below (cQE (sP xa ta ha hb ad cI cO t n g) D vwCl (tyA cI cO) A) ([.ref xa] : List Value).toArray s 0 0 A) 0 0 ((wS0 xa ad ha ta) ++ ((wT ta cI t (nI n)) ++ ((wHs ha hb cI cO G (nI o) (nI z)) ++ (wB ad cI g)))) 194 [(0, .ref xa), (1, .int (-1)), (2, .long ((xWs g 9).1)), (4, .int (xCn g z 0)), (5, .int 1), (6, .int (nI i))] [] := by
      intro k
      induction k with
      | zero =>
        intro i hi
        obtain rfl : i = 9 := by omega
        refine g_iload C dL_arePaidSo_194 5 rfl ?_
        refine g_bipush C (v := 9) dL_arePaidSo_196 cb_9 ?_
        refine g_icmp_ge C (tgt := 254) dL_arePaidSo_198 (by decide) (fun _ => ?_) (fun h198_6 => absurd (by decide) h198_6)
        refine g_lv [0, 1, 2, 3, 4] (lv' := [(0, .ref xa), (1, .int (-1)), (2, .long ((xWs g 9).1)), (4, .int (xCn g z 0)), (5, .int 1)]) rfl ?_
        exact KT _ _ _ _ ho hz
      | succ k ih =>
        intro i hi
        have hi9 : i < 9 := by omega
        have hR := hI.1 i hi9
        refine g_iload C dL_arePaidSo_194 5 rfl ?_
        refine g_bipush C (v := 9) dL_arePaidSo_196 cb_9 ?_
        refine g_icmp_ge C (tgt := 254) dL_arePaidSo_198 (by decide) (fun h198_7 => absurd h198_7 (ge9 hi9)) (fun _ => ?_)
        refine g_iload_n C dL_arePaidSo_201 1 rfl ?_
        refine g_if_ge C (tgt := 254) dL_arePaidSo_202 (by decide) (fun h202_8 => absurd h202_8 (by decide)) (fun _ => ?_)
        refine g_iload C dL_arePaidSo_205 4 rfl ?_
        refine g_if_eq C (tgt := 245) dL_arePaidSo_207 (by decide) (fun h207_9 => absurd h207_9 (by decide)) (fun _ => ?_)
        refine g_aload_n C dL_arePaidSo_210 0 rfl ?_
        refine g_iload C dL_arePaidSo_211 5 rfl ?_
        refine g_iconst C (v := 3) dL_arePaidSo_213 ci_3 ?_
        refine g_callVi C (c_X3_rod l D cI cO xa ta ha hb ad t n G g o z hn ho hz i hi9 3 ((by decide))) gL_arePaidSo_X3_rod rfl ⟨rfl, rfl⟩ hd_X3_rod ⟨Nat.le_of_ble_eq_true rfl, Nat.le_of_ble_eq_true rfl⟩ [0, 1] rfl (fun _ _ => trivial) rfl (rest := []) rfl (Nat.le_of_ble_eq_true rfl) dL_arePaidSo_214 ⟨Nat.zero_le _, Nat.zero_le _⟩ 0 rfl rfl rfl (pre := []) (post := []) (ws' := ((wS0 xa ad ha ta) ++ ((wT ta cI t (nI n)) ++ ((wHs ha hb cI cO G (nI o) (nI z)) ++ (wB ad cI g))))) rfl rfl ?_
        refine g_bipush C (v := 100) dL_arePaidSo_217 cb_100 ?_
        refine g_icmp_eq C (tgt := 241) dL_arePaidSo_219 (by decide) (fun h219_10 => ?_) (fun h219_10 => ?_)
        · refine g_iconst C (v := 1) dL_arePaidSo_241 ci_1 ?_
          refine g_goto C (tgt := 246) dL_arePaidSo_242 (by decide) ?_
          refine g_istore C (lv' := [(5, .int 1), (0, .ref xa), (1, .int (-1)), (2, .long ((xWs g 9).1)), (4, .int (xCn g z 0)), (6, .int (nI i))]) dL_arePaidSo_246 (by decide) rfl ?_
          refine g_iinc C (v := nI (i + 1)) (lv' := [(6, .int (nI (i + 1))), (5, .int 1), (0, .ref xa), (1, .int (-1)), (2, .long ((xWs g 9).1)), (4, .int (xCn g z 0))]) dL_arePaidSo_248 5 rfl (inc_nI _) (by decide) rfl ?_
          refine g_goto C (tgt := 194) dL_arePaidSo_251 (by decide) ?_
          refine g_lv [2, 3, 4, 5, 1, 0] (lv' := [(0, .ref xa), (1, .int (-1)), (2, .long ((xWs g 9).1)), (4, .int (xCn g z 0)), (5, .int 1), (6, .int (nI (i + 1)))]) rfl ?_
          exact ih (i + 1) (by omega)
        · refine g_aload_n C dL_arePaidSo_222 0 rfl ?_
          refine g_iload C dL_arePaidSo_223 5 rfl ?_
          refine g_aload_n C dL_arePaidSo_225 0 rfl ?_
          refine g_iload C dL_arePaidSo_226 5 rfl ?_
          refine g_iconst C (v := 3) dL_arePaidSo_228 ci_3 ?_
          refine g_callVi C (c_X3_rod l D cI cO xa ta ha hb ad t n G g o z hn ho hz i hi9 3 ((by decide))) gL_arePaidSo_X3_rod rfl ⟨rfl, rfl⟩ hd_X3_rod ⟨Nat.le_of_ble_eq_true rfl, Nat.le_of_ble_eq_true rfl⟩ [0, 1] rfl (fun _ _ => trivial) rfl (rest := [.int (nI i), .ref xa]) rfl (Nat.le_of_ble_eq_true rfl) dL_arePaidSo_229 ⟨Nat.zero_le _, Nat.zero_le _⟩ 0 rfl rfl rfl (pre := []) (post := []) (ws' := ((wS0 xa ad ha ta) ++ ((wT ta cI t (nI n)) ++ ((wHs ha hb cI cO G (nI o) (nI z)) ++ (wB ad cI g))))) rfl rfl ?_
          refine g_bipush C (v := 100) dL_arePaidSo_232 cb_100 ?_
          refine g_isub C (v := (xRod g i 3) - 100) dL_arePaidSo_234 rfl ?_
          refine g_callVi C (c_X3_ifAdded l D cI cO xa ta ha hb ad t n G g o z hn ho hz i hi9 ((xRod g i 3) - 100) ((rd_l2 hR).1) ((rd_l2 hR).2)) gL_arePaidSo_X3_ifAdded rfl ⟨rfl, rfl⟩ hd_X3_ifAdded ⟨Nat.le_of_ble_eq_true rfl, Nat.le_of_ble_eq_true rfl⟩ [0, 1] rfl (fun _ _ => trivial) rfl (rest := []) rfl (Nat.le_of_ble_eq_true rfl) dL_arePaidSo_235 ⟨Nat.zero_le _, Nat.zero_le _⟩ 0 rfl rfl rfl (pre := []) (post := []) (ws' := ((wS0 xa ad ha ta) ++ ((wT ta cI t (nI n)) ++ ((wHs ha hb cI cO G (nI o) (nI z)) ++ (wB ad cI g))))) rfl rfl ?_
          refine g_if_ge C (tgt := 245) dL_arePaidSo_238 (by decide) (fun h238_11 => absurd h238_11 (cpA h219_10 (k2 i hi9))) (fun _ => ?_)
          refine g_iconst C (v := 1) dL_arePaidSo_241 ci_1 ?_
          refine g_goto C (tgt := 246) dL_arePaidSo_242 (by decide) ?_
          refine g_istore C (lv' := [(5, .int 1), (0, .ref xa), (1, .int (-1)), (2, .long ((xWs g 9).1)), (4, .int (xCn g z 0)), (6, .int (nI i))]) dL_arePaidSo_246 (by decide) rfl ?_
          refine g_iinc C (v := nI (i + 1)) (lv' := [(6, .int (nI (i + 1))), (5, .int 1), (0, .ref xa), (1, .int (-1)), (2, .long ((xWs g 9).1)), (4, .int (xCn g z 0))]) dL_arePaidSo_248 5 rfl (inc_nI _) (by decide) rfl ?_
          refine g_goto C (tgt := 194) dL_arePaidSo_251 (by decide) ?_
          refine g_lv [2, 3, 4, 5, 1, 0] (lv' := [(0, .ref xa), (1, .int (-1)), (2, .long ((xWs g 9).1)), (4, .int (xCn g z 0)), (5, .int 1), (6, .int (nI (i + 1)))]) rfl ?_
          exact ih (i + 1) (by omega)
    refine g_aload_n C dL_arePaidSo_0 0 rfl ?_
    refine g_callVi C (c_X3_cheapestLoan l D cI cO xa ta ha hb ad t n G g o z hn ho hz) gL_arePaidSo_X3_cheapestLoan rfl ⟨rfl, rfl⟩ hd_X3_cheapestLoan ⟨Nat.le_of_ble_eq_true rfl, Nat.le_of_ble_eq_true rfl⟩ [0, 1] rfl (fun _ _ => trivial) rfl (rest := []) rfl (Nat.le_of_ble_eq_true rfl) dL_arePaidSo_1 ⟨Nat.zero_le _, Nat.zero_le _⟩ 0 rfl rfl rfl (pre := []) (post := []) (ws' := ((wS0 xa ad ha ta) ++ ((wT ta cI t (nI n)) ++ ((wHs ha hb cI cO G (nI o) (nI z)) ++ (wB ad cI g))))) rfl rfl ?_
    rw [k1]
    refine g_istore_n C (lv' := [(1, .int (-1)), (0, .ref xa)]) dL_arePaidSo_4 rfl (by decide) rfl ?_
    refine g_aload_n C dL_arePaidSo_5 1 rfl ?_
    refine g_callVl C (c_X3_whole l D cI cO xa ta ha hb ad t n G g o z hn ho hz) gL_arePaidSo_X3_whole rfl ⟨rfl, rfl⟩ hd_X3_whole ⟨Nat.le_of_ble_eq_true rfl, Nat.le_of_ble_eq_true rfl⟩ [0, 1] rfl (fun _ _ => trivial) rfl (rest := []) rfl (Nat.le_of_ble_eq_true rfl) dL_arePaidSo_6 ⟨Nat.zero_le _, Nat.zero_le _⟩ 0 rfl rfl rfl (pre := []) (post := []) (ws' := ((wS0 xa ad ha ta) ++ ((wT ta cI t (nI n)) ++ ((wHs ha hb cI cO G (nI o) (nI z)) ++ (wB ad cI g))))) rfl rfl ?_
    refine g_lstore_n C (lv' := [(2, .long ((xWs g 9).1)), (1, .int (-1)), (0, .ref xa)]) dL_arePaidSo_9 rfl (by decide) rfl ?_
    refine g_aload_n C dL_arePaidSo_10 2 rfl ?_
    refine g_iconst C (v := 0) dL_arePaidSo_11 ci_0 ?_
    refine g_callVi C (c_X3_count l D cI cO xa ta ha hb ad t n G g o z hn ho hz 0 ((by decide))) gL_arePaidSo_X3_count rfl ⟨rfl, rfl⟩ hd_X3_count ⟨Nat.le_of_ble_eq_true rfl, Nat.le_of_ble_eq_true rfl⟩ [0, 1] rfl (fun _ _ => trivial) rfl (rest := []) rfl (Nat.le_of_ble_eq_true rfl) dL_arePaidSo_12 ⟨Nat.zero_le _, Nat.zero_le _⟩ 0 rfl rfl rfl (pre := []) (post := []) (ws' := ((wS0 xa ad ha ta) ++ ((wT ta cI t (nI n)) ++ ((wHs ha hb cI cO G (nI o) (nI z)) ++ (wB ad cI g))))) rfl rfl ?_
    refine g_istore C (lv' := [(4, .int (xCn g z 0)), (2, .long ((xWs g 9).1)), (1, .int (-1)), (0, .ref xa)]) dL_arePaidSo_15 (by decide) rfl ?_
    refine g_iload_n C dL_arePaidSo_17 2 rfl ?_
    refine g_bipush C (v := 9) dL_arePaidSo_18 cb_9 ?_
    refine g_icmp_ge C (tgt := 27) dL_arePaidSo_20 (by decide) (fun h20_12 => absurd h20_12 (by decide)) (fun _ => ?_)
    refine g_iconst C (v := 1) dL_arePaidSo_23 ci_1 ?_
    refine g_goto C (tgt := 28) dL_arePaidSo_24 (by decide) ?_
    refine g_istore C (lv' := [(5, .int 1), (4, .int (xCn g z 0)), (2, .long ((xWs g 9).1)), (1, .int (-1)), (0, .ref xa)]) dL_arePaidSo_28 (by decide) rfl ?_
    refine g_iload_n C dL_arePaidSo_30 3 rfl ?_
    refine g_if_lt C (tgt := 191) dL_arePaidSo_31 (by decide) (fun _ => ?_) (fun h31_13 => absurd (by decide) h31_13)
    refine g_iconst C (v := 0) dL_arePaidSo_191 ci_0 ?_
    refine g_istore C (lv' := [(6, .int 0), (5, .int 1), (4, .int (xCn g z 0)), (2, .long ((xWs g 9).1)), (1, .int (-1)), (0, .ref xa)]) dL_arePaidSo_192 (by decide) rfl ?_
    refine g_lv [5, 4, 3, 2, 1, 0] (lv' := [(0, .ref xa), (1, .int (-1)), (2, .long ((xWs g 9).1)), (4, .int (xCn g z 0)), (5, .int 1), (6, .int 0)]) rfl ?_
    exact K194 9 0 rfl
  · obtain ⟨b1, hb1, y1, y2, y3, y4, y5, y6⟩ := ePy hq hI (by rw [k4]; exact nIm1 (by omega))
    have K110 : ∀ (k i : Nat), k + i = 9 → gG p l e rmL_arePaidSo s m ([.ref xa] : List Value).toArray below meth c D vwCl A s.heap 12 (MQ below (cQE (sP xa ta ha hb ad cI cO t n g) D vwCl (tyA cI cO) A) ([.ref xa] : List Value).toArray s 0 0 A) 0 0 ((wS0 xa ad ha ta) ++ ((wT ta cI t (nI n)) ++ ((wHs ha hb cI cO (kG G o z g) (nI (kO o z)) (nI (kM z + 1 - 1))) ++ (wB ad cI g)))) 110 [(0, .ref xa), (1, .int (nI q)), (2, .long ((xWs g 9).1)), (4, .int (xCn g z 0)), (5, .int 1), (7, .int (nI b)), (9, .int (nI i))] [] := by
      intro k
      induction k with
      | zero =>
        intro i hi
        obtain rfl : i = 9 := by omega
        refine g_iload C dL_arePaidSo_110 6 rfl ?_
        refine g_bipush C (v := 9) dL_arePaidSo_112 cb_9 ?_
        refine g_icmp_ge C (tgt := 191) dL_arePaidSo_114 (by decide) (fun _ => ?_) (fun h114_14 => absurd (by decide) h114_14)
        refine g_iconst C (v := 0) dL_arePaidSo_191 ci_0 ?_
        refine g_istore C (lv' := [(6, .int 0), (0, .ref xa), (1, .int (nI q)), (2, .long ((xWs g 9).1)), (4, .int (xCn g z 0)), (5, .int 1), (7, .int (nI b)), (9, .int (nI 9))]) dL_arePaidSo_192 (by decide) rfl ?_
        refine g_iload C dL_arePaidSo_194 0 rfl ?_
        refine g_bipush C (v := 9) dL_arePaidSo_196 cb_9 ?_
        refine g_icmp_ge C (tgt := 254) dL_arePaidSo_198 (by decide) (fun h198_15 => absurd h198_15 (by decide)) (fun _ => ?_)
        refine g_iload_n C dL_arePaidSo_201 2 rfl ?_
        refine g_if_ge C (tgt := 254) dL_arePaidSo_202 (by decide) (fun _ => ?_) (fun h202_16 => absurd (nI_pos' (by omega)) h202_16)
        refine g_lv [1, 2, 3, 4, 5] (lv' := [(0, .ref xa), (1, .int (nI q)), (2, .long ((xWs g 9).1)), (4, .int (xCn g z 0)), (5, .int 1)]) rfl ?_
        exact KT _ _ _ _ (kO_lt ho) (by have := kM_lt hz; omega)
      | succ k ih =>
        intro i hi
        have hi9 : i < 9 := by omega
        have hR := hI.1 i hi9
        refine g_iload C dL_arePaidSo_110 6 rfl ?_
        refine g_bipush C (v := 9) dL_arePaidSo_112 cb_9 ?_
        refine g_icmp_ge C (tgt := 191) dL_arePaidSo_114 (by decide) (fun h114_17 => absurd h114_17 (ge9 hi9)) (fun _ => ?_)
        refine g_aload_n C dL_arePaidSo_117 0 rfl ?_
        refine g_iload C dL_arePaidSo_118 6 rfl ?_
        refine g_iconst C (v := 3) dL_arePaidSo_120 ci_3 ?_
        refine g_callVi C (c_X3_rod l D cI cO xa ta ha hb ad t n (kG G o z g) g (kO o z) (kM z + 1 - 1) hn (kO_lt ho) (by have := kM_lt hz; omega) i hi9 3 ((by decide))) gL_arePaidSo_X3_rod rfl ⟨rfl, rfl⟩ hd_X3_rod ⟨Nat.le_of_ble_eq_true rfl, Nat.le_of_ble_eq_true rfl⟩ [0, 1] rfl (fun _ _ => trivial) rfl (rest := []) rfl (Nat.le_of_ble_eq_true rfl) dL_arePaidSo_121 ⟨Nat.zero_le _, Nat.zero_le _⟩ 0 rfl rfl rfl (pre := []) (post := []) (ws' := ((wS0 xa ad ha ta) ++ ((wT ta cI t (nI n)) ++ ((wHs ha hb cI cO (kG G o z g) (nI (kO o z)) (nI (kM z + 1 - 1))) ++ (wB ad cI g))))) rfl rfl ?_
        refine g_bipush C (v := 100) dL_arePaidSo_124 cb_100 ?_
        refine g_isub C (v := (xRod g i 3) - 100) dL_arePaidSo_126 rfl ?_
        refine g_istore C (lv' := [(10, .int ((xRod g i 3) - 100)), (0, .ref xa), (1, .int (nI q)), (2, .long ((xWs g 9).1)), (4, .int (xCn g z 0)), (5, .int 1), (7, .int (nI b)), (9, .int (nI i))]) dL_arePaidSo_127 (by decide) rfl ?_
        refine g_iload C dL_arePaidSo_129 0 rfl ?_
        refine g_if_ne C (tgt := 138) dL_arePaidSo_131 (by decide) (fun h131_18 => ?_) (fun h131_18 => ?_)
        · refine g_aload_n C dL_arePaidSo_138 1 rfl ?_
          refine g_iload C dL_arePaidSo_139 7 rfl ?_
          refine g_iload C dL_arePaidSo_141 0 rfl ?_
          refine g_callVi C (c_X3_ifAdded l D cI cO xa ta ha hb ad t n (kG G o z g) g (kO o z) (kM z + 1 - 1) hn (kO_lt ho) (by have := kM_lt hz; omega) i hi9 ((xRod g i 3) - 100) ((rd_l2 hR).1) ((rd_l2 hR).2)) gL_arePaidSo_X3_ifAdded rfl ⟨rfl, rfl⟩ hd_X3_ifAdded ⟨Nat.le_of_ble_eq_true rfl, Nat.le_of_ble_eq_true rfl⟩ [0, 1] rfl (fun _ _ => trivial) rfl (rest := []) rfl (Nat.le_of_ble_eq_true rfl) dL_arePaidSo_143 ⟨Nat.zero_le _, Nat.zero_le _⟩ 0 rfl rfl rfl (pre := []) (post := []) (ws' := ((wS0 xa ad ha ta) ++ ((wT ta cI t (nI n)) ++ ((wHs ha hb cI cO (kG G o z g) (nI (kO o z)) (nI (kM z + 1 - 1))) ++ (wB ad cI g))))) rfl rfl ?_
          rcases k5 i hi9 with c9 | c9 | ⟨b2, hb2, c9, w | ⟨w1, w2⟩⟩
          · exact absurd (by rw [rl_eq]; exact c9) h131_18
          · rw [show (xCh g i (xRod g i 3 - 100) 0).1 = -1 from by rw [rl_eq]; exact c9]
            refine g_istore C (lv' := [(11, .int (-1)), (10, .int ((xRod g i 3) - 100)), (0, .ref xa), (1, .int (nI q)), (2, .long ((xWs g 9).1)), (4, .int (xCn g z 0)), (5, .int 1), (7, .int (nI b)), (9, .int (nI i))]) dL_arePaidSo_146 (by decide) rfl ?_
            refine g_iload C dL_arePaidSo_148 6 rfl ?_
            refine g_if_eq C (tgt := 182) dL_arePaidSo_150 (by decide) (fun h150_19 => absurd h150_19 (by decide)) (fun _ => ?_)
            refine g_iload C dL_arePaidSo_153 0 rfl ?_
            refine g_if_lt C (tgt := 178) dL_arePaidSo_155 (by decide) (fun _ => ?_) (fun h155_20 => absurd (by decide) h155_20)
            refine g_iconst C (v := 1) dL_arePaidSo_178 ci_1 ?_
            refine g_goto C (tgt := 183) dL_arePaidSo_179 (by decide) ?_
            refine g_istore C (lv' := [(5, .int 1), (11, .int (-1)), (10, .int ((xRod g i 3) - 100)), (0, .ref xa), (1, .int (nI q)), (2, .long ((xWs g 9).1)), (4, .int (xCn g z 0)), (7, .int (nI b)), (9, .int (nI i))]) dL_arePaidSo_183 (by decide) rfl ?_
            refine g_iinc C (v := nI (i + 1)) (lv' := [(9, .int (nI (i + 1))), (5, .int 1), (11, .int (-1)), (10, .int ((xRod g i 3) - 100)), (0, .ref xa), (1, .int (nI q)), (2, .long ((xWs g 9).1)), (4, .int (xCn g z 0)), (7, .int (nI b))]) dL_arePaidSo_185 8 rfl (inc_nI _) (by decide) rfl ?_
            refine g_goto C (tgt := 110) dL_arePaidSo_188 (by decide) ?_
            refine g_lv [4, 5, 6, 7, 1, 8, 0] (lv' := [(0, .ref xa), (1, .int (nI q)), (2, .long ((xWs g 9).1)), (4, .int (xCn g z 0)), (5, .int 1), (7, .int (nI b)), (9, .int (nI (i + 1)))]) rfl ?_
            exact ih (i + 1) (by omega)
          · rw [show (xCh g i (xRod g i 3 - 100) 0).1 = nI b2 from by rw [rl_eq]; exact c9]
            refine g_istore C (lv' := [(11, .int (nI b2)), (10, .int ((xRod g i 3) - 100)), (0, .ref xa), (1, .int (nI q)), (2, .long ((xWs g 9).1)), (4, .int (xCn g z 0)), (5, .int 1), (7, .int (nI b)), (9, .int (nI i))]) dL_arePaidSo_146 (by decide) rfl ?_
            refine g_iload C dL_arePaidSo_148 6 rfl ?_
            refine g_if_eq C (tgt := 182) dL_arePaidSo_150 (by decide) (fun h150_21 => absurd h150_21 (by decide)) (fun _ => ?_)
            refine g_iload C dL_arePaidSo_153 0 rfl ?_
            refine g_if_lt C (tgt := 178) dL_arePaidSo_155 (by decide) (fun h155_22 => absurd h155_22 (nI_pos (by omega))) (fun _ => ?_)
            refine g_iload C dL_arePaidSo_158 7 rfl ?_
            refine g_iload C dL_arePaidSo_160 0 rfl ?_
            refine g_icmp_lt C (tgt := 178) dL_arePaidSo_162 (by decide) (fun _ => ?_) (fun h162_23 => absurd (nI_lt w (by omega)) h162_23)
            refine g_iconst C (v := 1) dL_arePaidSo_178 ci_1 ?_
            refine g_goto C (tgt := 183) dL_arePaidSo_179 (by decide) ?_
            refine g_istore C (lv' := [(5, .int 1), (11, .int (nI b2)), (10, .int ((xRod g i 3) - 100)), (0, .ref xa), (1, .int (nI q)), (2, .long ((xWs g 9).1)), (4, .int (xCn g z 0)), (7, .int (nI b)), (9, .int (nI i))]) dL_arePaidSo_183 (by decide) rfl ?_
            refine g_iinc C (v := nI (i + 1)) (lv' := [(9, .int (nI (i + 1))), (5, .int 1), (11, .int (nI b2)), (10, .int ((xRod g i 3) - 100)), (0, .ref xa), (1, .int (nI q)), (2, .long ((xWs g 9).1)), (4, .int (xCn g z 0)), (7, .int (nI b))]) dL_arePaidSo_185 8 rfl (inc_nI _) (by decide) rfl ?_
            refine g_goto C (tgt := 110) dL_arePaidSo_188 (by decide) ?_
            refine g_lv [4, 5, 6, 7, 1, 8, 0] (lv' := [(0, .ref xa), (1, .int (nI q)), (2, .long ((xWs g 9).1)), (4, .int (xCn g z 0)), (5, .int 1), (7, .int (nI b)), (9, .int (nI (i + 1)))]) rfl ?_
            exact ih (i + 1) (by omega)
          · rw [show (xCh g i (xRod g i 3 - 100) 0).1 = nI b from by rw [rl_eq, w1]; exact c9]
            refine g_istore C (lv' := [(11, .int (nI b)), (10, .int ((xRod g i 3) - 100)), (0, .ref xa), (1, .int (nI q)), (2, .long ((xWs g 9).1)), (4, .int (xCn g z 0)), (5, .int 1), (7, .int (nI b)), (9, .int (nI i))]) dL_arePaidSo_146 (by decide) rfl ?_
            refine g_iload C dL_arePaidSo_148 6 rfl ?_
            refine g_if_eq C (tgt := 182) dL_arePaidSo_150 (by decide) (fun h150_24 => absurd h150_24 (by decide)) (fun _ => ?_)
            refine g_iload C dL_arePaidSo_153 0 rfl ?_
            refine g_if_lt C (tgt := 178) dL_arePaidSo_155 (by decide) (fun h155_25 => absurd h155_25 (nI_pos (by omega))) (fun _ => ?_)
            refine g_iload C dL_arePaidSo_158 7 rfl ?_
            refine g_iload C dL_arePaidSo_160 0 rfl ?_
            refine g_icmp_lt C (tgt := 178) dL_arePaidSo_162 (by decide) (fun h162_26 => absurd h162_26 (nI_nlt (Nat.le_refl _) (by omega))) (fun _ => ?_)
            refine g_iload C dL_arePaidSo_165 7 rfl ?_
            refine g_iload C dL_arePaidSo_167 0 rfl ?_
            refine g_icmp_ne C (tgt := 182) dL_arePaidSo_169 (by decide) (fun h169_27 => absurd rfl h169_27) (fun _ => ?_)
            refine g_iload_n C dL_arePaidSo_172 3 rfl ?_
            refine g_iload C dL_arePaidSo_173 8 rfl ?_
            refine g_icmp_gt C (tgt := 182) dL_arePaidSo_175 (by decide) (fun h175_28 => absurd h175_28 (nI_nlt w2 (by omega))) (fun _ => ?_)
            refine g_iconst C (v := 1) dL_arePaidSo_178 ci_1 ?_
            refine g_goto C (tgt := 183) dL_arePaidSo_179 (by decide) ?_
            refine g_istore C (lv' := [(5, .int 1), (11, .int (nI b)), (10, .int ((xRod g i 3) - 100)), (0, .ref xa), (1, .int (nI q)), (2, .long ((xWs g 9).1)), (4, .int (xCn g z 0)), (7, .int (nI b)), (9, .int (nI i))]) dL_arePaidSo_183 (by decide) rfl ?_
            refine g_iinc C (v := nI (i + 1)) (lv' := [(9, .int (nI (i + 1))), (5, .int 1), (11, .int (nI b)), (10, .int ((xRod g i 3) - 100)), (0, .ref xa), (1, .int (nI q)), (2, .long ((xWs g 9).1)), (4, .int (xCn g z 0)), (7, .int (nI b))]) dL_arePaidSo_185 8 rfl (inc_nI _) (by decide) rfl ?_
            refine g_goto C (tgt := 110) dL_arePaidSo_188 (by decide) ?_
            refine g_lv [4, 5, 6, 7, 1, 8, 0] (lv' := [(0, .ref xa), (1, .int (nI q)), (2, .long ((xWs g 9).1)), (4, .int (xCn g z 0)), (5, .int 1), (7, .int (nI b)), (9, .int (nI (i + 1)))]) rfl ?_
            exact ih (i + 1) (by omega)
        · refine g_iconst C (v := -1) dL_arePaidSo_134 ci_m1 ?_
          refine g_goto C (tgt := 146) dL_arePaidSo_135 (by decide) ?_
          refine g_istore C (lv' := [(11, .int (-1)), (10, .int ((xRod g i 3) - 100)), (0, .ref xa), (1, .int (nI q)), (2, .long ((xWs g 9).1)), (4, .int (xCn g z 0)), (5, .int 1), (7, .int (nI b)), (9, .int (nI i))]) dL_arePaidSo_146 (by decide) rfl ?_
          refine g_iload C dL_arePaidSo_148 6 rfl ?_
          refine g_if_eq C (tgt := 182) dL_arePaidSo_150 (by decide) (fun h150_29 => absurd h150_29 (by decide)) (fun _ => ?_)
          refine g_iload C dL_arePaidSo_153 0 rfl ?_
          refine g_if_lt C (tgt := 178) dL_arePaidSo_155 (by decide) (fun _ => ?_) (fun h155_30 => absurd (by decide) h155_30)
          refine g_iconst C (v := 1) dL_arePaidSo_178 ci_1 ?_
          refine g_goto C (tgt := 183) dL_arePaidSo_179 (by decide) ?_
          refine g_istore C (lv' := [(5, .int 1), (11, .int (-1)), (10, .int ((xRod g i 3) - 100)), (0, .ref xa), (1, .int (nI q)), (2, .long ((xWs g 9).1)), (4, .int (xCn g z 0)), (7, .int (nI b)), (9, .int (nI i))]) dL_arePaidSo_183 (by decide) rfl ?_
          refine g_iinc C (v := nI (i + 1)) (lv' := [(9, .int (nI (i + 1))), (5, .int 1), (11, .int (-1)), (10, .int ((xRod g i 3) - 100)), (0, .ref xa), (1, .int (nI q)), (2, .long ((xWs g 9).1)), (4, .int (xCn g z 0)), (7, .int (nI b))]) dL_arePaidSo_185 8 rfl (inc_nI _) (by decide) rfl ?_
          refine g_goto C (tgt := 110) dL_arePaidSo_188 (by decide) ?_
          refine g_lv [4, 5, 6, 7, 1, 8, 0] (lv' := [(0, .ref xa), (1, .int (nI q)), (2, .long ((xWs g 9).1)), (4, .int (xCn g z 0)), (5, .int 1), (7, .int (nI b)), (9, .int (nI (i + 1)))]) rfl ?_
          exact ih (i + 1) (by omega)
    refine g_aload_n C dL_arePaidSo_0 0 rfl ?_
    refine g_callVi C (c_X3_cheapestLoan l D cI cO xa ta ha hb ad t n G g o z hn ho hz) gL_arePaidSo_X3_cheapestLoan rfl ⟨rfl, rfl⟩ hd_X3_cheapestLoan ⟨Nat.le_of_ble_eq_true rfl, Nat.le_of_ble_eq_true rfl⟩ [0, 1] rfl (fun _ _ => trivial) rfl (rest := []) rfl (Nat.le_of_ble_eq_true rfl) dL_arePaidSo_1 ⟨Nat.zero_le _, Nat.zero_le _⟩ 0 rfl rfl rfl (pre := []) (post := []) (ws' := ((wS0 xa ad ha ta) ++ ((wT ta cI t (nI n)) ++ ((wHs ha hb cI cO G (nI o) (nI z)) ++ (wB ad cI g))))) rfl rfl ?_
    rw [show (xCp g 9).1 = nI q from by rw [hp]]
    refine g_istore_n C (lv' := [(1, .int (nI q)), (0, .ref xa)]) dL_arePaidSo_4 rfl (by decide) rfl ?_
    refine g_aload_n C dL_arePaidSo_5 1 rfl ?_
    refine g_callVl C (c_X3_whole l D cI cO xa ta ha hb ad t n G g o z hn ho hz) gL_arePaidSo_X3_whole rfl ⟨rfl, rfl⟩ hd_X3_whole ⟨Nat.le_of_ble_eq_true rfl, Nat.le_of_ble_eq_true rfl⟩ [0, 1] rfl (fun _ _ => trivial) rfl (rest := []) rfl (Nat.le_of_ble_eq_true rfl) dL_arePaidSo_6 ⟨Nat.zero_le _, Nat.zero_le _⟩ 0 rfl rfl rfl (pre := []) (post := []) (ws' := ((wS0 xa ad ha ta) ++ ((wT ta cI t (nI n)) ++ ((wHs ha hb cI cO G (nI o) (nI z)) ++ (wB ad cI g))))) rfl rfl ?_
    refine g_lstore_n C (lv' := [(2, .long ((xWs g 9).1)), (1, .int (nI q)), (0, .ref xa)]) dL_arePaidSo_9 rfl (by decide) rfl ?_
    refine g_aload_n C dL_arePaidSo_10 2 rfl ?_
    refine g_iconst C (v := 0) dL_arePaidSo_11 ci_0 ?_
    refine g_callVi C (c_X3_count l D cI cO xa ta ha hb ad t n G g o z hn ho hz 0 ((by decide))) gL_arePaidSo_X3_count rfl ⟨rfl, rfl⟩ hd_X3_count ⟨Nat.le_of_ble_eq_true rfl, Nat.le_of_ble_eq_true rfl⟩ [0, 1] rfl (fun _ _ => trivial) rfl (rest := []) rfl (Nat.le_of_ble_eq_true rfl) dL_arePaidSo_12 ⟨Nat.zero_le _, Nat.zero_le _⟩ 0 rfl rfl rfl (pre := []) (post := []) (ws' := ((wS0 xa ad ha ta) ++ ((wT ta cI t (nI n)) ++ ((wHs ha hb cI cO G (nI o) (nI z)) ++ (wB ad cI g))))) rfl rfl ?_
    refine g_istore C (lv' := [(4, .int (xCn g z 0)), (2, .long ((xWs g 9).1)), (1, .int (nI q)), (0, .ref xa)]) dL_arePaidSo_15 (by decide) rfl ?_
    refine g_iload_n C dL_arePaidSo_17 2 rfl ?_
    refine g_bipush C (v := 9) dL_arePaidSo_18 cb_9 ?_
    refine g_icmp_ge C (tgt := 27) dL_arePaidSo_20 (by decide) (fun h20_31 => absurd h20_31 (ge9 hq)) (fun _ => ?_)
    refine g_iconst C (v := 1) dL_arePaidSo_23 ci_1 ?_
    refine g_goto C (tgt := 28) dL_arePaidSo_24 (by decide) ?_
    refine g_istore C (lv' := [(5, .int 1), (4, .int (xCn g z 0)), (2, .long ((xWs g 9).1)), (1, .int (nI q)), (0, .ref xa)]) dL_arePaidSo_28 (by decide) rfl ?_
    refine g_iload_n C dL_arePaidSo_30 3 rfl ?_
    refine g_if_lt C (tgt := 191) dL_arePaidSo_31 (by decide) (fun h31_32 => absurd h31_32 (nI_pos (by omega))) (fun _ => ?_)
    refine g_aload_n C dL_arePaidSo_34 4 rfl ?_
    refine g_iload_n C dL_arePaidSo_35 3 rfl ?_
    refine g_iconst C (v := 3) dL_arePaidSo_36 ci_3 ?_
    refine g_callVi C (c_X3_rod l D cI cO xa ta ha hb ad t n G g o z hn ho hz q hq 3 ((by decide))) gL_arePaidSo_X3_rod rfl ⟨rfl, rfl⟩ hd_X3_rod ⟨Nat.le_of_ble_eq_true rfl, Nat.le_of_ble_eq_true rfl⟩ [0, 1] rfl (fun _ _ => trivial) rfl (rest := []) rfl (Nat.le_of_ble_eq_true rfl) dL_arePaidSo_37 ⟨Nat.zero_le _, Nat.zero_le _⟩ 0 rfl rfl rfl (pre := []) (post := []) (ws' := ((wS0 xa ad ha ta) ++ ((wT ta cI t (nI n)) ++ ((wHs ha hb cI cO G (nI o) (nI z)) ++ (wB ad cI g))))) rfl rfl ?_
    refine g_bipush C (v := 100) dL_arePaidSo_40 cb_100 ?_
    refine g_isub C (v := (xRod g q 3) - 100) dL_arePaidSo_42 rfl ?_
    refine g_istore C (lv' := [(6, .int ((xRod g q 3) - 100)), (5, .int 1), (4, .int (xCn g z 0)), (2, .long ((xWs g 9).1)), (1, .int (nI q)), (0, .ref xa)]) dL_arePaidSo_43 (by decide) rfl ?_
    refine g_aload_n C dL_arePaidSo_45 5 rfl ?_
    refine g_iload_n C dL_arePaidSo_46 4 rfl ?_
    refine g_iload C dL_arePaidSo_47 0 rfl ?_
    refine g_callVi C (c_X3_ifAdded l D cI cO xa ta ha hb ad t n G g o z hn ho hz q hq ((xRod g q 3) - 100) ((rd_l2 (hI.1 q hq)).1) ((rd_l2 (hI.1 q hq)).2)) gL_arePaidSo_X3_ifAdded rfl ⟨rfl, rfl⟩ hd_X3_ifAdded ⟨Nat.le_of_ble_eq_true rfl, Nat.le_of_ble_eq_true rfl⟩ [0, 1] rfl (fun _ _ => trivial) rfl (rest := []) rfl (Nat.le_of_ble_eq_true rfl) dL_arePaidSo_49 ⟨Nat.zero_le _, Nat.zero_le _⟩ 0 rfl rfl rfl (pre := []) (post := []) (ws' := ((wS0 xa ad ha ta) ++ ((wT ta cI t (nI n)) ++ ((wHs ha hb cI cO G (nI o) (nI z)) ++ (wB ad cI g))))) rfl rfl ?_
    rw [show (xCh g q (xRod g q 3 - 100) 0).1 = nI b from by rw [rl_eq]; exact k4]
    refine g_istore C (lv' := [(7, .int (nI b)), (6, .int ((xRod g q 3) - 100)), (5, .int 1), (4, .int (xCn g z 0)), (2, .long ((xWs g 9).1)), (1, .int (nI q)), (0, .ref xa)]) dL_arePaidSo_52 (by decide) rfl ?_
    refine g_iload C dL_arePaidSo_54 1 rfl ?_
    refine g_if_eq C (tgt := 98) dL_arePaidSo_56 (by decide) (fun h56_33 => absurd h56_33 (by rw [rl_eq]; exact k3)) (fun _ => ?_)
    refine g_iload C dL_arePaidSo_59 0 rfl ?_
    refine g_if_lt C (tgt := 98) dL_arePaidSo_61 (by decide) (fun h61_34 => absurd h61_34 (nI_pos (by omega))) (fun _ => ?_)
    refine g_aload_n C dL_arePaidSo_64 6 rfl ?_
    refine g_iload_n C dL_arePaidSo_65 5 rfl ?_
    refine g_callVi C (c_X3_pay l D cI cO xa ta ha hb ad t n G g o z hn ho hz q hq ((by rw [k4]; exact nIm1 (by omega)))) gL_arePaidSo_X3_pay rfl ⟨rfl, rfl⟩ hd_X3_pay ⟨Nat.le_of_ble_eq_true rfl, Nat.le_of_ble_eq_true rfl⟩ [0, 1] rfl (fun _ _ => trivial) rfl (rest := []) rfl (Nat.le_of_ble_eq_true rfl) dL_arePaidSo_66 ⟨Nat.zero_le _, Nat.zero_le _⟩ 0 rfl rfl rfl (pre := []) (post := []) (ws' := ((wS0 xa ad ha ta) ++ ((wT ta cI t (nI n)) ++ ((wHs ha hb cI cO (kG G o z g) (nI (kO o z)) (nI (kM z + 1))) ++ (wB ad cI ((xPa g q).2)))))) rfl rfl ?_
    refine g_iload C dL_arePaidSo_69 0 rfl ?_
    refine g_icmp_ne C (tgt := 98) dL_arePaidSo_71 (by decide) (fun h71_35 => absurd (y2.trans (y1.symm.trans k4)) h71_35) (fun _ => ?_)
    refine g_aload_n C dL_arePaidSo_74 6 rfl ?_
    refine g_iload_n C dL_arePaidSo_75 5 rfl ?_
    refine g_iconst C (v := 3) dL_arePaidSo_76 ci_3 ?_
    refine g_callVi C (c_X3_rod l D cI cO xa ta ha hb ad t n (kG G o z g) ((xPa g q).2) (kO o z) (kM z + 1) hn (kO_lt ho) (by have := kM_lt hz; omega) q hq 3 ((by decide))) gL_arePaidSo_X3_rod rfl ⟨rfl, rfl⟩ hd_X3_rod ⟨Nat.le_of_ble_eq_true rfl, Nat.le_of_ble_eq_true rfl⟩ [0, 1] rfl (fun _ _ => trivial) rfl (rest := []) rfl (Nat.le_of_ble_eq_true rfl) dL_arePaidSo_77 ⟨Nat.zero_le _, Nat.zero_le _⟩ 0 rfl rfl rfl (pre := []) (post := []) (ws' := ((wS0 xa ad ha ta) ++ ((wT ta cI t (nI n)) ++ ((wHs ha hb cI cO (kG G o z g) (nI (kO o z)) (nI (kM z + 1))) ++ (wB ad cI ((xPa g q).2)))))) rfl rfl ?_
    refine g_bipush C (v := 100) dL_arePaidSo_80 cb_100 ?_
    refine g_icmp_ne C (tgt := 98) dL_arePaidSo_82 (by decide) (fun h82_36 => absurd (by show (xPa g q).2 (6 * q + 3) + 100 = 100; rw [y3]; decide) h82_36) (fun _ => ?_)
    refine g_aload_n C dL_arePaidSo_85 6 rfl ?_
    refine g_callVl C (c_X3_whole l D cI cO xa ta ha hb ad t n (kG G o z g) ((xPa g q).2) (kO o z) (kM z + 1) hn (kO_lt ho) (by have := kM_lt hz; omega)) gL_arePaidSo_X3_whole rfl ⟨rfl, rfl⟩ hd_X3_whole ⟨Nat.le_of_ble_eq_true rfl, Nat.le_of_ble_eq_true rfl⟩ [0, 1] rfl (fun _ _ => trivial) rfl (rest := []) rfl (Nat.le_of_ble_eq_true rfl) dL_arePaidSo_86 ⟨Nat.zero_le _, Nat.zero_le _⟩ 0 rfl rfl rfl (pre := []) (post := []) (ws' := ((wS0 xa ad ha ta) ++ ((wT ta cI t (nI n)) ++ ((wHs ha hb cI cO (kG G o z g) (nI (kO o z)) (nI (kM z + 1))) ++ (wB ad cI ((xPa g q).2)))))) rfl rfl ?_
    refine g_lload_n C dL_arePaidSo_89 4 rfl ?_
    refine g_lcmp C (v := lg_cmp ((xWs ((xPa g q).2) 9).1) ((xWs g 9).1)) dL_arePaidSo_90 rfl ?_
    refine g_if_ne C (tgt := 98) dL_arePaidSo_91 (by decide) (fun h91_37 => absurd (lgz (eWsame hI y4 y5)) h91_37) (fun _ => ?_)
    refine g_iconst C (v := 1) dL_arePaidSo_94 ci_1 ?_
    refine g_goto C (tgt := 99) dL_arePaidSo_95 (by decide) ?_
    refine g_istore C (lv' := [(5, .int 1), (7, .int (nI b)), (6, .int ((xRod g q 3) - 100)), (4, .int (xCn g z 0)), (2, .long ((xWs g 9).1)), (1, .int (nI q)), (0, .ref xa)]) dL_arePaidSo_99 (by decide) rfl ?_
    refine g_aload_n C dL_arePaidSo_101 6 rfl ?_
    refine g_callVi C (c_X3_undo l D cI cO xa ta ha hb ad t n (kG G o z g) ((xPa g q).2) (kO o z) (kM z + 1) hn (kO_lt ho) (by have := kM_lt hz; omega) ((Nat.succ_pos _))) gL_arePaidSo_X3_undo rfl ⟨rfl, rfl⟩ hd_X3_undo ⟨Nat.le_of_ble_eq_true rfl, Nat.le_of_ble_eq_true rfl⟩ [0, 1] rfl (fun _ _ => trivial) rfl (rest := []) rfl (Nat.le_of_ble_eq_true rfl) dL_arePaidSo_102 ⟨Nat.zero_le _, Nat.zero_le _⟩ 0 rfl rfl rfl (pre := []) (post := []) (ws' := ((wS0 xa ad ha ta) ++ ((wT ta cI t (nI n)) ++ ((wHs ha hb cI cO (kG G o z g) (nI (kO o z)) (nI (kM z + 1 - 1))) ++ (wB ad cI ((kG G o z g) (rI (kO o z) (kM z + 1)))))))) rfl rfl ?_
    refine g_ws (ws' := ((wS0 xa ad ha ta) ++ ((wT ta cI t (nI n)) ++ ((wHs ha hb cI cO (kG G o z g) (nI (kO o z)) (nI (kM z + 1 - 1))) ++ (wB ad cI g))))) (by rw [kG_un]) ?_
    refine g_istore C (lv' := [(8, .int (nI (kM z + 1 - 1))), (5, .int 1), (7, .int (nI b)), (6, .int ((xRod g q 3) - 100)), (4, .int (xCn g z 0)), (2, .long ((xWs g 9).1)), (1, .int (nI q)), (0, .ref xa)]) dL_arePaidSo_105 (by decide) rfl ?_
    refine g_iconst C (v := 0) dL_arePaidSo_107 ci_0 ?_
    refine g_istore C (lv' := [(9, .int 0), (8, .int (nI (kM z + 1 - 1))), (5, .int 1), (7, .int (nI b)), (6, .int ((xRod g q 3) - 100)), (4, .int (xCn g z 0)), (2, .long ((xWs g 9).1)), (1, .int (nI q)), (0, .ref xa)]) dL_arePaidSo_108 (by decide) rfl ?_
    refine g_lv [8, 7, 6, 5, 2, 3, 0] (lv' := [(0, .ref xa), (1, .int (nI q)), (2, .long ((xWs g 9).1)), (4, .int (xCn g z 0)), (5, .int 1), (7, .int (nI b)), (9, .int 0)]) rfl ?_
    exact K110 9 0 rfl
theorem mb_nn {g : Nat → Int32} {r f o : Nat} (hR : Rd9 g r) (hf : f ≤ 2) (ho : o ≤ 5) (h : ¬ xMb g r (nI f) (nI o) = -1) : ¬ xMb g r (nI f) (nI o) < 0 := by
  rcases eMb hR hf ho with e | ⟨k, hk, e⟩
  · exact absurd e h
  · rw [e]; exact nI_pos (by omega)
theorem r3_0 {g : Nat → Int32} {r : Nat} (h : xRod g r 3 = 100) : g (6 * r + 3) = 0 := by
  rw [← rl_eq g r, h]; decide
theorem hd_L_low : yL_low.cls ≠ "java/lang/invoke/MethodHandle" ∧ yL_low.cls ≠ "java/lang/invoke/VarHandle" ∧ (parseMethodDescriptor yL_low.desc).map (fun d => d.parameters.length) = some 2 := by decide +kernel
theorem hd_X3_move : yX3_move.cls = RX3 ∧ yX3_move.cls ≠ "java/lang/invoke/MethodHandle" ∧ yX3_move.cls ≠ "java/lang/invoke/VarHandle" ∧ (parseMethodDescriptor yX3_move.desc).map (fun d => d.parameters.length) = some 3 := by decide +kernel
theorem hd_X3_stick : yX3_stick.cls = RX3 ∧ yX3_stick.cls ≠ "java/lang/invoke/MethodHandle" ∧ yX3_stick.cls ≠ "java/lang/invoke/VarHandle" ∧ (parseMethodDescriptor yX3_stick.desc).map (fun d => d.parameters.length) = some 2 := by decide +kernel
theorem hd_X3_set : yX3_set.cls = RX3 ∧ yX3_set.cls ≠ "java/lang/invoke/MethodHandle" ∧ yX3_set.cls ≠ "java/lang/invoke/VarHandle" ∧ (parseMethodDescriptor yX3_set.desc).map (fun d => d.parameters.length) = some 1 := by decide +kernel
abbrev rmL_does : Room := { frames := 7, cells := 0, slots := 0, locals := 169 }
set_option maxHeartbeats 2000000 in
set_option maxRecDepth 100000 in
theorem c_L_does (l : Launch) (D : va_G) (cI cO : ClassId) (xa : Nat) (ta ha : Nat → Nat) (hb : Nat → Nat → Nat) (ad : Nat → Nat) (t : Nat → Int32) (n : Nat) (G : Nat → Nat → Int32) (g : Nat → Int32) (o z : Nat) (hn : n ≤ 60) (ho : o < 6) (hz : z ≤ 6) (hI : Iv g) (v : Int32) : cE (fun _ => True) l yL_does wsL_does rmL_does D vwCl (tyA cI cO) [.ref xa, .int v] ((wS0 xa ad ha ta) ++ ((wT ta cI t (nI n)) ++ ((wHs ha hb cI cO G (nI o) (nI z)) ++ (wB ad cI g)))) (dP xa ta ha hb ad cI cO t n g v) := by
  refine cE_of (cc := cL_does) (maxL := 5) (ret := (some .int)) (by decide) rfl (Nat.le_of_ble_eq_true rfl) ?_
  intro p e s m below meth c A C hret hlk hnm hF
  refine g_lv [0, 1] (lv' := [(0, .ref xa), (1, .int v)]) rfl ?_
  have K18 : ∀ n9 : Nat, 0 < n9 → n9 ≤ 9 → gG p l e rmL_does s m ([.ref xa, .int v] : List Value).toArray below meth c D vwCl A s.heap 5 (MQ below (cQE (dP xa ta ha hb ad cI cO t n g v) D vwCl (tyA cI cO) A) ([.ref xa, .int v] : List Value).toArray s 0 0 A) 0 0 ((wS0 xa ad ha ta) ++ ((wT ta cI t (nI n)) ++ ((wHs ha hb cI cO G (nI o) (nI z)) ++ (wB ad cI g)))) 18 [(0, .ref xa), (1, .int v)] [.int (nI n9), .int (v >>> (4 &&& 31))] := by
    intro n9 hn0 hn99
    refine g_callSi C (c_L_low l D cI cO (v >>> (4 &&& 31)) n9 hn0 (by omega)) gL_does_L_low rfl ⟨rfl, rfl⟩ hd_L_low ⟨Nat.le_of_ble_eq_true rfl, Nat.le_of_ble_eq_true rfl⟩ [0, 1] rfl (fun _ _ => trivial) rfl (rest := []) rfl (Nat.le_of_ble_eq_true rfl) dL_does_18 ⟨Nat.zero_le _, Nat.zero_le _⟩ (pre := []) (post := ((wS0 xa ad ha ta) ++ ((wT ta cI t (nI n)) ++ ((wHs ha hb cI cO G (nI o) (nI z)) ++ (wB ad cI g))))) (ws' := ((wS0 xa ad ha ta) ++ ((wT ta cI t (nI n)) ++ ((wHs ha hb cI cO G (nI o) (nI z)) ++ (wB ad cI g))))) rfl rfl ?_
    have hr : lw (v >>> (4 &&& 31)) n9 < 9 := Nat.lt_of_lt_of_le (lw_lt hn0) hn99
    generalize lw (v >>> (4 &&& 31)) n9 = r at hr ⊢
    refine g_istore_n C (lv' := [(2, .int (nI r)), (0, .ref xa), (1, .int v)]) dL_does_21 rfl (by decide) rfl ?_
    refine g_iconst C (v := 1) dL_does_22 ci_1 ?_
    refine g_iload_n C dL_does_23 2 rfl ?_
    refine g_bipush C (v := 8) dL_does_24 cb_8 ?_
    refine g_ishr C (v := v >>> (8 &&& 31)) dL_does_26 rfl ?_
    refine g_bipush C (v := 9) dL_does_27 cb_9 ?_
    refine g_callSi C (c_L_low l D cI cO (v >>> (8 &&& 31)) 9 (by decide) (by decide)) gL_does_L_low rfl ⟨rfl, rfl⟩ hd_L_low ⟨Nat.le_of_ble_eq_true rfl, Nat.le_of_ble_eq_true rfl⟩ [0, 1] rfl (fun _ _ => trivial) rfl (rest := [.int 1]) rfl (Nat.le_of_ble_eq_true rfl) dL_does_29 ⟨Nat.zero_le _, Nat.zero_le _⟩ (pre := []) (post := ((wS0 xa ad ha ta) ++ ((wT ta cI t (nI n)) ++ ((wHs ha hb cI cO G (nI o) (nI z)) ++ (wB ad cI g))))) (ws' := ((wS0 xa ad ha ta) ++ ((wT ta cI t (nI n)) ++ ((wHs ha hb cI cO G (nI o) (nI z)) ++ (wB ad cI g))))) rfl rfl ?_
    refine g_iadd C (v := nI (1 + lw (v >>> (8 &&& 31)) 9)) dL_does_32 (nI_add 1 _) ?_
    have hj : lw (v >>> (8 &&& 31)) 9 < 9 := lw_lt (by decide)
    generalize lw (v >>> (8 &&& 31)) 9 = j at hj ⊢
    refine g_istore_n C (lv' := [(3, .int (nI (1 + j))), (2, .int (nI r)), (0, .ref xa), (1, .int v)]) dL_does_33 rfl (by decide) rfl ?_
    have hR := hI.1 r hr
    obtain ⟨F, O, S, L, hF, hO, hS, hL, e1, e2, e4, e3⟩ := hI.1 r hr
    refine g_lv [2, 3, 1, 0] (lv' := [(0, .ref xa), (1, .int v), (2, .int (nI r)), (3, .int (nI (1 + j)))]) rfl ?_
    have K165 : v &&& 15 < 2 → ∀ f9 q9 : Nat, f9 ≤ 2 → q9 ≤ 5 → (g (6 * r + 4) &&& 1 = 1 → nI f9 = g (6 * r + 1)) → (g (6 * r + 4) &&& 2 = 2 → nI q9 = g (6 * r + 2)) → gG p l e rmL_does s m ([.ref xa, .int v] : List Value).toArray below meth c D vwCl A s.heap 5 (MQ below (cQE (dP xa ta ha hb ad cI cO t n g v) D vwCl (tyA cI cO) A) ([.ref xa, .int v] : List Value).toArray s 0 0 A) 0 0 ((wS0 xa ad ha ta) ++ ((wT ta cI t (nI n)) ++ ((wHs ha hb cI cO G (nI o) (nI z)) ++ (wB ad cI g)))) 165 [(0, .ref xa), (1, .int v), (2, .int (nI r)), (3, .int (nI (1 + j))), (4, .int (nI f9))] [.int (nI q9), .int (nI f9), .int (nI r), .ref xa] := by
      intro hk2 f9 q9 hf9 hq9 hA9 hB9
      have hmb := eMbN hR hf9 hq9 hA9 hB9
      refine g_callVi C (c_X3_move l D cI cO xa ta ha hb ad t n G g o z hn ho hz r hr (nI f9) (nI q9) ((nI_pos (by omega))) ((nI_le (b := 2) hf9 (by decide))) ((nI_pos (by omega))) ((nI_le (b := 5) hq9 (by decide))) hmb) gL_does_X3_move rfl ⟨rfl, rfl⟩ hd_X3_move ⟨Nat.le_of_ble_eq_true rfl, Nat.le_of_ble_eq_true rfl⟩ [0, 1] rfl (fun _ _ => trivial) rfl (rest := []) rfl (Nat.le_of_ble_eq_true rfl) dL_does_165 ⟨Nat.zero_le _, Nat.zero_le _⟩ 0 rfl rfl rfl (pre := []) (post := []) (ws' := ((wS0 xa ad ha ta) ++ ((wT ta cI t (nI n)) ++ ((wHs ha hb cI cO (kG G o z g) (nI (kO o z)) (nI (kM z + 1))) ++ (wB ad cI (xPl g r (nI f9) (nI q9) (xMb g r (nI f9) (nI q9)))))))) rfl rfl ?_
      exact g_iretE C hret hlk dL_does_168 ⟨mb_nn hR hf9 hq9 hmb, _, _, _, _, (kO_lt ho), (by have := kM_lt hz; omega), eIvPl hI hf9 hq9, fun h _ => absurd hk2 h, rfl⟩
    have K129 : v &&& 15 < 2 → ∀ f9 : Nat, f9 ≤ 2 → (g (6 * r + 4) &&& 1 = 1 → nI f9 = g (6 * r + 1)) → gG p l e rmL_does s m ([.ref xa, .int v] : List Value).toArray below meth c D vwCl A s.heap 5 (MQ below (cQE (dP xa ta ha hb ad cI cO t n g v) D vwCl (tyA cI cO) A) ([.ref xa, .int v] : List Value).toArray s 0 0 A) 0 0 ((wS0 xa ad ha ta) ++ ((wT ta cI t (nI n)) ++ ((wHs ha hb cI cO G (nI o) (nI z)) ++ (wB ad cI g)))) 129 [(0, .ref xa), (1, .int v), (2, .int (nI r)), (3, .int (nI (1 + j)))] [.int (nI f9)] := by
      intro hk2 f9 hf9 hA9
      refine g_istore C (lv' := [(4, .int (nI f9)), (0, .ref xa), (1, .int v), (2, .int (nI r)), (3, .int (nI (1 + j)))]) dL_does_129 (by decide) rfl ?_
      refine g_aload_n C dL_does_131 1 rfl ?_
      refine g_iload_n C dL_does_132 3 rfl ?_
      refine g_iload C dL_does_133 0 rfl ?_
      refine g_aload_n C dL_does_135 1 rfl ?_
      refine g_iload_n C dL_does_136 3 rfl ?_
      refine g_iconst C (v := 4) dL_does_137 ci_4 ?_
      refine g_callVi C (c_X3_rod l D cI cO xa ta ha hb ad t n G g o z hn ho hz r hr 4 ((by decide))) gL_does_X3_rod rfl ⟨rfl, rfl⟩ hd_X3_rod ⟨Nat.le_of_ble_eq_true rfl, Nat.le_of_ble_eq_true rfl⟩ [0, 1] rfl (fun _ _ => trivial) rfl (rest := [.int (nI f9), .int (nI r), .ref xa]) rfl (Nat.le_of_ble_eq_true rfl) dL_does_138 ⟨Nat.zero_le _, Nat.zero_le _⟩ 0 rfl rfl rfl (pre := []) (post := []) (ws' := ((wS0 xa ad ha ta) ++ ((wT ta cI t (nI n)) ++ ((wHs ha hb cI cO G (nI o) (nI z)) ++ (wB ad cI g))))) rfl rfl ?_
      refine g_iconst C (v := 2) dL_does_141 ci_2 ?_
      refine g_iand C (v := (xRod g r 4) &&& 2) dL_does_142 rfl ?_
      refine g_iconst C (v := 2) dL_does_143 ci_2 ?_
      refine g_icmp_ne C (tgt := 156) dL_does_144 (by decide) (fun h144_1 => ?_) (fun h144_1 => ?_)
      · refine g_iload_n C dL_does_156 2 rfl ?_
        refine g_bipush C (v := 9) dL_does_157 cb_9 ?_
        refine g_ishr C (v := v >>> (9 &&& 31)) dL_does_159 rfl ?_
        refine g_bipush C (v := 6) dL_does_160 cb_6 ?_
        refine g_callSi C (c_L_low l D cI cO (v >>> (9 &&& 31)) 6 (by decide) (by decide)) gL_does_L_low rfl ⟨rfl, rfl⟩ hd_L_low ⟨Nat.le_of_ble_eq_true rfl, Nat.le_of_ble_eq_true rfl⟩ [0, 1] rfl (fun _ _ => trivial) rfl (rest := [.int (nI f9), .int (nI r), .ref xa]) rfl (Nat.le_of_ble_eq_true rfl) dL_does_162 ⟨Nat.zero_le _, Nat.zero_le _⟩ (pre := []) (post := ((wS0 xa ad ha ta) ++ ((wT ta cI t (nI n)) ++ ((wHs ha hb cI cO G (nI o) (nI z)) ++ (wB ad cI g))))) (ws' := ((wS0 xa ad ha ta) ++ ((wT ta cI t (nI n)) ++ ((wHs ha hb cI cO G (nI o) (nI z)) ++ (wB ad cI g))))) rfl rfl ?_
        refine g_lv [1, 2, 3, 4, 0] (lv' := [(0, .ref xa), (1, .int v), (2, .int (nI r)), (3, .int (nI (1 + j))), (4, .int (nI f9))]) rfl ?_
        exact K165 hk2 f9 _ hf9 (Nat.le_of_lt_succ (lw_lt (by decide))) hA9 (fun z9 => absurd z9 h144_1)
      · refine g_aload_n C dL_does_147 1 rfl ?_
        refine g_iload_n C dL_does_148 3 rfl ?_
        refine g_iconst C (v := 1) dL_does_149 ci_1 ?_
        refine g_callVi C (c_X3_rod l D cI cO xa ta ha hb ad t n G g o z hn ho hz r hr 1 ((by decide))) gL_does_X3_rod rfl ⟨rfl, rfl⟩ hd_X3_rod ⟨Nat.le_of_ble_eq_true rfl, Nat.le_of_ble_eq_true rfl⟩ [0, 1] rfl (fun _ _ => trivial) rfl (rest := [.int (nI f9), .int (nI r), .ref xa]) rfl (Nat.le_of_ble_eq_true rfl) dL_does_150 ⟨Nat.zero_le _, Nat.zero_le _⟩ 0 rfl rfl rfl (pre := []) (post := []) (ws' := ((wS0 xa ad ha ta) ++ ((wT ta cI t (nI n)) ++ ((wHs ha hb cI cO G (nI o) (nI z)) ++ (wB ad cI g))))) rfl rfl ?_
        refine g_goto C (tgt := 165) dL_does_153 (by decide) ?_
        refine g_lv [1, 2, 3, 4, 0] (lv' := [(0, .ref xa), (1, .int v), (2, .int (nI r)), (3, .int (nI (1 + j))), (4, .int (nI f9))]) rfl ?_
        rw [show xRod g r 1 = nI O from e2]
        exact K165 hk2 f9 O hf9 hO hA9 (fun _ => e2.symm)
    have K100 : v &&& 15 < 2 → gG p l e rmL_does s m ([.ref xa, .int v] : List Value).toArray below meth c D vwCl A s.heap 5 (MQ below (cQE (dP xa ta ha hb ad cI cO t n g v) D vwCl (tyA cI cO) A) ([.ref xa, .int v] : List Value).toArray s 0 0 A) 0 0 ((wS0 xa ad ha ta) ++ ((wT ta cI t (nI n)) ++ ((wHs ha hb cI cO G (nI o) (nI z)) ++ (wB ad cI g)))) 100 [(0, .ref xa), (1, .int v), (2, .int (nI r)), (3, .int (nI (1 + j)))] [] := by
      intro hk2
      refine g_aload_n C dL_does_100 0 rfl ?_
      refine g_iload_n C dL_does_101 2 rfl ?_
      refine g_iconst C (v := 4) dL_does_102 ci_4 ?_
      refine g_callVi C (c_X3_rod l D cI cO xa ta ha hb ad t n G g o z hn ho hz r hr 4 ((by decide))) gL_does_X3_rod rfl ⟨rfl, rfl⟩ hd_X3_rod ⟨Nat.le_of_ble_eq_true rfl, Nat.le_of_ble_eq_true rfl⟩ [0, 1] rfl (fun _ _ => trivial) rfl (rest := []) rfl (Nat.le_of_ble_eq_true rfl) dL_does_103 ⟨Nat.zero_le _, Nat.zero_le _⟩ 0 rfl rfl rfl (pre := []) (post := []) (ws' := ((wS0 xa ad ha ta) ++ ((wT ta cI t (nI n)) ++ ((wHs ha hb cI cO G (nI o) (nI z)) ++ (wB ad cI g))))) rfl rfl ?_
      refine g_iconst C (v := 1) dL_does_106 ci_1 ?_
      refine g_iand C (v := (xRod g r 4) &&& 1) dL_does_107 rfl ?_
      refine g_iconst C (v := 1) dL_does_108 ci_1 ?_
      refine g_icmp_ne C (tgt := 121) dL_does_109 (by decide) (fun h109_2 => ?_) (fun h109_2 => ?_)
      · refine g_iload_n C dL_does_121 1 rfl ?_
        refine g_bipush C (v := 7) dL_does_122 cb_7 ?_
        refine g_ishr C (v := v >>> (7 &&& 31)) dL_does_124 rfl ?_
        refine g_iconst C (v := 3) dL_does_125 ci_3 ?_
        refine g_callSi C (c_L_low l D cI cO (v >>> (7 &&& 31)) 3 (by decide) (by decide)) gL_does_L_low rfl ⟨rfl, rfl⟩ hd_L_low ⟨Nat.le_of_ble_eq_true rfl, Nat.le_of_ble_eq_true rfl⟩ [0, 1] rfl (fun _ _ => trivial) rfl (rest := []) rfl (Nat.le_of_ble_eq_true rfl) dL_does_126 ⟨Nat.zero_le _, Nat.zero_le _⟩ (pre := []) (post := ((wS0 xa ad ha ta) ++ ((wT ta cI t (nI n)) ++ ((wHs ha hb cI cO G (nI o) (nI z)) ++ (wB ad cI g))))) (ws' := ((wS0 xa ad ha ta) ++ ((wT ta cI t (nI n)) ++ ((wHs ha hb cI cO G (nI o) (nI z)) ++ (wB ad cI g))))) rfl rfl ?_
        exact K129 hk2 _ (Nat.le_of_lt_succ (lw_lt (by decide))) (fun z9 => absurd z9 h109_2)
      · refine g_aload_n C dL_does_112 0 rfl ?_
        refine g_iload_n C dL_does_113 2 rfl ?_
        refine g_iconst C (v := 0) dL_does_114 ci_0 ?_
        refine g_callVi C (c_X3_rod l D cI cO xa ta ha hb ad t n G g o z hn ho hz r hr 0 ((by decide))) gL_does_X3_rod rfl ⟨rfl, rfl⟩ hd_X3_rod ⟨Nat.le_of_ble_eq_true rfl, Nat.le_of_ble_eq_true rfl⟩ [0, 1] rfl (fun _ _ => trivial) rfl (rest := []) rfl (Nat.le_of_ble_eq_true rfl) dL_does_115 ⟨Nat.zero_le _, Nat.zero_le _⟩ 0 rfl rfl rfl (pre := []) (post := []) (ws' := ((wS0 xa ad ha ta) ++ ((wT ta cI t (nI n)) ++ ((wHs ha hb cI cO G (nI o) (nI z)) ++ (wB ad cI g))))) rfl rfl ?_
        refine g_goto C (tgt := 129) dL_does_118 (by decide) ?_
        rw [show xRod g r 0 = nI F from e1]
        exact K129 hk2 F hF (fun _ => e1.symm)
    have K169 : gG p l e rmL_does s m ([.ref xa, .int v] : List Value).toArray below meth c D vwCl A s.heap 5 (MQ below (cQE (dP xa ta ha hb ad cI cO t n g v) D vwCl (tyA cI cO) A) ([.ref xa, .int v] : List Value).toArray s 0 0 A) 0 0 ((wS0 xa ad ha ta) ++ ((wT ta cI t (nI n)) ++ ((wHs ha hb cI cO G (nI o) (nI z)) ++ (wB ad cI g)))) 169 [(0, .ref xa), (1, .int v), (2, .int (nI r)), (3, .int (nI (1 + j)))] [] := by
      refine g_aload_n C dL_does_169 0 rfl ?_
      refine g_iload_n C dL_does_170 2 rfl ?_
      refine g_iload_n C dL_does_171 1 rfl ?_
      refine g_bipush C (v := 8) dL_does_172 cb_8 ?_
      refine g_ishr C (v := v >>> (8 &&& 31)) dL_does_174 rfl ?_
      refine g_iconst C (v := 4) dL_does_175 ci_4 ?_
      refine g_callSi C (c_L_low l D cI cO (v >>> (8 &&& 31)) 4 (by decide) (by decide)) gL_does_L_low rfl ⟨rfl, rfl⟩ hd_L_low ⟨Nat.le_of_ble_eq_true rfl, Nat.le_of_ble_eq_true rfl⟩ [0, 1] rfl (fun _ _ => trivial) rfl (rest := [.int (nI r), .ref xa]) rfl (Nat.le_of_ble_eq_true rfl) dL_does_176 ⟨Nat.zero_le _, Nat.zero_le _⟩ (pre := []) (post := ((wS0 xa ad ha ta) ++ ((wT ta cI t (nI n)) ++ ((wHs ha hb cI cO G (nI o) (nI z)) ++ (wB ad cI g))))) (ws' := ((wS0 xa ad ha ta) ++ ((wT ta cI t (nI n)) ++ ((wHs ha hb cI cO G (nI o) (nI z)) ++ (wB ad cI g))))) rfl rfl ?_
      refine g_callVi C (c_X3_stick l D cI cO xa ta ha hb ad t n G g o z hn ho hz r hr (nI (lw (v >>> (8 &&& 31)) 4)) ((nI_pos (by have := lw_lt (v := v >>> (8 &&& 31)) (n := 4) (by decide); omega))) ((nI_le (b := 3) (Nat.le_of_lt_succ (lw_lt (by decide))) (by decide)))) gL_does_X3_stick rfl ⟨rfl, rfl⟩ hd_X3_stick ⟨Nat.le_of_ble_eq_true rfl, Nat.le_of_ble_eq_true rfl⟩ [0, 1] rfl (fun _ _ => trivial) rfl (rest := []) rfl (Nat.le_of_ble_eq_true rfl) dL_does_179 ⟨Nat.zero_le _, Nat.zero_le _⟩ 0 rfl rfl rfl (pre := []) (post := []) (ws' := ((wS0 xa ad ha ta) ++ ((wT ta cI t (nI n)) ++ ((wHs ha hb cI cO (kG G o z g) (nI (kO o z)) (nI (kM z + 1))) ++ (wB ad cI (upd g (6 * r + 4) (nI (lw (v >>> (8 &&& 31)) 4)))))))) rfl rfl ?_
      exact g_iretE C hret hlk dL_does_182 ⟨lStickN hR, _, _, _, _, (kO_lt ho), (by have := kM_lt hz; omega), lStickI hI (Nat.le_of_lt_succ (lw_lt (by decide))), fun _ _ => lStickW, rfl⟩
    have K183 : gG p l e rmL_does s m ([.ref xa, .int v] : List Value).toArray below meth c D vwCl A s.heap 5 (MQ below (cQE (dP xa ta ha hb ad cI cO t n g v) D vwCl (tyA cI cO) A) ([.ref xa, .int v] : List Value).toArray s 0 0 A) 0 0 ((wS0 xa ad ha ta) ++ ((wT ta cI t (nI n)) ++ ((wHs ha hb cI cO G (nI o) (nI z)) ++ (wB ad cI g)))) 183 [(0, .ref xa), (1, .int v), (2, .int (nI r)), (3, .int (nI (1 + j)))] [] := by
      refine g_aload_n C dL_does_183 0 rfl ?_
      refine g_iload_n C dL_does_184 1 rfl ?_
      refine g_iconst C (v := 4) dL_does_185 ci_4 ?_
      refine g_ishr C (v := v >>> (4 &&& 31)) dL_does_186 rfl ?_
      refine g_bipush C (v := 10) dL_does_187 cb_10 ?_
      refine g_callSi C (c_L_low l D cI cO (v >>> (4 &&& 31)) 10 (by decide) (by decide)) gL_does_L_low rfl ⟨rfl, rfl⟩ hd_L_low ⟨Nat.le_of_ble_eq_true rfl, Nat.le_of_ble_eq_true rfl⟩ [0, 1] rfl (fun _ _ => trivial) rfl (rest := [.ref xa]) rfl (Nat.le_of_ble_eq_true rfl) dL_does_189 ⟨Nat.zero_le _, Nat.zero_le _⟩ (pre := []) (post := ((wS0 xa ad ha ta) ++ ((wT ta cI t (nI n)) ++ ((wHs ha hb cI cO G (nI o) (nI z)) ++ (wB ad cI g))))) (ws' := ((wS0 xa ad ha ta) ++ ((wT ta cI t (nI n)) ++ ((wHs ha hb cI cO G (nI o) (nI z)) ++ (wB ad cI g))))) rfl rfl ?_
      refine g_callVi C (c_X3_set l D cI cO xa ta ha hb ad t n G g o z hn ho hz (nI (lw (v >>> (4 &&& 31)) 10)) ((nI_pos (by have := lw_lt (v := v >>> (4 &&& 31)) (n := 10) (by decide); omega))) ((nI_le (b := 9) (Nat.le_of_lt_succ (lw_lt (by decide))) (by decide)))) gL_does_X3_set rfl ⟨rfl, rfl⟩ hd_X3_set ⟨Nat.le_of_ble_eq_true rfl, Nat.le_of_ble_eq_true rfl⟩ [0, 1] rfl (fun _ _ => trivial) rfl (rest := []) rfl (Nat.le_of_ble_eq_true rfl) dL_does_192 ⟨Nat.zero_le _, Nat.zero_le _⟩ 0 rfl rfl rfl (pre := []) (post := []) (ws' := ((wS0 xa ad ha ta) ++ ((wT ta cI t (nI n)) ++ ((wHs ha hb cI cO (kG G o z g) (nI (kO o z)) (nI (kM z + 1))) ++ (wB ad cI (upd g 0 (nI (lw (v >>> (4 &&& 31)) 10)))))))) rfl rfl ?_
      exact g_iretE C hret hlk dL_does_195 ⟨lSetN hI, _, _, _, _, (kO_lt ho), (by have := kM_lt hz; omega), lSetI hI (Nat.le_of_lt_succ (lw_lt (by decide))), fun _ _ => lSetW, rfl⟩
    have K196 : gG p l e rmL_does s m ([.ref xa, .int v] : List Value).toArray below meth c D vwCl A s.heap 5 (MQ below (cQE (dP xa ta ha hb ad cI cO t n g v) D vwCl (tyA cI cO) A) ([.ref xa, .int v] : List Value).toArray s 0 0 A) 0 0 ((wS0 xa ad ha ta) ++ ((wT ta cI t (nI n)) ++ ((wHs ha hb cI cO G (nI o) (nI z)) ++ (wB ad cI g)))) 196 [(0, .ref xa), (1, .int v), (2, .int (nI r)), (3, .int (nI (1 + j)))] [] := by
      obtain ⟨b0, hb0, t1, t2, t3, t4⟩ := eTd hI 9 (by decide)
      refine g_aload_n C dL_does_196 0 rfl ?_
      refine g_callVi C (c_X3_tidy l D cI cO xa ta ha hb ad t n G g o z hn ho hz) gL_does_X3_tidy rfl ⟨rfl, rfl⟩ hd_X3_tidy ⟨Nat.le_of_ble_eq_true rfl, Nat.le_of_ble_eq_true rfl⟩ [0, 1] rfl (fun _ _ => trivial) rfl (rest := []) rfl (Nat.le_of_ble_eq_true rfl) dL_does_197 ⟨Nat.zero_le _, Nat.zero_le _⟩ 0 rfl rfl rfl (pre := []) (post := []) (ws' := ((wS0 xa ad ha ta) ++ ((wT ta cI t (nI n)) ++ ((wHs ha hb cI cO (kG G o z g) (nI (kO o z)) (nI (kM z + 1))) ++ (wB ad cI ((xTd g 9).2)))))) rfl rfl ?_
      exact g_iretE C hret hlk dL_does_200 ⟨(by rw [t1]; exact nI_pos (by omega)), _, _, _, _, (kO_lt ho), (by have := kM_lt hz; omega), t2, fun _ _ => t3, rfl⟩
    have K201 : gG p l e rmL_does s m ([.ref xa, .int v] : List Value).toArray below meth c D vwCl A s.heap 5 (MQ below (cQE (dP xa ta ha hb ad cI cO t n g v) D vwCl (tyA cI cO) A) ([.ref xa, .int v] : List Value).toArray s 0 0 A) 0 0 ((wS0 xa ad ha ta) ++ ((wT ta cI t (nI n)) ++ ((wHs ha hb cI cO G (nI o) (nI z)) ++ (wB ad cI g)))) 201 [(0, .ref xa), (1, .int v), (2, .int (nI r)), (3, .int (nI (1 + j)))] [] := by
      refine g_aload_n C dL_does_201 0 rfl ?_
      refine g_iload_n C dL_does_202 2 rfl ?_
      refine g_iconst C (v := 3) dL_does_203 ci_3 ?_
      refine g_callVi C (c_X3_rod l D cI cO xa ta ha hb ad t n G g o z hn ho hz r hr 3 ((by decide))) gL_does_X3_rod rfl ⟨rfl, rfl⟩ hd_X3_rod ⟨Nat.le_of_ble_eq_true rfl, Nat.le_of_ble_eq_true rfl⟩ [0, 1] rfl (fun _ _ => trivial) rfl (rest := []) rfl (Nat.le_of_ble_eq_true rfl) dL_does_204 ⟨Nat.zero_le _, Nat.zero_le _⟩ 0 rfl rfl rfl (pre := []) (post := []) (ws' := ((wS0 xa ad ha ta) ++ ((wT ta cI t (nI n)) ++ ((wHs ha hb cI cO G (nI o) (nI z)) ++ (wB ad cI g))))) rfl rfl ?_
      refine g_bipush C (v := 100) dL_does_207 cb_100 ?_
      refine g_icmp_ne C (tgt := 220) dL_does_209 (by decide) (fun h209_3 => ?_) (fun h209_3 => ?_)
      · refine g_iconst C (v := 0) dL_does_220 ci_0 ?_
        exact g_iretE C hret hlk dL_does_221 ⟨(by decide), _, _, _, _, ho, hz, hI, fun _ _ => rfl, rfl⟩
      · have h100 : xRod g r 3 = 100 := h209_3
        obtain ⟨b0, hb0, t1, t2, t3, t4⟩ := ePa hr hI
        refine g_aload_n C dL_does_212 0 rfl ?_
        refine g_iload_n C dL_does_213 2 rfl ?_
        refine g_callVi C (c_X3_pay l D cI cO xa ta ha hb ad t n G g o z hn ho hz r hr ((by rw [r3_0 h100, eCh0 hR]; decide))) gL_does_X3_pay rfl ⟨rfl, rfl⟩ hd_X3_pay ⟨Nat.le_of_ble_eq_true rfl, Nat.le_of_ble_eq_true rfl⟩ [0, 1] rfl (fun _ _ => trivial) rfl (rest := []) rfl (Nat.le_of_ble_eq_true rfl) dL_does_214 ⟨Nat.zero_le _, Nat.zero_le _⟩ 0 rfl rfl rfl (pre := []) (post := []) (ws' := ((wS0 xa ad ha ta) ++ ((wT ta cI t (nI n)) ++ ((wHs ha hb cI cO (kG G o z g) (nI (kO o z)) (nI (kM z + 1))) ++ (wB ad cI ((xPa g r).2)))))) rfl rfl ?_
        refine g_goto C (tgt := 221) dL_does_217 (by decide) ?_
        exact g_iretE C hret hlk dL_does_221 ⟨(by rw [t1]; exact nI_pos (by omega)), _, _, _, _, (kO_lt ho), (by have := kM_lt hz; omega), t2, fun _ _ => t3, rfl⟩
    have K222 : ¬ v &&& 15 ≤ 7 → gG p l e rmL_does s m ([.ref xa, .int v] : List Value).toArray below meth c D vwCl A s.heap 5 (MQ below (cQE (dP xa ta ha hb ad cI cO t n g v) D vwCl (tyA cI cO) A) ([.ref xa, .int v] : List Value).toArray s 0 0 A) 0 0 ((wS0 xa ad ha ta) ++ ((wT ta cI t (nI n)) ++ ((wHs ha hb cI cO G (nI o) (nI z)) ++ (wB ad cI g)))) 222 [(0, .ref xa), (1, .int v), (2, .int (nI r)), (3, .int (nI (1 + j)))] [] := by
      intro hk7
      have hb18 := nm9 (10 + j) (by omega)
      rw [← (n1_9 j hj).1] at hb18
      refine g_aload_n C dL_does_222 0 rfl ?_
      refine g_iload_n C dL_does_223 2 rfl ?_
      refine g_iload_n C dL_does_224 3 rfl ?_
      refine g_callVi C (c_X3_ifAdded l D cI cO xa ta ha hb ad t n G g o z hn ho hz r hr (nI (1 + j)) hb18.1 hb18.2.1) gL_does_X3_ifAdded rfl ⟨rfl, rfl⟩ hd_X3_ifAdded ⟨Nat.le_of_ble_eq_true rfl, Nat.le_of_ble_eq_true rfl⟩ [0, 1] rfl (fun _ _ => trivial) rfl (rest := []) rfl (Nat.le_of_ble_eq_true rfl) dL_does_225 ⟨Nat.zero_le _, Nat.zero_le _⟩ 0 rfl rfl rfl (pre := []) (post := []) (ws' := ((wS0 xa ad ha ta) ++ ((wT ta cI t (nI n)) ++ ((wHs ha hb cI cO G (nI o) (nI z)) ++ (wB ad cI g))))) rfl rfl ?_
      refine g_if_ge C (tgt := 235) dL_does_228 (by decide) (fun h228_4 => ?_) (fun h228_4 => ?_)
      · have hge : ¬ (xCh g r (nI (1 + j)) 0).1 < 0 := Int32.not_lt.mpr h228_4
        rcases eCh hr hI (m := 10 + j) (by omega) (n1_9 j hj).1 with ⟨b0, hb0, t0, t1, t2⟩ | h0
        rotate_left
        · exact absurd h0 (tk_lt hge)
        refine g_aload_n C dL_does_235 0 rfl ?_
        refine g_iload_n C dL_does_236 2 rfl ?_
        refine g_iload_n C dL_does_237 3 rfl ?_
        refine g_callVi C (c_X3_add l D cI cO xa ta ha hb ad t n G g o z hn ho hz r hr (nI (1 + j)) ((nI_nlt (b := 1) (by omega) (by omega))) ((nI_le (b := 9) (by omega) (by decide))) ((tk_lt hge))) gL_does_X3_add rfl ⟨rfl, rfl⟩ hd_X3_add ⟨Nat.le_of_ble_eq_true rfl, Nat.le_of_ble_eq_true rfl⟩ [0, 1] rfl (fun _ _ => trivial) rfl (rest := []) rfl (Nat.le_of_ble_eq_true rfl) dL_does_238 ⟨Nat.zero_le _, Nat.zero_le _⟩ 0 rfl rfl rfl (pre := []) (post := []) (ws' := ((wS0 xa ad ha ta) ++ ((wT ta cI t (nI n)) ++ ((wHs ha hb cI cO (kG G o z g) (nI (kO o z)) (nI (kM z + 1))) ++ (wB ad cI ((xCh g r (nI (1 + j)) 1).2)))))) rfl rfl ?_
        exact g_iretE C hret hlk dL_does_241 ⟨(by rw [t1]; exact nI_pos (by omega)), _, _, _, _, (kO_lt ho), (by have := kM_lt hz; omega), t2.1, fun _ h => absurd h hk7, rfl⟩
      · refine g_iconst C (v := 0) dL_does_231 ci_0 ?_
        refine g_goto C (tgt := 241) dL_does_232 (by decide) ?_
        exact g_iretE C hret hlk dL_does_241 ⟨(by decide), _, _, _, _, ho, hz, hI, fun _ _ => rfl, rfl⟩
    have K242 : ¬ v &&& 15 ≤ 7 → gG p l e rmL_does s m ([.ref xa, .int v] : List Value).toArray below meth c D vwCl A s.heap 5 (MQ below (cQE (dP xa ta ha hb ad cI cO t n g v) D vwCl (tyA cI cO) A) ([.ref xa, .int v] : List Value).toArray s 0 0 A) 0 0 ((wS0 xa ad ha ta) ++ ((wT ta cI t (nI n)) ++ ((wHs ha hb cI cO G (nI o) (nI z)) ++ (wB ad cI g)))) 242 [(0, .ref xa), (1, .int v), (2, .int (nI r)), (3, .int (nI (1 + j)))] [] := by
      intro hk7
      have hb18 := nm9 (8 - j) (by omega)
      rw [← (n1_9 j hj).2] at hb18
      refine g_aload_n C dL_does_242 0 rfl ?_
      refine g_iload_n C dL_does_243 2 rfl ?_
      refine g_iload_n C dL_does_244 3 rfl ?_
      refine g_ineg C (v := -(nI (1 + j))) dL_does_245 rfl ?_
      refine g_callVi C (c_X3_ifAdded l D cI cO xa ta ha hb ad t n G g o z hn ho hz r hr (-(nI (1 + j))) hb18.1 hb18.2.1) gL_does_X3_ifAdded rfl ⟨rfl, rfl⟩ hd_X3_ifAdded ⟨Nat.le_of_ble_eq_true rfl, Nat.le_of_ble_eq_true rfl⟩ [0, 1] rfl (fun _ _ => trivial) rfl (rest := []) rfl (Nat.le_of_ble_eq_true rfl) dL_does_246 ⟨Nat.zero_le _, Nat.zero_le _⟩ 0 rfl rfl rfl (pre := []) (post := []) (ws' := ((wS0 xa ad ha ta) ++ ((wT ta cI t (nI n)) ++ ((wHs ha hb cI cO G (nI o) (nI z)) ++ (wB ad cI g))))) rfl rfl ?_
      refine g_if_ge C (tgt := 256) dL_does_249 (by decide) (fun h249_5 => ?_) (fun h249_5 => ?_)
      · have hge : ¬ (xCh g r (-nI (1 + j)) 0).1 < 0 := Int32.not_lt.mpr h249_5
        rcases eCh hr hI (m := 8 - j) (by omega) (n1_9 j hj).2 with ⟨b0, hb0, t0, t1, t2⟩ | h0
        rotate_left
        · exact absurd h0 (tk_lt hge)
        refine g_aload_n C dL_does_256 0 rfl ?_
        refine g_iload_n C dL_does_257 2 rfl ?_
        refine g_iload_n C dL_does_258 3 rfl ?_
        refine g_callVi C (c_X3_less l D cI cO xa ta ha hb ad t n G g o z hn ho hz r hr (nI (1 + j)) ((nI_nlt (b := 1) (by omega) (by omega))) ((nI_le (b := 9) (by omega) (by decide))) ((tk_lt hge))) gL_does_X3_less rfl ⟨rfl, rfl⟩ hd_X3_less ⟨Nat.le_of_ble_eq_true rfl, Nat.le_of_ble_eq_true rfl⟩ [0, 1] rfl (fun _ _ => trivial) rfl (rest := []) rfl (Nat.le_of_ble_eq_true rfl) dL_does_259 ⟨Nat.zero_le _, Nat.zero_le _⟩ 0 rfl rfl rfl (pre := []) (post := []) (ws' := ((wS0 xa ad ha ta) ++ ((wT ta cI t (nI n)) ++ ((wHs ha hb cI cO (kG G o z g) (nI (kO o z)) (nI (kM z + 1))) ++ (wB ad cI ((xCh g r (-(nI (1 + j))) 1).2)))))) rfl rfl ?_
        exact g_iretE C hret hlk dL_does_262 ⟨(by rw [t1]; exact nI_pos (by omega)), _, _, _, _, (kO_lt ho), (by have := kM_lt hz; omega), t2.1, fun _ h => absurd h hk7, rfl⟩
      · refine g_iconst C (v := 0) dL_does_252 ci_0 ?_
        refine g_goto C (tgt := 262) dL_does_253 (by decide) ?_
        exact g_iretE C hret hlk dL_does_262 ⟨(by decide), _, _, _, _, ho, hz, hI, fun _ _ => rfl, rfl⟩
    obtain ⟨k, hk, ek⟩ := pk_andE v (m := 15) 4 rfl
    refine g_iload_n C dL_does_34 1 rfl ?_
    refine g_bipush C (v := 15) dL_does_35 cb_15 ?_
    refine g_iand C (v := nI k) dL_does_37 ek ?_
    rcases (show k = 0 ∨ k = 1 ∨ k = 2 ∨ k = 3 ∨ k = 4 ∨ k = 5 ∨ k = 6 ∨ k = 7 ∨ k = 8 ∨ k = 9 ∨ k = 10 ∨ k = 11 ∨ k = 12 ∨ k = 13 ∨ k = 14 ∨ k = 15 by omega) with e | e | e | e | e | e | e | e | e | e | e | e | e | e | e | e <;> subst e
    · refine g_tableIn C (tgt := 100) dL_does_38 (by decide) (by decide) rfl (by decide) ?_
      exact K100 (by rw [ek]; decide)
    · refine g_tableIn C (tgt := 100) dL_does_38 (by decide) (by decide) rfl (by decide) ?_
      exact K100 (by rw [ek]; decide)
    · refine g_tableIn C (tgt := 169) dL_does_38 (by decide) (by decide) rfl (by decide) ?_
      exact K169
    · refine g_tableIn C (tgt := 169) dL_does_38 (by decide) (by decide) rfl (by decide) ?_
      exact K169
    · refine g_tableIn C (tgt := 169) dL_does_38 (by decide) (by decide) rfl (by decide) ?_
      exact K169
    · refine g_tableIn C (tgt := 183) dL_does_38 (by decide) (by decide) rfl (by decide) ?_
      exact K183
    · refine g_tableIn C (tgt := 196) dL_does_38 (by decide) (by decide) rfl (by decide) ?_
      exact K196
    · refine g_tableIn C (tgt := 201) dL_does_38 (by decide) (by decide) rfl (by decide) ?_
      exact K201
    · refine g_tableIn C (tgt := 222) dL_does_38 (by decide) (by decide) rfl (by decide) ?_
      exact K222 (by rw [ek]; decide)
    · refine g_tableIn C (tgt := 222) dL_does_38 (by decide) (by decide) rfl (by decide) ?_
      exact K222 (by rw [ek]; decide)
    · refine g_tableIn C (tgt := 222) dL_does_38 (by decide) (by decide) rfl (by decide) ?_
      exact K222 (by rw [ek]; decide)
    · refine g_tableIn C (tgt := 222) dL_does_38 (by decide) (by decide) rfl (by decide) ?_
      exact K222 (by rw [ek]; decide)
    · refine g_tableOut C (tgt := 242) dL_does_38 (by decide) (by decide) ?_
      exact K242 (by rw [ek]; decide)
    · refine g_tableOut C (tgt := 242) dL_does_38 (by decide) (by decide) ?_
      exact K242 (by rw [ek]; decide)
    · refine g_tableOut C (tgt := 242) dL_does_38 (by decide) (by decide) ?_
      exact K242 (by rw [ek]; decide)
    · refine g_tableOut C (tgt := 242) dL_does_38 (by decide) (by decide) ?_
      exact K242 (by rw [ek]; decide)
  refine g_iload_n C dL_does_0 1 rfl ?_
  refine g_iconst C (v := 4) dL_does_1 ci_4 ?_
  refine g_ishr C (v := v >>> (4 &&& 31)) dL_does_2 rfl ?_
  refine g_iload_n C dL_does_3 1 rfl ?_
  refine g_bipush C (v := 14) dL_does_4 cb_14 ?_
  refine g_ishr C (v := v >>> (14 &&& 31)) dL_does_6 rfl ?_
  refine g_iconst C (v := 1) dL_does_7 ci_1 ?_
  refine g_iand C (v := (v >>> (14 &&& 31)) &&& 1) dL_does_8 rfl ?_
  refine g_if_ne C (tgt := 16) dL_does_9 (by decide) (fun h9_6 => ?_) (fun h9_6 => ?_)
  · refine g_bipush C (v := 9) dL_does_16 cb_9 ?_
    exact K18 9 (by decide) (by decide)
  · refine g_iconst C (v := 4) dL_does_12 ci_4 ?_
    refine g_goto C (tgt := 18) dL_does_13 (by decide) ?_
    exact K18 4 (by decide) (by decide)
