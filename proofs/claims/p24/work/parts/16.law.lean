theorem arr_prim {b : Nat} {s : State} {ty : FieldType} (h : (Cond.arrayClass ty).before #[Value.ref b] s = true) : ∃ cA : ClassId, ArrOfT s cA ty ∧ s.vm.findClass ("[" ++ ty.toString) = some cA := by
  obtain ⟨cA, k, comp, h1, h2, h3⟩ := Cond.arrayClass_spec (args := #[Value.ref b]) (first := s) (o := none) (s := s) (idx := []) h
  exact ⟨cA, fun n z => ⟨fun k h => (by cases h), k, h2, comp, h3⟩, h1⟩
theorem law_K {b : Nat} {s : State} (hts : ∀ w ∈ lw_tbl, w.before #[Value.ref b] s = true) : ∃ (D : va_G) (cI cO : ClassId), va_K D vwCl (tyA cI cO) s := by
  obtain ⟨c0, i0, k0⟩ := u_known (n := 7) hts inX0 (hts _ (by decide +kernel))
  obtain ⟨c1, i1, k1⟩ := u_known (n := 3) hts inX1 (hts _ (by decide +kernel))
  obtain ⟨c2, i2, k2⟩ := u_known (n := 2) hts inX2 (hts _ (by decide +kernel))
  obtain ⟨c3, i3, k3⟩ := u_known (n := 3) hts inX3 (hts _ (by decide +kernel))
  obtain ⟨cI, aI, fI⟩ := arr_prim (ty := .int) (hts _ (by decide +kernel))
  obtain ⟨comp, cO, k, g1, -, g3, g4, g5⟩ := Cond.arrayOver_spec (args := #[Value.ref b]) (first := s) (o := none) (s := s) (idx := []) (n := RX0) (hts _ (by decide +kernel))
  refine ⟨⟨fun c => match c with | 0 => c0 | 1 => c1 | 2 => c2 | _ => c3, fun c => match c with | 0 => i0 | 1 => i1 | 2 => i2 | _ => i3⟩, cI, cO, ?_, ?_⟩
  · intro c q hq
    have hc : c < 4 := (List.getElem?_eq_some_iff.mp hq).1
    rcases (show c = 0 ∨ c = 1 ∨ c = 2 ∨ c = 3 by omega) with e | e | e | e <;> subst e <;> cases hq
    · exact k0
    · exact k1
    · exact k2
    · exact k3
  · intro c q hq
    have hc : c < 2 := (List.getElem?_eq_some_iff.mp hq).1
    rcases (show c = 0 ∨ c = 1 by omega) with e | e <;> subst e <;> cases hq
    · exact ⟨aI, fI⟩
    · exact ⟨fun n z => ⟨fun k h => (by cases h), k, g3, comp, g4⟩, k, comp, g3, g4, g1, g5⟩
theorem law_aF {b : Nat} {s : State} (hts : ∀ w ∈ lw_tbl, w.before #[Value.ref b] s = true) : aF s.vm := ⟨s, rfl, va_AO.of (hts _ (by decide +kernel))⟩
theorem fw_L_law_const97 : Cond.constant RL 97 (1000000000) ∈ wsL_law := (List.mem_append_left _ (List.mem_append_left _ (List.mem_append_left _ (List.mem_append_left _ (List.mem_append_left _ (List.mem_append_left _ (List.mem_append_left _ (List.mem_append_left _ (List.mem_append_left _ (List.mem_of_getElem? (i := 3) rfl))))))))))
theorem hd_L_isShownSo : yL_isShownSo.cls ≠ "java/lang/invoke/MethodHandle" ∧ yL_isShownSo.cls ≠ "java/lang/invoke/VarHandle" ∧ (parseMethodDescriptor yL_isShownSo.desc).map (fun d => d.parameters.length) = some 2 := by decide +kernel
theorem hd_L_arePaidSo : yL_arePaidSo.cls ≠ "java/lang/invoke/MethodHandle" ∧ yL_arePaidSo.cls ≠ "java/lang/invoke/VarHandle" ∧ (parseMethodDescriptor yL_arePaidSo.desc).map (fun d => d.parameters.length) = some 1 := by decide +kernel
theorem hd_L_isAddedSo : yL_isAddedSo.cls ≠ "java/lang/invoke/MethodHandle" ∧ yL_isAddedSo.cls ≠ "java/lang/invoke/VarHandle" ∧ (parseMethodDescriptor yL_isAddedSo.desc).map (fun d => d.parameters.length) = some 3 := by decide +kernel
theorem hd_L_areRodsSo : yL_areRodsSo.cls ≠ "java/lang/invoke/MethodHandle" ∧ yL_areRodsSo.cls ≠ "java/lang/invoke/VarHandle" ∧ (parseMethodDescriptor yL_areRodsSo.desc).map (fun d => d.parameters.length) = some 1 := by decide +kernel
theorem hd_L_cell : yL_cell.cls ≠ "java/lang/invoke/MethodHandle" ∧ yL_cell.cls ≠ "java/lang/invoke/VarHandle" ∧ (parseMethodDescriptor yL_cell.desc).map (fun d => d.parameters.length) = some 2 := by decide +kernel
theorem hd_L_does : yL_does.cls ≠ "java/lang/invoke/MethodHandle" ∧ yL_does.cls ≠ "java/lang/invoke/VarHandle" ∧ (parseMethodDescriptor yL_does.desc).map (fun d => d.parameters.length) = some 2 := by decide +kernel
set_option maxHeartbeats 4000000 in
set_option maxRecDepth 100000 in
theorem law_loop {p : Program} {l : Launch} {e : Env} {s : State} {m : MethodId} {below : List Frame} {meth : Method} {c : Code} {D : va_G} {cI cO : ClassId} {b L : Nat} {xs : Nat → Int32} {Q9 : State → Prop} (hL : L ≤ 260) (C : gC p s m (#[.ref b] : Array Value) c cL_law RL wsL_law D vwCl (tyA cI cO) (fun q9 => s.heap.size ≤ q9) s.heap 9) (hX : va_X b L xs s s.heap) (hbl : b < s.heap.size) {xa : Nat} {ta ha : Nat → Nat} {hb : Nat → Nat → Nat} {ad : Nat → Nat} {t : Nat → Int32} {n : Nat} (hn : n ≤ 60) (hend : (∀ (k n : Nat) (ws : va_W) (lv : List (Nat × Value)), k ≤ 600130 → n ≤ 7301079 → gG p l e room_1 s m (#[.ref b] : Array Value) below meth c D vwCl (fun q9 => s.heap.size ≤ q9) s.heap 9 Q9 k n ws 164 lv [])) : ∀ (f q : Nat), f + q = 60 → ∀ (G : Nat → Nat → Int32) (g : Nat → Int32) (o z : Nat) (ho : o < 6) (hz : z ≤ 6) (hI : Iv g), gG p l e room_1 s m (#[.ref b] : Array Value) below meth c D vwCl (fun q9 => s.heap.size ≤ q9) s.heap 9 Q9 54 501 ((wS0 xa ad ha ta) ++ ((wT ta cI t (nI n)) ++ ((wHs ha hb cI cO G (nI o) (nI z)) ++ (wB ad cI g)))) 10 [(0, .ref b), (1, .ref xa), (2, .int (nI q))] [] := by
  intro f
  induction f with
  | zero =>
    intro q hq60 G g o z ho hz hI
    obtain rfl : q = 60 := by omega
    refine g_iload_n C dL_law_10 2 rfl ?_
    refine g_bipush C (v := 60) dL_law_11 cb_60 ?_
    refine g_icmp_ge C (tgt := 164) dL_law_13 (by decide) (fun _ => ?_) (fun h13_1 => absurd (by decide) h13_1)
    exact hend _ _ _ _ (Nat.le_of_ble_eq_true rfl) (Nat.le_of_ble_eq_true rfl)
  | succ f ih =>
    intro q hq60 G g o z ho hz hI
    have hq : q < 60 := by omega
    have K158 : ∀ (g1 : Nat → Int32) (hI1 : Iv g1) (G3 : Nat → Nat → Int32) (o3 z3 : Nat) (ho3 : o3 < 6) (hz3 : z3 ≤ 6), gG p l e room_1 s m (#[.ref b] : Array Value) below meth c D vwCl (fun q9 => s.heap.size ≤ q9) s.heap 9 Q9 54 501 ((wS0 xa ad ha ta) ++ ((wT ta cI t (nI n)) ++ ((wHs ha hb cI cO G3 (nI o3) (nI z3)) ++ (wB ad cI g1)))) 158 [(0, .ref b), (1, .ref xa), (2, .int (nI q))] [] := by
      intro g1 hI1 G3 o3 z3 ho3 hz3
      refine g_iinc C (v := nI (q + 1)) (lv' := [(2, .int (nI (q + 1))), (0, .ref b), (1, .ref xa)]) dL_law_158 2 rfl (inc_nI _) (by decide) rfl ?_
      refine g_goto C (tgt := 10) dL_law_161 (by decide) ?_
      refine g_lv [1, 2, 0] (lv' := [(0, .ref b), (1, .ref xa), (2, .int (nI (q + 1)))]) rfl ?_
      exact ih (q + 1) (by omega) G3 g1 o3 z3 ho3 hz3 hI1
    have K136 : ∀ (v : Int32) (g1 : Nat → Int32) (hI1 : Iv g1) (G3 : Nat → Nat → Int32) (o3 z3 : Nat) (ho3 : o3 < 6) (hz3 : z3 ≤ 6), gG p l e room_1 s m (#[.ref b] : Array Value) below meth c D vwCl (fun q9 => s.heap.size ≤ q9) s.heap 9 Q9 54 501 ((wS0 xa ad ha ta) ++ ((wT ta cI t (nI n)) ++ ((wHs ha hb cI cO G3 (nI o3) (nI z3)) ++ (wB ad cI g1)))) 136 [(0, .ref b), (1, .ref xa), (2, .int (nI q)), (3, .int v)] [] := by
      intro v g1 hI1 G3 o3 z3 ho3 hz3
      refine g_iload_n C dL_law_136 2 rfl ?_
      refine g_iconst C (v := 5) dL_law_137 ci_5 ?_
      refine g_irem C (v := nI (q % 5)) dL_law_138 (by decide) (pk_rem (d := 5) (by omega) (by decide) (by decide)) ?_
      refine g_iconst C (v := 3) dL_law_139 ci_3 ?_
      refine g_icmp_ne C (tgt := 158) dL_law_140 (by decide) (fun h140_2 => ?_) (fun h140_2 => ?_)
      · refine g_lv [0, 1, 2] (lv' := [(0, .ref b), (1, .ref xa), (2, .int (nI q))]) rfl ?_
        exact K158 g1 hI1 _ _ _ ho3 hz3
      · refine g_aload_n C dL_law_143 1 rfl ?_
        refine g_iload_n C dL_law_144 3 rfl ?_
        refine g_ldc C (v := 1000000000) dL_law_145 fw_L_law_const97 ?_
        refine g_callSi C (c_L_low l D cI cO v 1000000000 (by decide) (by decide)) gL_law_L_low rfl ⟨rfl, rfl⟩ hd_L_low ⟨Nat.le_of_ble_eq_true rfl, Nat.le_of_ble_eq_true rfl⟩ [0, 1] rfl (fun _ _ => trivial) rfl (rest := [.ref xa]) rfl (Nat.le_of_ble_eq_true rfl) dL_law_147 ⟨Nat.le_of_ble_eq_true rfl, Nat.le_of_ble_eq_true rfl⟩ (pre := []) (post := ((wS0 xa ad ha ta) ++ ((wT ta cI t (nI n)) ++ ((wHs ha hb cI cO G3 (nI o3) (nI z3)) ++ (wB ad cI g1))))) (ws' := ((wS0 xa ad ha ta) ++ ((wT ta cI t (nI n)) ++ ((wHs ha hb cI cO G3 (nI o3) (nI z3)) ++ (wB ad cI g1))))) rfl rfl ?_
        refine g_callSi C (c_L_isShownSo l D cI cO xa ta ha hb ad t n G3 g1 o3 z3 hn ho3 hz3 hI1 ((lw v 1000000000)) (Nat.le_of_lt_succ (lw_lt (by decide)))) gL_law_L_isShownSo rfl ⟨rfl, rfl⟩ hd_L_isShownSo ⟨Nat.le_of_ble_eq_true rfl, Nat.le_of_ble_eq_true rfl⟩ [0, 1] rfl (fun _ _ => trivial) rfl (rest := []) rfl (Nat.le_of_ble_eq_true rfl) dL_law_150 ⟨Nat.le_of_ble_eq_true rfl, Nat.le_of_ble_eq_true rfl⟩ (pre := []) (post := []) (ws' := ((wS0 xa ad ha ta) ++ ((wT ta cI t (nI n)) ++ ((wHs ha hb cI cO G3 (nI o3) (nI z3)) ++ (wB ad cI g1))))) rfl rfl ?_
        refine g_if_ne C (tgt := 158) dL_law_153 (by decide) (fun _ => ?_) (fun h153_3 => absurd h153_3 (by decide))
        refine g_lv [0, 1, 2] (lv' := [(0, .ref b), (1, .ref xa), (2, .int (nI q))]) rfl ?_
        exact K158 g1 hI1 _ _ _ ho3 hz3
    have K122 : ∀ (v : Int32) (g1 : Nat → Int32) (hI1 : Iv g1) (G2 : Nat → Nat → Int32) (o2 z2 : Nat) (ho2 : o2 < 6) (hz2 : z2 ≤ 6), gG p l e room_1 s m (#[.ref b] : Array Value) below meth c D vwCl (fun q9 => s.heap.size ≤ q9) s.heap 9 Q9 54 501 ((wS0 xa ad ha ta) ++ ((wT ta cI t (nI n)) ++ ((wHs ha hb cI cO G2 (nI o2) (nI z2)) ++ (wB ad cI g1)))) 122 [(0, .ref b), (1, .ref xa), (2, .int (nI q)), (3, .int v)] [] := by
      intro v g1 hI1 G2 o2 z2 ho2 hz2
      refine g_iload_n C dL_law_122 2 rfl ?_
      refine g_iconst C (v := 3) dL_law_123 ci_3 ?_
      refine g_irem C (v := nI (q % 3)) dL_law_124 (by decide) (pk_rem (d := 3) (by omega) (by decide) (by decide)) ?_
      refine g_iconst C (v := 2) dL_law_125 ci_2 ?_
      refine g_icmp_ne C (tgt := 136) dL_law_126 (by decide) (fun h126_4 => ?_) (fun h126_4 => ?_)
      · exact K136 v g1 hI1 _ _ _ ho2 hz2
      · refine g_aload_n C dL_law_129 1 rfl ?_
        refine g_callSE C (c_L_arePaidSo l D cI cO xa ta ha hb ad t n G2 g1 o2 z2 hn ho2 hz2 hI1) gL_law_L_arePaidSo rfl ⟨rfl, rfl⟩ hd_L_arePaidSo ⟨Nat.le_of_ble_eq_true rfl, Nat.le_of_ble_eq_true rfl⟩ [0, 1] rfl (fun _ _ => trivial) rfl (rest := []) rfl (Nat.le_of_ble_eq_true rfl) dL_law_130 ⟨Nat.le_of_ble_eq_true rfl, Nat.le_of_ble_eq_true rfl⟩ (pre := []) (post := []) rfl ?_
        intro x9 w9 hw9
        obtain ⟨rfl, G3, o3, z3, ho3, hz3, rfl⟩ := hw9
        refine g_ws (ws' := ((wS0 xa ad ha ta) ++ ((wT ta cI t (nI n)) ++ ((wHs ha hb cI cO G3 (nI o3) (nI z3)) ++ (wB ad cI g1))))) rfl ?_
        refine g_if_eq C (tgt := 156) dL_law_133 (by decide) (fun h133_5 => absurd h133_5 (by decide)) (fun _ => ?_)
        exact K136 v g1 hI1 _ _ _ ho3 hz3
    have K74 : ∀ (v : Int32) (g1 : Nat → Int32) (hI1 : Iv g1) (G1 : Nat → Nat → Int32) (o1 z1 : Nat) (ho1 : o1 < 6) (hz1 : z1 ≤ 6), gG p l e room_1 s m (#[.ref b] : Array Value) below meth c D vwCl (fun q9 => s.heap.size ≤ q9) s.heap 9 Q9 54 501 ((wS0 xa ad ha ta) ++ ((wT ta cI t (nI n)) ++ ((wHs ha hb cI cO G1 (nI o1) (nI z1)) ++ (wB ad cI g1)))) 74 [(0, .ref b), (1, .ref xa), (2, .int (nI q)), (3, .int v)] [.int 1] := by
      intro v g1 hI1 G1 o1 z1 ho1 hz1
      refine g_istore C (lv' := [(8, .int 1), (0, .ref b), (1, .ref xa), (2, .int (nI q)), (3, .int v)]) dL_law_74 (by decide) rfl ?_
      refine g_iload C dL_law_76 0 rfl ?_
      refine g_if_eq C (tgt := 156) dL_law_78 (by decide) (fun h78_6 => absurd h78_6 (by decide)) (fun _ => ?_)
      refine g_aload_n C dL_law_81 2 rfl ?_
      refine g_iload_n C dL_law_82 4 rfl ?_
      refine g_iconst C (v := 5) dL_law_83 ci_5 ?_
      refine g_ishr C (v := v >>> (5 &&& 31)) dL_law_84 rfl ?_
      refine g_bipush C (v := 9) dL_law_85 cb_9 ?_
      refine g_callSi C (c_L_low l D cI cO (v >>> (5 &&& 31)) 9 (by decide) (by decide)) gL_law_L_low rfl ⟨rfl, rfl⟩ hd_L_low ⟨Nat.le_of_ble_eq_true rfl, Nat.le_of_ble_eq_true rfl⟩ [0, 1] rfl (fun _ _ => trivial) rfl (rest := [.ref xa]) rfl (Nat.le_of_ble_eq_true rfl) dL_law_87 ⟨Nat.le_of_ble_eq_true rfl, Nat.le_of_ble_eq_true rfl⟩ (pre := []) (post := ((wS0 xa ad ha ta) ++ ((wT ta cI t (nI n)) ++ ((wHs ha hb cI cO G1 (nI o1) (nI z1)) ++ (wB ad cI g1))))) (ws' := ((wS0 xa ad ha ta) ++ ((wT ta cI t (nI n)) ++ ((wHs ha hb cI cO G1 (nI o1) (nI z1)) ++ (wB ad cI g1))))) rfl rfl ?_
      refine g_iload_n C dL_law_90 4 rfl ?_
      refine g_bipush C (v := 8) dL_law_91 cb_8 ?_
      refine g_ishr C (v := v >>> (8 &&& 31)) dL_law_93 rfl ?_
      refine g_bipush C (v := 19) dL_law_94 cb_19 ?_
      refine g_callSi C (c_L_low l D cI cO (v >>> (8 &&& 31)) 19 (by decide) (by decide)) gL_law_L_low rfl ⟨rfl, rfl⟩ hd_L_low ⟨Nat.le_of_ble_eq_true rfl, Nat.le_of_ble_eq_true rfl⟩ [0, 1] rfl (fun _ _ => trivial) rfl (rest := [.int (nI (lw (v >>> (5 &&& 31)) 9)), .ref xa]) rfl (Nat.le_of_ble_eq_true rfl) dL_law_96 ⟨Nat.le_of_ble_eq_true rfl, Nat.le_of_ble_eq_true rfl⟩ (pre := []) (post := ((wS0 xa ad ha ta) ++ ((wT ta cI t (nI n)) ++ ((wHs ha hb cI cO G1 (nI o1) (nI z1)) ++ (wB ad cI g1))))) (ws' := ((wS0 xa ad ha ta) ++ ((wT ta cI t (nI n)) ++ ((wHs ha hb cI cO G1 (nI o1) (nI z1)) ++ (wB ad cI g1))))) rfl rfl ?_
      refine g_bipush C (v := 9) dL_law_99 cb_9 ?_
      refine g_isub C (v := (nI (lw (v >>> (8 &&& 31)) 19)) - 9) dL_law_101 rfl ?_
      refine g_callSE C (c_L_isAddedSo l D cI cO xa ta ha hb ad t n G1 g1 o1 z1 hn ho1 hz1 hI1 ((lw (v >>> (5 &&& 31)) 9)) (lw_lt (by decide)) (nI (lw (v >>> (8 &&& 31)) 19) - 9) (lw (v >>> (8 &&& 31)) 19) (Nat.le_of_lt_succ (lw_lt (by decide))) rfl) gL_law_L_isAddedSo rfl ⟨rfl, rfl⟩ hd_L_isAddedSo ⟨Nat.le_of_ble_eq_true rfl, Nat.le_of_ble_eq_true rfl⟩ [0, 1] rfl (fun _ _ => trivial) rfl (rest := []) rfl (Nat.le_of_ble_eq_true rfl) dL_law_102 ⟨Nat.le_of_ble_eq_true rfl, Nat.le_of_ble_eq_true rfl⟩ (pre := []) (post := []) rfl ?_
      intro x9 w9 hw9
      obtain ⟨rfl, G2, o2, z2, ho2, hz2, rfl⟩ := hw9
      refine g_ws (ws' := ((wS0 xa ad ha ta) ++ ((wT ta cI t (nI n)) ++ ((wHs ha hb cI cO G2 (nI o2) (nI z2)) ++ (wB ad cI g1))))) rfl ?_
      refine g_if_eq C (tgt := 156) dL_law_105 (by decide) (fun h105_7 => absurd h105_7 (by decide)) (fun _ => ?_)
      refine g_iload_n C dL_law_108 3 rfl ?_
      refine g_iconst C (v := 4) dL_law_109 ci_4 ?_
      refine g_irem C (v := nI (q % 4)) dL_law_110 (by decide) (pk_rem (d := 4) (by omega) (by decide) (by decide)) ?_
      refine g_iconst C (v := 1) dL_law_111 ci_1 ?_
      refine g_icmp_ne C (tgt := 122) dL_law_112 (by decide) (fun h112_8 => ?_) (fun h112_8 => ?_)
      · refine g_lv [1, 2, 3, 4] (lv' := [(0, .ref b), (1, .ref xa), (2, .int (nI q)), (3, .int v)]) rfl ?_
        exact K122 v g1 hI1 _ _ _ ho2 hz2
      · refine g_aload_n C dL_law_115 2 rfl ?_
        refine g_callSi C (c_L_areRodsSo l D cI cO xa ta ha hb ad t n G2 g1 o2 z2 hn ho2 hz2 hI1) gL_law_L_areRodsSo rfl ⟨rfl, rfl⟩ hd_L_areRodsSo ⟨Nat.le_of_ble_eq_true rfl, Nat.le_of_ble_eq_true rfl⟩ [0, 1] rfl (fun _ _ => trivial) rfl (rest := []) rfl (Nat.le_of_ble_eq_true rfl) dL_law_116 ⟨Nat.le_of_ble_eq_true rfl, Nat.le_of_ble_eq_true rfl⟩ (pre := []) (post := []) (ws' := ((wS0 xa ad ha ta) ++ ((wT ta cI t (nI n)) ++ ((wHs ha hb cI cO G2 (nI o2) (nI z2)) ++ (wB ad cI g1))))) rfl rfl ?_
        refine g_if_eq C (tgt := 156) dL_law_119 (by decide) (fun h119_9 => absurd h119_9 (by decide)) (fun _ => ?_)
        refine g_lv [1, 2, 3, 4] (lv' := [(0, .ref b), (1, .ref xa), (2, .int (nI q)), (3, .int v)]) rfl ?_
        exact K122 v g1 hI1 _ _ _ ho2 hz2
    refine g_iload_n C dL_law_10 2 rfl ?_
    refine g_bipush C (v := 60) dL_law_11 cb_60 ?_
    refine g_icmp_ge C (tgt := 164) dL_law_13 (by decide) (fun h13_10 => absurd h13_10 (nI_ge (b := 60) hq (by decide))) (fun _ => ?_)
    refine g_aload_n C dL_law_16 0 rfl ?_
    refine g_iload_n C dL_law_17 2 rfl ?_
    refine g_callSX C hX hbl (fun z9 => absurd hbl (Nat.not_lt.mpr z9)) (c_L_cell l D cI cO b L xs hL q (by omega)) gL_law_L_cell rfl ⟨rfl, rfl⟩ hd_L_cell ⟨Nat.le_of_ble_eq_true rfl, Nat.le_of_ble_eq_true rfl⟩ [0, 1] rfl rfl (rest := []) rfl (Nat.le_of_ble_eq_true rfl) dL_law_18 ⟨Nat.le_of_ble_eq_true rfl, Nat.le_of_ble_eq_true rfl⟩ ?_
    generalize xC xs L q = v
    refine g_istore_n C (lv' := [(3, .int v), (0, .ref b), (1, .ref xa), (2, .int (nI q))]) dL_law_21 rfl (by decide) rfl ?_
    refine g_iload_n C dL_law_22 0 rfl ?_
    refine g_bipush C (v := 15) dL_law_23 cb_15 ?_
    refine g_iand C (v := v &&& 15) dL_law_25 rfl ?_
    refine g_istore C (lv' := [(4, .int (v &&& 15)), (3, .int v), (0, .ref b), (1, .ref xa), (2, .int (nI q))]) dL_law_26 (by decide) rfl ?_
    refine g_aload_n C dL_law_28 3 rfl ?_
    refine g_callVl C (c_X3_whole l D cI cO xa ta ha hb ad t n G g o z hn ho hz) gL_law_X3_whole rfl ⟨rfl, rfl⟩ hd_X3_whole ⟨Nat.le_of_ble_eq_true rfl, Nat.le_of_ble_eq_true rfl⟩ [0, 1] rfl (fun _ _ => trivial) rfl (rest := []) rfl (Nat.le_of_ble_eq_true rfl) dL_law_29 ⟨Nat.le_of_ble_eq_true rfl, Nat.le_of_ble_eq_true rfl⟩ 0 rfl rfl rfl (pre := []) (post := []) (ws' := ((wS0 xa ad ha ta) ++ ((wT ta cI t (nI n)) ++ ((wHs ha hb cI cO G (nI o) (nI z)) ++ (wB ad cI g))))) rfl rfl ?_
    refine g_lstore C (lv' := [(5, .long ((xWs g 9).1)), (4, .int (v &&& 15)), (3, .int v), (0, .ref b), (1, .ref xa), (2, .int (nI q))]) dL_law_32 (by decide) rfl ?_
    refine g_aload_n C dL_law_34 4 rfl ?_
    refine g_iload_n C dL_law_35 2 rfl ?_
    refine g_callSE C (c_L_does l D cI cO xa ta ha hb ad t n G g o z hn ho hz hI v) gL_law_L_does rfl ⟨rfl, rfl⟩ hd_L_does ⟨Nat.le_of_ble_eq_true rfl, Nat.le_of_ble_eq_true rfl⟩ [0, 1] rfl (fun _ _ => trivial) rfl (rest := []) rfl (Nat.le_of_ble_eq_true rfl) dL_law_36 ⟨Nat.le_of_ble_eq_true rfl, Nat.le_of_ble_eq_true rfl⟩ (pre := []) (post := []) rfl ?_
    intro x9 w9 hw9
    obtain ⟨hx9, G1, o1, z1, g1, ho1, hz1, hI1, hk1, rfl⟩ := hw9
    refine g_ws (ws' := ((wS0 xa ad ha ta) ++ ((wT ta cI t (nI n)) ++ ((wHs ha hb cI cO G1 (nI o1) (nI z1)) ++ (wB ad cI g1))))) rfl ?_
    refine g_istore C (lv' := [(7, .int x9), (5, .long ((xWs g 9).1)), (4, .int (v &&& 15)), (3, .int v), (0, .ref b), (1, .ref xa), (2, .int (nI q))]) dL_law_39 (by decide) rfl ?_
    refine g_iload C dL_law_41 0 rfl ?_
    refine g_if_lt C (tgt := 73) dL_law_43 (by decide) (fun h43_11 => absurd h43_11 hx9) (fun _ => ?_)
    refine g_iload C dL_law_46 2 rfl ?_
    refine g_iconst C (v := 2) dL_law_48 ci_2 ?_
    refine g_icmp_lt C (tgt := 69) dL_law_49 (by decide) (fun h49_12 => ?_) (fun h49_12 => ?_)
    · refine g_iconst C (v := 1) dL_law_69 ci_1 ?_
      refine g_goto C (tgt := 74) dL_law_70 (by decide) ?_
      refine g_lv [4, 5, 6, 3] (lv' := [(0, .ref b), (1, .ref xa), (2, .int (nI q)), (3, .int v)]) rfl ?_
      exact K74 v g1 hI1 _ _ _ ho1 hz1
    · refine g_iload C dL_law_52 2 rfl ?_
      refine g_bipush C (v := 7) dL_law_54 cb_7 ?_
      refine g_icmp_gt C (tgt := 69) dL_law_56 (by decide) (fun h56_13 => ?_) (fun h56_13 => ?_)
      · refine g_iconst C (v := 1) dL_law_69 ci_1 ?_
        refine g_goto C (tgt := 74) dL_law_70 (by decide) ?_
        refine g_lv [4, 5, 6, 3] (lv' := [(0, .ref b), (1, .ref xa), (2, .int (nI q)), (3, .int v)]) rfl ?_
        exact K74 v g1 hI1 _ _ _ ho1 hz1
      · refine g_aload_n C dL_law_59 5 rfl ?_
        refine g_callVl C (c_X3_whole l D cI cO xa ta ha hb ad t n G1 g1 o1 z1 hn ho1 hz1) gL_law_X3_whole rfl ⟨rfl, rfl⟩ hd_X3_whole ⟨Nat.le_of_ble_eq_true rfl, Nat.le_of_ble_eq_true rfl⟩ [0, 1] rfl (fun _ _ => trivial) rfl (rest := []) rfl (Nat.le_of_ble_eq_true rfl) dL_law_60 ⟨Nat.le_of_ble_eq_true rfl, Nat.le_of_ble_eq_true rfl⟩ 0 rfl rfl rfl (pre := []) (post := []) (ws' := ((wS0 xa ad ha ta) ++ ((wT ta cI t (nI n)) ++ ((wHs ha hb cI cO G1 (nI o1) (nI z1)) ++ (wB ad cI g1))))) rfl rfl ?_
        refine g_lload C dL_law_63 1 rfl ?_
        refine g_lcmp C (v := lg_cmp ((xWs g1 9).1) ((xWs g 9).1)) dL_law_65 rfl ?_
        refine g_if_ne C (tgt := 73) dL_law_66 (by decide) (fun h66_14 => absurd (lgz (eWsame hI hI1 (hk1 h49_12 (Int32.not_lt.mp h56_13)))) h66_14) (fun _ => ?_)
        refine g_iconst C (v := 1) dL_law_69 ci_1 ?_
        refine g_goto C (tgt := 74) dL_law_70 (by decide) ?_
        refine g_lv [4, 5, 6, 3] (lv' := [(0, .ref b), (1, .ref xa), (2, .int (nI q)), (3, .int v)]) rfl ?_
        exact K74 v g1 hI1 _ _ _ ho1 hz1
theorem fw_L_law_clk15 : Cond.classLink RL 15 RX3 ∈ wsL_law := (List.mem_append_left _ (List.mem_append_left _ (List.mem_append_left _ (List.mem_append_left _ (List.mem_append_left _ (List.mem_append_left _ (List.mem_append_left _ (List.mem_append_left _ (List.mem_append_left _ (List.mem_of_getElem? (i := 0) rfl))))))))))
theorem fw_L_law_isbX3 : Cond.instantiable RX3 3 ∈ wsL_law := (List.mem_append_left _ (List.mem_append_left _ (List.mem_append_left _ (List.mem_append_left _ (List.mem_append_left _ (List.mem_append_left _ (List.mem_append_left _ (List.mem_append_left _ (List.mem_append_left _ (List.mem_of_getElem? (i := 1) rfl))))))))))
theorem fw_L_law_iniX3 : Cond.initialized RX3 ∈ wsL_law := (List.mem_append_left _ (List.mem_append_left _ (List.mem_append_left _ (List.mem_append_left _ (List.mem_append_left _ (List.mem_append_left _ (List.mem_append_left _ (List.mem_append_left _ (List.mem_append_left _ (List.mem_of_getElem? (i := 2) rfl))))))))))
theorem fw_L_law_mlX3 : Cond.methodLink RL 77 yX3_init ∈ wsL_law := (List.mem_append_left _ (List.mem_append_left _ (List.mem_append_left _ (List.mem_append_left _ (List.mem_append_left _ (List.mem_append_left _ (List.mem_append_left _ (List.mem_append_left _ (List.mem_append_left _ (List.mem_of_getElem? (i := 4) rfl))))))))))
theorem fw_L_law_imX3 : Cond.instanceMethod yX3_init ∈ wsL_law := (List.mem_append_left _ (List.mem_append_left _ (List.mem_append_left _ (List.mem_append_left _ (List.mem_append_left _ (List.mem_append_left _ (List.mem_append_left _ (List.mem_append_left _ (List.mem_append_left _ (List.mem_of_getElem? (i := 5) rfl))))))))))
theorem hd_X3_init : yX3_init.cls ≠ "java/lang/invoke/MethodHandle" ∧ yX3_init.cls ≠ "java/lang/invoke/VarHandle" ∧ (parseMethodDescriptor yX3_init.desc).map (fun d => d.parameters.length) = some 0 := by decide +kernel
set_option maxHeartbeats 4000000 in
set_option maxRecDepth 100000 in
theorem law_begin {p : Program} {l : Launch} {e : Env} {s : State} {m : MethodId} {below : List Frame} {meth : Method} {c : Code} {D : va_G} {cI cO : ClassId} {b L : Nat} {xs : Nat → Int32} {Q9 : State → Prop} (hL : L ≤ 260) (C : gC p s m (#[.ref b] : Array Value) c cL_law RL wsL_law D vwCl (tyA cI cO) (fun q9 => s.heap.size ≤ q9) s.heap 9) (hX : va_X b L xs s s.heap) (hbl : b < s.heap.size) (hA : aF s.vm) (hend : (∀ (k n : Nat) (ws : va_W) (lv : List (Nat × Value)), k ≤ 600130 → n ≤ 7301079 → gG p l e room_1 s m (#[.ref b] : Array Value) below meth c D vwCl (fun q9 => s.heap.size ≤ q9) s.heap 9 Q9 k n ws 164 lv [])) : gG p l e room_1 s m (#[.ref b] : Array Value) below meth c D vwCl (fun q9 => s.heap.size ≤ q9) s.heap 9 Q9 0 0 ([] : va_W) 0 [(0, .ref b)] [] := by
  refine g_new C inlX3 tyX3 tyX3_ok 3 rfl fw_L_law_clk15 fw_L_law_isbX3 fw_L_law_iniX3 (fs := [.null, .null, .null]) (by decide +kernel) ⟨Nat.le_of_ble_eq_true rfl, Nat.le_of_ble_eq_true rfl⟩ dL_law_0 ?_
  intro xa
  refine g_ws (ws' := ([(xa, .inr (3, [.null, .null, .null]))] : va_W)) rfl ?_
  refine g_dup C dL_law_3 rfl ?_
  refine g_callI C (c_X3_init l D cI cO xa) gL_law_X3_init rfl fw_L_law_iniX3 fw_L_law_mlX3 fw_L_law_imX3 rfl ⟨rfl, rfl⟩ hd_X3_init ⟨Nat.le_of_ble_eq_true rfl, Nat.le_of_ble_eq_true rfl⟩ [0, 1] rfl (aF_w hA) rfl (rest := [.ref xa]) rfl (Nat.le_of_ble_eq_true rfl) dL_law_4 ⟨Nat.le_of_ble_eq_true rfl, Nat.le_of_ble_eq_true rfl⟩ (pre := []) (post := []) rfl ?_
  intro w9 hw9
  obtain ⟨ta, ha, hb, ad, rfl⟩ := hw9
  refine g_ws (ws' := ((wS0 xa ad ha ta) ++ ((wT ta cI (fun _ => 0) (nI 0)) ++ ((wHs ha hb cI cO ((fun _ => g00)) (nI 0) (nI 0)) ++ (wB ad cI g00))))) rfl ?_
  refine g_astore_n C (lv' := [(1, .ref xa), (0, .ref b)]) dL_law_7 rfl (by decide) rfl ?_
  refine g_iconst C (v := 0) dL_law_8 ci_0 ?_
  refine g_istore_n C (lv' := [(2, .int 0), (1, .ref xa), (0, .ref b)]) dL_law_9 rfl (by decide) rfl ?_
  refine g_lv [2, 1, 0] (lv' := [(0, .ref b), (1, .ref xa), (2, .int 0)]) rfl ?_
  refine g_wid (k' := 54) (n' := 501) (by decide) (by decide) ?_
  exact law_loop hL C hX hbl (t := fun _ => 0) (n := 0) (by decide) hend 60 0 rfl (fun _ => g00) g00 0 0 (by decide) (by decide) g00_Iv
