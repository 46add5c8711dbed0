set_option maxHeartbeats 4000000 in
set_option maxRecDepth 100000 in
theorem law_loop {p : Program} {l : Launch} {e : Env} {s : State} {m : MethodId} {below : List Frame} {meth : Method} {c : Code} {D : va_G} {cI cO cJ : ClassId} {b L : Nat} {xs : Nat → Int32} {Q9 : State → Prop} (hl : l.stackTraces = false) (hL : L ≤ 2048) (C : gC p s m (#[.ref b] : Array Value) c cL_law RL wsL_law D vwCl (tyW cI cO cJ) (fun q9 => s.heap.size ≤ q9) s.heap 9) (hF : sF s.vm) (hZ : zF (fun q9 => s.heap.size ≤ q9) s s.heap) (hX : va_X b L xs s s.heap) (hbl : b < s.heap.size) {xa oa : Nat} {ta ha : Nat → Nat} {hb : Nat → Nat → Nat} {ad ma : Nat → Nat} (hend : (∀ (k n : Nat) (ws : va_W) (lv : List (Nat × Value)), k ≤ 621006 → n ≤ 7233085 → gG p l e room_1 s m (#[.ref b] : Array Value) below meth c D vwCl (fun q9 => s.heap.size ≤ q9) s.heap 9 Q9 k n ws 1119 lv [])) : ∀ (f q : Nat), f + q = 512 → ∀ (t : Nat → Int32) (n : Nat) (G : Nat → Nat → Int32) (g : Nat → Int32) (o z : Nat) (th : Int32) (a9 sv : Nat → Int32) (dg : Int64) (oj : Nat → Int64), LI t n G g o z sv → gG p l e room_1 s m (#[.ref b] : Array Value) below meth c D vwCl (fun q9 => s.heap.size ≤ q9) s.heap 9 Q9 (60 + q) (1010 + 6 * q) ((wS0 xa ad ha ta) ++ ((wT ta cI t (nI n)) ++ ((wHs ha hb cI cO G (nI o) (nI z)) ++ ((wB ad cI g) ++ ((wO oa cJ oj) ++ (wM ma cI th g a9 sv z t n dg)))))) 23 [(0, .ref b), (1, .ref xa), (2, .ref (ma 0)), (3, .ref oa), (4, .int (nI (4 * q)))] [] := by
  intro f
  induction f with
  | zero =>
    intro q hq512 t n G g o z th a9 sv dg oj hI
    refine g_iload C dL_law_23 4 rfl ?_
    refine g_aload_n C dL_law_25 0 rfl ?_
    refine g_slen C hX hbl (fun z9 => absurd hbl (Nat.not_lt.mpr z9)) dL_law_26 ?_
    refine g_iconst C (v := 4) dL_law_27 ci_4 ?_
    refine g_isub C (v := (nI L) - 4) dL_law_28 rfl ?_
    refine g_icmp_gt C (tgt := 1119) dL_law_29 (by decide) (fun _ => ?_) (fun h29_1 => absurd ((lHead hL (by omega)).mpr (by omega)) h29_1)
    exact hend _ _ _ _ (by omega) (by omega)
  | succ f ih =>
    intro q hq512 t n G g o z th a9 sv dg oj hI
    by_cases hq : 4 * q + 4 ≤ L
    · have hnext : (∀ (t : Nat → Int32) (n : Nat) (G : Nat → Nat → Int32) (g : Nat → Int32) (o z : Nat) (th : Int32) (a9 sv : Nat → Int32) (dg : Int64) (oj : Nat → Int64), LI t n G g o z sv → gG p l e room_1 s m (#[.ref b] : Array Value) below meth c D vwCl (fun q9 => s.heap.size ≤ q9) s.heap 9 Q9 (60 + (q + 1)) (1010 + 6 * (q + 1)) ((wS0 xa ad ha ta) ++ ((wT ta cI t (nI n)) ++ ((wHs ha hb cI cO G (nI o) (nI z)) ++ ((wB ad cI g) ++ ((wO oa cJ oj) ++ (wM ma cI th g a9 sv z t n dg)))))) 1113 [(0, .ref b), (1, .ref xa), (2, .ref (ma 0)), (3, .ref oa), (4, .int (nI (4 * q)))] []) := by
        intro t n G g o z th a9 sv dg oj hI
        refine g_iinc C (v := nI (4 * (q + 1))) (lv' := [(4, .int (nI (4 * (q + 1)))), (0, .ref b), (1, .ref xa), (2, .ref (ma 0)), (3, .ref oa)]) dL_law_1113 4 rfl (by rw [show Int32.ofInt 4 = nI 4 from rfl, nI_add]; rfl) (by decide) rfl ?_
        refine g_goto C (tgt := 23) dL_law_1116 (by decide) ?_
        refine g_lv [1, 2, 3, 4, 0] (lv' := [(0, .ref b), (1, .ref xa), (2, .ref (ma 0)), (3, .ref oa), (4, .int (nI (4 * (q + 1))))]) rfl ?_
        exact ih (q + 1) (by omega) t n G g o z th a9 sv dg oj hI
      obtain ⟨x9, e0⟩ : ∃ x9, xs (4 * q) = x9 := ⟨_, rfl⟩
      obtain ⟨j9, hj9, ej9⟩ := pk_andE x9 (m := 31) 5 rfl
      refine g_iload C dL_law_23 4 rfl ?_
      refine g_aload_n C dL_law_25 0 rfl ?_
      refine g_slen C hX hbl (fun z9 => absurd hbl (Nat.not_lt.mpr z9)) dL_law_26 ?_
      refine g_iconst C (v := 4) dL_law_27 ci_4 ?_
      refine g_isub C (v := (nI L) - 4) dL_law_28 rfl ?_
      refine g_icmp_gt C (tgt := 1119) dL_law_29 (by decide) (fun h29_1 => absurd h29_1 (fun z9 => absurd ((lHead hL (by omega)).mp z9) (by omega))) (fun _ => ?_)
      refine g_aload_n C dL_law_32 0 rfl ?_
      refine g_iload C dL_law_33 4 rfl ?_
      refine g_sld C (x := x9) hX hbl (fun z9 => absurd hbl (Nat.not_lt.mpr z9)) (by omega) (4 * q) rfl (by omega) e0 dL_law_35 ?_
      refine g_bipush C (v := 31) dL_law_36 cb_31 ?_
      refine g_iand C (v := nI j9) dL_law_38 ej9 ?_
      rcases (show j9 = 0 ∨ j9 = 1 ∨ j9 = 2 ∨ j9 = 3 ∨ j9 = 4 ∨ j9 = 5 ∨ j9 = 6 ∨ j9 = 7 ∨ j9 = 8 ∨ j9 = 9 ∨ j9 = 10 ∨ j9 = 11 ∨ j9 = 12 ∨ j9 = 13 ∨ j9 = 14 ∨ j9 = 15 ∨ j9 = 16 ∨ j9 = 17 ∨ j9 = 18 ∨ j9 = 19 ∨ j9 = 20 ∨ j9 = 21 ∨ j9 = 22 ∨ j9 = 23 ∨ j9 = 24 ∨ j9 = 25 ∨ j9 = 26 ∨ j9 = 27 ∨ j9 = 28 ∨ j9 = 29 ∨ j9 = 30 ∨ j9 = 31 by omega) with e | e | e | e | e | e | e | e | e | e | e | e | e | e | e | e | e | e | e | e | e | e | e | e | e | e | e | e | e | e | e | e <;> subst e
      · refine g_tableIn C (tgt := 136) dL_law_39 (by decide) (by decide) rfl (by decide) ?_
        exact law_move hl hL C hF hZ hX hbl q hq t n G g o z th a9 sv dg oj hI hnext
      · refine g_tableIn C (tgt := 216) dL_law_39 (by decide) (by decide) rfl (by decide) ?_
        exact law_stick hl hL C hF hZ hX hbl q hq t n G g o z th a9 sv dg oj hI hnext
      · refine g_tableIn C (tgt := 284) dL_law_39 (by decide) (by decide) rfl (by decide) ?_
        exact law_set hl hL C hF hZ hX hbl q hq t n G g o z th a9 sv dg oj hI hnext
      · refine g_tableIn C (tgt := 340) dL_law_39 (by decide) (by decide) rfl (by decide) ?_
        exact law_add hl hL C hF hZ hX hbl q hq t n G g o z th a9 sv dg oj hI hnext
      · refine g_tableIn C (tgt := 408) dL_law_39 (by decide) (by decide) rfl (by decide) ?_
        exact law_less hl hL C hF hZ hX hbl q hq t n G g o z th a9 sv dg oj hI hnext
      · refine g_tableIn C (tgt := 476) dL_law_39 (by decide) (by decide) rfl (by decide) ?_
        exact law_pay hl hL C hF hZ hX hbl q hq t n G g o z th a9 sv dg oj hI hnext
      · refine g_tableIn C (tgt := 532) dL_law_39 (by decide) (by decide) rfl (by decide) ?_
        exact law_tidy hl hL C hF hZ hX hbl q hq t n G g o z th a9 sv dg oj hI hnext
      · refine g_tableIn C (tgt := 545) dL_law_39 (by decide) (by decide) rfl (by decide) ?_
        exact law_append hl hL C hF hZ hX hbl q hq t n G g o z th a9 sv dg oj hI hnext
      · refine g_tableIn C (tgt := 601) dL_law_39 (by decide) (by decide) rfl (by decide) ?_
        exact law_clearBuffer hl hL C hF hZ hX hbl q hq t n G g o z th a9 sv dg oj hI hnext
      · refine g_tableIn C (tgt := 614) dL_law_39 (by decide) (by decide) rfl (by decide) ?_
        exact law_firstError hl hL C hF hZ hX hbl q hq t n G g o z th a9 sv dg oj hI hnext
      · refine g_tableIn C (tgt := 627) dL_law_39 (by decide) (by decide) rfl (by decide) ?_
        exact law_reckon hl hL C hF hZ hX hbl q hq t n G g o z th a9 sv dg oj hI hnext
      · refine g_tableIn C (tgt := 671) dL_law_39 (by decide) (by decide) rfl (by decide) ?_
        exact law_undo hl hL C hF hZ hX hbl q hq t n G g o z th a9 sv dg oj hI hnext
      · refine g_tableIn C (tgt := 715) dL_law_39 (by decide) (by decide) rfl (by decide) ?_
        exact law_rod hl hL C hF hZ hX hbl q hq t n G g o z th a9 sv dg oj hI hnext
      · refine g_tableIn C (tgt := 783) dL_law_39 (by decide) (by decide) rfl (by decide) ?_
        exact law_whole hl hL C hF hZ hX hbl q hq t n G g o z th a9 sv dg oj hI hnext
      · refine g_tableIn C (tgt := 797) dL_law_39 (by decide) (by decide) rfl (by decide) ?_
        exact law_count hl hL C hF hZ hX hbl q hq t n G g o z th a9 sv dg oj hI hnext
      · refine g_tableIn C (tgt := 853) dL_law_39 (by decide) (by decide) rfl (by decide) ?_
        exact law_moves hl hL C hF hZ hX hbl q hq t n G g o z th a9 sv dg oj hI hnext
      · refine g_tableIn C (tgt := 921) dL_law_39 (by decide) (by decide) rfl (by decide) ?_
        exact law_ifAdded hl hL C hF hZ hX hbl q hq t n G g o z th a9 sv dg oj hI hnext
      · refine g_tableIn C (tgt := 989) dL_law_39 (by decide) (by decide) rfl (by decide) ?_
        exact law_toShow hl hL C hF hZ hX hbl q hq t n G g o z th a9 sv dg oj hI hnext
      · refine g_tableIn C (tgt := 1045) dL_law_39 (by decide) (by decide) rfl (by decide) ?_
        exact law_cheapestLoan hl hL C hF hZ hX hbl q hq t n G g o z th a9 sv dg oj hI hnext
      · refine g_tableIn C (tgt := 1058) dL_law_39 (by decide) (by decide) rfl (by decide) ?_
        exact law_looseness hl hL C hF hZ hX hbl q hq t n G g o z th a9 sv dg oj hI hnext
      · refine g_tableIn C (tgt := 1099) dL_law_39 (by decide) (by decide) rfl (by decide) ?_
        exact law_digest hl hL C hF hZ hX hbl q hq t n G g o z th a9 sv dg oj hI hnext
      · refine g_tableOut C (tgt := 1113) dL_law_39 (by decide) (by decide) ?_
        exact g_wid (k' := 60 + (q + 1)) (n' := 1010 + 6 * (q + 1)) (by omega) (by omega) (hnext t n G g o z th a9 sv dg oj hI)
      · refine g_tableOut C (tgt := 1113) dL_law_39 (by decide) (by decide) ?_
        exact g_wid (k' := 60 + (q + 1)) (n' := 1010 + 6 * (q + 1)) (by omega) (by omega) (hnext t n G g o z th a9 sv dg oj hI)
      · refine g_tableOut C (tgt := 1113) dL_law_39 (by decide) (by decide) ?_
        exact g_wid (k' := 60 + (q + 1)) (n' := 1010 + 6 * (q + 1)) (by omega) (by omega) (hnext t n G g o z th a9 sv dg oj hI)
      · refine g_tableOut C (tgt := 1113) dL_law_39 (by decide) (by decide) ?_
        exact g_wid (k' := 60 + (q + 1)) (n' := 1010 + 6 * (q + 1)) (by omega) (by omega) (hnext t n G g o z th a9 sv dg oj hI)
      · refine g_tableOut C (tgt := 1113) dL_law_39 (by decide) (by decide) ?_
        exact g_wid (k' := 60 + (q + 1)) (n' := 1010 + 6 * (q + 1)) (by omega) (by omega) (hnext t n G g o z th a9 sv dg oj hI)
      · refine g_tableOut C (tgt := 1113) dL_law_39 (by decide) (by decide) ?_
        exact g_wid (k' := 60 + (q + 1)) (n' := 1010 + 6 * (q + 1)) (by omega) (by omega) (hnext t n G g o z th a9 sv dg oj hI)
      · refine g_tableOut C (tgt := 1113) dL_law_39 (by decide) (by decide) ?_
        exact g_wid (k' := 60 + (q + 1)) (n' := 1010 + 6 * (q + 1)) (by omega) (by omega) (hnext t n G g o z th a9 sv dg oj hI)
      · refine g_tableOut C (tgt := 1113) dL_law_39 (by decide) (by decide) ?_
        exact g_wid (k' := 60 + (q + 1)) (n' := 1010 + 6 * (q + 1)) (by omega) (by omega) (hnext t n G g o z th a9 sv dg oj hI)
      · refine g_tableOut C (tgt := 1113) dL_law_39 (by decide) (by decide) ?_
        exact g_wid (k' := 60 + (q + 1)) (n' := 1010 + 6 * (q + 1)) (by omega) (by omega) (hnext t n G g o z th a9 sv dg oj hI)
      · refine g_tableOut C (tgt := 1113) dL_law_39 (by decide) (by decide) ?_
        exact g_wid (k' := 60 + (q + 1)) (n' := 1010 + 6 * (q + 1)) (by omega) (by omega) (hnext t n G g o z th a9 sv dg oj hI)
      · refine g_tableOut C (tgt := 1113) dL_law_39 (by decide) (by decide) ?_
        exact g_wid (k' := 60 + (q + 1)) (n' := 1010 + 6 * (q + 1)) (by omega) (by omega) (hnext t n G g o z th a9 sv dg oj hI)
    · refine g_iload C dL_law_23 4 rfl ?_
      refine g_aload_n C dL_law_25 0 rfl ?_
      refine g_slen C hX hbl (fun z9 => absurd hbl (Nat.not_lt.mpr z9)) dL_law_26 ?_
      refine g_iconst C (v := 4) dL_law_27 ci_4 ?_
      refine g_isub C (v := (nI L) - 4) dL_law_28 rfl ?_
      refine g_icmp_gt C (tgt := 1119) dL_law_29 (by decide) (fun _ => ?_) (fun h29_1 => absurd ((lHead hL (by omega)).mpr (by omega)) h29_1)
      exact hend _ _ _ _ (by omega) (by omega)
theorem fw_L_law_clk8 : Cond.classLink RL 8 RX3 ∈ wsL_law := (List.mem_append_left _ (List.mem_append_left _ (List.mem_append_left _ (List.mem_append_left _ (List.mem_append_left _ (List.mem_append_left _ (List.mem_append_left _ (List.mem_append_left _ (List.mem_append_left _ (List.mem_append_left _ (List.mem_of_getElem? (i := 0) rfl)))))))))))
theorem fw_L_law_isbX3 : Cond.instantiable RX3 3 ∈ wsL_law := (List.mem_append_left _ (List.mem_append_left _ (List.mem_append_left _ (List.mem_append_left _ (List.mem_append_left _ (List.mem_append_left _ (List.mem_append_left _ (List.mem_append_left _ (List.mem_append_left _ (List.mem_append_left _ (List.mem_of_getElem? (i := 1) rfl)))))))))))
theorem fw_L_law_iniX3 : Cond.initialized RX3 ∈ wsL_law := (List.mem_append_left _ (List.mem_append_left _ (List.mem_append_left _ (List.mem_append_left _ (List.mem_append_left _ (List.mem_append_left _ (List.mem_append_left _ (List.mem_append_left _ (List.mem_append_left _ (List.mem_append_left _ (List.mem_of_getElem? (i := 2) rfl)))))))))))
theorem fw_L_law_mlX3 : Cond.methodLink RL 61 yX3_init ∈ wsL_law := (List.mem_append_left _ (List.mem_append_left _ (List.mem_append_left _ (List.mem_append_left _ (List.mem_append_left _ (List.mem_append_left _ (List.mem_append_left _ (List.mem_append_left _ (List.mem_append_left _ (List.mem_append_left _ (List.mem_of_getElem? (i := 7) rfl)))))))))))
theorem fw_L_law_imX3 : Cond.instanceMethod yX3_init ∈ wsL_law := (List.mem_append_left _ (List.mem_append_left _ (List.mem_append_left _ (List.mem_append_left _ (List.mem_append_left _ (List.mem_append_left _ (List.mem_append_left _ (List.mem_append_left _ (List.mem_append_left _ (List.mem_append_left _ (List.mem_of_getElem? (i := 8) rfl)))))))))))
theorem hd_X3_init : yX3_init.cls ≠ "java/lang/invoke/MethodHandle" ∧ yX3_init.cls ≠ "java/lang/invoke/VarHandle" ∧ (parseMethodDescriptor yX3_init.desc).map (fun d => d.parameters.length) = some 0 := by decide +kernel
theorem fw_L_law_clk62 : Cond.classLink RL 62 RX4 ∈ wsL_law := (List.mem_append_left _ (List.mem_append_left _ (List.mem_append_left _ (List.mem_append_left _ (List.mem_append_left _ (List.mem_append_left _ (List.mem_append_left _ (List.mem_append_left _ (List.mem_append_left _ (List.mem_append_left _ (List.mem_of_getElem? (i := 3) rfl)))))))))))
theorem fw_L_law_isbX4 : Cond.instantiable RX4 8 ∈ wsL_law := (List.mem_append_left _ (List.mem_append_left _ (List.mem_append_left _ (List.mem_append_left _ (List.mem_append_left _ (List.mem_append_left _ (List.mem_append_left _ (List.mem_append_left _ (List.mem_append_left _ (List.mem_append_left _ (List.mem_of_getElem? (i := 4) rfl)))))))))))
theorem fw_L_law_iniX4 : Cond.initialized RX4 ∈ wsL_law := (List.mem_append_left _ (List.mem_append_left _ (List.mem_append_left _ (List.mem_append_left _ (List.mem_append_left _ (List.mem_append_left _ (List.mem_append_left _ (List.mem_append_left _ (List.mem_append_left _ (List.mem_append_left _ (List.mem_of_getElem? (i := 5) rfl)))))))))))
theorem fw_L_law_mlX4 : Cond.methodLink RL 64 yX4_init ∈ wsL_law := (List.mem_append_left _ (List.mem_append_left _ (List.mem_append_left _ (List.mem_append_left _ (List.mem_append_left _ (List.mem_append_left _ (List.mem_append_left _ (List.mem_append_left _ (List.mem_append_left _ (List.mem_append_right _ (List.mem_append_right _ (List.mem_append_left _ (List.mem_of_getElem? (i := 4) rfl)))))))))))))
theorem fw_L_law_imX4 : Cond.instanceMethod yX4_init ∈ wsL_law := (List.mem_append_left _ (List.mem_append_left _ (List.mem_append_left _ (List.mem_append_left _ (List.mem_append_left _ (List.mem_append_left _ (List.mem_append_left _ (List.mem_append_left _ (List.mem_append_left _ (List.mem_append_right _ (List.mem_append_right _ (List.mem_append_left _ (List.mem_of_getElem? (i := 5) rfl)))))))))))))
theorem hd_X4_init : yX4_init.cls ≠ "java/lang/invoke/MethodHandle" ∧ yX4_init.cls ≠ "java/lang/invoke/VarHandle" ∧ (parseMethodDescriptor yX4_init.desc).map (fun d => d.parameters.length) = some 0 := by decide +kernel
theorem fw_L_law_acl : Cond.arrayClass .long ∈ wsL_law := (List.mem_append_left _ (List.mem_append_left _ (List.mem_append_left _ (List.mem_append_left _ (List.mem_append_left _ (List.mem_append_left _ (List.mem_append_left _ (List.mem_append_left _ (List.mem_append_left _ (List.mem_append_left _ (List.mem_of_getElem? (i := 6) rfl)))))))))))
set_option maxHeartbeats 4000000 in
set_option maxRecDepth 100000 in
theorem law_begin {p : Program} {l : Launch} {e : Env} {s : State} {m : MethodId} {below : List Frame} {meth : Method} {c : Code} {D : va_G} {cI cO cJ : ClassId} {b L : Nat} {xs : Nat → Int32} {Q9 : State → Prop} (hl : l.stackTraces = false) (hL : L ≤ 2048) (C : gC p s m (#[.ref b] : Array Value) c cL_law RL wsL_law D vwCl (tyW cI cO cJ) (fun q9 => s.heap.size ≤ q9) s.heap 9) (hF : sF s.vm) (hZ : zF (fun q9 => s.heap.size ≤ q9) s s.heap) (hX : va_X b L xs s s.heap) (hbl : b < s.heap.size)  (hA : aF s.vm) (hend : (∀ (k n : Nat) (ws : va_W) (lv : List (Nat × Value)), k ≤ 621006 → n ≤ 7233085 → gG p l e room_1 s m (#[.ref b] : Array Value) below meth c D vwCl (fun q9 => s.heap.size ≤ q9) s.heap 9 Q9 k n ws 1119 lv [])) : gG p l e room_1 s m (#[.ref b] : Array Value) below meth c D vwCl (fun q9 => s.heap.size ≤ q9) s.heap 9 Q9 0 0 ([] : va_W) 0 [(0, .ref b)] [] := by
  refine g_new C inlX3 tyX3 tyX3_ok 3 rfl fw_L_law_clk8 fw_L_law_isbX3 fw_L_law_iniX3 (fs := [.null, .null, .null]) (by decide +kernel) ⟨Nat.le_of_ble_eq_true rfl, Nat.le_of_ble_eq_true rfl⟩ dL_law_0 ?_
  intro xa
  refine g_ws (ws' := ([(xa, .inr (3, [.null, .null, .null]))] : va_W)) rfl ?_
  refine g_dup C dL_law_3 rfl ?_
  refine g_callI C (c_X3_init l D cI cO xa) gL_law_X3_init rfl fw_L_law_iniX3 fw_L_law_mlX3 fw_L_law_imX3 rfl ⟨rfl, rfl⟩ hd_X3_init ⟨Nat.le_of_ble_eq_true rfl, Nat.le_of_ble_eq_true rfl⟩ [0, 1] rfl (aF_w hA) rfl (rest := [.ref xa]) rfl (Nat.le_of_ble_eq_true rfl) dL_law_4 ⟨Nat.le_of_ble_eq_true rfl, Nat.le_of_ble_eq_true rfl⟩ (pre := []) (post := []) rfl ?_
  intro w9 hw9
  obtain ⟨ta, ha, hb, ad, rfl⟩ := hw9
  refine g_ws (ws' := ((wS0 xa ad ha ta) ++ ((wT ta cI (fun _ => 0) (nI 0)) ++ ((wHs ha hb cI cO ((fun _ => g00)) (nI 0) (nI 0)) ++ (wB ad cI g00))))) rfl ?_
  refine g_astore_n C (lv' := [(1, .ref xa), (0, .ref b)]) dL_law_7 rfl (by decide) rfl ?_
  refine g_new C inlX4 tyX4 tyX4_ok 4 rfl fw_L_law_clk62 fw_L_law_isbX4 fw_L_law_iniX4 (fs := [.int 0, .null, .null, .null, .int 0, .null, .int 0, .long 0]) (by decide +kernel) ⟨Nat.le_of_ble_eq_true rfl, Nat.le_of_ble_eq_true rfl⟩ dL_law_8 ?_
  intro m0
  refine g_ws (ws' := ((wS0 xa ad ha ta) ++ ((wT ta cI (fun _ => 0) (nI 0)) ++ ((wHs ha hb cI cO ((fun _ => g00)) (nI 0) (nI 0)) ++ ((wB ad cI g00) ++ ([(m0, .inr (4, [.int 0, .null, .null, .null, .int 0, .null, .int 0, .long 0]))] : va_W)))))) rfl ?_
  refine g_dup C dL_law_11 rfl ?_
  refine g_callI C (c_X4_init l D cI cO m0) gL_law_X4_init rfl fw_L_law_iniX4 fw_L_law_mlX4 fw_L_law_imX4 rfl ⟨rfl, rfl⟩ hd_X4_init ⟨Nat.le_of_ble_eq_true rfl, Nat.le_of_ble_eq_true rfl⟩ [0, 1] rfl (fun _ _ => trivial) rfl (rest := [.ref m0]) rfl (Nat.le_of_ble_eq_true rfl) dL_law_12 ⟨Nat.le_of_ble_eq_true rfl, Nat.le_of_ble_eq_true rfl⟩ (pre := ((wS0 xa ad ha ta) ++ ((wT ta cI (fun _ => 0) (nI 0)) ++ ((wHs ha hb cI cO ((fun _ => g00)) (nI 0) (nI 0)) ++ (wB ad cI g00))))) (post := []) rfl ?_
  intro w9 hw9
  obtain ⟨ma, rfl, rfl⟩ := hw9
  refine g_ws (ws' := ((wS0 xa ad ha ta) ++ ((wT ta cI (fun _ => 0) (nI 0)) ++ ((wHs ha hb cI cO ((fun _ => g00)) (nI 0) (nI 0)) ++ ((wB ad cI g00) ++ (wM ma cI 0 g00 (fun _ => 0) (fun _ => 0) 0 (fun _ => 0) 0 0)))))) rfl ?_
  refine g_astore_n C (lv' := [(2, .ref (ma 0)), (1, .ref xa), (0, .ref b)]) dL_law_15 rfl (by decide) rfl ?_
  refine g_iconst C (v := 1) dL_law_16 ci_1 ?_
  refine g_newaL C 2 rfl fw_L_law_acl 1 rfl (by decide) ⟨Nat.le_of_ble_eq_true rfl, Nat.le_of_ble_eq_true rfl⟩ dL_law_17 ?_
  intro oa
  refine g_ws (ws' := ((wS0 xa ad ha ta) ++ ((wT ta cI (fun _ => 0) (nI 0)) ++ ((wHs ha hb cI cO ((fun _ => g00)) (nI 0) (nI 0)) ++ ((wB ad cI g00) ++ ((wM ma cI 0 g00 (fun _ => 0) (fun _ => 0) 0 (fun _ => 0) 0 0) ++ (wO oa cJ (fun _ => 0)))))))) rfl ?_
  refine g_astore_n C (lv' := [(3, .ref oa), (2, .ref (ma 0)), (1, .ref xa), (0, .ref b)]) dL_law_19 rfl (by decide) rfl ?_
  refine g_iconst C (v := 0) dL_law_20 ci_0 ?_
  refine g_istore C (lv' := [(4, .int 0), (3, .ref oa), (2, .ref (ma 0)), (1, .ref xa), (0, .ref b)]) dL_law_21 (by decide) rfl ?_
  refine g_perm [0, 1, 2, 3, 4, 5, 6, 7, 8, 9, 10, 11, 12, 13, 14, 15, 16, 17, 18, 19, 20, 21, 22, 23, 24, 25, 26, 27, 28, 29, 30, 31, 32, 33, 34, 35, 36, 37, 38, 39, 40, 41, 42, 43, 44, 45, 46, 47, 48, 49, 50, 51, 52, 53, 59, 54, 55, 56, 57, 58] (ws' := ((wS0 xa ad ha ta) ++ ((wT ta cI (fun _ => 0) (nI 0)) ++ ((wHs ha hb cI cO ((fun _ => g00)) (nI 0) (nI 0)) ++ ((wB ad cI g00) ++ ((wO oa cJ (fun _ => 0)) ++ (wM ma cI 0 g00 (fun _ => 0) (fun _ => 0) 0 (fun _ => 0) 0 0))))))) rfl rfl rfl ?_
  refine g_lv [4, 3, 2, 1, 0] (lv' := [(0, .ref b), (1, .ref xa), (2, .ref (ma 0)), (3, .ref oa), (4, .int 0)]) rfl ?_
  refine g_wid (k' := 60 + 0) (n' := 1010 + 6 * 0) (by decide) (by decide) ?_
  exact law_loop hl hL C hF hZ hX hbl hend 512 0 rfl (fun _ => 0) 0 (fun _ => g00) g00 0 0 0 (fun _ => 0) (fun _ => 0) 0 (fun _ => 0) LI_0
