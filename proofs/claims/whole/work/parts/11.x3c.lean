abbrev rmTX3_rod_1 : Room := { frames := 7, cells := 1, slots := 6, locals := 102 }
set_option maxHeartbeats 1000000 in
set_option maxRecDepth 100000 in
theorem t_X3_rod_1 (l : Launch) (hl : l.stackTraces = false) (D : va_G) (cI cO : ClassId) (xa : Nat) (ta ha : Nat → Nat) (hb : Nat → Nat → Nat) (ad : Nat → Nat) (t : Nat → Int32) (n : Nat) (G : Nat → Nat → Int32) (g : Nat → Int32) (o z : Nat) (hn : n ≤ 60) (ho : o < 6) (hz : z ≤ 6) (v w9 : Int32) (h : v < 0 ∨ ¬ v < 9) : cT sF l yX3_rod wsX3_rod rmTX3_rod_1 D vwCl (tyA cI cO) [.ref xa, .int v, .int w9] ((wS0 xa ad ha ta) ++ ((wT ta cI t (nI n)) ++ ((wHs ha hb cI cO G (nI o) (nI z)) ++ (wB ad cI g)))) xIob := by
  refine cT_of (cc := cX3_rod) (maxL := 3) (ret := (some .int)) (by decide) rfl (Nat.le_of_ble_eq_true rfl) ?_
  intro p e s m below meth c A C hlk hF hne hZ
  refine g_lv [0, 1, 2] (lv' := [(0, .ref xa), (1, .int v), (2, .int w9)]) rfl ?_
  refine g_iload_n C dX3_rod_0 1 rfl ?_
  refine g_callST C hZ (t_X3_checkRod l hl D cI cO v h) gX3_rod_X3_checkRod rfl ⟨rfl, rfl⟩ hd_X3_checkRod ⟨Nat.le_of_ble_eq_true rfl, Nat.le_of_ble_eq_true rfl⟩ [0, 1] rfl (sF_w hF) rfl (rest := []) rfl (Nat.le_of_ble_eq_true rfl) dX3_rod_1 ⟨Nat.le_of_ble_eq_true rfl, Nat.le_of_ble_eq_true rfl⟩ (pre := []) (post := ((wS0 xa ad ha ta) ++ ((wT ta cI t (nI n)) ++ ((wHs ha hb cI cO G (nI o) (nI z)) ++ (wB ad cI g))))) rfl ?_
  exact g_out C hne hlk (Nat.le_refl _) (Nat.le_refl _)
abbrev rmTX3_rod_2 : Room := { frames := 7, cells := 1, slots := 6, locals := 104 }
set_option maxHeartbeats 1000000 in
set_option maxRecDepth 100000 in
theorem t_X3_rod_2 (l : Launch) (hl : l.stackTraces = false) (D : va_G) (cI cO : ClassId) (xa : Nat) (ta ha : Nat → Nat) (hb : Nat → Nat → Nat) (ad : Nat → Nat) (t : Nat → Int32) (n : Nat) (G : Nat → Nat → Int32) (g : Nat → Int32) (o z : Nat) (hn : n ≤ 60) (ho : o < 6) (hz : z ≤ 6) (r : Nat) (hr : r < 9) (w9 : Int32) (h : w9 < 0 ∨ ¬ w9 ≤ 7) : cT sF l yX3_rod wsX3_rod rmTX3_rod_2 D vwCl (tyA cI cO) [.ref xa, .int (nI r), .int w9] ((wS0 xa ad ha ta) ++ ((wT ta cI t (nI n)) ++ ((wHs ha hb cI cO G (nI o) (nI z)) ++ (wB ad cI g)))) xIae := by
  refine cT_of (cc := cX3_rod) (maxL := 3) (ret := (some .int)) (by decide) rfl (Nat.le_of_ble_eq_true rfl) ?_
  intro p e s m below meth c A C hlk hF hne hZ
  refine g_lv [0, 1, 2] (lv' := [(0, .ref xa), (1, .int (nI r)), (2, .int w9)]) rfl ?_
  refine g_iload_n C dX3_rod_0 1 rfl ?_
  refine g_callSv C (c_X3_checkRod l D cI cO r hr) gX3_rod_X3_checkRod rfl ⟨rfl, rfl⟩ hd_X3_checkRod ⟨Nat.le_of_ble_eq_true rfl, Nat.le_of_ble_eq_true rfl⟩ [0, 1] rfl (fun _ _ => trivial) rfl (rest := []) rfl (Nat.le_of_ble_eq_true rfl) dX3_rod_1 ⟨Nat.zero_le _, Nat.zero_le _⟩ (pre := []) (post := ((wS0 xa ad ha ta) ++ ((wT ta cI t (nI n)) ++ ((wHs ha hb cI cO G (nI o) (nI z)) ++ (wB ad cI g))))) (ws' := ((wS0 xa ad ha ta) ++ ((wT ta cI t (nI n)) ++ ((wHs ha hb cI cO G (nI o) (nI z)) ++ (wB ad cI g))))) rfl rfl ?_
  refine g_iload_n C dX3_rod_4 2 rfl ?_
  refine g_iconst C (v := 0) dX3_rod_5 ci_0 ?_
  refine g_bipush C (v := 7) dX3_rod_6 cb_7 ?_
  refine g_callST C hZ (t_X3_checkRange l hl D cI cO w9 0 7 h) gX3_rod_X3_checkRange rfl ⟨rfl, rfl⟩ hd_X3_checkRange ⟨Nat.le_of_ble_eq_true rfl, Nat.le_of_ble_eq_true rfl⟩ [0, 1] rfl (sF_w hF) rfl (rest := []) rfl (Nat.le_of_ble_eq_true rfl) dX3_rod_8 ⟨Nat.le_of_ble_eq_true rfl, Nat.le_of_ble_eq_true rfl⟩ (pre := []) (post := ((wS0 xa ad ha ta) ++ ((wT ta cI t (nI n)) ++ ((wHs ha hb cI cO G (nI o) (nI z)) ++ (wB ad cI g))))) rfl ?_
  exact g_out C hne hlk (Nat.le_refl _) (Nat.le_refl _)
abbrev rmTX3_count_1 : Room := { frames := 7, cells := 1, slots := 6, locals := 104 }
set_option maxHeartbeats 1000000 in
set_option maxRecDepth 100000 in
theorem t_X3_count_1 (l : Launch) (hl : l.stackTraces = false) (D : va_G) (cI cO : ClassId) (xa : Nat) (ta ha : Nat → Nat) (hb : Nat → Nat → Nat) (ad : Nat → Nat) (t : Nat → Int32) (n : Nat) (G : Nat → Nat → Int32) (g : Nat → Int32) (o z : Nat) (hn : n ≤ 60) (ho : o < 6) (hz : z ≤ 6) (w9 : Int32) (h : w9 < 0 ∨ ¬ w9 ≤ 7) : cT sF l yX3_count wsX3_count rmTX3_count_1 D vwCl (tyA cI cO) [.ref xa, .int w9] ((wS0 xa ad ha ta) ++ ((wT ta cI t (nI n)) ++ ((wHs ha hb cI cO G (nI o) (nI z)) ++ (wB ad cI g)))) xIae := by
  refine cT_of (cc := cX3_count) (maxL := 2) (ret := (some .int)) (by decide) rfl (Nat.le_of_ble_eq_true rfl) ?_
  intro p e s m below meth c A C hlk hF hne hZ
  refine g_lv [0, 1] (lv' := [(0, .ref xa), (1, .int w9)]) rfl ?_
  refine g_iload_n C dX3_count_0 1 rfl ?_
  refine g_iconst C (v := 0) dX3_count_1 ci_0 ?_
  refine g_bipush C (v := 7) dX3_count_2 cb_7 ?_
  refine g_callST C hZ (t_X3_checkRange l hl D cI cO w9 0 7 h) gX3_count_X3_checkRange rfl ⟨rfl, rfl⟩ hd_X3_checkRange ⟨Nat.le_of_ble_eq_true rfl, Nat.le_of_ble_eq_true rfl⟩ [0, 1] rfl (sF_w hF) rfl (rest := []) rfl (Nat.le_of_ble_eq_true rfl) dX3_count_4 ⟨Nat.le_of_ble_eq_true rfl, Nat.le_of_ble_eq_true rfl⟩ (pre := []) (post := ((wS0 xa ad ha ta) ++ ((wT ta cI t (nI n)) ++ ((wHs ha hb cI cO G (nI o) (nI z)) ++ (wB ad cI g))))) rfl ?_
  exact g_out C hne hlk (Nat.le_refl _) (Nat.le_refl _)
abbrev rmTX3_moves_1 : Room := { frames := 7, cells := 1, slots := 6, locals := 102 }
set_option maxHeartbeats 1000000 in
set_option maxRecDepth 100000 in
theorem t_X3_moves_1 (l : Launch) (hl : l.stackTraces = false) (D : va_G) (cI cO : ClassId) (xa : Nat) (ta ha : Nat → Nat) (hb : Nat → Nat → Nat) (ad : Nat → Nat) (t : Nat → Int32) (n : Nat) (G : Nat → Nat → Int32) (g : Nat → Int32) (o z : Nat) (hn : n ≤ 60) (ho : o < 6) (hz : z ≤ 6) (v w9 : Int32) (h : v < 0 ∨ ¬ v < 9) : cT sF l yX3_moves wsX3_moves rmTX3_moves_1 D vwCl (tyA cI cO) [.ref xa, .int v, .int w9] ((wS0 xa ad ha ta) ++ ((wT ta cI t (nI n)) ++ ((wHs ha hb cI cO G (nI o) (nI z)) ++ (wB ad cI g)))) xIob := by
  refine cT_of (cc := cX3_moves) (maxL := 3) (ret := (some .int)) (by decide) rfl (Nat.le_of_ble_eq_true rfl) ?_
  intro p e s m below meth c A C hlk hF hne hZ
  refine g_lv [0, 1, 2] (lv' := [(0, .ref xa), (1, .int v), (2, .int w9)]) rfl ?_
  refine g_iload_n C dX3_moves_0 1 rfl ?_
  refine g_callST C hZ (t_X3_checkRod l hl D cI cO v h) gX3_moves_X3_checkRod rfl ⟨rfl, rfl⟩ hd_X3_checkRod ⟨Nat.le_of_ble_eq_true rfl, Nat.le_of_ble_eq_true rfl⟩ [0, 1] rfl (sF_w hF) rfl (rest := []) rfl (Nat.le_of_ble_eq_true rfl) dX3_moves_1 ⟨Nat.le_of_ble_eq_true rfl, Nat.le_of_ble_eq_true rfl⟩ (pre := []) (post := ((wS0 xa ad ha ta) ++ ((wT ta cI t (nI n)) ++ ((wHs ha hb cI cO G (nI o) (nI z)) ++ (wB ad cI g))))) rfl ?_
  exact g_out C hne hlk (Nat.le_refl _) (Nat.le_refl _)
abbrev rmTX3_moves_2 : Room := { frames := 7, cells := 1, slots := 6, locals := 104 }
set_option maxHeartbeats 1000000 in
set_option maxRecDepth 100000 in
theorem t_X3_moves_2 (l : Launch) (hl : l.stackTraces = false) (D : va_G) (cI cO : ClassId) (xa : Nat) (ta ha : Nat → Nat) (hb : Nat → Nat → Nat) (ad : Nat → Nat) (t : Nat → Int32) (n : Nat) (G : Nat → Nat → Int32) (g : Nat → Int32) (o z : Nat) (hn : n ≤ 60) (ho : o < 6) (hz : z ≤ 6) (r : Nat) (hr : r < 9) (w9 : Int32) (h : w9 < 0 ∨ ¬ w9 ≤ 15) : cT sF l yX3_moves wsX3_moves rmTX3_moves_2 D vwCl (tyA cI cO) [.ref xa, .int (nI r), .int w9] ((wS0 xa ad ha ta) ++ ((wT ta cI t (nI n)) ++ ((wHs ha hb cI cO G (nI o) (nI z)) ++ (wB ad cI g)))) xIae := by
  refine cT_of (cc := cX3_moves) (maxL := 3) (ret := (some .int)) (by decide) rfl (Nat.le_of_ble_eq_true rfl) ?_
  intro p e s m below meth c A C hlk hF hne hZ
  refine g_lv [0, 1, 2] (lv' := [(0, .ref xa), (1, .int (nI r)), (2, .int w9)]) rfl ?_
  refine g_iload_n C dX3_moves_0 1 rfl ?_
  refine g_callSv C (c_X3_checkRod l D cI cO r hr) gX3_moves_X3_checkRod rfl ⟨rfl, rfl⟩ hd_X3_checkRod ⟨Nat.le_of_ble_eq_true rfl, Nat.le_of_ble_eq_true rfl⟩ [0, 1] rfl (fun _ _ => trivial) rfl (rest := []) rfl (Nat.le_of_ble_eq_true rfl) dX3_moves_1 ⟨Nat.zero_le _, Nat.zero_le _⟩ (pre := []) (post := ((wS0 xa ad ha ta) ++ ((wT ta cI t (nI n)) ++ ((wHs ha hb cI cO G (nI o) (nI z)) ++ (wB ad cI g))))) (ws' := ((wS0 xa ad ha ta) ++ ((wT ta cI t (nI n)) ++ ((wHs ha hb cI cO G (nI o) (nI z)) ++ (wB ad cI g))))) rfl rfl ?_
  refine g_iload_n C dX3_moves_4 2 rfl ?_
  refine g_iconst C (v := 0) dX3_moves_5 ci_0 ?_
  refine g_bipush C (v := 15) dX3_moves_6 cb_15 ?_
  refine g_callST C hZ (t_X3_checkRange l hl D cI cO w9 0 15 h) gX3_moves_X3_checkRange rfl ⟨rfl, rfl⟩ hd_X3_checkRange ⟨Nat.le_of_ble_eq_true rfl, Nat.le_of_ble_eq_true rfl⟩ [0, 1] rfl (sF_w hF) rfl (rest := []) rfl (Nat.le_of_ble_eq_true rfl) dX3_moves_8 ⟨Nat.le_of_ble_eq_true rfl, Nat.le_of_ble_eq_true rfl⟩ (pre := []) (post := ((wS0 xa ad ha ta) ++ ((wT ta cI t (nI n)) ++ ((wHs ha hb cI cO G (nI o) (nI z)) ++ (wB ad cI g))))) rfl ?_
  exact g_out C hne hlk (Nat.le_refl _) (Nat.le_refl _)
abbrev rmTX3_ifAdded_1 : Room := { frames := 7, cells := 1, slots := 6, locals := 102 }
set_option maxHeartbeats 1000000 in
set_option maxRecDepth 100000 in
theorem t_X3_ifAdded_1 (l : Launch) (hl : l.stackTraces = false) (D : va_G) (cI cO : ClassId) (xa : Nat) (ta ha : Nat → Nat) (hb : Nat → Nat → Nat) (ad : Nat → Nat) (t : Nat → Int32) (n : Nat) (G : Nat → Nat → Int32) (g : Nat → Int32) (o z : Nat) (hn : n ≤ 60) (ho : o < 6) (hz : z ≤ 6) (v w9 : Int32) (h : v < 0 ∨ ¬ v < 9) : cT sF l yX3_ifAdded wsX3_ifAdded rmTX3_ifAdded_1 D vwCl (tyA cI cO) [.ref xa, .int v, .int w9] ((wS0 xa ad ha ta) ++ ((wT ta cI t (nI n)) ++ ((wHs ha hb cI cO G (nI o) (nI z)) ++ (wB ad cI g)))) xIob := by
  refine cT_of (cc := cX3_ifAdded) (maxL := 3) (ret := (some .int)) (by decide) rfl (Nat.le_of_ble_eq_true rfl) ?_
  intro p e s m below meth c A C hlk hF hne hZ
  refine g_lv [0, 1, 2] (lv' := [(0, .ref xa), (1, .int v), (2, .int w9)]) rfl ?_
  refine g_iload_n C dX3_ifAdded_0 1 rfl ?_
  refine g_callST C hZ (t_X3_checkRod l hl D cI cO v h) gX3_ifAdded_X3_checkRod rfl ⟨rfl, rfl⟩ hd_X3_checkRod ⟨Nat.le_of_ble_eq_true rfl, Nat.le_of_ble_eq_true rfl⟩ [0, 1] rfl (sF_w hF) rfl (rest := []) rfl (Nat.le_of_ble_eq_true rfl) dX3_ifAdded_1 ⟨Nat.le_of_ble_eq_true rfl, Nat.le_of_ble_eq_true rfl⟩ (pre := []) (post := ((wS0 xa ad ha ta) ++ ((wT ta cI t (nI n)) ++ ((wHs ha hb cI cO G (nI o) (nI z)) ++ (wB ad cI g))))) rfl ?_
  exact g_out C hne hlk (Nat.le_refl _) (Nat.le_refl _)
abbrev rmTX3_ifAdded_2 : Room := { frames := 7, cells := 1, slots := 6, locals := 104 }
set_option maxHeartbeats 1000000 in
set_option maxRecDepth 100000 in
theorem t_X3_ifAdded_2 (l : Launch) (hl : l.stackTraces = false) (D : va_G) (cI cO : ClassId) (xa : Nat) (ta ha : Nat → Nat) (hb : Nat → Nat → Nat) (ad : Nat → Nat) (t : Nat → Int32) (n : Nat) (G : Nat → Nat → Int32) (g : Nat → Int32) (o z : Nat) (hn : n ≤ 60) (ho : o < 6) (hz : z ≤ 6) (r : Nat) (hr : r < 9) (w9 : Int32) (h : w9 < -9 ∨ ¬ w9 ≤ 9) : cT sF l yX3_ifAdded wsX3_ifAdded rmTX3_ifAdded_2 D vwCl (tyA cI cO) [.ref xa, .int (nI r), .int w9] ((wS0 xa ad ha ta) ++ ((wT ta cI t (nI n)) ++ ((wHs ha hb cI cO G (nI o) (nI z)) ++ (wB ad cI g)))) xIae := by
  refine cT_of (cc := cX3_ifAdded) (maxL := 3) (ret := (some .int)) (by decide) rfl (Nat.le_of_ble_eq_true rfl) ?_
  intro p e s m below meth c A C hlk hF hne hZ
  refine g_lv [0, 1, 2] (lv' := [(0, .ref xa), (1, .int (nI r)), (2, .int w9)]) rfl ?_
  refine g_iload_n C dX3_ifAdded_0 1 rfl ?_
  refine g_callSv C (c_X3_checkRod l D cI cO r hr) gX3_ifAdded_X3_checkRod rfl ⟨rfl, rfl⟩ hd_X3_checkRod ⟨Nat.le_of_ble_eq_true rfl, Nat.le_of_ble_eq_true rfl⟩ [0, 1] rfl (fun _ _ => trivial) rfl (rest := []) rfl (Nat.le_of_ble_eq_true rfl) dX3_ifAdded_1 ⟨Nat.zero_le _, Nat.zero_le _⟩ (pre := []) (post := ((wS0 xa ad ha ta) ++ ((wT ta cI t (nI n)) ++ ((wHs ha hb cI cO G (nI o) (nI z)) ++ (wB ad cI g))))) (ws' := ((wS0 xa ad ha ta) ++ ((wT ta cI t (nI n)) ++ ((wHs ha hb cI cO G (nI o) (nI z)) ++ (wB ad cI g))))) rfl rfl ?_
  refine g_iload_n C dX3_ifAdded_4 2 rfl ?_
  refine g_bipush C (v := -9) dX3_ifAdded_5 cb_m9 ?_
  refine g_bipush C (v := 9) dX3_ifAdded_7 cb_9 ?_
  refine g_callST C hZ (t_X3_checkRange l hl D cI cO w9 (-9) 9 h) gX3_ifAdded_X3_checkRange rfl ⟨rfl, rfl⟩ hd_X3_checkRange ⟨Nat.le_of_ble_eq_true rfl, Nat.le_of_ble_eq_true rfl⟩ [0, 1] rfl (sF_w hF) rfl (rest := []) rfl (Nat.le_of_ble_eq_true rfl) dX3_ifAdded_9 ⟨Nat.le_of_ble_eq_true rfl, Nat.le_of_ble_eq_true rfl⟩ (pre := []) (post := ((wS0 xa ad ha ta) ++ ((wT ta cI t (nI n)) ++ ((wHs ha hb cI cO G (nI o) (nI z)) ++ (wB ad cI g))))) rfl ?_
  exact g_out C hne hlk (Nat.le_refl _) (Nat.le_refl _)
abbrev rmTX3_toShow_1 : Room := { frames := 7, cells := 1, slots := 6, locals := 104 }
set_option maxHeartbeats 1000000 in
set_option maxRecDepth 100000 in
theorem t_X3_toShow_1 (l : Launch) (hl : l.stackTraces = false) (D : va_G) (cI cO : ClassId) (xa : Nat) (ta ha : Nat → Nat) (hb : Nat → Nat → Nat) (ad : Nat → Nat) (t : Nat → Int32) (n : Nat) (G : Nat → Nat → Int32) (g : Nat → Int32) (o z : Nat) (hn : n ≤ 60) (ho : o < 6) (hz : z ≤ 6) (v : Int32) (h : v < 0 ∨ ¬ v ≤ 999999999) : cT sF l yX3_toShow wsX3_toShow rmTX3_toShow_1 D vwCl (tyA cI cO) [.ref xa, .int v] ((wS0 xa ad ha ta) ++ ((wT ta cI t (nI n)) ++ ((wHs ha hb cI cO G (nI o) (nI z)) ++ (wB ad cI g)))) xIae := by
  refine cT_of (cc := cX3_toShow) (maxL := 6) (ret := (some .int)) (by decide) rfl (Nat.le_of_ble_eq_true rfl) ?_
  intro p e s m below meth c A C hlk hF hne hZ
  refine g_lv [0, 1] (lv' := [(0, .ref xa), (1, .int v)]) rfl ?_
  refine g_iload_n C dX3_toShow_0 1 rfl ?_
  refine g_iconst C (v := 0) dX3_toShow_1 ci_0 ?_
  refine g_ldc C (v := 999999999) dX3_toShow_2 fw_X3_toShow_const170 ?_
  refine g_callST C hZ (t_X3_checkRange l hl D cI cO v 0 999999999 h) gX3_toShow_X3_checkRange rfl ⟨rfl, rfl⟩ hd_X3_checkRange ⟨Nat.le_of_ble_eq_true rfl, Nat.le_of_ble_eq_true rfl⟩ [0, 1] rfl (sF_w hF) rfl (rest := []) rfl (Nat.le_of_ble_eq_true rfl) dX3_toShow_4 ⟨Nat.le_of_ble_eq_true rfl, Nat.le_of_ble_eq_true rfl⟩ (pre := []) (post := ((wS0 xa ad ha ta) ++ ((wT ta cI t (nI n)) ++ ((wHs ha hb cI cO G (nI o) (nI z)) ++ (wB ad cI g))))) rfl ?_
  exact g_out C hne hlk (Nat.le_refl _) (Nat.le_refl _)
theorem fw_X3_reckon_fld26 : Cond.fieldLink RX3 26 "StuckRods" "text" "LStuckRods$SumText;" ∈ wsX3_reckon := (List.mem_cons_of_mem _ (List.mem_append_left _ (List.mem_append_left _ (List.mem_append_left _ (List.mem_append_left _ (List.mem_append_left _ (List.mem_append_left _ (List.mem_of_getElem? (i := 2) rfl))))))))
theorem fl_X3_reckon_X3 : ∀ w ∈ wsX30, w ∈ wsX3_reckon := fun _ h => List.mem_cons_of_mem _ (List.mem_append_left _ (List.mem_append_left _ (List.mem_append_left _ (List.mem_append_left _ (List.mem_append_right _ h)))))
theorem hd_X2_isCompleteSum : yX2_isCompleteSum.cls = RX2 ∧ yX2_isCompleteSum.cls ≠ "java/lang/invoke/MethodHandle" ∧ yX2_isCompleteSum.cls ≠ "java/lang/invoke/VarHandle" ∧ (parseMethodDescriptor yX2_isCompleteSum.desc).map (fun d => d.parameters.length) = some 0 := by decide +kernel
theorem fw_X3_reckon_clIllegalArgumentException : Cond.classLink RX3 101 "java/lang/IllegalArgumentException" ∈ wsX3_reckon := (List.mem_cons_of_mem _ (List.mem_append_left _ (List.mem_append_left _ (List.mem_append_left _ (List.mem_append_left _ (List.mem_append_left _ (List.mem_append_left _ (List.mem_of_getElem? (i := 0) rfl))))))))
theorem fw_X3_reckon_iniIllegalArgumentException : Cond.initialized "java/lang/IllegalArgumentException" ∈ wsX3_reckon := (List.mem_cons_of_mem _ (List.mem_append_left _ (List.mem_append_left _ (List.mem_append_left _ (List.mem_append_left _ (List.mem_append_left _ (List.mem_append_left _ (List.mem_of_getElem? (i := 1) rfl))))))))
theorem fx_X3_reckon_IllegalArgumentException : ∀ w ∈ (vx_atS RX3 105 xIae xNms).filter goodWord, w ∈ wsX3_reckon := fun _ h => List.mem_cons_of_mem _ (List.mem_append_right _ h)
abbrev rmTX3_reckon_1 : Room := { frames := 6, cells := 1, slots := 6, locals := 82 }
set_option maxHeartbeats 1000000 in
set_option maxRecDepth 100000 in
theorem t_X3_reckon_1 (l : Launch) (hl : l.stackTraces = false) (D : va_G) (cI cO : ClassId) (xa : Nat) (ta ha : Nat → Nat) (hb : Nat → Nat → Nat) (ad : Nat → Nat) (t : Nat → Int32) (n : Nat) (G : Nat → Nat → Int32) (g : Nat → Int32) (o z : Nat) (hn : n ≤ 60) (ho : o < 6) (hz : z ≤ 6) (hc : ¬ xCs t n) : cT sF l yX3_reckon wsX3_reckon rmTX3_reckon_1 D vwCl (tyA cI cO) [.ref xa] ((wS0 xa ad ha ta) ++ ((wT ta cI t (nI n)) ++ ((wHs ha hb cI cO G (nI o) (nI z)) ++ (wB ad cI g)))) xIae := by
  refine cT_of (cc := cX3_reckon) (maxL := 5) (ret := (some .int)) (by decide) rfl (Nat.le_of_ble_eq_true rfl) ?_
  intro p e s m below meth c A C hlk hF hne hZ
  refine g_lv [0] (lv' := [(0, .ref xa)]) rfl ?_
  refine g_aload_n C dX3_reckon_0 0 rfl ?_
  refine g_get C (v := .ref (ta 0)) fl_X3_reckon_X3 0 rfl rfl 2 (by decide) fw_X3_reckon_fld26 rfl dX3_reckon_1 ?_
  refine g_callVi C (c_X2_isCompleteSum l D cI cO ta t n hn) gX3_reckon_X2_isCompleteSum rfl ⟨rfl, rfl⟩ hd_X2_isCompleteSum ⟨Nat.le_of_ble_eq_true rfl, Nat.le_of_ble_eq_true rfl⟩ [0, 1] rfl (nF_w hF.1) rfl (rest := []) rfl (Nat.le_of_ble_eq_true rfl) dX3_reckon_4 ⟨Nat.zero_le _, Nat.zero_le _⟩ 0 rfl rfl rfl (pre := (wS0 xa ad ha ta)) (post := ((wHs ha hb cI cO G (nI o) (nI z)) ++ (wB ad cI g))) (ws' := ((wS0 xa ad ha ta) ++ ((wT ta cI t (nI n)) ++ ((wHs ha hb cI cO G (nI o) (nI z)) ++ (wB ad cI g))))) rfl rfl ?_
  refine g_if_ne C (tgt := 20) dX3_reckon_7 (by decide) (fun h7_1 => absurd (if_neg hc) h7_1) (fun _ => ?_)
  exact g_throw (XN := xIae) (tx := "the buffer is not a complete sum") C hl hF hZ hne hlk (by decide) (by decide) fw_X3_reckon_clIllegalArgumentException fw_X3_reckon_iniIllegalArgumentException fx_X3_reckon_IllegalArgumentException ot_xIae bad_xIae fit_xIae dX3_reckon_10 dX3_reckon_13 dX3_reckon_14 dX3_reckon_16 dX3_reckon_19 (Nat.le_of_ble_eq_true rfl) (Nat.le_of_ble_eq_true rfl) (Nat.le_of_ble_eq_true rfl) (Nat.le_of_ble_eq_true rfl) (Nat.le_refl _) (Nat.le_refl _)
theorem min_a {d q : Nat} (h : q = min d 9) (hd : ¬ d ≤ q) : q = 9 := by omega
theorem fw_X3_reckonTerm_fld26 : Cond.fieldLink RX3 26 "StuckRods" "text" "LStuckRods$SumText;" ∈ wsX3_reckonTerm := (List.mem_cons_of_mem _ (List.mem_append_left _ (List.mem_append_left _ (List.mem_append_left _ (List.mem_append_left _ (List.mem_of_getElem? (i := 0) rfl))))))
theorem fl_X3_reckonTerm_X3 : ∀ w ∈ wsX30, w ∈ wsX3_reckonTerm := fun _ h => List.mem_cons_of_mem _ (List.mem_append_left _ (List.mem_append_left _ (List.mem_append_right _ h)))
theorem fw_X3_reckonTerm_fld90 : Cond.fieldLink RX3 90 "StuckRods$SumText" "codes" "[I" ∈ wsX3_reckonTerm := (List.mem_cons_of_mem _ (List.mem_append_left _ (List.mem_append_left _ (List.mem_append_left _ (List.mem_append_left _ (List.mem_of_getElem? (i := 1) rfl))))))
theorem fl_X3_reckonTerm_X2 : ∀ w ∈ wsX20, w ∈ wsX3_reckonTerm := fun _ h => List.mem_cons_of_mem _ (List.mem_append_left _ (List.mem_append_right _ h))
theorem fw_X3_reckonTerm_fld12 : Cond.fieldLink RX3 12 "StuckRods" "board" "LStuckRods$Board;" ∈ wsX3_reckonTerm := (List.mem_cons_of_mem _ (List.mem_append_left _ (List.mem_append_left _ (List.mem_append_left _ (List.mem_append_left _ (List.mem_of_getElem? (i := 2) rfl))))))
abbrev rmX3_reckonTerm : Room := { frames := 5, cells := 0, slots := 0, locals := 125 }
set_option maxHeartbeats 1000000 in
set_option maxRecDepth 100000 in
theorem c_X3_reckonTerm (l : Launch) (D : va_G) (cI cO : ClassId) (xa : Nat) (ta ha : Nat → Nat) (hb : Nat → Nat → Nat) (ad : Nat → Nat) (t : Nat → Int32) (n : Nat) (G : Nat → Nat → Int32) (g : Nat → Int32) (o z : Nat) (hn : n ≤ 60) (ho : o < 6) (hz : z ≤ 6) (q d : Nat) (hqd : q + d < n) : cR sF l yX3_reckonTerm wsX3_reckonTerm rmX3_reckonTerm D vwCl (tyA cI cO) [.ref xa, .int (nI q), .int (nI d)] ((wS0 xa ad ha ta) ++ ((wT ta cI t (nI n)) ++ ((wHs ha hb cI cO G (nI o) (nI z)) ++ (wB ad cI g)))) (some (.int (nI (xRT t q d g).1))) ((wS0 xa ad ha ta) ++ ((wT ta cI t (nI n)) ++ ((wHs ha hb cI cO G (nI o) (nI z)) ++ (wB ad cI ((xRT t q d g).2))))) := by
  refine cR_of (cc := cX3_reckonTerm) (maxL := 6) (ret := (some .int)) (by decide) rfl (Nat.le_of_ble_eq_true rfl) ?_
  intro p e s m below meth c A C hret hlk hnm hF
  refine g_lv [0, 1, 2] (lv' := [(0, .ref xa), (1, .int (nI q)), (2, .int (nI d))]) rfl ?_
  have K : ∀ (k r : Nat), k + r = min d 9 → ∀ g1 : Nat → Int32, xRt t q d (if t q = 45 then -1 else 1) k r g1 = xRT t q d g → gG p l e rmX3_reckonTerm s m ([.ref xa, .int (nI q), .int (nI d)] : List Value).toArray below meth c D vwCl A s.heap 6 (MQ below (cQ (some (.int (nI (xRT t q d g).1))) (cB D vwCl (tyA cI cO) A ((wS0 xa ad ha ta) ++ ((wT ta cI t (nI n)) ++ ((wHs ha hb cI cO G (nI o) (nI z)) ++ (wB ad cI ((xRT t q d g).2)))))) A) ([.ref xa, .int (nI q), .int (nI d)] : List Value).toArray s 0 0 A) 0 0 ((wS0 xa ad ha ta) ++ ((wT ta cI t (nI n)) ++ ((wHs ha hb cI cO G (nI o) (nI z)) ++ (wB ad cI g1)))) 23 [(0, .ref xa), (1, .int (nI q)), (2, .int (nI d)), (3, .int ((if t q = 45 then -1 else 1))), (4, .int (nI r))] [] := by
    intro k
    induction k with
    | zero =>
      intro r hr9 g1 hq
      have hq1 : (d, g1) = xRT t q d g := hq
      refine g_iload C dX3_reckonTerm_23 4 rfl ?_
      refine g_iload_n C dX3_reckonTerm_25 2 rfl ?_
      refine g_icmp_ge C (tgt := 95) dX3_reckonTerm_26 (by decide) (fun h26_1 => ?_) (fun h26_1 => ?_)
      · refine g_iload_n C dX3_reckonTerm_95 2 rfl ?_
        exact g_iret C hret hlk dX3_reckonTerm_96 (by rw [← hq1]) (by rw [← hq1])
      · refine g_iload C dX3_reckonTerm_29 4 rfl ?_
        refine g_bipush C (v := 9) dX3_reckonTerm_31 cb_9 ?_
        refine g_icmp_ge C (tgt := 95) dX3_reckonTerm_33 (by decide) (fun _ => ?_) (fun h33_2 => absurd (leI (a := 9) (by have : ¬ d ≤ r := fun z => h26_1 ((nI_leI (a := d) (b := r) (by omega) (by omega)).mpr z); omega) (by omega)) h33_2)
        refine g_iload_n C dX3_reckonTerm_95 2 rfl ?_
        exact g_iret C hret hlk dX3_reckonTerm_96 (by rw [← hq1]) (by rw [← hq1])
    | succ k ih =>
      intro r hr9 g1 hq
      have hq9 : r < 9 := by omega
      refine g_iload C dX3_reckonTerm_23 4 rfl ?_
      refine g_iload_n C dX3_reckonTerm_25 2 rfl ?_
      refine g_icmp_ge C (tgt := 95) dX3_reckonTerm_26 (by decide) (fun h26_3 => absurd h26_3 (nleI (by omega) (by omega))) (fun _ => ?_)
      refine g_iload C dX3_reckonTerm_29 4 rfl ?_
      refine g_bipush C (v := 9) dX3_reckonTerm_31 cb_9 ?_
      refine g_icmp_ge C (tgt := 95) dX3_reckonTerm_33 (by decide) (fun h33_4 => absurd h33_4 (ge9 hq9)) (fun _ => ?_)
      refine g_iload_n C dX3_reckonTerm_36 3 rfl ?_
      refine g_aload_n C dX3_reckonTerm_37 0 rfl ?_
      refine g_get C (v := .ref (ta 0)) fl_X3_reckonTerm_X3 0 rfl rfl 2 (by decide) fw_X3_reckonTerm_fld26 rfl dX3_reckonTerm_38 ?_
      refine g_get C (v := .ref (ta 1)) fl_X3_reckonTerm_X2 1 rfl rfl 0 (by decide) fw_X3_reckonTerm_fld90 rfl dX3_reckonTerm_41 ?_
      refine g_iload_n C dX3_reckonTerm_44 1 rfl ?_
      refine g_iload_n C dX3_reckonTerm_45 2 rfl ?_
      refine g_iadd C (v := nI (q + d)) dX3_reckonTerm_46 (nI_add _ _) ?_
      refine g_iload C dX3_reckonTerm_47 4 rfl ?_
      refine g_isub C (v := nI (q + d - r)) dX3_reckonTerm_49 (pk_sub (by omega)) ?_
      refine g_iald C (x := t (q + d - r)) 2 0 rfl rfl (q + d - r) rfl (by omega) (by decide) rfl dX3_reckonTerm_50 ?_
      refine g_bipush C (v := 48) dX3_reckonTerm_51 cb_48 ?_
      refine g_isub C (v := (t (q + d - r)) - 48) dX3_reckonTerm_53 rfl ?_
      refine g_imul C (v := ((if t q = 45 then -1 else 1)) * ((t (q + d - r)) - 48)) dX3_reckonTerm_54 rfl ?_
      refine g_istore C (lv' := [(5, .int (((if t q = 45 then -1 else 1)) * ((t (q + d - r)) - 48))), (0, .ref xa), (1, .int (nI q)), (2, .int (nI d)), (3, .int ((if t q = 45 then -1 else 1))), (4, .int (nI r))]) dX3_reckonTerm_55 (by decide) rfl ?_
      refine g_aload_n C dX3_reckonTerm_57 1 rfl ?_
      refine g_get C (v := .ref (ad 0)) fl_X3_reckonTerm_X3 0 rfl rfl 0 (by decide) fw_X3_reckonTerm_fld12 rfl dX3_reckonTerm_58 ?_
      refine g_iload C dX3_reckonTerm_61 5 rfl ?_
      refine g_iload C dX3_reckonTerm_63 0 rfl ?_
      refine g_iconst C (v := 0) dX3_reckonTerm_65 ci_0 ?_
      refine g_callVi C (c0_X0_change l D cI cO ad g1 r hq9 (((if t q = 45 then -1 else 1)) * ((t (q + d - r)) - 48))) gX3_reckonTerm_X0_change rfl ⟨rfl, rfl⟩ hd_X0_change ⟨Nat.le_of_ble_eq_true rfl, Nat.le_of_ble_eq_true rfl⟩ [0, 1] rfl (fun _ _ => trivial) rfl (rest := []) rfl (Nat.le_of_ble_eq_true rfl) dX3_reckonTerm_66 ⟨Nat.zero_le _, Nat.zero_le _⟩ 0 rfl rfl rfl (pre := ((wS0 xa ad ha ta) ++ ((wT ta cI t (nI n)) ++ (wHs ha hb cI cO G (nI o) (nI z))))) (post := []) (ws' := ((wS0 xa ad ha ta) ++ ((wT ta cI t (nI n)) ++ ((wHs ha hb cI cO G (nI o) (nI z)) ++ (wB ad cI g1))))) rfl rfl ?_
      refine g_iconst C (v := -1) dX3_reckonTerm_69 ci_m1 ?_
      refine g_icmp_ne C (tgt := 76) dX3_reckonTerm_70 (by decide) (fun h70_5 => ?_) (fun h70_5 => ?_)
      · refine g_aload_n C dX3_reckonTerm_76 1 rfl ?_
        refine g_get C (v := .ref (ad 0)) fl_X3_reckonTerm_X3 0 rfl rfl 0 (by decide) fw_X3_reckonTerm_fld12 rfl dX3_reckonTerm_77 ?_
        refine g_iload C dX3_reckonTerm_80 5 rfl ?_
        refine g_iload C dX3_reckonTerm_82 0 rfl ?_
        refine g_iconst C (v := 1) dX3_reckonTerm_84 ci_1 ?_
        refine g_callVi C (c_X0_change l D cI cO ad g1 r hq9 (((if t q = 45 then -1 else 1)) * ((t (q + d - r)) - 48)) 1) gX3_reckonTerm_X0_change rfl ⟨rfl, rfl⟩ hd_X0_change ⟨Nat.le_of_ble_eq_true rfl, Nat.le_of_ble_eq_true rfl⟩ [0, 1] rfl (fun _ _ => trivial) rfl (rest := []) rfl (Nat.le_of_ble_eq_true rfl) dX3_reckonTerm_85 ⟨Nat.zero_le _, Nat.zero_le _⟩ 0 rfl rfl rfl (pre := ((wS0 xa ad ha ta) ++ ((wT ta cI t (nI n)) ++ (wHs ha hb cI cO G (nI o) (nI z))))) (post := []) (ws' := ((wS0 xa ad ha ta) ++ ((wT ta cI t (nI n)) ++ ((wHs ha hb cI cO G (nI o) (nI z)) ++ (wB ad cI ((xCh g1 r (((if t q = 45 then -1 else 1)) * ((t (q + d - r)) - 48)) 1).2)))))) rfl rfl ?_
        refine g_pop C dX3_reckonTerm_88 rfl ?_
        refine g_iinc C (v := nI (r + 1)) (lv' := [(4, .int (nI (r + 1))), (5, .int (((if t q = 45 then -1 else 1)) * ((t (q + d - r)) - 48))), (0, .ref xa), (1, .int (nI q)), (2, .int (nI d)), (3, .int ((if t q = 45 then -1 else 1)))]) dX3_reckonTerm_89 5 rfl (inc_nI _) (by decide) rfl ?_
        refine g_goto C (tgt := 23) dX3_reckonTerm_92 (by decide) ?_
        refine g_lv [2, 3, 4, 5, 0] (lv' := [(0, .ref xa), (1, .int (nI q)), (2, .int (nI d)), (3, .int ((if t q = 45 then -1 else 1))), (4, .int (nI (r + 1)))]) rfl ?_
        exact ih (r + 1) (by omega) _ (by rw [← hq]; simp only [xRt, h70_5, Bool.false_eq_true, not_false_eq_true, not_true_eq_false, and_self, and_true, true_and, and_false, false_and, or_true, true_or, or_false, false_or, or_self, if_true, if_false, eq_self, ite_true, ite_false, reduceIte])
      · refine g_iload C dX3_reckonTerm_73 5 rfl ?_
        exact g_iret C hret hlk dX3_reckonTerm_75 (by rw [← hq]; simp only [xRt, eq_true h70_5, Bool.false_eq_true, not_false_eq_true, not_true_eq_false, and_self, and_true, true_and, and_false, false_and, or_true, true_or, or_false, false_or, or_self, if_true, if_false, eq_self, ite_true, ite_false, reduceIte]) (by rw [← hq]; simp only [xRt, eq_true h70_5, Bool.false_eq_true, not_false_eq_true, not_true_eq_false, and_self, and_true, true_and, and_false, false_and, or_true, true_or, or_false, false_or, or_self, if_true, if_false, eq_self, ite_true, ite_false, reduceIte])
  have K1 : ∀ x : Int32, x = (if t q = 45 then -1 else 1) → gG p l e rmX3_reckonTerm s m ([.ref xa, .int (nI q), .int (nI d)] : List Value).toArray below meth c D vwCl A s.heap 6 (MQ below (cQ (some (.int (nI (xRT t q d g).1))) (cB D vwCl (tyA cI cO) A ((wS0 xa ad ha ta) ++ ((wT ta cI t (nI n)) ++ ((wHs ha hb cI cO G (nI o) (nI z)) ++ (wB ad cI ((xRT t q d g).2)))))) A) ([.ref xa, .int (nI q), .int (nI d)] : List Value).toArray s 0 0 A) 0 0 ((wS0 xa ad ha ta) ++ ((wT ta cI t (nI n)) ++ ((wHs ha hb cI cO G (nI o) (nI z)) ++ (wB ad cI g)))) 19 [(0, .ref xa), (1, .int (nI q)), (2, .int (nI d))] [.int x] := by
    intro x hx
    subst hx
    refine g_istore_n C (lv' := [(3, .int ((if t q = 45 then -1 else 1))), (0, .ref xa), (1, .int (nI q)), (2, .int (nI d))]) dX3_reckonTerm_19 rfl (by decide) rfl ?_
    refine g_iconst C (v := 0) dX3_reckonTerm_20 ci_0 ?_
    refine g_istore C (lv' := [(4, .int 0), (3, .int ((if t q = 45 then -1 else 1))), (0, .ref xa), (1, .int (nI q)), (2, .int (nI d))]) dX3_reckonTerm_21 (by decide) rfl ?_
    refine g_lv [2, 3, 4, 1, 0] (lv' := [(0, .ref xa), (1, .int (nI q)), (2, .int (nI d)), (3, .int ((if t q = 45 then -1 else 1))), (4, .int 0)]) rfl ?_
    exact K (min d 9) 0 (by omega) _ rfl
  refine g_aload_n C dX3_reckonTerm_0 0 rfl ?_
  refine g_get C (v := .ref (ta 0)) fl_X3_reckonTerm_X3 0 rfl rfl 2 (by decide) fw_X3_reckonTerm_fld26 rfl dX3_reckonTerm_1 ?_
  refine g_get C (v := .ref (ta 1)) fl_X3_reckonTerm_X2 1 rfl rfl 0 (by decide) fw_X3_reckonTerm_fld90 rfl dX3_reckonTerm_4 ?_
  refine g_iload_n C dX3_reckonTerm_7 1 rfl ?_
  refine g_iald C (x := t q) 2 0 rfl rfl q rfl (by omega) (by decide) rfl dX3_reckonTerm_8 ?_
  refine g_bipush C (v := 45) dX3_reckonTerm_9 cb_45 ?_
  refine g_icmp_ne C (tgt := 18) dX3_reckonTerm_11 (by decide) (fun h11_6 => ?_) (fun h11_6 => ?_)
  · refine g_iconst C (v := 1) dX3_reckonTerm_18 ci_1 ?_
    exact K1 _ (by simp only [h11_6, Bool.false_eq_true, not_false_eq_true, not_true_eq_false, and_self, and_true, true_and, and_false, false_and, or_true, true_or, or_false, false_or, or_self, if_true, if_false, eq_self, ite_true, ite_false, reduceIte])
  · refine g_iconst C (v := -1) dX3_reckonTerm_14 ci_m1 ?_
    refine g_goto C (tgt := 19) dX3_reckonTerm_15 (by decide) ?_
    exact K1 _ (by simp only [eq_true h11_6, Bool.false_eq_true, not_false_eq_true, not_true_eq_false, and_self, and_true, true_and, and_false, false_and, or_true, true_or, or_false, false_or, or_self, if_true, if_false, eq_self, ite_true, ite_false, reduceIte])
theorem fw_X3_reckon_fld85 : Cond.fieldLink RX3 85 "StuckRods$SumText" "length" "I" ∈ wsX3_reckon := (List.mem_cons_of_mem _ (List.mem_append_left _ (List.mem_append_left _ (List.mem_append_left _ (List.mem_append_left _ (List.mem_append_left _ (List.mem_append_left _ (List.mem_of_getElem? (i := 5) rfl))))))))
theorem fl_X3_reckon_X2 : ∀ w ∈ wsX20, w ∈ wsX3_reckon := fun _ h => List.mem_cons_of_mem _ (List.mem_append_left _ (List.mem_append_left _ (List.mem_append_left _ (List.mem_append_right _ h))))
theorem fw_X3_reckon_fld90 : Cond.fieldLink RX3 90 "StuckRods$SumText" "codes" "[I" ∈ wsX3_reckon := (List.mem_cons_of_mem _ (List.mem_append_left _ (List.mem_append_left _ (List.mem_append_left _ (List.mem_append_left _ (List.mem_append_left _ (List.mem_append_left _ (List.mem_of_getElem? (i := 6) rfl))))))))
theorem hd_X2_digitsBehind : yX2_digitsBehind.cls = RX2 ∧ yX2_digitsBehind.cls ≠ "java/lang/invoke/MethodHandle" ∧ yX2_digitsBehind.cls ≠ "java/lang/invoke/VarHandle" ∧ (parseMethodDescriptor yX2_digitsBehind.desc).map (fun d => d.parameters.length) = some 1 := by decide +kernel
theorem hd_X3_reckonTerm : yX3_reckonTerm.cls = RX3 ∧ yX3_reckonTerm.cls ≠ "java/lang/invoke/MethodHandle" ∧ yX3_reckonTerm.cls ≠ "java/lang/invoke/VarHandle" ∧ (parseMethodDescriptor yX3_reckonTerm.desc).map (fun d => d.parameters.length) = some 2 := by decide +kernel
theorem fw_X3_reckon_fld19 : Cond.fieldLink RX3 19 "StuckRods" "history" "LStuckRods$History;" ∈ wsX3_reckon := (List.mem_cons_of_mem _ (List.mem_append_left _ (List.mem_append_left _ (List.mem_append_left _ (List.mem_append_left _ (List.mem_append_left _ (List.mem_append_left _ (List.mem_of_getElem? (i := 3) rfl))))))))
theorem fw_X3_reckon_fld12 : Cond.fieldLink RX3 12 "StuckRods" "board" "LStuckRods$Board;" ∈ wsX3_reckon := (List.mem_cons_of_mem _ (List.mem_append_left _ (List.mem_append_left _ (List.mem_append_left _ (List.mem_append_left _ (List.mem_append_left _ (List.mem_append_left _ (List.mem_of_getElem? (i := 4) rfl))))))))
abbrev rmX3_reckon : Room := { frames := 6, cells := 0, slots := 0, locals := 150 }
set_option maxHeartbeats 1000000 in
set_option maxRecDepth 100000 in
theorem c_X3_reckon (l : Launch) (D : va_G) (cI cO : ClassId) (xa : Nat) (ta ha : Nat → Nat) (hb : Nat → Nat → Nat) (ad : Nat → Nat) (t : Nat → Int32) (n : Nat) (G : Nat → Nat → Int32) (g : Nat → Int32) (o z : Nat) (hn : n ≤ 60) (ho : o < 6) (hz : z ≤ 6) (hc : xCs t n) : cR sF l yX3_reckon wsX3_reckon rmX3_reckon D vwCl (tyA cI cO) [.ref xa] ((wS0 xa ad ha ta) ++ ((wT ta cI t (nI n)) ++ ((wHs ha hb cI cO G (nI o) (nI z)) ++ (wB ad cI g)))) (some (.int (nI (xRk t n n 0 0 g).1))) ((wS0 xa ad ha ta) ++ ((wT ta cI t (nI 0)) ++ ((wHs ha hb cI cO (kG G o z g) (nI (kO o z)) (nI (kM z + 1))) ++ (wB ad cI ((xRk t n n 0 0 g).2))))) := by
  refine cR_of (cc := cX3_reckon) (maxL := 5) (ret := (some .int)) (by decide) rfl (Nat.le_of_ble_eq_true rfl) ?_
  intro p e s m below meth c A C hret hlk hnm hF
  refine g_lv [0] (lv' := [(0, .ref xa)]) rfl ?_
  have K : ∀ (k i : Nat), k + i = n → ∀ (a : Nat) (g1 : Nat → Int32), xRk t n k i a g1 = xRk t n n 0 0 g → gG p l e rmX3_reckon s m ([.ref xa] : List Value).toArray below meth c D vwCl A s.heap 5 (MQ below (cQ (some (.int (nI (xRk t n n 0 0 g).1))) (cB D vwCl (tyA cI cO) A ((wS0 xa ad ha ta) ++ ((wT ta cI t (nI 0)) ++ ((wHs ha hb cI cO (kG G o z g) (nI (kO o z)) (nI (kM z + 1))) ++ (wB ad cI ((xRk t n n 0 0 g).2)))))) A) ([.ref xa] : List Value).toArray s 0 0 A) 0 0 ((wS0 xa ad ha ta) ++ ((wT ta cI t (nI n)) ++ ((wHs ha hb cI cO (kG G o z g) (nI (kO o z)) (nI (kM z + 1))) ++ (wB ad cI g1)))) 35 [(0, .ref xa), (1, .int (nI a)), (2, .int (nI i))] [] := by
    have KE : ∀ (a : Nat) (g1 : Nat → Int32) (i : Int32), (a, g1) = xRk t n n 0 0 g → gG p l e rmX3_reckon s m ([.ref xa] : List Value).toArray below meth c D vwCl A s.heap 5 (MQ below (cQ (some (.int (nI (xRk t n n 0 0 g).1))) (cB D vwCl (tyA cI cO) A ((wS0 xa ad ha ta) ++ ((wT ta cI t (nI 0)) ++ ((wHs ha hb cI cO (kG G o z g) (nI (kO o z)) (nI (kM z + 1))) ++ (wB ad cI ((xRk t n n 0 0 g).2)))))) A) ([.ref xa] : List Value).toArray s 0 0 A) 0 0 ((wS0 xa ad ha ta) ++ ((wT ta cI t (nI n)) ++ ((wHs ha hb cI cO (kG G o z g) (nI (kO o z)) (nI (kM z + 1))) ++ (wB ad cI g1)))) 104 [(0, .ref xa), (1, .int (nI a)), (2, .int i)] [] := by
      intro a g1 i hq
      refine g_aload_n C dX3_reckon_104 0 rfl ?_
      refine g_get C (v := .ref (ta 0)) fl_X3_reckon_X3 0 rfl rfl 2 (by decide) fw_X3_reckon_fld26 rfl dX3_reckon_105 ?_
      refine g_iconst C (v := 0) dX3_reckon_108 ci_0 ?_
      refine g_put C (ws' := ((wS0 xa ad ha ta) ++ ((wT ta cI t 0) ++ ((wHs ha hb cI cO (kG G o z g) (nI (kO o z)) (nI (kM z + 1))) ++ (wB ad cI g1))))) fl_X3_reckon_X2 tyX2 tyX2_ok nmX2 1 rfl rfl 1 (by decide) fw_X3_reckon_fld85 rfl (tyX2_ok 1 (by decide)) rfl rfl (Nat.le_of_ble_eq_true rfl) dX3_reckon_109 (ws_setr (q1 := 0) rfl (ws_setl (Nat.le_of_ble_eq_true rfl) rfl)) ?_
      refine g_iload_n C dX3_reckon_112 1 rfl ?_
      exact g_iret C hret hlk dX3_reckon_113 (by rw [← hq]) (by rw [← hq]; rfl)
    intro k
    induction k with
    | zero =>
      intro i hi a g1 hq
      refine g_iload_n C dX3_reckon_35 2 rfl ?_
      refine g_aload_n C dX3_reckon_36 0 rfl ?_
      refine g_get C (v := .ref (ta 0)) fl_X3_reckon_X3 0 rfl rfl 2 (by decide) fw_X3_reckon_fld26 rfl dX3_reckon_37 ?_
      refine g_get C (v := .int (nI n)) fl_X3_reckon_X2 1 rfl rfl 1 (by decide) fw_X3_reckon_fld85 rfl dX3_reckon_40 ?_
      refine g_icmp_ge C (tgt := 104) dX3_reckon_43 (by decide) (fun _ => ?_) (fun h43_1 => absurd (leI (by omega) (by omega)) h43_1)
      exact KE _ _ _ hq
    | succ k ih =>
      intro i hi a g1 hq
      have hin : i < n := by omega
      refine g_iload_n C dX3_reckon_35 2 rfl ?_
      refine g_aload_n C dX3_reckon_36 0 rfl ?_
      refine g_get C (v := .ref (ta 0)) fl_X3_reckon_X3 0 rfl rfl 2 (by decide) fw_X3_reckon_fld26 rfl dX3_reckon_37 ?_
      refine g_get C (v := .int (nI n)) fl_X3_reckon_X2 1 rfl rfl 1 (by decide) fw_X3_reckon_fld85 rfl dX3_reckon_40 ?_
      refine g_icmp_ge C (tgt := 104) dX3_reckon_43 (by decide) (fun h43_2 => absurd h43_2 (nleI (by omega) (by omega))) (fun _ => ?_)
      refine g_iload_n C dX3_reckon_46 2 rfl ?_
      refine g_bipush C (v := 60) dX3_reckon_47 cb_60 ?_
      refine g_icmp_ge C (tgt := 104) dX3_reckon_49 (by decide) (fun h49_3 => absurd h49_3 (nleI (b := 60) (by omega) (by decide))) (fun _ => ?_)
      refine g_aload_n C dX3_reckon_52 0 rfl ?_
      refine g_get C (v := .ref (ta 0)) fl_X3_reckon_X3 0 rfl rfl 2 (by decide) fw_X3_reckon_fld26 rfl dX3_reckon_53 ?_
      refine g_get C (v := .ref (ta 1)) fl_X3_reckon_X2 1 rfl rfl 0 (by decide) fw_X3_reckon_fld90 rfl dX3_reckon_56 ?_
      refine g_iload_n C dX3_reckon_59 2 rfl ?_
      refine g_iald C (x := t i) 2 0 rfl rfl i rfl (by omega) (by decide) rfl dX3_reckon_60 ?_
      refine g_callSi C (c_X3_isSign l D cI cO (t i)) gX3_reckon_X3_isSign rfl ⟨rfl, rfl⟩ hd_X3_isSign ⟨Nat.le_of_ble_eq_true rfl, Nat.le_of_ble_eq_true rfl⟩ [0, 1] rfl (fun _ _ => trivial) rfl (rest := []) rfl (Nat.le_of_ble_eq_true rfl) dX3_reckon_61 ⟨Nat.zero_le _, Nat.zero_le _⟩ (pre := []) (post := ((wS0 xa ad ha ta) ++ ((wT ta cI t (nI n)) ++ ((wHs ha hb cI cO (kG G o z g) (nI (kO o z)) (nI (kM z + 1))) ++ (wB ad cI g1))))) (ws' := ((wS0 xa ad ha ta) ++ ((wT ta cI t (nI n)) ++ ((wHs ha hb cI cO (kG G o z g) (nI (kO o z)) (nI (kM z + 1))) ++ (wB ad cI g1))))) rfl rfl ?_
      refine g_if_eq C (tgt := 98) dX3_reckon_64 (by decide) (fun h64_4 => ?_) (fun h64_4 => ?_)
      · have h64_4 := bz h64_4
        refine g_iinc C (v := nI (i + 1)) (lv' := [(2, .int (nI (i + 1))), (0, .ref xa), (1, .int (nI a))]) dX3_reckon_98 2 rfl (inc_nI _) (by decide) rfl ?_
        refine g_goto C (tgt := 35) dX3_reckon_101 (by decide) ?_
        refine g_lv [1, 2, 0] (lv' := [(0, .ref xa), (1, .int (nI a)), (2, .int (nI (i + 1)))]) rfl ?_
        exact ih (i + 1) (by omega) _ _ (by rw [← hq]; simp only [xRk, xDB, h64_4, Bool.false_eq_true, not_false_eq_true, not_true_eq_false, and_self, and_true, true_and, and_false, false_and, or_true, true_or, or_false, false_or, or_self, if_true, if_false, eq_self, ite_true, ite_false, reduceIte])
      · have h64_4 := bnz h64_4
        refine g_aload_n C dX3_reckon_67 0 rfl ?_
        refine g_get C (v := .ref (ta 0)) fl_X3_reckon_X3 0 rfl rfl 2 (by decide) fw_X3_reckon_fld26 rfl dX3_reckon_68 ?_
        refine g_iload_n C dX3_reckon_71 2 rfl ?_
        refine g_callVi C (c_X2_digitsBehind l D cI cO ta t n hn i hin) gX3_reckon_X2_digitsBehind rfl ⟨rfl, rfl⟩ hd_X2_digitsBehind ⟨Nat.le_of_ble_eq_true rfl, Nat.le_of_ble_eq_true rfl⟩ [0, 1] rfl (nF_w hF.1) rfl (rest := []) rfl (Nat.le_of_ble_eq_true rfl) dX3_reckon_72 ⟨Nat.zero_le _, Nat.zero_le _⟩ 0 rfl rfl rfl (pre := (wS0 xa ad ha ta)) (post := ((wHs ha hb cI cO (kG G o z g) (nI (kO o z)) (nI (kM z + 1))) ++ (wB ad cI g1))) (ws' := ((wS0 xa ad ha ta) ++ ((wT ta cI t (nI n)) ++ ((wHs ha hb cI cO (kG G o z g) (nI (kO o z)) (nI (kM z + 1))) ++ (wB ad cI g1))))) rfl rfl ?_
        refine g_istore_n C (lv' := [(3, .int (nI (xDb t (n - (i + 1)) (i + 1) 0))), (0, .ref xa), (1, .int (nI a)), (2, .int (nI i))]) dX3_reckon_75 rfl (by decide) rfl ?_
        refine g_aload_n C dX3_reckon_76 1 rfl ?_
        refine g_iload_n C dX3_reckon_77 3 rfl ?_
        refine g_iload_n C dX3_reckon_78 0 rfl ?_
        refine g_callVi C (c_X3_reckonTerm l D cI cO xa ta ha hb ad t n (kG G o z g) g1 (kO o z) (kM z + 1) hn (kO_lt ho) (by have := kM_lt hz; omega) i ((xDb t (n - (i + 1)) (i + 1) 0)) (xDB_lt hin)) gX3_reckon_X3_reckonTerm rfl ⟨rfl, rfl⟩ hd_X3_reckonTerm ⟨Nat.le_of_ble_eq_true rfl, Nat.le_of_ble_eq_true rfl⟩ [0, 1] rfl (sF_w hF) rfl (rest := []) rfl (Nat.le_of_ble_eq_true rfl) dX3_reckon_79 ⟨Nat.zero_le _, Nat.zero_le _⟩ 0 rfl rfl rfl (pre := []) (post := []) (ws' := ((wS0 xa ad ha ta) ++ ((wT ta cI t (nI n)) ++ ((wHs ha hb cI cO (kG G o z g) (nI (kO o z)) (nI (kM z + 1))) ++ (wB ad cI ((xRT t i ((xDb t (n - (i + 1)) (i + 1) 0)) g1).2)))))) rfl rfl ?_
        refine g_istore C (lv' := [(4, .int (nI (xRT t i ((xDb t (n - (i + 1)) (i + 1) 0)) g1).1)), (3, .int (nI (xDb t (n - (i + 1)) (i + 1) 0))), (0, .ref xa), (1, .int (nI a)), (2, .int (nI i))]) dX3_reckon_82 (by decide) rfl ?_
        refine g_iload_n C dX3_reckon_84 3 rfl ?_
        refine g_iload C dX3_reckon_85 0 rfl ?_
        refine g_iadd C (v := nI (a + (xRT t i (xDb t (n - (i + 1)) (i + 1) 0) g1).1)) dX3_reckon_87 (nI_add _ _) ?_
        refine g_istore_n C (lv' := [(1, .int (nI (a + (xRT t i (xDb t (n - (i + 1)) (i + 1) 0) g1).1))), (4, .int (nI (xRT t i ((xDb t (n - (i + 1)) (i + 1) 0)) g1).1)), (3, .int (nI (xDb t (n - (i + 1)) (i + 1) 0))), (0, .ref xa), (2, .int (nI i))]) dX3_reckon_88 rfl (by decide) rfl ?_
        refine g_iload C dX3_reckon_89 1 rfl ?_
        refine g_iload_n C dX3_reckon_91 2 rfl ?_
        refine g_icmp_ge C (tgt := 98) dX3_reckon_92 (by decide) (fun h92_5 => ?_) (fun h92_5 => ?_)
        · have h92_5 : ¬ (xRT t i (xDb t (n - (i + 1)) (i + 1) 0) g1).1 < (xDb t (n - (i + 1)) (i + 1) 0) := Nat.not_lt.mpr ((nI_leI (by have := xDB_lt (t := t) hin; unfold xDB at this; omega) (by have := xRT_le t i (xDb t (n - (i + 1)) (i + 1) 0) g1; have := xDB_lt (t := t) hin; unfold xDB at this; omega)).mp h92_5)
          refine g_iinc C (v := nI (i + 1)) (lv' := [(2, .int (nI (i + 1))), (1, .int (nI (a + (xRT t i (xDb t (n - (i + 1)) (i + 1) 0) g1).1))), (4, .int (nI (xRT t i ((xDb t (n - (i + 1)) (i + 1) 0)) g1).1)), (3, .int (nI (xDb t (n - (i + 1)) (i + 1) 0))), (0, .ref xa)]) dX3_reckon_98 4 rfl (inc_nI _) (by decide) rfl ?_
          refine g_goto C (tgt := 35) dX3_reckon_101 (by decide) ?_
          refine g_lv [4, 1, 0] (lv' := [(0, .ref xa), (1, .int (nI (a + (xRT t i (xDb t (n - (i + 1)) (i + 1) 0) g1).1))), (2, .int (nI (i + 1)))]) rfl ?_
          exact ih (i + 1) (by omega) _ _ (by rw [← hq]; simp only [xRk, xDB, eq_true h64_4, h92_5, Bool.false_eq_true, not_false_eq_true, not_true_eq_false, and_self, and_true, true_and, and_false, false_and, or_true, true_or, or_false, false_or, or_self, if_true, if_false, eq_self, ite_true, ite_false, reduceIte])
        · have h92_5 :  (xRT t i (xDb t (n - (i + 1)) (i + 1) 0) g1).1 < (xDb t (n - (i + 1)) (i + 1) 0) := Nat.not_le.mp fun z => h92_5 (leI z (by have := xRT_le t i (xDb t (n - (i + 1)) (i + 1) 0) g1; have := xDB_lt (t := t) hin; unfold xDB at this; omega))
          refine g_goto C (tgt := 104) dX3_reckon_95 (by decide) ?_
          refine g_lv [3, 0, 4] (lv' := [(0, .ref xa), (1, .int (nI (a + (xRT t i (xDb t (n - (i + 1)) (i + 1) 0) g1).1))), (2, .int (nI i))]) rfl ?_
          exact KE _ _ _ (by rw [← hq]; simp only [xRk, xDB, eq_true h64_4, eq_true h92_5, Bool.false_eq_true, not_false_eq_true, not_true_eq_false, and_self, and_true, true_and, and_false, false_and, or_true, true_or, or_false, false_or, or_self, if_true, if_false, eq_self, ite_true, ite_false, reduceIte])
  refine g_aload_n C dX3_reckon_0 0 rfl ?_
  refine g_get C (v := .ref (ta 0)) fl_X3_reckon_X3 0 rfl rfl 2 (by decide) fw_X3_reckon_fld26 rfl dX3_reckon_1 ?_
  refine g_callVi C (c_X2_isCompleteSum l D cI cO ta t n hn) gX3_reckon_X2_isCompleteSum rfl ⟨rfl, rfl⟩ hd_X2_isCompleteSum ⟨Nat.le_of_ble_eq_true rfl, Nat.le_of_ble_eq_true rfl⟩ [0, 1] rfl (nF_w hF.1) rfl (rest := []) rfl (Nat.le_of_ble_eq_true rfl) dX3_reckon_4 ⟨Nat.zero_le _, Nat.zero_le _⟩ 0 rfl rfl rfl (pre := (wS0 xa ad ha ta)) (post := ((wHs ha hb cI cO G (nI o) (nI z)) ++ (wB ad cI g))) (ws' := ((wS0 xa ad ha ta) ++ ((wT ta cI t (nI n)) ++ ((wHs ha hb cI cO G (nI o) (nI z)) ++ (wB ad cI g))))) rfl rfl ?_
  refine g_if_ne C (tgt := 20) dX3_reckon_7 (by decide) (fun _ => ?_) (fun h7_6 => absurd h7_6 (by rw [if_pos hc]; decide))
  refine g_aload_n C dX3_reckon_20 0 rfl ?_
  refine g_get C (v := .ref (ha 0)) fl_X3_reckon_X3 0 rfl rfl 1 (by decide) fw_X3_reckon_fld19 rfl dX3_reckon_21 ?_
  refine g_aload_n C dX3_reckon_24 0 rfl ?_
  refine g_get C (v := .ref (ad 0)) fl_X3_reckon_X3 0 rfl rfl 0 (by decide) fw_X3_reckon_fld12 rfl dX3_reckon_25 ?_
  refine g_callVv C (c_X1_keep l D cI cO ha hb ad G g o z ho hz) gX3_reckon_X1_keep rfl ⟨rfl, rfl⟩ hd_X1_keep ⟨Nat.le_of_ble_eq_true rfl, Nat.le_of_ble_eq_true rfl⟩ [0, 1] rfl (fun _ _ => trivial) rfl (rest := []) rfl (Nat.le_of_ble_eq_true rfl) dX3_reckon_28 ⟨Nat.zero_le _, Nat.zero_le _⟩ 0 rfl rfl rfl (pre := ((wS0 xa ad ha ta) ++ (wT ta cI t (nI n)))) (post := []) (ws' := ((wS0 xa ad ha ta) ++ ((wT ta cI t (nI n)) ++ ((wHs ha hb cI cO (kG G o z g) (nI (kO o z)) (nI (kM z + 1))) ++ (wB ad cI g))))) rfl rfl ?_
  refine g_iconst C (v := 0) dX3_reckon_31 ci_0 ?_
  refine g_istore_n C (lv' := [(1, .int 0), (0, .ref xa)]) dX3_reckon_32 rfl (by decide) rfl ?_
  refine g_iconst C (v := 0) dX3_reckon_33 ci_0 ?_
  refine g_istore_n C (lv' := [(2, .int 0), (1, .int 0), (0, .ref xa)]) dX3_reckon_34 rfl (by decide) rfl ?_
  refine g_lv [2, 1, 0] (lv' := [(0, .ref xa), (1, .int 0), (2, .int 0)]) rfl ?_
  exact K n 0 rfl 0 g rfl
theorem fw_X3_bitsOf_const225 : Cond.constantDouble RX3 225 (4841369599423283200) ∈ wsX3_bitsOf := (List.mem_cons_of_mem _ (List.mem_of_getElem? (i := 2) rfl))
theorem fw_X3_bitsOf_const223 : Cond.constantDouble RX3 223 (4611686018427387904) ∈ wsX3_bitsOf := (List.mem_cons_of_mem _ (List.mem_of_getElem? (i := 1) rfl))
theorem fw_X3_bitsOf_const221 : Cond.constantLong RX3 221 (1023) ∈ wsX3_bitsOf := (List.mem_cons_of_mem _ (List.mem_of_getElem? (i := 0) rfl))
abbrev rmX3_bitsOf : Room := { frames := 0, cells := 0, slots := 0, locals := 0 }
set_option maxHeartbeats 1000000 in
set_option maxRecDepth 100000 in
theorem c_X3_bitsOf (l : Launch) (D : va_G) (cI cO : ClassId) (v : UInt64) (k9 : Nat) (hk9 : xBok k9 v 1023) : cR (fun _ => True) l yX3_bitsOf wsX3_bitsOf rmX3_bitsOf D vwCl (tyA cI cO) [.double v] ([] : va_W) (some (.long (xBf k9 v 1023))) ([] : va_W) := by
  refine cR_of (cc := cX3_bitsOf) (maxL := 6) (ret := (some .long)) (by decide) rfl (Nat.le_of_ble_eq_true rfl) ?_
  intro p e s m below meth c A C hret hlk hnm hF
  refine g_lv [0] (lv' := [(0, .double v)]) rfl ?_
  have K : ∀ (k : Nat) (s9 : UInt64) (e9 : Int64), xBok k s9 e9 → xBf k s9 e9 = xBf k9 v 1023 → gG p l e rmX3_bitsOf s m ([.double v] : List Value).toArray below meth c D vwCl A s.heap 6 (MQ below (cQ (some (.long (xBf k9 v 1023))) (cB D vwCl (tyA cI cO) A ([] : va_W)) A) ([.double v] : List Value).toArray s 0 0 A) 0 0 ([] : va_W) 7 [(0, .double v), (2, .double s9), (4, .long e9)] [] := by
    intro k
    induction k with
    | zero =>
      intro s9 e9 h0
      exact h0.elim
    | succ k ih =>
      intro s9 e9 h0 hq
      unfold xBok at h0
      refine g_dload_n C dX3_bitsOf_7 1 rfl ?_
      refine g_dconst1 C dX3_bitsOf_8 ?_
      refine g_dcmp C (v := Op.cmpValue (FP.dcmp s9 FP.dconst1) CmpOp.g) dX3_bitsOf_9 rfl ?_
      refine g_if_ge C (tgt := 35) dX3_bitsOf_10 (by decide) (fun h10_1 => ?_) (fun h10_1 => ?_)
      · simp only [eq_true h10_1, Bool.false_eq_true, not_false_eq_true, not_true_eq_false, and_self, and_true, true_and, and_false, false_and, or_true, true_or, or_false, false_or, or_self, if_true, if_false, eq_self, ite_true, ite_false, reduceIte] at h0
        refine g_lload C dX3_bitsOf_35 2 rfl ?_
        refine g_bipush C (v := 52) dX3_bitsOf_37 cb_52 ?_
        refine g_lshl C (v := e9 <<< ((52 : Int32).toInt64 &&& 63)) dX3_bitsOf_39 rfl ?_
        refine g_dload_n C dX3_bitsOf_40 1 rfl ?_
        refine g_dconst1 C dX3_bitsOf_41 ?_
        refine g_dsub C (v := FP.dsub s9 FP.dconst1) dX3_bitsOf_42 h0.1 rfl ?_
        refine g_ldc2d C (v := 4841369599423283200) dX3_bitsOf_43 fw_X3_bitsOf_const225 ?_
        refine g_dmul C (v := FP.dmul (FP.dsub s9 FP.dconst1) 4841369599423283200) dX3_bitsOf_46 h0.2 rfl ?_
        refine g_d2l C (v := FP.d2l (FP.dmul (FP.dsub s9 FP.dconst1) 4841369599423283200)) dX3_bitsOf_47 rfl ?_
        refine g_ladd C (v := (e9 <<< ((52 : Int32).toInt64 &&& 63)) + (FP.d2l (FP.dmul (FP.dsub s9 FP.dconst1) 4841369599423283200))) dX3_bitsOf_48 rfl ?_
        exact g_lret C hret hlk dX3_bitsOf_49 (by rw [← hq]; simp only [xBf, eq_true h10_1, Bool.false_eq_true, not_false_eq_true, not_true_eq_false, and_self, and_true, true_and, and_false, false_and, or_true, true_or, or_false, false_or, or_self, if_true, if_false, eq_self, ite_true, ite_false, reduceIte]) rfl
      · refine g_lload C dX3_bitsOf_13 2 rfl ?_
        refine g_lconst C (v := 0) dX3_bitsOf_15 rfl ?_
        refine g_lcmp C (v := lg_cmp e9 0) dX3_bitsOf_16 rfl ?_
        refine g_if_le C (tgt := 35) dX3_bitsOf_17 (by decide) (fun h17_2 => ?_) (fun h17_2 => ?_)
        · simp only [h10_1, eq_true h17_2, Bool.false_eq_true, not_false_eq_true, not_true_eq_false, and_self, and_true, true_and, and_false, false_and, or_true, true_or, or_false, false_or, or_self, if_true, if_false, eq_self, ite_true, ite_false, reduceIte] at h0
          refine g_lload C dX3_bitsOf_35 2 rfl ?_
          refine g_bipush C (v := 52) dX3_bitsOf_37 cb_52 ?_
          refine g_lshl C (v := e9 <<< ((52 : Int32).toInt64 &&& 63)) dX3_bitsOf_39 rfl ?_
          refine g_dload_n C dX3_bitsOf_40 1 rfl ?_
          refine g_dconst1 C dX3_bitsOf_41 ?_
          refine g_dsub C (v := FP.dsub s9 FP.dconst1) dX3_bitsOf_42 h0.1 rfl ?_
          refine g_ldc2d C (v := 4841369599423283200) dX3_bitsOf_43 fw_X3_bitsOf_const225 ?_
          refine g_dmul C (v := FP.dmul (FP.dsub s9 FP.dconst1) 4841369599423283200) dX3_bitsOf_46 h0.2 rfl ?_
          refine g_d2l C (v := FP.d2l (FP.dmul (FP.dsub s9 FP.dconst1) 4841369599423283200)) dX3_bitsOf_47 rfl ?_
          refine g_ladd C (v := (e9 <<< ((52 : Int32).toInt64 &&& 63)) + (FP.d2l (FP.dmul (FP.dsub s9 FP.dconst1) 4841369599423283200))) dX3_bitsOf_48 rfl ?_
          exact g_lret C hret hlk dX3_bitsOf_49 (by rw [← hq]; simp only [xBf, h10_1, eq_true h17_2, Bool.false_eq_true, not_false_eq_true, not_true_eq_false, and_self, and_true, true_and, and_false, false_and, or_true, true_or, or_false, false_or, or_self, if_true, if_false, eq_self, ite_true, ite_false, reduceIte]) rfl
        · simp only [h10_1, h17_2, Bool.false_eq_true, not_false_eq_true, not_true_eq_false, and_self, and_true, true_and, and_false, false_and, or_true, true_or, or_false, false_or, or_self, if_true, if_false, eq_self, ite_true, ite_false, reduceIte] at h0
          refine g_dload_n C dX3_bitsOf_20 1 rfl ?_
          refine g_ldc2d C (v := 4611686018427387904) dX3_bitsOf_21 fw_X3_bitsOf_const223 ?_
          refine g_dmul C (v := FP.dmul s9 4611686018427387904) dX3_bitsOf_24 h0.1 rfl ?_
          refine g_dstore_n C (lv' := [(2, .double (FP.dmul s9 4611686018427387904)), (0, .double v), (4, .long e9)]) dX3_bitsOf_25 rfl (by decide) rfl ?_
          refine g_lload C dX3_bitsOf_26 2 rfl ?_
          refine g_lconst C (v := 1) dX3_bitsOf_28 rfl ?_
          refine g_lsub C (v := e9 - 1) dX3_bitsOf_29 rfl ?_
          refine g_lstore C (lv' := [(4, .long (e9 - 1)), (2, .double (FP.dmul s9 4611686018427387904)), (0, .double v)]) dX3_bitsOf_30 (by decide) rfl ?_
          refine g_goto C (tgt := 7) dX3_bitsOf_32 (by decide) ?_
          refine g_lv [2, 1, 0] (lv' := [(0, .double v), (2, .double (FP.dmul s9 4611686018427387904)), (4, .long (e9 - 1))]) rfl ?_
          exact ih _ _ h0.2 (by rw [← hq]; simp only [xBf, h10_1, h17_2, Bool.false_eq_true, not_false_eq_true, not_true_eq_false, and_self, and_true, true_and, and_false, false_and, or_true, true_or, or_false, false_or, or_self, if_true, if_false, eq_self, ite_true, ite_false, reduceIte])
  refine g_dload_n C dX3_bitsOf_0 0 rfl ?_
  refine g_dstore_n C (lv' := [(2, .double v), (0, .double v)]) dX3_bitsOf_1 rfl (by decide) rfl ?_
  refine g_ldc2 C (v := 1023) dX3_bitsOf_2 fw_X3_bitsOf_const221 ?_
  refine g_lstore C (lv' := [(4, .long 1023), (2, .double v), (0, .double v)]) dX3_bitsOf_5 (by decide) rfl ?_
  refine g_lv [2, 1, 0] (lv' := [(0, .double v), (2, .double v), (4, .long 1023)]) rfl ?_
  exact K k9 _ _ hk9 rfl
theorem gt7 {k : Nat} (h : k < 8) : ¬ (7 : Int32) < nI k := fun z => absurd ((nI_ltI (a := 7) (b := k) (by decide) (by omega)).mp z) (by omega)
theorem fw_X3_digest_fld26 : Cond.fieldLink RX3 26 "StuckRods" "text" "LStuckRods$SumText;" ∈ wsX3_digest := (List.mem_cons_of_mem _ (List.mem_append_left _ (List.mem_append_left _ (List.mem_append_left _ (List.mem_append_left _ (List.mem_append_left _ (List.mem_append_left _ (List.mem_append_left _ (List.mem_of_getElem? (i := 2) rfl)))))))))
theorem fl_X3_digest_X3 : ∀ w ∈ wsX30, w ∈ wsX3_digest := fun _ h => List.mem_cons_of_mem _ (List.mem_append_left _ (List.mem_append_left _ (List.mem_append_left _ (List.mem_append_left _ (List.mem_append_left _ (List.mem_append_right _ h))))))
theorem fw_X3_digest_fld85 : Cond.fieldLink RX3 85 "StuckRods$SumText" "length" "I" ∈ wsX3_digest := (List.mem_cons_of_mem _ (List.mem_append_left _ (List.mem_append_left _ (List.mem_append_left _ (List.mem_append_left _ (List.mem_append_left _ (List.mem_append_left _ (List.mem_append_left _ (List.mem_of_getElem? (i := 3) rfl)))))))))
theorem fl_X3_digest_X2 : ∀ w ∈ wsX20, w ∈ wsX3_digest := fun _ h => List.mem_cons_of_mem _ (List.mem_append_left _ (List.mem_append_left _ (List.mem_append_left _ (List.mem_append_left _ (List.mem_append_right _ h)))))
theorem fw_X3_digest_fld90 : Cond.fieldLink RX3 90 "StuckRods$SumText" "codes" "[I" ∈ wsX3_digest := (List.mem_cons_of_mem _ (List.mem_append_left _ (List.mem_append_left _ (List.mem_append_left _ (List.mem_append_left _ (List.mem_append_left _ (List.mem_append_left _ (List.mem_append_left _ (List.mem_of_getElem? (i := 4) rfl)))))))))
theorem hd_X3_mixed : yX3_mixed.cls ≠ "java/lang/invoke/MethodHandle" ∧ yX3_mixed.cls ≠ "java/lang/invoke/VarHandle" ∧ (parseMethodDescriptor yX3_mixed.desc).map (fun d => d.parameters.length) = some 2 := by decide +kernel
theorem hd_X3_toShow : yX3_toShow.cls = RX3 ∧ yX3_toShow.cls ≠ "java/lang/invoke/MethodHandle" ∧ yX3_toShow.cls ≠ "java/lang/invoke/VarHandle" ∧ (parseMethodDescriptor yX3_toShow.desc).map (fun d => d.parameters.length) = some 1 := by decide +kernel
theorem fw_X3_digest_const198 : Cond.constant RX3 198 (123456789) ∈ wsX3_digest := (List.mem_cons_of_mem _ (List.mem_append_left _ (List.mem_append_left _ (List.mem_append_left _ (List.mem_append_left _ (List.mem_append_left _ (List.mem_append_left _ (List.mem_append_left _ (List.mem_of_getElem? (i := 1) rfl)))))))))
theorem hd_X3_cheapestLoan : yX3_cheapestLoan.cls = RX3 ∧ yX3_cheapestLoan.cls ≠ "java/lang/invoke/MethodHandle" ∧ yX3_cheapestLoan.cls ≠ "java/lang/invoke/VarHandle" ∧ (parseMethodDescriptor yX3_cheapestLoan.desc).map (fun d => d.parameters.length) = some 0 := by decide +kernel
theorem hd_X3_looseness : yX3_looseness.cls = RX3 ∧ yX3_looseness.cls ≠ "java/lang/invoke/MethodHandle" ∧ yX3_looseness.cls ≠ "java/lang/invoke/VarHandle" ∧ (parseMethodDescriptor yX3_looseness.desc).map (fun d => d.parameters.length) = some 0 := by decide +kernel
theorem hd_X3_bitsOf : yX3_bitsOf.cls ≠ "java/lang/invoke/MethodHandle" ∧ yX3_bitsOf.cls ≠ "java/lang/invoke/VarHandle" ∧ (parseMethodDescriptor yX3_bitsOf.desc).map (fun d => d.parameters.length) = some 1 := by decide +kernel
theorem hd_X3_moves : yX3_moves.cls = RX3 ∧ yX3_moves.cls ≠ "java/lang/invoke/MethodHandle" ∧ yX3_moves.cls ≠ "java/lang/invoke/VarHandle" ∧ (parseMethodDescriptor yX3_moves.desc).map (fun d => d.parameters.length) = some 2 := by decide +kernel
theorem hd_X3_ifAdded : yX3_ifAdded.cls = RX3 ∧ yX3_ifAdded.cls ≠ "java/lang/invoke/MethodHandle" ∧ yX3_ifAdded.cls ≠ "java/lang/invoke/VarHandle" ∧ (parseMethodDescriptor yX3_ifAdded.desc).map (fun d => d.parameters.length) = some 2 := by decide +kernel
theorem hd_X3_rod : yX3_rod.cls = RX3 ∧ yX3_rod.cls ≠ "java/lang/invoke/MethodHandle" ∧ yX3_rod.cls ≠ "java/lang/invoke/VarHandle" ∧ (parseMethodDescriptor yX3_rod.desc).map (fun d => d.parameters.length) = some 2 := by decide +kernel
theorem hd_X3_whole : yX3_whole.cls = RX3 ∧ yX3_whole.cls ≠ "java/lang/invoke/MethodHandle" ∧ yX3_whole.cls ≠ "java/lang/invoke/VarHandle" ∧ (parseMethodDescriptor yX3_whole.desc).map (fun d => d.parameters.length) = some 0 := by decide +kernel
theorem hd_X3_count : yX3_count.cls = RX3 ∧ yX3_count.cls ≠ "java/lang/invoke/MethodHandle" ∧ yX3_count.cls ≠ "java/lang/invoke/VarHandle" ∧ (parseMethodDescriptor yX3_count.desc).map (fun d => d.parameters.length) = some 1 := by decide +kernel
theorem fw_X3_digest_const173 : Cond.constantLong RX3 173 (3299) ∈ wsX3_digest := (List.mem_cons_of_mem _ (List.mem_append_left _ (List.mem_append_left _ (List.mem_append_left _ (List.mem_append_left _ (List.mem_append_left _ (List.mem_append_left _ (List.mem_append_left _ (List.mem_of_getElem? (i := 0) rfl)))))))))
abbrev rmX3_digest : Room := { frames := 6, cells := 0, slots := 0, locals := 149 }
set_option maxHeartbeats 1000000 in
set_option maxRecDepth 100000 in
theorem c_X3_digest (l : Launch) (D : va_G) (cI cO : ClassId) (xa : Nat) (ta ha : Nat → Nat) (hb : Nat → Nat → Nat) (ad : Nat → Nat) (t : Nat → Int32) (n : Nat) (G : Nat → Nat → Int32) (g : Nat → Int32) (o z : Nat) (hn : n ≤ 60) (ho : o < 6) (hz : z ≤ 6) (k9 : Nat) (hk9 : xBok k9 (xLo g) 1023) : cR sF l yX3_digest wsX3_digest rmX3_digest D vwCl (tyA cI cO) [.ref xa] ((wS0 xa ad ha ta) ++ ((wT ta cI t (nI n)) ++ ((wHs ha hb cI cO G (nI o) (nI z)) ++ (wB ad cI g)))) (some (.long (xDg t g z n k9))) ((wS0 xa ad ha ta) ++ ((wT ta cI t (nI n)) ++ ((wHs ha hb cI cO G (nI o) (nI z)) ++ (wB ad cI g)))) := by
  refine cR_of (cc := cX3_digest) (maxL := 5) (ret := (some .long)) (by decide) rfl (Nat.le_of_ble_eq_true rfl) ?_
  intro p e s m below meth c A C hret hlk hnm hF
  refine g_lv [0] (lv' := [(0, .ref xa)]) rfl ?_
  have K4 : ∀ (k q : Nat), k + q = n → gG p l e rmX3_digest s m ([.ref xa] : List Value).toArray below meth c D vwCl A s.heap 5 (MQ below (cQ (some (.long (xDg t g z n k9))) (cB D vwCl (tyA cI cO) A ((wS0 xa ad ha ta) ++ ((wT ta cI t (nI n)) ++ ((wHs ha hb cI cO G (nI o) (nI z)) ++ (wB ad cI g))))) A) ([.ref xa] : List Value).toArray s 0 0 A) 0 0 ((wS0 xa ad ha ta) ++ ((wT ta cI t (nI n)) ++ ((wHs ha hb cI cO G (nI o) (nI z)) ++ (wB ad cI g)))) 229 [(0, .ref xa), (1, .long (dK (xH8 g z n k9) (fun i => (t i).toInt64) q)), (3, .int (nI q))] [] := by
    intro k
    induction k with
    | zero =>
      intro q hn9
      obtain rfl : n = q := by omega
      refine g_iload_n C dX3_digest_229 2 rfl ?_
      refine g_aload_n C dX3_digest_230 0 rfl ?_
      refine g_get C (v := .ref (ta 0)) fl_X3_digest_X3 0 rfl rfl 2 (by decide) fw_X3_digest_fld26 rfl dX3_digest_231 ?_
      refine g_get C (v := .int (nI n)) fl_X3_digest_X2 1 rfl rfl 1 (by decide) fw_X3_digest_fld85 rfl dX3_digest_234 ?_
      refine g_icmp_ge C (tgt := 267) dX3_digest_237 (by decide) (fun _ => ?_) (fun h237_1 => absurd (leI (by omega) (by omega)) h237_1)
      refine g_lload_n C dX3_digest_267 1 rfl ?_
      exact g_lret C hret hlk dX3_digest_268 rfl rfl
    | succ k ih =>
      intro q hn9
      have hq9 : q < n := by omega
      refine g_iload_n C dX3_digest_229 2 rfl ?_
      refine g_aload_n C dX3_digest_230 0 rfl ?_
      refine g_get C (v := .ref (ta 0)) fl_X3_digest_X3 0 rfl rfl 2 (by decide) fw_X3_digest_fld26 rfl dX3_digest_231 ?_
      refine g_get C (v := .int (nI n)) fl_X3_digest_X2 1 rfl rfl 1 (by decide) fw_X3_digest_fld85 rfl dX3_digest_234 ?_
      refine g_icmp_ge C (tgt := 267) dX3_digest_237 (by decide) (fun h237_2 => absurd h237_2 (nleI (by omega) (by omega))) (fun _ => ?_)
      refine g_iload_n C dX3_digest_240 2 rfl ?_
      refine g_bipush C (v := 60) dX3_digest_241 cb_60 ?_
      refine g_icmp_ge C (tgt := 267) dX3_digest_243 (by decide) (fun h243_3 => absurd h243_3 (nleI (b := 60) (by omega) (by decide))) (fun _ => ?_)
      refine g_lload_n C dX3_digest_246 1 rfl ?_
      refine g_aload_n C dX3_digest_247 0 rfl ?_
      refine g_get C (v := .ref (ta 0)) fl_X3_digest_X3 0 rfl rfl 2 (by decide) fw_X3_digest_fld26 rfl dX3_digest_248 ?_
      refine g_get C (v := .ref (ta 1)) fl_X3_digest_X2 1 rfl rfl 0 (by decide) fw_X3_digest_fld90 rfl dX3_digest_251 ?_
      refine g_iload_n C dX3_digest_254 2 rfl ?_
      refine g_iald C (x := t q) 2 0 rfl rfl q rfl (by omega) (by decide) rfl dX3_digest_255 ?_
      refine g_i2l C (v := (t q).toInt64) dX3_digest_256 rfl ?_
      refine g_callSl C (c_X3_mixed l D cI cO (dK (xH8 g z n k9) (fun i => (t i).toInt64) q) ((t q).toInt64)) gX3_digest_X3_mixed rfl ⟨rfl, rfl⟩ hd_X3_mixed ⟨Nat.le_of_ble_eq_true rfl, Nat.le_of_ble_eq_true rfl⟩ [0, 1] rfl (fun _ _ => trivial) rfl (rest := []) rfl (Nat.le_of_ble_eq_true rfl) dX3_digest_257 ⟨Nat.zero_le _, Nat.zero_le _⟩ (pre := []) (post := ((wS0 xa ad ha ta) ++ ((wT ta cI t (nI n)) ++ ((wHs ha hb cI cO G (nI o) (nI z)) ++ (wB ad cI g))))) (ws' := ((wS0 xa ad ha ta) ++ ((wT ta cI t (nI n)) ++ ((wHs ha hb cI cO G (nI o) (nI z)) ++ (wB ad cI g))))) rfl rfl ?_
      refine g_lstore_n C (lv' := [(1, .long (31 * (dK (xH8 g z n k9) (fun i => (t i).toInt64) q) + ((t q).toInt64))), (0, .ref xa), (3, .int (nI q))]) dX3_digest_260 rfl (by decide) rfl ?_
      refine g_iinc C (v := nI (q + 1)) (lv' := [(3, .int (nI (q + 1))), (1, .long (31 * (dK (xH8 g z n k9) (fun i => (t i).toInt64) q) + ((t q).toInt64))), (0, .ref xa)]) dX3_digest_261 2 rfl (inc_nI _) (by decide) rfl ?_
      refine g_goto C (tgt := 229) dX3_digest_264 (by decide) ?_
      refine g_lv [2, 1, 0] (lv' := [(0, .ref xa), (1, .long (31 * (dK (xH8 g z n k9) (fun i => (t i).toInt64) q) + ((t q).toInt64))), (3, .int (nI (q + 1)))]) rfl ?_
      exact ih (q + 1) (by omega)
  have K3 : ∀ (k q : Nat), k + q = 9 → gG p l e rmX3_digest s m ([.ref xa] : List Value).toArray below meth c D vwCl A s.heap 5 (MQ below (cQ (some (.long (xDg t g z n k9))) (cB D vwCl (tyA cI cO) A ((wS0 xa ad ha ta) ++ ((wT ta cI t (nI n)) ++ ((wHs ha hb cI cO G (nI o) (nI z)) ++ (wB ad cI g))))) A) ([.ref xa] : List Value).toArray s 0 0 A) 0 0 ((wS0 xa ad ha ta) ++ ((wT ta cI t (nI n)) ++ ((wHs ha hb cI cO G (nI o) (nI z)) ++ (wB ad cI g)))) 40 [(0, .ref xa), (1, .long (dL (xRC g) (xH3 g z) q)), (3, .int (nI q))] [] := by
    intro k
    induction k with
    | zero =>
      intro q hn9
      obtain rfl : q = 9 := by omega
      refine g_iload_n C dX3_digest_40 2 rfl ?_
      refine g_bipush C (v := 9) dX3_digest_41 cb_9 ?_
      refine g_icmp_ge C (tgt := 169) dX3_digest_43 (by decide) (fun _ => ?_) (fun h43_4 => absurd (by decide) h43_4)
      refine g_lload_n C dX3_digest_169 1 rfl ?_
      refine g_aload_n C dX3_digest_170 0 rfl ?_
      refine g_iconst C (v := 0) dX3_digest_171 ci_0 ?_
      refine g_callVi C (c_X3_toShow l D cI cO xa ta ha hb ad t n G g o z hn ho hz 0 ((by decide))) gX3_digest_X3_toShow rfl ⟨rfl, rfl⟩ hd_X3_toShow ⟨Nat.le_of_ble_eq_true rfl, Nat.le_of_ble_eq_true rfl⟩ [0, 1] rfl (sF_w hF) rfl (rest := [.long (dL (xRC g) (xH3 g z) 9)]) rfl (Nat.le_of_ble_eq_true rfl) dX3_digest_172 ⟨Nat.zero_le _, Nat.zero_le _⟩ 0 rfl rfl rfl (pre := []) (post := []) (ws' := ((wS0 xa ad ha ta) ++ ((wT ta cI t (nI n)) ++ ((wHs ha hb cI cO G (nI o) (nI z)) ++ (wB ad cI g))))) rfl rfl ?_
      refine g_i2l C (v := (xTo g 9 0 0 0).toInt64) dX3_digest_175 rfl ?_
      refine g_callSl C (c_X3_mixed l D cI cO (dL (xRC g) (xH3 g z) 9) ((xTo g 9 0 0 0).toInt64)) gX3_digest_X3_mixed rfl ⟨rfl, rfl⟩ hd_X3_mixed ⟨Nat.le_of_ble_eq_true rfl, Nat.le_of_ble_eq_true rfl⟩ [0, 1] rfl (fun _ _ => trivial) rfl (rest := []) rfl (Nat.le_of_ble_eq_true rfl) dX3_digest_176 ⟨Nat.zero_le _, Nat.zero_le _⟩ (pre := []) (post := ((wS0 xa ad ha ta) ++ ((wT ta cI t (nI n)) ++ ((wHs ha hb cI cO G (nI o) (nI z)) ++ (wB ad cI g))))) (ws' := ((wS0 xa ad ha ta) ++ ((wT ta cI t (nI n)) ++ ((wHs ha hb cI cO G (nI o) (nI z)) ++ (wB ad cI g))))) rfl rfl ?_
      refine g_lstore_n C (lv' := [(1, .long (31 * (dL (xRC g) (xH3 g z) 9) + ((xTo g 9 0 0 0).toInt64))), (0, .ref xa), (3, .int (nI 9))]) dX3_digest_179 rfl (by decide) rfl ?_
      refine g_lload_n C dX3_digest_180 0 rfl ?_
      refine g_aload_n C dX3_digest_181 1 rfl ?_
      refine g_ldc C (v := 123456789) dX3_digest_182 fw_X3_digest_const198 ?_
      refine g_callVi C (c_X3_toShow l D cI cO xa ta ha hb ad t n G g o z hn ho hz 123456789 ((by decide))) gX3_digest_X3_toShow rfl ⟨rfl, rfl⟩ hd_X3_toShow ⟨Nat.le_of_ble_eq_true rfl, Nat.le_of_ble_eq_true rfl⟩ [0, 1] rfl (sF_w hF) rfl (rest := [.long (31 * (dL (xRC g) (xH3 g z) 9) + ((xTo g 9 0 0 0).toInt64))]) rfl (Nat.le_of_ble_eq_true rfl) dX3_digest_184 ⟨Nat.zero_le _, Nat.zero_le _⟩ 0 rfl rfl rfl (pre := []) (post := []) (ws' := ((wS0 xa ad ha ta) ++ ((wT ta cI t (nI n)) ++ ((wHs ha hb cI cO G (nI o) (nI z)) ++ (wB ad cI g))))) rfl rfl ?_
      refine g_i2l C (v := (xTo g 9 0 123456789 0).toInt64) dX3_digest_187 rfl ?_
      refine g_callSl C (c_X3_mixed l D cI cO (31 * (dL (xRC g) (xH3 g z) 9) + ((xTo g 9 0 0 0).toInt64)) ((xTo g 9 0 123456789 0).toInt64)) gX3_digest_X3_mixed rfl ⟨rfl, rfl⟩ hd_X3_mixed ⟨Nat.le_of_ble_eq_true rfl, Nat.le_of_ble_eq_true rfl⟩ [0, 1] rfl (fun _ _ => trivial) rfl (rest := []) rfl (Nat.le_of_ble_eq_true rfl) dX3_digest_188 ⟨Nat.zero_le _, Nat.zero_le _⟩ (pre := []) (post := ((wS0 xa ad ha ta) ++ ((wT ta cI t (nI n)) ++ ((wHs ha hb cI cO G (nI o) (nI z)) ++ (wB ad cI g))))) (ws' := ((wS0 xa ad ha ta) ++ ((wT ta cI t (nI n)) ++ ((wHs ha hb cI cO G (nI o) (nI z)) ++ (wB ad cI g))))) rfl rfl ?_
      refine g_lstore_n C (lv' := [(1, .long (31 * (31 * (dL (xRC g) (xH3 g z) 9) + ((xTo g 9 0 0 0).toInt64)) + ((xTo g 9 0 123456789 0).toInt64))), (0, .ref xa), (3, .int (nI 9))]) dX3_digest_191 rfl (by decide) rfl ?_
      refine g_lload_n C dX3_digest_192 0 rfl ?_
      refine g_aload_n C dX3_digest_193 1 rfl ?_
      refine g_callVi C (c_X3_cheapestLoan l D cI cO xa ta ha hb ad t n G g o z hn ho hz) gX3_digest_X3_cheapestLoan rfl ⟨rfl, rfl⟩ hd_X3_cheapestLoan ⟨Nat.le_of_ble_eq_true rfl, Nat.le_of_ble_eq_true rfl⟩ [0, 1] rfl (sF_w hF) rfl (rest := [.long (31 * (31 * (dL (xRC g) (xH3 g z) 9) + ((xTo g 9 0 0 0).toInt64)) + ((xTo g 9 0 123456789 0).toInt64))]) rfl (Nat.le_of_ble_eq_true rfl) dX3_digest_194 ⟨Nat.zero_le _, Nat.zero_le _⟩ 0 rfl rfl rfl (pre := []) (post := []) (ws' := ((wS0 xa ad ha ta) ++ ((wT ta cI t (nI n)) ++ ((wHs ha hb cI cO G (nI o) (nI z)) ++ (wB ad cI g))))) rfl rfl ?_
      refine g_i2l C (v := ((xCp g 9).1).toInt64) dX3_digest_197 rfl ?_
      refine g_callSl C (c_X3_mixed l D cI cO (31 * (31 * (dL (xRC g) (xH3 g z) 9) + ((xTo g 9 0 0 0).toInt64)) + ((xTo g 9 0 123456789 0).toInt64)) (((xCp g 9).1).toInt64)) gX3_digest_X3_mixed rfl ⟨rfl, rfl⟩ hd_X3_mixed ⟨Nat.le_of_ble_eq_true rfl, Nat.le_of_ble_eq_true rfl⟩ [0, 1] rfl (fun _ _ => trivial) rfl (rest := []) rfl (Nat.le_of_ble_eq_true rfl) dX3_digest_198 ⟨Nat.zero_le _, Nat.zero_le _⟩ (pre := []) (post := ((wS0 xa ad ha ta) ++ ((wT ta cI t (nI n)) ++ ((wHs ha hb cI cO G (nI o) (nI z)) ++ (wB ad cI g))))) (ws' := ((wS0 xa ad ha ta) ++ ((wT ta cI t (nI n)) ++ ((wHs ha hb cI cO G (nI o) (nI z)) ++ (wB ad cI g))))) rfl rfl ?_
      refine g_lstore_n C (lv' := [(1, .long (31 * (31 * (31 * (dL (xRC g) (xH3 g z) 9) + ((xTo g 9 0 0 0).toInt64)) + ((xTo g 9 0 123456789 0).toInt64)) + (((xCp g 9).1).toInt64))), (0, .ref xa), (3, .int (nI 9))]) dX3_digest_201 rfl (by decide) rfl ?_
      refine g_lload_n C dX3_digest_202 0 rfl ?_
      refine g_aload_n C dX3_digest_203 1 rfl ?_
      refine g_callVd C (c_X3_looseness l D cI cO xa ta ha hb ad t n G g o z hn ho hz) gX3_digest_X3_looseness rfl ⟨rfl, rfl⟩ hd_X3_looseness ⟨Nat.le_of_ble_eq_true rfl, Nat.le_of_ble_eq_true rfl⟩ [0, 1] rfl (sF_w hF) rfl (rest := [.long (31 * (31 * (31 * (dL (xRC g) (xH3 g z) 9) + ((xTo g 9 0 0 0).toInt64)) + ((xTo g 9 0 123456789 0).toInt64)) + (((xCp g 9).1).toInt64))]) rfl (Nat.le_of_ble_eq_true rfl) dX3_digest_204 ⟨Nat.zero_le _, Nat.zero_le _⟩ 0 rfl rfl rfl (pre := []) (post := []) (ws' := ((wS0 xa ad ha ta) ++ ((wT ta cI t (nI n)) ++ ((wHs ha hb cI cO G (nI o) (nI z)) ++ (wB ad cI g))))) rfl rfl ?_
      refine g_callSl C (c_X3_bitsOf l D cI cO (xLo g) k9 hk9) gX3_digest_X3_bitsOf rfl ⟨rfl, rfl⟩ hd_X3_bitsOf ⟨Nat.le_of_ble_eq_true rfl, Nat.le_of_ble_eq_true rfl⟩ [0, 1] rfl (fun _ _ => trivial) rfl (rest := [.long (31 * (31 * (31 * (dL (xRC g) (xH3 g z) 9) + ((xTo g 9 0 0 0).toInt64)) + ((xTo g 9 0 123456789 0).toInt64)) + (((xCp g 9).1).toInt64))]) rfl (Nat.le_of_ble_eq_true rfl) dX3_digest_207 ⟨Nat.zero_le _, Nat.zero_le _⟩ (pre := []) (post := ((wS0 xa ad ha ta) ++ ((wT ta cI t (nI n)) ++ ((wHs ha hb cI cO G (nI o) (nI z)) ++ (wB ad cI g))))) (ws' := ((wS0 xa ad ha ta) ++ ((wT ta cI t (nI n)) ++ ((wHs ha hb cI cO G (nI o) (nI z)) ++ (wB ad cI g))))) rfl rfl ?_
      refine g_callSl C (c_X3_mixed l D cI cO (31 * (31 * (31 * (dL (xRC g) (xH3 g z) 9) + ((xTo g 9 0 0 0).toInt64)) + ((xTo g 9 0 123456789 0).toInt64)) + (((xCp g 9).1).toInt64)) (xBf k9 (xLo g) 1023)) gX3_digest_X3_mixed rfl ⟨rfl, rfl⟩ hd_X3_mixed ⟨Nat.le_of_ble_eq_true rfl, Nat.le_of_ble_eq_true rfl⟩ [0, 1] rfl (fun _ _ => trivial) rfl (rest := []) rfl (Nat.le_of_ble_eq_true rfl) dX3_digest_210 ⟨Nat.zero_le _, Nat.zero_le _⟩ (pre := []) (post := ((wS0 xa ad ha ta) ++ ((wT ta cI t (nI n)) ++ ((wHs ha hb cI cO G (nI o) (nI z)) ++ (wB ad cI g))))) (ws' := ((wS0 xa ad ha ta) ++ ((wT ta cI t (nI n)) ++ ((wHs ha hb cI cO G (nI o) (nI z)) ++ (wB ad cI g))))) rfl rfl ?_
      refine g_lstore_n C (lv' := [(1, .long (31 * (31 * (31 * (31 * (dL (xRC g) (xH3 g z) 9) + ((xTo g 9 0 0 0).toInt64)) + ((xTo g 9 0 123456789 0).toInt64)) + (((xCp g 9).1).toInt64)) + (xBf k9 (xLo g) 1023))), (0, .ref xa), (3, .int (nI 9))]) dX3_digest_213 rfl (by decide) rfl ?_
      refine g_lload_n C dX3_digest_214 0 rfl ?_
      refine g_aload_n C dX3_digest_215 1 rfl ?_
      refine g_get C (v := .ref (ta 0)) fl_X3_digest_X3 0 rfl rfl 2 (by decide) fw_X3_digest_fld26 rfl dX3_digest_216 ?_
      refine g_get C (v := .int (nI n)) fl_X3_digest_X2 1 rfl rfl 1 (by decide) fw_X3_digest_fld85 rfl dX3_digest_219 ?_
      refine g_i2l C (v := (nI n).toInt64) dX3_digest_222 rfl ?_
      refine g_callSl C (c_X3_mixed l D cI cO (31 * (31 * (31 * (31 * (dL (xRC g) (xH3 g z) 9) + ((xTo g 9 0 0 0).toInt64)) + ((xTo g 9 0 123456789 0).toInt64)) + (((xCp g 9).1).toInt64)) + (xBf k9 (xLo g) 1023)) ((nI n).toInt64)) gX3_digest_X3_mixed rfl ⟨rfl, rfl⟩ hd_X3_mixed ⟨Nat.le_of_ble_eq_true rfl, Nat.le_of_ble_eq_true rfl⟩ [0, 1] rfl (fun _ _ => trivial) rfl (rest := []) rfl (Nat.le_of_ble_eq_true rfl) dX3_digest_223 ⟨Nat.zero_le _, Nat.zero_le _⟩ (pre := []) (post := ((wS0 xa ad ha ta) ++ ((wT ta cI t (nI n)) ++ ((wHs ha hb cI cO G (nI o) (nI z)) ++ (wB ad cI g))))) (ws' := ((wS0 xa ad ha ta) ++ ((wT ta cI t (nI n)) ++ ((wHs ha hb cI cO G (nI o) (nI z)) ++ (wB ad cI g))))) rfl rfl ?_
      refine g_lstore_n C (lv' := [(1, .long (31 * (31 * (31 * (31 * (31 * (dL (xRC g) (xH3 g z) 9) + ((xTo g 9 0 0 0).toInt64)) + ((xTo g 9 0 123456789 0).toInt64)) + (((xCp g 9).1).toInt64)) + (xBf k9 (xLo g) 1023)) + ((nI n).toInt64))), (0, .ref xa), (3, .int (nI 9))]) dX3_digest_226 rfl (by decide) rfl ?_
      refine g_iconst C (v := 0) dX3_digest_227 ci_0 ?_
      refine g_istore_n C (lv' := [(3, .int 0), (1, .long (31 * (31 * (31 * (31 * (31 * (dL (xRC g) (xH3 g z) 9) + ((xTo g 9 0 0 0).toInt64)) + ((xTo g 9 0 123456789 0).toInt64)) + (((xCp g 9).1).toInt64)) + (xBf k9 (xLo g) 1023)) + ((nI n).toInt64))), (0, .ref xa)]) dX3_digest_228 rfl (by decide) rfl ?_
      refine g_lv [2, 1, 0] (lv' := [(0, .ref xa), (1, .long (31 * (31 * (31 * (31 * (31 * (dL (xRC g) (xH3 g z) 9) + ((xTo g 9 0 0 0).toInt64)) + ((xTo g 9 0 123456789 0).toInt64)) + (((xCp g 9).1).toInt64)) + (xBf k9 (xLo g) 1023)) + ((nI n).toInt64))), (3, .int 0)]) rfl ?_
      exact K4 n 0 rfl
    | succ k ih =>
      intro q hn9
      have hq9 : q < 9 := by omega
      have K2 : ∀ (k w : Nat), k + w = 8 → gG p l e rmX3_digest s m ([.ref xa] : List Value).toArray below meth c D vwCl A s.heap 5 (MQ below (cQ (some (.long (xDg t g z n k9))) (cB D vwCl (tyA cI cO) A ((wS0 xa ad ha ta) ++ ((wT ta cI t (nI n)) ++ ((wHs ha hb cI cO G (nI o) (nI z)) ++ (wB ad cI g))))) A) ([.ref xa] : List Value).toArray s 0 0 A) 0 0 ((wS0 xa ad ha ta) ++ ((wT ta cI t (nI n)) ++ ((wHs ha hb cI cO G (nI o) (nI z)) ++ (wB ad cI g)))) 49 [(0, .ref xa), (1, .long (dK (dL (xRC g) (xH3 g z) q) (fun w => (xRod g q w).toInt64) w)), (3, .int (nI q)), (4, .int (nI w))] [] := by
        intro k
        induction k with
        | zero =>
          intro w hn9
          obtain rfl : w = 8 := by omega
          refine g_iload C dX3_digest_49 3 rfl ?_
          refine g_bipush C (v := 7) dX3_digest_51 cb_7 ?_
          refine g_icmp_gt C (tgt := 75) dX3_digest_53 (by decide) (fun _ => ?_) (fun h53_5 => absurd (by decide) h53_5)
          refine g_lload_n C dX3_digest_75 1 rfl ?_
          refine g_aload_n C dX3_digest_76 0 rfl ?_
          refine g_iload_n C dX3_digest_77 2 rfl ?_
          refine g_iconst C (v := 0) dX3_digest_78 ci_0 ?_
          refine g_callVi C (c_X3_moves l D cI cO xa ta ha hb ad t n G g o z hn ho hz q hq9 0 ((by decide)) ((by decide))) gX3_digest_X3_moves rfl ⟨rfl, rfl⟩ hd_X3_moves ⟨Nat.le_of_ble_eq_true rfl, Nat.le_of_ble_eq_true rfl⟩ [0, 1] rfl (sF_w hF) rfl (rest := [.long (dK (dL (xRC g) (xH3 g z) q) (fun w => (xRod g q w).toInt64) 8)]) rfl (Nat.le_of_ble_eq_true rfl) dX3_digest_79 ⟨Nat.zero_le _, Nat.zero_le _⟩ 0 rfl rfl rfl (pre := []) (post := []) (ws' := ((wS0 xa ad ha ta) ++ ((wT ta cI t (nI n)) ++ ((wHs ha hb cI cO G (nI o) (nI z)) ++ (wB ad cI g))))) rfl rfl ?_
          refine g_i2l C (v := (xTv g q 0).toInt64) dX3_digest_82 rfl ?_
          refine g_callSl C (c_X3_mixed l D cI cO (dK (dL (xRC g) (xH3 g z) q) (fun w => (xRod g q w).toInt64) 8) ((xTv g q 0).toInt64)) gX3_digest_X3_mixed rfl ⟨rfl, rfl⟩ hd_X3_mixed ⟨Nat.le_of_ble_eq_true rfl, Nat.le_of_ble_eq_true rfl⟩ [0, 1] rfl (fun _ _ => trivial) rfl (rest := []) rfl (Nat.le_of_ble_eq_true rfl) dX3_digest_83 ⟨Nat.zero_le _, Nat.zero_le _⟩ (pre := []) (post := ((wS0 xa ad ha ta) ++ ((wT ta cI t (nI n)) ++ ((wHs ha hb cI cO G (nI o) (nI z)) ++ (wB ad cI g))))) (ws' := ((wS0 xa ad ha ta) ++ ((wT ta cI t (nI n)) ++ ((wHs ha hb cI cO G (nI o) (nI z)) ++ (wB ad cI g))))) rfl rfl ?_
          refine g_lstore_n C (lv' := [(1, .long (31 * (dK (dL (xRC g) (xH3 g z) q) (fun w => (xRod g q w).toInt64) 8) + ((xTv g q 0).toInt64))), (0, .ref xa), (3, .int (nI q)), (4, .int (nI 8))]) dX3_digest_86 rfl (by decide) rfl ?_
          refine g_lload_n C dX3_digest_87 0 rfl ?_
          refine g_aload_n C dX3_digest_88 1 rfl ?_
          refine g_iload_n C dX3_digest_89 2 rfl ?_
          refine g_bipush C (v := 7) dX3_digest_90 cb_7 ?_
          refine g_callVi C (c_X3_moves l D cI cO xa ta ha hb ad t n G g o z hn ho hz q hq9 7 ((by decide)) ((by decide))) gX3_digest_X3_moves rfl ⟨rfl, rfl⟩ hd_X3_moves ⟨Nat.le_of_ble_eq_true rfl, Nat.le_of_ble_eq_true rfl⟩ [0, 1] rfl (sF_w hF) rfl (rest := [.long (31 * (dK (dL (xRC g) (xH3 g z) q) (fun w => (xRod g q w).toInt64) 8) + ((xTv g q 0).toInt64))]) rfl (Nat.le_of_ble_eq_true rfl) dX3_digest_92 ⟨Nat.zero_le _, Nat.zero_le _⟩ 0 rfl rfl rfl (pre := []) (post := []) (ws' := ((wS0 xa ad ha ta) ++ ((wT ta cI t (nI n)) ++ ((wHs ha hb cI cO G (nI o) (nI z)) ++ (wB ad cI g))))) rfl rfl ?_
          refine g_i2l C (v := (xTv g q 7).toInt64) dX3_digest_95 rfl ?_
          refine g_callSl C (c_X3_mixed l D cI cO (31 * (dK (dL (xRC g) (xH3 g z) q) (fun w => (xRod g q w).toInt64) 8) + ((xTv g q 0).toInt64)) ((xTv g q 7).toInt64)) gX3_digest_X3_mixed rfl ⟨rfl, rfl⟩ hd_X3_mixed ⟨Nat.le_of_ble_eq_true rfl, Nat.le_of_ble_eq_true rfl⟩ [0, 1] rfl (fun _ _ => trivial) rfl (rest := []) rfl (Nat.le_of_ble_eq_true rfl) dX3_digest_96 ⟨Nat.zero_le _, Nat.zero_le _⟩ (pre := []) (post := ((wS0 xa ad ha ta) ++ ((wT ta cI t (nI n)) ++ ((wHs ha hb cI cO G (nI o) (nI z)) ++ (wB ad cI g))))) (ws' := ((wS0 xa ad ha ta) ++ ((wT ta cI t (nI n)) ++ ((wHs ha hb cI cO G (nI o) (nI z)) ++ (wB ad cI g))))) rfl rfl ?_
          refine g_lstore_n C (lv' := [(1, .long (31 * (31 * (dK (dL (xRC g) (xH3 g z) q) (fun w => (xRod g q w).toInt64) 8) + ((xTv g q 0).toInt64)) + ((xTv g q 7).toInt64))), (0, .ref xa), (3, .int (nI q)), (4, .int (nI 8))]) dX3_digest_99 rfl (by decide) rfl ?_
          refine g_lload_n C dX3_digest_100 0 rfl ?_
          refine g_aload_n C dX3_digest_101 1 rfl ?_
          refine g_iload_n C dX3_digest_102 2 rfl ?_
          refine g_bipush C (v := 15) dX3_digest_103 cb_15 ?_
          refine g_callVi C (c_X3_moves l D cI cO xa ta ha hb ad t n G g o z hn ho hz q hq9 15 ((by decide)) ((by decide))) gX3_digest_X3_moves rfl ⟨rfl, rfl⟩ hd_X3_moves ⟨Nat.le_of_ble_eq_true rfl, Nat.le_of_ble_eq_true rfl⟩ [0, 1] rfl (sF_w hF) rfl (rest := [.long (31 * (31 * (dK (dL (xRC g) (xH3 g z) q) (fun w => (xRod g q w).toInt64) 8) + ((xTv g q 0).toInt64)) + ((xTv g q 7).toInt64))]) rfl (Nat.le_of_ble_eq_true rfl) dX3_digest_105 ⟨Nat.zero_le _, Nat.zero_le _⟩ 0 rfl rfl rfl (pre := []) (post := []) (ws' := ((wS0 xa ad ha ta) ++ ((wT ta cI t (nI n)) ++ ((wHs ha hb cI cO G (nI o) (nI z)) ++ (wB ad cI g))))) rfl rfl ?_
          refine g_i2l C (v := (xTv g q 15).toInt64) dX3_digest_108 rfl ?_
          refine g_callSl C (c_X3_mixed l D cI cO (31 * (31 * (dK (dL (xRC g) (xH3 g z) q) (fun w => (xRod g q w).toInt64) 8) + ((xTv g q 0).toInt64)) + ((xTv g q 7).toInt64)) ((xTv g q 15).toInt64)) gX3_digest_X3_mixed rfl ⟨rfl, rfl⟩ hd_X3_mixed ⟨Nat.le_of_ble_eq_true rfl, Nat.le_of_ble_eq_true rfl⟩ [0, 1] rfl (fun _ _ => trivial) rfl (rest := []) rfl (Nat.le_of_ble_eq_true rfl) dX3_digest_109 ⟨Nat.zero_le _, Nat.zero_le _⟩ (pre := []) (post := ((wS0 xa ad ha ta) ++ ((wT ta cI t (nI n)) ++ ((wHs ha hb cI cO G (nI o) (nI z)) ++ (wB ad cI g))))) (ws' := ((wS0 xa ad ha ta) ++ ((wT ta cI t (nI n)) ++ ((wHs ha hb cI cO G (nI o) (nI z)) ++ (wB ad cI g))))) rfl rfl ?_
          refine g_lstore_n C (lv' := [(1, .long (31 * (31 * (31 * (dK (dL (xRC g) (xH3 g z) q) (fun w => (xRod g q w).toInt64) 8) + ((xTv g q 0).toInt64)) + ((xTv g q 7).toInt64)) + ((xTv g q 15).toInt64))), (0, .ref xa), (3, .int (nI q)), (4, .int (nI 8))]) dX3_digest_112 rfl (by decide) rfl ?_
          refine g_lload_n C dX3_digest_113 0 rfl ?_
          refine g_aload_n C dX3_digest_114 1 rfl ?_
          refine g_iload_n C dX3_digest_115 2 rfl ?_
          refine g_iconst C (v := 1) dX3_digest_116 ci_1 ?_
          refine g_callVi C (c_X3_ifAdded l D cI cO xa ta ha hb ad t n G g o z hn ho hz q hq9 1 ((by decide)) ((by decide))) gX3_digest_X3_ifAdded rfl ⟨rfl, rfl⟩ hd_X3_ifAdded ⟨Nat.le_of_ble_eq_true rfl, Nat.le_of_ble_eq_true rfl⟩ [0, 1] rfl (sF_w hF) rfl (rest := [.long (31 * (31 * (31 * (dK (dL (xRC g) (xH3 g z) q) (fun w => (xRod g q w).toInt64) 8) + ((xTv g q 0).toInt64)) + ((xTv g q 7).toInt64)) + ((xTv g q 15).toInt64))]) rfl (Nat.le_of_ble_eq_true rfl) dX3_digest_117 ⟨Nat.zero_le _, Nat.zero_le _⟩ 0 rfl rfl rfl (pre := []) (post := []) (ws' := ((wS0 xa ad ha ta) ++ ((wT ta cI t (nI n)) ++ ((wHs ha hb cI cO G (nI o) (nI z)) ++ (wB ad cI g))))) rfl rfl ?_
          refine g_i2l C (v := ((xCh g q 1 0).1).toInt64) dX3_digest_120 rfl ?_
          refine g_callSl C (c_X3_mixed l D cI cO (31 * (31 * (31 * (dK (dL (xRC g) (xH3 g z) q) (fun w => (xRod g q w).toInt64) 8) + ((xTv g q 0).toInt64)) + ((xTv g q 7).toInt64)) + ((xTv g q 15).toInt64)) (((xCh g q 1 0).1).toInt64)) gX3_digest_X3_mixed rfl ⟨rfl, rfl⟩ hd_X3_mixed ⟨Nat.le_of_ble_eq_true rfl, Nat.le_of_ble_eq_true rfl⟩ [0, 1] rfl (fun _ _ => trivial) rfl (rest := []) rfl (Nat.le_of_ble_eq_true rfl) dX3_digest_121 ⟨Nat.zero_le _, Nat.zero_le _⟩ (pre := []) (post := ((wS0 xa ad ha ta) ++ ((wT ta cI t (nI n)) ++ ((wHs ha hb cI cO G (nI o) (nI z)) ++ (wB ad cI g))))) (ws' := ((wS0 xa ad ha ta) ++ ((wT ta cI t (nI n)) ++ ((wHs ha hb cI cO G (nI o) (nI z)) ++ (wB ad cI g))))) rfl rfl ?_
          refine g_lstore_n C (lv' := [(1, .long (31 * (31 * (31 * (31 * (dK (dL (xRC g) (xH3 g z) q) (fun w => (xRod g q w).toInt64) 8) + ((xTv g q 0).toInt64)) + ((xTv g q 7).toInt64)) + ((xTv g q 15).toInt64)) + (((xCh g q 1 0).1).toInt64))), (0, .ref xa), (3, .int (nI q)), (4, .int (nI 8))]) dX3_digest_124 rfl (by decide) rfl ?_
          refine g_lload_n C dX3_digest_125 0 rfl ?_
          refine g_aload_n C dX3_digest_126 1 rfl ?_
          refine g_iload_n C dX3_digest_127 2 rfl ?_
          refine g_bipush C (v := 6) dX3_digest_128 cb_6 ?_
          refine g_callVi C (c_X3_ifAdded l D cI cO xa ta ha hb ad t n G g o z hn ho hz q hq9 6 ((by decide)) ((by decide))) gX3_digest_X3_ifAdded rfl ⟨rfl, rfl⟩ hd_X3_ifAdded ⟨Nat.le_of_ble_eq_true rfl, Nat.le_of_ble_eq_true rfl⟩ [0, 1] rfl (sF_w hF) rfl (rest := [.long (31 * (31 * (31 * (31 * (dK (dL (xRC g) (xH3 g z) q) (fun w => (xRod g q w).toInt64) 8) + ((xTv g q 0).toInt64)) + ((xTv g q 7).toInt64)) + ((xTv g q 15).toInt64)) + (((xCh g q 1 0).1).toInt64))]) rfl (Nat.le_of_ble_eq_true rfl) dX3_digest_130 ⟨Nat.zero_le _, Nat.zero_le _⟩ 0 rfl rfl rfl (pre := []) (post := []) (ws' := ((wS0 xa ad ha ta) ++ ((wT ta cI t (nI n)) ++ ((wHs ha hb cI cO G (nI o) (nI z)) ++ (wB ad cI g))))) rfl rfl ?_
          refine g_i2l C (v := ((xCh g q 6 0).1).toInt64) dX3_digest_133 rfl ?_
          refine g_callSl C (c_X3_mixed l D cI cO (31 * (31 * (31 * (31 * (dK (dL (xRC g) (xH3 g z) q) (fun w => (xRod g q w).toInt64) 8) + ((xTv g q 0).toInt64)) + ((xTv g q 7).toInt64)) + ((xTv g q 15).toInt64)) + (((xCh g q 1 0).1).toInt64)) (((xCh g q 6 0).1).toInt64)) gX3_digest_X3_mixed rfl ⟨rfl, rfl⟩ hd_X3_mixed ⟨Nat.le_of_ble_eq_true rfl, Nat.le_of_ble_eq_true rfl⟩ [0, 1] rfl (fun _ _ => trivial) rfl (rest := []) rfl (Nat.le_of_ble_eq_true rfl) dX3_digest_134 ⟨Nat.zero_le _, Nat.zero_le _⟩ (pre := []) (post := ((wS0 xa ad ha ta) ++ ((wT ta cI t (nI n)) ++ ((wHs ha hb cI cO G (nI o) (nI z)) ++ (wB ad cI g))))) (ws' := ((wS0 xa ad ha ta) ++ ((wT ta cI t (nI n)) ++ ((wHs ha hb cI cO G (nI o) (nI z)) ++ (wB ad cI g))))) rfl rfl ?_
          refine g_lstore_n C (lv' := [(1, .long (31 * (31 * (31 * (31 * (31 * (dK (dL (xRC g) (xH3 g z) q) (fun w => (xRod g q w).toInt64) 8) + ((xTv g q 0).toInt64)) + ((xTv g q 7).toInt64)) + ((xTv g q 15).toInt64)) + (((xCh g q 1 0).1).toInt64)) + (((xCh g q 6 0).1).toInt64))), (0, .ref xa), (3, .int (nI q)), (4, .int (nI 8))]) dX3_digest_137 rfl (by decide) rfl ?_
          refine g_lload_n C dX3_digest_138 0 rfl ?_
          refine g_aload_n C dX3_digest_139 1 rfl ?_
          refine g_iload_n C dX3_digest_140 2 rfl ?_
          refine g_iconst C (v := -1) dX3_digest_141 ci_m1 ?_
          refine g_callVi C (c_X3_ifAdded l D cI cO xa ta ha hb ad t n G g o z hn ho hz q hq9 (-1) ((by decide)) ((by decide))) gX3_digest_X3_ifAdded rfl ⟨rfl, rfl⟩ hd_X3_ifAdded ⟨Nat.le_of_ble_eq_true rfl, Nat.le_of_ble_eq_true rfl⟩ [0, 1] rfl (sF_w hF) rfl (rest := [.long (31 * (31 * (31 * (31 * (31 * (dK (dL (xRC g) (xH3 g z) q) (fun w => (xRod g q w).toInt64) 8) + ((xTv g q 0).toInt64)) + ((xTv g q 7).toInt64)) + ((xTv g q 15).toInt64)) + (((xCh g q 1 0).1).toInt64)) + (((xCh g q 6 0).1).toInt64))]) rfl (Nat.le_of_ble_eq_true rfl) dX3_digest_142 ⟨Nat.zero_le _, Nat.zero_le _⟩ 0 rfl rfl rfl (pre := []) (post := []) (ws' := ((wS0 xa ad ha ta) ++ ((wT ta cI t (nI n)) ++ ((wHs ha hb cI cO G (nI o) (nI z)) ++ (wB ad cI g))))) rfl rfl ?_
          refine g_i2l C (v := ((xCh g q (-1) 0).1).toInt64) dX3_digest_145 rfl ?_
          refine g_callSl C (c_X3_mixed l D cI cO (31 * (31 * (31 * (31 * (31 * (dK (dL (xRC g) (xH3 g z) q) (fun w => (xRod g q w).toInt64) 8) + ((xTv g q 0).toInt64)) + ((xTv g q 7).toInt64)) + ((xTv g q 15).toInt64)) + (((xCh g q 1 0).1).toInt64)) + (((xCh g q 6 0).1).toInt64)) (((xCh g q (-1) 0).1).toInt64)) gX3_digest_X3_mixed rfl ⟨rfl, rfl⟩ hd_X3_mixed ⟨Nat.le_of_ble_eq_true rfl, Nat.le_of_ble_eq_true rfl⟩ [0, 1] rfl (fun _ _ => trivial) rfl (rest := []) rfl (Nat.le_of_ble_eq_true rfl) dX3_digest_146 ⟨Nat.zero_le _, Nat.zero_le _⟩ (pre := []) (post := ((wS0 xa ad ha ta) ++ ((wT ta cI t (nI n)) ++ ((wHs ha hb cI cO G (nI o) (nI z)) ++ (wB ad cI g))))) (ws' := ((wS0 xa ad ha ta) ++ ((wT ta cI t (nI n)) ++ ((wHs ha hb cI cO G (nI o) (nI z)) ++ (wB ad cI g))))) rfl rfl ?_
          refine g_lstore_n C (lv' := [(1, .long (31 * (31 * (31 * (31 * (31 * (31 * (dK (dL (xRC g) (xH3 g z) q) (fun w => (xRod g q w).toInt64) 8) + ((xTv g q 0).toInt64)) + ((xTv g q 7).toInt64)) + ((xTv g q 15).toInt64)) + (((xCh g q 1 0).1).toInt64)) + (((xCh g q 6 0).1).toInt64)) + (((xCh g q (-1) 0).1).toInt64))), (0, .ref xa), (3, .int (nI q)), (4, .int (nI 8))]) dX3_digest_149 rfl (by decide) rfl ?_
          refine g_lload_n C dX3_digest_150 0 rfl ?_
          refine g_aload_n C dX3_digest_151 1 rfl ?_
          refine g_iload_n C dX3_digest_152 2 rfl ?_
          refine g_bipush C (v := -6) dX3_digest_153 cb_m6 ?_
          refine g_callVi C (c_X3_ifAdded l D cI cO xa ta ha hb ad t n G g o z hn ho hz q hq9 (-6) ((by decide)) ((by decide))) gX3_digest_X3_ifAdded rfl ⟨rfl, rfl⟩ hd_X3_ifAdded ⟨Nat.le_of_ble_eq_true rfl, Nat.le_of_ble_eq_true rfl⟩ [0, 1] rfl (sF_w hF) rfl (rest := [.long (31 * (31 * (31 * (31 * (31 * (31 * (dK (dL (xRC g) (xH3 g z) q) (fun w => (xRod g q w).toInt64) 8) + ((xTv g q 0).toInt64)) + ((xTv g q 7).toInt64)) + ((xTv g q 15).toInt64)) + (((xCh g q 1 0).1).toInt64)) + (((xCh g q 6 0).1).toInt64)) + (((xCh g q (-1) 0).1).toInt64))]) rfl (Nat.le_of_ble_eq_true rfl) dX3_digest_155 ⟨Nat.zero_le _, Nat.zero_le _⟩ 0 rfl rfl rfl (pre := []) (post := []) (ws' := ((wS0 xa ad ha ta) ++ ((wT ta cI t (nI n)) ++ ((wHs ha hb cI cO G (nI o) (nI z)) ++ (wB ad cI g))))) rfl rfl ?_
          refine g_i2l C (v := ((xCh g q (-6) 0).1).toInt64) dX3_digest_158 rfl ?_
          refine g_callSl C (c_X3_mixed l D cI cO (31 * (31 * (31 * (31 * (31 * (31 * (dK (dL (xRC g) (xH3 g z) q) (fun w => (xRod g q w).toInt64) 8) + ((xTv g q 0).toInt64)) + ((xTv g q 7).toInt64)) + ((xTv g q 15).toInt64)) + (((xCh g q 1 0).1).toInt64)) + (((xCh g q 6 0).1).toInt64)) + (((xCh g q (-1) 0).1).toInt64)) (((xCh g q (-6) 0).1).toInt64)) gX3_digest_X3_mixed rfl ⟨rfl, rfl⟩ hd_X3_mixed ⟨Nat.le_of_ble_eq_true rfl, Nat.le_of_ble_eq_true rfl⟩ [0, 1] rfl (fun _ _ => trivial) rfl (rest := []) rfl (Nat.le_of_ble_eq_true rfl) dX3_digest_159 ⟨Nat.zero_le _, Nat.zero_le _⟩ (pre := []) (post := ((wS0 xa ad ha ta) ++ ((wT ta cI t (nI n)) ++ ((wHs ha hb cI cO G (nI o) (nI z)) ++ (wB ad cI g))))) (ws' := ((wS0 xa ad ha ta) ++ ((wT ta cI t (nI n)) ++ ((wHs ha hb cI cO G (nI o) (nI z)) ++ (wB ad cI g))))) rfl rfl ?_
          refine g_lstore_n C (lv' := [(1, .long (31 * (31 * (31 * (31 * (31 * (31 * (31 * (dK (dL (xRC g) (xH3 g z) q) (fun w => (xRod g q w).toInt64) 8) + ((xTv g q 0).toInt64)) + ((xTv g q 7).toInt64)) + ((xTv g q 15).toInt64)) + (((xCh g q 1 0).1).toInt64)) + (((xCh g q 6 0).1).toInt64)) + (((xCh g q (-1) 0).1).toInt64)) + (((xCh g q (-6) 0).1).toInt64))), (0, .ref xa), (3, .int (nI q)), (4, .int (nI 8))]) dX3_digest_162 rfl (by decide) rfl ?_
          refine g_iinc C (v := nI (q + 1)) (lv' := [(3, .int (nI (q + 1))), (1, .long (31 * (31 * (31 * (31 * (31 * (31 * (31 * (dK (dL (xRC g) (xH3 g z) q) (fun w => (xRod g q w).toInt64) 8) + ((xTv g q 0).toInt64)) + ((xTv g q 7).toInt64)) + ((xTv g q 15).toInt64)) + (((xCh g q 1 0).1).toInt64)) + (((xCh g q 6 0).1).toInt64)) + (((xCh g q (-1) 0).1).toInt64)) + (((xCh g q (-6) 0).1).toInt64))), (0, .ref xa), (4, .int (nI 8))]) dX3_digest_163 2 rfl (inc_nI _) (by decide) rfl ?_
          refine g_goto C (tgt := 40) dX3_digest_166 (by decide) ?_
          refine g_lv [2, 1, 0] (lv' := [(0, .ref xa), (1, .long (31 * (31 * (31 * (31 * (31 * (31 * (31 * (dK (dL (xRC g) (xH3 g z) q) (fun w => (xRod g q w).toInt64) 8) + ((xTv g q 0).toInt64)) + ((xTv g q 7).toInt64)) + ((xTv g q 15).toInt64)) + (((xCh g q 1 0).1).toInt64)) + (((xCh g q 6 0).1).toInt64)) + (((xCh g q (-1) 0).1).toInt64)) + (((xCh g q (-6) 0).1).toInt64))), (3, .int (nI (q + 1)))]) rfl ?_
          exact ih (q + 1) (by omega)
        | succ k ih =>
          intro w hn9
          have hw8 : w < 8 := by omega
          refine g_iload C dX3_digest_49 3 rfl ?_
          refine g_bipush C (v := 7) dX3_digest_51 cb_7 ?_
          refine g_icmp_gt C (tgt := 75) dX3_digest_53 (by decide) (fun h53_6 => absurd h53_6 (gt7 hw8)) (fun _ => ?_)
          refine g_lload_n C dX3_digest_56 1 rfl ?_
          refine g_aload_n C dX3_digest_57 0 rfl ?_
          refine g_iload_n C dX3_digest_58 2 rfl ?_
          refine g_iload C dX3_digest_59 3 rfl ?_
          refine g_callVi C (c_X3_rod l D cI cO xa ta ha hb ad t n G g o z hn ho hz q hq9 w ((by omega))) gX3_digest_X3_rod rfl ⟨rfl, rfl⟩ hd_X3_rod ⟨Nat.le_of_ble_eq_true rfl, Nat.le_of_ble_eq_true rfl⟩ [0, 1] rfl (sF_w hF) rfl (rest := [.long (dK (dL (xRC g) (xH3 g z) q) (fun w => (xRod g q w).toInt64) w)]) rfl (Nat.le_of_ble_eq_true rfl) dX3_digest_61 ⟨Nat.zero_le _, Nat.zero_le _⟩ 0 rfl rfl rfl (pre := []) (post := []) (ws' := ((wS0 xa ad ha ta) ++ ((wT ta cI t (nI n)) ++ ((wHs ha hb cI cO G (nI o) (nI z)) ++ (wB ad cI g))))) rfl rfl ?_
          refine g_i2l C (v := (xRod g q w).toInt64) dX3_digest_64 rfl ?_
          refine g_callSl C (c_X3_mixed l D cI cO (dK (dL (xRC g) (xH3 g z) q) (fun w => (xRod g q w).toInt64) w) ((xRod g q w).toInt64)) gX3_digest_X3_mixed rfl ⟨rfl, rfl⟩ hd_X3_mixed ⟨Nat.le_of_ble_eq_true rfl, Nat.le_of_ble_eq_true rfl⟩ [0, 1] rfl (fun _ _ => trivial) rfl (rest := []) rfl (Nat.le_of_ble_eq_true rfl) dX3_digest_65 ⟨Nat.zero_le _, Nat.zero_le _⟩ (pre := []) (post := ((wS0 xa ad ha ta) ++ ((wT ta cI t (nI n)) ++ ((wHs ha hb cI cO G (nI o) (nI z)) ++ (wB ad cI g))))) (ws' := ((wS0 xa ad ha ta) ++ ((wT ta cI t (nI n)) ++ ((wHs ha hb cI cO G (nI o) (nI z)) ++ (wB ad cI g))))) rfl rfl ?_
          refine g_lstore_n C (lv' := [(1, .long (31 * (dK (dL (xRC g) (xH3 g z) q) (fun w => (xRod g q w).toInt64) w) + ((xRod g q w).toInt64))), (0, .ref xa), (3, .int (nI q)), (4, .int (nI w))]) dX3_digest_68 rfl (by decide) rfl ?_
          refine g_iinc C (v := nI (w + 1)) (lv' := [(4, .int (nI (w + 1))), (1, .long (31 * (dK (dL (xRC g) (xH3 g z) q) (fun w => (xRod g q w).toInt64) w) + ((xRod g q w).toInt64))), (0, .ref xa), (3, .int (nI q))]) dX3_digest_69 3 rfl (inc_nI _) (by decide) rfl ?_
          refine g_goto C (tgt := 49) dX3_digest_72 (by decide) ?_
          refine g_lv [2, 1, 3, 0] (lv' := [(0, .ref xa), (1, .long (31 * (dK (dL (xRC g) (xH3 g z) q) (fun w => (xRod g q w).toInt64) w) + ((xRod g q w).toInt64))), (3, .int (nI q)), (4, .int (nI (w + 1)))]) rfl ?_
          exact ih (w + 1) (by omega)
      refine g_iload_n C dX3_digest_40 2 rfl ?_
      refine g_bipush C (v := 9) dX3_digest_41 cb_9 ?_
      refine g_icmp_ge C (tgt := 169) dX3_digest_43 (by decide) (fun h43_7 => absurd h43_7 (ge9 hq9)) (fun _ => ?_)
      refine g_iconst C (v := 0) dX3_digest_46 ci_0 ?_
      refine g_istore C (lv' := [(4, .int 0), (0, .ref xa), (1, .long (dL (xRC g) (xH3 g z) q)), (3, .int (nI q))]) dX3_digest_47 (by decide) rfl ?_
      refine g_lv [1, 2, 3, 0] (lv' := [(0, .ref xa), (1, .long (dL (xRC g) (xH3 g z) q)), (3, .int (nI q)), (4, .int 0)]) rfl ?_
      exact K2 8 0 rfl
  have K1 : ∀ (k w : Nat), k + w = 8 → gG p l e rmX3_digest s m ([.ref xa] : List Value).toArray below meth c D vwCl A s.heap 5 (MQ below (cQ (some (.long (xDg t g z n k9))) (cB D vwCl (tyA cI cO) A ((wS0 xa ad ha ta) ++ ((wT ta cI t (nI n)) ++ ((wHs ha hb cI cO G (nI o) (nI z)) ++ (wB ad cI g))))) A) ([.ref xa] : List Value).toArray s 0 0 A) 0 0 ((wS0 xa ad ha ta) ++ ((wT ta cI t (nI n)) ++ ((wHs ha hb cI cO G (nI o) (nI z)) ++ (wB ad cI g)))) 6 [(0, .ref xa), (1, .long (dK 3299 (fun w => (xCn g z w).toInt64) w)), (3, .int (nI w))] [] := by
    intro k
    induction k with
    | zero =>
      intro w hn9
      obtain rfl : w = 8 := by omega
      refine g_iload_n C dX3_digest_6 2 rfl ?_
      refine g_bipush C (v := 7) dX3_digest_7 cb_7 ?_
      refine g_icmp_gt C (tgt := 29) dX3_digest_9 (by decide) (fun _ => ?_) (fun h9_8 => absurd (by decide) h9_8)
      refine g_lload_n C dX3_digest_29 1 rfl ?_
      refine g_aload_n C dX3_digest_30 0 rfl ?_
      refine g_callVl C (c_X3_whole l D cI cO xa ta ha hb ad t n G g o z hn ho hz) gX3_digest_X3_whole rfl ⟨rfl, rfl⟩ hd_X3_whole ⟨Nat.le_of_ble_eq_true rfl, Nat.le_of_ble_eq_true rfl⟩ [0, 1] rfl (sF_w hF) rfl (rest := [.long (dK 3299 (fun w => (xCn g z w).toInt64) 8)]) rfl (Nat.le_of_ble_eq_true rfl) dX3_digest_31 ⟨Nat.zero_le _, Nat.zero_le _⟩ 0 rfl rfl rfl (pre := []) (post := []) (ws' := ((wS0 xa ad ha ta) ++ ((wT ta cI t (nI n)) ++ ((wHs ha hb cI cO G (nI o) (nI z)) ++ (wB ad cI g))))) rfl rfl ?_
      refine g_callSl C (c_X3_mixed l D cI cO (dK 3299 (fun w => (xCn g z w).toInt64) 8) ((xWs g 9).1)) gX3_digest_X3_mixed rfl ⟨rfl, rfl⟩ hd_X3_mixed ⟨Nat.le_of_ble_eq_true rfl, Nat.le_of_ble_eq_true rfl⟩ [0, 1] rfl (fun _ _ => trivial) rfl (rest := []) rfl (Nat.le_of_ble_eq_true rfl) dX3_digest_34 ⟨Nat.zero_le _, Nat.zero_le _⟩ (pre := []) (post := ((wS0 xa ad ha ta) ++ ((wT ta cI t (nI n)) ++ ((wHs ha hb cI cO G (nI o) (nI z)) ++ (wB ad cI g))))) (ws' := ((wS0 xa ad ha ta) ++ ((wT ta cI t (nI n)) ++ ((wHs ha hb cI cO G (nI o) (nI z)) ++ (wB ad cI g))))) rfl rfl ?_
      refine g_lstore_n C (lv' := [(1, .long (31 * (dK 3299 (fun w => (xCn g z w).toInt64) 8) + ((xWs g 9).1))), (0, .ref xa), (3, .int (nI 8))]) dX3_digest_37 rfl (by decide) rfl ?_
      refine g_iconst C (v := 0) dX3_digest_38 ci_0 ?_
      refine g_istore_n C (lv' := [(3, .int 0), (1, .long (31 * (dK 3299 (fun w => (xCn g z w).toInt64) 8) + ((xWs g 9).1))), (0, .ref xa)]) dX3_digest_39 rfl (by decide) rfl ?_
      refine g_lv [2, 1, 0] (lv' := [(0, .ref xa), (1, .long (31 * (dK 3299 (fun w => (xCn g z w).toInt64) 8) + ((xWs g 9).1))), (3, .int 0)]) rfl ?_
      exact K3 9 0 rfl
    | succ k ih =>
      intro w hn9
      have hw8 : w < 8 := by omega
      refine g_iload_n C dX3_digest_6 2 rfl ?_
      refine g_bipush C (v := 7) dX3_digest_7 cb_7 ?_
      refine g_icmp_gt C (tgt := 29) dX3_digest_9 (by decide) (fun h9_9 => absurd h9_9 (gt7 hw8)) (fun _ => ?_)
      refine g_lload_n C dX3_digest_12 1 rfl ?_
      refine g_aload_n C dX3_digest_13 0 rfl ?_
      refine g_iload_n C dX3_digest_14 2 rfl ?_
      refine g_callVi C (c_X3_count l D cI cO xa ta ha hb ad t n G g o z hn ho hz w ((by omega))) gX3_digest_X3_count rfl ⟨rfl, rfl⟩ hd_X3_count ⟨Nat.le_of_ble_eq_true rfl, Nat.le_of_ble_eq_true rfl⟩ [0, 1] rfl (sF_w hF) rfl (rest := [.long (dK 3299 (fun w => (xCn g z w).toInt64) w)]) rfl (Nat.le_of_ble_eq_true rfl) dX3_digest_15 ⟨Nat.zero_le _, Nat.zero_le _⟩ 0 rfl rfl rfl (pre := []) (post := []) (ws' := ((wS0 xa ad ha ta) ++ ((wT ta cI t (nI n)) ++ ((wHs ha hb cI cO G (nI o) (nI z)) ++ (wB ad cI g))))) rfl rfl ?_
      refine g_i2l C (v := (xCn g z w).toInt64) dX3_digest_18 rfl ?_
      refine g_callSl C (c_X3_mixed l D cI cO (dK 3299 (fun w => (xCn g z w).toInt64) w) ((xCn g z w).toInt64)) gX3_digest_X3_mixed rfl ⟨rfl, rfl⟩ hd_X3_mixed ⟨Nat.le_of_ble_eq_true rfl, Nat.le_of_ble_eq_true rfl⟩ [0, 1] rfl (fun _ _ => trivial) rfl (rest := []) rfl (Nat.le_of_ble_eq_true rfl) dX3_digest_19 ⟨Nat.zero_le _, Nat.zero_le _⟩ (pre := []) (post := ((wS0 xa ad ha ta) ++ ((wT ta cI t (nI n)) ++ ((wHs ha hb cI cO G (nI o) (nI z)) ++ (wB ad cI g))))) (ws' := ((wS0 xa ad ha ta) ++ ((wT ta cI t (nI n)) ++ ((wHs ha hb cI cO G (nI o) (nI z)) ++ (wB ad cI g))))) rfl rfl ?_
      refine g_lstore_n C (lv' := [(1, .long (31 * (dK 3299 (fun w => (xCn g z w).toInt64) w) + ((xCn g z w).toInt64))), (0, .ref xa), (3, .int (nI w))]) dX3_digest_22 rfl (by decide) rfl ?_
      refine g_iinc C (v := nI (w + 1)) (lv' := [(3, .int (nI (w + 1))), (1, .long (31 * (dK 3299 (fun w => (xCn g z w).toInt64) w) + ((xCn g z w).toInt64))), (0, .ref xa)]) dX3_digest_23 2 rfl (inc_nI _) (by decide) rfl ?_
      refine g_goto C (tgt := 6) dX3_digest_26 (by decide) ?_
      refine g_lv [2, 1, 0] (lv' := [(0, .ref xa), (1, .long (31 * (dK 3299 (fun w => (xCn g z w).toInt64) w) + ((xCn g z w).toInt64))), (3, .int (nI (w + 1)))]) rfl ?_
      exact ih (w + 1) (by omega)
  refine g_ldc2 C (v := 3299) dX3_digest_0 fw_X3_digest_const173 ?_
  refine g_lstore_n C (lv' := [(1, .long 3299), (0, .ref xa)]) dX3_digest_3 rfl (by decide) rfl ?_
  refine g_iconst C (v := 0) dX3_digest_4 ci_0 ?_
  refine g_istore_n C (lv' := [(3, .int 0), (1, .long 3299), (0, .ref xa)]) dX3_digest_5 rfl (by decide) rfl ?_
  refine g_lv [2, 1, 0] (lv' := [(0, .ref xa), (1, .long 3299), (3, .int 0)]) rfl ?_
  exact K1 8 0 rfl
