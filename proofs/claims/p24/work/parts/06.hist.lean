/-! ===== the saved states (a ring of six boards), and the text ===== -/
def wH0 (ha : Nat → Nat) (hb : Nat → Nat → Nat) (cO : ClassId) (o z : Int32) : va_W := [(ha 0, .inr (1, [.ref (ha 1), .int o, .int z])), (ha 1, .inl (cO, 6, .inr (.inr (.inr (.inr (fun k => some (hb k 0)))))))]
def wHs (ha : Nat → Nat) (hb : Nat → Nat → Nat) (cI cO : ClassId) (G : Nat → Nat → Int32) (o z : Int32) : va_W :=
  wH0 ha hb cO o z ++ (wB (hb 0) cI (G 0) ++ (wB (hb 1) cI (G 1) ++ (wB (hb 2) cI (G 2) ++ (wB (hb 3) cI (G 3) ++ (wB (hb 4) cI (G 4) ++ wB (hb 5) cI (G 5))))))
def kO (o z : Nat) : Nat := if z = 6 then (o + 1) % 6 else o
def kM (z : Nat) : Nat := if z = 6 then 5 else z
def kI (o z : Nat) : Nat := (kO o z + kM z) % 6
def kG (G : Nat → Nat → Int32) (o z : Nat) (g : Nat → Int32) : Nat → Nat → Int32 := fun k => if k = kI o z then g else G k
theorem kI_6 (o z : Nat) : kI o z = 0 ∨ kI o z = 1 ∨ kI o z = 2 ∨ kI o z = 3 ∨ kI o z = 4 ∨ kI o z = 5 := by
  have : kI o z < 6 := Nat.mod_lt _ (by decide)
  omega
def rI (o z : Nat) : Nat := (o + (z - 1)) % 6
theorem rI_6 (o z : Nat) : rI o z = 0 ∨ rI o z = 1 ∨ rI o z = 2 ∨ rI o z = 3 ∨ rI o z = 4 ∨ rI o z = 5 := by
  have : rI o z < 6 := Nat.mod_lt _ (by decide)
  omega
theorem kM_lt {z : Nat} (h : z ≤ 6) : kM z < 6 := by
  unfold kM
  split <;> omega
theorem kO_lt {o z : Nat} (h : o < 6) : kO o z < 6 := by
  unfold kO
  split <;> omega
theorem is6 {z : Nat} (hz : z ≤ 6) (h : nI z = 6) : z = 6 := (nI_eq (b := 6) (by omega) (by decide)).mp h
theorem isn6 {z : Nat} (h : ¬ nI z = 6) : ¬ z = 6 := fun e => h (by rw [e]; rfl)
theorem posI {i : Nat} (h : ¬ nI i ≤ 0) : 1 ≤ i := by
  rcases Nat.eq_zero_or_pos i with e | e
  · subst e; exact absurd (by decide) h
  · exact e
def wT (ta : Nat → Nat) (cI : ClassId) (t : Nat → Int32) (n : Int32) : va_W := [(ta 0, .inr (2, [.ref (ta 1), .int n])), (ta 1, .inl (cI, 60, .inl t))]
def sg (x : Int32) : Bool := if x = 43 then true else if x = 45 then true else false
def dg (x : Int32) : Bool := if x < 48 then false else if 57 < x then false else true
abbrev xNb (t : Nat → Int32) (i : Nat) : Prop := ¬ nI i ≤ 0 ∧ sg (t (i - 1)) = true
def xFw (t : Nat → Int32) (n : Nat) : Nat → Nat → Int32 → Int32
  | 0, _, _ => nI n
  | k + 1, i, a =>
    if sg (t i) = true ∧ ¬ xNb t i then xFw t n k (i + 1) 6 else
    if dg (t i) = true ∧ ¬ a ≤ 0 then xFw t n k (i + 1) (if xNb t i ∧ t i = 48 then 0 else a - 1) else nI i
def xFW (t : Nat → Int32) (n : Nat) : Int32 := xFw t n n 0 0
abbrev xCs (t : Nat → Int32) (n : Nat) : Prop := ¬ nI n < 1 ∧ xFW t n = nI n ∧ dg (t (n - 1)) = true
def xDb (t : Nat → Int32) : Nat → Nat → Nat → Nat
  | 0, _, a => a
  | k + 1, i, a => if dg (t i) = true then xDb t k (i + 1) (a + 1) else a
theorem fw_X1_keep_fld11 : Cond.fieldLink RX1 11 "StuckRods$History" "slots" "[LStuckRods$Board;" ∈ wsX1_keep := (List.mem_cons_of_mem _ (List.mem_append_left _ (List.mem_append_left _ (List.mem_of_getElem? (i := 2) rfl))))
theorem fl_X1_keep_X1 : ∀ w ∈ wsX10, w ∈ wsX1_keep := fun _ h => List.mem_cons_of_mem _ (List.mem_append_left _ (List.mem_append_right _ h))
theorem fw_X1_keep_fld17 : Cond.fieldLink RX1 17 "StuckRods$History" "oldest" "I" ∈ wsX1_keep := (List.mem_cons_of_mem _ (List.mem_append_left _ (List.mem_append_left _ (List.mem_of_getElem? (i := 1) rfl))))
theorem fw_X1_keep_fld21 : Cond.fieldLink RX1 21 "StuckRods$History" "size" "I" ∈ wsX1_keep := (List.mem_cons_of_mem _ (List.mem_append_left _ (List.mem_append_left _ (List.mem_of_getElem? (i := 0) rfl))))
theorem hd_X0_copyFrom : yX0_copyFrom.cls = RX0 ∧ yX0_copyFrom.cls ≠ "java/lang/invoke/MethodHandle" ∧ yX0_copyFrom.cls ≠ "java/lang/invoke/VarHandle" ∧ (parseMethodDescriptor yX0_copyFrom.desc).map (fun d => d.parameters.length) = some 1 := by decide +kernel
abbrev rmX1_keep : Room := { frames := 1, cells := 0, slots := 0, locals := 22 }
set_option maxHeartbeats 1000000 in
set_option maxRecDepth 100000 in
theorem c_X1_keep (l : Launch) (D : va_G) (cI cO : ClassId) (ha : Nat → Nat) (hb : Nat → Nat → Nat) (ad : Nat → Nat) (G : Nat → Nat → Int32) (g : Nat → Int32) (o z : Nat) (ho : o < 6) (hz : z ≤ 6) : cR (fun _ => True) l yX1_keep wsX1_keep rmX1_keep D vwCl (tyA cI cO) [.ref (ha 0), .ref (ad 0)] ((wHs ha hb cI cO G (nI o) (nI z)) ++ (wB ad cI g)) none ((wHs ha hb cI cO (kG G o z g) (nI (kO o z)) (nI (kM z + 1))) ++ (wB ad cI g)) := by
  refine cR_of (cc := cX1_keep) (maxL := 2) (ret := none) (by decide) rfl (Nat.le_of_ble_eq_true rfl) ?_
  intro p e s m below meth c A C hret hlk hnm hF
  refine g_lv [0, 1] (lv' := [(0, .ref (ha 0)), (1, .ref (ad 0))]) rfl ?_
  refine g_ws (ws' := ((wH0 ha hb cO (nI o) (nI z)) ++ ((wB (hb 0) cI (G 0)) ++ ((wB (hb 1) cI (G 1)) ++ ((wB (hb 2) cI (G 2)) ++ ((wB (hb 3) cI (G 3)) ++ ((wB (hb 4) cI (G 4)) ++ ((wB (hb 5) cI (G 5)) ++ (wB ad cI g))))))))) rfl ?_
  have K : gG p l e rmX1_keep s m ([.ref (ha 0), .ref (ad 0)] : List Value).toArray below meth c D vwCl A s.heap 2 (MQ below (cQ none (cB D vwCl (tyA cI cO) A ((wHs ha hb cI cO (kG G o z g) (nI (kO o z)) (nI (kM z + 1))) ++ (wB ad cI g))) A) ([.ref (ha 0), .ref (ad 0)] : List Value).toArray s 0 0 A) 0 0 ((wH0 ha hb cO (nI (kO o z)) (nI (kM z))) ++ ((wB (hb 0) cI (G 0)) ++ ((wB (hb 1) cI (G 1)) ++ ((wB (hb 2) cI (G 2)) ++ ((wB (hb 3) cI (G 3)) ++ ((wB (hb 4) cI (G 4)) ++ ((wB (hb 5) cI (G 5)) ++ (wB ad cI g)))))))) 32 [(0, .ref (ha 0)), (1, .ref (ad 0))] [] := by
    refine g_aload_n C dX1_keep_32 0 rfl ?_
    refine g_get C (v := .ref (ha 1)) fl_X1_keep_X1 0 rfl rfl 0 (by decide) fw_X1_keep_fld11 rfl dX1_keep_33 ?_
    refine g_aload_n C dX1_keep_36 0 rfl ?_
    refine g_get C (v := .int (nI (kO o z))) fl_X1_keep_X1 0 rfl rfl 1 (by decide) fw_X1_keep_fld17 rfl dX1_keep_37 ?_
    refine g_aload_n C dX1_keep_40 0 rfl ?_
    refine g_get C (v := .int (nI (kM z))) fl_X1_keep_X1 0 rfl rfl 2 (by decide) fw_X1_keep_fld21 rfl dX1_keep_41 ?_
    refine g_iadd C (v := nI (kO o z + kM z)) dX1_keep_44 (nI_add _ _) ?_
    refine g_bipush C (v := 6) dX1_keep_45 cb_6 ?_
    refine g_irem C (v := nI (kI o z)) dX1_keep_47 (by decide) (pk_rem (d := 6) (by have := kO_lt (z := z) ho; have := kM_lt hz; omega) (by decide) (by decide)) ?_
    refine g_aldq C (x := .ref (hb (kI o z) 0)) 1 1 rfl rfl (kI o z) rfl (Nat.mod_lt _ (by decide)) (by decide) rfl dX1_keep_48 ?_
    refine g_aload_n C dX1_keep_49 1 rfl ?_
    rcases kI_6 o z with h | h | h | h | h | h
    · rw [h]
      refine g_perm [0, 1, 9, 10, 11, 12, 13, 14, 15, 16, 17, 18, 19, 20, 21, 22, 23, 24, 25, 26, 27, 28, 29, 30, 31, 32, 33, 34, 35, 36, 37, 38, 39, 40, 41, 42, 43, 2, 3, 4, 5, 6, 7, 8, 44, 45, 46, 47, 48, 49, 50] (ws' := ((wH0 ha hb cO (nI (kO o z)) (nI (kM z))) ++ ((wB (hb 1) cI (G 1)) ++ ((wB (hb 2) cI (G 2)) ++ ((wB (hb 3) cI (G 3)) ++ ((wB (hb 4) cI (G 4)) ++ ((wB (hb 5) cI (G 5)) ++ ((wB (hb 0) cI (G 0)) ++ (wB ad cI g))))))))) rfl rfl rfl ?_
      refine g_callVv C (c_X0_copyFrom l D cI cO (hb 0) ad (G 0) g) gX1_keep_X0_copyFrom rfl ⟨rfl, rfl⟩ hd_X0_copyFrom ⟨Nat.le_of_ble_eq_true rfl, Nat.le_of_ble_eq_true rfl⟩ [0, 1] rfl (fun _ _ => trivial) rfl (rest := []) rfl (Nat.le_of_ble_eq_true rfl) dX1_keep_50 ⟨Nat.zero_le _, Nat.zero_le _⟩ 0 rfl rfl rfl (pre := ((wH0 ha hb cO (nI (kO o z)) (nI (kM z))) ++ ((wB (hb 1) cI (G 1)) ++ ((wB (hb 2) cI (G 2)) ++ ((wB (hb 3) cI (G 3)) ++ ((wB (hb 4) cI (G 4)) ++ (wB (hb 5) cI (G 5)))))))) (post := []) (ws' := ((wH0 ha hb cO (nI (kO o z)) (nI (kM z))) ++ ((wB (hb 1) cI (G 1)) ++ ((wB (hb 2) cI (G 2)) ++ ((wB (hb 3) cI (G 3)) ++ ((wB (hb 4) cI (G 4)) ++ ((wB (hb 5) cI (G 5)) ++ ((wB (hb 0) cI g) ++ (wB ad cI g))))))))) rfl rfl ?_
      refine g_perm [0, 1, 37, 38, 39, 40, 41, 42, 43, 2, 3, 4, 5, 6, 7, 8, 9, 10, 11, 12, 13, 14, 15, 16, 17, 18, 19, 20, 21, 22, 23, 24, 25, 26, 27, 28, 29, 30, 31, 32, 33, 34, 35, 36, 44, 45, 46, 47, 48, 49, 50] (ws' := ((wH0 ha hb cO (nI (kO o z)) (nI (kM z))) ++ ((wB (hb 0) cI g) ++ ((wB (hb 1) cI (G 1)) ++ ((wB (hb 2) cI (G 2)) ++ ((wB (hb 3) cI (G 3)) ++ ((wB (hb 4) cI (G 4)) ++ ((wB (hb 5) cI (G 5)) ++ (wB ad cI g))))))))) rfl rfl rfl ?_
      refine g_aload_n C dX1_keep_53 0 rfl ?_
      refine g_dup C dX1_keep_54 rfl ?_
      refine g_get C (v := .int (nI (kM z))) fl_X1_keep_X1 0 rfl rfl 2 (by decide) fw_X1_keep_fld21 rfl dX1_keep_55 ?_
      refine g_iconst C (v := 1) dX1_keep_58 ci_1 ?_
      refine g_iadd C (v := nI (kM z + 1)) dX1_keep_59 (nI_1 _) ?_
      refine g_put C (ws' := ((wH0 ha hb cO (nI (kO o z)) (nI (kM z + 1))) ++ ((wB (hb 0) cI g) ++ ((wB (hb 1) cI (G 1)) ++ ((wB (hb 2) cI (G 2)) ++ ((wB (hb 3) cI (G 3)) ++ ((wB (hb 4) cI (G 4)) ++ ((wB (hb 5) cI (G 5)) ++ (wB ad cI g))))))))) fl_X1_keep_X1 tyX1 tyX1_ok nmX1 0 rfl rfl 2 (by decide) fw_X1_keep_fld21 rfl (tyX1_ok 2 (by decide)) rfl rfl (Nat.le_of_ble_eq_true rfl) dX1_keep_60 (ws_setl (Nat.le_of_ble_eq_true rfl) rfl) ?_
      exact g_vret C hret hlk dX1_keep_63 (by unfold wHs kG; simp only [h]; first | done | rfl)
    · rw [h]
      refine g_perm [0, 1, 2, 3, 4, 5, 6, 7, 8, 16, 17, 18, 19, 20, 21, 22, 23, 24, 25, 26, 27, 28, 29, 30, 31, 32, 33, 34, 35, 36, 37, 38, 39, 40, 41, 42, 43, 9, 10, 11, 12, 13, 14, 15, 44, 45, 46, 47, 48, 49, 50] (ws' := ((wH0 ha hb cO (nI (kO o z)) (nI (kM z))) ++ ((wB (hb 0) cI (G 0)) ++ ((wB (hb 2) cI (G 2)) ++ ((wB (hb 3) cI (G 3)) ++ ((wB (hb 4) cI (G 4)) ++ ((wB (hb 5) cI (G 5)) ++ ((wB (hb 1) cI (G 1)) ++ (wB ad cI g))))))))) rfl rfl rfl ?_
      refine g_callVv C (c_X0_copyFrom l D cI cO (hb 1) ad (G 1) g) gX1_keep_X0_copyFrom rfl ⟨rfl, rfl⟩ hd_X0_copyFrom ⟨Nat.le_of_ble_eq_true rfl, Nat.le_of_ble_eq_true rfl⟩ [0, 1] rfl (fun _ _ => trivial) rfl (rest := []) rfl (Nat.le_of_ble_eq_true rfl) dX1_keep_50 ⟨Nat.zero_le _, Nat.zero_le _⟩ 0 rfl rfl rfl (pre := ((wH0 ha hb cO (nI (kO o z)) (nI (kM z))) ++ ((wB (hb 0) cI (G 0)) ++ ((wB (hb 2) cI (G 2)) ++ ((wB (hb 3) cI (G 3)) ++ ((wB (hb 4) cI (G 4)) ++ (wB (hb 5) cI (G 5)))))))) (post := []) (ws' := ((wH0 ha hb cO (nI (kO o z)) (nI (kM z))) ++ ((wB (hb 0) cI (G 0)) ++ ((wB (hb 2) cI (G 2)) ++ ((wB (hb 3) cI (G 3)) ++ ((wB (hb 4) cI (G 4)) ++ ((wB (hb 5) cI (G 5)) ++ ((wB (hb 1) cI g) ++ (wB ad cI g))))))))) rfl rfl ?_
      refine g_perm [0, 1, 2, 3, 4, 5, 6, 7, 8, 37, 38, 39, 40, 41, 42, 43, 9, 10, 11, 12, 13, 14, 15, 16, 17, 18, 19, 20, 21, 22, 23, 24, 25, 26, 27, 28, 29, 30, 31, 32, 33, 34, 35, 36, 44, 45, 46, 47, 48, 49, 50] (ws' := ((wH0 ha hb cO (nI (kO o z)) (nI (kM z))) ++ ((wB (hb 0) cI (G 0)) ++ ((wB (hb 1) cI g) ++ ((wB (hb 2) cI (G 2)) ++ ((wB (hb 3) cI (G 3)) ++ ((wB (hb 4) cI (G 4)) ++ ((wB (hb 5) cI (G 5)) ++ (wB ad cI g))))))))) rfl rfl rfl ?_
      refine g_aload_n C dX1_keep_53 0 rfl ?_
      refine g_dup C dX1_keep_54 rfl ?_
      refine g_get C (v := .int (nI (kM z))) fl_X1_keep_X1 0 rfl rfl 2 (by decide) fw_X1_keep_fld21 rfl dX1_keep_55 ?_
      refine g_iconst C (v := 1) dX1_keep_58 ci_1 ?_
      refine g_iadd C (v := nI (kM z + 1)) dX1_keep_59 (nI_1 _) ?_
      refine g_put C (ws' := ((wH0 ha hb cO (nI (kO o z)) (nI (kM z + 1))) ++ ((wB (hb 0) cI (G 0)) ++ ((wB (hb 1) cI g) ++ ((wB (hb 2) cI (G 2)) ++ ((wB (hb 3) cI (G 3)) ++ ((wB (hb 4) cI (G 4)) ++ ((wB (hb 5) cI (G 5)) ++ (wB ad cI g))))))))) fl_X1_keep_X1 tyX1 tyX1_ok nmX1 0 rfl rfl 2 (by decide) fw_X1_keep_fld21 rfl (tyX1_ok 2 (by decide)) rfl rfl (Nat.le_of_ble_eq_true rfl) dX1_keep_60 (ws_setl (Nat.le_of_ble_eq_true rfl) rfl) ?_
      exact g_vret C hret hlk dX1_keep_63 (by unfold wHs kG; simp only [h]; first | done | rfl)
    · rw [h]
      refine g_perm [0, 1, 2, 3, 4, 5, 6, 7, 8, 9, 10, 11, 12, 13, 14, 15, 23, 24, 25, 26, 27, 28, 29, 30, 31, 32, 33, 34, 35, 36, 37, 38, 39, 40, 41, 42, 43, 16, 17, 18, 19, 20, 21, 22, 44, 45, 46, 47, 48, 49, 50] (ws' := ((wH0 ha hb cO (nI (kO o z)) (nI (kM z))) ++ ((wB (hb 0) cI (G 0)) ++ ((wB (hb 1) cI (G 1)) ++ ((wB (hb 3) cI (G 3)) ++ ((wB (hb 4) cI (G 4)) ++ ((wB (hb 5) cI (G 5)) ++ ((wB (hb 2) cI (G 2)) ++ (wB ad cI g))))))))) rfl rfl rfl ?_
      refine g_callVv C (c_X0_copyFrom l D cI cO (hb 2) ad (G 2) g) gX1_keep_X0_copyFrom rfl ⟨rfl, rfl⟩ hd_X0_copyFrom ⟨Nat.le_of_ble_eq_true rfl, Nat.le_of_ble_eq_true rfl⟩ [0, 1] rfl (fun _ _ => trivial) rfl (rest := []) rfl (Nat.le_of_ble_eq_true rfl) dX1_keep_50 ⟨Nat.zero_le _, Nat.zero_le _⟩ 0 rfl rfl rfl (pre := ((wH0 ha hb cO (nI (kO o z)) (nI (kM z))) ++ ((wB (hb 0) cI (G 0)) ++ ((wB (hb 1) cI (G 1)) ++ ((wB (hb 3) cI (G 3)) ++ ((wB (hb 4) cI (G 4)) ++ (wB (hb 5) cI (G 5)))))))) (post := []) (ws' := ((wH0 ha hb cO (nI (kO o z)) (nI (kM z))) ++ ((wB (hb 0) cI (G 0)) ++ ((wB (hb 1) cI (G 1)) ++ ((wB (hb 3) cI (G 3)) ++ ((wB (hb 4) cI (G 4)) ++ ((wB (hb 5) cI (G 5)) ++ ((wB (hb 2) cI g) ++ (wB ad cI g))))))))) rfl rfl ?_
      refine g_perm [0, 1, 2, 3, 4, 5, 6, 7, 8, 9, 10, 11, 12, 13, 14, 15, 37, 38, 39, 40, 41, 42, 43, 16, 17, 18, 19, 20, 21, 22, 23, 24, 25, 26, 27, 28, 29, 30, 31, 32, 33, 34, 35, 36, 44, 45, 46, 47, 48, 49, 50] (ws' := ((wH0 ha hb cO (nI (kO o z)) (nI (kM z))) ++ ((wB (hb 0) cI (G 0)) ++ ((wB (hb 1) cI (G 1)) ++ ((wB (hb 2) cI g) ++ ((wB (hb 3) cI (G 3)) ++ ((wB (hb 4) cI (G 4)) ++ ((wB (hb 5) cI (G 5)) ++ (wB ad cI g))))))))) rfl rfl rfl ?_
      refine g_aload_n C dX1_keep_53 0 rfl ?_
      refine g_dup C dX1_keep_54 rfl ?_
      refine g_get C (v := .int (nI (kM z))) fl_X1_keep_X1 0 rfl rfl 2 (by decide) fw_X1_keep_fld21 rfl dX1_keep_55 ?_
      refine g_iconst C (v := 1) dX1_keep_58 ci_1 ?_
      refine g_iadd C (v := nI (kM z + 1)) dX1_keep_59 (nI_1 _) ?_
      refine g_put C (ws' := ((wH0 ha hb cO (nI (kO o z)) (nI (kM z + 1))) ++ ((wB (hb 0) cI (G 0)) ++ ((wB (hb 1) cI (G 1)) ++ ((wB (hb 2) cI g) ++ ((wB (hb 3) cI (G 3)) ++ ((wB (hb 4) cI (G 4)) ++ ((wB (hb 5) cI (G 5)) ++ (wB ad cI g))))))))) fl_X1_keep_X1 tyX1 tyX1_ok nmX1 0 rfl rfl 2 (by decide) fw_X1_keep_fld21 rfl (tyX1_ok 2 (by decide)) rfl rfl (Nat.le_of_ble_eq_true rfl) dX1_keep_60 (ws_setl (Nat.le_of_ble_eq_true rfl) rfl) ?_
      exact g_vret C hret hlk dX1_keep_63 (by unfold wHs kG; simp only [h]; first | done | rfl)
    · rw [h]
      refine g_perm [0, 1, 2, 3, 4, 5, 6, 7, 8, 9, 10, 11, 12, 13, 14, 15, 16, 17, 18, 19, 20, 21, 22, 30, 31, 32, 33, 34, 35, 36, 37, 38, 39, 40, 41, 42, 43, 23, 24, 25, 26, 27, 28, 29, 44, 45, 46, 47, 48, 49, 50] (ws' := ((wH0 ha hb cO (nI (kO o z)) (nI (kM z))) ++ ((wB (hb 0) cI (G 0)) ++ ((wB (hb 1) cI (G 1)) ++ ((wB (hb 2) cI (G 2)) ++ ((wB (hb 4) cI (G 4)) ++ ((wB (hb 5) cI (G 5)) ++ ((wB (hb 3) cI (G 3)) ++ (wB ad cI g))))))))) rfl rfl rfl ?_
      refine g_callVv C (c_X0_copyFrom l D cI cO (hb 3) ad (G 3) g) gX1_keep_X0_copyFrom rfl ⟨rfl, rfl⟩ hd_X0_copyFrom ⟨Nat.le_of_ble_eq_true rfl, Nat.le_of_ble_eq_true rfl⟩ [0, 1] rfl (fun _ _ => trivial) rfl (rest := []) rfl (Nat.le_of_ble_eq_true rfl) dX1_keep_50 ⟨Nat.zero_le _, Nat.zero_le _⟩ 0 rfl rfl rfl (pre := ((wH0 ha hb cO (nI (kO o z)) (nI (kM z))) ++ ((wB (hb 0) cI (G 0)) ++ ((wB (hb 1) cI (G 1)) ++ ((wB (hb 2) cI (G 2)) ++ ((wB (hb 4) cI (G 4)) ++ (wB (hb 5) cI (G 5)))))))) (post := []) (ws' := ((wH0 ha hb cO (nI (kO o z)) (nI (kM z))) ++ ((wB (hb 0) cI (G 0)) ++ ((wB (hb 1) cI (G 1)) ++ ((wB (hb 2) cI (G 2)) ++ ((wB (hb 4) cI (G 4)) ++ ((wB (hb 5) cI (G 5)) ++ ((wB (hb 3) cI g) ++ (wB ad cI g))))))))) rfl rfl ?_
      refine g_perm [0, 1, 2, 3, 4, 5, 6, 7, 8, 9, 10, 11, 12, 13, 14, 15, 16, 17, 18, 19, 20, 21, 22, 37, 38, 39, 40, 41, 42, 43, 23, 24, 25, 26, 27, 28, 29, 30, 31, 32, 33, 34, 35, 36, 44, 45, 46, 47, 48, 49, 50] (ws' := ((wH0 ha hb cO (nI (kO o z)) (nI (kM z))) ++ ((wB (hb 0) cI (G 0)) ++ ((wB (hb 1) cI (G 1)) ++ ((wB (hb 2) cI (G 2)) ++ ((wB (hb 3) cI g) ++ ((wB (hb 4) cI (G 4)) ++ ((wB (hb 5) cI (G 5)) ++ (wB ad cI g))))))))) rfl rfl rfl ?_
      refine g_aload_n C dX1_keep_53 0 rfl ?_
      refine g_dup C dX1_keep_54 rfl ?_
      refine g_get C (v := .int (nI (kM z))) fl_X1_keep_X1 0 rfl rfl 2 (by decide) fw_X1_keep_fld21 rfl dX1_keep_55 ?_
      refine g_iconst C (v := 1) dX1_keep_58 ci_1 ?_
      refine g_iadd C (v := nI (kM z + 1)) dX1_keep_59 (nI_1 _) ?_
      refine g_put C (ws' := ((wH0 ha hb cO (nI (kO o z)) (nI (kM z + 1))) ++ ((wB (hb 0) cI (G 0)) ++ ((wB (hb 1) cI (G 1)) ++ ((wB (hb 2) cI (G 2)) ++ ((wB (hb 3) cI g) ++ ((wB (hb 4) cI (G 4)) ++ ((wB (hb 5) cI (G 5)) ++ (wB ad cI g))))))))) fl_X1_keep_X1 tyX1 tyX1_ok nmX1 0 rfl rfl 2 (by decide) fw_X1_keep_fld21 rfl (tyX1_ok 2 (by decide)) rfl rfl (Nat.le_of_ble_eq_true rfl) dX1_keep_60 (ws_setl (Nat.le_of_ble_eq_true rfl) rfl) ?_
      exact g_vret C hret hlk dX1_keep_63 (by unfold wHs kG; simp only [h]; first | done | rfl)
    · rw [h]
      refine g_perm [0, 1, 2, 3, 4, 5, 6, 7, 8, 9, 10, 11, 12, 13, 14, 15, 16, 17, 18, 19, 20, 21, 22, 23, 24, 25, 26, 27, 28, 29, 37, 38, 39, 40, 41, 42, 43, 30, 31, 32, 33, 34, 35, 36, 44, 45, 46, 47, 48, 49, 50] (ws' := ((wH0 ha hb cO (nI (kO o z)) (nI (kM z))) ++ ((wB (hb 0) cI (G 0)) ++ ((wB (hb 1) cI (G 1)) ++ ((wB (hb 2) cI (G 2)) ++ ((wB (hb 3) cI (G 3)) ++ ((wB (hb 5) cI (G 5)) ++ ((wB (hb 4) cI (G 4)) ++ (wB ad cI g))))))))) rfl rfl rfl ?_
      refine g_callVv C (c_X0_copyFrom l D cI cO (hb 4) ad (G 4) g) gX1_keep_X0_copyFrom rfl ⟨rfl, rfl⟩ hd_X0_copyFrom ⟨Nat.le_of_ble_eq_true rfl, Nat.le_of_ble_eq_true rfl⟩ [0, 1] rfl (fun _ _ => trivial) rfl (rest := []) rfl (Nat.le_of_ble_eq_true rfl) dX1_keep_50 ⟨Nat.zero_le _, Nat.zero_le _⟩ 0 rfl rfl rfl (pre := ((wH0 ha hb cO (nI (kO o z)) (nI (kM z))) ++ ((wB (hb 0) cI (G 0)) ++ ((wB (hb 1) cI (G 1)) ++ ((wB (hb 2) cI (G 2)) ++ ((wB (hb 3) cI (G 3)) ++ (wB (hb 5) cI (G 5)))))))) (post := []) (ws' := ((wH0 ha hb cO (nI (kO o z)) (nI (kM z))) ++ ((wB (hb 0) cI (G 0)) ++ ((wB (hb 1) cI (G 1)) ++ ((wB (hb 2) cI (G 2)) ++ ((wB (hb 3) cI (G 3)) ++ ((wB (hb 5) cI (G 5)) ++ ((wB (hb 4) cI g) ++ (wB ad cI g))))))))) rfl rfl ?_
      refine g_perm [0, 1, 2, 3, 4, 5, 6, 7, 8, 9, 10, 11, 12, 13, 14, 15, 16, 17, 18, 19, 20, 21, 22, 23, 24, 25, 26, 27, 28, 29, 37, 38, 39, 40, 41, 42, 43, 30, 31, 32, 33, 34, 35, 36, 44, 45, 46, 47, 48, 49, 50] (ws' := ((wH0 ha hb cO (nI (kO o z)) (nI (kM z))) ++ ((wB (hb 0) cI (G 0)) ++ ((wB (hb 1) cI (G 1)) ++ ((wB (hb 2) cI (G 2)) ++ ((wB (hb 3) cI (G 3)) ++ ((wB (hb 4) cI g) ++ ((wB (hb 5) cI (G 5)) ++ (wB ad cI g))))))))) rfl rfl rfl ?_
      refine g_aload_n C dX1_keep_53 0 rfl ?_
      refine g_dup C dX1_keep_54 rfl ?_
      refine g_get C (v := .int (nI (kM z))) fl_X1_keep_X1 0 rfl rfl 2 (by decide) fw_X1_keep_fld21 rfl dX1_keep_55 ?_
      refine g_iconst C (v := 1) dX1_keep_58 ci_1 ?_
      refine g_iadd C (v := nI (kM z + 1)) dX1_keep_59 (nI_1 _) ?_
      refine g_put C (ws' := ((wH0 ha hb cO (nI (kO o z)) (nI (kM z + 1))) ++ ((wB (hb 0) cI (G 0)) ++ ((wB (hb 1) cI (G 1)) ++ ((wB (hb 2) cI (G 2)) ++ ((wB (hb 3) cI (G 3)) ++ ((wB (hb 4) cI g) ++ ((wB (hb 5) cI (G 5)) ++ (wB ad cI g))))))))) fl_X1_keep_X1 tyX1 tyX1_ok nmX1 0 rfl rfl 2 (by decide) fw_X1_keep_fld21 rfl (tyX1_ok 2 (by decide)) rfl rfl (Nat.le_of_ble_eq_true rfl) dX1_keep_60 (ws_setl (Nat.le_of_ble_eq_true rfl) rfl) ?_
      exact g_vret C hret hlk dX1_keep_63 (by unfold wHs kG; simp only [h]; first | done | rfl)
    · rw [h]
      refine g_perm [0, 1, 2, 3, 4, 5, 6, 7, 8, 9, 10, 11, 12, 13, 14, 15, 16, 17, 18, 19, 20, 21, 22, 23, 24, 25, 26, 27, 28, 29, 30, 31, 32, 33, 34, 35, 36, 37, 38, 39, 40, 41, 42, 43, 44, 45, 46, 47, 48, 49, 50] (ws' := ((wH0 ha hb cO (nI (kO o z)) (nI (kM z))) ++ ((wB (hb 0) cI (G 0)) ++ ((wB (hb 1) cI (G 1)) ++ ((wB (hb 2) cI (G 2)) ++ ((wB (hb 3) cI (G 3)) ++ ((wB (hb 4) cI (G 4)) ++ ((wB (hb 5) cI (G 5)) ++ (wB ad cI g))))))))) rfl rfl rfl ?_
      refine g_callVv C (c_X0_copyFrom l D cI cO (hb 5) ad (G 5) g) gX1_keep_X0_copyFrom rfl ⟨rfl, rfl⟩ hd_X0_copyFrom ⟨Nat.le_of_ble_eq_true rfl, Nat.le_of_ble_eq_true rfl⟩ [0, 1] rfl (fun _ _ => trivial) rfl (rest := []) rfl (Nat.le_of_ble_eq_true rfl) dX1_keep_50 ⟨Nat.zero_le _, Nat.zero_le _⟩ 0 rfl rfl rfl (pre := ((wH0 ha hb cO (nI (kO o z)) (nI (kM z))) ++ ((wB (hb 0) cI (G 0)) ++ ((wB (hb 1) cI (G 1)) ++ ((wB (hb 2) cI (G 2)) ++ ((wB (hb 3) cI (G 3)) ++ (wB (hb 4) cI (G 4)))))))) (post := []) (ws' := ((wH0 ha hb cO (nI (kO o z)) (nI (kM z))) ++ ((wB (hb 0) cI (G 0)) ++ ((wB (hb 1) cI (G 1)) ++ ((wB (hb 2) cI (G 2)) ++ ((wB (hb 3) cI (G 3)) ++ ((wB (hb 4) cI (G 4)) ++ ((wB (hb 5) cI g) ++ (wB ad cI g))))))))) rfl rfl ?_
      refine g_perm [0, 1, 2, 3, 4, 5, 6, 7, 8, 9, 10, 11, 12, 13, 14, 15, 16, 17, 18, 19, 20, 21, 22, 23, 24, 25, 26, 27, 28, 29, 30, 31, 32, 33, 34, 35, 36, 37, 38, 39, 40, 41, 42, 43, 44, 45, 46, 47, 48, 49, 50] (ws' := ((wH0 ha hb cO (nI (kO o z)) (nI (kM z))) ++ ((wB (hb 0) cI (G 0)) ++ ((wB (hb 1) cI (G 1)) ++ ((wB (hb 2) cI (G 2)) ++ ((wB (hb 3) cI (G 3)) ++ ((wB (hb 4) cI (G 4)) ++ ((wB (hb 5) cI g) ++ (wB ad cI g))))))))) rfl rfl rfl ?_
      refine g_aload_n C dX1_keep_53 0 rfl ?_
      refine g_dup C dX1_keep_54 rfl ?_
      refine g_get C (v := .int (nI (kM z))) fl_X1_keep_X1 0 rfl rfl 2 (by decide) fw_X1_keep_fld21 rfl dX1_keep_55 ?_
      refine g_iconst C (v := 1) dX1_keep_58 ci_1 ?_
      refine g_iadd C (v := nI (kM z + 1)) dX1_keep_59 (nI_1 _) ?_
      refine g_put C (ws' := ((wH0 ha hb cO (nI (kO o z)) (nI (kM z + 1))) ++ ((wB (hb 0) cI (G 0)) ++ ((wB (hb 1) cI (G 1)) ++ ((wB (hb 2) cI (G 2)) ++ ((wB (hb 3) cI (G 3)) ++ ((wB (hb 4) cI (G 4)) ++ ((wB (hb 5) cI g) ++ (wB ad cI g))))))))) fl_X1_keep_X1 tyX1 tyX1_ok nmX1 0 rfl rfl 2 (by decide) fw_X1_keep_fld21 rfl (tyX1_ok 2 (by decide)) rfl rfl (Nat.le_of_ble_eq_true rfl) dX1_keep_60 (ws_setl (Nat.le_of_ble_eq_true rfl) rfl) ?_
      exact g_vret C hret hlk dX1_keep_63 (by unfold wHs kG; simp only [h]; first | done | rfl)
  refine g_aload_n C dX1_keep_0 0 rfl ?_
  refine g_get C (v := .int (nI z)) fl_X1_keep_X1 0 rfl rfl 2 (by decide) fw_X1_keep_fld21 rfl dX1_keep_1 ?_
  refine g_bipush C (v := 6) dX1_keep_4 cb_6 ?_
  refine g_icmp_ne C (tgt := 32) dX1_keep_6 (by decide) (fun h6_1 => ?_) (fun h6_1 => ?_)
  · have h6_1 := isn6 h6_1
    exact g_ws (by simp only [kO, kM, h6_1, Bool.false_eq_true, not_false_eq_true, not_true_eq_false, and_self, and_true, true_and, and_false, false_and, or_true, true_or, or_false, false_or, or_self, if_true, if_false, eq_self, ite_true, ite_false, reduceIte]) K
  · have h6_1 := is6 hz h6_1
    refine g_aload_n C dX1_keep_9 0 rfl ?_
    refine g_aload_n C dX1_keep_10 0 rfl ?_
    refine g_get C (v := .int (nI o)) fl_X1_keep_X1 0 rfl rfl 1 (by decide) fw_X1_keep_fld17 rfl dX1_keep_11 ?_
    refine g_iconst C (v := 1) dX1_keep_14 ci_1 ?_
    refine g_iadd C (v := nI (o + 1)) dX1_keep_15 (nI_1 _) ?_
    refine g_bipush C (v := 6) dX1_keep_16 cb_6 ?_
    refine g_irem C (v := nI (((o + 1)) % 6)) dX1_keep_18 (by decide) (pk_rem (d := 6) (by have := kO_lt (z := z) ho; have := kM_lt hz; omega) (by decide) (by decide)) ?_
    refine g_put C (ws' := ((wH0 ha hb cO (nI (((o + 1)) % 6)) (nI z)) ++ ((wB (hb 0) cI (G 0)) ++ ((wB (hb 1) cI (G 1)) ++ ((wB (hb 2) cI (G 2)) ++ ((wB (hb 3) cI (G 3)) ++ ((wB (hb 4) cI (G 4)) ++ ((wB (hb 5) cI (G 5)) ++ (wB ad cI g))))))))) fl_X1_keep_X1 tyX1 tyX1_ok nmX1 0 rfl rfl 1 (by decide) fw_X1_keep_fld17 rfl (tyX1_ok 1 (by decide)) rfl rfl (Nat.le_of_ble_eq_true rfl) dX1_keep_19 (ws_setl (Nat.le_of_ble_eq_true rfl) rfl) ?_
    refine g_aload_n C dX1_keep_22 0 rfl ?_
    refine g_dup C dX1_keep_23 rfl ?_
    refine g_get C (v := .int (nI z)) fl_X1_keep_X1 0 rfl rfl 2 (by decide) fw_X1_keep_fld21 rfl dX1_keep_24 ?_
    refine g_iconst C (v := 1) dX1_keep_27 ci_1 ?_
    refine g_isub C (v := nI (z - 1)) dX1_keep_28 (pk_sub (b := 1) (by omega)) ?_
    refine g_put C (ws' := ((wH0 ha hb cO (nI (((o + 1)) % 6)) (nI (z - 1))) ++ ((wB (hb 0) cI (G 0)) ++ ((wB (hb 1) cI (G 1)) ++ ((wB (hb 2) cI (G 2)) ++ ((wB (hb 3) cI (G 3)) ++ ((wB (hb 4) cI (G 4)) ++ ((wB (hb 5) cI (G 5)) ++ (wB ad cI g))))))))) fl_X1_keep_X1 tyX1 tyX1_ok nmX1 0 rfl rfl 2 (by decide) fw_X1_keep_fld21 rfl (tyX1_ok 2 (by decide)) rfl rfl (Nat.le_of_ble_eq_true rfl) dX1_keep_29 (ws_setl (Nat.le_of_ble_eq_true rfl) rfl) ?_
    exact g_ws (by simp only [kO, kM, h6_1, Bool.false_eq_true, not_false_eq_true, not_true_eq_false, and_self, and_true, true_and, and_false, false_and, or_true, true_or, or_false, false_or, or_self, if_true, if_false, eq_self, ite_true, ite_false, reduceIte]) K
theorem fw_X1_restore_fld21 : Cond.fieldLink RX1 21 "StuckRods$History" "size" "I" ∈ wsX1_restore := (List.mem_cons_of_mem _ (List.mem_append_left _ (List.mem_append_left _ (List.mem_of_getElem? (i := 0) rfl))))
theorem fl_X1_restore_X1 : ∀ w ∈ wsX10, w ∈ wsX1_restore := fun _ h => List.mem_cons_of_mem _ (List.mem_append_left _ (List.mem_append_right _ h))
theorem fw_X1_restore_fld11 : Cond.fieldLink RX1 11 "StuckRods$History" "slots" "[LStuckRods$Board;" ∈ wsX1_restore := (List.mem_cons_of_mem _ (List.mem_append_left _ (List.mem_append_left _ (List.mem_of_getElem? (i := 1) rfl))))
theorem fw_X1_restore_fld17 : Cond.fieldLink RX1 17 "StuckRods$History" "oldest" "I" ∈ wsX1_restore := (List.mem_cons_of_mem _ (List.mem_append_left _ (List.mem_append_left _ (List.mem_of_getElem? (i := 2) rfl))))
abbrev rmX1_restore : Room := { frames := 1, cells := 0, slots := 0, locals := 22 }
set_option maxHeartbeats 1000000 in
set_option maxRecDepth 100000 in
theorem c_X1_restore (l : Launch) (D : va_G) (cI cO : ClassId) (ha : Nat → Nat) (hb : Nat → Nat → Nat) (ad : Nat → Nat) (G : Nat → Nat → Int32) (g : Nat → Int32) (o z : Nat) (ho : o < 6) (hz : z ≤ 6) (hp : 0 < z) : cR (fun _ => True) l yX1_restore wsX1_restore rmX1_restore D vwCl (tyA cI cO) [.ref (ha 0), .ref (ad 0)] ((wHs ha hb cI cO G (nI o) (nI z)) ++ (wB ad cI g)) none ((wHs ha hb cI cO G (nI o) (nI (z - 1))) ++ (wB ad cI (G (rI o z)))) := by
  refine cR_of (cc := cX1_restore) (maxL := 2) (ret := none) (by decide) rfl (Nat.le_of_ble_eq_true rfl) ?_
  intro p e s m below meth c A C hret hlk hnm hF
  refine g_lv [0, 1] (lv' := [(0, .ref (ha 0)), (1, .ref (ad 0))]) rfl ?_
  refine g_ws (ws' := ((wH0 ha hb cO (nI o) (nI z)) ++ ((wB (hb 0) cI (G 0)) ++ ((wB (hb 1) cI (G 1)) ++ ((wB (hb 2) cI (G 2)) ++ ((wB (hb 3) cI (G 3)) ++ ((wB (hb 4) cI (G 4)) ++ ((wB (hb 5) cI (G 5)) ++ (wB ad cI g))))))))) rfl ?_
  refine g_aload_n C dX1_restore_0 0 rfl ?_
  refine g_get C (v := .int (nI z)) fl_X1_restore_X1 0 rfl rfl 2 (by decide) fw_X1_restore_fld21 rfl dX1_restore_1 ?_
  refine g_if_le C (tgt := 38) dX1_restore_4 (by decide) (fun h4_1 => absurd h4_1 (nI_nle hp (by omega))) (fun _ => ?_)
  refine g_aload_n C dX1_restore_7 0 rfl ?_
  refine g_dup C dX1_restore_8 rfl ?_
  refine g_get C (v := .int (nI z)) fl_X1_restore_X1 0 rfl rfl 2 (by decide) fw_X1_restore_fld21 rfl dX1_restore_9 ?_
  refine g_iconst C (v := 1) dX1_restore_12 ci_1 ?_
  refine g_isub C (v := nI (z - 1)) dX1_restore_13 (pk_sub (b := 1) (by omega)) ?_
  refine g_put C (ws' := ((wH0 ha hb cO (nI o) (nI (z - 1))) ++ ((wB (hb 0) cI (G 0)) ++ ((wB (hb 1) cI (G 1)) ++ ((wB (hb 2) cI (G 2)) ++ ((wB (hb 3) cI (G 3)) ++ ((wB (hb 4) cI (G 4)) ++ ((wB (hb 5) cI (G 5)) ++ (wB ad cI g))))))))) fl_X1_restore_X1 tyX1 tyX1_ok nmX1 0 rfl rfl 2 (by decide) fw_X1_restore_fld21 rfl (tyX1_ok 2 (by decide)) rfl rfl (Nat.le_of_ble_eq_true rfl) dX1_restore_14 (ws_setl (Nat.le_of_ble_eq_true rfl) rfl) ?_
  refine g_aload_n C dX1_restore_17 1 rfl ?_
  refine g_aload_n C dX1_restore_18 0 rfl ?_
  refine g_get C (v := .ref (ha 1)) fl_X1_restore_X1 0 rfl rfl 0 (by decide) fw_X1_restore_fld11 rfl dX1_restore_19 ?_
  refine g_aload_n C dX1_restore_22 0 rfl ?_
  refine g_get C (v := .int (nI o)) fl_X1_restore_X1 0 rfl rfl 1 (by decide) fw_X1_restore_fld17 rfl dX1_restore_23 ?_
  refine g_aload_n C dX1_restore_26 0 rfl ?_
  refine g_get C (v := .int (nI (z - 1))) fl_X1_restore_X1 0 rfl rfl 2 (by decide) fw_X1_restore_fld21 rfl dX1_restore_27 ?_
  refine g_iadd C (v := nI (o + (z - 1))) dX1_restore_30 (nI_add _ _) ?_
  refine g_bipush C (v := 6) dX1_restore_31 cb_6 ?_
  refine g_irem C (v := nI (rI o z)) dX1_restore_33 (by decide) (pk_rem (d := 6) (by have := kO_lt (z := z) ho; have := kM_lt hz; omega) (by decide) (by decide)) ?_
  refine g_aldq C (x := .ref (hb (rI o z) 0)) 1 1 rfl rfl (rI o z) rfl (Nat.mod_lt _ (by decide)) (by decide) rfl dX1_restore_34 ?_
  rcases rI_6 o z with h | h | h | h | h | h
  · rw [h]
    refine g_perm [0, 1, 9, 10, 11, 12, 13, 14, 15, 16, 17, 18, 19, 20, 21, 22, 23, 24, 25, 26, 27, 28, 29, 30, 31, 32, 33, 34, 35, 36, 37, 38, 39, 40, 41, 42, 43, 44, 45, 46, 47, 48, 49, 50, 2, 3, 4, 5, 6, 7, 8] (ws' := ((wH0 ha hb cO (nI o) (nI (z - 1))) ++ ((wB (hb 1) cI (G 1)) ++ ((wB (hb 2) cI (G 2)) ++ ((wB (hb 3) cI (G 3)) ++ ((wB (hb 4) cI (G 4)) ++ ((wB (hb 5) cI (G 5)) ++ ((wB ad cI g) ++ (wB (hb 0) cI (G 0)))))))))) rfl rfl rfl ?_
    refine g_callVv C (c_X0_copyFrom l D cI cO ad (hb 0) g (G 0)) gX1_restore_X0_copyFrom rfl ⟨rfl, rfl⟩ hd_X0_copyFrom ⟨Nat.le_of_ble_eq_true rfl, Nat.le_of_ble_eq_true rfl⟩ [0, 1] rfl (fun _ _ => trivial) rfl (rest := []) rfl (Nat.le_of_ble_eq_true rfl) dX1_restore_35 ⟨Nat.zero_le _, Nat.zero_le _⟩ 0 rfl rfl rfl (pre := ((wH0 ha hb cO (nI o) (nI (z - 1))) ++ ((wB (hb 1) cI (G 1)) ++ ((wB (hb 2) cI (G 2)) ++ ((wB (hb 3) cI (G 3)) ++ ((wB (hb 4) cI (G 4)) ++ (wB (hb 5) cI (G 5)))))))) (post := []) (ws' := ((wH0 ha hb cO (nI o) (nI (z - 1))) ++ ((wB (hb 1) cI (G 1)) ++ ((wB (hb 2) cI (G 2)) ++ ((wB (hb 3) cI (G 3)) ++ ((wB (hb 4) cI (G 4)) ++ ((wB (hb 5) cI (G 5)) ++ ((wB ad cI (G 0)) ++ (wB (hb 0) cI (G 0)))))))))) rfl rfl ?_
    refine g_perm [0, 1, 44, 45, 46, 47, 48, 49, 50, 2, 3, 4, 5, 6, 7, 8, 9, 10, 11, 12, 13, 14, 15, 16, 17, 18, 19, 20, 21, 22, 23, 24, 25, 26, 27, 28, 29, 30, 31, 32, 33, 34, 35, 36, 37, 38, 39, 40, 41, 42, 43] (ws' := ((wH0 ha hb cO (nI o) (nI (z - 1))) ++ ((wB (hb 0) cI (G 0)) ++ ((wB (hb 1) cI (G 1)) ++ ((wB (hb 2) cI (G 2)) ++ ((wB (hb 3) cI (G 3)) ++ ((wB (hb 4) cI (G 4)) ++ ((wB (hb 5) cI (G 5)) ++ (wB ad cI (G 0)))))))))) rfl rfl rfl ?_
    exact g_vret C hret hlk dX1_restore_38 rfl
  · rw [h]
    refine g_perm [0, 1, 2, 3, 4, 5, 6, 7, 8, 16, 17, 18, 19, 20, 21, 22, 23, 24, 25, 26, 27, 28, 29, 30, 31, 32, 33, 34, 35, 36, 37, 38, 39, 40, 41, 42, 43, 44, 45, 46, 47, 48, 49, 50, 9, 10, 11, 12, 13, 14, 15] (ws' := ((wH0 ha hb cO (nI o) (nI (z - 1))) ++ ((wB (hb 0) cI (G 0)) ++ ((wB (hb 2) cI (G 2)) ++ ((wB (hb 3) cI (G 3)) ++ ((wB (hb 4) cI (G 4)) ++ ((wB (hb 5) cI (G 5)) ++ ((wB ad cI g) ++ (wB (hb 1) cI (G 1)))))))))) rfl rfl rfl ?_
    refine g_callVv C (c_X0_copyFrom l D cI cO ad (hb 1) g (G 1)) gX1_restore_X0_copyFrom rfl ⟨rfl, rfl⟩ hd_X0_copyFrom ⟨Nat.le_of_ble_eq_true rfl, Nat.le_of_ble_eq_true rfl⟩ [0, 1] rfl (fun _ _ => trivial) rfl (rest := []) rfl (Nat.le_of_ble_eq_true rfl) dX1_restore_35 ⟨Nat.zero_le _, Nat.zero_le _⟩ 0 rfl rfl rfl (pre := ((wH0 ha hb cO (nI o) (nI (z - 1))) ++ ((wB (hb 0) cI (G 0)) ++ ((wB (hb 2) cI (G 2)) ++ ((wB (hb 3) cI (G 3)) ++ ((wB (hb 4) cI (G 4)) ++ (wB (hb 5) cI (G 5)))))))) (post := []) (ws' := ((wH0 ha hb cO (nI o) (nI (z - 1))) ++ ((wB (hb 0) cI (G 0)) ++ ((wB (hb 2) cI (G 2)) ++ ((wB (hb 3) cI (G 3)) ++ ((wB (hb 4) cI (G 4)) ++ ((wB (hb 5) cI (G 5)) ++ ((wB ad cI (G 1)) ++ (wB (hb 1) cI (G 1)))))))))) rfl rfl ?_
    refine g_perm [0, 1, 2, 3, 4, 5, 6, 7, 8, 44, 45, 46, 47, 48, 49, 50, 9, 10, 11, 12, 13, 14, 15, 16, 17, 18, 19, 20, 21, 22, 23, 24, 25, 26, 27, 28, 29, 30, 31, 32, 33, 34, 35, 36, 37, 38, 39, 40, 41, 42, 43] (ws' := ((wH0 ha hb cO (nI o) (nI (z - 1))) ++ ((wB (hb 0) cI (G 0)) ++ ((wB (hb 1) cI (G 1)) ++ ((wB (hb 2) cI (G 2)) ++ ((wB (hb 3) cI (G 3)) ++ ((wB (hb 4) cI (G 4)) ++ ((wB (hb 5) cI (G 5)) ++ (wB ad cI (G 1)))))))))) rfl rfl rfl ?_
    exact g_vret C hret hlk dX1_restore_38 rfl
  · rw [h]
    refine g_perm [0, 1, 2, 3, 4, 5, 6, 7, 8, 9, 10, 11, 12, 13, 14, 15, 23, 24, 25, 26, 27, 28, 29, 30, 31, 32, 33, 34, 35, 36, 37, 38, 39, 40, 41, 42, 43, 44, 45, 46, 47, 48, 49, 50, 16, 17, 18, 19, 20, 21, 22] (ws' := ((wH0 ha hb cO (nI o) (nI (z - 1))) ++ ((wB (hb 0) cI (G 0)) ++ ((wB (hb 1) cI (G 1)) ++ ((wB (hb 3) cI (G 3)) ++ ((wB (hb 4) cI (G 4)) ++ ((wB (hb 5) cI (G 5)) ++ ((wB ad cI g) ++ (wB (hb 2) cI (G 2)))))))))) rfl rfl rfl ?_
    refine g_callVv C (c_X0_copyFrom l D cI cO ad (hb 2) g (G 2)) gX1_restore_X0_copyFrom rfl ⟨rfl, rfl⟩ hd_X0_copyFrom ⟨Nat.le_of_ble_eq_true rfl, Nat.le_of_ble_eq_true rfl⟩ [0, 1] rfl (fun _ _ => trivial) rfl (rest := []) rfl (Nat.le_of_ble_eq_true rfl) dX1_restore_35 ⟨Nat.zero_le _, Nat.zero_le _⟩ 0 rfl rfl rfl (pre := ((wH0 ha hb cO (nI o) (nI (z - 1))) ++ ((wB (hb 0) cI (G 0)) ++ ((wB (hb 1) cI (G 1)) ++ ((wB (hb 3) cI (G 3)) ++ ((wB (hb 4) cI (G 4)) ++ (wB (hb 5) cI (G 5)))))))) (post := []) (ws' := ((wH0 ha hb cO (nI o) (nI (z - 1))) ++ ((wB (hb 0) cI (G 0)) ++ ((wB (hb 1) cI (G 1)) ++ ((wB (hb 3) cI (G 3)) ++ ((wB (hb 4) cI (G 4)) ++ ((wB (hb 5) cI (G 5)) ++ ((wB ad cI (G 2)) ++ (wB (hb 2) cI (G 2)))))))))) rfl rfl ?_
    refine g_perm [0, 1, 2, 3, 4, 5, 6, 7, 8, 9, 10, 11, 12, 13, 14, 15, 44, 45, 46, 47, 48, 49, 50, 16, 17, 18, 19, 20, 21, 22, 23, 24, 25, 26, 27, 28, 29, 30, 31, 32, 33, 34, 35, 36, 37, 38, 39, 40, 41, 42, 43] (ws' := ((wH0 ha hb cO (nI o) (nI (z - 1))) ++ ((wB (hb 0) cI (G 0)) ++ ((wB (hb 1) cI (G 1)) ++ ((wB (hb 2) cI (G 2)) ++ ((wB (hb 3) cI (G 3)) ++ ((wB (hb 4) cI (G 4)) ++ ((wB (hb 5) cI (G 5)) ++ (wB ad cI (G 2)))))))))) rfl rfl rfl ?_
    exact g_vret C hret hlk dX1_restore_38 rfl
  · rw [h]
    refine g_perm [0, 1, 2, 3, 4, 5, 6, 7, 8, 9, 10, 11, 12, 13, 14, 15, 16, 17, 18, 19, 20, 21, 22, 30, 31, 32, 33, 34, 35, 36, 37, 38, 39, 40, 41, 42, 43, 44, 45, 46, 47, 48, 49, 50, 23, 24, 25, 26, 27, 28, 29] (ws' := ((wH0 ha hb cO (nI o) (nI (z - 1))) ++ ((wB (hb 0) cI (G 0)) ++ ((wB (hb 1) cI (G 1)) ++ ((wB (hb 2) cI (G 2)) ++ ((wB (hb 4) cI (G 4)) ++ ((wB (hb 5) cI (G 5)) ++ ((wB ad cI g) ++ (wB (hb 3) cI (G 3)))))))))) rfl rfl rfl ?_
    refine g_callVv C (c_X0_copyFrom l D cI cO ad (hb 3) g (G 3)) gX1_restore_X0_copyFrom rfl ⟨rfl, rfl⟩ hd_X0_copyFrom ⟨Nat.le_of_ble_eq_true rfl, Nat.le_of_ble_eq_true rfl⟩ [0, 1] rfl (fun _ _ => trivial) rfl (rest := []) rfl (Nat.le_of_ble_eq_true rfl) dX1_restore_35 ⟨Nat.zero_le _, Nat.zero_le _⟩ 0 rfl rfl rfl (pre := ((wH0 ha hb cO (nI o) (nI (z - 1))) ++ ((wB (hb 0) cI (G 0)) ++ ((wB (hb 1) cI (G 1)) ++ ((wB (hb 2) cI (G 2)) ++ ((wB (hb 4) cI (G 4)) ++ (wB (hb 5) cI (G 5)))))))) (post := []) (ws' := ((wH0 ha hb cO (nI o) (nI (z - 1))) ++ ((wB (hb 0) cI (G 0)) ++ ((wB (hb 1) cI (G 1)) ++ ((wB (hb 2) cI (G 2)) ++ ((wB (hb 4) cI (G 4)) ++ ((wB (hb 5) cI (G 5)) ++ ((wB ad cI (G 3)) ++ (wB (hb 3) cI (G 3)))))))))) rfl rfl ?_
    refine g_perm [0, 1, 2, 3, 4, 5, 6, 7, 8, 9, 10, 11, 12, 13, 14, 15, 16, 17, 18, 19, 20, 21, 22, 44, 45, 46, 47, 48, 49, 50, 23, 24, 25, 26, 27, 28, 29, 30, 31, 32, 33, 34, 35, 36, 37, 38, 39, 40, 41, 42, 43] (ws' := ((wH0 ha hb cO (nI o) (nI (z - 1))) ++ ((wB (hb 0) cI (G 0)) ++ ((wB (hb 1) cI (G 1)) ++ ((wB (hb 2) cI (G 2)) ++ ((wB (hb 3) cI (G 3)) ++ ((wB (hb 4) cI (G 4)) ++ ((wB (hb 5) cI (G 5)) ++ (wB ad cI (G 3)))))))))) rfl rfl rfl ?_
    exact g_vret C hret hlk dX1_restore_38 rfl
  · rw [h]
    refine g_perm [0, 1, 2, 3, 4, 5, 6, 7, 8, 9, 10, 11, 12, 13, 14, 15, 16, 17, 18, 19, 20, 21, 22, 23, 24, 25, 26, 27, 28, 29, 37, 38, 39, 40, 41, 42, 43, 44, 45, 46, 47, 48, 49, 50, 30, 31, 32, 33, 34, 35, 36] (ws' := ((wH0 ha hb cO (nI o) (nI (z - 1))) ++ ((wB (hb 0) cI (G 0)) ++ ((wB (hb 1) cI (G 1)) ++ ((wB (hb 2) cI (G 2)) ++ ((wB (hb 3) cI (G 3)) ++ ((wB (hb 5) cI (G 5)) ++ ((wB ad cI g) ++ (wB (hb 4) cI (G 4)))))))))) rfl rfl rfl ?_
    refine g_callVv C (c_X0_copyFrom l D cI cO ad (hb 4) g (G 4)) gX1_restore_X0_copyFrom rfl ⟨rfl, rfl⟩ hd_X0_copyFrom ⟨Nat.le_of_ble_eq_true rfl, Nat.le_of_ble_eq_true rfl⟩ [0, 1] rfl (fun _ _ => trivial) rfl (rest := []) rfl (Nat.le_of_ble_eq_true rfl) dX1_restore_35 ⟨Nat.zero_le _, Nat.zero_le _⟩ 0 rfl rfl rfl (pre := ((wH0 ha hb cO (nI o) (nI (z - 1))) ++ ((wB (hb 0) cI (G 0)) ++ ((wB (hb 1) cI (G 1)) ++ ((wB (hb 2) cI (G 2)) ++ ((wB (hb 3) cI (G 3)) ++ (wB (hb 5) cI (G 5)))))))) (post := []) (ws' := ((wH0 ha hb cO (nI o) (nI (z - 1))) ++ ((wB (hb 0) cI (G 0)) ++ ((wB (hb 1) cI (G 1)) ++ ((wB (hb 2) cI (G 2)) ++ ((wB (hb 3) cI (G 3)) ++ ((wB (hb 5) cI (G 5)) ++ ((wB ad cI (G 4)) ++ (wB (hb 4) cI (G 4)))))))))) rfl rfl ?_
    refine g_perm [0, 1, 2, 3, 4, 5, 6, 7, 8, 9, 10, 11, 12, 13, 14, 15, 16, 17, 18, 19, 20, 21, 22, 23, 24, 25, 26, 27, 28, 29, 44, 45, 46, 47, 48, 49, 50, 30, 31, 32, 33, 34, 35, 36, 37, 38, 39, 40, 41, 42, 43] (ws' := ((wH0 ha hb cO (nI o) (nI (z - 1))) ++ ((wB (hb 0) cI (G 0)) ++ ((wB (hb 1) cI (G 1)) ++ ((wB (hb 2) cI (G 2)) ++ ((wB (hb 3) cI (G 3)) ++ ((wB (hb 4) cI (G 4)) ++ ((wB (hb 5) cI (G 5)) ++ (wB ad cI (G 4)))))))))) rfl rfl rfl ?_
    exact g_vret C hret hlk dX1_restore_38 rfl
  · rw [h]
    refine g_perm [0, 1, 2, 3, 4, 5, 6, 7, 8, 9, 10, 11, 12, 13, 14, 15, 16, 17, 18, 19, 20, 21, 22, 23, 24, 25, 26, 27, 28, 29, 30, 31, 32, 33, 34, 35, 36, 44, 45, 46, 47, 48, 49, 50, 37, 38, 39, 40, 41, 42, 43] (ws' := ((wH0 ha hb cO (nI o) (nI (z - 1))) ++ ((wB (hb 0) cI (G 0)) ++ ((wB (hb 1) cI (G 1)) ++ ((wB (hb 2) cI (G 2)) ++ ((wB (hb 3) cI (G 3)) ++ ((wB (hb 4) cI (G 4)) ++ ((wB ad cI g) ++ (wB (hb 5) cI (G 5)))))))))) rfl rfl rfl ?_
    refine g_callVv C (c_X0_copyFrom l D cI cO ad (hb 5) g (G 5)) gX1_restore_X0_copyFrom rfl ⟨rfl, rfl⟩ hd_X0_copyFrom ⟨Nat.le_of_ble_eq_true rfl, Nat.le_of_ble_eq_true rfl⟩ [0, 1] rfl (fun _ _ => trivial) rfl (rest := []) rfl (Nat.le_of_ble_eq_true rfl) dX1_restore_35 ⟨Nat.zero_le _, Nat.zero_le _⟩ 0 rfl rfl rfl (pre := ((wH0 ha hb cO (nI o) (nI (z - 1))) ++ ((wB (hb 0) cI (G 0)) ++ ((wB (hb 1) cI (G 1)) ++ ((wB (hb 2) cI (G 2)) ++ ((wB (hb 3) cI (G 3)) ++ (wB (hb 4) cI (G 4)))))))) (post := []) (ws' := ((wH0 ha hb cO (nI o) (nI (z - 1))) ++ ((wB (hb 0) cI (G 0)) ++ ((wB (hb 1) cI (G 1)) ++ ((wB (hb 2) cI (G 2)) ++ ((wB (hb 3) cI (G 3)) ++ ((wB (hb 4) cI (G 4)) ++ ((wB ad cI (G 5)) ++ (wB (hb 5) cI (G 5)))))))))) rfl rfl ?_
    refine g_perm [0, 1, 2, 3, 4, 5, 6, 7, 8, 9, 10, 11, 12, 13, 14, 15, 16, 17, 18, 19, 20, 21, 22, 23, 24, 25, 26, 27, 28, 29, 30, 31, 32, 33, 34, 35, 36, 44, 45, 46, 47, 48, 49, 50, 37, 38, 39, 40, 41, 42, 43] (ws' := ((wH0 ha hb cO (nI o) (nI (z - 1))) ++ ((wB (hb 0) cI (G 0)) ++ ((wB (hb 1) cI (G 1)) ++ ((wB (hb 2) cI (G 2)) ++ ((wB (hb 3) cI (G 3)) ++ ((wB (hb 4) cI (G 4)) ++ ((wB (hb 5) cI (G 5)) ++ (wB ad cI (G 5)))))))))) rfl rfl rfl ?_
    exact g_vret C hret hlk dX1_restore_38 rfl
