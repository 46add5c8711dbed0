/-! ===== what a board is: g 0 the setting; of rod j: g (6j+1) fives, (6j+2) ones, (6j+3) loan, (6j+4) stuck, (6j+5) moved, (6j+6) borrowed ===== -/
abbrev tyA (cI cO : ClassId) : List (ClassId × FieldType) := [(cI, .int), (cO, .object RX0)]
def wB (ad : Nat → Nat) (cI : ClassId) (g : Nat → Int32) : va_W :=
  [(ad 0, .inr (0, [.ref (ad 1), .ref (ad 2), .ref (ad 3), .ref (ad 4), .ref (ad 5), .ref (ad 6), .int (g 0)])),
   (ad 1, .inl (cI, 9, .inl (fun j => g (6 * j + 1)))), (ad 2, .inl (cI, 9, .inl (fun j => g (6 * j + 2)))), (ad 3, .inl (cI, 9, .inl (fun j => g (6 * j + 4)))),
   (ad 4, .inl (cI, 9, .inl (fun j => g (6 * j + 3)))), (ad 5, .inl (cI, 9, .inl (fun j => g (6 * j + 5)))), (ad 6, .inl (cI, 9, .inl (fun j => g (6 * j + 6))))]
theorem upd_in {g : Nat → Int32} {r o : Nat} {v : Int32} : upd (fun j => g (6 * j + o)) r v = fun j => upd g (6 * r + o) v (6 * j + o) := by
  funext j
  by_cases h : j = r
  · subst h; simp [upd]
  · have h2 : ¬ 6 * j + o = 6 * r + o := by omega
    show (if j = r then v else g (6 * j + o)) = if 6 * j + o = 6 * r + o then v else g (6 * j + o)
    rw [if_neg h, if_neg h2]
theorem upd_off {g : Nat → Int32} {r o q : Nat} {v : Int32} (h : 0 < o ∧ o < 7 ∧ 0 < q ∧ q < 7 ∧ q ≠ o) : (fun j => g (6 * j + q)) = fun j => upd g (6 * r + o) v (6 * j + q) := by
  funext j
  have : ¬ 6 * j + q = 6 * r + o := by omega
  simp [upd, this]
theorem upd_set {g : Nat → Int32} {r o : Nat} {v : Int32} (h : 0 < o) : upd g (6 * r + o) v 0 = g 0 := by
  have : ¬ 0 = 6 * r + o := by omega
  simp [upd, this]
theorem upd_0 {g : Nat → Int32} {q : Nat} {v : Int32} (h : 0 < q) : (fun j => g (6 * j + q)) = fun j => upd g 0 v (6 * j + q) := by
  funext j
  have h2 : ¬ 6 * j + q = 0 := by omega
  show g (6 * j + q) = if 6 * j + q = 0 then v else g (6 * j + q)
  rw [if_neg h2]
theorem wB_1 (ad : Nat → Nat) (cI : ClassId) (g : Nat → Int32) (r : Nat) (v : Int32) : (wB ad cI g).set 1 (ad 1, .inl (cI, 9, .inl (upd (fun j => g (6 * j + 1)) r v))) = wB ad cI (upd g (6 * r + 1) v) := by
  simp only [wB, List.set]
  rw [upd_in, upd_off (g := g) (r := r) (o := 1) (q := 2) (v := v) (by decide), upd_off (g := g) (r := r) (o := 1) (q := 3) (v := v) (by decide), upd_off (g := g) (r := r) (o := 1) (q := 4) (v := v) (by decide), upd_off (g := g) (r := r) (o := 1) (q := 5) (v := v) (by decide), upd_off (g := g) (r := r) (o := 1) (q := 6) (v := v) (by decide), upd_set (by decide)]
theorem wB_2 (ad : Nat → Nat) (cI : ClassId) (g : Nat → Int32) (r : Nat) (v : Int32) : (wB ad cI g).set 2 (ad 2, .inl (cI, 9, .inl (upd (fun j => g (6 * j + 2)) r v))) = wB ad cI (upd g (6 * r + 2) v) := by
  simp only [wB, List.set]
  rw [upd_in, upd_off (g := g) (r := r) (o := 2) (q := 1) (v := v) (by decide), upd_off (g := g) (r := r) (o := 2) (q := 3) (v := v) (by decide), upd_off (g := g) (r := r) (o := 2) (q := 4) (v := v) (by decide), upd_off (g := g) (r := r) (o := 2) (q := 5) (v := v) (by decide), upd_off (g := g) (r := r) (o := 2) (q := 6) (v := v) (by decide), upd_set (by decide)]
theorem wB_3 (ad : Nat → Nat) (cI : ClassId) (g : Nat → Int32) (r : Nat) (v : Int32) : (wB ad cI g).set 3 (ad 3, .inl (cI, 9, .inl (upd (fun j => g (6 * j + 4)) r v))) = wB ad cI (upd g (6 * r + 4) v) := by
  simp only [wB, List.set]
  rw [upd_in, upd_off (g := g) (r := r) (o := 4) (q := 1) (v := v) (by decide), upd_off (g := g) (r := r) (o := 4) (q := 2) (v := v) (by decide), upd_off (g := g) (r := r) (o := 4) (q := 3) (v := v) (by decide), upd_off (g := g) (r := r) (o := 4) (q := 5) (v := v) (by decide), upd_off (g := g) (r := r) (o := 4) (q := 6) (v := v) (by decide), upd_set (by decide)]
theorem wB_4 (ad : Nat → Nat) (cI : ClassId) (g : Nat → Int32) (r : Nat) (v : Int32) : (wB ad cI g).set 4 (ad 4, .inl (cI, 9, .inl (upd (fun j => g (6 * j + 3)) r v))) = wB ad cI (upd g (6 * r + 3) v) := by
  simp only [wB, List.set]
  rw [upd_in, upd_off (g := g) (r := r) (o := 3) (q := 1) (v := v) (by decide), upd_off (g := g) (r := r) (o := 3) (q := 2) (v := v) (by decide), upd_off (g := g) (r := r) (o := 3) (q := 4) (v := v) (by decide), upd_off (g := g) (r := r) (o := 3) (q := 5) (v := v) (by decide), upd_off (g := g) (r := r) (o := 3) (q := 6) (v := v) (by decide), upd_set (by decide)]
theorem wB_5 (ad : Nat → Nat) (cI : ClassId) (g : Nat → Int32) (r : Nat) (v : Int32) : (wB ad cI g).set 5 (ad 5, .inl (cI, 9, .inl (upd (fun j => g (6 * j + 5)) r v))) = wB ad cI (upd g (6 * r + 5) v) := by
  simp only [wB, List.set]
  rw [upd_in, upd_off (g := g) (r := r) (o := 5) (q := 1) (v := v) (by decide), upd_off (g := g) (r := r) (o := 5) (q := 2) (v := v) (by decide), upd_off (g := g) (r := r) (o := 5) (q := 3) (v := v) (by decide), upd_off (g := g) (r := r) (o := 5) (q := 4) (v := v) (by decide), upd_off (g := g) (r := r) (o := 5) (q := 6) (v := v) (by decide), upd_set (by decide)]
theorem wB_6 (ad : Nat → Nat) (cI : ClassId) (g : Nat → Int32) (r : Nat) (v : Int32) : (wB ad cI g).set 6 (ad 6, .inl (cI, 9, .inl (upd (fun j => g (6 * j + 6)) r v))) = wB ad cI (upd g (6 * r + 6) v) := by
  simp only [wB, List.set]
  rw [upd_in, upd_off (g := g) (r := r) (o := 6) (q := 1) (v := v) (by decide), upd_off (g := g) (r := r) (o := 6) (q := 2) (v := v) (by decide), upd_off (g := g) (r := r) (o := 6) (q := 3) (v := v) (by decide), upd_off (g := g) (r := r) (o := 6) (q := 4) (v := v) (by decide), upd_off (g := g) (r := r) (o := 6) (q := 5) (v := v) (by decide), upd_set (by decide)]
theorem wB_0 (ad : Nat → Nat) (cI : ClassId) (g : Nat → Int32) (v : Int32) : (wB ad cI g).set 0 (ad 0, .inr (0, [.ref (ad 1), .ref (ad 2), .ref (ad 3), .ref (ad 4), .ref (ad 5), .ref (ad 6), .int v])) = wB ad cI (upd g 0 v) := by
  simp only [wB, List.set]
  rw [upd_0 (g := g) (q := 1) (v := v) (by decide), upd_0 (g := g) (q := 2) (v := v) (by decide), upd_0 (g := g) (q := 3) (v := v) (by decide), upd_0 (g := g) (q := 4) (v := v) (by decide), upd_0 (g := g) (q := 5) (v := v) (by decide), upd_0 (g := g) (q := 6) (v := v) (by decide)]
  simp [upd]
/-! the class's own words for its methods, as they are written -/
def xAb (x : Int32) : Int32 := if 0 ≤ x then x else 0 - x
def xSh (g : Nat → Int32) (r : Nat) : Int32 := 5 * g (6 * r + 1) + g (6 * r + 2)
def xMb (g : Nat → Int32) (r : Nat) (f o : Int32) : Int32 :=
  if o < 0 then -1 else if ¬ o ≤ 5 then -1 else
  if ¬ xAb (f - g (6 * r + 1)) ≤ 0 ∧ ¬ g (6 * r + 4) &&& 1 = 0 then -1 else
  if ¬ xAb (o - g (6 * r + 2)) ≤ 0 ∧ ¬ g (6 * r + 4) &&& 2 = 0 then -1 else xAb (f - g (6 * r + 1)) + xAb (o - g (6 * r + 2))
def xPl (g : Nat → Int32) (r : Nat) (f o q : Int32) : Nat → Int32 :=
  upd (upd (upd g (6 * r + 1) f) (6 * r + 2) o) (6 * r + 5) (upd (upd g (6 * r + 1) f) (6 * r + 2) o (6 * r + 5) + q)
def xTs (g : Nat → Int32) (r : Nat) (v f : Int32) (q : Int32 × Int32) : Int32 × Int32 :=
  if ¬ xMb g r f (v - 5 * f) = -1 ∧ (q.1 = -1 ∨ ¬ q.1 ≤ xMb g r f (v - 5 * f)) then (xMb g r f (v - 5 * f), f) else q
def xFi : Nat → Int32
  | 0 => -1
  | 1 => 0
  | 2 => 1
  | _ => 2
def xTf (g : Nat → Int32) (r : Nat) (v : Int32) : Nat → Int32 × Int32 → Int32 × Int32
  | 0, q => q
  | j + 1, q => xTf g r v j (xTs g r v (xFi (j + 1)) q)
def xTq (g : Nat → Int32) (r : Nat) (v : Int32) : Int32 × Int32 := xTf g r v 3 (-1, 0)
def xTv (g : Nat → Int32) (r : Nat) (v : Int32) : Int32 := (xTq g r v).1
def xTn (g : Nat → Int32) (r : Nat) (v d : Int32) : Nat → Int32 :=
  if d = 0 then g else if (xTq g r v).1 = -1 then g else xPl g r (xTq g r v).2 (v - 5 * (xTq g r v).2) (xTq g r v).1
def xBo (g : Nat → Int32) (r : Nat) (s : Int32) : Prop := (g (6 * r + 3) + s) * s ≤ g 0
def xBn (g : Nat → Int32) (r : Nat) (s d : Int32) : Nat → Int32 :=
  if ¬ (g (6 * r + 3) + s) * s ≤ g 0 then g else if d = 0 then g else upd (upd g (6 * r + 3) (g (6 * r + 3) + s)) (6 * r + 6) (upd g (6 * r + 3) (g (6 * r + 3) + s) (6 * r + 6) + 1)
def xCa (s d : Int32) : Nat → (Nat → Int32) → Nat → Int32 → Int32 × (Nat → Int32)
  | 0, g, _, _ => (-1, g)
  | n + 1, g, r, t =>
    if ¬ xTv g r (xSh g r + s) = -1 then (t + xTv g r (xSh g r + s), xTn g r (xSh g r + s) d) else
    if xTv g r (xSh g r - 9 * s) = -1 then (if (g (6 * r + 3) + s) * s ≤ g 0 then t else -1, xBn g r s d) else
    xCa s d n (xTn g r (xSh g r - 9 * s) d) (r + 1) (t + xTv g r (xSh g r - 9 * s))
def xTc (g : Nat → Int32) (r : Nat) (v s d : Int32) : Int32 × (Nat → Int32) :=
  if xTv g r v = -1 then (-1, g) else xCa s d (8 - r) (xTn g r v d) (r + 1) (xTv g r v)
def xSg (n : Int32) : Int32 := if 0 ≤ n then 1 else -1
def xCh (g : Nat → Int32) (r : Nat) (n d : Int32) : Int32 × (Nat → Int32) :=
  if ¬ xTv g r (xSh g r + n) = -1 then (xTv g r (xSh g r + n), xTn g r (xSh g r + n) d) else xTc g r (xSh g r + n - 10 * xSg n) (xSg n) d
theorem xTn_no {g : Nat → Int32} {r : Nat} {v d : Int32} (h : xTv g r v = -1) : xTn g r v d = g := by
  unfold xTn
  rw [if_pos (show (xTq g r v).1 = -1 from h)]
  split <;> rfl
theorem xTn_0 {g : Nat → Int32} {r : Nat} {v : Int32} : xTn g r v 0 = g := if_pos rfl
theorem xBn_0 {g : Nat → Int32} {r : Nat} {s : Int32} : xBn g r s 0 = g := by
  unfold xBn
  split
  · rfl
  · rfl
theorem xCa_0 (s : Int32) : ∀ (n : Nat) (g : Nat → Int32) (r : Nat) (t : Int32), (xCa s 0 n g r t).2 = g
  | 0, g, r, t => rfl
  | n + 1, g, r, t => by
    unfold xCa
    split
    · show xTn g r (xSh g r + s) 0 = g
      exact xTn_0
    · split
      · show xBn g r s 0 = g
        exact xBn_0
      · rw [xTn_0]; exact xCa_0 s n g (r + 1) _
theorem xTc_0 {g : Nat → Int32} {r : Nat} {v s : Int32} : (xTc g r v s 0).2 = g := by
  unfold xTc
  split
  · rfl
  · rw [xCa_0, xTn_0]
theorem xCh_0 {g : Nat → Int32} {r : Nat} {n : Int32} : (xCh g r n 0).2 = g := by
  unfold xCh
  split
  · show xTn g r (xSh g r + n) 0 = g
    exact xTn_0
  · exact xTc_0
def xPa (g : Nat → Int32) (r : Nat) : Int32 × (Nat → Int32) :=
  if (xCh g r (g (6 * r + 3)) 0).1 = -1 then (0, g) else ((xCh g r (g (6 * r + 3)) 1).1, upd (xCh g r (g (6 * r + 3)) 1).2 (6 * r + 3) 0)
def xOr (g : Nat → Int32) (r : Nat) : Int32 × (Nat → Int32) :=
  if xSh g r - 10 < 0 then (0, g) else if (xTc g r (xSh g r - 10) 1 0).1 = -1 then (0, g) else xTc g r (xSh g r - 10) 1 1
def xRe (g : Nat → Int32) (r : Nat) : Nat → Int32
  | 0 => 0
  | n + 1 => if xTv g r (nI n) = -1 then xRe g r n else xRe g r n + 1
def xSu (f : Nat → Int32) : Nat → Int32
  | 0 => 0
  | n + 1 => xSu f n + f n
def xCt (f : Nat → Prop) [∀ j, Decidable (f j)] : Nat → Int32
  | 0 => 0
  | n + 1 => if f n then xCt f n + 1 else xCt f n
theorem fw_X0_shown_fld9 : Cond.fieldLink RX0 9 "StuckRods$Board" "fives" "[I" ∈ wsX0_shown := (List.mem_cons_of_mem _ (List.mem_append_left _ (List.mem_of_getElem? (i := 0) rfl)))
theorem fl_X0_shown_X0 : ∀ w ∈ wsX00, w ∈ wsX0_shown := fun _ h => List.mem_cons_of_mem _ (List.mem_append_right _ h)
theorem fw_X0_shown_fld15 : Cond.fieldLink RX0 15 "StuckRods$Board" "ones" "[I" ∈ wsX0_shown := (List.mem_cons_of_mem _ (List.mem_append_left _ (List.mem_of_getElem? (i := 1) rfl)))
abbrev rmX0_shown : Room := { frames := 0, cells := 0, slots := 0, locals := 0 }
set_option maxHeartbeats 1000000 in
set_option maxRecDepth 100000 in
theorem c_X0_shown (l : Launch) (D : va_G) (cI cO : ClassId) (ad : Nat → Nat) (g : Nat → Int32) (r : Nat) (hr : r < 9) : cR (fun _ => True) l yX0_shown wsX0_shown rmX0_shown D vwCl (tyA cI cO) [.ref (ad 0), .int (nI r)] (wB ad cI g) (some (.int (xSh g r))) (wB ad cI g) := by
  refine cR_of (cc := cX0_shown) (maxL := 2) (ret := (some .int)) (by decide) rfl (Nat.le_of_ble_eq_true rfl) ?_
  intro p e s m below meth c A C hret hlk hnm hF
  refine g_lv [0, 1] (lv' := [(0, .ref (ad 0)), (1, .int (nI r))]) rfl ?_
  refine g_iconst C (v := 5) dX0_shown_0 ci_5 ?_
  refine g_aload_n C dX0_shown_1 0 rfl ?_
  refine g_get C (v := .ref (ad 1)) fl_X0_shown_X0 0 rfl rfl 0 (by decide) fw_X0_shown_fld9 rfl dX0_shown_2 ?_
  refine g_iload_n C dX0_shown_5 1 rfl ?_
  refine g_iald C (x := g (6 * r + 1)) 1 0 rfl rfl r rfl hr (by decide) rfl dX0_shown_6 ?_
  refine g_imul C (v := 5 * (g (6 * r + 1))) dX0_shown_7 rfl ?_
  refine g_aload_n C dX0_shown_8 0 rfl ?_
  refine g_get C (v := .ref (ad 2)) fl_X0_shown_X0 0 rfl rfl 1 (by decide) fw_X0_shown_fld15 rfl dX0_shown_9 ?_
  refine g_iload_n C dX0_shown_12 1 rfl ?_
  refine g_iald C (x := g (6 * r + 2)) 2 0 rfl rfl r rfl hr (by decide) rfl dX0_shown_13 ?_
  refine g_iadd C (v := (5 * (g (6 * r + 1))) + (g (6 * r + 2))) dX0_shown_14 rfl ?_
  exact g_iret C hret hlk dX0_shown_15 rfl rfl
theorem fw_X0_movesBy_fld9 : Cond.fieldLink RX0 9 "StuckRods$Board" "fives" "[I" ∈ wsX0_movesBy := (List.mem_cons_of_mem _ (List.mem_append_left _ (List.mem_of_getElem? (i := 0) rfl)))
theorem fl_X0_movesBy_X0 : ∀ w ∈ wsX00, w ∈ wsX0_movesBy := fun _ h => List.mem_cons_of_mem _ (List.mem_append_right _ h)
theorem fw_X0_movesBy_abs1 : Cond.methodLink RX0 34 Lib.Math.abs.name ∈ wsX0_movesBy := (List.mem_cons_of_mem _ (List.mem_append_left _ (List.mem_of_getElem? (i := 1) rfl)))
theorem fw_X0_movesBy_abs2 : Cond.static Lib.Math.abs.name ∈ wsX0_movesBy := (List.mem_cons_of_mem _ (List.mem_append_left _ (List.mem_of_getElem? (i := 2) rfl)))
theorem fw_X0_movesBy_abs3 : Cond.initialized "java/lang/Math" ∈ wsX0_movesBy := (List.mem_cons_of_mem _ (List.mem_append_left _ (List.mem_of_getElem? (i := 3) rfl)))
theorem fw_X0_movesBy_abs4 : Cond.code Lib.Math.abs.name Lib.Math.abs.code 1 ( some .int ) ∈ wsX0_movesBy := (List.mem_cons_of_mem _ (List.mem_append_left _ (List.mem_of_getElem? (i := 4) rfl)))
theorem fw_X0_movesBy_fld15 : Cond.fieldLink RX0 15 "StuckRods$Board" "ones" "[I" ∈ wsX0_movesBy := (List.mem_cons_of_mem _ (List.mem_append_left _ (List.mem_of_getElem? (i := 5) rfl)))
theorem fw_X0_movesBy_fld18 : Cond.fieldLink RX0 18 "StuckRods$Board" "stuck" "[I" ∈ wsX0_movesBy := (List.mem_cons_of_mem _ (List.mem_append_left _ (List.mem_of_getElem? (i := 6) rfl)))
abbrev rmX0_movesBy : Room := { frames := 1, cells := 0, slots := 0, locals := 21 }
set_option maxHeartbeats 1000000 in
set_option maxRecDepth 100000 in
theorem c_X0_movesBy (l : Launch) (D : va_G) (cI cO : ClassId) (ad : Nat → Nat) (g : Nat → Int32) (r : Nat) (hr : r < 9) (f o : Int32) : cR (fun _ => True) l yX0_movesBy wsX0_movesBy rmX0_movesBy D vwCl (tyA cI cO) [.ref (ad 0), .int (nI r), .int f, .int o] (wB ad cI g) (some (.int (xMb g r f o))) (wB ad cI g) := by
  refine cR_of (cc := cX0_movesBy) (maxL := 6) (ret := (some .int)) (by decide) rfl (Nat.le_of_ble_eq_true rfl) ?_
  intro p e s m below meth c A C hret hlk hnm hF
  refine g_lv [0, 1, 2, 3] (lv' := [(0, .ref (ad 0)), (1, .int (nI r)), (2, .int f), (3, .int o)]) rfl ?_
  refine g_iload_n C dX0_movesBy_0 3 rfl ?_
  refine g_if_lt C (tgt := 9) dX0_movesBy_1 (by decide) (fun h1_1 => ?_) (fun h1_1 => ?_)
  · refine g_iconst C (v := -1) dX0_movesBy_9 ci_m1 ?_
    exact g_iret C hret hlk dX0_movesBy_10 (by simp only [xMb, eq_true h1_1, Bool.false_eq_true, not_false_eq_true, not_true_eq_false, and_self, and_true, true_and, and_false, false_and, or_true, true_or, or_false, false_or, or_self, if_true, if_false, eq_self, ite_true, ite_false, reduceIte]) rfl
  · refine g_iload_n C dX0_movesBy_4 3 rfl ?_
    refine g_iconst C (v := 5) dX0_movesBy_5 ci_5 ?_
    refine g_icmp_le C (tgt := 11) dX0_movesBy_6 (by decide) (fun h6_2 => ?_) (fun h6_2 => ?_)
    · refine g_iload_n C dX0_movesBy_11 2 rfl ?_
      refine g_aload_n C dX0_movesBy_12 0 rfl ?_
      refine g_get C (v := .ref (ad 1)) fl_X0_movesBy_X0 0 rfl rfl 0 (by decide) fw_X0_movesBy_fld9 rfl dX0_movesBy_13 ?_
      refine g_iload_n C dX0_movesBy_16 1 rfl ?_
      refine g_iald C (x := g (6 * r + 1)) 1 0 rfl rfl r rfl hr (by decide) rfl dX0_movesBy_17 ?_
      refine g_isub C (v := f - (g (6 * r + 1))) dX0_movesBy_18 rfl ?_
      refine g_abs C (v := xAb (f - (g (6 * r + 1)))) dX0_movesBy_19 fw_X0_movesBy_abs1 fw_X0_movesBy_abs2 fw_X0_movesBy_abs3 fw_X0_movesBy_abs4 (Nat.le_of_ble_eq_true rfl) (Nat.le_of_ble_eq_true rfl) (Nat.zero_le _) (Nat.zero_le _) rfl ?_
      refine g_istore C (lv' := [(4, .int (xAb (f - (g (6 * r + 1))))), (0, .ref (ad 0)), (1, .int (nI r)), (2, .int f), (3, .int o)]) dX0_movesBy_22 (by decide) rfl ?_
      refine g_iload_n C dX0_movesBy_24 4 rfl ?_
      refine g_aload_n C dX0_movesBy_25 1 rfl ?_
      refine g_get C (v := .ref (ad 2)) fl_X0_movesBy_X0 0 rfl rfl 1 (by decide) fw_X0_movesBy_fld15 rfl dX0_movesBy_26 ?_
      refine g_iload_n C dX0_movesBy_29 2 rfl ?_
      refine g_iald C (x := g (6 * r + 2)) 2 0 rfl rfl r rfl hr (by decide) rfl dX0_movesBy_30 ?_
      refine g_isub C (v := o - (g (6 * r + 2))) dX0_movesBy_31 rfl ?_
      refine g_abs C (v := xAb (o - (g (6 * r + 2)))) dX0_movesBy_32 fw_X0_movesBy_abs1 fw_X0_movesBy_abs2 fw_X0_movesBy_abs3 fw_X0_movesBy_abs4 (Nat.le_of_ble_eq_true rfl) (Nat.le_of_ble_eq_true rfl) (Nat.zero_le _) (Nat.zero_le _) rfl ?_
      refine g_istore C (lv' := [(5, .int (xAb (o - (g (6 * r + 2))))), (4, .int (xAb (f - (g (6 * r + 1))))), (0, .ref (ad 0)), (1, .int (nI r)), (2, .int f), (3, .int o)]) dX0_movesBy_35 (by decide) rfl ?_
      refine g_iload C dX0_movesBy_37 1 rfl ?_
      refine g_if_le C (tgt := 55) dX0_movesBy_39 (by decide) (fun h39_3 => ?_) (fun h39_3 => ?_)
      · refine g_iload C dX0_movesBy_55 0 rfl ?_
        refine g_if_le C (tgt := 73) dX0_movesBy_57 (by decide) (fun h57_4 => ?_) (fun h57_4 => ?_)
        · refine g_iload C dX0_movesBy_73 1 rfl ?_
          refine g_iload C dX0_movesBy_75 0 rfl ?_
          refine g_iadd C (v := (xAb (f - (g (6 * r + 1)))) + (xAb (o - (g (6 * r + 2))))) dX0_movesBy_77 rfl ?_
          exact g_iret C hret hlk dX0_movesBy_78 (by simp only [xMb, h1_1, eq_true h6_2, eq_true h39_3, eq_true h57_4, Bool.false_eq_true, not_false_eq_true, not_true_eq_false, and_self, and_true, true_and, and_false, false_and, or_true, true_or, or_false, false_or, or_self, if_true, if_false, eq_self, ite_true, ite_false, reduceIte]) rfl
        · refine g_aload_n C dX0_movesBy_60 2 rfl ?_
          refine g_get C (v := .ref (ad 3)) fl_X0_movesBy_X0 0 rfl rfl 2 (by decide) fw_X0_movesBy_fld18 rfl dX0_movesBy_61 ?_
          refine g_iload_n C dX0_movesBy_64 3 rfl ?_
          refine g_iald C (x := g (6 * r + 4)) 3 0 rfl rfl r rfl hr (by decide) rfl dX0_movesBy_65 ?_
          refine g_iconst C (v := 2) dX0_movesBy_66 ci_2 ?_
          refine g_iand C (v := (g (6 * r + 4)) &&& 2) dX0_movesBy_67 rfl ?_
          refine g_if_eq C (tgt := 73) dX0_movesBy_68 (by decide) (fun h68_5 => ?_) (fun h68_5 => ?_)
          · refine g_iload C dX0_movesBy_73 1 rfl ?_
            refine g_iload C dX0_movesBy_75 0 rfl ?_
            refine g_iadd C (v := (xAb (f - (g (6 * r + 1)))) + (xAb (o - (g (6 * r + 2))))) dX0_movesBy_77 rfl ?_
            exact g_iret C hret hlk dX0_movesBy_78 (by simp only [xMb, h1_1, eq_true h6_2, eq_true h39_3, h57_4, eq_true h68_5, Bool.false_eq_true, not_false_eq_true, not_true_eq_false, and_self, and_true, true_and, and_false, false_and, or_true, true_or, or_false, false_or, or_self, if_true, if_false, eq_self, ite_true, ite_false, reduceIte]) rfl
          · refine g_iconst C (v := -1) dX0_movesBy_71 ci_m1 ?_
            exact g_iret C hret hlk dX0_movesBy_72 (by simp only [xMb, h1_1, eq_true h6_2, eq_true h39_3, h57_4, h68_5, Bool.false_eq_true, not_false_eq_true, not_true_eq_false, and_self, and_true, true_and, and_false, false_and, or_true, true_or, or_false, false_or, or_self, if_true, if_false, eq_self, ite_true, ite_false, reduceIte]) rfl
      · refine g_aload_n C dX0_movesBy_42 2 rfl ?_
        refine g_get C (v := .ref (ad 3)) fl_X0_movesBy_X0 0 rfl rfl 2 (by decide) fw_X0_movesBy_fld18 rfl dX0_movesBy_43 ?_
        refine g_iload_n C dX0_movesBy_46 3 rfl ?_
        refine g_iald C (x := g (6 * r + 4)) 3 0 rfl rfl r rfl hr (by decide) rfl dX0_movesBy_47 ?_
        refine g_iconst C (v := 1) dX0_movesBy_48 ci_1 ?_
        refine g_iand C (v := (g (6 * r + 4)) &&& 1) dX0_movesBy_49 rfl ?_
        refine g_if_eq C (tgt := 55) dX0_movesBy_50 (by decide) (fun h50_6 => ?_) (fun h50_6 => ?_)
        · refine g_iload C dX0_movesBy_55 0 rfl ?_
          refine g_if_le C (tgt := 73) dX0_movesBy_57 (by decide) (fun h57_7 => ?_) (fun h57_7 => ?_)
          · refine g_iload C dX0_movesBy_73 1 rfl ?_
            refine g_iload C dX0_movesBy_75 0 rfl ?_
            refine g_iadd C (v := (xAb (f - (g (6 * r + 1)))) + (xAb (o - (g (6 * r + 2))))) dX0_movesBy_77 rfl ?_
            exact g_iret C hret hlk dX0_movesBy_78 (by simp only [xMb, h1_1, eq_true h6_2, h39_3, eq_true h50_6, eq_true h57_7, Bool.false_eq_true, not_false_eq_true, not_true_eq_false, and_self, and_true, true_and, and_false, false_and, or_true, true_or, or_false, false_or, or_self, if_true, if_false, eq_self, ite_true, ite_false, reduceIte]) rfl
          · refine g_aload_n C dX0_movesBy_60 2 rfl ?_
            refine g_get C (v := .ref (ad 3)) fl_X0_movesBy_X0 0 rfl rfl 2 (by decide) fw_X0_movesBy_fld18 rfl dX0_movesBy_61 ?_
            refine g_iload_n C dX0_movesBy_64 3 rfl ?_
            refine g_iald C (x := g (6 * r + 4)) 3 0 rfl rfl r rfl hr (by decide) rfl dX0_movesBy_65 ?_
            refine g_iconst C (v := 2) dX0_movesBy_66 ci_2 ?_
            refine g_iand C (v := (g (6 * r + 4)) &&& 2) dX0_movesBy_67 rfl ?_
            refine g_if_eq C (tgt := 73) dX0_movesBy_68 (by decide) (fun h68_8 => ?_) (fun h68_8 => ?_)
            · refine g_iload C dX0_movesBy_73 1 rfl ?_
              refine g_iload C dX0_movesBy_75 0 rfl ?_
              refine g_iadd C (v := (xAb (f - (g (6 * r + 1)))) + (xAb (o - (g (6 * r + 2))))) dX0_movesBy_77 rfl ?_
              exact g_iret C hret hlk dX0_movesBy_78 (by simp only [xMb, h1_1, eq_true h6_2, h39_3, eq_true h50_6, h57_7, eq_true h68_8, Bool.false_eq_true, not_false_eq_true, not_true_eq_false, and_self, and_true, true_and, and_false, false_and, or_true, true_or, or_false, false_or, or_self, if_true, if_false, eq_self, ite_true, ite_false, reduceIte]) rfl
            · refine g_iconst C (v := -1) dX0_movesBy_71 ci_m1 ?_
              exact g_iret C hret hlk dX0_movesBy_72 (by simp only [xMb, h1_1, eq_true h6_2, h39_3, eq_true h50_6, h57_7, h68_8, Bool.false_eq_true, not_false_eq_true, not_true_eq_false, and_self, and_true, true_and, and_false, false_and, or_true, true_or, or_false, false_or, or_self, if_true, if_false, eq_self, ite_true, ite_false, reduceIte]) rfl
        · refine g_iconst C (v := -1) dX0_movesBy_53 ci_m1 ?_
          exact g_iret C hret hlk dX0_movesBy_54 (by simp only [xMb, h1_1, eq_true h6_2, h39_3, h50_6, Bool.false_eq_true, not_false_eq_true, not_true_eq_false, and_self, and_true, true_and, and_false, false_and, or_true, true_or, or_false, false_or, or_self, if_true, if_false, eq_self, ite_true, ite_false, reduceIte]) rfl
    · refine g_iconst C (v := -1) dX0_movesBy_9 ci_m1 ?_
      exact g_iret C hret hlk dX0_movesBy_10 (by simp only [xMb, h1_1, h6_2, Bool.false_eq_true, not_false_eq_true, not_true_eq_false, and_self, and_true, true_and, and_false, false_and, or_true, true_or, or_false, false_or, or_self, if_true, if_false, eq_self, ite_true, ite_false, reduceIte]) rfl
theorem fw_X0_place_fld9 : Cond.fieldLink RX0 9 "StuckRods$Board" "fives" "[I" ∈ wsX0_place := (List.mem_cons_of_mem _ (List.mem_append_left _ (List.mem_of_getElem? (i := 0) rfl)))
theorem fl_X0_place_X0 : ∀ w ∈ wsX00, w ∈ wsX0_place := fun _ h => List.mem_cons_of_mem _ (List.mem_append_right _ h)
theorem fw_X0_place_fld15 : Cond.fieldLink RX0 15 "StuckRods$Board" "ones" "[I" ∈ wsX0_place := (List.mem_cons_of_mem _ (List.mem_append_left _ (List.mem_of_getElem? (i := 1) rfl)))
theorem fw_X0_place_fld24 : Cond.fieldLink RX0 24 "StuckRods$Board" "moved" "[I" ∈ wsX0_place := (List.mem_cons_of_mem _ (List.mem_append_left _ (List.mem_of_getElem? (i := 2) rfl)))
abbrev rmX0_place : Room := { frames := 0, cells := 0, slots := 0, locals := 0 }
set_option maxHeartbeats 1000000 in
set_option maxRecDepth 100000 in
theorem c_X0_place (l : Launch) (D : va_G) (cI cO : ClassId) (ad : Nat → Nat) (g : Nat → Int32) (r : Nat) (hr : r < 9) (f o q : Int32) : cR (fun _ => True) l yX0_place wsX0_place rmX0_place D vwCl (tyA cI cO) [.ref (ad 0), .int (nI r), .int f, .int o, .int q] (wB ad cI g) none (wB ad cI (xPl g r f o q)) := by
  refine cR_of (cc := cX0_place) (maxL := 5) (ret := none) (by decide) rfl (Nat.le_of_ble_eq_true rfl) ?_
  intro p e s m below meth c A C hret hlk hnm hF
  refine g_lv [0, 1, 2, 3, 4] (lv' := [(0, .ref (ad 0)), (1, .int (nI r)), (2, .int f), (3, .int o), (4, .int q)]) rfl ?_
  refine g_aload_n C dX0_place_0 0 rfl ?_
  refine g_get C (v := .ref (ad 1)) fl_X0_place_X0 0 rfl rfl 0 (by decide) fw_X0_place_fld9 rfl dX0_place_1 ?_
  refine g_iload_n C dX0_place_4 1 rfl ?_
  refine g_iload_n C dX0_place_5 2 rfl ?_
  refine g_iast C (ws' := (wB ad cI (upd g (6 * r + 1) f))) 1 0 rfl rfl r rfl hr (by decide) dX0_place_6 (wB_1 ad cI g r f) ?_
  refine g_aload_n C dX0_place_7 0 rfl ?_
  refine g_get C (v := .ref (ad 2)) fl_X0_place_X0 0 rfl rfl 1 (by decide) fw_X0_place_fld15 rfl dX0_place_8 ?_
  refine g_iload_n C dX0_place_11 1 rfl ?_
  refine g_iload_n C dX0_place_12 3 rfl ?_
  refine g_iast C (ws' := (wB ad cI (upd (upd g (6 * r + 1) f) (6 * r + 2) o))) 2 0 rfl rfl r rfl hr (by decide) dX0_place_13 (wB_2 ad cI (upd g (6 * r + 1) f) r o) ?_
  refine g_aload_n C dX0_place_14 0 rfl ?_
  refine g_get C (v := .ref (ad 5)) fl_X0_place_X0 0 rfl rfl 4 (by decide) fw_X0_place_fld24 rfl dX0_place_15 ?_
  refine g_iload_n C dX0_place_18 1 rfl ?_
  refine g_dup2 C dX0_place_19 rfl rfl ?_
  refine g_iald C (x := (upd (upd g (6 * r + 1) f) (6 * r + 2) o) (6 * r + 5)) 5 0 rfl rfl r rfl hr (by decide) rfl dX0_place_20 ?_
  refine g_iload C dX0_place_21 4 rfl ?_
  refine g_iadd C (v := ((upd (upd g (6 * r + 1) f) (6 * r + 2) o) (6 * r + 5)) + q) dX0_place_23 rfl ?_
  refine g_iast C (ws' := (wB ad cI (upd (upd (upd g (6 * r + 1) f) (6 * r + 2) o) (6 * r + 5) (((upd (upd g (6 * r + 1) f) (6 * r + 2) o) (6 * r + 5)) + q)))) 5 0 rfl rfl r rfl hr (by decide) dX0_place_24 (wB_5 ad cI (upd (upd g (6 * r + 1) f) (6 * r + 2) o) r (((upd (upd g (6 * r + 1) f) (6 * r + 2) o) (6 * r + 5)) + q)) ?_
  exact g_vret C hret hlk dX0_place_25 rfl
theorem xFi_nn {j : Nat} (h : j + 1 ≤ 3) : ¬ xFi (j + 1) < 0 := by
  rcases (show j = 0 ∨ j = 1 ∨ j = 2 by omega) with h | h | h <;> subst h <;> decide
theorem xFi_dec {j : Nat} (h : j + 1 ≤ 3) : xFi (j + 1) + Int32.ofInt (-1) = xFi j := by
  rcases (show j = 0 ∨ j = 1 ∨ j = 2 by omega) with h | h | h <;> subst h <;> decide
theorem bz {q : Prop} [Decidable q] (h : (if q then (1 : Int32) else 0) = 0) : ¬ q := fun hq => by rw [if_pos hq] at h; exact absurd h (by decide)
theorem bnz {q : Prop} [Decidable q] (h : ¬ (if q then (1 : Int32) else 0) = 0) : q := Decidable.byContradiction fun hq => h (if_neg hq)
theorem ws_setl {a a1 b : va_W} {q : Nat} {x : Nat × va_E} (hq : q < a.length) (t : a.set q x = a1) : (a ++ b).set q x = a1 ++ b := by rw [List.set_append, if_pos hq, t]
theorem ws_setr {a b b1 : va_W} {q q1 : Nat} {x : Nat × va_E} (hq : q = a.length + q1) (t : b.set q1 x = b1) : (a ++ b).set q x = a ++ b1 := by rw [List.set_append, if_neg (by omega), show q - a.length = q1 by omega, t]
theorem cell_i {cA : ClassId} {N : Nat} {f f1 : Nat → Int32} (h : ∀ j, j < N → f j = f1 j) : vp_cell cA (N, .inl f) = vp_cell cA (N, .inl f1) := by
  show arrV cA N (fun j => .int (f j)) = arrV cA N (fun j => .int (f1 j))
  unfold arrV
  congr 2
  funext j
  exact congrArg Value.int (h j.val j.isLt)
theorem at_i {D : va_G} {cl : List vw_C} {a : Nat} {cA : ClassId} {N : Nat} {f f1 : Nat → Int32} {H : Heap} (h : ∀ j, j < N → f j = f1 j) (hp : va_at D cl (a, .inl (cA, N, .inl f)) H) : va_at D cl (a, .inl (cA, N, .inl f1)) H := by
  show H[a]? = some (vp_cell cA (N, .inl f1))
  rw [← cell_i h]
  exact hp
theorem wD_same {A : Nat → Prop} {a b : va_W} (hm : a.map Prod.fst = b.map Prod.fst) (h : va_D A a) : va_D A b := by
  have key : ∀ (k : Nat) (q : Nat × va_E), b[k]? = some q → ∃ e, a[k]? = some (q.1, e) := fun k q hk => by
    have h1 : (b.map Prod.fst)[k]? = some q.1 := by rw [List.getElem?_map, hk]; rfl
    rw [← hm, List.getElem?_map] at h1
    cases hz : a[k]? with
    | none => rw [hz] at h1; cases h1
    | some z => rw [hz] at h1; exact ⟨z.2, by rw [← Option.some.inj h1]⟩
  refine ⟨fun i j p q hi hj he => ?_, fun k q hk => ?_⟩
  · obtain ⟨e1, h1⟩ := key i p hi
    obtain ⟨e2, h2⟩ := key j q hj
    exact h.1 i j _ _ h1 h2 he
  · obtain ⟨e1, h1⟩ := key k q hk
    exact (h.2 k (q.1, e1) h1 : A q.1)
theorem wB_eq {D : va_G} {cl : List vw_C} {ad : Nat → Nat} {cI : ClassId} {g g1 : Nat → Int32} {H : Heap} (h : ∀ j, j < 55 → g j = g1 j) (hp : va_P D cl (wB ad cI g) H) : va_P D cl (wB ad cI g1) H := by
  intro k q hk
  have hk7 : k < 7 := (List.getElem?_eq_some_iff.mp hk).1
  rcases (show k = 0 ∨ k = 1 ∨ k = 2 ∨ k = 3 ∨ k = 4 ∨ k = 5 ∨ k = 6 by omega) with e | e | e | e | e | e | e <;> subst e <;> cases hk
  · have := hp 0 _ rfl
    rw [h 0 (by decide)] at this
    exact this
  all_goals first | exact at_i (fun j hj => h _ (by omega)) (hp 1 _ rfl) | exact at_i (fun j hj => h _ (by omega)) (hp 2 _ rfl) | exact at_i (fun j hj => h _ (by omega)) (hp 3 _ rfl) | exact at_i (fun j hj => h _ (by omega)) (hp 4 _ rfl) | exact at_i (fun j hj => h _ (by omega)) (hp 5 _ rfl) | exact at_i (fun j hj => h _ (by omega)) (hp 6 _ rfl)
theorem inc_x (x : Int32) : x + Int32.ofInt 1 = x + 1 := by rw [ci_1]
theorem inc_nI (k : Nat) : nI k + Int32.ofInt 1 = nI (k + 1) := nI_1 k
theorem ge9 {k : Nat} (h : k < 9) : ¬ (9 : Int32) ≤ nI k := fun z => absurd ((nI_leI (a := 9) (b := k) (by decide) (by omega)).mp z) (by omega)
theorem hd_X0_place : yX0_place.cls = RX0 ∧ yX0_place.cls ≠ "java/lang/invoke/MethodHandle" ∧ yX0_place.cls ≠ "java/lang/invoke/VarHandle" ∧ (parseMethodDescriptor yX0_place.desc).map (fun d => d.parameters.length) = some 4 := by decide +kernel
theorem hd_X0_movesBy : yX0_movesBy.cls = RX0 ∧ yX0_movesBy.cls ≠ "java/lang/invoke/MethodHandle" ∧ yX0_movesBy.cls ≠ "java/lang/invoke/VarHandle" ∧ (parseMethodDescriptor yX0_movesBy.desc).map (fun d => d.parameters.length) = some 3 := by decide +kernel
abbrev rmX0_turn : Room := { frames := 2, cells := 0, slots := 0, locals := 46 }
set_option maxHeartbeats 1000000 in
set_option maxRecDepth 100000 in
theorem c_X0_turn (l : Launch) (D : va_G) (cI cO : ClassId) (ad : Nat → Nat) (g : Nat → Int32) (r : Nat) (hr : r < 9) (v d : Int32) : cR (fun _ => True) l yX0_turn wsX0_turn rmX0_turn D vwCl (tyA cI cO) [.ref (ad 0), .int (nI r), .int v, .int d] (wB ad cI g) (some (.int (xTv g r v))) (wB ad cI (xTn g r v d)) := by
  refine cR_of (cc := cX0_turn) (maxL := 8) (ret := (some .int)) (by decide) rfl (Nat.le_of_ble_eq_true rfl) ?_
  intro p e s m below meth c A C hret hlk hnm hF
  refine g_lv [0, 1, 2, 3] (lv' := [(0, .ref (ad 0)), (1, .int (nI r)), (2, .int v), (3, .int d)]) rfl ?_
  have K : ∀ (j : Nat), j ≤ 3 → ∀ q : Int32 × Int32, xTf g r v j q = xTq g r v → gG p l e rmX0_turn s m ([.ref (ad 0), .int (nI r), .int v, .int d] : List Value).toArray below meth c D vwCl A s.heap 8 (MQ below (cQ (some (.int (xTv g r v))) (cB D vwCl (tyA cI cO) A (wB ad cI (xTn g r v d))) A) ([.ref (ad 0), .int (nI r), .int v, .int d] : List Value).toArray s 0 0 A) 0 0 (wB ad cI g) 9 [(0, .ref (ad 0)), (1, .int (nI r)), (2, .int v), (3, .int d), (4, .int q.1), (5, .int q.2), (6, .int (xFi j))] [] := by
    intro j
    induction j with
    | zero =>
      intro _ q hq
      have hq : q = xTq g r v := hq
      subst hq
      refine g_iload C dX0_turn_9 6 rfl ?_
      refine g_if_lt C (tgt := 62) dX0_turn_11 (by decide) (fun _ => ?_) (fun h11_1 => absurd (by decide) h11_1)
      refine g_iload_n C dX0_turn_62 3 rfl ?_
      refine g_if_eq C (tgt := 87) dX0_turn_63 (by decide) (fun h63_2 => ?_) (fun h63_2 => ?_)
      · refine g_iload C dX0_turn_87 4 rfl ?_
        exact g_iret C hret hlk dX0_turn_89 rfl (by simp only [xTn, eq_true h63_2, Bool.false_eq_true, not_false_eq_true, not_true_eq_false, and_self, and_true, true_and, and_false, false_and, or_true, true_or, or_false, false_or, or_self, if_true, if_false, eq_self, ite_true, ite_false, reduceIte])
      · refine g_iload C dX0_turn_66 4 rfl ?_
        refine g_iconst C (v := -1) dX0_turn_68 ci_m1 ?_
        refine g_icmp_eq C (tgt := 87) dX0_turn_69 (by decide) (fun h69_3 => ?_) (fun h69_3 => ?_)
        · refine g_iload C dX0_turn_87 4 rfl ?_
          exact g_iret C hret hlk dX0_turn_89 rfl (by simp only [xTn, h63_2, eq_true h69_3, Bool.false_eq_true, not_false_eq_true, not_true_eq_false, and_self, and_true, true_and, and_false, false_and, or_true, true_or, or_false, false_or, or_self, if_true, if_false, eq_self, ite_true, ite_false, reduceIte])
        · refine g_aload_n C dX0_turn_72 0 rfl ?_
          refine g_iload_n C dX0_turn_73 1 rfl ?_
          refine g_iload C dX0_turn_74 5 rfl ?_
          refine g_iload_n C dX0_turn_76 2 rfl ?_
          refine g_iconst C (v := 5) dX0_turn_77 ci_5 ?_
          refine g_iload C dX0_turn_78 5 rfl ?_
          refine g_imul C (v := 5 * ((xTq g r v).2)) dX0_turn_80 rfl ?_
          refine g_isub C (v := v - (5 * ((xTq g r v).2))) dX0_turn_81 rfl ?_
          refine g_iload C dX0_turn_82 4 rfl ?_
          refine g_callVv C (c_X0_place l D cI cO ad g r hr ((xTq g r v).2) (v - (5 * ((xTq g r v).2))) ((xTq g r v).1)) gX0_turn_X0_place rfl ⟨rfl, rfl⟩ hd_X0_place ⟨Nat.le_of_ble_eq_true rfl, Nat.le_of_ble_eq_true rfl⟩ [0, 1] rfl (fun _ _ => trivial) rfl (rest := []) rfl (Nat.le_of_ble_eq_true rfl) dX0_turn_84 ⟨Nat.zero_le _, Nat.zero_le _⟩ 0 rfl rfl rfl (pre := []) (post := []) (ws' := (wB ad cI (xPl g r ((xTq g r v).2) (v - (5 * ((xTq g r v).2))) ((xTq g r v).1)))) rfl rfl ?_
          refine g_iload C dX0_turn_87 4 rfl ?_
          exact g_iret C hret hlk dX0_turn_89 rfl (by simp only [xTn, h63_2, h69_3, Bool.false_eq_true, not_false_eq_true, not_true_eq_false, and_self, and_true, true_and, and_false, false_and, or_true, true_or, or_false, false_or, or_self, if_true, if_false, eq_self, ite_true, ite_false, reduceIte])
    | succ j ih =>
      intro hj q hq
      refine g_iload C dX0_turn_9 6 rfl ?_
      refine g_if_lt C (tgt := 62) dX0_turn_11 (by decide) (fun h11_4 => absurd h11_4 (xFi_nn hj)) (fun _ => ?_)
      refine g_aload_n C dX0_turn_14 0 rfl ?_
      refine g_iload_n C dX0_turn_15 1 rfl ?_
      refine g_iload C dX0_turn_16 6 rfl ?_
      refine g_iload_n C dX0_turn_18 2 rfl ?_
      refine g_iconst C (v := 5) dX0_turn_19 ci_5 ?_
      refine g_iload C dX0_turn_20 6 rfl ?_
      refine g_imul C (v := 5 * (xFi (j + 1))) dX0_turn_22 rfl ?_
      refine g_isub C (v := v - (5 * (xFi (j + 1)))) dX0_turn_23 rfl ?_
      refine g_callVi C (c_X0_movesBy l D cI cO ad g r hr (xFi (j + 1)) (v - (5 * (xFi (j + 1))))) gX0_turn_X0_movesBy rfl ⟨rfl, rfl⟩ hd_X0_movesBy ⟨Nat.le_of_ble_eq_true rfl, Nat.le_of_ble_eq_true rfl⟩ [0, 1] rfl (fun _ _ => trivial) rfl (rest := []) rfl (Nat.le_of_ble_eq_true rfl) dX0_turn_24 ⟨Nat.zero_le _, Nat.zero_le _⟩ 0 rfl rfl rfl (pre := []) (post := []) (ws' := (wB ad cI g)) rfl rfl ?_
      refine g_istore C (lv' := [(7, .int (xMb g r (xFi (j + 1)) (v - (5 * (xFi (j + 1)))))), (0, .ref (ad 0)), (1, .int (nI r)), (2, .int v), (3, .int d), (4, .int q.1), (5, .int q.2), (6, .int (xFi (j + 1)))]) dX0_turn_27 (by decide) rfl ?_
      refine g_iload C dX0_turn_29 0 rfl ?_
      refine g_iconst C (v := -1) dX0_turn_31 ci_m1 ?_
      refine g_icmp_eq C (tgt := 56) dX0_turn_32 (by decide) (fun h32_5 => ?_) (fun h32_5 => ?_)
      · refine g_iinc C (v := xFi j) (lv' := [(6, .int (xFi j)), (7, .int (xMb g r (xFi (j + 1)) (v - (5 * (xFi (j + 1)))))), (0, .ref (ad 0)), (1, .int (nI r)), (2, .int v), (3, .int d), (4, .int q.1), (5, .int q.2)]) dX0_turn_56 7 rfl (xFi_dec hj) (by decide) rfl ?_
        refine g_goto C (tgt := 9) dX0_turn_59 (by decide) ?_
        refine g_lv [2, 3, 4, 5, 6, 7, 0] (lv' := [(0, .ref (ad 0)), (1, .int (nI r)), (2, .int v), (3, .int d), (4, .int q.1), (5, .int q.2), (6, .int (xFi j))]) rfl ?_
        exact ih (by omega) (q.1, q.2) (by rw [← hq]; simp only [xTf, xTs, eq_true h32_5, Bool.false_eq_true, not_false_eq_true, not_true_eq_false, and_self, and_true, true_and, and_false, false_and, or_true, true_or, or_false, false_or, or_self, if_true, if_false, eq_self, ite_true, ite_false, reduceIte])
      · refine g_iload C dX0_turn_35 5 rfl ?_
        refine g_iconst C (v := -1) dX0_turn_37 ci_m1 ?_
        refine g_icmp_eq C (tgt := 48) dX0_turn_38 (by decide) (fun h38_6 => ?_) (fun h38_6 => ?_)
        · refine g_iload C dX0_turn_48 0 rfl ?_
          refine g_istore C (lv' := [(4, .int (xMb g r (xFi (j + 1)) (v - (5 * (xFi (j + 1)))))), (7, .int (xMb g r (xFi (j + 1)) (v - (5 * (xFi (j + 1)))))), (0, .ref (ad 0)), (1, .int (nI r)), (2, .int v), (3, .int d), (5, .int q.2), (6, .int (xFi (j + 1)))]) dX0_turn_50 (by decide) rfl ?_
          refine g_iload C dX0_turn_52 7 rfl ?_
          refine g_istore C (lv' := [(5, .int (xFi (j + 1))), (4, .int (xMb g r (xFi (j + 1)) (v - (5 * (xFi (j + 1)))))), (7, .int (xMb g r (xFi (j + 1)) (v - (5 * (xFi (j + 1)))))), (0, .ref (ad 0)), (1, .int (nI r)), (2, .int v), (3, .int d), (6, .int (xFi (j + 1)))]) dX0_turn_54 (by decide) rfl ?_
          refine g_iinc C (v := xFi j) (lv' := [(6, .int (xFi j)), (5, .int (xFi (j + 1))), (4, .int (xMb g r (xFi (j + 1)) (v - (5 * (xFi (j + 1)))))), (7, .int (xMb g r (xFi (j + 1)) (v - (5 * (xFi (j + 1)))))), (0, .ref (ad 0)), (1, .int (nI r)), (2, .int v), (3, .int d)]) dX0_turn_56 7 rfl (xFi_dec hj) (by decide) rfl ?_
          refine g_goto C (tgt := 9) dX0_turn_59 (by decide) ?_
          refine g_lv [4, 5, 6, 7, 2, 1, 0] (lv' := [(0, .ref (ad 0)), (1, .int (nI r)), (2, .int v), (3, .int d), (4, .int (xMb g r (xFi (j + 1)) (v - (5 * (xFi (j + 1)))))), (5, .int (xFi (j + 1))), (6, .int (xFi j))]) rfl ?_
          exact ih (by omega) (xMb g r (xFi (j + 1)) (v - (5 * (xFi (j + 1)))), xFi (j + 1)) (by rw [← hq]; simp only [xTf, xTs, h32_5, eq_true h38_6, Bool.false_eq_true, not_false_eq_true, not_true_eq_false, and_self, and_true, true_and, and_false, false_and, or_true, true_or, or_false, false_or, or_self, if_true, if_false, eq_self, ite_true, ite_false, reduceIte])
        · refine g_iload C dX0_turn_41 0 rfl ?_
          refine g_iload C dX0_turn_43 5 rfl ?_
          refine g_icmp_ge C (tgt := 56) dX0_turn_45 (by decide) (fun h45_7 => ?_) (fun h45_7 => ?_)
          · refine g_iinc C (v := xFi j) (lv' := [(6, .int (xFi j)), (7, .int (xMb g r (xFi (j + 1)) (v - (5 * (xFi (j + 1)))))), (0, .ref (ad 0)), (1, .int (nI r)), (2, .int v), (3, .int d), (4, .int q.1), (5, .int q.2)]) dX0_turn_56 7 rfl (xFi_dec hj) (by decide) rfl ?_
            refine g_goto C (tgt := 9) dX0_turn_59 (by decide) ?_
            refine g_lv [2, 3, 4, 5, 6, 7, 0] (lv' := [(0, .ref (ad 0)), (1, .int (nI r)), (2, .int v), (3, .int d), (4, .int q.1), (5, .int q.2), (6, .int (xFi j))]) rfl ?_
            exact ih (by omega) (q.1, q.2) (by rw [← hq]; simp only [xTf, xTs, h32_5, h38_6, eq_true h45_7, Bool.false_eq_true, not_false_eq_true, not_true_eq_false, and_self, and_true, true_and, and_false, false_and, or_true, true_or, or_false, false_or, or_self, if_true, if_false, eq_self, ite_true, ite_false, reduceIte])
          · refine g_iload C dX0_turn_48 0 rfl ?_
            refine g_istore C (lv' := [(4, .int (xMb g r (xFi (j + 1)) (v - (5 * (xFi (j + 1)))))), (7, .int (xMb g r (xFi (j + 1)) (v - (5 * (xFi (j + 1)))))), (0, .ref (ad 0)), (1, .int (nI r)), (2, .int v), (3, .int d), (5, .int q.2), (6, .int (xFi (j + 1)))]) dX0_turn_50 (by decide) rfl ?_
            refine g_iload C dX0_turn_52 7 rfl ?_
            refine g_istore C (lv' := [(5, .int (xFi (j + 1))), (4, .int (xMb g r (xFi (j + 1)) (v - (5 * (xFi (j + 1)))))), (7, .int (xMb g r (xFi (j + 1)) (v - (5 * (xFi (j + 1)))))), (0, .ref (ad 0)), (1, .int (nI r)), (2, .int v), (3, .int d), (6, .int (xFi (j + 1)))]) dX0_turn_54 (by decide) rfl ?_
            refine g_iinc C (v := xFi j) (lv' := [(6, .int (xFi j)), (5, .int (xFi (j + 1))), (4, .int (xMb g r (xFi (j + 1)) (v - (5 * (xFi (j + 1)))))), (7, .int (xMb g r (xFi (j + 1)) (v - (5 * (xFi (j + 1)))))), (0, .ref (ad 0)), (1, .int (nI r)), (2, .int v), (3, .int d)]) dX0_turn_56 7 rfl (xFi_dec hj) (by decide) rfl ?_
            refine g_goto C (tgt := 9) dX0_turn_59 (by decide) ?_
            refine g_lv [4, 5, 6, 7, 2, 1, 0] (lv' := [(0, .ref (ad 0)), (1, .int (nI r)), (2, .int v), (3, .int d), (4, .int (xMb g r (xFi (j + 1)) (v - (5 * (xFi (j + 1)))))), (5, .int (xFi (j + 1))), (6, .int (xFi j))]) rfl ?_
            exact ih (by omega) (xMb g r (xFi (j + 1)) (v - (5 * (xFi (j + 1)))), xFi (j + 1)) (by rw [← hq]; simp only [xTf, xTs, h32_5, h38_6, h45_7, Bool.false_eq_true, not_false_eq_true, not_true_eq_false, and_self, and_true, true_and, and_false, false_and, or_true, true_or, or_false, false_or, or_self, if_true, if_false, eq_self, ite_true, ite_false, reduceIte])
  refine g_iconst C (v := -1) dX0_turn_0 ci_m1 ?_
  refine g_istore C (lv' := [(4, .int (-1)), (0, .ref (ad 0)), (1, .int (nI r)), (2, .int v), (3, .int d)]) dX0_turn_1 (by decide) rfl ?_
  refine g_iconst C (v := 0) dX0_turn_3 ci_0 ?_
  refine g_istore C (lv' := [(5, .int 0), (4, .int (-1)), (0, .ref (ad 0)), (1, .int (nI r)), (2, .int v), (3, .int d)]) dX0_turn_4 (by decide) rfl ?_
  refine g_iconst C (v := 2) dX0_turn_6 ci_2 ?_
  refine g_istore C (lv' := [(6, .int 2), (5, .int 0), (4, .int (-1)), (0, .ref (ad 0)), (1, .int (nI r)), (2, .int v), (3, .int d)]) dX0_turn_7 (by decide) rfl ?_
  refine g_lv [3, 4, 5, 6, 2, 1, 0] (lv' := [(0, .ref (ad 0)), (1, .int (nI r)), (2, .int v), (3, .int d), (4, .int (-1)), (5, .int 0), (6, .int 2)]) rfl ?_
  exact K 3 (Nat.le_refl _) (-1, 0) rfl
theorem xBo_or {g : Nat → Int32} {r : Nat} {s : Int32} : True := trivial
theorem fw_X0_borrow_fld21 : Cond.fieldLink RX0 21 "StuckRods$Board" "loan" "[I" ∈ wsX0_borrow := (List.mem_cons_of_mem _ (List.mem_append_left _ (List.mem_of_getElem? (i := 0) rfl)))
theorem fl_X0_borrow_X0 : ∀ w ∈ wsX00, w ∈ wsX0_borrow := fun _ h => List.mem_cons_of_mem _ (List.mem_append_right _ h)
theorem fw_X0_borrow_fld30 : Cond.fieldLink RX0 30 "StuckRods$Board" "setting" "I" ∈ wsX0_borrow := (List.mem_cons_of_mem _ (List.mem_append_left _ (List.mem_of_getElem? (i := 1) rfl)))
theorem fw_X0_borrow_fld27 : Cond.fieldLink RX0 27 "StuckRods$Board" "borrowed" "[I" ∈ wsX0_borrow := (List.mem_cons_of_mem _ (List.mem_append_left _ (List.mem_of_getElem? (i := 2) rfl)))
abbrev rmX0_borrow : Room := { frames := 0, cells := 0, slots := 0, locals := 0 }
set_option maxHeartbeats 1000000 in
set_option maxRecDepth 100000 in
theorem c_X0_borrow (l : Launch) (D : va_G) (cI cO : ClassId) (ad : Nat → Nat) (g : Nat → Int32) (r : Nat) (hr : r < 9) (s9 d : Int32) : cR (fun _ => True) l yX0_borrow wsX0_borrow rmX0_borrow D vwCl (tyA cI cO) [.ref (ad 0), .int (nI r), .int s9, .int d] (wB ad cI g) (some (.int ((if (g (6 * r + 3) + s9) * s9 ≤ g 0 then 1 else 0)))) (wB ad cI (xBn g r s9 d)) := by
  refine cR_of (cc := cX0_borrow) (maxL := 5) (ret := (some .boolean)) (by decide) rfl (Nat.le_of_ble_eq_true rfl) ?_
  intro p e s m below meth c A C hret hlk hnm hF
  refine g_lv [0, 1, 2, 3] (lv' := [(0, .ref (ad 0)), (1, .int (nI r)), (2, .int s9), (3, .int d)]) rfl ?_
  refine g_aload_n C dX0_borrow_0 0 rfl ?_
  refine g_get C (v := .ref (ad 4)) fl_X0_borrow_X0 0 rfl rfl 3 (by decide) fw_X0_borrow_fld21 rfl dX0_borrow_1 ?_
  refine g_iload_n C dX0_borrow_4 1 rfl ?_
  refine g_iald C (x := g (6 * r + 3)) 4 0 rfl rfl r rfl hr (by decide) rfl dX0_borrow_5 ?_
  refine g_iload_n C dX0_borrow_6 2 rfl ?_
  refine g_iadd C (v := (g (6 * r + 3)) + s9) dX0_borrow_7 rfl ?_
  refine g_istore C (lv' := [(4, .int ((g (6 * r + 3)) + s9)), (0, .ref (ad 0)), (1, .int (nI r)), (2, .int s9), (3, .int d)]) dX0_borrow_8 (by decide) rfl ?_
  refine g_iload C dX0_borrow_10 0 rfl ?_
  refine g_iload_n C dX0_borrow_12 3 rfl ?_
  refine g_imul C (v := ((g (6 * r + 3)) + s9) * s9) dX0_borrow_13 rfl ?_
  refine g_aload_n C dX0_borrow_14 1 rfl ?_
  refine g_get C (v := .int (g 0)) fl_X0_borrow_X0 0 rfl rfl 6 (by decide) fw_X0_borrow_fld30 rfl dX0_borrow_15 ?_
  refine g_icmp_le C (tgt := 23) dX0_borrow_18 (by decide) (fun h18_1 => ?_) (fun h18_1 => ?_)
  · refine g_iload_n C dX0_borrow_23 4 rfl ?_
    refine g_if_eq C (tgt := 45) dX0_borrow_24 (by decide) (fun h24_2 => ?_) (fun h24_2 => ?_)
    · refine g_iconst C (v := 1) dX0_borrow_45 ci_1 ?_
      exact g_zret C hret hlk dX0_borrow_46 (Or.inr rfl) (by simp only [eq_true h18_1, eq_true h24_2, Bool.false_eq_true, not_false_eq_true, not_true_eq_false, and_self, and_true, true_and, and_false, false_and, or_true, true_or, or_false, false_or, or_self, if_true, if_false, eq_self, ite_true, ite_false, reduceIte]) (by simp only [xBn, eq_true h18_1, eq_true h24_2, Bool.false_eq_true, not_false_eq_true, not_true_eq_false, and_self, and_true, true_and, and_false, false_and, or_true, true_or, or_false, false_or, or_self, if_true, if_false, eq_self, ite_true, ite_false, reduceIte])
    · refine g_aload_n C dX0_borrow_27 1 rfl ?_
      refine g_get C (v := .ref (ad 4)) fl_X0_borrow_X0 0 rfl rfl 3 (by decide) fw_X0_borrow_fld21 rfl dX0_borrow_28 ?_
      refine g_iload_n C dX0_borrow_31 2 rfl ?_
      refine g_iload C dX0_borrow_32 0 rfl ?_
      refine g_iast C (ws' := (wB ad cI (upd g (6 * r + 3) ((g (6 * r + 3)) + s9)))) 4 0 rfl rfl r rfl hr (by decide) dX0_borrow_34 (wB_4 ad cI g r ((g (6 * r + 3)) + s9)) ?_
      refine g_aload_n C dX0_borrow_35 1 rfl ?_
      refine g_get C (v := .ref (ad 6)) fl_X0_borrow_X0 0 rfl rfl 5 (by decide) fw_X0_borrow_fld27 rfl dX0_borrow_36 ?_
      refine g_iload_n C dX0_borrow_39 2 rfl ?_
      refine g_dup2 C dX0_borrow_40 rfl rfl ?_
      refine g_iald C (x := (upd g (6 * r + 3) ((g (6 * r + 3)) + s9)) (6 * r + 6)) 6 0 rfl rfl r rfl hr (by decide) rfl dX0_borrow_41 ?_
      refine g_iconst C (v := 1) dX0_borrow_42 ci_1 ?_
      refine g_iadd C (v := ((upd g (6 * r + 3) ((g (6 * r + 3)) + s9)) (6 * r + 6)) + 1) dX0_borrow_43 rfl ?_
      refine g_iast C (ws' := (wB ad cI (upd (upd g (6 * r + 3) ((g (6 * r + 3)) + s9)) (6 * r + 6) (((upd g (6 * r + 3) ((g (6 * r + 3)) + s9)) (6 * r + 6)) + 1)))) 6 0 rfl rfl r rfl hr (by decide) dX0_borrow_44 (wB_6 ad cI (upd g (6 * r + 3) ((g (6 * r + 3)) + s9)) r (((upd g (6 * r + 3) ((g (6 * r + 3)) + s9)) (6 * r + 6)) + 1)) ?_
      refine g_iconst C (v := 1) dX0_borrow_45 ci_1 ?_
      exact g_zret C hret hlk dX0_borrow_46 (Or.inr rfl) (by simp only [eq_true h18_1, h24_2, Bool.false_eq_true, not_false_eq_true, not_true_eq_false, and_self, and_true, true_and, and_false, false_and, or_true, true_or, or_false, false_or, or_self, if_true, if_false, eq_self, ite_true, ite_false, reduceIte]) (by simp only [xBn, eq_true h18_1, h24_2, Bool.false_eq_true, not_false_eq_true, not_true_eq_false, and_self, and_true, true_and, and_false, false_and, or_true, true_or, or_false, false_or, or_self, if_true, if_false, eq_self, ite_true, ite_false, reduceIte])
  · refine g_iconst C (v := 0) dX0_borrow_21 ci_0 ?_
    exact g_zret C hret hlk dX0_borrow_22 (Or.inl rfl) (by simp only [h18_1, Bool.false_eq_true, not_false_eq_true, not_true_eq_false, and_self, and_true, true_and, and_false, false_and, or_true, true_or, or_false, false_or, or_self, if_true, if_false, eq_self, ite_true, ite_false, reduceIte]) (by simp only [xBn, h18_1, Bool.false_eq_true, not_false_eq_true, not_true_eq_false, and_self, and_true, true_and, and_false, false_and, or_true, true_or, or_false, false_or, or_self, if_true, if_false, eq_self, ite_true, ite_false, reduceIte])
theorem hd_X0_shown : yX0_shown.cls = RX0 ∧ yX0_shown.cls ≠ "java/lang/invoke/MethodHandle" ∧ yX0_shown.cls ≠ "java/lang/invoke/VarHandle" ∧ (parseMethodDescriptor yX0_shown.desc).map (fun d => d.parameters.length) = some 1 := by decide +kernel
theorem hd_X0_turn : yX0_turn.cls = RX0 ∧ yX0_turn.cls ≠ "java/lang/invoke/MethodHandle" ∧ yX0_turn.cls ≠ "java/lang/invoke/VarHandle" ∧ (parseMethodDescriptor yX0_turn.desc).map (fun d => d.parameters.length) = some 3 := by decide +kernel
theorem hd_X0_borrow : yX0_borrow.cls = RX0 ∧ yX0_borrow.cls ≠ "java/lang/invoke/MethodHandle" ∧ yX0_borrow.cls ≠ "java/lang/invoke/VarHandle" ∧ (parseMethodDescriptor yX0_borrow.desc).map (fun d => d.parameters.length) = some 3 := by decide +kernel
abbrev rmX0_turnAndCarry : Room := { frames := 3, cells := 0, slots := 0, locals := 73 }
set_option maxHeartbeats 1000000 in
set_option maxRecDepth 100000 in
theorem c_X0_turnAndCarry (l : Launch) (D : va_G) (cI cO : ClassId) (ad : Nat → Nat) (g : Nat → Int32) (r : Nat) (hr : r < 9) (v s9 d : Int32) : cR (fun _ => True) l yX0_turnAndCarry wsX0_turnAndCarry rmX0_turnAndCarry D vwCl (tyA cI cO) [.ref (ad 0), .int (nI r), .int v, .int s9, .int d] (wB ad cI g) (some (.int ((xTc g r v s9 d).1))) (wB ad cI ((xTc g r v s9 d).2)) := by
  refine cR_of (cc := cX0_turnAndCarry) (maxL := 8) (ret := (some .int)) (by decide) rfl (Nat.le_of_ble_eq_true rfl) ?_
  intro p e s m below meth c A C hret hlk hnm hF
  refine g_lv [0, 1, 2, 3, 4] (lv' := [(0, .ref (ad 0)), (1, .int (nI r)), (2, .int v), (3, .int s9), (4, .int d)]) rfl ?_
  have K : ∀ (n q : Nat), n + q = 9 → ∀ (g1 : Nat → Int32) (t : Int32), xCa s9 d n g1 q t = xTc g r v s9 d → gG p l e rmX0_turnAndCarry s m ([.ref (ad 0), .int (nI r), .int v, .int s9, .int d] : List Value).toArray below meth c D vwCl A s.heap 8 (MQ below (cQ (some (.int ((xTc g r v s9 d).1))) (cB D vwCl (tyA cI cO) A (wB ad cI ((xTc g r v s9 d).2))) A) ([.ref (ad 0), .int (nI r), .int v, .int s9, .int d] : List Value).toArray s 0 0 A) 0 0 (wB ad cI g1) 23 [(0, .ref (ad 0)), (1, .int (nI r)), (2, .int v), (3, .int s9), (4, .int d), (5, .int t), (6, .int (nI q))] [] := by
    intro n
    induction n with
    | zero =>
      intro q hn g1 t hq
      obtain rfl : q = 9 := by omega
      refine g_iload C dX0_turnAndCarry_23 6 rfl ?_
      refine g_bipush C (v := 9) dX0_turnAndCarry_25 cb_9 ?_
      refine g_icmp_ge C (tgt := 119) dX0_turnAndCarry_27 (by decide) (fun _ => ?_) (fun h27_1 => absurd (by decide) h27_1)
      refine g_iconst C (v := -1) dX0_turnAndCarry_119 ci_m1 ?_
      exact g_iret C hret hlk dX0_turnAndCarry_120 (by rw [← hq]; rfl) (by rw [← hq]; rfl)
    | succ n ih =>
      intro q hn g1 t hq
      have hq9 : q < 9 := by omega
      refine g_iload C dX0_turnAndCarry_23 6 rfl ?_
      refine g_bipush C (v := 9) dX0_turnAndCarry_25 cb_9 ?_
      refine g_icmp_ge C (tgt := 119) dX0_turnAndCarry_27 (by decide) (fun h27_2 => absurd h27_2 (ge9 hq9)) (fun _ => ?_)
      refine g_aload_n C dX0_turnAndCarry_30 0 rfl ?_
      refine g_iload C dX0_turnAndCarry_31 6 rfl ?_
      refine g_aload_n C dX0_turnAndCarry_33 0 rfl ?_
      refine g_iload C dX0_turnAndCarry_34 6 rfl ?_
      refine g_callVi C (c_X0_shown l D cI cO ad g1 q hq9) gX0_turnAndCarry_X0_shown rfl ⟨rfl, rfl⟩ hd_X0_shown ⟨Nat.le_of_ble_eq_true rfl, Nat.le_of_ble_eq_true rfl⟩ [0, 1] rfl (fun _ _ => trivial) rfl (rest := [.int (nI q), .ref (ad 0)]) rfl (Nat.le_of_ble_eq_true rfl) dX0_turnAndCarry_36 ⟨Nat.zero_le _, Nat.zero_le _⟩ 0 rfl rfl rfl (pre := []) (post := []) (ws' := (wB ad cI g1)) rfl rfl ?_
      refine g_iload_n C dX0_turnAndCarry_39 3 rfl ?_
      refine g_iadd C (v := (xSh g1 q) + s9) dX0_turnAndCarry_40 rfl ?_
      refine g_iload C dX0_turnAndCarry_41 4 rfl ?_
      refine g_callVi C (c_X0_turn l D cI cO ad g1 q hq9 ((xSh g1 q) + s9) d) gX0_turnAndCarry_X0_turn rfl ⟨rfl, rfl⟩ hd_X0_turn ⟨Nat.le_of_ble_eq_true rfl, Nat.le_of_ble_eq_true rfl⟩ [0, 1] rfl (fun _ _ => trivial) rfl (rest := []) rfl (Nat.le_of_ble_eq_true rfl) dX0_turnAndCarry_43 ⟨Nat.zero_le _, Nat.zero_le _⟩ 0 rfl rfl rfl (pre := []) (post := []) (ws' := (wB ad cI (xTn g1 q ((xSh g1 q) + s9) d))) rfl rfl ?_
      refine g_istore C (lv' := [(7, .int (xTv g1 q ((xSh g1 q) + s9))), (0, .ref (ad 0)), (1, .int (nI r)), (2, .int v), (3, .int s9), (4, .int d), (5, .int t), (6, .int (nI q))]) dX0_turnAndCarry_46 (by decide) rfl ?_
      refine g_iload C dX0_turnAndCarry_48 0 rfl ?_
      refine g_iconst C (v := -1) dX0_turnAndCarry_50 ci_m1 ?_
      refine g_icmp_eq C (tgt := 60) dX0_turnAndCarry_51 (by decide) (fun h51_3 => ?_) (fun h51_3 => ?_)
      · refine g_ws (ws' := (wB ad cI g1)) (by rw [xTn_no h51_3]) ?_
        refine g_aload_n C dX0_turnAndCarry_60 1 rfl ?_
        refine g_iload C dX0_turnAndCarry_61 7 rfl ?_
        refine g_aload_n C dX0_turnAndCarry_63 1 rfl ?_
        refine g_iload C dX0_turnAndCarry_64 7 rfl ?_
        refine g_callVi C (c_X0_shown l D cI cO ad g1 q hq9) gX0_turnAndCarry_X0_shown rfl ⟨rfl, rfl⟩ hd_X0_shown ⟨Nat.le_of_ble_eq_true rfl, Nat.le_of_ble_eq_true rfl⟩ [0, 1] rfl (fun _ _ => trivial) rfl (rest := [.int (nI q), .ref (ad 0)]) rfl (Nat.le_of_ble_eq_true rfl) dX0_turnAndCarry_66 ⟨Nat.zero_le _, Nat.zero_le _⟩ 0 rfl rfl rfl (pre := []) (post := []) (ws' := (wB ad cI g1)) rfl rfl ?_
        refine g_bipush C (v := 9) dX0_turnAndCarry_69 cb_9 ?_
        refine g_iload_n C dX0_turnAndCarry_71 4 rfl ?_
        refine g_imul C (v := 9 * s9) dX0_turnAndCarry_72 rfl ?_
        refine g_isub C (v := (xSh g1 q) - (9 * s9)) dX0_turnAndCarry_73 rfl ?_
        refine g_iload C dX0_turnAndCarry_74 5 rfl ?_
        refine g_callVi C (c_X0_turn l D cI cO ad g1 q hq9 ((xSh g1 q) - (9 * s9)) d) gX0_turnAndCarry_X0_turn rfl ⟨rfl, rfl⟩ hd_X0_turn ⟨Nat.le_of_ble_eq_true rfl, Nat.le_of_ble_eq_true rfl⟩ [0, 1] rfl (fun _ _ => trivial) rfl (rest := []) rfl (Nat.le_of_ble_eq_true rfl) dX0_turnAndCarry_76 ⟨Nat.zero_le _, Nat.zero_le _⟩ 0 rfl rfl rfl (pre := []) (post := []) (ws' := (wB ad cI (xTn g1 q ((xSh g1 q) - (9 * s9)) d))) rfl rfl ?_
        refine g_istore C (lv' := [(7, .int (xTv g1 q ((xSh g1 q) - (9 * s9)))), (0, .ref (ad 0)), (1, .int (nI r)), (2, .int v), (3, .int s9), (4, .int d), (5, .int t), (6, .int (nI q))]) dX0_turnAndCarry_79 (by decide) rfl ?_
        refine g_iload C dX0_turnAndCarry_81 0 rfl ?_
        refine g_iconst C (v := -1) dX0_turnAndCarry_83 ci_m1 ?_
        refine g_icmp_ne C (tgt := 106) dX0_turnAndCarry_84 (by decide) (fun h84_4 => ?_) (fun h84_4 => ?_)
        · refine g_iload C dX0_turnAndCarry_106 6 rfl ?_
          refine g_iload C dX0_turnAndCarry_108 0 rfl ?_
          refine g_iadd C (v := t + (xTv g1 q ((xSh g1 q) - (9 * s9)))) dX0_turnAndCarry_110 rfl ?_
          refine g_istore C (lv' := [(5, .int (t + (xTv g1 q ((xSh g1 q) - (9 * s9))))), (7, .int (xTv g1 q ((xSh g1 q) - (9 * s9)))), (0, .ref (ad 0)), (1, .int (nI r)), (2, .int v), (3, .int s9), (4, .int d), (6, .int (nI q))]) dX0_turnAndCarry_111 (by decide) rfl ?_
          refine g_iinc C (v := nI (q + 1)) (lv' := [(6, .int (nI (q + 1))), (5, .int (t + (xTv g1 q ((xSh g1 q) - (9 * s9))))), (7, .int (xTv g1 q ((xSh g1 q) - (9 * s9)))), (0, .ref (ad 0)), (1, .int (nI r)), (2, .int v), (3, .int s9), (4, .int d)]) dX0_turnAndCarry_113 7 rfl (inc_nI _) (by decide) rfl ?_
          refine g_goto C (tgt := 23) dX0_turnAndCarry_116 (by decide) ?_
          refine g_lv [3, 4, 5, 6, 7, 1, 0] (lv' := [(0, .ref (ad 0)), (1, .int (nI r)), (2, .int v), (3, .int s9), (4, .int d), (5, .int (t + (xTv g1 q ((xSh g1 q) - (9 * s9))))), (6, .int (nI (q + 1)))]) rfl ?_
          exact ih (q + 1) (by omega) _ _ (by rw [← hq]; simp only [xCa, eq_true h51_3, h84_4, Bool.false_eq_true, not_false_eq_true, not_true_eq_false, and_self, and_true, true_and, and_false, false_and, or_true, true_or, or_false, false_or, or_self, if_true, if_false, eq_self, ite_true, ite_false, reduceIte])
        · refine g_ws (ws' := (wB ad cI g1)) (by rw [xTn_no h84_4]) ?_
          refine g_aload_n C dX0_turnAndCarry_87 1 rfl ?_
          refine g_iload C dX0_turnAndCarry_88 7 rfl ?_
          refine g_iload_n C dX0_turnAndCarry_90 4 rfl ?_
          refine g_iload C dX0_turnAndCarry_91 5 rfl ?_
          refine g_callVi C (c_X0_borrow l D cI cO ad g1 q hq9 s9 d) gX0_turnAndCarry_X0_borrow rfl ⟨rfl, rfl⟩ hd_X0_borrow ⟨Nat.le_of_ble_eq_true rfl, Nat.le_of_ble_eq_true rfl⟩ [0, 1] rfl (fun _ _ => trivial) rfl (rest := []) rfl (Nat.le_of_ble_eq_true rfl) dX0_turnAndCarry_93 ⟨Nat.zero_le _, Nat.zero_le _⟩ 0 rfl rfl rfl (pre := []) (post := []) (ws' := (wB ad cI (xBn g1 q s9 d))) rfl rfl ?_
          refine g_if_eq C (tgt := 104) dX0_turnAndCarry_96 (by decide) (fun h96_5 => ?_) (fun h96_5 => ?_)
          · have h96_5 := bz h96_5
            refine g_iconst C (v := -1) dX0_turnAndCarry_104 ci_m1 ?_
            exact g_iret C hret hlk dX0_turnAndCarry_105 (by rw [← hq]; simp only [xCa, eq_true h51_3, eq_true h84_4, h96_5, Bool.false_eq_true, not_false_eq_true, not_true_eq_false, and_self, and_true, true_and, and_false, false_and, or_true, true_or, or_false, false_or, or_self, if_true, if_false, eq_self, ite_true, ite_false, reduceIte]) (by rw [← hq]; simp only [xCa, eq_true h51_3, eq_true h84_4, h96_5, Bool.false_eq_true, not_false_eq_true, not_true_eq_false, and_self, and_true, true_and, and_false, false_and, or_true, true_or, or_false, false_or, or_self, if_true, if_false, eq_self, ite_true, ite_false, reduceIte])
          · have h96_5 := bnz h96_5
            refine g_iload C dX0_turnAndCarry_99 6 rfl ?_
            refine g_goto C (tgt := 105) dX0_turnAndCarry_101 (by decide) ?_
            exact g_iret C hret hlk dX0_turnAndCarry_105 (by rw [← hq]; simp only [xCa, eq_true h51_3, eq_true h84_4, eq_true h96_5, Bool.false_eq_true, not_false_eq_true, not_true_eq_false, and_self, and_true, true_and, and_false, false_and, or_true, true_or, or_false, false_or, or_self, if_true, if_false, eq_self, ite_true, ite_false, reduceIte]) (by rw [← hq]; simp only [xCa, eq_true h51_3, eq_true h84_4, eq_true h96_5, Bool.false_eq_true, not_false_eq_true, not_true_eq_false, and_self, and_true, true_and, and_false, false_and, or_true, true_or, or_false, false_or, or_self, if_true, if_false, eq_self, ite_true, ite_false, reduceIte])
      · refine g_iload C dX0_turnAndCarry_54 6 rfl ?_
        refine g_iload C dX0_turnAndCarry_56 0 rfl ?_
        refine g_iadd C (v := t + (xTv g1 q ((xSh g1 q) + s9))) dX0_turnAndCarry_58 rfl ?_
        exact g_iret C hret hlk dX0_turnAndCarry_59 (by rw [← hq]; simp only [xCa, h51_3, Bool.false_eq_true, not_false_eq_true, not_true_eq_false, and_self, and_true, true_and, and_false, false_and, or_true, true_or, or_false, false_or, or_self, if_true, if_false, eq_self, ite_true, ite_false, reduceIte]) (by rw [← hq]; simp only [xCa, h51_3, Bool.false_eq_true, not_false_eq_true, not_true_eq_false, and_self, and_true, true_and, and_false, false_and, or_true, true_or, or_false, false_or, or_self, if_true, if_false, eq_self, ite_true, ite_false, reduceIte])
  refine g_aload_n C dX0_turnAndCarry_0 0 rfl ?_
  refine g_iload_n C dX0_turnAndCarry_1 1 rfl ?_
  refine g_iload_n C dX0_turnAndCarry_2 2 rfl ?_
  refine g_iload C dX0_turnAndCarry_3 4 rfl ?_
  refine g_callVi C (c_X0_turn l D cI cO ad g r hr v d) gX0_turnAndCarry_X0_turn rfl ⟨rfl, rfl⟩ hd_X0_turn ⟨Nat.le_of_ble_eq_true rfl, Nat.le_of_ble_eq_true rfl⟩ [0, 1] rfl (fun _ _ => trivial) rfl (rest := []) rfl (Nat.le_of_ble_eq_true rfl) dX0_turnAndCarry_5 ⟨Nat.zero_le _, Nat.zero_le _⟩ 0 rfl rfl rfl (pre := []) (post := []) (ws' := (wB ad cI (xTn g r v d))) rfl rfl ?_
  refine g_istore C (lv' := [(5, .int (xTv g r v)), (0, .ref (ad 0)), (1, .int (nI r)), (2, .int v), (3, .int s9), (4, .int d)]) dX0_turnAndCarry_8 (by decide) rfl ?_
  refine g_iload C dX0_turnAndCarry_10 0 rfl ?_
  refine g_iconst C (v := -1) dX0_turnAndCarry_12 ci_m1 ?_
  refine g_icmp_ne C (tgt := 18) dX0_turnAndCarry_13 (by decide) (fun h13_6 => ?_) (fun h13_6 => ?_)
  · refine g_iload_n C dX0_turnAndCarry_18 2 rfl ?_
    refine g_iconst C (v := 1) dX0_turnAndCarry_19 ci_1 ?_
    refine g_iadd C (v := nI (r + 1)) dX0_turnAndCarry_20 (nI_1 r) ?_
    refine g_istore C (lv' := [(6, .int (nI (r + 1))), (5, .int (xTv g r v)), (0, .ref (ad 0)), (1, .int (nI r)), (2, .int v), (3, .int s9), (4, .int d)]) dX0_turnAndCarry_21 (by decide) rfl ?_
    refine g_lv [2, 3, 4, 5, 6, 1, 0] (lv' := [(0, .ref (ad 0)), (1, .int (nI r)), (2, .int v), (3, .int s9), (4, .int d), (5, .int (xTv g r v)), (6, .int (nI (r + 1)))]) rfl ?_
    exact K (8 - r) (r + 1) (by omega) _ _ (by simp only [xTc, h13_6, Bool.false_eq_true, not_false_eq_true, not_true_eq_false, and_self, and_true, true_and, and_false, false_and, or_true, true_or, or_false, false_or, or_self, if_true, if_false, eq_self, ite_true, ite_false, reduceIte])
  · refine g_ws (ws' := (wB ad cI g)) (by rw [xTn_no h13_6]) ?_
    refine g_iconst C (v := -1) dX0_turnAndCarry_16 ci_m1 ?_
    exact g_iret C hret hlk dX0_turnAndCarry_17 (by simp only [xTc, eq_true h13_6, Bool.false_eq_true, not_false_eq_true, not_true_eq_false, and_self, and_true, true_and, and_false, false_and, or_true, true_or, or_false, false_or, or_self, if_true, if_false, eq_self, ite_true, ite_false, reduceIte]) (by simp only [xTc, eq_true h13_6, Bool.false_eq_true, not_false_eq_true, not_true_eq_false, and_self, and_true, true_and, and_false, false_and, or_true, true_or, or_false, false_or, or_self, if_true, if_false, eq_self, ite_true, ite_false, reduceIte])
theorem hd_X0_turnAndCarry : yX0_turnAndCarry.cls = RX0 ∧ yX0_turnAndCarry.cls ≠ "java/lang/invoke/MethodHandle" ∧ yX0_turnAndCarry.cls ≠ "java/lang/invoke/VarHandle" ∧ (parseMethodDescriptor yX0_turnAndCarry.desc).map (fun d => d.parameters.length) = some 4 := by decide +kernel
abbrev rmX0_change : Room := { frames := 4, cells := 0, slots := 0, locals := 100 }
set_option maxHeartbeats 1000000 in
set_option maxRecDepth 100000 in
theorem c_X0_change (l : Launch) (D : va_G) (cI cO : ClassId) (ad : Nat → Nat) (g : Nat → Int32) (r : Nat) (hr : r < 9) (n9 d : Int32) : cR (fun _ => True) l yX0_change wsX0_change rmX0_change D vwCl (tyA cI cO) [.ref (ad 0), .int (nI r), .int n9, .int d] (wB ad cI g) (some (.int ((xCh g r n9 d).1))) (wB ad cI ((xCh g r n9 d).2)) := by
  refine cR_of (cc := cX0_change) (maxL := 6) (ret := (some .int)) (by decide) rfl (Nat.le_of_ble_eq_true rfl) ?_
  intro p e s m below meth c A C hret hlk hnm hF
  refine g_lv [0, 1, 2, 3] (lv' := [(0, .ref (ad 0)), (1, .int (nI r)), (2, .int n9), (3, .int d)]) rfl ?_
  have K : ∀ x : Int32, x = xSg n9 → gG p l e rmX0_change s m ([.ref (ad 0), .int (nI r), .int n9, .int d] : List Value).toArray below meth c D vwCl A s.heap 6 (MQ below (cQ (some (.int ((xCh g r n9 d).1))) (cB D vwCl (tyA cI cO) A (wB ad cI ((xCh g r n9 d).2))) A) ([.ref (ad 0), .int (nI r), .int n9, .int d] : List Value).toArray s 0 0 A) 0 0 (wB ad cI g) 9 [(0, .ref (ad 0)), (1, .int (nI r)), (2, .int n9), (3, .int d)] [.int x] := by
    intro x hx
    subst hx
    refine g_istore C (lv' := [(4, .int (xSg n9)), (0, .ref (ad 0)), (1, .int (nI r)), (2, .int n9), (3, .int d)]) dX0_change_9 (by decide) rfl ?_
    refine g_aload_n C dX0_change_11 1 rfl ?_
    refine g_iload_n C dX0_change_12 2 rfl ?_
    refine g_aload_n C dX0_change_13 1 rfl ?_
    refine g_iload_n C dX0_change_14 2 rfl ?_
    refine g_callVi C (c_X0_shown l D cI cO ad g r hr) gX0_change_X0_shown rfl ⟨rfl, rfl⟩ hd_X0_shown ⟨Nat.le_of_ble_eq_true rfl, Nat.le_of_ble_eq_true rfl⟩ [0, 1] rfl (fun _ _ => trivial) rfl (rest := [.int (nI r), .ref (ad 0)]) rfl (Nat.le_of_ble_eq_true rfl) dX0_change_15 ⟨Nat.zero_le _, Nat.zero_le _⟩ 0 rfl rfl rfl (pre := []) (post := []) (ws' := (wB ad cI g)) rfl rfl ?_
    refine g_iload_n C dX0_change_18 3 rfl ?_
    refine g_iadd C (v := (xSh g r) + n9) dX0_change_19 rfl ?_
    refine g_iload_n C dX0_change_20 4 rfl ?_
    refine g_callVi C (c_X0_turn l D cI cO ad g r hr ((xSh g r) + n9) d) gX0_change_X0_turn rfl ⟨rfl, rfl⟩ hd_X0_turn ⟨Nat.le_of_ble_eq_true rfl, Nat.le_of_ble_eq_true rfl⟩ [0, 1] rfl (fun _ _ => trivial) rfl (rest := []) rfl (Nat.le_of_ble_eq_true rfl) dX0_change_21 ⟨Nat.zero_le _, Nat.zero_le _⟩ 0 rfl rfl rfl (pre := []) (post := []) (ws' := (wB ad cI (xTn g r ((xSh g r) + n9) d))) rfl rfl ?_
    refine g_istore C (lv' := [(5, .int (xTv g r ((xSh g r) + n9))), (4, .int (xSg n9)), (0, .ref (ad 0)), (1, .int (nI r)), (2, .int n9), (3, .int d)]) dX0_change_24 (by decide) rfl ?_
    refine g_iload C dX0_change_26 0 rfl ?_
    refine g_iconst C (v := -1) dX0_change_28 ci_m1 ?_
    refine g_icmp_eq C (tgt := 35) dX0_change_29 (by decide) (fun h29_1 => ?_) (fun h29_1 => ?_)
    · refine g_ws (ws' := (wB ad cI g)) (by rw [xTn_no h29_1]) ?_
      refine g_aload_n C dX0_change_35 2 rfl ?_
      refine g_iload_n C dX0_change_36 3 rfl ?_
      refine g_aload_n C dX0_change_37 2 rfl ?_
      refine g_iload_n C dX0_change_38 3 rfl ?_
      refine g_callVi C (c_X0_shown l D cI cO ad g r hr) gX0_change_X0_shown rfl ⟨rfl, rfl⟩ hd_X0_shown ⟨Nat.le_of_ble_eq_true rfl, Nat.le_of_ble_eq_true rfl⟩ [0, 1] rfl (fun _ _ => trivial) rfl (rest := [.int (nI r), .ref (ad 0)]) rfl (Nat.le_of_ble_eq_true rfl) dX0_change_39 ⟨Nat.zero_le _, Nat.zero_le _⟩ 0 rfl rfl rfl (pre := []) (post := []) (ws' := (wB ad cI g)) rfl rfl ?_
      refine g_iload_n C dX0_change_42 4 rfl ?_
      refine g_iadd C (v := (xSh g r) + n9) dX0_change_43 rfl ?_
      refine g_bipush C (v := 10) dX0_change_44 cb_10 ?_
      refine g_iload C dX0_change_46 1 rfl ?_
      refine g_imul C (v := 10 * (xSg n9)) dX0_change_48 rfl ?_
      refine g_isub C (v := ((xSh g r) + n9) - (10 * (xSg n9))) dX0_change_49 rfl ?_
      refine g_iload C dX0_change_50 1 rfl ?_
      refine g_iload_n C dX0_change_52 5 rfl ?_
      refine g_callVi C (c_X0_turnAndCarry l D cI cO ad g r hr (((xSh g r) + n9) - (10 * (xSg n9))) (xSg n9) d) gX0_change_X0_turnAndCarry rfl ⟨rfl, rfl⟩ hd_X0_turnAndCarry ⟨Nat.le_of_ble_eq_true rfl, Nat.le_of_ble_eq_true rfl⟩ [0, 1] rfl (fun _ _ => trivial) rfl (rest := []) rfl (Nat.le_of_ble_eq_true rfl) dX0_change_53 ⟨Nat.zero_le _, Nat.zero_le _⟩ 0 rfl rfl rfl (pre := []) (post := []) (ws' := (wB ad cI ((xTc g r (((xSh g r) + n9) - (10 * (xSg n9))) (xSg n9) d).2))) rfl rfl ?_
      exact g_iret C hret hlk dX0_change_56 (by simp only [xCh, eq_true h29_1, Bool.false_eq_true, not_false_eq_true, not_true_eq_false, and_self, and_true, true_and, and_false, false_and, or_true, true_or, or_false, false_or, or_self, if_true, if_false, eq_self, ite_true, ite_false, reduceIte]) (by simp only [xCh, eq_true h29_1, Bool.false_eq_true, not_false_eq_true, not_true_eq_false, and_self, and_true, true_and, and_false, false_and, or_true, true_or, or_false, false_or, or_self, if_true, if_false, eq_self, ite_true, ite_false, reduceIte])
    · refine g_iload C dX0_change_32 0 rfl ?_
      exact g_iret C hret hlk dX0_change_34 (by simp only [xCh, h29_1, Bool.false_eq_true, not_false_eq_true, not_true_eq_false, and_self, and_true, true_and, and_false, false_and, or_true, true_or, or_false, false_or, or_self, if_true, if_false, eq_self, ite_true, ite_false, reduceIte]) (by simp only [xCh, h29_1, Bool.false_eq_true, not_false_eq_true, not_true_eq_false, and_self, and_true, true_and, and_false, false_and, or_true, true_or, or_false, false_or, or_self, if_true, if_false, eq_self, ite_true, ite_false, reduceIte])
  refine g_iload_n C dX0_change_0 2 rfl ?_
  refine g_if_ge C (tgt := 8) dX0_change_1 (by decide) (fun h1_2 => ?_) (fun h1_2 => ?_)
  · refine g_iconst C (v := 1) dX0_change_8 ci_1 ?_
    exact K _ (by simp only [xSg, eq_true h1_2, Bool.false_eq_true, not_false_eq_true, not_true_eq_false, and_self, and_true, true_and, and_false, false_and, or_true, true_or, or_false, false_or, or_self, if_true, if_false, eq_self, ite_true, ite_false, reduceIte])
  · refine g_iconst C (v := -1) dX0_change_4 ci_m1 ?_
    refine g_goto C (tgt := 9) dX0_change_5 (by decide) ?_
    exact K _ (by simp only [xSg, h1_2, Bool.false_eq_true, not_false_eq_true, not_true_eq_false, and_self, and_true, true_and, and_false, false_and, or_true, true_or, or_false, false_or, or_self, if_true, if_false, eq_self, ite_true, ite_false, reduceIte])
theorem fw_X0_payIfPossible_fld21 : Cond.fieldLink RX0 21 "StuckRods$Board" "loan" "[I" ∈ wsX0_payIfPossible := (List.mem_cons_of_mem _ (List.mem_append_left _ (List.mem_append_left _ (List.mem_of_getElem? (i := 0) rfl))))
theorem fl_X0_payIfPossible_X0 : ∀ w ∈ wsX00, w ∈ wsX0_payIfPossible := fun _ h => List.mem_cons_of_mem _ (List.mem_append_right _ h)
theorem hd_X0_change : yX0_change.cls = RX0 ∧ yX0_change.cls ≠ "java/lang/invoke/MethodHandle" ∧ yX0_change.cls ≠ "java/lang/invoke/VarHandle" ∧ (parseMethodDescriptor yX0_change.desc).map (fun d => d.parameters.length) = some 3 := by decide +kernel
abbrev rmX0_payIfPossible : Room := { frames := 5, cells := 0, slots := 0, locals := 125 }
set_option maxHeartbeats 1000000 in
set_option maxRecDepth 100000 in
theorem c_X0_payIfPossible (l : Launch) (D : va_G) (cI cO : ClassId) (ad : Nat → Nat) (g : Nat → Int32) (r : Nat) (hr : r < 9) : cR (fun _ => True) l yX0_payIfPossible wsX0_payIfPossible rmX0_payIfPossible D vwCl (tyA cI cO) [.ref (ad 0), .int (nI r)] (wB ad cI g) (some (.int ((xPa g r).1))) (wB ad cI ((xPa g r).2)) := by
  refine cR_of (cc := cX0_payIfPossible) (maxL := 3) (ret := (some .int)) (by decide) rfl (Nat.le_of_ble_eq_true rfl) ?_
  intro p e s m below meth c A C hret hlk hnm hF
  refine g_lv [0, 1] (lv' := [(0, .ref (ad 0)), (1, .int (nI r))]) rfl ?_
  refine g_aload_n C dX0_payIfPossible_0 0 rfl ?_
  refine g_iload_n C dX0_payIfPossible_1 1 rfl ?_
  refine g_aload_n C dX0_payIfPossible_2 0 rfl ?_
  refine g_get C (v := .ref (ad 4)) fl_X0_payIfPossible_X0 0 rfl rfl 3 (by decide) fw_X0_payIfPossible_fld21 rfl dX0_payIfPossible_3 ?_
  refine g_iload_n C dX0_payIfPossible_6 1 rfl ?_
  refine g_iald C (x := g (6 * r + 3)) 4 0 rfl rfl r rfl hr (by decide) rfl dX0_payIfPossible_7 ?_
  refine g_iconst C (v := 0) dX0_payIfPossible_8 ci_0 ?_
  refine g_callVi C (c_X0_change l D cI cO ad g r hr (g (6 * r + 3)) 0) gX0_payIfPossible_X0_change rfl ⟨rfl, rfl⟩ hd_X0_change ⟨Nat.le_of_ble_eq_true rfl, Nat.le_of_ble_eq_true rfl⟩ [0, 1] rfl (fun _ _ => trivial) rfl (rest := []) rfl (Nat.le_of_ble_eq_true rfl) dX0_payIfPossible_9 ⟨Nat.zero_le _, Nat.zero_le _⟩ 0 rfl rfl rfl (pre := []) (post := []) (ws' := (wB ad cI ((xCh g r (g (6 * r + 3)) 0).2))) rfl rfl ?_
  refine g_iconst C (v := -1) dX0_payIfPossible_12 ci_m1 ?_
  refine g_icmp_ne C (tgt := 18) dX0_payIfPossible_13 (by decide) (fun h13_1 => ?_) (fun h13_1 => ?_)
  · refine g_ws (ws' := (wB ad cI g)) (by rw [xCh_0]) ?_
    refine g_aload_n C dX0_payIfPossible_18 0 rfl ?_
    refine g_iload_n C dX0_payIfPossible_19 1 rfl ?_
    refine g_aload_n C dX0_payIfPossible_20 0 rfl ?_
    refine g_get C (v := .ref (ad 4)) fl_X0_payIfPossible_X0 0 rfl rfl 3 (by decide) fw_X0_payIfPossible_fld21 rfl dX0_payIfPossible_21 ?_
    refine g_iload_n C dX0_payIfPossible_24 1 rfl ?_
    refine g_iald C (x := g (6 * r + 3)) 4 0 rfl rfl r rfl hr (by decide) rfl dX0_payIfPossible_25 ?_
    refine g_iconst C (v := 1) dX0_payIfPossible_26 ci_1 ?_
    refine g_callVi C (c_X0_change l D cI cO ad g r hr (g (6 * r + 3)) 1) gX0_payIfPossible_X0_change rfl ⟨rfl, rfl⟩ hd_X0_change ⟨Nat.le_of_ble_eq_true rfl, Nat.le_of_ble_eq_true rfl⟩ [0, 1] rfl (fun _ _ => trivial) rfl (rest := []) rfl (Nat.le_of_ble_eq_true rfl) dX0_payIfPossible_27 ⟨Nat.zero_le _, Nat.zero_le _⟩ 0 rfl rfl rfl (pre := []) (post := []) (ws' := (wB ad cI ((xCh g r (g (6 * r + 3)) 1).2))) rfl rfl ?_
    refine g_istore_n C (lv' := [(2, .int ((xCh g r (g (6 * r + 3)) 1).1)), (0, .ref (ad 0)), (1, .int (nI r))]) dX0_payIfPossible_30 rfl (by decide) rfl ?_
    refine g_aload_n C dX0_payIfPossible_31 1 rfl ?_
    refine g_get C (v := .ref (ad 4)) fl_X0_payIfPossible_X0 0 rfl rfl 3 (by decide) fw_X0_payIfPossible_fld21 rfl dX0_payIfPossible_32 ?_
    refine g_iload_n C dX0_payIfPossible_35 2 rfl ?_
    refine g_iconst C (v := 0) dX0_payIfPossible_36 ci_0 ?_
    refine g_iast C (ws' := (wB ad cI (upd ((xCh g r (g (6 * r + 3)) 1).2) (6 * r + 3) 0))) 4 0 rfl rfl r rfl hr (by decide) dX0_payIfPossible_37 (wB_4 ad cI ((xCh g r (g (6 * r + 3)) 1).2) r 0) ?_
    refine g_iload_n C dX0_payIfPossible_38 0 rfl ?_
    exact g_iret C hret hlk dX0_payIfPossible_39 (by simp only [xPa, h13_1, Bool.false_eq_true, not_false_eq_true, not_true_eq_false, and_self, and_true, true_and, and_false, false_and, or_true, true_or, or_false, false_or, or_self, if_true, if_false, eq_self, ite_true, ite_false, reduceIte]) (by simp only [xPa, h13_1, Bool.false_eq_true, not_false_eq_true, not_true_eq_false, and_self, and_true, true_and, and_false, false_and, or_true, true_or, or_false, false_or, or_self, if_true, if_false, eq_self, ite_true, ite_false, reduceIte])
  · refine g_ws (ws' := (wB ad cI g)) (by rw [xCh_0]) ?_
    refine g_iconst C (v := 0) dX0_payIfPossible_16 ci_0 ?_
    exact g_iret C hret hlk dX0_payIfPossible_17 (by simp only [xPa, eq_true h13_1, Bool.false_eq_true, not_false_eq_true, not_true_eq_false, and_self, and_true, true_and, and_false, false_and, or_true, true_or, or_false, false_or, or_self, if_true, if_false, eq_self, ite_true, ite_false, reduceIte]) (by simp only [xPa, eq_true h13_1, Bool.false_eq_true, not_false_eq_true, not_true_eq_false, and_self, and_true, true_and, and_false, false_and, or_true, true_or, or_false, false_or, or_self, if_true, if_false, eq_self, ite_true, ite_false, reduceIte])
abbrev rmX0_orderIfPossible : Room := { frames := 4, cells := 0, slots := 0, locals := 100 }
set_option maxHeartbeats 1000000 in
set_option maxRecDepth 100000 in
theorem c_X0_orderIfPossible (l : Launch) (D : va_G) (cI cO : ClassId) (ad : Nat → Nat) (g : Nat → Int32) (r : Nat) (hr : r < 9) : cR (fun _ => True) l yX0_orderIfPossible wsX0_orderIfPossible rmX0_orderIfPossible D vwCl (tyA cI cO) [.ref (ad 0), .int (nI r)] (wB ad cI g) (some (.int ((xOr g r).1))) (wB ad cI ((xOr g r).2)) := by
  refine cR_of (cc := cX0_orderIfPossible) (maxL := 3) (ret := (some .int)) (by decide) rfl (Nat.le_of_ble_eq_true rfl) ?_
  intro p e s m below meth c A C hret hlk hnm hF
  refine g_lv [0, 1] (lv' := [(0, .ref (ad 0)), (1, .int (nI r))]) rfl ?_
  refine g_aload_n C dX0_orderIfPossible_0 0 rfl ?_
  refine g_iload_n C dX0_orderIfPossible_1 1 rfl ?_
  refine g_callVi C (c_X0_shown l D cI cO ad g r hr) gX0_orderIfPossible_X0_shown rfl ⟨rfl, rfl⟩ hd_X0_shown ⟨Nat.le_of_ble_eq_true rfl, Nat.le_of_ble_eq_true rfl⟩ [0, 1] rfl (fun _ _ => trivial) rfl (rest := []) rfl (Nat.le_of_ble_eq_true rfl) dX0_orderIfPossible_2 ⟨Nat.zero_le _, Nat.zero_le _⟩ 0 rfl rfl rfl (pre := []) (post := []) (ws' := (wB ad cI g)) rfl rfl ?_
  refine g_bipush C (v := 10) dX0_orderIfPossible_5 cb_10 ?_
  refine g_isub C (v := (xSh g r) - 10) dX0_orderIfPossible_7 rfl ?_
  refine g_istore_n C (lv' := [(2, .int ((xSh g r) - 10)), (0, .ref (ad 0)), (1, .int (nI r))]) dX0_orderIfPossible_8 rfl (by decide) rfl ?_
  refine g_iload_n C dX0_orderIfPossible_9 0 rfl ?_
  refine g_if_lt C (tgt := 25) dX0_orderIfPossible_10 (by decide) (fun h10_1 => ?_) (fun h10_1 => ?_)
  · refine g_iconst C (v := 0) dX0_orderIfPossible_25 ci_0 ?_
    exact g_iret C hret hlk dX0_orderIfPossible_26 (by simp only [xOr, eq_true h10_1, Bool.false_eq_true, not_false_eq_true, not_true_eq_false, and_self, and_true, true_and, and_false, false_and, or_true, true_or, or_false, false_or, or_self, if_true, if_false, eq_self, ite_true, ite_false, reduceIte]) (by simp only [xOr, eq_true h10_1, Bool.false_eq_true, not_false_eq_true, not_true_eq_false, and_self, and_true, true_and, and_false, false_and, or_true, true_or, or_false, false_or, or_self, if_true, if_false, eq_self, ite_true, ite_false, reduceIte])
  · refine g_aload_n C dX0_orderIfPossible_13 1 rfl ?_
    refine g_iload_n C dX0_orderIfPossible_14 2 rfl ?_
    refine g_iload_n C dX0_orderIfPossible_15 0 rfl ?_
    refine g_iconst C (v := 1) dX0_orderIfPossible_16 ci_1 ?_
    refine g_iconst C (v := 0) dX0_orderIfPossible_17 ci_0 ?_
    refine g_callVi C (c_X0_turnAndCarry l D cI cO ad g r hr ((xSh g r) - 10) 1 0) gX0_orderIfPossible_X0_turnAndCarry rfl ⟨rfl, rfl⟩ hd_X0_turnAndCarry ⟨Nat.le_of_ble_eq_true rfl, Nat.le_of_ble_eq_true rfl⟩ [0, 1] rfl (fun _ _ => trivial) rfl (rest := []) rfl (Nat.le_of_ble_eq_true rfl) dX0_orderIfPossible_18 ⟨Nat.zero_le _, Nat.zero_le _⟩ 0 rfl rfl rfl (pre := []) (post := []) (ws' := (wB ad cI ((xTc g r ((xSh g r) - 10) 1 0).2))) rfl rfl ?_
    refine g_iconst C (v := -1) dX0_orderIfPossible_21 ci_m1 ?_
    refine g_icmp_ne C (tgt := 27) dX0_orderIfPossible_22 (by decide) (fun h22_2 => ?_) (fun h22_2 => ?_)
    · refine g_ws (ws' := (wB ad cI g)) (by rw [xTc_0]) ?_
      refine g_aload_n C dX0_orderIfPossible_27 1 rfl ?_
      refine g_iload_n C dX0_orderIfPossible_28 2 rfl ?_
      refine g_iload_n C dX0_orderIfPossible_29 0 rfl ?_
      refine g_iconst C (v := 1) dX0_orderIfPossible_30 ci_1 ?_
      refine g_iconst C (v := 1) dX0_orderIfPossible_31 ci_1 ?_
      refine g_callVi C (c_X0_turnAndCarry l D cI cO ad g r hr ((xSh g r) - 10) 1 1) gX0_orderIfPossible_X0_turnAndCarry rfl ⟨rfl, rfl⟩ hd_X0_turnAndCarry ⟨Nat.le_of_ble_eq_true rfl, Nat.le_of_ble_eq_true rfl⟩ [0, 1] rfl (fun _ _ => trivial) rfl (rest := []) rfl (Nat.le_of_ble_eq_true rfl) dX0_orderIfPossible_32 ⟨Nat.zero_le _, Nat.zero_le _⟩ 0 rfl rfl rfl (pre := []) (post := []) (ws' := (wB ad cI ((xTc g r ((xSh g r) - 10) 1 1).2))) rfl rfl ?_
      exact g_iret C hret hlk dX0_orderIfPossible_35 (by simp only [xOr, h10_1, h22_2, Bool.false_eq_true, not_false_eq_true, not_true_eq_false, and_self, and_true, true_and, and_false, false_and, or_true, true_or, or_false, false_or, or_self, if_true, if_false, eq_self, ite_true, ite_false, reduceIte]) (by simp only [xOr, h10_1, h22_2, Bool.false_eq_true, not_false_eq_true, not_true_eq_false, and_self, and_true, true_and, and_false, false_and, or_true, true_or, or_false, false_or, or_self, if_true, if_false, eq_self, ite_true, ite_false, reduceIte])
    · refine g_ws (ws' := (wB ad cI g)) (by rw [xTc_0]) ?_
      refine g_iconst C (v := 0) dX0_orderIfPossible_25 ci_0 ?_
      exact g_iret C hret hlk dX0_orderIfPossible_26 (by simp only [xOr, h10_1, eq_true h22_2, Bool.false_eq_true, not_false_eq_true, not_true_eq_false, and_self, and_true, true_and, and_false, false_and, or_true, true_or, or_false, false_or, or_self, if_true, if_false, eq_self, ite_true, ite_false, reduceIte]) (by simp only [xOr, h10_1, eq_true h22_2, Bool.false_eq_true, not_false_eq_true, not_true_eq_false, and_self, and_true, true_and, and_false, false_and, or_true, true_or, or_false, false_or, or_self, if_true, if_false, eq_self, ite_true, ite_false, reduceIte])
theorem gt15 {k : Nat} (h : k < 16) : ¬ (15 : Int32) < nI k := fun z => absurd ((nI_ltI (a := 15) (b := k) (by decide) (by omega)).mp z) (by omega)
abbrev rmX0_reach : Room := { frames := 3, cells := 0, slots := 0, locals := 73 }
set_option maxHeartbeats 1000000 in
set_option maxRecDepth 100000 in
theorem c_X0_reach (l : Launch) (D : va_G) (cI cO : ClassId) (ad : Nat → Nat) (g : Nat → Int32) (r : Nat) (hr : r < 9) : cR (fun _ => True) l yX0_reach wsX0_reach rmX0_reach D vwCl (tyA cI cO) [.ref (ad 0), .int (nI r)] (wB ad cI g) (some (.int (xRe g r 16))) (wB ad cI g) := by
  refine cR_of (cc := cX0_reach) (maxL := 4) (ret := (some .int)) (by decide) rfl (Nat.le_of_ble_eq_true rfl) ?_
  intro p e s m below meth c A C hret hlk hnm hF
  refine g_lv [0, 1] (lv' := [(0, .ref (ad 0)), (1, .int (nI r))]) rfl ?_
  have K : ∀ (n q : Nat), n + q = 16 → ∀ x : Int32, x = xRe g r q → gG p l e rmX0_reach s m ([.ref (ad 0), .int (nI r)] : List Value).toArray below meth c D vwCl A s.heap 4 (MQ below (cQ (some (.int (xRe g r 16))) (cB D vwCl (tyA cI cO) A (wB ad cI g)) A) ([.ref (ad 0), .int (nI r)] : List Value).toArray s 0 0 A) 0 0 (wB ad cI g) 4 [(0, .ref (ad 0)), (1, .int (nI r)), (2, .int x), (3, .int (nI q))] [] := by
    intro n
    induction n with
    | zero =>
      intro q hn x hx
      obtain rfl : q = 16 := by omega
      refine g_iload_n C dX0_reach_4 3 rfl ?_
      refine g_bipush C (v := 15) dX0_reach_5 cb_15 ?_
      refine g_icmp_gt C (tgt := 30) dX0_reach_7 (by decide) (fun _ => ?_) (fun h7_1 => absurd (by decide) h7_1)
      refine g_iload_n C dX0_reach_30 2 rfl ?_
      exact g_iret C hret hlk dX0_reach_31 hx rfl
    | succ n ih =>
      intro q hn x hx
      have hq9 : q < 16 := by omega
      refine g_iload_n C dX0_reach_4 3 rfl ?_
      refine g_bipush C (v := 15) dX0_reach_5 cb_15 ?_
      refine g_icmp_gt C (tgt := 30) dX0_reach_7 (by decide) (fun h7_2 => absurd h7_2 (gt15 hq9)) (fun _ => ?_)
      refine g_aload_n C dX0_reach_10 0 rfl ?_
      refine g_iload_n C dX0_reach_11 1 rfl ?_
      refine g_iload_n C dX0_reach_12 3 rfl ?_
      refine g_iconst C (v := 0) dX0_reach_13 ci_0 ?_
      refine g_callVi C (c_X0_turn l D cI cO ad g r hr (nI q) 0) gX0_reach_X0_turn rfl ⟨rfl, rfl⟩ hd_X0_turn ⟨Nat.le_of_ble_eq_true rfl, Nat.le_of_ble_eq_true rfl⟩ [0, 1] rfl (fun _ _ => trivial) rfl (rest := []) rfl (Nat.le_of_ble_eq_true rfl) dX0_reach_14 ⟨Nat.zero_le _, Nat.zero_le _⟩ 0 rfl rfl rfl (pre := []) (post := []) (ws' := (wB ad cI (xTn g r (nI q) 0))) rfl rfl ?_
      refine g_iconst C (v := -1) dX0_reach_17 ci_m1 ?_
      refine g_icmp_eq C (tgt := 24) dX0_reach_18 (by decide) (fun h18_3 => ?_) (fun h18_3 => ?_)
      · refine g_ws (ws' := (wB ad cI g)) (by rw [xTn_0]) ?_
        refine g_iinc C (v := nI (q + 1)) (lv' := [(3, .int (nI (q + 1))), (0, .ref (ad 0)), (1, .int (nI r)), (2, .int x)]) dX0_reach_24 3 rfl (inc_nI _) (by decide) rfl ?_
        refine g_goto C (tgt := 4) dX0_reach_27 (by decide) ?_
        refine g_lv [1, 2, 3, 0] (lv' := [(0, .ref (ad 0)), (1, .int (nI r)), (2, .int x), (3, .int (nI (q + 1)))]) rfl ?_
        exact ih (q + 1) (by omega) _ (by rw [hx]; simp only [xRe, eq_true h18_3, Bool.false_eq_true, not_false_eq_true, not_true_eq_false, and_self, and_true, true_and, and_false, false_and, or_true, true_or, or_false, false_or, or_self, if_true, if_false, eq_self, ite_true, ite_false, reduceIte])
      · refine g_ws (ws' := (wB ad cI g)) (by rw [xTn_0]) ?_
        refine g_iinc C (v := x + 1) (lv' := [(2, .int (x + 1)), (0, .ref (ad 0)), (1, .int (nI r)), (3, .int (nI q))]) dX0_reach_21 2 rfl (inc_x _) (by decide) rfl ?_
        refine g_iinc C (v := nI (q + 1)) (lv' := [(3, .int (nI (q + 1))), (2, .int (x + 1)), (0, .ref (ad 0)), (1, .int (nI r))]) dX0_reach_24 3 rfl (inc_nI _) (by decide) rfl ?_
        refine g_goto C (tgt := 4) dX0_reach_27 (by decide) ?_
        refine g_lv [2, 3, 1, 0] (lv' := [(0, .ref (ad 0)), (1, .int (nI r)), (2, .int (x + 1)), (3, .int (nI (q + 1)))]) rfl ?_
        exact ih (q + 1) (by omega) _ (by rw [hx]; simp only [xRe, h18_3, Bool.false_eq_true, not_false_eq_true, not_true_eq_false, and_self, and_true, true_and, and_false, false_and, or_true, true_or, or_false, false_or, or_self, if_true, if_false, eq_self, ite_true, ite_false, reduceIte])
  refine g_iconst C (v := 0) dX0_reach_0 ci_0 ?_
  refine g_istore_n C (lv' := [(2, .int 0), (0, .ref (ad 0)), (1, .int (nI r))]) dX0_reach_1 rfl (by decide) rfl ?_
  refine g_iconst C (v := 0) dX0_reach_2 ci_0 ?_
  refine g_istore_n C (lv' := [(3, .int 0), (2, .int 0), (0, .ref (ad 0)), (1, .int (nI r))]) dX0_reach_3 rfl (by decide) rfl ?_
  refine g_lv [2, 3, 1, 0] (lv' := [(0, .ref (ad 0)), (1, .int (nI r)), (2, .int 0), (3, .int 0)]) rfl ?_
  exact K 16 0 rfl _ rfl
theorem fw_X0_allMoved_fld24 : Cond.fieldLink RX0 24 "StuckRods$Board" "moved" "[I" ∈ wsX0_allMoved := (List.mem_cons_of_mem _ (List.mem_append_left _ (List.mem_of_getElem? (i := 0) rfl)))
theorem fl_X0_allMoved_X0 : ∀ w ∈ wsX00, w ∈ wsX0_allMoved := fun _ h => List.mem_cons_of_mem _ (List.mem_append_right _ h)
abbrev rmX0_allMoved : Room := { frames := 0, cells := 0, slots := 0, locals := 0 }
set_option maxHeartbeats 1000000 in
set_option maxRecDepth 100000 in
theorem c_X0_allMoved (l : Launch) (D : va_G) (cI cO : ClassId) (ad : Nat → Nat) (g : Nat → Int32) : cR (fun _ => True) l yX0_allMoved wsX0_allMoved rmX0_allMoved D vwCl (tyA cI cO) [.ref (ad 0)] (wB ad cI g) (some (.int (xSu (fun j => g (6 * j + 5)) 9))) (wB ad cI g) := by
  refine cR_of (cc := cX0_allMoved) (maxL := 3) (ret := (some .int)) (by decide) rfl (Nat.le_of_ble_eq_true rfl) ?_
  intro p e s m below meth c A C hret hlk hnm hF
  refine g_lv [0] (lv' := [(0, .ref (ad 0))]) rfl ?_
  have K : ∀ (n q : Nat), n + q = 9 → ∀ x : Int32, x = xSu (fun j => g (6 * j + 5)) q → gG p l e rmX0_allMoved s m ([.ref (ad 0)] : List Value).toArray below meth c D vwCl A s.heap 3 (MQ below (cQ (some (.int (xSu (fun j => g (6 * j + 5)) 9))) (cB D vwCl (tyA cI cO) A (wB ad cI g)) A) ([.ref (ad 0)] : List Value).toArray s 0 0 A) 0 0 (wB ad cI g) 4 [(0, .ref (ad 0)), (1, .int x), (2, .int (nI q))] [] := by
    intro n
    induction n with
    | zero =>
      intro q hn x hx
      obtain rfl : q = 9 := by omega
      refine g_iload_n C dX0_allMoved_4 2 rfl ?_
      refine g_bipush C (v := 9) dX0_allMoved_5 cb_9 ?_
      refine g_icmp_ge C (tgt := 25) dX0_allMoved_7 (by decide) (fun _ => ?_) (fun h7_1 => absurd (by decide) h7_1)
      refine g_iload_n C dX0_allMoved_25 1 rfl ?_
      exact g_iret C hret hlk dX0_allMoved_26 hx rfl
    | succ n ih =>
      intro q hn x hx
      have hq9 : q < 9 := by omega
      refine g_iload_n C dX0_allMoved_4 2 rfl ?_
      refine g_bipush C (v := 9) dX0_allMoved_5 cb_9 ?_
      refine g_icmp_ge C (tgt := 25) dX0_allMoved_7 (by decide) (fun h7_2 => absurd h7_2 (ge9 hq9)) (fun _ => ?_)
      refine g_iload_n C dX0_allMoved_10 1 rfl ?_
      refine g_aload_n C dX0_allMoved_11 0 rfl ?_
      refine g_get C (v := .ref (ad 5)) fl_X0_allMoved_X0 0 rfl rfl 4 (by decide) fw_X0_allMoved_fld24 rfl dX0_allMoved_12 ?_
      refine g_iload_n C dX0_allMoved_15 2 rfl ?_
      refine g_iald C (x := g (6 * q + 5)) 5 0 rfl rfl q rfl hq9 (by decide) rfl dX0_allMoved_16 ?_
      refine g_iadd C (v := x + (g (6 * q + 5))) dX0_allMoved_17 rfl ?_
      refine g_istore_n C (lv' := [(1, .int (x + (g (6 * q + 5)))), (0, .ref (ad 0)), (2, .int (nI q))]) dX0_allMoved_18 rfl (by decide) rfl ?_
      refine g_iinc C (v := nI (q + 1)) (lv' := [(2, .int (nI (q + 1))), (1, .int (x + (g (6 * q + 5)))), (0, .ref (ad 0))]) dX0_allMoved_19 2 rfl (inc_nI _) (by decide) rfl ?_
      refine g_goto C (tgt := 4) dX0_allMoved_22 (by decide) ?_
      refine g_lv [2, 1, 0] (lv' := [(0, .ref (ad 0)), (1, .int (x + (g (6 * q + 5)))), (2, .int (nI (q + 1)))]) rfl ?_
      exact ih (q + 1) (by omega) _ (by rw [hx]; simp only [xSu, Bool.false_eq_true, not_false_eq_true, not_true_eq_false, and_self, and_true, true_and, and_false, false_and, or_true, true_or, or_false, false_or, or_self, if_true, if_false, eq_self, ite_true, ite_false, reduceIte])
  refine g_iconst C (v := 0) dX0_allMoved_0 ci_0 ?_
  refine g_istore_n C (lv' := [(1, .int 0), (0, .ref (ad 0))]) dX0_allMoved_1 rfl (by decide) rfl ?_
  refine g_iconst C (v := 0) dX0_allMoved_2 ci_0 ?_
  refine g_istore_n C (lv' := [(2, .int 0), (1, .int 0), (0, .ref (ad 0))]) dX0_allMoved_3 rfl (by decide) rfl ?_
  refine g_lv [2, 1, 0] (lv' := [(0, .ref (ad 0)), (1, .int 0), (2, .int 0)]) rfl ?_
  exact K 9 0 rfl _ rfl
theorem fw_X0_allLoans_fld21 : Cond.fieldLink RX0 21 "StuckRods$Board" "loan" "[I" ∈ wsX0_allLoans := (List.mem_cons_of_mem _ (List.mem_append_left _ (List.mem_of_getElem? (i := 0) rfl)))
theorem fl_X0_allLoans_X0 : ∀ w ∈ wsX00, w ∈ wsX0_allLoans := fun _ h => List.mem_cons_of_mem _ (List.mem_append_right _ h)
abbrev rmX0_allLoans : Room := { frames := 0, cells := 0, slots := 0, locals := 0 }
set_option maxHeartbeats 1000000 in
set_option maxRecDepth 100000 in
theorem c_X0_allLoans (l : Launch) (D : va_G) (cI cO : ClassId) (ad : Nat → Nat) (g : Nat → Int32) : cR (fun _ => True) l yX0_allLoans wsX0_allLoans rmX0_allLoans D vwCl (tyA cI cO) [.ref (ad 0)] (wB ad cI g) (some (.int (xSu (fun j => g (6 * j + 3)) 9))) (wB ad cI g) := by
  refine cR_of (cc := cX0_allLoans) (maxL := 3) (ret := (some .int)) (by decide) rfl (Nat.le_of_ble_eq_true rfl) ?_
  intro p e s m below meth c A C hret hlk hnm hF
  refine g_lv [0] (lv' := [(0, .ref (ad 0))]) rfl ?_
  have K : ∀ (n q : Nat), n + q = 9 → ∀ x : Int32, x = xSu (fun j => g (6 * j + 3)) q → gG p l e rmX0_allLoans s m ([.ref (ad 0)] : List Value).toArray below meth c D vwCl A s.heap 3 (MQ below (cQ (some (.int (xSu (fun j => g (6 * j + 3)) 9))) (cB D vwCl (tyA cI cO) A (wB ad cI g)) A) ([.ref (ad 0)] : List Value).toArray s 0 0 A) 0 0 (wB ad cI g) 4 [(0, .ref (ad 0)), (1, .int x), (2, .int (nI q))] [] := by
    intro n
    induction n with
    | zero =>
      intro q hn x hx
      obtain rfl : q = 9 := by omega
      refine g_iload_n C dX0_allLoans_4 2 rfl ?_
      refine g_bipush C (v := 9) dX0_allLoans_5 cb_9 ?_
      refine g_icmp_ge C (tgt := 25) dX0_allLoans_7 (by decide) (fun _ => ?_) (fun h7_1 => absurd (by decide) h7_1)
      refine g_iload_n C dX0_allLoans_25 1 rfl ?_
      exact g_iret C hret hlk dX0_allLoans_26 hx rfl
    | succ n ih =>
      intro q hn x hx
      have hq9 : q < 9 := by omega
      refine g_iload_n C dX0_allLoans_4 2 rfl ?_
      refine g_bipush C (v := 9) dX0_allLoans_5 cb_9 ?_
      refine g_icmp_ge C (tgt := 25) dX0_allLoans_7 (by decide) (fun h7_2 => absurd h7_2 (ge9 hq9)) (fun _ => ?_)
      refine g_iload_n C dX0_allLoans_10 1 rfl ?_
      refine g_aload_n C dX0_allLoans_11 0 rfl ?_
      refine g_get C (v := .ref (ad 4)) fl_X0_allLoans_X0 0 rfl rfl 3 (by decide) fw_X0_allLoans_fld21 rfl dX0_allLoans_12 ?_
      refine g_iload_n C dX0_allLoans_15 2 rfl ?_
      refine g_iald C (x := g (6 * q + 3)) 4 0 rfl rfl q rfl hq9 (by decide) rfl dX0_allLoans_16 ?_
      refine g_iadd C (v := x + (g (6 * q + 3))) dX0_allLoans_17 rfl ?_
      refine g_istore_n C (lv' := [(1, .int (x + (g (6 * q + 3)))), (0, .ref (ad 0)), (2, .int (nI q))]) dX0_allLoans_18 rfl (by decide) rfl ?_
      refine g_iinc C (v := nI (q + 1)) (lv' := [(2, .int (nI (q + 1))), (1, .int (x + (g (6 * q + 3)))), (0, .ref (ad 0))]) dX0_allLoans_19 2 rfl (inc_nI _) (by decide) rfl ?_
      refine g_goto C (tgt := 4) dX0_allLoans_22 (by decide) ?_
      refine g_lv [2, 1, 0] (lv' := [(0, .ref (ad 0)), (1, .int (x + (g (6 * q + 3)))), (2, .int (nI (q + 1)))]) rfl ?_
      exact ih (q + 1) (by omega) _ (by rw [hx]; simp only [xSu, Bool.false_eq_true, not_false_eq_true, not_true_eq_false, and_self, and_true, true_and, and_false, false_and, or_true, true_or, or_false, false_or, or_self, if_true, if_false, eq_self, ite_true, ite_false, reduceIte])
  refine g_iconst C (v := 0) dX0_allLoans_0 ci_0 ?_
  refine g_istore_n C (lv' := [(1, .int 0), (0, .ref (ad 0))]) dX0_allLoans_1 rfl (by decide) rfl ?_
  refine g_iconst C (v := 0) dX0_allLoans_2 ci_0 ?_
  refine g_istore_n C (lv' := [(2, .int 0), (1, .int 0), (0, .ref (ad 0))]) dX0_allLoans_3 rfl (by decide) rfl ?_
  refine g_lv [2, 1, 0] (lv' := [(0, .ref (ad 0)), (1, .int 0), (2, .int 0)]) rfl ?_
  exact K 9 0 rfl _ rfl
abbrev rmX0_allShown : Room := { frames := 1, cells := 0, slots := 0, locals := 21 }
set_option maxHeartbeats 1000000 in
set_option maxRecDepth 100000 in
theorem c_X0_allShown (l : Launch) (D : va_G) (cI cO : ClassId) (ad : Nat → Nat) (g : Nat → Int32) : cR (fun _ => True) l yX0_allShown wsX0_allShown rmX0_allShown D vwCl (tyA cI cO) [.ref (ad 0)] (wB ad cI g) (some (.int (xSu (fun j => xSh g j) 9))) (wB ad cI g) := by
  refine cR_of (cc := cX0_allShown) (maxL := 3) (ret := (some .int)) (by decide) rfl (Nat.le_of_ble_eq_true rfl) ?_
  intro p e s m below meth c A C hret hlk hnm hF
  refine g_lv [0] (lv' := [(0, .ref (ad 0))]) rfl ?_
  have K : ∀ (n q : Nat), n + q = 9 → ∀ x : Int32, x = xSu (fun j => xSh g j) q → gG p l e rmX0_allShown s m ([.ref (ad 0)] : List Value).toArray below meth c D vwCl A s.heap 3 (MQ below (cQ (some (.int (xSu (fun j => xSh g j) 9))) (cB D vwCl (tyA cI cO) A (wB ad cI g)) A) ([.ref (ad 0)] : List Value).toArray s 0 0 A) 0 0 (wB ad cI g) 4 [(0, .ref (ad 0)), (1, .int x), (2, .int (nI q))] [] := by
    intro n
    induction n with
    | zero =>
      intro q hn x hx
      obtain rfl : q = 9 := by omega
      refine g_iload_n C dX0_allShown_4 2 rfl ?_
      refine g_bipush C (v := 9) dX0_allShown_5 cb_9 ?_
      refine g_icmp_ge C (tgt := 24) dX0_allShown_7 (by decide) (fun _ => ?_) (fun h7_1 => absurd (by decide) h7_1)
      refine g_iload_n C dX0_allShown_24 1 rfl ?_
      exact g_iret C hret hlk dX0_allShown_25 hx rfl
    | succ n ih =>
      intro q hn x hx
      have hq9 : q < 9 := by omega
      refine g_iload_n C dX0_allShown_4 2 rfl ?_
      refine g_bipush C (v := 9) dX0_allShown_5 cb_9 ?_
      refine g_icmp_ge C (tgt := 24) dX0_allShown_7 (by decide) (fun h7_2 => absurd h7_2 (ge9 hq9)) (fun _ => ?_)
      refine g_iload_n C dX0_allShown_10 1 rfl ?_
      refine g_aload_n C dX0_allShown_11 0 rfl ?_
      refine g_iload_n C dX0_allShown_12 2 rfl ?_
      refine g_callVi C (c_X0_shown l D cI cO ad g q hq9) gX0_allShown_X0_shown rfl ⟨rfl, rfl⟩ hd_X0_shown ⟨Nat.le_of_ble_eq_true rfl, Nat.le_of_ble_eq_true rfl⟩ [0, 1] rfl (fun _ _ => trivial) rfl (rest := [.int x]) rfl (Nat.le_of_ble_eq_true rfl) dX0_allShown_13 ⟨Nat.zero_le _, Nat.zero_le _⟩ 0 rfl rfl rfl (pre := []) (post := []) (ws' := (wB ad cI g)) rfl rfl ?_
      refine g_iadd C (v := x + (xSh g q)) dX0_allShown_16 rfl ?_
      refine g_istore_n C (lv' := [(1, .int (x + (xSh g q))), (0, .ref (ad 0)), (2, .int (nI q))]) dX0_allShown_17 rfl (by decide) rfl ?_
      refine g_iinc C (v := nI (q + 1)) (lv' := [(2, .int (nI (q + 1))), (1, .int (x + (xSh g q))), (0, .ref (ad 0))]) dX0_allShown_18 2 rfl (inc_nI _) (by decide) rfl ?_
      refine g_goto C (tgt := 4) dX0_allShown_21 (by decide) ?_
      refine g_lv [2, 1, 0] (lv' := [(0, .ref (ad 0)), (1, .int (x + (xSh g q))), (2, .int (nI (q + 1)))]) rfl ?_
      exact ih (q + 1) (by omega) _ (by rw [hx]; simp only [xSu, Bool.false_eq_true, not_false_eq_true, not_true_eq_false, and_self, and_true, true_and, and_false, false_and, or_true, true_or, or_false, false_or, or_self, if_true, if_false, eq_self, ite_true, ite_false, reduceIte])
  refine g_iconst C (v := 0) dX0_allShown_0 ci_0 ?_
  refine g_istore_n C (lv' := [(1, .int 0), (0, .ref (ad 0))]) dX0_allShown_1 rfl (by decide) rfl ?_
  refine g_iconst C (v := 0) dX0_allShown_2 ci_0 ?_
  refine g_istore_n C (lv' := [(2, .int 0), (1, .int 0), (0, .ref (ad 0))]) dX0_allShown_3 rfl (by decide) rfl ?_
  refine g_lv [2, 1, 0] (lv' := [(0, .ref (ad 0)), (1, .int 0), (2, .int 0)]) rfl ?_
  exact K 9 0 rfl _ rfl
theorem fw_X0_rodsWithLoan_fld21 : Cond.fieldLink RX0 21 "StuckRods$Board" "loan" "[I" ∈ wsX0_rodsWithLoan := (List.mem_cons_of_mem _ (List.mem_append_left _ (List.mem_of_getElem? (i := 0) rfl)))
theorem fl_X0_rodsWithLoan_X0 : ∀ w ∈ wsX00, w ∈ wsX0_rodsWithLoan := fun _ h => List.mem_cons_of_mem _ (List.mem_append_right _ h)
abbrev rmX0_rodsWithLoan : Room := { frames := 0, cells := 0, slots := 0, locals := 0 }
set_option maxHeartbeats 1000000 in
set_option maxRecDepth 100000 in
theorem c_X0_rodsWithLoan (l : Launch) (D : va_G) (cI cO : ClassId) (ad : Nat → Nat) (g : Nat → Int32) : cR (fun _ => True) l yX0_rodsWithLoan wsX0_rodsWithLoan rmX0_rodsWithLoan D vwCl (tyA cI cO) [.ref (ad 0)] (wB ad cI g) (some (.int (xCt (fun j => ¬ g (6 * j + 3) = 0) 9))) (wB ad cI g) := by
  refine cR_of (cc := cX0_rodsWithLoan) (maxL := 3) (ret := (some .int)) (by decide) rfl (Nat.le_of_ble_eq_true rfl) ?_
  intro p e s m below meth c A C hret hlk hnm hF
  refine g_lv [0] (lv' := [(0, .ref (ad 0))]) rfl ?_
  have K : ∀ (n q : Nat), n + q = 9 → ∀ x : Int32, x = xCt (fun j => ¬ g (6 * j + 3) = 0) q → gG p l e rmX0_rodsWithLoan s m ([.ref (ad 0)] : List Value).toArray below meth c D vwCl A s.heap 3 (MQ below (cQ (some (.int (xCt (fun j => ¬ g (6 * j + 3) = 0) 9))) (cB D vwCl (tyA cI cO) A (wB ad cI g)) A) ([.ref (ad 0)] : List Value).toArray s 0 0 A) 0 0 (wB ad cI g) 4 [(0, .ref (ad 0)), (1, .int x), (2, .int (nI q))] [] := by
    intro n
    induction n with
    | zero =>
      intro q hn x hx
      obtain rfl : q = 9 := by omega
      refine g_iload_n C dX0_rodsWithLoan_4 2 rfl ?_
      refine g_bipush C (v := 9) dX0_rodsWithLoan_5 cb_9 ?_
      refine g_icmp_ge C (tgt := 28) dX0_rodsWithLoan_7 (by decide) (fun _ => ?_) (fun h7_1 => absurd (by decide) h7_1)
      refine g_iload_n C dX0_rodsWithLoan_28 1 rfl ?_
      exact g_iret C hret hlk dX0_rodsWithLoan_29 hx rfl
    | succ n ih =>
      intro q hn x hx
      have hq9 : q < 9 := by omega
      refine g_iload_n C dX0_rodsWithLoan_4 2 rfl ?_
      refine g_bipush C (v := 9) dX0_rodsWithLoan_5 cb_9 ?_
      refine g_icmp_ge C (tgt := 28) dX0_rodsWithLoan_7 (by decide) (fun h7_2 => absurd h7_2 (ge9 hq9)) (fun _ => ?_)
      refine g_aload_n C dX0_rodsWithLoan_10 0 rfl ?_
      refine g_get C (v := .ref (ad 4)) fl_X0_rodsWithLoan_X0 0 rfl rfl 3 (by decide) fw_X0_rodsWithLoan_fld21 rfl dX0_rodsWithLoan_11 ?_
      refine g_iload_n C dX0_rodsWithLoan_14 2 rfl ?_
      refine g_iald C (x := g (6 * q + 3)) 4 0 rfl rfl q rfl hq9 (by decide) rfl dX0_rodsWithLoan_15 ?_
      refine g_if_eq C (tgt := 22) dX0_rodsWithLoan_16 (by decide) (fun h16_3 => ?_) (fun h16_3 => ?_)
      · refine g_iinc C (v := nI (q + 1)) (lv' := [(2, .int (nI (q + 1))), (0, .ref (ad 0)), (1, .int x)]) dX0_rodsWithLoan_22 2 rfl (inc_nI _) (by decide) rfl ?_
        refine g_goto C (tgt := 4) dX0_rodsWithLoan_25 (by decide) ?_
        refine g_lv [1, 2, 0] (lv' := [(0, .ref (ad 0)), (1, .int x), (2, .int (nI (q + 1)))]) rfl ?_
        exact ih (q + 1) (by omega) _ (by rw [hx]; simp only [xCt, eq_true h16_3, Bool.false_eq_true, not_false_eq_true, not_true_eq_false, and_self, and_true, true_and, and_false, false_and, or_true, true_or, or_false, false_or, or_self, if_true, if_false, eq_self, ite_true, ite_false, reduceIte])
      · refine g_iinc C (v := x + 1) (lv' := [(1, .int (x + 1)), (0, .ref (ad 0)), (2, .int (nI q))]) dX0_rodsWithLoan_19 1 rfl (inc_x _) (by decide) rfl ?_
        refine g_iinc C (v := nI (q + 1)) (lv' := [(2, .int (nI (q + 1))), (1, .int (x + 1)), (0, .ref (ad 0))]) dX0_rodsWithLoan_22 2 rfl (inc_nI _) (by decide) rfl ?_
        refine g_goto C (tgt := 4) dX0_rodsWithLoan_25 (by decide) ?_
        refine g_lv [2, 1, 0] (lv' := [(0, .ref (ad 0)), (1, .int (x + 1)), (2, .int (nI (q + 1)))]) rfl ?_
        exact ih (q + 1) (by omega) _ (by rw [hx]; simp only [xCt, h16_3, Bool.false_eq_true, not_false_eq_true, not_true_eq_false, and_self, and_true, true_and, and_false, false_and, or_true, true_or, or_false, false_or, or_self, if_true, if_false, eq_self, ite_true, ite_false, reduceIte])
  refine g_iconst C (v := 0) dX0_rodsWithLoan_0 ci_0 ?_
  refine g_istore_n C (lv' := [(1, .int 0), (0, .ref (ad 0))]) dX0_rodsWithLoan_1 rfl (by decide) rfl ?_
  refine g_iconst C (v := 0) dX0_rodsWithLoan_2 ci_0 ?_
  refine g_istore_n C (lv' := [(2, .int 0), (1, .int 0), (0, .ref (ad 0))]) dX0_rodsWithLoan_3 rfl (by decide) rfl ?_
  refine g_lv [2, 1, 0] (lv' := [(0, .ref (ad 0)), (1, .int 0), (2, .int 0)]) rfl ?_
  exact K 9 0 rfl _ rfl
abbrev rmX0_rodsOutOfOrder : Room := { frames := 1, cells := 0, slots := 0, locals := 21 }
set_option maxHeartbeats 1000000 in
set_option maxRecDepth 100000 in
theorem c_X0_rodsOutOfOrder (l : Launch) (D : va_G) (cI cO : ClassId) (ad : Nat → Nat) (g : Nat → Int32) : cR (fun _ => True) l yX0_rodsOutOfOrder wsX0_rodsOutOfOrder rmX0_rodsOutOfOrder D vwCl (tyA cI cO) [.ref (ad 0)] (wB ad cI g) (some (.int (xCt (fun j => ¬ xSh g j < 10) 9))) (wB ad cI g) := by
  refine cR_of (cc := cX0_rodsOutOfOrder) (maxL := 3) (ret := (some .int)) (by decide) rfl (Nat.le_of_ble_eq_true rfl) ?_
  intro p e s m below meth c A C hret hlk hnm hF
  refine g_lv [0] (lv' := [(0, .ref (ad 0))]) rfl ?_
  have K : ∀ (n q : Nat), n + q = 9 → ∀ x : Int32, x = xCt (fun j => ¬ xSh g j < 10) q → gG p l e rmX0_rodsOutOfOrder s m ([.ref (ad 0)] : List Value).toArray below meth c D vwCl A s.heap 3 (MQ below (cQ (some (.int (xCt (fun j => ¬ xSh g j < 10) 9))) (cB D vwCl (tyA cI cO) A (wB ad cI g)) A) ([.ref (ad 0)] : List Value).toArray s 0 0 A) 0 0 (wB ad cI g) 4 [(0, .ref (ad 0)), (1, .int x), (2, .int (nI q))] [] := by
    intro n
    induction n with
    | zero =>
      intro q hn x hx
      obtain rfl : q = 9 := by omega
      refine g_iload_n C dX0_rodsOutOfOrder_4 2 rfl ?_
      refine g_bipush C (v := 9) dX0_rodsOutOfOrder_5 cb_9 ?_
      refine g_icmp_ge C (tgt := 29) dX0_rodsOutOfOrder_7 (by decide) (fun _ => ?_) (fun h7_1 => absurd (by decide) h7_1)
      refine g_iload_n C dX0_rodsOutOfOrder_29 1 rfl ?_
      exact g_iret C hret hlk dX0_rodsOutOfOrder_30 hx rfl
    | succ n ih =>
      intro q hn x hx
      have hq9 : q < 9 := by omega
      refine g_iload_n C dX0_rodsOutOfOrder_4 2 rfl ?_
      refine g_bipush C (v := 9) dX0_rodsOutOfOrder_5 cb_9 ?_
      refine g_icmp_ge C (tgt := 29) dX0_rodsOutOfOrder_7 (by decide) (fun h7_2 => absurd h7_2 (ge9 hq9)) (fun _ => ?_)
      refine g_aload_n C dX0_rodsOutOfOrder_10 0 rfl ?_
      refine g_iload_n C dX0_rodsOutOfOrder_11 2 rfl ?_
      refine g_callVi C (c_X0_shown l D cI cO ad g q hq9) gX0_rodsOutOfOrder_X0_shown rfl ⟨rfl, rfl⟩ hd_X0_shown ⟨Nat.le_of_ble_eq_true rfl, Nat.le_of_ble_eq_true rfl⟩ [0, 1] rfl (fun _ _ => trivial) rfl (rest := []) rfl (Nat.le_of_ble_eq_true rfl) dX0_rodsOutOfOrder_12 ⟨Nat.zero_le _, Nat.zero_le _⟩ 0 rfl rfl rfl (pre := []) (post := []) (ws' := (wB ad cI g)) rfl rfl ?_
      refine g_bipush C (v := 10) dX0_rodsOutOfOrder_15 cb_10 ?_
      refine g_icmp_lt C (tgt := 23) dX0_rodsOutOfOrder_17 (by decide) (fun h17_3 => ?_) (fun h17_3 => ?_)
      · refine g_iinc C (v := nI (q + 1)) (lv' := [(2, .int (nI (q + 1))), (0, .ref (ad 0)), (1, .int x)]) dX0_rodsOutOfOrder_23 2 rfl (inc_nI _) (by decide) rfl ?_
        refine g_goto C (tgt := 4) dX0_rodsOutOfOrder_26 (by decide) ?_
        refine g_lv [1, 2, 0] (lv' := [(0, .ref (ad 0)), (1, .int x), (2, .int (nI (q + 1)))]) rfl ?_
        exact ih (q + 1) (by omega) _ (by rw [hx]; simp only [xCt, eq_true h17_3, Bool.false_eq_true, not_false_eq_true, not_true_eq_false, and_self, and_true, true_and, and_false, false_and, or_true, true_or, or_false, false_or, or_self, if_true, if_false, eq_self, ite_true, ite_false, reduceIte])
      · refine g_iinc C (v := x + 1) (lv' := [(1, .int (x + 1)), (0, .ref (ad 0)), (2, .int (nI q))]) dX0_rodsOutOfOrder_20 1 rfl (inc_x _) (by decide) rfl ?_
        refine g_iinc C (v := nI (q + 1)) (lv' := [(2, .int (nI (q + 1))), (1, .int (x + 1)), (0, .ref (ad 0))]) dX0_rodsOutOfOrder_23 2 rfl (inc_nI _) (by decide) rfl ?_
        refine g_goto C (tgt := 4) dX0_rodsOutOfOrder_26 (by decide) ?_
        refine g_lv [2, 1, 0] (lv' := [(0, .ref (ad 0)), (1, .int (x + 1)), (2, .int (nI (q + 1)))]) rfl ?_
        exact ih (q + 1) (by omega) _ (by rw [hx]; simp only [xCt, h17_3, Bool.false_eq_true, not_false_eq_true, not_true_eq_false, and_self, and_true, true_and, and_false, false_and, or_true, true_or, or_false, false_or, or_self, if_true, if_false, eq_self, ite_true, ite_false, reduceIte])
  refine g_iconst C (v := 0) dX0_rodsOutOfOrder_0 ci_0 ?_
  refine g_istore_n C (lv' := [(1, .int 0), (0, .ref (ad 0))]) dX0_rodsOutOfOrder_1 rfl (by decide) rfl ?_
  refine g_iconst C (v := 0) dX0_rodsOutOfOrder_2 ci_0 ?_
  refine g_istore_n C (lv' := [(2, .int 0), (1, .int 0), (0, .ref (ad 0))]) dX0_rodsOutOfOrder_3 rfl (by decide) rfl ?_
  refine g_lv [2, 1, 0] (lv' := [(0, .ref (ad 0)), (1, .int 0), (2, .int 0)]) rfl ?_
  exact K 9 0 rfl _ rfl
theorem fw_X0_rodsWithStuck_fld18 : Cond.fieldLink RX0 18 "StuckRods$Board" "stuck" "[I" ∈ wsX0_rodsWithStuck := (List.mem_cons_of_mem _ (List.mem_append_left _ (List.mem_of_getElem? (i := 0) rfl)))
theorem fl_X0_rodsWithStuck_X0 : ∀ w ∈ wsX00, w ∈ wsX0_rodsWithStuck := fun _ h => List.mem_cons_of_mem _ (List.mem_append_right _ h)
abbrev rmX0_rodsWithStuck : Room := { frames := 0, cells := 0, slots := 0, locals := 0 }
set_option maxHeartbeats 1000000 in
set_option maxRecDepth 100000 in
theorem c_X0_rodsWithStuck (l : Launch) (D : va_G) (cI cO : ClassId) (ad : Nat → Nat) (g : Nat → Int32) : cR (fun _ => True) l yX0_rodsWithStuck wsX0_rodsWithStuck rmX0_rodsWithStuck D vwCl (tyA cI cO) [.ref (ad 0)] (wB ad cI g) (some (.int (xCt (fun j => ¬ g (6 * j + 4) = 0) 9))) (wB ad cI g) := by
  refine cR_of (cc := cX0_rodsWithStuck) (maxL := 3) (ret := (some .int)) (by decide) rfl (Nat.le_of_ble_eq_true rfl) ?_
  intro p e s m below meth c A C hret hlk hnm hF
  refine g_lv [0] (lv' := [(0, .ref (ad 0))]) rfl ?_
  have K : ∀ (n q : Nat), n + q = 9 → ∀ x : Int32, x = xCt (fun j => ¬ g (6 * j + 4) = 0) q → gG p l e rmX0_rodsWithStuck s m ([.ref (ad 0)] : List Value).toArray below meth c D vwCl A s.heap 3 (MQ below (cQ (some (.int (xCt (fun j => ¬ g (6 * j + 4) = 0) 9))) (cB D vwCl (tyA cI cO) A (wB ad cI g)) A) ([.ref (ad 0)] : List Value).toArray s 0 0 A) 0 0 (wB ad cI g) 4 [(0, .ref (ad 0)), (1, .int x), (2, .int (nI q))] [] := by
    intro n
    induction n with
    | zero =>
      intro q hn x hx
      obtain rfl : q = 9 := by omega
      refine g_iload_n C dX0_rodsWithStuck_4 2 rfl ?_
      refine g_bipush C (v := 9) dX0_rodsWithStuck_5 cb_9 ?_
      refine g_icmp_ge C (tgt := 28) dX0_rodsWithStuck_7 (by decide) (fun _ => ?_) (fun h7_1 => absurd (by decide) h7_1)
      refine g_iload_n C dX0_rodsWithStuck_28 1 rfl ?_
      exact g_iret C hret hlk dX0_rodsWithStuck_29 hx rfl
    | succ n ih =>
      intro q hn x hx
      have hq9 : q < 9 := by omega
      refine g_iload_n C dX0_rodsWithStuck_4 2 rfl ?_
      refine g_bipush C (v := 9) dX0_rodsWithStuck_5 cb_9 ?_
      refine g_icmp_ge C (tgt := 28) dX0_rodsWithStuck_7 (by decide) (fun h7_2 => absurd h7_2 (ge9 hq9)) (fun _ => ?_)
      refine g_aload_n C dX0_rodsWithStuck_10 0 rfl ?_
      refine g_get C (v := .ref (ad 3)) fl_X0_rodsWithStuck_X0 0 rfl rfl 2 (by decide) fw_X0_rodsWithStuck_fld18 rfl dX0_rodsWithStuck_11 ?_
      refine g_iload_n C dX0_rodsWithStuck_14 2 rfl ?_
      refine g_iald C (x := g (6 * q + 4)) 3 0 rfl rfl q rfl hq9 (by decide) rfl dX0_rodsWithStuck_15 ?_
      refine g_if_eq C (tgt := 22) dX0_rodsWithStuck_16 (by decide) (fun h16_3 => ?_) (fun h16_3 => ?_)
      · refine g_iinc C (v := nI (q + 1)) (lv' := [(2, .int (nI (q + 1))), (0, .ref (ad 0)), (1, .int x)]) dX0_rodsWithStuck_22 2 rfl (inc_nI _) (by decide) rfl ?_
        refine g_goto C (tgt := 4) dX0_rodsWithStuck_25 (by decide) ?_
        refine g_lv [1, 2, 0] (lv' := [(0, .ref (ad 0)), (1, .int x), (2, .int (nI (q + 1)))]) rfl ?_
        exact ih (q + 1) (by omega) _ (by rw [hx]; simp only [xCt, eq_true h16_3, Bool.false_eq_true, not_false_eq_true, not_true_eq_false, and_self, and_true, true_and, and_false, false_and, or_true, true_or, or_false, false_or, or_self, if_true, if_false, eq_self, ite_true, ite_false, reduceIte])
      · refine g_iinc C (v := x + 1) (lv' := [(1, .int (x + 1)), (0, .ref (ad 0)), (2, .int (nI q))]) dX0_rodsWithStuck_19 1 rfl (inc_x _) (by decide) rfl ?_
        refine g_iinc C (v := nI (q + 1)) (lv' := [(2, .int (nI (q + 1))), (1, .int (x + 1)), (0, .ref (ad 0))]) dX0_rodsWithStuck_22 2 rfl (inc_nI _) (by decide) rfl ?_
        refine g_goto C (tgt := 4) dX0_rodsWithStuck_25 (by decide) ?_
        refine g_lv [2, 1, 0] (lv' := [(0, .ref (ad 0)), (1, .int (x + 1)), (2, .int (nI (q + 1)))]) rfl ?_
        exact ih (q + 1) (by omega) _ (by rw [hx]; simp only [xCt, h16_3, Bool.false_eq_true, not_false_eq_true, not_true_eq_false, and_self, and_true, true_and, and_false, false_and, or_true, true_or, or_false, false_or, or_self, if_true, if_false, eq_self, ite_true, ite_false, reduceIte])
  refine g_iconst C (v := 0) dX0_rodsWithStuck_0 ci_0 ?_
  refine g_istore_n C (lv' := [(1, .int 0), (0, .ref (ad 0))]) dX0_rodsWithStuck_1 rfl (by decide) rfl ?_
  refine g_iconst C (v := 0) dX0_rodsWithStuck_2 ci_0 ?_
  refine g_istore_n C (lv' := [(2, .int 0), (1, .int 0), (0, .ref (ad 0))]) dX0_rodsWithStuck_3 rfl (by decide) rfl ?_
  refine g_lv [2, 1, 0] (lv' := [(0, .ref (ad 0)), (1, .int 0), (2, .int 0)]) rfl ?_
  exact K 9 0 rfl _ rfl
theorem cf_all {g1 g2 : Nat → Int32} (h : ∀ j o : Nat, j < 9 → 0 < o → o < 7 → g1 (6 * j + o) = g2 (6 * j + o)) : ∀ j, j < 55 → upd g1 0 (g2 0) j = g2 j := by
  intro j hj
  by_cases h0 : j = 0
  · subst h0; rfl
  · show (if j = 0 then g2 0 else g1 j) = g2 j
    rw [if_neg h0]
    have e : j = 6 * ((j - 1) / 6) + ((j - 1) % 6 + 1) := by omega
    rw [e]
    exact h _ _ (by omega) (by omega) (by omega)
theorem cf_step {g1 g2 : Nat → Int32} {q : Nat} (h : ∀ j o : Nat, j < q → 0 < o → o < 7 → g1 (6 * j + o) = g2 (6 * j + o)) : ∀ j o : Nat, j < q + 1 → 0 < o → o < 7 → upd (upd (upd (upd (upd (upd g1 (6 * q + 1) (g2 (6 * q + 1))) (6 * q + 2) (g2 (6 * q + 2))) (6 * q + 4) (g2 (6 * q + 4))) (6 * q + 3) (g2 (6 * q + 3))) (6 * q + 5) (g2 (6 * q + 5))) (6 * q + 6) (g2 (6 * q + 6)) (6 * j + o) = g2 (6 * j + o) := by
  intro j o hj h0 h7
  by_cases hq : j = q
  · subst hq
    rcases (show o = 1 ∨ o = 2 ∨ o = 3 ∨ o = 4 ∨ o = 5 ∨ o = 6 by omega) with e | e | e | e | e | e <;> subst e <;> simp [upd]
  · have hj2 : j < q := by omega
    simp only [upd]
    rw [if_neg (by omega), if_neg (by omega), if_neg (by omega), if_neg (by omega), if_neg (by omega), if_neg (by omega)]
    exact h j o hj2 h0 h7
theorem fw_X0_copyFrom_fld30 : Cond.fieldLink RX0 30 "StuckRods$Board" "setting" "I" ∈ wsX0_copyFrom := (List.mem_cons_of_mem _ (List.mem_append_left _ (List.mem_of_getElem? (i := 6) rfl)))
theorem fl_X0_copyFrom_X0 : ∀ w ∈ wsX00, w ∈ wsX0_copyFrom := fun _ h => List.mem_cons_of_mem _ (List.mem_append_right _ h)
theorem fw_X0_copyFrom_fld9 : Cond.fieldLink RX0 9 "StuckRods$Board" "fives" "[I" ∈ wsX0_copyFrom := (List.mem_cons_of_mem _ (List.mem_append_left _ (List.mem_of_getElem? (i := 0) rfl)))
theorem fw_X0_copyFrom_fld15 : Cond.fieldLink RX0 15 "StuckRods$Board" "ones" "[I" ∈ wsX0_copyFrom := (List.mem_cons_of_mem _ (List.mem_append_left _ (List.mem_of_getElem? (i := 1) rfl)))
theorem fw_X0_copyFrom_fld18 : Cond.fieldLink RX0 18 "StuckRods$Board" "stuck" "[I" ∈ wsX0_copyFrom := (List.mem_cons_of_mem _ (List.mem_append_left _ (List.mem_of_getElem? (i := 2) rfl)))
theorem fw_X0_copyFrom_fld21 : Cond.fieldLink RX0 21 "StuckRods$Board" "loan" "[I" ∈ wsX0_copyFrom := (List.mem_cons_of_mem _ (List.mem_append_left _ (List.mem_of_getElem? (i := 3) rfl)))
theorem fw_X0_copyFrom_fld24 : Cond.fieldLink RX0 24 "StuckRods$Board" "moved" "[I" ∈ wsX0_copyFrom := (List.mem_cons_of_mem _ (List.mem_append_left _ (List.mem_of_getElem? (i := 4) rfl)))
theorem fw_X0_copyFrom_fld27 : Cond.fieldLink RX0 27 "StuckRods$Board" "borrowed" "[I" ∈ wsX0_copyFrom := (List.mem_cons_of_mem _ (List.mem_append_left _ (List.mem_of_getElem? (i := 5) rfl)))
abbrev rmX0_copyFrom : Room := { frames := 0, cells := 0, slots := 0, locals := 0 }
set_option maxHeartbeats 1000000 in
set_option maxRecDepth 100000 in
theorem c_X0_copyFrom (l : Launch) (D : va_G) (cI cO : ClassId) (ad ad2 : Nat → Nat) (g g2 : Nat → Int32) : cR (fun _ => True) l yX0_copyFrom wsX0_copyFrom rmX0_copyFrom D vwCl (tyA cI cO) [.ref (ad 0), .ref (ad2 0)] ((wB ad cI g) ++ (wB ad2 cI g2)) none ((wB ad cI g2) ++ (wB ad2 cI g2)) := by
  refine cR_of (cc := cX0_copyFrom) (maxL := 3) (ret := none) (by decide) rfl (Nat.le_of_ble_eq_true rfl) ?_
  intro p e s m below meth c A C hret hlk hnm hF
  refine g_lv [0, 1] (lv' := [(0, .ref (ad 0)), (1, .ref (ad2 0))]) rfl ?_
  have K : ∀ (n q : Nat), n + q = 9 → ∀ g1 : Nat → Int32, (∀ j o : Nat, j < q → 0 < o → o < 7 → g1 (6 * j + o) = g2 (6 * j + o)) → gG p l e rmX0_copyFrom s m ([.ref (ad 0), .ref (ad2 0)] : List Value).toArray below meth c D vwCl A s.heap 3 (MQ below (cQ none (cB D vwCl (tyA cI cO) A ((wB ad cI g2) ++ (wB ad2 cI g2))) A) ([.ref (ad 0), .ref (ad2 0)] : List Value).toArray s 0 0 A) 0 0 ((wB ad cI g1) ++ (wB ad2 cI g2)) 2 [(0, .ref (ad 0)), (1, .ref (ad2 0)), (2, .int (nI q))] [] := by
    intro n
    induction n with
    | zero =>
      intro q hn g1 hg
      obtain rfl : q = 9 := by omega
      refine g_iload_n C dX0_copyFrom_2 2 rfl ?_
      refine g_bipush C (v := 9) dX0_copyFrom_3 cb_9 ?_
      refine g_icmp_ge C (tgt := 86) dX0_copyFrom_5 (by decide) (fun _ => ?_) (fun h5_1 => absurd (by decide) h5_1)
      refine g_aload_n C dX0_copyFrom_86 0 rfl ?_
      refine g_aload_n C dX0_copyFrom_87 1 rfl ?_
      refine g_get C (v := .int (g2 0)) fl_X0_copyFrom_X0 7 rfl rfl 6 (by decide) fw_X0_copyFrom_fld30 rfl dX0_copyFrom_88 ?_
      refine g_put C (ws' := ((wB ad cI (upd g1 0 (g2 0))) ++ (wB ad2 cI g2))) fl_X0_copyFrom_X0 tyX0 tyX0_ok nmX0 0 rfl rfl 6 (by decide) fw_X0_copyFrom_fld30 rfl (tyX0_ok 6 (by decide)) rfl rfl (Nat.le_of_ble_eq_true rfl) dX0_copyFrom_91 (ws_setl (Nat.le_of_ble_eq_true rfl) (wB_0 ad cI g1 (g2 0))) ?_
      refine g_wsE (ws' := ((wB ad cI g2) ++ (wB ad2 cI g2))) (fun H hP => va_P.app (wB_eq (cf_all hg) (wP_l hP)) (wP_r hP)) (wD_same rfl) ?_
      exact g_vret C hret hlk dX0_copyFrom_94 rfl
    | succ n ih =>
      intro q hn g1 hg
      have hq9 : q < 9 := by omega
      refine g_iload_n C dX0_copyFrom_2 2 rfl ?_
      refine g_bipush C (v := 9) dX0_copyFrom_3 cb_9 ?_
      refine g_icmp_ge C (tgt := 86) dX0_copyFrom_5 (by decide) (fun h5_2 => absurd h5_2 (ge9 hq9)) (fun _ => ?_)
      refine g_aload_n C dX0_copyFrom_8 0 rfl ?_
      refine g_get C (v := .ref (ad 1)) fl_X0_copyFrom_X0 0 rfl rfl 0 (by decide) fw_X0_copyFrom_fld9 rfl dX0_copyFrom_9 ?_
      refine g_iload_n C dX0_copyFrom_12 2 rfl ?_
      refine g_aload_n C dX0_copyFrom_13 1 rfl ?_
      refine g_get C (v := .ref (ad2 1)) fl_X0_copyFrom_X0 7 rfl rfl 0 (by decide) fw_X0_copyFrom_fld9 rfl dX0_copyFrom_14 ?_
      refine g_iload_n C dX0_copyFrom_17 2 rfl ?_
      refine g_iald C (x := g2 (6 * q + 1)) 8 0 rfl rfl q rfl hq9 (by decide) rfl dX0_copyFrom_18 ?_
      refine g_iast C (ws' := ((wB ad cI (upd g1 (6 * q + 1) (g2 (6 * q + 1)))) ++ (wB ad2 cI g2))) 1 0 rfl rfl q rfl hq9 (by decide) dX0_copyFrom_19 (ws_setl (Nat.le_of_ble_eq_true rfl) (wB_1 ad cI g1 q (g2 (6 * q + 1)))) ?_
      refine g_aload_n C dX0_copyFrom_20 0 rfl ?_
      refine g_get C (v := .ref (ad 2)) fl_X0_copyFrom_X0 0 rfl rfl 1 (by decide) fw_X0_copyFrom_fld15 rfl dX0_copyFrom_21 ?_
      refine g_iload_n C dX0_copyFrom_24 2 rfl ?_
      refine g_aload_n C dX0_copyFrom_25 1 rfl ?_
      refine g_get C (v := .ref (ad2 2)) fl_X0_copyFrom_X0 7 rfl rfl 1 (by decide) fw_X0_copyFrom_fld15 rfl dX0_copyFrom_26 ?_
      refine g_iload_n C dX0_copyFrom_29 2 rfl ?_
      refine g_iald C (x := g2 (6 * q + 2)) 9 0 rfl rfl q rfl hq9 (by decide) rfl dX0_copyFrom_30 ?_
      refine g_iast C (ws' := ((wB ad cI (upd (upd g1 (6 * q + 1) (g2 (6 * q + 1))) (6 * q + 2) (g2 (6 * q + 2)))) ++ (wB ad2 cI g2))) 2 0 rfl rfl q rfl hq9 (by decide) dX0_copyFrom_31 (ws_setl (Nat.le_of_ble_eq_true rfl) (wB_2 ad cI (upd g1 (6 * q + 1) (g2 (6 * q + 1))) q (g2 (6 * q + 2)))) ?_
      refine g_aload_n C dX0_copyFrom_32 0 rfl ?_
      refine g_get C (v := .ref (ad 3)) fl_X0_copyFrom_X0 0 rfl rfl 2 (by decide) fw_X0_copyFrom_fld18 rfl dX0_copyFrom_33 ?_
      refine g_iload_n C dX0_copyFrom_36 2 rfl ?_
      refine g_aload_n C dX0_copyFrom_37 1 rfl ?_
      refine g_get C (v := .ref (ad2 3)) fl_X0_copyFrom_X0 7 rfl rfl 2 (by decide) fw_X0_copyFrom_fld18 rfl dX0_copyFrom_38 ?_
      refine g_iload_n C dX0_copyFrom_41 2 rfl ?_
      refine g_iald C (x := g2 (6 * q + 4)) 10 0 rfl rfl q rfl hq9 (by decide) rfl dX0_copyFrom_42 ?_
      refine g_iast C (ws' := ((wB ad cI (upd (upd (upd g1 (6 * q + 1) (g2 (6 * q + 1))) (6 * q + 2) (g2 (6 * q + 2))) (6 * q + 4) (g2 (6 * q + 4)))) ++ (wB ad2 cI g2))) 3 0 rfl rfl q rfl hq9 (by decide) dX0_copyFrom_43 (ws_setl (Nat.le_of_ble_eq_true rfl) (wB_3 ad cI (upd (upd g1 (6 * q + 1) (g2 (6 * q + 1))) (6 * q + 2) (g2 (6 * q + 2))) q (g2 (6 * q + 4)))) ?_
      refine g_aload_n C dX0_copyFrom_44 0 rfl ?_
      refine g_get C (v := .ref (ad 4)) fl_X0_copyFrom_X0 0 rfl rfl 3 (by decide) fw_X0_copyFrom_fld21 rfl dX0_copyFrom_45 ?_
      refine g_iload_n C dX0_copyFrom_48 2 rfl ?_
      refine g_aload_n C dX0_copyFrom_49 1 rfl ?_
      refine g_get C (v := .ref (ad2 4)) fl_X0_copyFrom_X0 7 rfl rfl 3 (by decide) fw_X0_copyFrom_fld21 rfl dX0_copyFrom_50 ?_
      refine g_iload_n C dX0_copyFrom_53 2 rfl ?_
      refine g_iald C (x := g2 (6 * q + 3)) 11 0 rfl rfl q rfl hq9 (by decide) rfl dX0_copyFrom_54 ?_
      refine g_iast C (ws' := ((wB ad cI (upd (upd (upd (upd g1 (6 * q + 1) (g2 (6 * q + 1))) (6 * q + 2) (g2 (6 * q + 2))) (6 * q + 4) (g2 (6 * q + 4))) (6 * q + 3) (g2 (6 * q + 3)))) ++ (wB ad2 cI g2))) 4 0 rfl rfl q rfl hq9 (by decide) dX0_copyFrom_55 (ws_setl (Nat.le_of_ble_eq_true rfl) (wB_4 ad cI (upd (upd (upd g1 (6 * q + 1) (g2 (6 * q + 1))) (6 * q + 2) (g2 (6 * q + 2))) (6 * q + 4) (g2 (6 * q + 4))) q (g2 (6 * q + 3)))) ?_
      refine g_aload_n C dX0_copyFrom_56 0 rfl ?_
      refine g_get C (v := .ref (ad 5)) fl_X0_copyFrom_X0 0 rfl rfl 4 (by decide) fw_X0_copyFrom_fld24 rfl dX0_copyFrom_57 ?_
      refine g_iload_n C dX0_copyFrom_60 2 rfl ?_
      refine g_aload_n C dX0_copyFrom_61 1 rfl ?_
      refine g_get C (v := .ref (ad2 5)) fl_X0_copyFrom_X0 7 rfl rfl 4 (by decide) fw_X0_copyFrom_fld24 rfl dX0_copyFrom_62 ?_
      refine g_iload_n C dX0_copyFrom_65 2 rfl ?_
      refine g_iald C (x := g2 (6 * q + 5)) 12 0 rfl rfl q rfl hq9 (by decide) rfl dX0_copyFrom_66 ?_
      refine g_iast C (ws' := ((wB ad cI (upd (upd (upd (upd (upd g1 (6 * q + 1) (g2 (6 * q + 1))) (6 * q + 2) (g2 (6 * q + 2))) (6 * q + 4) (g2 (6 * q + 4))) (6 * q + 3) (g2 (6 * q + 3))) (6 * q + 5) (g2 (6 * q + 5)))) ++ (wB ad2 cI g2))) 5 0 rfl rfl q rfl hq9 (by decide) dX0_copyFrom_67 (ws_setl (Nat.le_of_ble_eq_true rfl) (wB_5 ad cI (upd (upd (upd (upd g1 (6 * q + 1) (g2 (6 * q + 1))) (6 * q + 2) (g2 (6 * q + 2))) (6 * q + 4) (g2 (6 * q + 4))) (6 * q + 3) (g2 (6 * q + 3))) q (g2 (6 * q + 5)))) ?_
      refine g_aload_n C dX0_copyFrom_68 0 rfl ?_
      refine g_get C (v := .ref (ad 6)) fl_X0_copyFrom_X0 0 rfl rfl 5 (by decide) fw_X0_copyFrom_fld27 rfl dX0_copyFrom_69 ?_
      refine g_iload_n C dX0_copyFrom_72 2 rfl ?_
      refine g_aload_n C dX0_copyFrom_73 1 rfl ?_
      refine g_get C (v := .ref (ad2 6)) fl_X0_copyFrom_X0 7 rfl rfl 5 (by decide) fw_X0_copyFrom_fld27 rfl dX0_copyFrom_74 ?_
      refine g_iload_n C dX0_copyFrom_77 2 rfl ?_
      refine g_iald C (x := g2 (6 * q + 6)) 13 0 rfl rfl q rfl hq9 (by decide) rfl dX0_copyFrom_78 ?_
      refine g_iast C (ws' := ((wB ad cI (upd (upd (upd (upd (upd (upd g1 (6 * q + 1) (g2 (6 * q + 1))) (6 * q + 2) (g2 (6 * q + 2))) (6 * q + 4) (g2 (6 * q + 4))) (6 * q + 3) (g2 (6 * q + 3))) (6 * q + 5) (g2 (6 * q + 5))) (6 * q + 6) (g2 (6 * q + 6)))) ++ (wB ad2 cI g2))) 6 0 rfl rfl q rfl hq9 (by decide) dX0_copyFrom_79 (ws_setl (Nat.le_of_ble_eq_true rfl) (wB_6 ad cI (upd (upd (upd (upd (upd g1 (6 * q + 1) (g2 (6 * q + 1))) (6 * q + 2) (g2 (6 * q + 2))) (6 * q + 4) (g2 (6 * q + 4))) (6 * q + 3) (g2 (6 * q + 3))) (6 * q + 5) (g2 (6 * q + 5))) q (g2 (6 * q + 6)))) ?_
      refine g_iinc C (v := nI (q + 1)) (lv' := [(2, .int (nI (q + 1))), (0, .ref (ad 0)), (1, .ref (ad2 0))]) dX0_copyFrom_80 2 rfl (inc_nI _) (by decide) rfl ?_
      refine g_goto C (tgt := 2) dX0_copyFrom_83 (by decide) ?_
      refine g_lv [1, 2, 0] (lv' := [(0, .ref (ad 0)), (1, .ref (ad2 0)), (2, .int (nI (q + 1)))]) rfl ?_
      exact ih (q + 1) (by omega) _ (cf_step hg)
  refine g_iconst C (v := 0) dX0_copyFrom_0 ci_0 ?_
  refine g_istore_n C (lv' := [(2, .int 0), (0, .ref (ad 0)), (1, .ref (ad2 0))]) dX0_copyFrom_1 rfl (by decide) rfl ?_
  refine g_lv [1, 2, 0] (lv' := [(0, .ref (ad 0)), (1, .ref (ad2 0)), (2, .int 0)]) rfl ?_
  exact K 9 0 rfl _ (fun j o h => absurd h (Nat.not_lt_zero j))
