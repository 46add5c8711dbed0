/-! ===== the reference model ===== -/
def wM (ma : Nat → Nat) (cI : ClassId) (th : Int32) (u a9 sv : Nat → Int32) (z : Nat) (t : Nat → Int32) (n : Nat) (dg : Int64) : va_W :=
  [(ma 0, .inr (4, [.int th, .ref (ma 1), .ref (ma 2), .ref (ma 3), .int (nI z), .ref (ma 4), .int (nI n), .long dg])),
   (ma 1, .inl (cI, 55, .inl u)), (ma 2, .inl (cI, 55, .inl a9)), (ma 3, .inl (cI, 330, .inl sv)), (ma 4, .inl (cI, 60, .inl t))]
theorem wM_eq {D : va_G} {cl : List vw_C} {ma : Nat → Nat} {cI : ClassId} {th : Int32} {u u1 a9 a91 sv : Nat → Int32} {z : Nat} {t : Nat → Int32} {n : Nat} {dg : Int64} {H : Heap} (h1 : ∀ j, j < 55 → u j = u1 j) (h2 : ∀ j, j < 55 → a9 j = a91 j)
    (hp : va_P D cl (wM ma cI th u a9 sv z t n dg) H) : va_P D cl (wM ma cI th u1 a91 sv z t n dg) H := by
  intro k q hk
  have hk5 : k < 5 := (List.getElem?_eq_some_iff.mp hk).1
  rcases (show k = 0 ∨ k = 1 ∨ k = 2 ∨ k = 3 ∨ k = 4 by omega) with e | e | e | e | e <;> subst e <;> cases hk
  · exact hp 0 _ rfl
  · exact at_i h1 (hp 1 _ rfl)
  · exact at_i h2 (hp 2 _ rfl)
  · exact hp 3 _ rfl
  · exact hp 4 _ rfl
theorem b01 {q : Prop} [Decidable q] : (if q then (1 : Int32) else 0) = 0 ∨ (if q then (1 : Int32) else 0) = 1 := by
  by_cases h : q
  · exact Or.inr (if_pos h)
  · exact Or.inl (if_neg h)
theorem bt {q : Prop} [Decidable q] (h : q) : ¬ (if q then (1 : Int32) else 0) = 0 := by rw [if_pos h]; decide
theorem bf {q : Prop} [Decidable q] (h : ¬ q) : (if q then (1 : Int32) else 0) = 0 := if_neg h
theorem of_nI {r w k : Nat} (h : 6 * r + w + 1 = k) : 1 + 6 * nI r + nI w = nI k := by
  subst h
  rw [show (6 : Int32) = nI 6 from rfl, show (1 : Int32) = nI 1 from rfl, pk_mul, nI_add, nI_add]
  congr 1
  omega
theorem geN {i N : Nat} (h : i < N) (hN : N < 2 ^ 31) : ¬ nI N ≤ nI i := nI_ge h hN
theorem ne9 {k : Nat} (h : k < 9) : ¬ nI k = 9 := fun z => absurd ((nI_eq (b := 9) (by omega) (by decide)).mp z) (by omega)
theorem xAb_n {v : Int32} (h : ¬ 0 ≤ v) : -v = xAb v := by
  unfold xAb
  rw [if_neg h, Int32.zero_sub]
theorem xAb_p {v : Int32} (h : 0 ≤ v) : v = xAb v := by
  unfold xAb
  rw [if_pos h]
/-! copying, place by place -/
def cpF (b : Nat) (u sv : Nat → Int32) (i : Nat) : Nat → Int32 := fun k => if b ≤ k ∧ k < b + i then u (k - b) else sv k
theorem cpF_0 (b : Nat) (u sv : Nat → Int32) : cpF b u sv 0 = sv := by
  funext k
  exact if_neg (by omega)
theorem cpF_step (b : Nat) (u sv : Nat → Int32) (i : Nat) : upd (cpF b u sv i) (b + i) (u i) = cpF b u sv (i + 1) := by
  funext k
  by_cases h : k = b + i
  · subst h
    rw [pk_us]
    exact (Eq.trans (if_pos (by omega)) (congrArg u (by omega))).symm
  · rw [pk_un h]
    unfold cpF
    by_cases h2 : b ≤ k ∧ k < b + i
    · rw [if_pos h2, if_pos (by omega)]
    · rw [if_neg h2, if_neg (by omega)]
theorem cpF_0step (u sv : Nat → Int32) (i : Nat) : upd (cpF 0 u sv i) i (u i) = cpF 0 u sv (i + 1) := by
  have h := cpF_step 0 u sv i
  rw [Nat.zero_add] at h
  exact h
theorem cpF_55 {u sv : Nat → Int32} {j : Nat} (h : j < 55) : cpF 0 u sv 55 j = u j := if_pos (by omega)
def shF (sv : Nat → Int32) (i : Nat) : Nat → Int32 := fun k => if k < i then sv (55 + k) else sv k
theorem shF_0 (sv : Nat → Int32) : shF sv 0 = sv := rfl
theorem shF_step (sv : Nat → Int32) (i : Nat) : upd (shF sv i) i (shF sv i (55 + i)) = shF sv (i + 1) := by
  funext k
  by_cases h : k = i
  · subst h
    rw [pk_us]
    unfold shF
    rw [if_neg (by omega), if_pos (by omega)]
  · rw [pk_un h]
    unfold shF
    by_cases h2 : k < i
    · rw [if_pos h2, if_pos (by omega)]
    · rw [if_neg h2, if_neg (by omega)]
def yS6 (sv : Nat → Int32) (z : Nat) : Nat → Int32 := if z = 6 then shF sv 275 else sv
def ySv (u sv : Nat → Int32) (z : Nat) : Nat → Int32 := cpF (55 * kM z) u (yS6 sv z) 55
/-! the model's own words for its methods -/
def yMv (u : Nat → Int32) (r : Nat) (f o : Int32) : Int32 := xAb (f - u (6 * r + 1)) + xAb (o - u (6 * r + 2))
abbrev yLo (u : Nat → Int32) (r : Nat) (f o : Int32) : Prop := (u (6 * r + 4) &&& 1 = 0 ∨ f = u (6 * r + 1)) ∧ (u (6 * r + 4) &&& 2 = 0 ∨ o = u (6 * r + 2))
abbrev yOk (u : Nat → Int32) (r : Nat) (v f : Int32) : Prop := (¬ v - 5 * f < 0 ∧ ¬ 5 < v - 5 * f) ∧ yLo u r f (v - 5 * f)
def yFs (u : Nat → Int32) (r : Nat) (v f q : Int32) : Int32 :=
  if yOk u r v f ∧ (q = -1 ∨ ¬ yMv u r q (v - 5 * q) ≤ yMv u r f (v - 5 * f)) then f else q
def yFf (u : Nat → Int32) (r : Nat) (v : Int32) : Nat → Int32 → Int32
  | 0, q => q
  | j + 1, q => yFf u r v j (yFs u r v (xFi (j + 1)) q)
def yFv (u : Nat → Int32) (r : Nat) (v : Int32) : Int32 := yFf u r v 3 (-1)
def yCo (u : Nat → Int32) (r : Nat) (v : Int32) : Nat → Int32 :=
  xPl u r (yFv u r v) (v - 5 * yFv u r v) (yMv u r (yFv u r v) (v - 5 * yFv u r v))
def yAm0 (u : Nat → Int32) : Nat → Int32
  | 0 => 0
  | n + 1 => yAm0 u n + u (6 * n + 5)
def yAm (u : Nat → Int32) : Int32 := yAm0 u 9
def yBw (u : Nat → Int32) (r : Nat) (b : Int32) : Nat → Int32 := upd (upd u (6 * r + 3) (u (6 * r + 3) + b)) (6 * r + 6) (upd u (6 * r + 3) (u (6 * r + 3) + b) (6 * r + 6) + 1)
def yCa (b : Int32) : Nat → (Nat → Int32) → Nat → Bool × (Nat → Int32)
  | 0, u, _ => (false, u)
  | k + 1, u, r =>
    if ¬ yFv u r (xSh u r + b) = -1 then (true, yCo u r (xSh u r + b)) else
    if ¬ yFv u r (xSh u r - 9 * b) = -1 then yCa b k (yCo u r (xSh u r - 9 * b)) (r + 1) else
    (if ¬ b ≤ 0 then (if ¬ yBw u r b 0 < yBw u r b (6 * r + 3) then true else false) else (if ¬ yBw u r b (6 * r + 3) < -yBw u r b 0 then true else false), yBw u r b)
def yAd (u : Nat → Int32) (r : Nat) (v : Int32) : Bool × (Nat → Int32) :=
  if v = 0 then (true, u) else
  if ¬ yFv u r (xSh u r + v) = -1 then (true, yCo u r (xSh u r + v)) else
  if ¬ yFv u r (xSh u r + v - 10 * (if ¬ v ≤ 0 then 1 else -1)) = -1 then
  yCa (if ¬ v ≤ 0 then 1 else -1) (9 - (r + 1)) (yCo u r (xSh u r + v - 10 * (if ¬ v ≤ 0 then 1 else -1))) (r + 1) else (false, u)
def yPy (u : Nat → Int32) (r : Nat) : Bool × (Nat → Int32) := ((yAd u r (u (6 * r + 3))).1, upd (yAd u r (u (6 * r + 3))).2 (6 * r + 3) 0)
def yOr (u : Nat → Int32) (r : Nat) : Bool × (Nat → Int32) :=
  if xSh u r < 10 then (false, u) else if ¬ yFv u r (xSh u r - 10) = -1 then yCa 1 (9 - (r + 1)) (yCo u r (xSh u r - 10)) (r + 1) else (false, u)
def yT0 (u : Nat → Int32) (r : Nat) (v : Int32) : Bool × (Nat → Int32) := if (yAd u r v).1 = true then (true, (yAd u r v).2) else (false, u)
def yT1 (u : Nat → Int32) (r : Nat) : Bool × (Nat → Int32) := if (yPy u r).1 = true then (true, (yPy u r).2) else (false, u)
def yT2 (u : Nat → Int32) (r : Nat) : Bool × (Nat → Int32) := if (yOr u r).1 = true then (true, (yOr u r).2) else (false, u)
abbrev rmX4_in : Room := { frames := 0, cells := 0, slots := 0, locals := 0 }
set_option maxHeartbeats 1000000 in
set_option maxRecDepth 100000 in
theorem c_X4_in (l : Launch) (D : va_G) (cI cO : ClassId) (v lo hi : Int32) : cR (fun _ => True) l yX4_in wsX4_in rmX4_in D vwCl (tyA cI cO) [.int v, .int lo, .int hi] ([] : va_W) (some (.int ((if ¬ v < lo ∧ ¬ hi < v then 1 else 0)))) ([] : va_W) := by
  refine cR_of (cc := cX4_in) (maxL := 3) (ret := (some .boolean)) (by decide) rfl (Nat.le_of_ble_eq_true rfl) ?_
  intro p e s m below meth c A C hret hlk hnm hF
  refine g_lv [0, 1, 2] (lv' := [(0, .int v), (1, .int lo), (2, .int hi)]) rfl ?_
  refine g_iload_n C dX4_in_0 0 rfl ?_
  refine g_iload_n C dX4_in_1 1 rfl ?_
  refine g_icmp_lt C (tgt := 14) dX4_in_2 (by decide) (fun h2_1 => ?_) (fun h2_1 => ?_)
  · refine g_iconst C (v := 0) dX4_in_14 ci_0 ?_
    exact g_zret C hret hlk dX4_in_15 (Or.inl rfl) (by simp only [eq_true h2_1, Bool.false_eq_true, not_false_eq_true, not_true_eq_false, and_self, and_true, true_and, and_false, false_and, or_true, true_or, or_false, false_or, or_self, if_true, if_false, eq_self, ite_true, ite_false, reduceIte]) rfl
  · refine g_iload_n C dX4_in_5 0 rfl ?_
    refine g_iload_n C dX4_in_6 2 rfl ?_
    refine g_icmp_gt C (tgt := 14) dX4_in_7 (by decide) (fun h7_2 => ?_) (fun h7_2 => ?_)
    · refine g_iconst C (v := 0) dX4_in_14 ci_0 ?_
      exact g_zret C hret hlk dX4_in_15 (Or.inl rfl) (by simp only [h2_1, eq_true h7_2, Bool.false_eq_true, not_false_eq_true, not_true_eq_false, and_self, and_true, true_and, and_false, false_and, or_true, true_or, or_false, false_or, or_self, if_true, if_false, eq_self, ite_true, ite_false, reduceIte]) rfl
    · refine g_iconst C (v := 1) dX4_in_10 ci_1 ?_
      refine g_goto C (tgt := 15) dX4_in_11 (by decide) ?_
      exact g_zret C hret hlk dX4_in_15 (Or.inr rfl) (by simp only [h2_1, h7_2, Bool.false_eq_true, not_false_eq_true, not_true_eq_false, and_self, and_true, true_and, and_false, false_and, or_true, true_or, or_false, false_or, or_self, if_true, if_false, eq_self, ite_true, ite_false, reduceIte]) rfl
abbrev rmX4_of : Room := { frames := 0, cells := 0, slots := 0, locals := 0 }
set_option maxHeartbeats 1000000 in
set_option maxRecDepth 100000 in
theorem c_X4_of (l : Launch) (D : va_G) (cI cO : ClassId) (r w k : Nat) (hk : 6 * r + w + 1 = k) : cR (fun _ => True) l yX4_of wsX4_of rmX4_of D vwCl (tyA cI cO) [.int (nI r), .int (nI w)] ([] : va_W) (some (.int (nI k))) ([] : va_W) := by
  refine cR_of (cc := cX4_of) (maxL := 2) (ret := (some .int)) (by decide) rfl (Nat.le_of_ble_eq_true rfl) ?_
  intro p e s m below meth c A C hret hlk hnm hF
  refine g_lv [0, 1] (lv' := [(0, .int (nI r)), (1, .int (nI w))]) rfl ?_
  refine g_iconst C (v := 1) dX4_of_0 ci_1 ?_
  refine g_bipush C (v := 6) dX4_of_1 cb_6 ?_
  refine g_iload_n C dX4_of_3 0 rfl ?_
  refine g_imul C (v := 6 * (nI r)) dX4_of_4 rfl ?_
  refine g_iadd C (v := 1 + (6 * (nI r))) dX4_of_5 rfl ?_
  refine g_iload_n C dX4_of_6 1 rfl ?_
  refine g_iadd C (v := (1 + (6 * (nI r))) + (nI w)) dX4_of_7 rfl ?_
  exact g_iret C hret hlk dX4_of_8 (of_nI hk) rfl
theorem hd_X4_in : yX4_in.cls ≠ "java/lang/invoke/MethodHandle" ∧ yX4_in.cls ≠ "java/lang/invoke/VarHandle" ∧ (parseMethodDescriptor yX4_in.desc).map (fun d => d.parameters.length) = some 3 := by decide +kernel
abbrev rmX4_isRod : Room := { frames := 1, cells := 0, slots := 0, locals := 22 }
set_option maxHeartbeats 1000000 in
set_option maxRecDepth 100000 in
theorem c_X4_isRod (l : Launch) (D : va_G) (cI cO : ClassId) (v : Int32) : cR (fun _ => True) l yX4_isRod wsX4_isRod rmX4_isRod D vwCl (tyA cI cO) [.int v] ([] : va_W) (some (.int ((if ¬ v < 0 ∧ ¬ 8 < v then 1 else 0)))) ([] : va_W) := by
  refine cR_of (cc := cX4_isRod) (maxL := 1) (ret := (some .boolean)) (by decide) rfl (Nat.le_of_ble_eq_true rfl) ?_
  intro p e s m below meth c A C hret hlk hnm hF
  refine g_lv [0] (lv' := [(0, .int v)]) rfl ?_
  refine g_iload_n C dX4_isRod_0 0 rfl ?_
  refine g_iconst C (v := 0) dX4_isRod_1 ci_0 ?_
  refine g_bipush C (v := 8) dX4_isRod_2 cb_8 ?_
  refine g_callSi C (c_X4_in l D cI cO v 0 8) gX4_isRod_X4_in rfl ⟨rfl, rfl⟩ hd_X4_in ⟨Nat.le_of_ble_eq_true rfl, Nat.le_of_ble_eq_true rfl⟩ [0, 1] rfl (fun _ _ => trivial) rfl (rest := []) rfl (Nat.le_of_ble_eq_true rfl) dX4_isRod_4 ⟨Nat.zero_le _, Nat.zero_le _⟩ (pre := []) (post := []) (ws' := ([] : va_W)) rfl rfl ?_
  exact g_zret C hret hlk dX4_isRod_7 b01 rfl rfl
abbrev rmX4_size : Room := { frames := 0, cells := 0, slots := 0, locals := 0 }
set_option maxHeartbeats 1000000 in
set_option maxRecDepth 100000 in
theorem c_X4_size (l : Launch) (D : va_G) (cI cO : ClassId) (v : Int32) : cR (fun _ => True) l yX4_size wsX4_size rmX4_size D vwCl (tyA cI cO) [.int v] ([] : va_W) (some (.int (xAb v))) ([] : va_W) := by
  refine cR_of (cc := cX4_size) (maxL := 1) (ret := (some .int)) (by decide) rfl (Nat.le_of_ble_eq_true rfl) ?_
  intro p e s m below meth c A C hret hlk hnm hF
  refine g_lv [0] (lv' := [(0, .int v)]) rfl ?_
  refine g_iload_n C dX4_size_0 0 rfl ?_
  refine g_if_ge C (tgt := 9) dX4_size_1 (by decide) (fun h1_1 => ?_) (fun h1_1 => ?_)
  · refine g_iload_n C dX4_size_9 0 rfl ?_
    exact g_iret C hret hlk dX4_size_10 (xAb_p h1_1) rfl
  · refine g_iload_n C dX4_size_4 0 rfl ?_
    refine g_ineg C (v := -v) dX4_size_5 rfl ?_
    refine g_goto C (tgt := 10) dX4_size_6 (by decide) ?_
    exact g_iret C hret hlk dX4_size_10 (xAb_n h1_1) rfl
theorem fw_X4_thrown_fld22 : Cond.fieldLink RX4 22 "StuckRodsModel" "thrown" "I" ∈ wsX4_thrown := (List.mem_cons_of_mem _ (List.mem_append_left _ (List.mem_of_getElem? (i := 0) rfl)))
theorem fl_X4_thrown_X4 : ∀ w ∈ wsX40, w ∈ wsX4_thrown := fun _ h => List.mem_cons_of_mem _ (List.mem_append_right _ h)
abbrev rmX4_thrown : Room := { frames := 0, cells := 0, slots := 0, locals := 0 }
set_option maxHeartbeats 1000000 in
set_option maxRecDepth 100000 in
theorem c_X4_thrown (l : Launch) (D : va_G) (cI cO : ClassId) (ma : Nat → Nat) (th : Int32) (u a9 sv : Nat → Int32) (z : Nat) (t : Nat → Int32) (n : Nat) (dg : Int64) (hn : n ≤ 60) (hz : z ≤ 6)  : cR (fun _ => True) l yX4_thrown wsX4_thrown rmX4_thrown D vwCl (tyA cI cO) [.ref (ma 0)] (wM ma cI th u a9 sv z t n dg) (some (.int th)) (wM ma cI th u a9 sv z t n dg) := by
  refine cR_of (cc := cX4_thrown) (maxL := 1) (ret := (some .int)) (by decide) rfl (Nat.le_of_ble_eq_true rfl) ?_
  intro p e s m below meth c A C hret hlk hnm hF
  refine g_lv [0] (lv' := [(0, .ref (ma 0))]) rfl ?_
  refine g_aload_n C dX4_thrown_0 0 rfl ?_
  refine g_get C (v := .int th) fl_X4_thrown_X4 0 rfl rfl 0 (by decide) fw_X4_thrown_fld22 rfl dX4_thrown_1 ?_
  exact g_iret C hret hlk dX4_thrown_4 rfl rfl
theorem fw_X4_holds_fld22 : Cond.fieldLink RX4 22 "StuckRodsModel" "thrown" "I" ∈ wsX4_holds := (List.mem_cons_of_mem _ (List.mem_append_left _ (List.mem_of_getElem? (i := 0) rfl)))
theorem fl_X4_holds_X4 : ∀ w ∈ wsX40, w ∈ wsX4_holds := fun _ h => List.mem_cons_of_mem _ (List.mem_append_right _ h)
abbrev rmX4_holds : Room := { frames := 0, cells := 0, slots := 0, locals := 0 }
set_option maxHeartbeats 1000000 in
set_option maxRecDepth 100000 in
theorem c_X4_holds (l : Launch) (D : va_G) (cI cO : ClassId) (ma : Nat → Nat) (th : Int32) (u a9 sv : Nat → Int32) (z : Nat) (t : Nat → Int32) (n : Nat) (dg : Int64) (hn : n ≤ 60) (hz : z ≤ 6) (v : Int32) : cR (fun _ => True) l yX4_holds wsX4_holds rmX4_holds D vwCl (tyA cI cO) [.ref (ma 0), .int v] (wM ma cI th u a9 sv z t n dg) (some (.int ((if v = 0 then 1 else 0)))) (wM ma cI v u a9 sv z t n dg) := by
  refine cR_of (cc := cX4_holds) (maxL := 2) (ret := (some .boolean)) (by decide) rfl (Nat.le_of_ble_eq_true rfl) ?_
  intro p e s m below meth c A C hret hlk hnm hF
  refine g_lv [0, 1] (lv' := [(0, .ref (ma 0)), (1, .int v)]) rfl ?_
  refine g_aload_n C dX4_holds_0 0 rfl ?_
  refine g_iload_n C dX4_holds_1 1 rfl ?_
  refine g_put C (ws' := (wM ma cI v u a9 sv z t n dg)) fl_X4_holds_X4 tyX4 tyX4_ok nmX4 0 rfl rfl 0 (by decide) fw_X4_holds_fld22 rfl (tyX4_ok 0 (by decide)) rfl rfl (Nat.le_of_ble_eq_true rfl) dX4_holds_2 rfl ?_
  refine g_iload_n C dX4_holds_5 1 rfl ?_
  refine g_if_ne C (tgt := 13) dX4_holds_6 (by decide) (fun h6_1 => ?_) (fun h6_1 => ?_)
  · refine g_iconst C (v := 0) dX4_holds_13 ci_0 ?_
    exact g_zret C hret hlk dX4_holds_14 (Or.inl rfl) (by simp only [h6_1, Bool.false_eq_true, not_false_eq_true, not_true_eq_false, and_self, and_true, true_and, and_false, false_and, or_true, true_or, or_false, false_or, or_self, if_true, if_false, eq_self, ite_true, ite_false, reduceIte]) rfl
  · refine g_iconst C (v := 1) dX4_holds_9 ci_1 ?_
    refine g_goto C (tgt := 14) dX4_holds_10 (by decide) ?_
    exact g_zret C hret hlk dX4_holds_14 (Or.inr rfl) (by simp only [eq_true h6_1, Bool.false_eq_true, not_false_eq_true, not_true_eq_false, and_self, and_true, true_and, and_false, false_and, or_true, true_or, or_false, false_or, or_self, if_true, if_false, eq_self, ite_true, ite_false, reduceIte]) rfl
theorem fw_X4_putAside_fld13 : Cond.fieldLink RX4 13 "StuckRodsModel" "aside" "[I" ∈ wsX4_putAside := (List.mem_cons_of_mem _ (List.mem_append_left _ (List.mem_of_getElem? (i := 0) rfl)))
theorem fl_X4_putAside_X4 : ∀ w ∈ wsX40, w ∈ wsX4_putAside := fun _ h => List.mem_cons_of_mem _ (List.mem_append_right _ h)
theorem fw_X4_putAside_fld7 : Cond.fieldLink RX4 7 "StuckRodsModel" "s" "[I" ∈ wsX4_putAside := (List.mem_cons_of_mem _ (List.mem_append_left _ (List.mem_of_getElem? (i := 1) rfl)))
abbrev rmX4_putAside : Room := { frames := 0, cells := 0, slots := 0, locals := 0 }
set_option maxHeartbeats 1000000 in
set_option maxRecDepth 100000 in
theorem c_X4_putAside (l : Launch) (D : va_G) (cI cO : ClassId) (ma : Nat → Nat) (th : Int32) (u a9 sv : Nat → Int32) (z : Nat) (t : Nat → Int32) (n : Nat) (dg : Int64) (hn : n ≤ 60) (hz : z ≤ 6)  : cR (fun _ => True) l yX4_putAside wsX4_putAside rmX4_putAside D vwCl (tyA cI cO) [.ref (ma 0)] (wM ma cI th u a9 sv z t n dg) none (wM ma cI th u u sv z t n dg) := by
  refine cR_of (cc := cX4_putAside) (maxL := 2) (ret := none) (by decide) rfl (Nat.le_of_ble_eq_true rfl) ?_
  intro p e s m below meth c A C hret hlk hnm hF
  refine g_lv [0] (lv' := [(0, .ref (ma 0))]) rfl ?_
  have K : ∀ (k i : Nat), k + i = 55 → gG p l e rmX4_putAside s m ([.ref (ma 0)] : List Value).toArray below meth c D vwCl A s.heap 2 (MQ below (cQ none (cB D vwCl (tyA cI cO) A (wM ma cI th u u sv z t n dg)) A) ([.ref (ma 0)] : List Value).toArray s 0 0 A) 0 0 (wM ma cI th u (cpF 0 u a9 i) sv z t n dg) 2 [(0, .ref (ma 0)), (1, .int (nI i))] [] := by
    intro k
    induction k with
    | zero =>
      intro i hi
      obtain rfl : i = 55 := by omega
      refine g_iload_n C dX4_putAside_2 1 rfl ?_
      refine g_bipush C (v := 55) dX4_putAside_3 cb_55 ?_
      refine g_icmp_ge C (tgt := 26) dX4_putAside_5 (by decide) (fun _ => ?_) (fun h5_1 => absurd (by decide) h5_1)
      refine g_wsE (ws' := (wM ma cI th u u sv z t n dg)) (fun H hP => wM_eq (fun j hj => rfl) (fun j hj => cpF_55 hj) hP) (wD_same rfl) ?_
      exact g_vret C hret hlk dX4_putAside_26 rfl
    | succ k ih =>
      intro i hi
      have hiN : i < 55 := by omega
      refine g_iload_n C dX4_putAside_2 1 rfl ?_
      refine g_bipush C (v := 55) dX4_putAside_3 cb_55 ?_
      refine g_icmp_ge C (tgt := 26) dX4_putAside_5 (by decide) (fun h5_2 => absurd h5_2 (geN hiN (by decide))) (fun _ => ?_)
      refine g_aload_n C dX4_putAside_8 0 rfl ?_
      refine g_get C (v := .ref (ma 2)) fl_X4_putAside_X4 0 rfl rfl 2 (by decide) fw_X4_putAside_fld13 rfl dX4_putAside_9 ?_
      refine g_iload_n C dX4_putAside_12 1 rfl ?_
      refine g_aload_n C dX4_putAside_13 0 rfl ?_
      refine g_get C (v := .ref (ma 1)) fl_X4_putAside_X4 0 rfl rfl 1 (by decide) fw_X4_putAside_fld7 rfl dX4_putAside_14 ?_
      refine g_iload_n C dX4_putAside_17 1 rfl ?_
      refine g_iald C (x := u i) 1 0 rfl rfl i rfl (by omega) (by decide) rfl dX4_putAside_18 ?_
      refine g_iast C (ws' := (wM ma cI th u (upd (cpF 0 u a9 i) i (u i)) sv z t n dg)) 2 0 rfl rfl i rfl (by omega) (by decide) dX4_putAside_19 rfl ?_
      refine g_iinc C (v := nI (i + 1)) (lv' := [(1, .int (nI (i + 1))), (0, .ref (ma 0))]) dX4_putAside_20 1 rfl (inc_nI _) (by decide) rfl ?_
      refine g_goto C (tgt := 2) dX4_putAside_23 (by decide) ?_
      refine g_lv [1, 0] (lv' := [(0, .ref (ma 0)), (1, .int (nI (i + 1)))]) rfl ?_
      refine g_ws (ws' := (wM ma cI th u (cpF 0 u a9 (i + 1)) sv z t n dg)) (by rw [cpF_0step]) ?_
      exact ih (i + 1) (by omega)
  refine g_iconst C (v := 0) dX4_putAside_0 ci_0 ?_
  refine g_istore_n C (lv' := [(1, .int 0), (0, .ref (ma 0))]) dX4_putAside_1 rfl (by decide) rfl ?_
  refine g_lv [1, 0] (lv' := [(0, .ref (ma 0)), (1, .int 0)]) rfl ?_
  refine g_ws (ws' := (wM ma cI th u (cpF 0 u a9 0) sv z t n dg)) (by rw [cpF_0]) ?_
  exact K 55 0 rfl
theorem fw_X4_putBack_fld7 : Cond.fieldLink RX4 7 "StuckRodsModel" "s" "[I" ∈ wsX4_putBack := (List.mem_cons_of_mem _ (List.mem_append_left _ (List.mem_of_getElem? (i := 0) rfl)))
theorem fl_X4_putBack_X4 : ∀ w ∈ wsX40, w ∈ wsX4_putBack := fun _ h => List.mem_cons_of_mem _ (List.mem_append_right _ h)
theorem fw_X4_putBack_fld13 : Cond.fieldLink RX4 13 "StuckRodsModel" "aside" "[I" ∈ wsX4_putBack := (List.mem_cons_of_mem _ (List.mem_append_left _ (List.mem_of_getElem? (i := 1) rfl)))
abbrev rmX4_putBack : Room := { frames := 0, cells := 0, slots := 0, locals := 0 }
set_option maxHeartbeats 1000000 in
set_option maxRecDepth 100000 in
theorem c_X4_putBack (l : Launch) (D : va_G) (cI cO : ClassId) (ma : Nat → Nat) (th : Int32) (u a9 sv : Nat → Int32) (z : Nat) (t : Nat → Int32) (n : Nat) (dg : Int64) (hn : n ≤ 60) (hz : z ≤ 6)  : cR (fun _ => True) l yX4_putBack wsX4_putBack rmX4_putBack D vwCl (tyA cI cO) [.ref (ma 0)] (wM ma cI th u a9 sv z t n dg) none (wM ma cI th a9 a9 sv z t n dg) := by
  refine cR_of (cc := cX4_putBack) (maxL := 2) (ret := none) (by decide) rfl (Nat.le_of_ble_eq_true rfl) ?_
  intro p e s m below meth c A C hret hlk hnm hF
  refine g_lv [0] (lv' := [(0, .ref (ma 0))]) rfl ?_
  have K : ∀ (k i : Nat), k + i = 55 → gG p l e rmX4_putBack s m ([.ref (ma 0)] : List Value).toArray below meth c D vwCl A s.heap 2 (MQ below (cQ none (cB D vwCl (tyA cI cO) A (wM ma cI th a9 a9 sv z t n dg)) A) ([.ref (ma 0)] : List Value).toArray s 0 0 A) 0 0 (wM ma cI th (cpF 0 a9 u i) a9 sv z t n dg) 2 [(0, .ref (ma 0)), (1, .int (nI i))] [] := by
    intro k
    induction k with
    | zero =>
      intro i hi
      obtain rfl : i = 55 := by omega
      refine g_iload_n C dX4_putBack_2 1 rfl ?_
      refine g_bipush C (v := 55) dX4_putBack_3 cb_55 ?_
      refine g_icmp_ge C (tgt := 26) dX4_putBack_5 (by decide) (fun _ => ?_) (fun h5_1 => absurd (by decide) h5_1)
      refine g_wsE (ws' := (wM ma cI th a9 a9 sv z t n dg)) (fun H hP => wM_eq (fun j hj => cpF_55 hj) (fun j hj => rfl) hP) (wD_same rfl) ?_
      exact g_vret C hret hlk dX4_putBack_26 rfl
    | succ k ih =>
      intro i hi
      have hiN : i < 55 := by omega
      refine g_iload_n C dX4_putBack_2 1 rfl ?_
      refine g_bipush C (v := 55) dX4_putBack_3 cb_55 ?_
      refine g_icmp_ge C (tgt := 26) dX4_putBack_5 (by decide) (fun h5_2 => absurd h5_2 (geN hiN (by decide))) (fun _ => ?_)
      refine g_aload_n C dX4_putBack_8 0 rfl ?_
      refine g_get C (v := .ref (ma 1)) fl_X4_putBack_X4 0 rfl rfl 1 (by decide) fw_X4_putBack_fld7 rfl dX4_putBack_9 ?_
      refine g_iload_n C dX4_putBack_12 1 rfl ?_
      refine g_aload_n C dX4_putBack_13 0 rfl ?_
      refine g_get C (v := .ref (ma 2)) fl_X4_putBack_X4 0 rfl rfl 2 (by decide) fw_X4_putBack_fld13 rfl dX4_putBack_14 ?_
      refine g_iload_n C dX4_putBack_17 1 rfl ?_
      refine g_iald C (x := a9 i) 2 0 rfl rfl i rfl (by omega) (by decide) rfl dX4_putBack_18 ?_
      refine g_iast C (ws' := (wM ma cI th (upd (cpF 0 a9 u i) i (a9 i)) a9 sv z t n dg)) 1 0 rfl rfl i rfl (by omega) (by decide) dX4_putBack_19 rfl ?_
      refine g_iinc C (v := nI (i + 1)) (lv' := [(1, .int (nI (i + 1))), (0, .ref (ma 0))]) dX4_putBack_20 1 rfl (inc_nI _) (by decide) rfl ?_
      refine g_goto C (tgt := 2) dX4_putBack_23 (by decide) ?_
      refine g_lv [1, 0] (lv' := [(0, .ref (ma 0)), (1, .int (nI (i + 1)))]) rfl ?_
      refine g_ws (ws' := (wM ma cI th (cpF 0 a9 u (i + 1)) a9 sv z t n dg)) (by rw [cpF_0step]) ?_
      exact ih (i + 1) (by omega)
  refine g_iconst C (v := 0) dX4_putBack_0 ci_0 ?_
  refine g_istore_n C (lv' := [(1, .int 0), (0, .ref (ma 0))]) dX4_putBack_1 rfl (by decide) rfl ?_
  refine g_lv [1, 0] (lv' := [(0, .ref (ma 0)), (1, .int 0)]) rfl ?_
  refine g_ws (ws' := (wM ma cI th (cpF 0 a9 u 0) a9 sv z t n dg)) (by rw [cpF_0]) ?_
  exact K 55 0 rfl
theorem fw_X4_save_fld30 : Cond.fieldLink RX4 30 "StuckRodsModel" "savedMany" "I" ∈ wsX4_save := (List.mem_cons_of_mem _ (List.mem_append_left _ (List.mem_of_getElem? (i := 0) rfl)))
theorem fl_X4_save_X4 : ∀ w ∈ wsX40, w ∈ wsX4_save := fun _ h => List.mem_cons_of_mem _ (List.mem_append_right _ h)
theorem fw_X4_save_fld16 : Cond.fieldLink RX4 16 "StuckRodsModel" "saved" "[I" ∈ wsX4_save := (List.mem_cons_of_mem _ (List.mem_append_left _ (List.mem_of_getElem? (i := 1) rfl)))
theorem fw_X4_save_fld7 : Cond.fieldLink RX4 7 "StuckRodsModel" "s" "[I" ∈ wsX4_save := (List.mem_cons_of_mem _ (List.mem_append_left _ (List.mem_of_getElem? (i := 2) rfl)))
abbrev rmX4_save : Room := { frames := 0, cells := 0, slots := 0, locals := 0 }
set_option maxHeartbeats 1000000 in
set_option maxRecDepth 100000 in
theorem c_X4_save (l : Launch) (D : va_G) (cI cO : ClassId) (ma : Nat → Nat) (th : Int32) (u a9 sv : Nat → Int32) (z : Nat) (t : Nat → Int32) (n : Nat) (dg : Int64) (hn : n ≤ 60) (hz : z ≤ 6)  : cR (fun _ => True) l yX4_save wsX4_save rmX4_save D vwCl (tyA cI cO) [.ref (ma 0)] (wM ma cI th u a9 sv z t n dg) none (wM ma cI th u a9 (ySv u sv z) (kM z + 1) t n dg) := by
  refine cR_of (cc := cX4_save) (maxL := 2) (ret := none) (by decide) rfl (Nat.le_of_ble_eq_true rfl) ?_
  intro p e s m below meth c A C hret hlk hnm hF
  refine g_lv [0] (lv' := [(0, .ref (ma 0))]) rfl ?_
  have K2 : ∀ (k i : Nat), k + i = 55 → gG p l e rmX4_save s m ([.ref (ma 0)] : List Value).toArray below meth c D vwCl A s.heap 2 (MQ below (cQ none (cB D vwCl (tyA cI cO) A (wM ma cI th u a9 (ySv u sv z) (kM z + 1) t n dg)) A) ([.ref (ma 0)] : List Value).toArray s 0 0 A) 0 0 (wM ma cI th u a9 (cpF (55 * kM z) u (yS6 sv z) i) (kM z) t n dg) 51 [(0, .ref (ma 0)), (1, .int (nI i))] [] := by
    intro k
    induction k with
    | zero =>
      intro i hi
      obtain rfl : i = 55 := by omega
      refine g_iload_n C dX4_save_51 1 rfl ?_
      refine g_bipush C (v := 55) dX4_save_52 cb_55 ?_
      refine g_icmp_ge C (tgt := 83) dX4_save_54 (by decide) (fun _ => ?_) (fun h54_1 => absurd (by decide) h54_1)
      refine g_aload_n C dX4_save_83 0 rfl ?_
      refine g_dup C dX4_save_84 rfl ?_
      refine g_get C (v := .int (nI (kM z))) fl_X4_save_X4 0 rfl rfl 4 (by decide) fw_X4_save_fld30 rfl dX4_save_85 ?_
      refine g_iconst C (v := 1) dX4_save_88 ci_1 ?_
      refine g_iadd C (v := nI ((kM z) + 1)) dX4_save_89 (nI_1 _) ?_
      refine g_put C (ws' := (wM ma cI th u a9 (cpF (55 * kM z) u (yS6 sv z) 55) ((kM z) + 1) t n dg)) fl_X4_save_X4 tyX4 tyX4_ok nmX4 0 rfl rfl 4 (by decide) fw_X4_save_fld30 rfl (tyX4_ok 4 (by decide)) rfl rfl (Nat.le_of_ble_eq_true rfl) dX4_save_90 rfl ?_
      exact g_vret C hret hlk dX4_save_93 rfl
    | succ k ih =>
      intro i hi
      have hiN : i < 55 := by omega
      refine g_iload_n C dX4_save_51 1 rfl ?_
      refine g_bipush C (v := 55) dX4_save_52 cb_55 ?_
      refine g_icmp_ge C (tgt := 83) dX4_save_54 (by decide) (fun h54_2 => absurd h54_2 (geN hiN (by decide))) (fun _ => ?_)
      refine g_aload_n C dX4_save_57 0 rfl ?_
      refine g_get C (v := .ref (ma 3)) fl_X4_save_X4 0 rfl rfl 3 (by decide) fw_X4_save_fld16 rfl dX4_save_58 ?_
      refine g_bipush C (v := 55) dX4_save_61 cb_55 ?_
      refine g_aload_n C dX4_save_63 0 rfl ?_
      refine g_get C (v := .int (nI (kM z))) fl_X4_save_X4 0 rfl rfl 4 (by decide) fw_X4_save_fld30 rfl dX4_save_64 ?_
      refine g_imul C (v := nI (55 * (kM z))) dX4_save_67 (pk_mul 55 _) ?_
      refine g_iload_n C dX4_save_68 1 rfl ?_
      refine g_iadd C (v := nI (55 * (kM z) + i)) dX4_save_69 (nI_add _ _) ?_
      refine g_aload_n C dX4_save_70 0 rfl ?_
      refine g_get C (v := .ref (ma 1)) fl_X4_save_X4 0 rfl rfl 1 (by decide) fw_X4_save_fld7 rfl dX4_save_71 ?_
      refine g_iload_n C dX4_save_74 1 rfl ?_
      refine g_iald C (x := u i) 1 0 rfl rfl i rfl (by omega) (by decide) rfl dX4_save_75 ?_
      refine g_iast C (ws' := (wM ma cI th u a9 (upd (cpF (55 * kM z) u (yS6 sv z) i) (55 * kM z + i) (u i)) (kM z) t n dg)) 3 0 rfl rfl (55 * kM z + i) rfl (by have := kM_lt hz; omega) (by decide) dX4_save_76 rfl ?_
      refine g_iinc C (v := nI (i + 1)) (lv' := [(1, .int (nI (i + 1))), (0, .ref (ma 0))]) dX4_save_77 1 rfl (inc_nI _) (by decide) rfl ?_
      refine g_goto C (tgt := 51) dX4_save_80 (by decide) ?_
      refine g_lv [1, 0] (lv' := [(0, .ref (ma 0)), (1, .int (nI (i + 1)))]) rfl ?_
      refine g_ws (ws' := (wM ma cI th u a9 (cpF (55 * kM z) u (yS6 sv z) (i + 1)) (kM z) t n dg)) (by rw [cpF_step]) ?_
      exact ih (i + 1) (by omega)
  by_cases h6 : z = 6
  · have K1 : ∀ (k i : Nat), k + i = 275 → gG p l e rmX4_save s m ([.ref (ma 0)] : List Value).toArray below meth c D vwCl A s.heap 2 (MQ below (cQ none (cB D vwCl (tyA cI cO) A (wM ma cI th u a9 (ySv u sv z) (kM z + 1) t n dg)) A) ([.ref (ma 0)] : List Value).toArray s 0 0 A) 0 0 (wM ma cI th u a9 (shF sv i) z t n dg) 11 [(0, .ref (ma 0)), (1, .int (nI i))] [] := by
      intro k
      induction k with
      | zero =>
        intro i hi
        obtain rfl : i = 275 := by omega
        refine g_iload_n C dX4_save_11 1 rfl ?_
        refine g_sipush C (v := 275) dX4_save_12 cs_275 ?_
        refine g_icmp_ge C (tgt := 39) dX4_save_15 (by decide) (fun _ => ?_) (fun h15_3 => absurd (by decide) h15_3)
        refine g_aload_n C dX4_save_39 0 rfl ?_
        refine g_dup C dX4_save_40 rfl ?_
        refine g_get C (v := .int (nI z)) fl_X4_save_X4 0 rfl rfl 4 (by decide) fw_X4_save_fld30 rfl dX4_save_41 ?_
        refine g_iconst C (v := 1) dX4_save_44 ci_1 ?_
        refine g_isub C (v := nI (z - 1)) dX4_save_45 (pk_sub (b := 1) (by omega)) ?_
        refine g_put C (ws' := (wM ma cI th u a9 (shF sv 275) (z - 1) t n dg)) fl_X4_save_X4 tyX4 tyX4_ok nmX4 0 rfl rfl 4 (by decide) fw_X4_save_fld30 rfl (tyX4_ok 4 (by decide)) rfl rfl (Nat.le_of_ble_eq_true rfl) dX4_save_46 rfl ?_
        refine g_iconst C (v := 0) dX4_save_49 ci_0 ?_
        refine g_istore_n C (lv' := [(1, .int 0), (0, .ref (ma 0))]) dX4_save_50 rfl (by decide) rfl ?_
        refine g_lv [1, 0] (lv' := [(0, .ref (ma 0)), (1, .int 0)]) rfl ?_
        refine g_ws (ws' := (wM ma cI th u a9 (cpF (55 * kM z) u (yS6 sv z) 0) (kM z) t n dg)) (by simp only [cpF_0, yS6, kM, Nat.reduceSub, h6, Bool.false_eq_true, not_false_eq_true, not_true_eq_false, and_self, and_true, true_and, and_false, false_and, or_true, true_or, or_false, false_or, or_self, if_true, if_false, eq_self, ite_true, ite_false, reduceIte]) ?_
        exact K2 55 0 rfl
      | succ k ih =>
        intro i hi
        have hiN : i < 275 := by omega
        refine g_iload_n C dX4_save_11 1 rfl ?_
        refine g_sipush C (v := 275) dX4_save_12 cs_275 ?_
        refine g_icmp_ge C (tgt := 39) dX4_save_15 (by decide) (fun h15_4 => absurd h15_4 (geN hiN (by decide))) (fun _ => ?_)
        refine g_aload_n C dX4_save_18 0 rfl ?_
        refine g_get C (v := .ref (ma 3)) fl_X4_save_X4 0 rfl rfl 3 (by decide) fw_X4_save_fld16 rfl dX4_save_19 ?_
        refine g_iload_n C dX4_save_22 1 rfl ?_
        refine g_aload_n C dX4_save_23 0 rfl ?_
        refine g_get C (v := .ref (ma 3)) fl_X4_save_X4 0 rfl rfl 3 (by decide) fw_X4_save_fld16 rfl dX4_save_24 ?_
        refine g_bipush C (v := 55) dX4_save_27 cb_55 ?_
        refine g_iload_n C dX4_save_29 1 rfl ?_
        refine g_iadd C (v := nI (55 + i)) dX4_save_30 (nI_add 55 _) ?_
        refine g_iald C (x := (shF sv i) (55 + i)) 3 0 rfl rfl (55 + i) rfl (by omega) (by decide) rfl dX4_save_31 ?_
        refine g_iast C (ws' := (wM ma cI th u a9 (upd (shF sv i) i ((shF sv i) (55 + i))) z t n dg)) 3 0 rfl rfl i rfl (by omega) (by decide) dX4_save_32 rfl ?_
        refine g_iinc C (v := nI (i + 1)) (lv' := [(1, .int (nI (i + 1))), (0, .ref (ma 0))]) dX4_save_33 1 rfl (inc_nI _) (by decide) rfl ?_
        refine g_goto C (tgt := 11) dX4_save_36 (by decide) ?_
        refine g_lv [1, 0] (lv' := [(0, .ref (ma 0)), (1, .int (nI (i + 1)))]) rfl ?_
        refine g_ws (ws' := (wM ma cI th u a9 (shF sv (i + 1)) z t n dg)) (by rw [shF_step]) ?_
        exact ih (i + 1) (by omega)
    refine g_aload_n C dX4_save_0 0 rfl ?_
    refine g_get C (v := .int (nI z)) fl_X4_save_X4 0 rfl rfl 4 (by decide) fw_X4_save_fld30 rfl dX4_save_1 ?_
    refine g_bipush C (v := 6) dX4_save_4 cb_6 ?_
    refine g_icmp_ne C (tgt := 49) dX4_save_6 (by decide) (fun h6_5 => absurd (by rw [h6]; rfl) h6_5) (fun _ => ?_)
    refine g_iconst C (v := 0) dX4_save_9 ci_0 ?_
    refine g_istore_n C (lv' := [(1, .int 0), (0, .ref (ma 0))]) dX4_save_10 rfl (by decide) rfl ?_
    refine g_lv [1, 0] (lv' := [(0, .ref (ma 0)), (1, .int 0)]) rfl ?_
    refine g_ws (ws' := (wM ma cI th u a9 (shF sv 0) z t n dg)) (by rw [shF_0]) ?_
    exact K1 275 0 rfl
  · refine g_aload_n C dX4_save_0 0 rfl ?_
    refine g_get C (v := .int (nI z)) fl_X4_save_X4 0 rfl rfl 4 (by decide) fw_X4_save_fld30 rfl dX4_save_1 ?_
    refine g_bipush C (v := 6) dX4_save_4 cb_6 ?_
    refine g_icmp_ne C (tgt := 49) dX4_save_6 (by decide) (fun _ => ?_) (fun h6_6 => absurd h6_6 (fun q => h6 (is6 hz q)))
    refine g_iconst C (v := 0) dX4_save_49 ci_0 ?_
    refine g_istore_n C (lv' := [(1, .int 0), (0, .ref (ma 0))]) dX4_save_50 rfl (by decide) rfl ?_
    refine g_lv [1, 0] (lv' := [(0, .ref (ma 0)), (1, .int 0)]) rfl ?_
    refine g_ws (ws' := (wM ma cI th u a9 (cpF (55 * kM z) u (yS6 sv z) 0) (kM z) t n dg)) (by simp only [cpF_0, yS6, kM, Nat.reduceSub, h6, Bool.false_eq_true, not_false_eq_true, not_true_eq_false, and_self, and_true, true_and, and_false, false_and, or_true, true_or, or_false, false_or, or_self, if_true, if_false, eq_self, ite_true, ite_false, reduceIte]) ?_
    exact K2 55 0 rfl
theorem fw_X4_shows_fld7 : Cond.fieldLink RX4 7 "StuckRodsModel" "s" "[I" ∈ wsX4_shows := (List.mem_cons_of_mem _ (List.mem_append_left _ (List.mem_of_getElem? (i := 0) rfl)))
theorem fl_X4_shows_X4 : ∀ w ∈ wsX40, w ∈ wsX4_shows := fun _ h => List.mem_cons_of_mem _ (List.mem_append_right _ h)
theorem hd_X4_of : yX4_of.cls ≠ "java/lang/invoke/MethodHandle" ∧ yX4_of.cls ≠ "java/lang/invoke/VarHandle" ∧ (parseMethodDescriptor yX4_of.desc).map (fun d => d.parameters.length) = some 2 := by decide +kernel
abbrev rmX4_shows : Room := { frames := 1, cells := 0, slots := 0, locals := 21 }
set_option maxHeartbeats 1000000 in
set_option maxRecDepth 100000 in
theorem c_X4_shows (l : Launch) (D : va_G) (cI cO : ClassId) (ma : Nat → Nat) (th : Int32) (u a9 sv : Nat → Int32) (z : Nat) (t : Nat → Int32) (n : Nat) (dg : Int64) (hn : n ≤ 60) (hz : z ≤ 6) (r : Nat) (hr : r < 9) : cR (fun _ => True) l yX4_shows wsX4_shows rmX4_shows D vwCl (tyA cI cO) [.ref (ma 0), .int (nI r)] (wM ma cI th u a9 sv z t n dg) (some (.int (xSh u r))) (wM ma cI th u a9 sv z t n dg) := by
  refine cR_of (cc := cX4_shows) (maxL := 2) (ret := (some .int)) (by decide) rfl (Nat.le_of_ble_eq_true rfl) ?_
  intro p e s m below meth c A C hret hlk hnm hF
  refine g_lv [0, 1] (lv' := [(0, .ref (ma 0)), (1, .int (nI r))]) rfl ?_
  refine g_iconst C (v := 5) dX4_shows_0 ci_5 ?_
  refine g_aload_n C dX4_shows_1 0 rfl ?_
  refine g_get C (v := .ref (ma 1)) fl_X4_shows_X4 0 rfl rfl 1 (by decide) fw_X4_shows_fld7 rfl dX4_shows_2 ?_
  refine g_iload_n C dX4_shows_5 1 rfl ?_
  refine g_iconst C (v := 0) dX4_shows_6 ci_0 ?_
  refine g_callSi C (c_X4_of l D cI cO r 0 (6 * r + 1) rfl) gX4_shows_X4_of rfl ⟨rfl, rfl⟩ hd_X4_of ⟨Nat.le_of_ble_eq_true rfl, Nat.le_of_ble_eq_true rfl⟩ [0, 1] rfl (fun _ _ => trivial) rfl (rest := [.ref (ma 1), .int 5]) rfl (Nat.le_of_ble_eq_true rfl) dX4_shows_7 ⟨Nat.zero_le _, Nat.zero_le _⟩ (pre := []) (post := (wM ma cI th u a9 sv z t n dg)) (ws' := (wM ma cI th u a9 sv z t n dg)) rfl rfl ?_
  refine g_iald C (x := u (6 * r + 1)) 1 0 rfl rfl (6 * r + 1) rfl (by omega) (by decide) rfl dX4_shows_10 ?_
  refine g_imul C (v := 5 * (u (6 * r + 1))) dX4_shows_11 rfl ?_
  refine g_aload_n C dX4_shows_12 0 rfl ?_
  refine g_get C (v := .ref (ma 1)) fl_X4_shows_X4 0 rfl rfl 1 (by decide) fw_X4_shows_fld7 rfl dX4_shows_13 ?_
  refine g_iload_n C dX4_shows_16 1 rfl ?_
  refine g_iconst C (v := 1) dX4_shows_17 ci_1 ?_
  refine g_callSi C (c_X4_of l D cI cO r 1 (6 * r + 2) rfl) gX4_shows_X4_of rfl ⟨rfl, rfl⟩ hd_X4_of ⟨Nat.le_of_ble_eq_true rfl, Nat.le_of_ble_eq_true rfl⟩ [0, 1] rfl (fun _ _ => trivial) rfl (rest := [.ref (ma 1), .int (5 * (u (6 * r + 1)))]) rfl (Nat.le_of_ble_eq_true rfl) dX4_shows_18 ⟨Nat.zero_le _, Nat.zero_le _⟩ (pre := []) (post := (wM ma cI th u a9 sv z t n dg)) (ws' := (wM ma cI th u a9 sv z t n dg)) rfl rfl ?_
  refine g_iald C (x := u (6 * r + 2)) 1 0 rfl rfl (6 * r + 2) rfl (by omega) (by decide) rfl dX4_shows_21 ?_
  refine g_iadd C (v := (5 * (u (6 * r + 1))) + (u (6 * r + 2))) dX4_shows_22 rfl ?_
  exact g_iret C hret hlk dX4_shows_23 rfl rfl
theorem fw_X4_movesTo_fld7 : Cond.fieldLink RX4 7 "StuckRodsModel" "s" "[I" ∈ wsX4_movesTo := (List.mem_cons_of_mem _ (List.mem_append_left _ (List.mem_of_getElem? (i := 0) rfl)))
theorem fl_X4_movesTo_X4 : ∀ w ∈ wsX40, w ∈ wsX4_movesTo := fun _ h => List.mem_cons_of_mem _ (List.mem_append_right _ h)
theorem hd_X4_size : yX4_size.cls ≠ "java/lang/invoke/MethodHandle" ∧ yX4_size.cls ≠ "java/lang/invoke/VarHandle" ∧ (parseMethodDescriptor yX4_size.desc).map (fun d => d.parameters.length) = some 1 := by decide +kernel
abbrev rmX4_movesTo : Room := { frames := 1, cells := 0, slots := 0, locals := 21 }
set_option maxHeartbeats 1000000 in
set_option maxRecDepth 100000 in
theorem c_X4_movesTo (l : Launch) (D : va_G) (cI cO : ClassId) (ma : Nat → Nat) (th : Int32) (u a9 sv : Nat → Int32) (z : Nat) (t : Nat → Int32) (n : Nat) (dg : Int64) (hn : n ≤ 60) (hz : z ≤ 6) (r : Nat) (hr : r < 9) (f q9 : Int32) : cR (fun _ => True) l yX4_movesTo wsX4_movesTo rmX4_movesTo D vwCl (tyA cI cO) [.ref (ma 0), .int (nI r), .int f, .int q9] (wM ma cI th u a9 sv z t n dg) (some (.int (yMv u r f q9))) (wM ma cI th u a9 sv z t n dg) := by
  refine cR_of (cc := cX4_movesTo) (maxL := 4) (ret := (some .int)) (by decide) rfl (Nat.le_of_ble_eq_true rfl) ?_
  intro p e s m below meth c A C hret hlk hnm hF
  refine g_lv [0, 1, 2, 3] (lv' := [(0, .ref (ma 0)), (1, .int (nI r)), (2, .int f), (3, .int q9)]) rfl ?_
  refine g_iload_n C dX4_movesTo_0 2 rfl ?_
  refine g_aload_n C dX4_movesTo_1 0 rfl ?_
  refine g_get C (v := .ref (ma 1)) fl_X4_movesTo_X4 0 rfl rfl 1 (by decide) fw_X4_movesTo_fld7 rfl dX4_movesTo_2 ?_
  refine g_iload_n C dX4_movesTo_5 1 rfl ?_
  refine g_iconst C (v := 0) dX4_movesTo_6 ci_0 ?_
  refine g_callSi C (c_X4_of l D cI cO r 0 (6 * r + 1) rfl) gX4_movesTo_X4_of rfl ⟨rfl, rfl⟩ hd_X4_of ⟨Nat.le_of_ble_eq_true rfl, Nat.le_of_ble_eq_true rfl⟩ [0, 1] rfl (fun _ _ => trivial) rfl (rest := [.ref (ma 1), .int f]) rfl (Nat.le_of_ble_eq_true rfl) dX4_movesTo_7 ⟨Nat.zero_le _, Nat.zero_le _⟩ (pre := []) (post := (wM ma cI th u a9 sv z t n dg)) (ws' := (wM ma cI th u a9 sv z t n dg)) rfl rfl ?_
  refine g_iald C (x := u (6 * r + 1)) 1 0 rfl rfl (6 * r + 1) rfl (by omega) (by decide) rfl dX4_movesTo_10 ?_
  refine g_isub C (v := f - (u (6 * r + 1))) dX4_movesTo_11 rfl ?_
  refine g_callSi C (c_X4_size l D cI cO (f - (u (6 * r + 1)))) gX4_movesTo_X4_size rfl ⟨rfl, rfl⟩ hd_X4_size ⟨Nat.le_of_ble_eq_true rfl, Nat.le_of_ble_eq_true rfl⟩ [0, 1] rfl (fun _ _ => trivial) rfl (rest := []) rfl (Nat.le_of_ble_eq_true rfl) dX4_movesTo_12 ⟨Nat.zero_le _, Nat.zero_le _⟩ (pre := []) (post := (wM ma cI th u a9 sv z t n dg)) (ws' := (wM ma cI th u a9 sv z t n dg)) rfl rfl ?_
  refine g_iload_n C dX4_movesTo_15 3 rfl ?_
  refine g_aload_n C dX4_movesTo_16 0 rfl ?_
  refine g_get C (v := .ref (ma 1)) fl_X4_movesTo_X4 0 rfl rfl 1 (by decide) fw_X4_movesTo_fld7 rfl dX4_movesTo_17 ?_
  refine g_iload_n C dX4_movesTo_20 1 rfl ?_
  refine g_iconst C (v := 1) dX4_movesTo_21 ci_1 ?_
  refine g_callSi C (c_X4_of l D cI cO r 1 (6 * r + 2) rfl) gX4_movesTo_X4_of rfl ⟨rfl, rfl⟩ hd_X4_of ⟨Nat.le_of_ble_eq_true rfl, Nat.le_of_ble_eq_true rfl⟩ [0, 1] rfl (fun _ _ => trivial) rfl (rest := [.ref (ma 1), .int q9, .int (xAb (f - (u (6 * r + 1))))]) rfl (Nat.le_of_ble_eq_true rfl) dX4_movesTo_22 ⟨Nat.zero_le _, Nat.zero_le _⟩ (pre := []) (post := (wM ma cI th u a9 sv z t n dg)) (ws' := (wM ma cI th u a9 sv z t n dg)) rfl rfl ?_
  refine g_iald C (x := u (6 * r + 2)) 1 0 rfl rfl (6 * r + 2) rfl (by omega) (by decide) rfl dX4_movesTo_25 ?_
  refine g_isub C (v := q9 - (u (6 * r + 2))) dX4_movesTo_26 rfl ?_
  refine g_callSi C (c_X4_size l D cI cO (q9 - (u (6 * r + 2)))) gX4_movesTo_X4_size rfl ⟨rfl, rfl⟩ hd_X4_size ⟨Nat.le_of_ble_eq_true rfl, Nat.le_of_ble_eq_true rfl⟩ [0, 1] rfl (fun _ _ => trivial) rfl (rest := [.int (xAb (f - (u (6 * r + 1))))]) rfl (Nat.le_of_ble_eq_true rfl) dX4_movesTo_27 ⟨Nat.zero_le _, Nat.zero_le _⟩ (pre := []) (post := (wM ma cI th u a9 sv z t n dg)) (ws' := (wM ma cI th u a9 sv z t n dg)) rfl rfl ?_
  refine g_iadd C (v := (xAb (f - (u (6 * r + 1)))) + (xAb (q9 - (u (6 * r + 2))))) dX4_movesTo_30 rfl ?_
  exact g_iret C hret hlk dX4_movesTo_31 rfl rfl
theorem fw_X4_isLoose_fld7 : Cond.fieldLink RX4 7 "StuckRodsModel" "s" "[I" ∈ wsX4_isLoose := (List.mem_cons_of_mem _ (List.mem_append_left _ (List.mem_of_getElem? (i := 0) rfl)))
theorem fl_X4_isLoose_X4 : ∀ w ∈ wsX40, w ∈ wsX4_isLoose := fun _ h => List.mem_cons_of_mem _ (List.mem_append_right _ h)
abbrev rmX4_isLoose : Room := { frames := 1, cells := 0, slots := 0, locals := 21 }
set_option maxHeartbeats 1000000 in
set_option maxRecDepth 100000 in
theorem c_X4_isLoose (l : Launch) (D : va_G) (cI cO : ClassId) (ma : Nat → Nat) (th : Int32) (u a9 sv : Nat → Int32) (z : Nat) (t : Nat → Int32) (n : Nat) (dg : Int64) (hn : n ≤ 60) (hz : z ≤ 6) (r : Nat) (hr : r < 9) (f q9 : Int32) : cR (fun _ => True) l yX4_isLoose wsX4_isLoose rmX4_isLoose D vwCl (tyA cI cO) [.ref (ma 0), .int (nI r), .int f, .int q9] (wM ma cI th u a9 sv z t n dg) (some (.int ((if yLo u r f q9 then 1 else 0)))) (wM ma cI th u a9 sv z t n dg) := by
  refine cR_of (cc := cX4_isLoose) (maxL := 5) (ret := (some .boolean)) (by decide) rfl (Nat.le_of_ble_eq_true rfl) ?_
  intro p e s m below meth c A C hret hlk hnm hF
  refine g_lv [0, 1, 2, 3] (lv' := [(0, .ref (ma 0)), (1, .int (nI r)), (2, .int f), (3, .int q9)]) rfl ?_
  refine g_aload_n C dX4_isLoose_0 0 rfl ?_
  refine g_get C (v := .ref (ma 1)) fl_X4_isLoose_X4 0 rfl rfl 1 (by decide) fw_X4_isLoose_fld7 rfl dX4_isLoose_1 ?_
  refine g_iload_n C dX4_isLoose_4 1 rfl ?_
  refine g_iconst C (v := 3) dX4_isLoose_5 ci_3 ?_
  refine g_callSi C (c_X4_of l D cI cO r 3 (6 * r + 4) rfl) gX4_isLoose_X4_of rfl ⟨rfl, rfl⟩ hd_X4_of ⟨Nat.le_of_ble_eq_true rfl, Nat.le_of_ble_eq_true rfl⟩ [0, 1] rfl (fun _ _ => trivial) rfl (rest := [.ref (ma 1)]) rfl (Nat.le_of_ble_eq_true rfl) dX4_isLoose_6 ⟨Nat.zero_le _, Nat.zero_le _⟩ (pre := []) (post := (wM ma cI th u a9 sv z t n dg)) (ws' := (wM ma cI th u a9 sv z t n dg)) rfl rfl ?_
  refine g_iald C (x := u (6 * r + 4)) 1 0 rfl rfl (6 * r + 4) rfl (by omega) (by decide) rfl dX4_isLoose_9 ?_
  refine g_istore C (lv' := [(4, .int (u (6 * r + 4))), (0, .ref (ma 0)), (1, .int (nI r)), (2, .int f), (3, .int q9)]) dX4_isLoose_10 (by decide) rfl ?_
  refine g_iload C dX4_isLoose_12 0 rfl ?_
  refine g_iconst C (v := 1) dX4_isLoose_14 ci_1 ?_
  refine g_iand C (v := (u (6 * r + 4)) &&& 1) dX4_isLoose_15 rfl ?_
  refine g_if_eq C (tgt := 33) dX4_isLoose_16 (by decide) (fun h16_1 => ?_) (fun h16_1 => ?_)
  · refine g_iload C dX4_isLoose_33 0 rfl ?_
    refine g_iconst C (v := 2) dX4_isLoose_35 ci_2 ?_
    refine g_iand C (v := (u (6 * r + 4)) &&& 2) dX4_isLoose_36 rfl ?_
    refine g_if_eq C (tgt := 54) dX4_isLoose_37 (by decide) (fun h37_2 => ?_) (fun h37_2 => ?_)
    · refine g_iconst C (v := 1) dX4_isLoose_54 ci_1 ?_
      refine g_goto C (tgt := 59) dX4_isLoose_55 (by decide) ?_
      exact g_zret C hret hlk dX4_isLoose_59 (Or.inr rfl) (by simp only [yLo, eq_true h16_1, eq_true h37_2, Bool.false_eq_true, not_false_eq_true, not_true_eq_false, and_self, and_true, true_and, and_false, false_and, or_true, true_or, or_false, false_or, or_self, if_true, if_false, eq_self, ite_true, ite_false, reduceIte]) rfl
    · refine g_iload_n C dX4_isLoose_40 4 rfl ?_
      refine g_aload_n C dX4_isLoose_41 1 rfl ?_
      refine g_get C (v := .ref (ma 1)) fl_X4_isLoose_X4 0 rfl rfl 1 (by decide) fw_X4_isLoose_fld7 rfl dX4_isLoose_42 ?_
      refine g_iload_n C dX4_isLoose_45 2 rfl ?_
      refine g_iconst C (v := 1) dX4_isLoose_46 ci_1 ?_
      refine g_callSi C (c_X4_of l D cI cO r 1 (6 * r + 2) rfl) gX4_isLoose_X4_of rfl ⟨rfl, rfl⟩ hd_X4_of ⟨Nat.le_of_ble_eq_true rfl, Nat.le_of_ble_eq_true rfl⟩ [0, 1] rfl (fun _ _ => trivial) rfl (rest := [.ref (ma 1), .int q9]) rfl (Nat.le_of_ble_eq_true rfl) dX4_isLoose_47 ⟨Nat.zero_le _, Nat.zero_le _⟩ (pre := []) (post := (wM ma cI th u a9 sv z t n dg)) (ws' := (wM ma cI th u a9 sv z t n dg)) rfl rfl ?_
      refine g_iald C (x := u (6 * r + 2)) 1 0 rfl rfl (6 * r + 2) rfl (by omega) (by decide) rfl dX4_isLoose_50 ?_
      refine g_icmp_ne C (tgt := 58) dX4_isLoose_51 (by decide) (fun h51_3 => ?_) (fun h51_3 => ?_)
      · refine g_iconst C (v := 0) dX4_isLoose_58 ci_0 ?_
        exact g_zret C hret hlk dX4_isLoose_59 (Or.inl rfl) (by simp only [yLo, eq_true h16_1, h37_2, h51_3, Bool.false_eq_true, not_false_eq_true, not_true_eq_false, and_self, and_true, true_and, and_false, false_and, or_true, true_or, or_false, false_or, or_self, if_true, if_false, eq_self, ite_true, ite_false, reduceIte]) rfl
      · refine g_iconst C (v := 1) dX4_isLoose_54 ci_1 ?_
        refine g_goto C (tgt := 59) dX4_isLoose_55 (by decide) ?_
        exact g_zret C hret hlk dX4_isLoose_59 (Or.inr rfl) (by simp only [yLo, eq_true h16_1, h37_2, eq_true h51_3, Bool.false_eq_true, not_false_eq_true, not_true_eq_false, and_self, and_true, true_and, and_false, false_and, or_true, true_or, or_false, false_or, or_self, if_true, if_false, eq_self, ite_true, ite_false, reduceIte]) rfl
  · refine g_iload_n C dX4_isLoose_19 3 rfl ?_
    refine g_aload_n C dX4_isLoose_20 1 rfl ?_
    refine g_get C (v := .ref (ma 1)) fl_X4_isLoose_X4 0 rfl rfl 1 (by decide) fw_X4_isLoose_fld7 rfl dX4_isLoose_21 ?_
    refine g_iload_n C dX4_isLoose_24 2 rfl ?_
    refine g_iconst C (v := 0) dX4_isLoose_25 ci_0 ?_
    refine g_callSi C (c_X4_of l D cI cO r 0 (6 * r + 1) rfl) gX4_isLoose_X4_of rfl ⟨rfl, rfl⟩ hd_X4_of ⟨Nat.le_of_ble_eq_true rfl, Nat.le_of_ble_eq_true rfl⟩ [0, 1] rfl (fun _ _ => trivial) rfl (rest := [.ref (ma 1), .int f]) rfl (Nat.le_of_ble_eq_true rfl) dX4_isLoose_26 ⟨Nat.zero_le _, Nat.zero_le _⟩ (pre := []) (post := (wM ma cI th u a9 sv z t n dg)) (ws' := (wM ma cI th u a9 sv z t n dg)) rfl rfl ?_
    refine g_iald C (x := u (6 * r + 1)) 1 0 rfl rfl (6 * r + 1) rfl (by omega) (by decide) rfl dX4_isLoose_29 ?_
    refine g_icmp_ne C (tgt := 58) dX4_isLoose_30 (by decide) (fun h30_4 => ?_) (fun h30_4 => ?_)
    · refine g_iconst C (v := 0) dX4_isLoose_58 ci_0 ?_
      exact g_zret C hret hlk dX4_isLoose_59 (Or.inl rfl) (by simp only [yLo, h16_1, h30_4, Bool.false_eq_true, not_false_eq_true, not_true_eq_false, and_self, and_true, true_and, and_false, false_and, or_true, true_or, or_false, false_or, or_self, if_true, if_false, eq_self, ite_true, ite_false, reduceIte]) rfl
    · refine g_iload C dX4_isLoose_33 0 rfl ?_
      refine g_iconst C (v := 2) dX4_isLoose_35 ci_2 ?_
      refine g_iand C (v := (u (6 * r + 4)) &&& 2) dX4_isLoose_36 rfl ?_
      refine g_if_eq C (tgt := 54) dX4_isLoose_37 (by decide) (fun h37_5 => ?_) (fun h37_5 => ?_)
      · refine g_iconst C (v := 1) dX4_isLoose_54 ci_1 ?_
        refine g_goto C (tgt := 59) dX4_isLoose_55 (by decide) ?_
        exact g_zret C hret hlk dX4_isLoose_59 (Or.inr rfl) (by simp only [yLo, h16_1, eq_true h30_4, eq_true h37_5, Bool.false_eq_true, not_false_eq_true, not_true_eq_false, and_self, and_true, true_and, and_false, false_and, or_true, true_or, or_false, false_or, or_self, if_true, if_false, eq_self, ite_true, ite_false, reduceIte]) rfl
      · refine g_iload_n C dX4_isLoose_40 4 rfl ?_
        refine g_aload_n C dX4_isLoose_41 1 rfl ?_
        refine g_get C (v := .ref (ma 1)) fl_X4_isLoose_X4 0 rfl rfl 1 (by decide) fw_X4_isLoose_fld7 rfl dX4_isLoose_42 ?_
        refine g_iload_n C dX4_isLoose_45 2 rfl ?_
        refine g_iconst C (v := 1) dX4_isLoose_46 ci_1 ?_
        refine g_callSi C (c_X4_of l D cI cO r 1 (6 * r + 2) rfl) gX4_isLoose_X4_of rfl ⟨rfl, rfl⟩ hd_X4_of ⟨Nat.le_of_ble_eq_true rfl, Nat.le_of_ble_eq_true rfl⟩ [0, 1] rfl (fun _ _ => trivial) rfl (rest := [.ref (ma 1), .int q9]) rfl (Nat.le_of_ble_eq_true rfl) dX4_isLoose_47 ⟨Nat.zero_le _, Nat.zero_le _⟩ (pre := []) (post := (wM ma cI th u a9 sv z t n dg)) (ws' := (wM ma cI th u a9 sv z t n dg)) rfl rfl ?_
        refine g_iald C (x := u (6 * r + 2)) 1 0 rfl rfl (6 * r + 2) rfl (by omega) (by decide) rfl dX4_isLoose_50 ?_
        refine g_icmp_ne C (tgt := 58) dX4_isLoose_51 (by decide) (fun h51_6 => ?_) (fun h51_6 => ?_)
        · refine g_iconst C (v := 0) dX4_isLoose_58 ci_0 ?_
          exact g_zret C hret hlk dX4_isLoose_59 (Or.inl rfl) (by simp only [yLo, h16_1, eq_true h30_4, h37_5, h51_6, Bool.false_eq_true, not_false_eq_true, not_true_eq_false, and_self, and_true, true_and, and_false, false_and, or_true, true_or, or_false, false_or, or_self, if_true, if_false, eq_self, ite_true, ite_false, reduceIte]) rfl
        · refine g_iconst C (v := 1) dX4_isLoose_54 ci_1 ?_
          refine g_goto C (tgt := 59) dX4_isLoose_55 (by decide) ?_
          exact g_zret C hret hlk dX4_isLoose_59 (Or.inr rfl) (by simp only [yLo, h16_1, eq_true h30_4, h37_5, eq_true h51_6, Bool.false_eq_true, not_false_eq_true, not_true_eq_false, and_self, and_true, true_and, and_false, false_and, or_true, true_or, or_false, false_or, or_self, if_true, if_false, eq_self, ite_true, ite_false, reduceIte]) rfl
theorem hd_X4_isLoose : yX4_isLoose.cls = RX4 ∧ yX4_isLoose.cls ≠ "java/lang/invoke/MethodHandle" ∧ yX4_isLoose.cls ≠ "java/lang/invoke/VarHandle" ∧ (parseMethodDescriptor yX4_isLoose.desc).map (fun d => d.parameters.length) = some 3 := by decide +kernel
theorem hd_X4_movesTo : yX4_movesTo.cls = RX4 ∧ yX4_movesTo.cls ≠ "java/lang/invoke/MethodHandle" ∧ yX4_movesTo.cls ≠ "java/lang/invoke/VarHandle" ∧ (parseMethodDescriptor yX4_movesTo.desc).map (fun d => d.parameters.length) = some 3 := by decide +kernel
abbrev rmX4_fivesFor : Room := { frames := 2, cells := 0, slots := 0, locals := 45 }
set_option maxHeartbeats 1000000 in
set_option maxRecDepth 100000 in
theorem c_X4_fivesFor (l : Launch) (D : va_G) (cI cO : ClassId) (ma : Nat → Nat) (th : Int32) (u a9 sv : Nat → Int32) (z : Nat) (t : Nat → Int32) (n : Nat) (dg : Int64) (hn : n ≤ 60) (hz : z ≤ 6) (r : Nat) (hr : r < 9) (v : Int32) : cR (fun _ => True) l yX4_fivesFor wsX4_fivesFor rmX4_fivesFor D vwCl (tyA cI cO) [.ref (ma 0), .int (nI r), .int v] (wM ma cI th u a9 sv z t n dg) (some (.int (yFv u r v))) (wM ma cI th u a9 sv z t n dg) := by
  refine cR_of (cc := cX4_fivesFor) (maxL := 7) (ret := (some .int)) (by decide) rfl (Nat.le_of_ble_eq_true rfl) ?_
  intro p e s m below meth c A C hret hlk hnm hF
  refine g_lv [0, 1, 2] (lv' := [(0, .ref (ma 0)), (1, .int (nI r)), (2, .int v)]) rfl ?_
  have K : ∀ (j : Nat), j ≤ 3 → ∀ q : Int32, yFf u r v j q = yFv u r v → gG p l e rmX4_fivesFor s m ([.ref (ma 0), .int (nI r), .int v] : List Value).toArray below meth c D vwCl A s.heap 7 (MQ below (cQ (some (.int (yFv u r v))) (cB D vwCl (tyA cI cO) A (wM ma cI th u a9 sv z t n dg)) A) ([.ref (ma 0), .int (nI r), .int v] : List Value).toArray s 0 0 A) 0 0 (wM ma cI th u a9 sv z t n dg) 5 [(0, .ref (ma 0)), (1, .int (nI r)), (2, .int v), (3, .int q), (4, .int (xFi j))] [] := by
    intro j
    induction j with
    | zero =>
      intro _ q hq
      have hq : q = yFv u r v := hq
      subst hq
      refine g_iload C dX4_fivesFor_5 4 rfl ?_
      refine g_if_lt C (tgt := 93) dX4_fivesFor_7 (by decide) (fun _ => ?_) (fun h7_1 => absurd (by decide) h7_1)
      refine g_iload_n C dX4_fivesFor_93 3 rfl ?_
      exact g_iret C hret hlk dX4_fivesFor_94 rfl rfl
    | succ j ih =>
      intro hj q hq
      refine g_iload C dX4_fivesFor_5 4 rfl ?_
      refine g_if_lt C (tgt := 93) dX4_fivesFor_7 (by decide) (fun h7_2 => absurd h7_2 (xFi_nn hj)) (fun _ => ?_)
      refine g_iload_n C dX4_fivesFor_10 2 rfl ?_
      refine g_iconst C (v := 5) dX4_fivesFor_11 ci_5 ?_
      refine g_iload C dX4_fivesFor_12 4 rfl ?_
      refine g_imul C (v := 5 * (xFi (j + 1))) dX4_fivesFor_14 rfl ?_
      refine g_isub C (v := v - (5 * (xFi (j + 1)))) dX4_fivesFor_15 rfl ?_
      refine g_istore C (lv' := [(5, .int (v - (5 * (xFi (j + 1))))), (0, .ref (ma 0)), (1, .int (nI r)), (2, .int v), (3, .int q), (4, .int (xFi (j + 1)))]) dX4_fivesFor_16 (by decide) rfl ?_
      refine g_iload C dX4_fivesFor_18 0 rfl ?_
      refine g_iconst C (v := 0) dX4_fivesFor_20 ci_0 ?_
      refine g_iconst C (v := 5) dX4_fivesFor_21 ci_5 ?_
      refine g_callSi C (c_X4_in l D cI cO (v - (5 * (xFi (j + 1)))) 0 5) gX4_fivesFor_X4_in rfl ⟨rfl, rfl⟩ hd_X4_in ⟨Nat.le_of_ble_eq_true rfl, Nat.le_of_ble_eq_true rfl⟩ [0, 1] rfl (fun _ _ => trivial) rfl (rest := []) rfl (Nat.le_of_ble_eq_true rfl) dX4_fivesFor_22 ⟨Nat.zero_le _, Nat.zero_le _⟩ (pre := []) (post := (wM ma cI th u a9 sv z t n dg)) (ws' := (wM ma cI th u a9 sv z t n dg)) rfl rfl ?_
      refine g_if_eq C (tgt := 44) dX4_fivesFor_25 (by decide) (fun h25_3 => ?_) (fun h25_3 => ?_)
      · have h25_3 := bz h25_3
        refine g_iconst C (v := 0) dX4_fivesFor_44 ci_0 ?_
        refine g_istore C (lv' := [(6, .int 0), (5, .int (v - (5 * (xFi (j + 1))))), (0, .ref (ma 0)), (1, .int (nI r)), (2, .int v), (3, .int q), (4, .int (xFi (j + 1)))]) dX4_fivesFor_45 (by decide) rfl ?_
        refine g_iload C dX4_fivesFor_47 0 rfl ?_
        refine g_if_eq C (tgt := 85) dX4_fivesFor_49 (by decide) (fun _ => ?_) (fun h49_4 => absurd (by decide) h49_4)
        refine g_iload_n C dX4_fivesFor_85 5 rfl ?_
        refine g_istore_n C (lv' := [(3, .int q), (6, .int 0), (5, .int (v - (5 * (xFi (j + 1))))), (0, .ref (ma 0)), (1, .int (nI r)), (2, .int v), (4, .int (xFi (j + 1)))]) dX4_fivesFor_86 rfl (by decide) rfl ?_
        refine g_iinc C (v := xFi j) (lv' := [(4, .int (xFi j)), (3, .int q), (6, .int 0), (5, .int (v - (5 * (xFi (j + 1))))), (0, .ref (ma 0)), (1, .int (nI r)), (2, .int v)]) dX4_fivesFor_87 6 rfl (xFi_dec hj) (by decide) rfl ?_
        refine g_goto C (tgt := 5) dX4_fivesFor_90 (by decide) ?_
        refine g_lv [4, 5, 6, 1, 0] (lv' := [(0, .ref (ma 0)), (1, .int (nI r)), (2, .int v), (3, .int q), (4, .int (xFi j))]) rfl ?_
        exact ih (by omega) _ (by rw [← hq]; simp only [yFf, yFs, yOk, h25_3, Bool.false_eq_true, not_false_eq_true, not_true_eq_false, and_self, and_true, true_and, and_false, false_and, or_true, true_or, or_false, false_or, or_self, if_true, if_false, eq_self, ite_true, ite_false, reduceIte])
      · have h25_3 := bnz h25_3
        refine g_aload_n C dX4_fivesFor_28 1 rfl ?_
        refine g_iload_n C dX4_fivesFor_29 2 rfl ?_
        refine g_iload C dX4_fivesFor_30 5 rfl ?_
        refine g_iload C dX4_fivesFor_32 0 rfl ?_
        refine g_callVi C (c_X4_isLoose l D cI cO ma th u a9 sv z t n dg hn hz r ((by omega)) (xFi (j + 1)) (v - (5 * (xFi (j + 1))))) gX4_fivesFor_X4_isLoose rfl ⟨rfl, rfl⟩ hd_X4_isLoose ⟨Nat.le_of_ble_eq_true rfl, Nat.le_of_ble_eq_true rfl⟩ [0, 1] rfl (fun _ _ => trivial) rfl (rest := []) rfl (Nat.le_of_ble_eq_true rfl) dX4_fivesFor_34 ⟨Nat.zero_le _, Nat.zero_le _⟩ 0 rfl rfl rfl (pre := []) (post := []) (ws' := (wM ma cI th u a9 sv z t n dg)) rfl rfl ?_
        refine g_if_eq C (tgt := 44) dX4_fivesFor_37 (by decide) (fun h37_5 => ?_) (fun h37_5 => ?_)
        · have h37_5 := bz h37_5
          refine g_iconst C (v := 0) dX4_fivesFor_44 ci_0 ?_
          refine g_istore C (lv' := [(6, .int 0), (5, .int (v - (5 * (xFi (j + 1))))), (0, .ref (ma 0)), (1, .int (nI r)), (2, .int v), (3, .int q), (4, .int (xFi (j + 1)))]) dX4_fivesFor_45 (by decide) rfl ?_
          refine g_iload C dX4_fivesFor_47 0 rfl ?_
          refine g_if_eq C (tgt := 85) dX4_fivesFor_49 (by decide) (fun _ => ?_) (fun h49_6 => absurd (by decide) h49_6)
          refine g_iload_n C dX4_fivesFor_85 5 rfl ?_
          refine g_istore_n C (lv' := [(3, .int q), (6, .int 0), (5, .int (v - (5 * (xFi (j + 1))))), (0, .ref (ma 0)), (1, .int (nI r)), (2, .int v), (4, .int (xFi (j + 1)))]) dX4_fivesFor_86 rfl (by decide) rfl ?_
          refine g_iinc C (v := xFi j) (lv' := [(4, .int (xFi j)), (3, .int q), (6, .int 0), (5, .int (v - (5 * (xFi (j + 1))))), (0, .ref (ma 0)), (1, .int (nI r)), (2, .int v)]) dX4_fivesFor_87 6 rfl (xFi_dec hj) (by decide) rfl ?_
          refine g_goto C (tgt := 5) dX4_fivesFor_90 (by decide) ?_
          refine g_lv [4, 5, 6, 1, 0] (lv' := [(0, .ref (ma 0)), (1, .int (nI r)), (2, .int v), (3, .int q), (4, .int (xFi j))]) rfl ?_
          exact ih (by omega) _ (by rw [← hq]; simp only [yFf, yFs, yOk, eq_true h25_3, h37_5, Bool.false_eq_true, not_false_eq_true, not_true_eq_false, and_self, and_true, true_and, and_false, false_and, or_true, true_or, or_false, false_or, or_self, if_true, if_false, eq_self, ite_true, ite_false, reduceIte])
        · have h37_5 := bnz h37_5
          refine g_iconst C (v := 1) dX4_fivesFor_40 ci_1 ?_
          refine g_goto C (tgt := 45) dX4_fivesFor_41 (by decide) ?_
          refine g_istore C (lv' := [(6, .int 1), (5, .int (v - (5 * (xFi (j + 1))))), (0, .ref (ma 0)), (1, .int (nI r)), (2, .int v), (3, .int q), (4, .int (xFi (j + 1)))]) dX4_fivesFor_45 (by decide) rfl ?_
          refine g_iload C dX4_fivesFor_47 0 rfl ?_
          refine g_if_eq C (tgt := 85) dX4_fivesFor_49 (by decide) (fun h49_7 => absurd h49_7 (by decide)) (fun _ => ?_)
          refine g_iload_n C dX4_fivesFor_52 5 rfl ?_
          refine g_iconst C (v := -1) dX4_fivesFor_53 ci_m1 ?_
          refine g_icmp_eq C (tgt := 80) dX4_fivesFor_54 (by decide) (fun h54_8 => ?_) (fun h54_8 => ?_)
          · refine g_iload C dX4_fivesFor_80 6 rfl ?_
            refine g_goto C (tgt := 86) dX4_fivesFor_82 (by decide) ?_
            refine g_istore_n C (lv' := [(3, .int (xFi (j + 1))), (6, .int 1), (5, .int (v - (5 * (xFi (j + 1))))), (0, .ref (ma 0)), (1, .int (nI r)), (2, .int v), (4, .int (xFi (j + 1)))]) dX4_fivesFor_86 rfl (by decide) rfl ?_
            refine g_iinc C (v := xFi j) (lv' := [(4, .int (xFi j)), (3, .int (xFi (j + 1))), (6, .int 1), (5, .int (v - (5 * (xFi (j + 1))))), (0, .ref (ma 0)), (1, .int (nI r)), (2, .int v)]) dX4_fivesFor_87 6 rfl (xFi_dec hj) (by decide) rfl ?_
            refine g_goto C (tgt := 5) dX4_fivesFor_90 (by decide) ?_
            refine g_lv [4, 5, 6, 1, 0] (lv' := [(0, .ref (ma 0)), (1, .int (nI r)), (2, .int v), (3, .int (xFi (j + 1))), (4, .int (xFi j))]) rfl ?_
            exact ih (by omega) _ (by rw [← hq]; simp only [yFf, yFs, yOk, eq_true h25_3, eq_true h37_5, eq_true h54_8, Bool.false_eq_true, not_false_eq_true, not_true_eq_false, and_self, and_true, true_and, and_false, false_and, or_true, true_or, or_false, false_or, or_self, if_true, if_false, eq_self, ite_true, ite_false, reduceIte])
          · refine g_aload_n C dX4_fivesFor_57 2 rfl ?_
            refine g_iload_n C dX4_fivesFor_58 3 rfl ?_
            refine g_iload C dX4_fivesFor_59 6 rfl ?_
            refine g_iload C dX4_fivesFor_61 1 rfl ?_
            refine g_callVi C (c_X4_movesTo l D cI cO ma th u a9 sv z t n dg hn hz r ((by omega)) (xFi (j + 1)) (v - (5 * (xFi (j + 1))))) gX4_fivesFor_X4_movesTo rfl ⟨rfl, rfl⟩ hd_X4_movesTo ⟨Nat.le_of_ble_eq_true rfl, Nat.le_of_ble_eq_true rfl⟩ [0, 1] rfl (fun _ _ => trivial) rfl (rest := []) rfl (Nat.le_of_ble_eq_true rfl) dX4_fivesFor_63 ⟨Nat.zero_le _, Nat.zero_le _⟩ 0 rfl rfl rfl (pre := []) (post := []) (ws' := (wM ma cI th u a9 sv z t n dg)) rfl rfl ?_
            refine g_aload_n C dX4_fivesFor_66 2 rfl ?_
            refine g_iload_n C dX4_fivesFor_67 3 rfl ?_
            refine g_iload_n C dX4_fivesFor_68 5 rfl ?_
            refine g_iload_n C dX4_fivesFor_69 4 rfl ?_
            refine g_iconst C (v := 5) dX4_fivesFor_70 ci_5 ?_
            refine g_iload_n C dX4_fivesFor_71 5 rfl ?_
            refine g_imul C (v := 5 * q) dX4_fivesFor_72 rfl ?_
            refine g_isub C (v := v - (5 * q)) dX4_fivesFor_73 rfl ?_
            refine g_callVi C (c_X4_movesTo l D cI cO ma th u a9 sv z t n dg hn hz r ((by omega)) q (v - (5 * q))) gX4_fivesFor_X4_movesTo rfl ⟨rfl, rfl⟩ hd_X4_movesTo ⟨Nat.le_of_ble_eq_true rfl, Nat.le_of_ble_eq_true rfl⟩ [0, 1] rfl (fun _ _ => trivial) rfl (rest := [.int (yMv u r (xFi (j + 1)) (v - (5 * (xFi (j + 1)))))]) rfl (Nat.le_of_ble_eq_true rfl) dX4_fivesFor_74 ⟨Nat.zero_le _, Nat.zero_le _⟩ 0 rfl rfl rfl (pre := []) (post := []) (ws' := (wM ma cI th u a9 sv z t n dg)) rfl rfl ?_
            refine g_icmp_ge C (tgt := 85) dX4_fivesFor_77 (by decide) (fun h77_9 => ?_) (fun h77_9 => ?_)
            · refine g_iload_n C dX4_fivesFor_85 5 rfl ?_
              refine g_istore_n C (lv' := [(3, .int q), (6, .int 1), (5, .int (v - (5 * (xFi (j + 1))))), (0, .ref (ma 0)), (1, .int (nI r)), (2, .int v), (4, .int (xFi (j + 1)))]) dX4_fivesFor_86 rfl (by decide) rfl ?_
              refine g_iinc C (v := xFi j) (lv' := [(4, .int (xFi j)), (3, .int q), (6, .int 1), (5, .int (v - (5 * (xFi (j + 1))))), (0, .ref (ma 0)), (1, .int (nI r)), (2, .int v)]) dX4_fivesFor_87 6 rfl (xFi_dec hj) (by decide) rfl ?_
              refine g_goto C (tgt := 5) dX4_fivesFor_90 (by decide) ?_
              refine g_lv [4, 5, 6, 1, 0] (lv' := [(0, .ref (ma 0)), (1, .int (nI r)), (2, .int v), (3, .int q), (4, .int (xFi j))]) rfl ?_
              exact ih (by omega) _ (by rw [← hq]; simp only [yFf, yFs, yOk, eq_true h25_3, eq_true h37_5, h54_8, eq_true h77_9, Bool.false_eq_true, not_false_eq_true, not_true_eq_false, and_self, and_true, true_and, and_false, false_and, or_true, true_or, or_false, false_or, or_self, if_true, if_false, eq_self, ite_true, ite_false, reduceIte])
            · refine g_iload C dX4_fivesFor_80 6 rfl ?_
              refine g_goto C (tgt := 86) dX4_fivesFor_82 (by decide) ?_
              refine g_istore_n C (lv' := [(3, .int (xFi (j + 1))), (6, .int 1), (5, .int (v - (5 * (xFi (j + 1))))), (0, .ref (ma 0)), (1, .int (nI r)), (2, .int v), (4, .int (xFi (j + 1)))]) dX4_fivesFor_86 rfl (by decide) rfl ?_
              refine g_iinc C (v := xFi j) (lv' := [(4, .int (xFi j)), (3, .int (xFi (j + 1))), (6, .int 1), (5, .int (v - (5 * (xFi (j + 1))))), (0, .ref (ma 0)), (1, .int (nI r)), (2, .int v)]) dX4_fivesFor_87 6 rfl (xFi_dec hj) (by decide) rfl ?_
              refine g_goto C (tgt := 5) dX4_fivesFor_90 (by decide) ?_
              refine g_lv [4, 5, 6, 1, 0] (lv' := [(0, .ref (ma 0)), (1, .int (nI r)), (2, .int v), (3, .int (xFi (j + 1))), (4, .int (xFi j))]) rfl ?_
              exact ih (by omega) _ (by rw [← hq]; simp only [yFf, yFs, yOk, eq_true h25_3, eq_true h37_5, h54_8, h77_9, Bool.false_eq_true, not_false_eq_true, not_true_eq_false, and_self, and_true, true_and, and_false, false_and, or_true, true_or, or_false, false_or, or_self, if_true, if_false, eq_self, ite_true, ite_false, reduceIte])
  refine g_iconst C (v := -1) dX4_fivesFor_0 ci_m1 ?_
  refine g_istore_n C (lv' := [(3, .int (-1)), (0, .ref (ma 0)), (1, .int (nI r)), (2, .int v)]) dX4_fivesFor_1 rfl (by decide) rfl ?_
  refine g_iconst C (v := 2) dX4_fivesFor_2 ci_2 ?_
  refine g_istore C (lv' := [(4, .int 2), (3, .int (-1)), (0, .ref (ma 0)), (1, .int (nI r)), (2, .int v)]) dX4_fivesFor_3 (by decide) rfl ?_
  refine g_lv [2, 3, 4, 1, 0] (lv' := [(0, .ref (ma 0)), (1, .int (nI r)), (2, .int v), (3, .int (-1)), (4, .int 2)]) rfl ?_
  exact K 3 (Nat.le_refl _) (-1) rfl
theorem hd_X4_fivesFor : yX4_fivesFor.cls = RX4 ∧ yX4_fivesFor.cls ≠ "java/lang/invoke/MethodHandle" ∧ yX4_fivesFor.cls ≠ "java/lang/invoke/VarHandle" ∧ (parseMethodDescriptor yX4_fivesFor.desc).map (fun d => d.parameters.length) = some 2 := by decide +kernel
abbrev rmX4_can : Room := { frames := 3, cells := 0, slots := 0, locals := 71 }
set_option maxHeartbeats 1000000 in
set_option maxRecDepth 100000 in
theorem c_X4_can (l : Launch) (D : va_G) (cI cO : ClassId) (ma : Nat → Nat) (th : Int32) (u a9 sv : Nat → Int32) (z : Nat) (t : Nat → Int32) (n : Nat) (dg : Int64) (hn : n ≤ 60) (hz : z ≤ 6) (r : Nat) (hr : r < 9) (v : Int32) : cR (fun _ => True) l yX4_can wsX4_can rmX4_can D vwCl (tyA cI cO) [.ref (ma 0), .int (nI r), .int v] (wM ma cI th u a9 sv z t n dg) (some (.int ((if ¬ yFv u r v = -1 then 1 else 0)))) (wM ma cI th u a9 sv z t n dg) := by
  refine cR_of (cc := cX4_can) (maxL := 3) (ret := (some .boolean)) (by decide) rfl (Nat.le_of_ble_eq_true rfl) ?_
  intro p e s m below meth c A C hret hlk hnm hF
  refine g_lv [0, 1, 2] (lv' := [(0, .ref (ma 0)), (1, .int (nI r)), (2, .int v)]) rfl ?_
  refine g_aload_n C dX4_can_0 0 rfl ?_
  refine g_iload_n C dX4_can_1 1 rfl ?_
  refine g_iload_n C dX4_can_2 2 rfl ?_
  refine g_callVi C (c_X4_fivesFor l D cI cO ma th u a9 sv z t n dg hn hz r ((by omega)) v) gX4_can_X4_fivesFor rfl ⟨rfl, rfl⟩ hd_X4_fivesFor ⟨Nat.le_of_ble_eq_true rfl, Nat.le_of_ble_eq_true rfl⟩ [0, 1] rfl (fun _ _ => trivial) rfl (rest := []) rfl (Nat.le_of_ble_eq_true rfl) dX4_can_3 ⟨Nat.zero_le _, Nat.zero_le _⟩ 0 rfl rfl rfl (pre := []) (post := []) (ws' := (wM ma cI th u a9 sv z t n dg)) rfl rfl ?_
  refine g_iconst C (v := -1) dX4_can_6 ci_m1 ?_
  refine g_icmp_eq C (tgt := 14) dX4_can_7 (by decide) (fun h7_1 => ?_) (fun h7_1 => ?_)
  · refine g_iconst C (v := 0) dX4_can_14 ci_0 ?_
    exact g_zret C hret hlk dX4_can_15 (Or.inl rfl) (by simp only [eq_true h7_1, Bool.false_eq_true, not_false_eq_true, not_true_eq_false, and_self, and_true, true_and, and_false, false_and, or_true, true_or, or_false, false_or, or_self, if_true, if_false, eq_self, ite_true, ite_false, reduceIte]) rfl
  · refine g_iconst C (v := 1) dX4_can_10 ci_1 ?_
    refine g_goto C (tgt := 15) dX4_can_11 (by decide) ?_
    exact g_zret C hret hlk dX4_can_15 (Or.inr rfl) (by simp only [h7_1, Bool.false_eq_true, not_false_eq_true, not_true_eq_false, and_self, and_true, true_and, and_false, false_and, or_true, true_or, or_false, false_or, or_self, if_true, if_false, eq_self, ite_true, ite_false, reduceIte]) rfl
theorem fw_X4_movesBeads_fld7 : Cond.fieldLink RX4 7 "StuckRodsModel" "s" "[I" ∈ wsX4_movesBeads := (List.mem_cons_of_mem _ (List.mem_append_left _ (List.mem_of_getElem? (i := 0) rfl)))
theorem fl_X4_movesBeads_X4 : ∀ w ∈ wsX40, w ∈ wsX4_movesBeads := fun _ h => List.mem_cons_of_mem _ (List.mem_append_right _ h)
abbrev rmX4_movesBeads : Room := { frames := 2, cells := 0, slots := 0, locals := 44 }
set_option maxHeartbeats 1000000 in
set_option maxRecDepth 100000 in
theorem c_X4_movesBeads (l : Launch) (D : va_G) (cI cO : ClassId) (ma : Nat → Nat) (th : Int32) (u a9 sv : Nat → Int32) (z : Nat) (t : Nat → Int32) (n : Nat) (dg : Int64) (hn : n ≤ 60) (hz : z ≤ 6) (r : Nat) (hr : r < 9) (f q9 : Int32) : cR (fun _ => True) l yX4_movesBeads wsX4_movesBeads rmX4_movesBeads D vwCl (tyA cI cO) [.ref (ma 0), .int (nI r), .int f, .int q9] (wM ma cI th u a9 sv z t n dg) (some (.int (yMv u r f q9))) (wM ma cI th (xPl u r f q9 (yMv u r f q9)) a9 sv z t n dg) := by
  refine cR_of (cc := cX4_movesBeads) (maxL := 5) (ret := (some .int)) (by decide) rfl (Nat.le_of_ble_eq_true rfl) ?_
  intro p e s m below meth c A C hret hlk hnm hF
  refine g_lv [0, 1, 2, 3] (lv' := [(0, .ref (ma 0)), (1, .int (nI r)), (2, .int f), (3, .int q9)]) rfl ?_
  refine g_aload_n C dX4_movesBeads_0 0 rfl ?_
  refine g_iload_n C dX4_movesBeads_1 1 rfl ?_
  refine g_iload_n C dX4_movesBeads_2 2 rfl ?_
  refine g_iload_n C dX4_movesBeads_3 3 rfl ?_
  refine g_callVi C (c_X4_movesTo l D cI cO ma th u a9 sv z t n dg hn hz r ((by omega)) f q9) gX4_movesBeads_X4_movesTo rfl ⟨rfl, rfl⟩ hd_X4_movesTo ⟨Nat.le_of_ble_eq_true rfl, Nat.le_of_ble_eq_true rfl⟩ [0, 1] rfl (fun _ _ => trivial) rfl (rest := []) rfl (Nat.le_of_ble_eq_true rfl) dX4_movesBeads_4 ⟨Nat.zero_le _, Nat.zero_le _⟩ 0 rfl rfl rfl (pre := []) (post := []) (ws' := (wM ma cI th u a9 sv z t n dg)) rfl rfl ?_
  refine g_istore C (lv' := [(4, .int (yMv u r f q9)), (0, .ref (ma 0)), (1, .int (nI r)), (2, .int f), (3, .int q9)]) dX4_movesBeads_7 (by decide) rfl ?_
  refine g_aload_n C dX4_movesBeads_9 1 rfl ?_
  refine g_get C (v := .ref (ma 1)) fl_X4_movesBeads_X4 0 rfl rfl 1 (by decide) fw_X4_movesBeads_fld7 rfl dX4_movesBeads_10 ?_
  refine g_iload_n C dX4_movesBeads_13 2 rfl ?_
  refine g_iconst C (v := 0) dX4_movesBeads_14 ci_0 ?_
  refine g_callSi C (c_X4_of l D cI cO r 0 (6 * r + 1) rfl) gX4_movesBeads_X4_of rfl ⟨rfl, rfl⟩ hd_X4_of ⟨Nat.le_of_ble_eq_true rfl, Nat.le_of_ble_eq_true rfl⟩ [0, 1] rfl (fun _ _ => trivial) rfl (rest := [.ref (ma 1)]) rfl (Nat.le_of_ble_eq_true rfl) dX4_movesBeads_15 ⟨Nat.zero_le _, Nat.zero_le _⟩ (pre := []) (post := (wM ma cI th u a9 sv z t n dg)) (ws' := (wM ma cI th u a9 sv z t n dg)) rfl rfl ?_
  refine g_iload_n C dX4_movesBeads_18 3 rfl ?_
  refine g_iast C (ws' := (wM ma cI th (upd u (6 * r + 1) f) a9 sv z t n dg)) 1 0 rfl rfl (6 * r + 1) rfl (by omega) (by decide) dX4_movesBeads_19 rfl ?_
  refine g_aload_n C dX4_movesBeads_20 1 rfl ?_
  refine g_get C (v := .ref (ma 1)) fl_X4_movesBeads_X4 0 rfl rfl 1 (by decide) fw_X4_movesBeads_fld7 rfl dX4_movesBeads_21 ?_
  refine g_iload_n C dX4_movesBeads_24 2 rfl ?_
  refine g_iconst C (v := 1) dX4_movesBeads_25 ci_1 ?_
  refine g_callSi C (c_X4_of l D cI cO r 1 (6 * r + 2) rfl) gX4_movesBeads_X4_of rfl ⟨rfl, rfl⟩ hd_X4_of ⟨Nat.le_of_ble_eq_true rfl, Nat.le_of_ble_eq_true rfl⟩ [0, 1] rfl (fun _ _ => trivial) rfl (rest := [.ref (ma 1)]) rfl (Nat.le_of_ble_eq_true rfl) dX4_movesBeads_26 ⟨Nat.zero_le _, Nat.zero_le _⟩ (pre := []) (post := (wM ma cI th (upd u (6 * r + 1) f) a9 sv z t n dg)) (ws' := (wM ma cI th (upd u (6 * r + 1) f) a9 sv z t n dg)) rfl rfl ?_
  refine g_iload_n C dX4_movesBeads_29 4 rfl ?_
  refine g_iast C (ws' := (wM ma cI th (upd (upd u (6 * r + 1) f) (6 * r + 2) q9) a9 sv z t n dg)) 1 0 rfl rfl (6 * r + 2) rfl (by omega) (by decide) dX4_movesBeads_30 rfl ?_
  refine g_aload_n C dX4_movesBeads_31 1 rfl ?_
  refine g_get C (v := .ref (ma 1)) fl_X4_movesBeads_X4 0 rfl rfl 1 (by decide) fw_X4_movesBeads_fld7 rfl dX4_movesBeads_32 ?_
  refine g_iload_n C dX4_movesBeads_35 2 rfl ?_
  refine g_iconst C (v := 4) dX4_movesBeads_36 ci_4 ?_
  refine g_callSi C (c_X4_of l D cI cO r 4 (6 * r + 5) rfl) gX4_movesBeads_X4_of rfl ⟨rfl, rfl⟩ hd_X4_of ⟨Nat.le_of_ble_eq_true rfl, Nat.le_of_ble_eq_true rfl⟩ [0, 1] rfl (fun _ _ => trivial) rfl (rest := [.ref (ma 1)]) rfl (Nat.le_of_ble_eq_true rfl) dX4_movesBeads_37 ⟨Nat.zero_le _, Nat.zero_le _⟩ (pre := []) (post := (wM ma cI th (upd (upd u (6 * r + 1) f) (6 * r + 2) q9) a9 sv z t n dg)) (ws' := (wM ma cI th (upd (upd u (6 * r + 1) f) (6 * r + 2) q9) a9 sv z t n dg)) rfl rfl ?_
  refine g_dup2 C dX4_movesBeads_40 rfl rfl ?_
  refine g_iald C (x := (upd (upd u (6 * r + 1) f) (6 * r + 2) q9) (6 * r + 5)) 1 0 rfl rfl (6 * r + 5) rfl (by omega) (by decide) rfl dX4_movesBeads_41 ?_
  refine g_iload C dX4_movesBeads_42 0 rfl ?_
  refine g_iadd C (v := ((upd (upd u (6 * r + 1) f) (6 * r + 2) q9) (6 * r + 5)) + (yMv u r f q9)) dX4_movesBeads_44 rfl ?_
  refine g_iast C (ws' := (wM ma cI th (upd (upd (upd u (6 * r + 1) f) (6 * r + 2) q9) (6 * r + 5) (((upd (upd u (6 * r + 1) f) (6 * r + 2) q9) (6 * r + 5)) + (yMv u r f q9))) a9 sv z t n dg)) 1 0 rfl rfl (6 * r + 5) rfl (by omega) (by decide) dX4_movesBeads_45 rfl ?_
  refine g_iload C dX4_movesBeads_46 0 rfl ?_
  exact g_iret C hret hlk dX4_movesBeads_48 rfl rfl
theorem hd_X4_movesBeads : yX4_movesBeads.cls = RX4 ∧ yX4_movesBeads.cls ≠ "java/lang/invoke/MethodHandle" ∧ yX4_movesBeads.cls ≠ "java/lang/invoke/VarHandle" ∧ (parseMethodDescriptor yX4_movesBeads.desc).map (fun d => d.parameters.length) = some 3 := by decide +kernel
abbrev rmX4_comes : Room := { frames := 3, cells := 0, slots := 0, locals := 71 }
set_option maxHeartbeats 1000000 in
set_option maxRecDepth 100000 in
theorem c_X4_comes (l : Launch) (D : va_G) (cI cO : ClassId) (ma : Nat → Nat) (th : Int32) (u a9 sv : Nat → Int32) (z : Nat) (t : Nat → Int32) (n : Nat) (dg : Int64) (hn : n ≤ 60) (hz : z ≤ 6) (r : Nat) (hr : r < 9) (v : Int32) : cR (fun _ => True) l yX4_comes wsX4_comes rmX4_comes D vwCl (tyA cI cO) [.ref (ma 0), .int (nI r), .int v] (wM ma cI th u a9 sv z t n dg) none (wM ma cI th (yCo u r v) a9 sv z t n dg) := by
  refine cR_of (cc := cX4_comes) (maxL := 5) (ret := none) (by decide) rfl (Nat.le_of_ble_eq_true rfl) ?_
  intro p e s m below meth c A C hret hlk hnm hF
  refine g_lv [0, 1, 2] (lv' := [(0, .ref (ma 0)), (1, .int (nI r)), (2, .int v)]) rfl ?_
  refine g_aload_n C dX4_comes_0 0 rfl ?_
  refine g_iload_n C dX4_comes_1 1 rfl ?_
  refine g_iload_n C dX4_comes_2 2 rfl ?_
  refine g_callVi C (c_X4_fivesFor l D cI cO ma th u a9 sv z t n dg hn hz r ((by omega)) v) gX4_comes_X4_fivesFor rfl ⟨rfl, rfl⟩ hd_X4_fivesFor ⟨Nat.le_of_ble_eq_true rfl, Nat.le_of_ble_eq_true rfl⟩ [0, 1] rfl (fun _ _ => trivial) rfl (rest := []) rfl (Nat.le_of_ble_eq_true rfl) dX4_comes_3 ⟨Nat.zero_le _, Nat.zero_le _⟩ 0 rfl rfl rfl (pre := []) (post := []) (ws' := (wM ma cI th u a9 sv z t n dg)) rfl rfl ?_
  refine g_istore_n C (lv' := [(3, .int (yFv u r v)), (0, .ref (ma 0)), (1, .int (nI r)), (2, .int v)]) dX4_comes_6 rfl (by decide) rfl ?_
  refine g_aload_n C dX4_comes_7 1 rfl ?_
  refine g_iload_n C dX4_comes_8 2 rfl ?_
  refine g_iload_n C dX4_comes_9 0 rfl ?_
  refine g_iload_n C dX4_comes_10 3 rfl ?_
  refine g_iconst C (v := 5) dX4_comes_11 ci_5 ?_
  refine g_iload_n C dX4_comes_12 0 rfl ?_
  refine g_imul C (v := 5 * (yFv u r v)) dX4_comes_13 rfl ?_
  refine g_isub C (v := v - (5 * (yFv u r v))) dX4_comes_14 rfl ?_
  refine g_callVi C (c_X4_movesBeads l D cI cO ma th u a9 sv z t n dg hn hz r ((by omega)) (yFv u r v) (v - (5 * (yFv u r v)))) gX4_comes_X4_movesBeads rfl ⟨rfl, rfl⟩ hd_X4_movesBeads ⟨Nat.le_of_ble_eq_true rfl, Nat.le_of_ble_eq_true rfl⟩ [0, 1] rfl (fun _ _ => trivial) rfl (rest := []) rfl (Nat.le_of_ble_eq_true rfl) dX4_comes_15 ⟨Nat.zero_le _, Nat.zero_le _⟩ 0 rfl rfl rfl (pre := []) (post := []) (ws' := (wM ma cI th (xPl u r (yFv u r v) (v - (5 * (yFv u r v))) (yMv u r (yFv u r v) (v - (5 * (yFv u r v))))) a9 sv z t n dg)) rfl rfl ?_
  refine g_istore C (lv' := [(4, .int (yMv u r (yFv u r v) (v - (5 * (yFv u r v))))), (3, .int (yFv u r v)), (0, .ref (ma 0)), (1, .int (nI r)), (2, .int v)]) dX4_comes_18 (by decide) rfl ?_
  exact g_vret C hret hlk dX4_comes_20 rfl
theorem fw_X4_allMoves_fld7 : Cond.fieldLink RX4 7 "StuckRodsModel" "s" "[I" ∈ wsX4_allMoves := (List.mem_cons_of_mem _ (List.mem_append_left _ (List.mem_of_getElem? (i := 0) rfl)))
theorem fl_X4_allMoves_X4 : ∀ w ∈ wsX40, w ∈ wsX4_allMoves := fun _ h => List.mem_cons_of_mem _ (List.mem_append_right _ h)
abbrev rmX4_allMoves : Room := { frames := 1, cells := 0, slots := 0, locals := 21 }
set_option maxHeartbeats 1000000 in
set_option maxRecDepth 100000 in
theorem c_X4_allMoves (l : Launch) (D : va_G) (cI cO : ClassId) (ma : Nat → Nat) (th : Int32) (u a9 sv : Nat → Int32) (z : Nat) (t : Nat → Int32) (n : Nat) (dg : Int64) (hn : n ≤ 60) (hz : z ≤ 6)  : cR (fun _ => True) l yX4_allMoves wsX4_allMoves rmX4_allMoves D vwCl (tyA cI cO) [.ref (ma 0)] (wM ma cI th u a9 sv z t n dg) (some (.int (yAm u))) (wM ma cI th u a9 sv z t n dg) := by
  refine cR_of (cc := cX4_allMoves) (maxL := 3) (ret := (some .int)) (by decide) rfl (Nat.le_of_ble_eq_true rfl) ?_
  intro p e s m below meth c A C hret hlk hnm hF
  refine g_lv [0] (lv' := [(0, .ref (ma 0))]) rfl ?_
  have K : ∀ (k q : Nat), k + q = 9 → gG p l e rmX4_allMoves s m ([.ref (ma 0)] : List Value).toArray below meth c D vwCl A s.heap 3 (MQ below (cQ (some (.int (yAm u))) (cB D vwCl (tyA cI cO) A (wM ma cI th u a9 sv z t n dg)) A) ([.ref (ma 0)] : List Value).toArray s 0 0 A) 0 0 (wM ma cI th u a9 sv z t n dg) 4 [(0, .ref (ma 0)), (1, .int (yAm0 u q)), (2, .int (nI q))] [] := by
    intro k
    induction k with
    | zero =>
      intro q hn9
      obtain rfl : q = 9 := by omega
      refine g_iload_n C dX4_allMoves_4 2 rfl ?_
      refine g_bipush C (v := 9) dX4_allMoves_5 cb_9 ?_
      refine g_icmp_ge C (tgt := 29) dX4_allMoves_7 (by decide) (fun _ => ?_) (fun h7_1 => absurd (by decide) h7_1)
      refine g_iload_n C dX4_allMoves_29 1 rfl ?_
      exact g_iret C hret hlk dX4_allMoves_30 rfl rfl
    | succ k ih =>
      intro q hn9
      have hq9 : q < 9 := by omega
      refine g_iload_n C dX4_allMoves_4 2 rfl ?_
      refine g_bipush C (v := 9) dX4_allMoves_5 cb_9 ?_
      refine g_icmp_ge C (tgt := 29) dX4_allMoves_7 (by decide) (fun h7_2 => absurd h7_2 (ge9 hq9)) (fun _ => ?_)
      refine g_iload_n C dX4_allMoves_10 1 rfl ?_
      refine g_aload_n C dX4_allMoves_11 0 rfl ?_
      refine g_get C (v := .ref (ma 1)) fl_X4_allMoves_X4 0 rfl rfl 1 (by decide) fw_X4_allMoves_fld7 rfl dX4_allMoves_12 ?_
      refine g_iload_n C dX4_allMoves_15 2 rfl ?_
      refine g_iconst C (v := 4) dX4_allMoves_16 ci_4 ?_
      refine g_callSi C (c_X4_of l D cI cO q 4 (6 * q + 5) rfl) gX4_allMoves_X4_of rfl ⟨rfl, rfl⟩ hd_X4_of ⟨Nat.le_of_ble_eq_true rfl, Nat.le_of_ble_eq_true rfl⟩ [0, 1] rfl (fun _ _ => trivial) rfl (rest := [.ref (ma 1), .int (yAm0 u q)]) rfl (Nat.le_of_ble_eq_true rfl) dX4_allMoves_17 ⟨Nat.zero_le _, Nat.zero_le _⟩ (pre := []) (post := (wM ma cI th u a9 sv z t n dg)) (ws' := (wM ma cI th u a9 sv z t n dg)) rfl rfl ?_
      refine g_iald C (x := u (6 * q + 5)) 1 0 rfl rfl (6 * q + 5) rfl (by omega) (by decide) rfl dX4_allMoves_20 ?_
      refine g_iadd C (v := (yAm0 u q) + (u (6 * q + 5))) dX4_allMoves_21 rfl ?_
      refine g_istore_n C (lv' := [(1, .int ((yAm0 u q) + (u (6 * q + 5)))), (0, .ref (ma 0)), (2, .int (nI q))]) dX4_allMoves_22 rfl (by decide) rfl ?_
      refine g_iinc C (v := nI (q + 1)) (lv' := [(2, .int (nI (q + 1))), (1, .int ((yAm0 u q) + (u (6 * q + 5)))), (0, .ref (ma 0))]) dX4_allMoves_23 2 rfl (inc_nI _) (by decide) rfl ?_
      refine g_goto C (tgt := 4) dX4_allMoves_26 (by decide) ?_
      refine g_lv [2, 1, 0] (lv' := [(0, .ref (ma 0)), (1, .int ((yAm0 u q) + (u (6 * q + 5)))), (2, .int (nI (q + 1)))]) rfl ?_
      exact ih (q + 1) (by omega)
  refine g_iconst C (v := 0) dX4_allMoves_0 ci_0 ?_
  refine g_istore_n C (lv' := [(1, .int 0), (0, .ref (ma 0))]) dX4_allMoves_1 rfl (by decide) rfl ?_
  refine g_iconst C (v := 0) dX4_allMoves_2 ci_0 ?_
  refine g_istore_n C (lv' := [(2, .int 0), (1, .int 0), (0, .ref (ma 0))]) dX4_allMoves_3 rfl (by decide) rfl ?_
  refine g_lv [2, 1, 0] (lv' := [(0, .ref (ma 0)), (1, .int 0), (2, .int 0)]) rfl ?_
  exact K 9 0 rfl
theorem hd_X4_shows : yX4_shows.cls = RX4 ∧ yX4_shows.cls ≠ "java/lang/invoke/MethodHandle" ∧ yX4_shows.cls ≠ "java/lang/invoke/VarHandle" ∧ (parseMethodDescriptor yX4_shows.desc).map (fun d => d.parameters.length) = some 1 := by decide +kernel
theorem hd_X4_can : yX4_can.cls = RX4 ∧ yX4_can.cls ≠ "java/lang/invoke/MethodHandle" ∧ yX4_can.cls ≠ "java/lang/invoke/VarHandle" ∧ (parseMethodDescriptor yX4_can.desc).map (fun d => d.parameters.length) = some 2 := by decide +kernel
theorem hd_X4_comes : yX4_comes.cls = RX4 ∧ yX4_comes.cls ≠ "java/lang/invoke/MethodHandle" ∧ yX4_comes.cls ≠ "java/lang/invoke/VarHandle" ∧ (parseMethodDescriptor yX4_comes.desc).map (fun d => d.parameters.length) = some 2 := by decide +kernel
theorem fw_X4_carries_fld7 : Cond.fieldLink RX4 7 "StuckRodsModel" "s" "[I" ∈ wsX4_carries := (List.mem_cons_of_mem _ (List.mem_append_left _ (List.mem_append_left _ (List.mem_of_getElem? (i := 0) rfl))))
theorem fl_X4_carries_X4 : ∀ w ∈ wsX40, w ∈ wsX4_carries := fun _ h => List.mem_cons_of_mem _ (List.mem_append_right _ h)
abbrev rmX4_carries : Room := { frames := 4, cells := 0, slots := 0, locals := 95 }
set_option maxHeartbeats 1000000 in
set_option maxRecDepth 100000 in
theorem c_X4_carries (l : Launch) (D : va_G) (cI cO : ClassId) (ma : Nat → Nat) (th : Int32) (u a9 sv : Nat → Int32) (z : Nat) (t : Nat → Int32) (n : Nat) (dg : Int64) (hn : n ≤ 60) (hz : z ≤ 6) (r : Nat) (hr : r ≤ 9) (b9 : Int32) : cR (fun _ => True) l yX4_carries wsX4_carries rmX4_carries D vwCl (tyA cI cO) [.ref (ma 0), .int (nI r), .int b9] (wM ma cI th u a9 sv z t n dg) (some (.int ((if (yCa b9 (9 - r) u r).1 = true then 1 else 0)))) (wM ma cI th ((yCa b9 (9 - r) u r).2) a9 sv z t n dg) := by
  refine cR_of (cc := cX4_carries) (maxL := 4) (ret := (some .boolean)) (by decide) rfl (Nat.le_of_ble_eq_true rfl) ?_
  intro p e s m below meth c A C hret hlk hnm hF
  refine g_lv [0, 1, 2] (lv' := [(0, .ref (ma 0)), (1, .int (nI r)), (2, .int b9)]) rfl ?_
  have K : ∀ (k q : Nat), k + q = 9 → ∀ u1 : Nat → Int32, yCa b9 k u1 q = yCa b9 (9 - r) u r → gG p l e rmX4_carries s m ([.ref (ma 0), .int (nI r), .int b9] : List Value).toArray below meth c D vwCl A s.heap 4 (MQ below (cQ (some (.int ((if (yCa b9 (9 - r) u r).1 = true then 1 else 0)))) (cB D vwCl (tyA cI cO) A (wM ma cI th ((yCa b9 (9 - r) u r).2) a9 sv z t n dg)) A) ([.ref (ma 0), .int (nI r), .int b9] : List Value).toArray s 0 0 A) 0 0 (wM ma cI th u1 a9 sv z t n dg) 2 [(0, .ref (ma 0)), (1, .int (nI r)), (2, .int b9), (3, .int (nI q))] [] := by
    intro k
    induction k with
    | zero =>
      intro q hn9 u1 hq
      obtain rfl : q = 9 := by omega
      refine g_iload_n C dX4_carries_2 3 rfl ?_
      refine g_bipush C (v := 9) dX4_carries_3 cb_9 ?_
      refine g_icmp_ge C (tgt := 62) dX4_carries_5 (by decide) (fun _ => ?_) (fun h5_1 => absurd (by decide) h5_1)
      refine g_iload_n C dX4_carries_62 3 rfl ?_
      refine g_bipush C (v := 9) dX4_carries_63 cb_9 ?_
      refine g_icmp_ne C (tgt := 70) dX4_carries_65 (by decide) (fun h65_2 => absurd rfl h65_2) (fun _ => ?_)
      refine g_iconst C (v := 0) dX4_carries_68 ci_0 ?_
      exact g_zret C hret hlk dX4_carries_69 (Or.inl rfl) (by rw [← hq]; rfl) (by rw [← hq]; rfl)
    | succ k ih =>
      intro q hn9 u1 hq
      have hq9 : q < 9 := by omega
      refine g_iload_n C dX4_carries_2 3 rfl ?_
      refine g_bipush C (v := 9) dX4_carries_3 cb_9 ?_
      refine g_icmp_ge C (tgt := 62) dX4_carries_5 (by decide) (fun h5_3 => absurd h5_3 (ge9 hq9)) (fun _ => ?_)
      refine g_aload_n C dX4_carries_8 0 rfl ?_
      refine g_iload_n C dX4_carries_9 3 rfl ?_
      refine g_aload_n C dX4_carries_10 0 rfl ?_
      refine g_iload_n C dX4_carries_11 3 rfl ?_
      refine g_callVi C (c_X4_shows l D cI cO ma th u1 a9 sv z t n dg hn hz q ((by omega))) gX4_carries_X4_shows rfl ⟨rfl, rfl⟩ hd_X4_shows ⟨Nat.le_of_ble_eq_true rfl, Nat.le_of_ble_eq_true rfl⟩ [0, 1] rfl (fun _ _ => trivial) rfl (rest := [.int (nI q), .ref (ma 0)]) rfl (Nat.le_of_ble_eq_true rfl) dX4_carries_12 ⟨Nat.zero_le _, Nat.zero_le _⟩ 0 rfl rfl rfl (pre := []) (post := []) (ws' := (wM ma cI th u1 a9 sv z t n dg)) rfl rfl ?_
      refine g_iload_n C dX4_carries_15 2 rfl ?_
      refine g_iadd C (v := (xSh u1 q) + b9) dX4_carries_16 rfl ?_
      refine g_callVi C (c_X4_can l D cI cO ma th u1 a9 sv z t n dg hn hz q ((by omega)) ((xSh u1 q) + b9)) gX4_carries_X4_can rfl ⟨rfl, rfl⟩ hd_X4_can ⟨Nat.le_of_ble_eq_true rfl, Nat.le_of_ble_eq_true rfl⟩ [0, 1] rfl (fun _ _ => trivial) rfl (rest := []) rfl (Nat.le_of_ble_eq_true rfl) dX4_carries_17 ⟨Nat.zero_le _, Nat.zero_le _⟩ 0 rfl rfl rfl (pre := []) (post := []) (ws' := (wM ma cI th u1 a9 sv z t n dg)) rfl rfl ?_
      refine g_if_ne C (tgt := 62) dX4_carries_20 (by decide) (fun h20_4 => ?_) (fun h20_4 => ?_)
      · have h20_4 := bnz h20_4
        refine g_iload_n C dX4_carries_62 3 rfl ?_
        refine g_bipush C (v := 9) dX4_carries_63 cb_9 ?_
        refine g_icmp_ne C (tgt := 70) dX4_carries_65 (by decide) (fun _ => ?_) (fun h65_5 => absurd h65_5 (ne9 hq9))
        refine g_aload_n C dX4_carries_70 0 rfl ?_
        refine g_iload_n C dX4_carries_71 3 rfl ?_
        refine g_aload_n C dX4_carries_72 0 rfl ?_
        refine g_iload_n C dX4_carries_73 3 rfl ?_
        refine g_callVi C (c_X4_shows l D cI cO ma th u1 a9 sv z t n dg hn hz q ((by omega))) gX4_carries_X4_shows rfl ⟨rfl, rfl⟩ hd_X4_shows ⟨Nat.le_of_ble_eq_true rfl, Nat.le_of_ble_eq_true rfl⟩ [0, 1] rfl (fun _ _ => trivial) rfl (rest := [.int (nI q), .ref (ma 0)]) rfl (Nat.le_of_ble_eq_true rfl) dX4_carries_74 ⟨Nat.zero_le _, Nat.zero_le _⟩ 0 rfl rfl rfl (pre := []) (post := []) (ws' := (wM ma cI th u1 a9 sv z t n dg)) rfl rfl ?_
        refine g_iload_n C dX4_carries_77 2 rfl ?_
        refine g_iadd C (v := (xSh u1 q) + b9) dX4_carries_78 rfl ?_
        refine g_callVi C (c_X4_can l D cI cO ma th u1 a9 sv z t n dg hn hz q ((by omega)) ((xSh u1 q) + b9)) gX4_carries_X4_can rfl ⟨rfl, rfl⟩ hd_X4_can ⟨Nat.le_of_ble_eq_true rfl, Nat.le_of_ble_eq_true rfl⟩ [0, 1] rfl (fun _ _ => trivial) rfl (rest := []) rfl (Nat.le_of_ble_eq_true rfl) dX4_carries_79 ⟨Nat.zero_le _, Nat.zero_le _⟩ 0 rfl rfl rfl (pre := []) (post := []) (ws' := (wM ma cI th u1 a9 sv z t n dg)) rfl rfl ?_
        refine g_if_eq C (tgt := 99) dX4_carries_82 (by decide) (fun h82_6 => absurd h82_6 (bt h20_4)) (fun _ => ?_)
        refine g_aload_n C dX4_carries_85 0 rfl ?_
        refine g_iload_n C dX4_carries_86 3 rfl ?_
        refine g_aload_n C dX4_carries_87 0 rfl ?_
        refine g_iload_n C dX4_carries_88 3 rfl ?_
        refine g_callVi C (c_X4_shows l D cI cO ma th u1 a9 sv z t n dg hn hz q ((by omega))) gX4_carries_X4_shows rfl ⟨rfl, rfl⟩ hd_X4_shows ⟨Nat.le_of_ble_eq_true rfl, Nat.le_of_ble_eq_true rfl⟩ [0, 1] rfl (fun _ _ => trivial) rfl (rest := [.int (nI q), .ref (ma 0)]) rfl (Nat.le_of_ble_eq_true rfl) dX4_carries_89 ⟨Nat.zero_le _, Nat.zero_le _⟩ 0 rfl rfl rfl (pre := []) (post := []) (ws' := (wM ma cI th u1 a9 sv z t n dg)) rfl rfl ?_
        refine g_iload_n C dX4_carries_92 2 rfl ?_
        refine g_iadd C (v := (xSh u1 q) + b9) dX4_carries_93 rfl ?_
        refine g_callVv C (c_X4_comes l D cI cO ma th u1 a9 sv z t n dg hn hz q ((by omega)) ((xSh u1 q) + b9)) gX4_carries_X4_comes rfl ⟨rfl, rfl⟩ hd_X4_comes ⟨Nat.le_of_ble_eq_true rfl, Nat.le_of_ble_eq_true rfl⟩ [0, 1] rfl (fun _ _ => trivial) rfl (rest := []) rfl (Nat.le_of_ble_eq_true rfl) dX4_carries_94 ⟨Nat.zero_le _, Nat.zero_le _⟩ 0 rfl rfl rfl (pre := []) (post := []) (ws' := (wM ma cI th (yCo u1 q ((xSh u1 q) + b9)) a9 sv z t n dg)) rfl rfl ?_
        refine g_iconst C (v := 1) dX4_carries_97 ci_1 ?_
        exact g_zret C hret hlk dX4_carries_98 (Or.inr rfl) (by rw [← hq]; simp only [yCa, yBw, eq_true h20_4, Bool.false_eq_true, not_false_eq_true, not_true_eq_false, and_self, and_true, true_and, and_false, false_and, or_true, true_or, or_false, false_or, or_self, if_true, if_false, eq_self, ite_true, ite_false, reduceIte]) (by rw [← hq]; simp only [yCa, yBw, eq_true h20_4, Bool.false_eq_true, not_false_eq_true, not_true_eq_false, and_self, and_true, true_and, and_false, false_and, or_true, true_or, or_false, false_or, or_self, if_true, if_false, eq_self, ite_true, ite_false, reduceIte])
      · have h20_4 := bz h20_4
        refine g_aload_n C dX4_carries_23 0 rfl ?_
        refine g_iload_n C dX4_carries_24 3 rfl ?_
        refine g_aload_n C dX4_carries_25 0 rfl ?_
        refine g_iload_n C dX4_carries_26 3 rfl ?_
        refine g_callVi C (c_X4_shows l D cI cO ma th u1 a9 sv z t n dg hn hz q ((by omega))) gX4_carries_X4_shows rfl ⟨rfl, rfl⟩ hd_X4_shows ⟨Nat.le_of_ble_eq_true rfl, Nat.le_of_ble_eq_true rfl⟩ [0, 1] rfl (fun _ _ => trivial) rfl (rest := [.int (nI q), .ref (ma 0)]) rfl (Nat.le_of_ble_eq_true rfl) dX4_carries_27 ⟨Nat.zero_le _, Nat.zero_le _⟩ 0 rfl rfl rfl (pre := []) (post := []) (ws' := (wM ma cI th u1 a9 sv z t n dg)) rfl rfl ?_
        refine g_bipush C (v := 9) dX4_carries_30 cb_9 ?_
        refine g_iload_n C dX4_carries_32 2 rfl ?_
        refine g_imul C (v := 9 * b9) dX4_carries_33 rfl ?_
        refine g_isub C (v := (xSh u1 q) - (9 * b9)) dX4_carries_34 rfl ?_
        refine g_callVi C (c_X4_can l D cI cO ma th u1 a9 sv z t n dg hn hz q ((by omega)) ((xSh u1 q) - (9 * b9))) gX4_carries_X4_can rfl ⟨rfl, rfl⟩ hd_X4_can ⟨Nat.le_of_ble_eq_true rfl, Nat.le_of_ble_eq_true rfl⟩ [0, 1] rfl (fun _ _ => trivial) rfl (rest := []) rfl (Nat.le_of_ble_eq_true rfl) dX4_carries_35 ⟨Nat.zero_le _, Nat.zero_le _⟩ 0 rfl rfl rfl (pre := []) (post := []) (ws' := (wM ma cI th u1 a9 sv z t n dg)) rfl rfl ?_
        refine g_if_eq C (tgt := 62) dX4_carries_38 (by decide) (fun h38_7 => ?_) (fun h38_7 => ?_)
        · have h38_7 := bz h38_7
          refine g_iload_n C dX4_carries_62 3 rfl ?_
          refine g_bipush C (v := 9) dX4_carries_63 cb_9 ?_
          refine g_icmp_ne C (tgt := 70) dX4_carries_65 (by decide) (fun _ => ?_) (fun h65_8 => absurd h65_8 (ne9 hq9))
          refine g_aload_n C dX4_carries_70 0 rfl ?_
          refine g_iload_n C dX4_carries_71 3 rfl ?_
          refine g_aload_n C dX4_carries_72 0 rfl ?_
          refine g_iload_n C dX4_carries_73 3 rfl ?_
          refine g_callVi C (c_X4_shows l D cI cO ma th u1 a9 sv z t n dg hn hz q ((by omega))) gX4_carries_X4_shows rfl ⟨rfl, rfl⟩ hd_X4_shows ⟨Nat.le_of_ble_eq_true rfl, Nat.le_of_ble_eq_true rfl⟩ [0, 1] rfl (fun _ _ => trivial) rfl (rest := [.int (nI q), .ref (ma 0)]) rfl (Nat.le_of_ble_eq_true rfl) dX4_carries_74 ⟨Nat.zero_le _, Nat.zero_le _⟩ 0 rfl rfl rfl (pre := []) (post := []) (ws' := (wM ma cI th u1 a9 sv z t n dg)) rfl rfl ?_
          refine g_iload_n C dX4_carries_77 2 rfl ?_
          refine g_iadd C (v := (xSh u1 q) + b9) dX4_carries_78 rfl ?_
          refine g_callVi C (c_X4_can l D cI cO ma th u1 a9 sv z t n dg hn hz q ((by omega)) ((xSh u1 q) + b9)) gX4_carries_X4_can rfl ⟨rfl, rfl⟩ hd_X4_can ⟨Nat.le_of_ble_eq_true rfl, Nat.le_of_ble_eq_true rfl⟩ [0, 1] rfl (fun _ _ => trivial) rfl (rest := []) rfl (Nat.le_of_ble_eq_true rfl) dX4_carries_79 ⟨Nat.zero_le _, Nat.zero_le _⟩ 0 rfl rfl rfl (pre := []) (post := []) (ws' := (wM ma cI th u1 a9 sv z t n dg)) rfl rfl ?_
          refine g_if_eq C (tgt := 99) dX4_carries_82 (by decide) (fun _ => ?_) (fun h82_9 => absurd (bf h20_4) h82_9)
          refine g_aload_n C dX4_carries_99 0 rfl ?_
          refine g_get C (v := .ref (ma 1)) fl_X4_carries_X4 0 rfl rfl 1 (by decide) fw_X4_carries_fld7 rfl dX4_carries_100 ?_
          refine g_iload_n C dX4_carries_103 3 rfl ?_
          refine g_iconst C (v := 2) dX4_carries_104 ci_2 ?_
          refine g_callSi C (c_X4_of l D cI cO q 2 (6 * q + 3) rfl) gX4_carries_X4_of rfl ⟨rfl, rfl⟩ hd_X4_of ⟨Nat.le_of_ble_eq_true rfl, Nat.le_of_ble_eq_true rfl⟩ [0, 1] rfl (fun _ _ => trivial) rfl (rest := [.ref (ma 1)]) rfl (Nat.le_of_ble_eq_true rfl) dX4_carries_105 ⟨Nat.zero_le _, Nat.zero_le _⟩ (pre := []) (post := (wM ma cI th u1 a9 sv z t n dg)) (ws' := (wM ma cI th u1 a9 sv z t n dg)) rfl rfl ?_
          refine g_dup2 C dX4_carries_108 rfl rfl ?_
          refine g_iald C (x := u1 (6 * q + 3)) 1 0 rfl rfl (6 * q + 3) rfl (by omega) (by decide) rfl dX4_carries_109 ?_
          refine g_iload_n C dX4_carries_110 2 rfl ?_
          refine g_iadd C (v := (u1 (6 * q + 3)) + b9) dX4_carries_111 rfl ?_
          refine g_iast C (ws' := (wM ma cI th (upd u1 (6 * q + 3) ((u1 (6 * q + 3)) + b9)) a9 sv z t n dg)) 1 0 rfl rfl (6 * q + 3) rfl (by omega) (by decide) dX4_carries_112 rfl ?_
          refine g_aload_n C dX4_carries_113 0 rfl ?_
          refine g_get C (v := .ref (ma 1)) fl_X4_carries_X4 0 rfl rfl 1 (by decide) fw_X4_carries_fld7 rfl dX4_carries_114 ?_
          refine g_iload_n C dX4_carries_117 3 rfl ?_
          refine g_iconst C (v := 5) dX4_carries_118 ci_5 ?_
          refine g_callSi C (c_X4_of l D cI cO q 5 (6 * q + 6) rfl) gX4_carries_X4_of rfl ⟨rfl, rfl⟩ hd_X4_of ⟨Nat.le_of_ble_eq_true rfl, Nat.le_of_ble_eq_true rfl⟩ [0, 1] rfl (fun _ _ => trivial) rfl (rest := [.ref (ma 1)]) rfl (Nat.le_of_ble_eq_true rfl) dX4_carries_119 ⟨Nat.zero_le _, Nat.zero_le _⟩ (pre := []) (post := (wM ma cI th (upd u1 (6 * q + 3) ((u1 (6 * q + 3)) + b9)) a9 sv z t n dg)) (ws' := (wM ma cI th (upd u1 (6 * q + 3) ((u1 (6 * q + 3)) + b9)) a9 sv z t n dg)) rfl rfl ?_
          refine g_dup2 C dX4_carries_122 rfl rfl ?_
          refine g_iald C (x := (upd u1 (6 * q + 3) ((u1 (6 * q + 3)) + b9)) (6 * q + 6)) 1 0 rfl rfl (6 * q + 6) rfl (by omega) (by decide) rfl dX4_carries_123 ?_
          refine g_iconst C (v := 1) dX4_carries_124 ci_1 ?_
          refine g_iadd C (v := ((upd u1 (6 * q + 3) ((u1 (6 * q + 3)) + b9)) (6 * q + 6)) + 1) dX4_carries_125 rfl ?_
          refine g_iast C (ws' := (wM ma cI th (upd (upd u1 (6 * q + 3) ((u1 (6 * q + 3)) + b9)) (6 * q + 6) (((upd u1 (6 * q + 3) ((u1 (6 * q + 3)) + b9)) (6 * q + 6)) + 1)) a9 sv z t n dg)) 1 0 rfl rfl (6 * q + 6) rfl (by omega) (by decide) dX4_carries_126 rfl ?_
          refine g_iload_n C dX4_carries_127 2 rfl ?_
          refine g_if_le C (tgt := 158) dX4_carries_128 (by decide) (fun h128_10 => ?_) (fun h128_10 => ?_)
          · refine g_aload_n C dX4_carries_158 0 rfl ?_
            refine g_get C (v := .ref (ma 1)) fl_X4_carries_X4 0 rfl rfl 1 (by decide) fw_X4_carries_fld7 rfl dX4_carries_159 ?_
            refine g_iload_n C dX4_carries_162 3 rfl ?_
            refine g_iconst C (v := 2) dX4_carries_163 ci_2 ?_
            refine g_callSi C (c_X4_of l D cI cO q 2 (6 * q + 3) rfl) gX4_carries_X4_of rfl ⟨rfl, rfl⟩ hd_X4_of ⟨Nat.le_of_ble_eq_true rfl, Nat.le_of_ble_eq_true rfl⟩ [0, 1] rfl (fun _ _ => trivial) rfl (rest := [.ref (ma 1)]) rfl (Nat.le_of_ble_eq_true rfl) dX4_carries_164 ⟨Nat.zero_le _, Nat.zero_le _⟩ (pre := []) (post := (wM ma cI th (upd (upd u1 (6 * q + 3) ((u1 (6 * q + 3)) + b9)) (6 * q + 6) (((upd u1 (6 * q + 3) ((u1 (6 * q + 3)) + b9)) (6 * q + 6)) + 1)) a9 sv z t n dg)) (ws' := (wM ma cI th (upd (upd u1 (6 * q + 3) ((u1 (6 * q + 3)) + b9)) (6 * q + 6) (((upd u1 (6 * q + 3) ((u1 (6 * q + 3)) + b9)) (6 * q + 6)) + 1)) a9 sv z t n dg)) rfl rfl ?_
            refine g_iald C (x := (upd (upd u1 (6 * q + 3) ((u1 (6 * q + 3)) + b9)) (6 * q + 6) (((upd u1 (6 * q + 3) ((u1 (6 * q + 3)) + b9)) (6 * q + 6)) + 1)) (6 * q + 3)) 1 0 rfl rfl (6 * q + 3) rfl (by omega) (by decide) rfl dX4_carries_167 ?_
            refine g_aload_n C dX4_carries_168 0 rfl ?_
            refine g_get C (v := .ref (ma 1)) fl_X4_carries_X4 0 rfl rfl 1 (by decide) fw_X4_carries_fld7 rfl dX4_carries_169 ?_
            refine g_iconst C (v := 0) dX4_carries_172 ci_0 ?_
            refine g_iald C (x := (upd (upd u1 (6 * q + 3) ((u1 (6 * q + 3)) + b9)) (6 * q + 6) (((upd u1 (6 * q + 3) ((u1 (6 * q + 3)) + b9)) (6 * q + 6)) + 1)) 0) 1 0 rfl rfl 0 rfl (by decide) (by decide) rfl dX4_carries_173 ?_
            refine g_ineg C (v := -((upd (upd u1 (6 * q + 3) ((u1 (6 * q + 3)) + b9)) (6 * q + 6) (((upd u1 (6 * q + 3) ((u1 (6 * q + 3)) + b9)) (6 * q + 6)) + 1)) 0)) dX4_carries_174 rfl ?_
            refine g_icmp_lt C (tgt := 182) dX4_carries_175 (by decide) (fun h175_11 => ?_) (fun h175_11 => ?_)
            · refine g_iconst C (v := 0) dX4_carries_182 ci_0 ?_
              exact g_zret C hret hlk dX4_carries_183 (Or.inl rfl) (by rw [← hq]; simp only [yCa, yBw, h20_4, h38_7, eq_true h128_10, eq_true h175_11, Bool.false_eq_true, not_false_eq_true, not_true_eq_false, and_self, and_true, true_and, and_false, false_and, or_true, true_or, or_false, false_or, or_self, if_true, if_false, eq_self, ite_true, ite_false, reduceIte]) (by rw [← hq]; simp only [yCa, yBw, h20_4, h38_7, eq_true h128_10, eq_true h175_11, Bool.false_eq_true, not_false_eq_true, not_true_eq_false, and_self, and_true, true_and, and_false, false_and, or_true, true_or, or_false, false_or, or_self, if_true, if_false, eq_self, ite_true, ite_false, reduceIte])
            · refine g_iconst C (v := 1) dX4_carries_178 ci_1 ?_
              refine g_goto C (tgt := 183) dX4_carries_179 (by decide) ?_
              exact g_zret C hret hlk dX4_carries_183 (Or.inr rfl) (by rw [← hq]; simp only [yCa, yBw, h20_4, h38_7, eq_true h128_10, h175_11, Bool.false_eq_true, not_false_eq_true, not_true_eq_false, and_self, and_true, true_and, and_false, false_and, or_true, true_or, or_false, false_or, or_self, if_true, if_false, eq_self, ite_true, ite_false, reduceIte]) (by rw [← hq]; simp only [yCa, yBw, h20_4, h38_7, eq_true h128_10, h175_11, Bool.false_eq_true, not_false_eq_true, not_true_eq_false, and_self, and_true, true_and, and_false, false_and, or_true, true_or, or_false, false_or, or_self, if_true, if_false, eq_self, ite_true, ite_false, reduceIte])
          · refine g_aload_n C dX4_carries_131 0 rfl ?_
            refine g_get C (v := .ref (ma 1)) fl_X4_carries_X4 0 rfl rfl 1 (by decide) fw_X4_carries_fld7 rfl dX4_carries_132 ?_
            refine g_iload_n C dX4_carries_135 3 rfl ?_
            refine g_iconst C (v := 2) dX4_carries_136 ci_2 ?_
            refine g_callSi C (c_X4_of l D cI cO q 2 (6 * q + 3) rfl) gX4_carries_X4_of rfl ⟨rfl, rfl⟩ hd_X4_of ⟨Nat.le_of_ble_eq_true rfl, Nat.le_of_ble_eq_true rfl⟩ [0, 1] rfl (fun _ _ => trivial) rfl (rest := [.ref (ma 1)]) rfl (Nat.le_of_ble_eq_true rfl) dX4_carries_137 ⟨Nat.zero_le _, Nat.zero_le _⟩ (pre := []) (post := (wM ma cI th (upd (upd u1 (6 * q + 3) ((u1 (6 * q + 3)) + b9)) (6 * q + 6) (((upd u1 (6 * q + 3) ((u1 (6 * q + 3)) + b9)) (6 * q + 6)) + 1)) a9 sv z t n dg)) (ws' := (wM ma cI th (upd (upd u1 (6 * q + 3) ((u1 (6 * q + 3)) + b9)) (6 * q + 6) (((upd u1 (6 * q + 3) ((u1 (6 * q + 3)) + b9)) (6 * q + 6)) + 1)) a9 sv z t n dg)) rfl rfl ?_
            refine g_iald C (x := (upd (upd u1 (6 * q + 3) ((u1 (6 * q + 3)) + b9)) (6 * q + 6) (((upd u1 (6 * q + 3) ((u1 (6 * q + 3)) + b9)) (6 * q + 6)) + 1)) (6 * q + 3)) 1 0 rfl rfl (6 * q + 3) rfl (by omega) (by decide) rfl dX4_carries_140 ?_
            refine g_aload_n C dX4_carries_141 0 rfl ?_
            refine g_get C (v := .ref (ma 1)) fl_X4_carries_X4 0 rfl rfl 1 (by decide) fw_X4_carries_fld7 rfl dX4_carries_142 ?_
            refine g_iconst C (v := 0) dX4_carries_145 ci_0 ?_
            refine g_iald C (x := (upd (upd u1 (6 * q + 3) ((u1 (6 * q + 3)) + b9)) (6 * q + 6) (((upd u1 (6 * q + 3) ((u1 (6 * q + 3)) + b9)) (6 * q + 6)) + 1)) 0) 1 0 rfl rfl 0 rfl (by decide) (by decide) rfl dX4_carries_146 ?_
            refine g_icmp_gt C (tgt := 154) dX4_carries_147 (by decide) (fun h147_12 => ?_) (fun h147_12 => ?_)
            · refine g_iconst C (v := 0) dX4_carries_154 ci_0 ?_
              refine g_goto C (tgt := 183) dX4_carries_155 (by decide) ?_
              exact g_zret C hret hlk dX4_carries_183 (Or.inl rfl) (by rw [← hq]; simp only [yCa, yBw, h20_4, h38_7, h128_10, eq_true h147_12, Bool.false_eq_true, not_false_eq_true, not_true_eq_false, and_self, and_true, true_and, and_false, false_and, or_true, true_or, or_false, false_or, or_self, if_true, if_false, eq_self, ite_true, ite_false, reduceIte]) (by rw [← hq]; simp only [yCa, yBw, h20_4, h38_7, h128_10, eq_true h147_12, Bool.false_eq_true, not_false_eq_true, not_true_eq_false, and_self, and_true, true_and, and_false, false_and, or_true, true_or, or_false, false_or, or_self, if_true, if_false, eq_self, ite_true, ite_false, reduceIte])
            · refine g_iconst C (v := 1) dX4_carries_150 ci_1 ?_
              refine g_goto C (tgt := 183) dX4_carries_151 (by decide) ?_
              exact g_zret C hret hlk dX4_carries_183 (Or.inr rfl) (by rw [← hq]; simp only [yCa, yBw, h20_4, h38_7, h128_10, h147_12, Bool.false_eq_true, not_false_eq_true, not_true_eq_false, and_self, and_true, true_and, and_false, false_and, or_true, true_or, or_false, false_or, or_self, if_true, if_false, eq_self, ite_true, ite_false, reduceIte]) (by rw [← hq]; simp only [yCa, yBw, h20_4, h38_7, h128_10, h147_12, Bool.false_eq_true, not_false_eq_true, not_true_eq_false, and_self, and_true, true_and, and_false, false_and, or_true, true_or, or_false, false_or, or_self, if_true, if_false, eq_self, ite_true, ite_false, reduceIte])
        · have h38_7 := bnz h38_7
          refine g_aload_n C dX4_carries_41 0 rfl ?_
          refine g_iload_n C dX4_carries_42 3 rfl ?_
          refine g_aload_n C dX4_carries_43 0 rfl ?_
          refine g_iload_n C dX4_carries_44 3 rfl ?_
          refine g_callVi C (c_X4_shows l D cI cO ma th u1 a9 sv z t n dg hn hz q ((by omega))) gX4_carries_X4_shows rfl ⟨rfl, rfl⟩ hd_X4_shows ⟨Nat.le_of_ble_eq_true rfl, Nat.le_of_ble_eq_true rfl⟩ [0, 1] rfl (fun _ _ => trivial) rfl (rest := [.int (nI q), .ref (ma 0)]) rfl (Nat.le_of_ble_eq_true rfl) dX4_carries_45 ⟨Nat.zero_le _, Nat.zero_le _⟩ 0 rfl rfl rfl (pre := []) (post := []) (ws' := (wM ma cI th u1 a9 sv z t n dg)) rfl rfl ?_
          refine g_bipush C (v := 9) dX4_carries_48 cb_9 ?_
          refine g_iload_n C dX4_carries_50 2 rfl ?_
          refine g_imul C (v := 9 * b9) dX4_carries_51 rfl ?_
          refine g_isub C (v := (xSh u1 q) - (9 * b9)) dX4_carries_52 rfl ?_
          refine g_callVv C (c_X4_comes l D cI cO ma th u1 a9 sv z t n dg hn hz q ((by omega)) ((xSh u1 q) - (9 * b9))) gX4_carries_X4_comes rfl ⟨rfl, rfl⟩ hd_X4_comes ⟨Nat.le_of_ble_eq_true rfl, Nat.le_of_ble_eq_true rfl⟩ [0, 1] rfl (fun _ _ => trivial) rfl (rest := []) rfl (Nat.le_of_ble_eq_true rfl) dX4_carries_53 ⟨Nat.zero_le _, Nat.zero_le _⟩ 0 rfl rfl rfl (pre := []) (post := []) (ws' := (wM ma cI th (yCo u1 q ((xSh u1 q) - (9 * b9))) a9 sv z t n dg)) rfl rfl ?_
          refine g_iinc C (v := nI (q + 1)) (lv' := [(3, .int (nI (q + 1))), (0, .ref (ma 0)), (1, .int (nI r)), (2, .int b9)]) dX4_carries_56 3 rfl (inc_nI _) (by decide) rfl ?_
          refine g_goto C (tgt := 2) dX4_carries_59 (by decide) ?_
          refine g_lv [1, 2, 3, 0] (lv' := [(0, .ref (ma 0)), (1, .int (nI r)), (2, .int b9), (3, .int (nI (q + 1)))]) rfl ?_
          exact ih (q + 1) (by omega) _ (by rw [← hq]; simp only [yCa, h20_4, eq_true h38_7, Bool.false_eq_true, not_false_eq_true, not_true_eq_false, and_self, and_true, true_and, and_false, false_and, or_true, true_or, or_false, false_or, or_self, if_true, if_false, eq_self, ite_true, ite_false, reduceIte])
  refine g_iload_n C dX4_carries_0 1 rfl ?_
  refine g_istore_n C (lv' := [(3, .int (nI r)), (0, .ref (ma 0)), (1, .int (nI r)), (2, .int b9)]) dX4_carries_1 rfl (by decide) rfl ?_
  refine g_lv [1, 2, 3, 0] (lv' := [(0, .ref (ma 0)), (1, .int (nI r)), (2, .int b9), (3, .int (nI r))]) rfl ?_
  exact K (9 - r) r (by omega) _ rfl
theorem hd_X4_carries : yX4_carries.cls = RX4 ∧ yX4_carries.cls ≠ "java/lang/invoke/MethodHandle" ∧ yX4_carries.cls ≠ "java/lang/invoke/VarHandle" ∧ (parseMethodDescriptor yX4_carries.desc).map (fun d => d.parameters.length) = some 2 := by decide +kernel
abbrev rmX4_adds : Room := { frames := 5, cells := 0, slots := 0, locals := 118 }
set_option maxHeartbeats 1000000 in
set_option maxRecDepth 100000 in
theorem c_X4_adds (l : Launch) (D : va_G) (cI cO : ClassId) (ma : Nat → Nat) (th : Int32) (u a9 sv : Nat → Int32) (z : Nat) (t : Nat → Int32) (n : Nat) (dg : Int64) (hn : n ≤ 60) (hz : z ≤ 6) (r : Nat) (hr : r < 9) (v : Int32) : cR (fun _ => True) l yX4_adds wsX4_adds rmX4_adds D vwCl (tyA cI cO) [.ref (ma 0), .int (nI r), .int v] (wM ma cI th u a9 sv z t n dg) (some (.int ((if (yAd u r v).1 = true then 1 else 0)))) (wM ma cI th ((yAd u r v).2) a9 sv z t n dg) := by
  refine cR_of (cc := cX4_adds) (maxL := 4) (ret := (some .boolean)) (by decide) rfl (Nat.le_of_ble_eq_true rfl) ?_
  intro p e s m below meth c A C hret hlk hnm hF
  refine g_lv [0, 1, 2] (lv' := [(0, .ref (ma 0)), (1, .int (nI r)), (2, .int v)]) rfl ?_
  refine g_iload_n C dX4_adds_0 2 rfl ?_
  refine g_if_le C (tgt := 8) dX4_adds_1 (by decide) (fun h1_1 => ?_) (fun h1_1 => ?_)
  · refine g_iconst C (v := -1) dX4_adds_8 ci_m1 ?_
    refine g_istore_n C (lv' := [(3, .int (-1)), (0, .ref (ma 0)), (1, .int (nI r)), (2, .int v)]) dX4_adds_9 rfl (by decide) rfl ?_
    refine g_iload_n C dX4_adds_10 3 rfl ?_
    refine g_if_ne C (tgt := 16) dX4_adds_11 (by decide) (fun h11_2 => ?_) (fun h11_2 => ?_)
    · refine g_aload_n C dX4_adds_16 1 rfl ?_
      refine g_iload_n C dX4_adds_17 2 rfl ?_
      refine g_aload_n C dX4_adds_18 1 rfl ?_
      refine g_iload_n C dX4_adds_19 2 rfl ?_
      refine g_callVi C (c_X4_shows l D cI cO ma th u a9 sv z t n dg hn hz r ((by omega))) gX4_adds_X4_shows rfl ⟨rfl, rfl⟩ hd_X4_shows ⟨Nat.le_of_ble_eq_true rfl, Nat.le_of_ble_eq_true rfl⟩ [0, 1] rfl (fun _ _ => trivial) rfl (rest := [.int (nI r), .ref (ma 0)]) rfl (Nat.le_of_ble_eq_true rfl) dX4_adds_20 ⟨Nat.zero_le _, Nat.zero_le _⟩ 0 rfl rfl rfl (pre := []) (post := []) (ws' := (wM ma cI th u a9 sv z t n dg)) rfl rfl ?_
      refine g_iload_n C dX4_adds_23 3 rfl ?_
      refine g_iadd C (v := (xSh u r) + v) dX4_adds_24 rfl ?_
      refine g_callVi C (c_X4_can l D cI cO ma th u a9 sv z t n dg hn hz r ((by omega)) ((xSh u r) + v)) gX4_adds_X4_can rfl ⟨rfl, rfl⟩ hd_X4_can ⟨Nat.le_of_ble_eq_true rfl, Nat.le_of_ble_eq_true rfl⟩ [0, 1] rfl (fun _ _ => trivial) rfl (rest := []) rfl (Nat.le_of_ble_eq_true rfl) dX4_adds_25 ⟨Nat.zero_le _, Nat.zero_le _⟩ 0 rfl rfl rfl (pre := []) (post := []) (ws' := (wM ma cI th u a9 sv z t n dg)) rfl rfl ?_
      refine g_if_eq C (tgt := 45) dX4_adds_28 (by decide) (fun h28_3 => ?_) (fun h28_3 => ?_)
      · have h28_3 := bz h28_3
        refine g_aload_n C dX4_adds_45 1 rfl ?_
        refine g_iload_n C dX4_adds_46 2 rfl ?_
        refine g_aload_n C dX4_adds_47 1 rfl ?_
        refine g_iload_n C dX4_adds_48 2 rfl ?_
        refine g_callVi C (c_X4_shows l D cI cO ma th u a9 sv z t n dg hn hz r ((by omega))) gX4_adds_X4_shows rfl ⟨rfl, rfl⟩ hd_X4_shows ⟨Nat.le_of_ble_eq_true rfl, Nat.le_of_ble_eq_true rfl⟩ [0, 1] rfl (fun _ _ => trivial) rfl (rest := [.int (nI r), .ref (ma 0)]) rfl (Nat.le_of_ble_eq_true rfl) dX4_adds_49 ⟨Nat.zero_le _, Nat.zero_le _⟩ 0 rfl rfl rfl (pre := []) (post := []) (ws' := (wM ma cI th u a9 sv z t n dg)) rfl rfl ?_
        refine g_iload_n C dX4_adds_52 3 rfl ?_
        refine g_iadd C (v := (xSh u r) + v) dX4_adds_53 rfl ?_
        refine g_bipush C (v := 10) dX4_adds_54 cb_10 ?_
        refine g_iload_n C dX4_adds_56 0 rfl ?_
        refine g_imul C (v := 10 * (-1)) dX4_adds_57 rfl ?_
        refine g_isub C (v := ((xSh u r) + v) - (10 * (-1))) dX4_adds_58 rfl ?_
        refine g_callVi C (c_X4_can l D cI cO ma th u a9 sv z t n dg hn hz r ((by omega)) (((xSh u r) + v) - (10 * (-1)))) gX4_adds_X4_can rfl ⟨rfl, rfl⟩ hd_X4_can ⟨Nat.le_of_ble_eq_true rfl, Nat.le_of_ble_eq_true rfl⟩ [0, 1] rfl (fun _ _ => trivial) rfl (rest := []) rfl (Nat.le_of_ble_eq_true rfl) dX4_adds_59 ⟨Nat.zero_le _, Nat.zero_le _⟩ 0 rfl rfl rfl (pre := []) (post := []) (ws' := (wM ma cI th u a9 sv z t n dg)) rfl rfl ?_
        refine g_if_ne C (tgt := 67) dX4_adds_62 (by decide) (fun h62_4 => ?_) (fun h62_4 => ?_)
        · have h62_4 := bnz h62_4
          refine g_aload_n C dX4_adds_67 1 rfl ?_
          refine g_iload_n C dX4_adds_68 2 rfl ?_
          refine g_aload_n C dX4_adds_69 1 rfl ?_
          refine g_iload_n C dX4_adds_70 2 rfl ?_
          refine g_callVi C (c_X4_shows l D cI cO ma th u a9 sv z t n dg hn hz r ((by omega))) gX4_adds_X4_shows rfl ⟨rfl, rfl⟩ hd_X4_shows ⟨Nat.le_of_ble_eq_true rfl, Nat.le_of_ble_eq_true rfl⟩ [0, 1] rfl (fun _ _ => trivial) rfl (rest := [.int (nI r), .ref (ma 0)]) rfl (Nat.le_of_ble_eq_true rfl) dX4_adds_71 ⟨Nat.zero_le _, Nat.zero_le _⟩ 0 rfl rfl rfl (pre := []) (post := []) (ws' := (wM ma cI th u a9 sv z t n dg)) rfl rfl ?_
          refine g_iload_n C dX4_adds_74 3 rfl ?_
          refine g_iadd C (v := (xSh u r) + v) dX4_adds_75 rfl ?_
          refine g_bipush C (v := 10) dX4_adds_76 cb_10 ?_
          refine g_iload_n C dX4_adds_78 0 rfl ?_
          refine g_imul C (v := 10 * (-1)) dX4_adds_79 rfl ?_
          refine g_isub C (v := ((xSh u r) + v) - (10 * (-1))) dX4_adds_80 rfl ?_
          refine g_callVv C (c_X4_comes l D cI cO ma th u a9 sv z t n dg hn hz r ((by omega)) (((xSh u r) + v) - (10 * (-1)))) gX4_adds_X4_comes rfl ⟨rfl, rfl⟩ hd_X4_comes ⟨Nat.le_of_ble_eq_true rfl, Nat.le_of_ble_eq_true rfl⟩ [0, 1] rfl (fun _ _ => trivial) rfl (rest := []) rfl (Nat.le_of_ble_eq_true rfl) dX4_adds_81 ⟨Nat.zero_le _, Nat.zero_le _⟩ 0 rfl rfl rfl (pre := []) (post := []) (ws' := (wM ma cI th (yCo u r (((xSh u r) + v) - (10 * (-1)))) a9 sv z t n dg)) rfl rfl ?_
          refine g_aload_n C dX4_adds_84 1 rfl ?_
          refine g_iload_n C dX4_adds_85 2 rfl ?_
          refine g_iconst C (v := 1) dX4_adds_86 ci_1 ?_
          refine g_iadd C (v := nI (r + 1)) dX4_adds_87 (nI_1 _) ?_
          refine g_iload_n C dX4_adds_88 0 rfl ?_
          refine g_callVi C (c_X4_carries l D cI cO ma th (yCo u r (((xSh u r) + v) - (10 * (-1)))) a9 sv z t n dg hn hz (r + 1) ((by omega)) (-1)) gX4_adds_X4_carries rfl ⟨rfl, rfl⟩ hd_X4_carries ⟨Nat.le_of_ble_eq_true rfl, Nat.le_of_ble_eq_true rfl⟩ [0, 1] rfl (fun _ _ => trivial) rfl (rest := []) rfl (Nat.le_of_ble_eq_true rfl) dX4_adds_89 ⟨Nat.zero_le _, Nat.zero_le _⟩ 0 rfl rfl rfl (pre := []) (post := []) (ws' := (wM ma cI th ((yCa (-1) (9 - (r + 1)) (yCo u r (((xSh u r) + v) - (10 * (-1)))) (r + 1)).2) a9 sv z t n dg)) rfl rfl ?_
          exact g_zret C hret hlk dX4_adds_92 b01 (by simp only [yAd, eq_true h1_1, h11_2, h28_3, eq_true h62_4, Bool.false_eq_true, not_false_eq_true, not_true_eq_false, and_self, and_true, true_and, and_false, false_and, or_true, true_or, or_false, false_or, or_self, if_true, if_false, eq_self, ite_true, ite_false, reduceIte]) (by simp only [yAd, eq_true h1_1, h11_2, h28_3, eq_true h62_4, Bool.false_eq_true, not_false_eq_true, not_true_eq_false, and_self, and_true, true_and, and_false, false_and, or_true, true_or, or_false, false_or, or_self, if_true, if_false, eq_self, ite_true, ite_false, reduceIte])
        · have h62_4 := bz h62_4
          refine g_iconst C (v := 0) dX4_adds_65 ci_0 ?_
          exact g_zret C hret hlk dX4_adds_66 (Or.inl rfl) (by simp only [yAd, eq_true h1_1, h11_2, h28_3, h62_4, Bool.false_eq_true, not_false_eq_true, not_true_eq_false, and_self, and_true, true_and, and_false, false_and, or_true, true_or, or_false, false_or, or_self, if_true, if_false, eq_self, ite_true, ite_false, reduceIte]) (by simp only [yAd, eq_true h1_1, h11_2, h28_3, h62_4, Bool.false_eq_true, not_false_eq_true, not_true_eq_false, and_self, and_true, true_and, and_false, false_and, or_true, true_or, or_false, false_or, or_self, if_true, if_false, eq_self, ite_true, ite_false, reduceIte])
      · have h28_3 := bnz h28_3
        refine g_aload_n C dX4_adds_31 1 rfl ?_
        refine g_iload_n C dX4_adds_32 2 rfl ?_
        refine g_aload_n C dX4_adds_33 1 rfl ?_
        refine g_iload_n C dX4_adds_34 2 rfl ?_
        refine g_callVi C (c_X4_shows l D cI cO ma th u a9 sv z t n dg hn hz r ((by omega))) gX4_adds_X4_shows rfl ⟨rfl, rfl⟩ hd_X4_shows ⟨Nat.le_of_ble_eq_true rfl, Nat.le_of_ble_eq_true rfl⟩ [0, 1] rfl (fun _ _ => trivial) rfl (rest := [.int (nI r), .ref (ma 0)]) rfl (Nat.le_of_ble_eq_true rfl) dX4_adds_35 ⟨Nat.zero_le _, Nat.zero_le _⟩ 0 rfl rfl rfl (pre := []) (post := []) (ws' := (wM ma cI th u a9 sv z t n dg)) rfl rfl ?_
        refine g_iload_n C dX4_adds_38 3 rfl ?_
        refine g_iadd C (v := (xSh u r) + v) dX4_adds_39 rfl ?_
        refine g_callVv C (c_X4_comes l D cI cO ma th u a9 sv z t n dg hn hz r ((by omega)) ((xSh u r) + v)) gX4_adds_X4_comes rfl ⟨rfl, rfl⟩ hd_X4_comes ⟨Nat.le_of_ble_eq_true rfl, Nat.le_of_ble_eq_true rfl⟩ [0, 1] rfl (fun _ _ => trivial) rfl (rest := []) rfl (Nat.le_of_ble_eq_true rfl) dX4_adds_40 ⟨Nat.zero_le _, Nat.zero_le _⟩ 0 rfl rfl rfl (pre := []) (post := []) (ws' := (wM ma cI th (yCo u r ((xSh u r) + v)) a9 sv z t n dg)) rfl rfl ?_
        refine g_iconst C (v := 1) dX4_adds_43 ci_1 ?_
        exact g_zret C hret hlk dX4_adds_44 (Or.inr rfl) (by simp only [yAd, eq_true h1_1, h11_2, eq_true h28_3, Bool.false_eq_true, not_false_eq_true, not_true_eq_false, and_self, and_true, true_and, and_false, false_and, or_true, true_or, or_false, false_or, or_self, if_true, if_false, eq_self, ite_true, ite_false, reduceIte]) (by simp only [yAd, eq_true h1_1, h11_2, eq_true h28_3, Bool.false_eq_true, not_false_eq_true, not_true_eq_false, and_self, and_true, true_and, and_false, false_and, or_true, true_or, or_false, false_or, or_self, if_true, if_false, eq_self, ite_true, ite_false, reduceIte])
    · refine g_iconst C (v := 1) dX4_adds_14 ci_1 ?_
      exact g_zret C hret hlk dX4_adds_15 (Or.inr rfl) (by simp only [yAd, eq_true h1_1, eq_true h11_2, Bool.false_eq_true, not_false_eq_true, not_true_eq_false, and_self, and_true, true_and, and_false, false_and, or_true, true_or, or_false, false_or, or_self, if_true, if_false, eq_self, ite_true, ite_false, reduceIte]) (by simp only [yAd, eq_true h1_1, eq_true h11_2, Bool.false_eq_true, not_false_eq_true, not_true_eq_false, and_self, and_true, true_and, and_false, false_and, or_true, true_or, or_false, false_or, or_self, if_true, if_false, eq_self, ite_true, ite_false, reduceIte])
  · refine g_iconst C (v := 1) dX4_adds_4 ci_1 ?_
    refine g_goto C (tgt := 9) dX4_adds_5 (by decide) ?_
    refine g_istore_n C (lv' := [(3, .int 1), (0, .ref (ma 0)), (1, .int (nI r)), (2, .int v)]) dX4_adds_9 rfl (by decide) rfl ?_
    refine g_iload_n C dX4_adds_10 3 rfl ?_
    refine g_if_ne C (tgt := 16) dX4_adds_11 (by decide) (fun h11_5 => ?_) (fun h11_5 => ?_)
    · refine g_aload_n C dX4_adds_16 1 rfl ?_
      refine g_iload_n C dX4_adds_17 2 rfl ?_
      refine g_aload_n C dX4_adds_18 1 rfl ?_
      refine g_iload_n C dX4_adds_19 2 rfl ?_
      refine g_callVi C (c_X4_shows l D cI cO ma th u a9 sv z t n dg hn hz r ((by omega))) gX4_adds_X4_shows rfl ⟨rfl, rfl⟩ hd_X4_shows ⟨Nat.le_of_ble_eq_true rfl, Nat.le_of_ble_eq_true rfl⟩ [0, 1] rfl (fun _ _ => trivial) rfl (rest := [.int (nI r), .ref (ma 0)]) rfl (Nat.le_of_ble_eq_true rfl) dX4_adds_20 ⟨Nat.zero_le _, Nat.zero_le _⟩ 0 rfl rfl rfl (pre := []) (post := []) (ws' := (wM ma cI th u a9 sv z t n dg)) rfl rfl ?_
      refine g_iload_n C dX4_adds_23 3 rfl ?_
      refine g_iadd C (v := (xSh u r) + v) dX4_adds_24 rfl ?_
      refine g_callVi C (c_X4_can l D cI cO ma th u a9 sv z t n dg hn hz r ((by omega)) ((xSh u r) + v)) gX4_adds_X4_can rfl ⟨rfl, rfl⟩ hd_X4_can ⟨Nat.le_of_ble_eq_true rfl, Nat.le_of_ble_eq_true rfl⟩ [0, 1] rfl (fun _ _ => trivial) rfl (rest := []) rfl (Nat.le_of_ble_eq_true rfl) dX4_adds_25 ⟨Nat.zero_le _, Nat.zero_le _⟩ 0 rfl rfl rfl (pre := []) (post := []) (ws' := (wM ma cI th u a9 sv z t n dg)) rfl rfl ?_
      refine g_if_eq C (tgt := 45) dX4_adds_28 (by decide) (fun h28_6 => ?_) (fun h28_6 => ?_)
      · have h28_6 := bz h28_6
        refine g_aload_n C dX4_adds_45 1 rfl ?_
        refine g_iload_n C dX4_adds_46 2 rfl ?_
        refine g_aload_n C dX4_adds_47 1 rfl ?_
        refine g_iload_n C dX4_adds_48 2 rfl ?_
        refine g_callVi C (c_X4_shows l D cI cO ma th u a9 sv z t n dg hn hz r ((by omega))) gX4_adds_X4_shows rfl ⟨rfl, rfl⟩ hd_X4_shows ⟨Nat.le_of_ble_eq_true rfl, Nat.le_of_ble_eq_true rfl⟩ [0, 1] rfl (fun _ _ => trivial) rfl (rest := [.int (nI r), .ref (ma 0)]) rfl (Nat.le_of_ble_eq_true rfl) dX4_adds_49 ⟨Nat.zero_le _, Nat.zero_le _⟩ 0 rfl rfl rfl (pre := []) (post := []) (ws' := (wM ma cI th u a9 sv z t n dg)) rfl rfl ?_
        refine g_iload_n C dX4_adds_52 3 rfl ?_
        refine g_iadd C (v := (xSh u r) + v) dX4_adds_53 rfl ?_
        refine g_bipush C (v := 10) dX4_adds_54 cb_10 ?_
        refine g_iload_n C dX4_adds_56 0 rfl ?_
        refine g_imul C (v := 10 * 1) dX4_adds_57 rfl ?_
        refine g_isub C (v := ((xSh u r) + v) - (10 * 1)) dX4_adds_58 rfl ?_
        refine g_callVi C (c_X4_can l D cI cO ma th u a9 sv z t n dg hn hz r ((by omega)) (((xSh u r) + v) - (10 * 1))) gX4_adds_X4_can rfl ⟨rfl, rfl⟩ hd_X4_can ⟨Nat.le_of_ble_eq_true rfl, Nat.le_of_ble_eq_true rfl⟩ [0, 1] rfl (fun _ _ => trivial) rfl (rest := []) rfl (Nat.le_of_ble_eq_true rfl) dX4_adds_59 ⟨Nat.zero_le _, Nat.zero_le _⟩ 0 rfl rfl rfl (pre := []) (post := []) (ws' := (wM ma cI th u a9 sv z t n dg)) rfl rfl ?_
        refine g_if_ne C (tgt := 67) dX4_adds_62 (by decide) (fun h62_7 => ?_) (fun h62_7 => ?_)
        · have h62_7 := bnz h62_7
          refine g_aload_n C dX4_adds_67 1 rfl ?_
          refine g_iload_n C dX4_adds_68 2 rfl ?_
          refine g_aload_n C dX4_adds_69 1 rfl ?_
          refine g_iload_n C dX4_adds_70 2 rfl ?_
          refine g_callVi C (c_X4_shows l D cI cO ma th u a9 sv z t n dg hn hz r ((by omega))) gX4_adds_X4_shows rfl ⟨rfl, rfl⟩ hd_X4_shows ⟨Nat.le_of_ble_eq_true rfl, Nat.le_of_ble_eq_true rfl⟩ [0, 1] rfl (fun _ _ => trivial) rfl (rest := [.int (nI r), .ref (ma 0)]) rfl (Nat.le_of_ble_eq_true rfl) dX4_adds_71 ⟨Nat.zero_le _, Nat.zero_le _⟩ 0 rfl rfl rfl (pre := []) (post := []) (ws' := (wM ma cI th u a9 sv z t n dg)) rfl rfl ?_
          refine g_iload_n C dX4_adds_74 3 rfl ?_
          refine g_iadd C (v := (xSh u r) + v) dX4_adds_75 rfl ?_
          refine g_bipush C (v := 10) dX4_adds_76 cb_10 ?_
          refine g_iload_n C dX4_adds_78 0 rfl ?_
          refine g_imul C (v := 10 * 1) dX4_adds_79 rfl ?_
          refine g_isub C (v := ((xSh u r) + v) - (10 * 1)) dX4_adds_80 rfl ?_
          refine g_callVv C (c_X4_comes l D cI cO ma th u a9 sv z t n dg hn hz r ((by omega)) (((xSh u r) + v) - (10 * 1))) gX4_adds_X4_comes rfl ⟨rfl, rfl⟩ hd_X4_comes ⟨Nat.le_of_ble_eq_true rfl, Nat.le_of_ble_eq_true rfl⟩ [0, 1] rfl (fun _ _ => trivial) rfl (rest := []) rfl (Nat.le_of_ble_eq_true rfl) dX4_adds_81 ⟨Nat.zero_le _, Nat.zero_le _⟩ 0 rfl rfl rfl (pre := []) (post := []) (ws' := (wM ma cI th (yCo u r (((xSh u r) + v) - (10 * 1))) a9 sv z t n dg)) rfl rfl ?_
          refine g_aload_n C dX4_adds_84 1 rfl ?_
          refine g_iload_n C dX4_adds_85 2 rfl ?_
          refine g_iconst C (v := 1) dX4_adds_86 ci_1 ?_
          refine g_iadd C (v := nI (r + 1)) dX4_adds_87 (nI_1 _) ?_
          refine g_iload_n C dX4_adds_88 0 rfl ?_
          refine g_callVi C (c_X4_carries l D cI cO ma th (yCo u r (((xSh u r) + v) - (10 * 1))) a9 sv z t n dg hn hz (r + 1) ((by omega)) 1) gX4_adds_X4_carries rfl ⟨rfl, rfl⟩ hd_X4_carries ⟨Nat.le_of_ble_eq_true rfl, Nat.le_of_ble_eq_true rfl⟩ [0, 1] rfl (fun _ _ => trivial) rfl (rest := []) rfl (Nat.le_of_ble_eq_true rfl) dX4_adds_89 ⟨Nat.zero_le _, Nat.zero_le _⟩ 0 rfl rfl rfl (pre := []) (post := []) (ws' := (wM ma cI th ((yCa 1 (9 - (r + 1)) (yCo u r (((xSh u r) + v) - (10 * 1))) (r + 1)).2) a9 sv z t n dg)) rfl rfl ?_
          exact g_zret C hret hlk dX4_adds_92 b01 (by simp only [yAd, h1_1, h11_5, h28_6, eq_true h62_7, Bool.false_eq_true, not_false_eq_true, not_true_eq_false, and_self, and_true, true_and, and_false, false_and, or_true, true_or, or_false, false_or, or_self, if_true, if_false, eq_self, ite_true, ite_false, reduceIte]) (by simp only [yAd, h1_1, h11_5, h28_6, eq_true h62_7, Bool.false_eq_true, not_false_eq_true, not_true_eq_false, and_self, and_true, true_and, and_false, false_and, or_true, true_or, or_false, false_or, or_self, if_true, if_false, eq_self, ite_true, ite_false, reduceIte])
        · have h62_7 := bz h62_7
          refine g_iconst C (v := 0) dX4_adds_65 ci_0 ?_
          exact g_zret C hret hlk dX4_adds_66 (Or.inl rfl) (by simp only [yAd, h1_1, h11_5, h28_6, h62_7, Bool.false_eq_true, not_false_eq_true, not_true_eq_false, and_self, and_true, true_and, and_false, false_and, or_true, true_or, or_false, false_or, or_self, if_true, if_false, eq_self, ite_true, ite_false, reduceIte]) (by simp only [yAd, h1_1, h11_5, h28_6, h62_7, Bool.false_eq_true, not_false_eq_true, not_true_eq_false, and_self, and_true, true_and, and_false, false_and, or_true, true_or, or_false, false_or, or_self, if_true, if_false, eq_self, ite_true, ite_false, reduceIte])
      · have h28_6 := bnz h28_6
        refine g_aload_n C dX4_adds_31 1 rfl ?_
        refine g_iload_n C dX4_adds_32 2 rfl ?_
        refine g_aload_n C dX4_adds_33 1 rfl ?_
        refine g_iload_n C dX4_adds_34 2 rfl ?_
        refine g_callVi C (c_X4_shows l D cI cO ma th u a9 sv z t n dg hn hz r ((by omega))) gX4_adds_X4_shows rfl ⟨rfl, rfl⟩ hd_X4_shows ⟨Nat.le_of_ble_eq_true rfl, Nat.le_of_ble_eq_true rfl⟩ [0, 1] rfl (fun _ _ => trivial) rfl (rest := [.int (nI r), .ref (ma 0)]) rfl (Nat.le_of_ble_eq_true rfl) dX4_adds_35 ⟨Nat.zero_le _, Nat.zero_le _⟩ 0 rfl rfl rfl (pre := []) (post := []) (ws' := (wM ma cI th u a9 sv z t n dg)) rfl rfl ?_
        refine g_iload_n C dX4_adds_38 3 rfl ?_
        refine g_iadd C (v := (xSh u r) + v) dX4_adds_39 rfl ?_
        refine g_callVv C (c_X4_comes l D cI cO ma th u a9 sv z t n dg hn hz r ((by omega)) ((xSh u r) + v)) gX4_adds_X4_comes rfl ⟨rfl, rfl⟩ hd_X4_comes ⟨Nat.le_of_ble_eq_true rfl, Nat.le_of_ble_eq_true rfl⟩ [0, 1] rfl (fun _ _ => trivial) rfl (rest := []) rfl (Nat.le_of_ble_eq_true rfl) dX4_adds_40 ⟨Nat.zero_le _, Nat.zero_le _⟩ 0 rfl rfl rfl (pre := []) (post := []) (ws' := (wM ma cI th (yCo u r ((xSh u r) + v)) a9 sv z t n dg)) rfl rfl ?_
        refine g_iconst C (v := 1) dX4_adds_43 ci_1 ?_
        exact g_zret C hret hlk dX4_adds_44 (Or.inr rfl) (by simp only [yAd, h1_1, h11_5, eq_true h28_6, Bool.false_eq_true, not_false_eq_true, not_true_eq_false, and_self, and_true, true_and, and_false, false_and, or_true, true_or, or_false, false_or, or_self, if_true, if_false, eq_self, ite_true, ite_false, reduceIte]) (by simp only [yAd, h1_1, h11_5, eq_true h28_6, Bool.false_eq_true, not_false_eq_true, not_true_eq_false, and_self, and_true, true_and, and_false, false_and, or_true, true_or, or_false, false_or, or_self, if_true, if_false, eq_self, ite_true, ite_false, reduceIte])
    · refine g_iconst C (v := 1) dX4_adds_14 ci_1 ?_
      exact g_zret C hret hlk dX4_adds_15 (Or.inr rfl) (by simp only [yAd, h1_1, eq_true h11_5, Bool.false_eq_true, not_false_eq_true, not_true_eq_false, and_self, and_true, true_and, and_false, false_and, or_true, true_or, or_false, false_or, or_self, if_true, if_false, eq_self, ite_true, ite_false, reduceIte]) (by simp only [yAd, h1_1, eq_true h11_5, Bool.false_eq_true, not_false_eq_true, not_true_eq_false, and_self, and_true, true_and, and_false, false_and, or_true, true_or, or_false, false_or, or_self, if_true, if_false, eq_self, ite_true, ite_false, reduceIte])
theorem fw_X4_pays_fld7 : Cond.fieldLink RX4 7 "StuckRodsModel" "s" "[I" ∈ wsX4_pays := (List.mem_cons_of_mem _ (List.mem_append_left _ (List.mem_append_left _ (List.mem_of_getElem? (i := 0) rfl))))
theorem fl_X4_pays_X4 : ∀ w ∈ wsX40, w ∈ wsX4_pays := fun _ h => List.mem_cons_of_mem _ (List.mem_append_right _ h)
theorem hd_X4_adds : yX4_adds.cls = RX4 ∧ yX4_adds.cls ≠ "java/lang/invoke/MethodHandle" ∧ yX4_adds.cls ≠ "java/lang/invoke/VarHandle" ∧ (parseMethodDescriptor yX4_adds.desc).map (fun d => d.parameters.length) = some 2 := by decide +kernel
abbrev rmX4_pays : Room := { frames := 6, cells := 0, slots := 0, locals := 141 }
set_option maxHeartbeats 1000000 in
set_option maxRecDepth 100000 in
theorem c_X4_pays (l : Launch) (D : va_G) (cI cO : ClassId) (ma : Nat → Nat) (th : Int32) (u a9 sv : Nat → Int32) (z : Nat) (t : Nat → Int32) (n : Nat) (dg : Int64) (hn : n ≤ 60) (hz : z ≤ 6) (r : Nat) (hr : r < 9) : cR (fun _ => True) l yX4_pays wsX4_pays rmX4_pays D vwCl (tyA cI cO) [.ref (ma 0), .int (nI r)] (wM ma cI th u a9 sv z t n dg) (some (.int ((if (yPy u r).1 = true then 1 else 0)))) (wM ma cI th ((yPy u r).2) a9 sv z t n dg) := by
  refine cR_of (cc := cX4_pays) (maxL := 3) (ret := (some .boolean)) (by decide) rfl (Nat.le_of_ble_eq_true rfl) ?_
  intro p e s m below meth c A C hret hlk hnm hF
  refine g_lv [0, 1] (lv' := [(0, .ref (ma 0)), (1, .int (nI r))]) rfl ?_
  refine g_aload_n C dX4_pays_0 0 rfl ?_
  refine g_iload_n C dX4_pays_1 1 rfl ?_
  refine g_aload_n C dX4_pays_2 0 rfl ?_
  refine g_get C (v := .ref (ma 1)) fl_X4_pays_X4 0 rfl rfl 1 (by decide) fw_X4_pays_fld7 rfl dX4_pays_3 ?_
  refine g_iload_n C dX4_pays_6 1 rfl ?_
  refine g_iconst C (v := 2) dX4_pays_7 ci_2 ?_
  refine g_callSi C (c_X4_of l D cI cO r 2 (6 * r + 3) rfl) gX4_pays_X4_of rfl ⟨rfl, rfl⟩ hd_X4_of ⟨Nat.le_of_ble_eq_true rfl, Nat.le_of_ble_eq_true rfl⟩ [0, 1] rfl (fun _ _ => trivial) rfl (rest := [.ref (ma 1), .int (nI r), .ref (ma 0)]) rfl (Nat.le_of_ble_eq_true rfl) dX4_pays_8 ⟨Nat.zero_le _, Nat.zero_le _⟩ (pre := []) (post := (wM ma cI th u a9 sv z t n dg)) (ws' := (wM ma cI th u a9 sv z t n dg)) rfl rfl ?_
  refine g_iald C (x := u (6 * r + 3)) 1 0 rfl rfl (6 * r + 3) rfl (by omega) (by decide) rfl dX4_pays_11 ?_
  refine g_callVi C (c_X4_adds l D cI cO ma th u a9 sv z t n dg hn hz r ((by omega)) (u (6 * r + 3))) gX4_pays_X4_adds rfl ⟨rfl, rfl⟩ hd_X4_adds ⟨Nat.le_of_ble_eq_true rfl, Nat.le_of_ble_eq_true rfl⟩ [0, 1] rfl (fun _ _ => trivial) rfl (rest := []) rfl (Nat.le_of_ble_eq_true rfl) dX4_pays_12 ⟨Nat.zero_le _, Nat.zero_le _⟩ 0 rfl rfl rfl (pre := []) (post := []) (ws' := (wM ma cI th ((yAd u r (u (6 * r + 3))).2) a9 sv z t n dg)) rfl rfl ?_
  refine g_istore_n C (lv' := [(2, .int ((if (yAd u r (u (6 * r + 3))).1 = true then 1 else 0))), (0, .ref (ma 0)), (1, .int (nI r))]) dX4_pays_15 rfl (by decide) rfl ?_
  refine g_aload_n C dX4_pays_16 1 rfl ?_
  refine g_get C (v := .ref (ma 1)) fl_X4_pays_X4 0 rfl rfl 1 (by decide) fw_X4_pays_fld7 rfl dX4_pays_17 ?_
  refine g_iload_n C dX4_pays_20 2 rfl ?_
  refine g_iconst C (v := 2) dX4_pays_21 ci_2 ?_
  refine g_callSi C (c_X4_of l D cI cO r 2 (6 * r + 3) rfl) gX4_pays_X4_of rfl ⟨rfl, rfl⟩ hd_X4_of ⟨Nat.le_of_ble_eq_true rfl, Nat.le_of_ble_eq_true rfl⟩ [0, 1] rfl (fun _ _ => trivial) rfl (rest := [.ref (ma 1)]) rfl (Nat.le_of_ble_eq_true rfl) dX4_pays_22 ⟨Nat.zero_le _, Nat.zero_le _⟩ (pre := []) (post := (wM ma cI th ((yAd u r (u (6 * r + 3))).2) a9 sv z t n dg)) (ws' := (wM ma cI th ((yAd u r (u (6 * r + 3))).2) a9 sv z t n dg)) rfl rfl ?_
  refine g_iconst C (v := 0) dX4_pays_25 ci_0 ?_
  refine g_iast C (ws' := (wM ma cI th (upd ((yAd u r (u (6 * r + 3))).2) (6 * r + 3) 0) a9 sv z t n dg)) 1 0 rfl rfl (6 * r + 3) rfl (by omega) (by decide) dX4_pays_26 rfl ?_
  refine g_iload_n C dX4_pays_27 0 rfl ?_
  exact g_zret C hret hlk dX4_pays_28 b01 rfl rfl
abbrev rmX4_orders : Room := { frames := 5, cells := 0, slots := 0, locals := 118 }
set_option maxHeartbeats 1000000 in
set_option maxRecDepth 100000 in
theorem c_X4_orders (l : Launch) (D : va_G) (cI cO : ClassId) (ma : Nat → Nat) (th : Int32) (u a9 sv : Nat → Int32) (z : Nat) (t : Nat → Int32) (n : Nat) (dg : Int64) (hn : n ≤ 60) (hz : z ≤ 6) (r : Nat) (hr : r < 9) : cR (fun _ => True) l yX4_orders wsX4_orders rmX4_orders D vwCl (tyA cI cO) [.ref (ma 0), .int (nI r)] (wM ma cI th u a9 sv z t n dg) (some (.int ((if (yOr u r).1 = true then 1 else 0)))) (wM ma cI th ((yOr u r).2) a9 sv z t n dg) := by
  refine cR_of (cc := cX4_orders) (maxL := 2) (ret := (some .boolean)) (by decide) rfl (Nat.le_of_ble_eq_true rfl) ?_
  intro p e s m below meth c A C hret hlk hnm hF
  refine g_lv [0, 1] (lv' := [(0, .ref (ma 0)), (1, .int (nI r))]) rfl ?_
  refine g_aload_n C dX4_orders_0 0 rfl ?_
  refine g_iload_n C dX4_orders_1 1 rfl ?_
  refine g_callVi C (c_X4_shows l D cI cO ma th u a9 sv z t n dg hn hz r ((by omega))) gX4_orders_X4_shows rfl ⟨rfl, rfl⟩ hd_X4_shows ⟨Nat.le_of_ble_eq_true rfl, Nat.le_of_ble_eq_true rfl⟩ [0, 1] rfl (fun _ _ => trivial) rfl (rest := []) rfl (Nat.le_of_ble_eq_true rfl) dX4_orders_2 ⟨Nat.zero_le _, Nat.zero_le _⟩ 0 rfl rfl rfl (pre := []) (post := []) (ws' := (wM ma cI th u a9 sv z t n dg)) rfl rfl ?_
  refine g_bipush C (v := 10) dX4_orders_5 cb_10 ?_
  refine g_icmp_lt C (tgt := 26) dX4_orders_7 (by decide) (fun h7_1 => ?_) (fun h7_1 => ?_)
  · refine g_iconst C (v := 0) dX4_orders_26 ci_0 ?_
    exact g_zret C hret hlk dX4_orders_27 (Or.inl rfl) (by simp only [yOr, eq_true h7_1, Bool.false_eq_true, not_false_eq_true, not_true_eq_false, and_self, and_true, true_and, and_false, false_and, or_true, true_or, or_false, false_or, or_self, if_true, if_false, eq_self, ite_true, ite_false, reduceIte]) (by simp only [yOr, eq_true h7_1, Bool.false_eq_true, not_false_eq_true, not_true_eq_false, and_self, and_true, true_and, and_false, false_and, or_true, true_or, or_false, false_or, or_self, if_true, if_false, eq_self, ite_true, ite_false, reduceIte])
  · refine g_aload_n C dX4_orders_10 0 rfl ?_
    refine g_iload_n C dX4_orders_11 1 rfl ?_
    refine g_aload_n C dX4_orders_12 0 rfl ?_
    refine g_iload_n C dX4_orders_13 1 rfl ?_
    refine g_callVi C (c_X4_shows l D cI cO ma th u a9 sv z t n dg hn hz r ((by omega))) gX4_orders_X4_shows rfl ⟨rfl, rfl⟩ hd_X4_shows ⟨Nat.le_of_ble_eq_true rfl, Nat.le_of_ble_eq_true rfl⟩ [0, 1] rfl (fun _ _ => trivial) rfl (rest := [.int (nI r), .ref (ma 0)]) rfl (Nat.le_of_ble_eq_true rfl) dX4_orders_14 ⟨Nat.zero_le _, Nat.zero_le _⟩ 0 rfl rfl rfl (pre := []) (post := []) (ws' := (wM ma cI th u a9 sv z t n dg)) rfl rfl ?_
    refine g_bipush C (v := 10) dX4_orders_17 cb_10 ?_
    refine g_isub C (v := (xSh u r) - 10) dX4_orders_19 rfl ?_
    refine g_callVi C (c_X4_can l D cI cO ma th u a9 sv z t n dg hn hz r ((by omega)) ((xSh u r) - 10)) gX4_orders_X4_can rfl ⟨rfl, rfl⟩ hd_X4_can ⟨Nat.le_of_ble_eq_true rfl, Nat.le_of_ble_eq_true rfl⟩ [0, 1] rfl (fun _ _ => trivial) rfl (rest := []) rfl (Nat.le_of_ble_eq_true rfl) dX4_orders_20 ⟨Nat.zero_le _, Nat.zero_le _⟩ 0 rfl rfl rfl (pre := []) (post := []) (ws' := (wM ma cI th u a9 sv z t n dg)) rfl rfl ?_
    refine g_if_ne C (tgt := 28) dX4_orders_23 (by decide) (fun h23_2 => ?_) (fun h23_2 => ?_)
    · have h23_2 := bnz h23_2
      refine g_aload_n C dX4_orders_28 0 rfl ?_
      refine g_iload_n C dX4_orders_29 1 rfl ?_
      refine g_aload_n C dX4_orders_30 0 rfl ?_
      refine g_iload_n C dX4_orders_31 1 rfl ?_
      refine g_callVi C (c_X4_shows l D cI cO ma th u a9 sv z t n dg hn hz r ((by omega))) gX4_orders_X4_shows rfl ⟨rfl, rfl⟩ hd_X4_shows ⟨Nat.le_of_ble_eq_true rfl, Nat.le_of_ble_eq_true rfl⟩ [0, 1] rfl (fun _ _ => trivial) rfl (rest := [.int (nI r), .ref (ma 0)]) rfl (Nat.le_of_ble_eq_true rfl) dX4_orders_32 ⟨Nat.zero_le _, Nat.zero_le _⟩ 0 rfl rfl rfl (pre := []) (post := []) (ws' := (wM ma cI th u a9 sv z t n dg)) rfl rfl ?_
      refine g_bipush C (v := 10) dX4_orders_35 cb_10 ?_
      refine g_isub C (v := (xSh u r) - 10) dX4_orders_37 rfl ?_
      refine g_callVv C (c_X4_comes l D cI cO ma th u a9 sv z t n dg hn hz r ((by omega)) ((xSh u r) - 10)) gX4_orders_X4_comes rfl ⟨rfl, rfl⟩ hd_X4_comes ⟨Nat.le_of_ble_eq_true rfl, Nat.le_of_ble_eq_true rfl⟩ [0, 1] rfl (fun _ _ => trivial) rfl (rest := []) rfl (Nat.le_of_ble_eq_true rfl) dX4_orders_38 ⟨Nat.zero_le _, Nat.zero_le _⟩ 0 rfl rfl rfl (pre := []) (post := []) (ws' := (wM ma cI th (yCo u r ((xSh u r) - 10)) a9 sv z t n dg)) rfl rfl ?_
      refine g_aload_n C dX4_orders_41 0 rfl ?_
      refine g_iload_n C dX4_orders_42 1 rfl ?_
      refine g_iconst C (v := 1) dX4_orders_43 ci_1 ?_
      refine g_iadd C (v := nI (r + 1)) dX4_orders_44 (nI_1 _) ?_
      refine g_iconst C (v := 1) dX4_orders_45 ci_1 ?_
      refine g_callVi C (c_X4_carries l D cI cO ma th (yCo u r ((xSh u r) - 10)) a9 sv z t n dg hn hz (r + 1) ((by omega)) 1) gX4_orders_X4_carries rfl ⟨rfl, rfl⟩ hd_X4_carries ⟨Nat.le_of_ble_eq_true rfl, Nat.le_of_ble_eq_true rfl⟩ [0, 1] rfl (fun _ _ => trivial) rfl (rest := []) rfl (Nat.le_of_ble_eq_true rfl) dX4_orders_46 ⟨Nat.zero_le _, Nat.zero_le _⟩ 0 rfl rfl rfl (pre := []) (post := []) (ws' := (wM ma cI th ((yCa 1 (9 - (r + 1)) (yCo u r ((xSh u r) - 10)) (r + 1)).2) a9 sv z t n dg)) rfl rfl ?_
      exact g_zret C hret hlk dX4_orders_49 b01 (by simp only [yOr, h7_1, eq_true h23_2, Bool.false_eq_true, not_false_eq_true, not_true_eq_false, and_self, and_true, true_and, and_false, false_and, or_true, true_or, or_false, false_or, or_self, if_true, if_false, eq_self, ite_true, ite_false, reduceIte]) (by simp only [yOr, h7_1, eq_true h23_2, Bool.false_eq_true, not_false_eq_true, not_true_eq_false, and_self, and_true, true_and, and_false, false_and, or_true, true_or, or_false, false_or, or_self, if_true, if_false, eq_self, ite_true, ite_false, reduceIte])
    · have h23_2 := bz h23_2
      refine g_iconst C (v := 0) dX4_orders_26 ci_0 ?_
      exact g_zret C hret hlk dX4_orders_27 (Or.inl rfl) (by simp only [yOr, h7_1, h23_2, Bool.false_eq_true, not_false_eq_true, not_true_eq_false, and_self, and_true, true_and, and_false, false_and, or_true, true_or, or_false, false_or, or_self, if_true, if_false, eq_self, ite_true, ite_false, reduceIte]) (by simp only [yOr, h7_1, h23_2, Bool.false_eq_true, not_false_eq_true, not_true_eq_false, and_self, and_true, true_and, and_false, false_and, or_true, true_or, or_false, false_or, or_self, if_true, if_false, eq_self, ite_true, ite_false, reduceIte])
theorem hd_X4_putAside : yX4_putAside.cls = RX4 ∧ yX4_putAside.cls ≠ "java/lang/invoke/MethodHandle" ∧ yX4_putAside.cls ≠ "java/lang/invoke/VarHandle" ∧ (parseMethodDescriptor yX4_putAside.desc).map (fun d => d.parameters.length) = some 0 := by decide +kernel
theorem hd_X4_putBack : yX4_putBack.cls = RX4 ∧ yX4_putBack.cls ≠ "java/lang/invoke/MethodHandle" ∧ yX4_putBack.cls ≠ "java/lang/invoke/VarHandle" ∧ (parseMethodDescriptor yX4_putBack.desc).map (fun d => d.parameters.length) = some 0 := by decide +kernel
abbrev rmX4_tries_0 : Room := { frames := 6, cells := 0, slots := 0, locals := 141 }
set_option maxHeartbeats 1000000 in
set_option maxRecDepth 100000 in
theorem c_X4_tries_0 (l : Launch) (D : va_G) (cI cO : ClassId) (ma : Nat → Nat) (th : Int32) (u a9 sv : Nat → Int32) (z : Nat) (t : Nat → Int32) (n : Nat) (dg : Int64) (hn : n ≤ 60) (hz : z ≤ 6) (r : Nat) (hr : r < 9) (v : Int32) : cR (fun _ => True) l yX4_tries wsX4_tries rmX4_tries_0 D vwCl (tyA cI cO) [.ref (ma 0), .int 0, .int (nI r), .int v] (wM ma cI th u a9 sv z t n dg) (some (.int ((if (yT0 u r v).1 = true then 1 else 0)))) (wM ma cI th ((yT0 u r v).2) u sv z t n dg) := by
  refine cR_of (cc := cX4_tries) (maxL := 5) (ret := (some .boolean)) (by decide) rfl (Nat.le_of_ble_eq_true rfl) ?_
  intro p e s m below meth c A C hret hlk hnm hF
  refine g_lv [0, 1, 2, 3] (lv' := [(0, .ref (ma 0)), (1, .int 0), (2, .int (nI r)), (3, .int v)]) rfl ?_
  refine g_aload_n C dX4_tries_0 0 rfl ?_
  refine g_callVv C (c_X4_putAside l D cI cO ma th u a9 sv z t n dg hn hz) gX4_tries_X4_putAside rfl ⟨rfl, rfl⟩ hd_X4_putAside ⟨Nat.le_of_ble_eq_true rfl, Nat.le_of_ble_eq_true rfl⟩ [0, 1] rfl (fun _ _ => trivial) rfl (rest := []) rfl (Nat.le_of_ble_eq_true rfl) dX4_tries_1 ⟨Nat.zero_le _, Nat.zero_le _⟩ 0 rfl rfl rfl (pre := []) (post := []) (ws' := (wM ma cI th u u sv z t n dg)) rfl rfl ?_
  refine g_iload_n C dX4_tries_4 1 rfl ?_
  refine g_if_ne C (tgt := 17) dX4_tries_5 (by decide) (fun h5_1 => absurd (by decide) h5_1) (fun _ => ?_)
  refine g_aload_n C dX4_tries_8 0 rfl ?_
  refine g_iload_n C dX4_tries_9 2 rfl ?_
  refine g_iload_n C dX4_tries_10 3 rfl ?_
  refine g_callVi C (c_X4_adds l D cI cO ma th u u sv z t n dg hn hz r ((by omega)) v) gX4_tries_X4_adds rfl ⟨rfl, rfl⟩ hd_X4_adds ⟨Nat.le_of_ble_eq_true rfl, Nat.le_of_ble_eq_true rfl⟩ [0, 1] rfl (fun _ _ => trivial) rfl (rest := []) rfl (Nat.le_of_ble_eq_true rfl) dX4_tries_11 ⟨Nat.zero_le _, Nat.zero_le _⟩ 0 rfl rfl rfl (pre := []) (post := []) (ws' := (wM ma cI th ((yAd u r v).2) u sv z t n dg)) rfl rfl ?_
  refine g_goto C (tgt := 35) dX4_tries_14 (by decide) ?_
  refine g_istore C (lv' := [(4, .int ((if (yAd u r v).1 = true then 1 else 0))), (0, .ref (ma 0)), (1, .int 0), (2, .int (nI r)), (3, .int v)]) dX4_tries_35 (by decide) rfl ?_
  refine g_iload C dX4_tries_37 0 rfl ?_
  refine g_if_ne C (tgt := 46) dX4_tries_39 (by decide) (fun h39_2 => ?_) (fun h39_2 => ?_)
  · have h39_2 := bnz h39_2
    refine g_iload C dX4_tries_46 0 rfl ?_
    exact g_zret C hret hlk dX4_tries_48 b01 (by simp only [yT0, eq_true h39_2, Bool.false_eq_true, not_false_eq_true, not_true_eq_false, and_self, and_true, true_and, and_false, false_and, or_true, true_or, or_false, false_or, or_self, if_true, if_false, eq_self, ite_true, ite_false, reduceIte]) (by simp only [yT0, eq_true h39_2, Bool.false_eq_true, not_false_eq_true, not_true_eq_false, and_self, and_true, true_and, and_false, false_and, or_true, true_or, or_false, false_or, or_self, if_true, if_false, eq_self, ite_true, ite_false, reduceIte])
  · have h39_2 := bz h39_2
    refine g_aload_n C dX4_tries_42 1 rfl ?_
    refine g_callVv C (c_X4_putBack l D cI cO ma th ((yAd u r v).2) u sv z t n dg hn hz) gX4_tries_X4_putBack rfl ⟨rfl, rfl⟩ hd_X4_putBack ⟨Nat.le_of_ble_eq_true rfl, Nat.le_of_ble_eq_true rfl⟩ [0, 1] rfl (fun _ _ => trivial) rfl (rest := []) rfl (Nat.le_of_ble_eq_true rfl) dX4_tries_43 ⟨Nat.zero_le _, Nat.zero_le _⟩ 0 rfl rfl rfl (pre := []) (post := []) (ws' := (wM ma cI th u u sv z t n dg)) rfl rfl ?_
    refine g_iload C dX4_tries_46 0 rfl ?_
    exact g_zret C hret hlk dX4_tries_48 b01 (by simp only [yT0, h39_2, Bool.false_eq_true, not_false_eq_true, not_true_eq_false, and_self, and_true, true_and, and_false, false_and, or_true, true_or, or_false, false_or, or_self, if_true, if_false, eq_self, ite_true, ite_false, reduceIte]) (by simp only [yT0, h39_2, Bool.false_eq_true, not_false_eq_true, not_true_eq_false, and_self, and_true, true_and, and_false, false_and, or_true, true_or, or_false, false_or, or_self, if_true, if_false, eq_self, ite_true, ite_false, reduceIte])
theorem hd_X4_pays : yX4_pays.cls = RX4 ∧ yX4_pays.cls ≠ "java/lang/invoke/MethodHandle" ∧ yX4_pays.cls ≠ "java/lang/invoke/VarHandle" ∧ (parseMethodDescriptor yX4_pays.desc).map (fun d => d.parameters.length) = some 1 := by decide +kernel
abbrev rmX4_tries_1 : Room := { frames := 7, cells := 0, slots := 0, locals := 163 }
set_option maxHeartbeats 1000000 in
set_option maxRecDepth 100000 in
theorem c_X4_tries_1 (l : Launch) (D : va_G) (cI cO : ClassId) (ma : Nat → Nat) (th : Int32) (u a9 sv : Nat → Int32) (z : Nat) (t : Nat → Int32) (n : Nat) (dg : Int64) (hn : n ≤ 60) (hz : z ≤ 6) (r : Nat) (hr : r < 9) (v : Int32) : cR (fun _ => True) l yX4_tries wsX4_tries rmX4_tries_1 D vwCl (tyA cI cO) [.ref (ma 0), .int 1, .int (nI r), .int v] (wM ma cI th u a9 sv z t n dg) (some (.int ((if (yT1 u r).1 = true then 1 else 0)))) (wM ma cI th ((yT1 u r).2) u sv z t n dg) := by
  refine cR_of (cc := cX4_tries) (maxL := 5) (ret := (some .boolean)) (by decide) rfl (Nat.le_of_ble_eq_true rfl) ?_
  intro p e s m below meth c A C hret hlk hnm hF
  refine g_lv [0, 1, 2, 3] (lv' := [(0, .ref (ma 0)), (1, .int 1), (2, .int (nI r)), (3, .int v)]) rfl ?_
  refine g_aload_n C dX4_tries_0 0 rfl ?_
  refine g_callVv C (c_X4_putAside l D cI cO ma th u a9 sv z t n dg hn hz) gX4_tries_X4_putAside rfl ⟨rfl, rfl⟩ hd_X4_putAside ⟨Nat.le_of_ble_eq_true rfl, Nat.le_of_ble_eq_true rfl⟩ [0, 1] rfl (fun _ _ => trivial) rfl (rest := []) rfl (Nat.le_of_ble_eq_true rfl) dX4_tries_1 ⟨Nat.zero_le _, Nat.zero_le _⟩ 0 rfl rfl rfl (pre := []) (post := []) (ws' := (wM ma cI th u u sv z t n dg)) rfl rfl ?_
  refine g_iload_n C dX4_tries_4 1 rfl ?_
  refine g_if_ne C (tgt := 17) dX4_tries_5 (by decide) (fun _ => ?_) (fun h5_1 => absurd h5_1 (by decide))
  refine g_iload_n C dX4_tries_17 1 rfl ?_
  refine g_iconst C (v := 1) dX4_tries_18 ci_1 ?_
  refine g_icmp_ne C (tgt := 30) dX4_tries_19 (by decide) (fun h19_2 => absurd (by decide) h19_2) (fun _ => ?_)
  refine g_aload_n C dX4_tries_22 0 rfl ?_
  refine g_iload_n C dX4_tries_23 2 rfl ?_
  refine g_callVi C (c_X4_pays l D cI cO ma th u u sv z t n dg hn hz r ((by omega))) gX4_tries_X4_pays rfl ⟨rfl, rfl⟩ hd_X4_pays ⟨Nat.le_of_ble_eq_true rfl, Nat.le_of_ble_eq_true rfl⟩ [0, 1] rfl (fun _ _ => trivial) rfl (rest := []) rfl (Nat.le_of_ble_eq_true rfl) dX4_tries_24 ⟨Nat.zero_le _, Nat.zero_le _⟩ 0 rfl rfl rfl (pre := []) (post := []) (ws' := (wM ma cI th ((yPy u r).2) u sv z t n dg)) rfl rfl ?_
  refine g_goto C (tgt := 35) dX4_tries_27 (by decide) ?_
  refine g_istore C (lv' := [(4, .int ((if (yPy u r).1 = true then 1 else 0))), (0, .ref (ma 0)), (1, .int 1), (2, .int (nI r)), (3, .int v)]) dX4_tries_35 (by decide) rfl ?_
  refine g_iload C dX4_tries_37 0 rfl ?_
  refine g_if_ne C (tgt := 46) dX4_tries_39 (by decide) (fun h39_3 => ?_) (fun h39_3 => ?_)
  · have h39_3 := bnz h39_3
    refine g_iload C dX4_tries_46 0 rfl ?_
    exact g_zret C hret hlk dX4_tries_48 b01 (by simp only [yT1, eq_true h39_3, Bool.false_eq_true, not_false_eq_true, not_true_eq_false, and_self, and_true, true_and, and_false, false_and, or_true, true_or, or_false, false_or, or_self, if_true, if_false, eq_self, ite_true, ite_false, reduceIte]) (by simp only [yT1, eq_true h39_3, Bool.false_eq_true, not_false_eq_true, not_true_eq_false, and_self, and_true, true_and, and_false, false_and, or_true, true_or, or_false, false_or, or_self, if_true, if_false, eq_self, ite_true, ite_false, reduceIte])
  · have h39_3 := bz h39_3
    refine g_aload_n C dX4_tries_42 1 rfl ?_
    refine g_callVv C (c_X4_putBack l D cI cO ma th ((yPy u r).2) u sv z t n dg hn hz) gX4_tries_X4_putBack rfl ⟨rfl, rfl⟩ hd_X4_putBack ⟨Nat.le_of_ble_eq_true rfl, Nat.le_of_ble_eq_true rfl⟩ [0, 1] rfl (fun _ _ => trivial) rfl (rest := []) rfl (Nat.le_of_ble_eq_true rfl) dX4_tries_43 ⟨Nat.zero_le _, Nat.zero_le _⟩ 0 rfl rfl rfl (pre := []) (post := []) (ws' := (wM ma cI th u u sv z t n dg)) rfl rfl ?_
    refine g_iload C dX4_tries_46 0 rfl ?_
    exact g_zret C hret hlk dX4_tries_48 b01 (by simp only [yT1, h39_3, Bool.false_eq_true, not_false_eq_true, not_true_eq_false, and_self, and_true, true_and, and_false, false_and, or_true, true_or, or_false, false_or, or_self, if_true, if_false, eq_self, ite_true, ite_false, reduceIte]) (by simp only [yT1, h39_3, Bool.false_eq_true, not_false_eq_true, not_true_eq_false, and_self, and_true, true_and, and_false, false_and, or_true, true_or, or_false, false_or, or_self, if_true, if_false, eq_self, ite_true, ite_false, reduceIte])
theorem hd_X4_orders : yX4_orders.cls = RX4 ∧ yX4_orders.cls ≠ "java/lang/invoke/MethodHandle" ∧ yX4_orders.cls ≠ "java/lang/invoke/VarHandle" ∧ (parseMethodDescriptor yX4_orders.desc).map (fun d => d.parameters.length) = some 1 := by decide +kernel
abbrev rmX4_tries_2 : Room := { frames := 6, cells := 0, slots := 0, locals := 139 }
set_option maxHeartbeats 1000000 in
set_option maxRecDepth 100000 in
theorem c_X4_tries_2 (l : Launch) (D : va_G) (cI cO : ClassId) (ma : Nat → Nat) (th : Int32) (u a9 sv : Nat → Int32) (z : Nat) (t : Nat → Int32) (n : Nat) (dg : Int64) (hn : n ≤ 60) (hz : z ≤ 6) (r : Nat) (hr : r < 9) (v : Int32) : cR (fun _ => True) l yX4_tries wsX4_tries rmX4_tries_2 D vwCl (tyA cI cO) [.ref (ma 0), .int 2, .int (nI r), .int v] (wM ma cI th u a9 sv z t n dg) (some (.int ((if (yT2 u r).1 = true then 1 else 0)))) (wM ma cI th ((yT2 u r).2) u sv z t n dg) := by
  refine cR_of (cc := cX4_tries) (maxL := 5) (ret := (some .boolean)) (by decide) rfl (Nat.le_of_ble_eq_true rfl) ?_
  intro p e s m below meth c A C hret hlk hnm hF
  refine g_lv [0, 1, 2, 3] (lv' := [(0, .ref (ma 0)), (1, .int 2), (2, .int (nI r)), (3, .int v)]) rfl ?_
  refine g_aload_n C dX4_tries_0 0 rfl ?_
  refine g_callVv C (c_X4_putAside l D cI cO ma th u a9 sv z t n dg hn hz) gX4_tries_X4_putAside rfl ⟨rfl, rfl⟩ hd_X4_putAside ⟨Nat.le_of_ble_eq_true rfl, Nat.le_of_ble_eq_true rfl⟩ [0, 1] rfl (fun _ _ => trivial) rfl (rest := []) rfl (Nat.le_of_ble_eq_true rfl) dX4_tries_1 ⟨Nat.zero_le _, Nat.zero_le _⟩ 0 rfl rfl rfl (pre := []) (post := []) (ws' := (wM ma cI th u u sv z t n dg)) rfl rfl ?_
  refine g_iload_n C dX4_tries_4 1 rfl ?_
  refine g_if_ne C (tgt := 17) dX4_tries_5 (by decide) (fun _ => ?_) (fun h5_1 => absurd h5_1 (by decide))
  refine g_iload_n C dX4_tries_17 1 rfl ?_
  refine g_iconst C (v := 1) dX4_tries_18 ci_1 ?_
  refine g_icmp_ne C (tgt := 30) dX4_tries_19 (by decide) (fun _ => ?_) (fun h19_2 => absurd h19_2 (by decide))
  refine g_aload_n C dX4_tries_30 0 rfl ?_
  refine g_iload_n C dX4_tries_31 2 rfl ?_
  refine g_callVi C (c_X4_orders l D cI cO ma th u u sv z t n dg hn hz r ((by omega))) gX4_tries_X4_orders rfl ⟨rfl, rfl⟩ hd_X4_orders ⟨Nat.le_of_ble_eq_true rfl, Nat.le_of_ble_eq_true rfl⟩ [0, 1] rfl (fun _ _ => trivial) rfl (rest := []) rfl (Nat.le_of_ble_eq_true rfl) dX4_tries_32 ⟨Nat.zero_le _, Nat.zero_le _⟩ 0 rfl rfl rfl (pre := []) (post := []) (ws' := (wM ma cI th ((yOr u r).2) u sv z t n dg)) rfl rfl ?_
  refine g_istore C (lv' := [(4, .int ((if (yOr u r).1 = true then 1 else 0))), (0, .ref (ma 0)), (1, .int 2), (2, .int (nI r)), (3, .int v)]) dX4_tries_35 (by decide) rfl ?_
  refine g_iload C dX4_tries_37 0 rfl ?_
  refine g_if_ne C (tgt := 46) dX4_tries_39 (by decide) (fun h39_3 => ?_) (fun h39_3 => ?_)
  · have h39_3 := bnz h39_3
    refine g_iload C dX4_tries_46 0 rfl ?_
    exact g_zret C hret hlk dX4_tries_48 b01 (by simp only [yT2, eq_true h39_3, Bool.false_eq_true, not_false_eq_true, not_true_eq_false, and_self, and_true, true_and, and_false, false_and, or_true, true_or, or_false, false_or, or_self, if_true, if_false, eq_self, ite_true, ite_false, reduceIte]) (by simp only [yT2, eq_true h39_3, Bool.false_eq_true, not_false_eq_true, not_true_eq_false, and_self, and_true, true_and, and_false, false_and, or_true, true_or, or_false, false_or, or_self, if_true, if_false, eq_self, ite_true, ite_false, reduceIte])
  · have h39_3 := bz h39_3
    refine g_aload_n C dX4_tries_42 1 rfl ?_
    refine g_callVv C (c_X4_putBack l D cI cO ma th ((yOr u r).2) u sv z t n dg hn hz) gX4_tries_X4_putBack rfl ⟨rfl, rfl⟩ hd_X4_putBack ⟨Nat.le_of_ble_eq_true rfl, Nat.le_of_ble_eq_true rfl⟩ [0, 1] rfl (fun _ _ => trivial) rfl (rest := []) rfl (Nat.le_of_ble_eq_true rfl) dX4_tries_43 ⟨Nat.zero_le _, Nat.zero_le _⟩ 0 rfl rfl rfl (pre := []) (post := []) (ws' := (wM ma cI th u u sv z t n dg)) rfl rfl ?_
    refine g_iload C dX4_tries_46 0 rfl ?_
    exact g_zret C hret hlk dX4_tries_48 b01 (by simp only [yT2, h39_3, Bool.false_eq_true, not_false_eq_true, not_true_eq_false, and_self, and_true, true_and, and_false, false_and, or_true, true_or, or_false, false_or, or_self, if_true, if_false, eq_self, ite_true, ite_false, reduceIte]) (by simp only [yT2, h39_3, Bool.false_eq_true, not_false_eq_true, not_true_eq_false, and_self, and_true, true_and, and_false, false_and, or_true, true_or, or_false, false_or, or_self, if_true, if_false, eq_self, ite_true, ite_false, reduceIte])
