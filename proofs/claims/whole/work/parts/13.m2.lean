/-! ===== the reference model, its calls ===== -/
theorem nrod {v : Int32} (h : v < 0 ∨ ¬ v < 9) : ¬ (¬ v < 0 ∧ ¬ 8 < v) := by
  rintro ⟨h1, h2⟩
  obtain ⟨j, hj, rfl⟩ := nI_of2 (M := 8) (n := 8) rfl h1 (Int32.not_lt.mp h2)
  exact h.elim h1 (fun z => z (nI_lt (b := 9) (by omega) (by decide)))
theorem rodp {r : Nat} (h : r < 9) : ¬ nI r < 0 ∧ ¬ (8 : Int32) < nI r := ⟨nI_pos (by omega), nI_nlt (b := r) (a := 8) (by omega) (by decide)⟩
theorem nin {v lo hi : Int32} (h : v < lo ∨ ¬ v ≤ hi) : ¬ (¬ v < lo ∧ ¬ hi < v) := fun z => h.elim z.1 (fun q => q (Int32.not_lt.mp z.2))
theorem inp {v lo hi : Int32} (h1 : ¬ v < lo) (h2 : v ≤ hi) : ¬ v < lo ∧ ¬ hi < v := ⟨h1, Int32.not_lt.mpr h2⟩
def yK0 (u : Nat → Int32) (r : Nat) (v : Int32) : Int32 := if (yT0 u r v).1 = true then yAm (yT0 u r v).2 - yAm u else -1
def yK1 (u : Nat → Int32) (r : Nat) : Int32 := if (yT1 u r).1 = true then yAm (yT1 u r).2 - yAm u else -1
def yTd (u a9 : Nat → Int32) : Nat → (Nat → Int32) × (Nat → Int32)
  | 0 => (u, a9)
  | r + 1 => ((yT2 (yT1 (yTd u a9 r).1 r).2 r).2, (yT1 (yTd u a9 r).1 r).2)
def yWr (t : Nat → Int32) (n : Nat) : Nat → Nat → Int32 → Int32 → Int32
  | 0, _, _, _ => nI n
  | k + 1, i, d, b =>
    if sg (t i) = true then (if nI i = 0 ∨ ¬ d ≤ 0 then yWr t n k (i + 1) 0 0 else nI i) else
    if (¬ t i < 48 ∧ ¬ 57 < t i) ∧ ¬ nI i ≤ 0 ∧ ¬ 6 ≤ d ∧ b = 0 then yWr t n k (i + 1) (d + 1) (if ¬ b = 0 ∨ (d = 0 ∧ t i = 48) then 1 else 0) else nI i
def yWR (t : Nat → Int32) (n : Nat) : Int32 := yWr t n n 0 0 0
def yTg (t : Nat → Int32) (q k : Nat) : Int32 := if t q = 43 then t (q + (k + 1)) - 48 else -(t (q + (k + 1)) - 48)
def yTm (t : Nat → Int32) (q : Nat) : Nat → Nat → (Nat → Int32) × (Nat → Int32) → Int32 × ((Nat → Int32) × (Nat → Int32))
  | 0, r, p => (nI r, p)
  | k + 1, r, p => if (yT0 p.1 r (yTg t q k)).1 = true then yTm t q k (r + 1) ((yT0 p.1 r (yTg t q k)).2, p.1) else (-1 - nI r, ((yT0 p.1 r (yTg t q k)).2, p.1))
def yRk (t : Nat → Int32) (n : Nat) : Nat → Nat → Int32 → (Nat → Int32) × (Nat → Int32) → Int32 × ((Nat → Int32) × (Nat → Int32))
  | 0, _, a, p => (a, p)
  | k + 1, q, a, p => if nI n ≤ nI q then (a, p) else
    if 0 ≤ (yTm t q (xDB t n q) 0 p).1 then yRk t n k (q + 1 + xDB t n q) (a + (yTm t q (xDB t n q) 0 p).1) (yTm t q (xDB t n q) 0 p).2
    else yRk t n k n (a + (-1 - (yTm t q (xDB t n q) 0 p).1)) (yTm t q (xDB t n q) 0 p).2
abbrev yCs (t : Nat → Int32) (n : Nat) : Prop := ¬ nI n ≤ 0 ∧ yWR t n = nI n ∧ (¬ t (n - 1) < 48 ∧ ¬ 57 < t (n - 1))
theorem decq (q k : Nat) : nI (q + (k + 1)) + Int32.ofInt (-1) = nI (q + k) := pk_m1 (q + k)
def yUn (u sv : Nat → Int32) (z : Nat) : Nat → Int32 := cpF 0 (fun k => sv (55 * (z - 1) + k)) u 55
def yNu (u : Nat → Int32) (r : Nat) : Nat → Int32
  | 0 => 0
  | n + 1 => if ¬ yFv u r (nI n) = -1 then yNu u r n + 1 else yNu u r n
def yRd (u : Nat → Int32) (r : Nat) : Nat → Int32
  | 0 => u (6 * r + 1)
  | 1 => u (6 * r + 2)
  | 2 => xSh u r
  | 3 => u (6 * r + 3) + 100
  | 4 => u (6 * r + 4)
  | 5 => u (6 * r + 5)
  | 6 => u (6 * r + 6)
  | _ => yNu u r 16
def yDn : Nat → Int32
  | 0 => -1
  | k + 1 => nI k
theorem yDn_dec (k : Nat) : nI k + Int32.ofInt (-1) = yDn k := by
  cases k with
  | zero => rfl
  | succ k => exact pk_m1 k
def yAl (u : Nat → Int32) : Nat → Int64
  | 0 => 0
  | k + 1 => 10 * yAl u k + (xSh u (8 - k)).toInt64 + (u (6 * (8 - k) + 3)).toInt64
def yIt (u : Nat → Int32) (r : Nat) : Nat → Int32
  | 1 => if u (6 * r + 3) = 0 then 0 else 1
  | 2 => u (6 * r + 3)
  | 3 => xSh u r + u (6 * r + 3)
  | 4 => if xSh u r < 10 then 0 else 1
  | _ => if u (6 * r + 4) ≤ 0 then 0 else 1
def ySm (u : Nat → Int32) (w : Nat) : Nat → Int32
  | 0 => 0
  | r + 1 => ySm u w r + yIt u r w
def yCn (u : Nat → Int32) (z : Nat) : Nat → Int32
  | 0 => yAm u
  | 1 => ySm u 1 9
  | 2 => ySm u 2 9 + 100
  | 3 => (ySm u 3 9 + 90) - (ySm u 3 9 + 90) / 9 * 9
  | 4 => ySm u 4 9
  | 5 => ySm u 5 9
  | 6 => u 0
  | _ => nI z
def yMF (u : Nat → Int32) (r : Nat) (v : Int32) : Int32 := if yFv u r v = -1 then -1 else yMv u r (yFv u r v) (v - 5 * yFv u r v)
def yS (u : Nat → Int32) : Nat → Nat → Nat → Int32 → Int32 → Int32
  | 0, _, _, a, b => if b = 0 then -1 else a
  | k + 1, q, w, a, b => yS u k (q + 1) (w / 10) (a + yMF u q (nI (w % 10))) (if ¬ b = 0 ∧ ¬ yMF u q (nI (w % 10)) = -1 then 1 else 0)
def yCp (u a9 : Nat → Int32) : Nat → Int32 × Int32 × (Nat → Int32)
  | 0 => (-1, 0, a9)
  | r + 1 => if u (6 * r + 3) = 0 then yCp u a9 r else if yK1 u r = -1 then ((yCp u a9 r).1, (yCp u a9 r).2.1, u) else
    if (yCp u a9 r).1 = -1 ∨ ¬ (yCp u a9 r).2.1 ≤ yK1 u r then (nI r, yK1 u r, u) else ((yCp u a9 r).1, (yCp u a9 r).2.1, u)
theorem yCp_u (u : Nat → Int32) : ∀ r : Nat, (yCp u u r).2.2 = u
  | 0 => rfl
  | r + 1 => by
    unfold yCp
    split
    · exact yCp_u u r
    · split
      · rfl
      · split <;> rfl
def yLs (u : Nat → Int32) : Nat → Int32
  | 0 => 0
  | r + 1 => yLs u r + yNu u r 16
theorem yNu_n (u : Nat → Int32) (r : Nat) : ∀ n : Nat, ∃ c : Nat, c ≤ n ∧ yNu u r n = nI c
  | 0 => ⟨0, Nat.le_refl _, rfl⟩
  | n + 1 => by
    obtain ⟨c, hc, e⟩ := yNu_n u r n
    unfold yNu
    split
    · exact ⟨c + 1, by omega, by rw [e]; exact nI_1 c⟩
    · exact ⟨c, by omega, e⟩
theorem yLs_n (u : Nat → Int32) : ∃ c : Nat, c < 145 ∧ yLs u 9 = nI c := by
  have key : ∀ n : Nat, ∃ c : Nat, c ≤ 16 * n ∧ yLs u n = nI c := by
    intro n
    induction n with
    | zero => exact ⟨0, Nat.le_refl _, rfl⟩
    | succ n ih =>
      obtain ⟨c, hc, e⟩ := ih
      obtain ⟨c2, hc2, e2⟩ := yNu_n u n 16
      refine ⟨c + c2, by omega, ?_⟩
      show yLs u n + yNu u n 16 = _
      rw [e, e2]; exact nI_add c c2
  obtain ⟨c, hc, e⟩ := key 9
  exact ⟨c, by omega, e⟩
def yLo9 (u : Nat → Int32) : UInt64 := FP.ddiv (FP.i2d (yLs u 9)) 4639270566145032192
theorem yLo9_ok (u : Nat → Int32) : vf_n64 (FP.ddiv (FP.i2d (yLs u 9)) 4639270566145032192) := by
  obtain ⟨c, hc, e⟩ := yLs_n u
  rw [e]; exact lo_ok c hc
def yBf : Nat → UInt64 → Int64 → Int64
  | 0, _, _ => 0
  | k + 1, s, e => if 0 ≤ Op.cmpValue (FP.dcmp s FP.dconst1) CmpOp.g then e * 4503599627370496 + FP.d2l (FP.dmul (FP.dsub s FP.dconst1) 4841369599423283200) else yBf k (FP.dmul s 4611686018427387904) (e - 1)
def yBok : Nat → UInt64 → Int64 → Prop
  | 0, _, _ => False
  | k + 1, s, e => if 0 ≤ Op.cmpValue (FP.dcmp s FP.dconst1) CmpOp.g then vf_n64 (FP.dsub s FP.dconst1) ∧ vf_n64 (FP.dmul (FP.dsub s FP.dconst1) 4841369599423283200) else
    vf_n64 (FP.dmul s 4611686018427387904) ∧ yBok k (FP.dmul s 4611686018427387904) (e - 1)
def yRC (u : Nat → Int32) (r : Nat) (h : Int64) : Int64 :=
  31 * (31 * (31 * (31 * (31 * (31 * (31 * (dK h (fun w => (yRd u r w).toInt64) 8) + (yMF u r 0).toInt64) + (yMF u r 7).toInt64) + (yMF u r 15).toInt64) + (yK0 u r 1).toInt64) + (yK0 u r 6).toInt64) + (yK0 u r (-1)).toInt64) + (yK0 u r (-6)).toInt64
def yH3 (u : Nat → Int32) (z : Nat) : Int64 := 31 * (dK 3299 (fun w => (yCn u z w).toInt64) 8) + yAl u 9
def yH8 (u : Nat → Int32) (z n : Nat) (k : Nat) : Int64 :=
  31 * (31 * (31 * (31 * (31 * (dL (yRC u) (yH3 u z) 9) + (yS u 9 0 0 0 1).toInt64) + (yS u 9 0 123456789 0 1).toInt64) + (yCp u u 9).1.toInt64) + yBf k (yLo9 u) 1023) + (nI n).toInt64
def yDg (t : Nat → Int32) (u : Nat → Int32) (z n k : Nat) : Int64 := dK (yH8 u z n k) (fun i => (t i).toInt64) n
theorem ge8 {k : Nat} (h : k < 8) : ¬ (8 : Int32) ≤ nI k := nI_ge (b := 8) h (by decide)
theorem hd_X4_isRod : yX4_isRod.cls ≠ "java/lang/invoke/MethodHandle" ∧ yX4_isRod.cls ≠ "java/lang/invoke/VarHandle" ∧ (parseMethodDescriptor yX4_isRod.desc).map (fun d => d.parameters.length) = some 1 := by decide +kernel
theorem hd_X4_holds : yX4_holds.cls = RX4 ∧ yX4_holds.cls ≠ "java/lang/invoke/MethodHandle" ∧ yX4_holds.cls ≠ "java/lang/invoke/VarHandle" ∧ (parseMethodDescriptor yX4_holds.desc).map (fun d => d.parameters.length) = some 1 := by decide +kernel
abbrev rmX4_move_1 : Room := { frames := 2, cells := 0, slots := 0, locals := 42 }
set_option maxHeartbeats 1000000 in
set_option maxRecDepth 100000 in
theorem c_X4_move_1 (l : Launch) (D : va_G) (cI cO : ClassId) (ma : Nat → Nat) (th : Int32) (u a9 sv : Nat → Int32) (z : Nat) (t : Nat → Int32) (n : Nat) (dg : Int64) (hn : n ≤ 60) (hz : z ≤ 6) (v9 : Int32) (h : v9 < 0 ∨ ¬ v9 < 9) (f q9 : Int32) : cR (fun _ => True) l yX4_move wsX4_move rmX4_move_1 D vwCl (tyA cI cO) [.ref (ma 0), .int v9, .int f, .int q9] (wM ma cI th u a9 sv z t n dg) (some (.int 0)) (wM ma cI 1 u a9 sv z t n dg) := by
  refine cR_of (cc := cX4_move) (maxL := 4) (ret := (some .int)) (by decide) rfl (Nat.le_of_ble_eq_true rfl) ?_
  intro p e s m below meth c A C hret hlk hnm hF
  refine g_lv [0, 1, 2, 3] (lv' := [(0, .ref (ma 0)), (1, .int v9), (2, .int f), (3, .int q9)]) rfl ?_
  refine g_aload_n C dX4_move_0 0 rfl ?_
  refine g_iload_n C dX4_move_1 1 rfl ?_
  refine g_callSi C (c_X4_isRod l D cI cO v9) gX4_move_X4_isRod rfl ⟨rfl, rfl⟩ hd_X4_isRod ⟨Nat.le_of_ble_eq_true rfl, Nat.le_of_ble_eq_true rfl⟩ [0, 1] rfl (fun _ _ => trivial) rfl (rest := [.ref (ma 0)]) rfl (Nat.le_of_ble_eq_true rfl) dX4_move_2 ⟨Nat.zero_le _, Nat.zero_le _⟩ (pre := []) (post := (wM ma cI th u a9 sv z t n dg)) (ws' := (wM ma cI th u a9 sv z t n dg)) rfl rfl ?_
  refine g_if_ne C (tgt := 12) dX4_move_5 (by decide) (fun h5_1 => absurd (bf (nrod h)) h5_1) (fun _ => ?_)
  refine g_iconst C (v := 1) dX4_move_8 ci_1 ?_
  refine g_goto C (tgt := 49) dX4_move_9 (by decide) ?_
  refine g_callVi C (c_X4_holds l D cI cO ma th u a9 sv z t n dg hn hz 1) gX4_move_X4_holds rfl ⟨rfl, rfl⟩ hd_X4_holds ⟨Nat.le_of_ble_eq_true rfl, Nat.le_of_ble_eq_true rfl⟩ [0, 1] rfl (fun _ _ => trivial) rfl (rest := []) rfl (Nat.le_of_ble_eq_true rfl) dX4_move_49 ⟨Nat.zero_le _, Nat.zero_le _⟩ 0 rfl rfl rfl (pre := []) (post := []) (ws' := (wM ma cI 1 u a9 sv z t n dg)) rfl rfl ?_
  refine g_if_ne C (tgt := 57) dX4_move_52 (by decide) (fun h52_2 => absurd (by decide) h52_2) (fun _ => ?_)
  refine g_iconst C (v := 0) dX4_move_55 ci_0 ?_
  exact g_iret C hret hlk dX4_move_56 rfl rfl
abbrev rmX4_move_2 : Room := { frames := 2, cells := 0, slots := 0, locals := 42 }
set_option maxHeartbeats 1000000 in
set_option maxRecDepth 100000 in
theorem c_X4_move_2 (l : Launch) (D : va_G) (cI cO : ClassId) (ma : Nat → Nat) (th : Int32) (u a9 sv : Nat → Int32) (z : Nat) (t : Nat → Int32) (n : Nat) (dg : Int64) (hn : n ≤ 60) (hz : z ≤ 6) (r : Nat) (hr : r < 9) (f q9 : Int32) (h : f < 0 ∨ ¬ f ≤ 2) : cR (fun _ => True) l yX4_move wsX4_move rmX4_move_2 D vwCl (tyA cI cO) [.ref (ma 0), .int (nI r), .int f, .int q9] (wM ma cI th u a9 sv z t n dg) (some (.int 0)) (wM ma cI 2 u a9 sv z t n dg) := by
  refine cR_of (cc := cX4_move) (maxL := 4) (ret := (some .int)) (by decide) rfl (Nat.le_of_ble_eq_true rfl) ?_
  intro p e s m below meth c A C hret hlk hnm hF
  refine g_lv [0, 1, 2, 3] (lv' := [(0, .ref (ma 0)), (1, .int (nI r)), (2, .int f), (3, .int q9)]) rfl ?_
  refine g_aload_n C dX4_move_0 0 rfl ?_
  refine g_iload_n C dX4_move_1 1 rfl ?_
  refine g_callSi C (c_X4_isRod l D cI cO (nI r)) gX4_move_X4_isRod rfl ⟨rfl, rfl⟩ hd_X4_isRod ⟨Nat.le_of_ble_eq_true rfl, Nat.le_of_ble_eq_true rfl⟩ [0, 1] rfl (fun _ _ => trivial) rfl (rest := [.ref (ma 0)]) rfl (Nat.le_of_ble_eq_true rfl) dX4_move_2 ⟨Nat.zero_le _, Nat.zero_le _⟩ (pre := []) (post := (wM ma cI th u a9 sv z t n dg)) (ws' := (wM ma cI th u a9 sv z t n dg)) rfl rfl ?_
  refine g_if_ne C (tgt := 12) dX4_move_5 (by decide) (fun _ => ?_) (fun h5_1 => absurd h5_1 (bt (rodp hr)))
  refine g_iload_n C dX4_move_12 2 rfl ?_
  refine g_iconst C (v := 0) dX4_move_13 ci_0 ?_
  refine g_iconst C (v := 2) dX4_move_14 ci_2 ?_
  refine g_callSi C (c_X4_in l D cI cO f 0 2) gX4_move_X4_in rfl ⟨rfl, rfl⟩ hd_X4_in ⟨Nat.le_of_ble_eq_true rfl, Nat.le_of_ble_eq_true rfl⟩ [0, 1] rfl (fun _ _ => trivial) rfl (rest := [.ref (ma 0)]) rfl (Nat.le_of_ble_eq_true rfl) dX4_move_15 ⟨Nat.zero_le _, Nat.zero_le _⟩ (pre := []) (post := (wM ma cI th u a9 sv z t n dg)) (ws' := (wM ma cI th u a9 sv z t n dg)) rfl rfl ?_
  refine g_if_eq C (tgt := 30) dX4_move_18 (by decide) (fun _ => ?_) (fun h18_2 => absurd (bf (nin h)) h18_2)
  refine g_iconst C (v := 2) dX4_move_30 ci_2 ?_
  refine g_goto C (tgt := 49) dX4_move_31 (by decide) ?_
  refine g_callVi C (c_X4_holds l D cI cO ma th u a9 sv z t n dg hn hz 2) gX4_move_X4_holds rfl ⟨rfl, rfl⟩ hd_X4_holds ⟨Nat.le_of_ble_eq_true rfl, Nat.le_of_ble_eq_true rfl⟩ [0, 1] rfl (fun _ _ => trivial) rfl (rest := []) rfl (Nat.le_of_ble_eq_true rfl) dX4_move_49 ⟨Nat.zero_le _, Nat.zero_le _⟩ 0 rfl rfl rfl (pre := []) (post := []) (ws' := (wM ma cI 2 u a9 sv z t n dg)) rfl rfl ?_
  refine g_if_ne C (tgt := 57) dX4_move_52 (by decide) (fun h52_3 => absurd (by decide) h52_3) (fun _ => ?_)
  refine g_iconst C (v := 0) dX4_move_55 ci_0 ?_
  exact g_iret C hret hlk dX4_move_56 rfl rfl
abbrev rmX4_move_3 : Room := { frames := 2, cells := 0, slots := 0, locals := 42 }
set_option maxHeartbeats 1000000 in
set_option maxRecDepth 100000 in
theorem c_X4_move_3 (l : Launch) (D : va_G) (cI cO : ClassId) (ma : Nat → Nat) (th : Int32) (u a9 sv : Nat → Int32) (z : Nat) (t : Nat → Int32) (n : Nat) (dg : Int64) (hn : n ≤ 60) (hz : z ≤ 6) (r : Nat) (hr : r < 9) (f q9 : Int32) (h1 : ¬ f < 0) (h2 : f ≤ 2) (h : q9 < 0 ∨ ¬ q9 ≤ 5) : cR (fun _ => True) l yX4_move wsX4_move rmX4_move_3 D vwCl (tyA cI cO) [.ref (ma 0), .int (nI r), .int f, .int q9] (wM ma cI th u a9 sv z t n dg) (some (.int 0)) (wM ma cI 2 u a9 sv z t n dg) := by
  refine cR_of (cc := cX4_move) (maxL := 4) (ret := (some .int)) (by decide) rfl (Nat.le_of_ble_eq_true rfl) ?_
  intro p e s m below meth c A C hret hlk hnm hF
  refine g_lv [0, 1, 2, 3] (lv' := [(0, .ref (ma 0)), (1, .int (nI r)), (2, .int f), (3, .int q9)]) rfl ?_
  refine g_aload_n C dX4_move_0 0 rfl ?_
  refine g_iload_n C dX4_move_1 1 rfl ?_
  refine g_callSi C (c_X4_isRod l D cI cO (nI r)) gX4_move_X4_isRod rfl ⟨rfl, rfl⟩ hd_X4_isRod ⟨Nat.le_of_ble_eq_true rfl, Nat.le_of_ble_eq_true rfl⟩ [0, 1] rfl (fun _ _ => trivial) rfl (rest := [.ref (ma 0)]) rfl (Nat.le_of_ble_eq_true rfl) dX4_move_2 ⟨Nat.zero_le _, Nat.zero_le _⟩ (pre := []) (post := (wM ma cI th u a9 sv z t n dg)) (ws' := (wM ma cI th u a9 sv z t n dg)) rfl rfl ?_
  refine g_if_ne C (tgt := 12) dX4_move_5 (by decide) (fun _ => ?_) (fun h5_1 => absurd h5_1 (bt (rodp hr)))
  refine g_iload_n C dX4_move_12 2 rfl ?_
  refine g_iconst C (v := 0) dX4_move_13 ci_0 ?_
  refine g_iconst C (v := 2) dX4_move_14 ci_2 ?_
  refine g_callSi C (c_X4_in l D cI cO f 0 2) gX4_move_X4_in rfl ⟨rfl, rfl⟩ hd_X4_in ⟨Nat.le_of_ble_eq_true rfl, Nat.le_of_ble_eq_true rfl⟩ [0, 1] rfl (fun _ _ => trivial) rfl (rest := [.ref (ma 0)]) rfl (Nat.le_of_ble_eq_true rfl) dX4_move_15 ⟨Nat.zero_le _, Nat.zero_le _⟩ (pre := []) (post := (wM ma cI th u a9 sv z t n dg)) (ws' := (wM ma cI th u a9 sv z t n dg)) rfl rfl ?_
  refine g_if_eq C (tgt := 30) dX4_move_18 (by decide) (fun h18_2 => absurd h18_2 (bt (inp h1 h2))) (fun _ => ?_)
  refine g_iload_n C dX4_move_21 3 rfl ?_
  refine g_iconst C (v := 0) dX4_move_22 ci_0 ?_
  refine g_iconst C (v := 5) dX4_move_23 ci_5 ?_
  refine g_callSi C (c_X4_in l D cI cO q9 0 5) gX4_move_X4_in rfl ⟨rfl, rfl⟩ hd_X4_in ⟨Nat.le_of_ble_eq_true rfl, Nat.le_of_ble_eq_true rfl⟩ [0, 1] rfl (fun _ _ => trivial) rfl (rest := [.ref (ma 0)]) rfl (Nat.le_of_ble_eq_true rfl) dX4_move_24 ⟨Nat.zero_le _, Nat.zero_le _⟩ (pre := []) (post := (wM ma cI th u a9 sv z t n dg)) (ws' := (wM ma cI th u a9 sv z t n dg)) rfl rfl ?_
  refine g_if_ne C (tgt := 34) dX4_move_27 (by decide) (fun h27_3 => absurd (bf (nin h)) h27_3) (fun _ => ?_)
  refine g_iconst C (v := 2) dX4_move_30 ci_2 ?_
  refine g_goto C (tgt := 49) dX4_move_31 (by decide) ?_
  refine g_callVi C (c_X4_holds l D cI cO ma th u a9 sv z t n dg hn hz 2) gX4_move_X4_holds rfl ⟨rfl, rfl⟩ hd_X4_holds ⟨Nat.le_of_ble_eq_true rfl, Nat.le_of_ble_eq_true rfl⟩ [0, 1] rfl (fun _ _ => trivial) rfl (rest := []) rfl (Nat.le_of_ble_eq_true rfl) dX4_move_49 ⟨Nat.zero_le _, Nat.zero_le _⟩ 0 rfl rfl rfl (pre := []) (post := []) (ws' := (wM ma cI 2 u a9 sv z t n dg)) rfl rfl ?_
  refine g_if_ne C (tgt := 57) dX4_move_52 (by decide) (fun h52_4 => absurd (by decide) h52_4) (fun _ => ?_)
  refine g_iconst C (v := 0) dX4_move_55 ci_0 ?_
  exact g_iret C hret hlk dX4_move_56 rfl rfl
abbrev rmX4_move_4 : Room := { frames := 2, cells := 0, slots := 0, locals := 45 }
set_option maxHeartbeats 1000000 in
set_option maxRecDepth 100000 in
theorem c_X4_move_4 (l : Launch) (D : va_G) (cI cO : ClassId) (ma : Nat → Nat) (th : Int32) (u a9 sv : Nat → Int32) (z : Nat) (t : Nat → Int32) (n : Nat) (dg : Int64) (hn : n ≤ 60) (hz : z ≤ 6) (r : Nat) (hr : r < 9) (f q9 : Int32) (h1 : ¬ f < 0) (h2 : f ≤ 2) (h3 : ¬ q9 < 0) (h4 : q9 ≤ 5) (h : ¬ yLo u r f q9) : cR (fun _ => True) l yX4_move wsX4_move rmX4_move_4 D vwCl (tyA cI cO) [.ref (ma 0), .int (nI r), .int f, .int q9] (wM ma cI th u a9 sv z t n dg) (some (.int 0)) (wM ma cI 3 u a9 sv z t n dg) := by
  refine cR_of (cc := cX4_move) (maxL := 4) (ret := (some .int)) (by decide) rfl (Nat.le_of_ble_eq_true rfl) ?_
  intro p e s m below meth c A C hret hlk hnm hF
  refine g_lv [0, 1, 2, 3] (lv' := [(0, .ref (ma 0)), (1, .int (nI r)), (2, .int f), (3, .int q9)]) rfl ?_
  refine g_aload_n C dX4_move_0 0 rfl ?_
  refine g_iload_n C dX4_move_1 1 rfl ?_
  refine g_callSi C (c_X4_isRod l D cI cO (nI r)) gX4_move_X4_isRod rfl ⟨rfl, rfl⟩ hd_X4_isRod ⟨Nat.le_of_ble_eq_true rfl, Nat.le_of_ble_eq_true rfl⟩ [0, 1] rfl (fun _ _ => trivial) rfl (rest := [.ref (ma 0)]) rfl (Nat.le_of_ble_eq_true rfl) dX4_move_2 ⟨Nat.zero_le _, Nat.zero_le _⟩ (pre := []) (post := (wM ma cI th u a9 sv z t n dg)) (ws' := (wM ma cI th u a9 sv z t n dg)) rfl rfl ?_
  refine g_if_ne C (tgt := 12) dX4_move_5 (by decide) (fun _ => ?_) (fun h5_1 => absurd h5_1 (bt (rodp hr)))
  refine g_iload_n C dX4_move_12 2 rfl ?_
  refine g_iconst C (v := 0) dX4_move_13 ci_0 ?_
  refine g_iconst C (v := 2) dX4_move_14 ci_2 ?_
  refine g_callSi C (c_X4_in l D cI cO f 0 2) gX4_move_X4_in rfl ⟨rfl, rfl⟩ hd_X4_in ⟨Nat.le_of_ble_eq_true rfl, Nat.le_of_ble_eq_true rfl⟩ [0, 1] rfl (fun _ _ => trivial) rfl (rest := [.ref (ma 0)]) rfl (Nat.le_of_ble_eq_true rfl) dX4_move_15 ⟨Nat.zero_le _, Nat.zero_le _⟩ (pre := []) (post := (wM ma cI th u a9 sv z t n dg)) (ws' := (wM ma cI th u a9 sv z t n dg)) rfl rfl ?_
  refine g_if_eq C (tgt := 30) dX4_move_18 (by decide) (fun h18_2 => absurd h18_2 (bt (inp h1 h2))) (fun _ => ?_)
  refine g_iload_n C dX4_move_21 3 rfl ?_
  refine g_iconst C (v := 0) dX4_move_22 ci_0 ?_
  refine g_iconst C (v := 5) dX4_move_23 ci_5 ?_
  refine g_callSi C (c_X4_in l D cI cO q9 0 5) gX4_move_X4_in rfl ⟨rfl, rfl⟩ hd_X4_in ⟨Nat.le_of_ble_eq_true rfl, Nat.le_of_ble_eq_true rfl⟩ [0, 1] rfl (fun _ _ => trivial) rfl (rest := [.ref (ma 0)]) rfl (Nat.le_of_ble_eq_true rfl) dX4_move_24 ⟨Nat.zero_le _, Nat.zero_le _⟩ (pre := []) (post := (wM ma cI th u a9 sv z t n dg)) (ws' := (wM ma cI th u a9 sv z t n dg)) rfl rfl ?_
  refine g_if_ne C (tgt := 34) dX4_move_27 (by decide) (fun _ => ?_) (fun h27_3 => absurd h27_3 (bt (inp h3 h4)))
  refine g_aload_n C dX4_move_34 0 rfl ?_
  refine g_iload_n C dX4_move_35 1 rfl ?_
  refine g_iload_n C dX4_move_36 2 rfl ?_
  refine g_iload_n C dX4_move_37 3 rfl ?_
  refine g_callVi C (c_X4_isLoose l D cI cO ma th u a9 sv z t n dg hn hz r ((by omega)) f q9) gX4_move_X4_isLoose rfl ⟨rfl, rfl⟩ hd_X4_isLoose ⟨Nat.le_of_ble_eq_true rfl, Nat.le_of_ble_eq_true rfl⟩ [0, 1] rfl (fun _ _ => trivial) rfl (rest := [.ref (ma 0)]) rfl (Nat.le_of_ble_eq_true rfl) dX4_move_38 ⟨Nat.zero_le _, Nat.zero_le _⟩ 0 rfl rfl rfl (pre := []) (post := []) (ws' := (wM ma cI th u a9 sv z t n dg)) rfl rfl ?_
  refine g_if_ne C (tgt := 48) dX4_move_41 (by decide) (fun h41_4 => absurd (bf h) h41_4) (fun _ => ?_)
  refine g_iconst C (v := 3) dX4_move_44 ci_3 ?_
  refine g_goto C (tgt := 49) dX4_move_45 (by decide) ?_
  refine g_callVi C (c_X4_holds l D cI cO ma th u a9 sv z t n dg hn hz 3) gX4_move_X4_holds rfl ⟨rfl, rfl⟩ hd_X4_holds ⟨Nat.le_of_ble_eq_true rfl, Nat.le_of_ble_eq_true rfl⟩ [0, 1] rfl (fun _ _ => trivial) rfl (rest := []) rfl (Nat.le_of_ble_eq_true rfl) dX4_move_49 ⟨Nat.zero_le _, Nat.zero_le _⟩ 0 rfl rfl rfl (pre := []) (post := []) (ws' := (wM ma cI 3 u a9 sv z t n dg)) rfl rfl ?_
  refine g_if_ne C (tgt := 57) dX4_move_52 (by decide) (fun h52_5 => absurd (by decide) h52_5) (fun _ => ?_)
  refine g_iconst C (v := 0) dX4_move_55 ci_0 ?_
  exact g_iret C hret hlk dX4_move_56 rfl rfl
theorem hd_X4_save : yX4_save.cls = RX4 ∧ yX4_save.cls ≠ "java/lang/invoke/MethodHandle" ∧ yX4_save.cls ≠ "java/lang/invoke/VarHandle" ∧ (parseMethodDescriptor yX4_save.desc).map (fun d => d.parameters.length) = some 0 := by decide +kernel
abbrev rmX4_move : Room := { frames := 3, cells := 0, slots := 0, locals := 68 }
set_option maxHeartbeats 1000000 in
set_option maxRecDepth 100000 in
theorem c_X4_move (l : Launch) (D : va_G) (cI cO : ClassId) (ma : Nat → Nat) (th : Int32) (u a9 sv : Nat → Int32) (z : Nat) (t : Nat → Int32) (n : Nat) (dg : Int64) (hn : n ≤ 60) (hz : z ≤ 6) (r : Nat) (hr : r < 9) (f q9 : Int32) (h1 : ¬ f < 0) (h2 : f ≤ 2) (h3 : ¬ q9 < 0) (h4 : q9 ≤ 5) (h : yLo u r f q9) : cR (fun _ => True) l yX4_move wsX4_move rmX4_move D vwCl (tyA cI cO) [.ref (ma 0), .int (nI r), .int f, .int q9] (wM ma cI th u a9 sv z t n dg) (some (.int (yMv u r f q9))) (wM ma cI 0 (xPl u r f q9 (yMv u r f q9)) a9 (ySv u sv z) (kM z + 1) t n dg) := by
  refine cR_of (cc := cX4_move) (maxL := 4) (ret := (some .int)) (by decide) rfl (Nat.le_of_ble_eq_true rfl) ?_
  intro p e s m below meth c A C hret hlk hnm hF
  refine g_lv [0, 1, 2, 3] (lv' := [(0, .ref (ma 0)), (1, .int (nI r)), (2, .int f), (3, .int q9)]) rfl ?_
  refine g_aload_n C dX4_move_0 0 rfl ?_
  refine g_iload_n C dX4_move_1 1 rfl ?_
  refine g_callSi C (c_X4_isRod l D cI cO (nI r)) gX4_move_X4_isRod rfl ⟨rfl, rfl⟩ hd_X4_isRod ⟨Nat.le_of_ble_eq_true rfl, Nat.le_of_ble_eq_true rfl⟩ [0, 1] rfl (fun _ _ => trivial) rfl (rest := [.ref (ma 0)]) rfl (Nat.le_of_ble_eq_true rfl) dX4_move_2 ⟨Nat.zero_le _, Nat.zero_le _⟩ (pre := []) (post := (wM ma cI th u a9 sv z t n dg)) (ws' := (wM ma cI th u a9 sv z t n dg)) rfl rfl ?_
  refine g_if_ne C (tgt := 12) dX4_move_5 (by decide) (fun _ => ?_) (fun h5_1 => absurd h5_1 (bt (rodp hr)))
  refine g_iload_n C dX4_move_12 2 rfl ?_
  refine g_iconst C (v := 0) dX4_move_13 ci_0 ?_
  refine g_iconst C (v := 2) dX4_move_14 ci_2 ?_
  refine g_callSi C (c_X4_in l D cI cO f 0 2) gX4_move_X4_in rfl ⟨rfl, rfl⟩ hd_X4_in ⟨Nat.le_of_ble_eq_true rfl, Nat.le_of_ble_eq_true rfl⟩ [0, 1] rfl (fun _ _ => trivial) rfl (rest := [.ref (ma 0)]) rfl (Nat.le_of_ble_eq_true rfl) dX4_move_15 ⟨Nat.zero_le _, Nat.zero_le _⟩ (pre := []) (post := (wM ma cI th u a9 sv z t n dg)) (ws' := (wM ma cI th u a9 sv z t n dg)) rfl rfl ?_
  refine g_if_eq C (tgt := 30) dX4_move_18 (by decide) (fun h18_2 => absurd h18_2 (bt (inp h1 h2))) (fun _ => ?_)
  refine g_iload_n C dX4_move_21 3 rfl ?_
  refine g_iconst C (v := 0) dX4_move_22 ci_0 ?_
  refine g_iconst C (v := 5) dX4_move_23 ci_5 ?_
  refine g_callSi C (c_X4_in l D cI cO q9 0 5) gX4_move_X4_in rfl ⟨rfl, rfl⟩ hd_X4_in ⟨Nat.le_of_ble_eq_true rfl, Nat.le_of_ble_eq_true rfl⟩ [0, 1] rfl (fun _ _ => trivial) rfl (rest := [.ref (ma 0)]) rfl (Nat.le_of_ble_eq_true rfl) dX4_move_24 ⟨Nat.zero_le _, Nat.zero_le _⟩ (pre := []) (post := (wM ma cI th u a9 sv z t n dg)) (ws' := (wM ma cI th u a9 sv z t n dg)) rfl rfl ?_
  refine g_if_ne C (tgt := 34) dX4_move_27 (by decide) (fun _ => ?_) (fun h27_3 => absurd h27_3 (bt (inp h3 h4)))
  refine g_aload_n C dX4_move_34 0 rfl ?_
  refine g_iload_n C dX4_move_35 1 rfl ?_
  refine g_iload_n C dX4_move_36 2 rfl ?_
  refine g_iload_n C dX4_move_37 3 rfl ?_
  refine g_callVi C (c_X4_isLoose l D cI cO ma th u a9 sv z t n dg hn hz r ((by omega)) f q9) gX4_move_X4_isLoose rfl ⟨rfl, rfl⟩ hd_X4_isLoose ⟨Nat.le_of_ble_eq_true rfl, Nat.le_of_ble_eq_true rfl⟩ [0, 1] rfl (fun _ _ => trivial) rfl (rest := [.ref (ma 0)]) rfl (Nat.le_of_ble_eq_true rfl) dX4_move_38 ⟨Nat.zero_le _, Nat.zero_le _⟩ 0 rfl rfl rfl (pre := []) (post := []) (ws' := (wM ma cI th u a9 sv z t n dg)) rfl rfl ?_
  refine g_if_ne C (tgt := 48) dX4_move_41 (by decide) (fun _ => ?_) (fun h41_4 => absurd h41_4 (bt h))
  refine g_iconst C (v := 0) dX4_move_48 ci_0 ?_
  refine g_callVi C (c_X4_holds l D cI cO ma th u a9 sv z t n dg hn hz 0) gX4_move_X4_holds rfl ⟨rfl, rfl⟩ hd_X4_holds ⟨Nat.le_of_ble_eq_true rfl, Nat.le_of_ble_eq_true rfl⟩ [0, 1] rfl (fun _ _ => trivial) rfl (rest := []) rfl (Nat.le_of_ble_eq_true rfl) dX4_move_49 ⟨Nat.zero_le _, Nat.zero_le _⟩ 0 rfl rfl rfl (pre := []) (post := []) (ws' := (wM ma cI 0 u a9 sv z t n dg)) rfl rfl ?_
  refine g_if_ne C (tgt := 57) dX4_move_52 (by decide) (fun _ => ?_) (fun h52_5 => absurd h52_5 (by decide))
  refine g_aload_n C dX4_move_57 0 rfl ?_
  refine g_callVv C (c_X4_save l D cI cO ma 0 u a9 sv z t n dg hn hz) gX4_move_X4_save rfl ⟨rfl, rfl⟩ hd_X4_save ⟨Nat.le_of_ble_eq_true rfl, Nat.le_of_ble_eq_true rfl⟩ [0, 1] rfl (fun _ _ => trivial) rfl (rest := []) rfl (Nat.le_of_ble_eq_true rfl) dX4_move_58 ⟨Nat.zero_le _, Nat.zero_le _⟩ 0 rfl rfl rfl (pre := []) (post := []) (ws' := (wM ma cI 0 u a9 (ySv u sv z) (kM z + 1) t n dg)) rfl rfl ?_
  refine g_aload_n C dX4_move_61 0 rfl ?_
  refine g_iload_n C dX4_move_62 1 rfl ?_
  refine g_iload_n C dX4_move_63 2 rfl ?_
  refine g_iload_n C dX4_move_64 3 rfl ?_
  refine g_callVi C (c_X4_movesBeads l D cI cO ma 0 u a9 (ySv u sv z) (kM z + 1) t n dg hn (by have := kM_lt hz; omega) r ((by omega)) f q9) gX4_move_X4_movesBeads rfl ⟨rfl, rfl⟩ hd_X4_movesBeads ⟨Nat.le_of_ble_eq_true rfl, Nat.le_of_ble_eq_true rfl⟩ [0, 1] rfl (fun _ _ => trivial) rfl (rest := []) rfl (Nat.le_of_ble_eq_true rfl) dX4_move_65 ⟨Nat.zero_le _, Nat.zero_le _⟩ 0 rfl rfl rfl (pre := []) (post := []) (ws' := (wM ma cI 0 (xPl u r f q9 (yMv u r f q9)) a9 (ySv u sv z) (kM z + 1) t n dg)) rfl rfl ?_
  exact g_iret C hret hlk dX4_move_68 rfl rfl
theorem fw_X4_puts_fld7 : Cond.fieldLink RX4 7 "StuckRodsModel" "s" "[I" ∈ wsX4_puts := (List.mem_cons_of_mem _ (List.mem_append_left _ (List.mem_of_getElem? (i := 0) rfl)))
theorem fl_X4_puts_X4 : ∀ w ∈ wsX40, w ∈ wsX4_puts := fun _ h => List.mem_cons_of_mem _ (List.mem_append_right _ h)
abbrev rmX4_puts : Room := { frames := 1, cells := 0, slots := 0, locals := 21 }
set_option maxHeartbeats 1000000 in
set_option maxRecDepth 100000 in
theorem c_X4_puts (l : Launch) (D : va_G) (cI cO : ClassId) (ma : Nat → Nat) (th : Int32) (u a9 sv : Nat → Int32) (z : Nat) (t : Nat → Int32) (n : Nat) (dg : Int64) (hn : n ≤ 60) (hz : z ≤ 6) (a : Nat) (ha : a < 55) (v : Int32) : cR (fun _ => True) l yX4_puts wsX4_puts rmX4_puts D vwCl (tyA cI cO) [.ref (ma 0), .int (nI a), .int v] (wM ma cI th u a9 sv z t n dg) (some (.int (u a))) (wM ma cI th (upd u a v) a9 (ySv u sv z) (kM z + 1) t n dg) := by
  refine cR_of (cc := cX4_puts) (maxL := 4) (ret := (some .int)) (by decide) rfl (Nat.le_of_ble_eq_true rfl) ?_
  intro p e s m below meth c A C hret hlk hnm hF
  refine g_lv [0, 1, 2] (lv' := [(0, .ref (ma 0)), (1, .int (nI a)), (2, .int v)]) rfl ?_
  refine g_aload_n C dX4_puts_0 0 rfl ?_
  refine g_callVv C (c_X4_save l D cI cO ma th u a9 sv z t n dg hn hz) gX4_puts_X4_save rfl ⟨rfl, rfl⟩ hd_X4_save ⟨Nat.le_of_ble_eq_true rfl, Nat.le_of_ble_eq_true rfl⟩ [0, 1] rfl (fun _ _ => trivial) rfl (rest := []) rfl (Nat.le_of_ble_eq_true rfl) dX4_puts_1 ⟨Nat.zero_le _, Nat.zero_le _⟩ 0 rfl rfl rfl (pre := []) (post := []) (ws' := (wM ma cI th u a9 (ySv u sv z) (kM z + 1) t n dg)) rfl rfl ?_
  refine g_aload_n C dX4_puts_4 0 rfl ?_
  refine g_get C (v := .ref (ma 1)) fl_X4_puts_X4 0 rfl rfl 1 (by decide) fw_X4_puts_fld7 rfl dX4_puts_5 ?_
  refine g_iload_n C dX4_puts_8 1 rfl ?_
  refine g_iald C (x := u a) 1 0 rfl rfl a rfl ha (by decide) rfl dX4_puts_9 ?_
  refine g_istore_n C (lv' := [(3, .int (u a)), (0, .ref (ma 0)), (1, .int (nI a)), (2, .int v)]) dX4_puts_10 rfl (by decide) rfl ?_
  refine g_aload_n C dX4_puts_11 1 rfl ?_
  refine g_get C (v := .ref (ma 1)) fl_X4_puts_X4 0 rfl rfl 1 (by decide) fw_X4_puts_fld7 rfl dX4_puts_12 ?_
  refine g_iload_n C dX4_puts_15 2 rfl ?_
  refine g_iload_n C dX4_puts_16 3 rfl ?_
  refine g_iast C (ws' := (wM ma cI th (upd u a v) a9 (ySv u sv z) (kM z + 1) t n dg)) 1 0 rfl rfl a rfl ha (by decide) dX4_puts_17 rfl ?_
  refine g_iload_n C dX4_puts_18 0 rfl ?_
  exact g_iret C hret hlk dX4_puts_19 rfl rfl
abbrev rmX4_stick_1 : Room := { frames := 2, cells := 0, slots := 0, locals := 42 }
set_option maxHeartbeats 1000000 in
set_option maxRecDepth 100000 in
theorem c_X4_stick_1 (l : Launch) (D : va_G) (cI cO : ClassId) (ma : Nat → Nat) (th : Int32) (u a9 sv : Nat → Int32) (z : Nat) (t : Nat → Int32) (n : Nat) (dg : Int64) (hn : n ≤ 60) (hz : z ≤ 6) (v9 : Int32) (h : v9 < 0 ∨ ¬ v9 < 9) (w9 : Int32) : cR (fun _ => True) l yX4_stick wsX4_stick rmX4_stick_1 D vwCl (tyA cI cO) [.ref (ma 0), .int v9, .int w9] (wM ma cI th u a9 sv z t n dg) (some (.int 0)) (wM ma cI 1 u a9 sv z t n dg) := by
  refine cR_of (cc := cX4_stick) (maxL := 3) (ret := (some .int)) (by decide) rfl (Nat.le_of_ble_eq_true rfl) ?_
  intro p e s m below meth c A C hret hlk hnm hF
  refine g_lv [0, 1, 2] (lv' := [(0, .ref (ma 0)), (1, .int v9), (2, .int w9)]) rfl ?_
  refine g_aload_n C dX4_stick_0 0 rfl ?_
  refine g_iload_n C dX4_stick_1 1 rfl ?_
  refine g_callSi C (c_X4_isRod l D cI cO v9) gX4_stick_X4_isRod rfl ⟨rfl, rfl⟩ hd_X4_isRod ⟨Nat.le_of_ble_eq_true rfl, Nat.le_of_ble_eq_true rfl⟩ [0, 1] rfl (fun _ _ => trivial) rfl (rest := [.ref (ma 0)]) rfl (Nat.le_of_ble_eq_true rfl) dX4_stick_2 ⟨Nat.zero_le _, Nat.zero_le _⟩ (pre := []) (post := (wM ma cI th u a9 sv z t n dg)) (ws' := (wM ma cI th u a9 sv z t n dg)) rfl rfl ?_
  refine g_if_ne C (tgt := 12) dX4_stick_5 (by decide) (fun h5_1 => absurd (bf (nrod h)) h5_1) (fun _ => ?_)
  refine g_iconst C (v := 1) dX4_stick_8 ci_1 ?_
  refine g_goto C (tgt := 26) dX4_stick_9 (by decide) ?_
  refine g_callVi C (c_X4_holds l D cI cO ma th u a9 sv z t n dg hn hz 1) gX4_stick_X4_holds rfl ⟨rfl, rfl⟩ hd_X4_holds ⟨Nat.le_of_ble_eq_true rfl, Nat.le_of_ble_eq_true rfl⟩ [0, 1] rfl (fun _ _ => trivial) rfl (rest := []) rfl (Nat.le_of_ble_eq_true rfl) dX4_stick_26 ⟨Nat.zero_le _, Nat.zero_le _⟩ 0 rfl rfl rfl (pre := []) (post := []) (ws' := (wM ma cI 1 u a9 sv z t n dg)) rfl rfl ?_
  refine g_if_eq C (tgt := 45) dX4_stick_29 (by decide) (fun _ => ?_) (fun h29_2 => absurd (by decide) h29_2)
  refine g_iconst C (v := 0) dX4_stick_45 ci_0 ?_
  exact g_iret C hret hlk dX4_stick_46 rfl rfl
abbrev rmX4_stick_2 : Room := { frames := 2, cells := 0, slots := 0, locals := 42 }
set_option maxHeartbeats 1000000 in
set_option maxRecDepth 100000 in
theorem c_X4_stick_2 (l : Launch) (D : va_G) (cI cO : ClassId) (ma : Nat → Nat) (th : Int32) (u a9 sv : Nat → Int32) (z : Nat) (t : Nat → Int32) (n : Nat) (dg : Int64) (hn : n ≤ 60) (hz : z ≤ 6) (r : Nat) (hr : r < 9) (w9 : Int32) (h : w9 < 0 ∨ ¬ w9 ≤ 3) : cR (fun _ => True) l yX4_stick wsX4_stick rmX4_stick_2 D vwCl (tyA cI cO) [.ref (ma 0), .int (nI r), .int w9] (wM ma cI th u a9 sv z t n dg) (some (.int 0)) (wM ma cI 2 u a9 sv z t n dg) := by
  refine cR_of (cc := cX4_stick) (maxL := 3) (ret := (some .int)) (by decide) rfl (Nat.le_of_ble_eq_true rfl) ?_
  intro p e s m below meth c A C hret hlk hnm hF
  refine g_lv [0, 1, 2] (lv' := [(0, .ref (ma 0)), (1, .int (nI r)), (2, .int w9)]) rfl ?_
  refine g_aload_n C dX4_stick_0 0 rfl ?_
  refine g_iload_n C dX4_stick_1 1 rfl ?_
  refine g_callSi C (c_X4_isRod l D cI cO (nI r)) gX4_stick_X4_isRod rfl ⟨rfl, rfl⟩ hd_X4_isRod ⟨Nat.le_of_ble_eq_true rfl, Nat.le_of_ble_eq_true rfl⟩ [0, 1] rfl (fun _ _ => trivial) rfl (rest := [.ref (ma 0)]) rfl (Nat.le_of_ble_eq_true rfl) dX4_stick_2 ⟨Nat.zero_le _, Nat.zero_le _⟩ (pre := []) (post := (wM ma cI th u a9 sv z t n dg)) (ws' := (wM ma cI th u a9 sv z t n dg)) rfl rfl ?_
  refine g_if_ne C (tgt := 12) dX4_stick_5 (by decide) (fun _ => ?_) (fun h5_1 => absurd h5_1 (bt (rodp hr)))
  refine g_iload_n C dX4_stick_12 2 rfl ?_
  refine g_iconst C (v := 0) dX4_stick_13 ci_0 ?_
  refine g_iconst C (v := 3) dX4_stick_14 ci_3 ?_
  refine g_callSi C (c_X4_in l D cI cO w9 0 3) gX4_stick_X4_in rfl ⟨rfl, rfl⟩ hd_X4_in ⟨Nat.le_of_ble_eq_true rfl, Nat.le_of_ble_eq_true rfl⟩ [0, 1] rfl (fun _ _ => trivial) rfl (rest := [.ref (ma 0)]) rfl (Nat.le_of_ble_eq_true rfl) dX4_stick_15 ⟨Nat.zero_le _, Nat.zero_le _⟩ (pre := []) (post := (wM ma cI th u a9 sv z t n dg)) (ws' := (wM ma cI th u a9 sv z t n dg)) rfl rfl ?_
  refine g_if_ne C (tgt := 25) dX4_stick_18 (by decide) (fun h18_2 => absurd (bf (nin h)) h18_2) (fun _ => ?_)
  refine g_iconst C (v := 2) dX4_stick_21 ci_2 ?_
  refine g_goto C (tgt := 26) dX4_stick_22 (by decide) ?_
  refine g_callVi C (c_X4_holds l D cI cO ma th u a9 sv z t n dg hn hz 2) gX4_stick_X4_holds rfl ⟨rfl, rfl⟩ hd_X4_holds ⟨Nat.le_of_ble_eq_true rfl, Nat.le_of_ble_eq_true rfl⟩ [0, 1] rfl (fun _ _ => trivial) rfl (rest := []) rfl (Nat.le_of_ble_eq_true rfl) dX4_stick_26 ⟨Nat.zero_le _, Nat.zero_le _⟩ 0 rfl rfl rfl (pre := []) (post := []) (ws' := (wM ma cI 2 u a9 sv z t n dg)) rfl rfl ?_
  refine g_if_eq C (tgt := 45) dX4_stick_29 (by decide) (fun _ => ?_) (fun h29_3 => absurd (by decide) h29_3)
  refine g_iconst C (v := 0) dX4_stick_45 ci_0 ?_
  exact g_iret C hret hlk dX4_stick_46 rfl rfl
theorem hd_X4_puts : yX4_puts.cls = RX4 ∧ yX4_puts.cls ≠ "java/lang/invoke/MethodHandle" ∧ yX4_puts.cls ≠ "java/lang/invoke/VarHandle" ∧ (parseMethodDescriptor yX4_puts.desc).map (fun d => d.parameters.length) = some 2 := by decide +kernel
abbrev rmX4_stick : Room := { frames := 2, cells := 0, slots := 0, locals := 44 }
set_option maxHeartbeats 1000000 in
set_option maxRecDepth 100000 in
theorem c_X4_stick (l : Launch) (D : va_G) (cI cO : ClassId) (ma : Nat → Nat) (th : Int32) (u a9 sv : Nat → Int32) (z : Nat) (t : Nat → Int32) (n : Nat) (dg : Int64) (hn : n ≤ 60) (hz : z ≤ 6) (r : Nat) (hr : r < 9) (w9 : Int32) (h1 : ¬ w9 < 0) (h2 : w9 ≤ 3) : cR (fun _ => True) l yX4_stick wsX4_stick rmX4_stick D vwCl (tyA cI cO) [.ref (ma 0), .int (nI r), .int w9] (wM ma cI th u a9 sv z t n dg) (some (.int (u (6 * r + 4)))) (wM ma cI 0 (upd u (6 * r + 4) w9) a9 (ySv u sv z) (kM z + 1) t n dg) := by
  refine cR_of (cc := cX4_stick) (maxL := 3) (ret := (some .int)) (by decide) rfl (Nat.le_of_ble_eq_true rfl) ?_
  intro p e s m below meth c A C hret hlk hnm hF
  refine g_lv [0, 1, 2] (lv' := [(0, .ref (ma 0)), (1, .int (nI r)), (2, .int w9)]) rfl ?_
  refine g_aload_n C dX4_stick_0 0 rfl ?_
  refine g_iload_n C dX4_stick_1 1 rfl ?_
  refine g_callSi C (c_X4_isRod l D cI cO (nI r)) gX4_stick_X4_isRod rfl ⟨rfl, rfl⟩ hd_X4_isRod ⟨Nat.le_of_ble_eq_true rfl, Nat.le_of_ble_eq_true rfl⟩ [0, 1] rfl (fun _ _ => trivial) rfl (rest := [.ref (ma 0)]) rfl (Nat.le_of_ble_eq_true rfl) dX4_stick_2 ⟨Nat.zero_le _, Nat.zero_le _⟩ (pre := []) (post := (wM ma cI th u a9 sv z t n dg)) (ws' := (wM ma cI th u a9 sv z t n dg)) rfl rfl ?_
  refine g_if_ne C (tgt := 12) dX4_stick_5 (by decide) (fun _ => ?_) (fun h5_1 => absurd h5_1 (bt (rodp hr)))
  refine g_iload_n C dX4_stick_12 2 rfl ?_
  refine g_iconst C (v := 0) dX4_stick_13 ci_0 ?_
  refine g_iconst C (v := 3) dX4_stick_14 ci_3 ?_
  refine g_callSi C (c_X4_in l D cI cO w9 0 3) gX4_stick_X4_in rfl ⟨rfl, rfl⟩ hd_X4_in ⟨Nat.le_of_ble_eq_true rfl, Nat.le_of_ble_eq_true rfl⟩ [0, 1] rfl (fun _ _ => trivial) rfl (rest := [.ref (ma 0)]) rfl (Nat.le_of_ble_eq_true rfl) dX4_stick_15 ⟨Nat.zero_le _, Nat.zero_le _⟩ (pre := []) (post := (wM ma cI th u a9 sv z t n dg)) (ws' := (wM ma cI th u a9 sv z t n dg)) rfl rfl ?_
  refine g_if_ne C (tgt := 25) dX4_stick_18 (by decide) (fun _ => ?_) (fun h18_2 => absurd h18_2 (bt (inp h1 h2)))
  refine g_iconst C (v := 0) dX4_stick_25 ci_0 ?_
  refine g_callVi C (c_X4_holds l D cI cO ma th u a9 sv z t n dg hn hz 0) gX4_stick_X4_holds rfl ⟨rfl, rfl⟩ hd_X4_holds ⟨Nat.le_of_ble_eq_true rfl, Nat.le_of_ble_eq_true rfl⟩ [0, 1] rfl (fun _ _ => trivial) rfl (rest := []) rfl (Nat.le_of_ble_eq_true rfl) dX4_stick_26 ⟨Nat.zero_le _, Nat.zero_le _⟩ 0 rfl rfl rfl (pre := []) (post := []) (ws' := (wM ma cI 0 u a9 sv z t n dg)) rfl rfl ?_
  refine g_if_eq C (tgt := 45) dX4_stick_29 (by decide) (fun h29_3 => absurd h29_3 (by decide)) (fun _ => ?_)
  refine g_aload_n C dX4_stick_32 0 rfl ?_
  refine g_iload_n C dX4_stick_33 1 rfl ?_
  refine g_iconst C (v := 3) dX4_stick_34 ci_3 ?_
  refine g_callSi C (c_X4_of l D cI cO r 3 (6 * r + 4) rfl) gX4_stick_X4_of rfl ⟨rfl, rfl⟩ hd_X4_of ⟨Nat.le_of_ble_eq_true rfl, Nat.le_of_ble_eq_true rfl⟩ [0, 1] rfl (fun _ _ => trivial) rfl (rest := [.ref (ma 0)]) rfl (Nat.le_of_ble_eq_true rfl) dX4_stick_35 ⟨Nat.zero_le _, Nat.zero_le _⟩ (pre := []) (post := (wM ma cI 0 u a9 sv z t n dg)) (ws' := (wM ma cI 0 u a9 sv z t n dg)) rfl rfl ?_
  refine g_iload_n C dX4_stick_38 2 rfl ?_
  refine g_callVi C (c_X4_puts l D cI cO ma 0 u a9 sv z t n dg hn hz (6 * r + 4) (by omega) w9) gX4_stick_X4_puts rfl ⟨rfl, rfl⟩ hd_X4_puts ⟨Nat.le_of_ble_eq_true rfl, Nat.le_of_ble_eq_true rfl⟩ [0, 1] rfl (fun _ _ => trivial) rfl (rest := []) rfl (Nat.le_of_ble_eq_true rfl) dX4_stick_39 ⟨Nat.zero_le _, Nat.zero_le _⟩ 0 rfl rfl rfl (pre := []) (post := []) (ws' := (wM ma cI 0 (upd u (6 * r + 4) w9) a9 (ySv u sv z) (kM z + 1) t n dg)) rfl rfl ?_
  refine g_goto C (tgt := 46) dX4_stick_42 (by decide) ?_
  exact g_iret C hret hlk dX4_stick_46 rfl rfl
abbrev rmX4_set_1 : Room := { frames := 1, cells := 0, slots := 0, locals := 22 }
set_option maxHeartbeats 1000000 in
set_option maxRecDepth 100000 in
theorem c_X4_set_1 (l : Launch) (D : va_G) (cI cO : ClassId) (ma : Nat → Nat) (th : Int32) (u a9 sv : Nat → Int32) (z : Nat) (t : Nat → Int32) (n : Nat) (dg : Int64) (hn : n ≤ 60) (hz : z ≤ 6) (v : Int32) (h : v < 0 ∨ ¬ v ≤ 9) : cR (fun _ => True) l yX4_set wsX4_set rmX4_set_1 D vwCl (tyA cI cO) [.ref (ma 0), .int v] (wM ma cI th u a9 sv z t n dg) (some (.int 0)) (wM ma cI 1 u a9 sv z t n dg) := by
  refine cR_of (cc := cX4_set) (maxL := 2) (ret := (some .int)) (by decide) rfl (Nat.le_of_ble_eq_true rfl) ?_
  intro p e s m below meth c A C hret hlk hnm hF
  refine g_lv [0, 1] (lv' := [(0, .ref (ma 0)), (1, .int v)]) rfl ?_
  refine g_aload_n C dX4_set_0 0 rfl ?_
  refine g_iload_n C dX4_set_1 1 rfl ?_
  refine g_iconst C (v := 0) dX4_set_2 ci_0 ?_
  refine g_bipush C (v := 9) dX4_set_3 cb_9 ?_
  refine g_callSi C (c_X4_in l D cI cO v 0 9) gX4_set_X4_in rfl ⟨rfl, rfl⟩ hd_X4_in ⟨Nat.le_of_ble_eq_true rfl, Nat.le_of_ble_eq_true rfl⟩ [0, 1] rfl (fun _ _ => trivial) rfl (rest := [.ref (ma 0)]) rfl (Nat.le_of_ble_eq_true rfl) dX4_set_5 ⟨Nat.zero_le _, Nat.zero_le _⟩ (pre := []) (post := (wM ma cI th u a9 sv z t n dg)) (ws' := (wM ma cI th u a9 sv z t n dg)) rfl rfl ?_
  refine g_if_eq C (tgt := 15) dX4_set_8 (by decide) (fun _ => ?_) (fun h8_1 => absurd (bf (nin h)) h8_1)
  refine g_iconst C (v := 1) dX4_set_15 ci_1 ?_
  refine g_callVi C (c_X4_holds l D cI cO ma th u a9 sv z t n dg hn hz 1) gX4_set_X4_holds rfl ⟨rfl, rfl⟩ hd_X4_holds ⟨Nat.le_of_ble_eq_true rfl, Nat.le_of_ble_eq_true rfl⟩ [0, 1] rfl (fun _ _ => trivial) rfl (rest := []) rfl (Nat.le_of_ble_eq_true rfl) dX4_set_16 ⟨Nat.zero_le _, Nat.zero_le _⟩ 0 rfl rfl rfl (pre := []) (post := []) (ws' := (wM ma cI 1 u a9 sv z t n dg)) rfl rfl ?_
  refine g_if_eq C (tgt := 31) dX4_set_19 (by decide) (fun _ => ?_) (fun h19_2 => absurd (by decide) h19_2)
  refine g_iconst C (v := 0) dX4_set_31 ci_0 ?_
  exact g_iret C hret hlk dX4_set_32 rfl rfl
abbrev rmX4_set : Room := { frames := 2, cells := 0, slots := 0, locals := 44 }
set_option maxHeartbeats 1000000 in
set_option maxRecDepth 100000 in
theorem c_X4_set (l : Launch) (D : va_G) (cI cO : ClassId) (ma : Nat → Nat) (th : Int32) (u a9 sv : Nat → Int32) (z : Nat) (t : Nat → Int32) (n : Nat) (dg : Int64) (hn : n ≤ 60) (hz : z ≤ 6) (v : Int32) (h1 : ¬ v < 0) (h2 : v ≤ 9) : cR (fun _ => True) l yX4_set wsX4_set rmX4_set D vwCl (tyA cI cO) [.ref (ma 0), .int v] (wM ma cI th u a9 sv z t n dg) (some (.int (u 0))) (wM ma cI 0 (upd u 0 v) a9 (ySv u sv z) (kM z + 1) t n dg) := by
  refine cR_of (cc := cX4_set) (maxL := 2) (ret := (some .int)) (by decide) rfl (Nat.le_of_ble_eq_true rfl) ?_
  intro p e s m below meth c A C hret hlk hnm hF
  refine g_lv [0, 1] (lv' := [(0, .ref (ma 0)), (1, .int v)]) rfl ?_
  refine g_aload_n C dX4_set_0 0 rfl ?_
  refine g_iload_n C dX4_set_1 1 rfl ?_
  refine g_iconst C (v := 0) dX4_set_2 ci_0 ?_
  refine g_bipush C (v := 9) dX4_set_3 cb_9 ?_
  refine g_callSi C (c_X4_in l D cI cO v 0 9) gX4_set_X4_in rfl ⟨rfl, rfl⟩ hd_X4_in ⟨Nat.le_of_ble_eq_true rfl, Nat.le_of_ble_eq_true rfl⟩ [0, 1] rfl (fun _ _ => trivial) rfl (rest := [.ref (ma 0)]) rfl (Nat.le_of_ble_eq_true rfl) dX4_set_5 ⟨Nat.zero_le _, Nat.zero_le _⟩ (pre := []) (post := (wM ma cI th u a9 sv z t n dg)) (ws' := (wM ma cI th u a9 sv z t n dg)) rfl rfl ?_
  refine g_if_eq C (tgt := 15) dX4_set_8 (by decide) (fun h8_1 => absurd h8_1 (bt (inp h1 h2))) (fun _ => ?_)
  refine g_iconst C (v := 0) dX4_set_11 ci_0 ?_
  refine g_goto C (tgt := 16) dX4_set_12 (by decide) ?_
  refine g_callVi C (c_X4_holds l D cI cO ma th u a9 sv z t n dg hn hz 0) gX4_set_X4_holds rfl ⟨rfl, rfl⟩ hd_X4_holds ⟨Nat.le_of_ble_eq_true rfl, Nat.le_of_ble_eq_true rfl⟩ [0, 1] rfl (fun _ _ => trivial) rfl (rest := []) rfl (Nat.le_of_ble_eq_true rfl) dX4_set_16 ⟨Nat.zero_le _, Nat.zero_le _⟩ 0 rfl rfl rfl (pre := []) (post := []) (ws' := (wM ma cI 0 u a9 sv z t n dg)) rfl rfl ?_
  refine g_if_eq C (tgt := 31) dX4_set_19 (by decide) (fun h19_2 => absurd h19_2 (by decide)) (fun _ => ?_)
  refine g_aload_n C dX4_set_22 0 rfl ?_
  refine g_iconst C (v := 0) dX4_set_23 ci_0 ?_
  refine g_iload_n C dX4_set_24 1 rfl ?_
  refine g_callVi C (c_X4_puts l D cI cO ma 0 u a9 sv z t n dg hn hz (0) (by omega) v) gX4_set_X4_puts rfl ⟨rfl, rfl⟩ hd_X4_puts ⟨Nat.le_of_ble_eq_true rfl, Nat.le_of_ble_eq_true rfl⟩ [0, 1] rfl (fun _ _ => trivial) rfl (rest := []) rfl (Nat.le_of_ble_eq_true rfl) dX4_set_25 ⟨Nat.zero_le _, Nat.zero_le _⟩ 0 rfl rfl rfl (pre := []) (post := []) (ws' := (wM ma cI 0 (upd u (0) v) a9 (ySv u sv z) (kM z + 1) t n dg)) rfl rfl ?_
  refine g_goto C (tgt := 32) dX4_set_28 (by decide) ?_
  exact g_iret C hret hlk dX4_set_32 rfl rfl
theorem hd_X4_allMoves : yX4_allMoves.cls = RX4 ∧ yX4_allMoves.cls ≠ "java/lang/invoke/MethodHandle" ∧ yX4_allMoves.cls ≠ "java/lang/invoke/VarHandle" ∧ (parseMethodDescriptor yX4_allMoves.desc).map (fun d => d.parameters.length) = some 0 := by decide +kernel
theorem hd_X4_tries : yX4_tries.cls = RX4 ∧ yX4_tries.cls ≠ "java/lang/invoke/MethodHandle" ∧ yX4_tries.cls ≠ "java/lang/invoke/VarHandle" ∧ (parseMethodDescriptor yX4_tries.desc).map (fun d => d.parameters.length) = some 3 := by decide +kernel
abbrev rmX4_takes_0 : Room := { frames := 8, cells := 0, slots := 0, locals := 187 }
set_option maxHeartbeats 1000000 in
set_option maxRecDepth 100000 in
theorem c_X4_takes_0 (l : Launch) (D : va_G) (cI cO : ClassId) (ma : Nat → Nat) (th : Int32) (u a9 sv : Nat → Int32) (z : Nat) (t : Nat → Int32) (n : Nat) (dg : Int64) (hn : n ≤ 60) (hz : z ≤ 6) (r : Nat) (hr : r < 9) (v : Int32) : cR (fun _ => True) l yX4_takes wsX4_takes rmX4_takes_0 D vwCl (tyA cI cO) [.ref (ma 0), .int 0, .int (nI r), .int v] (wM ma cI th u a9 sv z t n dg) (some (.int (yK0 u r v))) (wM ma cI th u u sv z t n dg) := by
  refine cR_of (cc := cX4_takes) (maxL := 7) (ret := (some .int)) (by decide) rfl (Nat.le_of_ble_eq_true rfl) ?_
  intro p e s m below meth c A C hret hlk hnm hF
  refine g_lv [0, 1, 2, 3] (lv' := [(0, .ref (ma 0)), (1, .int 0), (2, .int (nI r)), (3, .int v)]) rfl ?_
  refine g_aload_n C dX4_takes_0 0 rfl ?_
  refine g_callVi C (c_X4_allMoves l D cI cO ma th u a9 sv z t n dg hn hz) gX4_takes_X4_allMoves rfl ⟨rfl, rfl⟩ hd_X4_allMoves ⟨Nat.le_of_ble_eq_true rfl, Nat.le_of_ble_eq_true rfl⟩ [0, 1] rfl (fun _ _ => trivial) rfl (rest := []) rfl (Nat.le_of_ble_eq_true rfl) dX4_takes_1 ⟨Nat.zero_le _, Nat.zero_le _⟩ 0 rfl rfl rfl (pre := []) (post := []) (ws' := (wM ma cI th u a9 sv z t n dg)) rfl rfl ?_
  refine g_istore C (lv' := [(4, .int (yAm u)), (0, .ref (ma 0)), (1, .int 0), (2, .int (nI r)), (3, .int v)]) dX4_takes_4 (by decide) rfl ?_
  refine g_aload_n C dX4_takes_6 1 rfl ?_
  refine g_iload_n C dX4_takes_7 2 rfl ?_
  refine g_iload_n C dX4_takes_8 3 rfl ?_
  refine g_iload_n C dX4_takes_9 4 rfl ?_
  refine g_callVi C (c_X4_tries_0 l D cI cO ma th u a9 sv z t n dg hn hz r ((by omega)) v) gX4_takes_X4_tries rfl ⟨rfl, rfl⟩ hd_X4_tries ⟨Nat.le_of_ble_eq_true rfl, Nat.le_of_ble_eq_true rfl⟩ [0, 1] rfl (fun _ _ => trivial) rfl (rest := []) rfl (Nat.le_of_ble_eq_true rfl) dX4_takes_10 ⟨Nat.zero_le _, Nat.zero_le _⟩ 0 rfl rfl rfl (pre := []) (post := []) (ws' := (wM ma cI th ((yT0 u r v).2) u sv z t n dg)) rfl rfl ?_
  refine g_istore C (lv' := [(5, .int ((if (yT0 u r v).1 = true then 1 else 0))), (4, .int (yAm u)), (0, .ref (ma 0)), (1, .int 0), (2, .int (nI r)), (3, .int v)]) dX4_takes_13 (by decide) rfl ?_
  refine g_aload_n C dX4_takes_15 2 rfl ?_
  refine g_callVi C (c_X4_allMoves l D cI cO ma th ((yT0 u r v).2) u sv z t n dg hn hz) gX4_takes_X4_allMoves rfl ⟨rfl, rfl⟩ hd_X4_allMoves ⟨Nat.le_of_ble_eq_true rfl, Nat.le_of_ble_eq_true rfl⟩ [0, 1] rfl (fun _ _ => trivial) rfl (rest := []) rfl (Nat.le_of_ble_eq_true rfl) dX4_takes_16 ⟨Nat.zero_le _, Nat.zero_le _⟩ 0 rfl rfl rfl (pre := []) (post := []) (ws' := (wM ma cI th ((yT0 u r v).2) u sv z t n dg)) rfl rfl ?_
  refine g_iload C dX4_takes_19 1 rfl ?_
  refine g_isub C (v := (yAm ((yT0 u r v).2)) - (yAm u)) dX4_takes_21 rfl ?_
  refine g_istore C (lv' := [(6, .int ((yAm ((yT0 u r v).2)) - (yAm u))), (5, .int ((if (yT0 u r v).1 = true then 1 else 0))), (4, .int (yAm u)), (0, .ref (ma 0)), (1, .int 0), (2, .int (nI r)), (3, .int v)]) dX4_takes_22 (by decide) rfl ?_
  refine g_aload_n C dX4_takes_24 3 rfl ?_
  refine g_callVv C (c_X4_putBack l D cI cO ma th ((yT0 u r v).2) u sv z t n dg hn hz) gX4_takes_X4_putBack rfl ⟨rfl, rfl⟩ hd_X4_putBack ⟨Nat.le_of_ble_eq_true rfl, Nat.le_of_ble_eq_true rfl⟩ [0, 1] rfl (fun _ _ => trivial) rfl (rest := []) rfl (Nat.le_of_ble_eq_true rfl) dX4_takes_25 ⟨Nat.zero_le _, Nat.zero_le _⟩ 0 rfl rfl rfl (pre := []) (post := []) (ws' := (wM ma cI th u u sv z t n dg)) rfl rfl ?_
  refine g_iload C dX4_takes_28 1 rfl ?_
  refine g_if_eq C (tgt := 38) dX4_takes_30 (by decide) (fun h30_1 => ?_) (fun h30_1 => ?_)
  · have h30_1 := bz h30_1
    refine g_iconst C (v := -1) dX4_takes_38 ci_m1 ?_
    exact g_iret C hret hlk dX4_takes_39 (by simp only [yK0, h30_1, Bool.false_eq_true, not_false_eq_true, not_true_eq_false, and_self, and_true, true_and, and_false, false_and, or_true, true_or, or_false, false_or, or_self, if_true, if_false, eq_self, ite_true, ite_false, reduceIte]) rfl
  · have h30_1 := bnz h30_1
    refine g_iload C dX4_takes_33 0 rfl ?_
    refine g_goto C (tgt := 39) dX4_takes_35 (by decide) ?_
    exact g_iret C hret hlk dX4_takes_39 (by simp only [yK0, eq_true h30_1, Bool.false_eq_true, not_false_eq_true, not_true_eq_false, and_self, and_true, true_and, and_false, false_and, or_true, true_or, or_false, false_or, or_self, if_true, if_false, eq_self, ite_true, ite_false, reduceIte]) rfl
abbrev rmX4_does_0 : Room := { frames := 8, cells := 0, slots := 0, locals := 187 }
set_option maxHeartbeats 1000000 in
set_option maxRecDepth 100000 in
theorem c_X4_does_0 (l : Launch) (D : va_G) (cI cO : ClassId) (ma : Nat → Nat) (th : Int32) (u a9 sv : Nat → Int32) (z : Nat) (t : Nat → Int32) (n : Nat) (dg : Int64) (hn : n ≤ 60) (hz : z ≤ 6) (r : Nat) (hr : r < 9) (v : Int32) : cR (fun _ => True) l yX4_does wsX4_does rmX4_does_0 D vwCl (tyA cI cO) [.ref (ma 0), .int 0, .int (nI r), .int v] (wM ma cI th u a9 sv z t n dg) (some (.int (yAm (yT0 u r v).2 - yAm u))) (wM ma cI th ((yT0 u r v).2) u (ySv u sv z) (kM z + 1) t n dg) := by
  refine cR_of (cc := cX4_does) (maxL := 6) (ret := (some .int)) (by decide) rfl (Nat.le_of_ble_eq_true rfl) ?_
  intro p e s m below meth c A C hret hlk hnm hF
  refine g_lv [0, 1, 2, 3] (lv' := [(0, .ref (ma 0)), (1, .int 0), (2, .int (nI r)), (3, .int v)]) rfl ?_
  refine g_aload_n C dX4_does_0 0 rfl ?_
  refine g_callVv C (c_X4_save l D cI cO ma th u a9 sv z t n dg hn hz) gX4_does_X4_save rfl ⟨rfl, rfl⟩ hd_X4_save ⟨Nat.le_of_ble_eq_true rfl, Nat.le_of_ble_eq_true rfl⟩ [0, 1] rfl (fun _ _ => trivial) rfl (rest := []) rfl (Nat.le_of_ble_eq_true rfl) dX4_does_1 ⟨Nat.zero_le _, Nat.zero_le _⟩ 0 rfl rfl rfl (pre := []) (post := []) (ws' := (wM ma cI th u a9 (ySv u sv z) (kM z + 1) t n dg)) rfl rfl ?_
  refine g_aload_n C dX4_does_4 0 rfl ?_
  refine g_callVi C (c_X4_allMoves l D cI cO ma th u a9 (ySv u sv z) (kM z + 1) t n dg hn (by have := kM_lt hz; omega)) gX4_does_X4_allMoves rfl ⟨rfl, rfl⟩ hd_X4_allMoves ⟨Nat.le_of_ble_eq_true rfl, Nat.le_of_ble_eq_true rfl⟩ [0, 1] rfl (fun _ _ => trivial) rfl (rest := []) rfl (Nat.le_of_ble_eq_true rfl) dX4_does_5 ⟨Nat.zero_le _, Nat.zero_le _⟩ 0 rfl rfl rfl (pre := []) (post := []) (ws' := (wM ma cI th u a9 (ySv u sv z) (kM z + 1) t n dg)) rfl rfl ?_
  refine g_istore C (lv' := [(4, .int (yAm u)), (0, .ref (ma 0)), (1, .int 0), (2, .int (nI r)), (3, .int v)]) dX4_does_8 (by decide) rfl ?_
  refine g_aload_n C dX4_does_10 1 rfl ?_
  refine g_iload_n C dX4_does_11 2 rfl ?_
  refine g_iload_n C dX4_does_12 3 rfl ?_
  refine g_iload_n C dX4_does_13 4 rfl ?_
  refine g_callVi C (c_X4_tries_0 l D cI cO ma th u a9 (ySv u sv z) (kM z + 1) t n dg hn (by have := kM_lt hz; omega) r ((by omega)) v) gX4_does_X4_tries rfl ⟨rfl, rfl⟩ hd_X4_tries ⟨Nat.le_of_ble_eq_true rfl, Nat.le_of_ble_eq_true rfl⟩ [0, 1] rfl (fun _ _ => trivial) rfl (rest := []) rfl (Nat.le_of_ble_eq_true rfl) dX4_does_14 ⟨Nat.zero_le _, Nat.zero_le _⟩ 0 rfl rfl rfl (pre := []) (post := []) (ws' := (wM ma cI th ((yT0 u r v).2) u (ySv u sv z) (kM z + 1) t n dg)) rfl rfl ?_
  refine g_istore C (lv' := [(5, .int ((if (yT0 u r v).1 = true then 1 else 0))), (4, .int (yAm u)), (0, .ref (ma 0)), (1, .int 0), (2, .int (nI r)), (3, .int v)]) dX4_does_17 (by decide) rfl ?_
  refine g_aload_n C dX4_does_19 2 rfl ?_
  refine g_callVi C (c_X4_allMoves l D cI cO ma th ((yT0 u r v).2) u (ySv u sv z) (kM z + 1) t n dg hn (by have := kM_lt hz; omega)) gX4_does_X4_allMoves rfl ⟨rfl, rfl⟩ hd_X4_allMoves ⟨Nat.le_of_ble_eq_true rfl, Nat.le_of_ble_eq_true rfl⟩ [0, 1] rfl (fun _ _ => trivial) rfl (rest := []) rfl (Nat.le_of_ble_eq_true rfl) dX4_does_20 ⟨Nat.zero_le _, Nat.zero_le _⟩ 0 rfl rfl rfl (pre := []) (post := []) (ws' := (wM ma cI th ((yT0 u r v).2) u (ySv u sv z) (kM z + 1) t n dg)) rfl rfl ?_
  refine g_iload C dX4_does_23 1 rfl ?_
  refine g_isub C (v := (yAm ((yT0 u r v).2)) - (yAm u)) dX4_does_25 rfl ?_
  exact g_iret C hret hlk dX4_does_26 rfl rfl
abbrev rmX4_takes_1 : Room := { frames := 8, cells := 0, slots := 0, locals := 187 }
set_option maxHeartbeats 1000000 in
set_option maxRecDepth 100000 in
theorem c_X4_takes_1 (l : Launch) (D : va_G) (cI cO : ClassId) (ma : Nat → Nat) (th : Int32) (u a9 sv : Nat → Int32) (z : Nat) (t : Nat → Int32) (n : Nat) (dg : Int64) (hn : n ≤ 60) (hz : z ≤ 6) (r : Nat) (hr : r < 9) (v : Int32) : cR (fun _ => True) l yX4_takes wsX4_takes rmX4_takes_1 D vwCl (tyA cI cO) [.ref (ma 0), .int 1, .int (nI r), .int v] (wM ma cI th u a9 sv z t n dg) (some (.int (yK1 u r))) (wM ma cI th u u sv z t n dg) := by
  refine cR_of (cc := cX4_takes) (maxL := 7) (ret := (some .int)) (by decide) rfl (Nat.le_of_ble_eq_true rfl) ?_
  intro p e s m below meth c A C hret hlk hnm hF
  refine g_lv [0, 1, 2, 3] (lv' := [(0, .ref (ma 0)), (1, .int 1), (2, .int (nI r)), (3, .int v)]) rfl ?_
  refine g_aload_n C dX4_takes_0 0 rfl ?_
  refine g_callVi C (c_X4_allMoves l D cI cO ma th u a9 sv z t n dg hn hz) gX4_takes_X4_allMoves rfl ⟨rfl, rfl⟩ hd_X4_allMoves ⟨Nat.le_of_ble_eq_true rfl, Nat.le_of_ble_eq_true rfl⟩ [0, 1] rfl (fun _ _ => trivial) rfl (rest := []) rfl (Nat.le_of_ble_eq_true rfl) dX4_takes_1 ⟨Nat.zero_le _, Nat.zero_le _⟩ 0 rfl rfl rfl (pre := []) (post := []) (ws' := (wM ma cI th u a9 sv z t n dg)) rfl rfl ?_
  refine g_istore C (lv' := [(4, .int (yAm u)), (0, .ref (ma 0)), (1, .int 1), (2, .int (nI r)), (3, .int v)]) dX4_takes_4 (by decide) rfl ?_
  refine g_aload_n C dX4_takes_6 1 rfl ?_
  refine g_iload_n C dX4_takes_7 2 rfl ?_
  refine g_iload_n C dX4_takes_8 3 rfl ?_
  refine g_iload_n C dX4_takes_9 4 rfl ?_
  refine g_callVi C (c_X4_tries_1 l D cI cO ma th u a9 sv z t n dg hn hz r ((by omega)) v) gX4_takes_X4_tries rfl ⟨rfl, rfl⟩ hd_X4_tries ⟨Nat.le_of_ble_eq_true rfl, Nat.le_of_ble_eq_true rfl⟩ [0, 1] rfl (fun _ _ => trivial) rfl (rest := []) rfl (Nat.le_of_ble_eq_true rfl) dX4_takes_10 ⟨Nat.zero_le _, Nat.zero_le _⟩ 0 rfl rfl rfl (pre := []) (post := []) (ws' := (wM ma cI th ((yT1 u r).2) u sv z t n dg)) rfl rfl ?_
  refine g_istore C (lv' := [(5, .int ((if (yT1 u r).1 = true then 1 else 0))), (4, .int (yAm u)), (0, .ref (ma 0)), (1, .int 1), (2, .int (nI r)), (3, .int v)]) dX4_takes_13 (by decide) rfl ?_
  refine g_aload_n C dX4_takes_15 2 rfl ?_
  refine g_callVi C (c_X4_allMoves l D cI cO ma th ((yT1 u r).2) u sv z t n dg hn hz) gX4_takes_X4_allMoves rfl ⟨rfl, rfl⟩ hd_X4_allMoves ⟨Nat.le_of_ble_eq_true rfl, Nat.le_of_ble_eq_true rfl⟩ [0, 1] rfl (fun _ _ => trivial) rfl (rest := []) rfl (Nat.le_of_ble_eq_true rfl) dX4_takes_16 ⟨Nat.zero_le _, Nat.zero_le _⟩ 0 rfl rfl rfl (pre := []) (post := []) (ws' := (wM ma cI th ((yT1 u r).2) u sv z t n dg)) rfl rfl ?_
  refine g_iload C dX4_takes_19 1 rfl ?_
  refine g_isub C (v := (yAm ((yT1 u r).2)) - (yAm u)) dX4_takes_21 rfl ?_
  refine g_istore C (lv' := [(6, .int ((yAm ((yT1 u r).2)) - (yAm u))), (5, .int ((if (yT1 u r).1 = true then 1 else 0))), (4, .int (yAm u)), (0, .ref (ma 0)), (1, .int 1), (2, .int (nI r)), (3, .int v)]) dX4_takes_22 (by decide) rfl ?_
  refine g_aload_n C dX4_takes_24 3 rfl ?_
  refine g_callVv C (c_X4_putBack l D cI cO ma th ((yT1 u r).2) u sv z t n dg hn hz) gX4_takes_X4_putBack rfl ⟨rfl, rfl⟩ hd_X4_putBack ⟨Nat.le_of_ble_eq_true rfl, Nat.le_of_ble_eq_true rfl⟩ [0, 1] rfl (fun _ _ => trivial) rfl (rest := []) rfl (Nat.le_of_ble_eq_true rfl) dX4_takes_25 ⟨Nat.zero_le _, Nat.zero_le _⟩ 0 rfl rfl rfl (pre := []) (post := []) (ws' := (wM ma cI th u u sv z t n dg)) rfl rfl ?_
  refine g_iload C dX4_takes_28 1 rfl ?_
  refine g_if_eq C (tgt := 38) dX4_takes_30 (by decide) (fun h30_1 => ?_) (fun h30_1 => ?_)
  · have h30_1 := bz h30_1
    refine g_iconst C (v := -1) dX4_takes_38 ci_m1 ?_
    exact g_iret C hret hlk dX4_takes_39 (by simp only [yK1, h30_1, Bool.false_eq_true, not_false_eq_true, not_true_eq_false, and_self, and_true, true_and, and_false, false_and, or_true, true_or, or_false, false_or, or_self, if_true, if_false, eq_self, ite_true, ite_false, reduceIte]) rfl
  · have h30_1 := bnz h30_1
    refine g_iload C dX4_takes_33 0 rfl ?_
    refine g_goto C (tgt := 39) dX4_takes_35 (by decide) ?_
    exact g_iret C hret hlk dX4_takes_39 (by simp only [yK1, eq_true h30_1, Bool.false_eq_true, not_false_eq_true, not_true_eq_false, and_self, and_true, true_and, and_false, false_and, or_true, true_or, or_false, false_or, or_self, if_true, if_false, eq_self, ite_true, ite_false, reduceIte]) rfl
abbrev rmX4_does_1 : Room := { frames := 8, cells := 0, slots := 0, locals := 187 }
set_option maxHeartbeats 1000000 in
set_option maxRecDepth 100000 in
theorem c_X4_does_1 (l : Launch) (D : va_G) (cI cO : ClassId) (ma : Nat → Nat) (th : Int32) (u a9 sv : Nat → Int32) (z : Nat) (t : Nat → Int32) (n : Nat) (dg : Int64) (hn : n ≤ 60) (hz : z ≤ 6) (r : Nat) (hr : r < 9) (v : Int32) : cR (fun _ => True) l yX4_does wsX4_does rmX4_does_1 D vwCl (tyA cI cO) [.ref (ma 0), .int 1, .int (nI r), .int v] (wM ma cI th u a9 sv z t n dg) (some (.int (yAm (yT1 u r).2 - yAm u))) (wM ma cI th ((yT1 u r).2) u (ySv u sv z) (kM z + 1) t n dg) := by
  refine cR_of (cc := cX4_does) (maxL := 6) (ret := (some .int)) (by decide) rfl (Nat.le_of_ble_eq_true rfl) ?_
  intro p e s m below meth c A C hret hlk hnm hF
  refine g_lv [0, 1, 2, 3] (lv' := [(0, .ref (ma 0)), (1, .int 1), (2, .int (nI r)), (3, .int v)]) rfl ?_
  refine g_aload_n C dX4_does_0 0 rfl ?_
  refine g_callVv C (c_X4_save l D cI cO ma th u a9 sv z t n dg hn hz) gX4_does_X4_save rfl ⟨rfl, rfl⟩ hd_X4_save ⟨Nat.le_of_ble_eq_true rfl, Nat.le_of_ble_eq_true rfl⟩ [0, 1] rfl (fun _ _ => trivial) rfl (rest := []) rfl (Nat.le_of_ble_eq_true rfl) dX4_does_1 ⟨Nat.zero_le _, Nat.zero_le _⟩ 0 rfl rfl rfl (pre := []) (post := []) (ws' := (wM ma cI th u a9 (ySv u sv z) (kM z + 1) t n dg)) rfl rfl ?_
  refine g_aload_n C dX4_does_4 0 rfl ?_
  refine g_callVi C (c_X4_allMoves l D cI cO ma th u a9 (ySv u sv z) (kM z + 1) t n dg hn (by have := kM_lt hz; omega)) gX4_does_X4_allMoves rfl ⟨rfl, rfl⟩ hd_X4_allMoves ⟨Nat.le_of_ble_eq_true rfl, Nat.le_of_ble_eq_true rfl⟩ [0, 1] rfl (fun _ _ => trivial) rfl (rest := []) rfl (Nat.le_of_ble_eq_true rfl) dX4_does_5 ⟨Nat.zero_le _, Nat.zero_le _⟩ 0 rfl rfl rfl (pre := []) (post := []) (ws' := (wM ma cI th u a9 (ySv u sv z) (kM z + 1) t n dg)) rfl rfl ?_
  refine g_istore C (lv' := [(4, .int (yAm u)), (0, .ref (ma 0)), (1, .int 1), (2, .int (nI r)), (3, .int v)]) dX4_does_8 (by decide) rfl ?_
  refine g_aload_n C dX4_does_10 1 rfl ?_
  refine g_iload_n C dX4_does_11 2 rfl ?_
  refine g_iload_n C dX4_does_12 3 rfl ?_
  refine g_iload_n C dX4_does_13 4 rfl ?_
  refine g_callVi C (c_X4_tries_1 l D cI cO ma th u a9 (ySv u sv z) (kM z + 1) t n dg hn (by have := kM_lt hz; omega) r ((by omega)) v) gX4_does_X4_tries rfl ⟨rfl, rfl⟩ hd_X4_tries ⟨Nat.le_of_ble_eq_true rfl, Nat.le_of_ble_eq_true rfl⟩ [0, 1] rfl (fun _ _ => trivial) rfl (rest := []) rfl (Nat.le_of_ble_eq_true rfl) dX4_does_14 ⟨Nat.zero_le _, Nat.zero_le _⟩ 0 rfl rfl rfl (pre := []) (post := []) (ws' := (wM ma cI th ((yT1 u r).2) u (ySv u sv z) (kM z + 1) t n dg)) rfl rfl ?_
  refine g_istore C (lv' := [(5, .int ((if (yT1 u r).1 = true then 1 else 0))), (4, .int (yAm u)), (0, .ref (ma 0)), (1, .int 1), (2, .int (nI r)), (3, .int v)]) dX4_does_17 (by decide) rfl ?_
  refine g_aload_n C dX4_does_19 2 rfl ?_
  refine g_callVi C (c_X4_allMoves l D cI cO ma th ((yT1 u r).2) u (ySv u sv z) (kM z + 1) t n dg hn (by have := kM_lt hz; omega)) gX4_does_X4_allMoves rfl ⟨rfl, rfl⟩ hd_X4_allMoves ⟨Nat.le_of_ble_eq_true rfl, Nat.le_of_ble_eq_true rfl⟩ [0, 1] rfl (fun _ _ => trivial) rfl (rest := []) rfl (Nat.le_of_ble_eq_true rfl) dX4_does_20 ⟨Nat.zero_le _, Nat.zero_le _⟩ 0 rfl rfl rfl (pre := []) (post := []) (ws' := (wM ma cI th ((yT1 u r).2) u (ySv u sv z) (kM z + 1) t n dg)) rfl rfl ?_
  refine g_iload C dX4_does_23 1 rfl ?_
  refine g_isub C (v := (yAm ((yT1 u r).2)) - (yAm u)) dX4_does_25 rfl ?_
  exact g_iret C hret hlk dX4_does_26 rfl rfl
abbrev rmX4_add_1 : Room := { frames := 2, cells := 0, slots := 0, locals := 42 }
set_option maxHeartbeats 1000000 in
set_option maxRecDepth 100000 in
theorem c_X4_add_1 (l : Launch) (D : va_G) (cI cO : ClassId) (ma : Nat → Nat) (th : Int32) (u a9 sv : Nat → Int32) (z : Nat) (t : Nat → Int32) (n : Nat) (dg : Int64) (hn : n ≤ 60) (hz : z ≤ 6) (v9 : Int32) (h : v9 < 0 ∨ ¬ v9 < 9) (n9 : Int32) : cR (fun _ => True) l yX4_add wsX4_add rmX4_add_1 D vwCl (tyA cI cO) [.ref (ma 0), .int v9, .int n9] (wM ma cI th u a9 sv z t n dg) (some (.int 0)) (wM ma cI 1 u a9 sv z t n dg) := by
  refine cR_of (cc := cX4_add) (maxL := 3) (ret := (some .int)) (by decide) rfl (Nat.le_of_ble_eq_true rfl) ?_
  intro p e s m below meth c A C hret hlk hnm hF
  refine g_lv [0, 1, 2] (lv' := [(0, .ref (ma 0)), (1, .int v9), (2, .int n9)]) rfl ?_
  refine g_aload_n C dX4_add_0 0 rfl ?_
  refine g_iload_n C dX4_add_1 1 rfl ?_
  refine g_callSi C (c_X4_isRod l D cI cO v9) gX4_add_X4_isRod rfl ⟨rfl, rfl⟩ hd_X4_isRod ⟨Nat.le_of_ble_eq_true rfl, Nat.le_of_ble_eq_true rfl⟩ [0, 1] rfl (fun _ _ => trivial) rfl (rest := [.ref (ma 0)]) rfl (Nat.le_of_ble_eq_true rfl) dX4_add_2 ⟨Nat.zero_le _, Nat.zero_le _⟩ (pre := []) (post := (wM ma cI th u a9 sv z t n dg)) (ws' := (wM ma cI th u a9 sv z t n dg)) rfl rfl ?_
  refine g_if_ne C (tgt := 12) dX4_add_5 (by decide) (fun h5_1 => absurd (bf (nrod h)) h5_1) (fun _ => ?_)
  refine g_iconst C (v := 1) dX4_add_8 ci_1 ?_
  refine g_goto C (tgt := 42) dX4_add_9 (by decide) ?_
  refine g_callVi C (c_X4_holds l D cI cO ma th u a9 sv z t n dg hn hz 1) gX4_add_X4_holds rfl ⟨rfl, rfl⟩ hd_X4_holds ⟨Nat.le_of_ble_eq_true rfl, Nat.le_of_ble_eq_true rfl⟩ [0, 1] rfl (fun _ _ => trivial) rfl (rest := []) rfl (Nat.le_of_ble_eq_true rfl) dX4_add_42 ⟨Nat.zero_le _, Nat.zero_le _⟩ 0 rfl rfl rfl (pre := []) (post := []) (ws' := (wM ma cI 1 u a9 sv z t n dg)) rfl rfl ?_
  refine g_if_eq C (tgt := 58) dX4_add_45 (by decide) (fun _ => ?_) (fun h45_2 => absurd (by decide) h45_2)
  refine g_iconst C (v := 0) dX4_add_58 ci_0 ?_
  exact g_iret C hret hlk dX4_add_59 rfl rfl
abbrev rmX4_add_2 : Room := { frames := 2, cells := 0, slots := 0, locals := 42 }
set_option maxHeartbeats 1000000 in
set_option maxRecDepth 100000 in
theorem c_X4_add_2 (l : Launch) (D : va_G) (cI cO : ClassId) (ma : Nat → Nat) (th : Int32) (u a9 sv : Nat → Int32) (z : Nat) (t : Nat → Int32) (n : Nat) (dg : Int64) (hn : n ≤ 60) (hz : z ≤ 6) (r : Nat) (hr : r < 9) (n9 : Int32) (h : n9 < 1 ∨ ¬ n9 ≤ 9) : cR (fun _ => True) l yX4_add wsX4_add rmX4_add_2 D vwCl (tyA cI cO) [.ref (ma 0), .int (nI r), .int n9] (wM ma cI th u a9 sv z t n dg) (some (.int 0)) (wM ma cI 2 u a9 sv z t n dg) := by
  refine cR_of (cc := cX4_add) (maxL := 3) (ret := (some .int)) (by decide) rfl (Nat.le_of_ble_eq_true rfl) ?_
  intro p e s m below meth c A C hret hlk hnm hF
  refine g_lv [0, 1, 2] (lv' := [(0, .ref (ma 0)), (1, .int (nI r)), (2, .int n9)]) rfl ?_
  refine g_aload_n C dX4_add_0 0 rfl ?_
  refine g_iload_n C dX4_add_1 1 rfl ?_
  refine g_callSi C (c_X4_isRod l D cI cO (nI r)) gX4_add_X4_isRod rfl ⟨rfl, rfl⟩ hd_X4_isRod ⟨Nat.le_of_ble_eq_true rfl, Nat.le_of_ble_eq_true rfl⟩ [0, 1] rfl (fun _ _ => trivial) rfl (rest := [.ref (ma 0)]) rfl (Nat.le_of_ble_eq_true rfl) dX4_add_2 ⟨Nat.zero_le _, Nat.zero_le _⟩ (pre := []) (post := (wM ma cI th u a9 sv z t n dg)) (ws' := (wM ma cI th u a9 sv z t n dg)) rfl rfl ?_
  refine g_if_ne C (tgt := 12) dX4_add_5 (by decide) (fun _ => ?_) (fun h5_1 => absurd h5_1 (bt (rodp hr)))
  refine g_iload_n C dX4_add_12 2 rfl ?_
  refine g_iconst C (v := 1) dX4_add_13 ci_1 ?_
  refine g_bipush C (v := 9) dX4_add_14 cb_9 ?_
  refine g_callSi C (c_X4_in l D cI cO n9 1 9) gX4_add_X4_in rfl ⟨rfl, rfl⟩ hd_X4_in ⟨Nat.le_of_ble_eq_true rfl, Nat.le_of_ble_eq_true rfl⟩ [0, 1] rfl (fun _ _ => trivial) rfl (rest := [.ref (ma 0)]) rfl (Nat.le_of_ble_eq_true rfl) dX4_add_16 ⟨Nat.zero_le _, Nat.zero_le _⟩ (pre := []) (post := (wM ma cI th u a9 sv z t n dg)) (ws' := (wM ma cI th u a9 sv z t n dg)) rfl rfl ?_
  refine g_if_ne C (tgt := 26) dX4_add_19 (by decide) (fun h19_2 => absurd (bf (nin h)) h19_2) (fun _ => ?_)
  refine g_iconst C (v := 2) dX4_add_22 ci_2 ?_
  refine g_goto C (tgt := 42) dX4_add_23 (by decide) ?_
  refine g_callVi C (c_X4_holds l D cI cO ma th u a9 sv z t n dg hn hz 2) gX4_add_X4_holds rfl ⟨rfl, rfl⟩ hd_X4_holds ⟨Nat.le_of_ble_eq_true rfl, Nat.le_of_ble_eq_true rfl⟩ [0, 1] rfl (fun _ _ => trivial) rfl (rest := []) rfl (Nat.le_of_ble_eq_true rfl) dX4_add_42 ⟨Nat.zero_le _, Nat.zero_le _⟩ 0 rfl rfl rfl (pre := []) (post := []) (ws' := (wM ma cI 2 u a9 sv z t n dg)) rfl rfl ?_
  refine g_if_eq C (tgt := 58) dX4_add_45 (by decide) (fun _ => ?_) (fun h45_3 => absurd (by decide) h45_3)
  refine g_iconst C (v := 0) dX4_add_58 ci_0 ?_
  exact g_iret C hret hlk dX4_add_59 rfl rfl
theorem hd_X4_takes : yX4_takes.cls = RX4 ∧ yX4_takes.cls ≠ "java/lang/invoke/MethodHandle" ∧ yX4_takes.cls ≠ "java/lang/invoke/VarHandle" ∧ (parseMethodDescriptor yX4_takes.desc).map (fun d => d.parameters.length) = some 3 := by decide +kernel
abbrev rmX4_add_3 : Room := { frames := 9, cells := 0, slots := 0, locals := 213 }
set_option maxHeartbeats 1000000 in
set_option maxRecDepth 100000 in
theorem c_X4_add_3 (l : Launch) (D : va_G) (cI cO : ClassId) (ma : Nat → Nat) (th : Int32) (u a9 sv : Nat → Int32) (z : Nat) (t : Nat → Int32) (n : Nat) (dg : Int64) (hn : n ≤ 60) (hz : z ≤ 6) (r : Nat) (hr : r < 9) (n9 : Int32) (h1 : ¬ n9 < 1) (h2 : n9 ≤ 9) (h : yK0 u r (n9) = -1) : cR (fun _ => True) l yX4_add wsX4_add rmX4_add_3 D vwCl (tyA cI cO) [.ref (ma 0), .int (nI r), .int n9] (wM ma cI th u a9 sv z t n dg) (some (.int 0)) (wM ma cI 3 u u sv z t n dg) := by
  refine cR_of (cc := cX4_add) (maxL := 3) (ret := (some .int)) (by decide) rfl (Nat.le_of_ble_eq_true rfl) ?_
  intro p e s m below meth c A C hret hlk hnm hF
  refine g_lv [0, 1, 2] (lv' := [(0, .ref (ma 0)), (1, .int (nI r)), (2, .int n9)]) rfl ?_
  refine g_aload_n C dX4_add_0 0 rfl ?_
  refine g_iload_n C dX4_add_1 1 rfl ?_
  refine g_callSi C (c_X4_isRod l D cI cO (nI r)) gX4_add_X4_isRod rfl ⟨rfl, rfl⟩ hd_X4_isRod ⟨Nat.le_of_ble_eq_true rfl, Nat.le_of_ble_eq_true rfl⟩ [0, 1] rfl (fun _ _ => trivial) rfl (rest := [.ref (ma 0)]) rfl (Nat.le_of_ble_eq_true rfl) dX4_add_2 ⟨Nat.zero_le _, Nat.zero_le _⟩ (pre := []) (post := (wM ma cI th u a9 sv z t n dg)) (ws' := (wM ma cI th u a9 sv z t n dg)) rfl rfl ?_
  refine g_if_ne C (tgt := 12) dX4_add_5 (by decide) (fun _ => ?_) (fun h5_1 => absurd h5_1 (bt (rodp hr)))
  refine g_iload_n C dX4_add_12 2 rfl ?_
  refine g_iconst C (v := 1) dX4_add_13 ci_1 ?_
  refine g_bipush C (v := 9) dX4_add_14 cb_9 ?_
  refine g_callSi C (c_X4_in l D cI cO n9 1 9) gX4_add_X4_in rfl ⟨rfl, rfl⟩ hd_X4_in ⟨Nat.le_of_ble_eq_true rfl, Nat.le_of_ble_eq_true rfl⟩ [0, 1] rfl (fun _ _ => trivial) rfl (rest := [.ref (ma 0)]) rfl (Nat.le_of_ble_eq_true rfl) dX4_add_16 ⟨Nat.zero_le _, Nat.zero_le _⟩ (pre := []) (post := (wM ma cI th u a9 sv z t n dg)) (ws' := (wM ma cI th u a9 sv z t n dg)) rfl rfl ?_
  refine g_if_ne C (tgt := 26) dX4_add_19 (by decide) (fun _ => ?_) (fun h19_2 => absurd h19_2 (bt (inp h1 h2)))
  refine g_aload_n C dX4_add_26 0 rfl ?_
  refine g_iconst C (v := 0) dX4_add_27 ci_0 ?_
  refine g_iload_n C dX4_add_28 1 rfl ?_
  refine g_iload_n C dX4_add_29 2 rfl ?_
  refine g_callVi C (c_X4_takes_0 l D cI cO ma th u a9 sv z t n dg hn hz r ((by omega)) n9) gX4_add_X4_takes rfl ⟨rfl, rfl⟩ hd_X4_takes ⟨Nat.le_of_ble_eq_true rfl, Nat.le_of_ble_eq_true rfl⟩ [0, 1] rfl (fun _ _ => trivial) rfl (rest := [.ref (ma 0)]) rfl (Nat.le_of_ble_eq_true rfl) dX4_add_30 ⟨Nat.zero_le _, Nat.zero_le _⟩ 0 rfl rfl rfl (pre := []) (post := []) (ws' := (wM ma cI th u u sv z t n dg)) rfl rfl ?_
  refine g_iconst C (v := -1) dX4_add_33 ci_m1 ?_
  refine g_icmp_ne C (tgt := 41) dX4_add_34 (by decide) (fun h34_3 => absurd h h34_3) (fun _ => ?_)
  refine g_iconst C (v := 3) dX4_add_37 ci_3 ?_
  refine g_goto C (tgt := 42) dX4_add_38 (by decide) ?_
  refine g_callVi C (c_X4_holds l D cI cO ma th u u sv z t n dg hn hz 3) gX4_add_X4_holds rfl ⟨rfl, rfl⟩ hd_X4_holds ⟨Nat.le_of_ble_eq_true rfl, Nat.le_of_ble_eq_true rfl⟩ [0, 1] rfl (fun _ _ => trivial) rfl (rest := []) rfl (Nat.le_of_ble_eq_true rfl) dX4_add_42 ⟨Nat.zero_le _, Nat.zero_le _⟩ 0 rfl rfl rfl (pre := []) (post := []) (ws' := (wM ma cI 3 u u sv z t n dg)) rfl rfl ?_
  refine g_if_eq C (tgt := 58) dX4_add_45 (by decide) (fun _ => ?_) (fun h45_4 => absurd (by decide) h45_4)
  refine g_iconst C (v := 0) dX4_add_58 ci_0 ?_
  exact g_iret C hret hlk dX4_add_59 rfl rfl
theorem hd_X4_does : yX4_does.cls = RX4 ∧ yX4_does.cls ≠ "java/lang/invoke/MethodHandle" ∧ yX4_does.cls ≠ "java/lang/invoke/VarHandle" ∧ (parseMethodDescriptor yX4_does.desc).map (fun d => d.parameters.length) = some 3 := by decide +kernel
abbrev rmX4_add : Room := { frames := 9, cells := 0, slots := 0, locals := 213 }
set_option maxHeartbeats 1000000 in
set_option maxRecDepth 100000 in
theorem c_X4_add (l : Launch) (D : va_G) (cI cO : ClassId) (ma : Nat → Nat) (th : Int32) (u a9 sv : Nat → Int32) (z : Nat) (t : Nat → Int32) (n : Nat) (dg : Int64) (hn : n ≤ 60) (hz : z ≤ 6) (r : Nat) (hr : r < 9) (n9 : Int32) (h1 : ¬ n9 < 1) (h2 : n9 ≤ 9) (h : ¬ yK0 u r (n9) = -1) : cR (fun _ => True) l yX4_add wsX4_add rmX4_add D vwCl (tyA cI cO) [.ref (ma 0), .int (nI r), .int n9] (wM ma cI th u a9 sv z t n dg) (some (.int (yAm (yT0 u r (n9)).2 - yAm u))) (wM ma cI 0 ((yT0 u r (n9)).2) u (ySv u sv z) (kM z + 1) t n dg) := by
  refine cR_of (cc := cX4_add) (maxL := 3) (ret := (some .int)) (by decide) rfl (Nat.le_of_ble_eq_true rfl) ?_
  intro p e s m below meth c A C hret hlk hnm hF
  refine g_lv [0, 1, 2] (lv' := [(0, .ref (ma 0)), (1, .int (nI r)), (2, .int n9)]) rfl ?_
  refine g_aload_n C dX4_add_0 0 rfl ?_
  refine g_iload_n C dX4_add_1 1 rfl ?_
  refine g_callSi C (c_X4_isRod l D cI cO (nI r)) gX4_add_X4_isRod rfl ⟨rfl, rfl⟩ hd_X4_isRod ⟨Nat.le_of_ble_eq_true rfl, Nat.le_of_ble_eq_true rfl⟩ [0, 1] rfl (fun _ _ => trivial) rfl (rest := [.ref (ma 0)]) rfl (Nat.le_of_ble_eq_true rfl) dX4_add_2 ⟨Nat.zero_le _, Nat.zero_le _⟩ (pre := []) (post := (wM ma cI th u a9 sv z t n dg)) (ws' := (wM ma cI th u a9 sv z t n dg)) rfl rfl ?_
  refine g_if_ne C (tgt := 12) dX4_add_5 (by decide) (fun _ => ?_) (fun h5_1 => absurd h5_1 (bt (rodp hr)))
  refine g_iload_n C dX4_add_12 2 rfl ?_
  refine g_iconst C (v := 1) dX4_add_13 ci_1 ?_
  refine g_bipush C (v := 9) dX4_add_14 cb_9 ?_
  refine g_callSi C (c_X4_in l D cI cO n9 1 9) gX4_add_X4_in rfl ⟨rfl, rfl⟩ hd_X4_in ⟨Nat.le_of_ble_eq_true rfl, Nat.le_of_ble_eq_true rfl⟩ [0, 1] rfl (fun _ _ => trivial) rfl (rest := [.ref (ma 0)]) rfl (Nat.le_of_ble_eq_true rfl) dX4_add_16 ⟨Nat.zero_le _, Nat.zero_le _⟩ (pre := []) (post := (wM ma cI th u a9 sv z t n dg)) (ws' := (wM ma cI th u a9 sv z t n dg)) rfl rfl ?_
  refine g_if_ne C (tgt := 26) dX4_add_19 (by decide) (fun _ => ?_) (fun h19_2 => absurd h19_2 (bt (inp h1 h2)))
  refine g_aload_n C dX4_add_26 0 rfl ?_
  refine g_iconst C (v := 0) dX4_add_27 ci_0 ?_
  refine g_iload_n C dX4_add_28 1 rfl ?_
  refine g_iload_n C dX4_add_29 2 rfl ?_
  refine g_callVi C (c_X4_takes_0 l D cI cO ma th u a9 sv z t n dg hn hz r ((by omega)) n9) gX4_add_X4_takes rfl ⟨rfl, rfl⟩ hd_X4_takes ⟨Nat.le_of_ble_eq_true rfl, Nat.le_of_ble_eq_true rfl⟩ [0, 1] rfl (fun _ _ => trivial) rfl (rest := [.ref (ma 0)]) rfl (Nat.le_of_ble_eq_true rfl) dX4_add_30 ⟨Nat.zero_le _, Nat.zero_le _⟩ 0 rfl rfl rfl (pre := []) (post := []) (ws' := (wM ma cI th u u sv z t n dg)) rfl rfl ?_
  refine g_iconst C (v := -1) dX4_add_33 ci_m1 ?_
  refine g_icmp_ne C (tgt := 41) dX4_add_34 (by decide) (fun _ => ?_) (fun h34_3 => absurd h34_3 h)
  refine g_iconst C (v := 0) dX4_add_41 ci_0 ?_
  refine g_callVi C (c_X4_holds l D cI cO ma th u u sv z t n dg hn hz 0) gX4_add_X4_holds rfl ⟨rfl, rfl⟩ hd_X4_holds ⟨Nat.le_of_ble_eq_true rfl, Nat.le_of_ble_eq_true rfl⟩ [0, 1] rfl (fun _ _ => trivial) rfl (rest := []) rfl (Nat.le_of_ble_eq_true rfl) dX4_add_42 ⟨Nat.zero_le _, Nat.zero_le _⟩ 0 rfl rfl rfl (pre := []) (post := []) (ws' := (wM ma cI 0 u u sv z t n dg)) rfl rfl ?_
  refine g_if_eq C (tgt := 58) dX4_add_45 (by decide) (fun h45_4 => absurd h45_4 (by decide)) (fun _ => ?_)
  refine g_aload_n C dX4_add_48 0 rfl ?_
  refine g_iconst C (v := 0) dX4_add_49 ci_0 ?_
  refine g_iload_n C dX4_add_50 1 rfl ?_
  refine g_iload_n C dX4_add_51 2 rfl ?_
  refine g_callVi C (c_X4_does_0 l D cI cO ma 0 u u sv z t n dg hn hz r ((by omega)) n9) gX4_add_X4_does rfl ⟨rfl, rfl⟩ hd_X4_does ⟨Nat.le_of_ble_eq_true rfl, Nat.le_of_ble_eq_true rfl⟩ [0, 1] rfl (fun _ _ => trivial) rfl (rest := []) rfl (Nat.le_of_ble_eq_true rfl) dX4_add_52 ⟨Nat.zero_le _, Nat.zero_le _⟩ 0 rfl rfl rfl (pre := []) (post := []) (ws' := (wM ma cI 0 ((yT0 u r n9).2) u (ySv u sv z) (kM z + 1) t n dg)) rfl rfl ?_
  refine g_goto C (tgt := 59) dX4_add_55 (by decide) ?_
  exact g_iret C hret hlk dX4_add_59 rfl rfl
abbrev rmX4_less_1 : Room := { frames := 2, cells := 0, slots := 0, locals := 42 }
set_option maxHeartbeats 1000000 in
set_option maxRecDepth 100000 in
theorem c_X4_less_1 (l : Launch) (D : va_G) (cI cO : ClassId) (ma : Nat → Nat) (th : Int32) (u a9 sv : Nat → Int32) (z : Nat) (t : Nat → Int32) (n : Nat) (dg : Int64) (hn : n ≤ 60) (hz : z ≤ 6) (v9 : Int32) (h : v9 < 0 ∨ ¬ v9 < 9) (n9 : Int32) : cR (fun _ => True) l yX4_less wsX4_less rmX4_less_1 D vwCl (tyA cI cO) [.ref (ma 0), .int v9, .int n9] (wM ma cI th u a9 sv z t n dg) (some (.int 0)) (wM ma cI 1 u a9 sv z t n dg) := by
  refine cR_of (cc := cX4_less) (maxL := 3) (ret := (some .int)) (by decide) rfl (Nat.le_of_ble_eq_true rfl) ?_
  intro p e s m below meth c A C hret hlk hnm hF
  refine g_lv [0, 1, 2] (lv' := [(0, .ref (ma 0)), (1, .int v9), (2, .int n9)]) rfl ?_
  refine g_aload_n C dX4_less_0 0 rfl ?_
  refine g_iload_n C dX4_less_1 1 rfl ?_
  refine g_callSi C (c_X4_isRod l D cI cO v9) gX4_less_X4_isRod rfl ⟨rfl, rfl⟩ hd_X4_isRod ⟨Nat.le_of_ble_eq_true rfl, Nat.le_of_ble_eq_true rfl⟩ [0, 1] rfl (fun _ _ => trivial) rfl (rest := [.ref (ma 0)]) rfl (Nat.le_of_ble_eq_true rfl) dX4_less_2 ⟨Nat.zero_le _, Nat.zero_le _⟩ (pre := []) (post := (wM ma cI th u a9 sv z t n dg)) (ws' := (wM ma cI th u a9 sv z t n dg)) rfl rfl ?_
  refine g_if_ne C (tgt := 12) dX4_less_5 (by decide) (fun h5_1 => absurd (bf (nrod h)) h5_1) (fun _ => ?_)
  refine g_iconst C (v := 1) dX4_less_8 ci_1 ?_
  refine g_goto C (tgt := 43) dX4_less_9 (by decide) ?_
  refine g_callVi C (c_X4_holds l D cI cO ma th u a9 sv z t n dg hn hz 1) gX4_less_X4_holds rfl ⟨rfl, rfl⟩ hd_X4_holds ⟨Nat.le_of_ble_eq_true rfl, Nat.le_of_ble_eq_true rfl⟩ [0, 1] rfl (fun _ _ => trivial) rfl (rest := []) rfl (Nat.le_of_ble_eq_true rfl) dX4_less_43 ⟨Nat.zero_le _, Nat.zero_le _⟩ 0 rfl rfl rfl (pre := []) (post := []) (ws' := (wM ma cI 1 u a9 sv z t n dg)) rfl rfl ?_
  refine g_if_eq C (tgt := 60) dX4_less_46 (by decide) (fun _ => ?_) (fun h46_2 => absurd (by decide) h46_2)
  refine g_iconst C (v := 0) dX4_less_60 ci_0 ?_
  exact g_iret C hret hlk dX4_less_61 rfl rfl
abbrev rmX4_less_2 : Room := { frames := 2, cells := 0, slots := 0, locals := 42 }
set_option maxHeartbeats 1000000 in
set_option maxRecDepth 100000 in
theorem c_X4_less_2 (l : Launch) (D : va_G) (cI cO : ClassId) (ma : Nat → Nat) (th : Int32) (u a9 sv : Nat → Int32) (z : Nat) (t : Nat → Int32) (n : Nat) (dg : Int64) (hn : n ≤ 60) (hz : z ≤ 6) (r : Nat) (hr : r < 9) (n9 : Int32) (h : n9 < 1 ∨ ¬ n9 ≤ 9) : cR (fun _ => True) l yX4_less wsX4_less rmX4_less_2 D vwCl (tyA cI cO) [.ref (ma 0), .int (nI r), .int n9] (wM ma cI th u a9 sv z t n dg) (some (.int 0)) (wM ma cI 2 u a9 sv z t n dg) := by
  refine cR_of (cc := cX4_less) (maxL := 3) (ret := (some .int)) (by decide) rfl (Nat.le_of_ble_eq_true rfl) ?_
  intro p e s m below meth c A C hret hlk hnm hF
  refine g_lv [0, 1, 2] (lv' := [(0, .ref (ma 0)), (1, .int (nI r)), (2, .int n9)]) rfl ?_
  refine g_aload_n C dX4_less_0 0 rfl ?_
  refine g_iload_n C dX4_less_1 1 rfl ?_
  refine g_callSi C (c_X4_isRod l D cI cO (nI r)) gX4_less_X4_isRod rfl ⟨rfl, rfl⟩ hd_X4_isRod ⟨Nat.le_of_ble_eq_true rfl, Nat.le_of_ble_eq_true rfl⟩ [0, 1] rfl (fun _ _ => trivial) rfl (rest := [.ref (ma 0)]) rfl (Nat.le_of_ble_eq_true rfl) dX4_less_2 ⟨Nat.zero_le _, Nat.zero_le _⟩ (pre := []) (post := (wM ma cI th u a9 sv z t n dg)) (ws' := (wM ma cI th u a9 sv z t n dg)) rfl rfl ?_
  refine g_if_ne C (tgt := 12) dX4_less_5 (by decide) (fun _ => ?_) (fun h5_1 => absurd h5_1 (bt (rodp hr)))
  refine g_iload_n C dX4_less_12 2 rfl ?_
  refine g_iconst C (v := 1) dX4_less_13 ci_1 ?_
  refine g_bipush C (v := 9) dX4_less_14 cb_9 ?_
  refine g_callSi C (c_X4_in l D cI cO n9 1 9) gX4_less_X4_in rfl ⟨rfl, rfl⟩ hd_X4_in ⟨Nat.le_of_ble_eq_true rfl, Nat.le_of_ble_eq_true rfl⟩ [0, 1] rfl (fun _ _ => trivial) rfl (rest := [.ref (ma 0)]) rfl (Nat.le_of_ble_eq_true rfl) dX4_less_16 ⟨Nat.zero_le _, Nat.zero_le _⟩ (pre := []) (post := (wM ma cI th u a9 sv z t n dg)) (ws' := (wM ma cI th u a9 sv z t n dg)) rfl rfl ?_
  refine g_if_ne C (tgt := 26) dX4_less_19 (by decide) (fun h19_2 => absurd (bf (nin h)) h19_2) (fun _ => ?_)
  refine g_iconst C (v := 2) dX4_less_22 ci_2 ?_
  refine g_goto C (tgt := 43) dX4_less_23 (by decide) ?_
  refine g_callVi C (c_X4_holds l D cI cO ma th u a9 sv z t n dg hn hz 2) gX4_less_X4_holds rfl ⟨rfl, rfl⟩ hd_X4_holds ⟨Nat.le_of_ble_eq_true rfl, Nat.le_of_ble_eq_true rfl⟩ [0, 1] rfl (fun _ _ => trivial) rfl (rest := []) rfl (Nat.le_of_ble_eq_true rfl) dX4_less_43 ⟨Nat.zero_le _, Nat.zero_le _⟩ 0 rfl rfl rfl (pre := []) (post := []) (ws' := (wM ma cI 2 u a9 sv z t n dg)) rfl rfl ?_
  refine g_if_eq C (tgt := 60) dX4_less_46 (by decide) (fun _ => ?_) (fun h46_3 => absurd (by decide) h46_3)
  refine g_iconst C (v := 0) dX4_less_60 ci_0 ?_
  exact g_iret C hret hlk dX4_less_61 rfl rfl
abbrev rmX4_less_3 : Room := { frames := 9, cells := 0, slots := 0, locals := 213 }
set_option maxHeartbeats 1000000 in
set_option maxRecDepth 100000 in
theorem c_X4_less_3 (l : Launch) (D : va_G) (cI cO : ClassId) (ma : Nat → Nat) (th : Int32) (u a9 sv : Nat → Int32) (z : Nat) (t : Nat → Int32) (n : Nat) (dg : Int64) (hn : n ≤ 60) (hz : z ≤ 6) (r : Nat) (hr : r < 9) (n9 : Int32) (h1 : ¬ n9 < 1) (h2 : n9 ≤ 9) (h : yK0 u r (-n9) = -1) : cR (fun _ => True) l yX4_less wsX4_less rmX4_less_3 D vwCl (tyA cI cO) [.ref (ma 0), .int (nI r), .int n9] (wM ma cI th u a9 sv z t n dg) (some (.int 0)) (wM ma cI 3 u u sv z t n dg) := by
  refine cR_of (cc := cX4_less) (maxL := 3) (ret := (some .int)) (by decide) rfl (Nat.le_of_ble_eq_true rfl) ?_
  intro p e s m below meth c A C hret hlk hnm hF
  refine g_lv [0, 1, 2] (lv' := [(0, .ref (ma 0)), (1, .int (nI r)), (2, .int n9)]) rfl ?_
  refine g_aload_n C dX4_less_0 0 rfl ?_
  refine g_iload_n C dX4_less_1 1 rfl ?_
  refine g_callSi C (c_X4_isRod l D cI cO (nI r)) gX4_less_X4_isRod rfl ⟨rfl, rfl⟩ hd_X4_isRod ⟨Nat.le_of_ble_eq_true rfl, Nat.le_of_ble_eq_true rfl⟩ [0, 1] rfl (fun _ _ => trivial) rfl (rest := [.ref (ma 0)]) rfl (Nat.le_of_ble_eq_true rfl) dX4_less_2 ⟨Nat.zero_le _, Nat.zero_le _⟩ (pre := []) (post := (wM ma cI th u a9 sv z t n dg)) (ws' := (wM ma cI th u a9 sv z t n dg)) rfl rfl ?_
  refine g_if_ne C (tgt := 12) dX4_less_5 (by decide) (fun _ => ?_) (fun h5_1 => absurd h5_1 (bt (rodp hr)))
  refine g_iload_n C dX4_less_12 2 rfl ?_
  refine g_iconst C (v := 1) dX4_less_13 ci_1 ?_
  refine g_bipush C (v := 9) dX4_less_14 cb_9 ?_
  refine g_callSi C (c_X4_in l D cI cO n9 1 9) gX4_less_X4_in rfl ⟨rfl, rfl⟩ hd_X4_in ⟨Nat.le_of_ble_eq_true rfl, Nat.le_of_ble_eq_true rfl⟩ [0, 1] rfl (fun _ _ => trivial) rfl (rest := [.ref (ma 0)]) rfl (Nat.le_of_ble_eq_true rfl) dX4_less_16 ⟨Nat.zero_le _, Nat.zero_le _⟩ (pre := []) (post := (wM ma cI th u a9 sv z t n dg)) (ws' := (wM ma cI th u a9 sv z t n dg)) rfl rfl ?_
  refine g_if_ne C (tgt := 26) dX4_less_19 (by decide) (fun _ => ?_) (fun h19_2 => absurd h19_2 (bt (inp h1 h2)))
  refine g_aload_n C dX4_less_26 0 rfl ?_
  refine g_iconst C (v := 0) dX4_less_27 ci_0 ?_
  refine g_iload_n C dX4_less_28 1 rfl ?_
  refine g_iload_n C dX4_less_29 2 rfl ?_
  refine g_ineg C (v := -n9) dX4_less_30 rfl ?_
  refine g_callVi C (c_X4_takes_0 l D cI cO ma th u a9 sv z t n dg hn hz r ((by omega)) (-n9)) gX4_less_X4_takes rfl ⟨rfl, rfl⟩ hd_X4_takes ⟨Nat.le_of_ble_eq_true rfl, Nat.le_of_ble_eq_true rfl⟩ [0, 1] rfl (fun _ _ => trivial) rfl (rest := [.ref (ma 0)]) rfl (Nat.le_of_ble_eq_true rfl) dX4_less_31 ⟨Nat.zero_le _, Nat.zero_le _⟩ 0 rfl rfl rfl (pre := []) (post := []) (ws' := (wM ma cI th u u sv z t n dg)) rfl rfl ?_
  refine g_iconst C (v := -1) dX4_less_34 ci_m1 ?_
  refine g_icmp_ne C (tgt := 42) dX4_less_35 (by decide) (fun h35_3 => absurd h h35_3) (fun _ => ?_)
  refine g_iconst C (v := 3) dX4_less_38 ci_3 ?_
  refine g_goto C (tgt := 43) dX4_less_39 (by decide) ?_
  refine g_callVi C (c_X4_holds l D cI cO ma th u u sv z t n dg hn hz 3) gX4_less_X4_holds rfl ⟨rfl, rfl⟩ hd_X4_holds ⟨Nat.le_of_ble_eq_true rfl, Nat.le_of_ble_eq_true rfl⟩ [0, 1] rfl (fun _ _ => trivial) rfl (rest := []) rfl (Nat.le_of_ble_eq_true rfl) dX4_less_43 ⟨Nat.zero_le _, Nat.zero_le _⟩ 0 rfl rfl rfl (pre := []) (post := []) (ws' := (wM ma cI 3 u u sv z t n dg)) rfl rfl ?_
  refine g_if_eq C (tgt := 60) dX4_less_46 (by decide) (fun _ => ?_) (fun h46_4 => absurd (by decide) h46_4)
  refine g_iconst C (v := 0) dX4_less_60 ci_0 ?_
  exact g_iret C hret hlk dX4_less_61 rfl rfl
abbrev rmX4_less : Room := { frames := 9, cells := 0, slots := 0, locals := 213 }
set_option maxHeartbeats 1000000 in
set_option maxRecDepth 100000 in
theorem c_X4_less (l : Launch) (D : va_G) (cI cO : ClassId) (ma : Nat → Nat) (th : Int32) (u a9 sv : Nat → Int32) (z : Nat) (t : Nat → Int32) (n : Nat) (dg : Int64) (hn : n ≤ 60) (hz : z ≤ 6) (r : Nat) (hr : r < 9) (n9 : Int32) (h1 : ¬ n9 < 1) (h2 : n9 ≤ 9) (h : ¬ yK0 u r (-n9) = -1) : cR (fun _ => True) l yX4_less wsX4_less rmX4_less D vwCl (tyA cI cO) [.ref (ma 0), .int (nI r), .int n9] (wM ma cI th u a9 sv z t n dg) (some (.int (yAm (yT0 u r (-n9)).2 - yAm u))) (wM ma cI 0 ((yT0 u r (-n9)).2) u (ySv u sv z) (kM z + 1) t n dg) := by
  refine cR_of (cc := cX4_less) (maxL := 3) (ret := (some .int)) (by decide) rfl (Nat.le_of_ble_eq_true rfl) ?_
  intro p e s m below meth c A C hret hlk hnm hF
  refine g_lv [0, 1, 2] (lv' := [(0, .ref (ma 0)), (1, .int (nI r)), (2, .int n9)]) rfl ?_
  refine g_aload_n C dX4_less_0 0 rfl ?_
  refine g_iload_n C dX4_less_1 1 rfl ?_
  refine g_callSi C (c_X4_isRod l D cI cO (nI r)) gX4_less_X4_isRod rfl ⟨rfl, rfl⟩ hd_X4_isRod ⟨Nat.le_of_ble_eq_true rfl, Nat.le_of_ble_eq_true rfl⟩ [0, 1] rfl (fun _ _ => trivial) rfl (rest := [.ref (ma 0)]) rfl (Nat.le_of_ble_eq_true rfl) dX4_less_2 ⟨Nat.zero_le _, Nat.zero_le _⟩ (pre := []) (post := (wM ma cI th u a9 sv z t n dg)) (ws' := (wM ma cI th u a9 sv z t n dg)) rfl rfl ?_
  refine g_if_ne C (tgt := 12) dX4_less_5 (by decide) (fun _ => ?_) (fun h5_1 => absurd h5_1 (bt (rodp hr)))
  refine g_iload_n C dX4_less_12 2 rfl ?_
  refine g_iconst C (v := 1) dX4_less_13 ci_1 ?_
  refine g_bipush C (v := 9) dX4_less_14 cb_9 ?_
  refine g_callSi C (c_X4_in l D cI cO n9 1 9) gX4_less_X4_in rfl ⟨rfl, rfl⟩ hd_X4_in ⟨Nat.le_of_ble_eq_true rfl, Nat.le_of_ble_eq_true rfl⟩ [0, 1] rfl (fun _ _ => trivial) rfl (rest := [.ref (ma 0)]) rfl (Nat.le_of_ble_eq_true rfl) dX4_less_16 ⟨Nat.zero_le _, Nat.zero_le _⟩ (pre := []) (post := (wM ma cI th u a9 sv z t n dg)) (ws' := (wM ma cI th u a9 sv z t n dg)) rfl rfl ?_
  refine g_if_ne C (tgt := 26) dX4_less_19 (by decide) (fun _ => ?_) (fun h19_2 => absurd h19_2 (bt (inp h1 h2)))
  refine g_aload_n C dX4_less_26 0 rfl ?_
  refine g_iconst C (v := 0) dX4_less_27 ci_0 ?_
  refine g_iload_n C dX4_less_28 1 rfl ?_
  refine g_iload_n C dX4_less_29 2 rfl ?_
  refine g_ineg C (v := -n9) dX4_less_30 rfl ?_
  refine g_callVi C (c_X4_takes_0 l D cI cO ma th u a9 sv z t n dg hn hz r ((by omega)) (-n9)) gX4_less_X4_takes rfl ⟨rfl, rfl⟩ hd_X4_takes ⟨Nat.le_of_ble_eq_true rfl, Nat.le_of_ble_eq_true rfl⟩ [0, 1] rfl (fun _ _ => trivial) rfl (rest := [.ref (ma 0)]) rfl (Nat.le_of_ble_eq_true rfl) dX4_less_31 ⟨Nat.zero_le _, Nat.zero_le _⟩ 0 rfl rfl rfl (pre := []) (post := []) (ws' := (wM ma cI th u u sv z t n dg)) rfl rfl ?_
  refine g_iconst C (v := -1) dX4_less_34 ci_m1 ?_
  refine g_icmp_ne C (tgt := 42) dX4_less_35 (by decide) (fun _ => ?_) (fun h35_3 => absurd h35_3 h)
  refine g_iconst C (v := 0) dX4_less_42 ci_0 ?_
  refine g_callVi C (c_X4_holds l D cI cO ma th u u sv z t n dg hn hz 0) gX4_less_X4_holds rfl ⟨rfl, rfl⟩ hd_X4_holds ⟨Nat.le_of_ble_eq_true rfl, Nat.le_of_ble_eq_true rfl⟩ [0, 1] rfl (fun _ _ => trivial) rfl (rest := []) rfl (Nat.le_of_ble_eq_true rfl) dX4_less_43 ⟨Nat.zero_le _, Nat.zero_le _⟩ 0 rfl rfl rfl (pre := []) (post := []) (ws' := (wM ma cI 0 u u sv z t n dg)) rfl rfl ?_
  refine g_if_eq C (tgt := 60) dX4_less_46 (by decide) (fun h46_4 => absurd h46_4 (by decide)) (fun _ => ?_)
  refine g_aload_n C dX4_less_49 0 rfl ?_
  refine g_iconst C (v := 0) dX4_less_50 ci_0 ?_
  refine g_iload_n C dX4_less_51 1 rfl ?_
  refine g_iload_n C dX4_less_52 2 rfl ?_
  refine g_ineg C (v := -n9) dX4_less_53 rfl ?_
  refine g_callVi C (c_X4_does_0 l D cI cO ma 0 u u sv z t n dg hn hz r ((by omega)) (-n9)) gX4_less_X4_does rfl ⟨rfl, rfl⟩ hd_X4_does ⟨Nat.le_of_ble_eq_true rfl, Nat.le_of_ble_eq_true rfl⟩ [0, 1] rfl (fun _ _ => trivial) rfl (rest := []) rfl (Nat.le_of_ble_eq_true rfl) dX4_less_54 ⟨Nat.zero_le _, Nat.zero_le _⟩ 0 rfl rfl rfl (pre := []) (post := []) (ws' := (wM ma cI 0 ((yT0 u r (-n9)).2) u (ySv u sv z) (kM z + 1) t n dg)) rfl rfl ?_
  refine g_goto C (tgt := 61) dX4_less_57 (by decide) ?_
  exact g_iret C hret hlk dX4_less_61 rfl rfl
abbrev rmX4_pay_1 : Room := { frames := 2, cells := 0, slots := 0, locals := 42 }
set_option maxHeartbeats 1000000 in
set_option maxRecDepth 100000 in
theorem c_X4_pay_1 (l : Launch) (D : va_G) (cI cO : ClassId) (ma : Nat → Nat) (th : Int32) (u a9 sv : Nat → Int32) (z : Nat) (t : Nat → Int32) (n : Nat) (dg : Int64) (hn : n ≤ 60) (hz : z ≤ 6) (v9 : Int32) (h : v9 < 0 ∨ ¬ v9 < 9) : cR (fun _ => True) l yX4_pay wsX4_pay rmX4_pay_1 D vwCl (tyA cI cO) [.ref (ma 0), .int v9] (wM ma cI th u a9 sv z t n dg) (some (.int 0)) (wM ma cI 1 u a9 sv z t n dg) := by
  refine cR_of (cc := cX4_pay) (maxL := 2) (ret := (some .int)) (by decide) rfl (Nat.le_of_ble_eq_true rfl) ?_
  intro p e s m below meth c A C hret hlk hnm hF
  refine g_lv [0, 1] (lv' := [(0, .ref (ma 0)), (1, .int v9)]) rfl ?_
  refine g_aload_n C dX4_pay_0 0 rfl ?_
  refine g_iload_n C dX4_pay_1 1 rfl ?_
  refine g_callSi C (c_X4_isRod l D cI cO v9) gX4_pay_X4_isRod rfl ⟨rfl, rfl⟩ hd_X4_isRod ⟨Nat.le_of_ble_eq_true rfl, Nat.le_of_ble_eq_true rfl⟩ [0, 1] rfl (fun _ _ => trivial) rfl (rest := [.ref (ma 0)]) rfl (Nat.le_of_ble_eq_true rfl) dX4_pay_2 ⟨Nat.zero_le _, Nat.zero_le _⟩ (pre := []) (post := (wM ma cI th u a9 sv z t n dg)) (ws' := (wM ma cI th u a9 sv z t n dg)) rfl rfl ?_
  refine g_if_ne C (tgt := 12) dX4_pay_5 (by decide) (fun h5_1 => absurd (bf (nrod h)) h5_1) (fun _ => ?_)
  refine g_iconst C (v := 1) dX4_pay_8 ci_1 ?_
  refine g_goto C (tgt := 28) dX4_pay_9 (by decide) ?_
  refine g_callVi C (c_X4_holds l D cI cO ma th u a9 sv z t n dg hn hz 1) gX4_pay_X4_holds rfl ⟨rfl, rfl⟩ hd_X4_holds ⟨Nat.le_of_ble_eq_true rfl, Nat.le_of_ble_eq_true rfl⟩ [0, 1] rfl (fun _ _ => trivial) rfl (rest := []) rfl (Nat.le_of_ble_eq_true rfl) dX4_pay_28 ⟨Nat.zero_le _, Nat.zero_le _⟩ 0 rfl rfl rfl (pre := []) (post := []) (ws' := (wM ma cI 1 u a9 sv z t n dg)) rfl rfl ?_
  refine g_if_eq C (tgt := 44) dX4_pay_31 (by decide) (fun _ => ?_) (fun h31_2 => absurd (by decide) h31_2)
  refine g_iconst C (v := 0) dX4_pay_44 ci_0 ?_
  exact g_iret C hret hlk dX4_pay_45 rfl rfl
abbrev rmX4_pay_2 : Room := { frames := 9, cells := 0, slots := 0, locals := 213 }
set_option maxHeartbeats 1000000 in
set_option maxRecDepth 100000 in
theorem c_X4_pay_2 (l : Launch) (D : va_G) (cI cO : ClassId) (ma : Nat → Nat) (th : Int32) (u a9 sv : Nat → Int32) (z : Nat) (t : Nat → Int32) (n : Nat) (dg : Int64) (hn : n ≤ 60) (hz : z ≤ 6) (r : Nat) (hr : r < 9) (h : yK1 u r = -1) : cR (fun _ => True) l yX4_pay wsX4_pay rmX4_pay_2 D vwCl (tyA cI cO) [.ref (ma 0), .int (nI r)] (wM ma cI th u a9 sv z t n dg) (some (.int 0)) (wM ma cI 2 u u sv z t n dg) := by
  refine cR_of (cc := cX4_pay) (maxL := 2) (ret := (some .int)) (by decide) rfl (Nat.le_of_ble_eq_true rfl) ?_
  intro p e s m below meth c A C hret hlk hnm hF
  refine g_lv [0, 1] (lv' := [(0, .ref (ma 0)), (1, .int (nI r))]) rfl ?_
  refine g_aload_n C dX4_pay_0 0 rfl ?_
  refine g_iload_n C dX4_pay_1 1 rfl ?_
  refine g_callSi C (c_X4_isRod l D cI cO (nI r)) gX4_pay_X4_isRod rfl ⟨rfl, rfl⟩ hd_X4_isRod ⟨Nat.le_of_ble_eq_true rfl, Nat.le_of_ble_eq_true rfl⟩ [0, 1] rfl (fun _ _ => trivial) rfl (rest := [.ref (ma 0)]) rfl (Nat.le_of_ble_eq_true rfl) dX4_pay_2 ⟨Nat.zero_le _, Nat.zero_le _⟩ (pre := []) (post := (wM ma cI th u a9 sv z t n dg)) (ws' := (wM ma cI th u a9 sv z t n dg)) rfl rfl ?_
  refine g_if_ne C (tgt := 12) dX4_pay_5 (by decide) (fun _ => ?_) (fun h5_1 => absurd h5_1 (bt (rodp hr)))
  refine g_aload_n C dX4_pay_12 0 rfl ?_
  refine g_iconst C (v := 1) dX4_pay_13 ci_1 ?_
  refine g_iload_n C dX4_pay_14 1 rfl ?_
  refine g_iconst C (v := 0) dX4_pay_15 ci_0 ?_
  refine g_callVi C (c_X4_takes_1 l D cI cO ma th u a9 sv z t n dg hn hz r ((by omega)) 0) gX4_pay_X4_takes rfl ⟨rfl, rfl⟩ hd_X4_takes ⟨Nat.le_of_ble_eq_true rfl, Nat.le_of_ble_eq_true rfl⟩ [0, 1] rfl (fun _ _ => trivial) rfl (rest := [.ref (ma 0)]) rfl (Nat.le_of_ble_eq_true rfl) dX4_pay_16 ⟨Nat.zero_le _, Nat.zero_le _⟩ 0 rfl rfl rfl (pre := []) (post := []) (ws' := (wM ma cI th u u sv z t n dg)) rfl rfl ?_
  refine g_iconst C (v := -1) dX4_pay_19 ci_m1 ?_
  refine g_icmp_ne C (tgt := 27) dX4_pay_20 (by decide) (fun h20_2 => absurd h h20_2) (fun _ => ?_)
  refine g_iconst C (v := 2) dX4_pay_23 ci_2 ?_
  refine g_goto C (tgt := 28) dX4_pay_24 (by decide) ?_
  refine g_callVi C (c_X4_holds l D cI cO ma th u u sv z t n dg hn hz 2) gX4_pay_X4_holds rfl ⟨rfl, rfl⟩ hd_X4_holds ⟨Nat.le_of_ble_eq_true rfl, Nat.le_of_ble_eq_true rfl⟩ [0, 1] rfl (fun _ _ => trivial) rfl (rest := []) rfl (Nat.le_of_ble_eq_true rfl) dX4_pay_28 ⟨Nat.zero_le _, Nat.zero_le _⟩ 0 rfl rfl rfl (pre := []) (post := []) (ws' := (wM ma cI 2 u u sv z t n dg)) rfl rfl ?_
  refine g_if_eq C (tgt := 44) dX4_pay_31 (by decide) (fun _ => ?_) (fun h31_3 => absurd (by decide) h31_3)
  refine g_iconst C (v := 0) dX4_pay_44 ci_0 ?_
  exact g_iret C hret hlk dX4_pay_45 rfl rfl
abbrev rmX4_pay : Room := { frames := 9, cells := 0, slots := 0, locals := 213 }
set_option maxHeartbeats 1000000 in
set_option maxRecDepth 100000 in
theorem c_X4_pay (l : Launch) (D : va_G) (cI cO : ClassId) (ma : Nat → Nat) (th : Int32) (u a9 sv : Nat → Int32) (z : Nat) (t : Nat → Int32) (n : Nat) (dg : Int64) (hn : n ≤ 60) (hz : z ≤ 6) (r : Nat) (hr : r < 9) (h : ¬ yK1 u r = -1) : cR (fun _ => True) l yX4_pay wsX4_pay rmX4_pay D vwCl (tyA cI cO) [.ref (ma 0), .int (nI r)] (wM ma cI th u a9 sv z t n dg) (some (.int (yAm (yT1 u r).2 - yAm u))) (wM ma cI 0 ((yT1 u r).2) u (ySv u sv z) (kM z + 1) t n dg) := by
  refine cR_of (cc := cX4_pay) (maxL := 2) (ret := (some .int)) (by decide) rfl (Nat.le_of_ble_eq_true rfl) ?_
  intro p e s m below meth c A C hret hlk hnm hF
  refine g_lv [0, 1] (lv' := [(0, .ref (ma 0)), (1, .int (nI r))]) rfl ?_
  refine g_aload_n C dX4_pay_0 0 rfl ?_
  refine g_iload_n C dX4_pay_1 1 rfl ?_
  refine g_callSi C (c_X4_isRod l D cI cO (nI r)) gX4_pay_X4_isRod rfl ⟨rfl, rfl⟩ hd_X4_isRod ⟨Nat.le_of_ble_eq_true rfl, Nat.le_of_ble_eq_true rfl⟩ [0, 1] rfl (fun _ _ => trivial) rfl (rest := [.ref (ma 0)]) rfl (Nat.le_of_ble_eq_true rfl) dX4_pay_2 ⟨Nat.zero_le _, Nat.zero_le _⟩ (pre := []) (post := (wM ma cI th u a9 sv z t n dg)) (ws' := (wM ma cI th u a9 sv z t n dg)) rfl rfl ?_
  refine g_if_ne C (tgt := 12) dX4_pay_5 (by decide) (fun _ => ?_) (fun h5_1 => absurd h5_1 (bt (rodp hr)))
  refine g_aload_n C dX4_pay_12 0 rfl ?_
  refine g_iconst C (v := 1) dX4_pay_13 ci_1 ?_
  refine g_iload_n C dX4_pay_14 1 rfl ?_
  refine g_iconst C (v := 0) dX4_pay_15 ci_0 ?_
  refine g_callVi C (c_X4_takes_1 l D cI cO ma th u a9 sv z t n dg hn hz r ((by omega)) 0) gX4_pay_X4_takes rfl ⟨rfl, rfl⟩ hd_X4_takes ⟨Nat.le_of_ble_eq_true rfl, Nat.le_of_ble_eq_true rfl⟩ [0, 1] rfl (fun _ _ => trivial) rfl (rest := [.ref (ma 0)]) rfl (Nat.le_of_ble_eq_true rfl) dX4_pay_16 ⟨Nat.zero_le _, Nat.zero_le _⟩ 0 rfl rfl rfl (pre := []) (post := []) (ws' := (wM ma cI th u u sv z t n dg)) rfl rfl ?_
  refine g_iconst C (v := -1) dX4_pay_19 ci_m1 ?_
  refine g_icmp_ne C (tgt := 27) dX4_pay_20 (by decide) (fun _ => ?_) (fun h20_2 => absurd h20_2 h)
  refine g_iconst C (v := 0) dX4_pay_27 ci_0 ?_
  refine g_callVi C (c_X4_holds l D cI cO ma th u u sv z t n dg hn hz 0) gX4_pay_X4_holds rfl ⟨rfl, rfl⟩ hd_X4_holds ⟨Nat.le_of_ble_eq_true rfl, Nat.le_of_ble_eq_true rfl⟩ [0, 1] rfl (fun _ _ => trivial) rfl (rest := []) rfl (Nat.le_of_ble_eq_true rfl) dX4_pay_28 ⟨Nat.zero_le _, Nat.zero_le _⟩ 0 rfl rfl rfl (pre := []) (post := []) (ws' := (wM ma cI 0 u u sv z t n dg)) rfl rfl ?_
  refine g_if_eq C (tgt := 44) dX4_pay_31 (by decide) (fun h31_3 => absurd h31_3 (by decide)) (fun _ => ?_)
  refine g_aload_n C dX4_pay_34 0 rfl ?_
  refine g_iconst C (v := 1) dX4_pay_35 ci_1 ?_
  refine g_iload_n C dX4_pay_36 1 rfl ?_
  refine g_iconst C (v := 0) dX4_pay_37 ci_0 ?_
  refine g_callVi C (c_X4_does_1 l D cI cO ma 0 u u sv z t n dg hn hz r ((by omega)) 0) gX4_pay_X4_does rfl ⟨rfl, rfl⟩ hd_X4_does ⟨Nat.le_of_ble_eq_true rfl, Nat.le_of_ble_eq_true rfl⟩ [0, 1] rfl (fun _ _ => trivial) rfl (rest := []) rfl (Nat.le_of_ble_eq_true rfl) dX4_pay_38 ⟨Nat.zero_le _, Nat.zero_le _⟩ 0 rfl rfl rfl (pre := []) (post := []) (ws' := (wM ma cI 0 ((yT1 u r).2) u (ySv u sv z) (kM z + 1) t n dg)) rfl rfl ?_
  refine g_goto C (tgt := 45) dX4_pay_41 (by decide) ?_
  exact g_iret C hret hlk dX4_pay_45 rfl rfl
theorem fw_X4_tidy_fld22 : Cond.fieldLink RX4 22 "StuckRodsModel" "thrown" "I" ∈ wsX4_tidy := (List.mem_cons_of_mem _ (List.mem_append_left _ (List.mem_append_left _ (List.mem_of_getElem? (i := 0) rfl))))
theorem fl_X4_tidy_X4 : ∀ w ∈ wsX40, w ∈ wsX4_tidy := fun _ h => List.mem_cons_of_mem _ (List.mem_append_right _ h)
abbrev rmX4_tidy : Room := { frames := 8, cells := 0, slots := 0, locals := 187 }
set_option maxHeartbeats 1000000 in
set_option maxRecDepth 100000 in
theorem c_X4_tidy (l : Launch) (D : va_G) (cI cO : ClassId) (ma : Nat → Nat) (th : Int32) (u a9 sv : Nat → Int32) (z : Nat) (t : Nat → Int32) (n : Nat) (dg : Int64) (hn : n ≤ 60) (hz : z ≤ 6)  : cR (fun _ => True) l yX4_tidy wsX4_tidy rmX4_tidy D vwCl (tyA cI cO) [.ref (ma 0)] (wM ma cI th u a9 sv z t n dg) (some (.int (yAm (yTd u a9 9).1 - yAm u))) (wM ma cI 0 ((yTd u a9 9).1) ((yTd u a9 9).2) (ySv u sv z) (kM z + 1) t n dg) := by
  refine cR_of (cc := cX4_tidy) (maxL := 5) (ret := (some .int)) (by decide) rfl (Nat.le_of_ble_eq_true rfl) ?_
  intro p e s m below meth c A C hret hlk hnm hF
  refine g_lv [0] (lv' := [(0, .ref (ma 0))]) rfl ?_
  have K : ∀ (k q : Nat), k + q = 9 → gG p l e rmX4_tidy s m ([.ref (ma 0)] : List Value).toArray below meth c D vwCl A s.heap 5 (MQ below (cQ (some (.int (yAm (yTd u a9 9).1 - yAm u))) (cB D vwCl (tyA cI cO) A (wM ma cI 0 ((yTd u a9 9).1) ((yTd u a9 9).2) (ySv u sv z) (kM z + 1) t n dg)) A) ([.ref (ma 0)] : List Value).toArray s 0 0 A) 0 0 (wM ma cI 0 ((yTd u a9 q).1) ((yTd u a9 q).2) (ySv u sv z) (kM z + 1) t n dg) 16 [(0, .ref (ma 0)), (1, .int (yAm u)), (2, .int (nI q))] [] := by
    intro k
    induction k with
    | zero =>
      intro q hn9 
      obtain rfl : q = 9 := by omega
      refine g_iload_n C dX4_tidy_16 2 rfl ?_
      refine g_bipush C (v := 9) dX4_tidy_17 cb_9 ?_
      refine g_icmp_ge C (tgt := 45) dX4_tidy_19 (by decide) (fun _ => ?_) (fun h19_1 => absurd (by decide) h19_1)
      refine g_aload_n C dX4_tidy_45 0 rfl ?_
      refine g_callVi C (c_X4_allMoves l D cI cO ma 0 ((yTd u a9 9).1) ((yTd u a9 9).2) (ySv u sv z) (kM z + 1) t n dg hn (by have := kM_lt hz; omega)) gX4_tidy_X4_allMoves rfl ⟨rfl, rfl⟩ hd_X4_allMoves ⟨Nat.le_of_ble_eq_true rfl, Nat.le_of_ble_eq_true rfl⟩ [0, 1] rfl (fun _ _ => trivial) rfl (rest := []) rfl (Nat.le_of_ble_eq_true rfl) dX4_tidy_46 ⟨Nat.zero_le _, Nat.zero_le _⟩ 0 rfl rfl rfl (pre := []) (post := []) (ws' := (wM ma cI 0 ((yTd u a9 9).1) ((yTd u a9 9).2) (ySv u sv z) (kM z + 1) t n dg)) rfl rfl ?_
      refine g_iload_n C dX4_tidy_49 1 rfl ?_
      refine g_isub C (v := (yAm ((yTd u a9 9).1)) - (yAm u)) dX4_tidy_50 rfl ?_
      exact g_iret C hret hlk dX4_tidy_51 rfl rfl
    | succ k ih =>
      intro q hn9 
      have hq9 : q < 9 := by omega
      refine g_iload_n C dX4_tidy_16 2 rfl ?_
      refine g_bipush C (v := 9) dX4_tidy_17 cb_9 ?_
      refine g_icmp_ge C (tgt := 45) dX4_tidy_19 (by decide) (fun h19_2 => absurd h19_2 (ge9 hq9)) (fun _ => ?_)
      refine g_aload_n C dX4_tidy_22 0 rfl ?_
      refine g_iconst C (v := 1) dX4_tidy_23 ci_1 ?_
      refine g_iload_n C dX4_tidy_24 2 rfl ?_
      refine g_iconst C (v := 0) dX4_tidy_25 ci_0 ?_
      refine g_callVi C (c_X4_tries_1 l D cI cO ma 0 ((yTd u a9 q).1) ((yTd u a9 q).2) (ySv u sv z) (kM z + 1) t n dg hn (by have := kM_lt hz; omega) q ((by omega)) 0) gX4_tidy_X4_tries rfl ⟨rfl, rfl⟩ hd_X4_tries ⟨Nat.le_of_ble_eq_true rfl, Nat.le_of_ble_eq_true rfl⟩ [0, 1] rfl (fun _ _ => trivial) rfl (rest := []) rfl (Nat.le_of_ble_eq_true rfl) dX4_tidy_26 ⟨Nat.zero_le _, Nat.zero_le _⟩ 0 rfl rfl rfl (pre := []) (post := []) (ws' := (wM ma cI 0 ((yT1 ((yTd u a9 q).1) q).2) ((yTd u a9 q).1) (ySv u sv z) (kM z + 1) t n dg)) rfl rfl ?_
      refine g_istore_n C (lv' := [(3, .int ((if (yT1 ((yTd u a9 q).1) q).1 = true then 1 else 0))), (0, .ref (ma 0)), (1, .int (yAm u)), (2, .int (nI q))]) dX4_tidy_29 rfl (by decide) rfl ?_
      refine g_aload_n C dX4_tidy_30 1 rfl ?_
      refine g_iconst C (v := 2) dX4_tidy_31 ci_2 ?_
      refine g_iload_n C dX4_tidy_32 3 rfl ?_
      refine g_iconst C (v := 0) dX4_tidy_33 ci_0 ?_
      refine g_callVi C (c_X4_tries_2 l D cI cO ma 0 ((yT1 ((yTd u a9 q).1) q).2) ((yTd u a9 q).1) (ySv u sv z) (kM z + 1) t n dg hn (by have := kM_lt hz; omega) q ((by omega)) 0) gX4_tidy_X4_tries rfl ⟨rfl, rfl⟩ hd_X4_tries ⟨Nat.le_of_ble_eq_true rfl, Nat.le_of_ble_eq_true rfl⟩ [0, 1] rfl (fun _ _ => trivial) rfl (rest := []) rfl (Nat.le_of_ble_eq_true rfl) dX4_tidy_34 ⟨Nat.zero_le _, Nat.zero_le _⟩ 0 rfl rfl rfl (pre := []) (post := []) (ws' := (wM ma cI 0 ((yT2 ((yT1 ((yTd u a9 q).1) q).2) q).2) ((yT1 ((yTd u a9 q).1) q).2) (ySv u sv z) (kM z + 1) t n dg)) rfl rfl ?_
      refine g_istore C (lv' := [(4, .int ((if (yT2 ((yT1 ((yTd u a9 q).1) q).2) q).1 = true then 1 else 0))), (3, .int ((if (yT1 ((yTd u a9 q).1) q).1 = true then 1 else 0))), (0, .ref (ma 0)), (1, .int (yAm u)), (2, .int (nI q))]) dX4_tidy_37 (by decide) rfl ?_
      refine g_iinc C (v := nI (q + 1)) (lv' := [(2, .int (nI (q + 1))), (4, .int ((if (yT2 ((yT1 ((yTd u a9 q).1) q).2) q).1 = true then 1 else 0))), (3, .int ((if (yT1 ((yTd u a9 q).1) q).1 = true then 1 else 0))), (0, .ref (ma 0)), (1, .int (yAm u))]) dX4_tidy_39 4 rfl (inc_nI _) (by decide) rfl ?_
      refine g_goto C (tgt := 16) dX4_tidy_42 (by decide) ?_
      refine g_lv [3, 4, 0] (lv' := [(0, .ref (ma 0)), (1, .int (yAm u)), (2, .int (nI (q + 1)))]) rfl ?_
      exact ih (q + 1) (by omega)
  refine g_aload_n C dX4_tidy_0 0 rfl ?_
  refine g_iconst C (v := 0) dX4_tidy_1 ci_0 ?_
  refine g_put C (ws' := (wM ma cI 0 u a9 sv z t n dg)) fl_X4_tidy_X4 tyX4 tyX4_ok nmX4 0 rfl rfl 0 (by decide) fw_X4_tidy_fld22 rfl (tyX4_ok 0 (by decide)) rfl rfl (Nat.le_of_ble_eq_true rfl) dX4_tidy_2 rfl ?_
  refine g_aload_n C dX4_tidy_5 0 rfl ?_
  refine g_callVv C (c_X4_save l D cI cO ma 0 u a9 sv z t n dg hn hz) gX4_tidy_X4_save rfl ⟨rfl, rfl⟩ hd_X4_save ⟨Nat.le_of_ble_eq_true rfl, Nat.le_of_ble_eq_true rfl⟩ [0, 1] rfl (fun _ _ => trivial) rfl (rest := []) rfl (Nat.le_of_ble_eq_true rfl) dX4_tidy_6 ⟨Nat.zero_le _, Nat.zero_le _⟩ 0 rfl rfl rfl (pre := []) (post := []) (ws' := (wM ma cI 0 u a9 (ySv u sv z) (kM z + 1) t n dg)) rfl rfl ?_
  refine g_aload_n C dX4_tidy_9 0 rfl ?_
  refine g_callVi C (c_X4_allMoves l D cI cO ma 0 u a9 (ySv u sv z) (kM z + 1) t n dg hn (by have := kM_lt hz; omega)) gX4_tidy_X4_allMoves rfl ⟨rfl, rfl⟩ hd_X4_allMoves ⟨Nat.le_of_ble_eq_true rfl, Nat.le_of_ble_eq_true rfl⟩ [0, 1] rfl (fun _ _ => trivial) rfl (rest := []) rfl (Nat.le_of_ble_eq_true rfl) dX4_tidy_10 ⟨Nat.zero_le _, Nat.zero_le _⟩ 0 rfl rfl rfl (pre := []) (post := []) (ws' := (wM ma cI 0 u a9 (ySv u sv z) (kM z + 1) t n dg)) rfl rfl ?_
  refine g_istore_n C (lv' := [(1, .int (yAm u)), (0, .ref (ma 0))]) dX4_tidy_13 rfl (by decide) rfl ?_
  refine g_iconst C (v := 0) dX4_tidy_14 ci_0 ?_
  refine g_istore_n C (lv' := [(2, .int 0), (1, .int (yAm u)), (0, .ref (ma 0))]) dX4_tidy_15 rfl (by decide) rfl ?_
  refine g_lv [2, 1, 0] (lv' := [(0, .ref (ma 0)), (1, .int (yAm u)), (2, .int 0)]) rfl ?_
  exact K 9 0 rfl
abbrev rmX4_append_1 : Room := { frames := 1, cells := 0, slots := 0, locals := 22 }
set_option maxHeartbeats 1000000 in
set_option maxRecDepth 100000 in
theorem c_X4_append_1 (l : Launch) (D : va_G) (cI cO : ClassId) (ma : Nat → Nat) (th : Int32) (u a9 sv : Nat → Int32) (z : Nat) (t : Nat → Int32) (n : Nat) (dg : Int64) (hn : n ≤ 60) (hz : z ≤ 6) (v : Int32) (h : v < 33 ∨ ¬ v ≤ 126) : cR (fun _ => True) l yX4_append wsX4_append rmX4_append_1 D vwCl (tyA cI cO) [.ref (ma 0), .int v] (wM ma cI th u a9 sv z t n dg) (some (.int 0)) (wM ma cI 1 u a9 sv z t n dg) := by
  refine cR_of (cc := cX4_append) (maxL := 2) (ret := (some .int)) (by decide) rfl (Nat.le_of_ble_eq_true rfl) ?_
  intro p e s m below meth c A C hret hlk hnm hF
  refine g_lv [0, 1] (lv' := [(0, .ref (ma 0)), (1, .int v)]) rfl ?_
  refine g_aload_n C dX4_append_0 0 rfl ?_
  refine g_iload_n C dX4_append_1 1 rfl ?_
  refine g_bipush C (v := 33) dX4_append_2 cb_33 ?_
  refine g_bipush C (v := 126) dX4_append_4 cb_126 ?_
  refine g_callSi C (c_X4_in l D cI cO v 33 126) gX4_append_X4_in rfl ⟨rfl, rfl⟩ hd_X4_in ⟨Nat.le_of_ble_eq_true rfl, Nat.le_of_ble_eq_true rfl⟩ [0, 1] rfl (fun _ _ => trivial) rfl (rest := [.ref (ma 0)]) rfl (Nat.le_of_ble_eq_true rfl) dX4_append_6 ⟨Nat.zero_le _, Nat.zero_le _⟩ (pre := []) (post := (wM ma cI th u a9 sv z t n dg)) (ws' := (wM ma cI th u a9 sv z t n dg)) rfl rfl ?_
  refine g_if_ne C (tgt := 16) dX4_append_9 (by decide) (fun h9_1 => absurd (bf (nin h)) h9_1) (fun _ => ?_)
  refine g_iconst C (v := 1) dX4_append_12 ci_1 ?_
  refine g_goto C (tgt := 30) dX4_append_13 (by decide) ?_
  refine g_callVi C (c_X4_holds l D cI cO ma th u a9 sv z t n dg hn hz 1) gX4_append_X4_holds rfl ⟨rfl, rfl⟩ hd_X4_holds ⟨Nat.le_of_ble_eq_true rfl, Nat.le_of_ble_eq_true rfl⟩ [0, 1] rfl (fun _ _ => trivial) rfl (rest := []) rfl (Nat.le_of_ble_eq_true rfl) dX4_append_30 ⟨Nat.zero_le _, Nat.zero_le _⟩ 0 rfl rfl rfl (pre := []) (post := []) (ws' := (wM ma cI 1 u a9 sv z t n dg)) rfl rfl ?_
  refine g_if_ne C (tgt := 38) dX4_append_33 (by decide) (fun h33_2 => absurd (by decide) h33_2) (fun _ => ?_)
  refine g_iconst C (v := 0) dX4_append_36 ci_0 ?_
  exact g_iret C hret hlk dX4_append_37 rfl rfl
theorem fw_X4_append_fld109 : Cond.fieldLink RX4 109 "StuckRodsModel" "length" "I" ∈ wsX4_append := (List.mem_cons_of_mem _ (List.mem_append_left _ (List.mem_of_getElem? (i := 0) rfl)))
theorem fl_X4_append_X4 : ∀ w ∈ wsX40, w ∈ wsX4_append := fun _ h => List.mem_cons_of_mem _ (List.mem_append_right _ h)
abbrev rmX4_append_2 : Room := { frames := 1, cells := 0, slots := 0, locals := 22 }
set_option maxHeartbeats 1000000 in
set_option maxRecDepth 100000 in
theorem c_X4_append_2 (l : Launch) (D : va_G) (cI cO : ClassId) (ma : Nat → Nat) (th : Int32) (u a9 sv : Nat → Int32) (z : Nat) (t : Nat → Int32) (n : Nat) (dg : Int64) (hn : n ≤ 60) (hz : z ≤ 6) (v : Int32) (h1 : ¬ v < 33) (h2 : v ≤ 126) (h : n = 60) : cR (fun _ => True) l yX4_append wsX4_append rmX4_append_2 D vwCl (tyA cI cO) [.ref (ma 0), .int v] (wM ma cI th u a9 sv z t n dg) (some (.int 0)) (wM ma cI 2 u a9 sv z t n dg) := by
  refine cR_of (cc := cX4_append) (maxL := 2) (ret := (some .int)) (by decide) rfl (Nat.le_of_ble_eq_true rfl) ?_
  intro p e s m below meth c A C hret hlk hnm hF
  refine g_lv [0, 1] (lv' := [(0, .ref (ma 0)), (1, .int v)]) rfl ?_
  refine g_aload_n C dX4_append_0 0 rfl ?_
  refine g_iload_n C dX4_append_1 1 rfl ?_
  refine g_bipush C (v := 33) dX4_append_2 cb_33 ?_
  refine g_bipush C (v := 126) dX4_append_4 cb_126 ?_
  refine g_callSi C (c_X4_in l D cI cO v 33 126) gX4_append_X4_in rfl ⟨rfl, rfl⟩ hd_X4_in ⟨Nat.le_of_ble_eq_true rfl, Nat.le_of_ble_eq_true rfl⟩ [0, 1] rfl (fun _ _ => trivial) rfl (rest := [.ref (ma 0)]) rfl (Nat.le_of_ble_eq_true rfl) dX4_append_6 ⟨Nat.zero_le _, Nat.zero_le _⟩ (pre := []) (post := (wM ma cI th u a9 sv z t n dg)) (ws' := (wM ma cI th u a9 sv z t n dg)) rfl rfl ?_
  refine g_if_ne C (tgt := 16) dX4_append_9 (by decide) (fun _ => ?_) (fun h9_1 => absurd h9_1 (bt (inp h1 h2)))
  refine g_aload_n C dX4_append_16 0 rfl ?_
  refine g_get C (v := .int (nI n)) fl_X4_append_X4 0 rfl rfl 6 (by decide) fw_X4_append_fld109 rfl dX4_append_17 ?_
  refine g_bipush C (v := 60) dX4_append_20 cb_60 ?_
  refine g_icmp_ne C (tgt := 29) dX4_append_22 (by decide) (fun h22_2 => absurd (by rw [h]; rfl) h22_2) (fun _ => ?_)
  refine g_iconst C (v := 2) dX4_append_25 ci_2 ?_
  refine g_goto C (tgt := 30) dX4_append_26 (by decide) ?_
  refine g_callVi C (c_X4_holds l D cI cO ma th u a9 sv z t n dg hn hz 2) gX4_append_X4_holds rfl ⟨rfl, rfl⟩ hd_X4_holds ⟨Nat.le_of_ble_eq_true rfl, Nat.le_of_ble_eq_true rfl⟩ [0, 1] rfl (fun _ _ => trivial) rfl (rest := []) rfl (Nat.le_of_ble_eq_true rfl) dX4_append_30 ⟨Nat.zero_le _, Nat.zero_le _⟩ 0 rfl rfl rfl (pre := []) (post := []) (ws' := (wM ma cI 2 u a9 sv z t n dg)) rfl rfl ?_
  refine g_if_ne C (tgt := 38) dX4_append_33 (by decide) (fun h33_3 => absurd (by decide) h33_3) (fun _ => ?_)
  refine g_iconst C (v := 0) dX4_append_36 ci_0 ?_
  exact g_iret C hret hlk dX4_append_37 rfl rfl
theorem fw_X4_append_fld19 : Cond.fieldLink RX4 19 "StuckRodsModel" "text" "[I" ∈ wsX4_append := (List.mem_cons_of_mem _ (List.mem_append_left _ (List.mem_of_getElem? (i := 1) rfl)))
abbrev rmX4_append : Room := { frames := 1, cells := 0, slots := 0, locals := 22 }
set_option maxHeartbeats 1000000 in
set_option maxRecDepth 100000 in
theorem c_X4_append (l : Launch) (D : va_G) (cI cO : ClassId) (ma : Nat → Nat) (th : Int32) (u a9 sv : Nat → Int32) (z : Nat) (t : Nat → Int32) (n : Nat) (dg : Int64) (hn : n ≤ 60) (hz : z ≤ 6) (v : Int32) (h1 : ¬ v < 33) (h2 : v ≤ 126) (h : n < 60) : cR (fun _ => True) l yX4_append wsX4_append rmX4_append D vwCl (tyA cI cO) [.ref (ma 0), .int v] (wM ma cI th u a9 sv z t n dg) (some (.int (nI (n + 1)))) (wM ma cI 0 u a9 sv z (upd t n v) (n + 1) dg) := by
  refine cR_of (cc := cX4_append) (maxL := 2) (ret := (some .int)) (by decide) rfl (Nat.le_of_ble_eq_true rfl) ?_
  intro p e s m below meth c A C hret hlk hnm hF
  refine g_lv [0, 1] (lv' := [(0, .ref (ma 0)), (1, .int v)]) rfl ?_
  refine g_aload_n C dX4_append_0 0 rfl ?_
  refine g_iload_n C dX4_append_1 1 rfl ?_
  refine g_bipush C (v := 33) dX4_append_2 cb_33 ?_
  refine g_bipush C (v := 126) dX4_append_4 cb_126 ?_
  refine g_callSi C (c_X4_in l D cI cO v 33 126) gX4_append_X4_in rfl ⟨rfl, rfl⟩ hd_X4_in ⟨Nat.le_of_ble_eq_true rfl, Nat.le_of_ble_eq_true rfl⟩ [0, 1] rfl (fun _ _ => trivial) rfl (rest := [.ref (ma 0)]) rfl (Nat.le_of_ble_eq_true rfl) dX4_append_6 ⟨Nat.zero_le _, Nat.zero_le _⟩ (pre := []) (post := (wM ma cI th u a9 sv z t n dg)) (ws' := (wM ma cI th u a9 sv z t n dg)) rfl rfl ?_
  refine g_if_ne C (tgt := 16) dX4_append_9 (by decide) (fun _ => ?_) (fun h9_1 => absurd h9_1 (bt (inp h1 h2)))
  refine g_aload_n C dX4_append_16 0 rfl ?_
  refine g_get C (v := .int (nI n)) fl_X4_append_X4 0 rfl rfl 6 (by decide) fw_X4_append_fld109 rfl dX4_append_17 ?_
  refine g_bipush C (v := 60) dX4_append_20 cb_60 ?_
  refine g_icmp_ne C (tgt := 29) dX4_append_22 (by decide) (fun _ => ?_) (fun h22_2 => absurd h22_2 (fun q => absurd ((nI_eq (b := 60) (by omega) (by decide)).mp q) (by omega)))
  refine g_iconst C (v := 0) dX4_append_29 ci_0 ?_
  refine g_callVi C (c_X4_holds l D cI cO ma th u a9 sv z t n dg hn hz 0) gX4_append_X4_holds rfl ⟨rfl, rfl⟩ hd_X4_holds ⟨Nat.le_of_ble_eq_true rfl, Nat.le_of_ble_eq_true rfl⟩ [0, 1] rfl (fun _ _ => trivial) rfl (rest := []) rfl (Nat.le_of_ble_eq_true rfl) dX4_append_30 ⟨Nat.zero_le _, Nat.zero_le _⟩ 0 rfl rfl rfl (pre := []) (post := []) (ws' := (wM ma cI 0 u a9 sv z t n dg)) rfl rfl ?_
  refine g_if_ne C (tgt := 38) dX4_append_33 (by decide) (fun _ => ?_) (fun h33_3 => absurd h33_3 (by decide))
  refine g_aload_n C dX4_append_38 0 rfl ?_
  refine g_get C (v := .ref (ma 4)) fl_X4_append_X4 0 rfl rfl 5 (by decide) fw_X4_append_fld19 rfl dX4_append_39 ?_
  refine g_aload_n C dX4_append_42 0 rfl ?_
  refine g_get C (v := .int (nI n)) fl_X4_append_X4 0 rfl rfl 6 (by decide) fw_X4_append_fld109 rfl dX4_append_43 ?_
  refine g_iload_n C dX4_append_46 1 rfl ?_
  refine g_iast C (ws' := (wM ma cI 0 u a9 sv z (upd t n v) n dg)) 4 0 rfl rfl n rfl h (by decide) dX4_append_47 rfl ?_
  refine g_aload_n C dX4_append_48 0 rfl ?_
  refine g_dup C dX4_append_49 rfl ?_
  refine g_get C (v := .int (nI n)) fl_X4_append_X4 0 rfl rfl 6 (by decide) fw_X4_append_fld109 rfl dX4_append_50 ?_
  refine g_iconst C (v := 1) dX4_append_53 ci_1 ?_
  refine g_iadd C (v := nI (n + 1)) dX4_append_54 (nI_1 _) ?_
  refine g_put C (ws' := (wM ma cI 0 u a9 sv z (upd t n v) (n + 1) dg)) fl_X4_append_X4 tyX4 tyX4_ok nmX4 0 rfl rfl 6 (by decide) fw_X4_append_fld109 rfl (tyX4_ok 6 (by decide)) rfl rfl (Nat.le_of_ble_eq_true rfl) dX4_append_55 rfl ?_
  refine g_aload_n C dX4_append_58 0 rfl ?_
  refine g_get C (v := .int (nI (n + 1))) fl_X4_append_X4 0 rfl rfl 6 (by decide) fw_X4_append_fld109 rfl dX4_append_59 ?_
  exact g_iret C hret hlk dX4_append_62 rfl rfl
theorem fw_X4_clearBuffer_fld22 : Cond.fieldLink RX4 22 "StuckRodsModel" "thrown" "I" ∈ wsX4_clearBuffer := (List.mem_cons_of_mem _ (List.mem_append_left _ (List.mem_of_getElem? (i := 0) rfl)))
theorem fl_X4_clearBuffer_X4 : ∀ w ∈ wsX40, w ∈ wsX4_clearBuffer := fun _ h => List.mem_cons_of_mem _ (List.mem_append_right _ h)
theorem fw_X4_clearBuffer_fld109 : Cond.fieldLink RX4 109 "StuckRodsModel" "length" "I" ∈ wsX4_clearBuffer := (List.mem_cons_of_mem _ (List.mem_append_left _ (List.mem_of_getElem? (i := 1) rfl)))
abbrev rmX4_clearBuffer : Room := { frames := 0, cells := 0, slots := 0, locals := 0 }
set_option maxHeartbeats 1000000 in
set_option maxRecDepth 100000 in
theorem c_X4_clearBuffer (l : Launch) (D : va_G) (cI cO : ClassId) (ma : Nat → Nat) (th : Int32) (u a9 sv : Nat → Int32) (z : Nat) (t : Nat → Int32) (n : Nat) (dg : Int64) (hn : n ≤ 60) (hz : z ≤ 6)  : cR (fun _ => True) l yX4_clearBuffer wsX4_clearBuffer rmX4_clearBuffer D vwCl (tyA cI cO) [.ref (ma 0)] (wM ma cI th u a9 sv z t n dg) (some (.int (nI n))) (wM ma cI 0 u a9 sv z t 0 dg) := by
  refine cR_of (cc := cX4_clearBuffer) (maxL := 2) (ret := (some .int)) (by decide) rfl (Nat.le_of_ble_eq_true rfl) ?_
  intro p e s m below meth c A C hret hlk hnm hF
  refine g_lv [0] (lv' := [(0, .ref (ma 0))]) rfl ?_
  refine g_aload_n C dX4_clearBuffer_0 0 rfl ?_
  refine g_iconst C (v := 0) dX4_clearBuffer_1 ci_0 ?_
  refine g_put C (ws' := (wM ma cI 0 u a9 sv z t n dg)) fl_X4_clearBuffer_X4 tyX4 tyX4_ok nmX4 0 rfl rfl 0 (by decide) fw_X4_clearBuffer_fld22 rfl (tyX4_ok 0 (by decide)) rfl rfl (Nat.le_of_ble_eq_true rfl) dX4_clearBuffer_2 rfl ?_
  refine g_aload_n C dX4_clearBuffer_5 0 rfl ?_
  refine g_get C (v := .int (nI n)) fl_X4_clearBuffer_X4 0 rfl rfl 6 (by decide) fw_X4_clearBuffer_fld109 rfl dX4_clearBuffer_6 ?_
  refine g_istore_n C (lv' := [(1, .int (nI n)), (0, .ref (ma 0))]) dX4_clearBuffer_9 rfl (by decide) rfl ?_
  refine g_aload_n C dX4_clearBuffer_10 1 rfl ?_
  refine g_iconst C (v := 0) dX4_clearBuffer_11 ci_0 ?_
  refine g_put C (ws' := (wM ma cI 0 u a9 sv z t 0 dg)) fl_X4_clearBuffer_X4 tyX4 tyX4_ok nmX4 0 rfl rfl 6 (by decide) fw_X4_clearBuffer_fld109 rfl (tyX4_ok 6 (by decide)) rfl rfl (Nat.le_of_ble_eq_true rfl) dX4_clearBuffer_12 rfl ?_
  refine g_iload_n C dX4_clearBuffer_15 0 rfl ?_
  exact g_iret C hret hlk dX4_clearBuffer_16 rfl rfl
theorem fw_X4_wrong_fld109 : Cond.fieldLink RX4 109 "StuckRodsModel" "length" "I" ∈ wsX4_wrong := (List.mem_cons_of_mem _ (List.mem_append_left _ (List.mem_of_getElem? (i := 0) rfl)))
theorem fl_X4_wrong_X4 : ∀ w ∈ wsX40, w ∈ wsX4_wrong := fun _ h => List.mem_cons_of_mem _ (List.mem_append_right _ h)
theorem fw_X4_wrong_fld19 : Cond.fieldLink RX4 19 "StuckRodsModel" "text" "[I" ∈ wsX4_wrong := (List.mem_cons_of_mem _ (List.mem_append_left _ (List.mem_of_getElem? (i := 1) rfl)))
abbrev rmX4_wrong : Room := { frames := 1, cells := 0, slots := 0, locals := 22 }
set_option maxHeartbeats 1000000 in
set_option maxRecDepth 100000 in
theorem c_X4_wrong (l : Launch) (D : va_G) (cI cO : ClassId) (ma : Nat → Nat) (th : Int32) (u a9 sv : Nat → Int32) (z : Nat) (t : Nat → Int32) (n : Nat) (dg : Int64) (hn : n ≤ 60) (hz : z ≤ 6)  : cR (fun _ => True) l yX4_wrong wsX4_wrong rmX4_wrong D vwCl (tyA cI cO) [.ref (ma 0)] (wM ma cI th u a9 sv z t n dg) (some (.int (yWR t n))) (wM ma cI th u a9 sv z t n dg) := by
  refine cR_of (cc := cX4_wrong) (maxL := 7) (ret := (some .int)) (by decide) rfl (Nat.le_of_ble_eq_true rfl) ?_
  intro p e s m below meth c A C hret hlk hnm hF
  refine g_lv [0] (lv' := [(0, .ref (ma 0))]) rfl ?_
  have K : ∀ (k i : Nat), k + i = n → ∀ d b : Int32, yWr t n k i d b = yWR t n → gG p l e rmX4_wrong s m ([.ref (ma 0)] : List Value).toArray below meth c D vwCl A s.heap 7 (MQ below (cQ (some (.int (yWR t n))) (cB D vwCl (tyA cI cO) A (wM ma cI th u a9 sv z t n dg)) A) ([.ref (ma 0)] : List Value).toArray s 0 0 A) 0 0 (wM ma cI th u a9 sv z t n dg) 6 [(0, .ref (ma 0)), (1, .int d), (2, .int b), (3, .int (nI i))] [] := by
    intro k
    induction k with
    | zero =>
      intro i hi d b hq
      refine g_iload_n C dX4_wrong_6 3 rfl ?_
      refine g_aload_n C dX4_wrong_7 0 rfl ?_
      refine g_get C (v := .int (nI n)) fl_X4_wrong_X4 0 rfl rfl 6 (by decide) fw_X4_wrong_fld109 rfl dX4_wrong_8 ?_
      refine g_icmp_ge C (tgt := 149) dX4_wrong_11 (by decide) (fun _ => ?_) (fun h11_1 => absurd (leI (by omega) (by omega)) h11_1)
      refine g_aload_n C dX4_wrong_149 0 rfl ?_
      refine g_get C (v := .int (nI n)) fl_X4_wrong_X4 0 rfl rfl 6 (by decide) fw_X4_wrong_fld109 rfl dX4_wrong_150 ?_
      exact g_iret C hret hlk dX4_wrong_153 hq rfl
    | succ k ih =>
      intro i hi d b hq
      refine g_iload_n C dX4_wrong_6 3 rfl ?_
      refine g_aload_n C dX4_wrong_7 0 rfl ?_
      refine g_get C (v := .int (nI n)) fl_X4_wrong_X4 0 rfl rfl 6 (by decide) fw_X4_wrong_fld109 rfl dX4_wrong_8 ?_
      refine g_icmp_ge C (tgt := 149) dX4_wrong_11 (by decide) (fun h11_2 => absurd h11_2 (nleI (by omega) (by omega))) (fun _ => ?_)
      refine g_aload_n C dX4_wrong_14 0 rfl ?_
      refine g_get C (v := .ref (ma 4)) fl_X4_wrong_X4 0 rfl rfl 5 (by decide) fw_X4_wrong_fld19 rfl dX4_wrong_15 ?_
      refine g_iload_n C dX4_wrong_18 3 rfl ?_
      refine g_iald C (x := t i) 4 0 rfl rfl i rfl (by omega) (by decide) rfl dX4_wrong_19 ?_
      refine g_istore C (lv' := [(4, .int (t i)), (0, .ref (ma 0)), (1, .int d), (2, .int b), (3, .int (nI i))]) dX4_wrong_20 (by decide) rfl ?_
      refine g_iload C dX4_wrong_22 0 rfl ?_
      refine g_bipush C (v := 43) dX4_wrong_24 cb_43 ?_
      refine g_icmp_eq C (tgt := 36) dX4_wrong_26 (by decide) (fun h26_3 => ?_) (fun h26_3 => ?_)
      · refine g_iconst C (v := 1) dX4_wrong_36 ci_1 ?_
        refine g_goto C (tgt := 41) dX4_wrong_37 (by decide) ?_
        refine g_istore C (lv' := [(5, .int 1), (4, .int (t i)), (0, .ref (ma 0)), (1, .int d), (2, .int b), (3, .int (nI i))]) dX4_wrong_41 (by decide) rfl ?_
        refine g_iload C dX4_wrong_43 0 rfl ?_
        refine g_if_eq C (tgt := 64) dX4_wrong_45 (by decide) (fun h45_4 => absurd h45_4 (by decide)) (fun _ => ?_)
        refine g_iload_n C dX4_wrong_48 5 rfl ?_
        refine g_if_eq C (tgt := 56) dX4_wrong_49 (by decide) (fun h49_5 => ?_) (fun h49_5 => ?_)
        · refine g_iconst C (v := 1) dX4_wrong_56 ci_1 ?_
          refine g_goto C (tgt := 95) dX4_wrong_57 (by decide) ?_
          refine g_istore C (lv' := [(6, .int 1), (5, .int 1), (4, .int (t i)), (0, .ref (ma 0)), (1, .int d), (2, .int b), (3, .int (nI i))]) dX4_wrong_95 (by decide) rfl ?_
          refine g_iload C dX4_wrong_97 0 rfl ?_
          refine g_if_ne C (tgt := 104) dX4_wrong_99 (by decide) (fun _ => ?_) (fun h99_6 => absurd h99_6 (by decide))
          refine g_iload C dX4_wrong_104 1 rfl ?_
          refine g_if_ne C (tgt := 128) dX4_wrong_106 (by decide) (fun _ => ?_) (fun h106_7 => absurd h106_7 (by decide))
          refine g_iconst C (v := 0) dX4_wrong_128 ci_0 ?_
          refine g_istore_n C (lv' := [(2, .int 0), (6, .int 1), (5, .int 1), (4, .int (t i)), (0, .ref (ma 0)), (1, .int d), (3, .int (nI i))]) dX4_wrong_129 rfl (by decide) rfl ?_
          refine g_iload C dX4_wrong_130 2 rfl ?_
          refine g_if_eq C (tgt := 139) dX4_wrong_132 (by decide) (fun h132_8 => absurd h132_8 (by decide)) (fun _ => ?_)
          refine g_iconst C (v := 0) dX4_wrong_135 ci_0 ?_
          refine g_goto C (tgt := 142) dX4_wrong_136 (by decide) ?_
          refine g_istore_n C (lv' := [(1, .int 0), (2, .int 0), (6, .int 1), (5, .int 1), (4, .int (t i)), (0, .ref (ma 0)), (3, .int (nI i))]) dX4_wrong_142 rfl (by decide) rfl ?_
          refine g_iinc C (v := nI (i + 1)) (lv' := [(3, .int (nI (i + 1))), (1, .int 0), (2, .int 0), (6, .int 1), (5, .int 1), (4, .int (t i)), (0, .ref (ma 0))]) dX4_wrong_143 6 rfl (inc_nI _) (by decide) rfl ?_
          refine g_goto C (tgt := 6) dX4_wrong_146 (by decide) ?_
          refine g_lv [6, 1, 2, 0] (lv' := [(0, .ref (ma 0)), (1, .int 0), (2, .int 0), (3, .int (nI (i + 1)))]) rfl ?_
          exact ih (i + 1) (by omega) _ _ (by rw [← hq]; simp only [yWr, sg, eq_true h26_3, eq_true h49_5, Bool.false_eq_true, not_false_eq_true, not_true_eq_false, and_self, and_true, true_and, and_false, false_and, or_true, true_or, or_false, false_or, or_self, if_true, if_false, eq_self, ite_true, ite_false, reduceIte])
        · refine g_iload_n C dX4_wrong_52 3 rfl ?_
          refine g_if_le C (tgt := 60) dX4_wrong_53 (by decide) (fun h53_9 => ?_) (fun h53_9 => ?_)
          · refine g_iconst C (v := 0) dX4_wrong_60 ci_0 ?_
            refine g_goto C (tgt := 95) dX4_wrong_61 (by decide) ?_
            refine g_istore C (lv' := [(6, .int 0), (5, .int 1), (4, .int (t i)), (0, .ref (ma 0)), (1, .int d), (2, .int b), (3, .int (nI i))]) dX4_wrong_95 (by decide) rfl ?_
            refine g_iload C dX4_wrong_97 0 rfl ?_
            refine g_if_ne C (tgt := 104) dX4_wrong_99 (by decide) (fun h99_10 => absurd (by decide) h99_10) (fun _ => ?_)
            refine g_iload_n C dX4_wrong_102 6 rfl ?_
            exact g_iret C hret hlk dX4_wrong_103 (by rw [← hq]; simp only [yWr, sg, eq_true h26_3, h49_5, eq_true h53_9, Bool.false_eq_true, not_false_eq_true, not_true_eq_false, and_self, and_true, true_and, and_false, false_and, or_true, true_or, or_false, false_or, or_self, if_true, if_false, eq_self, ite_true, ite_false, reduceIte]) rfl
          · refine g_iconst C (v := 1) dX4_wrong_56 ci_1 ?_
            refine g_goto C (tgt := 95) dX4_wrong_57 (by decide) ?_
            refine g_istore C (lv' := [(6, .int 1), (5, .int 1), (4, .int (t i)), (0, .ref (ma 0)), (1, .int d), (2, .int b), (3, .int (nI i))]) dX4_wrong_95 (by decide) rfl ?_
            refine g_iload C dX4_wrong_97 0 rfl ?_
            refine g_if_ne C (tgt := 104) dX4_wrong_99 (by decide) (fun _ => ?_) (fun h99_11 => absurd h99_11 (by decide))
            refine g_iload C dX4_wrong_104 1 rfl ?_
            refine g_if_ne C (tgt := 128) dX4_wrong_106 (by decide) (fun _ => ?_) (fun h106_12 => absurd h106_12 (by decide))
            refine g_iconst C (v := 0) dX4_wrong_128 ci_0 ?_
            refine g_istore_n C (lv' := [(2, .int 0), (6, .int 1), (5, .int 1), (4, .int (t i)), (0, .ref (ma 0)), (1, .int d), (3, .int (nI i))]) dX4_wrong_129 rfl (by decide) rfl ?_
            refine g_iload C dX4_wrong_130 2 rfl ?_
            refine g_if_eq C (tgt := 139) dX4_wrong_132 (by decide) (fun h132_13 => absurd h132_13 (by decide)) (fun _ => ?_)
            refine g_iconst C (v := 0) dX4_wrong_135 ci_0 ?_
            refine g_goto C (tgt := 142) dX4_wrong_136 (by decide) ?_
            refine g_istore_n C (lv' := [(1, .int 0), (2, .int 0), (6, .int 1), (5, .int 1), (4, .int (t i)), (0, .ref (ma 0)), (3, .int (nI i))]) dX4_wrong_142 rfl (by decide) rfl ?_
            refine g_iinc C (v := nI (i + 1)) (lv' := [(3, .int (nI (i + 1))), (1, .int 0), (2, .int 0), (6, .int 1), (5, .int 1), (4, .int (t i)), (0, .ref (ma 0))]) dX4_wrong_143 6 rfl (inc_nI _) (by decide) rfl ?_
            refine g_goto C (tgt := 6) dX4_wrong_146 (by decide) ?_
            refine g_lv [6, 1, 2, 0] (lv' := [(0, .ref (ma 0)), (1, .int 0), (2, .int 0), (3, .int (nI (i + 1)))]) rfl ?_
            exact ih (i + 1) (by omega) _ _ (by rw [← hq]; simp only [yWr, sg, eq_true h26_3, h49_5, h53_9, Bool.false_eq_true, not_false_eq_true, not_true_eq_false, and_self, and_true, true_and, and_false, false_and, or_true, true_or, or_false, false_or, or_self, if_true, if_false, eq_self, ite_true, ite_false, reduceIte])
      · refine g_iload C dX4_wrong_29 0 rfl ?_
        refine g_bipush C (v := 45) dX4_wrong_31 cb_45 ?_
        refine g_icmp_ne C (tgt := 40) dX4_wrong_33 (by decide) (fun h33_14 => ?_) (fun h33_14 => ?_)
        · refine g_iconst C (v := 0) dX4_wrong_40 ci_0 ?_
          refine g_istore C (lv' := [(5, .int 0), (4, .int (t i)), (0, .ref (ma 0)), (1, .int d), (2, .int b), (3, .int (nI i))]) dX4_wrong_41 (by decide) rfl ?_
          refine g_iload C dX4_wrong_43 0 rfl ?_
          refine g_if_eq C (tgt := 64) dX4_wrong_45 (by decide) (fun _ => ?_) (fun h45_15 => absurd (by decide) h45_15)
          refine g_iload C dX4_wrong_64 1 rfl ?_
          refine g_bipush C (v := 48) dX4_wrong_66 cb_48 ?_
          refine g_bipush C (v := 57) dX4_wrong_68 cb_57 ?_
          refine g_callSi C (c_X4_in l D cI cO (t i) 48 57) gX4_wrong_X4_in rfl ⟨rfl, rfl⟩ hd_X4_in ⟨Nat.le_of_ble_eq_true rfl, Nat.le_of_ble_eq_true rfl⟩ [0, 1] rfl (fun _ _ => trivial) rfl (rest := []) rfl (Nat.le_of_ble_eq_true rfl) dX4_wrong_70 ⟨Nat.zero_le _, Nat.zero_le _⟩ (pre := []) (post := (wM ma cI th u a9 sv z t n dg)) (ws' := (wM ma cI th u a9 sv z t n dg)) rfl rfl ?_
          refine g_if_eq C (tgt := 94) dX4_wrong_73 (by decide) (fun h73_16 => ?_) (fun h73_16 => ?_)
          · have h73_16 := bz h73_16
            refine g_iconst C (v := 0) dX4_wrong_94 ci_0 ?_
            refine g_istore C (lv' := [(6, .int 0), (5, .int 0), (4, .int (t i)), (0, .ref (ma 0)), (1, .int d), (2, .int b), (3, .int (nI i))]) dX4_wrong_95 (by decide) rfl ?_
            refine g_iload C dX4_wrong_97 0 rfl ?_
            refine g_if_ne C (tgt := 104) dX4_wrong_99 (by decide) (fun h99_17 => absurd (by decide) h99_17) (fun _ => ?_)
            refine g_iload_n C dX4_wrong_102 6 rfl ?_
            exact g_iret C hret hlk dX4_wrong_103 (by rw [← hq]; simp only [yWr, sg, h26_3, h33_14, h73_16, Bool.false_eq_true, not_false_eq_true, not_true_eq_false, and_self, and_true, true_and, and_false, false_and, or_true, true_or, or_false, false_or, or_self, if_true, if_false, eq_self, ite_true, ite_false, reduceIte]) rfl
          · have h73_16 := bnz h73_16
            refine g_iload_n C dX4_wrong_76 5 rfl ?_
            refine g_if_le C (tgt := 94) dX4_wrong_77 (by decide) (fun h77_18 => ?_) (fun h77_18 => ?_)
            · refine g_iconst C (v := 0) dX4_wrong_94 ci_0 ?_
              refine g_istore C (lv' := [(6, .int 0), (5, .int 0), (4, .int (t i)), (0, .ref (ma 0)), (1, .int d), (2, .int b), (3, .int (nI i))]) dX4_wrong_95 (by decide) rfl ?_
              refine g_iload C dX4_wrong_97 0 rfl ?_
              refine g_if_ne C (tgt := 104) dX4_wrong_99 (by decide) (fun h99_19 => absurd (by decide) h99_19) (fun _ => ?_)
              refine g_iload_n C dX4_wrong_102 6 rfl ?_
              exact g_iret C hret hlk dX4_wrong_103 (by rw [← hq]; simp only [yWr, sg, h26_3, h33_14, eq_true h73_16, eq_true h77_18, Bool.false_eq_true, not_false_eq_true, not_true_eq_false, and_self, and_true, true_and, and_false, false_and, or_true, true_or, or_false, false_or, or_self, if_true, if_false, eq_self, ite_true, ite_false, reduceIte]) rfl
            · refine g_iload_n C dX4_wrong_80 3 rfl ?_
              refine g_bipush C (v := 6) dX4_wrong_81 cb_6 ?_
              refine g_icmp_ge C (tgt := 94) dX4_wrong_83 (by decide) (fun h83_20 => ?_) (fun h83_20 => ?_)
              · refine g_iconst C (v := 0) dX4_wrong_94 ci_0 ?_
                refine g_istore C (lv' := [(6, .int 0), (5, .int 0), (4, .int (t i)), (0, .ref (ma 0)), (1, .int d), (2, .int b), (3, .int (nI i))]) dX4_wrong_95 (by decide) rfl ?_
                refine g_iload C dX4_wrong_97 0 rfl ?_
                refine g_if_ne C (tgt := 104) dX4_wrong_99 (by decide) (fun h99_21 => absurd (by decide) h99_21) (fun _ => ?_)
                refine g_iload_n C dX4_wrong_102 6 rfl ?_
                exact g_iret C hret hlk dX4_wrong_103 (by rw [← hq]; simp only [yWr, sg, h26_3, h33_14, eq_true h73_16, h77_18, eq_true h83_20, Bool.false_eq_true, not_false_eq_true, not_true_eq_false, and_self, and_true, true_and, and_false, false_and, or_true, true_or, or_false, false_or, or_self, if_true, if_false, eq_self, ite_true, ite_false, reduceIte]) rfl
              · refine g_iload_n C dX4_wrong_86 4 rfl ?_
                refine g_if_ne C (tgt := 94) dX4_wrong_87 (by decide) (fun h87_22 => ?_) (fun h87_22 => ?_)
                · refine g_iconst C (v := 0) dX4_wrong_94 ci_0 ?_
                  refine g_istore C (lv' := [(6, .int 0), (5, .int 0), (4, .int (t i)), (0, .ref (ma 0)), (1, .int d), (2, .int b), (3, .int (nI i))]) dX4_wrong_95 (by decide) rfl ?_
                  refine g_iload C dX4_wrong_97 0 rfl ?_
                  refine g_if_ne C (tgt := 104) dX4_wrong_99 (by decide) (fun h99_23 => absurd (by decide) h99_23) (fun _ => ?_)
                  refine g_iload_n C dX4_wrong_102 6 rfl ?_
                  exact g_iret C hret hlk dX4_wrong_103 (by rw [← hq]; simp only [yWr, sg, h26_3, h33_14, eq_true h73_16, h77_18, h83_20, h87_22, Bool.false_eq_true, not_false_eq_true, not_true_eq_false, and_self, and_true, true_and, and_false, false_and, or_true, true_or, or_false, false_or, or_self, if_true, if_false, eq_self, ite_true, ite_false, reduceIte]) rfl
                · refine g_iconst C (v := 1) dX4_wrong_90 ci_1 ?_
                  refine g_goto C (tgt := 95) dX4_wrong_91 (by decide) ?_
                  refine g_istore C (lv' := [(6, .int 1), (5, .int 0), (4, .int (t i)), (0, .ref (ma 0)), (1, .int d), (2, .int b), (3, .int (nI i))]) dX4_wrong_95 (by decide) rfl ?_
                  refine g_iload C dX4_wrong_97 0 rfl ?_
                  refine g_if_ne C (tgt := 104) dX4_wrong_99 (by decide) (fun _ => ?_) (fun h99_24 => absurd h99_24 (by decide))
                  refine g_iload C dX4_wrong_104 1 rfl ?_
                  refine g_if_ne C (tgt := 128) dX4_wrong_106 (by decide) (fun h106_25 => absurd (by decide) h106_25) (fun _ => ?_)
                  refine g_iload_n C dX4_wrong_109 5 rfl ?_
                  refine g_if_ne C (tgt := 124) dX4_wrong_110 (by decide) (fun h110_26 => absurd h87_22 h110_26) (fun _ => ?_)
                  refine g_iload_n C dX4_wrong_113 4 rfl ?_
                  refine g_if_ne C (tgt := 128) dX4_wrong_114 (by decide) (fun h114_27 => ?_) (fun h114_27 => ?_)
                  · refine g_iconst C (v := 0) dX4_wrong_128 ci_0 ?_
                    refine g_istore_n C (lv' := [(2, .int 0), (6, .int 1), (5, .int 0), (4, .int (t i)), (0, .ref (ma 0)), (1, .int d), (3, .int (nI i))]) dX4_wrong_129 rfl (by decide) rfl ?_
                    refine g_iload C dX4_wrong_130 2 rfl ?_
                    refine g_if_eq C (tgt := 139) dX4_wrong_132 (by decide) (fun _ => ?_) (fun h132_28 => absurd (by decide) h132_28)
                    refine g_iload_n C dX4_wrong_139 5 rfl ?_
                    refine g_iconst C (v := 1) dX4_wrong_140 ci_1 ?_
                    refine g_iadd C (v := d + 1) dX4_wrong_141 rfl ?_
                    refine g_istore_n C (lv' := [(1, .int (d + 1)), (2, .int 0), (6, .int 1), (5, .int 0), (4, .int (t i)), (0, .ref (ma 0)), (3, .int (nI i))]) dX4_wrong_142 rfl (by decide) rfl ?_
                    refine g_iinc C (v := nI (i + 1)) (lv' := [(3, .int (nI (i + 1))), (1, .int (d + 1)), (2, .int 0), (6, .int 1), (5, .int 0), (4, .int (t i)), (0, .ref (ma 0))]) dX4_wrong_143 6 rfl (inc_nI _) (by decide) rfl ?_
                    refine g_goto C (tgt := 6) dX4_wrong_146 (by decide) ?_
                    refine g_lv [6, 1, 2, 0] (lv' := [(0, .ref (ma 0)), (1, .int (d + 1)), (2, .int 0), (3, .int (nI (i + 1)))]) rfl ?_
                    exact ih (i + 1) (by omega) _ _ (by rw [← hq]; simp only [yWr, sg, h26_3, h33_14, eq_true h73_16, h77_18, h83_20, eq_true h87_22, h114_27, Bool.false_eq_true, not_false_eq_true, not_true_eq_false, and_self, and_true, true_and, and_false, false_and, or_true, true_or, or_false, false_or, or_self, if_true, if_false, eq_self, ite_true, ite_false, reduceIte])
                  · refine g_iload C dX4_wrong_117 2 rfl ?_
                    refine g_bipush C (v := 48) dX4_wrong_119 cb_48 ?_
                    refine g_icmp_ne C (tgt := 128) dX4_wrong_121 (by decide) (fun h121_29 => ?_) (fun h121_29 => ?_)
                    · refine g_iconst C (v := 0) dX4_wrong_128 ci_0 ?_
                      refine g_istore_n C (lv' := [(2, .int 0), (6, .int 1), (5, .int 0), (4, .int (t i)), (0, .ref (ma 0)), (1, .int d), (3, .int (nI i))]) dX4_wrong_129 rfl (by decide) rfl ?_
                      refine g_iload C dX4_wrong_130 2 rfl ?_
                      refine g_if_eq C (tgt := 139) dX4_wrong_132 (by decide) (fun _ => ?_) (fun h132_30 => absurd (by decide) h132_30)
                      refine g_iload_n C dX4_wrong_139 5 rfl ?_
                      refine g_iconst C (v := 1) dX4_wrong_140 ci_1 ?_
                      refine g_iadd C (v := d + 1) dX4_wrong_141 rfl ?_
                      refine g_istore_n C (lv' := [(1, .int (d + 1)), (2, .int 0), (6, .int 1), (5, .int 0), (4, .int (t i)), (0, .ref (ma 0)), (3, .int (nI i))]) dX4_wrong_142 rfl (by decide) rfl ?_
                      refine g_iinc C (v := nI (i + 1)) (lv' := [(3, .int (nI (i + 1))), (1, .int (d + 1)), (2, .int 0), (6, .int 1), (5, .int 0), (4, .int (t i)), (0, .ref (ma 0))]) dX4_wrong_143 6 rfl (inc_nI _) (by decide) rfl ?_
                      refine g_goto C (tgt := 6) dX4_wrong_146 (by decide) ?_
                      refine g_lv [6, 1, 2, 0] (lv' := [(0, .ref (ma 0)), (1, .int (d + 1)), (2, .int 0), (3, .int (nI (i + 1)))]) rfl ?_
                      exact ih (i + 1) (by omega) _ _ (by rw [← hq]; simp only [yWr, sg, h26_3, h33_14, eq_true h73_16, h77_18, h83_20, eq_true h87_22, eq_true h114_27, h121_29, Bool.false_eq_true, not_false_eq_true, not_true_eq_false, and_self, and_true, true_and, and_false, false_and, or_true, true_or, or_false, false_or, or_self, if_true, if_false, eq_self, ite_true, ite_false, reduceIte])
                    · refine g_iconst C (v := 1) dX4_wrong_124 ci_1 ?_
                      refine g_goto C (tgt := 129) dX4_wrong_125 (by decide) ?_
                      refine g_istore_n C (lv' := [(2, .int 1), (6, .int 1), (5, .int 0), (4, .int (t i)), (0, .ref (ma 0)), (1, .int d), (3, .int (nI i))]) dX4_wrong_129 rfl (by decide) rfl ?_
                      refine g_iload C dX4_wrong_130 2 rfl ?_
                      refine g_if_eq C (tgt := 139) dX4_wrong_132 (by decide) (fun _ => ?_) (fun h132_31 => absurd (by decide) h132_31)
                      refine g_iload_n C dX4_wrong_139 5 rfl ?_
                      refine g_iconst C (v := 1) dX4_wrong_140 ci_1 ?_
                      refine g_iadd C (v := d + 1) dX4_wrong_141 rfl ?_
                      refine g_istore_n C (lv' := [(1, .int (d + 1)), (2, .int 1), (6, .int 1), (5, .int 0), (4, .int (t i)), (0, .ref (ma 0)), (3, .int (nI i))]) dX4_wrong_142 rfl (by decide) rfl ?_
                      refine g_iinc C (v := nI (i + 1)) (lv' := [(3, .int (nI (i + 1))), (1, .int (d + 1)), (2, .int 1), (6, .int 1), (5, .int 0), (4, .int (t i)), (0, .ref (ma 0))]) dX4_wrong_143 6 rfl (inc_nI _) (by decide) rfl ?_
                      refine g_goto C (tgt := 6) dX4_wrong_146 (by decide) ?_
                      refine g_lv [6, 1, 2, 0] (lv' := [(0, .ref (ma 0)), (1, .int (d + 1)), (2, .int 1), (3, .int (nI (i + 1)))]) rfl ?_
                      exact ih (i + 1) (by omega) _ _ (by rw [← hq]; simp only [yWr, sg, h26_3, h33_14, eq_true h73_16, h77_18, h83_20, eq_true h87_22, eq_true h114_27, eq_true h121_29, Bool.false_eq_true, not_false_eq_true, not_true_eq_false, and_self, and_true, true_and, and_false, false_and, or_true, true_or, or_false, false_or, or_self, if_true, if_false, eq_self, ite_true, ite_false, reduceIte])
        · refine g_iconst C (v := 1) dX4_wrong_36 ci_1 ?_
          refine g_goto C (tgt := 41) dX4_wrong_37 (by decide) ?_
          refine g_istore C (lv' := [(5, .int 1), (4, .int (t i)), (0, .ref (ma 0)), (1, .int d), (2, .int b), (3, .int (nI i))]) dX4_wrong_41 (by decide) rfl ?_
          refine g_iload C dX4_wrong_43 0 rfl ?_
          refine g_if_eq C (tgt := 64) dX4_wrong_45 (by decide) (fun h45_32 => absurd h45_32 (by decide)) (fun _ => ?_)
          refine g_iload_n C dX4_wrong_48 5 rfl ?_
          refine g_if_eq C (tgt := 56) dX4_wrong_49 (by decide) (fun h49_33 => ?_) (fun h49_33 => ?_)
          · refine g_iconst C (v := 1) dX4_wrong_56 ci_1 ?_
            refine g_goto C (tgt := 95) dX4_wrong_57 (by decide) ?_
            refine g_istore C (lv' := [(6, .int 1), (5, .int 1), (4, .int (t i)), (0, .ref (ma 0)), (1, .int d), (2, .int b), (3, .int (nI i))]) dX4_wrong_95 (by decide) rfl ?_
            refine g_iload C dX4_wrong_97 0 rfl ?_
            refine g_if_ne C (tgt := 104) dX4_wrong_99 (by decide) (fun _ => ?_) (fun h99_34 => absurd h99_34 (by decide))
            refine g_iload C dX4_wrong_104 1 rfl ?_
            refine g_if_ne C (tgt := 128) dX4_wrong_106 (by decide) (fun _ => ?_) (fun h106_35 => absurd h106_35 (by decide))
            refine g_iconst C (v := 0) dX4_wrong_128 ci_0 ?_
            refine g_istore_n C (lv' := [(2, .int 0), (6, .int 1), (5, .int 1), (4, .int (t i)), (0, .ref (ma 0)), (1, .int d), (3, .int (nI i))]) dX4_wrong_129 rfl (by decide) rfl ?_
            refine g_iload C dX4_wrong_130 2 rfl ?_
            refine g_if_eq C (tgt := 139) dX4_wrong_132 (by decide) (fun h132_36 => absurd h132_36 (by decide)) (fun _ => ?_)
            refine g_iconst C (v := 0) dX4_wrong_135 ci_0 ?_
            refine g_goto C (tgt := 142) dX4_wrong_136 (by decide) ?_
            refine g_istore_n C (lv' := [(1, .int 0), (2, .int 0), (6, .int 1), (5, .int 1), (4, .int (t i)), (0, .ref (ma 0)), (3, .int (nI i))]) dX4_wrong_142 rfl (by decide) rfl ?_
            refine g_iinc C (v := nI (i + 1)) (lv' := [(3, .int (nI (i + 1))), (1, .int 0), (2, .int 0), (6, .int 1), (5, .int 1), (4, .int (t i)), (0, .ref (ma 0))]) dX4_wrong_143 6 rfl (inc_nI _) (by decide) rfl ?_
            refine g_goto C (tgt := 6) dX4_wrong_146 (by decide) ?_
            refine g_lv [6, 1, 2, 0] (lv' := [(0, .ref (ma 0)), (1, .int 0), (2, .int 0), (3, .int (nI (i + 1)))]) rfl ?_
            exact ih (i + 1) (by omega) _ _ (by rw [← hq]; simp only [yWr, sg, h26_3, eq_true h33_14, eq_true h49_33, Bool.false_eq_true, not_false_eq_true, not_true_eq_false, and_self, and_true, true_and, and_false, false_and, or_true, true_or, or_false, false_or, or_self, if_true, if_false, eq_self, ite_true, ite_false, reduceIte])
          · refine g_iload_n C dX4_wrong_52 3 rfl ?_
            refine g_if_le C (tgt := 60) dX4_wrong_53 (by decide) (fun h53_37 => ?_) (fun h53_37 => ?_)
            · refine g_iconst C (v := 0) dX4_wrong_60 ci_0 ?_
              refine g_goto C (tgt := 95) dX4_wrong_61 (by decide) ?_
              refine g_istore C (lv' := [(6, .int 0), (5, .int 1), (4, .int (t i)), (0, .ref (ma 0)), (1, .int d), (2, .int b), (3, .int (nI i))]) dX4_wrong_95 (by decide) rfl ?_
              refine g_iload C dX4_wrong_97 0 rfl ?_
              refine g_if_ne C (tgt := 104) dX4_wrong_99 (by decide) (fun h99_38 => absurd (by decide) h99_38) (fun _ => ?_)
              refine g_iload_n C dX4_wrong_102 6 rfl ?_
              exact g_iret C hret hlk dX4_wrong_103 (by rw [← hq]; simp only [yWr, sg, h26_3, eq_true h33_14, h49_33, eq_true h53_37, Bool.false_eq_true, not_false_eq_true, not_true_eq_false, and_self, and_true, true_and, and_false, false_and, or_true, true_or, or_false, false_or, or_self, if_true, if_false, eq_self, ite_true, ite_false, reduceIte]) rfl
            · refine g_iconst C (v := 1) dX4_wrong_56 ci_1 ?_
              refine g_goto C (tgt := 95) dX4_wrong_57 (by decide) ?_
              refine g_istore C (lv' := [(6, .int 1), (5, .int 1), (4, .int (t i)), (0, .ref (ma 0)), (1, .int d), (2, .int b), (3, .int (nI i))]) dX4_wrong_95 (by decide) rfl ?_
              refine g_iload C dX4_wrong_97 0 rfl ?_
              refine g_if_ne C (tgt := 104) dX4_wrong_99 (by decide) (fun _ => ?_) (fun h99_39 => absurd h99_39 (by decide))
              refine g_iload C dX4_wrong_104 1 rfl ?_
              refine g_if_ne C (tgt := 128) dX4_wrong_106 (by decide) (fun _ => ?_) (fun h106_40 => absurd h106_40 (by decide))
              refine g_iconst C (v := 0) dX4_wrong_128 ci_0 ?_
              refine g_istore_n C (lv' := [(2, .int 0), (6, .int 1), (5, .int 1), (4, .int (t i)), (0, .ref (ma 0)), (1, .int d), (3, .int (nI i))]) dX4_wrong_129 rfl (by decide) rfl ?_
              refine g_iload C dX4_wrong_130 2 rfl ?_
              refine g_if_eq C (tgt := 139) dX4_wrong_132 (by decide) (fun h132_41 => absurd h132_41 (by decide)) (fun _ => ?_)
              refine g_iconst C (v := 0) dX4_wrong_135 ci_0 ?_
              refine g_goto C (tgt := 142) dX4_wrong_136 (by decide) ?_
              refine g_istore_n C (lv' := [(1, .int 0), (2, .int 0), (6, .int 1), (5, .int 1), (4, .int (t i)), (0, .ref (ma 0)), (3, .int (nI i))]) dX4_wrong_142 rfl (by decide) rfl ?_
              refine g_iinc C (v := nI (i + 1)) (lv' := [(3, .int (nI (i + 1))), (1, .int 0), (2, .int 0), (6, .int 1), (5, .int 1), (4, .int (t i)), (0, .ref (ma 0))]) dX4_wrong_143 6 rfl (inc_nI _) (by decide) rfl ?_
              refine g_goto C (tgt := 6) dX4_wrong_146 (by decide) ?_
              refine g_lv [6, 1, 2, 0] (lv' := [(0, .ref (ma 0)), (1, .int 0), (2, .int 0), (3, .int (nI (i + 1)))]) rfl ?_
              exact ih (i + 1) (by omega) _ _ (by rw [← hq]; simp only [yWr, sg, h26_3, eq_true h33_14, h49_33, h53_37, Bool.false_eq_true, not_false_eq_true, not_true_eq_false, and_self, and_true, true_and, and_false, false_and, or_true, true_or, or_false, false_or, or_self, if_true, if_false, eq_self, ite_true, ite_false, reduceIte])
  refine g_iconst C (v := 0) dX4_wrong_0 ci_0 ?_
  refine g_istore_n C (lv' := [(1, .int 0), (0, .ref (ma 0))]) dX4_wrong_1 rfl (by decide) rfl ?_
  refine g_iconst C (v := 0) dX4_wrong_2 ci_0 ?_
  refine g_istore_n C (lv' := [(2, .int 0), (1, .int 0), (0, .ref (ma 0))]) dX4_wrong_3 rfl (by decide) rfl ?_
  refine g_iconst C (v := 0) dX4_wrong_4 ci_0 ?_
  refine g_istore_n C (lv' := [(3, .int 0), (2, .int 0), (1, .int 0), (0, .ref (ma 0))]) dX4_wrong_5 rfl (by decide) rfl ?_
  refine g_lv [3, 2, 1, 0] (lv' := [(0, .ref (ma 0)), (1, .int 0), (2, .int 0), (3, .int 0)]) rfl ?_
  exact K n 0 rfl 0 0 rfl
theorem fw_X4_firstError_fld22 : Cond.fieldLink RX4 22 "StuckRodsModel" "thrown" "I" ∈ wsX4_firstError := (List.mem_cons_of_mem _ (List.mem_append_left _ (List.mem_of_getElem? (i := 0) rfl)))
theorem fl_X4_firstError_X4 : ∀ w ∈ wsX40, w ∈ wsX4_firstError := fun _ h => List.mem_cons_of_mem _ (List.mem_append_right _ h)
theorem hd_X4_wrong : yX4_wrong.cls = RX4 ∧ yX4_wrong.cls ≠ "java/lang/invoke/MethodHandle" ∧ yX4_wrong.cls ≠ "java/lang/invoke/VarHandle" ∧ (parseMethodDescriptor yX4_wrong.desc).map (fun d => d.parameters.length) = some 0 := by decide +kernel
abbrev rmX4_firstError : Room := { frames := 2, cells := 0, slots := 0, locals := 48 }
set_option maxHeartbeats 1000000 in
set_option maxRecDepth 100000 in
theorem c_X4_firstError (l : Launch) (D : va_G) (cI cO : ClassId) (ma : Nat → Nat) (th : Int32) (u a9 sv : Nat → Int32) (z : Nat) (t : Nat → Int32) (n : Nat) (dg : Int64) (hn : n ≤ 60) (hz : z ≤ 6)  : cR (fun _ => True) l yX4_firstError wsX4_firstError rmX4_firstError D vwCl (tyA cI cO) [.ref (ma 0)] (wM ma cI th u a9 sv z t n dg) (some (.int (yWR t n))) (wM ma cI 0 u a9 sv z t n dg) := by
  refine cR_of (cc := cX4_firstError) (maxL := 1) (ret := (some .int)) (by decide) rfl (Nat.le_of_ble_eq_true rfl) ?_
  intro p e s m below meth c A C hret hlk hnm hF
  refine g_lv [0] (lv' := [(0, .ref (ma 0))]) rfl ?_
  refine g_aload_n C dX4_firstError_0 0 rfl ?_
  refine g_iconst C (v := 0) dX4_firstError_1 ci_0 ?_
  refine g_put C (ws' := (wM ma cI 0 u a9 sv z t n dg)) fl_X4_firstError_X4 tyX4 tyX4_ok nmX4 0 rfl rfl 0 (by decide) fw_X4_firstError_fld22 rfl (tyX4_ok 0 (by decide)) rfl rfl (Nat.le_of_ble_eq_true rfl) dX4_firstError_2 rfl ?_
  refine g_aload_n C dX4_firstError_5 0 rfl ?_
  refine g_callVi C (c_X4_wrong l D cI cO ma 0 u a9 sv z t n dg hn hz) gX4_firstError_X4_wrong rfl ⟨rfl, rfl⟩ hd_X4_wrong ⟨Nat.le_of_ble_eq_true rfl, Nat.le_of_ble_eq_true rfl⟩ [0, 1] rfl (fun _ _ => trivial) rfl (rest := []) rfl (Nat.le_of_ble_eq_true rfl) dX4_firstError_6 ⟨Nat.zero_le _, Nat.zero_le _⟩ 0 rfl rfl rfl (pre := []) (post := []) (ws' := (wM ma cI 0 u a9 sv z t n dg)) rfl rfl ?_
  exact g_iret C hret hlk dX4_firstError_9 rfl rfl
theorem fw_X4_term_fld19 : Cond.fieldLink RX4 19 "StuckRodsModel" "text" "[I" ∈ wsX4_term := (List.mem_cons_of_mem _ (List.mem_append_left _ (List.mem_append_left _ (List.mem_of_getElem? (i := 0) rfl))))
theorem fl_X4_term_X4 : ∀ w ∈ wsX40, w ∈ wsX4_term := fun _ h => List.mem_cons_of_mem _ (List.mem_append_right _ h)
abbrev rmX4_term : Room := { frames := 8, cells := 0, slots := 0, locals := 187 }
set_option maxHeartbeats 1000000 in
set_option maxRecDepth 100000 in
theorem c_X4_term (l : Launch) (D : va_G) (cI cO : ClassId) (ma : Nat → Nat) (th : Int32) (u a9 sv : Nat → Int32) (z : Nat) (t : Nat → Int32) (n : Nat) (dg : Int64) (hn : n ≤ 60) (hz : z ≤ 6) (q d : Nat) (hqd : q + d < n) (hd : d ≤ 9) : cR (fun _ => True) l yX4_term wsX4_term rmX4_term D vwCl (tyA cI cO) [.ref (ma 0), .int (nI q), .int (nI (q + 1 + d))] (wM ma cI th u a9 sv z t n dg) (some (.int ((yTm t q d 0 (u, a9)).1))) (wM ma cI th ((yTm t q d 0 (u, a9)).2.1) ((yTm t q d 0 (u, a9)).2.2) sv z t n dg) := by
  refine cR_of (cc := cX4_term) (maxL := 6) (ret := (some .int)) (by decide) rfl (Nat.le_of_ble_eq_true rfl) ?_
  intro p e s m below meth c A C hret hlk hnm hF
  refine g_lv [0, 1, 2] (lv' := [(0, .ref (ma 0)), (1, .int (nI q)), (2, .int (nI (q + 1 + d)))]) rfl ?_
  have K : ∀ (k r : Nat), k + r = d → ∀ u1 a1 : Nat → Int32, yTm t q k r (u1, a1) = yTm t q d 0 (u, a9) → gG p l e rmX4_term s m ([.ref (ma 0), .int (nI q), .int (nI (q + 1 + d))] : List Value).toArray below meth c D vwCl A s.heap 6 (MQ below (cQ (some (.int ((yTm t q d 0 (u, a9)).1))) (cB D vwCl (tyA cI cO) A (wM ma cI th ((yTm t q d 0 (u, a9)).2.1) ((yTm t q d 0 (u, a9)).2.2) sv z t n dg)) A) ([.ref (ma 0), .int (nI q), .int (nI (q + 1 + d))] : List Value).toArray s 0 0 A) 0 0 (wM ma cI th u1 a1 sv z t n dg) 7 [(0, .ref (ma 0)), (1, .int (nI q)), (2, .int (nI (q + 1 + d))), (3, .int (nI r)), (4, .int (nI (q + k)))] [] := by
    intro k
    induction k with
    | zero =>
      intro r hr9 u1 a1 hq
      have hq1 : (nI r, (u1, a1)) = yTm t q d 0 (u, a9) := hq
      refine g_iload C dX4_term_7 4 rfl ?_
      refine g_iload_n C dX4_term_9 1 rfl ?_
      refine g_icmp_le C (tgt := 66) dX4_term_10 (by decide) (fun _ => ?_) (fun h10_1 => absurd (leI (by omega) (by omega)) h10_1)
      refine g_iload_n C dX4_term_66 3 rfl ?_
      exact g_iret C hret hlk dX4_term_67 (by rw [← hq1]) (by rw [← hq1])
    | succ k ih =>
      intro r hr9 u1 a1 hq
      refine g_iload C dX4_term_7 4 rfl ?_
      refine g_iload_n C dX4_term_9 1 rfl ?_
      refine g_icmp_le C (tgt := 66) dX4_term_10 (by decide) (fun h10_2 => absurd h10_2 (nleI (by omega) (by omega))) (fun _ => ?_)
      refine g_aload_n C dX4_term_13 0 rfl ?_
      refine g_get C (v := .ref (ma 4)) fl_X4_term_X4 0 rfl rfl 5 (by decide) fw_X4_term_fld19 rfl dX4_term_14 ?_
      refine g_iload C dX4_term_17 4 rfl ?_
      refine g_iald C (x := t (q + ((k + 1)))) 4 0 rfl rfl (q + ((k + 1))) rfl (by omega) (by decide) rfl dX4_term_19 ?_
      refine g_bipush C (v := 48) dX4_term_20 cb_48 ?_
      refine g_isub C (v := (t (q + ((k + 1)))) - 48) dX4_term_22 rfl ?_
      refine g_istore C (lv' := [(5, .int ((t (q + ((k + 1)))) - 48)), (0, .ref (ma 0)), (1, .int (nI q)), (2, .int (nI (q + 1 + d))), (3, .int (nI r)), (4, .int (nI (q + ((k + 1)))))]) dX4_term_23 (by decide) rfl ?_
      refine g_aload_n C dX4_term_25 1 rfl ?_
      refine g_iconst C (v := 0) dX4_term_26 ci_0 ?_
      refine g_iload_n C dX4_term_27 4 rfl ?_
      refine g_aload_n C dX4_term_28 1 rfl ?_
      refine g_get C (v := .ref (ma 4)) fl_X4_term_X4 0 rfl rfl 5 (by decide) fw_X4_term_fld19 rfl dX4_term_29 ?_
      refine g_iload_n C dX4_term_32 2 rfl ?_
      refine g_iald C (x := t q) 4 0 rfl rfl q rfl (by omega) (by decide) rfl dX4_term_33 ?_
      refine g_bipush C (v := 43) dX4_term_34 cb_43 ?_
      refine g_icmp_ne C (tgt := 44) dX4_term_36 (by decide) (fun h36_3 => ?_) (fun h36_3 => ?_)
      · refine g_iload C dX4_term_44 0 rfl ?_
        refine g_ineg C (v := -((t (q + ((k + 1)))) - 48)) dX4_term_46 rfl ?_
        refine g_callVi C (c_X4_tries_0 l D cI cO ma th u1 a1 sv z t n dg hn hz r ((by omega)) (-((t (q + ((k + 1)))) - 48))) gX4_term_X4_tries rfl ⟨rfl, rfl⟩ hd_X4_tries ⟨Nat.le_of_ble_eq_true rfl, Nat.le_of_ble_eq_true rfl⟩ [0, 1] rfl (fun _ _ => trivial) rfl (rest := []) rfl (Nat.le_of_ble_eq_true rfl) dX4_term_47 ⟨Nat.zero_le _, Nat.zero_le _⟩ 0 rfl rfl rfl (pre := []) (post := []) (ws' := (wM ma cI th ((yT0 u1 r (-((t (q + ((k + 1)))) - 48))).2) u1 sv z t n dg)) rfl rfl ?_
        refine g_if_ne C (tgt := 57) dX4_term_50 (by decide) (fun h50_4 => ?_) (fun h50_4 => ?_)
        · have h50_4 := bnz h50_4
          refine g_iinc C (v := nI (r + 1)) (lv' := [(3, .int (nI (r + 1))), (5, .int ((t (q + ((k + 1)))) - 48)), (0, .ref (ma 0)), (1, .int (nI q)), (2, .int (nI (q + 1 + d))), (4, .int (nI (q + ((k + 1)))))]) dX4_term_57 4 rfl (inc_nI _) (by decide) rfl ?_
          refine g_iinc C (v := nI (q + k)) (lv' := [(4, .int (nI (q + k))), (3, .int (nI (r + 1))), (5, .int ((t (q + ((k + 1)))) - 48)), (0, .ref (ma 0)), (1, .int (nI q)), (2, .int (nI (q + 1 + d)))]) dX4_term_60 5 rfl (decq q k) (by decide) rfl ?_
          refine g_goto C (tgt := 7) dX4_term_63 (by decide) ?_
          refine g_lv [3, 4, 5, 1, 0] (lv' := [(0, .ref (ma 0)), (1, .int (nI q)), (2, .int (nI (q + 1 + d))), (3, .int (nI (r + 1))), (4, .int (nI (q + k)))]) rfl ?_
          exact ih (r + 1) (by omega) _ _ (by rw [← hq]; simp only [yTm, yTg, h36_3, eq_true h50_4, Bool.false_eq_true, not_false_eq_true, not_true_eq_false, and_self, and_true, true_and, and_false, false_and, or_true, true_or, or_false, false_or, or_self, if_true, if_false, eq_self, ite_true, ite_false, reduceIte])
        · have h50_4 := bz h50_4
          refine g_iconst C (v := -1) dX4_term_53 ci_m1 ?_
          refine g_iload_n C dX4_term_54 4 rfl ?_
          refine g_isub C (v := (-1) - (nI r)) dX4_term_55 rfl ?_
          exact g_iret C hret hlk dX4_term_56 (by rw [← hq]; simp only [yTm, yTg, h36_3, h50_4, Bool.false_eq_true, not_false_eq_true, not_true_eq_false, and_self, and_true, true_and, and_false, false_and, or_true, true_or, or_false, false_or, or_self, if_true, if_false, eq_self, ite_true, ite_false, reduceIte]) (by rw [← hq]; simp only [yTm, yTg, h36_3, h50_4, Bool.false_eq_true, not_false_eq_true, not_true_eq_false, and_self, and_true, true_and, and_false, false_and, or_true, true_or, or_false, false_or, or_self, if_true, if_false, eq_self, ite_true, ite_false, reduceIte])
      · refine g_iload C dX4_term_39 0 rfl ?_
        refine g_goto C (tgt := 47) dX4_term_41 (by decide) ?_
        refine g_callVi C (c_X4_tries_0 l D cI cO ma th u1 a1 sv z t n dg hn hz r ((by omega)) ((t (q + ((k + 1)))) - 48)) gX4_term_X4_tries rfl ⟨rfl, rfl⟩ hd_X4_tries ⟨Nat.le_of_ble_eq_true rfl, Nat.le_of_ble_eq_true rfl⟩ [0, 1] rfl (fun _ _ => trivial) rfl (rest := []) rfl (Nat.le_of_ble_eq_true rfl) dX4_term_47 ⟨Nat.zero_le _, Nat.zero_le _⟩ 0 rfl rfl rfl (pre := []) (post := []) (ws' := (wM ma cI th ((yT0 u1 r ((t (q + ((k + 1)))) - 48)).2) u1 sv z t n dg)) rfl rfl ?_
        refine g_if_ne C (tgt := 57) dX4_term_50 (by decide) (fun h50_5 => ?_) (fun h50_5 => ?_)
        · have h50_5 := bnz h50_5
          refine g_iinc C (v := nI (r + 1)) (lv' := [(3, .int (nI (r + 1))), (5, .int ((t (q + ((k + 1)))) - 48)), (0, .ref (ma 0)), (1, .int (nI q)), (2, .int (nI (q + 1 + d))), (4, .int (nI (q + ((k + 1)))))]) dX4_term_57 4 rfl (inc_nI _) (by decide) rfl ?_
          refine g_iinc C (v := nI (q + k)) (lv' := [(4, .int (nI (q + k))), (3, .int (nI (r + 1))), (5, .int ((t (q + ((k + 1)))) - 48)), (0, .ref (ma 0)), (1, .int (nI q)), (2, .int (nI (q + 1 + d)))]) dX4_term_60 5 rfl (decq q k) (by decide) rfl ?_
          refine g_goto C (tgt := 7) dX4_term_63 (by decide) ?_
          refine g_lv [3, 4, 5, 1, 0] (lv' := [(0, .ref (ma 0)), (1, .int (nI q)), (2, .int (nI (q + 1 + d))), (3, .int (nI (r + 1))), (4, .int (nI (q + k)))]) rfl ?_
          exact ih (r + 1) (by omega) _ _ (by rw [← hq]; simp only [yTm, yTg, eq_true h36_3, eq_true h50_5, Bool.false_eq_true, not_false_eq_true, not_true_eq_false, and_self, and_true, true_and, and_false, false_and, or_true, true_or, or_false, false_or, or_self, if_true, if_false, eq_self, ite_true, ite_false, reduceIte])
        · have h50_5 := bz h50_5
          refine g_iconst C (v := -1) dX4_term_53 ci_m1 ?_
          refine g_iload_n C dX4_term_54 4 rfl ?_
          refine g_isub C (v := (-1) - (nI r)) dX4_term_55 rfl ?_
          exact g_iret C hret hlk dX4_term_56 (by rw [← hq]; simp only [yTm, yTg, eq_true h36_3, h50_5, Bool.false_eq_true, not_false_eq_true, not_true_eq_false, and_self, and_true, true_and, and_false, false_and, or_true, true_or, or_false, false_or, or_self, if_true, if_false, eq_self, ite_true, ite_false, reduceIte]) (by rw [← hq]; simp only [yTm, yTg, eq_true h36_3, h50_5, Bool.false_eq_true, not_false_eq_true, not_true_eq_false, and_self, and_true, true_and, and_false, false_and, or_true, true_or, or_false, false_or, or_self, if_true, if_false, eq_self, ite_true, ite_false, reduceIte])
  refine g_iconst C (v := 0) dX4_term_0 ci_0 ?_
  refine g_istore_n C (lv' := [(3, .int 0), (0, .ref (ma 0)), (1, .int (nI q)), (2, .int (nI (q + 1 + d)))]) dX4_term_1 rfl (by decide) rfl ?_
  refine g_iload_n C dX4_term_2 3 rfl ?_
  refine g_iconst C (v := 1) dX4_term_3 ci_1 ?_
  refine g_isub C (v := nI (q + d)) dX4_term_4 (by rw [show (1 : Int32) = nI 1 from rfl, pk_sub (by omega)]; congr 1; omega) ?_
  refine g_istore C (lv' := [(4, .int (nI (q + d))), (3, .int 0), (0, .ref (ma 0)), (1, .int (nI q)), (2, .int (nI (q + 1 + d)))]) dX4_term_5 (by decide) rfl ?_
  refine g_lv [2, 3, 4, 1, 0] (lv' := [(0, .ref (ma 0)), (1, .int (nI q)), (2, .int (nI (q + 1 + d))), (3, .int 0), (4, .int (nI (q + d)))]) rfl ?_
  exact K d 0 rfl _ _ rfl
theorem dg_f {x : Int32} (h : ¬ (¬ x < 48 ∧ ¬ 57 < x)) : (dg x = true) = False := by
  unfold dg
  by_cases h1 : x < 48
  · rw [if_pos h1]; exact eq_false Bool.false_ne_true
  · rw [if_neg h1]
    by_cases h2 : 57 < x
    · rw [if_pos h2]; exact eq_false Bool.false_ne_true
    · exact absurd ⟨h1, h2⟩ h
theorem dg_t {x : Int32} (h : ¬ x < 48 ∧ ¬ 57 < x) : (dg x = true) = True := by
  unfold dg
  rw [if_neg h.1, if_neg h.2]
  exact eq_true rfl
theorem fw_X4_reckons_fld109 : Cond.fieldLink RX4 109 "StuckRodsModel" "length" "I" ∈ wsX4_reckons := (List.mem_cons_of_mem _ (List.mem_append_left _ (List.mem_append_left _ (List.mem_of_getElem? (i := 0) rfl))))
theorem fl_X4_reckons_X4 : ∀ w ∈ wsX40, w ∈ wsX4_reckons := fun _ h => List.mem_cons_of_mem _ (List.mem_append_right _ h)
theorem hd_X4_term : yX4_term.cls = RX4 ∧ yX4_term.cls ≠ "java/lang/invoke/MethodHandle" ∧ yX4_term.cls ≠ "java/lang/invoke/VarHandle" ∧ (parseMethodDescriptor yX4_term.desc).map (fun d => d.parameters.length) = some 2 := by decide +kernel
theorem fw_X4_reckons_fld19 : Cond.fieldLink RX4 19 "StuckRodsModel" "text" "[I" ∈ wsX4_reckons := (List.mem_cons_of_mem _ (List.mem_append_left _ (List.mem_append_left _ (List.mem_of_getElem? (i := 1) rfl))))
abbrev rmX4_reckons : Room := { frames := 9, cells := 0, slots := 0, locals := 212 }
set_option maxHeartbeats 1000000 in
set_option maxRecDepth 100000 in
theorem c_X4_reckons (l : Launch) (D : va_G) (cI cO : ClassId) (ma : Nat → Nat) (th : Int32) (u a9 sv : Nat → Int32) (z : Nat) (t : Nat → Int32) (n : Nat) (dg : Int64) (hn : n ≤ 60) (hz : z ≤ 6) (hd9 : ∀ i, i < n → xDB t n i ≤ 9) : cR (fun _ => True) l yX4_reckons wsX4_reckons rmX4_reckons D vwCl (tyA cI cO) [.ref (ma 0)] (wM ma cI th u a9 sv z t n dg) (some (.int ((yRk t n n 0 0 (u, a9)).1))) (wM ma cI th ((yRk t n n 0 0 (u, a9)).2.1) ((yRk t n n 0 0 (u, a9)).2.2) sv z t n dg) := by
  refine cR_of (cc := cX4_reckons) (maxL := 5) (ret := (some .int)) (by decide) rfl (Nat.le_of_ble_eq_true rfl) ?_
  intro p e s m below meth c A C hret hlk hnm hF
  refine g_lv [0] (lv' := [(0, .ref (ma 0))]) rfl ?_
  have K : ∀ (k q : Nat), n ≤ k + q → q ≤ n → ∀ (a : Int32) (u1 a1 : Nat → Int32), yRk t n k q a (u1, a1) = yRk t n n 0 0 (u, a9) → gG p l e rmX4_reckons s m ([.ref (ma 0)] : List Value).toArray below meth c D vwCl A s.heap 5 (MQ below (cQ (some (.int ((yRk t n n 0 0 (u, a9)).1))) (cB D vwCl (tyA cI cO) A (wM ma cI th ((yRk t n n 0 0 (u, a9)).2.1) ((yRk t n n 0 0 (u, a9)).2.2) sv z t n dg)) A) ([.ref (ma 0)] : List Value).toArray s 0 0 A) 0 0 (wM ma cI th u1 a1 sv z t n dg) 4 [(0, .ref (ma 0)), (1, .int a), (2, .int (nI q))] [] := by
    intro k
    induction k with
    | zero =>
      intro q hnq hqn9 a u1 a1 hq
      have hq1 : (a, (u1, a1)) = yRk t n n 0 0 (u, a9) := hq
      refine g_iload_n C dX4_reckons_4 2 rfl ?_
      refine g_aload_n C dX4_reckons_5 0 rfl ?_
      refine g_get C (v := .int (nI n)) fl_X4_reckons_X4 0 rfl rfl 6 (by decide) fw_X4_reckons_fld109 rfl dX4_reckons_6 ?_
      refine g_icmp_ge C (tgt := 88) dX4_reckons_9 (by decide) (fun _ => ?_) (fun h9_1 => absurd (leI (by omega) (by omega)) h9_1)
      refine g_iload_n C dX4_reckons_88 1 rfl ?_
      exact g_iret C hret hlk dX4_reckons_89 (by rw [← hq1]) (by rw [← hq1])
    | succ k ih =>
      intro q hnq hqn9 a u1 a1 hq
      have K46 : ∀ hqn : q < n, ¬ nI n ≤ nI q → gG p l e rmX4_reckons s m ([.ref (ma 0)] : List Value).toArray below meth c D vwCl A s.heap 5 (MQ below (cQ (some (.int ((yRk t n n 0 0 (u, a9)).1))) (cB D vwCl (tyA cI cO) A (wM ma cI th ((yRk t n n 0 0 (u, a9)).2.1) ((yRk t n n 0 0 (u, a9)).2.2) sv z t n dg)) A) ([.ref (ma 0)] : List Value).toArray s 0 0 A) 0 0 (wM ma cI th u1 a1 sv z t n dg) 46 [(0, .ref (ma 0)), (1, .int a), (2, .int (nI q)), (3, .int (nI ((q + 1 + xDB t n q))))] [] := by
        intro hqn h9_0
        have hlt := xDB_lt (t := t) hqn
        refine g_aload_n C dX4_reckons_46 0 rfl ?_
        refine g_iload_n C dX4_reckons_47 2 rfl ?_
        refine g_iload_n C dX4_reckons_48 3 rfl ?_
        refine g_callVi C (c_X4_term l D cI cO ma th u1 a1 sv z t n dg hn hz q (xDB t n q) (xDB_lt hqn) (hd9 q hqn)) gX4_reckons_X4_term rfl ⟨rfl, rfl⟩ hd_X4_term ⟨Nat.le_of_ble_eq_true rfl, Nat.le_of_ble_eq_true rfl⟩ [0, 1] rfl (fun _ _ => trivial) rfl (rest := []) rfl (Nat.le_of_ble_eq_true rfl) dX4_reckons_49 ⟨Nat.zero_le _, Nat.zero_le _⟩ 0 rfl rfl rfl (pre := []) (post := []) (ws' := (wM ma cI th ((yTm t q (xDB t n q) 0 (u1, a1)).2.1) ((yTm t q (xDB t n q) 0 (u1, a1)).2.2) sv z t n dg)) rfl rfl ?_
        refine g_istore C (lv' := [(4, .int ((yTm t q (xDB t n q) 0 (u1, a1)).1)), (0, .ref (ma 0)), (1, .int a), (2, .int (nI q)), (3, .int (nI ((q + 1 + xDB t n q))))]) dX4_reckons_52 (by decide) rfl ?_
        refine g_iload_n C dX4_reckons_54 2 rfl ?_
        refine g_iload C dX4_reckons_55 0 rfl ?_
        refine g_if_ge C (tgt := 67) dX4_reckons_57 (by decide) (fun h57_2 => ?_) (fun h57_2 => ?_)
        · refine g_iload C dX4_reckons_67 0 rfl ?_
          refine g_iadd C (v := a + ((yTm t q (xDB t n q) 0 (u1, a1)).1)) dX4_reckons_69 rfl ?_
          refine g_istore_n C (lv' := [(1, .int (a + ((yTm t q (xDB t n q) 0 (u1, a1)).1))), (4, .int ((yTm t q (xDB t n q) 0 (u1, a1)).1)), (0, .ref (ma 0)), (2, .int (nI q)), (3, .int (nI ((q + 1 + xDB t n q))))]) dX4_reckons_70 rfl (by decide) rfl ?_
          refine g_iload C dX4_reckons_71 1 rfl ?_
          refine g_if_ge C (tgt := 83) dX4_reckons_73 (by decide) (fun _ => ?_) (fun h73_3 => absurd h57_2 h73_3)
          refine g_iload_n C dX4_reckons_83 4 rfl ?_
          refine g_istore_n C (lv' := [(2, .int (nI ((q + 1 + xDB t n q)))), (1, .int (a + ((yTm t q (xDB t n q) 0 (u1, a1)).1))), (4, .int ((yTm t q (xDB t n q) 0 (u1, a1)).1)), (0, .ref (ma 0)), (3, .int (nI ((q + 1 + xDB t n q))))]) dX4_reckons_84 rfl (by decide) rfl ?_
          refine g_goto C (tgt := 4) dX4_reckons_85 (by decide) ?_
          refine g_lv [3, 1, 0] (lv' := [(0, .ref (ma 0)), (1, .int (a + ((yTm t q (xDB t n q) 0 (u1, a1)).1))), (2, .int (nI ((q + 1 + xDB t n q))))]) rfl ?_
          exact ih ((q + 1 + xDB t n q)) (by omega) (by omega) _ _ _ (by rw [← hq]; simp only [yRk, h9_0, eq_true h57_2, Bool.false_eq_true, not_false_eq_true, not_true_eq_false, and_self, and_true, true_and, and_false, false_and, or_true, true_or, or_false, false_or, or_self, if_true, if_false, eq_self, ite_true, ite_false, reduceIte])
        · refine g_iconst C (v := -1) dX4_reckons_60 ci_m1 ?_
          refine g_iload C dX4_reckons_61 0 rfl ?_
          refine g_isub C (v := (-1) - ((yTm t q (xDB t n q) 0 (u1, a1)).1)) dX4_reckons_63 rfl ?_
          refine g_goto C (tgt := 69) dX4_reckons_64 (by decide) ?_
          refine g_iadd C (v := a + ((-1) - ((yTm t q (xDB t n q) 0 (u1, a1)).1))) dX4_reckons_69 rfl ?_
          refine g_istore_n C (lv' := [(1, .int (a + ((-1) - ((yTm t q (xDB t n q) 0 (u1, a1)).1)))), (4, .int ((yTm t q (xDB t n q) 0 (u1, a1)).1)), (0, .ref (ma 0)), (2, .int (nI q)), (3, .int (nI ((q + 1 + xDB t n q))))]) dX4_reckons_70 rfl (by decide) rfl ?_
          refine g_iload C dX4_reckons_71 1 rfl ?_
          refine g_if_ge C (tgt := 83) dX4_reckons_73 (by decide) (fun h73_4 => absurd h73_4 h57_2) (fun _ => ?_)
          refine g_aload_n C dX4_reckons_76 2 rfl ?_
          refine g_get C (v := .int (nI n)) fl_X4_reckons_X4 0 rfl rfl 6 (by decide) fw_X4_reckons_fld109 rfl dX4_reckons_77 ?_
          refine g_goto C (tgt := 84) dX4_reckons_80 (by decide) ?_
          refine g_istore_n C (lv' := [(2, .int (nI n)), (1, .int (a + ((-1) - ((yTm t q (xDB t n q) 0 (u1, a1)).1)))), (4, .int ((yTm t q (xDB t n q) 0 (u1, a1)).1)), (0, .ref (ma 0)), (3, .int (nI ((q + 1 + xDB t n q))))]) dX4_reckons_84 rfl (by decide) rfl ?_
          refine g_goto C (tgt := 4) dX4_reckons_85 (by decide) ?_
          refine g_lv [3, 1, 0] (lv' := [(0, .ref (ma 0)), (1, .int (a + ((-1) - ((yTm t q (xDB t n q) 0 (u1, a1)).1)))), (2, .int (nI n))]) rfl ?_
          exact ih (n) (by omega) (by omega) _ _ _ (by rw [← hq]; simp only [yRk, h9_0, h57_2, Bool.false_eq_true, not_false_eq_true, not_true_eq_false, and_self, and_true, true_and, and_false, false_and, or_true, true_or, or_false, false_or, or_self, if_true, if_false, eq_self, ite_true, ite_false, reduceIte])
      have K2 : ∀ (hqn : q < n) (hh : ¬ nI n ≤ nI q) (j i : Nat), j + i = n → ∀ c9 : Nat, xDb t j i c9 = xDB t n q → i = q + 1 + c9 → gG p l e rmX4_reckons s m ([.ref (ma 0)] : List Value).toArray below meth c D vwCl A s.heap 5 (MQ below (cQ (some (.int ((yRk t n n 0 0 (u, a9)).1))) (cB D vwCl (tyA cI cO) A (wM ma cI th ((yRk t n n 0 0 (u, a9)).2.1) ((yRk t n n 0 0 (u, a9)).2.2) sv z t n dg)) A) ([.ref (ma 0)] : List Value).toArray s 0 0 A) 0 0 (wM ma cI th u1 a1 sv z t n dg) 16 [(0, .ref (ma 0)), (1, .int a), (2, .int (nI q)), (3, .int (nI i))] [] := by
        intro hqn hh j
        induction j with
        | zero =>
          intro i hi c9 hc he
          have hc1 : c9 = xDB t n q := hc
          have e : i = q + 1 + xDB t n q := by omega
          refine g_iload_n C dX4_reckons_16 3 rfl ?_
          refine g_aload_n C dX4_reckons_17 0 rfl ?_
          refine g_get C (v := .int (nI n)) fl_X4_reckons_X4 0 rfl rfl 6 (by decide) fw_X4_reckons_fld109 rfl dX4_reckons_18 ?_
          refine g_icmp_ge C (tgt := 46) dX4_reckons_21 (by decide) (fun _ => ?_) (fun h21_5 => absurd (leI (by omega) (by omega)) h21_5)
          rw [e]
          exact K46 hqn hh
        | succ j ih2 =>
          intro i hi c9 hc he
          refine g_iload_n C dX4_reckons_16 3 rfl ?_
          refine g_aload_n C dX4_reckons_17 0 rfl ?_
          refine g_get C (v := .int (nI n)) fl_X4_reckons_X4 0 rfl rfl 6 (by decide) fw_X4_reckons_fld109 rfl dX4_reckons_18 ?_
          refine g_icmp_ge C (tgt := 46) dX4_reckons_21 (by decide) (fun h21_6 => absurd h21_6 (nleI (by omega) (by omega))) (fun _ => ?_)
          refine g_aload_n C dX4_reckons_24 0 rfl ?_
          refine g_get C (v := .ref (ma 4)) fl_X4_reckons_X4 0 rfl rfl 5 (by decide) fw_X4_reckons_fld19 rfl dX4_reckons_25 ?_
          refine g_iload_n C dX4_reckons_28 3 rfl ?_
          refine g_iald C (x := t i) 4 0 rfl rfl i rfl (by omega) (by decide) rfl dX4_reckons_29 ?_
          refine g_bipush C (v := 48) dX4_reckons_30 cb_48 ?_
          refine g_bipush C (v := 57) dX4_reckons_32 cb_57 ?_
          refine g_callSi C (c_X4_in l D cI cO (t i) 48 57) gX4_reckons_X4_in rfl ⟨rfl, rfl⟩ hd_X4_in ⟨Nat.le_of_ble_eq_true rfl, Nat.le_of_ble_eq_true rfl⟩ [0, 1] rfl (fun _ _ => trivial) rfl (rest := []) rfl (Nat.le_of_ble_eq_true rfl) dX4_reckons_34 ⟨Nat.zero_le _, Nat.zero_le _⟩ (pre := []) (post := (wM ma cI th u1 a1 sv z t n dg)) (ws' := (wM ma cI th u1 a1 sv z t n dg)) rfl rfl ?_
          refine g_if_eq C (tgt := 46) dX4_reckons_37 (by decide) (fun h37_7 => ?_) (fun h37_7 => ?_)
          · have h37_7 := bz h37_7
            have e : i = q + 1 + xDB t n q := by rw [← hc]; simp only [xDb, (dg_f h37_7), Bool.false_eq_true, not_false_eq_true, not_true_eq_false, and_self, and_true, true_and, and_false, false_and, or_true, true_or, or_false, false_or, or_self, if_true, if_false, eq_self, ite_true, ite_false, reduceIte]; exact he
            rw [e]
            exact K46 hqn hh
          · have h37_7 := bnz h37_7
            refine g_iinc C (v := nI (i + 1)) (lv' := [(3, .int (nI (i + 1))), (0, .ref (ma 0)), (1, .int a), (2, .int (nI q))]) dX4_reckons_40 3 rfl (inc_nI _) (by decide) rfl ?_
            refine g_goto C (tgt := 16) dX4_reckons_43 (by decide) ?_
            refine g_lv [1, 2, 3, 0] (lv' := [(0, .ref (ma 0)), (1, .int a), (2, .int (nI q)), (3, .int (nI (i + 1)))]) rfl ?_
            exact ih2 (i + 1) (by omega) (c9 + 1) (by rw [← hc]; simp only [xDb, (dg_t h37_7), Bool.false_eq_true, not_false_eq_true, not_true_eq_false, and_self, and_true, true_and, and_false, false_and, or_true, true_or, or_false, false_or, or_self, if_true, if_false, eq_self, ite_true, ite_false, reduceIte]) (by omega)
      refine g_iload_n C dX4_reckons_4 2 rfl ?_
      refine g_aload_n C dX4_reckons_5 0 rfl ?_
      refine g_get C (v := .int (nI n)) fl_X4_reckons_X4 0 rfl rfl 6 (by decide) fw_X4_reckons_fld109 rfl dX4_reckons_6 ?_
      refine g_icmp_ge C (tgt := 88) dX4_reckons_9 (by decide) (fun h9_8 => ?_) (fun h9_8 => ?_)
      · refine g_iload_n C dX4_reckons_88 1 rfl ?_
        exact g_iret C hret hlk dX4_reckons_89 (by rw [← hq]; simp only [yRk, eq_true h9_8, Bool.false_eq_true, not_false_eq_true, not_true_eq_false, and_self, and_true, true_and, and_false, false_and, or_true, true_or, or_false, false_or, or_self, if_true, if_false, eq_self, ite_true, ite_false, reduceIte]) (by rw [← hq]; simp only [yRk, eq_true h9_8, Bool.false_eq_true, not_false_eq_true, not_true_eq_false, and_self, and_true, true_and, and_false, false_and, or_true, true_or, or_false, false_or, or_self, if_true, if_false, eq_self, ite_true, ite_false, reduceIte])
      · have hqn : q < n := by have := mt (fun z => leI z (by omega)) h9_8; omega
        refine g_iload_n C dX4_reckons_12 2 rfl ?_
        refine g_iconst C (v := 1) dX4_reckons_13 ci_1 ?_
        refine g_iadd C (v := nI (q + 1)) dX4_reckons_14 (nI_1 _) ?_
        refine g_istore_n C (lv' := [(3, .int (nI (q + 1))), (0, .ref (ma 0)), (1, .int a), (2, .int (nI q))]) dX4_reckons_15 rfl (by decide) rfl ?_
        refine g_lv [1, 2, 3, 0] (lv' := [(0, .ref (ma 0)), (1, .int a), (2, .int (nI q)), (3, .int (nI (q + 1)))]) rfl ?_
        exact K2 hqn h9_8 (n - (q + 1)) (q + 1) (by omega) 0 rfl rfl
  refine g_iconst C (v := 0) dX4_reckons_0 ci_0 ?_
  refine g_istore_n C (lv' := [(1, .int 0), (0, .ref (ma 0))]) dX4_reckons_1 rfl (by decide) rfl ?_
  refine g_iconst C (v := 0) dX4_reckons_2 ci_0 ?_
  refine g_istore_n C (lv' := [(2, .int 0), (1, .int 0), (0, .ref (ma 0))]) dX4_reckons_3 rfl (by decide) rfl ?_
  refine g_lv [2, 1, 0] (lv' := [(0, .ref (ma 0)), (1, .int 0), (2, .int 0)]) rfl ?_
  exact K n 0 (by omega) (by omega) 0 _ _ rfl
theorem fw_X4_reckon_fld109 : Cond.fieldLink RX4 109 "StuckRodsModel" "length" "I" ∈ wsX4_reckon := (List.mem_cons_of_mem _ (List.mem_append_left _ (List.mem_append_left _ (List.mem_of_getElem? (i := 0) rfl))))
theorem fl_X4_reckon_X4 : ∀ w ∈ wsX40, w ∈ wsX4_reckon := fun _ h => List.mem_cons_of_mem _ (List.mem_append_right _ h)
theorem fw_X4_reckon_fld19 : Cond.fieldLink RX4 19 "StuckRodsModel" "text" "[I" ∈ wsX4_reckon := (List.mem_cons_of_mem _ (List.mem_append_left _ (List.mem_append_left _ (List.mem_of_getElem? (i := 1) rfl))))
theorem hd_X4_reckons : yX4_reckons.cls = RX4 ∧ yX4_reckons.cls ≠ "java/lang/invoke/MethodHandle" ∧ yX4_reckons.cls ≠ "java/lang/invoke/VarHandle" ∧ (parseMethodDescriptor yX4_reckons.desc).map (fun d => d.parameters.length) = some 0 := by decide +kernel
abbrev rmX4_reckon : Room := { frames := 10, cells := 0, slots := 0, locals := 236 }
set_option maxHeartbeats 1000000 in
set_option maxRecDepth 100000 in
theorem c_X4_reckon (l : Launch) (D : va_G) (cI cO : ClassId) (ma : Nat → Nat) (th : Int32) (u a9 sv : Nat → Int32) (z : Nat) (t : Nat → Int32) (n : Nat) (dg : Int64) (hn : n ≤ 60) (hz : z ≤ 6) (hc : yCs t n) (hd9 : ∀ i, i < n → xDB t n i ≤ 9) : cR (fun _ => True) l yX4_reckon wsX4_reckon rmX4_reckon D vwCl (tyA cI cO) [.ref (ma 0)] (wM ma cI th u a9 sv z t n dg) (some (.int ((yRk t n n 0 0 (u, a9)).1))) (wM ma cI 0 ((yRk t n n 0 0 (u, a9)).2.1) ((yRk t n n 0 0 (u, a9)).2.2) (ySv u sv z) (kM z + 1) t 0 dg) := by
  refine cR_of (cc := cX4_reckon) (maxL := 3) (ret := (some .int)) (by decide) rfl (Nat.le_of_ble_eq_true rfl) ?_
  intro p e s m below meth c A C hret hlk hnm hF
  refine g_lv [0] (lv' := [(0, .ref (ma 0))]) rfl ?_
  have hp1 : 1 ≤ n := posI hc.1
  refine g_aload_n C dX4_reckon_0 0 rfl ?_
  refine g_get C (v := .int (nI n)) fl_X4_reckon_X4 0 rfl rfl 6 (by decide) fw_X4_reckon_fld109 rfl dX4_reckon_1 ?_
  refine g_if_le C (tgt := 43) dX4_reckon_4 (by decide) (fun h4_1 => absurd h4_1 hc.1) (fun _ => ?_)
  refine g_aload_n C dX4_reckon_7 0 rfl ?_
  refine g_callVi C (c_X4_wrong l D cI cO ma th u a9 sv z t n dg hn hz) gX4_reckon_X4_wrong rfl ⟨rfl, rfl⟩ hd_X4_wrong ⟨Nat.le_of_ble_eq_true rfl, Nat.le_of_ble_eq_true rfl⟩ [0, 1] rfl (fun _ _ => trivial) rfl (rest := []) rfl (Nat.le_of_ble_eq_true rfl) dX4_reckon_8 ⟨Nat.zero_le _, Nat.zero_le _⟩ 0 rfl rfl rfl (pre := []) (post := []) (ws' := (wM ma cI th u a9 sv z t n dg)) rfl rfl ?_
  refine g_aload_n C dX4_reckon_11 0 rfl ?_
  refine g_get C (v := .int (nI n)) fl_X4_reckon_X4 0 rfl rfl 6 (by decide) fw_X4_reckon_fld109 rfl dX4_reckon_12 ?_
  refine g_icmp_ne C (tgt := 43) dX4_reckon_15 (by decide) (fun h15_2 => absurd hc.2.1 h15_2) (fun _ => ?_)
  refine g_aload_n C dX4_reckon_18 0 rfl ?_
  refine g_get C (v := .ref (ma 4)) fl_X4_reckon_X4 0 rfl rfl 5 (by decide) fw_X4_reckon_fld19 rfl dX4_reckon_19 ?_
  refine g_aload_n C dX4_reckon_22 0 rfl ?_
  refine g_get C (v := .int (nI n)) fl_X4_reckon_X4 0 rfl rfl 6 (by decide) fw_X4_reckon_fld109 rfl dX4_reckon_23 ?_
  refine g_iconst C (v := 1) dX4_reckon_26 ci_1 ?_
  refine g_isub C (v := nI (n - 1)) dX4_reckon_27 (pk_sub (b := 1) hp1) ?_
  refine g_iald C (x := t (n - 1)) 4 0 rfl rfl (n - 1) rfl (by omega) (by decide) rfl dX4_reckon_28 ?_
  refine g_bipush C (v := 48) dX4_reckon_29 cb_48 ?_
  refine g_bipush C (v := 57) dX4_reckon_31 cb_57 ?_
  refine g_callSi C (c_X4_in l D cI cO (t (n - 1)) 48 57) gX4_reckon_X4_in rfl ⟨rfl, rfl⟩ hd_X4_in ⟨Nat.le_of_ble_eq_true rfl, Nat.le_of_ble_eq_true rfl⟩ [0, 1] rfl (fun _ _ => trivial) rfl (rest := []) rfl (Nat.le_of_ble_eq_true rfl) dX4_reckon_33 ⟨Nat.zero_le _, Nat.zero_le _⟩ (pre := []) (post := (wM ma cI th u a9 sv z t n dg)) (ws' := (wM ma cI th u a9 sv z t n dg)) rfl rfl ?_
  refine g_if_eq C (tgt := 43) dX4_reckon_36 (by decide) (fun h36_3 => absurd h36_3 (bt hc.2.2)) (fun _ => ?_)
  refine g_iconst C (v := 1) dX4_reckon_39 ci_1 ?_
  refine g_goto C (tgt := 44) dX4_reckon_40 (by decide) ?_
  refine g_istore_n C (lv' := [(1, .int 1), (0, .ref (ma 0))]) dX4_reckon_44 rfl (by decide) rfl ?_
  refine g_aload_n C dX4_reckon_45 1 rfl ?_
  refine g_iload_n C dX4_reckon_46 0 rfl ?_
  refine g_if_eq C (tgt := 54) dX4_reckon_47 (by decide) (fun h47_4 => absurd h47_4 (by decide)) (fun _ => ?_)
  refine g_iconst C (v := 0) dX4_reckon_50 ci_0 ?_
  refine g_goto C (tgt := 55) dX4_reckon_51 (by decide) ?_
  refine g_callVi C (c_X4_holds l D cI cO ma th u a9 sv z t n dg hn hz 0) gX4_reckon_X4_holds rfl ⟨rfl, rfl⟩ hd_X4_holds ⟨Nat.le_of_ble_eq_true rfl, Nat.le_of_ble_eq_true rfl⟩ [0, 1] rfl (fun _ _ => trivial) rfl (rest := []) rfl (Nat.le_of_ble_eq_true rfl) dX4_reckon_55 ⟨Nat.zero_le _, Nat.zero_le _⟩ 0 rfl rfl rfl (pre := []) (post := []) (ws' := (wM ma cI 0 u a9 sv z t n dg)) rfl rfl ?_
  refine g_if_ne C (tgt := 63) dX4_reckon_58 (by decide) (fun _ => ?_) (fun h58_5 => absurd h58_5 (by decide))
  refine g_aload_n C dX4_reckon_63 1 rfl ?_
  refine g_callVv C (c_X4_save l D cI cO ma 0 u a9 sv z t n dg hn hz) gX4_reckon_X4_save rfl ⟨rfl, rfl⟩ hd_X4_save ⟨Nat.le_of_ble_eq_true rfl, Nat.le_of_ble_eq_true rfl⟩ [0, 1] rfl (fun _ _ => trivial) rfl (rest := []) rfl (Nat.le_of_ble_eq_true rfl) dX4_reckon_64 ⟨Nat.zero_le _, Nat.zero_le _⟩ 0 rfl rfl rfl (pre := []) (post := []) (ws' := (wM ma cI 0 u a9 (ySv u sv z) (kM z + 1) t n dg)) rfl rfl ?_
  refine g_aload_n C dX4_reckon_67 1 rfl ?_
  refine g_callVi C (c_X4_reckons l D cI cO ma 0 u a9 (ySv u sv z) (kM z + 1) t n dg hn (by have := kM_lt hz; omega) hd9) gX4_reckon_X4_reckons rfl ⟨rfl, rfl⟩ hd_X4_reckons ⟨Nat.le_of_ble_eq_true rfl, Nat.le_of_ble_eq_true rfl⟩ [0, 1] rfl (fun _ _ => trivial) rfl (rest := []) rfl (Nat.le_of_ble_eq_true rfl) dX4_reckon_68 ⟨Nat.zero_le _, Nat.zero_le _⟩ 0 rfl rfl rfl (pre := []) (post := []) (ws' := (wM ma cI 0 ((yRk t n n 0 0 (u, a9)).2.1) ((yRk t n n 0 0 (u, a9)).2.2) (ySv u sv z) (kM z + 1) t n dg)) rfl rfl ?_
  refine g_istore_n C (lv' := [(2, .int ((yRk t n n 0 0 (u, a9)).1)), (1, .int 1), (0, .ref (ma 0))]) dX4_reckon_71 rfl (by decide) rfl ?_
  refine g_aload_n C dX4_reckon_72 2 rfl ?_
  refine g_iconst C (v := 0) dX4_reckon_73 ci_0 ?_
  refine g_put C (ws' := (wM ma cI 0 ((yRk t n n 0 0 (u, a9)).2.1) ((yRk t n n 0 0 (u, a9)).2.2) (ySv u sv z) (kM z + 1) t 0 dg)) fl_X4_reckon_X4 tyX4 tyX4_ok nmX4 0 rfl rfl 6 (by decide) fw_X4_reckon_fld109 rfl (tyX4_ok 6 (by decide)) rfl rfl (Nat.le_of_ble_eq_true rfl) dX4_reckon_74 rfl ?_
  refine g_iload_n C dX4_reckon_77 0 rfl ?_
  exact g_iret C hret hlk dX4_reckon_78 rfl rfl
abbrev rmX4_reckon_1 : Room := { frames := 2, cells := 0, slots := 0, locals := 48 }
set_option maxHeartbeats 1000000 in
set_option maxRecDepth 100000 in
theorem c_X4_reckon_1 (l : Launch) (D : va_G) (cI cO : ClassId) (ma : Nat → Nat) (th : Int32) (u a9 sv : Nat → Int32) (z : Nat) (t : Nat → Int32) (n : Nat) (dg : Int64) (hn : n ≤ 60) (hz : z ≤ 6) (hc : ¬ yCs t n) : cR (fun _ => True) l yX4_reckon wsX4_reckon rmX4_reckon_1 D vwCl (tyA cI cO) [.ref (ma 0)] (wM ma cI th u a9 sv z t n dg) (some (.int 0)) (wM ma cI 1 u a9 sv z t n dg) := by
  refine cR_of (cc := cX4_reckon) (maxL := 3) (ret := (some .int)) (by decide) rfl (Nat.le_of_ble_eq_true rfl) ?_
  intro p e s m below meth c A C hret hlk hnm hF
  refine g_lv [0] (lv' := [(0, .ref (ma 0))]) rfl ?_
  refine g_aload_n C dX4_reckon_0 0 rfl ?_
  refine g_get C (v := .int (nI n)) fl_X4_reckon_X4 0 rfl rfl 6 (by decide) fw_X4_reckon_fld109 rfl dX4_reckon_1 ?_
  refine g_if_le C (tgt := 43) dX4_reckon_4 (by decide) (fun h4_1 => ?_) (fun h4_1 => ?_)
  · refine g_iconst C (v := 0) dX4_reckon_43 ci_0 ?_
    refine g_istore_n C (lv' := [(1, .int 0), (0, .ref (ma 0))]) dX4_reckon_44 rfl (by decide) rfl ?_
    refine g_aload_n C dX4_reckon_45 1 rfl ?_
    refine g_iload_n C dX4_reckon_46 0 rfl ?_
    refine g_if_eq C (tgt := 54) dX4_reckon_47 (by decide) (fun _ => ?_) (fun h47_2 => absurd (by decide) h47_2)
    refine g_iconst C (v := 1) dX4_reckon_54 ci_1 ?_
    refine g_callVi C (c_X4_holds l D cI cO ma th u a9 sv z t n dg hn hz 1) gX4_reckon_X4_holds rfl ⟨rfl, rfl⟩ hd_X4_holds ⟨Nat.le_of_ble_eq_true rfl, Nat.le_of_ble_eq_true rfl⟩ [0, 1] rfl (fun _ _ => trivial) rfl (rest := []) rfl (Nat.le_of_ble_eq_true rfl) dX4_reckon_55 ⟨Nat.zero_le _, Nat.zero_le _⟩ 0 rfl rfl rfl (pre := []) (post := []) (ws' := (wM ma cI 1 u a9 sv z t n dg)) rfl rfl ?_
    refine g_if_ne C (tgt := 63) dX4_reckon_58 (by decide) (fun h58_3 => absurd (by decide) h58_3) (fun _ => ?_)
    refine g_iconst C (v := 0) dX4_reckon_61 ci_0 ?_
    exact g_iret C hret hlk dX4_reckon_62 rfl rfl
  · have hp1 : 1 ≤ n := posI h4_1
    refine g_aload_n C dX4_reckon_7 0 rfl ?_
    refine g_callVi C (c_X4_wrong l D cI cO ma th u a9 sv z t n dg hn hz) gX4_reckon_X4_wrong rfl ⟨rfl, rfl⟩ hd_X4_wrong ⟨Nat.le_of_ble_eq_true rfl, Nat.le_of_ble_eq_true rfl⟩ [0, 1] rfl (fun _ _ => trivial) rfl (rest := []) rfl (Nat.le_of_ble_eq_true rfl) dX4_reckon_8 ⟨Nat.zero_le _, Nat.zero_le _⟩ 0 rfl rfl rfl (pre := []) (post := []) (ws' := (wM ma cI th u a9 sv z t n dg)) rfl rfl ?_
    refine g_aload_n C dX4_reckon_11 0 rfl ?_
    refine g_get C (v := .int (nI n)) fl_X4_reckon_X4 0 rfl rfl 6 (by decide) fw_X4_reckon_fld109 rfl dX4_reckon_12 ?_
    refine g_icmp_ne C (tgt := 43) dX4_reckon_15 (by decide) (fun h15_4 => ?_) (fun h15_4 => ?_)
    · refine g_iconst C (v := 0) dX4_reckon_43 ci_0 ?_
      refine g_istore_n C (lv' := [(1, .int 0), (0, .ref (ma 0))]) dX4_reckon_44 rfl (by decide) rfl ?_
      refine g_aload_n C dX4_reckon_45 1 rfl ?_
      refine g_iload_n C dX4_reckon_46 0 rfl ?_
      refine g_if_eq C (tgt := 54) dX4_reckon_47 (by decide) (fun _ => ?_) (fun h47_5 => absurd (by decide) h47_5)
      refine g_iconst C (v := 1) dX4_reckon_54 ci_1 ?_
      refine g_callVi C (c_X4_holds l D cI cO ma th u a9 sv z t n dg hn hz 1) gX4_reckon_X4_holds rfl ⟨rfl, rfl⟩ hd_X4_holds ⟨Nat.le_of_ble_eq_true rfl, Nat.le_of_ble_eq_true rfl⟩ [0, 1] rfl (fun _ _ => trivial) rfl (rest := []) rfl (Nat.le_of_ble_eq_true rfl) dX4_reckon_55 ⟨Nat.zero_le _, Nat.zero_le _⟩ 0 rfl rfl rfl (pre := []) (post := []) (ws' := (wM ma cI 1 u a9 sv z t n dg)) rfl rfl ?_
      refine g_if_ne C (tgt := 63) dX4_reckon_58 (by decide) (fun h58_6 => absurd (by decide) h58_6) (fun _ => ?_)
      refine g_iconst C (v := 0) dX4_reckon_61 ci_0 ?_
      exact g_iret C hret hlk dX4_reckon_62 rfl rfl
    · refine g_aload_n C dX4_reckon_18 0 rfl ?_
      refine g_get C (v := .ref (ma 4)) fl_X4_reckon_X4 0 rfl rfl 5 (by decide) fw_X4_reckon_fld19 rfl dX4_reckon_19 ?_
      refine g_aload_n C dX4_reckon_22 0 rfl ?_
      refine g_get C (v := .int (nI n)) fl_X4_reckon_X4 0 rfl rfl 6 (by decide) fw_X4_reckon_fld109 rfl dX4_reckon_23 ?_
      refine g_iconst C (v := 1) dX4_reckon_26 ci_1 ?_
      refine g_isub C (v := nI (n - 1)) dX4_reckon_27 (pk_sub (b := 1) hp1) ?_
      refine g_iald C (x := t (n - 1)) 4 0 rfl rfl (n - 1) rfl (by omega) (by decide) rfl dX4_reckon_28 ?_
      refine g_bipush C (v := 48) dX4_reckon_29 cb_48 ?_
      refine g_bipush C (v := 57) dX4_reckon_31 cb_57 ?_
      refine g_callSi C (c_X4_in l D cI cO (t (n - 1)) 48 57) gX4_reckon_X4_in rfl ⟨rfl, rfl⟩ hd_X4_in ⟨Nat.le_of_ble_eq_true rfl, Nat.le_of_ble_eq_true rfl⟩ [0, 1] rfl (fun _ _ => trivial) rfl (rest := []) rfl (Nat.le_of_ble_eq_true rfl) dX4_reckon_33 ⟨Nat.zero_le _, Nat.zero_le _⟩ (pre := []) (post := (wM ma cI th u a9 sv z t n dg)) (ws' := (wM ma cI th u a9 sv z t n dg)) rfl rfl ?_
      refine g_if_eq C (tgt := 43) dX4_reckon_36 (by decide) (fun _ => ?_) (fun h36_7 => absurd (bf (fun z => hc ⟨h4_1, h15_4, z⟩)) h36_7)
      refine g_iconst C (v := 0) dX4_reckon_43 ci_0 ?_
      refine g_istore_n C (lv' := [(1, .int 0), (0, .ref (ma 0))]) dX4_reckon_44 rfl (by decide) rfl ?_
      refine g_aload_n C dX4_reckon_45 1 rfl ?_
      refine g_iload_n C dX4_reckon_46 0 rfl ?_
      refine g_if_eq C (tgt := 54) dX4_reckon_47 (by decide) (fun _ => ?_) (fun h47_8 => absurd (by decide) h47_8)
      refine g_iconst C (v := 1) dX4_reckon_54 ci_1 ?_
      refine g_callVi C (c_X4_holds l D cI cO ma th u a9 sv z t n dg hn hz 1) gX4_reckon_X4_holds rfl ⟨rfl, rfl⟩ hd_X4_holds ⟨Nat.le_of_ble_eq_true rfl, Nat.le_of_ble_eq_true rfl⟩ [0, 1] rfl (fun _ _ => trivial) rfl (rest := []) rfl (Nat.le_of_ble_eq_true rfl) dX4_reckon_55 ⟨Nat.zero_le _, Nat.zero_le _⟩ 0 rfl rfl rfl (pre := []) (post := []) (ws' := (wM ma cI 1 u a9 sv z t n dg)) rfl rfl ?_
      refine g_if_ne C (tgt := 63) dX4_reckon_58 (by decide) (fun h58_9 => absurd (by decide) h58_9) (fun _ => ?_)
      refine g_iconst C (v := 0) dX4_reckon_61 ci_0 ?_
      exact g_iret C hret hlk dX4_reckon_62 rfl rfl
theorem fw_X4_undo_fld30 : Cond.fieldLink RX4 30 "StuckRodsModel" "savedMany" "I" ∈ wsX4_undo := (List.mem_cons_of_mem _ (List.mem_append_left _ (List.mem_of_getElem? (i := 0) rfl)))
theorem fl_X4_undo_X4 : ∀ w ∈ wsX40, w ∈ wsX4_undo := fun _ h => List.mem_cons_of_mem _ (List.mem_append_right _ h)
theorem fw_X4_undo_fld7 : Cond.fieldLink RX4 7 "StuckRodsModel" "s" "[I" ∈ wsX4_undo := (List.mem_cons_of_mem _ (List.mem_append_left _ (List.mem_of_getElem? (i := 1) rfl)))
theorem fw_X4_undo_fld16 : Cond.fieldLink RX4 16 "StuckRodsModel" "saved" "[I" ∈ wsX4_undo := (List.mem_cons_of_mem _ (List.mem_append_left _ (List.mem_of_getElem? (i := 2) rfl)))
abbrev rmX4_undo : Room := { frames := 1, cells := 0, slots := 0, locals := 21 }
set_option maxHeartbeats 1000000 in
set_option maxRecDepth 100000 in
theorem c_X4_undo (l : Launch) (D : va_G) (cI cO : ClassId) (ma : Nat → Nat) (th : Int32) (u a9 sv : Nat → Int32) (z : Nat) (t : Nat → Int32) (n : Nat) (dg : Int64) (hn : n ≤ 60) (hz : z ≤ 6) (hp : 0 < z) : cR (fun _ => True) l yX4_undo wsX4_undo rmX4_undo D vwCl (tyA cI cO) [.ref (ma 0)] (wM ma cI th u a9 sv z t n dg) (some (.int (nI (z - 1)))) (wM ma cI 0 (yUn u sv z) a9 sv (z - 1) t n dg) := by
  refine cR_of (cc := cX4_undo) (maxL := 2) (ret := (some .int)) (by decide) rfl (Nat.le_of_ble_eq_true rfl) ?_
  intro p e s m below meth c A C hret hlk hnm hF
  refine g_lv [0] (lv' := [(0, .ref (ma 0))]) rfl ?_
  have K : ∀ (k i : Nat), k + i = 55 → gG p l e rmX4_undo s m ([.ref (ma 0)] : List Value).toArray below meth c D vwCl A s.heap 2 (MQ below (cQ (some (.int (nI (z - 1)))) (cB D vwCl (tyA cI cO) A (wM ma cI 0 (yUn u sv z) a9 sv (z - 1) t n dg)) A) ([.ref (ma 0)] : List Value).toArray s 0 0 A) 0 0 (wM ma cI 0 (cpF 0 (fun k => sv (55 * (z - 1) + k)) u i) a9 sv (z - 1) t n dg) 33 [(0, .ref (ma 0)), (1, .int (nI i))] [] := by
    intro k
    induction k with
    | zero =>
      intro i hi
      obtain rfl : i = 55 := by omega
      refine g_iload_n C dX4_undo_33 1 rfl ?_
      refine g_bipush C (v := 55) dX4_undo_34 cb_55 ?_
      refine g_icmp_ge C (tgt := 65) dX4_undo_36 (by decide) (fun _ => ?_) (fun h36_1 => absurd (by decide) h36_1)
      refine g_aload_n C dX4_undo_65 0 rfl ?_
      refine g_get C (v := .int (nI (z - 1))) fl_X4_undo_X4 0 rfl rfl 4 (by decide) fw_X4_undo_fld30 rfl dX4_undo_66 ?_
      exact g_iret C hret hlk dX4_undo_69 rfl rfl
    | succ k ih =>
      intro i hi
      have hiN : i < 55 := by omega
      refine g_iload_n C dX4_undo_33 1 rfl ?_
      refine g_bipush C (v := 55) dX4_undo_34 cb_55 ?_
      refine g_icmp_ge C (tgt := 65) dX4_undo_36 (by decide) (fun h36_2 => absurd h36_2 (geN hiN (by decide))) (fun _ => ?_)
      refine g_aload_n C dX4_undo_39 0 rfl ?_
      refine g_get C (v := .ref (ma 1)) fl_X4_undo_X4 0 rfl rfl 1 (by decide) fw_X4_undo_fld7 rfl dX4_undo_40 ?_
      refine g_iload_n C dX4_undo_43 1 rfl ?_
      refine g_aload_n C dX4_undo_44 0 rfl ?_
      refine g_get C (v := .ref (ma 3)) fl_X4_undo_X4 0 rfl rfl 3 (by decide) fw_X4_undo_fld16 rfl dX4_undo_45 ?_
      refine g_bipush C (v := 55) dX4_undo_48 cb_55 ?_
      refine g_aload_n C dX4_undo_50 0 rfl ?_
      refine g_get C (v := .int (nI (z - 1))) fl_X4_undo_X4 0 rfl rfl 4 (by decide) fw_X4_undo_fld30 rfl dX4_undo_51 ?_
      refine g_imul C (v := nI (55 * (z - 1))) dX4_undo_54 (pk_mul 55 _) ?_
      refine g_iload_n C dX4_undo_55 1 rfl ?_
      refine g_iadd C (v := nI (55 * (z - 1) + i)) dX4_undo_56 (nI_add _ _) ?_
      refine g_iald C (x := sv (55 * (z - 1) + i)) 3 0 rfl rfl (55 * (z - 1) + i) rfl (by omega) (by decide) rfl dX4_undo_57 ?_
      refine g_iast C (ws' := (wM ma cI 0 (upd (cpF 0 (fun k => sv (55 * (z - 1) + k)) u i) i (sv (55 * (z - 1) + i))) a9 sv (z - 1) t n dg)) 1 0 rfl rfl i rfl (by omega) (by decide) dX4_undo_58 rfl ?_
      refine g_iinc C (v := nI (i + 1)) (lv' := [(1, .int (nI (i + 1))), (0, .ref (ma 0))]) dX4_undo_59 1 rfl (inc_nI _) (by decide) rfl ?_
      refine g_goto C (tgt := 33) dX4_undo_62 (by decide) ?_
      refine g_lv [1, 0] (lv' := [(0, .ref (ma 0)), (1, .int (nI (i + 1)))]) rfl ?_
      refine g_ws (ws' := (wM ma cI 0 (cpF 0 (fun k => sv (55 * (z - 1) + k)) u (i + 1)) a9 sv (z - 1) t n dg)) (by rw [← cpF_0step (fun k => sv (55 * (z - 1) + k))]) ?_
      exact ih (i + 1) (by omega)
  refine g_aload_n C dX4_undo_0 0 rfl ?_
  refine g_aload_n C dX4_undo_1 0 rfl ?_
  refine g_get C (v := .int (nI z)) fl_X4_undo_X4 0 rfl rfl 4 (by decide) fw_X4_undo_fld30 rfl dX4_undo_2 ?_
  refine g_if_le C (tgt := 12) dX4_undo_5 (by decide) (fun h5_3 => absurd h5_3 (nI_nle hp (by omega))) (fun _ => ?_)
  refine g_iconst C (v := 0) dX4_undo_8 ci_0 ?_
  refine g_goto C (tgt := 13) dX4_undo_9 (by decide) ?_
  refine g_callVi C (c_X4_holds l D cI cO ma th u a9 sv z t n dg hn hz 0) gX4_undo_X4_holds rfl ⟨rfl, rfl⟩ hd_X4_holds ⟨Nat.le_of_ble_eq_true rfl, Nat.le_of_ble_eq_true rfl⟩ [0, 1] rfl (fun _ _ => trivial) rfl (rest := []) rfl (Nat.le_of_ble_eq_true rfl) dX4_undo_13 ⟨Nat.zero_le _, Nat.zero_le _⟩ 0 rfl rfl rfl (pre := []) (post := []) (ws' := (wM ma cI 0 u a9 sv z t n dg)) rfl rfl ?_
  refine g_if_ne C (tgt := 21) dX4_undo_16 (by decide) (fun _ => ?_) (fun h16_4 => absurd h16_4 (by decide))
  refine g_aload_n C dX4_undo_21 0 rfl ?_
  refine g_dup C dX4_undo_22 rfl ?_
  refine g_get C (v := .int (nI z)) fl_X4_undo_X4 0 rfl rfl 4 (by decide) fw_X4_undo_fld30 rfl dX4_undo_23 ?_
  refine g_iconst C (v := 1) dX4_undo_26 ci_1 ?_
  refine g_isub C (v := nI (z - 1)) dX4_undo_27 (pk_sub (b := 1) (by omega)) ?_
  refine g_put C (ws' := (wM ma cI 0 u a9 sv (z - 1) t n dg)) fl_X4_undo_X4 tyX4 tyX4_ok nmX4 0 rfl rfl 4 (by decide) fw_X4_undo_fld30 rfl (tyX4_ok 4 (by decide)) rfl rfl (Nat.le_of_ble_eq_true rfl) dX4_undo_28 rfl ?_
  refine g_iconst C (v := 0) dX4_undo_31 ci_0 ?_
  refine g_istore_n C (lv' := [(1, .int 0), (0, .ref (ma 0))]) dX4_undo_32 rfl (by decide) rfl ?_
  refine g_lv [1, 0] (lv' := [(0, .ref (ma 0)), (1, .int 0)]) rfl ?_
  refine g_ws (ws' := (wM ma cI 0 (cpF 0 (fun k => sv (55 * (z - 1) + k)) u 0) a9 sv (z - 1) t n dg)) (by rw [cpF_0]) ?_
  exact K 55 0 rfl
abbrev rmX4_undo_1 : Room := { frames := 1, cells := 0, slots := 0, locals := 21 }
set_option maxHeartbeats 1000000 in
set_option maxRecDepth 100000 in
theorem c_X4_undo_1 (l : Launch) (D : va_G) (cI cO : ClassId) (ma : Nat → Nat) (th : Int32) (u a9 sv : Nat → Int32) (z : Nat) (t : Nat → Int32) (n : Nat) (dg : Int64) (hn : n ≤ 60) (hz : z ≤ 6) (hp : z = 0) : cR (fun _ => True) l yX4_undo wsX4_undo rmX4_undo_1 D vwCl (tyA cI cO) [.ref (ma 0)] (wM ma cI th u a9 sv z t n dg) (some (.int 0)) (wM ma cI 1 u a9 sv z t n dg) := by
  refine cR_of (cc := cX4_undo) (maxL := 2) (ret := (some .int)) (by decide) rfl (Nat.le_of_ble_eq_true rfl) ?_
  intro p e s m below meth c A C hret hlk hnm hF
  refine g_lv [0] (lv' := [(0, .ref (ma 0))]) rfl ?_
  refine g_aload_n C dX4_undo_0 0 rfl ?_
  refine g_aload_n C dX4_undo_1 0 rfl ?_
  refine g_get C (v := .int (nI z)) fl_X4_undo_X4 0 rfl rfl 4 (by decide) fw_X4_undo_fld30 rfl dX4_undo_2 ?_
  refine g_if_le C (tgt := 12) dX4_undo_5 (by decide) (fun _ => ?_) (fun h5_1 => absurd (by rw [hp]; decide) h5_1)
  refine g_iconst C (v := 1) dX4_undo_12 ci_1 ?_
  refine g_callVi C (c_X4_holds l D cI cO ma th u a9 sv z t n dg hn hz 1) gX4_undo_X4_holds rfl ⟨rfl, rfl⟩ hd_X4_holds ⟨Nat.le_of_ble_eq_true rfl, Nat.le_of_ble_eq_true rfl⟩ [0, 1] rfl (fun _ _ => trivial) rfl (rest := []) rfl (Nat.le_of_ble_eq_true rfl) dX4_undo_13 ⟨Nat.zero_le _, Nat.zero_le _⟩ 0 rfl rfl rfl (pre := []) (post := []) (ws' := (wM ma cI 1 u a9 sv z t n dg)) rfl rfl ?_
  refine g_if_ne C (tgt := 21) dX4_undo_16 (by decide) (fun h16_2 => absurd (by decide) h16_2) (fun _ => ?_)
  refine g_iconst C (v := 0) dX4_undo_19 ci_0 ?_
  exact g_iret C hret hlk dX4_undo_20 rfl rfl
abbrev rmX4_numbers : Room := { frames := 4, cells := 0, slots := 0, locals := 93 }
set_option maxHeartbeats 1000000 in
set_option maxRecDepth 100000 in
theorem c_X4_numbers (l : Launch) (D : va_G) (cI cO : ClassId) (ma : Nat → Nat) (th : Int32) (u a9 sv : Nat → Int32) (z : Nat) (t : Nat → Int32) (n : Nat) (dg : Int64) (hn : n ≤ 60) (hz : z ≤ 6) (r : Nat) (hr : r < 9) : cR (fun _ => True) l yX4_numbers wsX4_numbers rmX4_numbers D vwCl (tyA cI cO) [.ref (ma 0), .int (nI r)] (wM ma cI th u a9 sv z t n dg) (some (.int (yNu u r 16))) (wM ma cI th u a9 sv z t n dg) := by
  refine cR_of (cc := cX4_numbers) (maxL := 4) (ret := (some .int)) (by decide) rfl (Nat.le_of_ble_eq_true rfl) ?_
  intro p e s m below meth c A C hret hlk hnm hF
  refine g_lv [0, 1] (lv' := [(0, .ref (ma 0)), (1, .int (nI r))]) rfl ?_
  have K : ∀ (k q : Nat), k + q = 16 → gG p l e rmX4_numbers s m ([.ref (ma 0), .int (nI r)] : List Value).toArray below meth c D vwCl A s.heap 4 (MQ below (cQ (some (.int (yNu u r 16))) (cB D vwCl (tyA cI cO) A (wM ma cI th u a9 sv z t n dg)) A) ([.ref (ma 0), .int (nI r)] : List Value).toArray s 0 0 A) 0 0 (wM ma cI th u a9 sv z t n dg) 4 [(0, .ref (ma 0)), (1, .int (nI r)), (2, .int (yNu u r q)), (3, .int (nI q))] [] := by
    intro k
    induction k with
    | zero =>
      intro q hn9 
      obtain rfl : q = 16 := by omega
      refine g_iload_n C dX4_numbers_4 3 rfl ?_
      refine g_bipush C (v := 15) dX4_numbers_5 cb_15 ?_
      refine g_icmp_gt C (tgt := 33) dX4_numbers_7 (by decide) (fun _ => ?_) (fun h7_1 => absurd (by decide) h7_1)
      refine g_iload_n C dX4_numbers_33 2 rfl ?_
      exact g_iret C hret hlk dX4_numbers_34 rfl rfl
    | succ k ih =>
      intro q hn9 
      have hq9 : q < 16 := by omega
      refine g_iload_n C dX4_numbers_4 3 rfl ?_
      refine g_bipush C (v := 15) dX4_numbers_5 cb_15 ?_
      refine g_icmp_gt C (tgt := 33) dX4_numbers_7 (by decide) (fun h7_2 => absurd h7_2 (gt15 hq9)) (fun _ => ?_)
      refine g_iload_n C dX4_numbers_10 2 rfl ?_
      refine g_aload_n C dX4_numbers_11 0 rfl ?_
      refine g_iload_n C dX4_numbers_12 1 rfl ?_
      refine g_iload_n C dX4_numbers_13 3 rfl ?_
      refine g_callVi C (c_X4_can l D cI cO ma th u a9 sv z t n dg hn hz r ((by omega)) (nI q)) gX4_numbers_X4_can rfl ⟨rfl, rfl⟩ hd_X4_can ⟨Nat.le_of_ble_eq_true rfl, Nat.le_of_ble_eq_true rfl⟩ [0, 1] rfl (fun _ _ => trivial) rfl (rest := [.int (yNu u r q)]) rfl (Nat.le_of_ble_eq_true rfl) dX4_numbers_14 ⟨Nat.zero_le _, Nat.zero_le _⟩ 0 rfl rfl rfl (pre := []) (post := []) (ws' := (wM ma cI th u a9 sv z t n dg)) rfl rfl ?_
      refine g_if_eq C (tgt := 24) dX4_numbers_17 (by decide) (fun h17_3 => ?_) (fun h17_3 => ?_)
      · have h17_3 := bz h17_3
        refine g_iconst C (v := 0) dX4_numbers_24 ci_0 ?_
        refine g_iadd C (v := yNu u r q) dX4_numbers_25 (Int32.add_zero _) ?_
        refine g_istore_n C (lv' := [(2, .int (yNu u r q)), (0, .ref (ma 0)), (1, .int (nI r)), (3, .int (nI q))]) dX4_numbers_26 rfl (by decide) rfl ?_
        refine g_iinc C (v := nI (q + 1)) (lv' := [(3, .int (nI (q + 1))), (2, .int (yNu u r q)), (0, .ref (ma 0)), (1, .int (nI r))]) dX4_numbers_27 3 rfl (inc_nI _) (by decide) rfl ?_
        refine g_goto C (tgt := 4) dX4_numbers_30 (by decide) ?_
        refine g_lv [2, 3, 1, 0] (lv' := [(0, .ref (ma 0)), (1, .int (nI r)), (2, .int (yNu u r q)), (3, .int (nI (q + 1)))]) rfl ?_
        have i9 := ih (q + 1) (by omega)
        rw [show yNu u r (q + 1) = yNu u r q by simp only [yNu, h17_3, Bool.false_eq_true, not_false_eq_true, not_true_eq_false, and_self, and_true, true_and, and_false, false_and, or_true, true_or, or_false, false_or, or_self, if_true, if_false, eq_self, ite_true, ite_false, reduceIte]] at i9
        exact i9
      · have h17_3 := bnz h17_3
        refine g_iconst C (v := 1) dX4_numbers_20 ci_1 ?_
        refine g_goto C (tgt := 25) dX4_numbers_21 (by decide) ?_
        refine g_iadd C (v := (yNu u r q) + 1) dX4_numbers_25 rfl ?_
        refine g_istore_n C (lv' := [(2, .int ((yNu u r q) + 1)), (0, .ref (ma 0)), (1, .int (nI r)), (3, .int (nI q))]) dX4_numbers_26 rfl (by decide) rfl ?_
        refine g_iinc C (v := nI (q + 1)) (lv' := [(3, .int (nI (q + 1))), (2, .int ((yNu u r q) + 1)), (0, .ref (ma 0)), (1, .int (nI r))]) dX4_numbers_27 3 rfl (inc_nI _) (by decide) rfl ?_
        refine g_goto C (tgt := 4) dX4_numbers_30 (by decide) ?_
        refine g_lv [2, 3, 1, 0] (lv' := [(0, .ref (ma 0)), (1, .int (nI r)), (2, .int ((yNu u r q) + 1)), (3, .int (nI (q + 1)))]) rfl ?_
        have i9 := ih (q + 1) (by omega)
        rw [show yNu u r (q + 1) = (yNu u r q) + 1 by simp only [yNu, eq_true h17_3, Bool.false_eq_true, not_false_eq_true, not_true_eq_false, and_self, and_true, true_and, and_false, false_and, or_true, true_or, or_false, false_or, or_self, if_true, if_false, eq_self, ite_true, ite_false, reduceIte]] at i9
        exact i9
  refine g_iconst C (v := 0) dX4_numbers_0 ci_0 ?_
  refine g_istore_n C (lv' := [(2, .int 0), (0, .ref (ma 0)), (1, .int (nI r))]) dX4_numbers_1 rfl (by decide) rfl ?_
  refine g_iconst C (v := 0) dX4_numbers_2 ci_0 ?_
  refine g_istore_n C (lv' := [(3, .int 0), (2, .int 0), (0, .ref (ma 0)), (1, .int (nI r))]) dX4_numbers_3 rfl (by decide) rfl ?_
  refine g_lv [2, 3, 1, 0] (lv' := [(0, .ref (ma 0)), (1, .int (nI r)), (2, .int 0), (3, .int 0)]) rfl ?_
  exact K 16 0 rfl
