/-! ===== what the law finds equal, call by call ===== -/
theorem lgz {x y : Int64} (h : x = y) : lg_cmp x y = 0 := by
  subst h
  unfold lg_cmp
  rw [if_neg (fun z => absurd (Int64.lt_iff_toInt_lt.mp z) (Int.lt_irrefl _)), if_pos rfl]
theorem lMove {g : Nat → Int32} {r : Nat} (hR : Rd9 g r) {f q : Int32} (h1 : ¬ f < 0) (h2 : f ≤ 2) (h3 : ¬ q < 0) (h4 : q ≤ 5) : (xMb g r f q = -1 ∧ ¬ yLo g r f q) ∨ (yLo g r f q ∧ ¬ xMb g r f q = -1 ∧ xMb g r f q = yMv g r f q) := by
  obtain ⟨a, ha, rfl⟩ := nI_of2 (M := 2) (n := 2) rfl h1 h2
  obtain ⟨b, hb, rfl⟩ := nI_of2 (M := 5) (n := 5) rfl h3 h4
  obtain ⟨k, hk, e1, e2⟩ := eA1 hR ha hb
  by_cases hl : yLo g r (nI a) (nI b)
  · rw [if_pos hl] at e2
    exact Or.inr ⟨hl, by rw [e2]; exact nIm1 (by omega), by rw [e1, e2]⟩
  · rw [if_neg hl] at e2
    exact Or.inl ⟨e2, hl⟩
theorem lMoveI {g : Nat → Int32} {r : Nat} (hI : Iv g) {f q k : Int32} (h1 : ¬ f < 0) (h2 : f ≤ 2) (h3 : ¬ q < 0) (h4 : q ≤ 5) : Iv (xPl g r f q k) := by
  obtain ⟨a, ha, rfl⟩ := nI_of2 (M := 2) (n := 2) rfl h1 h2
  obtain ⟨b, hb, rfl⟩ := nI_of2 (M := 5) (n := 5) rfl h3 h4
  exact eIvPl hI ha hb
theorem lStickI {g : Nat → Int32} {r : Nat} (hI : Iv g) {w : Int32} (h1 : ¬ w < 0) (h2 : w ≤ 3) : Iv (upd g (6 * r + 4) w) := by
  obtain ⟨a, ha, rfl⟩ := nI_of2 (M := 3) (n := 3) rfl h1 h2
  refine ⟨fun r1 hr1 => ?_, ?_⟩
  · obtain ⟨F, O, S, L, hF, hO, hS, hL, e1, e2, e4, e3⟩ := hI.1 r1 hr1
    by_cases hq : r1 = r
    · subst hq
      exact ⟨F, O, a, L, hF, hO, ha, hL, by rw [pk_un (by omega), e1], by rw [pk_un (by omega), e2], by rw [pk_us], by rw [pk_un (by omega), e3]⟩
    · exact ⟨F, O, S, L, hF, hO, hS, hL, by rw [pk_un (by omega), e1], by rw [pk_un (by omega), e2], by rw [pk_un (by omega), e4], by rw [pk_un (by omega), e3]⟩
  · obtain ⟨m, hm, e⟩ := hI.2
    exact ⟨m, hm, by rw [pk_un (by omega), e]⟩
theorem lSetI {g : Nat → Int32} (hI : Iv g) {v : Int32} (h1 : ¬ v < 0) (h2 : v ≤ 9) : Iv (upd g 0 v) := by
  obtain ⟨a, ha, rfl⟩ := nI_of2 (M := 9) (n := 9) rfl h1 h2
  refine ⟨fun r1 hr1 => ?_, a, ha, pk_us⟩
  obtain ⟨F, O, S, L, hF, hO, hS, hL, e1, e2, e4, e3⟩ := hI.1 r1 hr1
  exact ⟨F, O, S, L, hF, hO, hS, hL, by rw [pk_un (by omega), e1], by rw [pk_un (by omega), e2], by rw [pk_un (by omega), e4], by rw [pk_un (by omega), e3]⟩
theorem lAdd {g : Nat → Int32} {r : Nat} (hr : r < 9) (hI : Iv g) {v : Int32} (h : ¬ (xCh g r v 0).1 = -1) : (xCh g r v 1).1 = yAm (yT0 g r v).2 - yAm g ∧ (yT0 g r v).2 = (xCh g r v 1).2 ∧ Iv (xCh g r v 1).2 ∧ ¬ yK0 g r v = -1 := by
  rcases eT0 hr hI v with ⟨h1, b, hb, h2, h3, h4, h5⟩ | ⟨h1, h6, h2⟩
  · rw [h3]
    exact ⟨by rw [h4, add_sub_l], rfl, h5, by rw [eK0 hr hI]; exact h⟩
  · exact absurd h2 h
theorem lPay {g : Nat → Int32} {r : Nat} (hr : r < 9) (hI : Iv g) (h : ¬ (xCh g r (g (6 * r + 3)) 0).1 = -1) : (xPa g r).1 = yAm (yT1 g r).2 - yAm g ∧ (yT1 g r).2 = (xPa g r).2 ∧ Iv (xPa g r).2 ∧ ¬ yK1 g r = -1 := by
  rcases (eT1 hr hI).1 with ⟨h1, b, hb, h2, h3, h4, h5⟩ | ⟨h1, h6, h2⟩
  · rw [h3]
    exact ⟨by rw [h4, add_sub_l], rfl, h5, by rw [eK1 hr hI]; exact h⟩
  · exact absurd h2 h
theorem lTidy {g a9 : Nat → Int32} (hI : Iv g) : (xTd g 9).1 = yAm (yTd g a9 9).1 - yAm g ∧ (yTd g a9 9).1 = (xTd g 9).2 ∧ Iv (xTd g 9).2 := by
  obtain ⟨h1, h2, h3⟩ := eTd (a9 := a9) hI 9 (by decide)
  exact ⟨by rw [h2, add_sub_l], h1.symm, by rw [h1]; exact h3⟩
theorem lDcmpT : ∀ c : Nat, c < 145 → Op.cmpValue (FP.dcmp (share c) (share c)) CmpOp.l = 0 := fun c hc => of_decide_eq_true (co_dec (N := 145) (P := fun c => decide (Op.cmpValue (FP.dcmp (share c) (share c)) CmpOp.l = 0) = true) (by decide +kernel) (i := c) hc)
theorem lLoose {g : Nat → Int32} (hI : Iv g) : Op.cmpValue (FP.dcmp (xLo g) (yLo9 g)) CmpOp.l = 0 := by
  rw [eLo hI]
  obtain ⟨c, hc, e⟩ := xLs_n g
  have es : xLo g = share c := by unfold xLo share; rw [e]
  rw [es]
  exact lDcmpT c hc
theorem undo_ws {D : va_G} {cl : List vw_C} {w1 w2 w3 w4 w5 : va_W} {ma : Nat → Nat} {cI : ClassId} {th : Int32} {u u1 a9 sv : Nat → Int32} {z : Nat} {t : Nat → Int32} {n : Nat} {dg : Int64} {H : Heap} (h : ∀ j, j < 55 → u j = u1 j)
    (hP : va_P D cl (w1 ++ (w2 ++ (w3 ++ (w4 ++ (w5 ++ wM ma cI th u a9 sv z t n dg))))) H) : va_P D cl (w1 ++ (w2 ++ (w3 ++ (w4 ++ (w5 ++ wM ma cI th u1 a9 sv z t n dg))))) H :=
  va_P.app (wP_l hP) (va_P.app (wP_l (wP_r hP)) (va_P.app (wP_l (wP_r (wP_r hP))) (va_P.app (wP_l (wP_r (wP_r (wP_r hP)))) (va_P.app (wP_l (wP_r (wP_r (wP_r (wP_r hP))))) (wM_eq h (fun _ _ => rfl) (wP_r (wP_r (wP_r (wP_r (wP_r hP))))))))))
/-- what the law keeps from call to call -/
def LI (t : Nat → Int32) (n : Nat) (G : Nat → Nat → Int32) (g : Nat → Int32) (o z : Nat) (sv : Nat → Int32) : Prop := n ≤ 60 ∧ o < 6 ∧ z ≤ 6 ∧ Iv g ∧ rg G o z sv ∧ ∀ k, k < z → Iv (G ((o + k) % 6))
theorem LI_keep {t : Nat → Int32} {n : Nat} {G : Nat → Nat → Int32} {g g1 : Nat → Int32} {o z : Nat} {sv : Nat → Int32} (h : LI t n G g o z sv) (h1 : Iv g1) : LI t n (kG G o z g) g1 (kO o z) (kM z + 1) (ySv g sv z) :=
  ⟨h.1, kO_lt h.2.1, by have := kM_lt h.2.2.1; omega, h1, rg_keep h.2.1 h.2.2.1 h.2.2.2.2.1, rg_iv h.2.1 h.2.2.1 h.2.2.2.1 h.2.2.2.2.2⟩
theorem LI_undo {t : Nat → Int32} {n : Nat} {G : Nat → Nat → Int32} {g : Nat → Int32} {o z : Nat} {sv : Nat → Int32} (h : LI t n G g o z sv) (hp : 0 < z) : LI t n G (G (rI o z)) o (z - 1) sv :=
  ⟨h.1, h.2.1, by have := h.2.2.1; omega, h.2.2.2.2.2 (z - 1) (by omega), rg_back h.2.2.2.2.1, fun k hk => h.2.2.2.2.2 k (by omega)⟩
theorem LI_text {t t1 : Nat → Int32} {n n1 : Nat} {G : Nat → Nat → Int32} {g : Nat → Int32} {o z : Nat} {sv : Nat → Int32} (h : LI t n G g o z sv) (h1 : n1 ≤ 60) : LI t1 n1 G g o z sv := ⟨h1, h.2⟩
theorem LI_0 : LI (fun _ => 0) 0 (fun _ => g00) g00 0 0 (fun _ => 0) := by
  refine ⟨by decide, by decide, by decide, ⟨fun r hr => ⟨0, 0, 0, 9, by decide, by decide, by decide, by decide, ?_, ?_, ?_, ?_⟩, 3, by decide, rfl⟩, fun k j hk => by omega, fun k hk => by omega⟩
  · exact pk_un (by omega)
  · exact pk_un (by omega)
  · exact pk_un (by omega)
  · exact Eq.trans (pk_un (f := fun _ => 0) (k := 0) (x := 3) (by omega)) (by decide)
theorem lHead {L q : Nat} (hL : L ≤ 2048) (hq : q ≤ 512) : (nI L - 4 < nI (4 * q)) ↔ L < 4 * q + 4 := by
  rw [Int32.lt_iff_toInt_lt, show (4 : Int32) = nI 4 from rfl, pk_sub_toInt (by omega) (by decide), nI_toInt (by omega)]
  omega
theorem orB {v lo hi : Int32} (h : ¬ (v < lo ∨ ¬ v ≤ hi)) : ¬ v < lo ∧ v ≤ hi := ⟨fun z => h (Or.inl z), Decidable.byContradiction fun z => h (Or.inr z)⟩
theorem orR {v : Int32} (h : ¬ (v < 0 ∨ ¬ v < 9)) : ∃ r : Nat, r < 9 ∧ v = nI r := by
  have h1 : ¬ v < 0 := fun z => h (Or.inl z)
  have h2 : v < 9 := Decidable.byContradiction fun z => h (Or.inr z)
  obtain ⟨j, hj, rfl⟩ := nI_of h1
  exact ⟨j, (nI_ltI (b := 9) hj (by decide)).mp h2, rfl⟩
theorem orW {v : Int32} (h : ¬ (v < 0 ∨ ¬ v ≤ 7)) : ∃ w : Nat, w ≤ 7 ∧ v = nI w := nI_of2 (M := 7) (n := 7) rfl (orB h).1 (orB h).2
theorem orM {v : Int32} (h : ¬ (v < 0 ∨ ¬ v ≤ 999999999)) : ∃ w : Nat, w ≤ 999999999 ∧ v = nI w := nI_of2 (M := 999999999) (n := 999999999) rfl (orB h).1 (orB h).2
/-! what the tables and the start say -/
theorem nIn {w : Cond} {b : Nat} {s : State} (hgv : (Jvm.Cond.and given_1 narrow_1).before #[Value.ref b] s = true) (h : w ∈ flatC (Jvm.Cond.and given_1 narrow_1)) : w.before #[Value.ref b] s = true := flat_of_before _ hgv w h
theorem law_str {b : Nat} {s : State} (hts : ∀ w ∈ lw_tbl, w.before #[Value.ref b] s = true) (hgv : (Jvm.Cond.and given_1 narrow_1).before #[Value.ref b] s = true) {is : Nat} {tx : String} (h1 : Cond.stringRef RX3 is tx ∈ lw_tbl) (h2 : Cond.exactly (.string RX3 is) "java/lang/String" ∈ flatC (Jvm.Cond.and given_1 narrow_1)) : ∃ a, vk_R RX3 is tx a s := by
  obtain ⟨a, c, cA, kA, q1, -⟩ := Cond.exactly_spec (args := #[Value.ref b]) (first := s) (o := none) (s := s) (idx := []) (nIn hgv h2)
  exact ⟨a, vk_R.of (hts _ h1) q1⟩
theorem law_nc {b : Nat} {s : State} (hgv : (Jvm.Cond.and given_1 narrow_1).before #[Value.ref b] s = true) {C T : String} (h : Cond.not (.castable C T) ∈ flatC (Jvm.Cond.and given_1 narrow_1)) : va_Nc C T s := va_Nc.of (nIn hgv h)
theorem law_sF {b : Nat} {s : State} (hts : ∀ w ∈ lw_tbl, w.before #[Value.ref b] s = true) (hgv : (Jvm.Cond.and given_1 narrow_1).before #[Value.ref b] s = true) : sF s.vm :=
  ⟨⟨s, rfl, va_Nw.of rfl (hts _ (by decide +kernel)), va_Nw.of rfl (hts _ (by decide +kernel))⟩, s, rfl,
   List.forall_mem_cons.mpr ⟨law_str hts hgv (by decide +kernel) (by decide +kernel), List.forall_mem_cons.mpr ⟨law_str hts hgv (by decide +kernel) (by decide +kernel), List.forall_mem_cons.mpr ⟨law_str hts hgv (by decide +kernel) (by decide +kernel), List.forall_mem_cons.mpr ⟨law_str hts hgv (by decide +kernel) (by decide +kernel), List.forall_mem_cons.mpr ⟨law_str hts hgv (by decide +kernel) (by decide +kernel), List.forall_mem_cons.mpr ⟨law_str hts hgv (by decide +kernel) (by decide +kernel), List.forall_mem_cons.mpr ⟨law_str hts hgv (by decide +kernel) (by decide +kernel), List.forall_mem_cons.mpr ⟨law_str hts hgv (by decide +kernel) (by decide +kernel), fun _ h => absurd h List.not_mem_nil⟩⟩⟩⟩⟩⟩⟩⟩,
   List.forall_mem_cons.mpr ⟨va_Nw.of rfl (hts _ (by decide +kernel)), List.forall_mem_cons.mpr ⟨va_Nw.of rfl (hts _ (by decide +kernel)), List.forall_mem_cons.mpr ⟨va_Nw.of rfl (hts _ (by decide +kernel)), fun _ h => absurd h List.not_mem_nil⟩⟩⟩,
   List.forall_mem_cons.mpr ⟨va_Nw.of rfl (hts _ (by decide +kernel)), List.forall_mem_cons.mpr ⟨va_Nw.of rfl (hts _ (by decide +kernel)), List.forall_mem_cons.mpr ⟨va_Nw.of rfl (hts _ (by decide +kernel)), fun _ h => absurd h List.not_mem_nil⟩⟩⟩,
   List.forall_mem_cons.mpr ⟨List.forall_mem_cons.mpr ⟨fun h => absurd rfl h, List.forall_mem_cons.mpr ⟨fun _ => law_nc hgv (by decide +kernel), List.forall_mem_cons.mpr ⟨fun _ => law_nc hgv (by decide +kernel), fun _ h => absurd h List.not_mem_nil⟩⟩⟩, List.forall_mem_cons.mpr ⟨List.forall_mem_cons.mpr ⟨fun _ => law_nc hgv (by decide +kernel), List.forall_mem_cons.mpr ⟨fun h => absurd rfl h, List.forall_mem_cons.mpr ⟨fun _ => law_nc hgv (by decide +kernel), fun _ h => absurd h List.not_mem_nil⟩⟩⟩, List.forall_mem_cons.mpr ⟨List.forall_mem_cons.mpr ⟨fun _ => law_nc hgv (by decide +kernel), List.forall_mem_cons.mpr ⟨fun _ => law_nc hgv (by decide +kernel), List.forall_mem_cons.mpr ⟨fun h => absurd rfl h, fun _ h => absurd h List.not_mem_nil⟩⟩⟩, fun _ h => absurd h List.not_mem_nil⟩⟩⟩⟩
theorem law_zF {b : Nat} {s : State} (hts : ∀ w ∈ lw_tbl, w.before #[Value.ref b] s = true) (hgv : (Jvm.Cond.and given_1 narrow_1).before #[Value.ref b] s = true) : zF (fun q => s.heap.size ≤ q) s s.heap :=
  ⟨vx_Zqof (hts _ (by decide +kernel)) (hts _ (by decide +kernel)) (nIn hgv (by decide +kernel)) (fun a ha => Nat.not_le.mpr ha), vx_Zqof (hts _ (by decide +kernel)) (hts _ (by decide +kernel)) (nIn hgv (by decide +kernel)) (fun a ha => Nat.not_le.mpr ha)⟩
theorem law_aF {b : Nat} {s : State} (hts : ∀ w ∈ lw_tbl, w.before #[Value.ref b] s = true) : aF s.vm := ⟨s, rfl, va_AO.of (hts _ (by decide +kernel))⟩
theorem arr_prim {b : Nat} {s : State} {ty : FieldType} (h : (Cond.arrayClass ty).before #[Value.ref b] s = true) : ∃ cA : ClassId, ArrOfT s cA ty ∧ s.vm.findClass ("[" ++ ty.toString) = some cA := by
  obtain ⟨cA, k, comp, h1, h2, h3⟩ := Cond.arrayClass_spec (args := #[Value.ref b]) (first := s) (o := none) (s := s) (idx := []) h
  exact ⟨cA, fun n z => ⟨fun k h => (by cases h), k, h2, comp, h3⟩, h1⟩
theorem law_K {b : Nat} {s : State} (hts : ∀ w ∈ lw_tbl, w.before #[Value.ref b] s = true) : ∃ (D : va_G) (cI cO cJ : ClassId), va_K D vwCl (tyW cI cO cJ) s := by
  obtain ⟨c0, i0, k0⟩ := u_known (n := 7) hts inX0 (hts _ (by decide +kernel))
  obtain ⟨c1, i1, k1⟩ := u_known (n := 3) hts inX1 (hts _ (by decide +kernel))
  obtain ⟨c2, i2, k2⟩ := u_known (n := 2) hts inX2 (hts _ (by decide +kernel))
  obtain ⟨c3, i3, k3⟩ := u_known (n := 3) hts inX3 (hts _ (by decide +kernel))
  obtain ⟨c4, i4, k4⟩ := u_known (n := 8) hts inX4 (hts _ (by decide +kernel))
  obtain ⟨cI, aI, fI⟩ := arr_prim (ty := .int) (hts _ (by decide +kernel))
  obtain ⟨cJ, aJ, fJ⟩ := arr_prim (ty := .long) (hts _ (by decide +kernel))
  obtain ⟨comp, cO, k, g1, -, g3, g4, g5⟩ := Cond.arrayOver_spec (args := #[Value.ref b]) (first := s) (o := none) (s := s) (idx := []) (n := RX0) (hts _ (by decide +kernel))
  refine ⟨⟨fun c => match c with | 0 => c0 | 1 => c1 | 2 => c2 | 3 => c3 | _ => c4, fun c => match c with | 0 => i0 | 1 => i1 | 2 => i2 | 3 => i3 | _ => i4⟩, cI, cO, cJ, ?_, ?_⟩
  · intro c q hq
    have hc : c < 5 := (List.getElem?_eq_some_iff.mp hq).1
    rcases (show c = 0 ∨ c = 1 ∨ c = 2 ∨ c = 3 ∨ c = 4 by omega) with e | e | e | e | e <;> subst e <;> cases hq
    · exact k0
    · exact k1
    · exact k2
    · exact k3
    · exact k4
  · intro c q hq
    have hc : c < 3 := (List.getElem?_eq_some_iff.mp hq).1
    rcases (show c = 0 ∨ c = 1 ∨ c = 2 by omega) with e | e | e <;> subst e <;> cases hq
    · exact ⟨aI, fI⟩
    · exact ⟨fun n z => ⟨fun k h => (by cases h), k, g3, comp, g4⟩, k, comp, g3, g4, g1, g5⟩
    · exact ⟨aJ, fJ⟩
