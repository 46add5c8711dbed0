/-! a rod's own number; to add a number, to pay, to put in order -/
def tO (F O S : Nat) : Bool := decide (xTq (fun j => if j = 1 then nI F else if j = 2 then nI O else nI S) 0 (5 * nI F + nI O) = (0, nI F))
theorem eOwnT : ∀ F, F < 3 → ∀ O, O < 6 → ∀ S, S < 4 → tO F O S = true := by decide +kernel
theorem eOwn {g : Nat → Int32} {r : Nat} (hR : Rd9 g r) : xTq g r (xSh g r) = (0, g (6 * r + 1)) := by
  obtain ⟨F, O, S, L, hF, hO, hS, -, e1, e2, e4, -⟩ := hR
  have h := of_decide_eq_true (eOwnT F (by omega) O (by omega) S (by omega))
  rw [← e1] at h
  rw [← h]
  unfold xSh xTq
  simp only [xTf, xTs, xMb, e1, e2, e4]
  rfl
theorem eOwnV {g : Nat → Int32} {r : Nat} (hR : Rd9 g r) : xTv g r (xSh g r) = 0 := by unfold xTv; rw [eOwn hR]
theorem upd_own (g : Nat → Int32) (k : Nat) : upd g k (g k) = g := by
  funext j
  by_cases h : j = k
  · rw [h, pk_us]
  · rw [pk_un h]
theorem eOwnN {g : Nat → Int32} {r : Nat} (hR : Rd9 g r) : xTn g r (xSh g r) 1 = g := by
  unfold xTn
  rw [if_neg (by decide), eOwn hR]
  dsimp only
  rw [if_neg (by decide)]
  have e : xSh g r - 5 * g (6 * r + 1) = g (6 * r + 2) := by
    unfold xSh
    rw [Int32.add_comm, Int32.add_sub_cancel]
  rw [e]
  funext j
  rw [xPl_at]
  by_cases h5 : j = 6 * r + 5
  · rw [if_pos h5, Int32.add_zero, h5]
  · rw [if_neg h5]
    by_cases h2 : j = 6 * r + 2
    · rw [if_pos h2, h2]
    · rw [if_neg h2]
      by_cases h1 : j = 6 * r + 1
      · rw [if_pos h1, h1]
      · rw [if_neg h1]
theorem sg_eq {v : Int32} (h : ¬ v = 0) : xSg v = if ¬ v ≤ 0 then 1 else -1 := by
  unfold xSg
  by_cases hc : v ≤ 0
  · rw [if_neg (fun z => h (Int32.le_antisymm hc z)), if_neg (fun z => z hc)]
  · rw [if_pos (Int32.le_of_lt (Int32.not_le.mp hc)), if_pos hc]
theorem sg_or (v : Int32) : xSg v = 1 ∨ xSg v = -1 := by
  unfold xSg
  by_cases h : 0 ≤ v
  · exact Or.inl (if_pos h)
  · exact Or.inr (if_neg h)
/-- done (with so many moves), or not to be done -/
def dn (T : Int32) (X : Int32 × (Nat → Int32)) (Y : Bool × (Nat → Int32)) (g : Nat → Int32) : Prop :=
  (Y.1 = true ∧ ∃ b : Nat, b ≤ 100 ∧ T = nI b ∧ X = (nI b, Y.2) ∧ yAm Y.2 = yAm g + nI b ∧ Iv Y.2) ∨ (Y.1 = false ∧ T = -1)
theorem eTc {g : Nat → Int32} {r : Nat} {s : Int32} (hs : s = 1 ∨ s = -1) (hr : r < 9) (hI : Iv g) (v : Int32) :
    dn (xTc g r v s 0).1 (xTc g r v s 1) (if ¬ yFv g r v = -1 then yCa s (9 - (r + 1)) (yCo g r v) (r + 1) else (false, g)) g := by
  rcases eT (hI.1 r hr) v with ⟨x1, x2, -⟩ | ⟨f, k, o, hf, hk, ho, x1, -, x2, -, x3, x4⟩
  · rw [if_neg (fun z => z x2)]
    refine Or.inr ⟨rfl, ?_⟩
    unfold xTc
    rw [if_pos x1]
  · have hn : ¬ xTv g r v = -1 := by rw [x1]; exact nIm1 (by omega)
    rw [if_pos x2]
    have z0 : (xTc g r v s 0).1 = (xCa s 0 (8 - r) g (r + 1) (nI k)).1 := by
      unfold xTc
      rw [if_neg hn, xTn_0, x1]
    have z1 : xTc g r v s 1 = xCa s 1 (8 - r) (xPl g r (nI f) (nI o) (nI k)) (r + 1) (nI k) := by
      unfold xTc
      rw [if_neg hn, x3, x1]
    rw [z0, z1, x4, show 9 - (r + 1) = 8 - r by omega]
    have hA : agr (xPl g r (nI f) (nI o) (nI k)) g (r + 1) := agr_Pl ⟨fun _ _ => rfl, rfl⟩
    rcases eCa hs (8 - r) (r + 1) (by omega) (xPl g r (nI f) (nI o) (nI k)) g k (eIvPl hI hf ho) hA (by omega) with ⟨w1, b, hb, w2, w3, w4, w5⟩ | w
    · refine Or.inl ⟨w1, k + b, by omega, w2, w3, ?_, w5⟩
      rw [w4, eAmPl hr, Int32.add_assoc, nI_add]
    · exact Or.inr w
theorem eCh {g : Nat → Int32} {r : Nat} (hr : r < 9) (hI : Iv g) (v : Int32) : dn (xCh g r v 0).1 (xCh g r v 1) (yAd g r v) g := by
  have hR := hI.1 r hr
  by_cases hv : v = 0
  · subst hv
    have z2 : yAd g r 0 = (true, g) := by unfold yAd; rw [if_pos rfl]
    have h0 : xTv g r (xSh g r + 0) = 0 := by rw [Int32.add_zero, eOwnV hR]
    have z0 : (xCh g r 0 0).1 = nI 0 := by
      unfold xCh
      rw [if_pos (by rw [h0]; decide), h0]; rfl
    have z1 : xCh g r 0 1 = (nI 0, g) := by
      unfold xCh
      rw [if_pos (by rw [h0]; decide), h0, Int32.add_zero, eOwnN hR]; rfl
    rw [z0, z1, z2]
    exact Or.inl ⟨rfl, 0, by decide, rfl, rfl, (Int32.add_zero _).symm, hI⟩
  · have z2 : yAd g r v = if ¬ yFv g r (xSh g r + v) = -1 then (true, yCo g r (xSh g r + v)) else (if ¬ yFv g r (xSh g r + v - 10 * xSg v) = -1 then yCa (xSg v) (9 - (r + 1)) (yCo g r (xSh g r + v - 10 * xSg v)) (r + 1) else (false, g)) := by
      unfold yAd
      rw [if_neg hv, ← sg_eq hv]
    rcases eT hR (xSh g r + v) with ⟨x1, x2, -⟩ | ⟨f, k, o, hf, hk, ho, x1, -, x2, -, x3, x4⟩
    · rw [z2, if_neg (fun z => z x2)]
      have z0 : (xCh g r v 0).1 = (xTc g r (xSh g r + v - 10 * xSg v) (xSg v) 0).1 := by unfold xCh; rw [if_neg (fun z => z x1)]
      have z1 : xCh g r v 1 = xTc g r (xSh g r + v - 10 * xSg v) (xSg v) 1 := by unfold xCh; rw [if_neg (fun z => z x1)]
      rw [z0, z1]
      exact eTc (sg_or v) hr hI _
    · rw [z2, if_pos x2]
      have hn : ¬ xTv g r (xSh g r + v) = -1 := by rw [x1]; exact nIm1 (by omega)
      have z0 : (xCh g r v 0).1 = nI k := by unfold xCh; rw [if_pos hn, x1]
      have z1 : xCh g r v 1 = (nI k, xPl g r (nI f) (nI o) (nI k)) := by unfold xCh; rw [if_pos hn, x1, x3]
      rw [z0, z1, x4]
      exact Or.inl ⟨rfl, k, by omega, rfl, rfl, eAmPl hr, eIvPl hI hf ho⟩
/-- what is put back if it cannot be done -/
def dm (T : Int32) (X : Int32 × (Nat → Int32)) (Y : Bool × (Nat → Int32)) (g : Nat → Int32) : Prop :=
  (Y.1 = true ∧ ∃ b : Nat, b ≤ 100 ∧ T = nI b ∧ X = (nI b, Y.2) ∧ yAm Y.2 = yAm g + nI b ∧ Iv Y.2) ∨ (Y.1 = false ∧ Y.2 = g ∧ T = -1)
theorem dn_dm {T : Int32} {X : Int32 × (Nat → Int32)} {Y : Bool × (Nat → Int32)} {g : Nat → Int32} (h : dn T X Y g) : dm T X (if Y.1 = true then (true, Y.2) else (false, g)) g := by
  rcases h with ⟨h1, h2⟩ | ⟨h1, h2⟩
  · rw [if_pos h1]; exact Or.inl ⟨rfl, h2⟩
  · rw [if_neg (by rw [h1]; decide)]; exact Or.inr ⟨rfl, rfl, h2⟩
theorem eT0 {g : Nat → Int32} {r : Nat} (hr : r < 9) (hI : Iv g) (v : Int32) : dm (xCh g r v 0).1 (xCh g r v 1) (yT0 g r v) g := dn_dm (eCh hr hI v)
theorem add_sub_l (x y : Int32) : x + y - x = y := by rw [Int32.add_comm, Int32.add_sub_cancel]
theorem eK0 {g : Nat → Int32} {r : Nat} (hr : r < 9) (hI : Iv g) (v : Int32) : yK0 g r v = (xCh g r v 0).1 := by
  unfold yK0
  rcases eT0 hr hI v with ⟨h1, b, -, h2, -, h4, -⟩ | ⟨h1, -, h2⟩
  · rw [if_pos h1, h4, h2, add_sub_l]
  · rw [if_neg (by rw [h1]; decide), h2]
theorem eIv3 {g : Nat → Int32} {r : Nat} (hI : Iv g) : Iv (upd g (6 * r + 3) 0) := by
  refine ⟨fun r1 hr1 => ?_, ?_⟩
  · obtain ⟨F, O, S, L, hF, hO, hS, hL, e1, e2, e4, e3⟩ := hI.1 r1 hr1
    by_cases hq : r1 = r
    · subst hq
      exact ⟨F, O, S, 9, hF, hO, hS, by decide, by rw [pk_un (by omega), e1], by rw [pk_un (by omega), e2], by rw [pk_un (by omega), e4], by rw [pk_us]; decide⟩
    · exact ⟨F, O, S, L, hF, hO, hS, hL, by rw [pk_un (by omega), e1], by rw [pk_un (by omega), e2], by rw [pk_un (by omega), e4], by rw [pk_un (by omega), e3]⟩
  · obtain ⟨m, hm, e⟩ := hI.2
    exact ⟨m, hm, by rw [pk_un (by omega), e]⟩
theorem eT1 {g : Nat → Int32} {r : Nat} (hr : r < 9) (hI : Iv g) : dm (xCh g r (g (6 * r + 3)) 0).1 (xPa g r) (yT1 g r) g ∧ ((yT1 g r).1 = false → xPa g r = (0, g)) := by
  have h := eCh hr hI (g (6 * r + 3))
  unfold yT1 yPy
  dsimp only
  rcases h with ⟨h1, b, hb, h2, h3, h4, h5⟩ | ⟨h1, h2⟩
  · rw [if_pos h1]
    refine ⟨Or.inl ⟨rfl, b, hb, h2, ?_, ?_, eIv3 h5⟩, fun z => by cases z⟩
    · unfold xPa
      rw [if_neg (by rw [h2]; exact nIm1 (by omega)), h3]
    · show yAm (upd _ (6 * r + 3) 0) = _
      unfold yAm
      rw [eAmU 9 (fun j _ => by omega)]
      exact h4
  · rw [if_neg (by rw [h1]; decide)]
    exact ⟨Or.inr ⟨rfl, rfl, h2⟩, fun _ => by unfold xPa; rw [if_pos h2]⟩
theorem eK1 {g : Nat → Int32} {r : Nat} (hr : r < 9) (hI : Iv g) : yK1 g r = (xCh g r (g (6 * r + 3)) 0).1 := by
  unfold yK1
  rcases (eT1 hr hI).1 with ⟨h1, b, -, h2, -, h4, -⟩ | ⟨h1, -, h2⟩
  · rw [if_pos h1, h4, h2, add_sub_l]
  · rw [if_neg (by rw [h1]; decide), h2]
theorem eShN {g : Nat → Int32} {r : Nat} (hR : Rd9 g r) : ∃ c : Nat, c ≤ 15 ∧ xSh g r = nI c := by
  obtain ⟨F, O, S, L, hF, hO, hS, -, e1, e2, -⟩ := hR
  refine ⟨5 * F + O, by omega, ?_⟩
  unfold xSh
  rw [e1, e2, show (5 : Int32) = nI 5 from rfl, pk_mul, nI_add]
theorem eT2 {g : Nat → Int32} {r : Nat} (hr : r < 9) (hI : Iv g) : ∃ b : Nat, b ≤ 100 ∧ xOr g r = (nI b, (yT2 g r).2) ∧ yAm (yT2 g r).2 = yAm g + nI b ∧ Iv (yT2 g r).2 := by
  obtain ⟨c, hc, e⟩ := eShN (hI.1 r hr)
  have hlt : (xSh g r - 10 < 0) ↔ xSh g r < 10 := by
    rw [e]
    exact of_decide_eq_true (co_dec (N := 16) (P := fun c => decide ((nI c - 10 < 0) ↔ nI c < 10) = true) (by decide +kernel) (i := c) (by omega))
  unfold yT2 yOr xOr
  by_cases h10 : xSh g r < 10
  · rw [if_pos h10, if_pos (hlt.mpr h10)]
    exact ⟨0, by decide, rfl, (Int32.add_zero _).symm, hI⟩
  · rw [if_neg h10, if_neg (fun z => h10 (hlt.mp z))]
    rcases dn_dm (eTc (Or.inl rfl) hr hI (xSh g r - 10)) with ⟨h1, b, hb, h2, h3, h4, h5⟩ | ⟨h1, h6, h2⟩
    · rw [if_neg (by rw [h2]; exact nIm1 (by omega))]
      exact ⟨b, hb, h3, h4, h5⟩
    · rw [if_pos h2, h6]
      exact ⟨0, by decide, rfl, (Int32.add_zero _).symm, hI⟩
theorem eT1' {g : Nat → Int32} {r : Nat} (hr : r < 9) (hI : Iv g) : ∃ b : Nat, b ≤ 100 ∧ xPa g r = (nI b, (yT1 g r).2) ∧ yAm (yT1 g r).2 = yAm g + nI b ∧ Iv (yT1 g r).2 := by
  obtain ⟨h, h0⟩ := eT1 hr hI
  rcases h with ⟨h1, b, hb, h2, h3, h4, h5⟩ | ⟨h1, h6, h2⟩
  · exact ⟨b, hb, h3, h4, h5⟩
  · rw [h0 h1, h6]
    exact ⟨0, by decide, rfl, (Int32.add_zero _).symm, hI⟩
theorem eTd {g a9 : Nat → Int32} (hI : Iv g) : ∀ q : Nat, q ≤ 9 → (xTd g q).2 = (yTd g a9 q).1 ∧ yAm (yTd g a9 q).1 = yAm g + (xTd g q).1 ∧ Iv (yTd g a9 q).1
  | 0, _ => ⟨rfl, (Int32.add_zero _).symm, hI⟩
  | q + 1, hq => by
    obtain ⟨h1, h2, h3⟩ := eTd (a9 := a9) hI q (by omega)
    obtain ⟨b, hb, e1, e2, e3⟩ := eT1' (r := q) (by omega) h3
    obtain ⟨d, hd, f1, f2, f3⟩ := eT2 (r := q) (by omega) e3
    rw [show xTd g (q + 1) = ((xTd g q).1 + (xPa (xTd g q).2 q).1 + (xOr (xPa (xTd g q).2 q).2 q).1, (xOr (xPa (xTd g q).2 q).2 q).2) from rfl,
      show yTd g a9 (q + 1) = ((yT2 (yT1 (yTd g a9 q).1 q).2 q).2, (yT1 (yTd g a9 q).1 q).2) from rfl]
    dsimp only
    rw [h1, e1]
    dsimp only
    rw [f1]
    refine ⟨rfl, ?_, f3⟩
    rw [f2, e2, h2]
    simp only [Int32.add_assoc]
/-! looks -/
theorem eXY {g : Nat → Int32} {r : Nat} (hR : Rd9 g r) (v : Int32) : yMF g r v = xTv g r v ∧ (yFv g r v = -1 ↔ xTv g r v = -1) := by
  rcases eT hR v with ⟨x1, x2, x3⟩ | ⟨f, k, o, hf, hk, ho, x1, x5, x2, -⟩
  · exact ⟨by rw [x1, x3], fun _ => x1, fun _ => x2⟩
  · exact ⟨by rw [x1, x5], fun z => absurd z x2, fun z => absurd z (by rw [x1]; exact nIm1 (by omega))⟩
theorem eNu {g : Nat → Int32} {r : Nat} (hR : Rd9 g r) : ∀ n : Nat, yNu g r n = xRe g r n
  | 0 => rfl
  | n + 1 => by
    unfold yNu xRe
    rw [eNu hR n]
    by_cases h : xTv g r (nI n) = -1
    · rw [if_pos h, if_neg (fun z => z ((eXY hR _).2.mpr h))]
    · rw [if_neg h, if_pos (fun z => h ((eXY hR _).2.mp z))]
theorem eRd {g : Nat → Int32} {r : Nat} (hR : Rd9 g r) : ∀ w : Nat, yRd g r w = xRod g r w
  | 0 => rfl
  | 1 => rfl
  | 2 => rfl
  | 3 => rfl
  | 4 => rfl
  | 5 => rfl
  | 6 => rfl
  | w + 7 => eNu hR 16
theorem eLs {g : Nat → Int32} (hI : Iv g) : ∀ n : Nat, n ≤ 9 → yLs g n = xSu (fun j => xRe g j 16) n
  | 0, _ => rfl
  | n + 1, h => by
    show yLs g n + yNu g n 16 = xSu (fun j => xRe g j 16) n + xRe g n 16
    rw [eLs hI n (by omega), eNu (hI.1 n (by omega))]
theorem eLo {g : Nat → Int32} (hI : Iv g) : yLo9 g = xLo g := by
  unfold yLo9 xLo xLs
  rw [eLs hI 9 (by decide)]
theorem eS0 (g : Nat → Int32) : ∀ (k q w : Nat) (a : Int32), yS g k q w a 0 = -1
  | 0, q, w, a => if_pos rfl
  | k + 1, q, w, a => by
    unfold yS
    rw [if_neg (fun z => z.1 rfl)]
    exact eS0 g k _ _ _
theorem eS1 {g : Nat → Int32} (hI : Iv g) : ∀ (k q w : Nat) (a : Int32), k + q = 9 → yS g k q w a 1 = xTo g k q w a
  | 0, q, w, a, _ => if_neg (by decide)
  | k + 1, q, w, a, h => by
    unfold yS xTo
    have e := eXY (hI.1 q (by omega)) (nI (w % 10))
    rw [e.1]
    by_cases hc : xTv g q (nI (w % 10)) = -1
    · rw [if_pos hc, if_neg (fun z => z.2 hc)]
      exact eS0 g k _ _ _
    · rw [if_neg hc, if_pos ⟨by decide, hc⟩]
      exact eS1 hI k _ _ _ (by omega)
theorem eCp {g a9 : Nat → Int32} (hI : Iv g) : ∀ r : Nat, r ≤ 9 → (yCp g a9 r).1 = (xCp g r).1 ∧ (yCp g a9 r).2.1 = (xCp g r).2
  | 0, _ => ⟨rfl, rfl⟩
  | r + 1, h => by
    have ih := eCp (a9 := a9) hI r (by omega)
    unfold yCp xCp
    rw [eK1 (by omega) hI, ih.1, ih.2]
    by_cases h1 : g (6 * r + 3) = 0
    · rw [if_pos h1, if_pos h1]; exact ih
    · rw [if_neg h1, if_neg h1]
      by_cases h2 : (xCh g r (g (6 * r + 3)) 0).1 = -1
      · rw [if_pos h2, if_pos h2]; exact ⟨rfl, rfl⟩
      · rw [if_neg h2, if_neg h2]
        by_cases h3 : (xCp g r).1 = -1 ∨ ¬ (xCp g r).2 ≤ (xCh g r (g (6 * r + 3)) 0).1
        · rw [if_pos h3, if_pos h3]; exact ⟨rfl, rfl⟩
        · rw [if_neg h3, if_neg h3]; exact ⟨rfl, rfl⟩
/-! the whole number -/
theorem eLTab : ∀ c, c < 16 → ∀ L, L < 19 → decide ((nI c + (nI L - 9)).toInt64 = (nI c).toInt64 + (nI L - 9).toInt64) = true := by decide +kernel
theorem eLong {g : Nat → Int32} {r : Nat} (hR : Rd9 g r) : (xSh g r + g (6 * r + 3)).toInt64 = (xSh g r).toInt64 + (g (6 * r + 3)).toInt64 := by
  obtain ⟨c, hc, e⟩ := eShN hR
  obtain ⟨F, O, S, L, hF, hO, hS, hL, e1, e2, e4, e3⟩ := hR
  rw [e, e3]
  exact of_decide_eq_true (eLTab c (by omega) L (by omega))
theorem eWh {g : Nat → Int32} (hI : Iv g) : ∀ n : Nat, n ≤ 9 → (xWs g n).1 + (xWs g n).2 * yAl g (9 - n) = yAl g 9
  | 0, _ => by
    show 0 + 1 * yAl g 9 = yAl g 9
    rw [Int64.zero_add, Int64.one_mul]
  | n + 1, h => by
    have ih := eWh hI n (by omega)
    rw [show 9 - n = (9 - (n + 1)) + 1 by omega, yAl_s (d := 9 - (n + 1)) (k := n) (by omega)] at ih
    show (xWs g n).1 + (xSh g n + g (6 * n + 3)).toInt64 * (xWs g n).2 + (xWs g n).2 * 10 * yAl g (9 - (n + 1)) = yAl g 9
    rw [← ih, eLong (hI.1 n (by omega))]
    simp only [Int64.mul_add, Int64.add_mul, Int64.add_assoc]
    rw [Int64.mul_comm (xSh g n).toInt64, Int64.mul_comm (g (6 * n + 3)).toInt64, Int64.mul_assoc]
    congr 1
    rw [Int64.add_comm ((xWs g n).2 * (10 * yAl g (9 - (n + 1)))), Int64.add_assoc]
theorem eWhole {g : Nat → Int32} (hI : Iv g) : (xWs g 9).1 = yAl g 9 := by
  have h := eWh hI 9 (by decide)
  rw [show 9 - 9 = 0 from rfl, show yAl g 0 = 0 from rfl, Int64.mul_zero, Int64.add_zero] at h
  exact h
/-! counts -/
theorem eC0 (g : Nat → Int32) : ∀ n : Nat, yAm0 g n = xSu (fun j => g (6 * j + 5)) n
  | 0 => rfl
  | n + 1 => by
    show yAm0 g n + g (6 * n + 5) = xSu (fun j => g (6 * j + 5)) n + g (6 * n + 5)
    rw [eC0 g n]
theorem eCt {g : Nat → Int32} {w : Nat} {f : Nat → Prop} [∀ j, Decidable (f j)] (h : ∀ r, r < 9 → yIt g r w = if f r then 1 else 0) : ∀ n : Nat, n ≤ 9 → ySm g w n = xCt f n
  | 0, _ => rfl
  | n + 1, hn => by
    show ySm g w n + yIt g n w = xCt f (n + 1)
    unfold xCt
    rw [eCt h n (by omega), h n (by omega)]
    by_cases hf : f n
    · rw [if_pos hf, if_pos hf]
    · rw [if_neg hf, if_neg hf, Int32.add_zero]
theorem eSu {g : Nat → Int32} {w : Nat} {f : Nat → Int32} (h : ∀ r, yIt g r w = f r) : ∀ n : Nat, ySm g w n = xSu f n
  | 0 => rfl
  | n + 1 => by
    show ySm g w n + yIt g n w = xSu f n + f n
    rw [eSu h n, h n]
theorem eSm3 {g : Nat → Int32} (hI : Iv g) : ∀ n : Nat, n ≤ 9 → ∃ a b : Nat, a ≤ 15 * n ∧ b ≤ 18 * n ∧ xSu (fun j => xSh g j) n = nI a ∧ xSu (fun j => g (6 * j + 3)) n = nI b - nI (9 * n) ∧ ySm g 3 n = nI a + (nI b - nI (9 * n))
  | 0, _ => ⟨0, 0, by decide, by decide, rfl, rfl, rfl⟩
  | n + 1, hn => by
    obtain ⟨a, b, ha, hb, e1, e2, e3⟩ := eSm3 hI n (by omega)
    obtain ⟨c, hc, ec⟩ := eShN (hI.1 n (by omega))
    obtain ⟨F, O, S, L, hF, hO, hS, hL, -, -, -, eL⟩ := hI.1 n (by omega)
    have key : nI b - nI (9 * n) + (nI L - 9) = nI (b + L) - nI (9 * (n + 1)) := by
      rw [show 9 * (n + 1) = 9 * n + 9 by omega, ← nI_add, ← nI_add, show nI 9 = 9 from rfl]
      simp only [Int32.sub_eq_add_neg, Int32.neg_add]
      rw [Int32.add_assoc, Int32.add_assoc, ← Int32.add_assoc (-nI (9 * n)), Int32.add_comm (-nI (9 * n)), Int32.add_assoc]
    refine ⟨a + c, b + L, by omega, by omega, ?_, ?_, ?_⟩
    · show xSu (fun j => xSh g j) n + xSh g n = _
      rw [e1, ec, nI_add]
    · show xSu (fun j => g (6 * j + 3)) n + g (6 * n + 3) = _
      rw [e2, eL, key]
    · show ySm g 3 n + (xSh g n + g (6 * n + 3)) = _
      rw [e3, ec, eL, ← key, ← nI_add]
      simp only [Int32.add_assoc]
      rw [← Int32.add_assoc (nI b - nI (9 * n)), Int32.add_comm (nI b - nI (9 * n)) (nI c), Int32.add_assoc]
theorem eFmT : ∀ k : Nat, k < 300 → xFm (nI k - 81) 9 = (nI k - 81 + 90) - (nI k - 81 + 90) / 9 * 9 := fun k hk => of_decide_eq_true (co_dec (N := 300) (P := fun k => decide (xFm (nI k - 81) 9 = (nI k - 81 + 90) - (nI k - 81 + 90) / 9 * 9) = true) (by decide +kernel) (i := k) hk)
theorem eCn1 {g : Nat → Int32} : ySm g 1 9 = xCt (fun j => ¬ g (6 * j + 3) = 0) 9 := by
  refine eCt (w := 1) (fun r hr => ?_) 9 (by decide)
  show (if g (6 * r + 3) = 0 then (0 : Int32) else 1) = if ¬ g (6 * r + 3) = 0 then 1 else 0
  by_cases h : g (6 * r + 3) = 0
  · rw [if_pos h, if_neg (fun z => z h)]
  · rw [if_neg h, if_pos h]
theorem eCn2 {g : Nat → Int32} : ySm g 2 9 + 100 = xSu (fun j => g (6 * j + 3)) 9 + 100 := by
  rw [eSu (w := 2) (f := fun j => g (6 * j + 3)) (fun _ => rfl) 9]
theorem eCn3 {g : Nat → Int32} (hI : Iv g) : (ySm g 3 9 + 90) - (ySm g 3 9 + 90) / 9 * 9 = xFm (xSu (fun j => xSh g j) 9 + xSu (fun j => g (6 * j + 3)) 9) 9 := by
  obtain ⟨a, b, ha, hb, e1, e2, e3⟩ := eSm3 hI 9 (by decide)
  have e4 : nI a + (nI b - nI (9 * 9)) = nI (a + b) - 81 := by
    rw [← nI_add, show nI (9 * 9) = 81 from rfl]
    simp only [Int32.sub_eq_add_neg, Int32.add_assoc]
  rw [e3, e1, e2, e4, eFmT (a + b) (by omega)]
theorem eCn4 {g : Nat → Int32} : ySm g 4 9 = xCt (fun j => ¬ xSh g j < 10) 9 := by
  refine eCt (w := 4) (fun r hr => ?_) 9 (by decide)
  show (if xSh g r < 10 then (0 : Int32) else 1) = if ¬ xSh g r < 10 then 1 else 0
  by_cases h : xSh g r < 10
  · rw [if_pos h, if_neg (fun z => z h)]
  · rw [if_neg h, if_pos h]
theorem eCn5 {g : Nat → Int32} (hI : Iv g) : ySm g 5 9 = xCt (fun j => ¬ g (6 * j + 4) = 0) 9 := by
  refine eCt (w := 5) (fun r hr => ?_) 9 (by decide)
  show (if g (6 * r + 4) ≤ 0 then (0 : Int32) else 1) = if ¬ g (6 * r + 4) = 0 then 1 else 0
  obtain ⟨F, O, S, L, hF, hO, hS, hL, -, -, e4, -⟩ := hI.1 r hr
  rw [e4]
  exact of_decide_eq_true (co_dec (N := 4) (P := fun S => decide ((if nI S ≤ 0 then (0 : Int32) else 1) = if ¬ nI S = 0 then 1 else 0) = true) (by decide +kernel) (i := S) (by omega))
theorem eCn {g : Nat → Int32} (hI : Iv g) (z : Nat) : ∀ w : Nat, yCn g z w = xCn g z w
  | 0 => eC0 g 9
  | 1 => eCn1
  | 2 => eCn2
  | 3 => eCn3 hI
  | 4 => eCn4
  | 5 => eCn5 hI
  | 6 => rfl
  | w + 7 => rfl
