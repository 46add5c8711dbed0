/-! ===== what the class says is what the reference says: the rods ===== -/
def Rd9 (g : Nat → Int32) (r : Nat) : Prop := ∃ F O S L : Nat, F ≤ 2 ∧ O ≤ 5 ∧ S ≤ 3 ∧ L ≤ 18 ∧ g (6 * r + 1) = nI F ∧ g (6 * r + 2) = nI O ∧ g (6 * r + 4) = nI S ∧ g (6 * r + 3) = nI L - 9
def Iv (g : Nat → Int32) : Prop := (∀ r, r < 9 → Rd9 g r) ∧ ∃ m : Nat, m ≤ 9 ∧ g 0 = nI m
def tA (F O S f o : Nat) : Bool := decide (
    xAb (nI f - nI F) + xAb (nI o - nI O) = nI ((f - F) + (F - f) + ((o - O) + (O - o))) ∧
    (if nI o < 0 then (-1 : Int32) else if ¬ nI o ≤ 5 then -1 else if ¬ xAb (nI f - nI F) ≤ 0 ∧ ¬ nI S &&& 1 = 0 then -1 else if ¬ xAb (nI o - nI O) ≤ 0 ∧ ¬ nI S &&& 2 = 0 then -1 else xAb (nI f - nI F) + xAb (nI o - nI O)) =
      if (nI S &&& 1 = 0 ∨ nI f = nI F) ∧ (nI S &&& 2 = 0 ∨ nI o = nI O) then nI ((f - F) + (F - f) + ((o - O) + (O - o))) else -1)
theorem eTab : ∀ F, F < 3 → ∀ O, O < 6 → ∀ S, S < 4 → ∀ f, f < 3 → ∀ o, o < 6 → tA F O S f o = true := by decide +kernel
theorem eA1 {g : Nat → Int32} {r f o : Nat} (hR : Rd9 g r) (hf : f ≤ 2) (ho : o ≤ 5) : ∃ k : Nat, k ≤ 7 ∧ yMv g r (nI f) (nI o) = nI k ∧ xMb g r (nI f) (nI o) = if yLo g r (nI f) (nI o) then nI k else -1 := by
  obtain ⟨F, O, S, L, hF, hO, hS, -, e1, e2, e4, -⟩ := hR
  refine ⟨(f - F) + (F - f) + ((o - O) + (O - o)), by omega, ?_⟩
  unfold yMv xMb yLo
  rw [e1, e2, e4]
  exact of_decide_eq_true (eTab F (by omega) O (by omega) S (by omega) f (by omega) o (by omega))
def eR (g : Nat → Int32) (r : Nat) (v : Int32) (q : Int32 × Int32) (p : Int32) : Prop :=
  (q = (-1, 0) ∧ p = -1) ∨ ∃ f k o : Nat, f ≤ 2 ∧ k ≤ 7 ∧ o ≤ 5 ∧ q = (nI k, nI f) ∧ p = nI f ∧ yMv g r (nI f) (v - 5 * nI f) = nI k ∧ v - 5 * nI f = nI o ∧ yLo g r (nI f) (v - 5 * nI f)
theorem nIm1 {k : Nat} (h : k < 2 ^ 31) : ¬ nI k = -1 := fun z => nI_pos h (by rw [z]; decide)
theorem eStep {g : Nat → Int32} {r : Nat} {v : Int32} {q : Int32 × Int32} {p : Int32} (hR : Rd9 g r) {f : Nat} (hf : f ≤ 2) (h : eR g r v q p) : eR g r v (xTs g r v (nI f) q) (yFs g r v (nI f) p) := by
  by_cases hin : ¬ v - 5 * nI f < 0 ∧ ¬ 5 < v - 5 * nI f
  · obtain ⟨o, ho, eo⟩ := nI_of2 (M := 5) (n := 5) rfl hin.1 (Int32.not_lt.mp hin.2)
    obtain ⟨k, hk, e1, e2⟩ := eA1 (g := g) (r := r) hR hf ho
    rw [← eo] at e1 e2
    by_cases hl : yLo g r (nI f) (v - 5 * nI f)
    · rw [if_pos hl] at e2
      have hyo : yOk g r v (nI f) := ⟨hin, hl⟩
      unfold xTs yFs
      rw [e2]
      rcases h with ⟨rfl, rfl⟩ | ⟨f0, k0, o0, hf0, hk0, ho0, rfl, rfl, e3, e4, e5⟩
      · rw [if_pos ⟨nIm1 (by omega), Or.inl rfl⟩, if_pos ⟨hyo, Or.inl rfl⟩]
        exact Or.inr ⟨f, k, o, hf, hk, ho, rfl, rfl, e1, eo, hl⟩
      · by_cases hc : ¬ nI k0 ≤ nI k
        · rw [if_pos ⟨nIm1 (by omega), Or.inr hc⟩, if_pos ⟨hyo, Or.inr (by rw [e3, e1]; exact hc)⟩]
          exact Or.inr ⟨f, k, o, hf, hk, ho, rfl, rfl, e1, eo, hl⟩
        · rw [if_neg (fun z => z.2.elim (nIm1 (by omega)) hc), if_neg (fun z => z.2.elim (nIm1 (by omega)) (by rw [e3, e1]; exact hc))]
          exact Or.inr ⟨f0, k0, o0, hf0, hk0, ho0, rfl, rfl, e3, e4, e5⟩
    · rw [if_neg hl] at e2
      unfold xTs yFs
      rw [if_neg (fun z => z.1 e2), if_neg (fun z => hl z.1.2)]
      exact h
  · have e2 : xMb g r (nI f) (v - 5 * nI f) = -1 := by
      unfold xMb
      by_cases h1 : v - 5 * nI f < 0
      · rw [if_pos h1]
      · rw [if_neg h1, if_pos (fun z => hin ⟨h1, Int32.not_lt.mpr z⟩)]
    unfold xTs yFs
    rw [if_neg (fun z => z.1 e2), if_neg (fun z => hin z.1.1)]
    exact h
theorem eTV {g : Nat → Int32} {r : Nat} (hR : Rd9 g r) (v : Int32) : eR g r v (xTq g r v) (yFv g r v) :=
  eStep (f := 0) hR (by decide) (eStep (f := 1) hR (by decide) (eStep (f := 2) hR (by decide) (Or.inl ⟨rfl, rfl⟩)))
/-- a rod that comes to show a number, or cannot -/
theorem eT {g : Nat → Int32} {r : Nat} (hR : Rd9 g r) (v : Int32) :
    (xTv g r v = -1 ∧ yFv g r v = -1 ∧ yMF g r v = -1) ∨
    ∃ f k o : Nat, f ≤ 2 ∧ k ≤ 7 ∧ o ≤ 5 ∧ xTv g r v = nI k ∧ yMF g r v = nI k ∧ ¬ yFv g r v = -1 ∧ v - 5 * nI f = nI o ∧ xTn g r v 1 = xPl g r (nI f) (nI o) (nI k) ∧ yCo g r v = xPl g r (nI f) (nI o) (nI k) := by
  rcases eTV hR v with ⟨e1, e2⟩ | ⟨f, k, o, hf, hk, ho, e1, e2, e3, e4, e5⟩
  · refine Or.inl ⟨by unfold xTv; rw [e1], e2, by unfold yMF; rw [if_pos e2]⟩
  · have hm : ¬ yFv g r v = -1 := by rw [e2]; exact nIm1 (by omega)
    refine Or.inr ⟨f, k, o, hf, hk, ho, by unfold xTv; rw [e1], by unfold yMF; rw [if_neg hm, e2, e3], hm, e4, ?_, ?_⟩
    · unfold xTn
      rw [if_neg (by decide), e1]
      dsimp only
      rw [if_neg (nIm1 (by omega)), e4]
    · unfold yCo
      rw [e2, e3, e4]
theorem xPl_at (g : Nat → Int32) (r : Nat) (f o q : Int32) (j : Nat) : xPl g r f o q j = if j = 6 * r + 5 then g (6 * r + 5) + q else if j = 6 * r + 2 then o else if j = 6 * r + 1 then f else g j := by
  unfold xPl upd
  have h1 : ¬ 6 * r + 5 = 6 * r + 2 := by omega
  have h2 : ¬ 6 * r + 5 = 6 * r + 1 := by omega
  simp only [h1, h2, if_false]
theorem eIvPl {g : Nat → Int32} {r f o : Nat} {q : Int32} (h : Iv g) (hf : f ≤ 2) (ho : o ≤ 5) : Iv (xPl g r (nI f) (nI o) q) := by
  refine ⟨fun r1 hr1 => ?_, ?_⟩
  · obtain ⟨F, O, S, L, hF, hO, hS, hL, e1, e2, e4, e3⟩ := h.1 r1 hr1
    by_cases hq : r1 = r
    · subst hq
      refine ⟨f, o, S, L, hf, ho, hS, hL, ?_, ?_, ?_, ?_⟩
      · rw [xPl_at, if_neg (by omega), if_neg (by omega), if_pos rfl]
      · rw [xPl_at, if_neg (by omega), if_pos rfl]
      · rw [xPl_at, if_neg (by omega), if_neg (by omega), if_neg (by omega), e4]
      · rw [xPl_at, if_neg (by omega), if_neg (by omega), if_neg (by omega), e3]
    · refine ⟨F, O, S, L, hF, hO, hS, hL, ?_, ?_, ?_, ?_⟩
      · rw [xPl_at, if_neg (by omega), if_neg (by omega), if_neg (by omega), e1]
      · rw [xPl_at, if_neg (by omega), if_neg (by omega), if_neg (by omega), e2]
      · rw [xPl_at, if_neg (by omega), if_neg (by omega), if_neg (by omega), e4]
      · rw [xPl_at, if_neg (by omega), if_neg (by omega), if_neg (by omega), e3]
  · obtain ⟨m, hm, e⟩ := h.2
    exact ⟨m, hm, by rw [xPl_at, if_neg (by omega), if_neg (by omega), if_neg (by omega), e]⟩
/-! the moves of all rods -/
theorem eAmU {g : Nat → Int32} {k : Nat} {x : Int32} (n : Nat) (h : ∀ j, j < n → ¬ 6 * j + 5 = k) : yAm0 (upd g k x) n = yAm0 g n := by
  induction n with
  | zero => rfl
  | succ n ih =>
    show yAm0 (upd g k x) n + upd g k x (6 * n + 5) = yAm0 g n + g (6 * n + 5)
    rw [ih (fun j hj => h j (by omega)), pk_un (h n (by omega))]
theorem eAm5 {g : Nat → Int32} {r : Nat} {q : Int32} (n : Nat) (hr : r < n) : yAm0 (upd g (6 * r + 5) (g (6 * r + 5) + q)) n = yAm0 g n + q := by
  induction n with
  | zero => omega
  | succ n ih =>
    show yAm0 (upd g (6 * r + 5) (g (6 * r + 5) + q)) n + upd g (6 * r + 5) (g (6 * r + 5) + q) (6 * n + 5) = yAm0 g n + g (6 * n + 5) + q
    by_cases h : r = n
    · subst h
      rw [eAmU r (fun j hj => by omega), pk_us, Int32.add_assoc]
    · rw [ih (by omega), pk_un (by omega), Int32.add_assoc, Int32.add_comm q, ← Int32.add_assoc]
theorem eAmPl {g : Nat → Int32} {r : Nat} {f o q : Int32} (hr : r < 9) : yAm (xPl g r f o q) = yAm g + q := by
  unfold yAm xPl
  rw [eAm5 9 hr, eAmU 9 (fun j _ => by omega), eAmU 9 (fun j _ => by omega)]
/-! carries: the trial looks at rods that nothing has touched -/
def agr (g g1 : Nat → Int32) (r : Nat) : Prop := (∀ j, 6 * r + 1 ≤ j → g j = g1 j) ∧ g 0 = g1 0
theorem agr_Tv {g g1 : Nat → Int32} {r : Nat} (h : agr g g1 r) (v : Int32) : xTv g r v = xTv g1 r v := by
  unfold xTv xTq
  simp only [xTf, xTs, xMb, h.1 (6 * r + 1) (by omega), h.1 (6 * r + 2) (by omega), h.1 (6 * r + 4) (by omega)]
theorem agr_Sh {g g1 : Nat → Int32} {r : Nat} (h : agr g g1 r) : xSh g r = xSh g1 r := by
  unfold xSh
  rw [h.1 (6 * r + 1) (by omega), h.1 (6 * r + 2) (by omega)]
theorem agr_Pl {g g1 : Nat → Int32} {r : Nat} {f o q : Int32} (h : agr g g1 r) : agr (xPl g r f o q) g1 (r + 1) :=
  ⟨fun j hj => by rw [xPl_at, if_neg (by omega), if_neg (by omega), if_neg (by omega)]; exact h.1 j (by omega), by rw [xPl_at, if_neg (by omega), if_neg (by omega), if_neg (by omega)]; exact h.2⟩
theorem agr_up {g g1 : Nat → Int32} {r : Nat} (h : agr g g1 r) : agr g g1 (r + 1) := ⟨fun j hj => h.1 j (by omega), h.2⟩
theorem eBwTab : ∀ L, L < 19 → ∀ m, m < 10 →
    ((((nI L - 9 + 1) * 1 ≤ nI m) ↔ ¬ nI m < nI L - 9 + 1) ∧ (((nI L - 9 + -1) * -1 ≤ nI m) ↔ ¬ nI L - 9 + -1 < -nI m)) ∧
    (((nI L - 9 + 1) * 1 ≤ nI m) → nI L - 9 + 1 = nI (L + 1) - 9 ∧ L + 1 ≤ 18) ∧ (((nI L - 9 + -1) * -1 ≤ nI m) → nI L - 9 + -1 = nI (L - 1) - 9) := by decide +kernel
theorem eBw0 {u : Nat → Int32} {r : Nat} {b : Int32} : yBw u r b 0 = u 0 := by
  unfold yBw
  rw [pk_un (by omega), pk_un (by omega)]
theorem eBw3 {u : Nat → Int32} {r : Nat} {b : Int32} : yBw u r b (6 * r + 3) = u (6 * r + 3) + b := by
  unfold yBw
  rw [pk_un (by omega), pk_us]
theorem eIvBw {g : Nat → Int32} {r L : Nat} {b : Int32} (h : Iv g) (hL : L ≤ 18) (e : g (6 * r + 3) + b = nI L - 9) : Iv (yBw g r b) := by
  refine ⟨fun r1 hr1 => ?_, ?_⟩
  · obtain ⟨F, O, S, L1, hF, hO, hS, hL1, e1, e2, e4, e3⟩ := h.1 r1 hr1
    have hne : ∀ c, ¬ c = 3 → ¬ c = 6 → c < 7 → 0 < c → yBw g r b (6 * r1 + c) = g (6 * r1 + c) := fun c h3 h6 h7 h0 => by
      unfold yBw
      rw [pk_un (by omega), pk_un (by omega)]
    by_cases hq : r1 = r
    · subst hq
      exact ⟨F, O, S, L, hF, hO, hS, hL, by rw [hne 1 (by decide) (by decide) (by decide) (by decide), e1], by rw [hne 2 (by decide) (by decide) (by decide) (by decide), e2], by rw [hne 4 (by decide) (by decide) (by decide) (by decide), e4], by rw [eBw3, e]⟩
    · refine ⟨F, O, S, L1, hF, hO, hS, hL1, by rw [hne 1 (by decide) (by decide) (by decide) (by decide), e1], by rw [hne 2 (by decide) (by decide) (by decide) (by decide), e2], by rw [hne 4 (by decide) (by decide) (by decide) (by decide), e4], ?_⟩
      unfold yBw
      rw [pk_un (by omega), pk_un (by omega), e3]
  · obtain ⟨m, hm, e⟩ := h.2
    exact ⟨m, hm, by rw [eBw0, e]⟩
theorem eAmBw {g : Nat → Int32} {r : Nat} {b : Int32} : yAm (yBw g r b) = yAm g := by
  unfold yAm yBw
  rw [eAmU 9 (fun j _ => by omega), eAmU 9 (fun j _ => by omega)]
theorem eCa {s : Int32} (hs : s = 1 ∨ s = -1) : ∀ (n r : Nat), n + r = 9 → ∀ (g g1 : Nat → Int32) (a : Nat), Iv g → agr g g1 r → a + 7 * n ≤ 1000 →
    ((yCa s n g r).1 = true ∧ ∃ b : Nat, b ≤ 7 * n ∧ (xCa s 0 n g1 r (nI a)).1 = nI (a + b) ∧ xCa s 1 n g r (nI a) = (nI (a + b), (yCa s n g r).2) ∧ yAm (yCa s n g r).2 = yAm g + nI b ∧ Iv (yCa s n g r).2) ∨
    ((yCa s n g r).1 = false ∧ (xCa s 0 n g1 r (nI a)).1 = -1)
  | 0, r, hr, g, g1, a, hI, hA, ha => Or.inr ⟨rfl, rfl⟩
  | n + 1, r, hr, g, g1, a, hI, hA, ha => by
    have hr9 : r < 9 := by omega
    have hR := hI.1 r hr9
    rcases eT hR (xSh g r + s) with ⟨x1, x2, -⟩ | ⟨f, k, o, hf, hk, ho, x1, -, x2, -, x3, x4⟩
    · have x1' : xTv g1 r (xSh g1 r + s) = -1 := by rw [← agr_Sh hA, ← agr_Tv hA]; exact x1
      rcases eT hR (xSh g r - 9 * s) with ⟨y1, y2, -⟩ | ⟨f, k, o, hf, hk, ho, y1, -, y2, -, y3, y4⟩
      · have y1' : xTv g1 r (xSh g1 r - 9 * s) = -1 := by rw [← agr_Sh hA, ← agr_Tv hA]; exact y1
        have z0 : (xCa s 0 (n + 1) g1 r (nI a)).1 = if (g1 (6 * r + 3) + s) * s ≤ g1 0 then nI a else -1 := by
          unfold xCa
          rw [if_neg (fun z => z x1'), if_pos y1']
        have z1 : xCa s 1 (n + 1) g r (nI a) = (if (g (6 * r + 3) + s) * s ≤ g 0 then nI a else -1, xBn g r s 1) := by
          unfold xCa
          rw [if_neg (fun z => z x1), if_pos y1]
        have z2 : yCa s (n + 1) g r = (if ¬ s ≤ 0 then (if ¬ yBw g r s 0 < yBw g r s (6 * r + 3) then true else false) else (if ¬ yBw g r s (6 * r + 3) < -yBw g r s 0 then true else false), yBw g r s) := by
          unfold yCa
          rw [if_neg (fun z => z x2), if_neg (fun z => z y2)]
        rw [z0, z1, z2, ← hA.1 (6 * r + 3) (by omega), ← hA.2, eBw0, eBw3]
        obtain ⟨F, O, S, L, hF, hO, hS, hL, e1, e2, e4, e3⟩ := hR
        obtain ⟨m, hm, em⟩ := hI.2
        obtain ⟨⟨t1, t2⟩, t3, t4⟩ := eBwTab L (by omega) m (by omega)
        by_cases hc : (g (6 * r + 3) + s) * s ≤ g 0
        · refine Or.inl ⟨?_, 0, by omega, by rw [if_pos hc]; rfl, ?_, ?_, ?_⟩
          · show (if ¬ s ≤ 0 then (if ¬ g 0 < g (6 * r + 3) + s then true else false) else (if ¬ g (6 * r + 3) + s < -g 0 then true else false)) = true
            rw [e3, em] at hc ⊢
            rcases hs with rfl | rfl
            · rw [if_pos (by decide), if_pos (t1.mp hc)]
            · rw [if_neg (by decide), if_pos (t2.mp hc)]
          · rw [if_pos hc]
            show (nI a, xBn g r s 1) = (nI (a + 0), yBw g r s)
            unfold xBn
            rw [if_neg (fun z => z hc), if_neg (by decide)]
            rfl
          · show yAm (yBw g r s) = yAm g + nI 0
            rw [eAmBw]
            exact (Int32.add_zero _).symm
          · show Iv (yBw g r s)
            rw [e3, em] at hc
            rcases hs with rfl | rfl
            · exact eIvBw hI (t3 hc).2 (by rw [e3]; exact (t3 hc).1)
            · exact eIvBw (L := L - 1) hI (by omega) (by rw [e3]; exact t4 hc)
        · refine Or.inr ⟨?_, by rw [if_neg hc]⟩
          show (if ¬ s ≤ 0 then (if ¬ g 0 < g (6 * r + 3) + s then true else false) else (if ¬ g (6 * r + 3) + s < -g 0 then true else false)) = false
          rw [e3, em] at hc ⊢
          rcases hs with rfl | rfl
          · rw [if_pos (by decide), if_neg (fun z => hc (t1.mpr z))]
          · rw [if_neg (by decide), if_neg (fun z => hc (t2.mpr z))]
      · have y1' : xTv g1 r (xSh g1 r - 9 * s) = nI k := by rw [← agr_Sh hA, ← agr_Tv hA]; exact y1
        have z0 : (xCa s 0 (n + 1) g1 r (nI a)).1 = (xCa s 0 n g1 (r + 1) (nI (a + k))).1 := by
          conv => lhs; unfold xCa
          rw [if_neg (fun z => z x1'), if_neg (by rw [y1']; exact nIm1 (by omega)), xTn_0, y1', nI_add]
        have z1 : xCa s 1 (n + 1) g r (nI a) = xCa s 1 n (xPl g r (nI f) (nI o) (nI k)) (r + 1) (nI (a + k)) := by
          conv => lhs; unfold xCa
          rw [if_neg (fun z => z x1), if_neg (by rw [y1]; exact nIm1 (by omega)), y3, y1, nI_add]
        have z2 : yCa s (n + 1) g r = yCa s n (xPl g r (nI f) (nI o) (nI k)) (r + 1) := by
          conv => lhs; unfold yCa
          rw [if_neg (fun z => z x2), if_pos y2, y4]
        rw [z0, z1, z2]
        rcases eCa hs n (r + 1) (by omega) (xPl g r (nI f) (nI o) (nI k)) g1 (a + k) (eIvPl hI hf ho) (agr_Pl hA) (by omega) with ⟨w1, b, hb, w2, w3, w4, w5⟩ | w
        · refine Or.inl ⟨w1, k + b, by omega, by rw [w2, Nat.add_assoc], by rw [w3, Nat.add_assoc], ?_, w5⟩
          rw [w4, eAmPl hr9, Int32.add_assoc, nI_add]
        · exact Or.inr w
    · have x1' : xTv g1 r (xSh g1 r + s) = nI k := by rw [← agr_Sh hA, ← agr_Tv hA]; exact x1
      have z0 : (xCa s 0 (n + 1) g1 r (nI a)).1 = nI (a + k) := by
        unfold xCa
        rw [if_pos (by rw [x1']; exact nIm1 (by omega)), x1', nI_add]
      have z1 : xCa s 1 (n + 1) g r (nI a) = (nI (a + k), xPl g r (nI f) (nI o) (nI k)) := by
        unfold xCa
        rw [if_pos (by rw [x1]; exact nIm1 (by omega)), x1, x3, nI_add]
      have z2 : yCa s (n + 1) g r = (true, xPl g r (nI f) (nI o) (nI k)) := by
        unfold yCa
        rw [if_pos x2, x4]
      rw [z0, z1, z2]
      exact Or.inl ⟨rfl, k, by omega, rfl, rfl, eAmPl hr9, eIvPl hI hf ho⟩
