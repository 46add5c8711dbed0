/-! ===== what the class's own words mean: ranges, the whole number, carries ===== -/
def Rd9 (g : Nat → Int32) (r : Nat) : Prop := ∃ F O S L : Nat, F ≤ 2 ∧ O ≤ 5 ∧ S ≤ 3 ∧ L ≤ 18 ∧ g (6 * r + 1) = nI F ∧ g (6 * r + 2) = nI O ∧ g (6 * r + 4) = nI S ∧ g (6 * r + 3) = nI L - 9
def Iv (g : Nat → Int32) : Prop := (∀ r, r < 9 → Rd9 g r) ∧ ∃ m : Nat, m ≤ 9 ∧ g 0 = nI m
theorem nIm1 {k : Nat} (h : k < 2 ^ 31) : ¬ nI k = -1 := fun z => nI_pos h (by rw [z]; decide)
def mbE (F O S f o : Int32) : Int32 := if o < 0 then (-1 : Int32) else if ¬ o ≤ 5 then -1 else if ¬ xAb (f - F) ≤ 0 ∧ ¬ S &&& 1 = 0 then -1 else if ¬ xAb (o - O) ≤ 0 ∧ ¬ S &&& 2 = 0 then -1 else xAb (f - F) + xAb (o - O)
def tA (F O S f o : Nat) : Bool := decide ((mbE (nI F) (nI O) (nI S) (nI f) (nI o) = -1 ∨ mbE (nI F) (nI O) (nI S) (nI f) (nI o) = nI ((f - F) + (F - f) + ((o - O) + (O - o)))) ∧ ((nI S &&& 1 = 1 → f = F) → (nI S &&& 2 = 2 → o = O) → ¬ mbE (nI F) (nI O) (nI S) (nI f) (nI o) = -1))
theorem eTab : ∀ F, F < 3 → ∀ O, O < 6 → ∀ S, S < 4 → ∀ f, f < 3 → ∀ o, o < 6 → tA F O S f o = true := by decide +kernel
theorem eMb {g : Nat → Int32} {r f o : Nat} (hR : Rd9 g r) (hf : f ≤ 2) (ho : o ≤ 5) : xMb g r (nI f) (nI o) = -1 ∨ ∃ k : Nat, k ≤ 7 ∧ xMb g r (nI f) (nI o) = nI k := by
  obtain ⟨F, O, S, L, hF, hO, hS, -, e1, e2, e4, -⟩ := hR
  have h := (of_decide_eq_true (eTab F (by omega) O (by omega) S (by omega) f (by omega) o (by omega))).1
  rw [← e1, ← e2, ← e4] at h
  rcases h with h | h
  · exact Or.inl h
  · exact Or.inr ⟨_, by omega, h⟩
theorem eMbN {g : Nat → Int32} {r f o : Nat} (hR : Rd9 g r) (hf : f ≤ 2) (ho : o ≤ 5) (h1 : g (6 * r + 4) &&& 1 = 1 → nI f = g (6 * r + 1)) (h2 : g (6 * r + 4) &&& 2 = 2 → nI o = g (6 * r + 2)) : ¬ xMb g r (nI f) (nI o) = -1 := by
  obtain ⟨F, O, S, L, hF, hO, hS, -, e1, e2, e4, -⟩ := hR
  have h := (of_decide_eq_true (eTab F (by omega) O (by omega) S (by omega) f (by omega) o (by omega))).2
  rw [e4, e1] at h1
  rw [e4, e2] at h2
  have h := h (fun z => (nI_eq (by omega) (by omega)).mp (h1 z)) (fun z => (nI_eq (by omega) (by omega)).mp (h2 z))
  rw [← e1, ← e2, ← e4] at h
  exact h
def eR (v : Int32) (q : Int32 × Int32) : Prop := q = (-1, 0) ∨ ∃ f k o : Nat, f ≤ 2 ∧ k ≤ 7 ∧ o ≤ 5 ∧ q = (nI k, nI f) ∧ v - 5 * nI f = nI o
theorem eStep {g : Nat → Int32} {r : Nat} {v : Int32} {q : Int32 × Int32} (hR : Rd9 g r) {f : Nat} (hf : f ≤ 2) (h : eR v q) : eR v (xTs g r v (nI f) q) := by
  unfold xTs
  by_cases hc : ¬ xMb g r (nI f) (v - 5 * nI f) = -1 ∧ (q.1 = -1 ∨ ¬ q.1 ≤ xMb g r (nI f) (v - 5 * nI f))
  · rw [if_pos hc]
    have h1 : ¬ v - 5 * nI f < 0 := fun z => hc.1 (if_pos z)
    have h2 : v - 5 * nI f ≤ 5 := Decidable.byContradiction fun z => hc.1 (by unfold xMb; rw [if_neg h1, if_pos z])
    obtain ⟨o, ho, eo⟩ := nI_of2 (M := 5) (n := 5) rfl h1 h2
    rcases eMb (g := g) (r := r) hR hf ho with e | ⟨k, hk, e⟩
    · exact absurd (by rw [eo]; exact e) hc.1
    · exact Or.inr ⟨f, k, o, hf, hk, ho, by rw [eo, e], eo⟩
  · rw [if_neg hc]; exact h
theorem eTV {g : Nat → Int32} {r : Nat} (hR : Rd9 g r) (v : Int32) : eR v (xTq g r v) :=
  eStep (f := 0) hR (by decide) (eStep (f := 1) hR (by decide) (eStep (f := 2) hR (by decide) (Or.inl rfl)))
/-- a rod that comes to show a number, or cannot -/
theorem eT {g : Nat → Int32} {r : Nat} (hR : Rd9 g r) (v : Int32) :
    xTv g r v = -1 ∨ ∃ f k o : Nat, f ≤ 2 ∧ k ≤ 7 ∧ o ≤ 5 ∧ xTv g r v = nI k ∧ v = nI (5 * f + o) ∧ xTn g r v 1 = xPl g r (nI f) (nI o) (nI k) := by
  rcases eTV hR v with e1 | ⟨f, k, o, hf, hk, ho, e1, e4⟩
  · exact Or.inl (by unfold xTv; rw [e1])
  · refine Or.inr ⟨f, k, o, hf, hk, ho, by unfold xTv; rw [e1], ?_, ?_⟩
    · have h : v = v - 5 * nI f + 5 * nI f := (Int32.sub_add_cancel _ _).symm
      rw [e4] at h
      rw [h, show (5 : Int32) = nI 5 from rfl, pk_mul, nI_add, Nat.add_comm]
    · unfold xTn
      rw [if_neg (by decide), e1]
      dsimp only
      rw [if_neg (nIm1 (by omega)), e4]
theorem eT_lt {g : Nat → Int32} {r : Nat} (hR : Rd9 g r) (v : Int32) : xTv g r v < 0 ↔ xTv g r v = -1 := by
  rcases eT hR v with e | ⟨f, k, o, hf, hk, ho, e, -⟩
  · rw [e]; decide
  · rw [e]; exact ⟨fun z => absurd z (nI_pos (by omega)), fun z => absurd z (nIm1 (by omega))⟩
theorem xPl_at (g : Nat → Int32) (r : Nat) (f o q : Int32) (j : Nat) : xPl g r f o q j = if j = 6 * r + 5 then g (6 * r + 5) + q else if j = 6 * r + 2 then o else if j = 6 * r + 1 then f else g j := by
  unfold xPl upd
  have h1 : ¬ 6 * r + 5 = 6 * r + 2 := by omega
  have h2 : ¬ 6 * r + 5 = 6 * r + 1 := by omega
  simp only [h1, h2, if_false]
theorem xPl_un {g : Nat → Int32} {r : Nat} {f o q : Int32} {j : Nat} (h5 : ¬ j = 6 * r + 5) (h2 : ¬ j = 6 * r + 2) (h1 : ¬ j = 6 * r + 1) : xPl g r f o q j = g j := by
  rw [xPl_at, if_neg h5, if_neg h2, if_neg h1]
theorem eIvPl {g : Nat → Int32} {r f o : Nat} {q : Int32} (h : Iv g) (hf : f ≤ 2) (ho : o ≤ 5) : Iv (xPl g r (nI f) (nI o) q) := by
  refine ⟨fun r1 hr1 => ?_, ?_⟩
  · obtain ⟨F, O, S, L, hF, hO, hS, hL, e1, e2, e4, e3⟩ := h.1 r1 hr1
    by_cases hq : r1 = r
    · subst hq
      refine ⟨f, o, S, L, hf, ho, hS, hL, ?_, ?_, ?_, ?_⟩
      · rw [xPl_at, if_neg (by omega), if_neg (by omega), if_pos rfl]
      · rw [xPl_at, if_neg (by omega), if_pos rfl]
      · rw [xPl_un (by omega) (by omega) (by omega), e4]
      · rw [xPl_un (by omega) (by omega) (by omega), e3]
    · refine ⟨F, O, S, L, hF, hO, hS, hL, ?_, ?_, ?_, ?_⟩
      · rw [xPl_un (by omega) (by omega) (by omega), e1]
      · rw [xPl_un (by omega) (by omega) (by omega), e2]
      · rw [xPl_un (by omega) (by omega) (by omega), e4]
      · rw [xPl_un (by omega) (by omega) (by omega), e3]
  · obtain ⟨m, hm, e⟩ := h.2
    exact ⟨m, hm, by rw [xPl_un (by omega) (by omega) (by omega), e]⟩
/-! the moves of all rods -/
def xAm (g : Nat → Int32) : Int32 := xSu (fun j => g (6 * j + 5)) 9
theorem eAmU {g : Nat → Int32} {k : Nat} {x : Int32} (n : Nat) (h : ∀ j, j < n → ¬ 6 * j + 5 = k) : xSu (fun j => upd g k x (6 * j + 5)) n = xSu (fun j => g (6 * j + 5)) n := by
  induction n with
  | zero => rfl
  | succ n ih =>
    show xSu (fun j => upd g k x (6 * j + 5)) n + upd g k x (6 * n + 5) = xSu (fun j => g (6 * j + 5)) n + g (6 * n + 5)
    rw [ih (fun j hj => h j (by omega)), pk_un (h n (by omega))]
theorem eAm5 {g : Nat → Int32} {r : Nat} {q : Int32} (n : Nat) (hr : r < n) : xSu (fun j => upd g (6 * r + 5) (g (6 * r + 5) + q) (6 * j + 5)) n = xSu (fun j => g (6 * j + 5)) n + q := by
  induction n with
  | zero => omega
  | succ n ih =>
    show xSu (fun j => upd g (6 * r + 5) (g (6 * r + 5) + q) (6 * j + 5)) n + upd g (6 * r + 5) (g (6 * r + 5) + q) (6 * n + 5) = xSu (fun j => g (6 * j + 5)) n + g (6 * n + 5) + q
    by_cases h : r = n
    · subst h
      rw [eAmU r (fun j hj => by omega), pk_us, Int32.add_assoc]
    · rw [ih (by omega), pk_un (by omega), Int32.add_assoc, Int32.add_comm q, ← Int32.add_assoc]
theorem eAmPl {g : Nat → Int32} {r : Nat} {f o q : Int32} (hr : r < 9) : xAm (xPl g r f o q) = xAm g + q := by
  unfold xAm xPl
  rw [eAm5 9 hr, eAmU 9 (fun j _ => by omega), eAmU 9 (fun j _ => by omega)]
/-! the whole number -/
def zc (g : Nat → Int32) (r : Nat) : Int := (xSh g r).toInt + (g (6 * r + 3)).toInt
def zW (g : Nat → Int32) : Nat → Int
  | 0 => 0
  | n + 1 => zW g n + zc g n * 10 ^ n
theorem zc_eq {g g1 : Nat → Int32} {j : Nat} (h1 : g1 (6 * j + 1) = g (6 * j + 1)) (h2 : g1 (6 * j + 2) = g (6 * j + 2)) (h3 : g1 (6 * j + 3) = g (6 * j + 3)) : zc g1 j = zc g j := by
  unfold zc xSh
  rw [h1, h2, h3]
theorem zW_same {g g1 : Nat → Int32} : ∀ n : Nat, (∀ j, j < n → zc g1 j = zc g j) → zW g1 n = zW g n
  | 0, _ => rfl
  | n + 1, h => by
    show zW g1 n + zc g1 n * 10 ^ n = zW g n + zc g n * 10 ^ n
    rw [zW_same n (fun j hj => h j (by omega)), h n (by omega)]
theorem zW_upd {g g1 : Nat → Int32} {r : Nat} (h : ∀ j, j ≠ r → zc g1 j = zc g j) : ∀ n : Nat, r < n → zW g1 n = zW g n + (zc g1 r - zc g r) * 10 ^ r
  | 0, hr => by omega
  | n + 1, hr => by
    show zW g1 n + zc g1 n * 10 ^ n = zW g n + zc g n * 10 ^ n + (zc g1 r - zc g r) * 10 ^ r
    by_cases hn : r = n
    · subst hn
      rw [zW_same r (fun j hj => h j (by omega)), Int.sub_mul]
      omega
    · rw [zW_upd h n (by omega), h n (fun z => hn z.symm)]
      omega
theorem eShN {g : Nat → Int32} {r : Nat} (hR : Rd9 g r) : ∃ c : Nat, c ≤ 15 ∧ xSh g r = nI c := by
  obtain ⟨F, O, S, L, hF, hO, hS, -, e1, e2, -⟩ := hR
  refine ⟨5 * F + O, by omega, ?_⟩
  unfold xSh
  rw [e1, e2, show (5 : Int32) = nI 5 from rfl, pk_mul, nI_add]
theorem loI {L : Nat} (h : L ≤ 18) : (nI L - 9).toInt = (L : Int) - 9 := pk_sub_toInt (a := L) (b := 9) (by omega) (by decide)
/-- from one board to another: how many moves more, how much more the whole number; the loans of the rods below r stay -/
def mv (g g1 : Nat → Int32) (r : Nat) (k : Int32) (d : Int) : Prop := Iv g1 ∧ zW g1 9 = zW g 9 + d ∧ xAm g1 = xAm g + k ∧ ∀ j, j < r → g1 (6 * j + 3) = g (6 * j + 3)
theorem mv_tr {g g1 g2 : Nat → Int32} {r r1 : Nat} {k k1 : Int32} {d d1 : Int} (h : mv g g1 r k d) (h1 : mv g1 g2 r1 k1 d1) (hr : r ≤ r1) : mv g g2 r (k + k1) (d + d1) :=
  ⟨h1.1, by rw [h1.2.1, h.2.1]; omega, by rw [h1.2.2.1, h.2.2.1, Int32.add_assoc], fun j hj => by rw [h1.2.2.2 j (by omega), h.2.2.2 j hj]⟩
theorem mvPl {g : Nat → Int32} {r f o k : Nat} {d : Int32} (hr : r < 9) (hI : Iv g) (hf : f ≤ 2) (ho : o ≤ 5) (hv : xSh g r + d = nI (5 * f + o)) (r1 : Nat) : mv g (xPl g r (nI f) (nI o) (nI k)) r1 (nI k) (d.toInt * 10 ^ r) := by
  refine ⟨eIvPl hI hf ho, ?_, eAmPl hr, fun j _ => xPl_un (by omega) (by omega) (by omega)⟩
  rw [zW_upd (g := g) (r := r) (fun j hj => zc_eq (xPl_un (by omega) (by omega) (by omega)) (xPl_un (by omega) (by omega) (by omega)) (xPl_un (by omega) (by omega) (by omega))) 9 hr]
  have e : zc (xPl g r (nI f) (nI o) (nI k)) r - zc g r = d.toInt := by
    obtain ⟨c, hc, ec⟩ := eShN (hI.1 r hr)
    have s1 : xSh (xPl g r (nI f) (nI o) (nI k)) r = nI (5 * f + o) := by
      unfold xSh
      rw [xPl_at, if_neg (by omega), if_neg (by omega), if_pos rfl, xPl_at, if_neg (by omega), if_pos rfl, show (5 : Int32) = nI 5 from rfl, pk_mul, nI_add]
    have s3 : xPl g r (nI f) (nI o) (nI k) (6 * r + 3) = g (6 * r + 3) := xPl_un (by omega) (by omega) (by omega)
    have sd : d = nI (5 * f + o) - nI c := by
      rw [← hv, ec, Int32.add_comm, Int32.add_sub_cancel]
    unfold zc
    rw [s1, s3, sd, pk_sub_toInt (by omega) (by omega), ec, nI_toInt (by omega), nI_toInt (by omega)]
    omega
  rw [e]
/-! carries: the trial looks at rods that nothing has touched -/
def agr (g g1 : Nat → Int32) (r : Nat) : Prop := (∀ j, 6 * r + 1 ≤ j → g j = g1 j) ∧ g 0 = g1 0
theorem agr_Tv {g g1 : Nat → Int32} {r : Nat} (h : agr g g1 r) (v : Int32) : xTv g r v = xTv g1 r v := by
  unfold xTv xTq
  simp only [xTf, xTs, xMb, h.1 (6 * r + 1) (by omega), h.1 (6 * r + 2) (by omega), h.1 (6 * r + 4) (by omega)]
theorem agr_Sh {g g1 : Nat → Int32} {r : Nat} (h : agr g g1 r) : xSh g r = xSh g1 r := by
  unfold xSh
  rw [h.1 (6 * r + 1) (by omega), h.1 (6 * r + 2) (by omega)]
theorem agr_Pl {g g1 : Nat → Int32} {r : Nat} {f o q : Int32} (h : agr g g1 r) : agr (xPl g r f o q) g1 (r + 1) :=
  ⟨fun j hj => by rw [xPl_un (by omega) (by omega) (by omega)]; exact h.1 j (by omega), by rw [xPl_un (by omega) (by omega) (by omega)]; exact h.2⟩
theorem eBwTab : ∀ L, L < 19 → ∀ m, m < 10 → (((nI L - 9 + 1) * 1 ≤ nI m) → nI L - 9 + 1 = nI (L + 1) - 9 ∧ L + 1 ≤ 18) ∧ (((nI L - 9 + -1) * -1 ≤ nI m) → nI L - 9 + -1 = nI (L - 1) - 9 ∧ 1 ≤ L) := by decide +kernel
theorem xBn_at {g : Nat → Int32} {r : Nat} {s : Int32} (hc : (g (6 * r + 3) + s) * s ≤ g 0) (j : Nat) : xBn g r s 1 j = if j = 6 * r + 6 then g (6 * r + 6) + 1 else if j = 6 * r + 3 then g (6 * r + 3) + s else g j := by
  unfold xBn
  rw [if_neg (fun z => z hc), if_neg (by decide)]
  unfold upd
  have h1 : ¬ 6 * r + 6 = 6 * r + 3 := by omega
  simp only [h1, if_false]
theorem xBn_un {g : Nat → Int32} {r : Nat} {s : Int32} (hc : (g (6 * r + 3) + s) * s ≤ g 0) {j : Nat} (h6 : ¬ j = 6 * r + 6) (h3 : ¬ j = 6 * r + 3) : xBn g r s 1 j = g j := by
  rw [xBn_at hc, if_neg h6, if_neg h3]
theorem mvBn {g : Nat → Int32} {r : Nat} {s : Int32} (hs : s = 1 ∨ s = -1) (hr : r < 9) (hI : Iv g) (hc : (g (6 * r + 3) + s) * s ≤ g 0) : mv g (xBn g r s 1) r (nI 0) (s.toInt * 10 ^ r) := by
  obtain ⟨F0, O0, S0, L0, hF0, hO0, hS0, hL0, e10, e20, e40, e30⟩ := hI.1 r hr
  obtain ⟨m, hm, em⟩ := hI.2
  have key : ∃ L1 : Nat, L1 ≤ 18 ∧ g (6 * r + 3) + s = nI L1 - 9 ∧ ((L1 : Int) - 9 = (L0 : Int) - 9 + s.toInt) := by
    have t := eBwTab L0 (by omega) m (by omega)
    rw [e30, em] at hc
    rcases hs with rfl | rfl
    · exact ⟨L0 + 1, (t.1 hc).2, by rw [e30]; exact (t.1 hc).1, by rw [show (1 : Int32).toInt = 1 from by decide]; omega⟩
    · have := (t.2 hc).2
      exact ⟨L0 - 1, by omega, by rw [e30]; exact (t.2 hc).1, by rw [show (-1 : Int32).toInt = -1 from by decide]; omega⟩
  obtain ⟨L1, hL1, eL, eZ⟩ := key
  have b3 : xBn g r s 1 (6 * r + 3) = nI L1 - 9 := by rw [xBn_at hc, if_neg (by omega), if_pos rfl, eL]
  refine ⟨⟨fun r1 hr1 => ?_, m, hm, by rw [xBn_un hc (by omega) (by omega), em]⟩, ?_, ?_, fun j hj => xBn_un hc (by omega) (by omega)⟩
  · obtain ⟨F, O, S, L, hF, hO, hS, hL, e1, e2, e4, e3⟩ := hI.1 r1 hr1
    by_cases hq : r1 = r
    · subst hq
      exact ⟨F, O, S, L1, hF, hO, hS, hL1, by rw [xBn_un hc (by omega) (by omega), e1], by rw [xBn_un hc (by omega) (by omega), e2], by rw [xBn_un hc (by omega) (by omega), e4], b3⟩
    · exact ⟨F, O, S, L, hF, hO, hS, hL, by rw [xBn_un hc (by omega) (by omega), e1], by rw [xBn_un hc (by omega) (by omega), e2], by rw [xBn_un hc (by omega) (by omega), e4], by rw [xBn_un hc (by omega) (by omega), e3]⟩
  · rw [zW_upd (g := g) (r := r) (fun j hj => zc_eq (xBn_un hc (by omega) (by omega)) (xBn_un hc (by omega) (by omega)) (xBn_un hc (by omega) (by omega))) 9 hr]
    have e : zc (xBn g r s 1) r - zc g r = s.toInt := by
      have s1 : xSh (xBn g r s 1) r = xSh g r := by
        unfold xSh
        rw [xBn_un hc (by omega) (by omega), xBn_un hc (by omega) (by omega)]
      unfold zc
      rw [s1, b3, e30, loI hL0, loI hL1]
      omega
    rw [e]
  · have a : ∀ n : Nat, xSu (fun j => xBn g r s 1 (6 * j + 5)) n = xSu (fun j => g (6 * j + 5)) n := by
      intro n
      induction n with
      | zero => rfl
      | succ n ih =>
        show xSu (fun j => xBn g r s 1 (6 * j + 5)) n + xBn g r s 1 (6 * n + 5) = xSu (fun j => g (6 * j + 5)) n + g (6 * n + 5)
        rw [ih, xBn_un hc (by omega) (by omega)]
    show xSu (fun j => xBn g r s 1 (6 * j + 5)) 9 = xSu (fun j => g (6 * j + 5)) 9 + nI 0
    rw [a, nI_0, Int32.add_zero]
theorem sub9 {s : Int32} (hs : s = 1 ∨ s = -1) : (-(9 * s)).toInt = -9 * s.toInt := by
  rcases hs with rfl | rfl <;> decide
theorem p10 (r : Nat) : (10 : Int) ^ (r + 1) = 10 * 10 ^ r := by rw [Int.pow_succ]; omega
theorem eCa {s : Int32} (hs : s = 1 ∨ s = -1) : ∀ (n r : Nat), n + r = 9 → ∀ (g g1 : Nat → Int32) (a : Nat), Iv g → agr g g1 r → a + 7 * n ≤ 1000 →
    (∃ b : Nat, b ≤ 7 * n ∧ (xCa s 0 n g1 r (nI a)).1 = nI (a + b) ∧ (xCa s 1 n g r (nI a)).1 = nI (a + b) ∧ mv g (xCa s 1 n g r (nI a)).2 r (nI b) (s.toInt * 10 ^ r)) ∨ (xCa s 0 n g1 r (nI a)).1 = -1
  | 0, r, hr, g, g1, a, hI, hA, ha => Or.inr rfl
  | n + 1, r, hr, g, g1, a, hI, hA, ha => by
    have hr9 : r < 9 := by omega
    have hR := hI.1 r hr9
    have en : xSh g r - 9 * s = xSh g r + -(9 * s) := Int32.sub_eq_add_neg _ _
    rcases eT hR (xSh g r + s) with x1 | ⟨f, k, o, hf, hk, ho, x1, xv, x3⟩
    · have x1' : xTv g1 r (xSh g1 r + s) = -1 := by rw [← agr_Sh hA, ← agr_Tv hA]; exact x1
      rcases eT hR (xSh g r - 9 * s) with y1 | ⟨f, k, o, hf, hk, ho, y1, yv, y3⟩
      · have y1' : xTv g1 r (xSh g1 r - 9 * s) = -1 := by rw [← agr_Sh hA, ← agr_Tv hA]; exact y1
        have z0 : (xCa s 0 (n + 1) g1 r (nI a)).1 = if (g1 (6 * r + 3) + s) * s ≤ g1 0 then nI a else -1 := by
          unfold xCa
          rw [if_neg (fun z => z x1'), if_pos y1']
        have z1 : xCa s 1 (n + 1) g r (nI a) = (if (g (6 * r + 3) + s) * s ≤ g 0 then nI a else -1, xBn g r s 1) := by
          unfold xCa
          rw [if_neg (fun z => z x1), if_pos y1]
        rw [z0, z1, ← hA.1 (6 * r + 3) (by omega), ← hA.2]
        by_cases hc : (g (6 * r + 3) + s) * s ≤ g 0
        · exact Or.inl ⟨0, by omega, by rw [if_pos hc]; rfl, by rw [if_pos hc]; rfl, mvBn hs hr9 hI hc⟩
        · exact Or.inr (by rw [if_neg hc])
      · have y1' : xTv g1 r (xSh g1 r - 9 * s) = nI k := by rw [← agr_Sh hA, ← agr_Tv hA]; exact y1
        have z0 : (xCa s 0 (n + 1) g1 r (nI a)).1 = (xCa s 0 n g1 (r + 1) (nI (a + k))).1 := by
          conv => lhs; unfold xCa
          rw [if_neg (fun z => z x1'), if_neg (by rw [y1']; exact nIm1 (by omega)), xTn_0, y1', nI_add]
        have z1 : xCa s 1 (n + 1) g r (nI a) = xCa s 1 n (xPl g r (nI f) (nI o) (nI k)) (r + 1) (nI (a + k)) := by
          conv => lhs; unfold xCa
          rw [if_neg (fun z => z x1), if_neg (by rw [y1]; exact nIm1 (by omega)), y3, y1, nI_add]
        have m1 : mv g (xPl g r (nI f) (nI o) (nI k)) r (nI k) ((-(9 * s)).toInt * 10 ^ r) := mvPl hr9 hI hf ho (by rw [← en]; exact yv) r
        rw [z0, z1]
        rcases eCa hs n (r + 1) (by omega) (xPl g r (nI f) (nI o) (nI k)) g1 (a + k) m1.1 (agr_Pl hA) (by omega) with ⟨b, hb, w2, w3, w4⟩ | w
        · refine Or.inl ⟨k + b, by omega, by rw [w2, Nat.add_assoc], by rw [w3, Nat.add_assoc], ?_⟩
          have m2 := mv_tr m1 w4 (Nat.le_succ r)
          rw [nI_add] at m2
          have e : (-(9 * s)).toInt * 10 ^ r + s.toInt * 10 ^ (r + 1) = s.toInt * 10 ^ r := by
            rw [sub9 hs, p10, Int.mul_assoc, Int.mul_left_comm s.toInt]
            omega
          rw [e] at m2
          exact m2
        · exact Or.inr w
    · have x1' : xTv g1 r (xSh g1 r + s) = nI k := by rw [← agr_Sh hA, ← agr_Tv hA]; exact x1
      have z0 : (xCa s 0 (n + 1) g1 r (nI a)).1 = nI (a + k) := by
        unfold xCa
        rw [if_pos (by rw [x1']; exact nIm1 (by omega)), x1', nI_add]
      have z1 : xCa s 1 (n + 1) g r (nI a) = (nI (a + k), xPl g r (nI f) (nI o) (nI k)) := by
        unfold xCa
        rw [if_pos (by rw [x1]; exact nIm1 (by omega)), x1, x3, nI_add]
      rw [z0, z1]
      exact Or.inl ⟨k, by omega, rfl, rfl, mvPl hr9 hI hf ho xv r⟩
/-! a rod's own number; to add a number, to pay, to put in order -/
def tO (F O S : Nat) : Bool := decide (xTq (fun j => if j = 1 then nI F else if j = 2 then nI O else nI S) 0 (5 * nI F + nI O) = (0, nI F))
theorem eOwnT : ∀ F, F < 3 → ∀ O, O < 6 → ∀ S, S < 4 → tO F O S = true := by decide +kernel
theorem eOwnV {g : Nat → Int32} {r : Nat} (hR : Rd9 g r) : xTv g r (xSh g r) = 0 := by
  obtain ⟨F, O, S, L, hF, hO, hS, -, e1, e2, e4, -⟩ := hR
  have h := congrArg Prod.fst (of_decide_eq_true (eOwnT F (by omega) O (by omega) S (by omega)))
  unfold xTv xSh
  unfold xTq at h ⊢
  simp only [xTf, xTs, xMb, e1, e2, e4] at h ⊢
  exact h
theorem sg_or (v : Int32) : xSg v = 1 ∨ xSg v = -1 := by
  unfold xSg
  by_cases h : 0 ≤ v
  · exact Or.inl (if_pos h)
  · exact Or.inr (if_neg h)
theorem eTc {g : Nat → Int32} {r : Nat} {s d : Int32} (hs : s = 1 ∨ s = -1) (hr : r < 9) (hI : Iv g) (v : Int32) (hv : v = xSh g r + d) :
    (∃ b : Nat, b ≤ 100 ∧ (xTc g r v s 0).1 = nI b ∧ (xTc g r v s 1).1 = nI b ∧ mv g (xTc g r v s 1).2 (r + 1) (nI b) (d.toInt * 10 ^ r + s.toInt * 10 ^ (r + 1))) ∨ (xTc g r v s 0).1 = -1 := by
  rcases eT (hI.1 r hr) v with x1 | ⟨f, k, o, hf, hk, ho, x1, xv, x3⟩
  · refine Or.inr ?_
    unfold xTc
    rw [if_pos x1]
  · have hn : ¬ xTv g r v = -1 := by rw [x1]; exact nIm1 (by omega)
    have z0 : (xTc g r v s 0).1 = (xCa s 0 (8 - r) g (r + 1) (nI k)).1 := by
      unfold xTc
      rw [if_neg hn, xTn_0, x1]
    have z1 : xTc g r v s 1 = xCa s 1 (8 - r) (xPl g r (nI f) (nI o) (nI k)) (r + 1) (nI k) := by
      unfold xTc
      rw [if_neg hn, x3, x1]
    have m1 : mv g (xPl g r (nI f) (nI o) (nI k)) (r + 1) (nI k) (d.toInt * 10 ^ r) := mvPl hr hI hf ho (by rw [← hv]; exact xv) (r + 1)
    rw [z0, z1]
    have hA : agr (xPl g r (nI f) (nI o) (nI k)) g (r + 1) := agr_Pl ⟨fun _ _ => rfl, rfl⟩
    rcases eCa hs (8 - r) (r + 1) (by omega) (xPl g r (nI f) (nI o) (nI k)) g k m1.1 hA (by omega) with ⟨b, hb, w2, w3, w4⟩ | w
    · refine Or.inl ⟨k + b, by omega, w2, w3, ?_⟩
      have m2 := mv_tr m1 w4 (Nat.le_refl _)
      rw [nI_add] at m2
      exact m2
    · exact Or.inr w
theorem eN10 : ∀ m, m < 19 → (nI m - 9 - 10 * xSg (nI m - 9)).toInt = (nI m - 9).toInt - 10 * (xSg (nI m - 9)).toInt := by decide +kernel
theorem eCh {g : Nat → Int32} {r m : Nat} (hr : r < 9) (hI : Iv g) (hm : m ≤ 18) {v : Int32} (ev : v = nI m - 9) :
    (∃ b : Nat, b ≤ 100 ∧ (xCh g r v 0).1 = nI b ∧ (xCh g r v 1).1 = nI b ∧ mv g (xCh g r v 1).2 (r + 1) (nI b) (v.toInt * 10 ^ r)) ∨ (xCh g r v 0).1 = -1 := by
  have hR := hI.1 r hr
  rcases eT hR (xSh g r + v) with x1 | ⟨f, k, o, hf, hk, ho, x1, xv, x3⟩
  · have z : ∀ d : Int32, xCh g r v d = xTc g r (xSh g r + v - 10 * xSg v) (xSg v) d := fun d => by unfold xCh; rw [if_neg (fun z => z x1)]
    rw [z, z]
    have e10 := eN10 m (by omega)
    rw [← ev] at e10
    have hh := eTc (g := g) (r := r) (s := xSg v) (d := v - 10 * xSg v) (sg_or v) hr hI (xSh g r + v - 10 * xSg v) (by rw [Int32.sub_eq_add_neg, Int32.sub_eq_add_neg, Int32.add_assoc])
    have e : (v - 10 * xSg v).toInt * 10 ^ r + (xSg v).toInt * 10 ^ (r + 1) = v.toInt * 10 ^ r := by
      rw [e10, p10, Int.sub_mul, Int.mul_assoc, Int.mul_left_comm (xSg v).toInt]
      omega
    rw [e] at hh
    exact hh
  · have hn : ¬ xTv g r (xSh g r + v) = -1 := by rw [x1]; exact nIm1 (by omega)
    have z0 : (xCh g r v 0).1 = nI k := by unfold xCh; rw [if_pos hn, x1]
    have z1 : xCh g r v 1 = (nI k, xPl g r (nI f) (nI o) (nI k)) := by unfold xCh; rw [if_pos hn, x1, x3]
    rw [z0, z1]
    exact Or.inl ⟨k, by omega, rfl, rfl, mvPl hr hI hf ho xv (r + 1)⟩
theorem eCh0 {g : Nat → Int32} {r : Nat} (hR : Rd9 g r) : (xCh g r 0 0).1 = 0 := by
  have h0 : xTv g r (xSh g r + 0) = 0 := by rw [Int32.add_zero, eOwnV hR]
  unfold xCh
  rw [if_pos (by rw [h0]; decide), h0]
theorem eIv3 {g : Nat → Int32} {r : Nat} (hI : Iv g) : Iv (upd g (6 * r + 3) 0) := by
  refine ⟨fun r1 hr1 => ?_, ?_⟩
  · obtain ⟨F, O, S, L, hF, hO, hS, hL, e1, e2, e4, e3⟩ := hI.1 r1 hr1
    by_cases hq : r1 = r
    · subst hq
      exact ⟨F, O, S, 9, hF, hO, hS, by decide, by rw [pk_un (by omega), e1], by rw [pk_un (by omega), e2], by rw [pk_un (by omega), e4], by rw [pk_us]; decide⟩
    · exact ⟨F, O, S, L, hF, hO, hS, hL, by rw [pk_un (by omega), e1], by rw [pk_un (by omega), e2], by rw [pk_un (by omega), e4], by rw [pk_un (by omega), e3]⟩
  · obtain ⟨m, hm, e⟩ := hI.2
    exact ⟨m, hm, by rw [pk_un (by omega), e]⟩
/-- a loan that can be paid back -/
theorem ePy {g : Nat → Int32} {r : Nat} (hr : r < 9) (hI : Iv g) (h : ¬ (xCh g r (g (6 * r + 3)) 0).1 = -1) :
    ∃ b : Nat, b ≤ 100 ∧ (xCh g r (g (6 * r + 3)) 0).1 = nI b ∧ (xPa g r).1 = nI b ∧ (xPa g r).2 (6 * r + 3) = 0 ∧ Iv (xPa g r).2 ∧ zW (xPa g r).2 9 = zW g 9 ∧ xAm (xPa g r).2 = xAm g + nI b := by
  obtain ⟨F, O, S, L, hF, hO, hS, hL, e1, e2, e4, e3⟩ := hI.1 r hr
  rcases eCh hr hI hL e3 with ⟨b, hb, h1, h2, h3⟩ | h0
  · refine ⟨b, hb, h1, ?_⟩
    have z : xPa g r = ((xCh g r (g (6 * r + 3)) 1).1, upd (xCh g r (g (6 * r + 3)) 1).2 (6 * r + 3) 0) := by
      unfold xPa
      rw [if_neg h]
    rw [z]
    generalize (xCh g r (g (6 * r + 3)) 1) = X at h2 h3
    obtain ⟨m1, m2, m3, m4⟩ := h3
    refine ⟨h2, pk_us, eIv3 m1, ?_, ?_⟩
    · show zW (upd X.2 (6 * r + 3) 0) 9 = zW g 9
      rw [zW_upd (g := X.2) (r := r) (fun j hj => zc_eq (pk_un (by omega)) (pk_un (by omega)) (pk_un (by omega))) 9 hr, m2]
      have s1 : xSh (upd X.2 (6 * r + 3) 0) r = xSh X.2 r := by
        unfold xSh
        rw [pk_un (by omega), pk_un (by omega)]
      have e : zc (upd X.2 (6 * r + 3) 0) r - zc X.2 r = -(g (6 * r + 3)).toInt := by
        unfold zc
        rw [s1, pk_us, m4 r (by omega), show (0 : Int32).toInt = 0 from by decide]
        omega
      rw [e, Int.neg_mul]
      omega
    · show xAm (upd X.2 (6 * r + 3) 0) = xAm g + nI b
      rw [← m3]
      exact eAmU 9 (fun j _ => by omega)
  · exact absurd h0 h
theorem ePa {g : Nat → Int32} {r : Nat} (hr : r < 9) (hI : Iv g) : ∃ b : Nat, b ≤ 100 ∧ (xPa g r).1 = nI b ∧ Iv (xPa g r).2 ∧ zW (xPa g r).2 9 = zW g 9 ∧ xAm (xPa g r).2 = xAm g + nI b := by
  by_cases h : (xCh g r (g (6 * r + 3)) 0).1 = -1
  · have z : xPa g r = (0, g) := by unfold xPa; rw [if_pos h]
    rw [z]
    exact ⟨0, by decide, rfl, hI, rfl, (Int32.add_zero _).symm⟩
  · obtain ⟨b, hb, -, h2, -, h4, h5, h6⟩ := ePy hr hI h
    exact ⟨b, hb, h2, h4, h5, h6⟩
theorem eOr {g : Nat → Int32} {r : Nat} (hr : r < 9) (hI : Iv g) : ∃ b : Nat, b ≤ 100 ∧ (xOr g r).1 = nI b ∧ Iv (xOr g r).2 ∧ zW (xOr g r).2 9 = zW g 9 ∧ xAm (xOr g r).2 = xAm g + nI b := by
  have h0 : ∃ b : Nat, b ≤ 100 ∧ ((0 : Int32), g).1 = nI b ∧ Iv ((0 : Int32), g).2 ∧ zW ((0 : Int32), g).2 9 = zW g 9 ∧ xAm ((0 : Int32), g).2 = xAm g + nI b := ⟨0, by decide, rfl, hI, rfl, (Int32.add_zero _).symm⟩
  unfold xOr
  by_cases h1 : xSh g r - 10 < 0
  · rw [if_pos h1]; exact h0
  · rw [if_neg h1]
    by_cases h2 : (xTc g r (xSh g r - 10) 1 0).1 = -1
    · rw [if_pos h2]; exact h0
    · rw [if_neg h2]
      rcases eTc (g := g) (r := r) (s := 1) (d := -10) (Or.inl rfl) hr hI (xSh g r - 10) (Int32.sub_eq_add_neg _ _) with ⟨b, hb, w1, w2, w3⟩ | w
      · refine ⟨b, hb, w2, w3.1, ?_, w3.2.2.1⟩
        rw [w3.2.1, p10, show (1 : Int32).toInt = 1 from by decide, show (-10 : Int32).toInt = -10 from by decide]
        omega
      · exact absurd w h2
theorem bd3 {b0 b1 b2 q : Nat} (h0 : b0 ≤ 200 * q) (h1 : b1 ≤ 100) (h2 : b2 ≤ 100) : b0 + b1 + b2 ≤ 200 * (q + 1) := by omega
theorem eTd_s {g g1 : Nat → Int32} {T : Int32} {q b0 : Nat} (hq : q < 9) (hb0 : b0 ≤ 200 * q) (h1 : T = nI b0) (h2 : Iv g1) (h3 : zW g1 9 = zW g 9) (h4 : xAm g1 = xAm g + nI b0) :
    ∃ b : Nat, b ≤ 200 * (q + 1) ∧ T + (xPa g1 q).1 + (xOr (xPa g1 q).2 q).1 = nI b ∧ Iv (xOr (xPa g1 q).2 q).2 ∧ zW (xOr (xPa g1 q).2 q).2 9 = zW g 9 ∧ xAm (xOr (xPa g1 q).2 q).2 = xAm g + nI b := by
  obtain ⟨b1, hb1, k1, k2, k3, k4⟩ := ePa hq h2
  obtain ⟨b2, hb2, l1, l2, l3, l4⟩ := eOr hq k2
  refine ⟨b0 + b1 + b2, bd3 hb0 hb1 hb2, ?_, l2, l3.trans (k3.trans h3), ?_⟩
  · rw [h1, k1, l1, nI_add, nI_add]
  · rw [l4, k4, h4, ← nI_add, ← nI_add]
    simp only [Int32.add_assoc]
theorem eTd {g : Nat → Int32} (hI : Iv g) (q : Nat) : q ≤ 9 → ∃ b : Nat, b ≤ 200 * q ∧ (xTd g q).1 = nI b ∧ Iv (xTd g q).2 ∧ zW (xTd g q).2 9 = zW g 9 ∧ xAm (xTd g q).2 = xAm g + nI b := by
  induction q with
  | zero => exact fun _ => ⟨0, Nat.le_refl _, rfl, hI, rfl, (Int32.add_zero _).symm⟩
  | succ q ih =>
    intro hq
    obtain ⟨b0, hb0, h1, h2, h3, h4⟩ := ih (Nat.le_of_lt hq)
    rw [show xTd g (q + 1) = ((xTd g q).1 + (xPa (xTd g q).2 q).1 + (xOr (xPa (xTd g q).2 q).2 q).1, (xOr (xPa (xTd g q).2 q).2 q).2) from rfl]
    dsimp only
    exact eTd_s hq hb0 h1 h2 h3 h4
/-! the whole number, as the class says it -/
theorem zcN {g : Nat → Int32} {r : Nat} (hR : Rd9 g r) : ∃ c L : Nat, c ≤ 15 ∧ L ≤ 18 ∧ xSh g r = nI c ∧ g (6 * r + 3) = nI L - 9 ∧ zc g r = (c : Int) + L - 9 := by
  obtain ⟨c, hc, ec⟩ := eShN hR
  obtain ⟨F, O, S, L, hF, hO, hS, hL, e1, e2, e4, e3⟩ := hR
  refine ⟨c, L, hc, hL, ec, e3, ?_⟩
  unfold zc
  rw [ec, e3, loI hL, nI_toInt (by omega)]
  omega
theorem eCL : ∀ c, c < 16 → ∀ L, L < 19 → (nI c + (nI L - 9)).toInt = (c : Int) + L - 9 := by decide +kernel
theorem zcI {g : Nat → Int32} {r : Nat} (hR : Rd9 g r) : (xSh g r + g (6 * r + 3)).toInt64 = Int64.ofInt (zc g r) := by
  obtain ⟨c, L, hc, hL, e1, e2, e3⟩ := zcN hR
  rw [← Int64.ofInt_int32ToInt, e3, e1, e2, eCL c (by omega) L (by omega)]
theorem xWs_z {g : Nat → Int32} (hI : Iv g) : ∀ n : Nat, n ≤ 9 → (xWs g n).1 = Int64.ofInt (zW g n) ∧ (xWs g n).2 = Int64.ofInt (10 ^ n)
  | 0, _ => ⟨rfl, rfl⟩
  | n + 1, h => by
    obtain ⟨h1, h2⟩ := xWs_z hI n (by omega)
    refine ⟨?_, ?_⟩
    · show (xWs g n).1 + (xSh g n + g (6 * n + 3)).toInt64 * (xWs g n).2 = Int64.ofInt (zW g n + zc g n * 10 ^ n)
      rw [h1, h2, zcI (hI.1 n (by omega)), Int64.ofInt_add, Int64.ofInt_mul]
    · show (xWs g n).2 * 10 = Int64.ofInt (10 ^ (n + 1))
      rw [h2, Int.pow_succ, Int64.ofInt_mul]
      rfl
theorem xWh {g : Nat → Int32} (hI : Iv g) : (xWs g 9).1 = Int64.ofInt (zW g 9) := (xWs_z hI 9 (by decide)).1
