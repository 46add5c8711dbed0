/-! texts: where the first wrong character stands -/
theorem dg_iff (x : Int32) : dg x = true ↔ ¬ x < 48 ∧ ¬ 57 < x :=
  ⟨fun h => Decidable.byContradiction fun z => by rw [dg_f z] at h; exact h, fun h => by rw [dg_t h]; trivial⟩
theorem sg_dg {x : Int32} (h : sg x = true) : ¬ (¬ x < 48 ∧ ¬ 57 < x) := by
  unfold sg at h
  by_cases h1 : x = 43
  · rw [h1]; decide
  · rw [if_neg h1] at h
    by_cases h2 : x = 45
    · rw [h2]; decide
    · rw [if_neg h2] at h; cases h
def wi (t : Nat → Int32) (i d : Nat) (b : Int32) (A : Nat) : Prop :=
  (i = 0 ∧ d = 0 ∧ b = 0 ∧ A = 0) ∨ (0 < i ∧ sg (t (i - 1)) = true ∧ d = 0 ∧ b = 0 ∧ A = 6) ∨
  (0 < i ∧ ¬ sg (t (i - 1)) = true ∧ 1 ≤ d ∧ d ≤ 6 ∧ ((b = 0 ∧ A + d = 6) ∨ (¬ b = 0 ∧ A = 0)))
theorem nI0 {i : Nat} (h : 0 < i) (h2 : i < 2 ^ 31) : ¬ nI i ≤ 0 := nI_nle h h2
theorem eFw {t : Nat → Int32} {n : Nat} (hn : n ≤ 60) : ∀ (k i d : Nat) (b : Int32) (A : Nat), k + i = n → wi t i d b A → xFw t n k i (nI A) = yWr t n k i (nI d) b
  | 0, i, d, b, A, _, _ => rfl
  | k + 1, i, d, b, A, hk, hw => by
    unfold xFw yWr
    by_cases hs : sg (t i) = true
    · have hd := sg_dg hs
      have hd2 : ¬ (dg (t i) = true ∧ ¬ nI A ≤ 0) := fun z => hd ((dg_iff _).mp z.1)
      rw [if_pos hs, if_neg hd2]
      have nx : xFw t n k (i + 1) 6 = yWr t n k (i + 1) 0 0 := eFw hn k (i + 1) 0 0 6 (by omega) (Or.inr (Or.inl ⟨by omega, hs, rfl, rfl, rfl⟩))
      rcases hw with ⟨h0, rfl, rfl, rfl⟩ | ⟨hi, hp, rfl, rfl, rfl⟩ | ⟨hi, hp, h1, h6, -⟩
      · exact Eq.trans (if_pos ⟨hs, fun z => z.1 (by rw [h0]; decide)⟩) (Eq.trans nx (if_pos (Or.inl (by rw [h0]; rfl))).symm)
      · exact Eq.trans (if_neg (fun z => z.2 ⟨nI0 hi (by omega), hp⟩)) (if_neg (fun z => z.elim (nI_ne0 hi (by omega)) (fun q => q (by decide)))).symm
      · exact Eq.trans (if_pos ⟨hs, fun z => hp z.2⟩) (Eq.trans nx (if_pos (Or.inr (nI0 h1 (by omega)))).symm)
    · rw [if_neg (fun z => hs z.1), if_neg hs]
      by_cases hd : ¬ t i < 48 ∧ ¬ 57 < t i
      · have hd1 := (dg_iff _).mpr hd
        rcases hw with ⟨h0, rfl, rfl, rfl⟩ | ⟨hi, hp, rfl, rfl, rfl⟩ | ⟨hi, hp, h1, h6, hb⟩
        · exact Eq.trans (if_neg (fun z => z.2 (by decide))) (if_neg (fun z => z.2.1 (by rw [h0]; decide))).symm
        · refine Eq.trans (if_pos ⟨hd1, by decide⟩) (Eq.trans ?_ (if_pos ⟨hd, nI0 hi (by omega), by decide, rfl⟩).symm)
          by_cases h48 : t i = 48
          · have a1 : (if xNb t i ∧ t i = 48 then (0 : Int32) else nI 6 - 1) = nI 0 := if_pos ⟨⟨nI0 hi (by omega), hp⟩, h48⟩
            have b1 : (if ¬ (0 : Int32) = 0 ∨ (nI 0 = 0 ∧ t i = 48) then (1 : Int32) else 0) = 1 := if_pos (Or.inr ⟨rfl, h48⟩)
            rw [a1, b1]
            exact eFw hn k (i + 1) 1 1 0 (by omega) (Or.inr (Or.inr ⟨by omega, hs, by decide, by decide, Or.inr ⟨by decide, rfl⟩⟩))
          · have a1 : (if xNb t i ∧ t i = 48 then (0 : Int32) else nI 6 - 1) = nI 5 := if_neg (fun z => h48 z.2)
            have b1 : (if ¬ (0 : Int32) = 0 ∨ (nI 0 = 0 ∧ t i = 48) then (1 : Int32) else 0) = 0 := if_neg (fun z => z.elim (fun q => q rfl) (fun q => h48 q.2))
            rw [a1, b1]
            exact eFw hn k (i + 1) 1 0 5 (by omega) (Or.inr (Or.inr ⟨by omega, hs, by decide, by decide, Or.inl ⟨rfl, rfl⟩⟩))
        · rcases hb with ⟨rfl, hA⟩ | ⟨hb, rfl⟩
          · by_cases h : d = 6
            · have hA0 : A = 0 := by omega
              subst h; subst hA0
              exact Eq.trans (if_neg (fun z => z.2 (by decide))) (if_neg (fun z => z.2.2.1 (by decide))).symm
            · refine Eq.trans (if_pos ⟨hd1, nI0 (by omega) (by omega)⟩) (Eq.trans ?_ (if_pos ⟨hd, nI0 hi (by omega), nI_ge (b := 6) (by omega) (by decide), rfl⟩).symm)
              have a1 : (if xNb t i ∧ t i = 48 then (0 : Int32) else nI A - 1) = nI (A - 1) := Eq.trans (if_neg (fun z => hp z.1.2)) (pk_sub (b := 1) (by omega))
              have b1 : (if ¬ (0 : Int32) = 0 ∨ (nI d = 0 ∧ t i = 48) then (1 : Int32) else 0) = 0 := if_neg (fun z => z.elim (fun q => q rfl) (fun q => nI_ne0 (n := d) (by omega) (by omega) q.1))
              rw [a1, b1, nI_1]
              exact eFw hn k (i + 1) (d + 1) 0 (A - 1) (by omega) (Or.inr (Or.inr ⟨by omega, hs, by omega, by omega, Or.inl ⟨rfl, by omega⟩⟩))
          · exact Eq.trans (if_neg (fun z => z.2 (by decide))) (if_neg (fun z => hb z.2.2.2)).symm
      · exact Eq.trans (if_neg (fun z => hd ((dg_iff _).mp z.1))) (if_neg (fun z => hd z.1)).symm
theorem eFW {t : Nat → Int32} {n : Nat} (hn : n ≤ 60) : xFW t n = yWR t n := eFw hn n 0 0 0 0 rfl (Or.inl ⟨rfl, rfl, rfl, rfl⟩)
/-! a text that is a sum: signs and digits, six digits at most in a row -/
theorem eNx {t : Nat → Int32} {n : Nat} (hn : n ≤ 60) {k i d : Nat} {b : Int32} (hk : k + 1 + i = n) (h : yWr t n (k + 1) i (nI d) b = nI n) :
    (sg (t i) = true ∧ yWr t n k (i + 1) (nI 0) 0 = nI n) ∨ (¬ sg (t i) = true ∧ dg (t i) = true ∧ 0 < i ∧ ¬ 6 ≤ nI d ∧ ∃ b1 : Int32, yWr t n k (i + 1) (nI (d + 1)) b1 = nI n) := by
  have hne : ¬ nI i = nI n := fun z => absurd ((nI_eq (by omega) (by omega)).mp z) (by omega)
  unfold yWr at h
  by_cases hs : sg (t i) = true
  · rw [if_pos hs] at h
    by_cases hc : nI i = 0 ∨ ¬ nI d ≤ 0
    · rw [if_pos hc] at h; exact Or.inl ⟨hs, h⟩
    · rw [if_neg hc] at h; exact absurd h hne
  · rw [if_neg hs] at h
    by_cases hc : (¬ t i < 48 ∧ ¬ 57 < t i) ∧ ¬ nI i ≤ 0 ∧ ¬ 6 ≤ nI d ∧ b = 0
    · rw [if_pos hc, nI_1] at h
      exact Or.inr ⟨hs, (dg_iff _).mpr hc.1, posI hc.2.1, hc.2.2.1, _, h⟩
    · rw [if_neg hc] at h; exact absurd h hne
theorem lt6 {d : Nat} (h : ¬ 6 ≤ nI d) (hd : d ≤ 6) : d < 6 := by
  rcases Nat.lt_or_ge d 6 with e | e
  · exact e
  · have : d = 6 := by omega
    subst this; exact absurd (by decide) h
theorem eRun {t : Nat → Int32} {n : Nat} (hn : n ≤ 60) : ∀ (k i d : Nat) (b : Int32) (c : Nat), k + i = n → d ≤ 6 → yWr t n k i (nI d) b = nI n → xDb t k i c ≤ c + (6 - d)
  | 0, i, d, b, c, _, _, _ => Nat.le_add_right _ _
  | k + 1, i, d, b, c, hk, hd, h => by
    unfold xDb
    rcases eNx hn hk h with ⟨hs, -⟩ | ⟨hs, h1, -, h6, b1, h2⟩
    · rw [if_neg (fun z => sg_dg hs ((dg_iff _).mp z))]
      omega
    · rw [if_pos h1]
      have := lt6 h6 hd
      have := eRun hn k (i + 1) (d + 1) b1 (c + 1) (by omega) (by omega) h2
      omega
def vt (t : Nat → Int32) (n j : Nat) : Prop := (sg (t j) = true ∨ dg (t j) = true) ∧ xDB t n j ≤ 6
theorem eAll {t : Nat → Int32} {n : Nat} (hn : n ≤ 60) : ∀ (k i d : Nat) (b : Int32), k + i = n → d ≤ 6 → yWr t n k i (nI d) b = nI n → ∀ j, i ≤ j → j < n → vt t n j
  | 0, i, d, b, hk, _, _, j, h1, h2 => by omega
  | k + 1, i, d, b, hk, hd, h, j, h1, h2 => by
    have ek : k = n - (i + 1) := by omega
    rcases eNx hn hk h with ⟨hs, hx⟩ | ⟨hs, hdg, -, h6, b1, hx⟩
    · by_cases hj : j = i
      · subst hj
        refine ⟨Or.inl hs, ?_⟩
        have := eRun hn k (j + 1) 0 0 0 (by omega) (by omega) hx
        unfold xDB
        rw [← ek]; omega
      · exact eAll hn k (i + 1) 0 0 (by omega) (by omega) hx j (by omega) h2
    · have := lt6 h6 hd
      by_cases hj : j = i
      · subst hj
        refine ⟨Or.inr hdg, ?_⟩
        have := eRun hn k (j + 1) (d + 1) b1 0 (by omega) (by omega) hx
        unfold xDB
        rw [← ek]; omega
      · exact eAll hn k (i + 1) (d + 1) b1 (by omega) (by omega) hx j (by omega) h2
theorem eVt {t : Nat → Int32} {n : Nat} (hn : n ≤ 60) (h : yWR t n = nI n) : ∀ j, j < n → vt t n j := fun j hj => eAll hn n 0 0 0 rfl (by decide) h j (Nat.zero_le _) hj
theorem eFst {t : Nat → Int32} {n : Nat} (hn : n ≤ 60) (h : yWR t n = nI n) (hp : 0 < n) : sg (t 0) = true := by
  obtain ⟨m, rfl⟩ : ∃ m, n = m + 1 := ⟨n - 1, by omega⟩
  rcases eNx (k := m) (i := 0) (d := 0) (b := 0) hn rfl h with ⟨hs, -⟩ | ⟨-, -, h0, -⟩
  · exact hs
  · omega
theorem eCs {t : Nat → Int32} {n : Nat} (hn : n ≤ 60) : xCs t n ↔ yCs t n := by
  unfold xCs yCs
  rw [eFW hn, dg_iff]
  have e : ¬ nI n < 1 ↔ ¬ nI n ≤ 0 := by
    rcases Nat.eq_zero_or_pos n with rfl | h
    · decide
    · exact ⟨fun _ => nI0 h (by omega), fun _ z => absurd ((nI_ltI (a := n) (b := 1) (by omega) (by decide)).mp z) (by omega)⟩
  rw [e]
/-! to reckon -/
theorem s9_eq {x v : Int32} (h : sg x = true) : (if x = 45 then (-1 : Int32) else 1) * v = if x = 43 then v else -v := by
  unfold sg at h
  by_cases h1 : x = 43
  · rw [if_neg (by rw [h1]; decide), if_pos h1, Int32.one_mul]
  · rw [if_neg h1] at h
    by_cases h2 : x = 45
    · rw [if_pos h2, if_neg h1, ← Int32.neg_eq_neg_one_mul]
    · rw [if_neg h2] at h; cases h
theorem eTm {t : Nat → Int32} {q d : Nat} (hs : sg (t q) = true) (hd : d ≤ 9) : ∀ (k r : Nat) (g a9 : Nat → Int32), k + r = d → Iv g →
    (yTm t q k r (g, a9)).2.1 = (xRt t q d (if t q = 45 then -1 else 1) k r g).2 ∧ Iv (xRt t q d (if t q = 45 then -1 else 1) k r g).2 ∧
    (((xRt t q d (if t q = 45 then -1 else 1) k r g).1 = d ∧ (yTm t q k r (g, a9)).1 = nI d) ∨ ((xRt t q d (if t q = 45 then -1 else 1) k r g).1 < d ∧ (yTm t q k r (g, a9)).1 = -1 - nI (xRt t q d (if t q = 45 then -1 else 1) k r g).1))
  | 0, r, g, a9, hk, hI => by
    have : r = d := by omega
    subst this
    exact ⟨rfl, hI, Or.inl ⟨rfl, rfl⟩⟩
  | k + 1, r, g, a9, hk, hI => by
    have hv : (if t q = 45 then (-1 : Int32) else 1) * (t (q + d - r) - 48) = yTg t q k := by
      rw [s9_eq hs, show q + d - r = q + (k + 1) by omega]
      rfl
    rw [show yTm t q (k + 1) r (g, a9) = if (yT0 g r (yTg t q k)).1 = true then yTm t q k (r + 1) ((yT0 g r (yTg t q k)).2, g) else (-1 - nI r, ((yT0 g r (yTg t q k)).2, g)) from rfl,
      show xRt t q d (if t q = 45 then -1 else 1) (k + 1) r g = if (xCh g r ((if t q = 45 then (-1 : Int32) else 1) * (t (q + d - r) - 48)) 0).1 = -1 then (r, g) else xRt t q d (if t q = 45 then -1 else 1) k (r + 1) (xCh g r ((if t q = 45 then (-1 : Int32) else 1) * (t (q + d - r) - 48)) 1).2 from rfl, hv]
    rcases eT0 (r := r) (by omega) hI (yTg t q k) with ⟨h1, b, hb, h2, h3, h4, h5⟩ | ⟨h1, h6, h2⟩
    · rw [if_pos h1, if_neg (by rw [h2]; exact nIm1 (by omega)), h3]
      exact eTm hs hd k (r + 1) (yT0 g r (yTg t q k)).2 g (by omega) h5
    · rw [if_neg (by rw [h1]; decide), if_pos h2, h6]
      exact ⟨rfl, hI, Or.inr ⟨by show r < d; omega, rfl⟩⟩
theorem eDb (t : Nat → Int32) : ∀ (k i c : Nat), c ≤ xDb t k i c ∧ xDb t k i c ≤ c + k ∧ (∀ j, i ≤ j → j < i + (xDb t k i c - c) → dg (t j) = true) ∧ (xDb t k i c - c < k → ¬ dg (t (i + (xDb t k i c - c))) = true)
  | 0, i, c => ⟨Nat.le_refl _, Nat.le_refl _, fun j h1 h2 => by simp only [xDb] at h2; omega, fun h => by omega⟩
  | k + 1, i, c => by
    unfold xDb
    by_cases h : dg (t i) = true
    · rw [if_pos h]
      obtain ⟨h1, h2, h3, h4⟩ := eDb t k (i + 1) (c + 1)
      refine ⟨by omega, by omega, fun j hj1 hj2 => ?_, fun hk => ?_⟩
      · by_cases hj : j = i
        · rw [hj]; exact h
        · exact h3 j (by omega) (by omega)
      · have := h4 (by omega)
        rw [show i + 1 + (xDb t k (i + 1) (c + 1) - (c + 1)) = i + (xDb t k (i + 1) (c + 1) - c) by omega] at this
        exact this
    · rw [if_neg h]
      refine ⟨Nat.le_refl _, by omega, fun j h1 h2 => by omega, fun _ => ?_⟩
      rw [Nat.sub_self, Nat.add_zero]
      exact h
theorem eSkip (t : Nat → Int32) (n : Nat) : ∀ (d m q A : Nat) (g : Nat → Int32), (∀ j, q ≤ j → j < q + d → ¬ sg (t j) = true) → xRk t n (m + d) q A g = xRk t n m (q + d) A g
  | 0, m, q, A, g, _ => rfl
  | d + 1, m, q, A, g, h => by
    rw [show m + (d + 1) = (m + d) + 1 from rfl]
    conv => lhs; unfold xRk
    rw [if_neg (h q (Nat.le_refl _) (by omega)), eSkip t n d m (q + 1) A g (fun j h1 h2 => h j (by omega) (by omega)), show q + 1 + d = q + (d + 1) by omega]
theorem eRkN (t : Nat → Int32) (n : Nat) (a : Int32) (p : (Nat → Int32) × (Nat → Int32)) : ∀ k : Nat, yRk t n k n a p = (a, p)
  | 0 => rfl
  | k + 1 => if_pos (Int32.le_refl _)
theorem eNegT : ∀ c : Nat, c < 10 → decide (¬ 0 ≤ -1 - nI c ∧ -1 - (-1 - nI c) = nI c) = true := by decide +kernel
theorem eRk {t : Nat → Int32} {n : Nat} (hn : n ≤ 60) (hv : ∀ j, j < n → vt t n j) : ∀ (k q A : Nat) (g a9 : Nat → Int32), n ≤ k + q → q ≤ n → (q < n → sg (t q) = true) → Iv g →
    (yRk t n k q (nI A) (g, a9)).1 = nI (xRk t n (n - q) q A g).1 ∧ (yRk t n k q (nI A) (g, a9)).2.1 = (xRk t n (n - q) q A g).2 ∧ Iv (xRk t n (n - q) q A g).2
  | 0, q, A, g, a9, h1, h2, _, hI => by
    rw [show n - q = 0 by omega]
    exact ⟨rfl, rfl, hI⟩
  | k + 1, q, A, g, a9, h1, h2, hs, hI => by
    rcases Nat.lt_or_ge q n with hq | hq
    · have hsq := hs hq
      obtain ⟨m, hm⟩ : ∃ m, n - q = m + 1 := ⟨n - q - 1, by omega⟩
      have hd6 := (hv q hq).2
      have hlt := xDB_lt (t := t) hq
      have hdb := eDb t (n - (q + 1)) (q + 1) 0
      have hXT : xRT t q (xDB t n q) g = xRt t q (xDB t n q) (if t q = 45 then -1 else 1) (xDB t n q) 0 g := by
        unfold xRT
        rw [Nat.min_eq_left (by omega)]
      have hT := eTm hsq (d := xDB t n q) (by omega) (xDB t n q) 0 g a9 (by omega) hI
      rw [← hXT] at hT
      have hY : yRk t n (k + 1) q (nI A) (g, a9) = if 0 ≤ (yTm t q (xDB t n q) 0 (g, a9)).1 then yRk t n k (q + 1 + xDB t n q) (nI A + (yTm t q (xDB t n q) 0 (g, a9)).1) (yTm t q (xDB t n q) 0 (g, a9)).2
          else yRk t n k n (nI A + (-1 - (yTm t q (xDB t n q) 0 (g, a9)).1)) (yTm t q (xDB t n q) 0 (g, a9)).2 := by
        conv => lhs; unfold yRk
        rw [if_neg (nI_ge hq (by omega))]
      have hX : xRk t n (m + 1) q A g = if (xRT t q (xDB t n q) g).1 < xDB t n q then (A + (xRT t q (xDB t n q) g).1, (xRT t q (xDB t n q) g).2) else xRk t n m (q + 1) (A + (xRT t q (xDB t n q) g).1) (xRT t q (xDB t n q) g).2 := by
        conv => lhs; unfold xRk
        rw [if_pos hsq]
      rw [hm, hY, hX]
      generalize yTm t q (xDB t n q) 0 (g, a9) = T at hT
      generalize xRT t q (xDB t n q) g = R at hT
      obtain ⟨T1, T2, T3⟩ := T
      obtain ⟨R1, R2⟩ := R
      dsimp only at hT ⊢
      obtain ⟨e1, e2, e3⟩ := hT
      subst e1
      have hDB : xDB t n q = xDb t (n - (q + 1)) (q + 1) 0 := rfl
      rcases e3 with ⟨rfl, rfl⟩ | ⟨e4, rfl⟩
      · rw [if_pos (nI_pos' (n := xDB t n q) (by omega)), if_neg (Nat.lt_irrefl (xDB t n q)), nI_add]
        have hk : m = (n - (q + 1 + xDB t n q)) + xDB t n q := by omega
        rw [hk, eSkip t n (xDB t n q) _ (q + 1) _ _ (fun j hj1 hj2 hz => by
          have := hdb.2.2.1 j hj1 (by rw [← hDB]; omega)
          exact sg_dg hz ((dg_iff _).mp this))]
        refine eRk hn hv k (q + 1 + xDB t n q) (A + xDB t n q) T2 T3 (by omega) (by omega) (fun hlt2 => ?_) e2
        have hnd := hdb.2.2.2 (by rw [← hDB]; omega)
        rw [Nat.sub_zero, ← hDB] at hnd
        exact (hv _ hlt2).1.elim id (fun z => absurd z hnd)
      · have hN := of_decide_eq_true (eNegT R1 (by omega))
        rw [if_neg hN.1, if_pos e4, hN.2, eRkN, nI_add]
        exact ⟨rfl, rfl, e2⟩
    · have : q = n := by omega
      subst this
      rw [Nat.sub_self, eRkN]
      exact ⟨rfl, rfl, hI⟩
theorem eReckon {t : Nat → Int32} {n : Nat} {g a9 : Nat → Int32} (hn : n ≤ 60) (hc : yCs t n) (hI : Iv g) :
    (yRk t n n 0 0 (g, a9)).1 = nI (xRk t n n 0 0 g).1 ∧ (yRk t n n 0 0 (g, a9)).2.1 = (xRk t n n 0 0 g).2 ∧ Iv (xRk t n n 0 0 g).2 ∧ (∀ i, i < n → xDB t n i ≤ 9) := by
  have hv := eVt hn hc.2.1
  obtain ⟨h1, h2, h3⟩ := eRk hn hv n 0 0 g a9 (by omega) (by omega) (fun h => eFst hn hc.2.1 h) hI
  exact ⟨h1, h2, h3, fun i hi => by have := (hv i hi).2; omega⟩
/-! saved states: the ring, and the row of numbers -/
def rg (G : Nat → Nat → Int32) (o z : Nat) (sv : Nat → Int32) : Prop := ∀ k j, k < z → j < 55 → sv (55 * k + j) = G ((o + k) % 6) j
theorem rg_keep {G : Nat → Nat → Int32} {o z : Nat} {sv g : Nat → Int32} (ho : o < 6) (hz : z ≤ 6) (h : rg G o z sv) : rg (kG G o z g) (kO o z) (kM z + 1) (ySv g sv z) := by
  intro k j hk hj
  unfold ySv cpF
  have hI : kI o z = (kO o z + kM z) % 6 := rfl
  by_cases hkm : k = kM z
  · subst hkm
    rw [if_pos (by omega)]
    show g (55 * kM z + j - 55 * kM z) = kG G o z g ((kO o z + kM z) % 6) j
    unfold kG
    rw [if_pos hI.symm]
    congr 1
    omega
  · have hlt : k < kM z := by omega
    rw [if_neg (by omega)]
    unfold kG
    have hne : ¬ (kO o z + k) % 6 = kI o z := by
      rw [hI]
      have := kM_lt hz
      have := kO_lt (z := z) ho
      omega
    rw [if_neg hne]
    unfold yS6
    by_cases h6 : z = 6
    · subst h6
      rw [if_pos rfl]
      unfold shF
      have hk5 : k < 5 := hlt
      rw [if_pos (by omega), show 55 + (55 * k + j) = 55 * (k + 1) + j by omega, h (k + 1) j (by omega) hj]
      congr 1
      show (o + (k + 1)) % 6 = ((o + 1) % 6 + k) % 6
      omega
    · rw [if_neg h6]
      have e1 : kM z = z := if_neg h6
      have e2 : kO o z = o := if_neg h6
      rw [e2]
      exact h k j (by omega) hj
theorem rg_iv {G : Nat → Nat → Int32} {o z : Nat} {g : Nat → Int32} (ho : o < 6) (hz : z ≤ 6) (hg : Iv g) (h : ∀ k, k < z → Iv (G ((o + k) % 6))) : ∀ k, k < kM z + 1 → Iv (kG G o z g ((kO o z + k) % 6)) := by
  intro k hk
  unfold kG
  by_cases hne : (kO o z + k) % 6 = kI o z
  · rw [if_pos hne]; exact hg
  · rw [if_neg hne]
    by_cases h6 : z = 6
    · subst h6
      have hk5 : k < 6 := hk
      have hk6 : ¬ k = 5 := fun e => hne (by rw [e]; rfl)
      have := h (k + 1) (by omega)
      rw [show (kO o 6 + k) % 6 = (o + (k + 1)) % 6 by show ((o + 1) % 6 + k) % 6 = _; omega]
      exact this
    · have e1 : kM z = z := if_neg h6
      have e2 : kO o z = o := if_neg h6
      have hkz : ¬ k = z := fun e => hne (by unfold kI; rw [e2, e1, e])
      rw [e2]
      exact h k (by omega)
theorem rg_back {G : Nat → Nat → Int32} {o z : Nat} {sv : Nat → Int32} (h : rg G o z sv) : rg G o (z - 1) sv := fun k j hk hj => h k j (by omega) hj
theorem rg_un {G : Nat → Nat → Int32} {o z : Nat} {sv g : Nat → Int32} (hp : 0 < z) (h : rg G o z sv) : ∀ j, j < 55 → yUn g sv z j = G (rI o z) j := by
  intro j hj
  unfold yUn
  rw [cpF_55 hj]
  exact h (z - 1) j (by omega) hj
/-! the bits of the share, and the digest -/
def nB (x : UInt64) : Bool := decide (x &&& 0x7fffffffffffffff ≤ 0x7ff0000000000000)
theorem nB_ok {x : UInt64} (h : nB x = true) : vf_n64 x := by
  unfold nB at h
  exact (of_decide_eq_true h : x &&& 0x7fffffffffffffff ≤ 0x7ff0000000000000)
def xBb : Nat → UInt64 → Int64 → Bool
  | 0, _, _ => false
  | k + 1, s, e => if 0 ≤ Op.cmpValue (FP.dcmp s FP.dconst1) CmpOp.g then nB (FP.dsub s FP.dconst1) && nB (FP.dmul (FP.dsub s FP.dconst1) 4841369599423283200) else
    if lg_cmp e 0 ≤ 0 then nB (FP.dsub s FP.dconst1) && nB (FP.dmul (FP.dsub s FP.dconst1) 4841369599423283200) else nB (FP.dmul s 4611686018427387904) && xBb k (FP.dmul s 4611686018427387904) (e - 1)
def yBb : Nat → UInt64 → Int64 → Bool
  | 0, _, _ => false
  | k + 1, s, e => if 0 ≤ Op.cmpValue (FP.dcmp s FP.dconst1) CmpOp.g then nB (FP.dsub s FP.dconst1) && nB (FP.dmul (FP.dsub s FP.dconst1) 4841369599423283200) else
    nB (FP.dmul s 4611686018427387904) && yBb k (FP.dmul s 4611686018427387904) (e - 1)
theorem xBb_ok : ∀ (k : Nat) (s : UInt64) (e : Int64), xBb k s e = true → xBok k s e
  | 0, s, e, h => by cases h
  | k + 1, s, e, h => by
    unfold xBb at h
    unfold xBok
    by_cases h1 : 0 ≤ Op.cmpValue (FP.dcmp s FP.dconst1) CmpOp.g
    · rw [if_pos h1] at h ⊢
      exact ⟨nB_ok (Bool.and_eq_true_iff.mp h).1, nB_ok (Bool.and_eq_true_iff.mp h).2⟩
    · rw [if_neg h1] at h ⊢
      by_cases h2 : lg_cmp e 0 ≤ 0
      · rw [if_pos h2] at h ⊢
        exact ⟨nB_ok (Bool.and_eq_true_iff.mp h).1, nB_ok (Bool.and_eq_true_iff.mp h).2⟩
      · rw [if_neg h2] at h ⊢
        exact ⟨nB_ok (Bool.and_eq_true_iff.mp h).1, xBb_ok k _ _ (Bool.and_eq_true_iff.mp h).2⟩
theorem yBb_ok : ∀ (k : Nat) (s : UInt64) (e : Int64), yBb k s e = true → yBok k s e
  | 0, s, e, h => by cases h
  | k + 1, s, e, h => by
    unfold yBb at h
    unfold yBok
    by_cases h1 : 0 ≤ Op.cmpValue (FP.dcmp s FP.dconst1) CmpOp.g
    · rw [if_pos h1] at h ⊢
      exact ⟨nB_ok (Bool.and_eq_true_iff.mp h).1, nB_ok (Bool.and_eq_true_iff.mp h).2⟩
    · rw [if_neg h1] at h ⊢
      exact ⟨nB_ok (Bool.and_eq_true_iff.mp h).1, yBb_ok k _ _ (Bool.and_eq_true_iff.mp h).2⟩
def share (c : Nat) : UInt64 := FP.ddiv (FP.i2d (nI c)) 4639270566145032192
def tBit (c : Nat) : Bool := xBb 8 (share (c + 9)) 1023 && (yBb 8 (share (c + 9)) 1023 && (decide (¬ Op.cmpValue (FP.dcmp (share (c + 9)) FP.dconst0) CmpOp.l = 0) && decide (xBf 8 (share (c + 9)) 1023 = yBf 8 (share (c + 9)) 1023)))
theorem eBitT : ∀ c : Nat, c < 136 → tBit c = true := fun c hc => co_dec (N := 136) (P := fun c => tBit c = true) (by decide +kernel) hc
theorem eRePos {g : Nat → Int32} {r v : Nat} (hv : ¬ xTv g r (nI v) = -1) : ∀ n : Nat, v < n → ∃ c : Nat, 1 ≤ c ∧ c ≤ n ∧ xRe g r n = nI c
  | 0, h => by omega
  | n + 1, h => by
    unfold xRe
    obtain ⟨c, hc, e⟩ := xRe_n g r n
    by_cases hq : v = n
    · subst hq
      rw [if_neg hv, e]
      exact ⟨c + 1, by omega, by omega, nI_1 c⟩
    · obtain ⟨c, h1, hc, e⟩ := eRePos hv n (by omega)
      by_cases h2 : xTv g r (nI n) = -1
      · rw [if_pos h2]; exact ⟨c, h1, by omega, e⟩
      · rw [if_neg h2, e]; exact ⟨c + 1, by omega, by omega, nI_1 c⟩
theorem eLsPos {g : Nat → Int32} (hI : Iv g) : ∃ c : Nat, c < 136 ∧ xLs g = nI (c + 9) := by
  have key : ∀ n : Nat, n ≤ 9 → ∃ c : Nat, c ≤ 15 * n ∧ xSu (fun j => xRe g j 16) n = nI (c + n) := by
    intro n
    induction n with
    | zero => exact fun _ => ⟨0, Nat.le_refl _, rfl⟩
    | succ n ih =>
      intro hn
      obtain ⟨c, hc, e⟩ := ih (by omega)
      obtain ⟨v, hv, ev⟩ := eShN (hI.1 n (by omega))
      have h0 := eOwnV (hI.1 n (by omega))
      rw [ev] at h0
      obtain ⟨d, h1, hd, e2⟩ := eRePos (g := g) (r := n) (v := v) (by rw [h0]; decide) 16 (by omega)
      refine ⟨c + (d - 1), by omega, ?_⟩
      show xSu (fun j => xRe g j 16) n + xRe g n 16 = _
      rw [e, e2, nI_add]
      congr 1
      omega
  obtain ⟨c, hc, e⟩ := key 9 (by decide)
  exact ⟨c, by omega, e⟩
theorem eBits {g : Nat → Int32} (hI : Iv g) : xBok 8 (xLo g) 1023 ∧ yBok 8 (xLo g) 1023 ∧ ¬ Op.cmpValue (FP.dcmp (xLo g) FP.dconst0) CmpOp.l = 0 ∧ xBf 8 (xLo g) 1023 = yBf 8 (xLo g) 1023 := by
  obtain ⟨c, hc, e⟩ := eLsPos hI
  have es : xLo g = share (c + 9) := by unfold xLo share; rw [e]
  rw [es]
  have h := eBitT c hc
  unfold tBit at h
  obtain ⟨h1, h⟩ := Bool.and_eq_true_iff.mp h
  obtain ⟨h2, h⟩ := Bool.and_eq_true_iff.mp h
  obtain ⟨h3, h4⟩ := Bool.and_eq_true_iff.mp h
  exact ⟨xBb_ok _ _ _ h1, yBb_ok _ _ _ h2, of_decide_eq_true h3, of_decide_eq_true h4⟩
theorem dK_congr {h : Int64} {f f1 : Nat → Int64} : ∀ n : Nat, (∀ i, i < n → f i = f1 i) → dK h f n = dK h f1 n
  | 0, _ => rfl
  | n + 1, hf => by
    show 31 * dK h f n + f n = 31 * dK h f1 n + f1 n
    rw [dK_congr n (fun i hi => hf i (by omega)), hf n (by omega)]
theorem dL_congr {F F1 : Nat → Int64 → Int64} {h : Int64} : ∀ n : Nat, (∀ i h, i < n → F i h = F1 i h) → dL F h n = dL F1 h n
  | 0, _ => rfl
  | n + 1, hf => by
    show F n (dL F h n) = F1 n (dL F1 h n)
    rw [dL_congr n (fun i h hi => hf i h (by omega)), hf n _ (by omega)]
theorem eRC {g : Nat → Int32} (hI : Iv g) {r : Nat} (hr : r < 9) (h : Int64) : xRC g r h = yRC g r h := by
  unfold xRC yRC
  have hR := hI.1 r hr
  rw [(eXY hR 0).1, (eXY hR 7).1, (eXY hR 15).1, eK0 hr hI 1, eK0 hr hI 6, eK0 hr hI (-1), eK0 hr hI (-6), dK_congr (f := fun w => (yRd g r w).toInt64) (f1 := fun w => (xRod g r w).toInt64) 8 (fun i _ => by rw [eRd hR i])]
theorem eDg {t : Nat → Int32} {g : Nat → Int32} (hI : Iv g) (z n : Nat) : xDg t g z n 8 = yDg t g z n 8 := by
  unfold xDg yDg
  have h3 : xH3 g z = yH3 g z := by
    unfold xH3 yH3
    rw [eWhole hI, dK_congr (f := fun w => (yCn g z w).toInt64) (f1 := fun w => (xCn g z w).toInt64) 8 (fun i _ => by rw [eCn hI z i])]
  have h8 : xH8 g z n 8 = yH8 g z n 8 := by
    unfold xH8 yH8
    rw [h3, dL_congr (F := xRC g) (F1 := yRC g) 9 (fun i h hi => eRC hI hi h), eS1 hI 9 0 0 0 rfl, eS1 hI 9 0 123456789 0 rfl, (eCp (a9 := g) hI 9 (by decide)).1, eLo hI, (eBits hI).2.2.2]
  rw [h8]
