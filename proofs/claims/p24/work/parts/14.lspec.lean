/-! ===== what the law says of the rods, in its own words, and that it is so ===== -/
def lw (v : Int32) (n : Nat) : Nat := v.toBitVec.toNat % 2 ^ 31 % n
theorem lw_lt {v : Int32} {n : Nat} (h : 0 < n) : lw v n < n := Nat.mod_lt _ h
def xC (xs : Nat → Int32) (L e : Nat) : Int32 := if nI L ≤ nI e then 7919 * (nI e + 3) * (nI e + 11) else xs e
/-! one rod: the least number of moves by trying every place of the fives -/
def lM (g : Nat → Int32) (r : Nat) (v f : Int32) : Int32 :=
  if v - 5 * f < 0 then 0 else if 6 ≤ v - 5 * f then 0 else
  if ¬ xRod g r 4 &&& 1 = 0 ∧ ¬ f = xRod g r 0 then 0 else if ¬ xRod g r 4 &&& 2 = 0 ∧ ¬ v - 5 * f = xRod g r 1 then 0 else 1
def lT (g : Nat → Int32) (r : Nat) (v f : Int32) : Int32 :=
  (if f ≤ xRod g r 0 then xRod g r 0 - f else f - xRod g r 0) + (if v - 5 * f ≤ xRod g r 1 then xRod g r 1 - (v - 5 * f) else v - 5 * f - xRod g r 1)
def lS (g : Nat → Int32) (r : Nat) (v f a : Int32) : Int32 := if lM g r v f = 0 then a else if a < 0 then lT g r v f else if a ≤ lT g r v f then a else lT g r v f
def lF (g : Nat → Int32) (r : Nat) (v : Int32) : Nat → Nat → Int32 → Int32
  | 0, _, a => a
  | n + 1, q, a => lF g r v n (q + 1) (lS g r v (nI q) a)
def gg (F O S : Nat) : Nat → Int32 := fun j => if j = 1 then nI F else if j = 2 then nI O else nI S
theorem xTv_congr {g g1 : Nat → Int32} {r r1 : Nat} (h1 : g (6 * r + 1) = g1 (6 * r1 + 1)) (h2 : g (6 * r + 2) = g1 (6 * r1 + 2)) (h4 : g (6 * r + 4) = g1 (6 * r1 + 4)) (v : Int32) : xTv g r v = xTv g1 r1 v := by
  unfold xTv xTq
  simp only [xTf, xTs, xMb, h1, h2, h4]
theorem lS_congr {g g1 : Nat → Int32} {r r1 : Nat} (h1 : g (6 * r + 1) = g1 (6 * r1 + 1)) (h2 : g (6 * r + 2) = g1 (6 * r1 + 2)) (h4 : g (6 * r + 4) = g1 (6 * r1 + 4)) (v f a : Int32) : lS g r v f a = lS g1 r1 v f a := by
  have k0 : xRod g r 0 = xRod g1 r1 0 := h1
  have k1 : xRod g r 1 = xRod g1 r1 1 := h2
  have k4 : xRod g r 4 = xRod g1 r1 4 := h4
  unfold lS lM lT
  rw [k0, k1, k4]
theorem lF_congr {g g1 : Nat → Int32} {r r1 : Nat} (h1 : g (6 * r + 1) = g1 (6 * r1 + 1)) (h2 : g (6 * r + 2) = g1 (6 * r1 + 2)) (h4 : g (6 * r + 4) = g1 (6 * r1 + 4)) (v a : Int32) : lF g r v 3 0 a = lF g1 r1 v 3 0 a := by
  show lS g r v (nI (0 + 1 + 1)) (lS g r v (nI (0 + 1)) (lS g r v (nI 0) a)) = lS g1 r1 v (nI (0 + 1 + 1)) (lS g1 r1 v (nI (0 + 1)) (lS g1 r1 v (nI 0) a))
  rw [lS_congr h1 h2 h4 v (nI 0) a, lS_congr h1 h2 h4 v (nI (0 + 1)), lS_congr h1 h2 h4 v (nI (0 + 1 + 1))]
theorem eLTab : ∀ F, F < 3 → ∀ O, O < 6 → ∀ S, S < 4 → ∀ w, w < 16 → decide (lF (gg F O S) 0 (nI w) 3 0 (-1) = xTv (gg F O S) 0 (nI w)) = true := by decide +kernel
theorem eLeast {g : Nat → Int32} {r w : Nat} (hR : Rd9 g r) (hw : w < 16) : lF g r (nI w) 3 0 (-1) = xTv g r (nI w) := by
  obtain ⟨F, O, S, L, hF, hO, hS, -, e1, e2, e4, -⟩ := hR
  rw [lF_congr (g1 := gg F O S) (r1 := 0) e1 e2 e4, xTv_congr (g1 := gg F O S) (r1 := 0) e1 e2 e4]
  exact of_decide_eq_true (eLTab F (by omega) O (by omega) S (by omega) w hw)
theorem rd_f {g : Nat → Int32} {r : Nat} (hR : Rd9 g r) : ¬ xRod g r 0 < 0 ∧ ¬ 3 ≤ xRod g r 0 := by
  obtain ⟨F, O, S, L, hF, hO, hS, -, e1, e2, e4, -⟩ := hR
  rw [show xRod g r 0 = nI F from e1]
  exact ⟨nI_pos (by omega), nI_ge (b := 3) (by omega) (by decide)⟩
theorem rd_o {g : Nat → Int32} {r : Nat} (hR : Rd9 g r) : ¬ xRod g r 1 < 0 ∧ ¬ 6 ≤ xRod g r 1 := by
  obtain ⟨F, O, S, L, hF, hO, hS, -, e1, e2, e4, -⟩ := hR
  rw [show xRod g r 1 = nI O from e2]
  exact ⟨nI_pos (by omega), nI_ge (b := 6) (by omega) (by decide)⟩
theorem rl_eq (g : Nat → Int32) (r : Nat) : xRod g r 3 - 100 = g (6 * r + 3) := Int32.add_sub_cancel _ _
theorem rdlT : ∀ L, L < 19 → ¬ nI L - 9 ≤ -10 ∧ ¬ 10 ≤ nI L - 9 := by decide +kernel
theorem rd_l {g : Nat → Int32} {r : Nat} (hR : Rd9 g r) : ¬ xRod g r 3 - 100 ≤ -10 ∧ ¬ 10 ≤ xRod g r 3 - 100 := by
  obtain ⟨F, O, S, L, hF, hO, hS, hL, e1, e2, e4, e3⟩ := hR
  rw [rl_eq, e3]
  exact rdlT L (by omega)
theorem rd_2 {g : Nat → Int32} {r : Nat} (hR : Rd9 g r) : ¬ xRod g r 2 < 0 ∧ xRod g r 2 ≤ 15 := by
  obtain ⟨c, hc, e⟩ := eShN hR
  rw [show xRod g r 2 = nI c from e]
  exact ⟨nI_pos (by omega), nI_le (b := 15) hc (by decide)⟩
/-! sums from the last rod down -/
def dS (f : Nat → Int32) : Nat → Int32
  | 0 => 0
  | k + 1 => dS f k + f (8 - k)
theorem dS_s {f : Nat → Int32} {q : Nat} (h : q < 9) : dS f (9 - q) = dS f (9 - (q + 1)) + f q := by
  rw [show 9 - q = (9 - (q + 1)) + 1 by omega]
  show dS f (9 - (q + 1)) + f (8 - (9 - (q + 1))) = _
  rw [show 8 - (9 - (q + 1)) = q by omega]
theorem dS_su (f : Nat → Int32) : dS f 9 = xSu f 9 := by
  simp only [dS, xSu, Int32.zero_add, Nat.sub_zero, Nat.reduceSub]
  ac_rfl
theorem xSu_eq {f f1 : Nat → Int32} : ∀ n : Nat, (∀ j, j < n → f j = f1 j) → xSu f n = xSu f1 n
  | 0, _ => rfl
  | n + 1, h => by
    show xSu f n + f n = xSu f1 n + f1 n
    rw [xSu_eq n (fun j hj => h j (by omega)), h n (by omega)]
theorem xCt_su {f : Nat → Prop} [∀ j, Decidable (f j)] {h : Nat → Int32} : ∀ n : Nat, (∀ j, j < n → h j = if f j then 1 else 0) → xCt f n = xSu h n
  | 0, _ => rfl
  | n + 1, hh => by
    show (if f n then xCt f n + 1 else xCt f n) = xSu h n + h n
    rw [hh n (by omega), xCt_su n (fun j hj => hh j (by omega))]
    by_cases hf : f n
    · rw [if_pos hf, if_pos hf]
    · rw [if_neg hf, if_neg hf, Int32.add_zero]
def f1 (g : Nat → Int32) (j : Nat) : Int32 := xRod g j 5
def f2 (g : Nat → Int32) (j : Nat) : Int32 := xRod g j 3 - 100
def f3 (g : Nat → Int32) (j : Nat) : Int32 := if xRod g j 3 - 100 = 0 then 0 else 1
def f4 (g : Nat → Int32) (j : Nat) : Int32 := xRod g j 2
def f5 (g : Nat → Int32) (j : Nat) : Int32 := if xRod g j 2 ≤ 9 then 0 else 1
def f6 (g : Nat → Int32) (j : Nat) : Int32 := if xRod g j 4 ≤ 0 then 0 else 1
theorem c0 (g : Nat → Int32) (z : Nat) : dS (f1 g) 9 = xCn g z 0 := dS_su _
theorem c1 (g : Nat → Int32) (z : Nat) : dS (f3 g) 9 = xCn g z 1 := by
  rw [dS_su]
  refine (xCt_su (f := fun j => ¬ g (6 * j + 3) = 0) 9 (fun j hj => ?_)).symm
  unfold f3
  rw [rl_eq]
  by_cases h : g (6 * j + 3) = 0
  · rw [if_pos h, if_neg (fun z => z h)]
  · rw [if_neg h, if_pos h]
theorem c2 (g : Nat → Int32) (z : Nat) : dS (f2 g) 9 + 100 = xCn g z 2 := by
  rw [dS_su]
  show xSu (f2 g) 9 + 100 = xSu (fun j => g (6 * j + 3)) 9 + 100
  rw [xSu_eq (f := f2 g) (f1 := fun j => g (6 * j + 3)) 9 (fun j _ => rl_eq g j)]
theorem c4T : ∀ c, c < 16 → ((if nI c ≤ 9 then (0 : Int32) else 1) = if ¬ nI c < 10 then 1 else 0) := by decide +kernel
theorem c4 {g : Nat → Int32} (hI : Iv g) (z : Nat) : dS (f5 g) 9 = xCn g z 4 := by
  rw [dS_su]
  refine (xCt_su (f := fun j => ¬ xSh g j < 10) 9 (fun j hj => ?_)).symm
  obtain ⟨c, hc, e⟩ := eShN (hI.1 j hj)
  unfold f5
  rw [show xRod g j 2 = nI c from e]
  show _ = if ¬ xSh g j < 10 then 1 else 0
  rw [e]
  exact c4T c (by omega)
theorem c5T : ∀ c, c < 4 → ((if nI c ≤ 0 then (0 : Int32) else 1) = if ¬ nI c = 0 then 1 else 0) := by decide +kernel
theorem c5 {g : Nat → Int32} (hI : Iv g) (z : Nat) : dS (f6 g) 9 = xCn g z 5 := by
  rw [dS_su]
  refine (xCt_su (f := fun j => ¬ g (6 * j + 4) = 0) 9 (fun j hj => ?_)).symm
  obtain ⟨F, O, S, L, hF, hO, hS, hL, e1, e2, e4, e3⟩ := hI.1 j hj
  unfold f6
  rw [show xRod g j 4 = nI S from e4]
  show _ = if ¬ g (6 * j + 4) = 0 then 1 else 0
  rw [e4]
  exact c5T S (by omega)
/-! the whole number from the last rod down -/
def dW (g : Nat → Int32) : Nat → Int64
  | 0 => 0
  | k + 1 => 10 * dW g k + (xRod g (8 - k) 2).toInt64 + (xRod g (8 - k) 3 - 100).toInt64
theorem dW_s {g : Nat → Int32} {q : Nat} (h : q < 9) : dW g (9 - q) = 10 * dW g (9 - (q + 1)) + (xRod g q 2).toInt64 + (xRod g q 3 - 100).toInt64 := by
  rw [show 9 - q = (9 - (q + 1)) + 1 by omega]
  show 10 * dW g (9 - (q + 1)) + (xRod g (8 - (9 - (q + 1))) 2).toInt64 + (xRod g (8 - (9 - (q + 1))) 3 - 100).toInt64 = _
  rw [show 8 - (9 - (q + 1)) = q by omega]
def hW (g : Nat → Int32) : Nat → Int
  | 0 => 0
  | k + 1 => 10 * hW g k + zc g (8 - k)
theorem dW_h (g : Nat → Int32) : ∀ k : Nat, dW g k = Int64.ofInt (hW g k)
  | 0 => rfl
  | k + 1 => by
    show 10 * dW g k + (xSh g (8 - k)).toInt64 + (xRod g (8 - k) 3 - 100).toInt64 = Int64.ofInt (10 * hW g k + ((xSh g (8 - k)).toInt + (g (6 * (8 - k) + 3)).toInt))
    rw [rl_eq, dW_h g k, Int64.ofInt_add, Int64.ofInt_add, Int64.ofInt_mul, Int64.ofInt_int32ToInt, Int64.ofInt_int32ToInt, Int64.add_assoc]
    rfl
theorem hW_z (g : Nat → Int32) : ∀ k : Nat, k ≤ 9 → zW g (9 - k) + 10 ^ (9 - k) * hW g k = zW g 9
  | 0, _ => by
    show zW g 9 + 10 ^ 9 * 0 = zW g 9
    omega
  | k + 1, h => by
    have ih := hW_z g k (by omega)
    have e : 9 - k = (9 - (k + 1)) + 1 := by omega
    rw [e] at ih
    have e2 : zW g (9 - (k + 1) + 1) = zW g (9 - (k + 1)) + zc g (9 - (k + 1)) * 10 ^ (9 - (k + 1)) := rfl
    rw [e2, p10] at ih
    show zW g (9 - (k + 1)) + 10 ^ (9 - (k + 1)) * (10 * hW g k + zc g (8 - k)) = zW g 9
    rw [← ih, show 8 - k = 9 - (k + 1) by omega, Int.mul_add, Int.mul_comm (zc g (9 - (k + 1))), Int.mul_left_comm, Int.mul_assoc]
    omega
theorem dW_w {g : Nat → Int32} (hI : Iv g) : dW g 9 = (xWs g 9).1 := by
  rw [dW_h, xWh hI]
  have h := hW_z g 9 (by decide)
  rw [show 9 - 9 = 0 from rfl, show zW g 0 = 0 from rfl, show (10 : Int) ^ 0 = 1 from rfl] at h
  rw [show hW g 9 = zW g 9 by omega]
/-! the check by nine -/
def zS (g : Nat → Int32) : Nat → Int
  | 0 => 0
  | n + 1 => zS g n + zc g n
theorem ten9 : ∀ n : Nat, ∃ t : Int, (10 : Int) ^ n = 1 + 9 * t
  | 0 => ⟨0, rfl⟩
  | n + 1 => by
    obtain ⟨t, h⟩ := ten9 n
    exact ⟨1 + 10 * t, by rw [p10, h]; omega⟩
theorem zW9 (g : Nat → Int32) : ∀ n : Nat, ∃ t : Int, zW g n = zS g n + 9 * t
  | 0 => ⟨0, rfl⟩
  | n + 1 => by
    obtain ⟨t, h⟩ := zW9 g n
    obtain ⟨u, hu⟩ := ten9 n
    refine ⟨t + zc g n * u, ?_⟩
    show zW g n + zc g n * 10 ^ n = zS g n + zc g n + 9 * (t + zc g n * u)
    rw [h, hu, Int.mul_add, Int.mul_left_comm]
    omega
theorem zW_bd {g : Nat → Int32} (hI : Iv g) : ∀ n : Nat, n ≤ 9 → -(10 ^ n) ≤ zW g n ∧ zW g n ≤ 3 * 10 ^ n
  | 0, _ => by
    show -((10 : Int) ^ 0) ≤ 0 ∧ (0 : Int) ≤ 3 * 10 ^ 0
    decide
  | n + 1, h => by
    obtain ⟨h1, h2⟩ := zW_bd hI n (by omega)
    obtain ⟨c, L, hc, hL, -, -, e⟩ := zcN (hI.1 n (by omega))
    have hp : (0 : Int) ≤ 10 ^ n := Int.le_of_lt (Int.pow_pos (by decide))
    have b1 : -9 * 10 ^ n ≤ zc g n * 10 ^ n := Int.mul_le_mul_of_nonneg_right (by omega) hp
    have b2 : zc g n * 10 ^ n ≤ 24 * 10 ^ n := Int.mul_le_mul_of_nonneg_right (by omega) hp
    show -(10 ^ (n + 1)) ≤ zW g n + zc g n * 10 ^ n ∧ zW g n + zc g n * 10 ^ n ≤ 3 * 10 ^ (n + 1)
    rw [p10]
    omega
theorem tdiv9 (W : Int) : W.tdiv 9 = if 0 ≤ W then W / 9 else -((-W) / 9) := by
  by_cases h : 0 ≤ W
  · rw [if_pos h]; exact Int.tdiv_eq_ediv_of_nonneg h
  · rw [if_neg h]
    have e : W.tdiv 9 = -((-W).tdiv 9) := by rw [← Int.neg_tdiv, Int.neg_neg]
    rw [e, Int.tdiv_eq_ediv_of_nonneg (by omega)]
theorem rem9 {W : Int} (h1 : -10000000000 ≤ W) (h2 : W ≤ 10000000000) : Int64.ofInt W - Int64.ofInt W / 9 * 9 = Int64.ofInt (W - W.tdiv 9 * 9) := by
  have hd := tdiv9 W
  have e : Int64.ofInt W / 9 = Int64.ofInt (W.tdiv 9) := by
    refine Int64.toInt_inj.mp ?_
    rw [Int64.toInt_div_of_ne_right _ _ (by decide), Int64.toInt_ofInt_of_le (by omega) (by omega), show (9 : Int64).toInt = 9 from by decide, Int64.toInt_ofInt_of_le (by split at hd <;> omega) (by split at hd <;> omega)]
  rw [e, Int64.ofInt_sub, Int64.ofInt_mul]
  rfl
theorem c3T : ∀ j : Nat, j < 17 → (if 0 ≤ lg_cmp (Int64.ofInt ((j : Int) - 8)) 0 then Int64.ofInt ((j : Int) - 8) else Int64.ofInt ((j : Int) - 8) + 9).toInt32 = Int32.ofInt (if 8 ≤ j then (j : Int) - 8 else (j : Int) + 1) := by decide +kernel
theorem eFmT : ∀ k : Nat, k < 300 → xFm (nI k - 81) 9 = Int32.ofInt (((k : Int) - 81) % 9) := fun k hk => of_decide_eq_true (co_dec (N := 300) (P := fun k => decide (xFm (nI k - 81) 9 = Int32.ofInt (((k : Int) - 81) % 9)) = true) (by decide +kernel) (i := k) hk)
theorem eSm3 {g : Nat → Int32} (hI : Iv g) : ∀ n : Nat, n ≤ 9 → ∃ a b : Nat, a ≤ 15 * n ∧ b ≤ 18 * n ∧ xSu (fun j => xSh g j) n = nI a ∧ xSu (fun j => g (6 * j + 3)) n = nI b - nI (9 * n) ∧ zS g n = (a : Int) + b - 9 * n
  | 0, _ => ⟨0, 0, by decide, by decide, rfl, rfl, rfl⟩
  | n + 1, hn => by
    obtain ⟨a, b, ha, hb, e1, e2, e3⟩ := eSm3 hI n (by omega)
    obtain ⟨c, L, hc, hL, ec, eL, ez⟩ := zcN (hI.1 n (by omega))
    have key : nI b - nI (9 * n) + (nI L - 9) = nI (b + L) - nI (9 * (n + 1)) := by
      rw [show 9 * (n + 1) = 9 * n + 9 by omega, ← nI_add, ← nI_add, show nI 9 = 9 from rfl]
      simp only [Int32.sub_eq_add_neg, Int32.neg_add]
      rw [Int32.add_assoc, Int32.add_assoc, ← Int32.add_assoc (-nI (9 * n)), Int32.add_comm (-nI (9 * n)), Int32.add_assoc]
    refine ⟨a + c, b + L, by omega, by omega, ?_, ?_, ?_⟩
    · show xSu (fun j => xSh g j) n + xSh g n = _
      rw [e1, ec, nI_add]
    · show xSu (fun j => g (6 * j + 3)) n + g (6 * n + 3) = _
      rw [e2, eL, key]
    · show zS g n + zc g n = _
      rw [e3, ez]
      omega
theorem c3 {g : Nat → Int32} (hI : Iv g) (z : Nat) : (if 0 ≤ lg_cmp (dW g 9 - dW g 9 / 9 * 9) 0 then dW g 9 - dW g 9 / 9 * 9 else dW g 9 - dW g 9 / 9 * 9 + 9).toInt32 = xCn g z 3 := by
  obtain ⟨a, b, ha, hb, e1, e2, e3⟩ := eSm3 hI 9 (by decide)
  obtain ⟨t, ht⟩ := zW9 g 9
  obtain ⟨b1, b2⟩ := zW_bd hI 9 (by decide)
  have b1' : -1000000000 ≤ zW g 9 := b1
  have b2' : zW g 9 ≤ 3 * 1000000000 := b2
  have e4 : nI a + (nI b - nI (9 * 9)) = nI (a + b) - 81 := by
    rw [← nI_add, show nI (9 * 9) = 81 from rfl]
    simp only [Int32.sub_eq_add_neg, Int32.add_assoc]
  show _ = xFm (xSu (fun j => xSh g j) 9 + xSu (fun j => g (6 * j + 3)) 9) 9
  rw [e1, e2, e4, eFmT (a + b) (by omega), dW_w hI, xWh hI, rem9 (by omega) (by omega)]
  have hd := tdiv9 (zW g 9)
  generalize hT : zW g 9 - (zW g 9).tdiv 9 * 9 = T
  have hT1 : -8 ≤ T ∧ T ≤ 8 := by split at hd <;> omega
  obtain ⟨j, hj⟩ : ∃ j : Nat, T = (j : Int) - 8 := ⟨(T + 8).toNat, by omega⟩
  rw [hj, c3T j (by omega)]
  congr 1
  split at hd <;> split <;> omega
/-! adding: the whole number -/
theorem eWadd {g g1 : Nat → Int32} (hI : Iv g) (hI1 : Iv g1) {d : Int32} {r : Nat} (h : zW g1 9 = zW g 9 + d.toInt * 10 ^ r) : (xWs g1 9).1 = (xWs g 9).1 + d.toInt64 * Int64.ofInt (10 ^ r) := by
  rw [xWh hI1, xWh hI, h, Int64.ofInt_add, Int64.ofInt_mul, Int64.ofInt_int32ToInt]
theorem eWsame {g g1 : Nat → Int32} (hI : Iv g) (hI1 : Iv g1) (h : zW g1 9 = zW g 9) : (xWs g1 9).1 = (xWs g 9).1 := by
  rw [xWh hI1, xWh hI, h]
theorem kG_un (G : Nat → Nat → Int32) (o z : Nat) (g : Nat → Int32) : kG G o z g (rI (kO o z) (kM z + 1)) = g := by
  unfold kG rI kI
  rw [Nat.add_sub_cancel]
  exact if_pos rfl
theorem nm9 : ∀ m, m < 19 → ¬ nI m - 9 < -9 ∧ nI m - 9 ≤ 9 ∧ (¬ nI m - 9 ≤ 0 → ¬ nI m - 9 < 1) ∧ (nI m - 9 ≤ 0 → ¬ nI m - 9 = 0 → ¬ -(nI m - 9) < 1) ∧ -(nI m - 9) ≤ 9 := by decide +kernel
theorem n1_9 : ∀ j, j < 9 → nI (1 + j) = nI (10 + j) - 9 ∧ -nI (1 + j) = nI (8 - j) - 9 := by decide +kernel
theorem tk_lt {x : Int32} (h : ¬ x < 0) : ¬ x = -1 := fun z => h (by rw [z]; decide)
/-! the cheapest loan -/
def cpI (g : Nat → Int32) (n : Nat) (p : Int32 × Int32) : Prop :=
  (p.1 = -1 ∧ ∀ r, r < n → g (6 * r + 3) = 0 ∨ (xCh g r (g (6 * r + 3)) 0).1 = -1) ∨
  ∃ q b : Nat, q < n ∧ b ≤ 100 ∧ p = (nI q, nI b) ∧ ¬ g (6 * q + 3) = 0 ∧ (xCh g q (g (6 * q + 3)) 0).1 = nI b ∧
    ∀ r, r < n → g (6 * r + 3) = 0 ∨ (xCh g r (g (6 * r + 3)) 0).1 = -1 ∨ ∃ b1 : Nat, b1 ≤ 100 ∧ (xCh g r (g (6 * r + 3)) 0).1 = nI b1 ∧ (b < b1 ∨ b = b1 ∧ q ≤ r)
theorem xCp_I {g : Nat → Int32} (hI : Iv g) : ∀ n : Nat, n ≤ 9 → cpI g n (xCp g n)
  | 0, _ => Or.inl ⟨rfl, fun r hr => by omega⟩
  | n + 1, hn => by
    have ih := xCp_I hI n (by omega)
    have ext : ∀ {p : Int32 × Int32}, cpI g n p → (g (6 * n + 3) = 0 ∨ (xCh g n (g (6 * n + 3)) 0).1 = -1) → cpI g (n + 1) p := fun {p} h h0 => by
      have le : ∀ r, r < n + 1 → r < n ∨ r = n := fun r hr => by omega
      rcases h with ⟨h1, h2⟩ | ⟨q, b, hq, hb, hp, h3, h4, h5⟩
      · exact Or.inl ⟨h1, fun r hr => (le r hr).elim (h2 r) (fun e => e ▸ h0)⟩
      · exact Or.inr ⟨q, b, by omega, hb, hp, h3, h4, fun r hr => (le r hr).elim (h5 r) (fun e => by
          subst e
          rcases h0 with h0 | h0
          · exact Or.inl h0
          · exact Or.inr (Or.inl h0))⟩
    unfold xCp
    by_cases h1 : g (6 * n + 3) = 0
    · rw [if_pos h1]; exact ext ih (Or.inl h1)
    · rw [if_neg h1]
      by_cases h2 : (xCh g n (g (6 * n + 3)) 0).1 = -1
      · rw [if_pos h2]; exact ext ih (Or.inr h2)
      · rw [if_neg h2]
        obtain ⟨b9, hb9, e9, -⟩ := ePy (r := n) (by omega) hI h2
        rw [e9]
        rcases ih with ⟨k1, k2⟩ | ⟨q, b, hq, hb, hp, k3, k4, k5⟩
        · rw [if_pos (Or.inl k1)]
          refine Or.inr ⟨n, b9, by omega, hb9, rfl, h1, e9, fun r hr => ?_⟩
          by_cases hrn : r = n
          · subst hrn; exact Or.inr (Or.inr ⟨b9, hb9, e9, Or.inr ⟨rfl, Nat.le_refl _⟩⟩)
          · rcases k2 r (by omega) with k | k
            · exact Or.inl k
            · exact Or.inr (Or.inl k)
        · rw [hp]
          by_cases h3 : nI b ≤ nI b9
          · rw [if_neg (fun z => z.elim (nIm1 (by omega)) (fun w => w h3))]
            have h3' := (nI_leI (by omega) (by omega)).mp h3
            refine Or.inr ⟨q, b, by omega, hb, rfl, k3, k4, fun r hr => ?_⟩
            by_cases hrn : r = n
            · subst hrn; exact Or.inr (Or.inr ⟨b9, hb9, e9, by omega⟩)
            · exact k5 r (by omega)
          · rw [if_pos (Or.inr h3)]
            have h3' : b9 < b := Nat.lt_of_not_le fun z => h3 (nI_le z (by omega))
            refine Or.inr ⟨n, b9, by omega, hb9, rfl, h1, e9, fun r hr => ?_⟩
            by_cases hrn : r = n
            · subst hrn; exact Or.inr (Or.inr ⟨b9, hb9, e9, Or.inr ⟨rfl, Nat.le_refl _⟩⟩)
            · rcases k5 r (by omega) with k | k | ⟨b1, hb1, k, w⟩
              · exact Or.inl k
              · exact Or.inr (Or.inl k)
              · exact Or.inr (Or.inr ⟨b1, hb1, k, by omega⟩)
/-! what a rod can show -/
theorem xRe_1 {g : Nat → Int32} {r c : Nat} (h : ¬ xTv g r (nI c) = -1) : ∀ n : Nat, c < n → ∃ k : Nat, 1 ≤ k ∧ k ≤ n ∧ xRe g r n = nI k
  | 0, hc => by omega
  | n + 1, hc => by
    obtain ⟨k0, hk0, e0⟩ := xRe_n g r n
    unfold xRe
    by_cases hn : c = n
    · subst hn
      rw [if_neg h, e0, nI_1]
      exact ⟨k0 + 1, by omega, by omega, rfl⟩
    · obtain ⟨k, h1, h2, e⟩ := xRe_1 h n (by omega)
      rw [e]
      split
      · exact ⟨k, h1, by omega, rfl⟩
      · rw [nI_1]; exact ⟨k + 1, by omega, by omega, rfl⟩
theorem xLs_1 {g : Nat → Int32} (hI : Iv g) : ∃ c : Nat, 1 ≤ c ∧ c < 145 ∧ xLs g = nI c := by
  have key : ∀ n : Nat, n ≤ 9 → ∃ c : Nat, n ≤ c ∧ c ≤ 16 * n ∧ xSu (fun j => xRe g j 16) n = nI c := by
    intro n
    induction n with
    | zero => exact fun _ => ⟨0, Nat.le_refl _, Nat.le_refl _, rfl⟩
    | succ n ih =>
      intro hn
      obtain ⟨c, h1, h2, e⟩ := ih (by omega)
      obtain ⟨v, hv, ev⟩ := eShN (hI.1 n (by omega))
      have h0 : ¬ xTv g n (nI v) = -1 := by rw [← ev, eOwnV (hI.1 n (by omega))]; decide
      obtain ⟨k, k1, k2, ek⟩ := xRe_1 h0 16 (by omega)
      refine ⟨c + k, by omega, by omega, ?_⟩
      show xSu (fun j => xRe g j 16) n + xRe g n 16 = _
      rw [e, ek]; exact nI_add c k
  obtain ⟨c, h1, h2, e⟩ := key 9 (by decide)
  exact ⟨c, by omega, by omega, e⟩
theorem loT : ∀ c, c < 145 → 1 ≤ c → ¬ Op.cmpValue (FP.dcmp (FP.ddiv (FP.i2d (nI c)) 4639270566145032192) FP.dconst0) CmpOp.l ≤ 0 ∧ ¬ 0 < Op.cmpValue (FP.dcmp (FP.ddiv (FP.i2d (nI c)) 4639270566145032192) FP.dconst1) CmpOp.g := fun c hc => of_decide_eq_true (co_dec (N := 145) (P := fun c => decide (1 ≤ c → ¬ Op.cmpValue (FP.dcmp (FP.ddiv (FP.i2d (nI c)) 4639270566145032192) FP.dconst0) CmpOp.l ≤ 0 ∧ ¬ 0 < Op.cmpValue (FP.dcmp (FP.ddiv (FP.i2d (nI c)) 4639270566145032192) FP.dconst1) CmpOp.g) = true) (by decide +kernel) (i := c) hc)
theorem lLo {g : Nat → Int32} (hI : Iv g) : ¬ Op.cmpValue (FP.dcmp (xLo g) FP.dconst0) CmpOp.l ≤ 0 ∧ ¬ 0 < Op.cmpValue (FP.dcmp (xLo g) FP.dconst1) CmpOp.g := by
  obtain ⟨c, h1, h2, e⟩ := xLs_1 hI
  unfold xLo
  rw [e]
  exact loT c h2 h1
/-! what is changed by move, stick and set -/
theorem lMoveI {g : Nat → Int32} {r : Nat} (hI : Iv g) {f q k : Int32} (h1 : ¬ f < 0) (h2 : f ≤ 2) (h3 : ¬ q < 0) (h4 : q ≤ 5) : Iv (xPl g r f q k) := by
  obtain ⟨a, ha, rfl⟩ := nI_of2 (M := 2) (n := 2) rfl h1 h2
  obtain ⟨b, hb, rfl⟩ := nI_of2 (M := 5) (n := 5) rfl h3 h4
  exact eIvPl hI ha hb
theorem lStickI {g : Nat → Int32} {r : Nat} (hI : Iv g) {a : Nat} (ha : a ≤ 3) : Iv (upd g (6 * r + 4) (nI a)) := by
  refine ⟨fun r1 hr1 => ?_, ?_⟩
  · obtain ⟨F, O, S, L, hF, hO, hS, hL, e1, e2, e4, e3⟩ := hI.1 r1 hr1
    by_cases hq : r1 = r
    · subst hq
      exact ⟨F, O, a, L, hF, hO, ha, hL, by rw [pk_un (by omega), e1], by rw [pk_un (by omega), e2], by rw [pk_us], by rw [pk_un (by omega), e3]⟩
    · exact ⟨F, O, S, L, hF, hO, hS, hL, by rw [pk_un (by omega), e1], by rw [pk_un (by omega), e2], by rw [pk_un (by omega), e4], by rw [pk_un (by omega), e3]⟩
  · obtain ⟨m, hm, e⟩ := hI.2
    exact ⟨m, hm, by rw [pk_un (by omega), e]⟩
theorem lSetI {g : Nat → Int32} (hI : Iv g) {a : Nat} (ha : a ≤ 9) : Iv (upd g 0 (nI a)) := by
  refine ⟨fun r1 hr1 => ?_, a, ha, pk_us⟩
  obtain ⟨F, O, S, L, hF, hO, hS, hL, e1, e2, e4, e3⟩ := hI.1 r1 hr1
  exact ⟨F, O, S, L, hF, hO, hS, hL, by rw [pk_un (by omega), e1], by rw [pk_un (by omega), e2], by rw [pk_un (by omega), e4], by rw [pk_un (by omega), e3]⟩
theorem lStickW {g : Nat → Int32} {r : Nat} {x : Int32} : zW (upd g (6 * r + 4) x) 9 = zW g 9 :=
  zW_same 9 (fun j _ => zc_eq (pk_un (by omega)) (pk_un (by omega)) (pk_un (by omega)))
theorem lSetW {g : Nat → Int32} {x : Int32} : zW (upd g 0 x) 9 = zW g 9 :=
  zW_same 9 (fun j _ => zc_eq (pk_un (by omega)) (pk_un (by omega)) (pk_un (by omega)))
theorem lStickN {g : Nat → Int32} {r : Nat} (hR : Rd9 g r) : ¬ g (6 * r + 4) < 0 := by
  obtain ⟨F, O, S, L, hF, hO, hS, hL, e1, e2, e4, e3⟩ := hR
  rw [e4]; exact nI_pos (by omega)
theorem lSetN {g : Nat → Int32} (hI : Iv g) : ¬ g 0 < 0 := by
  obtain ⟨m, hm, e⟩ := hI.2
  rw [e]; exact nI_pos (by omega)
theorem g00_Iv : Iv g00 := by
  refine ⟨fun r hr => ⟨0, 0, 0, 9, by decide, by decide, by decide, by decide, ?_, ?_, ?_, ?_⟩, 3, by decide, rfl⟩
  · exact pk_un (by omega)
  · exact pk_un (by omega)
  · exact pk_un (by omega)
  · rw [show g00 (6 * r + 3) = 0 from pk_un (by omega)]; decide
