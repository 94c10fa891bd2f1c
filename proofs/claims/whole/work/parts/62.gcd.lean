/-! Euclid -/
theorem lN_0 : (0 : Int64) = lN 0 := rfl
theorem lN_one : (1 : Int64) = lN 1 := rfl
theorem half_step {a b s : Nat} (h : b ≤ a) (h0 : 0 < b) (hs : a * b < 2 ^ (s + 1)) : b * (a % b) < 2 ^ s := by
  have e1 : b * (a / b) + a % b = a := Nat.div_add_mod a b
  have e2 : a % b < b := Nat.mod_lt a h0
  have e3 : 1 ≤ a / b := (Nat.le_div_iff_mul_le h0).mpr (by omega)
  have e4 : b * 1 ≤ b * (a / b) := Nat.mul_le_mul_left b e3
  have e5 : b * (2 * (a % b)) ≤ b * a := Nat.mul_le_mul_left b (by omega)
  have e6 : b * (2 * (a % b)) = 2 * (b * (a % b)) := Nat.mul_left_comm b 2 (a % b)
  rw [Nat.mul_comm b a] at e5
  rw [Nat.pow_succ] at hs
  omega
theorem gcd_step (a b : Nat) : Nat.gcd b (a % b) = Nat.gcd a b := by
  rw [Nat.gcd_comm b, ← Nat.gcd_rec, Nat.gcd_comm]
theorem gcdX {N : Nat} : ∀ (s a b i fuel : Nat), b ≤ a → a < 2 ^ 63 → a * b < 2 ^ s → i + s < 200 → s < fuel → fX6_commonDivisor_L9 N fuel (lN a) (lN b) (nI i) = some (lN (Nat.gcd a b))
  | s, a, b, i, 0, h1, h2, h3, h4, h5 => absurd h5 (by omega)
  | s, a, b, i, fuel + 1, h1, h2, h3, h4, h5 => by
    rw [fX6_commonDivisor_L9, if_neg (show ¬ (200 : Int32) ≤ nI i from nI_ge (b := 200) (by omega) (by omega))]
    rcases Nat.eq_zero_or_pos b with rfl | h0
    · rw [if_pos (show lg_cmp (lN 0) 0 ≤ 0 from (lg_cmp_le _ _).mpr (Int64.le_refl _)), Nat.gcd_zero_right]
    · cases s with
      | zero => 
        have : 1 * 1 ≤ a * b := Nat.mul_le_mul (by omega) (by omega)
        exact absurd h3 (by omega)
      | succ s =>
        rw [if_neg (fun q => by
          have := (pk_lLE (by omega) (by omega)).mp ((lg_cmp_le _ (lN 0)).mp q)
          omega), if_neg (fun q => by
          have := (pk_lEQ (b := 0) (by omega) (by omega)).mp q
          omega), pk_lRem h2 h0 (by omega), nI_1, gcdX s b (a % b) (i + 1) fuel (Nat.le_of_lt (Nat.mod_lt a h0)) (by omega) (half_step h1 h0 h3) (by omega) (by omega), gcd_step]
theorem gcdM {N : Nat} : ∀ (s a b fuel : Nat), b ≤ a → a < 2 ^ 63 → a * b < 2 ^ s → s < fuel → fX7_common_L6 N fuel (lN a) (lN b) = some (lN (Nat.gcd a b))
  | s, a, b, 0, h1, h2, h3, h5 => absurd h5 (by omega)
  | s, a, b, fuel + 1, h1, h2, h3, h5 => by
    rw [fX7_common_L6]
    rcases Nat.eq_zero_or_pos b with rfl | h0
    · rw [if_pos (show lg_cmp (lN 0) 0 = 0 from (lg_cmp_eq _ _).mpr rfl), Nat.gcd_zero_right]
    · cases s with
      | zero => 
        have : 1 * 1 ≤ a * b := Nat.mul_le_mul (by omega) (by omega)
        exact absurd h3 (by omega)
      | succ s =>
        rw [if_neg (fun q => by
          have := (pk_lEQ (by omega) (by omega)).mp ((lg_cmp_eq _ (lN 0)).mp q)
          omega), if_neg (fun q => by
          have := (pk_lEQ (b := 0) (by omega) (by omega)).mp q
          omega), pk_lRem h2 h0 (by omega), gcdM s b (a % b) fuel (Nat.le_of_lt (Nat.mod_lt a h0)) (by omega) (half_step h1 h0 h3) (by omega), gcd_step]
theorem gcdX_spec {N a b : Nat} (hN : 70000 ≤ N) (ha : a < 2 ^ 63) (hb : b < 2 ^ 63) : fX6_commonDivisor N (lN a) (lN b) = some (lN (Nat.gcd a b)) := by
  unfold fX6_commonDivisor
  have hp : ∀ x y : Nat, x < 2 ^ 63 → y < 2 ^ 63 → x * y < 2 ^ 126 := fun x y hx hy => by
    have := Nat.mul_lt_mul'' hx hy
    rw [← Nat.pow_add] at this
    exact this
  rcases Nat.lt_or_ge a b with h | h
  · obtain ⟨f, rfl⟩ : ∃ f, N = f + 1 := ⟨N - 1, by omega⟩
    rw [fX6_commonDivisor_L9, if_neg (show ¬ (200 : Int32) ≤ 0 by decide), if_neg (fun q => by
          have := (pk_lLE (by omega) (by omega)).mp ((lg_cmp_le _ (lN 0)).mp q)
          omega), if_neg (fun q => by
          have := (pk_lEQ (b := 0) (by omega) (by omega)).mp q
          omega), pk_lRem ha (by omega) hb, show (0 : Int32) + 1 = nI 1 from rfl, Nat.mod_eq_of_lt h, gcdX 126 b a 1 f (by omega) hb (hp b a hb ha) (by omega) (by omega), Nat.gcd_comm]
  · exact gcdX 126 a b 0 N h ha (hp a b ha hb) (by omega) (by omega)
theorem gcdM_spec {N a b : Nat} (hN : 70000 ≤ N) (ha : a < 2 ^ 63) (hb : b < 2 ^ 63) : fX7_common N (lN a) (lN b) = some (lN (Nat.gcd a b)) := by
  unfold fX7_common
  have hp : ∀ x y : Nat, x < 2 ^ 63 → y < 2 ^ 63 → x * y < 2 ^ 126 := fun x y hx hy => by
    have := Nat.mul_lt_mul'' hx hy
    rw [← Nat.pow_add] at this
    exact this
  rcases Nat.lt_or_ge a b with h | h
  · obtain ⟨f, rfl⟩ : ∃ f, N = f + 1 := ⟨N - 1, by omega⟩
    rw [fX7_common_L6, if_neg (fun q => by
          have := (pk_lEQ (by omega) (by omega)).mp ((lg_cmp_eq _ (lN 0)).mp q)
          omega), if_neg (fun q => by
          have := (pk_lEQ (b := 0) (by omega) (by omega)).mp q
          omega), pk_lRem ha (by omega) hb, Nat.mod_eq_of_lt h, gcdM 126 b a f (by omega) hb (hp b a hb ha) (by omega), Nat.gcd_comm]
  · exact gcdM 126 a b N h ha (hp a b ha hb) (by omega)
theorem cleared_0 {N b : Nat} (x : Int32) : fX6_cleared N (lN 0) (lN b) x = some x.toInt64 := by
  unfold fX6_cleared
  rw [if_pos (show lg_cmp (lN 0) 0 ≤ 0 from (lg_cmp_le _ _).mpr (Int64.le_refl _))]
theorem cleared_spec {N a b : Nat} (hN : 70000 ≤ N) (ha : a < 2 ^ 63) (hb : b < 2 ^ 63) (h1 : 0 < a) (h2 : 0 < b) (x : Int32) : fX6_cleared N (lN a) (lN b) x = some (lN ((if x = 0 then a else b) / Nat.gcd a b)) := by
  unfold fX6_cleared
  have g0 : 0 < Nat.gcd a b := Nat.gcd_pos_of_pos_left b h1
  have g1 : Nat.gcd a b ≤ a := Nat.gcd_le_left b h1
  rw [if_neg (fun q => by
      have := (pk_lLE (by omega) (by omega)).mp ((lg_cmp_le _ (lN 0)).mp q)
      omega), if_pos (show 0 < lg_cmp (lN b) 0 from (lg_cmp_gt _ _).mpr ((pk_lLT (a := 0) (by omega) (by omega)).mpr h2)), gcdX_spec hN ha hb, ob1_some]
  by_cases c : Nat.gcd a b = 1
  · rw [if_pos (show lg_cmp (lN (Nat.gcd a b)) 1 ≤ 0 from (lg_cmp_le _ _).mpr (by rw [c]; exact Int64.le_refl _)), if_pos (show lg_cmp (lN (Nat.gcd a b)) 1 ≤ 0 from (lg_cmp_le _ _).mpr (by rw [c]; exact Int64.le_refl _)), c, Nat.div_one]
    by_cases q : x = 0
    · rw [if_pos q, if_pos q]
    · rw [if_neg q, if_neg q]
  · have q1 : ¬ lg_cmp (lN (Nat.gcd a b)) 1 ≤ 0 := fun q => by
      have := (pk_lLE (by omega) (by omega)).mp ((lg_cmp_le _ (lN 1)).mp q)
      omega
    have q2 : ¬ lN (Nat.gcd a b) = 0 := fun q => by
      have := (pk_lEQ (b := 0) (by omega) (by omega)).mp q
      omega
    rw [if_neg q1, if_neg q1, if_neg q2, if_neg q2, pk_lDiv ha g0 (by omega), pk_lDiv hb g0 (by omega)]
    by_cases q : x = 0
    · rw [if_pos q, if_pos q]
    · rw [if_neg q, if_neg q]
