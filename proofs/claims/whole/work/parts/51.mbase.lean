/-! plain facts for the pure functions -/
theorem bnd {i n : Nat} (h : i < n) (hn : n < 2 ^ 31) : ¬ (nI i < 0 ∨ n ≤ (nI i).toNatClampNeg) := nI_in h hn
theorem in_spec (N : Nat) (x lo hi : Int32) : fX7_in N x lo hi = some (if x < lo ∨ hi < x then 0 else 1) := by
  unfold fX7_in
  by_cases h1 : x < lo
  · simp [h1]
  · by_cases h2 : hi < x <;> simp [h1, h2]
theorem lt_pred {n : Nat} (h1 : 1 ≤ n) (h2 : n ≤ 1000) (x : Int32) : nI n - 1 < x ↔ nI n ≤ x := by
  have e1 : (nI n - 1 : Int32).toInt = (n : Int) - 1 := pk_sub_toInt (a := n) (b := 1) (by omega) (by omega)
  rw [Int32.lt_iff_toInt_lt, Int32.le_iff_toInt_le, e1, nI_toInt (by omega)]
  omega
theorem in_pred (N : Nat) (x : Int32) {n : Nat} (h1 : 1 ≤ n) (h2 : n ≤ 1000) : fX7_in N x 0 (nI n - 1) = some (if x < 0 ∨ nI n ≤ x then 0 else 1) := by
  rw [in_spec]
  simp only [lt_pred h1 h2]
theorem isRider_spec (N : Nat) (x : Int32) {n : Nat} (h1 : 1 ≤ n) (h2 : n ≤ 1000) : fX7_isRider N x (nI n) = some (if x < 0 ∨ nI n ≤ x then 0 else 1) := by
  unfold fX7_isRider
  rw [in_pred N x h1 h2, ob1_some]
  by_cases h : x < 0 ∨ nI n ≤ x
  · simp only [if_pos h]; decide
  · simp only [if_neg h]; decide
theorem isDay_spec (N : Nat) (x : Int32) {n : Nat} (h1 : 1 ≤ n) (h2 : n ≤ 1000) : fX7_isDay N x (nI n) = some (if x < 0 ∨ nI n ≤ x then 0 else 1) := by
  unfold fX7_isDay
  rw [in_pred N x h1 h2, ob1_some]
  by_cases h : x < 0 ∨ nI n ≤ x
  · simp only [if_pos h]; decide
  · simp only [if_neg h]; decide
theorem in_pred0 (N : Nat) (x : Int32) : fX7_in N x 0 (nI 0 - 1) = some (if x < 0 ∨ nI 0 ≤ x then 0 else 1) := by
  rw [in_spec]
  have e : nI 0 - 1 < x ↔ nI 0 ≤ x := by
    rw [Int32.lt_iff_toInt_lt, Int32.le_iff_toInt_le, show (nI 0 - 1 : Int32).toInt = -1 by decide, show (nI 0).toInt = 0 by decide]
    omega
  simp only [e]
theorem isRide_spec (N : Nat) (x : Int32) {n : Nat} (h2 : n ≤ 1000) : fX7_isRide N x (nI n) = some (if x < 0 ∨ nI n ≤ x then 0 else 1) := by
  unfold fX7_isRide
  have e : fX7_in N x 0 (nI n - 1) = some (if x < 0 ∨ nI n ≤ x then 0 else 1) := by
    rcases Nat.eq_zero_or_pos n with rfl | h
    · exact in_pred0 N x
    · exact in_pred N x h h2
  rw [e, ob1_some]
  by_cases h : x < 0 ∨ nI n ≤ x
  · simp only [if_pos h]; decide
  · simp only [if_neg h]; decide
theorem hasRider_spec (N : Nat) (x y : Int32) : fX1_hasRider N x y = some (if x < 0 ∨ y ≤ x then 0 else 1) := by
  unfold fX1_hasRider
  by_cases h1 : x < 0
  · simp [h1]
  · by_cases h2 : y ≤ x <;> simp [h1, h2]
theorem hasRide_spec (N : Nat) (x y : Int32) : fX1_hasRide N x y = some (if x < 0 ∨ y ≤ x then 0 else 1) := by
  unfold fX1_hasRide
  by_cases h1 : x < 0
  · simp [h1]
  · by_cases h2 : y ≤ x <;> simp [h1, h2]
theorem hasDay_spec (N : Nat) (x y : Int32) : fX4_hasDay N x y = some (if x < 0 ∨ y ≤ x then 0 else 1) := by
  unfold fX4_hasDay
  by_cases h1 : x < 0
  · simp [h1]
  · by_cases h2 : y ≤ x <;> simp [h1, h2]
/-- a number that isn't outside is a place -/
theorem inside {x : Int32} {n : Nat} (hn : n < 2 ^ 31) (h : ¬ (x < 0 ∨ nI n ≤ x)) : ∃ j, j < n ∧ x = nI j := by
  rcases pk_ix x hn with h1 | h1 | h1
  · exact absurd (Or.inl h1) h
  · exact absurd (Or.inr h1) h
  · exact h1
/-! the line -/
theorem first_or (row : Nat → Int32) (x : Int32) : ∀ z : Nat, (∃ p, p < z ∧ row p = x ∧ ∀ q, q < p → ¬ row q = x) ∨ (∀ q, q < z → ¬ row q = x)
  | 0 => Or.inr (fun q h => absurd h (Nat.not_lt_zero q))
  | z + 1 => by
    rcases first_or row x z with ⟨p, h1, h2, h3⟩ | h
    · exact Or.inl ⟨p, by omega, h2, h3⟩
    · by_cases e : row z = x
      · exact Or.inl ⟨z, by omega, e, h⟩
      · refine Or.inr (fun q hq => ?_)
        rcases Nat.lt_or_ge q z with c | c
        · exact h q c
        · rw [show q = z by omega]; exact e
theorem pos_found {N : Nat} {row : Nat → Int32} {x : Int32} {p z : Nat} (hp : p < z) (hz : z ≤ 4) (h : row p = x) (hq : ∀ q, q < p → ¬ row q = x) : ∀ (m i fuel : Nat), i + m = p → m < fuel → fX2_positionOf_L2 N x (nI z) row fuel (nI i) = some (nI p)
  | 0, i, 0, e, hf => absurd hf (by omega)
  | m + 1, i, 0, e, hf => absurd hf (by omega)
  | 0, i, fuel + 1, e, hf => by
    rw [fX2_positionOf_L2, if_neg (nI_ge (by omega) (by omega)), if_neg (bnd (by omega) (by omega)), nI_clamp (by omega), show i = p by omega, if_pos h]
  | m + 1, i, fuel + 1, e, hf => by
    rw [fX2_positionOf_L2, if_neg (nI_ge (by omega) (by omega)), if_neg (bnd (by omega) (by omega)), nI_clamp (by omega), if_neg (hq i (by omega)), nI_1]
    exact pos_found hp hz h hq m (i + 1) fuel (by omega) (by omega)
theorem pos_none {N : Nat} {row : Nat → Int32} {x : Int32} {z : Nat} (hz : z ≤ 4) (hq : ∀ q, q < z → ¬ row q = x) : ∀ (m i fuel : Nat), i + m = z → m < fuel → fX2_positionOf_L2 N x (nI z) row fuel (nI i) = some (nI z)
  | 0, i, 0, e, hf => absurd hf (by omega)
  | m + 1, i, 0, e, hf => absurd hf (by omega)
  | 0, i, fuel + 1, e, hf => by
    rw [fX2_positionOf_L2, if_pos (nI_le (by omega) (by omega))]
  | m + 1, i, fuel + 1, e, hf => by
    rw [fX2_positionOf_L2, if_neg (nI_ge (by omega) (by omega)), if_neg (bnd (by omega) (by omega)), nI_clamp (by omega), if_neg (hq i (by omega)), nI_1]
    exact pos_none hz hq m (i + 1) fuel (by omega) (by omega)
theorem pil_found {N : Nat} {row : Nat → Int32} {x : Int32} {p z : Nat} (hp : p < z) (hz : z ≤ 4) (h : row p = x) (hq : ∀ q, q < p → ¬ row q = x) : ∀ (m i fuel : Nat), i + m = p → m < fuel → fX7_placeInLine_L2 N x (nI z) row fuel (nI i) = some (nI p)
  | 0, i, 0, e, hf => absurd hf (by omega)
  | m + 1, i, 0, e, hf => absurd hf (by omega)
  | 0, i, fuel + 1, e, hf => by
    rw [fX7_placeInLine_L2, if_neg (nI_ge (by omega) (by omega)), if_neg (bnd (by omega) (by omega)), nI_clamp (by omega), show i = p by omega, if_pos h]
  | m + 1, i, fuel + 1, e, hf => by
    rw [fX7_placeInLine_L2, if_neg (nI_ge (by omega) (by omega)), if_neg (bnd (by omega) (by omega)), nI_clamp (by omega), if_neg (hq i (by omega)), nI_1]
    exact pil_found hp hz h hq m (i + 1) fuel (by omega) (by omega)
theorem pil_none {N : Nat} {row : Nat → Int32} {x : Int32} {z : Nat} (hz : z ≤ 4) (hq : ∀ q, q < z → ¬ row q = x) : ∀ (m i fuel : Nat), i + m = z → m < fuel → fX7_placeInLine_L2 N x (nI z) row fuel (nI i) = some (-1)
  | 0, i, 0, e, hf => absurd hf (by omega)
  | m + 1, i, 0, e, hf => absurd hf (by omega)
  | 0, i, fuel + 1, e, hf => by
    rw [fX7_placeInLine_L2, if_pos (nI_le (by omega) (by omega))]
  | m + 1, i, fuel + 1, e, hf => by
    rw [fX7_placeInLine_L2, if_neg (nI_ge (by omega) (by omega)), if_neg (bnd (by omega) (by omega)), nI_clamp (by omega), if_neg (hq i (by omega)), nI_1]
    exact pil_none hz hq m (i + 1) fuel (by omega) (by omega)
