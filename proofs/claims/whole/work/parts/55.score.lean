/-! marks and scores -/
theorem ix1 (k j : Nat) : nI k * 5 + nI j = nI (5 * k + j) := by
  rw [show (5 : Int32) = nI 5 from rfl, pk_mul, nI_add, Nat.mul_comm]
theorem ix2 (k j : Nat) : 5 * nI k + nI j = nI (5 * k + j) := by
  rw [show (5 : Int32) = nI 5 from rfl, pk_mul, nI_add]
theorem i_nlt {x y : Int32} : ¬ x < y ↔ y ≤ x := Int32.not_lt
theorem i_nle {x y : Int32} : ¬ x ≤ y ↔ y < x := Int32.not_le
theorem scAcc_s (a : Nat → Int32) (j : Nat) : scAcc a (j + 1) = if 0 ≤ a j then ((scAcc a j).1 + 1, (scAcc a j).2.1 + a j, (if a j < (scAcc a j).2.2.1 then a j else (scAcc a j).2.2.1), (if (scAcc a j).2.2.2 < a j then a j else (scAcc a j).2.2.2)) else scAcc a j := rfl
theorem scM_loop {N k : Nat} (hk : k < 30) (marks : Nat → Int32) (K : Int32 → Int32 → Int32 → Int32 → Int32 → Option Int32) : ∀ (m j fuel : Nat), j + m = 5 → m < fuel → fX7_scoreOf_L14 N (nI k) marks K fuel (scAcc (rowM marks k) j).1 (scAcc (rowM marks k) j).2.1 (scAcc (rowM marks k) j).2.2.1 (scAcc (rowM marks k) j).2.2.2 (nI j) = K (scAcc (rowM marks k) 5).1 (scAcc (rowM marks k) 5).2.1 (scAcc (rowM marks k) 5).2.2.1 (scAcc (rowM marks k) 5).2.2.2 (nI 5)
  | 0, j, 0, e, hf => absurd hf (by omega)
  | m + 1, j, 0, e, hf => absurd hf (by omega)
  | 0, j, fuel + 1, e, hf => by
    obtain rfl : j = 5 := by omega
    rw [fX7_scoreOf_L14, if_pos (show (5 : Int32) ≤ nI 5 by decide)]
  | m + 1, j, fuel + 1, e, hf => by
    have ih := scM_loop (N := N) hk marks K m (j + 1) fuel (by omega) (by omega)
    rw [fX7_scoreOf_L14, if_neg (show ¬ (5 : Int32) ≤ nI j from nI_ge (b := 5) (by omega) (by omega)), ix2, if_neg (bnd (by omega) (by omega)), nI_clamp (by omega), nI_1]
    rw [scAcc_s] at ih
    rw [show marks (5 * k + j) = rowM marks k j from rfl]
    by_cases c : rowM marks k j < 0
    · rw [if_neg (i_nle.mpr c)] at ih
      rw [if_pos c]; exact ih
    · rw [if_pos (i_nlt.mp c)] at ih
      rw [if_neg c]
      by_cases c1 : (scAcc (rowM marks k) j).2.2.1 ≤ rowM marks k j <;> by_cases c2 : rowM marks k j ≤ (scAcc (rowM marks k) j).2.2.2
      · rw [if_pos c1, if_pos c2]
        simp only [if_neg (i_nlt.mpr c1), if_neg (i_nlt.mpr c2)] at ih
        exact ih
      · rw [if_pos c1, if_neg c2]
        simp only [if_neg (i_nlt.mpr c1), if_pos (i_nle.mp c2)] at ih
        exact ih
      · rw [if_neg c1, if_pos c2]
        simp only [if_pos (i_nle.mp c1), if_neg (i_nlt.mpr c2)] at ih
        exact ih
      · rw [if_neg c1, if_neg c2]
        simp only [if_pos (i_nle.mp c1), if_pos (i_nle.mp c2)] at ih
        exact ih
/-- marks as they may be -/
def okM (a : Nat → Int32) : Prop := ∀ j, j < 5 → a j = -1 ∨ ∃ v, v ≤ 100 ∧ a j = nI v
theorem scAcc_cnt {a : Nat → Int32} : ∀ j, j ≤ 5 → okM a → ∃ m, m ≤ j ∧ (scAcc a j).1 = nI m
  | 0, _, _ => ⟨0, Nat.le_refl 0, rfl⟩
  | j + 1, h, ha => by
    obtain ⟨m, h1, h2⟩ := scAcc_cnt j (by omega) ha
    rw [scAcc_s]
    by_cases c : 0 ≤ a j
    · rw [if_pos c]
      exact ⟨m + 1, by omega, by show (scAcc a j).1 + 1 = _; rw [h2, nI_1]⟩
    · rw [if_neg c]; exact ⟨m, by omega, h2⟩
theorem scoreM_spec {N k : Nat} (hN : 70000 ≤ N) (hk : k < 30) (marks : Nat → Int32) (ha : okM (rowM marks k)) : fX7_scoreOf N (nI k) marks = some (scoreS (rowM marks k)) := by
  unfold fX7_scoreOf
  rw [show fX7_scoreOf_L14 N (nI k) marks _ N 0 0 101 (-1) 0 = _ from scM_loop (N := N) hk marks _ 5 0 N (by omega) (by omega)]
  unfold scoreS
  obtain ⟨m, h1, h2⟩ := scAcc_cnt 5 (Nat.le_refl 5) ha
  by_cases c : (scAcc (rowM marks k) 5).1 ≤ 3
  · rw [if_pos c, if_neg (i_nlt.mpr c)]
    by_cases c0 : (scAcc (rowM marks k) 5).1 = 0
    · rw [if_pos c0, if_pos c0]
    · rw [if_neg c0, if_neg c0, if_neg c0]
  · rw [if_neg c, if_pos (i_nle.mp c), if_neg]
    rw [h2] at c ⊢
    rcases (show m = 0 ∨ m = 1 ∨ m = 2 ∨ m = 3 ∨ m = 4 ∨ m = 5 by omega) with rfl | rfl | rfl | rfl | rfl | rfl
    · exact absurd (by decide) c
    · exact absurd (by decide) c
    · exact absurd (by decide) c
    · exact absurd (by decide) c
    · decide
    · decide
theorem cntM_loop {N k : Nat} (hk : k < 30) (marks : Nat → Int32) : ∀ (m j fuel : Nat), j + m = 5 → m < fuel → fX7_marksOf_L4 N (nI k) marks fuel (scAcc (rowM marks k) j).1 (nI j) = some (cntS (rowM marks k))
  | 0, j, 0, e, hf => absurd hf (by omega)
  | m + 1, j, 0, e, hf => absurd hf (by omega)
  | 0, j, fuel + 1, e, hf => by
    obtain rfl : j = 5 := by omega
    rw [fX7_marksOf_L4, if_pos (show (5 : Int32) ≤ nI 5 by decide)]
    rfl
  | m + 1, j, fuel + 1, e, hf => by
    have ih := cntM_loop (N := N) hk marks m (j + 1) fuel (by omega) (by omega)
    rw [fX7_marksOf_L4, if_neg (show ¬ (5 : Int32) ≤ nI j from nI_ge (b := 5) (by omega) (by omega)), ix2, if_neg (bnd (by omega) (by omega)), nI_clamp (by omega), nI_1]
    rw [scAcc_s] at ih
    rw [show marks (5 * k + j) = rowM marks k j from rfl]
    by_cases c : rowM marks k j < 0
    · rw [if_neg (i_nle.mpr c)] at ih
      rw [if_pos c, Int32.add_zero]; exact ih
    · rw [if_pos (i_nlt.mp c)] at ih
      rw [if_neg c]; exact ih
theorem cntM_spec {N k : Nat} (hN : 70000 ≤ N) (hk : k < 30) (marks : Nat → Int32) : fX7_marksOf N (nI k) marks = some (cntS (rowM marks k)) := cntM_loop (N := N) hk marks 5 0 N (by omega) (by omega)
theorem rowM_congr {f g : Nat → Int32} {k : Nat} (h : ∀ j, j < 5 → g (5 * k + j) = f (5 * k + j)) : ∀ j, j ≤ 5 → scAcc (rowM g k) j = scAcc (rowM f k) j
  | 0, _ => rfl
  | j + 1, hj => by
    rw [scAcc_s, scAcc_s, rowM_congr h j (by omega), show rowM g k j = rowM f k j from h j (by omega)]
