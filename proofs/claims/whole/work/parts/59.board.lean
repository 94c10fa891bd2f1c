/-! the board: totals, places -/
def totS (best second faults : Nat → Int32) (r : Nat) : Int32 := if faults r = 0 then best r + second r else if faults r = 1 then best r + second r / 2 else best r / 2
theorem total_spec {N r : Nat} (h : r < 4) (best second faults : Nat → Int32) : fX0_total N (nI r) best second faults = some (totS best second faults r) := by
  unfold fX0_total totS
  rw [if_neg (bnd h (by omega)), nI_clamp (by omega)]
  by_cases c : faults r = 0
  · rw [if_pos c, if_pos c]
  · rw [if_neg c, if_neg c]
    by_cases c1 : faults r = 1
    · rw [if_pos c1, if_pos c1]
    · rw [if_neg c1, if_neg c1]
theorem isBetter_spec {N i j : Nat} (hi : i < 4) (hj : j < 4) (best second faults : Nat → Int32) : fX0_isBetter N (nI i) (nI j) best second faults = some (if totS best second faults i = totS best second faults j then (if best i = best j then (if nI j ≤ nI i then 0 else 1) else if best i ≤ best j then 0 else 1) else if totS best second faults i ≤ totS best second faults j then 0 else 1) := by
  unfold fX0_isBetter
  rw [total_spec hi, ob1_some, total_spec hj, ob1_some]
  by_cases c : totS best second faults i = totS best second faults j
  · rw [if_pos c, if_pos c, if_neg (bnd hi (by omega)), if_neg (bnd hj (by omega)), nI_clamp (by omega), nI_clamp (by omega)]
    by_cases c1 : best i = best j
    · rw [if_pos c1, if_pos c1]
      by_cases c2 : nI j ≤ nI i
      · rw [if_pos c2, if_pos c2]
      · rw [if_neg c2, if_neg c2]
    · rw [if_neg c1, if_neg c1]
      by_cases c2 : best i ≤ best j
      · rw [if_pos c2, if_pos c2]
      · rw [if_neg c2, if_neg c2]
  · rw [if_neg c, if_neg c]
    by_cases c2 : totS best second faults i ≤ totS best second faults j
    · rw [if_pos c2, if_pos c2]
    · rw [if_neg c2, if_neg c2]
theorem place_joint {N n j : Nat} (hn : n ≤ 4) (hj : j < n) (best second faults best' tot : Nat → Int32) (hb : ∀ r, r < n → best' r = best r) (ht : ∀ r, r < n → tot r = totS best second faults r) : ∀ (m i fuel : Nat) (x2 : Int32), i + m = n → m < fuel → ∃ r, fX0_placeOf_L4 N (nI j) (nI n) best second faults fuel x2 (nI i) = some r ∧ fX7_placeOf_L4 N (nI j) (nI n) best' tot fuel x2 (nI i) = some r
  | 0, i, 0, _, e, hf => absurd hf (by omega)
  | m + 1, i, 0, _, e, hf => absurd hf (by omega)
  | 0, i, fuel + 1, x2, e, hf => ⟨x2, by rw [fX0_placeOf_L4, if_pos (nI_le (by omega) (by omega))], by rw [fX7_placeOf_L4, if_pos (nI_le (by omega) (by omega))]⟩
  | m + 1, i, fuel + 1, x2, e, hf => by
    have step := fun z => place_joint (N := N) hn hj best second faults best' tot hb ht m (i + 1) fuel z (by omega) (by omega)
    rw [fX0_placeOf_L4, if_neg (nI_ge (by omega) (by omega)), isBetter_spec (by omega) (by omega), ob1_some, nI_1]
    rw [fX7_placeOf_L4, if_neg (nI_ge (a := i) (b := n) (by omega) (by omega)), if_neg (bnd (i := i) (n := 4) (by omega) (by omega)), if_neg (bnd (i := j) (n := 4) (by omega) (by omega)), nI_clamp (n := i) (by omega), nI_clamp (n := j) (by omega), nI_1, ht i (by omega), ht j hj, hb i (by omega), hb j hj, Int32.add_zero]
    by_cases c : totS best second faults i = totS best second faults j
    · simp only [if_pos c]
      have cn : ¬ totS best second faults j < totS best second faults i := by rw [c]; exact Int32.lt_irrefl
      simp only [if_neg cn]
      by_cases c1 : best i = best j
      · simp only [if_pos c1]
        rw [if_neg (show ¬ best j < best i by rw [c1]; exact Int32.lt_irrefl)]
        by_cases c2 : nI j ≤ nI i
        · simp only [if_pos c2, ↓reduceIte]; exact step x2
        · simp only [if_neg c2]; rw [if_neg (show ¬ (1 : Int32) = 0 by decide)]; exact step (x2 + 1)
      · simp only [if_neg c1]
        by_cases c2 : best i ≤ best j
        · simp only [if_pos c2, ↓reduceIte]; rw [if_neg (i_nlt.mpr c2)]; exact step x2
        · simp only [if_neg c2]; rw [if_pos (i_nle.mp c2), if_neg (show ¬ (1 : Int32) = 0 by decide)]; exact step (x2 + 1)
    · simp only [if_neg c]
      by_cases c2 : totS best second faults i ≤ totS best second faults j
      · simp only [if_pos c2, ↓reduceIte]; rw [if_neg (i_nlt.mpr c2)]; exact step x2
      · simp only [if_neg c2]; rw [if_pos (i_nle.mp c2), if_neg (show ¬ (1 : Int32) = 0 by decide)]; exact step (x2 + 1)
theorem totals_spec {N n : Nat} (hn : n ≤ 4) (itf best second : Nat → Int32) : ∀ (m i fuel : Nat) (tot : Nat → Int32), i + m = n → m < fuel → ∃ t' : Nat → Int32, fX7_findTotals_L2 N (nI n) itf best second fuel (nI i) tot = some t' ∧ (∀ r, r < i → t' r = tot r) ∧ (∀ r, i ≤ r → r < n → t' r = totS best second itf r)
  | 0, i, 0, _, e, hf => absurd hf (by omega)
  | m + 1, i, 0, _, e, hf => absurd hf (by omega)
  | 0, i, fuel + 1, tot, e, hf => ⟨tot, by rw [fX7_findTotals_L2, if_pos (nI_le (by omega) (by omega))], fun _ _ => rfl, fun r h1 h2 => absurd h2 (by omega)⟩
  | m + 1, i, fuel + 1, tot, e, hf => by
    have step := totals_spec (N := N) hn itf best second m (i + 1) fuel (upd tot i (totS best second itf i)) (by omega) (by omega)
    obtain ⟨t', h1, h2, h3⟩ := step
    refine ⟨t', ?_, fun r hr => by rw [h2 r (by omega), pk_un (by omega)], fun r hr hr2 => ?_⟩
    · rw [fX7_findTotals_L2, if_neg (nI_ge (by omega) (by omega)), if_neg (bnd (by omega) (by omega)), nI_clamp (by omega), nI_1]
      unfold totS at h1
      by_cases c : itf i = 0
      · rw [if_pos c] at h1 ⊢; exact h1
      · rw [if_neg c] at h1 ⊢
        by_cases c1 : itf i = 1
        · rw [if_pos c1] at h1 ⊢; exact h1
        · rw [if_neg c1] at h1 ⊢; exact h1
    · by_cases c : r = i
      · subst c; rw [h2 r (by omega), pk_us]
      · exact h3 r (by omega) hr2
