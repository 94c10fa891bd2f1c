/-! what waiting is worth -/
def wT (a b : Nat → Nat) (d t r q : Nat) : Nat := if r = 0 then wA a b d t 0 else if t < r then q * wB a b d t + wA a b d t (r - 1) else max (q * wB a b d t + wA a b d t (r - 1)) (wA a b d t r)
theorem wA_succ (a b : Nat → Nat) (d t r : Nat) : wA a b d (t + 1) r = sumQ (wT a b d t r) (a (d - (t + 1))) (b (d - (t + 1)) + 1 - a (d - (t + 1))) := by
  rw [wA]; rfl
theorem sumQ_le {f : Nat → Nat} {C a : Nat} : ∀ m, (∀ q, a ≤ q → q < a + m → f q ≤ C) → sumQ f a m ≤ m * C
  | 0, _ => by rw [sumQ, Nat.zero_mul]; exact Nat.le_refl 0
  | m + 1, h => by
    rw [sumQ, Nat.succ_mul]
    exact Nat.add_le_add (sumQ_le m (fun q h1 h2 => h q h1 (by omega))) (h (a + m) (by omega) (by omega))
theorem sumQ_front (f : Nat → Nat) (a : Nat) : ∀ m, sumQ f a (m + 1) = f a + sumQ f (a + 1) m
  | 0 => by simp [sumQ]
  | m + 1 => by
    rw [sumQ, sumQ_front f a m, sumQ, show a + 1 + m = a + (m + 1) by omega]
    omega
theorem sumQ_congr {f g : Nat → Nat} {a : Nat} : ∀ m, (∀ q, a ≤ q → q < a + m → f q = g q) → sumQ f a m = sumQ g a m
  | 0, _ => rfl
  | m + 1, h => by rw [sumQ, sumQ, sumQ_congr m (fun q h1 h2 => h q h1 (by omega)), h (a + m) (by omega) (by omega)]
theorem wbd0 {a b : Nat → Nat} {d : Nat} (h : ∀ i, i < d → a i ≤ b i ∧ b i ≤ 9) : ∀ t, t ≤ d → 1 ≤ wB a b d t ∧ wB a b d t ≤ 10 ^ t ∧ ∀ r, wA a b d t r ≤ 9 * (t * 10 ^ t)
  | 0, _ => ⟨Nat.le_refl 1, Nat.le_refl 1, fun r => Nat.zero_le _⟩
  | t + 1, ht => by
    obtain ⟨i1, i2, i3⟩ := wbd0 h t (by omega)
    obtain ⟨k1, k2⟩ := h (d - (t + 1)) (by omega)
    have w1 : 1 ≤ b (d - (t + 1)) + 1 - a (d - (t + 1)) := by omega
    have w2 : b (d - (t + 1)) + 1 - a (d - (t + 1)) ≤ 10 := by omega
    refine ⟨?_, ?_, fun r => ?_⟩
    · rw [wB]; exact Nat.mul_le_mul w1 i1
    · rw [wB, Nat.pow_succ, Nat.mul_comm (10 ^ t)]; exact Nat.mul_le_mul w2 i2
    · rw [wA_succ]
      have hT : ∀ q, q ≤ 9 → wT a b d t r q ≤ 9 * (t * 10 ^ t + 10 ^ t) := fun q hq => by
        have m1 : q * wB a b d t ≤ 9 * 10 ^ t := Nat.mul_le_mul hq i2
        have m2 := i3 0
        have m3 := i3 (r - 1)
        have m4 := i3 r
        unfold wT
        by_cases c1 : r = 0
        · rw [if_pos c1]; omega
        · rw [if_neg c1]
          by_cases c2 : t < r
          · rw [if_pos c2]; omega
          · rw [if_neg c2]
            exact Nat.max_le.mpr ⟨by omega, by omega⟩
      have s1 := sumQ_le (f := wT a b d t r) (C := 9 * (t * 10 ^ t + 10 ^ t)) (a := a (d - (t + 1))) (b (d - (t + 1)) + 1 - a (d - (t + 1))) (fun q h1 h2 => hT q (by omega))
      have s2 := Nat.mul_le_mul_right (9 * (t * 10 ^ t + 10 ^ t)) w2
      have s3 : t * (10 ^ t * 10) = 10 * (t * 10 ^ t) := by rw [Nat.mul_comm (10 ^ t) 10, Nat.mul_left_comm]
      have s4 : (t + 1) * (10 ^ t * 10) = 10 * (t * 10 ^ t) + 10 ^ t * 10 := by rw [Nat.succ_mul t (10 ^ t * 10), s3]
      rw [Nat.pow_succ, s4]
      omega
theorem wbd {a b : Nat → Nat} {d : Nat} (hd : d ≤ 9) (h : ∀ i, i < d → a i ≤ b i ∧ b i ≤ 9) (t : Nat) (ht : t ≤ d) : 1 ≤ wB a b d t ∧ wB a b d t ≤ 1000000000 ∧ ∀ r, wA a b d t r ≤ 81000000000 := by
  obtain ⟨i1, i2, i3⟩ := wbd0 h t ht
  have p1 : 10 ^ t ≤ 10 ^ 9 := Nat.pow_le_pow_right (by omega) (by omega)
  have p2 : t * 10 ^ t ≤ 9 * 10 ^ 9 := Nat.mul_le_mul (by omega) p1
  exact ⟨i1, by omega, fun r => by have := i3 r; omega⟩
/-- whether a day with t days behind it is called -/
def cdN (t l q B : Nat) (A : Nat → Nat) : Nat := if l = 0 then 0 else if t < l then 1 else if q * B + A (l - 1) < A l then 0 else 1
theorem cd_le (t l q B : Nat) (A : Nat → Nat) : cdN t l q B A = 0 ∨ cdN t l q B A = 1 := by
  unfold cdN
  by_cases c1 : l = 0
  · rw [if_pos c1]; exact Or.inl rfl
  · rw [if_neg c1]
    by_cases c2 : t < l
    · rw [if_pos c2]; exact Or.inr rfl
    · rw [if_neg c2]
      by_cases c3 : q * B + A (l - 1) < A l
      · rw [if_pos c3]; exact Or.inl rfl
      · rw [if_neg c3]; exact Or.inr rfl
theorem nI_is0 : ¬ nI 1 = 0 := by decide
theorem aifc {N i d t l q B : Nat} {A : Nat → Nat} {above : Nat → Nat → Int64} {below : Nat → Int64} (hd : d ≤ 9) (hi : i + t + 1 = d) (hl : l ≤ t) (hq : q ≤ 9) (hb : below (i + 1) = lN B) (ha : ∀ r, r ≤ t → above (i + 1) r = lN (A r)) :
    fX4_aboveIfCalled N (nI i) (nI (l + 1)) (nI q) above below = some (lN (q * B + A l)) := by
  unfold fX4_aboveIfCalled
  rw [nI_1 i, nI_pred, if_neg (bnd (by omega) (by omega)), if_neg (bnd (by omega) (by omega)), nI_clamp (n := i + 1) (by omega), nI_clamp (n := l) (by omega), hb, ha l hl, nI_l (by omega), lN_mul, lN_add]
theorem isCalledX {N i d t l q B : Nat} {A : Nat → Nat} {above : Nat → Nat → Int64} {below : Nat → Int64} (hd : d ≤ 9) (hi : i + t + 1 = d) (hl : l ≤ t + 1) (hq : q ≤ 9) (hb : below (i + 1) = lN B) (ha : ∀ r, r ≤ t → above (i + 1) r = lN (A r)) (hB : B ≤ 1000000000) (hA : ∀ r, A r ≤ 81000000000) :
    fX4_isCalled N (nI i) (nI l) (nI q) (nI d) above below = some (nI (cdN t l q B A)) := by
  unfold fX4_isCalled cdN
  cases l with
  | zero => rw [if_neg (show ¬ (0 : Int32) < nI 0 by decide), if_pos (rfl : (0 : Nat) = 0)]; rfl
  | succ l =>
    rw [if_pos (show (0 : Int32) < nI (l + 1) from nI_lt (a := 0) (by omega) (by omega)), if_neg (show ¬ l + 1 = 0 by omega), nI_1 i]
    unfold fX4_hasWorth
    rw [pk_sub (by omega), show d - (i + 1) = t by omega]
    by_cases c : t < l + 1
    · rw [if_pos (nI_lt c (by omega)), if_pos c, ob1_some, if_pos rfl]; rfl
    · rw [if_neg (nI_nlt (by omega) (by omega)), if_neg c, ob1_some, if_neg (show ¬ (1 : Int32) = 0 by decide), aifc hd hi (by omega) hq hb ha, ob1_some, if_neg (bnd (by omega) (by omega)), if_neg (bnd (by omega) (by omega)), nI_clamp (n := i + 1) (by omega), nI_clamp (n := l + 1) (by omega), ha (l + 1) (by omega), Nat.add_sub_cancel]
      have m1 : q * B ≤ 9 * 1000000000 := Nat.mul_le_mul hq hB
      have m2 := hA l
      have m3 := hA (l + 1)
      by_cases c3 : q * B + A l < A (l + 1)
      · rw [if_pos ((lg_cmp_lt _ _).mpr ((pk_lLT (by omega) (by omega)).mpr c3)), if_pos c3]; rfl
      · rw [if_neg (fun h => c3 ((pk_lLT (by omega) (by omega)).mp ((lg_cmp_lt _ _).mp h))), if_neg c3]; rfl
theorem isCalledM {N i d t l q B : Nat} {A : Nat → Nat} {sums below : Nat → Int64} (hd : d ≤ 9) (hi : i + t + 1 = d) (hl : l ≤ t + 1) (hq : q ≤ 9) (hb : below (i + 1) = lN B) (ha : ∀ r, r ≤ t → sums (10 * (i + 1) + r) = lN (A r)) (hB : B ≤ 1000000000) (hA : ∀ r, A r ≤ 81000000000) :
    fX7_isCalled N (nI i) (nI l) (nI q) (nI d) sums below = some (nI (cdN t l q B A)) := by
  unfold fX7_isCalled cdN
  cases l with
  | zero => rw [if_pos nI_0, if_pos (rfl : (0 : Nat) = 0)]; rfl
  | succ l =>
    rw [if_neg (nI_ne0 (by omega) (by omega)), if_neg (show ¬ l + 1 = 0 by omega), nI_1 i, pk_sub (by omega), show d - i = t + 1 by omega, nI_pred]
    by_cases c : t < l + 1
    · rw [if_neg (nI_ge c (by omega)), if_pos c]; rfl
    · rw [if_pos (nI_le (by omega) (by omega)), if_neg c, show (10 : Int32) * nI (i + 1) = nI (10 * (i + 1)) from pk_mul 10 (i + 1), nI_add, show 10 * (i + 1) + (l + 1) = 10 * (i + 1) + l + 1 by omega, nI_pred, if_neg (bnd (by omega) (by omega)), if_neg (bnd (by omega) (by omega)), if_neg (bnd (by omega) (by omega)), nI_clamp (n := i + 1) (by omega), nI_clamp (n := 10 * (i + 1) + l) (by omega), nI_clamp (n := 10 * (i + 1) + l + 1) (by omega), hb, ha l (by omega), show 10 * (i + 1) + l + 1 = 10 * (i + 1) + (l + 1) by omega, ha (l + 1) (by omega), nI_l (by omega), lN_mul, lN_add, Nat.add_sub_cancel]
      have m1 : q * B ≤ 9 * 1000000000 := Nat.mul_le_mul hq hB
      have m2 := hA l
      have m3 := hA (l + 1)
      by_cases c3 : q * B + A l < A (l + 1)
      · rw [if_pos ((lg_cmp_lt _ _).mpr ((pk_lLT (by omega) (by omega)).mpr c3)), if_pos c3]; rfl
      · rw [if_neg (fun h => c3 ((pk_lLT (by omega) (by omega)).mp ((lg_cmp_lt _ _).mp h))), if_neg c3]; rfl
/-- what a day's number brings, beside the later days' picture -/
def wG (t l B : Nat) (A : Nat → Nat) (q : Nat) : Nat := if l = 0 then A 0 else if t < l then q * B + A (l - 1) else max (q * B + A (l - 1)) (A l)
theorem cd_1 {t l q B : Nat} {A : Nat → Nat} (c : t < l + 1) : cdN t (l + 1) q B A = 1 := by
  unfold cdN; rw [if_neg (show ¬ l + 1 = 0 by omega), if_pos c]
theorem cd_2 {t l q B : Nat} {A : Nat → Nat} (c : ¬ t < l + 1) (c3 : q * B + A l < A (l + 1)) : cdN t (l + 1) q B A = 0 := by
  unfold cdN; rw [if_neg (show ¬ l + 1 = 0 by omega), if_neg c, Nat.add_sub_cancel, if_pos c3]
theorem cd_3 {t l q B : Nat} {A : Nat → Nat} (c : ¬ t < l + 1) (c3 : ¬ q * B + A l < A (l + 1)) : cdN t (l + 1) q B A = 1 := by
  unfold cdN; rw [if_neg (show ¬ l + 1 = 0 by omega), if_neg c, Nat.add_sub_cancel, if_neg c3]
theorem wG_1 {t l q B : Nat} {A : Nat → Nat} (c : t < l + 1) : wG t (l + 1) B A q = q * B + A l := by
  unfold wG; rw [if_neg (show ¬ l + 1 = 0 by omega), if_pos c, Nat.add_sub_cancel]
theorem wG_2 {t l q B : Nat} {A : Nat → Nat} (c : ¬ t < l + 1) (c3 : q * B + A l < A (l + 1)) : wG t (l + 1) B A q = A (l + 1) := by
  unfold wG; rw [if_neg (show ¬ l + 1 = 0 by omega), if_neg c, Nat.add_sub_cancel, Nat.max_eq_right (Nat.le_of_lt c3)]
theorem wG_3 {t l q B : Nat} {A : Nat → Nat} (c : ¬ t < l + 1) (c3 : ¬ q * B + A l < A (l + 1)) : wG t (l + 1) B A q = q * B + A l := by
  unfold wG; rw [if_neg (show ¬ l + 1 = 0 by omega), if_neg c, Nat.add_sub_cancel, Nat.max_eq_left (Nat.not_lt.mp c3)]
theorem spanX {N i d t l B hi0 : Nat} {A : Nat → Nat} {to : Nat → Int32} {above : Nat → Nat → Int64} {below : Nat → Int64} (hd : d ≤ 9) (hi : i + t + 1 = d) (hl : l ≤ t + 1) (hh : hi0 ≤ 9) (hto : to i = nI hi0) (hb : below (i + 1) = lN B) (ha : ∀ r, r ≤ t → above (i + 1) r = lN (A r)) (hB : B ≤ 1000000000) (hA : ∀ r, A r ≤ 81000000000) :
    ∀ (m q fuel s : Nat), q + m = hi0 + 1 → m < fuel → fX4_sumOverSpan_L10 N (nI i) (nI l) (nI d) to above below fuel (lN s) (nI q) = some (lN (s + sumQ (wG t l B A) q m))
  | 0, q, 0, s, e, hf => absurd hf (by omega)
  | m + 1, q, 0, s, e, hf => absurd hf (by omega)
  | 0, q, fuel + 1, s, e, hf => by
    rw [fX4_sumOverSpan_L10, if_neg (bnd (by omega) (by omega)), nI_clamp (n := i) (by omega), hto, if_pos (nI_lt (by omega) (by omega)), sumQ, Nat.add_zero]
  | m + 1, q, fuel + 1, s, e, hf => by
    have ih := fun s' => spanX (N := N) hd hi hl hh hto hb ha hB hA m (q + 1) fuel s' (by omega) (by omega)
    rw [fX4_sumOverSpan_L10, if_neg (bnd (by omega) (by omega)), nI_clamp (n := i) (by omega), hto, if_neg (nI_nlt (by omega) (by omega)), isCalledX hd hi hl (by omega) hb ha hB hA, ob1_some, nI_1 q, nI_1 i, if_neg (bnd (i := i + 1) (by omega) (by omega)), nI_clamp (n := i + 1) (by omega), if_neg (bnd (i := l) (by omega) (by omega)), nI_clamp (n := l) (by omega), sumQ_front, ← Nat.add_assoc]
    cases l with
    | zero =>
      rw [show cdN t 0 q B A = 0 from if_pos rfl, if_pos nI_0, ha 0 (by omega), lN_add, show wG t 0 B A q = A 0 from if_pos rfl]
      exact ih (s + A 0)
    | succ l =>
      by_cases c : t < l + 1
      · rw [cd_1 c, wG_1 c, if_neg nI_is0, aifc hd hi (by omega) (by omega) hb ha, ob1_some, lN_add]
        exact ih _
      · by_cases c3 : q * B + A l < A (l + 1)
        · rw [cd_2 c c3, wG_2 c c3, if_pos nI_0, ha (l + 1) (by omega), lN_add]
          exact ih _
        · rw [cd_3 c c3, wG_3 c c3, if_neg nI_is0, aifc hd hi (by omega) (by omega) hb ha, ob1_some, lN_add]
          exact ih _
theorem spanM {N i d t l B hi0 : Nat} {A : Nat → Nat} {to : Nat → Int32} {sums below : Nat → Int64} {K : Int64 → Int32 → Option ((Nat → Int64) × (Nat → Int64))} (hd : d ≤ 9) (hi : i + t + 1 = d) (hl : l ≤ t + 1) (hh : hi0 ≤ 9) (hto : to i = nI hi0) (hb : below (i + 1) = lN B) (ha : ∀ r, r ≤ t → sums (10 * (i + 1) + r) = lN (A r)) (hB : B ≤ 1000000000) (hA : ∀ r, A r ≤ 81000000000) :
    ∀ (m q fuel s : Nat), q + m = hi0 + 1 → m < fuel → fX7_findWorths_L87 N (nI i) (nI l) (nI d) to sums below K fuel (lN s) (nI q) = K (lN (s + sumQ (wG t l B A) q m)) (nI (hi0 + 1))
  | 0, q, 0, s, e, hf => absurd hf (by omega)
  | m + 1, q, 0, s, e, hf => absurd hf (by omega)
  | 0, q, fuel + 1, s, e, hf => by
    rw [fX7_findWorths_L87, if_neg (bnd (by omega) (by omega)), nI_clamp (n := i) (by omega), hto, if_pos (nI_lt (by omega) (by omega)), sumQ, Nat.add_zero, show q = hi0 + 1 by omega]
  | m + 1, q, fuel + 1, s, e, hf => by
    have ih := fun s' => spanM (N := N) (K := K) hd hi hl hh hto hb ha hB hA m (q + 1) fuel s' (by omega) (by omega)
    have m1 : q * B ≤ 9 * 1000000000 := Nat.mul_le_mul (by omega) hB
    rw [fX7_findWorths_L87, if_neg (bnd (by omega) (by omega)), nI_clamp (n := i) (by omega), hto, if_neg (nI_nlt (by omega) (by omega)), nI_1 q, nI_1 i, pk_sub (by omega), show d - i = t + 1 by omega, nI_pred, show (10 : Int32) * nI (i + 1) = nI (10 * (i + 1)) from pk_mul 10 (i + 1), nI_add, sumQ_front, ← Nat.add_assoc]
    cases l with
    | zero =>
      rw [if_pos nI_0, if_pos (nI_le (by omega) (by omega)), if_neg (bnd (by omega) (by omega)), nI_clamp (n := 10 * (i + 1) + 0) (by omega), ha 0 (by omega), if_pos ((lg_cmp_le _ _).mpr (by rw [Int64.le_iff_toInt_le, pk_lT (by have := hA 0; omega), show (-1 : Int64).toInt = -1 by decide]; omega)), lN_add, show wG t 0 B A q = A 0 from if_pos rfl]
      exact ih (s + A 0)
    | succ l =>
      have hA0 := hA l
      have hA1 := hA (l + 1)
      rw [if_neg (nI_ne0 (by omega) (by omega)), if_neg (bnd (i := i + 1) (by omega) (by omega)), show 10 * (i + 1) + (l + 1) = 10 * (i + 1) + l + 1 by omega, nI_pred, if_neg (bnd (by omega) (by omega)), nI_clamp (n := i + 1) (by omega), nI_clamp (n := 10 * (i + 1) + l) (by omega), hb, ha l (by omega), nI_l (by omega), lN_mul, lN_add, lN_add]
      by_cases c : t < l + 1
      · rw [if_neg (nI_ge c (by omega)), if_neg (fun h => by
          have h2 := (lg_cmp_le _ _).mp h
          rw [Int64.le_iff_toInt_le, pk_lT (by omega), show (-1 : Int64).toInt = -1 by decide] at h2
          omega), wG_1 c]
        exact ih _
      · rw [if_pos (nI_le (by omega) (by omega)), if_neg (bnd (by omega) (by omega)), nI_clamp (n := 10 * (i + 1) + l + 1) (by omega), show 10 * (i + 1) + l + 1 = 10 * (i + 1) + (l + 1) by omega, ha (l + 1) (by omega), lN_add]
        by_cases c3 : q * B + A l < A (l + 1)
        · rw [if_pos ((lg_cmp_le _ _).mpr ((pk_lLE (by omega) (by omega)).mpr (by omega))), wG_2 c c3]
          exact ih _
        · by_cases c4 : q * B + A l = A (l + 1)
          · rw [if_pos ((lg_cmp_le _ _).mpr ((pk_lLE (by omega) (by omega)).mpr (by omega))), wG_3 c c3, c4]
            exact ih _
          · rw [if_neg (fun h => c4 (by
              have h2 := (pk_lLE (by omega) (by omega)).mp ((lg_cmp_le _ _).mp h)
              omega)), wG_3 c c3]
            exact ih _
