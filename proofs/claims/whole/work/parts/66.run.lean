/-! worth, call, run -/
theorem worth_fin {N A B : Nat} (hN : 70000 ≤ N) (hA : A ≤ 81000000000) (hB1 : 1 ≤ B) (hB : B ≤ 1000000000) (x : Int32) (hx : x = 0 ∨ x = 1) (s b : Nat → Int64) :
    ∃ r : Int64, fX6_cleared N (lN A) (lN B) x = some r ∧ ob1 (fX7_common N (lN A) (lN B)) (fun y => if x = 0 then (if y = 0 then none else some (lN A / y, s, b)) else (if y = 0 then none else some (lN B / y, s, b))) = some (r, s, b) := by
  rw [gcdM_spec hN (by omega) (by omega), ob1_some]
  rcases Nat.eq_zero_or_pos A with rfl | h0
  · refine ⟨x.toInt64, cleared_0 x, ?_⟩
    have q2 : ¬ lN (Nat.gcd 0 B) = 0 := fun q => by
      rw [Nat.gcd_zero_left] at q
      have := (pk_lEQ (b := 0) (by omega) (by omega)).mp q
      omega
    rw [if_neg q2, if_neg q2, Nat.gcd_zero_left, pk_lDiv (by omega) (by omega) (by omega), pk_lDiv (by omega) (by omega) (by omega), Nat.zero_div, Nat.div_self (by omega)]
    rcases hx with rfl | rfl
    · rw [if_pos rfl]; rfl
    · rw [if_neg (show ¬ (1 : Int32) = 0 by decide)]; rfl
  · have g0 : 0 < Nat.gcd A B := Nat.gcd_pos_of_pos_left B h0
    have g1 : Nat.gcd A B ≤ A := Nat.gcd_le_left B h0
    have q2 : ¬ lN (Nat.gcd A B) = 0 := fun q => by
      have := (pk_lEQ (b := 0) (by omega) (by omega)).mp q
      omega
    refine ⟨_, cleared_spec hN (by omega) (by omega) h0 (by omega) x, ?_⟩
    rw [if_neg q2, if_neg q2, pk_lDiv (by omega) g0 (by omega), pk_lDiv (by omega) g0 (by omega)]
    by_cases q : x = 0
    · rw [if_pos q, if_pos q]
    · rw [if_neg q, if_neg q]
/-- the sum of what the days were that a row of bits names -/
def msum (c : Nat) (f : Nat → Int32) : Nat → Int32
  | 0 => 0
  | j + 1 => if c.testBit j then msum c f j + f j else msum c f j
theorem msum_congr {c c' : Nat} {f : Nat → Int32} : ∀ i, (∀ j, j < i → c'.testBit j = c.testBit j) → msum c' f i = msum c f i
  | 0, _ => rfl
  | i + 1, h => by rw [msum, msum, h i (by omega), msum_congr i (fun j hj => h j (by omega))]
theorem shm {i : Nat} (h : i < 9) : ((nI i &&& 31 : Int32).toBitVec.smod 32).toNat = i := by
  rcases (show i = 0 ∨ i = 1 ∨ i = 2 ∨ i = 3 ∨ i = 4 ∨ i = 5 ∨ i = 6 ∨ i = 7 ∨ i = 8 by omega) with rfl | rfl | rfl | rfl | rfl | rfl | rfl | rfl | rfl <;> decide +kernel
theorem nI_or (a b : Nat) : nI a ||| nI b = nI (a ||| b) := by
  apply Int32.toBitVec_inj.mp
  rw [Int32.toBitVec_or]
  exact (BitVec.ofNat_or (w := 32) (x := a) (y := b)).symm
theorem orBit {c i : Nat} (h : i < 9) : nI c ||| (1 <<< (nI i &&& 31)) = nI (c ||| 2 ^ i) := by
  have hp : (2 : Nat) ^ i ≤ 2 ^ 9 := Nat.pow_le_pow_right (by omega) (by omega)
  rw [show (1 : Int32) <<< (nI i &&& 31) = nI (1 * 2 ^ i) from pk_shlN (n := 1) (nI i &&& 31) i (shm h) (by omega), Nat.one_mul, nI_or]
theorem tstBit {c i : Nat} (hc : c < 2 ^ 31) (h : i < 9) : ((nI c >>> (nI i &&& 31)) &&& 1) = nI (if c.testBit i then 1 else 0) := by
  rw [pk_shrN hc (nI i &&& 31) i (shm h), pk_andN (m := 1) (by have := Nat.div_le_self c (2 ^ i); omega) 1 (by decide +kernel), Nat.pow_one]
  rw [Nat.testBit_eq_decide_div_mod_eq]
  by_cases q : c / 2 ^ i % 2 = 1
  · rw [q]; rfl
  · rw [show c / 2 ^ i % 2 = 0 by omega]; rfl
theorem tst1 {c i : Nat} (hc : c < 2 ^ 31) (h : i < 9) : ((nI c >>> (nI i &&& 31)) &&& 1) = 1 ↔ c.testBit i = true := by
  rw [tstBit hc h]
  by_cases q : c.testBit i = true
  · rw [if_pos q]; exact ⟨fun _ => q, fun _ => rfl⟩
  · rw [if_neg q]; exact ⟨fun h => absurd h (by decide), fun h => absurd h q⟩
theorem tst0 {c i : Nat} (hc : c < 2 ^ 31) (h : i < 9) : ((nI c >>> (nI i &&& 31)) &&& 1) = 0 ↔ ¬ c.testBit i = true := by
  rw [tstBit hc h]
  by_cases q : c.testBit i = true
  · rw [if_pos q]; exact ⟨fun h => absurd h (by decide), fun h => absurd q h⟩
  · rw [if_neg q]; exact ⟨fun _ => q, fun _ => rfl⟩
theorem tb_or (c i j : Nat) : (c ||| 2 ^ i).testBit j = (c.testBit j || decide (i = j)) := by
  rw [Nat.testBit_or, Nat.testBit_two_pow]
theorem sumOf_spec {N c d : Nat} (hc : c < 2 ^ 31) (hd : d ≤ 9) (known : Nat → Int32) : ∀ (m i fuel : Nat), i + m = d → m < fuel → fX4_sumOf_L4 N (nI c) (nI d) known fuel (msum c known i) (nI i) = some (msum c known d)
  | 0, i, 0, e, hf => absurd hf (by omega)
  | m + 1, i, 0, e, hf => absurd hf (by omega)
  | 0, i, fuel + 1, e, hf => by
    rw [fX4_sumOf_L4, if_pos (nI_le (by omega) (by omega)), show i = d by omega]
  | m + 1, i, fuel + 1, e, hf => by
    have ih := sumOf_spec (N := N) hc hd known m (i + 1) fuel (by omega) (by omega)
    rw [msum] at ih
    rw [fX4_sumOf_L4, if_neg (nI_ge (by omega) (by omega)), if_neg (bnd (by omega) (by omega)), nI_clamp (by omega), nI_1]
    by_cases q : c.testBit i = true
    · rw [if_pos ((tst1 hc (by omega)).mpr q)]
      rw [if_pos q] at ih
      exact ih
    · rw [if_neg (fun h => q ((tst1 hc (by omega)).mp h))]
      rw [if_neg q] at ih
      exact ih
theorem len_spec {N d : Nat} (hd : d ≤ 9) (known : Nat → Int32) (h : ∀ i, i < d → (known i = -1 ∨ ∃ q, q ≤ 9 ∧ known i = nI q)) : ∀ (m i fuel : Nat), i + m = d → m < fuel → (∀ j, j < i → ∃ q, q ≤ 9 ∧ known j = nI q) → ∃ L, L ≤ d ∧ fX4_lengthOfRun_L2 N (nI d) known fuel (nI i) = some (nI L) ∧ (∀ j, j < L → ∃ q, q ≤ 9 ∧ known j = nI q) ∧ (L = d ∨ known L = -1)
  | 0, i, 0, e, hf, _ => absurd hf (by omega)
  | m + 1, i, 0, e, hf, _ => absurd hf (by omega)
  | 0, i, fuel + 1, e, hf, hq => by
    refine ⟨d, Nat.le_refl d, ?_, fun j hj => hq j (by omega), Or.inl rfl⟩
    rw [fX4_lengthOfRun_L2, if_pos (nI_le (by omega) (by omega))]
  | m + 1, i, fuel + 1, e, hf, hq => by
    rw [fX4_lengthOfRun_L2, if_neg (nI_ge (by omega) (by omega)), if_neg (bnd (by omega) (by omega)), nI_clamp (by omega), nI_1]
    rcases h i (by omega) with h1 | ⟨q, h1, h2⟩
    · exact ⟨i, by omega, by rw [if_pos h1], hq, Or.inr h1⟩
    · rw [if_neg (by rw [h2]; exact nI_ne_m1 (by omega))]
      refine len_spec hd known h m (i + 1) fuel (by omega) (by omega) (fun j hj => ?_)
      by_cases c : j = i
      · subst c; exact ⟨q, h1, h2⟩
      · exact hq j (by omega)
theorem run_joint {N d L : Nat} {lo hi : Nat → Nat} {above : Nat → Nat → Int64} {below sums below' : Nat → Int64} {known was : Nat → Int32} (hd : d ≤ 9) (hL : L ≤ d) (hr : ∀ j, j < d → lo j ≤ hi j ∧ hi j ≤ 9)
    (hX : ∀ t, t ≤ d → below (d - t) = lN (wB lo hi d t) ∧ ∀ r, r ≤ t → above (d - t) r = lN (wA lo hi d t r)) (hM : ∀ t, t ≤ d → below' (d - t) = lN (wB lo hi d t) ∧ ∀ r, r ≤ t → sums (10 * (d - t) + r) = lN (wA lo hi d t r))
    (hw : ∀ i, i < d → was i = known i) (hk : ∀ j, j < L → ∃ q, q ≤ 9 ∧ known j = nI q) (hk2 : L = d ∨ known L = -1) (K : Int32 → Int32 → Int32 → Int32 → Option (Int32 × (Nat → Int64) × (Nat → Int64))) :
    ∀ (m i l c fuel : Nat), i + m = L → m < fuel → l + i ≤ d → c < 2 ^ i → ∃ (c' : Nat) (u : Int32), c' < 2 ^ L ∧ fX4_calledInRun_L13 N (nI L) (nI d) known above below fuel (nI c) (nI l) (nI i) = some (nI c') ∧ fX7_run_L38 N (nI d) was sums below' K fuel (nI l) (nI c) (msum c known i) (nI i) = K u (nI c') (msum c' known L) (nI L)
  | 0, i, l, c, 0, e, hf, _, _ => absurd hf (by omega)
  | m + 1, i, l, c, 0, e, hf, _, _ => absurd hf (by omega)
  | 0, i, l, c, fuel + 1, e, hf, h1, h2 => by
    obtain rfl : i = L := by omega
    refine ⟨c, nI l, h2, by rw [fX4_calledInRun_L13, if_pos (nI_le (Nat.le_refl i) (by omega))], ?_⟩
    rw [fX7_run_L38]
    by_cases q : i = d
    · rw [if_pos (nI_le (by omega) (by omega))]
    · have hk3 : known i = -1 := hk2.resolve_left q
      rw [if_neg (nI_ge (by omega) (by omega)), if_neg (bnd (by omega) (by omega)), nI_clamp (by omega), hw i (by omega), hk3, if_pos (show (-1 : Int32) < 0 by decide)]
  | m + 1, i, l, c, fuel + 1, e, hf, h1, h2 => by
    obtain ⟨q, hq, hq2⟩ := hk i (by omega)
    obtain ⟨x1, x2⟩ := hX (d - i - 1) (by omega)
    obtain ⟨m1, m2⟩ := hM (d - i - 1) (by omega)
    rw [show d - (d - i - 1) = i + 1 by omega] at x1 x2 m1 m2
    obtain ⟨b1, b2, b3⟩ := wbd hd hr (d - i - 1) (by omega)
    rw [fX4_calledInRun_L13, if_neg (nI_ge (by omega) (by omega)), if_neg (bnd (by omega) (by omega)), nI_clamp (n := i) (by omega), hq2, isCalledX (t := d - i - 1) hd (by omega) (by omega) hq x1 x2 b2 b3, ob1_some, nI_1 i]
    rw [fX7_run_L38, if_neg (nI_ge (by omega) (by omega)), if_neg (bnd (by omega) (by omega)), nI_clamp (n := i) (by omega), hw i (by omega), hq2, if_neg (nI_pos (by omega)), isCalledM (t := d - i - 1) hd (by omega) (by omega) hq m1 m2 b2 b3, ob1_some, nI_1 i]
    have ci : ¬ c.testBit i = true := by rw [Nat.testBit_lt_two_pow h2]; decide
    have h2' : c < 2 ^ (i + 1) := by rw [Nat.pow_succ]; omega
    rcases cd_le (d - i - 1) l q (wB lo hi d (d - i - 1)) (wA lo hi d (d - i - 1)) with z | z
    · rw [z, if_pos nI_0, if_pos nI_0]
      have hl : l + (i + 1) ≤ d := by
        rcases Nat.lt_or_ge (l + i) d with g | g
        · omega
        · exfalso
          have l1 : d - i - 1 < l := by omega
          unfold cdN at z
          rw [if_neg (by omega), if_pos l1] at z
          omega
      have ih := run_joint (N := N) hd hL hr hX hM hw hk hk2 K m (i + 1) l c fuel (by omega) (by omega) hl h2'
      rw [msum, if_neg ci] at ih
      exact ih
    · rw [z, if_neg nI_is0, if_neg nI_is0, orBit (by omega)]
      cases l with
      | zero =>
        exfalso
        rw [show cdN (d - i - 1) 0 q (wB lo hi d (d - i - 1)) (wA lo hi d (d - i - 1)) = 0 from if_pos rfl] at z
        omega
      | succ l =>
        rw [pk_m1]
        have ih := run_joint (N := N) hd hL hr hX hM hw hk hk2 K m (i + 1) l (c ||| 2 ^ i) fuel (by omega) (by omega) (by omega) (Nat.or_lt_two_pow h2' (by rw [Nat.pow_succ]; have := Nat.two_pow_pos i; omega))
        rw [msum, if_pos (by rw [tb_or]; simp), msum_congr (c := c) i (fun j hj => by rw [tb_or]; simp; omega), hq2] at ih
        exact ih
