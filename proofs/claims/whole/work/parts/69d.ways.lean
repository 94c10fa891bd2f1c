/-! ways: the class walks along the choices -/
def fct : Nat → Nat
  | 0 => 1
  | n + 1 => (n + 1) * fct n
theorem fct_pos : ∀ n, 1 ≤ fct n
  | 0 => Nat.le_refl 1
  | n + 1 => by rw [fct]; exact Nat.mul_le_mul (show 1 ≤ n + 1 by omega) (fct_pos n)
def cW (n : Nat) : Nat → (Nat → Nat) → Nat
  | 0, _ => 1
  | m + 1, give => sumQ (fun r => if give r = 0 then 0 else cW n m (dcr give r)) 0 n
def prF (give : Nat → Nat) : Nat → Nat
  | 0 => 1
  | r + 1 => prF give r * fct (give r)
theorem wx_one (n : Nat) (so : Nat → Int32) : ∀ (m i : Nat) (give : Nat → Nat) (b c : Nat → Int32), wx n so (fun _ _ => 1) m i give b c = cW n m give
  | 0, i, give, b, c => by rw [wx, cW]
  | m + 1, i, give, b, c => by
    rw [wx, cW]
    refine sumQ_congr n (fun r _ _ => ?_)
    by_cases q : give r = 0
    · rw [if_pos q, if_pos q]
    · rw [if_neg q, if_neg q]; exact wx_one n so m (i + 1) _ _ _
theorem cW_congr (n : Nat) : ∀ (m : Nat) (give give' : Nat → Nat), (∀ r, r < n → give' r = give r) → cW n m give' = cW n m give
  | 0, _, _, _ => by rw [cW, cW]
  | m + 1, give, give', h => by
    rw [cW, cW]
    refine sumQ_congr n (fun r _ hr => ?_)
    have hr' : r < n := by omega
    rw [h r hr']
    by_cases q : give r = 0
    · rw [if_pos q, if_pos q]
    · rw [if_neg q, if_neg q]
      refine cW_congr n m _ _ (fun p hp => ?_)
      unfold dcr
      rw [h p hp]
theorem prF_pos (give : Nat → Nat) : ∀ r, 1 ≤ prF give r
  | 0 => Nat.le_refl 1
  | r + 1 => by rw [prF]; exact Nat.mul_le_mul (prF_pos give r) (fct_pos _)
theorem prF_same {give give' : Nat → Nat} : ∀ n, (∀ r, r < n → give' r = give r) → prF give' n = prF give n
  | 0, _ => rfl
  | n + 1, h => by rw [prF, prF, prF_same n (fun r hr => h r (by omega)), h n (by omega)]
theorem prF_dcr {give : Nat → Nat} {r : Nat} (hg : 0 < give r) : ∀ n, r < n → prF give n = give r * prF (dcr give r) n
  | 0, h => absurd h (by omega)
  | n + 1, h => by
    rw [prF, prF]
    by_cases e : r = n
    · subst e
      rw [dcr_s, prF_same (give := give) (give' := dcr give r) r (fun q hq => dcr_n (by omega))]
      obtain ⟨g0, hg0⟩ : ∃ g0, give r = g0 + 1 := ⟨give r - 1, by omega⟩
      rw [hg0, fct, Nat.add_sub_cancel, Nat.mul_left_comm]
    · rw [prF_dcr hg n (by omega), dcr_n (show n ≠ r by omega), Nat.mul_assoc]
theorem sum_dcr {give : Nat → Nat} {r : Nat} (hg : 0 < give r) : ∀ n, r < n → sumQ (dcr give r) 0 n + 1 = sumQ give 0 n
  | 0, h => absurd h (by omega)
  | n + 1, h => by
    rw [sumQ, sumQ, Nat.zero_add]
    by_cases e : r = n
    · subst e
      rw [dcr_s, sumQ_congr (f := dcr give r) (g := give) r (fun q _ hq => dcr_n (by omega))]
      omega
    · have := sum_dcr hg n (by omega)
      rw [dcr_n (show n ≠ r by omega)]
      omega
theorem cW_fct (n : Nat) : ∀ (m : Nat) (give : Nat → Nat), sumQ give 0 n = m → cW n m give * prF give n = fct m
  | 0, give, h => by
    rw [cW, fct, Nat.one_mul]
    have hz : ∀ r, r < n → give r = 0 := fun r hr => by
      rcases Nat.eq_zero_or_pos (give r) with q | q
      · exact q
      · have := sum_dcr q n hr; omega
    have : ∀ k, k ≤ n → prF give k = 1 := fun k => by
      induction k with
      | zero => intro _; rfl
      | succ k ih => intro hk; rw [prF, ih (by omega), hz k (by omega), fct]
    exact this n (Nat.le_refl n)
  | m + 1, give, h => by
    rw [cW, sumQ_mulf, fct, ← h, sumQ_mulf]
    refine sumQ_congr n (fun r _ hr => ?_)
    have hr' : r < n := by omega
    by_cases q : give r = 0
    · rw [if_pos q, q]; simp
    · rw [if_neg q, prF_dcr (Nat.pos_of_ne_zero q) n hr', Nat.mul_left_comm, cW_fct n m (dcr give r) (by have := sum_dcr (Nat.pos_of_ne_zero q) n hr'; omega)]
theorem fct8 {m : Nat} (h : m ≤ 8) : fct m ≤ 40320 := by
  rcases (show m = 0 ∨ m = 1 ∨ m = 2 ∨ m = 3 ∨ m = 4 ∨ m = 5 ∨ m = 6 ∨ m = 7 ∨ m = 8 by omega) with rfl | rfl | rfl | rfl | rfl | rfl | rfl | rfl | rfl <;> decide
theorem cW_le {n m : Nat} {give : Nat → Nat} (h : sumQ give 0 n = m) (h8 : m ≤ 8) : cW n m give ≤ 40320 := by
  have h1 := cW_fct n m give h
  have h2 := Nat.mul_le_mul_left (cW n m give) (prF_pos give n)
  have h3 := fct8 h8
  omega
/-- one more for a rider -/
theorem cW_step {n m r : Nat} {give : Nat → Nat} (hr : r < n) (hg : 0 < give r) (h : sumQ give 0 n = m + 1) : cW n m (dcr give r) * (m + 1) / give r = cW n (m + 1) give := by
  have h1 := cW_fct n (m + 1) give h
  have h2 := cW_fct n m (dcr give r) (by have := sum_dcr hg n hr; omega)
  rw [prF_dcr hg n hr, fct, ← h2] at h1
  have h3 : cW n (m + 1) give * give r * prF (dcr give r) n = cW n m (dcr give r) * (m + 1) * prF (dcr give r) n := by
    rw [Nat.mul_assoc, h1, ← Nat.mul_assoc, Nat.mul_comm (m + 1)]
  have h4 := Nat.eq_of_mul_eq_mul_right (prF_pos (dcr give r) n) h3
  rw [← h4, Nat.mul_div_cancel _ hg]
/-- the riders before r have all of theirs, r has i -/
def prt (own : Nat → Nat) (r i : Nat) : Nat → Nat := fun q => if q < r then own q else if q = r then i else 0
theorem prt_s (own : Nat → Nat) (r i : Nat) : prt own r i r = i := by
  unfold prt; rw [if_neg (Nat.lt_irrefl r), if_pos rfl]
theorem prt_dcr (own : Nat → Nat) (r i : Nat) : dcr (prt own r (i + 1)) r = prt own r i := funext fun q => by
  unfold dcr prt
  by_cases e : q = r
  · subst e; simp
  · simp [e]
theorem prt_next (own : Nat → Nat) (r : Nat) : prt own r (own r) = prt own (r + 1) 0 := funext fun q => by
  unfold prt
  by_cases h : q < r
  · rw [if_pos h, if_pos (by omega)]
  · rw [if_neg h]
    by_cases e : q = r
    · subst e; rw [if_pos rfl, if_pos (by omega)]
    · rw [if_neg e, if_neg (by omega)]
      by_cases e2 : q = r + 1
      · rw [if_pos e2]
      · rw [if_neg e2]
theorem ways24 {N n r o g0 : Nat} {own : Nat → Nat} (hr : r < n) (ho : own r = o) (K : Int32 → Int32 → Int32 → Option Int32) (h8 : g0 + o ≤ 8) (hs : ∀ i, i ≤ o → sumQ (prt own r i) 0 n = g0 + i) : ∀ (m i fuel : Nat), i + m = o → m < fuel → fX1_countWays_L24 N (nI o) K fuel (nI (cW n (g0 + i) (prt own r i))) (nI (g0 + i)) (nI (i + 1)) = K (nI (cW n (g0 + o) (prt own r o))) (nI (g0 + o)) (nI (o + 1))
  | 0, i, 0, e, hf => absurd hf (by omega)
  | m + 1, i, 0, e, hf => absurd hf (by omega)
  | 0, i, fuel + 1, e, hf => by
    obtain rfl : i = o := by omega
    rw [fX1_countWays_L24, if_pos (nI_lt (by omega) (by omega))]
  | m + 1, i, fuel + 1, e, hf => by
    have hb := cW_le (hs i (by omega)) (by omega)
    have hb2 : cW n (g0 + i) (prt own r i) * (g0 + i + 1) ≤ 40320 * 8 := Nat.mul_le_mul hb (by omega)
    have hst := cW_step (n := n) (m := g0 + i) (r := r) (give := prt own r (i + 1)) hr (by rw [prt_s]; omega) (by rw [hs (i + 1) (by omega)]; omega)
    rw [prt_dcr, prt_s] at hst
    rw [fX1_countWays_L24, if_neg (nI_nlt (by omega) (by omega)), if_neg (nI_ne0 (by omega) (by omega)), nI_1 (g0 + i), nI_1 (i + 1), pk_mul, pk_div (by omega) (by omega) (by omega), hst, show g0 + i + 1 = g0 + (i + 1) by omega]
    exact ways24 hr ho K h8 hs m (i + 1) fuel (by omega) (by omega)
theorem sum_prt {own : Nat → Nat} {r i : Nat} : ∀ n, r < n → sumQ (prt own r i) 0 n = sumQ own 0 r + i
  | 0, h => absurd h (by omega)
  | n + 1, h => by
    rw [sumQ, Nat.zero_add]
    by_cases e : r = n
    · subst e
      rw [prt_s, sumQ_congr (f := prt own r i) (g := own) r (fun q _ hq => by unfold prt; rw [if_pos (by omega)])]
    · rw [sum_prt n (by omega)]
      have : prt own r i n = 0 := by unfold prt; rw [if_neg (by omega), if_neg (by omega)]
      rw [this, Nat.add_zero]
theorem ways6 {N n k : Nat} {ro : Nat → Int32} {own : Nat → Nat} (hN : 70000 ≤ N) (hn : n ≤ 4) (hk : k ≤ 8) (ho : ∀ r, own r = cnR ro (nI r) 0 k) (hS : sumQ own 0 n = k) : ∀ (m r fuel : Nat), r + m = n → m < fuel → fX1_countWays_L6 N (nI n) (nI k) ro fuel (nI (cW n (sumQ own 0 r) (prt own r 0))) (nI (sumQ own 0 r)) (nI r) = some (nI (cW n k (prt own n 0)))
  | 0, r, 0, e, hf => absurd hf (by omega)
  | m + 1, r, 0, e, hf => absurd hf (by omega)
  | 0, r, fuel + 1, e, hf => by
    obtain rfl : r = n := by omega
    rw [fX1_countWays_L6, if_pos (nI_le (Nat.le_refl r) (by omega)), hS]
  | m + 1, r, fuel + 1, e, hf => by
    have hc := cnX_spec (N := N) (k := k) (by omega) (nI r) ro k 0 N 0 (by omega) (by omega)
    rw [Nat.zero_add, ← ho r] at hc
    have hsum : sumQ own 0 r + own r ≤ 8 := by
      have h1 := sumQ_append own 0 (r + 1) (n - (r + 1))
      rw [show r + 1 + (n - (r + 1)) = n by omega, sumQ, Nat.zero_add] at h1
      omega
    rw [fX1_countWays_L6, if_neg (nI_ge (by omega) (by omega)), show fX1_ridesBy N (nI r) (nI k) ro = _ from hc, ob1_some]
    have h24 := ways24 (N := N) (n := n) (r := r) (o := own r) (g0 := sumQ own 0 r) (own := own) (by omega) rfl (fun (x1_5 : Int32) (x2_5 : Int32) (x5_5 : Int32) => fX1_countWays_L6 N (nI n) (nI k) ro fuel x1_5 x2_5 (nI r + 1)) hsum (fun i hi => sum_prt n (by omega)) (own r) 0 N (by omega) (by omega)
    refine Eq.trans h24 ?_
    show fX1_countWays_L6 N (nI n) (nI k) ro fuel (nI (cW n (sumQ own 0 r + own r) (prt own r (own r)))) (nI (sumQ own 0 r + own r)) (nI r + 1) = _
    have ih := ways6 (N := N) hN hn hk ho hS m (r + 1) fuel (by omega) (by omega)
    rw [sumQ, Nat.zero_add] at ih
    rw [nI_1, prt_next]
    exact ih
theorem sum_ind {r0 : Nat} : ∀ n, n < 2 ^ 31 → r0 < 2 ^ 31 → sumQ (fun r => if nI r0 = nI r then 1 else 0) 0 n = if r0 < n then 1 else 0
  | 0, _, _ => by rw [sumQ, if_neg (by omega)]
  | n + 1, h, h0 => by
    rw [sumQ, Nat.zero_add, sum_ind n (by omega) h0]
    by_cases e : r0 = n
    · subst e; rw [if_neg (by omega), if_pos rfl, if_pos (by omega)]
    · rw [if_neg (fun q => e ((nI_eq (by omega) (by omega)).mp q)), Nat.add_zero]
      by_cases q : r0 < n
      · rw [if_pos q, if_pos (by omega)]
      · rw [if_neg q, if_neg (by omega)]
theorem sum_own {n k : Nat} {ro : Nat → Int32} (hn : n ≤ 4) (h : ∀ i, i < k → ∃ r, r < n ∧ ro i = nI r) : ∀ (m i : Nat), i + m = k → sumQ (fun r => cnR ro (nI r) i m) 0 n = m
  | 0, i, _ => sumQ_zero n (fun q _ _ => by rw [cnR])
  | m + 1, i, e => by
    obtain ⟨r0, h1, h2⟩ := h i (by omega)
    have : sumQ (fun r => cnR ro (nI r) i (m + 1)) 0 n = sumQ (fun r => (if nI r0 = nI r then 1 else 0) + cnR ro (nI r) (i + 1) m) 0 n := sumQ_congr n (fun r _ _ => by rw [cnR, h2])
    rw [this, sumQ_addf, sum_ind n (by omega) (by omega), if_pos h1, sum_own hn h m (i + 1) (by omega)]
    omega
