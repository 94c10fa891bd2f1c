/-! luck and ways: sums over all ways to deal -/
theorem sumQ_append (f : Nat → Nat) (a m : Nat) : ∀ m', sumQ f a (m + m') = sumQ f a m + sumQ f (a + m) m'
  | 0 => by rw [Nat.add_zero, sumQ, Nat.add_zero]
  | m' + 1 => by
    rw [show m + (m' + 1) = (m + m') + 1 by omega, sumQ, sumQ_append f a m m', sumQ, show a + (m + m') = a + m + m' by omega]
    omega
theorem sumQ_shift (f : Nat → Nat) (a : Nat) : ∀ m, sumQ f a m = sumQ (fun x => f (a + x)) 0 m
  | 0 => rfl
  | m + 1 => by rw [sumQ, sumQ, sumQ_shift f a m, Nat.zero_add]
theorem sumQ_addf (f g : Nat → Nat) (a : Nat) : ∀ m, sumQ (fun x => f x + g x) a m = sumQ f a m + sumQ g a m
  | 0 => rfl
  | m + 1 => by rw [sumQ, sumQ, sumQ, sumQ_addf f g a m]; omega
theorem sumQ_zero {f : Nat → Nat} {a : Nat} : ∀ m, (∀ q, a ≤ q → q < a + m → f q = 0) → sumQ f a m = 0
  | 0, _ => rfl
  | m + 1, h => by rw [sumQ, sumQ_zero m (fun q h1 h2 => h q h1 (by omega)), h (a + m) (by omega) (by omega)]
theorem sumQ_mulf (f : Nat → Nat) (c a : Nat) : ∀ m, sumQ f a m * c = sumQ (fun x => f x * c) a m
  | 0 => by rw [sumQ, sumQ, Nat.zero_mul]
  | m + 1 => by rw [sumQ, sumQ, Nat.add_mul, sumQ_mulf f c a m]
theorem digit_sum {n : Nat} (hn : 0 < n) (f : Nat → Nat → Nat) : ∀ M, sumQ (fun x => f (x % n) (x / n)) 0 (M * n) = sumQ (fun r => sumQ (f r) 0 M) 0 n
  | 0 => by
    rw [Nat.zero_mul, sumQ]
    exact (sumQ_zero n (fun q _ _ => rfl)).symm
  | M + 1 => by
    rw [Nat.succ_mul, sumQ_append, digit_sum hn f M, Nat.zero_add, sumQ_shift _ (M * n) n]
    have e : sumQ (fun r => sumQ (f r) 0 (M + 1)) 0 n = sumQ (fun r => sumQ (f r) 0 M + f r M) 0 n := sumQ_congr n (fun q _ _ => by rw [sumQ, Nat.zero_add])
    rw [e, sumQ_addf]
    congr 1
    refine sumQ_congr n (fun q _ hq => ?_)
    show f ((M * n + q) % n) ((M * n + q) / n) = f q M
    rw [Nat.add_comm (M * n) q, Nat.add_mul_mod_self_right, Nat.mod_eq_of_lt (by omega), Nat.add_mul_div_right _ _ hn, Nat.div_eq_of_lt (by omega), Nat.zero_add]
def dcr (give : Nat → Nat) (r : Nat) : Nat → Nat := fun q => if q = r then give q - 1 else give q
theorem dcr_s (give : Nat → Nat) (r : Nat) : dcr give r r = give r - 1 := if_pos rfl
theorem dcr_n {give : Nat → Nat} {r q : Nat} (h : q ≠ r) : dcr give r q = give q := if_neg h
theorem dcr_le (give : Nat → Nat) (r q : Nat) : dcr give r q ≤ give q := by
  unfold dcr
  by_cases h : q = r
  · rw [if_pos h]; omega
  · rw [if_neg h]; exact Nat.le_refl _
/-- in how many ways to give the rides from i on the leaf is reached -/
def wx (n : Nat) (so : Nat → Int32) (leaf : (Nat → Int32) → (Nat → Int32) → Nat) : Nat → Nat → (Nat → Nat) → (Nat → Int32) → (Nat → Int32) → Nat
  | 0, _, _, b, c => leaf b c
  | m + 1, i, give, b, c => sumQ (fun r => if give r = 0 then 0 else wx n so leaf m (i + 1) (dcr give r) (addB b c r (so i)) (addC b c r (so i))) 0 n
/-- the same for one number whose digits say who is given what -/
def lvF (n : Nat) (so : Nat → Int32) (leaf : (Nat → Int32) → (Nat → Int32) → Nat) : Nat → Nat → (Nat → Nat) → (Nat → Int32) → (Nat → Int32) → Nat → Nat
  | 0, _, _, b, c, _ => leaf b c
  | m + 1, i, give, b, c, x => if give (x % n) = 0 then 0 else lvF n so leaf m (i + 1) (dcr give (x % n)) (addB b c (x % n) (so i)) (addC b c (x % n) (so i)) (x / n)
theorem lv_sum {n : Nat} (hn : 0 < n) (so : Nat → Int32) (leaf : (Nat → Int32) → (Nat → Int32) → Nat) : ∀ (m i : Nat) (give : Nat → Nat) (b c : Nat → Int32), sumQ (lvF n so leaf m i give b c) 0 (n ^ m) = wx n so leaf m i give b c
  | 0, i, give, b, c => by
    rw [Nat.pow_zero, sumQ, sumQ, Nat.zero_add, wx, lvF]
  | m + 1, i, give, b, c => by
    have h := digit_sum hn (fun r y => if give r = 0 then 0 else lvF n so leaf m (i + 1) (dcr give r) (addB b c r (so i)) (addC b c r (so i)) y) (n ^ m)
    rw [Nat.pow_succ, wx]
    refine Eq.trans ?_ (Eq.trans h ?_)
    · exact sumQ_congr _ (fun q _ _ => by rw [lvF])
    · refine sumQ_congr _ (fun r _ _ => ?_)
      by_cases c0 : give r = 0
      · simp only [if_pos c0]
        exact sumQ_zero _ (fun _ _ _ => rfl)
      · simp only [if_neg c0]
        exact lv_sum hn so leaf m (i + 1) (dcr give r) _ _
/-! the class -/
theorem resT (tg : Nat → Int32) (r : Nat) : upd (upd tg r (tg r - 1)) r (upd tg r (tg r - 1) r + 1) = tg := funext fun q => by
  by_cases e : q = r
  · subst e; rw [pk_us, pk_us, Int32.sub_add_cancel]
  · rw [pk_un e, pk_un e]
theorem winsL {N n k i j m : Nat} {leaf : (Nat → Int32) → (Nat → Int32) → Nat} {so faults : Nat → Int32} (hn : n ≤ 4) (hi : i < 8) {rc : Int32 → Int32 → Int32 → Int32 → (Nat → Int32) → (Nat → Int32) → Int32 → (Nat → Int32) → (Nat → Int32) → (Nat → Int32) → Option (Int32 × (Nat → Int32) × (Nat → Int32) × (Nat → Int32))}
    (hrc : ∀ (give : Nat → Nat) (tg b c : Nat → Int32), (∀ r, r < n → tg r = nI (give r) ∧ give r ≤ 8) → rc (nI (i + 1)) (nI j) (nI n) (nI k) so tg (nI n) b c faults = some (nI (wx n so leaf m (i + 1) give b c), tg, b, c))
    (give : Nat → Nat) (tg b c : Nat → Int32) (hg : ∀ r, r < n → tg r = nI (give r) ∧ give r ≤ 8) :
    ∀ (mm r fuel acc : Nat), r + mm = n → mm < fuel → fX1_winsFrom_L36 N rc (nI i) (nI j) (nI n) (nI k) so (nI n) faults fuel (nI acc) (nI r) tg b c = some (nI (acc + sumQ (fun r => if give r = 0 then 0 else wx n so leaf m (i + 1) (dcr give r) (addB b c r (so i)) (addC b c r (so i))) r mm), tg, b, c)
  | 0, r, 0, acc, e, hf => absurd hf (by omega)
  | mm + 1, r, 0, acc, e, hf => absurd hf (by omega)
  | 0, r, fuel + 1, acc, e, hf => by
    rw [fX1_winsFrom_L36, if_pos (nI_le (by omega) (by omega)), sumQ, Nat.add_zero]
  | mm + 1, r, fuel + 1, acc, e, hf => by
    obtain ⟨h1, h2⟩ := hg r (by omega)
    have ih := fun a => winsL (N := N) (so := so) hn hi hrc give tg b c hg mm (r + 1) fuel a (by omega) (by omega)
    rw [fX1_winsFrom_L36, if_neg (nI_ge (by omega) (by omega)), if_neg (bnd (by omega) (by omega)), nI_clamp (n := r) (by omega), nI_1 r, nI_1 i, sumQ_front, ← Nat.add_assoc]
    by_cases q : give r = 0
    · rw [if_pos (show tg r ≤ 0 by rw [h1, q]; decide), if_pos q, Nat.add_zero]
      exact ih acc
    · rw [if_neg (show ¬ tg r ≤ 0 by rw [h1]; exact nI_nle (by omega) (by omega)), if_neg q, if_neg (bnd (i := i) (n := 30) (by omega) (by omega)), nI_clamp (n := i) (by omega), addScore_spec (by omega), ob2_some, hrc (dcr give r) (upd tg r (tg r - 1)) _ _ (fun p hp => ?_), ob4_some]
      · unfold fX0_setScores
        rw [if_neg (bnd (i := r) (n := 4) (by omega) (by omega)), nI_clamp (n := r) (by omega), ob2_some, resB, resC, resT, nI_add]
        exact ih _
      · by_cases e2 : p = r
        · subst e2
          rw [pk_us, dcr_s, h1]
          obtain ⟨g0, hg0⟩ : ∃ g0, give p = g0 + 1 := ⟨give p - 1, by omega⟩
          rw [hg0, nI_pred, Nat.add_sub_cancel]
          exact ⟨rfl, by omega⟩
        · rw [pk_un e2, dcr_n e2]; exact hg p hp
def lfX (N j n : Nat) (faults b c : Nat → Int32) : Nat := if fX0_placeOf N (nI j) (nI n) b c faults = some 0 then 1 else 0
theorem lfX_place {N j n : Nat} {faults b c : Nat → Int32} {r : Int32} (h : fX0_placeOf N (nI j) (nI n) b c faults = some r) : (r = 0 → lfX N j n faults b c = 1) ∧ (¬ r = 0 → lfX N j n faults b c = 0) := by
  unfold lfX
  rw [h]
  refine ⟨fun e => by rw [e, if_pos rfl], fun e => by rw [if_neg (fun q => e (Option.some.inj q))]⟩
theorem winsX {N n k j : Nat} {so faults : Nat → Int32} (hN : 70000 ≤ N) (hn : n ≤ 4) (hk : k ≤ 8) (hj : j < n) : ∀ (m i d : Nat) (give : Nat → Nat) (tg b c : Nat → Int32), i + m = k → m < d → (∀ r, r < n → tg r = nI (give r) ∧ give r ≤ 8) →
    fX1_winsFrom N d (nI i) (nI j) (nI n) (nI k) so tg (nI n) b c faults = some (nI (wx n so (lfX N j n faults) m i give b c), tg, b, c)
  | 0, i, 0, _, _, _, _, e, hd, _ => absurd hd (by omega)
  | m + 1, i, 0, _, _, _, _, e, hd, _ => absurd hd (by omega)
  | 0, i, d + 1, give, tg, b, c, e, hd, hg => by
    obtain ⟨r, p1, -⟩ := place_joint (N := N) hn hj b c faults b (totS b c faults) (fun _ _ => rfl) (fun _ _ => rfl) n 0 N 0 (by omega) (by omega)
    have p0 : fX0_placeOf N (nI j) (nI n) b c faults = some r := p1
    obtain ⟨l1, l2⟩ := lfX_place p0
    rw [fX1_winsFrom, if_pos (nI_le (by omega) (by omega)), p0, ob1_some, wx]
    by_cases q : r = 0
    · rw [if_pos q, l1 q]; rfl
    · rw [if_neg q, l2 q]; rfl
  | m + 1, i, d + 1, give, tg, b, c, e, hd, hg => by
    rw [fX1_winsFrom, if_neg (nI_ge (by omega) (by omega)), if_pos (show nI i < 8 from nI_lt (b := 8) (by omega) (by omega))]
    have h := winsL (N := N) (n := n) (k := k) (i := i) (j := j) (m := m) (leaf := lfX N j n faults) (so := so) (faults := faults) (rc := fX1_winsFrom N d) hn (by omega) (fun give' tg' b' c' hg' => winsX hN hn hk hj m (i + 1) d give' tg' b' c' (by omega) (by omega) hg') give tg b c hg n 0 N 0 (by omega) (by omega)
    rw [Nat.zero_add] at h
    rw [wx]
    exact h
/-- how many of the rides from i on are a rider's -/
def cnR (ro : Nat → Int32) (x : Int32) : Nat → Nat → Nat
  | _, 0 => 0
  | i, m + 1 => (if ro i = x then 1 else 0) + cnR ro x (i + 1) m
theorem cnR_le (ro : Nat → Int32) (x : Int32) : ∀ m i, cnR ro x i m ≤ m
  | 0, i => Nat.le_refl 0
  | m + 1, i => by
    have := cnR_le ro x m (i + 1)
    rw [cnR]
    by_cases q : ro i = x
    · rw [if_pos q]; omega
    · rw [if_neg q]; omega
theorem cnX_spec {N k : Nat} (hk : k ≤ 30) (x : Int32) (ro : Nat → Int32) : ∀ (m i fuel a : Nat), i + m = k → m < fuel → fX1_ridesBy_L4 N x (nI k) ro fuel (nI a) (nI i) = some (nI (a + cnR ro x i m))
  | 0, i, 0, _, e, hf => absurd hf (by omega)
  | m + 1, i, 0, _, e, hf => absurd hf (by omega)
  | 0, i, fuel + 1, a, e, hf => by rw [fX1_ridesBy_L4, if_pos (nI_le (by omega) (by omega)), cnR, Nat.add_zero]
  | m + 1, i, fuel + 1, a, e, hf => by
    rw [fX1_ridesBy_L4, if_neg (nI_ge (by omega) (by omega)), if_neg (bnd (by omega) (by omega)), nI_clamp (n := i) (by omega), nI_1 i, cnR, ← Nat.add_assoc]
    by_cases q : ro i = x
    · rw [if_pos q, if_pos q, nI_1 a]; exact cnX_spec hk x ro m (i + 1) fuel (a + 1) (by omega) (by omega)
    · rw [if_neg q, if_neg q, Nat.add_zero]; exact cnX_spec hk x ro m (i + 1) fuel a (by omega) (by omega)
theorem cnM_spec {N k : Nat} (hk : k ≤ 30) (x : Int32) (ro ro' : Nat → Int32) (h : ∀ i, i < k → ro' i = ro i) : ∀ (m i fuel a : Nat), i + m = k → m < fuel → fX7_ridesOf_L4 N x (nI k) ro' fuel (nI a) (nI i) = some (nI (a + cnR ro x i m))
  | 0, i, 0, _, e, hf => absurd hf (by omega)
  | m + 1, i, 0, _, e, hf => absurd hf (by omega)
  | 0, i, fuel + 1, a, e, hf => by rw [fX7_ridesOf_L4, if_pos (nI_le (by omega) (by omega)), cnR, Nat.add_zero]
  | m + 1, i, fuel + 1, a, e, hf => by
    rw [fX7_ridesOf_L4, if_neg (nI_ge (by omega) (by omega)), if_neg (bnd (by omega) (by omega)), nI_clamp (n := i) (by omega), nI_1 i, cnR, ← Nat.add_assoc, h i (by omega), Int32.add_zero]
    by_cases q : ro i = x
    · rw [if_pos q, if_pos q, nI_1 a]; exact cnM_spec hk x ro ro' h m (i + 1) fuel (a + 1) (by omega) (by omega)
    · rw [if_neg q, if_neg q, Nat.add_zero]; exact cnM_spec hk x ro ro' h m (i + 1) fuel a (by omega) (by omega)
theorem giveX {N n k : Nat} (hN : 70000 ≤ N) (hn : n ≤ 4) (hk : k ≤ 30) (ro : Nat → Int32) (K : Int32 → (Nat → Int32) → Option (Int32 × (Nat → Int32) × (Nat → Int32) × (Nat → Int32))) : ∀ (m i fuel : Nat) (tg : Nat → Int32), i + m = n → m < fuel → (∀ r, r < i → tg r = nI (cnR ro (nI r) 0 k)) → ∃ tg' : Nat → Int32, fX1_countLuck_L9 N (nI n) (nI k) ro K fuel (nI i) tg = K (nI n) tg' ∧ ∀ r, r < n → tg' r = nI (cnR ro (nI r) 0 k)
  | 0, i, 0, _, e, hf, _ => absurd hf (by omega)
  | m + 1, i, 0, _, e, hf, _ => absurd hf (by omega)
  | 0, i, fuel + 1, tg, e, hf, h => by
    obtain rfl : i = n := by omega
    exact ⟨tg, by rw [fX1_countLuck_L9, if_pos (nI_le (Nat.le_refl i) (by omega))], h⟩
  | m + 1, i, fuel + 1, tg, e, hf, h => by
    have hc := cnX_spec (N := N) hk (nI i) ro k 0 N 0 (by omega) (by omega)
    rw [Nat.zero_add] at hc
    rw [fX1_countLuck_L9, if_neg (nI_ge (by omega) (by omega)), show fX1_ridesBy N (nI i) (nI k) ro = _ from hc, ob1_some, if_neg (bnd (by omega) (by omega)), nI_clamp (n := i) (by omega), nI_1]
    refine giveX hN hn hk ro K m (i + 1) fuel _ (by omega) (by omega) (fun r hr => ?_)
    by_cases c : r = i
    · subst c; rw [pk_us]
    · rw [pk_un c]; exact h r (by omega)
theorem luckX {N n k j : Nat} {ro so faults tg b c : Nat → Int32} (hN : 70000 ≤ N) (hn : n ≤ 4) (hk : k ≤ 8) (hj : j < n) : ∃ tg' d e : Nat → Int32, (∀ r, r < 4 → d r = 0 ∧ e r = 0) ∧ fX1_countLuck N (nI j) (nI n) (nI k) ro so tg (nI n) b c faults = some (nI (wx n so (lfX N j n faults) k 0 (fun r => cnR ro (nI r) 0 k) d e), tg', d, e) := by
  obtain ⟨d, e, g1, g2⟩ := clearX (N := N) 4 0 N b c (by omega) (by omega) (fun r hr => absurd hr (by omega))
  obtain ⟨tg', t1, t2⟩ := giveX (N := N) (k := k) hN hn (by omega) ro (fun (x2_5 : Int32) (v_toGive_5 : Nat → Int32) =>
    ob4 (fX1_winsFrom N 9 0 (nI j) (nI n) (nI k) so v_toGive_5 (nI n) d e faults) (fun r_6 o_6_toGive o_6_board_best o_6_board_second =>
  some (r_6, o_6_toGive, o_6_board_best, o_6_board_second))) n 0 N tg (by omega) (by omega) (fun r hr => absurd hr (by omega))
  have w := winsX (N := N) (k := k) (so := so) (faults := faults) hN hn hk hj k 0 9 (fun r => cnR ro (nI r) 0 k) tg' d e (by omega) (by omega) (fun r hr => ⟨t2 r hr, Nat.le_trans (cnR_le ro (nI r) k 0) hk⟩)
  refine ⟨tg', d, e, g2, ?_⟩
  unfold fX1_countLuck
  rw [show fX0_clearScores N b c = some (d, e) from g1, ob2_some]
  refine Eq.trans t1 ?_
  show ob4 (fX1_winsFrom N 9 0 (nI j) (nI n) (nI k) so tg' (nI n) d e faults) _ = _
  rw [show fX1_winsFrom N 9 0 (nI j) (nI n) (nI k) so tg' (nI n) d e faults = _ from w, ob4_some]
