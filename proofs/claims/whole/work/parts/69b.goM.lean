/-! the reference goes through all numbers -/
def fitB (n : Nat) : Nat → (Nat → Nat) → Nat → Bool
  | 0, _, _ => true
  | m + 1, give, x => if give (x % n) = 0 then false else fitB n m (dcr give (x % n)) (x / n)
def talF (n : Nat) (so : Nat → Int32) : Nat → Nat → (Nat → Int32) → (Nat → Int32) → Nat → (Nat → Int32) × (Nat → Int32)
  | 0, _, b, c, _ => (b, c)
  | m + 1, i, b, c, x => talF n so m (i + 1) (addB b c (x % n) (so i)) (addC b c (x % n) (so i)) (x / n)
theorem lv_fit (n : Nat) (so : Nat → Int32) (leaf : (Nat → Int32) → (Nat → Int32) → Nat) : ∀ (m i : Nat) (give : Nat → Nat) (b c : Nat → Int32) (x : Nat), lvF n so leaf m i give b c x = if fitB n m give x = true then leaf (talF n so m i b c x).1 (talF n so m i b c x).2 else 0
  | 0, i, give, b, c, x => by rw [lvF, fitB, talF, if_pos rfl]
  | m + 1, i, give, b, c, x => by
    rw [lvF, fitB, talF]
    by_cases q : give (x % n) = 0
    · rw [if_pos q, if_pos q, if_neg (by decide)]
    · rw [if_neg q, if_neg q]; exact lv_fit n so leaf m (i + 1) _ _ _ _
def dgt (n : Nat) : Nat → Nat → Nat
  | x, 0 => x % n
  | x, q + 1 => dgt n (x / n) q
theorem dead105 {N n k : Nat} (hn0 : 0 < n) (hn : n ≤ 4) (hk : k ≤ 8) : ∀ (m i x fuel : Nat) (G H : Nat → Int32), i + m = k → m < fuel → x < 2 ^ 31 → ∃ (x' : Int32) (G' H' : Nat → Int32), ∀ K, fX7_goThrough_L105 N (nI n) (nI k) K fuel (nI x) 0 (nI i) G H = K x' 0 (nI k) G' H'
  | 0, i, x, 0, _, _, e, hf, _ => absurd hf (by omega)
  | m + 1, i, x, 0, _, _, e, hf, _ => absurd hf (by omega)
  | 0, i, x, fuel + 1, G, H, e, hf, hx => by
    obtain rfl : i = k := by omega
    exact ⟨nI x, G, H, fun K => by rw [fX7_goThrough_L105, if_pos (nI_le (Nat.le_refl i) (by omega))]⟩
  | m + 1, i, x, fuel + 1, G, H, e, hf, hx => by
    have hd : x % n < n := Nat.mod_lt x hn0
    obtain ⟨x', G', H', h⟩ := dead105 (N := N) hn0 hn hk m (i + 1) (x / n) fuel (upd G i (nI (x % n))) (upd H (x % n) (H (x % n) - 1)) (by omega) (by omega) (Nat.lt_of_le_of_lt (Nat.div_le_self x n) hx)
    refine ⟨x', G', H', fun K => ?_⟩
    rw [fX7_goThrough_L105, if_neg (nI_ge (by omega) (by omega)), if_neg (nI_ne0 hn0 (by omega)), if_neg (bnd (by omega) (by omega)), nI_clamp (n := i) (by omega), pk_rem hx hn0 (by omega), pk_us, if_neg (bnd (by omega) (by omega)), if_pos rfl, nI_clamp (n := x % n) (by omega), pk_div hx hn0 (by omega), nI_1]
    exact h K
theorem live105 {N n k : Nat} (hn0 : 0 < n) (hn : n ≤ 4) (hk : k ≤ 8) : ∀ (m i x fuel : Nat) (give : Nat → Nat) (G H : Nat → Int32), i + m = k → m < fuel → x < 2 ^ 31 → (∀ r, r < n → H r = nI (give r) ∧ give r ≤ 8) → ∃ (x' : Int32) (G' H' : Nat → Int32), (∀ K, fX7_goThrough_L105 N (nI n) (nI k) K fuel (nI x) 1 (nI i) G H = K x' (if fitB n m give x = true then 1 else 0) (nI k) G' H') ∧ (fitB n m give x = true → (∀ q, q < i → G' q = G q) ∧ ∀ q, q < m → G' (i + q) = nI (dgt n x q))
  | 0, i, x, 0, _, _, _, e, hf, _, _ => absurd hf (by omega)
  | m + 1, i, x, 0, _, _, _, e, hf, _, _ => absurd hf (by omega)
  | 0, i, x, fuel + 1, give, G, H, e, hf, hx, hg => by
    obtain rfl : i = k := by omega
    exact ⟨nI x, G, H, fun K => by rw [fX7_goThrough_L105, if_pos (nI_le (Nat.le_refl i) (by omega)), fitB, if_pos rfl], fun _ => ⟨fun _ _ => rfl, fun q hq => absurd hq (by omega)⟩⟩
  | m + 1, i, x, fuel + 1, give, G, H, e, hf, hx, hg => by
    have hd : x % n < n := Nat.mod_lt x hn0
    have hx2 : x / n < 2 ^ 31 := Nat.lt_of_le_of_lt (Nat.div_le_self x n) hx
    obtain ⟨g1, g2⟩ := hg (x % n) hd
    have hstep : ∀ K, fX7_goThrough_L105 N (nI n) (nI k) K (fuel + 1) (nI x) 1 (nI i) G H = if (H (x % n) - 1) < 0 then fX7_goThrough_L105 N (nI n) (nI k) K fuel (nI (x / n)) 0 (nI (i + 1)) (upd G i (nI (x % n))) (upd H (x % n) (H (x % n) - 1)) else fX7_goThrough_L105 N (nI n) (nI k) K fuel (nI (x / n)) 1 (nI (i + 1)) (upd G i (nI (x % n))) (upd H (x % n) (H (x % n) - 1)) := fun K => by
      rw [fX7_goThrough_L105, if_neg (nI_ge (by omega) (by omega)), if_neg (nI_ne0 hn0 (by omega)), if_neg (bnd (by omega) (by omega)), nI_clamp (n := i) (by omega), pk_rem hx hn0 (by omega), pk_us, if_neg (bnd (by omega) (by omega)), if_neg (show ¬ (1 : Int32) = 0 by decide), nI_clamp (n := x % n) (by omega), pk_us, pk_div hx hn0 (by omega), nI_1]
    by_cases q : give (x % n) = 0
    · obtain ⟨x', G', H', h⟩ := dead105 (N := N) hn0 hn hk m (i + 1) (x / n) fuel (upd G i (nI (x % n))) (upd H (x % n) (H (x % n) - 1)) (by omega) (by omega) hx2
      have hf0 : fitB n (m + 1) give x = false := by rw [fitB, if_pos q]
      refine ⟨x', G', H', fun K => ?_, fun h0 => by rw [hf0] at h0; exact absurd h0 (by decide)⟩
      rw [hstep, if_pos (by rw [g1, q]; decide), h K, hf0, if_neg (by decide)]
    · obtain ⟨x', G', H', h, h2⟩ := live105 (N := N) hn0 hn hk m (i + 1) (x / n) fuel (dcr give (x % n)) (upd G i (nI (x % n))) (upd H (x % n) (H (x % n) - 1)) (by omega) (by omega) hx2 (fun r hr => by
        by_cases e2 : r = x % n
        · rw [e2, pk_us, dcr_s, g1]
          obtain ⟨g0, hg0⟩ : ∃ g0, give (x % n) = g0 + 1 := ⟨give (x % n) - 1, by omega⟩
          rw [hg0, nI_pred, Nat.add_sub_cancel]
          exact ⟨rfl, by omega⟩
        · rw [pk_un e2, dcr_n e2]; exact hg r hr)
      have hf0 : fitB n (m + 1) give x = fitB n m (dcr give (x % n)) (x / n) := by rw [fitB, if_neg q]
      refine ⟨x', G', H', fun K => ?_, fun h0 => ?_⟩
      · rw [hstep, if_neg (by
          rw [g1]
          obtain ⟨g0, hg0⟩ : ∃ g0, give (x % n) = g0 + 1 := ⟨give (x % n) - 1, by omega⟩
          rw [hg0, nI_pred]
          exact nI_pos (by omega)), h K, hf0]
      · rw [hf0] at h0
        obtain ⟨h3, h4⟩ := h2 h0
        refine ⟨fun p hp => by rw [h3 p (by omega), pk_un (by omega)], fun p hp => ?_⟩
        cases p with
        | zero => rw [Nat.add_zero, h3 i (by omega), pk_us, dgt]
        | succ p => rw [show i + (p + 1) = i + 1 + p by omega, h4 p (by omega), dgt]
theorem copy70 {N n : Nat} (hn : n ≤ 4) (own : Nat → Int32) : ∀ (m i fuel : Nat) (H : Nat → Int32), i + m = n → m < fuel → (∀ r, r < i → H r = own r) → ∃ H' : Nat → Int32, (∀ K, fX7_goThrough_L70 N (nI n) own K fuel (nI i) H = K (nI n) H') ∧ ∀ r, r < n → H' r = own r
  | 0, i, 0, _, e, hf, _ => absurd hf (by omega)
  | m + 1, i, 0, _, e, hf, _ => absurd hf (by omega)
  | 0, i, fuel + 1, H, e, hf, h => by
    obtain rfl : i = n := by omega
    exact ⟨H, fun K => by rw [fX7_goThrough_L70, if_pos (nI_le (Nat.le_refl i) (by omega))], h⟩
  | m + 1, i, fuel + 1, H, e, hf, h => by
    obtain ⟨H', h1, h2⟩ := copy70 (N := N) hn own m (i + 1) fuel (upd H i (own i)) (by omega) (by omega) (fun r hr => by
      by_cases c : r = i
      · subst c; rw [pk_us]
      · rw [pk_un c]; exact h r (by omega))
    refine ⟨H', fun K => ?_, h2⟩
    rw [fX7_goThrough_L70, if_neg (nI_ge (by omega) (by omega)), if_neg (bnd (by omega) (by omega)), nI_clamp (n := i) (by omega), nI_1]
    exact h1 K
theorem winsM6 {N n k : Nat} (hn0 : 0 < n) (hn : n ≤ 4) (hk : k ≤ 8) (so marks G : Nat → Int32) (hs : ∀ i, i < k → fX7_scoreOf N (nI i) marks = some (so i)) : ∀ (m i x fuel : Nat) (b c b' c' : Nat → Int32), i + m = k → m < fuel → agr n b b' → agr n c c' → (∀ q, q < m → G (i + q) = nI (dgt n x q)) → ∃ d' e' : Nat → Int32, (∀ K, fX7_wins_L6 N (nI k) marks G K fuel (nI i) b' c' = K (nI k) d' e') ∧ agr n (talF n so m i b c x).1 d' ∧ agr n (talF n so m i b c x).2 e'
  | 0, i, x, 0, _, _, _, _, e, hf, _, _, _ => absurd hf (by omega)
  | m + 1, i, x, 0, _, _, _, _, e, hf, _, _, _ => absurd hf (by omega)
  | 0, i, x, fuel + 1, b, c, b', c', e, hf, hb, hc, _ => by
    obtain rfl : i = k := by omega
    exact ⟨b', c', fun K => by rw [fX7_wins_L6, if_pos (nI_le (Nat.le_refl i) (by omega))], hb, hc⟩
  | m + 1, i, x, fuel + 1, b, c, b', c', e, hf, hb, hc, hG => by
    have hd : x % n < n := Nat.mod_lt x hn0
    have g0 := hG 0 (by omega)
    rw [Nat.add_zero, dgt] at g0
    obtain ⟨a1, a2⟩ := agr_add hd hb hc (so i)
    obtain ⟨d', e', h1, h2, h3⟩ := winsM6 hn0 hn hk so marks G hs m (i + 1) (x / n) fuel (addB b c (x % n) (so i)) (addC b c (x % n) (so i)) (addB b' c' (x % n) (so i)) (addC b' c' (x % n) (so i)) (by omega) (by omega) a1 a2 (fun q hq => by
      rw [show i + 1 + q = i + (q + 1) by omega, hG (q + 1) (by omega), dgt])
    refine ⟨d', e', fun K => ?_, h2, h3⟩
    rw [fX7_wins_L6, if_neg (nI_ge (by omega) (by omega)), if_neg (bnd (by omega) (by omega)), hs i (by omega), ob1_some, nI_clamp (n := i) (by omega), g0, counts_spec (by omega), ob2_some, nI_1]
    exact h1 K
theorem winsM_spec {N n k j : Nat} (hN : 70000 ≤ N) (hn0 : 0 < n) (hn : n ≤ 4) (hk : k ≤ 8) (hj : j < n) (so marks faults itf d e : Nat → Int32) (hs : ∀ i, i < k → fX7_scoreOf N (nI i) marks = some (so i)) (hf : ∀ r, r < 4 → itf r = faults r) (hz : ∀ r, r < 4 → d r = 0 ∧ e r = 0) (b' c' t G : Nat → Int32) (x : Nat) (hG : ∀ q, q < k → G q = nI (dgt n x q)) :
    ∃ d' e' t' : Nat → Int32, fX7_wins N (nI j) (nI n) (nI k) marks itf b' c' t G = some (nI (lfX N j n faults (talF n so k 0 d e x).1 (talF n so k 0 d e x).2), d', e', t') := by
  obtain ⟨d0', e0', g3, g4⟩ := clearM (N := N) hn n 0 N b' c' (by omega) (by omega) (fun r hr => absurd hr (by omega))
  obtain ⟨d', e', w1, w2, w3⟩ := winsM6 (N := N) hn0 hn hk so marks G hs k 0 x N d e d0' e0' (by omega) (by omega) (fun r hr => by rw [(g4 r hr).1, (hz r (by omega)).1]) (fun r hr => by rw [(g4 r hr).2, (hz r (by omega)).2]) (fun q hq => by rw [Nat.zero_add]; exact hG q hq)
  obtain ⟨t', g9, -, g10⟩ := totals_spec (N := N) hn itf d' e' n 0 N t (by omega) (by omega)
  obtain ⟨r, p1, p2⟩ := place_joint (N := N) hn hj (talF n so k 0 d e x).1 (talF n so k 0 d e x).2 faults d' t' w2 (fun r hr => by
      rw [g10 r (by omega) hr]; unfold totS; rw [w2 r hr, w3 r hr, hf r (by omega)]) n 0 N 0 (by omega) (by omega)
  obtain ⟨l1, l2⟩ := lfX_place (show fX0_placeOf N (nI j) (nI n) (talF n so k 0 d e x).1 (talF n so k 0 d e x).2 faults = some r from p1)
  refine ⟨d', e', t', ?_⟩
  unfold fX7_wins
  rw [show fX7_clearBest N (nI n) b' c' = some (d0', e0') from g3, ob2_some]
  refine Eq.trans (w1 _) ?_
  show ob1 (fX7_findTotals N (nI n) itf d' e' t) _ = _
  rw [show fX7_findTotals N (nI n) itf d' e' t = some t' from g9, ob1_some, show fX7_placeOf N (nI j) (nI n) d' t' = some r from p2, ob1_some]
  by_cases q : r = 0
  · rw [if_pos q, l1 q]; rfl
  · rw [if_neg q, l2 q]; rfl
theorem outer57 {N n k A : Nat} {x1 : Int32} {leaf : (Nat → Int32) → (Nat → Int32) → Nat} {so marks itf own d e : Nat → Int32} {give : Nat → Nat} (hN : 70000 ≤ N) (hn0 : 0 < n) (hn : n ≤ 4) (hk : k ≤ 8) (hA : A < 2 ^ 31)
    (hx : (x1 < 0 ∧ ∀ b c, leaf b c = 1) ∨ (¬ x1 < 0 ∧ (∀ b c, leaf b c = 0 ∨ leaf b c = 1) ∧ ∀ (b' c' t G : Nat → Int32) (x : Nat), (∀ q, q < k → G q = nI (dgt n x q)) → ∃ d' e' t' : Nat → Int32, fX7_wins N x1 (nI n) (nI k) marks itf b' c' t G = some (nI (leaf (talF n so k 0 d e x).1 (talF n so k 0 d e x).2), d', e', t')))
    (ho : ∀ r, r < n → own r = nI (give r) ∧ give r ≤ 8) :
    ∀ (mm x fuel acc : Nat) (b' c' t G H : Nat → Int32), x + mm = A → mm < fuel → ∃ b2 c2 t2 G2 H2 : Nat → Int32, fX7_goThrough_L57 N x1 (nI A) (nI n) (nI k) marks itf own fuel (nI acc) (nI x) b' c' t G H = some (nI (acc + sumQ (lvF n so leaf k 0 give d e) x mm), b2, c2, t2, G2, H2, own)
  | 0, x, 0, acc, _, _, _, _, _, e0, hf => absurd hf (by omega)
  | mm + 1, x, 0, acc, _, _, _, _, _, e0, hf => absurd hf (by omega)
  | 0, x, fuel + 1, acc, b', c', t, G, H, e0, hf => by
    exact ⟨b', c', t, G, H, by rw [fX7_goThrough_L57, if_pos (nI_le (by omega) (by omega)), sumQ, Nat.add_zero]⟩
  | mm + 1, x, fuel + 1, acc, b', c', t, G, H, e0, hf => by
    have ih := fun a b' c' t G H => outer57 (N := N) (so := so) (d := d) (e := e) hN hn0 hn hk hA hx ho mm (x + 1) fuel a b' c' t G H (by omega) (by omega)
    obtain ⟨H1, y1, y2⟩ := copy70 (N := N) hn own n 0 N H (by omega) (by omega) (fun r hr => absurd hr (by omega))
    obtain ⟨x', G1, H2, z1, z2⟩ := live105 (N := N) (k := k) hn0 hn hk k 0 x N give G H1 (by omega) (by omega) (by omega) (fun r hr => by rw [y2 r hr]; exact ho r hr)
    rw [fX7_goThrough_L57, if_neg (nI_ge (by omega) (by omega)), show (0 : Int32) = nI 0 from rfl, y1, z1, nI_1 x, sumQ_front, ← Nat.add_assoc, lv_fit]
    by_cases q : fitB n k give x = true
    · obtain ⟨-, z3⟩ := z2 q
      rw [if_pos q, if_pos q, if_neg (show ¬ (1 : Int32) = nI 0 by decide)]
      rcases hx with ⟨hx1, hx2⟩ | ⟨hx1, hx2, hx3⟩
      · rw [if_pos (show x1 < nI 0 from hx1), hx2, nI_1 acc]
        exact ih _ _ _ _ _ _
      · obtain ⟨d', e', t', w⟩ := hx3 b' c' t G1 x (fun p hp => by have := z3 p hp; rw [Nat.zero_add] at this; exact this)
        rw [if_neg (show ¬ x1 < nI 0 from hx1), w, ob4_some]
        rcases hx2 (talF n so k 0 d e x).1 (talF n so k 0 d e x).2 with l | l
        · rw [l, if_pos rfl, nI_add]; exact ih _ _ _ _ _ _
        · rw [l, if_neg (show ¬ nI 1 = nI 0 by decide), nI_1 acc]; exact ih _ _ _ _ _ _
    · rw [if_neg q, if_neg q, if_pos (show (0 : Int32) = nI 0 from rfl)]
      exact ih _ _ _ _ _ _
theorem pow4 {N n k : Nat} (K : Int32 → Int32 → Option (Int32 × (Nat → Int32) × (Nat → Int32) × (Nat → Int32) × (Nat → Int32) × (Nat → Int32) × (Nat → Int32))) (hk : k ≤ 8) : ∀ (m i fuel : Nat), i + m = k → m < fuel → fX7_goThrough_L4 N (nI n) (nI k) K fuel (nI (n ^ i)) (nI i) = K (nI (n ^ k)) (nI k)
  | 0, i, 0, e, hf => absurd hf (by omega)
  | m + 1, i, 0, e, hf => absurd hf (by omega)
  | 0, i, fuel + 1, e, hf => by
    obtain rfl : i = k := by omega
    rw [fX7_goThrough_L4, if_pos (nI_le (Nat.le_refl i) (by omega))]
  | m + 1, i, fuel + 1, e, hf => by
    rw [fX7_goThrough_L4, if_neg (nI_ge (by omega) (by omega)), pk_mul, ← Nat.pow_succ, nI_1]
    exact pow4 K hk m (i + 1) fuel (by omega) (by omega)
theorem own27 {N n k : Nat} (hN : 70000 ≤ N) (hn : n ≤ 4) (hk : k ≤ 30) (ro ro' : Nat → Int32) (h0 : ∀ i, i < k → ro' i = ro i) : ∀ (m i fuel : Nat) (ow : Nat → Int32), i + m = n → m < fuel → (∀ r, r < i → ow r = nI (cnR ro (nI r) 0 k)) → ∃ ow' : Nat → Int32, (∀ K, fX7_goThrough_L27 N (nI n) (nI k) ro' K fuel (nI i) ow = K (nI n) ow') ∧ ∀ r, r < n → ow' r = nI (cnR ro (nI r) 0 k)
  | 0, i, 0, _, e, hf, _ => absurd hf (by omega)
  | m + 1, i, 0, _, e, hf, _ => absurd hf (by omega)
  | 0, i, fuel + 1, ow, e, hf, h => by
    obtain rfl : i = n := by omega
    exact ⟨ow, fun K => by rw [fX7_goThrough_L27, if_pos (nI_le (Nat.le_refl i) (by omega))], h⟩
  | m + 1, i, fuel + 1, ow, e, hf, h => by
    have hc := cnM_spec (N := N) hk (nI i) ro ro' h0 k 0 N 0 (by omega) (by omega)
    rw [Nat.zero_add] at hc
    obtain ⟨ow', h1, h2⟩ := own27 hN hn hk ro ro' h0 m (i + 1) fuel (upd ow i (nI (cnR ro (nI i) 0 k))) (by omega) (by omega) (fun r hr => by
      by_cases c : r = i
      · subst c; rw [pk_us]
      · rw [pk_un c]; exact h r (by omega))
    refine ⟨ow', fun K => ?_, h2⟩
    rw [fX7_goThrough_L27, if_neg (nI_ge (by omega) (by omega)), show fX7_ridesOf N (nI i) (nI k) ro' = _ from hc, ob1_some, if_neg (bnd (by omega) (by omega)), nI_clamp (n := i) (by omega), nI_1]
    exact h1 K
theorem goM {N n k : Nat} {x1 : Int32} {leaf : (Nat → Int32) → (Nat → Int32) → Nat} {ro ro' so marks itf d e : Nat → Int32} (hN : 70000 ≤ N) (hn0 : 0 < n) (hn : n ≤ 4) (hk : k ≤ 8) (h0 : ∀ i, i < k → ro' i = ro i)
    (hx : (x1 < 0 ∧ ∀ b c, leaf b c = 1) ∨ (¬ x1 < 0 ∧ (∀ b c, leaf b c = 0 ∨ leaf b c = 1) ∧ ∀ (b' c' t G : Nat → Int32) (x : Nat), (∀ q, q < k → G q = nI (dgt n x q)) → ∃ d' e' t' : Nat → Int32, fX7_wins N x1 (nI n) (nI k) marks itf b' c' t G = some (nI (leaf (talF n so k 0 d e x).1 (talF n so k 0 d e x).2), d', e', t'))) (b' c' t G H ow : Nat → Int32) :
    ∃ b2 c2 t2 G2 H2 o2 : Nat → Int32, fX7_goThrough N x1 (nI n) (nI k) ro' marks itf b' c' t G H ow = some (nI (wx n so leaf k 0 (fun r => cnR ro (nI r) 0 k) d e), b2, c2, t2, G2, H2, o2) := by
  have hA : n ^ k ≤ 4 ^ 8 := Nat.le_trans (Nat.pow_le_pow_left hn k) (Nat.pow_le_pow_right (by omega) hk)
  have hA2 : (4 : Nat) ^ 8 = 65536 := by decide
  obtain ⟨o2, w1, w2⟩ := own27 (N := N) hN hn (by omega) ro ro' h0 n 0 N ow (by omega) (by omega) (fun r hr => absurd hr (by omega))
  obtain ⟨b2, c2, t2, G2, H2, z⟩ := outer57 (N := N) (n := n) (k := k) (A := n ^ k) (so := so) (d := d) (e := e) (give := fun r => cnR ro (nI r) 0 k) hN hn0 hn hk (by omega) hx (fun r hr => ⟨w2 r hr, Nat.le_trans (cnR_le ro (nI r) k 0) hk⟩) (n ^ k) 0 N 0 b' c' t G H (by omega) (by omega)
  refine ⟨b2, c2, t2, G2, H2, o2, ?_⟩
  rw [Nat.zero_add, lv_sum hn0] at z
  unfold fX7_goThrough
  refine Eq.trans (pow4 (N := N) (n := n) _ hk k 0 N (by omega) (by omega)) ?_
  refine Eq.trans (w1 _) ?_
  exact z
