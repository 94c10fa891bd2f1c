/-! keep -/
def cntF (mo : Nat → Int32) : Nat → Nat → Nat
  | _, 0 => 0
  | i, m + 1 => (if mo i ≤ 0 then 0 else 1) + cntF mo (i + 1) m
theorem cntF_le (mo : Nat → Int32) : ∀ m i, cntF mo i m ≤ m
  | 0, _ => Nat.le_refl 0
  | m + 1, i => by
    have := cntF_le mo m (i + 1)
    rw [cntF]
    split <;> omega
theorem keepX1 {N k : Nat} (hk : k ≤ 30) (mo : Nat → Int32) : ∀ (m i fuel c : Nat), i + m = k → m < fuel → fX1_markedRides_L4 N (nI k) mo fuel (nI c) (nI i) = some (nI (c + cntF mo i m))
  | 0, i, 0, _, e, hf => absurd hf (by omega)
  | m + 1, i, 0, _, e, hf => absurd hf (by omega)
  | 0, i, fuel + 1, c, e, hf => by
    rw [fX1_markedRides_L4, if_pos (nI_le (by omega) (by omega))]
    rfl
  | m + 1, i, fuel + 1, c, e, hf => by
    rw [fX1_markedRides_L4, if_neg (nI_ge (by omega) (by omega)), if_neg (bnd (by omega) (by omega)), nI_clamp (by omega), nI_1, cntF]
    by_cases q : mo i ≤ 0
    · rw [if_pos q, if_pos q, keepX1 hk mo m (i + 1) fuel c (by omega) (by omega), Nat.zero_add]
    · rw [if_neg q, if_neg q, nI_1, keepX1 hk mo m (i + 1) fuel (c + 1) (by omega) (by omega), Nat.add_assoc]
theorem keepM1 {N k : Nat} (hk : k ≤ 30) (mo marks : Nat → Int32) (h : ∀ i, i < k → fX7_marksOf N (nI i) marks = some (mo i)) (K : Int32 → Int32 → Option (Int32 × Int32 × (Nat → Int32))) : ∀ (m i fuel c : Nat), i + m = k → m < fuel → fX7_keep_L4 N (nI k) marks K fuel (nI c) (nI i) = K (nI (c + cntF mo i m)) (nI k)
  | 0, i, 0, _, e, hf => absurd hf (by omega)
  | m + 1, i, 0, _, e, hf => absurd hf (by omega)
  | 0, i, fuel + 1, c, e, hf => by
    obtain rfl : i = k := by omega
    rw [fX7_keep_L4, if_pos (nI_le (by omega) (by omega))]
    rfl
  | m + 1, i, fuel + 1, c, e, hf => by
    rw [fX7_keep_L4, if_neg (nI_ge (by omega) (by omega)), h i (by omega), ob1_some, nI_1, cntF]
    by_cases q : mo i ≤ 0
    · rw [if_pos q, if_pos q, Int32.add_zero, keepM1 hk mo marks h K m (i + 1) fuel c (by omega) (by omega), Nat.zero_add]
    · rw [if_neg q, if_neg q, nI_1, keepM1 hk mo marks h K m (i + 1) fuel (c + 1) (by omega) (by omega), Nat.add_assoc]
theorem keep2 {N k : Nat} (hk : k ≤ 30) (mo so marks : Nat → Int32) (h : ∀ i, i < k → fX7_marksOf N (nI i) marks = some (mo i)) (h' : ∀ i, i < k → fX7_scoreOf N (nI i) marks = some (so i)) (x1 : Int32) : ∀ (m i fuel p : Nat) (sc sc' : Nat → Int32), i + m = k → m < fuel → p + cntF mo i m ≤ 40 → (∀ q, q < p → sc' q = sc q) → ∃ o o' : Nat → Int32, fX6_keep_L27 N x1 (nI k) mo so fuel (nI i) (nI p) sc = some (x1, nI (p + cntF mo i m), o) ∧ fX7_keep_L50 N x1 (nI k) marks fuel (nI i) (nI p) sc' = some (x1, nI (p + cntF mo i m), o') ∧ (∀ q, q < p + cntF mo i m → o' q = o q)
  | 0, i, 0, _, _, _, e, hf, _, _ => absurd hf (by omega)
  | m + 1, i, 0, _, _, _, e, hf, _, _ => absurd hf (by omega)
  | 0, i, fuel + 1, p, sc, sc', e, hf, hp, hs => ⟨sc, sc', by rw [fX6_keep_L27, if_pos (nI_le (by omega) (by omega))]; rfl, by rw [fX7_keep_L50, if_pos (nI_le (by omega) (by omega))]; rfl, hs⟩
  | m + 1, i, fuel + 1, p, sc, sc', e, hf, hp, hs => by
    rw [cntF] at hp
    rw [fX6_keep_L27, if_neg (nI_ge (by omega) (by omega)), if_neg (bnd (by omega) (by omega)), nI_clamp (by omega), nI_1]
    rw [fX7_keep_L50, if_neg (nI_ge (by omega) (by omega)), h i (by omega), ob1_some, nI_1, cntF]
    by_cases q : mo i ≤ 0
    · rw [if_pos q] at hp ⊢
      rw [if_pos q, if_pos q, Nat.zero_add]
      exact keep2 hk mo so marks h h' x1 m (i + 1) fuel p sc sc' (by omega) (by omega) (by omega) hs
    · rw [if_neg q] at hp ⊢
      rw [if_neg q, if_neg q, h' i (by omega), ob1_some, add_spec _ _ (by omega), ob2_some, if_neg (bnd (by omega) (by omega)), nI_clamp (by omega), nI_1, ← Nat.add_assoc]
      exact keep2 hk mo so marks h h' x1 m (i + 1) fuel (p + 1) _ _ (by omega) (by omega) (by omega) (fun r hr => by
        by_cases e : r = p
        · subst e; rw [pk_us, pk_us]
        · rw [pk_un e, pk_un e]; exact hs r (by omega))
set_option maxHeartbeats 1000000 in
theorem op_keep {N : Nat} (hN : 70000 ≤ N) {v_x_heat_riders : Int32} {v_x_heat_rides : Int32} {v_x_heat_riderOf : Nat → Int32} {v_x_heat_waveOf : Nat → Int32} {v_x_heat_marks : Nat → Int32} {v_x_heat_marksOf : Nat → Int32} {v_x_heat_scoreOf : Nat → Int32} {v_x_heat_toGive : Nat → Int32} {v_x_heat_line_size : Int32} {v_x_heat_line_row : Nat → Int32} {v_x_heat_wave_number : Int32} {v_x_heat_wave_turn : Nat → Int32} {v_x_heat_wave_onIt : Nat → Int32} {v_x_heat_wave_blamed : Nat → Int32} {v_x_heat_board_riders : Int32} {v_x_heat_board_best : Nat → Int32} {v_x_heat_board_second : Nat → Int32} {v_x_heat_board_faults : Nat → Int32} {v_x_past_size : Int32} {v_x_past_scores : Nat → Int32} {v_x_wait_days : Int32} {v_x_wait_from : Nat → Int32} {v_x_wait_to : Nat → Int32} {v_x_wait_known : Nat → Int32} {v_x_wait_above : Nat → Nat → Int64} {v_x_wait_below : Nat → Int64} {v_m_riders : Int32} {v_m_rides : Int32} {v_m_lineMany : Int32} {v_m_isOpen : Int32} {v_m_group : Int32} {v_m_wrong : Int32} {v_m_pastMany : Int32} {v_m_days : Int32} {v_m_riderOf : Nat → Int32} {v_m_waveOf : Nat → Int32} {v_m_marks : Nat → Int32} {v_m_line : Nat → Int32} {v_m_interfered : Nat → Int32} {v_m_stood : Nat → Int32} {v_m_past : Nat → Int32} {v_m_low : Nat → Int32} {v_m_high : Nat → Int32} {v_m_was : Nat → Int32} {v_m_best : Nat → Int32} {v_m_second : Nat → Int32} {v_m_total : Nat → Int32} {v_m_givenTo : Nat → Int32} {v_m_has : Nat → Int32} {v_m_own : Nat → Int32} {v_m_sums : Nat → Int64} {v_m_below : Nat → Int64} (hI : Inv v_x_heat_riders v_x_heat_rides v_x_heat_riderOf v_x_heat_waveOf v_x_heat_marks v_x_heat_marksOf v_x_heat_scoreOf v_x_heat_toGive v_x_heat_line_size v_x_heat_line_row v_x_heat_wave_number v_x_heat_wave_turn v_x_heat_wave_onIt v_x_heat_wave_blamed v_x_heat_board_riders v_x_heat_board_best v_x_heat_board_second v_x_heat_board_faults v_x_past_size v_x_past_scores v_x_wait_days v_x_wait_from v_x_wait_to v_x_wait_known v_x_wait_above v_x_wait_below v_m_riders v_m_rides v_m_lineMany v_m_isOpen v_m_group v_m_wrong v_m_pastMany v_m_days v_m_riderOf v_m_waveOf v_m_marks v_m_line v_m_interfered v_m_stood v_m_past v_m_low v_m_high v_m_was v_m_best v_m_second v_m_total v_m_givenTo v_m_has v_m_own v_m_sums v_m_below) :
    ∃ (r : Int32) (o_x_past_size : Int32) (o_x_past_scores : Nat → Int32) (o_m_pastMany : Int32) (o_m_past : Nat → Int32), fX6_keep N v_x_heat_rides v_x_heat_marksOf v_x_heat_scoreOf v_x_past_size v_x_past_scores = some (r, o_x_past_size, o_x_past_scores) ∧ fX7_keep N v_m_rides v_m_pastMany v_m_marks v_m_past = some (r, o_m_pastMany, o_m_past) ∧ Inv v_x_heat_riders v_x_heat_rides v_x_heat_riderOf v_x_heat_waveOf v_x_heat_marks v_x_heat_marksOf v_x_heat_scoreOf v_x_heat_toGive v_x_heat_line_size v_x_heat_line_row v_x_heat_wave_number v_x_heat_wave_turn v_x_heat_wave_onIt v_x_heat_wave_blamed v_x_heat_board_riders v_x_heat_board_best v_x_heat_board_second v_x_heat_board_faults o_x_past_size o_x_past_scores v_x_wait_days v_x_wait_from v_x_wait_to v_x_wait_known v_x_wait_above v_x_wait_below v_m_riders v_m_rides v_m_lineMany v_m_isOpen v_m_group v_m_wrong o_m_pastMany v_m_days v_m_riderOf v_m_waveOf v_m_marks v_m_line v_m_interfered v_m_stood o_m_past v_m_low v_m_high v_m_was v_m_best v_m_second v_m_total v_m_givenTo v_m_has v_m_own v_m_sums v_m_below := by
  have hI0 := hI
  obtain ⟨hH, ⟨p, p1, rfl, rfl, p4⟩, hW⟩ := hI
  have hH0 := hH
  obtain ⟨n, k, z, g, w, h1, h2, h3, h4, h5, h6, rfl, rfl, rfl, rfl, rfl, rfl, rfl, rfl, rfl, c1, c2, c3, c4, c5, c6, c7, c8⟩ := hH
  have hm : ∀ i, i < k → fX7_marksOf N (nI i) v_m_marks = some (v_x_heat_marksOf i) := fun i hi => by
    rw [cntM_spec hN (by omega), (c3 i hi).1, cntS_congr (fun j hj => (c2 i hi j hj).1)]
  have hs : ∀ i, i < k → fX7_scoreOf N (nI i) v_m_marks = some (v_x_heat_scoreOf i) := fun i hi => by
    rw [scoreM_spec hN (by omega) _ (fun j hj => by rw [show rowM v_m_marks i j = _ from (c2 i hi j hj).1]; exact (c2 i hi j hj).2), (c3 i hi).2, scoreS_congr (fun j hj => (c2 i hi j hj).1)]
  unfold fX6_keep fX7_keep
  have g1 := keepX1 (N := N) h3 v_x_heat_marksOf k 0 N 0 (by omega) (by omega)
  rw [show fX1_markedRides N (nI k) v_x_heat_marksOf = _ from g1, ob1_some]
  rw [show fX7_keep_L4 N (nI k) v_m_marks _ N 0 0 = _ from keepM1 (N := N) h3 v_x_heat_marksOf v_m_marks hm _ k 0 N 0 (by omega) (by omega)]
  rw [Nat.zero_add]
  have ht := cntF_le v_x_heat_marksOf k 0
  by_cases q : p + cntF v_x_heat_marksOf 0 k ≤ 40
  · have q2 : nI p + nI (cntF v_x_heat_marksOf 0 k) ≤ 40 := by rw [nI_add]; exact nI_le (b := 40) q (by omega)
    obtain ⟨o, o', g3, g4, g5⟩ := keep2 (N := N) h3 v_x_heat_marksOf v_x_heat_scoreOf v_m_marks hm hs (nI (cntF v_x_heat_marksOf 0 k)) k 0 N p v_x_past_scores v_m_past (by omega) (by omega) q p4
    exact ⟨_, _, o, _, o', by rw [if_pos q2]; exact g3, by rw [if_pos q2]; exact g4, And.intro hH0 (And.intro ⟨_, q, rfl, rfl, g5⟩ hW)⟩
  · have q2 : ¬ nI p + nI (cntF v_x_heat_marksOf 0 k) ≤ 40 := by rw [nI_add]; exact nI_ge (a := 40) (by omega) (by omega)
    exact ⟨-2, _, _, _, _, by rw [if_neg q2], by rw [if_neg q2], hI0⟩
