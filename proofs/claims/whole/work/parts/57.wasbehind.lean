/-! was, behind -/
theorem span_in {a2 : Int32} {a b : Nat} (hb : b ≤ 9) (h1 : ¬ a2 < nI a) (h2 : ¬ nI b < a2) (hab : a ≤ b) : ∃ q, a ≤ q ∧ q ≤ b ∧ a2 = nI q := by
  rw [Int32.lt_iff_toInt_lt, nI_toInt (by omega)] at h1 h2
  rcases pk_ix a2 (n := 10) (by omega) with h | h | ⟨q, hq, rfl⟩
  · rw [Int32.lt_iff_toInt_lt, show (0 : Int32).toInt = 0 by decide] at h
    omega
  · rw [Int32.le_iff_toInt_le, nI_toInt (by omega)] at h
    omega
  · rw [nI_toInt (by omega)] at h1 h2
    exact ⟨q, by omega, by omega, rfl⟩
theorem inner_b {N : Nat} (d : Nat) (hd : d ≤ 9) (f g : Nat → Int32) (h : ∀ i, i < d → g i = f i) (x4 : Int32) (k k' : Int32 → Int32 → Int32 → Option Int32) : ∀ (m i fuel : Nat) (x2 x3 : Int32), i + m = d → m < fuel → ∃ y2 y3 : Int32, fX4_greatestSum_L16 N x4 (nI d) f k fuel x2 x3 (nI i) = k y2 y3 (nI d) ∧ fX7_behind_L44 N x4 (nI d) g k' fuel x2 x3 (nI i) = k' y2 y3 (nI d) ∧ (x4 = 0 → y2 = x2)
  | 0, i, 0, _, _, e, hf => absurd hf (by omega)
  | m + 1, i, 0, _, _, e, hf => absurd hf (by omega)
  | 0, i, fuel + 1, x2, x3, e, hf => by
    obtain rfl : i = d := by omega
    exact ⟨x2, x3, by rw [fX4_greatestSum_L16, if_pos (nI_le (Nat.le_refl i) (by omega))], by rw [fX7_behind_L44, if_pos (nI_le (Nat.le_refl i) (by omega))], fun _ => rfl⟩
  | m + 1, i, fuel + 1, x2, x3, e, hf => by
    have step := fun z2 z3 => inner_b (N := N) d hd f g h x4 k k' m (i + 1) fuel z2 z3 (by omega) (by omega)
    rw [fX4_greatestSum_L16, if_neg (nI_ge (by omega) (by omega)), if_neg (bnd (by omega) (by omega)), nI_clamp (by omega), nI_1]
    rw [fX7_behind_L44, if_neg (nI_ge (by omega) (by omega)), if_neg (bnd (by omega) (by omega)), nI_clamp (by omega), nI_1, h i (by omega)]
    by_cases c : f i = x4
    · rw [if_pos c, if_pos c]
      by_cases c2 : x3 ≤ 0
      · rw [if_pos c2, if_pos c2]; exact step x2 x3
      · rw [if_neg c2, if_neg c2]
        obtain ⟨y2, y3, g1, g2, g3⟩ := step (x2 + x4) (x3 + -1)
        exact ⟨y2, y3, g1, g2, fun e => by rw [g3 e, e, Int32.add_zero]⟩
    · rw [if_neg c, if_neg c]; exact step x2 x3
theorem outer_b {N : Nat} (hN : 70000 ≤ N) (d : Nat) (hd : d ≤ 9) (f g : Nat → Int32) (h : ∀ i, i < d → g i = f i) : ∀ (q fuel : Nat) (x2 x3 : Int32), q ≤ 9 → q + 1 < fuel → ∃ r, fX4_greatestSum_L8 N (nI d) f fuel x2 x3 (nI q) = some r ∧ fX7_behind_L36 N (nI d) g fuel x2 x3 (nI q) = some r
  | 0, 0, _, _, _, hf => absurd hf (by omega)
  | 0, 1, _, _, _, hf => absurd hf (by omega)
  | q + 1, 0, _, _, _, hf => absurd hf (by omega)
  | 0, fuel + 2, x2, x3, hq, hf => by
    refine ⟨x2, ?_, by rw [fX7_behind_L36, if_pos (show nI 0 ≤ 0 by decide)]⟩
    rw [fX4_greatestSum_L8, if_neg (show ¬ nI 0 < 0 by decide)]
    obtain ⟨y2, y3, g1, -, g3⟩ := inner_b (N := N) d hd f g h (nI 0) (fun x2_6 x3_6 x5_6 => fX4_greatestSum_L8 N (nI d) f (fuel + 1) x2_6 x3_6 (nI 0 + (-1))) (fun _ _ _ => none) d 0 N x2 x3 (by omega) (by omega)
    rw [show fX4_greatestSum_L16 N (nI 0) (nI d) f _ N x2 x3 0 = _ from g1]
    show fX4_greatestSum_L8 N (nI d) f (fuel + 1) y2 y3 (nI 0 + (-1)) = some x2
    rw [fX4_greatestSum_L8, if_pos (show nI 0 + (-1) < 0 by decide), g3 rfl]
  | q + 1, fuel + 1, x2, x3, hq, hf => by
    rw [fX4_greatestSum_L8, if_neg (nI_pos (by omega)), fX7_behind_L36, if_neg (nI_nle (by omega) (by omega))]
    obtain ⟨y2, y3, g1, g2, -⟩ := inner_b (N := N) d hd f g h (nI (q + 1)) (fun x2_6 x3_6 x5_6 => fX4_greatestSum_L8 N (nI d) f fuel x2_6 x3_6 (nI (q + 1) + (-1))) (fun x2_10 x3_10 x5_10 => fX7_behind_L36 N (nI d) g fuel x2_10 x3_10 (nI (q + 1) + (-1))) d 0 N x2 x3 (by omega) (by omega)
    rw [show fX4_greatestSum_L16 N (nI (q + 1)) (nI d) f _ N x2 x3 0 = _ from g1, show fX7_behind_L44 N (nI (q + 1)) (nI d) g _ N x2 x3 0 = _ from g2]
    show ∃ r, fX4_greatestSum_L8 N (nI d) f fuel y2 y3 (nI (q + 1) + (-1)) = some r ∧ fX7_behind_L36 N (nI d) g fuel y2 y3 (nI (q + 1) + (-1)) = some r
    rw [pk_m1]
    exact outer_b hN d hd f g h q fuel y2 y3 (by omega) (by omega)
set_option maxHeartbeats 1000000 in
theorem op_was {N : Nat} (hN : 70000 ≤ N) {v_x_heat_riders : Int32} {v_x_heat_rides : Int32} {v_x_heat_riderOf : Nat → Int32} {v_x_heat_waveOf : Nat → Int32} {v_x_heat_marks : Nat → Int32} {v_x_heat_marksOf : Nat → Int32} {v_x_heat_scoreOf : Nat → Int32} {v_x_heat_toGive : Nat → Int32} {v_x_heat_line_size : Int32} {v_x_heat_line_row : Nat → Int32} {v_x_heat_wave_number : Int32} {v_x_heat_wave_turn : Nat → Int32} {v_x_heat_wave_onIt : Nat → Int32} {v_x_heat_wave_blamed : Nat → Int32} {v_x_heat_board_riders : Int32} {v_x_heat_board_best : Nat → Int32} {v_x_heat_board_second : Nat → Int32} {v_x_heat_board_faults : Nat → Int32} {v_x_past_size : Int32} {v_x_past_scores : Nat → Int32} {v_x_wait_days : Int32} {v_x_wait_from : Nat → Int32} {v_x_wait_to : Nat → Int32} {v_x_wait_known : Nat → Int32} {v_x_wait_above : Nat → Nat → Int64} {v_x_wait_below : Nat → Int64} {v_m_riders : Int32} {v_m_rides : Int32} {v_m_lineMany : Int32} {v_m_isOpen : Int32} {v_m_group : Int32} {v_m_wrong : Int32} {v_m_pastMany : Int32} {v_m_days : Int32} {v_m_riderOf : Nat → Int32} {v_m_waveOf : Nat → Int32} {v_m_marks : Nat → Int32} {v_m_line : Nat → Int32} {v_m_interfered : Nat → Int32} {v_m_stood : Nat → Int32} {v_m_past : Nat → Int32} {v_m_low : Nat → Int32} {v_m_high : Nat → Int32} {v_m_was : Nat → Int32} {v_m_best : Nat → Int32} {v_m_second : Nat → Int32} {v_m_total : Nat → Int32} {v_m_givenTo : Nat → Int32} {v_m_has : Nat → Int32} {v_m_own : Nat → Int32} {v_m_sums : Nat → Int64} {v_m_below : Nat → Int64} (hI : Inv v_x_heat_riders v_x_heat_rides v_x_heat_riderOf v_x_heat_waveOf v_x_heat_marks v_x_heat_marksOf v_x_heat_scoreOf v_x_heat_toGive v_x_heat_line_size v_x_heat_line_row v_x_heat_wave_number v_x_heat_wave_turn v_x_heat_wave_onIt v_x_heat_wave_blamed v_x_heat_board_riders v_x_heat_board_best v_x_heat_board_second v_x_heat_board_faults v_x_past_size v_x_past_scores v_x_wait_days v_x_wait_from v_x_wait_to v_x_wait_known v_x_wait_above v_x_wait_below v_m_riders v_m_rides v_m_lineMany v_m_isOpen v_m_group v_m_wrong v_m_pastMany v_m_days v_m_riderOf v_m_waveOf v_m_marks v_m_line v_m_interfered v_m_stood v_m_past v_m_low v_m_high v_m_was v_m_best v_m_second v_m_total v_m_givenTo v_m_has v_m_own v_m_sums v_m_below) (a1 : Int32) (a2 : Int32) :
    ∃ (r : Int32) (o_x_wait_known : Nat → Int32) (o_m_was : Nat → Int32), fX6_was N a1 a2 v_x_wait_days v_x_wait_from v_x_wait_to v_x_wait_known = some (r, o_x_wait_known) ∧ fX7_was N a1 a2 v_m_days v_m_low v_m_high v_m_was = some (r, o_m_was) ∧ Inv v_x_heat_riders v_x_heat_rides v_x_heat_riderOf v_x_heat_waveOf v_x_heat_marks v_x_heat_marksOf v_x_heat_scoreOf v_x_heat_toGive v_x_heat_line_size v_x_heat_line_row v_x_heat_wave_number v_x_heat_wave_turn v_x_heat_wave_onIt v_x_heat_wave_blamed v_x_heat_board_riders v_x_heat_board_best v_x_heat_board_second v_x_heat_board_faults v_x_past_size v_x_past_scores v_x_wait_days v_x_wait_from v_x_wait_to o_x_wait_known v_x_wait_above v_x_wait_below v_m_riders v_m_rides v_m_lineMany v_m_isOpen v_m_group v_m_wrong v_m_pastMany v_m_days v_m_riderOf v_m_waveOf v_m_marks v_m_line v_m_interfered v_m_stood v_m_past v_m_low v_m_high o_m_was v_m_best v_m_second v_m_total v_m_givenTo v_m_has v_m_own v_m_sums v_m_below := by
  have hI0 := hI
  obtain ⟨hH, hP, ⟨d, a, b, d1, d2, rfl, rfl, d5, d6⟩⟩ := hI
  unfold fX6_was fX7_was
  rw [hasDay_spec, ob1_some, isDay_spec N a1 (by omega) (by omega), ob1_some]
  by_cases q1 : a1 < 0 ∨ nI d ≤ a1
  · exact ⟨-9, _, _, by rw [if_pos q1]; rfl, by rw [if_pos q1]; rfl, hI0⟩
  rw [if_neg q1, if_neg (show ¬ (1 : Int32) = 0 by decide), if_neg (show ¬ (1 : Int32) = 0 by decide)]
  obtain ⟨j, hj, rfl⟩ := inside (by omega) q1
  have hb := bnd (i := j) (n := 9) (by omega) (by omega)
  obtain ⟨x1, x2, x3, x4, x5, x6, x7, x8⟩ := d5 j hj
  have fin : (a2 = -1 ∨ ∃ q, a j ≤ q ∧ q ≤ b j ∧ a2 = nI q) → Inv v_x_heat_riders v_x_heat_rides v_x_heat_riderOf v_x_heat_waveOf v_x_heat_marks v_x_heat_marksOf v_x_heat_scoreOf v_x_heat_toGive v_x_heat_line_size v_x_heat_line_row v_x_heat_wave_number v_x_heat_wave_turn v_x_heat_wave_onIt v_x_heat_wave_blamed v_x_heat_board_riders v_x_heat_board_best v_x_heat_board_second v_x_heat_board_faults v_x_past_size v_x_past_scores (nI d) v_x_wait_from v_x_wait_to (upd v_x_wait_known j a2) v_x_wait_above v_x_wait_below v_m_riders v_m_rides v_m_lineMany v_m_isOpen v_m_group v_m_wrong v_m_pastMany (nI d) v_m_riderOf v_m_waveOf v_m_marks v_m_line v_m_interfered v_m_stood v_m_past v_m_low v_m_high (upd v_m_was j a2) v_m_best v_m_second v_m_total v_m_givenTo v_m_has v_m_own v_m_sums v_m_below := fun hv => And.intro hH (And.intro hP ⟨d, a, b, d1, d2, rfl, rfl, fun i hi => by
    by_cases e : i = j
    · subst e; rw [pk_us, pk_us]; exact ⟨x1, x2, x3, x4, x5, x6, rfl, hv⟩
    · rw [pk_un e, pk_un e]; exact d5 i hi, d6⟩)
  by_cases q2 : a2 = -1
  · refine ⟨v_x_wait_known j, upd v_x_wait_known j a2, upd v_m_was j a2, ?_, ?_, fin (Or.inl q2)⟩
    · rw [if_pos q2, if_neg hb, nI_clamp (by omega)]
    · rw [if_pos q2, if_neg hb, nI_clamp (by omega), x7]
  rw [if_neg q2, if_neg q2]
  unfold fX4_isInSpan
  simp only [if_neg hb]
  rw [nI_clamp (by omega), in_spec, ob1_some, x1, x2, x3, x4]
  by_cases q3 : a2 < nI (a j)
  · exact ⟨-9, _, _, by rw [if_pos q3]; rfl, by rw [if_pos (show a2 < nI (a j) ∨ nI (b j) < a2 from Or.inl q3)]; rfl, hI0⟩
  by_cases q4 : nI (b j) < a2
  · exact ⟨-9, _, _, by rw [if_neg q3, if_pos q4]; rfl, by rw [if_pos (show a2 < nI (a j) ∨ nI (b j) < a2 from Or.inr q4)]; rfl, hI0⟩
  refine ⟨v_x_wait_known j, upd v_x_wait_known j a2, upd v_m_was j a2, ?_, ?_, fin (Or.inr (span_in x6 q3 q4 x5))⟩
  · rw [if_neg q3, if_neg q4, ob1_some, if_neg (show ¬ (1 : Int32) = 0 by decide)]
  · rw [if_neg (show ¬ (a2 < nI (a j) ∨ nI (b j) < a2) from fun h => h.elim q3 q4), if_neg (show ¬ (1 : Int32) = 0 by decide), x7]
set_option maxHeartbeats 1000000 in
theorem op_behind {N : Nat} (hN : 70000 ≤ N) {v_x_heat_riders : Int32} {v_x_heat_rides : Int32} {v_x_heat_riderOf : Nat → Int32} {v_x_heat_waveOf : Nat → Int32} {v_x_heat_marks : Nat → Int32} {v_x_heat_marksOf : Nat → Int32} {v_x_heat_scoreOf : Nat → Int32} {v_x_heat_toGive : Nat → Int32} {v_x_heat_line_size : Int32} {v_x_heat_line_row : Nat → Int32} {v_x_heat_wave_number : Int32} {v_x_heat_wave_turn : Nat → Int32} {v_x_heat_wave_onIt : Nat → Int32} {v_x_heat_wave_blamed : Nat → Int32} {v_x_heat_board_riders : Int32} {v_x_heat_board_best : Nat → Int32} {v_x_heat_board_second : Nat → Int32} {v_x_heat_board_faults : Nat → Int32} {v_x_past_size : Int32} {v_x_past_scores : Nat → Int32} {v_x_wait_days : Int32} {v_x_wait_from : Nat → Int32} {v_x_wait_to : Nat → Int32} {v_x_wait_known : Nat → Int32} {v_x_wait_above : Nat → Nat → Int64} {v_x_wait_below : Nat → Int64} {v_m_riders : Int32} {v_m_rides : Int32} {v_m_lineMany : Int32} {v_m_isOpen : Int32} {v_m_group : Int32} {v_m_wrong : Int32} {v_m_pastMany : Int32} {v_m_days : Int32} {v_m_riderOf : Nat → Int32} {v_m_waveOf : Nat → Int32} {v_m_marks : Nat → Int32} {v_m_line : Nat → Int32} {v_m_interfered : Nat → Int32} {v_m_stood : Nat → Int32} {v_m_past : Nat → Int32} {v_m_low : Nat → Int32} {v_m_high : Nat → Int32} {v_m_was : Nat → Int32} {v_m_best : Nat → Int32} {v_m_second : Nat → Int32} {v_m_total : Nat → Int32} {v_m_givenTo : Nat → Int32} {v_m_has : Nat → Int32} {v_m_own : Nat → Int32} {v_m_sums : Nat → Int64} {v_m_below : Nat → Int64} (hI : Inv v_x_heat_riders v_x_heat_rides v_x_heat_riderOf v_x_heat_waveOf v_x_heat_marks v_x_heat_marksOf v_x_heat_scoreOf v_x_heat_toGive v_x_heat_line_size v_x_heat_line_row v_x_heat_wave_number v_x_heat_wave_turn v_x_heat_wave_onIt v_x_heat_wave_blamed v_x_heat_board_riders v_x_heat_board_best v_x_heat_board_second v_x_heat_board_faults v_x_past_size v_x_past_scores v_x_wait_days v_x_wait_from v_x_wait_to v_x_wait_known v_x_wait_above v_x_wait_below v_m_riders v_m_rides v_m_lineMany v_m_isOpen v_m_group v_m_wrong v_m_pastMany v_m_days v_m_riderOf v_m_waveOf v_m_marks v_m_line v_m_interfered v_m_stood v_m_past v_m_low v_m_high v_m_was v_m_best v_m_second v_m_total v_m_givenTo v_m_has v_m_own v_m_sums v_m_below) (a1 : Int32) :
    ∃ (r : Int32), fX6_behind N a1 v_x_wait_days v_x_wait_known = some r ∧ fX7_behind N a1 v_m_days v_m_was = some r ∧ Inv v_x_heat_riders v_x_heat_rides v_x_heat_riderOf v_x_heat_waveOf v_x_heat_marks v_x_heat_marksOf v_x_heat_scoreOf v_x_heat_toGive v_x_heat_line_size v_x_heat_line_row v_x_heat_wave_number v_x_heat_wave_turn v_x_heat_wave_onIt v_x_heat_wave_blamed v_x_heat_board_riders v_x_heat_board_best v_x_heat_board_second v_x_heat_board_faults v_x_past_size v_x_past_scores v_x_wait_days v_x_wait_from v_x_wait_to v_x_wait_known v_x_wait_above v_x_wait_below v_m_riders v_m_rides v_m_lineMany v_m_isOpen v_m_group v_m_wrong v_m_pastMany v_m_days v_m_riderOf v_m_waveOf v_m_marks v_m_line v_m_interfered v_m_stood v_m_past v_m_low v_m_high v_m_was v_m_best v_m_second v_m_total v_m_givenTo v_m_has v_m_own v_m_sums v_m_below := by
  have hI0 := hI
  obtain ⟨hH, hP, ⟨d, a, b, d1, d2, rfl, rfl, d5, d6⟩⟩ := hI
  unfold fX6_behind fX7_behind
  rw [in_spec, ob1_some]
  by_cases q1 : a1 < 0
  · exact ⟨-1, by rw [if_pos q1], by rw [if_pos (show a1 < 0 ∨ nI d < a1 from Or.inl q1)]; rfl, hI0⟩
  by_cases q2 : a1 ≤ nI d
  · rw [if_neg q1, if_pos q2, if_neg (show ¬ (a1 < 0 ∨ nI d < a1) from fun h => h.elim q1 (fun h => absurd q2 (i_nle.mpr h))), if_neg (show ¬ (1 : Int32) = 0 by decide)]
    obtain ⟨r, g1, g2⟩ := known_spec (N := N) d d2 v_x_wait_known v_m_was (fun i hi => by
      obtain ⟨_, _, _, _, _, x6, x7, x8⟩ := d5 i hi
      refine ⟨x7, x8.imp id (fun ⟨q, y1, y2, y3⟩ => ⟨q, by omega, y3⟩)⟩) d 0 N 0 (by omega) (by omega)
    rw [show fX4_countKnown N (nI d) v_x_wait_known = some r from g1, show fX7_known N (nI d) v_m_was = some r from g2, ob1_some, ob1_some]
    by_cases q3 : nI d ≤ r
    · rw [if_pos q3, if_pos q3]
      obtain ⟨r', g3, g4⟩ := outer_b hN d d2 v_x_wait_known v_m_was (fun i hi => (d5 i hi).2.2.2.2.2.2.1) 9 N 0 a1 (by omega) (by omega)
      exact ⟨r', by rw [show fX4_greatestSum N a1 (nI d) v_x_wait_known = some r' from g3]; rfl, g4, hI0⟩
    · exact ⟨-4, by rw [if_neg q3], by rw [if_neg q3], hI0⟩
  · exact ⟨-1, by rw [if_neg q1, if_neg q2], by rw [if_pos (show a1 < 0 ∨ nI d < a1 from Or.inr (i_nle.mp q2))]; rfl, hI0⟩
