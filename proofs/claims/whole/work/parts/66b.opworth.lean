set_option maxHeartbeats 1000000 in
theorem op_worth {N : Nat} (hN : 70000 ≤ N) {v_x_heat_riders : Int32} {v_x_heat_rides : Int32} {v_x_heat_riderOf : Nat → Int32} {v_x_heat_waveOf : Nat → Int32} {v_x_heat_marks : Nat → Int32} {v_x_heat_marksOf : Nat → Int32} {v_x_heat_scoreOf : Nat → Int32} {v_x_heat_toGive : Nat → Int32} {v_x_heat_line_size : Int32} {v_x_heat_line_row : Nat → Int32} {v_x_heat_wave_number : Int32} {v_x_heat_wave_turn : Nat → Int32} {v_x_heat_wave_onIt : Nat → Int32} {v_x_heat_wave_blamed : Nat → Int32} {v_x_heat_board_riders : Int32} {v_x_heat_board_best : Nat → Int32} {v_x_heat_board_second : Nat → Int32} {v_x_heat_board_faults : Nat → Int32} {v_x_past_size : Int32} {v_x_past_scores : Nat → Int32} {v_x_wait_days : Int32} {v_x_wait_from : Nat → Int32} {v_x_wait_to : Nat → Int32} {v_x_wait_known : Nat → Int32} {v_x_wait_above : Nat → Nat → Int64} {v_x_wait_below : Nat → Int64} {v_m_riders : Int32} {v_m_rides : Int32} {v_m_lineMany : Int32} {v_m_isOpen : Int32} {v_m_group : Int32} {v_m_wrong : Int32} {v_m_pastMany : Int32} {v_m_days : Int32} {v_m_riderOf : Nat → Int32} {v_m_waveOf : Nat → Int32} {v_m_marks : Nat → Int32} {v_m_line : Nat → Int32} {v_m_interfered : Nat → Int32} {v_m_stood : Nat → Int32} {v_m_past : Nat → Int32} {v_m_low : Nat → Int32} {v_m_high : Nat → Int32} {v_m_was : Nat → Int32} {v_m_best : Nat → Int32} {v_m_second : Nat → Int32} {v_m_total : Nat → Int32} {v_m_givenTo : Nat → Int32} {v_m_has : Nat → Int32} {v_m_own : Nat → Int32} {v_m_sums : Nat → Int64} {v_m_below : Nat → Int64} (hI : Inv v_x_heat_riders v_x_heat_rides v_x_heat_riderOf v_x_heat_waveOf v_x_heat_marks v_x_heat_marksOf v_x_heat_scoreOf v_x_heat_toGive v_x_heat_line_size v_x_heat_line_row v_x_heat_wave_number v_x_heat_wave_turn v_x_heat_wave_onIt v_x_heat_wave_blamed v_x_heat_board_riders v_x_heat_board_best v_x_heat_board_second v_x_heat_board_faults v_x_past_size v_x_past_scores v_x_wait_days v_x_wait_from v_x_wait_to v_x_wait_known v_x_wait_above v_x_wait_below v_m_riders v_m_rides v_m_lineMany v_m_isOpen v_m_group v_m_wrong v_m_pastMany v_m_days v_m_riderOf v_m_waveOf v_m_marks v_m_line v_m_interfered v_m_stood v_m_past v_m_low v_m_high v_m_was v_m_best v_m_second v_m_total v_m_givenTo v_m_has v_m_own v_m_sums v_m_below) (a1 : Int32) (a2 : Int32) (a3 : Int32) :
    ∃ (r : Int64) (o_m_sums : Nat → Int64) (o_m_below : Nat → Int64), fX6_worth N a1 a2 a3 v_x_wait_days v_x_wait_above v_x_wait_below = some r ∧ fX7_worth N a1 a2 a3 v_m_days v_m_low v_m_high v_m_sums v_m_below = some (r, o_m_sums, o_m_below) ∧ Inv v_x_heat_riders v_x_heat_rides v_x_heat_riderOf v_x_heat_waveOf v_x_heat_marks v_x_heat_marksOf v_x_heat_scoreOf v_x_heat_toGive v_x_heat_line_size v_x_heat_line_row v_x_heat_wave_number v_x_heat_wave_turn v_x_heat_wave_onIt v_x_heat_wave_blamed v_x_heat_board_riders v_x_heat_board_best v_x_heat_board_second v_x_heat_board_faults v_x_past_size v_x_past_scores v_x_wait_days v_x_wait_from v_x_wait_to v_x_wait_known v_x_wait_above v_x_wait_below v_m_riders v_m_rides v_m_lineMany v_m_isOpen v_m_group v_m_wrong v_m_pastMany v_m_days v_m_riderOf v_m_waveOf v_m_marks v_m_line v_m_interfered v_m_stood v_m_past v_m_low v_m_high v_m_was v_m_best v_m_second v_m_total v_m_givenTo v_m_has v_m_own o_m_sums o_m_below := by
  have hI0 := hI
  obtain ⟨hH, hP, hW⟩ := hI
  have hW0 := hW
  obtain ⟨d, a, b, d1, d2, rfl, rfl, d5, d6⟩ := hW
  have hr : ∀ j, j < d → a j ≤ b j ∧ b j ≤ 9 := fun j hj => by obtain ⟨_, _, _, _, e5, e6, _⟩ := d5 j hj; exact ⟨e5, e6⟩
  have hft : ∀ j, j < d → v_m_low j = nI (a j) ∧ v_m_high j = nI (b j) := fun j hj => by obtain ⟨_, _, e3, e4, _⟩ := d5 j hj; exact ⟨e3, e4⟩
  unfold fX6_worth fX7_worth
  rw [in_spec, ob1_some, in_spec, ob1_some, in_spec, ob1_some, aob_spec, ob1_some]
  by_cases q1 : a1 < 0 ∨ nI d < a1
  · refine ⟨-9, _, _, ?_, by rw [if_pos q1]; rfl, hI0⟩
    by_cases q : a1 < 0
    · rw [if_pos q]
    · rw [if_neg q, if_pos (q1.resolve_left q)]
  rw [if_neg (fun h => q1 (Or.inl h)), if_neg (fun h => q1 (Or.inr h)), if_neg q1, if_neg (show ¬ (1 : Int32) = 0 by decide)]
  by_cases q2 : a2 < 0 ∨ 9 < a2
  · refine ⟨-9, _, _, ?_, by rw [if_pos q2]; rfl, hI0⟩
    by_cases q : a2 < 0
    · rw [if_pos q]
    · rw [if_neg q, if_pos (q2.resolve_left q)]
  rw [if_neg (fun h => q2 (Or.inl h)), if_neg (fun h => q2 (Or.inr h)), if_neg q2, if_neg (show ¬ (1 : Int32) = 0 by decide)]
  by_cases q3 : a3 < 0 ∨ 1 < a3
  · exact ⟨-9, _, _, by rw [if_pos q3]; rfl, by rw [if_pos q3]; rfl, hI0⟩
  rw [if_neg q3, if_neg (show ¬ (1 : Int32) = 0 by decide), if_neg (show ¬ (1 : Int32) = 0 by decide)]
  obtain ⟨i, hi, rfl⟩ := inside (n := d + 1) (by omega) (fun h => q1 (h.imp id (fun h => by
    have h3 := nI_toInt (n := d + 1) (by omega)
    have h4 := nI_toInt (n := d) (by omega)
    rw [Int32.le_iff_toInt_le] at h
    rw [Int32.lt_iff_toInt_lt]
    omega)))
  obtain ⟨r, hr9, rfl⟩ := in9 q2
  unfold fX4_hasWorth
  rw [pk_sub (by omega)]
  by_cases q4 : r ≤ d - i
  · rw [if_neg (nI_nlt q4 (by omega)), ob1_some, if_neg (show ¬ (1 : Int32) = 0 by decide), if_neg (bnd (by omega) (by omega)), if_neg (bnd (by omega) (by omega)), nI_clamp (n := i) (by omega), nI_clamp (n := r) (by omega), if_pos (nI_le q4 (by omega))]
    obtain ⟨s', b', g1, g2⟩ := find_spec hN d2 hr hft v_m_sums v_m_below
    obtain ⟨x1, x2⟩ := d6 (d - i) (by omega)
    obtain ⟨m1, m2⟩ := g2 (d - i) (by omega)
    rw [show d - (d - i) = i by omega] at x1 x2 m1 m2
    obtain ⟨b1, b2, b3⟩ := wbd d2 hr (d - i) (by omega)
    obtain ⟨u, z1, z2⟩ := worth_fin hN (b3 r) b1 b2 a3 (aob_in q3) s' b'
    refine ⟨u, s', b', by rw [x1, x2 r q4, z1, ob1_some], ?_, And.intro hH (And.intro hP hW0)⟩
    rw [g1, ob2_some, show (10 : Int32) * nI i = nI (10 * i) from pk_mul 10 i, nI_add, if_neg (bnd (by omega) (by omega)), if_neg (show ¬ (nI i < 0 ∨ 10 ≤ i) from fun h => h.elim (nI_pos (by omega)) (by omega)), nI_clamp (n := 10 * i + r) (by omega), m1, m2 r q4]
    exact z2
  · exact ⟨-4, _, _, by rw [if_pos (nI_lt (by omega) (by omega)), ob1_some, if_pos rfl], by rw [if_neg (nI_ge (by omega) (by omega))], hI0⟩
set_option maxHeartbeats 1000000 in
theorem op_call {N : Nat} (hN : 70000 ≤ N) {v_x_heat_riders : Int32} {v_x_heat_rides : Int32} {v_x_heat_riderOf : Nat → Int32} {v_x_heat_waveOf : Nat → Int32} {v_x_heat_marks : Nat → Int32} {v_x_heat_marksOf : Nat → Int32} {v_x_heat_scoreOf : Nat → Int32} {v_x_heat_toGive : Nat → Int32} {v_x_heat_line_size : Int32} {v_x_heat_line_row : Nat → Int32} {v_x_heat_wave_number : Int32} {v_x_heat_wave_turn : Nat → Int32} {v_x_heat_wave_onIt : Nat → Int32} {v_x_heat_wave_blamed : Nat → Int32} {v_x_heat_board_riders : Int32} {v_x_heat_board_best : Nat → Int32} {v_x_heat_board_second : Nat → Int32} {v_x_heat_board_faults : Nat → Int32} {v_x_past_size : Int32} {v_x_past_scores : Nat → Int32} {v_x_wait_days : Int32} {v_x_wait_from : Nat → Int32} {v_x_wait_to : Nat → Int32} {v_x_wait_known : Nat → Int32} {v_x_wait_above : Nat → Nat → Int64} {v_x_wait_below : Nat → Int64} {v_m_riders : Int32} {v_m_rides : Int32} {v_m_lineMany : Int32} {v_m_isOpen : Int32} {v_m_group : Int32} {v_m_wrong : Int32} {v_m_pastMany : Int32} {v_m_days : Int32} {v_m_riderOf : Nat → Int32} {v_m_waveOf : Nat → Int32} {v_m_marks : Nat → Int32} {v_m_line : Nat → Int32} {v_m_interfered : Nat → Int32} {v_m_stood : Nat → Int32} {v_m_past : Nat → Int32} {v_m_low : Nat → Int32} {v_m_high : Nat → Int32} {v_m_was : Nat → Int32} {v_m_best : Nat → Int32} {v_m_second : Nat → Int32} {v_m_total : Nat → Int32} {v_m_givenTo : Nat → Int32} {v_m_has : Nat → Int32} {v_m_own : Nat → Int32} {v_m_sums : Nat → Int64} {v_m_below : Nat → Int64} (hI : Inv v_x_heat_riders v_x_heat_rides v_x_heat_riderOf v_x_heat_waveOf v_x_heat_marks v_x_heat_marksOf v_x_heat_scoreOf v_x_heat_toGive v_x_heat_line_size v_x_heat_line_row v_x_heat_wave_number v_x_heat_wave_turn v_x_heat_wave_onIt v_x_heat_wave_blamed v_x_heat_board_riders v_x_heat_board_best v_x_heat_board_second v_x_heat_board_faults v_x_past_size v_x_past_scores v_x_wait_days v_x_wait_from v_x_wait_to v_x_wait_known v_x_wait_above v_x_wait_below v_m_riders v_m_rides v_m_lineMany v_m_isOpen v_m_group v_m_wrong v_m_pastMany v_m_days v_m_riderOf v_m_waveOf v_m_marks v_m_line v_m_interfered v_m_stood v_m_past v_m_low v_m_high v_m_was v_m_best v_m_second v_m_total v_m_givenTo v_m_has v_m_own v_m_sums v_m_below) (a1 : Int32) (a2 : Int32) (a3 : Int32) :
    ∃ (r : Int32) (o_m_sums : Nat → Int64) (o_m_below : Nat → Int64), fX6_call N a1 a2 a3 v_x_wait_days v_x_wait_above v_x_wait_below = some r ∧ fX7_call N a1 a2 a3 v_m_days v_m_low v_m_high v_m_sums v_m_below = some (r, o_m_sums, o_m_below) ∧ Inv v_x_heat_riders v_x_heat_rides v_x_heat_riderOf v_x_heat_waveOf v_x_heat_marks v_x_heat_marksOf v_x_heat_scoreOf v_x_heat_toGive v_x_heat_line_size v_x_heat_line_row v_x_heat_wave_number v_x_heat_wave_turn v_x_heat_wave_onIt v_x_heat_wave_blamed v_x_heat_board_riders v_x_heat_board_best v_x_heat_board_second v_x_heat_board_faults v_x_past_size v_x_past_scores v_x_wait_days v_x_wait_from v_x_wait_to v_x_wait_known v_x_wait_above v_x_wait_below v_m_riders v_m_rides v_m_lineMany v_m_isOpen v_m_group v_m_wrong v_m_pastMany v_m_days v_m_riderOf v_m_waveOf v_m_marks v_m_line v_m_interfered v_m_stood v_m_past v_m_low v_m_high v_m_was v_m_best v_m_second v_m_total v_m_givenTo v_m_has v_m_own o_m_sums o_m_below := by
  have hI0 := hI
  obtain ⟨hH, hP, hW⟩ := hI
  have hW0 := hW
  obtain ⟨d, a, b, d1, d2, rfl, rfl, d5, d6⟩ := hW
  have hr : ∀ j, j < d → a j ≤ b j ∧ b j ≤ 9 := fun j hj => by obtain ⟨_, _, _, _, e5, e6, _⟩ := d5 j hj; exact ⟨e5, e6⟩
  have hft : ∀ j, j < d → v_m_low j = nI (a j) ∧ v_m_high j = nI (b j) := fun j hj => by obtain ⟨_, _, e3, e4, _⟩ := d5 j hj; exact ⟨e3, e4⟩
  unfold fX6_call fX7_call
  rw [hasDay_spec, ob1_some, isDay_spec N a1 (by omega) (by omega), ob1_some, isQ_spec, ob1_some, in_spec, ob1_some, in_spec, ob1_some]
  by_cases q1 : a1 < 0 ∨ nI d ≤ a1
  · exact ⟨-1, _, _, by rw [if_pos q1]; rfl, by rw [if_pos q1]; rfl, hI0⟩
  rw [if_neg q1, if_neg (show ¬ (1 : Int32) = 0 by decide), if_neg (show ¬ (1 : Int32) = 0 by decide)]
  by_cases q2 : a2 < 0 ∨ 9 < a2
  · refine ⟨-1, _, _, ?_, by rw [if_pos q2]; rfl, hI0⟩
    by_cases q : a2 < 0
    · rw [if_pos q]
    · rw [if_neg q, if_pos (q2.resolve_left q)]
  rw [if_neg (fun h => q2 (Or.inl h)), if_neg (fun h => q2 (Or.inr h)), if_neg q2, if_neg (show ¬ (1 : Int32) = 0 by decide)]
  by_cases q3 : a3 < 0 ∨ 9 < a3
  · exact ⟨-1, _, _, by rw [if_pos q3]; rfl, by rw [if_pos q3]; rfl, hI0⟩
  rw [if_neg q3, if_neg (show ¬ (1 : Int32) = 0 by decide), if_neg (show ¬ (1 : Int32) = 0 by decide)]
  obtain ⟨i, hi, rfl⟩ := inside (by omega) q1
  obtain ⟨r, hr9, rfl⟩ := in9 q2
  obtain ⟨q, hq9, rfl⟩ := in9 q3
  unfold fX4_hasWorth
  rw [pk_sub (by omega)]
  by_cases q4 : r ≤ d - i
  · rw [if_neg (nI_nlt q4 (by omega)), ob1_some, if_neg (show ¬ (1 : Int32) = 0 by decide), if_pos (nI_le q4 (by omega))]
    obtain ⟨s', b', g1, g2⟩ := find_spec hN d2 hr hft v_m_sums v_m_below
    obtain ⟨x1, x2⟩ := d6 (d - i - 1) (by omega)
    obtain ⟨m1, m2⟩ := g2 (d - i - 1) (by omega)
    rw [show d - (d - i - 1) = i + 1 by omega] at x1 x2 m1 m2
    obtain ⟨b1, b2, b3⟩ := wbd d2 hr (d - i - 1) (by omega)
    rw [isCalledX (t := d - i - 1) d2 (by omega) (by omega) hq9 x1 x2 b2 b3, ob1_some, g1, ob2_some, isCalledM (t := d - i - 1) d2 (by omega) (by omega) hq9 m1 m2 b2 b3, ob1_some]
    rcases cd_le (d - i - 1) r q (wB a b d (d - i - 1)) (wA a b d (d - i - 1)) with z | z
    · exact ⟨0, s', b', by rw [z, if_pos nI_0], by rw [z, if_pos nI_0], And.intro hH (And.intro hP hW0)⟩
    · exact ⟨1, s', b', by rw [z, if_neg nI_is0], by rw [z, if_neg nI_is0], And.intro hH (And.intro hP hW0)⟩
  · exact ⟨-4, _, _, by rw [if_pos (nI_lt (by omega) (by omega)), ob1_some, if_pos rfl], by rw [if_neg (nI_ge (by omega) (by omega))], hI0⟩
