set_option maxHeartbeats 1000000 in
theorem op_run {N : Nat} (hN : 70000 ≤ N) {v_x_heat_riders : Int32} {v_x_heat_rides : Int32} {v_x_heat_riderOf : Nat → Int32} {v_x_heat_waveOf : Nat → Int32} {v_x_heat_marks : Nat → Int32} {v_x_heat_marksOf : Nat → Int32} {v_x_heat_scoreOf : Nat → Int32} {v_x_heat_toGive : Nat → Int32} {v_x_heat_line_size : Int32} {v_x_heat_line_row : Nat → Int32} {v_x_heat_wave_number : Int32} {v_x_heat_wave_turn : Nat → Int32} {v_x_heat_wave_onIt : Nat → Int32} {v_x_heat_wave_blamed : Nat → Int32} {v_x_heat_board_riders : Int32} {v_x_heat_board_best : Nat → Int32} {v_x_heat_board_second : Nat → Int32} {v_x_heat_board_faults : Nat → Int32} {v_x_past_size : Int32} {v_x_past_scores : Nat → Int32} {v_x_wait_days : Int32} {v_x_wait_from : Nat → Int32} {v_x_wait_to : Nat → Int32} {v_x_wait_known : Nat → Int32} {v_x_wait_above : Nat → Nat → Int64} {v_x_wait_below : Nat → Int64} {v_m_riders : Int32} {v_m_rides : Int32} {v_m_lineMany : Int32} {v_m_isOpen : Int32} {v_m_group : Int32} {v_m_wrong : Int32} {v_m_pastMany : Int32} {v_m_days : Int32} {v_m_riderOf : Nat → Int32} {v_m_waveOf : Nat → Int32} {v_m_marks : Nat → Int32} {v_m_line : Nat → Int32} {v_m_interfered : Nat → Int32} {v_m_stood : Nat → Int32} {v_m_past : Nat → Int32} {v_m_low : Nat → Int32} {v_m_high : Nat → Int32} {v_m_was : Nat → Int32} {v_m_best : Nat → Int32} {v_m_second : Nat → Int32} {v_m_total : Nat → Int32} {v_m_givenTo : Nat → Int32} {v_m_has : Nat → Int32} {v_m_own : Nat → Int32} {v_m_sums : Nat → Int64} {v_m_below : Nat → Int64} (hI : Inv v_x_heat_riders v_x_heat_rides v_x_heat_riderOf v_x_heat_waveOf v_x_heat_marks v_x_heat_marksOf v_x_heat_scoreOf v_x_heat_toGive v_x_heat_line_size v_x_heat_line_row v_x_heat_wave_number v_x_heat_wave_turn v_x_heat_wave_onIt v_x_heat_wave_blamed v_x_heat_board_riders v_x_heat_board_best v_x_heat_board_second v_x_heat_board_faults v_x_past_size v_x_past_scores v_x_wait_days v_x_wait_from v_x_wait_to v_x_wait_known v_x_wait_above v_x_wait_below v_m_riders v_m_rides v_m_lineMany v_m_isOpen v_m_group v_m_wrong v_m_pastMany v_m_days v_m_riderOf v_m_waveOf v_m_marks v_m_line v_m_interfered v_m_stood v_m_past v_m_low v_m_high v_m_was v_m_best v_m_second v_m_total v_m_givenTo v_m_has v_m_own v_m_sums v_m_below) (a1 : Int32) (a2 : Int32) :
    ∃ (r : Int32) (o_m_sums : Nat → Int64) (o_m_below : Nat → Int64), fX6_run N a1 a2 v_x_wait_days v_x_wait_known v_x_wait_above v_x_wait_below = some r ∧ fX7_run N a1 a2 v_m_days v_m_low v_m_high v_m_was v_m_sums v_m_below = some (r, o_m_sums, o_m_below) ∧ Inv v_x_heat_riders v_x_heat_rides v_x_heat_riderOf v_x_heat_waveOf v_x_heat_marks v_x_heat_marksOf v_x_heat_scoreOf v_x_heat_toGive v_x_heat_line_size v_x_heat_line_row v_x_heat_wave_number v_x_heat_wave_turn v_x_heat_wave_onIt v_x_heat_wave_blamed v_x_heat_board_riders v_x_heat_board_best v_x_heat_board_second v_x_heat_board_faults v_x_past_size v_x_past_scores v_x_wait_days v_x_wait_from v_x_wait_to v_x_wait_known v_x_wait_above v_x_wait_below v_m_riders v_m_rides v_m_lineMany v_m_isOpen v_m_group v_m_wrong v_m_pastMany v_m_days v_m_riderOf v_m_waveOf v_m_marks v_m_line v_m_interfered v_m_stood v_m_past v_m_low v_m_high v_m_was v_m_best v_m_second v_m_total v_m_givenTo v_m_has v_m_own o_m_sums o_m_below := by
  have hI0 := hI
  obtain ⟨hH, hP, hW⟩ := hI
  have hW0 := hW
  obtain ⟨d, a, b, d1, d2, rfl, rfl, d5, d6⟩ := hW
  have hr : ∀ j, j < d → a j ≤ b j ∧ b j ≤ 9 := fun j hj => by obtain ⟨_, _, _, _, e5, e6, _⟩ := d5 j hj; exact ⟨e5, e6⟩
  have hft : ∀ j, j < d → v_m_low j = nI (a j) ∧ v_m_high j = nI (b j) := fun j hj => by obtain ⟨_, _, e3, e4, _⟩ := d5 j hj; exact ⟨e3, e4⟩
  have hkw : ∀ j, j < d → v_m_was j = v_x_wait_known j := fun j hj => by obtain ⟨_, _, _, _, _, _, e7, _⟩ := d5 j hj; exact e7
  have hkn : ∀ j, j < d → (v_x_wait_known j = -1 ∨ ∃ q, q ≤ 9 ∧ v_x_wait_known j = nI q) := fun j hj => by
    obtain ⟨_, _, _, _, _, e6, _, e8⟩ := d5 j hj
    exact e8.imp id (fun ⟨q, y1, y2, y3⟩ => ⟨q, by omega, y3⟩)
  unfold fX6_run fX7_run
  rw [in_spec, ob1_some, in_spec, ob1_some]
  by_cases q1 : a1 < 0 ∨ nI d < a1
  · refine ⟨-1, _, _, ?_, by rw [if_pos q1]; rfl, hI0⟩
    by_cases q : a1 < 0
    · rw [if_pos q]
    · rw [if_neg q, if_neg (i_nle.mpr (q1.resolve_left q))]
  rw [if_neg (fun h => q1 (Or.inl h)), if_pos (i_nlt.mp (fun h => q1 (Or.inr h))), if_neg q1, if_neg (show ¬ (1 : Int32) = 0 by decide)]
  obtain ⟨r, hr9, rfl⟩ := inside (n := d + 1) (by omega) (fun h => q1 (h.imp id (fun h => by
    have h3 := nI_toInt (n := d + 1) (by omega)
    have h4 := nI_toInt (n := d) (by omega)
    rw [Int32.le_iff_toInt_le] at h
    rw [Int32.lt_iff_toInt_lt]
    omega)))
  by_cases q2 : a2 < 0 ∨ 2 < a2
  · refine ⟨-1, _, _, ?_, by rw [if_pos q2]; rfl, hI0⟩
    have z0 : ¬ a2 = 0 := fun h => by rw [h] at q2; exact absurd q2 (by decide)
    have z1 : ¬ a2 = 1 := fun h => by rw [h] at q2; exact absurd q2 (by decide)
    have z2 : ¬ a2 = 2 := fun h => by rw [h] at q2; exact absurd q2 (by decide)
    rw [if_neg z0, if_neg z1, if_neg z2]
  rw [if_neg q2, if_neg (show ¬ (1 : Int32) = 0 by decide)]
  obtain ⟨s', b', g1, g2⟩ := find_spec hN d2 hr hft v_m_sums v_m_below
  obtain ⟨L, l1, l2, l3, l4⟩ := len_spec (N := N) d2 v_x_wait_known hkn d 0 N (by omega) (by omega) (fun j hj => absurd hj (by omega))
  obtain ⟨c, u, r1, r2, r3⟩ := run_joint (N := N) (lo := a) (hi := b) d2 l1 hr d6 g2 hkw l3 l4 (fun (x3_11 : Int32) (x4_11 : Int32) (x5_11 : Int32) (x6_11 : Int32) =>
        if a2 = 0 then
        some (x4_11, s', b')
      else
        if a2 = 1 then
          some (x5_11, s', b')
        else
          some (x6_11, s', b')) L 0 r 0 N (by omega) (by omega) (by omega) (by decide)
  have hc : c < 2 ^ 31 := Nat.lt_of_lt_of_le r1 (Nat.pow_le_pow_right (by omega) (by omega))
  have hX : fX4_calledInRun N (nI r) (nI d) v_x_wait_known v_x_wait_above v_x_wait_below = some (nI c) := by
    unfold fX4_calledInRun
    rw [show fX4_lengthOfRun N (nI d) v_x_wait_known = some (nI L) from l2, ob1_some]
    exact r2
  have hS : fX4_sumOf N (nI c) (nI d) v_x_wait_known = some (msum c v_x_wait_known L) := by
    have := sumOf_spec (N := N) hc d2 v_x_wait_known d 0 N (by omega) (by omega)
    refine Eq.trans this ?_
    have hz : ∀ m, L + m ≤ d → msum c v_x_wait_known (L + m) = msum c v_x_wait_known L := fun m => by
      induction m with
      | zero => intro _; rfl
      | succ m ih =>
        intro hm
        rw [show L + (m + 1) = (L + m) + 1 by omega, msum, if_neg (by
          rw [Nat.testBit_lt_two_pow (Nat.lt_of_lt_of_le r1 (Nat.pow_le_pow_right (by omega) (by omega)))]; decide)]
        exact ih (by omega)
    have := hz (d - L) (by omega)
    rw [show L + (d - L) = d by omega] at this
    rw [this]
  rw [g1, ob2_some]
  by_cases z0 : a2 = 0
  · refine ⟨nI c, s', b', by rw [if_pos z0, hX, ob1_some], ?_, And.intro hH (And.intro hP hW0)⟩
    refine Eq.trans r3 ?_
    show (if a2 = 0 then some (nI c, s', b') else if a2 = 1 then some (msum c v_x_wait_known L, s', b') else some (nI L, s', b')) = _
    rw [if_pos z0]
  by_cases z1 : a2 = 1
  · refine ⟨msum c v_x_wait_known L, s', b', by rw [if_neg z0, if_pos z1, hX, ob1_some, hS, ob1_some], ?_, And.intro hH (And.intro hP hW0)⟩
    refine Eq.trans r3 ?_
    show (if a2 = 0 then some (nI c, s', b') else if a2 = 1 then some (msum c v_x_wait_known L, s', b') else some (nI L, s', b')) = _
    rw [if_neg z0, if_pos z1]
  have z2 : a2 = 2 := by
    obtain ⟨j, hj, rfl⟩ := nI_of (fun q => q2 (Or.inl q))
    rcases (show j = 0 ∨ j = 1 ∨ j = 2 ∨ 2 < j by omega) with rfl | rfl | rfl | h
    · exact absurd rfl z0
    · exact absurd rfl z1
    · rfl
    · exact absurd (Or.inr (nI_lt (a := 2) h hj)) q2
  · refine ⟨nI L, s', b', by rw [if_neg z0, if_neg z1, if_pos z2, show fX4_lengthOfRun N (nI d) v_x_wait_known = some (nI L) from l2, ob1_some], ?_, And.intro hH (And.intro hP hW0)⟩
    refine Eq.trans r3 ?_
    show (if a2 = 0 then some (nI c, s', b') else if a2 = 1 then some (msum c v_x_wait_known L, s', b') else some (nI L, s', b')) = _
    rw [if_neg z0, if_neg z1]
