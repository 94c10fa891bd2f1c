set_option maxHeartbeats 2000000 in
theorem op_take {N : Nat} (hN : 70000 ≤ N) {v_x_heat_riders : Int32} {v_x_heat_rides : Int32} {v_x_heat_riderOf : Nat → Int32} {v_x_heat_waveOf : Nat → Int32} {v_x_heat_marks : Nat → Int32} {v_x_heat_marksOf : Nat → Int32} {v_x_heat_scoreOf : Nat → Int32} {v_x_heat_toGive : Nat → Int32} {v_x_heat_line_size : Int32} {v_x_heat_line_row : Nat → Int32} {v_x_heat_wave_number : Int32} {v_x_heat_wave_turn : Nat → Int32} {v_x_heat_wave_onIt : Nat → Int32} {v_x_heat_wave_blamed : Nat → Int32} {v_x_heat_board_riders : Int32} {v_x_heat_board_best : Nat → Int32} {v_x_heat_board_second : Nat → Int32} {v_x_heat_board_faults : Nat → Int32} {v_x_past_size : Int32} {v_x_past_scores : Nat → Int32} {v_x_wait_days : Int32} {v_x_wait_from : Nat → Int32} {v_x_wait_to : Nat → Int32} {v_x_wait_known : Nat → Int32} {v_x_wait_above : Nat → Nat → Int64} {v_x_wait_below : Nat → Int64} {v_m_riders : Int32} {v_m_rides : Int32} {v_m_lineMany : Int32} {v_m_isOpen : Int32} {v_m_group : Int32} {v_m_wrong : Int32} {v_m_pastMany : Int32} {v_m_days : Int32} {v_m_riderOf : Nat → Int32} {v_m_waveOf : Nat → Int32} {v_m_marks : Nat → Int32} {v_m_line : Nat → Int32} {v_m_interfered : Nat → Int32} {v_m_stood : Nat → Int32} {v_m_past : Nat → Int32} {v_m_low : Nat → Int32} {v_m_high : Nat → Int32} {v_m_was : Nat → Int32} {v_m_best : Nat → Int32} {v_m_second : Nat → Int32} {v_m_total : Nat → Int32} {v_m_givenTo : Nat → Int32} {v_m_has : Nat → Int32} {v_m_own : Nat → Int32} {v_m_sums : Nat → Int64} {v_m_below : Nat → Int64} (hI : Inv v_x_heat_riders v_x_heat_rides v_x_heat_riderOf v_x_heat_waveOf v_x_heat_marks v_x_heat_marksOf v_x_heat_scoreOf v_x_heat_toGive v_x_heat_line_size v_x_heat_line_row v_x_heat_wave_number v_x_heat_wave_turn v_x_heat_wave_onIt v_x_heat_wave_blamed v_x_heat_board_riders v_x_heat_board_best v_x_heat_board_second v_x_heat_board_faults v_x_past_size v_x_past_scores v_x_wait_days v_x_wait_from v_x_wait_to v_x_wait_known v_x_wait_above v_x_wait_below v_m_riders v_m_rides v_m_lineMany v_m_isOpen v_m_group v_m_wrong v_m_pastMany v_m_days v_m_riderOf v_m_waveOf v_m_marks v_m_line v_m_interfered v_m_stood v_m_past v_m_low v_m_high v_m_was v_m_best v_m_second v_m_total v_m_givenTo v_m_has v_m_own v_m_sums v_m_below) (a1 : Int32) (a2 : Int32) :
    ∃ (r : Int32) (o_x_heat_rides : Int32) (o_x_heat_riderOf : Nat → Int32) (o_x_heat_waveOf : Nat → Int32) (o_x_heat_marks : Nat → Int32) (o_x_heat_marksOf : Nat → Int32) (o_x_heat_scoreOf : Nat → Int32) (o_x_heat_line_size : Int32) (o_x_heat_line_row : Nat → Int32) (o_x_heat_wave_number : Int32) (o_x_heat_wave_turn : Nat → Int32) (o_x_heat_wave_onIt : Nat → Int32) (o_x_heat_wave_blamed : Nat → Int32) (o_x_heat_board_faults : Nat → Int32) (o_m_rides : Int32) (o_m_lineMany : Int32) (o_m_isOpen : Int32) (o_m_group : Int32) (o_m_wrong : Int32) (o_m_riderOf : Nat → Int32) (o_m_waveOf : Nat → Int32) (o_m_marks : Nat → Int32) (o_m_line : Nat → Int32) (o_m_interfered : Nat → Int32) (o_m_stood : Nat → Int32), fX6_take N a1 a2 v_x_heat_riders v_x_heat_rides v_x_heat_riderOf v_x_heat_waveOf v_x_heat_marks v_x_heat_marksOf v_x_heat_scoreOf v_x_heat_line_size v_x_heat_line_row v_x_heat_wave_number v_x_heat_wave_turn v_x_heat_wave_onIt v_x_heat_wave_blamed v_x_heat_board_faults = some (r, o_x_heat_rides, o_x_heat_riderOf, o_x_heat_waveOf, o_x_heat_marks, o_x_heat_marksOf, o_x_heat_scoreOf, o_x_heat_line_size, o_x_heat_line_row, o_x_heat_wave_number, o_x_heat_wave_turn, o_x_heat_wave_onIt, o_x_heat_wave_blamed, o_x_heat_board_faults) ∧ fX7_take N a1 a2 v_m_riders v_m_rides v_m_lineMany v_m_isOpen v_m_group v_m_wrong v_m_riderOf v_m_waveOf v_m_marks v_m_line v_m_interfered v_m_stood = some (r, o_m_rides, o_m_lineMany, o_m_isOpen, o_m_group, o_m_wrong, o_m_riderOf, o_m_waveOf, o_m_marks, o_m_line, o_m_interfered, o_m_stood) ∧ Inv v_x_heat_riders o_x_heat_rides o_x_heat_riderOf o_x_heat_waveOf o_x_heat_marks o_x_heat_marksOf o_x_heat_scoreOf v_x_heat_toGive o_x_heat_line_size o_x_heat_line_row o_x_heat_wave_number o_x_heat_wave_turn o_x_heat_wave_onIt o_x_heat_wave_blamed v_x_heat_board_riders v_x_heat_board_best v_x_heat_board_second o_x_heat_board_faults v_x_past_size v_x_past_scores v_x_wait_days v_x_wait_from v_x_wait_to v_x_wait_known v_x_wait_above v_x_wait_below v_m_riders o_m_rides o_m_lineMany o_m_isOpen o_m_group o_m_wrong v_m_pastMany v_m_days o_m_riderOf o_m_waveOf o_m_marks o_m_line o_m_interfered o_m_stood v_m_past v_m_low v_m_high v_m_was v_m_best v_m_second v_m_total v_m_givenTo v_m_has v_m_own v_m_sums v_m_below := by
  have hI0 := hI
  obtain ⟨hH, hP, hW⟩ := hI
  have hH0 := hH
  obtain ⟨n, k, z, g, w, h1, h2, h3, h4, h5, h6, rfl, rfl, rfl, rfl, rfl, rfl, rfl, rfl, rfl, c1, c2, c3, c4, c5, c6, c7, c8⟩ := hH
  unfold fX6_take fX7_take
  rw [hasRider_spec, ob1_some, isRider_spec N a1 (by omega) (by omega), ob1_some, in_spec, ob1_some]
  by_cases q1 : a1 < 0 ∨ nI n ≤ a1
  · exact ⟨-1, _, _, _, _, _, _, _, _, _, _, _, _, _, _, _, _, _, _, _, _, _, _, _, _, by rw [if_pos q1]; rfl, by rw [if_pos q1]; rfl, hI0⟩
  rw [if_neg q1, if_neg (show ¬ (1 : Int32) = 0 by decide), if_neg (show ¬ (1 : Int32) = 0 by decide)]
  obtain ⟨j, hj, rfl⟩ := inside (by omega) q1
  by_cases q2 : a2 < 0
  · exact ⟨-1, _, _, _, _, _, _, _, _, _, _, _, _, _, _, _, _, _, _, _, _, _, _, _, _, by rw [if_pos q2], by rw [if_pos (show a2 < 0 ∨ 99 < a2 from Or.inl q2)]; rfl, hI0⟩
  by_cases q30 : ¬ a2 ≤ 99
  · exact ⟨-1, _, _, _, _, _, _, _, _, _, _, _, _, _, _, _, _, _, _, _, _, _, _, _, _, by rw [if_neg q2, if_neg q30], by rw [if_pos (show a2 < 0 ∨ 99 < a2 from Or.inr (i_nle.mp q30))]; rfl, hI0⟩
  have q3 : a2 ≤ 99 := Decidable.not_not.mp q30
  rw [if_neg q2, if_pos q3, if_neg (show ¬ (a2 < 0 ∨ 99 < a2) from fun hh => hh.elim q2 (fun h => i_nlt.mpr q3 h)), if_neg (show ¬ (1 : Int32) = 0 by decide)]
  obtain ⟨v, hv, rfl⟩ := nI_of2 (n := 99) (show (99 : Int32).toInt = 99 by decide) q2 q3
  have hl : ∀ i, i < z → v_m_line i = v_x_heat_line_row i := fun i hi => (c4 i hi).1
  rcases (first_or v_x_heat_line_row (nI j) z).symm with f0 | ⟨p, f1, f2, f3⟩
  · exact ⟨-3, _, _, _, _, _, _, _, _, _, _, _, _, _, _, _, _, _, _, _, _, _, _, _, _, by rw [holds_none hN (by omega) f0, ob1_some, if_pos rfl], by rw [show fX7_placeInLine N (nI j) (nI z) v_m_line = some (-1) from pil_none (by omega) (fun q hq => by rw [hl q hq]; exact f0 q hq) z 0 N (by omega) (by omega), ob1_some, if_neg (show ¬ (0 : Int32) ≤ -1 by decide)], hI0⟩
  rw [holds_found hN f1 (by omega) f2 f3, ob1_some, if_neg (show ¬ (1 : Int32) = 0 by decide), show fX7_placeInLine N (nI j) (nI z) v_m_line = some (nI p) from pil_found f1 (by omega) (by rw [hl p f1]; exact f2) (fun q hq => by rw [hl q (by omega)]; exact f3 q hq) p 0 N (by omega) (by omega), ob1_some, if_pos (nI_pos' (by omega))]
  by_cases q4 : k = 30
  · subst q4
    exact ⟨-2, _, _, _, _, _, _, _, _, _, _, _, _, _, _, _, _, _, _, _, _, _, _, _, _, by rw [if_neg (show ¬ nI 30 < 30 by decide)], by rw [if_pos (show nI 30 = 30 from rfl)], hI0⟩
  have hk : k < 30 := by omega
  rw [if_pos (show nI k < 30 from nI_lt (b := 30) hk (by omega)), if_neg (show ¬ nI k = 30 from fun e => q4 ((nI_eq (b := 30) (by omega) (by omega)).mp e))]
  unfold fX1_addRide
  rw [if_neg (bnd hk (by omega)), nI_clamp (n := k) (by omega)]
  have hnew : (∃ (tu on bl st : Nat → Int32), fX5_start N (nI v) v_x_heat_wave_number v_x_heat_wave_turn v_x_heat_wave_onIt v_x_heat_wave_blamed (nI z) v_x_heat_line_row = some (nI v, tu, on, bl) ∧ fX7_beginGroup N (nI n) (nI z) (nI g) (nI w) v_m_line v_m_stood = some (nI 0, nI 0, st) ∧ (∀ r, r < n → st r = tu r) ∧ (∀ r, r < 4 → on r = bit4 0 r) ∧ (∀ r, r < 4 → bl r = bit4 0 r)) := start_joint hN h2 (by omega) (nI v) v_x_heat_wave_number (nI g) (nI w) v_x_heat_line_row v_m_line v_x_heat_wave_turn v_x_heat_wave_onIt v_x_heat_wave_blamed v_m_stood hl
  rcases c8 with ⟨o1, o2⟩ | ⟨v0, k', o1, o2, o3, o4, o5, o6, o7, o8⟩
  · obtain ⟨tu, on, bl, st, n1, n2, n3, n4, n5⟩ := hnew
    obtain ⟨g', w', M1, M2, row1, li1, on1, bl1, fa1, itf1, t1, t2, t3, t4, t5, t6, t7⟩ := take_tail (v := v) (g := 0) (w := 0) hN h1 h2 hk h4 (by omega) (by omega) hj (by omega) f1 c1 c2 c3 c4 c5 c6 c7 f2 n3 n4 n5 (fun r _ => Nat.zero_testBit r)
    refine ⟨nI k, nI (k + 1), _, _, M1, _, _, nI (z - 1), row1, nI v, _, on1, bl1, fa1, nI (k + 1), nI (z - 1), 1, nI g', nI w', _, _, M2, li1, itf1, _, ?_, ?_, And.intro t7 (And.intro hP hW)⟩
    · rw [t1, scoreX_spec hN hk _ _ _ t2, ob2_some, o1, if_neg (fun e => nI_ne_m1 (v := v) (by omega) e.symm)]
      rw [o1] at n1
      rw [n1, ob4_some, t3, ob3_some, t4, ob2_some, nI_1, ob14_some]
    · rw [if_pos o2, n2, ob3_some, t5, ob3_some]
      rw [nI_clamp (n := k) (by omega)] at t6
      exact t6
  · by_cases q5 : v0 = v
    · subst q5
      obtain ⟨g', w', M1, M2, row1, li1, on1, bl1, fa1, itf1, t1, t2, t3, t4, t5, t6, t7⟩ := take_tail (v := v0) (g := g) (w := w) hN h1 h2 hk h4 (by omega) (by omega) hj (by omega) f1 c1 c2 c3 c4 c5 c6 c7 f2 o6 (fun r hr => (o7 r hr).1) (fun r hr => (o7 r hr).2) o8
      refine ⟨nI k, nI (k + 1), _, _, M1, _, _, nI (z - 1), row1, nI v0, _, on1, bl1, fa1, nI (k + 1), nI (z - 1), 1, nI g', nI w', _, _, M2, li1, itf1, _, ?_, ?_, And.intro t7 (And.intro hP hW)⟩
      · rw [t1, scoreX_spec hN hk _ _ _ t2, ob2_some, o3, if_pos rfl, t3, ob3_some, t4, ob2_some, nI_1, ob14_some]
      · rw [if_neg (by rw [o4]; decide), o2, nI_pred, if_neg (bnd (by omega) (by omega)), nI_clamp (n := k') (by omega), (c1 k' (by omega)).2.1, o5, if_pos rfl, ← o2, t5, ob3_some]
        rw [nI_clamp (n := k) (by omega)] at t6
        exact t6
    · obtain ⟨tu, on, bl, st, n1, n2, n3, n4, n5⟩ := hnew
      obtain ⟨g', w', M1, M2, row1, li1, on1, bl1, fa1, itf1, t1, t2, t3, t4, t5, t6, t7⟩ := take_tail (v := v) (g := 0) (w := 0) hN h1 h2 hk h4 (by omega) (by omega) hj (by omega) f1 c1 c2 c3 c4 c5 c6 c7 f2 n3 n4 n5 (fun r _ => Nat.zero_testBit r)
      refine ⟨nI k, nI (k + 1), _, _, M1, _, _, nI (z - 1), row1, nI v, _, on1, bl1, fa1, nI (k + 1), nI (z - 1), 1, nI g', nI w', _, _, M2, li1, itf1, _, ?_, ?_, And.intro t7 (And.intro hP hW)⟩
      · rw [t1, scoreX_spec hN hk _ _ _ t2, ob2_some, o3, if_neg (fun e => q5 ((nI_eq (by omega) (by omega)).mp e))]
        rw [o3] at n1
        rw [n1, ob4_some, t3, ob3_some, t4, ob2_some, nI_1, ob14_some]
      · rw [if_neg (by rw [o4]; decide), o2, nI_pred, if_neg (bnd (by omega) (by omega)), nI_clamp (n := k') (by omega), (c1 k' (by omega)).2.1, o5, if_neg (fun e => q5 ((nI_eq (by omega) (by omega)).mp e)), ← o2, n2, ob3_some, t5, ob3_some]
        rw [nI_clamp (n := k) (by omega)] at t6
        exact t6
