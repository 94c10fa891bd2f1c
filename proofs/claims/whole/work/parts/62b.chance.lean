/-! chance -/
theorem cntP_joint {N p : Nat} (hp : p ≤ 40) (v : Int32) (sc sc' : Nat → Int32) (h : ∀ i, i < p → sc' i = sc i) (K : Int32 → Int32 → Option (Int32 × (Nat → Int32) × (Nat → Int32) × (Nat → Int32))) : ∀ (m i fuel a : Nat), i + m = p → m < fuel → a ≤ i → ∃ c, c ≤ p ∧ fX3_notBelow_L4 N v (nI p) sc fuel (nI a) (nI i) = some (nI c) ∧ fX7_chance_L50 N v (nI p) sc' K fuel (nI a) (nI i) = K (nI c) (nI p)
  | 0, i, 0, a, e, hf, ha => absurd hf (by omega)
  | m + 1, i, 0, a, e, hf, ha => absurd hf (by omega)
  | 0, i, fuel + 1, a, e, hf, ha => by
    obtain rfl : i = p := by omega
    exact ⟨a, ha, by rw [fX3_notBelow_L4, if_pos (nI_le (Nat.le_refl i) (by omega))], by rw [fX7_chance_L50, if_pos (nI_le (Nat.le_refl i) (by omega))]⟩
  | m + 1, i, fuel + 1, a, e, hf, ha => by
    rw [fX3_notBelow_L4, if_neg (nI_ge (by omega) (by omega)), if_neg (bnd (by omega) (by omega)), nI_clamp (n := i) (by omega), nI_1 i]
    rw [fX7_chance_L50, if_neg (nI_ge (by omega) (by omega)), if_neg (bnd (by omega) (by omega)), nI_clamp (n := i) (by omega), nI_1 i, h i (by omega), Int32.add_zero]
    by_cases q : sc i < v
    · rw [if_pos q, if_pos q]
      exact cntP_joint hp v sc sc' h K m (i + 1) fuel a (by omega) (by omega) (by omega)
    · rw [if_neg q, if_neg q, nI_1 a]
      exact cntP_joint hp v sc sc' h K m (i + 1) fuel (a + 1) (by omega) (by omega) (by omega)
theorem chance_fin {N c p : Nat} (hN : 70000 ≤ N) (hc : c ≤ p) (hp : p ≤ 40) (x : Int32) (hx : x = 0 ∨ x = 1) (o1 o2 q1 q2 q3 : Nat → Int32) :
    ∃ r : Int32, ob1 (fX6_cleared N (nI c).toInt64 (nI p).toInt64 x) (fun y => some (y.toInt32, o1, o2)) = some (r, o1, o2) ∧
      (if nI c = 0 then some (x, q1, q2, q3) else ob1 (fX7_common N (nI c).toInt64 (nI p).toInt64) (fun y => if x = 0 then (if y.toInt32 = 0 then none else some (nI c / y.toInt32, q1, q2, q3)) else (if y.toInt32 = 0 then none else some (nI p / y.toInt32, q1, q2, q3)))) = some (r, q1, q2, q3) := by
  rw [nI_l (n := c) (by omega), nI_l (n := p) (by omega)]
  rcases Nat.eq_zero_or_pos c with rfl | h0
  · refine ⟨x, ?_, ?_⟩
    · rw [cleared_0, ob1_some]
      rcases hx with rfl | rfl <;> rfl
    · rw [if_pos nI_0]
  · have g0 : 0 < Nat.gcd c p := Nat.gcd_pos_of_pos_left p h0
    have g1 : Nat.gcd c p ≤ c := Nat.gcd_le_left p h0
    refine ⟨nI ((if x = 0 then c else p) / Nat.gcd c p), ?_, ?_⟩
    · rw [cleared_spec hN (by omega) (by omega) h0 (by omega), ob1_some, lN_i]
    · rw [if_neg (nI_ne0 h0 (by omega)), gcdM_spec hN (by omega) (by omega), ob1_some, lN_i, if_neg (nI_ne0 g0 (by omega)), if_neg (nI_ne0 g0 (by omega)), pk_div (by omega) g0 (by omega), pk_div (by omega) g0 (by omega)]
      by_cases q : x = 0
      · rw [if_pos q, if_pos q]
      · rw [if_neg q, if_neg q]
theorem aob_spec (N : Nat) (x : Int32) : fX6_isAboveOrBelow N x = some (if x < 0 ∨ 1 < x then 0 else 1) := by
  unfold fX6_isAboveOrBelow
  by_cases q0 : x = 0
  · subst q0; rfl
  · by_cases q1 : x = 1
    · subst q1; rfl
    · rw [if_neg q0, if_neg q1, if_pos]
      by_cases q : x < 0
      · exact Or.inl q
      · obtain ⟨j, hj, rfl⟩ := nI_of q
        refine Or.inr (nI_lt (a := 1) ?_ hj)
        rcases (show j = 0 ∨ j = 1 ∨ 1 < j by omega) with rfl | rfl | h
        · exact absurd rfl q0
        · exact absurd rfl q1
        · exact h
theorem aob_in {x : Int32} (h : ¬ (x < 0 ∨ 1 < x)) : x = 0 ∨ x = 1 := by
  obtain ⟨j, hj, rfl⟩ := nI_of (fun q => h (Or.inl q))
  rcases (show j = 0 ∨ j = 1 ∨ 1 < j by omega) with rfl | rfl | q
  · exact Or.inl rfl
  · exact Or.inr rfl
  · exact absurd (Or.inr (nI_lt (a := 1) q hj)) h
set_option maxHeartbeats 1000000 in
theorem op_chance {N : Nat} (hN : 70000 ≤ N) {v_x_heat_riders : Int32} {v_x_heat_rides : Int32} {v_x_heat_riderOf : Nat → Int32} {v_x_heat_waveOf : Nat → Int32} {v_x_heat_marks : Nat → Int32} {v_x_heat_marksOf : Nat → Int32} {v_x_heat_scoreOf : Nat → Int32} {v_x_heat_toGive : Nat → Int32} {v_x_heat_line_size : Int32} {v_x_heat_line_row : Nat → Int32} {v_x_heat_wave_number : Int32} {v_x_heat_wave_turn : Nat → Int32} {v_x_heat_wave_onIt : Nat → Int32} {v_x_heat_wave_blamed : Nat → Int32} {v_x_heat_board_riders : Int32} {v_x_heat_board_best : Nat → Int32} {v_x_heat_board_second : Nat → Int32} {v_x_heat_board_faults : Nat → Int32} {v_x_past_size : Int32} {v_x_past_scores : Nat → Int32} {v_x_wait_days : Int32} {v_x_wait_from : Nat → Int32} {v_x_wait_to : Nat → Int32} {v_x_wait_known : Nat → Int32} {v_x_wait_above : Nat → Nat → Int64} {v_x_wait_below : Nat → Int64} {v_m_riders : Int32} {v_m_rides : Int32} {v_m_lineMany : Int32} {v_m_isOpen : Int32} {v_m_group : Int32} {v_m_wrong : Int32} {v_m_pastMany : Int32} {v_m_days : Int32} {v_m_riderOf : Nat → Int32} {v_m_waveOf : Nat → Int32} {v_m_marks : Nat → Int32} {v_m_line : Nat → Int32} {v_m_interfered : Nat → Int32} {v_m_stood : Nat → Int32} {v_m_past : Nat → Int32} {v_m_low : Nat → Int32} {v_m_high : Nat → Int32} {v_m_was : Nat → Int32} {v_m_best : Nat → Int32} {v_m_second : Nat → Int32} {v_m_total : Nat → Int32} {v_m_givenTo : Nat → Int32} {v_m_has : Nat → Int32} {v_m_own : Nat → Int32} {v_m_sums : Nat → Int64} {v_m_below : Nat → Int64} (hI : Inv v_x_heat_riders v_x_heat_rides v_x_heat_riderOf v_x_heat_waveOf v_x_heat_marks v_x_heat_marksOf v_x_heat_scoreOf v_x_heat_toGive v_x_heat_line_size v_x_heat_line_row v_x_heat_wave_number v_x_heat_wave_turn v_x_heat_wave_onIt v_x_heat_wave_blamed v_x_heat_board_riders v_x_heat_board_best v_x_heat_board_second v_x_heat_board_faults v_x_past_size v_x_past_scores v_x_wait_days v_x_wait_from v_x_wait_to v_x_wait_known v_x_wait_above v_x_wait_below v_m_riders v_m_rides v_m_lineMany v_m_isOpen v_m_group v_m_wrong v_m_pastMany v_m_days v_m_riderOf v_m_waveOf v_m_marks v_m_line v_m_interfered v_m_stood v_m_past v_m_low v_m_high v_m_was v_m_best v_m_second v_m_total v_m_givenTo v_m_has v_m_own v_m_sums v_m_below) (a1 : Int32) (a2 : Int32) (a3 : Int32) :
    ∃ (r : Int32) (o_x_heat_board_best : Nat → Int32) (o_x_heat_board_second : Nat → Int32) (o_m_best : Nat → Int32) (o_m_second : Nat → Int32) (o_m_total : Nat → Int32), fX6_chance N a1 a2 a3 v_x_heat_riders v_x_heat_rides v_x_heat_riderOf v_x_heat_scoreOf v_x_heat_board_riders v_x_heat_board_best v_x_heat_board_second v_x_heat_board_faults v_x_past_size v_x_past_scores = some (r, o_x_heat_board_best, o_x_heat_board_second) ∧ fX7_chance N a1 a2 a3 v_m_riders v_m_rides v_m_pastMany v_m_riderOf v_m_marks v_m_interfered v_m_past v_m_best v_m_second v_m_total = some (r, o_m_best, o_m_second, o_m_total) ∧ Inv v_x_heat_riders v_x_heat_rides v_x_heat_riderOf v_x_heat_waveOf v_x_heat_marks v_x_heat_marksOf v_x_heat_scoreOf v_x_heat_toGive v_x_heat_line_size v_x_heat_line_row v_x_heat_wave_number v_x_heat_wave_turn v_x_heat_wave_onIt v_x_heat_wave_blamed v_x_heat_board_riders o_x_heat_board_best o_x_heat_board_second v_x_heat_board_faults v_x_past_size v_x_past_scores v_x_wait_days v_x_wait_from v_x_wait_to v_x_wait_known v_x_wait_above v_x_wait_below v_m_riders v_m_rides v_m_lineMany v_m_isOpen v_m_group v_m_wrong v_m_pastMany v_m_days v_m_riderOf v_m_waveOf v_m_marks v_m_line v_m_interfered v_m_stood v_m_past v_m_low v_m_high v_m_was o_m_best o_m_second o_m_total v_m_givenTo v_m_has v_m_own v_m_sums v_m_below := by
  have hI0 := hI
  obtain ⟨hH, hP, hW⟩ := hI
  have hH0 := hH
  obtain ⟨n, k, z, g, w, h1, h2, h3, h4, h5, h6, rfl, rfl, rfl, rfl, rfl, rfl, rfl, rfl, rfl, c1, c2, c3, c4, c5, c6, c7, c8⟩ := hH
  have hs : ∀ i, i < k → fX7_scoreOf N (nI i) v_m_marks = some (v_x_heat_scoreOf i) := fun i hi => by
    rw [scoreM_spec hN (by omega) _ (fun j hj => by rw [show rowM v_m_marks i j = _ from (c2 i hi j hj).1]; exact (c2 i hi j hj).2), (c3 i hi).2, scoreS_congr (fun j hj => (c2 i hi j hj).1)]
  obtain ⟨p, p1, rfl, rfl, p4⟩ := hP
  have hP : InvP (nI p) v_x_past_scores (nI p) v_m_past := ⟨p, p1, rfl, rfl, p4⟩
  unfold fX6_chance fX7_chance fX6_need
  rw [aob_spec, ob1_some, hasRider_spec, ob1_some, isRider_spec N a1 (by omega) (by omega), ob1_some, in_spec, ob1_some, in_spec, ob1_some]
  by_cases q3 : a3 < 0 ∨ 1 < a3
  · refine ⟨-1, v_x_heat_board_best, v_x_heat_board_second, v_m_best, v_m_second, v_m_total, by rw [if_pos q3]; rfl, ?_, hI0⟩
    rw [if_pos q3]
    by_cases q1 : a1 < 0 ∨ nI n ≤ a1
    · rw [if_pos q1]; rfl
    · rw [if_neg q1, if_neg (show ¬ (1 : Int32) = 0 by decide)]
      by_cases q2 : a2 < 0 ∨ 3 < a2
      · rw [if_pos q2]; rfl
      · rw [if_neg q2]; rfl
  simp only [if_neg q3]
  rw [if_neg (show ¬ (1 : Int32) = 0 by decide), if_neg (show ¬ (1 : Int32) = 0 by decide)]
  by_cases q1 : a1 < 0 ∨ nI n ≤ a1
  · exact ⟨-1, _, _, _, _, _, by rw [if_pos q1]; rfl, by rw [if_pos q1]; rfl, hI0⟩
  rw [if_neg q1, if_neg (show ¬ (1 : Int32) = 0 by decide), if_neg (show ¬ (1 : Int32) = 0 by decide)]
  obtain ⟨j, hj, rfl⟩ := inside (by omega) q1
  by_cases q2 : a2 < 0
  · exact ⟨-1, _, _, _, _, _, by rw [if_pos q2]; rfl, by rw [if_pos (show a2 < 0 ∨ 3 < a2 from Or.inl q2)]; rfl, hI0⟩
  by_cases q4 : a2 < 4
  · obtain ⟨r, d1, e1, d2, e2, t2, x1, x2, x3⟩ := need_core hN h2 h3 hj v_x_heat_riderOf v_m_riderOf v_x_heat_scoreOf v_m_marks v_x_heat_board_faults v_m_interfered v_x_heat_board_best v_x_heat_board_second v_m_best v_m_second v_m_total (fun i hi => ⟨(c1 i hi).1, (c1 i hi).2.2.1⟩) hs c6 a2
    rw [if_neg q2, if_pos q4, x1, ob3_some, ob3_some, if_neg (show ¬ (a2 < 0 ∨ 3 < a2) from fun hh => hh.elim q2 (fun h => (lt4 a2).mp h q4)), if_neg (show ¬ (1 : Int32) = 0 by decide), x2, ob4_some]
    rcases x3 with rfl | ⟨v, hv, rfl⟩
    · exact ⟨-4, d1, e1, d2, e2, t2, by rw [if_neg (show ¬ (0 : Int32) ≤ -4 by decide)], by rw [if_neg (show ¬ (0 : Int32) ≤ -4 by decide)], And.intro hH0 (And.intro hP hW)⟩
    · rw [if_pos (nI_pos' (by omega)), if_pos (nI_pos' (by omega))]
      obtain ⟨c, hc, y1, y2⟩ := cntP_joint (N := N) p1 (nI v) v_x_past_scores v_m_past p4 (fun (x5_12 : Int32) (x6_12 : Int32) =>
            if x5_12 = 0 then
            some (a3, d2, e2, t2)
          else
            ob1 (fX7_common N x5_12.toInt64 (nI p).toInt64) (fun r_14 =>
            if a3 = 0 then
              if r_14.toInt32 = 0 then none else
              some (x5_12 / r_14.toInt32, d2, e2, t2)
            else
              if r_14.toInt32 = 0 then none else
              some (nI p / r_14.toInt32, d2, e2, t2))) p 0 N 0 (by omega) (by omega) (by omega)
      obtain ⟨r, z1, z2⟩ := chance_fin hN hc p1 a3 (aob_in q3) d1 e1 d2 e2 t2
      refine ⟨r, d1, e1, d2, e2, t2, ?_, ?_, And.intro hH0 (And.intro hP hW)⟩
      · rw [show fX3_notBelow N (nI v) (nI p) v_x_past_scores = some (nI c) from y1, ob1_some]
        exact z1
      · exact y2.trans z2
  · exact ⟨-1, _, _, _, _, _, by rw [if_neg q2, if_neg q4]; rfl, by rw [if_pos (show a2 < 0 ∨ 3 < a2 from Or.inr ((lt4 a2).mpr q4))]; rfl, hI0⟩
