/-! of, mark -/
def Rl (s : Int32 × Int32 × Int32 × Int32) (x4 x5 : Int32) : Prop := (s.1 = 0 ∧ x4 = 100 ∧ x5 = 0 ∧ s.2.2.1 = 101 ∧ s.2.2.2 = -1) ∨ (¬ s.1 = 0 ∧ x4 = s.2.2.1 ∧ x5 = s.2.2.2)
theorem m_lo {v : Nat} (h : v ≤ 100) : (if nI v < 100 then nI v else 100) = nI v := by
  by_cases c : nI v < 100
  · rw [if_pos c]
  · rw [if_neg c]
    rcases Nat.lt_or_ge v 100 with q | q
    · exact absurd (show nI v < 100 from nI_lt (b := 100) q (by omega)) c
    · rw [show v = 100 by omega]; rfl
theorem m_hi {v : Nat} (h : v ≤ 100) : (if 0 < nI v then nI v else 0) = nI v := by
  by_cases c : 0 < nI v
  · rw [if_pos c]
  · rw [if_neg c]
    rcases Nat.eq_zero_or_pos v with q | q
    · rw [q]; rfl
    · exact absurd (show (0 : Int32) < nI v from nI_lt (a := 0) q (by omega)) c
theorem m_lo1 {v : Nat} (h : v ≤ 100) : (if nI v < 101 then nI v else 101) = nI v := if_pos (show nI v < 101 from nI_lt (b := 101) (by omega) (by omega))
theorem m_hi1 {v : Nat} (h : v ≤ 100) : (if (-1 : Int32) < nI v then nI v else -1) = nI v := if_pos (by
  rw [Int32.lt_iff_toInt_lt, nI_toInt (by omega), show (-1 : Int32).toInt = -1 by decide]
  omega)
theorem scX_loop {N k : Nat} (hk : k < 30) (marks : Nat → Int32) (ha : okM (rowM marks k)) (K : Int32 → Int32 → Int32 → Int32 → Int32 → Option ((Nat → Int32) × (Nat → Int32))) : ∀ (m j fuel : Nat) (x4 x5 : Int32), j + m = 5 → m < fuel → Rl (scAcc (rowM marks k) j) x4 x5 → ∃ y4 y5 : Int32, Rl (scAcc (rowM marks k) 5) y4 y5 ∧ fX1_score_L14 N (nI k) marks K fuel (scAcc (rowM marks k) j).1 (scAcc (rowM marks k) j).2.1 x4 x5 (nI j) = K (scAcc (rowM marks k) 5).1 (scAcc (rowM marks k) 5).2.1 y4 y5 (nI 5)
  | 0, j, 0, _, _, e, hf, _ => absurd hf (by omega)
  | m + 1, j, 0, _, _, e, hf, _ => absurd hf (by omega)
  | 0, j, fuel + 1, x4, x5, e, hf, hr => by
    obtain rfl : j = 5 := by omega
    exact ⟨x4, x5, hr, by rw [fX1_score_L14, if_pos (show (5 : Int32) ≤ nI 5 by decide)]⟩
  | m + 1, j, fuel + 1, x4, x5, e, hf, hr => by
    obtain ⟨q, q1, q2⟩ := scAcc_cnt j (by omega) ha
    have es := scAcc_s (rowM marks k) j
    have step : ∀ z4 z5, Rl (scAcc (rowM marks k) (j + 1)) z4 z5 → _ := fun z4 z5 => scX_loop (N := N) hk marks ha K m (j + 1) fuel z4 z5 (by omega) (by omega)
    rw [fX1_score_L14, if_neg (show ¬ (5 : Int32) ≤ nI j from nI_ge (b := 5) (by omega) (by omega)), ix1, if_neg (bnd (by omega) (by omega)), nI_clamp (by omega), nI_1]
    rw [show marks (5 * k + j) = rowM marks k j from rfl]
    rcases ha j (by omega) with h | ⟨v, hv, h⟩
    · rw [h] at es ⊢
      rw [if_neg (show ¬ (0 : Int32) ≤ -1 by decide)] at es
      rw [if_pos rfl]
      rw [es] at step
      exact step x4 x5 hr
    · rw [h] at es ⊢
      rw [if_pos (nI_pos' (by omega))] at es
      rw [if_neg (nI_ne_m1 (by omega))]
      rw [es] at step
      refine step _ _ (Or.inr ⟨?_, ?_, ?_⟩)
      · show ¬ (scAcc (rowM marks k) j).1 + 1 = 0
        rw [q2, nI_1]; exact nI_ne0 (by omega) (by omega)
      · show _ = if nI v < (scAcc (rowM marks k) j).2.2.1 then nI v else (scAcc (rowM marks k) j).2.2.1
        rcases hr with ⟨_, r2, _, r4, _⟩ | ⟨_, r2, _⟩
        · rw [r2, r4, m_lo hv, m_lo1 hv]
        · rw [r2]
      · show _ = if (scAcc (rowM marks k) j).2.2.2 < nI v then nI v else (scAcc (rowM marks k) j).2.2.2
        rcases hr with ⟨_, _, r3, _, r5⟩ | ⟨_, _, r3⟩
        · rw [r3, r5, m_hi hv, m_hi1 hv]
        · rw [r3]
theorem i_sub_sub (s l g : Int32) : s - (l + g) = s - l - g := by
  rw [Int32.sub_eq_add_neg s (l + g), Int32.neg_add, Int32.sub_eq_add_neg (-l) g, ← Int32.add_assoc, Int32.sub_eq_add_neg (s - l) g, Int32.sub_eq_add_neg s l]
theorem scoreX_spec {N k : Nat} (hN : 70000 ≤ N) (hk : k < 30) (marks mo so : Nat → Int32) (ha : okM (rowM marks k)) : fX1_score N (nI k) marks mo so = some (upd mo k (cntS (rowM marks k)), upd so k (scoreS (rowM marks k))) := by
  unfold fX1_score
  obtain ⟨y4, y5, hr, he⟩ := scX_loop (N := N) hk marks ha _ 5 0 N 100 0 (by omega) (by omega) (Or.inl ⟨rfl, rfl, rfl, rfl, rfl⟩)
  rw [show fX1_score_L14 N (nI k) marks _ N 0 0 100 0 0 = _ from he]
  rw [if_neg (bnd hk (by omega)), nI_clamp (by omega)]
  obtain ⟨m, h1, h2⟩ := scAcc_cnt 5 (Nat.le_refl 5) ha
  unfold scoreS cntS
  rw [h2]
  rcases (show m = 0 ∨ m = 1 ∨ m = 2 ∨ m = 3 ∨ m = 4 ∨ m = 5 by omega) with rfl | rfl | rfl | rfl | rfl | rfl
  · rfl
  · rfl
  · rfl
  · rfl
  · rcases hr with ⟨r1, _⟩ | ⟨_, r2, r3⟩
    · exact absurd r1 (by rw [h2]; decide)
    · rw [if_neg (show ¬ nI 4 < 4 by decide), if_neg (show ¬ nI 4 + -2 ≤ 0 by decide), if_neg (show ¬ nI 4 + -2 = 0 by decide), if_pos (show 3 < nI 4 by decide), r2, r3, i_sub_sub]
      rfl
  · rcases hr with ⟨r1, _⟩ | ⟨_, r2, r3⟩
    · exact absurd r1 (by rw [h2]; decide)
    · rw [if_neg (show ¬ nI 5 < 4 by decide), if_neg (show ¬ nI 5 + -2 ≤ 0 by decide), if_neg (show ¬ nI 5 + -2 = 0 by decide), if_pos (show 3 < nI 5 by decide), r2, r3, i_sub_sub]
      rfl
theorem cntS_congr {f g : Nat → Int32} {k : Nat} (h : ∀ j, j < 5 → g (5 * k + j) = f (5 * k + j)) : cntS (rowM g k) = cntS (rowM f k) := by
  unfold cntS; rw [rowM_congr h 5 (Nat.le_refl 5)]
theorem scoreS_congr {f g : Nat → Int32} {k : Nat} (h : ∀ j, j < 5 → g (5 * k + j) = f (5 * k + j)) : scoreS (rowM g k) = scoreS (rowM f k) := by
  unfold scoreS; rw [rowM_congr h 5 (Nat.le_refl 5)]
set_option maxHeartbeats 1000000 in
theorem op_of {N : Nat} (hN : 70000 ≤ N) {v_x_heat_riders : Int32} {v_x_heat_rides : Int32} {v_x_heat_riderOf : Nat → Int32} {v_x_heat_waveOf : Nat → Int32} {v_x_heat_marks : Nat → Int32} {v_x_heat_marksOf : Nat → Int32} {v_x_heat_scoreOf : Nat → Int32} {v_x_heat_toGive : Nat → Int32} {v_x_heat_line_size : Int32} {v_x_heat_line_row : Nat → Int32} {v_x_heat_wave_number : Int32} {v_x_heat_wave_turn : Nat → Int32} {v_x_heat_wave_onIt : Nat → Int32} {v_x_heat_wave_blamed : Nat → Int32} {v_x_heat_board_riders : Int32} {v_x_heat_board_best : Nat → Int32} {v_x_heat_board_second : Nat → Int32} {v_x_heat_board_faults : Nat → Int32} {v_x_past_size : Int32} {v_x_past_scores : Nat → Int32} {v_x_wait_days : Int32} {v_x_wait_from : Nat → Int32} {v_x_wait_to : Nat → Int32} {v_x_wait_known : Nat → Int32} {v_x_wait_above : Nat → Nat → Int64} {v_x_wait_below : Nat → Int64} {v_m_riders : Int32} {v_m_rides : Int32} {v_m_lineMany : Int32} {v_m_isOpen : Int32} {v_m_group : Int32} {v_m_wrong : Int32} {v_m_pastMany : Int32} {v_m_days : Int32} {v_m_riderOf : Nat → Int32} {v_m_waveOf : Nat → Int32} {v_m_marks : Nat → Int32} {v_m_line : Nat → Int32} {v_m_interfered : Nat → Int32} {v_m_stood : Nat → Int32} {v_m_past : Nat → Int32} {v_m_low : Nat → Int32} {v_m_high : Nat → Int32} {v_m_was : Nat → Int32} {v_m_best : Nat → Int32} {v_m_second : Nat → Int32} {v_m_total : Nat → Int32} {v_m_givenTo : Nat → Int32} {v_m_has : Nat → Int32} {v_m_own : Nat → Int32} {v_m_sums : Nat → Int64} {v_m_below : Nat → Int64} (hI : Inv v_x_heat_riders v_x_heat_rides v_x_heat_riderOf v_x_heat_waveOf v_x_heat_marks v_x_heat_marksOf v_x_heat_scoreOf v_x_heat_toGive v_x_heat_line_size v_x_heat_line_row v_x_heat_wave_number v_x_heat_wave_turn v_x_heat_wave_onIt v_x_heat_wave_blamed v_x_heat_board_riders v_x_heat_board_best v_x_heat_board_second v_x_heat_board_faults v_x_past_size v_x_past_scores v_x_wait_days v_x_wait_from v_x_wait_to v_x_wait_known v_x_wait_above v_x_wait_below v_m_riders v_m_rides v_m_lineMany v_m_isOpen v_m_group v_m_wrong v_m_pastMany v_m_days v_m_riderOf v_m_waveOf v_m_marks v_m_line v_m_interfered v_m_stood v_m_past v_m_low v_m_high v_m_was v_m_best v_m_second v_m_total v_m_givenTo v_m_has v_m_own v_m_sums v_m_below) (a1 : Int32) (a2 : Int32) :
    ∃ (r : Int32), fX6_of N a1 a2 v_x_heat_rides v_x_heat_riderOf v_x_heat_waveOf v_x_heat_marksOf v_x_heat_scoreOf = some r ∧ fX7_of N a1 a2 v_m_rides v_m_riderOf v_m_waveOf v_m_marks = some r ∧ Inv v_x_heat_riders v_x_heat_rides v_x_heat_riderOf v_x_heat_waveOf v_x_heat_marks v_x_heat_marksOf v_x_heat_scoreOf v_x_heat_toGive v_x_heat_line_size v_x_heat_line_row v_x_heat_wave_number v_x_heat_wave_turn v_x_heat_wave_onIt v_x_heat_wave_blamed v_x_heat_board_riders v_x_heat_board_best v_x_heat_board_second v_x_heat_board_faults v_x_past_size v_x_past_scores v_x_wait_days v_x_wait_from v_x_wait_to v_x_wait_known v_x_wait_above v_x_wait_below v_m_riders v_m_rides v_m_lineMany v_m_isOpen v_m_group v_m_wrong v_m_pastMany v_m_days v_m_riderOf v_m_waveOf v_m_marks v_m_line v_m_interfered v_m_stood v_m_past v_m_low v_m_high v_m_was v_m_best v_m_second v_m_total v_m_givenTo v_m_has v_m_own v_m_sums v_m_below := by
  have hI0 := hI
  obtain ⟨⟨n, k, z, g, w, h1, h2, h3, h4, h5, h6, rfl, rfl, rfl, rfl, rfl, rfl, rfl, rfl, rfl, c1, c2, c3, c4, c5, c6, c7, c8⟩, hP, hW⟩ := hI
  unfold fX6_of fX7_of
  rw [hasRide_spec, ob1_some, isRide_spec N a1 (by omega), ob1_some]
  by_cases q1 : a1 < 0 ∨ nI k ≤ a1
  · exact ⟨-1, by rw [if_pos q1]; rfl, by rw [if_pos q1]; rfl, hI0⟩
  rw [if_neg q1, if_neg (show ¬ (1 : Int32) = 0 by decide), if_neg (show ¬ (1 : Int32) = 0 by decide)]
  obtain ⟨i, hi, rfl⟩ := inside (by omega) q1
  have hb := bnd (i := i) (n := 30) (by omega) (by omega)
  by_cases q2 : a2 = 0
  · exact ⟨_, by rw [if_pos q2, if_neg hb], by rw [if_pos q2, if_neg hb, nI_clamp (by omega), (c1 i hi).1], hI0⟩
  by_cases q3 : a2 = 1
  · exact ⟨_, by rw [if_neg q2, if_pos q3, if_neg hb], by rw [if_neg q2, if_pos q3, if_neg hb, nI_clamp (by omega), (c1 i hi).2.1], hI0⟩
  by_cases q4 : a2 = 2
  · refine ⟨_, by rw [if_neg q2, if_neg q3, if_pos q4, if_neg hb], ?_, hI0⟩
    rw [if_neg q2, if_neg q3, if_pos q4, cntM_spec hN (by omega), ob1_some, nI_clamp (by omega), (c3 i hi).1, cntS_congr (fun j hj => (c2 i hi j hj).1)]
  by_cases q5 : a2 = 3
  · refine ⟨_, by rw [if_neg q2, if_neg q3, if_neg q4, if_pos q5, if_neg hb], ?_, hI0⟩
    rw [if_neg q2, if_neg q3, if_neg q4, if_pos q5, scoreM_spec hN (by omega) _ (fun j hj => by rw [show rowM v_m_marks i j = _ from (c2 i hi j hj).1]; exact (c2 i hi j hj).2), ob1_some, nI_clamp (by omega), (c3 i hi).2, scoreS_congr (fun j hj => (c2 i hi j hj).1)]
  · exact ⟨-1, by rw [if_neg q2, if_neg q3, if_neg q4, if_neg q5], by rw [if_neg q2, if_neg q3, if_neg q4, if_neg q5], hI0⟩
set_option maxHeartbeats 1000000 in
theorem op_mark {N : Nat} (hN : 70000 ≤ N) {v_x_heat_riders : Int32} {v_x_heat_rides : Int32} {v_x_heat_riderOf : Nat → Int32} {v_x_heat_waveOf : Nat → Int32} {v_x_heat_marks : Nat → Int32} {v_x_heat_marksOf : Nat → Int32} {v_x_heat_scoreOf : Nat → Int32} {v_x_heat_toGive : Nat → Int32} {v_x_heat_line_size : Int32} {v_x_heat_line_row : Nat → Int32} {v_x_heat_wave_number : Int32} {v_x_heat_wave_turn : Nat → Int32} {v_x_heat_wave_onIt : Nat → Int32} {v_x_heat_wave_blamed : Nat → Int32} {v_x_heat_board_riders : Int32} {v_x_heat_board_best : Nat → Int32} {v_x_heat_board_second : Nat → Int32} {v_x_heat_board_faults : Nat → Int32} {v_x_past_size : Int32} {v_x_past_scores : Nat → Int32} {v_x_wait_days : Int32} {v_x_wait_from : Nat → Int32} {v_x_wait_to : Nat → Int32} {v_x_wait_known : Nat → Int32} {v_x_wait_above : Nat → Nat → Int64} {v_x_wait_below : Nat → Int64} {v_m_riders : Int32} {v_m_rides : Int32} {v_m_lineMany : Int32} {v_m_isOpen : Int32} {v_m_group : Int32} {v_m_wrong : Int32} {v_m_pastMany : Int32} {v_m_days : Int32} {v_m_riderOf : Nat → Int32} {v_m_waveOf : Nat → Int32} {v_m_marks : Nat → Int32} {v_m_line : Nat → Int32} {v_m_interfered : Nat → Int32} {v_m_stood : Nat → Int32} {v_m_past : Nat → Int32} {v_m_low : Nat → Int32} {v_m_high : Nat → Int32} {v_m_was : Nat → Int32} {v_m_best : Nat → Int32} {v_m_second : Nat → Int32} {v_m_total : Nat → Int32} {v_m_givenTo : Nat → Int32} {v_m_has : Nat → Int32} {v_m_own : Nat → Int32} {v_m_sums : Nat → Int64} {v_m_below : Nat → Int64} (hI : Inv v_x_heat_riders v_x_heat_rides v_x_heat_riderOf v_x_heat_waveOf v_x_heat_marks v_x_heat_marksOf v_x_heat_scoreOf v_x_heat_toGive v_x_heat_line_size v_x_heat_line_row v_x_heat_wave_number v_x_heat_wave_turn v_x_heat_wave_onIt v_x_heat_wave_blamed v_x_heat_board_riders v_x_heat_board_best v_x_heat_board_second v_x_heat_board_faults v_x_past_size v_x_past_scores v_x_wait_days v_x_wait_from v_x_wait_to v_x_wait_known v_x_wait_above v_x_wait_below v_m_riders v_m_rides v_m_lineMany v_m_isOpen v_m_group v_m_wrong v_m_pastMany v_m_days v_m_riderOf v_m_waveOf v_m_marks v_m_line v_m_interfered v_m_stood v_m_past v_m_low v_m_high v_m_was v_m_best v_m_second v_m_total v_m_givenTo v_m_has v_m_own v_m_sums v_m_below) (a1 : Int32) (a2 : Int32) (a3 : Int32) :
    ∃ (r : Int32) (o_x_heat_marks : Nat → Int32) (o_x_heat_marksOf : Nat → Int32) (o_x_heat_scoreOf : Nat → Int32) (o_m_marks : Nat → Int32), fX6_mark N a1 a2 a3 v_x_heat_rides v_x_heat_marks v_x_heat_marksOf v_x_heat_scoreOf = some (r, o_x_heat_marks, o_x_heat_marksOf, o_x_heat_scoreOf) ∧ fX7_mark N a1 a2 a3 v_m_rides v_m_marks = some (r, o_m_marks) ∧ Inv v_x_heat_riders v_x_heat_rides v_x_heat_riderOf v_x_heat_waveOf o_x_heat_marks o_x_heat_marksOf o_x_heat_scoreOf v_x_heat_toGive v_x_heat_line_size v_x_heat_line_row v_x_heat_wave_number v_x_heat_wave_turn v_x_heat_wave_onIt v_x_heat_wave_blamed v_x_heat_board_riders v_x_heat_board_best v_x_heat_board_second v_x_heat_board_faults v_x_past_size v_x_past_scores v_x_wait_days v_x_wait_from v_x_wait_to v_x_wait_known v_x_wait_above v_x_wait_below v_m_riders v_m_rides v_m_lineMany v_m_isOpen v_m_group v_m_wrong v_m_pastMany v_m_days v_m_riderOf v_m_waveOf o_m_marks v_m_line v_m_interfered v_m_stood v_m_past v_m_low v_m_high v_m_was v_m_best v_m_second v_m_total v_m_givenTo v_m_has v_m_own v_m_sums v_m_below := by
  have hI0 := hI
  obtain ⟨⟨n, k, z, g, w, h1, h2, h3, h4, h5, h6, rfl, rfl, rfl, rfl, rfl, rfl, rfl, rfl, rfl, c1, c2, c3, c4, c5, c6, c7, c8⟩, hP, hW⟩ := hI
  unfold fX6_mark fX7_mark
  rw [hasRide_spec, ob1_some, isRide_spec N a1 (by omega), ob1_some]
  by_cases q1 : a1 < 0 ∨ nI k ≤ a1
  · exact ⟨-9, _, _, _, _, by rw [if_pos q1]; rfl, by rw [if_pos q1]; rfl, hI0⟩
  rw [if_neg q1, if_neg (show ¬ (1 : Int32) = 0 by decide), if_neg (show ¬ (1 : Int32) = 0 by decide)]
  obtain ⟨i, hi, rfl⟩ := inside (by omega) q1
  have e4 : fX7_in N a2 0 4 = some (if a2 < 0 ∨ nI 5 ≤ a2 then 0 else 1) := in_pred N a2 (n := 5) (by omega) (by omega)
  rw [e4, ob1_some]
  by_cases q2 : a2 < 0 ∨ nI 5 ≤ a2
  · refine ⟨-9, _, _, _, _, ?_, by rw [if_pos q2]; rfl, hI0⟩
    by_cases q3 : a2 < 0
    · rw [if_pos q3]
    · rw [if_neg q3, if_pos (show (5 : Int32) ≤ a2 from q2.resolve_left q3)]
  rw [if_neg q2, if_neg (show ¬ (1 : Int32) = 0 by decide), if_neg (fun h => q2 (Or.inl h)), if_neg (show ¬ (5 : Int32) ≤ a2 from fun h => q2 (Or.inr h)), in_spec, ob1_some]
  obtain ⟨j, hj, rfl⟩ := inside (by omega) q2
  by_cases q4 : a3 < -1
  · exact ⟨-9, _, _, _, _, by rw [if_pos q4], by rw [if_pos (show a3 < -1 ∨ 100 < a3 from Or.inl q4)]; rfl, hI0⟩
  by_cases q5 : a3 ≤ 100
  · have q6 : ¬ (a3 < -1 ∨ 100 < a3) := by
      rintro (h | h)
      · exact q4 h
      · exact absurd q5 (i_nle.mpr h)
    have hv : a3 = -1 ∨ ∃ v, v ≤ 100 ∧ a3 = nI v := by
      rcases pk_ix a3 (n := 101) (by omega) with h | h | ⟨v, hv, h⟩
      · left
        apply Int32.toInt_inj.mp
        rw [Int32.lt_iff_toInt_lt] at h q4
        rw [show (0 : Int32).toInt = 0 by decide] at h
        rw [show (-1 : Int32).toInt = -1 by decide] at q4 ⊢
        omega
      · exact absurd q5 (by rw [Int32.le_iff_toInt_le] at h ⊢; rw [show (nI 101).toInt = 101 by decide] at h; rw [show (100 : Int32).toInt = 100 by decide]; omega)
      · exact Or.inr ⟨v, by omega, h⟩
    have hrow : ∀ j', j' < 5 → upd v_x_heat_marks (5 * i + j) a3 (5 * i + j') = -1 ∨ ∃ v, v ≤ 100 ∧ upd v_x_heat_marks (5 * i + j) a3 (5 * i + j') = nI v := by
      intro j' hj'
      by_cases e : j' = j
      · subst e; rw [pk_us]; exact hv
      · rw [pk_un (by omega)]; exact (c2 i hi j' hj').2
    have hs := scoreX_spec hN (show i < 30 by omega) (upd v_x_heat_marks (5 * i + j) a3) v_x_heat_marksOf v_x_heat_scoreOf hrow
    refine ⟨v_x_heat_marks (5 * i + j), upd v_x_heat_marks (5 * i + j) a3, upd v_x_heat_marksOf i (cntS (rowM (upd v_x_heat_marks (5 * i + j) a3) i)), upd v_x_heat_scoreOf i (scoreS (rowM (upd v_x_heat_marks (5 * i + j) a3) i)), upd v_m_marks (5 * i + j) a3, ?_, ?_, And.intro ⟨n, k, z, g, w, h1, h2, h3, h4, h5, h6, rfl, rfl, rfl, rfl, rfl, rfl, rfl, rfl, rfl, c1, fun i' hi' j' hj' => ?_, fun i' hi' => ?_, c4, c5, c6, c7, c8⟩ (And.intro hP hW)⟩
    · unfold fX1_setMark
      rw [if_neg q4, if_pos q5, ix1, if_neg (bnd (by omega) (by omega)), nI_clamp (by omega), hs, ob2_some, ob4_some]
    · rw [if_neg q6, if_neg (show ¬ (1 : Int32) = 0 by decide), ix2, if_neg (bnd (by omega) (by omega)), nI_clamp (by omega), (c2 i hi j hj).1]
    · by_cases e : 5 * i' + j' = 5 * i + j
      · rw [e, pk_us, pk_us]; exact ⟨rfl, hv⟩
      · rw [pk_un e, pk_un e]; exact c2 i' hi' j' hj'
    · by_cases e : i' = i
      · subst e; rw [pk_us, pk_us]; exact ⟨rfl, rfl⟩
      · have hc : ∀ j', j' < 5 → upd v_x_heat_marks (5 * i + j) a3 (5 * i' + j') = v_x_heat_marks (5 * i' + j') := fun j' hj' => pk_un (by omega)
        rw [pk_un e, pk_un e, cntS_congr hc, scoreS_congr hc]; exact c3 i' hi'
  · exact ⟨-9, _, _, _, _, by rw [if_neg q4, if_neg q5], by rw [if_pos (show a3 < -1 ∨ 100 < a3 from Or.inr (i_nle.mp q5))]; rfl, hI0⟩
