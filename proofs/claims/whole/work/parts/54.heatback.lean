theorem fb_holes : ∀ (m n : Nat) (f : Nat → Nat), (∀ i, i < n → f i < m) → (∀ i j, i < j → j < n → f i ≠ f j) → n ≤ m := by
  intro m
  induction m with
  | zero =>
    intro n f h1 _
    rcases Nat.eq_zero_or_pos n with h | h
    · omega
    · exact absurd (h1 0 h) (Nat.not_lt_zero _)
  | succ m ih =>
    intro n f h1 h2
    by_cases hx : ∃ i, i < n ∧ f i = m
    · obtain ⟨a, ha, hfa⟩ := hx
      have hg := ih (n - 1) (fun i => if i < a then f i else f (i + 1)) (by
        intro i hi
        by_cases q : i < a
        · simp only [if_pos q]
          have b1 := h1 i (by omega)
          have b2 := h2 i a q ha
          omega
        · simp only [if_neg q]
          have b1 := h1 (i + 1) (by omega)
          have b2 := h2 a (i + 1) (by omega) (by omega)
          omega) (by
        intro i j hij hj
        by_cases q : i < a
        · by_cases r : j < a
          · simp only [if_pos q, if_pos r]
            exact h2 i j hij (by omega)
          · simp only [if_pos q, if_neg r]
            exact h2 i (j + 1) (by omega) (by omega)
        · have r : ¬ j < a := by omega
          simp only [if_neg q, if_neg r]
          exact h2 (i + 1) (j + 1) (by omega) (by omega))
      omega
    · have hg := ih n f (fun i hi => by
        have b1 := h1 i hi
        have b2 : f i ≠ m := fun e => hx ⟨i, hi, e⟩
        omega) h2
      omega
/-! heat, back -/
theorem join_spec {N i : Nat} (x : Int32) (row : Nat → Int32) (h : i < 4) : fX2_join N x (nI i) row = some (nI (i + 1), upd row i x) := by
  unfold fX2_join
  rw [if_neg (show ¬ (4 : Int32) ≤ nI i from nI_ge (b := 4) h (by omega)), if_neg (bnd h (by omega)), nI_clamp (by omega), nI_1]
theorem fill_spec {N n : Nat} (hn : n ≤ 4) : ∀ (m i fuel : Nat) (row : Nat → Int32), i + m = n → m < fuel → ∃ row' : Nat → Int32, fX2_fillByNumbers_L7 N (nI n) fuel (nI i) (nI i) row = some (nI n, row') ∧ (∀ j, j < i → row' j = row j) ∧ (∀ j, i ≤ j → j < n → row' j = nI j)
  | 0, i, 0, row, e, hf => absurd hf (by omega)
  | m + 1, i, 0, row, e, hf => absurd hf (by omega)
  | 0, i, fuel + 1, row, e, hf => ⟨row, by rw [fX2_fillByNumbers_L7, if_pos (nI_le (by omega) (by omega)), show i = n by omega], fun _ _ => rfl, fun j h1 h2 => absurd h2 (by omega)⟩
  | m + 1, i, fuel + 1, row, e, hf => by
    obtain ⟨row', h1, h2, h3⟩ := fill_spec hn m (i + 1) fuel (upd row i (nI i)) (by omega) (by omega)
    refine ⟨row', ?_, fun j hj => by rw [h2 j (by omega), pk_un (by omega)], fun j hj hj2 => ?_⟩
    · rw [fX2_fillByNumbers_L7, if_neg (nI_ge (by omega) (by omega)), join_spec _ _ (by omega), ob2_some, nI_1]
      exact h1
    · by_cases c : j = i
      · subst c; rw [h2 j (by omega), pk_us]
      · exact h3 j (by omega) hj2
theorem bbegin_spec {N : Nat} (rd : Int32) : ∀ (m i fuel : Nat) (f : Nat → Int32), i + m = 4 → m < fuel → ∃ f' : Nat → Int32, fX0_begin_L7 N rd fuel (nI i) f = some (rd, f') ∧ (∀ j, j < i → f' j = f j) ∧ (∀ j, i ≤ j → j < 4 → f' j = 0)
  | 0, i, 0, f, e, hf => absurd hf (by omega)
  | m + 1, i, 0, f, e, hf => absurd hf (by omega)
  | 0, i, fuel + 1, f, e, hf => ⟨f, by rw [fX0_begin_L7, if_pos (show (4 : Int32) ≤ nI i from nI_le (a := 4) (by omega) (by omega))], fun _ _ => rfl, fun j h1 h2 => absurd h2 (by omega)⟩
  | m + 1, i, fuel + 1, f, e, hf => by
    obtain ⟨f', h1, h2, h3⟩ := bbegin_spec rd m (i + 1) fuel (upd f i 0) (by omega) (by omega)
    refine ⟨f', ?_, fun j hj => by rw [h2 j (by omega), pk_un (by omega)], fun j hj hj2 => ?_⟩
    · rw [fX0_begin_L7, if_neg (show ¬ (4 : Int32) ≤ nI i from nI_ge (b := 4) (by omega) (by omega)), if_neg (bnd (by omega) (by omega)), nI_clamp (by omega), nI_1]
      exact h1
    · by_cases c : j = i
      · subst c; rw [h2 j (by omega), pk_us]
      · exact h3 j (by omega) hj2
theorem mbegin_spec {N : Nat} (rd rs lm : Int32) : ∀ (m i fuel : Nat) (f g : Nat → Int32), i + m = 4 → m < fuel → ∃ f' g' : Nat → Int32, fX7_begin_L17 N rd rs lm fuel (nI i) f g = some (rd, rs, lm, 0, f', g') ∧ (∀ j, j < i → f' j = f j ∧ g' j = g j) ∧ (∀ j, i ≤ j → j < 4 → f' j = nI j ∧ g' j = 0)
  | 0, i, 0, f, g, e, hf => absurd hf (by omega)
  | m + 1, i, 0, f, g, e, hf => absurd hf (by omega)
  | 0, i, fuel + 1, f, g, e, hf => ⟨f, g, by rw [fX7_begin_L17, if_pos (show (4 : Int32) ≤ nI i from nI_le (a := 4) (by omega) (by omega))], fun _ _ => ⟨rfl, rfl⟩, fun j h1 h2 => absurd h2 (by omega)⟩
  | m + 1, i, fuel + 1, f, g, e, hf => by
    obtain ⟨f', g', h1, h2, h3⟩ := mbegin_spec rd rs lm m (i + 1) fuel (upd f i (nI i)) (upd g i 0) (by omega) (by omega)
    refine ⟨f', g', ?_, fun j hj => by rw [(h2 j (by omega)).1, (h2 j (by omega)).2, pk_un (by omega), pk_un (by omega)]; exact ⟨rfl, rfl⟩, fun j hj hj2 => ?_⟩
    · rw [fX7_begin_L17, if_neg (show ¬ (4 : Int32) ≤ nI i from nI_ge (b := 4) (by omega) (by omega)), if_neg (bnd (by omega) (by omega)), nI_clamp (by omega), nI_1]
      exact h1
    · by_cases c : j = i
      · subst c; rw [(h2 j (by omega)).1, (h2 j (by omega)).2, pk_us, pk_us]; exact ⟨rfl, rfl⟩
      · exact h3 j (by omega) hj2
theorem xbegin_ok {N n : Nat} (hN : 70000 ≤ N) (hn : n ≤ 4) (a b c : Int32) (row : Nat → Int32) (num e : Int32) (f : Nat → Int32) : ∃ row' f' : Nat → Int32, fX1_begin N (nI n) a b c row num e f = some (nI n, 0, nI n, row', -1, nI n, f') ∧ (∀ j, j < n → row' j = nI j) ∧ (∀ j, j < 4 → f' j = 0) := by
  obtain ⟨row', h1, -, h2⟩ := fill_spec (N := N) hn n 0 N row (by omega) (by omega)
  obtain ⟨f', h3, -, h4⟩ := bbegin_spec (N := N) (nI n) 4 0 N f (by omega) (by omega)
  refine ⟨row', f', ?_, fun j hj => h2 j (by omega) hj, fun j hj => h4 j (by omega) hj⟩
  unfold fX1_begin
  rw [show fX2_fillByNumbers N (nI n) c row = some (nI n, row') from h1, ob2_some]
  have hE : ∃ r, fX5_end N num = some (r, -1) := by
    unfold fX5_end
    by_cases q : num = -1
    · exact ⟨0, by rw [if_pos q]⟩
    · exact ⟨1, by rw [if_neg q]⟩
  obtain ⟨r, hE⟩ := hE
  rw [hE, ob2_some, show fX0_begin N (nI n) e f = some (nI n, f') from h3, ob2_some]
theorem invH_begin {n k z g w : Nat} {riderOf waveOf marks marksOf scoreOf row turn onIt blamed faults riderOf' waveOf' marks' line' interfered' stood' : Nat → Int32} (h1 : 2 ≤ n) (h2 : n ≤ 4) (hg : g < 16) (hw : w < 16) (hr : ∀ j, j < n → row j = nI j) (hl : ∀ j, j < 4 → line' j = nI j) (hf : ∀ j, j < 4 → faults j = 0) (hi : ∀ j, j < 4 → interfered' j = 0) :
    InvH (nI n) 0 riderOf waveOf marks marksOf scoreOf (nI n) row (-1) turn onIt blamed (nI n) faults (nI n) 0 (nI n) 0 (nI g) (nI w) riderOf' waveOf' marks' line' interfered' stood' := by
  refine ⟨n, 0, n, g, w, h1, h2, by omega, Nat.le_refl n, hg, hw, rfl, rfl, rfl, rfl, rfl, rfl, rfl, rfl, rfl, fun i h => absurd h (by omega), fun i h => absurd h (by omega), fun i h => absurd h (by omega), fun i hi => ⟨by rw [hl i (by omega), hr i hi], i, hi, hr i hi⟩, fun i j hij hj e => ?_, fun r h => by rw [hi r h, hf r h], fun r _ h => hf r h, Or.inl ⟨rfl, rfl⟩⟩
  rw [hr i (by omega), hr j hj] at e
  have := (nI_eq (by omega) (by omega)).mp e
  omega
theorem two4 {a : Int32} (h1 : ¬ a < 2) (h2 : a ≤ 4) : ∃ n, 2 ≤ n ∧ n ≤ 4 ∧ a = nI n := by
  rcases pk_ix a (n := 5) (by omega) with h | h | ⟨j, hj, rfl⟩
  · exact absurd h (fun q => h1 (by rw [Int32.lt_iff_toInt_lt] at *; rw [show (0 : Int32).toInt = 0 by decide] at q; rw [show (2 : Int32).toInt = 2 by decide]; omega))
  · rw [Int32.le_iff_toInt_le] at h h2
    rw [show (nI 5).toInt = 5 by decide] at h
    rw [show (4 : Int32).toInt = 4 by decide] at h2
    omega
  · refine ⟨j, ?_, by omega, rfl⟩
    rcases Nat.lt_or_ge j 2 with q | q
    · exact absurd (show nI j < 2 from nI_lt (b := 2) q (by omega)) h1
    · exact q
set_option maxHeartbeats 1000000 in
theorem op_heat {N : Nat} (hN : 70000 ≤ N) {v_x_heat_riders : Int32} {v_x_heat_rides : Int32} {v_x_heat_riderOf : Nat → Int32} {v_x_heat_waveOf : Nat → Int32} {v_x_heat_marks : Nat → Int32} {v_x_heat_marksOf : Nat → Int32} {v_x_heat_scoreOf : Nat → Int32} {v_x_heat_toGive : Nat → Int32} {v_x_heat_line_size : Int32} {v_x_heat_line_row : Nat → Int32} {v_x_heat_wave_number : Int32} {v_x_heat_wave_turn : Nat → Int32} {v_x_heat_wave_onIt : Nat → Int32} {v_x_heat_wave_blamed : Nat → Int32} {v_x_heat_board_riders : Int32} {v_x_heat_board_best : Nat → Int32} {v_x_heat_board_second : Nat → Int32} {v_x_heat_board_faults : Nat → Int32} {v_x_past_size : Int32} {v_x_past_scores : Nat → Int32} {v_x_wait_days : Int32} {v_x_wait_from : Nat → Int32} {v_x_wait_to : Nat → Int32} {v_x_wait_known : Nat → Int32} {v_x_wait_above : Nat → Nat → Int64} {v_x_wait_below : Nat → Int64} {v_m_riders : Int32} {v_m_rides : Int32} {v_m_lineMany : Int32} {v_m_isOpen : Int32} {v_m_group : Int32} {v_m_wrong : Int32} {v_m_pastMany : Int32} {v_m_days : Int32} {v_m_riderOf : Nat → Int32} {v_m_waveOf : Nat → Int32} {v_m_marks : Nat → Int32} {v_m_line : Nat → Int32} {v_m_interfered : Nat → Int32} {v_m_stood : Nat → Int32} {v_m_past : Nat → Int32} {v_m_low : Nat → Int32} {v_m_high : Nat → Int32} {v_m_was : Nat → Int32} {v_m_best : Nat → Int32} {v_m_second : Nat → Int32} {v_m_total : Nat → Int32} {v_m_givenTo : Nat → Int32} {v_m_has : Nat → Int32} {v_m_own : Nat → Int32} {v_m_sums : Nat → Int64} {v_m_below : Nat → Int64} (hI : Inv v_x_heat_riders v_x_heat_rides v_x_heat_riderOf v_x_heat_waveOf v_x_heat_marks v_x_heat_marksOf v_x_heat_scoreOf v_x_heat_toGive v_x_heat_line_size v_x_heat_line_row v_x_heat_wave_number v_x_heat_wave_turn v_x_heat_wave_onIt v_x_heat_wave_blamed v_x_heat_board_riders v_x_heat_board_best v_x_heat_board_second v_x_heat_board_faults v_x_past_size v_x_past_scores v_x_wait_days v_x_wait_from v_x_wait_to v_x_wait_known v_x_wait_above v_x_wait_below v_m_riders v_m_rides v_m_lineMany v_m_isOpen v_m_group v_m_wrong v_m_pastMany v_m_days v_m_riderOf v_m_waveOf v_m_marks v_m_line v_m_interfered v_m_stood v_m_past v_m_low v_m_high v_m_was v_m_best v_m_second v_m_total v_m_givenTo v_m_has v_m_own v_m_sums v_m_below) (a1 : Int32) :
    ∃ (r : Int32) (o_x_heat_riders : Int32) (o_x_heat_rides : Int32) (o_x_heat_line_size : Int32) (o_x_heat_line_row : Nat → Int32) (o_x_heat_wave_number : Int32) (o_x_heat_board_riders : Int32) (o_x_heat_board_faults : Nat → Int32) (o_m_riders : Int32) (o_m_rides : Int32) (o_m_lineMany : Int32) (o_m_isOpen : Int32) (o_m_line : Nat → Int32) (o_m_interfered : Nat → Int32), fX6_heat N a1 v_x_heat_riders v_x_heat_rides v_x_heat_line_size v_x_heat_line_row v_x_heat_wave_number v_x_heat_board_riders v_x_heat_board_faults = some (r, o_x_heat_riders, o_x_heat_rides, o_x_heat_line_size, o_x_heat_line_row, o_x_heat_wave_number, o_x_heat_board_riders, o_x_heat_board_faults) ∧ fX7_heat N a1 v_m_riders v_m_rides v_m_lineMany v_m_isOpen v_m_line v_m_interfered = some (r, o_m_riders, o_m_rides, o_m_lineMany, o_m_isOpen, o_m_line, o_m_interfered) ∧ Inv o_x_heat_riders o_x_heat_rides v_x_heat_riderOf v_x_heat_waveOf v_x_heat_marks v_x_heat_marksOf v_x_heat_scoreOf v_x_heat_toGive o_x_heat_line_size o_x_heat_line_row o_x_heat_wave_number v_x_heat_wave_turn v_x_heat_wave_onIt v_x_heat_wave_blamed o_x_heat_board_riders v_x_heat_board_best v_x_heat_board_second o_x_heat_board_faults v_x_past_size v_x_past_scores v_x_wait_days v_x_wait_from v_x_wait_to v_x_wait_known v_x_wait_above v_x_wait_below o_m_riders o_m_rides o_m_lineMany o_m_isOpen v_m_group v_m_wrong v_m_pastMany v_m_days v_m_riderOf v_m_waveOf v_m_marks o_m_line o_m_interfered v_m_stood v_m_past v_m_low v_m_high v_m_was v_m_best v_m_second v_m_total v_m_givenTo v_m_has v_m_own v_m_sums v_m_below := by
  have hI0 := hI
  obtain ⟨⟨n, k, z, g, w, h1, h2, h3, h4, h5, h6, e1, e2, e3, e4, e5, e6, e7, e8, e9, c1, c2, c3, c4, c5, c6, c7, c8⟩, hP, hW⟩ := hI
  unfold fX6_heat fX7_heat
  rw [in_spec, ob1_some]
  by_cases q1 : a1 < 2
  · exact ⟨-1, _, _, _, _, _, _, _, _, _, _, _, _, _, by rw [if_pos q1], by rw [if_pos (show a1 < 2 ∨ 4 < a1 from Or.inl q1)]; rfl, hI0⟩
  by_cases q2 : a1 ≤ 4
  · have q3 : ¬ (a1 < 2 ∨ 4 < a1) := by
      rintro (h | h)
      · exact q1 h
      · rw [Int32.le_iff_toInt_le] at q2; rw [Int32.lt_iff_toInt_lt] at h; omega
    obtain ⟨m, m1, m2, rfl⟩ := two4 q1 q2
    obtain ⟨row', f', g1, g2, g3⟩ := xbegin_ok (N := N) hN m2 v_x_heat_riders v_x_heat_rides v_x_heat_line_size v_x_heat_line_row v_x_heat_wave_number v_x_heat_board_riders v_x_heat_board_faults
    obtain ⟨l', i', g4, -, g5⟩ := mbegin_spec (N := N) (nI m) 0 (nI m) 4 0 N v_m_line v_m_interfered (by omega) (by omega)
    refine ⟨nI m, nI m, 0, nI m, row', -1, nI m, f', nI m, 0, nI m, 0, l', i', ?_, ?_, ?_⟩
    · rw [if_neg q1, if_pos q2, g1]; rfl
    · rw [if_neg q3, if_neg (show ¬ (1 : Int32) = 0 by decide), show fX7_begin N (nI m) v_m_riders v_m_rides v_m_lineMany v_m_isOpen v_m_line v_m_interfered = _ from g4]; rfl
    · refine And.intro ?_ (And.intro hP hW)
      rw [e8, e9]
      exact invH_begin m1 m2 h5 h6 g2 (fun j hj => (g5 j (by omega) hj).1) g3 (fun j hj => (g5 j (by omega) hj).2) (k := 0) (z := 0)
  · have q3 : a1 < 2 ∨ 4 < a1 := Or.inr (by rw [Int32.lt_iff_toInt_lt]; rw [Int32.le_iff_toInt_le] at q2; omega)
    exact ⟨-1, _, _, _, _, _, _, _, _, _, _, _, _, _, by rw [if_neg q1, if_neg q2], by rw [if_pos q3]; rfl, hI0⟩
set_option maxHeartbeats 1000000 in
theorem op_back {N : Nat} (hN : 70000 ≤ N) {v_x_heat_riders : Int32} {v_x_heat_rides : Int32} {v_x_heat_riderOf : Nat → Int32} {v_x_heat_waveOf : Nat → Int32} {v_x_heat_marks : Nat → Int32} {v_x_heat_marksOf : Nat → Int32} {v_x_heat_scoreOf : Nat → Int32} {v_x_heat_toGive : Nat → Int32} {v_x_heat_line_size : Int32} {v_x_heat_line_row : Nat → Int32} {v_x_heat_wave_number : Int32} {v_x_heat_wave_turn : Nat → Int32} {v_x_heat_wave_onIt : Nat → Int32} {v_x_heat_wave_blamed : Nat → Int32} {v_x_heat_board_riders : Int32} {v_x_heat_board_best : Nat → Int32} {v_x_heat_board_second : Nat → Int32} {v_x_heat_board_faults : Nat → Int32} {v_x_past_size : Int32} {v_x_past_scores : Nat → Int32} {v_x_wait_days : Int32} {v_x_wait_from : Nat → Int32} {v_x_wait_to : Nat → Int32} {v_x_wait_known : Nat → Int32} {v_x_wait_above : Nat → Nat → Int64} {v_x_wait_below : Nat → Int64} {v_m_riders : Int32} {v_m_rides : Int32} {v_m_lineMany : Int32} {v_m_isOpen : Int32} {v_m_group : Int32} {v_m_wrong : Int32} {v_m_pastMany : Int32} {v_m_days : Int32} {v_m_riderOf : Nat → Int32} {v_m_waveOf : Nat → Int32} {v_m_marks : Nat → Int32} {v_m_line : Nat → Int32} {v_m_interfered : Nat → Int32} {v_m_stood : Nat → Int32} {v_m_past : Nat → Int32} {v_m_low : Nat → Int32} {v_m_high : Nat → Int32} {v_m_was : Nat → Int32} {v_m_best : Nat → Int32} {v_m_second : Nat → Int32} {v_m_total : Nat → Int32} {v_m_givenTo : Nat → Int32} {v_m_has : Nat → Int32} {v_m_own : Nat → Int32} {v_m_sums : Nat → Int64} {v_m_below : Nat → Int64} (hI : Inv v_x_heat_riders v_x_heat_rides v_x_heat_riderOf v_x_heat_waveOf v_x_heat_marks v_x_heat_marksOf v_x_heat_scoreOf v_x_heat_toGive v_x_heat_line_size v_x_heat_line_row v_x_heat_wave_number v_x_heat_wave_turn v_x_heat_wave_onIt v_x_heat_wave_blamed v_x_heat_board_riders v_x_heat_board_best v_x_heat_board_second v_x_heat_board_faults v_x_past_size v_x_past_scores v_x_wait_days v_x_wait_from v_x_wait_to v_x_wait_known v_x_wait_above v_x_wait_below v_m_riders v_m_rides v_m_lineMany v_m_isOpen v_m_group v_m_wrong v_m_pastMany v_m_days v_m_riderOf v_m_waveOf v_m_marks v_m_line v_m_interfered v_m_stood v_m_past v_m_low v_m_high v_m_was v_m_best v_m_second v_m_total v_m_givenTo v_m_has v_m_own v_m_sums v_m_below) (a1 : Int32) :
    ∃ (r : Int32) (o_x_heat_line_size : Int32) (o_x_heat_line_row : Nat → Int32) (o_m_lineMany : Int32) (o_m_line : Nat → Int32), fX6_back N a1 v_x_heat_riders v_x_heat_line_size v_x_heat_line_row = some (r, o_x_heat_line_size, o_x_heat_line_row) ∧ fX7_back N a1 v_m_riders v_m_lineMany v_m_line = some (r, o_m_lineMany, o_m_line) ∧ Inv v_x_heat_riders v_x_heat_rides v_x_heat_riderOf v_x_heat_waveOf v_x_heat_marks v_x_heat_marksOf v_x_heat_scoreOf v_x_heat_toGive o_x_heat_line_size o_x_heat_line_row v_x_heat_wave_number v_x_heat_wave_turn v_x_heat_wave_onIt v_x_heat_wave_blamed v_x_heat_board_riders v_x_heat_board_best v_x_heat_board_second v_x_heat_board_faults v_x_past_size v_x_past_scores v_x_wait_days v_x_wait_from v_x_wait_to v_x_wait_known v_x_wait_above v_x_wait_below v_m_riders v_m_rides o_m_lineMany v_m_isOpen v_m_group v_m_wrong v_m_pastMany v_m_days v_m_riderOf v_m_waveOf v_m_marks o_m_line v_m_interfered v_m_stood v_m_past v_m_low v_m_high v_m_was v_m_best v_m_second v_m_total v_m_givenTo v_m_has v_m_own v_m_sums v_m_below := by
  have hI0 := hI
  obtain ⟨⟨n, k, z, g, w, h1, h2, h3, h4, h5, h6, rfl, rfl, rfl, rfl, rfl, rfl, rfl, rfl, rfl, c1, c2, c3, c4, c5, c6, c7, c8⟩, hP, hW⟩ := hI
  unfold fX6_back fX7_back
  rw [hasRider_spec, ob1_some, isRider_spec N a1 (by omega) (by omega), ob1_some]
  by_cases q1 : a1 < 0 ∨ nI n ≤ a1
  · refine ⟨-1, _, _, _, _, by rw [if_pos q1]; rfl, by rw [if_pos q1]; rfl, hI0⟩
  rw [if_neg q1, if_neg (show ¬ (1 : Int32) = 0 by decide), if_neg (show ¬ (1 : Int32) = 0 by decide)]
  obtain ⟨j, hj, rfl⟩ := inside (by omega) q1
  rcases first_or v_x_heat_line_row (nI j) z with ⟨p, p1, p2, p3⟩ | hq
  · have g1 := pos_found (N := N) p1 (by omega) p2 p3 p 0 N (by omega) (by omega)
    have g2 := pil_found (N := N) (row := v_m_line) (x := nI j) p1 (by omega) (by rw [(c4 p p1).1]; exact p2) (fun q hq => by rw [(c4 q (by omega)).1]; exact p3 q hq) p 0 N (by omega) (by omega)
    refine ⟨-3, _, _, _, _, ?_, ?_, hI0⟩
    · unfold fX2_holds
      rw [show fX2_positionOf N (nI j) (nI z) v_x_heat_line_row = _ from g1, ob1_some, if_neg (nI_ge p1 (by omega))]
      rfl
    · rw [show fX7_placeInLine N (nI j) (nI z) v_m_line = _ from g2, ob1_some, if_neg (nI_pos (by omega))]
  · have g1 := pos_none (N := N) (z := z) (by omega) hq z 0 N (by omega) (by omega)
    have g2 := pil_none (N := N) (row := v_m_line) (x := nI j) (z := z) (by omega) (fun q h => by rw [(c4 q h).1]; exact hq q h) z 0 N (by omega) (by omega)
    have hz : z < n := by
      rcases Nat.lt_or_ge z n with h | h
      · exact h
      · have ez : z = n := by omega
        subst ez
        have := fb_holes z (z + 1) (fun i => if i = z then j else (v_x_heat_line_row i).toNatClampNeg) (fun i hi => by
          by_cases e : i = z
          · simp only [if_pos e]; exact hj
          · obtain ⟨r, r1, r2⟩ := (c4 i (by omega)).2
            simp only [if_neg e]
            rw [r2, nI_clamp (by omega)]; exact r1) (fun i l hil hl => by
          obtain ⟨r, r1, r2⟩ := (c4 i (by omega)).2
          simp only [if_neg (show ¬ i = z by omega)]
          by_cases e : l = z
          · simp only [if_pos e]
            intro q
            apply hq i (by omega)
            rw [r2, nI_clamp (by omega)] at q
            rw [r2, q]
          · simp only [if_neg e]
            obtain ⟨r', r1', r2'⟩ := (c4 l (by omega)).2
            intro q
            rw [r2, r2', nI_clamp (by omega), nI_clamp (by omega)] at q
            exact c5 i l hil (by omega) (by rw [r2, r2', q]))
        omega
    refine ⟨nI (z + 1), nI (z + 1), upd v_x_heat_line_row z (nI j), nI (z + 1), upd v_m_line z (nI j), ?_, ?_, ?_⟩
    · unfold fX2_holds
      rw [show fX2_positionOf N (nI j) (nI z) v_x_heat_line_row = _ from g1, ob1_some, if_pos (nI_le (Nat.le_refl z) (by omega)), ob1_some, if_pos rfl, join_spec _ _ (by omega), ob2_some]
    · rw [show fX7_placeInLine N (nI j) (nI z) v_m_line = _ from g2, ob1_some, if_pos (show (-1 : Int32) < 0 by decide), if_neg (bnd (by omega) (by omega)), nI_clamp (by omega), nI_1]
    · refine And.intro ⟨n, k, z + 1, g, w, h1, h2, h3, by omega, h5, h6, rfl, rfl, rfl, rfl, rfl, rfl, rfl, rfl, rfl, c1, c2, c3, fun i hi => ?_, fun i l hil hl => ?_, c6, c7, c8⟩ (And.intro hP hW)
      · by_cases e : i = z
        · subst e; rw [pk_us, pk_us]; exact ⟨rfl, j, hj, rfl⟩
        · rw [pk_un e, pk_un e]; exact c4 i (by omega)
      · rw [pk_un (show i ≠ z by omega)]
        by_cases e : l = z
        · subst e; rw [pk_us]; exact hq i (by omega)
        · rw [pk_un e]; exact c5 i l hil (by omega)
