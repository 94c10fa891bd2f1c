set_option maxHeartbeats 2000000 in
set_option maxRecDepth 100000 in
theorem law_loop {p : Program} {l : Launch} {e : Env} {s : State} {m : MethodId} {below : List Frame} {meth : Method} {c : Code} {dC : Nat → ClassId} {dI : Nat → Nat → Nat} {cI cZ cJ cA : ClassId} {b L : Nat} {xs : Nat → Int32} {N : Nat} (hN : 70000 ≤ N) (hL : L ≤ 2048) (C0 : lw_At p s m meth c b L xs) {ax ro_x_wait_above am : Nat → Nat} (hK : va_K (dC, dI) vwCl [(cI, .int), (cZ, .boolean), (cJ, .long), (cA, .array .long)] s) : ∀ (n i : Nat), L + 8 ≤ i + n → i ≤ L + 8 → lw_kk p l e s m below meth c dC dI cI cZ cJ cA b ax ro_x_wait_above am (nI i) 18 := by
  have C1 := C0
  obtain ⟨hx, hb, hr, hml, hown, hts0, hX, hbl, hlocks, hgv⟩ := C0
  have hown : s.vm.findClass RL = some m.cls := hown
  have hts : ∀ w ∈ wsL_law, w.before #[Value.ref b] s = true := fun w h => hts0 w (wsL_law_in w h)
  have hA : ∀ q : Nat, s.heap.size ≤ q → (fun q : Nat => s.heap.size ≤ q) q := fun _ h => h
  have hbA : ¬ (fun q : Nat => s.heap.size ≤ q) b := Nat.not_le.mpr hbl
  intro n
  induction n with
  | zero =>
    intro i hn hi
    unfold lw_kk
    intro v_x_heat_riders v_x_heat_rides v_x_heat_riderOf v_x_heat_waveOf v_x_heat_marks v_x_heat_marksOf v_x_heat_scoreOf v_x_heat_toGive v_x_heat_line_size v_x_heat_line_row v_x_heat_wave_number v_x_heat_wave_turn v_x_heat_wave_onIt v_x_heat_wave_blamed v_x_heat_board_riders v_x_heat_board_best v_x_heat_board_second v_x_heat_board_faults v_x_past_size v_x_past_scores v_x_wait_days v_x_wait_from v_x_wait_to v_x_wait_known v_x_wait_above v_x_wait_below v_m_riders v_m_rides v_m_lineMany v_m_isOpen v_m_group v_m_wrong v_m_pastMany v_m_days v_m_riderOf v_m_waveOf v_m_marks v_m_line v_m_interfered v_m_stood v_m_past v_m_low v_m_high v_m_was v_m_best v_m_second v_m_total v_m_givenTo v_m_has v_m_own v_m_sums v_m_below H locs ls hP hD hS hl hI
    exact law_end (dC := dC) (dI := dI) (cI := cI) (cZ := cZ) (cJ := cJ) (cA := cA) hL C1 hS (i := i) (by omega) (by omega) hl
  | succ n ih =>
    intro i hn hi
    unfold lw_kk
    intro v_x_heat_riders v_x_heat_rides v_x_heat_riderOf v_x_heat_waveOf v_x_heat_marks v_x_heat_marksOf v_x_heat_scoreOf v_x_heat_toGive v_x_heat_line_size v_x_heat_line_row v_x_heat_wave_number v_x_heat_wave_turn v_x_heat_wave_onIt v_x_heat_wave_blamed v_x_heat_board_riders v_x_heat_board_best v_x_heat_board_second v_x_heat_board_faults v_x_past_size v_x_past_scores v_x_wait_days v_x_wait_from v_x_wait_to v_x_wait_known v_x_wait_above v_x_wait_below v_m_riders v_m_rides v_m_lineMany v_m_isOpen v_m_group v_m_wrong v_m_pastMany v_m_days v_m_riderOf v_m_waveOf v_m_marks v_m_line v_m_interfered v_m_stood v_m_past v_m_low v_m_high v_m_was v_m_best v_m_second v_m_total v_m_givenTo v_m_has v_m_own v_m_sums v_m_below H locs ls hP hD hS hl hI
    by_cases hlt : i + 4 ≤ L
    · refine law_head (dC := dC) (dI := dI) (cI := cI) (cZ := cZ) (cJ := cJ) (cA := cA) hL C1 hS hlt hl ?_
      have h1 : vp_in (nI i + 1) L := by rw [nI_1]; exact vp_in_nI (by omega) (by omega)
      have h2 : vp_in (nI i + 2) L := by rw [show (nI i + 2 : Int32) = nI (i + 2) from nI_add i 2]; exact vp_in_nI (by omega) (by omega)
      have h3 : vp_in (nI i + 3) L := by rw [show (nI i + 3 : Int32) = nI (i + 3) from nI_add i 3]; exact vp_in_nI (by omega) (by omega)
      have kk : lw_kk p l e s m below meth c dC dI cI cZ cJ cA b ax ro_x_wait_above am (nI i) 790 := by
        have ih0 := ih (i + 4) (by omega) (by omega)
        unfold lw_kk at ih0 ⊢
        intro v_x_heat_riders v_x_heat_rides v_x_heat_riderOf v_x_heat_waveOf v_x_heat_marks v_x_heat_marksOf v_x_heat_scoreOf v_x_heat_toGive v_x_heat_line_size v_x_heat_line_row v_x_heat_wave_number v_x_heat_wave_turn v_x_heat_wave_onIt v_x_heat_wave_blamed v_x_heat_board_riders v_x_heat_board_best v_x_heat_board_second v_x_heat_board_faults v_x_past_size v_x_past_scores v_x_wait_days v_x_wait_from v_x_wait_to v_x_wait_known v_x_wait_above v_x_wait_below v_m_riders v_m_rides v_m_lineMany v_m_isOpen v_m_group v_m_wrong v_m_pastMany v_m_days v_m_riderOf v_m_waveOf v_m_marks v_m_line v_m_interfered v_m_stood v_m_past v_m_low v_m_high v_m_was v_m_best v_m_second v_m_total v_m_givenTo v_m_has v_m_own v_m_sums v_m_below H locs ls hP hD hS hl hI
        refine lv_iinc (v := nI (i + 4)) (lv' := [(3, .int (nI (i + 4))), (0, .ref b), (1, .ref (ax 0)), (2, .ref (am 0))]) hx hb dL_law_790 hl (k := 3) rfl (nI_add i 4) (by decide) rfl (fun ls hl => ?_)
        refine lv_goto (tgt := 18) hx hb dL_law_793 (by decide) ?_
        exact ih0 _ _ _ _ _ _ _ _ _ _ _ _ _ _ _ _ _ _ _ _ _ _ _ _ _ _ _ _ _ _ _ _ _ _ _ _ _ _ _ _ _ _ _ _ _ _ _ _ _ _ _ _ H locs ls hP hD hS (lv_sub hl [1, 2, 3, 0] rfl) hI
      by_cases g0 : xs (nI i).toNatClampNeg &&& 31 = 0
      · refine lv_tableIn (off := 108) (tgt := 140) hx hb dL_law_32 (by rw [g0]; decide) (by rw [g0]; decide) (by rw [g0]; rfl) (by decide) ?_
        exact law_case_heat hN C1 h1 h2 h3 hI hK hP hD hS hl kk
      by_cases g1 : xs (nI i).toNatClampNeg &&& 31 = 1
      · refine lv_tableIn (off := 131) (tgt := 163) hx hb dL_law_32 (by rw [g1]; decide) (by rw [g1]; decide) (by rw [g1]; rfl) (by decide) ?_
        exact law_case_take hN C1 h1 h2 h3 hI hK hP hD hS hl kk
      by_cases g2 : xs (nI i).toNatClampNeg &&& 31 = 2
      · refine lv_tableIn (off := 164) (tgt := 196) hx hb dL_law_32 (by rw [g2]; decide) (by rw [g2]; decide) (by rw [g2]; rfl) (by decide) ?_
        exact law_case_back hN C1 h1 h2 h3 hI hK hP hD hS hl kk
      by_cases g3 : xs (nI i).toNatClampNeg &&& 31 = 3
      · refine lv_tableIn (off := 187) (tgt := 219) hx hb dL_law_32 (by rw [g3]; decide) (by rw [g3]; decide) (by rw [g3]; rfl) (by decide) ?_
        exact law_case_letGo hN C1 h1 h2 h3 hI hK hP hD hS hl kk
      by_cases g4 : xs (nI i).toNatClampNeg &&& 31 = 4
      · refine lv_tableIn (off := 200) (tgt := 232) hx hb dL_law_32 (by rw [g4]; decide) (by rw [g4]; decide) (by rw [g4]; rfl) (by decide) ?_
        exact law_case_mark hN C1 h1 h2 h3 hI hK hP hD hS hl kk
      by_cases g5 : xs (nI i).toNatClampNeg &&& 31 = 5
      · refine lv_tableIn (off := 243) (tgt := 275) hx hb dL_law_32 (by rw [g5]; decide) (by rw [g5]; decide) (by rw [g5]; rfl) (by decide) ?_
        exact law_case_of hN C1 h1 h2 h3 hI hK hP hD hS hl kk
      by_cases g6 : xs (nI i).toNatClampNeg &&& 31 = 6
      · refine lv_tableIn (off := 276) (tgt := 308) hx hb dL_law_32 (by rw [g6]; decide) (by rw [g6]; decide) (by rw [g6]; rfl) (by decide) ?_
        exact law_case_line hN C1 h1 h2 h3 hI hK hP hD hS hl kk
      by_cases g7 : xs (nI i).toNatClampNeg &&& 31 = 7
      · refine lv_tableIn (off := 299) (tgt := 331) hx hb dL_law_32 (by rw [g7]; decide) (by rw [g7]; decide) (by rw [g7]; rfl) (by decide) ?_
        exact law_case_told hN C1 h1 h2 h3 hI hK hP hD hS hl kk
      by_cases g8 : xs (nI i).toNatClampNeg &&& 31 = 8
      · refine lv_tableIn (off := 332) (tgt := 364) hx hb dL_law_32 (by rw [g8]; decide) (by rw [g8]; decide) (by rw [g8]; rfl) (by decide) ?_
        exact law_case_need hN C1 h1 h2 h3 hI hK hP hD hS hl kk
      by_cases g9 : xs (nI i).toNatClampNeg &&& 31 = 9
      · refine lv_tableIn (off := 365) (tgt := 397) hx hb dL_law_32 (by rw [g9]; decide) (by rw [g9]; decide) (by rw [g9]; rfl) (by decide) ?_
        exact law_case_past hN C1 h1 h2 h3 hI hK hP hD hS hl kk
      by_cases g10 : xs (nI i).toNatClampNeg &&& 31 = 10
      · refine lv_tableIn (off := 388) (tgt := 420) hx hb dL_law_32 (by rw [g10]; decide) (by rw [g10]; decide) (by rw [g10]; rfl) (by decide) ?_
        exact law_case_keep hN C1 h1 h2 h3 hI hK hP hD hS hl kk
      by_cases g11 : xs (nI i).toNatClampNeg &&& 31 = 11
      · refine lv_tableIn (off := 401) (tgt := 433) hx hb dL_law_32 (by rw [g11]; decide) (by rw [g11]; decide) (by rw [g11]; rfl) (by decide) ?_
        exact law_case_forget hN C1 h1 h2 h3 hI hK hP hD hS hl kk
      by_cases g12 : xs (nI i).toNatClampNeg &&& 31 = 12
      · refine lv_tableIn (off := 414) (tgt := 446) hx hb dL_law_32 (by rw [g12]; decide) (by rw [g12]; decide) (by rw [g12]; rfl) (by decide) ?_
        exact law_case_chance hN C1 h1 h2 h3 hI hK hP hD hS hl kk
      by_cases g13 : xs (nI i).toNatClampNeg &&& 31 = 13
      · refine lv_tableIn (off := 457) (tgt := 489) hx hb dL_law_32 (by rw [g13]; decide) (by rw [g13]; decide) (by rw [g13]; rfl) (by decide) ?_
        exact law_case_ways hN C1 h1 h2 h3 hI hK hP hD hS hl kk
      by_cases g14 : xs (nI i).toNatClampNeg &&& 31 = 14
      · refine lv_tableIn (off := 470) (tgt := 502) hx hb dL_law_32 (by rw [g14]; decide) (by rw [g14]; decide) (by rw [g14]; rfl) (by decide) ?_
        exact law_case_luck hN C1 h1 h2 h3 hI hK hP hD hS hl kk
      by_cases g15 : xs (nI i).toNatClampNeg &&& 31 = 15
      · refine lv_tableIn (off := 493) (tgt := 525) hx hb dL_law_32 (by rw [g15]; decide) (by rw [g15]; decide) (by rw [g15]; rfl) (by decide) ?_
        exact law_case_days hN C1 h1 h2 h3 hI hK hP hD hS hl kk
      by_cases g16 : xs (nI i).toNatClampNeg &&& 31 = 16
      · refine lv_tableIn (off := 516) (tgt := 548) hx hb dL_law_32 (by rw [g16]; decide) (by rw [g16]; decide) (by rw [g16]; rfl) (by decide) ?_
        exact law_case_span hN C1 h1 h2 h3 hI hK hP hD hS hl kk
      by_cases g17 : xs (nI i).toNatClampNeg &&& 31 = 17
      · refine lv_tableIn (off := 559) (tgt := 591) hx hb dL_law_32 (by rw [g17]; decide) (by rw [g17]; decide) (by rw [g17]; rfl) (by decide) ?_
        exact law_case_was hN C1 h1 h2 h3 hI hK hP hD hS hl kk
      by_cases g18 : xs (nI i).toNatClampNeg &&& 31 = 18
      · refine lv_tableIn (off := 592) (tgt := 624) hx hb dL_law_32 (by rw [g18]; decide) (by rw [g18]; decide) (by rw [g18]; rfl) (by decide) ?_
        exact law_case_worth hN C1 h1 h2 h3 hI hK hP hD hS hl kk
      by_cases g19 : xs (nI i).toNatClampNeg &&& 31 = 19
      · refine lv_tableIn (off := 636) (tgt := 668) hx hb dL_law_32 (by rw [g19]; decide) (by rw [g19]; decide) (by rw [g19]; rfl) (by decide) ?_
        exact law_case_call hN C1 h1 h2 h3 hI hK hP hD hS hl kk
      by_cases g20 : xs (nI i).toNatClampNeg &&& 31 = 20
      · refine lv_tableIn (off := 679) (tgt := 711) hx hb dL_law_32 (by rw [g20]; decide) (by rw [g20]; decide) (by rw [g20]; rfl) (by decide) ?_
        exact law_case_run hN C1 h1 h2 h3 hI hK hP hD hS hl kk
      by_cases g21 : xs (nI i).toNatClampNeg &&& 31 = 21
      · refine lv_tableIn (off := 712) (tgt := 744) hx hb dL_law_32 (by rw [g21]; decide) (by rw [g21]; decide) (by rw [g21]; rfl) (by decide) ?_
        exact law_case_behind hN C1 h1 h2 h3 hI hK hP hD hS hl kk
      by_cases g22 : xs (nI i).toNatClampNeg &&& 31 = 22
      · refine lv_tableIn (off := 735) (tgt := 767) hx hb dL_law_32 (by rw [g22]; decide) (by rw [g22]; decide) (by rw [g22]; rfl) (by decide) ?_
        exact law_case_many hN C1 h1 h2 h3 hI hK hP hD hS hl kk
      refine lv_tableOut (tgt := 790) hx hb dL_law_32 (sw_out 23 _ (fun j hj => by rcases sw_lt23 hj with rfl | rfl | rfl | rfl | rfl | rfl | rfl | rfl | rfl | rfl | rfl | rfl | rfl | rfl | rfl | rfl | rfl | rfl | rfl | rfl | rfl | rfl | rfl <;> assumption)) (by decide) ?_
      unfold lw_kk at kk
      exact kk _ _ _ _ _ _ _ _ _ _ _ _ _ _ _ _ _ _ _ _ _ _ _ _ _ _ _ _ _ _ _ _ _ _ _ _ _ _ _ _ _ _ _ _ _ _ _ _ _ _ _ _ H locs ls hP hD hS hl hI
    · exact law_end (dC := dC) (dI := dI) (cI := cI) (cZ := cZ) (cJ := cJ) (cA := cA) hL C1 hS (i := i) (by omega) (by omega) hl
