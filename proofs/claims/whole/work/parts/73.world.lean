theorem vy_leftP {D : va_G} {cl : List vw_C} {a b : va_W} {H : Heap} (h : va_P D cl (a ++ b) H) : va_P D cl a H := fun k q hk => h k q (by rw [List.getElem?_append_left (List.getElem?_eq_some_iff.mp hk).1]; exact hk)
theorem vy_leftD {A : Nat → Prop} {a b : va_W} (h : va_D A (a ++ b)) : va_D A a := by
  have key : ∀ (k : Nat) (q : Nat × va_E), a[k]? = some q → (a ++ b)[k]? = some q := fun k q hk => by rw [List.getElem?_append_left (List.getElem?_eq_some_iff.mp hk).1]; exact hk
  exact ⟨fun i j p q hi hj e => h.1 i j p q (key i p hi) (key j q hj) e, fun k q hk => h.2 k q (key k q hk)⟩
theorem vy_swapP {D : va_G} {cl : List vw_C} {a b : va_W} {H : Heap} (h : va_P D cl (a ++ b) H) : va_P D cl (b ++ a) H := fun k q hk => by
  have h1 := List.mem_of_getElem? hk
  have h2 : q ∈ a ++ b := List.mem_append.mpr (List.mem_append.mp h1).symm
  obtain ⟨i, hi⟩ := List.mem_iff_getElem?.mp h2
  exact h i q hi
theorem vy_swapD {A : Nat → Prop} {a b : va_W} (h : va_D A (a ++ b)) : va_D A (b ++ a) := by
  have key : ∀ (k : Nat) (q : Nat × va_E), (b ++ a)[k]? = some q → (a ++ b)[if k < b.length then a.length + k else k - b.length]? = some q ∧ k < b.length + a.length := fun k q hk => by
    have hl := (List.getElem?_eq_some_iff.mp hk).1
    rw [List.length_append] at hl
    refine ⟨?_, hl⟩
    by_cases c : k < b.length
    · rw [if_pos c, List.getElem?_append_right (by omega), Nat.add_sub_cancel_left]
      rw [List.getElem?_append_left c] at hk
      exact hk
    · rw [if_neg c, List.getElem?_append_left (by omega)]
      rw [List.getElem?_append_right (by omega)] at hk
      exact hk
  refine ⟨fun i j p q hi hj e => ?_, fun k q hk => h.2 _ q (key k q hk).1⟩
  obtain ⟨h1, h2⟩ := key i p hi
  obtain ⟨h3, h4⟩ := key j q hj
  have h5 := h.1 _ _ p q h1 h3 e
  by_cases c : i < b.length
  · rw [if_pos c] at h5
    by_cases c' : j < b.length
    · rw [if_pos c'] at h5; omega
    · rw [if_neg c'] at h5; omega
  · rw [if_neg c] at h5
    by_cases c' : j < b.length
    · rw [if_pos c'] at h5; omega
    · rw [if_neg c'] at h5; omega
/-- behind a call: the callee's cells as it left them, all others as they were, in their places -/
theorem vy_call {A0 : Nat → Prop} {D : va_G} {cl : List vw_C} {X X' pl wc w1 : va_W} {H H1 : Heap} (hP : va_P D cl (X ++ pl) H) (hD : va_D A0 (X ++ pl)) (isC isR : List Nat) (hC : isC.map (fun i => X[i]?) = wc.map some) (hC' : isC.map (fun i => X'[i]?) = w1.map some) (wr : va_W) (hR : isR.map (fun i => X[i]?) = wr.map some) (hR' : isR.map (fun i => X'[i]?) = wr.map some) (n : Nat) (hn : X'.length = n) (hcov : ∀ k, k < n → k ∈ isC ∨ k ∈ isR) (hdis : ∀ i ∈ isR, i ∉ isC) (ad : List Nat) (ha0 : X.map (fun q => q.1) = ad) (ha1 : X'.map (fun q => q.1) = ad)
    (hk : ∀ q : Nat, q < H.size → ¬ va_A wc H.size q → H1[q]? = H[q]?) (hP1 : va_P D cl w1 H1) : va_P D cl (X' ++ pl) H1 ∧ va_D A0 (X' ++ pl) := by
  have ha : X'.map (fun q => q.1) = X.map (fun q => q.1) := ha1.trans ha0.symm
  have hlen : X'.length = X.length := by
    have := congrArg List.length ha
    rw [List.length_map, List.length_map] at this
    exact this
  have haddr : ∀ (k : Nat) (q : Nat × va_E), (X' ++ pl)[k]? = some q → ∃ q0, (X ++ pl)[k]? = some q0 ∧ q0.1 = q.1 := by
    intro k q hq
    by_cases h : k < X'.length
    · rw [List.getElem?_append_left h] at hq
      have h2 : (X'.map (fun q => q.1))[k]? = some q.1 := by rw [List.getElem?_map, hq]; rfl
      rw [ha, List.getElem?_map] at h2
      cases hx : X[k]? with
      | none => rw [hx] at h2; cases h2
      | some q0 =>
        rw [hx] at h2
        exact ⟨q0, by rw [List.getElem?_append_left (by omega)]; exact hx, Option.some.inj h2⟩
    · rw [List.getElem?_append_right (by omega)] at hq
      exact ⟨q, by rw [List.getElem?_append_right (by omega), ← hlen]; exact hq, rfl⟩
  have apart : ∀ (k : Nat) (q : Nat × va_E), (X ++ pl)[k]? = some q → (∀ j : Nat, ¬ isC[j]? = some k) → q.1 < H.size ∧ ¬ va_A wc H.size q.1 := by
    intro k q hq hno
    refine ⟨(hP k q hq).lt, fun h => ?_⟩
    have hl := (hP k q hq).lt
    rcases h with ⟨k2, e, h⟩ | h
    · obtain ⟨j, h3, h4⟩ := va_in_of isC hC h
      have h4' : (X ++ pl)[j]? = some (q.1, e) := by rw [List.getElem?_append_left (List.getElem?_eq_some_iff.mp h4).1]; exact h4
      have hij := hD.1 k j q (q.1, e) hq h4' rfl
      subst hij
      exact hno k2 h3
    · omega
  refine ⟨fun k q hq => ?_, fun i j x y hi hj e => ?_, fun k q hq => ?_⟩
  · by_cases h : k < X'.length
    · rw [List.getElem?_append_left h] at hq
      rcases hcov k (by omega) with hc | hr
      · obtain ⟨j, hj⟩ := List.mem_iff_getElem?.mp hc
        have h1 : (isC.map (fun i => X'[i]?))[j]? = some (some q) := by
          rw [List.getElem?_map, hj]
          show some (X'[k]?) = _
          rw [hq]
        rw [hC', List.getElem?_map] at h1
        cases hw : w1[j]? with
        | none => rw [hw] at h1; cases h1
        | some q1 =>
          rw [hw] at h1
          have h2 : q1 = q := Option.some.inj (Option.some.inj h1)
          subst h2
          exact hP1 j q1 hw
      · obtain ⟨j, hj⟩ := List.mem_iff_getElem?.mp hr
        have h1 : (isR.map (fun i => X'[i]?))[j]? = some (some q) := by
          rw [List.getElem?_map, hj]
          show some (X'[k]?) = _
          rw [hq]
        rw [hR', ← hR, List.getElem?_map, hj] at h1
        have h2 : X[k]? = some q := Option.some.inj h1
        have h3 : (X ++ pl)[k]? = some q := by rw [List.getElem?_append_left (by omega)]; exact h2
        obtain ⟨g1, g2⟩ := apart k q h3 (fun j' hj' => hdis k hr (List.mem_of_getElem? hj'))
        exact (hP k q h3).kept (hk q.1 g1 g2)
    · rw [List.getElem?_append_right (by omega)] at hq
      have h3 : (X ++ pl)[k]? = some q := by rw [List.getElem?_append_right (by omega), ← hlen]; exact hq
      obtain ⟨g1, g2⟩ := apart k q h3 (fun j' hj' => by
        have h1 : (isC.map (fun i => X[i]?))[j']? = some (X[k]?) := by rw [List.getElem?_map, hj']; rfl
        rw [hC, List.getElem?_map, List.getElem?_eq_none (show X.length ≤ k by omega)] at h1
        cases hw : wc[j']? with
        | none => rw [hw] at h1; cases h1
        | some q1 => rw [hw] at h1; cases h1)
      exact (hP k q h3).kept (hk q.1 g1 g2)
  · obtain ⟨x0, hx, ex⟩ := haddr i x hi
    obtain ⟨y0, hy, ey⟩ := haddr j y hj
    exact hD.1 i j x0 y0 hx hy (by rw [ex, ey]; exact e)
  · obtain ⟨q0, hq0, e⟩ := haddr k q hq
    rw [← e]
    exact hD.2 k q0 hq0
def lwX (cI cZ cJ cA : ClassId) (ax ro_x_wait_above : Nat → Nat) (v_x_heat_riders : Int32) (v_x_heat_rides : Int32) (v_x_heat_riderOf : Nat → Int32) (v_x_heat_waveOf : Nat → Int32) (v_x_heat_marks : Nat → Int32) (v_x_heat_marksOf : Nat → Int32) (v_x_heat_scoreOf : Nat → Int32) (v_x_heat_toGive : Nat → Int32) (v_x_heat_line_size : Int32) (v_x_heat_line_row : Nat → Int32) (v_x_heat_wave_number : Int32) (v_x_heat_wave_turn : Nat → Int32) (v_x_heat_wave_onIt : Nat → Int32) (v_x_heat_wave_blamed : Nat → Int32) (v_x_heat_board_riders : Int32) (v_x_heat_board_best : Nat → Int32) (v_x_heat_board_second : Nat → Int32) (v_x_heat_board_faults : Nat → Int32) (v_x_past_size : Int32) (v_x_past_scores : Nat → Int32) (v_x_wait_days : Int32) (v_x_wait_from : Nat → Int32) (v_x_wait_to : Nat → Int32) (v_x_wait_known : Nat → Int32) (v_x_wait_above : Nat → Nat → Int64) (v_x_wait_below : Nat → Int64) : va_W := [((ax 0), .inr (6, [.ref (ax 1), .ref (ax 18), .ref (ax 20)])), ((ax 1), .inr (1, [.int v_x_heat_riders, .int v_x_heat_rides, .ref (ax 2), .ref (ax 3), .ref (ax 4), .ref (ax 5), .ref (ax 6), .ref (ax 7), .ref (ax 8), .ref (ax 10), .ref (ax 14)])), ((ax 2), .inl (cI, 30, .inl v_x_heat_riderOf)), ((ax 3), .inl (cI, 30, .inl v_x_heat_waveOf)), ((ax 4), .inl (cI, 150, .inl v_x_heat_marks)), ((ax 5), .inl (cI, 30, .inl v_x_heat_marksOf)), ((ax 6), .inl (cI, 30, .inl v_x_heat_scoreOf)), ((ax 7), .inl (cI, 4, .inl v_x_heat_toGive)), ((ax 8), .inr (2, [.ref (ax 9), .int v_x_heat_line_size])), ((ax 9), .inl (cI, 4, .inl v_x_heat_line_row)), ((ax 10), .inr (5, [.int v_x_heat_wave_number, .ref (ax 11), .ref (ax 12), .ref (ax 13)])), ((ax 11), .inl (cI, 4, .inl v_x_heat_wave_turn)), ((ax 12), .inl (cZ, 4, .inl v_x_heat_wave_onIt)), ((ax 13), .inl (cZ, 4, .inl v_x_heat_wave_blamed)), ((ax 14), .inr (0, [.int v_x_heat_board_riders, .ref (ax 15), .ref (ax 16), .ref (ax 17)])), ((ax 15), .inl (cI, 4, .inl v_x_heat_board_best)), ((ax 16), .inl (cI, 4, .inl v_x_heat_board_second)), ((ax 17), .inl (cI, 4, .inl v_x_heat_board_faults)), ((ax 18), .inr (3, [.ref (ax 19), .int v_x_past_size])), ((ax 19), .inl (cI, 40, .inl v_x_past_scores)), ((ax 20), .inr (4, [.int v_x_wait_days, .ref (ax 21), .ref (ax 22), .ref (ax 23), .ref (ax 24), .ref (ax 25)])), ((ax 21), .inl (cI, 9, .inl v_x_wait_from)), ((ax 22), .inl (cI, 9, .inl v_x_wait_to)), ((ax 23), .inl (cI, 9, .inl v_x_wait_known)), ((ax 24), .inl (cA, 10, .inr (.inr (.inr (.inr (fun i => if i < 10 then some (ro_x_wait_above i) else none)))))), (ro_x_wait_above 0, .inl (cJ, 10, .inr (.inl (v_x_wait_above 0)))), (ro_x_wait_above 1, .inl (cJ, 10, .inr (.inl (v_x_wait_above 1)))), (ro_x_wait_above 2, .inl (cJ, 10, .inr (.inl (v_x_wait_above 2)))), (ro_x_wait_above 3, .inl (cJ, 10, .inr (.inl (v_x_wait_above 3)))), (ro_x_wait_above 4, .inl (cJ, 10, .inr (.inl (v_x_wait_above 4)))), (ro_x_wait_above 5, .inl (cJ, 10, .inr (.inl (v_x_wait_above 5)))), (ro_x_wait_above 6, .inl (cJ, 10, .inr (.inl (v_x_wait_above 6)))), (ro_x_wait_above 7, .inl (cJ, 10, .inr (.inl (v_x_wait_above 7)))), (ro_x_wait_above 8, .inl (cJ, 10, .inr (.inl (v_x_wait_above 8)))), (ro_x_wait_above 9, .inl (cJ, 10, .inr (.inl (v_x_wait_above 9)))), ((ax 25), .inl (cJ, 10, .inr (.inl v_x_wait_below)))]
def adx (ax ro_x_wait_above : Nat → Nat) : List Nat := [(ax 0), (ax 1), (ax 2), (ax 3), (ax 4), (ax 5), (ax 6), (ax 7), (ax 8), (ax 9), (ax 10), (ax 11), (ax 12), (ax 13), (ax 14), (ax 15), (ax 16), (ax 17), (ax 18), (ax 19), (ax 20), (ax 21), (ax 22), (ax 23), (ax 24), ro_x_wait_above 0, ro_x_wait_above 1, ro_x_wait_above 2, ro_x_wait_above 3, ro_x_wait_above 4, ro_x_wait_above 5, ro_x_wait_above 6, ro_x_wait_above 7, ro_x_wait_above 8, ro_x_wait_above 9, (ax 25)]
def lwM (cI cZ cJ cA : ClassId) (am : Nat → Nat) (v_m_riders : Int32) (v_m_rides : Int32) (v_m_lineMany : Int32) (v_m_isOpen : Int32) (v_m_group : Int32) (v_m_wrong : Int32) (v_m_pastMany : Int32) (v_m_days : Int32) (v_m_riderOf : Nat → Int32) (v_m_waveOf : Nat → Int32) (v_m_marks : Nat → Int32) (v_m_line : Nat → Int32) (v_m_interfered : Nat → Int32) (v_m_stood : Nat → Int32) (v_m_past : Nat → Int32) (v_m_low : Nat → Int32) (v_m_high : Nat → Int32) (v_m_was : Nat → Int32) (v_m_best : Nat → Int32) (v_m_second : Nat → Int32) (v_m_total : Nat → Int32) (v_m_givenTo : Nat → Int32) (v_m_has : Nat → Int32) (v_m_own : Nat → Int32) (v_m_sums : Nat → Int64) (v_m_below : Nat → Int64) : va_W := [((am 0), .inr (7, [.int v_m_riders, .int v_m_rides, .ref (am 1), .ref (am 2), .ref (am 3), .int v_m_lineMany, .ref (am 4), .ref (am 5), .int v_m_isOpen, .int v_m_group, .int v_m_wrong, .ref (am 6), .int v_m_pastMany, .ref (am 7), .int v_m_days, .ref (am 8), .ref (am 9), .ref (am 10), .ref (am 11), .ref (am 12), .ref (am 13), .ref (am 14), .ref (am 15), .ref (am 16), .ref (am 17), .ref (am 18)])), ((am 1), .inl (cI, 30, .inl v_m_riderOf)), ((am 2), .inl (cI, 30, .inl v_m_waveOf)), ((am 3), .inl (cI, 150, .inl v_m_marks)), ((am 4), .inl (cI, 4, .inl v_m_line)), ((am 5), .inl (cI, 4, .inl v_m_interfered)), ((am 6), .inl (cI, 4, .inl v_m_stood)), ((am 7), .inl (cI, 40, .inl v_m_past)), ((am 8), .inl (cI, 9, .inl v_m_low)), ((am 9), .inl (cI, 9, .inl v_m_high)), ((am 10), .inl (cI, 9, .inl v_m_was)), ((am 11), .inl (cI, 4, .inl v_m_best)), ((am 12), .inl (cI, 4, .inl v_m_second)), ((am 13), .inl (cI, 4, .inl v_m_total)), ((am 14), .inl (cI, 8, .inl v_m_givenTo)), ((am 15), .inl (cI, 4, .inl v_m_has)), ((am 16), .inl (cI, 4, .inl v_m_own)), ((am 17), .inl (cJ, 100, .inr (.inl v_m_sums))), ((am 18), .inl (cJ, 10, .inr (.inl v_m_below)))]
def adm (am : Nat → Nat) : List Nat := [(am 0), (am 1), (am 2), (am 3), (am 4), (am 5), (am 6), (am 7), (am 8), (am 9), (am 10), (am 11), (am 12), (am 13), (am 14), (am 15), (am 16), (am 17), (am 18)]
def lw_kk (p : Program) (l : Launch) (e : Env) (s : State) (m : MethodId) (below : List Frame) (meth : Method) (c : Code) (dC : Nat → ClassId) (dI : Nat → Nat → Nat) (cI cZ cJ cA : ClassId) (b : Nat) (ax ro_x_wait_above am : Nat → Nat) (x3 : Int32) (pc : Nat) : Prop := ∀ (v_x_heat_riders : Int32) (v_x_heat_rides : Int32) (v_x_heat_riderOf : Nat → Int32) (v_x_heat_waveOf : Nat → Int32) (v_x_heat_marks : Nat → Int32) (v_x_heat_marksOf : Nat → Int32) (v_x_heat_scoreOf : Nat → Int32) (v_x_heat_toGive : Nat → Int32) (v_x_heat_line_size : Int32) (v_x_heat_line_row : Nat → Int32) (v_x_heat_wave_number : Int32) (v_x_heat_wave_turn : Nat → Int32) (v_x_heat_wave_onIt : Nat → Int32) (v_x_heat_wave_blamed : Nat → Int32) (v_x_heat_board_riders : Int32) (v_x_heat_board_best : Nat → Int32) (v_x_heat_board_second : Nat → Int32) (v_x_heat_board_faults : Nat → Int32) (v_x_past_size : Int32) (v_x_past_scores : Nat → Int32) (v_x_wait_days : Int32) (v_x_wait_from : Nat → Int32) (v_x_wait_to : Nat → Int32) (v_x_wait_known : Nat → Int32) (v_x_wait_above : Nat → Nat → Int64) (v_x_wait_below : Nat → Int64) (v_m_riders : Int32) (v_m_rides : Int32) (v_m_lineMany : Int32) (v_m_isOpen : Int32) (v_m_group : Int32) (v_m_wrong : Int32) (v_m_pastMany : Int32) (v_m_days : Int32) (v_m_riderOf : Nat → Int32) (v_m_waveOf : Nat → Int32) (v_m_marks : Nat → Int32) (v_m_line : Nat → Int32) (v_m_interfered : Nat → Int32) (v_m_stood : Nat → Int32) (v_m_past : Nat → Int32) (v_m_low : Nat → Int32) (v_m_high : Nat → Int32) (v_m_was : Nat → Int32) (v_m_best : Nat → Int32) (v_m_second : Nat → Int32) (v_m_total : Nat → Int32) (v_m_givenTo : Nat → Int32) (v_m_has : Nat → Int32) (v_m_own : Nat → Int32) (v_m_sums : Nat → Int64) (v_m_below : Nat → Int64) (H : Heap) (locs : List Loc) (ls : Array Slot), va_P (dC, dI) vwCl ((lwX cI cZ cJ cA ax ro_x_wait_above v_x_heat_riders v_x_heat_rides v_x_heat_riderOf v_x_heat_waveOf v_x_heat_marks v_x_heat_marksOf v_x_heat_scoreOf v_x_heat_toGive v_x_heat_line_size v_x_heat_line_row v_x_heat_wave_number v_x_heat_wave_turn v_x_heat_wave_onIt v_x_heat_wave_blamed v_x_heat_board_riders v_x_heat_board_best v_x_heat_board_second v_x_heat_board_faults v_x_past_size v_x_past_scores v_x_wait_days v_x_wait_from v_x_wait_to v_x_wait_known v_x_wait_above v_x_wait_below) ++ (lwM cI cZ cJ cA am v_m_riders v_m_rides v_m_lineMany v_m_isOpen v_m_group v_m_wrong v_m_pastMany v_m_days v_m_riderOf v_m_waveOf v_m_marks v_m_line v_m_interfered v_m_stood v_m_past v_m_low v_m_high v_m_was v_m_best v_m_second v_m_total v_m_givenTo v_m_has v_m_own v_m_sums v_m_below)) H → va_D (fun q : Nat => s.heap.size ≤ q) ((lwX cI cZ cJ cA ax ro_x_wait_above v_x_heat_riders v_x_heat_rides v_x_heat_riderOf v_x_heat_waveOf v_x_heat_marks v_x_heat_marksOf v_x_heat_scoreOf v_x_heat_toGive v_x_heat_line_size v_x_heat_line_row v_x_heat_wave_number v_x_heat_wave_turn v_x_heat_wave_onIt v_x_heat_wave_blamed v_x_heat_board_riders v_x_heat_board_best v_x_heat_board_second v_x_heat_board_faults v_x_past_size v_x_past_scores v_x_wait_days v_x_wait_from v_x_wait_to v_x_wait_known v_x_wait_above v_x_wait_below) ++ (lwM cI cZ cJ cA am v_m_riders v_m_rides v_m_lineMany v_m_isOpen v_m_group v_m_wrong v_m_pastMany v_m_days v_m_riderOf v_m_waveOf v_m_marks v_m_line v_m_interfered v_m_stood v_m_past v_m_low v_m_high v_m_was v_m_best v_m_second v_m_total v_m_givenTo v_m_has v_m_own v_m_sums v_m_below)) → va_S (fun q : Nat => s.heap.size ≤ q) s.heap H locs → lv_has ls 4 [(0, .ref b), (1, .ref (ax 0)), (2, .ref (am 0)), (3, .int x3)] → Inv v_x_heat_riders v_x_heat_rides v_x_heat_riderOf v_x_heat_waveOf v_x_heat_marks v_x_heat_marksOf v_x_heat_scoreOf v_x_heat_toGive v_x_heat_line_size v_x_heat_line_row v_x_heat_wave_number v_x_heat_wave_turn v_x_heat_wave_onIt v_x_heat_wave_blamed v_x_heat_board_riders v_x_heat_board_best v_x_heat_board_second v_x_heat_board_faults v_x_past_size v_x_past_scores v_x_wait_days v_x_wait_from v_x_wait_to v_x_wait_known v_x_wait_above v_x_wait_below v_m_riders v_m_rides v_m_lineMany v_m_isOpen v_m_group v_m_wrong v_m_pastMany v_m_days v_m_riderOf v_m_waveOf v_m_marks v_m_line v_m_interfered v_m_stood v_m_past v_m_low v_m_high v_m_was v_m_best v_m_second v_m_total v_m_givenTo v_m_has v_m_own v_m_sums v_m_below → W p l e room_1 s m #[Value.ref b] below meth c H locs 55 974 (lw_Z below #[Value.ref b] s) (F0 m pc ls [])
