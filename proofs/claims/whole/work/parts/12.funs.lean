def fX0_begin_L7 (N : Nat) (v_riders : Int32) : Nat → Int32 → (Nat → Int32) → Option (Int32 × (Nat → Int32))
  | 0, _, _ => none
  | n + 1, x2, v_faults =>
    if 4 ≤ x2 then
      some (v_riders, v_faults)
    else
      if x2 < 0 ∨ 4 ≤ x2.toNatClampNeg then none else
      fX0_begin_L7 N v_riders n (x2 + 1) (upd v_faults x2.toNatClampNeg 0)
def fX0_begin (N : Nat) (x1 : Int32) (v_riders : Int32) (v_faults : Nat → Int32) : Option (Int32 × (Nat → Int32)) :=
  fX0_begin_L7 N x1 N 0 v_faults
def fX0_setScores (N : Nat) (x1 : Int32) (x2 : Int32) (x3 : Int32) (v_best : Nat → Int32) (v_second : Nat → Int32) : Option ((Nat → Int32) × (Nat → Int32)) :=
  if x1 < 0 ∨ 4 ≤ x1.toNatClampNeg then none else
  some (upd v_best x1.toNatClampNeg x2, upd v_second x1.toNatClampNeg x3)
def fX0_clearScores_L2 (N : Nat) : Nat → Int32 → (Nat → Int32) → (Nat → Int32) → Option ((Nat → Int32) × (Nat → Int32))
  | 0, _, _, _ => none
  | n + 1, x1, v_best, v_second =>
    if 4 ≤ x1 then
      some (v_best, v_second)
    else
      ob2 (fX0_setScores N x1 0 0 v_best v_second) (fun o_2_best o_2_second =>
      fX0_clearScores_L2 N n (x1 + 1) o_2_best o_2_second)
def fX0_clearScores (N : Nat) (v_best : Nat → Int32) (v_second : Nat → Int32) : Option ((Nat → Int32) × (Nat → Int32)) :=
  fX0_clearScores_L2 N N 0 v_best v_second
def fX0_addScore (N : Nat) (x1 : Int32) (x2 : Int32) (v_best : Nat → Int32) (v_second : Nat → Int32) : Option ((Nat → Int32) × (Nat → Int32)) :=
  if x1 < 0 ∨ 4 ≤ x1.toNatClampNeg then none else
  if x2 ≤ (v_best x1.toNatClampNeg) then
    if x2 ≤ (v_second x1.toNatClampNeg) then
      some (v_best, v_second)
    else
      some (v_best, upd v_second x1.toNatClampNeg x2)
  else
    ob2 (fX0_setScores N x1 x2 (v_best x1.toNatClampNeg) v_best v_second) (fun o_4_best o_4_second =>
    some (o_4_best, o_4_second))
def fX0_total (N : Nat) (x1 : Int32) (v_best : Nat → Int32) (v_second : Nat → Int32) (v_faults : Nat → Int32) : Option (Int32) :=
  if x1 < 0 ∨ 4 ≤ x1.toNatClampNeg then none else
  if (v_faults x1.toNatClampNeg) = 0 then
    some ((v_best x1.toNatClampNeg) + (v_second x1.toNatClampNeg))
  else
    if (v_faults x1.toNatClampNeg) = 1 then
      some ((v_best x1.toNatClampNeg) + ((v_second x1.toNatClampNeg) / 2))
    else
      some ((v_best x1.toNatClampNeg) / 2)
def fX0_isBetter (N : Nat) (x1 : Int32) (x2 : Int32) (v_best : Nat → Int32) (v_second : Nat → Int32) (v_faults : Nat → Int32) : Option (Int32) :=
  ob1 (fX0_total N x1 v_best v_second v_faults) (fun r_1 =>
  ob1 (fX0_total N x2 v_best v_second v_faults) (fun r_2 =>
  if r_1 = r_2 then
    if x1 < 0 ∨ 4 ≤ x1.toNatClampNeg then none else
    if x2 < 0 ∨ 4 ≤ x2.toNatClampNeg then none else
    if (v_best x1.toNatClampNeg) = (v_best x2.toNatClampNeg) then
      if x2 ≤ x1 then
        some 0
      else
        some 1
    else
      if (v_best x1.toNatClampNeg) ≤ (v_best x2.toNatClampNeg) then
        some 0
      else
        some 1
  else
    if r_1 ≤ r_2 then
      some 0
    else
      some 1))
def fX0_placeOf_L4 (N : Nat) (x1 : Int32) (v_riders : Int32) (v_best : Nat → Int32) (v_second : Nat → Int32) (v_faults : Nat → Int32) : Nat → Int32 → Int32 → Option (Int32)
  | 0, _, _ => none
  | n + 1, x2, x3 =>
    if v_riders ≤ x3 then
      some x2
    else
      ob1 (fX0_isBetter N x3 x1 v_best v_second v_faults) (fun r_2 =>
      if r_2 = 0 then
        fX0_placeOf_L4 N x1 v_riders v_best v_second v_faults n x2 (x3 + 1)
      else
        fX0_placeOf_L4 N x1 v_riders v_best v_second v_faults n (x2 + 1) (x3 + 1))
def fX0_placeOf (N : Nat) (x1 : Int32) (v_riders : Int32) (v_best : Nat → Int32) (v_second : Nat → Int32) (v_faults : Nat → Int32) : Option (Int32) :=
  fX0_placeOf_L4 N x1 v_riders v_best v_second v_faults N 0 0
def fX0_allFaults_L4 (N : Nat) (v_riders : Int32) (v_faults : Nat → Int32) : Nat → Int32 → Int32 → Option (Int32)
  | 0, _, _ => none
  | n + 1, x1, x2 =>
    if v_riders ≤ x2 then
      some x1
    else
      if x2 < 0 ∨ 4 ≤ x2.toNatClampNeg then none else
      fX0_allFaults_L4 N v_riders v_faults n (x1 + (v_faults x2.toNatClampNeg)) (x2 + 1)
def fX0_allFaults (N : Nat) (v_riders : Int32) (v_faults : Nat → Int32) : Option (Int32) :=
  fX0_allFaults_L4 N v_riders v_faults N 0 0
def fX2_join (N : Nat) (x1 : Int32) (v_size : Int32) (v_row : Nat → Int32) : Option (Int32 × (Nat → Int32)) :=
  if 4 ≤ v_size then
    some (v_size, v_row)
  else
    if v_size < 0 ∨ 4 ≤ v_size.toNatClampNeg then none else
    some (v_size + 1, upd v_row v_size.toNatClampNeg x1)
def fX2_fillByNumbers_L7 (N : Nat) (x1 : Int32) : Nat → Int32 → Int32 → (Nat → Int32) → Option (Int32 × (Nat → Int32))
  | 0, _, _, _ => none
  | n + 1, x2, v_size, v_row =>
    if x1 ≤ x2 then
      some (v_size, v_row)
    else
      ob2 (fX2_join N x2 v_size v_row) (fun o_2_size o_2_row =>
      fX2_fillByNumbers_L7 N x1 n (x2 + 1) o_2_size o_2_row)
def fX2_fillByNumbers (N : Nat) (x1 : Int32) (v_size : Int32) (v_row : Nat → Int32) : Option (Int32 × (Nat → Int32)) :=
  fX2_fillByNumbers_L7 N x1 N 0 0 v_row
def fX5_end (N : Nat) (v_number : Int32) : Option (Int32 × Int32) :=
  if v_number = (-1) then
    some (0, (-1))
  else
    some (1, (-1))
def fX1_begin (N : Nat) (x1 : Int32) (v_riders : Int32) (v_rides : Int32) (v_line_size : Int32) (v_line_row : Nat → Int32) (v_wave_number : Int32) (v_board_riders : Int32) (v_board_faults : Nat → Int32) : Option (Int32 × Int32 × Int32 × (Nat → Int32) × Int32 × Int32 × (Nat → Int32)) :=
  ob2 (fX2_fillByNumbers N x1 v_line_size v_line_row) (fun o_1_line_size o_1_line_row =>
  ob2 (fX5_end N v_wave_number) (fun r_2 o_2_wave_number =>
  ob2 (fX0_begin N x1 v_board_riders v_board_faults) (fun o_3_board_riders o_3_board_faults =>
  some (x1, 0, o_1_line_size, o_1_line_row, o_2_wave_number, o_3_board_riders, o_3_board_faults))))
def fX1_hasRider (N : Nat) (x1 : Int32) (v_riders : Int32) : Option (Int32) :=
  if x1 < 0 then
    some 0
  else
    if v_riders ≤ x1 then
      some 0
    else
      some 1
def fX1_hasRide (N : Nat) (x1 : Int32) (v_rides : Int32) : Option (Int32) :=
  if x1 < 0 then
    some 0
  else
    if v_rides ≤ x1 then
      some 0
    else
      some 1
def fX1_score_L14 (N : Nat) (x1 : Int32) (v_marks : Nat → Int32) (k : Int32 → Int32 → Int32 → Int32 → Int32 → Option ((Nat → Int32) × (Nat → Int32))) : Nat → Int32 → Int32 → Int32 → Int32 → Int32 → Option ((Nat → Int32) × (Nat → Int32))
  | 0, _, _, _, _, _ => none
  | n + 1, x2, x3, x4, x5, x6 =>
    if 5 ≤ x6 then
      k x2 x3 x4 x5 x6
    else
      if ((x1 * 5) + x6) < 0 ∨ 150 ≤ ((x1 * 5) + x6).toNatClampNeg then none else
      if (v_marks ((x1 * 5) + x6).toNatClampNeg) = (-1) then
        fX1_score_L14 N x1 v_marks k n x2 x3 x4 x5 (x6 + 1)
      else
        fX1_score_L14 N x1 v_marks k n (x2 + 1) (x3 + (v_marks ((x1 * 5) + x6).toNatClampNeg)) (if (v_marks ((x1 * 5) + x6).toNatClampNeg) < x4 then (v_marks ((x1 * 5) + x6).toNatClampNeg) else x4) (if x5 < (v_marks ((x1 * 5) + x6).toNatClampNeg) then (v_marks ((x1 * 5) + x6).toNatClampNeg) else x5) (x6 + 1)
def fX1_score (N : Nat) (x1 : Int32) (v_marks : Nat → Int32) (v_marksOf : Nat → Int32) (v_scoreOf : Nat → Int32) : Option ((Nat → Int32) × (Nat → Int32)) :=
  fX1_score_L14 N x1 v_marks (fun (x2_4 : Int32) (x3_4 : Int32) (x4_4 : Int32) (x5_4 : Int32) (x6_4 : Int32) =>
    if x1 < 0 ∨ 30 ≤ x1.toNatClampNeg then none else
  if x2_4 < 4 then
    if x2_4 ≤ 0 then
      some (upd v_marksOf x1.toNatClampNeg x2_4, upd v_scoreOf x1.toNatClampNeg 0)
    else
      if x2_4 = 0 then none else
      some (upd v_marksOf x1.toNatClampNeg x2_4, upd v_scoreOf x1.toNatClampNeg ((3 * x3_4) / x2_4))
  else
    if (x2_4 + (-2)) ≤ 0 then
      some (upd v_marksOf x1.toNatClampNeg x2_4, upd v_scoreOf x1.toNatClampNeg 0)
    else
      if (x2_4 + (-2)) = 0 then none else
      some (upd v_marksOf x1.toNatClampNeg x2_4, upd v_scoreOf x1.toNatClampNeg ((3 * (x3_4 - (x4_4 + x5_4))) / (x2_4 + (-2))))) N 0 0 100 0 0
def fX2_positionOf_L2 (N : Nat) (x1 : Int32) (v_size : Int32) (v_row : Nat → Int32) : Nat → Int32 → Option (Int32)
  | 0, _ => none
  | n + 1, x2 =>
    if v_size ≤ x2 then
      some v_size
    else
      if x2 < 0 ∨ 4 ≤ x2.toNatClampNeg then none else
      if (v_row x2.toNatClampNeg) = x1 then
        some x2
      else
        fX2_positionOf_L2 N x1 v_size v_row n (x2 + 1)
def fX2_positionOf (N : Nat) (x1 : Int32) (v_size : Int32) (v_row : Nat → Int32) : Option (Int32) :=
  fX2_positionOf_L2 N x1 v_size v_row N 0
def fX2_holds (N : Nat) (x1 : Int32) (v_size : Int32) (v_row : Nat → Int32) : Option (Int32) :=
  ob1 (fX2_positionOf N x1 v_size v_row) (fun r_1 =>
  if v_size ≤ r_1 then
    some 0
  else
    some 1)
def fX5_start_L7 (N : Nat) (v_number : Int32) (v_a2_size : Int32) (v_a2_row : Nat → Int32) : Nat → Int32 → (Nat → Int32) → (Nat → Int32) → (Nat → Int32) → Option (Int32 × (Nat → Int32) × (Nat → Int32) × (Nat → Int32))
  | 0, _, _, _, _ => none
  | n + 1, x3, v_turn, v_onIt, v_blamed =>
    if 4 ≤ x3 then
      some (v_number, v_turn, v_onIt, v_blamed)
    else
      ob1 (fX2_holds N x3 v_a2_size v_a2_row) (fun r_2 =>
      if r_2 = 0 then
        if x3 < 0 ∨ 4 ≤ x3.toNatClampNeg then none else
        fX5_start_L7 N v_number v_a2_size v_a2_row n (x3 + 1) (upd v_turn x3.toNatClampNeg (4 + x3)) (upd v_onIt x3.toNatClampNeg (vp_nar .boolean 0)) (upd v_blamed x3.toNatClampNeg (vp_nar .boolean 0))
      else
        ob1 (fX2_positionOf N x3 v_a2_size v_a2_row) (fun r_5 =>
        if x3 < 0 ∨ 4 ≤ x3.toNatClampNeg then none else
        fX5_start_L7 N v_number v_a2_size v_a2_row n (x3 + 1) (upd v_turn x3.toNatClampNeg r_5) (upd v_onIt x3.toNatClampNeg (vp_nar .boolean 0)) (upd v_blamed x3.toNatClampNeg (vp_nar .boolean 0))))
def fX5_start (N : Nat) (x1 : Int32) (v_number : Int32) (v_turn : Nat → Int32) (v_onIt : Nat → Int32) (v_blamed : Nat → Int32) (v_a2_size : Int32) (v_a2_row : Nat → Int32) : Option (Int32 × (Nat → Int32) × (Nat → Int32) × (Nat → Int32)) :=
  fX5_start_L7 N x1 v_a2_size v_a2_row N 0 v_turn v_onIt v_blamed
def fX5_ride_L12 (N : Nat) (v_turn : Nat → Int32) (v_onIt : Nat → Int32) (k : Int32 → Int32 → Option ((Nat → Int32) × (Nat → Int32) × (Nat → Int32))) : Nat → Int32 → Int32 → Option ((Nat → Int32) × (Nat → Int32) × (Nat → Int32))
  | 0, _, _ => none
  | n + 1, x3, x4 =>
    if 4 ≤ x4 then
      k x3 x4
    else
      if x4 < 0 ∨ 4 ≤ x4.toNatClampNeg then none else
      if (v_onIt x4.toNatClampNeg) = 0 then
        fX5_ride_L12 N v_turn v_onIt k n x3 (x4 + 1)
      else
        if x3 < 0 ∨ 4 ≤ x3.toNatClampNeg then none else
        if (v_turn x3.toNatClampNeg) ≤ (v_turn x4.toNatClampNeg) then
          fX5_ride_L12 N v_turn v_onIt k n x3 (x4 + 1)
        else
          fX5_ride_L12 N v_turn v_onIt k n x4 (x4 + 1)
def fX5_ride_L56 (N : Nat) (x3 : Int32) (v_onIt : Nat → Int32) : Nat → Int32 → (Nat → Int32) → (Nat → Int32) → Option ((Nat → Int32) × (Nat → Int32) × (Nat → Int32))
  | 0, _, _, _ => none
  | n + 1, x4, v_blamed, v_a2 =>
    if 4 ≤ x4 then
      some (v_onIt, v_blamed, v_a2)
    else
      if x4 < 0 ∨ 4 ≤ x4.toNatClampNeg then none else
      if (v_onIt x4.toNatClampNeg) = 0 then
        fX5_ride_L56 N x3 v_onIt n (x4 + 1) v_blamed v_a2
      else
        if x4 = x3 then
          fX5_ride_L56 N x3 v_onIt n (x4 + 1) v_blamed v_a2
        else
          if (v_blamed x4.toNatClampNeg) = 0 then
            fX5_ride_L56 N x3 v_onIt n (x4 + 1) (upd v_blamed x4.toNatClampNeg (vp_nar .boolean 1)) (upd v_a2 x4.toNatClampNeg ((v_a2 x4.toNatClampNeg) + 1))
          else
            fX5_ride_L56 N x3 v_onIt n (x4 + 1) v_blamed v_a2
def fX5_ride (N : Nat) (x1 : Int32) (v_turn : Nat → Int32) (v_onIt : Nat → Int32) (v_blamed : Nat → Int32) (v_a2 : Nat → Int32) : Option ((Nat → Int32) × (Nat → Int32) × (Nat → Int32)) :=
  if x1 < 0 ∨ 4 ≤ x1.toNatClampNeg then none else
  fX5_ride_L12 N v_turn (upd v_onIt x1.toNatClampNeg (vp_nar .boolean 1)) (fun (x3_7 : Int32) (x4_7 : Int32) =>
    fX5_ride_L56 N x3_7 (upd v_onIt x1.toNatClampNeg (vp_nar .boolean 1)) N 0 v_blamed v_a2) N x1 0
def fX2_leave_L4 (N : Nat) (x1 : Int32) (v_size : Int32) : Nat → Int32 → Int32 → (Nat → Int32) → Option (Int32 × (Nat → Int32))
  | 0, _, _, _ => none
  | n + 1, x2, x3, v_row =>
    if v_size ≤ x3 then
      some (x2, v_row)
    else
      if x3 < 0 ∨ 4 ≤ x3.toNatClampNeg then none else
      if (v_row x3.toNatClampNeg) = x1 then
        fX2_leave_L4 N x1 v_size n x2 (x3 + 1) v_row
      else
        if x2 < 0 ∨ 4 ≤ x2.toNatClampNeg then none else
        fX2_leave_L4 N x1 v_size n (x2 + 1) (x3 + 1) (upd v_row x2.toNatClampNeg (v_row x3.toNatClampNeg))
def fX2_leave (N : Nat) (x1 : Int32) (v_size : Int32) (v_row : Nat → Int32) : Option (Int32 × (Nat → Int32)) :=
  fX2_leave_L4 N x1 v_size N 0 0 v_row
def fX1_addRide_L32 (N : Nat) (x3 : Int32) (k : Int32 → (Nat → Int32) → Option (Int32 × Int32 × (Nat → Int32) × (Nat → Int32) × (Nat → Int32) × (Nat → Int32) × (Nat → Int32) × Int32 × (Nat → Int32) × Int32 × (Nat → Int32) × (Nat → Int32) × (Nat → Int32) × (Nat → Int32))) : Nat → Int32 → (Nat → Int32) → Option (Int32 × Int32 × (Nat → Int32) × (Nat → Int32) × (Nat → Int32) × (Nat → Int32) × (Nat → Int32) × Int32 × (Nat → Int32) × Int32 × (Nat → Int32) × (Nat → Int32) × (Nat → Int32) × (Nat → Int32))
  | 0, _, _ => none
  | n + 1, x4, v_marks =>
    if 5 ≤ x4 then
      k x4 v_marks
    else
      if ((x3 * 5) + x4) < 0 ∨ 150 ≤ ((x3 * 5) + x4).toNatClampNeg then none else
      fX1_addRide_L32 N x3 k n (x4 + 1) (upd v_marks ((x3 * 5) + x4).toNatClampNeg (-1))
def fX1_addRide (N : Nat) (x1 : Int32) (x2 : Int32) (v_rides : Int32) (v_riderOf : Nat → Int32) (v_waveOf : Nat → Int32) (v_marks : Nat → Int32) (v_marksOf : Nat → Int32) (v_scoreOf : Nat → Int32) (v_line_size : Int32) (v_line_row : Nat → Int32) (v_wave_number : Int32) (v_wave_turn : Nat → Int32) (v_wave_onIt : Nat → Int32) (v_wave_blamed : Nat → Int32) (v_board_faults : Nat → Int32) : Option (Int32 × Int32 × (Nat → Int32) × (Nat → Int32) × (Nat → Int32) × (Nat → Int32) × (Nat → Int32) × Int32 × (Nat → Int32) × Int32 × (Nat → Int32) × (Nat → Int32) × (Nat → Int32) × (Nat → Int32)) :=
  if v_rides < 0 ∨ 30 ≤ v_rides.toNatClampNeg then none else
  fX1_addRide_L32 N v_rides (fun (x4_4 : Int32) (v_marks_4 : Nat → Int32) =>
    ob2 (fX1_score N v_rides v_marks_4 v_marksOf v_scoreOf) (fun o_5_marksOf o_5_scoreOf =>
  if v_wave_number = x2 then
    ob3 (fX5_ride N x1 v_wave_turn v_wave_onIt v_wave_blamed v_board_faults) (fun o_7_wave_onIt o_7_wave_blamed o_7_board_faults =>
    ob2 (fX2_leave N x1 v_line_size v_line_row) (fun o_8_line_size o_8_line_row =>
    some (v_rides, v_rides + 1, upd v_riderOf v_rides.toNatClampNeg x1, upd v_waveOf v_rides.toNatClampNeg x2, v_marks_4, o_5_marksOf, o_5_scoreOf, o_8_line_size, o_8_line_row, v_wave_number, v_wave_turn, o_7_wave_onIt, o_7_wave_blamed, o_7_board_faults)))
  else
    ob4 (fX5_start N x2 v_wave_number v_wave_turn v_wave_onIt v_wave_blamed v_line_size v_line_row) (fun o_9_wave_number o_9_wave_turn o_9_wave_onIt o_9_wave_blamed =>
    ob3 (fX5_ride N x1 o_9_wave_turn o_9_wave_onIt o_9_wave_blamed v_board_faults) (fun o_10_wave_onIt o_10_wave_blamed o_10_board_faults =>
    ob2 (fX2_leave N x1 v_line_size v_line_row) (fun o_11_line_size o_11_line_row =>
    some (v_rides, v_rides + 1, upd v_riderOf v_rides.toNatClampNeg x1, upd v_waveOf v_rides.toNatClampNeg x2, v_marks_4, o_5_marksOf, o_5_scoreOf, o_11_line_size, o_11_line_row, o_9_wave_number, o_9_wave_turn, o_10_wave_onIt, o_10_wave_blamed, o_10_board_faults)))))) N 0 v_marks
def fX1_setMark (N : Nat) (x1 : Int32) (x2 : Int32) (x3 : Int32) (v_marks : Nat → Int32) (v_marksOf : Nat → Int32) (v_scoreOf : Nat → Int32) : Option (Int32 × (Nat → Int32) × (Nat → Int32) × (Nat → Int32)) :=
  if ((x1 * 5) + x2) < 0 ∨ 150 ≤ ((x1 * 5) + x2).toNatClampNeg then none else
  ob2 (fX1_score N x1 (upd v_marks ((x1 * 5) + x2).toNatClampNeg x3) v_marksOf v_scoreOf) (fun o_2_marksOf o_2_scoreOf =>
  some (v_marks ((x1 * 5) + x2).toNatClampNeg, upd v_marks ((x1 * 5) + x2).toNatClampNeg x3, o_2_marksOf, o_2_scoreOf))
def fX1_markedRides_L4 (N : Nat) (v_rides : Int32) (v_marksOf : Nat → Int32) : Nat → Int32 → Int32 → Option (Int32)
  | 0, _, _ => none
  | n + 1, x1, x2 =>
    if v_rides ≤ x2 then
      some x1
    else
      if x2 < 0 ∨ 30 ≤ x2.toNatClampNeg then none else
      if (v_marksOf x2.toNatClampNeg) ≤ 0 then
        fX1_markedRides_L4 N v_rides v_marksOf n x1 (x2 + 1)
      else
        fX1_markedRides_L4 N v_rides v_marksOf n (x1 + 1) (x2 + 1)
def fX1_markedRides (N : Nat) (v_rides : Int32) (v_marksOf : Nat → Int32) : Option (Int32) :=
  fX1_markedRides_L4 N v_rides v_marksOf N 0 0
def fX1_ridesBy_L4 (N : Nat) (x1 : Int32) (v_rides : Int32) (v_riderOf : Nat → Int32) : Nat → Int32 → Int32 → Option (Int32)
  | 0, _, _ => none
  | n + 1, x2, x3 =>
    if v_rides ≤ x3 then
      some x2
    else
      if x3 < 0 ∨ 30 ≤ x3.toNatClampNeg then none else
      if (v_riderOf x3.toNatClampNeg) = x1 then
        fX1_ridesBy_L4 N x1 v_rides v_riderOf n (x2 + 1) (x3 + 1)
      else
        fX1_ridesBy_L4 N x1 v_rides v_riderOf n x2 (x3 + 1)
def fX1_ridesBy (N : Nat) (x1 : Int32) (v_rides : Int32) (v_riderOf : Nat → Int32) : Option (Int32) :=
  fX1_ridesBy_L4 N x1 v_rides v_riderOf N 0 0
def fX1_tally_L9 (N : Nat) (v_rides : Int32) (v_riderOf : Nat → Int32) (v_scoreOf : Nat → Int32) : Nat → Int32 → (Nat → Int32) → (Nat → Int32) → Option ((Nat → Int32) × (Nat → Int32))
  | 0, _, _, _ => none
  | n + 1, x1, v_board_best, v_board_second =>
    if v_rides ≤ x1 then
      some (v_board_best, v_board_second)
    else
      if x1 < 0 ∨ 30 ≤ x1.toNatClampNeg then none else
      ob2 (fX0_addScore N (v_riderOf x1.toNatClampNeg) (v_scoreOf x1.toNatClampNeg) v_board_best v_board_second) (fun o_4_board_best o_4_board_second =>
      fX1_tally_L9 N v_rides v_riderOf v_scoreOf n (x1 + 1) o_4_board_best o_4_board_second)
def fX1_tally (N : Nat) (v_rides : Int32) (v_riderOf : Nat → Int32) (v_scoreOf : Nat → Int32) (v_board_best : Nat → Int32) (v_board_second : Nat → Int32) : Option ((Nat → Int32) × (Nat → Int32)) :=
  ob2 (fX0_clearScores N v_board_best v_board_second) (fun o_1_board_best o_1_board_second =>
  fX1_tally_L9 N v_rides v_riderOf v_scoreOf N 0 o_1_board_best o_1_board_second)
def fX1_leastScoreFor_L28 (N : Nat) (x1 : Int32) (x2 : Int32) (x3 : Int32) (x4 : Int32) (v_board_riders : Int32) (v_board_faults : Nat → Int32) : Nat → Int32 → (Nat → Int32) → (Nat → Int32) → Option (Int32 × (Nat → Int32) × (Nat → Int32))
  | 0, _, _, _ => none
  | n + 1, x5, v_board_best, v_board_second =>
    if 300 < x5 then
      some ((-4), v_board_best, v_board_second)
    else
      ob2 (fX0_addScore N x1 x5 v_board_best v_board_second) (fun o_4_board_best o_4_board_second =>
      ob1 (fX0_placeOf N x1 v_board_riders o_4_board_best o_4_board_second v_board_faults) (fun r_5 =>
      if x2 < r_5 then
        ob2 (fX0_setScores N x1 x3 x4 o_4_board_best o_4_board_second) (fun o_7_board_best o_7_board_second =>
        fX1_leastScoreFor_L28 N x1 x2 x3 x4 v_board_riders v_board_faults n (x5 + 1) o_7_board_best o_7_board_second)
      else
        some (x5, o_4_board_best, o_4_board_second)))
def fX1_leastScoreFor (N : Nat) (x1 : Int32) (x2 : Int32) (v_rides : Int32) (v_riderOf : Nat → Int32) (v_scoreOf : Nat → Int32) (v_board_riders : Int32) (v_board_best : Nat → Int32) (v_board_second : Nat → Int32) (v_board_faults : Nat → Int32) : Option (Int32 × (Nat → Int32) × (Nat → Int32)) :=
  ob2 (fX1_tally N v_rides v_riderOf v_scoreOf v_board_best v_board_second) (fun o_1_board_best o_1_board_second =>
  if x1 < 0 ∨ 4 ≤ x1.toNatClampNeg then none else
  fX1_leastScoreFor_L28 N x1 x2 (o_1_board_best x1.toNatClampNeg) (o_1_board_second x1.toNatClampNeg) v_board_riders v_board_faults N 0 o_1_board_best o_1_board_second)
def fX1_countWays_L24 (N : Nat) (x4 : Int32) (k : Int32 → Int32 → Int32 → Option (Int32)) : Nat → Int32 → Int32 → Int32 → Option (Int32)
  | 0, _, _, _ => none
  | n + 1, x1, x2, x5 =>
    if x4 < x5 then
      k x1 x2 x5
    else
      if x5 = 0 then none else
      fX1_countWays_L24 N x4 k n ((x1 * (x2 + 1)) / x5) (x2 + 1) (x5 + 1)
def fX1_countWays_L6 (N : Nat) (v_riders : Int32) (v_rides : Int32) (v_riderOf : Nat → Int32) : Nat → Int32 → Int32 → Int32 → Option (Int32)
  | 0, _, _, _ => none
  | n + 1, x1, x2, x3 =>
    if v_riders ≤ x3 then
      some x1
    else
      ob1 (fX1_ridesBy N x3 v_rides v_riderOf) (fun r_2 =>
      fX1_countWays_L24 N r_2 (fun (x1_5 : Int32) (x2_5 : Int32) (x5_5 : Int32) =>
        fX1_countWays_L6 N v_riders v_rides v_riderOf n x1_5 x2_5 (x3 + 1)) N x1 x2 1)
def fX1_countWays (N : Nat) (v_riders : Int32) (v_rides : Int32) (v_riderOf : Nat → Int32) : Option (Int32) :=
  fX1_countWays_L6 N v_riders v_rides v_riderOf N 1 0 0
def fX1_winsFrom_L36 (N : Nat) (rc : Int32 → Int32 → Int32 → Int32 → (Nat → Int32) → (Nat → Int32) → Int32 → (Nat → Int32) → (Nat → Int32) → (Nat → Int32) → Option (Int32 × (Nat → Int32) × (Nat → Int32) × (Nat → Int32))) (x1 : Int32) (x2 : Int32) (v_riders : Int32) (v_rides : Int32) (v_scoreOf : Nat → Int32) (v_board_riders : Int32) (v_board_faults : Nat → Int32) : Nat → Int32 → Int32 → (Nat → Int32) → (Nat → Int32) → (Nat → Int32) → Option (Int32 × (Nat → Int32) × (Nat → Int32) × (Nat → Int32))
  | 0, _, _, _, _, _ => none
  | n + 1, x3, x4, v_toGive, v_board_best, v_board_second =>
    if v_riders ≤ x4 then
      some (x3, v_toGive, v_board_best, v_board_second)
    else
      if x4 < 0 ∨ 4 ≤ x4.toNatClampNeg then none else
      if (v_toGive x4.toNatClampNeg) ≤ 0 then
        fX1_winsFrom_L36 N rc x1 x2 v_riders v_rides v_scoreOf v_board_riders v_board_faults n x3 (x4 + 1) v_toGive v_board_best v_board_second
      else
        if x1 < 0 ∨ 30 ≤ x1.toNatClampNeg then none else
        ob2 (fX0_addScore N x4 (v_scoreOf x1.toNatClampNeg) v_board_best v_board_second) (fun o_9_board_best o_9_board_second =>
        ob4 (rc (x1 + 1) x2 v_riders v_rides v_scoreOf (upd v_toGive x4.toNatClampNeg ((v_toGive x4.toNatClampNeg) - 1)) v_board_riders o_9_board_best o_9_board_second v_board_faults) (fun r_10 o_10_toGive o_10_board_best o_10_board_second =>
        ob2 (fX0_setScores N x4 (v_board_best x4.toNatClampNeg) (v_board_second x4.toNatClampNeg) o_10_board_best o_10_board_second) (fun o_11_board_best o_11_board_second =>
        fX1_winsFrom_L36 N rc x1 x2 v_riders v_rides v_scoreOf v_board_riders v_board_faults n (x3 + r_10) (x4 + 1) (upd o_10_toGive x4.toNatClampNeg ((o_10_toGive x4.toNatClampNeg) + 1)) o_11_board_best o_11_board_second)))
def fX1_winsFrom (N : Nat) : Nat → Int32 → Int32 → Int32 → Int32 → (Nat → Int32) → (Nat → Int32) → Int32 → (Nat → Int32) → (Nat → Int32) → (Nat → Int32) → Option (Int32 × (Nat → Int32) × (Nat → Int32) × (Nat → Int32))
  | 0, _, _, _, _, _, _, _, _, _, _ => none
  | d + 1, x1, x2, v_riders, v_rides, v_scoreOf, v_toGive, v_board_riders, v_board_best, v_board_second, v_board_faults =>
  if v_rides ≤ x1 then
    ob1 (fX0_placeOf N x2 v_board_riders v_board_best v_board_second v_board_faults) (fun r_2 =>
    if r_2 = 0 then
      some (1, v_toGive, v_board_best, v_board_second)
    else
      some (0, v_toGive, v_board_best, v_board_second))
  else
    if x1 < 8 then
      fX1_winsFrom_L36 N (fX1_winsFrom N d) x1 x2 v_riders v_rides v_scoreOf v_board_riders v_board_faults N 0 0 v_toGive v_board_best v_board_second
    else
      ob1 (fX0_placeOf N x2 v_board_riders v_board_best v_board_second v_board_faults) (fun r_12 =>
      if r_12 = 0 then
        some (1, v_toGive, v_board_best, v_board_second)
      else
        some (0, v_toGive, v_board_best, v_board_second))
def fX1_countLuck_L9 (N : Nat) (v_riders : Int32) (v_rides : Int32) (v_riderOf : Nat → Int32) (k : Int32 → (Nat → Int32) → Option (Int32 × (Nat → Int32) × (Nat → Int32) × (Nat → Int32))) : Nat → Int32 → (Nat → Int32) → Option (Int32 × (Nat → Int32) × (Nat → Int32) × (Nat → Int32))
  | 0, _, _ => none
  | n + 1, x2, v_toGive =>
    if v_riders ≤ x2 then
      k x2 v_toGive
    else
      ob1 (fX1_ridesBy N x2 v_rides v_riderOf) (fun r_3 =>
      if x2 < 0 ∨ 4 ≤ x2.toNatClampNeg then none else
      fX1_countLuck_L9 N v_riders v_rides v_riderOf k n (x2 + 1) (upd v_toGive x2.toNatClampNeg r_3))
def fX1_countLuck (N : Nat) (x1 : Int32) (v_riders : Int32) (v_rides : Int32) (v_riderOf : Nat → Int32) (v_scoreOf : Nat → Int32) (v_toGive : Nat → Int32) (v_board_riders : Int32) (v_board_best : Nat → Int32) (v_board_second : Nat → Int32) (v_board_faults : Nat → Int32) : Option (Int32 × (Nat → Int32) × (Nat → Int32) × (Nat → Int32)) :=
  ob2 (fX0_clearScores N v_board_best v_board_second) (fun o_1_board_best o_1_board_second =>
  fX1_countLuck_L9 N v_riders v_rides v_riderOf (fun (x2_5 : Int32) (v_toGive_5 : Nat → Int32) =>
    ob4 (fX1_winsFrom N 9 0 x1 v_riders v_rides v_scoreOf v_toGive_5 v_board_riders o_1_board_best o_1_board_second v_board_faults) (fun r_6 o_6_toGive o_6_board_best o_6_board_second =>
  some (r_6, o_6_toGive, o_6_board_best, o_6_board_second))) N 0 v_toGive)
def fX3_add (N : Nat) (x1 : Int32) (v_size : Int32) (v_scores : Nat → Int32) : Option (Int32 × (Nat → Int32)) :=
  if 40 ≤ v_size then
    some (v_size, v_scores)
  else
    if v_size < 0 ∨ 40 ≤ v_size.toNatClampNeg then none else
    some (v_size + 1, upd v_scores v_size.toNatClampNeg x1)
def fX3_notBelow_L4 (N : Nat) (x1 : Int32) (v_size : Int32) (v_scores : Nat → Int32) : Nat → Int32 → Int32 → Option (Int32)
  | 0, _, _ => none
  | n + 1, x2, x3 =>
    if v_size ≤ x3 then
      some x2
    else
      if x3 < 0 ∨ 40 ≤ x3.toNatClampNeg then none else
      if (v_scores x3.toNatClampNeg) < x1 then
        fX3_notBelow_L4 N x1 v_size v_scores n x2 (x3 + 1)
      else
        fX3_notBelow_L4 N x1 v_size v_scores n (x2 + 1) (x3 + 1)
def fX3_notBelow (N : Nat) (x1 : Int32) (v_size : Int32) (v_scores : Nat → Int32) : Option (Int32) :=
  fX3_notBelow_L4 N x1 v_size v_scores N 0 0
def fX4_hasWorth (N : Nat) (x1 : Int32) (x2 : Int32) (v_days : Int32) : Option (Int32) :=
  if (v_days - x1) < x2 then
    some 0
  else
    some 1
def fX4_aboveIfCalled (N : Nat) (x1 : Int32) (x2 : Int32) (x3 : Int32) (v_above : Nat → Nat → Int64) (v_below : Nat → Int64) : Option (Int64) :=
  if (x1 + 1) < 0 ∨ 10 ≤ (x1 + 1).toNatClampNeg then none else
  if (x2 - 1) < 0 ∨ 10 ≤ (x2 - 1).toNatClampNeg then none else
  some ((x3.toInt64 * (v_below (x1 + 1).toNatClampNeg)) + (v_above (x1 + 1).toNatClampNeg (x2 - 1).toNatClampNeg))
def fX4_isCalled (N : Nat) (x1 : Int32) (x2 : Int32) (x3 : Int32) (v_days : Int32) (v_above : Nat → Nat → Int64) (v_below : Nat → Int64) : Option (Int32) :=
  if 0 < x2 then
    ob1 (fX4_hasWorth N (x1 + 1) x2 v_days) (fun r_2 =>
    if r_2 = 0 then
      some 1
    else
      ob1 (fX4_aboveIfCalled N x1 x2 x3 v_above v_below) (fun r_4 =>
      if (x1 + 1) < 0 ∨ 10 ≤ (x1 + 1).toNatClampNeg then none else
      if x2 < 0 ∨ 10 ≤ x2.toNatClampNeg then none else
      if (lg_cmp r_4 (v_above (x1 + 1).toNatClampNeg x2.toNatClampNeg)) < 0 then
        some 0
      else
        some 1))
  else
    some 0
def fX4_sumOverSpan_L10 (N : Nat) (x1 : Int32) (x2 : Int32) (v_days : Int32) (v_to : Nat → Int32) (v_above : Nat → Nat → Int64) (v_below : Nat → Int64) : Nat → Int64 → Int32 → Option (Int64)
  | 0, _, _ => none
  | n + 1, x3, x5 =>
    if x1 < 0 ∨ 9 ≤ x1.toNatClampNeg then none else
    if (v_to x1.toNatClampNeg) < x5 then
      some x3
    else
      ob1 (fX4_isCalled N x1 x2 x5 v_days v_above v_below) (fun r_4 =>
      if r_4 = 0 then
        if (x1 + 1) < 0 ∨ 10 ≤ (x1 + 1).toNatClampNeg then none else
        if x2 < 0 ∨ 10 ≤ x2.toNatClampNeg then none else
        fX4_sumOverSpan_L10 N x1 x2 v_days v_to v_above v_below n (x3 + (v_above (x1 + 1).toNatClampNeg x2.toNatClampNeg)) (x5 + 1)
      else
        ob1 (fX4_aboveIfCalled N x1 x2 x5 v_above v_below) (fun r_8 =>
        fX4_sumOverSpan_L10 N x1 x2 v_days v_to v_above v_below n (x3 + r_8) (x5 + 1)))
def fX4_sumOverSpan (N : Nat) (x1 : Int32) (x2 : Int32) (v_days : Int32) (v_from : Nat → Int32) (v_to : Nat → Int32) (v_above : Nat → Nat → Int64) (v_below : Nat → Int64) : Option (Int64) :=
  if x1 < 0 ∨ 9 ≤ x1.toNatClampNeg then none else
  fX4_sumOverSpan_L10 N x1 x2 v_days v_to v_above v_below N 0 (v_from x1.toNatClampNeg)
def fX4_weighDownFrom_L39 (N : Nat) (x2 : Int32) (v_days : Int32) (v_from : Nat → Int32) (v_to : Nat → Int32) (v_below : Nat → Int64) (k : Int32 → (Nat → Nat → Int64) → Option ((Nat → Nat → Int64) × (Nat → Int64))) : Nat → Int32 → (Nat → Nat → Int64) → Option ((Nat → Nat → Int64) × (Nat → Int64))
  | 0, _, _ => none
  | n + 1, x3, v_above =>
    if (v_days - x2) < x3 then
      k x3 v_above
    else
      if x2 < 0 ∨ 10 ≤ x2.toNatClampNeg then none else
      ob1 (fX4_sumOverSpan N x2 x3 v_days v_from v_to v_above v_below) (fun r_7 =>
      if x3 < 0 ∨ 10 ≤ x3.toNatClampNeg then none else
      fX4_weighDownFrom_L39 N x2 v_days v_from v_to v_below k n (x3 + 1) (va_up v_above x2.toNatClampNeg (vp_updL (v_above x2.toNatClampNeg) x3.toNatClampNeg r_7)))
def fX4_weighDownFrom_L2 (N : Nat) (v_days : Int32) (v_from : Nat → Int32) (v_to : Nat → Int32) : Nat → Int32 → (Nat → Nat → Int64) → (Nat → Int64) → Option ((Nat → Nat → Int64) × (Nat → Int64))
  | 0, _, _, _ => none
  | n + 1, x2, v_above, v_below =>
    if x2 < 0 then
      some (v_above, v_below)
    else
      if x2 < 0 ∨ 9 ≤ x2.toNatClampNeg then none else
      if (x2 + 1) < 0 ∨ 10 ≤ (x2 + 1).toNatClampNeg then none else
      if x2 < 0 ∨ 10 ≤ x2.toNatClampNeg then none else
      fX4_weighDownFrom_L39 N x2 v_days v_from v_to (vp_updL v_below x2.toNatClampNeg (((((v_to x2.toNatClampNeg) - (v_from x2.toNatClampNeg)) + 1).toInt64) * (v_below (x2 + 1).toNatClampNeg))) (fun (x3_9 : Int32) (v_above_9 : Nat → Nat → Int64) =>
        fX4_weighDownFrom_L2 N v_days v_from v_to n (x2 + (-1)) v_above_9 (vp_updL v_below x2.toNatClampNeg (((((v_to x2.toNatClampNeg) - (v_from x2.toNatClampNeg)) + 1).toInt64) * (v_below (x2 + 1).toNatClampNeg)))) N 0 v_above
def fX4_weighDownFrom (N : Nat) (x1 : Int32) (v_days : Int32) (v_from : Nat → Int32) (v_to : Nat → Int32) (v_above : Nat → Nat → Int64) (v_below : Nat → Int64) : Option ((Nat → Nat → Int64) × (Nat → Int64)) :=
  fX4_weighDownFrom_L2 N v_days v_from v_to N x1 v_above v_below
def fX4_begin_L7 (N : Nat) (x1 : Int32) (k : Int32 → (Nat → Int32) → (Nat → Int32) → (Nat → Int32) → Option (Int32 × (Nat → Int32) × (Nat → Int32) × (Nat → Int32) × (Nat → Nat → Int64) × (Nat → Int64))) : Nat → Int32 → (Nat → Int32) → (Nat → Int32) → (Nat → Int32) → Option (Int32 × (Nat → Int32) × (Nat → Int32) × (Nat → Int32) × (Nat → Nat → Int64) × (Nat → Int64))
  | 0, _, _, _, _ => none
  | n + 1, x2, v_from, v_to, v_known =>
    if x1 ≤ x2 then
      k x2 v_from v_to v_known
    else
      if x2 < 0 ∨ 9 ≤ x2.toNatClampNeg then none else
      fX4_begin_L7 N x1 k n (x2 + 1) (upd v_from x2.toNatClampNeg 0) (upd v_to x2.toNatClampNeg 9) (upd v_known x2.toNatClampNeg (-1))
def fX4_begin (N : Nat) (x1 : Int32) (v_days : Int32) (v_from : Nat → Int32) (v_to : Nat → Int32) (v_known : Nat → Int32) (v_above : Nat → Nat → Int64) (v_below : Nat → Int64) : Option (Int32 × (Nat → Int32) × (Nat → Int32) × (Nat → Int32) × (Nat → Nat → Int64) × (Nat → Int64)) :=
  fX4_begin_L7 N x1 (fun (x2_3 : Int32) (v_from_3 : Nat → Int32) (v_to_3 : Nat → Int32) (v_known_3 : Nat → Int32) =>
    if x1 < 0 ∨ 10 ≤ x1.toNatClampNeg then none else
  ob2 (fX4_weighDownFrom N (x1 - 1) x1 v_from_3 v_to_3 (va_up v_above x1.toNatClampNeg (vp_updL (v_above x1.toNatClampNeg) (0 : Int32).toNatClampNeg 0)) (vp_updL v_below x1.toNatClampNeg 1)) (fun o_5_above o_5_below =>
  some (x1, v_from_3, v_to_3, v_known_3, o_5_above, o_5_below))) N 0 v_from v_to v_known
def fX4_hasDay (N : Nat) (x1 : Int32) (v_days : Int32) : Option (Int32) :=
  if x1 < 0 then
    some 0
  else
    if v_days ≤ x1 then
      some 0
    else
      some 1
def fX4_isInSpan (N : Nat) (x1 : Int32) (x2 : Int32) (v_from : Nat → Int32) (v_to : Nat → Int32) : Option (Int32) :=
  if x1 < 0 ∨ 9 ≤ x1.toNatClampNeg then none else
  if x2 < (v_from x1.toNatClampNeg) then
    some 0
  else
    if (v_to x1.toNatClampNeg) < x2 then
      some 0
    else
      some 1
def fX4_setSpan (N : Nat) (x1 : Int32) (x2 : Int32) (x3 : Int32) (v_days : Int32) (v_from : Nat → Int32) (v_to : Nat → Int32) (v_known : Nat → Int32) (v_above : Nat → Nat → Int64) (v_below : Nat → Int64) : Option ((Nat → Int32) × (Nat → Int32) × (Nat → Int32) × (Nat → Nat → Int64) × (Nat → Int64)) :=
  if x1 < 0 ∨ 9 ≤ x1.toNatClampNeg then none else
  ob2 (fX4_weighDownFrom N x1 v_days (upd v_from x1.toNatClampNeg x2) (upd v_to x1.toNatClampNeg x3) v_above v_below) (fun o_2_above o_2_below =>
  some (upd v_from x1.toNatClampNeg x2, upd v_to x1.toNatClampNeg x3, upd v_known x1.toNatClampNeg (-1), o_2_above, o_2_below))
def fX4_countKnown_L4 (N : Nat) (v_days : Int32) (v_known : Nat → Int32) : Nat → Int32 → Int32 → Option (Int32)
  | 0, _, _ => none
  | n + 1, x1, x2 =>
    if v_days ≤ x2 then
      some x1
    else
      if x2 < 0 ∨ 9 ≤ x2.toNatClampNeg then none else
      if (v_known x2.toNatClampNeg) = (-1) then
        fX4_countKnown_L4 N v_days v_known n x1 (x2 + 1)
      else
        fX4_countKnown_L4 N v_days v_known n (x1 + 1) (x2 + 1)
def fX4_countKnown (N : Nat) (v_days : Int32) (v_known : Nat → Int32) : Option (Int32) :=
  fX4_countKnown_L4 N v_days v_known N 0 0
def fX4_lengthOfRun_L2 (N : Nat) (v_days : Int32) (v_known : Nat → Int32) : Nat → Int32 → Option (Int32)
  | 0, _ => none
  | n + 1, x1 =>
    if v_days ≤ x1 then
      some v_days
    else
      if x1 < 0 ∨ 9 ≤ x1.toNatClampNeg then none else
      if (v_known x1.toNatClampNeg) = (-1) then
        some x1
      else
        fX4_lengthOfRun_L2 N v_days v_known n (x1 + 1)
def fX4_lengthOfRun (N : Nat) (v_days : Int32) (v_known : Nat → Int32) : Option (Int32) :=
  fX4_lengthOfRun_L2 N v_days v_known N 0
def fX4_calledInRun_L13 (N : Nat) (x4 : Int32) (v_days : Int32) (v_known : Nat → Int32) (v_above : Nat → Nat → Int64) (v_below : Nat → Int64) : Nat → Int32 → Int32 → Int32 → Option (Int32)
  | 0, _, _, _ => none
  | n + 1, x2, x3, x5 =>
    if x4 ≤ x5 then
      some x2
    else
      if x5 < 0 ∨ 9 ≤ x5.toNatClampNeg then none else
      ob1 (fX4_isCalled N x5 x3 (v_known x5.toNatClampNeg) v_days v_above v_below) (fun r_4 =>
      if r_4 = 0 then
        fX4_calledInRun_L13 N x4 v_days v_known v_above v_below n x2 x3 (x5 + 1)
      else
        fX4_calledInRun_L13 N x4 v_days v_known v_above v_below n (x2 ||| (1 <<< (x5 &&& 31))) (x3 + (-1)) (x5 + 1))
def fX4_calledInRun (N : Nat) (x1 : Int32) (v_days : Int32) (v_known : Nat → Int32) (v_above : Nat → Nat → Int64) (v_below : Nat → Int64) : Option (Int32) :=
  ob1 (fX4_lengthOfRun N v_days v_known) (fun r_1 =>
  fX4_calledInRun_L13 N r_1 v_days v_known v_above v_below N 0 x1 0)
def fX4_sumOf_L4 (N : Nat) (x1 : Int32) (v_days : Int32) (v_known : Nat → Int32) : Nat → Int32 → Int32 → Option (Int32)
  | 0, _, _ => none
  | n + 1, x2, x3 =>
    if v_days ≤ x3 then
      some x2
    else
      if ((x1 >>> (x3 &&& 31)) &&& 1) = 1 then
        if x3 < 0 ∨ 9 ≤ x3.toNatClampNeg then none else
        fX4_sumOf_L4 N x1 v_days v_known n (x2 + (v_known x3.toNatClampNeg)) (x3 + 1)
      else
        fX4_sumOf_L4 N x1 v_days v_known n x2 (x3 + 1)
def fX4_sumOf (N : Nat) (x1 : Int32) (v_days : Int32) (v_known : Nat → Int32) : Option (Int32) :=
  fX4_sumOf_L4 N x1 v_days v_known N 0 0
def fX4_greatestSum_L16 (N : Nat) (x4 : Int32) (v_days : Int32) (v_known : Nat → Int32) (k : Int32 → Int32 → Int32 → Option (Int32)) : Nat → Int32 → Int32 → Int32 → Option (Int32)
  | 0, _, _, _ => none
  | n + 1, x2, x3, x5 =>
    if v_days ≤ x5 then
      k x2 x3 x5
    else
      if x5 < 0 ∨ 9 ≤ x5.toNatClampNeg then none else
      if (v_known x5.toNatClampNeg) = x4 then
        if x3 ≤ 0 then
          fX4_greatestSum_L16 N x4 v_days v_known k n x2 x3 (x5 + 1)
        else
          fX4_greatestSum_L16 N x4 v_days v_known k n (x2 + x4) (x3 + (-1)) (x5 + 1)
      else
        fX4_greatestSum_L16 N x4 v_days v_known k n x2 x3 (x5 + 1)
def fX4_greatestSum_L8 (N : Nat) (v_days : Int32) (v_known : Nat → Int32) : Nat → Int32 → Int32 → Int32 → Option (Int32)
  | 0, _, _, _ => none
  | n + 1, x2, x3, x4 =>
    if x4 < 0 then
      some x2
    else
      fX4_greatestSum_L16 N x4 v_days v_known (fun (x2_6 : Int32) (x3_6 : Int32) (x5_6 : Int32) =>
        fX4_greatestSum_L8 N v_days v_known n x2_6 x3_6 (x4 + (-1))) N x2 x3 0
def fX4_greatestSum (N : Nat) (x1 : Int32) (v_days : Int32) (v_known : Nat → Int32) : Option (Int32) :=
  fX4_greatestSum_L8 N v_days v_known N 0 x1 9
def fX6_heat (N : Nat) (x1 : Int32) (v_heat_riders : Int32) (v_heat_rides : Int32) (v_heat_line_size : Int32) (v_heat_line_row : Nat → Int32) (v_heat_wave_number : Int32) (v_heat_board_riders : Int32) (v_heat_board_faults : Nat → Int32) : Option (Int32 × Int32 × Int32 × Int32 × (Nat → Int32) × Int32 × Int32 × (Nat → Int32)) :=
  if x1 < 2 then
    some ((-1), v_heat_riders, v_heat_rides, v_heat_line_size, v_heat_line_row, v_heat_wave_number, v_heat_board_riders, v_heat_board_faults)
  else
    if x1 ≤ 4 then
      ob7 (fX1_begin N x1 v_heat_riders v_heat_rides v_heat_line_size v_heat_line_row v_heat_wave_number v_heat_board_riders v_heat_board_faults) (fun o_3_heat_riders o_3_heat_rides o_3_heat_line_size o_3_heat_line_row o_3_heat_wave_number o_3_heat_board_riders o_3_heat_board_faults =>
      some (x1, o_3_heat_riders, o_3_heat_rides, o_3_heat_line_size, o_3_heat_line_row, o_3_heat_wave_number, o_3_heat_board_riders, o_3_heat_board_faults))
    else
      some ((-1), v_heat_riders, v_heat_rides, v_heat_line_size, v_heat_line_row, v_heat_wave_number, v_heat_board_riders, v_heat_board_faults)
def fX6_take (N : Nat) (x1 : Int32) (x2 : Int32) (v_heat_riders : Int32) (v_heat_rides : Int32) (v_heat_riderOf : Nat → Int32) (v_heat_waveOf : Nat → Int32) (v_heat_marks : Nat → Int32) (v_heat_marksOf : Nat → Int32) (v_heat_scoreOf : Nat → Int32) (v_heat_line_size : Int32) (v_heat_line_row : Nat → Int32) (v_heat_wave_number : Int32) (v_heat_wave_turn : Nat → Int32) (v_heat_wave_onIt : Nat → Int32) (v_heat_wave_blamed : Nat → Int32) (v_heat_board_faults : Nat → Int32) : Option (Int32 × Int32 × (Nat → Int32) × (Nat → Int32) × (Nat → Int32) × (Nat → Int32) × (Nat → Int32) × Int32 × (Nat → Int32) × Int32 × (Nat → Int32) × (Nat → Int32) × (Nat → Int32) × (Nat → Int32)) :=
  ob1 (fX1_hasRider N x1 v_heat_riders) (fun r_1 =>
  if r_1 = 0 then
    some ((-1), v_heat_rides, v_heat_riderOf, v_heat_waveOf, v_heat_marks, v_heat_marksOf, v_heat_scoreOf, v_heat_line_size, v_heat_line_row, v_heat_wave_number, v_heat_wave_turn, v_heat_wave_onIt, v_heat_wave_blamed, v_heat_board_faults)
  else
    if x2 < 0 then
      some ((-1), v_heat_rides, v_heat_riderOf, v_heat_waveOf, v_heat_marks, v_heat_marksOf, v_heat_scoreOf, v_heat_line_size, v_heat_line_row, v_heat_wave_number, v_heat_wave_turn, v_heat_wave_onIt, v_heat_wave_blamed, v_heat_board_faults)
    else
      if x2 ≤ 99 then
        ob1 (fX2_holds N x1 v_heat_line_size v_heat_line_row) (fun r_5 =>
        if r_5 = 0 then
          some ((-3), v_heat_rides, v_heat_riderOf, v_heat_waveOf, v_heat_marks, v_heat_marksOf, v_heat_scoreOf, v_heat_line_size, v_heat_line_row, v_heat_wave_number, v_heat_wave_turn, v_heat_wave_onIt, v_heat_wave_blamed, v_heat_board_faults)
        else
          if v_heat_rides < 30 then
            ob14 (fX1_addRide N x1 x2 v_heat_rides v_heat_riderOf v_heat_waveOf v_heat_marks v_heat_marksOf v_heat_scoreOf v_heat_line_size v_heat_line_row v_heat_wave_number v_heat_wave_turn v_heat_wave_onIt v_heat_wave_blamed v_heat_board_faults) (fun r_8 o_8_heat_rides o_8_heat_riderOf o_8_heat_waveOf o_8_heat_marks o_8_heat_marksOf o_8_heat_scoreOf o_8_heat_line_size o_8_heat_line_row o_8_heat_wave_number o_8_heat_wave_turn o_8_heat_wave_onIt o_8_heat_wave_blamed o_8_heat_board_faults =>
            some (r_8, o_8_heat_rides, o_8_heat_riderOf, o_8_heat_waveOf, o_8_heat_marks, o_8_heat_marksOf, o_8_heat_scoreOf, o_8_heat_line_size, o_8_heat_line_row, o_8_heat_wave_number, o_8_heat_wave_turn, o_8_heat_wave_onIt, o_8_heat_wave_blamed, o_8_heat_board_faults))
          else
            some ((-2), v_heat_rides, v_heat_riderOf, v_heat_waveOf, v_heat_marks, v_heat_marksOf, v_heat_scoreOf, v_heat_line_size, v_heat_line_row, v_heat_wave_number, v_heat_wave_turn, v_heat_wave_onIt, v_heat_wave_blamed, v_heat_board_faults))
      else
        some ((-1), v_heat_rides, v_heat_riderOf, v_heat_waveOf, v_heat_marks, v_heat_marksOf, v_heat_scoreOf, v_heat_line_size, v_heat_line_row, v_heat_wave_number, v_heat_wave_turn, v_heat_wave_onIt, v_heat_wave_blamed, v_heat_board_faults))
def fX6_back (N : Nat) (x1 : Int32) (v_heat_riders : Int32) (v_heat_line_size : Int32) (v_heat_line_row : Nat → Int32) : Option (Int32 × Int32 × (Nat → Int32)) :=
  ob1 (fX1_hasRider N x1 v_heat_riders) (fun r_1 =>
  if r_1 = 0 then
    some ((-1), v_heat_line_size, v_heat_line_row)
  else
    ob1 (fX2_holds N x1 v_heat_line_size v_heat_line_row) (fun r_3 =>
    if r_3 = 0 then
      ob2 (fX2_join N x1 v_heat_line_size v_heat_line_row) (fun o_5_heat_line_size o_5_heat_line_row =>
      some (o_5_heat_line_size, o_5_heat_line_size, o_5_heat_line_row))
    else
      some ((-3), v_heat_line_size, v_heat_line_row)))
def fX6_letGo (N : Nat) (v_heat_wave_number : Int32) : Option (Int32 × Int32) :=
  ob2 (fX5_end N v_heat_wave_number) (fun r_1 o_1_heat_wave_number =>
  if r_1 = 0 then
    some (0, o_1_heat_wave_number)
  else
    some (1, o_1_heat_wave_number))
def fX6_mark (N : Nat) (x1 : Int32) (x2 : Int32) (x3 : Int32) (v_heat_rides : Int32) (v_heat_marks : Nat → Int32) (v_heat_marksOf : Nat → Int32) (v_heat_scoreOf : Nat → Int32) : Option (Int32 × (Nat → Int32) × (Nat → Int32) × (Nat → Int32)) :=
  ob1 (fX1_hasRide N x1 v_heat_rides) (fun r_1 =>
  if r_1 = 0 then
    some ((-9), v_heat_marks, v_heat_marksOf, v_heat_scoreOf)
  else
    if x2 < 0 then
      some ((-9), v_heat_marks, v_heat_marksOf, v_heat_scoreOf)
    else
      if 5 ≤ x2 then
        some ((-9), v_heat_marks, v_heat_marksOf, v_heat_scoreOf)
      else
        if x3 < (-1) then
          some ((-9), v_heat_marks, v_heat_marksOf, v_heat_scoreOf)
        else
          if x3 ≤ 100 then
            ob4 (fX1_setMark N x1 x2 x3 v_heat_marks v_heat_marksOf v_heat_scoreOf) (fun r_7 o_7_heat_marks o_7_heat_marksOf o_7_heat_scoreOf =>
            some (r_7, o_7_heat_marks, o_7_heat_marksOf, o_7_heat_scoreOf))
          else
            some ((-9), v_heat_marks, v_heat_marksOf, v_heat_scoreOf))
def fX6_of (N : Nat) (x1 : Int32) (x2 : Int32) (v_heat_rides : Int32) (v_heat_riderOf : Nat → Int32) (v_heat_waveOf : Nat → Int32) (v_heat_marksOf : Nat → Int32) (v_heat_scoreOf : Nat → Int32) : Option (Int32) :=
  ob1 (fX1_hasRide N x1 v_heat_rides) (fun r_1 =>
  if r_1 = 0 then
    some (-1)
  else
    if x2 = 0 then
      if x1 < 0 ∨ 30 ≤ x1.toNatClampNeg then none else
      some (v_heat_riderOf x1.toNatClampNeg)
    else if x2 = 1 then
      if x1 < 0 ∨ 30 ≤ x1.toNatClampNeg then none else
      some (v_heat_waveOf x1.toNatClampNeg)
    else if x2 = 2 then
      if x1 < 0 ∨ 30 ≤ x1.toNatClampNeg then none else
      some (v_heat_marksOf x1.toNatClampNeg)
    else if x2 = 3 then
      if x1 < 0 ∨ 30 ≤ x1.toNatClampNeg then none else
      some (v_heat_scoreOf x1.toNatClampNeg)
    else some (-1))
def fX6_line (N : Nat) (x1 : Int32) (v_heat_line_size : Int32) (v_heat_line_row : Nat → Int32) : Option (Int32) :=
  if x1 < 0 then
    some (-4)
  else
    if x1 < v_heat_line_size then
      if x1 < 0 ∨ 4 ≤ x1.toNatClampNeg then none else
      some (v_heat_line_row x1.toNatClampNeg)
    else
      some (-4)
def fX6_told (N : Nat) (x1 : Int32) (x2 : Int32) (v_heat_riders : Int32) (v_heat_rides : Int32) (v_heat_riderOf : Nat → Int32) (v_heat_scoreOf : Nat → Int32) (v_heat_board_riders : Int32) (v_heat_board_best : Nat → Int32) (v_heat_board_second : Nat → Int32) (v_heat_board_faults : Nat → Int32) : Option (Int32 × (Nat → Int32) × (Nat → Int32)) :=
  ob1 (fX1_hasRider N x1 v_heat_riders) (fun r_1 =>
  if r_1 = 0 then
    some ((-1), v_heat_board_best, v_heat_board_second)
  else
    ob2 (fX1_tally N v_heat_rides v_heat_riderOf v_heat_scoreOf v_heat_board_best v_heat_board_second) (fun o_3_heat_board_best o_3_heat_board_second =>
    if x2 = 0 then
      ob1 (fX1_ridesBy N x1 v_heat_rides v_heat_riderOf) (fun r_5 =>
      some (r_5, o_3_heat_board_best, o_3_heat_board_second))
    else if x2 = 1 then
      if x1 < 0 ∨ 4 ≤ x1.toNatClampNeg then none else
      some (o_3_heat_board_best x1.toNatClampNeg, o_3_heat_board_best, o_3_heat_board_second)
    else if x2 = 2 then
      if x1 < 0 ∨ 4 ≤ x1.toNatClampNeg then none else
      some (o_3_heat_board_second x1.toNatClampNeg, o_3_heat_board_best, o_3_heat_board_second)
    else if x2 = 3 then
      if x1 < 0 ∨ 4 ≤ x1.toNatClampNeg then none else
      some (v_heat_board_faults x1.toNatClampNeg, o_3_heat_board_best, o_3_heat_board_second)
    else if x2 = 4 then
      ob1 (fX0_total N x1 o_3_heat_board_best o_3_heat_board_second v_heat_board_faults) (fun r_13 =>
      some (r_13, o_3_heat_board_best, o_3_heat_board_second))
    else if x2 = 5 then
      ob1 (fX0_placeOf N x1 v_heat_board_riders o_3_heat_board_best o_3_heat_board_second v_heat_board_faults) (fun r_15 =>
      some (r_15, o_3_heat_board_best, o_3_heat_board_second))
    else some ((-1), o_3_heat_board_best, o_3_heat_board_second)))
def fX6_need (N : Nat) (x1 : Int32) (x2 : Int32) (v_heat_riders : Int32) (v_heat_rides : Int32) (v_heat_riderOf : Nat → Int32) (v_heat_scoreOf : Nat → Int32) (v_heat_board_riders : Int32) (v_heat_board_best : Nat → Int32) (v_heat_board_second : Nat → Int32) (v_heat_board_faults : Nat → Int32) : Option (Int32 × (Nat → Int32) × (Nat → Int32)) :=
  ob1 (fX1_hasRider N x1 v_heat_riders) (fun r_1 =>
  if r_1 = 0 then
    some ((-1), v_heat_board_best, v_heat_board_second)
  else
    if x2 < 0 then
      some ((-1), v_heat_board_best, v_heat_board_second)
    else
      if x2 < 4 then
        ob3 (fX1_leastScoreFor N x1 x2 v_heat_rides v_heat_riderOf v_heat_scoreOf v_heat_board_riders v_heat_board_best v_heat_board_second v_heat_board_faults) (fun r_5 o_5_heat_board_best o_5_heat_board_second =>
        some (r_5, o_5_heat_board_best, o_5_heat_board_second))
      else
        some ((-1), v_heat_board_best, v_heat_board_second))
def fX6_past (N : Nat) (x1 : Int32) (v_past_size : Int32) (v_past_scores : Nat → Int32) : Option (Int32 × Int32 × (Nat → Int32)) :=
  if x1 < 0 then
    some ((-1), v_past_size, v_past_scores)
  else
    if x1 ≤ 300 then
      if v_past_size < 40 then
        ob2 (fX3_add N x1 v_past_size v_past_scores) (fun o_4_past_size o_4_past_scores =>
        some (o_4_past_size, o_4_past_size, o_4_past_scores))
      else
        some ((-2), v_past_size, v_past_scores)
    else
      some ((-1), v_past_size, v_past_scores)
def fX6_keep_L27 (N : Nat) (x1 : Int32) (v_heat_rides : Int32) (v_heat_marksOf : Nat → Int32) (v_heat_scoreOf : Nat → Int32) : Nat → Int32 → Int32 → (Nat → Int32) → Option (Int32 × Int32 × (Nat → Int32))
  | 0, _, _, _ => none
  | n + 1, x2, v_past_size, v_past_scores =>
    if v_heat_rides ≤ x2 then
      some (x1, v_past_size, v_past_scores)
    else
      if x2 < 0 ∨ 30 ≤ x2.toNatClampNeg then none else
      if (v_heat_marksOf x2.toNatClampNeg) ≤ 0 then
        fX6_keep_L27 N x1 v_heat_rides v_heat_marksOf v_heat_scoreOf n (x2 + 1) v_past_size v_past_scores
      else
        ob2 (fX3_add N (v_heat_scoreOf x2.toNatClampNeg) v_past_size v_past_scores) (fun o_6_past_size o_6_past_scores =>
        fX6_keep_L27 N x1 v_heat_rides v_heat_marksOf v_heat_scoreOf n (x2 + 1) o_6_past_size o_6_past_scores)
def fX6_keep (N : Nat) (v_heat_rides : Int32) (v_heat_marksOf : Nat → Int32) (v_heat_scoreOf : Nat → Int32) (v_past_size : Int32) (v_past_scores : Nat → Int32) : Option (Int32 × Int32 × (Nat → Int32)) :=
  ob1 (fX1_markedRides N v_heat_rides v_heat_marksOf) (fun r_1 =>
  if (v_past_size + r_1) ≤ 40 then
    fX6_keep_L27 N r_1 v_heat_rides v_heat_marksOf v_heat_scoreOf N 0 v_past_size v_past_scores
  else
    some ((-2), v_past_size, v_past_scores))
def fX6_forget (N : Nat) (v_past_size : Int32) : Option (Int32 × Int32) :=
  some (v_past_size, 0)
def fX6_isAboveOrBelow (N : Nat) (x0 : Int32) : Option (Int32) :=
  if x0 = 0 then
    some 1
  else
    if x0 = 1 then
      some 1
    else
      some 0
def fX6_commonDivisor_L9 (N : Nat) : Nat → Int64 → Int64 → Int32 → Option (Int64)
  | 0, _, _, _ => none
  | n + 1, x4, x6, x8 =>
    if 200 ≤ x8 then
      some x4
    else
      if (lg_cmp x6 0) ≤ 0 then
        some x4
      else
        if x6 = 0 then none else
        fX6_commonDivisor_L9 N n x6 (x4 - x4 / x6 * x6) (x8 + 1)
def fX6_commonDivisor (N : Nat) (x0 : Int64) (x2 : Int64) : Option (Int64) :=
  fX6_commonDivisor_L9 N N x0 x2 0
def fX6_cleared (N : Nat) (x0 : Int64) (x2 : Int64) (x4 : Int32) : Option (Int64) :=
  if (lg_cmp x0 0) ≤ 0 then
    some x4.toInt64
  else
    if 0 < (lg_cmp x2 0) then
      ob1 (fX6_commonDivisor N x0 x2) (fun r_3 =>
      if x4 = 0 then
        if (lg_cmp r_3 1) ≤ 0 then
          some x0
        else
          if r_3 = 0 then none else
          some (x0 / r_3)
      else
        if (lg_cmp r_3 1) ≤ 0 then
          some x2
        else
          if r_3 = 0 then none else
          some (x2 / r_3))
    else
      some x4.toInt64
def fX6_chance (N : Nat) (x1 : Int32) (x2 : Int32) (x3 : Int32) (v_heat_riders : Int32) (v_heat_rides : Int32) (v_heat_riderOf : Nat → Int32) (v_heat_scoreOf : Nat → Int32) (v_heat_board_riders : Int32) (v_heat_board_best : Nat → Int32) (v_heat_board_second : Nat → Int32) (v_heat_board_faults : Nat → Int32) (v_past_size : Int32) (v_past_scores : Nat → Int32) : Option (Int32 × (Nat → Int32) × (Nat → Int32)) :=
  ob1 (fX6_isAboveOrBelow N x3) (fun r_1 =>
  if r_1 = 0 then
    some ((-1), v_heat_board_best, v_heat_board_second)
  else
    ob3 (fX6_need N x1 x2 v_heat_riders v_heat_rides v_heat_riderOf v_heat_scoreOf v_heat_board_riders v_heat_board_best v_heat_board_second v_heat_board_faults) (fun r_3 o_3_heat_board_best o_3_heat_board_second =>
    if 0 ≤ r_3 then
      ob1 (fX3_notBelow N r_3 v_past_size v_past_scores) (fun r_5 =>
      ob1 (fX6_cleared N r_5.toInt64 v_past_size.toInt64 x3) (fun r_6 =>
      some (r_6.toInt32, o_3_heat_board_best, o_3_heat_board_second)))
    else
      some (r_3, o_3_heat_board_best, o_3_heat_board_second)))
def fX6_ways (N : Nat) (v_heat_riders : Int32) (v_heat_rides : Int32) (v_heat_riderOf : Nat → Int32) : Option (Int32) :=
  if v_heat_rides ≤ 8 then
    ob1 (fX1_countWays N v_heat_riders v_heat_rides v_heat_riderOf) (fun r_2 =>
    some r_2)
  else
    some (-5)
def fX6_luck (N : Nat) (x1 : Int32) (v_heat_riders : Int32) (v_heat_rides : Int32) (v_heat_riderOf : Nat → Int32) (v_heat_scoreOf : Nat → Int32) (v_heat_toGive : Nat → Int32) (v_heat_board_riders : Int32) (v_heat_board_best : Nat → Int32) (v_heat_board_second : Nat → Int32) (v_heat_board_faults : Nat → Int32) : Option (Int32 × (Nat → Int32) × (Nat → Int32) × (Nat → Int32)) :=
  ob1 (fX1_hasRider N x1 v_heat_riders) (fun r_1 =>
  if r_1 = 0 then
    some ((-1), v_heat_toGive, v_heat_board_best, v_heat_board_second)
  else
    if v_heat_rides ≤ 8 then
      ob4 (fX1_countLuck N x1 v_heat_riders v_heat_rides v_heat_riderOf v_heat_scoreOf v_heat_toGive v_heat_board_riders v_heat_board_best v_heat_board_second v_heat_board_faults) (fun r_4 o_4_heat_toGive o_4_heat_board_best o_4_heat_board_second =>
      some (r_4, o_4_heat_toGive, o_4_heat_board_best, o_4_heat_board_second))
    else
      some ((-5), v_heat_toGive, v_heat_board_best, v_heat_board_second))
def fX6_days (N : Nat) (x1 : Int32) (v_wait_days : Int32) (v_wait_from : Nat → Int32) (v_wait_to : Nat → Int32) (v_wait_known : Nat → Int32) (v_wait_above : Nat → Nat → Int64) (v_wait_below : Nat → Int64) : Option (Int32 × Int32 × (Nat → Int32) × (Nat → Int32) × (Nat → Int32) × (Nat → Nat → Int64) × (Nat → Int64)) :=
  if x1 < 1 then
    some ((-1), v_wait_days, v_wait_from, v_wait_to, v_wait_known, v_wait_above, v_wait_below)
  else
    if x1 ≤ 9 then
      ob6 (fX4_begin N x1 v_wait_days v_wait_from v_wait_to v_wait_known v_wait_above v_wait_below) (fun o_3_wait_days o_3_wait_from o_3_wait_to o_3_wait_known o_3_wait_above o_3_wait_below =>
      some (x1, o_3_wait_days, o_3_wait_from, o_3_wait_to, o_3_wait_known, o_3_wait_above, o_3_wait_below))
    else
      some ((-1), v_wait_days, v_wait_from, v_wait_to, v_wait_known, v_wait_above, v_wait_below)
def fX6_isQuality (N : Nat) (x0 : Int32) : Option (Int32) :=
  if x0 < 0 then
    some 0
  else
    if 9 < x0 then
      some 0
    else
      some 1
def fX6_span (N : Nat) (x1 : Int32) (x2 : Int32) (x3 : Int32) (v_wait_days : Int32) (v_wait_from : Nat → Int32) (v_wait_to : Nat → Int32) (v_wait_known : Nat → Int32) (v_wait_above : Nat → Nat → Int64) (v_wait_below : Nat → Int64) : Option (Int32 × (Nat → Int32) × (Nat → Int32) × (Nat → Int32) × (Nat → Nat → Int64) × (Nat → Int64)) :=
  ob1 (fX4_hasDay N x1 v_wait_days) (fun r_1 =>
  if r_1 = 0 then
    some ((-1), v_wait_from, v_wait_to, v_wait_known, v_wait_above, v_wait_below)
  else
    ob1 (fX6_isQuality N x2) (fun r_3 =>
    if r_3 = 0 then
      some ((-1), v_wait_from, v_wait_to, v_wait_known, v_wait_above, v_wait_below)
    else
      ob1 (fX6_isQuality N x3) (fun r_5 =>
      if r_5 = 0 then
        some ((-1), v_wait_from, v_wait_to, v_wait_known, v_wait_above, v_wait_below)
      else
        if x2 ≤ x3 then
          ob5 (fX4_setSpan N x1 x2 x3 v_wait_days v_wait_from v_wait_to v_wait_known v_wait_above v_wait_below) (fun o_8_wait_from o_8_wait_to o_8_wait_known o_8_wait_above o_8_wait_below =>
          some (1, o_8_wait_from, o_8_wait_to, o_8_wait_known, o_8_wait_above, o_8_wait_below))
        else
          some ((-1), v_wait_from, v_wait_to, v_wait_known, v_wait_above, v_wait_below))))
def fX6_was (N : Nat) (x1 : Int32) (x2 : Int32) (v_wait_days : Int32) (v_wait_from : Nat → Int32) (v_wait_to : Nat → Int32) (v_wait_known : Nat → Int32) : Option (Int32 × (Nat → Int32)) :=
  ob1 (fX4_hasDay N x1 v_wait_days) (fun r_1 =>
  if r_1 = 0 then
    some ((-9), v_wait_known)
  else
    if x2 = (-1) then
      if x1 < 0 ∨ 9 ≤ x1.toNatClampNeg then none else
      some (v_wait_known x1.toNatClampNeg, upd v_wait_known x1.toNatClampNeg x2)
    else
      ob1 (fX4_isInSpan N x1 x2 v_wait_from v_wait_to) (fun r_5 =>
      if r_5 = 0 then
        some ((-9), v_wait_known)
      else
        if x1 < 0 ∨ 9 ≤ x1.toNatClampNeg then none else
        some (v_wait_known x1.toNatClampNeg, upd v_wait_known x1.toNatClampNeg x2)))
def fX6_worth (N : Nat) (x1 : Int32) (x2 : Int32) (x3 : Int32) (v_wait_days : Int32) (v_wait_above : Nat → Nat → Int64) (v_wait_below : Nat → Int64) : Option (Int64) :=
  if x1 < 0 then
    some (-9)
  else
    if v_wait_days < x1 then
      some (-9)
    else
      if x2 < 0 then
        some (-9)
      else
        if 9 < x2 then
          some (-9)
        else
          ob1 (fX6_isAboveOrBelow N x3) (fun r_5 =>
          if r_5 = 0 then
            some (-9)
          else
            ob1 (fX4_hasWorth N x1 x2 v_wait_days) (fun r_7 =>
            if r_7 = 0 then
              some (-4)
            else
              if x1 < 0 ∨ 10 ≤ x1.toNatClampNeg then none else
              if x2 < 0 ∨ 10 ≤ x2.toNatClampNeg then none else
              ob1 (fX6_cleared N (v_wait_above x1.toNatClampNeg x2.toNatClampNeg) (v_wait_below x1.toNatClampNeg) x3) (fun r_11 =>
              some r_11)))
def fX6_call (N : Nat) (x1 : Int32) (x2 : Int32) (x3 : Int32) (v_wait_days : Int32) (v_wait_above : Nat → Nat → Int64) (v_wait_below : Nat → Int64) : Option (Int32) :=
  ob1 (fX4_hasDay N x1 v_wait_days) (fun r_1 =>
  if r_1 = 0 then
    some (-1)
  else
    if x2 < 0 then
      some (-1)
    else
      if 9 < x2 then
        some (-1)
      else
        ob1 (fX6_isQuality N x3) (fun r_5 =>
        if r_5 = 0 then
          some (-1)
        else
          ob1 (fX4_hasWorth N x1 x2 v_wait_days) (fun r_7 =>
          if r_7 = 0 then
            some (-4)
          else
            ob1 (fX4_isCalled N x1 x2 x3 v_wait_days v_wait_above v_wait_below) (fun r_9 =>
            if r_9 = 0 then
              some 0
            else
              some 1))))
def fX6_run (N : Nat) (x1 : Int32) (x2 : Int32) (v_wait_days : Int32) (v_wait_known : Nat → Int32) (v_wait_above : Nat → Nat → Int64) (v_wait_below : Nat → Int64) : Option (Int32) :=
  if x1 < 0 then
    some (-1)
  else
    if x1 ≤ v_wait_days then
      if x2 = 0 then
        ob1 (fX4_calledInRun N x1 v_wait_days v_wait_known v_wait_above v_wait_below) (fun r_4 =>
        some r_4)
      else if x2 = 1 then
        ob1 (fX4_calledInRun N x1 v_wait_days v_wait_known v_wait_above v_wait_below) (fun r_6 =>
        ob1 (fX4_sumOf N r_6 v_wait_days v_wait_known) (fun r_7 =>
        some r_7))
      else if x2 = 2 then
        ob1 (fX4_lengthOfRun N v_wait_days v_wait_known) (fun r_9 =>
        some r_9)
      else some (-1)
    else
      some (-1)
def fX6_behind (N : Nat) (x1 : Int32) (v_wait_days : Int32) (v_wait_known : Nat → Int32) : Option (Int32) :=
  if x1 < 0 then
    some (-1)
  else
    if x1 ≤ v_wait_days then
      ob1 (fX4_countKnown N v_wait_days v_wait_known) (fun r_3 =>
      if v_wait_days ≤ r_3 then
        ob1 (fX4_greatestSum N x1 v_wait_days v_wait_known) (fun r_5 =>
        some r_5)
      else
        some (-4))
    else
      some (-1)
def fX6_many (N : Nat) (x1 : Int32) (v_heat_riders : Int32) (v_heat_rides : Int32) (v_heat_line_size : Int32) (v_heat_board_riders : Int32) (v_heat_board_faults : Nat → Int32) (v_past_size : Int32) (v_wait_days : Int32) (v_wait_known : Nat → Int32) : Option (Int32) :=
  if x1 = 0 then
    some v_heat_riders
  else if x1 = 1 then
    some v_heat_rides
  else if x1 = 2 then
    some v_heat_line_size
  else if x1 = 3 then
    some v_past_size
  else if x1 = 4 then
    some v_wait_days
  else if x1 = 5 then
    ob1 (fX4_countKnown N v_wait_days v_wait_known) (fun r_7 =>
    some r_7)
  else if x1 = 6 then
    ob1 (fX0_allFaults N v_heat_board_riders v_heat_board_faults) (fun r_9 =>
    some r_9)
  else some (-1)
def fX7_begin_L17 (N : Nat) (v_riders : Int32) (v_rides : Int32) (v_lineMany : Int32) : Nat → Int32 → (Nat → Int32) → (Nat → Int32) → Option (Int32 × Int32 × Int32 × Int32 × (Nat → Int32) × (Nat → Int32))
  | 0, _, _, _ => none
  | n + 1, x2, v_line, v_interfered =>
    if 4 ≤ x2 then
      some (v_riders, v_rides, v_lineMany, 0, v_line, v_interfered)
    else
      if x2 < 0 ∨ 4 ≤ x2.toNatClampNeg then none else
      fX7_begin_L17 N v_riders v_rides v_lineMany n (x2 + 1) (upd v_line x2.toNatClampNeg x2) (upd v_interfered x2.toNatClampNeg 0)
def fX7_begin (N : Nat) (x1 : Int32) (v_riders : Int32) (v_rides : Int32) (v_lineMany : Int32) (v_isOpen : Int32) (v_line : Nat → Int32) (v_interfered : Nat → Int32) : Option (Int32 × Int32 × Int32 × Int32 × (Nat → Int32) × (Nat → Int32)) :=
  fX7_begin_L17 N x1 0 x1 N 0 v_line v_interfered
def fX7_beginDays_L7 (N : Nat) (x1 : Int32) (v_days : Int32) : Nat → Int32 → (Nat → Int32) → (Nat → Int32) → (Nat → Int32) → Option (Int32 × (Nat → Int32) × (Nat → Int32) × (Nat → Int32))
  | 0, _, _, _, _ => none
  | n + 1, x2, v_low, v_high, v_was =>
    if x1 ≤ x2 then
      some (v_days, v_low, v_high, v_was)
    else
      if x2 < 0 ∨ 9 ≤ x2.toNatClampNeg then none else
      fX7_beginDays_L7 N x1 v_days n (x2 + 1) (upd v_low x2.toNatClampNeg 0) (upd v_high x2.toNatClampNeg 9) (upd v_was x2.toNatClampNeg (-1))
def fX7_beginDays (N : Nat) (x1 : Int32) (v_days : Int32) (v_low : Nat → Int32) (v_high : Nat → Int32) (v_was : Nat → Int32) : Option (Int32 × (Nat → Int32) × (Nat → Int32) × (Nat → Int32)) :=
  fX7_beginDays_L7 N x1 x1 N 0 v_low v_high v_was
def fX7_in (N : Nat) (x0 : Int32) (x1 : Int32) (x2 : Int32) : Option (Int32) :=
  if x0 < x1 then
    some 0
  else
    if x2 < x0 then
      some 0
    else
      some 1
def fX7_isRider (N : Nat) (x1 : Int32) (v_riders : Int32) : Option (Int32) :=
  ob1 (fX7_in N x1 0 (v_riders - 1)) (fun r_1 =>
  if r_1 &&& 1 = r_1 then some r_1 else none)
def fX7_isRide (N : Nat) (x1 : Int32) (v_rides : Int32) : Option (Int32) :=
  ob1 (fX7_in N x1 0 (v_rides - 1)) (fun r_1 =>
  if r_1 &&& 1 = r_1 then some r_1 else none)
def fX7_heat (N : Nat) (x1 : Int32) (v_riders : Int32) (v_rides : Int32) (v_lineMany : Int32) (v_isOpen : Int32) (v_line : Nat → Int32) (v_interfered : Nat → Int32) : Option (Int32 × Int32 × Int32 × Int32 × Int32 × (Nat → Int32) × (Nat → Int32)) :=
  ob1 (fX7_in N x1 2 4) (fun r_1 =>
  if r_1 = 0 then
    some ((-1), v_riders, v_rides, v_lineMany, v_isOpen, v_line, v_interfered)
  else
    ob6 (fX7_begin N x1 v_riders v_rides v_lineMany v_isOpen v_line v_interfered) (fun o_3_riders o_3_rides o_3_lineMany o_3_isOpen o_3_line o_3_interfered =>
    some (x1, o_3_riders, o_3_rides, o_3_lineMany, o_3_isOpen, o_3_line, o_3_interfered)))
def fX7_placeInLine_L2 (N : Nat) (x1 : Int32) (v_lineMany : Int32) (v_line : Nat → Int32) : Nat → Int32 → Option (Int32)
  | 0, _ => none
  | n + 1, x2 =>
    if v_lineMany ≤ x2 then
      some (-1)
    else
      if x2 < 0 ∨ 4 ≤ x2.toNatClampNeg then none else
      if (v_line x2.toNatClampNeg) = x1 then
        some x2
      else
        fX7_placeInLine_L2 N x1 v_lineMany v_line n (x2 + 1)
def fX7_placeInLine (N : Nat) (x1 : Int32) (v_lineMany : Int32) (v_line : Nat → Int32) : Option (Int32) :=
  fX7_placeInLine_L2 N x1 v_lineMany v_line N 0
def fX7_beginGroup_L12 (N : Nat) (v_riders : Int32) (v_lineMany : Int32) (v_group : Int32) (v_wrong : Int32) (v_line : Nat → Int32) : Nat → Int32 → (Nat → Int32) → Option (Int32 × Int32 × (Nat → Int32))
  | 0, _, _ => none
  | n + 1, x1, v_stood =>
    if v_riders ≤ x1 then
      some (v_group, v_wrong, v_stood)
    else
      ob1 (fX7_placeInLine N x1 v_lineMany v_line) (fun r_2 =>
      if r_2 < 0 then
        if x1 < 0 ∨ 4 ≤ x1.toNatClampNeg then none else
        fX7_beginGroup_L12 N v_riders v_lineMany v_group v_wrong v_line n (x1 + 1) (upd v_stood x1.toNatClampNeg (4 + x1))
      else
        if x1 < 0 ∨ 4 ≤ x1.toNatClampNeg then none else
        fX7_beginGroup_L12 N v_riders v_lineMany v_group v_wrong v_line n (x1 + 1) (upd v_stood x1.toNatClampNeg r_2))
def fX7_beginGroup (N : Nat) (v_riders : Int32) (v_lineMany : Int32) (v_group : Int32) (v_wrong : Int32) (v_line : Nat → Int32) (v_stood : Nat → Int32) : Option (Int32 × Int32 × (Nat → Int32)) :=
  fX7_beginGroup_L12 N v_riders v_lineMany 0 0 v_line N 0 v_stood
def fX7_joins_L16 (N : Nat) (v_riders : Int32) (v_group : Int32) (v_stood : Nat → Int32) (k : Int32 → Int32 → Option (Int32 × Int32 × (Nat → Int32))) : Nat → Int32 → Int32 → Option (Int32 × Int32 × (Nat → Int32))
  | 0, _, _ => none
  | n + 1, x2, x3 =>
    if v_riders ≤ x3 then
      k x2 x3
    else
      if ((v_group >>> (x3 &&& 31)) &&& 1) = 1 then
        if x3 < 0 ∨ 4 ≤ x3.toNatClampNeg then none else
        if x2 < 0 ∨ 4 ≤ x2.toNatClampNeg then none else
        if (v_stood x2.toNatClampNeg) ≤ (v_stood x3.toNatClampNeg) then
          fX7_joins_L16 N v_riders v_group v_stood k n x2 (x3 + 1)
        else
          fX7_joins_L16 N v_riders v_group v_stood k n x3 (x3 + 1)
      else
        fX7_joins_L16 N v_riders v_group v_stood k n x2 (x3 + 1)
def fX7_joins_L65 (N : Nat) (x2 : Int32) (v_riders : Int32) (v_group : Int32) : Nat → Int32 → Int32 → (Nat → Int32) → Option (Int32 × Int32 × (Nat → Int32))
  | 0, _, _, _ => none
  | n + 1, x3, v_wrong, v_interfered =>
    if v_riders ≤ x3 then
      some (v_group, v_wrong, v_interfered)
    else
      if ((v_group >>> (x3 &&& 31)) &&& 1) = 1 then
        if x3 = x2 then
          fX7_joins_L65 N x2 v_riders v_group n (x3 + 1) v_wrong v_interfered
        else
          if ((v_wrong >>> (x3 &&& 31)) &&& 1) = 0 then
            if x3 < 0 ∨ 4 ≤ x3.toNatClampNeg then none else
            fX7_joins_L65 N x2 v_riders v_group n (x3 + 1) (v_wrong ||| (1 <<< (x3 &&& 31))) (upd v_interfered x3.toNatClampNeg ((v_interfered x3.toNatClampNeg) + 1))
          else
            fX7_joins_L65 N x2 v_riders v_group n (x3 + 1) v_wrong v_interfered
      else
        fX7_joins_L65 N x2 v_riders v_group n (x3 + 1) v_wrong v_interfered
def fX7_joins (N : Nat) (x1 : Int32) (v_riders : Int32) (v_group : Int32) (v_wrong : Int32) (v_interfered : Nat → Int32) (v_stood : Nat → Int32) : Option (Int32 × Int32 × (Nat → Int32)) :=
  fX7_joins_L16 N v_riders (v_group ||| (1 <<< (x1 &&& 31))) v_stood (fun (x2_6 : Int32) (x3_6 : Int32) =>
    fX7_joins_L65 N x2_6 v_riders (v_group ||| (1 <<< (x1 &&& 31))) N 0 v_wrong v_interfered) N x1 0
def fX7_take_L94 (N : Nat) (v_lineMany : Int32) (k : Int32 → (Nat → Int32) → Option (Int32 × Int32 × Int32 × Int32 × Int32 × Int32 × (Nat → Int32) × (Nat → Int32) × (Nat → Int32) × (Nat → Int32) × (Nat → Int32) × (Nat → Int32))) : Nat → Int32 → (Nat → Int32) → Option (Int32 × Int32 × Int32 × Int32 × Int32 × Int32 × (Nat → Int32) × (Nat → Int32) × (Nat → Int32) × (Nat → Int32) × (Nat → Int32) × (Nat → Int32))
  | 0, _, _ => none
  | n + 1, x4, v_line =>
    if v_lineMany ≤ x4 then
      k x4 v_line
    else
      if (x4 + 1) < 0 ∨ 4 ≤ (x4 + 1).toNatClampNeg then none else
      if x4 < 0 ∨ 4 ≤ x4.toNatClampNeg then none else
      fX7_take_L94 N v_lineMany k n (x4 + 1) (upd v_line x4.toNatClampNeg (v_line (x4 + 1).toNatClampNeg))
def fX7_take_L148 (N : Nat) (v_rides : Int32) (v_lineMany : Int32) (v_isOpen : Int32) (v_group : Int32) (v_wrong : Int32) (v_riderOf : Nat → Int32) (v_waveOf : Nat → Int32) (v_line : Nat → Int32) (v_interfered : Nat → Int32) (v_stood : Nat → Int32) : Nat → Int32 → (Nat → Int32) → Option (Int32 × Int32 × Int32 × Int32 × Int32 × Int32 × (Nat → Int32) × (Nat → Int32) × (Nat → Int32) × (Nat → Int32) × (Nat → Int32) × (Nat → Int32))
  | 0, _, _ => none
  | n + 1, x4, v_marks =>
    if 5 ≤ x4 then
      some ((v_rides + 1) - 1, v_rides + 1, v_lineMany, v_isOpen, v_group, v_wrong, v_riderOf, v_waveOf, v_marks, v_line, v_interfered, v_stood)
    else
      if ((5 * v_rides) + x4) < 0 ∨ 150 ≤ ((5 * v_rides) + x4).toNatClampNeg then none else
      fX7_take_L148 N v_rides v_lineMany v_isOpen v_group v_wrong v_riderOf v_waveOf v_line v_interfered v_stood n (x4 + 1) (upd v_marks ((5 * v_rides) + x4).toNatClampNeg (-1))
def fX7_take (N : Nat) (x1 : Int32) (x2 : Int32) (v_riders : Int32) (v_rides : Int32) (v_lineMany : Int32) (v_isOpen : Int32) (v_group : Int32) (v_wrong : Int32) (v_riderOf : Nat → Int32) (v_waveOf : Nat → Int32) (v_marks : Nat → Int32) (v_line : Nat → Int32) (v_interfered : Nat → Int32) (v_stood : Nat → Int32) : Option (Int32 × Int32 × Int32 × Int32 × Int32 × Int32 × (Nat → Int32) × (Nat → Int32) × (Nat → Int32) × (Nat → Int32) × (Nat → Int32) × (Nat → Int32)) :=
  ob1 (fX7_isRider N x1 v_riders) (fun r_1 =>
  if r_1 = 0 then
    some ((-1), v_rides, v_lineMany, v_isOpen, v_group, v_wrong, v_riderOf, v_waveOf, v_marks, v_line, v_interfered, v_stood)
  else
    ob1 (fX7_in N x2 0 99) (fun r_3 =>
    if r_3 = 0 then
      some ((-1), v_rides, v_lineMany, v_isOpen, v_group, v_wrong, v_riderOf, v_waveOf, v_marks, v_line, v_interfered, v_stood)
    else
      ob1 (fX7_placeInLine N x1 v_lineMany v_line) (fun r_5 =>
      if 0 ≤ r_5 then
        if v_rides = 30 then
          some ((-2), v_rides, v_lineMany, v_isOpen, v_group, v_wrong, v_riderOf, v_waveOf, v_marks, v_line, v_interfered, v_stood)
        else
          if v_isOpen = 0 then
            ob3 (fX7_beginGroup N v_riders v_lineMany v_group v_wrong v_line v_stood) (fun o_9_group o_9_wrong o_9_stood =>
            ob3 (fX7_joins N x1 v_riders o_9_group o_9_wrong v_interfered o_9_stood) (fun o_10_group o_10_wrong o_10_interfered =>
            fX7_take_L94 N (v_lineMany - 1) (fun (x4_14 : Int32) (v_line_14 : Nat → Int32) =>
              if v_rides < 0 ∨ 30 ≤ v_rides.toNatClampNeg then none else
            fX7_take_L148 N v_rides (v_lineMany - 1) 1 o_10_group o_10_wrong (upd v_riderOf v_rides.toNatClampNeg x1) (upd v_waveOf v_rides.toNatClampNeg x2) v_line_14 o_10_interfered o_9_stood N 0 v_marks) N r_5 v_line))
          else
            if (v_rides - 1) < 0 ∨ 30 ≤ (v_rides - 1).toNatClampNeg then none else
            if (v_waveOf (v_rides - 1).toNatClampNeg) = x2 then
              ob3 (fX7_joins N x1 v_riders v_group v_wrong v_interfered v_stood) (fun o_20_group o_20_wrong o_20_interfered =>
              fX7_take_L94 N (v_lineMany - 1) (fun (x4_21 : Int32) (v_line_21 : Nat → Int32) =>
                if v_rides < 0 ∨ 30 ≤ v_rides.toNatClampNeg then none else
              fX7_take_L148 N v_rides (v_lineMany - 1) 1 o_20_group o_20_wrong (upd v_riderOf v_rides.toNatClampNeg x1) (upd v_waveOf v_rides.toNatClampNeg x2) v_line_21 o_20_interfered v_stood N 0 v_marks) N r_5 v_line)
            else
              ob3 (fX7_beginGroup N v_riders v_lineMany v_group v_wrong v_line v_stood) (fun o_23_group o_23_wrong o_23_stood =>
              ob3 (fX7_joins N x1 v_riders o_23_group o_23_wrong v_interfered o_23_stood) (fun o_24_group o_24_wrong o_24_interfered =>
              fX7_take_L94 N (v_lineMany - 1) (fun (x4_25 : Int32) (v_line_25 : Nat → Int32) =>
                if v_rides < 0 ∨ 30 ≤ v_rides.toNatClampNeg then none else
              fX7_take_L148 N v_rides (v_lineMany - 1) 1 o_24_group o_24_wrong (upd v_riderOf v_rides.toNatClampNeg x1) (upd v_waveOf v_rides.toNatClampNeg x2) v_line_25 o_24_interfered o_23_stood N 0 v_marks) N r_5 v_line))
      else
        some ((-3), v_rides, v_lineMany, v_isOpen, v_group, v_wrong, v_riderOf, v_waveOf, v_marks, v_line, v_interfered, v_stood))))
def fX7_back (N : Nat) (x1 : Int32) (v_riders : Int32) (v_lineMany : Int32) (v_line : Nat → Int32) : Option (Int32 × Int32 × (Nat → Int32)) :=
  ob1 (fX7_isRider N x1 v_riders) (fun r_1 =>
  if r_1 = 0 then
    some ((-1), v_lineMany, v_line)
  else
    ob1 (fX7_placeInLine N x1 v_lineMany v_line) (fun r_3 =>
    if r_3 < 0 then
      if v_lineMany < 0 ∨ 4 ≤ v_lineMany.toNatClampNeg then none else
      some (v_lineMany + 1, v_lineMany + 1, upd v_line v_lineMany.toNatClampNeg x1)
    else
      some ((-3), v_lineMany, v_line)))
def fX7_letGo (N : Nat) (v_isOpen : Int32) : Option (Int32 × Int32) :=
  if v_isOpen = 0 then
    some (0, 0)
  else
    some (1, 0)
def fX7_mark (N : Nat) (x1 : Int32) (x2 : Int32) (x3 : Int32) (v_rides : Int32) (v_marks : Nat → Int32) : Option (Int32 × (Nat → Int32)) :=
  ob1 (fX7_isRide N x1 v_rides) (fun r_1 =>
  if r_1 = 0 then
    some ((-9), v_marks)
  else
    ob1 (fX7_in N x2 0 4) (fun r_3 =>
    if r_3 = 0 then
      some ((-9), v_marks)
    else
      ob1 (fX7_in N x3 (-1) 100) (fun r_5 =>
      if r_5 = 0 then
        some ((-9), v_marks)
      else
        if ((5 * x1) + x2) < 0 ∨ 150 ≤ ((5 * x1) + x2).toNatClampNeg then none else
        some (v_marks ((5 * x1) + x2).toNatClampNeg, upd v_marks ((5 * x1) + x2).toNatClampNeg x3))))
def fX7_marksOf_L4 (N : Nat) (x1 : Int32) (v_marks : Nat → Int32) : Nat → Int32 → Int32 → Option (Int32)
  | 0, _, _ => none
  | n + 1, x2, x3 =>
    if 5 ≤ x3 then
      some x2
    else
      if ((5 * x1) + x3) < 0 ∨ 150 ≤ ((5 * x1) + x3).toNatClampNeg then none else
      if (v_marks ((5 * x1) + x3).toNatClampNeg) < 0 then
        fX7_marksOf_L4 N x1 v_marks n (x2 + 0) (x3 + 1)
      else
        fX7_marksOf_L4 N x1 v_marks n (x2 + 1) (x3 + 1)
def fX7_marksOf (N : Nat) (x1 : Int32) (v_marks : Nat → Int32) : Option (Int32) :=
  fX7_marksOf_L4 N x1 v_marks N 0 0
def fX7_scoreOf_L14 (N : Nat) (x1 : Int32) (v_marks : Nat → Int32) (k : Int32 → Int32 → Int32 → Int32 → Int32 → Option (Int32)) : Nat → Int32 → Int32 → Int32 → Int32 → Int32 → Option (Int32)
  | 0, _, _, _, _, _ => none
  | n + 1, x2, x3, x4, x5, x6 =>
    if 5 ≤ x6 then
      k x2 x3 x4 x5 x6
    else
      if ((5 * x1) + x6) < 0 ∨ 150 ≤ ((5 * x1) + x6).toNatClampNeg then none else
      if (v_marks ((5 * x1) + x6).toNatClampNeg) < 0 then
        fX7_scoreOf_L14 N x1 v_marks k n x2 x3 x4 x5 (x6 + 1)
      else
        if x4 ≤ (v_marks ((5 * x1) + x6).toNatClampNeg) then
          if (v_marks ((5 * x1) + x6).toNatClampNeg) ≤ x5 then
            fX7_scoreOf_L14 N x1 v_marks k n (x2 + 1) (x3 + (v_marks ((5 * x1) + x6).toNatClampNeg)) x4 x5 (x6 + 1)
          else
            fX7_scoreOf_L14 N x1 v_marks k n (x2 + 1) (x3 + (v_marks ((5 * x1) + x6).toNatClampNeg)) x4 (v_marks ((5 * x1) + x6).toNatClampNeg) (x6 + 1)
        else
          if (v_marks ((5 * x1) + x6).toNatClampNeg) ≤ x5 then
            fX7_scoreOf_L14 N x1 v_marks k n (x2 + 1) (x3 + (v_marks ((5 * x1) + x6).toNatClampNeg)) (v_marks ((5 * x1) + x6).toNatClampNeg) x5 (x6 + 1)
          else
            fX7_scoreOf_L14 N x1 v_marks k n (x2 + 1) (x3 + (v_marks ((5 * x1) + x6).toNatClampNeg)) (v_marks ((5 * x1) + x6).toNatClampNeg) (v_marks ((5 * x1) + x6).toNatClampNeg) (x6 + 1)
def fX7_scoreOf (N : Nat) (x1 : Int32) (v_marks : Nat → Int32) : Option (Int32) :=
  fX7_scoreOf_L14 N x1 v_marks (fun (x2_7 : Int32) (x3_7 : Int32) (x4_7 : Int32) (x5_7 : Int32) (x6_7 : Int32) =>
    if x2_7 ≤ 3 then
    if x2_7 = 0 then
      some 0
    else
      if x2_7 = 0 then none else
      some ((3 * x3_7) / x2_7)
  else
    if (x2_7 - 2) = 0 then none else
    some ((3 * ((x3_7 - x4_7) - x5_7)) / (x2_7 - 2))) N 0 0 101 (-1) 0
def fX7_of (N : Nat) (x1 : Int32) (x2 : Int32) (v_rides : Int32) (v_riderOf : Nat → Int32) (v_waveOf : Nat → Int32) (v_marks : Nat → Int32) : Option (Int32) :=
  ob1 (fX7_isRide N x1 v_rides) (fun r_1 =>
  if r_1 = 0 then
    some (-1)
  else
    if x2 = 0 then
      if x1 < 0 ∨ 30 ≤ x1.toNatClampNeg then none else
      some (v_riderOf x1.toNatClampNeg)
    else if x2 = 1 then
      if x1 < 0 ∨ 30 ≤ x1.toNatClampNeg then none else
      some (v_waveOf x1.toNatClampNeg)
    else if x2 = 2 then
      ob1 (fX7_marksOf N x1 v_marks) (fun r_8 =>
      some r_8)
    else if x2 = 3 then
      ob1 (fX7_scoreOf N x1 v_marks) (fun r_10 =>
      some r_10)
    else some (-1))
def fX7_line (N : Nat) (x1 : Int32) (v_lineMany : Int32) (v_line : Nat → Int32) : Option (Int32) :=
  ob1 (fX7_in N x1 0 (v_lineMany - 1)) (fun r_1 =>
  if r_1 = 0 then
    some (-4)
  else
    if x1 < 0 ∨ 4 ≤ x1.toNatClampNeg then none else
    some (v_line x1.toNatClampNeg))
def fX7_clearBest_L2 (N : Nat) (v_riders : Int32) : Nat → Int32 → (Nat → Int32) → (Nat → Int32) → Option ((Nat → Int32) × (Nat → Int32))
  | 0, _, _, _ => none
  | n + 1, x1, v_best, v_second =>
    if v_riders ≤ x1 then
      some (v_best, v_second)
    else
      if x1 < 0 ∨ 4 ≤ x1.toNatClampNeg then none else
      fX7_clearBest_L2 N v_riders n (x1 + 1) (upd v_best x1.toNatClampNeg 0) (upd v_second x1.toNatClampNeg 0)
def fX7_clearBest (N : Nat) (v_riders : Int32) (v_best : Nat → Int32) (v_second : Nat → Int32) : Option ((Nat → Int32) × (Nat → Int32)) :=
  fX7_clearBest_L2 N v_riders N 0 v_best v_second
def fX7_counts (N : Nat) (x1 : Int32) (x2 : Int32) (v_best : Nat → Int32) (v_second : Nat → Int32) : Option ((Nat → Int32) × (Nat → Int32)) :=
  if x1 < 0 ∨ 4 ≤ x1.toNatClampNeg then none else
  if x2 ≤ (v_best x1.toNatClampNeg) then
    if x2 ≤ (v_second x1.toNatClampNeg) then
      some (v_best, v_second)
    else
      some (v_best, upd v_second x1.toNatClampNeg x2)
  else
    some (upd v_best x1.toNatClampNeg x2, upd v_second x1.toNatClampNeg (v_best x1.toNatClampNeg))
def fX7_findTotals_L2 (N : Nat) (v_riders : Int32) (v_interfered : Nat → Int32) (v_best : Nat → Int32) (v_second : Nat → Int32) : Nat → Int32 → (Nat → Int32) → Option ((Nat → Int32))
  | 0, _, _ => none
  | n + 1, x1, v_total =>
    if v_riders ≤ x1 then
      some v_total
    else
      if x1 < 0 ∨ 4 ≤ x1.toNatClampNeg then none else
      if (v_interfered x1.toNatClampNeg) = 0 then
        fX7_findTotals_L2 N v_riders v_interfered v_best v_second n (x1 + 1) (upd v_total x1.toNatClampNeg ((v_best x1.toNatClampNeg) + (v_second x1.toNatClampNeg)))
      else
        if (v_interfered x1.toNatClampNeg) = 1 then
          fX7_findTotals_L2 N v_riders v_interfered v_best v_second n (x1 + 1) (upd v_total x1.toNatClampNeg ((v_best x1.toNatClampNeg) + ((v_second x1.toNatClampNeg) / 2)))
        else
          fX7_findTotals_L2 N v_riders v_interfered v_best v_second n (x1 + 1) (upd v_total x1.toNatClampNeg ((v_best x1.toNatClampNeg) / 2))
def fX7_findTotals (N : Nat) (v_riders : Int32) (v_interfered : Nat → Int32) (v_best : Nat → Int32) (v_second : Nat → Int32) (v_total : Nat → Int32) : Option ((Nat → Int32)) :=
  fX7_findTotals_L2 N v_riders v_interfered v_best v_second N 0 v_total
def fX7_findBest_L6 (N : Nat) (v_rides : Int32) (v_riderOf : Nat → Int32) (v_marks : Nat → Int32) (k : Int32 → (Nat → Int32) → (Nat → Int32) → Option ((Nat → Int32) × (Nat → Int32) × (Nat → Int32))) : Nat → Int32 → (Nat → Int32) → (Nat → Int32) → Option ((Nat → Int32) × (Nat → Int32) × (Nat → Int32))
  | 0, _, _, _ => none
  | n + 1, x1, v_best, v_second =>
    if v_rides ≤ x1 then
      k x1 v_best v_second
    else
      if x1 < 0 ∨ 30 ≤ x1.toNatClampNeg then none else
      ob1 (fX7_scoreOf N x1 v_marks) (fun r_4 =>
      ob2 (fX7_counts N (v_riderOf x1.toNatClampNeg) r_4 v_best v_second) (fun o_5_best o_5_second =>
      fX7_findBest_L6 N v_rides v_riderOf v_marks k n (x1 + 1) o_5_best o_5_second))
def fX7_findBest (N : Nat) (v_riders : Int32) (v_rides : Int32) (v_riderOf : Nat → Int32) (v_marks : Nat → Int32) (v_interfered : Nat → Int32) (v_best : Nat → Int32) (v_second : Nat → Int32) (v_total : Nat → Int32) : Option ((Nat → Int32) × (Nat → Int32) × (Nat → Int32)) :=
  ob2 (fX7_clearBest N v_riders v_best v_second) (fun o_1_best o_1_second =>
  fX7_findBest_L6 N v_rides v_riderOf v_marks (fun (x1_6 : Int32) (v_best_6 : Nat → Int32) (v_second_6 : Nat → Int32) =>
    ob1 (fX7_findTotals N v_riders v_interfered v_best_6 v_second_6 v_total) (fun o_7_total =>
  some (v_best_6, v_second_6, o_7_total))) N 0 o_1_best o_1_second)
def fX7_placeOf_L4 (N : Nat) (x1 : Int32) (v_riders : Int32) (v_best : Nat → Int32) (v_total : Nat → Int32) : Nat → Int32 → Int32 → Option (Int32)
  | 0, _, _ => none
  | n + 1, x2, x3 =>
    if v_riders ≤ x3 then
      some x2
    else
      if x3 < 0 ∨ 4 ≤ x3.toNatClampNeg then none else
      if x1 < 0 ∨ 4 ≤ x1.toNatClampNeg then none else
      if (v_total x3.toNatClampNeg) = (v_total x1.toNatClampNeg) then
        if (v_best x1.toNatClampNeg) < (v_best x3.toNatClampNeg) then
          if (v_total x1.toNatClampNeg) < (v_total x3.toNatClampNeg) then
            fX7_placeOf_L4 N x1 v_riders v_best v_total n (x2 + 1) (x3 + 1)
          else
            fX7_placeOf_L4 N x1 v_riders v_best v_total n (x2 + 1) (x3 + 1)
        else
          if (v_best x3.toNatClampNeg) = (v_best x1.toNatClampNeg) then
            if x1 ≤ x3 then
              if (v_total x1.toNatClampNeg) < (v_total x3.toNatClampNeg) then
                fX7_placeOf_L4 N x1 v_riders v_best v_total n (x2 + 1) (x3 + 1)
              else
                fX7_placeOf_L4 N x1 v_riders v_best v_total n (x2 + 0) (x3 + 1)
            else
              if (v_total x1.toNatClampNeg) < (v_total x3.toNatClampNeg) then
                fX7_placeOf_L4 N x1 v_riders v_best v_total n (x2 + 1) (x3 + 1)
              else
                fX7_placeOf_L4 N x1 v_riders v_best v_total n (x2 + 1) (x3 + 1)
          else
            if (v_total x1.toNatClampNeg) < (v_total x3.toNatClampNeg) then
              fX7_placeOf_L4 N x1 v_riders v_best v_total n (x2 + 1) (x3 + 1)
            else
              fX7_placeOf_L4 N x1 v_riders v_best v_total n (x2 + 0) (x3 + 1)
      else
        if (v_total x1.toNatClampNeg) < (v_total x3.toNatClampNeg) then
          fX7_placeOf_L4 N x1 v_riders v_best v_total n (x2 + 1) (x3 + 1)
        else
          fX7_placeOf_L4 N x1 v_riders v_best v_total n (x2 + 0) (x3 + 1)
def fX7_placeOf (N : Nat) (x1 : Int32) (v_riders : Int32) (v_best : Nat → Int32) (v_total : Nat → Int32) : Option (Int32) :=
  fX7_placeOf_L4 N x1 v_riders v_best v_total N 0 0
def fX7_ridesOf_L4 (N : Nat) (x1 : Int32) (v_rides : Int32) (v_riderOf : Nat → Int32) : Nat → Int32 → Int32 → Option (Int32)
  | 0, _, _ => none
  | n + 1, x2, x3 =>
    if v_rides ≤ x3 then
      some x2
    else
      if x3 < 0 ∨ 30 ≤ x3.toNatClampNeg then none else
      if (v_riderOf x3.toNatClampNeg) = x1 then
        fX7_ridesOf_L4 N x1 v_rides v_riderOf n (x2 + 1) (x3 + 1)
      else
        fX7_ridesOf_L4 N x1 v_rides v_riderOf n (x2 + 0) (x3 + 1)
def fX7_ridesOf (N : Nat) (x1 : Int32) (v_rides : Int32) (v_riderOf : Nat → Int32) : Option (Int32) :=
  fX7_ridesOf_L4 N x1 v_rides v_riderOf N 0 0
def fX7_told (N : Nat) (x1 : Int32) (x2 : Int32) (v_riders : Int32) (v_rides : Int32) (v_riderOf : Nat → Int32) (v_marks : Nat → Int32) (v_interfered : Nat → Int32) (v_best : Nat → Int32) (v_second : Nat → Int32) (v_total : Nat → Int32) : Option (Int32 × (Nat → Int32) × (Nat → Int32) × (Nat → Int32)) :=
  ob1 (fX7_isRider N x1 v_riders) (fun r_1 =>
  if r_1 = 0 then
    some ((-1), v_best, v_second, v_total)
  else
    ob3 (fX7_findBest N v_riders v_rides v_riderOf v_marks v_interfered v_best v_second v_total) (fun o_3_best o_3_second o_3_total =>
    if x2 = 0 then
      ob1 (fX7_ridesOf N x1 v_rides v_riderOf) (fun r_5 =>
      some (r_5, o_3_best, o_3_second, o_3_total))
    else if x2 = 1 then
      if x1 < 0 ∨ 4 ≤ x1.toNatClampNeg then none else
      some (o_3_best x1.toNatClampNeg, o_3_best, o_3_second, o_3_total)
    else if x2 = 2 then
      if x1 < 0 ∨ 4 ≤ x1.toNatClampNeg then none else
      some (o_3_second x1.toNatClampNeg, o_3_best, o_3_second, o_3_total)
    else if x2 = 3 then
      if x1 < 0 ∨ 4 ≤ x1.toNatClampNeg then none else
      some (v_interfered x1.toNatClampNeg, o_3_best, o_3_second, o_3_total)
    else if x2 = 4 then
      if x1 < 0 ∨ 4 ≤ x1.toNatClampNeg then none else
      some (o_3_total x1.toNatClampNeg, o_3_best, o_3_second, o_3_total)
    else if x2 = 5 then
      ob1 (fX7_placeOf N x1 v_riders o_3_best o_3_total) (fun r_15 =>
      some (r_15, o_3_best, o_3_second, o_3_total))
    else some ((-1), o_3_best, o_3_second, o_3_total)))
def fX7_needOf_L2 (N : Nat) (x1 : Int32) (x2 : Int32) (v_riders : Int32) (v_rides : Int32) (v_riderOf : Nat → Int32) (v_marks : Nat → Int32) (v_interfered : Nat → Int32) : Nat → Int32 → (Nat → Int32) → (Nat → Int32) → (Nat → Int32) → Option (Int32 × (Nat → Int32) × (Nat → Int32) × (Nat → Int32))
  | 0, _, _, _, _ => none
  | n + 1, x3, v_best, v_second, v_total =>
    if 300 < x3 then
      some ((-4), v_best, v_second, v_total)
    else
      ob3 (fX7_findBest N v_riders v_rides v_riderOf v_marks v_interfered v_best v_second v_total) (fun o_2_best o_2_second o_2_total =>
      ob2 (fX7_counts N x1 x3 o_2_best o_2_second) (fun o_3_best o_3_second =>
      ob1 (fX7_findTotals N v_riders v_interfered o_3_best o_3_second o_2_total) (fun o_4_total =>
      ob1 (fX7_placeOf N x1 v_riders o_3_best o_4_total) (fun r_5 =>
      if x2 < r_5 then
        fX7_needOf_L2 N x1 x2 v_riders v_rides v_riderOf v_marks v_interfered n (x3 + 1) o_3_best o_3_second o_4_total
      else
        some (x3, o_3_best, o_3_second, o_4_total)))))
def fX7_needOf (N : Nat) (x1 : Int32) (x2 : Int32) (v_riders : Int32) (v_rides : Int32) (v_riderOf : Nat → Int32) (v_marks : Nat → Int32) (v_interfered : Nat → Int32) (v_best : Nat → Int32) (v_second : Nat → Int32) (v_total : Nat → Int32) : Option (Int32 × (Nat → Int32) × (Nat → Int32) × (Nat → Int32)) :=
  fX7_needOf_L2 N x1 x2 v_riders v_rides v_riderOf v_marks v_interfered N 0 v_best v_second v_total
def fX7_need (N : Nat) (x1 : Int32) (x2 : Int32) (v_riders : Int32) (v_rides : Int32) (v_riderOf : Nat → Int32) (v_marks : Nat → Int32) (v_interfered : Nat → Int32) (v_best : Nat → Int32) (v_second : Nat → Int32) (v_total : Nat → Int32) : Option (Int32 × (Nat → Int32) × (Nat → Int32) × (Nat → Int32)) :=
  ob1 (fX7_isRider N x1 v_riders) (fun r_1 =>
  if r_1 = 0 then
    some ((-1), v_best, v_second, v_total)
  else
    ob1 (fX7_in N x2 0 3) (fun r_3 =>
    if r_3 = 0 then
      some ((-1), v_best, v_second, v_total)
    else
      ob4 (fX7_needOf N x1 x2 v_riders v_rides v_riderOf v_marks v_interfered v_best v_second v_total) (fun r_5 o_5_best o_5_second o_5_total =>
      some (r_5, o_5_best, o_5_second, o_5_total))))
def fX7_past (N : Nat) (x1 : Int32) (v_pastMany : Int32) (v_past : Nat → Int32) : Option (Int32 × Int32 × (Nat → Int32)) :=
  ob1 (fX7_in N x1 0 300) (fun r_1 =>
  if r_1 = 0 then
    some ((-1), v_pastMany, v_past)
  else
    if v_pastMany = 40 then
      some ((-2), v_pastMany, v_past)
    else
      if v_pastMany < 0 ∨ 40 ≤ v_pastMany.toNatClampNeg then none else
      some (v_pastMany + 1, v_pastMany + 1, upd v_past v_pastMany.toNatClampNeg x1))
def fX7_keep_L4 (N : Nat) (v_rides : Int32) (v_marks : Nat → Int32) (k : Int32 → Int32 → Option (Int32 × Int32 × (Nat → Int32))) : Nat → Int32 → Int32 → Option (Int32 × Int32 × (Nat → Int32))
  | 0, _, _ => none
  | n + 1, x1, x2 =>
    if v_rides ≤ x2 then
      k x1 x2
    else
      ob1 (fX7_marksOf N x2 v_marks) (fun r_2 =>
      if r_2 ≤ 0 then
        fX7_keep_L4 N v_rides v_marks k n (x1 + 0) (x2 + 1)
      else
        fX7_keep_L4 N v_rides v_marks k n (x1 + 1) (x2 + 1))
def fX7_keep_L50 (N : Nat) (x1 : Int32) (v_rides : Int32) (v_marks : Nat → Int32) : Nat → Int32 → Int32 → (Nat → Int32) → Option (Int32 × Int32 × (Nat → Int32))
  | 0, _, _, _ => none
  | n + 1, x2, v_pastMany, v_past =>
    if v_rides ≤ x2 then
      some (x1, v_pastMany, v_past)
    else
      ob1 (fX7_marksOf N x2 v_marks) (fun r_7 =>
      if r_7 ≤ 0 then
        fX7_keep_L50 N x1 v_rides v_marks n (x2 + 1) v_pastMany v_past
      else
        ob1 (fX7_scoreOf N x2 v_marks) (fun r_9 =>
        if v_pastMany < 0 ∨ 40 ≤ v_pastMany.toNatClampNeg then none else
        fX7_keep_L50 N x1 v_rides v_marks n (x2 + 1) (v_pastMany + 1) (upd v_past v_pastMany.toNatClampNeg r_9)))
def fX7_keep (N : Nat) (v_rides : Int32) (v_pastMany : Int32) (v_marks : Nat → Int32) (v_past : Nat → Int32) : Option (Int32 × Int32 × (Nat → Int32)) :=
  fX7_keep_L4 N v_rides v_marks (fun (x1_4 : Int32) (x2_4 : Int32) =>
    if (v_pastMany + x1_4) ≤ 40 then
    fX7_keep_L50 N x1_4 v_rides v_marks N 0 v_pastMany v_past
  else
    some ((-2), v_pastMany, v_past)) N 0 0
def fX7_forget (N : Nat) (v_pastMany : Int32) : Option (Int32 × Int32) :=
  some (v_pastMany, 0)
def fX7_common_L6 (N : Nat) : Nat → Int64 → Int64 → Option (Int64)
  | 0, _, _ => none
  | n + 1, x4, x6 =>
    if (lg_cmp x6 0) = 0 then
      some x4
    else
      if x6 = 0 then none else
      fX7_common_L6 N n x6 (x4 - x4 / x6 * x6)
def fX7_common (N : Nat) (x0 : Int64) (x2 : Int64) : Option (Int64) :=
  fX7_common_L6 N N x0 x2
def fX7_chance_L50 (N : Nat) (x4 : Int32) (v_pastMany : Int32) (v_past : Nat → Int32) (k : Int32 → Int32 → Option (Int32 × (Nat → Int32) × (Nat → Int32) × (Nat → Int32))) : Nat → Int32 → Int32 → Option (Int32 × (Nat → Int32) × (Nat → Int32) × (Nat → Int32))
  | 0, _, _ => none
  | n + 1, x5, x6 =>
    if v_pastMany ≤ x6 then
      k x5 x6
    else
      if x6 < 0 ∨ 40 ≤ x6.toNatClampNeg then none else
      if (v_past x6.toNatClampNeg) < x4 then
        fX7_chance_L50 N x4 v_pastMany v_past k n (x5 + 0) (x6 + 1)
      else
        fX7_chance_L50 N x4 v_pastMany v_past k n (x5 + 1) (x6 + 1)
def fX7_chance (N : Nat) (x1 : Int32) (x2 : Int32) (x3 : Int32) (v_riders : Int32) (v_rides : Int32) (v_pastMany : Int32) (v_riderOf : Nat → Int32) (v_marks : Nat → Int32) (v_interfered : Nat → Int32) (v_past : Nat → Int32) (v_best : Nat → Int32) (v_second : Nat → Int32) (v_total : Nat → Int32) : Option (Int32 × (Nat → Int32) × (Nat → Int32) × (Nat → Int32)) :=
  ob1 (fX7_isRider N x1 v_riders) (fun r_1 =>
  if r_1 = 0 then
    some ((-1), v_best, v_second, v_total)
  else
    ob1 (fX7_in N x2 0 3) (fun r_3 =>
    if r_3 = 0 then
      some ((-1), v_best, v_second, v_total)
    else
      ob1 (fX7_in N x3 0 1) (fun r_5 =>
      if r_5 = 0 then
        some ((-1), v_best, v_second, v_total)
      else
        ob4 (fX7_needOf N x1 x2 v_riders v_rides v_riderOf v_marks v_interfered v_best v_second v_total) (fun r_7 o_7_best o_7_second o_7_total =>
        if 0 ≤ r_7 then
          fX7_chance_L50 N r_7 v_pastMany v_past (fun (x5_12 : Int32) (x6_12 : Int32) =>
            if x5_12 = 0 then
            some (x3, o_7_best, o_7_second, o_7_total)
          else
            ob1 (fX7_common N x5_12.toInt64 v_pastMany.toInt64) (fun r_14 =>
            if x3 = 0 then
              if r_14.toInt32 = 0 then none else
              some (x5_12 / r_14.toInt32, o_7_best, o_7_second, o_7_total)
            else
              if r_14.toInt32 = 0 then none else
              some (v_pastMany / r_14.toInt32, o_7_best, o_7_second, o_7_total))) N 0 0
        else
          some ((-4), o_7_best, o_7_second, o_7_total)))))
def fX7_wins_L6 (N : Nat) (v_rides : Int32) (v_marks : Nat → Int32) (v_givenTo : Nat → Int32) (k : Int32 → (Nat → Int32) → (Nat → Int32) → Option (Int32 × (Nat → Int32) × (Nat → Int32) × (Nat → Int32))) : Nat → Int32 → (Nat → Int32) → (Nat → Int32) → Option (Int32 × (Nat → Int32) × (Nat → Int32) × (Nat → Int32))
  | 0, _, _, _ => none
  | n + 1, x2, v_best, v_second =>
    if v_rides ≤ x2 then
      k x2 v_best v_second
    else
      if x2 < 0 ∨ 8 ≤ x2.toNatClampNeg then none else
      ob1 (fX7_scoreOf N x2 v_marks) (fun r_4 =>
      ob2 (fX7_counts N (v_givenTo x2.toNatClampNeg) r_4 v_best v_second) (fun o_5_best o_5_second =>
      fX7_wins_L6 N v_rides v_marks v_givenTo k n (x2 + 1) o_5_best o_5_second))
def fX7_wins (N : Nat) (x1 : Int32) (v_riders : Int32) (v_rides : Int32) (v_marks : Nat → Int32) (v_interfered : Nat → Int32) (v_best : Nat → Int32) (v_second : Nat → Int32) (v_total : Nat → Int32) (v_givenTo : Nat → Int32) : Option (Int32 × (Nat → Int32) × (Nat → Int32) × (Nat → Int32)) :=
  ob2 (fX7_clearBest N v_riders v_best v_second) (fun o_1_best o_1_second =>
  fX7_wins_L6 N v_rides v_marks v_givenTo (fun (x2_6 : Int32) (v_best_6 : Nat → Int32) (v_second_6 : Nat → Int32) =>
    ob1 (fX7_findTotals N v_riders v_interfered v_best_6 v_second_6 v_total) (fun o_7_total =>
  ob1 (fX7_placeOf N x1 v_riders v_best_6 o_7_total) (fun r_8 =>
  if r_8 = 0 then
    some (1, v_best_6, v_second_6, o_7_total)
  else
    some (0, v_best_6, v_second_6, o_7_total)))) N 0 o_1_best o_1_second)
def fX7_goThrough_L4 (N : Nat) (v_riders : Int32) (v_rides : Int32) (k : Int32 → Int32 → Option (Int32 × (Nat → Int32) × (Nat → Int32) × (Nat → Int32) × (Nat → Int32) × (Nat → Int32) × (Nat → Int32))) : Nat → Int32 → Int32 → Option (Int32 × (Nat → Int32) × (Nat → Int32) × (Nat → Int32) × (Nat → Int32) × (Nat → Int32) × (Nat → Int32))
  | 0, _, _ => none
  | n + 1, x2, x3 =>
    if v_rides ≤ x3 then
      k x2 x3
    else
      fX7_goThrough_L4 N v_riders v_rides k n (x2 * v_riders) (x3 + 1)
def fX7_goThrough_L27 (N : Nat) (v_riders : Int32) (v_rides : Int32) (v_riderOf : Nat → Int32) (k : Int32 → (Nat → Int32) → Option (Int32 × (Nat → Int32) × (Nat → Int32) × (Nat → Int32) × (Nat → Int32) × (Nat → Int32) × (Nat → Int32))) : Nat → Int32 → (Nat → Int32) → Option (Int32 × (Nat → Int32) × (Nat → Int32) × (Nat → Int32) × (Nat → Int32) × (Nat → Int32) × (Nat → Int32))
  | 0, _, _ => none
  | n + 1, x3, v_own =>
    if v_riders ≤ x3 then
      k x3 v_own
    else
      ob1 (fX7_ridesOf N x3 v_rides v_riderOf) (fun r_4 =>
      if x3 < 0 ∨ 4 ≤ x3.toNatClampNeg then none else
      fX7_goThrough_L27 N v_riders v_rides v_riderOf k n (x3 + 1) (upd v_own x3.toNatClampNeg r_4))
def fX7_goThrough_L70 (N : Nat) (v_riders : Int32) (v_own : Nat → Int32) (k : Int32 → (Nat → Int32) → Option (Int32 × (Nat → Int32) × (Nat → Int32) × (Nat → Int32) × (Nat → Int32) × (Nat → Int32) × (Nat → Int32))) : Nat → Int32 → (Nat → Int32) → Option (Int32 × (Nat → Int32) × (Nat → Int32) × (Nat → Int32) × (Nat → Int32) × (Nat → Int32) × (Nat → Int32))
  | 0, _, _ => none
  | n + 1, x6, v_has =>
    if v_riders ≤ x6 then
      k x6 v_has
    else
      if x6 < 0 ∨ 4 ≤ x6.toNatClampNeg then none else
      fX7_goThrough_L70 N v_riders v_own k n (x6 + 1) (upd v_has x6.toNatClampNeg (v_own x6.toNatClampNeg))
def fX7_goThrough_L105 (N : Nat) (v_riders : Int32) (v_rides : Int32) (k : Int32 → Int32 → Int32 → (Nat → Int32) → (Nat → Int32) → Option (Int32 × (Nat → Int32) × (Nat → Int32) × (Nat → Int32) × (Nat → Int32) × (Nat → Int32) × (Nat → Int32))) : Nat → Int32 → Int32 → Int32 → (Nat → Int32) → (Nat → Int32) → Option (Int32 × (Nat → Int32) × (Nat → Int32) × (Nat → Int32) × (Nat → Int32) × (Nat → Int32) × (Nat → Int32))
  | 0, _, _, _, _, _ => none
  | n + 1, x5, x6, x7, v_givenTo, v_has =>
    if v_rides ≤ x7 then
      k x5 x6 x7 v_givenTo v_has
    else
      if v_riders = 0 then none else
      if x7 < 0 ∨ 8 ≤ x7.toNatClampNeg then none else
      if ((upd v_givenTo x7.toNatClampNeg (x5 - x5 / v_riders * v_riders)) x7.toNatClampNeg) < 0 ∨ 4 ≤ ((upd v_givenTo x7.toNatClampNeg (x5 - x5 / v_riders * v_riders)) x7.toNatClampNeg).toNatClampNeg then none else
      if x6 = 0 then
        fX7_goThrough_L105 N v_riders v_rides k n (x5 / v_riders) 0 (x7 + 1) (upd v_givenTo x7.toNatClampNeg (x5 - x5 / v_riders * v_riders)) (upd v_has ((upd v_givenTo x7.toNatClampNeg (x5 - x5 / v_riders * v_riders)) x7.toNatClampNeg).toNatClampNeg ((v_has ((upd v_givenTo x7.toNatClampNeg (x5 - x5 / v_riders * v_riders)) x7.toNatClampNeg).toNatClampNeg) - 1))
      else
        if ((upd v_has ((upd v_givenTo x7.toNatClampNeg (x5 - x5 / v_riders * v_riders)) x7.toNatClampNeg).toNatClampNeg ((v_has ((upd v_givenTo x7.toNatClampNeg (x5 - x5 / v_riders * v_riders)) x7.toNatClampNeg).toNatClampNeg) - 1)) ((upd v_givenTo x7.toNatClampNeg (x5 - x5 / v_riders * v_riders)) x7.toNatClampNeg).toNatClampNeg) < 0 then
          fX7_goThrough_L105 N v_riders v_rides k n (x5 / v_riders) 0 (x7 + 1) (upd v_givenTo x7.toNatClampNeg (x5 - x5 / v_riders * v_riders)) (upd v_has ((upd v_givenTo x7.toNatClampNeg (x5 - x5 / v_riders * v_riders)) x7.toNatClampNeg).toNatClampNeg ((v_has ((upd v_givenTo x7.toNatClampNeg (x5 - x5 / v_riders * v_riders)) x7.toNatClampNeg).toNatClampNeg) - 1))
        else
          fX7_goThrough_L105 N v_riders v_rides k n (x5 / v_riders) 1 (x7 + 1) (upd v_givenTo x7.toNatClampNeg (x5 - x5 / v_riders * v_riders)) (upd v_has ((upd v_givenTo x7.toNatClampNeg (x5 - x5 / v_riders * v_riders)) x7.toNatClampNeg).toNatClampNeg ((v_has ((upd v_givenTo x7.toNatClampNeg (x5 - x5 / v_riders * v_riders)) x7.toNatClampNeg).toNatClampNeg) - 1))
def fX7_goThrough_L57 (N : Nat) (x1 : Int32) (x2 : Int32) (v_riders : Int32) (v_rides : Int32) (v_marks : Nat → Int32) (v_interfered : Nat → Int32) (v_own : Nat → Int32) : Nat → Int32 → Int32 → (Nat → Int32) → (Nat → Int32) → (Nat → Int32) → (Nat → Int32) → (Nat → Int32) → Option (Int32 × (Nat → Int32) × (Nat → Int32) × (Nat → Int32) × (Nat → Int32) × (Nat → Int32) × (Nat → Int32))
  | 0, _, _, _, _, _, _, _ => none
  | n + 1, x3, x4, v_best, v_second, v_total, v_givenTo, v_has =>
    if x2 ≤ x4 then
      some (x3, v_best, v_second, v_total, v_givenTo, v_has, v_own)
    else
      fX7_goThrough_L70 N v_riders v_own (fun (x6_10 : Int32) (v_has_10 : Nat → Int32) =>
        fX7_goThrough_L105 N v_riders v_rides (fun (x5_17 : Int32) (x6_17 : Int32) (x7_17 : Int32) (v_givenTo_17 : Nat → Int32) (v_has_17 : Nat → Int32) =>
        if x6_17 = 0 then
        fX7_goThrough_L57 N x1 x2 v_riders v_rides v_marks v_interfered v_own n x3 (x4 + 1) v_best v_second v_total v_givenTo_17 v_has_17
      else
        if x1 < 0 then
          fX7_goThrough_L57 N x1 x2 v_riders v_rides v_marks v_interfered v_own n (x3 + 1) (x4 + 1) v_best v_second v_total v_givenTo_17 v_has_17
        else
          ob4 (fX7_wins N x1 v_riders v_rides v_marks v_interfered v_best v_second v_total v_givenTo_17) (fun r_20 o_20_best o_20_second o_20_total =>
          if r_20 = 0 then
            fX7_goThrough_L57 N x1 x2 v_riders v_rides v_marks v_interfered v_own n (x3 + 0) (x4 + 1) o_20_best o_20_second o_20_total v_givenTo_17 v_has_17
          else
            fX7_goThrough_L57 N x1 x2 v_riders v_rides v_marks v_interfered v_own n (x3 + 1) (x4 + 1) o_20_best o_20_second o_20_total v_givenTo_17 v_has_17)) N x4 1 0 v_givenTo v_has_10) N 0 v_has
def fX7_goThrough (N : Nat) (x1 : Int32) (v_riders : Int32) (v_rides : Int32) (v_riderOf : Nat → Int32) (v_marks : Nat → Int32) (v_interfered : Nat → Int32) (v_best : Nat → Int32) (v_second : Nat → Int32) (v_total : Nat → Int32) (v_givenTo : Nat → Int32) (v_has : Nat → Int32) (v_own : Nat → Int32) : Option (Int32 × (Nat → Int32) × (Nat → Int32) × (Nat → Int32) × (Nat → Int32) × (Nat → Int32) × (Nat → Int32)) :=
  fX7_goThrough_L4 N v_riders v_rides (fun (x2_2 : Int32) (x3_2 : Int32) =>
    fX7_goThrough_L27 N v_riders v_rides v_riderOf (fun (x3_6 : Int32) (v_own_6 : Nat → Int32) =>
    fX7_goThrough_L57 N x1 x2_2 v_riders v_rides v_marks v_interfered v_own_6 N 0 0 v_best v_second v_total v_givenTo v_has) N 0 v_own) N 1 0
def fX7_ways (N : Nat) (v_riders : Int32) (v_rides : Int32) (v_riderOf : Nat → Int32) (v_marks : Nat → Int32) (v_interfered : Nat → Int32) (v_best : Nat → Int32) (v_second : Nat → Int32) (v_total : Nat → Int32) (v_givenTo : Nat → Int32) (v_has : Nat → Int32) (v_own : Nat → Int32) : Option (Int32 × (Nat → Int32) × (Nat → Int32) × (Nat → Int32) × (Nat → Int32) × (Nat → Int32) × (Nat → Int32)) :=
  if v_rides ≤ 8 then
    ob7 (fX7_goThrough N (-1) v_riders v_rides v_riderOf v_marks v_interfered v_best v_second v_total v_givenTo v_has v_own) (fun r_2 o_2_best o_2_second o_2_total o_2_givenTo o_2_has o_2_own =>
    some (r_2, o_2_best, o_2_second, o_2_total, o_2_givenTo, o_2_has, o_2_own))
  else
    some ((-5), v_best, v_second, v_total, v_givenTo, v_has, v_own)
def fX7_luck (N : Nat) (x1 : Int32) (v_riders : Int32) (v_rides : Int32) (v_riderOf : Nat → Int32) (v_marks : Nat → Int32) (v_interfered : Nat → Int32) (v_best : Nat → Int32) (v_second : Nat → Int32) (v_total : Nat → Int32) (v_givenTo : Nat → Int32) (v_has : Nat → Int32) (v_own : Nat → Int32) : Option (Int32 × (Nat → Int32) × (Nat → Int32) × (Nat → Int32) × (Nat → Int32) × (Nat → Int32) × (Nat → Int32)) :=
  ob1 (fX7_isRider N x1 v_riders) (fun r_1 =>
  if r_1 = 0 then
    some ((-1), v_best, v_second, v_total, v_givenTo, v_has, v_own)
  else
    if v_rides ≤ 8 then
      ob7 (fX7_goThrough N x1 v_riders v_rides v_riderOf v_marks v_interfered v_best v_second v_total v_givenTo v_has v_own) (fun r_4 o_4_best o_4_second o_4_total o_4_givenTo o_4_has o_4_own =>
      some (r_4, o_4_best, o_4_second, o_4_total, o_4_givenTo, o_4_has, o_4_own))
    else
      some ((-5), v_best, v_second, v_total, v_givenTo, v_has, v_own))
def fX7_days (N : Nat) (x1 : Int32) (v_days : Int32) (v_low : Nat → Int32) (v_high : Nat → Int32) (v_was : Nat → Int32) : Option (Int32 × Int32 × (Nat → Int32) × (Nat → Int32) × (Nat → Int32)) :=
  ob1 (fX7_in N x1 1 9) (fun r_1 =>
  if r_1 = 0 then
    some ((-1), v_days, v_low, v_high, v_was)
  else
    ob4 (fX7_beginDays N x1 v_days v_low v_high v_was) (fun o_3_days o_3_low o_3_high o_3_was =>
    some (x1, o_3_days, o_3_low, o_3_high, o_3_was)))
def fX7_isDay (N : Nat) (x1 : Int32) (v_days : Int32) : Option (Int32) :=
  ob1 (fX7_in N x1 0 (v_days - 1)) (fun r_1 =>
  if r_1 &&& 1 = r_1 then some r_1 else none)
def fX7_span (N : Nat) (x1 : Int32) (x2 : Int32) (x3 : Int32) (v_days : Int32) (v_low : Nat → Int32) (v_high : Nat → Int32) (v_was : Nat → Int32) : Option (Int32 × (Nat → Int32) × (Nat → Int32) × (Nat → Int32)) :=
  ob1 (fX7_isDay N x1 v_days) (fun r_1 =>
  if r_1 = 0 then
    some ((-1), v_low, v_high, v_was)
  else
    ob1 (fX7_in N x2 0 9) (fun r_3 =>
    if r_3 = 0 then
      some ((-1), v_low, v_high, v_was)
    else
      ob1 (fX7_in N x3 x2 9) (fun r_5 =>
      if r_5 = 0 then
        some ((-1), v_low, v_high, v_was)
      else
        if x1 < 0 ∨ 9 ≤ x1.toNatClampNeg then none else
        some (1, upd v_low x1.toNatClampNeg x2, upd v_high x1.toNatClampNeg x3, upd v_was x1.toNatClampNeg (-1)))))
def fX7_was (N : Nat) (x1 : Int32) (x2 : Int32) (v_days : Int32) (v_low : Nat → Int32) (v_high : Nat → Int32) (v_was : Nat → Int32) : Option (Int32 × (Nat → Int32)) :=
  ob1 (fX7_isDay N x1 v_days) (fun r_1 =>
  if r_1 = 0 then
    some ((-9), v_was)
  else
    if x2 = (-1) then
      if x1 < 0 ∨ 9 ≤ x1.toNatClampNeg then none else
      some (v_was x1.toNatClampNeg, upd v_was x1.toNatClampNeg x2)
    else
      if x1 < 0 ∨ 9 ≤ x1.toNatClampNeg then none else
      ob1 (fX7_in N x2 (v_low x1.toNatClampNeg) (v_high x1.toNatClampNeg)) (fun r_6 =>
      if r_6 = 0 then
        some ((-9), v_was)
      else
        some (v_was x1.toNatClampNeg, upd v_was x1.toNatClampNeg x2)))
def fX7_findWorths_L87 (N : Nat) (x1 : Int32) (x2 : Int32) (v_days : Int32) (v_high : Nat → Int32) (v_sums : Nat → Int64) (v_below : Nat → Int64) (k : Int64 → Int32 → Option ((Nat → Int64) × (Nat → Int64))) : Nat → Int64 → Int32 → Option ((Nat → Int64) × (Nat → Int64))
  | 0, _, _ => none
  | n + 1, x3, x5 =>
    if x1 < 0 ∨ 9 ≤ x1.toNatClampNeg then none else
    if (v_high x1.toNatClampNeg) < x5 then
      k x3 x5
    else
      if x2 = 0 then
        if x2 ≤ ((v_days - x1) - 1) then
          if ((10 * (x1 + 1)) + x2) < 0 ∨ 100 ≤ ((10 * (x1 + 1)) + x2).toNatClampNeg then none else
          if (lg_cmp (-1) (v_sums ((10 * (x1 + 1)) + x2).toNatClampNeg)) ≤ 0 then
            fX7_findWorths_L87 N x1 x2 v_days v_high v_sums v_below k n (x3 + (v_sums ((10 * (x1 + 1)) + x2).toNatClampNeg)) (x5 + 1)
          else
            fX7_findWorths_L87 N x1 x2 v_days v_high v_sums v_below k n (x3 + (-1)) (x5 + 1)
        else
          if (lg_cmp (-1) (-1)) ≤ 0 then
            fX7_findWorths_L87 N x1 x2 v_days v_high v_sums v_below k n (x3 + (-1)) (x5 + 1)
          else
            fX7_findWorths_L87 N x1 x2 v_days v_high v_sums v_below k n (x3 + (-1)) (x5 + 1)
      else
        if (x1 + 1) < 0 ∨ 10 ≤ (x1 + 1).toNatClampNeg then none else
        if (((10 * (x1 + 1)) + x2) - 1) < 0 ∨ 100 ≤ (((10 * (x1 + 1)) + x2) - 1).toNatClampNeg then none else
        if x2 ≤ ((v_days - x1) - 1) then
          if ((10 * (x1 + 1)) + x2) < 0 ∨ 100 ≤ ((10 * (x1 + 1)) + x2).toNatClampNeg then none else
          if (lg_cmp ((x5.toInt64 * (v_below (x1 + 1).toNatClampNeg)) + (v_sums (((10 * (x1 + 1)) + x2) - 1).toNatClampNeg)) (v_sums ((10 * (x1 + 1)) + x2).toNatClampNeg)) ≤ 0 then
            fX7_findWorths_L87 N x1 x2 v_days v_high v_sums v_below k n (x3 + (v_sums ((10 * (x1 + 1)) + x2).toNatClampNeg)) (x5 + 1)
          else
            fX7_findWorths_L87 N x1 x2 v_days v_high v_sums v_below k n (x3 + ((x5.toInt64 * (v_below (x1 + 1).toNatClampNeg)) + (v_sums (((10 * (x1 + 1)) + x2) - 1).toNatClampNeg))) (x5 + 1)
        else
          if (lg_cmp ((x5.toInt64 * (v_below (x1 + 1).toNatClampNeg)) + (v_sums (((10 * (x1 + 1)) + x2) - 1).toNatClampNeg)) (-1)) ≤ 0 then
            fX7_findWorths_L87 N x1 x2 v_days v_high v_sums v_below k n (x3 + (-1)) (x5 + 1)
          else
            fX7_findWorths_L87 N x1 x2 v_days v_high v_sums v_below k n (x3 + ((x5.toInt64 * (v_below (x1 + 1).toNatClampNeg)) + (v_sums (((10 * (x1 + 1)) + x2) - 1).toNatClampNeg))) (x5 + 1)
def fX7_findWorths_L67 (N : Nat) (x1 : Int32) (v_days : Int32) (v_low : Nat → Int32) (v_high : Nat → Int32) (v_below : Nat → Int64) (k : Int32 → (Nat → Int64) → Option ((Nat → Int64) × (Nat → Int64))) : Nat → Int32 → (Nat → Int64) → Option ((Nat → Int64) × (Nat → Int64))
  | 0, _, _ => none
  | n + 1, x2, v_sums =>
    if (v_days - x1) < x2 then
      k x2 v_sums
    else
      if x1 < 0 ∨ 9 ≤ x1.toNatClampNeg then none else
      fX7_findWorths_L87 N x1 x2 v_days v_high v_sums v_below (fun (x3_22 : Int64) (x5_22 : Int32) =>
        if ((10 * x1) + x2) < 0 ∨ 100 ≤ ((10 * x1) + x2).toNatClampNeg then none else
      fX7_findWorths_L67 N x1 v_days v_low v_high v_below k n (x2 + 1) (vp_updL v_sums ((10 * x1) + x2).toNatClampNeg x3_22)) N 0 (v_low x1.toNatClampNeg)
def fX7_findWorths_L30 (N : Nat) (v_days : Int32) (v_low : Nat → Int32) (v_high : Nat → Int32) : Nat → Int32 → (Nat → Int64) → (Nat → Int64) → Option ((Nat → Int64) × (Nat → Int64))
  | 0, _, _, _ => none
  | n + 1, x1, v_sums, v_below =>
    if x1 < 0 then
      some (v_sums, v_below)
    else
      if (x1 + 1) < 0 ∨ 10 ≤ (x1 + 1).toNatClampNeg then none else
      if x1 < 0 ∨ 9 ≤ x1.toNatClampNeg then none else
      if x1 < 0 ∨ 10 ≤ x1.toNatClampNeg then none else
      fX7_findWorths_L67 N x1 v_days v_low v_high (vp_updL v_below x1.toNatClampNeg ((v_below (x1 + 1).toNatClampNeg) * ((((v_high x1.toNatClampNeg) - (v_low x1.toNatClampNeg)) + 1).toInt64))) (fun (x2_24 : Int32) (v_sums_24 : Nat → Int64) =>
        fX7_findWorths_L30 N v_days v_low v_high n (x1 + (-1)) v_sums_24 (vp_updL v_below x1.toNatClampNeg ((v_below (x1 + 1).toNatClampNeg) * ((((v_high x1.toNatClampNeg) - (v_low x1.toNatClampNeg)) + 1).toInt64)))) N 0 v_sums
def fX7_findWorths (N : Nat) (v_days : Int32) (v_low : Nat → Int32) (v_high : Nat → Int32) (v_sums : Nat → Int64) (v_below : Nat → Int64) : Option ((Nat → Int64) × (Nat → Int64)) :=
  if v_days < 0 ∨ 10 ≤ v_days.toNatClampNeg then none else
  if (10 * v_days) < 0 ∨ 100 ≤ (10 * v_days).toNatClampNeg then none else
  fX7_findWorths_L30 N v_days v_low v_high N (v_days - 1) (vp_updL v_sums (10 * v_days).toNatClampNeg 0) (vp_updL v_below v_days.toNatClampNeg 1)
def fX7_worth (N : Nat) (x1 : Int32) (x2 : Int32) (x3 : Int32) (v_days : Int32) (v_low : Nat → Int32) (v_high : Nat → Int32) (v_sums : Nat → Int64) (v_below : Nat → Int64) : Option (Int64 × (Nat → Int64) × (Nat → Int64)) :=
  ob1 (fX7_in N x1 0 v_days) (fun r_1 =>
  if r_1 = 0 then
    some ((-9), v_sums, v_below)
  else
    ob1 (fX7_in N x2 0 9) (fun r_3 =>
    if r_3 = 0 then
      some ((-9), v_sums, v_below)
    else
      ob1 (fX7_in N x3 0 1) (fun r_5 =>
      if r_5 = 0 then
        some ((-9), v_sums, v_below)
      else
        if x2 ≤ (v_days - x1) then
          ob2 (fX7_findWorths N v_days v_low v_high v_sums v_below) (fun o_8_sums o_8_below =>
          if ((10 * x1) + x2) < 0 ∨ 100 ≤ ((10 * x1) + x2).toNatClampNeg then none else
          if x1 < 0 ∨ 10 ≤ x1.toNatClampNeg then none else
          ob1 (fX7_common N (o_8_sums ((10 * x1) + x2).toNatClampNeg) (o_8_below x1.toNatClampNeg)) (fun r_11 =>
          if x3 = 0 then
            if r_11 = 0 then none else
            some ((o_8_sums ((10 * x1) + x2).toNatClampNeg) / r_11, o_8_sums, o_8_below)
          else
            if r_11 = 0 then none else
            some ((o_8_below x1.toNatClampNeg) / r_11, o_8_sums, o_8_below)))
        else
          some ((-4), v_sums, v_below))))
def fX7_isCalled (N : Nat) (x1 : Int32) (x2 : Int32) (x3 : Int32) (v_days : Int32) (v_sums : Nat → Int64) (v_below : Nat → Int64) : Option (Int32) :=
  if x2 = 0 then
    some 0
  else
    if x2 ≤ ((v_days - x1) - 1) then
      if (x1 + 1) < 0 ∨ 10 ≤ (x1 + 1).toNatClampNeg then none else
      if (((10 * (x1 + 1)) + x2) - 1) < 0 ∨ 100 ≤ (((10 * (x1 + 1)) + x2) - 1).toNatClampNeg then none else
      if ((10 * (x1 + 1)) + x2) < 0 ∨ 100 ≤ ((10 * (x1 + 1)) + x2).toNatClampNeg then none else
      if (lg_cmp ((x3.toInt64 * (v_below (x1 + 1).toNatClampNeg)) + (v_sums (((10 * (x1 + 1)) + x2) - 1).toNatClampNeg)) (v_sums ((10 * (x1 + 1)) + x2).toNatClampNeg)) < 0 then
        some 0
      else
        some 1
    else
      some 1
def fX7_call (N : Nat) (x1 : Int32) (x2 : Int32) (x3 : Int32) (v_days : Int32) (v_low : Nat → Int32) (v_high : Nat → Int32) (v_sums : Nat → Int64) (v_below : Nat → Int64) : Option (Int32 × (Nat → Int64) × (Nat → Int64)) :=
  ob1 (fX7_isDay N x1 v_days) (fun r_1 =>
  if r_1 = 0 then
    some ((-1), v_sums, v_below)
  else
    ob1 (fX7_in N x2 0 9) (fun r_3 =>
    if r_3 = 0 then
      some ((-1), v_sums, v_below)
    else
      ob1 (fX7_in N x3 0 9) (fun r_5 =>
      if r_5 = 0 then
        some ((-1), v_sums, v_below)
      else
        if x2 ≤ (v_days - x1) then
          ob2 (fX7_findWorths N v_days v_low v_high v_sums v_below) (fun o_8_sums o_8_below =>
          ob1 (fX7_isCalled N x1 x2 x3 v_days o_8_sums o_8_below) (fun r_9 =>
          if r_9 = 0 then
            some (0, o_8_sums, o_8_below)
          else
            some (1, o_8_sums, o_8_below)))
        else
          some ((-4), v_sums, v_below))))
def fX7_run_L38 (N : Nat) (v_days : Int32) (v_was : Nat → Int32) (v_sums : Nat → Int64) (v_below : Nat → Int64) (k : Int32 → Int32 → Int32 → Int32 → Option (Int32 × (Nat → Int64) × (Nat → Int64))) : Nat → Int32 → Int32 → Int32 → Int32 → Option (Int32 × (Nat → Int64) × (Nat → Int64))
  | 0, _, _, _, _ => none
  | n + 1, x3, x4, x5, x6 =>
    if v_days ≤ x6 then
      k x3 x4 x5 x6
    else
      if x6 < 0 ∨ 9 ≤ x6.toNatClampNeg then none else
      if (v_was x6.toNatClampNeg) < 0 then
        k x3 x4 x5 x6
      else
        ob1 (fX7_isCalled N x6 x3 (v_was x6.toNatClampNeg) v_days v_sums v_below) (fun r_9 =>
        if r_9 = 0 then
          fX7_run_L38 N v_days v_was v_sums v_below k n x3 x4 x5 (x6 + 1)
        else
          fX7_run_L38 N v_days v_was v_sums v_below k n (x3 + (-1)) (x4 ||| (1 <<< (x6 &&& 31))) (x5 + (v_was x6.toNatClampNeg)) (x6 + 1))
def fX7_run (N : Nat) (x1 : Int32) (x2 : Int32) (v_days : Int32) (v_low : Nat → Int32) (v_high : Nat → Int32) (v_was : Nat → Int32) (v_sums : Nat → Int64) (v_below : Nat → Int64) : Option (Int32 × (Nat → Int64) × (Nat → Int64)) :=
  ob1 (fX7_in N x1 0 v_days) (fun r_1 =>
  if r_1 = 0 then
    some ((-1), v_sums, v_below)
  else
    ob1 (fX7_in N x2 0 2) (fun r_3 =>
    if r_3 = 0 then
      some ((-1), v_sums, v_below)
    else
      ob2 (fX7_findWorths N v_days v_low v_high v_sums v_below) (fun o_5_sums o_5_below =>
      fX7_run_L38 N v_days v_was o_5_sums o_5_below (fun (x3_11 : Int32) (x4_11 : Int32) (x5_11 : Int32) (x6_11 : Int32) =>
        if x2 = 0 then
        some (x4_11, o_5_sums, o_5_below)
      else
        if x2 = 1 then
          some (x5_11, o_5_sums, o_5_below)
        else
          some (x6_11, o_5_sums, o_5_below)) N x1 0 0 0)))
def fX7_known_L4 (N : Nat) (v_days : Int32) (v_was : Nat → Int32) : Nat → Int32 → Int32 → Option (Int32)
  | 0, _, _ => none
  | n + 1, x1, x2 =>
    if v_days ≤ x2 then
      some x1
    else
      if x2 < 0 ∨ 9 ≤ x2.toNatClampNeg then none else
      if (v_was x2.toNatClampNeg) < 0 then
        fX7_known_L4 N v_days v_was n (x1 + 0) (x2 + 1)
      else
        fX7_known_L4 N v_days v_was n (x1 + 1) (x2 + 1)
def fX7_known (N : Nat) (v_days : Int32) (v_was : Nat → Int32) : Option (Int32) :=
  fX7_known_L4 N v_days v_was N 0 0
def fX7_behind_L44 (N : Nat) (x4 : Int32) (v_days : Int32) (v_was : Nat → Int32) (k : Int32 → Int32 → Int32 → Option (Int32)) : Nat → Int32 → Int32 → Int32 → Option (Int32)
  | 0, _, _, _ => none
  | n + 1, x2, x3, x5 =>
    if v_days ≤ x5 then
      k x2 x3 x5
    else
      if x5 < 0 ∨ 9 ≤ x5.toNatClampNeg then none else
      if (v_was x5.toNatClampNeg) = x4 then
        if x3 ≤ 0 then
          fX7_behind_L44 N x4 v_days v_was k n x2 x3 (x5 + 1)
        else
          fX7_behind_L44 N x4 v_days v_was k n (x2 + x4) (x3 + (-1)) (x5 + 1)
      else
        fX7_behind_L44 N x4 v_days v_was k n x2 x3 (x5 + 1)
def fX7_behind_L36 (N : Nat) (v_days : Int32) (v_was : Nat → Int32) : Nat → Int32 → Int32 → Int32 → Option (Int32)
  | 0, _, _, _ => none
  | n + 1, x2, x3, x4 =>
    if x4 ≤ 0 then
      some x2
    else
      fX7_behind_L44 N x4 v_days v_was (fun (x2_10 : Int32) (x3_10 : Int32) (x5_10 : Int32) =>
        fX7_behind_L36 N v_days v_was n x2_10 x3_10 (x4 + (-1))) N x2 x3 0
def fX7_behind (N : Nat) (x1 : Int32) (v_days : Int32) (v_was : Nat → Int32) : Option (Int32) :=
  ob1 (fX7_in N x1 0 v_days) (fun r_1 =>
  if r_1 = 0 then
    some (-1)
  else
    ob1 (fX7_known N v_days v_was) (fun r_3 =>
    if v_days ≤ r_3 then
      fX7_behind_L36 N v_days v_was N 0 x1 9
    else
      some (-4)))
def fX7_many (N : Nat) (x1 : Int32) (v_riders : Int32) (v_rides : Int32) (v_lineMany : Int32) (v_pastMany : Int32) (v_days : Int32) (v_interfered : Nat → Int32) (v_was : Nat → Int32) : Option (Int32) :=
  if x1 = 0 then
    some v_riders
  else if x1 = 1 then
    some v_rides
  else if x1 = 2 then
    some v_lineMany
  else if x1 = 3 then
    some v_pastMany
  else if x1 = 4 then
    some v_days
  else if x1 = 5 then
    ob1 (fX7_known N v_days v_was) (fun r_7 =>
    some r_7)
  else if x1 = 6 then
    some ((((v_interfered (0 : Int32).toNatClampNeg) + (v_interfered (1 : Int32).toNatClampNeg)) + (v_interfered (2 : Int32).toNatClampNeg)) + (v_interfered (3 : Int32).toNatClampNeg))
  else some (-1)
