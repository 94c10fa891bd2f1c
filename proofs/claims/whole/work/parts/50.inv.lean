/-! what ties the class and the reference together -/
/-- of the first marks of a ride: how many, their sum, the least, the greatest -/
def scAcc (a : Nat → Int32) : Nat → Int32 × Int32 × Int32 × Int32
  | 0 => (0, 0, 101, -1)
  | j + 1 => if 0 ≤ a j then ((scAcc a j).1 + 1, (scAcc a j).2.1 + a j, (if a j < (scAcc a j).2.2.1 then a j else (scAcc a j).2.2.1), (if (scAcc a j).2.2.2 < a j then a j else (scAcc a j).2.2.2)) else scAcc a j
def cntS (a : Nat → Int32) : Int32 := (scAcc a 5).1
def scoreS (a : Nat → Int32) : Int32 :=
  if 3 < (scAcc a 5).1 then 3 * ((scAcc a 5).2.1 - (scAcc a 5).2.2.1 - (scAcc a 5).2.2.2) / ((scAcc a 5).1 - 2)
  else if (scAcc a 5).1 = 0 then 0 else 3 * (scAcc a 5).2.1 / (scAcc a 5).1
def rowM (marks : Nat → Int32) (k : Nat) : Nat → Int32 := fun j => marks (5 * k + j)
def InvH (riders rides : Int32) (riderOf waveOf marks marksOf scoreOf : Nat → Int32) (lsize : Int32) (row : Nat → Int32) (num : Int32) (turn onIt blamed : Nat → Int32) (briders : Int32) (faults : Nat → Int32)
    (riders' rides' lineMany' isOpen' group' wrong' : Int32) (riderOf' waveOf' marks' line' interfered' stood' : Nat → Int32) : Prop :=
  ∃ n k z g w : Nat, 2 ≤ n ∧ n ≤ 4 ∧ k ≤ 30 ∧ z ≤ n ∧ g < 16 ∧ w < 16 ∧
    riders = nI n ∧ riders' = nI n ∧ briders = nI n ∧ rides = nI k ∧ rides' = nI k ∧ lsize = nI z ∧ lineMany' = nI z ∧ group' = nI g ∧ wrong' = nI w ∧
    (∀ i, i < k → riderOf' i = riderOf i ∧ waveOf' i = waveOf i ∧ (∃ r, r < n ∧ riderOf i = nI r) ∧ (∃ v, v < 100 ∧ waveOf i = nI v)) ∧
    (∀ i, i < k → ∀ j, j < 5 → marks' (5 * i + j) = marks (5 * i + j) ∧ (marks (5 * i + j) = -1 ∨ ∃ v, v ≤ 100 ∧ marks (5 * i + j) = nI v)) ∧
    (∀ i, i < k → marksOf i = cntS (rowM marks i) ∧ scoreOf i = scoreS (rowM marks i)) ∧
    (∀ i, i < z → line' i = row i ∧ ∃ r, r < n ∧ row i = nI r) ∧
    (∀ i j, i < j → j < z → row i ≠ row j) ∧
    (∀ r, r < 4 → interfered' r = faults r) ∧ (∀ r, n ≤ r → r < 4 → faults r = 0) ∧
    ((num = -1 ∧ isOpen' = 0) ∨
      (∃ v k', v < 100 ∧ k = k' + 1 ∧ num = nI v ∧ isOpen' = 1 ∧ waveOf k' = nI v ∧ (∀ r, r < n → stood' r = turn r) ∧
        (∀ r, r < 4 → onIt r = (if g.testBit r then 1 else 0) ∧ blamed r = (if w.testBit r then 1 else 0)) ∧ (∀ r, n ≤ r → g.testBit r = false)))
def InvP (size : Int32) (scores : Nat → Int32) (size' : Int32) (scores' : Nat → Int32) : Prop :=
  ∃ p : Nat, p ≤ 40 ∧ size = nI p ∧ size' = nI p ∧ ∀ i, i < p → scores' i = scores i
/-- f a + .. + f (a + m - 1) -/
def sumQ (f : Nat → Nat) (a : Nat) : Nat → Nat
  | 0 => 0
  | m + 1 => sumQ f a m + f (a + m)
/-- the product of the widths of the last t days of d -/
def wB (lo hi : Nat → Nat) (d : Nat) : Nat → Nat
  | 0 => 1
  | t + 1 => (hi (d - (t + 1)) + 1 - lo (d - (t + 1))) * wB lo hi d t
/-- WORTH of the last t days of d with r left, over wB -/
def wA (lo hi : Nat → Nat) (d : Nat) : Nat → Nat → Nat
  | 0, _ => 0
  | t + 1, r => sumQ (fun q => if r = 0 then wA lo hi d t 0 else if t < r then q * wB lo hi d t + wA lo hi d t (r - 1) else max (q * wB lo hi d t + wA lo hi d t (r - 1)) (wA lo hi d t r)) (lo (d - (t + 1))) (hi (d - (t + 1)) + 1 - lo (d - (t + 1)))
def InvW (days : Int32) (lo hi known : Nat → Int32) (above : Nat → Nat → Int64) (below : Nat → Int64) (days' : Int32) (lo' hi' was' : Nat → Int32) : Prop :=
  ∃ (d : Nat) (a b : Nat → Nat), 1 ≤ d ∧ d ≤ 9 ∧ days = nI d ∧ days' = nI d ∧
    (∀ i, i < d → lo i = nI (a i) ∧ hi i = nI (b i) ∧ lo' i = nI (a i) ∧ hi' i = nI (b i) ∧ a i ≤ b i ∧ b i ≤ 9 ∧ was' i = known i ∧ (known i = -1 ∨ ∃ q, a i ≤ q ∧ q ≤ b i ∧ known i = nI q)) ∧
    (∀ t, t ≤ d → below (d - t) = lN (wB a b d t) ∧ ∀ r, r ≤ t → above (d - t) r = lN (wA a b d t r))
def Inv (v_x_heat_riders : Int32) (v_x_heat_rides : Int32) (v_x_heat_riderOf : Nat → Int32) (v_x_heat_waveOf : Nat → Int32) (v_x_heat_marks : Nat → Int32) (v_x_heat_marksOf : Nat → Int32) (v_x_heat_scoreOf : Nat → Int32) (v_x_heat_toGive : Nat → Int32) (v_x_heat_line_size : Int32) (v_x_heat_line_row : Nat → Int32) (v_x_heat_wave_number : Int32) (v_x_heat_wave_turn : Nat → Int32) (v_x_heat_wave_onIt : Nat → Int32) (v_x_heat_wave_blamed : Nat → Int32) (v_x_heat_board_riders : Int32) (v_x_heat_board_best : Nat → Int32) (v_x_heat_board_second : Nat → Int32) (v_x_heat_board_faults : Nat → Int32) (v_x_past_size : Int32) (v_x_past_scores : Nat → Int32) (v_x_wait_days : Int32) (v_x_wait_from : Nat → Int32) (v_x_wait_to : Nat → Int32) (v_x_wait_known : Nat → Int32) (v_x_wait_above : Nat → Nat → Int64) (v_x_wait_below : Nat → Int64) (v_m_riders : Int32) (v_m_rides : Int32) (v_m_lineMany : Int32) (v_m_isOpen : Int32) (v_m_group : Int32) (v_m_wrong : Int32) (v_m_pastMany : Int32) (v_m_days : Int32) (v_m_riderOf : Nat → Int32) (v_m_waveOf : Nat → Int32) (v_m_marks : Nat → Int32) (v_m_line : Nat → Int32) (v_m_interfered : Nat → Int32) (v_m_stood : Nat → Int32) (v_m_past : Nat → Int32) (v_m_low : Nat → Int32) (v_m_high : Nat → Int32) (v_m_was : Nat → Int32) (v_m_best : Nat → Int32) (v_m_second : Nat → Int32) (v_m_total : Nat → Int32) (v_m_givenTo : Nat → Int32) (v_m_has : Nat → Int32) (v_m_own : Nat → Int32) (v_m_sums : Nat → Int64) (v_m_below : Nat → Int64) : Prop :=
  InvH v_x_heat_riders v_x_heat_rides v_x_heat_riderOf v_x_heat_waveOf v_x_heat_marks v_x_heat_marksOf v_x_heat_scoreOf v_x_heat_line_size v_x_heat_line_row v_x_heat_wave_number v_x_heat_wave_turn v_x_heat_wave_onIt v_x_heat_wave_blamed v_x_heat_board_riders v_x_heat_board_faults v_m_riders v_m_rides v_m_lineMany v_m_isOpen v_m_group v_m_wrong v_m_riderOf v_m_waveOf v_m_marks v_m_line v_m_interfered v_m_stood ∧ InvP v_x_past_size v_x_past_scores v_m_pastMany v_m_past ∧ InvW v_x_wait_days v_x_wait_from v_x_wait_to v_x_wait_known v_x_wait_above v_x_wait_below v_m_days v_m_low v_m_high v_m_was
