/-! past, forget, line, letGo -/
theorem nI_ne_m1 {v : Nat} (h : v < 2 ^ 31) : ¬ nI v = -1 := fun e => by
  have h1 := congrArg Int32.toInt e
  rw [nI_toInt h, show (-1 : Int32).toInt = -1 by decide] at h1
  omega
theorem nI_lit (n : Nat) : (OfNat.ofNat n : Int32) = nI n := rfl
theorem forget_ok {N : Nat} {s : Int32} {sc : Nat → Int32} {s' : Int32} {sc' : Nat → Int32} (hP : InvP s sc s' sc') :
    ∃ (r o p : Int32), fX6_forget N s = some (r, o) ∧ fX7_forget N s' = some (r, p) ∧ InvP o sc p sc' := by
  obtain ⟨p, h1, h2, h3, h4⟩ := hP
  refine ⟨nI p, 0, 0, ?_, ?_, 0, by omega, rfl, rfl, fun i h => absurd h (Nat.not_lt_zero i)⟩
  · rw [h2]; rfl
  · rw [h3]; rfl
theorem add_spec {N p : Nat} (x : Int32) (sc : Nat → Int32) (hp : p < 40) : fX3_add N x (nI p) sc = some (nI (p + 1), upd sc p x) := by
  unfold fX3_add
  rw [if_neg (show ¬ (40 : Int32) ≤ nI p from nI_ge (b := 40) hp (by omega)), if_neg (bnd hp (by omega)), nI_clamp (by omega), nI_1]
theorem past_ok {N : Nat} {s : Int32} {sc : Nat → Int32} {s' : Int32} {sc' : Nat → Int32} (hP : InvP s sc s' sc') (a : Int32) :
    ∃ (r o1 : Int32) (o2 : Nat → Int32) (p1 : Int32) (p2 : Nat → Int32), fX6_past N a s sc = some (r, o1, o2) ∧ fX7_past N a s' sc' = some (r, p1, p2) ∧ InvP o1 o2 p1 p2 := by
  have hP0 := hP
  obtain ⟨p, h1, h2, h3, h4⟩ := hP
  unfold fX6_past fX7_past
  rw [in_spec, ob1_some]
  by_cases c1 : a < 0
  · refine ⟨-1, s, sc, s', sc', ?_, ?_, hP0⟩
    · rw [if_pos c1]
    · rw [if_pos (show a < 0 ∨ 300 < a from Or.inl c1)]; rfl
  · by_cases c2 : a ≤ 300
    · have c3 : ¬ (a < 0 ∨ 300 < a) := by
        rintro (h | h)
        · exact c1 h
        · rw [Int32.le_iff_toInt_le] at c2; rw [Int32.lt_iff_toInt_lt] at h; omega
      by_cases c4 : p < 40
      · refine ⟨nI (p + 1), nI (p + 1), upd sc p a, nI (p + 1), upd sc' p a, ?_, ?_, p + 1, by omega, rfl, rfl, fun i hi => ?_⟩
        · rw [if_neg c1, if_pos c2, h2, if_pos (show nI p < 40 from nI_lt (b := 40) c4 (by omega)), add_spec a sc c4]
          rfl
        · rw [if_neg c3, h3]
          rw [if_neg (show ¬ (1 : Int32) = 0 by decide), if_neg (show ¬ nI p = 40 from fun e => by have := (nI_eq (a := p) (b := 40) (by omega) (by omega)).mp e; omega), if_neg (bnd c4 (by omega)), nI_clamp (by omega), nI_1]
        · by_cases e : i = p
          · subst e; rw [pk_us, pk_us]
          · rw [pk_un e, pk_un e]; exact h4 i (by omega)
      · have e40 : p = 40 := by omega
        refine ⟨-2, s, sc, s', sc', ?_, ?_, hP0⟩
        · rw [if_neg c1, if_pos c2, h2, e40, if_neg (show ¬ nI 40 < 40 by decide)]
        · rw [if_neg c3, if_neg (show ¬ (1 : Int32) = 0 by decide), h3, e40, if_pos (show nI 40 = 40 from rfl)]
    · refine ⟨-1, s, sc, s', sc', ?_, ?_, hP0⟩
      · rw [if_neg c1, if_neg c2]
      · have c3 : a < 0 ∨ 300 < a := Or.inr (by rw [Int32.lt_iff_toInt_lt]; rw [Int32.le_iff_toInt_le] at c2; omega)
        rw [if_pos c3]; rfl
theorem line_core {N n z : Nat} {row line : Nat → Int32} (hz : z ≤ 4) (h : ∀ i, i < z → line i = row i) (a : Int32) :
    ∃ r : Int32, fX6_line N a (nI z) row = some r ∧ fX7_line N a (nI z) line = some r := by
  unfold fX6_line fX7_line
  have e : fX7_in N a 0 (nI z - 1) = some (if a < 0 ∨ nI z ≤ a then 0 else 1) := by
    rcases Nat.eq_zero_or_pos z with rfl | hp
    · exact in_pred0 N a
    · exact in_pred N a hp (by omega)
  rw [e, ob1_some]
  by_cases c : a < 0 ∨ nI z ≤ a
  · refine ⟨-4, ?_, ?_⟩
    · by_cases c1 : a < 0
      · rw [if_pos c1]
      · rw [if_neg c1, if_neg]
        intro h1
        rcases c with c | c
        · exact c1 c
        · rw [Int32.le_iff_toInt_le] at c; rw [Int32.lt_iff_toInt_lt] at h1; omega
    · rw [if_pos c]; rfl
  · obtain ⟨j, hj, rfl⟩ := inside (by omega) c
    refine ⟨row j, ?_, ?_⟩
    · rw [if_neg (nI_pos (by omega)), if_pos (nI_lt hj (by omega)), if_neg (bnd (by omega) (by omega)), nI_clamp (by omega)]
    · rw [if_neg c, if_neg (show ¬ (1 : Int32) = 0 by decide), if_neg (bnd (by omega) (by omega)), nI_clamp (by omega), h j hj]
theorem allFaults_spec {N : Nat} (n : Nat) (hn : n ≤ 4) (f : Nat → Int32) : ∀ (m i fuel : Nat) (acc : Int32), i + m = n → m < fuel → fX0_allFaults_L4 N (nI n) f fuel acc (nI i) = some (acc + l_sum (fun j => f (i + j)) m)
  | 0, i, 0, acc, e, hf => absurd hf (by omega)
  | m + 1, i, 0, acc, e, hf => absurd hf (by omega)
  | 0, i, fuel + 1, acc, e, hf => by
    rw [fX0_allFaults_L4, if_pos (nI_le (by omega) (by omega))]
    simp [l_sum]
  | m + 1, i, fuel + 1, acc, e, hf => by
    rw [fX0_allFaults_L4, if_neg (nI_ge (by omega) (by omega)), if_neg (bnd (by omega) (by omega)), nI_clamp (by omega), nI_1, allFaults_spec n hn f m (i + 1) fuel _ (by omega) (by omega)]
    congr 1
    have : ∀ k, f i + l_sum (fun j => f (i + 1 + j)) k = l_sum (fun j => f (i + j)) (k + 1) := by
      intro k
      induction k with
      | zero => simp [l_sum]
      | succ k ih =>
        rw [l_sum, ← Int32.add_assoc, ih, show i + 1 + k = i + (k + 1) by omega]
        rfl
    rw [Int32.add_assoc, this]
theorem known_spec {N : Nat} (d : Nat) (hd : d ≤ 9) (f g : Nat → Int32) (h : ∀ i, i < d → g i = f i ∧ (f i = -1 ∨ ∃ q, q < 2 ^ 31 ∧ f i = nI q)) : ∀ (m i fuel : Nat) (acc : Int32), i + m = d → m < fuel → ∃ r, fX4_countKnown_L4 N (nI d) f fuel acc (nI i) = some r ∧ fX7_known_L4 N (nI d) g fuel acc (nI i) = some r
  | 0, i, 0, acc, e, hf => absurd hf (by omega)
  | m + 1, i, 0, acc, e, hf => absurd hf (by omega)
  | 0, i, fuel + 1, acc, e, hf => ⟨acc, by rw [fX4_countKnown_L4, if_pos (nI_le (by omega) (by omega))], by rw [fX7_known_L4, if_pos (nI_le (by omega) (by omega))]⟩
  | m + 1, i, fuel + 1, acc, e, hf => by
    obtain ⟨h1, h2⟩ := h i (by omega)
    rw [fX4_countKnown_L4, if_neg (nI_ge (by omega) (by omega)), if_neg (bnd (by omega) (by omega)), nI_clamp (by omega), nI_1]
    rw [fX7_known_L4, if_neg (nI_ge (by omega) (by omega)), if_neg (bnd (by omega) (by omega)), nI_clamp (by omega), nI_1, h1]
    rcases h2 with h2 | ⟨q, hq, h2⟩
    · rw [h2, if_pos rfl, if_pos (show (-1 : Int32) < 0 by decide), Int32.add_zero]
      exact known_spec d hd f g h m (i + 1) fuel acc (by omega) (by omega)
    · rw [h2, if_neg (nI_ne_m1 hq), if_neg (nI_pos hq)]
      exact known_spec d hd f g h m (i + 1) fuel (acc + 1) (by omega) (by omega)
