/-! told -/
theorem clearX {N : Nat} : ∀ (m i fuel : Nat) (b c : Nat → Int32), i + m = 4 → m < fuel → (∀ r, r < i → b r = 0 ∧ c r = 0) → ∃ d e : Nat → Int32, fX0_clearScores_L2 N fuel (nI i) b c = some (d, e) ∧ ∀ r, r < 4 → d r = 0 ∧ e r = 0
  | 0, i, 0, _, _, e, hf, _ => absurd hf (by omega)
  | m + 1, i, 0, _, _, e, hf, _ => absurd hf (by omega)
  | 0, i, fuel + 1, b, c, e, hf, h => ⟨b, c, by rw [fX0_clearScores_L2, if_pos (show (4 : Int32) ≤ nI i from nI_le (a := 4) (by omega) (by omega))], fun r hr => h r (by omega)⟩
  | m + 1, i, fuel + 1, b, c, e, hf, h => by
    rw [fX0_clearScores_L2, if_neg (show ¬ (4 : Int32) ≤ nI i from nI_ge (b := 4) (by omega) (by omega))]
    unfold fX0_setScores
    rw [if_neg (bnd (by omega) (by omega)), nI_clamp (by omega), ob2_some, nI_1]
    refine clearX m (i + 1) fuel _ _ (by omega) (by omega) (fun r hr => ?_)
    by_cases q : r = i
    · subst q; rw [pk_us, pk_us]; exact ⟨rfl, rfl⟩
    · rw [pk_un q, pk_un q]; exact h r (by omega)
theorem clearM {N n : Nat} (hn : n ≤ 4) : ∀ (m i fuel : Nat) (b c : Nat → Int32), i + m = n → m < fuel → (∀ r, r < i → b r = 0 ∧ c r = 0) → ∃ d e : Nat → Int32, fX7_clearBest_L2 N (nI n) fuel (nI i) b c = some (d, e) ∧ ∀ r, r < n → d r = 0 ∧ e r = 0
  | 0, i, 0, _, _, e, hf, _ => absurd hf (by omega)
  | m + 1, i, 0, _, _, e, hf, _ => absurd hf (by omega)
  | 0, i, fuel + 1, b, c, e, hf, h => ⟨b, c, by rw [fX7_clearBest_L2, if_pos (nI_le (by omega) (by omega))], fun r hr => h r (by omega)⟩
  | m + 1, i, fuel + 1, b, c, e, hf, h => by
    rw [fX7_clearBest_L2, if_neg (nI_ge (by omega) (by omega)), if_neg (bnd (by omega) (by omega)), nI_clamp (by omega), nI_1]
    refine clearM hn m (i + 1) fuel _ _ (by omega) (by omega) (fun r hr => ?_)
    by_cases q : r = i
    · subst q; rw [pk_us, pk_us]; exact ⟨rfl, rfl⟩
    · rw [pk_un q, pk_un q]; exact h r (by omega)
theorem rides_joint {N k : Nat} (hk : k ≤ 30) (x : Int32) (ro ro' : Nat → Int32) (h : ∀ i, i < k → ro' i = ro i) : ∀ (m i fuel : Nat) (a : Int32), i + m = k → m < fuel → ∃ r, fX1_ridesBy_L4 N x (nI k) ro fuel a (nI i) = some r ∧ fX7_ridesOf_L4 N x (nI k) ro' fuel a (nI i) = some r
  | 0, i, 0, _, e, hf => absurd hf (by omega)
  | m + 1, i, 0, _, e, hf => absurd hf (by omega)
  | 0, i, fuel + 1, a, e, hf => ⟨a, by rw [fX1_ridesBy_L4, if_pos (nI_le (by omega) (by omega))], by rw [fX7_ridesOf_L4, if_pos (nI_le (by omega) (by omega))]⟩
  | m + 1, i, fuel + 1, a, e, hf => by
    rw [fX1_ridesBy_L4, if_neg (nI_ge (by omega) (by omega)), if_neg (bnd (by omega) (by omega)), nI_clamp (by omega), nI_1]
    rw [fX7_ridesOf_L4, if_neg (nI_ge (by omega) (by omega)), if_neg (bnd (by omega) (by omega)), nI_clamp (by omega), nI_1, h i (by omega), Int32.add_zero]
    by_cases q : ro i = x
    · rw [if_pos q, if_pos q]; exact rides_joint hk x ro ro' h m (i + 1) fuel (a + 1) (by omega) (by omega)
    · rw [if_neg q, if_neg q]; exact rides_joint hk x ro ro' h m (i + 1) fuel a (by omega) (by omega)
