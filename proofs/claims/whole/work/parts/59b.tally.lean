/-! best and second best scores -/
def addB (b c : Nat → Int32) (r : Nat) (s : Int32) : Nat → Int32 := if s ≤ b r then b else upd b r s
def addC (b c : Nat → Int32) (r : Nat) (s : Int32) : Nat → Int32 := if s ≤ b r then (if s ≤ c r then c else upd c r s) else upd c r (b r)
theorem addScore_spec {N r : Nat} (h : r < 4) (s : Int32) (b c : Nat → Int32) : fX0_addScore N (nI r) s b c = some (addB b c r s, addC b c r s) := by
  unfold fX0_addScore addB addC fX0_setScores
  simp only [if_neg (bnd h (show 4 < 2 ^ 31 by omega))]
  rw [nI_clamp (by omega)]
  by_cases c1 : s ≤ b r
  · rw [if_pos c1, if_pos c1, if_pos c1]
    by_cases c2 : s ≤ c r
    · rw [if_pos c2, if_pos c2]
    · rw [if_neg c2, if_neg c2]
  · rw [if_neg c1, if_neg c1, if_neg c1, ob2_some]
theorem counts_spec {N r : Nat} (h : r < 4) (s : Int32) (b c : Nat → Int32) : fX7_counts N (nI r) s b c = some (addB b c r s, addC b c r s) := by
  unfold fX7_counts addB addC
  rw [if_neg (bnd h (by omega)), nI_clamp (by omega)]
  by_cases c1 : s ≤ b r
  · rw [if_pos c1, if_pos c1, if_pos c1]
    by_cases c2 : s ≤ c r
    · rw [if_pos c2, if_pos c2]
    · rw [if_neg c2, if_neg c2]
  · rw [if_neg c1, if_neg c1, if_neg c1]
def agr (n : Nat) (f g : Nat → Int32) : Prop := ∀ r, r < n → g r = f r
theorem agr_upd {n : Nat} {f g : Nat → Int32} (h : agr n f g) (r : Nat) (x : Int32) : agr n (upd f r x) (upd g r x) := fun q hq => by
  by_cases e : q = r
  · subst e; rw [pk_us, pk_us]
  · rw [pk_un e, pk_un e]; exact h q hq
theorem agr_add {n r : Nat} {b c b' c' : Nat → Int32} (hr : r < n) (hb : agr n b b') (hc : agr n c c') (s : Int32) : agr n (addB b c r s) (addB b' c' r s) ∧ agr n (addC b c r s) (addC b' c' r s) := by
  unfold addB addC
  rw [hb r hr, hc r hr]
  by_cases c1 : s ≤ b r
  · rw [if_pos c1, if_pos c1, if_pos c1, if_pos c1]
    by_cases c2 : s ≤ c r
    · rw [if_pos c2, if_pos c2]; exact ⟨hb, hc⟩
    · rw [if_neg c2, if_neg c2]; exact ⟨hb, agr_upd hc r s⟩
  · rw [if_neg c1, if_neg c1, if_neg c1, if_neg c1]; exact ⟨agr_upd hb r s, agr_upd hc r _⟩
theorem tally_joint {N n k : Nat} (hn : n ≤ 4) (hk : k ≤ 30) (ro ro' so marks : Nat → Int32) (h : ∀ i, i < k → ro' i = ro i ∧ ∃ r, r < n ∧ ro i = nI r) (hs : ∀ i, i < k → fX7_scoreOf N (nI i) marks = some (so i)) (K : Int32 → (Nat → Int32) → (Nat → Int32) → Option ((Nat → Int32) × (Nat → Int32) × (Nat → Int32))) : ∀ (m i fuel : Nat) (b c b' c' : Nat → Int32), i + m = k → m < fuel → agr n b b' → agr n c c' → ∃ d e d' e' : Nat → Int32, fX1_tally_L9 N (nI k) ro so fuel (nI i) b c = some (d, e) ∧ fX7_findBest_L6 N (nI k) ro' marks K fuel (nI i) b' c' = K (nI k) d' e' ∧ agr n d d' ∧ agr n e e'
  | 0, i, 0, _, _, _, _, e, hf, _, _ => absurd hf (by omega)
  | m + 1, i, 0, _, _, _, _, e, hf, _, _ => absurd hf (by omega)
  | 0, i, fuel + 1, b, c, b', c', e, hf, hb, hc => by
    obtain rfl : i = k := by omega
    exact ⟨b, c, b', c', by rw [fX1_tally_L9, if_pos (nI_le (Nat.le_refl i) (by omega))], by rw [fX7_findBest_L6, if_pos (nI_le (Nat.le_refl i) (by omega))], hb, hc⟩
  | m + 1, i, fuel + 1, b, c, b', c', e, hf, hb, hc => by
    obtain ⟨h1, r, hr, h2⟩ := h i (by omega)
    rw [fX1_tally_L9, if_neg (nI_ge (by omega) (by omega)), if_neg (bnd (by omega) (by omega)), nI_clamp (by omega), h2, addScore_spec (by omega), ob2_some, nI_1]
    rw [fX7_findBest_L6, if_neg (nI_ge (by omega) (by omega)), if_neg (bnd (by omega) (by omega)), hs i (by omega), ob1_some, nI_clamp (by omega), h1, h2, counts_spec (by omega), ob2_some, nI_1]
    obtain ⟨g1, g2⟩ := agr_add hr hb hc (so i)
    exact tally_joint hn hk ro ro' so marks h hs K m (i + 1) fuel _ _ _ _ (by omega) (by omega) g1 g2
