/-! need -/
theorem resB (b c : Nat → Int32) (r : Nat) (s : Int32) : upd (addB b c r s) r (b r) = b := funext fun q => by
  by_cases e : q = r
  · subst e; rw [pk_us]
  · rw [pk_un e]; unfold addB
    by_cases c1 : s ≤ b r
    · rw [if_pos c1]
    · rw [if_neg c1, pk_un e]
theorem resC (b c : Nat → Int32) (r : Nat) (s : Int32) : upd (addC b c r s) r (c r) = c := funext fun q => by
  by_cases e : q = r
  · subst e; rw [pk_us]
  · rw [pk_un e]; unfold addC
    by_cases c1 : s ≤ b r
    · rw [if_pos c1]
      by_cases c2 : s ≤ c r
      · rw [if_pos c2]
      · rw [if_neg c2, pk_un e]
    · rw [if_neg c1, pk_un e]
theorem need_joint {N n k j : Nat} (hN : 70000 ≤ N) (hn : n ≤ 4) (hk : k ≤ 30) (hj : j < n) (ro ro' so marks faults itf b c d e : Nat → Int32) (h : ∀ i, i < k → ro' i = ro i ∧ ∃ r, r < n ∧ ro i = nI r) (hs : ∀ i, i < k → fX7_scoreOf N (nI i) marks = some (so i)) (hf : ∀ r, r < 4 → itf r = faults r) (ht : fX1_tally N (nI k) ro so b c = some (d, e)) (K : Int32) :
    ∀ (m i fuel : Nat) (b' c' tot : Nat → Int32), i + m = 301 → m < fuel → ∃ (r : Int32) (d1 e1 d2 e2 t2 : Nat → Int32), fX1_leastScoreFor_L28 N (nI j) K (d j) (e j) (nI n) faults fuel (nI i) d e = some (r, d1, e1) ∧ fX7_needOf_L2 N (nI j) K (nI n) (nI k) ro' marks itf fuel (nI i) b' c' tot = some (r, d2, e2, t2) ∧ (r = -4 ∨ ∃ v, v ≤ 300 ∧ r = nI v)
  | 0, i, 0, _, _, _, e, hf => absurd hf (by omega)
  | m + 1, i, 0, _, _, _, e, hf => absurd hf (by omega)
  | 0, i, fuel + 1, b', c', tot, e0, hf => by
    have q : (300 : Int32) < nI i := nI_lt (a := 300) (by omega) (by omega)
    exact ⟨-4, d, e, b', c', tot, by rw [fX1_leastScoreFor_L28, if_pos q], by rw [fX7_needOf_L2, if_pos q], Or.inl rfl⟩
  | m + 1, i, fuel + 1, b', c', tot, e0, hfu => by
    have q : ¬ (300 : Int32) < nI i := nI_nlt (b := i) (a := 300) (by omega) (by omega)
    obtain ⟨d0, e0', d', e', t', g1, g2, g3, g4, g5⟩ := best_joint hN hn hk ro ro' so marks faults itf b c b' c' tot h hs hf
    have e1 : d0 = d ∧ e0' = e := by
      have := g1.symm.trans ht
      simpa using this
    obtain ⟨rfl, rfl⟩ := e1
    obtain ⟨a1, a2⟩ := agr_add hj g3 g4 (nI i)
    obtain ⟨t2, g9, -, g10⟩ := totals_spec (N := N) hn itf (addB d' e' j (nI i)) (addC d' e' j (nI i)) n 0 N t' (by omega) (by omega)
    obtain ⟨r, p1, p2⟩ := place_joint (N := N) hn hj (addB d0 e0' j (nI i)) (addC d0 e0' j (nI i)) faults (addB d' e' j (nI i)) t2 a1 (fun r hr => by
      rw [g10 r (by omega) hr]; unfold totS; rw [a1 r hr, a2 r hr, hf r (by omega)]) n 0 N 0 (by omega) (by omega)
    rw [fX1_leastScoreFor_L28, if_neg q, addScore_spec (by omega), ob2_some, show fX0_placeOf N (nI j) (nI n) (addB d0 e0' j (nI i)) (addC d0 e0' j (nI i)) faults = some r from p1, ob1_some]
    rw [fX7_needOf_L2, if_neg q, g2, ob3_some, counts_spec (by omega), ob2_some, show fX7_findTotals N (nI n) itf (addB d' e' j (nI i)) (addC d' e' j (nI i)) t' = some t2 from g9, ob1_some, show fX7_placeOf N (nI j) (nI n) (addB d' e' j (nI i)) t2 = some r from p2, ob1_some]
    by_cases cc : K < r
    · rw [if_pos cc, if_pos cc]
      unfold fX0_setScores
      rw [if_neg (bnd (i := j) (n := 4) (by omega) (by omega)), nI_clamp (by omega), ob2_some, resB, resC, nI_1]
      exact need_joint hN hn hk hj ro ro' so marks faults itf b c d0 e0' h hs hf ht K m (i + 1) fuel _ _ _ (by omega) (by omega)
    · rw [if_neg cc, if_neg cc]
      exact ⟨nI i, _, _, _, _, _, rfl, rfl, Or.inr ⟨i, by omega, rfl⟩⟩
theorem need_core {N n k j : Nat} (hN : 70000 ≤ N) (hn : n ≤ 4) (hk : k ≤ 30) (hj : j < n) (ro ro' so marks faults itf b c b' c' tot : Nat → Int32) (h : ∀ i, i < k → ro' i = ro i ∧ ∃ r, r < n ∧ ro i = nI r) (hs : ∀ i, i < k → fX7_scoreOf N (nI i) marks = some (so i)) (hf : ∀ r, r < 4 → itf r = faults r) (K : Int32) :
    ∃ (r : Int32) (d1 e1 d2 e2 t2 : Nat → Int32), fX1_leastScoreFor N (nI j) K (nI k) ro so (nI n) b c faults = some (r, d1, e1) ∧ fX7_needOf N (nI j) K (nI n) (nI k) ro' marks itf b' c' tot = some (r, d2, e2, t2) ∧ (r = -4 ∨ ∃ v, v ≤ 300 ∧ r = nI v) := by
  obtain ⟨d, e, d', e', t', g1, g2, g3, g4, g5⟩ := best_joint hN hn hk ro ro' so marks faults itf b c b' c' tot h hs hf
  obtain ⟨r, d1, e1, d2, e2, t2, x1, x2, x3⟩ := need_joint hN hn hk hj ro ro' so marks faults itf b c d e h hs hf g1 K 301 0 N b' c' tot (by omega) (by omega)
  refine ⟨r, d1, e1, d2, e2, t2, ?_, x2, x3⟩
  unfold fX1_leastScoreFor
  rw [g1, ob2_some, if_neg (bnd (i := j) (n := 4) (by omega) (by omega)), nI_clamp (by omega)]
  exact x1
theorem lt4 (x : Int32) : 3 < x ↔ ¬ x < 4 := by
  rw [Int32.lt_iff_toInt_lt, Int32.lt_iff_toInt_lt, show (3 : Int32).toInt = 3 by decide, show (4 : Int32).toInt = 4 by decide]
  omega
