theorem best_joint {N n k : Nat} (hN : 70000 ≤ N) (hn : n ≤ 4) (hk : k ≤ 30) (ro ro' so marks faults itf b c b' c' tot : Nat → Int32) (h : ∀ i, i < k → ro' i = ro i ∧ ∃ r, r < n ∧ ro i = nI r) (hs : ∀ i, i < k → fX7_scoreOf N (nI i) marks = some (so i)) (hf : ∀ r, r < 4 → itf r = faults r) :
    ∃ d e d' e' t' : Nat → Int32, fX1_tally N (nI k) ro so b c = some (d, e) ∧ fX7_findBest N (nI n) (nI k) ro' marks itf b' c' tot = some (d', e', t') ∧ agr n d d' ∧ agr n e e' ∧ ∀ r, r < n → t' r = totS d e faults r := by
  obtain ⟨d0, e0, g1, g2⟩ := clearX (N := N) 4 0 N b c (by omega) (by omega) (fun r hr => absurd hr (by omega))
  obtain ⟨d0', e0', g3, g4⟩ := clearM (N := N) hn n 0 N b' c' (by omega) (by omega) (fun r hr => absurd hr (by omega))
  obtain ⟨d, e, d', e', g5, g6, g7, g8⟩ := tally_joint (N := N) hn hk ro ro' so marks h hs (fun _ v2 v3 => ob1 (fX7_findTotals N (nI n) itf v2 v3 tot) (fun o => some (v2, v3, o))) k 0 N d0 e0 d0' e0' (by omega) (by omega) (fun r hr => by rw [(g4 r hr).1, (g2 r (by omega)).1]) (fun r hr => by rw [(g4 r hr).2, (g2 r (by omega)).2])
  obtain ⟨t', g9, -, g10⟩ := totals_spec (N := N) hn itf d' e' n 0 N tot (by omega) (by omega)
  refine ⟨d, e, d', e', t', ?_, ?_, g7, g8, fun r hr => ?_⟩
  · unfold fX1_tally
    rw [show fX0_clearScores N b c = some (d0, e0) from g1, ob2_some]
    exact g5
  · unfold fX7_findBest
    rw [show fX7_clearBest N (nI n) b' c' = some (d0', e0') from g3, ob2_some]
    refine Eq.trans g6 ?_
    show ob1 (fX7_findTotals N (nI n) itf d' e' tot) (fun o => some (d', e', o)) = _
    rw [show fX7_findTotals N (nI n) itf d' e' tot = some t' from g9, ob1_some]
  · rw [g10 r (by omega) hr]
    unfold totS
    rw [g7 r hr, g8 r hr, hf r (by omega)]
