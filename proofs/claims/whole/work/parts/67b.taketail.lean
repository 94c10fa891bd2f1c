theorem take_tail {N n k z j v p g w : Nat} (hN : 70000 ≤ N) (h1 : 2 ≤ n) (h2 : n ≤ 4) (hk : k < 30) (hz : z ≤ n) (hg : g < 16) (hw : w < 16) (hj : j < n) (hv : v < 100) (hp : p < z) {ro wo ma mo so row tu on bl fa ro' wo' ma' li itf st : Nat → Int32}
    (c1 : ∀ i, i < k → ro' i = ro i ∧ wo' i = wo i ∧ (∃ r, r < n ∧ ro i = nI r) ∧ (∃ v, v < 100 ∧ wo i = nI v))
    (c2 : ∀ i, i < k → ∀ j, j < 5 → ma' (5 * i + j) = ma (5 * i + j) ∧ (ma (5 * i + j) = -1 ∨ ∃ v, v ≤ 100 ∧ ma (5 * i + j) = nI v))
    (c3 : ∀ i, i < k → mo i = cntS (rowM ma i) ∧ so i = scoreS (rowM ma i))
    (c4 : ∀ i, i < z → li i = row i ∧ ∃ r, r < n ∧ row i = nI r) (c5 : ∀ i j, i < j → j < z → row i ≠ row j)
    (c6 : ∀ r, r < 4 → itf r = fa r) (c7 : ∀ r, n ≤ r → r < 4 → fa r = 0) (hrow : row p = nI j)
    (hs : ∀ r, r < n → st r = tu r) (ho : ∀ r, r < 4 → on r = bit4 g r) (hb : ∀ r, r < 4 → bl r = bit4 w r) (hh : ∀ r, n ≤ r → g.testBit r = false) :
    ∃ (g' w' : Nat) (M1 M2 row1 li1 on1 bl1 fa1 itf1 : Nat → Int32),
      (∀ K, fX1_addRide_L32 N (nI k) K N 0 ma = K (nI 5) M1) ∧ okM (rowM M1 k) ∧
      fX5_ride N (nI j) tu on bl fa = some (on1, bl1, fa1) ∧ fX2_leave N (nI j) (nI z) row = some (nI (z - 1), row1) ∧
      fX7_joins N (nI j) (nI n) (nI g) (nI w) itf st = some (nI g', nI w', itf1) ∧
      fX7_take_L94 N (nI z - 1) (fun (x4 : Int32) (l : Nat → Int32) => if nI k < 0 ∨ 30 ≤ (nI k).toNatClampNeg then none else fX7_take_L148 N (nI k) (nI z - 1) 1 (nI g') (nI w') (upd ro' (nI k).toNatClampNeg (nI j)) (upd wo' (nI k).toNatClampNeg (nI v)) l itf1 st N 0 ma') N (nI p) li = some (nI k, nI (k + 1), nI (z - 1), 1, nI g', nI w', upd ro' k (nI j), upd wo' k (nI v), M2, li1, itf1, st) ∧
      InvH (nI n) (nI (k + 1)) (upd ro k (nI j)) (upd wo k (nI v)) M1 (upd mo k (cntS (rowM M1 k))) (upd so k (scoreS (rowM M1 k))) (nI (z - 1)) row1 (nI v) tu on1 bl1 (nI n) fa1 (nI n) (nI (k + 1)) (nI (z - 1)) 1 (nI g') (nI w') (upd ro' k (nI j)) (upd wo' k (nI v)) M2 li1 itf1 st := by
  obtain ⟨z, rfl⟩ : ∃ z0, z = z0 + 1 := ⟨z - 1, by omega⟩
  have hne : ∀ q, q < z + 1 → q ≠ p → ¬ row q = nI j := fun q hq hqp e => by
    rcases Nat.lt_or_gt_of_ne hqp with c | c
    · exact c5 q p c hp (by rw [e, hrow])
    · exact c5 p q c hq (by rw [e, hrow])
  obtain ⟨M1, a1, a2, a3⟩ := marksX (N := N) hk 5 0 N ma (by omega) (by omega) (fun j hj => absurd hj (by omega))
  obtain ⟨g', w', on1, bl1, fa1, itf1, b1, b2, b3, b4, b5, b6, b7, b8⟩ := ride_joint hN h2 hg hw hj tu on bl fa itf st hs ho hb hh c6
  obtain ⟨row1, l1, l2⟩ := leaveA (N := N) (x := nI j) (by omega) hp row hrow hne p 0 N row (by omega) (by omega) (fun _ _ => rfl)
  obtain ⟨li1, s1, s2⟩ := shiftM (N := N) (p := p) (z := z) (by omega) li (fun (x4 : Int32) (l : Nat → Int32) => if nI k < 0 ∨ 30 ≤ (nI k).toNatClampNeg then none else fX7_take_L148 N (nI k) (nI z) 1 (nI g') (nI w') (upd ro' (nI k).toNatClampNeg (nI j)) (upd wo' (nI k).toNatClampNeg (nI v)) l itf1 st N 0 ma') (z - p) p N li (by omega) (by omega) (fun q hq => by unfold remP; rw [if_pos hq]) (fun _ _ _ => rfl) (Nat.le_refl p)
  obtain ⟨M2, m1, m2, m3⟩ := marksM (N := N) hk (nI z) 1 (nI g') (nI w') (upd ro' k (nI j)) (upd wo' k (nI v)) li1 itf1 st 5 0 N ma' (by omega) (by omega) (fun j hj => absurd hj (by omega))
  refine ⟨g', w', M1, M2, row1, li1, on1, bl1, fa1, itf1, a1, fun j hj => Or.inl (a2 j hj), b3, l1, b4, ?_, n, k + 1, z, g', w', h1, h2, by omega, by omega, b1, b2, rfl, rfl, rfl, rfl, rfl, rfl, rfl, rfl, rfl, fun i hi => ?_, fun i hi q hq => ?_, fun i hi => ?_, fun i hi => ?_, fun i q hi hq => ?_, b7, fun r h3 h4 => by rw [b8 r h3]; exact c7 r h3 h4, Or.inr ⟨v, k, hv, rfl, rfl, rfl, by rw [pk_us], hs, b5, b6⟩⟩
  · rw [nI_pred, Nat.add_sub_cancel]
    refine Eq.trans s1 ?_
    show (if nI k < 0 ∨ 30 ≤ (nI k).toNatClampNeg then none else fX7_take_L148 N (nI k) (nI z) 1 (nI g') (nI w') (upd ro' (nI k).toNatClampNeg (nI j)) (upd wo' (nI k).toNatClampNeg (nI v)) li1 itf1 st N 0 ma') = _
    rw [if_neg (bnd (by omega) (by omega)), nI_clamp (n := k) (by omega)]
    exact m1
  · by_cases c : i = k
    · subst c; rw [pk_us, pk_us, pk_us, pk_us]; exact ⟨rfl, rfl, ⟨j, hj, rfl⟩, ⟨v, hv, rfl⟩⟩
    · rw [pk_un c, pk_un c, pk_un c, pk_un c]; exact c1 i (by omega)
  · by_cases c : i = k
    · subst c; rw [a2 q hq, m2 q hq]; exact ⟨rfl, Or.inl rfl⟩
    · rw [a3 _ (by omega), m3 _ (by omega)]; exact c2 i (by omega) q hq
  · by_cases c : i = k
    · subst c; rw [pk_us, pk_us]; exact ⟨rfl, rfl⟩
    · rw [pk_un c, pk_un c, cntS_congr (f := ma) (g := M1) (fun q hq => a3 _ (by omega)), scoreS_congr (f := ma) (g := M1) (fun q hq => a3 _ (by omega))]; exact c3 i (by omega)
  · rw [s2 i hi, l2 i (by omega)]
    unfold remP
    by_cases c : i < p
    · rw [if_pos c, if_pos c]; exact c4 i (by omega)
    · rw [if_neg c, if_neg c]; exact c4 (i + 1) (by omega)
  · rw [l2 i (by omega), l2 q (by omega)]
    unfold remP
    by_cases c : i < p
    · rw [if_pos c]
      by_cases c' : q < p
      · rw [if_pos c']; exact c5 i q hi (by omega)
      · rw [if_neg c']; exact c5 i (q + 1) (by omega) (by omega)
    · rw [if_neg c, if_neg (show ¬ q < p by omega)]; exact c5 (i + 1) (q + 1) (by omega) (by omega)
