/-! take: the wave's riders, the line -/
def bit4 (g r : Nat) : Int32 := if g.testBit r then 1 else 0
theorem bit4_0 {g r : Nat} : bit4 g r = 0 ↔ ¬ g.testBit r = true := by
  unfold bit4
  by_cases q : g.testBit r = true
  · rw [if_pos q]; exact ⟨fun h => absurd h (by decide), fun h => absurd q h⟩
  · rw [if_neg q]; exact ⟨fun _ => q, fun _ => rfl⟩
theorem bndN {i n : Nat} (h : i < n) (hn : n < 2 ^ 31) : ¬ (nI i < 0 ∨ n ≤ i) := fun q => q.elim (nI_pos (by omega)) (by omega)
theorem nar0 : vp_nar .boolean 0 = 0 := by decide +kernel
theorem nar1 : vp_nar .boolean 1 = 1 := by decide +kernel
theorem tail12 {N n : Nat} (turn on : Nat → Int32) (h : ∀ r, n ≤ r → r < 4 → on r = 0) (K : Int32 → Int32 → Option ((Nat → Int32) × (Nat → Int32) × (Nat → Int32))) (x : Int32) : ∀ (m i fuel : Nat), i + m = 4 → m < fuel → n ≤ i → fX5_ride_L12 N turn on K fuel x (nI i) = K x (nI 4)
  | 0, i, 0, e, hf, hi => absurd hf (by omega)
  | m + 1, i, 0, e, hf, hi => absurd hf (by omega)
  | 0, i, fuel + 1, e, hf, hi => by
    rw [fX5_ride_L12, show i = 4 by omega, if_pos (show (4 : Int32) ≤ nI 4 by decide)]
  | m + 1, i, fuel + 1, e, hf, hi => by
    rw [fX5_ride_L12, if_neg (show ¬ (4 : Int32) ≤ nI i from nI_ge (b := 4) (by omega) (by omega)), if_neg (bnd (by omega) (by omega)), nI_clamp (by omega), if_pos (h i hi (by omega)), nI_1]
    exact tail12 turn on h K x m (i + 1) fuel (by omega) (by omega) (by omega)
theorem joint12 {N n g : Nat} (hn : n ≤ 4) (hg : g < 16) (turn on stood : Nat → Int32) (hs : ∀ r, r < n → stood r = turn r) (ho : ∀ r, r < 4 → on r = bit4 g r) (hh : ∀ r, n ≤ r → g.testBit r = false) (K : Int32 → Int32 → Option ((Nat → Int32) × (Nat → Int32) × (Nat → Int32))) (K' : Int32 → Int32 → Option (Int32 × Int32 × (Nat → Int32))) :
    ∀ (m i f fuel : Nat), i + m = 4 → m < fuel → i ≤ n → f < n → ∃ f', f' < n ∧ fX5_ride_L12 N turn on K fuel (nI f) (nI i) = K (nI f') (nI 4) ∧ fX7_joins_L16 N (nI n) (nI g) stood K' fuel (nI f) (nI i) = K' (nI f') (nI n)
  | m, i, f, 0, e, hf, h1, h2 => absurd hf (by omega)
  | 0, i, f, fuel + 1, e, hf, h1, h2 => by
    refine ⟨f, h2, ?_, ?_⟩
    · rw [fX5_ride_L12, show i = 4 by omega, if_pos (show (4 : Int32) ≤ nI 4 by decide)]
    · rw [fX7_joins_L16, if_pos (nI_le (by omega) (by omega)), show i = n by omega]
  | m + 1, i, f, fuel + 1, e, hf, h1, h2 => by
    by_cases q : i = n
    · refine ⟨f, h2, tail12 (n := n) turn on (fun r h3 h4 => by rw [ho r h4]; exact bit4_0.mpr (by rw [hh r h3]; decide)) K (nI f) (m + 1) i (fuel + 1) e hf (by omega), ?_⟩
      rw [fX7_joins_L16, if_pos (nI_le (by omega) (by omega)), q]
    · have ih := fun f0 h => joint12 (N := N) hn hg turn on stood hs ho hh K K' m (i + 1) f0 fuel (by omega) (by omega) (by omega) h
      rw [fX5_ride_L12, if_neg (show ¬ (4 : Int32) ≤ nI i from nI_ge (b := 4) (by omega) (by omega)), if_neg (bnd (by omega) (by omega)), nI_clamp (n := i) (by omega), if_neg (bnd (i := f) (by omega) (by omega)), nI_clamp (n := f) (by omega), nI_1, ho i (by omega)]
      rw [fX7_joins_L16, if_neg (nI_ge (by omega) (by omega)), if_neg (bnd (i := i) (by omega) (by omega)), if_neg (bnd (i := f) (by omega) (by omega)), nI_clamp (n := i) (by omega), nI_clamp (n := f) (by omega), nI_1, hs i (by omega), hs f h2]
      by_cases b : g.testBit i = true
      · rw [if_neg (fun h => bit4_0.mp h b), if_pos ((tst1 (by omega) (by omega)).mpr b)]
        by_cases c : turn f ≤ turn i
        · rw [if_pos c, if_pos c]; exact ih f h2
        · rw [if_neg c, if_neg c]; exact ih i (by omega)
      · rw [if_pos (bit4_0.mpr b), if_neg (fun h => b ((tst1 (by omega) (by omega)).mp h))]
        exact ih f h2
theorem tail56 {N n : Nat} (on : Nat → Int32) (h : ∀ r, n ≤ r → r < 4 → on r = 0) (x : Int32) (bl fa : Nat → Int32) : ∀ (m i fuel : Nat), i + m = 4 → m < fuel → n ≤ i → fX5_ride_L56 N x on fuel (nI i) bl fa = some (on, bl, fa)
  | 0, i, 0, e, hf, hi => absurd hf (by omega)
  | m + 1, i, 0, e, hf, hi => absurd hf (by omega)
  | 0, i, fuel + 1, e, hf, hi => by
    rw [fX5_ride_L56, show i = 4 by omega, if_pos (show (4 : Int32) ≤ nI 4 by decide)]
  | m + 1, i, fuel + 1, e, hf, hi => by
    rw [fX5_ride_L56, if_neg (show ¬ (4 : Int32) ≤ nI i from nI_ge (b := 4) (by omega) (by omega)), if_neg (bnd (by omega) (by omega)), nI_clamp (by omega), if_pos (h i hi (by omega)), nI_1]
    exact tail56 on h x bl fa m (i + 1) fuel (by omega) (by omega) (by omega)
theorem joint56 {N n g : Nat} (hn : n ≤ 4) (hg : g < 16) (on : Nat → Int32) (ho : ∀ r, r < 4 → on r = bit4 g r) (hh : ∀ r, n ≤ r → g.testBit r = false) (x : Int32) :
    ∀ (m i w fuel : Nat) (bl fa itf : Nat → Int32), i + m = 4 → m < fuel → i ≤ n → w < 16 → (∀ r, r < 4 → bl r = bit4 w r) → (∀ r, r < 4 → itf r = fa r) → ∃ (w' : Nat) (bl' fa' itf' : Nat → Int32), w' < 16 ∧ fX5_ride_L56 N x on fuel (nI i) bl fa = some (on, bl', fa') ∧ fX7_joins_L65 N x (nI n) (nI g) fuel (nI i) (nI w) itf = some (nI g, nI w', itf') ∧ (∀ r, r < 4 → bl' r = bit4 w' r) ∧ (∀ r, r < 4 → itf' r = fa' r) ∧ (∀ r, n ≤ r → fa' r = fa r)
  | m, i, w, 0, _, _, _, e, hf, _, _, _, _ => absurd hf (by omega)
  | 0, i, w, fuel + 1, bl, fa, itf, e, hf, h1, h2, h3, h4 => by
    refine ⟨w, bl, fa, itf, h2, ?_, ?_, h3, h4, fun _ _ => rfl⟩
    · rw [fX5_ride_L56, show i = 4 by omega, if_pos (show (4 : Int32) ≤ nI 4 by decide)]
    · rw [fX7_joins_L65, if_pos (nI_le (by omega) (by omega))]
  | m + 1, i, w, fuel + 1, bl, fa, itf, e, hf, h1, h2, h3, h4 => by
    by_cases q : i = n
    · refine ⟨w, bl, fa, itf, h2, tail56 (n := n) on (fun r h3 h4 => by rw [ho r h4]; exact bit4_0.mpr (by rw [hh r h3]; decide)) x bl fa (m + 1) i (fuel + 1) e hf (by omega), ?_, h3, h4, fun _ _ => rfl⟩
      rw [fX7_joins_L65, if_pos (nI_le (by omega) (by omega))]
    · rw [fX5_ride_L56, if_neg (show ¬ (4 : Int32) ≤ nI i from nI_ge (b := 4) (by omega) (by omega)), if_neg (bnd (by omega) (by omega)), nI_clamp (n := i) (by omega), nI_1, ho i (by omega), h3 i (by omega), nar1]
      rw [fX7_joins_L65, if_neg (nI_ge (by omega) (by omega)), if_neg (bnd (i := i) (by omega) (by omega)), nI_clamp (n := i) (by omega), nI_1, h4 i (by omega), orBit (by omega)]
      by_cases b : g.testBit i = true
      · rw [if_neg (fun h => bit4_0.mp h b), if_pos ((tst1 (by omega) (by omega)).mpr b)]
        by_cases c : nI i = x
        · rw [if_pos c, if_pos c]
          exact joint56 (N := N) hn hg on ho hh x m (i + 1) w fuel bl fa itf (by omega) (by omega) (by omega) h2 h3 h4
        · rw [if_neg c, if_neg c]
          by_cases b2 : w.testBit i = true
          · rw [if_neg (fun h => bit4_0.mp h b2), if_neg (fun h => (tst0 (by omega) (by omega)).mp h b2)]
            exact joint56 (N := N) hn hg on ho hh x m (i + 1) w fuel bl fa itf (by omega) (by omega) (by omega) h2 h3 h4
          · rw [if_pos (bit4_0.mpr b2), if_pos ((tst0 (by omega) (by omega)).mpr b2)]
            obtain ⟨w', bl', fa', itf', g1, g2, g3, g4, g5, g6⟩ := joint56 (N := N) hn hg on ho hh x m (i + 1) (w ||| 2 ^ i) fuel (upd bl i 1) (upd fa i (fa i + 1)) (upd itf i (fa i + 1)) (by omega) (by omega) (by omega) (Nat.or_lt_two_pow (n := 4) h2 (Nat.pow_lt_pow_right (by omega) (by omega))) (fun r hr => by
              unfold bit4
              rw [tb_or]
              by_cases c2 : r = i
              · subst c2; rw [pk_us]; simp
              · rw [pk_un c2, h3 r hr]; unfold bit4; simp [show ¬ i = r from fun h => c2 h.symm]) (fun r hr => by
              by_cases c2 : r = i
              · subst c2; rw [pk_us, pk_us]
              · rw [pk_un c2, pk_un c2]; exact h4 r hr)
            exact ⟨w', bl', fa', itf', g1, g2, g3, g4, g5, fun r hr => by rw [g6 r hr, pk_un (by omega)]⟩
      · rw [if_pos (bit4_0.mpr b), if_neg (fun h => b ((tst1 (by omega) (by omega)).mp h))]
        exact joint56 (N := N) hn hg on ho hh x m (i + 1) w fuel bl fa itf (by omega) (by omega) (by omega) h2 h3 h4
theorem ride_joint {N n g w j : Nat} (hN : 70000 ≤ N) (hn : n ≤ 4) (hg : g < 16) (hw : w < 16) (hj : j < n) (turn on bl fa itf stood : Nat → Int32) (hs : ∀ r, r < n → stood r = turn r) (ho : ∀ r, r < 4 → on r = bit4 g r) (hb : ∀ r, r < 4 → bl r = bit4 w r) (hh : ∀ r, n ≤ r → g.testBit r = false) (hf : ∀ r, r < 4 → itf r = fa r) :
    ∃ (g' w' : Nat) (on' bl' fa' itf' : Nat → Int32), g' < 16 ∧ w' < 16 ∧ fX5_ride N (nI j) turn on bl fa = some (on', bl', fa') ∧ fX7_joins N (nI j) (nI n) (nI g) (nI w) itf stood = some (nI g', nI w', itf') ∧ (∀ r, r < 4 → on' r = bit4 g' r ∧ bl' r = bit4 w' r) ∧ (∀ r, n ≤ r → g'.testBit r = false) ∧ (∀ r, r < 4 → itf' r = fa' r) ∧ (∀ r, n ≤ r → fa' r = fa r) := by
  have hg' : g ||| 2 ^ j < 16 := Nat.or_lt_two_pow (n := 4) hg (Nat.pow_lt_pow_right (by omega) (by omega))
  have ho' : ∀ r, r < 4 → upd on j 1 r = bit4 (g ||| 2 ^ j) r := fun r hr => by
    unfold bit4
    rw [tb_or]
    by_cases c2 : r = j
    · subst c2; rw [pk_us]; simp
    · rw [pk_un c2, ho r hr]; unfold bit4; simp [show ¬ j = r from fun h => c2 h.symm]
  have hh' : ∀ r, n ≤ r → (g ||| 2 ^ j).testBit r = false := fun r hr => by
    rw [tb_or, hh r hr]; simp; omega
  obtain ⟨f, f1, f2, f3⟩ := joint12 (N := N) hn hg' turn (upd on j 1) stood hs ho' hh' (fun (x3_7 : Int32) (x4_7 : Int32) => fX5_ride_L56 N x3_7 (upd on j 1) N 0 bl fa) (fun (x2_6 : Int32) (x3_6 : Int32) => fX7_joins_L65 N x2_6 (nI n) (nI (g ||| 2 ^ j)) N 0 (nI w) itf) 4 0 j N (by omega) (by omega) (by omega) hj
  obtain ⟨w', bl', fa', itf', g1, g2, g3, g4, g5, g6⟩ := joint56 (N := N) hn hg' (upd on j 1) ho' hh' (nI f) 4 0 w N bl fa itf (by omega) (by omega) (by omega) hw hb hf
  refine ⟨g ||| 2 ^ j, w', upd on j 1, bl', fa', itf', hg', g1, ?_, ?_, fun r hr => ⟨ho' r hr, g4 r hr⟩, hh', g5, g6⟩
  · unfold fX5_ride
    rw [if_neg (bnd (i := j) (by omega) (by omega)), nI_clamp (n := j) (by omega), nar1]
    exact f2.trans g2
  · unfold fX7_joins
    rw [orBit (by omega)]
    exact f3.trans g3
theorem startX {N z : Nat} (v : Int32) (row T : Nat → Int32) (hT : ∀ r, r < 4 → (fX2_holds N (nI r) (nI z) row = some 0 ∧ T r = 4 + nI r) ∨ (fX2_holds N (nI r) (nI z) row = some 1 ∧ fX2_positionOf N (nI r) (nI z) row = some (T r))) :
    ∀ (m i fuel : Nat) (tu on bl : Nat → Int32), i + m = 4 → m < fuel → (∀ r, r < i → tu r = T r ∧ on r = 0 ∧ bl r = 0) → ∃ tu' on' bl' : Nat → Int32, fX5_start_L7 N v (nI z) row fuel (nI i) tu on bl = some (v, tu', on', bl') ∧ ∀ r, r < 4 → tu' r = T r ∧ on' r = 0 ∧ bl' r = 0
  | 0, i, 0, _, _, _, e, hf, _ => absurd hf (by omega)
  | m + 1, i, 0, _, _, _, e, hf, _ => absurd hf (by omega)
  | 0, i, fuel + 1, tu, on, bl, e, hf, h => by
    refine ⟨tu, on, bl, ?_, fun r hr => h r (by omega)⟩
    rw [fX5_start_L7, show i = 4 by omega, if_pos (show (4 : Int32) ≤ nI 4 by decide)]
  | m + 1, i, fuel + 1, tu, on, bl, e, hf, h => by
    have ih := startX (N := N) (z := z) v row T hT m (i + 1) fuel (upd tu i (T i)) (upd on i 0) (upd bl i 0) (by omega) (by omega) (fun r hr => by
      by_cases c : r = i
      · subst c; rw [pk_us, pk_us, pk_us]; exact ⟨rfl, rfl, rfl⟩
      · rw [pk_un c, pk_un c, pk_un c]; exact h r (by omega))
    rw [fX5_start_L7, if_neg (show ¬ (4 : Int32) ≤ nI i from nI_ge (b := 4) (by omega) (by omega)), if_neg (bnd (by omega) (by omega)), nI_clamp (n := i) (by omega), nI_1, nar0]
    rcases hT i (by omega) with ⟨t1, t2⟩ | ⟨t1, t2⟩
    · rw [t1, ob1_some, if_pos rfl, ← t2]; exact ih
    · rw [t1, ob1_some, if_neg (show ¬ (1 : Int32) = 0 by decide), t2, ob1_some, if_neg (bndN (by omega) (by omega))]; exact ih
theorem groupM {N z n : Nat} (hn : n ≤ 4) (g w : Int32) (line T : Nat → Int32) (hT : ∀ r, r < n → ∃ y, fX7_placeInLine N (nI r) (nI z) line = some y ∧ ((y < 0 ∧ T r = 4 + nI r) ∨ (¬ y < 0 ∧ T r = y))) :
    ∀ (m i fuel : Nat) (st : Nat → Int32), i + m = n → m < fuel → (∀ r, r < i → st r = T r) → ∃ st' : Nat → Int32, fX7_beginGroup_L12 N (nI n) (nI z) g w line fuel (nI i) st = some (g, w, st') ∧ ∀ r, r < n → st' r = T r
  | 0, i, 0, _, e, hf, _ => absurd hf (by omega)
  | m + 1, i, 0, _, e, hf, _ => absurd hf (by omega)
  | 0, i, fuel + 1, st, e, hf, h => by
    refine ⟨st, ?_, fun r hr => h r (by omega)⟩
    rw [fX7_beginGroup_L12, if_pos (nI_le (by omega) (by omega))]
  | m + 1, i, fuel + 1, st, e, hf, h => by
    have ih := groupM (N := N) (z := z) hn g w line T hT m (i + 1) fuel (upd st i (T i)) (by omega) (by omega) (fun r hr => by
      by_cases c : r = i
      · subst c; rw [pk_us]
      · rw [pk_un c]; exact h r (by omega))
    obtain ⟨y, y1, y2⟩ := hT i (by omega)
    rw [fX7_beginGroup_L12, if_neg (nI_ge (by omega) (by omega)), y1, ob1_some, if_neg (bnd (by omega) (by omega)), nI_clamp (n := i) (by omega), nI_1]
    rcases y2 with ⟨t1, t2⟩ | ⟨t1, t2⟩
    · rw [if_pos t1, ← t2]; exact ih
    · rw [if_neg t1, ← t2, if_neg (bndN (by omega) (by omega))]; exact ih
theorem holds_found {N p z : Nat} {row : Nat → Int32} {x : Int32} (hN : 70000 ≤ N) (hp : p < z) (hz : z ≤ 4) (h : row p = x) (hq : ∀ q, q < p → ¬ row q = x) : fX2_holds N x (nI z) row = some 1 := by
  unfold fX2_holds
  rw [show fX2_positionOf N x (nI z) row = some (nI p) from pos_found hp hz h hq p 0 N (by omega) (by omega), ob1_some, if_neg (nI_ge hp (by omega))]
theorem holds_none {N z : Nat} {row : Nat → Int32} {x : Int32} (hN : 70000 ≤ N) (hz : z ≤ 4) (hq : ∀ q, q < z → ¬ row q = x) : fX2_holds N x (nI z) row = some 0 := by
  unfold fX2_holds
  rw [show fX2_positionOf N x (nI z) row = some (nI z) from pos_none hz hq z 0 N (by omega) (by omega), ob1_some, if_pos (nI_le (Nat.le_refl z) (by omega))]
theorem start_joint {N n z : Nat} (hN : 70000 ≤ N) (hn : n ≤ 4) (hz : z ≤ 4) (v num g w : Int32) (row line tu on bl st : Nat → Int32) (hl : ∀ i, i < z → line i = row i) :
    ∃ tu' on' bl' st' : Nat → Int32, fX5_start N v num tu on bl (nI z) row = some (v, tu', on', bl') ∧ fX7_beginGroup N (nI n) (nI z) g w line st = some (nI 0, nI 0, st') ∧ (∀ r, r < n → st' r = tu' r) ∧ (∀ r, r < 4 → on' r = bit4 0 r) ∧ (∀ r, r < 4 → bl' r = bit4 0 r) := by
  have hT : ∀ r : Nat, ∃ t : Int32, ((fX2_holds N (nI r) (nI z) row = some 0 ∧ t = 4 + nI r) ∨ (fX2_holds N (nI r) (nI z) row = some 1 ∧ fX2_positionOf N (nI r) (nI z) row = some t)) ∧ ∃ y, fX7_placeInLine N (nI r) (nI z) line = some y ∧ ((y < 0 ∧ t = 4 + nI r) ∨ (¬ y < 0 ∧ t = y)) := fun r => by
    rcases first_or row (nI r) z with ⟨p, h1, h2, h3⟩ | h
    · exact ⟨nI p, Or.inr ⟨holds_found hN h1 hz h2 h3, pos_found h1 hz h2 h3 p 0 N (by omega) (by omega)⟩, nI p, pil_found h1 hz (by rw [hl p h1]; exact h2) (fun q hq => by rw [hl q (by omega)]; exact h3 q hq) p 0 N (by omega) (by omega), Or.inr ⟨nI_pos (by omega), rfl⟩⟩
    · exact ⟨4 + nI r, Or.inl ⟨holds_none hN hz h, rfl⟩, -1, pil_none hz (fun q hq => by rw [hl q hq]; exact h q hq) z 0 N (by omega) (by omega), Or.inl ⟨by decide, rfl⟩⟩
  obtain ⟨T, hT⟩ := Classical.axiomOfChoice hT
  obtain ⟨tu', on', bl', x1, x2⟩ := startX (N := N) (z := z) v row T (fun r _ => (hT r).1) 4 0 N tu on bl (by omega) (by omega) (fun r hr => absurd hr (by omega))
  obtain ⟨st', m1, m2⟩ := groupM (N := N) (z := z) hn 0 0 line T (fun r _ => (hT r).2) n 0 N st (by omega) (by omega) (fun r hr => absurd hr (by omega))
  refine ⟨tu', on', bl', st', x1, m1, fun r hr => by rw [m2 r hr, (x2 r (by omega)).1], fun r hr => ?_, fun r hr => ?_⟩
  · rw [(x2 r hr).2.1]; exact (bit4_0.mpr (by rw [Nat.zero_testBit]; decide)).symm
  · rw [(x2 r hr).2.2]; exact (bit4_0.mpr (by rw [Nat.zero_testBit]; decide)).symm
/-- a row without its place p -/
def remP (f : Nat → Int32) (p i : Nat) : Int32 := if i < p then f i else f (i + 1)
theorem leaveB {N p z : Nat} {x : Int32} (hz : z ≤ 4) (row : Nat → Int32) (hne : ∀ q, p < q → q < z → ¬ row q = x) : ∀ (m i fuel : Nat) (R : Nat → Int32), i + m = z → m < fuel → p < i → (∀ q, q + 1 < i → R q = remP row p q) → (∀ q, i ≤ q → q < z → R q = row q) → ∃ R' : Nat → Int32, fX2_leave_L4 N x (nI z) fuel (nI (i - 1)) (nI i) R = some (nI (z - 1), R') ∧ ∀ q, q + 1 < z → R' q = remP row p q
  | 0, i, 0, _, e, hf, _, _, _ => absurd hf (by omega)
  | m + 1, i, 0, _, e, hf, _, _, _ => absurd hf (by omega)
  | 0, i, fuel + 1, R, e, hf, h1, h2, h3 => by
    obtain rfl : i = z := by omega
    exact ⟨R, by rw [fX2_leave_L4, if_pos (nI_le (Nat.le_refl i) (by omega))], h2⟩
  | m + 1, i, fuel + 1, R, e, hf, h1, h2, h3 => by
    have e3 := h3 i (Nat.le_refl i) (by omega)
    rw [fX2_leave_L4, if_neg (nI_ge (by omega) (by omega)), if_neg (bnd (i := i) (by omega) (by omega)), nI_clamp (n := i) (by omega), e3, if_neg (hne i h1 (by omega)), if_neg (bnd (i := i - 1) (by omega) (by omega)), nI_clamp (n := i - 1) (by omega), nI_1, nI_1, show i - 1 + 1 = i + 1 - 1 by omega]
    refine leaveB hz row hne m (i + 1) fuel _ (by omega) (by omega) (by omega) (fun q hq => ?_) (fun q h4 h5 => ?_)
    · by_cases c : q = i - 1
      · subst c
        rw [pk_us]; unfold remP
        rw [if_neg (by omega), show i - 1 + 1 = i by omega]
      · rw [pk_un c]; exact h2 q (by omega)
    · rw [pk_un (by omega)]; exact h3 q (by omega) h5
theorem leaveA {N p z : Nat} {x : Int32} (hz : z ≤ 4) (hp : p < z) (row : Nat → Int32) (hx : row p = x) (hne : ∀ q, q < z → q ≠ p → ¬ row q = x) : ∀ (m i fuel : Nat) (R : Nat → Int32), i + m = p → z < fuel + i → (∀ q, q < z → R q = row q) → ∃ R' : Nat → Int32, fX2_leave_L4 N x (nI z) fuel (nI i) (nI i) R = some (nI (z - 1), R') ∧ ∀ q, q + 1 < z → R' q = remP row p q
  | m, i, 0, _, e, hf, _ => absurd hf (by omega)
  | 0, i, fuel + 1, R, e, hf, h1 => by
    rw [fX2_leave_L4, if_neg (nI_ge (by omega) (by omega)), if_neg (bnd (i := i) (by omega) (by omega)), nI_clamp (n := i) (by omega), h1 i (by omega), show i = p by omega, if_pos hx, nI_1]
    exact leaveB (N := N) (x := x) hz row (fun q h2 h3 => hne q h3 (by omega)) (z - (p + 1)) (p + 1) fuel R (by omega) (by omega) (by omega) (fun q hq => by rw [h1 q (by omega)]; unfold remP; rw [if_pos (by omega)]) (fun q _ h5 => h1 q h5)
  | m + 1, i, fuel + 1, R, e, hf, h1 => by
    rw [fX2_leave_L4, if_neg (nI_ge (by omega) (by omega)), if_neg (bnd (i := i) (by omega) (by omega)), nI_clamp (n := i) (by omega), h1 i (by omega), if_neg (hne i (by omega) (by omega)), if_neg (bndN (i := i) (by omega) (by omega)), nI_1]
    refine leaveA hz hp row hx hne m (i + 1) fuel _ (by omega) (by omega) (fun q hq => ?_)
    by_cases c : q = i
    · subst c; rw [pk_us]
    · rw [pk_un c]; exact h1 q hq
theorem shiftM {N p z : Nat} (hz : z ≤ 3) (line : Nat → Int32) (K : Int32 → (Nat → Int32) → Option (Int32 × Int32 × Int32 × Int32 × Int32 × Int32 × (Nat → Int32) × (Nat → Int32) × (Nat → Int32) × (Nat → Int32) × (Nat → Int32) × (Nat → Int32))) : ∀ (m i fuel : Nat) (R : Nat → Int32), i + m = z → m < fuel → (∀ q, q < i → R q = remP line p q) → (∀ q, i ≤ q → q ≤ z → R q = line q) → p ≤ i → ∃ R' : Nat → Int32, fX7_take_L94 N (nI z) K fuel (nI i) R = K (nI z) R' ∧ ∀ q, q < z → R' q = remP line p q
  | 0, i, 0, _, e, hf, _, _, _ => absurd hf (by omega)
  | m + 1, i, 0, _, e, hf, _, _, _ => absurd hf (by omega)
  | 0, i, fuel + 1, R, e, hf, h2, h3, h4 => by
    obtain rfl : i = z := by omega
    exact ⟨R, by rw [fX7_take_L94, if_pos (nI_le (Nat.le_refl i) (by omega))], h2⟩
  | m + 1, i, fuel + 1, R, e, hf, h2, h3, h4 => by
    rw [fX7_take_L94, if_neg (nI_ge (by omega) (by omega)), nI_1, if_neg (bnd (i := i + 1) (by omega) (by omega)), if_neg (bnd (i := i) (by omega) (by omega)), nI_clamp (n := i) (by omega), nI_clamp (n := i + 1) (by omega), h3 (i + 1) (by omega) (by omega)]
    refine shiftM hz line K m (i + 1) fuel _ (by omega) (by omega) (fun q hq => ?_) (fun q h5 h6 => ?_) (by omega)
    · by_cases c : q = i
      · subst c; rw [pk_us]; unfold remP; rw [if_neg (by omega)]
      · rw [pk_un c]; exact h2 q (by omega)
    · rw [pk_un (by omega)]; exact h3 q (by omega) h6
theorem marksX {N k : Nat} (hk : k < 30) : ∀ (m i fuel : Nat) (M : Nat → Int32), i + m = 5 → m < fuel → (∀ j, j < i → M (5 * k + j) = -1) → ∃ M' : Nat → Int32, (∀ K, fX1_addRide_L32 N (nI k) K fuel (nI i) M = K (nI 5) M') ∧ (∀ j, j < 5 → M' (5 * k + j) = -1) ∧ (∀ q, q < 5 * k → M' q = M q)
  | 0, i, 0, _, e, hf, _ => absurd hf (by omega)
  | m + 1, i, 0, _, e, hf, _ => absurd hf (by omega)
  | 0, i, fuel + 1, M, e, hf, h => by
    obtain rfl : i = 5 := by omega
    exact ⟨M, fun K => by rw [fX1_addRide_L32, if_pos (show (5 : Int32) ≤ nI 5 by decide)], h, fun _ _ => rfl⟩
  | m + 1, i, fuel + 1, M, e, hf, h => by
    obtain ⟨M', g1, g2, g3⟩ := marksX (N := N) hk m (i + 1) fuel (upd M (5 * k + i) (-1)) (by omega) (by omega) (fun j hj => by
      by_cases c : j = i
      · subst c; rw [pk_us]
      · rw [pk_un (by omega)]; exact h j (by omega))
    refine ⟨M', fun K => ?_, g2, fun q hq => by rw [g3 q hq, pk_un (by omega)]⟩
    rw [fX1_addRide_L32, if_neg (show ¬ (5 : Int32) ≤ nI i from nI_ge (b := 5) (by omega) (by omega)), ix1, if_neg (bnd (by omega) (by omega)), nI_clamp (n := 5 * k + i) (by omega), nI_1]
    exact g1 K
theorem marksM {N k : Nat} (hk : k < 30) (lm io gr wr : Int32) (ro wo li itf st : Nat → Int32) : ∀ (m i fuel : Nat) (M : Nat → Int32), i + m = 5 → m < fuel → (∀ j, j < i → M (5 * k + j) = -1) → ∃ M' : Nat → Int32, fX7_take_L148 N (nI k) lm io gr wr ro wo li itf st fuel (nI i) M = some (nI k, nI (k + 1), lm, io, gr, wr, ro, wo, M', li, itf, st) ∧ (∀ j, j < 5 → M' (5 * k + j) = -1) ∧ (∀ q, q < 5 * k → M' q = M q)
  | 0, i, 0, _, e, hf, _ => absurd hf (by omega)
  | m + 1, i, 0, _, e, hf, _ => absurd hf (by omega)
  | 0, i, fuel + 1, M, e, hf, h => by
    obtain rfl : i = 5 := by omega
    exact ⟨M, by rw [fX7_take_L148, if_pos (show (5 : Int32) ≤ nI 5 by decide), nI_1, nI_pred], h, fun _ _ => rfl⟩
  | m + 1, i, fuel + 1, M, e, hf, h => by
    rw [fX7_take_L148, if_neg (show ¬ (5 : Int32) ≤ nI i from nI_ge (b := 5) (by omega) (by omega)), ix2, if_neg (bnd (by omega) (by omega)), nI_clamp (n := 5 * k + i) (by omega), nI_1 i]
    obtain ⟨M', g1, g2, g3⟩ := marksM (N := N) hk lm io gr wr ro wo li itf st m (i + 1) fuel (upd M (5 * k + i) (-1)) (by omega) (by omega) (fun j hj => by
      by_cases c : j = i
      · subst c; rw [pk_us]
      · rw [pk_un (by omega)]; exact h j (by omega))
    exact ⟨M', g1, g2, fun q hq => by rw [g3 q hq, pk_un (by omega)]⟩
