/-! days, span -/
theorem beginX {N d : Nat} (hd : d ≤ 9) (K : Int32 → (Nat → Int32) → (Nat → Int32) → (Nat → Int32) → Option (Int32 × (Nat → Int32) × (Nat → Int32) × (Nat → Int32) × (Nat → Nat → Int64) × (Nat → Int64))) : ∀ (m i fuel : Nat) (f t k : Nat → Int32), i + m = d → m < fuel → (∀ j, j < i → f j = 0 ∧ t j = 9 ∧ k j = -1) → ∃ f' t' k' : Nat → Int32, fX4_begin_L7 N (nI d) K fuel (nI i) f t k = K (nI d) f' t' k' ∧ ∀ j, j < d → f' j = 0 ∧ t' j = 9 ∧ k' j = -1
  | 0, i, 0, _, _, _, e, hf, _ => absurd hf (by omega)
  | m + 1, i, 0, _, _, _, e, hf, _ => absurd hf (by omega)
  | 0, i, fuel + 1, f, t, k, e, hf, h => by
    obtain rfl : i = d := by omega
    exact ⟨f, t, k, by rw [fX4_begin_L7, if_pos (nI_le (Nat.le_refl i) (by omega))], h⟩
  | m + 1, i, fuel + 1, f, t, k, e, hf, h => by
    rw [fX4_begin_L7, if_neg (nI_ge (by omega) (by omega)), if_neg (bnd (by omega) (by omega)), nI_clamp (by omega), nI_1]
    refine beginX hd K m (i + 1) fuel _ _ _ (by omega) (by omega) (fun j hj => ?_)
    by_cases q : j = i
    · subst q; rw [pk_us, pk_us, pk_us]; exact ⟨rfl, rfl, rfl⟩
    · rw [pk_un q, pk_un q, pk_un q]; exact h j (by omega)
theorem beginM {N d : Nat} (hd : d ≤ 9) (D : Int32) : ∀ (m i fuel : Nat) (f t k : Nat → Int32), i + m = d → m < fuel → (∀ j, j < i → f j = 0 ∧ t j = 9 ∧ k j = -1) → ∃ f' t' k' : Nat → Int32, fX7_beginDays_L7 N (nI d) D fuel (nI i) f t k = some (D, f', t', k') ∧ ∀ j, j < d → f' j = 0 ∧ t' j = 9 ∧ k' j = -1
  | 0, i, 0, _, _, _, e, hf, _ => absurd hf (by omega)
  | m + 1, i, 0, _, _, _, e, hf, _ => absurd hf (by omega)
  | 0, i, fuel + 1, f, t, k, e, hf, h => by
    obtain rfl : i = d := by omega
    exact ⟨f, t, k, by rw [fX7_beginDays_L7, if_pos (nI_le (Nat.le_refl i) (by omega))], h⟩
  | m + 1, i, fuel + 1, f, t, k, e, hf, h => by
    rw [fX7_beginDays_L7, if_neg (nI_ge (by omega) (by omega)), if_neg (bnd (by omega) (by omega)), nI_clamp (by omega), nI_1]
    refine beginM hd D m (i + 1) fuel _ _ _ (by omega) (by omega) (fun j hj => ?_)
    by_cases q : j = i
    · subst q; rw [pk_us, pk_us, pk_us]; exact ⟨rfl, rfl, rfl⟩
    · rw [pk_un q, pk_un q, pk_un q]; exact h j (by omega)
theorem days_core {N d : Nat} (hN : 70000 ≤ N) (h1 : 1 ≤ d) (hd : d ≤ 9) (v0 v0' : Int32) (fr to kn : Nat → Int32) (ab : Nat → Nat → Int64) (be : Nat → Int64) (lo hi wa : Nat → Int32) :
    ∃ (f t k : Nat → Int32) (a : Nat → Nat → Int64) (b : Nat → Int64) (l h w : Nat → Int32), fX4_begin N (nI d) v0 fr to kn ab be = some (nI d, f, t, k, a, b) ∧ fX7_beginDays N (nI d) v0' lo hi wa = some (nI d, l, h, w) ∧ InvW (nI d) f t k a b (nI d) l h w := by
  obtain ⟨l, h, w, m1, m2⟩ := beginM (N := N) hd (nI d) d 0 N lo hi wa (by omega) (by omega) (fun j hj => absurd hj (by omega))
  obtain ⟨f, t, k, x1, x2⟩ := beginX (N := N) hd (fun (x2_3 : Int32) (v_from_3 : Nat → Int32) (v_to_3 : Nat → Int32) (v_known_3 : Nat → Int32) =>
    if nI d < 0 ∨ 10 ≤ (nI d).toNatClampNeg then none else
  ob2 (fX4_weighDownFrom N (nI d - 1) (nI d) v_from_3 v_to_3 (va_up ab (nI d).toNatClampNeg (vp_updL (ab (nI d).toNatClampNeg) (0 : Int32).toNatClampNeg 0)) (vp_updL be (nI d).toNatClampNeg 1)) (fun o_5_above o_5_below =>
  some (nI d, v_from_3, v_to_3, v_known_3, o_5_above, o_5_below))) d 0 N fr to kn (by omega) (by omega) (fun j hj => absurd hj (by omega))
  obtain ⟨a, b, w1, w2⟩ := weigh2 (N := N) (d := d) (lo := fun _ => 0) (hi := fun _ => 9) (fr := f) (to := t) hN hd (fun j hj => ⟨by omega, by omega⟩) (fun j hj => ⟨(x2 j hj).1, (x2 j hj).2.1⟩) d N (va_up ab d (vp_updL (ab d) 0 0)) (vp_updL be d 1) (by omega) (by omega) (fun t ht => by
    obtain rfl : t = 0 := by omega
    refine ⟨by rw [Nat.sub_zero, pk_uLs]; rfl, fun r hr => ?_⟩
    obtain rfl : r = 0 := by omega
    rw [Nat.sub_zero, vuS, pk_uLs]; rfl)
  refine ⟨f, t, k, a, b, l, h, w, ?_, m1, d, fun _ => 0, fun _ => 9, h1, hd, rfl, rfl, fun i hi => ?_, w2⟩
  · refine Eq.trans x1 ?_
    show (if nI d < 0 ∨ 10 ≤ (nI d).toNatClampNeg then none else
      ob2 (fX4_weighDownFrom N (nI d - 1) (nI d) f t (va_up ab (nI d).toNatClampNeg (vp_updL (ab (nI d).toNatClampNeg) (0 : Int32).toNatClampNeg 0)) (vp_updL be (nI d).toNatClampNeg 1)) (fun o_5_above o_5_below =>
      some (nI d, f, t, k, o_5_above, o_5_below))) = _
    rw [if_neg (bnd (by omega) (by omega)), nI_clamp (n := d) (by omega), show (0 : Int32).toNatClampNeg = 0 from rfl, show fX4_weighDownFrom N (nI d - 1) (nI d) f t (va_up ab d (vp_updL (ab d) 0 0)) (vp_updL be d 1) = some (a, b) from w1, ob2_some]
  · obtain ⟨y1, y2, y3⟩ := x2 i hi
    obtain ⟨z1, z2, z3⟩ := m2 i hi
    exact ⟨y1, y2, z1, z2, Nat.zero_le 9, Nat.le_refl 9, by rw [y3, z3], Or.inl y3⟩
theorem w_congr {a b a' b' : Nat → Nat} {d : Nat} : ∀ t, t ≤ d → (∀ i, d - t ≤ i → i < d → a' i = a i ∧ b' i = b i) → wB a' b' d t = wB a b d t ∧ ∀ r, wA a' b' d t r = wA a b d t r
  | 0, _, _ => ⟨rfl, fun _ => rfl⟩
  | t + 1, ht, h => by
    obtain ⟨i1, i2⟩ := w_congr (a := a) (b := b) (a' := a') (b' := b') t (by omega) (fun i h1 h2 => h i (by omega) h2)
    obtain ⟨k1, k2⟩ := h (d - (t + 1)) (by omega) (by omega)
    refine ⟨by rw [wB, wB, i1, k1, k2], fun r => ?_⟩
    rw [wA_succ, wA_succ, k1, k2]
    refine sumQ_congr _ (fun q _ _ => ?_)
    unfold wT
    rw [i1, i2, i2, i2]
theorem span_core {N d j x y : Nat} {fr to kn : Nat → Int32} {ab : Nat → Nat → Int64} {be : Nat → Int64} {lo hi wa : Nat → Int32} (hN : 70000 ≤ N) (hW : InvW (nI d) fr to kn ab be (nI d) lo hi wa) (hd : d ≤ 9) (hj : j < d) (hxy : x ≤ y) (hy : y ≤ 9) :
    ∃ (a : Nat → Nat → Int64) (b : Nat → Int64), fX4_setSpan N (nI j) (nI x) (nI y) (nI d) fr to kn ab be = some (upd fr j (nI x), upd to j (nI y), upd kn j (-1), a, b) ∧ InvW (nI d) (upd fr j (nI x)) (upd to j (nI y)) (upd kn j (-1)) a b (nI d) (upd lo j (nI x)) (upd hi j (nI y)) (upd wa j (-1)) := by
  obtain ⟨d0, a0, b0, d1, d2, d3, d4, d5, d6⟩ := hW
  obtain rfl : d = d0 := (nI_eq (by omega) (by omega)).mp d3
  have eS : ∀ f : Nat → Nat, ∀ v, (if j = j then v else f j) = v := fun f v => if_pos rfl
  obtain ⟨a, b, w1, w2⟩ := weigh2 (N := N) (d := d) (lo := fun i => if i = j then x else a0 i) (hi := fun i => if i = j then y else b0 i) (fr := upd fr j (nI x)) (to := upd to j (nI y)) hN hd (fun i hi => by
      by_cases q : i = j
      · simp only [if_pos q]; exact ⟨hxy, hy⟩
      · simp only [if_neg q]; obtain ⟨_, _, _, _, e5, e6, _⟩ := d5 i hi; exact ⟨e5, e6⟩) (fun i hi => by
      by_cases q : i = j
      · subst q; simp only [if_true]; rw [pk_us, pk_us]; exact ⟨rfl, rfl⟩
      · simp only [if_neg q]; rw [pk_un q, pk_un q]; obtain ⟨e1, e2, _⟩ := d5 i hi; exact ⟨e1, e2⟩) (j + 1) N ab be (by omega) (by omega) (fun t ht => by
      obtain ⟨c1, c2⟩ := w_congr (a := a0) (b := b0) (a' := fun i => if i = j then x else a0 i) (b' := fun i => if i = j then y else b0 i) (d := d) t (by omega) (fun i h1 h2 => by
        have q : ¬ i = j := by omega
        simp only [if_neg q]; exact ⟨trivial, trivial⟩)
      rw [c1]
      refine ⟨(d6 t (by omega)).1, fun r hr => ?_⟩
      rw [c2]
      exact (d6 t (by omega)).2 r hr)
  refine ⟨a, b, ?_, d, _, _, d1, hd, rfl, rfl, fun i hi => ?_, w2⟩
  · unfold fX4_setSpan
    rw [if_neg (bnd (by omega) (by omega)), nI_clamp (n := j) (by omega)]
    rw [nI_pred] at w1
    rw [show fX4_weighDownFrom N (nI j) (nI d) (upd fr j (nI x)) (upd to j (nI y)) ab be = some (a, b) from w1, ob2_some]
  · by_cases q : i = j
    · subst q
      simp only [pk_us, if_true]
      exact ⟨trivial, trivial, trivial, trivial, hxy, hy, trivial, Or.inl trivial⟩
    · simp only [pk_un q, if_neg q]
      exact d5 i hi
theorem isQ_spec (N : Nat) (x : Int32) : fX6_isQuality N x = some (if x < 0 ∨ 9 < x then 0 else 1) := by
  unfold fX6_isQuality
  by_cases h1 : x < 0
  · simp [h1]
  · by_cases h2 : 9 < x <;> simp [h1, h2]
theorem in9 {x : Int32} (h : ¬ (x < 0 ∨ 9 < x)) : ∃ q, q ≤ 9 ∧ x = nI q := by
  obtain ⟨j, hj, rfl⟩ := nI_of (fun q => h (Or.inl q))
  refine ⟨j, ?_, rfl⟩
  rcases Nat.lt_or_ge 9 j with q | q
  · exact absurd (Or.inr (nI_lt (a := 9) q hj)) h
  · exact q
