/-! the worths of all days -/
theorem vuS {α : Type} {f : Nat → α} {k : Nat} {v : α} : va_up f k v k = v := if_pos rfl
theorem vuN {α : Type} {f : Nat → α} {k j : Nat} {v : α} (h : j ≠ k) : va_up f k v j = f j := if_neg h
theorem wA_G {lo hi : Nat → Nat} {d t i l : Nat} (h : i + t + 1 = d) : wA lo hi d (t + 1) l = sumQ (wG t l (wB lo hi d t) (wA lo hi d t)) (lo i) (hi i + 1 - lo i) := by
  rw [wA_succ, show d - (t + 1) = i by omega]
  rfl
theorem weigh39 {N i d t : Nat} {lo hi : Nat → Nat} {fr to : Nat → Int32} {below : Nat → Int64} {K : Int32 → (Nat → Nat → Int64) → Option ((Nat → Nat → Int64) × (Nat → Int64))} (hN : 70000 ≤ N) (hd : d ≤ 9) (hi0 : i + t + 1 = d) (hr : ∀ j, j < d → lo j ≤ hi j ∧ hi j ≤ 9) (hfr : fr i = nI (lo i)) (hto : to i = nI (hi i)) (hb : below (i + 1) = lN (wB lo hi d t)) :
    ∀ (m l fuel : Nat) (above : Nat → Nat → Int64), l + m = t + 2 → m < fuel → (∀ r, r ≤ t → above (i + 1) r = lN (wA lo hi d t r)) → (∀ r, r < l → above i r = lN (wA lo hi d (t + 1) r)) →
      ∃ above' : Nat → Nat → Int64, fX4_weighDownFrom_L39 N (nI i) (nI d) fr to below K fuel (nI l) above = K (nI (t + 2)) above' ∧ (∀ r, r ≤ t + 1 → above' i r = lN (wA lo hi d (t + 1) r)) ∧ (∀ j, j ≠ i → above' j = above j)
  | 0, l, 0, above, e, hf, h1, h2 => absurd hf (by omega)
  | m + 1, l, 0, above, e, hf, h1, h2 => absurd hf (by omega)
  | 0, l, fuel + 1, above, e, hf, h1, h2 => by
    refine ⟨above, ?_, fun r hr => h2 r (by omega), fun _ _ => rfl⟩
    rw [fX4_weighDownFrom_L39, pk_sub (by omega), if_pos (nI_lt (by omega) (by omega)), show l = t + 2 by omega]
  | m + 1, l, fuel + 1, above, e, hf, h1, h2 => by
    obtain ⟨b1, b2, b3⟩ := wbd hd hr t (by omega)
    obtain ⟨k1, k2⟩ := hr i (by omega)
    rw [fX4_weighDownFrom_L39, pk_sub (by omega), if_neg (nI_nlt (by omega) (by omega)), if_neg (bnd (by omega) (by omega))]
    unfold fX4_sumOverSpan
    rw [if_neg (bnd (by omega) (by omega)), nI_clamp (n := i) (by omega), hfr, lN_0, spanX hd hi0 (by omega) k2 hto hb h1 b2 b3 (hi i + 1 - lo i) (lo i) N 0 (by omega) (by omega), ob1_some, if_neg (bnd (by omega) (by omega)), nI_clamp (n := l) (by omega), nI_1 l, Nat.zero_add, ← wA_G hi0]
    obtain ⟨above', g1, g2, g3⟩ := weigh39 (K := K) hN hd hi0 hr hfr hto hb m (l + 1) fuel (va_up above i (vp_updL (above i) l (lN (wA lo hi d (t + 1) l)))) (by omega) (by omega) (fun r hr => by rw [vuN (by omega)]; exact h1 r hr) (fun r hr => by
      rw [vuS]
      by_cases c : r = l
      · subst c; rw [pk_uLs]
      · rw [pk_uLn c]; exact h2 r (by omega))
    exact ⟨above', g1, g2, fun j hj => by rw [g3 j hj, vuN hj]⟩
theorem dm1 (s : Nat) : nI s + (-1) = nI s - 1 := (Int32.sub_eq_add_neg (nI s) 1).symm
theorem widthN {lo hi : Nat} (h : lo ≤ hi) (h9 : hi ≤ 9) : (nI hi - nI lo + 1).toInt64 = lN (hi + 1 - lo) := by
  rw [pk_sub h, nI_1, nI_l (by omega), show hi - lo + 1 = hi + 1 - lo by omega]
theorem weigh2 {N d : Nat} {lo hi : Nat → Nat} {fr to : Nat → Int32} (hN : 70000 ≤ N) (hd : d ≤ 9) (hr : ∀ j, j < d → lo j ≤ hi j ∧ hi j ≤ 9) (hft : ∀ j, j < d → fr j = nI (lo j) ∧ to j = nI (hi j)) :
    ∀ (s fuel : Nat) (above : Nat → Nat → Int64) (below : Nat → Int64), s ≤ d → s < fuel → (∀ t, s + t ≤ d → below (d - t) = lN (wB lo hi d t) ∧ ∀ r, r ≤ t → above (d - t) r = lN (wA lo hi d t r)) →
      ∃ (above' : Nat → Nat → Int64) (below' : Nat → Int64), fX4_weighDownFrom_L2 N (nI d) fr to fuel (nI s - 1) above below = some (above', below') ∧ ∀ t, t ≤ d → below' (d - t) = lN (wB lo hi d t) ∧ ∀ r, r ≤ t → above' (d - t) r = lN (wA lo hi d t r)
  | s, 0, above, below, h1, h2, h3 => absurd h2 (by omega)
  | 0, fuel + 1, above, below, h1, h2, h3 => by
    refine ⟨above, below, ?_, fun t ht => h3 t (by omega)⟩
    rw [fX4_weighDownFrom_L2, if_pos (show nI 0 - 1 < 0 by decide)]
  | s + 1, fuel + 1, above, below, h1, h2, h3 => by
    have hs : s + (d - s - 1) + 1 = d := by omega
    obtain ⟨f1, f2⟩ := hft s (by omega)
    obtain ⟨k1, k2⟩ := hr s (by omega)
    obtain ⟨y1, y2⟩ := h3 (d - s - 1) (by omega)
    rw [show d - (d - s - 1) = s + 1 by omega] at y1 y2
    have hv : (nI (hi s) - nI (lo s) + 1).toInt64 * below (s + 1) = lN (wB lo hi d (d - s - 1 + 1)) := by
      rw [widthN k1 k2, y1, lN_mul, wB, show d - (d - s - 1 + 1) = s by omega]
    rw [fX4_weighDownFrom_L2, nI_pred, if_neg (nI_pos (by omega)), if_neg (bnd (by omega) (by omega)), nI_1 s, if_neg (bnd (by omega) (by omega)), if_neg (bnd (by omega) (by omega)), nI_clamp (n := s) (by omega), nI_clamp (n := s + 1) (by omega), f1, f2, hv]
    obtain ⟨above', g1, g2, g3⟩ := weigh39 (N := N) (K := fun (x3_9 : Int32) (v_above_9 : Nat → Nat → Int64) => fX4_weighDownFrom_L2 N (nI d) fr to fuel (nI s + (-1)) v_above_9 (vp_updL below s (lN (wB lo hi d (d - s - 1 + 1))))) (below := vp_updL below s (lN (wB lo hi d (d - s - 1 + 1)))) hN hd hs hr f1 f2 (by rw [pk_uLn (by omega)]; exact y1) (d - s - 1 + 2) 0 N above (by omega) (by omega) y2 (fun r hr => absurd hr (by omega))
    have ih := weigh2 (N := N) hN hd hr hft s fuel above' (vp_updL below s (lN (wB lo hi d (d - s - 1 + 1)))) (by omega) (by omega) (fun t ht => by
      by_cases c : t = d - s - 1 + 1
      · subst c
        rw [show d - (d - s - 1 + 1) = s by omega, pk_uLs]
        exact ⟨rfl, fun r hr => g2 r hr⟩
      · rw [pk_uLn (by omega), g3 _ (by omega)]
        exact h3 t (by omega))
    obtain ⟨a1, b1, i1, i2⟩ := ih
    refine ⟨a1, b1, ?_, i2⟩
    rw [← i1, ← dm1]
    exact g1
theorem find67 {N i d t : Nat} {lo hi : Nat → Nat} {fr to : Nat → Int32} {below : Nat → Int64} {K : Int32 → (Nat → Int64) → Option ((Nat → Int64) × (Nat → Int64))} (hN : 70000 ≤ N) (hd : d ≤ 9) (hi0 : i + t + 1 = d) (hr : ∀ j, j < d → lo j ≤ hi j ∧ hi j ≤ 9) (hfr : fr i = nI (lo i)) (hto : to i = nI (hi i)) (hb : below (i + 1) = lN (wB lo hi d t)) :
    ∀ (m l fuel : Nat) (sums : Nat → Int64), l + m = t + 2 → m < fuel → (∀ r, r ≤ t → sums (10 * (i + 1) + r) = lN (wA lo hi d t r)) → (∀ r, r < l → sums (10 * i + r) = lN (wA lo hi d (t + 1) r)) →
      ∃ sums' : Nat → Int64, fX7_findWorths_L67 N (nI i) (nI d) fr to below K fuel (nI l) sums = K (nI (t + 2)) sums' ∧ (∀ r, r ≤ t + 1 → sums' (10 * i + r) = lN (wA lo hi d (t + 1) r)) ∧ (∀ j, 10 * i + 10 ≤ j → sums' j = sums j)
  | 0, l, 0, sums, e, hf, h1, h2 => absurd hf (by omega)
  | m + 1, l, 0, sums, e, hf, h1, h2 => absurd hf (by omega)
  | 0, l, fuel + 1, sums, e, hf, h1, h2 => by
    refine ⟨sums, ?_, fun r hr => h2 r (by omega), fun _ _ => rfl⟩
    rw [fX7_findWorths_L67, pk_sub (by omega), if_pos (nI_lt (by omega) (by omega)), show l = t + 2 by omega]
  | m + 1, l, fuel + 1, sums, e, hf, h1, h2 => by
    obtain ⟨b1, b2, b3⟩ := wbd hd hr t (by omega)
    obtain ⟨k1, k2⟩ := hr i (by omega)
    rw [fX7_findWorths_L67, pk_sub (by omega), if_neg (nI_nlt (by omega) (by omega)), if_neg (bnd (by omega) (by omega)), nI_clamp (n := i) (by omega), hfr, lN_0, spanM hd hi0 (by omega) k2 hto hb h1 b2 b3 (hi i + 1 - lo i) (lo i) N 0 (by omega) (by omega), show (10 : Int32) * nI i = nI (10 * i) from pk_mul 10 i, nI_add, if_neg (bnd (by omega) (by omega)), nI_clamp (n := 10 * i + l) (by omega), nI_1 l, Nat.zero_add, ← wA_G hi0]
    obtain ⟨sums', g1, g2, g3⟩ := find67 (K := K) hN hd hi0 hr hfr hto hb m (l + 1) fuel (vp_updL sums (10 * i + l) (lN (wA lo hi d (t + 1) l))) (by omega) (by omega) (fun r hr => by rw [pk_uLn (by omega)]; exact h1 r hr) (fun r hr => by
      by_cases c : r = l
      · subst c; rw [pk_uLs]
      · rw [pk_uLn (by omega)]; exact h2 r (by omega))
    exact ⟨sums', g1, g2, fun j hj => by rw [g3 j hj, pk_uLn (by omega)]⟩
theorem find30 {N d : Nat} {lo hi : Nat → Nat} {fr to : Nat → Int32} (hN : 70000 ≤ N) (hd : d ≤ 9) (hr : ∀ j, j < d → lo j ≤ hi j ∧ hi j ≤ 9) (hft : ∀ j, j < d → fr j = nI (lo j) ∧ to j = nI (hi j)) :
    ∀ (s fuel : Nat) (sums below : Nat → Int64), s ≤ d → s < fuel → (∀ t, s + t ≤ d → below (d - t) = lN (wB lo hi d t) ∧ ∀ r, r ≤ t → sums (10 * (d - t) + r) = lN (wA lo hi d t r)) →
      ∃ (sums' below' : Nat → Int64), fX7_findWorths_L30 N (nI d) fr to fuel (nI s - 1) sums below = some (sums', below') ∧ ∀ t, t ≤ d → below' (d - t) = lN (wB lo hi d t) ∧ ∀ r, r ≤ t → sums' (10 * (d - t) + r) = lN (wA lo hi d t r)
  | s, 0, sums, below, h1, h2, h3 => absurd h2 (by omega)
  | 0, fuel + 1, sums, below, h1, h2, h3 => by
    refine ⟨sums, below, ?_, fun t ht => h3 t (by omega)⟩
    rw [fX7_findWorths_L30, if_pos (show nI 0 - 1 < 0 by decide)]
  | s + 1, fuel + 1, sums, below, h1, h2, h3 => by
    have hs : s + (d - s - 1) + 1 = d := by omega
    obtain ⟨f1, f2⟩ := hft s (by omega)
    obtain ⟨k1, k2⟩ := hr s (by omega)
    obtain ⟨y1, y2⟩ := h3 (d - s - 1) (by omega)
    rw [show d - (d - s - 1) = s + 1 by omega] at y1 y2
    have hv : below (s + 1) * (nI (hi s) - nI (lo s) + 1).toInt64 = lN (wB lo hi d (d - s - 1 + 1)) := by
      rw [widthN k1 k2, y1, lN_mul, wB, show d - (d - s - 1 + 1) = s by omega, Nat.mul_comm]
    rw [fX7_findWorths_L30, nI_pred, if_neg (nI_pos (by omega)), nI_1 s, if_neg (bnd (by omega) (by omega)), if_neg (bnd (by omega) (by omega)), if_neg (bnd (by omega) (by omega)), nI_clamp (n := s) (by omega), nI_clamp (n := s + 1) (by omega), f1, f2, hv]
    obtain ⟨sums', g1, g2, g3⟩ := find67 (N := N) (K := fun (x2_24 : Int32) (v_sums_24 : Nat → Int64) => fX7_findWorths_L30 N (nI d) fr to fuel (nI s + (-1)) v_sums_24 (vp_updL below s (lN (wB lo hi d (d - s - 1 + 1))))) (below := vp_updL below s (lN (wB lo hi d (d - s - 1 + 1)))) hN hd hs hr f1 f2 (by rw [pk_uLn (by omega)]; exact y1) (d - s - 1 + 2) 0 N sums (by omega) (by omega) y2 (fun r hr => absurd hr (by omega))
    have ih := find30 (N := N) hN hd hr hft s fuel sums' (vp_updL below s (lN (wB lo hi d (d - s - 1 + 1)))) (by omega) (by omega) (fun t ht => by
      by_cases c : t = d - s - 1 + 1
      · subst c
        rw [show d - (d - s - 1 + 1) = s by omega, pk_uLs]
        exact ⟨rfl, fun r hr => g2 r hr⟩
      · rw [pk_uLn (by omega)]
        refine ⟨(h3 t (by omega)).1, fun r hr => ?_⟩
        rw [g3 _ (by omega)]
        exact (h3 t (by omega)).2 r hr)
    obtain ⟨a1, b1, i1, i2⟩ := ih
    refine ⟨a1, b1, ?_, i2⟩
    rw [← i1, ← dm1]
    exact g1
theorem find_spec {N d : Nat} {lo hi : Nat → Nat} {fr to : Nat → Int32} (hN : 70000 ≤ N) (hd : d ≤ 9) (hr : ∀ j, j < d → lo j ≤ hi j ∧ hi j ≤ 9) (hft : ∀ j, j < d → fr j = nI (lo j) ∧ to j = nI (hi j)) (sums below : Nat → Int64) :
    ∃ (sums' below' : Nat → Int64), fX7_findWorths N (nI d) fr to sums below = some (sums', below') ∧ ∀ t, t ≤ d → below' (d - t) = lN (wB lo hi d t) ∧ ∀ r, r ≤ t → sums' (10 * (d - t) + r) = lN (wA lo hi d t r) := by
  unfold fX7_findWorths
  rw [if_neg (bnd (by omega) (by omega)), show (10 : Int32) * nI d = nI (10 * d) from pk_mul 10 d, if_neg (bnd (by omega) (by omega)), nI_clamp (n := d) (by omega), nI_clamp (n := 10 * d) (by omega)]
  refine find30 hN hd hr hft d N _ _ (by omega) (by omega) (fun t ht => ?_)
  obtain rfl : t = 0 := by omega
  refine ⟨by rw [Nat.sub_zero, pk_uLs]; rfl, fun r hr => ?_⟩
  obtain rfl : r = 0 := by omega
  rw [Nat.sub_zero, Nat.add_zero, pk_uLs]; rfl
