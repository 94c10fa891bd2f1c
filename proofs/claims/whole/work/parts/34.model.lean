/-! X7_worth -/
theorem iw_X7_worth_X7 : ∀ w ∈ wsX70, w ∈ wsX7_worth := by decide +kernel
set_option maxHeartbeats 4000000 in
set_option maxRecDepth 100000 in
theorem tX7_worth (l : Launch) (dC : Nat → ClassId) (dI : Nat → Nat → Nat) (cI cZ cJ cA : ClassId) (sz : Nat) (h0 : Nat) (v_riders : Int32) (v_rides : Int32) (q_riderOf : Nat) (q_waveOf : Nat) (q_marks : Nat) (v_lineMany : Int32) (q_line : Nat) (q_interfered : Nat) (v_isOpen : Int32) (v_group : Int32) (v_wrong : Int32) (q_stood : Nat) (v_pastMany : Int32) (q_past : Nat) (v_days : Int32) (q_low : Nat) (q_high : Nat) (q_was : Nat) (q_best : Nat) (q_second : Nat) (q_total : Nat) (q_givenTo : Nat) (q_has : Nat) (q_own : Nat) (q_sums : Nat) (q_below : Nat) (v_low : Nat → Int32) (v_high : Nat → Int32) (v_sums : Nat → Int64) (v_below : Nat → Int64) (x1 : Int32) (x2 : Int32) (x3 : Int32) (N : Nat) (r0 : Int64) (w_sums : (Nat → Int64)) (w_below : (Nat → Int64)) (hf : fX7_worth N x1 x2 x3 v_days v_low v_high v_sums v_below = some (r0, w_sums, w_below)) : Met l yX7_worth wsX7_worth ({ frames := 1, cells := 0, slots := 0, locals := 29 }) (va_Pc [.ref h0, .int x1, .int x2, .int x3] (fun U => U.heap.size = sz ∧ va_P (dC, dI) vwCl [(h0, .inr (7, [.int v_riders, .int v_rides, .ref q_riderOf, .ref q_waveOf, .ref q_marks, .int v_lineMany, .ref q_line, .ref q_interfered, .int v_isOpen, .int v_group, .int v_wrong, .ref q_stood, .int v_pastMany, .ref q_past, .int v_days, .ref q_low, .ref q_high, .ref q_was, .ref q_best, .ref q_second, .ref q_total, .ref q_givenTo, .ref q_has, .ref q_own, .ref q_sums, .ref q_below])), (q_low, .inl (cI, 9, .inl v_low)), (q_high, .inl (cI, 9, .inl v_high)), (q_sums, .inl (cJ, 100, .inr (.inl v_sums))), (q_below, .inl (cJ, 10, .inr (.inl v_below)))] U.heap ∧ va_K (dC, dI) vwCl [(cI, .int), (cZ, .boolean), (cJ, .long), (cA, .array .long)] U ∧ va_D (fun _ => True) [(h0, .inr (7, [.int v_riders, .int v_rides, .ref q_riderOf, .ref q_waveOf, .ref q_marks, .int v_lineMany, .ref q_line, .ref q_interfered, .int v_isOpen, .int v_group, .int v_wrong, .ref q_stood, .int v_pastMany, .ref q_past, .int v_days, .ref q_low, .ref q_high, .ref q_was, .ref q_best, .ref q_second, .ref q_total, .ref q_givenTo, .ref q_has, .ref q_own, .ref q_sums, .ref q_below])), (q_low, .inl (cI, 9, .inl v_low)), (q_high, .inl (cI, 9, .inl v_high)), (q_sums, .inl (cJ, 100, .inr (.inl v_sums))), (q_below, .inl (cJ, 10, .inr (.inl v_below)))])) (va_Ql (fun (r9 : Int64) (_ : Unit) => r0 = r9) (fun _ t => va_P (dC, dI) vwCl [(h0, .inr (7, [.int v_riders, .int v_rides, .ref q_riderOf, .ref q_waveOf, .ref q_marks, .int v_lineMany, .ref q_line, .ref q_interfered, .int v_isOpen, .int v_group, .int v_wrong, .ref q_stood, .int v_pastMany, .ref q_past, .int v_days, .ref q_low, .ref q_high, .ref q_was, .ref q_best, .ref q_second, .ref q_total, .ref q_givenTo, .ref q_has, .ref q_own, .ref q_sums, .ref q_below])), (q_low, .inl (cI, 9, .inl v_low)), (q_high, .inl (cI, 9, .inl v_high)), (q_sums, .inl (cJ, 100, .inr (.inl w_sums))), (q_below, .inl (cJ, 10, .inr (.inl w_below)))] t.heap ∧ va_D (va_A [(h0, .inr (7, [.int v_riders, .int v_rides, .ref q_riderOf, .ref q_waveOf, .ref q_marks, .int v_lineMany, .ref q_line, .ref q_interfered, .int v_isOpen, .int v_group, .int v_wrong, .ref q_stood, .int v_pastMany, .ref q_past, .int v_days, .ref q_low, .ref q_high, .ref q_was, .ref q_best, .ref q_second, .ref q_total, .ref q_givenTo, .ref q_has, .ref q_own, .ref q_sums, .ref q_below])), (q_low, .inl (cI, 9, .inl v_low)), (q_high, .inl (cI, 9, .inl v_high)), (q_sums, .inl (cJ, 100, .inr (.inl v_sums))), (q_below, .inl (cJ, 10, .inr (.inl v_below)))] sz) [(h0, .inr (7, [.int v_riders, .int v_rides, .ref q_riderOf, .ref q_waveOf, .ref q_marks, .int v_lineMany, .ref q_line, .ref q_interfered, .int v_isOpen, .int v_group, .int v_wrong, .ref q_stood, .int v_pastMany, .ref q_past, .int v_days, .ref q_low, .ref q_high, .ref q_was, .ref q_best, .ref q_second, .ref q_total, .ref q_givenTo, .ref q_has, .ref q_own, .ref q_sums, .ref q_below])), (q_low, .inl (cI, 9, .inl v_low)), (q_high, .inl (cI, 9, .inl v_high)), (q_sums, .inl (cJ, 100, .inr (.inl w_sums))), (q_below, .inl (cJ, 10, .inr (.inl w_below)))]) (va_A [(h0, .inr (7, [.int v_riders, .int v_rides, .ref q_riderOf, .ref q_waveOf, .ref q_marks, .int v_lineMany, .ref q_line, .ref q_interfered, .int v_isOpen, .int v_group, .int v_wrong, .ref q_stood, .int v_pastMany, .ref q_past, .int v_days, .ref q_low, .ref q_high, .ref q_was, .ref q_best, .ref q_second, .ref q_total, .ref q_givenTo, .ref q_has, .ref q_own, .ref q_sums, .ref q_below])), (q_low, .inl (cI, 9, .inl v_low)), (q_high, .inl (cI, 9, .inl v_high)), (q_sums, .inl (cJ, 100, .inr (.inl v_sums))), (q_below, .inl (cJ, 10, .inr (.inl v_below)))] sz)) 0 0 (va_A [(h0, .inr (7, [.int v_riders, .int v_rides, .ref q_riderOf, .ref q_waveOf, .ref q_marks, .int v_lineMany, .ref q_line, .ref q_interfered, .int v_isOpen, .int v_group, .int v_wrong, .ref q_stood, .int v_pastMany, .ref q_past, .int v_days, .ref q_low, .ref q_high, .ref q_was, .ref q_best, .ref q_second, .ref q_total, .ref q_givenTo, .ref q_has, .ref q_own, .ref q_sums, .ref q_below])), (q_low, .inl (cI, 9, .inl v_low)), (q_high, .inl (cI, 9, .inl v_high)), (q_sums, .inl (cJ, 100, .inr (.inl v_sums))), (q_below, .inl (cJ, 10, .inr (.inl v_below)))] sz) := by
  refine Met.ofW (cc := cX7_worth) (maxL := 8) (ret := (some .long)) (by decide) rfl ?_
  intro p e s m args below meth c s₁ B hml hv
  obtain ⟨rfl, hsz, hP, hK, hD0⟩ := hv
  have hx := B.exec
  have hb := B.bytes
  have hr := B.returns
  have hts := atoms_spec (ws := wsX7_worth) B.pre
  have hown : s.vm.findClass RX7 = some m.cls := findClass_of_methodNamed B.named
  have hlocks := B.notSynchronized
  subst hsz
  have hD := hD0.self (sz := s.heap.size)
  generalize hAe : va_A [(h0, .inr (7, [.int v_riders, .int v_rides, .ref q_riderOf, .ref q_waveOf, .ref q_marks, .int v_lineMany, .ref q_line, .ref q_interfered, .int v_isOpen, .int v_group, .int v_wrong, .ref q_stood, .int v_pastMany, .ref q_past, .int v_days, .ref q_low, .ref q_high, .ref q_was, .ref q_best, .ref q_second, .ref q_total, .ref q_givenTo, .ref q_has, .ref q_own, .ref q_sums, .ref q_below])), (q_low, .inl (cI, 9, .inl v_low)), (q_high, .inl (cI, 9, .inl v_high)), (q_sums, .inl (cJ, 100, .inr (.inl v_sums))), (q_below, .inl (cJ, 10, .inr (.inl v_below)))] s.heap.size = A at hD ⊢
  have hA : ∀ q : Nat, s.heap.size ≤ q → A q := fun q h => by rw [← hAe]; exact Or.inr h
  have hS : va_S A s.heap s.heap [] := va_S.rf
  have hl := lv_entry ([.ref h0, .int x1, .int x2, .int x3]) (n := 8) (Nat.le_of_ble_eq_true rfl)
  rw [lg_entry_eq]
  generalize (lg_sl ([.ref h0, .int x1, .int x2, .int x3]) ++ List.replicate (8 - (lg_sl ([.ref h0, .int x1, .int x2, .int x3])).length) Slot.unset).toArray = ls at hl ⊢
  have hl : lv_has ls 8 [(0, .ref h0), (1, .int x1), (2, .int x2), (3, .int x3)] := hl
  refine vx_gen hP hS (fun H locs hP hS => ?_)
  unfold fX7_worth at hf
  refine lv_iload_n hx hb dX7_worth_0 rfl (lv_at hl 1 rfl) ?_
  refine lv_iconst (v := 0) hx hb dX7_worth_1 (by decide) ?_
  refine lv_aload_n hx hb dX7_worth_2 rfl (lv_at hl 0 rfl) ?_
  refine va_get (D := (dC, dI)) (ci := 7) (v := .int v_days) (C := RX7) (T := TX7) (N := 26) hx hb hts iw_X7_worth_X7 hown hK hP 0 rfl rfl 14 (by decide) (hts (.fieldLink RX7 38 "HeatBenchModel" "days" "I") (List.mem_of_getElem? (i := 1) rfl)) (fun _ h9 => h9) rfl dX7_worth_3 ?_
  obtain ⟨r_1, hu_1, hf⟩ := it_b1 hf
  have hPc := hP.sub (ws' := []) [] rfl
  have hDc := hD.sub (ws' := []) [] (by decide) rfl
  have hFc := va_free (wc := []) hD hS hA [] rfl
  refine va_calli (va_runS (As := [.int x1, .int 0, .int v_days]) (rest := []) ⟨hx, hb, hml, hown, hts⟩ (tX7_in l dC dI cI cZ cJ cA H.size x1 0 v_days N r_1 hu_1) (va_cwS 3 hts gX7_worth_X7_in rfl rfl rfl (by decide +kernel) ⟨Nat.le_of_ble_eq_true rfl, Nat.le_of_ble_eq_true rfl⟩) ⟨fun a U g mk q => by obtain ⟨q0, q1, qP, qK, qD⟩ := q; exact ⟨q0, q1, qP, va_K.moved (u := U) (U := U.calling g mk a) (Vm.Alike.refl U.vm) qK, qD⟩, fun U hU hW => ⟨rfl, by rw [hU], by rw [hU]; exact hPc, va_K.moved hW.alike hK, hDc.weaken (fun _ _ _ _ => trivial)⟩⟩ rfl rfl hl.1 rfl (lv_room (Nat.le_of_ble_eq_true rfl)) dX7_worth_6 ⟨Nat.zero_le _, Nat.zero_le _⟩) hS (fun q _ h => hFc q h) hFc (fun r9 u t H1 locs ht hvm hw hB hz1 hk1 hS => ?_)
  obtain ⟨hP1, hD1⟩ := hB
  rw [ht] at hP1
  obtain ⟨hP, hD⟩ := va_join (wr := [(h0, .inr (7, [.int v_riders, .int v_rides, .ref q_riderOf, .ref q_waveOf, .ref q_marks, .int v_lineMany, .ref q_line, .ref q_interfered, .int v_isOpen, .int v_group, .int v_wrong, .ref q_stood, .int v_pastMany, .ref q_past, .int v_days, .ref q_low, .ref q_high, .ref q_was, .ref q_best, .ref q_second, .ref q_total, .ref q_givenTo, .ref q_has, .ref q_own, .ref q_sums, .ref q_below])), (q_low, .inl (cI, 9, .inl v_low)), (q_high, .inl (cI, 9, .inl v_high)), (q_sums, .inl (cJ, 100, .inr (.inl v_sums))), (q_below, .inl (cJ, 10, .inr (.inl v_below)))]) (w1 := []) hP hD [] [0, 1, 2, 3, 4] rfl rfl (by decide) (by decide) hk1 hFc hP1 hD1
  clear hP1 hD1 hk1 hz1 hPc hDc hFc
  generalize H1 = H at hP hS ⊢
  have hP : va_P (dC, dI) vwCl [(h0, .inr (7, [.int v_riders, .int v_rides, .ref q_riderOf, .ref q_waveOf, .ref q_marks, .int v_lineMany, .ref q_line, .ref q_interfered, .int v_isOpen, .int v_group, .int v_wrong, .ref q_stood, .int v_pastMany, .ref q_past, .int v_days, .ref q_low, .ref q_high, .ref q_was, .ref q_best, .ref q_second, .ref q_total, .ref q_givenTo, .ref q_has, .ref q_own, .ref q_sums, .ref q_below])), (q_low, .inl (cI, 9, .inl v_low)), (q_high, .inl (cI, 9, .inl v_high)), (q_sums, .inl (cJ, 100, .inr (.inl v_sums))), (q_below, .inl (cJ, 10, .inr (.inl v_below)))] H := hP
  have hD : va_D A [(h0, .inr (7, [.int v_riders, .int v_rides, .ref q_riderOf, .ref q_waveOf, .ref q_marks, .int v_lineMany, .ref q_line, .ref q_interfered, .int v_isOpen, .int v_group, .int v_wrong, .ref q_stood, .int v_pastMany, .ref q_past, .int v_days, .ref q_low, .ref q_high, .ref q_was, .ref q_best, .ref q_second, .ref q_total, .ref q_givenTo, .ref q_has, .ref q_own, .ref q_sums, .ref q_below])), (q_low, .inl (cI, 9, .inl v_low)), (q_high, .inl (cI, 9, .inl v_high)), (q_sums, .inl (cJ, 100, .inr (.inl v_sums))), (q_below, .inl (cJ, 10, .inr (.inl v_below)))] := hD
  subst hw
  refine lv_if_eq (tgt := 31) hx hb dX7_worth_9 (by decide) (fun h_2 => ?_) (fun h_2 => ?_)
  · have hf := it_t h_2 hf
    refine lv_ldc2 (v := (-9)) hx hb hown (hts (.constantLong RX7 163 (-9)) (List.mem_of_getElem? (i := 2) rfl)) dX7_worth_31 ?_
    cases hf
    exact W.lret hx hb hr (fun t ht hW => ⟨⟨_, (), rfl, rfl, by rw [ht]; exact hP, hD⟩, hS.F ht⟩) hS.2.2 dX7_worth_34
  · have hf := it_f h_2 hf
    refine lv_iload_n hx hb dX7_worth_12 rfl (lv_at hl 2 rfl) ?_
    refine lv_iconst (v := 0) hx hb dX7_worth_13 (by decide) ?_
    refine lv_bipush (v := 9) hx hb dX7_worth_14 (by decide) ?_
    obtain ⟨r_3, hu_3, hf⟩ := it_b1 hf
    have hPc := hP.sub (ws' := []) [] rfl
    have hDc := hD.sub (ws' := []) [] (by decide) rfl
    have hFc := va_free (wc := []) hD hS hA [] rfl
    refine va_calli (va_runS (As := [.int x2, .int 0, .int 9]) (rest := []) ⟨hx, hb, hml, hown, hts⟩ (tX7_in l dC dI cI cZ cJ cA H.size x2 0 9 N r_3 hu_3) (va_cwS 3 hts gX7_worth_X7_in rfl rfl rfl (by decide +kernel) ⟨Nat.le_of_ble_eq_true rfl, Nat.le_of_ble_eq_true rfl⟩) ⟨fun a U g mk q => by obtain ⟨q0, q1, qP, qK, qD⟩ := q; exact ⟨q0, q1, qP, va_K.moved (u := U) (U := U.calling g mk a) (Vm.Alike.refl U.vm) qK, qD⟩, fun U hU hW => ⟨rfl, by rw [hU], by rw [hU]; exact hPc, va_K.moved hW.alike hK, hDc.weaken (fun _ _ _ _ => trivial)⟩⟩ rfl rfl hl.1 rfl (lv_room (Nat.le_of_ble_eq_true rfl)) dX7_worth_16 ⟨Nat.zero_le _, Nat.zero_le _⟩) hS (fun q _ h => hFc q h) hFc (fun r9 u t H1 locs ht hvm hw hB hz1 hk1 hS => ?_)
    obtain ⟨hP1, hD1⟩ := hB
    rw [ht] at hP1
    obtain ⟨hP, hD⟩ := va_join (wr := [(h0, .inr (7, [.int v_riders, .int v_rides, .ref q_riderOf, .ref q_waveOf, .ref q_marks, .int v_lineMany, .ref q_line, .ref q_interfered, .int v_isOpen, .int v_group, .int v_wrong, .ref q_stood, .int v_pastMany, .ref q_past, .int v_days, .ref q_low, .ref q_high, .ref q_was, .ref q_best, .ref q_second, .ref q_total, .ref q_givenTo, .ref q_has, .ref q_own, .ref q_sums, .ref q_below])), (q_low, .inl (cI, 9, .inl v_low)), (q_high, .inl (cI, 9, .inl v_high)), (q_sums, .inl (cJ, 100, .inr (.inl v_sums))), (q_below, .inl (cJ, 10, .inr (.inl v_below)))]) (w1 := []) hP hD [] [0, 1, 2, 3, 4] rfl rfl (by decide) (by decide) hk1 hFc hP1 hD1
    clear hP1 hD1 hk1 hz1 hPc hDc hFc
    generalize H1 = H at hP hS ⊢
    have hP : va_P (dC, dI) vwCl [(h0, .inr (7, [.int v_riders, .int v_rides, .ref q_riderOf, .ref q_waveOf, .ref q_marks, .int v_lineMany, .ref q_line, .ref q_interfered, .int v_isOpen, .int v_group, .int v_wrong, .ref q_stood, .int v_pastMany, .ref q_past, .int v_days, .ref q_low, .ref q_high, .ref q_was, .ref q_best, .ref q_second, .ref q_total, .ref q_givenTo, .ref q_has, .ref q_own, .ref q_sums, .ref q_below])), (q_low, .inl (cI, 9, .inl v_low)), (q_high, .inl (cI, 9, .inl v_high)), (q_sums, .inl (cJ, 100, .inr (.inl v_sums))), (q_below, .inl (cJ, 10, .inr (.inl v_below)))] H := hP
    have hD : va_D A [(h0, .inr (7, [.int v_riders, .int v_rides, .ref q_riderOf, .ref q_waveOf, .ref q_marks, .int v_lineMany, .ref q_line, .ref q_interfered, .int v_isOpen, .int v_group, .int v_wrong, .ref q_stood, .int v_pastMany, .ref q_past, .int v_days, .ref q_low, .ref q_high, .ref q_was, .ref q_best, .ref q_second, .ref q_total, .ref q_givenTo, .ref q_has, .ref q_own, .ref q_sums, .ref q_below])), (q_low, .inl (cI, 9, .inl v_low)), (q_high, .inl (cI, 9, .inl v_high)), (q_sums, .inl (cJ, 100, .inr (.inl v_sums))), (q_below, .inl (cJ, 10, .inr (.inl v_below)))] := hD
    subst hw
    refine lv_if_eq (tgt := 31) hx hb dX7_worth_19 (by decide) (fun h_4 => ?_) (fun h_4 => ?_)
    · have hf := it_t h_4 hf
      refine lv_ldc2 (v := (-9)) hx hb hown (hts (.constantLong RX7 163 (-9)) (List.mem_of_getElem? (i := 2) rfl)) dX7_worth_31 ?_
      cases hf
      exact W.lret hx hb hr (fun t ht hW => ⟨⟨_, (), rfl, rfl, by rw [ht]; exact hP, hD⟩, hS.F ht⟩) hS.2.2 dX7_worth_34
    · have hf := it_f h_4 hf
      refine lv_iload_n hx hb dX7_worth_22 rfl (lv_at hl 3 rfl) ?_
      refine lv_iconst (v := 0) hx hb dX7_worth_23 (by decide) ?_
      refine lv_iconst (v := 1) hx hb dX7_worth_24 (by decide) ?_
      obtain ⟨r_5, hu_5, hf⟩ := it_b1 hf
      have hPc := hP.sub (ws' := []) [] rfl
      have hDc := hD.sub (ws' := []) [] (by decide) rfl
      have hFc := va_free (wc := []) hD hS hA [] rfl
      refine va_calli (va_runS (As := [.int x3, .int 0, .int 1]) (rest := []) ⟨hx, hb, hml, hown, hts⟩ (tX7_in l dC dI cI cZ cJ cA H.size x3 0 1 N r_5 hu_5) (va_cwS 3 hts gX7_worth_X7_in rfl rfl rfl (by decide +kernel) ⟨Nat.le_of_ble_eq_true rfl, Nat.le_of_ble_eq_true rfl⟩) ⟨fun a U g mk q => by obtain ⟨q0, q1, qP, qK, qD⟩ := q; exact ⟨q0, q1, qP, va_K.moved (u := U) (U := U.calling g mk a) (Vm.Alike.refl U.vm) qK, qD⟩, fun U hU hW => ⟨rfl, by rw [hU], by rw [hU]; exact hPc, va_K.moved hW.alike hK, hDc.weaken (fun _ _ _ _ => trivial)⟩⟩ rfl rfl hl.1 rfl (lv_room (Nat.le_of_ble_eq_true rfl)) dX7_worth_25 ⟨Nat.zero_le _, Nat.zero_le _⟩) hS (fun q _ h => hFc q h) hFc (fun r9 u t H1 locs ht hvm hw hB hz1 hk1 hS => ?_)
      obtain ⟨hP1, hD1⟩ := hB
      rw [ht] at hP1
      obtain ⟨hP, hD⟩ := va_join (wr := [(h0, .inr (7, [.int v_riders, .int v_rides, .ref q_riderOf, .ref q_waveOf, .ref q_marks, .int v_lineMany, .ref q_line, .ref q_interfered, .int v_isOpen, .int v_group, .int v_wrong, .ref q_stood, .int v_pastMany, .ref q_past, .int v_days, .ref q_low, .ref q_high, .ref q_was, .ref q_best, .ref q_second, .ref q_total, .ref q_givenTo, .ref q_has, .ref q_own, .ref q_sums, .ref q_below])), (q_low, .inl (cI, 9, .inl v_low)), (q_high, .inl (cI, 9, .inl v_high)), (q_sums, .inl (cJ, 100, .inr (.inl v_sums))), (q_below, .inl (cJ, 10, .inr (.inl v_below)))]) (w1 := []) hP hD [] [0, 1, 2, 3, 4] rfl rfl (by decide) (by decide) hk1 hFc hP1 hD1
      clear hP1 hD1 hk1 hz1 hPc hDc hFc
      generalize H1 = H at hP hS ⊢
      have hP : va_P (dC, dI) vwCl [(h0, .inr (7, [.int v_riders, .int v_rides, .ref q_riderOf, .ref q_waveOf, .ref q_marks, .int v_lineMany, .ref q_line, .ref q_interfered, .int v_isOpen, .int v_group, .int v_wrong, .ref q_stood, .int v_pastMany, .ref q_past, .int v_days, .ref q_low, .ref q_high, .ref q_was, .ref q_best, .ref q_second, .ref q_total, .ref q_givenTo, .ref q_has, .ref q_own, .ref q_sums, .ref q_below])), (q_low, .inl (cI, 9, .inl v_low)), (q_high, .inl (cI, 9, .inl v_high)), (q_sums, .inl (cJ, 100, .inr (.inl v_sums))), (q_below, .inl (cJ, 10, .inr (.inl v_below)))] H := hP
      have hD : va_D A [(h0, .inr (7, [.int v_riders, .int v_rides, .ref q_riderOf, .ref q_waveOf, .ref q_marks, .int v_lineMany, .ref q_line, .ref q_interfered, .int v_isOpen, .int v_group, .int v_wrong, .ref q_stood, .int v_pastMany, .ref q_past, .int v_days, .ref q_low, .ref q_high, .ref q_was, .ref q_best, .ref q_second, .ref q_total, .ref q_givenTo, .ref q_has, .ref q_own, .ref q_sums, .ref q_below])), (q_low, .inl (cI, 9, .inl v_low)), (q_high, .inl (cI, 9, .inl v_high)), (q_sums, .inl (cJ, 100, .inr (.inl v_sums))), (q_below, .inl (cJ, 10, .inr (.inl v_below)))] := hD
      subst hw
      refine lv_if_ne (tgt := 35) hx hb dX7_worth_28 (by decide) (fun h_6 => ?_) (fun h_6 => ?_)
      · have hf := it_f h_6 hf
        refine lv_aload_n hx hb dX7_worth_35 rfl (lv_at hl 0 rfl) ?_
        refine va_get (D := (dC, dI)) (ci := 7) (v := .int v_days) (C := RX7) (T := TX7) (N := 26) hx hb hts iw_X7_worth_X7 hown hK hP 0 rfl rfl 14 (by decide) (hts (.fieldLink RX7 38 "HeatBenchModel" "days" "I") (List.mem_of_getElem? (i := 1) rfl)) (fun _ h9 => h9) rfl dX7_worth_36 ?_
        refine lv_iload_n hx hb dX7_worth_39 rfl (lv_at hl 1 rfl) ?_
        refine lv_isub hx hb dX7_worth_40 ?_
        refine lv_iload_n hx hb dX7_worth_41 rfl (lv_at hl 2 rfl) ?_
        refine lv_icmp_ge (tgt := 49) hx hb dX7_worth_42 (by decide) (fun h_7 => ?_) (fun h_7 => ?_)
        · have hf := it_t h_7 hf
          refine lv_aload_n hx hb dX7_worth_49 rfl (lv_at hl 0 rfl) ?_
          obtain ⟨o_8_sums, o_8_below, hu_8, hf⟩ := it_b2 hf
          have hPc := hP.sub (ws' := [(h0, .inr (7, [.int v_riders, .int v_rides, .ref q_riderOf, .ref q_waveOf, .ref q_marks, .int v_lineMany, .ref q_line, .ref q_interfered, .int v_isOpen, .int v_group, .int v_wrong, .ref q_stood, .int v_pastMany, .ref q_past, .int v_days, .ref q_low, .ref q_high, .ref q_was, .ref q_best, .ref q_second, .ref q_total, .ref q_givenTo, .ref q_has, .ref q_own, .ref q_sums, .ref q_below])), (q_low, .inl (cI, 9, .inl v_low)), (q_high, .inl (cI, 9, .inl v_high)), (q_sums, .inl (cJ, 100, .inr (.inl v_sums))), (q_below, .inl (cJ, 10, .inr (.inl v_below)))]) [0, 1, 2, 3, 4] rfl
          have hDc := hD.sub (ws' := [(h0, .inr (7, [.int v_riders, .int v_rides, .ref q_riderOf, .ref q_waveOf, .ref q_marks, .int v_lineMany, .ref q_line, .ref q_interfered, .int v_isOpen, .int v_group, .int v_wrong, .ref q_stood, .int v_pastMany, .ref q_past, .int v_days, .ref q_low, .ref q_high, .ref q_was, .ref q_best, .ref q_second, .ref q_total, .ref q_givenTo, .ref q_has, .ref q_own, .ref q_sums, .ref q_below])), (q_low, .inl (cI, 9, .inl v_low)), (q_high, .inl (cI, 9, .inl v_high)), (q_sums, .inl (cJ, 100, .inr (.inl v_sums))), (q_below, .inl (cJ, 10, .inr (.inl v_below)))]) [0, 1, 2, 3, 4] (by decide) rfl
          have hFc := va_free (wc := [(h0, .inr (7, [.int v_riders, .int v_rides, .ref q_riderOf, .ref q_waveOf, .ref q_marks, .int v_lineMany, .ref q_line, .ref q_interfered, .int v_isOpen, .int v_group, .int v_wrong, .ref q_stood, .int v_pastMany, .ref q_past, .int v_days, .ref q_low, .ref q_high, .ref q_was, .ref q_best, .ref q_second, .ref q_total, .ref q_givenTo, .ref q_has, .ref q_own, .ref q_sums, .ref q_below])), (q_low, .inl (cI, 9, .inl v_low)), (q_high, .inl (cI, 9, .inl v_high)), (q_sums, .inl (cJ, 100, .inr (.inl v_sums))), (q_below, .inl (cJ, 10, .inr (.inl v_below)))]) hD hS hA [0, 1, 2, 3, 4] rfl
          refine va_callv (va_runV (As := []) (rest := []) ⟨hx, hb, hml, hown, hts⟩ (tX7_findWorths l dC dI cI cZ cJ cA H.size h0 v_riders v_rides q_riderOf q_waveOf q_marks v_lineMany q_line q_interfered v_isOpen v_group v_wrong q_stood v_pastMany q_past v_days q_low q_high q_was q_best q_second q_total q_givenTo q_has q_own q_sums q_below v_low v_high v_sums v_below N o_8_sums o_8_below hu_8) (cwV 0 hts gX7_worth_X7_findWorths rfl rfl rfl (by decide +kernel) ⟨Nat.le_of_ble_eq_true rfl, Nat.le_of_ble_eq_true rfl⟩) ⟨fun a U g mk q => by obtain ⟨q0, q1, qP, qK, qD⟩ := q; exact ⟨q0, q1, qP, va_K.moved (u := U) (U := U.calling g mk a) (Vm.Alike.refl U.vm) qK, qD⟩, va_recv hK hPc (ci := 7) (q0 := 0) rfl rfl, fun U hU hW => ⟨rfl, by rw [hU], by rw [hU]; exact hPc, va_K.moved hW.alike hK, hDc.weaken (fun _ _ _ _ => trivial)⟩⟩ rfl rfl hl.1 rfl (lv_room (Nat.le_of_ble_eq_true rfl)) dX7_worth_50 ⟨Nat.zero_le _, Nat.zero_le _⟩) hS (fun q _ h => hFc q h) hFc (fun u t H1 locs ht hvm hw hB hz1 hk1 hS => ?_)
          obtain ⟨hP1, hD1⟩ := hB
          rw [ht] at hP1
          obtain ⟨hP, hD⟩ := va_join (wr := []) (w1 := [(h0, .inr (7, [.int v_riders, .int v_rides, .ref q_riderOf, .ref q_waveOf, .ref q_marks, .int v_lineMany, .ref q_line, .ref q_interfered, .int v_isOpen, .int v_group, .int v_wrong, .ref q_stood, .int v_pastMany, .ref q_past, .int v_days, .ref q_low, .ref q_high, .ref q_was, .ref q_best, .ref q_second, .ref q_total, .ref q_givenTo, .ref q_has, .ref q_own, .ref q_sums, .ref q_below])), (q_low, .inl (cI, 9, .inl v_low)), (q_high, .inl (cI, 9, .inl v_high)), (q_sums, .inl (cJ, 100, .inr (.inl o_8_sums))), (q_below, .inl (cJ, 10, .inr (.inl o_8_below)))]) hP hD [0, 1, 2, 3, 4] [] rfl rfl (by decide) (by decide) hk1 hFc hP1 hD1
          clear hP1 hD1 hk1 hz1 hPc hDc hFc
          generalize H1 = H at hP hS ⊢
          have hP : va_P (dC, dI) vwCl [(h0, .inr (7, [.int v_riders, .int v_rides, .ref q_riderOf, .ref q_waveOf, .ref q_marks, .int v_lineMany, .ref q_line, .ref q_interfered, .int v_isOpen, .int v_group, .int v_wrong, .ref q_stood, .int v_pastMany, .ref q_past, .int v_days, .ref q_low, .ref q_high, .ref q_was, .ref q_best, .ref q_second, .ref q_total, .ref q_givenTo, .ref q_has, .ref q_own, .ref q_sums, .ref q_below])), (q_low, .inl (cI, 9, .inl v_low)), (q_high, .inl (cI, 9, .inl v_high)), (q_sums, .inl (cJ, 100, .inr (.inl o_8_sums))), (q_below, .inl (cJ, 10, .inr (.inl o_8_below)))] H := hP
          have hD : va_D A [(h0, .inr (7, [.int v_riders, .int v_rides, .ref q_riderOf, .ref q_waveOf, .ref q_marks, .int v_lineMany, .ref q_line, .ref q_interfered, .int v_isOpen, .int v_group, .int v_wrong, .ref q_stood, .int v_pastMany, .ref q_past, .int v_days, .ref q_low, .ref q_high, .ref q_was, .ref q_best, .ref q_second, .ref q_total, .ref q_givenTo, .ref q_has, .ref q_own, .ref q_sums, .ref q_below])), (q_low, .inl (cI, 9, .inl v_low)), (q_high, .inl (cI, 9, .inl v_high)), (q_sums, .inl (cJ, 100, .inr (.inl o_8_sums))), (q_below, .inl (cJ, 10, .inr (.inl o_8_below)))] := hD
          refine lv_aload_n hx hb dX7_worth_53 rfl (lv_at hl 0 rfl) ?_
          refine va_get (D := (dC, dI)) (ci := 7) (v := .ref q_sums) (C := RX7) (T := TX7) (N := 26) hx hb hts iw_X7_worth_X7 hown hK hP 0 rfl rfl 24 (by decide) (hts (.fieldLink RX7 68 "HeatBenchModel" "sums" "[J") (List.mem_of_getElem? (i := 4) rfl)) (fun _ h9 => h9) rfl dX7_worth_54 ?_
          refine lv_bipush (v := 10) hx hb dX7_worth_57 (by decide) ?_
          refine lv_iload_n hx hb dX7_worth_59 rfl (lv_at hl 1 rfl) ?_
          refine lv_imul hx hb dX7_worth_60 ?_
          refine lv_iload_n hx hb dX7_worth_61 rfl (lv_at hl 2 rfl) ?_
          refine lv_iadd hx hb dX7_worth_62 ?_
          obtain ⟨h_9, hf⟩ := it_n hf
          refine va_lald hx hb hK hP 3 2 rfl rfl h_9 dX7_worth_63 ?_
          refine lv_lstore (lv' := [(4, .long (o_8_sums ((10 * x1) + x2).toNatClampNeg)), (0, .ref h0), (1, .int x1), (2, .int x2), (3, .int x3)]) hx hb dX7_worth_64 hl (by decide) rfl (fun ls hl => ?_)
          refine lv_lload hx hb dX7_worth_66 (lv_at hl 0 rfl) ?_
          refine lv_aload_n hx hb dX7_worth_68 rfl (lv_at hl 1 rfl) ?_
          refine va_get (D := (dC, dI)) (ci := 7) (v := .ref q_below) (C := RX7) (T := TX7) (N := 26) hx hb hts iw_X7_worth_X7 hown hK hP 0 rfl rfl 25 (by decide) (hts (.fieldLink RX7 72 "HeatBenchModel" "below" "[J") (List.mem_of_getElem? (i := 5) rfl)) (fun _ h9 => h9) rfl dX7_worth_69 ?_
          refine lv_iload_n hx hb dX7_worth_72 rfl (lv_at hl 2 rfl) ?_
          obtain ⟨h_10, hf⟩ := it_n hf
          refine va_lald hx hb hK hP 4 2 rfl rfl h_10 dX7_worth_73 ?_
          obtain ⟨r_11, hu_11, hf⟩ := it_b1 hf
          have hPc := hP.sub (ws' := []) [] rfl
          have hDc := hD.sub (ws' := []) [] (by decide) rfl
          have hFc := va_free (wc := []) hD hS hA [] rfl
          refine va_calll (va_runS (As := [.long (o_8_sums ((10 * x1) + x2).toNatClampNeg), .long (o_8_below x1.toNatClampNeg)]) (rest := []) ⟨hx, hb, hml, hown, hts⟩ (tX7_common l dC dI cI cZ cJ cA H.size (o_8_sums ((10 * x1) + x2).toNatClampNeg) (o_8_below x1.toNatClampNeg) N r_11 hu_11) (va_cwS 2 hts gX7_worth_X7_common rfl rfl rfl (by decide +kernel) ⟨Nat.le_of_ble_eq_true rfl, Nat.le_of_ble_eq_true rfl⟩) ⟨fun a U g mk q => by obtain ⟨q0, q1, qP, qK, qD⟩ := q; exact ⟨q0, q1, qP, va_K.moved (u := U) (U := U.calling g mk a) (Vm.Alike.refl U.vm) qK, qD⟩, fun U hU hW => ⟨rfl, by rw [hU], by rw [hU]; exact hPc, va_K.moved hW.alike hK, hDc.weaken (fun _ _ _ _ => trivial)⟩⟩ rfl rfl hl.1 rfl (lv_room (Nat.le_of_ble_eq_true rfl)) dX7_worth_74 ⟨Nat.zero_le _, Nat.zero_le _⟩) hS (fun q _ h => hFc q h) hFc (fun r9 u t H1 locs ht hvm hw hB hz1 hk1 hS => ?_)
          obtain ⟨hP1, hD1⟩ := hB
          rw [ht] at hP1
          obtain ⟨hP, hD⟩ := va_join (wr := [(h0, .inr (7, [.int v_riders, .int v_rides, .ref q_riderOf, .ref q_waveOf, .ref q_marks, .int v_lineMany, .ref q_line, .ref q_interfered, .int v_isOpen, .int v_group, .int v_wrong, .ref q_stood, .int v_pastMany, .ref q_past, .int v_days, .ref q_low, .ref q_high, .ref q_was, .ref q_best, .ref q_second, .ref q_total, .ref q_givenTo, .ref q_has, .ref q_own, .ref q_sums, .ref q_below])), (q_low, .inl (cI, 9, .inl v_low)), (q_high, .inl (cI, 9, .inl v_high)), (q_sums, .inl (cJ, 100, .inr (.inl o_8_sums))), (q_below, .inl (cJ, 10, .inr (.inl o_8_below)))]) (w1 := []) hP hD [] [0, 1, 2, 3, 4] rfl rfl (by decide) (by decide) hk1 hFc hP1 hD1
          clear hP1 hD1 hk1 hz1 hPc hDc hFc
          generalize H1 = H at hP hS ⊢
          have hP : va_P (dC, dI) vwCl [(h0, .inr (7, [.int v_riders, .int v_rides, .ref q_riderOf, .ref q_waveOf, .ref q_marks, .int v_lineMany, .ref q_line, .ref q_interfered, .int v_isOpen, .int v_group, .int v_wrong, .ref q_stood, .int v_pastMany, .ref q_past, .int v_days, .ref q_low, .ref q_high, .ref q_was, .ref q_best, .ref q_second, .ref q_total, .ref q_givenTo, .ref q_has, .ref q_own, .ref q_sums, .ref q_below])), (q_low, .inl (cI, 9, .inl v_low)), (q_high, .inl (cI, 9, .inl v_high)), (q_sums, .inl (cJ, 100, .inr (.inl o_8_sums))), (q_below, .inl (cJ, 10, .inr (.inl o_8_below)))] H := hP
          have hD : va_D A [(h0, .inr (7, [.int v_riders, .int v_rides, .ref q_riderOf, .ref q_waveOf, .ref q_marks, .int v_lineMany, .ref q_line, .ref q_interfered, .int v_isOpen, .int v_group, .int v_wrong, .ref q_stood, .int v_pastMany, .ref q_past, .int v_days, .ref q_low, .ref q_high, .ref q_was, .ref q_best, .ref q_second, .ref q_total, .ref q_givenTo, .ref q_has, .ref q_own, .ref q_sums, .ref q_below])), (q_low, .inl (cI, 9, .inl v_low)), (q_high, .inl (cI, 9, .inl v_high)), (q_sums, .inl (cJ, 100, .inr (.inl o_8_sums))), (q_below, .inl (cJ, 10, .inr (.inl o_8_below)))] := hD
          subst hw
          refine lv_lstore (lv' := [(6, .long r_11), (4, .long (o_8_sums ((10 * x1) + x2).toNatClampNeg)), (0, .ref h0), (1, .int x1), (2, .int x2), (3, .int x3)]) hx hb dX7_worth_77 hl (by decide) rfl (fun ls hl => ?_)
          refine lv_iload_n hx hb dX7_worth_79 rfl (lv_at hl 5 rfl) ?_
          refine lv_if_ne (tgt := 88) hx hb dX7_worth_80 (by decide) (fun h_12 => ?_) (fun h_12 => ?_)
          · have hf := it_f h_12 hf
            refine lv_aload_n hx hb dX7_worth_88 rfl (lv_at hl 2 rfl) ?_
            refine va_get (D := (dC, dI)) (ci := 7) (v := .ref q_below) (C := RX7) (T := TX7) (N := 26) hx hb hts iw_X7_worth_X7 hown hK hP 0 rfl rfl 25 (by decide) (hts (.fieldLink RX7 72 "HeatBenchModel" "below" "[J") (List.mem_of_getElem? (i := 5) rfl)) (fun _ h9 => h9) rfl dX7_worth_89 ?_
            refine lv_iload_n hx hb dX7_worth_92 rfl (lv_at hl 3 rfl) ?_
            refine va_lald hx hb hK hP 4 2 rfl rfl h_10 dX7_worth_93 ?_
            refine lv_lload hx hb dX7_worth_94 (lv_at hl 0 rfl) ?_
            obtain ⟨h_13, hf⟩ := it_n hf
            refine lv_ldiv hx hb dX7_worth_96 h_13 ?_
            cases hf
            exact W.lret hx hb hr (fun t ht hW => ⟨⟨_, (), rfl, rfl, by rw [ht]; exact hP, hD⟩, hS.F ht⟩) hS.2.2 dX7_worth_97
          · have hf := it_t h_12 hf
            refine lv_lload hx hb dX7_worth_83 (lv_at hl 1 rfl) ?_
            refine lv_goto (tgt := 94) hx hb dX7_worth_85 (by decide) ?_
            refine lv_lload hx hb dX7_worth_94 (lv_at hl 0 rfl) ?_
            obtain ⟨h_14, hf⟩ := it_n hf
            refine lv_ldiv hx hb dX7_worth_96 h_14 ?_
            cases hf
            exact W.lret hx hb hr (fun t ht hW => ⟨⟨_, (), rfl, rfl, by rw [ht]; exact hP, hD⟩, hS.F ht⟩) hS.2.2 dX7_worth_97
        · have hf := it_f h_7 hf
          refine lv_ldc2 (v := (-4)) hx hb hown (hts (.constantLong RX7 165 (-4)) (List.mem_of_getElem? (i := 3) rfl)) dX7_worth_45 ?_
          cases hf
          exact W.lret hx hb hr (fun t ht hW => ⟨⟨_, (), rfl, rfl, by rw [ht]; exact hP, hD⟩, hS.F ht⟩) hS.2.2 dX7_worth_48
      · have hf := it_t h_6 hf
        refine lv_ldc2 (v := (-9)) hx hb hown (hts (.constantLong RX7 163 (-9)) (List.mem_of_getElem? (i := 2) rfl)) dX7_worth_31 ?_
        cases hf
        exact W.lret hx hb hr (fun t ht hW => ⟨⟨_, (), rfl, rfl, by rw [ht]; exact hP, hD⟩, hS.F ht⟩) hS.2.2 dX7_worth_34
/-! X7_isCalled -/
theorem iw_X7_isCalled_X7 : ∀ w ∈ wsX70, w ∈ wsX7_isCalled := by decide +kernel
set_option maxHeartbeats 4000000 in
set_option maxRecDepth 100000 in
theorem tX7_isCalled (l : Launch) (dC : Nat → ClassId) (dI : Nat → Nat → Nat) (cI cZ cJ cA : ClassId) (sz : Nat) (h0 : Nat) (v_riders : Int32) (v_rides : Int32) (q_riderOf : Nat) (q_waveOf : Nat) (q_marks : Nat) (v_lineMany : Int32) (q_line : Nat) (q_interfered : Nat) (v_isOpen : Int32) (v_group : Int32) (v_wrong : Int32) (q_stood : Nat) (v_pastMany : Int32) (q_past : Nat) (v_days : Int32) (q_low : Nat) (q_high : Nat) (q_was : Nat) (q_best : Nat) (q_second : Nat) (q_total : Nat) (q_givenTo : Nat) (q_has : Nat) (q_own : Nat) (q_sums : Nat) (q_below : Nat) (v_sums : Nat → Int64) (v_below : Nat → Int64) (x1 : Int32) (x2 : Int32) (x3 : Int32) (N : Nat) (r0 : Int32) (hf : fX7_isCalled N x1 x2 x3 v_days v_sums v_below = some r0) : Met l yX7_isCalled wsX7_isCalled ({ frames := 0, cells := 0, slots := 0, locals := 0 }) (va_Pc [.ref h0, .int x1, .int x2, .int x3] (fun U => U.heap.size = sz ∧ va_P (dC, dI) vwCl [(h0, .inr (7, [.int v_riders, .int v_rides, .ref q_riderOf, .ref q_waveOf, .ref q_marks, .int v_lineMany, .ref q_line, .ref q_interfered, .int v_isOpen, .int v_group, .int v_wrong, .ref q_stood, .int v_pastMany, .ref q_past, .int v_days, .ref q_low, .ref q_high, .ref q_was, .ref q_best, .ref q_second, .ref q_total, .ref q_givenTo, .ref q_has, .ref q_own, .ref q_sums, .ref q_below])), (q_sums, .inl (cJ, 100, .inr (.inl v_sums))), (q_below, .inl (cJ, 10, .inr (.inl v_below)))] U.heap ∧ va_K (dC, dI) vwCl [(cI, .int), (cZ, .boolean), (cJ, .long), (cA, .array .long)] U ∧ va_D (fun _ => True) [(h0, .inr (7, [.int v_riders, .int v_rides, .ref q_riderOf, .ref q_waveOf, .ref q_marks, .int v_lineMany, .ref q_line, .ref q_interfered, .int v_isOpen, .int v_group, .int v_wrong, .ref q_stood, .int v_pastMany, .ref q_past, .int v_days, .ref q_low, .ref q_high, .ref q_was, .ref q_best, .ref q_second, .ref q_total, .ref q_givenTo, .ref q_has, .ref q_own, .ref q_sums, .ref q_below])), (q_sums, .inl (cJ, 100, .inr (.inl v_sums))), (q_below, .inl (cJ, 10, .inr (.inl v_below)))])) (va_Qi (fun (r9 : Int32) (_ : Unit) => r0 = r9) (fun _ t => va_P (dC, dI) vwCl [(h0, .inr (7, [.int v_riders, .int v_rides, .ref q_riderOf, .ref q_waveOf, .ref q_marks, .int v_lineMany, .ref q_line, .ref q_interfered, .int v_isOpen, .int v_group, .int v_wrong, .ref q_stood, .int v_pastMany, .ref q_past, .int v_days, .ref q_low, .ref q_high, .ref q_was, .ref q_best, .ref q_second, .ref q_total, .ref q_givenTo, .ref q_has, .ref q_own, .ref q_sums, .ref q_below])), (q_sums, .inl (cJ, 100, .inr (.inl v_sums))), (q_below, .inl (cJ, 10, .inr (.inl v_below)))] t.heap ∧ va_D (va_A [(h0, .inr (7, [.int v_riders, .int v_rides, .ref q_riderOf, .ref q_waveOf, .ref q_marks, .int v_lineMany, .ref q_line, .ref q_interfered, .int v_isOpen, .int v_group, .int v_wrong, .ref q_stood, .int v_pastMany, .ref q_past, .int v_days, .ref q_low, .ref q_high, .ref q_was, .ref q_best, .ref q_second, .ref q_total, .ref q_givenTo, .ref q_has, .ref q_own, .ref q_sums, .ref q_below])), (q_sums, .inl (cJ, 100, .inr (.inl v_sums))), (q_below, .inl (cJ, 10, .inr (.inl v_below)))] sz) [(h0, .inr (7, [.int v_riders, .int v_rides, .ref q_riderOf, .ref q_waveOf, .ref q_marks, .int v_lineMany, .ref q_line, .ref q_interfered, .int v_isOpen, .int v_group, .int v_wrong, .ref q_stood, .int v_pastMany, .ref q_past, .int v_days, .ref q_low, .ref q_high, .ref q_was, .ref q_best, .ref q_second, .ref q_total, .ref q_givenTo, .ref q_has, .ref q_own, .ref q_sums, .ref q_below])), (q_sums, .inl (cJ, 100, .inr (.inl v_sums))), (q_below, .inl (cJ, 10, .inr (.inl v_below)))]) (va_A [(h0, .inr (7, [.int v_riders, .int v_rides, .ref q_riderOf, .ref q_waveOf, .ref q_marks, .int v_lineMany, .ref q_line, .ref q_interfered, .int v_isOpen, .int v_group, .int v_wrong, .ref q_stood, .int v_pastMany, .ref q_past, .int v_days, .ref q_low, .ref q_high, .ref q_was, .ref q_best, .ref q_second, .ref q_total, .ref q_givenTo, .ref q_has, .ref q_own, .ref q_sums, .ref q_below])), (q_sums, .inl (cJ, 100, .inr (.inl v_sums))), (q_below, .inl (cJ, 10, .inr (.inl v_below)))] sz)) 0 0 (va_A [(h0, .inr (7, [.int v_riders, .int v_rides, .ref q_riderOf, .ref q_waveOf, .ref q_marks, .int v_lineMany, .ref q_line, .ref q_interfered, .int v_isOpen, .int v_group, .int v_wrong, .ref q_stood, .int v_pastMany, .ref q_past, .int v_days, .ref q_low, .ref q_high, .ref q_was, .ref q_best, .ref q_second, .ref q_total, .ref q_givenTo, .ref q_has, .ref q_own, .ref q_sums, .ref q_below])), (q_sums, .inl (cJ, 100, .inr (.inl v_sums))), (q_below, .inl (cJ, 10, .inr (.inl v_below)))] sz) := by
  refine Met.ofW (cc := cX7_isCalled) (maxL := 4) (ret := (some .boolean)) (by decide) rfl ?_
  intro p e s m args below meth c s₁ B hml hv
  obtain ⟨rfl, hsz, hP, hK, hD0⟩ := hv
  have hx := B.exec
  have hb := B.bytes
  have hr := B.returns
  have hts := atoms_spec (ws := wsX7_isCalled) B.pre
  have hown : s.vm.findClass RX7 = some m.cls := findClass_of_methodNamed B.named
  have hlocks := B.notSynchronized
  subst hsz
  have hD := hD0.self (sz := s.heap.size)
  generalize hAe : va_A [(h0, .inr (7, [.int v_riders, .int v_rides, .ref q_riderOf, .ref q_waveOf, .ref q_marks, .int v_lineMany, .ref q_line, .ref q_interfered, .int v_isOpen, .int v_group, .int v_wrong, .ref q_stood, .int v_pastMany, .ref q_past, .int v_days, .ref q_low, .ref q_high, .ref q_was, .ref q_best, .ref q_second, .ref q_total, .ref q_givenTo, .ref q_has, .ref q_own, .ref q_sums, .ref q_below])), (q_sums, .inl (cJ, 100, .inr (.inl v_sums))), (q_below, .inl (cJ, 10, .inr (.inl v_below)))] s.heap.size = A at hD ⊢
  have hA : ∀ q : Nat, s.heap.size ≤ q → A q := fun q h => by rw [← hAe]; exact Or.inr h
  have hS : va_S A s.heap s.heap [] := va_S.rf
  have hl := lv_entry ([.ref h0, .int x1, .int x2, .int x3]) (n := 4) (Nat.le_of_ble_eq_true rfl)
  rw [lg_entry_eq]
  generalize (lg_sl ([.ref h0, .int x1, .int x2, .int x3]) ++ List.replicate (4 - (lg_sl ([.ref h0, .int x1, .int x2, .int x3])).length) Slot.unset).toArray = ls at hl ⊢
  have hl : lv_has ls 4 [(0, .ref h0), (1, .int x1), (2, .int x2), (3, .int x3)] := hl
  refine vx_gen hP hS (fun H locs hP hS => ?_)
  unfold fX7_isCalled at hf
  refine lv_iload_n hx hb dX7_isCalled_0 rfl (lv_at hl 2 rfl) ?_
  refine lv_if_ne (tgt := 6) hx hb dX7_isCalled_1 (by decide) (fun h_1 => ?_) (fun h_1 => ?_)
  · have hf := it_f h_1 hf
    refine lv_iload_n hx hb dX7_isCalled_6 rfl (lv_at hl 2 rfl) ?_
    refine lv_aload_n hx hb dX7_isCalled_7 rfl (lv_at hl 0 rfl) ?_
    refine va_get (D := (dC, dI)) (ci := 7) (v := .int v_days) (C := RX7) (T := TX7) (N := 26) hx hb hts iw_X7_isCalled_X7 hown hK hP 0 rfl rfl 14 (by decide) (hts (.fieldLink RX7 38 "HeatBenchModel" "days" "I") (List.mem_of_getElem? (i := 1) rfl)) (fun _ h9 => h9) rfl dX7_isCalled_8 ?_
    refine lv_iload_n hx hb dX7_isCalled_11 rfl (lv_at hl 1 rfl) ?_
    refine lv_isub hx hb dX7_isCalled_12 ?_
    refine lv_iconst (v := 1) hx hb dX7_isCalled_13 (by decide) ?_
    refine lv_isub hx hb dX7_isCalled_14 ?_
    refine lv_icmp_le (tgt := 20) hx hb dX7_isCalled_15 (by decide) (fun h_2 => ?_) (fun h_2 => ?_)
    · have hf := it_t h_2 hf
      refine lv_iload_n hx hb dX7_isCalled_20 rfl (lv_at hl 3 rfl) ?_
      refine lv_i2l (v := x3.toInt64) hx hb dX7_isCalled_21 rfl ?_
      refine lv_aload_n hx hb dX7_isCalled_22 rfl (lv_at hl 0 rfl) ?_
      refine va_get (D := (dC, dI)) (ci := 7) (v := .ref q_below) (C := RX7) (T := TX7) (N := 26) hx hb hts iw_X7_isCalled_X7 hown hK hP 0 rfl rfl 25 (by decide) (hts (.fieldLink RX7 72 "HeatBenchModel" "below" "[J") (List.mem_of_getElem? (i := 2) rfl)) (fun _ h9 => h9) rfl dX7_isCalled_23 ?_
      refine lv_iload_n hx hb dX7_isCalled_26 rfl (lv_at hl 1 rfl) ?_
      refine lv_iconst (v := 1) hx hb dX7_isCalled_27 (by decide) ?_
      refine lv_iadd hx hb dX7_isCalled_28 ?_
      obtain ⟨h_3, hf⟩ := it_n hf
      refine va_lald hx hb hK hP 2 2 rfl rfl h_3 dX7_isCalled_29 ?_
      refine lv_lmul hx hb dX7_isCalled_30 ?_
      refine lv_aload_n hx hb dX7_isCalled_31 rfl (lv_at hl 0 rfl) ?_
      refine va_get (D := (dC, dI)) (ci := 7) (v := .ref q_sums) (C := RX7) (T := TX7) (N := 26) hx hb hts iw_X7_isCalled_X7 hown hK hP 0 rfl rfl 24 (by decide) (hts (.fieldLink RX7 68 "HeatBenchModel" "sums" "[J") (List.mem_of_getElem? (i := 3) rfl)) (fun _ h9 => h9) rfl dX7_isCalled_32 ?_
      refine lv_bipush (v := 10) hx hb dX7_isCalled_35 (by decide) ?_
      refine lv_iload_n hx hb dX7_isCalled_37 rfl (lv_at hl 1 rfl) ?_
      refine lv_iconst (v := 1) hx hb dX7_isCalled_38 (by decide) ?_
      refine lv_iadd hx hb dX7_isCalled_39 ?_
      refine lv_imul hx hb dX7_isCalled_40 ?_
      refine lv_iload_n hx hb dX7_isCalled_41 rfl (lv_at hl 2 rfl) ?_
      refine lv_iadd hx hb dX7_isCalled_42 ?_
      refine lv_iconst (v := 1) hx hb dX7_isCalled_43 (by decide) ?_
      refine lv_isub hx hb dX7_isCalled_44 ?_
      obtain ⟨h_4, hf⟩ := it_n hf
      refine va_lald hx hb hK hP 1 2 rfl rfl h_4 dX7_isCalled_45 ?_
      refine lv_ladd hx hb dX7_isCalled_46 ?_
      refine lv_aload_n hx hb dX7_isCalled_47 rfl (lv_at hl 0 rfl) ?_
      refine va_get (D := (dC, dI)) (ci := 7) (v := .ref q_sums) (C := RX7) (T := TX7) (N := 26) hx hb hts iw_X7_isCalled_X7 hown hK hP 0 rfl rfl 24 (by decide) (hts (.fieldLink RX7 68 "HeatBenchModel" "sums" "[J") (List.mem_of_getElem? (i := 3) rfl)) (fun _ h9 => h9) rfl dX7_isCalled_48 ?_
      refine lv_bipush (v := 10) hx hb dX7_isCalled_51 (by decide) ?_
      refine lv_iload_n hx hb dX7_isCalled_53 rfl (lv_at hl 1 rfl) ?_
      refine lv_iconst (v := 1) hx hb dX7_isCalled_54 (by decide) ?_
      refine lv_iadd hx hb dX7_isCalled_55 ?_
      refine lv_imul hx hb dX7_isCalled_56 ?_
      refine lv_iload_n hx hb dX7_isCalled_57 rfl (lv_at hl 2 rfl) ?_
      refine lv_iadd hx hb dX7_isCalled_58 ?_
      obtain ⟨h_5, hf⟩ := it_n hf
      refine va_lald hx hb hK hP 1 2 rfl rfl h_5 dX7_isCalled_59 ?_
      refine W.lcmp hx hb dX7_isCalled_60 ?_
      refine lv_if_lt (tgt := 68) hx hb dX7_isCalled_61 (by decide) (fun h_6 => ?_) (fun h_6 => ?_)
      · have hf := it_t h_6 hf
        refine lv_iconst (v := 0) hx hb dX7_isCalled_68 (by decide) ?_
        cases hf
        exact W.zret hx hb hr rfl (fun t ht hW => ⟨⟨_, (), rfl, rfl, by rw [ht]; exact hP, hD⟩, hS.F ht⟩) hS.2.2 dX7_isCalled_69
      · have hf := it_f h_6 hf
        refine lv_iconst (v := 1) hx hb dX7_isCalled_64 (by decide) ?_
        refine lv_goto (tgt := 69) hx hb dX7_isCalled_65 (by decide) ?_
        cases hf
        exact W.zret hx hb hr rfl (fun t ht hW => ⟨⟨_, (), rfl, rfl, by rw [ht]; exact hP, hD⟩, hS.F ht⟩) hS.2.2 dX7_isCalled_69
    · have hf := it_f h_2 hf
      refine lv_iconst (v := 1) hx hb dX7_isCalled_18 (by decide) ?_
      cases hf
      exact W.zret hx hb hr rfl (fun t ht hW => ⟨⟨_, (), rfl, rfl, by rw [ht]; exact hP, hD⟩, hS.F ht⟩) hS.2.2 dX7_isCalled_19
  · have hf := it_t h_1 hf
    refine lv_iconst (v := 0) hx hb dX7_isCalled_4 (by decide) ?_
    cases hf
    exact W.zret hx hb hr rfl (fun t ht hW => ⟨⟨_, (), rfl, rfl, by rw [ht]; exact hP, hD⟩, hS.F ht⟩) hS.2.2 dX7_isCalled_5
/-! X7_call -/
theorem iw_X7_call_X7 : ∀ w ∈ wsX70, w ∈ wsX7_call := by decide +kernel
set_option maxHeartbeats 4000000 in
set_option maxRecDepth 100000 in
theorem tX7_call (l : Launch) (dC : Nat → ClassId) (dI : Nat → Nat → Nat) (cI cZ cJ cA : ClassId) (sz : Nat) (h0 : Nat) (v_riders : Int32) (v_rides : Int32) (q_riderOf : Nat) (q_waveOf : Nat) (q_marks : Nat) (v_lineMany : Int32) (q_line : Nat) (q_interfered : Nat) (v_isOpen : Int32) (v_group : Int32) (v_wrong : Int32) (q_stood : Nat) (v_pastMany : Int32) (q_past : Nat) (v_days : Int32) (q_low : Nat) (q_high : Nat) (q_was : Nat) (q_best : Nat) (q_second : Nat) (q_total : Nat) (q_givenTo : Nat) (q_has : Nat) (q_own : Nat) (q_sums : Nat) (q_below : Nat) (v_low : Nat → Int32) (v_high : Nat → Int32) (v_sums : Nat → Int64) (v_below : Nat → Int64) (x1 : Int32) (x2 : Int32) (x3 : Int32) (N : Nat) (r0 : Int32) (w_sums : (Nat → Int64)) (w_below : (Nat → Int64)) (hf : fX7_call N x1 x2 x3 v_days v_low v_high v_sums v_below = some (r0, w_sums, w_below)) : Met l yX7_call wsX7_call ({ frames := 2, cells := 0, slots := 0, locals := 43 }) (va_Pc [.ref h0, .int x1, .int x2, .int x3] (fun U => U.heap.size = sz ∧ va_P (dC, dI) vwCl [(h0, .inr (7, [.int v_riders, .int v_rides, .ref q_riderOf, .ref q_waveOf, .ref q_marks, .int v_lineMany, .ref q_line, .ref q_interfered, .int v_isOpen, .int v_group, .int v_wrong, .ref q_stood, .int v_pastMany, .ref q_past, .int v_days, .ref q_low, .ref q_high, .ref q_was, .ref q_best, .ref q_second, .ref q_total, .ref q_givenTo, .ref q_has, .ref q_own, .ref q_sums, .ref q_below])), (q_low, .inl (cI, 9, .inl v_low)), (q_high, .inl (cI, 9, .inl v_high)), (q_sums, .inl (cJ, 100, .inr (.inl v_sums))), (q_below, .inl (cJ, 10, .inr (.inl v_below)))] U.heap ∧ va_K (dC, dI) vwCl [(cI, .int), (cZ, .boolean), (cJ, .long), (cA, .array .long)] U ∧ va_D (fun _ => True) [(h0, .inr (7, [.int v_riders, .int v_rides, .ref q_riderOf, .ref q_waveOf, .ref q_marks, .int v_lineMany, .ref q_line, .ref q_interfered, .int v_isOpen, .int v_group, .int v_wrong, .ref q_stood, .int v_pastMany, .ref q_past, .int v_days, .ref q_low, .ref q_high, .ref q_was, .ref q_best, .ref q_second, .ref q_total, .ref q_givenTo, .ref q_has, .ref q_own, .ref q_sums, .ref q_below])), (q_low, .inl (cI, 9, .inl v_low)), (q_high, .inl (cI, 9, .inl v_high)), (q_sums, .inl (cJ, 100, .inr (.inl v_sums))), (q_below, .inl (cJ, 10, .inr (.inl v_below)))])) (va_Qi (fun (r9 : Int32) (_ : Unit) => r0 = r9) (fun _ t => va_P (dC, dI) vwCl [(h0, .inr (7, [.int v_riders, .int v_rides, .ref q_riderOf, .ref q_waveOf, .ref q_marks, .int v_lineMany, .ref q_line, .ref q_interfered, .int v_isOpen, .int v_group, .int v_wrong, .ref q_stood, .int v_pastMany, .ref q_past, .int v_days, .ref q_low, .ref q_high, .ref q_was, .ref q_best, .ref q_second, .ref q_total, .ref q_givenTo, .ref q_has, .ref q_own, .ref q_sums, .ref q_below])), (q_low, .inl (cI, 9, .inl v_low)), (q_high, .inl (cI, 9, .inl v_high)), (q_sums, .inl (cJ, 100, .inr (.inl w_sums))), (q_below, .inl (cJ, 10, .inr (.inl w_below)))] t.heap ∧ va_D (va_A [(h0, .inr (7, [.int v_riders, .int v_rides, .ref q_riderOf, .ref q_waveOf, .ref q_marks, .int v_lineMany, .ref q_line, .ref q_interfered, .int v_isOpen, .int v_group, .int v_wrong, .ref q_stood, .int v_pastMany, .ref q_past, .int v_days, .ref q_low, .ref q_high, .ref q_was, .ref q_best, .ref q_second, .ref q_total, .ref q_givenTo, .ref q_has, .ref q_own, .ref q_sums, .ref q_below])), (q_low, .inl (cI, 9, .inl v_low)), (q_high, .inl (cI, 9, .inl v_high)), (q_sums, .inl (cJ, 100, .inr (.inl v_sums))), (q_below, .inl (cJ, 10, .inr (.inl v_below)))] sz) [(h0, .inr (7, [.int v_riders, .int v_rides, .ref q_riderOf, .ref q_waveOf, .ref q_marks, .int v_lineMany, .ref q_line, .ref q_interfered, .int v_isOpen, .int v_group, .int v_wrong, .ref q_stood, .int v_pastMany, .ref q_past, .int v_days, .ref q_low, .ref q_high, .ref q_was, .ref q_best, .ref q_second, .ref q_total, .ref q_givenTo, .ref q_has, .ref q_own, .ref q_sums, .ref q_below])), (q_low, .inl (cI, 9, .inl v_low)), (q_high, .inl (cI, 9, .inl v_high)), (q_sums, .inl (cJ, 100, .inr (.inl w_sums))), (q_below, .inl (cJ, 10, .inr (.inl w_below)))]) (va_A [(h0, .inr (7, [.int v_riders, .int v_rides, .ref q_riderOf, .ref q_waveOf, .ref q_marks, .int v_lineMany, .ref q_line, .ref q_interfered, .int v_isOpen, .int v_group, .int v_wrong, .ref q_stood, .int v_pastMany, .ref q_past, .int v_days, .ref q_low, .ref q_high, .ref q_was, .ref q_best, .ref q_second, .ref q_total, .ref q_givenTo, .ref q_has, .ref q_own, .ref q_sums, .ref q_below])), (q_low, .inl (cI, 9, .inl v_low)), (q_high, .inl (cI, 9, .inl v_high)), (q_sums, .inl (cJ, 100, .inr (.inl v_sums))), (q_below, .inl (cJ, 10, .inr (.inl v_below)))] sz)) 0 0 (va_A [(h0, .inr (7, [.int v_riders, .int v_rides, .ref q_riderOf, .ref q_waveOf, .ref q_marks, .int v_lineMany, .ref q_line, .ref q_interfered, .int v_isOpen, .int v_group, .int v_wrong, .ref q_stood, .int v_pastMany, .ref q_past, .int v_days, .ref q_low, .ref q_high, .ref q_was, .ref q_best, .ref q_second, .ref q_total, .ref q_givenTo, .ref q_has, .ref q_own, .ref q_sums, .ref q_below])), (q_low, .inl (cI, 9, .inl v_low)), (q_high, .inl (cI, 9, .inl v_high)), (q_sums, .inl (cJ, 100, .inr (.inl v_sums))), (q_below, .inl (cJ, 10, .inr (.inl v_below)))] sz) := by
  refine Met.ofW (cc := cX7_call) (maxL := 4) (ret := (some .int)) (by decide) rfl ?_
  intro p e s m args below meth c s₁ B hml hv
  obtain ⟨rfl, hsz, hP, hK, hD0⟩ := hv
  have hx := B.exec
  have hb := B.bytes
  have hr := B.returns
  have hts := atoms_spec (ws := wsX7_call) B.pre
  have hown : s.vm.findClass RX7 = some m.cls := findClass_of_methodNamed B.named
  have hlocks := B.notSynchronized
  subst hsz
  have hD := hD0.self (sz := s.heap.size)
  generalize hAe : va_A [(h0, .inr (7, [.int v_riders, .int v_rides, .ref q_riderOf, .ref q_waveOf, .ref q_marks, .int v_lineMany, .ref q_line, .ref q_interfered, .int v_isOpen, .int v_group, .int v_wrong, .ref q_stood, .int v_pastMany, .ref q_past, .int v_days, .ref q_low, .ref q_high, .ref q_was, .ref q_best, .ref q_second, .ref q_total, .ref q_givenTo, .ref q_has, .ref q_own, .ref q_sums, .ref q_below])), (q_low, .inl (cI, 9, .inl v_low)), (q_high, .inl (cI, 9, .inl v_high)), (q_sums, .inl (cJ, 100, .inr (.inl v_sums))), (q_below, .inl (cJ, 10, .inr (.inl v_below)))] s.heap.size = A at hD ⊢
  have hA : ∀ q : Nat, s.heap.size ≤ q → A q := fun q h => by rw [← hAe]; exact Or.inr h
  have hS : va_S A s.heap s.heap [] := va_S.rf
  have hl := lv_entry ([.ref h0, .int x1, .int x2, .int x3]) (n := 4) (Nat.le_of_ble_eq_true rfl)
  rw [lg_entry_eq]
  generalize (lg_sl ([.ref h0, .int x1, .int x2, .int x3]) ++ List.replicate (4 - (lg_sl ([.ref h0, .int x1, .int x2, .int x3])).length) Slot.unset).toArray = ls at hl ⊢
  have hl : lv_has ls 4 [(0, .ref h0), (1, .int x1), (2, .int x2), (3, .int x3)] := hl
  refine vx_gen hP hS (fun H locs hP hS => ?_)
  unfold fX7_call at hf
  refine lv_aload_n hx hb dX7_call_0 rfl (lv_at hl 0 rfl) ?_
  refine lv_iload_n hx hb dX7_call_1 rfl (lv_at hl 1 rfl) ?_
  obtain ⟨r_1, hu_1, hf⟩ := it_b1 hf
  have hPc := hP.sub (ws' := [(h0, .inr (7, [.int v_riders, .int v_rides, .ref q_riderOf, .ref q_waveOf, .ref q_marks, .int v_lineMany, .ref q_line, .ref q_interfered, .int v_isOpen, .int v_group, .int v_wrong, .ref q_stood, .int v_pastMany, .ref q_past, .int v_days, .ref q_low, .ref q_high, .ref q_was, .ref q_best, .ref q_second, .ref q_total, .ref q_givenTo, .ref q_has, .ref q_own, .ref q_sums, .ref q_below]))]) [0] rfl
  have hDc := hD.sub (ws' := [(h0, .inr (7, [.int v_riders, .int v_rides, .ref q_riderOf, .ref q_waveOf, .ref q_marks, .int v_lineMany, .ref q_line, .ref q_interfered, .int v_isOpen, .int v_group, .int v_wrong, .ref q_stood, .int v_pastMany, .ref q_past, .int v_days, .ref q_low, .ref q_high, .ref q_was, .ref q_best, .ref q_second, .ref q_total, .ref q_givenTo, .ref q_has, .ref q_own, .ref q_sums, .ref q_below]))]) [0] (by decide) rfl
  have hFc := va_free (wc := [(h0, .inr (7, [.int v_riders, .int v_rides, .ref q_riderOf, .ref q_waveOf, .ref q_marks, .int v_lineMany, .ref q_line, .ref q_interfered, .int v_isOpen, .int v_group, .int v_wrong, .ref q_stood, .int v_pastMany, .ref q_past, .int v_days, .ref q_low, .ref q_high, .ref q_was, .ref q_best, .ref q_second, .ref q_total, .ref q_givenTo, .ref q_has, .ref q_own, .ref q_sums, .ref q_below]))]) hD hS hA [0] rfl
  refine va_calli (va_runV (As := [.int x1]) (rest := []) ⟨hx, hb, hml, hown, hts⟩ (tX7_isDay l dC dI cI cZ cJ cA H.size h0 v_riders v_rides q_riderOf q_waveOf q_marks v_lineMany q_line q_interfered v_isOpen v_group v_wrong q_stood v_pastMany q_past v_days q_low q_high q_was q_best q_second q_total q_givenTo q_has q_own q_sums q_below x1 N r_1 hu_1) (cwV 1 hts gX7_call_X7_isDay rfl rfl rfl (by decide +kernel) ⟨Nat.le_of_ble_eq_true rfl, Nat.le_of_ble_eq_true rfl⟩) ⟨fun a U g mk q => by obtain ⟨q0, q1, qP, qK, qD⟩ := q; exact ⟨q0, q1, qP, va_K.moved (u := U) (U := U.calling g mk a) (Vm.Alike.refl U.vm) qK, qD⟩, va_recv hK hPc (ci := 7) (q0 := 0) rfl rfl, fun U hU hW => ⟨rfl, by rw [hU], by rw [hU]; exact hPc, va_K.moved hW.alike hK, hDc.weaken (fun _ _ _ _ => trivial)⟩⟩ rfl rfl hl.1 rfl (lv_room (Nat.le_of_ble_eq_true rfl)) dX7_call_2 ⟨Nat.zero_le _, Nat.zero_le _⟩) hS (fun q _ h => hFc q h) hFc (fun r9 u t H1 locs ht hvm hw hB hz1 hk1 hS => ?_)
  obtain ⟨hP1, hD1⟩ := hB
  rw [ht] at hP1
  obtain ⟨hP, hD⟩ := va_join (wr := [(q_low, .inl (cI, 9, .inl v_low)), (q_high, .inl (cI, 9, .inl v_high)), (q_sums, .inl (cJ, 100, .inr (.inl v_sums))), (q_below, .inl (cJ, 10, .inr (.inl v_below)))]) (w1 := [(h0, .inr (7, [.int v_riders, .int v_rides, .ref q_riderOf, .ref q_waveOf, .ref q_marks, .int v_lineMany, .ref q_line, .ref q_interfered, .int v_isOpen, .int v_group, .int v_wrong, .ref q_stood, .int v_pastMany, .ref q_past, .int v_days, .ref q_low, .ref q_high, .ref q_was, .ref q_best, .ref q_second, .ref q_total, .ref q_givenTo, .ref q_has, .ref q_own, .ref q_sums, .ref q_below]))]) hP hD [0] [1, 2, 3, 4] rfl rfl (by decide) (by decide) hk1 hFc hP1 hD1
  clear hP1 hD1 hk1 hz1 hPc hDc hFc
  generalize H1 = H at hP hS ⊢
  have hP : va_P (dC, dI) vwCl [(q_low, .inl (cI, 9, .inl v_low)), (q_high, .inl (cI, 9, .inl v_high)), (q_sums, .inl (cJ, 100, .inr (.inl v_sums))), (q_below, .inl (cJ, 10, .inr (.inl v_below))), (h0, .inr (7, [.int v_riders, .int v_rides, .ref q_riderOf, .ref q_waveOf, .ref q_marks, .int v_lineMany, .ref q_line, .ref q_interfered, .int v_isOpen, .int v_group, .int v_wrong, .ref q_stood, .int v_pastMany, .ref q_past, .int v_days, .ref q_low, .ref q_high, .ref q_was, .ref q_best, .ref q_second, .ref q_total, .ref q_givenTo, .ref q_has, .ref q_own, .ref q_sums, .ref q_below]))] H := hP
  have hD : va_D A [(q_low, .inl (cI, 9, .inl v_low)), (q_high, .inl (cI, 9, .inl v_high)), (q_sums, .inl (cJ, 100, .inr (.inl v_sums))), (q_below, .inl (cJ, 10, .inr (.inl v_below))), (h0, .inr (7, [.int v_riders, .int v_rides, .ref q_riderOf, .ref q_waveOf, .ref q_marks, .int v_lineMany, .ref q_line, .ref q_interfered, .int v_isOpen, .int v_group, .int v_wrong, .ref q_stood, .int v_pastMany, .ref q_past, .int v_days, .ref q_low, .ref q_high, .ref q_was, .ref q_best, .ref q_second, .ref q_total, .ref q_givenTo, .ref q_has, .ref q_own, .ref q_sums, .ref q_below]))] := hD
  subst hw
  refine lv_if_eq (tgt := 28) hx hb dX7_call_5 (by decide) (fun h_2 => ?_) (fun h_2 => ?_)
  · have hf := it_t h_2 hf
    refine lv_iconst (v := (-1)) hx hb dX7_call_28 (by decide) ?_
    have hP : va_P (dC, dI) vwCl [(h0, .inr (7, [.int v_riders, .int v_rides, .ref q_riderOf, .ref q_waveOf, .ref q_marks, .int v_lineMany, .ref q_line, .ref q_interfered, .int v_isOpen, .int v_group, .int v_wrong, .ref q_stood, .int v_pastMany, .ref q_past, .int v_days, .ref q_low, .ref q_high, .ref q_was, .ref q_best, .ref q_second, .ref q_total, .ref q_givenTo, .ref q_has, .ref q_own, .ref q_sums, .ref q_below])), (q_low, .inl (cI, 9, .inl v_low)), (q_high, .inl (cI, 9, .inl v_high)), (q_sums, .inl (cJ, 100, .inr (.inl v_sums))), (q_below, .inl (cJ, 10, .inr (.inl v_below)))] H := hP.sub [4, 0, 1, 2, 3] rfl
    have hD : va_D A [(h0, .inr (7, [.int v_riders, .int v_rides, .ref q_riderOf, .ref q_waveOf, .ref q_marks, .int v_lineMany, .ref q_line, .ref q_interfered, .int v_isOpen, .int v_group, .int v_wrong, .ref q_stood, .int v_pastMany, .ref q_past, .int v_days, .ref q_low, .ref q_high, .ref q_was, .ref q_best, .ref q_second, .ref q_total, .ref q_givenTo, .ref q_has, .ref q_own, .ref q_sums, .ref q_below])), (q_low, .inl (cI, 9, .inl v_low)), (q_high, .inl (cI, 9, .inl v_high)), (q_sums, .inl (cJ, 100, .inr (.inl v_sums))), (q_below, .inl (cJ, 10, .inr (.inl v_below)))] := hD.sub [4, 0, 1, 2, 3] (by decide) rfl
    cases hf
    exact W.iret hx hb hr (fun t ht hW => ⟨⟨_, (), rfl, rfl, by rw [ht]; exact hP, hD⟩, hS.F ht⟩) hS.2.2 dX7_call_29
  · have hf := it_f h_2 hf
    refine lv_iload_n hx hb dX7_call_8 rfl (lv_at hl 2 rfl) ?_
    refine lv_iconst (v := 0) hx hb dX7_call_9 (by decide) ?_
    refine lv_bipush (v := 9) hx hb dX7_call_10 (by decide) ?_
    obtain ⟨r_3, hu_3, hf⟩ := it_b1 hf
    have hPc := hP.sub (ws' := []) [] rfl
    have hDc := hD.sub (ws' := []) [] (by decide) rfl
    have hFc := va_free (wc := []) hD hS hA [] rfl
    refine va_calli (va_runS (As := [.int x2, .int 0, .int 9]) (rest := []) ⟨hx, hb, hml, hown, hts⟩ (tX7_in l dC dI cI cZ cJ cA H.size x2 0 9 N r_3 hu_3) (va_cwS 3 hts gX7_call_X7_in rfl rfl rfl (by decide +kernel) ⟨Nat.le_of_ble_eq_true rfl, Nat.le_of_ble_eq_true rfl⟩) ⟨fun a U g mk q => by obtain ⟨q0, q1, qP, qK, qD⟩ := q; exact ⟨q0, q1, qP, va_K.moved (u := U) (U := U.calling g mk a) (Vm.Alike.refl U.vm) qK, qD⟩, fun U hU hW => ⟨rfl, by rw [hU], by rw [hU]; exact hPc, va_K.moved hW.alike hK, hDc.weaken (fun _ _ _ _ => trivial)⟩⟩ rfl rfl hl.1 rfl (lv_room (Nat.le_of_ble_eq_true rfl)) dX7_call_12 ⟨Nat.zero_le _, Nat.zero_le _⟩) hS (fun q _ h => hFc q h) hFc (fun r9 u t H1 locs ht hvm hw hB hz1 hk1 hS => ?_)
    obtain ⟨hP1, hD1⟩ := hB
    rw [ht] at hP1
    obtain ⟨hP, hD⟩ := va_join (wr := [(q_low, .inl (cI, 9, .inl v_low)), (q_high, .inl (cI, 9, .inl v_high)), (q_sums, .inl (cJ, 100, .inr (.inl v_sums))), (q_below, .inl (cJ, 10, .inr (.inl v_below))), (h0, .inr (7, [.int v_riders, .int v_rides, .ref q_riderOf, .ref q_waveOf, .ref q_marks, .int v_lineMany, .ref q_line, .ref q_interfered, .int v_isOpen, .int v_group, .int v_wrong, .ref q_stood, .int v_pastMany, .ref q_past, .int v_days, .ref q_low, .ref q_high, .ref q_was, .ref q_best, .ref q_second, .ref q_total, .ref q_givenTo, .ref q_has, .ref q_own, .ref q_sums, .ref q_below]))]) (w1 := []) hP hD [] [0, 1, 2, 3, 4] rfl rfl (by decide) (by decide) hk1 hFc hP1 hD1
    clear hP1 hD1 hk1 hz1 hPc hDc hFc
    generalize H1 = H at hP hS ⊢
    have hP : va_P (dC, dI) vwCl [(q_low, .inl (cI, 9, .inl v_low)), (q_high, .inl (cI, 9, .inl v_high)), (q_sums, .inl (cJ, 100, .inr (.inl v_sums))), (q_below, .inl (cJ, 10, .inr (.inl v_below))), (h0, .inr (7, [.int v_riders, .int v_rides, .ref q_riderOf, .ref q_waveOf, .ref q_marks, .int v_lineMany, .ref q_line, .ref q_interfered, .int v_isOpen, .int v_group, .int v_wrong, .ref q_stood, .int v_pastMany, .ref q_past, .int v_days, .ref q_low, .ref q_high, .ref q_was, .ref q_best, .ref q_second, .ref q_total, .ref q_givenTo, .ref q_has, .ref q_own, .ref q_sums, .ref q_below]))] H := hP
    have hD : va_D A [(q_low, .inl (cI, 9, .inl v_low)), (q_high, .inl (cI, 9, .inl v_high)), (q_sums, .inl (cJ, 100, .inr (.inl v_sums))), (q_below, .inl (cJ, 10, .inr (.inl v_below))), (h0, .inr (7, [.int v_riders, .int v_rides, .ref q_riderOf, .ref q_waveOf, .ref q_marks, .int v_lineMany, .ref q_line, .ref q_interfered, .int v_isOpen, .int v_group, .int v_wrong, .ref q_stood, .int v_pastMany, .ref q_past, .int v_days, .ref q_low, .ref q_high, .ref q_was, .ref q_best, .ref q_second, .ref q_total, .ref q_givenTo, .ref q_has, .ref q_own, .ref q_sums, .ref q_below]))] := hD
    subst hw
    refine lv_if_eq (tgt := 28) hx hb dX7_call_15 (by decide) (fun h_4 => ?_) (fun h_4 => ?_)
    · have hf := it_t h_4 hf
      refine lv_iconst (v := (-1)) hx hb dX7_call_28 (by decide) ?_
      have hP : va_P (dC, dI) vwCl [(h0, .inr (7, [.int v_riders, .int v_rides, .ref q_riderOf, .ref q_waveOf, .ref q_marks, .int v_lineMany, .ref q_line, .ref q_interfered, .int v_isOpen, .int v_group, .int v_wrong, .ref q_stood, .int v_pastMany, .ref q_past, .int v_days, .ref q_low, .ref q_high, .ref q_was, .ref q_best, .ref q_second, .ref q_total, .ref q_givenTo, .ref q_has, .ref q_own, .ref q_sums, .ref q_below])), (q_low, .inl (cI, 9, .inl v_low)), (q_high, .inl (cI, 9, .inl v_high)), (q_sums, .inl (cJ, 100, .inr (.inl v_sums))), (q_below, .inl (cJ, 10, .inr (.inl v_below)))] H := hP.sub [4, 0, 1, 2, 3] rfl
      have hD : va_D A [(h0, .inr (7, [.int v_riders, .int v_rides, .ref q_riderOf, .ref q_waveOf, .ref q_marks, .int v_lineMany, .ref q_line, .ref q_interfered, .int v_isOpen, .int v_group, .int v_wrong, .ref q_stood, .int v_pastMany, .ref q_past, .int v_days, .ref q_low, .ref q_high, .ref q_was, .ref q_best, .ref q_second, .ref q_total, .ref q_givenTo, .ref q_has, .ref q_own, .ref q_sums, .ref q_below])), (q_low, .inl (cI, 9, .inl v_low)), (q_high, .inl (cI, 9, .inl v_high)), (q_sums, .inl (cJ, 100, .inr (.inl v_sums))), (q_below, .inl (cJ, 10, .inr (.inl v_below)))] := hD.sub [4, 0, 1, 2, 3] (by decide) rfl
      cases hf
      exact W.iret hx hb hr (fun t ht hW => ⟨⟨_, (), rfl, rfl, by rw [ht]; exact hP, hD⟩, hS.F ht⟩) hS.2.2 dX7_call_29
    · have hf := it_f h_4 hf
      refine lv_iload_n hx hb dX7_call_18 rfl (lv_at hl 3 rfl) ?_
      refine lv_iconst (v := 0) hx hb dX7_call_19 (by decide) ?_
      refine lv_bipush (v := 9) hx hb dX7_call_20 (by decide) ?_
      obtain ⟨r_5, hu_5, hf⟩ := it_b1 hf
      have hPc := hP.sub (ws' := []) [] rfl
      have hDc := hD.sub (ws' := []) [] (by decide) rfl
      have hFc := va_free (wc := []) hD hS hA [] rfl
      refine va_calli (va_runS (As := [.int x3, .int 0, .int 9]) (rest := []) ⟨hx, hb, hml, hown, hts⟩ (tX7_in l dC dI cI cZ cJ cA H.size x3 0 9 N r_5 hu_5) (va_cwS 3 hts gX7_call_X7_in rfl rfl rfl (by decide +kernel) ⟨Nat.le_of_ble_eq_true rfl, Nat.le_of_ble_eq_true rfl⟩) ⟨fun a U g mk q => by obtain ⟨q0, q1, qP, qK, qD⟩ := q; exact ⟨q0, q1, qP, va_K.moved (u := U) (U := U.calling g mk a) (Vm.Alike.refl U.vm) qK, qD⟩, fun U hU hW => ⟨rfl, by rw [hU], by rw [hU]; exact hPc, va_K.moved hW.alike hK, hDc.weaken (fun _ _ _ _ => trivial)⟩⟩ rfl rfl hl.1 rfl (lv_room (Nat.le_of_ble_eq_true rfl)) dX7_call_22 ⟨Nat.zero_le _, Nat.zero_le _⟩) hS (fun q _ h => hFc q h) hFc (fun r9 u t H1 locs ht hvm hw hB hz1 hk1 hS => ?_)
      obtain ⟨hP1, hD1⟩ := hB
      rw [ht] at hP1
      obtain ⟨hP, hD⟩ := va_join (wr := [(q_low, .inl (cI, 9, .inl v_low)), (q_high, .inl (cI, 9, .inl v_high)), (q_sums, .inl (cJ, 100, .inr (.inl v_sums))), (q_below, .inl (cJ, 10, .inr (.inl v_below))), (h0, .inr (7, [.int v_riders, .int v_rides, .ref q_riderOf, .ref q_waveOf, .ref q_marks, .int v_lineMany, .ref q_line, .ref q_interfered, .int v_isOpen, .int v_group, .int v_wrong, .ref q_stood, .int v_pastMany, .ref q_past, .int v_days, .ref q_low, .ref q_high, .ref q_was, .ref q_best, .ref q_second, .ref q_total, .ref q_givenTo, .ref q_has, .ref q_own, .ref q_sums, .ref q_below]))]) (w1 := []) hP hD [] [0, 1, 2, 3, 4] rfl rfl (by decide) (by decide) hk1 hFc hP1 hD1
      clear hP1 hD1 hk1 hz1 hPc hDc hFc
      generalize H1 = H at hP hS ⊢
      have hP : va_P (dC, dI) vwCl [(q_low, .inl (cI, 9, .inl v_low)), (q_high, .inl (cI, 9, .inl v_high)), (q_sums, .inl (cJ, 100, .inr (.inl v_sums))), (q_below, .inl (cJ, 10, .inr (.inl v_below))), (h0, .inr (7, [.int v_riders, .int v_rides, .ref q_riderOf, .ref q_waveOf, .ref q_marks, .int v_lineMany, .ref q_line, .ref q_interfered, .int v_isOpen, .int v_group, .int v_wrong, .ref q_stood, .int v_pastMany, .ref q_past, .int v_days, .ref q_low, .ref q_high, .ref q_was, .ref q_best, .ref q_second, .ref q_total, .ref q_givenTo, .ref q_has, .ref q_own, .ref q_sums, .ref q_below]))] H := hP
      have hD : va_D A [(q_low, .inl (cI, 9, .inl v_low)), (q_high, .inl (cI, 9, .inl v_high)), (q_sums, .inl (cJ, 100, .inr (.inl v_sums))), (q_below, .inl (cJ, 10, .inr (.inl v_below))), (h0, .inr (7, [.int v_riders, .int v_rides, .ref q_riderOf, .ref q_waveOf, .ref q_marks, .int v_lineMany, .ref q_line, .ref q_interfered, .int v_isOpen, .int v_group, .int v_wrong, .ref q_stood, .int v_pastMany, .ref q_past, .int v_days, .ref q_low, .ref q_high, .ref q_was, .ref q_best, .ref q_second, .ref q_total, .ref q_givenTo, .ref q_has, .ref q_own, .ref q_sums, .ref q_below]))] := hD
      subst hw
      refine lv_if_ne (tgt := 30) hx hb dX7_call_25 (by decide) (fun h_6 => ?_) (fun h_6 => ?_)
      · have hf := it_f h_6 hf
        refine lv_aload_n hx hb dX7_call_30 rfl (lv_at hl 0 rfl) ?_
        refine va_get (D := (dC, dI)) (ci := 7) (v := .int v_days) (C := RX7) (T := TX7) (N := 26) hx hb hts iw_X7_call_X7 hown hK hP 4 rfl rfl 14 (by decide) (hts (.fieldLink RX7 38 "HeatBenchModel" "days" "I") (List.mem_of_getElem? (i := 1) rfl)) (fun _ h9 => h9) rfl dX7_call_31 ?_
        refine lv_iload_n hx hb dX7_call_34 rfl (lv_at hl 1 rfl) ?_
        refine lv_isub hx hb dX7_call_35 ?_
        refine lv_iload_n hx hb dX7_call_36 rfl (lv_at hl 2 rfl) ?_
        refine lv_icmp_ge (tgt := 43) hx hb dX7_call_37 (by decide) (fun h_7 => ?_) (fun h_7 => ?_)
        · have hf := it_t h_7 hf
          refine lv_aload_n hx hb dX7_call_43 rfl (lv_at hl 0 rfl) ?_
          obtain ⟨o_8_sums, o_8_below, hu_8, hf⟩ := it_b2 hf
          have hPc := hP.sub (ws' := [(h0, .inr (7, [.int v_riders, .int v_rides, .ref q_riderOf, .ref q_waveOf, .ref q_marks, .int v_lineMany, .ref q_line, .ref q_interfered, .int v_isOpen, .int v_group, .int v_wrong, .ref q_stood, .int v_pastMany, .ref q_past, .int v_days, .ref q_low, .ref q_high, .ref q_was, .ref q_best, .ref q_second, .ref q_total, .ref q_givenTo, .ref q_has, .ref q_own, .ref q_sums, .ref q_below])), (q_low, .inl (cI, 9, .inl v_low)), (q_high, .inl (cI, 9, .inl v_high)), (q_sums, .inl (cJ, 100, .inr (.inl v_sums))), (q_below, .inl (cJ, 10, .inr (.inl v_below)))]) [4, 0, 1, 2, 3] rfl
          have hDc := hD.sub (ws' := [(h0, .inr (7, [.int v_riders, .int v_rides, .ref q_riderOf, .ref q_waveOf, .ref q_marks, .int v_lineMany, .ref q_line, .ref q_interfered, .int v_isOpen, .int v_group, .int v_wrong, .ref q_stood, .int v_pastMany, .ref q_past, .int v_days, .ref q_low, .ref q_high, .ref q_was, .ref q_best, .ref q_second, .ref q_total, .ref q_givenTo, .ref q_has, .ref q_own, .ref q_sums, .ref q_below])), (q_low, .inl (cI, 9, .inl v_low)), (q_high, .inl (cI, 9, .inl v_high)), (q_sums, .inl (cJ, 100, .inr (.inl v_sums))), (q_below, .inl (cJ, 10, .inr (.inl v_below)))]) [4, 0, 1, 2, 3] (by decide) rfl
          have hFc := va_free (wc := [(h0, .inr (7, [.int v_riders, .int v_rides, .ref q_riderOf, .ref q_waveOf, .ref q_marks, .int v_lineMany, .ref q_line, .ref q_interfered, .int v_isOpen, .int v_group, .int v_wrong, .ref q_stood, .int v_pastMany, .ref q_past, .int v_days, .ref q_low, .ref q_high, .ref q_was, .ref q_best, .ref q_second, .ref q_total, .ref q_givenTo, .ref q_has, .ref q_own, .ref q_sums, .ref q_below])), (q_low, .inl (cI, 9, .inl v_low)), (q_high, .inl (cI, 9, .inl v_high)), (q_sums, .inl (cJ, 100, .inr (.inl v_sums))), (q_below, .inl (cJ, 10, .inr (.inl v_below)))]) hD hS hA [4, 0, 1, 2, 3] rfl
          refine va_callv (va_runV (As := []) (rest := []) ⟨hx, hb, hml, hown, hts⟩ (tX7_findWorths l dC dI cI cZ cJ cA H.size h0 v_riders v_rides q_riderOf q_waveOf q_marks v_lineMany q_line q_interfered v_isOpen v_group v_wrong q_stood v_pastMany q_past v_days q_low q_high q_was q_best q_second q_total q_givenTo q_has q_own q_sums q_below v_low v_high v_sums v_below N o_8_sums o_8_below hu_8) (cwV 0 hts gX7_call_X7_findWorths rfl rfl rfl (by decide +kernel) ⟨Nat.le_of_ble_eq_true rfl, Nat.le_of_ble_eq_true rfl⟩) ⟨fun a U g mk q => by obtain ⟨q0, q1, qP, qK, qD⟩ := q; exact ⟨q0, q1, qP, va_K.moved (u := U) (U := U.calling g mk a) (Vm.Alike.refl U.vm) qK, qD⟩, va_recv hK hPc (ci := 7) (q0 := 0) rfl rfl, fun U hU hW => ⟨rfl, by rw [hU], by rw [hU]; exact hPc, va_K.moved hW.alike hK, hDc.weaken (fun _ _ _ _ => trivial)⟩⟩ rfl rfl hl.1 rfl (lv_room (Nat.le_of_ble_eq_true rfl)) dX7_call_44 ⟨Nat.zero_le _, Nat.zero_le _⟩) hS (fun q _ h => hFc q h) hFc (fun u t H1 locs ht hvm hw hB hz1 hk1 hS => ?_)
          obtain ⟨hP1, hD1⟩ := hB
          rw [ht] at hP1
          obtain ⟨hP, hD⟩ := va_join (wr := []) (w1 := [(h0, .inr (7, [.int v_riders, .int v_rides, .ref q_riderOf, .ref q_waveOf, .ref q_marks, .int v_lineMany, .ref q_line, .ref q_interfered, .int v_isOpen, .int v_group, .int v_wrong, .ref q_stood, .int v_pastMany, .ref q_past, .int v_days, .ref q_low, .ref q_high, .ref q_was, .ref q_best, .ref q_second, .ref q_total, .ref q_givenTo, .ref q_has, .ref q_own, .ref q_sums, .ref q_below])), (q_low, .inl (cI, 9, .inl v_low)), (q_high, .inl (cI, 9, .inl v_high)), (q_sums, .inl (cJ, 100, .inr (.inl o_8_sums))), (q_below, .inl (cJ, 10, .inr (.inl o_8_below)))]) hP hD [4, 0, 1, 2, 3] [] rfl rfl (by decide) (by decide) hk1 hFc hP1 hD1
          clear hP1 hD1 hk1 hz1 hPc hDc hFc
          generalize H1 = H at hP hS ⊢
          have hP : va_P (dC, dI) vwCl [(h0, .inr (7, [.int v_riders, .int v_rides, .ref q_riderOf, .ref q_waveOf, .ref q_marks, .int v_lineMany, .ref q_line, .ref q_interfered, .int v_isOpen, .int v_group, .int v_wrong, .ref q_stood, .int v_pastMany, .ref q_past, .int v_days, .ref q_low, .ref q_high, .ref q_was, .ref q_best, .ref q_second, .ref q_total, .ref q_givenTo, .ref q_has, .ref q_own, .ref q_sums, .ref q_below])), (q_low, .inl (cI, 9, .inl v_low)), (q_high, .inl (cI, 9, .inl v_high)), (q_sums, .inl (cJ, 100, .inr (.inl o_8_sums))), (q_below, .inl (cJ, 10, .inr (.inl o_8_below)))] H := hP
          have hD : va_D A [(h0, .inr (7, [.int v_riders, .int v_rides, .ref q_riderOf, .ref q_waveOf, .ref q_marks, .int v_lineMany, .ref q_line, .ref q_interfered, .int v_isOpen, .int v_group, .int v_wrong, .ref q_stood, .int v_pastMany, .ref q_past, .int v_days, .ref q_low, .ref q_high, .ref q_was, .ref q_best, .ref q_second, .ref q_total, .ref q_givenTo, .ref q_has, .ref q_own, .ref q_sums, .ref q_below])), (q_low, .inl (cI, 9, .inl v_low)), (q_high, .inl (cI, 9, .inl v_high)), (q_sums, .inl (cJ, 100, .inr (.inl o_8_sums))), (q_below, .inl (cJ, 10, .inr (.inl o_8_below)))] := hD
          refine lv_aload_n hx hb dX7_call_47 rfl (lv_at hl 0 rfl) ?_
          refine lv_iload_n hx hb dX7_call_48 rfl (lv_at hl 1 rfl) ?_
          refine lv_iload_n hx hb dX7_call_49 rfl (lv_at hl 2 rfl) ?_
          refine lv_iload_n hx hb dX7_call_50 rfl (lv_at hl 3 rfl) ?_
          obtain ⟨r_9, hu_9, hf⟩ := it_b1 hf
          have hPc := hP.sub (ws' := [(h0, .inr (7, [.int v_riders, .int v_rides, .ref q_riderOf, .ref q_waveOf, .ref q_marks, .int v_lineMany, .ref q_line, .ref q_interfered, .int v_isOpen, .int v_group, .int v_wrong, .ref q_stood, .int v_pastMany, .ref q_past, .int v_days, .ref q_low, .ref q_high, .ref q_was, .ref q_best, .ref q_second, .ref q_total, .ref q_givenTo, .ref q_has, .ref q_own, .ref q_sums, .ref q_below])), (q_sums, .inl (cJ, 100, .inr (.inl o_8_sums))), (q_below, .inl (cJ, 10, .inr (.inl o_8_below)))]) [0, 3, 4] rfl
          have hDc := hD.sub (ws' := [(h0, .inr (7, [.int v_riders, .int v_rides, .ref q_riderOf, .ref q_waveOf, .ref q_marks, .int v_lineMany, .ref q_line, .ref q_interfered, .int v_isOpen, .int v_group, .int v_wrong, .ref q_stood, .int v_pastMany, .ref q_past, .int v_days, .ref q_low, .ref q_high, .ref q_was, .ref q_best, .ref q_second, .ref q_total, .ref q_givenTo, .ref q_has, .ref q_own, .ref q_sums, .ref q_below])), (q_sums, .inl (cJ, 100, .inr (.inl o_8_sums))), (q_below, .inl (cJ, 10, .inr (.inl o_8_below)))]) [0, 3, 4] (by decide) rfl
          have hFc := va_free (wc := [(h0, .inr (7, [.int v_riders, .int v_rides, .ref q_riderOf, .ref q_waveOf, .ref q_marks, .int v_lineMany, .ref q_line, .ref q_interfered, .int v_isOpen, .int v_group, .int v_wrong, .ref q_stood, .int v_pastMany, .ref q_past, .int v_days, .ref q_low, .ref q_high, .ref q_was, .ref q_best, .ref q_second, .ref q_total, .ref q_givenTo, .ref q_has, .ref q_own, .ref q_sums, .ref q_below])), (q_sums, .inl (cJ, 100, .inr (.inl o_8_sums))), (q_below, .inl (cJ, 10, .inr (.inl o_8_below)))]) hD hS hA [0, 3, 4] rfl
          refine va_calli (va_runV (As := [.int x1, .int x2, .int x3]) (rest := []) ⟨hx, hb, hml, hown, hts⟩ (tX7_isCalled l dC dI cI cZ cJ cA H.size h0 v_riders v_rides q_riderOf q_waveOf q_marks v_lineMany q_line q_interfered v_isOpen v_group v_wrong q_stood v_pastMany q_past v_days q_low q_high q_was q_best q_second q_total q_givenTo q_has q_own q_sums q_below o_8_sums o_8_below x1 x2 x3 N r_9 hu_9) (cwV 3 hts gX7_call_X7_isCalled rfl rfl rfl (by decide +kernel) ⟨Nat.le_of_ble_eq_true rfl, Nat.le_of_ble_eq_true rfl⟩) ⟨fun a U g mk q => by obtain ⟨q0, q1, qP, qK, qD⟩ := q; exact ⟨q0, q1, qP, va_K.moved (u := U) (U := U.calling g mk a) (Vm.Alike.refl U.vm) qK, qD⟩, va_recv hK hPc (ci := 7) (q0 := 0) rfl rfl, fun U hU hW => ⟨rfl, by rw [hU], by rw [hU]; exact hPc, va_K.moved hW.alike hK, hDc.weaken (fun _ _ _ _ => trivial)⟩⟩ rfl rfl hl.1 rfl (lv_room (Nat.le_of_ble_eq_true rfl)) dX7_call_51 ⟨Nat.zero_le _, Nat.zero_le _⟩) hS (fun q _ h => hFc q h) hFc (fun r9 u t H1 locs ht hvm hw hB hz1 hk1 hS => ?_)
          obtain ⟨hP1, hD1⟩ := hB
          rw [ht] at hP1
          obtain ⟨hP, hD⟩ := va_join (wr := [(q_low, .inl (cI, 9, .inl v_low)), (q_high, .inl (cI, 9, .inl v_high))]) (w1 := [(h0, .inr (7, [.int v_riders, .int v_rides, .ref q_riderOf, .ref q_waveOf, .ref q_marks, .int v_lineMany, .ref q_line, .ref q_interfered, .int v_isOpen, .int v_group, .int v_wrong, .ref q_stood, .int v_pastMany, .ref q_past, .int v_days, .ref q_low, .ref q_high, .ref q_was, .ref q_best, .ref q_second, .ref q_total, .ref q_givenTo, .ref q_has, .ref q_own, .ref q_sums, .ref q_below])), (q_sums, .inl (cJ, 100, .inr (.inl o_8_sums))), (q_below, .inl (cJ, 10, .inr (.inl o_8_below)))]) hP hD [0, 3, 4] [1, 2] rfl rfl (by decide) (by decide) hk1 hFc hP1 hD1
          clear hP1 hD1 hk1 hz1 hPc hDc hFc
          generalize H1 = H at hP hS ⊢
          have hP : va_P (dC, dI) vwCl [(q_low, .inl (cI, 9, .inl v_low)), (q_high, .inl (cI, 9, .inl v_high)), (h0, .inr (7, [.int v_riders, .int v_rides, .ref q_riderOf, .ref q_waveOf, .ref q_marks, .int v_lineMany, .ref q_line, .ref q_interfered, .int v_isOpen, .int v_group, .int v_wrong, .ref q_stood, .int v_pastMany, .ref q_past, .int v_days, .ref q_low, .ref q_high, .ref q_was, .ref q_best, .ref q_second, .ref q_total, .ref q_givenTo, .ref q_has, .ref q_own, .ref q_sums, .ref q_below])), (q_sums, .inl (cJ, 100, .inr (.inl o_8_sums))), (q_below, .inl (cJ, 10, .inr (.inl o_8_below)))] H := hP
          have hD : va_D A [(q_low, .inl (cI, 9, .inl v_low)), (q_high, .inl (cI, 9, .inl v_high)), (h0, .inr (7, [.int v_riders, .int v_rides, .ref q_riderOf, .ref q_waveOf, .ref q_marks, .int v_lineMany, .ref q_line, .ref q_interfered, .int v_isOpen, .int v_group, .int v_wrong, .ref q_stood, .int v_pastMany, .ref q_past, .int v_days, .ref q_low, .ref q_high, .ref q_was, .ref q_best, .ref q_second, .ref q_total, .ref q_givenTo, .ref q_has, .ref q_own, .ref q_sums, .ref q_below])), (q_sums, .inl (cJ, 100, .inr (.inl o_8_sums))), (q_below, .inl (cJ, 10, .inr (.inl o_8_below)))] := hD
          subst hw
          refine lv_if_eq (tgt := 61) hx hb dX7_call_54 (by decide) (fun h_10 => ?_) (fun h_10 => ?_)
          · have hf := it_t h_10 hf
            refine lv_iconst (v := 0) hx hb dX7_call_61 (by decide) ?_
            have hP : va_P (dC, dI) vwCl [(h0, .inr (7, [.int v_riders, .int v_rides, .ref q_riderOf, .ref q_waveOf, .ref q_marks, .int v_lineMany, .ref q_line, .ref q_interfered, .int v_isOpen, .int v_group, .int v_wrong, .ref q_stood, .int v_pastMany, .ref q_past, .int v_days, .ref q_low, .ref q_high, .ref q_was, .ref q_best, .ref q_second, .ref q_total, .ref q_givenTo, .ref q_has, .ref q_own, .ref q_sums, .ref q_below])), (q_low, .inl (cI, 9, .inl v_low)), (q_high, .inl (cI, 9, .inl v_high)), (q_sums, .inl (cJ, 100, .inr (.inl o_8_sums))), (q_below, .inl (cJ, 10, .inr (.inl o_8_below)))] H := hP.sub [2, 0, 1, 3, 4] rfl
            have hD : va_D A [(h0, .inr (7, [.int v_riders, .int v_rides, .ref q_riderOf, .ref q_waveOf, .ref q_marks, .int v_lineMany, .ref q_line, .ref q_interfered, .int v_isOpen, .int v_group, .int v_wrong, .ref q_stood, .int v_pastMany, .ref q_past, .int v_days, .ref q_low, .ref q_high, .ref q_was, .ref q_best, .ref q_second, .ref q_total, .ref q_givenTo, .ref q_has, .ref q_own, .ref q_sums, .ref q_below])), (q_low, .inl (cI, 9, .inl v_low)), (q_high, .inl (cI, 9, .inl v_high)), (q_sums, .inl (cJ, 100, .inr (.inl o_8_sums))), (q_below, .inl (cJ, 10, .inr (.inl o_8_below)))] := hD.sub [2, 0, 1, 3, 4] (by decide) rfl
            cases hf
            exact W.iret hx hb hr (fun t ht hW => ⟨⟨_, (), rfl, rfl, by rw [ht]; exact hP, hD⟩, hS.F ht⟩) hS.2.2 dX7_call_62
          · have hf := it_f h_10 hf
            refine lv_iconst (v := 1) hx hb dX7_call_57 (by decide) ?_
            refine lv_goto (tgt := 62) hx hb dX7_call_58 (by decide) ?_
            have hP : va_P (dC, dI) vwCl [(h0, .inr (7, [.int v_riders, .int v_rides, .ref q_riderOf, .ref q_waveOf, .ref q_marks, .int v_lineMany, .ref q_line, .ref q_interfered, .int v_isOpen, .int v_group, .int v_wrong, .ref q_stood, .int v_pastMany, .ref q_past, .int v_days, .ref q_low, .ref q_high, .ref q_was, .ref q_best, .ref q_second, .ref q_total, .ref q_givenTo, .ref q_has, .ref q_own, .ref q_sums, .ref q_below])), (q_low, .inl (cI, 9, .inl v_low)), (q_high, .inl (cI, 9, .inl v_high)), (q_sums, .inl (cJ, 100, .inr (.inl o_8_sums))), (q_below, .inl (cJ, 10, .inr (.inl o_8_below)))] H := hP.sub [2, 0, 1, 3, 4] rfl
            have hD : va_D A [(h0, .inr (7, [.int v_riders, .int v_rides, .ref q_riderOf, .ref q_waveOf, .ref q_marks, .int v_lineMany, .ref q_line, .ref q_interfered, .int v_isOpen, .int v_group, .int v_wrong, .ref q_stood, .int v_pastMany, .ref q_past, .int v_days, .ref q_low, .ref q_high, .ref q_was, .ref q_best, .ref q_second, .ref q_total, .ref q_givenTo, .ref q_has, .ref q_own, .ref q_sums, .ref q_below])), (q_low, .inl (cI, 9, .inl v_low)), (q_high, .inl (cI, 9, .inl v_high)), (q_sums, .inl (cJ, 100, .inr (.inl o_8_sums))), (q_below, .inl (cJ, 10, .inr (.inl o_8_below)))] := hD.sub [2, 0, 1, 3, 4] (by decide) rfl
            cases hf
            exact W.iret hx hb hr (fun t ht hW => ⟨⟨_, (), rfl, rfl, by rw [ht]; exact hP, hD⟩, hS.F ht⟩) hS.2.2 dX7_call_62
        · have hf := it_f h_7 hf
          refine lv_bipush (v := (-4)) hx hb dX7_call_40 (by decide) ?_
          have hP : va_P (dC, dI) vwCl [(h0, .inr (7, [.int v_riders, .int v_rides, .ref q_riderOf, .ref q_waveOf, .ref q_marks, .int v_lineMany, .ref q_line, .ref q_interfered, .int v_isOpen, .int v_group, .int v_wrong, .ref q_stood, .int v_pastMany, .ref q_past, .int v_days, .ref q_low, .ref q_high, .ref q_was, .ref q_best, .ref q_second, .ref q_total, .ref q_givenTo, .ref q_has, .ref q_own, .ref q_sums, .ref q_below])), (q_low, .inl (cI, 9, .inl v_low)), (q_high, .inl (cI, 9, .inl v_high)), (q_sums, .inl (cJ, 100, .inr (.inl v_sums))), (q_below, .inl (cJ, 10, .inr (.inl v_below)))] H := hP.sub [4, 0, 1, 2, 3] rfl
          have hD : va_D A [(h0, .inr (7, [.int v_riders, .int v_rides, .ref q_riderOf, .ref q_waveOf, .ref q_marks, .int v_lineMany, .ref q_line, .ref q_interfered, .int v_isOpen, .int v_group, .int v_wrong, .ref q_stood, .int v_pastMany, .ref q_past, .int v_days, .ref q_low, .ref q_high, .ref q_was, .ref q_best, .ref q_second, .ref q_total, .ref q_givenTo, .ref q_has, .ref q_own, .ref q_sums, .ref q_below])), (q_low, .inl (cI, 9, .inl v_low)), (q_high, .inl (cI, 9, .inl v_high)), (q_sums, .inl (cJ, 100, .inr (.inl v_sums))), (q_below, .inl (cJ, 10, .inr (.inl v_below)))] := hD.sub [4, 0, 1, 2, 3] (by decide) rfl
          cases hf
          exact W.iret hx hb hr (fun t ht hW => ⟨⟨_, (), rfl, rfl, by rw [ht]; exact hP, hD⟩, hS.F ht⟩) hS.2.2 dX7_call_42
      · have hf := it_t h_6 hf
        refine lv_iconst (v := (-1)) hx hb dX7_call_28 (by decide) ?_
        have hP : va_P (dC, dI) vwCl [(h0, .inr (7, [.int v_riders, .int v_rides, .ref q_riderOf, .ref q_waveOf, .ref q_marks, .int v_lineMany, .ref q_line, .ref q_interfered, .int v_isOpen, .int v_group, .int v_wrong, .ref q_stood, .int v_pastMany, .ref q_past, .int v_days, .ref q_low, .ref q_high, .ref q_was, .ref q_best, .ref q_second, .ref q_total, .ref q_givenTo, .ref q_has, .ref q_own, .ref q_sums, .ref q_below])), (q_low, .inl (cI, 9, .inl v_low)), (q_high, .inl (cI, 9, .inl v_high)), (q_sums, .inl (cJ, 100, .inr (.inl v_sums))), (q_below, .inl (cJ, 10, .inr (.inl v_below)))] H := hP.sub [4, 0, 1, 2, 3] rfl
        have hD : va_D A [(h0, .inr (7, [.int v_riders, .int v_rides, .ref q_riderOf, .ref q_waveOf, .ref q_marks, .int v_lineMany, .ref q_line, .ref q_interfered, .int v_isOpen, .int v_group, .int v_wrong, .ref q_stood, .int v_pastMany, .ref q_past, .int v_days, .ref q_low, .ref q_high, .ref q_was, .ref q_best, .ref q_second, .ref q_total, .ref q_givenTo, .ref q_has, .ref q_own, .ref q_sums, .ref q_below])), (q_low, .inl (cI, 9, .inl v_low)), (q_high, .inl (cI, 9, .inl v_high)), (q_sums, .inl (cJ, 100, .inr (.inl v_sums))), (q_below, .inl (cJ, 10, .inr (.inl v_below)))] := hD.sub [4, 0, 1, 2, 3] (by decide) rfl
        cases hf
        exact W.iret hx hb hr (fun t ht hW => ⟨⟨_, (), rfl, rfl, by rw [ht]; exact hP, hD⟩, hS.F ht⟩) hS.2.2 dX7_call_29
/-! X7_run -/
theorem iw_X7_run_X7 : ∀ w ∈ wsX70, w ∈ wsX7_run := by decide +kernel
set_option maxHeartbeats 4000000 in
set_option maxRecDepth 100000 in
theorem wX7_run_L38 {p : Program} {l : Launch} {e : Env} {s : State} {m : MethodId} {args : Array Value} {below : List Frame} {meth : Method} {c : Code} {dC : Nat → ClassId} {dI : Nat → Nat → Nat} {cI cZ cJ cA : ClassId} {A : Nat → Prop} {h0 : Nat} {v_riders : Int32} {v_rides : Int32} {q_riderOf : Nat} {q_waveOf : Nat} {q_marks : Nat} {v_lineMany : Int32} {q_line : Nat} {q_interfered : Nat} {v_isOpen : Int32} {v_group : Int32} {v_wrong : Int32} {q_stood : Nat} {v_pastMany : Int32} {q_past : Nat} {v_days : Int32} {q_low : Nat} {q_high : Nat} {q_was : Nat} {q_best : Nat} {q_second : Nat} {q_total : Nat} {q_givenTo : Nat} {q_has : Nat} {q_own : Nat} {q_sums : Nat} {q_below : Nat} {v_low : Nat → Int32} {v_high : Nat → Int32} {v_was : Nat → Int32} {v_sums : Nat → Int64} {v_below : Nat → Int64} {x2 : Int32} {r0 : Int32} {w_sums : (Nat → Int64)} {w_below : (Nat → Int64)} {N : Nat} {k : Int32 → Int32 → Int32 → Int32 → Option (Int32 × (Nat → Int64) × (Nat → Int64))} (hx : p.tables.exec = Jvm.exec) (hb : c.code = cX7_run) (hr : meth.sig.returnType = (some .int)) (hml : c.maxLocals = 7) (hown : s.vm.findClass RX7 = some m.cls) (hts : ∀ w ∈ wsX7_run, w.before args s = true) (hlocks : meth.locks = false) (hA : ∀ q : Nat, s.heap.size ≤ q → A q) (hK : va_K (dC, dI) vwCl [(cI, .int), (cZ, .boolean), (cJ, .long), (cA, .array .long)] s) : ∀ (n : Nat) (x3 : Int32) (x4 : Int32) (x5 : Int32) (x6 : Int32) (H : Heap) (locs : List Loc) (ls : Array Slot), va_P (dC, dI) vwCl [(h0, .inr (7, [.int v_riders, .int v_rides, .ref q_riderOf, .ref q_waveOf, .ref q_marks, .int v_lineMany, .ref q_line, .ref q_interfered, .int v_isOpen, .int v_group, .int v_wrong, .ref q_stood, .int v_pastMany, .ref q_past, .int v_days, .ref q_low, .ref q_high, .ref q_was, .ref q_best, .ref q_second, .ref q_total, .ref q_givenTo, .ref q_has, .ref q_own, .ref q_sums, .ref q_below])), (q_low, .inl (cI, 9, .inl v_low)), (q_high, .inl (cI, 9, .inl v_high)), (q_was, .inl (cI, 9, .inl v_was)), (q_sums, .inl (cJ, 100, .inr (.inl v_sums))), (q_below, .inl (cJ, 10, .inr (.inl v_below)))] H → va_D A [(h0, .inr (7, [.int v_riders, .int v_rides, .ref q_riderOf, .ref q_waveOf, .ref q_marks, .int v_lineMany, .ref q_line, .ref q_interfered, .int v_isOpen, .int v_group, .int v_wrong, .ref q_stood, .int v_pastMany, .ref q_past, .int v_days, .ref q_low, .ref q_high, .ref q_was, .ref q_best, .ref q_second, .ref q_total, .ref q_givenTo, .ref q_has, .ref q_own, .ref q_sums, .ref q_below])), (q_low, .inl (cI, 9, .inl v_low)), (q_high, .inl (cI, 9, .inl v_high)), (q_was, .inl (cI, 9, .inl v_was)), (q_sums, .inl (cJ, 100, .inr (.inl v_sums))), (q_below, .inl (cJ, 10, .inr (.inl v_below)))] → va_S A s.heap H locs → lv_has ls 7 [(0, .ref h0), (2, .int x2), (3, .int x3), (4, .int x4), (5, .int x5), (6, .int x6)] → fX7_run_L38 N v_days v_was v_sums v_below k n x3 x4 x5 x6 = some (r0, w_sums, w_below) → (∀ (x3' : Int32) (x4' : Int32) (x5' : Int32) (x6' : Int32) (H : Heap) (locs : List Loc) (ls : Array Slot), va_P (dC, dI) vwCl [(h0, .inr (7, [.int v_riders, .int v_rides, .ref q_riderOf, .ref q_waveOf, .ref q_marks, .int v_lineMany, .ref q_line, .ref q_interfered, .int v_isOpen, .int v_group, .int v_wrong, .ref q_stood, .int v_pastMany, .ref q_past, .int v_days, .ref q_low, .ref q_high, .ref q_was, .ref q_best, .ref q_second, .ref q_total, .ref q_givenTo, .ref q_has, .ref q_own, .ref q_sums, .ref q_below])), (q_low, .inl (cI, 9, .inl v_low)), (q_high, .inl (cI, 9, .inl v_high)), (q_was, .inl (cI, 9, .inl v_was)), (q_sums, .inl (cJ, 100, .inr (.inl v_sums))), (q_below, .inl (cJ, 10, .inr (.inl v_below)))] H → va_D A [(h0, .inr (7, [.int v_riders, .int v_rides, .ref q_riderOf, .ref q_waveOf, .ref q_marks, .int v_lineMany, .ref q_line, .ref q_interfered, .int v_isOpen, .int v_group, .int v_wrong, .ref q_stood, .int v_pastMany, .ref q_past, .int v_days, .ref q_low, .ref q_high, .ref q_was, .ref q_best, .ref q_second, .ref q_total, .ref q_givenTo, .ref q_has, .ref q_own, .ref q_sums, .ref q_below])), (q_low, .inl (cI, 9, .inl v_low)), (q_high, .inl (cI, 9, .inl v_high)), (q_was, .inl (cI, 9, .inl v_was)), (q_sums, .inl (cJ, 100, .inr (.inl v_sums))), (q_below, .inl (cJ, 10, .inr (.inl v_below)))] → va_S A s.heap H locs → lv_has ls 7 [(2, .int x2), (4, .int x4'), (5, .int x5'), (6, .int x6')] → k x3' x4' x5' x6' = some (r0, w_sums, w_below) → W p l e (headSpec wsX7_run ({ frames := 1, cells := 0, slots := 0, locals := 29 })).room s m args below meth c H locs 0 0 (MQ below (va_Qi (fun (r9 : Int32) (_ : Unit) => r0 = r9) (fun _ t => va_P (dC, dI) vwCl [(h0, .inr (7, [.int v_riders, .int v_rides, .ref q_riderOf, .ref q_waveOf, .ref q_marks, .int v_lineMany, .ref q_line, .ref q_interfered, .int v_isOpen, .int v_group, .int v_wrong, .ref q_stood, .int v_pastMany, .ref q_past, .int v_days, .ref q_low, .ref q_high, .ref q_was, .ref q_best, .ref q_second, .ref q_total, .ref q_givenTo, .ref q_has, .ref q_own, .ref q_sums, .ref q_below])), (q_low, .inl (cI, 9, .inl v_low)), (q_high, .inl (cI, 9, .inl v_high)), (q_was, .inl (cI, 9, .inl v_was)), (q_sums, .inl (cJ, 100, .inr (.inl w_sums))), (q_below, .inl (cJ, 10, .inr (.inl w_below)))] t.heap ∧ va_D A [(h0, .inr (7, [.int v_riders, .int v_rides, .ref q_riderOf, .ref q_waveOf, .ref q_marks, .int v_lineMany, .ref q_line, .ref q_interfered, .int v_isOpen, .int v_group, .int v_wrong, .ref q_stood, .int v_pastMany, .ref q_past, .int v_days, .ref q_low, .ref q_high, .ref q_was, .ref q_best, .ref q_second, .ref q_total, .ref q_givenTo, .ref q_has, .ref q_own, .ref q_sums, .ref q_below])), (q_low, .inl (cI, 9, .inl v_low)), (q_high, .inl (cI, 9, .inl v_high)), (q_was, .inl (cI, 9, .inl v_was)), (q_sums, .inl (cJ, 100, .inr (.inl w_sums))), (q_below, .inl (cJ, 10, .inr (.inl w_below)))]) A) args s 0 0 A) (F0 m 104 ls [])) → W p l e (headSpec wsX7_run ({ frames := 1, cells := 0, slots := 0, locals := 29 })).room s m args below meth c H locs 0 0 (MQ below (va_Qi (fun (r9 : Int32) (_ : Unit) => r0 = r9) (fun _ t => va_P (dC, dI) vwCl [(h0, .inr (7, [.int v_riders, .int v_rides, .ref q_riderOf, .ref q_waveOf, .ref q_marks, .int v_lineMany, .ref q_line, .ref q_interfered, .int v_isOpen, .int v_group, .int v_wrong, .ref q_stood, .int v_pastMany, .ref q_past, .int v_days, .ref q_low, .ref q_high, .ref q_was, .ref q_best, .ref q_second, .ref q_total, .ref q_givenTo, .ref q_has, .ref q_own, .ref q_sums, .ref q_below])), (q_low, .inl (cI, 9, .inl v_low)), (q_high, .inl (cI, 9, .inl v_high)), (q_was, .inl (cI, 9, .inl v_was)), (q_sums, .inl (cJ, 100, .inr (.inl w_sums))), (q_below, .inl (cJ, 10, .inr (.inl w_below)))] t.heap ∧ va_D A [(h0, .inr (7, [.int v_riders, .int v_rides, .ref q_riderOf, .ref q_waveOf, .ref q_marks, .int v_lineMany, .ref q_line, .ref q_interfered, .int v_isOpen, .int v_group, .int v_wrong, .ref q_stood, .int v_pastMany, .ref q_past, .int v_days, .ref q_low, .ref q_high, .ref q_was, .ref q_best, .ref q_second, .ref q_total, .ref q_givenTo, .ref q_has, .ref q_own, .ref q_sums, .ref q_below])), (q_low, .inl (cI, 9, .inl v_low)), (q_high, .inl (cI, 9, .inl v_high)), (q_was, .inl (cI, 9, .inl v_was)), (q_sums, .inl (cJ, 100, .inr (.inl w_sums))), (q_below, .inl (cJ, 10, .inr (.inl w_below)))]) A) args s 0 0 A) (F0 m 38 ls []) := by
  intro n
  induction n with
  | zero =>
    intro x3 x4 x5 x6 H locs ls hP hD hS hl hf kk
    exact nomatch (show (none : Option (Int32 × (Nat → Int64) × (Nat → Int64))) = some (r0, w_sums, w_below) from hf)
  | succ n ih =>
    intro x3 x4 x5 x6 H locs ls hP hD hS hl hf kk
    rw [fX7_run_L38] at hf
    refine lv_iload hx hb dX7_run_38 (lv_at hl 5 rfl) ?_
    refine lv_aload_n hx hb dX7_run_40 rfl (lv_at hl 0 rfl) ?_
    refine va_get (D := (dC, dI)) (ci := 7) (v := .int v_days) (C := RX7) (T := TX7) (N := 26) hx hb hts iw_X7_run_X7 hown hK hP 0 rfl rfl 14 (by decide) (hts (.fieldLink RX7 38 "HeatBenchModel" "days" "I") (List.mem_of_getElem? (i := 1) rfl)) (fun _ h9 => h9) rfl dX7_run_41 ?_
    refine lv_icmp_ge (tgt := 104) hx hb dX7_run_44 (by decide) (fun h_6 => ?_) (fun h_6 => ?_)
    · have hf := it_t h_6 hf
      exact kk x3 x4 x5 x6 H locs ls hP hD hS (lv_sub hl [1, 3, 4, 5] rfl) hf
    · have hf := it_f h_6 hf
      refine lv_aload_n hx hb dX7_run_47 rfl (lv_at hl 0 rfl) ?_
      refine va_get (D := (dC, dI)) (ci := 7) (v := .ref q_was) (C := RX7) (T := TX7) (N := 26) hx hb hts iw_X7_run_X7 hown hK hP 0 rfl rfl 17 (by decide) (hts (.fieldLink RX7 47 "HeatBenchModel" "was" "[I") (List.mem_of_getElem? (i := 2) rfl)) (fun _ h9 => h9) rfl dX7_run_48 ?_
      refine lv_iload hx hb dX7_run_51 (lv_at hl 5 rfl) ?_
      obtain ⟨h_7, hf⟩ := it_n hf
      refine va_iald hx hb hK hP 3 0 rfl rfl h_7 dX7_run_53 ?_
      refine lv_if_lt (tgt := 104) hx hb dX7_run_54 (by decide) (fun h_8 => ?_) (fun h_8 => ?_)
      · have hf := it_t h_8 hf
        exact kk x3 x4 x5 x6 H locs ls hP hD hS (lv_sub hl [1, 3, 4, 5] rfl) hf
      · have hf := it_f h_8 hf
        refine lv_aload_n hx hb dX7_run_57 rfl (lv_at hl 0 rfl) ?_
        refine lv_iload hx hb dX7_run_58 (lv_at hl 5 rfl) ?_
        refine lv_iload_n hx hb dX7_run_60 rfl (lv_at hl 2 rfl) ?_
        refine lv_aload_n hx hb dX7_run_61 rfl (lv_at hl 0 rfl) ?_
        refine va_get (D := (dC, dI)) (ci := 7) (v := .ref q_was) (C := RX7) (T := TX7) (N := 26) hx hb hts iw_X7_run_X7 hown hK hP 0 rfl rfl 17 (by decide) (hts (.fieldLink RX7 47 "HeatBenchModel" "was" "[I") (List.mem_of_getElem? (i := 2) rfl)) (fun _ h9 => h9) rfl dX7_run_62 ?_
        refine lv_iload hx hb dX7_run_65 (lv_at hl 5 rfl) ?_
        refine va_iald hx hb hK hP 3 0 rfl rfl h_7 dX7_run_67 ?_
        obtain ⟨r_9, hu_9, hf⟩ := it_b1 hf
        have hPc := hP.sub (ws' := [(h0, .inr (7, [.int v_riders, .int v_rides, .ref q_riderOf, .ref q_waveOf, .ref q_marks, .int v_lineMany, .ref q_line, .ref q_interfered, .int v_isOpen, .int v_group, .int v_wrong, .ref q_stood, .int v_pastMany, .ref q_past, .int v_days, .ref q_low, .ref q_high, .ref q_was, .ref q_best, .ref q_second, .ref q_total, .ref q_givenTo, .ref q_has, .ref q_own, .ref q_sums, .ref q_below])), (q_sums, .inl (cJ, 100, .inr (.inl v_sums))), (q_below, .inl (cJ, 10, .inr (.inl v_below)))]) [0, 4, 5] rfl
        have hDc := hD.sub (ws' := [(h0, .inr (7, [.int v_riders, .int v_rides, .ref q_riderOf, .ref q_waveOf, .ref q_marks, .int v_lineMany, .ref q_line, .ref q_interfered, .int v_isOpen, .int v_group, .int v_wrong, .ref q_stood, .int v_pastMany, .ref q_past, .int v_days, .ref q_low, .ref q_high, .ref q_was, .ref q_best, .ref q_second, .ref q_total, .ref q_givenTo, .ref q_has, .ref q_own, .ref q_sums, .ref q_below])), (q_sums, .inl (cJ, 100, .inr (.inl v_sums))), (q_below, .inl (cJ, 10, .inr (.inl v_below)))]) [0, 4, 5] (by decide) rfl
        have hFc := va_free (wc := [(h0, .inr (7, [.int v_riders, .int v_rides, .ref q_riderOf, .ref q_waveOf, .ref q_marks, .int v_lineMany, .ref q_line, .ref q_interfered, .int v_isOpen, .int v_group, .int v_wrong, .ref q_stood, .int v_pastMany, .ref q_past, .int v_days, .ref q_low, .ref q_high, .ref q_was, .ref q_best, .ref q_second, .ref q_total, .ref q_givenTo, .ref q_has, .ref q_own, .ref q_sums, .ref q_below])), (q_sums, .inl (cJ, 100, .inr (.inl v_sums))), (q_below, .inl (cJ, 10, .inr (.inl v_below)))]) hD hS hA [0, 4, 5] rfl
        refine va_calli (va_runV (As := [.int x6, .int x3, .int (v_was x6.toNatClampNeg)]) (rest := []) ⟨hx, hb, hml, hown, hts⟩ (tX7_isCalled l dC dI cI cZ cJ cA H.size h0 v_riders v_rides q_riderOf q_waveOf q_marks v_lineMany q_line q_interfered v_isOpen v_group v_wrong q_stood v_pastMany q_past v_days q_low q_high q_was q_best q_second q_total q_givenTo q_has q_own q_sums q_below v_sums v_below x6 x3 (v_was x6.toNatClampNeg) N r_9 hu_9) (cwV 3 hts gX7_run_X7_isCalled rfl rfl rfl (by decide +kernel) ⟨Nat.le_of_ble_eq_true rfl, Nat.le_of_ble_eq_true rfl⟩) ⟨fun a U g mk q => by obtain ⟨q0, q1, qP, qK, qD⟩ := q; exact ⟨q0, q1, qP, va_K.moved (u := U) (U := U.calling g mk a) (Vm.Alike.refl U.vm) qK, qD⟩, va_recv hK hPc (ci := 7) (q0 := 0) rfl rfl, fun U hU hW => ⟨rfl, by rw [hU], by rw [hU]; exact hPc, va_K.moved hW.alike hK, hDc.weaken (fun _ _ _ _ => trivial)⟩⟩ rfl rfl hl.1 rfl (lv_room (Nat.le_of_ble_eq_true rfl)) dX7_run_68 ⟨Nat.zero_le _, Nat.zero_le _⟩) hS (fun q _ h => hFc q h) hFc (fun r9 u t H1 locs ht hvm hw hB hz1 hk1 hS => ?_)
        obtain ⟨hP1, hD1⟩ := hB
        rw [ht] at hP1
        obtain ⟨hP, hD⟩ := va_join (wr := [(q_low, .inl (cI, 9, .inl v_low)), (q_high, .inl (cI, 9, .inl v_high)), (q_was, .inl (cI, 9, .inl v_was))]) (w1 := [(h0, .inr (7, [.int v_riders, .int v_rides, .ref q_riderOf, .ref q_waveOf, .ref q_marks, .int v_lineMany, .ref q_line, .ref q_interfered, .int v_isOpen, .int v_group, .int v_wrong, .ref q_stood, .int v_pastMany, .ref q_past, .int v_days, .ref q_low, .ref q_high, .ref q_was, .ref q_best, .ref q_second, .ref q_total, .ref q_givenTo, .ref q_has, .ref q_own, .ref q_sums, .ref q_below])), (q_sums, .inl (cJ, 100, .inr (.inl v_sums))), (q_below, .inl (cJ, 10, .inr (.inl v_below)))]) hP hD [0, 4, 5] [1, 2, 3] rfl rfl (by decide) (by decide) hk1 hFc hP1 hD1
        clear hP1 hD1 hk1 hz1 hPc hDc hFc
        generalize H1 = H at hP hS ⊢
        have hP : va_P (dC, dI) vwCl [(q_low, .inl (cI, 9, .inl v_low)), (q_high, .inl (cI, 9, .inl v_high)), (q_was, .inl (cI, 9, .inl v_was)), (h0, .inr (7, [.int v_riders, .int v_rides, .ref q_riderOf, .ref q_waveOf, .ref q_marks, .int v_lineMany, .ref q_line, .ref q_interfered, .int v_isOpen, .int v_group, .int v_wrong, .ref q_stood, .int v_pastMany, .ref q_past, .int v_days, .ref q_low, .ref q_high, .ref q_was, .ref q_best, .ref q_second, .ref q_total, .ref q_givenTo, .ref q_has, .ref q_own, .ref q_sums, .ref q_below])), (q_sums, .inl (cJ, 100, .inr (.inl v_sums))), (q_below, .inl (cJ, 10, .inr (.inl v_below)))] H := hP
        have hD : va_D A [(q_low, .inl (cI, 9, .inl v_low)), (q_high, .inl (cI, 9, .inl v_high)), (q_was, .inl (cI, 9, .inl v_was)), (h0, .inr (7, [.int v_riders, .int v_rides, .ref q_riderOf, .ref q_waveOf, .ref q_marks, .int v_lineMany, .ref q_line, .ref q_interfered, .int v_isOpen, .int v_group, .int v_wrong, .ref q_stood, .int v_pastMany, .ref q_past, .int v_days, .ref q_low, .ref q_high, .ref q_was, .ref q_best, .ref q_second, .ref q_total, .ref q_givenTo, .ref q_has, .ref q_own, .ref q_sums, .ref q_below])), (q_sums, .inl (cJ, 100, .inr (.inl v_sums))), (q_below, .inl (cJ, 10, .inr (.inl v_below)))] := hD
        subst hw
        refine lv_if_eq (tgt := 98) hx hb dX7_run_71 (by decide) (fun h_10 => ?_) (fun h_10 => ?_)
        · have hf := it_t h_10 hf
          refine lv_iinc (v := x6 + 1) (lv' := [(6, .int (x6 + 1)), (0, .ref h0), (2, .int x2), (3, .int x3), (4, .int x4), (5, .int x5)]) hx hb dX7_run_98 hl (k := 5) rfl rfl (by decide) rfl (fun ls hl => ?_)
          refine lv_goto (tgt := 38) hx hb dX7_run_101 (by decide) ?_
          have hP : va_P (dC, dI) vwCl [(h0, .inr (7, [.int v_riders, .int v_rides, .ref q_riderOf, .ref q_waveOf, .ref q_marks, .int v_lineMany, .ref q_line, .ref q_interfered, .int v_isOpen, .int v_group, .int v_wrong, .ref q_stood, .int v_pastMany, .ref q_past, .int v_days, .ref q_low, .ref q_high, .ref q_was, .ref q_best, .ref q_second, .ref q_total, .ref q_givenTo, .ref q_has, .ref q_own, .ref q_sums, .ref q_below])), (q_low, .inl (cI, 9, .inl v_low)), (q_high, .inl (cI, 9, .inl v_high)), (q_was, .inl (cI, 9, .inl v_was)), (q_sums, .inl (cJ, 100, .inr (.inl v_sums))), (q_below, .inl (cJ, 10, .inr (.inl v_below)))] H := hP.sub [3, 0, 1, 2, 4, 5] rfl
          have hD : va_D A [(h0, .inr (7, [.int v_riders, .int v_rides, .ref q_riderOf, .ref q_waveOf, .ref q_marks, .int v_lineMany, .ref q_line, .ref q_interfered, .int v_isOpen, .int v_group, .int v_wrong, .ref q_stood, .int v_pastMany, .ref q_past, .int v_days, .ref q_low, .ref q_high, .ref q_was, .ref q_best, .ref q_second, .ref q_total, .ref q_givenTo, .ref q_has, .ref q_own, .ref q_sums, .ref q_below])), (q_low, .inl (cI, 9, .inl v_low)), (q_high, .inl (cI, 9, .inl v_high)), (q_was, .inl (cI, 9, .inl v_was)), (q_sums, .inl (cJ, 100, .inr (.inl v_sums))), (q_below, .inl (cJ, 10, .inr (.inl v_below)))] := hD.sub [3, 0, 1, 2, 4, 5] (by decide) rfl
          exact ih x3 x4 x5 (x6 + 1) H locs ls hP hD hS (lv_sub hl [1, 2, 3, 4, 5, 0] rfl) hf kk
        · have hf := it_f h_10 hf
          refine lv_iload hx hb dX7_run_74 (lv_at hl 3 rfl) ?_
          refine lv_iconst (v := 1) hx hb dX7_run_76 (by decide) ?_
          refine lv_iload hx hb dX7_run_77 (lv_at hl 5 rfl) ?_
          refine lv_ishl hx hb dX7_run_79 ?_
          refine lv_ior hx hb dX7_run_80 ?_
          refine lv_istore (lv' := [(4, .int (x4 ||| (1 <<< (x6 &&& 31)))), (0, .ref h0), (2, .int x2), (3, .int x3), (5, .int x5), (6, .int x6)]) hx hb dX7_run_81 hl (by decide) rfl (fun ls hl => ?_)
          refine lv_iload hx hb dX7_run_83 (lv_at hl 4 rfl) ?_
          refine lv_aload_n hx hb dX7_run_85 rfl (lv_at hl 1 rfl) ?_
          refine va_get (D := (dC, dI)) (ci := 7) (v := .ref q_was) (C := RX7) (T := TX7) (N := 26) hx hb hts iw_X7_run_X7 hown hK hP 3 rfl rfl 17 (by decide) (hts (.fieldLink RX7 47 "HeatBenchModel" "was" "[I") (List.mem_of_getElem? (i := 2) rfl)) (fun _ h9 => h9) rfl dX7_run_86 ?_
          refine lv_iload hx hb dX7_run_89 (lv_at hl 5 rfl) ?_
          refine va_iald hx hb hK hP 2 0 rfl rfl h_7 dX7_run_91 ?_
          refine lv_iadd hx hb dX7_run_92 ?_
          refine lv_istore (lv' := [(5, .int (x5 + (v_was x6.toNatClampNeg))), (4, .int (x4 ||| (1 <<< (x6 &&& 31)))), (0, .ref h0), (2, .int x2), (3, .int x3), (6, .int x6)]) hx hb dX7_run_93 hl (by decide) rfl (fun ls hl => ?_)
          refine lv_iinc (v := x3 + (-1)) (lv' := [(3, .int (x3 + (-1))), (5, .int (x5 + (v_was x6.toNatClampNeg))), (4, .int (x4 ||| (1 <<< (x6 &&& 31)))), (0, .ref h0), (2, .int x2), (6, .int x6)]) hx hb dX7_run_95 hl (k := 4) rfl rfl (by decide) rfl (fun ls hl => ?_)
          refine lv_iinc (v := x6 + 1) (lv' := [(6, .int (x6 + 1)), (3, .int (x3 + (-1))), (5, .int (x5 + (v_was x6.toNatClampNeg))), (4, .int (x4 ||| (1 <<< (x6 &&& 31)))), (0, .ref h0), (2, .int x2)]) hx hb dX7_run_98 hl (k := 5) rfl rfl (by decide) rfl (fun ls hl => ?_)
          refine lv_goto (tgt := 38) hx hb dX7_run_101 (by decide) ?_
          have hP : va_P (dC, dI) vwCl [(h0, .inr (7, [.int v_riders, .int v_rides, .ref q_riderOf, .ref q_waveOf, .ref q_marks, .int v_lineMany, .ref q_line, .ref q_interfered, .int v_isOpen, .int v_group, .int v_wrong, .ref q_stood, .int v_pastMany, .ref q_past, .int v_days, .ref q_low, .ref q_high, .ref q_was, .ref q_best, .ref q_second, .ref q_total, .ref q_givenTo, .ref q_has, .ref q_own, .ref q_sums, .ref q_below])), (q_low, .inl (cI, 9, .inl v_low)), (q_high, .inl (cI, 9, .inl v_high)), (q_was, .inl (cI, 9, .inl v_was)), (q_sums, .inl (cJ, 100, .inr (.inl v_sums))), (q_below, .inl (cJ, 10, .inr (.inl v_below)))] H := hP.sub [3, 0, 1, 2, 4, 5] rfl
          have hD : va_D A [(h0, .inr (7, [.int v_riders, .int v_rides, .ref q_riderOf, .ref q_waveOf, .ref q_marks, .int v_lineMany, .ref q_line, .ref q_interfered, .int v_isOpen, .int v_group, .int v_wrong, .ref q_stood, .int v_pastMany, .ref q_past, .int v_days, .ref q_low, .ref q_high, .ref q_was, .ref q_best, .ref q_second, .ref q_total, .ref q_givenTo, .ref q_has, .ref q_own, .ref q_sums, .ref q_below])), (q_low, .inl (cI, 9, .inl v_low)), (q_high, .inl (cI, 9, .inl v_high)), (q_was, .inl (cI, 9, .inl v_was)), (q_sums, .inl (cJ, 100, .inr (.inl v_sums))), (q_below, .inl (cJ, 10, .inr (.inl v_below)))] := hD.sub [3, 0, 1, 2, 4, 5] (by decide) rfl
          exact ih (x3 + (-1)) (x4 ||| (1 <<< (x6 &&& 31))) (x5 + (v_was x6.toNatClampNeg)) (x6 + 1) H locs ls hP hD hS (lv_sub hl [4, 5, 1, 3, 2, 0] rfl) hf kk
set_option maxHeartbeats 4000000 in
set_option maxRecDepth 100000 in
theorem tX7_run (l : Launch) (dC : Nat → ClassId) (dI : Nat → Nat → Nat) (cI cZ cJ cA : ClassId) (sz : Nat) (h0 : Nat) (v_riders : Int32) (v_rides : Int32) (q_riderOf : Nat) (q_waveOf : Nat) (q_marks : Nat) (v_lineMany : Int32) (q_line : Nat) (q_interfered : Nat) (v_isOpen : Int32) (v_group : Int32) (v_wrong : Int32) (q_stood : Nat) (v_pastMany : Int32) (q_past : Nat) (v_days : Int32) (q_low : Nat) (q_high : Nat) (q_was : Nat) (q_best : Nat) (q_second : Nat) (q_total : Nat) (q_givenTo : Nat) (q_has : Nat) (q_own : Nat) (q_sums : Nat) (q_below : Nat) (v_low : Nat → Int32) (v_high : Nat → Int32) (v_was : Nat → Int32) (v_sums : Nat → Int64) (v_below : Nat → Int64) (x1 : Int32) (x2 : Int32) (N : Nat) (r0 : Int32) (w_sums : (Nat → Int64)) (w_below : (Nat → Int64)) (hf : fX7_run N x1 x2 v_days v_low v_high v_was v_sums v_below = some (r0, w_sums, w_below)) : Met l yX7_run wsX7_run ({ frames := 1, cells := 0, slots := 0, locals := 29 }) (va_Pc [.ref h0, .int x1, .int x2] (fun U => U.heap.size = sz ∧ va_P (dC, dI) vwCl [(h0, .inr (7, [.int v_riders, .int v_rides, .ref q_riderOf, .ref q_waveOf, .ref q_marks, .int v_lineMany, .ref q_line, .ref q_interfered, .int v_isOpen, .int v_group, .int v_wrong, .ref q_stood, .int v_pastMany, .ref q_past, .int v_days, .ref q_low, .ref q_high, .ref q_was, .ref q_best, .ref q_second, .ref q_total, .ref q_givenTo, .ref q_has, .ref q_own, .ref q_sums, .ref q_below])), (q_low, .inl (cI, 9, .inl v_low)), (q_high, .inl (cI, 9, .inl v_high)), (q_was, .inl (cI, 9, .inl v_was)), (q_sums, .inl (cJ, 100, .inr (.inl v_sums))), (q_below, .inl (cJ, 10, .inr (.inl v_below)))] U.heap ∧ va_K (dC, dI) vwCl [(cI, .int), (cZ, .boolean), (cJ, .long), (cA, .array .long)] U ∧ va_D (fun _ => True) [(h0, .inr (7, [.int v_riders, .int v_rides, .ref q_riderOf, .ref q_waveOf, .ref q_marks, .int v_lineMany, .ref q_line, .ref q_interfered, .int v_isOpen, .int v_group, .int v_wrong, .ref q_stood, .int v_pastMany, .ref q_past, .int v_days, .ref q_low, .ref q_high, .ref q_was, .ref q_best, .ref q_second, .ref q_total, .ref q_givenTo, .ref q_has, .ref q_own, .ref q_sums, .ref q_below])), (q_low, .inl (cI, 9, .inl v_low)), (q_high, .inl (cI, 9, .inl v_high)), (q_was, .inl (cI, 9, .inl v_was)), (q_sums, .inl (cJ, 100, .inr (.inl v_sums))), (q_below, .inl (cJ, 10, .inr (.inl v_below)))])) (va_Qi (fun (r9 : Int32) (_ : Unit) => r0 = r9) (fun _ t => va_P (dC, dI) vwCl [(h0, .inr (7, [.int v_riders, .int v_rides, .ref q_riderOf, .ref q_waveOf, .ref q_marks, .int v_lineMany, .ref q_line, .ref q_interfered, .int v_isOpen, .int v_group, .int v_wrong, .ref q_stood, .int v_pastMany, .ref q_past, .int v_days, .ref q_low, .ref q_high, .ref q_was, .ref q_best, .ref q_second, .ref q_total, .ref q_givenTo, .ref q_has, .ref q_own, .ref q_sums, .ref q_below])), (q_low, .inl (cI, 9, .inl v_low)), (q_high, .inl (cI, 9, .inl v_high)), (q_was, .inl (cI, 9, .inl v_was)), (q_sums, .inl (cJ, 100, .inr (.inl w_sums))), (q_below, .inl (cJ, 10, .inr (.inl w_below)))] t.heap ∧ va_D (va_A [(h0, .inr (7, [.int v_riders, .int v_rides, .ref q_riderOf, .ref q_waveOf, .ref q_marks, .int v_lineMany, .ref q_line, .ref q_interfered, .int v_isOpen, .int v_group, .int v_wrong, .ref q_stood, .int v_pastMany, .ref q_past, .int v_days, .ref q_low, .ref q_high, .ref q_was, .ref q_best, .ref q_second, .ref q_total, .ref q_givenTo, .ref q_has, .ref q_own, .ref q_sums, .ref q_below])), (q_low, .inl (cI, 9, .inl v_low)), (q_high, .inl (cI, 9, .inl v_high)), (q_was, .inl (cI, 9, .inl v_was)), (q_sums, .inl (cJ, 100, .inr (.inl v_sums))), (q_below, .inl (cJ, 10, .inr (.inl v_below)))] sz) [(h0, .inr (7, [.int v_riders, .int v_rides, .ref q_riderOf, .ref q_waveOf, .ref q_marks, .int v_lineMany, .ref q_line, .ref q_interfered, .int v_isOpen, .int v_group, .int v_wrong, .ref q_stood, .int v_pastMany, .ref q_past, .int v_days, .ref q_low, .ref q_high, .ref q_was, .ref q_best, .ref q_second, .ref q_total, .ref q_givenTo, .ref q_has, .ref q_own, .ref q_sums, .ref q_below])), (q_low, .inl (cI, 9, .inl v_low)), (q_high, .inl (cI, 9, .inl v_high)), (q_was, .inl (cI, 9, .inl v_was)), (q_sums, .inl (cJ, 100, .inr (.inl w_sums))), (q_below, .inl (cJ, 10, .inr (.inl w_below)))]) (va_A [(h0, .inr (7, [.int v_riders, .int v_rides, .ref q_riderOf, .ref q_waveOf, .ref q_marks, .int v_lineMany, .ref q_line, .ref q_interfered, .int v_isOpen, .int v_group, .int v_wrong, .ref q_stood, .int v_pastMany, .ref q_past, .int v_days, .ref q_low, .ref q_high, .ref q_was, .ref q_best, .ref q_second, .ref q_total, .ref q_givenTo, .ref q_has, .ref q_own, .ref q_sums, .ref q_below])), (q_low, .inl (cI, 9, .inl v_low)), (q_high, .inl (cI, 9, .inl v_high)), (q_was, .inl (cI, 9, .inl v_was)), (q_sums, .inl (cJ, 100, .inr (.inl v_sums))), (q_below, .inl (cJ, 10, .inr (.inl v_below)))] sz)) 0 0 (va_A [(h0, .inr (7, [.int v_riders, .int v_rides, .ref q_riderOf, .ref q_waveOf, .ref q_marks, .int v_lineMany, .ref q_line, .ref q_interfered, .int v_isOpen, .int v_group, .int v_wrong, .ref q_stood, .int v_pastMany, .ref q_past, .int v_days, .ref q_low, .ref q_high, .ref q_was, .ref q_best, .ref q_second, .ref q_total, .ref q_givenTo, .ref q_has, .ref q_own, .ref q_sums, .ref q_below])), (q_low, .inl (cI, 9, .inl v_low)), (q_high, .inl (cI, 9, .inl v_high)), (q_was, .inl (cI, 9, .inl v_was)), (q_sums, .inl (cJ, 100, .inr (.inl v_sums))), (q_below, .inl (cJ, 10, .inr (.inl v_below)))] sz) := by
  refine Met.ofW (cc := cX7_run) (maxL := 7) (ret := (some .int)) (by decide) rfl ?_
  intro p e s m args below meth c s₁ B hml hv
  obtain ⟨rfl, hsz, hP, hK, hD0⟩ := hv
  have hx := B.exec
  have hb := B.bytes
  have hr := B.returns
  have hts := atoms_spec (ws := wsX7_run) B.pre
  have hown : s.vm.findClass RX7 = some m.cls := findClass_of_methodNamed B.named
  have hlocks := B.notSynchronized
  subst hsz
  have hD := hD0.self (sz := s.heap.size)
  generalize hAe : va_A [(h0, .inr (7, [.int v_riders, .int v_rides, .ref q_riderOf, .ref q_waveOf, .ref q_marks, .int v_lineMany, .ref q_line, .ref q_interfered, .int v_isOpen, .int v_group, .int v_wrong, .ref q_stood, .int v_pastMany, .ref q_past, .int v_days, .ref q_low, .ref q_high, .ref q_was, .ref q_best, .ref q_second, .ref q_total, .ref q_givenTo, .ref q_has, .ref q_own, .ref q_sums, .ref q_below])), (q_low, .inl (cI, 9, .inl v_low)), (q_high, .inl (cI, 9, .inl v_high)), (q_was, .inl (cI, 9, .inl v_was)), (q_sums, .inl (cJ, 100, .inr (.inl v_sums))), (q_below, .inl (cJ, 10, .inr (.inl v_below)))] s.heap.size = A at hD ⊢
  have hA : ∀ q : Nat, s.heap.size ≤ q → A q := fun q h => by rw [← hAe]; exact Or.inr h
  have hS : va_S A s.heap s.heap [] := va_S.rf
  have hl := lv_entry ([.ref h0, .int x1, .int x2]) (n := 7) (Nat.le_of_ble_eq_true rfl)
  rw [lg_entry_eq]
  generalize (lg_sl ([.ref h0, .int x1, .int x2]) ++ List.replicate (7 - (lg_sl ([.ref h0, .int x1, .int x2])).length) Slot.unset).toArray = ls at hl ⊢
  have hl : lv_has ls 7 [(0, .ref h0), (1, .int x1), (2, .int x2)] := hl
  refine vx_gen hP hS (fun H locs hP hS => ?_)
  unfold fX7_run at hf
  refine lv_iload_n hx hb dX7_run_0 rfl (lv_at hl 1 rfl) ?_
  refine lv_iconst (v := 0) hx hb dX7_run_1 (by decide) ?_
  refine lv_aload_n hx hb dX7_run_2 rfl (lv_at hl 0 rfl) ?_
  refine va_get (D := (dC, dI)) (ci := 7) (v := .int v_days) (C := RX7) (T := TX7) (N := 26) hx hb hts iw_X7_run_X7 hown hK hP 0 rfl rfl 14 (by decide) (hts (.fieldLink RX7 38 "HeatBenchModel" "days" "I") (List.mem_of_getElem? (i := 1) rfl)) (fun _ h9 => h9) rfl dX7_run_3 ?_
  obtain ⟨r_1, hu_1, hf⟩ := it_b1 hf
  have hPc := hP.sub (ws' := []) [] rfl
  have hDc := hD.sub (ws' := []) [] (by decide) rfl
  have hFc := va_free (wc := []) hD hS hA [] rfl
  refine va_calli (va_runS (As := [.int x1, .int 0, .int v_days]) (rest := []) ⟨hx, hb, hml, hown, hts⟩ (tX7_in l dC dI cI cZ cJ cA H.size x1 0 v_days N r_1 hu_1) (va_cwS 3 hts gX7_run_X7_in rfl rfl rfl (by decide +kernel) ⟨Nat.le_of_ble_eq_true rfl, Nat.le_of_ble_eq_true rfl⟩) ⟨fun a U g mk q => by obtain ⟨q0, q1, qP, qK, qD⟩ := q; exact ⟨q0, q1, qP, va_K.moved (u := U) (U := U.calling g mk a) (Vm.Alike.refl U.vm) qK, qD⟩, fun U hU hW => ⟨rfl, by rw [hU], by rw [hU]; exact hPc, va_K.moved hW.alike hK, hDc.weaken (fun _ _ _ _ => trivial)⟩⟩ rfl rfl hl.1 rfl (lv_room (Nat.le_of_ble_eq_true rfl)) dX7_run_6 ⟨Nat.zero_le _, Nat.zero_le _⟩) hS (fun q _ h => hFc q h) hFc (fun r9 u t H1 locs ht hvm hw hB hz1 hk1 hS => ?_)
  obtain ⟨hP1, hD1⟩ := hB
  rw [ht] at hP1
  obtain ⟨hP, hD⟩ := va_join (wr := [(h0, .inr (7, [.int v_riders, .int v_rides, .ref q_riderOf, .ref q_waveOf, .ref q_marks, .int v_lineMany, .ref q_line, .ref q_interfered, .int v_isOpen, .int v_group, .int v_wrong, .ref q_stood, .int v_pastMany, .ref q_past, .int v_days, .ref q_low, .ref q_high, .ref q_was, .ref q_best, .ref q_second, .ref q_total, .ref q_givenTo, .ref q_has, .ref q_own, .ref q_sums, .ref q_below])), (q_low, .inl (cI, 9, .inl v_low)), (q_high, .inl (cI, 9, .inl v_high)), (q_was, .inl (cI, 9, .inl v_was)), (q_sums, .inl (cJ, 100, .inr (.inl v_sums))), (q_below, .inl (cJ, 10, .inr (.inl v_below)))]) (w1 := []) hP hD [] [0, 1, 2, 3, 4, 5] rfl rfl (by decide) (by decide) hk1 hFc hP1 hD1
  clear hP1 hD1 hk1 hz1 hPc hDc hFc
  generalize H1 = H at hP hS ⊢
  have hP : va_P (dC, dI) vwCl [(h0, .inr (7, [.int v_riders, .int v_rides, .ref q_riderOf, .ref q_waveOf, .ref q_marks, .int v_lineMany, .ref q_line, .ref q_interfered, .int v_isOpen, .int v_group, .int v_wrong, .ref q_stood, .int v_pastMany, .ref q_past, .int v_days, .ref q_low, .ref q_high, .ref q_was, .ref q_best, .ref q_second, .ref q_total, .ref q_givenTo, .ref q_has, .ref q_own, .ref q_sums, .ref q_below])), (q_low, .inl (cI, 9, .inl v_low)), (q_high, .inl (cI, 9, .inl v_high)), (q_was, .inl (cI, 9, .inl v_was)), (q_sums, .inl (cJ, 100, .inr (.inl v_sums))), (q_below, .inl (cJ, 10, .inr (.inl v_below)))] H := hP
  have hD : va_D A [(h0, .inr (7, [.int v_riders, .int v_rides, .ref q_riderOf, .ref q_waveOf, .ref q_marks, .int v_lineMany, .ref q_line, .ref q_interfered, .int v_isOpen, .int v_group, .int v_wrong, .ref q_stood, .int v_pastMany, .ref q_past, .int v_days, .ref q_low, .ref q_high, .ref q_was, .ref q_best, .ref q_second, .ref q_total, .ref q_givenTo, .ref q_has, .ref q_own, .ref q_sums, .ref q_below])), (q_low, .inl (cI, 9, .inl v_low)), (q_high, .inl (cI, 9, .inl v_high)), (q_was, .inl (cI, 9, .inl v_was)), (q_sums, .inl (cJ, 100, .inr (.inl v_sums))), (q_below, .inl (cJ, 10, .inr (.inl v_below)))] := hD
  subst hw
  refine lv_if_eq (tgt := 21) hx hb dX7_run_9 (by decide) (fun h_2 => ?_) (fun h_2 => ?_)
  · have hf := it_t h_2 hf
    refine lv_iconst (v := (-1)) hx hb dX7_run_21 (by decide) ?_
    cases hf
    exact W.iret hx hb hr (fun t ht hW => ⟨⟨_, (), rfl, rfl, by rw [ht]; exact hP, hD⟩, hS.F ht⟩) hS.2.2 dX7_run_22
  · have hf := it_f h_2 hf
    refine lv_iload_n hx hb dX7_run_12 rfl (lv_at hl 2 rfl) ?_
    refine lv_iconst (v := 0) hx hb dX7_run_13 (by decide) ?_
    refine lv_iconst (v := 2) hx hb dX7_run_14 (by decide) ?_
    obtain ⟨r_3, hu_3, hf⟩ := it_b1 hf
    have hPc := hP.sub (ws' := []) [] rfl
    have hDc := hD.sub (ws' := []) [] (by decide) rfl
    have hFc := va_free (wc := []) hD hS hA [] rfl
    refine va_calli (va_runS (As := [.int x2, .int 0, .int 2]) (rest := []) ⟨hx, hb, hml, hown, hts⟩ (tX7_in l dC dI cI cZ cJ cA H.size x2 0 2 N r_3 hu_3) (va_cwS 3 hts gX7_run_X7_in rfl rfl rfl (by decide +kernel) ⟨Nat.le_of_ble_eq_true rfl, Nat.le_of_ble_eq_true rfl⟩) ⟨fun a U g mk q => by obtain ⟨q0, q1, qP, qK, qD⟩ := q; exact ⟨q0, q1, qP, va_K.moved (u := U) (U := U.calling g mk a) (Vm.Alike.refl U.vm) qK, qD⟩, fun U hU hW => ⟨rfl, by rw [hU], by rw [hU]; exact hPc, va_K.moved hW.alike hK, hDc.weaken (fun _ _ _ _ => trivial)⟩⟩ rfl rfl hl.1 rfl (lv_room (Nat.le_of_ble_eq_true rfl)) dX7_run_15 ⟨Nat.zero_le _, Nat.zero_le _⟩) hS (fun q _ h => hFc q h) hFc (fun r9 u t H1 locs ht hvm hw hB hz1 hk1 hS => ?_)
    obtain ⟨hP1, hD1⟩ := hB
    rw [ht] at hP1
    obtain ⟨hP, hD⟩ := va_join (wr := [(h0, .inr (7, [.int v_riders, .int v_rides, .ref q_riderOf, .ref q_waveOf, .ref q_marks, .int v_lineMany, .ref q_line, .ref q_interfered, .int v_isOpen, .int v_group, .int v_wrong, .ref q_stood, .int v_pastMany, .ref q_past, .int v_days, .ref q_low, .ref q_high, .ref q_was, .ref q_best, .ref q_second, .ref q_total, .ref q_givenTo, .ref q_has, .ref q_own, .ref q_sums, .ref q_below])), (q_low, .inl (cI, 9, .inl v_low)), (q_high, .inl (cI, 9, .inl v_high)), (q_was, .inl (cI, 9, .inl v_was)), (q_sums, .inl (cJ, 100, .inr (.inl v_sums))), (q_below, .inl (cJ, 10, .inr (.inl v_below)))]) (w1 := []) hP hD [] [0, 1, 2, 3, 4, 5] rfl rfl (by decide) (by decide) hk1 hFc hP1 hD1
    clear hP1 hD1 hk1 hz1 hPc hDc hFc
    generalize H1 = H at hP hS ⊢
    have hP : va_P (dC, dI) vwCl [(h0, .inr (7, [.int v_riders, .int v_rides, .ref q_riderOf, .ref q_waveOf, .ref q_marks, .int v_lineMany, .ref q_line, .ref q_interfered, .int v_isOpen, .int v_group, .int v_wrong, .ref q_stood, .int v_pastMany, .ref q_past, .int v_days, .ref q_low, .ref q_high, .ref q_was, .ref q_best, .ref q_second, .ref q_total, .ref q_givenTo, .ref q_has, .ref q_own, .ref q_sums, .ref q_below])), (q_low, .inl (cI, 9, .inl v_low)), (q_high, .inl (cI, 9, .inl v_high)), (q_was, .inl (cI, 9, .inl v_was)), (q_sums, .inl (cJ, 100, .inr (.inl v_sums))), (q_below, .inl (cJ, 10, .inr (.inl v_below)))] H := hP
    have hD : va_D A [(h0, .inr (7, [.int v_riders, .int v_rides, .ref q_riderOf, .ref q_waveOf, .ref q_marks, .int v_lineMany, .ref q_line, .ref q_interfered, .int v_isOpen, .int v_group, .int v_wrong, .ref q_stood, .int v_pastMany, .ref q_past, .int v_days, .ref q_low, .ref q_high, .ref q_was, .ref q_best, .ref q_second, .ref q_total, .ref q_givenTo, .ref q_has, .ref q_own, .ref q_sums, .ref q_below])), (q_low, .inl (cI, 9, .inl v_low)), (q_high, .inl (cI, 9, .inl v_high)), (q_was, .inl (cI, 9, .inl v_was)), (q_sums, .inl (cJ, 100, .inr (.inl v_sums))), (q_below, .inl (cJ, 10, .inr (.inl v_below)))] := hD
    subst hw
    refine lv_if_ne (tgt := 23) hx hb dX7_run_18 (by decide) (fun h_4 => ?_) (fun h_4 => ?_)
    · have hf := it_f h_4 hf
      refine lv_aload_n hx hb dX7_run_23 rfl (lv_at hl 0 rfl) ?_
      obtain ⟨o_5_sums, o_5_below, hu_5, hf⟩ := it_b2 hf
      have hPc := hP.sub (ws' := [(h0, .inr (7, [.int v_riders, .int v_rides, .ref q_riderOf, .ref q_waveOf, .ref q_marks, .int v_lineMany, .ref q_line, .ref q_interfered, .int v_isOpen, .int v_group, .int v_wrong, .ref q_stood, .int v_pastMany, .ref q_past, .int v_days, .ref q_low, .ref q_high, .ref q_was, .ref q_best, .ref q_second, .ref q_total, .ref q_givenTo, .ref q_has, .ref q_own, .ref q_sums, .ref q_below])), (q_low, .inl (cI, 9, .inl v_low)), (q_high, .inl (cI, 9, .inl v_high)), (q_sums, .inl (cJ, 100, .inr (.inl v_sums))), (q_below, .inl (cJ, 10, .inr (.inl v_below)))]) [0, 1, 2, 4, 5] rfl
      have hDc := hD.sub (ws' := [(h0, .inr (7, [.int v_riders, .int v_rides, .ref q_riderOf, .ref q_waveOf, .ref q_marks, .int v_lineMany, .ref q_line, .ref q_interfered, .int v_isOpen, .int v_group, .int v_wrong, .ref q_stood, .int v_pastMany, .ref q_past, .int v_days, .ref q_low, .ref q_high, .ref q_was, .ref q_best, .ref q_second, .ref q_total, .ref q_givenTo, .ref q_has, .ref q_own, .ref q_sums, .ref q_below])), (q_low, .inl (cI, 9, .inl v_low)), (q_high, .inl (cI, 9, .inl v_high)), (q_sums, .inl (cJ, 100, .inr (.inl v_sums))), (q_below, .inl (cJ, 10, .inr (.inl v_below)))]) [0, 1, 2, 4, 5] (by decide) rfl
      have hFc := va_free (wc := [(h0, .inr (7, [.int v_riders, .int v_rides, .ref q_riderOf, .ref q_waveOf, .ref q_marks, .int v_lineMany, .ref q_line, .ref q_interfered, .int v_isOpen, .int v_group, .int v_wrong, .ref q_stood, .int v_pastMany, .ref q_past, .int v_days, .ref q_low, .ref q_high, .ref q_was, .ref q_best, .ref q_second, .ref q_total, .ref q_givenTo, .ref q_has, .ref q_own, .ref q_sums, .ref q_below])), (q_low, .inl (cI, 9, .inl v_low)), (q_high, .inl (cI, 9, .inl v_high)), (q_sums, .inl (cJ, 100, .inr (.inl v_sums))), (q_below, .inl (cJ, 10, .inr (.inl v_below)))]) hD hS hA [0, 1, 2, 4, 5] rfl
      refine va_callv (va_runV (As := []) (rest := []) ⟨hx, hb, hml, hown, hts⟩ (tX7_findWorths l dC dI cI cZ cJ cA H.size h0 v_riders v_rides q_riderOf q_waveOf q_marks v_lineMany q_line q_interfered v_isOpen v_group v_wrong q_stood v_pastMany q_past v_days q_low q_high q_was q_best q_second q_total q_givenTo q_has q_own q_sums q_below v_low v_high v_sums v_below N o_5_sums o_5_below hu_5) (cwV 0 hts gX7_run_X7_findWorths rfl rfl rfl (by decide +kernel) ⟨Nat.le_of_ble_eq_true rfl, Nat.le_of_ble_eq_true rfl⟩) ⟨fun a U g mk q => by obtain ⟨q0, q1, qP, qK, qD⟩ := q; exact ⟨q0, q1, qP, va_K.moved (u := U) (U := U.calling g mk a) (Vm.Alike.refl U.vm) qK, qD⟩, va_recv hK hPc (ci := 7) (q0 := 0) rfl rfl, fun U hU hW => ⟨rfl, by rw [hU], by rw [hU]; exact hPc, va_K.moved hW.alike hK, hDc.weaken (fun _ _ _ _ => trivial)⟩⟩ rfl rfl hl.1 rfl (lv_room (Nat.le_of_ble_eq_true rfl)) dX7_run_24 ⟨Nat.zero_le _, Nat.zero_le _⟩) hS (fun q _ h => hFc q h) hFc (fun u t H1 locs ht hvm hw hB hz1 hk1 hS => ?_)
      obtain ⟨hP1, hD1⟩ := hB
      rw [ht] at hP1
      obtain ⟨hP, hD⟩ := va_join (wr := [(q_was, .inl (cI, 9, .inl v_was))]) (w1 := [(h0, .inr (7, [.int v_riders, .int v_rides, .ref q_riderOf, .ref q_waveOf, .ref q_marks, .int v_lineMany, .ref q_line, .ref q_interfered, .int v_isOpen, .int v_group, .int v_wrong, .ref q_stood, .int v_pastMany, .ref q_past, .int v_days, .ref q_low, .ref q_high, .ref q_was, .ref q_best, .ref q_second, .ref q_total, .ref q_givenTo, .ref q_has, .ref q_own, .ref q_sums, .ref q_below])), (q_low, .inl (cI, 9, .inl v_low)), (q_high, .inl (cI, 9, .inl v_high)), (q_sums, .inl (cJ, 100, .inr (.inl o_5_sums))), (q_below, .inl (cJ, 10, .inr (.inl o_5_below)))]) hP hD [0, 1, 2, 4, 5] [3] rfl rfl (by decide) (by decide) hk1 hFc hP1 hD1
      clear hP1 hD1 hk1 hz1 hPc hDc hFc
      generalize H1 = H at hP hS ⊢
      have hP : va_P (dC, dI) vwCl [(q_was, .inl (cI, 9, .inl v_was)), (h0, .inr (7, [.int v_riders, .int v_rides, .ref q_riderOf, .ref q_waveOf, .ref q_marks, .int v_lineMany, .ref q_line, .ref q_interfered, .int v_isOpen, .int v_group, .int v_wrong, .ref q_stood, .int v_pastMany, .ref q_past, .int v_days, .ref q_low, .ref q_high, .ref q_was, .ref q_best, .ref q_second, .ref q_total, .ref q_givenTo, .ref q_has, .ref q_own, .ref q_sums, .ref q_below])), (q_low, .inl (cI, 9, .inl v_low)), (q_high, .inl (cI, 9, .inl v_high)), (q_sums, .inl (cJ, 100, .inr (.inl o_5_sums))), (q_below, .inl (cJ, 10, .inr (.inl o_5_below)))] H := hP
      have hD : va_D A [(q_was, .inl (cI, 9, .inl v_was)), (h0, .inr (7, [.int v_riders, .int v_rides, .ref q_riderOf, .ref q_waveOf, .ref q_marks, .int v_lineMany, .ref q_line, .ref q_interfered, .int v_isOpen, .int v_group, .int v_wrong, .ref q_stood, .int v_pastMany, .ref q_past, .int v_days, .ref q_low, .ref q_high, .ref q_was, .ref q_best, .ref q_second, .ref q_total, .ref q_givenTo, .ref q_has, .ref q_own, .ref q_sums, .ref q_below])), (q_low, .inl (cI, 9, .inl v_low)), (q_high, .inl (cI, 9, .inl v_high)), (q_sums, .inl (cJ, 100, .inr (.inl o_5_sums))), (q_below, .inl (cJ, 10, .inr (.inl o_5_below)))] := hD
      refine lv_iload_n hx hb dX7_run_27 rfl (lv_at hl 1 rfl) ?_
      refine lv_istore_n (lv' := [(3, .int x1), (0, .ref h0), (1, .int x1), (2, .int x2)]) hx hb dX7_run_28 rfl hl (by decide) rfl (fun ls hl => ?_)
      refine lv_iconst (v := 0) hx hb dX7_run_29 (by decide) ?_
      refine lv_istore (lv' := [(4, .int 0), (3, .int x1), (0, .ref h0), (1, .int x1), (2, .int x2)]) hx hb dX7_run_30 hl (by decide) rfl (fun ls hl => ?_)
      refine lv_iconst (v := 0) hx hb dX7_run_32 (by decide) ?_
      refine lv_istore (lv' := [(5, .int 0), (4, .int 0), (3, .int x1), (0, .ref h0), (1, .int x1), (2, .int x2)]) hx hb dX7_run_33 hl (by decide) rfl (fun ls hl => ?_)
      refine lv_iconst (v := 0) hx hb dX7_run_35 (by decide) ?_
      refine lv_istore (lv' := [(6, .int 0), (5, .int 0), (4, .int 0), (3, .int x1), (0, .ref h0), (1, .int x1), (2, .int x2)]) hx hb dX7_run_36 hl (by decide) rfl (fun ls hl => ?_)
      have hP : va_P (dC, dI) vwCl [(h0, .inr (7, [.int v_riders, .int v_rides, .ref q_riderOf, .ref q_waveOf, .ref q_marks, .int v_lineMany, .ref q_line, .ref q_interfered, .int v_isOpen, .int v_group, .int v_wrong, .ref q_stood, .int v_pastMany, .ref q_past, .int v_days, .ref q_low, .ref q_high, .ref q_was, .ref q_best, .ref q_second, .ref q_total, .ref q_givenTo, .ref q_has, .ref q_own, .ref q_sums, .ref q_below])), (q_low, .inl (cI, 9, .inl v_low)), (q_high, .inl (cI, 9, .inl v_high)), (q_was, .inl (cI, 9, .inl v_was)), (q_sums, .inl (cJ, 100, .inr (.inl o_5_sums))), (q_below, .inl (cJ, 10, .inr (.inl o_5_below)))] H := hP.sub [1, 2, 3, 0, 4, 5] rfl
      have hD : va_D A [(h0, .inr (7, [.int v_riders, .int v_rides, .ref q_riderOf, .ref q_waveOf, .ref q_marks, .int v_lineMany, .ref q_line, .ref q_interfered, .int v_isOpen, .int v_group, .int v_wrong, .ref q_stood, .int v_pastMany, .ref q_past, .int v_days, .ref q_low, .ref q_high, .ref q_was, .ref q_best, .ref q_second, .ref q_total, .ref q_givenTo, .ref q_has, .ref q_own, .ref q_sums, .ref q_below])), (q_low, .inl (cI, 9, .inl v_low)), (q_high, .inl (cI, 9, .inl v_high)), (q_was, .inl (cI, 9, .inl v_was)), (q_sums, .inl (cJ, 100, .inr (.inl o_5_sums))), (q_below, .inl (cJ, 10, .inr (.inl o_5_below)))] := hD.sub [1, 2, 3, 0, 4, 5] (by decide) rfl
      refine wX7_run_L38 hx hb hr hml hown hts hlocks hA hK N x1 0 0 0 H locs ls hP hD hS (lv_sub hl [4, 6, 3, 2, 1, 0] rfl) hf ?_
      intro x3_11 x4_11 x5_11 x6_11 H locs ls hP hD hS hl hf
      refine lv_iload_n hx hb dX7_run_104 rfl (lv_at hl 0 rfl) ?_
      refine lv_if_ne (tgt := 113) hx hb dX7_run_105 (by decide) (fun h_12 => ?_) (fun h_12 => ?_)
      · have hf := it_f h_12 hf
        refine lv_iload_n hx hb dX7_run_113 rfl (lv_at hl 0 rfl) ?_
        refine lv_iconst (v := 1) hx hb dX7_run_114 (by decide) ?_
        refine lv_icmp_ne (tgt := 123) hx hb dX7_run_115 (by decide) (fun h_13 => ?_) (fun h_13 => ?_)
        · have hf := it_f h_13 hf
          refine lv_iload hx hb dX7_run_123 (lv_at hl 3 rfl) ?_
          cases hf
          exact W.iret hx hb hr (fun t ht hW => ⟨⟨_, (), rfl, rfl, by rw [ht]; exact hP, hD⟩, hS.F ht⟩) hS.2.2 dX7_run_125
        · have hf := it_t h_13 hf
          refine lv_iload hx hb dX7_run_118 (lv_at hl 2 rfl) ?_
          refine lv_goto (tgt := 125) hx hb dX7_run_120 (by decide) ?_
          cases hf
          exact W.iret hx hb hr (fun t ht hW => ⟨⟨_, (), rfl, rfl, by rw [ht]; exact hP, hD⟩, hS.F ht⟩) hS.2.2 dX7_run_125
      · have hf := it_t h_12 hf
        refine lv_iload hx hb dX7_run_108 (lv_at hl 1 rfl) ?_
        refine lv_goto (tgt := 125) hx hb dX7_run_110 (by decide) ?_
        cases hf
        exact W.iret hx hb hr (fun t ht hW => ⟨⟨_, (), rfl, rfl, by rw [ht]; exact hP, hD⟩, hS.F ht⟩) hS.2.2 dX7_run_125
    · have hf := it_t h_4 hf
      refine lv_iconst (v := (-1)) hx hb dX7_run_21 (by decide) ?_
      cases hf
      exact W.iret hx hb hr (fun t ht hW => ⟨⟨_, (), rfl, rfl, by rw [ht]; exact hP, hD⟩, hS.F ht⟩) hS.2.2 dX7_run_22
/-! X7_known -/
theorem iw_X7_known_X7 : ∀ w ∈ wsX70, w ∈ wsX7_known := by decide +kernel
set_option maxHeartbeats 4000000 in
set_option maxRecDepth 100000 in
theorem wX7_known_L4 {p : Program} {l : Launch} {e : Env} {s : State} {m : MethodId} {args : Array Value} {below : List Frame} {meth : Method} {c : Code} {dC : Nat → ClassId} {dI : Nat → Nat → Nat} {cI cZ cJ cA : ClassId} {A : Nat → Prop} {h0 : Nat} {v_riders : Int32} {v_rides : Int32} {q_riderOf : Nat} {q_waveOf : Nat} {q_marks : Nat} {v_lineMany : Int32} {q_line : Nat} {q_interfered : Nat} {v_isOpen : Int32} {v_group : Int32} {v_wrong : Int32} {q_stood : Nat} {v_pastMany : Int32} {q_past : Nat} {v_days : Int32} {q_low : Nat} {q_high : Nat} {q_was : Nat} {q_best : Nat} {q_second : Nat} {q_total : Nat} {q_givenTo : Nat} {q_has : Nat} {q_own : Nat} {q_sums : Nat} {q_below : Nat} {v_was : Nat → Int32}  {r0 : Int32} {N : Nat}  (hx : p.tables.exec = Jvm.exec) (hb : c.code = cX7_known) (hr : meth.sig.returnType = (some .int)) (hml : c.maxLocals = 3) (hown : s.vm.findClass RX7 = some m.cls) (hts : ∀ w ∈ wsX7_known, w.before args s = true) (hlocks : meth.locks = false) (hA : ∀ q : Nat, s.heap.size ≤ q → A q) (hK : va_K (dC, dI) vwCl [(cI, .int), (cZ, .boolean), (cJ, .long), (cA, .array .long)] s) : ∀ (n : Nat) (x1 : Int32) (x2 : Int32) (H : Heap) (locs : List Loc) (ls : Array Slot), va_P (dC, dI) vwCl [(h0, .inr (7, [.int v_riders, .int v_rides, .ref q_riderOf, .ref q_waveOf, .ref q_marks, .int v_lineMany, .ref q_line, .ref q_interfered, .int v_isOpen, .int v_group, .int v_wrong, .ref q_stood, .int v_pastMany, .ref q_past, .int v_days, .ref q_low, .ref q_high, .ref q_was, .ref q_best, .ref q_second, .ref q_total, .ref q_givenTo, .ref q_has, .ref q_own, .ref q_sums, .ref q_below])), (q_was, .inl (cI, 9, .inl v_was))] H → va_D A [(h0, .inr (7, [.int v_riders, .int v_rides, .ref q_riderOf, .ref q_waveOf, .ref q_marks, .int v_lineMany, .ref q_line, .ref q_interfered, .int v_isOpen, .int v_group, .int v_wrong, .ref q_stood, .int v_pastMany, .ref q_past, .int v_days, .ref q_low, .ref q_high, .ref q_was, .ref q_best, .ref q_second, .ref q_total, .ref q_givenTo, .ref q_has, .ref q_own, .ref q_sums, .ref q_below])), (q_was, .inl (cI, 9, .inl v_was))] → va_S A s.heap H locs → lv_has ls 3 [(0, .ref h0), (1, .int x1), (2, .int x2)] → fX7_known_L4 N v_days v_was n x1 x2 = some r0 → W p l e (headSpec wsX7_known ({ frames := 0, cells := 0, slots := 0, locals := 0 })).room s m args below meth c H locs 0 0 (MQ below (va_Qi (fun (r9 : Int32) (_ : Unit) => r0 = r9) (fun _ t => va_P (dC, dI) vwCl [(h0, .inr (7, [.int v_riders, .int v_rides, .ref q_riderOf, .ref q_waveOf, .ref q_marks, .int v_lineMany, .ref q_line, .ref q_interfered, .int v_isOpen, .int v_group, .int v_wrong, .ref q_stood, .int v_pastMany, .ref q_past, .int v_days, .ref q_low, .ref q_high, .ref q_was, .ref q_best, .ref q_second, .ref q_total, .ref q_givenTo, .ref q_has, .ref q_own, .ref q_sums, .ref q_below])), (q_was, .inl (cI, 9, .inl v_was))] t.heap ∧ va_D A [(h0, .inr (7, [.int v_riders, .int v_rides, .ref q_riderOf, .ref q_waveOf, .ref q_marks, .int v_lineMany, .ref q_line, .ref q_interfered, .int v_isOpen, .int v_group, .int v_wrong, .ref q_stood, .int v_pastMany, .ref q_past, .int v_days, .ref q_low, .ref q_high, .ref q_was, .ref q_best, .ref q_second, .ref q_total, .ref q_givenTo, .ref q_has, .ref q_own, .ref q_sums, .ref q_below])), (q_was, .inl (cI, 9, .inl v_was))]) A) args s 0 0 A) (F0 m 4 ls []) := by
  intro n
  induction n with
  | zero =>
    intro x1 x2 H locs ls hP hD hS hl hf
    exact nomatch (show (none : Option (Int32)) = some r0 from hf)
  | succ n ih =>
    intro x1 x2 H locs ls hP hD hS hl hf
    rw [fX7_known_L4] at hf
    refine lv_iload_n hx hb dX7_known_4 rfl (lv_at hl 2 rfl) ?_
    refine lv_aload_n hx hb dX7_known_5 rfl (lv_at hl 0 rfl) ?_
    refine va_get (D := (dC, dI)) (ci := 7) (v := .int v_days) (C := RX7) (T := TX7) (N := 26) hx hb hts iw_X7_known_X7 hown hK hP 0 rfl rfl 14 (by decide) (hts (.fieldLink RX7 38 "HeatBenchModel" "days" "I") (List.mem_of_getElem? (i := 1) rfl)) (fun _ h9 => h9) rfl dX7_known_6 ?_
    refine lv_icmp_ge (tgt := 35) hx hb dX7_known_9 (by decide) (fun h_1 => ?_) (fun h_1 => ?_)
    · have hf := it_t h_1 hf
      refine lv_iload_n hx hb dX7_known_35 rfl (lv_at hl 1 rfl) ?_
      cases hf
      exact W.iret hx hb hr (fun t ht hW => ⟨⟨_, (), rfl, rfl, by rw [ht]; exact hP, hD⟩, hS.F ht⟩) hS.2.2 dX7_known_36
    · have hf := it_f h_1 hf
      refine lv_iload_n hx hb dX7_known_12 rfl (lv_at hl 1 rfl) ?_
      refine lv_aload_n hx hb dX7_known_13 rfl (lv_at hl 0 rfl) ?_
      refine va_get (D := (dC, dI)) (ci := 7) (v := .ref q_was) (C := RX7) (T := TX7) (N := 26) hx hb hts iw_X7_known_X7 hown hK hP 0 rfl rfl 17 (by decide) (hts (.fieldLink RX7 47 "HeatBenchModel" "was" "[I") (List.mem_of_getElem? (i := 2) rfl)) (fun _ h9 => h9) rfl dX7_known_14 ?_
      refine lv_iload_n hx hb dX7_known_17 rfl (lv_at hl 2 rfl) ?_
      obtain ⟨h_2, hf⟩ := it_n hf
      refine va_iald hx hb hK hP 1 0 rfl rfl h_2 dX7_known_18 ?_
      refine lv_if_lt (tgt := 26) hx hb dX7_known_19 (by decide) (fun h_3 => ?_) (fun h_3 => ?_)
      · have hf := it_t h_3 hf
        refine lv_iconst (v := 0) hx hb dX7_known_26 (by decide) ?_
        refine lv_iadd hx hb dX7_known_27 ?_
        refine lv_istore_n (lv' := [(1, .int (x1 + 0)), (0, .ref h0), (2, .int x2)]) hx hb dX7_known_28 rfl hl (by decide) rfl (fun ls hl => ?_)
        refine lv_iinc (v := x2 + 1) (lv' := [(2, .int (x2 + 1)), (1, .int (x1 + 0)), (0, .ref h0)]) hx hb dX7_known_29 hl (k := 2) rfl rfl (by decide) rfl (fun ls hl => ?_)
        refine lv_goto (tgt := 4) hx hb dX7_known_32 (by decide) ?_
        exact ih (x1 + 0) (x2 + 1) H locs ls hP hD hS (lv_sub hl [2, 1, 0] rfl) hf
      · have hf := it_f h_3 hf
        refine lv_iconst (v := 1) hx hb dX7_known_22 (by decide) ?_
        refine lv_goto (tgt := 27) hx hb dX7_known_23 (by decide) ?_
        refine lv_iadd hx hb dX7_known_27 ?_
        refine lv_istore_n (lv' := [(1, .int (x1 + 1)), (0, .ref h0), (2, .int x2)]) hx hb dX7_known_28 rfl hl (by decide) rfl (fun ls hl => ?_)
        refine lv_iinc (v := x2 + 1) (lv' := [(2, .int (x2 + 1)), (1, .int (x1 + 1)), (0, .ref h0)]) hx hb dX7_known_29 hl (k := 2) rfl rfl (by decide) rfl (fun ls hl => ?_)
        refine lv_goto (tgt := 4) hx hb dX7_known_32 (by decide) ?_
        exact ih (x1 + 1) (x2 + 1) H locs ls hP hD hS (lv_sub hl [2, 1, 0] rfl) hf
set_option maxHeartbeats 4000000 in
set_option maxRecDepth 100000 in
theorem tX7_known (l : Launch) (dC : Nat → ClassId) (dI : Nat → Nat → Nat) (cI cZ cJ cA : ClassId) (sz : Nat) (h0 : Nat) (v_riders : Int32) (v_rides : Int32) (q_riderOf : Nat) (q_waveOf : Nat) (q_marks : Nat) (v_lineMany : Int32) (q_line : Nat) (q_interfered : Nat) (v_isOpen : Int32) (v_group : Int32) (v_wrong : Int32) (q_stood : Nat) (v_pastMany : Int32) (q_past : Nat) (v_days : Int32) (q_low : Nat) (q_high : Nat) (q_was : Nat) (q_best : Nat) (q_second : Nat) (q_total : Nat) (q_givenTo : Nat) (q_has : Nat) (q_own : Nat) (q_sums : Nat) (q_below : Nat) (v_was : Nat → Int32)  (N : Nat) (r0 : Int32) (hf : fX7_known N v_days v_was = some r0) : Met l yX7_known wsX7_known ({ frames := 0, cells := 0, slots := 0, locals := 0 }) (va_Pc [.ref h0] (fun U => U.heap.size = sz ∧ va_P (dC, dI) vwCl [(h0, .inr (7, [.int v_riders, .int v_rides, .ref q_riderOf, .ref q_waveOf, .ref q_marks, .int v_lineMany, .ref q_line, .ref q_interfered, .int v_isOpen, .int v_group, .int v_wrong, .ref q_stood, .int v_pastMany, .ref q_past, .int v_days, .ref q_low, .ref q_high, .ref q_was, .ref q_best, .ref q_second, .ref q_total, .ref q_givenTo, .ref q_has, .ref q_own, .ref q_sums, .ref q_below])), (q_was, .inl (cI, 9, .inl v_was))] U.heap ∧ va_K (dC, dI) vwCl [(cI, .int), (cZ, .boolean), (cJ, .long), (cA, .array .long)] U ∧ va_D (fun _ => True) [(h0, .inr (7, [.int v_riders, .int v_rides, .ref q_riderOf, .ref q_waveOf, .ref q_marks, .int v_lineMany, .ref q_line, .ref q_interfered, .int v_isOpen, .int v_group, .int v_wrong, .ref q_stood, .int v_pastMany, .ref q_past, .int v_days, .ref q_low, .ref q_high, .ref q_was, .ref q_best, .ref q_second, .ref q_total, .ref q_givenTo, .ref q_has, .ref q_own, .ref q_sums, .ref q_below])), (q_was, .inl (cI, 9, .inl v_was))])) (va_Qi (fun (r9 : Int32) (_ : Unit) => r0 = r9) (fun _ t => va_P (dC, dI) vwCl [(h0, .inr (7, [.int v_riders, .int v_rides, .ref q_riderOf, .ref q_waveOf, .ref q_marks, .int v_lineMany, .ref q_line, .ref q_interfered, .int v_isOpen, .int v_group, .int v_wrong, .ref q_stood, .int v_pastMany, .ref q_past, .int v_days, .ref q_low, .ref q_high, .ref q_was, .ref q_best, .ref q_second, .ref q_total, .ref q_givenTo, .ref q_has, .ref q_own, .ref q_sums, .ref q_below])), (q_was, .inl (cI, 9, .inl v_was))] t.heap ∧ va_D (va_A [(h0, .inr (7, [.int v_riders, .int v_rides, .ref q_riderOf, .ref q_waveOf, .ref q_marks, .int v_lineMany, .ref q_line, .ref q_interfered, .int v_isOpen, .int v_group, .int v_wrong, .ref q_stood, .int v_pastMany, .ref q_past, .int v_days, .ref q_low, .ref q_high, .ref q_was, .ref q_best, .ref q_second, .ref q_total, .ref q_givenTo, .ref q_has, .ref q_own, .ref q_sums, .ref q_below])), (q_was, .inl (cI, 9, .inl v_was))] sz) [(h0, .inr (7, [.int v_riders, .int v_rides, .ref q_riderOf, .ref q_waveOf, .ref q_marks, .int v_lineMany, .ref q_line, .ref q_interfered, .int v_isOpen, .int v_group, .int v_wrong, .ref q_stood, .int v_pastMany, .ref q_past, .int v_days, .ref q_low, .ref q_high, .ref q_was, .ref q_best, .ref q_second, .ref q_total, .ref q_givenTo, .ref q_has, .ref q_own, .ref q_sums, .ref q_below])), (q_was, .inl (cI, 9, .inl v_was))]) (va_A [(h0, .inr (7, [.int v_riders, .int v_rides, .ref q_riderOf, .ref q_waveOf, .ref q_marks, .int v_lineMany, .ref q_line, .ref q_interfered, .int v_isOpen, .int v_group, .int v_wrong, .ref q_stood, .int v_pastMany, .ref q_past, .int v_days, .ref q_low, .ref q_high, .ref q_was, .ref q_best, .ref q_second, .ref q_total, .ref q_givenTo, .ref q_has, .ref q_own, .ref q_sums, .ref q_below])), (q_was, .inl (cI, 9, .inl v_was))] sz)) 0 0 (va_A [(h0, .inr (7, [.int v_riders, .int v_rides, .ref q_riderOf, .ref q_waveOf, .ref q_marks, .int v_lineMany, .ref q_line, .ref q_interfered, .int v_isOpen, .int v_group, .int v_wrong, .ref q_stood, .int v_pastMany, .ref q_past, .int v_days, .ref q_low, .ref q_high, .ref q_was, .ref q_best, .ref q_second, .ref q_total, .ref q_givenTo, .ref q_has, .ref q_own, .ref q_sums, .ref q_below])), (q_was, .inl (cI, 9, .inl v_was))] sz) := by
  refine Met.ofW (cc := cX7_known) (maxL := 3) (ret := (some .int)) (by decide) rfl ?_
  intro p e s m args below meth c s₁ B hml hv
  obtain ⟨rfl, hsz, hP, hK, hD0⟩ := hv
  have hx := B.exec
  have hb := B.bytes
  have hr := B.returns
  have hts := atoms_spec (ws := wsX7_known) B.pre
  have hown : s.vm.findClass RX7 = some m.cls := findClass_of_methodNamed B.named
  have hlocks := B.notSynchronized
  subst hsz
  have hD := hD0.self (sz := s.heap.size)
  generalize hAe : va_A [(h0, .inr (7, [.int v_riders, .int v_rides, .ref q_riderOf, .ref q_waveOf, .ref q_marks, .int v_lineMany, .ref q_line, .ref q_interfered, .int v_isOpen, .int v_group, .int v_wrong, .ref q_stood, .int v_pastMany, .ref q_past, .int v_days, .ref q_low, .ref q_high, .ref q_was, .ref q_best, .ref q_second, .ref q_total, .ref q_givenTo, .ref q_has, .ref q_own, .ref q_sums, .ref q_below])), (q_was, .inl (cI, 9, .inl v_was))] s.heap.size = A at hD ⊢
  have hA : ∀ q : Nat, s.heap.size ≤ q → A q := fun q h => by rw [← hAe]; exact Or.inr h
  have hS : va_S A s.heap s.heap [] := va_S.rf
  have hl := lv_entry ([.ref h0]) (n := 3) (Nat.le_of_ble_eq_true rfl)
  rw [lg_entry_eq]
  generalize (lg_sl ([.ref h0]) ++ List.replicate (3 - (lg_sl ([.ref h0])).length) Slot.unset).toArray = ls at hl ⊢
  have hl : lv_has ls 3 [(0, .ref h0)] := hl
  refine vx_gen hP hS (fun H locs hP hS => ?_)
  unfold fX7_known at hf
  refine lv_iconst (v := 0) hx hb dX7_known_0 (by decide) ?_
  refine lv_istore_n (lv' := [(1, .int 0), (0, .ref h0)]) hx hb dX7_known_1 rfl hl (by decide) rfl (fun ls hl => ?_)
  refine lv_iconst (v := 0) hx hb dX7_known_2 (by decide) ?_
  refine lv_istore_n (lv' := [(2, .int 0), (1, .int 0), (0, .ref h0)]) hx hb dX7_known_3 rfl hl (by decide) rfl (fun ls hl => ?_)
  exact wX7_known_L4 hx hb hr hml hown hts hlocks hA hK N 0 0 H locs ls hP hD hS (lv_sub hl [2, 1, 0] rfl) hf
/-! X7_behind -/
theorem iw_X7_behind_X7 : ∀ w ∈ wsX70, w ∈ wsX7_behind := by decide +kernel
set_option maxHeartbeats 4000000 in
set_option maxRecDepth 100000 in
theorem wX7_behind_L44 {p : Program} {l : Launch} {e : Env} {s : State} {m : MethodId} {args : Array Value} {below : List Frame} {meth : Method} {c : Code} {dC : Nat → ClassId} {dI : Nat → Nat → Nat} {cI cZ cJ cA : ClassId} {A : Nat → Prop} {h0 : Nat} {v_riders : Int32} {v_rides : Int32} {q_riderOf : Nat} {q_waveOf : Nat} {q_marks : Nat} {v_lineMany : Int32} {q_line : Nat} {q_interfered : Nat} {v_isOpen : Int32} {v_group : Int32} {v_wrong : Int32} {q_stood : Nat} {v_pastMany : Int32} {q_past : Nat} {v_days : Int32} {q_low : Nat} {q_high : Nat} {q_was : Nat} {q_best : Nat} {q_second : Nat} {q_total : Nat} {q_givenTo : Nat} {q_has : Nat} {q_own : Nat} {q_sums : Nat} {q_below : Nat} {v_was : Nat → Int32} {x4 : Int32} {r0 : Int32} {N : Nat} {k : Int32 → Int32 → Int32 → Option (Int32)} (hx : p.tables.exec = Jvm.exec) (hb : c.code = cX7_behind) (hr : meth.sig.returnType = (some .int)) (hml : c.maxLocals = 6) (hown : s.vm.findClass RX7 = some m.cls) (hts : ∀ w ∈ wsX7_behind, w.before args s = true) (hlocks : meth.locks = false) (hA : ∀ q : Nat, s.heap.size ≤ q → A q) (hK : va_K (dC, dI) vwCl [(cI, .int), (cZ, .boolean), (cJ, .long), (cA, .array .long)] s) : ∀ (n : Nat) (x2 : Int32) (x3 : Int32) (x5 : Int32) (H : Heap) (locs : List Loc) (ls : Array Slot), va_P (dC, dI) vwCl [(h0, .inr (7, [.int v_riders, .int v_rides, .ref q_riderOf, .ref q_waveOf, .ref q_marks, .int v_lineMany, .ref q_line, .ref q_interfered, .int v_isOpen, .int v_group, .int v_wrong, .ref q_stood, .int v_pastMany, .ref q_past, .int v_days, .ref q_low, .ref q_high, .ref q_was, .ref q_best, .ref q_second, .ref q_total, .ref q_givenTo, .ref q_has, .ref q_own, .ref q_sums, .ref q_below])), (q_was, .inl (cI, 9, .inl v_was))] H → va_D A [(h0, .inr (7, [.int v_riders, .int v_rides, .ref q_riderOf, .ref q_waveOf, .ref q_marks, .int v_lineMany, .ref q_line, .ref q_interfered, .int v_isOpen, .int v_group, .int v_wrong, .ref q_stood, .int v_pastMany, .ref q_past, .int v_days, .ref q_low, .ref q_high, .ref q_was, .ref q_best, .ref q_second, .ref q_total, .ref q_givenTo, .ref q_has, .ref q_own, .ref q_sums, .ref q_below])), (q_was, .inl (cI, 9, .inl v_was))] → va_S A s.heap H locs → lv_has ls 6 [(0, .ref h0), (2, .int x2), (3, .int x3), (4, .int x4), (5, .int x5)] → fX7_behind_L44 N x4 v_days v_was k n x2 x3 x5 = some r0 → (∀ (x2' : Int32) (x3' : Int32) (x5' : Int32) (H : Heap) (locs : List Loc) (ls : Array Slot), va_P (dC, dI) vwCl [(h0, .inr (7, [.int v_riders, .int v_rides, .ref q_riderOf, .ref q_waveOf, .ref q_marks, .int v_lineMany, .ref q_line, .ref q_interfered, .int v_isOpen, .int v_group, .int v_wrong, .ref q_stood, .int v_pastMany, .ref q_past, .int v_days, .ref q_low, .ref q_high, .ref q_was, .ref q_best, .ref q_second, .ref q_total, .ref q_givenTo, .ref q_has, .ref q_own, .ref q_sums, .ref q_below])), (q_was, .inl (cI, 9, .inl v_was))] H → va_D A [(h0, .inr (7, [.int v_riders, .int v_rides, .ref q_riderOf, .ref q_waveOf, .ref q_marks, .int v_lineMany, .ref q_line, .ref q_interfered, .int v_isOpen, .int v_group, .int v_wrong, .ref q_stood, .int v_pastMany, .ref q_past, .int v_days, .ref q_low, .ref q_high, .ref q_was, .ref q_best, .ref q_second, .ref q_total, .ref q_givenTo, .ref q_has, .ref q_own, .ref q_sums, .ref q_below])), (q_was, .inl (cI, 9, .inl v_was))] → va_S A s.heap H locs → lv_has ls 6 [(0, .ref h0), (2, .int x2'), (3, .int x3'), (4, .int x4)] → k x2' x3' x5' = some r0 → W p l e (headSpec wsX7_behind ({ frames := 1, cells := 0, slots := 0, locals := 22 })).room s m args below meth c H locs 0 0 (MQ below (va_Qi (fun (r9 : Int32) (_ : Unit) => r0 = r9) (fun _ t => va_P (dC, dI) vwCl [(h0, .inr (7, [.int v_riders, .int v_rides, .ref q_riderOf, .ref q_waveOf, .ref q_marks, .int v_lineMany, .ref q_line, .ref q_interfered, .int v_isOpen, .int v_group, .int v_wrong, .ref q_stood, .int v_pastMany, .ref q_past, .int v_days, .ref q_low, .ref q_high, .ref q_was, .ref q_best, .ref q_second, .ref q_total, .ref q_givenTo, .ref q_has, .ref q_own, .ref q_sums, .ref q_below])), (q_was, .inl (cI, 9, .inl v_was))] t.heap ∧ va_D A [(h0, .inr (7, [.int v_riders, .int v_rides, .ref q_riderOf, .ref q_waveOf, .ref q_marks, .int v_lineMany, .ref q_line, .ref q_interfered, .int v_isOpen, .int v_group, .int v_wrong, .ref q_stood, .int v_pastMany, .ref q_past, .int v_days, .ref q_low, .ref q_high, .ref q_was, .ref q_best, .ref q_second, .ref q_total, .ref q_givenTo, .ref q_has, .ref q_own, .ref q_sums, .ref q_below])), (q_was, .inl (cI, 9, .inl v_was))]) A) args s 0 0 A) (F0 m 83 ls [])) → W p l e (headSpec wsX7_behind ({ frames := 1, cells := 0, slots := 0, locals := 22 })).room s m args below meth c H locs 0 0 (MQ below (va_Qi (fun (r9 : Int32) (_ : Unit) => r0 = r9) (fun _ t => va_P (dC, dI) vwCl [(h0, .inr (7, [.int v_riders, .int v_rides, .ref q_riderOf, .ref q_waveOf, .ref q_marks, .int v_lineMany, .ref q_line, .ref q_interfered, .int v_isOpen, .int v_group, .int v_wrong, .ref q_stood, .int v_pastMany, .ref q_past, .int v_days, .ref q_low, .ref q_high, .ref q_was, .ref q_best, .ref q_second, .ref q_total, .ref q_givenTo, .ref q_has, .ref q_own, .ref q_sums, .ref q_below])), (q_was, .inl (cI, 9, .inl v_was))] t.heap ∧ va_D A [(h0, .inr (7, [.int v_riders, .int v_rides, .ref q_riderOf, .ref q_waveOf, .ref q_marks, .int v_lineMany, .ref q_line, .ref q_interfered, .int v_isOpen, .int v_group, .int v_wrong, .ref q_stood, .int v_pastMany, .ref q_past, .int v_days, .ref q_low, .ref q_high, .ref q_was, .ref q_best, .ref q_second, .ref q_total, .ref q_givenTo, .ref q_has, .ref q_own, .ref q_sums, .ref q_below])), (q_was, .inl (cI, 9, .inl v_was))]) A) args s 0 0 A) (F0 m 44 ls []) := by
  intro n
  induction n with
  | zero =>
    intro x2 x3 x5 H locs ls hP hD hS hl hf kk
    exact nomatch (show (none : Option (Int32)) = some r0 from hf)
  | succ n ih =>
    intro x2 x3 x5 H locs ls hP hD hS hl hf kk
    rw [fX7_behind_L44] at hf
    refine lv_iload hx hb dX7_behind_44 (lv_at hl 4 rfl) ?_
    refine lv_aload_n hx hb dX7_behind_46 rfl (lv_at hl 0 rfl) ?_
    refine va_get (D := (dC, dI)) (ci := 7) (v := .int v_days) (C := RX7) (T := TX7) (N := 26) hx hb hts iw_X7_behind_X7 hown hK hP 0 rfl rfl 14 (by decide) (hts (.fieldLink RX7 38 "HeatBenchModel" "days" "I") (List.mem_of_getElem? (i := 1) rfl)) (fun _ h9 => h9) rfl dX7_behind_47 ?_
    refine lv_icmp_ge (tgt := 83) hx hb dX7_behind_50 (by decide) (fun h_6 => ?_) (fun h_6 => ?_)
    · have hf := it_t h_6 hf
      exact kk x2 x3 x5 H locs ls hP hD hS (lv_sub hl [0, 1, 2, 3] rfl) hf
    · have hf := it_f h_6 hf
      refine lv_aload_n hx hb dX7_behind_53 rfl (lv_at hl 0 rfl) ?_
      refine va_get (D := (dC, dI)) (ci := 7) (v := .ref q_was) (C := RX7) (T := TX7) (N := 26) hx hb hts iw_X7_behind_X7 hown hK hP 0 rfl rfl 17 (by decide) (hts (.fieldLink RX7 47 "HeatBenchModel" "was" "[I") (List.mem_of_getElem? (i := 2) rfl)) (fun _ h9 => h9) rfl dX7_behind_54 ?_
      refine lv_iload hx hb dX7_behind_57 (lv_at hl 4 rfl) ?_
      obtain ⟨h_7, hf⟩ := it_n hf
      refine va_iald hx hb hK hP 1 0 rfl rfl h_7 dX7_behind_59 ?_
      refine lv_iload hx hb dX7_behind_60 (lv_at hl 3 rfl) ?_
      refine lv_icmp_ne (tgt := 77) hx hb dX7_behind_62 (by decide) (fun h_8 => ?_) (fun h_8 => ?_)
      · have hf := it_f h_8 hf
        refine lv_iinc (v := x5 + 1) (lv' := [(5, .int (x5 + 1)), (0, .ref h0), (2, .int x2), (3, .int x3), (4, .int x4)]) hx hb dX7_behind_77 hl (k := 4) rfl rfl (by decide) rfl (fun ls hl => ?_)
        refine lv_goto (tgt := 44) hx hb dX7_behind_80 (by decide) ?_
        exact ih x2 x3 (x5 + 1) H locs ls hP hD hS (lv_sub hl [1, 2, 3, 4, 0] rfl) hf kk
      · have hf := it_t h_8 hf
        refine lv_iload_n hx hb dX7_behind_65 rfl (lv_at hl 2 rfl) ?_
        refine lv_if_le (tgt := 77) hx hb dX7_behind_66 (by decide) (fun h_9 => ?_) (fun h_9 => ?_)
        · have hf := it_t h_9 hf
          refine lv_iinc (v := x5 + 1) (lv' := [(5, .int (x5 + 1)), (0, .ref h0), (2, .int x2), (3, .int x3), (4, .int x4)]) hx hb dX7_behind_77 hl (k := 4) rfl rfl (by decide) rfl (fun ls hl => ?_)
          refine lv_goto (tgt := 44) hx hb dX7_behind_80 (by decide) ?_
          exact ih x2 x3 (x5 + 1) H locs ls hP hD hS (lv_sub hl [1, 2, 3, 4, 0] rfl) hf kk
        · have hf := it_f h_9 hf
          refine lv_iload_n hx hb dX7_behind_69 rfl (lv_at hl 1 rfl) ?_
          refine lv_iload hx hb dX7_behind_70 (lv_at hl 3 rfl) ?_
          refine lv_iadd hx hb dX7_behind_72 ?_
          refine lv_istore_n (lv' := [(2, .int (x2 + x4)), (0, .ref h0), (3, .int x3), (4, .int x4), (5, .int x5)]) hx hb dX7_behind_73 rfl hl (by decide) rfl (fun ls hl => ?_)
          refine lv_iinc (v := x3 + (-1)) (lv' := [(3, .int (x3 + (-1))), (2, .int (x2 + x4)), (0, .ref h0), (4, .int x4), (5, .int x5)]) hx hb dX7_behind_74 hl (k := 2) rfl rfl (by decide) rfl (fun ls hl => ?_)
          refine lv_iinc (v := x5 + 1) (lv' := [(5, .int (x5 + 1)), (3, .int (x3 + (-1))), (2, .int (x2 + x4)), (0, .ref h0), (4, .int x4)]) hx hb dX7_behind_77 hl (k := 4) rfl rfl (by decide) rfl (fun ls hl => ?_)
          refine lv_goto (tgt := 44) hx hb dX7_behind_80 (by decide) ?_
          exact ih (x2 + x4) (x3 + (-1)) (x5 + 1) H locs ls hP hD hS (lv_sub hl [3, 2, 1, 4, 0] rfl) hf kk
set_option maxHeartbeats 4000000 in
set_option maxRecDepth 100000 in
theorem wX7_behind_L36 {p : Program} {l : Launch} {e : Env} {s : State} {m : MethodId} {args : Array Value} {below : List Frame} {meth : Method} {c : Code} {dC : Nat → ClassId} {dI : Nat → Nat → Nat} {cI cZ cJ cA : ClassId} {A : Nat → Prop} {h0 : Nat} {v_riders : Int32} {v_rides : Int32} {q_riderOf : Nat} {q_waveOf : Nat} {q_marks : Nat} {v_lineMany : Int32} {q_line : Nat} {q_interfered : Nat} {v_isOpen : Int32} {v_group : Int32} {v_wrong : Int32} {q_stood : Nat} {v_pastMany : Int32} {q_past : Nat} {v_days : Int32} {q_low : Nat} {q_high : Nat} {q_was : Nat} {q_best : Nat} {q_second : Nat} {q_total : Nat} {q_givenTo : Nat} {q_has : Nat} {q_own : Nat} {q_sums : Nat} {q_below : Nat} {v_was : Nat → Int32}  {r0 : Int32} {N : Nat}  (hx : p.tables.exec = Jvm.exec) (hb : c.code = cX7_behind) (hr : meth.sig.returnType = (some .int)) (hml : c.maxLocals = 6) (hown : s.vm.findClass RX7 = some m.cls) (hts : ∀ w ∈ wsX7_behind, w.before args s = true) (hlocks : meth.locks = false) (hA : ∀ q : Nat, s.heap.size ≤ q → A q) (hK : va_K (dC, dI) vwCl [(cI, .int), (cZ, .boolean), (cJ, .long), (cA, .array .long)] s) : ∀ (n : Nat) (x2 : Int32) (x3 : Int32) (x4 : Int32) (H : Heap) (locs : List Loc) (ls : Array Slot), va_P (dC, dI) vwCl [(h0, .inr (7, [.int v_riders, .int v_rides, .ref q_riderOf, .ref q_waveOf, .ref q_marks, .int v_lineMany, .ref q_line, .ref q_interfered, .int v_isOpen, .int v_group, .int v_wrong, .ref q_stood, .int v_pastMany, .ref q_past, .int v_days, .ref q_low, .ref q_high, .ref q_was, .ref q_best, .ref q_second, .ref q_total, .ref q_givenTo, .ref q_has, .ref q_own, .ref q_sums, .ref q_below])), (q_was, .inl (cI, 9, .inl v_was))] H → va_D A [(h0, .inr (7, [.int v_riders, .int v_rides, .ref q_riderOf, .ref q_waveOf, .ref q_marks, .int v_lineMany, .ref q_line, .ref q_interfered, .int v_isOpen, .int v_group, .int v_wrong, .ref q_stood, .int v_pastMany, .ref q_past, .int v_days, .ref q_low, .ref q_high, .ref q_was, .ref q_best, .ref q_second, .ref q_total, .ref q_givenTo, .ref q_has, .ref q_own, .ref q_sums, .ref q_below])), (q_was, .inl (cI, 9, .inl v_was))] → va_S A s.heap H locs → lv_has ls 6 [(0, .ref h0), (2, .int x2), (3, .int x3), (4, .int x4)] → fX7_behind_L36 N v_days v_was n x2 x3 x4 = some r0 → W p l e (headSpec wsX7_behind ({ frames := 1, cells := 0, slots := 0, locals := 22 })).room s m args below meth c H locs 0 0 (MQ below (va_Qi (fun (r9 : Int32) (_ : Unit) => r0 = r9) (fun _ t => va_P (dC, dI) vwCl [(h0, .inr (7, [.int v_riders, .int v_rides, .ref q_riderOf, .ref q_waveOf, .ref q_marks, .int v_lineMany, .ref q_line, .ref q_interfered, .int v_isOpen, .int v_group, .int v_wrong, .ref q_stood, .int v_pastMany, .ref q_past, .int v_days, .ref q_low, .ref q_high, .ref q_was, .ref q_best, .ref q_second, .ref q_total, .ref q_givenTo, .ref q_has, .ref q_own, .ref q_sums, .ref q_below])), (q_was, .inl (cI, 9, .inl v_was))] t.heap ∧ va_D A [(h0, .inr (7, [.int v_riders, .int v_rides, .ref q_riderOf, .ref q_waveOf, .ref q_marks, .int v_lineMany, .ref q_line, .ref q_interfered, .int v_isOpen, .int v_group, .int v_wrong, .ref q_stood, .int v_pastMany, .ref q_past, .int v_days, .ref q_low, .ref q_high, .ref q_was, .ref q_best, .ref q_second, .ref q_total, .ref q_givenTo, .ref q_has, .ref q_own, .ref q_sums, .ref q_below])), (q_was, .inl (cI, 9, .inl v_was))]) A) args s 0 0 A) (F0 m 36 ls []) := by
  intro n
  induction n with
  | zero =>
    intro x2 x3 x4 H locs ls hP hD hS hl hf
    exact nomatch (show (none : Option (Int32)) = some r0 from hf)
  | succ n ih =>
    intro x2 x3 x4 H locs ls hP hD hS hl hf
    rw [fX7_behind_L36] at hf
    refine lv_iload hx hb dX7_behind_36 (lv_at hl 3 rfl) ?_
    refine lv_if_le (tgt := 89) hx hb dX7_behind_38 (by decide) (fun h_5 => ?_) (fun h_5 => ?_)
    · have hf := it_t h_5 hf
      refine lv_iload_n hx hb dX7_behind_89 rfl (lv_at hl 1 rfl) ?_
      cases hf
      exact W.iret hx hb hr (fun t ht hW => ⟨⟨_, (), rfl, rfl, by rw [ht]; exact hP, hD⟩, hS.F ht⟩) hS.2.2 dX7_behind_90
    · have hf := it_f h_5 hf
      refine lv_iconst (v := 0) hx hb dX7_behind_41 (by decide) ?_
      refine lv_istore (lv' := [(5, .int 0), (0, .ref h0), (2, .int x2), (3, .int x3), (4, .int x4)]) hx hb dX7_behind_42 hl (by decide) rfl (fun ls hl => ?_)
      refine wX7_behind_L44 hx hb hr hml hown hts hlocks hA hK N x2 x3 0 H locs ls hP hD hS (lv_sub hl [1, 2, 3, 4, 0] rfl) hf ?_
      intro x2_10 x3_10 x5_10 H locs ls hP hD hS hl hf
      refine lv_iinc (v := x4 + (-1)) (lv' := [(4, .int (x4 + (-1))), (0, .ref h0), (2, .int x2_10), (3, .int x3_10)]) hx hb dX7_behind_83 hl (k := 3) rfl rfl (by decide) rfl (fun ls hl => ?_)
      refine lv_goto (tgt := 36) hx hb dX7_behind_86 (by decide) ?_
      exact ih x2_10 x3_10 (x4 + (-1)) H locs ls hP hD hS (lv_sub hl [1, 2, 3, 0] rfl) hf
set_option maxHeartbeats 4000000 in
set_option maxRecDepth 100000 in
theorem tX7_behind (l : Launch) (dC : Nat → ClassId) (dI : Nat → Nat → Nat) (cI cZ cJ cA : ClassId) (sz : Nat) (h0 : Nat) (v_riders : Int32) (v_rides : Int32) (q_riderOf : Nat) (q_waveOf : Nat) (q_marks : Nat) (v_lineMany : Int32) (q_line : Nat) (q_interfered : Nat) (v_isOpen : Int32) (v_group : Int32) (v_wrong : Int32) (q_stood : Nat) (v_pastMany : Int32) (q_past : Nat) (v_days : Int32) (q_low : Nat) (q_high : Nat) (q_was : Nat) (q_best : Nat) (q_second : Nat) (q_total : Nat) (q_givenTo : Nat) (q_has : Nat) (q_own : Nat) (q_sums : Nat) (q_below : Nat) (v_was : Nat → Int32) (x1 : Int32) (N : Nat) (r0 : Int32) (hf : fX7_behind N x1 v_days v_was = some r0) : Met l yX7_behind wsX7_behind ({ frames := 1, cells := 0, slots := 0, locals := 22 }) (va_Pc [.ref h0, .int x1] (fun U => U.heap.size = sz ∧ va_P (dC, dI) vwCl [(h0, .inr (7, [.int v_riders, .int v_rides, .ref q_riderOf, .ref q_waveOf, .ref q_marks, .int v_lineMany, .ref q_line, .ref q_interfered, .int v_isOpen, .int v_group, .int v_wrong, .ref q_stood, .int v_pastMany, .ref q_past, .int v_days, .ref q_low, .ref q_high, .ref q_was, .ref q_best, .ref q_second, .ref q_total, .ref q_givenTo, .ref q_has, .ref q_own, .ref q_sums, .ref q_below])), (q_was, .inl (cI, 9, .inl v_was))] U.heap ∧ va_K (dC, dI) vwCl [(cI, .int), (cZ, .boolean), (cJ, .long), (cA, .array .long)] U ∧ va_D (fun _ => True) [(h0, .inr (7, [.int v_riders, .int v_rides, .ref q_riderOf, .ref q_waveOf, .ref q_marks, .int v_lineMany, .ref q_line, .ref q_interfered, .int v_isOpen, .int v_group, .int v_wrong, .ref q_stood, .int v_pastMany, .ref q_past, .int v_days, .ref q_low, .ref q_high, .ref q_was, .ref q_best, .ref q_second, .ref q_total, .ref q_givenTo, .ref q_has, .ref q_own, .ref q_sums, .ref q_below])), (q_was, .inl (cI, 9, .inl v_was))])) (va_Qi (fun (r9 : Int32) (_ : Unit) => r0 = r9) (fun _ t => va_P (dC, dI) vwCl [(h0, .inr (7, [.int v_riders, .int v_rides, .ref q_riderOf, .ref q_waveOf, .ref q_marks, .int v_lineMany, .ref q_line, .ref q_interfered, .int v_isOpen, .int v_group, .int v_wrong, .ref q_stood, .int v_pastMany, .ref q_past, .int v_days, .ref q_low, .ref q_high, .ref q_was, .ref q_best, .ref q_second, .ref q_total, .ref q_givenTo, .ref q_has, .ref q_own, .ref q_sums, .ref q_below])), (q_was, .inl (cI, 9, .inl v_was))] t.heap ∧ va_D (va_A [(h0, .inr (7, [.int v_riders, .int v_rides, .ref q_riderOf, .ref q_waveOf, .ref q_marks, .int v_lineMany, .ref q_line, .ref q_interfered, .int v_isOpen, .int v_group, .int v_wrong, .ref q_stood, .int v_pastMany, .ref q_past, .int v_days, .ref q_low, .ref q_high, .ref q_was, .ref q_best, .ref q_second, .ref q_total, .ref q_givenTo, .ref q_has, .ref q_own, .ref q_sums, .ref q_below])), (q_was, .inl (cI, 9, .inl v_was))] sz) [(h0, .inr (7, [.int v_riders, .int v_rides, .ref q_riderOf, .ref q_waveOf, .ref q_marks, .int v_lineMany, .ref q_line, .ref q_interfered, .int v_isOpen, .int v_group, .int v_wrong, .ref q_stood, .int v_pastMany, .ref q_past, .int v_days, .ref q_low, .ref q_high, .ref q_was, .ref q_best, .ref q_second, .ref q_total, .ref q_givenTo, .ref q_has, .ref q_own, .ref q_sums, .ref q_below])), (q_was, .inl (cI, 9, .inl v_was))]) (va_A [(h0, .inr (7, [.int v_riders, .int v_rides, .ref q_riderOf, .ref q_waveOf, .ref q_marks, .int v_lineMany, .ref q_line, .ref q_interfered, .int v_isOpen, .int v_group, .int v_wrong, .ref q_stood, .int v_pastMany, .ref q_past, .int v_days, .ref q_low, .ref q_high, .ref q_was, .ref q_best, .ref q_second, .ref q_total, .ref q_givenTo, .ref q_has, .ref q_own, .ref q_sums, .ref q_below])), (q_was, .inl (cI, 9, .inl v_was))] sz)) 0 0 (va_A [(h0, .inr (7, [.int v_riders, .int v_rides, .ref q_riderOf, .ref q_waveOf, .ref q_marks, .int v_lineMany, .ref q_line, .ref q_interfered, .int v_isOpen, .int v_group, .int v_wrong, .ref q_stood, .int v_pastMany, .ref q_past, .int v_days, .ref q_low, .ref q_high, .ref q_was, .ref q_best, .ref q_second, .ref q_total, .ref q_givenTo, .ref q_has, .ref q_own, .ref q_sums, .ref q_below])), (q_was, .inl (cI, 9, .inl v_was))] sz) := by
  refine Met.ofW (cc := cX7_behind) (maxL := 6) (ret := (some .int)) (by decide) rfl ?_
  intro p e s m args below meth c s₁ B hml hv
  obtain ⟨rfl, hsz, hP, hK, hD0⟩ := hv
  have hx := B.exec
  have hb := B.bytes
  have hr := B.returns
  have hts := atoms_spec (ws := wsX7_behind) B.pre
  have hown : s.vm.findClass RX7 = some m.cls := findClass_of_methodNamed B.named
  have hlocks := B.notSynchronized
  subst hsz
  have hD := hD0.self (sz := s.heap.size)
  generalize hAe : va_A [(h0, .inr (7, [.int v_riders, .int v_rides, .ref q_riderOf, .ref q_waveOf, .ref q_marks, .int v_lineMany, .ref q_line, .ref q_interfered, .int v_isOpen, .int v_group, .int v_wrong, .ref q_stood, .int v_pastMany, .ref q_past, .int v_days, .ref q_low, .ref q_high, .ref q_was, .ref q_best, .ref q_second, .ref q_total, .ref q_givenTo, .ref q_has, .ref q_own, .ref q_sums, .ref q_below])), (q_was, .inl (cI, 9, .inl v_was))] s.heap.size = A at hD ⊢
  have hA : ∀ q : Nat, s.heap.size ≤ q → A q := fun q h => by rw [← hAe]; exact Or.inr h
  have hS : va_S A s.heap s.heap [] := va_S.rf
  have hl := lv_entry ([.ref h0, .int x1]) (n := 6) (Nat.le_of_ble_eq_true rfl)
  rw [lg_entry_eq]
  generalize (lg_sl ([.ref h0, .int x1]) ++ List.replicate (6 - (lg_sl ([.ref h0, .int x1])).length) Slot.unset).toArray = ls at hl ⊢
  have hl : lv_has ls 6 [(0, .ref h0), (1, .int x1)] := hl
  refine vx_gen hP hS (fun H locs hP hS => ?_)
  unfold fX7_behind at hf
  refine lv_iload_n hx hb dX7_behind_0 rfl (lv_at hl 1 rfl) ?_
  refine lv_iconst (v := 0) hx hb dX7_behind_1 (by decide) ?_
  refine lv_aload_n hx hb dX7_behind_2 rfl (lv_at hl 0 rfl) ?_
  refine va_get (D := (dC, dI)) (ci := 7) (v := .int v_days) (C := RX7) (T := TX7) (N := 26) hx hb hts iw_X7_behind_X7 hown hK hP 0 rfl rfl 14 (by decide) (hts (.fieldLink RX7 38 "HeatBenchModel" "days" "I") (List.mem_of_getElem? (i := 1) rfl)) (fun _ h9 => h9) rfl dX7_behind_3 ?_
  obtain ⟨r_1, hu_1, hf⟩ := it_b1 hf
  have hPc := hP.sub (ws' := []) [] rfl
  have hDc := hD.sub (ws' := []) [] (by decide) rfl
  have hFc := va_free (wc := []) hD hS hA [] rfl
  refine va_calli (va_runS (As := [.int x1, .int 0, .int v_days]) (rest := []) ⟨hx, hb, hml, hown, hts⟩ (tX7_in l dC dI cI cZ cJ cA H.size x1 0 v_days N r_1 hu_1) (va_cwS 3 hts gX7_behind_X7_in rfl rfl rfl (by decide +kernel) ⟨Nat.le_of_ble_eq_true rfl, Nat.le_of_ble_eq_true rfl⟩) ⟨fun a U g mk q => by obtain ⟨q0, q1, qP, qK, qD⟩ := q; exact ⟨q0, q1, qP, va_K.moved (u := U) (U := U.calling g mk a) (Vm.Alike.refl U.vm) qK, qD⟩, fun U hU hW => ⟨rfl, by rw [hU], by rw [hU]; exact hPc, va_K.moved hW.alike hK, hDc.weaken (fun _ _ _ _ => trivial)⟩⟩ rfl rfl hl.1 rfl (lv_room (Nat.le_of_ble_eq_true rfl)) dX7_behind_6 ⟨Nat.zero_le _, Nat.zero_le _⟩) hS (fun q _ h => hFc q h) hFc (fun r9 u t H1 locs ht hvm hw hB hz1 hk1 hS => ?_)
  obtain ⟨hP1, hD1⟩ := hB
  rw [ht] at hP1
  obtain ⟨hP, hD⟩ := va_join (wr := [(h0, .inr (7, [.int v_riders, .int v_rides, .ref q_riderOf, .ref q_waveOf, .ref q_marks, .int v_lineMany, .ref q_line, .ref q_interfered, .int v_isOpen, .int v_group, .int v_wrong, .ref q_stood, .int v_pastMany, .ref q_past, .int v_days, .ref q_low, .ref q_high, .ref q_was, .ref q_best, .ref q_second, .ref q_total, .ref q_givenTo, .ref q_has, .ref q_own, .ref q_sums, .ref q_below])), (q_was, .inl (cI, 9, .inl v_was))]) (w1 := []) hP hD [] [0, 1] rfl rfl (by decide) (by decide) hk1 hFc hP1 hD1
  clear hP1 hD1 hk1 hz1 hPc hDc hFc
  generalize H1 = H at hP hS ⊢
  have hP : va_P (dC, dI) vwCl [(h0, .inr (7, [.int v_riders, .int v_rides, .ref q_riderOf, .ref q_waveOf, .ref q_marks, .int v_lineMany, .ref q_line, .ref q_interfered, .int v_isOpen, .int v_group, .int v_wrong, .ref q_stood, .int v_pastMany, .ref q_past, .int v_days, .ref q_low, .ref q_high, .ref q_was, .ref q_best, .ref q_second, .ref q_total, .ref q_givenTo, .ref q_has, .ref q_own, .ref q_sums, .ref q_below])), (q_was, .inl (cI, 9, .inl v_was))] H := hP
  have hD : va_D A [(h0, .inr (7, [.int v_riders, .int v_rides, .ref q_riderOf, .ref q_waveOf, .ref q_marks, .int v_lineMany, .ref q_line, .ref q_interfered, .int v_isOpen, .int v_group, .int v_wrong, .ref q_stood, .int v_pastMany, .ref q_past, .int v_days, .ref q_low, .ref q_high, .ref q_was, .ref q_best, .ref q_second, .ref q_total, .ref q_givenTo, .ref q_has, .ref q_own, .ref q_sums, .ref q_below])), (q_was, .inl (cI, 9, .inl v_was))] := hD
  subst hw
  refine lv_if_ne (tgt := 14) hx hb dX7_behind_9 (by decide) (fun h_2 => ?_) (fun h_2 => ?_)
  · have hf := it_f h_2 hf
    refine lv_aload_n hx hb dX7_behind_14 rfl (lv_at hl 0 rfl) ?_
    obtain ⟨r_3, hu_3, hf⟩ := it_b1 hf
    have hPc := hP.sub (ws' := [(h0, .inr (7, [.int v_riders, .int v_rides, .ref q_riderOf, .ref q_waveOf, .ref q_marks, .int v_lineMany, .ref q_line, .ref q_interfered, .int v_isOpen, .int v_group, .int v_wrong, .ref q_stood, .int v_pastMany, .ref q_past, .int v_days, .ref q_low, .ref q_high, .ref q_was, .ref q_best, .ref q_second, .ref q_total, .ref q_givenTo, .ref q_has, .ref q_own, .ref q_sums, .ref q_below])), (q_was, .inl (cI, 9, .inl v_was))]) [0, 1] rfl
    have hDc := hD.sub (ws' := [(h0, .inr (7, [.int v_riders, .int v_rides, .ref q_riderOf, .ref q_waveOf, .ref q_marks, .int v_lineMany, .ref q_line, .ref q_interfered, .int v_isOpen, .int v_group, .int v_wrong, .ref q_stood, .int v_pastMany, .ref q_past, .int v_days, .ref q_low, .ref q_high, .ref q_was, .ref q_best, .ref q_second, .ref q_total, .ref q_givenTo, .ref q_has, .ref q_own, .ref q_sums, .ref q_below])), (q_was, .inl (cI, 9, .inl v_was))]) [0, 1] (by decide) rfl
    have hFc := va_free (wc := [(h0, .inr (7, [.int v_riders, .int v_rides, .ref q_riderOf, .ref q_waveOf, .ref q_marks, .int v_lineMany, .ref q_line, .ref q_interfered, .int v_isOpen, .int v_group, .int v_wrong, .ref q_stood, .int v_pastMany, .ref q_past, .int v_days, .ref q_low, .ref q_high, .ref q_was, .ref q_best, .ref q_second, .ref q_total, .ref q_givenTo, .ref q_has, .ref q_own, .ref q_sums, .ref q_below])), (q_was, .inl (cI, 9, .inl v_was))]) hD hS hA [0, 1] rfl
    refine va_calli (va_runV (As := []) (rest := []) ⟨hx, hb, hml, hown, hts⟩ (tX7_known l dC dI cI cZ cJ cA H.size h0 v_riders v_rides q_riderOf q_waveOf q_marks v_lineMany q_line q_interfered v_isOpen v_group v_wrong q_stood v_pastMany q_past v_days q_low q_high q_was q_best q_second q_total q_givenTo q_has q_own q_sums q_below v_was N r_3 hu_3) (cwV 0 hts gX7_behind_X7_known rfl rfl rfl (by decide +kernel) ⟨Nat.le_of_ble_eq_true rfl, Nat.le_of_ble_eq_true rfl⟩) ⟨fun a U g mk q => by obtain ⟨q0, q1, qP, qK, qD⟩ := q; exact ⟨q0, q1, qP, va_K.moved (u := U) (U := U.calling g mk a) (Vm.Alike.refl U.vm) qK, qD⟩, va_recv hK hPc (ci := 7) (q0 := 0) rfl rfl, fun U hU hW => ⟨rfl, by rw [hU], by rw [hU]; exact hPc, va_K.moved hW.alike hK, hDc.weaken (fun _ _ _ _ => trivial)⟩⟩ rfl rfl hl.1 rfl (lv_room (Nat.le_of_ble_eq_true rfl)) dX7_behind_15 ⟨Nat.zero_le _, Nat.zero_le _⟩) hS (fun q _ h => hFc q h) hFc (fun r9 u t H1 locs ht hvm hw hB hz1 hk1 hS => ?_)
    obtain ⟨hP1, hD1⟩ := hB
    rw [ht] at hP1
    obtain ⟨hP, hD⟩ := va_join (wr := []) (w1 := [(h0, .inr (7, [.int v_riders, .int v_rides, .ref q_riderOf, .ref q_waveOf, .ref q_marks, .int v_lineMany, .ref q_line, .ref q_interfered, .int v_isOpen, .int v_group, .int v_wrong, .ref q_stood, .int v_pastMany, .ref q_past, .int v_days, .ref q_low, .ref q_high, .ref q_was, .ref q_best, .ref q_second, .ref q_total, .ref q_givenTo, .ref q_has, .ref q_own, .ref q_sums, .ref q_below])), (q_was, .inl (cI, 9, .inl v_was))]) hP hD [0, 1] [] rfl rfl (by decide) (by decide) hk1 hFc hP1 hD1
    clear hP1 hD1 hk1 hz1 hPc hDc hFc
    generalize H1 = H at hP hS ⊢
    have hP : va_P (dC, dI) vwCl [(h0, .inr (7, [.int v_riders, .int v_rides, .ref q_riderOf, .ref q_waveOf, .ref q_marks, .int v_lineMany, .ref q_line, .ref q_interfered, .int v_isOpen, .int v_group, .int v_wrong, .ref q_stood, .int v_pastMany, .ref q_past, .int v_days, .ref q_low, .ref q_high, .ref q_was, .ref q_best, .ref q_second, .ref q_total, .ref q_givenTo, .ref q_has, .ref q_own, .ref q_sums, .ref q_below])), (q_was, .inl (cI, 9, .inl v_was))] H := hP
    have hD : va_D A [(h0, .inr (7, [.int v_riders, .int v_rides, .ref q_riderOf, .ref q_waveOf, .ref q_marks, .int v_lineMany, .ref q_line, .ref q_interfered, .int v_isOpen, .int v_group, .int v_wrong, .ref q_stood, .int v_pastMany, .ref q_past, .int v_days, .ref q_low, .ref q_high, .ref q_was, .ref q_best, .ref q_second, .ref q_total, .ref q_givenTo, .ref q_has, .ref q_own, .ref q_sums, .ref q_below])), (q_was, .inl (cI, 9, .inl v_was))] := hD
    subst hw
    refine lv_aload_n hx hb dX7_behind_18 rfl (lv_at hl 0 rfl) ?_
    refine va_get (D := (dC, dI)) (ci := 7) (v := .int v_days) (C := RX7) (T := TX7) (N := 26) hx hb hts iw_X7_behind_X7 hown hK hP 0 rfl rfl 14 (by decide) (hts (.fieldLink RX7 38 "HeatBenchModel" "days" "I") (List.mem_of_getElem? (i := 1) rfl)) (fun _ h9 => h9) rfl dX7_behind_19 ?_
    refine lv_icmp_ge (tgt := 28) hx hb dX7_behind_22 (by decide) (fun h_4 => ?_) (fun h_4 => ?_)
    · have hf := it_t h_4 hf
      refine lv_iconst (v := 0) hx hb dX7_behind_28 (by decide) ?_
      refine lv_istore_n (lv' := [(2, .int 0), (0, .ref h0), (1, .int x1)]) hx hb dX7_behind_29 rfl hl (by decide) rfl (fun ls hl => ?_)
      refine lv_iload_n hx hb dX7_behind_30 rfl (lv_at hl 2 rfl) ?_
      refine lv_istore_n (lv' := [(3, .int x1), (2, .int 0), (0, .ref h0), (1, .int x1)]) hx hb dX7_behind_31 rfl hl (by decide) rfl (fun ls hl => ?_)
      refine lv_bipush (v := 9) hx hb dX7_behind_32 (by decide) ?_
      refine lv_istore (lv' := [(4, .int 9), (3, .int x1), (2, .int 0), (0, .ref h0), (1, .int x1)]) hx hb dX7_behind_34 hl (by decide) rfl (fun ls hl => ?_)
      exact wX7_behind_L36 hx hb hr hml hown hts hlocks hA hK N 0 x1 9 H locs ls hP hD hS (lv_sub hl [3, 2, 1, 0] rfl) hf
    · have hf := it_f h_4 hf
      refine lv_bipush (v := (-4)) hx hb dX7_behind_25 (by decide) ?_
      cases hf
      exact W.iret hx hb hr (fun t ht hW => ⟨⟨_, (), rfl, rfl, by rw [ht]; exact hP, hD⟩, hS.F ht⟩) hS.2.2 dX7_behind_27
  · have hf := it_t h_2 hf
    refine lv_iconst (v := (-1)) hx hb dX7_behind_12 (by decide) ?_
    cases hf
    exact W.iret hx hb hr (fun t ht hW => ⟨⟨_, (), rfl, rfl, by rw [ht]; exact hP, hD⟩, hS.F ht⟩) hS.2.2 dX7_behind_13
/-! X7_many -/
theorem iw_X7_many_X7 : ∀ w ∈ wsX70, w ∈ wsX7_many := by decide +kernel
set_option maxHeartbeats 4000000 in
set_option maxRecDepth 100000 in
theorem tX7_many (l : Launch) (dC : Nat → ClassId) (dI : Nat → Nat → Nat) (cI cZ cJ cA : ClassId) (sz : Nat) (h0 : Nat) (v_riders : Int32) (v_rides : Int32) (q_riderOf : Nat) (q_waveOf : Nat) (q_marks : Nat) (v_lineMany : Int32) (q_line : Nat) (q_interfered : Nat) (v_isOpen : Int32) (v_group : Int32) (v_wrong : Int32) (q_stood : Nat) (v_pastMany : Int32) (q_past : Nat) (v_days : Int32) (q_low : Nat) (q_high : Nat) (q_was : Nat) (q_best : Nat) (q_second : Nat) (q_total : Nat) (q_givenTo : Nat) (q_has : Nat) (q_own : Nat) (q_sums : Nat) (q_below : Nat) (v_interfered : Nat → Int32) (v_was : Nat → Int32) (x1 : Int32) (N : Nat) (r0 : Int32) (hf : fX7_many N x1 v_riders v_rides v_lineMany v_pastMany v_days v_interfered v_was = some r0) : Met l yX7_many wsX7_many ({ frames := 1, cells := 0, slots := 0, locals := 22 }) (va_Pc [.ref h0, .int x1] (fun U => U.heap.size = sz ∧ va_P (dC, dI) vwCl [(h0, .inr (7, [.int v_riders, .int v_rides, .ref q_riderOf, .ref q_waveOf, .ref q_marks, .int v_lineMany, .ref q_line, .ref q_interfered, .int v_isOpen, .int v_group, .int v_wrong, .ref q_stood, .int v_pastMany, .ref q_past, .int v_days, .ref q_low, .ref q_high, .ref q_was, .ref q_best, .ref q_second, .ref q_total, .ref q_givenTo, .ref q_has, .ref q_own, .ref q_sums, .ref q_below])), (q_interfered, .inl (cI, 4, .inl v_interfered)), (q_was, .inl (cI, 9, .inl v_was))] U.heap ∧ va_K (dC, dI) vwCl [(cI, .int), (cZ, .boolean), (cJ, .long), (cA, .array .long)] U ∧ va_D (fun _ => True) [(h0, .inr (7, [.int v_riders, .int v_rides, .ref q_riderOf, .ref q_waveOf, .ref q_marks, .int v_lineMany, .ref q_line, .ref q_interfered, .int v_isOpen, .int v_group, .int v_wrong, .ref q_stood, .int v_pastMany, .ref q_past, .int v_days, .ref q_low, .ref q_high, .ref q_was, .ref q_best, .ref q_second, .ref q_total, .ref q_givenTo, .ref q_has, .ref q_own, .ref q_sums, .ref q_below])), (q_interfered, .inl (cI, 4, .inl v_interfered)), (q_was, .inl (cI, 9, .inl v_was))])) (va_Qi (fun (r9 : Int32) (_ : Unit) => r0 = r9) (fun _ t => va_P (dC, dI) vwCl [(h0, .inr (7, [.int v_riders, .int v_rides, .ref q_riderOf, .ref q_waveOf, .ref q_marks, .int v_lineMany, .ref q_line, .ref q_interfered, .int v_isOpen, .int v_group, .int v_wrong, .ref q_stood, .int v_pastMany, .ref q_past, .int v_days, .ref q_low, .ref q_high, .ref q_was, .ref q_best, .ref q_second, .ref q_total, .ref q_givenTo, .ref q_has, .ref q_own, .ref q_sums, .ref q_below])), (q_interfered, .inl (cI, 4, .inl v_interfered)), (q_was, .inl (cI, 9, .inl v_was))] t.heap ∧ va_D (va_A [(h0, .inr (7, [.int v_riders, .int v_rides, .ref q_riderOf, .ref q_waveOf, .ref q_marks, .int v_lineMany, .ref q_line, .ref q_interfered, .int v_isOpen, .int v_group, .int v_wrong, .ref q_stood, .int v_pastMany, .ref q_past, .int v_days, .ref q_low, .ref q_high, .ref q_was, .ref q_best, .ref q_second, .ref q_total, .ref q_givenTo, .ref q_has, .ref q_own, .ref q_sums, .ref q_below])), (q_interfered, .inl (cI, 4, .inl v_interfered)), (q_was, .inl (cI, 9, .inl v_was))] sz) [(h0, .inr (7, [.int v_riders, .int v_rides, .ref q_riderOf, .ref q_waveOf, .ref q_marks, .int v_lineMany, .ref q_line, .ref q_interfered, .int v_isOpen, .int v_group, .int v_wrong, .ref q_stood, .int v_pastMany, .ref q_past, .int v_days, .ref q_low, .ref q_high, .ref q_was, .ref q_best, .ref q_second, .ref q_total, .ref q_givenTo, .ref q_has, .ref q_own, .ref q_sums, .ref q_below])), (q_interfered, .inl (cI, 4, .inl v_interfered)), (q_was, .inl (cI, 9, .inl v_was))]) (va_A [(h0, .inr (7, [.int v_riders, .int v_rides, .ref q_riderOf, .ref q_waveOf, .ref q_marks, .int v_lineMany, .ref q_line, .ref q_interfered, .int v_isOpen, .int v_group, .int v_wrong, .ref q_stood, .int v_pastMany, .ref q_past, .int v_days, .ref q_low, .ref q_high, .ref q_was, .ref q_best, .ref q_second, .ref q_total, .ref q_givenTo, .ref q_has, .ref q_own, .ref q_sums, .ref q_below])), (q_interfered, .inl (cI, 4, .inl v_interfered)), (q_was, .inl (cI, 9, .inl v_was))] sz)) 0 0 (va_A [(h0, .inr (7, [.int v_riders, .int v_rides, .ref q_riderOf, .ref q_waveOf, .ref q_marks, .int v_lineMany, .ref q_line, .ref q_interfered, .int v_isOpen, .int v_group, .int v_wrong, .ref q_stood, .int v_pastMany, .ref q_past, .int v_days, .ref q_low, .ref q_high, .ref q_was, .ref q_best, .ref q_second, .ref q_total, .ref q_givenTo, .ref q_has, .ref q_own, .ref q_sums, .ref q_below])), (q_interfered, .inl (cI, 4, .inl v_interfered)), (q_was, .inl (cI, 9, .inl v_was))] sz) := by
  refine Met.ofW (cc := cX7_many) (maxL := 2) (ret := (some .int)) (by decide) rfl ?_
  intro p e s m args below meth c s₁ B hml hv
  obtain ⟨rfl, hsz, hP, hK, hD0⟩ := hv
  have hx := B.exec
  have hb := B.bytes
  have hr := B.returns
  have hts := atoms_spec (ws := wsX7_many) B.pre
  have hown : s.vm.findClass RX7 = some m.cls := findClass_of_methodNamed B.named
  have hlocks := B.notSynchronized
  subst hsz
  have hD := hD0.self (sz := s.heap.size)
  generalize hAe : va_A [(h0, .inr (7, [.int v_riders, .int v_rides, .ref q_riderOf, .ref q_waveOf, .ref q_marks, .int v_lineMany, .ref q_line, .ref q_interfered, .int v_isOpen, .int v_group, .int v_wrong, .ref q_stood, .int v_pastMany, .ref q_past, .int v_days, .ref q_low, .ref q_high, .ref q_was, .ref q_best, .ref q_second, .ref q_total, .ref q_givenTo, .ref q_has, .ref q_own, .ref q_sums, .ref q_below])), (q_interfered, .inl (cI, 4, .inl v_interfered)), (q_was, .inl (cI, 9, .inl v_was))] s.heap.size = A at hD ⊢
  have hA : ∀ q : Nat, s.heap.size ≤ q → A q := fun q h => by rw [← hAe]; exact Or.inr h
  have hS : va_S A s.heap s.heap [] := va_S.rf
  have hl := lv_entry ([.ref h0, .int x1]) (n := 2) (Nat.le_of_ble_eq_true rfl)
  rw [lg_entry_eq]
  generalize (lg_sl ([.ref h0, .int x1]) ++ List.replicate (2 - (lg_sl ([.ref h0, .int x1])).length) Slot.unset).toArray = ls at hl ⊢
  have hl : lv_has ls 2 [(0, .ref h0), (1, .int x1)] := hl
  refine vx_gen hP hS (fun H locs hP hS => ?_)
  unfold fX7_many at hf
  refine lv_iload_n hx hb dX7_many_0 rfl (lv_at hl 1 rfl) ?_
  by_cases h_1 : x1 = 0
  · have hf := it_t h_1 hf
    refine lv_tableIn (off := 43) (tgt := 44) hx hb dX7_many_1 (by rw [h_1]; decide) (by rw [h_1]; decide) (by rw [h_1]; rfl) (by decide) ?_
    refine lv_aload_n hx hb dX7_many_44 rfl (lv_at hl 0 rfl) ?_
    refine va_get (D := (dC, dI)) (ci := 7) (v := .int v_riders) (C := RX7) (T := TX7) (N := 26) hx hb hts iw_X7_many_X7 hown hK hP 0 rfl rfl 0 (by decide) (hts (.fieldLink RX7 7 "HeatBenchModel" "riders" "I") (List.mem_of_getElem? (i := 1) rfl)) (fun _ h9 => h9) rfl dX7_many_45 ?_
    cases hf
    exact W.iret hx hb hr (fun t ht hW => ⟨⟨_, (), rfl, rfl, by rw [ht]; exact hP, hD⟩, hS.F ht⟩) hS.2.2 dX7_many_48
  have hf := it_f h_1 hf
  by_cases h_2 : x1 = 1
  · have hf := it_t h_2 hf
    refine lv_tableIn (off := 48) (tgt := 49) hx hb dX7_many_1 (by rw [h_2]; decide) (by rw [h_2]; decide) (by rw [h_2]; rfl) (by decide) ?_
    refine lv_aload_n hx hb dX7_many_49 rfl (lv_at hl 0 rfl) ?_
    refine va_get (D := (dC, dI)) (ci := 7) (v := .int v_rides) (C := RX7) (T := TX7) (N := 26) hx hb hts iw_X7_many_X7 hown hK hP 0 rfl rfl 1 (by decide) (hts (.fieldLink RX7 86 "HeatBenchModel" "rides" "I") (List.mem_of_getElem? (i := 2) rfl)) (fun _ h9 => h9) rfl dX7_many_50 ?_
    cases hf
    exact W.iret hx hb hr (fun t ht hW => ⟨⟨_, (), rfl, rfl, by rw [ht]; exact hP, hD⟩, hS.F ht⟩) hS.2.2 dX7_many_53
  have hf := it_f h_2 hf
  by_cases h_3 : x1 = 2
  · have hf := it_t h_3 hf
    refine lv_tableIn (off := 53) (tgt := 54) hx hb dX7_many_1 (by rw [h_3]; decide) (by rw [h_3]; decide) (by rw [h_3]; rfl) (by decide) ?_
    refine lv_aload_n hx hb dX7_many_54 rfl (lv_at hl 0 rfl) ?_
    refine va_get (D := (dC, dI)) (ci := 7) (v := .int v_lineMany) (C := RX7) (T := TX7) (N := 26) hx hb hts iw_X7_many_X7 hown hK hP 0 rfl rfl 5 (by decide) (hts (.fieldLink RX7 23 "HeatBenchModel" "lineMany" "I") (List.mem_of_getElem? (i := 3) rfl)) (fun _ h9 => h9) rfl dX7_many_55 ?_
    cases hf
    exact W.iret hx hb hr (fun t ht hW => ⟨⟨_, (), rfl, rfl, by rw [ht]; exact hP, hD⟩, hS.F ht⟩) hS.2.2 dX7_many_58
  have hf := it_f h_3 hf
  by_cases h_4 : x1 = 3
  · have hf := it_t h_4 hf
    refine lv_tableIn (off := 58) (tgt := 59) hx hb dX7_many_1 (by rw [h_4]; decide) (by rw [h_4]; decide) (by rw [h_4]; rfl) (by decide) ?_
    refine lv_aload_n hx hb dX7_many_59 rfl (lv_at hl 0 rfl) ?_
    refine va_get (D := (dC, dI)) (ci := 7) (v := .int v_pastMany) (C := RX7) (T := TX7) (N := 26) hx hb hts iw_X7_many_X7 hown hK hP 0 rfl rfl 12 (by decide) (hts (.fieldLink RX7 145 "HeatBenchModel" "pastMany" "I") (List.mem_of_getElem? (i := 4) rfl)) (fun _ h9 => h9) rfl dX7_many_60 ?_
    cases hf
    exact W.iret hx hb hr (fun t ht hW => ⟨⟨_, (), rfl, rfl, by rw [ht]; exact hP, hD⟩, hS.F ht⟩) hS.2.2 dX7_many_63
  have hf := it_f h_4 hf
  by_cases h_5 : x1 = 4
  · have hf := it_t h_5 hf
    refine lv_tableIn (off := 63) (tgt := 64) hx hb dX7_many_1 (by rw [h_5]; decide) (by rw [h_5]; decide) (by rw [h_5]; rfl) (by decide) ?_
    refine lv_aload_n hx hb dX7_many_64 rfl (lv_at hl 0 rfl) ?_
    refine va_get (D := (dC, dI)) (ci := 7) (v := .int v_days) (C := RX7) (T := TX7) (N := 26) hx hb hts iw_X7_many_X7 hown hK hP 0 rfl rfl 14 (by decide) (hts (.fieldLink RX7 38 "HeatBenchModel" "days" "I") (List.mem_of_getElem? (i := 5) rfl)) (fun _ h9 => h9) rfl dX7_many_65 ?_
    cases hf
    exact W.iret hx hb hr (fun t ht hW => ⟨⟨_, (), rfl, rfl, by rw [ht]; exact hP, hD⟩, hS.F ht⟩) hS.2.2 dX7_many_68
  have hf := it_f h_5 hf
  by_cases h_6 : x1 = 5
  · have hf := it_t h_6 hf
    refine lv_tableIn (off := 68) (tgt := 69) hx hb dX7_many_1 (by rw [h_6]; decide) (by rw [h_6]; decide) (by rw [h_6]; rfl) (by decide) ?_
    refine lv_aload_n hx hb dX7_many_69 rfl (lv_at hl 0 rfl) ?_
    obtain ⟨r_7, hu_7, hf⟩ := it_b1 hf
    have hPc := hP.sub (ws' := [(h0, .inr (7, [.int v_riders, .int v_rides, .ref q_riderOf, .ref q_waveOf, .ref q_marks, .int v_lineMany, .ref q_line, .ref q_interfered, .int v_isOpen, .int v_group, .int v_wrong, .ref q_stood, .int v_pastMany, .ref q_past, .int v_days, .ref q_low, .ref q_high, .ref q_was, .ref q_best, .ref q_second, .ref q_total, .ref q_givenTo, .ref q_has, .ref q_own, .ref q_sums, .ref q_below])), (q_was, .inl (cI, 9, .inl v_was))]) [0, 2] rfl
    have hDc := hD.sub (ws' := [(h0, .inr (7, [.int v_riders, .int v_rides, .ref q_riderOf, .ref q_waveOf, .ref q_marks, .int v_lineMany, .ref q_line, .ref q_interfered, .int v_isOpen, .int v_group, .int v_wrong, .ref q_stood, .int v_pastMany, .ref q_past, .int v_days, .ref q_low, .ref q_high, .ref q_was, .ref q_best, .ref q_second, .ref q_total, .ref q_givenTo, .ref q_has, .ref q_own, .ref q_sums, .ref q_below])), (q_was, .inl (cI, 9, .inl v_was))]) [0, 2] (by decide) rfl
    have hFc := va_free (wc := [(h0, .inr (7, [.int v_riders, .int v_rides, .ref q_riderOf, .ref q_waveOf, .ref q_marks, .int v_lineMany, .ref q_line, .ref q_interfered, .int v_isOpen, .int v_group, .int v_wrong, .ref q_stood, .int v_pastMany, .ref q_past, .int v_days, .ref q_low, .ref q_high, .ref q_was, .ref q_best, .ref q_second, .ref q_total, .ref q_givenTo, .ref q_has, .ref q_own, .ref q_sums, .ref q_below])), (q_was, .inl (cI, 9, .inl v_was))]) hD hS hA [0, 2] rfl
    refine va_calli (va_runV (As := []) (rest := []) ⟨hx, hb, hml, hown, hts⟩ (tX7_known l dC dI cI cZ cJ cA H.size h0 v_riders v_rides q_riderOf q_waveOf q_marks v_lineMany q_line q_interfered v_isOpen v_group v_wrong q_stood v_pastMany q_past v_days q_low q_high q_was q_best q_second q_total q_givenTo q_has q_own q_sums q_below v_was N r_7 hu_7) (cwV 0 hts gX7_many_X7_known rfl rfl rfl (by decide +kernel) ⟨Nat.le_of_ble_eq_true rfl, Nat.le_of_ble_eq_true rfl⟩) ⟨fun a U g mk q => by obtain ⟨q0, q1, qP, qK, qD⟩ := q; exact ⟨q0, q1, qP, va_K.moved (u := U) (U := U.calling g mk a) (Vm.Alike.refl U.vm) qK, qD⟩, va_recv hK hPc (ci := 7) (q0 := 0) rfl rfl, fun U hU hW => ⟨rfl, by rw [hU], by rw [hU]; exact hPc, va_K.moved hW.alike hK, hDc.weaken (fun _ _ _ _ => trivial)⟩⟩ rfl rfl hl.1 rfl (lv_room (Nat.le_of_ble_eq_true rfl)) dX7_many_70 ⟨Nat.zero_le _, Nat.zero_le _⟩) hS (fun q _ h => hFc q h) hFc (fun r9 u t H1 locs ht hvm hw hB hz1 hk1 hS => ?_)
    obtain ⟨hP1, hD1⟩ := hB
    rw [ht] at hP1
    obtain ⟨hP, hD⟩ := va_join (wr := [(q_interfered, .inl (cI, 4, .inl v_interfered))]) (w1 := [(h0, .inr (7, [.int v_riders, .int v_rides, .ref q_riderOf, .ref q_waveOf, .ref q_marks, .int v_lineMany, .ref q_line, .ref q_interfered, .int v_isOpen, .int v_group, .int v_wrong, .ref q_stood, .int v_pastMany, .ref q_past, .int v_days, .ref q_low, .ref q_high, .ref q_was, .ref q_best, .ref q_second, .ref q_total, .ref q_givenTo, .ref q_has, .ref q_own, .ref q_sums, .ref q_below])), (q_was, .inl (cI, 9, .inl v_was))]) hP hD [0, 2] [1] rfl rfl (by decide) (by decide) hk1 hFc hP1 hD1
    clear hP1 hD1 hk1 hz1 hPc hDc hFc
    generalize H1 = H at hP hS ⊢
    have hP : va_P (dC, dI) vwCl [(q_interfered, .inl (cI, 4, .inl v_interfered)), (h0, .inr (7, [.int v_riders, .int v_rides, .ref q_riderOf, .ref q_waveOf, .ref q_marks, .int v_lineMany, .ref q_line, .ref q_interfered, .int v_isOpen, .int v_group, .int v_wrong, .ref q_stood, .int v_pastMany, .ref q_past, .int v_days, .ref q_low, .ref q_high, .ref q_was, .ref q_best, .ref q_second, .ref q_total, .ref q_givenTo, .ref q_has, .ref q_own, .ref q_sums, .ref q_below])), (q_was, .inl (cI, 9, .inl v_was))] H := hP
    have hD : va_D A [(q_interfered, .inl (cI, 4, .inl v_interfered)), (h0, .inr (7, [.int v_riders, .int v_rides, .ref q_riderOf, .ref q_waveOf, .ref q_marks, .int v_lineMany, .ref q_line, .ref q_interfered, .int v_isOpen, .int v_group, .int v_wrong, .ref q_stood, .int v_pastMany, .ref q_past, .int v_days, .ref q_low, .ref q_high, .ref q_was, .ref q_best, .ref q_second, .ref q_total, .ref q_givenTo, .ref q_has, .ref q_own, .ref q_sums, .ref q_below])), (q_was, .inl (cI, 9, .inl v_was))] := hD
    subst hw
    have hP : va_P (dC, dI) vwCl [(h0, .inr (7, [.int v_riders, .int v_rides, .ref q_riderOf, .ref q_waveOf, .ref q_marks, .int v_lineMany, .ref q_line, .ref q_interfered, .int v_isOpen, .int v_group, .int v_wrong, .ref q_stood, .int v_pastMany, .ref q_past, .int v_days, .ref q_low, .ref q_high, .ref q_was, .ref q_best, .ref q_second, .ref q_total, .ref q_givenTo, .ref q_has, .ref q_own, .ref q_sums, .ref q_below])), (q_interfered, .inl (cI, 4, .inl v_interfered)), (q_was, .inl (cI, 9, .inl v_was))] H := hP.sub [1, 0, 2] rfl
    have hD : va_D A [(h0, .inr (7, [.int v_riders, .int v_rides, .ref q_riderOf, .ref q_waveOf, .ref q_marks, .int v_lineMany, .ref q_line, .ref q_interfered, .int v_isOpen, .int v_group, .int v_wrong, .ref q_stood, .int v_pastMany, .ref q_past, .int v_days, .ref q_low, .ref q_high, .ref q_was, .ref q_best, .ref q_second, .ref q_total, .ref q_givenTo, .ref q_has, .ref q_own, .ref q_sums, .ref q_below])), (q_interfered, .inl (cI, 4, .inl v_interfered)), (q_was, .inl (cI, 9, .inl v_was))] := hD.sub [1, 0, 2] (by decide) rfl
    cases hf
    exact W.iret hx hb hr (fun t ht hW => ⟨⟨_, (), rfl, rfl, by rw [ht]; exact hP, hD⟩, hS.F ht⟩) hS.2.2 dX7_many_73
  have hf := it_f h_6 hf
  by_cases h_8 : x1 = 6
  · have hf := it_t h_8 hf
    refine lv_tableIn (off := 73) (tgt := 74) hx hb dX7_many_1 (by rw [h_8]; decide) (by rw [h_8]; decide) (by rw [h_8]; rfl) (by decide) ?_
    refine lv_aload_n hx hb dX7_many_74 rfl (lv_at hl 0 rfl) ?_
    refine va_get (D := (dC, dI)) (ci := 7) (v := .ref q_interfered) (C := RX7) (T := TX7) (N := 26) hx hb hts iw_X7_many_X7 hown hK hP 0 rfl rfl 7 (by decide) (hts (.fieldLink RX7 29 "HeatBenchModel" "interfered" "[I") (List.mem_of_getElem? (i := 6) rfl)) (fun _ h9 => h9) rfl dX7_many_75 ?_
    refine lv_iconst (v := 0) hx hb dX7_many_78 (by decide) ?_
    refine va_iald hx hb hK hP 1 0 rfl rfl (show ¬ ((0 : Int32) < 0 ∨ 4 ≤ (0 : Int32).toNatClampNeg) by decide) dX7_many_79 ?_
    refine lv_aload_n hx hb dX7_many_80 rfl (lv_at hl 0 rfl) ?_
    refine va_get (D := (dC, dI)) (ci := 7) (v := .ref q_interfered) (C := RX7) (T := TX7) (N := 26) hx hb hts iw_X7_many_X7 hown hK hP 0 rfl rfl 7 (by decide) (hts (.fieldLink RX7 29 "HeatBenchModel" "interfered" "[I") (List.mem_of_getElem? (i := 6) rfl)) (fun _ h9 => h9) rfl dX7_many_81 ?_
    refine lv_iconst (v := 1) hx hb dX7_many_84 (by decide) ?_
    refine va_iald hx hb hK hP 1 0 rfl rfl (show ¬ ((1 : Int32) < 0 ∨ 4 ≤ (1 : Int32).toNatClampNeg) by decide) dX7_many_85 ?_
    refine lv_iadd hx hb dX7_many_86 ?_
    refine lv_aload_n hx hb dX7_many_87 rfl (lv_at hl 0 rfl) ?_
    refine va_get (D := (dC, dI)) (ci := 7) (v := .ref q_interfered) (C := RX7) (T := TX7) (N := 26) hx hb hts iw_X7_many_X7 hown hK hP 0 rfl rfl 7 (by decide) (hts (.fieldLink RX7 29 "HeatBenchModel" "interfered" "[I") (List.mem_of_getElem? (i := 6) rfl)) (fun _ h9 => h9) rfl dX7_many_88 ?_
    refine lv_iconst (v := 2) hx hb dX7_many_91 (by decide) ?_
    refine va_iald hx hb hK hP 1 0 rfl rfl (show ¬ ((2 : Int32) < 0 ∨ 4 ≤ (2 : Int32).toNatClampNeg) by decide) dX7_many_92 ?_
    refine lv_iadd hx hb dX7_many_93 ?_
    refine lv_aload_n hx hb dX7_many_94 rfl (lv_at hl 0 rfl) ?_
    refine va_get (D := (dC, dI)) (ci := 7) (v := .ref q_interfered) (C := RX7) (T := TX7) (N := 26) hx hb hts iw_X7_many_X7 hown hK hP 0 rfl rfl 7 (by decide) (hts (.fieldLink RX7 29 "HeatBenchModel" "interfered" "[I") (List.mem_of_getElem? (i := 6) rfl)) (fun _ h9 => h9) rfl dX7_many_95 ?_
    refine lv_iconst (v := 3) hx hb dX7_many_98 (by decide) ?_
    refine va_iald hx hb hK hP 1 0 rfl rfl (show ¬ ((3 : Int32) < 0 ∨ 4 ≤ (3 : Int32).toNatClampNeg) by decide) dX7_many_99 ?_
    refine lv_iadd hx hb dX7_many_100 ?_
    cases hf
    exact W.iret hx hb hr (fun t ht hW => ⟨⟨_, (), rfl, rfl, by rw [ht]; exact hP, hD⟩, hS.F ht⟩) hS.2.2 dX7_many_101
  have hf := it_f h_8 hf
  refine lv_tableOut (tgt := 102) hx hb dX7_many_1 (sw_out 7 x1 (fun i hi => by rcases sw_lt7 hi with rfl | rfl | rfl | rfl | rfl | rfl | rfl <;> assumption)) (by decide) ?_
  refine lv_iconst (v := (-1)) hx hb dX7_many_102 (by decide) ?_
  cases hf
  exact W.iret hx hb hr (fun t ht hW => ⟨⟨_, (), rfl, rfl, by rw [ht]; exact hP, hD⟩, hS.F ht⟩) hS.2.2 dX7_many_103
