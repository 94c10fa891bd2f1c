/-! X7_back -/
theorem iw_X7_back_X7 : ∀ w ∈ wsX70, w ∈ wsX7_back := by decide +kernel
set_option maxHeartbeats 4000000 in
set_option maxRecDepth 100000 in
theorem tX7_back (l : Launch) (dC : Nat → ClassId) (dI : Nat → Nat → Nat) (cI cZ cJ cA : ClassId) (sz : Nat) (h0 : Nat) (v_riders : Int32) (v_rides : Int32) (q_riderOf : Nat) (q_waveOf : Nat) (q_marks : Nat) (v_lineMany : Int32) (q_line : Nat) (q_interfered : Nat) (v_isOpen : Int32) (v_group : Int32) (v_wrong : Int32) (q_stood : Nat) (v_pastMany : Int32) (q_past : Nat) (v_days : Int32) (q_low : Nat) (q_high : Nat) (q_was : Nat) (q_best : Nat) (q_second : Nat) (q_total : Nat) (q_givenTo : Nat) (q_has : Nat) (q_own : Nat) (q_sums : Nat) (q_below : Nat) (v_line : Nat → Int32) (x1 : Int32) (N : Nat) (r0 : Int32) (w_lineMany : Int32) (w_line : (Nat → Int32)) (hf : fX7_back N x1 v_riders v_lineMany v_line = some (r0, w_lineMany, w_line)) : Met l yX7_back wsX7_back ({ frames := 2, cells := 0, slots := 0, locals := 43 }) (va_Pc [.ref h0, .int x1] (fun U => U.heap.size = sz ∧ va_P (dC, dI) vwCl [(h0, .inr (7, [.int v_riders, .int v_rides, .ref q_riderOf, .ref q_waveOf, .ref q_marks, .int v_lineMany, .ref q_line, .ref q_interfered, .int v_isOpen, .int v_group, .int v_wrong, .ref q_stood, .int v_pastMany, .ref q_past, .int v_days, .ref q_low, .ref q_high, .ref q_was, .ref q_best, .ref q_second, .ref q_total, .ref q_givenTo, .ref q_has, .ref q_own, .ref q_sums, .ref q_below])), (q_line, .inl (cI, 4, .inl v_line))] U.heap ∧ va_K (dC, dI) vwCl [(cI, .int), (cZ, .boolean), (cJ, .long), (cA, .array .long)] U ∧ va_D (fun _ => True) [(h0, .inr (7, [.int v_riders, .int v_rides, .ref q_riderOf, .ref q_waveOf, .ref q_marks, .int v_lineMany, .ref q_line, .ref q_interfered, .int v_isOpen, .int v_group, .int v_wrong, .ref q_stood, .int v_pastMany, .ref q_past, .int v_days, .ref q_low, .ref q_high, .ref q_was, .ref q_best, .ref q_second, .ref q_total, .ref q_givenTo, .ref q_has, .ref q_own, .ref q_sums, .ref q_below])), (q_line, .inl (cI, 4, .inl v_line))])) (va_Qi (fun (r9 : Int32) (_ : Unit) => r0 = r9) (fun _ t => va_P (dC, dI) vwCl [(h0, .inr (7, [.int v_riders, .int v_rides, .ref q_riderOf, .ref q_waveOf, .ref q_marks, .int w_lineMany, .ref q_line, .ref q_interfered, .int v_isOpen, .int v_group, .int v_wrong, .ref q_stood, .int v_pastMany, .ref q_past, .int v_days, .ref q_low, .ref q_high, .ref q_was, .ref q_best, .ref q_second, .ref q_total, .ref q_givenTo, .ref q_has, .ref q_own, .ref q_sums, .ref q_below])), (q_line, .inl (cI, 4, .inl w_line))] t.heap ∧ va_D (va_A [(h0, .inr (7, [.int v_riders, .int v_rides, .ref q_riderOf, .ref q_waveOf, .ref q_marks, .int v_lineMany, .ref q_line, .ref q_interfered, .int v_isOpen, .int v_group, .int v_wrong, .ref q_stood, .int v_pastMany, .ref q_past, .int v_days, .ref q_low, .ref q_high, .ref q_was, .ref q_best, .ref q_second, .ref q_total, .ref q_givenTo, .ref q_has, .ref q_own, .ref q_sums, .ref q_below])), (q_line, .inl (cI, 4, .inl v_line))] sz) [(h0, .inr (7, [.int v_riders, .int v_rides, .ref q_riderOf, .ref q_waveOf, .ref q_marks, .int w_lineMany, .ref q_line, .ref q_interfered, .int v_isOpen, .int v_group, .int v_wrong, .ref q_stood, .int v_pastMany, .ref q_past, .int v_days, .ref q_low, .ref q_high, .ref q_was, .ref q_best, .ref q_second, .ref q_total, .ref q_givenTo, .ref q_has, .ref q_own, .ref q_sums, .ref q_below])), (q_line, .inl (cI, 4, .inl w_line))]) (va_A [(h0, .inr (7, [.int v_riders, .int v_rides, .ref q_riderOf, .ref q_waveOf, .ref q_marks, .int v_lineMany, .ref q_line, .ref q_interfered, .int v_isOpen, .int v_group, .int v_wrong, .ref q_stood, .int v_pastMany, .ref q_past, .int v_days, .ref q_low, .ref q_high, .ref q_was, .ref q_best, .ref q_second, .ref q_total, .ref q_givenTo, .ref q_has, .ref q_own, .ref q_sums, .ref q_below])), (q_line, .inl (cI, 4, .inl v_line))] sz)) 0 0 (va_A [(h0, .inr (7, [.int v_riders, .int v_rides, .ref q_riderOf, .ref q_waveOf, .ref q_marks, .int v_lineMany, .ref q_line, .ref q_interfered, .int v_isOpen, .int v_group, .int v_wrong, .ref q_stood, .int v_pastMany, .ref q_past, .int v_days, .ref q_low, .ref q_high, .ref q_was, .ref q_best, .ref q_second, .ref q_total, .ref q_givenTo, .ref q_has, .ref q_own, .ref q_sums, .ref q_below])), (q_line, .inl (cI, 4, .inl v_line))] sz) := by
  refine Met.ofW (cc := cX7_back) (maxL := 2) (ret := (some .int)) (by decide) rfl ?_
  intro p e s m args below meth c s₁ B hml hv
  obtain ⟨rfl, hsz, hP, hK, hD0⟩ := hv
  have hx := B.exec
  have hb := B.bytes
  have hr := B.returns
  have hts := atoms_spec (ws := wsX7_back) B.pre
  have hown : s.vm.findClass RX7 = some m.cls := findClass_of_methodNamed B.named
  have hlocks := B.notSynchronized
  subst hsz
  have hD := hD0.self (sz := s.heap.size)
  generalize hAe : va_A [(h0, .inr (7, [.int v_riders, .int v_rides, .ref q_riderOf, .ref q_waveOf, .ref q_marks, .int v_lineMany, .ref q_line, .ref q_interfered, .int v_isOpen, .int v_group, .int v_wrong, .ref q_stood, .int v_pastMany, .ref q_past, .int v_days, .ref q_low, .ref q_high, .ref q_was, .ref q_best, .ref q_second, .ref q_total, .ref q_givenTo, .ref q_has, .ref q_own, .ref q_sums, .ref q_below])), (q_line, .inl (cI, 4, .inl v_line))] s.heap.size = A at hD ⊢
  have hA : ∀ q : Nat, s.heap.size ≤ q → A q := fun q h => by rw [← hAe]; exact Or.inr h
  have hS : va_S A s.heap s.heap [] := va_S.rf
  have hl := lv_entry ([.ref h0, .int x1]) (n := 2) (Nat.le_of_ble_eq_true rfl)
  rw [lg_entry_eq]
  generalize (lg_sl ([.ref h0, .int x1]) ++ List.replicate (2 - (lg_sl ([.ref h0, .int x1])).length) Slot.unset).toArray = ls at hl ⊢
  have hl : lv_has ls 2 [(0, .ref h0), (1, .int x1)] := hl
  refine vx_gen hP hS (fun H locs hP hS => ?_)
  unfold fX7_back at hf
  refine lv_aload_n hx hb dX7_back_0 rfl (lv_at hl 0 rfl) ?_
  refine lv_iload_n hx hb dX7_back_1 rfl (lv_at hl 1 rfl) ?_
  obtain ⟨r_1, hu_1, hf⟩ := it_b1 hf
  have hPc := hP.sub (ws' := [(h0, .inr (7, [.int v_riders, .int v_rides, .ref q_riderOf, .ref q_waveOf, .ref q_marks, .int v_lineMany, .ref q_line, .ref q_interfered, .int v_isOpen, .int v_group, .int v_wrong, .ref q_stood, .int v_pastMany, .ref q_past, .int v_days, .ref q_low, .ref q_high, .ref q_was, .ref q_best, .ref q_second, .ref q_total, .ref q_givenTo, .ref q_has, .ref q_own, .ref q_sums, .ref q_below]))]) [0] rfl
  have hDc := hD.sub (ws' := [(h0, .inr (7, [.int v_riders, .int v_rides, .ref q_riderOf, .ref q_waveOf, .ref q_marks, .int v_lineMany, .ref q_line, .ref q_interfered, .int v_isOpen, .int v_group, .int v_wrong, .ref q_stood, .int v_pastMany, .ref q_past, .int v_days, .ref q_low, .ref q_high, .ref q_was, .ref q_best, .ref q_second, .ref q_total, .ref q_givenTo, .ref q_has, .ref q_own, .ref q_sums, .ref q_below]))]) [0] (by decide) rfl
  have hFc := va_free (wc := [(h0, .inr (7, [.int v_riders, .int v_rides, .ref q_riderOf, .ref q_waveOf, .ref q_marks, .int v_lineMany, .ref q_line, .ref q_interfered, .int v_isOpen, .int v_group, .int v_wrong, .ref q_stood, .int v_pastMany, .ref q_past, .int v_days, .ref q_low, .ref q_high, .ref q_was, .ref q_best, .ref q_second, .ref q_total, .ref q_givenTo, .ref q_has, .ref q_own, .ref q_sums, .ref q_below]))]) hD hS hA [0] rfl
  refine va_calli (va_runV (As := [.int x1]) (rest := []) ⟨hx, hb, hml, hown, hts⟩ (tX7_isRider l dC dI cI cZ cJ cA H.size h0 v_riders v_rides q_riderOf q_waveOf q_marks v_lineMany q_line q_interfered v_isOpen v_group v_wrong q_stood v_pastMany q_past v_days q_low q_high q_was q_best q_second q_total q_givenTo q_has q_own q_sums q_below x1 N r_1 hu_1) (cwV 1 hts gX7_back_X7_isRider rfl rfl rfl (by decide +kernel) ⟨Nat.le_of_ble_eq_true rfl, Nat.le_of_ble_eq_true rfl⟩) ⟨fun a U g mk q => by obtain ⟨q0, q1, qP, qK, qD⟩ := q; exact ⟨q0, q1, qP, va_K.moved (u := U) (U := U.calling g mk a) (Vm.Alike.refl U.vm) qK, qD⟩, va_recv hK hPc (ci := 7) (q0 := 0) rfl rfl, fun U hU hW => ⟨rfl, by rw [hU], by rw [hU]; exact hPc, va_K.moved hW.alike hK, hDc.weaken (fun _ _ _ _ => trivial)⟩⟩ rfl rfl hl.1 rfl (lv_room (Nat.le_of_ble_eq_true rfl)) dX7_back_2 ⟨Nat.zero_le _, Nat.zero_le _⟩) hS (fun q _ h => hFc q h) hFc (fun r9 u t H1 locs ht hvm hw hB hz1 hk1 hS => ?_)
  obtain ⟨hP1, hD1⟩ := hB
  rw [ht] at hP1
  obtain ⟨hP, hD⟩ := va_join (wr := [(q_line, .inl (cI, 4, .inl v_line))]) (w1 := [(h0, .inr (7, [.int v_riders, .int v_rides, .ref q_riderOf, .ref q_waveOf, .ref q_marks, .int v_lineMany, .ref q_line, .ref q_interfered, .int v_isOpen, .int v_group, .int v_wrong, .ref q_stood, .int v_pastMany, .ref q_past, .int v_days, .ref q_low, .ref q_high, .ref q_was, .ref q_best, .ref q_second, .ref q_total, .ref q_givenTo, .ref q_has, .ref q_own, .ref q_sums, .ref q_below]))]) hP hD [0] [1] rfl rfl (by decide) (by decide) hk1 hFc hP1 hD1
  clear hP1 hD1 hk1 hz1 hPc hDc hFc
  generalize H1 = H at hP hS ⊢
  have hP : va_P (dC, dI) vwCl [(q_line, .inl (cI, 4, .inl v_line)), (h0, .inr (7, [.int v_riders, .int v_rides, .ref q_riderOf, .ref q_waveOf, .ref q_marks, .int v_lineMany, .ref q_line, .ref q_interfered, .int v_isOpen, .int v_group, .int v_wrong, .ref q_stood, .int v_pastMany, .ref q_past, .int v_days, .ref q_low, .ref q_high, .ref q_was, .ref q_best, .ref q_second, .ref q_total, .ref q_givenTo, .ref q_has, .ref q_own, .ref q_sums, .ref q_below]))] H := hP
  have hD : va_D A [(q_line, .inl (cI, 4, .inl v_line)), (h0, .inr (7, [.int v_riders, .int v_rides, .ref q_riderOf, .ref q_waveOf, .ref q_marks, .int v_lineMany, .ref q_line, .ref q_interfered, .int v_isOpen, .int v_group, .int v_wrong, .ref q_stood, .int v_pastMany, .ref q_past, .int v_days, .ref q_low, .ref q_high, .ref q_was, .ref q_best, .ref q_second, .ref q_total, .ref q_givenTo, .ref q_has, .ref q_own, .ref q_sums, .ref q_below]))] := hD
  subst hw
  refine lv_if_ne (tgt := 10) hx hb dX7_back_5 (by decide) (fun h_2 => ?_) (fun h_2 => ?_)
  · have hf := it_f h_2 hf
    refine lv_aload_n hx hb dX7_back_10 rfl (lv_at hl 0 rfl) ?_
    refine lv_iload_n hx hb dX7_back_11 rfl (lv_at hl 1 rfl) ?_
    obtain ⟨r_3, hu_3, hf⟩ := it_b1 hf
    have hPc := hP.sub (ws' := [(h0, .inr (7, [.int v_riders, .int v_rides, .ref q_riderOf, .ref q_waveOf, .ref q_marks, .int v_lineMany, .ref q_line, .ref q_interfered, .int v_isOpen, .int v_group, .int v_wrong, .ref q_stood, .int v_pastMany, .ref q_past, .int v_days, .ref q_low, .ref q_high, .ref q_was, .ref q_best, .ref q_second, .ref q_total, .ref q_givenTo, .ref q_has, .ref q_own, .ref q_sums, .ref q_below])), (q_line, .inl (cI, 4, .inl v_line))]) [1, 0] rfl
    have hDc := hD.sub (ws' := [(h0, .inr (7, [.int v_riders, .int v_rides, .ref q_riderOf, .ref q_waveOf, .ref q_marks, .int v_lineMany, .ref q_line, .ref q_interfered, .int v_isOpen, .int v_group, .int v_wrong, .ref q_stood, .int v_pastMany, .ref q_past, .int v_days, .ref q_low, .ref q_high, .ref q_was, .ref q_best, .ref q_second, .ref q_total, .ref q_givenTo, .ref q_has, .ref q_own, .ref q_sums, .ref q_below])), (q_line, .inl (cI, 4, .inl v_line))]) [1, 0] (by decide) rfl
    have hFc := va_free (wc := [(h0, .inr (7, [.int v_riders, .int v_rides, .ref q_riderOf, .ref q_waveOf, .ref q_marks, .int v_lineMany, .ref q_line, .ref q_interfered, .int v_isOpen, .int v_group, .int v_wrong, .ref q_stood, .int v_pastMany, .ref q_past, .int v_days, .ref q_low, .ref q_high, .ref q_was, .ref q_best, .ref q_second, .ref q_total, .ref q_givenTo, .ref q_has, .ref q_own, .ref q_sums, .ref q_below])), (q_line, .inl (cI, 4, .inl v_line))]) hD hS hA [1, 0] rfl
    refine va_calli (va_runV (As := [.int x1]) (rest := []) ⟨hx, hb, hml, hown, hts⟩ (tX7_placeInLine l dC dI cI cZ cJ cA H.size h0 v_riders v_rides q_riderOf q_waveOf q_marks v_lineMany q_line q_interfered v_isOpen v_group v_wrong q_stood v_pastMany q_past v_days q_low q_high q_was q_best q_second q_total q_givenTo q_has q_own q_sums q_below v_line x1 N r_3 hu_3) (cwV 1 hts gX7_back_X7_placeInLine rfl rfl rfl (by decide +kernel) ⟨Nat.le_of_ble_eq_true rfl, Nat.le_of_ble_eq_true rfl⟩) ⟨fun a U g mk q => by obtain ⟨q0, q1, qP, qK, qD⟩ := q; exact ⟨q0, q1, qP, va_K.moved (u := U) (U := U.calling g mk a) (Vm.Alike.refl U.vm) qK, qD⟩, va_recv hK hPc (ci := 7) (q0 := 0) rfl rfl, fun U hU hW => ⟨rfl, by rw [hU], by rw [hU]; exact hPc, va_K.moved hW.alike hK, hDc.weaken (fun _ _ _ _ => trivial)⟩⟩ rfl rfl hl.1 rfl (lv_room (Nat.le_of_ble_eq_true rfl)) dX7_back_12 ⟨Nat.zero_le _, Nat.zero_le _⟩) hS (fun q _ h => hFc q h) hFc (fun r9 u t H1 locs ht hvm hw hB hz1 hk1 hS => ?_)
    obtain ⟨hP1, hD1⟩ := hB
    rw [ht] at hP1
    obtain ⟨hP, hD⟩ := va_join (wr := []) (w1 := [(h0, .inr (7, [.int v_riders, .int v_rides, .ref q_riderOf, .ref q_waveOf, .ref q_marks, .int v_lineMany, .ref q_line, .ref q_interfered, .int v_isOpen, .int v_group, .int v_wrong, .ref q_stood, .int v_pastMany, .ref q_past, .int v_days, .ref q_low, .ref q_high, .ref q_was, .ref q_best, .ref q_second, .ref q_total, .ref q_givenTo, .ref q_has, .ref q_own, .ref q_sums, .ref q_below])), (q_line, .inl (cI, 4, .inl v_line))]) hP hD [1, 0] [] rfl rfl (by decide) (by decide) hk1 hFc hP1 hD1
    clear hP1 hD1 hk1 hz1 hPc hDc hFc
    generalize H1 = H at hP hS ⊢
    have hP : va_P (dC, dI) vwCl [(h0, .inr (7, [.int v_riders, .int v_rides, .ref q_riderOf, .ref q_waveOf, .ref q_marks, .int v_lineMany, .ref q_line, .ref q_interfered, .int v_isOpen, .int v_group, .int v_wrong, .ref q_stood, .int v_pastMany, .ref q_past, .int v_days, .ref q_low, .ref q_high, .ref q_was, .ref q_best, .ref q_second, .ref q_total, .ref q_givenTo, .ref q_has, .ref q_own, .ref q_sums, .ref q_below])), (q_line, .inl (cI, 4, .inl v_line))] H := hP
    have hD : va_D A [(h0, .inr (7, [.int v_riders, .int v_rides, .ref q_riderOf, .ref q_waveOf, .ref q_marks, .int v_lineMany, .ref q_line, .ref q_interfered, .int v_isOpen, .int v_group, .int v_wrong, .ref q_stood, .int v_pastMany, .ref q_past, .int v_days, .ref q_low, .ref q_high, .ref q_was, .ref q_best, .ref q_second, .ref q_total, .ref q_givenTo, .ref q_has, .ref q_own, .ref q_sums, .ref q_below])), (q_line, .inl (cI, 4, .inl v_line))] := hD
    subst hw
    refine lv_if_lt (tgt := 21) hx hb dX7_back_15 (by decide) (fun h_4 => ?_) (fun h_4 => ?_)
    · have hf := it_t h_4 hf
      refine lv_aload_n hx hb dX7_back_21 rfl (lv_at hl 0 rfl) ?_
      refine va_get (D := (dC, dI)) (ci := 7) (v := .ref q_line) (C := RX7) (T := TX7) (N := 26) hx hb hts iw_X7_back_X7 hown hK hP 0 rfl rfl 6 (by decide) (hts (.fieldLink RX7 26 "HeatBenchModel" "line" "[I") (List.mem_of_getElem? (i := 1) rfl)) (fun _ h9 => h9) rfl dX7_back_22 ?_
      refine lv_aload_n hx hb dX7_back_25 rfl (lv_at hl 0 rfl) ?_
      refine va_get (D := (dC, dI)) (ci := 7) (v := .int v_lineMany) (C := RX7) (T := TX7) (N := 26) hx hb hts iw_X7_back_X7 hown hK hP 0 rfl rfl 5 (by decide) (hts (.fieldLink RX7 23 "HeatBenchModel" "lineMany" "I") (List.mem_of_getElem? (i := 2) rfl)) (fun _ h9 => h9) rfl dX7_back_26 ?_
      refine lv_iload_n hx hb dX7_back_29 rfl (lv_at hl 1 rfl) ?_
      obtain ⟨h_5, hf⟩ := it_n hf
      refine va_iast hx hb hK hP hD hS 1 0 rfl rfl h_5 dX7_back_30 (fun H locs hP hD hS => ?_)
      have hP : va_P (dC, dI) vwCl [(h0, .inr (7, [.int v_riders, .int v_rides, .ref q_riderOf, .ref q_waveOf, .ref q_marks, .int v_lineMany, .ref q_line, .ref q_interfered, .int v_isOpen, .int v_group, .int v_wrong, .ref q_stood, .int v_pastMany, .ref q_past, .int v_days, .ref q_low, .ref q_high, .ref q_was, .ref q_best, .ref q_second, .ref q_total, .ref q_givenTo, .ref q_has, .ref q_own, .ref q_sums, .ref q_below])), (q_line, .inl (cI, 4, .inl (upd v_line v_lineMany.toNatClampNeg x1)))] H := hP
      have hD : va_D A [(h0, .inr (7, [.int v_riders, .int v_rides, .ref q_riderOf, .ref q_waveOf, .ref q_marks, .int v_lineMany, .ref q_line, .ref q_interfered, .int v_isOpen, .int v_group, .int v_wrong, .ref q_stood, .int v_pastMany, .ref q_past, .int v_days, .ref q_low, .ref q_high, .ref q_was, .ref q_best, .ref q_second, .ref q_total, .ref q_givenTo, .ref q_has, .ref q_own, .ref q_sums, .ref q_below])), (q_line, .inl (cI, 4, .inl (upd v_line v_lineMany.toNatClampNeg x1)))] := hD
      refine lv_aload_n hx hb dX7_back_31 rfl (lv_at hl 0 rfl) ?_
      refine lv_dup hx hb dX7_back_32 rfl ?_
      refine va_get (D := (dC, dI)) (ci := 7) (v := .int v_lineMany) (C := RX7) (T := TX7) (N := 26) hx hb hts iw_X7_back_X7 hown hK hP 0 rfl rfl 5 (by decide) (hts (.fieldLink RX7 23 "HeatBenchModel" "lineMany" "I") (List.mem_of_getElem? (i := 2) rfl)) (fun _ h9 => h9) rfl dX7_back_33 ?_
      refine lv_iconst (v := 1) hx hb dX7_back_36 (by decide) ?_
      refine lv_iadd hx hb dX7_back_37 ?_
      refine va_put (D := (dC, dI)) (ci := 7) (v := .int (v_lineMany + 1)) (ty := .int) (C := RX7) (T := TX7) (N := 26) hx hb hts iw_X7_back_X7 tyX7 tyX7_ok nmX7 hown hK hP hD hS 0 rfl rfl 5 (by decide) (hts (.fieldLink RX7 23 "HeatBenchModel" "lineMany" "I") (List.mem_of_getElem? (i := 2) rfl)) (fun _ h9 => h9) rfl (by decide +kernel) rfl rfl (Nat.le_of_ble_eq_true rfl) dX7_back_38 (fun H locs hP hD hS => ?_)
      have hP : va_P (dC, dI) vwCl [(h0, .inr (7, [.int v_riders, .int v_rides, .ref q_riderOf, .ref q_waveOf, .ref q_marks, .int (v_lineMany + 1), .ref q_line, .ref q_interfered, .int v_isOpen, .int v_group, .int v_wrong, .ref q_stood, .int v_pastMany, .ref q_past, .int v_days, .ref q_low, .ref q_high, .ref q_was, .ref q_best, .ref q_second, .ref q_total, .ref q_givenTo, .ref q_has, .ref q_own, .ref q_sums, .ref q_below])), (q_line, .inl (cI, 4, .inl (upd v_line v_lineMany.toNatClampNeg x1)))] H := hP
      have hD : va_D A [(h0, .inr (7, [.int v_riders, .int v_rides, .ref q_riderOf, .ref q_waveOf, .ref q_marks, .int (v_lineMany + 1), .ref q_line, .ref q_interfered, .int v_isOpen, .int v_group, .int v_wrong, .ref q_stood, .int v_pastMany, .ref q_past, .int v_days, .ref q_low, .ref q_high, .ref q_was, .ref q_best, .ref q_second, .ref q_total, .ref q_givenTo, .ref q_has, .ref q_own, .ref q_sums, .ref q_below])), (q_line, .inl (cI, 4, .inl (upd v_line v_lineMany.toNatClampNeg x1)))] := hD
      refine lv_aload_n hx hb dX7_back_41 rfl (lv_at hl 0 rfl) ?_
      refine va_get (D := (dC, dI)) (ci := 7) (v := .int (v_lineMany + 1)) (C := RX7) (T := TX7) (N := 26) hx hb hts iw_X7_back_X7 hown hK hP 0 rfl rfl 5 (by decide) (hts (.fieldLink RX7 23 "HeatBenchModel" "lineMany" "I") (List.mem_of_getElem? (i := 2) rfl)) (fun _ h9 => h9) rfl dX7_back_42 ?_
      cases hf
      exact W.iret hx hb hr (fun t ht hW => ⟨⟨_, (), rfl, rfl, by rw [ht]; exact hP, hD⟩, hS.F ht⟩) hS.2.2 dX7_back_45
    · have hf := it_f h_4 hf
      refine lv_bipush (v := (-3)) hx hb dX7_back_18 (by decide) ?_
      cases hf
      exact W.iret hx hb hr (fun t ht hW => ⟨⟨_, (), rfl, rfl, by rw [ht]; exact hP, hD⟩, hS.F ht⟩) hS.2.2 dX7_back_20
  · have hf := it_t h_2 hf
    refine lv_iconst (v := (-1)) hx hb dX7_back_8 (by decide) ?_
    have hP : va_P (dC, dI) vwCl [(h0, .inr (7, [.int v_riders, .int v_rides, .ref q_riderOf, .ref q_waveOf, .ref q_marks, .int v_lineMany, .ref q_line, .ref q_interfered, .int v_isOpen, .int v_group, .int v_wrong, .ref q_stood, .int v_pastMany, .ref q_past, .int v_days, .ref q_low, .ref q_high, .ref q_was, .ref q_best, .ref q_second, .ref q_total, .ref q_givenTo, .ref q_has, .ref q_own, .ref q_sums, .ref q_below])), (q_line, .inl (cI, 4, .inl v_line))] H := hP.sub [1, 0] rfl
    have hD : va_D A [(h0, .inr (7, [.int v_riders, .int v_rides, .ref q_riderOf, .ref q_waveOf, .ref q_marks, .int v_lineMany, .ref q_line, .ref q_interfered, .int v_isOpen, .int v_group, .int v_wrong, .ref q_stood, .int v_pastMany, .ref q_past, .int v_days, .ref q_low, .ref q_high, .ref q_was, .ref q_best, .ref q_second, .ref q_total, .ref q_givenTo, .ref q_has, .ref q_own, .ref q_sums, .ref q_below])), (q_line, .inl (cI, 4, .inl v_line))] := hD.sub [1, 0] (by decide) rfl
    cases hf
    exact W.iret hx hb hr (fun t ht hW => ⟨⟨_, (), rfl, rfl, by rw [ht]; exact hP, hD⟩, hS.F ht⟩) hS.2.2 dX7_back_9
/-! X7_letGo -/
theorem iw_X7_letGo_X7 : ∀ w ∈ wsX70, w ∈ wsX7_letGo := by decide +kernel
set_option maxHeartbeats 4000000 in
set_option maxRecDepth 100000 in
theorem tX7_letGo (l : Launch) (dC : Nat → ClassId) (dI : Nat → Nat → Nat) (cI cZ cJ cA : ClassId) (sz : Nat) (h0 : Nat) (v_riders : Int32) (v_rides : Int32) (q_riderOf : Nat) (q_waveOf : Nat) (q_marks : Nat) (v_lineMany : Int32) (q_line : Nat) (q_interfered : Nat) (v_isOpen : Int32) (v_group : Int32) (v_wrong : Int32) (q_stood : Nat) (v_pastMany : Int32) (q_past : Nat) (v_days : Int32) (q_low : Nat) (q_high : Nat) (q_was : Nat) (q_best : Nat) (q_second : Nat) (q_total : Nat) (q_givenTo : Nat) (q_has : Nat) (q_own : Nat) (q_sums : Nat) (q_below : Nat)  (N : Nat) (r0 : Int32) (w_isOpen : Int32) (hf : fX7_letGo N v_isOpen = some (r0, w_isOpen)) : Met l yX7_letGo wsX7_letGo ({ frames := 0, cells := 0, slots := 0, locals := 0 }) (va_Pc [.ref h0] (fun U => U.heap.size = sz ∧ va_P (dC, dI) vwCl [(h0, .inr (7, [.int v_riders, .int v_rides, .ref q_riderOf, .ref q_waveOf, .ref q_marks, .int v_lineMany, .ref q_line, .ref q_interfered, .int v_isOpen, .int v_group, .int v_wrong, .ref q_stood, .int v_pastMany, .ref q_past, .int v_days, .ref q_low, .ref q_high, .ref q_was, .ref q_best, .ref q_second, .ref q_total, .ref q_givenTo, .ref q_has, .ref q_own, .ref q_sums, .ref q_below]))] U.heap ∧ va_K (dC, dI) vwCl [(cI, .int), (cZ, .boolean), (cJ, .long), (cA, .array .long)] U ∧ va_D (fun _ => True) [(h0, .inr (7, [.int v_riders, .int v_rides, .ref q_riderOf, .ref q_waveOf, .ref q_marks, .int v_lineMany, .ref q_line, .ref q_interfered, .int v_isOpen, .int v_group, .int v_wrong, .ref q_stood, .int v_pastMany, .ref q_past, .int v_days, .ref q_low, .ref q_high, .ref q_was, .ref q_best, .ref q_second, .ref q_total, .ref q_givenTo, .ref q_has, .ref q_own, .ref q_sums, .ref q_below]))])) (va_Qi (fun (r9 : Int32) (_ : Unit) => r0 = r9) (fun _ t => va_P (dC, dI) vwCl [(h0, .inr (7, [.int v_riders, .int v_rides, .ref q_riderOf, .ref q_waveOf, .ref q_marks, .int v_lineMany, .ref q_line, .ref q_interfered, .int w_isOpen, .int v_group, .int v_wrong, .ref q_stood, .int v_pastMany, .ref q_past, .int v_days, .ref q_low, .ref q_high, .ref q_was, .ref q_best, .ref q_second, .ref q_total, .ref q_givenTo, .ref q_has, .ref q_own, .ref q_sums, .ref q_below]))] t.heap ∧ va_D (va_A [(h0, .inr (7, [.int v_riders, .int v_rides, .ref q_riderOf, .ref q_waveOf, .ref q_marks, .int v_lineMany, .ref q_line, .ref q_interfered, .int v_isOpen, .int v_group, .int v_wrong, .ref q_stood, .int v_pastMany, .ref q_past, .int v_days, .ref q_low, .ref q_high, .ref q_was, .ref q_best, .ref q_second, .ref q_total, .ref q_givenTo, .ref q_has, .ref q_own, .ref q_sums, .ref q_below]))] sz) [(h0, .inr (7, [.int v_riders, .int v_rides, .ref q_riderOf, .ref q_waveOf, .ref q_marks, .int v_lineMany, .ref q_line, .ref q_interfered, .int w_isOpen, .int v_group, .int v_wrong, .ref q_stood, .int v_pastMany, .ref q_past, .int v_days, .ref q_low, .ref q_high, .ref q_was, .ref q_best, .ref q_second, .ref q_total, .ref q_givenTo, .ref q_has, .ref q_own, .ref q_sums, .ref q_below]))]) (va_A [(h0, .inr (7, [.int v_riders, .int v_rides, .ref q_riderOf, .ref q_waveOf, .ref q_marks, .int v_lineMany, .ref q_line, .ref q_interfered, .int v_isOpen, .int v_group, .int v_wrong, .ref q_stood, .int v_pastMany, .ref q_past, .int v_days, .ref q_low, .ref q_high, .ref q_was, .ref q_best, .ref q_second, .ref q_total, .ref q_givenTo, .ref q_has, .ref q_own, .ref q_sums, .ref q_below]))] sz)) 0 0 (va_A [(h0, .inr (7, [.int v_riders, .int v_rides, .ref q_riderOf, .ref q_waveOf, .ref q_marks, .int v_lineMany, .ref q_line, .ref q_interfered, .int v_isOpen, .int v_group, .int v_wrong, .ref q_stood, .int v_pastMany, .ref q_past, .int v_days, .ref q_low, .ref q_high, .ref q_was, .ref q_best, .ref q_second, .ref q_total, .ref q_givenTo, .ref q_has, .ref q_own, .ref q_sums, .ref q_below]))] sz) := by
  refine Met.ofW (cc := cX7_letGo) (maxL := 2) (ret := (some .int)) (by decide) rfl ?_
  intro p e s m args below meth c s₁ B hml hv
  obtain ⟨rfl, hsz, hP, hK, hD0⟩ := hv
  have hx := B.exec
  have hb := B.bytes
  have hr := B.returns
  have hts := atoms_spec (ws := wsX7_letGo) B.pre
  have hown : s.vm.findClass RX7 = some m.cls := findClass_of_methodNamed B.named
  have hlocks := B.notSynchronized
  subst hsz
  have hD := hD0.self (sz := s.heap.size)
  generalize hAe : va_A [(h0, .inr (7, [.int v_riders, .int v_rides, .ref q_riderOf, .ref q_waveOf, .ref q_marks, .int v_lineMany, .ref q_line, .ref q_interfered, .int v_isOpen, .int v_group, .int v_wrong, .ref q_stood, .int v_pastMany, .ref q_past, .int v_days, .ref q_low, .ref q_high, .ref q_was, .ref q_best, .ref q_second, .ref q_total, .ref q_givenTo, .ref q_has, .ref q_own, .ref q_sums, .ref q_below]))] s.heap.size = A at hD ⊢
  have hA : ∀ q : Nat, s.heap.size ≤ q → A q := fun q h => by rw [← hAe]; exact Or.inr h
  have hS : va_S A s.heap s.heap [] := va_S.rf
  have hl := lv_entry ([.ref h0]) (n := 2) (Nat.le_of_ble_eq_true rfl)
  rw [lg_entry_eq]
  generalize (lg_sl ([.ref h0]) ++ List.replicate (2 - (lg_sl ([.ref h0])).length) Slot.unset).toArray = ls at hl ⊢
  have hl : lv_has ls 2 [(0, .ref h0)] := hl
  refine vx_gen hP hS (fun H locs hP hS => ?_)
  unfold fX7_letGo at hf
  refine lv_aload_n hx hb dX7_letGo_0 rfl (lv_at hl 0 rfl) ?_
  refine va_get (D := (dC, dI)) (ci := 7) (v := .int v_isOpen) (C := RX7) (T := TX7) (N := 26) hx hb hts iw_X7_letGo_X7 hown hK hP 0 rfl rfl 8 (by decide) (hts (.fieldLink RX7 89 "HeatBenchModel" "isOpen" "Z") (List.mem_of_getElem? (i := 1) rfl)) (fun _ h9 => h9) rfl dX7_letGo_1 ?_
  refine lv_istore_n (lv' := [(1, .int v_isOpen), (0, .ref h0)]) hx hb dX7_letGo_4 rfl hl (by decide) rfl (fun ls hl => ?_)
  refine lv_aload_n hx hb dX7_letGo_5 rfl (lv_at hl 1 rfl) ?_
  refine lv_iconst (v := 0) hx hb dX7_letGo_6 (by decide) ?_
  refine va_put (D := (dC, dI)) (ci := 7) (v := .int 0) (ty := .boolean) (C := RX7) (T := TX7) (N := 26) hx hb hts iw_X7_letGo_X7 tyX7 tyX7_ok nmX7 hown hK hP hD hS 0 rfl rfl 8 (by decide) (hts (.fieldLink RX7 89 "HeatBenchModel" "isOpen" "Z") (List.mem_of_getElem? (i := 1) rfl)) (fun _ h9 => h9) rfl (by decide +kernel) rfl rfl (Nat.le_of_ble_eq_true rfl) dX7_letGo_7 (fun H locs hP hD hS => ?_)
  have hP : va_P (dC, dI) vwCl [(h0, .inr (7, [.int v_riders, .int v_rides, .ref q_riderOf, .ref q_waveOf, .ref q_marks, .int v_lineMany, .ref q_line, .ref q_interfered, .int 0, .int v_group, .int v_wrong, .ref q_stood, .int v_pastMany, .ref q_past, .int v_days, .ref q_low, .ref q_high, .ref q_was, .ref q_best, .ref q_second, .ref q_total, .ref q_givenTo, .ref q_has, .ref q_own, .ref q_sums, .ref q_below]))] H := hP
  have hD : va_D A [(h0, .inr (7, [.int v_riders, .int v_rides, .ref q_riderOf, .ref q_waveOf, .ref q_marks, .int v_lineMany, .ref q_line, .ref q_interfered, .int 0, .int v_group, .int v_wrong, .ref q_stood, .int v_pastMany, .ref q_past, .int v_days, .ref q_low, .ref q_high, .ref q_was, .ref q_best, .ref q_second, .ref q_total, .ref q_givenTo, .ref q_has, .ref q_own, .ref q_sums, .ref q_below]))] := hD
  refine lv_iload_n hx hb dX7_letGo_10 rfl (lv_at hl 0 rfl) ?_
  refine lv_if_eq (tgt := 18) hx hb dX7_letGo_11 (by decide) (fun h_1 => ?_) (fun h_1 => ?_)
  · have hf := it_t h_1 hf
    refine lv_iconst (v := 0) hx hb dX7_letGo_18 (by decide) ?_
    cases hf
    exact W.iret hx hb hr (fun t ht hW => ⟨⟨_, (), rfl, rfl, by rw [ht]; exact hP, hD⟩, hS.F ht⟩) hS.2.2 dX7_letGo_19
  · have hf := it_f h_1 hf
    refine lv_iconst (v := 1) hx hb dX7_letGo_14 (by decide) ?_
    refine lv_goto (tgt := 19) hx hb dX7_letGo_15 (by decide) ?_
    cases hf
    exact W.iret hx hb hr (fun t ht hW => ⟨⟨_, (), rfl, rfl, by rw [ht]; exact hP, hD⟩, hS.F ht⟩) hS.2.2 dX7_letGo_19
/-! X7_mark -/
theorem iw_X7_mark_X7 : ∀ w ∈ wsX70, w ∈ wsX7_mark := by decide +kernel
set_option maxHeartbeats 4000000 in
set_option maxRecDepth 100000 in
theorem tX7_mark (l : Launch) (dC : Nat → ClassId) (dI : Nat → Nat → Nat) (cI cZ cJ cA : ClassId) (sz : Nat) (h0 : Nat) (v_riders : Int32) (v_rides : Int32) (q_riderOf : Nat) (q_waveOf : Nat) (q_marks : Nat) (v_lineMany : Int32) (q_line : Nat) (q_interfered : Nat) (v_isOpen : Int32) (v_group : Int32) (v_wrong : Int32) (q_stood : Nat) (v_pastMany : Int32) (q_past : Nat) (v_days : Int32) (q_low : Nat) (q_high : Nat) (q_was : Nat) (q_best : Nat) (q_second : Nat) (q_total : Nat) (q_givenTo : Nat) (q_has : Nat) (q_own : Nat) (q_sums : Nat) (q_below : Nat) (v_marks : Nat → Int32) (x1 : Int32) (x2 : Int32) (x3 : Int32) (N : Nat) (r0 : Int32) (w_marks : (Nat → Int32)) (hf : fX7_mark N x1 x2 x3 v_rides v_marks = some (r0, w_marks)) : Met l yX7_mark wsX7_mark ({ frames := 2, cells := 0, slots := 0, locals := 43 }) (va_Pc [.ref h0, .int x1, .int x2, .int x3] (fun U => U.heap.size = sz ∧ va_P (dC, dI) vwCl [(h0, .inr (7, [.int v_riders, .int v_rides, .ref q_riderOf, .ref q_waveOf, .ref q_marks, .int v_lineMany, .ref q_line, .ref q_interfered, .int v_isOpen, .int v_group, .int v_wrong, .ref q_stood, .int v_pastMany, .ref q_past, .int v_days, .ref q_low, .ref q_high, .ref q_was, .ref q_best, .ref q_second, .ref q_total, .ref q_givenTo, .ref q_has, .ref q_own, .ref q_sums, .ref q_below])), (q_marks, .inl (cI, 150, .inl v_marks))] U.heap ∧ va_K (dC, dI) vwCl [(cI, .int), (cZ, .boolean), (cJ, .long), (cA, .array .long)] U ∧ va_D (fun _ => True) [(h0, .inr (7, [.int v_riders, .int v_rides, .ref q_riderOf, .ref q_waveOf, .ref q_marks, .int v_lineMany, .ref q_line, .ref q_interfered, .int v_isOpen, .int v_group, .int v_wrong, .ref q_stood, .int v_pastMany, .ref q_past, .int v_days, .ref q_low, .ref q_high, .ref q_was, .ref q_best, .ref q_second, .ref q_total, .ref q_givenTo, .ref q_has, .ref q_own, .ref q_sums, .ref q_below])), (q_marks, .inl (cI, 150, .inl v_marks))])) (va_Qi (fun (r9 : Int32) (_ : Unit) => r0 = r9) (fun _ t => va_P (dC, dI) vwCl [(h0, .inr (7, [.int v_riders, .int v_rides, .ref q_riderOf, .ref q_waveOf, .ref q_marks, .int v_lineMany, .ref q_line, .ref q_interfered, .int v_isOpen, .int v_group, .int v_wrong, .ref q_stood, .int v_pastMany, .ref q_past, .int v_days, .ref q_low, .ref q_high, .ref q_was, .ref q_best, .ref q_second, .ref q_total, .ref q_givenTo, .ref q_has, .ref q_own, .ref q_sums, .ref q_below])), (q_marks, .inl (cI, 150, .inl w_marks))] t.heap ∧ va_D (va_A [(h0, .inr (7, [.int v_riders, .int v_rides, .ref q_riderOf, .ref q_waveOf, .ref q_marks, .int v_lineMany, .ref q_line, .ref q_interfered, .int v_isOpen, .int v_group, .int v_wrong, .ref q_stood, .int v_pastMany, .ref q_past, .int v_days, .ref q_low, .ref q_high, .ref q_was, .ref q_best, .ref q_second, .ref q_total, .ref q_givenTo, .ref q_has, .ref q_own, .ref q_sums, .ref q_below])), (q_marks, .inl (cI, 150, .inl v_marks))] sz) [(h0, .inr (7, [.int v_riders, .int v_rides, .ref q_riderOf, .ref q_waveOf, .ref q_marks, .int v_lineMany, .ref q_line, .ref q_interfered, .int v_isOpen, .int v_group, .int v_wrong, .ref q_stood, .int v_pastMany, .ref q_past, .int v_days, .ref q_low, .ref q_high, .ref q_was, .ref q_best, .ref q_second, .ref q_total, .ref q_givenTo, .ref q_has, .ref q_own, .ref q_sums, .ref q_below])), (q_marks, .inl (cI, 150, .inl w_marks))]) (va_A [(h0, .inr (7, [.int v_riders, .int v_rides, .ref q_riderOf, .ref q_waveOf, .ref q_marks, .int v_lineMany, .ref q_line, .ref q_interfered, .int v_isOpen, .int v_group, .int v_wrong, .ref q_stood, .int v_pastMany, .ref q_past, .int v_days, .ref q_low, .ref q_high, .ref q_was, .ref q_best, .ref q_second, .ref q_total, .ref q_givenTo, .ref q_has, .ref q_own, .ref q_sums, .ref q_below])), (q_marks, .inl (cI, 150, .inl v_marks))] sz)) 0 0 (va_A [(h0, .inr (7, [.int v_riders, .int v_rides, .ref q_riderOf, .ref q_waveOf, .ref q_marks, .int v_lineMany, .ref q_line, .ref q_interfered, .int v_isOpen, .int v_group, .int v_wrong, .ref q_stood, .int v_pastMany, .ref q_past, .int v_days, .ref q_low, .ref q_high, .ref q_was, .ref q_best, .ref q_second, .ref q_total, .ref q_givenTo, .ref q_has, .ref q_own, .ref q_sums, .ref q_below])), (q_marks, .inl (cI, 150, .inl v_marks))] sz) := by
  refine Met.ofW (cc := cX7_mark) (maxL := 5) (ret := (some .int)) (by decide) rfl ?_
  intro p e s m args below meth c s₁ B hml hv
  obtain ⟨rfl, hsz, hP, hK, hD0⟩ := hv
  have hx := B.exec
  have hb := B.bytes
  have hr := B.returns
  have hts := atoms_spec (ws := wsX7_mark) B.pre
  have hown : s.vm.findClass RX7 = some m.cls := findClass_of_methodNamed B.named
  have hlocks := B.notSynchronized
  subst hsz
  have hD := hD0.self (sz := s.heap.size)
  generalize hAe : va_A [(h0, .inr (7, [.int v_riders, .int v_rides, .ref q_riderOf, .ref q_waveOf, .ref q_marks, .int v_lineMany, .ref q_line, .ref q_interfered, .int v_isOpen, .int v_group, .int v_wrong, .ref q_stood, .int v_pastMany, .ref q_past, .int v_days, .ref q_low, .ref q_high, .ref q_was, .ref q_best, .ref q_second, .ref q_total, .ref q_givenTo, .ref q_has, .ref q_own, .ref q_sums, .ref q_below])), (q_marks, .inl (cI, 150, .inl v_marks))] s.heap.size = A at hD ⊢
  have hA : ∀ q : Nat, s.heap.size ≤ q → A q := fun q h => by rw [← hAe]; exact Or.inr h
  have hS : va_S A s.heap s.heap [] := va_S.rf
  have hl := lv_entry ([.ref h0, .int x1, .int x2, .int x3]) (n := 5) (Nat.le_of_ble_eq_true rfl)
  rw [lg_entry_eq]
  generalize (lg_sl ([.ref h0, .int x1, .int x2, .int x3]) ++ List.replicate (5 - (lg_sl ([.ref h0, .int x1, .int x2, .int x3])).length) Slot.unset).toArray = ls at hl ⊢
  have hl : lv_has ls 5 [(0, .ref h0), (1, .int x1), (2, .int x2), (3, .int x3)] := hl
  refine vx_gen hP hS (fun H locs hP hS => ?_)
  unfold fX7_mark at hf
  refine lv_aload_n hx hb dX7_mark_0 rfl (lv_at hl 0 rfl) ?_
  refine lv_iload_n hx hb dX7_mark_1 rfl (lv_at hl 1 rfl) ?_
  obtain ⟨r_1, hu_1, hf⟩ := it_b1 hf
  have hPc := hP.sub (ws' := [(h0, .inr (7, [.int v_riders, .int v_rides, .ref q_riderOf, .ref q_waveOf, .ref q_marks, .int v_lineMany, .ref q_line, .ref q_interfered, .int v_isOpen, .int v_group, .int v_wrong, .ref q_stood, .int v_pastMany, .ref q_past, .int v_days, .ref q_low, .ref q_high, .ref q_was, .ref q_best, .ref q_second, .ref q_total, .ref q_givenTo, .ref q_has, .ref q_own, .ref q_sums, .ref q_below]))]) [0] rfl
  have hDc := hD.sub (ws' := [(h0, .inr (7, [.int v_riders, .int v_rides, .ref q_riderOf, .ref q_waveOf, .ref q_marks, .int v_lineMany, .ref q_line, .ref q_interfered, .int v_isOpen, .int v_group, .int v_wrong, .ref q_stood, .int v_pastMany, .ref q_past, .int v_days, .ref q_low, .ref q_high, .ref q_was, .ref q_best, .ref q_second, .ref q_total, .ref q_givenTo, .ref q_has, .ref q_own, .ref q_sums, .ref q_below]))]) [0] (by decide) rfl
  have hFc := va_free (wc := [(h0, .inr (7, [.int v_riders, .int v_rides, .ref q_riderOf, .ref q_waveOf, .ref q_marks, .int v_lineMany, .ref q_line, .ref q_interfered, .int v_isOpen, .int v_group, .int v_wrong, .ref q_stood, .int v_pastMany, .ref q_past, .int v_days, .ref q_low, .ref q_high, .ref q_was, .ref q_best, .ref q_second, .ref q_total, .ref q_givenTo, .ref q_has, .ref q_own, .ref q_sums, .ref q_below]))]) hD hS hA [0] rfl
  refine va_calli (va_runV (As := [.int x1]) (rest := []) ⟨hx, hb, hml, hown, hts⟩ (tX7_isRide l dC dI cI cZ cJ cA H.size h0 v_riders v_rides q_riderOf q_waveOf q_marks v_lineMany q_line q_interfered v_isOpen v_group v_wrong q_stood v_pastMany q_past v_days q_low q_high q_was q_best q_second q_total q_givenTo q_has q_own q_sums q_below x1 N r_1 hu_1) (cwV 1 hts gX7_mark_X7_isRide rfl rfl rfl (by decide +kernel) ⟨Nat.le_of_ble_eq_true rfl, Nat.le_of_ble_eq_true rfl⟩) ⟨fun a U g mk q => by obtain ⟨q0, q1, qP, qK, qD⟩ := q; exact ⟨q0, q1, qP, va_K.moved (u := U) (U := U.calling g mk a) (Vm.Alike.refl U.vm) qK, qD⟩, va_recv hK hPc (ci := 7) (q0 := 0) rfl rfl, fun U hU hW => ⟨rfl, by rw [hU], by rw [hU]; exact hPc, va_K.moved hW.alike hK, hDc.weaken (fun _ _ _ _ => trivial)⟩⟩ rfl rfl hl.1 rfl (lv_room (Nat.le_of_ble_eq_true rfl)) dX7_mark_2 ⟨Nat.zero_le _, Nat.zero_le _⟩) hS (fun q _ h => hFc q h) hFc (fun r9 u t H1 locs ht hvm hw hB hz1 hk1 hS => ?_)
  obtain ⟨hP1, hD1⟩ := hB
  rw [ht] at hP1
  obtain ⟨hP, hD⟩ := va_join (wr := [(q_marks, .inl (cI, 150, .inl v_marks))]) (w1 := [(h0, .inr (7, [.int v_riders, .int v_rides, .ref q_riderOf, .ref q_waveOf, .ref q_marks, .int v_lineMany, .ref q_line, .ref q_interfered, .int v_isOpen, .int v_group, .int v_wrong, .ref q_stood, .int v_pastMany, .ref q_past, .int v_days, .ref q_low, .ref q_high, .ref q_was, .ref q_best, .ref q_second, .ref q_total, .ref q_givenTo, .ref q_has, .ref q_own, .ref q_sums, .ref q_below]))]) hP hD [0] [1] rfl rfl (by decide) (by decide) hk1 hFc hP1 hD1
  clear hP1 hD1 hk1 hz1 hPc hDc hFc
  generalize H1 = H at hP hS ⊢
  have hP : va_P (dC, dI) vwCl [(q_marks, .inl (cI, 150, .inl v_marks)), (h0, .inr (7, [.int v_riders, .int v_rides, .ref q_riderOf, .ref q_waveOf, .ref q_marks, .int v_lineMany, .ref q_line, .ref q_interfered, .int v_isOpen, .int v_group, .int v_wrong, .ref q_stood, .int v_pastMany, .ref q_past, .int v_days, .ref q_low, .ref q_high, .ref q_was, .ref q_best, .ref q_second, .ref q_total, .ref q_givenTo, .ref q_has, .ref q_own, .ref q_sums, .ref q_below]))] H := hP
  have hD : va_D A [(q_marks, .inl (cI, 150, .inl v_marks)), (h0, .inr (7, [.int v_riders, .int v_rides, .ref q_riderOf, .ref q_waveOf, .ref q_marks, .int v_lineMany, .ref q_line, .ref q_interfered, .int v_isOpen, .int v_group, .int v_wrong, .ref q_stood, .int v_pastMany, .ref q_past, .int v_days, .ref q_low, .ref q_high, .ref q_was, .ref q_best, .ref q_second, .ref q_total, .ref q_givenTo, .ref q_has, .ref q_own, .ref q_sums, .ref q_below]))] := hD
  subst hw
  refine lv_if_eq (tgt := 27) hx hb dX7_mark_5 (by decide) (fun h_2 => ?_) (fun h_2 => ?_)
  · have hf := it_t h_2 hf
    refine lv_bipush (v := (-9)) hx hb dX7_mark_27 (by decide) ?_
    have hP : va_P (dC, dI) vwCl [(h0, .inr (7, [.int v_riders, .int v_rides, .ref q_riderOf, .ref q_waveOf, .ref q_marks, .int v_lineMany, .ref q_line, .ref q_interfered, .int v_isOpen, .int v_group, .int v_wrong, .ref q_stood, .int v_pastMany, .ref q_past, .int v_days, .ref q_low, .ref q_high, .ref q_was, .ref q_best, .ref q_second, .ref q_total, .ref q_givenTo, .ref q_has, .ref q_own, .ref q_sums, .ref q_below])), (q_marks, .inl (cI, 150, .inl v_marks))] H := hP.sub [1, 0] rfl
    have hD : va_D A [(h0, .inr (7, [.int v_riders, .int v_rides, .ref q_riderOf, .ref q_waveOf, .ref q_marks, .int v_lineMany, .ref q_line, .ref q_interfered, .int v_isOpen, .int v_group, .int v_wrong, .ref q_stood, .int v_pastMany, .ref q_past, .int v_days, .ref q_low, .ref q_high, .ref q_was, .ref q_best, .ref q_second, .ref q_total, .ref q_givenTo, .ref q_has, .ref q_own, .ref q_sums, .ref q_below])), (q_marks, .inl (cI, 150, .inl v_marks))] := hD.sub [1, 0] (by decide) rfl
    cases hf
    exact W.iret hx hb hr (fun t ht hW => ⟨⟨_, (), rfl, rfl, by rw [ht]; exact hP, hD⟩, hS.F ht⟩) hS.2.2 dX7_mark_29
  · have hf := it_f h_2 hf
    refine lv_iload_n hx hb dX7_mark_8 rfl (lv_at hl 2 rfl) ?_
    refine lv_iconst (v := 0) hx hb dX7_mark_9 (by decide) ?_
    refine lv_iconst (v := 4) hx hb dX7_mark_10 (by decide) ?_
    obtain ⟨r_3, hu_3, hf⟩ := it_b1 hf
    have hPc := hP.sub (ws' := []) [] rfl
    have hDc := hD.sub (ws' := []) [] (by decide) rfl
    have hFc := va_free (wc := []) hD hS hA [] rfl
    refine va_calli (va_runS (As := [.int x2, .int 0, .int 4]) (rest := []) ⟨hx, hb, hml, hown, hts⟩ (tX7_in l dC dI cI cZ cJ cA H.size x2 0 4 N r_3 hu_3) (va_cwS 3 hts gX7_mark_X7_in rfl rfl rfl (by decide +kernel) ⟨Nat.le_of_ble_eq_true rfl, Nat.le_of_ble_eq_true rfl⟩) ⟨fun a U g mk q => by obtain ⟨q0, q1, qP, qK, qD⟩ := q; exact ⟨q0, q1, qP, va_K.moved (u := U) (U := U.calling g mk a) (Vm.Alike.refl U.vm) qK, qD⟩, fun U hU hW => ⟨rfl, by rw [hU], by rw [hU]; exact hPc, va_K.moved hW.alike hK, hDc.weaken (fun _ _ _ _ => trivial)⟩⟩ rfl rfl hl.1 rfl (lv_room (Nat.le_of_ble_eq_true rfl)) dX7_mark_11 ⟨Nat.zero_le _, Nat.zero_le _⟩) hS (fun q _ h => hFc q h) hFc (fun r9 u t H1 locs ht hvm hw hB hz1 hk1 hS => ?_)
    obtain ⟨hP1, hD1⟩ := hB
    rw [ht] at hP1
    obtain ⟨hP, hD⟩ := va_join (wr := [(q_marks, .inl (cI, 150, .inl v_marks)), (h0, .inr (7, [.int v_riders, .int v_rides, .ref q_riderOf, .ref q_waveOf, .ref q_marks, .int v_lineMany, .ref q_line, .ref q_interfered, .int v_isOpen, .int v_group, .int v_wrong, .ref q_stood, .int v_pastMany, .ref q_past, .int v_days, .ref q_low, .ref q_high, .ref q_was, .ref q_best, .ref q_second, .ref q_total, .ref q_givenTo, .ref q_has, .ref q_own, .ref q_sums, .ref q_below]))]) (w1 := []) hP hD [] [0, 1] rfl rfl (by decide) (by decide) hk1 hFc hP1 hD1
    clear hP1 hD1 hk1 hz1 hPc hDc hFc
    generalize H1 = H at hP hS ⊢
    have hP : va_P (dC, dI) vwCl [(q_marks, .inl (cI, 150, .inl v_marks)), (h0, .inr (7, [.int v_riders, .int v_rides, .ref q_riderOf, .ref q_waveOf, .ref q_marks, .int v_lineMany, .ref q_line, .ref q_interfered, .int v_isOpen, .int v_group, .int v_wrong, .ref q_stood, .int v_pastMany, .ref q_past, .int v_days, .ref q_low, .ref q_high, .ref q_was, .ref q_best, .ref q_second, .ref q_total, .ref q_givenTo, .ref q_has, .ref q_own, .ref q_sums, .ref q_below]))] H := hP
    have hD : va_D A [(q_marks, .inl (cI, 150, .inl v_marks)), (h0, .inr (7, [.int v_riders, .int v_rides, .ref q_riderOf, .ref q_waveOf, .ref q_marks, .int v_lineMany, .ref q_line, .ref q_interfered, .int v_isOpen, .int v_group, .int v_wrong, .ref q_stood, .int v_pastMany, .ref q_past, .int v_days, .ref q_low, .ref q_high, .ref q_was, .ref q_best, .ref q_second, .ref q_total, .ref q_givenTo, .ref q_has, .ref q_own, .ref q_sums, .ref q_below]))] := hD
    subst hw
    refine lv_if_eq (tgt := 27) hx hb dX7_mark_14 (by decide) (fun h_4 => ?_) (fun h_4 => ?_)
    · have hf := it_t h_4 hf
      refine lv_bipush (v := (-9)) hx hb dX7_mark_27 (by decide) ?_
      have hP : va_P (dC, dI) vwCl [(h0, .inr (7, [.int v_riders, .int v_rides, .ref q_riderOf, .ref q_waveOf, .ref q_marks, .int v_lineMany, .ref q_line, .ref q_interfered, .int v_isOpen, .int v_group, .int v_wrong, .ref q_stood, .int v_pastMany, .ref q_past, .int v_days, .ref q_low, .ref q_high, .ref q_was, .ref q_best, .ref q_second, .ref q_total, .ref q_givenTo, .ref q_has, .ref q_own, .ref q_sums, .ref q_below])), (q_marks, .inl (cI, 150, .inl v_marks))] H := hP.sub [1, 0] rfl
      have hD : va_D A [(h0, .inr (7, [.int v_riders, .int v_rides, .ref q_riderOf, .ref q_waveOf, .ref q_marks, .int v_lineMany, .ref q_line, .ref q_interfered, .int v_isOpen, .int v_group, .int v_wrong, .ref q_stood, .int v_pastMany, .ref q_past, .int v_days, .ref q_low, .ref q_high, .ref q_was, .ref q_best, .ref q_second, .ref q_total, .ref q_givenTo, .ref q_has, .ref q_own, .ref q_sums, .ref q_below])), (q_marks, .inl (cI, 150, .inl v_marks))] := hD.sub [1, 0] (by decide) rfl
      cases hf
      exact W.iret hx hb hr (fun t ht hW => ⟨⟨_, (), rfl, rfl, by rw [ht]; exact hP, hD⟩, hS.F ht⟩) hS.2.2 dX7_mark_29
    · have hf := it_f h_4 hf
      refine lv_iload_n hx hb dX7_mark_17 rfl (lv_at hl 3 rfl) ?_
      refine lv_iconst (v := (-1)) hx hb dX7_mark_18 (by decide) ?_
      refine lv_bipush (v := 100) hx hb dX7_mark_19 (by decide) ?_
      obtain ⟨r_5, hu_5, hf⟩ := it_b1 hf
      have hPc := hP.sub (ws' := []) [] rfl
      have hDc := hD.sub (ws' := []) [] (by decide) rfl
      have hFc := va_free (wc := []) hD hS hA [] rfl
      refine va_calli (va_runS (As := [.int x3, .int (-1), .int 100]) (rest := []) ⟨hx, hb, hml, hown, hts⟩ (tX7_in l dC dI cI cZ cJ cA H.size x3 (-1) 100 N r_5 hu_5) (va_cwS 3 hts gX7_mark_X7_in rfl rfl rfl (by decide +kernel) ⟨Nat.le_of_ble_eq_true rfl, Nat.le_of_ble_eq_true rfl⟩) ⟨fun a U g mk q => by obtain ⟨q0, q1, qP, qK, qD⟩ := q; exact ⟨q0, q1, qP, va_K.moved (u := U) (U := U.calling g mk a) (Vm.Alike.refl U.vm) qK, qD⟩, fun U hU hW => ⟨rfl, by rw [hU], by rw [hU]; exact hPc, va_K.moved hW.alike hK, hDc.weaken (fun _ _ _ _ => trivial)⟩⟩ rfl rfl hl.1 rfl (lv_room (Nat.le_of_ble_eq_true rfl)) dX7_mark_21 ⟨Nat.zero_le _, Nat.zero_le _⟩) hS (fun q _ h => hFc q h) hFc (fun r9 u t H1 locs ht hvm hw hB hz1 hk1 hS => ?_)
      obtain ⟨hP1, hD1⟩ := hB
      rw [ht] at hP1
      obtain ⟨hP, hD⟩ := va_join (wr := [(q_marks, .inl (cI, 150, .inl v_marks)), (h0, .inr (7, [.int v_riders, .int v_rides, .ref q_riderOf, .ref q_waveOf, .ref q_marks, .int v_lineMany, .ref q_line, .ref q_interfered, .int v_isOpen, .int v_group, .int v_wrong, .ref q_stood, .int v_pastMany, .ref q_past, .int v_days, .ref q_low, .ref q_high, .ref q_was, .ref q_best, .ref q_second, .ref q_total, .ref q_givenTo, .ref q_has, .ref q_own, .ref q_sums, .ref q_below]))]) (w1 := []) hP hD [] [0, 1] rfl rfl (by decide) (by decide) hk1 hFc hP1 hD1
      clear hP1 hD1 hk1 hz1 hPc hDc hFc
      generalize H1 = H at hP hS ⊢
      have hP : va_P (dC, dI) vwCl [(q_marks, .inl (cI, 150, .inl v_marks)), (h0, .inr (7, [.int v_riders, .int v_rides, .ref q_riderOf, .ref q_waveOf, .ref q_marks, .int v_lineMany, .ref q_line, .ref q_interfered, .int v_isOpen, .int v_group, .int v_wrong, .ref q_stood, .int v_pastMany, .ref q_past, .int v_days, .ref q_low, .ref q_high, .ref q_was, .ref q_best, .ref q_second, .ref q_total, .ref q_givenTo, .ref q_has, .ref q_own, .ref q_sums, .ref q_below]))] H := hP
      have hD : va_D A [(q_marks, .inl (cI, 150, .inl v_marks)), (h0, .inr (7, [.int v_riders, .int v_rides, .ref q_riderOf, .ref q_waveOf, .ref q_marks, .int v_lineMany, .ref q_line, .ref q_interfered, .int v_isOpen, .int v_group, .int v_wrong, .ref q_stood, .int v_pastMany, .ref q_past, .int v_days, .ref q_low, .ref q_high, .ref q_was, .ref q_best, .ref q_second, .ref q_total, .ref q_givenTo, .ref q_has, .ref q_own, .ref q_sums, .ref q_below]))] := hD
      subst hw
      refine lv_if_ne (tgt := 30) hx hb dX7_mark_24 (by decide) (fun h_6 => ?_) (fun h_6 => ?_)
      · have hf := it_f h_6 hf
        refine lv_aload_n hx hb dX7_mark_30 rfl (lv_at hl 0 rfl) ?_
        refine va_get (D := (dC, dI)) (ci := 7) (v := .ref q_marks) (C := RX7) (T := TX7) (N := 26) hx hb hts iw_X7_mark_X7 hown hK hP 1 rfl rfl 4 (by decide) (hts (.fieldLink RX7 20 "HeatBenchModel" "marks" "[I") (List.mem_of_getElem? (i := 1) rfl)) (fun _ h9 => h9) rfl dX7_mark_31 ?_
        refine lv_iconst (v := 5) hx hb dX7_mark_34 (by decide) ?_
        refine lv_iload_n hx hb dX7_mark_35 rfl (lv_at hl 1 rfl) ?_
        refine lv_imul hx hb dX7_mark_36 ?_
        refine lv_iload_n hx hb dX7_mark_37 rfl (lv_at hl 2 rfl) ?_
        refine lv_iadd hx hb dX7_mark_38 ?_
        obtain ⟨h_7, hf⟩ := it_n hf
        refine va_iald hx hb hK hP 0 0 rfl rfl h_7 dX7_mark_39 ?_
        refine lv_istore (lv' := [(4, .int (v_marks ((5 * x1) + x2).toNatClampNeg)), (0, .ref h0), (1, .int x1), (2, .int x2), (3, .int x3)]) hx hb dX7_mark_40 hl (by decide) rfl (fun ls hl => ?_)
        refine lv_aload_n hx hb dX7_mark_42 rfl (lv_at hl 1 rfl) ?_
        refine va_get (D := (dC, dI)) (ci := 7) (v := .ref q_marks) (C := RX7) (T := TX7) (N := 26) hx hb hts iw_X7_mark_X7 hown hK hP 1 rfl rfl 4 (by decide) (hts (.fieldLink RX7 20 "HeatBenchModel" "marks" "[I") (List.mem_of_getElem? (i := 1) rfl)) (fun _ h9 => h9) rfl dX7_mark_43 ?_
        refine lv_iconst (v := 5) hx hb dX7_mark_46 (by decide) ?_
        refine lv_iload_n hx hb dX7_mark_47 rfl (lv_at hl 2 rfl) ?_
        refine lv_imul hx hb dX7_mark_48 ?_
        refine lv_iload_n hx hb dX7_mark_49 rfl (lv_at hl 3 rfl) ?_
        refine lv_iadd hx hb dX7_mark_50 ?_
        refine lv_iload_n hx hb dX7_mark_51 rfl (lv_at hl 4 rfl) ?_
        refine va_iast hx hb hK hP hD hS 0 0 rfl rfl h_7 dX7_mark_52 (fun H locs hP hD hS => ?_)
        have hP : va_P (dC, dI) vwCl [(q_marks, .inl (cI, 150, .inl (upd v_marks ((5 * x1) + x2).toNatClampNeg x3))), (h0, .inr (7, [.int v_riders, .int v_rides, .ref q_riderOf, .ref q_waveOf, .ref q_marks, .int v_lineMany, .ref q_line, .ref q_interfered, .int v_isOpen, .int v_group, .int v_wrong, .ref q_stood, .int v_pastMany, .ref q_past, .int v_days, .ref q_low, .ref q_high, .ref q_was, .ref q_best, .ref q_second, .ref q_total, .ref q_givenTo, .ref q_has, .ref q_own, .ref q_sums, .ref q_below]))] H := hP
        have hD : va_D A [(q_marks, .inl (cI, 150, .inl (upd v_marks ((5 * x1) + x2).toNatClampNeg x3))), (h0, .inr (7, [.int v_riders, .int v_rides, .ref q_riderOf, .ref q_waveOf, .ref q_marks, .int v_lineMany, .ref q_line, .ref q_interfered, .int v_isOpen, .int v_group, .int v_wrong, .ref q_stood, .int v_pastMany, .ref q_past, .int v_days, .ref q_low, .ref q_high, .ref q_was, .ref q_best, .ref q_second, .ref q_total, .ref q_givenTo, .ref q_has, .ref q_own, .ref q_sums, .ref q_below]))] := hD
        refine lv_iload hx hb dX7_mark_53 (lv_at hl 0 rfl) ?_
        have hP : va_P (dC, dI) vwCl [(h0, .inr (7, [.int v_riders, .int v_rides, .ref q_riderOf, .ref q_waveOf, .ref q_marks, .int v_lineMany, .ref q_line, .ref q_interfered, .int v_isOpen, .int v_group, .int v_wrong, .ref q_stood, .int v_pastMany, .ref q_past, .int v_days, .ref q_low, .ref q_high, .ref q_was, .ref q_best, .ref q_second, .ref q_total, .ref q_givenTo, .ref q_has, .ref q_own, .ref q_sums, .ref q_below])), (q_marks, .inl (cI, 150, .inl (upd v_marks ((5 * x1) + x2).toNatClampNeg x3)))] H := hP.sub [1, 0] rfl
        have hD : va_D A [(h0, .inr (7, [.int v_riders, .int v_rides, .ref q_riderOf, .ref q_waveOf, .ref q_marks, .int v_lineMany, .ref q_line, .ref q_interfered, .int v_isOpen, .int v_group, .int v_wrong, .ref q_stood, .int v_pastMany, .ref q_past, .int v_days, .ref q_low, .ref q_high, .ref q_was, .ref q_best, .ref q_second, .ref q_total, .ref q_givenTo, .ref q_has, .ref q_own, .ref q_sums, .ref q_below])), (q_marks, .inl (cI, 150, .inl (upd v_marks ((5 * x1) + x2).toNatClampNeg x3)))] := hD.sub [1, 0] (by decide) rfl
        cases hf
        exact W.iret hx hb hr (fun t ht hW => ⟨⟨_, (), rfl, rfl, by rw [ht]; exact hP, hD⟩, hS.F ht⟩) hS.2.2 dX7_mark_55
      · have hf := it_t h_6 hf
        refine lv_bipush (v := (-9)) hx hb dX7_mark_27 (by decide) ?_
        have hP : va_P (dC, dI) vwCl [(h0, .inr (7, [.int v_riders, .int v_rides, .ref q_riderOf, .ref q_waveOf, .ref q_marks, .int v_lineMany, .ref q_line, .ref q_interfered, .int v_isOpen, .int v_group, .int v_wrong, .ref q_stood, .int v_pastMany, .ref q_past, .int v_days, .ref q_low, .ref q_high, .ref q_was, .ref q_best, .ref q_second, .ref q_total, .ref q_givenTo, .ref q_has, .ref q_own, .ref q_sums, .ref q_below])), (q_marks, .inl (cI, 150, .inl v_marks))] H := hP.sub [1, 0] rfl
        have hD : va_D A [(h0, .inr (7, [.int v_riders, .int v_rides, .ref q_riderOf, .ref q_waveOf, .ref q_marks, .int v_lineMany, .ref q_line, .ref q_interfered, .int v_isOpen, .int v_group, .int v_wrong, .ref q_stood, .int v_pastMany, .ref q_past, .int v_days, .ref q_low, .ref q_high, .ref q_was, .ref q_best, .ref q_second, .ref q_total, .ref q_givenTo, .ref q_has, .ref q_own, .ref q_sums, .ref q_below])), (q_marks, .inl (cI, 150, .inl v_marks))] := hD.sub [1, 0] (by decide) rfl
        cases hf
        exact W.iret hx hb hr (fun t ht hW => ⟨⟨_, (), rfl, rfl, by rw [ht]; exact hP, hD⟩, hS.F ht⟩) hS.2.2 dX7_mark_29
/-! X7_marksOf -/
theorem iw_X7_marksOf_X7 : ∀ w ∈ wsX70, w ∈ wsX7_marksOf := by decide +kernel
set_option maxHeartbeats 4000000 in
set_option maxRecDepth 100000 in
theorem wX7_marksOf_L4 {p : Program} {l : Launch} {e : Env} {s : State} {m : MethodId} {args : Array Value} {below : List Frame} {meth : Method} {c : Code} {dC : Nat → ClassId} {dI : Nat → Nat → Nat} {cI cZ cJ cA : ClassId} {A : Nat → Prop} {h0 : Nat} {v_riders : Int32} {v_rides : Int32} {q_riderOf : Nat} {q_waveOf : Nat} {q_marks : Nat} {v_lineMany : Int32} {q_line : Nat} {q_interfered : Nat} {v_isOpen : Int32} {v_group : Int32} {v_wrong : Int32} {q_stood : Nat} {v_pastMany : Int32} {q_past : Nat} {v_days : Int32} {q_low : Nat} {q_high : Nat} {q_was : Nat} {q_best : Nat} {q_second : Nat} {q_total : Nat} {q_givenTo : Nat} {q_has : Nat} {q_own : Nat} {q_sums : Nat} {q_below : Nat} {v_marks : Nat → Int32} {x1 : Int32} {r0 : Int32} {N : Nat}  (hx : p.tables.exec = Jvm.exec) (hb : c.code = cX7_marksOf) (hr : meth.sig.returnType = (some .int)) (hml : c.maxLocals = 4) (hown : s.vm.findClass RX7 = some m.cls) (hts : ∀ w ∈ wsX7_marksOf, w.before args s = true) (hlocks : meth.locks = false) (hA : ∀ q : Nat, s.heap.size ≤ q → A q) (hK : va_K (dC, dI) vwCl [(cI, .int), (cZ, .boolean), (cJ, .long), (cA, .array .long)] s) : ∀ (n : Nat) (x2 : Int32) (x3 : Int32) (H : Heap) (locs : List Loc) (ls : Array Slot), va_P (dC, dI) vwCl [(h0, .inr (7, [.int v_riders, .int v_rides, .ref q_riderOf, .ref q_waveOf, .ref q_marks, .int v_lineMany, .ref q_line, .ref q_interfered, .int v_isOpen, .int v_group, .int v_wrong, .ref q_stood, .int v_pastMany, .ref q_past, .int v_days, .ref q_low, .ref q_high, .ref q_was, .ref q_best, .ref q_second, .ref q_total, .ref q_givenTo, .ref q_has, .ref q_own, .ref q_sums, .ref q_below])), (q_marks, .inl (cI, 150, .inl v_marks))] H → va_D A [(h0, .inr (7, [.int v_riders, .int v_rides, .ref q_riderOf, .ref q_waveOf, .ref q_marks, .int v_lineMany, .ref q_line, .ref q_interfered, .int v_isOpen, .int v_group, .int v_wrong, .ref q_stood, .int v_pastMany, .ref q_past, .int v_days, .ref q_low, .ref q_high, .ref q_was, .ref q_best, .ref q_second, .ref q_total, .ref q_givenTo, .ref q_has, .ref q_own, .ref q_sums, .ref q_below])), (q_marks, .inl (cI, 150, .inl v_marks))] → va_S A s.heap H locs → lv_has ls 4 [(0, .ref h0), (1, .int x1), (2, .int x2), (3, .int x3)] → fX7_marksOf_L4 N x1 v_marks n x2 x3 = some r0 → W p l e (headSpec wsX7_marksOf ({ frames := 0, cells := 0, slots := 0, locals := 0 })).room s m args below meth c H locs 0 0 (MQ below (va_Qi (fun (r9 : Int32) (_ : Unit) => r0 = r9) (fun _ t => va_P (dC, dI) vwCl [(h0, .inr (7, [.int v_riders, .int v_rides, .ref q_riderOf, .ref q_waveOf, .ref q_marks, .int v_lineMany, .ref q_line, .ref q_interfered, .int v_isOpen, .int v_group, .int v_wrong, .ref q_stood, .int v_pastMany, .ref q_past, .int v_days, .ref q_low, .ref q_high, .ref q_was, .ref q_best, .ref q_second, .ref q_total, .ref q_givenTo, .ref q_has, .ref q_own, .ref q_sums, .ref q_below])), (q_marks, .inl (cI, 150, .inl v_marks))] t.heap ∧ va_D A [(h0, .inr (7, [.int v_riders, .int v_rides, .ref q_riderOf, .ref q_waveOf, .ref q_marks, .int v_lineMany, .ref q_line, .ref q_interfered, .int v_isOpen, .int v_group, .int v_wrong, .ref q_stood, .int v_pastMany, .ref q_past, .int v_days, .ref q_low, .ref q_high, .ref q_was, .ref q_best, .ref q_second, .ref q_total, .ref q_givenTo, .ref q_has, .ref q_own, .ref q_sums, .ref q_below])), (q_marks, .inl (cI, 150, .inl v_marks))]) A) args s 0 0 A) (F0 m 4 ls []) := by
  intro n
  induction n with
  | zero =>
    intro x2 x3 H locs ls hP hD hS hl hf
    exact nomatch (show (none : Option (Int32)) = some r0 from hf)
  | succ n ih =>
    intro x2 x3 H locs ls hP hD hS hl hf
    rw [fX7_marksOf_L4] at hf
    refine lv_iload_n hx hb dX7_marksOf_4 rfl (lv_at hl 3 rfl) ?_
    refine lv_iconst (v := 5) hx hb dX7_marksOf_5 (by decide) ?_
    refine lv_icmp_ge (tgt := 36) hx hb dX7_marksOf_6 (by decide) (fun h_1 => ?_) (fun h_1 => ?_)
    · have hf := it_t h_1 hf
      refine lv_iload_n hx hb dX7_marksOf_36 rfl (lv_at hl 2 rfl) ?_
      cases hf
      exact W.iret hx hb hr (fun t ht hW => ⟨⟨_, (), rfl, rfl, by rw [ht]; exact hP, hD⟩, hS.F ht⟩) hS.2.2 dX7_marksOf_37
    · have hf := it_f h_1 hf
      refine lv_iload_n hx hb dX7_marksOf_9 rfl (lv_at hl 2 rfl) ?_
      refine lv_aload_n hx hb dX7_marksOf_10 rfl (lv_at hl 0 rfl) ?_
      refine va_get (D := (dC, dI)) (ci := 7) (v := .ref q_marks) (C := RX7) (T := TX7) (N := 26) hx hb hts iw_X7_marksOf_X7 hown hK hP 0 rfl rfl 4 (by decide) (hts (.fieldLink RX7 20 "HeatBenchModel" "marks" "[I") (List.mem_of_getElem? (i := 1) rfl)) (fun _ h9 => h9) rfl dX7_marksOf_11 ?_
      refine lv_iconst (v := 5) hx hb dX7_marksOf_14 (by decide) ?_
      refine lv_iload_n hx hb dX7_marksOf_15 rfl (lv_at hl 1 rfl) ?_
      refine lv_imul hx hb dX7_marksOf_16 ?_
      refine lv_iload_n hx hb dX7_marksOf_17 rfl (lv_at hl 3 rfl) ?_
      refine lv_iadd hx hb dX7_marksOf_18 ?_
      obtain ⟨h_2, hf⟩ := it_n hf
      refine va_iald hx hb hK hP 1 0 rfl rfl h_2 dX7_marksOf_19 ?_
      refine lv_if_lt (tgt := 27) hx hb dX7_marksOf_20 (by decide) (fun h_3 => ?_) (fun h_3 => ?_)
      · have hf := it_t h_3 hf
        refine lv_iconst (v := 0) hx hb dX7_marksOf_27 (by decide) ?_
        refine lv_iadd hx hb dX7_marksOf_28 ?_
        refine lv_istore_n (lv' := [(2, .int (x2 + 0)), (0, .ref h0), (1, .int x1), (3, .int x3)]) hx hb dX7_marksOf_29 rfl hl (by decide) rfl (fun ls hl => ?_)
        refine lv_iinc (v := x3 + 1) (lv' := [(3, .int (x3 + 1)), (2, .int (x2 + 0)), (0, .ref h0), (1, .int x1)]) hx hb dX7_marksOf_30 hl (k := 3) rfl rfl (by decide) rfl (fun ls hl => ?_)
        refine lv_goto (tgt := 4) hx hb dX7_marksOf_33 (by decide) ?_
        exact ih (x2 + 0) (x3 + 1) H locs ls hP hD hS (lv_sub hl [2, 3, 1, 0] rfl) hf
      · have hf := it_f h_3 hf
        refine lv_iconst (v := 1) hx hb dX7_marksOf_23 (by decide) ?_
        refine lv_goto (tgt := 28) hx hb dX7_marksOf_24 (by decide) ?_
        refine lv_iadd hx hb dX7_marksOf_28 ?_
        refine lv_istore_n (lv' := [(2, .int (x2 + 1)), (0, .ref h0), (1, .int x1), (3, .int x3)]) hx hb dX7_marksOf_29 rfl hl (by decide) rfl (fun ls hl => ?_)
        refine lv_iinc (v := x3 + 1) (lv' := [(3, .int (x3 + 1)), (2, .int (x2 + 1)), (0, .ref h0), (1, .int x1)]) hx hb dX7_marksOf_30 hl (k := 3) rfl rfl (by decide) rfl (fun ls hl => ?_)
        refine lv_goto (tgt := 4) hx hb dX7_marksOf_33 (by decide) ?_
        exact ih (x2 + 1) (x3 + 1) H locs ls hP hD hS (lv_sub hl [2, 3, 1, 0] rfl) hf
set_option maxHeartbeats 4000000 in
set_option maxRecDepth 100000 in
theorem tX7_marksOf (l : Launch) (dC : Nat → ClassId) (dI : Nat → Nat → Nat) (cI cZ cJ cA : ClassId) (sz : Nat) (h0 : Nat) (v_riders : Int32) (v_rides : Int32) (q_riderOf : Nat) (q_waveOf : Nat) (q_marks : Nat) (v_lineMany : Int32) (q_line : Nat) (q_interfered : Nat) (v_isOpen : Int32) (v_group : Int32) (v_wrong : Int32) (q_stood : Nat) (v_pastMany : Int32) (q_past : Nat) (v_days : Int32) (q_low : Nat) (q_high : Nat) (q_was : Nat) (q_best : Nat) (q_second : Nat) (q_total : Nat) (q_givenTo : Nat) (q_has : Nat) (q_own : Nat) (q_sums : Nat) (q_below : Nat) (v_marks : Nat → Int32) (x1 : Int32) (N : Nat) (r0 : Int32) (hf : fX7_marksOf N x1 v_marks = some r0) : Met l yX7_marksOf wsX7_marksOf ({ frames := 0, cells := 0, slots := 0, locals := 0 }) (va_Pc [.ref h0, .int x1] (fun U => U.heap.size = sz ∧ va_P (dC, dI) vwCl [(h0, .inr (7, [.int v_riders, .int v_rides, .ref q_riderOf, .ref q_waveOf, .ref q_marks, .int v_lineMany, .ref q_line, .ref q_interfered, .int v_isOpen, .int v_group, .int v_wrong, .ref q_stood, .int v_pastMany, .ref q_past, .int v_days, .ref q_low, .ref q_high, .ref q_was, .ref q_best, .ref q_second, .ref q_total, .ref q_givenTo, .ref q_has, .ref q_own, .ref q_sums, .ref q_below])), (q_marks, .inl (cI, 150, .inl v_marks))] U.heap ∧ va_K (dC, dI) vwCl [(cI, .int), (cZ, .boolean), (cJ, .long), (cA, .array .long)] U ∧ va_D (fun _ => True) [(h0, .inr (7, [.int v_riders, .int v_rides, .ref q_riderOf, .ref q_waveOf, .ref q_marks, .int v_lineMany, .ref q_line, .ref q_interfered, .int v_isOpen, .int v_group, .int v_wrong, .ref q_stood, .int v_pastMany, .ref q_past, .int v_days, .ref q_low, .ref q_high, .ref q_was, .ref q_best, .ref q_second, .ref q_total, .ref q_givenTo, .ref q_has, .ref q_own, .ref q_sums, .ref q_below])), (q_marks, .inl (cI, 150, .inl v_marks))])) (va_Qi (fun (r9 : Int32) (_ : Unit) => r0 = r9) (fun _ t => va_P (dC, dI) vwCl [(h0, .inr (7, [.int v_riders, .int v_rides, .ref q_riderOf, .ref q_waveOf, .ref q_marks, .int v_lineMany, .ref q_line, .ref q_interfered, .int v_isOpen, .int v_group, .int v_wrong, .ref q_stood, .int v_pastMany, .ref q_past, .int v_days, .ref q_low, .ref q_high, .ref q_was, .ref q_best, .ref q_second, .ref q_total, .ref q_givenTo, .ref q_has, .ref q_own, .ref q_sums, .ref q_below])), (q_marks, .inl (cI, 150, .inl v_marks))] t.heap ∧ va_D (va_A [(h0, .inr (7, [.int v_riders, .int v_rides, .ref q_riderOf, .ref q_waveOf, .ref q_marks, .int v_lineMany, .ref q_line, .ref q_interfered, .int v_isOpen, .int v_group, .int v_wrong, .ref q_stood, .int v_pastMany, .ref q_past, .int v_days, .ref q_low, .ref q_high, .ref q_was, .ref q_best, .ref q_second, .ref q_total, .ref q_givenTo, .ref q_has, .ref q_own, .ref q_sums, .ref q_below])), (q_marks, .inl (cI, 150, .inl v_marks))] sz) [(h0, .inr (7, [.int v_riders, .int v_rides, .ref q_riderOf, .ref q_waveOf, .ref q_marks, .int v_lineMany, .ref q_line, .ref q_interfered, .int v_isOpen, .int v_group, .int v_wrong, .ref q_stood, .int v_pastMany, .ref q_past, .int v_days, .ref q_low, .ref q_high, .ref q_was, .ref q_best, .ref q_second, .ref q_total, .ref q_givenTo, .ref q_has, .ref q_own, .ref q_sums, .ref q_below])), (q_marks, .inl (cI, 150, .inl v_marks))]) (va_A [(h0, .inr (7, [.int v_riders, .int v_rides, .ref q_riderOf, .ref q_waveOf, .ref q_marks, .int v_lineMany, .ref q_line, .ref q_interfered, .int v_isOpen, .int v_group, .int v_wrong, .ref q_stood, .int v_pastMany, .ref q_past, .int v_days, .ref q_low, .ref q_high, .ref q_was, .ref q_best, .ref q_second, .ref q_total, .ref q_givenTo, .ref q_has, .ref q_own, .ref q_sums, .ref q_below])), (q_marks, .inl (cI, 150, .inl v_marks))] sz)) 0 0 (va_A [(h0, .inr (7, [.int v_riders, .int v_rides, .ref q_riderOf, .ref q_waveOf, .ref q_marks, .int v_lineMany, .ref q_line, .ref q_interfered, .int v_isOpen, .int v_group, .int v_wrong, .ref q_stood, .int v_pastMany, .ref q_past, .int v_days, .ref q_low, .ref q_high, .ref q_was, .ref q_best, .ref q_second, .ref q_total, .ref q_givenTo, .ref q_has, .ref q_own, .ref q_sums, .ref q_below])), (q_marks, .inl (cI, 150, .inl v_marks))] sz) := by
  refine Met.ofW (cc := cX7_marksOf) (maxL := 4) (ret := (some .int)) (by decide) rfl ?_
  intro p e s m args below meth c s₁ B hml hv
  obtain ⟨rfl, hsz, hP, hK, hD0⟩ := hv
  have hx := B.exec
  have hb := B.bytes
  have hr := B.returns
  have hts := atoms_spec (ws := wsX7_marksOf) B.pre
  have hown : s.vm.findClass RX7 = some m.cls := findClass_of_methodNamed B.named
  have hlocks := B.notSynchronized
  subst hsz
  have hD := hD0.self (sz := s.heap.size)
  generalize hAe : va_A [(h0, .inr (7, [.int v_riders, .int v_rides, .ref q_riderOf, .ref q_waveOf, .ref q_marks, .int v_lineMany, .ref q_line, .ref q_interfered, .int v_isOpen, .int v_group, .int v_wrong, .ref q_stood, .int v_pastMany, .ref q_past, .int v_days, .ref q_low, .ref q_high, .ref q_was, .ref q_best, .ref q_second, .ref q_total, .ref q_givenTo, .ref q_has, .ref q_own, .ref q_sums, .ref q_below])), (q_marks, .inl (cI, 150, .inl v_marks))] s.heap.size = A at hD ⊢
  have hA : ∀ q : Nat, s.heap.size ≤ q → A q := fun q h => by rw [← hAe]; exact Or.inr h
  have hS : va_S A s.heap s.heap [] := va_S.rf
  have hl := lv_entry ([.ref h0, .int x1]) (n := 4) (Nat.le_of_ble_eq_true rfl)
  rw [lg_entry_eq]
  generalize (lg_sl ([.ref h0, .int x1]) ++ List.replicate (4 - (lg_sl ([.ref h0, .int x1])).length) Slot.unset).toArray = ls at hl ⊢
  have hl : lv_has ls 4 [(0, .ref h0), (1, .int x1)] := hl
  refine vx_gen hP hS (fun H locs hP hS => ?_)
  unfold fX7_marksOf at hf
  refine lv_iconst (v := 0) hx hb dX7_marksOf_0 (by decide) ?_
  refine lv_istore_n (lv' := [(2, .int 0), (0, .ref h0), (1, .int x1)]) hx hb dX7_marksOf_1 rfl hl (by decide) rfl (fun ls hl => ?_)
  refine lv_iconst (v := 0) hx hb dX7_marksOf_2 (by decide) ?_
  refine lv_istore_n (lv' := [(3, .int 0), (2, .int 0), (0, .ref h0), (1, .int x1)]) hx hb dX7_marksOf_3 rfl hl (by decide) rfl (fun ls hl => ?_)
  exact wX7_marksOf_L4 hx hb hr hml hown hts hlocks hA hK N 0 0 H locs ls hP hD hS (lv_sub hl [2, 3, 1, 0] rfl) hf
/-! X7_scoreOf -/
theorem iw_X7_scoreOf_X7 : ∀ w ∈ wsX70, w ∈ wsX7_scoreOf := by decide +kernel
set_option maxHeartbeats 4000000 in
set_option maxRecDepth 100000 in
theorem wX7_scoreOf_L14 {p : Program} {l : Launch} {e : Env} {s : State} {m : MethodId} {args : Array Value} {below : List Frame} {meth : Method} {c : Code} {dC : Nat → ClassId} {dI : Nat → Nat → Nat} {cI cZ cJ cA : ClassId} {A : Nat → Prop} {h0 : Nat} {v_riders : Int32} {v_rides : Int32} {q_riderOf : Nat} {q_waveOf : Nat} {q_marks : Nat} {v_lineMany : Int32} {q_line : Nat} {q_interfered : Nat} {v_isOpen : Int32} {v_group : Int32} {v_wrong : Int32} {q_stood : Nat} {v_pastMany : Int32} {q_past : Nat} {v_days : Int32} {q_low : Nat} {q_high : Nat} {q_was : Nat} {q_best : Nat} {q_second : Nat} {q_total : Nat} {q_givenTo : Nat} {q_has : Nat} {q_own : Nat} {q_sums : Nat} {q_below : Nat} {v_marks : Nat → Int32} {x1 : Int32} {r0 : Int32} {N : Nat} {k : Int32 → Int32 → Int32 → Int32 → Int32 → Option (Int32)} (hx : p.tables.exec = Jvm.exec) (hb : c.code = cX7_scoreOf) (hr : meth.sig.returnType = (some .int)) (hml : c.maxLocals = 8) (hown : s.vm.findClass RX7 = some m.cls) (hts : ∀ w ∈ wsX7_scoreOf, w.before args s = true) (hlocks : meth.locks = false) (hA : ∀ q : Nat, s.heap.size ≤ q → A q) (hK : va_K (dC, dI) vwCl [(cI, .int), (cZ, .boolean), (cJ, .long), (cA, .array .long)] s) : ∀ (n : Nat) (x2 : Int32) (x3 : Int32) (x4 : Int32) (x5 : Int32) (x6 : Int32) (H : Heap) (locs : List Loc) (ls : Array Slot), va_P (dC, dI) vwCl [(h0, .inr (7, [.int v_riders, .int v_rides, .ref q_riderOf, .ref q_waveOf, .ref q_marks, .int v_lineMany, .ref q_line, .ref q_interfered, .int v_isOpen, .int v_group, .int v_wrong, .ref q_stood, .int v_pastMany, .ref q_past, .int v_days, .ref q_low, .ref q_high, .ref q_was, .ref q_best, .ref q_second, .ref q_total, .ref q_givenTo, .ref q_has, .ref q_own, .ref q_sums, .ref q_below])), (q_marks, .inl (cI, 150, .inl v_marks))] H → va_D A [(h0, .inr (7, [.int v_riders, .int v_rides, .ref q_riderOf, .ref q_waveOf, .ref q_marks, .int v_lineMany, .ref q_line, .ref q_interfered, .int v_isOpen, .int v_group, .int v_wrong, .ref q_stood, .int v_pastMany, .ref q_past, .int v_days, .ref q_low, .ref q_high, .ref q_was, .ref q_best, .ref q_second, .ref q_total, .ref q_givenTo, .ref q_has, .ref q_own, .ref q_sums, .ref q_below])), (q_marks, .inl (cI, 150, .inl v_marks))] → va_S A s.heap H locs → lv_has ls 8 [(0, .ref h0), (1, .int x1), (2, .int x2), (3, .int x3), (4, .int x4), (5, .int x5), (6, .int x6)] → fX7_scoreOf_L14 N x1 v_marks k n x2 x3 x4 x5 x6 = some r0 → (∀ (x2' : Int32) (x3' : Int32) (x4' : Int32) (x5' : Int32) (x6' : Int32) (H : Heap) (locs : List Loc) (ls : Array Slot), va_P (dC, dI) vwCl [(h0, .inr (7, [.int v_riders, .int v_rides, .ref q_riderOf, .ref q_waveOf, .ref q_marks, .int v_lineMany, .ref q_line, .ref q_interfered, .int v_isOpen, .int v_group, .int v_wrong, .ref q_stood, .int v_pastMany, .ref q_past, .int v_days, .ref q_low, .ref q_high, .ref q_was, .ref q_best, .ref q_second, .ref q_total, .ref q_givenTo, .ref q_has, .ref q_own, .ref q_sums, .ref q_below])), (q_marks, .inl (cI, 150, .inl v_marks))] H → va_D A [(h0, .inr (7, [.int v_riders, .int v_rides, .ref q_riderOf, .ref q_waveOf, .ref q_marks, .int v_lineMany, .ref q_line, .ref q_interfered, .int v_isOpen, .int v_group, .int v_wrong, .ref q_stood, .int v_pastMany, .ref q_past, .int v_days, .ref q_low, .ref q_high, .ref q_was, .ref q_best, .ref q_second, .ref q_total, .ref q_givenTo, .ref q_has, .ref q_own, .ref q_sums, .ref q_below])), (q_marks, .inl (cI, 150, .inl v_marks))] → va_S A s.heap H locs → lv_has ls 8 [(2, .int x2'), (3, .int x3'), (4, .int x4'), (5, .int x5')] → k x2' x3' x4' x5' x6' = some r0 → W p l e (headSpec wsX7_scoreOf ({ frames := 0, cells := 0, slots := 0, locals := 0 })).room s m args below meth c H locs 0 0 (MQ below (va_Qi (fun (r9 : Int32) (_ : Unit) => r0 = r9) (fun _ t => va_P (dC, dI) vwCl [(h0, .inr (7, [.int v_riders, .int v_rides, .ref q_riderOf, .ref q_waveOf, .ref q_marks, .int v_lineMany, .ref q_line, .ref q_interfered, .int v_isOpen, .int v_group, .int v_wrong, .ref q_stood, .int v_pastMany, .ref q_past, .int v_days, .ref q_low, .ref q_high, .ref q_was, .ref q_best, .ref q_second, .ref q_total, .ref q_givenTo, .ref q_has, .ref q_own, .ref q_sums, .ref q_below])), (q_marks, .inl (cI, 150, .inl v_marks))] t.heap ∧ va_D A [(h0, .inr (7, [.int v_riders, .int v_rides, .ref q_riderOf, .ref q_waveOf, .ref q_marks, .int v_lineMany, .ref q_line, .ref q_interfered, .int v_isOpen, .int v_group, .int v_wrong, .ref q_stood, .int v_pastMany, .ref q_past, .int v_days, .ref q_low, .ref q_high, .ref q_was, .ref q_best, .ref q_second, .ref q_total, .ref q_givenTo, .ref q_has, .ref q_own, .ref q_sums, .ref q_below])), (q_marks, .inl (cI, 150, .inl v_marks))]) A) args s 0 0 A) (F0 m 84 ls [])) → W p l e (headSpec wsX7_scoreOf ({ frames := 0, cells := 0, slots := 0, locals := 0 })).room s m args below meth c H locs 0 0 (MQ below (va_Qi (fun (r9 : Int32) (_ : Unit) => r0 = r9) (fun _ t => va_P (dC, dI) vwCl [(h0, .inr (7, [.int v_riders, .int v_rides, .ref q_riderOf, .ref q_waveOf, .ref q_marks, .int v_lineMany, .ref q_line, .ref q_interfered, .int v_isOpen, .int v_group, .int v_wrong, .ref q_stood, .int v_pastMany, .ref q_past, .int v_days, .ref q_low, .ref q_high, .ref q_was, .ref q_best, .ref q_second, .ref q_total, .ref q_givenTo, .ref q_has, .ref q_own, .ref q_sums, .ref q_below])), (q_marks, .inl (cI, 150, .inl v_marks))] t.heap ∧ va_D A [(h0, .inr (7, [.int v_riders, .int v_rides, .ref q_riderOf, .ref q_waveOf, .ref q_marks, .int v_lineMany, .ref q_line, .ref q_interfered, .int v_isOpen, .int v_group, .int v_wrong, .ref q_stood, .int v_pastMany, .ref q_past, .int v_days, .ref q_low, .ref q_high, .ref q_was, .ref q_best, .ref q_second, .ref q_total, .ref q_givenTo, .ref q_has, .ref q_own, .ref q_sums, .ref q_below])), (q_marks, .inl (cI, 150, .inl v_marks))]) A) args s 0 0 A) (F0 m 14 ls []) := by
  intro n
  induction n with
  | zero =>
    intro x2 x3 x4 x5 x6 H locs ls hP hD hS hl hf kk
    exact nomatch (show (none : Option (Int32)) = some r0 from hf)
  | succ n ih =>
    intro x2 x3 x4 x5 x6 H locs ls hP hD hS hl hf kk
    rw [fX7_scoreOf_L14] at hf
    refine lv_iload hx hb dX7_scoreOf_14 (lv_at hl 6 rfl) ?_
    refine lv_iconst (v := 5) hx hb dX7_scoreOf_16 (by decide) ?_
    refine lv_icmp_ge (tgt := 84) hx hb dX7_scoreOf_17 (by decide) (fun h_1 => ?_) (fun h_1 => ?_)
    · have hf := it_t h_1 hf
      exact kk x2 x3 x4 x5 x6 H locs ls hP hD hS (lv_sub hl [2, 3, 4, 5] rfl) hf
    · have hf := it_f h_1 hf
      refine lv_aload_n hx hb dX7_scoreOf_20 rfl (lv_at hl 0 rfl) ?_
      refine va_get (D := (dC, dI)) (ci := 7) (v := .ref q_marks) (C := RX7) (T := TX7) (N := 26) hx hb hts iw_X7_scoreOf_X7 hown hK hP 0 rfl rfl 4 (by decide) (hts (.fieldLink RX7 20 "HeatBenchModel" "marks" "[I") (List.mem_of_getElem? (i := 1) rfl)) (fun _ h9 => h9) rfl dX7_scoreOf_21 ?_
      refine lv_iconst (v := 5) hx hb dX7_scoreOf_24 (by decide) ?_
      refine lv_iload_n hx hb dX7_scoreOf_25 rfl (lv_at hl 1 rfl) ?_
      refine lv_imul hx hb dX7_scoreOf_26 ?_
      refine lv_iload hx hb dX7_scoreOf_27 (lv_at hl 6 rfl) ?_
      refine lv_iadd hx hb dX7_scoreOf_29 ?_
      obtain ⟨h_2, hf⟩ := it_n hf
      refine va_iald hx hb hK hP 1 0 rfl rfl h_2 dX7_scoreOf_30 ?_
      refine lv_istore (lv' := [(7, .int (v_marks ((5 * x1) + x6).toNatClampNeg)), (0, .ref h0), (1, .int x1), (2, .int x2), (3, .int x3), (4, .int x4), (5, .int x5), (6, .int x6)]) hx hb dX7_scoreOf_31 hl (by decide) rfl (fun ls hl => ?_)
      refine lv_iload hx hb dX7_scoreOf_33 (lv_at hl 0 rfl) ?_
      refine lv_if_lt (tgt := 78) hx hb dX7_scoreOf_35 (by decide) (fun h_3 => ?_) (fun h_3 => ?_)
      · have hf := it_t h_3 hf
        refine lv_iinc (v := x6 + 1) (lv' := [(6, .int (x6 + 1)), (7, .int (v_marks ((5 * x1) + x6).toNatClampNeg)), (0, .ref h0), (1, .int x1), (2, .int x2), (3, .int x3), (4, .int x4), (5, .int x5)]) hx hb dX7_scoreOf_78 hl (k := 7) rfl rfl (by decide) rfl (fun ls hl => ?_)
        refine lv_goto (tgt := 14) hx hb dX7_scoreOf_81 (by decide) ?_
        exact ih x2 x3 x4 x5 (x6 + 1) H locs ls hP hD hS (lv_sub hl [2, 3, 4, 5, 6, 7, 0] rfl) hf kk
      · have hf := it_f h_3 hf
        refine lv_iinc (v := x2 + 1) (lv' := [(2, .int (x2 + 1)), (7, .int (v_marks ((5 * x1) + x6).toNatClampNeg)), (0, .ref h0), (1, .int x1), (3, .int x3), (4, .int x4), (5, .int x5), (6, .int x6)]) hx hb dX7_scoreOf_38 hl (k := 3) rfl rfl (by decide) rfl (fun ls hl => ?_)
        refine lv_iload_n hx hb dX7_scoreOf_41 rfl (lv_at hl 4 rfl) ?_
        refine lv_iload hx hb dX7_scoreOf_42 (lv_at hl 1 rfl) ?_
        refine lv_iadd hx hb dX7_scoreOf_44 ?_
        refine lv_istore_n (lv' := [(3, .int (x3 + (v_marks ((5 * x1) + x6).toNatClampNeg))), (2, .int (x2 + 1)), (7, .int (v_marks ((5 * x1) + x6).toNatClampNeg)), (0, .ref h0), (1, .int x1), (4, .int x4), (5, .int x5), (6, .int x6)]) hx hb dX7_scoreOf_45 rfl hl (by decide) rfl (fun ls hl => ?_)
        refine lv_iload hx hb dX7_scoreOf_46 (lv_at hl 2 rfl) ?_
        refine lv_iload hx hb dX7_scoreOf_48 (lv_at hl 5 rfl) ?_
        refine lv_icmp_ge (tgt := 58) hx hb dX7_scoreOf_50 (by decide) (fun h_4 => ?_) (fun h_4 => ?_)
        · have hf := it_t h_4 hf
          refine lv_iload hx hb dX7_scoreOf_58 (lv_at hl 5 rfl) ?_
          refine lv_istore (lv' := [(4, .int x4), (3, .int (x3 + (v_marks ((5 * x1) + x6).toNatClampNeg))), (2, .int (x2 + 1)), (7, .int (v_marks ((5 * x1) + x6).toNatClampNeg)), (0, .ref h0), (1, .int x1), (5, .int x5), (6, .int x6)]) hx hb dX7_scoreOf_60 hl (by decide) rfl (fun ls hl => ?_)
          refine lv_iload hx hb dX7_scoreOf_62 (lv_at hl 3 rfl) ?_
          refine lv_iload hx hb dX7_scoreOf_64 (lv_at hl 6 rfl) ?_
          refine lv_icmp_le (tgt := 74) hx hb dX7_scoreOf_66 (by decide) (fun h_5 => ?_) (fun h_5 => ?_)
          · have hf := it_t h_5 hf
            refine lv_iload hx hb dX7_scoreOf_74 (lv_at hl 6 rfl) ?_
            refine lv_istore (lv' := [(5, .int x5), (4, .int x4), (3, .int (x3 + (v_marks ((5 * x1) + x6).toNatClampNeg))), (2, .int (x2 + 1)), (7, .int (v_marks ((5 * x1) + x6).toNatClampNeg)), (0, .ref h0), (1, .int x1), (6, .int x6)]) hx hb dX7_scoreOf_76 hl (by decide) rfl (fun ls hl => ?_)
            refine lv_iinc (v := x6 + 1) (lv' := [(6, .int (x6 + 1)), (5, .int x5), (4, .int x4), (3, .int (x3 + (v_marks ((5 * x1) + x6).toNatClampNeg))), (2, .int (x2 + 1)), (7, .int (v_marks ((5 * x1) + x6).toNatClampNeg)), (0, .ref h0), (1, .int x1)]) hx hb dX7_scoreOf_78 hl (k := 7) rfl rfl (by decide) rfl (fun ls hl => ?_)
            refine lv_goto (tgt := 14) hx hb dX7_scoreOf_81 (by decide) ?_
            exact ih (x2 + 1) (x3 + (v_marks ((5 * x1) + x6).toNatClampNeg)) x4 x5 (x6 + 1) H locs ls hP hD hS (lv_sub hl [6, 7, 4, 3, 2, 1, 0] rfl) hf kk
          · have hf := it_f h_5 hf
            refine lv_iload hx hb dX7_scoreOf_69 (lv_at hl 3 rfl) ?_
            refine lv_goto (tgt := 76) hx hb dX7_scoreOf_71 (by decide) ?_
            refine lv_istore (lv' := [(5, .int (v_marks ((5 * x1) + x6).toNatClampNeg)), (4, .int x4), (3, .int (x3 + (v_marks ((5 * x1) + x6).toNatClampNeg))), (2, .int (x2 + 1)), (7, .int (v_marks ((5 * x1) + x6).toNatClampNeg)), (0, .ref h0), (1, .int x1), (6, .int x6)]) hx hb dX7_scoreOf_76 hl (by decide) rfl (fun ls hl => ?_)
            refine lv_iinc (v := x6 + 1) (lv' := [(6, .int (x6 + 1)), (5, .int (v_marks ((5 * x1) + x6).toNatClampNeg)), (4, .int x4), (3, .int (x3 + (v_marks ((5 * x1) + x6).toNatClampNeg))), (2, .int (x2 + 1)), (7, .int (v_marks ((5 * x1) + x6).toNatClampNeg)), (0, .ref h0), (1, .int x1)]) hx hb dX7_scoreOf_78 hl (k := 7) rfl rfl (by decide) rfl (fun ls hl => ?_)
            refine lv_goto (tgt := 14) hx hb dX7_scoreOf_81 (by decide) ?_
            exact ih (x2 + 1) (x3 + (v_marks ((5 * x1) + x6).toNatClampNeg)) x4 (v_marks ((5 * x1) + x6).toNatClampNeg) (x6 + 1) H locs ls hP hD hS (lv_sub hl [6, 7, 4, 3, 2, 1, 0] rfl) hf kk
        · have hf := it_f h_4 hf
          refine lv_iload hx hb dX7_scoreOf_53 (lv_at hl 2 rfl) ?_
          refine lv_goto (tgt := 60) hx hb dX7_scoreOf_55 (by decide) ?_
          refine lv_istore (lv' := [(4, .int (v_marks ((5 * x1) + x6).toNatClampNeg)), (3, .int (x3 + (v_marks ((5 * x1) + x6).toNatClampNeg))), (2, .int (x2 + 1)), (7, .int (v_marks ((5 * x1) + x6).toNatClampNeg)), (0, .ref h0), (1, .int x1), (5, .int x5), (6, .int x6)]) hx hb dX7_scoreOf_60 hl (by decide) rfl (fun ls hl => ?_)
          refine lv_iload hx hb dX7_scoreOf_62 (lv_at hl 3 rfl) ?_
          refine lv_iload hx hb dX7_scoreOf_64 (lv_at hl 6 rfl) ?_
          refine lv_icmp_le (tgt := 74) hx hb dX7_scoreOf_66 (by decide) (fun h_6 => ?_) (fun h_6 => ?_)
          · have hf := it_t h_6 hf
            refine lv_iload hx hb dX7_scoreOf_74 (lv_at hl 6 rfl) ?_
            refine lv_istore (lv' := [(5, .int x5), (4, .int (v_marks ((5 * x1) + x6).toNatClampNeg)), (3, .int (x3 + (v_marks ((5 * x1) + x6).toNatClampNeg))), (2, .int (x2 + 1)), (7, .int (v_marks ((5 * x1) + x6).toNatClampNeg)), (0, .ref h0), (1, .int x1), (6, .int x6)]) hx hb dX7_scoreOf_76 hl (by decide) rfl (fun ls hl => ?_)
            refine lv_iinc (v := x6 + 1) (lv' := [(6, .int (x6 + 1)), (5, .int x5), (4, .int (v_marks ((5 * x1) + x6).toNatClampNeg)), (3, .int (x3 + (v_marks ((5 * x1) + x6).toNatClampNeg))), (2, .int (x2 + 1)), (7, .int (v_marks ((5 * x1) + x6).toNatClampNeg)), (0, .ref h0), (1, .int x1)]) hx hb dX7_scoreOf_78 hl (k := 7) rfl rfl (by decide) rfl (fun ls hl => ?_)
            refine lv_goto (tgt := 14) hx hb dX7_scoreOf_81 (by decide) ?_
            exact ih (x2 + 1) (x3 + (v_marks ((5 * x1) + x6).toNatClampNeg)) (v_marks ((5 * x1) + x6).toNatClampNeg) x5 (x6 + 1) H locs ls hP hD hS (lv_sub hl [6, 7, 4, 3, 2, 1, 0] rfl) hf kk
          · have hf := it_f h_6 hf
            refine lv_iload hx hb dX7_scoreOf_69 (lv_at hl 3 rfl) ?_
            refine lv_goto (tgt := 76) hx hb dX7_scoreOf_71 (by decide) ?_
            refine lv_istore (lv' := [(5, .int (v_marks ((5 * x1) + x6).toNatClampNeg)), (4, .int (v_marks ((5 * x1) + x6).toNatClampNeg)), (3, .int (x3 + (v_marks ((5 * x1) + x6).toNatClampNeg))), (2, .int (x2 + 1)), (7, .int (v_marks ((5 * x1) + x6).toNatClampNeg)), (0, .ref h0), (1, .int x1), (6, .int x6)]) hx hb dX7_scoreOf_76 hl (by decide) rfl (fun ls hl => ?_)
            refine lv_iinc (v := x6 + 1) (lv' := [(6, .int (x6 + 1)), (5, .int (v_marks ((5 * x1) + x6).toNatClampNeg)), (4, .int (v_marks ((5 * x1) + x6).toNatClampNeg)), (3, .int (x3 + (v_marks ((5 * x1) + x6).toNatClampNeg))), (2, .int (x2 + 1)), (7, .int (v_marks ((5 * x1) + x6).toNatClampNeg)), (0, .ref h0), (1, .int x1)]) hx hb dX7_scoreOf_78 hl (k := 7) rfl rfl (by decide) rfl (fun ls hl => ?_)
            refine lv_goto (tgt := 14) hx hb dX7_scoreOf_81 (by decide) ?_
            exact ih (x2 + 1) (x3 + (v_marks ((5 * x1) + x6).toNatClampNeg)) (v_marks ((5 * x1) + x6).toNatClampNeg) (v_marks ((5 * x1) + x6).toNatClampNeg) (x6 + 1) H locs ls hP hD hS (lv_sub hl [6, 7, 4, 3, 2, 1, 0] rfl) hf kk
set_option maxHeartbeats 4000000 in
set_option maxRecDepth 100000 in
theorem tX7_scoreOf (l : Launch) (dC : Nat → ClassId) (dI : Nat → Nat → Nat) (cI cZ cJ cA : ClassId) (sz : Nat) (h0 : Nat) (v_riders : Int32) (v_rides : Int32) (q_riderOf : Nat) (q_waveOf : Nat) (q_marks : Nat) (v_lineMany : Int32) (q_line : Nat) (q_interfered : Nat) (v_isOpen : Int32) (v_group : Int32) (v_wrong : Int32) (q_stood : Nat) (v_pastMany : Int32) (q_past : Nat) (v_days : Int32) (q_low : Nat) (q_high : Nat) (q_was : Nat) (q_best : Nat) (q_second : Nat) (q_total : Nat) (q_givenTo : Nat) (q_has : Nat) (q_own : Nat) (q_sums : Nat) (q_below : Nat) (v_marks : Nat → Int32) (x1 : Int32) (N : Nat) (r0 : Int32) (hf : fX7_scoreOf N x1 v_marks = some r0) : Met l yX7_scoreOf wsX7_scoreOf ({ frames := 0, cells := 0, slots := 0, locals := 0 }) (va_Pc [.ref h0, .int x1] (fun U => U.heap.size = sz ∧ va_P (dC, dI) vwCl [(h0, .inr (7, [.int v_riders, .int v_rides, .ref q_riderOf, .ref q_waveOf, .ref q_marks, .int v_lineMany, .ref q_line, .ref q_interfered, .int v_isOpen, .int v_group, .int v_wrong, .ref q_stood, .int v_pastMany, .ref q_past, .int v_days, .ref q_low, .ref q_high, .ref q_was, .ref q_best, .ref q_second, .ref q_total, .ref q_givenTo, .ref q_has, .ref q_own, .ref q_sums, .ref q_below])), (q_marks, .inl (cI, 150, .inl v_marks))] U.heap ∧ va_K (dC, dI) vwCl [(cI, .int), (cZ, .boolean), (cJ, .long), (cA, .array .long)] U ∧ va_D (fun _ => True) [(h0, .inr (7, [.int v_riders, .int v_rides, .ref q_riderOf, .ref q_waveOf, .ref q_marks, .int v_lineMany, .ref q_line, .ref q_interfered, .int v_isOpen, .int v_group, .int v_wrong, .ref q_stood, .int v_pastMany, .ref q_past, .int v_days, .ref q_low, .ref q_high, .ref q_was, .ref q_best, .ref q_second, .ref q_total, .ref q_givenTo, .ref q_has, .ref q_own, .ref q_sums, .ref q_below])), (q_marks, .inl (cI, 150, .inl v_marks))])) (va_Qi (fun (r9 : Int32) (_ : Unit) => r0 = r9) (fun _ t => va_P (dC, dI) vwCl [(h0, .inr (7, [.int v_riders, .int v_rides, .ref q_riderOf, .ref q_waveOf, .ref q_marks, .int v_lineMany, .ref q_line, .ref q_interfered, .int v_isOpen, .int v_group, .int v_wrong, .ref q_stood, .int v_pastMany, .ref q_past, .int v_days, .ref q_low, .ref q_high, .ref q_was, .ref q_best, .ref q_second, .ref q_total, .ref q_givenTo, .ref q_has, .ref q_own, .ref q_sums, .ref q_below])), (q_marks, .inl (cI, 150, .inl v_marks))] t.heap ∧ va_D (va_A [(h0, .inr (7, [.int v_riders, .int v_rides, .ref q_riderOf, .ref q_waveOf, .ref q_marks, .int v_lineMany, .ref q_line, .ref q_interfered, .int v_isOpen, .int v_group, .int v_wrong, .ref q_stood, .int v_pastMany, .ref q_past, .int v_days, .ref q_low, .ref q_high, .ref q_was, .ref q_best, .ref q_second, .ref q_total, .ref q_givenTo, .ref q_has, .ref q_own, .ref q_sums, .ref q_below])), (q_marks, .inl (cI, 150, .inl v_marks))] sz) [(h0, .inr (7, [.int v_riders, .int v_rides, .ref q_riderOf, .ref q_waveOf, .ref q_marks, .int v_lineMany, .ref q_line, .ref q_interfered, .int v_isOpen, .int v_group, .int v_wrong, .ref q_stood, .int v_pastMany, .ref q_past, .int v_days, .ref q_low, .ref q_high, .ref q_was, .ref q_best, .ref q_second, .ref q_total, .ref q_givenTo, .ref q_has, .ref q_own, .ref q_sums, .ref q_below])), (q_marks, .inl (cI, 150, .inl v_marks))]) (va_A [(h0, .inr (7, [.int v_riders, .int v_rides, .ref q_riderOf, .ref q_waveOf, .ref q_marks, .int v_lineMany, .ref q_line, .ref q_interfered, .int v_isOpen, .int v_group, .int v_wrong, .ref q_stood, .int v_pastMany, .ref q_past, .int v_days, .ref q_low, .ref q_high, .ref q_was, .ref q_best, .ref q_second, .ref q_total, .ref q_givenTo, .ref q_has, .ref q_own, .ref q_sums, .ref q_below])), (q_marks, .inl (cI, 150, .inl v_marks))] sz)) 0 0 (va_A [(h0, .inr (7, [.int v_riders, .int v_rides, .ref q_riderOf, .ref q_waveOf, .ref q_marks, .int v_lineMany, .ref q_line, .ref q_interfered, .int v_isOpen, .int v_group, .int v_wrong, .ref q_stood, .int v_pastMany, .ref q_past, .int v_days, .ref q_low, .ref q_high, .ref q_was, .ref q_best, .ref q_second, .ref q_total, .ref q_givenTo, .ref q_has, .ref q_own, .ref q_sums, .ref q_below])), (q_marks, .inl (cI, 150, .inl v_marks))] sz) := by
  refine Met.ofW (cc := cX7_scoreOf) (maxL := 8) (ret := (some .int)) (by decide) rfl ?_
  intro p e s m args below meth c s₁ B hml hv
  obtain ⟨rfl, hsz, hP, hK, hD0⟩ := hv
  have hx := B.exec
  have hb := B.bytes
  have hr := B.returns
  have hts := atoms_spec (ws := wsX7_scoreOf) B.pre
  have hown : s.vm.findClass RX7 = some m.cls := findClass_of_methodNamed B.named
  have hlocks := B.notSynchronized
  subst hsz
  have hD := hD0.self (sz := s.heap.size)
  generalize hAe : va_A [(h0, .inr (7, [.int v_riders, .int v_rides, .ref q_riderOf, .ref q_waveOf, .ref q_marks, .int v_lineMany, .ref q_line, .ref q_interfered, .int v_isOpen, .int v_group, .int v_wrong, .ref q_stood, .int v_pastMany, .ref q_past, .int v_days, .ref q_low, .ref q_high, .ref q_was, .ref q_best, .ref q_second, .ref q_total, .ref q_givenTo, .ref q_has, .ref q_own, .ref q_sums, .ref q_below])), (q_marks, .inl (cI, 150, .inl v_marks))] s.heap.size = A at hD ⊢
  have hA : ∀ q : Nat, s.heap.size ≤ q → A q := fun q h => by rw [← hAe]; exact Or.inr h
  have hS : va_S A s.heap s.heap [] := va_S.rf
  have hl := lv_entry ([.ref h0, .int x1]) (n := 8) (Nat.le_of_ble_eq_true rfl)
  rw [lg_entry_eq]
  generalize (lg_sl ([.ref h0, .int x1]) ++ List.replicate (8 - (lg_sl ([.ref h0, .int x1])).length) Slot.unset).toArray = ls at hl ⊢
  have hl : lv_has ls 8 [(0, .ref h0), (1, .int x1)] := hl
  refine vx_gen hP hS (fun H locs hP hS => ?_)
  unfold fX7_scoreOf at hf
  refine lv_iconst (v := 0) hx hb dX7_scoreOf_0 (by decide) ?_
  refine lv_istore_n (lv' := [(2, .int 0), (0, .ref h0), (1, .int x1)]) hx hb dX7_scoreOf_1 rfl hl (by decide) rfl (fun ls hl => ?_)
  refine lv_iconst (v := 0) hx hb dX7_scoreOf_2 (by decide) ?_
  refine lv_istore_n (lv' := [(3, .int 0), (2, .int 0), (0, .ref h0), (1, .int x1)]) hx hb dX7_scoreOf_3 rfl hl (by decide) rfl (fun ls hl => ?_)
  refine lv_bipush (v := 101) hx hb dX7_scoreOf_4 (by decide) ?_
  refine lv_istore (lv' := [(4, .int 101), (3, .int 0), (2, .int 0), (0, .ref h0), (1, .int x1)]) hx hb dX7_scoreOf_6 hl (by decide) rfl (fun ls hl => ?_)
  refine lv_iconst (v := (-1)) hx hb dX7_scoreOf_8 (by decide) ?_
  refine lv_istore (lv' := [(5, .int (-1)), (4, .int 101), (3, .int 0), (2, .int 0), (0, .ref h0), (1, .int x1)]) hx hb dX7_scoreOf_9 hl (by decide) rfl (fun ls hl => ?_)
  refine lv_iconst (v := 0) hx hb dX7_scoreOf_11 (by decide) ?_
  refine lv_istore (lv' := [(6, .int 0), (5, .int (-1)), (4, .int 101), (3, .int 0), (2, .int 0), (0, .ref h0), (1, .int x1)]) hx hb dX7_scoreOf_12 hl (by decide) rfl (fun ls hl => ?_)
  refine wX7_scoreOf_L14 hx hb hr hml hown hts hlocks hA hK N 0 0 101 (-1) 0 H locs ls hP hD hS (lv_sub hl [5, 6, 4, 3, 2, 1, 0] rfl) hf ?_
  intro x2_7 x3_7 x4_7 x5_7 x6_7 H locs ls hP hD hS hl hf
  refine lv_iload_n hx hb dX7_scoreOf_84 rfl (lv_at hl 0 rfl) ?_
  refine lv_iconst (v := 3) hx hb dX7_scoreOf_85 (by decide) ?_
  refine lv_icmp_le (tgt := 103) hx hb dX7_scoreOf_86 (by decide) (fun h_8 => ?_) (fun h_8 => ?_)
  · have hf := it_t h_8 hf
    refine lv_iload_n hx hb dX7_scoreOf_103 rfl (lv_at hl 0 rfl) ?_
    refine lv_if_ne (tgt := 111) hx hb dX7_scoreOf_104 (by decide) (fun h_9 => ?_) (fun h_9 => ?_)
    · have hf := it_f h_9 hf
      refine lv_iconst (v := 3) hx hb dX7_scoreOf_111 (by decide) ?_
      refine lv_iload_n hx hb dX7_scoreOf_112 rfl (lv_at hl 1 rfl) ?_
      refine lv_imul hx hb dX7_scoreOf_113 ?_
      refine lv_iload_n hx hb dX7_scoreOf_114 rfl (lv_at hl 0 rfl) ?_
      obtain ⟨h_10, hf⟩ := it_n hf
      refine lv_idiv hx hb dX7_scoreOf_115 h_10 ?_
      cases hf
      exact W.iret hx hb hr (fun t ht hW => ⟨⟨_, (), rfl, rfl, by rw [ht]; exact hP, hD⟩, hS.F ht⟩) hS.2.2 dX7_scoreOf_116
    · have hf := it_t h_9 hf
      refine lv_iconst (v := 0) hx hb dX7_scoreOf_107 (by decide) ?_
      refine lv_goto (tgt := 116) hx hb dX7_scoreOf_108 (by decide) ?_
      cases hf
      exact W.iret hx hb hr (fun t ht hW => ⟨⟨_, (), rfl, rfl, by rw [ht]; exact hP, hD⟩, hS.F ht⟩) hS.2.2 dX7_scoreOf_116
  · have hf := it_f h_8 hf
    refine lv_iconst (v := 3) hx hb dX7_scoreOf_89 (by decide) ?_
    refine lv_iload_n hx hb dX7_scoreOf_90 rfl (lv_at hl 1 rfl) ?_
    refine lv_iload hx hb dX7_scoreOf_91 (lv_at hl 2 rfl) ?_
    refine lv_isub hx hb dX7_scoreOf_93 ?_
    refine lv_iload hx hb dX7_scoreOf_94 (lv_at hl 3 rfl) ?_
    refine lv_isub hx hb dX7_scoreOf_96 ?_
    refine lv_imul hx hb dX7_scoreOf_97 ?_
    refine lv_iload_n hx hb dX7_scoreOf_98 rfl (lv_at hl 0 rfl) ?_
    refine lv_iconst (v := 2) hx hb dX7_scoreOf_99 (by decide) ?_
    refine lv_isub hx hb dX7_scoreOf_100 ?_
    obtain ⟨h_11, hf⟩ := it_n hf
    refine lv_idiv hx hb dX7_scoreOf_101 h_11 ?_
    cases hf
    exact W.iret hx hb hr (fun t ht hW => ⟨⟨_, (), rfl, rfl, by rw [ht]; exact hP, hD⟩, hS.F ht⟩) hS.2.2 dX7_scoreOf_102
/-! X7_of -/
theorem iw_X7_of_X7 : ∀ w ∈ wsX70, w ∈ wsX7_of := by decide +kernel
set_option maxHeartbeats 4000000 in
set_option maxRecDepth 100000 in
theorem tX7_of (l : Launch) (dC : Nat → ClassId) (dI : Nat → Nat → Nat) (cI cZ cJ cA : ClassId) (sz : Nat) (h0 : Nat) (v_riders : Int32) (v_rides : Int32) (q_riderOf : Nat) (q_waveOf : Nat) (q_marks : Nat) (v_lineMany : Int32) (q_line : Nat) (q_interfered : Nat) (v_isOpen : Int32) (v_group : Int32) (v_wrong : Int32) (q_stood : Nat) (v_pastMany : Int32) (q_past : Nat) (v_days : Int32) (q_low : Nat) (q_high : Nat) (q_was : Nat) (q_best : Nat) (q_second : Nat) (q_total : Nat) (q_givenTo : Nat) (q_has : Nat) (q_own : Nat) (q_sums : Nat) (q_below : Nat) (v_riderOf : Nat → Int32) (v_waveOf : Nat → Int32) (v_marks : Nat → Int32) (x1 : Int32) (x2 : Int32) (N : Nat) (r0 : Int32) (hf : fX7_of N x1 x2 v_rides v_riderOf v_waveOf v_marks = some r0) : Met l yX7_of wsX7_of ({ frames := 2, cells := 0, slots := 0, locals := 43 }) (va_Pc [.ref h0, .int x1, .int x2] (fun U => U.heap.size = sz ∧ va_P (dC, dI) vwCl [(h0, .inr (7, [.int v_riders, .int v_rides, .ref q_riderOf, .ref q_waveOf, .ref q_marks, .int v_lineMany, .ref q_line, .ref q_interfered, .int v_isOpen, .int v_group, .int v_wrong, .ref q_stood, .int v_pastMany, .ref q_past, .int v_days, .ref q_low, .ref q_high, .ref q_was, .ref q_best, .ref q_second, .ref q_total, .ref q_givenTo, .ref q_has, .ref q_own, .ref q_sums, .ref q_below])), (q_riderOf, .inl (cI, 30, .inl v_riderOf)), (q_waveOf, .inl (cI, 30, .inl v_waveOf)), (q_marks, .inl (cI, 150, .inl v_marks))] U.heap ∧ va_K (dC, dI) vwCl [(cI, .int), (cZ, .boolean), (cJ, .long), (cA, .array .long)] U ∧ va_D (fun _ => True) [(h0, .inr (7, [.int v_riders, .int v_rides, .ref q_riderOf, .ref q_waveOf, .ref q_marks, .int v_lineMany, .ref q_line, .ref q_interfered, .int v_isOpen, .int v_group, .int v_wrong, .ref q_stood, .int v_pastMany, .ref q_past, .int v_days, .ref q_low, .ref q_high, .ref q_was, .ref q_best, .ref q_second, .ref q_total, .ref q_givenTo, .ref q_has, .ref q_own, .ref q_sums, .ref q_below])), (q_riderOf, .inl (cI, 30, .inl v_riderOf)), (q_waveOf, .inl (cI, 30, .inl v_waveOf)), (q_marks, .inl (cI, 150, .inl v_marks))])) (va_Qi (fun (r9 : Int32) (_ : Unit) => r0 = r9) (fun _ t => va_P (dC, dI) vwCl [(h0, .inr (7, [.int v_riders, .int v_rides, .ref q_riderOf, .ref q_waveOf, .ref q_marks, .int v_lineMany, .ref q_line, .ref q_interfered, .int v_isOpen, .int v_group, .int v_wrong, .ref q_stood, .int v_pastMany, .ref q_past, .int v_days, .ref q_low, .ref q_high, .ref q_was, .ref q_best, .ref q_second, .ref q_total, .ref q_givenTo, .ref q_has, .ref q_own, .ref q_sums, .ref q_below])), (q_riderOf, .inl (cI, 30, .inl v_riderOf)), (q_waveOf, .inl (cI, 30, .inl v_waveOf)), (q_marks, .inl (cI, 150, .inl v_marks))] t.heap ∧ va_D (va_A [(h0, .inr (7, [.int v_riders, .int v_rides, .ref q_riderOf, .ref q_waveOf, .ref q_marks, .int v_lineMany, .ref q_line, .ref q_interfered, .int v_isOpen, .int v_group, .int v_wrong, .ref q_stood, .int v_pastMany, .ref q_past, .int v_days, .ref q_low, .ref q_high, .ref q_was, .ref q_best, .ref q_second, .ref q_total, .ref q_givenTo, .ref q_has, .ref q_own, .ref q_sums, .ref q_below])), (q_riderOf, .inl (cI, 30, .inl v_riderOf)), (q_waveOf, .inl (cI, 30, .inl v_waveOf)), (q_marks, .inl (cI, 150, .inl v_marks))] sz) [(h0, .inr (7, [.int v_riders, .int v_rides, .ref q_riderOf, .ref q_waveOf, .ref q_marks, .int v_lineMany, .ref q_line, .ref q_interfered, .int v_isOpen, .int v_group, .int v_wrong, .ref q_stood, .int v_pastMany, .ref q_past, .int v_days, .ref q_low, .ref q_high, .ref q_was, .ref q_best, .ref q_second, .ref q_total, .ref q_givenTo, .ref q_has, .ref q_own, .ref q_sums, .ref q_below])), (q_riderOf, .inl (cI, 30, .inl v_riderOf)), (q_waveOf, .inl (cI, 30, .inl v_waveOf)), (q_marks, .inl (cI, 150, .inl v_marks))]) (va_A [(h0, .inr (7, [.int v_riders, .int v_rides, .ref q_riderOf, .ref q_waveOf, .ref q_marks, .int v_lineMany, .ref q_line, .ref q_interfered, .int v_isOpen, .int v_group, .int v_wrong, .ref q_stood, .int v_pastMany, .ref q_past, .int v_days, .ref q_low, .ref q_high, .ref q_was, .ref q_best, .ref q_second, .ref q_total, .ref q_givenTo, .ref q_has, .ref q_own, .ref q_sums, .ref q_below])), (q_riderOf, .inl (cI, 30, .inl v_riderOf)), (q_waveOf, .inl (cI, 30, .inl v_waveOf)), (q_marks, .inl (cI, 150, .inl v_marks))] sz)) 0 0 (va_A [(h0, .inr (7, [.int v_riders, .int v_rides, .ref q_riderOf, .ref q_waveOf, .ref q_marks, .int v_lineMany, .ref q_line, .ref q_interfered, .int v_isOpen, .int v_group, .int v_wrong, .ref q_stood, .int v_pastMany, .ref q_past, .int v_days, .ref q_low, .ref q_high, .ref q_was, .ref q_best, .ref q_second, .ref q_total, .ref q_givenTo, .ref q_has, .ref q_own, .ref q_sums, .ref q_below])), (q_riderOf, .inl (cI, 30, .inl v_riderOf)), (q_waveOf, .inl (cI, 30, .inl v_waveOf)), (q_marks, .inl (cI, 150, .inl v_marks))] sz) := by
  refine Met.ofW (cc := cX7_of) (maxL := 3) (ret := (some .int)) (by decide) rfl ?_
  intro p e s m args below meth c s₁ B hml hv
  obtain ⟨rfl, hsz, hP, hK, hD0⟩ := hv
  have hx := B.exec
  have hb := B.bytes
  have hr := B.returns
  have hts := atoms_spec (ws := wsX7_of) B.pre
  have hown : s.vm.findClass RX7 = some m.cls := findClass_of_methodNamed B.named
  have hlocks := B.notSynchronized
  subst hsz
  have hD := hD0.self (sz := s.heap.size)
  generalize hAe : va_A [(h0, .inr (7, [.int v_riders, .int v_rides, .ref q_riderOf, .ref q_waveOf, .ref q_marks, .int v_lineMany, .ref q_line, .ref q_interfered, .int v_isOpen, .int v_group, .int v_wrong, .ref q_stood, .int v_pastMany, .ref q_past, .int v_days, .ref q_low, .ref q_high, .ref q_was, .ref q_best, .ref q_second, .ref q_total, .ref q_givenTo, .ref q_has, .ref q_own, .ref q_sums, .ref q_below])), (q_riderOf, .inl (cI, 30, .inl v_riderOf)), (q_waveOf, .inl (cI, 30, .inl v_waveOf)), (q_marks, .inl (cI, 150, .inl v_marks))] s.heap.size = A at hD ⊢
  have hA : ∀ q : Nat, s.heap.size ≤ q → A q := fun q h => by rw [← hAe]; exact Or.inr h
  have hS : va_S A s.heap s.heap [] := va_S.rf
  have hl := lv_entry ([.ref h0, .int x1, .int x2]) (n := 3) (Nat.le_of_ble_eq_true rfl)
  rw [lg_entry_eq]
  generalize (lg_sl ([.ref h0, .int x1, .int x2]) ++ List.replicate (3 - (lg_sl ([.ref h0, .int x1, .int x2])).length) Slot.unset).toArray = ls at hl ⊢
  have hl : lv_has ls 3 [(0, .ref h0), (1, .int x1), (2, .int x2)] := hl
  refine vx_gen hP hS (fun H locs hP hS => ?_)
  unfold fX7_of at hf
  refine lv_aload_n hx hb dX7_of_0 rfl (lv_at hl 0 rfl) ?_
  refine lv_iload_n hx hb dX7_of_1 rfl (lv_at hl 1 rfl) ?_
  obtain ⟨r_1, hu_1, hf⟩ := it_b1 hf
  have hPc := hP.sub (ws' := [(h0, .inr (7, [.int v_riders, .int v_rides, .ref q_riderOf, .ref q_waveOf, .ref q_marks, .int v_lineMany, .ref q_line, .ref q_interfered, .int v_isOpen, .int v_group, .int v_wrong, .ref q_stood, .int v_pastMany, .ref q_past, .int v_days, .ref q_low, .ref q_high, .ref q_was, .ref q_best, .ref q_second, .ref q_total, .ref q_givenTo, .ref q_has, .ref q_own, .ref q_sums, .ref q_below]))]) [0] rfl
  have hDc := hD.sub (ws' := [(h0, .inr (7, [.int v_riders, .int v_rides, .ref q_riderOf, .ref q_waveOf, .ref q_marks, .int v_lineMany, .ref q_line, .ref q_interfered, .int v_isOpen, .int v_group, .int v_wrong, .ref q_stood, .int v_pastMany, .ref q_past, .int v_days, .ref q_low, .ref q_high, .ref q_was, .ref q_best, .ref q_second, .ref q_total, .ref q_givenTo, .ref q_has, .ref q_own, .ref q_sums, .ref q_below]))]) [0] (by decide) rfl
  have hFc := va_free (wc := [(h0, .inr (7, [.int v_riders, .int v_rides, .ref q_riderOf, .ref q_waveOf, .ref q_marks, .int v_lineMany, .ref q_line, .ref q_interfered, .int v_isOpen, .int v_group, .int v_wrong, .ref q_stood, .int v_pastMany, .ref q_past, .int v_days, .ref q_low, .ref q_high, .ref q_was, .ref q_best, .ref q_second, .ref q_total, .ref q_givenTo, .ref q_has, .ref q_own, .ref q_sums, .ref q_below]))]) hD hS hA [0] rfl
  refine va_calli (va_runV (As := [.int x1]) (rest := []) ⟨hx, hb, hml, hown, hts⟩ (tX7_isRide l dC dI cI cZ cJ cA H.size h0 v_riders v_rides q_riderOf q_waveOf q_marks v_lineMany q_line q_interfered v_isOpen v_group v_wrong q_stood v_pastMany q_past v_days q_low q_high q_was q_best q_second q_total q_givenTo q_has q_own q_sums q_below x1 N r_1 hu_1) (cwV 1 hts gX7_of_X7_isRide rfl rfl rfl (by decide +kernel) ⟨Nat.le_of_ble_eq_true rfl, Nat.le_of_ble_eq_true rfl⟩) ⟨fun a U g mk q => by obtain ⟨q0, q1, qP, qK, qD⟩ := q; exact ⟨q0, q1, qP, va_K.moved (u := U) (U := U.calling g mk a) (Vm.Alike.refl U.vm) qK, qD⟩, va_recv hK hPc (ci := 7) (q0 := 0) rfl rfl, fun U hU hW => ⟨rfl, by rw [hU], by rw [hU]; exact hPc, va_K.moved hW.alike hK, hDc.weaken (fun _ _ _ _ => trivial)⟩⟩ rfl rfl hl.1 rfl (lv_room (Nat.le_of_ble_eq_true rfl)) dX7_of_2 ⟨Nat.zero_le _, Nat.zero_le _⟩) hS (fun q _ h => hFc q h) hFc (fun r9 u t H1 locs ht hvm hw hB hz1 hk1 hS => ?_)
  obtain ⟨hP1, hD1⟩ := hB
  rw [ht] at hP1
  obtain ⟨hP, hD⟩ := va_join (wr := [(q_riderOf, .inl (cI, 30, .inl v_riderOf)), (q_waveOf, .inl (cI, 30, .inl v_waveOf)), (q_marks, .inl (cI, 150, .inl v_marks))]) (w1 := [(h0, .inr (7, [.int v_riders, .int v_rides, .ref q_riderOf, .ref q_waveOf, .ref q_marks, .int v_lineMany, .ref q_line, .ref q_interfered, .int v_isOpen, .int v_group, .int v_wrong, .ref q_stood, .int v_pastMany, .ref q_past, .int v_days, .ref q_low, .ref q_high, .ref q_was, .ref q_best, .ref q_second, .ref q_total, .ref q_givenTo, .ref q_has, .ref q_own, .ref q_sums, .ref q_below]))]) hP hD [0] [1, 2, 3] rfl rfl (by decide) (by decide) hk1 hFc hP1 hD1
  clear hP1 hD1 hk1 hz1 hPc hDc hFc
  generalize H1 = H at hP hS ⊢
  have hP : va_P (dC, dI) vwCl [(q_riderOf, .inl (cI, 30, .inl v_riderOf)), (q_waveOf, .inl (cI, 30, .inl v_waveOf)), (q_marks, .inl (cI, 150, .inl v_marks)), (h0, .inr (7, [.int v_riders, .int v_rides, .ref q_riderOf, .ref q_waveOf, .ref q_marks, .int v_lineMany, .ref q_line, .ref q_interfered, .int v_isOpen, .int v_group, .int v_wrong, .ref q_stood, .int v_pastMany, .ref q_past, .int v_days, .ref q_low, .ref q_high, .ref q_was, .ref q_best, .ref q_second, .ref q_total, .ref q_givenTo, .ref q_has, .ref q_own, .ref q_sums, .ref q_below]))] H := hP
  have hD : va_D A [(q_riderOf, .inl (cI, 30, .inl v_riderOf)), (q_waveOf, .inl (cI, 30, .inl v_waveOf)), (q_marks, .inl (cI, 150, .inl v_marks)), (h0, .inr (7, [.int v_riders, .int v_rides, .ref q_riderOf, .ref q_waveOf, .ref q_marks, .int v_lineMany, .ref q_line, .ref q_interfered, .int v_isOpen, .int v_group, .int v_wrong, .ref q_stood, .int v_pastMany, .ref q_past, .int v_days, .ref q_low, .ref q_high, .ref q_was, .ref q_best, .ref q_second, .ref q_total, .ref q_givenTo, .ref q_has, .ref q_own, .ref q_sums, .ref q_below]))] := hD
  subst hw
  refine lv_if_ne (tgt := 10) hx hb dX7_of_5 (by decide) (fun h_2 => ?_) (fun h_2 => ?_)
  · have hf := it_f h_2 hf
    refine lv_iload_n hx hb dX7_of_10 rfl (lv_at hl 2 rfl) ?_
    by_cases h_3 : x2 = 0
    · have hf := it_t h_3 hf
      refine lv_tableIn (off := 29) (tgt := 40) hx hb dX7_of_11 (by rw [h_3]; decide) (by rw [h_3]; decide) (by rw [h_3]; rfl) (by decide) ?_
      refine lv_aload_n hx hb dX7_of_40 rfl (lv_at hl 0 rfl) ?_
      refine va_get (D := (dC, dI)) (ci := 7) (v := .ref q_riderOf) (C := RX7) (T := TX7) (N := 26) hx hb hts iw_X7_of_X7 hown hK hP 3 rfl rfl 2 (by decide) (hts (.fieldLink RX7 13 "HeatBenchModel" "riderOf" "[I") (List.mem_of_getElem? (i := 1) rfl)) (fun _ h9 => h9) rfl dX7_of_41 ?_
      refine lv_iload_n hx hb dX7_of_44 rfl (lv_at hl 1 rfl) ?_
      obtain ⟨h_4, hf⟩ := it_n hf
      refine va_iald hx hb hK hP 0 0 rfl rfl h_4 dX7_of_45 ?_
      have hP : va_P (dC, dI) vwCl [(h0, .inr (7, [.int v_riders, .int v_rides, .ref q_riderOf, .ref q_waveOf, .ref q_marks, .int v_lineMany, .ref q_line, .ref q_interfered, .int v_isOpen, .int v_group, .int v_wrong, .ref q_stood, .int v_pastMany, .ref q_past, .int v_days, .ref q_low, .ref q_high, .ref q_was, .ref q_best, .ref q_second, .ref q_total, .ref q_givenTo, .ref q_has, .ref q_own, .ref q_sums, .ref q_below])), (q_riderOf, .inl (cI, 30, .inl v_riderOf)), (q_waveOf, .inl (cI, 30, .inl v_waveOf)), (q_marks, .inl (cI, 150, .inl v_marks))] H := hP.sub [3, 0, 1, 2] rfl
      have hD : va_D A [(h0, .inr (7, [.int v_riders, .int v_rides, .ref q_riderOf, .ref q_waveOf, .ref q_marks, .int v_lineMany, .ref q_line, .ref q_interfered, .int v_isOpen, .int v_group, .int v_wrong, .ref q_stood, .int v_pastMany, .ref q_past, .int v_days, .ref q_low, .ref q_high, .ref q_was, .ref q_best, .ref q_second, .ref q_total, .ref q_givenTo, .ref q_has, .ref q_own, .ref q_sums, .ref q_below])), (q_riderOf, .inl (cI, 30, .inl v_riderOf)), (q_waveOf, .inl (cI, 30, .inl v_waveOf)), (q_marks, .inl (cI, 150, .inl v_marks))] := hD.sub [3, 0, 1, 2] (by decide) rfl
      cases hf
      exact W.iret hx hb hr (fun t ht hW => ⟨⟨_, (), rfl, rfl, by rw [ht]; exact hP, hD⟩, hS.F ht⟩) hS.2.2 dX7_of_46
    have hf := it_f h_3 hf
    by_cases h_5 : x2 = 1
    · have hf := it_t h_5 hf
      refine lv_tableIn (off := 36) (tgt := 47) hx hb dX7_of_11 (by rw [h_5]; decide) (by rw [h_5]; decide) (by rw [h_5]; rfl) (by decide) ?_
      refine lv_aload_n hx hb dX7_of_47 rfl (lv_at hl 0 rfl) ?_
      refine va_get (D := (dC, dI)) (ci := 7) (v := .ref q_waveOf) (C := RX7) (T := TX7) (N := 26) hx hb hts iw_X7_of_X7 hown hK hP 3 rfl rfl 3 (by decide) (hts (.fieldLink RX7 17 "HeatBenchModel" "waveOf" "[I") (List.mem_of_getElem? (i := 2) rfl)) (fun _ h9 => h9) rfl dX7_of_48 ?_
      refine lv_iload_n hx hb dX7_of_51 rfl (lv_at hl 1 rfl) ?_
      obtain ⟨h_6, hf⟩ := it_n hf
      refine va_iald hx hb hK hP 1 0 rfl rfl h_6 dX7_of_52 ?_
      have hP : va_P (dC, dI) vwCl [(h0, .inr (7, [.int v_riders, .int v_rides, .ref q_riderOf, .ref q_waveOf, .ref q_marks, .int v_lineMany, .ref q_line, .ref q_interfered, .int v_isOpen, .int v_group, .int v_wrong, .ref q_stood, .int v_pastMany, .ref q_past, .int v_days, .ref q_low, .ref q_high, .ref q_was, .ref q_best, .ref q_second, .ref q_total, .ref q_givenTo, .ref q_has, .ref q_own, .ref q_sums, .ref q_below])), (q_riderOf, .inl (cI, 30, .inl v_riderOf)), (q_waveOf, .inl (cI, 30, .inl v_waveOf)), (q_marks, .inl (cI, 150, .inl v_marks))] H := hP.sub [3, 0, 1, 2] rfl
      have hD : va_D A [(h0, .inr (7, [.int v_riders, .int v_rides, .ref q_riderOf, .ref q_waveOf, .ref q_marks, .int v_lineMany, .ref q_line, .ref q_interfered, .int v_isOpen, .int v_group, .int v_wrong, .ref q_stood, .int v_pastMany, .ref q_past, .int v_days, .ref q_low, .ref q_high, .ref q_was, .ref q_best, .ref q_second, .ref q_total, .ref q_givenTo, .ref q_has, .ref q_own, .ref q_sums, .ref q_below])), (q_riderOf, .inl (cI, 30, .inl v_riderOf)), (q_waveOf, .inl (cI, 30, .inl v_waveOf)), (q_marks, .inl (cI, 150, .inl v_marks))] := hD.sub [3, 0, 1, 2] (by decide) rfl
      cases hf
      exact W.iret hx hb hr (fun t ht hW => ⟨⟨_, (), rfl, rfl, by rw [ht]; exact hP, hD⟩, hS.F ht⟩) hS.2.2 dX7_of_53
    have hf := it_f h_5 hf
    by_cases h_7 : x2 = 2
    · have hf := it_t h_7 hf
      refine lv_tableIn (off := 43) (tgt := 54) hx hb dX7_of_11 (by rw [h_7]; decide) (by rw [h_7]; decide) (by rw [h_7]; rfl) (by decide) ?_
      refine lv_aload_n hx hb dX7_of_54 rfl (lv_at hl 0 rfl) ?_
      refine lv_iload_n hx hb dX7_of_55 rfl (lv_at hl 1 rfl) ?_
      obtain ⟨r_8, hu_8, hf⟩ := it_b1 hf
      have hPc := hP.sub (ws' := [(h0, .inr (7, [.int v_riders, .int v_rides, .ref q_riderOf, .ref q_waveOf, .ref q_marks, .int v_lineMany, .ref q_line, .ref q_interfered, .int v_isOpen, .int v_group, .int v_wrong, .ref q_stood, .int v_pastMany, .ref q_past, .int v_days, .ref q_low, .ref q_high, .ref q_was, .ref q_best, .ref q_second, .ref q_total, .ref q_givenTo, .ref q_has, .ref q_own, .ref q_sums, .ref q_below])), (q_marks, .inl (cI, 150, .inl v_marks))]) [3, 2] rfl
      have hDc := hD.sub (ws' := [(h0, .inr (7, [.int v_riders, .int v_rides, .ref q_riderOf, .ref q_waveOf, .ref q_marks, .int v_lineMany, .ref q_line, .ref q_interfered, .int v_isOpen, .int v_group, .int v_wrong, .ref q_stood, .int v_pastMany, .ref q_past, .int v_days, .ref q_low, .ref q_high, .ref q_was, .ref q_best, .ref q_second, .ref q_total, .ref q_givenTo, .ref q_has, .ref q_own, .ref q_sums, .ref q_below])), (q_marks, .inl (cI, 150, .inl v_marks))]) [3, 2] (by decide) rfl
      have hFc := va_free (wc := [(h0, .inr (7, [.int v_riders, .int v_rides, .ref q_riderOf, .ref q_waveOf, .ref q_marks, .int v_lineMany, .ref q_line, .ref q_interfered, .int v_isOpen, .int v_group, .int v_wrong, .ref q_stood, .int v_pastMany, .ref q_past, .int v_days, .ref q_low, .ref q_high, .ref q_was, .ref q_best, .ref q_second, .ref q_total, .ref q_givenTo, .ref q_has, .ref q_own, .ref q_sums, .ref q_below])), (q_marks, .inl (cI, 150, .inl v_marks))]) hD hS hA [3, 2] rfl
      refine va_calli (va_runV (As := [.int x1]) (rest := []) ⟨hx, hb, hml, hown, hts⟩ (tX7_marksOf l dC dI cI cZ cJ cA H.size h0 v_riders v_rides q_riderOf q_waveOf q_marks v_lineMany q_line q_interfered v_isOpen v_group v_wrong q_stood v_pastMany q_past v_days q_low q_high q_was q_best q_second q_total q_givenTo q_has q_own q_sums q_below v_marks x1 N r_8 hu_8) (cwV 1 hts gX7_of_X7_marksOf rfl rfl rfl (by decide +kernel) ⟨Nat.le_of_ble_eq_true rfl, Nat.le_of_ble_eq_true rfl⟩) ⟨fun a U g mk q => by obtain ⟨q0, q1, qP, qK, qD⟩ := q; exact ⟨q0, q1, qP, va_K.moved (u := U) (U := U.calling g mk a) (Vm.Alike.refl U.vm) qK, qD⟩, va_recv hK hPc (ci := 7) (q0 := 0) rfl rfl, fun U hU hW => ⟨rfl, by rw [hU], by rw [hU]; exact hPc, va_K.moved hW.alike hK, hDc.weaken (fun _ _ _ _ => trivial)⟩⟩ rfl rfl hl.1 rfl (lv_room (Nat.le_of_ble_eq_true rfl)) dX7_of_56 ⟨Nat.zero_le _, Nat.zero_le _⟩) hS (fun q _ h => hFc q h) hFc (fun r9 u t H1 locs ht hvm hw hB hz1 hk1 hS => ?_)
      obtain ⟨hP1, hD1⟩ := hB
      rw [ht] at hP1
      obtain ⟨hP, hD⟩ := va_join (wr := [(q_riderOf, .inl (cI, 30, .inl v_riderOf)), (q_waveOf, .inl (cI, 30, .inl v_waveOf))]) (w1 := [(h0, .inr (7, [.int v_riders, .int v_rides, .ref q_riderOf, .ref q_waveOf, .ref q_marks, .int v_lineMany, .ref q_line, .ref q_interfered, .int v_isOpen, .int v_group, .int v_wrong, .ref q_stood, .int v_pastMany, .ref q_past, .int v_days, .ref q_low, .ref q_high, .ref q_was, .ref q_best, .ref q_second, .ref q_total, .ref q_givenTo, .ref q_has, .ref q_own, .ref q_sums, .ref q_below])), (q_marks, .inl (cI, 150, .inl v_marks))]) hP hD [3, 2] [0, 1] rfl rfl (by decide) (by decide) hk1 hFc hP1 hD1
      clear hP1 hD1 hk1 hz1 hPc hDc hFc
      generalize H1 = H at hP hS ⊢
      have hP : va_P (dC, dI) vwCl [(q_riderOf, .inl (cI, 30, .inl v_riderOf)), (q_waveOf, .inl (cI, 30, .inl v_waveOf)), (h0, .inr (7, [.int v_riders, .int v_rides, .ref q_riderOf, .ref q_waveOf, .ref q_marks, .int v_lineMany, .ref q_line, .ref q_interfered, .int v_isOpen, .int v_group, .int v_wrong, .ref q_stood, .int v_pastMany, .ref q_past, .int v_days, .ref q_low, .ref q_high, .ref q_was, .ref q_best, .ref q_second, .ref q_total, .ref q_givenTo, .ref q_has, .ref q_own, .ref q_sums, .ref q_below])), (q_marks, .inl (cI, 150, .inl v_marks))] H := hP
      have hD : va_D A [(q_riderOf, .inl (cI, 30, .inl v_riderOf)), (q_waveOf, .inl (cI, 30, .inl v_waveOf)), (h0, .inr (7, [.int v_riders, .int v_rides, .ref q_riderOf, .ref q_waveOf, .ref q_marks, .int v_lineMany, .ref q_line, .ref q_interfered, .int v_isOpen, .int v_group, .int v_wrong, .ref q_stood, .int v_pastMany, .ref q_past, .int v_days, .ref q_low, .ref q_high, .ref q_was, .ref q_best, .ref q_second, .ref q_total, .ref q_givenTo, .ref q_has, .ref q_own, .ref q_sums, .ref q_below])), (q_marks, .inl (cI, 150, .inl v_marks))] := hD
      subst hw
      have hP : va_P (dC, dI) vwCl [(h0, .inr (7, [.int v_riders, .int v_rides, .ref q_riderOf, .ref q_waveOf, .ref q_marks, .int v_lineMany, .ref q_line, .ref q_interfered, .int v_isOpen, .int v_group, .int v_wrong, .ref q_stood, .int v_pastMany, .ref q_past, .int v_days, .ref q_low, .ref q_high, .ref q_was, .ref q_best, .ref q_second, .ref q_total, .ref q_givenTo, .ref q_has, .ref q_own, .ref q_sums, .ref q_below])), (q_riderOf, .inl (cI, 30, .inl v_riderOf)), (q_waveOf, .inl (cI, 30, .inl v_waveOf)), (q_marks, .inl (cI, 150, .inl v_marks))] H := hP.sub [2, 0, 1, 3] rfl
      have hD : va_D A [(h0, .inr (7, [.int v_riders, .int v_rides, .ref q_riderOf, .ref q_waveOf, .ref q_marks, .int v_lineMany, .ref q_line, .ref q_interfered, .int v_isOpen, .int v_group, .int v_wrong, .ref q_stood, .int v_pastMany, .ref q_past, .int v_days, .ref q_low, .ref q_high, .ref q_was, .ref q_best, .ref q_second, .ref q_total, .ref q_givenTo, .ref q_has, .ref q_own, .ref q_sums, .ref q_below])), (q_riderOf, .inl (cI, 30, .inl v_riderOf)), (q_waveOf, .inl (cI, 30, .inl v_waveOf)), (q_marks, .inl (cI, 150, .inl v_marks))] := hD.sub [2, 0, 1, 3] (by decide) rfl
      cases hf
      exact W.iret hx hb hr (fun t ht hW => ⟨⟨_, (), rfl, rfl, by rw [ht]; exact hP, hD⟩, hS.F ht⟩) hS.2.2 dX7_of_59
    have hf := it_f h_7 hf
    by_cases h_9 : x2 = 3
    · have hf := it_t h_9 hf
      refine lv_tableIn (off := 49) (tgt := 60) hx hb dX7_of_11 (by rw [h_9]; decide) (by rw [h_9]; decide) (by rw [h_9]; rfl) (by decide) ?_
      refine lv_aload_n hx hb dX7_of_60 rfl (lv_at hl 0 rfl) ?_
      refine lv_iload_n hx hb dX7_of_61 rfl (lv_at hl 1 rfl) ?_
      obtain ⟨r_10, hu_10, hf⟩ := it_b1 hf
      have hPc := hP.sub (ws' := [(h0, .inr (7, [.int v_riders, .int v_rides, .ref q_riderOf, .ref q_waveOf, .ref q_marks, .int v_lineMany, .ref q_line, .ref q_interfered, .int v_isOpen, .int v_group, .int v_wrong, .ref q_stood, .int v_pastMany, .ref q_past, .int v_days, .ref q_low, .ref q_high, .ref q_was, .ref q_best, .ref q_second, .ref q_total, .ref q_givenTo, .ref q_has, .ref q_own, .ref q_sums, .ref q_below])), (q_marks, .inl (cI, 150, .inl v_marks))]) [3, 2] rfl
      have hDc := hD.sub (ws' := [(h0, .inr (7, [.int v_riders, .int v_rides, .ref q_riderOf, .ref q_waveOf, .ref q_marks, .int v_lineMany, .ref q_line, .ref q_interfered, .int v_isOpen, .int v_group, .int v_wrong, .ref q_stood, .int v_pastMany, .ref q_past, .int v_days, .ref q_low, .ref q_high, .ref q_was, .ref q_best, .ref q_second, .ref q_total, .ref q_givenTo, .ref q_has, .ref q_own, .ref q_sums, .ref q_below])), (q_marks, .inl (cI, 150, .inl v_marks))]) [3, 2] (by decide) rfl
      have hFc := va_free (wc := [(h0, .inr (7, [.int v_riders, .int v_rides, .ref q_riderOf, .ref q_waveOf, .ref q_marks, .int v_lineMany, .ref q_line, .ref q_interfered, .int v_isOpen, .int v_group, .int v_wrong, .ref q_stood, .int v_pastMany, .ref q_past, .int v_days, .ref q_low, .ref q_high, .ref q_was, .ref q_best, .ref q_second, .ref q_total, .ref q_givenTo, .ref q_has, .ref q_own, .ref q_sums, .ref q_below])), (q_marks, .inl (cI, 150, .inl v_marks))]) hD hS hA [3, 2] rfl
      refine va_calli (va_runV (As := [.int x1]) (rest := []) ⟨hx, hb, hml, hown, hts⟩ (tX7_scoreOf l dC dI cI cZ cJ cA H.size h0 v_riders v_rides q_riderOf q_waveOf q_marks v_lineMany q_line q_interfered v_isOpen v_group v_wrong q_stood v_pastMany q_past v_days q_low q_high q_was q_best q_second q_total q_givenTo q_has q_own q_sums q_below v_marks x1 N r_10 hu_10) (cwV 1 hts gX7_of_X7_scoreOf rfl rfl rfl (by decide +kernel) ⟨Nat.le_of_ble_eq_true rfl, Nat.le_of_ble_eq_true rfl⟩) ⟨fun a U g mk q => by obtain ⟨q0, q1, qP, qK, qD⟩ := q; exact ⟨q0, q1, qP, va_K.moved (u := U) (U := U.calling g mk a) (Vm.Alike.refl U.vm) qK, qD⟩, va_recv hK hPc (ci := 7) (q0 := 0) rfl rfl, fun U hU hW => ⟨rfl, by rw [hU], by rw [hU]; exact hPc, va_K.moved hW.alike hK, hDc.weaken (fun _ _ _ _ => trivial)⟩⟩ rfl rfl hl.1 rfl (lv_room (Nat.le_of_ble_eq_true rfl)) dX7_of_62 ⟨Nat.zero_le _, Nat.zero_le _⟩) hS (fun q _ h => hFc q h) hFc (fun r9 u t H1 locs ht hvm hw hB hz1 hk1 hS => ?_)
      obtain ⟨hP1, hD1⟩ := hB
      rw [ht] at hP1
      obtain ⟨hP, hD⟩ := va_join (wr := [(q_riderOf, .inl (cI, 30, .inl v_riderOf)), (q_waveOf, .inl (cI, 30, .inl v_waveOf))]) (w1 := [(h0, .inr (7, [.int v_riders, .int v_rides, .ref q_riderOf, .ref q_waveOf, .ref q_marks, .int v_lineMany, .ref q_line, .ref q_interfered, .int v_isOpen, .int v_group, .int v_wrong, .ref q_stood, .int v_pastMany, .ref q_past, .int v_days, .ref q_low, .ref q_high, .ref q_was, .ref q_best, .ref q_second, .ref q_total, .ref q_givenTo, .ref q_has, .ref q_own, .ref q_sums, .ref q_below])), (q_marks, .inl (cI, 150, .inl v_marks))]) hP hD [3, 2] [0, 1] rfl rfl (by decide) (by decide) hk1 hFc hP1 hD1
      clear hP1 hD1 hk1 hz1 hPc hDc hFc
      generalize H1 = H at hP hS ⊢
      have hP : va_P (dC, dI) vwCl [(q_riderOf, .inl (cI, 30, .inl v_riderOf)), (q_waveOf, .inl (cI, 30, .inl v_waveOf)), (h0, .inr (7, [.int v_riders, .int v_rides, .ref q_riderOf, .ref q_waveOf, .ref q_marks, .int v_lineMany, .ref q_line, .ref q_interfered, .int v_isOpen, .int v_group, .int v_wrong, .ref q_stood, .int v_pastMany, .ref q_past, .int v_days, .ref q_low, .ref q_high, .ref q_was, .ref q_best, .ref q_second, .ref q_total, .ref q_givenTo, .ref q_has, .ref q_own, .ref q_sums, .ref q_below])), (q_marks, .inl (cI, 150, .inl v_marks))] H := hP
      have hD : va_D A [(q_riderOf, .inl (cI, 30, .inl v_riderOf)), (q_waveOf, .inl (cI, 30, .inl v_waveOf)), (h0, .inr (7, [.int v_riders, .int v_rides, .ref q_riderOf, .ref q_waveOf, .ref q_marks, .int v_lineMany, .ref q_line, .ref q_interfered, .int v_isOpen, .int v_group, .int v_wrong, .ref q_stood, .int v_pastMany, .ref q_past, .int v_days, .ref q_low, .ref q_high, .ref q_was, .ref q_best, .ref q_second, .ref q_total, .ref q_givenTo, .ref q_has, .ref q_own, .ref q_sums, .ref q_below])), (q_marks, .inl (cI, 150, .inl v_marks))] := hD
      subst hw
      have hP : va_P (dC, dI) vwCl [(h0, .inr (7, [.int v_riders, .int v_rides, .ref q_riderOf, .ref q_waveOf, .ref q_marks, .int v_lineMany, .ref q_line, .ref q_interfered, .int v_isOpen, .int v_group, .int v_wrong, .ref q_stood, .int v_pastMany, .ref q_past, .int v_days, .ref q_low, .ref q_high, .ref q_was, .ref q_best, .ref q_second, .ref q_total, .ref q_givenTo, .ref q_has, .ref q_own, .ref q_sums, .ref q_below])), (q_riderOf, .inl (cI, 30, .inl v_riderOf)), (q_waveOf, .inl (cI, 30, .inl v_waveOf)), (q_marks, .inl (cI, 150, .inl v_marks))] H := hP.sub [2, 0, 1, 3] rfl
      have hD : va_D A [(h0, .inr (7, [.int v_riders, .int v_rides, .ref q_riderOf, .ref q_waveOf, .ref q_marks, .int v_lineMany, .ref q_line, .ref q_interfered, .int v_isOpen, .int v_group, .int v_wrong, .ref q_stood, .int v_pastMany, .ref q_past, .int v_days, .ref q_low, .ref q_high, .ref q_was, .ref q_best, .ref q_second, .ref q_total, .ref q_givenTo, .ref q_has, .ref q_own, .ref q_sums, .ref q_below])), (q_riderOf, .inl (cI, 30, .inl v_riderOf)), (q_waveOf, .inl (cI, 30, .inl v_waveOf)), (q_marks, .inl (cI, 150, .inl v_marks))] := hD.sub [2, 0, 1, 3] (by decide) rfl
      cases hf
      exact W.iret hx hb hr (fun t ht hW => ⟨⟨_, (), rfl, rfl, by rw [ht]; exact hP, hD⟩, hS.F ht⟩) hS.2.2 dX7_of_65
    have hf := it_f h_9 hf
    refine lv_tableOut (tgt := 66) hx hb dX7_of_11 (sw_out 4 x2 (fun i hi => by rcases sw_lt4 hi with rfl | rfl | rfl | rfl <;> assumption)) (by decide) ?_
    refine lv_iconst (v := (-1)) hx hb dX7_of_66 (by decide) ?_
    have hP : va_P (dC, dI) vwCl [(h0, .inr (7, [.int v_riders, .int v_rides, .ref q_riderOf, .ref q_waveOf, .ref q_marks, .int v_lineMany, .ref q_line, .ref q_interfered, .int v_isOpen, .int v_group, .int v_wrong, .ref q_stood, .int v_pastMany, .ref q_past, .int v_days, .ref q_low, .ref q_high, .ref q_was, .ref q_best, .ref q_second, .ref q_total, .ref q_givenTo, .ref q_has, .ref q_own, .ref q_sums, .ref q_below])), (q_riderOf, .inl (cI, 30, .inl v_riderOf)), (q_waveOf, .inl (cI, 30, .inl v_waveOf)), (q_marks, .inl (cI, 150, .inl v_marks))] H := hP.sub [3, 0, 1, 2] rfl
    have hD : va_D A [(h0, .inr (7, [.int v_riders, .int v_rides, .ref q_riderOf, .ref q_waveOf, .ref q_marks, .int v_lineMany, .ref q_line, .ref q_interfered, .int v_isOpen, .int v_group, .int v_wrong, .ref q_stood, .int v_pastMany, .ref q_past, .int v_days, .ref q_low, .ref q_high, .ref q_was, .ref q_best, .ref q_second, .ref q_total, .ref q_givenTo, .ref q_has, .ref q_own, .ref q_sums, .ref q_below])), (q_riderOf, .inl (cI, 30, .inl v_riderOf)), (q_waveOf, .inl (cI, 30, .inl v_waveOf)), (q_marks, .inl (cI, 150, .inl v_marks))] := hD.sub [3, 0, 1, 2] (by decide) rfl
    cases hf
    exact W.iret hx hb hr (fun t ht hW => ⟨⟨_, (), rfl, rfl, by rw [ht]; exact hP, hD⟩, hS.F ht⟩) hS.2.2 dX7_of_67
  · have hf := it_t h_2 hf
    refine lv_iconst (v := (-1)) hx hb dX7_of_8 (by decide) ?_
    have hP : va_P (dC, dI) vwCl [(h0, .inr (7, [.int v_riders, .int v_rides, .ref q_riderOf, .ref q_waveOf, .ref q_marks, .int v_lineMany, .ref q_line, .ref q_interfered, .int v_isOpen, .int v_group, .int v_wrong, .ref q_stood, .int v_pastMany, .ref q_past, .int v_days, .ref q_low, .ref q_high, .ref q_was, .ref q_best, .ref q_second, .ref q_total, .ref q_givenTo, .ref q_has, .ref q_own, .ref q_sums, .ref q_below])), (q_riderOf, .inl (cI, 30, .inl v_riderOf)), (q_waveOf, .inl (cI, 30, .inl v_waveOf)), (q_marks, .inl (cI, 150, .inl v_marks))] H := hP.sub [3, 0, 1, 2] rfl
    have hD : va_D A [(h0, .inr (7, [.int v_riders, .int v_rides, .ref q_riderOf, .ref q_waveOf, .ref q_marks, .int v_lineMany, .ref q_line, .ref q_interfered, .int v_isOpen, .int v_group, .int v_wrong, .ref q_stood, .int v_pastMany, .ref q_past, .int v_days, .ref q_low, .ref q_high, .ref q_was, .ref q_best, .ref q_second, .ref q_total, .ref q_givenTo, .ref q_has, .ref q_own, .ref q_sums, .ref q_below])), (q_riderOf, .inl (cI, 30, .inl v_riderOf)), (q_waveOf, .inl (cI, 30, .inl v_waveOf)), (q_marks, .inl (cI, 150, .inl v_marks))] := hD.sub [3, 0, 1, 2] (by decide) rfl
    cases hf
    exact W.iret hx hb hr (fun t ht hW => ⟨⟨_, (), rfl, rfl, by rw [ht]; exact hP, hD⟩, hS.F ht⟩) hS.2.2 dX7_of_9
/-! X7_line -/
theorem iw_X7_line_X7 : ∀ w ∈ wsX70, w ∈ wsX7_line := by decide +kernel
set_option maxHeartbeats 4000000 in
set_option maxRecDepth 100000 in
theorem tX7_line (l : Launch) (dC : Nat → ClassId) (dI : Nat → Nat → Nat) (cI cZ cJ cA : ClassId) (sz : Nat) (h0 : Nat) (v_riders : Int32) (v_rides : Int32) (q_riderOf : Nat) (q_waveOf : Nat) (q_marks : Nat) (v_lineMany : Int32) (q_line : Nat) (q_interfered : Nat) (v_isOpen : Int32) (v_group : Int32) (v_wrong : Int32) (q_stood : Nat) (v_pastMany : Int32) (q_past : Nat) (v_days : Int32) (q_low : Nat) (q_high : Nat) (q_was : Nat) (q_best : Nat) (q_second : Nat) (q_total : Nat) (q_givenTo : Nat) (q_has : Nat) (q_own : Nat) (q_sums : Nat) (q_below : Nat) (v_line : Nat → Int32) (x1 : Int32) (N : Nat) (r0 : Int32) (hf : fX7_line N x1 v_lineMany v_line = some r0) : Met l yX7_line wsX7_line ({ frames := 1, cells := 0, slots := 0, locals := 22 }) (va_Pc [.ref h0, .int x1] (fun U => U.heap.size = sz ∧ va_P (dC, dI) vwCl [(h0, .inr (7, [.int v_riders, .int v_rides, .ref q_riderOf, .ref q_waveOf, .ref q_marks, .int v_lineMany, .ref q_line, .ref q_interfered, .int v_isOpen, .int v_group, .int v_wrong, .ref q_stood, .int v_pastMany, .ref q_past, .int v_days, .ref q_low, .ref q_high, .ref q_was, .ref q_best, .ref q_second, .ref q_total, .ref q_givenTo, .ref q_has, .ref q_own, .ref q_sums, .ref q_below])), (q_line, .inl (cI, 4, .inl v_line))] U.heap ∧ va_K (dC, dI) vwCl [(cI, .int), (cZ, .boolean), (cJ, .long), (cA, .array .long)] U ∧ va_D (fun _ => True) [(h0, .inr (7, [.int v_riders, .int v_rides, .ref q_riderOf, .ref q_waveOf, .ref q_marks, .int v_lineMany, .ref q_line, .ref q_interfered, .int v_isOpen, .int v_group, .int v_wrong, .ref q_stood, .int v_pastMany, .ref q_past, .int v_days, .ref q_low, .ref q_high, .ref q_was, .ref q_best, .ref q_second, .ref q_total, .ref q_givenTo, .ref q_has, .ref q_own, .ref q_sums, .ref q_below])), (q_line, .inl (cI, 4, .inl v_line))])) (va_Qi (fun (r9 : Int32) (_ : Unit) => r0 = r9) (fun _ t => va_P (dC, dI) vwCl [(h0, .inr (7, [.int v_riders, .int v_rides, .ref q_riderOf, .ref q_waveOf, .ref q_marks, .int v_lineMany, .ref q_line, .ref q_interfered, .int v_isOpen, .int v_group, .int v_wrong, .ref q_stood, .int v_pastMany, .ref q_past, .int v_days, .ref q_low, .ref q_high, .ref q_was, .ref q_best, .ref q_second, .ref q_total, .ref q_givenTo, .ref q_has, .ref q_own, .ref q_sums, .ref q_below])), (q_line, .inl (cI, 4, .inl v_line))] t.heap ∧ va_D (va_A [(h0, .inr (7, [.int v_riders, .int v_rides, .ref q_riderOf, .ref q_waveOf, .ref q_marks, .int v_lineMany, .ref q_line, .ref q_interfered, .int v_isOpen, .int v_group, .int v_wrong, .ref q_stood, .int v_pastMany, .ref q_past, .int v_days, .ref q_low, .ref q_high, .ref q_was, .ref q_best, .ref q_second, .ref q_total, .ref q_givenTo, .ref q_has, .ref q_own, .ref q_sums, .ref q_below])), (q_line, .inl (cI, 4, .inl v_line))] sz) [(h0, .inr (7, [.int v_riders, .int v_rides, .ref q_riderOf, .ref q_waveOf, .ref q_marks, .int v_lineMany, .ref q_line, .ref q_interfered, .int v_isOpen, .int v_group, .int v_wrong, .ref q_stood, .int v_pastMany, .ref q_past, .int v_days, .ref q_low, .ref q_high, .ref q_was, .ref q_best, .ref q_second, .ref q_total, .ref q_givenTo, .ref q_has, .ref q_own, .ref q_sums, .ref q_below])), (q_line, .inl (cI, 4, .inl v_line))]) (va_A [(h0, .inr (7, [.int v_riders, .int v_rides, .ref q_riderOf, .ref q_waveOf, .ref q_marks, .int v_lineMany, .ref q_line, .ref q_interfered, .int v_isOpen, .int v_group, .int v_wrong, .ref q_stood, .int v_pastMany, .ref q_past, .int v_days, .ref q_low, .ref q_high, .ref q_was, .ref q_best, .ref q_second, .ref q_total, .ref q_givenTo, .ref q_has, .ref q_own, .ref q_sums, .ref q_below])), (q_line, .inl (cI, 4, .inl v_line))] sz)) 0 0 (va_A [(h0, .inr (7, [.int v_riders, .int v_rides, .ref q_riderOf, .ref q_waveOf, .ref q_marks, .int v_lineMany, .ref q_line, .ref q_interfered, .int v_isOpen, .int v_group, .int v_wrong, .ref q_stood, .int v_pastMany, .ref q_past, .int v_days, .ref q_low, .ref q_high, .ref q_was, .ref q_best, .ref q_second, .ref q_total, .ref q_givenTo, .ref q_has, .ref q_own, .ref q_sums, .ref q_below])), (q_line, .inl (cI, 4, .inl v_line))] sz) := by
  refine Met.ofW (cc := cX7_line) (maxL := 2) (ret := (some .int)) (by decide) rfl ?_
  intro p e s m args below meth c s₁ B hml hv
  obtain ⟨rfl, hsz, hP, hK, hD0⟩ := hv
  have hx := B.exec
  have hb := B.bytes
  have hr := B.returns
  have hts := atoms_spec (ws := wsX7_line) B.pre
  have hown : s.vm.findClass RX7 = some m.cls := findClass_of_methodNamed B.named
  have hlocks := B.notSynchronized
  subst hsz
  have hD := hD0.self (sz := s.heap.size)
  generalize hAe : va_A [(h0, .inr (7, [.int v_riders, .int v_rides, .ref q_riderOf, .ref q_waveOf, .ref q_marks, .int v_lineMany, .ref q_line, .ref q_interfered, .int v_isOpen, .int v_group, .int v_wrong, .ref q_stood, .int v_pastMany, .ref q_past, .int v_days, .ref q_low, .ref q_high, .ref q_was, .ref q_best, .ref q_second, .ref q_total, .ref q_givenTo, .ref q_has, .ref q_own, .ref q_sums, .ref q_below])), (q_line, .inl (cI, 4, .inl v_line))] s.heap.size = A at hD ⊢
  have hA : ∀ q : Nat, s.heap.size ≤ q → A q := fun q h => by rw [← hAe]; exact Or.inr h
  have hS : va_S A s.heap s.heap [] := va_S.rf
  have hl := lv_entry ([.ref h0, .int x1]) (n := 2) (Nat.le_of_ble_eq_true rfl)
  rw [lg_entry_eq]
  generalize (lg_sl ([.ref h0, .int x1]) ++ List.replicate (2 - (lg_sl ([.ref h0, .int x1])).length) Slot.unset).toArray = ls at hl ⊢
  have hl : lv_has ls 2 [(0, .ref h0), (1, .int x1)] := hl
  refine vx_gen hP hS (fun H locs hP hS => ?_)
  unfold fX7_line at hf
  refine lv_iload_n hx hb dX7_line_0 rfl (lv_at hl 1 rfl) ?_
  refine lv_iconst (v := 0) hx hb dX7_line_1 (by decide) ?_
  refine lv_aload_n hx hb dX7_line_2 rfl (lv_at hl 0 rfl) ?_
  refine va_get (D := (dC, dI)) (ci := 7) (v := .int v_lineMany) (C := RX7) (T := TX7) (N := 26) hx hb hts iw_X7_line_X7 hown hK hP 0 rfl rfl 5 (by decide) (hts (.fieldLink RX7 23 "HeatBenchModel" "lineMany" "I") (List.mem_of_getElem? (i := 1) rfl)) (fun _ h9 => h9) rfl dX7_line_3 ?_
  refine lv_iconst (v := 1) hx hb dX7_line_6 (by decide) ?_
  refine lv_isub hx hb dX7_line_7 ?_
  obtain ⟨r_1, hu_1, hf⟩ := it_b1 hf
  have hPc := hP.sub (ws' := []) [] rfl
  have hDc := hD.sub (ws' := []) [] (by decide) rfl
  have hFc := va_free (wc := []) hD hS hA [] rfl
  refine va_calli (va_runS (As := [.int x1, .int 0, .int (v_lineMany - 1)]) (rest := []) ⟨hx, hb, hml, hown, hts⟩ (tX7_in l dC dI cI cZ cJ cA H.size x1 0 (v_lineMany - 1) N r_1 hu_1) (va_cwS 3 hts gX7_line_X7_in rfl rfl rfl (by decide +kernel) ⟨Nat.le_of_ble_eq_true rfl, Nat.le_of_ble_eq_true rfl⟩) ⟨fun a U g mk q => by obtain ⟨q0, q1, qP, qK, qD⟩ := q; exact ⟨q0, q1, qP, va_K.moved (u := U) (U := U.calling g mk a) (Vm.Alike.refl U.vm) qK, qD⟩, fun U hU hW => ⟨rfl, by rw [hU], by rw [hU]; exact hPc, va_K.moved hW.alike hK, hDc.weaken (fun _ _ _ _ => trivial)⟩⟩ rfl rfl hl.1 rfl (lv_room (Nat.le_of_ble_eq_true rfl)) dX7_line_8 ⟨Nat.zero_le _, Nat.zero_le _⟩) hS (fun q _ h => hFc q h) hFc (fun r9 u t H1 locs ht hvm hw hB hz1 hk1 hS => ?_)
  obtain ⟨hP1, hD1⟩ := hB
  rw [ht] at hP1
  obtain ⟨hP, hD⟩ := va_join (wr := [(h0, .inr (7, [.int v_riders, .int v_rides, .ref q_riderOf, .ref q_waveOf, .ref q_marks, .int v_lineMany, .ref q_line, .ref q_interfered, .int v_isOpen, .int v_group, .int v_wrong, .ref q_stood, .int v_pastMany, .ref q_past, .int v_days, .ref q_low, .ref q_high, .ref q_was, .ref q_best, .ref q_second, .ref q_total, .ref q_givenTo, .ref q_has, .ref q_own, .ref q_sums, .ref q_below])), (q_line, .inl (cI, 4, .inl v_line))]) (w1 := []) hP hD [] [0, 1] rfl rfl (by decide) (by decide) hk1 hFc hP1 hD1
  clear hP1 hD1 hk1 hz1 hPc hDc hFc
  generalize H1 = H at hP hS ⊢
  have hP : va_P (dC, dI) vwCl [(h0, .inr (7, [.int v_riders, .int v_rides, .ref q_riderOf, .ref q_waveOf, .ref q_marks, .int v_lineMany, .ref q_line, .ref q_interfered, .int v_isOpen, .int v_group, .int v_wrong, .ref q_stood, .int v_pastMany, .ref q_past, .int v_days, .ref q_low, .ref q_high, .ref q_was, .ref q_best, .ref q_second, .ref q_total, .ref q_givenTo, .ref q_has, .ref q_own, .ref q_sums, .ref q_below])), (q_line, .inl (cI, 4, .inl v_line))] H := hP
  have hD : va_D A [(h0, .inr (7, [.int v_riders, .int v_rides, .ref q_riderOf, .ref q_waveOf, .ref q_marks, .int v_lineMany, .ref q_line, .ref q_interfered, .int v_isOpen, .int v_group, .int v_wrong, .ref q_stood, .int v_pastMany, .ref q_past, .int v_days, .ref q_low, .ref q_high, .ref q_was, .ref q_best, .ref q_second, .ref q_total, .ref q_givenTo, .ref q_has, .ref q_own, .ref q_sums, .ref q_below])), (q_line, .inl (cI, 4, .inl v_line))] := hD
  subst hw
  refine lv_if_eq (tgt := 23) hx hb dX7_line_11 (by decide) (fun h_2 => ?_) (fun h_2 => ?_)
  · have hf := it_t h_2 hf
    refine lv_bipush (v := (-4)) hx hb dX7_line_23 (by decide) ?_
    cases hf
    exact W.iret hx hb hr (fun t ht hW => ⟨⟨_, (), rfl, rfl, by rw [ht]; exact hP, hD⟩, hS.F ht⟩) hS.2.2 dX7_line_25
  · have hf := it_f h_2 hf
    refine lv_aload_n hx hb dX7_line_14 rfl (lv_at hl 0 rfl) ?_
    refine va_get (D := (dC, dI)) (ci := 7) (v := .ref q_line) (C := RX7) (T := TX7) (N := 26) hx hb hts iw_X7_line_X7 hown hK hP 0 rfl rfl 6 (by decide) (hts (.fieldLink RX7 26 "HeatBenchModel" "line" "[I") (List.mem_of_getElem? (i := 2) rfl)) (fun _ h9 => h9) rfl dX7_line_15 ?_
    refine lv_iload_n hx hb dX7_line_18 rfl (lv_at hl 1 rfl) ?_
    obtain ⟨h_3, hf⟩ := it_n hf
    refine va_iald hx hb hK hP 1 0 rfl rfl h_3 dX7_line_19 ?_
    refine lv_goto (tgt := 25) hx hb dX7_line_20 (by decide) ?_
    cases hf
    exact W.iret hx hb hr (fun t ht hW => ⟨⟨_, (), rfl, rfl, by rw [ht]; exact hP, hD⟩, hS.F ht⟩) hS.2.2 dX7_line_25
/-! X7_clearBest -/
theorem iw_X7_clearBest_X7 : ∀ w ∈ wsX70, w ∈ wsX7_clearBest := by decide +kernel
set_option maxHeartbeats 4000000 in
set_option maxRecDepth 100000 in
theorem wX7_clearBest_L2 {p : Program} {l : Launch} {e : Env} {s : State} {m : MethodId} {args : Array Value} {below : List Frame} {meth : Method} {c : Code} {dC : Nat → ClassId} {dI : Nat → Nat → Nat} {cI cZ cJ cA : ClassId} {A : Nat → Prop} {h0 : Nat} {v_riders : Int32} {v_rides : Int32} {q_riderOf : Nat} {q_waveOf : Nat} {q_marks : Nat} {v_lineMany : Int32} {q_line : Nat} {q_interfered : Nat} {v_isOpen : Int32} {v_group : Int32} {v_wrong : Int32} {q_stood : Nat} {v_pastMany : Int32} {q_past : Nat} {v_days : Int32} {q_low : Nat} {q_high : Nat} {q_was : Nat} {q_best : Nat} {q_second : Nat} {q_total : Nat} {q_givenTo : Nat} {q_has : Nat} {q_own : Nat} {q_sums : Nat} {q_below : Nat}  {w_best : (Nat → Int32)} {w_second : (Nat → Int32)} {N : Nat}  (hx : p.tables.exec = Jvm.exec) (hb : c.code = cX7_clearBest) (hr : meth.sig.returnType = none) (hml : c.maxLocals = 2) (hown : s.vm.findClass RX7 = some m.cls) (hts : ∀ w ∈ wsX7_clearBest, w.before args s = true) (hlocks : meth.locks = false) (hA : ∀ q : Nat, s.heap.size ≤ q → A q) (hK : va_K (dC, dI) vwCl [(cI, .int), (cZ, .boolean), (cJ, .long), (cA, .array .long)] s) : ∀ (n : Nat) (x1 : Int32) (v_best : Nat → Int32) (v_second : Nat → Int32) (H : Heap) (locs : List Loc) (ls : Array Slot), va_P (dC, dI) vwCl [(h0, .inr (7, [.int v_riders, .int v_rides, .ref q_riderOf, .ref q_waveOf, .ref q_marks, .int v_lineMany, .ref q_line, .ref q_interfered, .int v_isOpen, .int v_group, .int v_wrong, .ref q_stood, .int v_pastMany, .ref q_past, .int v_days, .ref q_low, .ref q_high, .ref q_was, .ref q_best, .ref q_second, .ref q_total, .ref q_givenTo, .ref q_has, .ref q_own, .ref q_sums, .ref q_below])), (q_best, .inl (cI, 4, .inl v_best)), (q_second, .inl (cI, 4, .inl v_second))] H → va_D A [(h0, .inr (7, [.int v_riders, .int v_rides, .ref q_riderOf, .ref q_waveOf, .ref q_marks, .int v_lineMany, .ref q_line, .ref q_interfered, .int v_isOpen, .int v_group, .int v_wrong, .ref q_stood, .int v_pastMany, .ref q_past, .int v_days, .ref q_low, .ref q_high, .ref q_was, .ref q_best, .ref q_second, .ref q_total, .ref q_givenTo, .ref q_has, .ref q_own, .ref q_sums, .ref q_below])), (q_best, .inl (cI, 4, .inl v_best)), (q_second, .inl (cI, 4, .inl v_second))] → va_S A s.heap H locs → lv_has ls 2 [(0, .ref h0), (1, .int x1)] → fX7_clearBest_L2 N v_riders n x1 v_best v_second = some (w_best, w_second) → W p l e (headSpec wsX7_clearBest ({ frames := 0, cells := 0, slots := 0, locals := 0 })).room s m args below meth c H locs 0 0 (MQ below (va_Qv (fun _ : Unit => True) (fun _ t => va_P (dC, dI) vwCl [(h0, .inr (7, [.int v_riders, .int v_rides, .ref q_riderOf, .ref q_waveOf, .ref q_marks, .int v_lineMany, .ref q_line, .ref q_interfered, .int v_isOpen, .int v_group, .int v_wrong, .ref q_stood, .int v_pastMany, .ref q_past, .int v_days, .ref q_low, .ref q_high, .ref q_was, .ref q_best, .ref q_second, .ref q_total, .ref q_givenTo, .ref q_has, .ref q_own, .ref q_sums, .ref q_below])), (q_best, .inl (cI, 4, .inl w_best)), (q_second, .inl (cI, 4, .inl w_second))] t.heap ∧ va_D A [(h0, .inr (7, [.int v_riders, .int v_rides, .ref q_riderOf, .ref q_waveOf, .ref q_marks, .int v_lineMany, .ref q_line, .ref q_interfered, .int v_isOpen, .int v_group, .int v_wrong, .ref q_stood, .int v_pastMany, .ref q_past, .int v_days, .ref q_low, .ref q_high, .ref q_was, .ref q_best, .ref q_second, .ref q_total, .ref q_givenTo, .ref q_has, .ref q_own, .ref q_sums, .ref q_below])), (q_best, .inl (cI, 4, .inl w_best)), (q_second, .inl (cI, 4, .inl w_second))]) A) args s 0 0 A) (F0 m 2 ls []) := by
  intro n
  induction n with
  | zero =>
    intro x1 v_best v_second H locs ls hP hD hS hl hf
    exact nomatch (show (none : Option ((Nat → Int32) × (Nat → Int32))) = some (w_best, w_second) from hf)
  | succ n ih =>
    intro x1 v_best v_second H locs ls hP hD hS hl hf
    rw [fX7_clearBest_L2] at hf
    refine lv_iload_n hx hb dX7_clearBest_2 rfl (lv_at hl 1 rfl) ?_
    refine lv_aload_n hx hb dX7_clearBest_3 rfl (lv_at hl 0 rfl) ?_
    refine va_get (D := (dC, dI)) (ci := 7) (v := .int v_riders) (C := RX7) (T := TX7) (N := 26) hx hb hts iw_X7_clearBest_X7 hown hK hP 0 rfl rfl 0 (by decide) (hts (.fieldLink RX7 7 "HeatBenchModel" "riders" "I") (List.mem_of_getElem? (i := 1) rfl)) (fun _ h9 => h9) rfl dX7_clearBest_4 ?_
    refine lv_icmp_ge (tgt := 30) hx hb dX7_clearBest_7 (by decide) (fun h_1 => ?_) (fun h_1 => ?_)
    · have hf := it_t h_1 hf
      cases hf
      exact W.vret hx hb hr (fun t ht hW => ⟨⟨(), rfl, trivial, by rw [ht]; exact hP, hD⟩, hS.F ht⟩) hS.2.2 dX7_clearBest_30
    · have hf := it_f h_1 hf
      refine lv_aload_n hx hb dX7_clearBest_10 rfl (lv_at hl 0 rfl) ?_
      refine va_get (D := (dC, dI)) (ci := 7) (v := .ref q_best) (C := RX7) (T := TX7) (N := 26) hx hb hts iw_X7_clearBest_X7 hown hK hP 0 rfl rfl 18 (by decide) (hts (.fieldLink RX7 50 "HeatBenchModel" "best" "[I") (List.mem_of_getElem? (i := 2) rfl)) (fun _ h9 => h9) rfl dX7_clearBest_11 ?_
      refine lv_iload_n hx hb dX7_clearBest_14 rfl (lv_at hl 1 rfl) ?_
      refine lv_iconst (v := 0) hx hb dX7_clearBest_15 (by decide) ?_
      obtain ⟨h_2, hf⟩ := it_n hf
      refine va_iast hx hb hK hP hD hS 1 0 rfl rfl h_2 dX7_clearBest_16 (fun H locs hP hD hS => ?_)
      have hP : va_P (dC, dI) vwCl [(h0, .inr (7, [.int v_riders, .int v_rides, .ref q_riderOf, .ref q_waveOf, .ref q_marks, .int v_lineMany, .ref q_line, .ref q_interfered, .int v_isOpen, .int v_group, .int v_wrong, .ref q_stood, .int v_pastMany, .ref q_past, .int v_days, .ref q_low, .ref q_high, .ref q_was, .ref q_best, .ref q_second, .ref q_total, .ref q_givenTo, .ref q_has, .ref q_own, .ref q_sums, .ref q_below])), (q_best, .inl (cI, 4, .inl (upd v_best x1.toNatClampNeg 0))), (q_second, .inl (cI, 4, .inl v_second))] H := hP
      have hD : va_D A [(h0, .inr (7, [.int v_riders, .int v_rides, .ref q_riderOf, .ref q_waveOf, .ref q_marks, .int v_lineMany, .ref q_line, .ref q_interfered, .int v_isOpen, .int v_group, .int v_wrong, .ref q_stood, .int v_pastMany, .ref q_past, .int v_days, .ref q_low, .ref q_high, .ref q_was, .ref q_best, .ref q_second, .ref q_total, .ref q_givenTo, .ref q_has, .ref q_own, .ref q_sums, .ref q_below])), (q_best, .inl (cI, 4, .inl (upd v_best x1.toNatClampNeg 0))), (q_second, .inl (cI, 4, .inl v_second))] := hD
      refine lv_aload_n hx hb dX7_clearBest_17 rfl (lv_at hl 0 rfl) ?_
      refine va_get (D := (dC, dI)) (ci := 7) (v := .ref q_second) (C := RX7) (T := TX7) (N := 26) hx hb hts iw_X7_clearBest_X7 hown hK hP 0 rfl rfl 19 (by decide) (hts (.fieldLink RX7 53 "HeatBenchModel" "second" "[I") (List.mem_of_getElem? (i := 3) rfl)) (fun _ h9 => h9) rfl dX7_clearBest_18 ?_
      refine lv_iload_n hx hb dX7_clearBest_21 rfl (lv_at hl 1 rfl) ?_
      refine lv_iconst (v := 0) hx hb dX7_clearBest_22 (by decide) ?_
      refine va_iast hx hb hK hP hD hS 2 0 rfl rfl h_2 dX7_clearBest_23 (fun H locs hP hD hS => ?_)
      have hP : va_P (dC, dI) vwCl [(h0, .inr (7, [.int v_riders, .int v_rides, .ref q_riderOf, .ref q_waveOf, .ref q_marks, .int v_lineMany, .ref q_line, .ref q_interfered, .int v_isOpen, .int v_group, .int v_wrong, .ref q_stood, .int v_pastMany, .ref q_past, .int v_days, .ref q_low, .ref q_high, .ref q_was, .ref q_best, .ref q_second, .ref q_total, .ref q_givenTo, .ref q_has, .ref q_own, .ref q_sums, .ref q_below])), (q_best, .inl (cI, 4, .inl (upd v_best x1.toNatClampNeg 0))), (q_second, .inl (cI, 4, .inl (upd v_second x1.toNatClampNeg 0)))] H := hP
      have hD : va_D A [(h0, .inr (7, [.int v_riders, .int v_rides, .ref q_riderOf, .ref q_waveOf, .ref q_marks, .int v_lineMany, .ref q_line, .ref q_interfered, .int v_isOpen, .int v_group, .int v_wrong, .ref q_stood, .int v_pastMany, .ref q_past, .int v_days, .ref q_low, .ref q_high, .ref q_was, .ref q_best, .ref q_second, .ref q_total, .ref q_givenTo, .ref q_has, .ref q_own, .ref q_sums, .ref q_below])), (q_best, .inl (cI, 4, .inl (upd v_best x1.toNatClampNeg 0))), (q_second, .inl (cI, 4, .inl (upd v_second x1.toNatClampNeg 0)))] := hD
      refine lv_iinc (v := x1 + 1) (lv' := [(1, .int (x1 + 1)), (0, .ref h0)]) hx hb dX7_clearBest_24 hl (k := 1) rfl rfl (by decide) rfl (fun ls hl => ?_)
      refine lv_goto (tgt := 2) hx hb dX7_clearBest_27 (by decide) ?_
      exact ih (x1 + 1) (upd v_best x1.toNatClampNeg 0) (upd v_second x1.toNatClampNeg 0) H locs ls hP hD hS (lv_sub hl [1, 0] rfl) hf
set_option maxHeartbeats 4000000 in
set_option maxRecDepth 100000 in
theorem tX7_clearBest (l : Launch) (dC : Nat → ClassId) (dI : Nat → Nat → Nat) (cI cZ cJ cA : ClassId) (sz : Nat) (h0 : Nat) (v_riders : Int32) (v_rides : Int32) (q_riderOf : Nat) (q_waveOf : Nat) (q_marks : Nat) (v_lineMany : Int32) (q_line : Nat) (q_interfered : Nat) (v_isOpen : Int32) (v_group : Int32) (v_wrong : Int32) (q_stood : Nat) (v_pastMany : Int32) (q_past : Nat) (v_days : Int32) (q_low : Nat) (q_high : Nat) (q_was : Nat) (q_best : Nat) (q_second : Nat) (q_total : Nat) (q_givenTo : Nat) (q_has : Nat) (q_own : Nat) (q_sums : Nat) (q_below : Nat) (v_best : Nat → Int32) (v_second : Nat → Int32)  (N : Nat) (w_best : (Nat → Int32)) (w_second : (Nat → Int32)) (hf : fX7_clearBest N v_riders v_best v_second = some (w_best, w_second)) : Met l yX7_clearBest wsX7_clearBest ({ frames := 0, cells := 0, slots := 0, locals := 0 }) (va_Pc [.ref h0] (fun U => U.heap.size = sz ∧ va_P (dC, dI) vwCl [(h0, .inr (7, [.int v_riders, .int v_rides, .ref q_riderOf, .ref q_waveOf, .ref q_marks, .int v_lineMany, .ref q_line, .ref q_interfered, .int v_isOpen, .int v_group, .int v_wrong, .ref q_stood, .int v_pastMany, .ref q_past, .int v_days, .ref q_low, .ref q_high, .ref q_was, .ref q_best, .ref q_second, .ref q_total, .ref q_givenTo, .ref q_has, .ref q_own, .ref q_sums, .ref q_below])), (q_best, .inl (cI, 4, .inl v_best)), (q_second, .inl (cI, 4, .inl v_second))] U.heap ∧ va_K (dC, dI) vwCl [(cI, .int), (cZ, .boolean), (cJ, .long), (cA, .array .long)] U ∧ va_D (fun _ => True) [(h0, .inr (7, [.int v_riders, .int v_rides, .ref q_riderOf, .ref q_waveOf, .ref q_marks, .int v_lineMany, .ref q_line, .ref q_interfered, .int v_isOpen, .int v_group, .int v_wrong, .ref q_stood, .int v_pastMany, .ref q_past, .int v_days, .ref q_low, .ref q_high, .ref q_was, .ref q_best, .ref q_second, .ref q_total, .ref q_givenTo, .ref q_has, .ref q_own, .ref q_sums, .ref q_below])), (q_best, .inl (cI, 4, .inl v_best)), (q_second, .inl (cI, 4, .inl v_second))])) (va_Qv (fun _ : Unit => True) (fun _ t => va_P (dC, dI) vwCl [(h0, .inr (7, [.int v_riders, .int v_rides, .ref q_riderOf, .ref q_waveOf, .ref q_marks, .int v_lineMany, .ref q_line, .ref q_interfered, .int v_isOpen, .int v_group, .int v_wrong, .ref q_stood, .int v_pastMany, .ref q_past, .int v_days, .ref q_low, .ref q_high, .ref q_was, .ref q_best, .ref q_second, .ref q_total, .ref q_givenTo, .ref q_has, .ref q_own, .ref q_sums, .ref q_below])), (q_best, .inl (cI, 4, .inl w_best)), (q_second, .inl (cI, 4, .inl w_second))] t.heap ∧ va_D (va_A [(h0, .inr (7, [.int v_riders, .int v_rides, .ref q_riderOf, .ref q_waveOf, .ref q_marks, .int v_lineMany, .ref q_line, .ref q_interfered, .int v_isOpen, .int v_group, .int v_wrong, .ref q_stood, .int v_pastMany, .ref q_past, .int v_days, .ref q_low, .ref q_high, .ref q_was, .ref q_best, .ref q_second, .ref q_total, .ref q_givenTo, .ref q_has, .ref q_own, .ref q_sums, .ref q_below])), (q_best, .inl (cI, 4, .inl v_best)), (q_second, .inl (cI, 4, .inl v_second))] sz) [(h0, .inr (7, [.int v_riders, .int v_rides, .ref q_riderOf, .ref q_waveOf, .ref q_marks, .int v_lineMany, .ref q_line, .ref q_interfered, .int v_isOpen, .int v_group, .int v_wrong, .ref q_stood, .int v_pastMany, .ref q_past, .int v_days, .ref q_low, .ref q_high, .ref q_was, .ref q_best, .ref q_second, .ref q_total, .ref q_givenTo, .ref q_has, .ref q_own, .ref q_sums, .ref q_below])), (q_best, .inl (cI, 4, .inl w_best)), (q_second, .inl (cI, 4, .inl w_second))]) (va_A [(h0, .inr (7, [.int v_riders, .int v_rides, .ref q_riderOf, .ref q_waveOf, .ref q_marks, .int v_lineMany, .ref q_line, .ref q_interfered, .int v_isOpen, .int v_group, .int v_wrong, .ref q_stood, .int v_pastMany, .ref q_past, .int v_days, .ref q_low, .ref q_high, .ref q_was, .ref q_best, .ref q_second, .ref q_total, .ref q_givenTo, .ref q_has, .ref q_own, .ref q_sums, .ref q_below])), (q_best, .inl (cI, 4, .inl v_best)), (q_second, .inl (cI, 4, .inl v_second))] sz)) 0 0 (va_A [(h0, .inr (7, [.int v_riders, .int v_rides, .ref q_riderOf, .ref q_waveOf, .ref q_marks, .int v_lineMany, .ref q_line, .ref q_interfered, .int v_isOpen, .int v_group, .int v_wrong, .ref q_stood, .int v_pastMany, .ref q_past, .int v_days, .ref q_low, .ref q_high, .ref q_was, .ref q_best, .ref q_second, .ref q_total, .ref q_givenTo, .ref q_has, .ref q_own, .ref q_sums, .ref q_below])), (q_best, .inl (cI, 4, .inl v_best)), (q_second, .inl (cI, 4, .inl v_second))] sz) := by
  refine Met.ofW (cc := cX7_clearBest) (maxL := 2) (ret := none) (by decide) rfl ?_
  intro p e s m args below meth c s₁ B hml hv
  obtain ⟨rfl, hsz, hP, hK, hD0⟩ := hv
  have hx := B.exec
  have hb := B.bytes
  have hr := B.returns
  have hts := atoms_spec (ws := wsX7_clearBest) B.pre
  have hown : s.vm.findClass RX7 = some m.cls := findClass_of_methodNamed B.named
  have hlocks := B.notSynchronized
  subst hsz
  have hD := hD0.self (sz := s.heap.size)
  generalize hAe : va_A [(h0, .inr (7, [.int v_riders, .int v_rides, .ref q_riderOf, .ref q_waveOf, .ref q_marks, .int v_lineMany, .ref q_line, .ref q_interfered, .int v_isOpen, .int v_group, .int v_wrong, .ref q_stood, .int v_pastMany, .ref q_past, .int v_days, .ref q_low, .ref q_high, .ref q_was, .ref q_best, .ref q_second, .ref q_total, .ref q_givenTo, .ref q_has, .ref q_own, .ref q_sums, .ref q_below])), (q_best, .inl (cI, 4, .inl v_best)), (q_second, .inl (cI, 4, .inl v_second))] s.heap.size = A at hD ⊢
  have hA : ∀ q : Nat, s.heap.size ≤ q → A q := fun q h => by rw [← hAe]; exact Or.inr h
  have hS : va_S A s.heap s.heap [] := va_S.rf
  have hl := lv_entry ([.ref h0]) (n := 2) (Nat.le_of_ble_eq_true rfl)
  rw [lg_entry_eq]
  generalize (lg_sl ([.ref h0]) ++ List.replicate (2 - (lg_sl ([.ref h0])).length) Slot.unset).toArray = ls at hl ⊢
  have hl : lv_has ls 2 [(0, .ref h0)] := hl
  refine vx_gen hP hS (fun H locs hP hS => ?_)
  unfold fX7_clearBest at hf
  refine lv_iconst (v := 0) hx hb dX7_clearBest_0 (by decide) ?_
  refine lv_istore_n (lv' := [(1, .int 0), (0, .ref h0)]) hx hb dX7_clearBest_1 rfl hl (by decide) rfl (fun ls hl => ?_)
  exact wX7_clearBest_L2 hx hb hr hml hown hts hlocks hA hK N 0 v_best v_second H locs ls hP hD hS (lv_sub hl [1, 0] rfl) hf
/-! X7_counts -/
theorem iw_X7_counts_X7 : ∀ w ∈ wsX70, w ∈ wsX7_counts := by decide +kernel
set_option maxHeartbeats 4000000 in
set_option maxRecDepth 100000 in
theorem tX7_counts (l : Launch) (dC : Nat → ClassId) (dI : Nat → Nat → Nat) (cI cZ cJ cA : ClassId) (sz : Nat) (h0 : Nat) (v_riders : Int32) (v_rides : Int32) (q_riderOf : Nat) (q_waveOf : Nat) (q_marks : Nat) (v_lineMany : Int32) (q_line : Nat) (q_interfered : Nat) (v_isOpen : Int32) (v_group : Int32) (v_wrong : Int32) (q_stood : Nat) (v_pastMany : Int32) (q_past : Nat) (v_days : Int32) (q_low : Nat) (q_high : Nat) (q_was : Nat) (q_best : Nat) (q_second : Nat) (q_total : Nat) (q_givenTo : Nat) (q_has : Nat) (q_own : Nat) (q_sums : Nat) (q_below : Nat) (v_best : Nat → Int32) (v_second : Nat → Int32) (x1 : Int32) (x2 : Int32) (N : Nat) (w_best : (Nat → Int32)) (w_second : (Nat → Int32)) (hf : fX7_counts N x1 x2 v_best v_second = some (w_best, w_second)) : Met l yX7_counts wsX7_counts ({ frames := 0, cells := 0, slots := 0, locals := 0 }) (va_Pc [.ref h0, .int x1, .int x2] (fun U => U.heap.size = sz ∧ va_P (dC, dI) vwCl [(h0, .inr (7, [.int v_riders, .int v_rides, .ref q_riderOf, .ref q_waveOf, .ref q_marks, .int v_lineMany, .ref q_line, .ref q_interfered, .int v_isOpen, .int v_group, .int v_wrong, .ref q_stood, .int v_pastMany, .ref q_past, .int v_days, .ref q_low, .ref q_high, .ref q_was, .ref q_best, .ref q_second, .ref q_total, .ref q_givenTo, .ref q_has, .ref q_own, .ref q_sums, .ref q_below])), (q_best, .inl (cI, 4, .inl v_best)), (q_second, .inl (cI, 4, .inl v_second))] U.heap ∧ va_K (dC, dI) vwCl [(cI, .int), (cZ, .boolean), (cJ, .long), (cA, .array .long)] U ∧ va_D (fun _ => True) [(h0, .inr (7, [.int v_riders, .int v_rides, .ref q_riderOf, .ref q_waveOf, .ref q_marks, .int v_lineMany, .ref q_line, .ref q_interfered, .int v_isOpen, .int v_group, .int v_wrong, .ref q_stood, .int v_pastMany, .ref q_past, .int v_days, .ref q_low, .ref q_high, .ref q_was, .ref q_best, .ref q_second, .ref q_total, .ref q_givenTo, .ref q_has, .ref q_own, .ref q_sums, .ref q_below])), (q_best, .inl (cI, 4, .inl v_best)), (q_second, .inl (cI, 4, .inl v_second))])) (va_Qv (fun _ : Unit => True) (fun _ t => va_P (dC, dI) vwCl [(h0, .inr (7, [.int v_riders, .int v_rides, .ref q_riderOf, .ref q_waveOf, .ref q_marks, .int v_lineMany, .ref q_line, .ref q_interfered, .int v_isOpen, .int v_group, .int v_wrong, .ref q_stood, .int v_pastMany, .ref q_past, .int v_days, .ref q_low, .ref q_high, .ref q_was, .ref q_best, .ref q_second, .ref q_total, .ref q_givenTo, .ref q_has, .ref q_own, .ref q_sums, .ref q_below])), (q_best, .inl (cI, 4, .inl w_best)), (q_second, .inl (cI, 4, .inl w_second))] t.heap ∧ va_D (va_A [(h0, .inr (7, [.int v_riders, .int v_rides, .ref q_riderOf, .ref q_waveOf, .ref q_marks, .int v_lineMany, .ref q_line, .ref q_interfered, .int v_isOpen, .int v_group, .int v_wrong, .ref q_stood, .int v_pastMany, .ref q_past, .int v_days, .ref q_low, .ref q_high, .ref q_was, .ref q_best, .ref q_second, .ref q_total, .ref q_givenTo, .ref q_has, .ref q_own, .ref q_sums, .ref q_below])), (q_best, .inl (cI, 4, .inl v_best)), (q_second, .inl (cI, 4, .inl v_second))] sz) [(h0, .inr (7, [.int v_riders, .int v_rides, .ref q_riderOf, .ref q_waveOf, .ref q_marks, .int v_lineMany, .ref q_line, .ref q_interfered, .int v_isOpen, .int v_group, .int v_wrong, .ref q_stood, .int v_pastMany, .ref q_past, .int v_days, .ref q_low, .ref q_high, .ref q_was, .ref q_best, .ref q_second, .ref q_total, .ref q_givenTo, .ref q_has, .ref q_own, .ref q_sums, .ref q_below])), (q_best, .inl (cI, 4, .inl w_best)), (q_second, .inl (cI, 4, .inl w_second))]) (va_A [(h0, .inr (7, [.int v_riders, .int v_rides, .ref q_riderOf, .ref q_waveOf, .ref q_marks, .int v_lineMany, .ref q_line, .ref q_interfered, .int v_isOpen, .int v_group, .int v_wrong, .ref q_stood, .int v_pastMany, .ref q_past, .int v_days, .ref q_low, .ref q_high, .ref q_was, .ref q_best, .ref q_second, .ref q_total, .ref q_givenTo, .ref q_has, .ref q_own, .ref q_sums, .ref q_below])), (q_best, .inl (cI, 4, .inl v_best)), (q_second, .inl (cI, 4, .inl v_second))] sz)) 0 0 (va_A [(h0, .inr (7, [.int v_riders, .int v_rides, .ref q_riderOf, .ref q_waveOf, .ref q_marks, .int v_lineMany, .ref q_line, .ref q_interfered, .int v_isOpen, .int v_group, .int v_wrong, .ref q_stood, .int v_pastMany, .ref q_past, .int v_days, .ref q_low, .ref q_high, .ref q_was, .ref q_best, .ref q_second, .ref q_total, .ref q_givenTo, .ref q_has, .ref q_own, .ref q_sums, .ref q_below])), (q_best, .inl (cI, 4, .inl v_best)), (q_second, .inl (cI, 4, .inl v_second))] sz) := by
  refine Met.ofW (cc := cX7_counts) (maxL := 3) (ret := none) (by decide) rfl ?_
  intro p e s m args below meth c s₁ B hml hv
  obtain ⟨rfl, hsz, hP, hK, hD0⟩ := hv
  have hx := B.exec
  have hb := B.bytes
  have hr := B.returns
  have hts := atoms_spec (ws := wsX7_counts) B.pre
  have hown : s.vm.findClass RX7 = some m.cls := findClass_of_methodNamed B.named
  have hlocks := B.notSynchronized
  subst hsz
  have hD := hD0.self (sz := s.heap.size)
  generalize hAe : va_A [(h0, .inr (7, [.int v_riders, .int v_rides, .ref q_riderOf, .ref q_waveOf, .ref q_marks, .int v_lineMany, .ref q_line, .ref q_interfered, .int v_isOpen, .int v_group, .int v_wrong, .ref q_stood, .int v_pastMany, .ref q_past, .int v_days, .ref q_low, .ref q_high, .ref q_was, .ref q_best, .ref q_second, .ref q_total, .ref q_givenTo, .ref q_has, .ref q_own, .ref q_sums, .ref q_below])), (q_best, .inl (cI, 4, .inl v_best)), (q_second, .inl (cI, 4, .inl v_second))] s.heap.size = A at hD ⊢
  have hA : ∀ q : Nat, s.heap.size ≤ q → A q := fun q h => by rw [← hAe]; exact Or.inr h
  have hS : va_S A s.heap s.heap [] := va_S.rf
  have hl := lv_entry ([.ref h0, .int x1, .int x2]) (n := 3) (Nat.le_of_ble_eq_true rfl)
  rw [lg_entry_eq]
  generalize (lg_sl ([.ref h0, .int x1, .int x2]) ++ List.replicate (3 - (lg_sl ([.ref h0, .int x1, .int x2])).length) Slot.unset).toArray = ls at hl ⊢
  have hl : lv_has ls 3 [(0, .ref h0), (1, .int x1), (2, .int x2)] := hl
  refine vx_gen hP hS (fun H locs hP hS => ?_)
  unfold fX7_counts at hf
  refine lv_iload_n hx hb dX7_counts_0 rfl (lv_at hl 2 rfl) ?_
  refine lv_aload_n hx hb dX7_counts_1 rfl (lv_at hl 0 rfl) ?_
  refine va_get (D := (dC, dI)) (ci := 7) (v := .ref q_best) (C := RX7) (T := TX7) (N := 26) hx hb hts iw_X7_counts_X7 hown hK hP 0 rfl rfl 18 (by decide) (hts (.fieldLink RX7 50 "HeatBenchModel" "best" "[I") (List.mem_of_getElem? (i := 1) rfl)) (fun _ h9 => h9) rfl dX7_counts_2 ?_
  refine lv_iload_n hx hb dX7_counts_5 rfl (lv_at hl 1 rfl) ?_
  obtain ⟨h_1, hf⟩ := it_n hf
  refine va_iald hx hb hK hP 1 0 rfl rfl h_1 dX7_counts_6 ?_
  refine lv_icmp_le (tgt := 32) hx hb dX7_counts_7 (by decide) (fun h_2 => ?_) (fun h_2 => ?_)
  · have hf := it_t h_2 hf
    refine lv_iload_n hx hb dX7_counts_32 rfl (lv_at hl 2 rfl) ?_
    refine lv_aload_n hx hb dX7_counts_33 rfl (lv_at hl 0 rfl) ?_
    refine va_get (D := (dC, dI)) (ci := 7) (v := .ref q_second) (C := RX7) (T := TX7) (N := 26) hx hb hts iw_X7_counts_X7 hown hK hP 0 rfl rfl 19 (by decide) (hts (.fieldLink RX7 53 "HeatBenchModel" "second" "[I") (List.mem_of_getElem? (i := 2) rfl)) (fun _ h9 => h9) rfl dX7_counts_34 ?_
    refine lv_iload_n hx hb dX7_counts_37 rfl (lv_at hl 1 rfl) ?_
    refine va_iald hx hb hK hP 2 0 rfl rfl h_1 dX7_counts_38 ?_
    refine lv_icmp_le (tgt := 49) hx hb dX7_counts_39 (by decide) (fun h_3 => ?_) (fun h_3 => ?_)
    · have hf := it_t h_3 hf
      cases hf
      exact W.vret hx hb hr (fun t ht hW => ⟨⟨(), rfl, trivial, by rw [ht]; exact hP, hD⟩, hS.F ht⟩) hS.2.2 dX7_counts_49
    · have hf := it_f h_3 hf
      refine lv_aload_n hx hb dX7_counts_42 rfl (lv_at hl 0 rfl) ?_
      refine va_get (D := (dC, dI)) (ci := 7) (v := .ref q_second) (C := RX7) (T := TX7) (N := 26) hx hb hts iw_X7_counts_X7 hown hK hP 0 rfl rfl 19 (by decide) (hts (.fieldLink RX7 53 "HeatBenchModel" "second" "[I") (List.mem_of_getElem? (i := 2) rfl)) (fun _ h9 => h9) rfl dX7_counts_43 ?_
      refine lv_iload_n hx hb dX7_counts_46 rfl (lv_at hl 1 rfl) ?_
      refine lv_iload_n hx hb dX7_counts_47 rfl (lv_at hl 2 rfl) ?_
      refine va_iast hx hb hK hP hD hS 2 0 rfl rfl h_1 dX7_counts_48 (fun H locs hP hD hS => ?_)
      have hP : va_P (dC, dI) vwCl [(h0, .inr (7, [.int v_riders, .int v_rides, .ref q_riderOf, .ref q_waveOf, .ref q_marks, .int v_lineMany, .ref q_line, .ref q_interfered, .int v_isOpen, .int v_group, .int v_wrong, .ref q_stood, .int v_pastMany, .ref q_past, .int v_days, .ref q_low, .ref q_high, .ref q_was, .ref q_best, .ref q_second, .ref q_total, .ref q_givenTo, .ref q_has, .ref q_own, .ref q_sums, .ref q_below])), (q_best, .inl (cI, 4, .inl v_best)), (q_second, .inl (cI, 4, .inl (upd v_second x1.toNatClampNeg x2)))] H := hP
      have hD : va_D A [(h0, .inr (7, [.int v_riders, .int v_rides, .ref q_riderOf, .ref q_waveOf, .ref q_marks, .int v_lineMany, .ref q_line, .ref q_interfered, .int v_isOpen, .int v_group, .int v_wrong, .ref q_stood, .int v_pastMany, .ref q_past, .int v_days, .ref q_low, .ref q_high, .ref q_was, .ref q_best, .ref q_second, .ref q_total, .ref q_givenTo, .ref q_has, .ref q_own, .ref q_sums, .ref q_below])), (q_best, .inl (cI, 4, .inl v_best)), (q_second, .inl (cI, 4, .inl (upd v_second x1.toNatClampNeg x2)))] := hD
      cases hf
      exact W.vret hx hb hr (fun t ht hW => ⟨⟨(), rfl, trivial, by rw [ht]; exact hP, hD⟩, hS.F ht⟩) hS.2.2 dX7_counts_49
  · have hf := it_f h_2 hf
    refine lv_aload_n hx hb dX7_counts_10 rfl (lv_at hl 0 rfl) ?_
    refine va_get (D := (dC, dI)) (ci := 7) (v := .ref q_second) (C := RX7) (T := TX7) (N := 26) hx hb hts iw_X7_counts_X7 hown hK hP 0 rfl rfl 19 (by decide) (hts (.fieldLink RX7 53 "HeatBenchModel" "second" "[I") (List.mem_of_getElem? (i := 2) rfl)) (fun _ h9 => h9) rfl dX7_counts_11 ?_
    refine lv_iload_n hx hb dX7_counts_14 rfl (lv_at hl 1 rfl) ?_
    refine lv_aload_n hx hb dX7_counts_15 rfl (lv_at hl 0 rfl) ?_
    refine va_get (D := (dC, dI)) (ci := 7) (v := .ref q_best) (C := RX7) (T := TX7) (N := 26) hx hb hts iw_X7_counts_X7 hown hK hP 0 rfl rfl 18 (by decide) (hts (.fieldLink RX7 50 "HeatBenchModel" "best" "[I") (List.mem_of_getElem? (i := 1) rfl)) (fun _ h9 => h9) rfl dX7_counts_16 ?_
    refine lv_iload_n hx hb dX7_counts_19 rfl (lv_at hl 1 rfl) ?_
    refine va_iald hx hb hK hP 1 0 rfl rfl h_1 dX7_counts_20 ?_
    refine va_iast hx hb hK hP hD hS 2 0 rfl rfl h_1 dX7_counts_21 (fun H locs hP hD hS => ?_)
    have hP : va_P (dC, dI) vwCl [(h0, .inr (7, [.int v_riders, .int v_rides, .ref q_riderOf, .ref q_waveOf, .ref q_marks, .int v_lineMany, .ref q_line, .ref q_interfered, .int v_isOpen, .int v_group, .int v_wrong, .ref q_stood, .int v_pastMany, .ref q_past, .int v_days, .ref q_low, .ref q_high, .ref q_was, .ref q_best, .ref q_second, .ref q_total, .ref q_givenTo, .ref q_has, .ref q_own, .ref q_sums, .ref q_below])), (q_best, .inl (cI, 4, .inl v_best)), (q_second, .inl (cI, 4, .inl (upd v_second x1.toNatClampNeg (v_best x1.toNatClampNeg))))] H := hP
    have hD : va_D A [(h0, .inr (7, [.int v_riders, .int v_rides, .ref q_riderOf, .ref q_waveOf, .ref q_marks, .int v_lineMany, .ref q_line, .ref q_interfered, .int v_isOpen, .int v_group, .int v_wrong, .ref q_stood, .int v_pastMany, .ref q_past, .int v_days, .ref q_low, .ref q_high, .ref q_was, .ref q_best, .ref q_second, .ref q_total, .ref q_givenTo, .ref q_has, .ref q_own, .ref q_sums, .ref q_below])), (q_best, .inl (cI, 4, .inl v_best)), (q_second, .inl (cI, 4, .inl (upd v_second x1.toNatClampNeg (v_best x1.toNatClampNeg))))] := hD
    refine lv_aload_n hx hb dX7_counts_22 rfl (lv_at hl 0 rfl) ?_
    refine va_get (D := (dC, dI)) (ci := 7) (v := .ref q_best) (C := RX7) (T := TX7) (N := 26) hx hb hts iw_X7_counts_X7 hown hK hP 0 rfl rfl 18 (by decide) (hts (.fieldLink RX7 50 "HeatBenchModel" "best" "[I") (List.mem_of_getElem? (i := 1) rfl)) (fun _ h9 => h9) rfl dX7_counts_23 ?_
    refine lv_iload_n hx hb dX7_counts_26 rfl (lv_at hl 1 rfl) ?_
    refine lv_iload_n hx hb dX7_counts_27 rfl (lv_at hl 2 rfl) ?_
    refine va_iast hx hb hK hP hD hS 1 0 rfl rfl h_1 dX7_counts_28 (fun H locs hP hD hS => ?_)
    have hP : va_P (dC, dI) vwCl [(h0, .inr (7, [.int v_riders, .int v_rides, .ref q_riderOf, .ref q_waveOf, .ref q_marks, .int v_lineMany, .ref q_line, .ref q_interfered, .int v_isOpen, .int v_group, .int v_wrong, .ref q_stood, .int v_pastMany, .ref q_past, .int v_days, .ref q_low, .ref q_high, .ref q_was, .ref q_best, .ref q_second, .ref q_total, .ref q_givenTo, .ref q_has, .ref q_own, .ref q_sums, .ref q_below])), (q_best, .inl (cI, 4, .inl (upd v_best x1.toNatClampNeg x2))), (q_second, .inl (cI, 4, .inl (upd v_second x1.toNatClampNeg (v_best x1.toNatClampNeg))))] H := hP
    have hD : va_D A [(h0, .inr (7, [.int v_riders, .int v_rides, .ref q_riderOf, .ref q_waveOf, .ref q_marks, .int v_lineMany, .ref q_line, .ref q_interfered, .int v_isOpen, .int v_group, .int v_wrong, .ref q_stood, .int v_pastMany, .ref q_past, .int v_days, .ref q_low, .ref q_high, .ref q_was, .ref q_best, .ref q_second, .ref q_total, .ref q_givenTo, .ref q_has, .ref q_own, .ref q_sums, .ref q_below])), (q_best, .inl (cI, 4, .inl (upd v_best x1.toNatClampNeg x2))), (q_second, .inl (cI, 4, .inl (upd v_second x1.toNatClampNeg (v_best x1.toNatClampNeg))))] := hD
    refine lv_goto (tgt := 49) hx hb dX7_counts_29 (by decide) ?_
    cases hf
    exact W.vret hx hb hr (fun t ht hW => ⟨⟨(), rfl, trivial, by rw [ht]; exact hP, hD⟩, hS.F ht⟩) hS.2.2 dX7_counts_49
/-! X7_findTotals -/
theorem iw_X7_findTotals_X7 : ∀ w ∈ wsX70, w ∈ wsX7_findTotals := by decide +kernel
set_option maxHeartbeats 4000000 in
set_option maxRecDepth 100000 in
theorem wX7_findTotals_L2 {p : Program} {l : Launch} {e : Env} {s : State} {m : MethodId} {args : Array Value} {below : List Frame} {meth : Method} {c : Code} {dC : Nat → ClassId} {dI : Nat → Nat → Nat} {cI cZ cJ cA : ClassId} {A : Nat → Prop} {h0 : Nat} {v_riders : Int32} {v_rides : Int32} {q_riderOf : Nat} {q_waveOf : Nat} {q_marks : Nat} {v_lineMany : Int32} {q_line : Nat} {q_interfered : Nat} {v_isOpen : Int32} {v_group : Int32} {v_wrong : Int32} {q_stood : Nat} {v_pastMany : Int32} {q_past : Nat} {v_days : Int32} {q_low : Nat} {q_high : Nat} {q_was : Nat} {q_best : Nat} {q_second : Nat} {q_total : Nat} {q_givenTo : Nat} {q_has : Nat} {q_own : Nat} {q_sums : Nat} {q_below : Nat} {v_interfered : Nat → Int32} {v_best : Nat → Int32} {v_second : Nat → Int32}  {w_total : (Nat → Int32)} {N : Nat}  (hx : p.tables.exec = Jvm.exec) (hb : c.code = cX7_findTotals) (hr : meth.sig.returnType = none) (hml : c.maxLocals = 2) (hown : s.vm.findClass RX7 = some m.cls) (hts : ∀ w ∈ wsX7_findTotals, w.before args s = true) (hlocks : meth.locks = false) (hA : ∀ q : Nat, s.heap.size ≤ q → A q) (hK : va_K (dC, dI) vwCl [(cI, .int), (cZ, .boolean), (cJ, .long), (cA, .array .long)] s) : ∀ (n : Nat) (x1 : Int32) (v_total : Nat → Int32) (H : Heap) (locs : List Loc) (ls : Array Slot), va_P (dC, dI) vwCl [(h0, .inr (7, [.int v_riders, .int v_rides, .ref q_riderOf, .ref q_waveOf, .ref q_marks, .int v_lineMany, .ref q_line, .ref q_interfered, .int v_isOpen, .int v_group, .int v_wrong, .ref q_stood, .int v_pastMany, .ref q_past, .int v_days, .ref q_low, .ref q_high, .ref q_was, .ref q_best, .ref q_second, .ref q_total, .ref q_givenTo, .ref q_has, .ref q_own, .ref q_sums, .ref q_below])), (q_interfered, .inl (cI, 4, .inl v_interfered)), (q_best, .inl (cI, 4, .inl v_best)), (q_second, .inl (cI, 4, .inl v_second)), (q_total, .inl (cI, 4, .inl v_total))] H → va_D A [(h0, .inr (7, [.int v_riders, .int v_rides, .ref q_riderOf, .ref q_waveOf, .ref q_marks, .int v_lineMany, .ref q_line, .ref q_interfered, .int v_isOpen, .int v_group, .int v_wrong, .ref q_stood, .int v_pastMany, .ref q_past, .int v_days, .ref q_low, .ref q_high, .ref q_was, .ref q_best, .ref q_second, .ref q_total, .ref q_givenTo, .ref q_has, .ref q_own, .ref q_sums, .ref q_below])), (q_interfered, .inl (cI, 4, .inl v_interfered)), (q_best, .inl (cI, 4, .inl v_best)), (q_second, .inl (cI, 4, .inl v_second)), (q_total, .inl (cI, 4, .inl v_total))] → va_S A s.heap H locs → lv_has ls 2 [(0, .ref h0), (1, .int x1)] → fX7_findTotals_L2 N v_riders v_interfered v_best v_second n x1 v_total = some w_total → W p l e (headSpec wsX7_findTotals ({ frames := 0, cells := 0, slots := 0, locals := 0 })).room s m args below meth c H locs 0 0 (MQ below (va_Qv (fun _ : Unit => True) (fun _ t => va_P (dC, dI) vwCl [(h0, .inr (7, [.int v_riders, .int v_rides, .ref q_riderOf, .ref q_waveOf, .ref q_marks, .int v_lineMany, .ref q_line, .ref q_interfered, .int v_isOpen, .int v_group, .int v_wrong, .ref q_stood, .int v_pastMany, .ref q_past, .int v_days, .ref q_low, .ref q_high, .ref q_was, .ref q_best, .ref q_second, .ref q_total, .ref q_givenTo, .ref q_has, .ref q_own, .ref q_sums, .ref q_below])), (q_interfered, .inl (cI, 4, .inl v_interfered)), (q_best, .inl (cI, 4, .inl v_best)), (q_second, .inl (cI, 4, .inl v_second)), (q_total, .inl (cI, 4, .inl w_total))] t.heap ∧ va_D A [(h0, .inr (7, [.int v_riders, .int v_rides, .ref q_riderOf, .ref q_waveOf, .ref q_marks, .int v_lineMany, .ref q_line, .ref q_interfered, .int v_isOpen, .int v_group, .int v_wrong, .ref q_stood, .int v_pastMany, .ref q_past, .int v_days, .ref q_low, .ref q_high, .ref q_was, .ref q_best, .ref q_second, .ref q_total, .ref q_givenTo, .ref q_has, .ref q_own, .ref q_sums, .ref q_below])), (q_interfered, .inl (cI, 4, .inl v_interfered)), (q_best, .inl (cI, 4, .inl v_best)), (q_second, .inl (cI, 4, .inl v_second)), (q_total, .inl (cI, 4, .inl w_total))]) A) args s 0 0 A) (F0 m 2 ls []) := by
  intro n
  induction n with
  | zero =>
    intro x1 v_total H locs ls hP hD hS hl hf
    exact nomatch (show (none : Option ((Nat → Int32))) = some w_total from hf)
  | succ n ih =>
    intro x1 v_total H locs ls hP hD hS hl hf
    rw [fX7_findTotals_L2] at hf
    refine lv_iload_n hx hb dX7_findTotals_2 rfl (lv_at hl 1 rfl) ?_
    refine lv_aload_n hx hb dX7_findTotals_3 rfl (lv_at hl 0 rfl) ?_
    refine va_get (D := (dC, dI)) (ci := 7) (v := .int v_riders) (C := RX7) (T := TX7) (N := 26) hx hb hts iw_X7_findTotals_X7 hown hK hP 0 rfl rfl 0 (by decide) (hts (.fieldLink RX7 7 "HeatBenchModel" "riders" "I") (List.mem_of_getElem? (i := 1) rfl)) (fun _ h9 => h9) rfl dX7_findTotals_4 ?_
    refine lv_icmp_ge (tgt := 83) hx hb dX7_findTotals_7 (by decide) (fun h_1 => ?_) (fun h_1 => ?_)
    · have hf := it_t h_1 hf
      cases hf
      exact W.vret hx hb hr (fun t ht hW => ⟨⟨(), rfl, trivial, by rw [ht]; exact hP, hD⟩, hS.F ht⟩) hS.2.2 dX7_findTotals_83
    · have hf := it_f h_1 hf
      refine lv_aload_n hx hb dX7_findTotals_10 rfl (lv_at hl 0 rfl) ?_
      refine va_get (D := (dC, dI)) (ci := 7) (v := .ref q_total) (C := RX7) (T := TX7) (N := 26) hx hb hts iw_X7_findTotals_X7 hown hK hP 0 rfl rfl 20 (by decide) (hts (.fieldLink RX7 56 "HeatBenchModel" "total" "[I") (List.mem_of_getElem? (i := 2) rfl)) (fun _ h9 => h9) rfl dX7_findTotals_11 ?_
      refine lv_iload_n hx hb dX7_findTotals_14 rfl (lv_at hl 1 rfl) ?_
      refine lv_aload_n hx hb dX7_findTotals_15 rfl (lv_at hl 0 rfl) ?_
      refine va_get (D := (dC, dI)) (ci := 7) (v := .ref q_interfered) (C := RX7) (T := TX7) (N := 26) hx hb hts iw_X7_findTotals_X7 hown hK hP 0 rfl rfl 7 (by decide) (hts (.fieldLink RX7 29 "HeatBenchModel" "interfered" "[I") (List.mem_of_getElem? (i := 3) rfl)) (fun _ h9 => h9) rfl dX7_findTotals_16 ?_
      refine lv_iload_n hx hb dX7_findTotals_19 rfl (lv_at hl 1 rfl) ?_
      obtain ⟨h_2, hf⟩ := it_n hf
      refine va_iald hx hb hK hP 1 0 rfl rfl h_2 dX7_findTotals_20 ?_
      refine lv_if_ne (tgt := 40) hx hb dX7_findTotals_21 (by decide) (fun h_3 => ?_) (fun h_3 => ?_)
      · have hf := it_f h_3 hf
        refine lv_aload_n hx hb dX7_findTotals_40 rfl (lv_at hl 0 rfl) ?_
        refine va_get (D := (dC, dI)) (ci := 7) (v := .ref q_interfered) (C := RX7) (T := TX7) (N := 26) hx hb hts iw_X7_findTotals_X7 hown hK hP 0 rfl rfl 7 (by decide) (hts (.fieldLink RX7 29 "HeatBenchModel" "interfered" "[I") (List.mem_of_getElem? (i := 3) rfl)) (fun _ h9 => h9) rfl dX7_findTotals_41 ?_
        refine lv_iload_n hx hb dX7_findTotals_44 rfl (lv_at hl 1 rfl) ?_
        refine va_iald hx hb hK hP 1 0 rfl rfl h_2 dX7_findTotals_45 ?_
        refine lv_iconst (v := 1) hx hb dX7_findTotals_46 (by decide) ?_
        refine lv_icmp_ne (tgt := 68) hx hb dX7_findTotals_47 (by decide) (fun h_4 => ?_) (fun h_4 => ?_)
        · have hf := it_f h_4 hf
          refine lv_aload_n hx hb dX7_findTotals_68 rfl (lv_at hl 0 rfl) ?_
          refine va_get (D := (dC, dI)) (ci := 7) (v := .ref q_best) (C := RX7) (T := TX7) (N := 26) hx hb hts iw_X7_findTotals_X7 hown hK hP 0 rfl rfl 18 (by decide) (hts (.fieldLink RX7 50 "HeatBenchModel" "best" "[I") (List.mem_of_getElem? (i := 4) rfl)) (fun _ h9 => h9) rfl dX7_findTotals_69 ?_
          refine lv_iload_n hx hb dX7_findTotals_72 rfl (lv_at hl 1 rfl) ?_
          refine va_iald hx hb hK hP 2 0 rfl rfl h_2 dX7_findTotals_73 ?_
          refine lv_iconst (v := 2) hx hb dX7_findTotals_74 (by decide) ?_
          refine lv_idiv hx hb dX7_findTotals_75 (by decide) ?_
          refine va_iast hx hb hK hP hD hS 4 0 rfl rfl h_2 dX7_findTotals_76 (fun H locs hP hD hS => ?_)
          have hP : va_P (dC, dI) vwCl [(h0, .inr (7, [.int v_riders, .int v_rides, .ref q_riderOf, .ref q_waveOf, .ref q_marks, .int v_lineMany, .ref q_line, .ref q_interfered, .int v_isOpen, .int v_group, .int v_wrong, .ref q_stood, .int v_pastMany, .ref q_past, .int v_days, .ref q_low, .ref q_high, .ref q_was, .ref q_best, .ref q_second, .ref q_total, .ref q_givenTo, .ref q_has, .ref q_own, .ref q_sums, .ref q_below])), (q_interfered, .inl (cI, 4, .inl v_interfered)), (q_best, .inl (cI, 4, .inl v_best)), (q_second, .inl (cI, 4, .inl v_second)), (q_total, .inl (cI, 4, .inl (upd v_total x1.toNatClampNeg ((v_best x1.toNatClampNeg) / 2))))] H := hP
          have hD : va_D A [(h0, .inr (7, [.int v_riders, .int v_rides, .ref q_riderOf, .ref q_waveOf, .ref q_marks, .int v_lineMany, .ref q_line, .ref q_interfered, .int v_isOpen, .int v_group, .int v_wrong, .ref q_stood, .int v_pastMany, .ref q_past, .int v_days, .ref q_low, .ref q_high, .ref q_was, .ref q_best, .ref q_second, .ref q_total, .ref q_givenTo, .ref q_has, .ref q_own, .ref q_sums, .ref q_below])), (q_interfered, .inl (cI, 4, .inl v_interfered)), (q_best, .inl (cI, 4, .inl v_best)), (q_second, .inl (cI, 4, .inl v_second)), (q_total, .inl (cI, 4, .inl (upd v_total x1.toNatClampNeg ((v_best x1.toNatClampNeg) / 2))))] := hD
          refine lv_iinc (v := x1 + 1) (lv' := [(1, .int (x1 + 1)), (0, .ref h0)]) hx hb dX7_findTotals_77 hl (k := 1) rfl rfl (by decide) rfl (fun ls hl => ?_)
          refine lv_goto (tgt := 2) hx hb dX7_findTotals_80 (by decide) ?_
          exact ih (x1 + 1) (upd v_total x1.toNatClampNeg ((v_best x1.toNatClampNeg) / 2)) H locs ls hP hD hS (lv_sub hl [1, 0] rfl) hf
        · have hf := it_t h_4 hf
          refine lv_aload_n hx hb dX7_findTotals_50 rfl (lv_at hl 0 rfl) ?_
          refine va_get (D := (dC, dI)) (ci := 7) (v := .ref q_best) (C := RX7) (T := TX7) (N := 26) hx hb hts iw_X7_findTotals_X7 hown hK hP 0 rfl rfl 18 (by decide) (hts (.fieldLink RX7 50 "HeatBenchModel" "best" "[I") (List.mem_of_getElem? (i := 4) rfl)) (fun _ h9 => h9) rfl dX7_findTotals_51 ?_
          refine lv_iload_n hx hb dX7_findTotals_54 rfl (lv_at hl 1 rfl) ?_
          refine va_iald hx hb hK hP 2 0 rfl rfl h_2 dX7_findTotals_55 ?_
          refine lv_aload_n hx hb dX7_findTotals_56 rfl (lv_at hl 0 rfl) ?_
          refine va_get (D := (dC, dI)) (ci := 7) (v := .ref q_second) (C := RX7) (T := TX7) (N := 26) hx hb hts iw_X7_findTotals_X7 hown hK hP 0 rfl rfl 19 (by decide) (hts (.fieldLink RX7 53 "HeatBenchModel" "second" "[I") (List.mem_of_getElem? (i := 5) rfl)) (fun _ h9 => h9) rfl dX7_findTotals_57 ?_
          refine lv_iload_n hx hb dX7_findTotals_60 rfl (lv_at hl 1 rfl) ?_
          refine va_iald hx hb hK hP 3 0 rfl rfl h_2 dX7_findTotals_61 ?_
          refine lv_iconst (v := 2) hx hb dX7_findTotals_62 (by decide) ?_
          refine lv_idiv hx hb dX7_findTotals_63 (by decide) ?_
          refine lv_iadd hx hb dX7_findTotals_64 ?_
          refine lv_goto (tgt := 76) hx hb dX7_findTotals_65 (by decide) ?_
          refine va_iast hx hb hK hP hD hS 4 0 rfl rfl h_2 dX7_findTotals_76 (fun H locs hP hD hS => ?_)
          have hP : va_P (dC, dI) vwCl [(h0, .inr (7, [.int v_riders, .int v_rides, .ref q_riderOf, .ref q_waveOf, .ref q_marks, .int v_lineMany, .ref q_line, .ref q_interfered, .int v_isOpen, .int v_group, .int v_wrong, .ref q_stood, .int v_pastMany, .ref q_past, .int v_days, .ref q_low, .ref q_high, .ref q_was, .ref q_best, .ref q_second, .ref q_total, .ref q_givenTo, .ref q_has, .ref q_own, .ref q_sums, .ref q_below])), (q_interfered, .inl (cI, 4, .inl v_interfered)), (q_best, .inl (cI, 4, .inl v_best)), (q_second, .inl (cI, 4, .inl v_second)), (q_total, .inl (cI, 4, .inl (upd v_total x1.toNatClampNeg ((v_best x1.toNatClampNeg) + ((v_second x1.toNatClampNeg) / 2)))))] H := hP
          have hD : va_D A [(h0, .inr (7, [.int v_riders, .int v_rides, .ref q_riderOf, .ref q_waveOf, .ref q_marks, .int v_lineMany, .ref q_line, .ref q_interfered, .int v_isOpen, .int v_group, .int v_wrong, .ref q_stood, .int v_pastMany, .ref q_past, .int v_days, .ref q_low, .ref q_high, .ref q_was, .ref q_best, .ref q_second, .ref q_total, .ref q_givenTo, .ref q_has, .ref q_own, .ref q_sums, .ref q_below])), (q_interfered, .inl (cI, 4, .inl v_interfered)), (q_best, .inl (cI, 4, .inl v_best)), (q_second, .inl (cI, 4, .inl v_second)), (q_total, .inl (cI, 4, .inl (upd v_total x1.toNatClampNeg ((v_best x1.toNatClampNeg) + ((v_second x1.toNatClampNeg) / 2)))))] := hD
          refine lv_iinc (v := x1 + 1) (lv' := [(1, .int (x1 + 1)), (0, .ref h0)]) hx hb dX7_findTotals_77 hl (k := 1) rfl rfl (by decide) rfl (fun ls hl => ?_)
          refine lv_goto (tgt := 2) hx hb dX7_findTotals_80 (by decide) ?_
          exact ih (x1 + 1) (upd v_total x1.toNatClampNeg ((v_best x1.toNatClampNeg) + ((v_second x1.toNatClampNeg) / 2))) H locs ls hP hD hS (lv_sub hl [1, 0] rfl) hf
      · have hf := it_t h_3 hf
        refine lv_aload_n hx hb dX7_findTotals_24 rfl (lv_at hl 0 rfl) ?_
        refine va_get (D := (dC, dI)) (ci := 7) (v := .ref q_best) (C := RX7) (T := TX7) (N := 26) hx hb hts iw_X7_findTotals_X7 hown hK hP 0 rfl rfl 18 (by decide) (hts (.fieldLink RX7 50 "HeatBenchModel" "best" "[I") (List.mem_of_getElem? (i := 4) rfl)) (fun _ h9 => h9) rfl dX7_findTotals_25 ?_
        refine lv_iload_n hx hb dX7_findTotals_28 rfl (lv_at hl 1 rfl) ?_
        refine va_iald hx hb hK hP 2 0 rfl rfl h_2 dX7_findTotals_29 ?_
        refine lv_aload_n hx hb dX7_findTotals_30 rfl (lv_at hl 0 rfl) ?_
        refine va_get (D := (dC, dI)) (ci := 7) (v := .ref q_second) (C := RX7) (T := TX7) (N := 26) hx hb hts iw_X7_findTotals_X7 hown hK hP 0 rfl rfl 19 (by decide) (hts (.fieldLink RX7 53 "HeatBenchModel" "second" "[I") (List.mem_of_getElem? (i := 5) rfl)) (fun _ h9 => h9) rfl dX7_findTotals_31 ?_
        refine lv_iload_n hx hb dX7_findTotals_34 rfl (lv_at hl 1 rfl) ?_
        refine va_iald hx hb hK hP 3 0 rfl rfl h_2 dX7_findTotals_35 ?_
        refine lv_iadd hx hb dX7_findTotals_36 ?_
        refine lv_goto (tgt := 76) hx hb dX7_findTotals_37 (by decide) ?_
        refine va_iast hx hb hK hP hD hS 4 0 rfl rfl h_2 dX7_findTotals_76 (fun H locs hP hD hS => ?_)
        have hP : va_P (dC, dI) vwCl [(h0, .inr (7, [.int v_riders, .int v_rides, .ref q_riderOf, .ref q_waveOf, .ref q_marks, .int v_lineMany, .ref q_line, .ref q_interfered, .int v_isOpen, .int v_group, .int v_wrong, .ref q_stood, .int v_pastMany, .ref q_past, .int v_days, .ref q_low, .ref q_high, .ref q_was, .ref q_best, .ref q_second, .ref q_total, .ref q_givenTo, .ref q_has, .ref q_own, .ref q_sums, .ref q_below])), (q_interfered, .inl (cI, 4, .inl v_interfered)), (q_best, .inl (cI, 4, .inl v_best)), (q_second, .inl (cI, 4, .inl v_second)), (q_total, .inl (cI, 4, .inl (upd v_total x1.toNatClampNeg ((v_best x1.toNatClampNeg) + (v_second x1.toNatClampNeg)))))] H := hP
        have hD : va_D A [(h0, .inr (7, [.int v_riders, .int v_rides, .ref q_riderOf, .ref q_waveOf, .ref q_marks, .int v_lineMany, .ref q_line, .ref q_interfered, .int v_isOpen, .int v_group, .int v_wrong, .ref q_stood, .int v_pastMany, .ref q_past, .int v_days, .ref q_low, .ref q_high, .ref q_was, .ref q_best, .ref q_second, .ref q_total, .ref q_givenTo, .ref q_has, .ref q_own, .ref q_sums, .ref q_below])), (q_interfered, .inl (cI, 4, .inl v_interfered)), (q_best, .inl (cI, 4, .inl v_best)), (q_second, .inl (cI, 4, .inl v_second)), (q_total, .inl (cI, 4, .inl (upd v_total x1.toNatClampNeg ((v_best x1.toNatClampNeg) + (v_second x1.toNatClampNeg)))))] := hD
        refine lv_iinc (v := x1 + 1) (lv' := [(1, .int (x1 + 1)), (0, .ref h0)]) hx hb dX7_findTotals_77 hl (k := 1) rfl rfl (by decide) rfl (fun ls hl => ?_)
        refine lv_goto (tgt := 2) hx hb dX7_findTotals_80 (by decide) ?_
        exact ih (x1 + 1) (upd v_total x1.toNatClampNeg ((v_best x1.toNatClampNeg) + (v_second x1.toNatClampNeg))) H locs ls hP hD hS (lv_sub hl [1, 0] rfl) hf
set_option maxHeartbeats 4000000 in
set_option maxRecDepth 100000 in
theorem tX7_findTotals (l : Launch) (dC : Nat → ClassId) (dI : Nat → Nat → Nat) (cI cZ cJ cA : ClassId) (sz : Nat) (h0 : Nat) (v_riders : Int32) (v_rides : Int32) (q_riderOf : Nat) (q_waveOf : Nat) (q_marks : Nat) (v_lineMany : Int32) (q_line : Nat) (q_interfered : Nat) (v_isOpen : Int32) (v_group : Int32) (v_wrong : Int32) (q_stood : Nat) (v_pastMany : Int32) (q_past : Nat) (v_days : Int32) (q_low : Nat) (q_high : Nat) (q_was : Nat) (q_best : Nat) (q_second : Nat) (q_total : Nat) (q_givenTo : Nat) (q_has : Nat) (q_own : Nat) (q_sums : Nat) (q_below : Nat) (v_interfered : Nat → Int32) (v_best : Nat → Int32) (v_second : Nat → Int32) (v_total : Nat → Int32)  (N : Nat) (w_total : (Nat → Int32)) (hf : fX7_findTotals N v_riders v_interfered v_best v_second v_total = some w_total) : Met l yX7_findTotals wsX7_findTotals ({ frames := 0, cells := 0, slots := 0, locals := 0 }) (va_Pc [.ref h0] (fun U => U.heap.size = sz ∧ va_P (dC, dI) vwCl [(h0, .inr (7, [.int v_riders, .int v_rides, .ref q_riderOf, .ref q_waveOf, .ref q_marks, .int v_lineMany, .ref q_line, .ref q_interfered, .int v_isOpen, .int v_group, .int v_wrong, .ref q_stood, .int v_pastMany, .ref q_past, .int v_days, .ref q_low, .ref q_high, .ref q_was, .ref q_best, .ref q_second, .ref q_total, .ref q_givenTo, .ref q_has, .ref q_own, .ref q_sums, .ref q_below])), (q_interfered, .inl (cI, 4, .inl v_interfered)), (q_best, .inl (cI, 4, .inl v_best)), (q_second, .inl (cI, 4, .inl v_second)), (q_total, .inl (cI, 4, .inl v_total))] U.heap ∧ va_K (dC, dI) vwCl [(cI, .int), (cZ, .boolean), (cJ, .long), (cA, .array .long)] U ∧ va_D (fun _ => True) [(h0, .inr (7, [.int v_riders, .int v_rides, .ref q_riderOf, .ref q_waveOf, .ref q_marks, .int v_lineMany, .ref q_line, .ref q_interfered, .int v_isOpen, .int v_group, .int v_wrong, .ref q_stood, .int v_pastMany, .ref q_past, .int v_days, .ref q_low, .ref q_high, .ref q_was, .ref q_best, .ref q_second, .ref q_total, .ref q_givenTo, .ref q_has, .ref q_own, .ref q_sums, .ref q_below])), (q_interfered, .inl (cI, 4, .inl v_interfered)), (q_best, .inl (cI, 4, .inl v_best)), (q_second, .inl (cI, 4, .inl v_second)), (q_total, .inl (cI, 4, .inl v_total))])) (va_Qv (fun _ : Unit => True) (fun _ t => va_P (dC, dI) vwCl [(h0, .inr (7, [.int v_riders, .int v_rides, .ref q_riderOf, .ref q_waveOf, .ref q_marks, .int v_lineMany, .ref q_line, .ref q_interfered, .int v_isOpen, .int v_group, .int v_wrong, .ref q_stood, .int v_pastMany, .ref q_past, .int v_days, .ref q_low, .ref q_high, .ref q_was, .ref q_best, .ref q_second, .ref q_total, .ref q_givenTo, .ref q_has, .ref q_own, .ref q_sums, .ref q_below])), (q_interfered, .inl (cI, 4, .inl v_interfered)), (q_best, .inl (cI, 4, .inl v_best)), (q_second, .inl (cI, 4, .inl v_second)), (q_total, .inl (cI, 4, .inl w_total))] t.heap ∧ va_D (va_A [(h0, .inr (7, [.int v_riders, .int v_rides, .ref q_riderOf, .ref q_waveOf, .ref q_marks, .int v_lineMany, .ref q_line, .ref q_interfered, .int v_isOpen, .int v_group, .int v_wrong, .ref q_stood, .int v_pastMany, .ref q_past, .int v_days, .ref q_low, .ref q_high, .ref q_was, .ref q_best, .ref q_second, .ref q_total, .ref q_givenTo, .ref q_has, .ref q_own, .ref q_sums, .ref q_below])), (q_interfered, .inl (cI, 4, .inl v_interfered)), (q_best, .inl (cI, 4, .inl v_best)), (q_second, .inl (cI, 4, .inl v_second)), (q_total, .inl (cI, 4, .inl v_total))] sz) [(h0, .inr (7, [.int v_riders, .int v_rides, .ref q_riderOf, .ref q_waveOf, .ref q_marks, .int v_lineMany, .ref q_line, .ref q_interfered, .int v_isOpen, .int v_group, .int v_wrong, .ref q_stood, .int v_pastMany, .ref q_past, .int v_days, .ref q_low, .ref q_high, .ref q_was, .ref q_best, .ref q_second, .ref q_total, .ref q_givenTo, .ref q_has, .ref q_own, .ref q_sums, .ref q_below])), (q_interfered, .inl (cI, 4, .inl v_interfered)), (q_best, .inl (cI, 4, .inl v_best)), (q_second, .inl (cI, 4, .inl v_second)), (q_total, .inl (cI, 4, .inl w_total))]) (va_A [(h0, .inr (7, [.int v_riders, .int v_rides, .ref q_riderOf, .ref q_waveOf, .ref q_marks, .int v_lineMany, .ref q_line, .ref q_interfered, .int v_isOpen, .int v_group, .int v_wrong, .ref q_stood, .int v_pastMany, .ref q_past, .int v_days, .ref q_low, .ref q_high, .ref q_was, .ref q_best, .ref q_second, .ref q_total, .ref q_givenTo, .ref q_has, .ref q_own, .ref q_sums, .ref q_below])), (q_interfered, .inl (cI, 4, .inl v_interfered)), (q_best, .inl (cI, 4, .inl v_best)), (q_second, .inl (cI, 4, .inl v_second)), (q_total, .inl (cI, 4, .inl v_total))] sz)) 0 0 (va_A [(h0, .inr (7, [.int v_riders, .int v_rides, .ref q_riderOf, .ref q_waveOf, .ref q_marks, .int v_lineMany, .ref q_line, .ref q_interfered, .int v_isOpen, .int v_group, .int v_wrong, .ref q_stood, .int v_pastMany, .ref q_past, .int v_days, .ref q_low, .ref q_high, .ref q_was, .ref q_best, .ref q_second, .ref q_total, .ref q_givenTo, .ref q_has, .ref q_own, .ref q_sums, .ref q_below])), (q_interfered, .inl (cI, 4, .inl v_interfered)), (q_best, .inl (cI, 4, .inl v_best)), (q_second, .inl (cI, 4, .inl v_second)), (q_total, .inl (cI, 4, .inl v_total))] sz) := by
  refine Met.ofW (cc := cX7_findTotals) (maxL := 2) (ret := none) (by decide) rfl ?_
  intro p e s m args below meth c s₁ B hml hv
  obtain ⟨rfl, hsz, hP, hK, hD0⟩ := hv
  have hx := B.exec
  have hb := B.bytes
  have hr := B.returns
  have hts := atoms_spec (ws := wsX7_findTotals) B.pre
  have hown : s.vm.findClass RX7 = some m.cls := findClass_of_methodNamed B.named
  have hlocks := B.notSynchronized
  subst hsz
  have hD := hD0.self (sz := s.heap.size)
  generalize hAe : va_A [(h0, .inr (7, [.int v_riders, .int v_rides, .ref q_riderOf, .ref q_waveOf, .ref q_marks, .int v_lineMany, .ref q_line, .ref q_interfered, .int v_isOpen, .int v_group, .int v_wrong, .ref q_stood, .int v_pastMany, .ref q_past, .int v_days, .ref q_low, .ref q_high, .ref q_was, .ref q_best, .ref q_second, .ref q_total, .ref q_givenTo, .ref q_has, .ref q_own, .ref q_sums, .ref q_below])), (q_interfered, .inl (cI, 4, .inl v_interfered)), (q_best, .inl (cI, 4, .inl v_best)), (q_second, .inl (cI, 4, .inl v_second)), (q_total, .inl (cI, 4, .inl v_total))] s.heap.size = A at hD ⊢
  have hA : ∀ q : Nat, s.heap.size ≤ q → A q := fun q h => by rw [← hAe]; exact Or.inr h
  have hS : va_S A s.heap s.heap [] := va_S.rf
  have hl := lv_entry ([.ref h0]) (n := 2) (Nat.le_of_ble_eq_true rfl)
  rw [lg_entry_eq]
  generalize (lg_sl ([.ref h0]) ++ List.replicate (2 - (lg_sl ([.ref h0])).length) Slot.unset).toArray = ls at hl ⊢
  have hl : lv_has ls 2 [(0, .ref h0)] := hl
  refine vx_gen hP hS (fun H locs hP hS => ?_)
  unfold fX7_findTotals at hf
  refine lv_iconst (v := 0) hx hb dX7_findTotals_0 (by decide) ?_
  refine lv_istore_n (lv' := [(1, .int 0), (0, .ref h0)]) hx hb dX7_findTotals_1 rfl hl (by decide) rfl (fun ls hl => ?_)
  exact wX7_findTotals_L2 hx hb hr hml hown hts hlocks hA hK N 0 v_total H locs ls hP hD hS (lv_sub hl [1, 0] rfl) hf
/-! X7_findBest -/
theorem iw_X7_findBest_X7 : ∀ w ∈ wsX70, w ∈ wsX7_findBest := by decide +kernel
set_option maxHeartbeats 4000000 in
set_option maxRecDepth 100000 in
theorem wX7_findBest_L6 {p : Program} {l : Launch} {e : Env} {s : State} {m : MethodId} {args : Array Value} {below : List Frame} {meth : Method} {c : Code} {dC : Nat → ClassId} {dI : Nat → Nat → Nat} {cI cZ cJ cA : ClassId} {A : Nat → Prop} {h0 : Nat} {v_riders : Int32} {v_rides : Int32} {q_riderOf : Nat} {q_waveOf : Nat} {q_marks : Nat} {v_lineMany : Int32} {q_line : Nat} {q_interfered : Nat} {v_isOpen : Int32} {v_group : Int32} {v_wrong : Int32} {q_stood : Nat} {v_pastMany : Int32} {q_past : Nat} {v_days : Int32} {q_low : Nat} {q_high : Nat} {q_was : Nat} {q_best : Nat} {q_second : Nat} {q_total : Nat} {q_givenTo : Nat} {q_has : Nat} {q_own : Nat} {q_sums : Nat} {q_below : Nat} {v_riderOf : Nat → Int32} {v_marks : Nat → Int32} {v_interfered : Nat → Int32} {v_total : Nat → Int32}  {w_best : (Nat → Int32)} {w_second : (Nat → Int32)} {w_total : (Nat → Int32)} {N : Nat} {k : Int32 → (Nat → Int32) → (Nat → Int32) → Option ((Nat → Int32) × (Nat → Int32) × (Nat → Int32))} (hx : p.tables.exec = Jvm.exec) (hb : c.code = cX7_findBest) (hr : meth.sig.returnType = none) (hml : c.maxLocals = 2) (hown : s.vm.findClass RX7 = some m.cls) (hts : ∀ w ∈ wsX7_findBest, w.before args s = true) (hlocks : meth.locks = false) (hA : ∀ q : Nat, s.heap.size ≤ q → A q) (hK : va_K (dC, dI) vwCl [(cI, .int), (cZ, .boolean), (cJ, .long), (cA, .array .long)] s) : ∀ (n : Nat) (x1 : Int32) (v_best : Nat → Int32) (v_second : Nat → Int32) (H : Heap) (locs : List Loc) (ls : Array Slot), va_P (dC, dI) vwCl [(h0, .inr (7, [.int v_riders, .int v_rides, .ref q_riderOf, .ref q_waveOf, .ref q_marks, .int v_lineMany, .ref q_line, .ref q_interfered, .int v_isOpen, .int v_group, .int v_wrong, .ref q_stood, .int v_pastMany, .ref q_past, .int v_days, .ref q_low, .ref q_high, .ref q_was, .ref q_best, .ref q_second, .ref q_total, .ref q_givenTo, .ref q_has, .ref q_own, .ref q_sums, .ref q_below])), (q_riderOf, .inl (cI, 30, .inl v_riderOf)), (q_marks, .inl (cI, 150, .inl v_marks)), (q_interfered, .inl (cI, 4, .inl v_interfered)), (q_best, .inl (cI, 4, .inl v_best)), (q_second, .inl (cI, 4, .inl v_second)), (q_total, .inl (cI, 4, .inl v_total))] H → va_D A [(h0, .inr (7, [.int v_riders, .int v_rides, .ref q_riderOf, .ref q_waveOf, .ref q_marks, .int v_lineMany, .ref q_line, .ref q_interfered, .int v_isOpen, .int v_group, .int v_wrong, .ref q_stood, .int v_pastMany, .ref q_past, .int v_days, .ref q_low, .ref q_high, .ref q_was, .ref q_best, .ref q_second, .ref q_total, .ref q_givenTo, .ref q_has, .ref q_own, .ref q_sums, .ref q_below])), (q_riderOf, .inl (cI, 30, .inl v_riderOf)), (q_marks, .inl (cI, 150, .inl v_marks)), (q_interfered, .inl (cI, 4, .inl v_interfered)), (q_best, .inl (cI, 4, .inl v_best)), (q_second, .inl (cI, 4, .inl v_second)), (q_total, .inl (cI, 4, .inl v_total))] → va_S A s.heap H locs → lv_has ls 2 [(0, .ref h0), (1, .int x1)] → fX7_findBest_L6 N v_rides v_riderOf v_marks k n x1 v_best v_second = some (w_best, w_second, w_total) → (∀ (x1' : Int32) (v_best' : Nat → Int32) (v_second' : Nat → Int32) (H : Heap) (locs : List Loc) (ls : Array Slot), va_P (dC, dI) vwCl [(h0, .inr (7, [.int v_riders, .int v_rides, .ref q_riderOf, .ref q_waveOf, .ref q_marks, .int v_lineMany, .ref q_line, .ref q_interfered, .int v_isOpen, .int v_group, .int v_wrong, .ref q_stood, .int v_pastMany, .ref q_past, .int v_days, .ref q_low, .ref q_high, .ref q_was, .ref q_best, .ref q_second, .ref q_total, .ref q_givenTo, .ref q_has, .ref q_own, .ref q_sums, .ref q_below])), (q_riderOf, .inl (cI, 30, .inl v_riderOf)), (q_marks, .inl (cI, 150, .inl v_marks)), (q_interfered, .inl (cI, 4, .inl v_interfered)), (q_best, .inl (cI, 4, .inl v_best')), (q_second, .inl (cI, 4, .inl v_second')), (q_total, .inl (cI, 4, .inl v_total))] H → va_D A [(h0, .inr (7, [.int v_riders, .int v_rides, .ref q_riderOf, .ref q_waveOf, .ref q_marks, .int v_lineMany, .ref q_line, .ref q_interfered, .int v_isOpen, .int v_group, .int v_wrong, .ref q_stood, .int v_pastMany, .ref q_past, .int v_days, .ref q_low, .ref q_high, .ref q_was, .ref q_best, .ref q_second, .ref q_total, .ref q_givenTo, .ref q_has, .ref q_own, .ref q_sums, .ref q_below])), (q_riderOf, .inl (cI, 30, .inl v_riderOf)), (q_marks, .inl (cI, 150, .inl v_marks)), (q_interfered, .inl (cI, 4, .inl v_interfered)), (q_best, .inl (cI, 4, .inl v_best')), (q_second, .inl (cI, 4, .inl v_second')), (q_total, .inl (cI, 4, .inl v_total))] → va_S A s.heap H locs → lv_has ls 2 [(0, .ref h0)] → k x1' v_best' v_second' = some (w_best, w_second, w_total) → W p l e (headSpec wsX7_findBest ({ frames := 1, cells := 0, slots := 0, locals := 27 })).room s m args below meth c H locs 0 0 (MQ below (va_Qv (fun _ : Unit => True) (fun _ t => va_P (dC, dI) vwCl [(h0, .inr (7, [.int v_riders, .int v_rides, .ref q_riderOf, .ref q_waveOf, .ref q_marks, .int v_lineMany, .ref q_line, .ref q_interfered, .int v_isOpen, .int v_group, .int v_wrong, .ref q_stood, .int v_pastMany, .ref q_past, .int v_days, .ref q_low, .ref q_high, .ref q_was, .ref q_best, .ref q_second, .ref q_total, .ref q_givenTo, .ref q_has, .ref q_own, .ref q_sums, .ref q_below])), (q_riderOf, .inl (cI, 30, .inl v_riderOf)), (q_marks, .inl (cI, 150, .inl v_marks)), (q_interfered, .inl (cI, 4, .inl v_interfered)), (q_best, .inl (cI, 4, .inl w_best)), (q_second, .inl (cI, 4, .inl w_second)), (q_total, .inl (cI, 4, .inl w_total))] t.heap ∧ va_D A [(h0, .inr (7, [.int v_riders, .int v_rides, .ref q_riderOf, .ref q_waveOf, .ref q_marks, .int v_lineMany, .ref q_line, .ref q_interfered, .int v_isOpen, .int v_group, .int v_wrong, .ref q_stood, .int v_pastMany, .ref q_past, .int v_days, .ref q_low, .ref q_high, .ref q_was, .ref q_best, .ref q_second, .ref q_total, .ref q_givenTo, .ref q_has, .ref q_own, .ref q_sums, .ref q_below])), (q_riderOf, .inl (cI, 30, .inl v_riderOf)), (q_marks, .inl (cI, 150, .inl v_marks)), (q_interfered, .inl (cI, 4, .inl v_interfered)), (q_best, .inl (cI, 4, .inl w_best)), (q_second, .inl (cI, 4, .inl w_second)), (q_total, .inl (cI, 4, .inl w_total))]) A) args s 0 0 A) (F0 m 35 ls [])) → W p l e (headSpec wsX7_findBest ({ frames := 1, cells := 0, slots := 0, locals := 27 })).room s m args below meth c H locs 0 0 (MQ below (va_Qv (fun _ : Unit => True) (fun _ t => va_P (dC, dI) vwCl [(h0, .inr (7, [.int v_riders, .int v_rides, .ref q_riderOf, .ref q_waveOf, .ref q_marks, .int v_lineMany, .ref q_line, .ref q_interfered, .int v_isOpen, .int v_group, .int v_wrong, .ref q_stood, .int v_pastMany, .ref q_past, .int v_days, .ref q_low, .ref q_high, .ref q_was, .ref q_best, .ref q_second, .ref q_total, .ref q_givenTo, .ref q_has, .ref q_own, .ref q_sums, .ref q_below])), (q_riderOf, .inl (cI, 30, .inl v_riderOf)), (q_marks, .inl (cI, 150, .inl v_marks)), (q_interfered, .inl (cI, 4, .inl v_interfered)), (q_best, .inl (cI, 4, .inl w_best)), (q_second, .inl (cI, 4, .inl w_second)), (q_total, .inl (cI, 4, .inl w_total))] t.heap ∧ va_D A [(h0, .inr (7, [.int v_riders, .int v_rides, .ref q_riderOf, .ref q_waveOf, .ref q_marks, .int v_lineMany, .ref q_line, .ref q_interfered, .int v_isOpen, .int v_group, .int v_wrong, .ref q_stood, .int v_pastMany, .ref q_past, .int v_days, .ref q_low, .ref q_high, .ref q_was, .ref q_best, .ref q_second, .ref q_total, .ref q_givenTo, .ref q_has, .ref q_own, .ref q_sums, .ref q_below])), (q_riderOf, .inl (cI, 30, .inl v_riderOf)), (q_marks, .inl (cI, 150, .inl v_marks)), (q_interfered, .inl (cI, 4, .inl v_interfered)), (q_best, .inl (cI, 4, .inl w_best)), (q_second, .inl (cI, 4, .inl w_second)), (q_total, .inl (cI, 4, .inl w_total))]) A) args s 0 0 A) (F0 m 6 ls []) := by
  intro n
  induction n with
  | zero =>
    intro x1 v_best v_second H locs ls hP hD hS hl hf kk
    exact nomatch (show (none : Option ((Nat → Int32) × (Nat → Int32) × (Nat → Int32))) = some (w_best, w_second, w_total) from hf)
  | succ n ih =>
    intro x1 v_best v_second H locs ls hP hD hS hl hf kk
    rw [fX7_findBest_L6] at hf
    refine lv_iload_n hx hb dX7_findBest_6 rfl (lv_at hl 1 rfl) ?_
    refine lv_aload_n hx hb dX7_findBest_7 rfl (lv_at hl 0 rfl) ?_
    refine va_get (D := (dC, dI)) (ci := 7) (v := .int v_rides) (C := RX7) (T := TX7) (N := 26) hx hb hts iw_X7_findBest_X7 hown hK hP 0 rfl rfl 1 (by decide) (hts (.fieldLink RX7 86 "HeatBenchModel" "rides" "I") (List.mem_of_getElem? (i := 1) rfl)) (fun _ h9 => h9) rfl dX7_findBest_8 ?_
    refine lv_icmp_ge (tgt := 35) hx hb dX7_findBest_11 (by decide) (fun h_2 => ?_) (fun h_2 => ?_)
    · have hf := it_t h_2 hf
      exact kk x1 v_best v_second H locs ls hP hD hS (lv_sub hl [0] rfl) hf
    · have hf := it_f h_2 hf
      refine lv_aload_n hx hb dX7_findBest_14 rfl (lv_at hl 0 rfl) ?_
      refine lv_aload_n hx hb dX7_findBest_15 rfl (lv_at hl 0 rfl) ?_
      refine va_get (D := (dC, dI)) (ci := 7) (v := .ref q_riderOf) (C := RX7) (T := TX7) (N := 26) hx hb hts iw_X7_findBest_X7 hown hK hP 0 rfl rfl 2 (by decide) (hts (.fieldLink RX7 13 "HeatBenchModel" "riderOf" "[I") (List.mem_of_getElem? (i := 2) rfl)) (fun _ h9 => h9) rfl dX7_findBest_16 ?_
      refine lv_iload_n hx hb dX7_findBest_19 rfl (lv_at hl 1 rfl) ?_
      obtain ⟨h_3, hf⟩ := it_n hf
      refine va_iald hx hb hK hP 1 0 rfl rfl h_3 dX7_findBest_20 ?_
      refine lv_aload_n hx hb dX7_findBest_21 rfl (lv_at hl 0 rfl) ?_
      refine lv_iload_n hx hb dX7_findBest_22 rfl (lv_at hl 1 rfl) ?_
      obtain ⟨r_4, hu_4, hf⟩ := it_b1 hf
      have hPc := hP.sub (ws' := [(h0, .inr (7, [.int v_riders, .int v_rides, .ref q_riderOf, .ref q_waveOf, .ref q_marks, .int v_lineMany, .ref q_line, .ref q_interfered, .int v_isOpen, .int v_group, .int v_wrong, .ref q_stood, .int v_pastMany, .ref q_past, .int v_days, .ref q_low, .ref q_high, .ref q_was, .ref q_best, .ref q_second, .ref q_total, .ref q_givenTo, .ref q_has, .ref q_own, .ref q_sums, .ref q_below])), (q_marks, .inl (cI, 150, .inl v_marks))]) [0, 2] rfl
      have hDc := hD.sub (ws' := [(h0, .inr (7, [.int v_riders, .int v_rides, .ref q_riderOf, .ref q_waveOf, .ref q_marks, .int v_lineMany, .ref q_line, .ref q_interfered, .int v_isOpen, .int v_group, .int v_wrong, .ref q_stood, .int v_pastMany, .ref q_past, .int v_days, .ref q_low, .ref q_high, .ref q_was, .ref q_best, .ref q_second, .ref q_total, .ref q_givenTo, .ref q_has, .ref q_own, .ref q_sums, .ref q_below])), (q_marks, .inl (cI, 150, .inl v_marks))]) [0, 2] (by decide) rfl
      have hFc := va_free (wc := [(h0, .inr (7, [.int v_riders, .int v_rides, .ref q_riderOf, .ref q_waveOf, .ref q_marks, .int v_lineMany, .ref q_line, .ref q_interfered, .int v_isOpen, .int v_group, .int v_wrong, .ref q_stood, .int v_pastMany, .ref q_past, .int v_days, .ref q_low, .ref q_high, .ref q_was, .ref q_best, .ref q_second, .ref q_total, .ref q_givenTo, .ref q_has, .ref q_own, .ref q_sums, .ref q_below])), (q_marks, .inl (cI, 150, .inl v_marks))]) hD hS hA [0, 2] rfl
      refine va_calli (va_runV (As := [.int x1]) (rest := [.int (v_riderOf x1.toNatClampNeg), .ref h0]) ⟨hx, hb, hml, hown, hts⟩ (tX7_scoreOf l dC dI cI cZ cJ cA H.size h0 v_riders v_rides q_riderOf q_waveOf q_marks v_lineMany q_line q_interfered v_isOpen v_group v_wrong q_stood v_pastMany q_past v_days q_low q_high q_was q_best q_second q_total q_givenTo q_has q_own q_sums q_below v_marks x1 N r_4 hu_4) (cwV 1 hts gX7_findBest_X7_scoreOf rfl rfl rfl (by decide +kernel) ⟨Nat.le_of_ble_eq_true rfl, Nat.le_of_ble_eq_true rfl⟩) ⟨fun a U g mk q => by obtain ⟨q0, q1, qP, qK, qD⟩ := q; exact ⟨q0, q1, qP, va_K.moved (u := U) (U := U.calling g mk a) (Vm.Alike.refl U.vm) qK, qD⟩, va_recv hK hPc (ci := 7) (q0 := 0) rfl rfl, fun U hU hW => ⟨rfl, by rw [hU], by rw [hU]; exact hPc, va_K.moved hW.alike hK, hDc.weaken (fun _ _ _ _ => trivial)⟩⟩ rfl rfl hl.1 rfl (lv_room (Nat.le_of_ble_eq_true rfl)) dX7_findBest_23 ⟨Nat.zero_le _, Nat.zero_le _⟩) hS (fun q _ h => hFc q h) hFc (fun r9 u t H1 locs ht hvm hw hB hz1 hk1 hS => ?_)
      obtain ⟨hP1, hD1⟩ := hB
      rw [ht] at hP1
      obtain ⟨hP, hD⟩ := va_join (wr := [(q_riderOf, .inl (cI, 30, .inl v_riderOf)), (q_interfered, .inl (cI, 4, .inl v_interfered)), (q_best, .inl (cI, 4, .inl v_best)), (q_second, .inl (cI, 4, .inl v_second)), (q_total, .inl (cI, 4, .inl v_total))]) (w1 := [(h0, .inr (7, [.int v_riders, .int v_rides, .ref q_riderOf, .ref q_waveOf, .ref q_marks, .int v_lineMany, .ref q_line, .ref q_interfered, .int v_isOpen, .int v_group, .int v_wrong, .ref q_stood, .int v_pastMany, .ref q_past, .int v_days, .ref q_low, .ref q_high, .ref q_was, .ref q_best, .ref q_second, .ref q_total, .ref q_givenTo, .ref q_has, .ref q_own, .ref q_sums, .ref q_below])), (q_marks, .inl (cI, 150, .inl v_marks))]) hP hD [0, 2] [1, 3, 4, 5, 6] rfl rfl (by decide) (by decide) hk1 hFc hP1 hD1
      clear hP1 hD1 hk1 hz1 hPc hDc hFc
      generalize H1 = H at hP hS ⊢
      have hP : va_P (dC, dI) vwCl [(q_riderOf, .inl (cI, 30, .inl v_riderOf)), (q_interfered, .inl (cI, 4, .inl v_interfered)), (q_best, .inl (cI, 4, .inl v_best)), (q_second, .inl (cI, 4, .inl v_second)), (q_total, .inl (cI, 4, .inl v_total)), (h0, .inr (7, [.int v_riders, .int v_rides, .ref q_riderOf, .ref q_waveOf, .ref q_marks, .int v_lineMany, .ref q_line, .ref q_interfered, .int v_isOpen, .int v_group, .int v_wrong, .ref q_stood, .int v_pastMany, .ref q_past, .int v_days, .ref q_low, .ref q_high, .ref q_was, .ref q_best, .ref q_second, .ref q_total, .ref q_givenTo, .ref q_has, .ref q_own, .ref q_sums, .ref q_below])), (q_marks, .inl (cI, 150, .inl v_marks))] H := hP
      have hD : va_D A [(q_riderOf, .inl (cI, 30, .inl v_riderOf)), (q_interfered, .inl (cI, 4, .inl v_interfered)), (q_best, .inl (cI, 4, .inl v_best)), (q_second, .inl (cI, 4, .inl v_second)), (q_total, .inl (cI, 4, .inl v_total)), (h0, .inr (7, [.int v_riders, .int v_rides, .ref q_riderOf, .ref q_waveOf, .ref q_marks, .int v_lineMany, .ref q_line, .ref q_interfered, .int v_isOpen, .int v_group, .int v_wrong, .ref q_stood, .int v_pastMany, .ref q_past, .int v_days, .ref q_low, .ref q_high, .ref q_was, .ref q_best, .ref q_second, .ref q_total, .ref q_givenTo, .ref q_has, .ref q_own, .ref q_sums, .ref q_below])), (q_marks, .inl (cI, 150, .inl v_marks))] := hD
      subst hw
      obtain ⟨o_5_best, o_5_second, hu_5, hf⟩ := it_b2 hf
      have hPc := hP.sub (ws' := [(h0, .inr (7, [.int v_riders, .int v_rides, .ref q_riderOf, .ref q_waveOf, .ref q_marks, .int v_lineMany, .ref q_line, .ref q_interfered, .int v_isOpen, .int v_group, .int v_wrong, .ref q_stood, .int v_pastMany, .ref q_past, .int v_days, .ref q_low, .ref q_high, .ref q_was, .ref q_best, .ref q_second, .ref q_total, .ref q_givenTo, .ref q_has, .ref q_own, .ref q_sums, .ref q_below])), (q_best, .inl (cI, 4, .inl v_best)), (q_second, .inl (cI, 4, .inl v_second))]) [5, 2, 3] rfl
      have hDc := hD.sub (ws' := [(h0, .inr (7, [.int v_riders, .int v_rides, .ref q_riderOf, .ref q_waveOf, .ref q_marks, .int v_lineMany, .ref q_line, .ref q_interfered, .int v_isOpen, .int v_group, .int v_wrong, .ref q_stood, .int v_pastMany, .ref q_past, .int v_days, .ref q_low, .ref q_high, .ref q_was, .ref q_best, .ref q_second, .ref q_total, .ref q_givenTo, .ref q_has, .ref q_own, .ref q_sums, .ref q_below])), (q_best, .inl (cI, 4, .inl v_best)), (q_second, .inl (cI, 4, .inl v_second))]) [5, 2, 3] (by decide) rfl
      have hFc := va_free (wc := [(h0, .inr (7, [.int v_riders, .int v_rides, .ref q_riderOf, .ref q_waveOf, .ref q_marks, .int v_lineMany, .ref q_line, .ref q_interfered, .int v_isOpen, .int v_group, .int v_wrong, .ref q_stood, .int v_pastMany, .ref q_past, .int v_days, .ref q_low, .ref q_high, .ref q_was, .ref q_best, .ref q_second, .ref q_total, .ref q_givenTo, .ref q_has, .ref q_own, .ref q_sums, .ref q_below])), (q_best, .inl (cI, 4, .inl v_best)), (q_second, .inl (cI, 4, .inl v_second))]) hD hS hA [5, 2, 3] rfl
      refine va_callv (va_runV (As := [.int (v_riderOf x1.toNatClampNeg), .int r_4]) (rest := []) ⟨hx, hb, hml, hown, hts⟩ (tX7_counts l dC dI cI cZ cJ cA H.size h0 v_riders v_rides q_riderOf q_waveOf q_marks v_lineMany q_line q_interfered v_isOpen v_group v_wrong q_stood v_pastMany q_past v_days q_low q_high q_was q_best q_second q_total q_givenTo q_has q_own q_sums q_below v_best v_second (v_riderOf x1.toNatClampNeg) r_4 N o_5_best o_5_second hu_5) (cwV 2 hts gX7_findBest_X7_counts rfl rfl rfl (by decide +kernel) ⟨Nat.le_of_ble_eq_true rfl, Nat.le_of_ble_eq_true rfl⟩) ⟨fun a U g mk q => by obtain ⟨q0, q1, qP, qK, qD⟩ := q; exact ⟨q0, q1, qP, va_K.moved (u := U) (U := U.calling g mk a) (Vm.Alike.refl U.vm) qK, qD⟩, va_recv hK hPc (ci := 7) (q0 := 0) rfl rfl, fun U hU hW => ⟨rfl, by rw [hU], by rw [hU]; exact hPc, va_K.moved hW.alike hK, hDc.weaken (fun _ _ _ _ => trivial)⟩⟩ rfl rfl hl.1 rfl (lv_room (Nat.le_of_ble_eq_true rfl)) dX7_findBest_26 ⟨Nat.zero_le _, Nat.zero_le _⟩) hS (fun q _ h => hFc q h) hFc (fun u t H1 locs ht hvm hw hB hz1 hk1 hS => ?_)
      obtain ⟨hP1, hD1⟩ := hB
      rw [ht] at hP1
      obtain ⟨hP, hD⟩ := va_join (wr := [(q_riderOf, .inl (cI, 30, .inl v_riderOf)), (q_interfered, .inl (cI, 4, .inl v_interfered)), (q_total, .inl (cI, 4, .inl v_total)), (q_marks, .inl (cI, 150, .inl v_marks))]) (w1 := [(h0, .inr (7, [.int v_riders, .int v_rides, .ref q_riderOf, .ref q_waveOf, .ref q_marks, .int v_lineMany, .ref q_line, .ref q_interfered, .int v_isOpen, .int v_group, .int v_wrong, .ref q_stood, .int v_pastMany, .ref q_past, .int v_days, .ref q_low, .ref q_high, .ref q_was, .ref q_best, .ref q_second, .ref q_total, .ref q_givenTo, .ref q_has, .ref q_own, .ref q_sums, .ref q_below])), (q_best, .inl (cI, 4, .inl o_5_best)), (q_second, .inl (cI, 4, .inl o_5_second))]) hP hD [5, 2, 3] [0, 1, 4, 6] rfl rfl (by decide) (by decide) hk1 hFc hP1 hD1
      clear hP1 hD1 hk1 hz1 hPc hDc hFc
      generalize H1 = H at hP hS ⊢
      have hP : va_P (dC, dI) vwCl [(q_riderOf, .inl (cI, 30, .inl v_riderOf)), (q_interfered, .inl (cI, 4, .inl v_interfered)), (q_total, .inl (cI, 4, .inl v_total)), (q_marks, .inl (cI, 150, .inl v_marks)), (h0, .inr (7, [.int v_riders, .int v_rides, .ref q_riderOf, .ref q_waveOf, .ref q_marks, .int v_lineMany, .ref q_line, .ref q_interfered, .int v_isOpen, .int v_group, .int v_wrong, .ref q_stood, .int v_pastMany, .ref q_past, .int v_days, .ref q_low, .ref q_high, .ref q_was, .ref q_best, .ref q_second, .ref q_total, .ref q_givenTo, .ref q_has, .ref q_own, .ref q_sums, .ref q_below])), (q_best, .inl (cI, 4, .inl o_5_best)), (q_second, .inl (cI, 4, .inl o_5_second))] H := hP
      have hD : va_D A [(q_riderOf, .inl (cI, 30, .inl v_riderOf)), (q_interfered, .inl (cI, 4, .inl v_interfered)), (q_total, .inl (cI, 4, .inl v_total)), (q_marks, .inl (cI, 150, .inl v_marks)), (h0, .inr (7, [.int v_riders, .int v_rides, .ref q_riderOf, .ref q_waveOf, .ref q_marks, .int v_lineMany, .ref q_line, .ref q_interfered, .int v_isOpen, .int v_group, .int v_wrong, .ref q_stood, .int v_pastMany, .ref q_past, .int v_days, .ref q_low, .ref q_high, .ref q_was, .ref q_best, .ref q_second, .ref q_total, .ref q_givenTo, .ref q_has, .ref q_own, .ref q_sums, .ref q_below])), (q_best, .inl (cI, 4, .inl o_5_best)), (q_second, .inl (cI, 4, .inl o_5_second))] := hD
      refine lv_iinc (v := x1 + 1) (lv' := [(1, .int (x1 + 1)), (0, .ref h0)]) hx hb dX7_findBest_29 hl (k := 1) rfl rfl (by decide) rfl (fun ls hl => ?_)
      refine lv_goto (tgt := 6) hx hb dX7_findBest_32 (by decide) ?_
      have hP : va_P (dC, dI) vwCl [(h0, .inr (7, [.int v_riders, .int v_rides, .ref q_riderOf, .ref q_waveOf, .ref q_marks, .int v_lineMany, .ref q_line, .ref q_interfered, .int v_isOpen, .int v_group, .int v_wrong, .ref q_stood, .int v_pastMany, .ref q_past, .int v_days, .ref q_low, .ref q_high, .ref q_was, .ref q_best, .ref q_second, .ref q_total, .ref q_givenTo, .ref q_has, .ref q_own, .ref q_sums, .ref q_below])), (q_riderOf, .inl (cI, 30, .inl v_riderOf)), (q_marks, .inl (cI, 150, .inl v_marks)), (q_interfered, .inl (cI, 4, .inl v_interfered)), (q_best, .inl (cI, 4, .inl o_5_best)), (q_second, .inl (cI, 4, .inl o_5_second)), (q_total, .inl (cI, 4, .inl v_total))] H := hP.sub [4, 0, 3, 1, 5, 6, 2] rfl
      have hD : va_D A [(h0, .inr (7, [.int v_riders, .int v_rides, .ref q_riderOf, .ref q_waveOf, .ref q_marks, .int v_lineMany, .ref q_line, .ref q_interfered, .int v_isOpen, .int v_group, .int v_wrong, .ref q_stood, .int v_pastMany, .ref q_past, .int v_days, .ref q_low, .ref q_high, .ref q_was, .ref q_best, .ref q_second, .ref q_total, .ref q_givenTo, .ref q_has, .ref q_own, .ref q_sums, .ref q_below])), (q_riderOf, .inl (cI, 30, .inl v_riderOf)), (q_marks, .inl (cI, 150, .inl v_marks)), (q_interfered, .inl (cI, 4, .inl v_interfered)), (q_best, .inl (cI, 4, .inl o_5_best)), (q_second, .inl (cI, 4, .inl o_5_second)), (q_total, .inl (cI, 4, .inl v_total))] := hD.sub [4, 0, 3, 1, 5, 6, 2] (by decide) rfl
      exact ih (x1 + 1) o_5_best o_5_second H locs ls hP hD hS (lv_sub hl [1, 0] rfl) hf kk
set_option maxHeartbeats 4000000 in
set_option maxRecDepth 100000 in
theorem tX7_findBest (l : Launch) (dC : Nat → ClassId) (dI : Nat → Nat → Nat) (cI cZ cJ cA : ClassId) (sz : Nat) (h0 : Nat) (v_riders : Int32) (v_rides : Int32) (q_riderOf : Nat) (q_waveOf : Nat) (q_marks : Nat) (v_lineMany : Int32) (q_line : Nat) (q_interfered : Nat) (v_isOpen : Int32) (v_group : Int32) (v_wrong : Int32) (q_stood : Nat) (v_pastMany : Int32) (q_past : Nat) (v_days : Int32) (q_low : Nat) (q_high : Nat) (q_was : Nat) (q_best : Nat) (q_second : Nat) (q_total : Nat) (q_givenTo : Nat) (q_has : Nat) (q_own : Nat) (q_sums : Nat) (q_below : Nat) (v_riderOf : Nat → Int32) (v_marks : Nat → Int32) (v_interfered : Nat → Int32) (v_best : Nat → Int32) (v_second : Nat → Int32) (v_total : Nat → Int32)  (N : Nat) (w_best : (Nat → Int32)) (w_second : (Nat → Int32)) (w_total : (Nat → Int32)) (hf : fX7_findBest N v_riders v_rides v_riderOf v_marks v_interfered v_best v_second v_total = some (w_best, w_second, w_total)) : Met l yX7_findBest wsX7_findBest ({ frames := 1, cells := 0, slots := 0, locals := 27 }) (va_Pc [.ref h0] (fun U => U.heap.size = sz ∧ va_P (dC, dI) vwCl [(h0, .inr (7, [.int v_riders, .int v_rides, .ref q_riderOf, .ref q_waveOf, .ref q_marks, .int v_lineMany, .ref q_line, .ref q_interfered, .int v_isOpen, .int v_group, .int v_wrong, .ref q_stood, .int v_pastMany, .ref q_past, .int v_days, .ref q_low, .ref q_high, .ref q_was, .ref q_best, .ref q_second, .ref q_total, .ref q_givenTo, .ref q_has, .ref q_own, .ref q_sums, .ref q_below])), (q_riderOf, .inl (cI, 30, .inl v_riderOf)), (q_marks, .inl (cI, 150, .inl v_marks)), (q_interfered, .inl (cI, 4, .inl v_interfered)), (q_best, .inl (cI, 4, .inl v_best)), (q_second, .inl (cI, 4, .inl v_second)), (q_total, .inl (cI, 4, .inl v_total))] U.heap ∧ va_K (dC, dI) vwCl [(cI, .int), (cZ, .boolean), (cJ, .long), (cA, .array .long)] U ∧ va_D (fun _ => True) [(h0, .inr (7, [.int v_riders, .int v_rides, .ref q_riderOf, .ref q_waveOf, .ref q_marks, .int v_lineMany, .ref q_line, .ref q_interfered, .int v_isOpen, .int v_group, .int v_wrong, .ref q_stood, .int v_pastMany, .ref q_past, .int v_days, .ref q_low, .ref q_high, .ref q_was, .ref q_best, .ref q_second, .ref q_total, .ref q_givenTo, .ref q_has, .ref q_own, .ref q_sums, .ref q_below])), (q_riderOf, .inl (cI, 30, .inl v_riderOf)), (q_marks, .inl (cI, 150, .inl v_marks)), (q_interfered, .inl (cI, 4, .inl v_interfered)), (q_best, .inl (cI, 4, .inl v_best)), (q_second, .inl (cI, 4, .inl v_second)), (q_total, .inl (cI, 4, .inl v_total))])) (va_Qv (fun _ : Unit => True) (fun _ t => va_P (dC, dI) vwCl [(h0, .inr (7, [.int v_riders, .int v_rides, .ref q_riderOf, .ref q_waveOf, .ref q_marks, .int v_lineMany, .ref q_line, .ref q_interfered, .int v_isOpen, .int v_group, .int v_wrong, .ref q_stood, .int v_pastMany, .ref q_past, .int v_days, .ref q_low, .ref q_high, .ref q_was, .ref q_best, .ref q_second, .ref q_total, .ref q_givenTo, .ref q_has, .ref q_own, .ref q_sums, .ref q_below])), (q_riderOf, .inl (cI, 30, .inl v_riderOf)), (q_marks, .inl (cI, 150, .inl v_marks)), (q_interfered, .inl (cI, 4, .inl v_interfered)), (q_best, .inl (cI, 4, .inl w_best)), (q_second, .inl (cI, 4, .inl w_second)), (q_total, .inl (cI, 4, .inl w_total))] t.heap ∧ va_D (va_A [(h0, .inr (7, [.int v_riders, .int v_rides, .ref q_riderOf, .ref q_waveOf, .ref q_marks, .int v_lineMany, .ref q_line, .ref q_interfered, .int v_isOpen, .int v_group, .int v_wrong, .ref q_stood, .int v_pastMany, .ref q_past, .int v_days, .ref q_low, .ref q_high, .ref q_was, .ref q_best, .ref q_second, .ref q_total, .ref q_givenTo, .ref q_has, .ref q_own, .ref q_sums, .ref q_below])), (q_riderOf, .inl (cI, 30, .inl v_riderOf)), (q_marks, .inl (cI, 150, .inl v_marks)), (q_interfered, .inl (cI, 4, .inl v_interfered)), (q_best, .inl (cI, 4, .inl v_best)), (q_second, .inl (cI, 4, .inl v_second)), (q_total, .inl (cI, 4, .inl v_total))] sz) [(h0, .inr (7, [.int v_riders, .int v_rides, .ref q_riderOf, .ref q_waveOf, .ref q_marks, .int v_lineMany, .ref q_line, .ref q_interfered, .int v_isOpen, .int v_group, .int v_wrong, .ref q_stood, .int v_pastMany, .ref q_past, .int v_days, .ref q_low, .ref q_high, .ref q_was, .ref q_best, .ref q_second, .ref q_total, .ref q_givenTo, .ref q_has, .ref q_own, .ref q_sums, .ref q_below])), (q_riderOf, .inl (cI, 30, .inl v_riderOf)), (q_marks, .inl (cI, 150, .inl v_marks)), (q_interfered, .inl (cI, 4, .inl v_interfered)), (q_best, .inl (cI, 4, .inl w_best)), (q_second, .inl (cI, 4, .inl w_second)), (q_total, .inl (cI, 4, .inl w_total))]) (va_A [(h0, .inr (7, [.int v_riders, .int v_rides, .ref q_riderOf, .ref q_waveOf, .ref q_marks, .int v_lineMany, .ref q_line, .ref q_interfered, .int v_isOpen, .int v_group, .int v_wrong, .ref q_stood, .int v_pastMany, .ref q_past, .int v_days, .ref q_low, .ref q_high, .ref q_was, .ref q_best, .ref q_second, .ref q_total, .ref q_givenTo, .ref q_has, .ref q_own, .ref q_sums, .ref q_below])), (q_riderOf, .inl (cI, 30, .inl v_riderOf)), (q_marks, .inl (cI, 150, .inl v_marks)), (q_interfered, .inl (cI, 4, .inl v_interfered)), (q_best, .inl (cI, 4, .inl v_best)), (q_second, .inl (cI, 4, .inl v_second)), (q_total, .inl (cI, 4, .inl v_total))] sz)) 0 0 (va_A [(h0, .inr (7, [.int v_riders, .int v_rides, .ref q_riderOf, .ref q_waveOf, .ref q_marks, .int v_lineMany, .ref q_line, .ref q_interfered, .int v_isOpen, .int v_group, .int v_wrong, .ref q_stood, .int v_pastMany, .ref q_past, .int v_days, .ref q_low, .ref q_high, .ref q_was, .ref q_best, .ref q_second, .ref q_total, .ref q_givenTo, .ref q_has, .ref q_own, .ref q_sums, .ref q_below])), (q_riderOf, .inl (cI, 30, .inl v_riderOf)), (q_marks, .inl (cI, 150, .inl v_marks)), (q_interfered, .inl (cI, 4, .inl v_interfered)), (q_best, .inl (cI, 4, .inl v_best)), (q_second, .inl (cI, 4, .inl v_second)), (q_total, .inl (cI, 4, .inl v_total))] sz) := by
  refine Met.ofW (cc := cX7_findBest) (maxL := 2) (ret := none) (by decide) rfl ?_
  intro p e s m args below meth c s₁ B hml hv
  obtain ⟨rfl, hsz, hP, hK, hD0⟩ := hv
  have hx := B.exec
  have hb := B.bytes
  have hr := B.returns
  have hts := atoms_spec (ws := wsX7_findBest) B.pre
  have hown : s.vm.findClass RX7 = some m.cls := findClass_of_methodNamed B.named
  have hlocks := B.notSynchronized
  subst hsz
  have hD := hD0.self (sz := s.heap.size)
  generalize hAe : va_A [(h0, .inr (7, [.int v_riders, .int v_rides, .ref q_riderOf, .ref q_waveOf, .ref q_marks, .int v_lineMany, .ref q_line, .ref q_interfered, .int v_isOpen, .int v_group, .int v_wrong, .ref q_stood, .int v_pastMany, .ref q_past, .int v_days, .ref q_low, .ref q_high, .ref q_was, .ref q_best, .ref q_second, .ref q_total, .ref q_givenTo, .ref q_has, .ref q_own, .ref q_sums, .ref q_below])), (q_riderOf, .inl (cI, 30, .inl v_riderOf)), (q_marks, .inl (cI, 150, .inl v_marks)), (q_interfered, .inl (cI, 4, .inl v_interfered)), (q_best, .inl (cI, 4, .inl v_best)), (q_second, .inl (cI, 4, .inl v_second)), (q_total, .inl (cI, 4, .inl v_total))] s.heap.size = A at hD ⊢
  have hA : ∀ q : Nat, s.heap.size ≤ q → A q := fun q h => by rw [← hAe]; exact Or.inr h
  have hS : va_S A s.heap s.heap [] := va_S.rf
  have hl := lv_entry ([.ref h0]) (n := 2) (Nat.le_of_ble_eq_true rfl)
  rw [lg_entry_eq]
  generalize (lg_sl ([.ref h0]) ++ List.replicate (2 - (lg_sl ([.ref h0])).length) Slot.unset).toArray = ls at hl ⊢
  have hl : lv_has ls 2 [(0, .ref h0)] := hl
  refine vx_gen hP hS (fun H locs hP hS => ?_)
  unfold fX7_findBest at hf
  refine lv_aload_n hx hb dX7_findBest_0 rfl (lv_at hl 0 rfl) ?_
  obtain ⟨o_1_best, o_1_second, hu_1, hf⟩ := it_b2 hf
  have hPc := hP.sub (ws' := [(h0, .inr (7, [.int v_riders, .int v_rides, .ref q_riderOf, .ref q_waveOf, .ref q_marks, .int v_lineMany, .ref q_line, .ref q_interfered, .int v_isOpen, .int v_group, .int v_wrong, .ref q_stood, .int v_pastMany, .ref q_past, .int v_days, .ref q_low, .ref q_high, .ref q_was, .ref q_best, .ref q_second, .ref q_total, .ref q_givenTo, .ref q_has, .ref q_own, .ref q_sums, .ref q_below])), (q_best, .inl (cI, 4, .inl v_best)), (q_second, .inl (cI, 4, .inl v_second))]) [0, 4, 5] rfl
  have hDc := hD.sub (ws' := [(h0, .inr (7, [.int v_riders, .int v_rides, .ref q_riderOf, .ref q_waveOf, .ref q_marks, .int v_lineMany, .ref q_line, .ref q_interfered, .int v_isOpen, .int v_group, .int v_wrong, .ref q_stood, .int v_pastMany, .ref q_past, .int v_days, .ref q_low, .ref q_high, .ref q_was, .ref q_best, .ref q_second, .ref q_total, .ref q_givenTo, .ref q_has, .ref q_own, .ref q_sums, .ref q_below])), (q_best, .inl (cI, 4, .inl v_best)), (q_second, .inl (cI, 4, .inl v_second))]) [0, 4, 5] (by decide) rfl
  have hFc := va_free (wc := [(h0, .inr (7, [.int v_riders, .int v_rides, .ref q_riderOf, .ref q_waveOf, .ref q_marks, .int v_lineMany, .ref q_line, .ref q_interfered, .int v_isOpen, .int v_group, .int v_wrong, .ref q_stood, .int v_pastMany, .ref q_past, .int v_days, .ref q_low, .ref q_high, .ref q_was, .ref q_best, .ref q_second, .ref q_total, .ref q_givenTo, .ref q_has, .ref q_own, .ref q_sums, .ref q_below])), (q_best, .inl (cI, 4, .inl v_best)), (q_second, .inl (cI, 4, .inl v_second))]) hD hS hA [0, 4, 5] rfl
  refine va_callv (va_runV (As := []) (rest := []) ⟨hx, hb, hml, hown, hts⟩ (tX7_clearBest l dC dI cI cZ cJ cA H.size h0 v_riders v_rides q_riderOf q_waveOf q_marks v_lineMany q_line q_interfered v_isOpen v_group v_wrong q_stood v_pastMany q_past v_days q_low q_high q_was q_best q_second q_total q_givenTo q_has q_own q_sums q_below v_best v_second N o_1_best o_1_second hu_1) (cwV 0 hts gX7_findBest_X7_clearBest rfl rfl rfl (by decide +kernel) ⟨Nat.le_of_ble_eq_true rfl, Nat.le_of_ble_eq_true rfl⟩) ⟨fun a U g mk q => by obtain ⟨q0, q1, qP, qK, qD⟩ := q; exact ⟨q0, q1, qP, va_K.moved (u := U) (U := U.calling g mk a) (Vm.Alike.refl U.vm) qK, qD⟩, va_recv hK hPc (ci := 7) (q0 := 0) rfl rfl, fun U hU hW => ⟨rfl, by rw [hU], by rw [hU]; exact hPc, va_K.moved hW.alike hK, hDc.weaken (fun _ _ _ _ => trivial)⟩⟩ rfl rfl hl.1 rfl (lv_room (Nat.le_of_ble_eq_true rfl)) dX7_findBest_1 ⟨Nat.zero_le _, Nat.zero_le _⟩) hS (fun q _ h => hFc q h) hFc (fun u t H1 locs ht hvm hw hB hz1 hk1 hS => ?_)
  obtain ⟨hP1, hD1⟩ := hB
  rw [ht] at hP1
  obtain ⟨hP, hD⟩ := va_join (wr := [(q_riderOf, .inl (cI, 30, .inl v_riderOf)), (q_marks, .inl (cI, 150, .inl v_marks)), (q_interfered, .inl (cI, 4, .inl v_interfered)), (q_total, .inl (cI, 4, .inl v_total))]) (w1 := [(h0, .inr (7, [.int v_riders, .int v_rides, .ref q_riderOf, .ref q_waveOf, .ref q_marks, .int v_lineMany, .ref q_line, .ref q_interfered, .int v_isOpen, .int v_group, .int v_wrong, .ref q_stood, .int v_pastMany, .ref q_past, .int v_days, .ref q_low, .ref q_high, .ref q_was, .ref q_best, .ref q_second, .ref q_total, .ref q_givenTo, .ref q_has, .ref q_own, .ref q_sums, .ref q_below])), (q_best, .inl (cI, 4, .inl o_1_best)), (q_second, .inl (cI, 4, .inl o_1_second))]) hP hD [0, 4, 5] [1, 2, 3, 6] rfl rfl (by decide) (by decide) hk1 hFc hP1 hD1
  clear hP1 hD1 hk1 hz1 hPc hDc hFc
  generalize H1 = H at hP hS ⊢
  have hP : va_P (dC, dI) vwCl [(q_riderOf, .inl (cI, 30, .inl v_riderOf)), (q_marks, .inl (cI, 150, .inl v_marks)), (q_interfered, .inl (cI, 4, .inl v_interfered)), (q_total, .inl (cI, 4, .inl v_total)), (h0, .inr (7, [.int v_riders, .int v_rides, .ref q_riderOf, .ref q_waveOf, .ref q_marks, .int v_lineMany, .ref q_line, .ref q_interfered, .int v_isOpen, .int v_group, .int v_wrong, .ref q_stood, .int v_pastMany, .ref q_past, .int v_days, .ref q_low, .ref q_high, .ref q_was, .ref q_best, .ref q_second, .ref q_total, .ref q_givenTo, .ref q_has, .ref q_own, .ref q_sums, .ref q_below])), (q_best, .inl (cI, 4, .inl o_1_best)), (q_second, .inl (cI, 4, .inl o_1_second))] H := hP
  have hD : va_D A [(q_riderOf, .inl (cI, 30, .inl v_riderOf)), (q_marks, .inl (cI, 150, .inl v_marks)), (q_interfered, .inl (cI, 4, .inl v_interfered)), (q_total, .inl (cI, 4, .inl v_total)), (h0, .inr (7, [.int v_riders, .int v_rides, .ref q_riderOf, .ref q_waveOf, .ref q_marks, .int v_lineMany, .ref q_line, .ref q_interfered, .int v_isOpen, .int v_group, .int v_wrong, .ref q_stood, .int v_pastMany, .ref q_past, .int v_days, .ref q_low, .ref q_high, .ref q_was, .ref q_best, .ref q_second, .ref q_total, .ref q_givenTo, .ref q_has, .ref q_own, .ref q_sums, .ref q_below])), (q_best, .inl (cI, 4, .inl o_1_best)), (q_second, .inl (cI, 4, .inl o_1_second))] := hD
  refine lv_iconst (v := 0) hx hb dX7_findBest_4 (by decide) ?_
  refine lv_istore_n (lv' := [(1, .int 0), (0, .ref h0)]) hx hb dX7_findBest_5 rfl hl (by decide) rfl (fun ls hl => ?_)
  have hP : va_P (dC, dI) vwCl [(h0, .inr (7, [.int v_riders, .int v_rides, .ref q_riderOf, .ref q_waveOf, .ref q_marks, .int v_lineMany, .ref q_line, .ref q_interfered, .int v_isOpen, .int v_group, .int v_wrong, .ref q_stood, .int v_pastMany, .ref q_past, .int v_days, .ref q_low, .ref q_high, .ref q_was, .ref q_best, .ref q_second, .ref q_total, .ref q_givenTo, .ref q_has, .ref q_own, .ref q_sums, .ref q_below])), (q_riderOf, .inl (cI, 30, .inl v_riderOf)), (q_marks, .inl (cI, 150, .inl v_marks)), (q_interfered, .inl (cI, 4, .inl v_interfered)), (q_best, .inl (cI, 4, .inl o_1_best)), (q_second, .inl (cI, 4, .inl o_1_second)), (q_total, .inl (cI, 4, .inl v_total))] H := hP.sub [4, 0, 1, 2, 5, 6, 3] rfl
  have hD : va_D A [(h0, .inr (7, [.int v_riders, .int v_rides, .ref q_riderOf, .ref q_waveOf, .ref q_marks, .int v_lineMany, .ref q_line, .ref q_interfered, .int v_isOpen, .int v_group, .int v_wrong, .ref q_stood, .int v_pastMany, .ref q_past, .int v_days, .ref q_low, .ref q_high, .ref q_was, .ref q_best, .ref q_second, .ref q_total, .ref q_givenTo, .ref q_has, .ref q_own, .ref q_sums, .ref q_below])), (q_riderOf, .inl (cI, 30, .inl v_riderOf)), (q_marks, .inl (cI, 150, .inl v_marks)), (q_interfered, .inl (cI, 4, .inl v_interfered)), (q_best, .inl (cI, 4, .inl o_1_best)), (q_second, .inl (cI, 4, .inl o_1_second)), (q_total, .inl (cI, 4, .inl v_total))] := hD.sub [4, 0, 1, 2, 5, 6, 3] (by decide) rfl
  refine wX7_findBest_L6 hx hb hr hml hown hts hlocks hA hK N 0 o_1_best o_1_second H locs ls hP hD hS (lv_sub hl [1, 0] rfl) hf ?_
  intro x1_6 v_best_6 v_second_6 H locs ls hP hD hS hl hf
  refine lv_aload_n hx hb dX7_findBest_35 rfl (lv_at hl 0 rfl) ?_
  obtain ⟨o_7_total, hu_7, hf⟩ := it_b1 hf
  have hPc := hP.sub (ws' := [(h0, .inr (7, [.int v_riders, .int v_rides, .ref q_riderOf, .ref q_waveOf, .ref q_marks, .int v_lineMany, .ref q_line, .ref q_interfered, .int v_isOpen, .int v_group, .int v_wrong, .ref q_stood, .int v_pastMany, .ref q_past, .int v_days, .ref q_low, .ref q_high, .ref q_was, .ref q_best, .ref q_second, .ref q_total, .ref q_givenTo, .ref q_has, .ref q_own, .ref q_sums, .ref q_below])), (q_interfered, .inl (cI, 4, .inl v_interfered)), (q_best, .inl (cI, 4, .inl v_best_6)), (q_second, .inl (cI, 4, .inl v_second_6)), (q_total, .inl (cI, 4, .inl v_total))]) [0, 3, 4, 5, 6] rfl
  have hDc := hD.sub (ws' := [(h0, .inr (7, [.int v_riders, .int v_rides, .ref q_riderOf, .ref q_waveOf, .ref q_marks, .int v_lineMany, .ref q_line, .ref q_interfered, .int v_isOpen, .int v_group, .int v_wrong, .ref q_stood, .int v_pastMany, .ref q_past, .int v_days, .ref q_low, .ref q_high, .ref q_was, .ref q_best, .ref q_second, .ref q_total, .ref q_givenTo, .ref q_has, .ref q_own, .ref q_sums, .ref q_below])), (q_interfered, .inl (cI, 4, .inl v_interfered)), (q_best, .inl (cI, 4, .inl v_best_6)), (q_second, .inl (cI, 4, .inl v_second_6)), (q_total, .inl (cI, 4, .inl v_total))]) [0, 3, 4, 5, 6] (by decide) rfl
  have hFc := va_free (wc := [(h0, .inr (7, [.int v_riders, .int v_rides, .ref q_riderOf, .ref q_waveOf, .ref q_marks, .int v_lineMany, .ref q_line, .ref q_interfered, .int v_isOpen, .int v_group, .int v_wrong, .ref q_stood, .int v_pastMany, .ref q_past, .int v_days, .ref q_low, .ref q_high, .ref q_was, .ref q_best, .ref q_second, .ref q_total, .ref q_givenTo, .ref q_has, .ref q_own, .ref q_sums, .ref q_below])), (q_interfered, .inl (cI, 4, .inl v_interfered)), (q_best, .inl (cI, 4, .inl v_best_6)), (q_second, .inl (cI, 4, .inl v_second_6)), (q_total, .inl (cI, 4, .inl v_total))]) hD hS hA [0, 3, 4, 5, 6] rfl
  refine va_callv (va_runV (As := []) (rest := []) ⟨hx, hb, hml, hown, hts⟩ (tX7_findTotals l dC dI cI cZ cJ cA H.size h0 v_riders v_rides q_riderOf q_waveOf q_marks v_lineMany q_line q_interfered v_isOpen v_group v_wrong q_stood v_pastMany q_past v_days q_low q_high q_was q_best q_second q_total q_givenTo q_has q_own q_sums q_below v_interfered v_best_6 v_second_6 v_total N o_7_total hu_7) (cwV 0 hts gX7_findBest_X7_findTotals rfl rfl rfl (by decide +kernel) ⟨Nat.le_of_ble_eq_true rfl, Nat.le_of_ble_eq_true rfl⟩) ⟨fun a U g mk q => by obtain ⟨q0, q1, qP, qK, qD⟩ := q; exact ⟨q0, q1, qP, va_K.moved (u := U) (U := U.calling g mk a) (Vm.Alike.refl U.vm) qK, qD⟩, va_recv hK hPc (ci := 7) (q0 := 0) rfl rfl, fun U hU hW => ⟨rfl, by rw [hU], by rw [hU]; exact hPc, va_K.moved hW.alike hK, hDc.weaken (fun _ _ _ _ => trivial)⟩⟩ rfl rfl hl.1 rfl (lv_room (Nat.le_of_ble_eq_true rfl)) dX7_findBest_36 ⟨Nat.zero_le _, Nat.zero_le _⟩) hS (fun q _ h => hFc q h) hFc (fun u t H1 locs ht hvm hw hB hz1 hk1 hS => ?_)
  obtain ⟨hP1, hD1⟩ := hB
  rw [ht] at hP1
  obtain ⟨hP, hD⟩ := va_join (wr := [(q_riderOf, .inl (cI, 30, .inl v_riderOf)), (q_marks, .inl (cI, 150, .inl v_marks))]) (w1 := [(h0, .inr (7, [.int v_riders, .int v_rides, .ref q_riderOf, .ref q_waveOf, .ref q_marks, .int v_lineMany, .ref q_line, .ref q_interfered, .int v_isOpen, .int v_group, .int v_wrong, .ref q_stood, .int v_pastMany, .ref q_past, .int v_days, .ref q_low, .ref q_high, .ref q_was, .ref q_best, .ref q_second, .ref q_total, .ref q_givenTo, .ref q_has, .ref q_own, .ref q_sums, .ref q_below])), (q_interfered, .inl (cI, 4, .inl v_interfered)), (q_best, .inl (cI, 4, .inl v_best_6)), (q_second, .inl (cI, 4, .inl v_second_6)), (q_total, .inl (cI, 4, .inl o_7_total))]) hP hD [0, 3, 4, 5, 6] [1, 2] rfl rfl (by decide) (by decide) hk1 hFc hP1 hD1
  clear hP1 hD1 hk1 hz1 hPc hDc hFc
  generalize H1 = H at hP hS ⊢
  have hP : va_P (dC, dI) vwCl [(q_riderOf, .inl (cI, 30, .inl v_riderOf)), (q_marks, .inl (cI, 150, .inl v_marks)), (h0, .inr (7, [.int v_riders, .int v_rides, .ref q_riderOf, .ref q_waveOf, .ref q_marks, .int v_lineMany, .ref q_line, .ref q_interfered, .int v_isOpen, .int v_group, .int v_wrong, .ref q_stood, .int v_pastMany, .ref q_past, .int v_days, .ref q_low, .ref q_high, .ref q_was, .ref q_best, .ref q_second, .ref q_total, .ref q_givenTo, .ref q_has, .ref q_own, .ref q_sums, .ref q_below])), (q_interfered, .inl (cI, 4, .inl v_interfered)), (q_best, .inl (cI, 4, .inl v_best_6)), (q_second, .inl (cI, 4, .inl v_second_6)), (q_total, .inl (cI, 4, .inl o_7_total))] H := hP
  have hD : va_D A [(q_riderOf, .inl (cI, 30, .inl v_riderOf)), (q_marks, .inl (cI, 150, .inl v_marks)), (h0, .inr (7, [.int v_riders, .int v_rides, .ref q_riderOf, .ref q_waveOf, .ref q_marks, .int v_lineMany, .ref q_line, .ref q_interfered, .int v_isOpen, .int v_group, .int v_wrong, .ref q_stood, .int v_pastMany, .ref q_past, .int v_days, .ref q_low, .ref q_high, .ref q_was, .ref q_best, .ref q_second, .ref q_total, .ref q_givenTo, .ref q_has, .ref q_own, .ref q_sums, .ref q_below])), (q_interfered, .inl (cI, 4, .inl v_interfered)), (q_best, .inl (cI, 4, .inl v_best_6)), (q_second, .inl (cI, 4, .inl v_second_6)), (q_total, .inl (cI, 4, .inl o_7_total))] := hD
  have hP : va_P (dC, dI) vwCl [(h0, .inr (7, [.int v_riders, .int v_rides, .ref q_riderOf, .ref q_waveOf, .ref q_marks, .int v_lineMany, .ref q_line, .ref q_interfered, .int v_isOpen, .int v_group, .int v_wrong, .ref q_stood, .int v_pastMany, .ref q_past, .int v_days, .ref q_low, .ref q_high, .ref q_was, .ref q_best, .ref q_second, .ref q_total, .ref q_givenTo, .ref q_has, .ref q_own, .ref q_sums, .ref q_below])), (q_riderOf, .inl (cI, 30, .inl v_riderOf)), (q_marks, .inl (cI, 150, .inl v_marks)), (q_interfered, .inl (cI, 4, .inl v_interfered)), (q_best, .inl (cI, 4, .inl v_best_6)), (q_second, .inl (cI, 4, .inl v_second_6)), (q_total, .inl (cI, 4, .inl o_7_total))] H := hP.sub [2, 0, 1, 3, 4, 5, 6] rfl
  have hD : va_D A [(h0, .inr (7, [.int v_riders, .int v_rides, .ref q_riderOf, .ref q_waveOf, .ref q_marks, .int v_lineMany, .ref q_line, .ref q_interfered, .int v_isOpen, .int v_group, .int v_wrong, .ref q_stood, .int v_pastMany, .ref q_past, .int v_days, .ref q_low, .ref q_high, .ref q_was, .ref q_best, .ref q_second, .ref q_total, .ref q_givenTo, .ref q_has, .ref q_own, .ref q_sums, .ref q_below])), (q_riderOf, .inl (cI, 30, .inl v_riderOf)), (q_marks, .inl (cI, 150, .inl v_marks)), (q_interfered, .inl (cI, 4, .inl v_interfered)), (q_best, .inl (cI, 4, .inl v_best_6)), (q_second, .inl (cI, 4, .inl v_second_6)), (q_total, .inl (cI, 4, .inl o_7_total))] := hD.sub [2, 0, 1, 3, 4, 5, 6] (by decide) rfl
  cases hf
  exact W.vret hx hb hr (fun t ht hW => ⟨⟨(), rfl, trivial, by rw [ht]; exact hP, hD⟩, hS.F ht⟩) hS.2.2 dX7_findBest_39
/-! X7_placeOf -/
theorem iw_X7_placeOf_X7 : ∀ w ∈ wsX70, w ∈ wsX7_placeOf := by decide +kernel
set_option maxHeartbeats 4000000 in
set_option maxRecDepth 100000 in
theorem wX7_placeOf_L4 {p : Program} {l : Launch} {e : Env} {s : State} {m : MethodId} {args : Array Value} {below : List Frame} {meth : Method} {c : Code} {dC : Nat → ClassId} {dI : Nat → Nat → Nat} {cI cZ cJ cA : ClassId} {A : Nat → Prop} {h0 : Nat} {v_riders : Int32} {v_rides : Int32} {q_riderOf : Nat} {q_waveOf : Nat} {q_marks : Nat} {v_lineMany : Int32} {q_line : Nat} {q_interfered : Nat} {v_isOpen : Int32} {v_group : Int32} {v_wrong : Int32} {q_stood : Nat} {v_pastMany : Int32} {q_past : Nat} {v_days : Int32} {q_low : Nat} {q_high : Nat} {q_was : Nat} {q_best : Nat} {q_second : Nat} {q_total : Nat} {q_givenTo : Nat} {q_has : Nat} {q_own : Nat} {q_sums : Nat} {q_below : Nat} {v_best : Nat → Int32} {v_total : Nat → Int32} {x1 : Int32} {r0 : Int32} {N : Nat}  (hx : p.tables.exec = Jvm.exec) (hb : c.code = cX7_placeOf) (hr : meth.sig.returnType = (some .int)) (hml : c.maxLocals = 5) (hown : s.vm.findClass RX7 = some m.cls) (hts : ∀ w ∈ wsX7_placeOf, w.before args s = true) (hlocks : meth.locks = false) (hA : ∀ q : Nat, s.heap.size ≤ q → A q) (hK : va_K (dC, dI) vwCl [(cI, .int), (cZ, .boolean), (cJ, .long), (cA, .array .long)] s) : ∀ (n : Nat) (x2 : Int32) (x3 : Int32) (H : Heap) (locs : List Loc) (ls : Array Slot), va_P (dC, dI) vwCl [(h0, .inr (7, [.int v_riders, .int v_rides, .ref q_riderOf, .ref q_waveOf, .ref q_marks, .int v_lineMany, .ref q_line, .ref q_interfered, .int v_isOpen, .int v_group, .int v_wrong, .ref q_stood, .int v_pastMany, .ref q_past, .int v_days, .ref q_low, .ref q_high, .ref q_was, .ref q_best, .ref q_second, .ref q_total, .ref q_givenTo, .ref q_has, .ref q_own, .ref q_sums, .ref q_below])), (q_best, .inl (cI, 4, .inl v_best)), (q_total, .inl (cI, 4, .inl v_total))] H → va_D A [(h0, .inr (7, [.int v_riders, .int v_rides, .ref q_riderOf, .ref q_waveOf, .ref q_marks, .int v_lineMany, .ref q_line, .ref q_interfered, .int v_isOpen, .int v_group, .int v_wrong, .ref q_stood, .int v_pastMany, .ref q_past, .int v_days, .ref q_low, .ref q_high, .ref q_was, .ref q_best, .ref q_second, .ref q_total, .ref q_givenTo, .ref q_has, .ref q_own, .ref q_sums, .ref q_below])), (q_best, .inl (cI, 4, .inl v_best)), (q_total, .inl (cI, 4, .inl v_total))] → va_S A s.heap H locs → lv_has ls 5 [(0, .ref h0), (1, .int x1), (2, .int x2), (3, .int x3)] → fX7_placeOf_L4 N x1 v_riders v_best v_total n x2 x3 = some r0 → W p l e (headSpec wsX7_placeOf ({ frames := 0, cells := 0, slots := 0, locals := 0 })).room s m args below meth c H locs 0 0 (MQ below (va_Qi (fun (r9 : Int32) (_ : Unit) => r0 = r9) (fun _ t => va_P (dC, dI) vwCl [(h0, .inr (7, [.int v_riders, .int v_rides, .ref q_riderOf, .ref q_waveOf, .ref q_marks, .int v_lineMany, .ref q_line, .ref q_interfered, .int v_isOpen, .int v_group, .int v_wrong, .ref q_stood, .int v_pastMany, .ref q_past, .int v_days, .ref q_low, .ref q_high, .ref q_was, .ref q_best, .ref q_second, .ref q_total, .ref q_givenTo, .ref q_has, .ref q_own, .ref q_sums, .ref q_below])), (q_best, .inl (cI, 4, .inl v_best)), (q_total, .inl (cI, 4, .inl v_total))] t.heap ∧ va_D A [(h0, .inr (7, [.int v_riders, .int v_rides, .ref q_riderOf, .ref q_waveOf, .ref q_marks, .int v_lineMany, .ref q_line, .ref q_interfered, .int v_isOpen, .int v_group, .int v_wrong, .ref q_stood, .int v_pastMany, .ref q_past, .int v_days, .ref q_low, .ref q_high, .ref q_was, .ref q_best, .ref q_second, .ref q_total, .ref q_givenTo, .ref q_has, .ref q_own, .ref q_sums, .ref q_below])), (q_best, .inl (cI, 4, .inl v_best)), (q_total, .inl (cI, 4, .inl v_total))]) A) args s 0 0 A) (F0 m 4 ls []) := by
  intro n
  induction n with
  | zero =>
    intro x2 x3 H locs ls hP hD hS hl hf
    exact nomatch (show (none : Option (Int32)) = some r0 from hf)
  | succ n ih =>
    intro x2 x3 H locs ls hP hD hS hl hf
    rw [fX7_placeOf_L4] at hf
    refine lv_iload_n hx hb dX7_placeOf_4 rfl (lv_at hl 3 rfl) ?_
    refine lv_aload_n hx hb dX7_placeOf_5 rfl (lv_at hl 0 rfl) ?_
    refine va_get (D := (dC, dI)) (ci := 7) (v := .int v_riders) (C := RX7) (T := TX7) (N := 26) hx hb hts iw_X7_placeOf_X7 hown hK hP 0 rfl rfl 0 (by decide) (hts (.fieldLink RX7 7 "HeatBenchModel" "riders" "I") (List.mem_of_getElem? (i := 1) rfl)) (fun _ h9 => h9) rfl dX7_placeOf_6 ?_
    refine lv_icmp_ge (tgt := 103) hx hb dX7_placeOf_9 (by decide) (fun h_1 => ?_) (fun h_1 => ?_)
    · have hf := it_t h_1 hf
      refine lv_iload_n hx hb dX7_placeOf_103 rfl (lv_at hl 2 rfl) ?_
      cases hf
      exact W.iret hx hb hr (fun t ht hW => ⟨⟨_, (), rfl, rfl, by rw [ht]; exact hP, hD⟩, hS.F ht⟩) hS.2.2 dX7_placeOf_104
    · have hf := it_f h_1 hf
      refine lv_aload_n hx hb dX7_placeOf_12 rfl (lv_at hl 0 rfl) ?_
      refine va_get (D := (dC, dI)) (ci := 7) (v := .ref q_total) (C := RX7) (T := TX7) (N := 26) hx hb hts iw_X7_placeOf_X7 hown hK hP 0 rfl rfl 20 (by decide) (hts (.fieldLink RX7 56 "HeatBenchModel" "total" "[I") (List.mem_of_getElem? (i := 2) rfl)) (fun _ h9 => h9) rfl dX7_placeOf_13 ?_
      refine lv_iload_n hx hb dX7_placeOf_16 rfl (lv_at hl 3 rfl) ?_
      obtain ⟨h_2, hf⟩ := it_n hf
      refine va_iald hx hb hK hP 2 0 rfl rfl h_2 dX7_placeOf_17 ?_
      refine lv_aload_n hx hb dX7_placeOf_18 rfl (lv_at hl 0 rfl) ?_
      refine va_get (D := (dC, dI)) (ci := 7) (v := .ref q_total) (C := RX7) (T := TX7) (N := 26) hx hb hts iw_X7_placeOf_X7 hown hK hP 0 rfl rfl 20 (by decide) (hts (.fieldLink RX7 56 "HeatBenchModel" "total" "[I") (List.mem_of_getElem? (i := 2) rfl)) (fun _ h9 => h9) rfl dX7_placeOf_19 ?_
      refine lv_iload_n hx hb dX7_placeOf_22 rfl (lv_at hl 1 rfl) ?_
      obtain ⟨h_3, hf⟩ := it_n hf
      refine va_iald hx hb hK hP 2 0 rfl rfl h_3 dX7_placeOf_23 ?_
      refine lv_icmp_ne (tgt := 66) hx hb dX7_placeOf_24 (by decide) (fun h_4 => ?_) (fun h_4 => ?_)
      · have hf := it_f h_4 hf
        refine lv_iconst (v := 0) hx hb dX7_placeOf_66 (by decide) ?_
        refine lv_istore (lv' := [(4, .int 0), (0, .ref h0), (1, .int x1), (2, .int x2), (3, .int x3)]) hx hb dX7_placeOf_67 hl (by decide) rfl (fun ls hl => ?_)
        refine lv_iload_n hx hb dX7_placeOf_69 rfl (lv_at hl 3 rfl) ?_
        refine lv_aload_n hx hb dX7_placeOf_70 rfl (lv_at hl 1 rfl) ?_
        refine va_get (D := (dC, dI)) (ci := 7) (v := .ref q_total) (C := RX7) (T := TX7) (N := 26) hx hb hts iw_X7_placeOf_X7 hown hK hP 0 rfl rfl 20 (by decide) (hts (.fieldLink RX7 56 "HeatBenchModel" "total" "[I") (List.mem_of_getElem? (i := 2) rfl)) (fun _ h9 => h9) rfl dX7_placeOf_71 ?_
        refine lv_iload_n hx hb dX7_placeOf_74 rfl (lv_at hl 4 rfl) ?_
        refine va_iald hx hb hK hP 2 0 rfl rfl h_2 dX7_placeOf_75 ?_
        refine lv_aload_n hx hb dX7_placeOf_76 rfl (lv_at hl 1 rfl) ?_
        refine va_get (D := (dC, dI)) (ci := 7) (v := .ref q_total) (C := RX7) (T := TX7) (N := 26) hx hb hts iw_X7_placeOf_X7 hown hK hP 0 rfl rfl 20 (by decide) (hts (.fieldLink RX7 56 "HeatBenchModel" "total" "[I") (List.mem_of_getElem? (i := 2) rfl)) (fun _ h9 => h9) rfl dX7_placeOf_77 ?_
        refine lv_iload_n hx hb dX7_placeOf_80 rfl (lv_at hl 2 rfl) ?_
        refine va_iald hx hb hK hP 2 0 rfl rfl h_3 dX7_placeOf_81 ?_
        refine lv_icmp_gt (tgt := 90) hx hb dX7_placeOf_82 (by decide) (fun h_5 => ?_) (fun h_5 => ?_)
        · have hf := it_t h_5 hf
          refine lv_iconst (v := 1) hx hb dX7_placeOf_90 (by decide) ?_
          refine lv_goto (tgt := 95) hx hb dX7_placeOf_91 (by decide) ?_
          refine lv_iadd hx hb dX7_placeOf_95 ?_
          refine lv_istore_n (lv' := [(2, .int (x2 + 1)), (4, .int 0), (0, .ref h0), (1, .int x1), (3, .int x3)]) hx hb dX7_placeOf_96 rfl hl (by decide) rfl (fun ls hl => ?_)
          refine lv_iinc (v := x3 + 1) (lv' := [(3, .int (x3 + 1)), (2, .int (x2 + 1)), (4, .int 0), (0, .ref h0), (1, .int x1)]) hx hb dX7_placeOf_97 hl (k := 4) rfl rfl (by decide) rfl (fun ls hl => ?_)
          refine lv_goto (tgt := 4) hx hb dX7_placeOf_100 (by decide) ?_
          exact ih (x2 + 1) (x3 + 1) H locs ls hP hD hS (lv_sub hl [3, 4, 1, 0] rfl) hf
        · have hf := it_f h_5 hf
          refine lv_iload hx hb dX7_placeOf_85 (lv_at hl 0 rfl) ?_
          refine lv_if_eq (tgt := 94) hx hb dX7_placeOf_87 (by decide) (fun h_6 => ?_) (fun h_6 => ?_)
          · refine lv_iconst (v := 0) hx hb dX7_placeOf_94 (by decide) ?_
            refine lv_iadd hx hb dX7_placeOf_95 ?_
            refine lv_istore_n (lv' := [(2, .int (x2 + 0)), (4, .int 0), (0, .ref h0), (1, .int x1), (3, .int x3)]) hx hb dX7_placeOf_96 rfl hl (by decide) rfl (fun ls hl => ?_)
            refine lv_iinc (v := x3 + 1) (lv' := [(3, .int (x3 + 1)), (2, .int (x2 + 0)), (4, .int 0), (0, .ref h0), (1, .int x1)]) hx hb dX7_placeOf_97 hl (k := 4) rfl rfl (by decide) rfl (fun ls hl => ?_)
            refine lv_goto (tgt := 4) hx hb dX7_placeOf_100 (by decide) ?_
            exact ih (x2 + 0) (x3 + 1) H locs ls hP hD hS (lv_sub hl [3, 4, 1, 0] rfl) hf
          · exact absurd h_6 (by decide)
      · have hf := it_t h_4 hf
        refine lv_aload_n hx hb dX7_placeOf_27 rfl (lv_at hl 0 rfl) ?_
        refine va_get (D := (dC, dI)) (ci := 7) (v := .ref q_best) (C := RX7) (T := TX7) (N := 26) hx hb hts iw_X7_placeOf_X7 hown hK hP 0 rfl rfl 18 (by decide) (hts (.fieldLink RX7 50 "HeatBenchModel" "best" "[I") (List.mem_of_getElem? (i := 3) rfl)) (fun _ h9 => h9) rfl dX7_placeOf_28 ?_
        refine lv_iload_n hx hb dX7_placeOf_31 rfl (lv_at hl 3 rfl) ?_
        refine va_iald hx hb hK hP 1 0 rfl rfl h_2 dX7_placeOf_32 ?_
        refine lv_aload_n hx hb dX7_placeOf_33 rfl (lv_at hl 0 rfl) ?_
        refine va_get (D := (dC, dI)) (ci := 7) (v := .ref q_best) (C := RX7) (T := TX7) (N := 26) hx hb hts iw_X7_placeOf_X7 hown hK hP 0 rfl rfl 18 (by decide) (hts (.fieldLink RX7 50 "HeatBenchModel" "best" "[I") (List.mem_of_getElem? (i := 3) rfl)) (fun _ h9 => h9) rfl dX7_placeOf_34 ?_
        refine lv_iload_n hx hb dX7_placeOf_37 rfl (lv_at hl 1 rfl) ?_
        refine va_iald hx hb hK hP 1 0 rfl rfl h_3 dX7_placeOf_38 ?_
        refine lv_icmp_gt (tgt := 62) hx hb dX7_placeOf_39 (by decide) (fun h_7 => ?_) (fun h_7 => ?_)
        · have hf := it_t h_7 hf
          refine lv_iconst (v := 1) hx hb dX7_placeOf_62 (by decide) ?_
          refine lv_goto (tgt := 67) hx hb dX7_placeOf_63 (by decide) ?_
          refine lv_istore (lv' := [(4, .int 1), (0, .ref h0), (1, .int x1), (2, .int x2), (3, .int x3)]) hx hb dX7_placeOf_67 hl (by decide) rfl (fun ls hl => ?_)
          refine lv_iload_n hx hb dX7_placeOf_69 rfl (lv_at hl 3 rfl) ?_
          refine lv_aload_n hx hb dX7_placeOf_70 rfl (lv_at hl 1 rfl) ?_
          refine va_get (D := (dC, dI)) (ci := 7) (v := .ref q_total) (C := RX7) (T := TX7) (N := 26) hx hb hts iw_X7_placeOf_X7 hown hK hP 0 rfl rfl 20 (by decide) (hts (.fieldLink RX7 56 "HeatBenchModel" "total" "[I") (List.mem_of_getElem? (i := 2) rfl)) (fun _ h9 => h9) rfl dX7_placeOf_71 ?_
          refine lv_iload_n hx hb dX7_placeOf_74 rfl (lv_at hl 4 rfl) ?_
          refine va_iald hx hb hK hP 2 0 rfl rfl h_2 dX7_placeOf_75 ?_
          refine lv_aload_n hx hb dX7_placeOf_76 rfl (lv_at hl 1 rfl) ?_
          refine va_get (D := (dC, dI)) (ci := 7) (v := .ref q_total) (C := RX7) (T := TX7) (N := 26) hx hb hts iw_X7_placeOf_X7 hown hK hP 0 rfl rfl 20 (by decide) (hts (.fieldLink RX7 56 "HeatBenchModel" "total" "[I") (List.mem_of_getElem? (i := 2) rfl)) (fun _ h9 => h9) rfl dX7_placeOf_77 ?_
          refine lv_iload_n hx hb dX7_placeOf_80 rfl (lv_at hl 2 rfl) ?_
          refine va_iald hx hb hK hP 2 0 rfl rfl h_3 dX7_placeOf_81 ?_
          refine lv_icmp_gt (tgt := 90) hx hb dX7_placeOf_82 (by decide) (fun h_8 => ?_) (fun h_8 => ?_)
          · have hf := it_t h_8 hf
            refine lv_iconst (v := 1) hx hb dX7_placeOf_90 (by decide) ?_
            refine lv_goto (tgt := 95) hx hb dX7_placeOf_91 (by decide) ?_
            refine lv_iadd hx hb dX7_placeOf_95 ?_
            refine lv_istore_n (lv' := [(2, .int (x2 + 1)), (4, .int 1), (0, .ref h0), (1, .int x1), (3, .int x3)]) hx hb dX7_placeOf_96 rfl hl (by decide) rfl (fun ls hl => ?_)
            refine lv_iinc (v := x3 + 1) (lv' := [(3, .int (x3 + 1)), (2, .int (x2 + 1)), (4, .int 1), (0, .ref h0), (1, .int x1)]) hx hb dX7_placeOf_97 hl (k := 4) rfl rfl (by decide) rfl (fun ls hl => ?_)
            refine lv_goto (tgt := 4) hx hb dX7_placeOf_100 (by decide) ?_
            exact ih (x2 + 1) (x3 + 1) H locs ls hP hD hS (lv_sub hl [3, 4, 1, 0] rfl) hf
          · have hf := it_f h_8 hf
            refine lv_iload hx hb dX7_placeOf_85 (lv_at hl 0 rfl) ?_
            refine lv_if_eq (tgt := 94) hx hb dX7_placeOf_87 (by decide) (fun h_9 => ?_) (fun h_9 => ?_)
            · exact absurd h_9 (by decide)
            · refine lv_iconst (v := 1) hx hb dX7_placeOf_90 (by decide) ?_
              refine lv_goto (tgt := 95) hx hb dX7_placeOf_91 (by decide) ?_
              refine lv_iadd hx hb dX7_placeOf_95 ?_
              refine lv_istore_n (lv' := [(2, .int (x2 + 1)), (4, .int 1), (0, .ref h0), (1, .int x1), (3, .int x3)]) hx hb dX7_placeOf_96 rfl hl (by decide) rfl (fun ls hl => ?_)
              refine lv_iinc (v := x3 + 1) (lv' := [(3, .int (x3 + 1)), (2, .int (x2 + 1)), (4, .int 1), (0, .ref h0), (1, .int x1)]) hx hb dX7_placeOf_97 hl (k := 4) rfl rfl (by decide) rfl (fun ls hl => ?_)
              refine lv_goto (tgt := 4) hx hb dX7_placeOf_100 (by decide) ?_
              exact ih (x2 + 1) (x3 + 1) H locs ls hP hD hS (lv_sub hl [3, 4, 1, 0] rfl) hf
        · have hf := it_f h_7 hf
          refine lv_aload_n hx hb dX7_placeOf_42 rfl (lv_at hl 0 rfl) ?_
          refine va_get (D := (dC, dI)) (ci := 7) (v := .ref q_best) (C := RX7) (T := TX7) (N := 26) hx hb hts iw_X7_placeOf_X7 hown hK hP 0 rfl rfl 18 (by decide) (hts (.fieldLink RX7 50 "HeatBenchModel" "best" "[I") (List.mem_of_getElem? (i := 3) rfl)) (fun _ h9 => h9) rfl dX7_placeOf_43 ?_
          refine lv_iload_n hx hb dX7_placeOf_46 rfl (lv_at hl 3 rfl) ?_
          refine va_iald hx hb hK hP 1 0 rfl rfl h_2 dX7_placeOf_47 ?_
          refine lv_aload_n hx hb dX7_placeOf_48 rfl (lv_at hl 0 rfl) ?_
          refine va_get (D := (dC, dI)) (ci := 7) (v := .ref q_best) (C := RX7) (T := TX7) (N := 26) hx hb hts iw_X7_placeOf_X7 hown hK hP 0 rfl rfl 18 (by decide) (hts (.fieldLink RX7 50 "HeatBenchModel" "best" "[I") (List.mem_of_getElem? (i := 3) rfl)) (fun _ h9 => h9) rfl dX7_placeOf_49 ?_
          refine lv_iload_n hx hb dX7_placeOf_52 rfl (lv_at hl 1 rfl) ?_
          refine va_iald hx hb hK hP 1 0 rfl rfl h_3 dX7_placeOf_53 ?_
          refine lv_icmp_ne (tgt := 66) hx hb dX7_placeOf_54 (by decide) (fun h_10 => ?_) (fun h_10 => ?_)
          · have hf := it_f h_10 hf
            refine lv_iconst (v := 0) hx hb dX7_placeOf_66 (by decide) ?_
            refine lv_istore (lv' := [(4, .int 0), (0, .ref h0), (1, .int x1), (2, .int x2), (3, .int x3)]) hx hb dX7_placeOf_67 hl (by decide) rfl (fun ls hl => ?_)
            refine lv_iload_n hx hb dX7_placeOf_69 rfl (lv_at hl 3 rfl) ?_
            refine lv_aload_n hx hb dX7_placeOf_70 rfl (lv_at hl 1 rfl) ?_
            refine va_get (D := (dC, dI)) (ci := 7) (v := .ref q_total) (C := RX7) (T := TX7) (N := 26) hx hb hts iw_X7_placeOf_X7 hown hK hP 0 rfl rfl 20 (by decide) (hts (.fieldLink RX7 56 "HeatBenchModel" "total" "[I") (List.mem_of_getElem? (i := 2) rfl)) (fun _ h9 => h9) rfl dX7_placeOf_71 ?_
            refine lv_iload_n hx hb dX7_placeOf_74 rfl (lv_at hl 4 rfl) ?_
            refine va_iald hx hb hK hP 2 0 rfl rfl h_2 dX7_placeOf_75 ?_
            refine lv_aload_n hx hb dX7_placeOf_76 rfl (lv_at hl 1 rfl) ?_
            refine va_get (D := (dC, dI)) (ci := 7) (v := .ref q_total) (C := RX7) (T := TX7) (N := 26) hx hb hts iw_X7_placeOf_X7 hown hK hP 0 rfl rfl 20 (by decide) (hts (.fieldLink RX7 56 "HeatBenchModel" "total" "[I") (List.mem_of_getElem? (i := 2) rfl)) (fun _ h9 => h9) rfl dX7_placeOf_77 ?_
            refine lv_iload_n hx hb dX7_placeOf_80 rfl (lv_at hl 2 rfl) ?_
            refine va_iald hx hb hK hP 2 0 rfl rfl h_3 dX7_placeOf_81 ?_
            refine lv_icmp_gt (tgt := 90) hx hb dX7_placeOf_82 (by decide) (fun h_11 => ?_) (fun h_11 => ?_)
            · have hf := it_t h_11 hf
              refine lv_iconst (v := 1) hx hb dX7_placeOf_90 (by decide) ?_
              refine lv_goto (tgt := 95) hx hb dX7_placeOf_91 (by decide) ?_
              refine lv_iadd hx hb dX7_placeOf_95 ?_
              refine lv_istore_n (lv' := [(2, .int (x2 + 1)), (4, .int 0), (0, .ref h0), (1, .int x1), (3, .int x3)]) hx hb dX7_placeOf_96 rfl hl (by decide) rfl (fun ls hl => ?_)
              refine lv_iinc (v := x3 + 1) (lv' := [(3, .int (x3 + 1)), (2, .int (x2 + 1)), (4, .int 0), (0, .ref h0), (1, .int x1)]) hx hb dX7_placeOf_97 hl (k := 4) rfl rfl (by decide) rfl (fun ls hl => ?_)
              refine lv_goto (tgt := 4) hx hb dX7_placeOf_100 (by decide) ?_
              exact ih (x2 + 1) (x3 + 1) H locs ls hP hD hS (lv_sub hl [3, 4, 1, 0] rfl) hf
            · have hf := it_f h_11 hf
              refine lv_iload hx hb dX7_placeOf_85 (lv_at hl 0 rfl) ?_
              refine lv_if_eq (tgt := 94) hx hb dX7_placeOf_87 (by decide) (fun h_12 => ?_) (fun h_12 => ?_)
              · refine lv_iconst (v := 0) hx hb dX7_placeOf_94 (by decide) ?_
                refine lv_iadd hx hb dX7_placeOf_95 ?_
                refine lv_istore_n (lv' := [(2, .int (x2 + 0)), (4, .int 0), (0, .ref h0), (1, .int x1), (3, .int x3)]) hx hb dX7_placeOf_96 rfl hl (by decide) rfl (fun ls hl => ?_)
                refine lv_iinc (v := x3 + 1) (lv' := [(3, .int (x3 + 1)), (2, .int (x2 + 0)), (4, .int 0), (0, .ref h0), (1, .int x1)]) hx hb dX7_placeOf_97 hl (k := 4) rfl rfl (by decide) rfl (fun ls hl => ?_)
                refine lv_goto (tgt := 4) hx hb dX7_placeOf_100 (by decide) ?_
                exact ih (x2 + 0) (x3 + 1) H locs ls hP hD hS (lv_sub hl [3, 4, 1, 0] rfl) hf
              · exact absurd h_12 (by decide)
          · have hf := it_t h_10 hf
            refine lv_iload_n hx hb dX7_placeOf_57 rfl (lv_at hl 3 rfl) ?_
            refine lv_iload_n hx hb dX7_placeOf_58 rfl (lv_at hl 1 rfl) ?_
            refine lv_icmp_ge (tgt := 66) hx hb dX7_placeOf_59 (by decide) (fun h_13 => ?_) (fun h_13 => ?_)
            · have hf := it_t h_13 hf
              refine lv_iconst (v := 0) hx hb dX7_placeOf_66 (by decide) ?_
              refine lv_istore (lv' := [(4, .int 0), (0, .ref h0), (1, .int x1), (2, .int x2), (3, .int x3)]) hx hb dX7_placeOf_67 hl (by decide) rfl (fun ls hl => ?_)
              refine lv_iload_n hx hb dX7_placeOf_69 rfl (lv_at hl 3 rfl) ?_
              refine lv_aload_n hx hb dX7_placeOf_70 rfl (lv_at hl 1 rfl) ?_
              refine va_get (D := (dC, dI)) (ci := 7) (v := .ref q_total) (C := RX7) (T := TX7) (N := 26) hx hb hts iw_X7_placeOf_X7 hown hK hP 0 rfl rfl 20 (by decide) (hts (.fieldLink RX7 56 "HeatBenchModel" "total" "[I") (List.mem_of_getElem? (i := 2) rfl)) (fun _ h9 => h9) rfl dX7_placeOf_71 ?_
              refine lv_iload_n hx hb dX7_placeOf_74 rfl (lv_at hl 4 rfl) ?_
              refine va_iald hx hb hK hP 2 0 rfl rfl h_2 dX7_placeOf_75 ?_
              refine lv_aload_n hx hb dX7_placeOf_76 rfl (lv_at hl 1 rfl) ?_
              refine va_get (D := (dC, dI)) (ci := 7) (v := .ref q_total) (C := RX7) (T := TX7) (N := 26) hx hb hts iw_X7_placeOf_X7 hown hK hP 0 rfl rfl 20 (by decide) (hts (.fieldLink RX7 56 "HeatBenchModel" "total" "[I") (List.mem_of_getElem? (i := 2) rfl)) (fun _ h9 => h9) rfl dX7_placeOf_77 ?_
              refine lv_iload_n hx hb dX7_placeOf_80 rfl (lv_at hl 2 rfl) ?_
              refine va_iald hx hb hK hP 2 0 rfl rfl h_3 dX7_placeOf_81 ?_
              refine lv_icmp_gt (tgt := 90) hx hb dX7_placeOf_82 (by decide) (fun h_14 => ?_) (fun h_14 => ?_)
              · have hf := it_t h_14 hf
                refine lv_iconst (v := 1) hx hb dX7_placeOf_90 (by decide) ?_
                refine lv_goto (tgt := 95) hx hb dX7_placeOf_91 (by decide) ?_
                refine lv_iadd hx hb dX7_placeOf_95 ?_
                refine lv_istore_n (lv' := [(2, .int (x2 + 1)), (4, .int 0), (0, .ref h0), (1, .int x1), (3, .int x3)]) hx hb dX7_placeOf_96 rfl hl (by decide) rfl (fun ls hl => ?_)
                refine lv_iinc (v := x3 + 1) (lv' := [(3, .int (x3 + 1)), (2, .int (x2 + 1)), (4, .int 0), (0, .ref h0), (1, .int x1)]) hx hb dX7_placeOf_97 hl (k := 4) rfl rfl (by decide) rfl (fun ls hl => ?_)
                refine lv_goto (tgt := 4) hx hb dX7_placeOf_100 (by decide) ?_
                exact ih (x2 + 1) (x3 + 1) H locs ls hP hD hS (lv_sub hl [3, 4, 1, 0] rfl) hf
              · have hf := it_f h_14 hf
                refine lv_iload hx hb dX7_placeOf_85 (lv_at hl 0 rfl) ?_
                refine lv_if_eq (tgt := 94) hx hb dX7_placeOf_87 (by decide) (fun h_15 => ?_) (fun h_15 => ?_)
                · refine lv_iconst (v := 0) hx hb dX7_placeOf_94 (by decide) ?_
                  refine lv_iadd hx hb dX7_placeOf_95 ?_
                  refine lv_istore_n (lv' := [(2, .int (x2 + 0)), (4, .int 0), (0, .ref h0), (1, .int x1), (3, .int x3)]) hx hb dX7_placeOf_96 rfl hl (by decide) rfl (fun ls hl => ?_)
                  refine lv_iinc (v := x3 + 1) (lv' := [(3, .int (x3 + 1)), (2, .int (x2 + 0)), (4, .int 0), (0, .ref h0), (1, .int x1)]) hx hb dX7_placeOf_97 hl (k := 4) rfl rfl (by decide) rfl (fun ls hl => ?_)
                  refine lv_goto (tgt := 4) hx hb dX7_placeOf_100 (by decide) ?_
                  exact ih (x2 + 0) (x3 + 1) H locs ls hP hD hS (lv_sub hl [3, 4, 1, 0] rfl) hf
                · exact absurd h_15 (by decide)
            · have hf := it_f h_13 hf
              refine lv_iconst (v := 1) hx hb dX7_placeOf_62 (by decide) ?_
              refine lv_goto (tgt := 67) hx hb dX7_placeOf_63 (by decide) ?_
              refine lv_istore (lv' := [(4, .int 1), (0, .ref h0), (1, .int x1), (2, .int x2), (3, .int x3)]) hx hb dX7_placeOf_67 hl (by decide) rfl (fun ls hl => ?_)
              refine lv_iload_n hx hb dX7_placeOf_69 rfl (lv_at hl 3 rfl) ?_
              refine lv_aload_n hx hb dX7_placeOf_70 rfl (lv_at hl 1 rfl) ?_
              refine va_get (D := (dC, dI)) (ci := 7) (v := .ref q_total) (C := RX7) (T := TX7) (N := 26) hx hb hts iw_X7_placeOf_X7 hown hK hP 0 rfl rfl 20 (by decide) (hts (.fieldLink RX7 56 "HeatBenchModel" "total" "[I") (List.mem_of_getElem? (i := 2) rfl)) (fun _ h9 => h9) rfl dX7_placeOf_71 ?_
              refine lv_iload_n hx hb dX7_placeOf_74 rfl (lv_at hl 4 rfl) ?_
              refine va_iald hx hb hK hP 2 0 rfl rfl h_2 dX7_placeOf_75 ?_
              refine lv_aload_n hx hb dX7_placeOf_76 rfl (lv_at hl 1 rfl) ?_
              refine va_get (D := (dC, dI)) (ci := 7) (v := .ref q_total) (C := RX7) (T := TX7) (N := 26) hx hb hts iw_X7_placeOf_X7 hown hK hP 0 rfl rfl 20 (by decide) (hts (.fieldLink RX7 56 "HeatBenchModel" "total" "[I") (List.mem_of_getElem? (i := 2) rfl)) (fun _ h9 => h9) rfl dX7_placeOf_77 ?_
              refine lv_iload_n hx hb dX7_placeOf_80 rfl (lv_at hl 2 rfl) ?_
              refine va_iald hx hb hK hP 2 0 rfl rfl h_3 dX7_placeOf_81 ?_
              refine lv_icmp_gt (tgt := 90) hx hb dX7_placeOf_82 (by decide) (fun h_16 => ?_) (fun h_16 => ?_)
              · have hf := it_t h_16 hf
                refine lv_iconst (v := 1) hx hb dX7_placeOf_90 (by decide) ?_
                refine lv_goto (tgt := 95) hx hb dX7_placeOf_91 (by decide) ?_
                refine lv_iadd hx hb dX7_placeOf_95 ?_
                refine lv_istore_n (lv' := [(2, .int (x2 + 1)), (4, .int 1), (0, .ref h0), (1, .int x1), (3, .int x3)]) hx hb dX7_placeOf_96 rfl hl (by decide) rfl (fun ls hl => ?_)
                refine lv_iinc (v := x3 + 1) (lv' := [(3, .int (x3 + 1)), (2, .int (x2 + 1)), (4, .int 1), (0, .ref h0), (1, .int x1)]) hx hb dX7_placeOf_97 hl (k := 4) rfl rfl (by decide) rfl (fun ls hl => ?_)
                refine lv_goto (tgt := 4) hx hb dX7_placeOf_100 (by decide) ?_
                exact ih (x2 + 1) (x3 + 1) H locs ls hP hD hS (lv_sub hl [3, 4, 1, 0] rfl) hf
              · have hf := it_f h_16 hf
                refine lv_iload hx hb dX7_placeOf_85 (lv_at hl 0 rfl) ?_
                refine lv_if_eq (tgt := 94) hx hb dX7_placeOf_87 (by decide) (fun h_17 => ?_) (fun h_17 => ?_)
                · exact absurd h_17 (by decide)
                · refine lv_iconst (v := 1) hx hb dX7_placeOf_90 (by decide) ?_
                  refine lv_goto (tgt := 95) hx hb dX7_placeOf_91 (by decide) ?_
                  refine lv_iadd hx hb dX7_placeOf_95 ?_
                  refine lv_istore_n (lv' := [(2, .int (x2 + 1)), (4, .int 1), (0, .ref h0), (1, .int x1), (3, .int x3)]) hx hb dX7_placeOf_96 rfl hl (by decide) rfl (fun ls hl => ?_)
                  refine lv_iinc (v := x3 + 1) (lv' := [(3, .int (x3 + 1)), (2, .int (x2 + 1)), (4, .int 1), (0, .ref h0), (1, .int x1)]) hx hb dX7_placeOf_97 hl (k := 4) rfl rfl (by decide) rfl (fun ls hl => ?_)
                  refine lv_goto (tgt := 4) hx hb dX7_placeOf_100 (by decide) ?_
                  exact ih (x2 + 1) (x3 + 1) H locs ls hP hD hS (lv_sub hl [3, 4, 1, 0] rfl) hf
set_option maxHeartbeats 4000000 in
set_option maxRecDepth 100000 in
theorem tX7_placeOf (l : Launch) (dC : Nat → ClassId) (dI : Nat → Nat → Nat) (cI cZ cJ cA : ClassId) (sz : Nat) (h0 : Nat) (v_riders : Int32) (v_rides : Int32) (q_riderOf : Nat) (q_waveOf : Nat) (q_marks : Nat) (v_lineMany : Int32) (q_line : Nat) (q_interfered : Nat) (v_isOpen : Int32) (v_group : Int32) (v_wrong : Int32) (q_stood : Nat) (v_pastMany : Int32) (q_past : Nat) (v_days : Int32) (q_low : Nat) (q_high : Nat) (q_was : Nat) (q_best : Nat) (q_second : Nat) (q_total : Nat) (q_givenTo : Nat) (q_has : Nat) (q_own : Nat) (q_sums : Nat) (q_below : Nat) (v_best : Nat → Int32) (v_total : Nat → Int32) (x1 : Int32) (N : Nat) (r0 : Int32) (hf : fX7_placeOf N x1 v_riders v_best v_total = some r0) : Met l yX7_placeOf wsX7_placeOf ({ frames := 0, cells := 0, slots := 0, locals := 0 }) (va_Pc [.ref h0, .int x1] (fun U => U.heap.size = sz ∧ va_P (dC, dI) vwCl [(h0, .inr (7, [.int v_riders, .int v_rides, .ref q_riderOf, .ref q_waveOf, .ref q_marks, .int v_lineMany, .ref q_line, .ref q_interfered, .int v_isOpen, .int v_group, .int v_wrong, .ref q_stood, .int v_pastMany, .ref q_past, .int v_days, .ref q_low, .ref q_high, .ref q_was, .ref q_best, .ref q_second, .ref q_total, .ref q_givenTo, .ref q_has, .ref q_own, .ref q_sums, .ref q_below])), (q_best, .inl (cI, 4, .inl v_best)), (q_total, .inl (cI, 4, .inl v_total))] U.heap ∧ va_K (dC, dI) vwCl [(cI, .int), (cZ, .boolean), (cJ, .long), (cA, .array .long)] U ∧ va_D (fun _ => True) [(h0, .inr (7, [.int v_riders, .int v_rides, .ref q_riderOf, .ref q_waveOf, .ref q_marks, .int v_lineMany, .ref q_line, .ref q_interfered, .int v_isOpen, .int v_group, .int v_wrong, .ref q_stood, .int v_pastMany, .ref q_past, .int v_days, .ref q_low, .ref q_high, .ref q_was, .ref q_best, .ref q_second, .ref q_total, .ref q_givenTo, .ref q_has, .ref q_own, .ref q_sums, .ref q_below])), (q_best, .inl (cI, 4, .inl v_best)), (q_total, .inl (cI, 4, .inl v_total))])) (va_Qi (fun (r9 : Int32) (_ : Unit) => r0 = r9) (fun _ t => va_P (dC, dI) vwCl [(h0, .inr (7, [.int v_riders, .int v_rides, .ref q_riderOf, .ref q_waveOf, .ref q_marks, .int v_lineMany, .ref q_line, .ref q_interfered, .int v_isOpen, .int v_group, .int v_wrong, .ref q_stood, .int v_pastMany, .ref q_past, .int v_days, .ref q_low, .ref q_high, .ref q_was, .ref q_best, .ref q_second, .ref q_total, .ref q_givenTo, .ref q_has, .ref q_own, .ref q_sums, .ref q_below])), (q_best, .inl (cI, 4, .inl v_best)), (q_total, .inl (cI, 4, .inl v_total))] t.heap ∧ va_D (va_A [(h0, .inr (7, [.int v_riders, .int v_rides, .ref q_riderOf, .ref q_waveOf, .ref q_marks, .int v_lineMany, .ref q_line, .ref q_interfered, .int v_isOpen, .int v_group, .int v_wrong, .ref q_stood, .int v_pastMany, .ref q_past, .int v_days, .ref q_low, .ref q_high, .ref q_was, .ref q_best, .ref q_second, .ref q_total, .ref q_givenTo, .ref q_has, .ref q_own, .ref q_sums, .ref q_below])), (q_best, .inl (cI, 4, .inl v_best)), (q_total, .inl (cI, 4, .inl v_total))] sz) [(h0, .inr (7, [.int v_riders, .int v_rides, .ref q_riderOf, .ref q_waveOf, .ref q_marks, .int v_lineMany, .ref q_line, .ref q_interfered, .int v_isOpen, .int v_group, .int v_wrong, .ref q_stood, .int v_pastMany, .ref q_past, .int v_days, .ref q_low, .ref q_high, .ref q_was, .ref q_best, .ref q_second, .ref q_total, .ref q_givenTo, .ref q_has, .ref q_own, .ref q_sums, .ref q_below])), (q_best, .inl (cI, 4, .inl v_best)), (q_total, .inl (cI, 4, .inl v_total))]) (va_A [(h0, .inr (7, [.int v_riders, .int v_rides, .ref q_riderOf, .ref q_waveOf, .ref q_marks, .int v_lineMany, .ref q_line, .ref q_interfered, .int v_isOpen, .int v_group, .int v_wrong, .ref q_stood, .int v_pastMany, .ref q_past, .int v_days, .ref q_low, .ref q_high, .ref q_was, .ref q_best, .ref q_second, .ref q_total, .ref q_givenTo, .ref q_has, .ref q_own, .ref q_sums, .ref q_below])), (q_best, .inl (cI, 4, .inl v_best)), (q_total, .inl (cI, 4, .inl v_total))] sz)) 0 0 (va_A [(h0, .inr (7, [.int v_riders, .int v_rides, .ref q_riderOf, .ref q_waveOf, .ref q_marks, .int v_lineMany, .ref q_line, .ref q_interfered, .int v_isOpen, .int v_group, .int v_wrong, .ref q_stood, .int v_pastMany, .ref q_past, .int v_days, .ref q_low, .ref q_high, .ref q_was, .ref q_best, .ref q_second, .ref q_total, .ref q_givenTo, .ref q_has, .ref q_own, .ref q_sums, .ref q_below])), (q_best, .inl (cI, 4, .inl v_best)), (q_total, .inl (cI, 4, .inl v_total))] sz) := by
  refine Met.ofW (cc := cX7_placeOf) (maxL := 5) (ret := (some .int)) (by decide) rfl ?_
  intro p e s m args below meth c s₁ B hml hv
  obtain ⟨rfl, hsz, hP, hK, hD0⟩ := hv
  have hx := B.exec
  have hb := B.bytes
  have hr := B.returns
  have hts := atoms_spec (ws := wsX7_placeOf) B.pre
  have hown : s.vm.findClass RX7 = some m.cls := findClass_of_methodNamed B.named
  have hlocks := B.notSynchronized
  subst hsz
  have hD := hD0.self (sz := s.heap.size)
  generalize hAe : va_A [(h0, .inr (7, [.int v_riders, .int v_rides, .ref q_riderOf, .ref q_waveOf, .ref q_marks, .int v_lineMany, .ref q_line, .ref q_interfered, .int v_isOpen, .int v_group, .int v_wrong, .ref q_stood, .int v_pastMany, .ref q_past, .int v_days, .ref q_low, .ref q_high, .ref q_was, .ref q_best, .ref q_second, .ref q_total, .ref q_givenTo, .ref q_has, .ref q_own, .ref q_sums, .ref q_below])), (q_best, .inl (cI, 4, .inl v_best)), (q_total, .inl (cI, 4, .inl v_total))] s.heap.size = A at hD ⊢
  have hA : ∀ q : Nat, s.heap.size ≤ q → A q := fun q h => by rw [← hAe]; exact Or.inr h
  have hS : va_S A s.heap s.heap [] := va_S.rf
  have hl := lv_entry ([.ref h0, .int x1]) (n := 5) (Nat.le_of_ble_eq_true rfl)
  rw [lg_entry_eq]
  generalize (lg_sl ([.ref h0, .int x1]) ++ List.replicate (5 - (lg_sl ([.ref h0, .int x1])).length) Slot.unset).toArray = ls at hl ⊢
  have hl : lv_has ls 5 [(0, .ref h0), (1, .int x1)] := hl
  refine vx_gen hP hS (fun H locs hP hS => ?_)
  unfold fX7_placeOf at hf
  refine lv_iconst (v := 0) hx hb dX7_placeOf_0 (by decide) ?_
  refine lv_istore_n (lv' := [(2, .int 0), (0, .ref h0), (1, .int x1)]) hx hb dX7_placeOf_1 rfl hl (by decide) rfl (fun ls hl => ?_)
  refine lv_iconst (v := 0) hx hb dX7_placeOf_2 (by decide) ?_
  refine lv_istore_n (lv' := [(3, .int 0), (2, .int 0), (0, .ref h0), (1, .int x1)]) hx hb dX7_placeOf_3 rfl hl (by decide) rfl (fun ls hl => ?_)
  exact wX7_placeOf_L4 hx hb hr hml hown hts hlocks hA hK N 0 0 H locs ls hP hD hS (lv_sub hl [2, 3, 1, 0] rfl) hf
