/-! X5_end -/
theorem iw_X5_end_X5 : ∀ w ∈ wsX50, w ∈ wsX5_end := by decide +kernel
set_option maxHeartbeats 4000000 in
set_option maxRecDepth 100000 in
theorem tX5_end (l : Launch) (dC : Nat → ClassId) (dI : Nat → Nat → Nat) (cI cZ cJ cA : ClassId) (sz : Nat) (h0 : Nat) (v_number : Int32) (q_turn : Nat) (q_onIt : Nat) (q_blamed : Nat)  (N : Nat) (r0 : Int32) (w_number : Int32) (hf : fX5_end N v_number = some (r0, w_number)) : Met l yX5_end wsX5_end ({ frames := 0, cells := 0, slots := 0, locals := 0 }) (va_Pc [.ref h0] (fun U => U.heap.size = sz ∧ va_P (dC, dI) vwCl [(h0, .inr (5, [.int v_number, .ref q_turn, .ref q_onIt, .ref q_blamed]))] U.heap ∧ va_K (dC, dI) vwCl [(cI, .int), (cZ, .boolean), (cJ, .long), (cA, .array .long)] U ∧ va_D (fun _ => True) [(h0, .inr (5, [.int v_number, .ref q_turn, .ref q_onIt, .ref q_blamed]))])) (va_Qi (fun (r9 : Int32) (_ : Unit) => r0 = r9) (fun _ t => va_P (dC, dI) vwCl [(h0, .inr (5, [.int w_number, .ref q_turn, .ref q_onIt, .ref q_blamed]))] t.heap ∧ va_D (va_A [(h0, .inr (5, [.int v_number, .ref q_turn, .ref q_onIt, .ref q_blamed]))] sz) [(h0, .inr (5, [.int w_number, .ref q_turn, .ref q_onIt, .ref q_blamed]))]) (va_A [(h0, .inr (5, [.int v_number, .ref q_turn, .ref q_onIt, .ref q_blamed]))] sz)) 0 0 (va_A [(h0, .inr (5, [.int v_number, .ref q_turn, .ref q_onIt, .ref q_blamed]))] sz) := by
  refine Met.ofW (cc := cX5_end) (maxL := 2) (ret := (some .boolean)) (by decide) rfl ?_
  intro p e s m args below meth c s₁ B hml hv
  obtain ⟨rfl, hsz, hP, hK, hD0⟩ := hv
  have hx := B.exec
  have hb := B.bytes
  have hr := B.returns
  have hts := atoms_spec (ws := wsX5_end) B.pre
  have hown : s.vm.findClass RX5 = some m.cls := findClass_of_methodNamed B.named
  have hlocks := B.notSynchronized
  subst hsz
  have hD := hD0.self (sz := s.heap.size)
  generalize hAe : va_A [(h0, .inr (5, [.int v_number, .ref q_turn, .ref q_onIt, .ref q_blamed]))] s.heap.size = A at hD ⊢
  have hA : ∀ q : Nat, s.heap.size ≤ q → A q := fun q h => by rw [← hAe]; exact Or.inr h
  have hS : va_S A s.heap s.heap [] := va_S.rf
  have hl := lv_entry ([.ref h0]) (n := 2) (Nat.le_of_ble_eq_true rfl)
  rw [lg_entry_eq]
  generalize (lg_sl ([.ref h0]) ++ List.replicate (2 - (lg_sl ([.ref h0])).length) Slot.unset).toArray = ls at hl ⊢
  have hl : lv_has ls 2 [(0, .ref h0)] := hl
  refine vx_gen hP hS (fun H locs hP hS => ?_)
  unfold fX5_end at hf
  refine lv_aload_n hx hb dX5_end_0 rfl (lv_at hl 0 rfl) ?_
  refine va_get (D := (dC, dI)) (ci := 5) (v := .int v_number) (C := RX5) (T := TX5) (N := 4) hx hb hts iw_X5_end_X5 hown hK hP 0 rfl rfl 0 (by decide) (hts (.fieldLink RX5 9 "HeatBench$Wave" "number" "I") (List.mem_of_getElem? (i := 1) rfl)) (fun _ h9 => h9) rfl dX5_end_1 ?_
  refine lv_iconst (v := (-1)) hx hb dX5_end_4 (by decide) ?_
  refine lv_icmp_eq (tgt := 12) hx hb dX5_end_5 (by decide) (fun h_1 => ?_) (fun h_1 => ?_)
  · have hf := it_t h_1 hf
    refine lv_iconst (v := 0) hx hb dX5_end_12 (by decide) ?_
    refine lv_istore_n (lv' := [(1, .int 0), (0, .ref h0)]) hx hb dX5_end_13 rfl hl (by decide) rfl (fun ls hl => ?_)
    refine lv_aload_n hx hb dX5_end_14 rfl (lv_at hl 1 rfl) ?_
    refine lv_iconst (v := (-1)) hx hb dX5_end_15 (by decide) ?_
    refine va_put (D := (dC, dI)) (ci := 5) (v := .int (-1)) (ty := .int) (C := RX5) (T := TX5) (N := 4) hx hb hts iw_X5_end_X5 tyX5 tyX5_ok nmX5 hown hK hP hD hS 0 rfl rfl 0 (by decide) (hts (.fieldLink RX5 9 "HeatBench$Wave" "number" "I") (List.mem_of_getElem? (i := 1) rfl)) (fun _ h9 => h9) rfl (by decide +kernel) rfl rfl (Nat.le_of_ble_eq_true rfl) dX5_end_16 (fun H locs hP hD hS => ?_)
    have hP : va_P (dC, dI) vwCl [(h0, .inr (5, [.int (-1), .ref q_turn, .ref q_onIt, .ref q_blamed]))] H := hP
    have hD : va_D A [(h0, .inr (5, [.int (-1), .ref q_turn, .ref q_onIt, .ref q_blamed]))] := hD
    refine lv_iload_n hx hb dX5_end_19 rfl (lv_at hl 0 rfl) ?_
    cases hf
    exact W.zret hx hb hr rfl (fun t ht hW => ⟨⟨_, (), rfl, rfl, by rw [ht]; exact hP, hD⟩, hS.F ht⟩) hS.2.2 dX5_end_20
  · have hf := it_f h_1 hf
    refine lv_iconst (v := 1) hx hb dX5_end_8 (by decide) ?_
    refine lv_goto (tgt := 13) hx hb dX5_end_9 (by decide) ?_
    refine lv_istore_n (lv' := [(1, .int 1), (0, .ref h0)]) hx hb dX5_end_13 rfl hl (by decide) rfl (fun ls hl => ?_)
    refine lv_aload_n hx hb dX5_end_14 rfl (lv_at hl 1 rfl) ?_
    refine lv_iconst (v := (-1)) hx hb dX5_end_15 (by decide) ?_
    refine va_put (D := (dC, dI)) (ci := 5) (v := .int (-1)) (ty := .int) (C := RX5) (T := TX5) (N := 4) hx hb hts iw_X5_end_X5 tyX5 tyX5_ok nmX5 hown hK hP hD hS 0 rfl rfl 0 (by decide) (hts (.fieldLink RX5 9 "HeatBench$Wave" "number" "I") (List.mem_of_getElem? (i := 1) rfl)) (fun _ h9 => h9) rfl (by decide +kernel) rfl rfl (Nat.le_of_ble_eq_true rfl) dX5_end_16 (fun H locs hP hD hS => ?_)
    have hP : va_P (dC, dI) vwCl [(h0, .inr (5, [.int (-1), .ref q_turn, .ref q_onIt, .ref q_blamed]))] H := hP
    have hD : va_D A [(h0, .inr (5, [.int (-1), .ref q_turn, .ref q_onIt, .ref q_blamed]))] := hD
    refine lv_iload_n hx hb dX5_end_19 rfl (lv_at hl 0 rfl) ?_
    cases hf
    exact W.zret hx hb hr rfl (fun t ht hW => ⟨⟨_, (), rfl, rfl, by rw [ht]; exact hP, hD⟩, hS.F ht⟩) hS.2.2 dX5_end_20
/-! X5_start -/
theorem iw_X5_start_X5 : ∀ w ∈ wsX50, w ∈ wsX5_start := by decide +kernel
set_option maxHeartbeats 4000000 in
set_option maxRecDepth 100000 in
theorem wX5_start_L7 {p : Program} {l : Launch} {e : Env} {s : State} {m : MethodId} {args : Array Value} {below : List Frame} {meth : Method} {c : Code} {dC : Nat → ClassId} {dI : Nat → Nat → Nat} {cI cZ cJ cA : ClassId} {A : Nat → Prop} {h0 : Nat} {v_number : Int32} {q_turn : Nat} {q_onIt : Nat} {q_blamed : Nat} {q_a2 : Nat} {q_a2_row : Nat} {v_a2_size : Int32} {v_a2_row : Nat → Int32}  {w_number : Int32} {w_turn : (Nat → Int32)} {w_onIt : (Nat → Int32)} {w_blamed : (Nat → Int32)} {N : Nat}  (hx : p.tables.exec = Jvm.exec) (hb : c.code = cX5_start) (hr : meth.sig.returnType = none) (hml : c.maxLocals = 4) (hown : s.vm.findClass RX5 = some m.cls) (hts : ∀ w ∈ wsX5_start, w.before args s = true) (hlocks : meth.locks = false) (hA : ∀ q : Nat, s.heap.size ≤ q → A q) (hK : va_K (dC, dI) vwCl [(cI, .int), (cZ, .boolean), (cJ, .long), (cA, .array .long)] s) : ∀ (n : Nat) (x3 : Int32) (v_turn : Nat → Int32) (v_onIt : Nat → Int32) (v_blamed : Nat → Int32) (H : Heap) (locs : List Loc) (ls : Array Slot), va_P (dC, dI) vwCl [(h0, .inr (5, [.int v_number, .ref q_turn, .ref q_onIt, .ref q_blamed])), (q_turn, .inl (cI, 4, .inl v_turn)), (q_onIt, .inl (cZ, 4, .inl v_onIt)), (q_blamed, .inl (cZ, 4, .inl v_blamed)), (q_a2, .inr (2, [.ref q_a2_row, .int v_a2_size])), (q_a2_row, .inl (cI, 4, .inl v_a2_row))] H → va_D A [(h0, .inr (5, [.int v_number, .ref q_turn, .ref q_onIt, .ref q_blamed])), (q_turn, .inl (cI, 4, .inl v_turn)), (q_onIt, .inl (cZ, 4, .inl v_onIt)), (q_blamed, .inl (cZ, 4, .inl v_blamed)), (q_a2, .inr (2, [.ref q_a2_row, .int v_a2_size])), (q_a2_row, .inl (cI, 4, .inl v_a2_row))] → va_S A s.heap H locs → lv_has ls 4 [(0, .ref h0), (2, .ref q_a2), (3, .int x3)] → fX5_start_L7 N v_number v_a2_size v_a2_row n x3 v_turn v_onIt v_blamed = some (w_number, w_turn, w_onIt, w_blamed) → W p l e (headSpec wsX5_start ({ frames := 2, cells := 0, slots := 0, locals := 43 })).room s m args below meth c H locs 0 0 (MQ below (va_Qv (fun _ : Unit => True) (fun _ t => va_P (dC, dI) vwCl [(h0, .inr (5, [.int w_number, .ref q_turn, .ref q_onIt, .ref q_blamed])), (q_turn, .inl (cI, 4, .inl w_turn)), (q_onIt, .inl (cZ, 4, .inl w_onIt)), (q_blamed, .inl (cZ, 4, .inl w_blamed)), (q_a2, .inr (2, [.ref q_a2_row, .int v_a2_size])), (q_a2_row, .inl (cI, 4, .inl v_a2_row))] t.heap ∧ va_D A [(h0, .inr (5, [.int w_number, .ref q_turn, .ref q_onIt, .ref q_blamed])), (q_turn, .inl (cI, 4, .inl w_turn)), (q_onIt, .inl (cZ, 4, .inl w_onIt)), (q_blamed, .inl (cZ, 4, .inl w_blamed)), (q_a2, .inr (2, [.ref q_a2_row, .int v_a2_size])), (q_a2_row, .inl (cI, 4, .inl v_a2_row))]) A) args s 0 0 A) (F0 m 7 ls []) := by
  intro n
  induction n with
  | zero =>
    intro x3 v_turn v_onIt v_blamed H locs ls hP hD hS hl hf
    exact nomatch (show (none : Option (Int32 × (Nat → Int32) × (Nat → Int32) × (Nat → Int32))) = some (w_number, w_turn, w_onIt, w_blamed) from hf)
  | succ n ih =>
    intro x3 v_turn v_onIt v_blamed H locs ls hP hD hS hl hf
    rw [fX5_start_L7] at hf
    refine lv_iload_n hx hb dX5_start_7 rfl (lv_at hl 2 rfl) ?_
    refine lv_iconst (v := 4) hx hb dX5_start_8 (by decide) ?_
    refine lv_icmp_ge (tgt := 57) hx hb dX5_start_9 (by decide) (fun h_1 => ?_) (fun h_1 => ?_)
    · have hf := it_t h_1 hf
      cases hf
      exact W.vret hx hb hr (fun t ht hW => ⟨⟨(), rfl, trivial, by rw [ht]; exact hP, hD⟩, hS.F ht⟩) hS.2.2 dX5_start_57
    · have hf := it_f h_1 hf
      refine lv_aload_n hx hb dX5_start_12 rfl (lv_at hl 0 rfl) ?_
      refine va_get (D := (dC, dI)) (ci := 5) (v := .ref q_turn) (C := RX5) (T := TX5) (N := 4) hx hb hts iw_X5_start_X5 hown hK hP 0 rfl rfl 1 (by decide) (hts (.fieldLink RX5 15 "HeatBench$Wave" "turn" "[I") (List.mem_of_getElem? (i := 2) rfl)) (fun _ h9 => h9) rfl dX5_start_13 ?_
      refine lv_iload_n hx hb dX5_start_16 rfl (lv_at hl 2 rfl) ?_
      refine lv_aload_n hx hb dX5_start_17 rfl (lv_at hl 1 rfl) ?_
      refine lv_iload_n hx hb dX5_start_18 rfl (lv_at hl 2 rfl) ?_
      obtain ⟨r_2, hu_2, hf⟩ := it_b1 hf
      have hPc := hP.sub (ws' := [(q_a2, .inr (2, [.ref q_a2_row, .int v_a2_size])), (q_a2_row, .inl (cI, 4, .inl v_a2_row))]) [4, 5] rfl
      have hDc := hD.sub (ws' := [(q_a2, .inr (2, [.ref q_a2_row, .int v_a2_size])), (q_a2_row, .inl (cI, 4, .inl v_a2_row))]) [4, 5] (by decide) rfl
      have hFc := va_free (wc := [(q_a2, .inr (2, [.ref q_a2_row, .int v_a2_size])), (q_a2_row, .inl (cI, 4, .inl v_a2_row))]) hD hS hA [4, 5] rfl
      refine va_calli (va_runV (As := [.int x3]) (rest := [.int x3, .ref q_turn]) ⟨hx, hb, hml, hown, hts⟩ (tX2_holds l dC dI cI cZ cJ cA H.size q_a2 q_a2_row v_a2_size v_a2_row x3 N r_2 hu_2) (cwV 1 hts gX5_start_X2_holds rfl rfl rfl (by decide +kernel) ⟨Nat.le_of_ble_eq_true rfl, Nat.le_of_ble_eq_true rfl⟩) ⟨fun a U g mk q => by obtain ⟨q0, q1, qP, qK, qD⟩ := q; exact ⟨q0, q1, qP, va_K.moved (u := U) (U := U.calling g mk a) (Vm.Alike.refl U.vm) qK, qD⟩, va_recv hK hPc (ci := 2) (q0 := 0) rfl rfl, fun U hU hW => ⟨rfl, by rw [hU], by rw [hU]; exact hPc, va_K.moved hW.alike hK, hDc.weaken (fun _ _ _ _ => trivial)⟩⟩ rfl rfl hl.1 rfl (lv_room (Nat.le_of_ble_eq_true rfl)) dX5_start_19 ⟨Nat.zero_le _, Nat.zero_le _⟩) hS (fun q _ h => hFc q h) hFc (fun r9 u t H1 locs ht hvm hw hB hz1 hk1 hS => ?_)
      obtain ⟨hP1, hD1⟩ := hB
      rw [ht] at hP1
      obtain ⟨hP, hD⟩ := va_join (wr := [(h0, .inr (5, [.int v_number, .ref q_turn, .ref q_onIt, .ref q_blamed])), (q_turn, .inl (cI, 4, .inl v_turn)), (q_onIt, .inl (cZ, 4, .inl v_onIt)), (q_blamed, .inl (cZ, 4, .inl v_blamed))]) (w1 := [(q_a2, .inr (2, [.ref q_a2_row, .int v_a2_size])), (q_a2_row, .inl (cI, 4, .inl v_a2_row))]) hP hD [4, 5] [0, 1, 2, 3] rfl rfl (by decide) (by decide) hk1 hFc hP1 hD1
      clear hP1 hD1 hk1 hz1 hPc hDc hFc
      generalize H1 = H at hP hS ⊢
      have hP : va_P (dC, dI) vwCl [(h0, .inr (5, [.int v_number, .ref q_turn, .ref q_onIt, .ref q_blamed])), (q_turn, .inl (cI, 4, .inl v_turn)), (q_onIt, .inl (cZ, 4, .inl v_onIt)), (q_blamed, .inl (cZ, 4, .inl v_blamed)), (q_a2, .inr (2, [.ref q_a2_row, .int v_a2_size])), (q_a2_row, .inl (cI, 4, .inl v_a2_row))] H := hP
      have hD : va_D A [(h0, .inr (5, [.int v_number, .ref q_turn, .ref q_onIt, .ref q_blamed])), (q_turn, .inl (cI, 4, .inl v_turn)), (q_onIt, .inl (cZ, 4, .inl v_onIt)), (q_blamed, .inl (cZ, 4, .inl v_blamed)), (q_a2, .inr (2, [.ref q_a2_row, .int v_a2_size])), (q_a2_row, .inl (cI, 4, .inl v_a2_row))] := hD
      subst hw
      refine lv_if_eq (tgt := 33) hx hb dX5_start_22 (by decide) (fun h_3 => ?_) (fun h_3 => ?_)
      · have hf := it_t h_3 hf
        refine lv_iconst (v := 4) hx hb dX5_start_33 (by decide) ?_
        refine lv_iload_n hx hb dX5_start_34 rfl (lv_at hl 2 rfl) ?_
        refine lv_iadd hx hb dX5_start_35 ?_
        obtain ⟨h_4, hf⟩ := it_n hf
        refine va_iast hx hb hK hP hD hS 1 0 rfl rfl h_4 dX5_start_36 (fun H locs hP hD hS => ?_)
        have hP : va_P (dC, dI) vwCl [(h0, .inr (5, [.int v_number, .ref q_turn, .ref q_onIt, .ref q_blamed])), (q_turn, .inl (cI, 4, .inl (upd v_turn x3.toNatClampNeg (4 + x3)))), (q_onIt, .inl (cZ, 4, .inl v_onIt)), (q_blamed, .inl (cZ, 4, .inl v_blamed)), (q_a2, .inr (2, [.ref q_a2_row, .int v_a2_size])), (q_a2_row, .inl (cI, 4, .inl v_a2_row))] H := hP
        have hD : va_D A [(h0, .inr (5, [.int v_number, .ref q_turn, .ref q_onIt, .ref q_blamed])), (q_turn, .inl (cI, 4, .inl (upd v_turn x3.toNatClampNeg (4 + x3)))), (q_onIt, .inl (cZ, 4, .inl v_onIt)), (q_blamed, .inl (cZ, 4, .inl v_blamed)), (q_a2, .inr (2, [.ref q_a2_row, .int v_a2_size])), (q_a2_row, .inl (cI, 4, .inl v_a2_row))] := hD
        refine lv_aload_n hx hb dX5_start_37 rfl (lv_at hl 0 rfl) ?_
        refine va_get (D := (dC, dI)) (ci := 5) (v := .ref q_onIt) (C := RX5) (T := TX5) (N := 4) hx hb hts iw_X5_start_X5 hown hK hP 0 rfl rfl 2 (by decide) (hts (.fieldLink RX5 19 "HeatBench$Wave" "onIt" "[Z") (List.mem_of_getElem? (i := 3) rfl)) (fun _ h9 => h9) rfl dX5_start_38 ?_
        refine lv_iload_n hx hb dX5_start_41 rfl (lv_at hl 2 rfl) ?_
        refine lv_iconst (v := 0) hx hb dX5_start_42 (by decide) ?_
        refine va_zast hx hb hK hP hD hS 2 1 rfl rfl h_4 dX5_start_43 (fun H locs hP hD hS => ?_)
        have hP : va_P (dC, dI) vwCl [(h0, .inr (5, [.int v_number, .ref q_turn, .ref q_onIt, .ref q_blamed])), (q_turn, .inl (cI, 4, .inl (upd v_turn x3.toNatClampNeg (4 + x3)))), (q_onIt, .inl (cZ, 4, .inl (upd v_onIt x3.toNatClampNeg (vp_nar .boolean 0)))), (q_blamed, .inl (cZ, 4, .inl v_blamed)), (q_a2, .inr (2, [.ref q_a2_row, .int v_a2_size])), (q_a2_row, .inl (cI, 4, .inl v_a2_row))] H := hP
        have hD : va_D A [(h0, .inr (5, [.int v_number, .ref q_turn, .ref q_onIt, .ref q_blamed])), (q_turn, .inl (cI, 4, .inl (upd v_turn x3.toNatClampNeg (4 + x3)))), (q_onIt, .inl (cZ, 4, .inl (upd v_onIt x3.toNatClampNeg (vp_nar .boolean 0)))), (q_blamed, .inl (cZ, 4, .inl v_blamed)), (q_a2, .inr (2, [.ref q_a2_row, .int v_a2_size])), (q_a2_row, .inl (cI, 4, .inl v_a2_row))] := hD
        refine lv_aload_n hx hb dX5_start_44 rfl (lv_at hl 0 rfl) ?_
        refine va_get (D := (dC, dI)) (ci := 5) (v := .ref q_blamed) (C := RX5) (T := TX5) (N := 4) hx hb hts iw_X5_start_X5 hown hK hP 0 rfl rfl 3 (by decide) (hts (.fieldLink RX5 23 "HeatBench$Wave" "blamed" "[Z") (List.mem_of_getElem? (i := 4) rfl)) (fun _ h9 => h9) rfl dX5_start_45 ?_
        refine lv_iload_n hx hb dX5_start_48 rfl (lv_at hl 2 rfl) ?_
        refine lv_iconst (v := 0) hx hb dX5_start_49 (by decide) ?_
        refine va_zast hx hb hK hP hD hS 3 1 rfl rfl h_4 dX5_start_50 (fun H locs hP hD hS => ?_)
        have hP : va_P (dC, dI) vwCl [(h0, .inr (5, [.int v_number, .ref q_turn, .ref q_onIt, .ref q_blamed])), (q_turn, .inl (cI, 4, .inl (upd v_turn x3.toNatClampNeg (4 + x3)))), (q_onIt, .inl (cZ, 4, .inl (upd v_onIt x3.toNatClampNeg (vp_nar .boolean 0)))), (q_blamed, .inl (cZ, 4, .inl (upd v_blamed x3.toNatClampNeg (vp_nar .boolean 0)))), (q_a2, .inr (2, [.ref q_a2_row, .int v_a2_size])), (q_a2_row, .inl (cI, 4, .inl v_a2_row))] H := hP
        have hD : va_D A [(h0, .inr (5, [.int v_number, .ref q_turn, .ref q_onIt, .ref q_blamed])), (q_turn, .inl (cI, 4, .inl (upd v_turn x3.toNatClampNeg (4 + x3)))), (q_onIt, .inl (cZ, 4, .inl (upd v_onIt x3.toNatClampNeg (vp_nar .boolean 0)))), (q_blamed, .inl (cZ, 4, .inl (upd v_blamed x3.toNatClampNeg (vp_nar .boolean 0)))), (q_a2, .inr (2, [.ref q_a2_row, .int v_a2_size])), (q_a2_row, .inl (cI, 4, .inl v_a2_row))] := hD
        refine lv_iinc (v := x3 + 1) (lv' := [(3, .int (x3 + 1)), (0, .ref h0), (2, .ref q_a2)]) hx hb dX5_start_51 hl (k := 2) rfl rfl (by decide) rfl (fun ls hl => ?_)
        refine lv_goto (tgt := 7) hx hb dX5_start_54 (by decide) ?_
        exact ih (x3 + 1) (upd v_turn x3.toNatClampNeg (4 + x3)) (upd v_onIt x3.toNatClampNeg (vp_nar .boolean 0)) (upd v_blamed x3.toNatClampNeg (vp_nar .boolean 0)) H locs ls hP hD hS (lv_sub hl [1, 2, 0] rfl) hf
      · have hf := it_f h_3 hf
        refine lv_aload_n hx hb dX5_start_25 rfl (lv_at hl 1 rfl) ?_
        refine lv_iload_n hx hb dX5_start_26 rfl (lv_at hl 2 rfl) ?_
        obtain ⟨r_5, hu_5, hf⟩ := it_b1 hf
        have hPc := hP.sub (ws' := [(q_a2, .inr (2, [.ref q_a2_row, .int v_a2_size])), (q_a2_row, .inl (cI, 4, .inl v_a2_row))]) [4, 5] rfl
        have hDc := hD.sub (ws' := [(q_a2, .inr (2, [.ref q_a2_row, .int v_a2_size])), (q_a2_row, .inl (cI, 4, .inl v_a2_row))]) [4, 5] (by decide) rfl
        have hFc := va_free (wc := [(q_a2, .inr (2, [.ref q_a2_row, .int v_a2_size])), (q_a2_row, .inl (cI, 4, .inl v_a2_row))]) hD hS hA [4, 5] rfl
        refine va_calli (va_runV (As := [.int x3]) (rest := [.int x3, .ref q_turn]) ⟨hx, hb, hml, hown, hts⟩ (tX2_positionOf l dC dI cI cZ cJ cA H.size q_a2 q_a2_row v_a2_size v_a2_row x3 N r_5 hu_5) (cwV 1 hts gX5_start_X2_positionOf rfl rfl rfl (by decide +kernel) ⟨Nat.le_of_ble_eq_true rfl, Nat.le_of_ble_eq_true rfl⟩) ⟨fun a U g mk q => by obtain ⟨q0, q1, qP, qK, qD⟩ := q; exact ⟨q0, q1, qP, va_K.moved (u := U) (U := U.calling g mk a) (Vm.Alike.refl U.vm) qK, qD⟩, va_recv hK hPc (ci := 2) (q0 := 0) rfl rfl, fun U hU hW => ⟨rfl, by rw [hU], by rw [hU]; exact hPc, va_K.moved hW.alike hK, hDc.weaken (fun _ _ _ _ => trivial)⟩⟩ rfl rfl hl.1 rfl (lv_room (Nat.le_of_ble_eq_true rfl)) dX5_start_27 ⟨Nat.zero_le _, Nat.zero_le _⟩) hS (fun q _ h => hFc q h) hFc (fun r9 u t H1 locs ht hvm hw hB hz1 hk1 hS => ?_)
        obtain ⟨hP1, hD1⟩ := hB
        rw [ht] at hP1
        obtain ⟨hP, hD⟩ := va_join (wr := [(h0, .inr (5, [.int v_number, .ref q_turn, .ref q_onIt, .ref q_blamed])), (q_turn, .inl (cI, 4, .inl v_turn)), (q_onIt, .inl (cZ, 4, .inl v_onIt)), (q_blamed, .inl (cZ, 4, .inl v_blamed))]) (w1 := [(q_a2, .inr (2, [.ref q_a2_row, .int v_a2_size])), (q_a2_row, .inl (cI, 4, .inl v_a2_row))]) hP hD [4, 5] [0, 1, 2, 3] rfl rfl (by decide) (by decide) hk1 hFc hP1 hD1
        clear hP1 hD1 hk1 hz1 hPc hDc hFc
        generalize H1 = H at hP hS ⊢
        have hP : va_P (dC, dI) vwCl [(h0, .inr (5, [.int v_number, .ref q_turn, .ref q_onIt, .ref q_blamed])), (q_turn, .inl (cI, 4, .inl v_turn)), (q_onIt, .inl (cZ, 4, .inl v_onIt)), (q_blamed, .inl (cZ, 4, .inl v_blamed)), (q_a2, .inr (2, [.ref q_a2_row, .int v_a2_size])), (q_a2_row, .inl (cI, 4, .inl v_a2_row))] H := hP
        have hD : va_D A [(h0, .inr (5, [.int v_number, .ref q_turn, .ref q_onIt, .ref q_blamed])), (q_turn, .inl (cI, 4, .inl v_turn)), (q_onIt, .inl (cZ, 4, .inl v_onIt)), (q_blamed, .inl (cZ, 4, .inl v_blamed)), (q_a2, .inr (2, [.ref q_a2_row, .int v_a2_size])), (q_a2_row, .inl (cI, 4, .inl v_a2_row))] := hD
        subst hw
        refine lv_goto (tgt := 36) hx hb dX5_start_30 (by decide) ?_
        obtain ⟨h_6, hf⟩ := it_n hf
        refine va_iast hx hb hK hP hD hS 1 0 rfl rfl h_6 dX5_start_36 (fun H locs hP hD hS => ?_)
        have hP : va_P (dC, dI) vwCl [(h0, .inr (5, [.int v_number, .ref q_turn, .ref q_onIt, .ref q_blamed])), (q_turn, .inl (cI, 4, .inl (upd v_turn x3.toNatClampNeg r_5))), (q_onIt, .inl (cZ, 4, .inl v_onIt)), (q_blamed, .inl (cZ, 4, .inl v_blamed)), (q_a2, .inr (2, [.ref q_a2_row, .int v_a2_size])), (q_a2_row, .inl (cI, 4, .inl v_a2_row))] H := hP
        have hD : va_D A [(h0, .inr (5, [.int v_number, .ref q_turn, .ref q_onIt, .ref q_blamed])), (q_turn, .inl (cI, 4, .inl (upd v_turn x3.toNatClampNeg r_5))), (q_onIt, .inl (cZ, 4, .inl v_onIt)), (q_blamed, .inl (cZ, 4, .inl v_blamed)), (q_a2, .inr (2, [.ref q_a2_row, .int v_a2_size])), (q_a2_row, .inl (cI, 4, .inl v_a2_row))] := hD
        refine lv_aload_n hx hb dX5_start_37 rfl (lv_at hl 0 rfl) ?_
        refine va_get (D := (dC, dI)) (ci := 5) (v := .ref q_onIt) (C := RX5) (T := TX5) (N := 4) hx hb hts iw_X5_start_X5 hown hK hP 0 rfl rfl 2 (by decide) (hts (.fieldLink RX5 19 "HeatBench$Wave" "onIt" "[Z") (List.mem_of_getElem? (i := 3) rfl)) (fun _ h9 => h9) rfl dX5_start_38 ?_
        refine lv_iload_n hx hb dX5_start_41 rfl (lv_at hl 2 rfl) ?_
        refine lv_iconst (v := 0) hx hb dX5_start_42 (by decide) ?_
        refine va_zast hx hb hK hP hD hS 2 1 rfl rfl h_6 dX5_start_43 (fun H locs hP hD hS => ?_)
        have hP : va_P (dC, dI) vwCl [(h0, .inr (5, [.int v_number, .ref q_turn, .ref q_onIt, .ref q_blamed])), (q_turn, .inl (cI, 4, .inl (upd v_turn x3.toNatClampNeg r_5))), (q_onIt, .inl (cZ, 4, .inl (upd v_onIt x3.toNatClampNeg (vp_nar .boolean 0)))), (q_blamed, .inl (cZ, 4, .inl v_blamed)), (q_a2, .inr (2, [.ref q_a2_row, .int v_a2_size])), (q_a2_row, .inl (cI, 4, .inl v_a2_row))] H := hP
        have hD : va_D A [(h0, .inr (5, [.int v_number, .ref q_turn, .ref q_onIt, .ref q_blamed])), (q_turn, .inl (cI, 4, .inl (upd v_turn x3.toNatClampNeg r_5))), (q_onIt, .inl (cZ, 4, .inl (upd v_onIt x3.toNatClampNeg (vp_nar .boolean 0)))), (q_blamed, .inl (cZ, 4, .inl v_blamed)), (q_a2, .inr (2, [.ref q_a2_row, .int v_a2_size])), (q_a2_row, .inl (cI, 4, .inl v_a2_row))] := hD
        refine lv_aload_n hx hb dX5_start_44 rfl (lv_at hl 0 rfl) ?_
        refine va_get (D := (dC, dI)) (ci := 5) (v := .ref q_blamed) (C := RX5) (T := TX5) (N := 4) hx hb hts iw_X5_start_X5 hown hK hP 0 rfl rfl 3 (by decide) (hts (.fieldLink RX5 23 "HeatBench$Wave" "blamed" "[Z") (List.mem_of_getElem? (i := 4) rfl)) (fun _ h9 => h9) rfl dX5_start_45 ?_
        refine lv_iload_n hx hb dX5_start_48 rfl (lv_at hl 2 rfl) ?_
        refine lv_iconst (v := 0) hx hb dX5_start_49 (by decide) ?_
        refine va_zast hx hb hK hP hD hS 3 1 rfl rfl h_6 dX5_start_50 (fun H locs hP hD hS => ?_)
        have hP : va_P (dC, dI) vwCl [(h0, .inr (5, [.int v_number, .ref q_turn, .ref q_onIt, .ref q_blamed])), (q_turn, .inl (cI, 4, .inl (upd v_turn x3.toNatClampNeg r_5))), (q_onIt, .inl (cZ, 4, .inl (upd v_onIt x3.toNatClampNeg (vp_nar .boolean 0)))), (q_blamed, .inl (cZ, 4, .inl (upd v_blamed x3.toNatClampNeg (vp_nar .boolean 0)))), (q_a2, .inr (2, [.ref q_a2_row, .int v_a2_size])), (q_a2_row, .inl (cI, 4, .inl v_a2_row))] H := hP
        have hD : va_D A [(h0, .inr (5, [.int v_number, .ref q_turn, .ref q_onIt, .ref q_blamed])), (q_turn, .inl (cI, 4, .inl (upd v_turn x3.toNatClampNeg r_5))), (q_onIt, .inl (cZ, 4, .inl (upd v_onIt x3.toNatClampNeg (vp_nar .boolean 0)))), (q_blamed, .inl (cZ, 4, .inl (upd v_blamed x3.toNatClampNeg (vp_nar .boolean 0)))), (q_a2, .inr (2, [.ref q_a2_row, .int v_a2_size])), (q_a2_row, .inl (cI, 4, .inl v_a2_row))] := hD
        refine lv_iinc (v := x3 + 1) (lv' := [(3, .int (x3 + 1)), (0, .ref h0), (2, .ref q_a2)]) hx hb dX5_start_51 hl (k := 2) rfl rfl (by decide) rfl (fun ls hl => ?_)
        refine lv_goto (tgt := 7) hx hb dX5_start_54 (by decide) ?_
        exact ih (x3 + 1) (upd v_turn x3.toNatClampNeg r_5) (upd v_onIt x3.toNatClampNeg (vp_nar .boolean 0)) (upd v_blamed x3.toNatClampNeg (vp_nar .boolean 0)) H locs ls hP hD hS (lv_sub hl [1, 2, 0] rfl) hf
set_option maxHeartbeats 4000000 in
set_option maxRecDepth 100000 in
theorem tX5_start (l : Launch) (dC : Nat → ClassId) (dI : Nat → Nat → Nat) (cI cZ cJ cA : ClassId) (sz : Nat) (h0 : Nat) (v_number : Int32) (q_turn : Nat) (q_onIt : Nat) (q_blamed : Nat) (v_turn : Nat → Int32) (v_onIt : Nat → Int32) (v_blamed : Nat → Int32) (q_a2 : Nat) (q_a2_row : Nat) (v_a2_size : Int32) (v_a2_row : Nat → Int32) (x1 : Int32) (N : Nat) (w_number : Int32) (w_turn : (Nat → Int32)) (w_onIt : (Nat → Int32)) (w_blamed : (Nat → Int32)) (hf : fX5_start N x1 v_number v_turn v_onIt v_blamed v_a2_size v_a2_row = some (w_number, w_turn, w_onIt, w_blamed)) : Met l yX5_start wsX5_start ({ frames := 2, cells := 0, slots := 0, locals := 43 }) (va_Pc [.ref h0, .int x1, .ref q_a2] (fun U => U.heap.size = sz ∧ va_P (dC, dI) vwCl [(h0, .inr (5, [.int v_number, .ref q_turn, .ref q_onIt, .ref q_blamed])), (q_turn, .inl (cI, 4, .inl v_turn)), (q_onIt, .inl (cZ, 4, .inl v_onIt)), (q_blamed, .inl (cZ, 4, .inl v_blamed)), (q_a2, .inr (2, [.ref q_a2_row, .int v_a2_size])), (q_a2_row, .inl (cI, 4, .inl v_a2_row))] U.heap ∧ va_K (dC, dI) vwCl [(cI, .int), (cZ, .boolean), (cJ, .long), (cA, .array .long)] U ∧ va_D (fun _ => True) [(h0, .inr (5, [.int v_number, .ref q_turn, .ref q_onIt, .ref q_blamed])), (q_turn, .inl (cI, 4, .inl v_turn)), (q_onIt, .inl (cZ, 4, .inl v_onIt)), (q_blamed, .inl (cZ, 4, .inl v_blamed)), (q_a2, .inr (2, [.ref q_a2_row, .int v_a2_size])), (q_a2_row, .inl (cI, 4, .inl v_a2_row))])) (va_Qv (fun _ : Unit => True) (fun _ t => va_P (dC, dI) vwCl [(h0, .inr (5, [.int w_number, .ref q_turn, .ref q_onIt, .ref q_blamed])), (q_turn, .inl (cI, 4, .inl w_turn)), (q_onIt, .inl (cZ, 4, .inl w_onIt)), (q_blamed, .inl (cZ, 4, .inl w_blamed)), (q_a2, .inr (2, [.ref q_a2_row, .int v_a2_size])), (q_a2_row, .inl (cI, 4, .inl v_a2_row))] t.heap ∧ va_D (va_A [(h0, .inr (5, [.int v_number, .ref q_turn, .ref q_onIt, .ref q_blamed])), (q_turn, .inl (cI, 4, .inl v_turn)), (q_onIt, .inl (cZ, 4, .inl v_onIt)), (q_blamed, .inl (cZ, 4, .inl v_blamed)), (q_a2, .inr (2, [.ref q_a2_row, .int v_a2_size])), (q_a2_row, .inl (cI, 4, .inl v_a2_row))] sz) [(h0, .inr (5, [.int w_number, .ref q_turn, .ref q_onIt, .ref q_blamed])), (q_turn, .inl (cI, 4, .inl w_turn)), (q_onIt, .inl (cZ, 4, .inl w_onIt)), (q_blamed, .inl (cZ, 4, .inl w_blamed)), (q_a2, .inr (2, [.ref q_a2_row, .int v_a2_size])), (q_a2_row, .inl (cI, 4, .inl v_a2_row))]) (va_A [(h0, .inr (5, [.int v_number, .ref q_turn, .ref q_onIt, .ref q_blamed])), (q_turn, .inl (cI, 4, .inl v_turn)), (q_onIt, .inl (cZ, 4, .inl v_onIt)), (q_blamed, .inl (cZ, 4, .inl v_blamed)), (q_a2, .inr (2, [.ref q_a2_row, .int v_a2_size])), (q_a2_row, .inl (cI, 4, .inl v_a2_row))] sz)) 0 0 (va_A [(h0, .inr (5, [.int v_number, .ref q_turn, .ref q_onIt, .ref q_blamed])), (q_turn, .inl (cI, 4, .inl v_turn)), (q_onIt, .inl (cZ, 4, .inl v_onIt)), (q_blamed, .inl (cZ, 4, .inl v_blamed)), (q_a2, .inr (2, [.ref q_a2_row, .int v_a2_size])), (q_a2_row, .inl (cI, 4, .inl v_a2_row))] sz) := by
  refine Met.ofW (cc := cX5_start) (maxL := 4) (ret := none) (by decide) rfl ?_
  intro p e s m args below meth c s₁ B hml hv
  obtain ⟨rfl, hsz, hP, hK, hD0⟩ := hv
  have hx := B.exec
  have hb := B.bytes
  have hr := B.returns
  have hts := atoms_spec (ws := wsX5_start) B.pre
  have hown : s.vm.findClass RX5 = some m.cls := findClass_of_methodNamed B.named
  have hlocks := B.notSynchronized
  subst hsz
  have hD := hD0.self (sz := s.heap.size)
  generalize hAe : va_A [(h0, .inr (5, [.int v_number, .ref q_turn, .ref q_onIt, .ref q_blamed])), (q_turn, .inl (cI, 4, .inl v_turn)), (q_onIt, .inl (cZ, 4, .inl v_onIt)), (q_blamed, .inl (cZ, 4, .inl v_blamed)), (q_a2, .inr (2, [.ref q_a2_row, .int v_a2_size])), (q_a2_row, .inl (cI, 4, .inl v_a2_row))] s.heap.size = A at hD ⊢
  have hA : ∀ q : Nat, s.heap.size ≤ q → A q := fun q h => by rw [← hAe]; exact Or.inr h
  have hS : va_S A s.heap s.heap [] := va_S.rf
  have hl := lv_entry ([.ref h0, .int x1, .ref q_a2]) (n := 4) (Nat.le_of_ble_eq_true rfl)
  rw [lg_entry_eq]
  generalize (lg_sl ([.ref h0, .int x1, .ref q_a2]) ++ List.replicate (4 - (lg_sl ([.ref h0, .int x1, .ref q_a2])).length) Slot.unset).toArray = ls at hl ⊢
  have hl : lv_has ls 4 [(0, .ref h0), (1, .int x1), (2, .ref q_a2)] := hl
  refine vx_gen hP hS (fun H locs hP hS => ?_)
  unfold fX5_start at hf
  refine lv_aload_n hx hb dX5_start_0 rfl (lv_at hl 0 rfl) ?_
  refine lv_iload_n hx hb dX5_start_1 rfl (lv_at hl 1 rfl) ?_
  refine va_put (D := (dC, dI)) (ci := 5) (v := .int x1) (ty := .int) (C := RX5) (T := TX5) (N := 4) hx hb hts iw_X5_start_X5 tyX5 tyX5_ok nmX5 hown hK hP hD hS 0 rfl rfl 0 (by decide) (hts (.fieldLink RX5 9 "HeatBench$Wave" "number" "I") (List.mem_of_getElem? (i := 1) rfl)) (fun _ h9 => h9) rfl (by decide +kernel) rfl rfl (Nat.le_of_ble_eq_true rfl) dX5_start_2 (fun H locs hP hD hS => ?_)
  have hP : va_P (dC, dI) vwCl [(h0, .inr (5, [.int x1, .ref q_turn, .ref q_onIt, .ref q_blamed])), (q_turn, .inl (cI, 4, .inl v_turn)), (q_onIt, .inl (cZ, 4, .inl v_onIt)), (q_blamed, .inl (cZ, 4, .inl v_blamed)), (q_a2, .inr (2, [.ref q_a2_row, .int v_a2_size])), (q_a2_row, .inl (cI, 4, .inl v_a2_row))] H := hP
  have hD : va_D A [(h0, .inr (5, [.int x1, .ref q_turn, .ref q_onIt, .ref q_blamed])), (q_turn, .inl (cI, 4, .inl v_turn)), (q_onIt, .inl (cZ, 4, .inl v_onIt)), (q_blamed, .inl (cZ, 4, .inl v_blamed)), (q_a2, .inr (2, [.ref q_a2_row, .int v_a2_size])), (q_a2_row, .inl (cI, 4, .inl v_a2_row))] := hD
  refine lv_iconst (v := 0) hx hb dX5_start_5 (by decide) ?_
  refine lv_istore_n (lv' := [(3, .int 0), (0, .ref h0), (1, .int x1), (2, .ref q_a2)]) hx hb dX5_start_6 rfl hl (by decide) rfl (fun ls hl => ?_)
  exact wX5_start_L7 hx hb hr hml hown hts hlocks hA hK N 0 v_turn v_onIt v_blamed H locs ls hP hD hS (lv_sub hl [1, 3, 0] rfl) hf
/-! X5_ride -/
theorem iw_X5_ride_X5 : ∀ w ∈ wsX50, w ∈ wsX5_ride := by decide +kernel
set_option maxHeartbeats 4000000 in
set_option maxRecDepth 100000 in
theorem wX5_ride_L12 {p : Program} {l : Launch} {e : Env} {s : State} {m : MethodId} {args : Array Value} {below : List Frame} {meth : Method} {c : Code} {dC : Nat → ClassId} {dI : Nat → Nat → Nat} {cI cZ cJ cA : ClassId} {A : Nat → Prop} {h0 : Nat} {v_number : Int32} {q_turn : Nat} {q_onIt : Nat} {q_blamed : Nat} {v_turn : Nat → Int32} {v_onIt : Nat → Int32} {v_blamed : Nat → Int32} {q_a2 : Nat} {v_a2 : Nat → Int32}  {w_onIt : (Nat → Int32)} {w_blamed : (Nat → Int32)} {w_a2 : (Nat → Int32)} {N : Nat} {k : Int32 → Int32 → Option ((Nat → Int32) × (Nat → Int32) × (Nat → Int32))} (hx : p.tables.exec = Jvm.exec) (hb : c.code = cX5_ride) (hr : meth.sig.returnType = none) (hml : c.maxLocals = 5) (hown : s.vm.findClass RX5 = some m.cls) (hts : ∀ w ∈ wsX5_ride, w.before args s = true) (hlocks : meth.locks = false) (hA : ∀ q : Nat, s.heap.size ≤ q → A q) (hK : va_K (dC, dI) vwCl [(cI, .int), (cZ, .boolean), (cJ, .long), (cA, .array .long)] s) : ∀ (n : Nat) (x3 : Int32) (x4 : Int32) (H : Heap) (locs : List Loc) (ls : Array Slot), va_P (dC, dI) vwCl [(h0, .inr (5, [.int v_number, .ref q_turn, .ref q_onIt, .ref q_blamed])), (q_turn, .inl (cI, 4, .inl v_turn)), (q_onIt, .inl (cZ, 4, .inl v_onIt)), (q_blamed, .inl (cZ, 4, .inl v_blamed)), (q_a2, .inl (cI, 4, .inl v_a2))] H → va_D A [(h0, .inr (5, [.int v_number, .ref q_turn, .ref q_onIt, .ref q_blamed])), (q_turn, .inl (cI, 4, .inl v_turn)), (q_onIt, .inl (cZ, 4, .inl v_onIt)), (q_blamed, .inl (cZ, 4, .inl v_blamed)), (q_a2, .inl (cI, 4, .inl v_a2))] → va_S A s.heap H locs → lv_has ls 5 [(0, .ref h0), (2, .ref q_a2), (3, .int x3), (4, .int x4)] → fX5_ride_L12 N v_turn v_onIt k n x3 x4 = some (w_onIt, w_blamed, w_a2) → (∀ (x3' : Int32) (x4' : Int32) (H : Heap) (locs : List Loc) (ls : Array Slot), va_P (dC, dI) vwCl [(h0, .inr (5, [.int v_number, .ref q_turn, .ref q_onIt, .ref q_blamed])), (q_turn, .inl (cI, 4, .inl v_turn)), (q_onIt, .inl (cZ, 4, .inl v_onIt)), (q_blamed, .inl (cZ, 4, .inl v_blamed)), (q_a2, .inl (cI, 4, .inl v_a2))] H → va_D A [(h0, .inr (5, [.int v_number, .ref q_turn, .ref q_onIt, .ref q_blamed])), (q_turn, .inl (cI, 4, .inl v_turn)), (q_onIt, .inl (cZ, 4, .inl v_onIt)), (q_blamed, .inl (cZ, 4, .inl v_blamed)), (q_a2, .inl (cI, 4, .inl v_a2))] → va_S A s.heap H locs → lv_has ls 5 [(0, .ref h0), (2, .ref q_a2), (3, .int x3')] → k x3' x4' = some (w_onIt, w_blamed, w_a2) → W p l e (headSpec wsX5_ride ({ frames := 0, cells := 0, slots := 0, locals := 0 })).room s m args below meth c H locs 0 0 (MQ below (va_Qv (fun _ : Unit => True) (fun _ t => va_P (dC, dI) vwCl [(h0, .inr (5, [.int v_number, .ref q_turn, .ref q_onIt, .ref q_blamed])), (q_turn, .inl (cI, 4, .inl v_turn)), (q_onIt, .inl (cZ, 4, .inl w_onIt)), (q_blamed, .inl (cZ, 4, .inl w_blamed)), (q_a2, .inl (cI, 4, .inl w_a2))] t.heap ∧ va_D A [(h0, .inr (5, [.int v_number, .ref q_turn, .ref q_onIt, .ref q_blamed])), (q_turn, .inl (cI, 4, .inl v_turn)), (q_onIt, .inl (cZ, 4, .inl w_onIt)), (q_blamed, .inl (cZ, 4, .inl w_blamed)), (q_a2, .inl (cI, 4, .inl w_a2))]) A) args s 0 0 A) (F0 m 53 ls [])) → W p l e (headSpec wsX5_ride ({ frames := 0, cells := 0, slots := 0, locals := 0 })).room s m args below meth c H locs 0 0 (MQ below (va_Qv (fun _ : Unit => True) (fun _ t => va_P (dC, dI) vwCl [(h0, .inr (5, [.int v_number, .ref q_turn, .ref q_onIt, .ref q_blamed])), (q_turn, .inl (cI, 4, .inl v_turn)), (q_onIt, .inl (cZ, 4, .inl w_onIt)), (q_blamed, .inl (cZ, 4, .inl w_blamed)), (q_a2, .inl (cI, 4, .inl w_a2))] t.heap ∧ va_D A [(h0, .inr (5, [.int v_number, .ref q_turn, .ref q_onIt, .ref q_blamed])), (q_turn, .inl (cI, 4, .inl v_turn)), (q_onIt, .inl (cZ, 4, .inl w_onIt)), (q_blamed, .inl (cZ, 4, .inl w_blamed)), (q_a2, .inl (cI, 4, .inl w_a2))]) A) args s 0 0 A) (F0 m 12 ls []) := by
  intro n
  induction n with
  | zero =>
    intro x3 x4 H locs ls hP hD hS hl hf kk
    exact nomatch (show (none : Option ((Nat → Int32) × (Nat → Int32) × (Nat → Int32))) = some (w_onIt, w_blamed, w_a2) from hf)
  | succ n ih =>
    intro x3 x4 H locs ls hP hD hS hl hf kk
    rw [fX5_ride_L12] at hf
    refine lv_iload hx hb dX5_ride_12 (lv_at hl 3 rfl) ?_
    refine lv_iconst (v := 4) hx hb dX5_ride_14 (by decide) ?_
    refine lv_icmp_ge (tgt := 53) hx hb dX5_ride_15 (by decide) (fun h_2 => ?_) (fun h_2 => ?_)
    · have hf := it_t h_2 hf
      exact kk x3 x4 H locs ls hP hD hS (lv_sub hl [0, 1, 2] rfl) hf
    · have hf := it_f h_2 hf
      refine lv_aload_n hx hb dX5_ride_18 rfl (lv_at hl 0 rfl) ?_
      refine va_get (D := (dC, dI)) (ci := 5) (v := .ref q_onIt) (C := RX5) (T := TX5) (N := 4) hx hb hts iw_X5_ride_X5 hown hK hP 0 rfl rfl 2 (by decide) (hts (.fieldLink RX5 19 "HeatBench$Wave" "onIt" "[Z") (List.mem_of_getElem? (i := 1) rfl)) (fun _ h9 => h9) rfl dX5_ride_19 ?_
      refine lv_iload hx hb dX5_ride_22 (lv_at hl 3 rfl) ?_
      obtain ⟨h_3, hf⟩ := it_n hf
      refine va_zald hx hb hK hP 2 1 rfl rfl h_3 dX5_ride_24 ?_
      refine lv_if_eq (tgt := 47) hx hb dX5_ride_25 (by decide) (fun h_4 => ?_) (fun h_4 => ?_)
      · have hf := it_t h_4 hf
        refine lv_iinc (v := x4 + 1) (lv' := [(4, .int (x4 + 1)), (0, .ref h0), (2, .ref q_a2), (3, .int x3)]) hx hb dX5_ride_47 hl (k := 3) rfl rfl (by decide) rfl (fun ls hl => ?_)
        refine lv_goto (tgt := 12) hx hb dX5_ride_50 (by decide) ?_
        exact ih x3 (x4 + 1) H locs ls hP hD hS (lv_sub hl [1, 2, 3, 0] rfl) hf kk
      · have hf := it_f h_4 hf
        refine lv_aload_n hx hb dX5_ride_28 rfl (lv_at hl 0 rfl) ?_
        refine va_get (D := (dC, dI)) (ci := 5) (v := .ref q_turn) (C := RX5) (T := TX5) (N := 4) hx hb hts iw_X5_ride_X5 hown hK hP 0 rfl rfl 1 (by decide) (hts (.fieldLink RX5 15 "HeatBench$Wave" "turn" "[I") (List.mem_of_getElem? (i := 2) rfl)) (fun _ h9 => h9) rfl dX5_ride_29 ?_
        refine lv_iload hx hb dX5_ride_32 (lv_at hl 3 rfl) ?_
        refine va_iald hx hb hK hP 1 0 rfl rfl h_3 dX5_ride_34 ?_
        refine lv_aload_n hx hb dX5_ride_35 rfl (lv_at hl 0 rfl) ?_
        refine va_get (D := (dC, dI)) (ci := 5) (v := .ref q_turn) (C := RX5) (T := TX5) (N := 4) hx hb hts iw_X5_ride_X5 hown hK hP 0 rfl rfl 1 (by decide) (hts (.fieldLink RX5 15 "HeatBench$Wave" "turn" "[I") (List.mem_of_getElem? (i := 2) rfl)) (fun _ h9 => h9) rfl dX5_ride_36 ?_
        refine lv_iload_n hx hb dX5_ride_39 rfl (lv_at hl 2 rfl) ?_
        obtain ⟨h_5, hf⟩ := it_n hf
        refine va_iald hx hb hK hP 1 0 rfl rfl h_5 dX5_ride_40 ?_
        refine lv_icmp_ge (tgt := 47) hx hb dX5_ride_41 (by decide) (fun h_6 => ?_) (fun h_6 => ?_)
        · have hf := it_t h_6 hf
          refine lv_iinc (v := x4 + 1) (lv' := [(4, .int (x4 + 1)), (0, .ref h0), (2, .ref q_a2), (3, .int x3)]) hx hb dX5_ride_47 hl (k := 3) rfl rfl (by decide) rfl (fun ls hl => ?_)
          refine lv_goto (tgt := 12) hx hb dX5_ride_50 (by decide) ?_
          exact ih x3 (x4 + 1) H locs ls hP hD hS (lv_sub hl [1, 2, 3, 0] rfl) hf kk
        · have hf := it_f h_6 hf
          refine lv_iload hx hb dX5_ride_44 (lv_at hl 3 rfl) ?_
          refine lv_istore_n (lv' := [(3, .int x4), (0, .ref h0), (2, .ref q_a2), (4, .int x4)]) hx hb dX5_ride_46 rfl hl (by decide) rfl (fun ls hl => ?_)
          refine lv_iinc (v := x4 + 1) (lv' := [(4, .int (x4 + 1)), (3, .int x4), (0, .ref h0), (2, .ref q_a2)]) hx hb dX5_ride_47 hl (k := 3) rfl rfl (by decide) rfl (fun ls hl => ?_)
          refine lv_goto (tgt := 12) hx hb dX5_ride_50 (by decide) ?_
          exact ih x4 (x4 + 1) H locs ls hP hD hS (lv_sub hl [2, 3, 1, 0] rfl) hf kk
set_option maxHeartbeats 4000000 in
set_option maxRecDepth 100000 in
theorem wX5_ride_L56 {p : Program} {l : Launch} {e : Env} {s : State} {m : MethodId} {args : Array Value} {below : List Frame} {meth : Method} {c : Code} {dC : Nat → ClassId} {dI : Nat → Nat → Nat} {cI cZ cJ cA : ClassId} {A : Nat → Prop} {h0 : Nat} {v_number : Int32} {q_turn : Nat} {q_onIt : Nat} {q_blamed : Nat} {v_turn : Nat → Int32} {v_onIt : Nat → Int32} {q_a2 : Nat} {x3 : Int32} {w_onIt : (Nat → Int32)} {w_blamed : (Nat → Int32)} {w_a2 : (Nat → Int32)} {N : Nat}  (hx : p.tables.exec = Jvm.exec) (hb : c.code = cX5_ride) (hr : meth.sig.returnType = none) (hml : c.maxLocals = 5) (hown : s.vm.findClass RX5 = some m.cls) (hts : ∀ w ∈ wsX5_ride, w.before args s = true) (hlocks : meth.locks = false) (hA : ∀ q : Nat, s.heap.size ≤ q → A q) (hK : va_K (dC, dI) vwCl [(cI, .int), (cZ, .boolean), (cJ, .long), (cA, .array .long)] s) : ∀ (n : Nat) (x4 : Int32) (v_blamed : Nat → Int32) (v_a2 : Nat → Int32) (H : Heap) (locs : List Loc) (ls : Array Slot), va_P (dC, dI) vwCl [(h0, .inr (5, [.int v_number, .ref q_turn, .ref q_onIt, .ref q_blamed])), (q_turn, .inl (cI, 4, .inl v_turn)), (q_onIt, .inl (cZ, 4, .inl v_onIt)), (q_blamed, .inl (cZ, 4, .inl v_blamed)), (q_a2, .inl (cI, 4, .inl v_a2))] H → va_D A [(h0, .inr (5, [.int v_number, .ref q_turn, .ref q_onIt, .ref q_blamed])), (q_turn, .inl (cI, 4, .inl v_turn)), (q_onIt, .inl (cZ, 4, .inl v_onIt)), (q_blamed, .inl (cZ, 4, .inl v_blamed)), (q_a2, .inl (cI, 4, .inl v_a2))] → va_S A s.heap H locs → lv_has ls 5 [(0, .ref h0), (2, .ref q_a2), (3, .int x3), (4, .int x4)] → fX5_ride_L56 N x3 v_onIt n x4 v_blamed v_a2 = some (w_onIt, w_blamed, w_a2) → W p l e (headSpec wsX5_ride ({ frames := 0, cells := 0, slots := 0, locals := 0 })).room s m args below meth c H locs 0 0 (MQ below (va_Qv (fun _ : Unit => True) (fun _ t => va_P (dC, dI) vwCl [(h0, .inr (5, [.int v_number, .ref q_turn, .ref q_onIt, .ref q_blamed])), (q_turn, .inl (cI, 4, .inl v_turn)), (q_onIt, .inl (cZ, 4, .inl w_onIt)), (q_blamed, .inl (cZ, 4, .inl w_blamed)), (q_a2, .inl (cI, 4, .inl w_a2))] t.heap ∧ va_D A [(h0, .inr (5, [.int v_number, .ref q_turn, .ref q_onIt, .ref q_blamed])), (q_turn, .inl (cI, 4, .inl v_turn)), (q_onIt, .inl (cZ, 4, .inl w_onIt)), (q_blamed, .inl (cZ, 4, .inl w_blamed)), (q_a2, .inl (cI, 4, .inl w_a2))]) A) args s 0 0 A) (F0 m 56 ls []) := by
  intro n
  induction n with
  | zero =>
    intro x4 v_blamed v_a2 H locs ls hP hD hS hl hf
    exact nomatch (show (none : Option ((Nat → Int32) × (Nat → Int32) × (Nat → Int32))) = some (w_onIt, w_blamed, w_a2) from hf)
  | succ n ih =>
    intro x4 v_blamed v_a2 H locs ls hP hD hS hl hf
    rw [fX5_ride_L56] at hf
    refine lv_iload hx hb dX5_ride_56 (lv_at hl 3 rfl) ?_
    refine lv_iconst (v := 4) hx hb dX5_ride_58 (by decide) ?_
    refine lv_icmp_ge (tgt := 110) hx hb dX5_ride_59 (by decide) (fun h_8 => ?_) (fun h_8 => ?_)
    · have hf := it_t h_8 hf
      cases hf
      exact W.vret hx hb hr (fun t ht hW => ⟨⟨(), rfl, trivial, by rw [ht]; exact hP, hD⟩, hS.F ht⟩) hS.2.2 dX5_ride_110
    · have hf := it_f h_8 hf
      refine lv_aload_n hx hb dX5_ride_62 rfl (lv_at hl 0 rfl) ?_
      refine va_get (D := (dC, dI)) (ci := 5) (v := .ref q_onIt) (C := RX5) (T := TX5) (N := 4) hx hb hts iw_X5_ride_X5 hown hK hP 0 rfl rfl 2 (by decide) (hts (.fieldLink RX5 19 "HeatBench$Wave" "onIt" "[Z") (List.mem_of_getElem? (i := 1) rfl)) (fun _ h9 => h9) rfl dX5_ride_63 ?_
      refine lv_iload hx hb dX5_ride_66 (lv_at hl 3 rfl) ?_
      obtain ⟨h_9, hf⟩ := it_n hf
      refine va_zald hx hb hK hP 2 1 rfl rfl h_9 dX5_ride_68 ?_
      refine lv_if_eq (tgt := 104) hx hb dX5_ride_69 (by decide) (fun h_10 => ?_) (fun h_10 => ?_)
      · have hf := it_t h_10 hf
        refine lv_iinc (v := x4 + 1) (lv' := [(4, .int (x4 + 1)), (0, .ref h0), (2, .ref q_a2), (3, .int x3)]) hx hb dX5_ride_104 hl (k := 3) rfl rfl (by decide) rfl (fun ls hl => ?_)
        refine lv_goto (tgt := 56) hx hb dX5_ride_107 (by decide) ?_
        exact ih (x4 + 1) v_blamed v_a2 H locs ls hP hD hS (lv_sub hl [1, 2, 3, 0] rfl) hf
      · have hf := it_f h_10 hf
        refine lv_iload hx hb dX5_ride_72 (lv_at hl 3 rfl) ?_
        refine lv_iload_n hx hb dX5_ride_74 rfl (lv_at hl 2 rfl) ?_
        refine lv_icmp_eq (tgt := 104) hx hb dX5_ride_75 (by decide) (fun h_11 => ?_) (fun h_11 => ?_)
        · have hf := it_t h_11 hf
          refine lv_iinc (v := x4 + 1) (lv' := [(4, .int (x4 + 1)), (0, .ref h0), (2, .ref q_a2), (3, .int x3)]) hx hb dX5_ride_104 hl (k := 3) rfl rfl (by decide) rfl (fun ls hl => ?_)
          refine lv_goto (tgt := 56) hx hb dX5_ride_107 (by decide) ?_
          exact ih (x4 + 1) v_blamed v_a2 H locs ls hP hD hS (lv_sub hl [1, 2, 3, 0] rfl) hf
        · have hf := it_f h_11 hf
          refine lv_aload_n hx hb dX5_ride_78 rfl (lv_at hl 0 rfl) ?_
          refine va_get (D := (dC, dI)) (ci := 5) (v := .ref q_blamed) (C := RX5) (T := TX5) (N := 4) hx hb hts iw_X5_ride_X5 hown hK hP 0 rfl rfl 3 (by decide) (hts (.fieldLink RX5 23 "HeatBench$Wave" "blamed" "[Z") (List.mem_of_getElem? (i := 3) rfl)) (fun _ h9 => h9) rfl dX5_ride_79 ?_
          refine lv_iload hx hb dX5_ride_82 (lv_at hl 3 rfl) ?_
          refine va_zald hx hb hK hP 3 1 rfl rfl h_9 dX5_ride_84 ?_
          refine lv_if_ne (tgt := 104) hx hb dX5_ride_85 (by decide) (fun h_12 => ?_) (fun h_12 => ?_)
          · have hf := it_f h_12 hf
            refine lv_iinc (v := x4 + 1) (lv' := [(4, .int (x4 + 1)), (0, .ref h0), (2, .ref q_a2), (3, .int x3)]) hx hb dX5_ride_104 hl (k := 3) rfl rfl (by decide) rfl (fun ls hl => ?_)
            refine lv_goto (tgt := 56) hx hb dX5_ride_107 (by decide) ?_
            exact ih (x4 + 1) v_blamed v_a2 H locs ls hP hD hS (lv_sub hl [1, 2, 3, 0] rfl) hf
          · have hf := it_t h_12 hf
            refine lv_aload_n hx hb dX5_ride_88 rfl (lv_at hl 0 rfl) ?_
            refine va_get (D := (dC, dI)) (ci := 5) (v := .ref q_blamed) (C := RX5) (T := TX5) (N := 4) hx hb hts iw_X5_ride_X5 hown hK hP 0 rfl rfl 3 (by decide) (hts (.fieldLink RX5 23 "HeatBench$Wave" "blamed" "[Z") (List.mem_of_getElem? (i := 3) rfl)) (fun _ h9 => h9) rfl dX5_ride_89 ?_
            refine lv_iload hx hb dX5_ride_92 (lv_at hl 3 rfl) ?_
            refine lv_iconst (v := 1) hx hb dX5_ride_94 (by decide) ?_
            refine va_zast hx hb hK hP hD hS 3 1 rfl rfl h_9 dX5_ride_95 (fun H locs hP hD hS => ?_)
            have hP : va_P (dC, dI) vwCl [(h0, .inr (5, [.int v_number, .ref q_turn, .ref q_onIt, .ref q_blamed])), (q_turn, .inl (cI, 4, .inl v_turn)), (q_onIt, .inl (cZ, 4, .inl v_onIt)), (q_blamed, .inl (cZ, 4, .inl (upd v_blamed x4.toNatClampNeg (vp_nar .boolean 1)))), (q_a2, .inl (cI, 4, .inl v_a2))] H := hP
            have hD : va_D A [(h0, .inr (5, [.int v_number, .ref q_turn, .ref q_onIt, .ref q_blamed])), (q_turn, .inl (cI, 4, .inl v_turn)), (q_onIt, .inl (cZ, 4, .inl v_onIt)), (q_blamed, .inl (cZ, 4, .inl (upd v_blamed x4.toNatClampNeg (vp_nar .boolean 1)))), (q_a2, .inl (cI, 4, .inl v_a2))] := hD
            refine lv_aload_n hx hb dX5_ride_96 rfl (lv_at hl 1 rfl) ?_
            refine lv_iload hx hb dX5_ride_97 (lv_at hl 3 rfl) ?_
            refine lv_dup2_11 hx hb dX5_ride_99 rfl rfl ?_
            refine va_iald hx hb hK hP 4 0 rfl rfl h_9 dX5_ride_100 ?_
            refine lv_iconst (v := 1) hx hb dX5_ride_101 (by decide) ?_
            refine lv_iadd hx hb dX5_ride_102 ?_
            refine va_iast hx hb hK hP hD hS 4 0 rfl rfl h_9 dX5_ride_103 (fun H locs hP hD hS => ?_)
            have hP : va_P (dC, dI) vwCl [(h0, .inr (5, [.int v_number, .ref q_turn, .ref q_onIt, .ref q_blamed])), (q_turn, .inl (cI, 4, .inl v_turn)), (q_onIt, .inl (cZ, 4, .inl v_onIt)), (q_blamed, .inl (cZ, 4, .inl (upd v_blamed x4.toNatClampNeg (vp_nar .boolean 1)))), (q_a2, .inl (cI, 4, .inl (upd v_a2 x4.toNatClampNeg ((v_a2 x4.toNatClampNeg) + 1))))] H := hP
            have hD : va_D A [(h0, .inr (5, [.int v_number, .ref q_turn, .ref q_onIt, .ref q_blamed])), (q_turn, .inl (cI, 4, .inl v_turn)), (q_onIt, .inl (cZ, 4, .inl v_onIt)), (q_blamed, .inl (cZ, 4, .inl (upd v_blamed x4.toNatClampNeg (vp_nar .boolean 1)))), (q_a2, .inl (cI, 4, .inl (upd v_a2 x4.toNatClampNeg ((v_a2 x4.toNatClampNeg) + 1))))] := hD
            refine lv_iinc (v := x4 + 1) (lv' := [(4, .int (x4 + 1)), (0, .ref h0), (2, .ref q_a2), (3, .int x3)]) hx hb dX5_ride_104 hl (k := 3) rfl rfl (by decide) rfl (fun ls hl => ?_)
            refine lv_goto (tgt := 56) hx hb dX5_ride_107 (by decide) ?_
            exact ih (x4 + 1) (upd v_blamed x4.toNatClampNeg (vp_nar .boolean 1)) (upd v_a2 x4.toNatClampNeg ((v_a2 x4.toNatClampNeg) + 1)) H locs ls hP hD hS (lv_sub hl [1, 2, 3, 0] rfl) hf
set_option maxHeartbeats 4000000 in
set_option maxRecDepth 100000 in
theorem tX5_ride (l : Launch) (dC : Nat → ClassId) (dI : Nat → Nat → Nat) (cI cZ cJ cA : ClassId) (sz : Nat) (h0 : Nat) (v_number : Int32) (q_turn : Nat) (q_onIt : Nat) (q_blamed : Nat) (v_turn : Nat → Int32) (v_onIt : Nat → Int32) (v_blamed : Nat → Int32) (q_a2 : Nat) (v_a2 : Nat → Int32) (x1 : Int32) (N : Nat) (w_onIt : (Nat → Int32)) (w_blamed : (Nat → Int32)) (w_a2 : (Nat → Int32)) (hf : fX5_ride N x1 v_turn v_onIt v_blamed v_a2 = some (w_onIt, w_blamed, w_a2)) : Met l yX5_ride wsX5_ride ({ frames := 0, cells := 0, slots := 0, locals := 0 }) (va_Pc [.ref h0, .int x1, .ref q_a2] (fun U => U.heap.size = sz ∧ va_P (dC, dI) vwCl [(h0, .inr (5, [.int v_number, .ref q_turn, .ref q_onIt, .ref q_blamed])), (q_turn, .inl (cI, 4, .inl v_turn)), (q_onIt, .inl (cZ, 4, .inl v_onIt)), (q_blamed, .inl (cZ, 4, .inl v_blamed)), (q_a2, .inl (cI, 4, .inl v_a2))] U.heap ∧ va_K (dC, dI) vwCl [(cI, .int), (cZ, .boolean), (cJ, .long), (cA, .array .long)] U ∧ va_D (fun _ => True) [(h0, .inr (5, [.int v_number, .ref q_turn, .ref q_onIt, .ref q_blamed])), (q_turn, .inl (cI, 4, .inl v_turn)), (q_onIt, .inl (cZ, 4, .inl v_onIt)), (q_blamed, .inl (cZ, 4, .inl v_blamed)), (q_a2, .inl (cI, 4, .inl v_a2))])) (va_Qv (fun _ : Unit => True) (fun _ t => va_P (dC, dI) vwCl [(h0, .inr (5, [.int v_number, .ref q_turn, .ref q_onIt, .ref q_blamed])), (q_turn, .inl (cI, 4, .inl v_turn)), (q_onIt, .inl (cZ, 4, .inl w_onIt)), (q_blamed, .inl (cZ, 4, .inl w_blamed)), (q_a2, .inl (cI, 4, .inl w_a2))] t.heap ∧ va_D (va_A [(h0, .inr (5, [.int v_number, .ref q_turn, .ref q_onIt, .ref q_blamed])), (q_turn, .inl (cI, 4, .inl v_turn)), (q_onIt, .inl (cZ, 4, .inl v_onIt)), (q_blamed, .inl (cZ, 4, .inl v_blamed)), (q_a2, .inl (cI, 4, .inl v_a2))] sz) [(h0, .inr (5, [.int v_number, .ref q_turn, .ref q_onIt, .ref q_blamed])), (q_turn, .inl (cI, 4, .inl v_turn)), (q_onIt, .inl (cZ, 4, .inl w_onIt)), (q_blamed, .inl (cZ, 4, .inl w_blamed)), (q_a2, .inl (cI, 4, .inl w_a2))]) (va_A [(h0, .inr (5, [.int v_number, .ref q_turn, .ref q_onIt, .ref q_blamed])), (q_turn, .inl (cI, 4, .inl v_turn)), (q_onIt, .inl (cZ, 4, .inl v_onIt)), (q_blamed, .inl (cZ, 4, .inl v_blamed)), (q_a2, .inl (cI, 4, .inl v_a2))] sz)) 0 0 (va_A [(h0, .inr (5, [.int v_number, .ref q_turn, .ref q_onIt, .ref q_blamed])), (q_turn, .inl (cI, 4, .inl v_turn)), (q_onIt, .inl (cZ, 4, .inl v_onIt)), (q_blamed, .inl (cZ, 4, .inl v_blamed)), (q_a2, .inl (cI, 4, .inl v_a2))] sz) := by
  refine Met.ofW (cc := cX5_ride) (maxL := 5) (ret := none) (by decide) rfl ?_
  intro p e s m args below meth c s₁ B hml hv
  obtain ⟨rfl, hsz, hP, hK, hD0⟩ := hv
  have hx := B.exec
  have hb := B.bytes
  have hr := B.returns
  have hts := atoms_spec (ws := wsX5_ride) B.pre
  have hown : s.vm.findClass RX5 = some m.cls := findClass_of_methodNamed B.named
  have hlocks := B.notSynchronized
  subst hsz
  have hD := hD0.self (sz := s.heap.size)
  generalize hAe : va_A [(h0, .inr (5, [.int v_number, .ref q_turn, .ref q_onIt, .ref q_blamed])), (q_turn, .inl (cI, 4, .inl v_turn)), (q_onIt, .inl (cZ, 4, .inl v_onIt)), (q_blamed, .inl (cZ, 4, .inl v_blamed)), (q_a2, .inl (cI, 4, .inl v_a2))] s.heap.size = A at hD ⊢
  have hA : ∀ q : Nat, s.heap.size ≤ q → A q := fun q h => by rw [← hAe]; exact Or.inr h
  have hS : va_S A s.heap s.heap [] := va_S.rf
  have hl := lv_entry ([.ref h0, .int x1, .ref q_a2]) (n := 5) (Nat.le_of_ble_eq_true rfl)
  rw [lg_entry_eq]
  generalize (lg_sl ([.ref h0, .int x1, .ref q_a2]) ++ List.replicate (5 - (lg_sl ([.ref h0, .int x1, .ref q_a2])).length) Slot.unset).toArray = ls at hl ⊢
  have hl : lv_has ls 5 [(0, .ref h0), (1, .int x1), (2, .ref q_a2)] := hl
  refine vx_gen hP hS (fun H locs hP hS => ?_)
  unfold fX5_ride at hf
  refine lv_aload_n hx hb dX5_ride_0 rfl (lv_at hl 0 rfl) ?_
  refine va_get (D := (dC, dI)) (ci := 5) (v := .ref q_onIt) (C := RX5) (T := TX5) (N := 4) hx hb hts iw_X5_ride_X5 hown hK hP 0 rfl rfl 2 (by decide) (hts (.fieldLink RX5 19 "HeatBench$Wave" "onIt" "[Z") (List.mem_of_getElem? (i := 1) rfl)) (fun _ h9 => h9) rfl dX5_ride_1 ?_
  refine lv_iload_n hx hb dX5_ride_4 rfl (lv_at hl 1 rfl) ?_
  refine lv_iconst (v := 1) hx hb dX5_ride_5 (by decide) ?_
  obtain ⟨h_1, hf⟩ := it_n hf
  refine va_zast hx hb hK hP hD hS 2 1 rfl rfl h_1 dX5_ride_6 (fun H locs hP hD hS => ?_)
  have hP : va_P (dC, dI) vwCl [(h0, .inr (5, [.int v_number, .ref q_turn, .ref q_onIt, .ref q_blamed])), (q_turn, .inl (cI, 4, .inl v_turn)), (q_onIt, .inl (cZ, 4, .inl (upd v_onIt x1.toNatClampNeg (vp_nar .boolean 1)))), (q_blamed, .inl (cZ, 4, .inl v_blamed)), (q_a2, .inl (cI, 4, .inl v_a2))] H := hP
  have hD : va_D A [(h0, .inr (5, [.int v_number, .ref q_turn, .ref q_onIt, .ref q_blamed])), (q_turn, .inl (cI, 4, .inl v_turn)), (q_onIt, .inl (cZ, 4, .inl (upd v_onIt x1.toNatClampNeg (vp_nar .boolean 1)))), (q_blamed, .inl (cZ, 4, .inl v_blamed)), (q_a2, .inl (cI, 4, .inl v_a2))] := hD
  refine lv_iload_n hx hb dX5_ride_7 rfl (lv_at hl 1 rfl) ?_
  refine lv_istore_n (lv' := [(3, .int x1), (0, .ref h0), (1, .int x1), (2, .ref q_a2)]) hx hb dX5_ride_8 rfl hl (by decide) rfl (fun ls hl => ?_)
  refine lv_iconst (v := 0) hx hb dX5_ride_9 (by decide) ?_
  refine lv_istore (lv' := [(4, .int 0), (3, .int x1), (0, .ref h0), (1, .int x1), (2, .ref q_a2)]) hx hb dX5_ride_10 hl (by decide) rfl (fun ls hl => ?_)
  refine wX5_ride_L12 hx hb hr hml hown hts hlocks hA hK N x1 0 H locs ls hP hD hS (lv_sub hl [2, 4, 1, 0] rfl) hf ?_
  intro x3_7 x4_7 H locs ls hP hD hS hl hf
  refine lv_iconst (v := 0) hx hb dX5_ride_53 (by decide) ?_
  refine lv_istore (lv' := [(4, .int 0), (0, .ref h0), (2, .ref q_a2), (3, .int x3_7)]) hx hb dX5_ride_54 hl (by decide) rfl (fun ls hl => ?_)
  exact wX5_ride_L56 hx hb hr hml hown hts hlocks hA hK N 0 v_blamed v_a2 H locs ls hP hD hS (lv_sub hl [1, 2, 3, 0] rfl) hf
