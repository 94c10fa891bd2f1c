/-! X2_join -/
theorem iw_X2_join_X2 : ∀ w ∈ wsX20, w ∈ wsX2_join := by decide +kernel
set_option maxHeartbeats 4000000 in
set_option maxRecDepth 100000 in
theorem tX2_join (l : Launch) (dC : Nat → ClassId) (dI : Nat → Nat → Nat) (cI cZ cJ cA : ClassId) (sz : Nat) (h0 : Nat) (q_row : Nat) (v_size : Int32) (v_row : Nat → Int32) (x1 : Int32) (N : Nat) (w_size : Int32) (w_row : (Nat → Int32)) (hf : fX2_join N x1 v_size v_row = some (w_size, w_row)) : Met l yX2_join wsX2_join ({ frames := 0, cells := 0, slots := 0, locals := 0 }) (va_Pc [.ref h0, .int x1] (fun U => U.heap.size = sz ∧ va_P (dC, dI) vwCl [(h0, .inr (2, [.ref q_row, .int v_size])), (q_row, .inl (cI, 4, .inl v_row))] U.heap ∧ va_K (dC, dI) vwCl [(cI, .int), (cZ, .boolean), (cJ, .long), (cA, .array .long)] U ∧ va_D (fun _ => True) [(h0, .inr (2, [.ref q_row, .int v_size])), (q_row, .inl (cI, 4, .inl v_row))])) (va_Qv (fun _ : Unit => True) (fun _ t => va_P (dC, dI) vwCl [(h0, .inr (2, [.ref q_row, .int w_size])), (q_row, .inl (cI, 4, .inl w_row))] t.heap ∧ va_D (va_A [(h0, .inr (2, [.ref q_row, .int v_size])), (q_row, .inl (cI, 4, .inl v_row))] sz) [(h0, .inr (2, [.ref q_row, .int w_size])), (q_row, .inl (cI, 4, .inl w_row))]) (va_A [(h0, .inr (2, [.ref q_row, .int v_size])), (q_row, .inl (cI, 4, .inl v_row))] sz)) 0 0 (va_A [(h0, .inr (2, [.ref q_row, .int v_size])), (q_row, .inl (cI, 4, .inl v_row))] sz) := by
  refine Met.ofW (cc := cX2_join) (maxL := 2) (ret := none) (by decide) rfl ?_
  intro p e s m args below meth c s₁ B hml hv
  obtain ⟨rfl, hsz, hP, hK, hD0⟩ := hv
  have hx := B.exec
  have hb := B.bytes
  have hr := B.returns
  have hts := atoms_spec (ws := wsX2_join) B.pre
  have hown : s.vm.findClass RX2 = some m.cls := findClass_of_methodNamed B.named
  have hlocks := B.notSynchronized
  subst hsz
  have hD := hD0.self (sz := s.heap.size)
  generalize hAe : va_A [(h0, .inr (2, [.ref q_row, .int v_size])), (q_row, .inl (cI, 4, .inl v_row))] s.heap.size = A at hD ⊢
  have hA : ∀ q : Nat, s.heap.size ≤ q → A q := fun q h => by rw [← hAe]; exact Or.inr h
  have hS : va_S A s.heap s.heap [] := va_S.rf
  have hl := lv_entry ([.ref h0, .int x1]) (n := 2) (Nat.le_of_ble_eq_true rfl)
  rw [lg_entry_eq]
  generalize (lg_sl ([.ref h0, .int x1]) ++ List.replicate (2 - (lg_sl ([.ref h0, .int x1])).length) Slot.unset).toArray = ls at hl ⊢
  have hl : lv_has ls 2 [(0, .ref h0), (1, .int x1)] := hl
  refine vx_gen hP hS (fun H locs hP hS => ?_)
  unfold fX2_join at hf
  refine lv_aload_n hx hb dX2_join_0 rfl (lv_at hl 0 rfl) ?_
  refine va_get (D := (dC, dI)) (ci := 2) (v := .int v_size) (C := RX2) (T := TX2) (N := 2) hx hb hts iw_X2_join_X2 hown hK hP 0 rfl rfl 1 (by decide) (hts (.fieldLink RX2 15 "HeatBench$Line" "size" "I") (List.mem_of_getElem? (i := 1) rfl)) (fun _ h9 => h9) rfl dX2_join_1 ?_
  refine lv_iconst (v := 4) hx hb dX2_join_4 (by decide) ?_
  refine lv_icmp_ge (tgt := 28) hx hb dX2_join_5 (by decide) (fun h_1 => ?_) (fun h_1 => ?_)
  · have hf := it_t h_1 hf
    cases hf
    exact W.vret hx hb hr (fun t ht hW => ⟨⟨(), rfl, trivial, by rw [ht]; exact hP, hD⟩, hS.F ht⟩) hS.2.2 dX2_join_28
  · have hf := it_f h_1 hf
    refine lv_aload_n hx hb dX2_join_8 rfl (lv_at hl 0 rfl) ?_
    refine va_get (D := (dC, dI)) (ci := 2) (v := .ref q_row) (C := RX2) (T := TX2) (N := 2) hx hb hts iw_X2_join_X2 hown hK hP 0 rfl rfl 0 (by decide) (hts (.fieldLink RX2 9 "HeatBench$Line" "row" "[I") (List.mem_of_getElem? (i := 2) rfl)) (fun _ h9 => h9) rfl dX2_join_9 ?_
    refine lv_aload_n hx hb dX2_join_12 rfl (lv_at hl 0 rfl) ?_
    refine va_get (D := (dC, dI)) (ci := 2) (v := .int v_size) (C := RX2) (T := TX2) (N := 2) hx hb hts iw_X2_join_X2 hown hK hP 0 rfl rfl 1 (by decide) (hts (.fieldLink RX2 15 "HeatBench$Line" "size" "I") (List.mem_of_getElem? (i := 1) rfl)) (fun _ h9 => h9) rfl dX2_join_13 ?_
    refine lv_iload_n hx hb dX2_join_16 rfl (lv_at hl 1 rfl) ?_
    obtain ⟨h_2, hf⟩ := it_n hf
    refine va_iast hx hb hK hP hD hS 1 0 rfl rfl h_2 dX2_join_17 (fun H locs hP hD hS => ?_)
    have hP : va_P (dC, dI) vwCl [(h0, .inr (2, [.ref q_row, .int v_size])), (q_row, .inl (cI, 4, .inl (upd v_row v_size.toNatClampNeg x1)))] H := hP
    have hD : va_D A [(h0, .inr (2, [.ref q_row, .int v_size])), (q_row, .inl (cI, 4, .inl (upd v_row v_size.toNatClampNeg x1)))] := hD
    refine lv_aload_n hx hb dX2_join_18 rfl (lv_at hl 0 rfl) ?_
    refine lv_dup hx hb dX2_join_19 rfl ?_
    refine va_get (D := (dC, dI)) (ci := 2) (v := .int v_size) (C := RX2) (T := TX2) (N := 2) hx hb hts iw_X2_join_X2 hown hK hP 0 rfl rfl 1 (by decide) (hts (.fieldLink RX2 15 "HeatBench$Line" "size" "I") (List.mem_of_getElem? (i := 1) rfl)) (fun _ h9 => h9) rfl dX2_join_20 ?_
    refine lv_iconst (v := 1) hx hb dX2_join_23 (by decide) ?_
    refine lv_iadd hx hb dX2_join_24 ?_
    refine va_put (D := (dC, dI)) (ci := 2) (v := .int (v_size + 1)) (ty := .int) (C := RX2) (T := TX2) (N := 2) hx hb hts iw_X2_join_X2 tyX2 tyX2_ok nmX2 hown hK hP hD hS 0 rfl rfl 1 (by decide) (hts (.fieldLink RX2 15 "HeatBench$Line" "size" "I") (List.mem_of_getElem? (i := 1) rfl)) (fun _ h9 => h9) rfl (by decide +kernel) rfl rfl (Nat.le_of_ble_eq_true rfl) dX2_join_25 (fun H locs hP hD hS => ?_)
    have hP : va_P (dC, dI) vwCl [(h0, .inr (2, [.ref q_row, .int (v_size + 1)])), (q_row, .inl (cI, 4, .inl (upd v_row v_size.toNatClampNeg x1)))] H := hP
    have hD : va_D A [(h0, .inr (2, [.ref q_row, .int (v_size + 1)])), (q_row, .inl (cI, 4, .inl (upd v_row v_size.toNatClampNeg x1)))] := hD
    cases hf
    exact W.vret hx hb hr (fun t ht hW => ⟨⟨(), rfl, trivial, by rw [ht]; exact hP, hD⟩, hS.F ht⟩) hS.2.2 dX2_join_28
/-! X2_fillByNumbers -/
theorem iw_X2_fillByNumbers_X2 : ∀ w ∈ wsX20, w ∈ wsX2_fillByNumbers := by decide +kernel
set_option maxHeartbeats 4000000 in
set_option maxRecDepth 100000 in
theorem wX2_fillByNumbers_L7 {p : Program} {l : Launch} {e : Env} {s : State} {m : MethodId} {args : Array Value} {below : List Frame} {meth : Method} {c : Code} {dC : Nat → ClassId} {dI : Nat → Nat → Nat} {cI cZ cJ cA : ClassId} {A : Nat → Prop} {h0 : Nat} {q_row : Nat} {x1 : Int32} {w_size : Int32} {w_row : (Nat → Int32)} {N : Nat}  (hx : p.tables.exec = Jvm.exec) (hb : c.code = cX2_fillByNumbers) (hr : meth.sig.returnType = none) (hml : c.maxLocals = 3) (hown : s.vm.findClass RX2 = some m.cls) (hts : ∀ w ∈ wsX2_fillByNumbers, w.before args s = true) (hlocks : meth.locks = false) (hA : ∀ q : Nat, s.heap.size ≤ q → A q) (hK : va_K (dC, dI) vwCl [(cI, .int), (cZ, .boolean), (cJ, .long), (cA, .array .long)] s) : ∀ (n : Nat) (x2 : Int32) (v_size : Int32) (v_row : Nat → Int32) (H : Heap) (locs : List Loc) (ls : Array Slot), va_P (dC, dI) vwCl [(h0, .inr (2, [.ref q_row, .int v_size])), (q_row, .inl (cI, 4, .inl v_row))] H → va_D A [(h0, .inr (2, [.ref q_row, .int v_size])), (q_row, .inl (cI, 4, .inl v_row))] → va_S A s.heap H locs → lv_has ls 3 [(0, .ref h0), (1, .int x1), (2, .int x2)] → fX2_fillByNumbers_L7 N x1 n x2 v_size v_row = some (w_size, w_row) → W p l e (headSpec wsX2_fillByNumbers ({ frames := 1, cells := 0, slots := 0, locals := 21 })).room s m args below meth c H locs 0 0 (MQ below (va_Qv (fun _ : Unit => True) (fun _ t => va_P (dC, dI) vwCl [(h0, .inr (2, [.ref q_row, .int w_size])), (q_row, .inl (cI, 4, .inl w_row))] t.heap ∧ va_D A [(h0, .inr (2, [.ref q_row, .int w_size])), (q_row, .inl (cI, 4, .inl w_row))]) A) args s 0 0 A) (F0 m 7 ls []) := by
  intro n
  induction n with
  | zero =>
    intro x2 v_size v_row H locs ls hP hD hS hl hf
    exact nomatch (show (none : Option (Int32 × (Nat → Int32))) = some (w_size, w_row) from hf)
  | succ n ih =>
    intro x2 v_size v_row H locs ls hP hD hS hl hf
    rw [fX2_fillByNumbers_L7] at hf
    refine lv_iload_n hx hb dX2_fillByNumbers_7 rfl (lv_at hl 2 rfl) ?_
    refine lv_iload_n hx hb dX2_fillByNumbers_8 rfl (lv_at hl 1 rfl) ?_
    refine lv_icmp_ge (tgt := 23) hx hb dX2_fillByNumbers_9 (by decide) (fun h_1 => ?_) (fun h_1 => ?_)
    · have hf := it_t h_1 hf
      cases hf
      exact W.vret hx hb hr (fun t ht hW => ⟨⟨(), rfl, trivial, by rw [ht]; exact hP, hD⟩, hS.F ht⟩) hS.2.2 dX2_fillByNumbers_23
    · have hf := it_f h_1 hf
      refine lv_aload_n hx hb dX2_fillByNumbers_12 rfl (lv_at hl 0 rfl) ?_
      refine lv_iload_n hx hb dX2_fillByNumbers_13 rfl (lv_at hl 2 rfl) ?_
      obtain ⟨o_2_size, o_2_row, hu_2, hf⟩ := it_b2 hf
      have hPc := hP.sub (ws' := [(h0, .inr (2, [.ref q_row, .int v_size])), (q_row, .inl (cI, 4, .inl v_row))]) [0, 1] rfl
      have hDc := hD.sub (ws' := [(h0, .inr (2, [.ref q_row, .int v_size])), (q_row, .inl (cI, 4, .inl v_row))]) [0, 1] (by decide) rfl
      have hFc := va_free (wc := [(h0, .inr (2, [.ref q_row, .int v_size])), (q_row, .inl (cI, 4, .inl v_row))]) hD hS hA [0, 1] rfl
      refine va_callv (va_runV (As := [.int x2]) (rest := []) ⟨hx, hb, hml, hown, hts⟩ (tX2_join l dC dI cI cZ cJ cA H.size h0 q_row v_size v_row x2 N o_2_size o_2_row hu_2) (cwV 1 hts gX2_fillByNumbers_X2_join rfl rfl rfl (by decide +kernel) ⟨Nat.le_of_ble_eq_true rfl, Nat.le_of_ble_eq_true rfl⟩) ⟨fun a U g mk q => by obtain ⟨q0, q1, qP, qK, qD⟩ := q; exact ⟨q0, q1, qP, va_K.moved (u := U) (U := U.calling g mk a) (Vm.Alike.refl U.vm) qK, qD⟩, va_recv hK hPc (ci := 2) (q0 := 0) rfl rfl, fun U hU hW => ⟨rfl, by rw [hU], by rw [hU]; exact hPc, va_K.moved hW.alike hK, hDc.weaken (fun _ _ _ _ => trivial)⟩⟩ rfl rfl hl.1 rfl (lv_room (Nat.le_of_ble_eq_true rfl)) dX2_fillByNumbers_14 ⟨Nat.zero_le _, Nat.zero_le _⟩) hS (fun q _ h => hFc q h) hFc (fun u t H1 locs ht hvm hw hB hz1 hk1 hS => ?_)
      obtain ⟨hP1, hD1⟩ := hB
      rw [ht] at hP1
      obtain ⟨hP, hD⟩ := va_join (wr := []) (w1 := [(h0, .inr (2, [.ref q_row, .int o_2_size])), (q_row, .inl (cI, 4, .inl o_2_row))]) hP hD [0, 1] [] rfl rfl (by decide) (by decide) hk1 hFc hP1 hD1
      clear hP1 hD1 hk1 hz1 hPc hDc hFc
      generalize H1 = H at hP hS ⊢
      have hP : va_P (dC, dI) vwCl [(h0, .inr (2, [.ref q_row, .int o_2_size])), (q_row, .inl (cI, 4, .inl o_2_row))] H := hP
      have hD : va_D A [(h0, .inr (2, [.ref q_row, .int o_2_size])), (q_row, .inl (cI, 4, .inl o_2_row))] := hD
      refine lv_iinc (v := x2 + 1) (lv' := [(2, .int (x2 + 1)), (0, .ref h0), (1, .int x1)]) hx hb dX2_fillByNumbers_17 hl (k := 2) rfl rfl (by decide) rfl (fun ls hl => ?_)
      refine lv_goto (tgt := 7) hx hb dX2_fillByNumbers_20 (by decide) ?_
      exact ih (x2 + 1) o_2_size o_2_row H locs ls hP hD hS (lv_sub hl [1, 2, 0] rfl) hf
set_option maxHeartbeats 4000000 in
set_option maxRecDepth 100000 in
theorem tX2_fillByNumbers (l : Launch) (dC : Nat → ClassId) (dI : Nat → Nat → Nat) (cI cZ cJ cA : ClassId) (sz : Nat) (h0 : Nat) (q_row : Nat) (v_size : Int32) (v_row : Nat → Int32) (x1 : Int32) (N : Nat) (w_size : Int32) (w_row : (Nat → Int32)) (hf : fX2_fillByNumbers N x1 v_size v_row = some (w_size, w_row)) : Met l yX2_fillByNumbers wsX2_fillByNumbers ({ frames := 1, cells := 0, slots := 0, locals := 21 }) (va_Pc [.ref h0, .int x1] (fun U => U.heap.size = sz ∧ va_P (dC, dI) vwCl [(h0, .inr (2, [.ref q_row, .int v_size])), (q_row, .inl (cI, 4, .inl v_row))] U.heap ∧ va_K (dC, dI) vwCl [(cI, .int), (cZ, .boolean), (cJ, .long), (cA, .array .long)] U ∧ va_D (fun _ => True) [(h0, .inr (2, [.ref q_row, .int v_size])), (q_row, .inl (cI, 4, .inl v_row))])) (va_Qv (fun _ : Unit => True) (fun _ t => va_P (dC, dI) vwCl [(h0, .inr (2, [.ref q_row, .int w_size])), (q_row, .inl (cI, 4, .inl w_row))] t.heap ∧ va_D (va_A [(h0, .inr (2, [.ref q_row, .int v_size])), (q_row, .inl (cI, 4, .inl v_row))] sz) [(h0, .inr (2, [.ref q_row, .int w_size])), (q_row, .inl (cI, 4, .inl w_row))]) (va_A [(h0, .inr (2, [.ref q_row, .int v_size])), (q_row, .inl (cI, 4, .inl v_row))] sz)) 0 0 (va_A [(h0, .inr (2, [.ref q_row, .int v_size])), (q_row, .inl (cI, 4, .inl v_row))] sz) := by
  refine Met.ofW (cc := cX2_fillByNumbers) (maxL := 3) (ret := none) (by decide) rfl ?_
  intro p e s m args below meth c s₁ B hml hv
  obtain ⟨rfl, hsz, hP, hK, hD0⟩ := hv
  have hx := B.exec
  have hb := B.bytes
  have hr := B.returns
  have hts := atoms_spec (ws := wsX2_fillByNumbers) B.pre
  have hown : s.vm.findClass RX2 = some m.cls := findClass_of_methodNamed B.named
  have hlocks := B.notSynchronized
  subst hsz
  have hD := hD0.self (sz := s.heap.size)
  generalize hAe : va_A [(h0, .inr (2, [.ref q_row, .int v_size])), (q_row, .inl (cI, 4, .inl v_row))] s.heap.size = A at hD ⊢
  have hA : ∀ q : Nat, s.heap.size ≤ q → A q := fun q h => by rw [← hAe]; exact Or.inr h
  have hS : va_S A s.heap s.heap [] := va_S.rf
  have hl := lv_entry ([.ref h0, .int x1]) (n := 3) (Nat.le_of_ble_eq_true rfl)
  rw [lg_entry_eq]
  generalize (lg_sl ([.ref h0, .int x1]) ++ List.replicate (3 - (lg_sl ([.ref h0, .int x1])).length) Slot.unset).toArray = ls at hl ⊢
  have hl : lv_has ls 3 [(0, .ref h0), (1, .int x1)] := hl
  refine vx_gen hP hS (fun H locs hP hS => ?_)
  unfold fX2_fillByNumbers at hf
  refine lv_aload_n hx hb dX2_fillByNumbers_0 rfl (lv_at hl 0 rfl) ?_
  refine lv_iconst (v := 0) hx hb dX2_fillByNumbers_1 (by decide) ?_
  refine va_put (D := (dC, dI)) (ci := 2) (v := .int 0) (ty := .int) (C := RX2) (T := TX2) (N := 2) hx hb hts iw_X2_fillByNumbers_X2 tyX2 tyX2_ok nmX2 hown hK hP hD hS 0 rfl rfl 1 (by decide) (hts (.fieldLink RX2 15 "HeatBench$Line" "size" "I") (List.mem_of_getElem? (i := 1) rfl)) (fun _ h9 => h9) rfl (by decide +kernel) rfl rfl (Nat.le_of_ble_eq_true rfl) dX2_fillByNumbers_2 (fun H locs hP hD hS => ?_)
  have hP : va_P (dC, dI) vwCl [(h0, .inr (2, [.ref q_row, .int 0])), (q_row, .inl (cI, 4, .inl v_row))] H := hP
  have hD : va_D A [(h0, .inr (2, [.ref q_row, .int 0])), (q_row, .inl (cI, 4, .inl v_row))] := hD
  refine lv_iconst (v := 0) hx hb dX2_fillByNumbers_5 (by decide) ?_
  refine lv_istore_n (lv' := [(2, .int 0), (0, .ref h0), (1, .int x1)]) hx hb dX2_fillByNumbers_6 rfl hl (by decide) rfl (fun ls hl => ?_)
  exact wX2_fillByNumbers_L7 hx hb hr hml hown hts hlocks hA hK N 0 0 v_row H locs ls hP hD hS (lv_sub hl [1, 2, 0] rfl) hf
/-! X2_positionOf -/
theorem iw_X2_positionOf_X2 : ∀ w ∈ wsX20, w ∈ wsX2_positionOf := by decide +kernel
set_option maxHeartbeats 4000000 in
set_option maxRecDepth 100000 in
theorem wX2_positionOf_L2 {p : Program} {l : Launch} {e : Env} {s : State} {m : MethodId} {args : Array Value} {below : List Frame} {meth : Method} {c : Code} {dC : Nat → ClassId} {dI : Nat → Nat → Nat} {cI cZ cJ cA : ClassId} {A : Nat → Prop} {h0 : Nat} {q_row : Nat} {v_size : Int32} {v_row : Nat → Int32} {x1 : Int32} {r0 : Int32} {N : Nat}  (hx : p.tables.exec = Jvm.exec) (hb : c.code = cX2_positionOf) (hr : meth.sig.returnType = (some .int)) (hml : c.maxLocals = 3) (hown : s.vm.findClass RX2 = some m.cls) (hts : ∀ w ∈ wsX2_positionOf, w.before args s = true) (hlocks : meth.locks = false) (hA : ∀ q : Nat, s.heap.size ≤ q → A q) (hK : va_K (dC, dI) vwCl [(cI, .int), (cZ, .boolean), (cJ, .long), (cA, .array .long)] s) : ∀ (n : Nat) (x2 : Int32) (H : Heap) (locs : List Loc) (ls : Array Slot), va_P (dC, dI) vwCl [(h0, .inr (2, [.ref q_row, .int v_size])), (q_row, .inl (cI, 4, .inl v_row))] H → va_D A [(h0, .inr (2, [.ref q_row, .int v_size])), (q_row, .inl (cI, 4, .inl v_row))] → va_S A s.heap H locs → lv_has ls 3 [(0, .ref h0), (1, .int x1), (2, .int x2)] → fX2_positionOf_L2 N x1 v_size v_row n x2 = some r0 → W p l e (headSpec wsX2_positionOf ({ frames := 0, cells := 0, slots := 0, locals := 0 })).room s m args below meth c H locs 0 0 (MQ below (va_Qi (fun (r9 : Int32) (_ : Unit) => r0 = r9) (fun _ t => va_P (dC, dI) vwCl [(h0, .inr (2, [.ref q_row, .int v_size])), (q_row, .inl (cI, 4, .inl v_row))] t.heap ∧ va_D A [(h0, .inr (2, [.ref q_row, .int v_size])), (q_row, .inl (cI, 4, .inl v_row))]) A) args s 0 0 A) (F0 m 2 ls []) := by
  intro n
  induction n with
  | zero =>
    intro x2 H locs ls hP hD hS hl hf
    exact nomatch (show (none : Option (Int32)) = some r0 from hf)
  | succ n ih =>
    intro x2 H locs ls hP hD hS hl hf
    rw [fX2_positionOf_L2] at hf
    refine lv_iload_n hx hb dX2_positionOf_2 rfl (lv_at hl 2 rfl) ?_
    refine lv_aload_n hx hb dX2_positionOf_3 rfl (lv_at hl 0 rfl) ?_
    refine va_get (D := (dC, dI)) (ci := 2) (v := .int v_size) (C := RX2) (T := TX2) (N := 2) hx hb hts iw_X2_positionOf_X2 hown hK hP 0 rfl rfl 1 (by decide) (hts (.fieldLink RX2 15 "HeatBench$Line" "size" "I") (List.mem_of_getElem? (i := 1) rfl)) (fun _ h9 => h9) rfl dX2_positionOf_4 ?_
    refine lv_icmp_ge (tgt := 28) hx hb dX2_positionOf_7 (by decide) (fun h_1 => ?_) (fun h_1 => ?_)
    · have hf := it_t h_1 hf
      refine lv_aload_n hx hb dX2_positionOf_28 rfl (lv_at hl 0 rfl) ?_
      refine va_get (D := (dC, dI)) (ci := 2) (v := .int v_size) (C := RX2) (T := TX2) (N := 2) hx hb hts iw_X2_positionOf_X2 hown hK hP 0 rfl rfl 1 (by decide) (hts (.fieldLink RX2 15 "HeatBench$Line" "size" "I") (List.mem_of_getElem? (i := 1) rfl)) (fun _ h9 => h9) rfl dX2_positionOf_29 ?_
      cases hf
      exact W.iret hx hb hr (fun t ht hW => ⟨⟨_, (), rfl, rfl, by rw [ht]; exact hP, hD⟩, hS.F ht⟩) hS.2.2 dX2_positionOf_32
    · have hf := it_f h_1 hf
      refine lv_aload_n hx hb dX2_positionOf_10 rfl (lv_at hl 0 rfl) ?_
      refine va_get (D := (dC, dI)) (ci := 2) (v := .ref q_row) (C := RX2) (T := TX2) (N := 2) hx hb hts iw_X2_positionOf_X2 hown hK hP 0 rfl rfl 0 (by decide) (hts (.fieldLink RX2 9 "HeatBench$Line" "row" "[I") (List.mem_of_getElem? (i := 2) rfl)) (fun _ h9 => h9) rfl dX2_positionOf_11 ?_
      refine lv_iload_n hx hb dX2_positionOf_14 rfl (lv_at hl 2 rfl) ?_
      obtain ⟨h_2, hf⟩ := it_n hf
      refine va_iald hx hb hK hP 1 0 rfl rfl h_2 dX2_positionOf_15 ?_
      refine lv_iload_n hx hb dX2_positionOf_16 rfl (lv_at hl 1 rfl) ?_
      refine lv_icmp_ne (tgt := 22) hx hb dX2_positionOf_17 (by decide) (fun h_3 => ?_) (fun h_3 => ?_)
      · have hf := it_f h_3 hf
        refine lv_iinc (v := x2 + 1) (lv' := [(2, .int (x2 + 1)), (0, .ref h0), (1, .int x1)]) hx hb dX2_positionOf_22 hl (k := 2) rfl rfl (by decide) rfl (fun ls hl => ?_)
        refine lv_goto (tgt := 2) hx hb dX2_positionOf_25 (by decide) ?_
        exact ih (x2 + 1) H locs ls hP hD hS (lv_sub hl [1, 2, 0] rfl) hf
      · have hf := it_t h_3 hf
        refine lv_iload_n hx hb dX2_positionOf_20 rfl (lv_at hl 2 rfl) ?_
        cases hf
        exact W.iret hx hb hr (fun t ht hW => ⟨⟨_, (), rfl, rfl, by rw [ht]; exact hP, hD⟩, hS.F ht⟩) hS.2.2 dX2_positionOf_21
set_option maxHeartbeats 4000000 in
set_option maxRecDepth 100000 in
theorem tX2_positionOf (l : Launch) (dC : Nat → ClassId) (dI : Nat → Nat → Nat) (cI cZ cJ cA : ClassId) (sz : Nat) (h0 : Nat) (q_row : Nat) (v_size : Int32) (v_row : Nat → Int32) (x1 : Int32) (N : Nat) (r0 : Int32) (hf : fX2_positionOf N x1 v_size v_row = some r0) : Met l yX2_positionOf wsX2_positionOf ({ frames := 0, cells := 0, slots := 0, locals := 0 }) (va_Pc [.ref h0, .int x1] (fun U => U.heap.size = sz ∧ va_P (dC, dI) vwCl [(h0, .inr (2, [.ref q_row, .int v_size])), (q_row, .inl (cI, 4, .inl v_row))] U.heap ∧ va_K (dC, dI) vwCl [(cI, .int), (cZ, .boolean), (cJ, .long), (cA, .array .long)] U ∧ va_D (fun _ => True) [(h0, .inr (2, [.ref q_row, .int v_size])), (q_row, .inl (cI, 4, .inl v_row))])) (va_Qi (fun (r9 : Int32) (_ : Unit) => r0 = r9) (fun _ t => va_P (dC, dI) vwCl [(h0, .inr (2, [.ref q_row, .int v_size])), (q_row, .inl (cI, 4, .inl v_row))] t.heap ∧ va_D (va_A [(h0, .inr (2, [.ref q_row, .int v_size])), (q_row, .inl (cI, 4, .inl v_row))] sz) [(h0, .inr (2, [.ref q_row, .int v_size])), (q_row, .inl (cI, 4, .inl v_row))]) (va_A [(h0, .inr (2, [.ref q_row, .int v_size])), (q_row, .inl (cI, 4, .inl v_row))] sz)) 0 0 (va_A [(h0, .inr (2, [.ref q_row, .int v_size])), (q_row, .inl (cI, 4, .inl v_row))] sz) := by
  refine Met.ofW (cc := cX2_positionOf) (maxL := 3) (ret := (some .int)) (by decide) rfl ?_
  intro p e s m args below meth c s₁ B hml hv
  obtain ⟨rfl, hsz, hP, hK, hD0⟩ := hv
  have hx := B.exec
  have hb := B.bytes
  have hr := B.returns
  have hts := atoms_spec (ws := wsX2_positionOf) B.pre
  have hown : s.vm.findClass RX2 = some m.cls := findClass_of_methodNamed B.named
  have hlocks := B.notSynchronized
  subst hsz
  have hD := hD0.self (sz := s.heap.size)
  generalize hAe : va_A [(h0, .inr (2, [.ref q_row, .int v_size])), (q_row, .inl (cI, 4, .inl v_row))] s.heap.size = A at hD ⊢
  have hA : ∀ q : Nat, s.heap.size ≤ q → A q := fun q h => by rw [← hAe]; exact Or.inr h
  have hS : va_S A s.heap s.heap [] := va_S.rf
  have hl := lv_entry ([.ref h0, .int x1]) (n := 3) (Nat.le_of_ble_eq_true rfl)
  rw [lg_entry_eq]
  generalize (lg_sl ([.ref h0, .int x1]) ++ List.replicate (3 - (lg_sl ([.ref h0, .int x1])).length) Slot.unset).toArray = ls at hl ⊢
  have hl : lv_has ls 3 [(0, .ref h0), (1, .int x1)] := hl
  refine vx_gen hP hS (fun H locs hP hS => ?_)
  unfold fX2_positionOf at hf
  refine lv_iconst (v := 0) hx hb dX2_positionOf_0 (by decide) ?_
  refine lv_istore_n (lv' := [(2, .int 0), (0, .ref h0), (1, .int x1)]) hx hb dX2_positionOf_1 rfl hl (by decide) rfl (fun ls hl => ?_)
  exact wX2_positionOf_L2 hx hb hr hml hown hts hlocks hA hK N 0 H locs ls hP hD hS (lv_sub hl [1, 2, 0] rfl) hf
/-! X2_holds -/
theorem iw_X2_holds_X2 : ∀ w ∈ wsX20, w ∈ wsX2_holds := by decide +kernel
set_option maxHeartbeats 4000000 in
set_option maxRecDepth 100000 in
theorem tX2_holds (l : Launch) (dC : Nat → ClassId) (dI : Nat → Nat → Nat) (cI cZ cJ cA : ClassId) (sz : Nat) (h0 : Nat) (q_row : Nat) (v_size : Int32) (v_row : Nat → Int32) (x1 : Int32) (N : Nat) (r0 : Int32) (hf : fX2_holds N x1 v_size v_row = some r0) : Met l yX2_holds wsX2_holds ({ frames := 1, cells := 0, slots := 0, locals := 22 }) (va_Pc [.ref h0, .int x1] (fun U => U.heap.size = sz ∧ va_P (dC, dI) vwCl [(h0, .inr (2, [.ref q_row, .int v_size])), (q_row, .inl (cI, 4, .inl v_row))] U.heap ∧ va_K (dC, dI) vwCl [(cI, .int), (cZ, .boolean), (cJ, .long), (cA, .array .long)] U ∧ va_D (fun _ => True) [(h0, .inr (2, [.ref q_row, .int v_size])), (q_row, .inl (cI, 4, .inl v_row))])) (va_Qi (fun (r9 : Int32) (_ : Unit) => r0 = r9) (fun _ t => va_P (dC, dI) vwCl [(h0, .inr (2, [.ref q_row, .int v_size])), (q_row, .inl (cI, 4, .inl v_row))] t.heap ∧ va_D (va_A [(h0, .inr (2, [.ref q_row, .int v_size])), (q_row, .inl (cI, 4, .inl v_row))] sz) [(h0, .inr (2, [.ref q_row, .int v_size])), (q_row, .inl (cI, 4, .inl v_row))]) (va_A [(h0, .inr (2, [.ref q_row, .int v_size])), (q_row, .inl (cI, 4, .inl v_row))] sz)) 0 0 (va_A [(h0, .inr (2, [.ref q_row, .int v_size])), (q_row, .inl (cI, 4, .inl v_row))] sz) := by
  refine Met.ofW (cc := cX2_holds) (maxL := 2) (ret := (some .boolean)) (by decide) rfl ?_
  intro p e s m args below meth c s₁ B hml hv
  obtain ⟨rfl, hsz, hP, hK, hD0⟩ := hv
  have hx := B.exec
  have hb := B.bytes
  have hr := B.returns
  have hts := atoms_spec (ws := wsX2_holds) B.pre
  have hown : s.vm.findClass RX2 = some m.cls := findClass_of_methodNamed B.named
  have hlocks := B.notSynchronized
  subst hsz
  have hD := hD0.self (sz := s.heap.size)
  generalize hAe : va_A [(h0, .inr (2, [.ref q_row, .int v_size])), (q_row, .inl (cI, 4, .inl v_row))] s.heap.size = A at hD ⊢
  have hA : ∀ q : Nat, s.heap.size ≤ q → A q := fun q h => by rw [← hAe]; exact Or.inr h
  have hS : va_S A s.heap s.heap [] := va_S.rf
  have hl := lv_entry ([.ref h0, .int x1]) (n := 2) (Nat.le_of_ble_eq_true rfl)
  rw [lg_entry_eq]
  generalize (lg_sl ([.ref h0, .int x1]) ++ List.replicate (2 - (lg_sl ([.ref h0, .int x1])).length) Slot.unset).toArray = ls at hl ⊢
  have hl : lv_has ls 2 [(0, .ref h0), (1, .int x1)] := hl
  refine vx_gen hP hS (fun H locs hP hS => ?_)
  unfold fX2_holds at hf
  refine lv_aload_n hx hb dX2_holds_0 rfl (lv_at hl 0 rfl) ?_
  refine lv_iload_n hx hb dX2_holds_1 rfl (lv_at hl 1 rfl) ?_
  obtain ⟨r_1, hu_1, hf⟩ := it_b1 hf
  have hPc := hP.sub (ws' := [(h0, .inr (2, [.ref q_row, .int v_size])), (q_row, .inl (cI, 4, .inl v_row))]) [0, 1] rfl
  have hDc := hD.sub (ws' := [(h0, .inr (2, [.ref q_row, .int v_size])), (q_row, .inl (cI, 4, .inl v_row))]) [0, 1] (by decide) rfl
  have hFc := va_free (wc := [(h0, .inr (2, [.ref q_row, .int v_size])), (q_row, .inl (cI, 4, .inl v_row))]) hD hS hA [0, 1] rfl
  refine va_calli (va_runV (As := [.int x1]) (rest := []) ⟨hx, hb, hml, hown, hts⟩ (tX2_positionOf l dC dI cI cZ cJ cA H.size h0 q_row v_size v_row x1 N r_1 hu_1) (cwV 1 hts gX2_holds_X2_positionOf rfl rfl rfl (by decide +kernel) ⟨Nat.le_of_ble_eq_true rfl, Nat.le_of_ble_eq_true rfl⟩) ⟨fun a U g mk q => by obtain ⟨q0, q1, qP, qK, qD⟩ := q; exact ⟨q0, q1, qP, va_K.moved (u := U) (U := U.calling g mk a) (Vm.Alike.refl U.vm) qK, qD⟩, va_recv hK hPc (ci := 2) (q0 := 0) rfl rfl, fun U hU hW => ⟨rfl, by rw [hU], by rw [hU]; exact hPc, va_K.moved hW.alike hK, hDc.weaken (fun _ _ _ _ => trivial)⟩⟩ rfl rfl hl.1 rfl (lv_room (Nat.le_of_ble_eq_true rfl)) dX2_holds_2 ⟨Nat.zero_le _, Nat.zero_le _⟩) hS (fun q _ h => hFc q h) hFc (fun r9 u t H1 locs ht hvm hw hB hz1 hk1 hS => ?_)
  obtain ⟨hP1, hD1⟩ := hB
  rw [ht] at hP1
  obtain ⟨hP, hD⟩ := va_join (wr := []) (w1 := [(h0, .inr (2, [.ref q_row, .int v_size])), (q_row, .inl (cI, 4, .inl v_row))]) hP hD [0, 1] [] rfl rfl (by decide) (by decide) hk1 hFc hP1 hD1
  clear hP1 hD1 hk1 hz1 hPc hDc hFc
  generalize H1 = H at hP hS ⊢
  have hP : va_P (dC, dI) vwCl [(h0, .inr (2, [.ref q_row, .int v_size])), (q_row, .inl (cI, 4, .inl v_row))] H := hP
  have hD : va_D A [(h0, .inr (2, [.ref q_row, .int v_size])), (q_row, .inl (cI, 4, .inl v_row))] := hD
  subst hw
  refine lv_aload_n hx hb dX2_holds_5 rfl (lv_at hl 0 rfl) ?_
  refine va_get (D := (dC, dI)) (ci := 2) (v := .int v_size) (C := RX2) (T := TX2) (N := 2) hx hb hts iw_X2_holds_X2 hown hK hP 0 rfl rfl 1 (by decide) (hts (.fieldLink RX2 15 "HeatBench$Line" "size" "I") (List.mem_of_getElem? (i := 1) rfl)) (fun _ h9 => h9) rfl dX2_holds_6 ?_
  refine lv_icmp_ge (tgt := 16) hx hb dX2_holds_9 (by decide) (fun h_2 => ?_) (fun h_2 => ?_)
  · have hf := it_t h_2 hf
    refine lv_iconst (v := 0) hx hb dX2_holds_16 (by decide) ?_
    cases hf
    exact W.zret hx hb hr rfl (fun t ht hW => ⟨⟨_, (), rfl, rfl, by rw [ht]; exact hP, hD⟩, hS.F ht⟩) hS.2.2 dX2_holds_17
  · have hf := it_f h_2 hf
    refine lv_iconst (v := 1) hx hb dX2_holds_12 (by decide) ?_
    refine lv_goto (tgt := 17) hx hb dX2_holds_13 (by decide) ?_
    cases hf
    exact W.zret hx hb hr rfl (fun t ht hW => ⟨⟨_, (), rfl, rfl, by rw [ht]; exact hP, hD⟩, hS.F ht⟩) hS.2.2 dX2_holds_17
/-! X2_leave -/
theorem iw_X2_leave_X2 : ∀ w ∈ wsX20, w ∈ wsX2_leave := by decide +kernel
set_option maxHeartbeats 4000000 in
set_option maxRecDepth 100000 in
theorem wX2_leave_L4 {p : Program} {l : Launch} {e : Env} {s : State} {m : MethodId} {args : Array Value} {below : List Frame} {meth : Method} {c : Code} {dC : Nat → ClassId} {dI : Nat → Nat → Nat} {cI cZ cJ cA : ClassId} {A : Nat → Prop} {h0 : Nat} {q_row : Nat} {v_size : Int32} {x1 : Int32} {w_size : Int32} {w_row : (Nat → Int32)} {N : Nat}  (hx : p.tables.exec = Jvm.exec) (hb : c.code = cX2_leave) (hr : meth.sig.returnType = none) (hml : c.maxLocals = 4) (hown : s.vm.findClass RX2 = some m.cls) (hts : ∀ w ∈ wsX2_leave, w.before args s = true) (hlocks : meth.locks = false) (hA : ∀ q : Nat, s.heap.size ≤ q → A q) (hK : va_K (dC, dI) vwCl [(cI, .int), (cZ, .boolean), (cJ, .long), (cA, .array .long)] s) : ∀ (n : Nat) (x2 : Int32) (x3 : Int32) (v_row : Nat → Int32) (H : Heap) (locs : List Loc) (ls : Array Slot), va_P (dC, dI) vwCl [(h0, .inr (2, [.ref q_row, .int v_size])), (q_row, .inl (cI, 4, .inl v_row))] H → va_D A [(h0, .inr (2, [.ref q_row, .int v_size])), (q_row, .inl (cI, 4, .inl v_row))] → va_S A s.heap H locs → lv_has ls 4 [(0, .ref h0), (1, .int x1), (2, .int x2), (3, .int x3)] → fX2_leave_L4 N x1 v_size n x2 x3 v_row = some (w_size, w_row) → W p l e (headSpec wsX2_leave ({ frames := 0, cells := 0, slots := 0, locals := 0 })).room s m args below meth c H locs 0 0 (MQ below (va_Qv (fun _ : Unit => True) (fun _ t => va_P (dC, dI) vwCl [(h0, .inr (2, [.ref q_row, .int w_size])), (q_row, .inl (cI, 4, .inl w_row))] t.heap ∧ va_D A [(h0, .inr (2, [.ref q_row, .int w_size])), (q_row, .inl (cI, 4, .inl w_row))]) A) args s 0 0 A) (F0 m 4 ls []) := by
  intro n
  induction n with
  | zero =>
    intro x2 x3 v_row H locs ls hP hD hS hl hf
    exact nomatch (show (none : Option (Int32 × (Nat → Int32))) = some (w_size, w_row) from hf)
  | succ n ih =>
    intro x2 x3 v_row H locs ls hP hD hS hl hf
    rw [fX2_leave_L4] at hf
    refine lv_iload_n hx hb dX2_leave_4 rfl (lv_at hl 3 rfl) ?_
    refine lv_aload_n hx hb dX2_leave_5 rfl (lv_at hl 0 rfl) ?_
    refine va_get (D := (dC, dI)) (ci := 2) (v := .int v_size) (C := RX2) (T := TX2) (N := 2) hx hb hts iw_X2_leave_X2 hown hK hP 0 rfl rfl 1 (by decide) (hts (.fieldLink RX2 15 "HeatBench$Line" "size" "I") (List.mem_of_getElem? (i := 1) rfl)) (fun _ h9 => h9) rfl dX2_leave_6 ?_
    refine lv_icmp_ge (tgt := 43) hx hb dX2_leave_9 (by decide) (fun h_1 => ?_) (fun h_1 => ?_)
    · have hf := it_t h_1 hf
      refine lv_aload_n hx hb dX2_leave_43 rfl (lv_at hl 0 rfl) ?_
      refine lv_iload_n hx hb dX2_leave_44 rfl (lv_at hl 2 rfl) ?_
      refine va_put (D := (dC, dI)) (ci := 2) (v := .int x2) (ty := .int) (C := RX2) (T := TX2) (N := 2) hx hb hts iw_X2_leave_X2 tyX2 tyX2_ok nmX2 hown hK hP hD hS 0 rfl rfl 1 (by decide) (hts (.fieldLink RX2 15 "HeatBench$Line" "size" "I") (List.mem_of_getElem? (i := 1) rfl)) (fun _ h9 => h9) rfl (by decide +kernel) rfl rfl (Nat.le_of_ble_eq_true rfl) dX2_leave_45 (fun H locs hP hD hS => ?_)
      have hP : va_P (dC, dI) vwCl [(h0, .inr (2, [.ref q_row, .int x2])), (q_row, .inl (cI, 4, .inl v_row))] H := hP
      have hD : va_D A [(h0, .inr (2, [.ref q_row, .int x2])), (q_row, .inl (cI, 4, .inl v_row))] := hD
      cases hf
      exact W.vret hx hb hr (fun t ht hW => ⟨⟨(), rfl, trivial, by rw [ht]; exact hP, hD⟩, hS.F ht⟩) hS.2.2 dX2_leave_48
    · have hf := it_f h_1 hf
      refine lv_aload_n hx hb dX2_leave_12 rfl (lv_at hl 0 rfl) ?_
      refine va_get (D := (dC, dI)) (ci := 2) (v := .ref q_row) (C := RX2) (T := TX2) (N := 2) hx hb hts iw_X2_leave_X2 hown hK hP 0 rfl rfl 0 (by decide) (hts (.fieldLink RX2 9 "HeatBench$Line" "row" "[I") (List.mem_of_getElem? (i := 2) rfl)) (fun _ h9 => h9) rfl dX2_leave_13 ?_
      refine lv_iload_n hx hb dX2_leave_16 rfl (lv_at hl 3 rfl) ?_
      obtain ⟨h_2, hf⟩ := it_n hf
      refine va_iald hx hb hK hP 1 0 rfl rfl h_2 dX2_leave_17 ?_
      refine lv_iload_n hx hb dX2_leave_18 rfl (lv_at hl 1 rfl) ?_
      refine lv_icmp_eq (tgt := 37) hx hb dX2_leave_19 (by decide) (fun h_3 => ?_) (fun h_3 => ?_)
      · have hf := it_t h_3 hf
        refine lv_iinc (v := x3 + 1) (lv' := [(3, .int (x3 + 1)), (0, .ref h0), (1, .int x1), (2, .int x2)]) hx hb dX2_leave_37 hl (k := 3) rfl rfl (by decide) rfl (fun ls hl => ?_)
        refine lv_goto (tgt := 4) hx hb dX2_leave_40 (by decide) ?_
        exact ih x2 (x3 + 1) v_row H locs ls hP hD hS (lv_sub hl [1, 2, 3, 0] rfl) hf
      · have hf := it_f h_3 hf
        refine lv_aload_n hx hb dX2_leave_22 rfl (lv_at hl 0 rfl) ?_
        refine va_get (D := (dC, dI)) (ci := 2) (v := .ref q_row) (C := RX2) (T := TX2) (N := 2) hx hb hts iw_X2_leave_X2 hown hK hP 0 rfl rfl 0 (by decide) (hts (.fieldLink RX2 9 "HeatBench$Line" "row" "[I") (List.mem_of_getElem? (i := 2) rfl)) (fun _ h9 => h9) rfl dX2_leave_23 ?_
        refine lv_iload_n hx hb dX2_leave_26 rfl (lv_at hl 2 rfl) ?_
        refine lv_aload_n hx hb dX2_leave_27 rfl (lv_at hl 0 rfl) ?_
        refine va_get (D := (dC, dI)) (ci := 2) (v := .ref q_row) (C := RX2) (T := TX2) (N := 2) hx hb hts iw_X2_leave_X2 hown hK hP 0 rfl rfl 0 (by decide) (hts (.fieldLink RX2 9 "HeatBench$Line" "row" "[I") (List.mem_of_getElem? (i := 2) rfl)) (fun _ h9 => h9) rfl dX2_leave_28 ?_
        refine lv_iload_n hx hb dX2_leave_31 rfl (lv_at hl 3 rfl) ?_
        refine va_iald hx hb hK hP 1 0 rfl rfl h_2 dX2_leave_32 ?_
        obtain ⟨h_4, hf⟩ := it_n hf
        refine va_iast hx hb hK hP hD hS 1 0 rfl rfl h_4 dX2_leave_33 (fun H locs hP hD hS => ?_)
        have hP : va_P (dC, dI) vwCl [(h0, .inr (2, [.ref q_row, .int v_size])), (q_row, .inl (cI, 4, .inl (upd v_row x2.toNatClampNeg (v_row x3.toNatClampNeg))))] H := hP
        have hD : va_D A [(h0, .inr (2, [.ref q_row, .int v_size])), (q_row, .inl (cI, 4, .inl (upd v_row x2.toNatClampNeg (v_row x3.toNatClampNeg))))] := hD
        refine lv_iinc (v := x2 + 1) (lv' := [(2, .int (x2 + 1)), (0, .ref h0), (1, .int x1), (3, .int x3)]) hx hb dX2_leave_34 hl (k := 2) rfl rfl (by decide) rfl (fun ls hl => ?_)
        refine lv_iinc (v := x3 + 1) (lv' := [(3, .int (x3 + 1)), (2, .int (x2 + 1)), (0, .ref h0), (1, .int x1)]) hx hb dX2_leave_37 hl (k := 3) rfl rfl (by decide) rfl (fun ls hl => ?_)
        refine lv_goto (tgt := 4) hx hb dX2_leave_40 (by decide) ?_
        exact ih (x2 + 1) (x3 + 1) (upd v_row x2.toNatClampNeg (v_row x3.toNatClampNeg)) H locs ls hP hD hS (lv_sub hl [2, 3, 1, 0] rfl) hf
set_option maxHeartbeats 4000000 in
set_option maxRecDepth 100000 in
theorem tX2_leave (l : Launch) (dC : Nat → ClassId) (dI : Nat → Nat → Nat) (cI cZ cJ cA : ClassId) (sz : Nat) (h0 : Nat) (q_row : Nat) (v_size : Int32) (v_row : Nat → Int32) (x1 : Int32) (N : Nat) (w_size : Int32) (w_row : (Nat → Int32)) (hf : fX2_leave N x1 v_size v_row = some (w_size, w_row)) : Met l yX2_leave wsX2_leave ({ frames := 0, cells := 0, slots := 0, locals := 0 }) (va_Pc [.ref h0, .int x1] (fun U => U.heap.size = sz ∧ va_P (dC, dI) vwCl [(h0, .inr (2, [.ref q_row, .int v_size])), (q_row, .inl (cI, 4, .inl v_row))] U.heap ∧ va_K (dC, dI) vwCl [(cI, .int), (cZ, .boolean), (cJ, .long), (cA, .array .long)] U ∧ va_D (fun _ => True) [(h0, .inr (2, [.ref q_row, .int v_size])), (q_row, .inl (cI, 4, .inl v_row))])) (va_Qv (fun _ : Unit => True) (fun _ t => va_P (dC, dI) vwCl [(h0, .inr (2, [.ref q_row, .int w_size])), (q_row, .inl (cI, 4, .inl w_row))] t.heap ∧ va_D (va_A [(h0, .inr (2, [.ref q_row, .int v_size])), (q_row, .inl (cI, 4, .inl v_row))] sz) [(h0, .inr (2, [.ref q_row, .int w_size])), (q_row, .inl (cI, 4, .inl w_row))]) (va_A [(h0, .inr (2, [.ref q_row, .int v_size])), (q_row, .inl (cI, 4, .inl v_row))] sz)) 0 0 (va_A [(h0, .inr (2, [.ref q_row, .int v_size])), (q_row, .inl (cI, 4, .inl v_row))] sz) := by
  refine Met.ofW (cc := cX2_leave) (maxL := 4) (ret := none) (by decide) rfl ?_
  intro p e s m args below meth c s₁ B hml hv
  obtain ⟨rfl, hsz, hP, hK, hD0⟩ := hv
  have hx := B.exec
  have hb := B.bytes
  have hr := B.returns
  have hts := atoms_spec (ws := wsX2_leave) B.pre
  have hown : s.vm.findClass RX2 = some m.cls := findClass_of_methodNamed B.named
  have hlocks := B.notSynchronized
  subst hsz
  have hD := hD0.self (sz := s.heap.size)
  generalize hAe : va_A [(h0, .inr (2, [.ref q_row, .int v_size])), (q_row, .inl (cI, 4, .inl v_row))] s.heap.size = A at hD ⊢
  have hA : ∀ q : Nat, s.heap.size ≤ q → A q := fun q h => by rw [← hAe]; exact Or.inr h
  have hS : va_S A s.heap s.heap [] := va_S.rf
  have hl := lv_entry ([.ref h0, .int x1]) (n := 4) (Nat.le_of_ble_eq_true rfl)
  rw [lg_entry_eq]
  generalize (lg_sl ([.ref h0, .int x1]) ++ List.replicate (4 - (lg_sl ([.ref h0, .int x1])).length) Slot.unset).toArray = ls at hl ⊢
  have hl : lv_has ls 4 [(0, .ref h0), (1, .int x1)] := hl
  refine vx_gen hP hS (fun H locs hP hS => ?_)
  unfold fX2_leave at hf
  refine lv_iconst (v := 0) hx hb dX2_leave_0 (by decide) ?_
  refine lv_istore_n (lv' := [(2, .int 0), (0, .ref h0), (1, .int x1)]) hx hb dX2_leave_1 rfl hl (by decide) rfl (fun ls hl => ?_)
  refine lv_iconst (v := 0) hx hb dX2_leave_2 (by decide) ?_
  refine lv_istore_n (lv' := [(3, .int 0), (2, .int 0), (0, .ref h0), (1, .int x1)]) hx hb dX2_leave_3 rfl hl (by decide) rfl (fun ls hl => ?_)
  exact wX2_leave_L4 hx hb hr hml hown hts hlocks hA hK N 0 0 v_row H locs ls hP hD hS (lv_sub hl [2, 3, 1, 0] rfl) hf
