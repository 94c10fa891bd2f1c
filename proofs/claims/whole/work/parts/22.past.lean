/-! X3_add -/
theorem iw_X3_add_X3 : ∀ w ∈ wsX30, w ∈ wsX3_add := by decide +kernel
set_option maxHeartbeats 4000000 in
set_option maxRecDepth 100000 in
theorem tX3_add (l : Launch) (dC : Nat → ClassId) (dI : Nat → Nat → Nat) (cI cZ cJ cA : ClassId) (sz : Nat) (h0 : Nat) (q_scores : Nat) (v_size : Int32) (v_scores : Nat → Int32) (x1 : Int32) (N : Nat) (w_size : Int32) (w_scores : (Nat → Int32)) (hf : fX3_add N x1 v_size v_scores = some (w_size, w_scores)) : Met l yX3_add wsX3_add ({ frames := 0, cells := 0, slots := 0, locals := 0 }) (va_Pc [.ref h0, .int x1] (fun U => U.heap.size = sz ∧ va_P (dC, dI) vwCl [(h0, .inr (3, [.ref q_scores, .int v_size])), (q_scores, .inl (cI, 40, .inl v_scores))] U.heap ∧ va_K (dC, dI) vwCl [(cI, .int), (cZ, .boolean), (cJ, .long), (cA, .array .long)] U ∧ va_D (fun _ => True) [(h0, .inr (3, [.ref q_scores, .int v_size])), (q_scores, .inl (cI, 40, .inl v_scores))])) (va_Qv (fun _ : Unit => True) (fun _ t => va_P (dC, dI) vwCl [(h0, .inr (3, [.ref q_scores, .int w_size])), (q_scores, .inl (cI, 40, .inl w_scores))] t.heap ∧ va_D (va_A [(h0, .inr (3, [.ref q_scores, .int v_size])), (q_scores, .inl (cI, 40, .inl v_scores))] sz) [(h0, .inr (3, [.ref q_scores, .int w_size])), (q_scores, .inl (cI, 40, .inl w_scores))]) (va_A [(h0, .inr (3, [.ref q_scores, .int v_size])), (q_scores, .inl (cI, 40, .inl v_scores))] sz)) 0 0 (va_A [(h0, .inr (3, [.ref q_scores, .int v_size])), (q_scores, .inl (cI, 40, .inl v_scores))] sz) := by
  refine Met.ofW (cc := cX3_add) (maxL := 2) (ret := none) (by decide) rfl ?_
  intro p e s m args below meth c s₁ B hml hv
  obtain ⟨rfl, hsz, hP, hK, hD0⟩ := hv
  have hx := B.exec
  have hb := B.bytes
  have hr := B.returns
  have hts := atoms_spec (ws := wsX3_add) B.pre
  have hown : s.vm.findClass RX3 = some m.cls := findClass_of_methodNamed B.named
  have hlocks := B.notSynchronized
  subst hsz
  have hD := hD0.self (sz := s.heap.size)
  generalize hAe : va_A [(h0, .inr (3, [.ref q_scores, .int v_size])), (q_scores, .inl (cI, 40, .inl v_scores))] s.heap.size = A at hD ⊢
  have hA : ∀ q : Nat, s.heap.size ≤ q → A q := fun q h => by rw [← hAe]; exact Or.inr h
  have hS : va_S A s.heap s.heap [] := va_S.rf
  have hl := lv_entry ([.ref h0, .int x1]) (n := 2) (Nat.le_of_ble_eq_true rfl)
  rw [lg_entry_eq]
  generalize (lg_sl ([.ref h0, .int x1]) ++ List.replicate (2 - (lg_sl ([.ref h0, .int x1])).length) Slot.unset).toArray = ls at hl ⊢
  have hl : lv_has ls 2 [(0, .ref h0), (1, .int x1)] := hl
  refine vx_gen hP hS (fun H locs hP hS => ?_)
  unfold fX3_add at hf
  refine lv_aload_n hx hb dX3_add_0 rfl (lv_at hl 0 rfl) ?_
  refine va_get (D := (dC, dI)) (ci := 3) (v := .int v_size) (C := RX3) (T := TX3) (N := 2) hx hb hts iw_X3_add_X3 hown hK hP 0 rfl rfl 1 (by decide) (hts (.fieldLink RX3 15 "HeatBench$Past" "size" "I") (List.mem_of_getElem? (i := 1) rfl)) (fun _ h9 => h9) rfl dX3_add_1 ?_
  refine lv_bipush (v := 40) hx hb dX3_add_4 (by decide) ?_
  refine lv_icmp_ge (tgt := 29) hx hb dX3_add_6 (by decide) (fun h_1 => ?_) (fun h_1 => ?_)
  · have hf := it_t h_1 hf
    cases hf
    exact W.vret hx hb hr (fun t ht hW => ⟨⟨(), rfl, trivial, by rw [ht]; exact hP, hD⟩, hS.F ht⟩) hS.2.2 dX3_add_29
  · have hf := it_f h_1 hf
    refine lv_aload_n hx hb dX3_add_9 rfl (lv_at hl 0 rfl) ?_
    refine va_get (D := (dC, dI)) (ci := 3) (v := .ref q_scores) (C := RX3) (T := TX3) (N := 2) hx hb hts iw_X3_add_X3 hown hK hP 0 rfl rfl 0 (by decide) (hts (.fieldLink RX3 9 "HeatBench$Past" "scores" "[I") (List.mem_of_getElem? (i := 2) rfl)) (fun _ h9 => h9) rfl dX3_add_10 ?_
    refine lv_aload_n hx hb dX3_add_13 rfl (lv_at hl 0 rfl) ?_
    refine va_get (D := (dC, dI)) (ci := 3) (v := .int v_size) (C := RX3) (T := TX3) (N := 2) hx hb hts iw_X3_add_X3 hown hK hP 0 rfl rfl 1 (by decide) (hts (.fieldLink RX3 15 "HeatBench$Past" "size" "I") (List.mem_of_getElem? (i := 1) rfl)) (fun _ h9 => h9) rfl dX3_add_14 ?_
    refine lv_iload_n hx hb dX3_add_17 rfl (lv_at hl 1 rfl) ?_
    obtain ⟨h_2, hf⟩ := it_n hf
    refine va_iast hx hb hK hP hD hS 1 0 rfl rfl h_2 dX3_add_18 (fun H locs hP hD hS => ?_)
    have hP : va_P (dC, dI) vwCl [(h0, .inr (3, [.ref q_scores, .int v_size])), (q_scores, .inl (cI, 40, .inl (upd v_scores v_size.toNatClampNeg x1)))] H := hP
    have hD : va_D A [(h0, .inr (3, [.ref q_scores, .int v_size])), (q_scores, .inl (cI, 40, .inl (upd v_scores v_size.toNatClampNeg x1)))] := hD
    refine lv_aload_n hx hb dX3_add_19 rfl (lv_at hl 0 rfl) ?_
    refine lv_dup hx hb dX3_add_20 rfl ?_
    refine va_get (D := (dC, dI)) (ci := 3) (v := .int v_size) (C := RX3) (T := TX3) (N := 2) hx hb hts iw_X3_add_X3 hown hK hP 0 rfl rfl 1 (by decide) (hts (.fieldLink RX3 15 "HeatBench$Past" "size" "I") (List.mem_of_getElem? (i := 1) rfl)) (fun _ h9 => h9) rfl dX3_add_21 ?_
    refine lv_iconst (v := 1) hx hb dX3_add_24 (by decide) ?_
    refine lv_iadd hx hb dX3_add_25 ?_
    refine va_put (D := (dC, dI)) (ci := 3) (v := .int (v_size + 1)) (ty := .int) (C := RX3) (T := TX3) (N := 2) hx hb hts iw_X3_add_X3 tyX3 tyX3_ok nmX3 hown hK hP hD hS 0 rfl rfl 1 (by decide) (hts (.fieldLink RX3 15 "HeatBench$Past" "size" "I") (List.mem_of_getElem? (i := 1) rfl)) (fun _ h9 => h9) rfl (by decide +kernel) rfl rfl (Nat.le_of_ble_eq_true rfl) dX3_add_26 (fun H locs hP hD hS => ?_)
    have hP : va_P (dC, dI) vwCl [(h0, .inr (3, [.ref q_scores, .int (v_size + 1)])), (q_scores, .inl (cI, 40, .inl (upd v_scores v_size.toNatClampNeg x1)))] H := hP
    have hD : va_D A [(h0, .inr (3, [.ref q_scores, .int (v_size + 1)])), (q_scores, .inl (cI, 40, .inl (upd v_scores v_size.toNatClampNeg x1)))] := hD
    cases hf
    exact W.vret hx hb hr (fun t ht hW => ⟨⟨(), rfl, trivial, by rw [ht]; exact hP, hD⟩, hS.F ht⟩) hS.2.2 dX3_add_29
/-! X3_notBelow -/
theorem iw_X3_notBelow_X3 : ∀ w ∈ wsX30, w ∈ wsX3_notBelow := by decide +kernel
set_option maxHeartbeats 4000000 in
set_option maxRecDepth 100000 in
theorem wX3_notBelow_L4 {p : Program} {l : Launch} {e : Env} {s : State} {m : MethodId} {args : Array Value} {below : List Frame} {meth : Method} {c : Code} {dC : Nat → ClassId} {dI : Nat → Nat → Nat} {cI cZ cJ cA : ClassId} {A : Nat → Prop} {h0 : Nat} {q_scores : Nat} {v_size : Int32} {v_scores : Nat → Int32} {x1 : Int32} {r0 : Int32} {N : Nat}  (hx : p.tables.exec = Jvm.exec) (hb : c.code = cX3_notBelow) (hr : meth.sig.returnType = (some .int)) (hml : c.maxLocals = 4) (hown : s.vm.findClass RX3 = some m.cls) (hts : ∀ w ∈ wsX3_notBelow, w.before args s = true) (hlocks : meth.locks = false) (hA : ∀ q : Nat, s.heap.size ≤ q → A q) (hK : va_K (dC, dI) vwCl [(cI, .int), (cZ, .boolean), (cJ, .long), (cA, .array .long)] s) : ∀ (n : Nat) (x2 : Int32) (x3 : Int32) (H : Heap) (locs : List Loc) (ls : Array Slot), va_P (dC, dI) vwCl [(h0, .inr (3, [.ref q_scores, .int v_size])), (q_scores, .inl (cI, 40, .inl v_scores))] H → va_D A [(h0, .inr (3, [.ref q_scores, .int v_size])), (q_scores, .inl (cI, 40, .inl v_scores))] → va_S A s.heap H locs → lv_has ls 4 [(0, .ref h0), (1, .int x1), (2, .int x2), (3, .int x3)] → fX3_notBelow_L4 N x1 v_size v_scores n x2 x3 = some r0 → W p l e (headSpec wsX3_notBelow ({ frames := 0, cells := 0, slots := 0, locals := 0 })).room s m args below meth c H locs 0 0 (MQ below (va_Qi (fun (r9 : Int32) (_ : Unit) => r0 = r9) (fun _ t => va_P (dC, dI) vwCl [(h0, .inr (3, [.ref q_scores, .int v_size])), (q_scores, .inl (cI, 40, .inl v_scores))] t.heap ∧ va_D A [(h0, .inr (3, [.ref q_scores, .int v_size])), (q_scores, .inl (cI, 40, .inl v_scores))]) A) args s 0 0 A) (F0 m 4 ls []) := by
  intro n
  induction n with
  | zero =>
    intro x2 x3 H locs ls hP hD hS hl hf
    exact nomatch (show (none : Option (Int32)) = some r0 from hf)
  | succ n ih =>
    intro x2 x3 H locs ls hP hD hS hl hf
    rw [fX3_notBelow_L4] at hf
    refine lv_iload_n hx hb dX3_notBelow_4 rfl (lv_at hl 3 rfl) ?_
    refine lv_aload_n hx hb dX3_notBelow_5 rfl (lv_at hl 0 rfl) ?_
    refine va_get (D := (dC, dI)) (ci := 3) (v := .int v_size) (C := RX3) (T := TX3) (N := 2) hx hb hts iw_X3_notBelow_X3 hown hK hP 0 rfl rfl 1 (by decide) (hts (.fieldLink RX3 15 "HeatBench$Past" "size" "I") (List.mem_of_getElem? (i := 1) rfl)) (fun _ h9 => h9) rfl dX3_notBelow_6 ?_
    refine lv_icmp_ge (tgt := 31) hx hb dX3_notBelow_9 (by decide) (fun h_1 => ?_) (fun h_1 => ?_)
    · have hf := it_t h_1 hf
      refine lv_iload_n hx hb dX3_notBelow_31 rfl (lv_at hl 2 rfl) ?_
      cases hf
      exact W.iret hx hb hr (fun t ht hW => ⟨⟨_, (), rfl, rfl, by rw [ht]; exact hP, hD⟩, hS.F ht⟩) hS.2.2 dX3_notBelow_32
    · have hf := it_f h_1 hf
      refine lv_aload_n hx hb dX3_notBelow_12 rfl (lv_at hl 0 rfl) ?_
      refine va_get (D := (dC, dI)) (ci := 3) (v := .ref q_scores) (C := RX3) (T := TX3) (N := 2) hx hb hts iw_X3_notBelow_X3 hown hK hP 0 rfl rfl 0 (by decide) (hts (.fieldLink RX3 9 "HeatBench$Past" "scores" "[I") (List.mem_of_getElem? (i := 2) rfl)) (fun _ h9 => h9) rfl dX3_notBelow_13 ?_
      refine lv_iload_n hx hb dX3_notBelow_16 rfl (lv_at hl 3 rfl) ?_
      obtain ⟨h_2, hf⟩ := it_n hf
      refine va_iald hx hb hK hP 1 0 rfl rfl h_2 dX3_notBelow_17 ?_
      refine lv_iload_n hx hb dX3_notBelow_18 rfl (lv_at hl 1 rfl) ?_
      refine lv_icmp_lt (tgt := 25) hx hb dX3_notBelow_19 (by decide) (fun h_3 => ?_) (fun h_3 => ?_)
      · have hf := it_t h_3 hf
        refine lv_iinc (v := x3 + 1) (lv' := [(3, .int (x3 + 1)), (0, .ref h0), (1, .int x1), (2, .int x2)]) hx hb dX3_notBelow_25 hl (k := 3) rfl rfl (by decide) rfl (fun ls hl => ?_)
        refine lv_goto (tgt := 4) hx hb dX3_notBelow_28 (by decide) ?_
        exact ih x2 (x3 + 1) H locs ls hP hD hS (lv_sub hl [1, 2, 3, 0] rfl) hf
      · have hf := it_f h_3 hf
        refine lv_iinc (v := x2 + 1) (lv' := [(2, .int (x2 + 1)), (0, .ref h0), (1, .int x1), (3, .int x3)]) hx hb dX3_notBelow_22 hl (k := 2) rfl rfl (by decide) rfl (fun ls hl => ?_)
        refine lv_iinc (v := x3 + 1) (lv' := [(3, .int (x3 + 1)), (2, .int (x2 + 1)), (0, .ref h0), (1, .int x1)]) hx hb dX3_notBelow_25 hl (k := 3) rfl rfl (by decide) rfl (fun ls hl => ?_)
        refine lv_goto (tgt := 4) hx hb dX3_notBelow_28 (by decide) ?_
        exact ih (x2 + 1) (x3 + 1) H locs ls hP hD hS (lv_sub hl [2, 3, 1, 0] rfl) hf
set_option maxHeartbeats 4000000 in
set_option maxRecDepth 100000 in
theorem tX3_notBelow (l : Launch) (dC : Nat → ClassId) (dI : Nat → Nat → Nat) (cI cZ cJ cA : ClassId) (sz : Nat) (h0 : Nat) (q_scores : Nat) (v_size : Int32) (v_scores : Nat → Int32) (x1 : Int32) (N : Nat) (r0 : Int32) (hf : fX3_notBelow N x1 v_size v_scores = some r0) : Met l yX3_notBelow wsX3_notBelow ({ frames := 0, cells := 0, slots := 0, locals := 0 }) (va_Pc [.ref h0, .int x1] (fun U => U.heap.size = sz ∧ va_P (dC, dI) vwCl [(h0, .inr (3, [.ref q_scores, .int v_size])), (q_scores, .inl (cI, 40, .inl v_scores))] U.heap ∧ va_K (dC, dI) vwCl [(cI, .int), (cZ, .boolean), (cJ, .long), (cA, .array .long)] U ∧ va_D (fun _ => True) [(h0, .inr (3, [.ref q_scores, .int v_size])), (q_scores, .inl (cI, 40, .inl v_scores))])) (va_Qi (fun (r9 : Int32) (_ : Unit) => r0 = r9) (fun _ t => va_P (dC, dI) vwCl [(h0, .inr (3, [.ref q_scores, .int v_size])), (q_scores, .inl (cI, 40, .inl v_scores))] t.heap ∧ va_D (va_A [(h0, .inr (3, [.ref q_scores, .int v_size])), (q_scores, .inl (cI, 40, .inl v_scores))] sz) [(h0, .inr (3, [.ref q_scores, .int v_size])), (q_scores, .inl (cI, 40, .inl v_scores))]) (va_A [(h0, .inr (3, [.ref q_scores, .int v_size])), (q_scores, .inl (cI, 40, .inl v_scores))] sz)) 0 0 (va_A [(h0, .inr (3, [.ref q_scores, .int v_size])), (q_scores, .inl (cI, 40, .inl v_scores))] sz) := by
  refine Met.ofW (cc := cX3_notBelow) (maxL := 4) (ret := (some .int)) (by decide) rfl ?_
  intro p e s m args below meth c s₁ B hml hv
  obtain ⟨rfl, hsz, hP, hK, hD0⟩ := hv
  have hx := B.exec
  have hb := B.bytes
  have hr := B.returns
  have hts := atoms_spec (ws := wsX3_notBelow) B.pre
  have hown : s.vm.findClass RX3 = some m.cls := findClass_of_methodNamed B.named
  have hlocks := B.notSynchronized
  subst hsz
  have hD := hD0.self (sz := s.heap.size)
  generalize hAe : va_A [(h0, .inr (3, [.ref q_scores, .int v_size])), (q_scores, .inl (cI, 40, .inl v_scores))] s.heap.size = A at hD ⊢
  have hA : ∀ q : Nat, s.heap.size ≤ q → A q := fun q h => by rw [← hAe]; exact Or.inr h
  have hS : va_S A s.heap s.heap [] := va_S.rf
  have hl := lv_entry ([.ref h0, .int x1]) (n := 4) (Nat.le_of_ble_eq_true rfl)
  rw [lg_entry_eq]
  generalize (lg_sl ([.ref h0, .int x1]) ++ List.replicate (4 - (lg_sl ([.ref h0, .int x1])).length) Slot.unset).toArray = ls at hl ⊢
  have hl : lv_has ls 4 [(0, .ref h0), (1, .int x1)] := hl
  refine vx_gen hP hS (fun H locs hP hS => ?_)
  unfold fX3_notBelow at hf
  refine lv_iconst (v := 0) hx hb dX3_notBelow_0 (by decide) ?_
  refine lv_istore_n (lv' := [(2, .int 0), (0, .ref h0), (1, .int x1)]) hx hb dX3_notBelow_1 rfl hl (by decide) rfl (fun ls hl => ?_)
  refine lv_iconst (v := 0) hx hb dX3_notBelow_2 (by decide) ?_
  refine lv_istore_n (lv' := [(3, .int 0), (2, .int 0), (0, .ref h0), (1, .int x1)]) hx hb dX3_notBelow_3 rfl hl (by decide) rfl (fun ls hl => ?_)
  exact wX3_notBelow_L4 hx hb hr hml hown hts hlocks hA hK N 0 0 H locs ls hP hD hS (lv_sub hl [2, 3, 1, 0] rfl) hf
