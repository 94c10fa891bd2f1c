/-! X0_begin -/
theorem iw_X0_begin_X0 : ∀ w ∈ wsX00, w ∈ wsX0_begin := by decide +kernel
set_option maxHeartbeats 4000000 in
set_option maxRecDepth 100000 in
theorem wX0_begin_L7 {p : Program} {l : Launch} {e : Env} {s : State} {m : MethodId} {args : Array Value} {below : List Frame} {meth : Method} {c : Code} {dC : Nat → ClassId} {dI : Nat → Nat → Nat} {cI cZ cJ cA : ClassId} {A : Nat → Prop} {h0 : Nat} {v_riders : Int32} {q_best : Nat} {q_second : Nat} {q_faults : Nat}  {w_riders : Int32} {w_faults : (Nat → Int32)} {N : Nat}  (hx : p.tables.exec = Jvm.exec) (hb : c.code = cX0_begin) (hr : meth.sig.returnType = none) (hml : c.maxLocals = 3) (hown : s.vm.findClass RX0 = some m.cls) (hts : ∀ w ∈ wsX0_begin, w.before args s = true) (hlocks : meth.locks = false) (hA : ∀ q : Nat, s.heap.size ≤ q → A q) (hK : va_K (dC, dI) vwCl [(cI, .int), (cZ, .boolean), (cJ, .long), (cA, .array .long)] s) : ∀ (n : Nat) (x2 : Int32) (v_faults : Nat → Int32) (H : Heap) (locs : List Loc) (ls : Array Slot), va_P (dC, dI) vwCl [(h0, .inr (0, [.int v_riders, .ref q_best, .ref q_second, .ref q_faults])), (q_faults, .inl (cI, 4, .inl v_faults))] H → va_D A [(h0, .inr (0, [.int v_riders, .ref q_best, .ref q_second, .ref q_faults])), (q_faults, .inl (cI, 4, .inl v_faults))] → va_S A s.heap H locs → lv_has ls 3 [(0, .ref h0), (2, .int x2)] → fX0_begin_L7 N v_riders n x2 v_faults = some (w_riders, w_faults) → W p l e (headSpec wsX0_begin ({ frames := 0, cells := 0, slots := 0, locals := 0 })).room s m args below meth c H locs 0 0 (MQ below (va_Qv (fun _ : Unit => True) (fun _ t => va_P (dC, dI) vwCl [(h0, .inr (0, [.int w_riders, .ref q_best, .ref q_second, .ref q_faults])), (q_faults, .inl (cI, 4, .inl w_faults))] t.heap ∧ va_D A [(h0, .inr (0, [.int w_riders, .ref q_best, .ref q_second, .ref q_faults])), (q_faults, .inl (cI, 4, .inl w_faults))]) A) args s 0 0 A) (F0 m 7 ls []) := by
  intro n
  induction n with
  | zero =>
    intro x2 v_faults H locs ls hP hD hS hl hf
    exact nomatch (show (none : Option (Int32 × (Nat → Int32))) = some (w_riders, w_faults) from hf)
  | succ n ih =>
    intro x2 v_faults H locs ls hP hD hS hl hf
    rw [fX0_begin_L7] at hf
    refine lv_iload_n hx hb dX0_begin_7 rfl (lv_at hl 1 rfl) ?_
    refine lv_iconst (v := 4) hx hb dX0_begin_8 (by decide) ?_
    refine lv_icmp_ge (tgt := 25) hx hb dX0_begin_9 (by decide) (fun h_1 => ?_) (fun h_1 => ?_)
    · have hf := it_t h_1 hf
      cases hf
      exact W.vret hx hb hr (fun t ht hW => ⟨⟨(), rfl, trivial, by rw [ht]; exact hP, hD⟩, hS.F ht⟩) hS.2.2 dX0_begin_25
    · have hf := it_f h_1 hf
      refine lv_aload_n hx hb dX0_begin_12 rfl (lv_at hl 0 rfl) ?_
      refine va_get (D := (dC, dI)) (ci := 0) (v := .ref q_faults) (C := RX0) (T := TX0) (N := 4) hx hb hts iw_X0_begin_X0 hown hK hP 0 rfl rfl 3 (by decide) (hts (.fieldLink RX0 18 "HeatBench$Board" "faults" "[I") (List.mem_of_getElem? (i := 2) rfl)) (fun _ h9 => h9) rfl dX0_begin_13 ?_
      refine lv_iload_n hx hb dX0_begin_16 rfl (lv_at hl 1 rfl) ?_
      refine lv_iconst (v := 0) hx hb dX0_begin_17 (by decide) ?_
      obtain ⟨h_2, hf⟩ := it_n hf
      refine va_iast hx hb hK hP hD hS 1 0 rfl rfl h_2 dX0_begin_18 (fun H locs hP hD hS => ?_)
      have hP : va_P (dC, dI) vwCl [(h0, .inr (0, [.int v_riders, .ref q_best, .ref q_second, .ref q_faults])), (q_faults, .inl (cI, 4, .inl (upd v_faults x2.toNatClampNeg 0)))] H := hP
      have hD : va_D A [(h0, .inr (0, [.int v_riders, .ref q_best, .ref q_second, .ref q_faults])), (q_faults, .inl (cI, 4, .inl (upd v_faults x2.toNatClampNeg 0)))] := hD
      refine lv_iinc (v := x2 + 1) (lv' := [(2, .int (x2 + 1)), (0, .ref h0)]) hx hb dX0_begin_19 hl (k := 1) rfl rfl (by decide) rfl (fun ls hl => ?_)
      refine lv_goto (tgt := 7) hx hb dX0_begin_22 (by decide) ?_
      exact ih (x2 + 1) (upd v_faults x2.toNatClampNeg 0) H locs ls hP hD hS (lv_sub hl [1, 0] rfl) hf
set_option maxHeartbeats 4000000 in
set_option maxRecDepth 100000 in
theorem tX0_begin (l : Launch) (dC : Nat → ClassId) (dI : Nat → Nat → Nat) (cI cZ cJ cA : ClassId) (sz : Nat) (h0 : Nat) (v_riders : Int32) (q_best : Nat) (q_second : Nat) (q_faults : Nat) (v_faults : Nat → Int32) (x1 : Int32) (N : Nat) (w_riders : Int32) (w_faults : (Nat → Int32)) (hf : fX0_begin N x1 v_riders v_faults = some (w_riders, w_faults)) : Met l yX0_begin wsX0_begin ({ frames := 0, cells := 0, slots := 0, locals := 0 }) (va_Pc [.ref h0, .int x1] (fun U => U.heap.size = sz ∧ va_P (dC, dI) vwCl [(h0, .inr (0, [.int v_riders, .ref q_best, .ref q_second, .ref q_faults])), (q_faults, .inl (cI, 4, .inl v_faults))] U.heap ∧ va_K (dC, dI) vwCl [(cI, .int), (cZ, .boolean), (cJ, .long), (cA, .array .long)] U ∧ va_D (fun _ => True) [(h0, .inr (0, [.int v_riders, .ref q_best, .ref q_second, .ref q_faults])), (q_faults, .inl (cI, 4, .inl v_faults))])) (va_Qv (fun _ : Unit => True) (fun _ t => va_P (dC, dI) vwCl [(h0, .inr (0, [.int w_riders, .ref q_best, .ref q_second, .ref q_faults])), (q_faults, .inl (cI, 4, .inl w_faults))] t.heap ∧ va_D (va_A [(h0, .inr (0, [.int v_riders, .ref q_best, .ref q_second, .ref q_faults])), (q_faults, .inl (cI, 4, .inl v_faults))] sz) [(h0, .inr (0, [.int w_riders, .ref q_best, .ref q_second, .ref q_faults])), (q_faults, .inl (cI, 4, .inl w_faults))]) (va_A [(h0, .inr (0, [.int v_riders, .ref q_best, .ref q_second, .ref q_faults])), (q_faults, .inl (cI, 4, .inl v_faults))] sz)) 0 0 (va_A [(h0, .inr (0, [.int v_riders, .ref q_best, .ref q_second, .ref q_faults])), (q_faults, .inl (cI, 4, .inl v_faults))] sz) := by
  refine Met.ofW (cc := cX0_begin) (maxL := 3) (ret := none) (by decide) rfl ?_
  intro p e s m args below meth c s₁ B hml hv
  obtain ⟨rfl, hsz, hP, hK, hD0⟩ := hv
  have hx := B.exec
  have hb := B.bytes
  have hr := B.returns
  have hts := atoms_spec (ws := wsX0_begin) B.pre
  have hown : s.vm.findClass RX0 = some m.cls := findClass_of_methodNamed B.named
  have hlocks := B.notSynchronized
  subst hsz
  have hD := hD0.self (sz := s.heap.size)
  generalize hAe : va_A [(h0, .inr (0, [.int v_riders, .ref q_best, .ref q_second, .ref q_faults])), (q_faults, .inl (cI, 4, .inl v_faults))] s.heap.size = A at hD ⊢
  have hA : ∀ q : Nat, s.heap.size ≤ q → A q := fun q h => by rw [← hAe]; exact Or.inr h
  have hS : va_S A s.heap s.heap [] := va_S.rf
  have hl := lv_entry ([.ref h0, .int x1]) (n := 3) (Nat.le_of_ble_eq_true rfl)
  rw [lg_entry_eq]
  generalize (lg_sl ([.ref h0, .int x1]) ++ List.replicate (3 - (lg_sl ([.ref h0, .int x1])).length) Slot.unset).toArray = ls at hl ⊢
  have hl : lv_has ls 3 [(0, .ref h0), (1, .int x1)] := hl
  refine vx_gen hP hS (fun H locs hP hS => ?_)
  unfold fX0_begin at hf
  refine lv_aload_n hx hb dX0_begin_0 rfl (lv_at hl 0 rfl) ?_
  refine lv_iload_n hx hb dX0_begin_1 rfl (lv_at hl 1 rfl) ?_
  refine va_put (D := (dC, dI)) (ci := 0) (v := .int x1) (ty := .int) (C := RX0) (T := TX0) (N := 4) hx hb hts iw_X0_begin_X0 tyX0 tyX0_ok nmX0 hown hK hP hD hS 0 rfl rfl 0 (by decide) (hts (.fieldLink RX0 21 "HeatBench$Board" "riders" "I") (List.mem_of_getElem? (i := 1) rfl)) (fun _ h9 => h9) rfl (by decide +kernel) rfl rfl (Nat.le_of_ble_eq_true rfl) dX0_begin_2 (fun H locs hP hD hS => ?_)
  have hP : va_P (dC, dI) vwCl [(h0, .inr (0, [.int x1, .ref q_best, .ref q_second, .ref q_faults])), (q_faults, .inl (cI, 4, .inl v_faults))] H := hP
  have hD : va_D A [(h0, .inr (0, [.int x1, .ref q_best, .ref q_second, .ref q_faults])), (q_faults, .inl (cI, 4, .inl v_faults))] := hD
  refine lv_iconst (v := 0) hx hb dX0_begin_5 (by decide) ?_
  refine lv_istore_n (lv' := [(2, .int 0), (0, .ref h0), (1, .int x1)]) hx hb dX0_begin_6 rfl hl (by decide) rfl (fun ls hl => ?_)
  exact wX0_begin_L7 hx hb hr hml hown hts hlocks hA hK N 0 v_faults H locs ls hP hD hS (lv_sub hl [1, 0] rfl) hf
/-! X0_setScores -/
theorem iw_X0_setScores_X0 : ∀ w ∈ wsX00, w ∈ wsX0_setScores := by decide +kernel
set_option maxHeartbeats 4000000 in
set_option maxRecDepth 100000 in
theorem tX0_setScores (l : Launch) (dC : Nat → ClassId) (dI : Nat → Nat → Nat) (cI cZ cJ cA : ClassId) (sz : Nat) (h0 : Nat) (v_riders : Int32) (q_best : Nat) (q_second : Nat) (q_faults : Nat) (v_best : Nat → Int32) (v_second : Nat → Int32) (x1 : Int32) (x2 : Int32) (x3 : Int32) (N : Nat) (w_best : (Nat → Int32)) (w_second : (Nat → Int32)) (hf : fX0_setScores N x1 x2 x3 v_best v_second = some (w_best, w_second)) : Met l yX0_setScores wsX0_setScores ({ frames := 0, cells := 0, slots := 0, locals := 0 }) (va_Pc [.ref h0, .int x1, .int x2, .int x3] (fun U => U.heap.size = sz ∧ va_P (dC, dI) vwCl [(h0, .inr (0, [.int v_riders, .ref q_best, .ref q_second, .ref q_faults])), (q_best, .inl (cI, 4, .inl v_best)), (q_second, .inl (cI, 4, .inl v_second))] U.heap ∧ va_K (dC, dI) vwCl [(cI, .int), (cZ, .boolean), (cJ, .long), (cA, .array .long)] U ∧ va_D (fun _ => True) [(h0, .inr (0, [.int v_riders, .ref q_best, .ref q_second, .ref q_faults])), (q_best, .inl (cI, 4, .inl v_best)), (q_second, .inl (cI, 4, .inl v_second))])) (va_Qv (fun _ : Unit => True) (fun _ t => va_P (dC, dI) vwCl [(h0, .inr (0, [.int v_riders, .ref q_best, .ref q_second, .ref q_faults])), (q_best, .inl (cI, 4, .inl w_best)), (q_second, .inl (cI, 4, .inl w_second))] t.heap ∧ va_D (va_A [(h0, .inr (0, [.int v_riders, .ref q_best, .ref q_second, .ref q_faults])), (q_best, .inl (cI, 4, .inl v_best)), (q_second, .inl (cI, 4, .inl v_second))] sz) [(h0, .inr (0, [.int v_riders, .ref q_best, .ref q_second, .ref q_faults])), (q_best, .inl (cI, 4, .inl w_best)), (q_second, .inl (cI, 4, .inl w_second))]) (va_A [(h0, .inr (0, [.int v_riders, .ref q_best, .ref q_second, .ref q_faults])), (q_best, .inl (cI, 4, .inl v_best)), (q_second, .inl (cI, 4, .inl v_second))] sz)) 0 0 (va_A [(h0, .inr (0, [.int v_riders, .ref q_best, .ref q_second, .ref q_faults])), (q_best, .inl (cI, 4, .inl v_best)), (q_second, .inl (cI, 4, .inl v_second))] sz) := by
  refine Met.ofW (cc := cX0_setScores) (maxL := 4) (ret := none) (by decide) rfl ?_
  intro p e s m args below meth c s₁ B hml hv
  obtain ⟨rfl, hsz, hP, hK, hD0⟩ := hv
  have hx := B.exec
  have hb := B.bytes
  have hr := B.returns
  have hts := atoms_spec (ws := wsX0_setScores) B.pre
  have hown : s.vm.findClass RX0 = some m.cls := findClass_of_methodNamed B.named
  have hlocks := B.notSynchronized
  subst hsz
  have hD := hD0.self (sz := s.heap.size)
  generalize hAe : va_A [(h0, .inr (0, [.int v_riders, .ref q_best, .ref q_second, .ref q_faults])), (q_best, .inl (cI, 4, .inl v_best)), (q_second, .inl (cI, 4, .inl v_second))] s.heap.size = A at hD ⊢
  have hA : ∀ q : Nat, s.heap.size ≤ q → A q := fun q h => by rw [← hAe]; exact Or.inr h
  have hS : va_S A s.heap s.heap [] := va_S.rf
  have hl := lv_entry ([.ref h0, .int x1, .int x2, .int x3]) (n := 4) (Nat.le_of_ble_eq_true rfl)
  rw [lg_entry_eq]
  generalize (lg_sl ([.ref h0, .int x1, .int x2, .int x3]) ++ List.replicate (4 - (lg_sl ([.ref h0, .int x1, .int x2, .int x3])).length) Slot.unset).toArray = ls at hl ⊢
  have hl : lv_has ls 4 [(0, .ref h0), (1, .int x1), (2, .int x2), (3, .int x3)] := hl
  refine vx_gen hP hS (fun H locs hP hS => ?_)
  unfold fX0_setScores at hf
  refine lv_aload_n hx hb dX0_setScores_0 rfl (lv_at hl 0 rfl) ?_
  refine va_get (D := (dC, dI)) (ci := 0) (v := .ref q_best) (C := RX0) (T := TX0) (N := 4) hx hb hts iw_X0_setScores_X0 hown hK hP 0 rfl rfl 1 (by decide) (hts (.fieldLink RX0 9 "HeatBench$Board" "best" "[I") (List.mem_of_getElem? (i := 1) rfl)) (fun _ h9 => h9) rfl dX0_setScores_1 ?_
  refine lv_iload_n hx hb dX0_setScores_4 rfl (lv_at hl 1 rfl) ?_
  refine lv_iload_n hx hb dX0_setScores_5 rfl (lv_at hl 2 rfl) ?_
  obtain ⟨h_1, hf⟩ := it_n hf
  refine va_iast hx hb hK hP hD hS 1 0 rfl rfl h_1 dX0_setScores_6 (fun H locs hP hD hS => ?_)
  have hP : va_P (dC, dI) vwCl [(h0, .inr (0, [.int v_riders, .ref q_best, .ref q_second, .ref q_faults])), (q_best, .inl (cI, 4, .inl (upd v_best x1.toNatClampNeg x2))), (q_second, .inl (cI, 4, .inl v_second))] H := hP
  have hD : va_D A [(h0, .inr (0, [.int v_riders, .ref q_best, .ref q_second, .ref q_faults])), (q_best, .inl (cI, 4, .inl (upd v_best x1.toNatClampNeg x2))), (q_second, .inl (cI, 4, .inl v_second))] := hD
  refine lv_aload_n hx hb dX0_setScores_7 rfl (lv_at hl 0 rfl) ?_
  refine va_get (D := (dC, dI)) (ci := 0) (v := .ref q_second) (C := RX0) (T := TX0) (N := 4) hx hb hts iw_X0_setScores_X0 hown hK hP 0 rfl rfl 2 (by decide) (hts (.fieldLink RX0 15 "HeatBench$Board" "second" "[I") (List.mem_of_getElem? (i := 2) rfl)) (fun _ h9 => h9) rfl dX0_setScores_8 ?_
  refine lv_iload_n hx hb dX0_setScores_11 rfl (lv_at hl 1 rfl) ?_
  refine lv_iload_n hx hb dX0_setScores_12 rfl (lv_at hl 3 rfl) ?_
  refine va_iast hx hb hK hP hD hS 2 0 rfl rfl h_1 dX0_setScores_13 (fun H locs hP hD hS => ?_)
  have hP : va_P (dC, dI) vwCl [(h0, .inr (0, [.int v_riders, .ref q_best, .ref q_second, .ref q_faults])), (q_best, .inl (cI, 4, .inl (upd v_best x1.toNatClampNeg x2))), (q_second, .inl (cI, 4, .inl (upd v_second x1.toNatClampNeg x3)))] H := hP
  have hD : va_D A [(h0, .inr (0, [.int v_riders, .ref q_best, .ref q_second, .ref q_faults])), (q_best, .inl (cI, 4, .inl (upd v_best x1.toNatClampNeg x2))), (q_second, .inl (cI, 4, .inl (upd v_second x1.toNatClampNeg x3)))] := hD
  cases hf
  exact W.vret hx hb hr (fun t ht hW => ⟨⟨(), rfl, trivial, by rw [ht]; exact hP, hD⟩, hS.F ht⟩) hS.2.2 dX0_setScores_14
/-! X0_clearScores -/
set_option maxHeartbeats 4000000 in
set_option maxRecDepth 100000 in
theorem wX0_clearScores_L2 {p : Program} {l : Launch} {e : Env} {s : State} {m : MethodId} {args : Array Value} {below : List Frame} {meth : Method} {c : Code} {dC : Nat → ClassId} {dI : Nat → Nat → Nat} {cI cZ cJ cA : ClassId} {A : Nat → Prop} {h0 : Nat} {v_riders : Int32} {q_best : Nat} {q_second : Nat} {q_faults : Nat}  {w_best : (Nat → Int32)} {w_second : (Nat → Int32)} {N : Nat}  (hx : p.tables.exec = Jvm.exec) (hb : c.code = cX0_clearScores) (hr : meth.sig.returnType = none) (hml : c.maxLocals = 2) (hown : s.vm.findClass RX0 = some m.cls) (hts : ∀ w ∈ wsX0_clearScores, w.before args s = true) (hlocks : meth.locks = false) (hA : ∀ q : Nat, s.heap.size ≤ q → A q) (hK : va_K (dC, dI) vwCl [(cI, .int), (cZ, .boolean), (cJ, .long), (cA, .array .long)] s) : ∀ (n : Nat) (x1 : Int32) (v_best : Nat → Int32) (v_second : Nat → Int32) (H : Heap) (locs : List Loc) (ls : Array Slot), va_P (dC, dI) vwCl [(h0, .inr (0, [.int v_riders, .ref q_best, .ref q_second, .ref q_faults])), (q_best, .inl (cI, 4, .inl v_best)), (q_second, .inl (cI, 4, .inl v_second))] H → va_D A [(h0, .inr (0, [.int v_riders, .ref q_best, .ref q_second, .ref q_faults])), (q_best, .inl (cI, 4, .inl v_best)), (q_second, .inl (cI, 4, .inl v_second))] → va_S A s.heap H locs → lv_has ls 2 [(0, .ref h0), (1, .int x1)] → fX0_clearScores_L2 N n x1 v_best v_second = some (w_best, w_second) → W p l e (headSpec wsX0_clearScores ({ frames := 1, cells := 0, slots := 0, locals := 23 })).room s m args below meth c H locs 0 0 (MQ below (va_Qv (fun _ : Unit => True) (fun _ t => va_P (dC, dI) vwCl [(h0, .inr (0, [.int v_riders, .ref q_best, .ref q_second, .ref q_faults])), (q_best, .inl (cI, 4, .inl w_best)), (q_second, .inl (cI, 4, .inl w_second))] t.heap ∧ va_D A [(h0, .inr (0, [.int v_riders, .ref q_best, .ref q_second, .ref q_faults])), (q_best, .inl (cI, 4, .inl w_best)), (q_second, .inl (cI, 4, .inl w_second))]) A) args s 0 0 A) (F0 m 2 ls []) := by
  intro n
  induction n with
  | zero =>
    intro x1 v_best v_second H locs ls hP hD hS hl hf
    exact nomatch (show (none : Option ((Nat → Int32) × (Nat → Int32))) = some (w_best, w_second) from hf)
  | succ n ih =>
    intro x1 v_best v_second H locs ls hP hD hS hl hf
    rw [fX0_clearScores_L2] at hf
    refine lv_iload_n hx hb dX0_clearScores_2 rfl (lv_at hl 1 rfl) ?_
    refine lv_iconst (v := 4) hx hb dX0_clearScores_3 (by decide) ?_
    refine lv_icmp_ge (tgt := 20) hx hb dX0_clearScores_4 (by decide) (fun h_1 => ?_) (fun h_1 => ?_)
    · have hf := it_t h_1 hf
      cases hf
      exact W.vret hx hb hr (fun t ht hW => ⟨⟨(), rfl, trivial, by rw [ht]; exact hP, hD⟩, hS.F ht⟩) hS.2.2 dX0_clearScores_20
    · have hf := it_f h_1 hf
      refine lv_aload_n hx hb dX0_clearScores_7 rfl (lv_at hl 0 rfl) ?_
      refine lv_iload_n hx hb dX0_clearScores_8 rfl (lv_at hl 1 rfl) ?_
      refine lv_iconst (v := 0) hx hb dX0_clearScores_9 (by decide) ?_
      refine lv_iconst (v := 0) hx hb dX0_clearScores_10 (by decide) ?_
      obtain ⟨o_2_best, o_2_second, hu_2, hf⟩ := it_b2 hf
      have hPc := hP.sub (ws' := [(h0, .inr (0, [.int v_riders, .ref q_best, .ref q_second, .ref q_faults])), (q_best, .inl (cI, 4, .inl v_best)), (q_second, .inl (cI, 4, .inl v_second))]) [0, 1, 2] rfl
      have hDc := hD.sub (ws' := [(h0, .inr (0, [.int v_riders, .ref q_best, .ref q_second, .ref q_faults])), (q_best, .inl (cI, 4, .inl v_best)), (q_second, .inl (cI, 4, .inl v_second))]) [0, 1, 2] (by decide) rfl
      have hFc := va_free (wc := [(h0, .inr (0, [.int v_riders, .ref q_best, .ref q_second, .ref q_faults])), (q_best, .inl (cI, 4, .inl v_best)), (q_second, .inl (cI, 4, .inl v_second))]) hD hS hA [0, 1, 2] rfl
      refine va_callv (va_runV (As := [.int x1, .int 0, .int 0]) (rest := []) ⟨hx, hb, hml, hown, hts⟩ (tX0_setScores l dC dI cI cZ cJ cA H.size h0 v_riders q_best q_second q_faults v_best v_second x1 0 0 N o_2_best o_2_second hu_2) (cwV 3 hts gX0_clearScores_X0_setScores rfl rfl rfl (by decide +kernel) ⟨Nat.le_of_ble_eq_true rfl, Nat.le_of_ble_eq_true rfl⟩) ⟨fun a U g mk q => by obtain ⟨q0, q1, qP, qK, qD⟩ := q; exact ⟨q0, q1, qP, va_K.moved (u := U) (U := U.calling g mk a) (Vm.Alike.refl U.vm) qK, qD⟩, va_recv hK hPc (ci := 0) (q0 := 0) rfl rfl, fun U hU hW => ⟨rfl, by rw [hU], by rw [hU]; exact hPc, va_K.moved hW.alike hK, hDc.weaken (fun _ _ _ _ => trivial)⟩⟩ rfl rfl hl.1 rfl (lv_room (Nat.le_of_ble_eq_true rfl)) dX0_clearScores_11 ⟨Nat.zero_le _, Nat.zero_le _⟩) hS (fun q _ h => hFc q h) hFc (fun u t H1 locs ht hvm hw hB hz1 hk1 hS => ?_)
      obtain ⟨hP1, hD1⟩ := hB
      rw [ht] at hP1
      obtain ⟨hP, hD⟩ := va_join (wr := []) (w1 := [(h0, .inr (0, [.int v_riders, .ref q_best, .ref q_second, .ref q_faults])), (q_best, .inl (cI, 4, .inl o_2_best)), (q_second, .inl (cI, 4, .inl o_2_second))]) hP hD [0, 1, 2] [] rfl rfl (by decide) (by decide) hk1 hFc hP1 hD1
      clear hP1 hD1 hk1 hz1 hPc hDc hFc
      generalize H1 = H at hP hS ⊢
      have hP : va_P (dC, dI) vwCl [(h0, .inr (0, [.int v_riders, .ref q_best, .ref q_second, .ref q_faults])), (q_best, .inl (cI, 4, .inl o_2_best)), (q_second, .inl (cI, 4, .inl o_2_second))] H := hP
      have hD : va_D A [(h0, .inr (0, [.int v_riders, .ref q_best, .ref q_second, .ref q_faults])), (q_best, .inl (cI, 4, .inl o_2_best)), (q_second, .inl (cI, 4, .inl o_2_second))] := hD
      refine lv_iinc (v := x1 + 1) (lv' := [(1, .int (x1 + 1)), (0, .ref h0)]) hx hb dX0_clearScores_14 hl (k := 1) rfl rfl (by decide) rfl (fun ls hl => ?_)
      refine lv_goto (tgt := 2) hx hb dX0_clearScores_17 (by decide) ?_
      exact ih (x1 + 1) o_2_best o_2_second H locs ls hP hD hS (lv_sub hl [1, 0] rfl) hf
set_option maxHeartbeats 4000000 in
set_option maxRecDepth 100000 in
theorem tX0_clearScores (l : Launch) (dC : Nat → ClassId) (dI : Nat → Nat → Nat) (cI cZ cJ cA : ClassId) (sz : Nat) (h0 : Nat) (v_riders : Int32) (q_best : Nat) (q_second : Nat) (q_faults : Nat) (v_best : Nat → Int32) (v_second : Nat → Int32)  (N : Nat) (w_best : (Nat → Int32)) (w_second : (Nat → Int32)) (hf : fX0_clearScores N v_best v_second = some (w_best, w_second)) : Met l yX0_clearScores wsX0_clearScores ({ frames := 1, cells := 0, slots := 0, locals := 23 }) (va_Pc [.ref h0] (fun U => U.heap.size = sz ∧ va_P (dC, dI) vwCl [(h0, .inr (0, [.int v_riders, .ref q_best, .ref q_second, .ref q_faults])), (q_best, .inl (cI, 4, .inl v_best)), (q_second, .inl (cI, 4, .inl v_second))] U.heap ∧ va_K (dC, dI) vwCl [(cI, .int), (cZ, .boolean), (cJ, .long), (cA, .array .long)] U ∧ va_D (fun _ => True) [(h0, .inr (0, [.int v_riders, .ref q_best, .ref q_second, .ref q_faults])), (q_best, .inl (cI, 4, .inl v_best)), (q_second, .inl (cI, 4, .inl v_second))])) (va_Qv (fun _ : Unit => True) (fun _ t => va_P (dC, dI) vwCl [(h0, .inr (0, [.int v_riders, .ref q_best, .ref q_second, .ref q_faults])), (q_best, .inl (cI, 4, .inl w_best)), (q_second, .inl (cI, 4, .inl w_second))] t.heap ∧ va_D (va_A [(h0, .inr (0, [.int v_riders, .ref q_best, .ref q_second, .ref q_faults])), (q_best, .inl (cI, 4, .inl v_best)), (q_second, .inl (cI, 4, .inl v_second))] sz) [(h0, .inr (0, [.int v_riders, .ref q_best, .ref q_second, .ref q_faults])), (q_best, .inl (cI, 4, .inl w_best)), (q_second, .inl (cI, 4, .inl w_second))]) (va_A [(h0, .inr (0, [.int v_riders, .ref q_best, .ref q_second, .ref q_faults])), (q_best, .inl (cI, 4, .inl v_best)), (q_second, .inl (cI, 4, .inl v_second))] sz)) 0 0 (va_A [(h0, .inr (0, [.int v_riders, .ref q_best, .ref q_second, .ref q_faults])), (q_best, .inl (cI, 4, .inl v_best)), (q_second, .inl (cI, 4, .inl v_second))] sz) := by
  refine Met.ofW (cc := cX0_clearScores) (maxL := 2) (ret := none) (by decide) rfl ?_
  intro p e s m args below meth c s₁ B hml hv
  obtain ⟨rfl, hsz, hP, hK, hD0⟩ := hv
  have hx := B.exec
  have hb := B.bytes
  have hr := B.returns
  have hts := atoms_spec (ws := wsX0_clearScores) B.pre
  have hown : s.vm.findClass RX0 = some m.cls := findClass_of_methodNamed B.named
  have hlocks := B.notSynchronized
  subst hsz
  have hD := hD0.self (sz := s.heap.size)
  generalize hAe : va_A [(h0, .inr (0, [.int v_riders, .ref q_best, .ref q_second, .ref q_faults])), (q_best, .inl (cI, 4, .inl v_best)), (q_second, .inl (cI, 4, .inl v_second))] s.heap.size = A at hD ⊢
  have hA : ∀ q : Nat, s.heap.size ≤ q → A q := fun q h => by rw [← hAe]; exact Or.inr h
  have hS : va_S A s.heap s.heap [] := va_S.rf
  have hl := lv_entry ([.ref h0]) (n := 2) (Nat.le_of_ble_eq_true rfl)
  rw [lg_entry_eq]
  generalize (lg_sl ([.ref h0]) ++ List.replicate (2 - (lg_sl ([.ref h0])).length) Slot.unset).toArray = ls at hl ⊢
  have hl : lv_has ls 2 [(0, .ref h0)] := hl
  refine vx_gen hP hS (fun H locs hP hS => ?_)
  unfold fX0_clearScores at hf
  refine lv_iconst (v := 0) hx hb dX0_clearScores_0 (by decide) ?_
  refine lv_istore_n (lv' := [(1, .int 0), (0, .ref h0)]) hx hb dX0_clearScores_1 rfl hl (by decide) rfl (fun ls hl => ?_)
  exact wX0_clearScores_L2 hx hb hr hml hown hts hlocks hA hK N 0 v_best v_second H locs ls hP hD hS (lv_sub hl [1, 0] rfl) hf
/-! X0_addScore -/
theorem iw_X0_addScore_X0 : ∀ w ∈ wsX00, w ∈ wsX0_addScore := by decide +kernel
set_option maxHeartbeats 4000000 in
set_option maxRecDepth 100000 in
theorem tX0_addScore (l : Launch) (dC : Nat → ClassId) (dI : Nat → Nat → Nat) (cI cZ cJ cA : ClassId) (sz : Nat) (h0 : Nat) (v_riders : Int32) (q_best : Nat) (q_second : Nat) (q_faults : Nat) (v_best : Nat → Int32) (v_second : Nat → Int32) (x1 : Int32) (x2 : Int32) (N : Nat) (w_best : (Nat → Int32)) (w_second : (Nat → Int32)) (hf : fX0_addScore N x1 x2 v_best v_second = some (w_best, w_second)) : Met l yX0_addScore wsX0_addScore ({ frames := 1, cells := 0, slots := 0, locals := 23 }) (va_Pc [.ref h0, .int x1, .int x2] (fun U => U.heap.size = sz ∧ va_P (dC, dI) vwCl [(h0, .inr (0, [.int v_riders, .ref q_best, .ref q_second, .ref q_faults])), (q_best, .inl (cI, 4, .inl v_best)), (q_second, .inl (cI, 4, .inl v_second))] U.heap ∧ va_K (dC, dI) vwCl [(cI, .int), (cZ, .boolean), (cJ, .long), (cA, .array .long)] U ∧ va_D (fun _ => True) [(h0, .inr (0, [.int v_riders, .ref q_best, .ref q_second, .ref q_faults])), (q_best, .inl (cI, 4, .inl v_best)), (q_second, .inl (cI, 4, .inl v_second))])) (va_Qv (fun _ : Unit => True) (fun _ t => va_P (dC, dI) vwCl [(h0, .inr (0, [.int v_riders, .ref q_best, .ref q_second, .ref q_faults])), (q_best, .inl (cI, 4, .inl w_best)), (q_second, .inl (cI, 4, .inl w_second))] t.heap ∧ va_D (va_A [(h0, .inr (0, [.int v_riders, .ref q_best, .ref q_second, .ref q_faults])), (q_best, .inl (cI, 4, .inl v_best)), (q_second, .inl (cI, 4, .inl v_second))] sz) [(h0, .inr (0, [.int v_riders, .ref q_best, .ref q_second, .ref q_faults])), (q_best, .inl (cI, 4, .inl w_best)), (q_second, .inl (cI, 4, .inl w_second))]) (va_A [(h0, .inr (0, [.int v_riders, .ref q_best, .ref q_second, .ref q_faults])), (q_best, .inl (cI, 4, .inl v_best)), (q_second, .inl (cI, 4, .inl v_second))] sz)) 0 0 (va_A [(h0, .inr (0, [.int v_riders, .ref q_best, .ref q_second, .ref q_faults])), (q_best, .inl (cI, 4, .inl v_best)), (q_second, .inl (cI, 4, .inl v_second))] sz) := by
  refine Met.ofW (cc := cX0_addScore) (maxL := 3) (ret := none) (by decide) rfl ?_
  intro p e s m args below meth c s₁ B hml hv
  obtain ⟨rfl, hsz, hP, hK, hD0⟩ := hv
  have hx := B.exec
  have hb := B.bytes
  have hr := B.returns
  have hts := atoms_spec (ws := wsX0_addScore) B.pre
  have hown : s.vm.findClass RX0 = some m.cls := findClass_of_methodNamed B.named
  have hlocks := B.notSynchronized
  subst hsz
  have hD := hD0.self (sz := s.heap.size)
  generalize hAe : va_A [(h0, .inr (0, [.int v_riders, .ref q_best, .ref q_second, .ref q_faults])), (q_best, .inl (cI, 4, .inl v_best)), (q_second, .inl (cI, 4, .inl v_second))] s.heap.size = A at hD ⊢
  have hA : ∀ q : Nat, s.heap.size ≤ q → A q := fun q h => by rw [← hAe]; exact Or.inr h
  have hS : va_S A s.heap s.heap [] := va_S.rf
  have hl := lv_entry ([.ref h0, .int x1, .int x2]) (n := 3) (Nat.le_of_ble_eq_true rfl)
  rw [lg_entry_eq]
  generalize (lg_sl ([.ref h0, .int x1, .int x2]) ++ List.replicate (3 - (lg_sl ([.ref h0, .int x1, .int x2])).length) Slot.unset).toArray = ls at hl ⊢
  have hl : lv_has ls 3 [(0, .ref h0), (1, .int x1), (2, .int x2)] := hl
  refine vx_gen hP hS (fun H locs hP hS => ?_)
  unfold fX0_addScore at hf
  refine lv_iload_n hx hb dX0_addScore_0 rfl (lv_at hl 2 rfl) ?_
  refine lv_aload_n hx hb dX0_addScore_1 rfl (lv_at hl 0 rfl) ?_
  refine va_get (D := (dC, dI)) (ci := 0) (v := .ref q_best) (C := RX0) (T := TX0) (N := 4) hx hb hts iw_X0_addScore_X0 hown hK hP 0 rfl rfl 1 (by decide) (hts (.fieldLink RX0 9 "HeatBench$Board" "best" "[I") (List.mem_of_getElem? (i := 1) rfl)) (fun _ h9 => h9) rfl dX0_addScore_2 ?_
  refine lv_iload_n hx hb dX0_addScore_5 rfl (lv_at hl 1 rfl) ?_
  obtain ⟨h_1, hf⟩ := it_n hf
  refine va_iald hx hb hK hP 1 0 rfl rfl h_1 dX0_addScore_6 ?_
  refine lv_icmp_le (tgt := 25) hx hb dX0_addScore_7 (by decide) (fun h_2 => ?_) (fun h_2 => ?_)
  · have hf := it_t h_2 hf
    refine lv_iload_n hx hb dX0_addScore_25 rfl (lv_at hl 2 rfl) ?_
    refine lv_aload_n hx hb dX0_addScore_26 rfl (lv_at hl 0 rfl) ?_
    refine va_get (D := (dC, dI)) (ci := 0) (v := .ref q_second) (C := RX0) (T := TX0) (N := 4) hx hb hts iw_X0_addScore_X0 hown hK hP 0 rfl rfl 2 (by decide) (hts (.fieldLink RX0 15 "HeatBench$Board" "second" "[I") (List.mem_of_getElem? (i := 2) rfl)) (fun _ h9 => h9) rfl dX0_addScore_27 ?_
    refine lv_iload_n hx hb dX0_addScore_30 rfl (lv_at hl 1 rfl) ?_
    refine va_iald hx hb hK hP 2 0 rfl rfl h_1 dX0_addScore_31 ?_
    refine lv_icmp_le (tgt := 42) hx hb dX0_addScore_32 (by decide) (fun h_3 => ?_) (fun h_3 => ?_)
    · have hf := it_t h_3 hf
      cases hf
      exact W.vret hx hb hr (fun t ht hW => ⟨⟨(), rfl, trivial, by rw [ht]; exact hP, hD⟩, hS.F ht⟩) hS.2.2 dX0_addScore_42
    · have hf := it_f h_3 hf
      refine lv_aload_n hx hb dX0_addScore_35 rfl (lv_at hl 0 rfl) ?_
      refine va_get (D := (dC, dI)) (ci := 0) (v := .ref q_second) (C := RX0) (T := TX0) (N := 4) hx hb hts iw_X0_addScore_X0 hown hK hP 0 rfl rfl 2 (by decide) (hts (.fieldLink RX0 15 "HeatBench$Board" "second" "[I") (List.mem_of_getElem? (i := 2) rfl)) (fun _ h9 => h9) rfl dX0_addScore_36 ?_
      refine lv_iload_n hx hb dX0_addScore_39 rfl (lv_at hl 1 rfl) ?_
      refine lv_iload_n hx hb dX0_addScore_40 rfl (lv_at hl 2 rfl) ?_
      refine va_iast hx hb hK hP hD hS 2 0 rfl rfl h_1 dX0_addScore_41 (fun H locs hP hD hS => ?_)
      have hP : va_P (dC, dI) vwCl [(h0, .inr (0, [.int v_riders, .ref q_best, .ref q_second, .ref q_faults])), (q_best, .inl (cI, 4, .inl v_best)), (q_second, .inl (cI, 4, .inl (upd v_second x1.toNatClampNeg x2)))] H := hP
      have hD : va_D A [(h0, .inr (0, [.int v_riders, .ref q_best, .ref q_second, .ref q_faults])), (q_best, .inl (cI, 4, .inl v_best)), (q_second, .inl (cI, 4, .inl (upd v_second x1.toNatClampNeg x2)))] := hD
      cases hf
      exact W.vret hx hb hr (fun t ht hW => ⟨⟨(), rfl, trivial, by rw [ht]; exact hP, hD⟩, hS.F ht⟩) hS.2.2 dX0_addScore_42
  · have hf := it_f h_2 hf
    refine lv_aload_n hx hb dX0_addScore_10 rfl (lv_at hl 0 rfl) ?_
    refine lv_iload_n hx hb dX0_addScore_11 rfl (lv_at hl 1 rfl) ?_
    refine lv_iload_n hx hb dX0_addScore_12 rfl (lv_at hl 2 rfl) ?_
    refine lv_aload_n hx hb dX0_addScore_13 rfl (lv_at hl 0 rfl) ?_
    refine va_get (D := (dC, dI)) (ci := 0) (v := .ref q_best) (C := RX0) (T := TX0) (N := 4) hx hb hts iw_X0_addScore_X0 hown hK hP 0 rfl rfl 1 (by decide) (hts (.fieldLink RX0 9 "HeatBench$Board" "best" "[I") (List.mem_of_getElem? (i := 1) rfl)) (fun _ h9 => h9) rfl dX0_addScore_14 ?_
    refine lv_iload_n hx hb dX0_addScore_17 rfl (lv_at hl 1 rfl) ?_
    refine va_iald hx hb hK hP 1 0 rfl rfl h_1 dX0_addScore_18 ?_
    obtain ⟨o_4_best, o_4_second, hu_4, hf⟩ := it_b2 hf
    have hPc := hP.sub (ws' := [(h0, .inr (0, [.int v_riders, .ref q_best, .ref q_second, .ref q_faults])), (q_best, .inl (cI, 4, .inl v_best)), (q_second, .inl (cI, 4, .inl v_second))]) [0, 1, 2] rfl
    have hDc := hD.sub (ws' := [(h0, .inr (0, [.int v_riders, .ref q_best, .ref q_second, .ref q_faults])), (q_best, .inl (cI, 4, .inl v_best)), (q_second, .inl (cI, 4, .inl v_second))]) [0, 1, 2] (by decide) rfl
    have hFc := va_free (wc := [(h0, .inr (0, [.int v_riders, .ref q_best, .ref q_second, .ref q_faults])), (q_best, .inl (cI, 4, .inl v_best)), (q_second, .inl (cI, 4, .inl v_second))]) hD hS hA [0, 1, 2] rfl
    refine va_callv (va_runV (As := [.int x1, .int x2, .int (v_best x1.toNatClampNeg)]) (rest := []) ⟨hx, hb, hml, hown, hts⟩ (tX0_setScores l dC dI cI cZ cJ cA H.size h0 v_riders q_best q_second q_faults v_best v_second x1 x2 (v_best x1.toNatClampNeg) N o_4_best o_4_second hu_4) (cwV 3 hts gX0_addScore_X0_setScores rfl rfl rfl (by decide +kernel) ⟨Nat.le_of_ble_eq_true rfl, Nat.le_of_ble_eq_true rfl⟩) ⟨fun a U g mk q => by obtain ⟨q0, q1, qP, qK, qD⟩ := q; exact ⟨q0, q1, qP, va_K.moved (u := U) (U := U.calling g mk a) (Vm.Alike.refl U.vm) qK, qD⟩, va_recv hK hPc (ci := 0) (q0 := 0) rfl rfl, fun U hU hW => ⟨rfl, by rw [hU], by rw [hU]; exact hPc, va_K.moved hW.alike hK, hDc.weaken (fun _ _ _ _ => trivial)⟩⟩ rfl rfl hl.1 rfl (lv_room (Nat.le_of_ble_eq_true rfl)) dX0_addScore_19 ⟨Nat.zero_le _, Nat.zero_le _⟩) hS (fun q _ h => hFc q h) hFc (fun u t H1 locs ht hvm hw hB hz1 hk1 hS => ?_)
    obtain ⟨hP1, hD1⟩ := hB
    rw [ht] at hP1
    obtain ⟨hP, hD⟩ := va_join (wr := []) (w1 := [(h0, .inr (0, [.int v_riders, .ref q_best, .ref q_second, .ref q_faults])), (q_best, .inl (cI, 4, .inl o_4_best)), (q_second, .inl (cI, 4, .inl o_4_second))]) hP hD [0, 1, 2] [] rfl rfl (by decide) (by decide) hk1 hFc hP1 hD1
    clear hP1 hD1 hk1 hz1 hPc hDc hFc
    generalize H1 = H at hP hS ⊢
    have hP : va_P (dC, dI) vwCl [(h0, .inr (0, [.int v_riders, .ref q_best, .ref q_second, .ref q_faults])), (q_best, .inl (cI, 4, .inl o_4_best)), (q_second, .inl (cI, 4, .inl o_4_second))] H := hP
    have hD : va_D A [(h0, .inr (0, [.int v_riders, .ref q_best, .ref q_second, .ref q_faults])), (q_best, .inl (cI, 4, .inl o_4_best)), (q_second, .inl (cI, 4, .inl o_4_second))] := hD
    refine lv_goto (tgt := 42) hx hb dX0_addScore_22 (by decide) ?_
    cases hf
    exact W.vret hx hb hr (fun t ht hW => ⟨⟨(), rfl, trivial, by rw [ht]; exact hP, hD⟩, hS.F ht⟩) hS.2.2 dX0_addScore_42
/-! X0_total -/
theorem iw_X0_total_X0 : ∀ w ∈ wsX00, w ∈ wsX0_total := by decide +kernel
set_option maxHeartbeats 4000000 in
set_option maxRecDepth 100000 in
theorem tX0_total (l : Launch) (dC : Nat → ClassId) (dI : Nat → Nat → Nat) (cI cZ cJ cA : ClassId) (sz : Nat) (h0 : Nat) (v_riders : Int32) (q_best : Nat) (q_second : Nat) (q_faults : Nat) (v_best : Nat → Int32) (v_second : Nat → Int32) (v_faults : Nat → Int32) (x1 : Int32) (N : Nat) (r0 : Int32) (hf : fX0_total N x1 v_best v_second v_faults = some r0) : Met l yX0_total wsX0_total ({ frames := 0, cells := 0, slots := 0, locals := 0 }) (va_Pc [.ref h0, .int x1] (fun U => U.heap.size = sz ∧ va_P (dC, dI) vwCl [(h0, .inr (0, [.int v_riders, .ref q_best, .ref q_second, .ref q_faults])), (q_best, .inl (cI, 4, .inl v_best)), (q_second, .inl (cI, 4, .inl v_second)), (q_faults, .inl (cI, 4, .inl v_faults))] U.heap ∧ va_K (dC, dI) vwCl [(cI, .int), (cZ, .boolean), (cJ, .long), (cA, .array .long)] U ∧ va_D (fun _ => True) [(h0, .inr (0, [.int v_riders, .ref q_best, .ref q_second, .ref q_faults])), (q_best, .inl (cI, 4, .inl v_best)), (q_second, .inl (cI, 4, .inl v_second)), (q_faults, .inl (cI, 4, .inl v_faults))])) (va_Qi (fun (r9 : Int32) (_ : Unit) => r0 = r9) (fun _ t => va_P (dC, dI) vwCl [(h0, .inr (0, [.int v_riders, .ref q_best, .ref q_second, .ref q_faults])), (q_best, .inl (cI, 4, .inl v_best)), (q_second, .inl (cI, 4, .inl v_second)), (q_faults, .inl (cI, 4, .inl v_faults))] t.heap ∧ va_D (va_A [(h0, .inr (0, [.int v_riders, .ref q_best, .ref q_second, .ref q_faults])), (q_best, .inl (cI, 4, .inl v_best)), (q_second, .inl (cI, 4, .inl v_second)), (q_faults, .inl (cI, 4, .inl v_faults))] sz) [(h0, .inr (0, [.int v_riders, .ref q_best, .ref q_second, .ref q_faults])), (q_best, .inl (cI, 4, .inl v_best)), (q_second, .inl (cI, 4, .inl v_second)), (q_faults, .inl (cI, 4, .inl v_faults))]) (va_A [(h0, .inr (0, [.int v_riders, .ref q_best, .ref q_second, .ref q_faults])), (q_best, .inl (cI, 4, .inl v_best)), (q_second, .inl (cI, 4, .inl v_second)), (q_faults, .inl (cI, 4, .inl v_faults))] sz)) 0 0 (va_A [(h0, .inr (0, [.int v_riders, .ref q_best, .ref q_second, .ref q_faults])), (q_best, .inl (cI, 4, .inl v_best)), (q_second, .inl (cI, 4, .inl v_second)), (q_faults, .inl (cI, 4, .inl v_faults))] sz) := by
  refine Met.ofW (cc := cX0_total) (maxL := 2) (ret := (some .int)) (by decide) rfl ?_
  intro p e s m args below meth c s₁ B hml hv
  obtain ⟨rfl, hsz, hP, hK, hD0⟩ := hv
  have hx := B.exec
  have hb := B.bytes
  have hr := B.returns
  have hts := atoms_spec (ws := wsX0_total) B.pre
  have hown : s.vm.findClass RX0 = some m.cls := findClass_of_methodNamed B.named
  have hlocks := B.notSynchronized
  subst hsz
  have hD := hD0.self (sz := s.heap.size)
  generalize hAe : va_A [(h0, .inr (0, [.int v_riders, .ref q_best, .ref q_second, .ref q_faults])), (q_best, .inl (cI, 4, .inl v_best)), (q_second, .inl (cI, 4, .inl v_second)), (q_faults, .inl (cI, 4, .inl v_faults))] s.heap.size = A at hD ⊢
  have hA : ∀ q : Nat, s.heap.size ≤ q → A q := fun q h => by rw [← hAe]; exact Or.inr h
  have hS : va_S A s.heap s.heap [] := va_S.rf
  have hl := lv_entry ([.ref h0, .int x1]) (n := 2) (Nat.le_of_ble_eq_true rfl)
  rw [lg_entry_eq]
  generalize (lg_sl ([.ref h0, .int x1]) ++ List.replicate (2 - (lg_sl ([.ref h0, .int x1])).length) Slot.unset).toArray = ls at hl ⊢
  have hl : lv_has ls 2 [(0, .ref h0), (1, .int x1)] := hl
  refine vx_gen hP hS (fun H locs hP hS => ?_)
  unfold fX0_total at hf
  refine lv_aload_n hx hb dX0_total_0 rfl (lv_at hl 0 rfl) ?_
  refine va_get (D := (dC, dI)) (ci := 0) (v := .ref q_faults) (C := RX0) (T := TX0) (N := 4) hx hb hts iw_X0_total_X0 hown hK hP 0 rfl rfl 3 (by decide) (hts (.fieldLink RX0 18 "HeatBench$Board" "faults" "[I") (List.mem_of_getElem? (i := 1) rfl)) (fun _ h9 => h9) rfl dX0_total_1 ?_
  refine lv_iload_n hx hb dX0_total_4 rfl (lv_at hl 1 rfl) ?_
  obtain ⟨h_1, hf⟩ := it_n hf
  refine va_iald hx hb hK hP 3 0 rfl rfl h_1 dX0_total_5 ?_
  refine lv_if_ne (tgt := 23) hx hb dX0_total_6 (by decide) (fun h_2 => ?_) (fun h_2 => ?_)
  · have hf := it_f h_2 hf
    refine lv_aload_n hx hb dX0_total_23 rfl (lv_at hl 0 rfl) ?_
    refine va_get (D := (dC, dI)) (ci := 0) (v := .ref q_faults) (C := RX0) (T := TX0) (N := 4) hx hb hts iw_X0_total_X0 hown hK hP 0 rfl rfl 3 (by decide) (hts (.fieldLink RX0 18 "HeatBench$Board" "faults" "[I") (List.mem_of_getElem? (i := 1) rfl)) (fun _ h9 => h9) rfl dX0_total_24 ?_
    refine lv_iload_n hx hb dX0_total_27 rfl (lv_at hl 1 rfl) ?_
    refine va_iald hx hb hK hP 3 0 rfl rfl h_1 dX0_total_28 ?_
    refine lv_iconst (v := 1) hx hb dX0_total_29 (by decide) ?_
    refine lv_icmp_ne (tgt := 49) hx hb dX0_total_30 (by decide) (fun h_3 => ?_) (fun h_3 => ?_)
    · have hf := it_f h_3 hf
      refine lv_aload_n hx hb dX0_total_49 rfl (lv_at hl 0 rfl) ?_
      refine va_get (D := (dC, dI)) (ci := 0) (v := .ref q_best) (C := RX0) (T := TX0) (N := 4) hx hb hts iw_X0_total_X0 hown hK hP 0 rfl rfl 1 (by decide) (hts (.fieldLink RX0 9 "HeatBench$Board" "best" "[I") (List.mem_of_getElem? (i := 2) rfl)) (fun _ h9 => h9) rfl dX0_total_50 ?_
      refine lv_iload_n hx hb dX0_total_53 rfl (lv_at hl 1 rfl) ?_
      refine va_iald hx hb hK hP 1 0 rfl rfl h_1 dX0_total_54 ?_
      refine lv_iconst (v := 2) hx hb dX0_total_55 (by decide) ?_
      refine lv_idiv hx hb dX0_total_56 (by decide) ?_
      cases hf
      exact W.iret hx hb hr (fun t ht hW => ⟨⟨_, (), rfl, rfl, by rw [ht]; exact hP, hD⟩, hS.F ht⟩) hS.2.2 dX0_total_57
    · have hf := it_t h_3 hf
      refine lv_aload_n hx hb dX0_total_33 rfl (lv_at hl 0 rfl) ?_
      refine va_get (D := (dC, dI)) (ci := 0) (v := .ref q_best) (C := RX0) (T := TX0) (N := 4) hx hb hts iw_X0_total_X0 hown hK hP 0 rfl rfl 1 (by decide) (hts (.fieldLink RX0 9 "HeatBench$Board" "best" "[I") (List.mem_of_getElem? (i := 2) rfl)) (fun _ h9 => h9) rfl dX0_total_34 ?_
      refine lv_iload_n hx hb dX0_total_37 rfl (lv_at hl 1 rfl) ?_
      refine va_iald hx hb hK hP 1 0 rfl rfl h_1 dX0_total_38 ?_
      refine lv_aload_n hx hb dX0_total_39 rfl (lv_at hl 0 rfl) ?_
      refine va_get (D := (dC, dI)) (ci := 0) (v := .ref q_second) (C := RX0) (T := TX0) (N := 4) hx hb hts iw_X0_total_X0 hown hK hP 0 rfl rfl 2 (by decide) (hts (.fieldLink RX0 15 "HeatBench$Board" "second" "[I") (List.mem_of_getElem? (i := 3) rfl)) (fun _ h9 => h9) rfl dX0_total_40 ?_
      refine lv_iload_n hx hb dX0_total_43 rfl (lv_at hl 1 rfl) ?_
      refine va_iald hx hb hK hP 2 0 rfl rfl h_1 dX0_total_44 ?_
      refine lv_iconst (v := 2) hx hb dX0_total_45 (by decide) ?_
      refine lv_idiv hx hb dX0_total_46 (by decide) ?_
      refine lv_iadd hx hb dX0_total_47 ?_
      cases hf
      exact W.iret hx hb hr (fun t ht hW => ⟨⟨_, (), rfl, rfl, by rw [ht]; exact hP, hD⟩, hS.F ht⟩) hS.2.2 dX0_total_48
  · have hf := it_t h_2 hf
    refine lv_aload_n hx hb dX0_total_9 rfl (lv_at hl 0 rfl) ?_
    refine va_get (D := (dC, dI)) (ci := 0) (v := .ref q_best) (C := RX0) (T := TX0) (N := 4) hx hb hts iw_X0_total_X0 hown hK hP 0 rfl rfl 1 (by decide) (hts (.fieldLink RX0 9 "HeatBench$Board" "best" "[I") (List.mem_of_getElem? (i := 2) rfl)) (fun _ h9 => h9) rfl dX0_total_10 ?_
    refine lv_iload_n hx hb dX0_total_13 rfl (lv_at hl 1 rfl) ?_
    refine va_iald hx hb hK hP 1 0 rfl rfl h_1 dX0_total_14 ?_
    refine lv_aload_n hx hb dX0_total_15 rfl (lv_at hl 0 rfl) ?_
    refine va_get (D := (dC, dI)) (ci := 0) (v := .ref q_second) (C := RX0) (T := TX0) (N := 4) hx hb hts iw_X0_total_X0 hown hK hP 0 rfl rfl 2 (by decide) (hts (.fieldLink RX0 15 "HeatBench$Board" "second" "[I") (List.mem_of_getElem? (i := 3) rfl)) (fun _ h9 => h9) rfl dX0_total_16 ?_
    refine lv_iload_n hx hb dX0_total_19 rfl (lv_at hl 1 rfl) ?_
    refine va_iald hx hb hK hP 2 0 rfl rfl h_1 dX0_total_20 ?_
    refine lv_iadd hx hb dX0_total_21 ?_
    cases hf
    exact W.iret hx hb hr (fun t ht hW => ⟨⟨_, (), rfl, rfl, by rw [ht]; exact hP, hD⟩, hS.F ht⟩) hS.2.2 dX0_total_22
/-! X0_isBetter -/
theorem iw_X0_isBetter_X0 : ∀ w ∈ wsX00, w ∈ wsX0_isBetter := by decide +kernel
set_option maxHeartbeats 4000000 in
set_option maxRecDepth 100000 in
theorem tX0_isBetter (l : Launch) (dC : Nat → ClassId) (dI : Nat → Nat → Nat) (cI cZ cJ cA : ClassId) (sz : Nat) (h0 : Nat) (v_riders : Int32) (q_best : Nat) (q_second : Nat) (q_faults : Nat) (v_best : Nat → Int32) (v_second : Nat → Int32) (v_faults : Nat → Int32) (x1 : Int32) (x2 : Int32) (N : Nat) (r0 : Int32) (hf : fX0_isBetter N x1 x2 v_best v_second v_faults = some r0) : Met l yX0_isBetter wsX0_isBetter ({ frames := 1, cells := 0, slots := 0, locals := 21 }) (va_Pc [.ref h0, .int x1, .int x2] (fun U => U.heap.size = sz ∧ va_P (dC, dI) vwCl [(h0, .inr (0, [.int v_riders, .ref q_best, .ref q_second, .ref q_faults])), (q_best, .inl (cI, 4, .inl v_best)), (q_second, .inl (cI, 4, .inl v_second)), (q_faults, .inl (cI, 4, .inl v_faults))] U.heap ∧ va_K (dC, dI) vwCl [(cI, .int), (cZ, .boolean), (cJ, .long), (cA, .array .long)] U ∧ va_D (fun _ => True) [(h0, .inr (0, [.int v_riders, .ref q_best, .ref q_second, .ref q_faults])), (q_best, .inl (cI, 4, .inl v_best)), (q_second, .inl (cI, 4, .inl v_second)), (q_faults, .inl (cI, 4, .inl v_faults))])) (va_Qi (fun (r9 : Int32) (_ : Unit) => r0 = r9) (fun _ t => va_P (dC, dI) vwCl [(h0, .inr (0, [.int v_riders, .ref q_best, .ref q_second, .ref q_faults])), (q_best, .inl (cI, 4, .inl v_best)), (q_second, .inl (cI, 4, .inl v_second)), (q_faults, .inl (cI, 4, .inl v_faults))] t.heap ∧ va_D (va_A [(h0, .inr (0, [.int v_riders, .ref q_best, .ref q_second, .ref q_faults])), (q_best, .inl (cI, 4, .inl v_best)), (q_second, .inl (cI, 4, .inl v_second)), (q_faults, .inl (cI, 4, .inl v_faults))] sz) [(h0, .inr (0, [.int v_riders, .ref q_best, .ref q_second, .ref q_faults])), (q_best, .inl (cI, 4, .inl v_best)), (q_second, .inl (cI, 4, .inl v_second)), (q_faults, .inl (cI, 4, .inl v_faults))]) (va_A [(h0, .inr (0, [.int v_riders, .ref q_best, .ref q_second, .ref q_faults])), (q_best, .inl (cI, 4, .inl v_best)), (q_second, .inl (cI, 4, .inl v_second)), (q_faults, .inl (cI, 4, .inl v_faults))] sz)) 0 0 (va_A [(h0, .inr (0, [.int v_riders, .ref q_best, .ref q_second, .ref q_faults])), (q_best, .inl (cI, 4, .inl v_best)), (q_second, .inl (cI, 4, .inl v_second)), (q_faults, .inl (cI, 4, .inl v_faults))] sz) := by
  refine Met.ofW (cc := cX0_isBetter) (maxL := 5) (ret := (some .boolean)) (by decide) rfl ?_
  intro p e s m args below meth c s₁ B hml hv
  obtain ⟨rfl, hsz, hP, hK, hD0⟩ := hv
  have hx := B.exec
  have hb := B.bytes
  have hr := B.returns
  have hts := atoms_spec (ws := wsX0_isBetter) B.pre
  have hown : s.vm.findClass RX0 = some m.cls := findClass_of_methodNamed B.named
  have hlocks := B.notSynchronized
  subst hsz
  have hD := hD0.self (sz := s.heap.size)
  generalize hAe : va_A [(h0, .inr (0, [.int v_riders, .ref q_best, .ref q_second, .ref q_faults])), (q_best, .inl (cI, 4, .inl v_best)), (q_second, .inl (cI, 4, .inl v_second)), (q_faults, .inl (cI, 4, .inl v_faults))] s.heap.size = A at hD ⊢
  have hA : ∀ q : Nat, s.heap.size ≤ q → A q := fun q h => by rw [← hAe]; exact Or.inr h
  have hS : va_S A s.heap s.heap [] := va_S.rf
  have hl := lv_entry ([.ref h0, .int x1, .int x2]) (n := 5) (Nat.le_of_ble_eq_true rfl)
  rw [lg_entry_eq]
  generalize (lg_sl ([.ref h0, .int x1, .int x2]) ++ List.replicate (5 - (lg_sl ([.ref h0, .int x1, .int x2])).length) Slot.unset).toArray = ls at hl ⊢
  have hl : lv_has ls 5 [(0, .ref h0), (1, .int x1), (2, .int x2)] := hl
  refine vx_gen hP hS (fun H locs hP hS => ?_)
  unfold fX0_isBetter at hf
  refine lv_aload_n hx hb dX0_isBetter_0 rfl (lv_at hl 0 rfl) ?_
  refine lv_iload_n hx hb dX0_isBetter_1 rfl (lv_at hl 1 rfl) ?_
  obtain ⟨r_1, hu_1, hf⟩ := it_b1 hf
  have hPc := hP.sub (ws' := [(h0, .inr (0, [.int v_riders, .ref q_best, .ref q_second, .ref q_faults])), (q_best, .inl (cI, 4, .inl v_best)), (q_second, .inl (cI, 4, .inl v_second)), (q_faults, .inl (cI, 4, .inl v_faults))]) [0, 1, 2, 3] rfl
  have hDc := hD.sub (ws' := [(h0, .inr (0, [.int v_riders, .ref q_best, .ref q_second, .ref q_faults])), (q_best, .inl (cI, 4, .inl v_best)), (q_second, .inl (cI, 4, .inl v_second)), (q_faults, .inl (cI, 4, .inl v_faults))]) [0, 1, 2, 3] (by decide) rfl
  have hFc := va_free (wc := [(h0, .inr (0, [.int v_riders, .ref q_best, .ref q_second, .ref q_faults])), (q_best, .inl (cI, 4, .inl v_best)), (q_second, .inl (cI, 4, .inl v_second)), (q_faults, .inl (cI, 4, .inl v_faults))]) hD hS hA [0, 1, 2, 3] rfl
  refine va_calli (va_runV (As := [.int x1]) (rest := []) ⟨hx, hb, hml, hown, hts⟩ (tX0_total l dC dI cI cZ cJ cA H.size h0 v_riders q_best q_second q_faults v_best v_second v_faults x1 N r_1 hu_1) (cwV 1 hts gX0_isBetter_X0_total rfl rfl rfl (by decide +kernel) ⟨Nat.le_of_ble_eq_true rfl, Nat.le_of_ble_eq_true rfl⟩) ⟨fun a U g mk q => by obtain ⟨q0, q1, qP, qK, qD⟩ := q; exact ⟨q0, q1, qP, va_K.moved (u := U) (U := U.calling g mk a) (Vm.Alike.refl U.vm) qK, qD⟩, va_recv hK hPc (ci := 0) (q0 := 0) rfl rfl, fun U hU hW => ⟨rfl, by rw [hU], by rw [hU]; exact hPc, va_K.moved hW.alike hK, hDc.weaken (fun _ _ _ _ => trivial)⟩⟩ rfl rfl hl.1 rfl (lv_room (Nat.le_of_ble_eq_true rfl)) dX0_isBetter_2 ⟨Nat.zero_le _, Nat.zero_le _⟩) hS (fun q _ h => hFc q h) hFc (fun r9 u t H1 locs ht hvm hw hB hz1 hk1 hS => ?_)
  obtain ⟨hP1, hD1⟩ := hB
  rw [ht] at hP1
  obtain ⟨hP, hD⟩ := va_join (wr := []) (w1 := [(h0, .inr (0, [.int v_riders, .ref q_best, .ref q_second, .ref q_faults])), (q_best, .inl (cI, 4, .inl v_best)), (q_second, .inl (cI, 4, .inl v_second)), (q_faults, .inl (cI, 4, .inl v_faults))]) hP hD [0, 1, 2, 3] [] rfl rfl (by decide) (by decide) hk1 hFc hP1 hD1
  clear hP1 hD1 hk1 hz1 hPc hDc hFc
  generalize H1 = H at hP hS ⊢
  have hP : va_P (dC, dI) vwCl [(h0, .inr (0, [.int v_riders, .ref q_best, .ref q_second, .ref q_faults])), (q_best, .inl (cI, 4, .inl v_best)), (q_second, .inl (cI, 4, .inl v_second)), (q_faults, .inl (cI, 4, .inl v_faults))] H := hP
  have hD : va_D A [(h0, .inr (0, [.int v_riders, .ref q_best, .ref q_second, .ref q_faults])), (q_best, .inl (cI, 4, .inl v_best)), (q_second, .inl (cI, 4, .inl v_second)), (q_faults, .inl (cI, 4, .inl v_faults))] := hD
  subst hw
  refine lv_istore_n (lv' := [(3, .int r_1), (0, .ref h0), (1, .int x1), (2, .int x2)]) hx hb dX0_isBetter_5 rfl hl (by decide) rfl (fun ls hl => ?_)
  refine lv_aload_n hx hb dX0_isBetter_6 rfl (lv_at hl 1 rfl) ?_
  refine lv_iload_n hx hb dX0_isBetter_7 rfl (lv_at hl 3 rfl) ?_
  obtain ⟨r_2, hu_2, hf⟩ := it_b1 hf
  have hPc := hP.sub (ws' := [(h0, .inr (0, [.int v_riders, .ref q_best, .ref q_second, .ref q_faults])), (q_best, .inl (cI, 4, .inl v_best)), (q_second, .inl (cI, 4, .inl v_second)), (q_faults, .inl (cI, 4, .inl v_faults))]) [0, 1, 2, 3] rfl
  have hDc := hD.sub (ws' := [(h0, .inr (0, [.int v_riders, .ref q_best, .ref q_second, .ref q_faults])), (q_best, .inl (cI, 4, .inl v_best)), (q_second, .inl (cI, 4, .inl v_second)), (q_faults, .inl (cI, 4, .inl v_faults))]) [0, 1, 2, 3] (by decide) rfl
  have hFc := va_free (wc := [(h0, .inr (0, [.int v_riders, .ref q_best, .ref q_second, .ref q_faults])), (q_best, .inl (cI, 4, .inl v_best)), (q_second, .inl (cI, 4, .inl v_second)), (q_faults, .inl (cI, 4, .inl v_faults))]) hD hS hA [0, 1, 2, 3] rfl
  refine va_calli (va_runV (As := [.int x2]) (rest := []) ⟨hx, hb, hml, hown, hts⟩ (tX0_total l dC dI cI cZ cJ cA H.size h0 v_riders q_best q_second q_faults v_best v_second v_faults x2 N r_2 hu_2) (cwV 1 hts gX0_isBetter_X0_total rfl rfl rfl (by decide +kernel) ⟨Nat.le_of_ble_eq_true rfl, Nat.le_of_ble_eq_true rfl⟩) ⟨fun a U g mk q => by obtain ⟨q0, q1, qP, qK, qD⟩ := q; exact ⟨q0, q1, qP, va_K.moved (u := U) (U := U.calling g mk a) (Vm.Alike.refl U.vm) qK, qD⟩, va_recv hK hPc (ci := 0) (q0 := 0) rfl rfl, fun U hU hW => ⟨rfl, by rw [hU], by rw [hU]; exact hPc, va_K.moved hW.alike hK, hDc.weaken (fun _ _ _ _ => trivial)⟩⟩ rfl rfl hl.1 rfl (lv_room (Nat.le_of_ble_eq_true rfl)) dX0_isBetter_8 ⟨Nat.zero_le _, Nat.zero_le _⟩) hS (fun q _ h => hFc q h) hFc (fun r9 u t H1 locs ht hvm hw hB hz1 hk1 hS => ?_)
  obtain ⟨hP1, hD1⟩ := hB
  rw [ht] at hP1
  obtain ⟨hP, hD⟩ := va_join (wr := []) (w1 := [(h0, .inr (0, [.int v_riders, .ref q_best, .ref q_second, .ref q_faults])), (q_best, .inl (cI, 4, .inl v_best)), (q_second, .inl (cI, 4, .inl v_second)), (q_faults, .inl (cI, 4, .inl v_faults))]) hP hD [0, 1, 2, 3] [] rfl rfl (by decide) (by decide) hk1 hFc hP1 hD1
  clear hP1 hD1 hk1 hz1 hPc hDc hFc
  generalize H1 = H at hP hS ⊢
  have hP : va_P (dC, dI) vwCl [(h0, .inr (0, [.int v_riders, .ref q_best, .ref q_second, .ref q_faults])), (q_best, .inl (cI, 4, .inl v_best)), (q_second, .inl (cI, 4, .inl v_second)), (q_faults, .inl (cI, 4, .inl v_faults))] H := hP
  have hD : va_D A [(h0, .inr (0, [.int v_riders, .ref q_best, .ref q_second, .ref q_faults])), (q_best, .inl (cI, 4, .inl v_best)), (q_second, .inl (cI, 4, .inl v_second)), (q_faults, .inl (cI, 4, .inl v_faults))] := hD
  subst hw
  refine lv_istore (lv' := [(4, .int r_2), (3, .int r_1), (0, .ref h0), (1, .int x1), (2, .int x2)]) hx hb dX0_isBetter_11 hl (by decide) rfl (fun ls hl => ?_)
  refine lv_iload_n hx hb dX0_isBetter_13 rfl (lv_at hl 1 rfl) ?_
  refine lv_iload hx hb dX0_isBetter_14 (lv_at hl 0 rfl) ?_
  refine lv_icmp_eq (tgt := 31) hx hb dX0_isBetter_16 (by decide) (fun h_3 => ?_) (fun h_3 => ?_)
  · have hf := it_t h_3 hf
    refine lv_aload_n hx hb dX0_isBetter_31 rfl (lv_at hl 2 rfl) ?_
    refine va_get (D := (dC, dI)) (ci := 0) (v := .ref q_best) (C := RX0) (T := TX0) (N := 4) hx hb hts iw_X0_isBetter_X0 hown hK hP 0 rfl rfl 1 (by decide) (hts (.fieldLink RX0 9 "HeatBench$Board" "best" "[I") (List.mem_of_getElem? (i := 1) rfl)) (fun _ h9 => h9) rfl dX0_isBetter_32 ?_
    refine lv_iload_n hx hb dX0_isBetter_35 rfl (lv_at hl 3 rfl) ?_
    obtain ⟨h_4, hf⟩ := it_n hf
    refine va_iald hx hb hK hP 1 0 rfl rfl h_4 dX0_isBetter_36 ?_
    refine lv_aload_n hx hb dX0_isBetter_37 rfl (lv_at hl 2 rfl) ?_
    refine va_get (D := (dC, dI)) (ci := 0) (v := .ref q_best) (C := RX0) (T := TX0) (N := 4) hx hb hts iw_X0_isBetter_X0 hown hK hP 0 rfl rfl 1 (by decide) (hts (.fieldLink RX0 9 "HeatBench$Board" "best" "[I") (List.mem_of_getElem? (i := 1) rfl)) (fun _ h9 => h9) rfl dX0_isBetter_38 ?_
    refine lv_iload_n hx hb dX0_isBetter_41 rfl (lv_at hl 4 rfl) ?_
    obtain ⟨h_5, hf⟩ := it_n hf
    refine va_iald hx hb hK hP 1 0 rfl rfl h_5 dX0_isBetter_42 ?_
    refine lv_icmp_eq (tgt := 67) hx hb dX0_isBetter_43 (by decide) (fun h_6 => ?_) (fun h_6 => ?_)
    · have hf := it_t h_6 hf
      refine lv_iload_n hx hb dX0_isBetter_67 rfl (lv_at hl 3 rfl) ?_
      refine lv_iload_n hx hb dX0_isBetter_68 rfl (lv_at hl 4 rfl) ?_
      refine lv_icmp_ge (tgt := 76) hx hb dX0_isBetter_69 (by decide) (fun h_7 => ?_) (fun h_7 => ?_)
      · have hf := it_t h_7 hf
        refine lv_iconst (v := 0) hx hb dX0_isBetter_76 (by decide) ?_
        cases hf
        exact W.zret hx hb hr rfl (fun t ht hW => ⟨⟨_, (), rfl, rfl, by rw [ht]; exact hP, hD⟩, hS.F ht⟩) hS.2.2 dX0_isBetter_77
      · have hf := it_f h_7 hf
        refine lv_iconst (v := 1) hx hb dX0_isBetter_72 (by decide) ?_
        refine lv_goto (tgt := 77) hx hb dX0_isBetter_73 (by decide) ?_
        cases hf
        exact W.zret hx hb hr rfl (fun t ht hW => ⟨⟨_, (), rfl, rfl, by rw [ht]; exact hP, hD⟩, hS.F ht⟩) hS.2.2 dX0_isBetter_77
    · have hf := it_f h_6 hf
      refine lv_aload_n hx hb dX0_isBetter_46 rfl (lv_at hl 2 rfl) ?_
      refine va_get (D := (dC, dI)) (ci := 0) (v := .ref q_best) (C := RX0) (T := TX0) (N := 4) hx hb hts iw_X0_isBetter_X0 hown hK hP 0 rfl rfl 1 (by decide) (hts (.fieldLink RX0 9 "HeatBench$Board" "best" "[I") (List.mem_of_getElem? (i := 1) rfl)) (fun _ h9 => h9) rfl dX0_isBetter_47 ?_
      refine lv_iload_n hx hb dX0_isBetter_50 rfl (lv_at hl 3 rfl) ?_
      refine va_iald hx hb hK hP 1 0 rfl rfl h_4 dX0_isBetter_51 ?_
      refine lv_aload_n hx hb dX0_isBetter_52 rfl (lv_at hl 2 rfl) ?_
      refine va_get (D := (dC, dI)) (ci := 0) (v := .ref q_best) (C := RX0) (T := TX0) (N := 4) hx hb hts iw_X0_isBetter_X0 hown hK hP 0 rfl rfl 1 (by decide) (hts (.fieldLink RX0 9 "HeatBench$Board" "best" "[I") (List.mem_of_getElem? (i := 1) rfl)) (fun _ h9 => h9) rfl dX0_isBetter_53 ?_
      refine lv_iload_n hx hb dX0_isBetter_56 rfl (lv_at hl 4 rfl) ?_
      refine va_iald hx hb hK hP 1 0 rfl rfl h_5 dX0_isBetter_57 ?_
      refine lv_icmp_le (tgt := 65) hx hb dX0_isBetter_58 (by decide) (fun h_8 => ?_) (fun h_8 => ?_)
      · have hf := it_t h_8 hf
        refine lv_iconst (v := 0) hx hb dX0_isBetter_65 (by decide) ?_
        cases hf
        exact W.zret hx hb hr rfl (fun t ht hW => ⟨⟨_, (), rfl, rfl, by rw [ht]; exact hP, hD⟩, hS.F ht⟩) hS.2.2 dX0_isBetter_66
      · have hf := it_f h_8 hf
        refine lv_iconst (v := 1) hx hb dX0_isBetter_61 (by decide) ?_
        refine lv_goto (tgt := 66) hx hb dX0_isBetter_62 (by decide) ?_
        cases hf
        exact W.zret hx hb hr rfl (fun t ht hW => ⟨⟨_, (), rfl, rfl, by rw [ht]; exact hP, hD⟩, hS.F ht⟩) hS.2.2 dX0_isBetter_66
  · have hf := it_f h_3 hf
    refine lv_iload_n hx hb dX0_isBetter_19 rfl (lv_at hl 1 rfl) ?_
    refine lv_iload hx hb dX0_isBetter_20 (lv_at hl 0 rfl) ?_
    refine lv_icmp_le (tgt := 29) hx hb dX0_isBetter_22 (by decide) (fun h_9 => ?_) (fun h_9 => ?_)
    · have hf := it_t h_9 hf
      refine lv_iconst (v := 0) hx hb dX0_isBetter_29 (by decide) ?_
      cases hf
      exact W.zret hx hb hr rfl (fun t ht hW => ⟨⟨_, (), rfl, rfl, by rw [ht]; exact hP, hD⟩, hS.F ht⟩) hS.2.2 dX0_isBetter_30
    · have hf := it_f h_9 hf
      refine lv_iconst (v := 1) hx hb dX0_isBetter_25 (by decide) ?_
      refine lv_goto (tgt := 30) hx hb dX0_isBetter_26 (by decide) ?_
      cases hf
      exact W.zret hx hb hr rfl (fun t ht hW => ⟨⟨_, (), rfl, rfl, by rw [ht]; exact hP, hD⟩, hS.F ht⟩) hS.2.2 dX0_isBetter_30
/-! X0_placeOf -/
theorem iw_X0_placeOf_X0 : ∀ w ∈ wsX00, w ∈ wsX0_placeOf := by decide +kernel
set_option maxHeartbeats 4000000 in
set_option maxRecDepth 100000 in
theorem wX0_placeOf_L4 {p : Program} {l : Launch} {e : Env} {s : State} {m : MethodId} {args : Array Value} {below : List Frame} {meth : Method} {c : Code} {dC : Nat → ClassId} {dI : Nat → Nat → Nat} {cI cZ cJ cA : ClassId} {A : Nat → Prop} {h0 : Nat} {v_riders : Int32} {q_best : Nat} {q_second : Nat} {q_faults : Nat} {v_best : Nat → Int32} {v_second : Nat → Int32} {v_faults : Nat → Int32} {x1 : Int32} {r0 : Int32} {N : Nat}  (hx : p.tables.exec = Jvm.exec) (hb : c.code = cX0_placeOf) (hr : meth.sig.returnType = (some .int)) (hml : c.maxLocals = 4) (hown : s.vm.findClass RX0 = some m.cls) (hts : ∀ w ∈ wsX0_placeOf, w.before args s = true) (hlocks : meth.locks = false) (hA : ∀ q : Nat, s.heap.size ≤ q → A q) (hK : va_K (dC, dI) vwCl [(cI, .int), (cZ, .boolean), (cJ, .long), (cA, .array .long)] s) : ∀ (n : Nat) (x2 : Int32) (x3 : Int32) (H : Heap) (locs : List Loc) (ls : Array Slot), va_P (dC, dI) vwCl [(h0, .inr (0, [.int v_riders, .ref q_best, .ref q_second, .ref q_faults])), (q_best, .inl (cI, 4, .inl v_best)), (q_second, .inl (cI, 4, .inl v_second)), (q_faults, .inl (cI, 4, .inl v_faults))] H → va_D A [(h0, .inr (0, [.int v_riders, .ref q_best, .ref q_second, .ref q_faults])), (q_best, .inl (cI, 4, .inl v_best)), (q_second, .inl (cI, 4, .inl v_second)), (q_faults, .inl (cI, 4, .inl v_faults))] → va_S A s.heap H locs → lv_has ls 4 [(0, .ref h0), (1, .int x1), (2, .int x2), (3, .int x3)] → fX0_placeOf_L4 N x1 v_riders v_best v_second v_faults n x2 x3 = some r0 → W p l e (headSpec wsX0_placeOf ({ frames := 2, cells := 0, slots := 0, locals := 45 })).room s m args below meth c H locs 0 0 (MQ below (va_Qi (fun (r9 : Int32) (_ : Unit) => r0 = r9) (fun _ t => va_P (dC, dI) vwCl [(h0, .inr (0, [.int v_riders, .ref q_best, .ref q_second, .ref q_faults])), (q_best, .inl (cI, 4, .inl v_best)), (q_second, .inl (cI, 4, .inl v_second)), (q_faults, .inl (cI, 4, .inl v_faults))] t.heap ∧ va_D A [(h0, .inr (0, [.int v_riders, .ref q_best, .ref q_second, .ref q_faults])), (q_best, .inl (cI, 4, .inl v_best)), (q_second, .inl (cI, 4, .inl v_second)), (q_faults, .inl (cI, 4, .inl v_faults))]) A) args s 0 0 A) (F0 m 4 ls []) := by
  intro n
  induction n with
  | zero =>
    intro x2 x3 H locs ls hP hD hS hl hf
    exact nomatch (show (none : Option (Int32)) = some r0 from hf)
  | succ n ih =>
    intro x2 x3 H locs ls hP hD hS hl hf
    rw [fX0_placeOf_L4] at hf
    refine lv_iload_n hx hb dX0_placeOf_4 rfl (lv_at hl 3 rfl) ?_
    refine lv_aload_n hx hb dX0_placeOf_5 rfl (lv_at hl 0 rfl) ?_
    refine va_get (D := (dC, dI)) (ci := 0) (v := .int v_riders) (C := RX0) (T := TX0) (N := 4) hx hb hts iw_X0_placeOf_X0 hown hK hP 0 rfl rfl 0 (by decide) (hts (.fieldLink RX0 21 "HeatBench$Board" "riders" "I") (List.mem_of_getElem? (i := 1) rfl)) (fun _ h9 => h9) rfl dX0_placeOf_6 ?_
    refine lv_icmp_ge (tgt := 30) hx hb dX0_placeOf_9 (by decide) (fun h_1 => ?_) (fun h_1 => ?_)
    · have hf := it_t h_1 hf
      refine lv_iload_n hx hb dX0_placeOf_30 rfl (lv_at hl 2 rfl) ?_
      cases hf
      exact W.iret hx hb hr (fun t ht hW => ⟨⟨_, (), rfl, rfl, by rw [ht]; exact hP, hD⟩, hS.F ht⟩) hS.2.2 dX0_placeOf_31
    · have hf := it_f h_1 hf
      refine lv_aload_n hx hb dX0_placeOf_12 rfl (lv_at hl 0 rfl) ?_
      refine lv_iload_n hx hb dX0_placeOf_13 rfl (lv_at hl 3 rfl) ?_
      refine lv_iload_n hx hb dX0_placeOf_14 rfl (lv_at hl 1 rfl) ?_
      obtain ⟨r_2, hu_2, hf⟩ := it_b1 hf
      have hPc := hP.sub (ws' := [(h0, .inr (0, [.int v_riders, .ref q_best, .ref q_second, .ref q_faults])), (q_best, .inl (cI, 4, .inl v_best)), (q_second, .inl (cI, 4, .inl v_second)), (q_faults, .inl (cI, 4, .inl v_faults))]) [0, 1, 2, 3] rfl
      have hDc := hD.sub (ws' := [(h0, .inr (0, [.int v_riders, .ref q_best, .ref q_second, .ref q_faults])), (q_best, .inl (cI, 4, .inl v_best)), (q_second, .inl (cI, 4, .inl v_second)), (q_faults, .inl (cI, 4, .inl v_faults))]) [0, 1, 2, 3] (by decide) rfl
      have hFc := va_free (wc := [(h0, .inr (0, [.int v_riders, .ref q_best, .ref q_second, .ref q_faults])), (q_best, .inl (cI, 4, .inl v_best)), (q_second, .inl (cI, 4, .inl v_second)), (q_faults, .inl (cI, 4, .inl v_faults))]) hD hS hA [0, 1, 2, 3] rfl
      refine va_calli (va_runV (As := [.int x3, .int x1]) (rest := []) ⟨hx, hb, hml, hown, hts⟩ (tX0_isBetter l dC dI cI cZ cJ cA H.size h0 v_riders q_best q_second q_faults v_best v_second v_faults x3 x1 N r_2 hu_2) (cwV 2 hts gX0_placeOf_X0_isBetter rfl rfl rfl (by decide +kernel) ⟨Nat.le_of_ble_eq_true rfl, Nat.le_of_ble_eq_true rfl⟩) ⟨fun a U g mk q => by obtain ⟨q0, q1, qP, qK, qD⟩ := q; exact ⟨q0, q1, qP, va_K.moved (u := U) (U := U.calling g mk a) (Vm.Alike.refl U.vm) qK, qD⟩, va_recv hK hPc (ci := 0) (q0 := 0) rfl rfl, fun U hU hW => ⟨rfl, by rw [hU], by rw [hU]; exact hPc, va_K.moved hW.alike hK, hDc.weaken (fun _ _ _ _ => trivial)⟩⟩ rfl rfl hl.1 rfl (lv_room (Nat.le_of_ble_eq_true rfl)) dX0_placeOf_15 ⟨Nat.zero_le _, Nat.zero_le _⟩) hS (fun q _ h => hFc q h) hFc (fun r9 u t H1 locs ht hvm hw hB hz1 hk1 hS => ?_)
      obtain ⟨hP1, hD1⟩ := hB
      rw [ht] at hP1
      obtain ⟨hP, hD⟩ := va_join (wr := []) (w1 := [(h0, .inr (0, [.int v_riders, .ref q_best, .ref q_second, .ref q_faults])), (q_best, .inl (cI, 4, .inl v_best)), (q_second, .inl (cI, 4, .inl v_second)), (q_faults, .inl (cI, 4, .inl v_faults))]) hP hD [0, 1, 2, 3] [] rfl rfl (by decide) (by decide) hk1 hFc hP1 hD1
      clear hP1 hD1 hk1 hz1 hPc hDc hFc
      generalize H1 = H at hP hS ⊢
      have hP : va_P (dC, dI) vwCl [(h0, .inr (0, [.int v_riders, .ref q_best, .ref q_second, .ref q_faults])), (q_best, .inl (cI, 4, .inl v_best)), (q_second, .inl (cI, 4, .inl v_second)), (q_faults, .inl (cI, 4, .inl v_faults))] H := hP
      have hD : va_D A [(h0, .inr (0, [.int v_riders, .ref q_best, .ref q_second, .ref q_faults])), (q_best, .inl (cI, 4, .inl v_best)), (q_second, .inl (cI, 4, .inl v_second)), (q_faults, .inl (cI, 4, .inl v_faults))] := hD
      subst hw
      refine lv_if_eq (tgt := 24) hx hb dX0_placeOf_18 (by decide) (fun h_3 => ?_) (fun h_3 => ?_)
      · have hf := it_t h_3 hf
        refine lv_iinc (v := x3 + 1) (lv' := [(3, .int (x3 + 1)), (0, .ref h0), (1, .int x1), (2, .int x2)]) hx hb dX0_placeOf_24 hl (k := 3) rfl rfl (by decide) rfl (fun ls hl => ?_)
        refine lv_goto (tgt := 4) hx hb dX0_placeOf_27 (by decide) ?_
        exact ih x2 (x3 + 1) H locs ls hP hD hS (lv_sub hl [1, 2, 3, 0] rfl) hf
      · have hf := it_f h_3 hf
        refine lv_iinc (v := x2 + 1) (lv' := [(2, .int (x2 + 1)), (0, .ref h0), (1, .int x1), (3, .int x3)]) hx hb dX0_placeOf_21 hl (k := 2) rfl rfl (by decide) rfl (fun ls hl => ?_)
        refine lv_iinc (v := x3 + 1) (lv' := [(3, .int (x3 + 1)), (2, .int (x2 + 1)), (0, .ref h0), (1, .int x1)]) hx hb dX0_placeOf_24 hl (k := 3) rfl rfl (by decide) rfl (fun ls hl => ?_)
        refine lv_goto (tgt := 4) hx hb dX0_placeOf_27 (by decide) ?_
        exact ih (x2 + 1) (x3 + 1) H locs ls hP hD hS (lv_sub hl [2, 3, 1, 0] rfl) hf
set_option maxHeartbeats 4000000 in
set_option maxRecDepth 100000 in
theorem tX0_placeOf (l : Launch) (dC : Nat → ClassId) (dI : Nat → Nat → Nat) (cI cZ cJ cA : ClassId) (sz : Nat) (h0 : Nat) (v_riders : Int32) (q_best : Nat) (q_second : Nat) (q_faults : Nat) (v_best : Nat → Int32) (v_second : Nat → Int32) (v_faults : Nat → Int32) (x1 : Int32) (N : Nat) (r0 : Int32) (hf : fX0_placeOf N x1 v_riders v_best v_second v_faults = some r0) : Met l yX0_placeOf wsX0_placeOf ({ frames := 2, cells := 0, slots := 0, locals := 45 }) (va_Pc [.ref h0, .int x1] (fun U => U.heap.size = sz ∧ va_P (dC, dI) vwCl [(h0, .inr (0, [.int v_riders, .ref q_best, .ref q_second, .ref q_faults])), (q_best, .inl (cI, 4, .inl v_best)), (q_second, .inl (cI, 4, .inl v_second)), (q_faults, .inl (cI, 4, .inl v_faults))] U.heap ∧ va_K (dC, dI) vwCl [(cI, .int), (cZ, .boolean), (cJ, .long), (cA, .array .long)] U ∧ va_D (fun _ => True) [(h0, .inr (0, [.int v_riders, .ref q_best, .ref q_second, .ref q_faults])), (q_best, .inl (cI, 4, .inl v_best)), (q_second, .inl (cI, 4, .inl v_second)), (q_faults, .inl (cI, 4, .inl v_faults))])) (va_Qi (fun (r9 : Int32) (_ : Unit) => r0 = r9) (fun _ t => va_P (dC, dI) vwCl [(h0, .inr (0, [.int v_riders, .ref q_best, .ref q_second, .ref q_faults])), (q_best, .inl (cI, 4, .inl v_best)), (q_second, .inl (cI, 4, .inl v_second)), (q_faults, .inl (cI, 4, .inl v_faults))] t.heap ∧ va_D (va_A [(h0, .inr (0, [.int v_riders, .ref q_best, .ref q_second, .ref q_faults])), (q_best, .inl (cI, 4, .inl v_best)), (q_second, .inl (cI, 4, .inl v_second)), (q_faults, .inl (cI, 4, .inl v_faults))] sz) [(h0, .inr (0, [.int v_riders, .ref q_best, .ref q_second, .ref q_faults])), (q_best, .inl (cI, 4, .inl v_best)), (q_second, .inl (cI, 4, .inl v_second)), (q_faults, .inl (cI, 4, .inl v_faults))]) (va_A [(h0, .inr (0, [.int v_riders, .ref q_best, .ref q_second, .ref q_faults])), (q_best, .inl (cI, 4, .inl v_best)), (q_second, .inl (cI, 4, .inl v_second)), (q_faults, .inl (cI, 4, .inl v_faults))] sz)) 0 0 (va_A [(h0, .inr (0, [.int v_riders, .ref q_best, .ref q_second, .ref q_faults])), (q_best, .inl (cI, 4, .inl v_best)), (q_second, .inl (cI, 4, .inl v_second)), (q_faults, .inl (cI, 4, .inl v_faults))] sz) := by
  refine Met.ofW (cc := cX0_placeOf) (maxL := 4) (ret := (some .int)) (by decide) rfl ?_
  intro p e s m args below meth c s₁ B hml hv
  obtain ⟨rfl, hsz, hP, hK, hD0⟩ := hv
  have hx := B.exec
  have hb := B.bytes
  have hr := B.returns
  have hts := atoms_spec (ws := wsX0_placeOf) B.pre
  have hown : s.vm.findClass RX0 = some m.cls := findClass_of_methodNamed B.named
  have hlocks := B.notSynchronized
  subst hsz
  have hD := hD0.self (sz := s.heap.size)
  generalize hAe : va_A [(h0, .inr (0, [.int v_riders, .ref q_best, .ref q_second, .ref q_faults])), (q_best, .inl (cI, 4, .inl v_best)), (q_second, .inl (cI, 4, .inl v_second)), (q_faults, .inl (cI, 4, .inl v_faults))] s.heap.size = A at hD ⊢
  have hA : ∀ q : Nat, s.heap.size ≤ q → A q := fun q h => by rw [← hAe]; exact Or.inr h
  have hS : va_S A s.heap s.heap [] := va_S.rf
  have hl := lv_entry ([.ref h0, .int x1]) (n := 4) (Nat.le_of_ble_eq_true rfl)
  rw [lg_entry_eq]
  generalize (lg_sl ([.ref h0, .int x1]) ++ List.replicate (4 - (lg_sl ([.ref h0, .int x1])).length) Slot.unset).toArray = ls at hl ⊢
  have hl : lv_has ls 4 [(0, .ref h0), (1, .int x1)] := hl
  refine vx_gen hP hS (fun H locs hP hS => ?_)
  unfold fX0_placeOf at hf
  refine lv_iconst (v := 0) hx hb dX0_placeOf_0 (by decide) ?_
  refine lv_istore_n (lv' := [(2, .int 0), (0, .ref h0), (1, .int x1)]) hx hb dX0_placeOf_1 rfl hl (by decide) rfl (fun ls hl => ?_)
  refine lv_iconst (v := 0) hx hb dX0_placeOf_2 (by decide) ?_
  refine lv_istore_n (lv' := [(3, .int 0), (2, .int 0), (0, .ref h0), (1, .int x1)]) hx hb dX0_placeOf_3 rfl hl (by decide) rfl (fun ls hl => ?_)
  exact wX0_placeOf_L4 hx hb hr hml hown hts hlocks hA hK N 0 0 H locs ls hP hD hS (lv_sub hl [2, 3, 1, 0] rfl) hf
/-! X0_allFaults -/
theorem iw_X0_allFaults_X0 : ∀ w ∈ wsX00, w ∈ wsX0_allFaults := by decide +kernel
set_option maxHeartbeats 4000000 in
set_option maxRecDepth 100000 in
theorem wX0_allFaults_L4 {p : Program} {l : Launch} {e : Env} {s : State} {m : MethodId} {args : Array Value} {below : List Frame} {meth : Method} {c : Code} {dC : Nat → ClassId} {dI : Nat → Nat → Nat} {cI cZ cJ cA : ClassId} {A : Nat → Prop} {h0 : Nat} {v_riders : Int32} {q_best : Nat} {q_second : Nat} {q_faults : Nat} {v_faults : Nat → Int32}  {r0 : Int32} {N : Nat}  (hx : p.tables.exec = Jvm.exec) (hb : c.code = cX0_allFaults) (hr : meth.sig.returnType = (some .int)) (hml : c.maxLocals = 3) (hown : s.vm.findClass RX0 = some m.cls) (hts : ∀ w ∈ wsX0_allFaults, w.before args s = true) (hlocks : meth.locks = false) (hA : ∀ q : Nat, s.heap.size ≤ q → A q) (hK : va_K (dC, dI) vwCl [(cI, .int), (cZ, .boolean), (cJ, .long), (cA, .array .long)] s) : ∀ (n : Nat) (x1 : Int32) (x2 : Int32) (H : Heap) (locs : List Loc) (ls : Array Slot), va_P (dC, dI) vwCl [(h0, .inr (0, [.int v_riders, .ref q_best, .ref q_second, .ref q_faults])), (q_faults, .inl (cI, 4, .inl v_faults))] H → va_D A [(h0, .inr (0, [.int v_riders, .ref q_best, .ref q_second, .ref q_faults])), (q_faults, .inl (cI, 4, .inl v_faults))] → va_S A s.heap H locs → lv_has ls 3 [(0, .ref h0), (1, .int x1), (2, .int x2)] → fX0_allFaults_L4 N v_riders v_faults n x1 x2 = some r0 → W p l e (headSpec wsX0_allFaults ({ frames := 0, cells := 0, slots := 0, locals := 0 })).room s m args below meth c H locs 0 0 (MQ below (va_Qi (fun (r9 : Int32) (_ : Unit) => r0 = r9) (fun _ t => va_P (dC, dI) vwCl [(h0, .inr (0, [.int v_riders, .ref q_best, .ref q_second, .ref q_faults])), (q_faults, .inl (cI, 4, .inl v_faults))] t.heap ∧ va_D A [(h0, .inr (0, [.int v_riders, .ref q_best, .ref q_second, .ref q_faults])), (q_faults, .inl (cI, 4, .inl v_faults))]) A) args s 0 0 A) (F0 m 4 ls []) := by
  intro n
  induction n with
  | zero =>
    intro x1 x2 H locs ls hP hD hS hl hf
    exact nomatch (show (none : Option (Int32)) = some r0 from hf)
  | succ n ih =>
    intro x1 x2 H locs ls hP hD hS hl hf
    rw [fX0_allFaults_L4] at hf
    refine lv_iload_n hx hb dX0_allFaults_4 rfl (lv_at hl 2 rfl) ?_
    refine lv_aload_n hx hb dX0_allFaults_5 rfl (lv_at hl 0 rfl) ?_
    refine va_get (D := (dC, dI)) (ci := 0) (v := .int v_riders) (C := RX0) (T := TX0) (N := 4) hx hb hts iw_X0_allFaults_X0 hown hK hP 0 rfl rfl 0 (by decide) (hts (.fieldLink RX0 21 "HeatBench$Board" "riders" "I") (List.mem_of_getElem? (i := 1) rfl)) (fun _ h9 => h9) rfl dX0_allFaults_6 ?_
    refine lv_icmp_ge (tgt := 27) hx hb dX0_allFaults_9 (by decide) (fun h_1 => ?_) (fun h_1 => ?_)
    · have hf := it_t h_1 hf
      refine lv_iload_n hx hb dX0_allFaults_27 rfl (lv_at hl 1 rfl) ?_
      cases hf
      exact W.iret hx hb hr (fun t ht hW => ⟨⟨_, (), rfl, rfl, by rw [ht]; exact hP, hD⟩, hS.F ht⟩) hS.2.2 dX0_allFaults_28
    · have hf := it_f h_1 hf
      refine lv_iload_n hx hb dX0_allFaults_12 rfl (lv_at hl 1 rfl) ?_
      refine lv_aload_n hx hb dX0_allFaults_13 rfl (lv_at hl 0 rfl) ?_
      refine va_get (D := (dC, dI)) (ci := 0) (v := .ref q_faults) (C := RX0) (T := TX0) (N := 4) hx hb hts iw_X0_allFaults_X0 hown hK hP 0 rfl rfl 3 (by decide) (hts (.fieldLink RX0 18 "HeatBench$Board" "faults" "[I") (List.mem_of_getElem? (i := 2) rfl)) (fun _ h9 => h9) rfl dX0_allFaults_14 ?_
      refine lv_iload_n hx hb dX0_allFaults_17 rfl (lv_at hl 2 rfl) ?_
      obtain ⟨h_2, hf⟩ := it_n hf
      refine va_iald hx hb hK hP 1 0 rfl rfl h_2 dX0_allFaults_18 ?_
      refine lv_iadd hx hb dX0_allFaults_19 ?_
      refine lv_istore_n (lv' := [(1, .int (x1 + (v_faults x2.toNatClampNeg))), (0, .ref h0), (2, .int x2)]) hx hb dX0_allFaults_20 rfl hl (by decide) rfl (fun ls hl => ?_)
      refine lv_iinc (v := x2 + 1) (lv' := [(2, .int (x2 + 1)), (1, .int (x1 + (v_faults x2.toNatClampNeg))), (0, .ref h0)]) hx hb dX0_allFaults_21 hl (k := 2) rfl rfl (by decide) rfl (fun ls hl => ?_)
      refine lv_goto (tgt := 4) hx hb dX0_allFaults_24 (by decide) ?_
      exact ih (x1 + (v_faults x2.toNatClampNeg)) (x2 + 1) H locs ls hP hD hS (lv_sub hl [2, 1, 0] rfl) hf
set_option maxHeartbeats 4000000 in
set_option maxRecDepth 100000 in
theorem tX0_allFaults (l : Launch) (dC : Nat → ClassId) (dI : Nat → Nat → Nat) (cI cZ cJ cA : ClassId) (sz : Nat) (h0 : Nat) (v_riders : Int32) (q_best : Nat) (q_second : Nat) (q_faults : Nat) (v_faults : Nat → Int32)  (N : Nat) (r0 : Int32) (hf : fX0_allFaults N v_riders v_faults = some r0) : Met l yX0_allFaults wsX0_allFaults ({ frames := 0, cells := 0, slots := 0, locals := 0 }) (va_Pc [.ref h0] (fun U => U.heap.size = sz ∧ va_P (dC, dI) vwCl [(h0, .inr (0, [.int v_riders, .ref q_best, .ref q_second, .ref q_faults])), (q_faults, .inl (cI, 4, .inl v_faults))] U.heap ∧ va_K (dC, dI) vwCl [(cI, .int), (cZ, .boolean), (cJ, .long), (cA, .array .long)] U ∧ va_D (fun _ => True) [(h0, .inr (0, [.int v_riders, .ref q_best, .ref q_second, .ref q_faults])), (q_faults, .inl (cI, 4, .inl v_faults))])) (va_Qi (fun (r9 : Int32) (_ : Unit) => r0 = r9) (fun _ t => va_P (dC, dI) vwCl [(h0, .inr (0, [.int v_riders, .ref q_best, .ref q_second, .ref q_faults])), (q_faults, .inl (cI, 4, .inl v_faults))] t.heap ∧ va_D (va_A [(h0, .inr (0, [.int v_riders, .ref q_best, .ref q_second, .ref q_faults])), (q_faults, .inl (cI, 4, .inl v_faults))] sz) [(h0, .inr (0, [.int v_riders, .ref q_best, .ref q_second, .ref q_faults])), (q_faults, .inl (cI, 4, .inl v_faults))]) (va_A [(h0, .inr (0, [.int v_riders, .ref q_best, .ref q_second, .ref q_faults])), (q_faults, .inl (cI, 4, .inl v_faults))] sz)) 0 0 (va_A [(h0, .inr (0, [.int v_riders, .ref q_best, .ref q_second, .ref q_faults])), (q_faults, .inl (cI, 4, .inl v_faults))] sz) := by
  refine Met.ofW (cc := cX0_allFaults) (maxL := 3) (ret := (some .int)) (by decide) rfl ?_
  intro p e s m args below meth c s₁ B hml hv
  obtain ⟨rfl, hsz, hP, hK, hD0⟩ := hv
  have hx := B.exec
  have hb := B.bytes
  have hr := B.returns
  have hts := atoms_spec (ws := wsX0_allFaults) B.pre
  have hown : s.vm.findClass RX0 = some m.cls := findClass_of_methodNamed B.named
  have hlocks := B.notSynchronized
  subst hsz
  have hD := hD0.self (sz := s.heap.size)
  generalize hAe : va_A [(h0, .inr (0, [.int v_riders, .ref q_best, .ref q_second, .ref q_faults])), (q_faults, .inl (cI, 4, .inl v_faults))] s.heap.size = A at hD ⊢
  have hA : ∀ q : Nat, s.heap.size ≤ q → A q := fun q h => by rw [← hAe]; exact Or.inr h
  have hS : va_S A s.heap s.heap [] := va_S.rf
  have hl := lv_entry ([.ref h0]) (n := 3) (Nat.le_of_ble_eq_true rfl)
  rw [lg_entry_eq]
  generalize (lg_sl ([.ref h0]) ++ List.replicate (3 - (lg_sl ([.ref h0])).length) Slot.unset).toArray = ls at hl ⊢
  have hl : lv_has ls 3 [(0, .ref h0)] := hl
  refine vx_gen hP hS (fun H locs hP hS => ?_)
  unfold fX0_allFaults at hf
  refine lv_iconst (v := 0) hx hb dX0_allFaults_0 (by decide) ?_
  refine lv_istore_n (lv' := [(1, .int 0), (0, .ref h0)]) hx hb dX0_allFaults_1 rfl hl (by decide) rfl (fun ls hl => ?_)
  refine lv_iconst (v := 0) hx hb dX0_allFaults_2 (by decide) ?_
  refine lv_istore_n (lv' := [(2, .int 0), (1, .int 0), (0, .ref h0)]) hx hb dX0_allFaults_3 rfl hl (by decide) rfl (fun ls hl => ?_)
  exact wX0_allFaults_L4 hx hb hr hml hown hts hlocks hA hK N 0 0 H locs ls hP hD hS (lv_sub hl [2, 1, 0] rfl) hf
