/-! X4_sumOf -/
theorem iw_X4_sumOf_X4 : ∀ w ∈ wsX40, w ∈ wsX4_sumOf := by decide +kernel
set_option maxHeartbeats 4000000 in
set_option maxRecDepth 100000 in
theorem wX4_sumOf_L4 {p : Program} {l : Launch} {e : Env} {s : State} {m : MethodId} {args : Array Value} {below : List Frame} {meth : Method} {c : Code} {dC : Nat → ClassId} {dI : Nat → Nat → Nat} {cI cZ cJ cA : ClassId} {A : Nat → Prop} {h0 : Nat} {v_days : Int32} {q_from : Nat} {q_to : Nat} {q_known : Nat} {q_above : Nat} {q_below : Nat} {v_known : Nat → Int32} {x1 : Int32} {r0 : Int32} {N : Nat}  (hx : p.tables.exec = Jvm.exec) (hb : c.code = cX4_sumOf) (hr : meth.sig.returnType = (some .int)) (hml : c.maxLocals = 4) (hown : s.vm.findClass RX4 = some m.cls) (hts : ∀ w ∈ wsX4_sumOf, w.before args s = true) (hlocks : meth.locks = false) (hA : ∀ q : Nat, s.heap.size ≤ q → A q) (hK : va_K (dC, dI) vwCl [(cI, .int), (cZ, .boolean), (cJ, .long), (cA, .array .long)] s) : ∀ (n : Nat) (x2 : Int32) (x3 : Int32) (H : Heap) (locs : List Loc) (ls : Array Slot), va_P (dC, dI) vwCl [(h0, .inr (4, [.int v_days, .ref q_from, .ref q_to, .ref q_known, .ref q_above, .ref q_below])), (q_known, .inl (cI, 9, .inl v_known))] H → va_D A [(h0, .inr (4, [.int v_days, .ref q_from, .ref q_to, .ref q_known, .ref q_above, .ref q_below])), (q_known, .inl (cI, 9, .inl v_known))] → va_S A s.heap H locs → lv_has ls 4 [(0, .ref h0), (1, .int x1), (2, .int x2), (3, .int x3)] → fX4_sumOf_L4 N x1 v_days v_known n x2 x3 = some r0 → W p l e (headSpec wsX4_sumOf ({ frames := 0, cells := 0, slots := 0, locals := 0 })).room s m args below meth c H locs 0 0 (MQ below (va_Qi (fun (r9 : Int32) (_ : Unit) => r0 = r9) (fun _ t => va_P (dC, dI) vwCl [(h0, .inr (4, [.int v_days, .ref q_from, .ref q_to, .ref q_known, .ref q_above, .ref q_below])), (q_known, .inl (cI, 9, .inl v_known))] t.heap ∧ va_D A [(h0, .inr (4, [.int v_days, .ref q_from, .ref q_to, .ref q_known, .ref q_above, .ref q_below])), (q_known, .inl (cI, 9, .inl v_known))]) A) args s 0 0 A) (F0 m 4 ls []) := by
  intro n
  induction n with
  | zero =>
    intro x2 x3 H locs ls hP hD hS hl hf
    exact nomatch (show (none : Option (Int32)) = some r0 from hf)
  | succ n ih =>
    intro x2 x3 H locs ls hP hD hS hl hf
    rw [fX4_sumOf_L4] at hf
    refine lv_iload_n hx hb dX4_sumOf_4 rfl (lv_at hl 3 rfl) ?_
    refine lv_aload_n hx hb dX4_sumOf_5 rfl (lv_at hl 0 rfl) ?_
    refine va_get (D := (dC, dI)) (ci := 4) (v := .int v_days) (C := RX4) (T := TX4) (N := 6) hx hb hts iw_X4_sumOf_X4 hown hK hP 0 rfl rfl 0 (by decide) (hts (.fieldLink RX4 34 "HeatBench$Wait" "days" "I") (List.mem_of_getElem? (i := 1) rfl)) (fun _ h9 => h9) rfl dX4_sumOf_6 ?_
    refine lv_icmp_ge (tgt := 36) hx hb dX4_sumOf_9 (by decide) (fun h_1 => ?_) (fun h_1 => ?_)
    · have hf := it_t h_1 hf
      refine lv_iload_n hx hb dX4_sumOf_36 rfl (lv_at hl 2 rfl) ?_
      cases hf
      exact W.iret hx hb hr (fun t ht hW => ⟨⟨_, (), rfl, rfl, by rw [ht]; exact hP, hD⟩, hS.F ht⟩) hS.2.2 dX4_sumOf_37
    · have hf := it_f h_1 hf
      refine lv_iload_n hx hb dX4_sumOf_12 rfl (lv_at hl 1 rfl) ?_
      refine lv_iload_n hx hb dX4_sumOf_13 rfl (lv_at hl 3 rfl) ?_
      refine lv_ishr hx hb dX4_sumOf_14 ?_
      refine lv_iconst (v := 1) hx hb dX4_sumOf_15 (by decide) ?_
      refine lv_iand hx hb dX4_sumOf_16 ?_
      refine lv_iconst (v := 1) hx hb dX4_sumOf_17 (by decide) ?_
      refine lv_icmp_ne (tgt := 30) hx hb dX4_sumOf_18 (by decide) (fun h_2 => ?_) (fun h_2 => ?_)
      · have hf := it_f h_2 hf
        refine lv_iinc (v := x3 + 1) (lv' := [(3, .int (x3 + 1)), (0, .ref h0), (1, .int x1), (2, .int x2)]) hx hb dX4_sumOf_30 hl (k := 3) rfl rfl (by decide) rfl (fun ls hl => ?_)
        refine lv_goto (tgt := 4) hx hb dX4_sumOf_33 (by decide) ?_
        exact ih x2 (x3 + 1) H locs ls hP hD hS (lv_sub hl [1, 2, 3, 0] rfl) hf
      · have hf := it_t h_2 hf
        refine lv_iload_n hx hb dX4_sumOf_21 rfl (lv_at hl 2 rfl) ?_
        refine lv_aload_n hx hb dX4_sumOf_22 rfl (lv_at hl 0 rfl) ?_
        refine va_get (D := (dC, dI)) (ci := 4) (v := .ref q_known) (C := RX4) (T := TX4) (N := 6) hx hb hts iw_X4_sumOf_X4 hown hK hP 0 rfl rfl 3 (by decide) (hts (.fieldLink RX4 18 "HeatBench$Wait" "known" "[I") (List.mem_of_getElem? (i := 2) rfl)) (fun _ h9 => h9) rfl dX4_sumOf_23 ?_
        refine lv_iload_n hx hb dX4_sumOf_26 rfl (lv_at hl 3 rfl) ?_
        obtain ⟨h_3, hf⟩ := it_n hf
        refine va_iald hx hb hK hP 1 0 rfl rfl h_3 dX4_sumOf_27 ?_
        refine lv_iadd hx hb dX4_sumOf_28 ?_
        refine lv_istore_n (lv' := [(2, .int (x2 + (v_known x3.toNatClampNeg))), (0, .ref h0), (1, .int x1), (3, .int x3)]) hx hb dX4_sumOf_29 rfl hl (by decide) rfl (fun ls hl => ?_)
        refine lv_iinc (v := x3 + 1) (lv' := [(3, .int (x3 + 1)), (2, .int (x2 + (v_known x3.toNatClampNeg))), (0, .ref h0), (1, .int x1)]) hx hb dX4_sumOf_30 hl (k := 3) rfl rfl (by decide) rfl (fun ls hl => ?_)
        refine lv_goto (tgt := 4) hx hb dX4_sumOf_33 (by decide) ?_
        exact ih (x2 + (v_known x3.toNatClampNeg)) (x3 + 1) H locs ls hP hD hS (lv_sub hl [2, 3, 1, 0] rfl) hf
set_option maxHeartbeats 4000000 in
set_option maxRecDepth 100000 in
theorem tX4_sumOf (l : Launch) (dC : Nat → ClassId) (dI : Nat → Nat → Nat) (cI cZ cJ cA : ClassId) (sz : Nat) (h0 : Nat) (v_days : Int32) (q_from : Nat) (q_to : Nat) (q_known : Nat) (q_above : Nat) (q_below : Nat) (v_known : Nat → Int32) (x1 : Int32) (N : Nat) (r0 : Int32) (hf : fX4_sumOf N x1 v_days v_known = some r0) : Met l yX4_sumOf wsX4_sumOf ({ frames := 0, cells := 0, slots := 0, locals := 0 }) (va_Pc [.ref h0, .int x1] (fun U => U.heap.size = sz ∧ va_P (dC, dI) vwCl [(h0, .inr (4, [.int v_days, .ref q_from, .ref q_to, .ref q_known, .ref q_above, .ref q_below])), (q_known, .inl (cI, 9, .inl v_known))] U.heap ∧ va_K (dC, dI) vwCl [(cI, .int), (cZ, .boolean), (cJ, .long), (cA, .array .long)] U ∧ va_D (fun _ => True) [(h0, .inr (4, [.int v_days, .ref q_from, .ref q_to, .ref q_known, .ref q_above, .ref q_below])), (q_known, .inl (cI, 9, .inl v_known))])) (va_Qi (fun (r9 : Int32) (_ : Unit) => r0 = r9) (fun _ t => va_P (dC, dI) vwCl [(h0, .inr (4, [.int v_days, .ref q_from, .ref q_to, .ref q_known, .ref q_above, .ref q_below])), (q_known, .inl (cI, 9, .inl v_known))] t.heap ∧ va_D (va_A [(h0, .inr (4, [.int v_days, .ref q_from, .ref q_to, .ref q_known, .ref q_above, .ref q_below])), (q_known, .inl (cI, 9, .inl v_known))] sz) [(h0, .inr (4, [.int v_days, .ref q_from, .ref q_to, .ref q_known, .ref q_above, .ref q_below])), (q_known, .inl (cI, 9, .inl v_known))]) (va_A [(h0, .inr (4, [.int v_days, .ref q_from, .ref q_to, .ref q_known, .ref q_above, .ref q_below])), (q_known, .inl (cI, 9, .inl v_known))] sz)) 0 0 (va_A [(h0, .inr (4, [.int v_days, .ref q_from, .ref q_to, .ref q_known, .ref q_above, .ref q_below])), (q_known, .inl (cI, 9, .inl v_known))] sz) := by
  refine Met.ofW (cc := cX4_sumOf) (maxL := 4) (ret := (some .int)) (by decide) rfl ?_
  intro p e s m args below meth c s₁ B hml hv
  obtain ⟨rfl, hsz, hP, hK, hD0⟩ := hv
  have hx := B.exec
  have hb := B.bytes
  have hr := B.returns
  have hts := atoms_spec (ws := wsX4_sumOf) B.pre
  have hown : s.vm.findClass RX4 = some m.cls := findClass_of_methodNamed B.named
  have hlocks := B.notSynchronized
  subst hsz
  have hD := hD0.self (sz := s.heap.size)
  generalize hAe : va_A [(h0, .inr (4, [.int v_days, .ref q_from, .ref q_to, .ref q_known, .ref q_above, .ref q_below])), (q_known, .inl (cI, 9, .inl v_known))] s.heap.size = A at hD ⊢
  have hA : ∀ q : Nat, s.heap.size ≤ q → A q := fun q h => by rw [← hAe]; exact Or.inr h
  have hS : va_S A s.heap s.heap [] := va_S.rf
  have hl := lv_entry ([.ref h0, .int x1]) (n := 4) (Nat.le_of_ble_eq_true rfl)
  rw [lg_entry_eq]
  generalize (lg_sl ([.ref h0, .int x1]) ++ List.replicate (4 - (lg_sl ([.ref h0, .int x1])).length) Slot.unset).toArray = ls at hl ⊢
  have hl : lv_has ls 4 [(0, .ref h0), (1, .int x1)] := hl
  refine vx_gen hP hS (fun H locs hP hS => ?_)
  unfold fX4_sumOf at hf
  refine lv_iconst (v := 0) hx hb dX4_sumOf_0 (by decide) ?_
  refine lv_istore_n (lv' := [(2, .int 0), (0, .ref h0), (1, .int x1)]) hx hb dX4_sumOf_1 rfl hl (by decide) rfl (fun ls hl => ?_)
  refine lv_iconst (v := 0) hx hb dX4_sumOf_2 (by decide) ?_
  refine lv_istore_n (lv' := [(3, .int 0), (2, .int 0), (0, .ref h0), (1, .int x1)]) hx hb dX4_sumOf_3 rfl hl (by decide) rfl (fun ls hl => ?_)
  exact wX4_sumOf_L4 hx hb hr hml hown hts hlocks hA hK N 0 0 H locs ls hP hD hS (lv_sub hl [2, 3, 1, 0] rfl) hf
/-! X4_greatestSum -/
theorem iw_X4_greatestSum_X4 : ∀ w ∈ wsX40, w ∈ wsX4_greatestSum := by decide +kernel
set_option maxHeartbeats 4000000 in
set_option maxRecDepth 100000 in
theorem wX4_greatestSum_L16 {p : Program} {l : Launch} {e : Env} {s : State} {m : MethodId} {args : Array Value} {below : List Frame} {meth : Method} {c : Code} {dC : Nat → ClassId} {dI : Nat → Nat → Nat} {cI cZ cJ cA : ClassId} {A : Nat → Prop} {h0 : Nat} {v_days : Int32} {q_from : Nat} {q_to : Nat} {q_known : Nat} {q_above : Nat} {q_below : Nat} {v_known : Nat → Int32} {x4 : Int32} {r0 : Int32} {N : Nat} {k : Int32 → Int32 → Int32 → Option (Int32)} (hx : p.tables.exec = Jvm.exec) (hb : c.code = cX4_greatestSum) (hr : meth.sig.returnType = (some .int)) (hml : c.maxLocals = 6) (hown : s.vm.findClass RX4 = some m.cls) (hts : ∀ w ∈ wsX4_greatestSum, w.before args s = true) (hlocks : meth.locks = false) (hA : ∀ q : Nat, s.heap.size ≤ q → A q) (hK : va_K (dC, dI) vwCl [(cI, .int), (cZ, .boolean), (cJ, .long), (cA, .array .long)] s) : ∀ (n : Nat) (x2 : Int32) (x3 : Int32) (x5 : Int32) (H : Heap) (locs : List Loc) (ls : Array Slot), va_P (dC, dI) vwCl [(h0, .inr (4, [.int v_days, .ref q_from, .ref q_to, .ref q_known, .ref q_above, .ref q_below])), (q_known, .inl (cI, 9, .inl v_known))] H → va_D A [(h0, .inr (4, [.int v_days, .ref q_from, .ref q_to, .ref q_known, .ref q_above, .ref q_below])), (q_known, .inl (cI, 9, .inl v_known))] → va_S A s.heap H locs → lv_has ls 6 [(0, .ref h0), (2, .int x2), (3, .int x3), (4, .int x4), (5, .int x5)] → fX4_greatestSum_L16 N x4 v_days v_known k n x2 x3 x5 = some r0 → (∀ (x2' : Int32) (x3' : Int32) (x5' : Int32) (H : Heap) (locs : List Loc) (ls : Array Slot), va_P (dC, dI) vwCl [(h0, .inr (4, [.int v_days, .ref q_from, .ref q_to, .ref q_known, .ref q_above, .ref q_below])), (q_known, .inl (cI, 9, .inl v_known))] H → va_D A [(h0, .inr (4, [.int v_days, .ref q_from, .ref q_to, .ref q_known, .ref q_above, .ref q_below])), (q_known, .inl (cI, 9, .inl v_known))] → va_S A s.heap H locs → lv_has ls 6 [(0, .ref h0), (2, .int x2'), (3, .int x3'), (4, .int x4)] → k x2' x3' x5' = some r0 → W p l e (headSpec wsX4_greatestSum ({ frames := 0, cells := 0, slots := 0, locals := 0 })).room s m args below meth c H locs 0 0 (MQ below (va_Qi (fun (r9 : Int32) (_ : Unit) => r0 = r9) (fun _ t => va_P (dC, dI) vwCl [(h0, .inr (4, [.int v_days, .ref q_from, .ref q_to, .ref q_known, .ref q_above, .ref q_below])), (q_known, .inl (cI, 9, .inl v_known))] t.heap ∧ va_D A [(h0, .inr (4, [.int v_days, .ref q_from, .ref q_to, .ref q_known, .ref q_above, .ref q_below])), (q_known, .inl (cI, 9, .inl v_known))]) A) args s 0 0 A) (F0 m 55 ls [])) → W p l e (headSpec wsX4_greatestSum ({ frames := 0, cells := 0, slots := 0, locals := 0 })).room s m args below meth c H locs 0 0 (MQ below (va_Qi (fun (r9 : Int32) (_ : Unit) => r0 = r9) (fun _ t => va_P (dC, dI) vwCl [(h0, .inr (4, [.int v_days, .ref q_from, .ref q_to, .ref q_known, .ref q_above, .ref q_below])), (q_known, .inl (cI, 9, .inl v_known))] t.heap ∧ va_D A [(h0, .inr (4, [.int v_days, .ref q_from, .ref q_to, .ref q_known, .ref q_above, .ref q_below])), (q_known, .inl (cI, 9, .inl v_known))]) A) args s 0 0 A) (F0 m 16 ls []) := by
  intro n
  induction n with
  | zero =>
    intro x2 x3 x5 H locs ls hP hD hS hl hf kk
    exact nomatch (show (none : Option (Int32)) = some r0 from hf)
  | succ n ih =>
    intro x2 x3 x5 H locs ls hP hD hS hl hf kk
    rw [fX4_greatestSum_L16] at hf
    refine lv_iload hx hb dX4_greatestSum_16 (lv_at hl 4 rfl) ?_
    refine lv_aload_n hx hb dX4_greatestSum_18 rfl (lv_at hl 0 rfl) ?_
    refine va_get (D := (dC, dI)) (ci := 4) (v := .int v_days) (C := RX4) (T := TX4) (N := 6) hx hb hts iw_X4_greatestSum_X4 hown hK hP 0 rfl rfl 0 (by decide) (hts (.fieldLink RX4 34 "HeatBench$Wait" "days" "I") (List.mem_of_getElem? (i := 1) rfl)) (fun _ h9 => h9) rfl dX4_greatestSum_19 ?_
    refine lv_icmp_ge (tgt := 55) hx hb dX4_greatestSum_22 (by decide) (fun h_2 => ?_) (fun h_2 => ?_)
    · have hf := it_t h_2 hf
      exact kk x2 x3 x5 H locs ls hP hD hS (lv_sub hl [0, 1, 2, 3] rfl) hf
    · have hf := it_f h_2 hf
      refine lv_aload_n hx hb dX4_greatestSum_25 rfl (lv_at hl 0 rfl) ?_
      refine va_get (D := (dC, dI)) (ci := 4) (v := .ref q_known) (C := RX4) (T := TX4) (N := 6) hx hb hts iw_X4_greatestSum_X4 hown hK hP 0 rfl rfl 3 (by decide) (hts (.fieldLink RX4 18 "HeatBench$Wait" "known" "[I") (List.mem_of_getElem? (i := 2) rfl)) (fun _ h9 => h9) rfl dX4_greatestSum_26 ?_
      refine lv_iload hx hb dX4_greatestSum_29 (lv_at hl 4 rfl) ?_
      obtain ⟨h_3, hf⟩ := it_n hf
      refine va_iald hx hb hK hP 1 0 rfl rfl h_3 dX4_greatestSum_31 ?_
      refine lv_iload hx hb dX4_greatestSum_32 (lv_at hl 3 rfl) ?_
      refine lv_icmp_ne (tgt := 49) hx hb dX4_greatestSum_34 (by decide) (fun h_4 => ?_) (fun h_4 => ?_)
      · have hf := it_f h_4 hf
        refine lv_iinc (v := x5 + 1) (lv' := [(5, .int (x5 + 1)), (0, .ref h0), (2, .int x2), (3, .int x3), (4, .int x4)]) hx hb dX4_greatestSum_49 hl (k := 4) rfl rfl (by decide) rfl (fun ls hl => ?_)
        refine lv_goto (tgt := 16) hx hb dX4_greatestSum_52 (by decide) ?_
        exact ih x2 x3 (x5 + 1) H locs ls hP hD hS (lv_sub hl [1, 2, 3, 4, 0] rfl) hf kk
      · have hf := it_t h_4 hf
        refine lv_iload_n hx hb dX4_greatestSum_37 rfl (lv_at hl 2 rfl) ?_
        refine lv_if_le (tgt := 49) hx hb dX4_greatestSum_38 (by decide) (fun h_5 => ?_) (fun h_5 => ?_)
        · have hf := it_t h_5 hf
          refine lv_iinc (v := x5 + 1) (lv' := [(5, .int (x5 + 1)), (0, .ref h0), (2, .int x2), (3, .int x3), (4, .int x4)]) hx hb dX4_greatestSum_49 hl (k := 4) rfl rfl (by decide) rfl (fun ls hl => ?_)
          refine lv_goto (tgt := 16) hx hb dX4_greatestSum_52 (by decide) ?_
          exact ih x2 x3 (x5 + 1) H locs ls hP hD hS (lv_sub hl [1, 2, 3, 4, 0] rfl) hf kk
        · have hf := it_f h_5 hf
          refine lv_iload_n hx hb dX4_greatestSum_41 rfl (lv_at hl 1 rfl) ?_
          refine lv_iload hx hb dX4_greatestSum_42 (lv_at hl 3 rfl) ?_
          refine lv_iadd hx hb dX4_greatestSum_44 ?_
          refine lv_istore_n (lv' := [(2, .int (x2 + x4)), (0, .ref h0), (3, .int x3), (4, .int x4), (5, .int x5)]) hx hb dX4_greatestSum_45 rfl hl (by decide) rfl (fun ls hl => ?_)
          refine lv_iinc (v := x3 + (-1)) (lv' := [(3, .int (x3 + (-1))), (2, .int (x2 + x4)), (0, .ref h0), (4, .int x4), (5, .int x5)]) hx hb dX4_greatestSum_46 hl (k := 2) rfl rfl (by decide) rfl (fun ls hl => ?_)
          refine lv_iinc (v := x5 + 1) (lv' := [(5, .int (x5 + 1)), (3, .int (x3 + (-1))), (2, .int (x2 + x4)), (0, .ref h0), (4, .int x4)]) hx hb dX4_greatestSum_49 hl (k := 4) rfl rfl (by decide) rfl (fun ls hl => ?_)
          refine lv_goto (tgt := 16) hx hb dX4_greatestSum_52 (by decide) ?_
          exact ih (x2 + x4) (x3 + (-1)) (x5 + 1) H locs ls hP hD hS (lv_sub hl [3, 2, 1, 4, 0] rfl) hf kk
set_option maxHeartbeats 4000000 in
set_option maxRecDepth 100000 in
theorem wX4_greatestSum_L8 {p : Program} {l : Launch} {e : Env} {s : State} {m : MethodId} {args : Array Value} {below : List Frame} {meth : Method} {c : Code} {dC : Nat → ClassId} {dI : Nat → Nat → Nat} {cI cZ cJ cA : ClassId} {A : Nat → Prop} {h0 : Nat} {v_days : Int32} {q_from : Nat} {q_to : Nat} {q_known : Nat} {q_above : Nat} {q_below : Nat} {v_known : Nat → Int32}  {r0 : Int32} {N : Nat}  (hx : p.tables.exec = Jvm.exec) (hb : c.code = cX4_greatestSum) (hr : meth.sig.returnType = (some .int)) (hml : c.maxLocals = 6) (hown : s.vm.findClass RX4 = some m.cls) (hts : ∀ w ∈ wsX4_greatestSum, w.before args s = true) (hlocks : meth.locks = false) (hA : ∀ q : Nat, s.heap.size ≤ q → A q) (hK : va_K (dC, dI) vwCl [(cI, .int), (cZ, .boolean), (cJ, .long), (cA, .array .long)] s) : ∀ (n : Nat) (x2 : Int32) (x3 : Int32) (x4 : Int32) (H : Heap) (locs : List Loc) (ls : Array Slot), va_P (dC, dI) vwCl [(h0, .inr (4, [.int v_days, .ref q_from, .ref q_to, .ref q_known, .ref q_above, .ref q_below])), (q_known, .inl (cI, 9, .inl v_known))] H → va_D A [(h0, .inr (4, [.int v_days, .ref q_from, .ref q_to, .ref q_known, .ref q_above, .ref q_below])), (q_known, .inl (cI, 9, .inl v_known))] → va_S A s.heap H locs → lv_has ls 6 [(0, .ref h0), (2, .int x2), (3, .int x3), (4, .int x4)] → fX4_greatestSum_L8 N v_days v_known n x2 x3 x4 = some r0 → W p l e (headSpec wsX4_greatestSum ({ frames := 0, cells := 0, slots := 0, locals := 0 })).room s m args below meth c H locs 0 0 (MQ below (va_Qi (fun (r9 : Int32) (_ : Unit) => r0 = r9) (fun _ t => va_P (dC, dI) vwCl [(h0, .inr (4, [.int v_days, .ref q_from, .ref q_to, .ref q_known, .ref q_above, .ref q_below])), (q_known, .inl (cI, 9, .inl v_known))] t.heap ∧ va_D A [(h0, .inr (4, [.int v_days, .ref q_from, .ref q_to, .ref q_known, .ref q_above, .ref q_below])), (q_known, .inl (cI, 9, .inl v_known))]) A) args s 0 0 A) (F0 m 8 ls []) := by
  intro n
  induction n with
  | zero =>
    intro x2 x3 x4 H locs ls hP hD hS hl hf
    exact nomatch (show (none : Option (Int32)) = some r0 from hf)
  | succ n ih =>
    intro x2 x3 x4 H locs ls hP hD hS hl hf
    rw [fX4_greatestSum_L8] at hf
    refine lv_iload hx hb dX4_greatestSum_8 (lv_at hl 3 rfl) ?_
    refine lv_if_lt (tgt := 61) hx hb dX4_greatestSum_10 (by decide) (fun h_1 => ?_) (fun h_1 => ?_)
    · have hf := it_t h_1 hf
      refine lv_iload_n hx hb dX4_greatestSum_61 rfl (lv_at hl 1 rfl) ?_
      cases hf
      exact W.iret hx hb hr (fun t ht hW => ⟨⟨_, (), rfl, rfl, by rw [ht]; exact hP, hD⟩, hS.F ht⟩) hS.2.2 dX4_greatestSum_62
    · have hf := it_f h_1 hf
      refine lv_iconst (v := 0) hx hb dX4_greatestSum_13 (by decide) ?_
      refine lv_istore (lv' := [(5, .int 0), (0, .ref h0), (2, .int x2), (3, .int x3), (4, .int x4)]) hx hb dX4_greatestSum_14 hl (by decide) rfl (fun ls hl => ?_)
      refine wX4_greatestSum_L16 hx hb hr hml hown hts hlocks hA hK N x2 x3 0 H locs ls hP hD hS (lv_sub hl [1, 2, 3, 4, 0] rfl) hf ?_
      intro x2_6 x3_6 x5_6 H locs ls hP hD hS hl hf
      refine lv_iinc (v := x4 + (-1)) (lv' := [(4, .int (x4 + (-1))), (0, .ref h0), (2, .int x2_6), (3, .int x3_6)]) hx hb dX4_greatestSum_55 hl (k := 3) rfl rfl (by decide) rfl (fun ls hl => ?_)
      refine lv_goto (tgt := 8) hx hb dX4_greatestSum_58 (by decide) ?_
      exact ih x2_6 x3_6 (x4 + (-1)) H locs ls hP hD hS (lv_sub hl [1, 2, 3, 0] rfl) hf
set_option maxHeartbeats 4000000 in
set_option maxRecDepth 100000 in
theorem tX4_greatestSum (l : Launch) (dC : Nat → ClassId) (dI : Nat → Nat → Nat) (cI cZ cJ cA : ClassId) (sz : Nat) (h0 : Nat) (v_days : Int32) (q_from : Nat) (q_to : Nat) (q_known : Nat) (q_above : Nat) (q_below : Nat) (v_known : Nat → Int32) (x1 : Int32) (N : Nat) (r0 : Int32) (hf : fX4_greatestSum N x1 v_days v_known = some r0) : Met l yX4_greatestSum wsX4_greatestSum ({ frames := 0, cells := 0, slots := 0, locals := 0 }) (va_Pc [.ref h0, .int x1] (fun U => U.heap.size = sz ∧ va_P (dC, dI) vwCl [(h0, .inr (4, [.int v_days, .ref q_from, .ref q_to, .ref q_known, .ref q_above, .ref q_below])), (q_known, .inl (cI, 9, .inl v_known))] U.heap ∧ va_K (dC, dI) vwCl [(cI, .int), (cZ, .boolean), (cJ, .long), (cA, .array .long)] U ∧ va_D (fun _ => True) [(h0, .inr (4, [.int v_days, .ref q_from, .ref q_to, .ref q_known, .ref q_above, .ref q_below])), (q_known, .inl (cI, 9, .inl v_known))])) (va_Qi (fun (r9 : Int32) (_ : Unit) => r0 = r9) (fun _ t => va_P (dC, dI) vwCl [(h0, .inr (4, [.int v_days, .ref q_from, .ref q_to, .ref q_known, .ref q_above, .ref q_below])), (q_known, .inl (cI, 9, .inl v_known))] t.heap ∧ va_D (va_A [(h0, .inr (4, [.int v_days, .ref q_from, .ref q_to, .ref q_known, .ref q_above, .ref q_below])), (q_known, .inl (cI, 9, .inl v_known))] sz) [(h0, .inr (4, [.int v_days, .ref q_from, .ref q_to, .ref q_known, .ref q_above, .ref q_below])), (q_known, .inl (cI, 9, .inl v_known))]) (va_A [(h0, .inr (4, [.int v_days, .ref q_from, .ref q_to, .ref q_known, .ref q_above, .ref q_below])), (q_known, .inl (cI, 9, .inl v_known))] sz)) 0 0 (va_A [(h0, .inr (4, [.int v_days, .ref q_from, .ref q_to, .ref q_known, .ref q_above, .ref q_below])), (q_known, .inl (cI, 9, .inl v_known))] sz) := by
  refine Met.ofW (cc := cX4_greatestSum) (maxL := 6) (ret := (some .int)) (by decide) rfl ?_
  intro p e s m args below meth c s₁ B hml hv
  obtain ⟨rfl, hsz, hP, hK, hD0⟩ := hv
  have hx := B.exec
  have hb := B.bytes
  have hr := B.returns
  have hts := atoms_spec (ws := wsX4_greatestSum) B.pre
  have hown : s.vm.findClass RX4 = some m.cls := findClass_of_methodNamed B.named
  have hlocks := B.notSynchronized
  subst hsz
  have hD := hD0.self (sz := s.heap.size)
  generalize hAe : va_A [(h0, .inr (4, [.int v_days, .ref q_from, .ref q_to, .ref q_known, .ref q_above, .ref q_below])), (q_known, .inl (cI, 9, .inl v_known))] s.heap.size = A at hD ⊢
  have hA : ∀ q : Nat, s.heap.size ≤ q → A q := fun q h => by rw [← hAe]; exact Or.inr h
  have hS : va_S A s.heap s.heap [] := va_S.rf
  have hl := lv_entry ([.ref h0, .int x1]) (n := 6) (Nat.le_of_ble_eq_true rfl)
  rw [lg_entry_eq]
  generalize (lg_sl ([.ref h0, .int x1]) ++ List.replicate (6 - (lg_sl ([.ref h0, .int x1])).length) Slot.unset).toArray = ls at hl ⊢
  have hl : lv_has ls 6 [(0, .ref h0), (1, .int x1)] := hl
  refine vx_gen hP hS (fun H locs hP hS => ?_)
  unfold fX4_greatestSum at hf
  refine lv_iconst (v := 0) hx hb dX4_greatestSum_0 (by decide) ?_
  refine lv_istore_n (lv' := [(2, .int 0), (0, .ref h0), (1, .int x1)]) hx hb dX4_greatestSum_1 rfl hl (by decide) rfl (fun ls hl => ?_)
  refine lv_iload_n hx hb dX4_greatestSum_2 rfl (lv_at hl 2 rfl) ?_
  refine lv_istore_n (lv' := [(3, .int x1), (2, .int 0), (0, .ref h0), (1, .int x1)]) hx hb dX4_greatestSum_3 rfl hl (by decide) rfl (fun ls hl => ?_)
  refine lv_bipush (v := 9) hx hb dX4_greatestSum_4 (by decide) ?_
  refine lv_istore (lv' := [(4, .int 9), (3, .int x1), (2, .int 0), (0, .ref h0), (1, .int x1)]) hx hb dX4_greatestSum_6 hl (by decide) rfl (fun ls hl => ?_)
  exact wX4_greatestSum_L8 hx hb hr hml hown hts hlocks hA hK N 0 x1 9 H locs ls hP hD hS (lv_sub hl [3, 2, 1, 0] rfl) hf
