/-! X0_init -/
theorem iw_X0_init_X0 : ∀ w ∈ wsX00, w ∈ wsX0_init := by decide +kernel
set_option maxHeartbeats 1000000 in
set_option maxRecDepth 100000 in
theorem tX0_init (l : Launch) (dC : Nat → ClassId) (dI : Nat → Nat → Nat) (cI cZ cJ cA : ClassId) (sz : Nat) (h0 : Nat) (N : Nat) (w_riders : Int32) (w_best : (Nat → Int32)) (w_second : (Nat → Int32)) (w_faults : (Nat → Int32)) (hf : fX0_init N = some (w_riders, w_best, w_second, w_faults)) : Met l yX0_init wsX0_init ({ frames := 1, cells := 3, slots := 12, locals := 12 }) (va_Pc [.ref h0] (fun U => U.heap.size = sz ∧ va_P (dC, dI) vwCl [(h0, .inr (0, [.int 0, .null, .null, .null]))] U.heap ∧ va_K (dC, dI) vwCl [(cI, .int), (cZ, .boolean), (cJ, .long), (cA, .array .long)] U ∧ va_D (fun _ => True) [(h0, .inr (0, [.int 0, .null, .null, .null]))] ∧ vx_N U)) (va_Qv (fun _ : Unit => True) (fun _ t => ∃ (q_best : Nat), ∃ (q_second : Nat), ∃ (q_faults : Nat), va_P (dC, dI) vwCl [(h0, .inr (0, [.int w_riders, .ref q_best, .ref q_second, .ref q_faults])), (q_best, .inl (cI, 4, .inl w_best)), (q_second, .inl (cI, 4, .inl w_second)), (q_faults, .inl (cI, 4, .inl w_faults))] t.heap ∧ va_D (va_A [(h0, .inr (0, [.int 0, .null, .null, .null]))] sz) [(h0, .inr (0, [.int w_riders, .ref q_best, .ref q_second, .ref q_faults])), (q_best, .inl (cI, 4, .inl w_best)), (q_second, .inl (cI, 4, .inl w_second)), (q_faults, .inl (cI, 4, .inl w_faults))]) (va_A [(h0, .inr (0, [.int 0, .null, .null, .null]))] sz)) 3 12 (va_A [(h0, .inr (0, [.int 0, .null, .null, .null]))] sz) := by
  refine Met.ofW (cc := cX0_init) (maxL := 1) (ret := none) (by decide) rfl ?_
  intro p e s m args below meth c s₁ B hml hv
  obtain ⟨rfl, hsz, hP, hK, hD0, hN⟩ := hv
  have hx := B.exec
  have hb := B.bytes
  have hr := B.returns
  have hts := atoms_spec (ws := wsX0_init) B.pre
  have hown : s.vm.findClass RX0 = some m.cls := findClass_of_methodNamed B.named
  have hlocks := B.notSynchronized
  have hin : meth.name = "<init>" := (name_of_methodNamed B.named B.method).1
  subst hsz
  have hD := hD0.self (sz := s.heap.size)
  generalize hAe : va_A [(h0, .inr (0, [.int 0, .null, .null, .null]))] s.heap.size = A at hD ⊢
  have hA : ∀ q : Nat, s.heap.size ≤ q → A q := fun q h => by rw [← hAe]; exact Or.inr h
  have hS : va_S A s.heap s.heap [] := va_S.rf
  have hl := lv_entry ([.ref h0]) (n := 1) (Nat.le_of_ble_eq_true rfl)
  rw [lg_entry_eq]
  generalize (lg_sl ([.ref h0]) ++ List.replicate (1 - (lg_sl ([.ref h0])).length) Slot.unset).toArray = ls at hl ⊢
  have hl : lv_has ls 1 [(0, .ref h0)] := hl
  refine vx_gen hP hS (fun H locs hP hS => ?_)
  unfold fX0_init at hf
  refine lv_aload_n hx hb dX0_init_0 rfl (lv_at hl 0 rfl) ?_
  refine W.objInit hx hb hown (hts (.methodLink RX0 3 objectInit) (List.mem_of_getElem? (i := 1) rfl)) (hts (.instanceMethod objectInit) (List.mem_of_getElem? (i := 2) rfl)) (hts (.code objectInit ⟨#[0xb1]⟩ 1 none) (List.mem_of_getElem? (i := 3) rfl)) rfl (by rw [hml]; exact hl.1) rfl dX0_init_1 (Nat.le_of_ble_eq_true rfl) (Nat.le_of_ble_eq_true rfl) ?_
  refine W.eq (g2 := F0 m 4 ls []) rfl ?_
  refine lv_aload_n hx hb dX0_init_4 rfl (lv_at hl 0 rfl) ?_
  refine lv_iconst (v := 4) hx hb dX0_init_5 (by decide) ?_
  refine va_newa (atype := .int) (a0 := (4, .inl (fun _ => 0))) (ty := .int) hx hb (hts (.arrayClass .int) (List.mem_of_getElem? (i := 4) rfl)) rfl hK hP hD hS hA (fun _ => rfl) (by decide) (by decide) (by have h9 : componentBytes .int = 4 := rfl; omega) (Nat.le_of_ble_eq_true rfl) (Nat.le_of_ble_eq_true rfl) dX0_init_6 (fun q_best cN H hKn hP hD hS => ?_)
  have hcN := vx_same hKn 0 4 rfl rfl rfl
  clear hKn
  subst hcN
  refine W.widen (k := 1) (n := 4) (by decide) (by decide) ?_
  have hP : va_P (dC, dI) vwCl [(h0, .inr (0, [.int 0, .null, .null, .null])), (q_best, .inl (cI, 4, .inl (fun _ => 0)))] H := hP
  have hD : va_D A [(h0, .inr (0, [.int 0, .null, .null, .null])), (q_best, .inl (cI, 4, .inl (fun _ => 0)))] := hD
  refine va_putF (D := (dC, dI)) (ci := 0) (v := .ref q_best) (ty := .array .int) (C := RX0) (T := TX0) (N := 4) hx hb hts iw_X0_init_X0 tyX0 tyX0_ok nmX0 hown hK hP hD hS 0 rfl rfl 1 (by decide) (hts (.fieldLink RX0 9 "HeatBench$Board" "best" "[I") (List.mem_of_getElem? (i := 5) rfl)) (fun _ h9 => h9) rfl hin rfl (by decide +kernel) rfl rfl (Nat.le_of_ble_eq_true rfl) dX0_init_8 (fun H locs hP hD hS => ?_)
  have hP : va_P (dC, dI) vwCl [(h0, .inr (0, [.int 0, .ref q_best, .null, .null])), (q_best, .inl (cI, 4, .inl (fun _ => 0)))] H := hP
  have hD : va_D A [(h0, .inr (0, [.int 0, .ref q_best, .null, .null])), (q_best, .inl (cI, 4, .inl (fun _ => 0)))] := hD
  refine lv_aload_n hx hb dX0_init_11 rfl (lv_at hl 0 rfl) ?_
  refine lv_iconst (v := 4) hx hb dX0_init_12 (by decide) ?_
  refine va_newa (atype := .int) (a0 := (4, .inl (fun _ => 0))) (ty := .int) hx hb (hts (.arrayClass .int) (List.mem_of_getElem? (i := 4) rfl)) rfl hK hP hD hS hA (fun _ => rfl) (by decide) (by decide) (by have h9 : componentBytes .int = 4 := rfl; omega) (Nat.le_of_ble_eq_true rfl) (Nat.le_of_ble_eq_true rfl) dX0_init_13 (fun q_second cN H hKn hP hD hS => ?_)
  have hcN := vx_same hKn 0 4 rfl rfl rfl
  clear hKn
  subst hcN
  refine W.widen (k := 2) (n := 8) (by decide) (by decide) ?_
  have hP : va_P (dC, dI) vwCl [(h0, .inr (0, [.int 0, .ref q_best, .null, .null])), (q_best, .inl (cI, 4, .inl (fun _ => 0))), (q_second, .inl (cI, 4, .inl (fun _ => 0)))] H := hP
  have hD : va_D A [(h0, .inr (0, [.int 0, .ref q_best, .null, .null])), (q_best, .inl (cI, 4, .inl (fun _ => 0))), (q_second, .inl (cI, 4, .inl (fun _ => 0)))] := hD
  refine va_putF (D := (dC, dI)) (ci := 0) (v := .ref q_second) (ty := .array .int) (C := RX0) (T := TX0) (N := 4) hx hb hts iw_X0_init_X0 tyX0 tyX0_ok nmX0 hown hK hP hD hS 0 rfl rfl 2 (by decide) (hts (.fieldLink RX0 15 "HeatBench$Board" "second" "[I") (List.mem_of_getElem? (i := 6) rfl)) (fun _ h9 => h9) rfl hin rfl (by decide +kernel) rfl rfl (Nat.le_of_ble_eq_true rfl) dX0_init_15 (fun H locs hP hD hS => ?_)
  have hP : va_P (dC, dI) vwCl [(h0, .inr (0, [.int 0, .ref q_best, .ref q_second, .null])), (q_best, .inl (cI, 4, .inl (fun _ => 0))), (q_second, .inl (cI, 4, .inl (fun _ => 0)))] H := hP
  have hD : va_D A [(h0, .inr (0, [.int 0, .ref q_best, .ref q_second, .null])), (q_best, .inl (cI, 4, .inl (fun _ => 0))), (q_second, .inl (cI, 4, .inl (fun _ => 0)))] := hD
  refine lv_aload_n hx hb dX0_init_18 rfl (lv_at hl 0 rfl) ?_
  refine lv_iconst (v := 4) hx hb dX0_init_19 (by decide) ?_
  refine va_newa (atype := .int) (a0 := (4, .inl (fun _ => 0))) (ty := .int) hx hb (hts (.arrayClass .int) (List.mem_of_getElem? (i := 4) rfl)) rfl hK hP hD hS hA (fun _ => rfl) (by decide) (by decide) (by have h9 : componentBytes .int = 4 := rfl; omega) (Nat.le_of_ble_eq_true rfl) (Nat.le_of_ble_eq_true rfl) dX0_init_20 (fun q_faults cN H hKn hP hD hS => ?_)
  have hcN := vx_same hKn 0 4 rfl rfl rfl
  clear hKn
  subst hcN
  refine W.widen (k := 3) (n := 12) (by decide) (by decide) ?_
  have hP : va_P (dC, dI) vwCl [(h0, .inr (0, [.int 0, .ref q_best, .ref q_second, .null])), (q_best, .inl (cI, 4, .inl (fun _ => 0))), (q_second, .inl (cI, 4, .inl (fun _ => 0))), (q_faults, .inl (cI, 4, .inl (fun _ => 0)))] H := hP
  have hD : va_D A [(h0, .inr (0, [.int 0, .ref q_best, .ref q_second, .null])), (q_best, .inl (cI, 4, .inl (fun _ => 0))), (q_second, .inl (cI, 4, .inl (fun _ => 0))), (q_faults, .inl (cI, 4, .inl (fun _ => 0)))] := hD
  refine va_putF (D := (dC, dI)) (ci := 0) (v := .ref q_faults) (ty := .array .int) (C := RX0) (T := TX0) (N := 4) hx hb hts iw_X0_init_X0 tyX0 tyX0_ok nmX0 hown hK hP hD hS 0 rfl rfl 3 (by decide) (hts (.fieldLink RX0 18 "HeatBench$Board" "faults" "[I") (List.mem_of_getElem? (i := 7) rfl)) (fun _ h9 => h9) rfl hin rfl (by decide +kernel) rfl rfl (Nat.le_of_ble_eq_true rfl) dX0_init_22 (fun H locs hP hD hS => ?_)
  have hP : va_P (dC, dI) vwCl [(h0, .inr (0, [.int 0, .ref q_best, .ref q_second, .ref q_faults])), (q_best, .inl (cI, 4, .inl (fun _ => 0))), (q_second, .inl (cI, 4, .inl (fun _ => 0))), (q_faults, .inl (cI, 4, .inl (fun _ => 0)))] H := hP
  have hD : va_D A [(h0, .inr (0, [.int 0, .ref q_best, .ref q_second, .ref q_faults])), (q_best, .inl (cI, 4, .inl (fun _ => 0))), (q_second, .inl (cI, 4, .inl (fun _ => 0))), (q_faults, .inl (cI, 4, .inl (fun _ => 0)))] := hD
  cases hf
  exact W.vret hx hb hr (fun t ht hW => ⟨⟨(), rfl, trivial, _, _, _, by rw [ht]; exact hP, hD⟩, hS.F ht⟩) hS.2.2 dX0_init_25
