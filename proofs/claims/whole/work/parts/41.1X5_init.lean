/-! X5_init -/
theorem iw_X5_init_X5 : ∀ w ∈ wsX50, w ∈ wsX5_init := by decide +kernel
set_option maxHeartbeats 1000000 in
set_option maxRecDepth 100000 in
theorem tX5_init (l : Launch) (dC : Nat → ClassId) (dI : Nat → Nat → Nat) (cI cZ cJ cA : ClassId) (sz : Nat) (h0 : Nat) (N : Nat) (w_number : Int32) (w_turn : (Nat → Int32)) (w_onIt : (Nat → Int32)) (w_blamed : (Nat → Int32)) (hf : fX5_init N = some (w_number, w_turn, w_onIt, w_blamed)) : Met l yX5_init wsX5_init ({ frames := 1, cells := 3, slots := 12, locals := 12 }) (va_Pc [.ref h0] (fun U => U.heap.size = sz ∧ va_P (dC, dI) vwCl [(h0, .inr (5, [.int 0, .null, .null, .null]))] U.heap ∧ va_K (dC, dI) vwCl [(cI, .int), (cZ, .boolean), (cJ, .long), (cA, .array .long)] U ∧ va_D (fun _ => True) [(h0, .inr (5, [.int 0, .null, .null, .null]))] ∧ vx_N U)) (va_Qv (fun _ : Unit => True) (fun _ t => ∃ (q_turn : Nat), ∃ (q_onIt : Nat), ∃ (q_blamed : Nat), va_P (dC, dI) vwCl [(h0, .inr (5, [.int w_number, .ref q_turn, .ref q_onIt, .ref q_blamed])), (q_turn, .inl (cI, 4, .inl w_turn)), (q_onIt, .inl (cZ, 4, .inl w_onIt)), (q_blamed, .inl (cZ, 4, .inl w_blamed))] t.heap ∧ va_D (va_A [(h0, .inr (5, [.int 0, .null, .null, .null]))] sz) [(h0, .inr (5, [.int w_number, .ref q_turn, .ref q_onIt, .ref q_blamed])), (q_turn, .inl (cI, 4, .inl w_turn)), (q_onIt, .inl (cZ, 4, .inl w_onIt)), (q_blamed, .inl (cZ, 4, .inl w_blamed))]) (va_A [(h0, .inr (5, [.int 0, .null, .null, .null]))] sz)) 3 12 (va_A [(h0, .inr (5, [.int 0, .null, .null, .null]))] sz) := by
  refine Met.ofW (cc := cX5_init) (maxL := 1) (ret := none) (by decide) rfl ?_
  intro p e s m args below meth c s₁ B hml hv
  obtain ⟨rfl, hsz, hP, hK, hD0, hN⟩ := hv
  have hx := B.exec
  have hb := B.bytes
  have hr := B.returns
  have hts := atoms_spec (ws := wsX5_init) B.pre
  have hown : s.vm.findClass RX5 = some m.cls := findClass_of_methodNamed B.named
  have hlocks := B.notSynchronized
  have hin : meth.name = "<init>" := (name_of_methodNamed B.named B.method).1
  subst hsz
  have hD := hD0.self (sz := s.heap.size)
  generalize hAe : va_A [(h0, .inr (5, [.int 0, .null, .null, .null]))] s.heap.size = A at hD ⊢
  have hA : ∀ q : Nat, s.heap.size ≤ q → A q := fun q h => by rw [← hAe]; exact Or.inr h
  have hS : va_S A s.heap s.heap [] := va_S.rf
  have hl := lv_entry ([.ref h0]) (n := 1) (Nat.le_of_ble_eq_true rfl)
  rw [lg_entry_eq]
  generalize (lg_sl ([.ref h0]) ++ List.replicate (1 - (lg_sl ([.ref h0])).length) Slot.unset).toArray = ls at hl ⊢
  have hl : lv_has ls 1 [(0, .ref h0)] := hl
  refine vx_gen hP hS (fun H locs hP hS => ?_)
  unfold fX5_init at hf
  refine lv_aload_n hx hb dX5_init_0 rfl (lv_at hl 0 rfl) ?_
  refine W.objInit hx hb hown (hts (.methodLink RX5 3 objectInit) (List.mem_of_getElem? (i := 1) rfl)) (hts (.instanceMethod objectInit) (List.mem_of_getElem? (i := 2) rfl)) (hts (.code objectInit ⟨#[0xb1]⟩ 1 none) (List.mem_of_getElem? (i := 3) rfl)) rfl (by rw [hml]; exact hl.1) rfl dX5_init_1 (Nat.le_of_ble_eq_true rfl) (Nat.le_of_ble_eq_true rfl) ?_
  refine W.eq (g2 := F0 m 4 ls []) rfl ?_
  refine lv_aload_n hx hb dX5_init_4 rfl (lv_at hl 0 rfl) ?_
  refine lv_iconst (v := (-1)) hx hb dX5_init_5 (by decide) ?_
  refine va_put (D := (dC, dI)) (ci := 5) (v := .int (-1)) (ty := .int) (C := RX5) (T := TX5) (N := 4) hx hb hts iw_X5_init_X5 tyX5 tyX5_ok nmX5 hown hK hP hD hS 0 rfl rfl 0 (by decide) (hts (.fieldLink RX5 9 "HeatBench$Wave" "number" "I") (List.mem_of_getElem? (i := 4) rfl)) (fun _ h9 => h9) rfl (by decide +kernel) rfl rfl (Nat.le_of_ble_eq_true rfl) dX5_init_6 (fun H locs hP hD hS => ?_)
  have hP : va_P (dC, dI) vwCl [(h0, .inr (5, [.int (-1), .null, .null, .null]))] H := hP
  have hD : va_D A [(h0, .inr (5, [.int (-1), .null, .null, .null]))] := hD
  refine lv_aload_n hx hb dX5_init_9 rfl (lv_at hl 0 rfl) ?_
  refine lv_iconst (v := 4) hx hb dX5_init_10 (by decide) ?_
  refine va_newa (atype := .int) (a0 := (4, .inl (fun _ => 0))) (ty := .int) hx hb (hts (.arrayClass .int) (List.mem_of_getElem? (i := 5) rfl)) rfl hK hP hD hS hA (fun _ => rfl) (by decide) (by decide) (by have h9 : componentBytes .int = 4 := rfl; omega) (Nat.le_of_ble_eq_true rfl) (Nat.le_of_ble_eq_true rfl) dX5_init_11 (fun q_turn cN H hKn hP hD hS => ?_)
  have hcN := vx_same hKn 0 4 rfl rfl rfl
  clear hKn
  subst hcN
  refine W.widen (k := 1) (n := 4) (by decide) (by decide) ?_
  have hP : va_P (dC, dI) vwCl [(h0, .inr (5, [.int (-1), .null, .null, .null])), (q_turn, .inl (cI, 4, .inl (fun _ => 0)))] H := hP
  have hD : va_D A [(h0, .inr (5, [.int (-1), .null, .null, .null])), (q_turn, .inl (cI, 4, .inl (fun _ => 0)))] := hD
  refine va_putF (D := (dC, dI)) (ci := 5) (v := .ref q_turn) (ty := .array .int) (C := RX5) (T := TX5) (N := 4) hx hb hts iw_X5_init_X5 tyX5 tyX5_ok nmX5 hown hK hP hD hS 0 rfl rfl 1 (by decide) (hts (.fieldLink RX5 15 "HeatBench$Wave" "turn" "[I") (List.mem_of_getElem? (i := 6) rfl)) (fun _ h9 => h9) rfl hin rfl (by decide +kernel) rfl rfl (Nat.le_of_ble_eq_true rfl) dX5_init_13 (fun H locs hP hD hS => ?_)
  have hP : va_P (dC, dI) vwCl [(h0, .inr (5, [.int (-1), .ref q_turn, .null, .null])), (q_turn, .inl (cI, 4, .inl (fun _ => 0)))] H := hP
  have hD : va_D A [(h0, .inr (5, [.int (-1), .ref q_turn, .null, .null])), (q_turn, .inl (cI, 4, .inl (fun _ => 0)))] := hD
  refine lv_aload_n hx hb dX5_init_16 rfl (lv_at hl 0 rfl) ?_
  refine lv_iconst (v := 4) hx hb dX5_init_17 (by decide) ?_
  refine va_newa (atype := .boolean) (a0 := (4, .inl (fun _ => 0))) (ty := .boolean) hx hb (hts (.arrayClass .boolean) (List.mem_of_getElem? (i := 7) rfl)) rfl hK hP hD hS hA (fun _ => rfl) (by decide) (by decide) (by have h9 : componentBytes .boolean = 1 := rfl; omega) (Nat.le_of_ble_eq_true rfl) (Nat.le_of_ble_eq_true rfl) dX5_init_18 (fun q_onIt cN H hKn hP hD hS => ?_)
  have hcN := vx_same hKn 1 4 rfl rfl rfl
  clear hKn
  subst hcN
  refine W.widen (k := 2) (n := 8) (by decide) (by decide) ?_
  have hP : va_P (dC, dI) vwCl [(h0, .inr (5, [.int (-1), .ref q_turn, .null, .null])), (q_turn, .inl (cI, 4, .inl (fun _ => 0))), (q_onIt, .inl (cZ, 4, .inl (fun _ => 0)))] H := hP
  have hD : va_D A [(h0, .inr (5, [.int (-1), .ref q_turn, .null, .null])), (q_turn, .inl (cI, 4, .inl (fun _ => 0))), (q_onIt, .inl (cZ, 4, .inl (fun _ => 0)))] := hD
  refine va_putF (D := (dC, dI)) (ci := 5) (v := .ref q_onIt) (ty := .array .boolean) (C := RX5) (T := TX5) (N := 4) hx hb hts iw_X5_init_X5 tyX5 tyX5_ok nmX5 hown hK hP hD hS 0 rfl rfl 2 (by decide) (hts (.fieldLink RX5 19 "HeatBench$Wave" "onIt" "[Z") (List.mem_of_getElem? (i := 8) rfl)) (fun _ h9 => h9) rfl hin rfl (by decide +kernel) rfl rfl (Nat.le_of_ble_eq_true rfl) dX5_init_20 (fun H locs hP hD hS => ?_)
  have hP : va_P (dC, dI) vwCl [(h0, .inr (5, [.int (-1), .ref q_turn, .ref q_onIt, .null])), (q_turn, .inl (cI, 4, .inl (fun _ => 0))), (q_onIt, .inl (cZ, 4, .inl (fun _ => 0)))] H := hP
  have hD : va_D A [(h0, .inr (5, [.int (-1), .ref q_turn, .ref q_onIt, .null])), (q_turn, .inl (cI, 4, .inl (fun _ => 0))), (q_onIt, .inl (cZ, 4, .inl (fun _ => 0)))] := hD
  refine lv_aload_n hx hb dX5_init_23 rfl (lv_at hl 0 rfl) ?_
  refine lv_iconst (v := 4) hx hb dX5_init_24 (by decide) ?_
  refine va_newa (atype := .boolean) (a0 := (4, .inl (fun _ => 0))) (ty := .boolean) hx hb (hts (.arrayClass .boolean) (List.mem_of_getElem? (i := 7) rfl)) rfl hK hP hD hS hA (fun _ => rfl) (by decide) (by decide) (by have h9 : componentBytes .boolean = 1 := rfl; omega) (Nat.le_of_ble_eq_true rfl) (Nat.le_of_ble_eq_true rfl) dX5_init_25 (fun q_blamed cN H hKn hP hD hS => ?_)
  have hcN := vx_same hKn 1 4 rfl rfl rfl
  clear hKn
  subst hcN
  refine W.widen (k := 3) (n := 12) (by decide) (by decide) ?_
  have hP : va_P (dC, dI) vwCl [(h0, .inr (5, [.int (-1), .ref q_turn, .ref q_onIt, .null])), (q_turn, .inl (cI, 4, .inl (fun _ => 0))), (q_onIt, .inl (cZ, 4, .inl (fun _ => 0))), (q_blamed, .inl (cZ, 4, .inl (fun _ => 0)))] H := hP
  have hD : va_D A [(h0, .inr (5, [.int (-1), .ref q_turn, .ref q_onIt, .null])), (q_turn, .inl (cI, 4, .inl (fun _ => 0))), (q_onIt, .inl (cZ, 4, .inl (fun _ => 0))), (q_blamed, .inl (cZ, 4, .inl (fun _ => 0)))] := hD
  refine va_putF (D := (dC, dI)) (ci := 5) (v := .ref q_blamed) (ty := .array .boolean) (C := RX5) (T := TX5) (N := 4) hx hb hts iw_X5_init_X5 tyX5 tyX5_ok nmX5 hown hK hP hD hS 0 rfl rfl 3 (by decide) (hts (.fieldLink RX5 23 "HeatBench$Wave" "blamed" "[Z") (List.mem_of_getElem? (i := 9) rfl)) (fun _ h9 => h9) rfl hin rfl (by decide +kernel) rfl rfl (Nat.le_of_ble_eq_true rfl) dX5_init_27 (fun H locs hP hD hS => ?_)
  have hP : va_P (dC, dI) vwCl [(h0, .inr (5, [.int (-1), .ref q_turn, .ref q_onIt, .ref q_blamed])), (q_turn, .inl (cI, 4, .inl (fun _ => 0))), (q_onIt, .inl (cZ, 4, .inl (fun _ => 0))), (q_blamed, .inl (cZ, 4, .inl (fun _ => 0)))] H := hP
  have hD : va_D A [(h0, .inr (5, [.int (-1), .ref q_turn, .ref q_onIt, .ref q_blamed])), (q_turn, .inl (cI, 4, .inl (fun _ => 0))), (q_onIt, .inl (cZ, 4, .inl (fun _ => 0))), (q_blamed, .inl (cZ, 4, .inl (fun _ => 0)))] := hD
  cases hf
  exact W.vret hx hb hr (fun t ht hW => ⟨⟨(), rfl, trivial, _, _, _, by rw [ht]; exact hP, hD⟩, hS.F ht⟩) hS.2.2 dX5_init_30
