/-! ===== BEGIN words of one list among another's, by their places ===== -/
theorem goodIn_r {big : List Cond} (ws : List Cond) (ps : List Nat) (hp : ws = ps.filterMap (fun i => big[i]?)) (h : ws.all goodWord = true) : GoodIn big ws := by
  intro w hw
  have h1 := List.all_eq_true.mp h w hw
  rw [hp] at hw
  obtain ⟨i, -, hi⟩ := List.mem_filterMap.mp hw
  have hm : w ∈ big := by first | exact List.mem_of_getElem? hi | exact List.getElem?_mem hi
  exact ⟨hm, good_of_word h1⟩
theorem goodIn_app {big a b : List Cond} (ha : GoodIn big a) (hb : GoodIn big b) : GoodIn big (a ++ b) := fun w h => (List.mem_append.mp h).elim (ha w) (hb w)
theorem goodIn_ca {big a b : List Cond} {c : Cond} (ha : GoodIn big (c :: a)) (hb : GoodIn big b) : GoodIn big (c :: (a ++ b)) := fun w h => (List.mem_cons.mp h).elim (fun e => ha w (List.mem_cons.mpr (Or.inl e))) (fun h => (List.mem_append.mp h).elim (fun h => ha w (List.mem_cons.mpr (Or.inr h))) (hb w))
theorem goodIn_sub {big ws : List Cond} (hm : ∀ w ∈ ws, w ∈ big) (h : ws.all goodWord = true) : GoodIn big ws := fun w hw => ⟨hm w hw, good_of_word (List.all_eq_true.mp h w hw)⟩
/-! ===== END ===== -/

/-! ===== BEGIN new T[n][m]: the outer array a place, the inner ones among the pooled ===== -/
/-- f, but v at every address of l -/
def vr_up {α : Type} (f : Nat → α) (l : List Nat) (v : α) : Nat → α := fun a => if a ∈ l then v else f a
theorem vr_up_in {α : Type} {f : Nat → α} {l : List Nat} {v : α} {a : Nat} (h : a ∈ l) : vr_up f l v a = v := if_pos h
theorem vr_up_ne {α : Type} {f : Nat → α} {l : List Nat} {v : α} {a : Nat} (h : a ∉ l) : vr_up f l v a = f a := if_neg h
theorem vr_rows {L l : List Nat} {f : Nat → va_E} {e : va_E} (h : ∀ a, a ∈ l → a ∉ L) : va_pl L f ++ l.map (fun a => (a, e)) = va_pl (L ++ l) (vr_up f l e) := by
  unfold va_pl
  rw [List.map_append]
  congr 1
  · apply List.map_congr_left
    intro a ha
    rw [vr_up_ne (fun q => h a q ha)]
  · apply List.map_congr_left
    intro a ha
    rw [vr_up_in ha]
theorem vr_lay {X rows : va_W} {x : Nat × va_E} {pl : va_W} {D : va_G} {cl : List vw_C} {H : Heap} (hP : va_P D cl (((X ++ pl) ++ [x]) ++ rows) H) : va_P D cl ((X ++ [x]) ++ (pl ++ rows)) H := by
  rw [List.append_assoc (X ++ pl)] at hP
  have h := va_P.swap hP
  rw [← List.append_assoc X] at h
  have h2 := va_P.swap h
  rw [List.append_assoc (X ++ [x])] at h2
  exact h2
theorem vr_layD {X rows : va_W} {x : Nat × va_E} {pl : va_W} {A : Nat → Prop} (hD : va_D A (((X ++ pl) ++ [x]) ++ rows)) : va_D A ((X ++ [x]) ++ (pl ++ rows)) := by
  rw [List.append_assoc (X ++ pl)] at hD
  have h := va_D.swap hD
  rw [← List.append_assoc X] at h
  have h2 := va_D.swap h
  rw [List.append_assoc (X ++ [x])] at h2
  exact h2
theorem vr_outer (c : ClassId) (N h0 : Nat) : ∀ i : Nat, Jvm.Free.Multi.outerC c N h0 i = arrV c N (fun j => va_rf (if j < i then some (h0 + 1 + j) else none))
  | 0 => by
    show ({ cls := c, slots := Array.replicate N .null, vm := .none } : Cell) = _
    rw [arrV_new]
    refine congrArg (arrV c N) (funext fun j => ?_)
    simp [va_rf]
  | i + 1 => by
    show (Jvm.Free.Multi.outerC c N h0 i).setSlot i (.ref (h0 + 1 + i)) = _
    rw [vr_outer c N h0 i, arrV_store]
    refine congrArg (arrV c N) (funext fun j => ?_)
    by_cases e : j = i
    · subst e
      simp [updV, va_rf]
    · by_cases h : j < i
      · simp [updV, e, h, Nat.lt_succ_of_lt h]
      · simp [updV, e, h, show ¬ j < i + 1 by omega]
section VGM
variable {p : Program} {l : Launch} {e : Env} {R : Room} {s : State} {m : MethodId} {args : Array Value} {below : List Frame} {meth : Method} {c : Code} {H : Heap} {locs : List Loc} {cells slots : Nat} {Q : State → Prop}
variable {cc : ByteArray} {pc : Nat} {ls : Array Slot} {rest : List Value} {D : va_G} {cl : List vw_C} {A : Nat → Prop} {a : Nat} {tys : List (ClassId × FieldType)} {ws : va_W} {H0 : Heap}
def va_AOA (ty : FieldType) (U : State) : Prop := (Cond.arrayOver (.array ty)).before #[] U = true
theorem va_AOA.use {ty : FieldType} {A : Array Value} {U : State} (h : va_AOA ty U) : (Cond.arrayOver (.array ty)).before A U = true := h
theorem va_mna {X : va_W} {L : List Nat} {f : Nat → va_E} {cc : ByteArray} (hexec : p.tables.exec = Jvm.exec) (hb : c.code = cc) {own : String} {index : Nat} {ty : FieldType} {cy : ClassId} (hown : s.vm.findClass own = some m.cls) (hclink : (Cond.classLink own index ("[" ++ (FieldType.array ty).toString)).before args s = true) (hover : va_AOA ty s) (harr : (Cond.arrayClass ty).before args s = true) (hcy : s.vm.findClass (FieldType.array ty).toString = some cy)
    (hK : va_K D cl tys s) (hP : va_P D cl (X ++ va_pl L f) H) (hD : va_D A (X ++ va_pl L f)) (hS : va_S A H0 H locs) (hA : ∀ q, H0.size ≤ q → A q) {n k : Int32} {N' K' : Nat} {z : vp_A} (hn : ¬ n < 0) (hk : ¬ k < 0) (hN : n.toNatClampNeg = N') (hM : k.toNatClampNeg = K')
    (hb1 : N' * 4 ≤ 536870912) (hb2 : K' * componentBytes ty ≤ 536870912) (hb3 : K' ≤ 536870912) (hdf : fits ty (defaultValue ty) = true) (hdd : (defaultValue ty).isDefault = true) (hcells : cells + (1 + N') ≤ R.cells) (hslots : slots + (N' + N' * K') ≤ R.slots) (hz : ∀ c : ClassId, Jvm.Free.Multi.innerC c K' (defaultValue ty) = vp_cell c z) (hdg : decode cc pc = .ok (.multianewarray index 2, 4))
    (kk : ∀ (q : Nat) (r : Nat → Nat) (cA : ClassId) (H1 : Heap), (∀ i j : Nat, i < N' → j < N' → r i = r j → i = j) → (∀ i : Nat, i < N' → r i ∉ L) → va_K D cl (tys ++ [(cA, .array ty)]) s →
      va_P D cl ((X ++ [(q, .inl (cA, N', .inr (.inr (.inr (.inr (fun i => if i < N' then some (r i) else none))))))]) ++ va_pl (L ++ (List.range N').map r) (vr_up f ((List.range N').map r) (.inl (cy, z)))) H1 → va_D A ((X ++ [(q, .inl (cA, N', .inr (.inr (.inr (.inr (fun i => if i < N' then some (r i) else none))))))]) ++ va_pl (L ++ (List.range N').map r) (vr_up f ((List.range N').map r) (.inl (cy, z)))) → va_S A H0 H1 locs →
      W p l e R s m args below meth c H1 locs (cells + 1 + N') (slots + N' + N' * K') Q (F0 m (pc + 4) ls (.ref q :: rest))) : W p l e R s m args below meth c H locs cells slots Q (F0 m pc ls (.int k :: .int n :: rest)) := by
  subst hN
  subst hM
  intro T hT Xs
  obtain ⟨vm₁, cA, comp, -, fA, fC, hO, -, X', step⟩ := Xs.multianewarray2F hexec hown hclink (va_AOA.use hover) harr (g := F0 m pc ls (.int k :: .int n :: rest)) rfl (by rw [hb]; exact hdg) rfl hn hk hb1 hb2 hb3 hdf hdd hcells hslots
  have ec : some cy = some comp := hcy.symm.trans fC
  cases ec
  generalize hF : Jvm.Free.Multi.fill (T.setVm vm₁) cA cy n.toNatClampNeg k.toNatClampNeg (defaultValue ty) n.toNatClampNeg = F at X' step
  have hTh : (T.setVm vm₁).heap = H := hT
  obtain ⟨f1, f2, -, -⟩ := Jvm.Free.Multi.fill_facts (T.setVm vm₁) cA cy n.toNatClampNeg k.toNatClampNeg (defaultValue ty) n.toNatClampNeg
  rw [hF, hTh] at f1 f2
  have hold : ∀ x : Nat, x < H.size → F.heap[x]? = H[x]? := fun x hx => by
    have := Jvm.Free.Multi.fill_old (T.setVm vm₁) cA cy n.toNatClampNeg k.toNatClampNeg (defaultValue ty) (a := x) (by rw [hTh]; exact hx) n.toNatClampNeg
    rw [hF, hTh] at this
    exact this
  have hrow : ∀ j : Nat, j < n.toNatClampNeg → F.heap[H.size + 1 + j]? = some (vp_cell cy z) := fun j hj => by
    have := Jvm.Free.Multi.fill_inner (T.setVm vm₁) cA cy n.toNatClampNeg k.toNatClampNeg (defaultValue ty) n.toNatClampNeg j hj
    rw [hF, hTh, hz] at this
    exact this
  have hout : Jvm.Free.Multi.outerC cA n.toNatClampNeg H.size n.toNatClampNeg = vp_cell cA (n.toNatClampNeg, .inr (.inr (.inr (.inr (fun i => if i < n.toNatClampNeg then some (H.size + 1 + i) else none))))) := by
    rw [vp_cell_q]
    exact vr_outer cA n.toNatClampNeg H.size n.toNatClampNeg
  rw [hout] at f2
  have hlt : ∀ a, a ∈ L → a < H.size := fun a ha => by
    obtain ⟨k9, hk9⟩ := va_pl_get (X := X) (f := f) ha
    exact (hP k9 _ hk9).lt
  have hnl : ∀ i : Nat, i < n.toNatClampNeg → H.size + 1 + i ∉ L := fun i _ h => by
    have := hlt _ h
    omega
  have hnm : ∀ a, a ∈ (List.range n.toNatClampNeg).map (fun i => H.size + 1 + i) → a ∉ L := fun a ha h => by
    obtain ⟨i, -, rfl⟩ := List.mem_map.mp ha
    have := hlt _ h
    omega
  have hP0 : va_P D cl (X ++ va_pl L f) F.heap := hP.kept (fun k9 x hx => hold x.1 ((hP k9 x hx).lt))
  have hP1 : va_P D cl ((X ++ va_pl L f) ++ [(H.size, .inl (cA, n.toNatClampNeg, .inr (.inr (.inr (.inr (fun i => if i < n.toNatClampNeg then some (H.size + 1 + i) else none))))))]) F.heap := hP0.app (fun k9 x hx => by
    have h0 : k9 < 1 := (List.getElem?_eq_some_iff.mp hx).1
    rw [show k9 = 0 by omega] at hx
    cases hx
    exact f2)
  have hP2 : va_P D cl (((X ++ va_pl L f) ++ [(H.size, .inl (cA, n.toNatClampNeg, .inr (.inr (.inr (.inr (fun i => if i < n.toNatClampNeg then some (H.size + 1 + i) else none))))))]) ++ ((List.range n.toNatClampNeg).map (fun i => H.size + 1 + i)).map (fun a => (a, .inl (cy, z)))) F.heap := hP1.app (fun k9 x hx => by
    obtain ⟨a, ha, rfl⟩ := List.mem_map.mp (List.mem_of_getElem? hx)
    obtain ⟨i, hi, rfl⟩ := List.mem_map.mp ha
    exact hrow i (List.mem_range.mp hi))
  have hD2 : va_D A (((X ++ va_pl L f) ++ [(H.size, .inl (cA, n.toNatClampNeg, .inr (.inr (.inr (.inr (fun i => if i < n.toNatClampNeg then some (H.size + 1 + i) else none))))))]) ++ ((List.range n.toNatClampNeg).map (fun i => H.size + 1 + i)).map (fun a => (a, .inl (cy, z)))) := by
    have hD1 := hD.push (e := .inl (cA, n.toNatClampNeg, .inr (.inr (.inr (.inr (fun i => if i < n.toNatClampNeg then some (H.size + 1 + i) else none)))))) hP rfl (hA _ hS.1)
    generalize hW1 : (X ++ va_pl L f) ++ [(H.size, .inl (cA, n.toNatClampNeg, .inr (.inr (.inr (.inr (fun i => if i < n.toNatClampNeg then some (H.size + 1 + i) else none))))))] = W1 at hD1 hP1 ⊢
    have hle : ∀ (k9 : Nat) (x : Nat × va_E), W1[k9]? = some x → x.1 ≤ H.size := fun k9 x hx => by
      rw [← hW1] at hx
      by_cases hl : k9 < (X ++ va_pl L f).length
      · rw [List.getElem?_append_left hl] at hx
        exact Nat.le_of_lt ((hP k9 x hx).lt)
      · rw [List.getElem?_append_right (by omega)] at hx
        have h0 : k9 - (X ++ va_pl L f).length < 1 := (List.getElem?_eq_some_iff.mp hx).1
        rw [show k9 - (X ++ va_pl L f).length = 0 by omega] at hx
        cases hx
        exact Nat.le_refl _
    have hr : ∀ (k9 : Nat) (x : Nat × va_E), (((List.range n.toNatClampNeg).map (fun i => H.size + 1 + i)).map (fun a => ((a, .inl (cy, z)) : Nat × va_E)))[k9]? = some x → x.1 = H.size + 1 + k9 := fun k9 x hx => by
      rw [List.getElem?_map, List.getElem?_map] at hx
      by_cases h9 : k9 < n.toNatClampNeg
      · rw [List.getElem?_range h9] at hx
        cases hx
        rfl
      · have hn0 : (List.range n.toNatClampNeg)[k9]? = none := List.getElem?_eq_none (by rw [List.length_range]; omega)
        rw [hn0] at hx
        cases hx
    refine ⟨fun i j x y hi hj hxy => ?_, fun k9 x hx => ?_⟩
    · by_cases h1 : i < W1.length <;> by_cases h2 : j < W1.length
      · rw [List.getElem?_append_left h1] at hi
        rw [List.getElem?_append_left h2] at hj
        exact hD1.1 i j x y hi hj hxy
      · rw [List.getElem?_append_left h1] at hi
        rw [List.getElem?_append_right (by omega)] at hj
        have := hle _ _ hi
        have := hr _ _ hj
        omega
      · rw [List.getElem?_append_right (by omega)] at hi
        rw [List.getElem?_append_left h2] at hj
        have := hle _ _ hj
        have := hr _ _ hi
        omega
      · rw [List.getElem?_append_right (by omega)] at hi hj
        have := hr _ _ hi
        have := hr _ _ hj
        omega
    · by_cases h1 : k9 < W1.length
      · rw [List.getElem?_append_left h1] at hx
        exact hD1.2 k9 x hx
      · rw [List.getElem?_append_right (by omega)] at hx
        have := hr _ _ hx
        exact hA _ (by have := hS.1; omega)
  have hAr : ArrOfT s cA (.array ty) := fun N9 z9 => by
    obtain ⟨-, k9, hk9, cm9, hkk9⟩ := (hO 0 0 0).1
    exact ⟨(fun q hq => by cases hq), k9, hk9, cm9, hkk9⟩
  have hK2 : va_K D cl (tys ++ [(cA, .array ty)]) s := ⟨hK.1, fun k9 x hx => by
    by_cases hl : k9 < tys.length
    · rw [List.getElem?_append_left hl] at hx
      exact hK.2 k9 x hx
    · rw [List.getElem?_append_right (by omega)] at hx
      have h0 : k9 - tys.length < 1 := (List.getElem?_eq_some_iff.mp hx).1
      rw [show k9 - tys.length = 0 by omega] at hx
      cases hx
      exact ⟨hAr, fA⟩⟩
  obtain ⟨t, a1, b1⟩ := kk H.size (fun i => H.size + 1 + i) cA F.heap (fun i j _ _ h => by have h9 : H.size + 1 + i = H.size + 1 + j := h; omega) hnl hK2 (by rw [← vr_rows hnm]; exact vr_lay hP2) (by rw [← vr_rows hnm]; exact vr_layD hD2) ⟨by rw [f1]; have := hS.1; omega, fun x h1 h2 => (hold x (Nat.lt_of_lt_of_le h1 hS.1)).trans (hS.2.1 x h1 h2), hS.2.2⟩ F rfl X'
  refine ⟨t, step t ?_, b1⟩
  have e : T.heap.size = H.size := by rw [hT]
  rw [e]
  exact a1
end VGM
/-! ===== END ===== -/

/-! ===== BEGIN printed: names, fields, word lists, decode rows ===== -/
def RX0 : String := "HeatBench$Board"
def TX0 : u_T := fun k => match k with
  | 0 => ("HeatBench$Board", "riders", "I", false)
  | 1 => ("HeatBench$Board", "best", "[I", true)
  | 2 => ("HeatBench$Board", "second", "[I", true)
  | _ => ("HeatBench$Board", "faults", "[I", true)
def tyX0 : Nat → FieldType := fun k => match k with
  | 0 => .int
  | 1 => .array .int
  | 2 => .array .int
  | _ => .array .int
abbrev wsX00 : List Cond := u_ws RX0 TX0 4
theorem nmX0 : ∀ a, a < 4 → ∀ b, b < 4 → a ≠ b → (TX0 a).2.1 ≠ (TX0 b).2.1 := by decide +kernel
theorem tyX0_ok : ∀ k, k < 4 → parseFieldDescriptor (TX0 k).2.2.1 = some (tyX0 k) := by decide +kernel
abbrev cX0_init : ByteArray := prog_2_method_1_code
def yX0_init : MethodName := ⟨RX0, "<init>", "()V"⟩
abbrev cX0_begin : ByteArray := prog_2_method_2_code
def yX0_begin : MethodName := ⟨RX0, "begin", "(I)V"⟩
abbrev cX0_clearScores : ByteArray := prog_2_method_3_code
def yX0_clearScores : MethodName := ⟨RX0, "clearScores", "()V"⟩
abbrev cX0_setScores : ByteArray := prog_2_method_4_code
def yX0_setScores : MethodName := ⟨RX0, "setScores", "(III)V"⟩
abbrev cX0_addScore : ByteArray := prog_2_method_5_code
def yX0_addScore : MethodName := ⟨RX0, "addScore", "(II)V"⟩
abbrev cX0_total : ByteArray := prog_2_method_6_code
def yX0_total : MethodName := ⟨RX0, "total", "(I)I"⟩
abbrev cX0_placeOf : ByteArray := prog_2_method_7_code
def yX0_placeOf : MethodName := ⟨RX0, "placeOf", "(I)I"⟩
abbrev cX0_allFaults : ByteArray := prog_2_method_8_code
def yX0_allFaults : MethodName := ⟨RX0, "allFaults", "()I"⟩
abbrev cX0_isBetter : ByteArray := prog_2_method_9_code
def yX0_isBetter : MethodName := ⟨RX0, "isBetter", "(II)Z"⟩
def RX1 : String := "HeatBench$Heat"
def TX1 : u_T := fun k => match k with
  | 0 => ("HeatBench$Heat", "riders", "I", false)
  | 1 => ("HeatBench$Heat", "rides", "I", false)
  | 2 => ("HeatBench$Heat", "riderOf", "[I", true)
  | 3 => ("HeatBench$Heat", "waveOf", "[I", true)
  | 4 => ("HeatBench$Heat", "marks", "[I", true)
  | 5 => ("HeatBench$Heat", "marksOf", "[I", true)
  | 6 => ("HeatBench$Heat", "scoreOf", "[I", true)
  | 7 => ("HeatBench$Heat", "toGive", "[I", true)
  | 8 => ("HeatBench$Heat", "line", "LHeatBench$Line;", true)
  | 9 => ("HeatBench$Heat", "wave", "LHeatBench$Wave;", true)
  | _ => ("HeatBench$Heat", "board", "LHeatBench$Board;", true)
def tyX1 : Nat → FieldType := fun k => match k with
  | 0 => .int
  | 1 => .int
  | 2 => .array .int
  | 3 => .array .int
  | 4 => .array .int
  | 5 => .array .int
  | 6 => .array .int
  | 7 => .array .int
  | 8 => .object "HeatBench$Line"
  | 9 => .object "HeatBench$Wave"
  | _ => .object "HeatBench$Board"
abbrev wsX10 : List Cond := u_ws RX1 TX1 11
theorem nmX1 : ∀ a, a < 11 → ∀ b, b < 11 → a ≠ b → (TX1 a).2.1 ≠ (TX1 b).2.1 := by decide +kernel
theorem tyX1_ok : ∀ k, k < 11 → parseFieldDescriptor (TX1 k).2.2.1 = some (tyX1 k) := by decide +kernel
abbrev cX1_init : ByteArray := prog_3_method_1_code
def yX1_init : MethodName := ⟨RX1, "<init>", "()V"⟩
abbrev cX1_begin : ByteArray := prog_3_method_2_code
def yX1_begin : MethodName := ⟨RX1, "begin", "(I)V"⟩
abbrev cX1_hasRider : ByteArray := prog_3_method_3_code
def yX1_hasRider : MethodName := ⟨RX1, "hasRider", "(I)Z"⟩
abbrev cX1_hasRide : ByteArray := prog_3_method_4_code
def yX1_hasRide : MethodName := ⟨RX1, "hasRide", "(I)Z"⟩
abbrev cX1_addRide : ByteArray := prog_3_method_5_code
def yX1_addRide : MethodName := ⟨RX1, "addRide", "(II)I"⟩
abbrev cX1_setMark : ByteArray := prog_3_method_6_code
def yX1_setMark : MethodName := ⟨RX1, "setMark", "(III)I"⟩
abbrev cX1_score : ByteArray := prog_3_method_7_code
def yX1_score : MethodName := ⟨RX1, "score", "(I)V"⟩
abbrev cX1_markedRides : ByteArray := prog_3_method_8_code
def yX1_markedRides : MethodName := ⟨RX1, "markedRides", "()I"⟩
abbrev cX1_ridesBy : ByteArray := prog_3_method_9_code
def yX1_ridesBy : MethodName := ⟨RX1, "ridesBy", "(I)I"⟩
abbrev cX1_tally : ByteArray := prog_3_method_10_code
def yX1_tally : MethodName := ⟨RX1, "tally", "()V"⟩
abbrev cX1_leastScoreFor : ByteArray := prog_3_method_11_code
def yX1_leastScoreFor : MethodName := ⟨RX1, "leastScoreFor", "(II)I"⟩
abbrev cX1_countWays : ByteArray := prog_3_method_12_code
def yX1_countWays : MethodName := ⟨RX1, "countWays", "()I"⟩
abbrev cX1_countLuck : ByteArray := prog_3_method_13_code
def yX1_countLuck : MethodName := ⟨RX1, "countLuck", "(I)I"⟩
abbrev cX1_winsFrom : ByteArray := prog_3_method_14_code
def yX1_winsFrom : MethodName := ⟨RX1, "winsFrom", "(II)I"⟩
def RX2 : String := "HeatBench$Line"
def TX2 : u_T := fun k => match k with
  | 0 => ("HeatBench$Line", "row", "[I", true)
  | _ => ("HeatBench$Line", "size", "I", false)
def tyX2 : Nat → FieldType := fun k => match k with
  | 0 => .array .int
  | _ => .int
abbrev wsX20 : List Cond := u_ws RX2 TX2 2
theorem nmX2 : ∀ a, a < 2 → ∀ b, b < 2 → a ≠ b → (TX2 a).2.1 ≠ (TX2 b).2.1 := by decide +kernel
theorem tyX2_ok : ∀ k, k < 2 → parseFieldDescriptor (TX2 k).2.2.1 = some (tyX2 k) := by decide +kernel
abbrev cX2_init : ByteArray := prog_4_method_1_code
def yX2_init : MethodName := ⟨RX2, "<init>", "()V"⟩
abbrev cX2_fillByNumbers : ByteArray := prog_4_method_2_code
def yX2_fillByNumbers : MethodName := ⟨RX2, "fillByNumbers", "(I)V"⟩
abbrev cX2_join : ByteArray := prog_4_method_3_code
def yX2_join : MethodName := ⟨RX2, "join", "(I)V"⟩
abbrev cX2_leave : ByteArray := prog_4_method_4_code
def yX2_leave : MethodName := ⟨RX2, "leave", "(I)V"⟩
abbrev cX2_holds : ByteArray := prog_4_method_5_code
def yX2_holds : MethodName := ⟨RX2, "holds", "(I)Z"⟩
abbrev cX2_positionOf : ByteArray := prog_4_method_6_code
def yX2_positionOf : MethodName := ⟨RX2, "positionOf", "(I)I"⟩
def RX3 : String := "HeatBench$Past"
def TX3 : u_T := fun k => match k with
  | 0 => ("HeatBench$Past", "scores", "[I", true)
  | _ => ("HeatBench$Past", "size", "I", false)
def tyX3 : Nat → FieldType := fun k => match k with
  | 0 => .array .int
  | _ => .int
abbrev wsX30 : List Cond := u_ws RX3 TX3 2
theorem nmX3 : ∀ a, a < 2 → ∀ b, b < 2 → a ≠ b → (TX3 a).2.1 ≠ (TX3 b).2.1 := by decide +kernel
theorem tyX3_ok : ∀ k, k < 2 → parseFieldDescriptor (TX3 k).2.2.1 = some (tyX3 k) := by decide +kernel
abbrev cX3_init : ByteArray := prog_5_method_1_code
def yX3_init : MethodName := ⟨RX3, "<init>", "()V"⟩
abbrev cX3_add : ByteArray := prog_5_method_2_code
def yX3_add : MethodName := ⟨RX3, "add", "(I)V"⟩
abbrev cX3_notBelow : ByteArray := prog_5_method_3_code
def yX3_notBelow : MethodName := ⟨RX3, "notBelow", "(I)I"⟩
def RX4 : String := "HeatBench$Wait"
def TX4 : u_T := fun k => match k with
  | 0 => ("HeatBench$Wait", "days", "I", false)
  | 1 => ("HeatBench$Wait", "from", "[I", true)
  | 2 => ("HeatBench$Wait", "to", "[I", true)
  | 3 => ("HeatBench$Wait", "known", "[I", true)
  | 4 => ("HeatBench$Wait", "above", "[[J", true)
  | _ => ("HeatBench$Wait", "below", "[J", true)
def tyX4 : Nat → FieldType := fun k => match k with
  | 0 => .int
  | 1 => .array .int
  | 2 => .array .int
  | 3 => .array .int
  | 4 => .array (.array .long)
  | _ => .array .long
abbrev wsX40 : List Cond := u_ws RX4 TX4 6
theorem nmX4 : ∀ a, a < 6 → ∀ b, b < 6 → a ≠ b → (TX4 a).2.1 ≠ (TX4 b).2.1 := by decide +kernel
theorem tyX4_ok : ∀ k, k < 6 → parseFieldDescriptor (TX4 k).2.2.1 = some (tyX4 k) := by decide +kernel
abbrev cX4_init : ByteArray := prog_6_method_1_code
def yX4_init : MethodName := ⟨RX4, "<init>", "()V"⟩
abbrev cX4_begin : ByteArray := prog_6_method_2_code
def yX4_begin : MethodName := ⟨RX4, "begin", "(I)V"⟩
abbrev cX4_hasDay : ByteArray := prog_6_method_3_code
def yX4_hasDay : MethodName := ⟨RX4, "hasDay", "(I)Z"⟩
abbrev cX4_isInSpan : ByteArray := prog_6_method_4_code
def yX4_isInSpan : MethodName := ⟨RX4, "isInSpan", "(II)Z"⟩
abbrev cX4_hasWorth : ByteArray := prog_6_method_5_code
def yX4_hasWorth : MethodName := ⟨RX4, "hasWorth", "(II)Z"⟩
abbrev cX4_setSpan : ByteArray := prog_6_method_6_code
def yX4_setSpan : MethodName := ⟨RX4, "setSpan", "(III)V"⟩
abbrev cX4_weighDownFrom : ByteArray := prog_6_method_7_code
def yX4_weighDownFrom : MethodName := ⟨RX4, "weighDownFrom", "(I)V"⟩
abbrev cX4_sumOverSpan : ByteArray := prog_6_method_8_code
def yX4_sumOverSpan : MethodName := ⟨RX4, "sumOverSpan", "(II)J"⟩
abbrev cX4_isCalled : ByteArray := prog_6_method_9_code
def yX4_isCalled : MethodName := ⟨RX4, "isCalled", "(III)Z"⟩
abbrev cX4_aboveIfCalled : ByteArray := prog_6_method_10_code
def yX4_aboveIfCalled : MethodName := ⟨RX4, "aboveIfCalled", "(III)J"⟩
abbrev cX4_countKnown : ByteArray := prog_6_method_11_code
def yX4_countKnown : MethodName := ⟨RX4, "countKnown", "()I"⟩
abbrev cX4_lengthOfRun : ByteArray := prog_6_method_12_code
def yX4_lengthOfRun : MethodName := ⟨RX4, "lengthOfRun", "()I"⟩
abbrev cX4_calledInRun : ByteArray := prog_6_method_13_code
def yX4_calledInRun : MethodName := ⟨RX4, "calledInRun", "(I)I"⟩
abbrev cX4_sumOf : ByteArray := prog_6_method_14_code
def yX4_sumOf : MethodName := ⟨RX4, "sumOf", "(I)I"⟩
abbrev cX4_greatestSum : ByteArray := prog_6_method_15_code
def yX4_greatestSum : MethodName := ⟨RX4, "greatestSum", "(I)I"⟩
def RX5 : String := "HeatBench$Wave"
def TX5 : u_T := fun k => match k with
  | 0 => ("HeatBench$Wave", "number", "I", false)
  | 1 => ("HeatBench$Wave", "turn", "[I", true)
  | 2 => ("HeatBench$Wave", "onIt", "[Z", true)
  | _ => ("HeatBench$Wave", "blamed", "[Z", true)
def tyX5 : Nat → FieldType := fun k => match k with
  | 0 => .int
  | 1 => .array .int
  | 2 => .array .boolean
  | _ => .array .boolean
abbrev wsX50 : List Cond := u_ws RX5 TX5 4
theorem nmX5 : ∀ a, a < 4 → ∀ b, b < 4 → a ≠ b → (TX5 a).2.1 ≠ (TX5 b).2.1 := by decide +kernel
theorem tyX5_ok : ∀ k, k < 4 → parseFieldDescriptor (TX5 k).2.2.1 = some (tyX5 k) := by decide +kernel
abbrev cX5_init : ByteArray := prog_7_method_1_code
def yX5_init : MethodName := ⟨RX5, "<init>", "()V"⟩
abbrev cX5_start : ByteArray := prog_7_method_2_code
def yX5_start : MethodName := ⟨RX5, "start", "(ILHeatBench$Line;)V"⟩
abbrev cX5_end : ByteArray := prog_7_method_3_code
def yX5_end : MethodName := ⟨RX5, "end", "()Z"⟩
abbrev cX5_ride : ByteArray := prog_7_method_4_code
def yX5_ride : MethodName := ⟨RX5, "ride", "(I[I)V"⟩
def RX6 : String := "HeatBench"
def TX6 : u_T := fun k => match k with
  | 0 => ("HeatBench", "heat", "LHeatBench$Heat;", true)
  | 1 => ("HeatBench", "past", "LHeatBench$Past;", true)
  | _ => ("HeatBench", "wait", "LHeatBench$Wait;", true)
def tyX6 : Nat → FieldType := fun k => match k with
  | 0 => .object "HeatBench$Heat"
  | 1 => .object "HeatBench$Past"
  | _ => .object "HeatBench$Wait"
abbrev wsX60 : List Cond := u_ws RX6 TX6 3
theorem nmX6 : ∀ a, a < 3 → ∀ b, b < 3 → a ≠ b → (TX6 a).2.1 ≠ (TX6 b).2.1 := by decide +kernel
theorem tyX6_ok : ∀ k, k < 3 → parseFieldDescriptor (TX6 k).2.2.1 = some (tyX6 k) := by decide +kernel
abbrev cX6_init : ByteArray := prog_1_method_1_code
def yX6_init : MethodName := ⟨RX6, "<init>", "()V"⟩
abbrev cX6_heat : ByteArray := prog_1_method_2_code
def yX6_heat : MethodName := ⟨RX6, "heat", "(I)I"⟩
abbrev cX6_take : ByteArray := prog_1_method_3_code
def yX6_take : MethodName := ⟨RX6, "take", "(II)I"⟩
abbrev cX6_back : ByteArray := prog_1_method_4_code
def yX6_back : MethodName := ⟨RX6, "back", "(I)I"⟩
abbrev cX6_letGo : ByteArray := prog_1_method_5_code
def yX6_letGo : MethodName := ⟨RX6, "letGo", "()I"⟩
abbrev cX6_mark : ByteArray := prog_1_method_6_code
def yX6_mark : MethodName := ⟨RX6, "mark", "(III)I"⟩
abbrev cX6_of : ByteArray := prog_1_method_7_code
def yX6_of : MethodName := ⟨RX6, "of", "(II)I"⟩
abbrev cX6_line : ByteArray := prog_1_method_8_code
def yX6_line : MethodName := ⟨RX6, "line", "(I)I"⟩
abbrev cX6_told : ByteArray := prog_1_method_9_code
def yX6_told : MethodName := ⟨RX6, "told", "(II)I"⟩
abbrev cX6_need : ByteArray := prog_1_method_10_code
def yX6_need : MethodName := ⟨RX6, "need", "(II)I"⟩
abbrev cX6_past : ByteArray := prog_1_method_11_code
def yX6_past : MethodName := ⟨RX6, "past", "(I)I"⟩
abbrev cX6_keep : ByteArray := prog_1_method_12_code
def yX6_keep : MethodName := ⟨RX6, "keep", "()I"⟩
abbrev cX6_forget : ByteArray := prog_1_method_13_code
def yX6_forget : MethodName := ⟨RX6, "forget", "()I"⟩
abbrev cX6_chance : ByteArray := prog_1_method_14_code
def yX6_chance : MethodName := ⟨RX6, "chance", "(III)I"⟩
abbrev cX6_ways : ByteArray := prog_1_method_15_code
def yX6_ways : MethodName := ⟨RX6, "ways", "()I"⟩
abbrev cX6_luck : ByteArray := prog_1_method_16_code
def yX6_luck : MethodName := ⟨RX6, "luck", "(I)I"⟩
abbrev cX6_days : ByteArray := prog_1_method_17_code
def yX6_days : MethodName := ⟨RX6, "days", "(I)I"⟩
abbrev cX6_span : ByteArray := prog_1_method_18_code
def yX6_span : MethodName := ⟨RX6, "span", "(III)I"⟩
abbrev cX6_was : ByteArray := prog_1_method_19_code
def yX6_was : MethodName := ⟨RX6, "was", "(II)I"⟩
abbrev cX6_worth : ByteArray := prog_1_method_20_code
def yX6_worth : MethodName := ⟨RX6, "worth", "(III)J"⟩
abbrev cX6_call : ByteArray := prog_1_method_21_code
def yX6_call : MethodName := ⟨RX6, "call", "(III)I"⟩
abbrev cX6_run : ByteArray := prog_1_method_22_code
def yX6_run : MethodName := ⟨RX6, "run", "(II)I"⟩
abbrev cX6_behind : ByteArray := prog_1_method_23_code
def yX6_behind : MethodName := ⟨RX6, "behind", "(I)I"⟩
abbrev cX6_many : ByteArray := prog_1_method_24_code
def yX6_many : MethodName := ⟨RX6, "many", "(I)I"⟩
abbrev cX6_isAboveOrBelow : ByteArray := prog_1_method_25_code
def yX6_isAboveOrBelow : MethodName := ⟨RX6, "isAboveOrBelow", "(I)Z"⟩
abbrev cX6_isQuality : ByteArray := prog_1_method_26_code
def yX6_isQuality : MethodName := ⟨RX6, "isQuality", "(I)Z"⟩
abbrev cX6_cleared : ByteArray := prog_1_method_27_code
def yX6_cleared : MethodName := ⟨RX6, "cleared", "(JJI)J"⟩
abbrev cX6_commonDivisor : ByteArray := prog_1_method_28_code
def yX6_commonDivisor : MethodName := ⟨RX6, "commonDivisor", "(JJ)J"⟩
def RX7 : String := "HeatBenchModel"
def TX7 : u_T := fun k => match k with
  | 0 => ("HeatBenchModel", "riders", "I", false)
  | 1 => ("HeatBenchModel", "rides", "I", false)
  | 2 => ("HeatBenchModel", "riderOf", "[I", true)
  | 3 => ("HeatBenchModel", "waveOf", "[I", true)
  | 4 => ("HeatBenchModel", "marks", "[I", true)
  | 5 => ("HeatBenchModel", "lineMany", "I", false)
  | 6 => ("HeatBenchModel", "line", "[I", true)
  | 7 => ("HeatBenchModel", "interfered", "[I", true)
  | 8 => ("HeatBenchModel", "isOpen", "Z", false)
  | 9 => ("HeatBenchModel", "group", "I", false)
  | 10 => ("HeatBenchModel", "wrong", "I", false)
  | 11 => ("HeatBenchModel", "stood", "[I", true)
  | 12 => ("HeatBenchModel", "pastMany", "I", false)
  | 13 => ("HeatBenchModel", "past", "[I", true)
  | 14 => ("HeatBenchModel", "days", "I", false)
  | 15 => ("HeatBenchModel", "low", "[I", true)
  | 16 => ("HeatBenchModel", "high", "[I", true)
  | 17 => ("HeatBenchModel", "was", "[I", true)
  | 18 => ("HeatBenchModel", "best", "[I", true)
  | 19 => ("HeatBenchModel", "second", "[I", true)
  | 20 => ("HeatBenchModel", "total", "[I", true)
  | 21 => ("HeatBenchModel", "givenTo", "[I", true)
  | 22 => ("HeatBenchModel", "has", "[I", true)
  | 23 => ("HeatBenchModel", "own", "[I", true)
  | 24 => ("HeatBenchModel", "sums", "[J", true)
  | _ => ("HeatBenchModel", "below", "[J", true)
def tyX7 : Nat → FieldType := fun k => match k with
  | 0 => .int
  | 1 => .int
  | 2 => .array .int
  | 3 => .array .int
  | 4 => .array .int
  | 5 => .int
  | 6 => .array .int
  | 7 => .array .int
  | 8 => .boolean
  | 9 => .int
  | 10 => .int
  | 11 => .array .int
  | 12 => .int
  | 13 => .array .int
  | 14 => .int
  | 15 => .array .int
  | 16 => .array .int
  | 17 => .array .int
  | 18 => .array .int
  | 19 => .array .int
  | 20 => .array .int
  | 21 => .array .int
  | 22 => .array .int
  | 23 => .array .int
  | 24 => .array .long
  | _ => .array .long
abbrev wsX70 : List Cond := u_ws RX7 TX7 26
theorem nmX7 : ∀ a, a < 26 → ∀ b, b < 26 → a ≠ b → (TX7 a).2.1 ≠ (TX7 b).2.1 := by decide +kernel
theorem tyX7_ok : ∀ k, k < 26 → parseFieldDescriptor (TX7 k).2.2.1 = some (tyX7 k) := by decide +kernel
abbrev cX7_init : ByteArray := prog_9_method_1_code
def yX7_init : MethodName := ⟨RX7, "<init>", "()V"⟩
abbrev cX7_in : ByteArray := prog_9_method_2_code
def yX7_in : MethodName := ⟨RX7, "in", "(III)Z"⟩
abbrev cX7_isRider : ByteArray := prog_9_method_3_code
def yX7_isRider : MethodName := ⟨RX7, "isRider", "(I)Z"⟩
abbrev cX7_isRide : ByteArray := prog_9_method_4_code
def yX7_isRide : MethodName := ⟨RX7, "isRide", "(I)Z"⟩
abbrev cX7_begin : ByteArray := prog_9_method_5_code
def yX7_begin : MethodName := ⟨RX7, "begin", "(I)V"⟩
abbrev cX7_heat : ByteArray := prog_9_method_6_code
def yX7_heat : MethodName := ⟨RX7, "heat", "(I)I"⟩
abbrev cX7_placeInLine : ByteArray := prog_9_method_7_code
def yX7_placeInLine : MethodName := ⟨RX7, "placeInLine", "(I)I"⟩
abbrev cX7_beginGroup : ByteArray := prog_9_method_8_code
def yX7_beginGroup : MethodName := ⟨RX7, "beginGroup", "()V"⟩
abbrev cX7_joins : ByteArray := prog_9_method_9_code
def yX7_joins : MethodName := ⟨RX7, "joins", "(I)V"⟩
abbrev cX7_take : ByteArray := prog_9_method_10_code
def yX7_take : MethodName := ⟨RX7, "take", "(II)I"⟩
abbrev cX7_back : ByteArray := prog_9_method_11_code
def yX7_back : MethodName := ⟨RX7, "back", "(I)I"⟩
abbrev cX7_letGo : ByteArray := prog_9_method_12_code
def yX7_letGo : MethodName := ⟨RX7, "letGo", "()I"⟩
abbrev cX7_mark : ByteArray := prog_9_method_13_code
def yX7_mark : MethodName := ⟨RX7, "mark", "(III)I"⟩
abbrev cX7_marksOf : ByteArray := prog_9_method_14_code
def yX7_marksOf : MethodName := ⟨RX7, "marksOf", "(I)I"⟩
abbrev cX7_scoreOf : ByteArray := prog_9_method_15_code
def yX7_scoreOf : MethodName := ⟨RX7, "scoreOf", "(I)I"⟩
abbrev cX7_of : ByteArray := prog_9_method_16_code
def yX7_of : MethodName := ⟨RX7, "of", "(II)I"⟩
abbrev cX7_line : ByteArray := prog_9_method_17_code
def yX7_line : MethodName := ⟨RX7, "line", "(I)I"⟩
abbrev cX7_clearBest : ByteArray := prog_9_method_18_code
def yX7_clearBest : MethodName := ⟨RX7, "clearBest", "()V"⟩
abbrev cX7_counts : ByteArray := prog_9_method_19_code
def yX7_counts : MethodName := ⟨RX7, "counts", "(II)V"⟩
abbrev cX7_findTotals : ByteArray := prog_9_method_20_code
def yX7_findTotals : MethodName := ⟨RX7, "findTotals", "()V"⟩
abbrev cX7_findBest : ByteArray := prog_9_method_21_code
def yX7_findBest : MethodName := ⟨RX7, "findBest", "()V"⟩
abbrev cX7_placeOf : ByteArray := prog_9_method_22_code
def yX7_placeOf : MethodName := ⟨RX7, "placeOf", "(I)I"⟩
abbrev cX7_ridesOf : ByteArray := prog_9_method_23_code
def yX7_ridesOf : MethodName := ⟨RX7, "ridesOf", "(I)I"⟩
abbrev cX7_told : ByteArray := prog_9_method_24_code
def yX7_told : MethodName := ⟨RX7, "told", "(II)I"⟩
abbrev cX7_needOf : ByteArray := prog_9_method_25_code
def yX7_needOf : MethodName := ⟨RX7, "needOf", "(II)I"⟩
abbrev cX7_need : ByteArray := prog_9_method_26_code
def yX7_need : MethodName := ⟨RX7, "need", "(II)I"⟩
abbrev cX7_past : ByteArray := prog_9_method_27_code
def yX7_past : MethodName := ⟨RX7, "past", "(I)I"⟩
abbrev cX7_keep : ByteArray := prog_9_method_28_code
def yX7_keep : MethodName := ⟨RX7, "keep", "()I"⟩
abbrev cX7_forget : ByteArray := prog_9_method_29_code
def yX7_forget : MethodName := ⟨RX7, "forget", "()I"⟩
abbrev cX7_common : ByteArray := prog_9_method_30_code
def yX7_common : MethodName := ⟨RX7, "common", "(JJ)J"⟩
abbrev cX7_chance : ByteArray := prog_9_method_31_code
def yX7_chance : MethodName := ⟨RX7, "chance", "(III)I"⟩
abbrev cX7_goThrough : ByteArray := prog_9_method_32_code
def yX7_goThrough : MethodName := ⟨RX7, "goThrough", "(I)I"⟩
abbrev cX7_wins : ByteArray := prog_9_method_33_code
def yX7_wins : MethodName := ⟨RX7, "wins", "(I)Z"⟩
abbrev cX7_ways : ByteArray := prog_9_method_34_code
def yX7_ways : MethodName := ⟨RX7, "ways", "()I"⟩
abbrev cX7_luck : ByteArray := prog_9_method_35_code
def yX7_luck : MethodName := ⟨RX7, "luck", "(I)I"⟩
abbrev cX7_beginDays : ByteArray := prog_9_method_36_code
def yX7_beginDays : MethodName := ⟨RX7, "beginDays", "(I)V"⟩
abbrev cX7_days : ByteArray := prog_9_method_37_code
def yX7_days : MethodName := ⟨RX7, "days", "(I)I"⟩
abbrev cX7_isDay : ByteArray := prog_9_method_38_code
def yX7_isDay : MethodName := ⟨RX7, "isDay", "(I)Z"⟩
abbrev cX7_span : ByteArray := prog_9_method_39_code
def yX7_span : MethodName := ⟨RX7, "span", "(III)I"⟩
abbrev cX7_was : ByteArray := prog_9_method_40_code
def yX7_was : MethodName := ⟨RX7, "was", "(II)I"⟩
abbrev cX7_findWorths : ByteArray := prog_9_method_41_code
def yX7_findWorths : MethodName := ⟨RX7, "findWorths", "()V"⟩
abbrev cX7_worth : ByteArray := prog_9_method_42_code
def yX7_worth : MethodName := ⟨RX7, "worth", "(III)J"⟩
abbrev cX7_isCalled : ByteArray := prog_9_method_43_code
def yX7_isCalled : MethodName := ⟨RX7, "isCalled", "(III)Z"⟩
abbrev cX7_call : ByteArray := prog_9_method_44_code
def yX7_call : MethodName := ⟨RX7, "call", "(III)I"⟩
abbrev cX7_run : ByteArray := prog_9_method_45_code
def yX7_run : MethodName := ⟨RX7, "run", "(II)I"⟩
abbrev cX7_known : ByteArray := prog_9_method_46_code
def yX7_known : MethodName := ⟨RX7, "known", "()I"⟩
abbrev cX7_behind : ByteArray := prog_9_method_47_code
def yX7_behind : MethodName := ⟨RX7, "behind", "(I)I"⟩
abbrev cX7_many : ByteArray := prog_9_method_48_code
def yX7_many : MethodName := ⟨RX7, "many", "(I)I"⟩
def RJ9 : String := "java/lang/Math"
def TJ9 : u_T := fun k => match k with
  | _ => ("", "", "", false)
def tyJ9 : Nat → FieldType := fun k => match k with
  | _ => .int
abbrev wsJ90 : List Cond := u_ws RJ9 TJ9 0
theorem nmJ9 : ∀ a, a < 0 → ∀ b, b < 0 → a ≠ b → (TJ9 a).2.1 ≠ (TJ9 b).2.1 := by decide +kernel
theorem tyJ9_ok : ∀ k, k < 0 → parseFieldDescriptor (TJ9 k).2.2.1 = some (tyJ9 k) := by decide +kernel
abbrev cJ9_max_7cf53 : ByteArray := prog_10_method_65_code
def yJ9_max_7cf53 : MethodName := ⟨RJ9, "max", "(II)I"⟩
abbrev cJ9_min_7cf53 : ByteArray := prog_10_method_69_code
def yJ9_min_7cf53 : MethodName := ⟨RJ9, "min", "(II)I"⟩
def RL : String := "HeatBenchLaw"
abbrev cL_law : ByteArray := code
def yL_law : MethodName := ⟨RL, "law", "([I)Z"⟩
def wsX0_init : List Cond := .code yX0_init cX0_init 1 none :: ([.methodLink RX0 3 objectInit, .instanceMethod objectInit, .code objectInit ⟨#[0xb1]⟩ 1 none, .arrayClass .int, .fieldLink RX0 9 "HeatBench$Board" "best" "[I", .fieldLink RX0 15 "HeatBench$Board" "second" "[I", .fieldLink RX0 18 "HeatBench$Board" "faults" "[I"] ++ wsX00)
def wsX0_begin : List Cond := .code yX0_begin cX0_begin 3 none :: ([.fieldLink RX0 21 "HeatBench$Board" "riders" "I", .fieldLink RX0 18 "HeatBench$Board" "faults" "[I"] ++ wsX00)
def wsX0_setScores : List Cond := .code yX0_setScores cX0_setScores 4 none :: ([.fieldLink RX0 9 "HeatBench$Board" "best" "[I", .fieldLink RX0 15 "HeatBench$Board" "second" "[I"] ++ wsX00)
def wsX0_clearScores : List Cond := .code yX0_clearScores cX0_clearScores 2 none :: ([.methodLink RX0 25 yX0_setScores, .instanceMethod yX0_setScores, .selects RX0 yX0_setScores yX0_setScores, .initialized RX0, .code yX0_setScores cX0_setScores 4 none, .fieldLink RX0 9 "HeatBench$Board" "best" "[I", .fieldLink RX0 15 "HeatBench$Board" "second" "[I"] ++ wsX00)
def wsX0_addScore : List Cond := .code yX0_addScore cX0_addScore 3 none :: ([.fieldLink RX0 9 "HeatBench$Board" "best" "[I", .fieldLink RX0 15 "HeatBench$Board" "second" "[I", .methodLink RX0 25 yX0_setScores, .instanceMethod yX0_setScores, .selects RX0 yX0_setScores yX0_setScores, .initialized RX0, .code yX0_setScores cX0_setScores 4 none] ++ wsX00)
def wsX0_total : List Cond := .code yX0_total cX0_total 2 (some .int) :: ([.fieldLink RX0 18 "HeatBench$Board" "faults" "[I", .fieldLink RX0 9 "HeatBench$Board" "best" "[I", .fieldLink RX0 15 "HeatBench$Board" "second" "[I"] ++ wsX00)
def wsX0_isBetter : List Cond := .code yX0_isBetter cX0_isBetter 5 (some .boolean) :: ([.fieldLink RX0 9 "HeatBench$Board" "best" "[I", .methodLink RX0 33 yX0_total, .instanceMethod yX0_total, .selects RX0 yX0_total yX0_total, .initialized RX0, .code yX0_total cX0_total 2 (some .int), .fieldLink RX0 18 "HeatBench$Board" "faults" "[I", .fieldLink RX0 15 "HeatBench$Board" "second" "[I"] ++ wsX00)
def wsX0_placeOf : List Cond := .code yX0_placeOf cX0_placeOf 4 (some .int) :: ([.fieldLink RX0 21 "HeatBench$Board" "riders" "I", .methodLink RX0 29 yX0_isBetter, .instanceMethod yX0_isBetter, .selects RX0 yX0_isBetter yX0_isBetter, .initialized RX0, .code yX0_isBetter cX0_isBetter 5 (some .boolean), .fieldLink RX0 9 "HeatBench$Board" "best" "[I", .methodLink RX0 33 yX0_total, .instanceMethod yX0_total, .selects RX0 yX0_total yX0_total, .code yX0_total cX0_total 2 (some .int), .fieldLink RX0 18 "HeatBench$Board" "faults" "[I", .fieldLink RX0 15 "HeatBench$Board" "second" "[I"] ++ wsX00)
def wsX0_allFaults : List Cond := .code yX0_allFaults cX0_allFaults 3 (some .int) :: ([.fieldLink RX0 21 "HeatBench$Board" "riders" "I", .fieldLink RX0 18 "HeatBench$Board" "faults" "[I"] ++ wsX00)
def wsX2_init : List Cond := .code yX2_init cX2_init 1 none :: ([.methodLink RX2 3 objectInit, .instanceMethod objectInit, .code objectInit ⟨#[0xb1]⟩ 1 none, .arrayClass .int, .fieldLink RX2 9 "HeatBench$Line" "row" "[I"] ++ wsX20)
def wsX5_init : List Cond := .code yX5_init cX5_init 1 none :: ([.methodLink RX5 3 objectInit, .instanceMethod objectInit, .code objectInit ⟨#[0xb1]⟩ 1 none, .fieldLink RX5 9 "HeatBench$Wave" "number" "I", .arrayClass .int, .fieldLink RX5 15 "HeatBench$Wave" "turn" "[I", .arrayClass .boolean, .fieldLink RX5 19 "HeatBench$Wave" "onIt" "[Z", .fieldLink RX5 23 "HeatBench$Wave" "blamed" "[Z"] ++ wsX50)
def wsX2_join : List Cond := .code yX2_join cX2_join 2 none :: ([.fieldLink RX2 15 "HeatBench$Line" "size" "I", .fieldLink RX2 9 "HeatBench$Line" "row" "[I"] ++ wsX20)
def wsX2_fillByNumbers : List Cond := .code yX2_fillByNumbers cX2_fillByNumbers 3 none :: ([.fieldLink RX2 15 "HeatBench$Line" "size" "I", .methodLink RX2 19 yX2_join, .instanceMethod yX2_join, .selects RX2 yX2_join yX2_join, .initialized RX2, .code yX2_join cX2_join 2 none, .fieldLink RX2 9 "HeatBench$Line" "row" "[I"] ++ wsX20)
def wsX5_end : List Cond := .code yX5_end cX5_end 2 (some .boolean) :: ([.fieldLink RX5 9 "HeatBench$Wave" "number" "I"] ++ wsX50)
def wsX1_begin_r1 : List Cond := [Cond.fieldLink RX1 55 "HeatBench$Heat" "riders" "I", Cond.fieldLink RX1 59 "HeatBench$Heat" "rides" "I", Cond.fieldLink RX1 33 "HeatBench$Heat" "line" "LHeatBench$Line;", Cond.fieldLink RX1 40 "HeatBench$Heat" "wave" "LHeatBench$Wave;", Cond.fieldLink RX1 47 "HeatBench$Heat" "board" "LHeatBench$Board;", Cond.methodLink RX1 62 yX2_fillByNumbers, Cond.instanceMethod yX2_fillByNumbers, Cond.selects RX2 yX2_fillByNumbers yX2_fillByNumbers, Cond.initialized RX2, Cond.code yX2_fillByNumbers cX2_fillByNumbers 3 none, Cond.fieldLink RX2 15 "HeatBench$Line" "size" "I", Cond.methodLink RX2 19 yX2_join, Cond.instanceMethod yX2_join, Cond.selects RX2 yX2_join yX2_join, Cond.code yX2_join cX2_join 2 none, Cond.fieldLink RX2 9 "HeatBench$Line" "row" "[I", Cond.methodLink RX1 65 yX5_end, Cond.instanceMethod yX5_end, Cond.selects RX5 yX5_end yX5_end, Cond.initialized RX5, Cond.code yX5_end cX5_end 2 (some .boolean), Cond.fieldLink RX5 9 "HeatBench$Wave" "number" "I", Cond.methodLink RX1 69 yX0_begin, Cond.instanceMethod yX0_begin]
def wsX1_begin_r2 : List Cond := [Cond.selects RX0 yX0_begin yX0_begin, Cond.initialized RX0, Cond.code yX0_begin cX0_begin 3 none, Cond.fieldLink RX0 21 "HeatBench$Board" "riders" "I", Cond.fieldLink RX0 18 "HeatBench$Board" "faults" "[I"]
def wsX1_begin : List Cond := .code yX1_begin cX1_begin 2 none :: ((wsX1_begin_r1 ++ wsX1_begin_r2) ++ wsX10 ++ wsX20 ++ wsX50 ++ wsX00)
def wsX1_init_r1 : List Cond := [Cond.methodLink RX1 3 objectInit, Cond.instanceMethod objectInit, Cond.code objectInit ⟨#[0xb1]⟩ 1 none, Cond.arrayClass .int, Cond.fieldLink RX1 9 "HeatBench$Heat" "riderOf" "[I", Cond.fieldLink RX1 15 "HeatBench$Heat" "waveOf" "[I", Cond.fieldLink RX1 18 "HeatBench$Heat" "marks" "[I", Cond.fieldLink RX1 21 "HeatBench$Heat" "marksOf" "[I", Cond.fieldLink RX1 24 "HeatBench$Heat" "scoreOf" "[I", Cond.fieldLink RX1 27 "HeatBench$Heat" "toGive" "[I", Cond.classLink RX1 30 RX2, Cond.instantiable RX2 2, Cond.initialized RX2, Cond.fieldLink RX1 33 "HeatBench$Heat" "line" "LHeatBench$Line;", Cond.classLink RX1 37 RX5, Cond.instantiable RX5 4, Cond.initialized RX5, Cond.fieldLink RX1 40 "HeatBench$Heat" "wave" "LHeatBench$Wave;", Cond.classLink RX1 44 RX0, Cond.instantiable RX0 4, Cond.initialized RX0, Cond.fieldLink RX1 47 "HeatBench$Heat" "board" "LHeatBench$Board;", Cond.instanceMethod yX2_init, Cond.code yX2_init cX2_init 1 none]
def wsX1_init_r2 : List Cond := [Cond.methodLink RX2 3 objectInit, Cond.fieldLink RX2 9 "HeatBench$Line" "row" "[I", Cond.instanceMethod yX5_init, Cond.code yX5_init cX5_init 1 none, Cond.methodLink RX5 3 objectInit, Cond.fieldLink RX5 9 "HeatBench$Wave" "number" "I", Cond.fieldLink RX5 15 "HeatBench$Wave" "turn" "[I", Cond.arrayClass .boolean, Cond.fieldLink RX5 19 "HeatBench$Wave" "onIt" "[Z", Cond.fieldLink RX5 23 "HeatBench$Wave" "blamed" "[Z", Cond.instanceMethod yX0_init, Cond.code yX0_init cX0_init 1 none, Cond.methodLink RX0 3 objectInit, Cond.fieldLink RX0 9 "HeatBench$Board" "best" "[I", Cond.fieldLink RX0 15 "HeatBench$Board" "second" "[I", Cond.fieldLink RX0 18 "HeatBench$Board" "faults" "[I", Cond.methodLink RX1 51 yX1_begin, Cond.instanceMethod yX1_begin, Cond.selects RX1 yX1_begin yX1_begin, Cond.initialized RX1, Cond.code yX1_begin cX1_begin 2 none, Cond.fieldLink RX1 55 "HeatBench$Heat" "riders" "I", Cond.fieldLink RX1 59 "HeatBench$Heat" "rides" "I", Cond.methodLink RX1 62 yX2_fillByNumbers]
def wsX1_init_r3 : List Cond := [Cond.instanceMethod yX2_fillByNumbers, Cond.selects RX2 yX2_fillByNumbers yX2_fillByNumbers, Cond.code yX2_fillByNumbers cX2_fillByNumbers 3 none, Cond.fieldLink RX2 15 "HeatBench$Line" "size" "I", Cond.methodLink RX2 19 yX2_join, Cond.instanceMethod yX2_join, Cond.selects RX2 yX2_join yX2_join, Cond.code yX2_join cX2_join 2 none, Cond.methodLink RX1 65 yX5_end, Cond.instanceMethod yX5_end, Cond.selects RX5 yX5_end yX5_end, Cond.code yX5_end cX5_end 2 (some .boolean), Cond.methodLink RX1 69 yX0_begin, Cond.instanceMethod yX0_begin, Cond.selects RX0 yX0_begin yX0_begin, Cond.code yX0_begin cX0_begin 3 none, Cond.fieldLink RX0 21 "HeatBench$Board" "riders" "I"]
def wsX1_init : List Cond := .code yX1_init cX1_init 1 none :: ((wsX1_init_r1 ++ (wsX1_init_r2 ++ wsX1_init_r3)) ++ wsX10 ++ wsX20 ++ wsX50 ++ wsX00)
def wsX1_hasRider : List Cond := .code yX1_hasRider cX1_hasRider 2 (some .boolean) :: ([.fieldLink RX1 55 "HeatBench$Heat" "riders" "I"] ++ wsX10)
def wsX1_hasRide : List Cond := .code yX1_hasRide cX1_hasRide 2 (some .boolean) :: ([.fieldLink RX1 59 "HeatBench$Heat" "rides" "I"] ++ wsX10)
def wsX1_score : List Cond := .code yX1_score cX1_score 8 none :: ([.fieldLink RX1 18 "HeatBench$Heat" "marks" "[I", .methodLink RX1 90 Lib.Math.min.name, .static Lib.Math.min.name, .initialized "java/lang/Math", .code Lib.Math.min.name Lib.Math.min.code 2 (some .int), .methodLink RX1 96 Lib.Math.max.name, .static Lib.Math.max.name, .code Lib.Math.max.name Lib.Math.max.code 2 (some .int), .fieldLink RX1 21 "HeatBench$Heat" "marksOf" "[I", .fieldLink RX1 24 "HeatBench$Heat" "scoreOf" "[I"] ++ wsX10)
def wsX2_positionOf : List Cond := .code yX2_positionOf cX2_positionOf 3 (some .int) :: ([.fieldLink RX2 15 "HeatBench$Line" "size" "I", .fieldLink RX2 9 "HeatBench$Line" "row" "[I"] ++ wsX20)
def wsX2_holds : List Cond := .code yX2_holds cX2_holds 2 (some .boolean) :: ([.fieldLink RX2 15 "HeatBench$Line" "size" "I", .methodLink RX2 23 yX2_positionOf, .instanceMethod yX2_positionOf, .selects RX2 yX2_positionOf yX2_positionOf, .initialized RX2, .code yX2_positionOf cX2_positionOf 3 (some .int), .fieldLink RX2 9 "HeatBench$Line" "row" "[I"] ++ wsX20)
def wsX5_start : List Cond := .code yX5_start cX5_start 4 none :: ([.fieldLink RX5 9 "HeatBench$Wave" "number" "I", .fieldLink RX5 15 "HeatBench$Wave" "turn" "[I", .fieldLink RX5 19 "HeatBench$Wave" "onIt" "[Z", .fieldLink RX5 23 "HeatBench$Wave" "blamed" "[Z", .methodLink RX5 26 yX2_holds, .instanceMethod yX2_holds, .selects RX2 yX2_holds yX2_holds, .initialized RX2, .code yX2_holds cX2_holds 2 (some .boolean), .fieldLink RX2 15 "HeatBench$Line" "size" "I", .methodLink RX2 23 yX2_positionOf, .instanceMethod yX2_positionOf, .selects RX2 yX2_positionOf yX2_positionOf, .code yX2_positionOf cX2_positionOf 3 (some .int), .fieldLink RX2 9 "HeatBench$Line" "row" "[I", .methodLink RX5 32 yX2_positionOf] ++ wsX50 ++ wsX20)
def wsX5_ride : List Cond := .code yX5_ride cX5_ride 5 none :: ([.fieldLink RX5 19 "HeatBench$Wave" "onIt" "[Z", .fieldLink RX5 15 "HeatBench$Wave" "turn" "[I", .fieldLink RX5 23 "HeatBench$Wave" "blamed" "[Z"] ++ wsX50)
def wsX2_leave : List Cond := .code yX2_leave cX2_leave 4 none :: ([.fieldLink RX2 15 "HeatBench$Line" "size" "I", .fieldLink RX2 9 "HeatBench$Line" "row" "[I"] ++ wsX20)
def wsX1_addRide_r1 : List Cond := [Cond.fieldLink RX1 59 "HeatBench$Heat" "rides" "I", Cond.fieldLink RX1 9 "HeatBench$Heat" "riderOf" "[I", Cond.fieldLink RX1 15 "HeatBench$Heat" "waveOf" "[I", Cond.fieldLink RX1 18 "HeatBench$Heat" "marks" "[I", Cond.fieldLink RX1 40 "HeatBench$Heat" "wave" "LHeatBench$Wave;", Cond.fieldLink RX1 73 "HeatBench$Wave" "number" "I", Cond.fieldLink RX1 33 "HeatBench$Heat" "line" "LHeatBench$Line;", Cond.fieldLink RX1 47 "HeatBench$Heat" "board" "LHeatBench$Board;", Cond.fieldLink RX1 80 "HeatBench$Board" "faults" "[I", Cond.methodLink RX1 70 yX1_score, Cond.instanceMethod yX1_score, Cond.selects RX1 yX1_score yX1_score, Cond.initialized RX1, Cond.code yX1_score cX1_score 8 none, Cond.methodLink RX1 90 Lib.Math.min.name, Cond.static Lib.Math.min.name, Cond.initialized "java/lang/Math", Cond.code Lib.Math.min.name Lib.Math.min.code 2 (some .int), Cond.methodLink RX1 96 Lib.Math.max.name, Cond.static Lib.Math.max.name, Cond.code Lib.Math.max.name Lib.Math.max.code 2 (some .int), Cond.fieldLink RX1 21 "HeatBench$Heat" "marksOf" "[I", Cond.fieldLink RX1 24 "HeatBench$Heat" "scoreOf" "[I", Cond.methodLink RX1 76 yX5_start]
def wsX1_addRide_r2 : List Cond := [Cond.instanceMethod yX5_start, Cond.selects RX5 yX5_start yX5_start, Cond.initialized RX5, Cond.code yX5_start cX5_start 4 none, Cond.fieldLink RX5 9 "HeatBench$Wave" "number" "I", Cond.fieldLink RX5 15 "HeatBench$Wave" "turn" "[I", Cond.fieldLink RX5 19 "HeatBench$Wave" "onIt" "[Z", Cond.fieldLink RX5 23 "HeatBench$Wave" "blamed" "[Z", Cond.methodLink RX5 26 yX2_holds, Cond.instanceMethod yX2_holds, Cond.selects RX2 yX2_holds yX2_holds, Cond.initialized RX2, Cond.code yX2_holds cX2_holds 2 (some .boolean), Cond.fieldLink RX2 15 "HeatBench$Line" "size" "I", Cond.methodLink RX2 23 yX2_positionOf, Cond.instanceMethod yX2_positionOf, Cond.selects RX2 yX2_positionOf yX2_positionOf, Cond.code yX2_positionOf cX2_positionOf 3 (some .int), Cond.fieldLink RX2 9 "HeatBench$Line" "row" "[I", Cond.methodLink RX5 32 yX2_positionOf, Cond.methodLink RX1 83 yX5_ride, Cond.instanceMethod yX5_ride, Cond.selects RX5 yX5_ride yX5_ride, Cond.code yX5_ride cX5_ride 5 none]
def wsX1_addRide_r3 : List Cond := [Cond.methodLink RX1 87 yX2_leave, Cond.instanceMethod yX2_leave, Cond.selects RX2 yX2_leave yX2_leave, Cond.code yX2_leave cX2_leave 4 none]
def wsX1_addRide : List Cond := .code yX1_addRide cX1_addRide 5 (some .int) :: ((wsX1_addRide_r1 ++ (wsX1_addRide_r2 ++ wsX1_addRide_r3)) ++ wsX10 ++ wsX50 ++ wsX00 ++ wsX20)
def wsX1_setMark : List Cond := .code yX1_setMark cX1_setMark 6 (some .int) :: ([.fieldLink RX1 18 "HeatBench$Heat" "marks" "[I", .methodLink RX1 70 yX1_score, .instanceMethod yX1_score, .selects RX1 yX1_score yX1_score, .initialized RX1, .code yX1_score cX1_score 8 none, .methodLink RX1 90 Lib.Math.min.name, .static Lib.Math.min.name, .initialized "java/lang/Math", .code Lib.Math.min.name Lib.Math.min.code 2 (some .int), .methodLink RX1 96 Lib.Math.max.name, .static Lib.Math.max.name, .code Lib.Math.max.name Lib.Math.max.code 2 (some .int), .fieldLink RX1 21 "HeatBench$Heat" "marksOf" "[I", .fieldLink RX1 24 "HeatBench$Heat" "scoreOf" "[I"] ++ wsX10)
def wsX1_markedRides : List Cond := .code yX1_markedRides cX1_markedRides 3 (some .int) :: ([.fieldLink RX1 59 "HeatBench$Heat" "rides" "I", .fieldLink RX1 21 "HeatBench$Heat" "marksOf" "[I"] ++ wsX10)
def wsX1_ridesBy : List Cond := .code yX1_ridesBy cX1_ridesBy 4 (some .int) :: ([.fieldLink RX1 59 "HeatBench$Heat" "rides" "I", .fieldLink RX1 9 "HeatBench$Heat" "riderOf" "[I"] ++ wsX10)
def wsX1_tally : List Cond := .code yX1_tally cX1_tally 2 none :: ([.fieldLink RX1 47 "HeatBench$Heat" "board" "LHeatBench$Board;", .fieldLink RX1 59 "HeatBench$Heat" "rides" "I", .fieldLink RX1 9 "HeatBench$Heat" "riderOf" "[I", .fieldLink RX1 24 "HeatBench$Heat" "scoreOf" "[I", .methodLink RX1 99 yX0_clearScores, .instanceMethod yX0_clearScores, .selects RX0 yX0_clearScores yX0_clearScores, .initialized RX0, .code yX0_clearScores cX0_clearScores 2 none, .methodLink RX0 25 yX0_setScores, .instanceMethod yX0_setScores, .selects RX0 yX0_setScores yX0_setScores, .code yX0_setScores cX0_setScores 4 none, .fieldLink RX0 9 "HeatBench$Board" "best" "[I", .fieldLink RX0 15 "HeatBench$Board" "second" "[I", .methodLink RX1 102 yX0_addScore, .instanceMethod yX0_addScore, .selects RX0 yX0_addScore yX0_addScore, .code yX0_addScore cX0_addScore 3 none] ++ wsX10 ++ wsX00)
def wsX1_leastScoreFor_r1 : List Cond := [Cond.fieldLink RX1 47 "HeatBench$Heat" "board" "LHeatBench$Board;", Cond.fieldLink RX1 109 "HeatBench$Board" "best" "[I", Cond.fieldLink RX1 112 "HeatBench$Board" "second" "[I", Cond.methodLink RX1 106 yX1_tally, Cond.instanceMethod yX1_tally, Cond.selects RX1 yX1_tally yX1_tally, Cond.initialized RX1, Cond.code yX1_tally cX1_tally 2 none, Cond.fieldLink RX1 59 "HeatBench$Heat" "rides" "I", Cond.fieldLink RX1 9 "HeatBench$Heat" "riderOf" "[I", Cond.fieldLink RX1 24 "HeatBench$Heat" "scoreOf" "[I", Cond.methodLink RX1 99 yX0_clearScores, Cond.instanceMethod yX0_clearScores, Cond.selects RX0 yX0_clearScores yX0_clearScores, Cond.initialized RX0, Cond.code yX0_clearScores cX0_clearScores 2 none, Cond.methodLink RX0 25 yX0_setScores, Cond.instanceMethod yX0_setScores, Cond.selects RX0 yX0_setScores yX0_setScores, Cond.code yX0_setScores cX0_setScores 4 none, Cond.fieldLink RX0 9 "HeatBench$Board" "best" "[I", Cond.fieldLink RX0 15 "HeatBench$Board" "second" "[I", Cond.methodLink RX1 102 yX0_addScore, Cond.instanceMethod yX0_addScore]
def wsX1_leastScoreFor_r2 : List Cond := [Cond.selects RX0 yX0_addScore yX0_addScore, Cond.code yX0_addScore cX0_addScore 3 none, Cond.methodLink RX1 115 yX0_placeOf, Cond.instanceMethod yX0_placeOf, Cond.selects RX0 yX0_placeOf yX0_placeOf, Cond.code yX0_placeOf cX0_placeOf 4 (some .int), Cond.fieldLink RX0 21 "HeatBench$Board" "riders" "I", Cond.methodLink RX0 29 yX0_isBetter, Cond.instanceMethod yX0_isBetter, Cond.selects RX0 yX0_isBetter yX0_isBetter, Cond.code yX0_isBetter cX0_isBetter 5 (some .boolean), Cond.methodLink RX0 33 yX0_total, Cond.instanceMethod yX0_total, Cond.selects RX0 yX0_total yX0_total, Cond.code yX0_total cX0_total 2 (some .int), Cond.fieldLink RX0 18 "HeatBench$Board" "faults" "[I", Cond.methodLink RX1 119 yX0_setScores]
def wsX1_leastScoreFor : List Cond := .code yX1_leastScoreFor cX1_leastScoreFor 6 (some .int) :: ((wsX1_leastScoreFor_r1 ++ wsX1_leastScoreFor_r2) ++ wsX10 ++ wsX00)
def wsX1_countWays : List Cond := .code yX1_countWays cX1_countWays 6 (some .int) :: ([.fieldLink RX1 55 "HeatBench$Heat" "riders" "I", .methodLink RX1 123 yX1_ridesBy, .instanceMethod yX1_ridesBy, .selects RX1 yX1_ridesBy yX1_ridesBy, .initialized RX1, .code yX1_ridesBy cX1_ridesBy 4 (some .int), .fieldLink RX1 59 "HeatBench$Heat" "rides" "I", .fieldLink RX1 9 "HeatBench$Heat" "riderOf" "[I"] ++ wsX10)
def wsX1_winsFrom_r1 : List Cond := [Cond.fieldLink RX1 59 "HeatBench$Heat" "rides" "I", Cond.fieldLink RX1 47 "HeatBench$Heat" "board" "LHeatBench$Board;", Cond.fieldLink RX1 55 "HeatBench$Heat" "riders" "I", Cond.fieldLink RX1 27 "HeatBench$Heat" "toGive" "[I", Cond.fieldLink RX1 109 "HeatBench$Board" "best" "[I", Cond.fieldLink RX1 112 "HeatBench$Board" "second" "[I", Cond.fieldLink RX1 24 "HeatBench$Heat" "scoreOf" "[I", Cond.methodLink RX1 115 yX0_placeOf, Cond.instanceMethod yX0_placeOf, Cond.selects RX0 yX0_placeOf yX0_placeOf, Cond.initialized RX0, Cond.code yX0_placeOf cX0_placeOf 4 (some .int), Cond.fieldLink RX0 21 "HeatBench$Board" "riders" "I", Cond.methodLink RX0 29 yX0_isBetter, Cond.instanceMethod yX0_isBetter, Cond.selects RX0 yX0_isBetter yX0_isBetter, Cond.code yX0_isBetter cX0_isBetter 5 (some .boolean), Cond.fieldLink RX0 9 "HeatBench$Board" "best" "[I", Cond.methodLink RX0 33 yX0_total, Cond.instanceMethod yX0_total, Cond.selects RX0 yX0_total yX0_total, Cond.code yX0_total cX0_total 2 (some .int), Cond.fieldLink RX0 18 "HeatBench$Board" "faults" "[I", Cond.fieldLink RX0 15 "HeatBench$Board" "second" "[I"]
def wsX1_winsFrom_r2 : List Cond := [Cond.methodLink RX1 102 yX0_addScore, Cond.instanceMethod yX0_addScore, Cond.selects RX0 yX0_addScore yX0_addScore, Cond.code yX0_addScore cX0_addScore 3 none, Cond.methodLink RX0 25 yX0_setScores, Cond.instanceMethod yX0_setScores, Cond.selects RX0 yX0_setScores yX0_setScores, Cond.code yX0_setScores cX0_setScores 4 none, Cond.methodLink RX1 126 yX1_winsFrom, Cond.instanceMethod yX1_winsFrom, Cond.selects RX1 yX1_winsFrom yX1_winsFrom, Cond.initialized RX1, Cond.methodLink RX1 119 yX0_setScores]
def wsX1_winsFrom : List Cond := .code yX1_winsFrom cX1_winsFrom 7 (some .int) :: ((wsX1_winsFrom_r1 ++ wsX1_winsFrom_r2) ++ wsX10 ++ wsX00)
def wsX1_countLuck_r1 : List Cond := [Cond.fieldLink RX1 47 "HeatBench$Heat" "board" "LHeatBench$Board;", Cond.fieldLink RX1 55 "HeatBench$Heat" "riders" "I", Cond.fieldLink RX1 27 "HeatBench$Heat" "toGive" "[I", Cond.methodLink RX1 99 yX0_clearScores, Cond.instanceMethod yX0_clearScores, Cond.selects RX0 yX0_clearScores yX0_clearScores, Cond.initialized RX0, Cond.code yX0_clearScores cX0_clearScores 2 none, Cond.methodLink RX0 25 yX0_setScores, Cond.instanceMethod yX0_setScores, Cond.selects RX0 yX0_setScores yX0_setScores, Cond.code yX0_setScores cX0_setScores 4 none, Cond.fieldLink RX0 9 "HeatBench$Board" "best" "[I", Cond.fieldLink RX0 15 "HeatBench$Board" "second" "[I", Cond.methodLink RX1 123 yX1_ridesBy, Cond.instanceMethod yX1_ridesBy, Cond.selects RX1 yX1_ridesBy yX1_ridesBy, Cond.initialized RX1, Cond.code yX1_ridesBy cX1_ridesBy 4 (some .int), Cond.fieldLink RX1 59 "HeatBench$Heat" "rides" "I", Cond.fieldLink RX1 9 "HeatBench$Heat" "riderOf" "[I", Cond.methodLink RX1 126 yX1_winsFrom, Cond.instanceMethod yX1_winsFrom, Cond.selects RX1 yX1_winsFrom yX1_winsFrom]
def wsX1_countLuck_r2 : List Cond := [Cond.code yX1_winsFrom cX1_winsFrom 7 (some .int), Cond.fieldLink RX1 109 "HeatBench$Board" "best" "[I", Cond.fieldLink RX1 112 "HeatBench$Board" "second" "[I", Cond.fieldLink RX1 24 "HeatBench$Heat" "scoreOf" "[I", Cond.methodLink RX1 115 yX0_placeOf, Cond.instanceMethod yX0_placeOf, Cond.selects RX0 yX0_placeOf yX0_placeOf, Cond.code yX0_placeOf cX0_placeOf 4 (some .int), Cond.fieldLink RX0 21 "HeatBench$Board" "riders" "I", Cond.methodLink RX0 29 yX0_isBetter, Cond.instanceMethod yX0_isBetter, Cond.selects RX0 yX0_isBetter yX0_isBetter, Cond.code yX0_isBetter cX0_isBetter 5 (some .boolean), Cond.methodLink RX0 33 yX0_total, Cond.instanceMethod yX0_total, Cond.selects RX0 yX0_total yX0_total, Cond.code yX0_total cX0_total 2 (some .int), Cond.fieldLink RX0 18 "HeatBench$Board" "faults" "[I", Cond.methodLink RX1 102 yX0_addScore, Cond.instanceMethod yX0_addScore, Cond.selects RX0 yX0_addScore yX0_addScore, Cond.code yX0_addScore cX0_addScore 3 none, Cond.methodLink RX1 119 yX0_setScores]
def wsX1_countLuck : List Cond := .code yX1_countLuck cX1_countLuck 3 (some .int) :: ((wsX1_countLuck_r1 ++ wsX1_countLuck_r2) ++ wsX10 ++ wsX00)
def wsX3_init : List Cond := .code yX3_init cX3_init 1 none :: ([.methodLink RX3 3 objectInit, .instanceMethod objectInit, .code objectInit ⟨#[0xb1]⟩ 1 none, .arrayClass .int, .fieldLink RX3 9 "HeatBench$Past" "scores" "[I"] ++ wsX30)
def wsX3_add : List Cond := .code yX3_add cX3_add 2 none :: ([.fieldLink RX3 15 "HeatBench$Past" "size" "I", .fieldLink RX3 9 "HeatBench$Past" "scores" "[I"] ++ wsX30)
def wsX3_notBelow : List Cond := .code yX3_notBelow cX3_notBelow 4 (some .int) :: ([.fieldLink RX3 15 "HeatBench$Past" "size" "I", .fieldLink RX3 9 "HeatBench$Past" "scores" "[I"] ++ wsX30)
def wsX4_hasWorth : List Cond := .code yX4_hasWorth cX4_hasWorth 3 (some .boolean) :: ([.fieldLink RX4 34 "HeatBench$Wait" "days" "I"] ++ wsX40)
def wsX4_aboveIfCalled : List Cond := .code yX4_aboveIfCalled cX4_aboveIfCalled 4 (some .long) :: ([.fieldLink RX4 26 "HeatBench$Wait" "below" "[J", .fieldLink RX4 23 "HeatBench$Wait" "above" "[[J"] ++ wsX40)
def wsX4_isCalled : List Cond := .code yX4_isCalled cX4_isCalled 4 (some .boolean) :: ([.fieldLink RX4 23 "HeatBench$Wait" "above" "[[J", .methodLink RX4 53 yX4_hasWorth, .instanceMethod yX4_hasWorth, .selects RX4 yX4_hasWorth yX4_hasWorth, .initialized RX4, .code yX4_hasWorth cX4_hasWorth 3 (some .boolean), .fieldLink RX4 34 "HeatBench$Wait" "days" "I", .methodLink RX4 49 yX4_aboveIfCalled, .instanceMethod yX4_aboveIfCalled, .selects RX4 yX4_aboveIfCalled yX4_aboveIfCalled, .code yX4_aboveIfCalled cX4_aboveIfCalled 4 (some .long), .fieldLink RX4 26 "HeatBench$Wait" "below" "[J"] ++ wsX40)
def wsX4_sumOverSpan : List Cond := .code yX4_sumOverSpan cX4_sumOverSpan 6 (some .long) :: ([.fieldLink RX4 9 "HeatBench$Wait" "from" "[I", .fieldLink RX4 15 "HeatBench$Wait" "to" "[I", .fieldLink RX4 23 "HeatBench$Wait" "above" "[[J", .methodLink RX4 45 yX4_isCalled, .instanceMethod yX4_isCalled, .selects RX4 yX4_isCalled yX4_isCalled, .initialized RX4, .code yX4_isCalled cX4_isCalled 4 (some .boolean), .methodLink RX4 53 yX4_hasWorth, .instanceMethod yX4_hasWorth, .selects RX4 yX4_hasWorth yX4_hasWorth, .code yX4_hasWorth cX4_hasWorth 3 (some .boolean), .fieldLink RX4 34 "HeatBench$Wait" "days" "I", .methodLink RX4 49 yX4_aboveIfCalled, .instanceMethod yX4_aboveIfCalled, .selects RX4 yX4_aboveIfCalled yX4_aboveIfCalled, .code yX4_aboveIfCalled cX4_aboveIfCalled 4 (some .long), .fieldLink RX4 26 "HeatBench$Wait" "below" "[J"] ++ wsX40)
def wsX4_weighDownFrom : List Cond := .code yX4_weighDownFrom cX4_weighDownFrom 4 none :: ([.fieldLink RX4 26 "HeatBench$Wait" "below" "[J", .fieldLink RX4 15 "HeatBench$Wait" "to" "[I", .fieldLink RX4 9 "HeatBench$Wait" "from" "[I", .fieldLink RX4 34 "HeatBench$Wait" "days" "I", .fieldLink RX4 23 "HeatBench$Wait" "above" "[[J", .methodLink RX4 41 yX4_sumOverSpan, .instanceMethod yX4_sumOverSpan, .selects RX4 yX4_sumOverSpan yX4_sumOverSpan, .initialized RX4, .code yX4_sumOverSpan cX4_sumOverSpan 6 (some .long), .methodLink RX4 45 yX4_isCalled, .instanceMethod yX4_isCalled, .selects RX4 yX4_isCalled yX4_isCalled, .code yX4_isCalled cX4_isCalled 4 (some .boolean), .methodLink RX4 53 yX4_hasWorth, .instanceMethod yX4_hasWorth, .selects RX4 yX4_hasWorth yX4_hasWorth, .code yX4_hasWorth cX4_hasWorth 3 (some .boolean), .methodLink RX4 49 yX4_aboveIfCalled, .instanceMethod yX4_aboveIfCalled, .selects RX4 yX4_aboveIfCalled yX4_aboveIfCalled, .code yX4_aboveIfCalled cX4_aboveIfCalled 4 (some .long)] ++ wsX40)
def wsX4_begin_r1 : List Cond := [Cond.fieldLink RX4 34 "HeatBench$Wait" "days" "I", Cond.fieldLink RX4 9 "HeatBench$Wait" "from" "[I", Cond.fieldLink RX4 15 "HeatBench$Wait" "to" "[I", Cond.fieldLink RX4 18 "HeatBench$Wait" "known" "[I", Cond.fieldLink RX4 23 "HeatBench$Wait" "above" "[[J", Cond.fieldLink RX4 26 "HeatBench$Wait" "below" "[J", Cond.methodLink RX4 38 yX4_weighDownFrom, Cond.instanceMethod yX4_weighDownFrom, Cond.selects RX4 yX4_weighDownFrom yX4_weighDownFrom, Cond.initialized RX4, Cond.code yX4_weighDownFrom cX4_weighDownFrom 4 none, Cond.methodLink RX4 41 yX4_sumOverSpan, Cond.instanceMethod yX4_sumOverSpan, Cond.selects RX4 yX4_sumOverSpan yX4_sumOverSpan, Cond.code yX4_sumOverSpan cX4_sumOverSpan 6 (some .long), Cond.methodLink RX4 45 yX4_isCalled, Cond.instanceMethod yX4_isCalled, Cond.selects RX4 yX4_isCalled yX4_isCalled, Cond.code yX4_isCalled cX4_isCalled 4 (some .boolean), Cond.methodLink RX4 53 yX4_hasWorth, Cond.instanceMethod yX4_hasWorth, Cond.selects RX4 yX4_hasWorth yX4_hasWorth, Cond.code yX4_hasWorth cX4_hasWorth 3 (some .boolean), Cond.methodLink RX4 49 yX4_aboveIfCalled]
def wsX4_begin_r2 : List Cond := [Cond.instanceMethod yX4_aboveIfCalled, Cond.selects RX4 yX4_aboveIfCalled yX4_aboveIfCalled, Cond.code yX4_aboveIfCalled cX4_aboveIfCalled 4 (some .long)]
def wsX4_begin : List Cond := .code yX4_begin cX4_begin 3 none :: ((wsX4_begin_r1 ++ wsX4_begin_r2) ++ wsX40)
def wsX4_init_r1 : List Cond := [Cond.methodLink RX4 3 objectInit, Cond.instanceMethod objectInit, Cond.code objectInit ⟨#[0xb1]⟩ 1 none, Cond.arrayClass .int, Cond.fieldLink RX4 9 "HeatBench$Wait" "from" "[I", Cond.fieldLink RX4 15 "HeatBench$Wait" "to" "[I", Cond.fieldLink RX4 18 "HeatBench$Wait" "known" "[I", Cond.classLink RX4 21 "[[J", Cond.arrayClass .long, Cond.fieldLink RX4 23 "HeatBench$Wait" "above" "[[J", Cond.fieldLink RX4 26 "HeatBench$Wait" "below" "[J", Cond.methodLink RX4 30 yX4_begin, Cond.instanceMethod yX4_begin, Cond.selects RX4 yX4_begin yX4_begin, Cond.initialized RX4, Cond.code yX4_begin cX4_begin 3 none, Cond.fieldLink RX4 34 "HeatBench$Wait" "days" "I", Cond.methodLink RX4 38 yX4_weighDownFrom, Cond.instanceMethod yX4_weighDownFrom, Cond.selects RX4 yX4_weighDownFrom yX4_weighDownFrom, Cond.code yX4_weighDownFrom cX4_weighDownFrom 4 none, Cond.methodLink RX4 41 yX4_sumOverSpan, Cond.instanceMethod yX4_sumOverSpan, Cond.selects RX4 yX4_sumOverSpan yX4_sumOverSpan]
def wsX4_init_r2 : List Cond := [Cond.code yX4_sumOverSpan cX4_sumOverSpan 6 (some .long), Cond.methodLink RX4 45 yX4_isCalled, Cond.instanceMethod yX4_isCalled, Cond.selects RX4 yX4_isCalled yX4_isCalled, Cond.code yX4_isCalled cX4_isCalled 4 (some .boolean), Cond.methodLink RX4 53 yX4_hasWorth, Cond.instanceMethod yX4_hasWorth, Cond.selects RX4 yX4_hasWorth yX4_hasWorth, Cond.code yX4_hasWorth cX4_hasWorth 3 (some .boolean), Cond.methodLink RX4 49 yX4_aboveIfCalled, Cond.instanceMethod yX4_aboveIfCalled, Cond.selects RX4 yX4_aboveIfCalled yX4_aboveIfCalled, Cond.code yX4_aboveIfCalled cX4_aboveIfCalled 4 (some .long)]
def wsX4_init : List Cond := .code yX4_init cX4_init 1 none :: ((wsX4_init_r1 ++ wsX4_init_r2) ++ wsX40)
def wsX4_hasDay : List Cond := .code yX4_hasDay cX4_hasDay 2 (some .boolean) :: ([.fieldLink RX4 34 "HeatBench$Wait" "days" "I"] ++ wsX40)
def wsX4_isInSpan : List Cond := .code yX4_isInSpan cX4_isInSpan 3 (some .boolean) :: ([.fieldLink RX4 9 "HeatBench$Wait" "from" "[I", .fieldLink RX4 15 "HeatBench$Wait" "to" "[I"] ++ wsX40)
def wsX4_setSpan_r1 : List Cond := [Cond.fieldLink RX4 9 "HeatBench$Wait" "from" "[I", Cond.fieldLink RX4 15 "HeatBench$Wait" "to" "[I", Cond.fieldLink RX4 18 "HeatBench$Wait" "known" "[I", Cond.methodLink RX4 38 yX4_weighDownFrom, Cond.instanceMethod yX4_weighDownFrom, Cond.selects RX4 yX4_weighDownFrom yX4_weighDownFrom, Cond.initialized RX4, Cond.code yX4_weighDownFrom cX4_weighDownFrom 4 none, Cond.fieldLink RX4 26 "HeatBench$Wait" "below" "[J", Cond.fieldLink RX4 34 "HeatBench$Wait" "days" "I", Cond.fieldLink RX4 23 "HeatBench$Wait" "above" "[[J", Cond.methodLink RX4 41 yX4_sumOverSpan, Cond.instanceMethod yX4_sumOverSpan, Cond.selects RX4 yX4_sumOverSpan yX4_sumOverSpan, Cond.code yX4_sumOverSpan cX4_sumOverSpan 6 (some .long), Cond.methodLink RX4 45 yX4_isCalled, Cond.instanceMethod yX4_isCalled, Cond.selects RX4 yX4_isCalled yX4_isCalled, Cond.code yX4_isCalled cX4_isCalled 4 (some .boolean), Cond.methodLink RX4 53 yX4_hasWorth, Cond.instanceMethod yX4_hasWorth, Cond.selects RX4 yX4_hasWorth yX4_hasWorth, Cond.code yX4_hasWorth cX4_hasWorth 3 (some .boolean), Cond.methodLink RX4 49 yX4_aboveIfCalled]
def wsX4_setSpan_r2 : List Cond := [Cond.instanceMethod yX4_aboveIfCalled, Cond.selects RX4 yX4_aboveIfCalled yX4_aboveIfCalled, Cond.code yX4_aboveIfCalled cX4_aboveIfCalled 4 (some .long)]
def wsX4_setSpan : List Cond := .code yX4_setSpan cX4_setSpan 4 none :: ((wsX4_setSpan_r1 ++ wsX4_setSpan_r2) ++ wsX40)
def wsX4_countKnown : List Cond := .code yX4_countKnown cX4_countKnown 3 (some .int) :: ([.fieldLink RX4 34 "HeatBench$Wait" "days" "I", .fieldLink RX4 18 "HeatBench$Wait" "known" "[I"] ++ wsX40)
def wsX4_lengthOfRun : List Cond := .code yX4_lengthOfRun cX4_lengthOfRun 2 (some .int) :: ([.fieldLink RX4 34 "HeatBench$Wait" "days" "I", .fieldLink RX4 18 "HeatBench$Wait" "known" "[I"] ++ wsX40)
def wsX4_calledInRun : List Cond := .code yX4_calledInRun cX4_calledInRun 6 (some .int) :: ([.fieldLink RX4 18 "HeatBench$Wait" "known" "[I", .methodLink RX4 57 yX4_lengthOfRun, .instanceMethod yX4_lengthOfRun, .selects RX4 yX4_lengthOfRun yX4_lengthOfRun, .initialized RX4, .code yX4_lengthOfRun cX4_lengthOfRun 2 (some .int), .fieldLink RX4 34 "HeatBench$Wait" "days" "I", .methodLink RX4 45 yX4_isCalled, .instanceMethod yX4_isCalled, .selects RX4 yX4_isCalled yX4_isCalled, .code yX4_isCalled cX4_isCalled 4 (some .boolean), .fieldLink RX4 23 "HeatBench$Wait" "above" "[[J", .methodLink RX4 53 yX4_hasWorth, .instanceMethod yX4_hasWorth, .selects RX4 yX4_hasWorth yX4_hasWorth, .code yX4_hasWorth cX4_hasWorth 3 (some .boolean), .methodLink RX4 49 yX4_aboveIfCalled, .instanceMethod yX4_aboveIfCalled, .selects RX4 yX4_aboveIfCalled yX4_aboveIfCalled, .code yX4_aboveIfCalled cX4_aboveIfCalled 4 (some .long), .fieldLink RX4 26 "HeatBench$Wait" "below" "[J"] ++ wsX40)
def wsX4_sumOf : List Cond := .code yX4_sumOf cX4_sumOf 4 (some .int) :: ([.fieldLink RX4 34 "HeatBench$Wait" "days" "I", .fieldLink RX4 18 "HeatBench$Wait" "known" "[I"] ++ wsX40)
def wsX4_greatestSum : List Cond := .code yX4_greatestSum cX4_greatestSum 6 (some .int) :: ([.fieldLink RX4 34 "HeatBench$Wait" "days" "I", .fieldLink RX4 18 "HeatBench$Wait" "known" "[I"] ++ wsX40)
def wsX6_init_r1 : List Cond := [Cond.methodLink RX6 1 objectInit, Cond.instanceMethod objectInit, Cond.code objectInit ⟨#[0xb1]⟩ 1 none, Cond.classLink RX6 7 RX1, Cond.instantiable RX1 11, Cond.initialized RX1, Cond.fieldLink RX6 10 "HeatBench" "heat" "LHeatBench$Heat;", Cond.classLink RX6 16 RX3, Cond.instantiable RX3 2, Cond.initialized RX3, Cond.fieldLink RX6 19 "HeatBench" "past" "LHeatBench$Past;", Cond.classLink RX6 23 RX4, Cond.instantiable RX4 6, Cond.initialized RX4, Cond.fieldLink RX6 26 "HeatBench" "wait" "LHeatBench$Wait;", Cond.methodLink RX6 9 yX1_init, Cond.instanceMethod yX1_init, Cond.code yX1_init cX1_init 1 none, Cond.methodLink RX1 3 objectInit, Cond.arrayClass .int, Cond.fieldLink RX1 9 "HeatBench$Heat" "riderOf" "[I", Cond.fieldLink RX1 15 "HeatBench$Heat" "waveOf" "[I", Cond.fieldLink RX1 18 "HeatBench$Heat" "marks" "[I", Cond.fieldLink RX1 21 "HeatBench$Heat" "marksOf" "[I"]
def wsX6_init_r2 : List Cond := [Cond.fieldLink RX1 24 "HeatBench$Heat" "scoreOf" "[I", Cond.fieldLink RX1 27 "HeatBench$Heat" "toGive" "[I", Cond.classLink RX1 30 RX2, Cond.instantiable RX2 2, Cond.initialized RX2, Cond.fieldLink RX1 33 "HeatBench$Heat" "line" "LHeatBench$Line;", Cond.classLink RX1 37 RX5, Cond.instantiable RX5 4, Cond.initialized RX5, Cond.fieldLink RX1 40 "HeatBench$Heat" "wave" "LHeatBench$Wave;", Cond.classLink RX1 44 RX0, Cond.instantiable RX0 4, Cond.initialized RX0, Cond.fieldLink RX1 47 "HeatBench$Heat" "board" "LHeatBench$Board;", Cond.instanceMethod yX2_init, Cond.code yX2_init cX2_init 1 none, Cond.methodLink RX2 3 objectInit, Cond.fieldLink RX2 9 "HeatBench$Line" "row" "[I", Cond.instanceMethod yX5_init, Cond.code yX5_init cX5_init 1 none, Cond.methodLink RX5 3 objectInit, Cond.fieldLink RX5 9 "HeatBench$Wave" "number" "I", Cond.fieldLink RX5 15 "HeatBench$Wave" "turn" "[I", Cond.arrayClass .boolean]
def wsX6_init_r3 : List Cond := [Cond.fieldLink RX5 19 "HeatBench$Wave" "onIt" "[Z", Cond.fieldLink RX5 23 "HeatBench$Wave" "blamed" "[Z", Cond.instanceMethod yX0_init, Cond.code yX0_init cX0_init 1 none, Cond.methodLink RX0 3 objectInit, Cond.fieldLink RX0 9 "HeatBench$Board" "best" "[I", Cond.fieldLink RX0 15 "HeatBench$Board" "second" "[I", Cond.fieldLink RX0 18 "HeatBench$Board" "faults" "[I", Cond.methodLink RX1 51 yX1_begin, Cond.instanceMethod yX1_begin, Cond.selects RX1 yX1_begin yX1_begin, Cond.code yX1_begin cX1_begin 2 none, Cond.fieldLink RX1 55 "HeatBench$Heat" "riders" "I", Cond.fieldLink RX1 59 "HeatBench$Heat" "rides" "I", Cond.methodLink RX1 62 yX2_fillByNumbers, Cond.instanceMethod yX2_fillByNumbers, Cond.selects RX2 yX2_fillByNumbers yX2_fillByNumbers, Cond.code yX2_fillByNumbers cX2_fillByNumbers 3 none, Cond.fieldLink RX2 15 "HeatBench$Line" "size" "I", Cond.methodLink RX2 19 yX2_join, Cond.instanceMethod yX2_join, Cond.selects RX2 yX2_join yX2_join, Cond.code yX2_join cX2_join 2 none, Cond.methodLink RX1 65 yX5_end]
def wsX6_init_r4 : List Cond := [Cond.instanceMethod yX5_end, Cond.selects RX5 yX5_end yX5_end, Cond.code yX5_end cX5_end 2 (some .boolean), Cond.methodLink RX1 69 yX0_begin, Cond.instanceMethod yX0_begin, Cond.selects RX0 yX0_begin yX0_begin, Cond.code yX0_begin cX0_begin 3 none, Cond.fieldLink RX0 21 "HeatBench$Board" "riders" "I", Cond.instanceMethod yX3_init, Cond.code yX3_init cX3_init 1 none, Cond.methodLink RX3 3 objectInit, Cond.fieldLink RX3 9 "HeatBench$Past" "scores" "[I", Cond.methodLink RX6 25 yX4_init, Cond.instanceMethod yX4_init, Cond.code yX4_init cX4_init 1 none, Cond.methodLink RX4 3 objectInit, Cond.fieldLink RX4 9 "HeatBench$Wait" "from" "[I", Cond.fieldLink RX4 15 "HeatBench$Wait" "to" "[I", Cond.fieldLink RX4 18 "HeatBench$Wait" "known" "[I", Cond.classLink RX4 21 "[[J", Cond.arrayClass .long, Cond.fieldLink RX4 23 "HeatBench$Wait" "above" "[[J", Cond.fieldLink RX4 26 "HeatBench$Wait" "below" "[J", Cond.methodLink RX4 30 yX4_begin]
def wsX6_init_r5 : List Cond := [Cond.instanceMethod yX4_begin, Cond.selects RX4 yX4_begin yX4_begin, Cond.code yX4_begin cX4_begin 3 none, Cond.fieldLink RX4 34 "HeatBench$Wait" "days" "I", Cond.methodLink RX4 38 yX4_weighDownFrom, Cond.instanceMethod yX4_weighDownFrom, Cond.selects RX4 yX4_weighDownFrom yX4_weighDownFrom, Cond.code yX4_weighDownFrom cX4_weighDownFrom 4 none, Cond.methodLink RX4 41 yX4_sumOverSpan, Cond.instanceMethod yX4_sumOverSpan, Cond.selects RX4 yX4_sumOverSpan yX4_sumOverSpan, Cond.code yX4_sumOverSpan cX4_sumOverSpan 6 (some .long), Cond.methodLink RX4 45 yX4_isCalled, Cond.instanceMethod yX4_isCalled, Cond.selects RX4 yX4_isCalled yX4_isCalled, Cond.code yX4_isCalled cX4_isCalled 4 (some .boolean), Cond.methodLink RX4 53 yX4_hasWorth, Cond.instanceMethod yX4_hasWorth, Cond.selects RX4 yX4_hasWorth yX4_hasWorth, Cond.code yX4_hasWorth cX4_hasWorth 3 (some .boolean), Cond.methodLink RX4 49 yX4_aboveIfCalled, Cond.instanceMethod yX4_aboveIfCalled, Cond.selects RX4 yX4_aboveIfCalled yX4_aboveIfCalled, Cond.code yX4_aboveIfCalled cX4_aboveIfCalled 4 (some .long)]
def wsX6_init : List Cond := .code yX6_init cX6_init 1 none :: ((wsX6_init_r1 ++ (wsX6_init_r2 ++ (wsX6_init_r3 ++ (wsX6_init_r4 ++ wsX6_init_r5)))) ++ wsX10 ++ wsX60 ++ wsX30 ++ wsX40 ++ wsX20 ++ wsX50 ++ wsX00)
def wsX6_heat_r1 : List Cond := [Cond.fieldLink RX6 10 "HeatBench" "heat" "LHeatBench$Heat;", Cond.methodLink RX6 30 yX1_begin, Cond.instanceMethod yX1_begin, Cond.selects RX1 yX1_begin yX1_begin, Cond.initialized RX1, Cond.code yX1_begin cX1_begin 2 none, Cond.fieldLink RX1 55 "HeatBench$Heat" "riders" "I", Cond.fieldLink RX1 59 "HeatBench$Heat" "rides" "I", Cond.fieldLink RX1 33 "HeatBench$Heat" "line" "LHeatBench$Line;", Cond.fieldLink RX1 40 "HeatBench$Heat" "wave" "LHeatBench$Wave;", Cond.fieldLink RX1 47 "HeatBench$Heat" "board" "LHeatBench$Board;", Cond.methodLink RX1 62 yX2_fillByNumbers, Cond.instanceMethod yX2_fillByNumbers, Cond.selects RX2 yX2_fillByNumbers yX2_fillByNumbers, Cond.initialized RX2, Cond.code yX2_fillByNumbers cX2_fillByNumbers 3 none, Cond.fieldLink RX2 15 "HeatBench$Line" "size" "I", Cond.methodLink RX2 19 yX2_join, Cond.instanceMethod yX2_join, Cond.selects RX2 yX2_join yX2_join, Cond.code yX2_join cX2_join 2 none, Cond.fieldLink RX2 9 "HeatBench$Line" "row" "[I", Cond.methodLink RX1 65 yX5_end, Cond.instanceMethod yX5_end]
def wsX6_heat_r2 : List Cond := [Cond.selects RX5 yX5_end yX5_end, Cond.initialized RX5, Cond.code yX5_end cX5_end 2 (some .boolean), Cond.fieldLink RX5 9 "HeatBench$Wave" "number" "I", Cond.methodLink RX1 69 yX0_begin, Cond.instanceMethod yX0_begin, Cond.selects RX0 yX0_begin yX0_begin, Cond.initialized RX0, Cond.code yX0_begin cX0_begin 3 none, Cond.fieldLink RX0 21 "HeatBench$Board" "riders" "I", Cond.fieldLink RX0 18 "HeatBench$Board" "faults" "[I"]
def wsX6_heat : List Cond := .code yX6_heat cX6_heat 2 (some .int) :: ((wsX6_heat_r1 ++ wsX6_heat_r2) ++ wsX60 ++ wsX10 ++ wsX20 ++ wsX50 ++ wsX00)
def wsX6_take_r1 : List Cond := [Cond.fieldLink RX6 10 "HeatBench" "heat" "LHeatBench$Heat;", Cond.fieldLink RX6 38 "HeatBench$Heat" "line" "LHeatBench$Line;", Cond.fieldLink RX6 47 "HeatBench$Heat" "rides" "I", Cond.methodLink RX6 34 yX1_hasRider, Cond.instanceMethod yX1_hasRider, Cond.selects RX1 yX1_hasRider yX1_hasRider, Cond.initialized RX1, Cond.code yX1_hasRider cX1_hasRider 2 (some .boolean), Cond.fieldLink RX1 55 "HeatBench$Heat" "riders" "I", Cond.methodLink RX6 42 yX2_holds, Cond.instanceMethod yX2_holds, Cond.selects RX2 yX2_holds yX2_holds, Cond.initialized RX2, Cond.code yX2_holds cX2_holds 2 (some .boolean), Cond.fieldLink RX2 15 "HeatBench$Line" "size" "I", Cond.methodLink RX2 23 yX2_positionOf, Cond.instanceMethod yX2_positionOf, Cond.selects RX2 yX2_positionOf yX2_positionOf, Cond.code yX2_positionOf cX2_positionOf 3 (some .int), Cond.fieldLink RX2 9 "HeatBench$Line" "row" "[I", Cond.methodLink RX6 51 yX1_addRide, Cond.instanceMethod yX1_addRide, Cond.selects RX1 yX1_addRide yX1_addRide, Cond.code yX1_addRide cX1_addRide 5 (some .int)]
def wsX6_take_r2 : List Cond := [Cond.fieldLink RX1 59 "HeatBench$Heat" "rides" "I", Cond.fieldLink RX1 9 "HeatBench$Heat" "riderOf" "[I", Cond.fieldLink RX1 15 "HeatBench$Heat" "waveOf" "[I", Cond.fieldLink RX1 18 "HeatBench$Heat" "marks" "[I", Cond.fieldLink RX1 40 "HeatBench$Heat" "wave" "LHeatBench$Wave;", Cond.fieldLink RX1 73 "HeatBench$Wave" "number" "I", Cond.fieldLink RX1 33 "HeatBench$Heat" "line" "LHeatBench$Line;", Cond.fieldLink RX1 47 "HeatBench$Heat" "board" "LHeatBench$Board;", Cond.fieldLink RX1 80 "HeatBench$Board" "faults" "[I", Cond.methodLink RX1 70 yX1_score, Cond.instanceMethod yX1_score, Cond.selects RX1 yX1_score yX1_score, Cond.code yX1_score cX1_score 8 none, Cond.methodLink RX1 90 Lib.Math.min.name, Cond.static Lib.Math.min.name, Cond.initialized "java/lang/Math", Cond.code Lib.Math.min.name Lib.Math.min.code 2 (some .int), Cond.methodLink RX1 96 Lib.Math.max.name, Cond.static Lib.Math.max.name, Cond.code Lib.Math.max.name Lib.Math.max.code 2 (some .int), Cond.fieldLink RX1 21 "HeatBench$Heat" "marksOf" "[I", Cond.fieldLink RX1 24 "HeatBench$Heat" "scoreOf" "[I", Cond.methodLink RX1 76 yX5_start, Cond.instanceMethod yX5_start]
def wsX6_take_r3 : List Cond := [Cond.selects RX5 yX5_start yX5_start, Cond.initialized RX5, Cond.code yX5_start cX5_start 4 none, Cond.fieldLink RX5 9 "HeatBench$Wave" "number" "I", Cond.fieldLink RX5 15 "HeatBench$Wave" "turn" "[I", Cond.fieldLink RX5 19 "HeatBench$Wave" "onIt" "[Z", Cond.fieldLink RX5 23 "HeatBench$Wave" "blamed" "[Z", Cond.methodLink RX5 26 yX2_holds, Cond.methodLink RX5 32 yX2_positionOf, Cond.methodLink RX1 83 yX5_ride, Cond.instanceMethod yX5_ride, Cond.selects RX5 yX5_ride yX5_ride, Cond.code yX5_ride cX5_ride 5 none, Cond.methodLink RX1 87 yX2_leave, Cond.instanceMethod yX2_leave, Cond.selects RX2 yX2_leave yX2_leave, Cond.code yX2_leave cX2_leave 4 none]
def wsX6_take : List Cond := .code yX6_take cX6_take 3 (some .int) :: ((wsX6_take_r1 ++ (wsX6_take_r2 ++ wsX6_take_r3)) ++ wsX60 ++ wsX10 ++ wsX20 ++ wsX50 ++ wsX00)
def wsX6_back : List Cond := .code yX6_back cX6_back 2 (some .int) :: ([.fieldLink RX6 10 "HeatBench" "heat" "LHeatBench$Heat;", .fieldLink RX6 38 "HeatBench$Heat" "line" "LHeatBench$Line;", .fieldLink RX6 58 "HeatBench$Line" "size" "I", .methodLink RX6 34 yX1_hasRider, .instanceMethod yX1_hasRider, .selects RX1 yX1_hasRider yX1_hasRider, .initialized RX1, .code yX1_hasRider cX1_hasRider 2 (some .boolean), .fieldLink RX1 55 "HeatBench$Heat" "riders" "I", .methodLink RX6 42 yX2_holds, .instanceMethod yX2_holds, .selects RX2 yX2_holds yX2_holds, .initialized RX2, .code yX2_holds cX2_holds 2 (some .boolean), .fieldLink RX2 15 "HeatBench$Line" "size" "I", .methodLink RX2 23 yX2_positionOf, .instanceMethod yX2_positionOf, .selects RX2 yX2_positionOf yX2_positionOf, .code yX2_positionOf cX2_positionOf 3 (some .int), .fieldLink RX2 9 "HeatBench$Line" "row" "[I", .methodLink RX6 55 yX2_join, .instanceMethod yX2_join, .selects RX2 yX2_join yX2_join, .code yX2_join cX2_join 2 none] ++ wsX60 ++ wsX10 ++ wsX20)
def wsX6_letGo : List Cond := .code yX6_letGo cX6_letGo 1 (some .int) :: ([.fieldLink RX6 10 "HeatBench" "heat" "LHeatBench$Heat;", .fieldLink RX6 61 "HeatBench$Heat" "wave" "LHeatBench$Wave;", .methodLink RX6 65 yX5_end, .instanceMethod yX5_end, .selects RX5 yX5_end yX5_end, .initialized RX5, .code yX5_end cX5_end 2 (some .boolean), .fieldLink RX5 9 "HeatBench$Wave" "number" "I"] ++ wsX60 ++ wsX10 ++ wsX50)
def wsX6_mark_r1 : List Cond := [Cond.fieldLink RX6 10 "HeatBench" "heat" "LHeatBench$Heat;", Cond.methodLink RX6 71 yX1_hasRide, Cond.instanceMethod yX1_hasRide, Cond.selects RX1 yX1_hasRide yX1_hasRide, Cond.initialized RX1, Cond.code yX1_hasRide cX1_hasRide 2 (some .boolean), Cond.fieldLink RX1 59 "HeatBench$Heat" "rides" "I", Cond.methodLink RX6 74 yX1_setMark, Cond.instanceMethod yX1_setMark, Cond.selects RX1 yX1_setMark yX1_setMark, Cond.code yX1_setMark cX1_setMark 6 (some .int), Cond.fieldLink RX1 18 "HeatBench$Heat" "marks" "[I", Cond.methodLink RX1 70 yX1_score, Cond.instanceMethod yX1_score, Cond.selects RX1 yX1_score yX1_score, Cond.code yX1_score cX1_score 8 none, Cond.methodLink RX1 90 Lib.Math.min.name, Cond.static Lib.Math.min.name, Cond.initialized "java/lang/Math", Cond.code Lib.Math.min.name Lib.Math.min.code 2 (some .int), Cond.methodLink RX1 96 Lib.Math.max.name, Cond.static Lib.Math.max.name, Cond.code Lib.Math.max.name Lib.Math.max.code 2 (some .int), Cond.fieldLink RX1 21 "HeatBench$Heat" "marksOf" "[I"]
def wsX6_mark_r2 : List Cond := [Cond.fieldLink RX1 24 "HeatBench$Heat" "scoreOf" "[I"]
def wsX6_mark : List Cond := .code yX6_mark cX6_mark 4 (some .int) :: ((wsX6_mark_r1 ++ wsX6_mark_r2) ++ wsX60 ++ wsX10)
def wsX6_of : List Cond := .code yX6_of cX6_of 3 (some .int) :: ([.fieldLink RX6 10 "HeatBench" "heat" "LHeatBench$Heat;", .fieldLink RX6 78 "HeatBench$Heat" "riderOf" "[I", .fieldLink RX6 82 "HeatBench$Heat" "waveOf" "[I", .fieldLink RX6 85 "HeatBench$Heat" "marksOf" "[I", .fieldLink RX6 88 "HeatBench$Heat" "scoreOf" "[I", .methodLink RX6 71 yX1_hasRide, .instanceMethod yX1_hasRide, .selects RX1 yX1_hasRide yX1_hasRide, .initialized RX1, .code yX1_hasRide cX1_hasRide 2 (some .boolean), .fieldLink RX1 59 "HeatBench$Heat" "rides" "I"] ++ wsX60 ++ wsX10)
def wsX6_line : List Cond := .code yX6_line cX6_line 2 (some .int) :: ([.fieldLink RX6 10 "HeatBench" "heat" "LHeatBench$Heat;", .fieldLink RX6 38 "HeatBench$Heat" "line" "LHeatBench$Line;", .fieldLink RX6 58 "HeatBench$Line" "size" "I", .fieldLink RX6 91 "HeatBench$Line" "row" "[I"] ++ wsX60 ++ wsX10 ++ wsX20)
def wsX6_told_r1 : List Cond := [Cond.fieldLink RX6 10 "HeatBench" "heat" "LHeatBench$Heat;", Cond.fieldLink RX6 101 "HeatBench$Heat" "board" "LHeatBench$Board;", Cond.fieldLink RX6 105 "HeatBench$Board" "best" "[I", Cond.fieldLink RX6 110 "HeatBench$Board" "second" "[I", Cond.fieldLink RX6 113 "HeatBench$Board" "faults" "[I", Cond.methodLink RX6 34 yX1_hasRider, Cond.instanceMethod yX1_hasRider, Cond.selects RX1 yX1_hasRider yX1_hasRider, Cond.initialized RX1, Cond.code yX1_hasRider cX1_hasRider 2 (some .boolean), Cond.fieldLink RX1 55 "HeatBench$Heat" "riders" "I", Cond.methodLink RX6 94 yX1_tally, Cond.instanceMethod yX1_tally, Cond.selects RX1 yX1_tally yX1_tally, Cond.code yX1_tally cX1_tally 2 none, Cond.fieldLink RX1 47 "HeatBench$Heat" "board" "LHeatBench$Board;", Cond.fieldLink RX1 59 "HeatBench$Heat" "rides" "I", Cond.fieldLink RX1 9 "HeatBench$Heat" "riderOf" "[I", Cond.fieldLink RX1 24 "HeatBench$Heat" "scoreOf" "[I", Cond.methodLink RX1 99 yX0_clearScores, Cond.instanceMethod yX0_clearScores, Cond.selects RX0 yX0_clearScores yX0_clearScores, Cond.initialized RX0, Cond.code yX0_clearScores cX0_clearScores 2 none]
def wsX6_told_r2 : List Cond := [Cond.methodLink RX0 25 yX0_setScores, Cond.instanceMethod yX0_setScores, Cond.selects RX0 yX0_setScores yX0_setScores, Cond.code yX0_setScores cX0_setScores 4 none, Cond.fieldLink RX0 9 "HeatBench$Board" "best" "[I", Cond.fieldLink RX0 15 "HeatBench$Board" "second" "[I", Cond.methodLink RX1 102 yX0_addScore, Cond.instanceMethod yX0_addScore, Cond.selects RX0 yX0_addScore yX0_addScore, Cond.code yX0_addScore cX0_addScore 3 none, Cond.methodLink RX6 97 yX1_ridesBy, Cond.instanceMethod yX1_ridesBy, Cond.selects RX1 yX1_ridesBy yX1_ridesBy, Cond.code yX1_ridesBy cX1_ridesBy 4 (some .int), Cond.methodLink RX6 116 yX0_total, Cond.instanceMethod yX0_total, Cond.selects RX0 yX0_total yX0_total, Cond.code yX0_total cX0_total 2 (some .int), Cond.fieldLink RX0 18 "HeatBench$Board" "faults" "[I", Cond.methodLink RX6 119 yX0_placeOf, Cond.instanceMethod yX0_placeOf, Cond.selects RX0 yX0_placeOf yX0_placeOf, Cond.code yX0_placeOf cX0_placeOf 4 (some .int), Cond.fieldLink RX0 21 "HeatBench$Board" "riders" "I"]
def wsX6_told_r3 : List Cond := [Cond.methodLink RX0 29 yX0_isBetter, Cond.instanceMethod yX0_isBetter, Cond.selects RX0 yX0_isBetter yX0_isBetter, Cond.code yX0_isBetter cX0_isBetter 5 (some .boolean), Cond.methodLink RX0 33 yX0_total]
def wsX6_told : List Cond := .code yX6_told cX6_told 3 (some .int) :: ((wsX6_told_r1 ++ (wsX6_told_r2 ++ wsX6_told_r3)) ++ wsX60 ++ wsX10 ++ wsX00)
def wsX6_need_r1 : List Cond := [Cond.fieldLink RX6 10 "HeatBench" "heat" "LHeatBench$Heat;", Cond.methodLink RX6 34 yX1_hasRider, Cond.instanceMethod yX1_hasRider, Cond.selects RX1 yX1_hasRider yX1_hasRider, Cond.initialized RX1, Cond.code yX1_hasRider cX1_hasRider 2 (some .boolean), Cond.fieldLink RX1 55 "HeatBench$Heat" "riders" "I", Cond.methodLink RX6 122 yX1_leastScoreFor, Cond.instanceMethod yX1_leastScoreFor, Cond.selects RX1 yX1_leastScoreFor yX1_leastScoreFor, Cond.code yX1_leastScoreFor cX1_leastScoreFor 6 (some .int), Cond.fieldLink RX1 47 "HeatBench$Heat" "board" "LHeatBench$Board;", Cond.fieldLink RX1 109 "HeatBench$Board" "best" "[I", Cond.fieldLink RX1 112 "HeatBench$Board" "second" "[I", Cond.methodLink RX1 106 yX1_tally, Cond.instanceMethod yX1_tally, Cond.selects RX1 yX1_tally yX1_tally, Cond.code yX1_tally cX1_tally 2 none, Cond.fieldLink RX1 59 "HeatBench$Heat" "rides" "I", Cond.fieldLink RX1 9 "HeatBench$Heat" "riderOf" "[I", Cond.fieldLink RX1 24 "HeatBench$Heat" "scoreOf" "[I", Cond.methodLink RX1 99 yX0_clearScores, Cond.instanceMethod yX0_clearScores, Cond.selects RX0 yX0_clearScores yX0_clearScores]
def wsX6_need_r2 : List Cond := [Cond.initialized RX0, Cond.code yX0_clearScores cX0_clearScores 2 none, Cond.methodLink RX0 25 yX0_setScores, Cond.instanceMethod yX0_setScores, Cond.selects RX0 yX0_setScores yX0_setScores, Cond.code yX0_setScores cX0_setScores 4 none, Cond.fieldLink RX0 9 "HeatBench$Board" "best" "[I", Cond.fieldLink RX0 15 "HeatBench$Board" "second" "[I", Cond.methodLink RX1 102 yX0_addScore, Cond.instanceMethod yX0_addScore, Cond.selects RX0 yX0_addScore yX0_addScore, Cond.code yX0_addScore cX0_addScore 3 none, Cond.methodLink RX1 115 yX0_placeOf, Cond.instanceMethod yX0_placeOf, Cond.selects RX0 yX0_placeOf yX0_placeOf, Cond.code yX0_placeOf cX0_placeOf 4 (some .int), Cond.fieldLink RX0 21 "HeatBench$Board" "riders" "I", Cond.methodLink RX0 29 yX0_isBetter, Cond.instanceMethod yX0_isBetter, Cond.selects RX0 yX0_isBetter yX0_isBetter, Cond.code yX0_isBetter cX0_isBetter 5 (some .boolean), Cond.methodLink RX0 33 yX0_total, Cond.instanceMethod yX0_total, Cond.selects RX0 yX0_total yX0_total]
def wsX6_need_r3 : List Cond := [Cond.code yX0_total cX0_total 2 (some .int), Cond.fieldLink RX0 18 "HeatBench$Board" "faults" "[I", Cond.methodLink RX1 119 yX0_setScores]
def wsX6_need : List Cond := .code yX6_need cX6_need 3 (some .int) :: ((wsX6_need_r1 ++ (wsX6_need_r2 ++ wsX6_need_r3)) ++ wsX60 ++ wsX10 ++ wsX00)
def wsX6_past : List Cond := .code yX6_past cX6_past 2 (some .int) :: ([.fieldLink RX6 19 "HeatBench" "past" "LHeatBench$Past;", .fieldLink RX6 125 "HeatBench$Past" "size" "I", .methodLink RX6 126 yX3_add, .instanceMethod yX3_add, .selects RX3 yX3_add yX3_add, .initialized RX3, .code yX3_add cX3_add 2 none, .fieldLink RX3 15 "HeatBench$Past" "size" "I", .fieldLink RX3 9 "HeatBench$Past" "scores" "[I"] ++ wsX60 ++ wsX30)
def wsX6_keep : List Cond := .code yX6_keep cX6_keep 3 (some .int) :: ([.fieldLink RX6 10 "HeatBench" "heat" "LHeatBench$Heat;", .fieldLink RX6 19 "HeatBench" "past" "LHeatBench$Past;", .fieldLink RX6 125 "HeatBench$Past" "size" "I", .fieldLink RX6 47 "HeatBench$Heat" "rides" "I", .fieldLink RX6 85 "HeatBench$Heat" "marksOf" "[I", .fieldLink RX6 88 "HeatBench$Heat" "scoreOf" "[I", .methodLink RX6 129 yX1_markedRides, .instanceMethod yX1_markedRides, .selects RX1 yX1_markedRides yX1_markedRides, .initialized RX1, .code yX1_markedRides cX1_markedRides 3 (some .int), .fieldLink RX1 59 "HeatBench$Heat" "rides" "I", .fieldLink RX1 21 "HeatBench$Heat" "marksOf" "[I", .methodLink RX6 126 yX3_add, .instanceMethod yX3_add, .selects RX3 yX3_add yX3_add, .initialized RX3, .code yX3_add cX3_add 2 none, .fieldLink RX3 15 "HeatBench$Past" "size" "I", .fieldLink RX3 9 "HeatBench$Past" "scores" "[I"] ++ wsX60 ++ wsX30 ++ wsX10)
def wsX6_forget : List Cond := .code yX6_forget cX6_forget 2 (some .int) :: ([.fieldLink RX6 19 "HeatBench" "past" "LHeatBench$Past;", .fieldLink RX6 125 "HeatBench$Past" "size" "I"] ++ wsX60 ++ wsX30)
def wsX6_isAboveOrBelow : List Cond := .code yX6_isAboveOrBelow cX6_isAboveOrBelow 1 (some .boolean) :: ([])
def wsX6_commonDivisor : List Cond := .code yX6_commonDivisor cX6_commonDivisor 11 (some .long) :: ([])
def wsX6_cleared : List Cond := .code yX6_cleared cX6_cleared 9 (some .long) :: ([.methodLink RX6 213 yX6_commonDivisor, .static yX6_commonDivisor, .initialized RX6, .code yX6_commonDivisor cX6_commonDivisor 11 (some .long)])
def wsX6_chance_r1 : List Cond := [Cond.fieldLink RX6 19 "HeatBench" "past" "LHeatBench$Past;", Cond.fieldLink RX6 125 "HeatBench$Past" "size" "I", Cond.methodLink RX6 133 yX6_isAboveOrBelow, Cond.static yX6_isAboveOrBelow, Cond.initialized RX6, Cond.code yX6_isAboveOrBelow cX6_isAboveOrBelow 1 (some .boolean), Cond.methodLink RX6 136 yX6_need, Cond.instanceMethod yX6_need, Cond.selects RX6 yX6_need yX6_need, Cond.code yX6_need cX6_need 3 (some .int), Cond.fieldLink RX6 10 "HeatBench" "heat" "LHeatBench$Heat;", Cond.methodLink RX6 34 yX1_hasRider, Cond.instanceMethod yX1_hasRider, Cond.selects RX1 yX1_hasRider yX1_hasRider, Cond.initialized RX1, Cond.code yX1_hasRider cX1_hasRider 2 (some .boolean), Cond.fieldLink RX1 55 "HeatBench$Heat" "riders" "I", Cond.methodLink RX6 122 yX1_leastScoreFor, Cond.instanceMethod yX1_leastScoreFor, Cond.selects RX1 yX1_leastScoreFor yX1_leastScoreFor, Cond.code yX1_leastScoreFor cX1_leastScoreFor 6 (some .int), Cond.fieldLink RX1 47 "HeatBench$Heat" "board" "LHeatBench$Board;", Cond.fieldLink RX1 109 "HeatBench$Board" "best" "[I", Cond.fieldLink RX1 112 "HeatBench$Board" "second" "[I"]
def wsX6_chance_r2 : List Cond := [Cond.methodLink RX1 106 yX1_tally, Cond.instanceMethod yX1_tally, Cond.selects RX1 yX1_tally yX1_tally, Cond.code yX1_tally cX1_tally 2 none, Cond.fieldLink RX1 59 "HeatBench$Heat" "rides" "I", Cond.fieldLink RX1 9 "HeatBench$Heat" "riderOf" "[I", Cond.fieldLink RX1 24 "HeatBench$Heat" "scoreOf" "[I", Cond.methodLink RX1 99 yX0_clearScores, Cond.instanceMethod yX0_clearScores, Cond.selects RX0 yX0_clearScores yX0_clearScores, Cond.initialized RX0, Cond.code yX0_clearScores cX0_clearScores 2 none, Cond.methodLink RX0 25 yX0_setScores, Cond.instanceMethod yX0_setScores, Cond.selects RX0 yX0_setScores yX0_setScores, Cond.code yX0_setScores cX0_setScores 4 none, Cond.fieldLink RX0 9 "HeatBench$Board" "best" "[I", Cond.fieldLink RX0 15 "HeatBench$Board" "second" "[I", Cond.methodLink RX1 102 yX0_addScore, Cond.instanceMethod yX0_addScore, Cond.selects RX0 yX0_addScore yX0_addScore, Cond.code yX0_addScore cX0_addScore 3 none, Cond.methodLink RX1 115 yX0_placeOf, Cond.instanceMethod yX0_placeOf]
def wsX6_chance_r3 : List Cond := [Cond.selects RX0 yX0_placeOf yX0_placeOf, Cond.code yX0_placeOf cX0_placeOf 4 (some .int), Cond.fieldLink RX0 21 "HeatBench$Board" "riders" "I", Cond.methodLink RX0 29 yX0_isBetter, Cond.instanceMethod yX0_isBetter, Cond.selects RX0 yX0_isBetter yX0_isBetter, Cond.code yX0_isBetter cX0_isBetter 5 (some .boolean), Cond.methodLink RX0 33 yX0_total, Cond.instanceMethod yX0_total, Cond.selects RX0 yX0_total yX0_total, Cond.code yX0_total cX0_total 2 (some .int), Cond.fieldLink RX0 18 "HeatBench$Board" "faults" "[I", Cond.methodLink RX1 119 yX0_setScores, Cond.methodLink RX6 139 yX3_notBelow, Cond.instanceMethod yX3_notBelow, Cond.selects RX3 yX3_notBelow yX3_notBelow, Cond.initialized RX3, Cond.code yX3_notBelow cX3_notBelow 4 (some .int), Cond.fieldLink RX3 15 "HeatBench$Past" "size" "I", Cond.fieldLink RX3 9 "HeatBench$Past" "scores" "[I", Cond.methodLink RX6 142 yX6_cleared, Cond.static yX6_cleared, Cond.code yX6_cleared cX6_cleared 9 (some .long), Cond.methodLink RX6 213 yX6_commonDivisor]
def wsX6_chance_r4 : List Cond := [Cond.static yX6_commonDivisor, Cond.code yX6_commonDivisor cX6_commonDivisor 11 (some .long)]
def wsX6_chance : List Cond := .code yX6_chance cX6_chance 5 (some .int) :: ((wsX6_chance_r1 ++ (wsX6_chance_r2 ++ (wsX6_chance_r3 ++ wsX6_chance_r4))) ++ wsX60 ++ wsX30 ++ wsX10 ++ wsX00)
def wsX6_ways : List Cond := .code yX6_ways cX6_ways 1 (some .int) :: ([.fieldLink RX6 10 "HeatBench" "heat" "LHeatBench$Heat;", .fieldLink RX6 47 "HeatBench$Heat" "rides" "I", .methodLink RX6 146 yX1_countWays, .instanceMethod yX1_countWays, .selects RX1 yX1_countWays yX1_countWays, .initialized RX1, .code yX1_countWays cX1_countWays 6 (some .int), .fieldLink RX1 55 "HeatBench$Heat" "riders" "I", .methodLink RX1 123 yX1_ridesBy, .instanceMethod yX1_ridesBy, .selects RX1 yX1_ridesBy yX1_ridesBy, .code yX1_ridesBy cX1_ridesBy 4 (some .int), .fieldLink RX1 59 "HeatBench$Heat" "rides" "I", .fieldLink RX1 9 "HeatBench$Heat" "riderOf" "[I"] ++ wsX60 ++ wsX10)
def wsX6_luck_r1 : List Cond := [Cond.fieldLink RX6 10 "HeatBench" "heat" "LHeatBench$Heat;", Cond.fieldLink RX6 47 "HeatBench$Heat" "rides" "I", Cond.methodLink RX6 34 yX1_hasRider, Cond.instanceMethod yX1_hasRider, Cond.selects RX1 yX1_hasRider yX1_hasRider, Cond.initialized RX1, Cond.code yX1_hasRider cX1_hasRider 2 (some .boolean), Cond.fieldLink RX1 55 "HeatBench$Heat" "riders" "I", Cond.methodLink RX6 149 yX1_countLuck, Cond.instanceMethod yX1_countLuck, Cond.selects RX1 yX1_countLuck yX1_countLuck, Cond.code yX1_countLuck cX1_countLuck 3 (some .int), Cond.fieldLink RX1 47 "HeatBench$Heat" "board" "LHeatBench$Board;", Cond.fieldLink RX1 27 "HeatBench$Heat" "toGive" "[I", Cond.methodLink RX1 99 yX0_clearScores, Cond.instanceMethod yX0_clearScores, Cond.selects RX0 yX0_clearScores yX0_clearScores, Cond.initialized RX0, Cond.code yX0_clearScores cX0_clearScores 2 none, Cond.methodLink RX0 25 yX0_setScores, Cond.instanceMethod yX0_setScores, Cond.selects RX0 yX0_setScores yX0_setScores, Cond.code yX0_setScores cX0_setScores 4 none, Cond.fieldLink RX0 9 "HeatBench$Board" "best" "[I"]
def wsX6_luck_r2 : List Cond := [Cond.fieldLink RX0 15 "HeatBench$Board" "second" "[I", Cond.methodLink RX1 123 yX1_ridesBy, Cond.instanceMethod yX1_ridesBy, Cond.selects RX1 yX1_ridesBy yX1_ridesBy, Cond.code yX1_ridesBy cX1_ridesBy 4 (some .int), Cond.fieldLink RX1 59 "HeatBench$Heat" "rides" "I", Cond.fieldLink RX1 9 "HeatBench$Heat" "riderOf" "[I", Cond.methodLink RX1 126 yX1_winsFrom, Cond.instanceMethod yX1_winsFrom, Cond.selects RX1 yX1_winsFrom yX1_winsFrom, Cond.code yX1_winsFrom cX1_winsFrom 7 (some .int), Cond.fieldLink RX1 109 "HeatBench$Board" "best" "[I", Cond.fieldLink RX1 112 "HeatBench$Board" "second" "[I", Cond.fieldLink RX1 24 "HeatBench$Heat" "scoreOf" "[I", Cond.methodLink RX1 115 yX0_placeOf, Cond.instanceMethod yX0_placeOf, Cond.selects RX0 yX0_placeOf yX0_placeOf, Cond.code yX0_placeOf cX0_placeOf 4 (some .int), Cond.fieldLink RX0 21 "HeatBench$Board" "riders" "I", Cond.methodLink RX0 29 yX0_isBetter, Cond.instanceMethod yX0_isBetter, Cond.selects RX0 yX0_isBetter yX0_isBetter, Cond.code yX0_isBetter cX0_isBetter 5 (some .boolean), Cond.methodLink RX0 33 yX0_total]
def wsX6_luck_r3 : List Cond := [Cond.instanceMethod yX0_total, Cond.selects RX0 yX0_total yX0_total, Cond.code yX0_total cX0_total 2 (some .int), Cond.fieldLink RX0 18 "HeatBench$Board" "faults" "[I", Cond.methodLink RX1 102 yX0_addScore, Cond.instanceMethod yX0_addScore, Cond.selects RX0 yX0_addScore yX0_addScore, Cond.code yX0_addScore cX0_addScore 3 none, Cond.methodLink RX1 119 yX0_setScores]
def wsX6_luck : List Cond := .code yX6_luck cX6_luck 2 (some .int) :: ((wsX6_luck_r1 ++ (wsX6_luck_r2 ++ wsX6_luck_r3)) ++ wsX60 ++ wsX10 ++ wsX00)
def wsX6_days_r1 : List Cond := [Cond.fieldLink RX6 26 "HeatBench" "wait" "LHeatBench$Wait;", Cond.methodLink RX6 152 yX4_begin, Cond.instanceMethod yX4_begin, Cond.selects RX4 yX4_begin yX4_begin, Cond.initialized RX4, Cond.code yX4_begin cX4_begin 3 none, Cond.fieldLink RX4 34 "HeatBench$Wait" "days" "I", Cond.fieldLink RX4 9 "HeatBench$Wait" "from" "[I", Cond.fieldLink RX4 15 "HeatBench$Wait" "to" "[I", Cond.fieldLink RX4 18 "HeatBench$Wait" "known" "[I", Cond.fieldLink RX4 23 "HeatBench$Wait" "above" "[[J", Cond.fieldLink RX4 26 "HeatBench$Wait" "below" "[J", Cond.methodLink RX4 38 yX4_weighDownFrom, Cond.instanceMethod yX4_weighDownFrom, Cond.selects RX4 yX4_weighDownFrom yX4_weighDownFrom, Cond.code yX4_weighDownFrom cX4_weighDownFrom 4 none, Cond.methodLink RX4 41 yX4_sumOverSpan, Cond.instanceMethod yX4_sumOverSpan, Cond.selects RX4 yX4_sumOverSpan yX4_sumOverSpan, Cond.code yX4_sumOverSpan cX4_sumOverSpan 6 (some .long), Cond.methodLink RX4 45 yX4_isCalled, Cond.instanceMethod yX4_isCalled, Cond.selects RX4 yX4_isCalled yX4_isCalled, Cond.code yX4_isCalled cX4_isCalled 4 (some .boolean)]
def wsX6_days_r2 : List Cond := [Cond.methodLink RX4 53 yX4_hasWorth, Cond.instanceMethod yX4_hasWorth, Cond.selects RX4 yX4_hasWorth yX4_hasWorth, Cond.code yX4_hasWorth cX4_hasWorth 3 (some .boolean), Cond.methodLink RX4 49 yX4_aboveIfCalled, Cond.instanceMethod yX4_aboveIfCalled, Cond.selects RX4 yX4_aboveIfCalled yX4_aboveIfCalled, Cond.code yX4_aboveIfCalled cX4_aboveIfCalled 4 (some .long)]
def wsX6_days : List Cond := .code yX6_days cX6_days 2 (some .int) :: ((wsX6_days_r1 ++ wsX6_days_r2) ++ wsX60 ++ wsX40)
def wsX6_isQuality : List Cond := .code yX6_isQuality cX6_isQuality 1 (some .boolean) :: ([])
def wsX6_span_r1 : List Cond := [Cond.fieldLink RX6 26 "HeatBench" "wait" "LHeatBench$Wait;", Cond.methodLink RX6 153 yX4_hasDay, Cond.instanceMethod yX4_hasDay, Cond.selects RX4 yX4_hasDay yX4_hasDay, Cond.initialized RX4, Cond.code yX4_hasDay cX4_hasDay 2 (some .boolean), Cond.fieldLink RX4 34 "HeatBench$Wait" "days" "I", Cond.methodLink RX6 156 yX6_isQuality, Cond.static yX6_isQuality, Cond.initialized RX6, Cond.code yX6_isQuality cX6_isQuality 1 (some .boolean), Cond.methodLink RX6 159 yX4_setSpan, Cond.instanceMethod yX4_setSpan, Cond.selects RX4 yX4_setSpan yX4_setSpan, Cond.code yX4_setSpan cX4_setSpan 4 none, Cond.fieldLink RX4 9 "HeatBench$Wait" "from" "[I", Cond.fieldLink RX4 15 "HeatBench$Wait" "to" "[I", Cond.fieldLink RX4 18 "HeatBench$Wait" "known" "[I", Cond.methodLink RX4 38 yX4_weighDownFrom, Cond.instanceMethod yX4_weighDownFrom, Cond.selects RX4 yX4_weighDownFrom yX4_weighDownFrom, Cond.code yX4_weighDownFrom cX4_weighDownFrom 4 none, Cond.fieldLink RX4 26 "HeatBench$Wait" "below" "[J", Cond.fieldLink RX4 23 "HeatBench$Wait" "above" "[[J"]
def wsX6_span_r2 : List Cond := [Cond.methodLink RX4 41 yX4_sumOverSpan, Cond.instanceMethod yX4_sumOverSpan, Cond.selects RX4 yX4_sumOverSpan yX4_sumOverSpan, Cond.code yX4_sumOverSpan cX4_sumOverSpan 6 (some .long), Cond.methodLink RX4 45 yX4_isCalled, Cond.instanceMethod yX4_isCalled, Cond.selects RX4 yX4_isCalled yX4_isCalled, Cond.code yX4_isCalled cX4_isCalled 4 (some .boolean), Cond.methodLink RX4 53 yX4_hasWorth, Cond.instanceMethod yX4_hasWorth, Cond.selects RX4 yX4_hasWorth yX4_hasWorth, Cond.code yX4_hasWorth cX4_hasWorth 3 (some .boolean), Cond.methodLink RX4 49 yX4_aboveIfCalled, Cond.instanceMethod yX4_aboveIfCalled, Cond.selects RX4 yX4_aboveIfCalled yX4_aboveIfCalled, Cond.code yX4_aboveIfCalled cX4_aboveIfCalled 4 (some .long)]
def wsX6_span : List Cond := .code yX6_span cX6_span 4 (some .int) :: ((wsX6_span_r1 ++ wsX6_span_r2) ++ wsX60 ++ wsX40)
def wsX6_was : List Cond := .code yX6_was cX6_was 4 (some .int) :: ([.fieldLink RX6 26 "HeatBench" "wait" "LHeatBench$Wait;", .fieldLink RX6 167 "HeatBench$Wait" "known" "[I", .methodLink RX6 153 yX4_hasDay, .instanceMethod yX4_hasDay, .selects RX4 yX4_hasDay yX4_hasDay, .initialized RX4, .code yX4_hasDay cX4_hasDay 2 (some .boolean), .fieldLink RX4 34 "HeatBench$Wait" "days" "I", .methodLink RX6 163 yX4_isInSpan, .instanceMethod yX4_isInSpan, .selects RX4 yX4_isInSpan yX4_isInSpan, .code yX4_isInSpan cX4_isInSpan 3 (some .boolean), .fieldLink RX4 9 "HeatBench$Wait" "from" "[I", .fieldLink RX4 15 "HeatBench$Wait" "to" "[I"] ++ wsX60 ++ wsX40)
def wsX6_worth : List Cond := .code yX6_worth cX6_worth 4 (some .long) :: ([.fieldLink RX6 26 "HeatBench" "wait" "LHeatBench$Wait;", .fieldLink RX6 170 "HeatBench$Wait" "days" "I", .constantLong RX6 173 (-9), .constantLong RX6 178 (-4), .fieldLink RX6 180 "HeatBench$Wait" "above" "[[J", .fieldLink RX6 184 "HeatBench$Wait" "below" "[J", .methodLink RX6 133 yX6_isAboveOrBelow, .static yX6_isAboveOrBelow, .initialized RX6, .code yX6_isAboveOrBelow cX6_isAboveOrBelow 1 (some .boolean), .methodLink RX6 175 yX4_hasWorth, .instanceMethod yX4_hasWorth, .selects RX4 yX4_hasWorth yX4_hasWorth, .initialized RX4, .code yX4_hasWorth cX4_hasWorth 3 (some .boolean), .fieldLink RX4 34 "HeatBench$Wait" "days" "I", .methodLink RX6 142 yX6_cleared, .static yX6_cleared, .code yX6_cleared cX6_cleared 9 (some .long), .methodLink RX6 213 yX6_commonDivisor, .static yX6_commonDivisor, .code yX6_commonDivisor cX6_commonDivisor 11 (some .long)] ++ wsX60 ++ wsX40)
def wsX6_call_r1 : List Cond := [Cond.fieldLink RX6 26 "HeatBench" "wait" "LHeatBench$Wait;", Cond.methodLink RX6 153 yX4_hasDay, Cond.instanceMethod yX4_hasDay, Cond.selects RX4 yX4_hasDay yX4_hasDay, Cond.initialized RX4, Cond.code yX4_hasDay cX4_hasDay 2 (some .boolean), Cond.fieldLink RX4 34 "HeatBench$Wait" "days" "I", Cond.methodLink RX6 156 yX6_isQuality, Cond.static yX6_isQuality, Cond.initialized RX6, Cond.code yX6_isQuality cX6_isQuality 1 (some .boolean), Cond.methodLink RX6 175 yX4_hasWorth, Cond.instanceMethod yX4_hasWorth, Cond.selects RX4 yX4_hasWorth yX4_hasWorth, Cond.code yX4_hasWorth cX4_hasWorth 3 (some .boolean), Cond.methodLink RX6 188 yX4_isCalled, Cond.instanceMethod yX4_isCalled, Cond.selects RX4 yX4_isCalled yX4_isCalled, Cond.code yX4_isCalled cX4_isCalled 4 (some .boolean), Cond.fieldLink RX4 23 "HeatBench$Wait" "above" "[[J", Cond.methodLink RX4 53 yX4_hasWorth, Cond.methodLink RX4 49 yX4_aboveIfCalled, Cond.instanceMethod yX4_aboveIfCalled, Cond.selects RX4 yX4_aboveIfCalled yX4_aboveIfCalled]
def wsX6_call_r2 : List Cond := [Cond.code yX4_aboveIfCalled cX4_aboveIfCalled 4 (some .long), Cond.fieldLink RX4 26 "HeatBench$Wait" "below" "[J"]
def wsX6_call : List Cond := .code yX6_call cX6_call 4 (some .int) :: ((wsX6_call_r1 ++ wsX6_call_r2) ++ wsX60 ++ wsX40)
def wsX6_run_r1 : List Cond := [Cond.fieldLink RX6 26 "HeatBench" "wait" "LHeatBench$Wait;", Cond.fieldLink RX6 170 "HeatBench$Wait" "days" "I", Cond.methodLink RX6 192 yX4_calledInRun, Cond.instanceMethod yX4_calledInRun, Cond.selects RX4 yX4_calledInRun yX4_calledInRun, Cond.initialized RX4, Cond.code yX4_calledInRun cX4_calledInRun 6 (some .int), Cond.fieldLink RX4 18 "HeatBench$Wait" "known" "[I", Cond.methodLink RX4 57 yX4_lengthOfRun, Cond.instanceMethod yX4_lengthOfRun, Cond.selects RX4 yX4_lengthOfRun yX4_lengthOfRun, Cond.code yX4_lengthOfRun cX4_lengthOfRun 2 (some .int), Cond.fieldLink RX4 34 "HeatBench$Wait" "days" "I", Cond.methodLink RX4 45 yX4_isCalled, Cond.instanceMethod yX4_isCalled, Cond.selects RX4 yX4_isCalled yX4_isCalled, Cond.code yX4_isCalled cX4_isCalled 4 (some .boolean), Cond.fieldLink RX4 23 "HeatBench$Wait" "above" "[[J", Cond.methodLink RX4 53 yX4_hasWorth, Cond.instanceMethod yX4_hasWorth, Cond.selects RX4 yX4_hasWorth yX4_hasWorth, Cond.code yX4_hasWorth cX4_hasWorth 3 (some .boolean), Cond.methodLink RX4 49 yX4_aboveIfCalled, Cond.instanceMethod yX4_aboveIfCalled]
def wsX6_run_r2 : List Cond := [Cond.selects RX4 yX4_aboveIfCalled yX4_aboveIfCalled, Cond.code yX4_aboveIfCalled cX4_aboveIfCalled 4 (some .long), Cond.fieldLink RX4 26 "HeatBench$Wait" "below" "[J", Cond.methodLink RX6 195 yX4_sumOf, Cond.instanceMethod yX4_sumOf, Cond.selects RX4 yX4_sumOf yX4_sumOf, Cond.code yX4_sumOf cX4_sumOf 4 (some .int), Cond.methodLink RX6 198 yX4_lengthOfRun]
def wsX6_run : List Cond := .code yX6_run cX6_run 3 (some .int) :: ((wsX6_run_r1 ++ wsX6_run_r2) ++ wsX60 ++ wsX40)
def wsX6_behind : List Cond := .code yX6_behind cX6_behind 2 (some .int) :: ([.fieldLink RX6 26 "HeatBench" "wait" "LHeatBench$Wait;", .fieldLink RX6 170 "HeatBench$Wait" "days" "I", .methodLink RX6 201 yX4_countKnown, .instanceMethod yX4_countKnown, .selects RX4 yX4_countKnown yX4_countKnown, .initialized RX4, .code yX4_countKnown cX4_countKnown 3 (some .int), .fieldLink RX4 34 "HeatBench$Wait" "days" "I", .fieldLink RX4 18 "HeatBench$Wait" "known" "[I", .methodLink RX6 204 yX4_greatestSum, .instanceMethod yX4_greatestSum, .selects RX4 yX4_greatestSum yX4_greatestSum, .code yX4_greatestSum cX4_greatestSum 6 (some .int)] ++ wsX60 ++ wsX40)
def wsX6_many : List Cond := .code yX6_many cX6_many 2 (some .int) :: ([.fieldLink RX6 10 "HeatBench" "heat" "LHeatBench$Heat;", .fieldLink RX6 207 "HeatBench$Heat" "riders" "I", .fieldLink RX6 47 "HeatBench$Heat" "rides" "I", .fieldLink RX6 38 "HeatBench$Heat" "line" "LHeatBench$Line;", .fieldLink RX6 58 "HeatBench$Line" "size" "I", .fieldLink RX6 19 "HeatBench" "past" "LHeatBench$Past;", .fieldLink RX6 125 "HeatBench$Past" "size" "I", .fieldLink RX6 26 "HeatBench" "wait" "LHeatBench$Wait;", .fieldLink RX6 170 "HeatBench$Wait" "days" "I", .fieldLink RX6 101 "HeatBench$Heat" "board" "LHeatBench$Board;", .methodLink RX6 201 yX4_countKnown, .instanceMethod yX4_countKnown, .selects RX4 yX4_countKnown yX4_countKnown, .initialized RX4, .code yX4_countKnown cX4_countKnown 3 (some .int), .fieldLink RX4 34 "HeatBench$Wait" "days" "I", .fieldLink RX4 18 "HeatBench$Wait" "known" "[I", .methodLink RX6 210 yX0_allFaults, .instanceMethod yX0_allFaults, .selects RX0 yX0_allFaults yX0_allFaults, .initialized RX0, .code yX0_allFaults cX0_allFaults 3 (some .int), .fieldLink RX0 21 "HeatBench$Board" "riders" "I", .fieldLink RX0 18 "HeatBench$Board" "faults" "[I"] ++ wsX60 ++ wsX10 ++ wsX20 ++ wsX30 ++ wsX40 ++ wsX00)
def wsX7_begin : List Cond := .code yX7_begin cX7_begin 3 none :: ([.fieldLink RX7 7 "HeatBenchModel" "riders" "I", .fieldLink RX7 86 "HeatBenchModel" "rides" "I", .fieldLink RX7 23 "HeatBenchModel" "lineMany" "I", .fieldLink RX7 26 "HeatBenchModel" "line" "[I", .fieldLink RX7 29 "HeatBenchModel" "interfered" "[I", .fieldLink RX7 89 "HeatBenchModel" "isOpen" "Z"] ++ wsX70)
def wsX7_beginDays : List Cond := .code yX7_beginDays cX7_beginDays 3 none :: ([.fieldLink RX7 38 "HeatBenchModel" "days" "I", .fieldLink RX7 41 "HeatBenchModel" "low" "[I", .fieldLink RX7 44 "HeatBenchModel" "high" "[I", .fieldLink RX7 47 "HeatBenchModel" "was" "[I"] ++ wsX70)
def wsX7_init_r1 : List Cond := [Cond.methodLink RX7 1 objectInit, Cond.instanceMethod objectInit, Cond.code objectInit ⟨#[0xb1]⟩ 1 none, Cond.fieldLink RX7 7 "HeatBenchModel" "riders" "I", Cond.arrayClass .int, Cond.fieldLink RX7 13 "HeatBenchModel" "riderOf" "[I", Cond.fieldLink RX7 17 "HeatBenchModel" "waveOf" "[I", Cond.fieldLink RX7 20 "HeatBenchModel" "marks" "[I", Cond.fieldLink RX7 23 "HeatBenchModel" "lineMany" "I", Cond.fieldLink RX7 26 "HeatBenchModel" "line" "[I", Cond.fieldLink RX7 29 "HeatBenchModel" "interfered" "[I", Cond.fieldLink RX7 32 "HeatBenchModel" "stood" "[I", Cond.fieldLink RX7 35 "HeatBenchModel" "past" "[I", Cond.fieldLink RX7 38 "HeatBenchModel" "days" "I", Cond.fieldLink RX7 41 "HeatBenchModel" "low" "[I", Cond.fieldLink RX7 44 "HeatBenchModel" "high" "[I", Cond.fieldLink RX7 47 "HeatBenchModel" "was" "[I", Cond.fieldLink RX7 50 "HeatBenchModel" "best" "[I", Cond.fieldLink RX7 53 "HeatBenchModel" "second" "[I", Cond.fieldLink RX7 56 "HeatBenchModel" "total" "[I", Cond.fieldLink RX7 59 "HeatBenchModel" "givenTo" "[I", Cond.fieldLink RX7 62 "HeatBenchModel" "has" "[I", Cond.fieldLink RX7 65 "HeatBenchModel" "own" "[I", Cond.arrayClass .long]
def wsX7_init_r2 : List Cond := [Cond.fieldLink RX7 68 "HeatBenchModel" "sums" "[J", Cond.fieldLink RX7 72 "HeatBenchModel" "below" "[J", Cond.methodLink RX7 75 yX7_begin, Cond.instanceMethod yX7_begin, Cond.selects RX7 yX7_begin yX7_begin, Cond.initialized RX7, Cond.code yX7_begin cX7_begin 3 none, Cond.fieldLink RX7 86 "HeatBenchModel" "rides" "I", Cond.fieldLink RX7 89 "HeatBenchModel" "isOpen" "Z", Cond.methodLink RX7 79 yX7_beginDays, Cond.instanceMethod yX7_beginDays, Cond.selects RX7 yX7_beginDays yX7_beginDays, Cond.code yX7_beginDays cX7_beginDays 3 none]
def wsX7_init : List Cond := .code yX7_init cX7_init 1 none :: ((wsX7_init_r1 ++ wsX7_init_r2) ++ wsX70)
def wsX7_in : List Cond := .code yX7_in cX7_in 3 (some .boolean) :: ([])
def wsX7_isRider : List Cond := .code yX7_isRider cX7_isRider 2 (some .boolean) :: ([.fieldLink RX7 7 "HeatBenchModel" "riders" "I", .methodLink RX7 82 yX7_in, .static yX7_in, .initialized RX7, .code yX7_in cX7_in 3 (some .boolean)] ++ wsX70)
def wsX7_isRide : List Cond := .code yX7_isRide cX7_isRide 2 (some .boolean) :: ([.fieldLink RX7 86 "HeatBenchModel" "rides" "I", .methodLink RX7 82 yX7_in, .static yX7_in, .initialized RX7, .code yX7_in cX7_in 3 (some .boolean)] ++ wsX70)
def wsX7_heat : List Cond := .code yX7_heat cX7_heat 2 (some .int) :: ([.methodLink RX7 82 yX7_in, .static yX7_in, .initialized RX7, .code yX7_in cX7_in 3 (some .boolean), .methodLink RX7 75 yX7_begin, .instanceMethod yX7_begin, .selects RX7 yX7_begin yX7_begin, .code yX7_begin cX7_begin 3 none, .fieldLink RX7 7 "HeatBenchModel" "riders" "I", .fieldLink RX7 86 "HeatBenchModel" "rides" "I", .fieldLink RX7 23 "HeatBenchModel" "lineMany" "I", .fieldLink RX7 26 "HeatBenchModel" "line" "[I", .fieldLink RX7 29 "HeatBenchModel" "interfered" "[I", .fieldLink RX7 89 "HeatBenchModel" "isOpen" "Z"] ++ wsX70)
def wsX7_placeInLine : List Cond := .code yX7_placeInLine cX7_placeInLine 3 (some .int) :: ([.fieldLink RX7 23 "HeatBenchModel" "lineMany" "I", .fieldLink RX7 26 "HeatBenchModel" "line" "[I"] ++ wsX70)
def wsX7_beginGroup : List Cond := .code yX7_beginGroup cX7_beginGroup 3 none :: ([.fieldLink RX7 93 "HeatBenchModel" "group" "I", .fieldLink RX7 96 "HeatBenchModel" "wrong" "I", .fieldLink RX7 7 "HeatBenchModel" "riders" "I", .fieldLink RX7 32 "HeatBenchModel" "stood" "[I", .methodLink RX7 99 yX7_placeInLine, .instanceMethod yX7_placeInLine, .selects RX7 yX7_placeInLine yX7_placeInLine, .initialized RX7, .code yX7_placeInLine cX7_placeInLine 3 (some .int), .fieldLink RX7 23 "HeatBenchModel" "lineMany" "I", .fieldLink RX7 26 "HeatBenchModel" "line" "[I"] ++ wsX70)
def wsX7_joins : List Cond := .code yX7_joins cX7_joins 4 none :: ([.fieldLink RX7 93 "HeatBenchModel" "group" "I", .fieldLink RX7 7 "HeatBenchModel" "riders" "I", .fieldLink RX7 32 "HeatBenchModel" "stood" "[I", .fieldLink RX7 96 "HeatBenchModel" "wrong" "I", .fieldLink RX7 29 "HeatBenchModel" "interfered" "[I"] ++ wsX70)
def wsX7_take_r1 : List Cond := [Cond.fieldLink RX7 86 "HeatBenchModel" "rides" "I", Cond.fieldLink RX7 89 "HeatBenchModel" "isOpen" "Z", Cond.fieldLink RX7 17 "HeatBenchModel" "waveOf" "[I", Cond.fieldLink RX7 23 "HeatBenchModel" "lineMany" "I", Cond.fieldLink RX7 26 "HeatBenchModel" "line" "[I", Cond.fieldLink RX7 13 "HeatBenchModel" "riderOf" "[I", Cond.fieldLink RX7 20 "HeatBenchModel" "marks" "[I", Cond.methodLink RX7 103 yX7_isRider, Cond.instanceMethod yX7_isRider, Cond.selects RX7 yX7_isRider yX7_isRider, Cond.initialized RX7, Cond.code yX7_isRider cX7_isRider 2 (some .boolean), Cond.fieldLink RX7 7 "HeatBenchModel" "riders" "I", Cond.methodLink RX7 82 yX7_in, Cond.static yX7_in, Cond.code yX7_in cX7_in 3 (some .boolean), Cond.methodLink RX7 99 yX7_placeInLine, Cond.instanceMethod yX7_placeInLine, Cond.selects RX7 yX7_placeInLine yX7_placeInLine, Cond.code yX7_placeInLine cX7_placeInLine 3 (some .int), Cond.methodLink RX7 107 yX7_beginGroup, Cond.instanceMethod yX7_beginGroup, Cond.selects RX7 yX7_beginGroup yX7_beginGroup, Cond.code yX7_beginGroup cX7_beginGroup 3 none]
def wsX7_take_r2 : List Cond := [Cond.fieldLink RX7 93 "HeatBenchModel" "group" "I", Cond.fieldLink RX7 96 "HeatBenchModel" "wrong" "I", Cond.fieldLink RX7 32 "HeatBenchModel" "stood" "[I", Cond.methodLink RX7 110 yX7_joins, Cond.instanceMethod yX7_joins, Cond.selects RX7 yX7_joins yX7_joins, Cond.code yX7_joins cX7_joins 4 none, Cond.fieldLink RX7 29 "HeatBenchModel" "interfered" "[I"]
def wsX7_take : List Cond := .code yX7_take cX7_take 5 (some .int) :: ((wsX7_take_r1 ++ wsX7_take_r2) ++ wsX70)
def wsX7_back : List Cond := .code yX7_back cX7_back 2 (some .int) :: ([.fieldLink RX7 26 "HeatBenchModel" "line" "[I", .fieldLink RX7 23 "HeatBenchModel" "lineMany" "I", .methodLink RX7 103 yX7_isRider, .instanceMethod yX7_isRider, .selects RX7 yX7_isRider yX7_isRider, .initialized RX7, .code yX7_isRider cX7_isRider 2 (some .boolean), .fieldLink RX7 7 "HeatBenchModel" "riders" "I", .methodLink RX7 82 yX7_in, .static yX7_in, .code yX7_in cX7_in 3 (some .boolean), .methodLink RX7 99 yX7_placeInLine, .instanceMethod yX7_placeInLine, .selects RX7 yX7_placeInLine yX7_placeInLine, .code yX7_placeInLine cX7_placeInLine 3 (some .int)] ++ wsX70)
def wsX7_letGo : List Cond := .code yX7_letGo cX7_letGo 2 (some .int) :: ([.fieldLink RX7 89 "HeatBenchModel" "isOpen" "Z"] ++ wsX70)
def wsX7_mark : List Cond := .code yX7_mark cX7_mark 5 (some .int) :: ([.fieldLink RX7 20 "HeatBenchModel" "marks" "[I", .methodLink RX7 113 yX7_isRide, .instanceMethod yX7_isRide, .selects RX7 yX7_isRide yX7_isRide, .initialized RX7, .code yX7_isRide cX7_isRide 2 (some .boolean), .fieldLink RX7 86 "HeatBenchModel" "rides" "I", .methodLink RX7 82 yX7_in, .static yX7_in, .code yX7_in cX7_in 3 (some .boolean)] ++ wsX70)
def wsX7_marksOf : List Cond := .code yX7_marksOf cX7_marksOf 4 (some .int) :: ([.fieldLink RX7 20 "HeatBenchModel" "marks" "[I"] ++ wsX70)
def wsX7_scoreOf : List Cond := .code yX7_scoreOf cX7_scoreOf 8 (some .int) :: ([.fieldLink RX7 20 "HeatBenchModel" "marks" "[I"] ++ wsX70)
def wsX7_of : List Cond := .code yX7_of cX7_of 3 (some .int) :: ([.fieldLink RX7 13 "HeatBenchModel" "riderOf" "[I", .fieldLink RX7 17 "HeatBenchModel" "waveOf" "[I", .methodLink RX7 113 yX7_isRide, .instanceMethod yX7_isRide, .selects RX7 yX7_isRide yX7_isRide, .initialized RX7, .code yX7_isRide cX7_isRide 2 (some .boolean), .fieldLink RX7 86 "HeatBenchModel" "rides" "I", .methodLink RX7 82 yX7_in, .static yX7_in, .code yX7_in cX7_in 3 (some .boolean), .methodLink RX7 116 yX7_marksOf, .instanceMethod yX7_marksOf, .selects RX7 yX7_marksOf yX7_marksOf, .code yX7_marksOf cX7_marksOf 4 (some .int), .fieldLink RX7 20 "HeatBenchModel" "marks" "[I", .methodLink RX7 119 yX7_scoreOf, .instanceMethod yX7_scoreOf, .selects RX7 yX7_scoreOf yX7_scoreOf, .code yX7_scoreOf cX7_scoreOf 8 (some .int)] ++ wsX70)
def wsX7_line : List Cond := .code yX7_line cX7_line 2 (some .int) :: ([.fieldLink RX7 23 "HeatBenchModel" "lineMany" "I", .fieldLink RX7 26 "HeatBenchModel" "line" "[I", .methodLink RX7 82 yX7_in, .static yX7_in, .initialized RX7, .code yX7_in cX7_in 3 (some .boolean)] ++ wsX70)
def wsX7_clearBest : List Cond := .code yX7_clearBest cX7_clearBest 2 none :: ([.fieldLink RX7 7 "HeatBenchModel" "riders" "I", .fieldLink RX7 50 "HeatBenchModel" "best" "[I", .fieldLink RX7 53 "HeatBenchModel" "second" "[I"] ++ wsX70)
def wsX7_counts : List Cond := .code yX7_counts cX7_counts 3 none :: ([.fieldLink RX7 50 "HeatBenchModel" "best" "[I", .fieldLink RX7 53 "HeatBenchModel" "second" "[I"] ++ wsX70)
def wsX7_findTotals : List Cond := .code yX7_findTotals cX7_findTotals 2 none :: ([.fieldLink RX7 7 "HeatBenchModel" "riders" "I", .fieldLink RX7 56 "HeatBenchModel" "total" "[I", .fieldLink RX7 29 "HeatBenchModel" "interfered" "[I", .fieldLink RX7 50 "HeatBenchModel" "best" "[I", .fieldLink RX7 53 "HeatBenchModel" "second" "[I"] ++ wsX70)
def wsX7_findBest_r1 : List Cond := [Cond.fieldLink RX7 86 "HeatBenchModel" "rides" "I", Cond.fieldLink RX7 13 "HeatBenchModel" "riderOf" "[I", Cond.methodLink RX7 122 yX7_clearBest, Cond.instanceMethod yX7_clearBest, Cond.selects RX7 yX7_clearBest yX7_clearBest, Cond.initialized RX7, Cond.code yX7_clearBest cX7_clearBest 2 none, Cond.fieldLink RX7 7 "HeatBenchModel" "riders" "I", Cond.fieldLink RX7 50 "HeatBenchModel" "best" "[I", Cond.fieldLink RX7 53 "HeatBenchModel" "second" "[I", Cond.methodLink RX7 119 yX7_scoreOf, Cond.instanceMethod yX7_scoreOf, Cond.selects RX7 yX7_scoreOf yX7_scoreOf, Cond.code yX7_scoreOf cX7_scoreOf 8 (some .int), Cond.fieldLink RX7 20 "HeatBenchModel" "marks" "[I", Cond.methodLink RX7 125 yX7_counts, Cond.instanceMethod yX7_counts, Cond.selects RX7 yX7_counts yX7_counts, Cond.code yX7_counts cX7_counts 3 none, Cond.methodLink RX7 129 yX7_findTotals, Cond.instanceMethod yX7_findTotals, Cond.selects RX7 yX7_findTotals yX7_findTotals, Cond.code yX7_findTotals cX7_findTotals 2 none, Cond.fieldLink RX7 56 "HeatBenchModel" "total" "[I"]
def wsX7_findBest_r2 : List Cond := [Cond.fieldLink RX7 29 "HeatBenchModel" "interfered" "[I"]
def wsX7_findBest : List Cond := .code yX7_findBest cX7_findBest 2 none :: ((wsX7_findBest_r1 ++ wsX7_findBest_r2) ++ wsX70)
def wsX7_placeOf : List Cond := .code yX7_placeOf cX7_placeOf 5 (some .int) :: ([.fieldLink RX7 7 "HeatBenchModel" "riders" "I", .fieldLink RX7 56 "HeatBenchModel" "total" "[I", .fieldLink RX7 50 "HeatBenchModel" "best" "[I"] ++ wsX70)
def wsX7_ridesOf : List Cond := .code yX7_ridesOf cX7_ridesOf 4 (some .int) :: ([.fieldLink RX7 86 "HeatBenchModel" "rides" "I", .fieldLink RX7 13 "HeatBenchModel" "riderOf" "[I"] ++ wsX70)
def wsX7_told_r1 : List Cond := [Cond.fieldLink RX7 50 "HeatBenchModel" "best" "[I", Cond.fieldLink RX7 53 "HeatBenchModel" "second" "[I", Cond.fieldLink RX7 29 "HeatBenchModel" "interfered" "[I", Cond.fieldLink RX7 56 "HeatBenchModel" "total" "[I", Cond.methodLink RX7 103 yX7_isRider, Cond.instanceMethod yX7_isRider, Cond.selects RX7 yX7_isRider yX7_isRider, Cond.initialized RX7, Cond.code yX7_isRider cX7_isRider 2 (some .boolean), Cond.fieldLink RX7 7 "HeatBenchModel" "riders" "I", Cond.methodLink RX7 82 yX7_in, Cond.static yX7_in, Cond.code yX7_in cX7_in 3 (some .boolean), Cond.methodLink RX7 132 yX7_findBest, Cond.instanceMethod yX7_findBest, Cond.selects RX7 yX7_findBest yX7_findBest, Cond.code yX7_findBest cX7_findBest 2 none, Cond.fieldLink RX7 86 "HeatBenchModel" "rides" "I", Cond.fieldLink RX7 13 "HeatBenchModel" "riderOf" "[I", Cond.methodLink RX7 122 yX7_clearBest, Cond.instanceMethod yX7_clearBest, Cond.selects RX7 yX7_clearBest yX7_clearBest, Cond.code yX7_clearBest cX7_clearBest 2 none, Cond.methodLink RX7 119 yX7_scoreOf]
def wsX7_told_r2 : List Cond := [Cond.instanceMethod yX7_scoreOf, Cond.selects RX7 yX7_scoreOf yX7_scoreOf, Cond.code yX7_scoreOf cX7_scoreOf 8 (some .int), Cond.fieldLink RX7 20 "HeatBenchModel" "marks" "[I", Cond.methodLink RX7 125 yX7_counts, Cond.instanceMethod yX7_counts, Cond.selects RX7 yX7_counts yX7_counts, Cond.code yX7_counts cX7_counts 3 none, Cond.methodLink RX7 129 yX7_findTotals, Cond.instanceMethod yX7_findTotals, Cond.selects RX7 yX7_findTotals yX7_findTotals, Cond.code yX7_findTotals cX7_findTotals 2 none, Cond.methodLink RX7 135 yX7_ridesOf, Cond.instanceMethod yX7_ridesOf, Cond.selects RX7 yX7_ridesOf yX7_ridesOf, Cond.code yX7_ridesOf cX7_ridesOf 4 (some .int), Cond.methodLink RX7 138 yX7_placeOf, Cond.instanceMethod yX7_placeOf, Cond.selects RX7 yX7_placeOf yX7_placeOf, Cond.code yX7_placeOf cX7_placeOf 5 (some .int)]
def wsX7_told : List Cond := .code yX7_told cX7_told 3 (some .int) :: ((wsX7_told_r1 ++ wsX7_told_r2) ++ wsX70)
def wsX7_needOf_r1 : List Cond := [Cond.methodLink RX7 132 yX7_findBest, Cond.instanceMethod yX7_findBest, Cond.selects RX7 yX7_findBest yX7_findBest, Cond.initialized RX7, Cond.code yX7_findBest cX7_findBest 2 none, Cond.fieldLink RX7 86 "HeatBenchModel" "rides" "I", Cond.fieldLink RX7 13 "HeatBenchModel" "riderOf" "[I", Cond.methodLink RX7 122 yX7_clearBest, Cond.instanceMethod yX7_clearBest, Cond.selects RX7 yX7_clearBest yX7_clearBest, Cond.code yX7_clearBest cX7_clearBest 2 none, Cond.fieldLink RX7 7 "HeatBenchModel" "riders" "I", Cond.fieldLink RX7 50 "HeatBenchModel" "best" "[I", Cond.fieldLink RX7 53 "HeatBenchModel" "second" "[I", Cond.methodLink RX7 119 yX7_scoreOf, Cond.instanceMethod yX7_scoreOf, Cond.selects RX7 yX7_scoreOf yX7_scoreOf, Cond.code yX7_scoreOf cX7_scoreOf 8 (some .int), Cond.fieldLink RX7 20 "HeatBenchModel" "marks" "[I", Cond.methodLink RX7 125 yX7_counts, Cond.instanceMethod yX7_counts, Cond.selects RX7 yX7_counts yX7_counts, Cond.code yX7_counts cX7_counts 3 none, Cond.methodLink RX7 129 yX7_findTotals]
def wsX7_needOf_r2 : List Cond := [Cond.instanceMethod yX7_findTotals, Cond.selects RX7 yX7_findTotals yX7_findTotals, Cond.code yX7_findTotals cX7_findTotals 2 none, Cond.fieldLink RX7 56 "HeatBenchModel" "total" "[I", Cond.fieldLink RX7 29 "HeatBenchModel" "interfered" "[I", Cond.methodLink RX7 138 yX7_placeOf, Cond.instanceMethod yX7_placeOf, Cond.selects RX7 yX7_placeOf yX7_placeOf, Cond.code yX7_placeOf cX7_placeOf 5 (some .int)]
def wsX7_needOf : List Cond := .code yX7_needOf cX7_needOf 4 (some .int) :: ((wsX7_needOf_r1 ++ wsX7_needOf_r2) ++ wsX70)
def wsX7_need_r1 : List Cond := [Cond.methodLink RX7 103 yX7_isRider, Cond.instanceMethod yX7_isRider, Cond.selects RX7 yX7_isRider yX7_isRider, Cond.initialized RX7, Cond.code yX7_isRider cX7_isRider 2 (some .boolean), Cond.fieldLink RX7 7 "HeatBenchModel" "riders" "I", Cond.methodLink RX7 82 yX7_in, Cond.static yX7_in, Cond.code yX7_in cX7_in 3 (some .boolean), Cond.methodLink RX7 141 yX7_needOf, Cond.instanceMethod yX7_needOf, Cond.selects RX7 yX7_needOf yX7_needOf, Cond.code yX7_needOf cX7_needOf 4 (some .int), Cond.methodLink RX7 132 yX7_findBest, Cond.instanceMethod yX7_findBest, Cond.selects RX7 yX7_findBest yX7_findBest, Cond.code yX7_findBest cX7_findBest 2 none, Cond.fieldLink RX7 86 "HeatBenchModel" "rides" "I", Cond.fieldLink RX7 13 "HeatBenchModel" "riderOf" "[I", Cond.methodLink RX7 122 yX7_clearBest, Cond.instanceMethod yX7_clearBest, Cond.selects RX7 yX7_clearBest yX7_clearBest, Cond.code yX7_clearBest cX7_clearBest 2 none, Cond.fieldLink RX7 50 "HeatBenchModel" "best" "[I"]
def wsX7_need_r2 : List Cond := [Cond.fieldLink RX7 53 "HeatBenchModel" "second" "[I", Cond.methodLink RX7 119 yX7_scoreOf, Cond.instanceMethod yX7_scoreOf, Cond.selects RX7 yX7_scoreOf yX7_scoreOf, Cond.code yX7_scoreOf cX7_scoreOf 8 (some .int), Cond.fieldLink RX7 20 "HeatBenchModel" "marks" "[I", Cond.methodLink RX7 125 yX7_counts, Cond.instanceMethod yX7_counts, Cond.selects RX7 yX7_counts yX7_counts, Cond.code yX7_counts cX7_counts 3 none, Cond.methodLink RX7 129 yX7_findTotals, Cond.instanceMethod yX7_findTotals, Cond.selects RX7 yX7_findTotals yX7_findTotals, Cond.code yX7_findTotals cX7_findTotals 2 none, Cond.fieldLink RX7 56 "HeatBenchModel" "total" "[I", Cond.fieldLink RX7 29 "HeatBenchModel" "interfered" "[I", Cond.methodLink RX7 138 yX7_placeOf, Cond.instanceMethod yX7_placeOf, Cond.selects RX7 yX7_placeOf yX7_placeOf, Cond.code yX7_placeOf cX7_placeOf 5 (some .int)]
def wsX7_need : List Cond := .code yX7_need cX7_need 3 (some .int) :: ((wsX7_need_r1 ++ wsX7_need_r2) ++ wsX70)
def wsX7_past : List Cond := .code yX7_past cX7_past 2 (some .int) :: ([.fieldLink RX7 145 "HeatBenchModel" "pastMany" "I", .fieldLink RX7 35 "HeatBenchModel" "past" "[I", .methodLink RX7 82 yX7_in, .static yX7_in, .initialized RX7, .code yX7_in cX7_in 3 (some .boolean)] ++ wsX70)
def wsX7_keep : List Cond := .code yX7_keep cX7_keep 3 (some .int) :: ([.fieldLink RX7 86 "HeatBenchModel" "rides" "I", .fieldLink RX7 145 "HeatBenchModel" "pastMany" "I", .fieldLink RX7 35 "HeatBenchModel" "past" "[I", .methodLink RX7 116 yX7_marksOf, .instanceMethod yX7_marksOf, .selects RX7 yX7_marksOf yX7_marksOf, .initialized RX7, .code yX7_marksOf cX7_marksOf 4 (some .int), .fieldLink RX7 20 "HeatBenchModel" "marks" "[I", .methodLink RX7 119 yX7_scoreOf, .instanceMethod yX7_scoreOf, .selects RX7 yX7_scoreOf yX7_scoreOf, .code yX7_scoreOf cX7_scoreOf 8 (some .int)] ++ wsX70)
def wsX7_forget : List Cond := .code yX7_forget cX7_forget 2 (some .int) :: ([.fieldLink RX7 145 "HeatBenchModel" "pastMany" "I"] ++ wsX70)
def wsX7_common : List Cond := .code yX7_common cX7_common 10 (some .long) :: ([])
def wsX7_chance_r1 : List Cond := [Cond.fieldLink RX7 145 "HeatBenchModel" "pastMany" "I", Cond.fieldLink RX7 35 "HeatBenchModel" "past" "[I", Cond.methodLink RX7 103 yX7_isRider, Cond.instanceMethod yX7_isRider, Cond.selects RX7 yX7_isRider yX7_isRider, Cond.initialized RX7, Cond.code yX7_isRider cX7_isRider 2 (some .boolean), Cond.fieldLink RX7 7 "HeatBenchModel" "riders" "I", Cond.methodLink RX7 82 yX7_in, Cond.static yX7_in, Cond.code yX7_in cX7_in 3 (some .boolean), Cond.methodLink RX7 141 yX7_needOf, Cond.instanceMethod yX7_needOf, Cond.selects RX7 yX7_needOf yX7_needOf, Cond.code yX7_needOf cX7_needOf 4 (some .int), Cond.methodLink RX7 132 yX7_findBest, Cond.instanceMethod yX7_findBest, Cond.selects RX7 yX7_findBest yX7_findBest, Cond.code yX7_findBest cX7_findBest 2 none, Cond.fieldLink RX7 86 "HeatBenchModel" "rides" "I", Cond.fieldLink RX7 13 "HeatBenchModel" "riderOf" "[I", Cond.methodLink RX7 122 yX7_clearBest, Cond.instanceMethod yX7_clearBest, Cond.selects RX7 yX7_clearBest yX7_clearBest]
def wsX7_chance_r2 : List Cond := [Cond.code yX7_clearBest cX7_clearBest 2 none, Cond.fieldLink RX7 50 "HeatBenchModel" "best" "[I", Cond.fieldLink RX7 53 "HeatBenchModel" "second" "[I", Cond.methodLink RX7 119 yX7_scoreOf, Cond.instanceMethod yX7_scoreOf, Cond.selects RX7 yX7_scoreOf yX7_scoreOf, Cond.code yX7_scoreOf cX7_scoreOf 8 (some .int), Cond.fieldLink RX7 20 "HeatBenchModel" "marks" "[I", Cond.methodLink RX7 125 yX7_counts, Cond.instanceMethod yX7_counts, Cond.selects RX7 yX7_counts yX7_counts, Cond.code yX7_counts cX7_counts 3 none, Cond.methodLink RX7 129 yX7_findTotals, Cond.instanceMethod yX7_findTotals, Cond.selects RX7 yX7_findTotals yX7_findTotals, Cond.code yX7_findTotals cX7_findTotals 2 none, Cond.fieldLink RX7 56 "HeatBenchModel" "total" "[I", Cond.fieldLink RX7 29 "HeatBenchModel" "interfered" "[I", Cond.methodLink RX7 138 yX7_placeOf, Cond.instanceMethod yX7_placeOf, Cond.selects RX7 yX7_placeOf yX7_placeOf, Cond.code yX7_placeOf cX7_placeOf 5 (some .int), Cond.methodLink RX7 148 yX7_common, Cond.static yX7_common]
def wsX7_chance_r3 : List Cond := [Cond.code yX7_common cX7_common 10 (some .long)]
def wsX7_chance : List Cond := .code yX7_chance cX7_chance 7 (some .int) :: ((wsX7_chance_r1 ++ (wsX7_chance_r2 ++ wsX7_chance_r3)) ++ wsX70)
def wsX7_wins_r1 : List Cond := [Cond.fieldLink RX7 86 "HeatBenchModel" "rides" "I", Cond.fieldLink RX7 59 "HeatBenchModel" "givenTo" "[I", Cond.methodLink RX7 122 yX7_clearBest, Cond.instanceMethod yX7_clearBest, Cond.selects RX7 yX7_clearBest yX7_clearBest, Cond.initialized RX7, Cond.code yX7_clearBest cX7_clearBest 2 none, Cond.fieldLink RX7 7 "HeatBenchModel" "riders" "I", Cond.fieldLink RX7 50 "HeatBenchModel" "best" "[I", Cond.fieldLink RX7 53 "HeatBenchModel" "second" "[I", Cond.methodLink RX7 119 yX7_scoreOf, Cond.instanceMethod yX7_scoreOf, Cond.selects RX7 yX7_scoreOf yX7_scoreOf, Cond.code yX7_scoreOf cX7_scoreOf 8 (some .int), Cond.fieldLink RX7 20 "HeatBenchModel" "marks" "[I", Cond.methodLink RX7 125 yX7_counts, Cond.instanceMethod yX7_counts, Cond.selects RX7 yX7_counts yX7_counts, Cond.code yX7_counts cX7_counts 3 none, Cond.methodLink RX7 129 yX7_findTotals, Cond.instanceMethod yX7_findTotals, Cond.selects RX7 yX7_findTotals yX7_findTotals, Cond.code yX7_findTotals cX7_findTotals 2 none, Cond.fieldLink RX7 56 "HeatBenchModel" "total" "[I"]
def wsX7_wins_r2 : List Cond := [Cond.fieldLink RX7 29 "HeatBenchModel" "interfered" "[I", Cond.methodLink RX7 138 yX7_placeOf, Cond.instanceMethod yX7_placeOf, Cond.selects RX7 yX7_placeOf yX7_placeOf, Cond.code yX7_placeOf cX7_placeOf 5 (some .int)]
def wsX7_wins : List Cond := .code yX7_wins cX7_wins 3 (some .boolean) :: ((wsX7_wins_r1 ++ wsX7_wins_r2) ++ wsX70)
def wsX7_goThrough_r1 : List Cond := [Cond.fieldLink RX7 86 "HeatBenchModel" "rides" "I", Cond.fieldLink RX7 7 "HeatBenchModel" "riders" "I", Cond.fieldLink RX7 65 "HeatBenchModel" "own" "[I", Cond.fieldLink RX7 62 "HeatBenchModel" "has" "[I", Cond.fieldLink RX7 59 "HeatBenchModel" "givenTo" "[I", Cond.methodLink RX7 135 yX7_ridesOf, Cond.instanceMethod yX7_ridesOf, Cond.selects RX7 yX7_ridesOf yX7_ridesOf, Cond.initialized RX7, Cond.code yX7_ridesOf cX7_ridesOf 4 (some .int), Cond.fieldLink RX7 13 "HeatBenchModel" "riderOf" "[I", Cond.methodLink RX7 152 yX7_wins, Cond.instanceMethod yX7_wins, Cond.selects RX7 yX7_wins yX7_wins, Cond.code yX7_wins cX7_wins 3 (some .boolean), Cond.methodLink RX7 122 yX7_clearBest, Cond.instanceMethod yX7_clearBest, Cond.selects RX7 yX7_clearBest yX7_clearBest, Cond.code yX7_clearBest cX7_clearBest 2 none, Cond.fieldLink RX7 50 "HeatBenchModel" "best" "[I", Cond.fieldLink RX7 53 "HeatBenchModel" "second" "[I", Cond.methodLink RX7 119 yX7_scoreOf, Cond.instanceMethod yX7_scoreOf, Cond.selects RX7 yX7_scoreOf yX7_scoreOf]
def wsX7_goThrough_r2 : List Cond := [Cond.code yX7_scoreOf cX7_scoreOf 8 (some .int), Cond.fieldLink RX7 20 "HeatBenchModel" "marks" "[I", Cond.methodLink RX7 125 yX7_counts, Cond.instanceMethod yX7_counts, Cond.selects RX7 yX7_counts yX7_counts, Cond.code yX7_counts cX7_counts 3 none, Cond.methodLink RX7 129 yX7_findTotals, Cond.instanceMethod yX7_findTotals, Cond.selects RX7 yX7_findTotals yX7_findTotals, Cond.code yX7_findTotals cX7_findTotals 2 none, Cond.fieldLink RX7 56 "HeatBenchModel" "total" "[I", Cond.fieldLink RX7 29 "HeatBenchModel" "interfered" "[I", Cond.methodLink RX7 138 yX7_placeOf, Cond.instanceMethod yX7_placeOf, Cond.selects RX7 yX7_placeOf yX7_placeOf, Cond.code yX7_placeOf cX7_placeOf 5 (some .int)]
def wsX7_goThrough : List Cond := .code yX7_goThrough cX7_goThrough 8 (some .int) :: ((wsX7_goThrough_r1 ++ wsX7_goThrough_r2) ++ wsX70)
def wsX7_ways_r1 : List Cond := [Cond.fieldLink RX7 86 "HeatBenchModel" "rides" "I", Cond.methodLink RX7 155 yX7_goThrough, Cond.instanceMethod yX7_goThrough, Cond.selects RX7 yX7_goThrough yX7_goThrough, Cond.initialized RX7, Cond.code yX7_goThrough cX7_goThrough 8 (some .int), Cond.fieldLink RX7 7 "HeatBenchModel" "riders" "I", Cond.fieldLink RX7 65 "HeatBenchModel" "own" "[I", Cond.fieldLink RX7 62 "HeatBenchModel" "has" "[I", Cond.fieldLink RX7 59 "HeatBenchModel" "givenTo" "[I", Cond.methodLink RX7 135 yX7_ridesOf, Cond.instanceMethod yX7_ridesOf, Cond.selects RX7 yX7_ridesOf yX7_ridesOf, Cond.code yX7_ridesOf cX7_ridesOf 4 (some .int), Cond.fieldLink RX7 13 "HeatBenchModel" "riderOf" "[I", Cond.methodLink RX7 152 yX7_wins, Cond.instanceMethod yX7_wins, Cond.selects RX7 yX7_wins yX7_wins, Cond.code yX7_wins cX7_wins 3 (some .boolean), Cond.methodLink RX7 122 yX7_clearBest, Cond.instanceMethod yX7_clearBest, Cond.selects RX7 yX7_clearBest yX7_clearBest, Cond.code yX7_clearBest cX7_clearBest 2 none, Cond.fieldLink RX7 50 "HeatBenchModel" "best" "[I"]
def wsX7_ways_r2 : List Cond := [Cond.fieldLink RX7 53 "HeatBenchModel" "second" "[I", Cond.methodLink RX7 119 yX7_scoreOf, Cond.instanceMethod yX7_scoreOf, Cond.selects RX7 yX7_scoreOf yX7_scoreOf, Cond.code yX7_scoreOf cX7_scoreOf 8 (some .int), Cond.fieldLink RX7 20 "HeatBenchModel" "marks" "[I", Cond.methodLink RX7 125 yX7_counts, Cond.instanceMethod yX7_counts, Cond.selects RX7 yX7_counts yX7_counts, Cond.code yX7_counts cX7_counts 3 none, Cond.methodLink RX7 129 yX7_findTotals, Cond.instanceMethod yX7_findTotals, Cond.selects RX7 yX7_findTotals yX7_findTotals, Cond.code yX7_findTotals cX7_findTotals 2 none, Cond.fieldLink RX7 56 "HeatBenchModel" "total" "[I", Cond.fieldLink RX7 29 "HeatBenchModel" "interfered" "[I", Cond.methodLink RX7 138 yX7_placeOf, Cond.instanceMethod yX7_placeOf, Cond.selects RX7 yX7_placeOf yX7_placeOf, Cond.code yX7_placeOf cX7_placeOf 5 (some .int)]
def wsX7_ways : List Cond := .code yX7_ways cX7_ways 1 (some .int) :: ((wsX7_ways_r1 ++ wsX7_ways_r2) ++ wsX70)
def wsX7_luck_r1 : List Cond := [Cond.fieldLink RX7 86 "HeatBenchModel" "rides" "I", Cond.methodLink RX7 103 yX7_isRider, Cond.instanceMethod yX7_isRider, Cond.selects RX7 yX7_isRider yX7_isRider, Cond.initialized RX7, Cond.code yX7_isRider cX7_isRider 2 (some .boolean), Cond.fieldLink RX7 7 "HeatBenchModel" "riders" "I", Cond.methodLink RX7 82 yX7_in, Cond.static yX7_in, Cond.code yX7_in cX7_in 3 (some .boolean), Cond.methodLink RX7 155 yX7_goThrough, Cond.instanceMethod yX7_goThrough, Cond.selects RX7 yX7_goThrough yX7_goThrough, Cond.code yX7_goThrough cX7_goThrough 8 (some .int), Cond.fieldLink RX7 65 "HeatBenchModel" "own" "[I", Cond.fieldLink RX7 62 "HeatBenchModel" "has" "[I", Cond.fieldLink RX7 59 "HeatBenchModel" "givenTo" "[I", Cond.methodLink RX7 135 yX7_ridesOf, Cond.instanceMethod yX7_ridesOf, Cond.selects RX7 yX7_ridesOf yX7_ridesOf, Cond.code yX7_ridesOf cX7_ridesOf 4 (some .int), Cond.fieldLink RX7 13 "HeatBenchModel" "riderOf" "[I", Cond.methodLink RX7 152 yX7_wins, Cond.instanceMethod yX7_wins]
def wsX7_luck_r2 : List Cond := [Cond.selects RX7 yX7_wins yX7_wins, Cond.code yX7_wins cX7_wins 3 (some .boolean), Cond.methodLink RX7 122 yX7_clearBest, Cond.instanceMethod yX7_clearBest, Cond.selects RX7 yX7_clearBest yX7_clearBest, Cond.code yX7_clearBest cX7_clearBest 2 none, Cond.fieldLink RX7 50 "HeatBenchModel" "best" "[I", Cond.fieldLink RX7 53 "HeatBenchModel" "second" "[I", Cond.methodLink RX7 119 yX7_scoreOf, Cond.instanceMethod yX7_scoreOf, Cond.selects RX7 yX7_scoreOf yX7_scoreOf, Cond.code yX7_scoreOf cX7_scoreOf 8 (some .int), Cond.fieldLink RX7 20 "HeatBenchModel" "marks" "[I", Cond.methodLink RX7 125 yX7_counts, Cond.instanceMethod yX7_counts, Cond.selects RX7 yX7_counts yX7_counts, Cond.code yX7_counts cX7_counts 3 none, Cond.methodLink RX7 129 yX7_findTotals, Cond.instanceMethod yX7_findTotals, Cond.selects RX7 yX7_findTotals yX7_findTotals, Cond.code yX7_findTotals cX7_findTotals 2 none, Cond.fieldLink RX7 56 "HeatBenchModel" "total" "[I", Cond.fieldLink RX7 29 "HeatBenchModel" "interfered" "[I", Cond.methodLink RX7 138 yX7_placeOf]
def wsX7_luck_r3 : List Cond := [Cond.instanceMethod yX7_placeOf, Cond.selects RX7 yX7_placeOf yX7_placeOf, Cond.code yX7_placeOf cX7_placeOf 5 (some .int)]
def wsX7_luck : List Cond := .code yX7_luck cX7_luck 2 (some .int) :: ((wsX7_luck_r1 ++ (wsX7_luck_r2 ++ wsX7_luck_r3)) ++ wsX70)
def wsX7_days : List Cond := .code yX7_days cX7_days 2 (some .int) :: ([.methodLink RX7 82 yX7_in, .static yX7_in, .initialized RX7, .code yX7_in cX7_in 3 (some .boolean), .methodLink RX7 79 yX7_beginDays, .instanceMethod yX7_beginDays, .selects RX7 yX7_beginDays yX7_beginDays, .code yX7_beginDays cX7_beginDays 3 none, .fieldLink RX7 38 "HeatBenchModel" "days" "I", .fieldLink RX7 41 "HeatBenchModel" "low" "[I", .fieldLink RX7 44 "HeatBenchModel" "high" "[I", .fieldLink RX7 47 "HeatBenchModel" "was" "[I"] ++ wsX70)
def wsX7_isDay : List Cond := .code yX7_isDay cX7_isDay 2 (some .boolean) :: ([.fieldLink RX7 38 "HeatBenchModel" "days" "I", .methodLink RX7 82 yX7_in, .static yX7_in, .initialized RX7, .code yX7_in cX7_in 3 (some .boolean)] ++ wsX70)
def wsX7_span : List Cond := .code yX7_span cX7_span 4 (some .int) :: ([.fieldLink RX7 41 "HeatBenchModel" "low" "[I", .fieldLink RX7 44 "HeatBenchModel" "high" "[I", .fieldLink RX7 47 "HeatBenchModel" "was" "[I", .methodLink RX7 158 yX7_isDay, .instanceMethod yX7_isDay, .selects RX7 yX7_isDay yX7_isDay, .initialized RX7, .code yX7_isDay cX7_isDay 2 (some .boolean), .fieldLink RX7 38 "HeatBenchModel" "days" "I", .methodLink RX7 82 yX7_in, .static yX7_in, .code yX7_in cX7_in 3 (some .boolean)] ++ wsX70)
def wsX7_was : List Cond := .code yX7_was cX7_was 4 (some .int) :: ([.fieldLink RX7 41 "HeatBenchModel" "low" "[I", .fieldLink RX7 44 "HeatBenchModel" "high" "[I", .fieldLink RX7 47 "HeatBenchModel" "was" "[I", .methodLink RX7 158 yX7_isDay, .instanceMethod yX7_isDay, .selects RX7 yX7_isDay yX7_isDay, .initialized RX7, .code yX7_isDay cX7_isDay 2 (some .boolean), .fieldLink RX7 38 "HeatBenchModel" "days" "I", .methodLink RX7 82 yX7_in, .static yX7_in, .code yX7_in cX7_in 3 (some .boolean)] ++ wsX70)
def wsX7_findWorths : List Cond := .code yX7_findWorths cX7_findWorths 10 none :: ([.fieldLink RX7 72 "HeatBenchModel" "below" "[J", .fieldLink RX7 38 "HeatBenchModel" "days" "I", .fieldLink RX7 68 "HeatBenchModel" "sums" "[J", .fieldLink RX7 44 "HeatBenchModel" "high" "[I", .fieldLink RX7 41 "HeatBenchModel" "low" "[I", .constantLong RX7 161 (-1)] ++ wsX70)
def wsX7_worth : List Cond := .code yX7_worth cX7_worth 8 (some .long) :: ([.fieldLink RX7 38 "HeatBenchModel" "days" "I", .constantLong RX7 163 (-9), .constantLong RX7 165 (-4), .fieldLink RX7 68 "HeatBenchModel" "sums" "[J", .fieldLink RX7 72 "HeatBenchModel" "below" "[J", .methodLink RX7 82 yX7_in, .static yX7_in, .initialized RX7, .code yX7_in cX7_in 3 (some .boolean), .methodLink RX7 167 yX7_findWorths, .instanceMethod yX7_findWorths, .selects RX7 yX7_findWorths yX7_findWorths, .code yX7_findWorths cX7_findWorths 10 none, .fieldLink RX7 44 "HeatBenchModel" "high" "[I", .fieldLink RX7 41 "HeatBenchModel" "low" "[I", .constantLong RX7 161 (-1), .methodLink RX7 148 yX7_common, .static yX7_common, .code yX7_common cX7_common 10 (some .long)] ++ wsX70)
def wsX7_isCalled : List Cond := .code yX7_isCalled cX7_isCalled 4 (some .boolean) :: ([.fieldLink RX7 38 "HeatBenchModel" "days" "I", .fieldLink RX7 72 "HeatBenchModel" "below" "[J", .fieldLink RX7 68 "HeatBenchModel" "sums" "[J"] ++ wsX70)
def wsX7_call : List Cond := .code yX7_call cX7_call 4 (some .int) :: ([.fieldLink RX7 38 "HeatBenchModel" "days" "I", .methodLink RX7 158 yX7_isDay, .instanceMethod yX7_isDay, .selects RX7 yX7_isDay yX7_isDay, .initialized RX7, .code yX7_isDay cX7_isDay 2 (some .boolean), .methodLink RX7 82 yX7_in, .static yX7_in, .code yX7_in cX7_in 3 (some .boolean), .methodLink RX7 167 yX7_findWorths, .instanceMethod yX7_findWorths, .selects RX7 yX7_findWorths yX7_findWorths, .code yX7_findWorths cX7_findWorths 10 none, .fieldLink RX7 72 "HeatBenchModel" "below" "[J", .fieldLink RX7 68 "HeatBenchModel" "sums" "[J", .fieldLink RX7 44 "HeatBenchModel" "high" "[I", .fieldLink RX7 41 "HeatBenchModel" "low" "[I", .constantLong RX7 161 (-1), .methodLink RX7 170 yX7_isCalled, .instanceMethod yX7_isCalled, .selects RX7 yX7_isCalled yX7_isCalled, .code yX7_isCalled cX7_isCalled 4 (some .boolean)] ++ wsX70)
def wsX7_run : List Cond := .code yX7_run cX7_run 7 (some .int) :: ([.fieldLink RX7 38 "HeatBenchModel" "days" "I", .fieldLink RX7 47 "HeatBenchModel" "was" "[I", .methodLink RX7 82 yX7_in, .static yX7_in, .initialized RX7, .code yX7_in cX7_in 3 (some .boolean), .methodLink RX7 167 yX7_findWorths, .instanceMethod yX7_findWorths, .selects RX7 yX7_findWorths yX7_findWorths, .code yX7_findWorths cX7_findWorths 10 none, .fieldLink RX7 72 "HeatBenchModel" "below" "[J", .fieldLink RX7 68 "HeatBenchModel" "sums" "[J", .fieldLink RX7 44 "HeatBenchModel" "high" "[I", .fieldLink RX7 41 "HeatBenchModel" "low" "[I", .constantLong RX7 161 (-1), .methodLink RX7 170 yX7_isCalled, .instanceMethod yX7_isCalled, .selects RX7 yX7_isCalled yX7_isCalled, .code yX7_isCalled cX7_isCalled 4 (some .boolean)] ++ wsX70)
def wsX7_known : List Cond := .code yX7_known cX7_known 3 (some .int) :: ([.fieldLink RX7 38 "HeatBenchModel" "days" "I", .fieldLink RX7 47 "HeatBenchModel" "was" "[I"] ++ wsX70)
def wsX7_behind : List Cond := .code yX7_behind cX7_behind 6 (some .int) :: ([.fieldLink RX7 38 "HeatBenchModel" "days" "I", .fieldLink RX7 47 "HeatBenchModel" "was" "[I", .methodLink RX7 82 yX7_in, .static yX7_in, .initialized RX7, .code yX7_in cX7_in 3 (some .boolean), .methodLink RX7 173 yX7_known, .instanceMethod yX7_known, .selects RX7 yX7_known yX7_known, .code yX7_known cX7_known 3 (some .int)] ++ wsX70)
def wsX7_many : List Cond := .code yX7_many cX7_many 2 (some .int) :: ([.fieldLink RX7 7 "HeatBenchModel" "riders" "I", .fieldLink RX7 86 "HeatBenchModel" "rides" "I", .fieldLink RX7 23 "HeatBenchModel" "lineMany" "I", .fieldLink RX7 145 "HeatBenchModel" "pastMany" "I", .fieldLink RX7 38 "HeatBenchModel" "days" "I", .fieldLink RX7 29 "HeatBenchModel" "interfered" "[I", .methodLink RX7 173 yX7_known, .instanceMethod yX7_known, .selects RX7 yX7_known yX7_known, .initialized RX7, .code yX7_known cX7_known 3 (some .int), .fieldLink RX7 47 "HeatBenchModel" "was" "[I"] ++ wsX70)
def wsJ9_max_7cf53 : List Cond := .code yJ9_max_7cf53 cJ9_max_7cf53 2 (some .int) :: ([])
def wsJ9_min_7cf53 : List Cond := .code yJ9_min_7cf53 cJ9_min_7cf53 2 (some .int) :: ([])
abbrev vwCl : List vw_C := [(RX0, TX0, 4), (RX1, TX1, 11), (RX2, TX2, 2), (RX3, TX3, 2), (RX4, TX4, 6), (RX5, TX5, 4), (RX6, TX6, 3), (RX7, TX7, 26)]

