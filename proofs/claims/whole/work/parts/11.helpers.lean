/-! own helpers: the pure functions' steps, and rows for the walk -/
theorem it_t {α : Type} {c : Prop} [Decidable c] {a b : Option α} {r : α} (h : c) (hf : (if c then a else b) = some r) : a = some r := by rw [if_pos h] at hf; exact hf
theorem it_f {α : Type} {c : Prop} [Decidable c] {a b : Option α} {r : α} (h : ¬ c) (hf : (if c then a else b) = some r) : b = some r := by rw [if_neg h] at hf; exact hf
theorem it_n {α : Type} {c : Prop} [Decidable c] {a : Option α} {r : α} (hf : (if c then none else a) = some r) : ¬ c ∧ a = some r := by
  by_cases h : c
  · rw [if_pos h] at hf; cases hf
  · rw [if_neg h] at hf; exact ⟨h, hf⟩
theorem it_y {α : Type} {c : Prop} [Decidable c] {a : Option α} {r : α} (hf : (if c then a else none) = some r) : c ∧ a = some r := by
  by_cases h : c
  · rw [if_pos h] at hf; exact ⟨h, hf⟩
  · rw [if_neg h] at hf; cases hf
def ob1 {A1 R : Type} (o : Option (A1)) (g : A1 → Option R) : Option R := match o with
  | none => none
  | some u => g u
theorem it_b1 {A1 R : Type} {o : Option (A1)} {g : A1 → Option R} {r : R} (hf : ob1 o g = some r) : ∃ a1, o = some a1 ∧ g a1 = some r := by
  cases o with
  | none => cases hf
  | some u => exact ⟨u, rfl, hf⟩
theorem ob1_some {A1 R : Type} (a1 : A1) (g : A1 → Option R) : ob1 (some a1) g = g a1 := rfl
def ob2 {A1 A2 R : Type} (o : Option (A1 × A2)) (g : A1 → A2 → Option R) : Option R := match o with
  | none => none
  | some u => g u.1 u.2
theorem it_b2 {A1 A2 R : Type} {o : Option (A1 × A2)} {g : A1 → A2 → Option R} {r : R} (hf : ob2 o g = some r) : ∃ a1 a2, o = some (a1, a2) ∧ g a1 a2 = some r := by
  cases o with
  | none => cases hf
  | some u => exact ⟨u.1, u.2, rfl, hf⟩
theorem ob2_some {A1 A2 R : Type} (a1 : A1) (a2 : A2) (g : A1 → A2 → Option R) : ob2 (some (a1, a2)) g = g a1 a2 := rfl
def ob3 {A1 A2 A3 R : Type} (o : Option (A1 × A2 × A3)) (g : A1 → A2 → A3 → Option R) : Option R := match o with
  | none => none
  | some u => g u.1 u.2.1 u.2.2
theorem it_b3 {A1 A2 A3 R : Type} {o : Option (A1 × A2 × A3)} {g : A1 → A2 → A3 → Option R} {r : R} (hf : ob3 o g = some r) : ∃ a1 a2 a3, o = some (a1, a2, a3) ∧ g a1 a2 a3 = some r := by
  cases o with
  | none => cases hf
  | some u => exact ⟨u.1, u.2.1, u.2.2, rfl, hf⟩
theorem ob3_some {A1 A2 A3 R : Type} (a1 : A1) (a2 : A2) (a3 : A3) (g : A1 → A2 → A3 → Option R) : ob3 (some (a1, a2, a3)) g = g a1 a2 a3 := rfl
def ob4 {A1 A2 A3 A4 R : Type} (o : Option (A1 × A2 × A3 × A4)) (g : A1 → A2 → A3 → A4 → Option R) : Option R := match o with
  | none => none
  | some u => g u.1 u.2.1 u.2.2.1 u.2.2.2
theorem it_b4 {A1 A2 A3 A4 R : Type} {o : Option (A1 × A2 × A3 × A4)} {g : A1 → A2 → A3 → A4 → Option R} {r : R} (hf : ob4 o g = some r) : ∃ a1 a2 a3 a4, o = some (a1, a2, a3, a4) ∧ g a1 a2 a3 a4 = some r := by
  cases o with
  | none => cases hf
  | some u => exact ⟨u.1, u.2.1, u.2.2.1, u.2.2.2, rfl, hf⟩
theorem ob4_some {A1 A2 A3 A4 R : Type} (a1 : A1) (a2 : A2) (a3 : A3) (a4 : A4) (g : A1 → A2 → A3 → A4 → Option R) : ob4 (some (a1, a2, a3, a4)) g = g a1 a2 a3 a4 := rfl
def ob5 {A1 A2 A3 A4 A5 R : Type} (o : Option (A1 × A2 × A3 × A4 × A5)) (g : A1 → A2 → A3 → A4 → A5 → Option R) : Option R := match o with
  | none => none
  | some u => g u.1 u.2.1 u.2.2.1 u.2.2.2.1 u.2.2.2.2
theorem it_b5 {A1 A2 A3 A4 A5 R : Type} {o : Option (A1 × A2 × A3 × A4 × A5)} {g : A1 → A2 → A3 → A4 → A5 → Option R} {r : R} (hf : ob5 o g = some r) : ∃ a1 a2 a3 a4 a5, o = some (a1, a2, a3, a4, a5) ∧ g a1 a2 a3 a4 a5 = some r := by
  cases o with
  | none => cases hf
  | some u => exact ⟨u.1, u.2.1, u.2.2.1, u.2.2.2.1, u.2.2.2.2, rfl, hf⟩
theorem ob5_some {A1 A2 A3 A4 A5 R : Type} (a1 : A1) (a2 : A2) (a3 : A3) (a4 : A4) (a5 : A5) (g : A1 → A2 → A3 → A4 → A5 → Option R) : ob5 (some (a1, a2, a3, a4, a5)) g = g a1 a2 a3 a4 a5 := rfl
def ob6 {A1 A2 A3 A4 A5 A6 R : Type} (o : Option (A1 × A2 × A3 × A4 × A5 × A6)) (g : A1 → A2 → A3 → A4 → A5 → A6 → Option R) : Option R := match o with
  | none => none
  | some u => g u.1 u.2.1 u.2.2.1 u.2.2.2.1 u.2.2.2.2.1 u.2.2.2.2.2
theorem it_b6 {A1 A2 A3 A4 A5 A6 R : Type} {o : Option (A1 × A2 × A3 × A4 × A5 × A6)} {g : A1 → A2 → A3 → A4 → A5 → A6 → Option R} {r : R} (hf : ob6 o g = some r) : ∃ a1 a2 a3 a4 a5 a6, o = some (a1, a2, a3, a4, a5, a6) ∧ g a1 a2 a3 a4 a5 a6 = some r := by
  cases o with
  | none => cases hf
  | some u => exact ⟨u.1, u.2.1, u.2.2.1, u.2.2.2.1, u.2.2.2.2.1, u.2.2.2.2.2, rfl, hf⟩
theorem ob6_some {A1 A2 A3 A4 A5 A6 R : Type} (a1 : A1) (a2 : A2) (a3 : A3) (a4 : A4) (a5 : A5) (a6 : A6) (g : A1 → A2 → A3 → A4 → A5 → A6 → Option R) : ob6 (some (a1, a2, a3, a4, a5, a6)) g = g a1 a2 a3 a4 a5 a6 := rfl
def ob7 {A1 A2 A3 A4 A5 A6 A7 R : Type} (o : Option (A1 × A2 × A3 × A4 × A5 × A6 × A7)) (g : A1 → A2 → A3 → A4 → A5 → A6 → A7 → Option R) : Option R := match o with
  | none => none
  | some u => g u.1 u.2.1 u.2.2.1 u.2.2.2.1 u.2.2.2.2.1 u.2.2.2.2.2.1 u.2.2.2.2.2.2
theorem it_b7 {A1 A2 A3 A4 A5 A6 A7 R : Type} {o : Option (A1 × A2 × A3 × A4 × A5 × A6 × A7)} {g : A1 → A2 → A3 → A4 → A5 → A6 → A7 → Option R} {r : R} (hf : ob7 o g = some r) : ∃ a1 a2 a3 a4 a5 a6 a7, o = some (a1, a2, a3, a4, a5, a6, a7) ∧ g a1 a2 a3 a4 a5 a6 a7 = some r := by
  cases o with
  | none => cases hf
  | some u => exact ⟨u.1, u.2.1, u.2.2.1, u.2.2.2.1, u.2.2.2.2.1, u.2.2.2.2.2.1, u.2.2.2.2.2.2, rfl, hf⟩
theorem ob7_some {A1 A2 A3 A4 A5 A6 A7 R : Type} (a1 : A1) (a2 : A2) (a3 : A3) (a4 : A4) (a5 : A5) (a6 : A6) (a7 : A7) (g : A1 → A2 → A3 → A4 → A5 → A6 → A7 → Option R) : ob7 (some (a1, a2, a3, a4, a5, a6, a7)) g = g a1 a2 a3 a4 a5 a6 a7 := rfl
def ob8 {A1 A2 A3 A4 A5 A6 A7 A8 R : Type} (o : Option (A1 × A2 × A3 × A4 × A5 × A6 × A7 × A8)) (g : A1 → A2 → A3 → A4 → A5 → A6 → A7 → A8 → Option R) : Option R := match o with
  | none => none
  | some u => g u.1 u.2.1 u.2.2.1 u.2.2.2.1 u.2.2.2.2.1 u.2.2.2.2.2.1 u.2.2.2.2.2.2.1 u.2.2.2.2.2.2.2
theorem it_b8 {A1 A2 A3 A4 A5 A6 A7 A8 R : Type} {o : Option (A1 × A2 × A3 × A4 × A5 × A6 × A7 × A8)} {g : A1 → A2 → A3 → A4 → A5 → A6 → A7 → A8 → Option R} {r : R} (hf : ob8 o g = some r) : ∃ a1 a2 a3 a4 a5 a6 a7 a8, o = some (a1, a2, a3, a4, a5, a6, a7, a8) ∧ g a1 a2 a3 a4 a5 a6 a7 a8 = some r := by
  cases o with
  | none => cases hf
  | some u => exact ⟨u.1, u.2.1, u.2.2.1, u.2.2.2.1, u.2.2.2.2.1, u.2.2.2.2.2.1, u.2.2.2.2.2.2.1, u.2.2.2.2.2.2.2, rfl, hf⟩
theorem ob8_some {A1 A2 A3 A4 A5 A6 A7 A8 R : Type} (a1 : A1) (a2 : A2) (a3 : A3) (a4 : A4) (a5 : A5) (a6 : A6) (a7 : A7) (a8 : A8) (g : A1 → A2 → A3 → A4 → A5 → A6 → A7 → A8 → Option R) : ob8 (some (a1, a2, a3, a4, a5, a6, a7, a8)) g = g a1 a2 a3 a4 a5 a6 a7 a8 := rfl
def ob9 {A1 A2 A3 A4 A5 A6 A7 A8 A9 R : Type} (o : Option (A1 × A2 × A3 × A4 × A5 × A6 × A7 × A8 × A9)) (g : A1 → A2 → A3 → A4 → A5 → A6 → A7 → A8 → A9 → Option R) : Option R := match o with
  | none => none
  | some u => g u.1 u.2.1 u.2.2.1 u.2.2.2.1 u.2.2.2.2.1 u.2.2.2.2.2.1 u.2.2.2.2.2.2.1 u.2.2.2.2.2.2.2.1 u.2.2.2.2.2.2.2.2
theorem it_b9 {A1 A2 A3 A4 A5 A6 A7 A8 A9 R : Type} {o : Option (A1 × A2 × A3 × A4 × A5 × A6 × A7 × A8 × A9)} {g : A1 → A2 → A3 → A4 → A5 → A6 → A7 → A8 → A9 → Option R} {r : R} (hf : ob9 o g = some r) : ∃ a1 a2 a3 a4 a5 a6 a7 a8 a9, o = some (a1, a2, a3, a4, a5, a6, a7, a8, a9) ∧ g a1 a2 a3 a4 a5 a6 a7 a8 a9 = some r := by
  cases o with
  | none => cases hf
  | some u => exact ⟨u.1, u.2.1, u.2.2.1, u.2.2.2.1, u.2.2.2.2.1, u.2.2.2.2.2.1, u.2.2.2.2.2.2.1, u.2.2.2.2.2.2.2.1, u.2.2.2.2.2.2.2.2, rfl, hf⟩
theorem ob9_some {A1 A2 A3 A4 A5 A6 A7 A8 A9 R : Type} (a1 : A1) (a2 : A2) (a3 : A3) (a4 : A4) (a5 : A5) (a6 : A6) (a7 : A7) (a8 : A8) (a9 : A9) (g : A1 → A2 → A3 → A4 → A5 → A6 → A7 → A8 → A9 → Option R) : ob9 (some (a1, a2, a3, a4, a5, a6, a7, a8, a9)) g = g a1 a2 a3 a4 a5 a6 a7 a8 a9 := rfl
def ob10 {A1 A2 A3 A4 A5 A6 A7 A8 A9 A10 R : Type} (o : Option (A1 × A2 × A3 × A4 × A5 × A6 × A7 × A8 × A9 × A10)) (g : A1 → A2 → A3 → A4 → A5 → A6 → A7 → A8 → A9 → A10 → Option R) : Option R := match o with
  | none => none
  | some u => g u.1 u.2.1 u.2.2.1 u.2.2.2.1 u.2.2.2.2.1 u.2.2.2.2.2.1 u.2.2.2.2.2.2.1 u.2.2.2.2.2.2.2.1 u.2.2.2.2.2.2.2.2.1 u.2.2.2.2.2.2.2.2.2
theorem it_b10 {A1 A2 A3 A4 A5 A6 A7 A8 A9 A10 R : Type} {o : Option (A1 × A2 × A3 × A4 × A5 × A6 × A7 × A8 × A9 × A10)} {g : A1 → A2 → A3 → A4 → A5 → A6 → A7 → A8 → A9 → A10 → Option R} {r : R} (hf : ob10 o g = some r) : ∃ a1 a2 a3 a4 a5 a6 a7 a8 a9 a10, o = some (a1, a2, a3, a4, a5, a6, a7, a8, a9, a10) ∧ g a1 a2 a3 a4 a5 a6 a7 a8 a9 a10 = some r := by
  cases o with
  | none => cases hf
  | some u => exact ⟨u.1, u.2.1, u.2.2.1, u.2.2.2.1, u.2.2.2.2.1, u.2.2.2.2.2.1, u.2.2.2.2.2.2.1, u.2.2.2.2.2.2.2.1, u.2.2.2.2.2.2.2.2.1, u.2.2.2.2.2.2.2.2.2, rfl, hf⟩
theorem ob10_some {A1 A2 A3 A4 A5 A6 A7 A8 A9 A10 R : Type} (a1 : A1) (a2 : A2) (a3 : A3) (a4 : A4) (a5 : A5) (a6 : A6) (a7 : A7) (a8 : A8) (a9 : A9) (a10 : A10) (g : A1 → A2 → A3 → A4 → A5 → A6 → A7 → A8 → A9 → A10 → Option R) : ob10 (some (a1, a2, a3, a4, a5, a6, a7, a8, a9, a10)) g = g a1 a2 a3 a4 a5 a6 a7 a8 a9 a10 := rfl
def ob11 {A1 A2 A3 A4 A5 A6 A7 A8 A9 A10 A11 R : Type} (o : Option (A1 × A2 × A3 × A4 × A5 × A6 × A7 × A8 × A9 × A10 × A11)) (g : A1 → A2 → A3 → A4 → A5 → A6 → A7 → A8 → A9 → A10 → A11 → Option R) : Option R := match o with
  | none => none
  | some u => g u.1 u.2.1 u.2.2.1 u.2.2.2.1 u.2.2.2.2.1 u.2.2.2.2.2.1 u.2.2.2.2.2.2.1 u.2.2.2.2.2.2.2.1 u.2.2.2.2.2.2.2.2.1 u.2.2.2.2.2.2.2.2.2.1 u.2.2.2.2.2.2.2.2.2.2
theorem it_b11 {A1 A2 A3 A4 A5 A6 A7 A8 A9 A10 A11 R : Type} {o : Option (A1 × A2 × A3 × A4 × A5 × A6 × A7 × A8 × A9 × A10 × A11)} {g : A1 → A2 → A3 → A4 → A5 → A6 → A7 → A8 → A9 → A10 → A11 → Option R} {r : R} (hf : ob11 o g = some r) : ∃ a1 a2 a3 a4 a5 a6 a7 a8 a9 a10 a11, o = some (a1, a2, a3, a4, a5, a6, a7, a8, a9, a10, a11) ∧ g a1 a2 a3 a4 a5 a6 a7 a8 a9 a10 a11 = some r := by
  cases o with
  | none => cases hf
  | some u => exact ⟨u.1, u.2.1, u.2.2.1, u.2.2.2.1, u.2.2.2.2.1, u.2.2.2.2.2.1, u.2.2.2.2.2.2.1, u.2.2.2.2.2.2.2.1, u.2.2.2.2.2.2.2.2.1, u.2.2.2.2.2.2.2.2.2.1, u.2.2.2.2.2.2.2.2.2.2, rfl, hf⟩
theorem ob11_some {A1 A2 A3 A4 A5 A6 A7 A8 A9 A10 A11 R : Type} (a1 : A1) (a2 : A2) (a3 : A3) (a4 : A4) (a5 : A5) (a6 : A6) (a7 : A7) (a8 : A8) (a9 : A9) (a10 : A10) (a11 : A11) (g : A1 → A2 → A3 → A4 → A5 → A6 → A7 → A8 → A9 → A10 → A11 → Option R) : ob11 (some (a1, a2, a3, a4, a5, a6, a7, a8, a9, a10, a11)) g = g a1 a2 a3 a4 a5 a6 a7 a8 a9 a10 a11 := rfl
def ob12 {A1 A2 A3 A4 A5 A6 A7 A8 A9 A10 A11 A12 R : Type} (o : Option (A1 × A2 × A3 × A4 × A5 × A6 × A7 × A8 × A9 × A10 × A11 × A12)) (g : A1 → A2 → A3 → A4 → A5 → A6 → A7 → A8 → A9 → A10 → A11 → A12 → Option R) : Option R := match o with
  | none => none
  | some u => g u.1 u.2.1 u.2.2.1 u.2.2.2.1 u.2.2.2.2.1 u.2.2.2.2.2.1 u.2.2.2.2.2.2.1 u.2.2.2.2.2.2.2.1 u.2.2.2.2.2.2.2.2.1 u.2.2.2.2.2.2.2.2.2.1 u.2.2.2.2.2.2.2.2.2.2.1 u.2.2.2.2.2.2.2.2.2.2.2
theorem it_b12 {A1 A2 A3 A4 A5 A6 A7 A8 A9 A10 A11 A12 R : Type} {o : Option (A1 × A2 × A3 × A4 × A5 × A6 × A7 × A8 × A9 × A10 × A11 × A12)} {g : A1 → A2 → A3 → A4 → A5 → A6 → A7 → A8 → A9 → A10 → A11 → A12 → Option R} {r : R} (hf : ob12 o g = some r) : ∃ a1 a2 a3 a4 a5 a6 a7 a8 a9 a10 a11 a12, o = some (a1, a2, a3, a4, a5, a6, a7, a8, a9, a10, a11, a12) ∧ g a1 a2 a3 a4 a5 a6 a7 a8 a9 a10 a11 a12 = some r := by
  cases o with
  | none => cases hf
  | some u => exact ⟨u.1, u.2.1, u.2.2.1, u.2.2.2.1, u.2.2.2.2.1, u.2.2.2.2.2.1, u.2.2.2.2.2.2.1, u.2.2.2.2.2.2.2.1, u.2.2.2.2.2.2.2.2.1, u.2.2.2.2.2.2.2.2.2.1, u.2.2.2.2.2.2.2.2.2.2.1, u.2.2.2.2.2.2.2.2.2.2.2, rfl, hf⟩
theorem ob12_some {A1 A2 A3 A4 A5 A6 A7 A8 A9 A10 A11 A12 R : Type} (a1 : A1) (a2 : A2) (a3 : A3) (a4 : A4) (a5 : A5) (a6 : A6) (a7 : A7) (a8 : A8) (a9 : A9) (a10 : A10) (a11 : A11) (a12 : A12) (g : A1 → A2 → A3 → A4 → A5 → A6 → A7 → A8 → A9 → A10 → A11 → A12 → Option R) : ob12 (some (a1, a2, a3, a4, a5, a6, a7, a8, a9, a10, a11, a12)) g = g a1 a2 a3 a4 a5 a6 a7 a8 a9 a10 a11 a12 := rfl
def ob13 {A1 A2 A3 A4 A5 A6 A7 A8 A9 A10 A11 A12 A13 R : Type} (o : Option (A1 × A2 × A3 × A4 × A5 × A6 × A7 × A8 × A9 × A10 × A11 × A12 × A13)) (g : A1 → A2 → A3 → A4 → A5 → A6 → A7 → A8 → A9 → A10 → A11 → A12 → A13 → Option R) : Option R := match o with
  | none => none
  | some u => g u.1 u.2.1 u.2.2.1 u.2.2.2.1 u.2.2.2.2.1 u.2.2.2.2.2.1 u.2.2.2.2.2.2.1 u.2.2.2.2.2.2.2.1 u.2.2.2.2.2.2.2.2.1 u.2.2.2.2.2.2.2.2.2.1 u.2.2.2.2.2.2.2.2.2.2.1 u.2.2.2.2.2.2.2.2.2.2.2.1 u.2.2.2.2.2.2.2.2.2.2.2.2
theorem it_b13 {A1 A2 A3 A4 A5 A6 A7 A8 A9 A10 A11 A12 A13 R : Type} {o : Option (A1 × A2 × A3 × A4 × A5 × A6 × A7 × A8 × A9 × A10 × A11 × A12 × A13)} {g : A1 → A2 → A3 → A4 → A5 → A6 → A7 → A8 → A9 → A10 → A11 → A12 → A13 → Option R} {r : R} (hf : ob13 o g = some r) : ∃ a1 a2 a3 a4 a5 a6 a7 a8 a9 a10 a11 a12 a13, o = some (a1, a2, a3, a4, a5, a6, a7, a8, a9, a10, a11, a12, a13) ∧ g a1 a2 a3 a4 a5 a6 a7 a8 a9 a10 a11 a12 a13 = some r := by
  cases o with
  | none => cases hf
  | some u => exact ⟨u.1, u.2.1, u.2.2.1, u.2.2.2.1, u.2.2.2.2.1, u.2.2.2.2.2.1, u.2.2.2.2.2.2.1, u.2.2.2.2.2.2.2.1, u.2.2.2.2.2.2.2.2.1, u.2.2.2.2.2.2.2.2.2.1, u.2.2.2.2.2.2.2.2.2.2.1, u.2.2.2.2.2.2.2.2.2.2.2.1, u.2.2.2.2.2.2.2.2.2.2.2.2, rfl, hf⟩
theorem ob13_some {A1 A2 A3 A4 A5 A6 A7 A8 A9 A10 A11 A12 A13 R : Type} (a1 : A1) (a2 : A2) (a3 : A3) (a4 : A4) (a5 : A5) (a6 : A6) (a7 : A7) (a8 : A8) (a9 : A9) (a10 : A10) (a11 : A11) (a12 : A12) (a13 : A13) (g : A1 → A2 → A3 → A4 → A5 → A6 → A7 → A8 → A9 → A10 → A11 → A12 → A13 → Option R) : ob13 (some (a1, a2, a3, a4, a5, a6, a7, a8, a9, a10, a11, a12, a13)) g = g a1 a2 a3 a4 a5 a6 a7 a8 a9 a10 a11 a12 a13 := rfl
def ob14 {A1 A2 A3 A4 A5 A6 A7 A8 A9 A10 A11 A12 A13 A14 R : Type} (o : Option (A1 × A2 × A3 × A4 × A5 × A6 × A7 × A8 × A9 × A10 × A11 × A12 × A13 × A14)) (g : A1 → A2 → A3 → A4 → A5 → A6 → A7 → A8 → A9 → A10 → A11 → A12 → A13 → A14 → Option R) : Option R := match o with
  | none => none
  | some u => g u.1 u.2.1 u.2.2.1 u.2.2.2.1 u.2.2.2.2.1 u.2.2.2.2.2.1 u.2.2.2.2.2.2.1 u.2.2.2.2.2.2.2.1 u.2.2.2.2.2.2.2.2.1 u.2.2.2.2.2.2.2.2.2.1 u.2.2.2.2.2.2.2.2.2.2.1 u.2.2.2.2.2.2.2.2.2.2.2.1 u.2.2.2.2.2.2.2.2.2.2.2.2.1 u.2.2.2.2.2.2.2.2.2.2.2.2.2
theorem it_b14 {A1 A2 A3 A4 A5 A6 A7 A8 A9 A10 A11 A12 A13 A14 R : Type} {o : Option (A1 × A2 × A3 × A4 × A5 × A6 × A7 × A8 × A9 × A10 × A11 × A12 × A13 × A14)} {g : A1 → A2 → A3 → A4 → A5 → A6 → A7 → A8 → A9 → A10 → A11 → A12 → A13 → A14 → Option R} {r : R} (hf : ob14 o g = some r) : ∃ a1 a2 a3 a4 a5 a6 a7 a8 a9 a10 a11 a12 a13 a14, o = some (a1, a2, a3, a4, a5, a6, a7, a8, a9, a10, a11, a12, a13, a14) ∧ g a1 a2 a3 a4 a5 a6 a7 a8 a9 a10 a11 a12 a13 a14 = some r := by
  cases o with
  | none => cases hf
  | some u => exact ⟨u.1, u.2.1, u.2.2.1, u.2.2.2.1, u.2.2.2.2.1, u.2.2.2.2.2.1, u.2.2.2.2.2.2.1, u.2.2.2.2.2.2.2.1, u.2.2.2.2.2.2.2.2.1, u.2.2.2.2.2.2.2.2.2.1, u.2.2.2.2.2.2.2.2.2.2.1, u.2.2.2.2.2.2.2.2.2.2.2.1, u.2.2.2.2.2.2.2.2.2.2.2.2.1, u.2.2.2.2.2.2.2.2.2.2.2.2.2, rfl, hf⟩
theorem ob14_some {A1 A2 A3 A4 A5 A6 A7 A8 A9 A10 A11 A12 A13 A14 R : Type} (a1 : A1) (a2 : A2) (a3 : A3) (a4 : A4) (a5 : A5) (a6 : A6) (a7 : A7) (a8 : A8) (a9 : A9) (a10 : A10) (a11 : A11) (a12 : A12) (a13 : A13) (a14 : A14) (g : A1 → A2 → A3 → A4 → A5 → A6 → A7 → A8 → A9 → A10 → A11 → A12 → A13 → A14 → Option R) : ob14 (some (a1, a2, a3, a4, a5, a6, a7, a8, a9, a10, a11, a12, a13, a14)) g = g a1 a2 a3 a4 a5 a6 a7 a8 a9 a10 a11 a12 a13 a14 := rfl
def ob15 {A1 A2 A3 A4 A5 A6 A7 A8 A9 A10 A11 A12 A13 A14 A15 R : Type} (o : Option (A1 × A2 × A3 × A4 × A5 × A6 × A7 × A8 × A9 × A10 × A11 × A12 × A13 × A14 × A15)) (g : A1 → A2 → A3 → A4 → A5 → A6 → A7 → A8 → A9 → A10 → A11 → A12 → A13 → A14 → A15 → Option R) : Option R := match o with
  | none => none
  | some u => g u.1 u.2.1 u.2.2.1 u.2.2.2.1 u.2.2.2.2.1 u.2.2.2.2.2.1 u.2.2.2.2.2.2.1 u.2.2.2.2.2.2.2.1 u.2.2.2.2.2.2.2.2.1 u.2.2.2.2.2.2.2.2.2.1 u.2.2.2.2.2.2.2.2.2.2.1 u.2.2.2.2.2.2.2.2.2.2.2.1 u.2.2.2.2.2.2.2.2.2.2.2.2.1 u.2.2.2.2.2.2.2.2.2.2.2.2.2.1 u.2.2.2.2.2.2.2.2.2.2.2.2.2.2
theorem it_b15 {A1 A2 A3 A4 A5 A6 A7 A8 A9 A10 A11 A12 A13 A14 A15 R : Type} {o : Option (A1 × A2 × A3 × A4 × A5 × A6 × A7 × A8 × A9 × A10 × A11 × A12 × A13 × A14 × A15)} {g : A1 → A2 → A3 → A4 → A5 → A6 → A7 → A8 → A9 → A10 → A11 → A12 → A13 → A14 → A15 → Option R} {r : R} (hf : ob15 o g = some r) : ∃ a1 a2 a3 a4 a5 a6 a7 a8 a9 a10 a11 a12 a13 a14 a15, o = some (a1, a2, a3, a4, a5, a6, a7, a8, a9, a10, a11, a12, a13, a14, a15) ∧ g a1 a2 a3 a4 a5 a6 a7 a8 a9 a10 a11 a12 a13 a14 a15 = some r := by
  cases o with
  | none => cases hf
  | some u => exact ⟨u.1, u.2.1, u.2.2.1, u.2.2.2.1, u.2.2.2.2.1, u.2.2.2.2.2.1, u.2.2.2.2.2.2.1, u.2.2.2.2.2.2.2.1, u.2.2.2.2.2.2.2.2.1, u.2.2.2.2.2.2.2.2.2.1, u.2.2.2.2.2.2.2.2.2.2.1, u.2.2.2.2.2.2.2.2.2.2.2.1, u.2.2.2.2.2.2.2.2.2.2.2.2.1, u.2.2.2.2.2.2.2.2.2.2.2.2.2.1, u.2.2.2.2.2.2.2.2.2.2.2.2.2.2, rfl, hf⟩
theorem ob15_some {A1 A2 A3 A4 A5 A6 A7 A8 A9 A10 A11 A12 A13 A14 A15 R : Type} (a1 : A1) (a2 : A2) (a3 : A3) (a4 : A4) (a5 : A5) (a6 : A6) (a7 : A7) (a8 : A8) (a9 : A9) (a10 : A10) (a11 : A11) (a12 : A12) (a13 : A13) (a14 : A14) (a15 : A15) (g : A1 → A2 → A3 → A4 → A5 → A6 → A7 → A8 → A9 → A10 → A11 → A12 → A13 → A14 → A15 → Option R) : ob15 (some (a1, a2, a3, a4, a5, a6, a7, a8, a9, a10, a11, a12, a13, a14, a15)) g = g a1 a2 a3 a4 a5 a6 a7 a8 a9 a10 a11 a12 a13 a14 a15 := rfl
def ob16 {A1 A2 A3 A4 A5 A6 A7 A8 A9 A10 A11 A12 A13 A14 A15 A16 R : Type} (o : Option (A1 × A2 × A3 × A4 × A5 × A6 × A7 × A8 × A9 × A10 × A11 × A12 × A13 × A14 × A15 × A16)) (g : A1 → A2 → A3 → A4 → A5 → A6 → A7 → A8 → A9 → A10 → A11 → A12 → A13 → A14 → A15 → A16 → Option R) : Option R := match o with
  | none => none
  | some u => g u.1 u.2.1 u.2.2.1 u.2.2.2.1 u.2.2.2.2.1 u.2.2.2.2.2.1 u.2.2.2.2.2.2.1 u.2.2.2.2.2.2.2.1 u.2.2.2.2.2.2.2.2.1 u.2.2.2.2.2.2.2.2.2.1 u.2.2.2.2.2.2.2.2.2.2.1 u.2.2.2.2.2.2.2.2.2.2.2.1 u.2.2.2.2.2.2.2.2.2.2.2.2.1 u.2.2.2.2.2.2.2.2.2.2.2.2.2.1 u.2.2.2.2.2.2.2.2.2.2.2.2.2.2.1 u.2.2.2.2.2.2.2.2.2.2.2.2.2.2.2
theorem it_b16 {A1 A2 A3 A4 A5 A6 A7 A8 A9 A10 A11 A12 A13 A14 A15 A16 R : Type} {o : Option (A1 × A2 × A3 × A4 × A5 × A6 × A7 × A8 × A9 × A10 × A11 × A12 × A13 × A14 × A15 × A16)} {g : A1 → A2 → A3 → A4 → A5 → A6 → A7 → A8 → A9 → A10 → A11 → A12 → A13 → A14 → A15 → A16 → Option R} {r : R} (hf : ob16 o g = some r) : ∃ a1 a2 a3 a4 a5 a6 a7 a8 a9 a10 a11 a12 a13 a14 a15 a16, o = some (a1, a2, a3, a4, a5, a6, a7, a8, a9, a10, a11, a12, a13, a14, a15, a16) ∧ g a1 a2 a3 a4 a5 a6 a7 a8 a9 a10 a11 a12 a13 a14 a15 a16 = some r := by
  cases o with
  | none => cases hf
  | some u => exact ⟨u.1, u.2.1, u.2.2.1, u.2.2.2.1, u.2.2.2.2.1, u.2.2.2.2.2.1, u.2.2.2.2.2.2.1, u.2.2.2.2.2.2.2.1, u.2.2.2.2.2.2.2.2.1, u.2.2.2.2.2.2.2.2.2.1, u.2.2.2.2.2.2.2.2.2.2.1, u.2.2.2.2.2.2.2.2.2.2.2.1, u.2.2.2.2.2.2.2.2.2.2.2.2.1, u.2.2.2.2.2.2.2.2.2.2.2.2.2.1, u.2.2.2.2.2.2.2.2.2.2.2.2.2.2.1, u.2.2.2.2.2.2.2.2.2.2.2.2.2.2.2, rfl, hf⟩
theorem ob16_some {A1 A2 A3 A4 A5 A6 A7 A8 A9 A10 A11 A12 A13 A14 A15 A16 R : Type} (a1 : A1) (a2 : A2) (a3 : A3) (a4 : A4) (a5 : A5) (a6 : A6) (a7 : A7) (a8 : A8) (a9 : A9) (a10 : A10) (a11 : A11) (a12 : A12) (a13 : A13) (a14 : A14) (a15 : A15) (a16 : A16) (g : A1 → A2 → A3 → A4 → A5 → A6 → A7 → A8 → A9 → A10 → A11 → A12 → A13 → A14 → A15 → A16 → Option R) : ob16 (some (a1, a2, a3, a4, a5, a6, a7, a8, a9, a10, a11, a12, a13, a14, a15, a16)) g = g a1 a2 a3 a4 a5 a6 a7 a8 a9 a10 a11 a12 a13 a14 a15 a16 := rfl
def ob17 {A1 A2 A3 A4 A5 A6 A7 A8 A9 A10 A11 A12 A13 A14 A15 A16 A17 R : Type} (o : Option (A1 × A2 × A3 × A4 × A5 × A6 × A7 × A8 × A9 × A10 × A11 × A12 × A13 × A14 × A15 × A16 × A17)) (g : A1 → A2 → A3 → A4 → A5 → A6 → A7 → A8 → A9 → A10 → A11 → A12 → A13 → A14 → A15 → A16 → A17 → Option R) : Option R := match o with
  | none => none
  | some u => g u.1 u.2.1 u.2.2.1 u.2.2.2.1 u.2.2.2.2.1 u.2.2.2.2.2.1 u.2.2.2.2.2.2.1 u.2.2.2.2.2.2.2.1 u.2.2.2.2.2.2.2.2.1 u.2.2.2.2.2.2.2.2.2.1 u.2.2.2.2.2.2.2.2.2.2.1 u.2.2.2.2.2.2.2.2.2.2.2.1 u.2.2.2.2.2.2.2.2.2.2.2.2.1 u.2.2.2.2.2.2.2.2.2.2.2.2.2.1 u.2.2.2.2.2.2.2.2.2.2.2.2.2.2.1 u.2.2.2.2.2.2.2.2.2.2.2.2.2.2.2.1 u.2.2.2.2.2.2.2.2.2.2.2.2.2.2.2.2
theorem it_b17 {A1 A2 A3 A4 A5 A6 A7 A8 A9 A10 A11 A12 A13 A14 A15 A16 A17 R : Type} {o : Option (A1 × A2 × A3 × A4 × A5 × A6 × A7 × A8 × A9 × A10 × A11 × A12 × A13 × A14 × A15 × A16 × A17)} {g : A1 → A2 → A3 → A4 → A5 → A6 → A7 → A8 → A9 → A10 → A11 → A12 → A13 → A14 → A15 → A16 → A17 → Option R} {r : R} (hf : ob17 o g = some r) : ∃ a1 a2 a3 a4 a5 a6 a7 a8 a9 a10 a11 a12 a13 a14 a15 a16 a17, o = some (a1, a2, a3, a4, a5, a6, a7, a8, a9, a10, a11, a12, a13, a14, a15, a16, a17) ∧ g a1 a2 a3 a4 a5 a6 a7 a8 a9 a10 a11 a12 a13 a14 a15 a16 a17 = some r := by
  cases o with
  | none => cases hf
  | some u => exact ⟨u.1, u.2.1, u.2.2.1, u.2.2.2.1, u.2.2.2.2.1, u.2.2.2.2.2.1, u.2.2.2.2.2.2.1, u.2.2.2.2.2.2.2.1, u.2.2.2.2.2.2.2.2.1, u.2.2.2.2.2.2.2.2.2.1, u.2.2.2.2.2.2.2.2.2.2.1, u.2.2.2.2.2.2.2.2.2.2.2.1, u.2.2.2.2.2.2.2.2.2.2.2.2.1, u.2.2.2.2.2.2.2.2.2.2.2.2.2.1, u.2.2.2.2.2.2.2.2.2.2.2.2.2.2.1, u.2.2.2.2.2.2.2.2.2.2.2.2.2.2.2.1, u.2.2.2.2.2.2.2.2.2.2.2.2.2.2.2.2, rfl, hf⟩
theorem ob17_some {A1 A2 A3 A4 A5 A6 A7 A8 A9 A10 A11 A12 A13 A14 A15 A16 A17 R : Type} (a1 : A1) (a2 : A2) (a3 : A3) (a4 : A4) (a5 : A5) (a6 : A6) (a7 : A7) (a8 : A8) (a9 : A9) (a10 : A10) (a11 : A11) (a12 : A12) (a13 : A13) (a14 : A14) (a15 : A15) (a16 : A16) (a17 : A17) (g : A1 → A2 → A3 → A4 → A5 → A6 → A7 → A8 → A9 → A10 → A11 → A12 → A13 → A14 → A15 → A16 → A17 → Option R) : ob17 (some (a1, a2, a3, a4, a5, a6, a7, a8, a9, a10, a11, a12, a13, a14, a15, a16, a17)) g = g a1 a2 a3 a4 a5 a6 a7 a8 a9 a10 a11 a12 a13 a14 a15 a16 a17 := rfl
theorem sw_lt3 {i : Nat} (h : i < 3) : i = 0 ∨ i = 1 ∨ i = 2 := by omega
theorem sw_lt4 {i : Nat} (h : i < 4) : i = 0 ∨ i = 1 ∨ i = 2 ∨ i = 3 := by omega
theorem sw_lt6 {i : Nat} (h : i < 6) : i = 0 ∨ i = 1 ∨ i = 2 ∨ i = 3 ∨ i = 4 ∨ i = 5 := by omega
theorem sw_lt7 {i : Nat} (h : i < 7) : i = 0 ∨ i = 1 ∨ i = 2 ∨ i = 3 ∨ i = 4 ∨ i = 5 ∨ i = 6 := by omega
theorem sw_out (n : Nat) (x : Int32) (h : ∀ i : Nat, i < n → ¬ x = Int32.ofNat i) {hi : Int} (hh : hi = (n : Int) - 1 := by decide) : x.toInt < 0 ∨ hi < x.toInt := by
  by_cases hx : x < 0
  · exact Or.inl (by have := Int32.lt_iff_toInt_lt.mp hx; simpa using this)
  · obtain ⟨j, hj, rfl⟩ := nI_of hx
    refine Or.inr ?_
    rw [nI_toInt hj, hh]
    rcases Nat.lt_or_ge j n with q | q
    · exact absurd rfl (h j q)
    · omega
section VX
variable {p : Program} {l : Launch} {e : Env} {R : Room} {s : State} {m : MethodId} {args : Array Value} {below : List Frame} {meth : Method} {c : Code} {H : Heap} {locs : List Loc} {cells slots : Nat} {Q : State → Prop}
variable {cc : ByteArray} {pc : Nat} {ls : Array Slot} {rest : List Value} {D : va_G} {cl : List vw_C} {A : Nat → Prop} {a : Nat} {tys : List (ClassId × FieldType)} {ws : va_W} {H0 : Heap}
theorem vx_gen {g : JFrame} (hP : va_P D cl ws s.heap) (hS : va_S A s.heap s.heap []) (k : ∀ (H : Heap) (locs : List Loc), va_P D cl ws H → va_S A s.heap H locs → W p l e R s m args below meth c H locs cells slots Q g) : W p l e R s m args below meth c s.heap [] cells slots Q g := k s.heap [] hP hS
theorem vx_aald (hexec : p.tables.exec = Jvm.exec) (hb : c.code = cc) (hK : va_K D cl tys s) (hP : va_P D cl ws H) (q0 t0 : Nat) {cA : ClassId} {n : Nat} {ro : Nat → Nat} (ha : ws[q0]? = some (a, .inl (cA, n, .inr (.inr (.inr (.inr (fun i => if i < n then some (ro i) else none))))))) (ht : tys[t0]? = some (cA, .array .long)) {i : Int32} (hin : vp_in i n) (hdg : decode cc pc = .ok (.aaload, 1))
    (kk : W p l e R s m args below meth c H locs cells slots Q (F0 m (pc + 1) ls (.ref (ro i.toNatClampNeg) :: rest))) : W p l e R s m args below meth c H locs cells slots Q (F0 m pc ls (.int i :: .ref a :: rest)) := by
  have hlt : i.toNatClampNeg < n := Nat.not_le.mp fun q => hin (Or.inr q)
  exact W.aald (v := .ref (ro i.toNatClampNeg)) (ty := .array .long) hexec hb (hP q0 _ ha) ((hK.2 t0 _ ht).1 n (fun j => va_rf (if j < n then some (ro j) else none))) rfl (fun q => by cases q) (by show ¬ (i < 0 ∨ (arrV _ _ _).slots.size ≤ _); rw [arrV_size]; exact hin) (by show (arrV _ _ _).slots[_]? = _; rw [arrV_read _ _ hlt]; simp [hlt, va_rf]) rfl rfl hdg kk
theorem vx_lald (hexec : p.tables.exec = Jvm.exec) (hb : c.code = cc) (hK : va_K D cl tys s) (hP : va_P D cl ws H) (base t0 : Nat) {cJ : ClassId} {ro : Nat → Nat} {M : Nat → Nat → Int64} (hw : ∀ k : Nat, k < 10 → ws[base + k]? = some (ro k, .inl (cJ, 10, .inr (.inl (M k))))) (ht : tys[t0]? = some (cJ, .long)) {d i : Int32} (hr : ¬ (d < 0 ∨ 10 ≤ d.toNatClampNeg)) (hin : vp_in i 10) (hdg : decode cc pc = .ok (.laload, 1))
    (kk : W p l e R s m args below meth c H locs cells slots Q (F0 m (pc + 1) ls (.long (M d.toNatClampNeg i.toNatClampNeg) :: rest))) : W p l e R s m args below meth c H locs cells slots Q (F0 m pc ls (.int i :: .ref (ro d.toNatClampNeg) :: rest)) :=
  va_lald hexec hb hK hP (base + d.toNatClampNeg) t0 (hw _ (Nat.not_le.mp fun q => hr (Or.inr q))) ht hin hdg kk
theorem vx_last (hexec : p.tables.exec = Jvm.exec) (hb : c.code = cc) (hK : va_K D cl tys s) (hP : va_P D cl ws H) (hD : va_D A ws) (hS : va_S A H0 H locs) (base t0 : Nat) {cJ : ClassId} {ro : Nat → Nat} {M : Nat → Nat → Int64} {ws2 : Nat → va_W} (hw : ∀ k : Nat, k < 10 → ws[base + k]? = some (ro k, .inl (cJ, 10, .inr (.inl (M k))))) (ht : tys[t0]? = some (cJ, .long)) {d i : Int32} {x : Int64} (hr : ¬ (d < 0 ∨ 10 ≤ d.toNatClampNeg)) (hin : vp_in i 10) (hset : ∀ k : Nat, k < 10 → ws.set (base + k) (ro k, .inl (cJ, 10, .inr (.inl (vp_updL (M k) i.toNatClampNeg x)))) = ws2 k) (hdg : decode cc pc = .ok (.lastore, 1))
    (kk : ∀ (H1 : Heap) (locs1 : List Loc), va_P D cl (ws2 d.toNatClampNeg) H1 → va_D A (ws2 d.toNatClampNeg) → va_S A H0 H1 locs1 → W p l e R s m args below meth c H1 locs1 cells slots Q (F0 m (pc + 1) ls rest)) : W p l e R s m args below meth c H locs cells slots Q (F0 m pc ls (.long x :: .int i :: .ref (ro d.toNatClampNeg) :: rest)) := by
  have hd : d.toNatClampNeg < 10 := Nat.not_le.mp fun q => hr (Or.inr q)
  refine va_last hexec hb hK hP hD hS (base + d.toNatClampNeg) t0 (hw _ hd) ht hin hdg (fun H1 locs1 h1 h2 h3 => kk H1 locs1 ?_ ?_ h3)
  · rw [← hset _ hd]; exact h1
  · rw [← hset _ hd]; exact h2
end VX
