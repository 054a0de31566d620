/-! ===== the constructors ===== -/
def yA : Mem := (zno Z0 8 320).getD Z0
def yB : Mem := (fX8_init yA 0).getD Z0
def yC : Mem := (zno yB 9 320).getD Z0
def yD : Mem := (fX9_init yC 279).getD Z0
theorem som {α : Type} {x : Option α} {d : α} (h : x.isSome = true) : x = some (x.getD d) := by
  cases x with
  | none => cases h
  | some v => rfl
theorem y_1 : (zno Z0 8 320).isSome = true := by decide +kernel
theorem y_2 : (fX8_init yA 0).isSome = true := by decide +kernel
theorem y_3 : (zcg yA yB 278 320).isSome = true ∧ yB.1 = 279 ∧ (zno yB 9 320).isSome = true := by decide +kernel
theorem y_4 : (fX9_init yC 279).isSome = true := by decide +kernel
theorem y_5 : (zcg yC yD 40 320).isSome = true ∧ yD.1 = 320 := by decide +kernel
/-! what they leave -/
theorem y_R : ∀ a, a < 320 → ∀ k, k < 60 → (zR a k = none ∨ yD.2.2 a k = zR a k) := by decide +kernel
theorem y_RL : zRL.length = 320 ∧ ∀ a, a < 320 → (zRL.getD a []).length ≤ 60 := by decide +kernel
theorem y_I : yD.2.1 5 1 = 0 ∧ yD.2.1 279 1 = 0 ∧ yD.2.1 0 5 = 0 ∧ yD.2.1 279 49 = 0 ∧ yD.2.1 2 1 = 0 ∧ yD.2.1 279 31 = 0 ∧ yD.2.1 187 1 = 0 ∧ yD.2.1 187 2 = 0 ∧ yD.2.1 187 3 = 0 ∧ yD.2.1 279 39 = 0 ∧ yD.2.1 279 44 = 0 := by decide +kernel
theorem y_E : ∀ i, i < 10 → yD.2.2 166 i = some (167 + 2 * i) := by decide +kernel
theorem y_U : ∀ k, k < 3 → ∀ p, p < 5 → yD.2.2 (zra k p) 5 = some (zra k p + 7) ∧ yD.2.2 (zra k p) 6 = some (zra k p + 8) ∧ yD.2.1 (zra k p + 1) 1 = 0 ∧ yD.2.1 291 (5 * k + p) = 0 := by decide +kernel
theorem y_C : ∀ i, i < 95 → yD.2.1 280 (32 + i) = yD.2.1 4 i ∧ yD.2.1 4 i = nI (yD.2.1 4 i).toNatClampNeg ∧ (yD.2.1 4 i).toNatClampNeg < 12 := by decide +kernel
theorem y_K : ∀ k, k < 3 → yD.2.1 303 k = nI 1 ∧ yD.2.1 304 (101 * k + 0) = 0 ∧ yD.2.1 (8 + 48 * k) 2 = 0 ∧ yD.2.1 305 k = 0 := by decide +kernel
