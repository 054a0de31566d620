/-! ===== the first memory of the law ===== -/
theorem somU {x : Option Unit} (h : x.isSome = true) : x = some () := by
  cases x with
  | none => cases h
  | some v => rfl
theorem gDd {α : Type} (l : List α) (d : α) {k : Nat} (h : l.length ≤ k) : l.getD k d = d := by
  rw [List.getD_eq_getElem?_getD, List.getElem?_eq_none h]
  rfl
theorem y_law (xs : Nat → Int32) (L : Nat) : fL_law xs L = fL_18L xs L zFU yD 0 279 0 := by
  have e1 : zno Z0 8 320 = some yA := som y_1
  have e2 : fX8_init yA 0 = some yB := som y_2
  have e3 : zcg yA yB 278 320 = some () := somU y_3.1
  have e4 : zno yB 9 320 = some yC := som y_3.2.2
  have e5 : fX9_init yC 279 = some yD := som y_4
  have e6 : zcg yC yD 40 320 = some () := somU y_5.1
  unfold fL_law
  rw [show Z0.1 = 0 from rfl, e1, Option.bind_some, e2, Option.bind_some, e3, Option.bind_some, e4, Option.bind_some, y_3.2.1, e5, Option.bind_some, e6, Option.bind_some]
theorem y_O : zO yD := by
  refine ⟨y_5.2, fun a k t h => ?_⟩
  have hk : a < 320 ∧ k < 60 := by
    unfold zR at h
    by_cases ha : a < 320
    · refine ⟨ha, ?_⟩
      rcases Nat.lt_or_ge k 60 with w | w
      · exact w
      · have hl := y_RL.2 a ha
        rw [gDd _ _ (show (zRL.getD a []).length ≤ k by omega)] at h
        cases h
    · rw [gDd zRL _ (by have := y_RL.1; omega)] at h
      rw [gDd ([] : List (Option Nat)) _ (Nat.zero_le _)] at h
      cases h
  rcases y_R a hk.1 k hk.2 with z | z
  · rw [z] at h; cases h
  · rw [z]; exact h
theorem y_inv : Inv yD := by
  obtain ⟨i1, i2, i3, i4, i5, i6, i7, i8, i9, i10, i11⟩ := y_I
  refine ⟨y_O, ⟨0, by omega, i1, i2, fun i hi => absurd hi (by omega)⟩, ⟨0, fun i => 167 + 2 * i, fun _ => (0, fun _ => 0), fun _ => (0, fun _ => 0), by omega, i3, i4, fun i hi => ⟨y_E i hi, i, hi, rfl⟩, fun i j _ _ hne => by dsimp only; omega, fun i hi => absurd hi (by omega), fun i hi => absurd hi (by omega), fun i hi => absurd hi (by omega), fun i hi => absurd hi (by omega), fun i j _ hj => absurd hj (by omega), fun i j _ hj => absurd hj (by omega)⟩, fun k hk p hp => ?_, fun i => (yD.2.1 4 i).toNatClampNeg, 0, fun _ => 0, fun i hi => ?_, fun i hi => ?_, ⟨i5, by omega, fun t ht => absurd ht (by omega)⟩, ⟨i6, by omega, fun t ht => absurd ht (by omega)⟩, fun k hk => ?_, ⟨0, 0, 0, fun _ => (0, 0, 0, fun _ => 0), fun _ => 0, by omega, by omega, i7, i8, i9, i10, i11, rfl, fun i hi => absurd hi (by omega), fun i hi => absurd hi (by omega), fun i hi => absurd hi (by omega), fun i hi => absurd hi (by omega)⟩⟩
  · obtain ⟨u1, u2, u3, u4⟩ := y_U k hk p hp
    exact ⟨⟨_, _, u1, u2, Or.inl ⟨rfl, rfl⟩⟩, 0, by omega, u3, u4, fun i hi => absurd hi (by omega), fun z => absurd z (by omega)⟩
  · obtain ⟨c1, c2, c3⟩ := y_C i hi
    exact ⟨c3, c2⟩
  · obtain ⟨c1, c2, c3⟩ := y_C i hi
    exact ⟨c3, by rw [c1]; exact c2⟩
  · obtain ⟨k1, k2, k3, k4⟩ := y_K k hk
    refine ⟨0, fun _ => 0, 0, ⟨rfl, fun i hi => absurd hi (by omega), rfl, fun j hj => absurd hj (by omega), fun x hx => absurd hx (by omega)⟩, ⟨k1, fun i hi => ?_⟩, k3, k4⟩
    rw [show i = 0 by omega]
    exact k2
