/-! ===== exceptions ===== -/
/-- the word of a row -/
def rW (M : Mem) (a fr : Nat) (w : Wd) : Prop := ∀ j, j < w.1 → w.2 j < 65536 ∧ M.2.1 (a + 1) (fr + j) = nI (w.2 j)
theorem weq_sy {a b : Wd} (h : weq a b) : weq b a := ⟨h.1.symm, fun j hj => (h.2 j (by rw [h.1]; exact hj)).symm⟩
theorem weq_tr {a b c : Wd} (h : weq a b) (h' : weq b c) : weq a c := ⟨h.1.trans h'.1, fun j hj => (h.2 j hj).trans (h'.2 j (by rw [← h.1]; exact hj))⟩
theorem weq_rf (a : Wd) : weq a a := ⟨rfl, fun _ _ => rfl⟩
theorem nI_inj16 {a b : Nat} (ha : a < 65536) (hb : b < 65536) (h : nI a = nI b) : a = b := (nI_eq (by omega) (by omega)).mp h
theorem ipo_loop {M : Mem} (h : zO M) {a b fr nb : Nat} {w w' : Wd} (ha : zrow a) (hb : zrow b) (hnb : nb ≤ zsL (b + 1)) (hna : w.1 ≤ zsL (a + 1)) (e1 : M.2.1 a 1 = nI w.1) (e2 : M.2.1 b 1 = nI nb) (r1 : rW M a 0 w) (r2 : rW M b fr w') (hf : fr + w'.1 ≤ nb) (hc : ∀ i, i < nb → chr (M.2.1 (b + 1) i)) (hs : w.1 = w'.1) : ∀ d i fuel, i + d = w.1 → d < fuel → (∀ j, j < i → w.2 j = w'.2 j) →
    ∃ v, fX4_isPartOf_13L fuel M a b (nI fr) (nI i) = some (v, M) ∧ ((v = 1 ∧ weq w w') ∨ (v = 0 ∧ ¬ weq w w')) := by
  have hL1 := zsL_max (b + 1)
  have hL2 := zsL_max (a + 1)
  intro d
  induction d with
  | zero =>
    intro i fuel hd hfu hi
    obtain ⟨f, rfl⟩ : ∃ f, fuel = f + 1 := ⟨fuel - 1, by omega⟩
    show ∃ v, fX4_isPartOf_13 (fX4_isPartOf_13L f) M a b (nI fr) (nI i) = some (v, M) ∧ _
    unfold fX4_isPartOf_13
    rw [zgI_f h (by have := ha.1; omega) ha.2.1, Option.bind_some, e1, if_pos (show nI w.1 ≤ nI i by rw [nI_leN (by omega) (by omega)]; omega)]
    exact ⟨1, rfl, Or.inl ⟨rfl, hs, fun j hj => hi j (by omega)⟩⟩
  | succ d ih =>
    intro i fuel hd hfu hi
    obtain ⟨f, rfl⟩ : ∃ f, fuel = f + 1 := ⟨fuel - 1, by omega⟩
    show ∃ v, fX4_isPartOf_13 (fX4_isPartOf_13L f) M a b (nI fr) (nI i) = some (v, M) ∧ _
    unfold fX4_isPartOf_13
    obtain ⟨x1, x2⟩ := r1 i (by omega)
    obtain ⟨y1, y2⟩ := r2 i (by omega)
    have hat := at_ok h ha e1 hna (fun j hj => by have := r1 j hj; rw [Nat.zero_add] at this; rw [this.2]; exact chr_code this.1) (i := i) (by omega)
    rw [if_pos (by omega)] at hat
    rw [Nat.zero_add] at x2
    rw [x2] at hat
    have hbt := at_ok h hb e2 hnb hc (i := fr + i) (by omega)
    rw [if_pos (by omega), y2] at hbt
    rw [zgI_f h (by have := ha.1; omega) ha.2.1, Option.bind_some, e1, if_neg (show ¬ nI w.1 ≤ nI i by rw [nI_leN (by omega) (by omega)]; omega), zck_f h (by have := ha.1; omega) ha.2.1, Option.bind_some, hat, Option.bind_some]
    dsimp only
    rw [zck_f h (by have := hb.1; omega) hb.2.1, Option.bind_some, nI_add, hbt, Option.bind_some]
    dsimp only
    by_cases e : w.2 i = w'.2 i
    · rw [if_pos (by rw [e]), zlt_e, nI_1]
      exact ih (i + 1) f (by omega) (by omega) (fun j hj => by
        rcases Nat.lt_or_ge j i with w | w
        · exact hi j w
        · rw [show j = i by omega]; exact e)
    · rw [if_neg (fun z => e (nI_inj16 x1 y1 z)), zrt_0]
      exact ⟨0, rfl, Or.inr ⟨rfl, fun z => e (z.2 i (by omega))⟩⟩
theorem ipo_ok {M : Mem} (h : zO M) {a b fr nb : Nat} {w w' : Wd} (ha : zrow a) (hb : zrow b) (hnb : nb ≤ zsL (b + 1)) (hna : w.1 ≤ zsL (a + 1)) (e1 : M.2.1 a 1 = nI w.1) (e2 : M.2.1 b 1 = nI nb) (r1 : rW M a 0 w) (r2 : rW M b fr w') (hf : fr + w'.1 ≤ nb) (hc : ∀ i, i < nb → chr (M.2.1 (b + 1) i)) :
    ∃ v, fX4_isPartOf M a b (nI fr) (nI w'.1) = some (v, M) ∧ ((v = 1 ∧ weq w w') ∨ (v = 0 ∧ ¬ weq w w')) := by
  have hL1 := zsL_max (b + 1)
  have hL2 := zsL_max (a + 1)
  unfold fX4_isPartOf
  rw [zgI_f h (by have := ha.1; omega) ha.2.1, Option.bind_some, e1]
  by_cases hs : w.1 = w'.1
  · rw [if_pos (by rw [hs])]
    exact ipo_loop h ha hb hnb hna e1 e2 r1 r2 hf hc hs w.1 0 zFU (by omega) (by unfold zFU; omega) (fun j hj => absurd hj (by omega))
  · rw [if_neg (fun z => hs ((nI_eq (by omega) (by omega)).mp z)), zrt_0]
    exact ⟨0, rfl, Or.inr ⟨rfl, fun z => hs z.1⟩⟩
def eD (M : Mem) (cnt : Nat) (rr : Nat → Nat) (cw mw : Nat → Wd) : Prop := cnt ≤ 10 ∧ M.2.1 0 5 = nI cnt ∧ M.2.1 279 49 = nI cnt ∧ (∀ i, i < 10 → M.2.2 166 i = some (rr i) ∧ ∃ j, j < 10 ∧ rr i = 167 + 2 * j) ∧ (∀ i j, i < 10 → j < 10 → i ≠ j → rr i ≠ rr j) ∧ (∀ i, i < cnt → vW (cw i) ∧ M.2.1 (rr i) 1 = nI (cw i).1 ∧ ∀ j, j < (cw i).1 → M.2.1 (rr i + 1) j = nI ((cw i).2 j)) ∧ (∀ i, i < cnt → vW (mw i) ∧ M.2.1 317 i = nI (mw i).1 ∧ ∀ j, j < (mw i).1 → M.2.1 318 (8 * i + j) = nI ((mw i).2 j)) ∧ (∀ i, i < cnt → ∃ j, j < cnt ∧ weq (cw i) (mw j)) ∧ (∀ j, j < cnt → ∃ i, i < cnt ∧ weq (mw j) (cw i)) ∧ (∀ i j, i < j → j < cnt → ¬ weq (cw i) (cw j)) ∧ (∀ i j, i < j → j < cnt → ¬ weq (mw i) (mw j))
theorem zexc {j : Nat} (hj : j < 10) : zrow (167 + 2 * j) ∧ zsL (167 + 2 * j + 1) = 8 := by
  have h1 : ∀ j, j < 10 → zsK (167 + 2 * j) = 4 ∧ zR (167 + 2 * j) 0 = some (167 + 2 * j + 1) ∧ zsK (167 + 2 * j + 1) = 10 ∧ zsL (167 + 2 * j + 1) = 8 := by decide +kernel
  obtain ⟨a1, a2, a3, a4⟩ := h1 j hj
  exact ⟨⟨by omega, a1, a2, a3⟩, a4⟩
/-- the class's exceptionAt() -/
theorem exa_loop {M : Mem} (h : zO M) {cnt : Nat} {rr : Nat → Nat} {cw mw : Nat → Wd} (hE : eD M cnt rr cw mw) {b fr nb : Nat} {w' : Wd} (hb : zrow b) (hnb : nb ≤ zsL (b + 1)) (e2 : M.2.1 b 1 = nI nb) (r2 : rW M b fr w') (hf : fr + w'.1 ≤ nb) (hc : ∀ i, i < nb → chr (M.2.1 (b + 1) i)) : ∀ d i fuel, i + d = cnt → d < fuel → (∀ j, j < i → ¬ weq (cw j) w') →
    (∃ i', i' < cnt ∧ weq (cw i') w' ∧ fX8_exceptionAt_3L fuel M 0 b (nI fr) (nI w'.1) (nI i) = some (nI i', M)) ∨ ((∀ j, j < cnt → ¬ weq (cw j) w') ∧ fX8_exceptionAt_3L fuel M 0 b (nI fr) (nI w'.1) (nI i) = some (-5, M)) := by
  obtain ⟨a1, a2, a3, a4, a5, a6, -⟩ := hE
  intro d
  induction d with
  | zero =>
    intro i fuel hd hfu hi
    obtain ⟨f, rfl⟩ : ∃ f, fuel = f + 1 := ⟨fuel - 1, by omega⟩
    right
    refine ⟨fun j hj => hi j (by omega), ?_⟩
    show fX8_exceptionAt_3 (fX8_exceptionAt_3L f) M 0 b (nI fr) (nI w'.1) (nI i) = _
    unfold fX8_exceptionAt_3
    rw [zgI_f h (by decide) zk_0, Option.bind_some, a2, if_pos (show nI cnt ≤ nI i by rw [nI_leN (by omega) (by omega)]; omega)]
  | succ d ih =>
    intro i fuel hd hfu hi
    obtain ⟨f, rfl⟩ : ∃ f, fuel = f + 1 := ⟨fuel - 1, by omega⟩
    obtain ⟨v1, v2, v3⟩ := a6 i (by omega)
    obtain ⟨q1, j, q2, q3⟩ := a4 i (by omega)
    have hz := zexc q2
    rw [← q3] at hz
    obtain ⟨v, g1, g2⟩ := ipo_ok h hz.1 hb hnb (by rw [hz.2]; exact v1.2.1) v2 e2 (fun j hj => ⟨v1.2.2 j hj, by rw [Nat.zero_add]; exact v3 j hj⟩) r2 hf hc
    have step : fX8_exceptionAt_3L (f + 1) M 0 b (nI fr) (nI w'.1) (nI i) = if v = 0 then fX8_exceptionAt_3L f M 0 b (nI fr) (nI w'.1) (nI (i + 1)) else some (nI i, M) := by
      show fX8_exceptionAt_3 (fX8_exceptionAt_3L f) M 0 b (nI fr) (nI w'.1) (nI i) = _
      unfold fX8_exceptionAt_3
      rw [zgI_f h (by decide) zk_0, Option.bind_some, a2, if_neg (show ¬ nI cnt ≤ nI i by rw [nI_leN (by omega) (by omega)]; omega), gr_0_4 h, Option.bind_some, zaR_f h (by decide) zk_166 (by rw [zl_166]; omega), q1, Option.bind_some, zck_f h (by have := hz.1.1; omega) hz.1.2.1, Option.bind_some, g1, Option.bind_some]
      dsimp only
      rw [zlt_e, nI_1]
    rw [step]
    rcases g2 with ⟨rfl, g3⟩ | ⟨rfl, g3⟩
    · left
      exact ⟨i, by omega, g3, by rw [if_neg (by decide)]⟩
    · rw [if_pos rfl]
      exact ih (i + 1) f (by omega) (by omega) (fun j hj => by
        rcases Nat.lt_or_ge j i with w | w
        · exact hi j w
        · rw [show j = i by omega]; exact g3)
theorem exa_ok {M : Mem} (h : zO M) {cnt : Nat} {rr : Nat → Nat} {cw mw : Nat → Wd} (hE : eD M cnt rr cw mw) {b fr nb : Nat} {w' : Wd} (hb : zrow b) (hnb : nb ≤ zsL (b + 1)) (e2 : M.2.1 b 1 = nI nb) (r2 : rW M b fr w') (hf : fr + w'.1 ≤ nb) (hc : ∀ i, i < nb → chr (M.2.1 (b + 1) i)) :
    (∃ i', i' < cnt ∧ weq (cw i') w' ∧ fX8_exceptionAt M 0 b (nI fr) (nI w'.1) = some (nI i', M)) ∨ ((∀ j, j < cnt → ¬ weq (cw j) w') ∧ fX8_exceptionAt M 0 b (nI fr) (nI w'.1) = some (-5, M)) :=
  exa_loop h hE hb hnb e2 r2 hf hc cnt 0 zFU (by omega) (by have := hE.1; unfold zFU; omega) (fun j hj => absurd hj (by omega))
/-- the model's exceptionBy(): the pattern is w' -/
theorem exb_in {M : Mem} (h : zO M) {i n : Nat} {w w' : Wd} (hi : i < 10) (hv : vW w) (e3 : ∀ j, j < w.1 → M.2.1 318 (8 * i + j) = nI (w.2 j)) (hn : w'.1 ≤ 24) (e1 : M.2.1 279 1 = nI w'.1) (r2 : ∀ j, j < w'.1 → w'.2 j < 65536 ∧ M.2.1 281 j = nI (w'.2 j)) (hs : w.1 = w'.1) (k2 : Mem → Nat → Int32 → Option (Int32 × Mem)) : ∀ d j fuel (y : Int32), j + d = w.1 → d + 1 < fuel → ((y = 1 ∧ ∀ t, t < j → w.2 t = w'.2 t) ∨ (y = 0 ∧ ¬ weq w w')) →
    (weq w w' ∧ fX9_exceptionBy_31L k2 fuel M 279 (nI i) y (nI j) = some (nI i, M)) ∨ (¬ weq w w' ∧ fX9_exceptionBy_31L k2 fuel M 279 (nI i) y (nI j) = k2 M 279 (nI (i + 1))) := by
  have h75 : fX9_exceptionBy_75 k2 M 279 (nI i) 0 = k2 M 279 (nI (i + 1)) := by
    unfold fX9_exceptionBy_75
    rw [if_pos rfl, zlt_e, nI_1]
  have h75' : fX9_exceptionBy_75 k2 M 279 (nI i) 1 = some (nI i, M) := by
    unfold fX9_exceptionBy_75
    rw [if_neg (by decide)]
  intro d
  induction d with
  | zero =>
    intro j fuel y hd hf hy
    obtain ⟨f, rfl⟩ : ∃ f, fuel = f + 1 := ⟨fuel - 1, by omega⟩
    show (_ ∧ fX9_exceptionBy_31 k2 (fX9_exceptionBy_31L k2 f) M 279 (nI i) y (nI j) = _) ∨ (_ ∧ fX9_exceptionBy_31 k2 (fX9_exceptionBy_31L k2 f) M 279 (nI i) y (nI j) = _)
    unfold fX9_exceptionBy_31
    rw [zgI_f h (by decide) zk_279, Option.bind_some, e1, if_pos (show nI w'.1 ≤ nI j by rw [nI_leN (by omega) (by omega)]; omega)]
    rcases hy with ⟨rfl, g⟩ | ⟨rfl, g⟩
    · exact Or.inl ⟨⟨hs, fun t ht => g t (by omega)⟩, h75'⟩
    · exact Or.inr ⟨g, h75⟩
  | succ d ih =>
    intro j fuel y hd hf hy
    obtain ⟨f, rfl⟩ : ∃ f, fuel = f + 1 := ⟨fuel - 1, by omega⟩
    have st : fX9_exceptionBy_31L k2 (f + 1) M 279 (nI i) y (nI j) = fX9_exceptionBy_31 k2 (fX9_exceptionBy_31L k2 f) M 279 (nI i) y (nI j) := rfl
    rw [st]
    unfold fX9_exceptionBy_31
    rw [zgI_f h (by decide) zk_279, Option.bind_some, e1, if_neg (show ¬ nI w'.1 ≤ nI j by rw [nI_leN (by omega) (by omega)]; omega)]
    rcases hy with ⟨rfl, g⟩ | ⟨rfl, g⟩
    · have hw8 := hv.2.1
      obtain ⟨y1, y2⟩ := r2 j (by omega)
      rw [if_neg (by decide), gr_279_51 h, Option.bind_some, show (8 : Int32) = nI 8 from rfl, pk_mul, nI_add, zaI_f h (by decide) zk_318 (by rw [zl_318]; omega), Option.bind_some, e3 j (by omega), gr_279_2 h, Option.bind_some, zaI_f h (by decide) zk_281 (by rw [zl_281]; omega), Option.bind_some, y2]
      unfold fX9_exceptionBy_68
      by_cases e : w.2 j = w'.2 j
      · rw [if_pos (by rw [e]), zlt_e, nI_1]
        exact ih (j + 1) f 1 (by omega) (by omega) (Or.inl ⟨rfl, fun t ht => by
          rcases Nat.lt_or_ge t j with q | q
          · exact g t q
          · rw [show t = j by omega]; exact e⟩)
      · rw [if_neg (fun z => e (nI_inj16 (hv.2.2 j (by omega)) y1 z)), zlt_e, nI_1]
        exact ih (j + 1) f 0 (by omega) (by omega) (Or.inr ⟨rfl, fun z => e (z.2 j (by omega))⟩)
    · rw [if_pos rfl]
      exact Or.inr ⟨g, h75⟩
theorem exb_loop {M : Mem} (h : zO M) {cnt : Nat} {mw : Nat → Wd} (a1 : cnt ≤ 10) (a3 : M.2.1 279 49 = nI cnt) (a7 : ∀ i, i < cnt → vW (mw i) ∧ M.2.1 317 i = nI (mw i).1 ∧ ∀ j, j < (mw i).1 → M.2.1 318 (8 * i + j) = nI ((mw i).2 j)) {w' : Wd} (hn : w'.1 ≤ 24) (e1 : M.2.1 279 1 = nI w'.1) (r2 : ∀ j, j < w'.1 → w'.2 j < 65536 ∧ M.2.1 281 j = nI (w'.2 j)) : ∀ d i fuel, i + d = cnt → d < fuel → (∀ j, j < i → ¬ weq (mw j) w') →
    (∃ i', i' < cnt ∧ weq (mw i') w' ∧ fX9_exceptionBy_2L fuel M 279 (nI i) = some (nI i', M)) ∨ ((∀ j, j < cnt → ¬ weq (mw j) w') ∧ fX9_exceptionBy_2L fuel M 279 (nI i) = some (-1, M)) := by
  intro d
  induction d with
  | zero =>
    intro i fuel hd hfu hi
    obtain ⟨f, rfl⟩ : ∃ f, fuel = f + 1 := ⟨fuel - 1, by omega⟩
    right
    refine ⟨fun j hj => hi j (by omega), ?_⟩
    show fX9_exceptionBy_2 (fX9_exceptionBy_2L f) M 279 (nI i) = _
    unfold fX9_exceptionBy_2
    rw [zgI_f h (by decide) zk_279, Option.bind_some, a3, if_pos (show nI cnt ≤ nI i by rw [nI_leN (by omega) (by omega)]; omega)]
  | succ d ih =>
    intro i fuel hd hfu hi
    obtain ⟨f, rfl⟩ : ∃ f, fuel = f + 1 := ⟨fuel - 1, by omega⟩
    obtain ⟨v1, v2, v3⟩ := a7 i (by omega)
    have v8 := v1.2.1
    have nxt : ¬ weq (mw i) w' → (∃ i', i' < cnt ∧ weq (mw i') w' ∧ fX9_exceptionBy_2L f M 279 (nI (i + 1)) = some (nI i', M)) ∨ ((∀ j, j < cnt → ¬ weq (mw j) w') ∧ fX9_exceptionBy_2L f M 279 (nI (i + 1)) = some (-1, M)) := fun g3 => ih (i + 1) f (by omega) (by omega) (fun j hj => by
        rcases Nat.lt_or_ge j i with w | w
        · exact hi j w
        · rw [show j = i by omega]; exact g3)
    have st : fX9_exceptionBy_2L (f + 1) M 279 (nI i) = fX9_exceptionBy_2 (fX9_exceptionBy_2L f) M 279 (nI i) := rfl
    rw [st]
    unfold fX9_exceptionBy_2
    rw [zgI_f h (by decide) zk_279, Option.bind_some, a3, if_neg (show ¬ nI cnt ≤ nI i by rw [nI_leN (by omega) (by omega)]; omega), gr_279_50 h, Option.bind_some, zaI_f h (by decide) zk_317 (by rw [zl_317]; omega), Option.bind_some, zgI_f h (by decide) zk_279, Option.bind_some, v2, e1]
    unfold fX9_exceptionBy_28
    by_cases hs : (mw i).1 = w'.1
    · rw [if_pos (by rw [hs])]
      rcases exb_in (i := i) (n := 0) h (by omega) v1 v3 hn e1 r2 hs (fX9_exceptionBy_2L f) (mw i).1 0 zFU 1 (by omega) (by unfold zFU; omega) (Or.inl ⟨rfl, fun t ht => absurd ht (by omega)⟩) with ⟨g1, g2⟩ | ⟨g1, g2⟩
      · left
        rw [show (0 : Int32) = nI 0 from rfl, g2]
        exact ⟨i, by omega, g1, rfl⟩
      · rw [show (0 : Int32) = nI 0 from rfl, g2]
        exact nxt g1
    · rw [if_neg (fun z => hs (nI_inj (by omega) (by omega) z))]
      have e75 : fX9_exceptionBy_31L (fX9_exceptionBy_2L f) zFU M 279 (nI i) 0 0 = fX9_exceptionBy_2L f M 279 (nI (i + 1)) := by
        show fX9_exceptionBy_31 (fX9_exceptionBy_2L f) (fX9_exceptionBy_31L (fX9_exceptionBy_2L f) 4999) M 279 (nI i) 0 0 = _
        unfold fX9_exceptionBy_31 fX9_exceptionBy_75
        rw [zgI_f h (by decide) zk_279, Option.bind_some, if_pos rfl, if_pos rfl, zlt_e, nI_1]
        split <;> rfl
      rw [e75]
      exact nxt (fun z => hs z.1)
