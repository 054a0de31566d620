/-! ===== the model: findStarts() and repair() ===== -/
theorem raw_ok {M : Mem} (h : zO M) {k i : Nat} (hk : k < 3) (hi : i < 101) : fX9_raw M 279 (nI k) (nI i) = some (M.2.1 304 (101 * k + i), M) := by
  unfold fX9_raw
  rw [gr_279_34 h, Option.bind_some, show (101 : Int32) = nI 101 from rfl, pk_mul, nI_add, zaI_f h (by decide) zk_304 (by rw [zl_304]; omega), Option.bind_some]
/-- the raw boundaries that the model has: N segments of kind k, up to len -/
def mB (M : Mem) (k len N : Nat) (b : Nat → Nat) : Prop := mK M k N b ∧ b 0 = 0 ∧ (∀ i, i < N → b i < b (i + 1)) ∧ b N = len
theorem mB_n {M : Mem} {k len N : Nat} {b : Nat → Nat} (h : mB M k len N b) (hl : len ≤ 100) : N ≤ 100 := by
  have := inc_ge h.2.2.1 N (Nat.le_refl _)
  rw [h.2.2.2] at this
  omega
theorem fs_loop {M : Mem} (h : zO M) (hR : aRs M) {len : Nat} (hx : aTx M len) {k N pl : Nat} {b : Nat → Nat} (hk : k < 3) (hK : mB M k len N b) (hpl : pl ≤ 1000) (k2 : Mem → Nat → Int32 → Int32 → Option Mem) : ∀ d i fuel, i + d = N → d < fuel → (∀ j, j < i → ∃ R, aLk M (aCl M) k len (b j) R ∧ b j + R ≤ pl) →
    ∃ i0, fX9_findStarts_9L k2 fuel M 279 (nI pl) (nI k) (nI i) = k2 (zwI M 306 k (nI i0)) 279 (nI pl) (nI (k + 1)) ∧ aTo M (aCl M) k len N b pl i0 := by
  have hl := hx.2.1
  have hN := mB_n hK hl
  obtain ⟨⟨c1, c2⟩, c3, c4, c5⟩ := hK
  have fin : ∀ i, i ≤ N → fX9_findStarts_49 k2 M 279 (nI pl) (nI k) (nI i) = k2 (zwI M 306 k (nI i)) 279 (nI pl) (nI (k + 1)) := fun i hi => by
    unfold fX9_findStarts_49
    rw [gr_279_36 h, Option.bind_some, zsI_f h (by decide) zk_306 (by rw [zl_306]; exact hk), Option.bind_some, zlt_e, nI_1]
  intro d
  induction d with
  | zero =>
    intro i fuel hd hf hi
    obtain ⟨f, rfl⟩ : ∃ f, fuel = f + 1 := ⟨fuel - 1, by omega⟩
    show ∃ i0, fX9_findStarts_9 k2 (fX9_findStarts_9L k2 f) M 279 (nI pl) (nI k) (nI i) = _ ∧ _
    unfold fX9_findStarts_9
    rw [gr_279_33 h, Option.bind_some, zaI_f h (by decide) zk_303 (by rw [zl_303]; exact hk), Option.bind_some, c1, show (1 : Int32) = nI 1 from rfl, pk_sub (by omega), if_pos (show nI (N + 1 - 1) ≤ nI i by rw [nI_leN (by omega) (by omega)]; omega), fin i (by omega)]
    exact ⟨i, rfl, by omega, hi, fun z => absurd z (by omega)⟩
  | succ d ih =>
    intro i fuel hd hf hi
    obtain ⟨f, rfl⟩ : ∃ f, fuel = f + 1 := ⟨fuel - 1, by omega⟩
    show ∃ i0, fX9_findStarts_9 k2 (fX9_findStarts_9L k2 f) M 279 (nI pl) (nI k) (nI i) = _ ∧ _
    unfold fX9_findStarts_9
    have hbi := inc_lt c4 (i := i) N (Nat.le_refl _) (by omega)
    rw [c5] at hbi
    obtain ⟨R, r1, r2, r3, r4⟩ := lks_ok h hR hk hx (pos := b i) (by omega)
    have r5 := r4 (by omega)
    rw [gr_279_33 h, Option.bind_some, zaI_f h (by decide) zk_303 (by rw [zl_303]; exact hk), Option.bind_some, c1, show (1 : Int32) = nI 1 from rfl, pk_sub (by omega), if_neg (show ¬ nI (N + 1 - 1) ≤ nI i by rw [nI_leN (by omega) (by omega)]; omega), zck_f h (by decide) zk_279, Option.bind_some, raw_ok h hk (by omega), Option.bind_some]
    dsimp only
    rw [zck_f h (by decide) zk_279, Option.bind_some, raw_ok h hk (by omega), Option.bind_some]
    dsimp only
    rw [zck_f h (by decide) zk_279, Option.bind_some, c2 i (by omega), r1, Option.bind_some]
    dsimp only
    rw [nI_add]
    by_cases hle : b i + R ≤ pl
    · rw [if_neg (show ¬ nI pl < nI (b i + R) by rw [nI_ltN (by omega) (by omega)]; omega), zlt_e, nI_add]
      exact ih (i + 1) f (by omega) (by omega) (fun j hj => by
        rcases Nat.lt_or_ge j i with w | w
        · exact hi j w
        · rw [show j = i by omega]
          exact ⟨R, r2, hle⟩)
    · rw [if_pos (show nI pl < nI (b i + R) by rw [nI_ltN (by omega) (by omega)]; omega), fin i (by omega)]
      exact ⟨i, rfl, by omega, hi, fun _ => ⟨R, r2, by omega⟩⟩
theorem aTo_mv {M M' : Mem} {Q : Nat → Prop} (hq : zq Q M M') (hQ : ∀ q, 291 ≤ q → q ≤ 301 → Q q) {cl : Nat → Int32} {k len N : Nat} {b : Nat → Nat} {pl i0 : Nat} : aTo M' cl k len N b pl i0 = aTo M cl k len N b pl i0 := by
  unfold aTo
  simp only [aLk_mv hq hQ]
theorem aTo_cl {M : Mem} {cl cl' : Nat → Int32} {k len N : Nat} {b : Nat → Nat} {pl i0 : Nat} (hb : ∀ i, i ≤ N → b i ≤ len) (hc : ∀ t, t < len → cl t = cl' t) (h : aTo M cl k len N b pl i0) : aTo M cl' k len N b pl i0 := by
  refine ⟨h.1, fun j hj => ?_, fun hj => ?_⟩
  · obtain ⟨R, r1, r2⟩ := h.2.1 j hj
    exact ⟨R, aLk_cl (hb j (by have := h.1; omega)) hc r1, r2⟩
  · obtain ⟨R, r1, r2⟩ := h.2.2 hj
    exact ⟨R, aLk_cl (hb i0 (by omega)) hc r1, r2⟩
theorem fst_loop {M0 : Mem} (hR : aRs M0) {len pl : Nat} (hx : aTx M0 len) {N : Nat → Nat} {b : Nat → Nat → Nat} (hK : ∀ k, k < 3 → mB M0 k len (N k) (b k)) (hpl : pl ≤ 1000) : ∀ d k fuel M, k + d = 3 → d < fuel → zO M → zq (fun a => a ≠ 306) M0 M → (∀ k', k' < k → ∃ i0, M.2.1 306 k' = nI i0 ∧ aTo M0 (aCl M0) k' len (N k') (b k') pl i0) →
    ∃ M', fX9_findStarts_2L fuel M 279 (nI pl) (nI k) = some M' ∧ zO M' ∧ zq (fun a => a ≠ 306) M0 M' ∧ ∀ k', k' < 3 → ∃ i0, M'.2.1 306 k' = nI i0 ∧ aTo M0 (aCl M0) k' len (N k') (b k') pl i0 := by
  intro d
  induction d with
  | zero =>
    intro k fuel M hd hf hM hq hi
    obtain ⟨f, rfl⟩ : ∃ f, fuel = f + 1 := ⟨fuel - 1, by omega⟩
    show ∃ M', fX9_findStarts_2 (fX9_findStarts_2L f) M 279 (nI pl) (nI k) = some M' ∧ _
    unfold fX9_findStarts_2
    rw [show (3 : Int32) = nI 3 from rfl, if_pos (show nI 3 ≤ nI k by rw [nI_leN (by omega) (by omega)]; omega)]
    exact ⟨M, rfl, hM, hq, fun k' hk' => hi k' (by omega)⟩
  | succ d ih =>
    intro k fuel M hd hf hM hq hi
    obtain ⟨f, rfl⟩ : ∃ f, fuel = f + 1 := ⟨fuel - 1, by omega⟩
    show ∃ M', fX9_findStarts_2 (fX9_findStarts_2L f) M 279 (nI pl) (nI k) = some M' ∧ _
    have hk : k < 3 := by omega
    unfold fX9_findStarts_2
    rw [show (3 : Int32) = nI 3 from rfl, if_neg (show ¬ nI 3 ≤ nI k by rw [nI_leN (by omega) (by omega)]; omega)]
    have hKM : mB M k len (N k) (b k) := ⟨mK_mv hq (by decide) (by decide) (hK k hk).1, (hK k hk).2⟩
    have hN := mB_n hKM hx.2.1
    obtain ⟨i0, e1, e2⟩ := fs_loop hM (aRs_mv hq (by decide) (by decide) hR) (aTx_mv hq (by decide) (by decide) hx) hk hKM hpl (fX9_findStarts_2L f) (N k) 0 zFU (by omega) (by unfold zFU; omega) (fun j hj => absurd hj (by omega))
    rw [show (0 : Int32) = nI 0 from rfl, e1]
    rw [aTo_mv hq (fun q h1 h2 => by omega), aCl_mv hq (by decide) (by decide)] at e2
    refine ih (k + 1) f _ (by omega) (by omega) hM (hq.tr zq_wI) (fun k' hk' => ?_)
    rcases Nat.lt_or_ge k' k with w | w
    · obtain ⟨i1, g1, g2⟩ := hi k' w
      exact ⟨i1, by rw [zw_I, if_neg (by omega)]; exact g1, g2⟩
    · rw [show k' = k by omega]
      exact ⟨i0, by rw [zw_I, if_pos ⟨rfl, rfl⟩], e2⟩
theorem fst_ok {M : Mem} (h : zO M) (hR : aRs M) {len pl : Nat} (hx : aTx M len) {N : Nat → Nat} {b : Nat → Nat → Nat} (hK : ∀ k, k < 3 → mB M k len (N k) (b k)) (hpl : pl ≤ 1000) :
    ∃ M', fX9_findStarts M 279 (nI pl) = some M' ∧ zO M' ∧ zq (fun a => a ≠ 306) M M' ∧ ∀ k, k < 3 → ∃ i0, M'.2.1 306 k = nI i0 ∧ aTo M (aCl M) k len (N k) (b k) pl i0 :=
  fst_loop hR hx hK hpl 3 0 zFU M (by omega) (by unfold zFU; omega) h zq.rf (fun k hk => absurd hk (by omega))
