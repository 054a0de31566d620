/-! ===== behind a new rule ===== -/
theorem zra_ne {k k' p p' i : Nat} (hk : k < 3) (hk' : k' < 3) (hp : p < 5) (hp' : p' < 5) (hi : i ≤ 6) (hne : i = 0 ∨ ¬ (k' = k ∧ p' = p)) : ¬ (zra k p + 1 ≤ zra k' p' + i ∧ zra k' p' + i ≤ zra k p + 6) := by
  unfold zra
  rcases (show k = 0 ∨ k = 1 ∨ k = 2 by omega) with rfl | rfl | rfl <;> rcases (show k' = 0 ∨ k' = 1 ∨ k' = 2 by omega) with rfl | rfl | rfl <;> rcases (show p = 0 ∨ p = 1 ∨ p = 2 ∨ p = 3 ∨ p = 4 by omega) with rfl | rfl | rfl | rfl | rfl <;> omega
theorem zra_b {k p i : Nat} (hk : k < 3) (hp : p < 5) (hi : i ≤ 6) : zra k p + i < 152 := by unfold zra; omega
theorem sr_end {M Mb Mr : Mem} (hI : Inv M) {k p : Nat} (hk : k < 3) (hp : p < 5) (hz : zO Mb) (hqb : zq (fun q => (q < 152 ∨ 165 < q) ∧ ¬ (zra k p + 1 ≤ q ∧ q ≤ zra k p + 6)) M Mb) (hr : iRule Mb Mr k p) (ho : ∀ r, r < 15 → r ≠ 5 * k + p → rEq M Mr r) :
    ∃ M1, fX2_analyseAll Mb (8 + 48 * k) 1 = some M1 ∧ zO M1 ∧ zq (fun q => q < 8 ∨ 166 ≤ q) M M1 ∧ ∀ Mm, zO Mm → zq (fun q => q < 279 ∨ q = 280 ∨ q = 281 ∨ 302 ≤ q) M1 Mm → (∀ j, (j < 10 ∨ 19 < j) → Mm.2.1 279 j = M1.2.1 279 j) → (∀ r, r < 15 → rEq Mr Mm r) → ∃ M2, fX9_analyse Mm 279 (nI k) = some M2 ∧ Inv M2 := by
  obtain ⟨h, hP, hE, hR, cc, len, ch, c1, c2, t1, t2, hK, hH⟩ := hI
  have hwb : wAll Mb := fun k' hk' p' hp' => by
    obtain ⟨w1, w2, g⟩ := (hR k' hk' p' hp').1
    exact ⟨w1, w2, zWt_mv (hqb.2 (zra k' p') ⟨Or.inl (zra_b (i := 0) hk' hp' (by omega)), zra_ne (i := 0) hk hk' hp hp' (by omega) (Or.inl rfl)⟩).2 g⟩
  have hRb : ∀ k', k' < 3 → iRs Mb Mr k' := fun k' hk' p' hp' => by
    by_cases e : k' = k ∧ p' = p
    · rw [e.1, e.2]; exact hr
    · exact iRule_cq (ho _ (by omega) (by omega)) (iRule_mv hqb (fun i x y => ⟨Or.inl (zra_b hk' hp' y), zra_ne hk hk' hp hp' y (Or.inr e)⟩) (hwb k' hk' p' hp') (hR k' hk' p' hp'))
  have c1b := cCs_mv hqb (by unfold zra; omega) c1
  have t1b := cTe_mv hqb (by unfold zra; omega) (by unfold zra; omega) t1
  obtain ⟨M1, n, q, g1, g2, g3, g4, g5, g6, g7⟩ := call_ok hz (cl := acl cc ch) hk (hRb k hk) (cTe_x t1b c1b) (fun t ht => rfl)
  have hw1 : wAll M1 := wAll_k hk g3 hwb g4
  have hq1 : zq (fun q => q < 8 ∨ 166 ≤ q) M M1 := (hqb.wk (fun q z => by unfold zra; omega)).tr (g3.wk (fun q z => kfa_m hk (by omega)))
  refine ⟨M1, g1, g2, hq1, fun Mm hzm hqm h279 hrm => ?_⟩
  have f279 : ∀ j, (j < 10 ∨ 19 < j) → Mm.2.1 279 j = M.2.1 279 j := fun j hj => by rw [h279 j hj, (hq1.2 279 (by omega)).1]
  have hwm : wAll Mm := fun k' hk' p' hp' => by
    obtain ⟨w1, w2, g⟩ := hw1 k' hk' p' hp'
    exact ⟨w1, w2, zWt_mv (hqm.2 _ (by unfold zra; omega)).2 g⟩
  have hRm : ∀ k', k' < 3 → iRs Mm Mm k' := fun k' hk' p' hp' => iRule_cq (hrm _ (by omega)) (iRule_mv hqm (fun i x y => by unfold zra; omega) (hwm k' hk' p' hp') (iRule_mv g3 (fun i x y => kfa_r hk hk' hp' ⟨x, y⟩) (hw1 k' hk' p' hp') (hRb k' hk' p' hp')))
  have hqMm : zq (fun q => q < 8 ∨ (166 ≤ q ∧ q < 279) ∨ q = 280 ∨ q = 281 ∨ 302 ≤ q) M Mm := (hq1.wk (fun q z => by omega)).tr (hqm.wk (fun q z => by omega))
  have t2m : mTe Mm len ch := by
    unfold mTe at *
    rw [f279 31 (by omega), (hqMm.2 302 (by omega)).1]
    exact t2
  have c2m := mCs_mv hqMm (by omega) c2
  obtain ⟨M2, N, q', a1, ⟨b1, b2, b3, b4, b5, b6⟩, a3⟩ := mana_ok hzm hk (aRs_of hRm) (mTe_x t2m)
  refine ⟨M2, a1, ?_⟩
  have hall : zq (fun q => q < 8 ∨ (166 ≤ q ∧ q < 279) ∨ q = 280 ∨ q = 281 ∨ q = 302 ∨ 306 ≤ q) M M2 := (hqMm.wk (fun q z => by omega)).tr (b2.wk (fun q z => ⟨by omega, by omega, by omega⟩))
  have e279 : ∀ j, (j < 10 ∨ 19 < j) → M2.2.1 279 j = M.2.1 279 j := fun j hj => by rw [(b2.2 279 (mrw_l (by omega))).1]; exact f279 j hj
  have hc12 : zq (fun q => q < 279) M1 M2 := (hqm.wk (fun q z => by omega)).tr (b2.wk (fun q z => mrw_l (by omega)))
  have hw2 : wAll M2 := fun k' hk' p' hp' => by
    obtain ⟨w1, w2, g⟩ := hwm k' hk' p' hp'
    exact ⟨w1, w2, zWt_mv (b2.2 _ (mrw_l (by unfold zra; omega))).2 g⟩
  refine ⟨b1, iP_mv hall (by omega) (by omega) (by omega) (e279 1 (by omega)) hP, iE_mv hall (by omega) (fun q x y => by omega) (by omega) (by omega) (e279 49 (by omega)) hE, fun k' hk' p' hp' => iRule_mr b2 (fun q x y => mrw_l (by omega)) (iRule_mv b2 (fun i x y => mrw_l (by unfold zra; omega)) (hw2 k' hk' p' hp') (hRm k' hk' p' hp')), cc, len, ch, cCs_mv hall (by omega) c1, mCs_mv hall (by omega) c2, cTe_mv hall (by omega) (by omega) t1, ?_, fun k' hk' => ?_, ?_⟩
  · unfold mTe at *
    rw [e279 31 (by omega), (hall.2 302 (by omega)).1]
    exact t2
  · by_cases e : k' = k
    · subst e
      have hre : ∀ p, p < 5 → rEq Mr Mm (5 * k' + p) := fun p hp => hrm _ (by omega)
      exact iK_all (Mr := Mm) (Ma := Mm) hk zq.rf (b2.wk (fun q z => mrw_l (by omega))) hc12 (fun t ht => mTe_c t2m c2m ht) ⟨n, q, aChn_cg2 hre g6, cK_cq hre g7, g5⟩ ⟨N, q', a3, ⟨b3, fun i hi => b4 i (by omega)⟩, b5⟩
    · obtain ⟨N', b', w', x1, x2, x3, x4⟩ := hK k' hk'
      have hre : ∀ p', p' < 5 → rEq M M2 (5 * k' + p') := fun p' hp' => ((ho _ (by omega) (by omega)).tr (hrm _ (by omega))).tr (rEq_q b2 (fun q x y => mrw_l (by omega)) _)
      obtain ⟨y1, y2, y3⟩ := b6 k' hk' e
      have hN : N' ≤ 100 := by
        have := inc_ge x1.2.1 N' (Nat.le_refl _)
        have := x1.2.2.1
        have := t1.2.1
        omega
      have hqk : ∀ j, j < 48 → M2.2.1 (8 + 48 * k' + j) = Mb.2.1 (8 + 48 * k' + j) := fun j hj => by
        rw [(hc12.2 _ (by omega)).1, (g3.2 _ (kfa_o hk hk' e hj)).1]
      refine ⟨N', b', w', ?_, ?_, ?_, ?_⟩
      · have c3 : cK M2 M (acl cc ch) k' len N' b' := by
          have e10 : M2.2.1 (10 + 48 * k') = M.2.1 (10 + 48 * k') := by
            have := hqk 2 (by omega)
            rw [show 8 + 48 * k' + 2 = 10 + 48 * k' by omega] at this
            rw [this, (hqb.2 _ (by unfold zra; omega)).1]
          unfold cK at *
          rw [e10]
          exact x1
        exact cK_cq hre c3
      · refine ⟨?_, fun i hi => ?_⟩
        · rw [y1, (hqMm.2 303 (by omega)).1]; exact x2.1
        · rw [y3 i (by omega), (hqMm.2 304 (by omega)).1]; exact x2.2 i hi
      · have := hqk 0 (by omega)
        rw [Nat.add_zero] at this
        rw [this, (hqb.2 _ (by unfold zra; omega)).1]
        exact x3
      · rw [y2, (hqMm.2 305 (by omega)).1]; exact x4
  · obtain ⟨o, u, r, D, Ls, g1, g2, g3, g4, g5, g6, g7, g8, g9, g10, g11, g12⟩ := hH
    refine ⟨o, u, r, D, Ls, g1, g2, by rw [(hall.2 187 (by omega)).1]; exact g3, by rw [(hall.2 187 (by omega)).1]; exact g4, by rw [(hall.2 187 (by omega)).1]; exact g5, by rw [e279 39 (by omega)]; exact g6, by rw [e279 44 (by omega)]; exact g7, g8, g9, fun i hi => cSl_mv hall (by omega) (by omega) (by omega) (g10 i hi), fun i hi => uSl_mv hall (fun q x y => by omega) (g11 i hi), fun i hi => rSl_mv hall (fun q x y => by omega) (g12 i hi)⟩
