/-! ===== addException, removeException ===== -/
theorem inv_exc {M M' : Mem} (hI : Inv M) (hz : zO M') (hq : zq (fun q => (1 ≤ q ∧ q < 166) ∨ (187 ≤ q ∧ q ≠ 279 ∧ q ≠ 317 ∧ q ≠ 318)) M M') (h279 : ∀ j, j ≠ 49 → M'.2.1 279 j = M.2.1 279 j) (hE : iE M') : Inv M' := by
  obtain ⟨h, hP, -, hR, cc, len, ch, c1, c2, t1, t2, hK, hH⟩ := hI
  have hw2 : wAll M' := fun k hk p hp => by
    obtain ⟨w1, w2, g⟩ := (hR k hk p hp).1
    exact ⟨w1, w2, zWt_mv (hq.2 _ (by unfold zra; omega)).2 g⟩
  refine ⟨hz, iP_mv hq (by omega) (by omega) (by omega) (h279 1 (by omega)) hP, hE, fun k hk p hp => iRule_mr hq (fun q x y => by omega) (iRule_mv hq (fun i x y => by unfold zra; omega) (hw2 k hk p hp) (hR k hk p hp)), cc, len, ch, cCs_mv hq (by omega) c1, mCs_mv hq (by omega) c2, cTe_mv hq (by omega) (by omega) t1, ?_, fun k hk => ?_, ?_⟩
  · unfold mTe at *
    rw [h279 31 (by omega), (hq.2 302 (by omega)).1]
    exact t2
  · obtain ⟨N, b, w, a1, a2, a3, a4⟩ := hK k hk
    exact ⟨N, b, w, cK_mr hq (fun q x y => by omega) (cK_mv hq (by omega) a1), mK_mv hq (by omega) (by omega) a2, by rw [(hq.2 _ (by omega)).1]; exact a3, by rw [(hq.2 305 (by omega)).1]; exact a4⟩
  · obtain ⟨o, u, r, D, Ls, g1, g2, g3, g4, g5, g6, g7, g8, g9, g10, g11, g12⟩ := hH
    refine ⟨o, u, r, D, Ls, g1, g2, by rw [(hq.2 187 (by omega)).1]; exact g3, by rw [(hq.2 187 (by omega)).1]; exact g4, by rw [(hq.2 187 (by omega)).1]; exact g5, by rw [h279 39 (by omega)]; exact g6, by rw [h279 44 (by omega)]; exact g7, g8, g9, fun i hi => cSl_mv hq (by omega) (by omega) (by omega) (g10 i hi), fun i hi => uSl_mv hq (fun q x y => by omega) (g11 i hi), fun i hi => rSl_mv hq (fun q x y => by omega) (g12 i hi)⟩
/-- the pattern as a word -/
theorem pat_w {M : Mem} (hP : iP M) : ∃ w : Wd, w.1 ≤ 24 ∧ M.2.1 5 1 = nI w.1 ∧ M.2.1 279 1 = nI w.1 ∧ ∀ j, j < w.1 → w.2 j < 65536 ∧ M.2.1 6 j = nI (w.2 j) ∧ M.2.1 281 j = nI (w.2 j) := by
  obtain ⟨n, n1, n2, n3, n4⟩ := hP
  refine ⟨(n, fun j => (M.2.1 281 j).toNatClampNeg), n1, n2, n3, fun j hj => ?_⟩
  obtain ⟨a1, a2⟩ := n4 j hj
  obtain ⟨c, c1, c2⟩ := chr_of a2
  dsimp only
  rw [a1, c2, nI_clamp (by omega)]
  exact ⟨c1, rfl, rfl⟩
def vP (w : Wd) : Prop := 1 ≤ w.1 ∧ w.1 ≤ 8 ∧ ∀ j, j < w.1 → 32 ≤ w.2 j ∧ w.2 j ≤ 126
theorem isw_loop {M : Mem} (h : zO M) {w : Wd} (hn : w.1 ≤ 8) (e1 : M.2.1 5 1 = nI w.1) (e2 : ∀ j, j < w.1 → w.2 j < 65536 ∧ M.2.1 6 j = nI (w.2 j)) : ∀ d i fuel, i + d = w.1 → d < fuel → (∀ j, j < i → 32 ≤ w.2 j ∧ w.2 j ≤ 126) →
    ∃ v, fX8_isExceptionWord_21L fuel M 5 (nI i) = some (v, M) ∧ ((v = 1 ∧ ∀ j, j < w.1 → 32 ≤ w.2 j ∧ w.2 j ≤ 126) ∨ (v = 0 ∧ ¬ ∀ j, j < w.1 → 32 ≤ w.2 j ∧ w.2 j ≤ 126)) := by
  intro d
  induction d with
  | zero =>
    intro i fuel hd hf hi
    obtain ⟨f, rfl⟩ : ∃ f, fuel = f + 1 := ⟨fuel - 1, by omega⟩
    show ∃ v, fX8_isExceptionWord_21 (fX8_isExceptionWord_21L f) M 5 (nI i) = some (v, M) ∧ _
    unfold fX8_isExceptionWord_21
    rw [zgI_f h (by decide) zk_5, Option.bind_some, e1, if_pos (show nI w.1 ≤ nI i by rw [nI_leN (by omega) (by omega)]; omega)]
    exact ⟨1, rfl, Or.inl ⟨rfl, fun j hj => hi j (by omega)⟩⟩
  | succ d ih =>
    intro i fuel hd hf hi
    obtain ⟨f, rfl⟩ : ∃ f, fuel = f + 1 := ⟨fuel - 1, by omega⟩
    show ∃ v, fX8_isExceptionWord_21 (fX8_isExceptionWord_21L f) M 5 (nI i) = some (v, M) ∧ _
    unfold fX8_isExceptionWord_21
    have hat := at_ok h zrow_5 e1 (by rw [show zsL (5 + 1) = 24 by decide +kernel]; omega) (fun j hj => by rw [show 5 + 1 = 6 from rfl, (e2 j hj).2]; exact chr_code (e2 j hj).1) (i := i) (by omega)
    rw [if_pos (by omega), show 5 + 1 = 6 from rfl, (e2 i (by omega)).2] at hat
    rw [zgI_f h (by decide) zk_5, Option.bind_some, e1, if_neg (show ¬ nI w.1 ≤ nI i by rw [nI_leN (by omega) (by omega)]; omega), zck_f h (by decide) zk_5, Option.bind_some, hat, Option.bind_some]
    dsimp only
    rcases ichr_ok (e2 i (by omega)).1 with ⟨b1, b2, b3, b4⟩ | ⟨b1, b3, b4⟩
    · rw [b3, Option.bind_some, if_neg (by decide), zlt_e, nI_1]
      exact ih (i + 1) f (by omega) (by omega) (fun j hj => by
        rcases Nat.lt_or_ge j i with q | q
        · exact hi j q
        · rw [show j = i by omega]; exact ⟨b1, b2⟩)
    · rw [b3, Option.bind_some, if_pos rfl]
      exact ⟨0, rfl, Or.inr ⟨rfl, fun z => b1 (z i (by omega))⟩⟩
theorem isw_ok {M : Mem} (h : zO M) {w : Wd} (hn : w.1 ≤ 24) (e1 : M.2.1 5 1 = nI w.1) (e2 : ∀ j, j < w.1 → w.2 j < 65536 ∧ M.2.1 6 j = nI (w.2 j)) : ∃ v, fX8_isExceptionWord M 5 = some (v, M) ∧ ((v = 1 ∧ vP w) ∨ (v = 0 ∧ ¬ vP w)) := by
  unfold fX8_isExceptionWord
  rw [zgI_f h (by decide) zk_5, Option.bind_some, e1, show (1 : Int32) = nI 1 from rfl, show (8 : Int32) = nI 8 from rfl]
  by_cases h1 : w.1 < 1
  · rw [if_pos (show nI w.1 < nI 1 by rw [nI_ltN (by omega) (by omega)]; exact h1)]
    exact ⟨0, rfl, Or.inr ⟨rfl, fun z => by have := z.1; omega⟩⟩
  · rw [if_neg (show ¬ nI w.1 < nI 1 by rw [nI_ltN (by omega) (by omega)]; exact h1), Option.bind_some]
    by_cases h2 : w.1 ≤ 8
    · rw [if_pos (show nI w.1 ≤ nI 8 by rw [nI_leN (by omega) (by omega)]; exact h2)]
      obtain ⟨v, v1, v2⟩ := isw_loop h h2 e1 e2 w.1 0 zFU (by omega) (by unfold zFU; omega) (fun j hj => absurd hj (by omega))
      refine ⟨v, v1, ?_⟩
      rcases v2 with ⟨a, b⟩ | ⟨a, b⟩
      · exact Or.inl ⟨a, by omega, h2, b⟩
      · exact Or.inr ⟨a, fun z => b z.2.2⟩
    · rw [if_neg (show ¬ nI w.1 ≤ nI 8 by rw [nI_leN (by omega) (by omega)]; exact h2)]
      exact ⟨0, rfl, Or.inr ⟨rfl, fun z => h2 z.2.1⟩⟩
theorem mwv_loop {M : Mem} (h : zO M) {w : Wd} (hn : w.1 ≤ 24) (e1 : M.2.1 279 1 = nI w.1) (e2 : ∀ j, j < w.1 → w.2 j < 65536 ∧ M.2.1 281 j = nI (w.2 j)) : ∀ d i fuel (y : Int32), i + d = w.1 → d < fuel → ((y = 1 ∧ 1 ≤ w.1 ∧ w.1 ≤ 8 ∧ ∀ j, j < i → 32 ≤ w.2 j ∧ w.2 j ≤ 126) ∨ (y = 0 ∧ ¬ vP w)) →
    (vP w ∧ fX9_addException_13L fuel M 279 y (nI i) = fX9_addException_13 (fX9_addException_13L 0) M 279 1 (nI w.1)) ∨ (¬ vP w ∧ fX9_addException_13L fuel M 279 y (nI i) = some (-2, M)) := by
  intro d
  induction d with
  | zero =>
    intro i fuel y hd hf hy
    obtain ⟨f, rfl⟩ : ∃ f, fuel = f + 1 := ⟨fuel - 1, by omega⟩
    have st : fX9_addException_13L (f + 1) M 279 y (nI i) = fX9_addException_13 (fX9_addException_13L f) M 279 y (nI i) := rfl
    rw [st, show i = w.1 by omega]
    rcases hy with ⟨rfl, g1, g2, g3⟩ | ⟨rfl, g⟩
    · left
      refine ⟨⟨g1, g2, fun j hj => g3 j (by omega)⟩, ?_⟩
      unfold fX9_addException_13
      rw [zgI_f h (by decide) zk_279, Option.bind_some, e1, if_pos (Int32.le_refl _), Option.bind_some, if_pos (Int32.le_refl _)]
    · right
      refine ⟨g, ?_⟩
      unfold fX9_addException_13
      rw [zgI_f h (by decide) zk_279, Option.bind_some, e1, if_pos (Int32.le_refl _), if_pos rfl]
  | succ d ih =>
    intro i fuel y hd hf hy
    obtain ⟨f, rfl⟩ : ∃ f, fuel = f + 1 := ⟨fuel - 1, by omega⟩
    have st : fX9_addException_13L (f + 1) M 279 y (nI i) = fX9_addException_13 (fX9_addException_13L f) M 279 y (nI i) := rfl
    have nx : ∀ y', fX9_addException_46 (fX9_addException_13L f) M 279 (nI i) y' = fX9_addException_13L f M 279 y' (nI (i + 1)) := fun y' => by
      unfold fX9_addException_46
      rw [zlt_e, nI_1]
    have un : fX9_addException_13 (fX9_addException_13L f) M 279 y (nI i) = (if y = 0 then (fX9_addException_45 (fX9_addException_13L f) M 279 (nI i)) else ((zgR M 9 2 279).bind (fun v26 => (zaI M 10 v26 (nI i)).bind (fun v30 => (fX9_in v30 (32 : Int32) (126 : Int32)).bind (fun v35 => if v35 = 0 then (fX9_addException_45 (fX9_addException_13L f) M 279 (nI i)) else (fX9_addException_46 (fX9_addException_13L f) M 279 (nI i) (1 : Int32))))))) := by
      conv => lhs; unfold fX9_addException_13
      rw [zgI_f h (by decide) zk_279, Option.bind_some, e1, if_neg (show ¬ nI w.1 ≤ nI i by rw [nI_leN (by omega) (by omega)]; omega)]
    rw [st, un]
    unfold fX9_addException_45
    rw [nx, nx]
    rcases hy with ⟨rfl, g1, g2, g3⟩ | ⟨rfl, g⟩
    · rw [if_neg (by decide), gr_279_2 h, Option.bind_some, zaI_f h (by decide) zk_281 (by rw [zl_281]; omega), Option.bind_some, (e2 i (by omega)).2]
      rcases ichr_ok (e2 i (by omega)).1 with ⟨b1, b2, b3, b4⟩ | ⟨b1, b3, b4⟩
      · rw [b4, Option.bind_some, if_neg (by decide)]
        exact ih (i + 1) f 1 (by omega) (by omega) (Or.inl ⟨rfl, g1, g2, fun j hj => by
          rcases Nat.lt_or_ge j i with q | q
          · exact g3 j q
          · rw [show j = i by omega]; exact ⟨b1, b2⟩⟩)
      · rw [b4, Option.bind_some, if_pos rfl]
        exact ih (i + 1) f 0 (by omega) (by omega) (Or.inr ⟨rfl, fun z => b1 (z.2.2 i (by omega))⟩)
    · rw [if_pos rfl]
      exact ih (i + 1) f 0 (by omega) (by omega) (Or.inr ⟨rfl, g⟩)
theorem mad_loop {cnt : Nat} {w : Wd} (hc : cnt < 10) (hw : w.1 ≤ 8) : ∀ d i fuel M, i + d = w.1 → d < fuel → zO M → M.2.1 279 1 = nI w.1 → M.2.1 279 49 = nI cnt → (∀ j, j < w.1 → w.2 j < 65536 ∧ M.2.1 281 j = nI (w.2 j)) → (∀ j, j < i → M.2.1 318 (8 * cnt + j) = nI (w.2 j)) →
    ∃ M', fX9_addException_84L fuel M 279 (nI i) = some (nI (cnt + 1), zwI (zwI M' 317 cnt (nI w.1)) 279 49 (nI (cnt + 1))) ∧ zO M' ∧ zq (fun q => q ≠ 318) M M' ∧ (∀ y, y < 8 * cnt → M'.2.1 318 y = M.2.1 318 y) ∧ (∀ j, j < w.1 → M'.2.1 318 (8 * cnt + j) = nI (w.2 j)) := by
  intro d
  induction d with
  | zero =>
    intro i fuel M hd hf hM h1 h2 h3 h4
    obtain ⟨f, rfl⟩ : ∃ f, fuel = f + 1 := ⟨fuel - 1, by omega⟩
    refine ⟨M, ?_, hM, zq.rf, fun y _ => rfl, fun j hj => h4 j (by omega)⟩
    show fX9_addException_84 (fX9_addException_84L f) M 279 (nI i) = _
    have hA : zO (zwI M 317 cnt (nI w.1)) := hM
    have hB : zO (zwI (zwI M 317 cnt (nI w.1)) 279 49 (nI (cnt + 1))) := hM
    have e2 : (zwI M 317 cnt (nI w.1)).2.1 279 49 = nI cnt := by simp [zw_I, h2]
    unfold fX9_addException_84
    rw [zgI_f hM (by decide) zk_279, Option.bind_some, h1, if_pos (show nI w.1 ≤ nI i by rw [nI_leN (by omega) (by omega)]; omega), gr_279_50 hM, Option.bind_some, zgI_f hM (by decide) zk_279, Option.bind_some, h2, Option.bind_some, zsI_f hM (by decide) zk_317 (by rw [zl_317]; omega), Option.bind_some, zgI_f hA (by decide) zk_279, Option.bind_some, e2, nI_1, zpI_f hA (by decide) zk_279, Option.bind_some, zgI_f hB (by decide) zk_279, Option.bind_some, zw_I, if_pos ⟨rfl, rfl⟩]
  | succ d ih =>
    intro i fuel M hd hf hM h1 h2 h3 h4
    obtain ⟨f, rfl⟩ : ∃ f, fuel = f + 1 := ⟨fuel - 1, by omega⟩
    show ∃ M', fX9_addException_84 (fX9_addException_84L f) M 279 (nI i) = _ ∧ _
    obtain ⟨y1, y2⟩ := h3 i (by omega)
    have hA : zO (zwI M 318 (8 * cnt + i) (nI (w.2 i))) := hM
    obtain ⟨M', a1, a2, a3, a4, a5⟩ := ih (i + 1) f _ (by omega) (by omega) hA (by simp [zw_I, h1]) (by simp [zw_I, h2]) (fun j hj => by simp [zw_I]; exact h3 j hj) (fun j hj => by
      rw [zw_I]
      by_cases e : j = i
      · rw [if_pos ⟨rfl, by omega⟩, e]
      · rw [if_neg (by omega)]
        exact h4 j (by omega))
    refine ⟨M', ?_, a2, zq_wI.tr a3, fun y hy => by rw [a4 y hy, zw_I, if_neg (by omega)], a5⟩
    rw [← a1]
    unfold fX9_addException_84
    rw [zgI_f hM (by decide) zk_279, Option.bind_some, h1, if_neg (show ¬ nI w.1 ≤ nI i by rw [nI_leN (by omega) (by omega)]; omega), gr_279_51 hM, Option.bind_some, zgI_f hM (by decide) zk_279, Option.bind_some, h2, gr_279_2 hM, Option.bind_some, zaI_f hM (by decide) zk_281 (by rw [zl_281]; omega), Option.bind_some, y2, show (8 : Int32) = nI 8 from rfl, pk_mul, nI_add, zsC_f hM (by decide) zk_318 (by rw [zl_318]; omega) (chr_code y1), Option.bind_some, zlt_e, nI_1]
theorem n5i {i : Nat} (hi : i ≤ 1000) : ¬ nI i = (-5 : Int32) := by
  intro e
  have : (0 : Int32) ≤ nI i := nI_pos' (by omega)
  rw [e] at this
  exact absurd this (by decide)
theorem addException_ok {M : Mem} (hI : Inv M) : Op (fX8_addException M 0) (fun M1 => fX9_addException M1 279) := by
  obtain ⟨h, hP, hE, -⟩ := id hI
  obtain ⟨w, p1, p2, p3, p4⟩ := pat_w hP
  obtain ⟨cnt, rr, cw, mw, hD⟩ := hE
  have hD' : eD M cnt rr cw mw := hD
  obtain ⟨a1, a2, a3, a4, a5, a6, a7, a8, a9, a10, a11⟩ := hD
  obtain ⟨v, v1, v2⟩ := isw_ok h p1 p2 (fun j hj => ⟨(p4 j hj).1, (p4 j hj).2.1⟩)
  have hin : ∀ M', zO M' → M'.2.1 279 1 = nI w.1 → (∀ j, j < w.1 → w.2 j < 65536 ∧ M'.2.1 281 j = nI (w.2 j)) → (vP w ∧ fX9_addException M' 279 = fX9_addException_13 (fX9_addException_13L 0) M' 279 1 (nI w.1)) ∨ (¬ vP w ∧ fX9_addException M' 279 = some (-2, M')) := by
    intro M' hM' e1 e2
    unfold fX9_addException fX9_in
    rw [zgI_f hM' (by decide) zk_279, Option.bind_some, e1, show (1 : Int32) = nI 1 from rfl, show (8 : Int32) = nI 8 from rfl]
    by_cases h1 : w.1 < 1
    · rw [if_pos (show nI w.1 < nI 1 by rw [nI_ltN (by omega) (by omega)]; exact h1), zrp_0, Option.bind_some]
      exact mwv_loop hM' p1 e1 e2 w.1 0 zFU 0 (by omega) (by unfold zFU; omega) (Or.inr ⟨rfl, fun z => by have := z.1; omega⟩)
    · rw [if_neg (show ¬ nI w.1 < nI 1 by rw [nI_ltN (by omega) (by omega)]; exact h1)]
      by_cases h2 : 8 < w.1
      · rw [if_pos (show nI 8 < nI w.1 by rw [nI_ltN (by omega) (by omega)]; exact h2), zrp_0, Option.bind_some]
        exact mwv_loop hM' p1 e1 e2 w.1 0 zFU 0 (by omega) (by unfold zFU; omega) (Or.inr ⟨rfl, fun z => by have := z.2.1; omega⟩)
      · rw [if_neg (show ¬ nI 8 < nI w.1 by rw [nI_ltN (by omega) (by omega)]; exact h2), show zrp .boolean (nI 1) = some 1 from rfl, Option.bind_some]
        exact mwv_loop hM' p1 e1 e2 w.1 0 zFU 1 (by omega) (by unfold zFU; omega) (Or.inl ⟨rfl, by omega, by omega, fun j hj => absurd hj (by omega)⟩)
  rcases v2 with ⟨rfl, hv⟩ | ⟨rfl, hv⟩
  rotate_left
  · refine op_same hI (-2) ?_ ?_
    · unfold fX8_addException
      rw [gr_0_1 h, Option.bind_some, v1, Option.bind_some, if_pos rfl]
    · show fX9_addException M 279 = _
      rcases hin M h p3 (fun j hj => ⟨(p4 j hj).1, (p4 j hj).2.2⟩) with ⟨q1, -⟩ | ⟨-, q2⟩
      · exact absurd q1 hv
      · exact q2
  have h24 : zsL (5 + 1) = 24 := by decide +kernel
  have hchr : ∀ i, i < w.1 → chr (M.2.1 (5 + 1) i) := fun i hi => by rw [show 5 + 1 = 6 from rfl, (p4 i hi).2.1]; exact chr_code (p4 i hi).1
  have m13 : ∀ M', zO M' → M'.2.1 279 1 = nI w.1 → M'.2.1 279 49 = nI cnt → (∀ j, j < w.1 → w.2 j < 65536 ∧ M'.2.1 281 j = nI (w.2 j)) → fX9_addException M' 279 = (fX9_exceptionBy M' 279).bind (fun r61 => if r61.1 < 0 then ((zgI r61.2 9 49 279).bind (fun v71 => if v71 = (10 : Int32) then (some ((-3 : Int32), r61.2)) else (fX9_addException_84L zFU r61.2 279 (0 : Int32)))) else (some ((-4 : Int32), r61.2))) := by
    intro M' hM' e1 e49 e2
    rcases hin M' hM' e1 e2 with ⟨-, q⟩ | ⟨q, -⟩
    · rw [q]
      unfold fX9_addException_13
      rw [zgI_f hM' (by decide) zk_279, Option.bind_some, e1, if_pos (Int32.le_refl _), if_neg (by decide), zck_f hM' (by decide) zk_279, Option.bind_some]
    · exact absurd hv q
  rcases exa_ok h hD' zrow_5 (by rw [h24]; exact p1) p2 (fr := 0) (w' := w) (fun j hj => ⟨(p4 j hj).1, by rw [Nat.zero_add]; exact (p4 j hj).2.1⟩) (by omega) hchr with ⟨i, i1, i2, i3⟩ | ⟨i2, i3⟩
  · -- there is such a one
    refine op_same hI (-4) ?_ ?_
    · unfold fX8_addException
      rw [gr_0_1 h, Option.bind_some, v1, Option.bind_some, if_neg n10]
      dsimp only
      rw [gr_0_1 h, Option.bind_some, Option.bind_some, zgI_f h (by decide) zk_5, Option.bind_some, p2, zck_f h (by decide) zk_0, Option.bind_some, show (0 : Int32) = nI 0 from rfl, i3, Option.bind_some, if_neg (n5i (by omega))]
    · show fX9_addException M 279 = _
      rw [m13 M h p3 a3 (fun j hj => ⟨(p4 j hj).1, (p4 j hj).2.2⟩)]
      unfold fX9_exceptionBy
      rcases exb_loop h a1 a3 a7 p1 p3 (fun j hj => ⟨(p4 j hj).1, (p4 j hj).2.2⟩) cnt 0 zFU (by omega) (by unfold zFU; omega) (fun j hj => absurd hj (by omega)) with ⟨j, j1, j2, j3⟩ | ⟨j2, j3⟩
      · rw [show (0 : Int32) = nI 0 from rfl, j3, Option.bind_some, if_neg (show ¬ (nI j, M).1 < nI 0 from nI_pos (by omega))]
      · obtain ⟨j, j4, j5⟩ := a8 i i1
        exact absurd (weq_tr (weq_sy j5) i2) (j2 j j4)
  · have hnom : ∀ j, j < cnt → ¬ weq (mw j) w := fun j hj z => by
      obtain ⟨i, i4, i5⟩ := a9 j hj
      exact i2 i i4 (weq_tr (weq_sy i5) z)
    by_cases hfull : cnt = 10
    · refine op_same hI (-3) ?_ ?_
      · unfold fX8_addException
        rw [gr_0_1 h, Option.bind_some, v1, Option.bind_some, if_neg n10]
        dsimp only
        rw [gr_0_1 h, Option.bind_some, Option.bind_some, zgI_f h (by decide) zk_5, Option.bind_some, p2, zck_f h (by decide) zk_0, Option.bind_some, show (0 : Int32) = nI 0 from rfl, i3, Option.bind_some, if_pos rfl]
        dsimp only
        rw [zgI_f h (by decide) zk_0, Option.bind_some, a2, hfull, if_neg (show ¬ nI 10 < 10 by decide)]
      · show fX9_addException M 279 = _
        rw [m13 M h p3 a3 (fun j hj => ⟨(p4 j hj).1, (p4 j hj).2.2⟩)]
        unfold fX9_exceptionBy
        rcases exb_loop h a1 a3 a7 p1 p3 (fun j hj => ⟨(p4 j hj).1, (p4 j hj).2.2⟩) cnt 0 zFU (by omega) (by unfold zFU; omega) (fun j hj => absurd hj (by omega)) with ⟨j, j1, j2, j3⟩ | ⟨j2, j3⟩
        · exact absurd j2 (hnom j j1)
        · rw [show (0 : Int32) = nI 0 from rfl, j3, Option.bind_some, if_pos (show ((-1 : Int32), M).1 < nI 0 by show (-1 : Int32) < 0; decide)]
          dsimp only
          rw [zgI_f h (by decide) zk_279, Option.bind_some, a3, hfull, if_pos (show nI 10 = (10 : Int32) from rfl)]
    · obtain ⟨q1, jr, q2, q3⟩ := a4 cnt (by omega)
      have hz := zexc q2
      rw [← q3] at hz
      have hw8 := hv.2.1
      obtain ⟨Mb, b1, b2, b3, b4, b5, b6⟩ := bec_ok h hz.1 zrow_5 (fr := 0) (cnt := w.1) (by omega) p2 (by rw [h24]; exact p1) hchr (by omega) (by rw [hz.2]; exact hw8)
      have e05 : Mb.2.1 0 5 = nI cnt := by rw [(b3.2 0 (by omega)).1]; exact a2
      have hM1 : zO (zwI Mb 0 5 (nI (cnt + 1))) := b2
      have hq1 : zq (fun q => q ≠ rr cnt ∧ q ≠ rr cnt + 1 ∧ q ≠ 0) M (zwI Mb 0 5 (nI (cnt + 1))) := (b3.wk (fun q z => ⟨z.1, z.2.1⟩)).tr (zq_wI.wk (fun q z => z.2.2))
      have hm : ∀ q, 187 ≤ q → (zwI Mb 0 5 (nI (cnt + 1))).2.1 q = M.2.1 q := fun q hq => (hq1.2 q (by omega)).1
      have p3' : (zwI Mb 0 5 (nI (cnt + 1))).2.1 279 1 = nI w.1 := by rw [hm 279 (by omega)]; exact p3
      have a3' : (zwI Mb 0 5 (nI (cnt + 1))).2.1 279 49 = nI cnt := by rw [hm 279 (by omega)]; exact a3
      have p4' : ∀ j, j < w.1 → w.2 j < 65536 ∧ (zwI Mb 0 5 (nI (cnt + 1))).2.1 281 j = nI (w.2 j) := fun j hj => ⟨(p4 j hj).1, by rw [hm 281 (by omega)]; exact (p4 j hj).2.2⟩
      obtain ⟨M3, m1, m2, m3, m4, m5⟩ := mad_loop (cnt := cnt) (w := w) (by omega) hw8 w.1 0 zFU (zwI Mb 0 5 (nI (cnt + 1))) (by omega) (by unfold zFU; omega) hM1 p3' a3' p4' (fun j hj => absurd hj (by omega))
      have hm3 : ∀ q, q ≠ 318 → q ≠ rr cnt → q ≠ rr cnt + 1 → q ≠ 0 → M3.2.1 q = M.2.1 q ∧ M3.2.2 q = M.2.2 q := fun q x y z t => by
        rw [(m3.2 q x).1, (m3.2 q x).2]
        exact hq1.2 q ⟨y, z, t⟩
      refine ⟨nI (cnt + 1), _, _, ?_, hM1, ?_, inv_exc hI (M' := zwI (zwI M3 317 cnt (nI w.1)) 279 49 (nI (cnt + 1))) m2 ((hq1.wk (fun q z => by omega)).tr ((m3.wk (fun q z => by omega)).tr ((zq_wI.wk (fun q z => by omega)).tr (zq_wI.wk (fun q z => by omega))))) (fun j hj => ?_) ?_⟩
      · unfold fX8_addException
        rw [gr_0_1 h, Option.bind_some, v1, Option.bind_some, if_neg n10]
        dsimp only
        rw [gr_0_1 h, Option.bind_some, Option.bind_some, zgI_f h (by decide) zk_5, Option.bind_some, p2, zck_f h (by decide) zk_0, Option.bind_some, show (0 : Int32) = nI 0 from rfl, i3, Option.bind_some, if_pos rfl]
        dsimp only
        rw [zgI_f h (by decide) zk_0, Option.bind_some, a2, show (10 : Int32) = nI 10 from rfl, if_pos (show nI cnt < nI 10 by rw [nI_ltN (by omega) (by omega)]; omega), gr_0_4 h, Option.bind_some, Option.bind_some, zaR_f h (by decide) zk_166 (by rw [zl_166]; omega), q1, Option.bind_some, gr_0_1 h, Option.bind_some, Option.bind_some, zgI_f h (by decide) zk_5, Option.bind_some, p2, zck_f h (by have := hz.1.1; omega) hz.1.2.1, Option.bind_some, b1, Option.bind_some, zgI_f b2 (by decide) zk_0, Option.bind_some, e05, nI_1, zpI_f b2 (by decide) zk_0, Option.bind_some, zgI_f hM1 (by decide) zk_0, Option.bind_some, zw_I, if_pos ⟨rfl, rfl⟩]
      · show fX9_addException _ 279 = _
        rw [m13 _ hM1 p3' a3' p4']
        unfold fX9_exceptionBy
        rcases exb_loop hM1 a1 a3' (fun i hi => by rw [hm 317 (by omega), hm 318 (by omega)]; exact a7 i hi) p1 p3' p4' cnt 0 zFU (by omega) (by unfold zFU; omega) (fun j hj => absurd hj (by omega)) with ⟨j, j1, j2, j3⟩ | ⟨j2, j3⟩
        · exact absurd j2 (hnom j j1)
        · rw [show (0 : Int32) = nI 0 from rfl, j3, Option.bind_some, if_pos (show ((-1 : Int32), zwI Mb 0 5 (nI (cnt + 1))).1 < nI 0 by show (-1 : Int32) < 0; decide)]
          dsimp only
          rw [zgI_f hM1 (by decide) zk_279, Option.bind_some, a3', if_neg (show ¬ nI cnt = 10 from fun z => hfull (nI_inj (by omega) (by omega) z))]
          exact m1
      · rw [zw_I, if_neg (by omega), zw_I, if_neg (by omega), (hm3 279 (by omega) (by omega) (by omega) (by omega)).1]
      · have hvw : vW w := ⟨hv.1, hv.2.1, fun j hj => (p4 j hj).1⟩
        have hM0 : M3.2.1 0 5 = nI (cnt + 1) := by rw [(m3.2 0 (by omega)).1, zw_I, if_pos ⟨rfl, rfl⟩]
        have hrr : ∀ q j, q < 279 → q ≠ 0 → (zwI (zwI M3 317 cnt (nI w.1)) 279 49 (nI (cnt + 1))).2.1 q j = Mb.2.1 q j := fun q j x y => by
          rw [zw_I, if_neg (by omega), zw_I, if_neg (by omega), (m3.2 q (by omega)).1, zw_I, if_neg (by omega)]
        refine ⟨cnt + 1, rr, fun i => if i = cnt then w else cw i, fun i => if i = cnt then w else mw i, by omega, ?_, ?_, fun i hi => ?_, a5, fun i hi => ?_, fun i hi => ?_, fun i hi => ?_, fun i hi => ?_, fun i j hij hj => ?_, fun i j hij hj => ?_⟩
        · rw [zw_I, if_neg (by omega), zw_I, if_neg (by omega)]
          exact hM0
        · rw [zw_I, if_pos ⟨rfl, rfl⟩]
        · show M3.2.2 166 i = _ ∧ _
          rw [(hm3 166 (by omega) (by omega) (by omega) (by omega)).2]
          exact a4 i hi
        · obtain ⟨-, j', x1, x2⟩ := a4 i (by omega)
          dsimp only
          rw [hrr _ _ (by omega) (by omega)]
          by_cases e : i = cnt
          · rw [if_pos e, e]
            refine ⟨hvw, b5, fun j hj => ?_⟩
            rw [hrr _ _ (by omega) (by omega), b6 j hj, show 5 + 1 = 6 from rfl, Nat.zero_add]
            exact (p4 j hj).2.1
          · rw [if_neg e]
            obtain ⟨y1, y2, y3⟩ := a6 i (by omega)
            have hne := a5 i cnt (by omega) (by omega) e
            refine ⟨y1, ?_, fun j hj => ?_⟩
            · rw [(b3.2 (rr i) (by omega)).1]
              exact y2
            · rw [hrr _ _ (by omega) (by omega), (b3.2 (rr i + 1) (by omega)).1]
              exact y3 j hj
        · dsimp only
          by_cases e : i = cnt
          · rw [if_pos e, e]
            refine ⟨hvw, by simp [zw_I], fun j hj => ?_⟩
            rw [zw_I, if_neg (by omega), zw_I, if_neg (by omega)]
            exact m5 j hj
          · rw [if_neg e]
            obtain ⟨y1, y2, y3⟩ := a7 i (by omega)
            refine ⟨y1, ?_, fun j hj => ?_⟩
            · rw [zw_I, if_neg (by omega), zw_I, if_neg (by omega), (m3.2 317 (by omega)).1, hm 317 (by omega)]
              exact y2
            · have := y1.2.1
              rw [zw_I, if_neg (by omega), zw_I, if_neg (by omega), m4 _ (by omega), hm 318 (by omega)]
              exact y3 j hj
        · dsimp only
          by_cases e : i = cnt
          · rw [if_pos e]
            exact ⟨cnt, by omega, by rw [if_pos rfl]; exact weq_rf w⟩
          · rw [if_neg e]
            obtain ⟨j, j1, j2⟩ := a8 i (by omega)
            exact ⟨j, by omega, by rw [if_neg (by omega)]; exact j2⟩
        · dsimp only
          by_cases e : i = cnt
          · rw [if_pos e]
            exact ⟨cnt, by omega, by rw [if_pos rfl]; exact weq_rf w⟩
          · rw [if_neg e]
            obtain ⟨j, j1, j2⟩ := a9 i (by omega)
            exact ⟨j, by omega, by rw [if_neg (by omega)]; exact j2⟩
        · dsimp only
          rw [if_neg (show ¬ i = cnt by omega)]
          by_cases e : j = cnt
          · rw [if_pos e]
            exact i2 i (by omega)
          · rw [if_neg e]
            exact a10 i j hij (by omega)
        · dsimp only
          rw [if_neg (show ¬ i = cnt by omega)]
          by_cases e : j = cnt
          · rw [if_pos e]
            exact hnom i (by omega)
          · rw [if_neg e]
            exact a11 i j hij (by omega)
