/-! ===== removeException ===== -/
theorem rx_in {i : Nat} (hi : i < 9) (k24 : Mem → Nat → Int32 → Option (Int32 × Mem)) : ∀ d j fuel M, j + d = 8 → d < fuel → zO M →
    ∃ M', fX9_removeException_48L k24 fuel M 279 (nI i) (nI j) = k24 M' 279 (nI (i + 1)) ∧ zO M' ∧ zq (fun a => a ≠ 318) M M' ∧ ∀ y, M'.2.1 318 y = if 8 * i + j ≤ y ∧ y < 8 * i + 8 then vp_nar .char (M.2.1 318 (y + 8)) else M.2.1 318 y := by
  intro d
  induction d with
  | zero =>
    intro j fuel M hd hf hM
    obtain ⟨f, rfl⟩ : ∃ f, fuel = f + 1 := ⟨fuel - 1, by omega⟩
    show ∃ M', fX9_removeException_48 k24 (fX9_removeException_48L k24 f) M 279 (nI i) (nI j) = _ ∧ _
    unfold fX9_removeException_48
    rw [show (8 : Int32) = nI 8 from rfl, if_pos (show nI 8 ≤ nI j by rw [nI_leN (by omega) (by omega)]; omega), zlt_e, nI_1]
    exact ⟨M, rfl, hM, zq.rf, fun y => by rw [if_neg (by omega)]⟩
  | succ d ih =>
    intro j fuel M hd hf hM
    obtain ⟨f, rfl⟩ : ∃ f, fuel = f + 1 := ⟨fuel - 1, by omega⟩
    show ∃ M', fX9_removeException_48 k24 (fX9_removeException_48L k24 f) M 279 (nI i) (nI j) = _ ∧ _
    unfold fX9_removeException_48
    rw [show (8 : Int32) = nI 8 from rfl, if_neg (show ¬ nI 8 ≤ nI j by rw [nI_leN (by omega) (by omega)]; omega), gr_279_51 hM, Option.bind_some, Option.bind_some, pk_mul, nI_add, nI_add, nI_add, zaI_f hM (by decide) zk_318 (by rw [zl_318]; omega), Option.bind_some, zsC_g hM (by decide) zk_318 (by rw [zl_318]; omega), Option.bind_some, zlt_e, nI_1]
    have hA : zO (zwI M 318 (8 * i + j) (vp_nar .char (M.2.1 318 (8 * i + 8 + j)))) := hM
    obtain ⟨M', a1, a2, a3, a4⟩ := ih (j + 1) f _ (by omega) (by omega) hA
    refine ⟨M', a1, a2, zq_wI.tr a3, fun y => ?_⟩
    rw [a4 y]
    by_cases e1 : y = 8 * i + j
    · rw [if_neg (by omega), if_pos (by omega), zw_I, if_pos ⟨rfl, e1⟩, e1, show 8 * i + j + 8 = 8 * i + 8 + j by omega]
    · by_cases e2 : 8 * i + (j + 1) ≤ y ∧ y < 8 * i + 8
      · rw [if_pos e2, if_pos (by omega), zw_I, if_neg (by omega)]
      · rw [if_neg e2, if_neg (by omega), zw_I, if_neg (by omega)]
def mWd (M : Mem) (i : Nat) (w : Wd) : Prop := vW w ∧ M.2.1 317 i = nI w.1 ∧ ∀ j, j < w.1 → M.2.1 318 (8 * i + j) = nI (w.2 j)
theorem rx_loop {cnt : Nat} {mw : Nat → Wd} (hc : cnt ≤ 9) {M0 : Mem} {j0 : Nat} : ∀ d i fuel M, i + d = cnt → j0 ≤ i → d < fuel → zO M → zq (fun a => a ≠ 317 ∧ a ≠ 318) M0 M → M0.2.1 279 49 = nI cnt → (∀ j, j < i → mWd M j (if j < j0 then mw j else mw (j + 1))) → (∀ j, i ≤ j → j < cnt + 1 → mWd M j (mw j)) →
    ∃ M', fX9_removeException_24L fuel M 279 (nI i) = some (nI cnt, M') ∧ zO M' ∧ zq (fun a => a ≠ 317 ∧ a ≠ 318) M0 M' ∧ ∀ j, j < cnt → mWd M' j (if j < j0 then mw j else mw (j + 1)) := by
  intro d
  induction d with
  | zero =>
    intro i fuel M hd hj0 hf hM hq hn h1 h2
    obtain ⟨f, rfl⟩ : ∃ f, fuel = f + 1 := ⟨fuel - 1, by omega⟩
    show ∃ M', fX9_removeException_24 (fX9_removeException_24L f) M 279 (nI i) = _ ∧ _
    have e49 : M.2.1 279 49 = nI cnt := by rw [(hq.2 279 (by omega)).1]; exact hn
    unfold fX9_removeException_24
    rw [zgI_f hM (by decide) zk_279, Option.bind_some, e49, if_pos (show nI cnt ≤ nI i by rw [nI_leN (by omega) (by omega)]; omega), Option.bind_some]
    exact ⟨M, rfl, hM, hq, fun j hj => h1 j (by omega)⟩
  | succ d ih =>
    intro i fuel M hd hj0 hf hM hq hn h1 h2
    obtain ⟨f, rfl⟩ : ∃ f, fuel = f + 1 := ⟨fuel - 1, by omega⟩
    show ∃ M', fX9_removeException_24 (fX9_removeException_24L f) M 279 (nI i) = _ ∧ _
    have e49 : M.2.1 279 49 = nI cnt := by rw [(hq.2 279 (by omega)).1]; exact hn
    obtain ⟨v1, v2, v3⟩ := h2 (i + 1) (by omega) (by omega)
    have hA : zO (zwI M 317 i (nI (mw (i + 1)).1)) := hM
    obtain ⟨M', a1, a2, a3, a4⟩ := rx_in (i := i) (by omega) (fX9_removeException_24L f) 8 0 zFU _ (by omega) (by unfold zFU; omega) hA
    unfold fX9_removeException_24
    rw [zgI_f hM (by decide) zk_279, Option.bind_some, e49, if_neg (show ¬ nI cnt ≤ nI i by rw [nI_leN (by omega) (by omega)]; omega), gr_279_50 hM, Option.bind_some, Option.bind_some, nI_1, zaI_f hM (by decide) zk_317 (by rw [zl_317]; omega), Option.bind_some, v2, zsI_f hM (by decide) zk_317 (by rw [zl_317]; omega), Option.bind_some, show (0 : Int32) = nI 0 from rfl, a1]
    have r1 : ∀ y, M'.2.1 317 y = if y = i then nI (mw (i + 1)).1 else M.2.1 317 y := fun y => by
      rw [(a3.2 317 (by decide)).1]
      simp [zw_I]
    have r2 : ∀ y, M'.2.1 318 y = if 8 * i ≤ y ∧ y < 8 * i + 8 then vp_nar .char (M.2.1 318 (y + 8)) else M.2.1 318 y := fun y => by
      rw [a4 y]
      simp [zw_I]
    refine ih (i + 1) f M' (by omega) (by omega) (by omega) a2 (hq.tr ((zq_wI.wk (fun q z => z.1)).tr (a3.wk (fun q z => z.2)))) hn (fun j hj => ?_) (fun j h3 h4 => ?_)
    · rcases Nat.lt_or_ge j i with w | w
      · obtain ⟨t1, t2, t3⟩ := h1 j w
        have := t1.2.1
        refine ⟨t1, by rw [r1, if_neg (by omega)]; exact t2, fun t ht => ?_⟩
        rw [r2, if_neg (by omega)]
        exact t3 t ht
      · have e : j = i := by omega
        subst e
        rw [if_neg (by omega)]
        have := v1.2.1
        refine ⟨v1, by rw [r1, if_pos rfl], fun t ht => ?_⟩
        rw [r2, if_pos (by omega), show 8 * j + t + 8 = 8 * (j + 1) + t by omega, v3 t ht]
        exact chr_code (v1.2.2 t ht)
    · obtain ⟨t1, t2, t3⟩ := h2 j (by omega) h4
      refine ⟨t1, by rw [r1, if_neg (by omega)]; exact t2, fun t ht => ?_⟩
      rw [r2, if_neg (by omega)]
      exact t3 t ht
theorem removeException_ok {M : Mem} (hI : Inv M) : Op (fX8_removeException M 0) (fun M1 => fX9_removeException M1 279) := by
  obtain ⟨h, hP, hE, -⟩ := id hI
  obtain ⟨w, p1, p2, p3, p4⟩ := pat_w hP
  obtain ⟨cnt, rr, cw, mw, hD⟩ := hE
  have hD' : eD M cnt rr cw mw := hD
  obtain ⟨a1, a2, a3, a4, a5, a6, a7, a8, a9, a10, a11⟩ := hD
  have h24 : zsL (5 + 1) = 24 := by decide +kernel
  have hchr : ∀ i, i < w.1 → chr (M.2.1 (5 + 1) i) := fun i hi => by rw [show 5 + 1 = 6 from rfl, (p4 i hi).2.1]; exact chr_code (p4 i hi).1
  have dc : ∀ i j, i < cnt → j < cnt → i ≠ j → ¬ weq (cw i) (cw j) := fun i j x y z g => by
    rcases Nat.lt_or_ge i j with q | q
    · exact a10 i j q y g
    · exact a10 j i (by omega) x (weq_sy g)
  have dm : ∀ i j, i < cnt → j < cnt → i ≠ j → ¬ weq (mw i) (mw j) := fun i j x y z g => by
    rcases Nat.lt_or_ge i j with q | q
    · exact a11 i j q y g
    · exact a11 j i (by omega) x (weq_sy g)
  rcases exa_ok h hD' zrow_5 (by rw [h24]; exact p1) p2 (fr := 0) (w' := w) (fun j hj => ⟨(p4 j hj).1, by rw [Nat.zero_add]; exact (p4 j hj).2.1⟩) (by omega) hchr with ⟨i0, i1, i2, i3⟩ | ⟨i2, i3⟩
  rotate_left
  · refine op_same hI (-5) ?_ ?_
    · unfold fX8_removeException
      rw [gr_0_1 h, Option.bind_some, Option.bind_some, zgI_f h (by decide) zk_5, Option.bind_some, p2, zck_f h (by decide) zk_0, Option.bind_some, show (0 : Int32) = nI 0 from rfl, i3, Option.bind_some, if_pos rfl]
    · show fX9_removeException M 279 = _
      unfold fX9_removeException fX9_exceptionBy
      rcases exb_loop h a1 a3 a7 p1 p3 (fun j hj => ⟨(p4 j hj).1, (p4 j hj).2.2⟩) cnt 0 zFU (by omega) (by unfold zFU; omega) (fun j hj => absurd hj (by omega)) with ⟨j, j1, j2, j3⟩ | ⟨j2, j3⟩
      · obtain ⟨i, i4, i5⟩ := a9 j j1
        exact absurd (weq_tr (weq_sy i5) j2) (i2 i i4)
      · rw [zck_f h (by decide) zk_279, Option.bind_some, show (0 : Int32) = nI 0 from rfl, j3, Option.bind_some, if_neg (show ¬ nI 0 ≤ ((-1 : Int32), M).1 by show ¬ (0 : Int32) ≤ -1; decide)]
  -- the class
  obtain ⟨q1, r1, r2, r3⟩ := a4 i0 (by omega)
  obtain ⟨q2, s1, s2, s3⟩ := a4 (cnt - 1) (by omega)
  have hz0 := zexc r2
  have hz1 := zexc s2
  rw [← r3] at hz0
  rw [← s3] at hz1
  have hA : zO (zwI M 0 5 (nI (cnt - 1))) := h
  have hr166 : ∀ k, zR 166 k = none := by
    intro k
    rcases Nat.lt_or_ge k 10 with w | w
    · exact (by decide +kernel : ∀ k, k < 10 → zR 166 k = none) k w
    · unfold zR
      rw [show zRL.getD 166 [] = [none, none, none, none, none, none, none, none, none, none] by decide +kernel]
      simp [List.getD]
      rw [List.getElem?_eq_none (by simpa using w)]
      rfl
  have hB : zO (zwR (zwI M 0 5 (nI (cnt - 1))) 166 i0 (some (rr (cnt - 1)))) := zO_wR (hr166 _) hA
  have hC : zO (zwR (zwR (zwI M 0 5 (nI (cnt - 1))) 166 i0 (some (rr (cnt - 1)))) 166 (cnt - 1) (some (rr i0))) := zO_wR (hr166 _) hB
  obtain ⟨M1, eM1⟩ : ∃ M1, M1 = zwR (zwR (zwI M 0 5 (nI (cnt - 1))) 166 i0 (some (rr (cnt - 1)))) 166 (cnt - 1) (some (rr i0)) := ⟨_, rfl⟩
  have hO1 : zO M1 := by rw [eM1]; exact hC
  have hq1 : zq (fun q => q ≠ 0 ∧ q ≠ 166) M M1 := by
    rw [eM1]
    exact (zq_wI.wk (fun q z => z.1)).tr ((zq_wR.wk (fun q z => z.2)).tr (zq_wR.wk (fun q z => z.2)))
  have e05 : M1.2.1 0 5 = nI (cnt - 1) := by rw [eM1, zw_R, zw_R, zw_I, if_pos ⟨rfl, rfl⟩]
  have e166 : ∀ i, M1.2.2 166 i = if i = cnt - 1 then some (rr i0) else if i = i0 then some (rr (cnt - 1)) else M.2.2 166 i := fun i => by
    rw [eM1, zw_Rr, zw_Rr]
    simp only [true_and]
    rfl
  have hf8 : fX8_removeException M 0 = some (nI (cnt - 1), M1) := by
    have e1 : (zwI M 0 5 (nI (cnt - 1))).2.1 0 5 = nI (cnt - 1) := by rw [zw_I, if_pos ⟨rfl, rfl⟩]
    have e1b : (zwR (zwI M 0 5 (nI (cnt - 1))) 166 i0 (some (rr (cnt - 1)))).2.1 0 5 = nI (cnt - 1) := e1
    have e2 : (zwI M 0 5 (nI (cnt - 1))).2.2 166 i0 = some (rr i0) := q1
    have e3 : (zwI M 0 5 (nI (cnt - 1))).2.2 166 (cnt - 1) = some (rr (cnt - 1)) := q2
    unfold fX8_removeException
    rw [gr_0_1 h, Option.bind_some, Option.bind_some, zgI_f h (by decide) zk_5, Option.bind_some, p2, zck_f h (by decide) zk_0, Option.bind_some, show (0 : Int32) = nI 0 from rfl, i3, Option.bind_some, if_neg (n5i (by omega))]
    dsimp only
    rw [zgI_f h (by decide) zk_0, Option.bind_some, a2, show (1 : Int32) = nI 1 from rfl, pk_sub (by omega), zpI_f h (by decide) zk_0, Option.bind_some, gr_0_4 hA, Option.bind_some, zaR_f hA (by decide) zk_166 (by rw [zl_166]; omega), e2, Option.bind_some, Option.bind_some, Option.bind_some, zgI_f hA (by decide) zk_0, Option.bind_some, e1, zaR_f hA (by decide) zk_166 (by rw [zl_166]; omega), e3, Option.bind_some, zsR_f hA (by decide) zk_166 (by have := hz1.1.1; omega) hz1.1.2.1 (by rw [zl_166]; omega), Option.bind_some, gr_0_4 hB, Option.bind_some, zgI_f hB (by decide) zk_0, Option.bind_some, e1b, zsR_f hB (by decide) zk_166 (by have := hz0.1.1; omega) hz0.1.2.1 (by rw [zl_166]; omega), Option.bind_some, ← eM1, zgI_f hO1 (by decide) zk_0, Option.bind_some, e05]
  have hm : ∀ q, q ≠ 0 → M1.2.1 q = M.2.1 q := fun q hq => by
    by_cases e : q = 166
    · subst e
      rw [eM1, zw_R, zw_R]
      exact ((zq_wI (M := M) (a := 0) (k := 5) (v := nI (cnt - 1))).2 166 (by decide)).1
    · exact (hq1.2 q ⟨hq, e⟩).1
  -- the model
  have hAm : zO (zwI M1 279 49 (nI (cnt - 1))) := hO1
  rcases exb_loop hO1 a1 (by rw [hm 279 (by omega)]; exact a3) (fun i hi => by rw [hm 317 (by omega), hm 318 (by omega)]; exact a7 i hi) p1 (by rw [hm 279 (by omega)]; exact p3) (w' := w) (fun j hj => ⟨(p4 j hj).1, by rw [hm 281 (by omega)]; exact (p4 j hj).2.2⟩) cnt 0 zFU (by omega) (by unfold zFU; omega) (fun j hj => absurd hj (by omega)) with ⟨j0, j1, j2, j3⟩ | ⟨j2, j3⟩
  rotate_left
  · obtain ⟨j, j4, j5⟩ := a8 i0 i1
    exact absurd (weq_tr (weq_sy j5) i2) (j2 j j4)
  obtain ⟨M2, m1, m2, m3, m4⟩ := rx_loop (cnt := cnt - 1) (mw := mw) (by omega) (M0 := zwI M1 279 49 (nI (cnt - 1))) (j0 := j0) (cnt - 1 - j0) j0 zFU _ (by omega) (Nat.le_refl _) (by unfold zFU; omega) hAm zq.rf (by rw [zw_I, if_pos ⟨rfl, rfl⟩]) (fun j hj => by
    rw [if_pos hj]
    unfold mWd
    have := a7 j (by omega)
    refine ⟨this.1, by rw [zw_I, if_neg (by omega), hm 317 (by omega)]; exact this.2.1, fun t ht => by rw [zw_I, if_neg (by omega), hm 318 (by omega)]; exact this.2.2 t ht⟩) (fun j _ hj => by
    have := a7 j (by omega)
    refine ⟨this.1, by rw [zw_I, if_neg (by omega), hm 317 (by omega)]; exact this.2.1, fun t ht => by rw [zw_I, if_neg (by omega), hm 318 (by omega)]; exact this.2.2 t ht⟩)
  have h2 : zq (fun q => q ≠ 279 ∧ q ≠ 317 ∧ q ≠ 318) M1 M2 := (zq_wI.wk (fun q z => z.1)).tr (m3.wk (fun q z => z.2))
  -- which words are left
  have fc : ∀ i, i < cnt - 1 → ∃ i', i' < cnt ∧ i' ≠ i0 ∧ (if i = i0 then cw (cnt - 1) else cw i) = cw i' ∧ (i = i0 → i' = cnt - 1) ∧ (i ≠ i0 → i' = i) := fun i hi => by
    by_cases e : i = i0
    · exact ⟨cnt - 1, by omega, by omega, by rw [if_pos e], fun _ => rfl, fun z => absurd e z⟩
    · exact ⟨i, by omega, e, by rw [if_neg e], fun z => absurd z e, fun _ => rfl⟩
  have fm : ∀ j, j < cnt - 1 → ∃ j', j' < cnt ∧ j' ≠ j0 ∧ (if j < j0 then mw j else mw (j + 1)) = mw j' ∧ (j < j0 → j' = j) ∧ (¬ j < j0 → j' = j + 1) := fun j hj => by
    by_cases e : j < j0
    · exact ⟨j, by omega, by omega, by rw [if_pos e], fun _ => rfl, fun z => absurd e z⟩
    · exact ⟨j + 1, by omega, by omega, by rw [if_neg e], fun z => absurd z e, fun _ => rfl⟩
  refine ⟨nI (cnt - 1), M1, M2, hf8, hO1, ?_, inv_exc hI m2 ((hq1.wk (fun q z => by omega)).tr (h2.wk (fun q z => by omega))) (fun j hj => ?_) ?_⟩
  · show fX9_removeException M1 279 = _
    unfold fX9_removeException fX9_exceptionBy
    rw [zck_f hO1 (by decide) zk_279, Option.bind_some, show (0 : Int32) = nI 0 from rfl, j3, Option.bind_some, if_pos (show nI 0 ≤ (nI j0, M1).1 from nI_pos' (by omega))]
    dsimp only
    rw [zgI_f hO1 (by decide) zk_279, Option.bind_some, hm 279 (by omega), a3, show (1 : Int32) = nI 1 from rfl, pk_sub (by omega), zpI_f hO1 (by decide) zk_279, Option.bind_some]
    exact m1
  · rw [(m3.2 279 (by omega)).1, zw_I, if_neg (by omega), hm 279 (by omega)]
  · refine ⟨cnt - 1, fun i => if i = cnt - 1 then rr i0 else if i = i0 then rr (cnt - 1) else rr i, fun i => if i = i0 then cw (cnt - 1) else cw i, fun j => if j < j0 then mw j else mw (j + 1), by omega, by rw [(h2.2 0 (by omega)).1]; exact e05, by rw [(m3.2 279 (by omega)).1, zw_I, if_pos ⟨rfl, rfl⟩], fun i hi => ?_, fun i j hi hj hne => ?_, fun i hi => ?_, fun j hj => m4 j hj, fun i hi => ?_, fun j hj => ?_, fun i j hij hj => ?_, fun i j hij hj => ?_⟩
    · dsimp only
      rw [(h2.2 166 (by omega)).2, e166]
      by_cases e1 : i = cnt - 1
      · rw [if_pos e1, if_pos e1]
        exact ⟨rfl, r1, r2, r3⟩
      · rw [if_neg e1, if_neg e1]
        by_cases e2 : i = i0
        · rw [if_pos e2, if_pos e2]
          exact ⟨rfl, s1, s2, s3⟩
        · rw [if_neg e2, if_neg e2]
          exact a4 i hi
    · dsimp only
      have key : ∀ i, i < 10 → ∃ i', i' < 10 ∧ (if i = cnt - 1 then rr i0 else if i = i0 then rr (cnt - 1) else rr i) = rr i' ∧ ((i = cnt - 1 ∧ i' = i0) ∨ (i ≠ cnt - 1 ∧ i = i0 ∧ i' = cnt - 1) ∨ (i ≠ cnt - 1 ∧ i ≠ i0 ∧ i' = i)) := fun i hi => by
        by_cases e1 : i = cnt - 1
        · exact ⟨i0, by omega, by rw [if_pos e1], Or.inl ⟨e1, rfl⟩⟩
        · by_cases e2 : i = i0
          · exact ⟨cnt - 1, by omega, by rw [if_neg e1, if_pos e2], Or.inr (Or.inl ⟨e1, e2, rfl⟩)⟩
          · exact ⟨i, hi, by rw [if_neg e1, if_neg e2], Or.inr (Or.inr ⟨e1, e2, rfl⟩)⟩
      obtain ⟨i', x1, x2, x3⟩ := key i hi
      obtain ⟨j', y1, y2, y3⟩ := key j hj
      rw [x2, y2]
      exact a5 i' j' x1 y1 (by omega)
    · dsimp only
      obtain ⟨i', x1, x2, x3, x4, x5⟩ := fc i hi
      have hrr : (if i = cnt - 1 then rr i0 else if i = i0 then rr (cnt - 1) else rr i) = rr i' := by
        rw [if_neg (by omega)]
        by_cases e : i = i0
        · rw [if_pos e, x4 e]
        · rw [if_neg e, x5 e]
      obtain ⟨-, jj, y1, y2⟩ := a4 i' (by omega)
      rw [x3, hrr, (h2.2 (rr i') (by omega)).1, (h2.2 (rr i' + 1) (by omega)).1, hm _ (by omega), hm _ (by omega)]
      exact a6 i' x1
    · dsimp only
      obtain ⟨i', x1, x2, x3, -⟩ := fc i hi
      rw [x3]
      obtain ⟨j, y1, y2⟩ := a8 i' x1
      have hjne : j ≠ j0 := fun e => by
        subst e
        exact dc i' i0 x1 i1 x2 (weq_tr y2 (weq_tr j2 (weq_sy i2)))
      rcases Nat.lt_or_ge j j0 with q | q
      · exact ⟨j, by omega, by rw [if_pos q]; exact y2⟩
      · exact ⟨j - 1, by omega, by rw [if_neg (by omega), show j - 1 + 1 = j by omega]; exact y2⟩
    · dsimp only
      obtain ⟨j', x1, x2, x3, -⟩ := fm j hj
      rw [x3]
      obtain ⟨i, y1, y2⟩ := a9 j' x1
      have hine : i ≠ i0 := fun e => by
        subst e
        exact dm j' j0 x1 j1 x2 (weq_tr y2 (weq_tr i2 (weq_sy j2)))
      by_cases e : i = cnt - 1
      · exact ⟨i0, by omega, by rw [if_pos rfl, ← e]; exact y2⟩
      · exact ⟨i, by omega, by rw [if_neg hine]; exact y2⟩
    · dsimp only
      obtain ⟨i', x1, x2, x3, x4, x5⟩ := fc i (by omega)
      obtain ⟨j', y1, y2, y3, y4, y5⟩ := fc j hj
      rw [x3, y3]
      refine dc i' j' x1 y1 ?_
      by_cases e : i = i0
      · rw [x4 e, y5 (by omega)]
        omega
      · rw [x5 e]
        by_cases e2 : j = i0
        · rw [y4 e2]
          omega
        · rw [y5 e2]
          omega
    · dsimp only
      obtain ⟨i', x1, x2, x3, x4, x5⟩ := fm i (by omega)
      obtain ⟨j', y1, y2, y3, y4, y5⟩ := fm j hj
      rw [x3, y3]
      refine dm i' j' x1 y1 ?_
      by_cases e : i < j0
      · rw [x4 e]
        by_cases e2 : j < j0
        · rw [y4 e2]; omega
        · rw [y5 e2]; omega
      · rw [x5 e, y5 (by omega)]
        omega
