/-! ===== redo ===== -/
theorem rd_loop {M0 : Mem} {i n : Nat} (hi : i < 30) (hn : n ≤ 100) {e : Nat → Nat} (he : ∀ j, j < n → e j ≤ 126) (h316 : ∀ j, j < n → M0.2.1 316 (100 * i + j) = nI (e j)) : ∀ d j fuel M, j + d = n → d < fuel → zO M → zq (fun q => q ≠ 308) M0 M → (∀ t, t < j → M.2.1 308 t = nI (e t)) →
    ∃ M', fX9_redo_34L fuel M 279 (nI i) (nI n) (nI j) = fX9_redo_34 (fX9_redo_34L 0) M' 279 (nI i) (nI n) (nI n) ∧ zO M' ∧ zq (fun q => q ≠ 308) M0 M' ∧ (∀ t, t < n → M'.2.1 308 t = nI (e t)) := by
  intro d
  induction d with
  | zero =>
    intro j fuel M hd hf hM hq h1
    obtain ⟨f, rfl⟩ : ∃ f, fuel = f + 1 := ⟨fuel - 1, by omega⟩
    refine ⟨M, ?_, hM, hq, fun t ht => h1 t (by omega)⟩
    show fX9_redo_34 (fX9_redo_34L f) M 279 (nI i) (nI n) (nI j) = _
    rw [show j = n by omega]
    unfold fX9_redo_34
    rw [if_pos (Int32.le_refl _), if_pos (Int32.le_refl _)]
  | succ d ih =>
    intro j fuel M hd hf hM hq h1
    obtain ⟨f, rfl⟩ : ∃ f, fuel = f + 1 := ⟨fuel - 1, by omega⟩
    show ∃ M', fX9_redo_34 (fX9_redo_34L f) M 279 (nI i) (nI n) (nI j) = _ ∧ _
    have hv : M.2.1 316 (100 * i + j) = nI (e j) := by rw [(hq.2 316 (by omega)).1]; exact h316 j (by omega)
    have hc : chr (nI (e j)) := chr_code (by have := he j (by omega); omega)
    have hA : zO (zwI M 308 j (nI (e j))) := hM
    obtain ⟨M', a1, a2, a3, a4⟩ := ih (j + 1) f _ (by omega) (by omega) hA (hq.tr zq_wI) (fun t ht => by
      by_cases e1 : t = j
      · rw [zw_I, if_pos ⟨rfl, e1⟩, e1]
      · rw [zw_I, if_neg (by omega)]
        exact h1 t (by omega))
    refine ⟨M', ?_, a2, a3, a4⟩
    rw [← a1]
    unfold fX9_redo_34
    rw [if_neg (show ¬ nI n ≤ nI j by rw [nI_leN (by omega) (by omega)]; omega), gr_279_38 hM, Option.bind_some, gr_279_48 hM, Option.bind_some, show (100 : Int32) = nI 100 from rfl, pk_mul, nI_add, zaI_f hM (by decide) zk_316 (by rw [zl_316]; omega), Option.bind_some, hv, zsC_f hM (by decide) zk_308 (by rw [zl_308]; omega) hc, Option.bind_some, zlt_e, nI_1]
theorem redo_ok {M : Mem} (hI : Inv M) : Op (fX8_redo M 0) (fun M1 => fX9_redo M1 279) := by
  obtain ⟨h, hP, hE, hR, cc, len, ch, c1, c2, t1, t2, hK, hH⟩ := id hI
  have hl := t1.2.1
  obtain ⟨o, u, r, D, Ls, g1, g2, g3, g4, g5, g6, g7, g8, g9, g10, g11, g12⟩ := hH
  by_cases hr0 : r = 0
  · subst hr0
    refine op_same hI (-5) ?_ ?_
    · unfold fX8_redo
      rw [gr_0_6 h, Option.bind_some, zgI_f h (by decide) zk_187, Option.bind_some, g5, if_neg (show ¬ (0 : Int32) < nI 0 by decide)]
    · show fX9_redo M 279 = _
      unfold fX9_redo
      rw [zgI_f h (by decide) zk_279, Option.bind_some, g7, if_pos (show nI 0 = (0 : Int32) from rfl)]
  obtain ⟨N, b, w, hKf⟩ := iK_fn hK
  have hv := g9 u (by omega)
  rw [g8] at hv
  have hvn := vE_n hv
  -- the class
  have hA1 : zO (zwI M 187 2 (nI (u + 1))) := h
  have hMb : ∃ Mb, Mb = zwI (zwI M 187 2 (nI (u + 1))) 187 3 (nI (r - 1)) := ⟨_, rfl⟩
  obtain ⟨Mb, eMb⟩ := hMb
  have hOb : zO Mb := by rw [eMb]; exact h
  have hRb : Mb.2.2 = M.2.2 := by rw [eMb]; rfl
  have hqs : zq (fun q => q ≠ 187) M Mb := by rw [eMb]; exact zq_wI.tr zq_wI
  have hqb : zq (fun q => q < 187 ∨ 278 < q) M Mb := hqs.wk (fun q z => by omega)
  have k1 : Mb.2.1 187 1 = nI o := by rw [eMb]; simp [zw_I, g3]
  have k2 : Mb.2.1 187 2 = nI (u + 1) := by rw [eMb]; simp [zw_I]
  have k3 : Mb.2.1 187 3 = nI (r - 1) := by rw [eMb]; simp [zw_I]
  have hslot : cSl Mb ((o + u) % 30) (D u) := cSl_mv hqs (by omega) (by omega) (by omega) (g10 u (by omega))
  have hs30 : (o + u) % 30 < 30 := by omega
  obtain ⟨z1, z2, z3, z4, z5⟩ := zedit hs30
  have x2 : ((D u).1 = 1 ∧ (D u).2.1 ≤ len ∧ len + (D u).2.2.1 ≤ 100 ∧ Ls (u + 1) = len + (D u).2.2.1) ∨ ((D u).1 = 0 ∧ (D u).2.1 + (D u).2.2.1 ≤ len ∧ len = Ls (u + 1) + (D u).2.2.1) := by
    rcases hv.1 with ⟨q1, q2, q3, q4⟩ | ⟨q1, q2, q3, q4⟩
    · exact Or.inl ⟨q1, q2, by omega, q3⟩
    · exact Or.inr ⟨q1, q2, q4⟩
  obtain ⟨M1, ch', a1, a2, a3, a4, a5, a6⟩ := carry_both hR c1 c2 t1 t2 hKf hOb hqb hRb hs30 hslot hv.2 x2
  have hf8 : fX8_redo M 0 = some (nI (r - 1), M1) := by
    have e1 : (zwI M 187 2 (nI (u + 1))).2.1 187 3 = nI r := by rw [zw_I, if_neg (by omega)]; exact g5
    have hsb : fX1_stepForward M 187 = some (189 + 3 * ((o + u) % 30), Mb) := by
      unfold fX1_stepForward
      rw [zgI_f h (by decide) zk_187, Option.bind_some, g4, nI_1, zpI_f h (by decide) zk_187, Option.bind_some, zgI_f hA1 (by decide) zk_187, Option.bind_some, e1, show (1 : Int32) = nI 1 from rfl, pk_sub (by omega), zpI_f hA1 (by decide) zk_187, Option.bind_some, ← eMb, zgI_f hOb (by decide) zk_187, Option.bind_some, k2, zck_f hOb (by decide) zk_187, Option.bind_some, pk_sub (by omega), show u + 1 - 1 = u by omega, atx_ok hOb g1 (by omega) k1, Option.bind_some]
    unfold fX8_redo
    rw [gr_0_6 h, Option.bind_some, zgI_f h (by decide) zk_187, Option.bind_some, g5, if_pos (show (0 : Int32) < nI r by rw [show (0 : Int32) = nI 0 from rfl, nI_ltN (by omega) (by omega)]; omega), Option.bind_some, zck_f h (by decide) zk_187, Option.bind_some, hsb, Option.bind_some]
    dsimp only
    rw [zgI_f hOb (by omega) z1, Option.bind_some, hslot.1, zck_f hOb (by decide) zk_0, Option.bind_some, a1, Option.bind_some, gr_0_6 a2, Option.bind_some, zgI_f a2 (by decide) zk_187, Option.bind_some, (a3.2 187 (kfe_m (by omega))).1, k3]
  have hq1 : zq Fc M M1 := (hqb.wk (fun q z => z.2)).tr (a3.wk (fun q z => z.1))
  have hm : ∀ q, 279 ≤ q → M1.2.1 q = M.2.1 q := fun q hq => (hq1.2 q (Fc_m (by omega))).1
  -- the model
  obtain ⟨s1, s2, s3, s4⟩ := g12 0 (by omega)
  rw [show r - 1 - 0 = r - 1 by omega, Nat.add_zero] at s1 s2 s3 s4
  have hB1 : zO (zwI M1 279 44 (nI (r - 1))) := a2
  obtain ⟨M3, b1, b2, b3, b4⟩ := rd_loop (M0 := zwI M1 279 44 (nI (r - 1))) (i := r - 1) (n := (D u).2.2.1) (e := (D u).2.2.2) (by omega) hvn.1 (fun j hj => (hv.2 j hj).2) (fun j hj => by rw [zw_I, if_neg (by omega), hm 316 (by omega)]; exact s4 j hj) (D u).2.2.1 0 zFU _ (by omega) (by unfold zFU; omega) hB1 zq.rf (fun t ht => absurd ht (by omega))
  have v3 : ∀ q j, q ≠ 308 → q ≠ 279 → 279 ≤ q → M3.2.1 q j = M.2.1 q j := fun q j x z t => by
    rw [(b3.2 q x).1, zw_I, if_neg (by omega), hm q t]
  have v39 : ∀ j, M3.2.1 279 j = if j = 44 then nI (r - 1) else M.2.1 279 j := fun j => by
    rw [(b3.2 279 (by omega)).1, zw_I, hm 279 (by omega)]
    simp only [true_and]
  obtain ⟨Ma, m1, m2, m3, m4, m5, m6, m7⟩ := rem_ok b2 (u := u) (n := (D u).2.2.1) (pos := (D u).2.1) (δ := 0) (by omega) (by omega) (by omega) hvn.1 hvn.2.2 (I := (D u).1) (e := (D u).2.2.2) (fun j hj => ⟨(hv.2 j hj).2, b4 j hj⟩) (by rw [v39, if_neg (by omega)]; exact g6) (D := D) (fun i hi => ⟨(vE_n (g9 i (by omega))).1, (vE_n (g9 i (by omega))).2.2, fun j hj => ((g9 i (by omega)).2 j hj).2⟩) (fun i hi => uSl_mv b3 (fun q x y => by omega) (uSl_mv zq_wI (fun q x y => by omega) (uSl_mv hq1 (fun q x y => Fc_m (by omega)) (g11 i hi))))
  have hqa : zq (fun q => q < 279 ∨ (280 ≤ q ∧ q ≤ 307) ∨ 313 ≤ q) M1 Ma := (zq_wI.wk (fun q z => by omega)).tr ((b3.wk (fun q z => by omega)).tr (m3.wk (fun q z => by omega)))
  have w279 : ∀ j, Ma.2.1 279 j = if j = 39 then nI (u + 1) else M3.2.1 279 j := fun j => by
    by_cases e : j = 39
    · rw [if_pos e, e]
      exact m5
    · rw [if_neg e]
      exact m4 j e
  obtain ⟨M2, n1, n2, n3, n4, n5, n6⟩ := a6 Ma m2 (hqa.wk (fun q z => by omega)) (by rw [w279, if_neg (by omega), v39, if_neg (by omega), hm 279 (by omega)]) (fun j hj => by
    rw [(m3.2 308 (by omega)).1]
    exact b4 j hj)
  have h2 : zq Fm M1 M2 := (hqa.wk (fun q z => by unfold Fm at z; omega)).tr (n3.wk (fun q z => by
    unfold Fm at z
    refine ⟨⟨⟨by omega, by omega, by omega⟩, by omega⟩, by omega, by omega, by omega⟩))
  have u39 : M2.2.1 279 39 = nI (u + 1) := by rw [n4 39 (by omega), w279, if_pos rfl]
  have u44 : M2.2.1 279 44 = nI (r - 1) := by rw [n4 44 (by omega), w279, if_neg (by omega), v39, if_pos rfl]
  refine ⟨nI (r - 1), M1, M2, hf8, a2, ?_, inv_asm hP hE hR c1 c2 hq1 h2 (fun j x y z => ?_) n2 a4 a5 n5 n6 ?_⟩
  · show fX9_redo M1 279 = _
    have q44 : (zwI M1 279 44 (nI (r - 1))).2.1 279 44 = nI (r - 1) := by rw [zw_I, if_pos ⟨rfl, rfl⟩]
    have q315 : (zwI M1 279 44 (nI (r - 1))).2.1 315 (r - 1) = nI (D u).2.2.1 := by rw [zw_I, if_neg (by omega), hm 315 (by omega)]; exact s3
    have q313 : M3.2.1 313 (r - 1) = (D u).1 := by rw [v3 313 _ (by omega) (by omega) (by omega)]; exact s1
    have q314 : M3.2.1 314 (r - 1) = nI (D u).2.1 := by rw [v3 314 _ (by omega) (by omega) (by omega)]; exact s2
    have q313' : Ma.2.1 313 (r - 1) = (D u).1 := by rw [(m3.2 313 (by omega)).1]; exact q313
    have q314' : Ma.2.1 314 (r - 1) = nI (D u).2.1 := by rw [(m3.2 314 (by omega)).1]; exact q314
    unfold fX9_redo
    rw [zgI_f a2 (by decide) zk_279, Option.bind_some, hm 279 (by omega), g7, if_neg (show ¬ nI r = 0 from fun z => hr0 (nI_inj (by omega) (by omega) z)), Option.bind_some, show (1 : Int32) = nI 1 from rfl, pk_sub (by omega), zpI_f a2 (by decide) zk_279, Option.bind_some, zgI_f hB1 (by decide) zk_279, Option.bind_some, q44, gr_279_47 hB1, Option.bind_some, zaI_f hB1 (by decide) zk_315 (by rw [zl_315]; omega), Option.bind_some, q315, show (0 : Int32) = nI 0 from rfl, b1]
    unfold fX9_redo_34
    rw [if_pos (Int32.le_refl _), gr_279_45 b2, Option.bind_some, zaI_f b2 (by decide) zk_313 (by rw [zl_313]; omega), Option.bind_some, q313, gr_279_46 b2, Option.bind_some, zaI_f b2 (by decide) zk_314 (by rw [zl_314]; omega), Option.bind_some, q314, zck_f b2 (by decide) zk_279, Option.bind_some, m1, Option.bind_some, gr_279_45 m2, Option.bind_some, zaI_f m2 (by decide) zk_313 (by rw [zl_313]; omega), Option.bind_some, q313', gr_279_46 m2, Option.bind_some, zaI_f m2 (by decide) zk_314 (by rw [zl_314]; omega), Option.bind_some, q314', zck_f m2 (by decide) zk_279, Option.bind_some, n1, Option.bind_some, zgI_f n2 (by decide) zk_279, Option.bind_some, u44]
  · rw [n4 j x, w279, if_neg y, v39, if_neg z, hm 279 (by omega)]
  · refine ⟨o, u + 1, r - 1, D, Ls, g1, by omega, ?_, ?_, ?_, u39, u44, rfl, fun i hi => g9 i (by omega), fun i hi => ?_, fun i hi => ?_, fun j hj => ?_⟩
    · rw [(h2.2 187 (by unfold Fm; omega)).1, (a3.2 187 (kfe_m (by omega))).1, k1]
    · rw [(h2.2 187 (by unfold Fm; omega)).1, (a3.2 187 (kfe_m (by omega))).1, k2]
    · rw [(h2.2 187 (by unfold Fm; omega)).1, (a3.2 187 (kfe_m (by omega))).1, k3]
    · exact cSl_mv h2 (by unfold Fm; omega) (by unfold Fm; omega) (by unfold Fm; omega) (cSl_mv a3 (kfe_m (by omega)) (kfe_m (by omega)) (kfe_m (by omega)) (cSl_mv hqs (by omega) (by omega) (by omega) (g10 i (by omega))))
    · refine uSl_mv n3 (fun q x _ => mre_h (by omega)) ?_
      rcases Nat.lt_or_ge i u with w1 | w1
      · exact m6 i (by omega)
      · rw [show i = u - 0 by omega]
        exact m7
    · refine rSl_mv n3 (fun q x _ => mre_h (by omega)) (rSl_mv hqa (fun q x y => by omega) (rSl_mv hq1 (fun q x y => Fc_m (by omega)) ?_))
      have := g12 (j + 1) (by omega)
      rw [show r - 1 - (j + 1) = r - 1 - 1 - j by omega, show u + (j + 1) = u + 1 + j by omega] at this
      exact this
/-! ===== erase ===== -/
theorem ipc_ok {M : Mem} (h : zO M) {len : Nat} (hl : len ≤ 100) (e : M.2.1 2 1 = nI len) (p : Int32) : (fX8_isPositionOfCharacter M 0 p = some (0, M) ∧ fX9_in p 0 (nI len - 1) = some 0) ∨ (∃ pos, pos < len ∧ p = nI pos ∧ fX8_isPositionOfCharacter M 0 p = some (1, M) ∧ fX9_in p 0 (nI len - 1) = some 1) := by
  unfold fX8_isPositionOfCharacter fX9_in
  by_cases h1 : p < 0
  · left
    rw [if_pos h1, if_pos h1]
    exact ⟨rfl, rfl⟩
  · rw [if_neg h1, if_neg h1, gr_0_0 h, Option.bind_some, gr_1_0 h, Option.bind_some, zgI_f h (by decide) zk_2, Option.bind_some, e]
    obtain ⟨m, m1, rfl⟩ := i32_nn h1
    by_cases h2 : len ≤ m
    · left
      have h3 : nI len - 1 < nI m := by
        rcases Nat.eq_zero_or_pos len with e | e
        · rw [e]
          have : (nI 0 : Int32) - 1 < 0 := by decide
          exact Int32.lt_of_lt_of_le this (nI_pos' m1)
        · rw [show len = len - 1 + 1 by omega, dec1, nI_ltN (by omega) m1]
          omega
      rw [if_pos (show nI len ≤ nI m by rw [nI_leN (by omega) m1]; exact h2), if_pos h3]
      exact ⟨rfl, rfl⟩
    · right
      rw [if_neg (show ¬ nI len ≤ nI m by rw [nI_leN (by omega) m1]; exact h2), show len = len - 1 + 1 by omega, dec1, if_neg (show ¬ nI (len - 1) < nI m by rw [nI_ltN (by omega) m1]; omega)]
      exact ⟨m, by omega, rfl, rfl, rfl⟩
theorem er_loop {M0 : Mem} {pl n len : Nat} {ch : Nat → Nat} (hl : len ≤ 100) (hp : pl + n ≤ len) (hc : ∀ t, t < len → ch t ≤ 126) (h302 : ∀ t, t < len → M0.2.1 302 t = nI (ch t)) : ∀ d j fuel M, j + d = n → d < fuel → zO M → zq (fun q => q ≠ 308) M0 M → (∀ t, t < j → M.2.1 308 t = nI (ch (pl + t))) →
    ∃ M', fX9_erase_35L fuel M 279 (nI pl) (nI n) (nI j) = fX9_erase_35 (fX9_erase_35L 0) M' 279 (nI pl) (nI n) (nI n) ∧ zO M' ∧ zq (fun q => q ≠ 308) M0 M' ∧ (∀ t, t < n → M'.2.1 308 t = nI (ch (pl + t))) := by
  intro d
  induction d with
  | zero =>
    intro j fuel M hd hf hM hq h1
    obtain ⟨f, rfl⟩ : ∃ f, fuel = f + 1 := ⟨fuel - 1, by omega⟩
    refine ⟨M, ?_, hM, hq, fun t ht => h1 t (by omega)⟩
    show fX9_erase_35 (fX9_erase_35L f) M 279 (nI pl) (nI n) (nI j) = _
    rw [show j = n by omega]
    unfold fX9_erase_35
    rw [if_pos (Int32.le_refl _), if_pos (Int32.le_refl _)]
  | succ d ih =>
    intro j fuel M hd hf hM hq h1
    obtain ⟨f, rfl⟩ : ∃ f, fuel = f + 1 := ⟨fuel - 1, by omega⟩
    show ∃ M', fX9_erase_35 (fX9_erase_35L f) M 279 (nI pl) (nI n) (nI j) = _ ∧ _
    have hv : M.2.1 302 (pl + j) = nI (ch (pl + j)) := by rw [(hq.2 302 (by omega)).1]; exact h302 _ (by omega)
    have hcc : chr (nI (ch (pl + j))) := chr_code (by have := hc (pl + j) (by omega); omega)
    have hA : zO (zwI M 308 j (nI (ch (pl + j)))) := hM
    obtain ⟨M', a1, a2, a3, a4⟩ := ih (j + 1) f _ (by omega) (by omega) hA (hq.tr zq_wI) (fun t ht => by
      by_cases e1 : t = j
      · rw [zw_I, if_pos ⟨rfl, e1⟩, e1]
      · rw [zw_I, if_neg (by omega)]
        exact h1 t (by omega))
    refine ⟨M', ?_, a2, a3, a4⟩
    rw [← a1]
    unfold fX9_erase_35
    rw [if_neg (show ¬ nI n ≤ nI j by rw [nI_leN (by omega) (by omega)]; omega), gr_279_38 hM, Option.bind_some, gr_279_32 hM, Option.bind_some, nI_add, zaI_f hM (by decide) zk_302 (by rw [zl_302]; omega), Option.bind_some, hv, zsC_f hM (by decide) zk_308 (by rw [zl_308]; omega) hcc, Option.bind_some, zlt_e, nI_1]
theorem erase_ok {M : Mem} (hI : Inv M) (p x : Int32) : Op (fX8_erase M 0 p x) (fun M1 => fX9_erase M1 279 p x) := by
  obtain ⟨h, hP, hE, hR, cc, len, ch, c1, c2, t1, t2, hK, hH⟩ := id hI
  have hl := t1.2.1
  rcases ipc_ok h hl t1.1 p with ⟨p1, p2⟩ | ⟨pos, p0, rfl, p1, p2⟩
  · refine op_same hI (-1) ?_ ?_
    · unfold fX8_erase
      rw [zck_f h (by decide) zk_0, Option.bind_some, p1, Option.bind_some, if_pos rfl]
    · show fX9_erase M 279 p x = _
      unfold fX9_erase
      rw [zgI_f h (by decide) zk_279, Option.bind_some, t2.1, p2, Option.bind_some, if_pos rfl]
  by_cases hx1 : x < 1
  · refine op_same hI (-2) ?_ ?_
    · unfold fX8_erase
      rw [zck_f h (by decide) zk_0, Option.bind_some, p1, Option.bind_some, if_neg n10, if_pos hx1]
    · show fX9_erase M 279 (nI pos) x = _
      unfold fX9_erase
      rw [zgI_f h (by decide) zk_279, Option.bind_some, t2.1, p2, Option.bind_some, if_neg (by decide), Option.bind_some]
      unfold fX9_in
      rw [if_pos hx1, zrp_0, Option.bind_some, if_pos rfl]
  have hx0 : ¬ x < 0 := fun z => hx1 (Int32.lt_trans z (by decide))
  obtain ⟨n, n31, rfl⟩ := i32_nn hx0
  have hn1 : 1 ≤ n := by
    rcases Nat.eq_zero_or_pos n with e | e
    · subst e
      exact absurd (by decide) hx1
    · exact e
  by_cases hx2 : len - pos < n
  · refine op_same hI (-2) ?_ ?_
    · unfold fX8_erase
      rw [zck_f h (by decide) zk_0, Option.bind_some, p1, Option.bind_some, if_neg n10, if_neg hx1, gr_0_0 h, Option.bind_some, gr_1_0 h, Option.bind_some, zgI_f h (by decide) zk_2, Option.bind_some, t1.1, pk_sub (show pos ≤ len by omega), if_neg (show ¬ nI n ≤ nI (len - pos) by rw [nI_leN n31 (by omega)]; omega)]
    · show fX9_erase M 279 (nI pos) (nI n) = _
      unfold fX9_erase
      rw [zgI_f h (by decide) zk_279, Option.bind_some, t2.1, p2, Option.bind_some, if_neg (by decide), Option.bind_some]
      unfold fX9_in
      rw [if_neg hx1, pk_sub (show pos ≤ len by omega), if_pos (show nI (len - pos) < nI n by rw [nI_ltN (by omega) n31]; exact hx2), zrp_0, Option.bind_some, if_pos rfl]
  have hpn : pos + n ≤ len := by omega
  obtain ⟨o, u, r, D, Ls, g1, g2, g3, g4, g5, g6, g7, g8, g9, g10, g11, g12⟩ := hH
  obtain ⟨N, b, w, hKf⟩ := iK_fn hK
  -- the class
  obtain ⟨Ma, δ, d1, d2, d3, d4, d5, d6, d7, d8, d9⟩ := beg_ok h g1 (by omega) g3 g4
  have hs30 : (o + u) % 30 < 30 := by omega
  obtain ⟨z1, z2, z3, z4, z5⟩ := zedit hs30
  have hA1 : zO (zwI Ma (189 + 3 * ((o + u) % 30)) 1 0) := d4
  have hA2 : zO (zwI (zwI Ma (189 + 3 * ((o + u) % 30)) 1 0) (189 + 3 * ((o + u) % 30)) 2 (nI pos)) := d4
  have hqA : zq (fun q => q < 187 ∨ 278 < q) M (zwI (zwI Ma (189 + 3 * ((o + u) % 30)) 1 0) (189 + 3 * ((o + u) % 30)) 2 (nI pos)) := (d5.wk (fun q z => by omega)).tr ((zq_wI.wk (fun q z => by omega)).tr (zq_wI.wk (fun q z => by omega)))
  have tA := cTe_mv hqA (by omega) (by omega) t1
  obtain ⟨Mb, f1, f2, f3, f4, f5, f6⟩ := bec_ok hA2 (a := 190 + 3 * ((o + u) % 30)) (b := 2) (fr := pos) (cnt := n) (nb := len) z3 zrow_2 (by omega) tA.1 (by rw [show zsL (2 + 1) = 100 by decide +kernel]; omega) (fun i hi => by rw [show 2 + 1 = 3 from rfl, (tA.2.2 i hi).2.2]; exact chr_code (by have := (tA.2.2 i hi).2.1; omega)) hpn (by rw [show 190 + 3 * ((o + u) % 30) + 1 = 191 + 3 * ((o + u) % 30) by omega, z4]; omega)
  have hqb : zq (fun q => q < 187 ∨ 278 < q) M Mb := hqA.tr (f3.wk (fun q z => by omega))
  have hRb : Mb.2.2 = M.2.2 := by rw [f4]; exact d6
  have hslot : cSl Mb ((o + u) % 30) (0, pos, n, fun j => ch (pos + j)) := by
    refine ⟨?_, ?_, f5, fun j hj => ?_⟩
    · rw [(f3.2 _ (by omega)).1, zw_I, if_neg (by omega), zw_I, if_pos ⟨rfl, rfl⟩]
    · rw [(f3.2 _ (by omega)).1, zw_I, if_pos ⟨rfl, rfl⟩]
    · have hj' : j < n := hj
      have := f6 j hj'
      rw [show 190 + 3 * ((o + u) % 30) + 1 = 191 + 3 * ((o + u) % 30) by omega, show 2 + 1 = 3 from rfl, (tA.2.2 (pos + j) (by omega)).2.2] at this
      exact this
  have hold : ∀ s, s < 30 → s ≠ (o + u) % 30 → ∀ D, cSl M s D → cSl Mb s D := by
    intro s hs hne D' hD'
    exact cSl_mv f3 (by omega) (by omega) (by omega) (cSl_mv zq_wI (by omega) (by omega) (by omega) (cSl_mv zq_wI (by omega) (by omega) (by omega) (cSl_mv d5 (by omega) (by omega) (by omega) hD')))
  have h187 : ∀ j, Mb.2.1 187 j = Ma.2.1 187 j := fun j => by
    rw [(f3.2 187 (by omega)).1, zw_I, if_neg (by omega), zw_I, if_neg (by omega)]
  have hchv : ∀ j, j < n → 32 ≤ ch (pos + j) ∧ ch (pos + j) ≤ 126 := fun j hj => ⟨(t1.2.2 _ (by omega)).1, (t1.2.2 _ (by omega)).2.1⟩
  obtain ⟨M1, ch', a1, a2, a3, a4, a5, a6⟩ := carry_both (len' := len - n) (x := 0) hR c1 c2 t1 t2 hKf f2 hqb hRb hs30 hslot hchv (Or.inr ⟨rfl, hpn, by dsimp only; omega⟩)
  have hf8 : fX8_erase M 0 (nI pos) (nI n) = some (nI (len - n), M1) := by
    unfold fX8_erase
    rw [zck_f h (by decide) zk_0, Option.bind_some, p1, Option.bind_some, if_neg n10, if_neg hx1, gr_0_0 h, Option.bind_some, gr_1_0 h, Option.bind_some, zgI_f h (by decide) zk_2, Option.bind_some, t1.1, pk_sub (show pos ≤ len by omega), if_pos (show nI n ≤ nI (len - pos) by rw [nI_leN n31 (by omega)]; omega), gr_0_6 h, Option.bind_some, zck_f h (by decide) zk_187, Option.bind_some, d3, Option.bind_some]
    dsimp only
    rw [zpZ_f d4 (by omega) z1 (Or.inl rfl), Option.bind_some, zpI_f hA1 (by omega) z1, Option.bind_some, zgR_f hA2 (by omega) z1 z2, Option.bind_some, gr_0_0 hA2, Option.bind_some, gr_1_0 hA2, Option.bind_some, zck_f hA2 (by omega) z3.2.1, Option.bind_some, f1, Option.bind_some, zck_f f2 (by decide) zk_0, Option.bind_some, a1, Option.bind_some, gr_0_0 a2, Option.bind_some, gr_1_0 a2, Option.bind_some, zgI_f a2 (by decide) zk_2, Option.bind_some, a5.1]
  have hq1 : zq Fc M M1 := (hqb.wk (fun q z => z.2)).tr (a3.wk (fun q z => z.1))
  have hm : ∀ q, 279 ≤ q → M1.2.1 q = M.2.1 q := fun q hq => (hq1.2 q (Fc_m (by omega))).1
  -- the model
  obtain ⟨Mc, e1, e2, e3, e4⟩ := er_loop (M0 := M1) (pl := pos) (n := n) (len := len) (ch := ch) hl hpn (fun t ht => (t1.2.2 t ht).2.1) (fun t ht => by rw [hm 302 (by omega)]; exact (t2.2.2 t ht).2.2) n 0 zFU M1 (by omega) (by unfold zFU; omega) a2 zq.rf (fun t ht => absurd ht (by omega))
  have e279 : ∀ j, Mc.2.1 279 j = M.2.1 279 j := fun j => by rw [(e3.2 279 (by omega)).1, hm 279 (by omega)]
  obtain ⟨M3, m1, m2, m3, m4, m5, m6, m7⟩ := rem_ok e2 (u := u) (n := n) (pos := pos) (δ := δ) (by omega) d1 d2 (by omega) (Or.inl rfl) (I := 0) (e := fun j => ch (pos + j)) (fun j hj => ⟨(hchv j hj).2, e4 j hj⟩) (by rw [e279]; exact g6) (D := D) (fun i hi => ⟨(vE_n (g9 i (by omega))).1, (vE_n (g9 i (by omega))).2.2, fun j hj => ((g9 i (by omega)).2 j hj).2⟩) (fun i hi => uSl_mv e3 (fun q _ _ => by omega) (uSl_mv hq1 (fun q _ _ => Fc_m (by omega)) (g11 i hi)))
  have hAn : zO (zwI M3 279 44 (nI 0)) := m2
  have hq3 : zq (fun q => q ≠ 279 ∧ q ≠ 308 ∧ (q < 309 ∨ 312 < q)) M1 (zwI M3 279 44 (nI 0)) := (e3.wk (fun q z => z.2.1)).tr ((m3.wk (fun q z => ⟨z.1, z.2.2⟩)).tr (zq_wI.wk (fun q z => z.1)))
  have hf3 : ∀ j, j ≠ 39 → j ≠ 44 → (zwI M3 279 44 (nI 0)).2.1 279 j = M.2.1 279 j := fun j x y => by
    rw [zw_I, if_neg (by omega), m4 j x, e279]
  obtain ⟨M2, n1, n2, n3, n4, n5, n6⟩ := a6 (zwI M3 279 44 (nI 0)) hAn (hq3.wk (fun q z => by omega)) (by rw [hf3 31 (by omega) (by omega), hm 279 (by omega)]) (fun j hj => by
    rw [zw_I, if_neg (by omega), (m3.2 308 (by omega)).1]
    exact e4 j hj)
  have h2 : zq Fm M1 M2 := (hq3.wk (fun q z => by unfold Fm at z; omega)).tr (n3.wk (fun q z => by
    unfold Fm at z
    refine ⟨⟨⟨by omega, by omega, by omega⟩, by omega⟩, by omega, by omega, by omega⟩))
  have h9t : fX9_takeOut (zwI M3 279 44 (nI 0)) 279 (nI pos) (nI n) = some M2 := by
    have := n1
    unfold fX9_carryOut at this
    rw [if_pos rfl, zck_f hAn (by decide) zk_279, Option.bind_some] at this
    dsimp only at this
    cases hh : fX9_takeOut (zwI M3 279 44 (nI 0)) 279 (nI pos) (nI n) with
    | none => rw [hh] at this; cases this
    | some v => rw [hh, Option.bind_some] at this; exact this
  refine ⟨nI (len - n), M1, M2, hf8, a2, ?_, inv_asm hP hE hR c1 c2 hq1 h2 (fun j x y z => ?_) n2 a4 a5 n5 n6 ?_⟩
  · show fX9_erase M1 279 (nI pos) (nI n) = _
    unfold fX9_erase
    rw [zgI_f a2 (by decide) zk_279, Option.bind_some, hm 279 (by omega), t2.1, p2, Option.bind_some, if_neg (by decide), Option.bind_some, pk_sub (show pos ≤ len by omega)]
    have hin : fX9_in (nI n) 1 (nI (len - pos)) = some 1 := by
      unfold fX9_in
      rw [if_neg hx1, if_neg (show ¬ nI (len - pos) < nI n by rw [nI_ltN (by omega) n31]; omega)]
      rfl
    rw [hin, Option.bind_some, if_neg (by decide), show (0 : Int32) = nI 0 from rfl, e1]
    unfold fX9_erase_35
    rw [if_pos (Int32.le_refl _), zck_f e2 (by decide) zk_279, Option.bind_some, m1, Option.bind_some, show (0 : Int32) = nI 0 from rfl, zpI_f m2 (by decide) zk_279, Option.bind_some, zck_f hAn (by decide) zk_279, Option.bind_some, h9t, Option.bind_some, zgI_f n2 (by decide) zk_279, Option.bind_some, n5.1]
  · rw [n4 j x, hf3 j y z, hm 279 (by omega)]
  · refine iH_new (M := M) g1 g2 g8 g9 g10 d1 d2 ?_ ?_ ?_ ?_ ?_ (Dn := (0, pos, n, fun j => ch (pos + j))) ⟨Or.inr ⟨rfl, hpn, hl, by dsimp only; omega⟩, hchv⟩ ?_ (fun s hs hne D' hD' => ?_) (fun i hi => ?_) ?_
    · rw [(h2.2 187 (by unfold Fm; omega)).1, (a3.2 187 (kfe_m (by omega))).1, h187, d7]
    · rw [(h2.2 187 (by unfold Fm; omega)).1, (a3.2 187 (kfe_m (by omega))).1, h187, d8]
    · rw [(h2.2 187 (by unfold Fm; omega)).1, (a3.2 187 (kfe_m (by omega))).1, h187, d9]
    · rw [n4 39 (by omega), zw_I, if_neg (by omega), m5]
    · rw [n4 44 (by omega), zw_I, if_pos ⟨rfl, rfl⟩]
    · exact cSl_mv h2 (by unfold Fm; omega) (by unfold Fm; omega) (by unfold Fm; omega) (cSl_mv a3 (kfe_m (by omega)) (kfe_m (by omega)) (kfe_m (by omega)) hslot)
    · exact cSl_mv h2 (by unfold Fm; omega) (by unfold Fm; omega) (by unfold Fm; omega) (cSl_mv a3 (kfe_m (by omega)) (kfe_m (by omega)) (kfe_m (by omega)) (hold s hs hne D' hD'))
    · exact uSl_mv n3 (fun q x _ => mre_h (by omega)) (uSl_mv zq_wI (fun q x _ => by omega) (m6 i hi))
    · exact uSl_mv n3 (fun q x _ => mre_h (by omega)) (uSl_mv zq_wI (fun q x _ => by omega) m7)
