/-! ===== an edit, carried out on both sides ===== -/
theorem carry_both {M Mb : Mem} (hR : ∀ k, k < 3 → iRs M M k) {cc ch : Nat → Nat} {len : Nat} (c1 : cCs M cc) (c2 : mCs M cc) (t1 : cTe M len ch) (t2 : mTe M len ch) {N : Nat → Nat} {b : Nat → Nat → Nat} {w : Nat → Nat} (hKf : ∀ k, k < 3 → cK M M (acl cc ch) k len (N k) (b k) ∧ mK M k (N k) (b k) ∧ M.2.1 (8 + 48 * k) 2 = nI (w k) ∧ M.2.1 305 k = nI (w k)) (hOb : zO Mb) (hqb : zq (fun q => q < 187 ∨ 278 < q) M Mb) (hRb : Mb.2.2 = M.2.2) {s len' : Nat} {D : Ed} {x : Int32} (hs : s < 30) (hsl : cSl Mb s D) (hch : ∀ j, j < D.2.2.1 → 32 ≤ D.2.2.2 j ∧ D.2.2.2 j ≤ 126) (hx : (x = 1 ∧ D.2.1 ≤ len ∧ len + D.2.2.1 ≤ 100 ∧ len' = len + D.2.2.1) ∨ (x = 0 ∧ D.2.1 + D.2.2.1 ≤ len ∧ len = len' + D.2.2.1)) :
    ∃ M1 ch', fX8_carryOut Mb 0 (189 + 3 * s) x = some M1 ∧ zO M1 ∧ zq kfe Mb M1 ∧ wAll M1 ∧ cTe M1 len' ch' ∧ ∀ Ma, zO Ma → zq (fun q => q < 279 ∨ (280 ≤ q ∧ q ≤ 305)) M1 Ma → Ma.2.1 279 31 = M1.2.1 279 31 → (∀ j, j < D.2.2.1 → Ma.2.1 308 j = nI (D.2.2.2 j)) → ∃ M2, fX9_carryOut Ma 279 x (nI D.2.1) (nI D.2.2.1) = some M2 ∧ zO M2 ∧ zq mre Ma M2 ∧ (∀ j, j ≠ 31 → M2.2.1 279 j = Ma.2.1 279 j) ∧ mTe M2 len' ch' ∧ ∀ k, k < 3 → iK M2 len' (acl cc ch') k := by
  have hl := t1.2.1
  have hwb : wAll Mb := wAll_r hRb (fun k hk p hp => (hR k hk p hp).1)
  have hRsb : ∀ k, k < 3 → iRs Mb M k := fun k hk => iRs_mv hk hqb (fun p hp i x y => by unfold zra; omega) hwb (hR k hk)
  have htb := cTe_mv hqb (by omega) (by omega) t1
  have hcb := cCs_mv hqb (by omega) c1
  have hKb : ∀ k, k < 3 → cK Mb M (acl cc ch) k len (N k) (b k) := fun k hk => cK_mv hqb (by omega) (hKf k hk).1
  -- what the model needs
  have mod : ∀ M1 : Mem, zq kfe Mb M1 → ∀ Ma, zO Ma → zq (fun q => q < 279 ∨ (280 ≤ q ∧ q ≤ 305)) M1 Ma → Ma.2.1 279 31 = M1.2.1 279 31 → zq (fun q => 280 ≤ q ∧ q ≤ 305) M Ma ∧ mTe Ma len ch ∧ mCs Ma cc ∧ aRs Ma ∧ (∀ k, k < 3 → mB Ma k len (N k) (b k)) ∧ (∀ k, k < 3 → ∀ i0, aTo Ma (aCl Ma) k len (N k) (b k) D.2.1 i0 → b k i0 ≤ D.2.1) := by
    intro M1 a3 Ma hOa hqa h31
    have hq : zq (fun q => 280 ≤ q ∧ q ≤ 305) M Ma := (hqb.wk (fun q z => by omega)).tr ((a3.wk (fun q z => kfe_m (by omega))).tr (hqa.wk (fun q z => by omega)))
    have hTa : mTe Ma len ch := by
      unfold mTe
      rw [h31, (a3.2 279 (kfe_m (by omega))).1, (hqb.2 279 (by omega)).1, (hq.2 302 (by omega)).1]
      exact t2
    have hCa : mCs Ma cc := mCs_mv hq (by omega) c2
    have hBa : ∀ k, k < 3 → mB Ma k len (N k) (b k) := fun k hk => ⟨mK_mv hq (by omega) (by omega) (hKf k hk).2.1, (hKf k hk).1.1, (hKf k hk).1.2.1, (hKf k hk).1.2.2.1⟩
    refine ⟨hq, hTa, hCa, aRs_mv hq (by omega) (by omega) (aRs_of hR), hBa, fun k hk i0 hto => aTo_le (hKf k hk).1 ?_⟩
    rw [← aTo_mv hq (fun q x y => by omega)]
    exact aTo_cl (fun i hi => mB_le (hBa k hk) hi) (fun t ht => mTe_c hTa hCa ht) hto
  rcases hx with ⟨rfl, x1, x2, rfl⟩ | ⟨rfl, x1, x2⟩
  · obtain ⟨M1, a1, a2, a3, a4, a5, a6⟩ := cin_ok (Mr := M) hOb hRsb htb hcb hKb hs (e := D.2.2.2) hsl.2.1 hsl.2.2.1 (fun j hj => ⟨(hch j hj).1, (hch j hj).2, hsl.2.2.2 j hj⟩) x1 x2
    refine ⟨M1, _, a1, a2, a3, a4, a5, fun Ma hOa hqa h31 h308 => ?_⟩
    obtain ⟨hq, hTa, hCa, hRa, hBa, hto⟩ := mod M1 a3 Ma hOa hqa h31
    obtain ⟨M2, n1, n2, n3, n4, n5, n6⟩ := min_ok hOa hRa (e := D.2.2.2) hTa hBa hto (fun i hi => ⟨(hch i hi).1, (hch i hi).2, h308 i hi⟩) x1 x2
    refine ⟨M2, ?_, n2, n3, n4, n5, fun k hk => ?_⟩
    · unfold fX9_carryOut
      rw [if_neg (show ¬ (1 : Int32) = 0 by decide), zck_f hOa (by decide) zk_279, Option.bind_some, n1, Option.bind_some]
    · exact fin_k hk (hq.wk (fun q z => by omega)) ((hq.wk (fun q z => by omega)).tr (n3.wk (fun q z => mre_l (by omega) (by omega)))) ((hqa.wk (fun q z => by omega)).tr (n3.wk (fun q z => mre_l (by omega) (by omega)))) hTa hCa n5 (mCs_mv n3 (mre_l (by omega) (by omega)) hCa) (hKf k hk).1.2.1 (fun i hi => mB_le (hBa k hk) hi) (a6 k hk) (n6 k hk)
  · obtain ⟨M1, a1, a2, a3, a4, a5, a6⟩ := cout_ok (Mr := M) hOb hRsb htb hcb hKb hs hsl.2.1 hsl.2.2.1 x1
    have el : len - D.2.2.1 = len' := by omega
    rw [el] at a5 a6
    refine ⟨M1, _, a1, a2, a3, a4, a5, fun Ma hOa hqa h31 h308 => ?_⟩
    obtain ⟨hq, hTa, hCa, hRa, hBa, hto⟩ := mod M1 a3 Ma hOa hqa h31
    obtain ⟨M2, n1, n2, n3, n4, n5, n6⟩ := mout_ok hOa hRa hTa hBa hto x1
    rw [el] at n5 n6
    refine ⟨M2, ?_, n2, n3, n4, n5, fun k hk => ?_⟩
    · unfold fX9_carryOut
      rw [if_pos rfl, zck_f hOa (by decide) zk_279, Option.bind_some, n1, Option.bind_some]
    · exact fin_k hk (hq.wk (fun q z => by omega)) ((hq.wk (fun q z => by omega)).tr (n3.wk (fun q z => mre_l (by omega) (by omega)))) ((hqa.wk (fun q z => by omega)).tr (n3.wk (fun q z => mre_l (by omega) (by omega)))) hTa hCa n5 (mCs_mv n3 (mre_l (by omega) (by omega)) hCa) (hKf k hk).1.2.1 (fun i hi => mB_le (hBa k hk) hi) (a6 k hk) (n6 k hk)
theorem mre_h {q : Nat} (h : 308 ≤ q) : mre q := ⟨⟨⟨by omega, by omega, by omega⟩, by omega⟩, by omega, by omega, by omega⟩
/-! ===== undo ===== -/
theorem ud_loop {M0 : Mem} {i r n : Nat} (hi : i < 30) (hr : r < 30) (hn : n ≤ 100) {e : Nat → Nat} (he : ∀ j, j < n → e j ≤ 126) (h44 : M0.2.1 279 44 = nI r) (h312 : ∀ j, j < n → M0.2.1 312 (100 * i + j) = nI (e j)) : ∀ d j fuel M, j + d = n → d < fuel → zO M → zq (fun q => q ≠ 308 ∧ q ≠ 316) M0 M → (∀ t, t < j → M.2.1 308 t = nI (e t) ∧ M.2.1 316 (100 * r + t) = nI (e t)) → (∀ y, y < 100 * r → M.2.1 316 y = M0.2.1 316 y) →
    ∃ M', fX9_undo_34L fuel M 279 (nI i) (nI n) (nI j) = fX9_undo_34 (fX9_undo_34L 0) M' 279 (nI i) (nI n) (nI n) ∧ zO M' ∧ zq (fun q => q ≠ 308 ∧ q ≠ 316) M0 M' ∧ (∀ t, t < n → M'.2.1 308 t = nI (e t) ∧ M'.2.1 316 (100 * r + t) = nI (e t)) ∧ (∀ y, y < 100 * r → M'.2.1 316 y = M0.2.1 316 y) := by
  intro d
  induction d with
  | zero =>
    intro j fuel M hd hf hM hq h1 h2
    obtain ⟨f, rfl⟩ : ∃ f, fuel = f + 1 := ⟨fuel - 1, by omega⟩
    refine ⟨M, ?_, hM, hq, fun t ht => h1 t (by omega), h2⟩
    show fX9_undo_34 (fX9_undo_34L f) M 279 (nI i) (nI n) (nI j) = _
    rw [show j = n by omega]
    unfold fX9_undo_34
    rw [if_pos (Int32.le_refl _), if_pos (Int32.le_refl _)]
  | succ d ih =>
    intro j fuel M hd hf hM hq h1 h2
    obtain ⟨f, rfl⟩ : ∃ f, fuel = f + 1 := ⟨fuel - 1, by omega⟩
    show ∃ M', fX9_undo_34 (fX9_undo_34L f) M 279 (nI i) (nI n) (nI j) = _ ∧ _
    have hv : M.2.1 312 (100 * i + j) = nI (e j) := by rw [(hq.2 312 (by omega)).1]; exact h312 j (by omega)
    have hc : chr (nI (e j)) := chr_code (by have := he j (by omega); omega)
    have hA : zO (zwI M 308 j (nI (e j))) := hM
    have hB : zO (zwI (zwI M 308 j (nI (e j))) 316 (100 * r + j) (nI (e j))) := hM
    have e44 : (zwI M 308 j (nI (e j))).2.1 279 44 = nI r := by rw [zw_I, if_neg (by omega), (hq.2 279 (by omega)).1]; exact h44
    have e308 : (zwI M 308 j (nI (e j))).2.1 308 j = nI (e j) := by rw [zw_I, if_pos ⟨rfl, rfl⟩]
    obtain ⟨M', a1, a2, a3, a4, a5⟩ := ih (j + 1) f _ (by omega) (by omega) hB (hq.tr ((zq_wI.wk (fun q z => z.1)).tr (zq_wI.wk (fun q z => z.2)))) (fun t ht => by
      by_cases e1 : t = j
      · subst e1
        refine ⟨by rw [zw_I, if_neg (by omega), zw_I, if_pos ⟨rfl, rfl⟩], by rw [zw_I, if_pos ⟨rfl, rfl⟩]⟩
      · refine ⟨by rw [zw_I, if_neg (by omega), zw_I, if_neg (by omega)]; exact (h1 t (by omega)).1, by rw [zw_I, if_neg (by omega), zw_I, if_neg (by omega)]; exact (h1 t (by omega)).2⟩) (fun y hy => by
      rw [zw_I, if_neg (by omega), zw_I, if_neg (by omega)]
      exact h2 y hy)
    refine ⟨M', ?_, a2, a3, a4, a5⟩
    rw [← a1]
    unfold fX9_undo_34
    rw [if_neg (show ¬ nI n ≤ nI j by rw [nI_leN (by omega) (by omega)]; omega), gr_279_38 hM, Option.bind_some, gr_279_43 hM, Option.bind_some, show (100 : Int32) = nI 100 from rfl, pk_mul, nI_add, zaI_f hM (by decide) zk_312 (by rw [zl_312]; omega), Option.bind_some, hv, zsC_f hM (by decide) zk_308 (by rw [zl_308]; omega) hc, Option.bind_some, gr_279_48 hA, Option.bind_some, zgI_f hA (by decide) zk_279, Option.bind_some, e44, gr_279_38 hA, Option.bind_some, zaI_f hA (by decide) zk_308 (by rw [zl_308]; omega), Option.bind_some, e308, pk_mul, nI_add, zsC_f hA (by decide) zk_316 (by rw [zl_316]; omega) hc, Option.bind_some, zlt_e, nI_1]
theorem undo_ok {M : Mem} (hI : Inv M) : Op (fX8_undo M 0) (fun M1 => fX9_undo M1 279) := by
  obtain ⟨h, hP, hE, hR, cc, len, ch, c1, c2, t1, t2, hK, hH⟩ := id hI
  have hl := t1.2.1
  obtain ⟨o, u, r, D, Ls, g1, g2, g3, g4, g5, g6, g7, g8, g9, g10, g11, g12⟩ := hH
  by_cases hu0 : u = 0
  · subst hu0
    refine op_same hI (-5) ?_ ?_
    · unfold fX8_undo
      rw [gr_0_6 h, Option.bind_some, zgI_f h (by decide) zk_187, Option.bind_some, g4, if_neg (show ¬ (0 : Int32) < nI 0 by decide)]
    · show fX9_undo M 279 = _
      unfold fX9_undo
      rw [zgI_f h (by decide) zk_279, Option.bind_some, g6, if_pos (show nI 0 = (0 : Int32) from rfl)]
  obtain ⟨N, b, w, hKf⟩ := iK_fn hK
  have hv := g9 (u - 1) (by omega)
  rw [show u - 1 + 1 = u by omega, g8] at hv
  have hvn := vE_n hv
  -- the class
  have hA1 : zO (zwI M 187 2 (nI (u - 1))) := h
  have hMb : ∃ Mb, Mb = zwI (zwI M 187 2 (nI (u - 1))) 187 3 (nI (r + 1)) := ⟨_, rfl⟩
  obtain ⟨Mb, eMb⟩ := hMb
  have hOb : zO Mb := by rw [eMb]; exact h
  have hRb : Mb.2.2 = M.2.2 := by rw [eMb]; rfl
  have hqs : zq (fun q => q ≠ 187) M Mb := by rw [eMb]; exact zq_wI.tr zq_wI
  have hqb : zq (fun q => q < 187 ∨ 278 < q) M Mb := hqs.wk (fun q z => by omega)
  have k1 : Mb.2.1 187 1 = nI o := by rw [eMb]; simp [zw_I, g3]
  have k2 : Mb.2.1 187 2 = nI (u - 1) := by rw [eMb]; simp [zw_I]
  have k3 : Mb.2.1 187 3 = nI (r + 1) := by rw [eMb]; simp [zw_I]
  have hslot : cSl Mb ((o + (u - 1)) % 30) (D (u - 1)) := cSl_mv hqs (by omega) (by omega) (by omega) (g10 (u - 1) (by omega))
  have hs30 : (o + (u - 1)) % 30 < 30 := by omega
  obtain ⟨z1, z2, z3, z4, z5⟩ := zedit hs30
  have hdir : ∃ x : Int32, ((D (u - 1)).1 = 0 ∧ x = 1 ∨ (D (u - 1)).1 = 1 ∧ x = 0) ∧ ((x = 1 ∧ (D (u - 1)).2.1 ≤ len ∧ len + (D (u - 1)).2.2.1 ≤ 100 ∧ Ls (u - 1) = len + (D (u - 1)).2.2.1) ∨ (x = 0 ∧ (D (u - 1)).2.1 + (D (u - 1)).2.2.1 ≤ len ∧ len = Ls (u - 1) + (D (u - 1)).2.2.1)) := by
    rcases hv.1 with ⟨q1, q2, q3, q4⟩ | ⟨q1, q2, q3, q4⟩
    · exact ⟨0, Or.inr ⟨q1, rfl⟩, Or.inr ⟨rfl, by omega, by omega⟩⟩
    · exact ⟨1, Or.inl ⟨q1, rfl⟩, Or.inl ⟨rfl, by omega, by omega, by omega⟩⟩
  obtain ⟨x, x1, x2⟩ := hdir
  obtain ⟨M1, ch', a1, a2, a3, a4, a5, a6⟩ := carry_both hR c1 c2 t1 t2 hKf hOb hqb hRb hs30 hslot hv.2 x2
  have hf8 : fX8_undo M 0 = some (nI (u - 1), M1) := by
    have e1 : (zwI M 187 2 (nI (u - 1))).2.1 187 3 = nI r := by rw [zw_I, if_neg (by omega)]; exact g5
    have hsb : fX1_stepBack M 187 = some (189 + 3 * ((o + (u - 1)) % 30), Mb) := by
      unfold fX1_stepBack
      rw [zgI_f h (by decide) zk_187, Option.bind_some, g4, show u = u - 1 + 1 by omega, dec1, zpI_f h (by decide) zk_187, Option.bind_some, show u - 1 + 1 - 1 = u - 1 by omega, zgI_f hA1 (by decide) zk_187, Option.bind_some, e1, nI_1, zpI_f hA1 (by decide) zk_187, Option.bind_some, ← eMb, zgI_f hOb (by decide) zk_187, Option.bind_some, k2, zck_f hOb (by decide) zk_187, Option.bind_some, atx_ok hOb g1 (by omega) k1, Option.bind_some]
    have h35 : fX8_undo_35 Mb 0 0 (189 + 3 * ((o + (u - 1)) % 30)) x = some (nI (u - 1), M1) := by
      unfold fX8_undo_35
      rw [zck_f hOb (by decide) zk_0, Option.bind_some, a1, Option.bind_some, gr_0_6 a2, Option.bind_some, zgI_f a2 (by decide) zk_187, Option.bind_some, (a3.2 187 (kfe_m (by omega))).1, k2]
    unfold fX8_undo
    rw [gr_0_6 h, Option.bind_some, zgI_f h (by decide) zk_187, Option.bind_some, g4, if_pos (show (0 : Int32) < nI u by rw [show (0 : Int32) = nI 0 from rfl, nI_ltN (by omega) (by omega)]; omega), Option.bind_some, zck_f h (by decide) zk_187, Option.bind_some, hsb, Option.bind_some]
    dsimp only
    rw [zgI_f hOb (by omega) z1, Option.bind_some, hslot.1]
    rcases x1 with ⟨q1, rfl⟩ | ⟨q1, rfl⟩
    · rw [q1, if_pos rfl]
      exact h35
    · rw [q1, if_neg (by decide)]
      exact h35
  have hq1 : zq Fc M M1 := (hqb.wk (fun q z => z.2)).tr (a3.wk (fun q z => z.1))
  have hm : ∀ q, 279 ≤ q → M1.2.1 q = M.2.1 q := fun q hq => (hq1.2 q (Fc_m (by omega))).1
  -- the model
  obtain ⟨s1, s2, s3, s4⟩ := g11 (u - 1) (by omega)
  have hB1 : zO (zwI M1 279 39 (nI (u - 1))) := a2
  obtain ⟨M3, b1, b2, b3, b4, b5⟩ := ud_loop (M0 := zwI M1 279 39 (nI (u - 1))) (i := u - 1) (r := r) (n := (D (u - 1)).2.2.1) (e := (D (u - 1)).2.2.2) (by omega) (by omega) hvn.1 (fun j hj => (hv.2 j hj).2) (by rw [zw_I, if_neg (by omega), hm 279 (by omega)]; exact g7) (fun j hj => by rw [zw_I, if_neg (by omega), hm 312 (by omega)]; exact s4 j hj) (D (u - 1)).2.2.1 0 zFU _ (by omega) (by unfold zFU; omega) hB1 zq.rf (fun t ht => absurd ht (by omega)) (fun y _ => rfl)
  have v3 : ∀ q j, q ≠ 308 → q ≠ 316 → q ≠ 279 → 279 ≤ q → M3.2.1 q j = M.2.1 q j := fun q j x y z t => by
    rw [(b3.2 q ⟨x, y⟩).1, zw_I, if_neg (by omega), hm q t]
  have v39 : ∀ j, M3.2.1 279 j = if j = 39 then nI (u - 1) else M.2.1 279 j := fun j => by
    rw [(b3.2 279 (by omega)).1, zw_I, hm 279 (by omega)]
    simp only [true_and]
  have hC1 : zO (zwI M3 313 r (D (u - 1)).1) := b2
  have hC2 : zO (zwI (zwI M3 313 r (D (u - 1)).1) 314 r (nI (D (u - 1)).2.1)) := b2
  have hC3 : zO (zwI (zwI (zwI M3 313 r (D (u - 1)).1) 314 r (nI (D (u - 1)).2.1)) 315 r (nI (D (u - 1)).2.2.1)) := b2
  have hMa : ∃ Ma, Ma = zwI (zwI (zwI (zwI M3 313 r (D (u - 1)).1) 314 r (nI (D (u - 1)).2.1)) 315 r (nI (D (u - 1)).2.2.1)) 279 44 (nI (r + 1)) := ⟨_, rfl⟩
  obtain ⟨Ma, eMa⟩ := hMa
  have hOa : zO Ma := by rw [eMa]; exact b2
  have hqa : zq (fun q => q < 279 ∨ (280 ≤ q ∧ q ≤ 307) ∨ (309 ≤ q ∧ q ≤ 312) ∨ 317 ≤ q) M1 Ma := by
    rw [eMa]
    exact (zq_wI.wk (fun q z => by omega)).tr ((b3.wk (fun q z => by omega)).tr ((zq_wI.wk (fun q z => by omega)).tr ((zq_wI.wk (fun q z => by omega)).tr ((zq_wI.wk (fun q z => by omega)).tr (zq_wI.wk (fun q z => by omega))))))
  have w279 : ∀ j, Ma.2.1 279 j = if j = 44 then nI (r + 1) else M3.2.1 279 j := fun j => by
    rw [eMa]
    simp [zw_I]
  obtain ⟨M2, n1, n2, n3, n4, n5, n6⟩ := a6 Ma hOa (hqa.wk (fun q z => by omega)) (by rw [w279, if_neg (by omega), v39, if_neg (by omega), hm 279 (by omega)]) (fun j hj => by
    rw [eMa]
    simp [zw_I]
    exact (b4 j hj).1)
  have h2 : zq Fm M1 M2 := (hqa.wk (fun q z => by unfold Fm at z; omega)).tr (n3.wk (fun q z => by
    unfold Fm at z
    refine ⟨⟨⟨by omega, by omega, by omega⟩, by omega⟩, by omega, by omega, by omega⟩))
  have u39 : M2.2.1 279 39 = nI (u - 1) := by rw [n4 39 (by omega), w279, if_neg (by omega), v39, if_pos rfl]
  have u44 : M2.2.1 279 44 = nI (r + 1) := by rw [n4 44 (by omega), w279, if_pos rfl]
  refine ⟨nI (u - 1), M1, M2, hf8, a2, ?_, inv_asm hP hE hR c1 c2 hq1 h2 (fun j x y z => ?_) n2 a4 a5 n5 n6 ?_⟩
  · show fX9_undo M1 279 = _
    have h147 : fX9_undo_147 Ma 279 (nI (u - 1)) (nI (D (u - 1)).2.2.1) 279 x = some (nI (u - 1), M2) := by
      unfold fX9_undo_147
      have e310 : Ma.2.1 310 (u - 1) = nI (D (u - 1)).2.1 := by
        rw [(hqa.2 310 (by omega)).1, hm 310 (by omega)]
        exact s2
      rw [gr_279_41 hOa, Option.bind_some, zaI_f hOa (by decide) zk_310 (by rw [zl_310]; omega), Option.bind_some, e310, zck_f hOa (by decide) zk_279, Option.bind_some, n1, Option.bind_some, zgI_f n2 (by decide) zk_279, Option.bind_some, u39]
    have q309 : M3.2.1 309 (u - 1) = (D (u - 1)).1 := by rw [v3 309 _ (by omega) (by omega) (by omega) (by omega)]; exact s1
    have q309' : Ma.2.1 309 (u - 1) = (D (u - 1)).1 := by rw [(hqa.2 309 (by omega)).1, hm 309 (by omega)]; exact s1
    have q310 : (zwI M3 313 r (D (u - 1)).1).2.1 310 (u - 1) = nI (D (u - 1)).2.1 := by rw [zw_I, if_neg (by omega), v3 310 _ (by omega) (by omega) (by omega) (by omega)]; exact s2
    have q44 : M3.2.1 279 44 = nI r := by rw [v39, if_neg (by omega)]; exact g7
    have q44a : (zwI M3 313 r (D (u - 1)).1).2.1 279 44 = nI r := by rw [zw_I, if_neg (by omega)]; exact q44
    have q44b : (zwI (zwI M3 313 r (D (u - 1)).1) 314 r (nI (D (u - 1)).2.1)).2.1 279 44 = nI r := by rw [zw_I, if_neg (by omega)]; exact q44a
    have q44c : (zwI (zwI (zwI M3 313 r (D (u - 1)).1) 314 r (nI (D (u - 1)).2.1)) 315 r (nI (D (u - 1)).2.2.1)).2.1 279 44 = nI r := by rw [zw_I, if_neg (by omega)]; exact q44b
    have q39 : (zwI M1 279 39 (nI (u - 1))).2.1 279 39 = nI (u - 1) := by rw [zw_I, if_pos ⟨rfl, rfl⟩]
    have q311 : (zwI M1 279 39 (nI (u - 1))).2.1 311 (u - 1) = nI (D (u - 1)).2.2.1 := by rw [zw_I, if_neg (by omega), hm 311 (by omega)]; exact s3
    unfold fX9_undo
    rw [zgI_f a2 (by decide) zk_279, Option.bind_some, hm 279 (by omega), g6, if_neg (show ¬ nI u = 0 from fun z => hu0 (nI_inj (by omega) (by omega) z)), Option.bind_some, show u = u - 1 + 1 by omega, dec1, show u - 1 + 1 - 1 = u - 1 by omega, zpI_f a2 (by decide) zk_279, Option.bind_some, zgI_f hB1 (by decide) zk_279, Option.bind_some, q39, gr_279_42 hB1, Option.bind_some, zaI_f hB1 (by decide) zk_311 (by rw [zl_311]; omega), Option.bind_some, q311, show (0 : Int32) = nI 0 from rfl, b1]
    unfold fX9_undo_34
    rw [if_pos (Int32.le_refl _), gr_279_45 b2, Option.bind_some, zgI_f b2 (by decide) zk_279, Option.bind_some, q44, gr_279_40 b2, Option.bind_some, zaI_f b2 (by decide) zk_309 (by rw [zl_309]; omega), Option.bind_some, q309, zsZ_f b2 (by decide) zk_313 (by rw [zl_313]; omega) hvn.2.2, Option.bind_some, gr_279_46 hC1, Option.bind_some, zgI_f hC1 (by decide) zk_279, Option.bind_some, q44a, gr_279_41 hC1, Option.bind_some, zaI_f hC1 (by decide) zk_310 (by rw [zl_310]; omega), Option.bind_some, q310, zsI_f hC1 (by decide) zk_314 (by rw [zl_314]; omega), Option.bind_some, gr_279_47 hC2, Option.bind_some, zgI_f hC2 (by decide) zk_279, Option.bind_some, q44b, zsI_f hC2 (by decide) zk_315 (by rw [zl_315]; omega), Option.bind_some, zgI_f hC3 (by decide) zk_279, Option.bind_some, q44c, nI_1, zpI_f hC3 (by decide) zk_279, Option.bind_some, ← eMa, gr_279_40 hOa, Option.bind_some, zaI_f hOa (by decide) zk_309 (by rw [zl_309]; omega), Option.bind_some, q309']
    rcases x1 with ⟨q1, rfl⟩ | ⟨q1, rfl⟩
    · rw [q1, if_pos rfl]
      exact h147
    · rw [q1, if_neg (by decide)]
      exact h147
  · rw [n4 j x, w279, if_neg z, v39, if_neg y, hm 279 (by omega)]
  · refine ⟨o, u - 1, r + 1, D, Ls, g1, by omega, ?_, ?_, ?_, u39, u44, rfl, fun i hi => g9 i (by omega), fun i hi => ?_, fun i hi => ?_, fun j hj => ?_⟩
    · rw [(h2.2 187 (by unfold Fm; omega)).1, (a3.2 187 (kfe_m (by omega))).1, k1]
    · rw [(h2.2 187 (by unfold Fm; omega)).1, (a3.2 187 (kfe_m (by omega))).1, k2]
    · rw [(h2.2 187 (by unfold Fm; omega)).1, (a3.2 187 (kfe_m (by omega))).1, k3]
    · exact cSl_mv h2 (by unfold Fm; omega) (by unfold Fm; omega) (by unfold Fm; omega) (cSl_mv a3 (kfe_m (by omega)) (kfe_m (by omega)) (kfe_m (by omega)) (cSl_mv hqs (by omega) (by omega) (by omega) (g10 i (by omega))))
    · exact uSl_mv n3 (fun q x _ => mre_h (by omega)) (uSl_mv hqa (fun q x y => by omega) (uSl_mv hq1 (fun q x _ => Fc_m (by omega)) (g11 i (by omega))))
    · refine rSl_mv n3 (fun q x _ => mre_h (by omega)) ?_
      have p3 : ∀ y, Ma.2.1 313 y = if y = r then (D (u - 1)).1 else M.2.1 313 y := fun y => by rw [eMa]; simp [zw_I]; rw [v3 313 _ (by omega) (by omega) (by omega) (by omega)]
      have p4 : ∀ y, Ma.2.1 314 y = if y = r then nI (D (u - 1)).2.1 else M.2.1 314 y := fun y => by rw [eMa]; simp [zw_I]; rw [v3 314 _ (by omega) (by omega) (by omega) (by omega)]
      have p5 : ∀ y, Ma.2.1 315 y = if y = r then nI (D (u - 1)).2.2.1 else M.2.1 315 y := fun y => by rw [eMa]; simp [zw_I]; rw [v3 315 _ (by omega) (by omega) (by omega) (by omega)]
      have p6 : ∀ y, Ma.2.1 316 y = M3.2.1 316 y := fun y => by rw [eMa]; simp [zw_I]
      by_cases hj0 : j = 0
      · subst hj0
        refine ⟨by rw [p3, if_pos (by omega), Nat.add_zero], by rw [p4, if_pos (by omega), Nat.add_zero], by rw [p5, if_pos (by omega), Nat.add_zero], fun t ht => ?_⟩
        rw [p6, show r + 1 - 1 - 0 = r by omega]
        exact (b4 t ht).2
      · obtain ⟨e1, e2, e3, e4⟩ := g12 (j - 1) (by omega)
        rw [show r - 1 - (j - 1) = r + 1 - 1 - j by omega, show u + (j - 1) = u - 1 + j by omega] at e1 e2 e3 e4
        have hvj := (vE_n (g9 (u - 1 + j) (by omega))).1
        refine ⟨by rw [p3, if_neg (by omega)]; exact e1, by rw [p4, if_neg (by omega)]; exact e2, by rw [p5, if_neg (by omega)]; exact e3, fun t ht => ?_⟩
        rw [p6, b5 _ (by omega), zw_I, if_neg (by omega), hm 316 (by omega)]
        exact e4 t ht
