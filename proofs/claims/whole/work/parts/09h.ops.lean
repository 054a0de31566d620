/-! ===== guards ===== -/
theorem ikd_ok (x : Int32) : (fX8_isKind x = some 0 ∧ fX9_noKind x = some 1) ∨ (∃ k, k < 3 ∧ x = nI k ∧ fX8_isKind x = some 1 ∧ fX9_noKind x = some 0) := by
  unfold fX8_isKind fX9_noKind fX9_in
  by_cases h1 : x < 0
  · rw [if_pos h1, if_pos h1, zrp_0, Option.bind_some, if_pos rfl]
    exact Or.inl ⟨rfl, rfl⟩
  · rw [if_neg h1, if_neg h1]
    obtain ⟨m, m1, rfl⟩ := i32_nn h1
    rw [show (3 : Int32) = nI 3 from rfl, show (2 : Int32) = nI 2 from rfl]
    by_cases h2 : 3 ≤ m
    · rw [if_pos (show nI 3 ≤ nI m by rw [nI_leN (by omega) m1]; exact h2), if_pos (show nI 2 < nI m by rw [nI_ltN (by omega) m1]; omega), zrp_0, Option.bind_some, if_pos rfl]
      exact Or.inl ⟨rfl, rfl⟩
    · rw [if_neg (show ¬ nI 3 ≤ nI m by rw [nI_leN (by omega) m1]; exact h2), if_neg (show ¬ nI 2 < nI m by rw [nI_ltN (by omega) m1]; omega), zrp_1, Option.bind_some, if_neg (by decide)]
      exact Or.inr ⟨m, by omega, rfl, rfl, rfl⟩
theorem irp_ok (x y : Int32) : ((fX8_isKind x = some 0 ∨ (fX8_isKind x = some 1 ∧ fX8_isPlace y = some 0)) ∧ fX9_noRulePlace x y = some 1) ∨ (∃ k p, k < 3 ∧ p < 5 ∧ x = nI k ∧ y = nI p ∧ fX8_isKind x = some 1 ∧ fX8_isPlace y = some 1 ∧ fX9_noRulePlace x y = some 0) := by
  have hy : (fX8_isPlace y = some 0 ∧ fX9_in y 0 4 = some 0) ∨ (∃ p, p < 5 ∧ y = nI p ∧ fX8_isPlace y = some 1 ∧ fX9_in y 0 4 = some 1) := by
    unfold fX8_isPlace fX9_in
    by_cases h1 : y < 0
    · rw [if_pos h1, if_pos h1]
      exact Or.inl ⟨rfl, rfl⟩
    · rw [if_neg h1, if_neg h1]
      obtain ⟨m, m1, rfl⟩ := i32_nn h1
      rw [show (5 : Int32) = nI 5 from rfl, show (4 : Int32) = nI 4 from rfl]
      by_cases h2 : 5 ≤ m
      · rw [if_pos (show nI 5 ≤ nI m by rw [nI_leN (by omega) m1]; exact h2), if_pos (show nI 4 < nI m by rw [nI_ltN (by omega) m1]; omega)]
        exact Or.inl ⟨rfl, rfl⟩
      · rw [if_neg (show ¬ nI 5 ≤ nI m by rw [nI_leN (by omega) m1]; exact h2), if_neg (show ¬ nI 4 < nI m by rw [nI_ltN (by omega) m1]; omega)]
        exact Or.inr ⟨m, by omega, rfl, rfl, rfl⟩
  have hx : (fX8_isKind x = some 0 ∧ fX9_in x 0 2 = some 0) ∨ (∃ k, k < 3 ∧ x = nI k ∧ fX8_isKind x = some 1 ∧ fX9_in x 0 2 = some 1) := by
    unfold fX8_isKind fX9_in
    by_cases h1 : x < 0
    · rw [if_pos h1, if_pos h1]
      exact Or.inl ⟨rfl, rfl⟩
    · rw [if_neg h1, if_neg h1]
      obtain ⟨m, m1, rfl⟩ := i32_nn h1
      rw [show (3 : Int32) = nI 3 from rfl, show (2 : Int32) = nI 2 from rfl]
      by_cases h2 : 3 ≤ m
      · rw [if_pos (show nI 3 ≤ nI m by rw [nI_leN (by omega) m1]; exact h2), if_pos (show nI 2 < nI m by rw [nI_ltN (by omega) m1]; omega)]
        exact Or.inl ⟨rfl, rfl⟩
      · rw [if_neg (show ¬ nI 3 ≤ nI m by rw [nI_leN (by omega) m1]; exact h2), if_neg (show ¬ nI 2 < nI m by rw [nI_ltN (by omega) m1]; omega)]
        exact Or.inr ⟨m, by omega, rfl, rfl, rfl⟩
  unfold fX9_noRulePlace fX9_noRulePlace_18
  rcases hx with ⟨a1, a2⟩ | ⟨k, k1, rfl, a1, a2⟩
  · rw [a2, Option.bind_some, if_pos rfl]
    exact Or.inl ⟨Or.inl a1, rfl⟩
  · rw [a2, Option.bind_some, if_neg (by decide)]
    rcases hy with ⟨b1, b2⟩ | ⟨p, p1, rfl, b1, b2⟩
    · rw [b2, Option.bind_some, if_pos rfl]
      exact Or.inl ⟨Or.inr ⟨a1, b1⟩, rfl⟩
    · rw [b2, Option.bind_some, if_neg (by decide)]
      exact Or.inr ⟨k, p, k1, p1, rfl, rfl, a1, b1, rfl⟩
theorem icl_ok (x : Int32) : (fX8_isClass x = some 0 ∧ fX9_in x 0 11 = some 0) ∨ (∃ c, c < 12 ∧ x = nI c ∧ fX8_isClass x = some 1 ∧ fX9_in x 0 11 = some 1) := by
  unfold fX8_isClass fX9_in
  by_cases h1 : x < 0
  · rw [if_pos h1, if_pos h1]
    exact Or.inl ⟨rfl, rfl⟩
  · rw [if_neg h1, if_neg h1]
    obtain ⟨m, m1, rfl⟩ := i32_nn h1
    rw [show (12 : Int32) = nI 12 from rfl, show (11 : Int32) = nI 11 from rfl]
    by_cases h2 : 12 ≤ m
    · rw [if_pos (show nI 12 ≤ nI m by rw [nI_leN (by omega) m1]; exact h2), if_pos (show nI 11 < nI m by rw [nI_ltN (by omega) m1]; omega)]
      exact Or.inl ⟨rfl, rfl⟩
    · rw [if_neg (show ¬ nI 12 ≤ nI m by rw [nI_leN (by omega) m1]; exact h2), if_neg (show ¬ nI 11 < nI m by rw [nI_ltN (by omega) m1]; omega)]
      exact Or.inr ⟨m, by omega, rfl, rfl, rfl⟩
/-! ===== classOf, type, clearPattern, charAt, value, work, ruleText ===== -/
theorem classOf_ok {M : Mem} (hI : Inv M) {c : Nat} (hc16 : c < 65536) : Op (fX8_classOf M 0 (nI c)) (fun M1 => fX9_classOf M1 279 (nI c)) := by
  obtain ⟨h, hP, hE, hR, cc, len, ch, c1, c2, t1, t2, hK, hH⟩ := id hI
  rcases ichr_ok hc16 with ⟨b1, b2, b3, b4⟩ | ⟨b1, b3, b4⟩
  · have e1 := c1 (c - 32) (by omega)
    have e2 := c2 (c - 32) (by omega)
    rw [show 32 + (c - 32) = c by omega] at e2
    refine op_same hI (nI (cc (c - 32))) ?_ ?_
    · unfold fX8_classOf
      rw [b3, Option.bind_some, if_neg (by decide), gr_0_0 h, Option.bind_some, zck_f h (by decide) zk_1, Option.bind_some, coc_ok h b1 b2, Option.bind_some, e1.2]
    · show fX9_classOf M 279 (nI c) = _
      unfold fX9_classOf
      rw [b4, Option.bind_some, if_neg (by decide), gr_279_0 h, Option.bind_some, zaI_f h (by decide) zk_280 (by rw [zl_280]; omega), Option.bind_some, e2.2]
  · refine op_same hI (-2) ?_ ?_
    · unfold fX8_classOf
      rw [b3, Option.bind_some, if_pos rfl]
    · show fX9_classOf M 279 (nI c) = _
      unfold fX9_classOf
      rw [b4, Option.bind_some, if_pos rfl]
theorem zrow_5 : zrow 5 := ⟨by decide, zk_5, by decide +kernel, zk_6⟩
/-- cells that hold nothing but the pattern -/
theorem inv_pat {M M' : Mem} (hI : Inv M) (hz : zO M') (hq : zq (fun q => q ≠ 5 ∧ q ≠ 6 ∧ q ≠ 279 ∧ q ≠ 281) M M') (h279 : ∀ j, j ≠ 1 → M'.2.1 279 j = M.2.1 279 j) (hP : iP M') : Inv M' := by
  obtain ⟨h, -, hE, hR, cc, len, ch, c1, c2, t1, t2, hK, hH⟩ := hI
  have hw2 : wAll M' := fun k hk p hp => by
    obtain ⟨w1, w2, g⟩ := (hR k hk p hp).1
    exact ⟨w1, w2, zWt_mv (hq.2 _ (by unfold zra; omega)).2 g⟩
  refine ⟨hz, hP, iE_mv hq (by omega) (fun q x y => by omega) (by omega) (by omega) (h279 49 (by omega)) hE, fun k hk p hp => iRule_mr hq (fun q x y => by omega) (iRule_mv hq (fun i x y => by unfold zra; omega) (hw2 k hk p hp) (hR k hk p hp)), cc, len, ch, cCs_mv hq (by omega) c1, mCs_mv hq (by omega) c2, cTe_mv hq (by omega) (by omega) t1, ?_, fun k hk => ?_, ?_⟩
  · unfold mTe at *
    rw [h279 31 (by omega), (hq.2 302 (by omega)).1]
    exact t2
  · obtain ⟨N, b, w, a1, a2, a3, a4⟩ := hK k hk
    exact ⟨N, b, w, cK_mr hq (fun q x y => by omega) (cK_mv hq (by omega) a1), mK_mv hq (by omega) (by omega) a2, by rw [(hq.2 _ (by omega)).1]; exact a3, by rw [(hq.2 305 (by omega)).1]; exact a4⟩
  · obtain ⟨o, u, r, D, Ls, g1, g2, g3, g4, g5, g6, g7, g8, g9, g10, g11, g12⟩ := hH
    refine ⟨o, u, r, D, Ls, g1, g2, by rw [(hq.2 187 (by omega)).1]; exact g3, by rw [(hq.2 187 (by omega)).1]; exact g4, by rw [(hq.2 187 (by omega)).1]; exact g5, by rw [h279 39 (by omega)]; exact g6, by rw [h279 44 (by omega)]; exact g7, g8, g9, fun i hi => cSl_mv hq (by omega) (by omega) (by omega) (g10 i hi), fun i hi => uSl_mv hq (fun q x y => by omega) (g11 i hi), fun i hi => rSl_mv hq (fun q x y => by omega) (g12 i hi)⟩
theorem type_ok {M : Mem} (hI : Inv M) {c : Nat} (hc16 : c < 65536) : Op (fX8_type M 0 (nI c)) (fun M1 => fX9_type M1 279 (nI c)) := by
  obtain ⟨h, ⟨n, n1, n2, n3, n4⟩, -⟩ := id hI
  by_cases hn : n = 24
  · refine op_same hI (-3) ?_ ?_
    · unfold fX8_type
      rw [gr_0_1 h, Option.bind_some, zgI_f h (by decide) zk_5, Option.bind_some, n2, hn, show (24 : Int32) = nI 24 from rfl, if_neg Int32.lt_irrefl]
    · show fX9_type M 279 (nI c) = _
      unfold fX9_type
      rw [zgI_f h (by decide) zk_279, Option.bind_some, n3, hn, if_pos (show nI 24 = (24 : Int32) from rfl)]
  · have hcc : chr (nI c) := chr_code hc16
    have hap := append_ok h zrow_5 n2 (by rw [show zsL (5 + 1) = 24 by decide +kernel]; omega) hcc
    have hA : zO (zwI (zwI M (5 + 1) n (nI c)) 5 1 (nI (n + 1))) := h
    have hB : zO (zwI (zwI (zwI M (5 + 1) n (nI c)) 5 1 (nI (n + 1))) 281 n (nI c)) := h
    have e1 : (zwI (zwI M (5 + 1) n (nI c)) 5 1 (nI (n + 1))).2.1 279 1 = nI n := by simp [zw_I, n3]
    have e2 : (zwI (zwI (zwI M (5 + 1) n (nI c)) 5 1 (nI (n + 1))) 281 n (nI c)).2.1 279 1 = nI n := by simp [zw_I, n3]
    refine ⟨nI (n + 1), _, zwI (zwI (zwI (zwI M (5 + 1) n (nI c)) 5 1 (nI (n + 1))) 281 n (nI c)) 279 1 (nI (n + 1)), ?_, hA, ?_, ?_⟩
    · unfold fX8_type
      rw [gr_0_1 h, Option.bind_some, zgI_f h (by decide) zk_5, Option.bind_some, n2, show (24 : Int32) = nI 24 from rfl, if_pos (show nI n < nI 24 by rw [nI_ltN (by omega) (by omega)]; omega), Option.bind_some, zck_f h (by decide) zk_5, Option.bind_some, hap, Option.bind_some, gr_0_1 hA, Option.bind_some, zgI_f hA (by decide) zk_5, Option.bind_some, zw_I, if_pos ⟨rfl, rfl⟩]
    · show fX9_type _ 279 (nI c) = _
      have hC : zO (zwI (zwI (zwI (zwI M (5 + 1) n (nI c)) 5 1 (nI (n + 1))) 281 n (nI c)) 279 1 (nI (n + 1))) := h
      unfold fX9_type
      rw [zgI_f hA (by decide) zk_279, Option.bind_some, e1, if_neg (show ¬ nI n = 24 from fun z => hn (nI_inj (by omega) (by omega) z)), gr_279_2 hA, Option.bind_some, Option.bind_some, zsC_f hA (by decide) zk_281 (by rw [zl_281]; omega) hcc, Option.bind_some, zgI_f hB (by decide) zk_279, Option.bind_some, e2, nI_1, zpI_f hB (by decide) zk_279, Option.bind_some, zgI_f hC (by decide) zk_279, Option.bind_some]
      simp only [zw_I, and_self, if_true]
    · refine inv_pat hI h ((zq_wI.wk (fun q z => z.2.1)).tr ((zq_wI.wk (fun q z => z.1)).tr ((zq_wI.wk (fun q z => z.2.2.2)).tr (zq_wI.wk (fun q z => z.2.2.1))))) (fun j hj => by simp [zw_I, hj]) ⟨n + 1, by omega, by simp [zw_I], by simp [zw_I], fun i hi => ?_⟩
      by_cases e : i = n
      · subst e
        refine ⟨by simp [zw_I], by simp [zw_I]; exact hcc⟩
      · have := n4 i (by omega)
        refine ⟨by simp [zw_I, e]; exact this.1, by simp [zw_I, e]; exact this.2⟩
theorem clear_ok {M : Mem} (hI : Inv M) : Op (fX8_clearPattern M 0) (fun M1 => fX9_clearPattern M1 279) := by
  obtain ⟨h, ⟨n, n1, n2, n3, n4⟩, -⟩ := id hI
  have hA : zO (zwI M 5 1 (nI 0)) := h
  refine ⟨nI n, zwI M 5 1 (nI 0), zwI (zwI M 5 1 (nI 0)) 279 1 (nI 0), ?_, hA, ?_, ?_⟩
  · unfold fX8_clearPattern
    rw [gr_0_1 h, Option.bind_some, zgI_f h (by decide) zk_5, Option.bind_some, n2, Option.bind_some, show (0 : Int32) = nI 0 from rfl, zpI_f h (by decide) zk_5, Option.bind_some]
  · show fX9_clearPattern _ 279 = _
    unfold fX9_clearPattern
    rw [zgI_f hA (by decide) zk_279, Option.bind_some, zw_I, if_neg (by omega), n3, show (0 : Int32) = nI 0 from rfl, zpI_f hA (by decide) zk_279, Option.bind_some]
  · refine inv_pat hI h ((zq_wI.wk (fun q z => z.1)).tr (zq_wI.wk (fun q z => z.2.2.1))) (fun j hj => by simp [zw_I, hj]) ⟨0, by omega, by simp [zw_I], by simp [zw_I], fun i hi => absurd hi (by omega)⟩
theorem charAt_ok {M : Mem} (hI : Inv M) (p : Int32) : Op (fX8_charAt M 0 p) (fun M1 => fX9_charAt M1 279 p) := by
  obtain ⟨h, hP, hE, hR, cc, len, ch, c1, c2, t1, t2, hK, hH⟩ := id hI
  have hl := t1.2.1
  rcases ipc_ok h hl t1.1 p with ⟨p1, p2⟩ | ⟨pos, p0, rfl, p1, p2⟩
  · refine op_same hI (-1) ?_ ?_
    · unfold fX8_charAt
      rw [zck_f h (by decide) zk_0, Option.bind_some, p1, Option.bind_some, if_pos rfl]
    · show fX9_charAt M 279 p = _
      unfold fX9_charAt
      rw [zgI_f h (by decide) zk_279, Option.bind_some, t2.1, p2, Option.bind_some, if_pos rfl]
  · refine op_same hI (nI (ch pos)) ?_ ?_
    · have hat := at_ok h zrow_2 t1.1 (by rw [show zsL (2 + 1) = 100 by decide +kernel]; omega) (fun i hi => by rw [show 2 + 1 = 3 from rfl, (t1.2.2 i hi).2.2]; exact chr_code (by have := (t1.2.2 i hi).2.1; omega)) (i := pos) (by omega)
      rw [if_pos p0, show 2 + 1 = 3 from rfl, (t1.2.2 pos p0).2.2] at hat
      unfold fX8_charAt
      rw [zck_f h (by decide) zk_0, Option.bind_some, p1, Option.bind_some, if_neg n10]
      dsimp only
      rw [gr_0_0 h, Option.bind_some, gr_1_0 h, Option.bind_some, zck_f h (by decide) zk_2, Option.bind_some, hat, Option.bind_some]
    · show fX9_charAt M 279 (nI pos) = _
      unfold fX9_charAt
      rw [zgI_f h (by decide) zk_279, Option.bind_some, t2.1, p2, Option.bind_some, if_neg (by decide), gr_279_32 h, Option.bind_some, zaI_f h (by decide) zk_302 (by rw [zl_302]; omega), Option.bind_some, (t2.2.2 pos p0).2.2]
theorem value_ok {M : Mem} (hI : Inv M) (p : Int32) : Op (fX8_value M 0 p) (fun M1 => fX9_value M1 279 p) := by
  obtain ⟨h, ⟨n, n1, n2, n3, n4⟩, ⟨cnt, rr, cw, mw, e1, e2, e3, -⟩, hR, cc, len, ch, c1, c2, t1, t2, hK, o, u, r, D, Ls, g1, g2, g3, g4, g5, g6, g7, -⟩ := id hI
  have key : ∀ r, fX8_value M 0 p = some (r, M) → fX9_value M 279 p = some (r, M) → Op (fX8_value M 0 p) (fun M1 => fX9_value M1 279 p) := fun r a b => op_same hI r a b
  by_cases h0 : p = 0
  · subst h0
    refine key (nI len) ?_ ?_
    · unfold fX8_value
      rw [if_pos rfl, gr_0_0 h, Option.bind_some, gr_1_0 h, Option.bind_some, zgI_f h (by decide) zk_2, Option.bind_some, t1.1]
    · unfold fX9_value
      rw [if_pos rfl, zgI_f h (by decide) zk_279, Option.bind_some, t2.1]
  by_cases h1 : p = 1
  · subst h1
    refine key (nI n) ?_ ?_
    · unfold fX8_value
      rw [if_neg h0, if_pos rfl, gr_0_1 h, Option.bind_some, zgI_f h (by decide) zk_5, Option.bind_some, n2]
    · unfold fX9_value
      rw [if_neg h0, if_pos rfl, zgI_f h (by decide) zk_279, Option.bind_some, n3]
  by_cases h2 : p = 2
  · subst h2
    refine key (nI cnt) ?_ ?_
    · unfold fX8_value
      rw [if_neg h0, if_neg h1, if_pos rfl, zgI_f h (by decide) zk_0, Option.bind_some, e2]
    · unfold fX9_value
      rw [if_neg h0, if_neg h1, if_pos rfl, zgI_f h (by decide) zk_279, Option.bind_some, e3]
  by_cases h3 : p = 3
  · subst h3
    refine key (nI u) ?_ ?_
    · unfold fX8_value
      rw [if_neg h0, if_neg h1, if_neg h2, if_pos rfl, gr_0_6 h, Option.bind_some, zgI_f h (by decide) zk_187, Option.bind_some, g4]
    · unfold fX9_value
      rw [if_neg h0, if_neg h1, if_neg h2, if_pos rfl, zgI_f h (by decide) zk_279, Option.bind_some, g6]
  by_cases h4 : p = 4
  · subst h4
    refine key (nI r) ?_ ?_
    · unfold fX8_value
      rw [if_neg h0, if_neg h1, if_neg h2, if_neg h3, if_pos rfl, gr_0_6 h, Option.bind_some, zgI_f h (by decide) zk_187, Option.bind_some, g5]
    · unfold fX9_value
      rw [if_neg h0, if_neg h1, if_neg h2, if_neg h3, if_pos rfl, zgI_f h (by decide) zk_279, Option.bind_some, g7]
  · refine key (-2) ?_ ?_
    · unfold fX8_value
      rw [if_neg h0, if_neg h1, if_neg h2, if_neg h3, if_neg h4]
    · unfold fX9_value
      rw [if_neg h0, if_neg h1, if_neg h2, if_neg h3, if_neg h4]
theorem ar7 {M : Mem} (h : zO M) {k : Nat} (hk : k < 3) : zaR M 14 7 (nI k) = some (8 + 48 * k) := by
  obtain ⟨z1, z2, z3, z4, z5, z6, z7, z8⟩ := zkind hk
  rw [zaR_f h (by decide) zk_7 (by rw [zl_7]; exact hk)]
  exact h.2 _ _ _ z8
theorem ar9 {M : Mem} (h : zO M) {k p : Nat} (hk : k < 3) (hp : p < 5) : zaR M 17 (9 + 48 * k) (nI p) = some (zra k p) := by
  obtain ⟨z1, z2, z3, z4, z5, z6, z7, z8⟩ := zkind hk
  rw [zaR_f h (by omega) z2 (by rw [z4]; exact hp)]
  exact h.2 _ _ _ (zrule hk hp).2.2.1
theorem work_ok {M : Mem} (hI : Inv M) (x : Int32) : Op (fX8_work M 0 x) (fun M1 => fX9_work M1 279 x) := by
  obtain ⟨h, hP, hE, hR, cc, len, ch, c1, c2, t1, t2, hK, hH⟩ := id hI
  rcases ikd_ok x with ⟨a1, a2⟩ | ⟨k, hk, rfl, a1, a2⟩
  · refine op_same hI (-2) ?_ ?_
    · unfold fX8_work
      rw [a1, Option.bind_some, if_pos rfl]
    · show fX9_work M 279 x = _
      unfold fX9_work
      rw [a2, Option.bind_some, if_neg (by decide)]
  · obtain ⟨N, b, w, k1, k2, k3, k4⟩ := hK k hk
    obtain ⟨z1, z2, z3, z4, z5, z6, z7, z8⟩ := zkind hk
    refine op_same hI (nI w) ?_ ?_
    · unfold fX8_work
      rw [a1, Option.bind_some, if_neg (by decide), gr_0_2 h, Option.bind_some, ar7 h hk, Option.bind_some, zgI_f h (by omega) z1, Option.bind_some, k3]
    · show fX9_work M 279 (nI k) = _
      unfold fX9_work
      rw [a2, Option.bind_some, if_pos rfl, gr_279_35 h, Option.bind_some, zaI_f h (by decide) zk_305 (by rw [zl_305]; exact hk), Option.bind_some, k4]
theorem ruleText_ok {M : Mem} (hI : Inv M) (x y i : Int32) : Op (fX8_ruleText M 0 x y i) (fun M1 => fX9_ruleText M1 279 x y i) := by
  obtain ⟨h, hP, hE, hR, -⟩ := id hI
  rcases irp_ok x y with ⟨a1, a2⟩ | ⟨k, p, hk, hp, rfl, rfl, a1, a2, a3⟩
  · refine op_same hI (-2) ?_ ?_
    · unfold fX8_ruleText
      rcases a1 with a1 | ⟨a1, a3⟩
      · rw [a1, Option.bind_some, if_pos rfl]
      · rw [a1, Option.bind_some, if_neg (by decide), a3, Option.bind_some, if_pos rfl]
    · show fX9_ruleText M 279 x y i = _
      unfold fX9_ruleText
      rw [a2, Option.bind_some, if_neg (by decide)]
  obtain ⟨z1, z2, z3, z4, z5, z6, z7, z8⟩ := zkind hk
  obtain ⟨hC, hRr, hRl, hb1, hb2⟩ := zrule hk hp
  obtain ⟨-, n, n1, n2, n3, n4, -⟩ := hR k hk p hp
  by_cases hi : 0 ≤ i
  · obtain ⟨j, j1, rfl⟩ := i32_nn (x := i) (fun z => absurd hi (Int32.not_le.mpr z))
    by_cases hj : n ≤ j
    · refine op_same hI (-5) ?_ ?_
      · unfold fX8_ruleText
        rw [a1, Option.bind_some, if_neg (by decide), a2, Option.bind_some, if_neg (by decide), if_pos hi, gr_0_2 h, Option.bind_some, ar7 h hk, Option.bind_some, zgR_f h (by omega) z1 z6, Option.bind_some, ar9 h hk hp, Option.bind_some, zgR_f h (by omega) hC.1 hRr.1, Option.bind_some, zgI_f h (by omega) hC.2.1, Option.bind_some, n2, if_pos (show nI n ≤ nI j by rw [nI_leN (by omega) j1]; exact hj)]
      · show fX9_ruleText M 279 (nI k) (nI p) (nI j) = _
        unfold fX9_ruleText
        rw [a3, Option.bind_some, if_pos rfl, if_pos hi, zlt_e, show (5 : Int32) = nI 5 from rfl, pk_mul, nI_add, gr_279_20 h, Option.bind_some, zaI_f h (by decide) zk_291 (by rw [zl_291]; omega), Option.bind_some, n3, if_pos (show nI n ≤ nI j by rw [nI_leN (by omega) j1]; exact hj)]
    · have hjn : j < n := by omega
      obtain ⟨q1, q2⟩ := n4 j hjn
      refine op_same hI (M.2.1 292 (24 * (5 * k + p) + j)) ?_ ?_
      · have hat := at_ok h (a := zra k p + 1) ⟨by omega, hC.2.1, hRr.2.2.2.2.2.2.2, hC.2.2.1⟩ n2 (by rw [show zra k p + 1 + 1 = zra k p + 2 from rfl, hC.2.2.2.2.2.2.2.2.2.1]; omega) (fun i hi => by rw [show zra k p + 1 + 1 = zra k p + 2 from rfl, (n4 i hi).1]; exact (n4 i hi).2) (i := j) j1
        rw [if_pos hjn, show zra k p + 1 + 1 = zra k p + 2 from rfl, q1] at hat
        unfold fX8_ruleText
        rw [a1, Option.bind_some, if_neg (by decide), a2, Option.bind_some, if_neg (by decide), if_pos hi, gr_0_2 h, Option.bind_some, ar7 h hk, Option.bind_some, zgR_f h (by omega) z1 z6, Option.bind_some, ar9 h hk hp, Option.bind_some, zgR_f h (by omega) hC.1 hRr.1, Option.bind_some, zgI_f h (by omega) hC.2.1, Option.bind_some, n2, if_neg (show ¬ nI n ≤ nI j by rw [nI_leN (by omega) j1]; exact hj), zck_f h (by omega) hC.2.1, Option.bind_some, hat, Option.bind_some]
      · show fX9_ruleText M 279 (nI k) (nI p) (nI j) = _
        unfold fX9_ruleText
        rw [a3, Option.bind_some, if_pos rfl, if_pos hi, zlt_e, show (5 : Int32) = nI 5 from rfl, pk_mul, nI_add, gr_279_20 h, Option.bind_some, zaI_f h (by decide) zk_291 (by rw [zl_291]; omega), Option.bind_some, n3, if_neg (show ¬ nI n ≤ nI j by rw [nI_leN (by omega) j1]; exact hj), gr_279_21 h, Option.bind_some, show (24 : Int32) = nI 24 from rfl, pk_mul, nI_add, zaI_f h (by decide) zk_292 (by rw [zl_292]; omega), Option.bind_some]
  · refine op_same hI (-2) ?_ ?_
    · unfold fX8_ruleText
      rw [a1, Option.bind_some, if_neg (by decide), a2, Option.bind_some, if_neg (by decide), if_neg hi]
    · show fX9_ruleText M 279 (nI k) (nI p) i = _
      unfold fX9_ruleText
      rw [a3, Option.bind_some, if_pos rfl, if_neg hi]
