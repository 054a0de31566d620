/-! ===== become(); the model's remember() ===== -/
theorem bec_loop {a b fr cnt nb : Nat} (ha : zrow a) (hb : zrow b) (hab : a ≠ b ∧ a + 1 ≠ b + 1 ∧ a ≠ b + 1 ∧ a + 1 ≠ b) (hnb : nb ≤ zsL (b + 1)) (hf : fr + cnt ≤ nb) (hc : cnt ≤ zsL (a + 1)) {M0 : Mem} (hchr : ∀ i, i < nb → chr (M0.2.1 (b + 1) i)) (hsz : M0.2.1 b 1 = nI nb) : ∀ d i fuel M, i + d = cnt → d < fuel → zO M → zq (fun q => q ≠ a ∧ q ≠ a + 1) M0 M → M.2.2 = M0.2.2 → M.2.1 a 1 = nI i → (∀ j, j < i → M.2.1 (a + 1) j = M0.2.1 (b + 1) (fr + j)) →
    ∃ M', fX4_become_8L fuel M a b (nI fr) (nI cnt) (nI i) = some M' ∧ zO M' ∧ zq (fun q => q ≠ a ∧ q ≠ a + 1) M0 M' ∧ M'.2.2 = M0.2.2 ∧ M'.2.1 a 1 = nI cnt ∧ ∀ j, j < cnt → M'.2.1 (a + 1) j = M0.2.1 (b + 1) (fr + j) := by
  have hL1 := zsL_max (b + 1)
  intro d
  induction d with
  | zero =>
    intro i fuel M hd hfu hM hq hr h1 h2
    obtain ⟨f, rfl⟩ : ∃ f, fuel = f + 1 := ⟨fuel - 1, by omega⟩
    show ∃ M', fX4_become_8 (fX4_become_8L f) M a b (nI fr) (nI cnt) (nI i) = some M' ∧ _
    unfold fX4_become_8
    rw [if_pos (show nI cnt ≤ nI i by rw [nI_leN (by omega) (by omega)]; omega)]
    exact ⟨M, rfl, hM, hq, hr, by rw [h1, show i = cnt by omega], fun j hj => h2 j (by omega)⟩
  | succ d ih =>
    intro i fuel M hd hfu hM hq hr h1 h2
    obtain ⟨f, rfl⟩ : ∃ f, fuel = f + 1 := ⟨fuel - 1, by omega⟩
    show ∃ M', fX4_become_8 (fX4_become_8L f) M a b (nI fr) (nI cnt) (nI i) = some M' ∧ _
    unfold fX4_become_8
    have eb : M.2.1 (b + 1) = M0.2.1 (b + 1) := (hq.2 (b + 1) (by omega)).1
    have eb2 : M.2.1 b = M0.2.1 b := (hq.2 b (by omega)).1
    have hat := at_ok hM hb (n := nb) (by rw [eb2]; exact hsz) hnb (fun j hj => by rw [eb]; exact hchr j hj) (i := fr + i) (by omega)
    rw [if_pos (by omega), eb] at hat
    rw [if_neg (show ¬ nI cnt ≤ nI i by rw [nI_leN (by omega) (by omega)]; omega), zck_f hM (by have := hb.1; omega) hb.2.1, Option.bind_some, nI_add, hat, Option.bind_some]
    dsimp only
    rw [zck_f hM (by have := ha.1; omega) ha.2.1, Option.bind_some, append_ok hM ha h1 (by omega) (hchr _ (by omega)), Option.bind_some, zlt_e, nI_1]
    refine ih (i + 1) f _ (by omega) (by omega) hM (hq.tr ((zq_wI.wk (fun q z => z.2)).tr (zq_wI.wk (fun q z => z.1)))) hr (by rw [zw_I, if_pos ⟨rfl, rfl⟩]) (fun j hj => ?_)
    rw [zw_I, if_neg (by omega), zw_I]
    by_cases e : j = i
    · rw [if_pos ⟨rfl, e⟩, e]
    · rw [if_neg (fun z => e z.2)]
      exact h2 j (by omega)
theorem bec_ok {M : Mem} (h : zO M) {a b fr cnt nb : Nat} (ha : zrow a) (hb : zrow b) (hab : a ≠ b ∧ a + 1 ≠ b + 1 ∧ a ≠ b + 1 ∧ a + 1 ≠ b) (hsz : M.2.1 b 1 = nI nb) (hnb : nb ≤ zsL (b + 1)) (hchr : ∀ i, i < nb → chr (M.2.1 (b + 1) i)) (hf : fr + cnt ≤ nb) (hc : cnt ≤ zsL (a + 1)) :
    ∃ M', fX4_become M a b (nI fr) (nI cnt) = some M' ∧ zO M' ∧ zq (fun q => q ≠ a ∧ q ≠ a + 1) M M' ∧ M'.2.2 = M.2.2 ∧ M'.2.1 a 1 = nI cnt ∧ ∀ j, j < cnt → M'.2.1 (a + 1) j = M.2.1 (b + 1) (fr + j) := by
  have hL1 := zsL_max (b + 1)
  have hA : zO (zwI M a 1 (nI 0)) := h
  have e1 : (zwI M a 1 (nI 0)).2.1 (b + 1) = M.2.1 (b + 1) := zu2_ne (by omega)
  obtain ⟨M', g1, g2, g3, g4, g5, g6⟩ := bec_loop ha hb hab hnb hf hc (M0 := zwI M a 1 (nI 0)) (by rw [e1]; exact hchr) (by rw [zw_I, if_neg (by omega)]; exact hsz) cnt 0 zFU (zwI M a 1 (nI 0)) (by omega) (by unfold zFU; omega) hA zq.rf rfl (by rw [zw_I, if_pos ⟨rfl, rfl⟩]) (fun j hj => absurd hj (by omega))
  refine ⟨M', ?_, g2, (zq_wI.wk (fun q z => z.1)).tr g3, g4, g5, fun j hj => by rw [g6 j hj, e1]⟩
  unfold fX4_become
  rw [show (0 : Int32) = nI 0 from rfl, zpI_f h (by have := ha.1; omega) ha.2.1, Option.bind_some, g1]
theorem zsC_g {M : Mem} {a j : Nat} {v : Int32} (h : zO M) (ha : a < 320) (hk : zsK a = 10) (hj : j < zsL a) : zsC M a (nI j) v = some (zwI M a j (vp_nar .char v)) := by
  unfold zsC
  rw [if_pos ⟨⟨by rw [h.1]; exact ha, hk⟩, zin_nI hj (zsL_lt a)⟩, nI_clamp (by have := zsL_lt a; omega)]
/-- the characters of one remembered edit, moved down by one -/
theorem rm_in {x1 x2 x3 : Int32} {i : Nat} (hi : i < 29) (k22 : Mem → Nat → Int32 → Int32 → Int32 → Int32 → Option Mem) : ∀ d j fuel M, j + d = 100 → d < fuel → zO M →
    ∃ M', fX9_remember_82L k22 fuel M 279 x1 x2 x3 (nI i) (nI j) = k22 M' 279 x1 x2 x3 (nI (i + 1)) ∧ zO M' ∧ zq (fun a => a ≠ 312) M M' ∧ ∀ y, M'.2.1 312 y = if 100 * i + j ≤ y ∧ y < 100 * i + 100 then vp_nar .char (M.2.1 312 (y + 100)) else M.2.1 312 y := by
  intro d
  induction d with
  | zero =>
    intro j fuel M hd hf hM
    obtain ⟨f, rfl⟩ : ∃ f, fuel = f + 1 := ⟨fuel - 1, by omega⟩
    show ∃ M', fX9_remember_82 k22 (fX9_remember_82L k22 f) M 279 x1 x2 x3 (nI i) (nI j) = _ ∧ _
    unfold fX9_remember_82
    rw [show (100 : Int32) = nI 100 from rfl, if_pos (show nI 100 ≤ nI j by rw [nI_leN (by omega) (by omega)]; omega), zlt_e, nI_1]
    exact ⟨M, rfl, hM, zq.rf, fun y => by rw [if_neg (by omega)]⟩
  | succ d ih =>
    intro j fuel M hd hf hM
    obtain ⟨f, rfl⟩ : ∃ f, fuel = f + 1 := ⟨fuel - 1, by omega⟩
    show ∃ M', fX9_remember_82 k22 (fX9_remember_82L k22 f) M 279 x1 x2 x3 (nI i) (nI j) = _ ∧ _
    unfold fX9_remember_82
    rw [show (100 : Int32) = nI 100 from rfl, if_neg (show ¬ nI 100 ≤ nI j by rw [nI_leN (by omega) (by omega)]; omega), gr_279_43 hM, Option.bind_some, Option.bind_some, pk_mul, nI_add, nI_add, nI_add, zaI_f hM (by decide) zk_312 (by rw [zl_312]; omega), Option.bind_some, zsC_g hM (by decide) zk_312 (by rw [zl_312]; omega), Option.bind_some, zlt_e, nI_1]
    have hA : zO (zwI M 312 (100 * i + j) (vp_nar .char (M.2.1 312 (100 * i + 100 + j)))) := hM
    obtain ⟨M', a1, a2, a3, a4⟩ := ih (j + 1) f _ (by omega) (by omega) hA
    refine ⟨M', a1, a2, zq_wI.tr a3, fun y => ?_⟩
    rw [a4 y]
    by_cases e1 : y = 100 * i + j
    · rw [if_neg (by omega), if_pos (by omega), zw_I, if_pos ⟨rfl, e1⟩, e1, show 100 * i + j + 100 = 100 * i + 100 + j by omega]
    · by_cases e2 : 100 * i + (j + 1) ≤ y ∧ y < 100 * i + 100
      · rw [if_pos e2, if_pos (by omega), zw_I, if_neg (by omega)]
      · rw [if_neg e2, if_neg (by omega), zw_I, if_neg (by omega)]
theorem rm_sh {x1 x2 x3 : Int32} {D : Nat → Ed} (hv : ∀ i, i < 30 → (D i).2.2.1 ≤ 100 ∧ ((D i).1 = 0 ∨ (D i).1 = 1) ∧ ∀ j, j < (D i).2.2.1 → (D i).2.2.2 j ≤ 126) {M0 : Mem} : ∀ d i fuel M, i + d = 29 → d < fuel → zO M → zq (fun a => a < 309 ∨ 312 < a) M0 M → M.2.1 279 39 = nI 29 → (∀ j, j < i → uSl M j (D (j + 1))) → (∀ j, i ≤ j → j < 30 → uSl M j (D j)) →
    ∃ M', fX9_remember_22L fuel M 279 x1 x2 x3 (nI i) = fX9_remember_130 M' 279 x1 x2 x3 ∧ zO M' ∧ zq (fun a => a < 309 ∨ 312 < a) M0 M' ∧ ∀ j, j < 29 → uSl M' j (D (j + 1)) := by
  intro d
  induction d with
  | zero =>
    intro i fuel M hd hf hM hq hn h1 h2
    obtain ⟨f, rfl⟩ : ∃ f, fuel = f + 1 := ⟨fuel - 1, by omega⟩
    show ∃ M', fX9_remember_22 (fX9_remember_22L f) M 279 x1 x2 x3 (nI i) = _ ∧ _
    unfold fX9_remember_22
    rw [zgI_f hM (by decide) zk_279, Option.bind_some, hn, if_pos (show nI 29 ≤ nI i by rw [nI_leN (by omega) (by omega)]; omega)]
    exact ⟨M, rfl, hM, hq, fun j hj => h1 j (by omega)⟩
  | succ d ih =>
    intro i fuel M hd hf hM hq hn h1 h2
    obtain ⟨f, rfl⟩ : ∃ f, fuel = f + 1 := ⟨fuel - 1, by omega⟩
    show ∃ M', fX9_remember_22 (fX9_remember_22L f) M 279 x1 x2 x3 (nI i) = _ ∧ _
    obtain ⟨s1, s2, s3, s4⟩ := h2 (i + 1) (by omega) (by omega)
    obtain ⟨v1, v2, v3⟩ := hv (i + 1) (by omega)
    unfold fX9_remember_22
    have hA : zO (zwI M 309 i (D (i + 1)).1) := hM
    have hB : zO (zwI (zwI M 309 i (D (i + 1)).1) 310 i (nI (D (i + 1)).2.1)) := hM
    have hC : zO (zwI (zwI (zwI M 309 i (D (i + 1)).1) 310 i (nI (D (i + 1)).2.1)) 311 i (nI (D (i + 1)).2.2.1)) := hM
    have eA : (zwI M 309 i (D (i + 1)).1).2.1 310 (i + 1) = nI (D (i + 1)).2.1 := by rw [zw_I, if_neg (by omega)]; exact s2
    have eB : (zwI (zwI M 309 i (D (i + 1)).1) 310 i (nI (D (i + 1)).2.1)).2.1 311 (i + 1) = nI (D (i + 1)).2.2.1 := by rw [zw_I, if_neg (by omega), zw_I, if_neg (by omega)]; exact s3
    obtain ⟨M', a1, a2, a3, a4⟩ := rm_in (x1 := x1) (x2 := x2) (x3 := x3) (i := i) (by omega) (fX9_remember_22L f) 100 0 zFU _ (by omega) (by unfold zFU; omega) hC
    rw [zgI_f hM (by decide) zk_279, Option.bind_some, hn, if_neg (show ¬ nI 29 ≤ nI i by rw [nI_leN (by omega) (by omega)]; omega), gr_279_40 hM, Option.bind_some, Option.bind_some, nI_1, zaI_f hM (by decide) zk_309 (by rw [zl_309]; omega), Option.bind_some, s1, zsZ_f hM (by decide) zk_309 (by rw [zl_309]; omega) v2, Option.bind_some, gr_279_41 hA, Option.bind_some, Option.bind_some, zaI_f hA (by decide) zk_310 (by rw [zl_310]; omega), Option.bind_some, eA, zsI_f hA (by decide) zk_310 (by rw [zl_310]; omega), Option.bind_some, gr_279_42 hB, Option.bind_some, Option.bind_some, zaI_f hB (by decide) zk_311 (by rw [zl_311]; omega), Option.bind_some, eB, zsI_f hB (by decide) zk_311 (by rw [zl_311]; omega), Option.bind_some, show (0 : Int32) = nI 0 from rfl, a1]
    have hqC : zq (fun a => a < 309 ∨ 312 < a) M0 M' := hq.tr ((zq_wI.wk (fun q z => by omega)).tr ((zq_wI.wk (fun q z => by omega)).tr ((zq_wI.wk (fun q z => by omega)).tr (a3.wk (fun q z => by omega)))))
    have r1 : ∀ y, M'.2.1 309 y = if y = i then (D (i + 1)).1 else M.2.1 309 y := fun y => by
      rw [(a3.2 309 (by decide)).1]
      simp [zw_I]
    have r2 : ∀ y, M'.2.1 310 y = if y = i then nI (D (i + 1)).2.1 else M.2.1 310 y := fun y => by
      rw [(a3.2 310 (by decide)).1]
      simp [zw_I]
    have r3 : ∀ y, M'.2.1 311 y = if y = i then nI (D (i + 1)).2.2.1 else M.2.1 311 y := fun y => by
      rw [(a3.2 311 (by decide)).1]
      simp [zw_I]
    have r4 : ∀ y, M'.2.1 312 y = if 100 * i ≤ y ∧ y < 100 * i + 100 then vp_nar .char (M.2.1 312 (y + 100)) else M.2.1 312 y := fun y => by
      rw [a4 y]
      simp [zw_I]
    refine ih (i + 1) f M' (by omega) (by omega) a2 hqC ?_ (fun j hj => ?_) (fun j h3 h4 => ?_)
    · rw [(a3.2 279 (by decide)).1, zw_I, if_neg (by omega), zw_I, if_neg (by omega), zw_I, if_neg (by omega)]
      exact hn
    · rcases Nat.lt_or_ge j i with w | w
      · obtain ⟨t1, t2, t3, t4⟩ := h1 j w
        obtain ⟨w1, w2, w3⟩ := hv (j + 1) (by omega)
        refine ⟨by rw [r1, if_neg (by omega)]; exact t1, by rw [r2, if_neg (by omega)]; exact t2, by rw [r3, if_neg (by omega)]; exact t3, fun t ht => ?_⟩
        rw [r4, if_neg (by omega)]
        exact t4 t ht
      · have e : j = i := by omega
        subst e
        refine ⟨by rw [r1, if_pos rfl], by rw [r2, if_pos rfl], by rw [r3, if_pos rfl], fun t ht => ?_⟩
        rw [r4, if_pos (by omega), show 100 * j + t + 100 = 100 * (j + 1) + t by omega, s4 t ht]
        exact chr_code (by have := v3 t ht; omega)
    · obtain ⟨t1, t2, t3, t4⟩ := h2 j (by omega) h4
      refine ⟨by rw [r1, if_neg (by omega)]; exact t1, by rw [r2, if_neg (by omega)]; exact t2, by rw [r3, if_neg (by omega)]; exact t3, fun t ht => ?_⟩
      rw [r4, if_neg (by omega)]
      exact t4 t ht
/-- the new edit's characters -/
theorem rm_ch {u n : Nat} (hu : u < 30) (hn : n ≤ 100) {e : Nat → Nat} (he : ∀ j, j < n → e j ≤ 126) : ∀ d j fuel M, j + d = n → d < fuel → zO M → M.2.1 279 39 = nI u → (∀ t, t < n → M.2.1 308 t = nI (e t)) → (∀ t, t < j → M.2.1 312 (100 * u + t) = nI (e t)) →
    ∃ M', fX9_remember_163L fuel M 279 (nI n) (nI j) = some (zwI M' 279 39 (nI (u + 1))) ∧ zO M' ∧ zq (fun a => a ≠ 312) M M' ∧ (∀ y, y < 100 * u → M'.2.1 312 y = M.2.1 312 y) ∧ (∀ t, t < n → M'.2.1 312 (100 * u + t) = nI (e t)) := by
  intro d
  induction d with
  | zero =>
    intro j fuel M hd hf hM h0 h1 h2
    obtain ⟨f, rfl⟩ : ∃ f, fuel = f + 1 := ⟨fuel - 1, by omega⟩
    show ∃ M', fX9_remember_163 (fX9_remember_163L f) M 279 (nI n) (nI j) = _ ∧ _
    unfold fX9_remember_163
    rw [if_pos (show nI n ≤ nI j by rw [nI_leN (by omega) (by omega)]; omega), zgI_f hM (by decide) zk_279, Option.bind_some, h0, nI_1, zpI_f hM (by decide) zk_279, Option.bind_some]
    exact ⟨M, rfl, hM, zq.rf, fun y _ => rfl, fun t ht => h2 t (by omega)⟩
  | succ d ih =>
    intro j fuel M hd hf hM h0 h1 h2
    obtain ⟨f, rfl⟩ : ∃ f, fuel = f + 1 := ⟨fuel - 1, by omega⟩
    show ∃ M', fX9_remember_163 (fX9_remember_163L f) M 279 (nI n) (nI j) = _ ∧ _
    unfold fX9_remember_163
    rw [if_neg (show ¬ nI n ≤ nI j by rw [nI_leN (by omega) (by omega)]; omega), gr_279_43 hM, Option.bind_some, zgI_f hM (by decide) zk_279, Option.bind_some, h0, gr_279_38 hM, Option.bind_some, zaI_f hM (by decide) zk_308 (by rw [zl_308]; omega), Option.bind_some, h1 j (by omega), show (100 : Int32) = nI 100 from rfl, pk_mul, nI_add, zsC_f hM (by decide) zk_312 (by rw [zl_312]; omega) (chr_code (by have := he j (by omega); omega)), Option.bind_some, zlt_e, nI_1]
    have hA : zO (zwI M 312 (100 * u + j) (nI (e j))) := hM
    obtain ⟨M', a1, a2, a3, a4, a5⟩ := ih (j + 1) f _ (by omega) (by omega) hA (by rw [zw_I, if_neg (by omega)]; exact h0) (fun t ht => by rw [zw_I, if_neg (by omega)]; exact h1 t ht) (fun t ht => by
      rw [zw_I]
      by_cases e1 : t = j
      · rw [if_pos ⟨rfl, by omega⟩, e1]
      · rw [if_neg (by omega)]
        exact h2 t (by omega))
    exact ⟨M', a1, a2, zq_wI.tr a3, fun y hy => by rw [a4 y hy, zw_I, if_neg (by omega)], a5⟩
theorem rem_130 {M : Mem} (h : zO M) {u n pos : Nat} (hu : u < 30) (hn : n ≤ 100) {I : Int32} (hI : I = 0 ∨ I = 1) {e : Nat → Nat} (he : ∀ j, j < n → e j ≤ 126 ∧ M.2.1 308 j = nI (e j)) (h0 : M.2.1 279 39 = nI u) {D : Nat → Ed} (hv : ∀ i, i < u → (D i).2.2.1 ≤ 100) (hD : ∀ i, i < u → uSl M i (D i)) :
    ∃ M', fX9_remember_130 M 279 I (nI pos) (nI n) = some M' ∧ zO M' ∧ zq (fun a => a ≠ 279 ∧ (a < 309 ∨ 312 < a)) M M' ∧ (∀ j, j ≠ 39 → M'.2.1 279 j = M.2.1 279 j) ∧ M'.2.1 279 39 = nI (u + 1) ∧ (∀ i, i < u → uSl M' i (D i)) ∧ uSl M' u (I, pos, n, e) := by
  have hA : zO (zwI M 309 u I) := h
  have hB : zO (zwI (zwI M 309 u I) 310 u (nI pos)) := h
  have hC : zO (zwI (zwI (zwI M 309 u I) 310 u (nI pos)) 311 u (nI n)) := h
  have eA : (zwI M 309 u I).2.1 279 39 = nI u := by rw [zw_I, if_neg (by omega)]; exact h0
  have eB : (zwI (zwI M 309 u I) 310 u (nI pos)).2.1 279 39 = nI u := by rw [zw_I, if_neg (by omega)]; exact eA
  have eC : (zwI (zwI (zwI M 309 u I) 310 u (nI pos)) 311 u (nI n)).2.1 279 39 = nI u := by rw [zw_I, if_neg (by omega)]; exact eB
  obtain ⟨M', a1, a2, a3, a4, a5⟩ := rm_ch hu hn (fun j hj => (he j hj).1) n 0 zFU (zwI (zwI (zwI M 309 u I) 310 u (nI pos)) 311 u (nI n)) (by omega) (by unfold zFU; omega) hC eC (fun t ht => by rw [zw_I, if_neg (by omega), zw_I, if_neg (by omega), zw_I, if_neg (by omega)]; exact (he t ht).2) (fun t ht => absurd ht (by omega))
  have hqq : zq (fun a => a < 309 ∨ 312 < a) M M' := (zq_wI.wk (fun q z => by omega)).tr ((zq_wI.wk (fun q z => by omega)).tr ((zq_wI.wk (fun q z => by omega)).tr (a3.wk (fun q z => by omega))))
  have g1 : ∀ y, M'.2.1 309 y = if y = u then I else M.2.1 309 y := fun y => by
    rw [(a3.2 309 (by decide)).1]
    simp [zw_I]
  have g2 : ∀ y, M'.2.1 310 y = if y = u then nI pos else M.2.1 310 y := fun y => by
    rw [(a3.2 310 (by decide)).1]
    simp [zw_I]
  have g3 : ∀ y, M'.2.1 311 y = if y = u then nI n else M.2.1 311 y := fun y => by
    rw [(a3.2 311 (by decide)).1]
    simp [zw_I]
  have g4 : ∀ y, y < 100 * u → M'.2.1 312 y = M.2.1 312 y := fun y hy => by
    rw [a4 y hy, zw_I, if_neg (by omega), zw_I, if_neg (by omega), zw_I, if_neg (by omega)]
  refine ⟨_, ?_, (show zO (zwI M' 279 39 (nI (u + 1))) from a2), (hqq.wk (fun q z => z.2)).tr (zq_wI.wk (fun q z => z.1)), fun j hj => ?_, by rw [zw_I, if_pos ⟨rfl, rfl⟩], fun i hi => ?_, ?_⟩
  · unfold fX9_remember_130
    rw [gr_279_40 h, Option.bind_some, zgI_f h (by decide) zk_279, Option.bind_some, h0, zsZ_f h (by decide) zk_309 (by rw [zl_309]; omega) hI, Option.bind_some, gr_279_41 hA, Option.bind_some, zgI_f hA (by decide) zk_279, Option.bind_some, eA, zsI_f hA (by decide) zk_310 (by rw [zl_310]; omega), Option.bind_some, gr_279_42 hB, Option.bind_some, zgI_f hB (by decide) zk_279, Option.bind_some, eB, zsI_f hB (by decide) zk_311 (by rw [zl_311]; omega), Option.bind_some, show (0 : Int32) = nI 0 from rfl, a1]
  · rw [zw_I, if_neg (by omega), (hqq.2 279 (by decide)).1]
  · obtain ⟨t1, t2, t3, t4⟩ := hD i hi
    have hvi := hv i hi
    refine ⟨by rw [zw_I, if_neg (by omega), g1, if_neg (by omega)]; exact t1, by rw [zw_I, if_neg (by omega), g2, if_neg (by omega)]; exact t2, by rw [zw_I, if_neg (by omega), g3, if_neg (by omega)]; exact t3, fun t ht => ?_⟩
    rw [zw_I, if_neg (by omega), g4 _ (by omega)]
    exact t4 t ht
  · refine ⟨by rw [zw_I, if_neg (by omega), g1, if_pos rfl], by rw [zw_I, if_neg (by omega), g2, if_pos rfl], by rw [zw_I, if_neg (by omega), g3, if_pos rfl], fun t ht => ?_⟩
    rw [zw_I, if_neg (by omega)]
    exact a5 t ht
theorem rem_ok {M : Mem} (h : zO M) {u n pos δ : Nat} (hu : u ≤ 30) (hd : δ ≤ 1) (hd2 : δ = 1 ↔ u = 30) (hn : n ≤ 100) {I : Int32} (hI : I = 0 ∨ I = 1) {e : Nat → Nat} (he : ∀ j, j < n → e j ≤ 126 ∧ M.2.1 308 j = nI (e j)) (h0 : M.2.1 279 39 = nI u) {D : Nat → Ed} (hv : ∀ i, i < u → (D i).2.2.1 ≤ 100 ∧ ((D i).1 = 0 ∨ (D i).1 = 1) ∧ ∀ j, j < (D i).2.2.1 → (D i).2.2.2 j ≤ 126) (hD : ∀ i, i < u → uSl M i (D i)) :
    ∃ M', fX9_remember M 279 I (nI pos) (nI n) = some M' ∧ zO M' ∧ zq (fun a => a ≠ 279 ∧ (a < 309 ∨ 312 < a)) M M' ∧ (∀ j, j ≠ 39 → M'.2.1 279 j = M.2.1 279 j) ∧ M'.2.1 279 39 = nI (u - δ + 1) ∧ (∀ i, i < u - δ → uSl M' i (D (i + δ))) ∧ uSl M' (u - δ) (I, pos, n, e) := by
  unfold fX9_remember
  rw [zgI_f h (by decide) zk_279, Option.bind_some, h0, show (30 : Int32) = nI 30 from rfl]
  by_cases hu30 : u = 30
  · have e1 : δ = 1 := hd2.mpr hu30
    subst e1
    subst hu30
    have hA : zO (zwI M 279 39 (nI 29)) := h
    obtain ⟨M1, a1, a2, a3, a4⟩ := rm_sh (x1 := I) (x2 := nI pos) (x3 := nI n) hv (M0 := zwI M 279 39 (nI 29)) 29 0 zFU (zwI M 279 39 (nI 29)) (by omega) (by unfold zFU; omega) hA zq.rf (by rw [zw_I, if_pos ⟨rfl, rfl⟩]) (fun j hj => absurd hj (by omega)) (fun j _ hj => uSl_mv zq_wI (fun q _ _ => by omega) (hD j hj))
    obtain ⟨M', b1, b2, b3, b4, b5, b6, b7⟩ := rem_130 a2 (u := 29) (n := n) (pos := pos) (by omega) hn hI (e := e) (fun j hj => ⟨(he j hj).1, by rw [(a3.2 308 (by decide)).1, zw_I, if_neg (by omega)]; exact (he j hj).2⟩) (by rw [(a3.2 279 (by decide)).1, zw_I, if_pos ⟨rfl, rfl⟩]) (D := fun i => D (i + 1)) (fun i hi => (hv (i + 1) (by omega)).1) a4
    refine ⟨M', ?_, b2, ((zq_wI.wk (fun q z => z.1)).tr (a3.wk (fun q z => z.2))).tr b3, fun j hj => ?_, b5, b6, b7⟩
    · rw [if_pos rfl, Option.bind_some, show (1 : Int32) = nI 1 from rfl, pk_sub (by omega), zpI_f h (by decide) zk_279, Option.bind_some, show (0 : Int32) = nI 0 from rfl, show 30 - 1 = 29 from rfl, a1, b1]
    · rw [b4 j hj, (a3.2 279 (by decide)).1, zw_I, if_neg (by omega)]
  · have e1 : δ = 0 := by
      rcases (show δ = 0 ∨ δ = 1 by omega) with w | w
      · exact w
      · exact absurd (hd2.mp w) hu30
    subst e1
    rw [if_neg (fun z => hu30 (nI_inj (by omega) (by omega) z))]
    exact rem_130 h (by omega) hn hI he h0 (fun i hi => (hv i hi).1) hD
