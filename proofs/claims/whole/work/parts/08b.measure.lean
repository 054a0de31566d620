/-! ===== the class's measure() ===== -/
/-- what an analysis of kind k at a position leaves as it is -/
def kfr (k : Nat) : Nat → Prop := fun q => q ≠ 8 + 48 * k ∧ ∀ p, p < 5 → q ≠ zra k p ∧ q ≠ zra k p + 7 ∧ q ≠ zra k p + 8
theorem kfr_m {k q : Nat} (hk : k < 3) (h : q < 8 ∨ 152 ≤ q) : kfr k q := by
  refine ⟨by omega, fun p hp => ?_⟩
  unfold zra
  omega
theorem kfr_r {k k' p i : Nat} (hk : k < 3) (hk' : k' < 3) (hp : p < 5) (hi : 1 ≤ i ∧ i ≤ 6) : kfr k (zra k' p + i) := by
  unfold zra
  refine ⟨?_, fun p' hp' => ?_⟩
  · rcases (show k = 0 ∨ k = 1 ∨ k = 2 by omega) with rfl | rfl | rfl <;> rcases (show k' = 0 ∨ k' = 1 ∨ k' = 2 by omega) with rfl | rfl | rfl <;> omega
  · unfold zra
    rcases (show k = 0 ∨ k = 1 ∨ k = 2 by omega) with rfl | rfl | rfl <;> rcases (show k' = 0 ∨ k' = 1 ∨ k' = 2 by omega) with rfl | rfl | rfl <;> omega
theorem kfr_w {k p q : Nat} (hp : p < 5) (h : kfr k q) : zwk (zra k p) q := h.2 p hp
theorem aCl_mv {M M' : Mem} {Q : Nat → Prop} (hq : zq Q M M') (h1 : Q 280) (h2 : Q 302) : aCl M' = aCl M := by
  funext t
  unfold aCl
  rw [(hq.2 280 h1).1, (hq.2 302 h2).1]
theorem aRL_mv {M M' : Mem} {Q : Nat → Prop} (hq : zq Q M M') (hQ : ∀ q, 291 ≤ q → q ≤ 301 → Q q) {cl : Nat → Int32} {r len pos L : Nat} : aRL M' cl r len pos L = aRL M cl r len pos L := by
  have e : ∀ a, 291 ≤ a → a ≤ 301 → M'.2.1 a = M.2.1 a := fun a ha hb => (hq.2 a (hQ a ha hb)).1
  have eW : aW M' r = aW M r := by
    funext q
    show M'.2.1 293 _ = M.2.1 293 _
    rw [e 293 (by decide) (by decide)]
  have eF : aF M' r = aF M r := by
    funext q
    show M'.2.1 294 _ = M.2.1 294 _
    rw [e 294 (by decide) (by decide)]
  unfold aRL
  simp only [eW, eF, e 291 (by decide) (by decide), e 297 (by decide) (by decide), e 298 (by decide) (by decide), e 299 (by decide) (by decide), e 300 (by decide) (by decide), e 301 (by decide) (by decide)]
theorem aRR_mv {M M' : Mem} {Q : Nat → Prop} (hq : zq Q M M') (hQ : ∀ q, 291 ≤ q → q ≤ 301 → Q q) {cl : Nat → Int32} {r len pos L : Nat} : aRR M' cl r len pos L = aRR M cl r len pos L := by
  have e : ∀ a, 291 ≤ a → a ≤ 301 → M'.2.1 a = M.2.1 a := fun a ha hb => (hq.2 a (hQ a ha hb)).1
  have eW : aW M' r = aW M r := by
    funext q
    show M'.2.1 293 _ = M.2.1 293 _
    rw [e 293 (by decide) (by decide)]
  have eF : aF M' r = aF M r := by
    funext q
    show M'.2.1 294 _ = M.2.1 294 _
    rw [e 294 (by decide) (by decide)]
  unfold aRR
  simp only [eW, eF, e 291 (by decide) (by decide), e 296 (by decide) (by decide), e 297 (by decide) (by decide), e 298 (by decide) (by decide), e 300 (by decide) (by decide)]
theorem aSg_mv {M M' : Mem} {Q : Nat → Prop} (hq : zq Q M M') (hQ : ∀ q, 291 ≤ q → q ≤ 301 → Q q) {cl : Nat → Int32} {k len pos S : Nat} : aSg M' cl k len pos S = aSg M cl k len pos S := by
  unfold aSg
  simp only [aRL_mv hq hQ]
theorem aLk_mv {M M' : Mem} {Q : Nat → Prop} (hq : zq Q M M') (hQ : ∀ q, 291 ≤ q → q ≤ 301 → Q q) {cl : Nat → Int32} {k len pos S : Nat} : aLk M' cl k len pos S = aLk M cl k len pos S := by
  unfold aLk
  simp only [aRR_mv hq hQ]
/-- a rule of the class is kept where its cells are, and its two rows of lengths are there -/
theorem iRule_mv {M M' Mr : Mem} {Q : Nat → Prop} {k p : Nat} (hq : zq Q M M') (hra : ∀ i, 1 ≤ i → i ≤ 6 → Q (zra k p + i)) (hw : ∃ w1 w2, zWt M' (zra k p) w1 w2) (h : iRule M Mr k p) : iRule M' Mr k p := by
  have f : ∀ i, 1 ≤ i → i ≤ 6 → M'.2.1 (zra k p + i) = M.2.1 (zra k p + i) := fun i h1 h2 => (hq.2 _ (hra i h1 h2)).1
  obtain ⟨-, n, n1, n2, n3, n4, n5⟩ := h
  have eF : kF M' (zra k p) = kF M (zra k p) := by
    funext q
    show M'.2.1 (zra k p + 5) q = M.2.1 (zra k p + 5) q
    rw [f 5 (by decide) (by decide)]
  have eT : kTk M' (zra k p) = kTk M (zra k p) := by
    funext q
    show M'.2.1 (zra k p + 6) q = M.2.1 (zra k p + 6) q
    rw [f 6 (by decide) (by decide)]
  refine ⟨hw, n, n1, by rw [f 1 (by decide) (by decide)]; exact n2, n3, fun i hi => ?_, fun hn => ?_⟩
  · rw [f 2 (by decide) (by decide)]
    exact n4 i hi
  · have g := n5 hn
    unfold iMask at *
    simp only [eF, eT, kbf, kbl, klf, kll, f 3 (by decide) (by decide), f 4 (by decide) (by decide), f 5 (by decide) (by decide), f 6 (by decide) (by decide)] at *
    exact g
/-- .. and where the model's cells are -/
theorem iRule_mr {M Mr Mr' : Mem} {Q : Nat → Prop} {k p : Nat} (hq : zq Q Mr Mr') (hQ : ∀ q, 291 ≤ q → q ≤ 301 → Q q) (h : iRule M Mr k p) : iRule M Mr' k p := by
  have e : ∀ a, 291 ≤ a → a ≤ 301 → Mr'.2.1 a = Mr.2.1 a := fun a ha hb => (hq.2 a (hQ a ha hb)).1
  have eW : ∀ r, aW Mr' r = aW Mr r := by
    intro r
    funext q
    show Mr'.2.1 293 _ = Mr.2.1 293 _
    rw [e 293 (by decide) (by decide)]
  unfold iRule iMask at *
  simp only [eW, e 291 (by decide) (by decide), e 292 (by decide) (by decide), e 294 (by decide) (by decide), e 296 (by decide) (by decide), e 297 (by decide) (by decide), e 298 (by decide) (by decide), e 299 (by decide) (by decide), e 300 (by decide) (by decide), e 301 (by decide) (by decide)] at *
  exact h
theorem isSet_ok {M : Mem} (h : zO M) {r n : Nat} (hr : r + 9 ≤ 152) (hC : zruleC r) (hR : zruleR r) (hn : M.2.1 (r + 1) 1 = nI n) (hn2 : n ≤ 24) : fX5_isSet M r = some (if n = 0 then 0 else 1, M) := by
  unfold fX5_isSet
  rw [zgR_f h (by omega) hC.1 hR.1, Option.bind_some, zgI_f h (by omega) hC.2.1, Option.bind_some, hn]
  by_cases h0 : n = 0
  · rw [if_pos (show nI n ≤ 0 by rw [nI_le0 (by omega)]; exact h0), if_pos h0]
    rfl
  · rw [if_neg (show ¬ nI n ≤ 0 by rw [nI_le0 (by omega)]; exact h0), if_neg h0]
    rfl
theorem imax {a b : Nat} (ha : a ≤ 1000) (hb : b ≤ 1000) : (if nI a < nI b then nI b else nI a) = nI (max a b) := by
  by_cases h : a < b
  · rw [if_pos (show nI a < nI b by rw [nI_ltN (by omega) (by omega)]; exact h), Nat.max_eq_right (by omega)]
  · rw [if_neg (show ¬ nI a < nI b by rw [nI_ltN (by omega) (by omega)]; exact h), Nat.max_eq_left (by omega)]
/-- the rules of kind k, all of them -/
def iRs (M Mr : Mem) (k : Nat) : Prop := ∀ p, p < 5 → iRule M Mr k p
theorem meas_loop {M0 Mr : Mem} {cl : Nat → Int32} {k len pos : Nat} (hk : k < 3) (hR : iRs M0 Mr k) {c : Nat → Nat} (hx : cTx M0 len c) (hcl : ∀ t, t < len → cl t = nI (c t)) (hp : pos ≤ len) : ∀ d j fuel M (f g : Nat → Nat), j + d = 5 → d < fuel → zO M → zq (kfr k) M0 M → (∀ p, p < 5 → ∃ w1 w2, zWt M (zra k p) w1 w2) → (∀ p, p < j → aRL Mr cl (5 * k + p) len pos (f p) ∧ aRR Mr cl (5 * k + p) len pos (g p) ∧ f p ≤ 101 ∧ g p ≤ 101) → M.2.1 (8 + 48 * k) 3 = nI (amx f j) → M.2.1 (8 + 48 * k) 4 = nI (amx g j) → M.2.1 (8 + 48 * k) 2 = M0.2.1 (8 + 48 * k) 2 →
    ∃ M', fX2_measure_12L fuel M (8 + 48 * k) 1 (nI pos) (nI j) = some M' ∧ zO M' ∧ zq (kfr k) M0 M' ∧ (∀ p, p < 5 → ∃ w1 w2, zWt M' (zra k p) w1 w2) ∧ M'.2.1 (8 + 48 * k) 2 = M0.2.1 (8 + 48 * k) 2 ∧ ∃ S R, M'.2.1 (8 + 48 * k) 3 = nI S ∧ M'.2.1 (8 + 48 * k) 4 = nI R ∧ aSg Mr cl k len pos S ∧ aLk Mr cl k len pos R := by
  have hlen := hx.2.1
  obtain ⟨z1, z2, z3, z4, z5, z6, z7, z8⟩ := zkind hk
  intro d
  induction d with
  | zero =>
    intro j fuel M f g hj hf hM hq hw hi h3 h4 h2
    obtain ⟨f', rfl⟩ : ∃ f, fuel = f + 1 := ⟨fuel - 1, by omega⟩
    show ∃ M', fX2_measure_12 (fX2_measure_12L f') M (8 + 48 * k) 1 (nI pos) (nI j) = some M' ∧ _
    unfold fX2_measure_12
    rw [show (5 : Int32) = nI 5 from rfl, if_pos (by rw [nI_leN (by omega) (by omega)]; omega)]
    have e : j = 5 := by omega
    subst e
    exact ⟨M, rfl, hM, hq, hw, h2, amx f 5, amx g 5, h3, h4, ⟨f, fun p hp' => (hi p hp').1, rfl⟩, ⟨g, fun p hp' => (hi p hp').2.1, rfl⟩⟩
  | succ d ih =>
    intro j fuel M f g hj hf hM hq hw hi h3 h4 h2
    obtain ⟨f', rfl⟩ : ∃ f, fuel = f + 1 := ⟨fuel - 1, by omega⟩
    show ∃ M', fX2_measure_12 (fX2_measure_12L f') M (8 + 48 * k) 1 (nI pos) (nI j) = some M' ∧ _
    have hj5 : j < 5 := by omega
    obtain ⟨hC, hRr, hRl, hb1, hb2⟩ := zrule hk hj5
    have hRm : iRule M Mr k j := iRule_mv hq (fun i h1 h2 => kfr_r hk hk hj5 ⟨h1, h2⟩) (hw j hj5) (hR j hj5)
    obtain ⟨⟨w1, w2, hW⟩, n, n1, n2, n3, n4, n5⟩ := hRm
    have hr5 : 5 * k + j < 15 := by omega
    -- behind a round: with the rule's numbers known
    have nxt : ∀ (M1 : Mem) (L R : Nat), zO M1 → zq (kfr k) M0 M1 → (∀ p, p < 5 → ∃ w1 w2, zWt M1 (zra k p) w1 w2) → aRL Mr cl (5 * k + j) len pos L → aRR Mr cl (5 * k + j) len pos R → L ≤ 101 → R ≤ 101 → M1.2.1 (8 + 48 * k) 3 = nI (max (amx f j) L) → M1.2.1 (8 + 48 * k) 4 = nI (max (amx g j) R) → M1.2.1 (8 + 48 * k) 2 = M0.2.1 (8 + 48 * k) 2 → ∃ M', fX2_measure_72 (fX2_measure_12L f') M1 (8 + 48 * k) 1 (nI pos) (nI j) = some M' ∧ zO M' ∧ zq (kfr k) M0 M' ∧ (∀ p, p < 5 → ∃ w1 w2, zWt M' (zra k p) w1 w2) ∧ M'.2.1 (8 + 48 * k) 2 = M0.2.1 (8 + 48 * k) 2 ∧ ∃ S R, M'.2.1 (8 + 48 * k) 3 = nI S ∧ M'.2.1 (8 + 48 * k) 4 = nI R ∧ aSg Mr cl k len pos S ∧ aLk Mr cl k len pos R := by
      intro M1 L R a1 a2 a3 a4 a5 a6 a7 a8 a9 a10
      unfold fX2_measure_72
      rw [zlt_e, nI_1]
      obtain ⟨F, F1, F2⟩ : ∃ F : Nat → Nat, (∀ q, q < j → F q = f q) ∧ F j = L := ⟨fun q => if q = j then L else f q, fun q hq => if_neg (by omega), if_pos rfl⟩
      obtain ⟨G, G1, G2⟩ : ∃ G : Nat → Nat, (∀ q, q < j → G q = g q) ∧ G j = R := ⟨fun q => if q = j then R else g q, fun q hq => if_neg (by omega), if_pos rfl⟩
      refine ih (j + 1) f' M1 F G (by omega) (by omega) a1 a2 a3 (fun p hp' => ?_) ?_ ?_ a10
      · rcases Nat.lt_or_ge p j with w | w
        · rw [F1 p w, G1 p w]; exact hi p w
        · rw [show p = j by omega, F2, G2]; exact ⟨a4, a5, a6, a7⟩
      · rw [a8]; simp only [amx]; rw [amx_cg j F1, F2]
      · rw [a9]; simp only [amx]; rw [amx_cg j G1, G2]
    have fb : amx f j ≤ 101 := amx_le (by omega) j (fun q hq' => (hi q hq').2.2.1)
    have gb : amx g j ≤ 101 := amx_le (by omega) j (fun q hq' => (hi q hq').2.2.2)
    unfold fX2_measure_12
    have hra : zaR M 17 (9 + 48 * k) (nI j) = some (zra k j) := by
      rw [zaR_f hM (by omega) z2 (by rw [z4]; exact hj5)]
      exact hM.2 _ _ _ hRl
    rw [show (5 : Int32) = nI 5 from rfl, if_neg (by rw [nI_leN (by omega) (by omega)]; omega), zgR_f hM (by omega) z1 z6, Option.bind_some, hra, Option.bind_some, zck_f hM (by omega) hC.1, Option.bind_some, isSet_ok hM hb1 hC hRr n2 n1, Option.bind_some]
    dsimp only
    by_cases h0 : n = 0
    · rw [if_pos h0, if_pos rfl]
      refine nxt M 0 0 hM hq hw ⟨n, n1, n3, Or.inl ⟨h0, rfl⟩⟩ ⟨n, n1, n3, Or.inl ⟨h0, rfl⟩⟩ (by omega) (by omega) ?_ ?_ h2
      · rw [h3, Nat.max_eq_left (by omega)]
      · rw [h4, Nat.max_eq_left (by omega)]
    · rw [if_neg h0, if_neg (by decide), zck_f hM (by omega) hC.1, Option.bind_some]
      have hmk := n5 (by omega)
      obtain ⟨m1, m2, m3, m4, m5, m6, m7, m8, sg, l, hG⟩ := hmk
      have hxM : cTx M len c := hx.mv hq (kfr_m hk (by omega)) (kfr_m hk (by omega)) (kfr_m hk (by omega))
      obtain ⟨M1, b1, b2, b3, b4, L, R, b5, b6, b7, b8, b9⟩ := walk_ok (cl := cl) (p := pos) hM hb1 hb2 hC hRr hxM hcl (by rw [show kln M (zra k j) = Mr.2.1 299 (5 * k + j) from m6]; exact m7) hG hW hp
      rw [b1, Option.bind_some]
      -- the same numbers in the model's words
      have hL : aRL Mr cl (5 * k + j) len pos L := by
        refine ⟨n, n1, n3, Or.inr ⟨by omega, ?_⟩⟩
        rw [← aLn_cg (F := kF M (zra k j)) m8, ← m1, ← m2, ← m4, ← m5, ← m6]
        exact b8
      have hRR : aRR Mr cl (5 * k + j) len pos R := by
        refine ⟨n, n1, n3, Or.inr ⟨by omega, ?_⟩⟩
        rw [← aV_cg (F := kF M (zra k j)) m8, ← m1, ← m2, ← m3, ← m4]
        exact b9
      have hLb : L ≤ 101 := by omega
      have hRb : R ≤ 101 := by have := aFr_le hp b9; omega
      have hkr : zwk (zra k j) (8 + 48 * k) := by unfold zra; omega
      have e8 : M1.2.1 (8 + 48 * k) = M.2.1 (8 + 48 * k) := (b3.2 _ hkr).1
      have hq1 : zq (kfr k) M0 M1 := hq.tr (b3.wk (fun q h => kfr_w hj5 h))
      have hA : zO (zwI M1 (8 + 48 * k) 3 (nI (max (amx f j) L))) := b2
      have e34 : ∀ x : Int32, (zwI M1 (8 + 48 * k) 3 x).2.1 (8 + 48 * k) 4 = M1.2.1 (8 + 48 * k) 4 := fun x => if_neg (by omega)
      have e38 : ∀ x : Int32, (zwI M1 (8 + 48 * k) 3 x).2.1 (zra k j) 8 = M1.2.1 (zra k j) 8 := fun x => if_neg (by have := hkr.1; omega)
      rw [zgI_f b2 (by omega) z1, Option.bind_some, zgI_f b2 (by omega) hC.1, Option.bind_some, e8, h3, b5, imax (by omega) (by omega), zpI_f b2 (by omega) z1, Option.bind_some, zgI_f hA (by omega) z1, Option.bind_some, zgI_f hA (by omega) hC.1, Option.bind_some, e34, e38, e8, h4, b6, imax (by omega) (by omega), zpI_f hA (by omega) z1, Option.bind_some]
      refine nxt _ L R b2 (hq1.tr ((zq_wI.wk (fun q h => h.1)).tr (zq_wI.wk (fun q h => h.1)))) (fun p hp' => ?_) hL hRR hLb hRb ?_ ?_ ?_
      · by_cases hpj : p = j
        · subst hpj
          exact b4
        · obtain ⟨v1, v2, hv⟩ := hw p hp'
          refine ⟨v1, v2, ?_⟩
          have er : M1.2.2 (zra k p) = M.2.2 (zra k p) := (b3.2 _ (by unfold zra; omega)).2
          show M1.2.2 (zra k p) 5 = some v1 ∧ M1.2.2 (zra k p) 6 = some v2 ∧ _
          rw [er]
          exact hv
      · rw [zw_I, if_neg (by omega), zw_I, if_pos ⟨rfl, rfl⟩]
      · rw [zw_I, if_pos ⟨rfl, rfl⟩]
      · rw [zw_I, if_neg (by omega), zw_I, if_neg (by omega), e8, h2]
theorem meas_ok {M Mr : Mem} (h : zO M) {cl : Nat → Int32} {c : Nat → Nat} {k len pos : Nat} (hk : k < 3) (hR : iRs M Mr k) (x1 : cTx M len c) (hcl : ∀ t, t < len → cl t = nI (c t)) (hp : pos ≤ len) :
    ∃ M', fX2_measure M (8 + 48 * k) 1 (nI pos) = some M' ∧ zO M' ∧ zq (kfr k) M M' ∧ (∀ p, p < 5 → ∃ w1 w2, zWt M' (zra k p) w1 w2) ∧ M'.2.1 (8 + 48 * k) 2 = M.2.1 (8 + 48 * k) 2 ∧ ∃ S R, M'.2.1 (8 + 48 * k) 3 = nI S ∧ M'.2.1 (8 + 48 * k) 4 = nI R ∧ aSg Mr cl k len pos S ∧ aLk Mr cl k len pos R := by
  obtain ⟨z1, z2, z3, z4, z5, z6, z7, z8⟩ := zkind hk
  have hA : zO (zwI M (8 + 48 * k) 3 1) := h
  unfold fX2_measure
  rw [zpI_f h (by omega) z1, Option.bind_some, zpI_f hA (by omega) z1, Option.bind_some]
  refine meas_loop (M0 := M) hk hR x1 hcl hp 5 0 zFU _ (fun _ => 0) (fun _ => 0) (by omega) (by unfold zFU; omega) h ((zq_wI.wk (fun q z => z.1)).tr (zq_wI.wk (fun q z => z.1))) (fun p hp' => ?_) (fun p hp' => absurd hp' (by omega)) ?_ ?_ ?_
  · obtain ⟨⟨w1, w2, hW⟩, -⟩ := hR p hp'
    exact ⟨w1, w2, hW⟩
  · rw [zw_I, if_neg (by omega), zw_I, if_pos ⟨rfl, rfl⟩]
    rfl
  · rw [zw_I, if_pos ⟨rfl, rfl⟩]
    rfl
  · rw [zw_I, if_neg (by omega), zw_I, if_neg (by omega)]
