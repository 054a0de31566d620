/-! ===== questions over laid boundaries ===== -/
def lyr (M M' : Mem) : Prop := zO M' ∧ zq (fun q => q ≠ 279 ∧ q ≠ 319) M M' ∧ ∀ j, j ≠ 52 → M'.2.1 279 j = M.2.1 279 j
theorem eD_mv {M M' : Mem} {Q : Nat → Prop} (hq : zq Q M M') (h0 : Q 0) (h1 : ∀ q, 166 ≤ q → q ≤ 186 → Q q) (h2 : Q 317) (h3 : Q 318) (h4 : M'.2.1 279 49 = M.2.1 279 49) {cnt : Nat} {rr : Nat → Nat} {cw mw : Nat → Wd} (h : eD M cnt rr cw mw) : eD M' cnt rr cw mw := by
  obtain ⟨a1, a2, a3, a4, a5, a6, a7, a8⟩ := h
  refine ⟨a1, by rw [(hq.2 0 h0).1]; exact a2, by rw [h4]; exact a3, fun i hi => by rw [(hq.2 166 (h1 166 (by decide) (by decide))).2]; exact a4 i hi, a5, fun i hi => ?_, fun i hi => by rw [(hq.2 317 h2).1, (hq.2 318 h3).1]; exact a7 i hi, a8⟩
  obtain ⟨-, j, j1, j2⟩ := a4 i (by omega)
  rw [(hq.2 (rr i) (h1 _ (by omega) (by omega))).1, (hq.2 (rr i + 1) (h1 _ (by omega) (by omega))).1]
  exact a6 i hi
theorem qL_of {M : Mem} (hI : Inv M) {k : Nat} (hk : k < 3) : ∃ len N b sf cc ch, ∀ M', lyr M M' → Inv M' ∧ qD M' k len N b sf ∧ cCs M' cc ∧ mCs M' cc ∧ cTe M' len ch ∧ mTe M' len ch := by
  obtain ⟨h, hP, ⟨cnt, rr, cw, mw, hE⟩, hR, cc, len, ch, c1, c2, t1, t2, hK, hH⟩ := id hI
  obtain ⟨N, b, w, a1, a2, a3, a4⟩ := id (hK k hk)
  have all : ∀ M', lyr M M' → eD M' cnt rr cw mw ∧ cCs M' cc ∧ mCs M' cc ∧ cTe M' len ch ∧ mTe M' len ch ∧ cK M' M' (acl cc ch) k len N b ∧ mK M' k N b := by
    intro M' hM
    obtain ⟨hz, hq, h279⟩ := hM
    refine ⟨eD_mv hq (by omega) (fun q x y => by omega) (by omega) (by omega) (h279 49 (by omega)) hE, cCs_mv hq (by omega) c1, mCs_mv hq (by omega) c2, cTe_mv hq (by omega) (by omega) t1, ?_, cK_mr hq (fun q x y => by omega) (cK_mv hq (by omega) a1), mK_mv hq (by omega) (by omega) a2⟩
    unfold mTe at *
    rw [h279 31 (by omega), (hq.2 302 (by omega)).1]
    exact t2
  have inv : ∀ M', lyr M M' → Inv M' := by
    intro M' hM
    obtain ⟨x1, x2, x3, x4, x5, -, -⟩ := all M' hM
    obtain ⟨hz, hq, h279⟩ := hM
    have hw2 : wAll M' := fun k hk p hp => by
      obtain ⟨w1, w2, g⟩ := (hR k hk p hp).1
      exact ⟨w1, w2, zWt_mv (hq.2 _ (by unfold zra; omega)).2 g⟩
    refine ⟨hz, iP_mv hq (by omega) (by omega) (by omega) (h279 1 (by omega)) hP, ⟨cnt, rr, cw, mw, x1⟩, fun k hk p hp => iRule_mr hq (fun q x y => by omega) (iRule_mv hq (fun i x y => by unfold zra; omega) (hw2 k hk p hp) (hR k hk p hp)), cc, len, ch, x2, x3, x4, x5, fun k hk => ?_, ?_⟩
    · obtain ⟨N, b, w, a1, a2, a3, a4⟩ := hK k hk
      exact ⟨N, b, w, cK_mr hq (fun q x y => by omega) (cK_mv hq (by omega) a1), mK_mv hq (by omega) (by omega) a2, by rw [(hq.2 _ (by omega)).1]; exact a3, by rw [(hq.2 305 (by omega)).1]; exact a4⟩
    · obtain ⟨o, u, r, D, Ls, g1, g2, g3, g4, g5, g6, g7, g8, g9, g10, g11, g12⟩ := hH
      refine ⟨o, u, r, D, Ls, g1, g2, by rw [(hq.2 187 (by omega)).1]; exact g3, by rw [(hq.2 187 (by omega)).1]; exact g4, by rw [(hq.2 187 (by omega)).1]; exact g5, by rw [h279 39 (by omega)]; exact g6, by rw [h279 44 (by omega)]; exact g7, g8, g9, fun i hi => cSl_mv hq (by omega) (by omega) (by omega) (g10 i hi), fun i hi => uSl_mv hq (fun q x y => by omega) (g11 i hi), fun i hi => rSl_mv hq (fun q x y => by omega) (g12 i hi)⟩
  have key : ∀ M', lyr M M' → ∀ p, p ≤ len → ∃ s, (s = 0 ∨ s = 1) ∧ ((p = 0 ∨ p = len) → s = 0) ∧ fX9_isSuppressed M' 279 (nI k) (nI p) = some (s, M') ∧ ((∃ i, i ≤ N ∧ b i = p) → fX8_stateAt M' 0 (nI k) (nI p) = some (if s = 0 then 1 else 2, M')) ∧ ((∀ i, i ≤ N → b i ≠ p) → fX8_stateAt M' 0 (nI k) (nI p) = some (0, M')) ∧ (s = 1 ↔ ssP cc ch cnt mw k len p) := fun M' hM p hp => by
    obtain ⟨x1, x2, x3, x4, x5, x6, -⟩ := all M' hM
    exact st_ok hM.1 x2 x3 x4 x5 x1 hk x6 hp
  have hl0 : lyr M M := ⟨h, ⟨rfl, fun _ _ => ⟨rfl, rfl⟩⟩, fun _ _ => rfl⟩
  have hsf : ∀ p, p ≤ len → ((((fX9_isSuppressed M 279 (nI k) (nI p)).getD (0, M)).1 = 0) ∨ (((fX9_isSuppressed M 279 (nI k) (nI p)).getD (0, M)).1 = 1)) ∧ (((fX9_isSuppressed M 279 (nI k) (nI p)).getD (0, M)).1 = 1 ↔ ssP cc ch cnt mw k len p) := fun p hp => by
    obtain ⟨s, s1, s2, s3, s4, s5, s6⟩ := key M hl0 p hp
    rw [s3]
    exact ⟨s1, s6⟩
  have hkey : ∀ M', lyr M M' → ∀ p, p ≤ len → ∀ s, (s = 0 ∨ s = 1) → (s = 1 ↔ ssP cc ch cnt mw k len p) → s = ((fX9_isSuppressed M 279 (nI k) (nI p)).getD (0, M)).1 := fun M' hM p hp s s1 s6 => by
    obtain ⟨y1, y2⟩ := hsf p hp
    rcases s1 with rfl | rfl
    · rcases y1 with y | y
      · exact y.symm
      · exact absurd (s6.mpr (y2.mp y)) (by decide)
    · exact (y2.mpr (s6.mp rfl)).symm
  refine ⟨len, N, b, fun p => ((fX9_isSuppressed M 279 (nI k) (nI p)).getD (0, M)).1, cc, ch, fun M' hM => ?_⟩
  obtain ⟨x1, x2, x3, x4, x5, x6, x7⟩ := all M' hM
  refine ⟨inv M' hM, ⟨hM.1, hk, x4.2.1, x4.1, x5.1, x6.1, x6.2.1, x6.2.2.1, x7, fun p hp => ?_, fun p hp g => ?_, fun p hp g => ?_⟩, x2, x3, x4, x5⟩
  · obtain ⟨s, s1, s2, s3, s4, s5, s6⟩ := key M' hM p hp
    have e := hkey M' hM p hp s s1 s6
    dsimp only
    rw [← e]
    exact ⟨s1, s2, s3⟩
  · obtain ⟨s, s1, s2, s3, s4, s5, s6⟩ := key M' hM p hp
    have e := hkey M' hM p hp s s1 s6
    subst e
    exact s4 g
  · obtain ⟨s, s1, s2, s3, s4, s5, s6⟩ := key M' hM p hp
    exact s5 g
/-- the boundaries laid from the first j raw ones -/
def lyd (b : Nat → Nat) (sf : Nat → Int32) (j m : Nat) (l : Nat → Nat) : Prop := m ≤ j ∧ (∀ i, i + 1 < m → l i < l (i + 1)) ∧ (∀ i, i < m → ∃ t, t < j ∧ b t = l i ∧ sf (b t) = 0) ∧ (∀ t, t < j → sf (b t) = 0 → ∃ i, i < m ∧ l i = b t)
section LY
variable {M : Mem} {k len N : Nat} {b : Nat → Nat} {sf : Nat → Int32}
theorem lay_loop (HQ : ∀ M', lyr M M' → qD M' k len N b sf) : ∀ d j fuel M' m l, j + d = N + 1 → d < fuel → lyr M M' → M'.2.1 279 52 = nI m → (∀ i, i < m → M'.2.1 319 i = nI (l i)) → lyd b sf j m l → ∃ M2 m2 l2, fX9_layBoundaries_7L fuel M' 279 (nI k) (nI j) = some M2 ∧ lyr M M2 ∧ M2.2.1 279 52 = nI m2 ∧ (∀ i, i < m2 → M2.2.1 319 i = nI (l2 i)) ∧ lyd b sf (N + 1) m2 l2 := by
  intro d
  induction d with
  | zero =>
    intro j fuel M' m l hd hf hM hm hv hy
    obtain ⟨f, rfl⟩ : ∃ f, fuel = f + 1 := ⟨fuel - 1, by omega⟩
    have Q := HQ M' hM
    have hN := q_N Q
    obtain ⟨h, hk, hl, e1, e2, b0, b1, b2, hmk, q1, q2, q3⟩ := Q
    refine ⟨M', m, l, ?_, hM, hm, hv, by rw [show N + 1 = j by omega]; exact hy⟩
    show fX9_layBoundaries_7 (fX9_layBoundaries_7L f) M' 279 (nI k) (nI j) = _
    unfold fX9_layBoundaries_7
    rw [gr_279_33 h, Option.bind_some, zaI_f h (by decide) zk_303 (by rw [zl_303]; exact hk), Option.bind_some, hmk.1, if_pos (show nI (N + 1) ≤ nI j by rw [nI_leN (by omega) (by omega)]; omega)]
  | succ d ih =>
    intro j fuel M' m l hd hf hM hm hv hy
    obtain ⟨f, rfl⟩ : ∃ f, fuel = f + 1 := ⟨fuel - 1, by omega⟩
    have Q := HQ M' hM
    have hN := q_N Q
    have hbj := q_ble Q (show j ≤ N by omega)
    obtain ⟨h, hk, hl, e1, e2, b0, b1, b2, hmk, q1, q2, q3⟩ := Q
    have st : fX9_layBoundaries_7L (f + 1) M' 279 (nI k) (nI j) = fX9_layBoundaries_7 (fX9_layBoundaries_7L f) M' 279 (nI k) (nI j) := rfl
    rw [st]
    obtain ⟨s1, s2, s3⟩ := q1 (b j) hbj
    unfold fX9_layBoundaries_7 fX9_layBoundaries_56
    rw [gr_279_33 h, Option.bind_some, zaI_f h (by decide) zk_303 (by rw [zl_303]; exact hk), Option.bind_some, hmk.1, if_neg (show ¬ nI (N + 1) ≤ nI j by rw [nI_leN (by omega) (by omega)]; omega), zck_f h (by decide) zk_279, Option.bind_some, raw_ok h hk (by omega), Option.bind_some, hmk.2 j (by omega)]
    dsimp only
    rw [zck_f h (by decide) zk_279, Option.bind_some, s3, Option.bind_some]
    dsimp only
    obtain ⟨y1, y2, y3, y4⟩ := hy
    by_cases e : sf (b j) = 0
    · have hA : zO (zwI M' 319 m (nI (b j))) := h
      have f1 : (zwI M' 319 m (nI (b j))).2.1 279 52 = nI m := by simp [zw_I, hm]
      rw [if_pos e, gr_279_53 h, Option.bind_some, zgI_f h (by decide) zk_279, Option.bind_some, hm, zck_f h (by decide) zk_279, Option.bind_some, raw_ok h hk (by omega), Option.bind_some]
      dsimp only
      rw [hmk.2 j (by omega), zsI_f h (by decide) zk_319 (by rw [zl_319]; omega), Option.bind_some, zgI_f hA (by decide) zk_279, Option.bind_some, f1, nI_1, zpI_f hA (by decide) zk_279, Option.bind_some, zlt_e, nI_1]
      refine ih (j + 1) f _ (m + 1) (fun i => if i = m then b j else l i) (by omega) (by omega) ⟨h, hM.2.1.tr ((zq_wI.wk (fun q z => z.2)).tr (zq_wI.wk (fun q z => z.1))), fun i hi => ?_⟩ (by simp [zw_I]) (fun i hi => ?_) ⟨by omega, fun i hi => ?_, fun i hi => ?_, fun t ht hs => ?_⟩
      · rw [← hM.2.2 i hi]; simp [zw_I, hi]
      · by_cases ei : i = m
        · simp [zw_I, ei]
        · simp [zw_I, ei, hv i (by omega)]
      · dsimp only
        rw [if_neg (show ¬ i = m by omega)]
        by_cases ei : i + 1 = m
        · rw [if_pos ei]
          obtain ⟨t, t1, t2, t3⟩ := y3 i (by omega)
          have := inc_lt b1 (i := t) j (by omega) t1
          omega
        · rw [if_neg ei]; exact y2 i (by omega)
      · dsimp only
        by_cases ei : i = m
        · rw [if_pos ei]; exact ⟨j, by omega, rfl, e⟩
        · rw [if_neg ei]; obtain ⟨t, t1, t2⟩ := y3 i (by omega); exact ⟨t, by omega, t2⟩
      · by_cases et : t = j
        · exact ⟨m, by omega, by dsimp only; rw [if_pos rfl, et]⟩
        · obtain ⟨i, i1, i2⟩ := y4 t (by omega) hs
          exact ⟨i, by omega, by dsimp only; rw [if_neg (by omega)]; exact i2⟩
    · rw [if_neg e, zlt_e, nI_1]
      exact ih (j + 1) f M' m l (by omega) (by omega) hM hm hv ⟨by omega, y2, fun i hi => by obtain ⟨t, t1, t2⟩ := y3 i hi; exact ⟨t, by omega, t2⟩, fun t ht hs => by
        rcases Nat.lt_or_ge t j with w | w
        · exact y4 t w hs
        · rw [show t = j by omega] at hs; exact absurd hs e⟩
/-- the boundaries, in order -/
def enu (N : Nat) (b : Nat → Nat) (sf : Nat → Int32) (len K : Nat) (l : Nat → Nat) : Prop := K ≤ len ∧ l 0 = 0 ∧ l K = len ∧ (∀ i, i < K → l i < l (i + 1)) ∧ ∀ p, qB N b sf p ↔ ∃ i, i ≤ K ∧ l i = p
theorem lay_ok (hz : zO M) (HQ : ∀ M', lyr M M' → qD M' k len N b sf) : ∃ M2 K l, fX9_layBoundaries M 279 (nI k) = some M2 ∧ lyr M M2 ∧ M2.2.1 279 52 = nI (K + 1) ∧ (∀ i, i ≤ K → M2.2.1 319 i = nI (l i)) ∧ enu N b sf len K l := by
  have hl0 : lyr M M := ⟨hz, ⟨rfl, fun _ _ => ⟨rfl, rfl⟩⟩, fun _ _ => rfl⟩
  have Q := HQ M hl0
  have hN := q_N Q
  obtain ⟨M2, m, l, g1, g2, g3, g4, g5⟩ := lay_loop HQ (N + 1) 0 zFU (zwI M 279 52 (nI 0)) 0 (fun _ => 0) (by omega) (by unfold zFU; omega) ⟨hz, zq_wI.wk (fun q z => z.1), fun j hj => by simp [zw_I, hj]⟩ (by simp [zw_I]) (fun i hi => absurd hi (by omega)) ⟨Nat.le_refl _, fun i hi => absurd hi (by omega), fun i hi => absurd hi (by omega), fun t ht => absurd ht (by omega)⟩
  have hble := fun i hi => q_ble Q (i := i) hi
  obtain ⟨h, hk, hl, e1, e2, b0, b1, b2, hmk, q1, q2, q3⟩ := Q
  obtain ⟨y1, y2, y3, y4⟩ := g5
  obtain ⟨i0, i1, i2⟩ := y4 0 (by omega) (by rw [b0]; exact (q1 0 (by omega)).2.1 (Or.inl rfl))
  obtain ⟨j0, j1, j2⟩ := y4 N (by omega) (by rw [b2]; exact (q1 len (by omega)).2.1 (Or.inr rfl))
  obtain ⟨K, rfl⟩ : ∃ K, m = K + 1 := ⟨m - 1, by omega⟩
  have inc : ∀ i, i < K → l i < l (i + 1) := fun i hi => y2 i (by omega)
  have a0 := inc_le inc (i := 0) (j := i0) (by omega) (by omega)
  have a1 := inc_le inc (i := j0) (j := K) (by omega) (by omega)
  obtain ⟨t, t1, t2, t3⟩ := y3 K (by omega)
  have t4 := hble t (by omega)
  have a2 : l K = len := by omega
  refine ⟨M2, K, l, ?_, g2, g3, fun i hi => g4 i (by omega), ?_, by omega, a2, inc, fun p => ⟨fun hp => ?_, fun hp => ?_⟩⟩
  · unfold fX9_layBoundaries
    rw [show (0 : Int32) = nI 0 from rfl, zpI_f hz (by decide) zk_279, Option.bind_some, g1]
  · have := inc_ge inc K (Nat.le_refl _)
    omega
  · obtain ⟨⟨i, i1, i2⟩, hs⟩ := hp
    obtain ⟨j, j1, j2⟩ := y4 i (by omega) (by rw [i2]; exact hs)
    exact ⟨j, by omega, by omega⟩
  · obtain ⟨i, i1, i2⟩ := hp
    obtain ⟨t, t1, t2, t3⟩ := y3 i (by omega)
    exact ⟨⟨t, by omega, by omega⟩, by rw [← i2, ← t2]; exact t3⟩
/-- i boundaries lie before p -/
def ix (K : Nat) (l : Nat → Nat) (i p : Nat) : Prop := i ≤ K + 1 ∧ (∀ t, t < i → l t < p) ∧ (∀ t, i ≤ t → t ≤ K → p ≤ l t)
theorem ix_y {K : Nat} {l : Nat → Nat} (inc : ∀ i, i < K → l i < l (i + 1)) {i p : Nat} (h : ix K l i p) (hp : ∃ t, t ≤ K ∧ l t = p) : i ≤ K ∧ l i = p ∧ ix K l (i + 1) (p + 1) := by
  obtain ⟨h1, h2, h3⟩ := h
  obtain ⟨t, t1, t2⟩ := hp
  have hti : i ≤ t := by
    rcases Nat.lt_or_ge t i with w | w
    · have := h2 t w; omega
    · exact w
  have e : i = t := by
    rcases Nat.lt_or_ge i t with w | w
    · have := inc_lt inc (i := i) t t1 w
      have := h3 i (Nat.le_refl _) (by omega)
      omega
    · omega
  subst e
  refine ⟨t1, t2, by omega, fun t ht => ?_, fun t ht1 ht2 => ?_⟩
  · have := inc_le inc (i := t) (j := i) t1 (by omega); omega
  · have := inc_lt inc (i := i) t ht2 (by omega); omega
theorem ix_n {K : Nat} {l : Nat → Nat} {i p : Nat} (h : ix K l i p) (hp : ¬ ∃ t, t ≤ K ∧ l t = p) : ix K l i (p + 1) := by
  obtain ⟨h1, h2, h3⟩ := h
  refine ⟨h1, fun t ht => ?_, fun t ht1 ht2 => ?_⟩
  · have := h2 t ht; omega
  · have := h3 t ht1 ht2
    have : l t ≠ p := fun e => hp ⟨t, ht2, e⟩
    omega
theorem ix_0 {K : Nat} {l : Nat → Nat} : ix K l 0 0 := ⟨by omega, fun t ht => absurd ht (by omega), fun _ _ _ => Nat.zero_le _⟩
theorem ix_1 {K : Nat} {l : Nat → Nat} (inc : ∀ i, i < K → l i < l (i + 1)) (h0 : l 0 = 0) : ix K l 1 1 := ⟨by omega, fun t ht => by rw [show t = 0 by omega]; omega, fun t ht h2 => by have := inc_lt inc (i := 0) t h2 (by omega); omega⟩
variable {K : Nat} {l : Nat → Nat}
theorem sc_c (Q : qD M k len N b sf) (E : enu N b sf len K l) : ∀ d p c fuel, p + d = len + 1 → d < fuel → ix K l (c + 1) p → fX8_segmentCount_14L fuel M 0 (nI k) (nI c) (nI p) = some (nI K, M) := by
  have Q' := Q
  obtain ⟨h, hk, hl, e1, e2, -⟩ := Q
  obtain ⟨n0, n1, n2, n3, n4⟩ := E
  intro d
  induction d with
  | zero =>
    intro p c fuel hd hf hx
    obtain ⟨f, rfl⟩ : ∃ f, fuel = f + 1 := ⟨fuel - 1, by omega⟩
    show fX8_segmentCount_14 (fX8_segmentCount_14L f) M 0 (nI k) (nI c) (nI p) = _
    have hc : c = K := by
      rcases Nat.lt_or_ge c K with w | w
      · have := hx.2.2 (c + 1) (Nat.le_refl _) (by omega)
        have := inc_le n3 (i := c + 1) (j := K) (Nat.le_refl _) (by omega)
        omega
      · have := hx.1; omega
    unfold fX8_segmentCount_14
    rw [gr_0_0 h, Option.bind_some, gr_1_0 h, Option.bind_some, zgI_f h (by decide) zk_2, Option.bind_some, e1, if_pos (show nI len < nI p by rw [nI_ltN (by omega) (by omega)]; omega), hc]
  | succ d ih =>
    intro p c fuel hd hf hx
    obtain ⟨f, rfl⟩ : ∃ f, fuel = f + 1 := ⟨fuel - 1, by omega⟩
    show fX8_segmentCount_14 (fX8_segmentCount_14L f) M 0 (nI k) (nI c) (nI p) = _
    obtain ⟨v, v1, v2⟩ := q_st Q' (p := p) (by omega)
    unfold fX8_segmentCount_14 fX8_segmentCount_41
    rw [gr_0_0 h, Option.bind_some, gr_1_0 h, Option.bind_some, zgI_f h (by decide) zk_2, Option.bind_some, e1, if_neg (show ¬ nI len < nI p by rw [nI_ltN (by omega) (by omega)]; omega), zck_f h (by decide) zk_0, Option.bind_some, v1, Option.bind_some]
    dsimp only
    by_cases e : v = 1
    · obtain ⟨i1, i2, i3⟩ := ix_y n3 hx ((n4 p).mp (v2.mp e))
      rw [if_pos e, zlt_e, zlt_e, nI_1, nI_1]
      exact ih (p + 1) (c + 1) f (by omega) (by omega) i3
    · rw [if_neg e, zlt_e, nI_1]
      exact ih (p + 1) c f (by omega) (by omega) (ix_n hx (fun z => e (v2.mpr ((n4 p).mpr z))))
theorem sg_c (Q : qD M k len N b sf) (E : enu N b sf len K l) {j : Nat} (hj : j < 2 ^ 31) : ∀ d p i fuel, p + d = len → d < fuel → ix K l i p → i ≤ j → fX8_segment_19L fuel M 0 (nI k) (nI (j - i)) (nI p) = some (if K ≤ j then -5 else nI (l j), M) := by
  have Q' := Q
  obtain ⟨h, hk, hl, e1, e2, -⟩ := Q
  obtain ⟨n0, n1, n2, n3, n4⟩ := E
  intro d
  induction d with
  | zero =>
    intro p i fuel hd hf hx hij
    obtain ⟨f, rfl⟩ : ∃ f, fuel = f + 1 := ⟨fuel - 1, by omega⟩
    show fX8_segment_19 (fX8_segment_19L f) M 0 (nI k) (nI (j - i)) (nI p) = _
    have hc : K ≤ i := by
      rcases Nat.lt_or_ge i K with w | w
      · have := hx.2.2 i (Nat.le_refl _) (by omega)
        have := inc_lt n3 (i := i) K (Nat.le_refl _) w
        omega
      · exact w
    unfold fX8_segment_19
    rw [gr_0_0 h, Option.bind_some, gr_1_0 h, Option.bind_some, zgI_f h (by decide) zk_2, Option.bind_some, e1, if_pos (show nI len ≤ nI p by rw [nI_leN (by omega) (by omega)]; omega), if_pos (by omega)]
  | succ d ih =>
    intro p i fuel hd hf hx hij
    obtain ⟨f, rfl⟩ : ∃ f, fuel = f + 1 := ⟨fuel - 1, by omega⟩
    show fX8_segment_19 (fX8_segment_19L f) M 0 (nI k) (nI (j - i)) (nI p) = _
    obtain ⟨v, v1, v2⟩ := q_st Q' (p := p) (by omega)
    unfold fX8_segment_19 fX8_segment_55
    rw [gr_0_0 h, Option.bind_some, gr_1_0 h, Option.bind_some, zgI_f h (by decide) zk_2, Option.bind_some, e1, if_neg (show ¬ nI len ≤ nI p by rw [nI_leN (by omega) (by omega)]; omega), zck_f h (by decide) zk_0, Option.bind_some, v1, Option.bind_some]
    dsimp only
    by_cases e : v = 1
    · obtain ⟨i1, i2, i3⟩ := ix_y n3 hx ((n4 p).mp (v2.mp e))
      rw [if_pos e]
      by_cases ej : i = j
      · rw [if_pos (show nI (j - i) = 0 by rw [show j - i = 0 by omega]; rfl), if_neg (show ¬ K ≤ j from fun z => by
          have : i = K := by omega
          subst this
          omega), ← ej, i2]
      · obtain ⟨c, hc⟩ : ∃ c, j - i = c + 1 := ⟨j - i - 1, by omega⟩
        rw [if_neg (show ¬ nI (j - i) = (0 : Int32) from fun z => ej (by
          have := (nI_eq (a := j - i) (b := 0) (by omega) (by omega)).mp z
          omega)), hc, zlt_e, dec2, dec1, zlt_e, nI_1, show c = j - (i + 1) by omega]
        exact ih (p + 1) (i + 1) f (by omega) (by omega) i3 (by omega)
    · rw [if_neg e, zlt_e, nI_1]
      exact ih (p + 1) i f (by omega) (by omega) (ix_n hx (fun z => e (v2.mpr ((n4 p).mpr z)))) hij
def lg (l : Nat → Nat) : Nat → Int32 × Nat
  | 0 => (-5, 0)
  | s + 1 => if l (s + 1) - l s ≤ (lg l s).2 then lg l s else (nI (l s), l (s + 1) - l s)
theorem lg_b (hb : ∀ i, i ≤ K → l i ≤ 100) : ∀ s, s ≤ K → (lg l s).2 ≤ 100
  | 0, _ => Nat.zero_le _
  | s + 1, h => by
    have := lg_b hb s (by omega)
    have := hb (s + 1) h
    unfold lg
    split
    · assumption
    · show l (s + 1) - l s ≤ 100; omega
theorem lg_c (Q : qD M k len N b sf) (E : enu N b sf len K l) : ∀ d p i fuel, p + d = len + 1 → d < fuel → ix K l (i + 1) p → fX8_longest_21L fuel M 0 (nI k) (lg l i).1 (nI (lg l i).2) (nI (l i)) (nI p) = some ((lg l K).1, M) := by
  have Q' := Q
  obtain ⟨h, hk, hl, e1, e2, -⟩ := Q
  obtain ⟨n0, n1, n2, n3, n4⟩ := E
  have hb : ∀ i, i ≤ K → l i ≤ 100 := fun i hi => by have := inc_le n3 (Nat.le_refl K) hi; omega
  intro d
  induction d with
  | zero =>
    intro p c fuel hd hf hx
    obtain ⟨f, rfl⟩ : ∃ f, fuel = f + 1 := ⟨fuel - 1, by omega⟩
    show fX8_longest_21 (fX8_longest_21L f) M 0 (nI k) (lg l c).1 (nI (lg l c).2) (nI (l c)) (nI p) = _
    have hc : c = K := by
      rcases Nat.lt_or_ge c K with w | w
      · have := hx.2.2 (c + 1) (Nat.le_refl _) (by omega)
        have := inc_le n3 (i := c + 1) (j := K) (Nat.le_refl _) (by omega)
        omega
      · have := hx.1; omega
    unfold fX8_longest_21
    rw [gr_0_0 h, Option.bind_some, gr_1_0 h, Option.bind_some, zgI_f h (by decide) zk_2, Option.bind_some, e1, if_pos (show nI len < nI p by rw [nI_ltN (by omega) (by omega)]; omega), hc]
  | succ d ih =>
    intro p c fuel hd hf hx
    obtain ⟨f, rfl⟩ : ∃ f, fuel = f + 1 := ⟨fuel - 1, by omega⟩
    show fX8_longest_21 (fX8_longest_21L f) M 0 (nI k) (lg l c).1 (nI (lg l c).2) (nI (l c)) (nI p) = _
    obtain ⟨v, v1, v2⟩ := q_st Q' (p := p) (by omega)
    unfold fX8_longest_21
    rw [gr_0_0 h, Option.bind_some, gr_1_0 h, Option.bind_some, zgI_f h (by decide) zk_2, Option.bind_some, e1, if_neg (show ¬ nI len < nI p by rw [nI_ltN (by omega) (by omega)]; omega), zck_f h (by decide) zk_0, Option.bind_some, v1, Option.bind_some]
    dsimp only
    by_cases e : v = 1
    · obtain ⟨i1, i2, i3⟩ := ix_y n3 hx ((n4 p).mp (v2.mp e))
      have hlt := n3 c (by omega)
      have hg := lg_b hb c (by omega)
      have es : lg l (c + 1) = if l (c + 1) - l c ≤ (lg l c).2 then lg l c else (nI (l c), l (c + 1) - l c) := rfl
      have ih' := ih (p + 1) (c + 1) f (by omega) (by omega) i3
      rw [if_pos e, ← i2, pk_sub (by omega)]
      unfold fX8_longest_65 fX8_longest_69
      by_cases g : l (c + 1) - l c ≤ (lg l c).2
      · rw [if_pos (show nI (l (c + 1) - l c) ≤ nI (lg l c).2 by rw [nI_leN (by omega) (by omega)]; exact g), zlt_e, nI_1]
        rw [es, if_pos g, ← i2] at ih'
        exact ih'
      · rw [if_neg (show ¬ nI (l (c + 1) - l c) ≤ nI (lg l c).2 by rw [nI_leN (by omega) (by omega)]; exact g), zlt_e, zlt_e, nI_1]
        rw [es, if_neg g, ← i2] at ih'
        exact ih'
    · rw [if_neg e]
      unfold fX8_longest_69
      rw [zlt_e, nI_1]
      exact ih (p + 1) c f (by omega) (by omega) (ix_n hx (fun z => e (v2.mpr ((n4 p).mpr z))))
theorem lg_m {M2 : Mem} (h : zO M2) (hl : len ≤ 100) (E : enu N b sf len K l) (m1 : M2.2.1 279 52 = nI (K + 1)) (m2 : ∀ i, i ≤ K → M2.2.1 319 i = nI (l i)) : ∀ d s fuel, s + d = K → d < fuel → fX9_longest_23L fuel M2 279 (lg l s).1 (nI (lg l s).2) (nI s) = some ((lg l K).1, M2) := by
  obtain ⟨n0, n1, n2, n3, n4⟩ := E
  have hb : ∀ i, i ≤ K → l i ≤ 100 := fun i hi => by have := inc_le n3 (Nat.le_refl K) hi; omega
  intro d
  induction d with
  | zero =>
    intro s fuel hd hf
    obtain ⟨f, rfl⟩ : ∃ f, fuel = f + 1 := ⟨fuel - 1, by omega⟩
    show fX9_longest_23 (fX9_longest_23L f) M2 279 (lg l s).1 (nI (lg l s).2) (nI s) = _
    unfold fX9_longest_23
    rw [zgI_f h (by decide) zk_279, Option.bind_some, m1, dec1, if_pos (show nI K ≤ nI s by rw [nI_leN (by omega) (by omega)]; omega), show s = K by omega]
  | succ d ih =>
    intro s fuel hd hf
    obtain ⟨f, rfl⟩ : ∃ f, fuel = f + 1 := ⟨fuel - 1, by omega⟩
    show fX9_longest_23 (fX9_longest_23L f) M2 279 (lg l s).1 (nI (lg l s).2) (nI s) = _
    have hlt := n3 s (by omega)
    have hg := lg_b hb s (by omega)
    have hb1 := hb (s + 1) (by omega)
    have es : lg l (s + 1) = if l (s + 1) - l s ≤ (lg l s).2 then lg l s else (nI (l s), l (s + 1) - l s) := rfl
    have ih' := ih (s + 1) f (by omega) (by omega)
    unfold fX9_longest_23 fX9_longest_70 fX9_longest_83
    rw [zgI_f h (by decide) zk_279, Option.bind_some, m1, dec1, if_neg (show ¬ nI K ≤ nI s by rw [nI_leN (by omega) (by omega)]; omega), gr_279_53 h, Option.bind_some, nI_1, zaI_f h (by decide) zk_319 (by rw [zl_319]; omega), Option.bind_some, m2 (s + 1) (by omega), Option.bind_some, zaI_f h (by decide) zk_319 (by rw [zl_319]; omega), Option.bind_some, m2 s (by omega), zlt_e, pk_sub (by omega)]
    by_cases g : l (s + 1) - l s ≤ (lg l s).2
    · rw [if_pos (show nI (l (s + 1) - l s) ≤ nI (lg l s).2 by rw [nI_leN (by omega) (by omega)]; exact g), if_pos (show nI (l (s + 1) - l s) ≤ nI (lg l s).2 by rw [nI_leN (by omega) (by omega)]; exact g), zlt_e]
      rw [es, if_pos g] at ih'
      exact ih'
    · rw [if_neg (show ¬ nI (l (s + 1) - l s) ≤ nI (lg l s).2 by rw [nI_leN (by omega) (by omega)]; exact g), Option.bind_some, zaI_f h (by decide) zk_319 (by rw [zl_319]; omega), Option.bind_some, m2 s (by omega), if_neg (show ¬ nI (l (s + 1) - l s) ≤ nI (lg l s).2 by rw [nI_leN (by omega) (by omega)]; exact g), zlt_e]
      rw [es, if_neg g] at ih'
      exact ih'
/-! segmentsWith -/
theorem sw_in {M2 : Mem} {cc ch : Nat → Nat} (Q : qD M k len N b sf) (E : enu N b sf len K l) (h2 : zO M2) (m2 : ∀ i, i ≤ K → M2.2.1 319 i = nI (l i)) (c1 : cCs M cc) (t1 : cTe M len ch) (d1 : mCs M2 cc) (d2 : mTe M2 len ch) {s c x : Nat} (hs : s < K) (hc : c ≤ s) (hx : x < 12) (k30 : Mem → Nat → Int32 → Int32 → Int32 → Option (Int32 × Mem)) : ∀ d p y xf f8 f9, p + d = l (s + 1) → l s ≤ p → d < f9 → y ≤ 1 → ((p = l s ∧ y = 0) ∨ (l s < p ∧ xf = nI y)) → ∃ y' xf', y' ≤ 1 ∧ fX8_segmentsWith_25L (f8 + d) M 0 (nI k) (nI x) (nI (c + y)) xf (nI p) = fX8_segmentsWith_25L f8 M 0 (nI k) (nI x) (nI (c + y')) xf' (nI (l (s + 1))) ∧ fX9_segmentsWith_53L k30 f9 M2 279 (nI x) (nI c) (nI s) (nI y) (nI p) = k30 M2 279 (nI x) (nI (c + y')) (nI (s + 1)) := by
  have Q' := Q
  obtain ⟨h, hk, hl, e1, e2, -⟩ := Q
  obtain ⟨n0, n1, n2, n3, n4⟩ := E
  have hb : ∀ i, i ≤ K → l i ≤ len := fun i hi => by have := inc_le n3 (Nat.le_refl K) hi; omega
  have hb1 := hb (s + 1) (by omega)
  intro d
  induction d with
  | zero =>
    intro p y xf f8 f9 hd hp hf hy hh
    obtain ⟨f, rfl⟩ : ∃ f, f9 = f + 1 := ⟨f9 - 1, by omega⟩
    refine ⟨y, xf, hy, by rw [Nat.add_zero, show p = l (s + 1) by omega], ?_⟩
    show fX9_segmentsWith_53 k30 (fX9_segmentsWith_53L k30 f) M2 279 (nI x) (nI c) (nI s) (nI y) (nI p) = _
    unfold fX9_segmentsWith_53 fX9_segmentsWith_112
    rw [gr_279_53 h2, Option.bind_some, nI_1, zaI_f h2 (by decide) zk_319 (by rw [zl_319]; omega), Option.bind_some, m2 (s + 1) (by omega), if_pos (show nI (l (s + 1)) ≤ nI p by rw [nI_leN (by omega) (by omega)]; omega)]
    rcases (show y = 0 ∨ y = 1 by omega) with rfl | rfl
    · rw [if_pos (show nI 0 = 0 from rfl), zlt_e, zlt_e, show (0 : Int32) = nI 0 from rfl, nI_add]
    · rw [if_neg (show ¬ nI 1 = 0 by decide), zlt_e, zlt_e, nI_1 c]
  | succ d ih =>
    intro p y xf f8 f9 hd hp hf hy hh
    obtain ⟨f, rfl⟩ : ∃ f, f9 = f + 1 := ⟨f9 - 1, by omega⟩
    have s8 : fX8_segmentsWith_25L (f8 + (d + 1)) M 0 (nI k) (nI x) (nI (c + y)) xf (nI p) = fX8_segmentsWith_25 (fX8_segmentsWith_25L (f8 + d)) M 0 (nI k) (nI x) (nI (c + y)) xf (nI p) := rfl
    have s9 : fX9_segmentsWith_53L k30 (f + 1) M2 279 (nI x) (nI c) (nI s) (nI y) (nI p) = fX9_segmentsWith_53 k30 (fX9_segmentsWith_53L k30 f) M2 279 (nI x) (nI c) (nI s) (nI y) (nI p) := rfl
    rw [s8, s9]
    obtain ⟨v, v1, v2⟩ := q_st Q' (p := p) (by omega)
    obtain ⟨g1, g2, g3⟩ := d2.2.2 p (by omega)
    obtain ⟨k1, k2⟩ := d1 (ch p - 32) (by omega)
    rw [show 32 + (ch p - 32) = ch p by omega] at k2
    -- the class, from the flag on
    have h54 : fX8_segmentsWith_25 (fX8_segmentsWith_25L (f8 + d)) M 0 (nI k) (nI x) (nI (c + y)) xf (nI p) = fX8_segmentsWith_54 (fX8_segmentsWith_25L (f8 + d)) M 0 (nI k) (nI x) (nI (c + y)) (nI y) (nI p) := by
      unfold fX8_segmentsWith_25
      rw [gr_0_0 h, Option.bind_some, gr_1_0 h, Option.bind_some, zgI_f h (by decide) zk_2, Option.bind_some, e1, if_neg (show ¬ nI len ≤ nI p by rw [nI_leN (by omega) (by omega)]; omega), zck_f h (by decide) zk_0, Option.bind_some, v1, Option.bind_some]
      dsimp only
      rcases hh with ⟨z1, z2⟩ | ⟨z1, z2⟩
      · rw [if_pos (v2.mpr ((n4 p).mpr ⟨s, by omega, z1.symm⟩)), z2]
        rfl
      · rw [if_neg (fun z => by
          obtain ⟨t, t1, t2⟩ := (n4 p).mp (v2.mp z)
          have a1 := inc_inv n3 (i := s) (j := t) t1 (by omega) (by omega)
          have a2 := inc_inv n3 (i := t) (j := s + 1) (by omega) t1 (by omega)
          omega), z2]
    rw [h54]
    unfold fX8_segmentsWith_54 fX8_segmentsWith_78 fX9_segmentsWith_53 fX9_segmentsWith_88 fX9_segmentsWith_93
    rw [gr_279_53 h2, Option.bind_some, nI_1 s, zaI_f h2 (by decide) zk_319 (by rw [zl_319]; omega), Option.bind_some, m2 (s + 1) (by omega), if_neg (show ¬ nI (l (s + 1)) ≤ nI p by rw [nI_leN (by omega) (by omega)]; omega)]
    rcases (show y = 0 ∨ y = 1 by omega) with rfl | rfl
    · rw [if_pos (show nI 0 = 0 from rfl), if_pos (show nI 0 = 0 from rfl), gr_0_0 h, Option.bind_some, zck_f h (by decide) zk_1, Option.bind_some, cat_ok h (cTe_x t1 c1) (show p < len by omega), Option.bind_some, gr_279_0 h2, Option.bind_some, gr_279_32 h2, Option.bind_some, zaI_f h2 (by decide) zk_302 (by rw [zl_302]; omega), Option.bind_some, g3, zaI_f h2 (by decide) zk_280 (by rw [zl_280]; omega), Option.bind_some, k2]
      dsimp only
      by_cases e : cc (ch p - 32) = x
      · rw [if_pos (by rw [e]), if_pos (by rw [e]), zlt_e, zlt_e, zlt_e, nI_1, nI_1]
        exact ih (p + 1) 1 1 f8 f (by omega) (by omega) (by omega) (by omega) (Or.inr ⟨by omega, rfl⟩)
      · rw [if_neg (fun z => e (nI_inj (by omega) (by omega) z)), if_neg (fun z => e (nI_inj (by omega) (by omega) z)), zlt_e, zlt_e, nI_1]
        exact ih (p + 1) 0 _ f8 f (by omega) (by omega) (by omega) (by omega) (Or.inr ⟨by omega, rfl⟩)
    · rw [if_neg (show ¬ nI 1 = 0 by decide), if_neg (show ¬ nI 1 = 0 by decide), zlt_e, zlt_e, nI_1]
      exact ih (p + 1) 1 _ f8 f (by omega) (by omega) (by omega) (by omega) (Or.inr ⟨by omega, rfl⟩)
theorem sw_all {M2 : Mem} {cc ch : Nat → Nat} (Q : qD M k len N b sf) (E : enu N b sf len K l) (h2 : zO M2) (m1 : M2.2.1 279 52 = nI (K + 1)) (m2 : ∀ i, i ≤ K → M2.2.1 319 i = nI (l i)) (c1 : cCs M cc) (t1 : cTe M len ch) (d1 : mCs M2 cc) (d2 : mTe M2 len ch) {x : Nat} (hx : x < 12) : ∀ d s c xf f8 f9, s + d = K → c ≤ s → len < f8 + l s → d < f9 → ∃ r, fX8_segmentsWith_25L f8 M 0 (nI k) (nI x) (nI c) xf (nI (l s)) = some (r, M) ∧ fX9_segmentsWith_30L f9 M2 279 (nI x) (nI c) (nI s) = some (r, M2) := by
  have Q' := Q
  have E' := E
  obtain ⟨h, hk, hl, e1, e2, -⟩ := Q
  obtain ⟨n0, n1, n2, n3, n4⟩ := E
  have hb : ∀ i, i ≤ K → l i ≤ len := fun i hi => by have := inc_le n3 (Nat.le_refl K) hi; omega
  intro d
  induction d with
  | zero =>
    intro s c xf f8 f9 hd hc h8 h9
    have hsK : s = K := by omega
    subst hsK
    obtain ⟨f, rfl⟩ : ∃ f, f9 = f + 1 := ⟨f9 - 1, by omega⟩
    obtain ⟨g, rfl⟩ : ∃ g, f8 = g + 1 := ⟨f8 - 1, by omega⟩
    refine ⟨nI c, ?_, ?_⟩
    · show fX8_segmentsWith_25 (fX8_segmentsWith_25L g) M 0 (nI k) (nI x) (nI c) xf (nI (l s)) = _
      unfold fX8_segmentsWith_25
      rw [gr_0_0 h, Option.bind_some, gr_1_0 h, Option.bind_some, zgI_f h (by decide) zk_2, Option.bind_some, e1, if_pos (show nI len ≤ nI (l s) by rw [nI_leN (by omega) (by omega)]; omega)]
    · show fX9_segmentsWith_30 (fX9_segmentsWith_30L f) M2 279 (nI x) (nI c) (nI s) = _
      unfold fX9_segmentsWith_30
      rw [zgI_f h2 (by decide) zk_279, Option.bind_some, m1, dec1, if_pos (show nI s ≤ nI s by rw [nI_leN (by omega) (by omega)]; omega)]
  | succ d ih =>
    intro s c xf f8 f9 hd hc h8 h9
    obtain ⟨f, rfl⟩ : ∃ f, f9 = f + 1 := ⟨f9 - 1, by omega⟩
    have hlt := n3 s (by omega)
    have hb1 := hb (s + 1) (by omega)
    obtain ⟨g, rfl⟩ : ∃ g, f8 = g + (l (s + 1) - l s) := ⟨f8 - (l (s + 1) - l s), by omega⟩
    obtain ⟨y', xf', y1, y2, y3⟩ := sw_in Q' E' h2 m2 c1 t1 d1 d2 (s := s) (c := c) (x := x) (by omega) hc hx (fX9_segmentsWith_30L f) (l (s + 1) - l s) (l s) 0 xf g zFU (by omega) (Nat.le_refl _) (by unfold zFU; omega) (by omega) (Or.inl ⟨rfl, rfl⟩)
    obtain ⟨r, r1, r2⟩ := ih (s + 1) (c + y') xf' g f (by omega) (by omega) (by omega) (by omega)
    refine ⟨r, ?_, ?_⟩
    · exact y2.trans r1
    · show fX9_segmentsWith_30 (fX9_segmentsWith_30L f) M2 279 (nI x) (nI c) (nI s) = _
      unfold fX9_segmentsWith_30
      rw [zgI_f h2 (by decide) zk_279, Option.bind_some, m1, dec1, if_neg (show ¬ nI K ≤ nI s by rw [nI_leN (by omega) (by omega)]; omega), gr_279_53 h2, Option.bind_some, zaI_f h2 (by decide) zk_319 (by rw [zl_319]; omega), Option.bind_some, m2 s (by omega), show (0 : Int32) = nI 0 from rfl, y3, r2]
end LY
theorem segmentCount_ok {M : Mem} (hI : Inv M) (x : Int32) : Op (fX8_segmentCount M 0 x) (fun M1 => fX9_segmentCount M1 279 x) := by
  have h := hI.1
  rcases ikd_ok x with ⟨a1, a2⟩ | ⟨k, hk, rfl, a1, a2⟩
  · refine op_same hI (-2) ?_ ?_
    · unfold fX8_segmentCount
      rw [a1, Option.bind_some, if_pos rfl]
    · show fX9_segmentCount M 279 x = _
      unfold fX9_segmentCount
      rw [a2, Option.bind_some, if_neg (by decide)]
  obtain ⟨len, N, b, sf, cc, ch, HA⟩ := qL_of hI hk
  obtain ⟨M2, K, l, g1, g2, g3, g4, g5⟩ := lay_ok h (fun M' hM => (HA M' hM).2.1)
  have Q := (HA M ⟨h, ⟨rfl, fun _ _ => ⟨rfl, rfl⟩⟩, fun _ _ => rfl⟩).2.1
  have hl := Q.2.2.1
  refine ⟨nI K, M, M2, ?_, h, ?_, (HA M2 g2).1⟩
  · unfold fX8_segmentCount
    rw [a1, Option.bind_some, if_neg (by decide)]
    exact sc_c Q g5 len 1 0 zFU (by omega) (by unfold zFU; omega) (ix_1 g5.2.2.2.1 g5.2.1)
  · show fX9_segmentCount M 279 (nI k) = _
    unfold fX9_segmentCount
    rw [a2, Option.bind_some, if_pos rfl, zck_f h (by decide) zk_279, Option.bind_some, g1, Option.bind_some, zgI_f g2.1 (by decide) zk_279, Option.bind_some, g3, dec1]
theorem segment_ok {M : Mem} (hI : Inv M) (x y : Int32) : Op (fX8_segment M 0 x y) (fun M1 => fX9_segment M1 279 x y) := by
  have h := hI.1
  rcases ikd_ok x with ⟨a1, a2⟩ | ⟨k, hk, rfl, a1, a2⟩
  · refine op_same hI (-2) ?_ ?_
    · unfold fX8_segment
      rw [a1, Option.bind_some, if_pos rfl]
    · show fX9_segment M 279 x y = _
      unfold fX9_segment
      rw [a2, Option.bind_some, if_neg (by decide)]
  by_cases hy : 0 ≤ y
  · obtain ⟨j, hj, rfl⟩ := i32_nn (x := y) (fun z => absurd (Int32.lt_of_le_of_lt hy z) Int32.lt_irrefl)
    obtain ⟨len, N, b, sf, cc, ch, HA⟩ := qL_of hI hk
    obtain ⟨M2, K, l, g1, g2, g3, g4, g5⟩ := lay_ok h (fun M' hM => (HA M' hM).2.1)
    have Q := (HA M ⟨h, ⟨rfl, fun _ _ => ⟨rfl, rfl⟩⟩, fun _ _ => rfl⟩).2.1
    have hl := Q.2.2.1
    have hK := g5.1
    refine ⟨if K ≤ j then -5 else nI (l j), M, M2, ?_, h, ?_, (HA M2 g2).1⟩
    · unfold fX8_segment
      rw [a1, Option.bind_some, if_neg (by decide), if_pos hy]
      exact sg_c Q g5 hj len 0 0 zFU (by omega) (by unfold zFU; omega) ix_0 (Nat.zero_le _)
    · show fX9_segment M 279 (nI k) (nI j) = _
      unfold fX9_segment
      rw [a2, Option.bind_some, if_pos rfl, if_pos hy, zck_f h (by decide) zk_279, Option.bind_some, g1, Option.bind_some, zgI_f g2.1 (by decide) zk_279, Option.bind_some, g3, dec1]
      by_cases e : K ≤ j
      · rw [if_pos (show nI K ≤ nI j by rw [nI_leN (by omega) (by omega)]; exact e), if_pos e]
      · rw [if_neg (show ¬ nI K ≤ nI j by rw [nI_leN (by omega) (by omega)]; exact e), if_neg e, gr_279_53 g2.1, Option.bind_some, zaI_f g2.1 (by decide) zk_319 (by rw [zl_319]; omega), Option.bind_some, g4 j (by omega)]
  · refine op_same hI (-2) ?_ ?_
    · unfold fX8_segment
      rw [a1, Option.bind_some, if_neg (by decide), if_neg hy]
    · show fX9_segment M 279 (nI k) y = _
      unfold fX9_segment
      rw [a2, Option.bind_some, if_pos rfl, if_neg hy]
theorem longest_ok {M : Mem} (hI : Inv M) (x : Int32) : Op (fX8_longest M 0 x) (fun M1 => fX9_longest M1 279 x) := by
  have h := hI.1
  rcases ikd_ok x with ⟨a1, a2⟩ | ⟨k, hk, rfl, a1, a2⟩
  · refine op_same hI (-2) ?_ ?_
    · unfold fX8_longest
      rw [a1, Option.bind_some, if_pos rfl]
    · show fX9_longest M 279 x = _
      unfold fX9_longest
      rw [a2, Option.bind_some, if_neg (by decide)]
  obtain ⟨len, N, b, sf, cc, ch, HA⟩ := qL_of hI hk
  obtain ⟨M2, K, l, g1, g2, g3, g4, g5⟩ := lay_ok h (fun M' hM => (HA M' hM).2.1)
  have Q := (HA M ⟨h, ⟨rfl, fun _ _ => ⟨rfl, rfl⟩⟩, fun _ _ => rfl⟩).2.1
  have hl := Q.2.2.1
  have hK := g5.1
  refine ⟨(lg l K).1, M, M2, ?_, h, ?_, (HA M2 g2).1⟩
  · unfold fX8_longest
    rw [a1, Option.bind_some, if_neg (by decide)]
    have := lg_c Q g5 len 1 0 zFU (by omega) (by unfold zFU; omega) (ix_1 g5.2.2.2.1 g5.2.1)
    rw [g5.2.1] at this
    exact this
  · show fX9_longest M 279 (nI k) = _
    unfold fX9_longest
    rw [a2, Option.bind_some, if_pos rfl, zck_f h (by decide) zk_279, Option.bind_some, g1, Option.bind_some]
    exact lg_m g2.1 hl g5 g3 g4 K 0 zFU (by omega) (by unfold zFU; omega)
theorem segmentsWith_ok {M : Mem} (hI : Inv M) (x y : Int32) : Op (fX8_segmentsWith M 0 x y) (fun M1 => fX9_segmentsWith M1 279 x y) := by
  have h := hI.1
  rcases ikd_ok x with ⟨a1, a2⟩ | ⟨k, hk, rfl, a1, a2⟩
  · refine op_same hI (-2) ?_ ?_
    · unfold fX8_segmentsWith
      rw [a1, Option.bind_some, if_pos rfl]
    · show fX9_segmentsWith M 279 x y = _
      unfold fX9_segmentsWith
      rw [a2, Option.bind_some, if_neg (by decide)]
  rcases icl_ok y with ⟨b1, b2⟩ | ⟨c, hc, rfl, b1, b2⟩
  · refine op_same hI (-2) ?_ ?_
    · unfold fX8_segmentsWith
      rw [a1, Option.bind_some, if_neg (by decide), b1, Option.bind_some, if_pos rfl]
    · show fX9_segmentsWith M 279 (nI k) y = _
      unfold fX9_segmentsWith
      rw [a2, Option.bind_some, if_pos rfl, b2, Option.bind_some, if_pos rfl]
  obtain ⟨len, N, b, sf, cc, ch, HA⟩ := qL_of hI hk
  obtain ⟨M2, K, l, g1, g2, g3, g4, g5⟩ := lay_ok h (fun M' hM => (HA M' hM).2.1)
  obtain ⟨-, Q, c1, c2, t1, t2⟩ := HA M ⟨h, ⟨rfl, fun _ _ => ⟨rfl, rfl⟩⟩, fun _ _ => rfl⟩
  obtain ⟨hI2, -, -, d1, -, d2⟩ := HA M2 g2
  have hl := Q.2.2.1
  have hK := g5.1
  obtain ⟨r, r1, r2⟩ := sw_all Q g5 g2.1 g3 g4 c1 t1 d1 d2 hc K 0 0 0 zFU zFU (by omega) (Nat.le_refl _) (by unfold zFU; omega) (by unfold zFU; omega)
  refine ⟨r, M, M2, ?_, h, ?_, hI2⟩
  · unfold fX8_segmentsWith
    rw [a1, Option.bind_some, if_neg (by decide), b1, Option.bind_some, if_neg (by decide)]
    rw [g5.2.1] at r1
    exact r1
  · show fX9_segmentsWith M 279 (nI k) (nI c) = _
    unfold fX9_segmentsWith
    rw [a2, Option.bind_some, if_pos rfl, b2, Option.bind_some, if_neg (by decide), zck_f h (by decide) zk_279, Option.bind_some, g1, Option.bind_some]
    exact r2
