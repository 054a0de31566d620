/-! ===== the class's carryOut() ===== -/
theorem zedit {i : Nat} (hi : i < 30) : zsK (189 + 3 * i) = 0 ∧ zR (189 + 3 * i) 0 = some (190 + 3 * i) ∧ zrow (190 + 3 * i) ∧ zsL (191 + 3 * i) = 100 ∧ zR 188 i = some (189 + 3 * i) := by
  have h1 : ∀ i, i < 30 → zsK (189 + 3 * i) = 0 ∧ zR (189 + 3 * i) 0 = some (190 + 3 * i) ∧ zsK (190 + 3 * i) = 4 ∧ zR (190 + 3 * i) 0 = some (190 + 3 * i + 1) ∧ zsK (190 + 3 * i + 1) = 10 ∧ zsL (191 + 3 * i) = 100 ∧ zR 188 i = some (189 + 3 * i) := by decide +kernel
  obtain ⟨a1, a2, a3, a4, a5, a6, a7⟩ := h1 i hi
  exact ⟨a1, a2, ⟨by omega, a3, a4, a5⟩, a6, a7⟩
theorem acl_I {cc ch e : Nat → Nat} {pl n t : Nat} : (t < pl → acl cc ch t = acl cc (chI ch e pl n) t) ∧ (pl ≤ t → acl cc ch t = acl cc (chI ch e pl n) (t + (pl + n) - pl)) := by
  unfold acl chI
  refine ⟨fun h => by rw [if_pos h], fun h => ?_⟩
  rw [if_neg (by omega), if_neg (by omega), show t + (pl + n) - pl - n = t by omega]
theorem acl_O {cc ch : Nat → Nat} {pl n t : Nat} : (t < pl → acl cc ch t = acl cc (chO ch pl n) t) ∧ (pl + n ≤ t → acl cc ch t = acl cc (chO ch pl n) (t + pl - (pl + n))) := by
  unfold acl chO
  refine ⟨fun h => by rw [if_pos h], fun h => ?_⟩
  rw [if_neg (by omega), show t + pl - (pl + n) + n = t by omega]
def kfe (q : Nat) : Prop := kfl q ∧ q ≠ 2 ∧ q ≠ 3
theorem kfe_m {q : Nat} (h : (4 ≤ q ∧ q < 8) ∨ 152 ≤ q ∨ q < 2) : kfe q := ⟨kfl_m (by omega), by omega, by omega⟩
theorem kfe_r {k p i : Nat} (hk : k < 3) (hp : p < 5) (hi : 1 ≤ i ∧ i ≤ 6) : kfe (zra k p + i) := ⟨kfl_r hk hp hi, by unfold zra; omega, by unfold zra; omega⟩
theorem cin_ok {M Mr : Mem} (h : zO M) {cc ch e : Nat → Nat} {len pl n i : Nat} {N : Nat → Nat} {b : Nat → Nat → Nat} (hR : ∀ k, k < 3 → iRs M Mr k) (hx : cTe M len ch) (hc : cCs M cc) (hK : ∀ k, k < 3 → cK M Mr (acl cc ch) k len (N k) (b k)) (hi : i < 30) (e1 : M.2.1 (189 + 3 * i) 2 = nI pl) (e2 : M.2.1 (190 + 3 * i) 1 = nI n) (e3 : ∀ j, j < n → 32 ≤ e j ∧ e j ≤ 126 ∧ M.2.1 (191 + 3 * i) j = nI (e j)) (hp : pl ≤ len) (hl : len + n ≤ 100) :
    ∃ M', fX8_carryOut M 0 (189 + 3 * i) 1 = some M' ∧ zO M' ∧ zq kfe M M' ∧ wAll M' ∧ cTe M' (len + n) (chI ch e pl n) ∧ ∀ k, k < 3 → kDn M' Mr (acl cc ch) (acl cc (chI ch e pl n)) len (len + n) pl (pl + n) pl k (N k) (b k) := by
  obtain ⟨z1, z2, z3, z4, z5⟩ := zedit hi
  obtain ⟨M1, a1, a2, a3, a4, a5⟩ := put_ok h hx z3 (by omega) (by omega) (by omega) (by rw [show 190 + 3 * i + 1 = 191 + 3 * i by omega, z4]; omega) e2 (by rw [show 190 + 3 * i + 1 = 191 + 3 * i by omega]; exact e3) hp hl
  have hw : wAll M := fun k hk p hp => (hR k hk p hp).1
  have hw1 := wAll_r a4 hw
  have a3' : zq (fun q => q ≠ 2 ∧ q ≠ 3) M M1 := a3
  unfold fX8_carryOut
  rw [gr_0_0 h, Option.bind_some, gr_1_0 h, Option.bind_some, zgI_f h (by decide) zk_2, Option.bind_some, hx.1, zgI_f h (by omega) z1, Option.bind_some, e1, zgR_f h (by omega) z1 z2, Option.bind_some, zgI_f h (by omega) z3.2.1, Option.bind_some, e2, if_neg (show ¬ (1 : Int32) = 0 by decide), Option.bind_some, gr_1_0 h, Option.bind_some, Option.bind_some, zck_f h (by decide) zk_2, Option.bind_some, a1, Option.bind_some]
  unfold fX8_carryOut_63
  rw [if_neg (show ¬ (1 : Int32) = 0 by decide), nI_add]
  unfold fX8_carryOut_77
  obtain ⟨M', b1, b2, b3, b4, b5⟩ := cary_loop (cl := acl cc ch) (cl' := acl cc (chI ch e pl n)) (len := len) (len' := len + n) (pl := pl) (n := n) (kn := pl + n) (ko := pl) (N := N) (b := b) (x2 := 1) (Mr := Mr) (fun k hk => iRs_mv hk a3 (fun p hp i h1 h2 => by unfold zra; omega) hw1 (hR k hk)) (cTe_x a5 (cCs_mv a3 (by decide) hc)) (fun t ht => rfl) (by omega) (fun k hk => cK_mv a3 (by omega) (hK k hk)) (Or.inr ⟨rfl, rfl, rfl⟩) hp (by omega) (fun t ht => acl_I.1 ht) (fun t ht _ => acl_I.2 ht) 3 0 zFU M1 (by omega) (by unfold zFU; omega) a2 zq.rf hw1 (fun k' _ _ => rfl) (fun k' hk' => absurd hk' (by omega))
  exact ⟨M', b1, b2, (a3.wk (fun q z => z.2)).tr (b3.wk (fun q z => z.1)), b4, cTe_mv b3 (kfl_m (by omega)) (kfl_m (by omega)) a5, b5⟩
theorem cout_ok {M Mr : Mem} (h : zO M) {cc ch : Nat → Nat} {len pl n i : Nat} {N : Nat → Nat} {b : Nat → Nat → Nat} (hR : ∀ k, k < 3 → iRs M Mr k) (hx : cTe M len ch) (hc : cCs M cc) (hK : ∀ k, k < 3 → cK M Mr (acl cc ch) k len (N k) (b k)) (hi : i < 30) (e1 : M.2.1 (189 + 3 * i) 2 = nI pl) (e2 : M.2.1 (190 + 3 * i) 1 = nI n) (hp : pl + n ≤ len) :
    ∃ M', fX8_carryOut M 0 (189 + 3 * i) 0 = some M' ∧ zO M' ∧ zq kfe M M' ∧ wAll M' ∧ cTe M' (len - n) (chO ch pl n) ∧ ∀ k, k < 3 → kDn M' Mr (acl cc ch) (acl cc (chO ch pl n)) len (len - n) pl pl (pl + n) k (N k) (b k) := by
  obtain ⟨z1, z2, z3, z4, z5⟩ := zedit hi
  obtain ⟨M1, a1, a2, a3, a4, a5⟩ := take_ok h hx hp
  have hl := hx.2.1
  have hw : wAll M := fun k hk p hp => (hR k hk p hp).1
  have hw1 := wAll_r a4 hw
  unfold fX8_carryOut
  rw [gr_0_0 h, Option.bind_some, gr_1_0 h, Option.bind_some, zgI_f h (by decide) zk_2, Option.bind_some, hx.1, zgI_f h (by omega) z1, Option.bind_some, e1, zgR_f h (by omega) z1 z2, Option.bind_some, zgI_f h (by omega) z3.2.1, Option.bind_some, e2, if_pos rfl, Option.bind_some, gr_1_0 h, Option.bind_some, zck_f h (by decide) zk_2, Option.bind_some, a1, Option.bind_some]
  unfold fX8_carryOut_63
  rw [if_pos rfl]
  unfold fX8_carryOut_77
  obtain ⟨M', b1, b2, b3, b4, b5⟩ := cary_loop (cl := acl cc ch) (cl' := acl cc (chO ch pl n)) (len := len) (len' := len - n) (pl := pl) (n := n) (kn := pl) (ko := pl + n) (N := N) (b := b) (x2 := 0) (Mr := Mr) (fun k hk => iRs_mv hk a3 (fun p hp i h1 h2 => by unfold zra; omega) hw1 (hR k hk)) (cTe_x a5 (cCs_mv a3 (by decide) hc)) (fun t ht => rfl) (by omega) (fun k hk => cK_mv a3 (by omega) (hK k hk)) (Or.inl ⟨rfl, rfl, rfl⟩) hp (by omega) (fun t ht => acl_O.1 ht) (fun t ht _ => acl_O.2 ht) 3 0 zFU M1 (by omega) (by unfold zFU; omega) a2 zq.rf hw1 (fun k' _ _ => rfl) (fun k' hk' => absurd hk' (by omega))
  exact ⟨M', b1, b2, (a3.wk (fun q z => z.2)).tr (b3.wk (fun q z => z.1)), b4, cTe_mv b3 (kfl_m (by omega)) (kfl_m (by omega)) a5, b5⟩
/-! ===== the model's repairAll(), putIn(), takeOut() ===== -/
theorem aTr_mv {M M' : Mem} {Q : Nat → Prop} (hq : zq Q M M') (hQ : ∀ q, 291 ≤ q → q ≤ 301 → Q q) {cl : Nat → Int32} {k len N : Nat} {b : Nat → Nat} {i0 kn ko n : Nat} {q : Nat → Nat} {j1 : Nat} : aTr M' cl k len N b i0 kn ko n q j1 = aTr M cl k len N b i0 kn ko n q j1 := by
  unfold aTr
  rw [aChn_mv hq hQ]
theorem aTr_cl {M : Mem} {cl cl' : Nat → Int32} {k len N : Nat} {b : Nat → Nat} {i0 kn ko n : Nat} {q : Nat → Nat} {j1 : Nat} (hc : ∀ t, t < len → cl t = cl' t) (h : aTr M cl k len N b i0 kn ko n q j1) : aTr M cl' k len N b i0 kn ko n q j1 := ⟨aChn_cl hc h.1, h.2⟩
def mrx : Nat → Prop := fun a => mrw a ∧ a ≠ 307
theorem mrx_l {q : Nat} (h : q ≤ 302) : mrx q := ⟨mrw_l h, by omega⟩
theorem mra_loop {M0 : Mem} (hR : aRs M0) {len len' kn ko : Nat} {N i0 : Nat → Nat} {b : Nat → Nat → Nat} {sh : Int32} (hl : len ≤ 100) (hx : aTx M0 len') (hK : ∀ k, k < 3 → mB M0 k len (N k) (b k)) (hi0 : ∀ k, k < 3 → M0.2.1 306 k = nI (i0 k) ∧ i0 k ≤ N k ∧ b k (i0 k) ≤ kn) (hko : ko ≤ len) (hsh : shf sh kn ko) (hle : len' + ko = len + kn) : ∀ d k fuel M, k + d = 3 → d < fuel → zO M → zq mrx M0 M → (∀ k', k ≤ k' → k' < 3 → mK M k' (N k') (b k')) → (∀ k', k' < k → ∃ n q j1, aTr M0 (aCl M0) k' len' (N k') (b k') (i0 k') kn ko n q j1 ∧ mK M k' (i0 k' + n + (N k' - j1)) (nxB (b k') q (i0 k') n j1 kn ko) ∧ M.2.1 305 k' = nI n) →
    ∃ M', fX9_repairAll_2L fuel M 279 (nI kn) sh (nI k) = some M' ∧ zO M' ∧ zq mrx M0 M' ∧ ∀ k', k' < 3 → ∃ n q j1, aTr M0 (aCl M0) k' len' (N k') (b k') (i0 k') kn ko n q j1 ∧ mK M' k' (i0 k' + n + (N k' - j1)) (nxB (b k') q (i0 k') n j1 kn ko) ∧ M'.2.1 305 k' = nI n := by
  have hl' := hx.2.1
  intro d
  induction d with
  | zero =>
    intro k fuel M hd hf hM hq hu hi
    obtain ⟨f, rfl⟩ : ∃ f, fuel = f + 1 := ⟨fuel - 1, by omega⟩
    show ∃ M', fX9_repairAll_2 (fX9_repairAll_2L f) M 279 (nI kn) sh (nI k) = some M' ∧ _
    unfold fX9_repairAll_2
    rw [show (3 : Int32) = nI 3 from rfl, if_pos (show nI 3 ≤ nI k by rw [nI_leN (by omega) (by omega)]; omega)]
    exact ⟨M, rfl, hM, hq, fun k' hk' => hi k' (by omega)⟩
  | succ d ih =>
    intro k fuel M hd hf hM hq hu hi
    obtain ⟨f, rfl⟩ : ∃ f, fuel = f + 1 := ⟨fuel - 1, by omega⟩
    show ∃ M', fX9_repairAll_2 (fX9_repairAll_2L f) M 279 (nI kn) sh (nI k) = some M' ∧ _
    have hk : k < 3 := by omega
    obtain ⟨q1, q2, q3⟩ := hi0 k hk
    obtain ⟨-, w2⟩ := hK k hk
    obtain ⟨M1, n, q, j1, a1, a2, a3, a4, a5, a6, a7⟩ := mrep_ok hM (aRs_mv hq (mrx_l (by decide)) (mrx_l (by decide)) hR) hk hl (aTx_mv hq (mrx_l (by decide)) (mrx_l (by decide)) hx) (⟨hu k (Nat.le_refl _) hk, w2⟩ : mB M k len (N k) (b k)) (by rw [(hq.2 306 ⟨⟨by decide, by decide, by decide⟩, by decide⟩).1]; exact q1) q2 q3 hko hsh hle
    rw [aTr_mv hq (fun q h1 h2 => mrx_l (by omega)), aCl_mv hq (mrx_l (by decide)) (mrx_l (by decide))] at a4
    unfold fX9_repairAll_2
    rw [show (3 : Int32) = nI 3 from rfl, if_neg (show ¬ nI 3 ≤ nI k by rw [nI_leN (by omega) (by omega)]; omega), zck_f hM (by decide) zk_279, Option.bind_some, a1, Option.bind_some, zlt_e, nI_1]
    refine ih (k + 1) f M1 (by omega) (by omega) a2 (hq.tr a3) (fun k' h1 h2 => ?_) (fun k' h1 => ?_)
    · obtain ⟨c1, c2⟩ := hu k' (by omega) h2
      obtain ⟨d1, d2, d3⟩ := a7 k' h2 (by omega)
      have hNk := mB_n (hK k' h2) hl
      exact ⟨by rw [d1]; exact c1, fun i hi' => by rw [d3 i (by omega)]; exact c2 i hi'⟩
    · rcases Nat.lt_or_ge k' k with w | w
      · obtain ⟨n', q', j', e1, ⟨e2, e3⟩, e4⟩ := hi k' w
        obtain ⟨d1, d2, d3⟩ := a7 k' (by omega) (by omega)
        have hin := nxB_ok (hK k' (by omega)).2.1 (hK k' (by omega)).2.2.1 (hK k' (by omega)).2.2.2 (hi0 k' (by omega)).2.1 hle (hi0 k' (by omega)).2.2 e1
        have hcap := inc_ge hin.2.1 (i0 k' + n' + (N k' - j')) (Nat.le_refl _)
        rw [hin.2.2.1] at hcap
        exact ⟨n', q', j', e1, ⟨by rw [d1]; exact e2, fun i hi' => by rw [d3 i (by omega)]; exact e3 i hi'⟩, by rw [d2]; exact e4⟩
      · rw [show k' = k by omega]
        exact ⟨n, q, j1, a4, a5, a6⟩
/-- what an edit leaves of a kind in the model -/
def mDn (M M' : Mem) (len len' pl kn ko k N : Nat) (b : Nat → Nat) : Prop :=
  ∃ i0 n q j1, aTo M (aCl M) k len N b pl i0 ∧ aTr M (aCl M') k len' N b i0 kn ko n q j1 ∧ M'.2.1 305 k = nI n ∧ mK M' k (i0 + n + (N - j1)) (nxB b q i0 n j1 kn ko)
theorem mB_le {M : Mem} {k len N : Nat} {b : Nat → Nat} (h : mB M k len N b) {i : Nat} (hi : i ≤ N) : b i ≤ len := by
  have := inc_le h.2.2.1 (Nat.le_refl N) hi
  rw [h.2.2.2] at this
  exact this
theorem dec1 {j : Nat} : nI (j + 1) - 1 = nI j := by
  rw [show (1 : Int32) = nI 1 from rfl, pk_sub (by omega)]
  rfl
theorem dec2 {j : Nat} : nI j + (-1) = nI j - 1 := by rw [Int32.sub_eq_add_neg]
theorem mup_loop {n pl len : Nat} {ch : Nat → Nat} (hl : len + n ≤ 100) (hch : ∀ t, t < len → ch t ≤ 126) : ∀ d j fuel M, pl + d = j → j ≤ len → d < fuel → zO M → (∀ t, j ≤ t → t < len → M.2.1 302 (t + n) = nI (ch t)) → (∀ t, t < j → M.2.1 302 t = nI (ch t)) →
    ∃ M', fX9_putIn_12L fuel M 279 (nI pl) (nI n) (nI j - 1) = fX9_putIn_39L zFU M' 279 (nI pl) (nI n) 0 ∧ zO M' ∧ zq (fun a => a ≠ 302) M M' ∧ (∀ t, pl ≤ t → t < len → M'.2.1 302 (t + n) = nI (ch t)) ∧ (∀ t, t < pl → M'.2.1 302 t = nI (ch t)) := by
  intro d
  induction d with
  | zero =>
    intro j fuel M hd hj hf hM h1 h2
    obtain ⟨f, rfl⟩ : ∃ f, fuel = f + 1 := ⟨fuel - 1, by omega⟩
    show ∃ M', fX9_putIn_12 (fX9_putIn_12L f) M 279 (nI pl) (nI n) (nI j - 1) = _ ∧ _
    unfold fX9_putIn_12
    have hc : nI j - 1 < nI pl := by
      rcases Nat.eq_zero_or_pos j with e | e
      · rw [e]
        have : (nI 0 : Int32) - 1 < 0 := by decide
        exact Int32.lt_of_lt_of_le this (nI_pos' (by omega))
      · rw [show j = j - 1 + 1 by omega, dec1, nI_ltN (by omega) (by omega)]
        omega
    rw [if_pos hc]
    exact ⟨M, rfl, hM, zq.rf, fun t h3 h4 => h1 t (by omega) h4, fun t h3 => h2 t (by omega)⟩
  | succ d ih =>
    intro j fuel M hd hj hf hM h1 h2
    obtain ⟨f, rfl⟩ : ∃ f, fuel = f + 1 := ⟨fuel - 1, by omega⟩
    show ∃ M', fX9_putIn_12 (fX9_putIn_12L f) M 279 (nI pl) (nI n) (nI j - 1) = _ ∧ _
    unfold fX9_putIn_12
    have hv := h2 (j - 1) (by omega)
    have hch' := hch (j - 1) (by omega)
    rw [show j = j - 1 + 1 by omega, dec1, if_neg (show ¬ nI (j - 1) < nI pl by rw [nI_ltN (by omega) (by omega)]; omega), gr_279_32 hM, Option.bind_some, Option.bind_some, zaI_f hM (by decide) zk_302 (by rw [zl_302]; omega), Option.bind_some, hv, nI_add, zsC_f hM (by decide) zk_302 (by rw [zl_302]; omega) (chr_code (by omega)), Option.bind_some, zlt_e, dec2]
    have hA : zO (zwI M 302 (j - 1 + n) (nI (ch (j - 1)))) := hM
    obtain ⟨M', a1, a2, a3, a4, a5⟩ := ih (j - 1) f _ (by omega) (by omega) (by omega) hA (fun t h3 h4 => by
      rw [zw_I]
      by_cases e : t = j - 1
      · rw [if_pos ⟨rfl, by omega⟩, e]
      · rw [if_neg (by omega)]
        exact h1 t (by omega) h4) (fun t h3 => by
      rw [zw_I, if_neg (by omega)]
      exact h2 t (by omega))
    exact ⟨M', a1, a2, zq_wI.tr a3, a4, a5⟩
theorem mpt_loop {n pl len : Nat} {ch e : Nat → Nat} (hl : len + n ≤ 100) (hp : pl ≤ len) (he' : ∀ i, i < n → e i ≤ 126) : ∀ d j fuel M, j + d = n → d < fuel → zO M → (∀ i, i < n → M.2.1 308 i = nI (e i)) → (∀ t, pl ≤ t → t < len → M.2.1 302 (t + n) = nI (ch t)) → (∀ t, t < pl → M.2.1 302 t = nI (ch t)) → (∀ i, i < j → M.2.1 302 (pl + i) = nI (e i)) →
    ∃ M', fX9_putIn_39L fuel M 279 (nI pl) (nI n) (nI j) = fX9_putIn_39 (fX9_putIn_39L 0) M' 279 (nI pl) (nI n) (nI n) ∧ zO M' ∧ zq (fun a => a ≠ 302) M M' ∧ (∀ t, t < len + n → M'.2.1 302 t = nI (chI ch e pl n t)) := by
  intro d
  induction d with
  | zero =>
    intro j fuel M hd hf hM h0 h1 h2 h3
    obtain ⟨f, rfl⟩ : ∃ f, fuel = f + 1 := ⟨fuel - 1, by omega⟩
    refine ⟨M, ?_, hM, zq.rf, fun t ht => ?_⟩
    · show fX9_putIn_39 (fX9_putIn_39L f) M 279 (nI pl) (nI n) (nI j) = _
      rw [show j = n by omega]
      unfold fX9_putIn_39
      rw [if_pos (Int32.le_refl _), if_pos (Int32.le_refl _)]
    · unfold chI
      by_cases e1 : t < pl
      · rw [if_pos e1]
        exact h2 t e1
      · rw [if_neg e1]
        by_cases e2 : t < pl + n
        · rw [if_pos e2]
          have := h3 (t - pl) (by omega)
          rw [show pl + (t - pl) = t by omega] at this
          exact this
        · rw [if_neg e2]
          have := h1 (t - n) (by omega) (by omega)
          rw [show t - n + n = t by omega] at this
          exact this
  | succ d ih =>
    intro j fuel M hd hf hM h0 h1 h2 h3
    obtain ⟨f, rfl⟩ : ∃ f, fuel = f + 1 := ⟨fuel - 1, by omega⟩
    show ∃ M', fX9_putIn_39 (fX9_putIn_39L f) M 279 (nI pl) (nI n) (nI j) = _ ∧ _
    unfold fX9_putIn_39
    rw [if_neg (show ¬ nI n ≤ nI j by rw [nI_leN (by omega) (by omega)]; omega), gr_279_32 hM, Option.bind_some, gr_279_38 hM, Option.bind_some, zaI_f hM (by decide) zk_308 (by rw [zl_308]; omega), Option.bind_some, h0 j (by omega), nI_add, zsC_f hM (by decide) zk_302 (by rw [zl_302]; omega) (chr_code (by have := he' j (by omega); omega)), Option.bind_some, zlt_e, nI_1]
    have hA : zO (zwI M 302 (pl + j) (nI (e j))) := hM
    obtain ⟨M', a1, a2, a3, a4⟩ := ih (j + 1) f _ (by omega) (by omega) hA (fun i hi => by
      rw [zw_I, if_neg (by omega)]
      exact h0 i hi) (fun t h4 h5 => by
      rw [zw_I, if_neg (by omega)]
      exact h1 t h4 h5) (fun t h4 => by
      rw [zw_I, if_neg (by omega)]
      exact h2 t h4) (fun i hi => by
      rw [zw_I]
      by_cases e1 : i = j
      · rw [if_pos ⟨rfl, by omega⟩, e1]
      · rw [if_neg (by omega)]
        exact h3 i (by omega))
    exact ⟨M', a1, a2, zq_wI.tr a3, a4⟩
def mre : Nat → Prop := fun a => mrx a ∧ a ≠ 306 ∧ a ≠ 302 ∧ a ≠ 279
theorem mre_l {q : Nat} (h : q ≤ 301) (h2 : q ≠ 279) : mre q := ⟨mrx_l (by omega), by omega, by omega, h2⟩
theorem min_ok {M : Mem} (h : zO M) (hR : aRs M) {ch e : Nat → Nat} {len pl n : Nat} {N : Nat → Nat} {b : Nat → Nat → Nat} (hx : mTe M len ch) (hK : ∀ k, k < 3 → mB M k len (N k) (b k)) (hto : ∀ k, k < 3 → ∀ i0, aTo M (aCl M) k len (N k) (b k) pl i0 → b k i0 ≤ pl) (he : ∀ i, i < n → 32 ≤ e i ∧ e i ≤ 126 ∧ M.2.1 308 i = nI (e i)) (hp : pl ≤ len) (hl : len + n ≤ 100) :
    ∃ M', fX9_putIn M 279 (nI pl) (nI n) = some M' ∧ zO M' ∧ zq mre M M' ∧ (∀ j, j ≠ 31 → M'.2.1 279 j = M.2.1 279 j) ∧ mTe M' (len + n) (chI ch e pl n) ∧ ∀ k, k < 3 → mDn M M' len (len + n) pl (pl + n) pl k (N k) (b k) := by
  obtain ⟨M1, a1, a2, a3, a4⟩ := fst_ok h hR (mTe_x hx) hK (pl := pl) (by omega)
  have e31 : M1.2.1 279 31 = nI len := by rw [(a3.2 279 (by decide)).1]; exact hx.1
  obtain ⟨M2, b1, b2, b3, b4, b5⟩ := mup_loop (n := n) (pl := pl) (len := len) (ch := ch) hl (fun t ht => (hx.2.2 t ht).2.1) (len - pl) len zFU M1 (by omega) (Nat.le_refl _) (by unfold zFU; omega) a2 (fun t h1 h2 => absurd h1 (by omega)) (fun t ht => by rw [(a3.2 302 (by decide)).1]; exact (hx.2.2 t ht).2.2)
  obtain ⟨M3, c1, c2, c3, c4⟩ := mpt_loop (n := n) (pl := pl) (len := len) (ch := ch) (e := e) hl hp (fun i hi => (he i hi).2.1) n 0 zFU M2 (by omega) (by unfold zFU; omega) b2 (fun i hi => by rw [(b3.2 308 (by decide)).1, (a3.2 308 (by decide)).1]; exact (he i hi).2.2) b4 b5 (fun i hi => absurd hi (by omega))
  have e31' : M3.2.1 279 31 = nI len := by rw [(c3.2 279 (by decide)).1, (b3.2 279 (by decide)).1]; exact e31
  have hq3 : zq (fun a => a ≠ 306 ∧ a ≠ 302) M M3 := (a3.wk (fun q z => z.1)).tr ((b3.wk (fun q z => z.2)).tr (c3.wk (fun q z => z.2)))
  have hA : zO (zwI M3 279 31 (nI (len + n))) := c2
  have hq4 : zq (fun a => a ≠ 306 ∧ a ≠ 302 ∧ a ≠ 279) M (zwI M3 279 31 (nI (len + n))) := (hq3.wk (fun q z => ⟨z.1, z.2.1⟩)).tr (zq_wI.wk (fun q z => z.2.2))
  have hT4 : mTe (zwI M3 279 31 (nI (len + n))) (len + n) (chI ch e pl n) := by
    refine ⟨by rw [zw_I, if_pos ⟨rfl, rfl⟩], hl, fun t ht => ?_⟩
    rw [zw_I, if_neg (by omega), c4 t ht]
    unfold chI
    by_cases e1 : t < pl
    · rw [if_pos e1]
      exact ⟨(hx.2.2 t (by omega)).1, (hx.2.2 t (by omega)).2.1, rfl⟩
    · rw [if_neg e1]
      by_cases e2 : t < pl + n
      · rw [if_pos e2]
        exact ⟨(he (t - pl) (by omega)).1, (he (t - pl) (by omega)).2.1, rfl⟩
      · rw [if_neg e2]
        exact ⟨(hx.2.2 (t - n) (by omega)).1, (hx.2.2 (t - n) (by omega)).2.1, rfl⟩
  -- which were touched
  obtain ⟨i0, hi0⟩ : ∃ i0 : Nat → Nat, ∀ k, k < 3 → M1.2.1 306 k = nI (i0 k) ∧ aTo M (aCl M) k len (N k) (b k) pl (i0 k) := by
    obtain ⟨x0, h0⟩ := a4 0 (by omega)
    obtain ⟨x1, h1⟩ := a4 1 (by omega)
    obtain ⟨x2, h2⟩ := a4 2 (by omega)
    refine ⟨fun k => if k = 0 then x0 else if k = 1 then x1 else x2, fun k hk => ?_⟩
    rcases (show k = 0 ∨ k = 1 ∨ k = 2 by omega) with rfl | rfl | rfl
    · exact h0
    · exact h1
    · exact h2
  have hB4 : ∀ k, k < 3 → mB (zwI M3 279 31 (nI (len + n))) k len (N k) (b k) := fun k hk => ⟨mK_mv hq4 (by decide) (by decide) (hK k hk).1, (hK k hk).2⟩
  obtain ⟨M', d1, d2, d3, d4⟩ := mra_loop (aRs_mv hq4 (by decide) (by decide) hR) (len := len) (len' := len + n) (kn := pl + n) (ko := pl) (i0 := i0) (by omega) (mTe_x hT4) hB4 (fun k hk => ⟨by rw [zw_I, if_neg (by omega), (c3.2 306 (by decide)).1, (b3.2 306 (by decide)).1]; exact (hi0 k hk).1, (hi0 k hk).2.1, by have := hto k hk _ (hi0 k hk).2; omega⟩) hp (shf_in (by omega)) (by omega) 3 0 zFU (zwI M3 279 31 (nI (len + n))) (by omega) (by unfold zFU; omega) hA zq.rf (fun k' _ hk' => (hB4 k' hk').1) (fun k' hk' => absurd hk' (by omega))
  refine ⟨M', ?_, d2, (hq4.wk (fun q z => ⟨z.2.1, z.2.2.1, z.2.2.2⟩)).tr (d3.wk (fun q z => z.1)), fun j hj => ?_, ?_, fun k hk => ?_⟩
  · unfold fX9_putIn
    rw [zck_f h (by decide) zk_279, Option.bind_some, a1, Option.bind_some, zgI_f a2 (by decide) zk_279, Option.bind_some, e31, zlt_e, b1, show (0 : Int32) = nI 0 from rfl, c1]
    unfold fX9_putIn_39
    rw [if_pos (Int32.le_refl _), zgI_f c2 (by decide) zk_279, Option.bind_some, e31', nI_add, zpI_f c2 (by decide) zk_279, Option.bind_some, zck_f hA (by decide) zk_279, Option.bind_some, nI_add]
    unfold fX9_repairAll
    rw [show (0 : Int32) = nI 0 from rfl, d1, Option.bind_some]
  · rw [(d3.2 279 (mrx_l (by decide))).1, zw_I, if_neg (by omega), (hq3.2 279 ⟨by decide, by decide⟩).1]
  · unfold mTe at *
    rw [(d3.2 279 (mrx_l (by decide))).1, (d3.2 302 (mrx_l (by decide))).1]
    exact hT4
  · obtain ⟨nn, q, j1, g1, g2, g3⟩ := d4 k hk
    rw [aTr_mv hq4 (fun q h1 h2 => by omega), ← aCl_mv d3 (mrx_l (by decide)) (mrx_l (by decide))] at g1
    exact ⟨i0 k, nn, q, j1, (hi0 k hk).2, g1, g3, g2⟩
theorem mdn_loop {n pl len : Nat} {ch : Nat → Nat} (hl : len ≤ 100) (hp : pl + n ≤ len) (hch : ∀ t, t < len → ch t ≤ 126) : ∀ d j fuel M, j + d = len - n → pl ≤ j → d < fuel → zO M → M.2.1 279 31 = nI (len - n) → (∀ t, t < j → M.2.1 302 t = nI (chO ch pl n t)) → (∀ t, j ≤ t → t < len → M.2.1 302 t = nI (ch t)) →
    ∃ M', fX9_takeOut_17L fuel M 279 (nI pl) (nI n) (nI j) = fX9_takeOut_17 (fX9_takeOut_17L 0) M' 279 (nI pl) (nI n) (nI (len - n)) ∧ zO M' ∧ zq (fun a => a ≠ 302) M M' ∧ (∀ t, t < len - n → M'.2.1 302 t = nI (chO ch pl n t)) := by
  intro d
  induction d with
  | zero =>
    intro j fuel M hd hj hf hM h0 h1 h2
    obtain ⟨f, rfl⟩ : ∃ f, fuel = f + 1 := ⟨fuel - 1, by omega⟩
    refine ⟨M, ?_, hM, zq.rf, fun t ht => h1 t (by omega)⟩
    show fX9_takeOut_17 (fX9_takeOut_17L f) M 279 (nI pl) (nI n) (nI j) = _
    rw [show j = len - n by omega]
    unfold fX9_takeOut_17
    rw [zgI_f hM (by decide) zk_279, Option.bind_some, h0, if_pos (Int32.le_refl _), Option.bind_some, if_pos (Int32.le_refl _)]
  | succ d ih =>
    intro j fuel M hd hj hf hM h0 h1 h2
    obtain ⟨f, rfl⟩ : ∃ f, fuel = f + 1 := ⟨fuel - 1, by omega⟩
    show ∃ M', fX9_takeOut_17 (fX9_takeOut_17L f) M 279 (nI pl) (nI n) (nI j) = _ ∧ _
    have hv := h2 (j + n) (by omega) (by omega)
    have hc := hch (j + n) (by omega)
    have hA : zO (zwI M 302 j (nI (ch (j + n)))) := hM
    obtain ⟨M', a1, a2, a3, a4⟩ := ih (j + 1) f (zwI M 302 j (nI (ch (j + n)))) (by omega) (by omega) (by omega) hA (by rw [zw_I, if_neg (by omega)]; exact h0) (fun t ht => by
      rw [zw_I]
      by_cases e1 : t = j
      · rw [if_pos ⟨rfl, e1⟩, e1]
        unfold chO
        rw [if_neg (by omega)]
      · rw [if_neg (by omega)]
        exact h1 t (by omega)) (fun t h3 h4 => by
      rw [zw_I, if_neg (by omega)]
      exact h2 t (by omega) h4)
    refine ⟨M', ?_, a2, zq_wI.tr a3, a4⟩
    rw [← a1]
    unfold fX9_takeOut_17
    rw [zgI_f hM (by decide) zk_279, Option.bind_some, h0, if_neg (show ¬ nI (len - n) ≤ nI j by rw [nI_leN (by omega) (by omega)]; omega), gr_279_32 hM, Option.bind_some, Option.bind_some, nI_add, zaI_f hM (by decide) zk_302 (by rw [zl_302]; omega), Option.bind_some, hv, zsC_f hM (by decide) zk_302 (by rw [zl_302]; omega) (chr_code (by omega)), Option.bind_some, zlt_e, nI_1]
theorem mout_ok {M : Mem} (h : zO M) (hR : aRs M) {ch : Nat → Nat} {len pl n : Nat} {N : Nat → Nat} {b : Nat → Nat → Nat} (hx : mTe M len ch) (hK : ∀ k, k < 3 → mB M k len (N k) (b k)) (hto : ∀ k, k < 3 → ∀ i0, aTo M (aCl M) k len (N k) (b k) pl i0 → b k i0 ≤ pl) (hp : pl + n ≤ len) :
    ∃ M', fX9_takeOut M 279 (nI pl) (nI n) = some M' ∧ zO M' ∧ zq mre M M' ∧ (∀ j, j ≠ 31 → M'.2.1 279 j = M.2.1 279 j) ∧ mTe M' (len - n) (chO ch pl n) ∧ ∀ k, k < 3 → mDn M M' len (len - n) pl pl (pl + n) k (N k) (b k) := by
  have hl := hx.2.1
  obtain ⟨M1, a1, a2, a3, a4⟩ := fst_ok h hR (mTe_x hx) hK (pl := pl) (by omega)
  have e31 : M1.2.1 279 31 = nI len := by rw [(a3.2 279 (by decide)).1]; exact hx.1
  have hA1 : zO (zwI M1 279 31 (nI (len - n))) := a2
  obtain ⟨M3, c1, c2, c3, c4⟩ := mdn_loop (n := n) (pl := pl) (len := len) (ch := ch) hl hp (fun t ht => (hx.2.2 t ht).2.1) (len - n - pl) pl zFU (zwI M1 279 31 (nI (len - n))) (by omega) (Nat.le_refl _) (by unfold zFU; omega) hA1 (by rw [zw_I, if_pos ⟨rfl, rfl⟩]) (fun t ht => by
    rw [zw_I, if_neg (by omega), (a3.2 302 (by decide)).1]
    unfold chO
    rw [if_pos ht]
    exact (hx.2.2 t (by omega)).2.2) (fun t _ ht => by
    rw [zw_I, if_neg (by omega), (a3.2 302 (by decide)).1]
    exact (hx.2.2 t ht).2.2)
  have hq4 : zq (fun a => a ≠ 306 ∧ a ≠ 302 ∧ a ≠ 279) M M3 := (a3.wk (fun q z => z.1)).tr ((zq_wI.wk (fun q z => z.2.2)).tr (c3.wk (fun q z => z.2.1)))
  have e31' : M3.2.1 279 31 = nI (len - n) := by rw [(c3.2 279 (by decide)).1, zw_I, if_pos ⟨rfl, rfl⟩]
  have hT4 : mTe M3 (len - n) (chO ch pl n) := by
    refine ⟨e31', by omega, fun t ht => ?_⟩
    rw [c4 t ht]
    unfold chO
    by_cases e1 : t < pl
    · rw [if_pos e1]
      exact ⟨(hx.2.2 t (by omega)).1, (hx.2.2 t (by omega)).2.1, rfl⟩
    · rw [if_neg e1]
      exact ⟨(hx.2.2 (t + n) (by omega)).1, (hx.2.2 (t + n) (by omega)).2.1, rfl⟩
  obtain ⟨i0, hi0⟩ : ∃ i0 : Nat → Nat, ∀ k, k < 3 → M1.2.1 306 k = nI (i0 k) ∧ aTo M (aCl M) k len (N k) (b k) pl (i0 k) := by
    obtain ⟨x0, h0⟩ := a4 0 (by omega)
    obtain ⟨x1, h1⟩ := a4 1 (by omega)
    obtain ⟨x2, h2⟩ := a4 2 (by omega)
    refine ⟨fun k => if k = 0 then x0 else if k = 1 then x1 else x2, fun k hk => ?_⟩
    rcases (show k = 0 ∨ k = 1 ∨ k = 2 by omega) with rfl | rfl | rfl
    · exact h0
    · exact h1
    · exact h2
  have hB4 : ∀ k, k < 3 → mB M3 k len (N k) (b k) := fun k hk => ⟨mK_mv hq4 (by decide) (by decide) (hK k hk).1, (hK k hk).2⟩
  obtain ⟨M', d1, d2, d3, d4⟩ := mra_loop (aRs_mv hq4 (by decide) (by decide) hR) (len := len) (len' := len - n) (kn := pl) (ko := pl + n) (i0 := i0) (by omega) (mTe_x hT4) hB4 (fun k hk => ⟨by rw [(c3.2 306 (by decide)).1, zw_I, if_neg (by omega)]; exact (hi0 k hk).1, (hi0 k hk).2.1, hto k hk _ (hi0 k hk).2⟩) hp (shf_out (by omega)) (by omega) 3 0 zFU M3 (by omega) (by unfold zFU; omega) c2 zq.rf (fun k' _ hk' => (hB4 k' hk').1) (fun k' hk' => absurd hk' (by omega))
  refine ⟨M', ?_, d2, (hq4.wk (fun q z => ⟨z.2.1, z.2.2.1, z.2.2.2⟩)).tr (d3.wk (fun q z => z.1)), fun j hj => ?_, ?_, fun k hk => ?_⟩
  · unfold fX9_takeOut
    rw [zck_f h (by decide) zk_279, Option.bind_some, a1, Option.bind_some, zgI_f a2 (by decide) zk_279, Option.bind_some, e31, pk_sub (show n ≤ len by omega), zpI_f a2 (by decide) zk_279, Option.bind_some, c1]
    unfold fX9_takeOut_17
    rw [zgI_f c2 (by decide) zk_279, Option.bind_some, e31', if_pos (Int32.le_refl _), zck_f c2 (by decide) zk_279, Option.bind_some]
    unfold fX9_repairAll
    rw [show (0 : Int32) = nI 0 from rfl, d1, Option.bind_some]
  · rw [(d3.2 279 (mrx_l (by decide))).1, (c3.2 279 (by decide)).1, zw_I, if_neg (by omega), (a3.2 279 (by decide)).1]
  · unfold mTe at *
    rw [(d3.2 279 (mrx_l (by decide))).1, (d3.2 302 (mrx_l (by decide))).1]
    exact hT4
  · obtain ⟨nn, q, j1, g1, g2, g3⟩ := d4 k hk
    rw [aTr_mv hq4 (fun q h1 h2 => by omega), ← aCl_mv d3 (mrx_l (by decide)) (mrx_l (by decide))] at g1
    exact ⟨i0 k, nn, q, j1, (hi0 k hk).2, g1, g3, g2⟩
