/-! ===== the text on both sides ===== -/
def cTe (M : Mem) (len : Nat) (ch : Nat → Nat) : Prop := M.2.1 2 1 = nI len ∧ len ≤ 100 ∧ ∀ t, t < len → 32 ≤ ch t ∧ ch t ≤ 126 ∧ M.2.1 3 t = nI (ch t)
def mTe (M : Mem) (len : Nat) (ch : Nat → Nat) : Prop := M.2.1 279 31 = nI len ∧ len ≤ 100 ∧ ∀ t, t < len → 32 ≤ ch t ∧ ch t ≤ 126 ∧ M.2.1 302 t = nI (ch t)
def cCs (M : Mem) (cc : Nat → Nat) : Prop := ∀ i, i < 95 → cc i < 12 ∧ M.2.1 4 i = nI (cc i)
def mCs (M : Mem) (cc : Nat → Nat) : Prop := ∀ i, i < 95 → cc i < 12 ∧ M.2.1 280 (32 + i) = nI (cc i)
def acl (cc ch : Nat → Nat) : Nat → Int32 := fun t => nI (cc (ch t - 32))
theorem cTe_x {M : Mem} {len : Nat} {ch cc : Nat → Nat} (h : cTe M len ch) (h2 : cCs M cc) : cTx M len (fun t => cc (ch t - 32)) := by
  refine ⟨h.1, h.2.1, fun t ht => ?_⟩
  obtain ⟨a1, a2, a3⟩ := h.2.2 t ht
  obtain ⟨b1, b2⟩ := h2 (ch t - 32) (by omega)
  exact ⟨ch t, a1, a2, a3, b2, b1⟩
theorem mTe_x {M : Mem} {len : Nat} {ch : Nat → Nat} (h : mTe M len ch) : aTx M len := ⟨h.1, h.2.1, fun t ht => ⟨ch t, by have := (h.2.2 t ht).2.1; omega, (h.2.2 t ht).2.2⟩⟩
theorem mTe_c {M : Mem} {len : Nat} {ch cc : Nat → Nat} (h : mTe M len ch) (h2 : mCs M cc) {t : Nat} (ht : t < len) : aCl M t = acl cc ch t := by
  obtain ⟨a1, a2, a3⟩ := h.2.2 t ht
  obtain ⟨b1, b2⟩ := h2 (ch t - 32) (by omega)
  unfold aCl acl
  rw [a3, nI_clamp (by omega), show ch t = 32 + (ch t - 32) by omega, b2, show 32 + (ch t - 32) - 32 = ch t - 32 by omega]
theorem cTe_mv {M M' : Mem} {Q : Nat → Prop} (hq : zq Q M M') (h1 : Q 2) (h2 : Q 3) {len : Nat} {ch : Nat → Nat} (h : cTe M len ch) : cTe M' len ch := by
  unfold cTe at *
  rw [(hq.2 2 h1).1, (hq.2 3 h2).1]
  exact h
theorem cCs_mv {M M' : Mem} {Q : Nat → Prop} (hq : zq Q M M') (h1 : Q 4) {cc : Nat → Nat} (h : cCs M cc) : cCs M' cc := by
  unfold cCs at *
  rw [(hq.2 4 h1).1]
  exact h
theorem mCs_mv {M M' : Mem} {Q : Nat → Prop} (hq : zq Q M M') (h1 : Q 280) {cc : Nat → Nat} (h : mCs M cc) : mCs M' cc := by
  unfold mCs at *
  rw [(hq.2 280 h1).1]
  exact h
/-- the text with n characters e put in at pl; with n taken out there -/
def chI (ch e : Nat → Nat) (pl n : Nat) : Nat → Nat := fun t => if t < pl then ch t else if t < pl + n then e (t - pl) else ch (t - n)
def chO (ch : Nat → Nat) (pl n : Nat) : Nat → Nat := fun t => if t < pl then ch t else ch (t + n)
theorem put_ok {M : Mem} (h : zO M) {len pl n a : Nat} {ch e : Nat → Nat} (hx : cTe M len ch) (ha : zrow a) (ha2 : a ≠ 2) (ha3 : a + 1 ≠ 3) (ha4 : a ≠ 3) (hL : n ≤ zsL (a + 1)) (hn : M.2.1 a 1 = nI n) (he : ∀ i, i < n → 32 ≤ e i ∧ e i ≤ 126 ∧ M.2.1 (a + 1) i = nI (e i)) (hp : pl ≤ len) (hl : len + n ≤ 100) :
    ∃ M', fX4_putIn M 2 (nI pl) a = some M' ∧ zO M' ∧ zq (fun q => q ≠ 2 ∧ q ≠ 3) M M' ∧ M'.2.2 = M.2.2 ∧ cTe M' (len + n) (chI ch e pl n) := by
  obtain ⟨r1, r2, r3, r4⟩ := ha
  obtain ⟨q1, q2, q3⟩ := hx
  have z3 : zsK 3 = 10 := zk_3
  have zl : zsL 3 = 100 := by decide +kernel
  unfold fX4_putIn
  rw [zgI_f h (by omega) r2, Option.bind_some, hn, if_neg (nI_pos (by omega)), zgI_f h (by decide) zk_2, Option.bind_some, q1, if_neg (show ¬ nI len < nI pl by rw [nI_ltN (by omega) (by omega)]; omega), gr_2_0 h, Option.bind_some, zal_f h (by decide) z3, Option.bind_some, zl, Option.bind_some, pk_sub (show len ≤ 100 by omega), if_pos (show nI n ≤ nI (100 - len) by rw [nI_leN (by omega) (by omega)]; omega), Option.bind_some, Option.bind_some, Option.bind_some, nI_add, pk_sub hp, zcp_f h (by decide) z3 (by decide) z3 (by rw [zl]; omega) (by rw [zl]; omega), Option.bind_some]
  have hA : zO (zwA M 3 (va_cpy (M.2.1 3) (M.2.1 3) pl (pl + n) (len - pl))) := h
  rw [zgR_f hA (by omega) r2 r3, Option.bind_some, gr_2_0 hA, Option.bind_some, show (0 : Int32) = nI 0 from rfl, zcp_f hA (by omega) r4 (by decide) z3 (by omega) (by rw [zl]; omega), Option.bind_some]
  have hB : zO (zwA (zwA M 3 (va_cpy (M.2.1 3) (M.2.1 3) pl (pl + n) (len - pl))) 3 (va_cpy ((zwA M 3 (va_cpy (M.2.1 3) (M.2.1 3) pl (pl + n) (len - pl))).2.1 (a + 1)) ((zwA M 3 (va_cpy (M.2.1 3) (M.2.1 3) pl (pl + n) (len - pl))).2.1 3) 0 pl n)) := h
  have e2 : ∀ f g : Nat → Int32, (zwA (zwA M 3 f) 3 g).2.1 2 1 = nI len := fun f g => by rw [zw_A, if_neg (by decide), zw_A, if_neg (by decide)]; exact q1
  rw [zgI_f hB (by decide) zk_2, Option.bind_some, e2, nI_add, zpI_f hB (by decide) zk_2, Option.bind_some]
  refine ⟨_, rfl, h, (zq_wA.wk (fun q z => z.2)).tr ((zq_wA.wk (fun q z => z.2)).tr (zq_wI.wk (fun q z => z.1))), rfl, ?_, hl, fun t ht => ?_⟩
  · rw [zw_I, if_pos ⟨rfl, rfl⟩]
  · rw [zw_I, if_neg (by omega), zw_A, if_pos rfl]
    unfold va_cpy
    rw [zw_A, if_neg ha3, zw_A, if_pos rfl]
    unfold chI
    by_cases e1 : t < pl
    · rw [if_pos e1, if_neg (by omega), if_neg (by omega)]
      exact q3 t (by omega)
    · rw [if_neg e1]
      by_cases e2 : t < pl + n
      · rw [if_pos e2, if_pos (by omega), Nat.zero_add]
        exact he (t - pl) (by omega)
      · rw [if_neg e2, if_neg (by omega), if_pos (by omega), show pl + (t - (pl + n)) = t - n by omega]
        exact q3 (t - n) (by omega)
theorem take_ok {M : Mem} (h : zO M) {len pl n : Nat} {ch : Nat → Nat} (hx : cTe M len ch) (hp : pl + n ≤ len) :
    ∃ M', fX4_takeOut M 2 (nI pl) (nI n) = some M' ∧ zO M' ∧ zq (fun q => q ≠ 2 ∧ q ≠ 3) M M' ∧ M'.2.2 = M.2.2 ∧ cTe M' (len - n) (chO ch pl n) := by
  obtain ⟨q1, q2, q3⟩ := hx
  have z3 : zsK 3 = 10 := zk_3
  have zl : zsL 3 = 100 := by decide +kernel
  unfold fX4_takeOut
  rw [if_neg (nI_pos (by omega)), if_neg (nI_pos (by omega)), zgI_f h (by decide) zk_2, Option.bind_some, q1, pk_sub (show pl ≤ len by omega), if_pos (show nI n ≤ nI (len - pl) by rw [nI_leN (by omega) (by omega)]; omega), gr_2_0 h, Option.bind_some, Option.bind_some, Option.bind_some, nI_add, pk_sub (show pl ≤ len by omega), pk_sub (show n ≤ len - pl by omega), zcp_f h (by decide) z3 (by decide) z3 (by rw [zl]; omega) (by rw [zl]; omega), Option.bind_some]
  have hA : zO (zwA M 3 (va_cpy (M.2.1 3) (M.2.1 3) (pl + n) pl (len - pl - n))) := h
  have e2 : ∀ f : Nat → Int32, (zwA M 3 f).2.1 2 1 = nI len := fun f => by rw [zw_A, if_neg (by decide)]; exact q1
  rw [zgI_f hA (by decide) zk_2, Option.bind_some, e2, pk_sub (show n ≤ len by omega), zpI_f hA (by decide) zk_2, Option.bind_some]
  refine ⟨_, rfl, h, (zq_wA.wk (fun q z => z.2)).tr (zq_wI.wk (fun q z => z.1)), rfl, ?_, by omega, fun t ht => ?_⟩
  · rw [zw_I, if_pos ⟨rfl, rfl⟩]
  · rw [zw_I, if_neg (by omega), zw_A, if_pos rfl]
    unfold va_cpy chO
    by_cases e1 : t < pl
    · rw [if_pos e1, if_neg (by omega)]
      exact q3 t (by omega)
    · rw [if_neg e1, if_pos (by omega), show pl + n + (t - pl) = t + n by omega]
      exact q3 (t + n) (by omega)
/-! ===== the class's kinds, one after the other ===== -/
def kfl (q : Nat) : Prop := ∀ k, k < 3 → kfa k q
theorem kfl_m {q : Nat} (h : q < 8 ∨ 152 ≤ q) : kfl q := fun _ hk => kfa_m hk h
theorem kfl_r {k p i : Nat} (hk : k < 3) (hp : p < 5) (hi : 1 ≤ i ∧ i ≤ 6) : kfl (zra k p + i) := fun _ hk' => kfa_r hk' hk hp hi
theorem kfa_o {k k' j : Nat} (hk : k < 3) (hk' : k' < 3) (hne : k' ≠ k) (hj : j < 48) : kfa k (8 + 48 * k' + j) := by
  refine ⟨⟨by omega, fun p hp => ?_⟩, by omega⟩
  unfold zra
  omega
theorem zWt_mv {M M' : Mem} {r w1 w2 : Nat} (e : M'.2.2 r = M.2.2 r) (h : zWt M r w1 w2) : zWt M' r w1 w2 := by
  unfold zWt at *
  rw [e]
  exact h
def wAll (M : Mem) : Prop := ∀ k, k < 3 → ∀ p, p < 5 → ∃ w1 w2, zWt M (zra k p) w1 w2
theorem wAll_k {M M' : Mem} {k : Nat} (hk : k < 3) (hq : zq (kfa k) M M') (hw : wAll M) (h : ∀ p, p < 5 → ∃ w1 w2, zWt M' (zra k p) w1 w2) : wAll M' := by
  intro k' hk' p hp
  by_cases e : k' = k
  · subst e
    exact h p hp
  · obtain ⟨w1, w2, h3⟩ := hw k' hk' p hp
    refine ⟨w1, w2, zWt_mv (hq.2 _ ?_).2 h3⟩
    have := kfa_o hk hk' e (j := 3 + 9 * p) (by omega)
    rw [show 8 + 48 * k' + (3 + 9 * p) = zra k' p by unfold zra; omega] at this
    exact this
theorem wAll_r {M M' : Mem} (e : M'.2.2 = M.2.2) (hw : wAll M) : wAll M' := fun k hk p hp => by
  obtain ⟨w1, w2, h3⟩ := hw k hk p hp
  exact ⟨w1, w2, zWt_mv (by rw [e]) h3⟩
theorem iRs_mv {M M' Mr : Mem} {Q : Nat → Prop} {k : Nat} (hk : k < 3) (hq : zq Q M M') (hra : ∀ p, p < 5 → ∀ i, 1 ≤ i → i ≤ 6 → Q (zra k p + i)) (hw : wAll M') (h : iRs M Mr k) : iRs M' Mr k := fun p hp => iRule_mv hq (hra p hp) (hw k hk p hp) (h p hp)
/-- what carryOut() leaves of a kind -/
def kDn (M Mr : Mem) (cl cl' : Nat → Int32) (len len' pl kn ko k N : Nat) (b : Nat → Nat) : Prop :=
  ∃ i0 n q j1, aTo Mr cl k len N b pl i0 ∧ aTr Mr cl' k len' N b i0 kn ko n q j1 ∧ M.2.1 (8 + 48 * k) 2 = nI n ∧ cK M Mr cl' k len' (i0 + n + (N - j1)) (nxB b q i0 n j1 kn ko)
theorem cary_loop {M0 Mr : Mem} {cl cl' : Nat → Int32} {c' : Nat → Nat} {len len' pl n kn ko : Nat} {N : Nat → Nat} {b : Nat → Nat → Nat} {x2 : Int32} (hR : ∀ k, k < 3 → iRs M0 Mr k) (hx : cTx M0 len' c') (hcl : ∀ t, t < len' → cl' t = nI (c' t)) (hl : len ≤ 100) (hK : ∀ k, k < 3 → cK M0 Mr cl k len (N k) (b k)) (hmv : (x2 = 0 ∧ ko = pl + n ∧ kn = pl) ∨ (x2 = 1 ∧ ko = pl ∧ kn = pl + n)) (hko : ko ≤ len) (hle : len' + ko = len + kn) (hA : ∀ t, t < pl → cl t = cl' t) (hB : ∀ t, ko ≤ t → t < len → cl t = cl' (t + kn - ko)) : ∀ d k fuel M, k + d = 3 → d < fuel → zO M → zq kfl M0 M → wAll M → (∀ k', k ≤ k' → k' < 3 → M.2.1 (10 + 48 * k') = M0.2.1 (10 + 48 * k')) → (∀ k', k' < k → kDn M Mr cl cl' len len' pl kn ko k' (N k') (b k')) →
    ∃ M', fX8_carryOut_82L fuel M 0 x2 (nI len) (nI pl) (nI n) (nI kn) (nI k) = some M' ∧ zO M' ∧ zq kfl M0 M' ∧ wAll M' ∧ ∀ k', k' < 3 → kDn M' Mr cl cl' len len' pl kn ko k' (N k') (b k') := by
  have hl' := hx.2.1
  intro d
  induction d with
  | zero =>
    intro k fuel M hd hf hM hq hw hu hi
    obtain ⟨f, rfl⟩ : ∃ f, fuel = f + 1 := ⟨fuel - 1, by omega⟩
    show ∃ M', fX8_carryOut_82 (fX8_carryOut_82L f) M 0 x2 (nI len) (nI pl) (nI n) (nI kn) (nI k) = some M' ∧ _
    unfold fX8_carryOut_82
    rw [show (3 : Int32) = nI 3 from rfl, if_pos (show nI 3 ≤ nI k by rw [nI_leN (by omega) (by omega)]; omega)]
    exact ⟨M, rfl, hM, hq, hw, fun k' hk' => hi k' (by omega)⟩
  | succ d ih =>
    intro k fuel M hd hf hM hq hw hu hi
    obtain ⟨f, rfl⟩ : ∃ f, fuel = f + 1 := ⟨fuel - 1, by omega⟩
    show ∃ M', fX8_carryOut_82 (fX8_carryOut_82L f) M 0 x2 (nI len) (nI pl) (nI n) (nI kn) (nI k) = some M' ∧ _
    have hk : k < 3 := by omega
    obtain ⟨z1, z2, z3, z4, z5, z6, z7, z8⟩ := zkind hk
    have hKM : cK M Mr cl k len (N k) (b k) := by
      have := hK k hk
      unfold cK at *
      rw [hu k (Nat.le_refl _) hk]
      exact this
    obtain ⟨i0, t1, t2⟩ := ft_ok hM hk hl hKM (pl := pl) (by omega)
    have hra : zaR M 14 7 (nI k) = some (8 + 48 * k) := by
      rw [zaR_f hM (by decide) zk_7 (by rw [zl_7]; exact hk)]
      exact hM.2 _ _ _ z8
    -- behind the move
    have core : ∀ M1, zO M1 → zq (fun q => q ≠ 10 + 48 * k) M M1 → M1.2.2 = M.2.2 → (∀ x, x < len' → M1.2.1 (10 + 48 * k) x = if x < pl then M.2.1 (10 + 48 * k) x else if x < kn then 0 else M.2.1 (10 + 48 * k) (x + ko - kn)) → ∃ M', fX8_carryOut_134 (fX8_carryOut_82L f) M1 0 x2 (nI len) (nI pl) (nI n) (nI kn) (nI k) (8 + 48 * k) (nI (b k i0)) = some M' ∧ zO M' ∧ zq kfl M0 M' ∧ wAll M' ∧ ∀ k', k' < 3 → kDn M' Mr cl cl' len len' pl kn ko k' (N k') (b k') := by
      intro M1 g1 g2 g3 g4
      have hw1 : wAll M1 := wAll_r g3 hw
      have hq1 : zq kfl M0 M1 := hq.tr (g2.wk (fun q z => (z k hk).2))
      have hR1 : iRs M1 Mr k := iRs_mv hk hq1 (fun p hp i h1 h2 => kfl_r hk hp ⟨h1, h2⟩) hw1 (hR k hk)
      have hx1 : cTx M1 len' c' := hx.mv hq1 (kfl_m (by omega)) (kfl_m (by omega)) (kfl_m (by omega))
      obtain ⟨M2, nn, q, j1, a1, a2, a3, a4, a5, a6, a7⟩ := ced_ok hk g1 hR1 hx1 hcl hl hKM t2 (by omega) (by omega) hko hle hA hB g4
      unfold fX8_carryOut_134
      rw [gr_0_0 g1, Option.bind_some, zck_f g1 (by omega) z1, Option.bind_some, a1, Option.bind_some, zlt_e, nI_1]
      refine ih (k + 1) f M2 (by omega) (by omega) a2 (hq1.tr (a3.wk (fun q z => z k hk))) (wAll_k hk a3 hw1 a4) (fun k' h1 h2 => ?_) (fun k' h1 => ?_)
      · rw [(a3.2 _ (by have := kfa_o hk h2 (show k' ≠ k by omega) (j := 2) (by omega); rw [show 8 + 48 * k' + 2 = 10 + 48 * k' by omega] at this; exact this)).1, (g2.2 _ (by omega)).1]
        exact hu k' (by omega) h2
      · rcases Nat.lt_or_ge k' k with w | w
        · obtain ⟨i1, n1, q1, j2, c1, c2, c3, c4⟩ := hi k' w
          refine ⟨i1, n1, q1, j2, c1, c2, ?_, ?_⟩
          · rw [(a3.2 _ (by have := kfa_o hk (show k' < 3 by omega) (show k' ≠ k by omega) (j := 0) (by omega); exact this)).1, (g2.2 _ (by omega)).1]
            exact c3
          · refine cK_mv a3 ?_ (cK_mv g2 (by omega) c4)
            have := kfa_o hk (show k' < 3 by omega) (show k' ≠ k by omega) (j := 2) (by omega)
            rw [show 8 + 48 * k' + 2 = 10 + 48 * k' by omega] at this
            exact this
        · rw [show k' = k by omega]
          exact ⟨i0, nn, q, j1, t2, a6, a5, a7⟩
    unfold fX8_carryOut_82
    rw [show (3 : Int32) = nI 3 from rfl, if_neg (show ¬ nI 3 ≤ nI k by rw [nI_leN (by omega) (by omega)]; omega), gr_0_2 hM, Option.bind_some, hra, Option.bind_some, zck_f hM (by omega) z1, Option.bind_some, t1, Option.bind_some]
    dsimp only
    rcases hmv with ⟨rfl, e1, e2⟩ | ⟨rfl, e1, e2⟩
    · rw [if_pos rfl, zck_f hM (by omega) z1, Option.bind_some]
      obtain ⟨M1, g0, g1, g2, g3, g4⟩ := mdn_ok hM hk (show pl + n ≤ len by omega) hl
      rw [g0, Option.bind_some]
      refine core M1 g1 g2 g3 (fun x hx' => ?_)
      rw [g4 x (by omega)]
      by_cases h1 : x < pl
      · rw [if_pos h1, if_pos h1]
      · rw [if_neg h1, if_neg h1, if_neg (by omega), show x + ko - kn = x + n by omega]
    · rw [if_neg (by decide), zck_f hM (by omega) z1, Option.bind_some]
      obtain ⟨M1, g0, g1, g2, g3, g4⟩ := mup_ok hM hk (show pl ≤ len by omega) (show len + n ≤ 100 by omega)
      rw [g0, Option.bind_some]
      refine core M1 g1 g2 g3 (fun x hx' => ?_)
      rw [g4 x (by omega), e2, e1, show x + pl - (pl + n) = x - n by omega]
