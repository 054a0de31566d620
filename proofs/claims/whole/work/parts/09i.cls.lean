/-! ===== matchLength, looksAt, setClass ===== -/
def ksc (q : Nat) : Prop := ∀ k, k < 3 → kfr k q
theorem ksc_m {q : Nat} (h : q < 8 ∨ 152 ≤ q) : ksc q := fun _ hk => kfr_m hk h
theorem ksc_l {k : Nat} (hk : k < 3) : ksc (10 + 48 * k) := fun k' hk' => by
  refine ⟨by omega, fun p hp => ?_⟩
  unfold zra
  omega
theorem inv_scr {M M' : Mem} (hI : Inv M) (hz : zO M') (hq : zq ksc M M') (h2 : ∀ k, k < 3 → M'.2.1 (8 + 48 * k) 2 = M.2.1 (8 + 48 * k) 2) (hw : wAll M') : Inv M' := by
  obtain ⟨h, hP, hE, hR, cc, len, ch, c1, c2, t1, t2, hK, hH⟩ := hI
  refine ⟨hz, iP_mv hq (ksc_m (by omega)) (ksc_m (by omega)) (ksc_m (by omega)) (by rw [(hq.2 279 (ksc_m (by omega))).1]) hP, iE_mv hq (ksc_m (by omega)) (fun q x y => ksc_m (by omega)) (ksc_m (by omega)) (ksc_m (by omega)) (by rw [(hq.2 279 (ksc_m (by omega))).1]) hE, fun k hk p hp => iRule_mr hq (fun q x y => ksc_m (by omega)) (iRule_mv hq (fun i x y => fun k' hk' => kfr_r hk' hk hp ⟨x, y⟩) (hw k hk p hp) (hR k hk p hp)), cc, len, ch, cCs_mv hq (ksc_m (by omega)) c1, mCs_mv hq (ksc_m (by omega)) c2, cTe_mv hq (ksc_m (by omega)) (ksc_m (by omega)) t1, ?_, fun k hk => ?_, ?_⟩
  · unfold mTe at *
    rw [(hq.2 279 (ksc_m (by omega))).1, (hq.2 302 (ksc_m (by omega))).1]
    exact t2
  · obtain ⟨N, b, w, a1, a2, a3, a4⟩ := hK k hk
    exact ⟨N, b, w, cK_mr hq (fun q x y => ksc_m (by omega)) (cK_mv hq (ksc_l hk) a1), mK_mv hq (ksc_m (by omega)) (ksc_m (by omega)) a2, by rw [h2 k hk]; exact a3, by rw [(hq.2 305 (ksc_m (by omega))).1]; exact a4⟩
  · obtain ⟨o, u, r, D, Ls, g1, g2, g3, g4, g5, g6, g7, g8, g9, g10, g11, g12⟩ := hH
    refine ⟨o, u, r, D, Ls, g1, g2, by rw [(hq.2 187 (ksc_m (by omega))).1]; exact g3, by rw [(hq.2 187 (ksc_m (by omega))).1]; exact g4, by rw [(hq.2 187 (ksc_m (by omega))).1]; exact g5, by rw [(hq.2 279 (ksc_m (by omega))).1]; exact g6, by rw [(hq.2 279 (ksc_m (by omega))).1]; exact g7, g8, g9, fun i hi => cSl_mv hq (ksc_m (by omega)) (ksc_m (by omega)) (ksc_m (by omega)) (g10 i hi), fun i hi => uSl_mv hq (fun q x y => ksc_m (by omega)) (g11 i hi), fun i hi => rSl_mv hq (fun q x y => ksc_m (by omega)) (g12 i hi)⟩
theorem looksAt_ok {M : Mem} (hI : Inv M) (x p : Int32) : Op (fX8_looksAt M 0 x p) (fun M1 => fX9_looksAt M1 279 x p) := by
  obtain ⟨h, hP, hE, hR, cc, len, ch, c1, c2, t1, t2, hK, hH⟩ := id hI
  have hl := t1.2.1
  rcases ikd_ok x with ⟨a1, a2⟩ | ⟨k, hk, rfl, a1, a2⟩
  · refine op_same hI (-2) ?_ ?_
    · unfold fX8_looksAt
      rw [a1, Option.bind_some, if_pos rfl]
    · show fX9_looksAt M 279 x p = _
      unfold fX9_looksAt
      rw [a2, Option.bind_some, if_neg (by decide)]
  rcases ipc_ok h hl t1.1 p with ⟨p1, p2⟩ | ⟨pos, p0, rfl, p1, p2⟩
  · refine op_same hI (-1) ?_ ?_
    · unfold fX8_looksAt
      rw [a1, Option.bind_some, if_neg (by decide), zck_f h (by decide) zk_0, Option.bind_some, p1, Option.bind_some, if_pos rfl]
    · show fX9_looksAt M 279 (nI k) p = _
      unfold fX9_looksAt
      rw [a2, Option.bind_some, if_pos rfl, zgI_f h (by decide) zk_279, Option.bind_some, t2.1, p2, Option.bind_some, if_pos rfl]
  obtain ⟨z1, z2, z3, z4, z5, z6, z7, z8⟩ := zkind hk
  obtain ⟨M1, b1, b2, b3, b4, b5, S, R, b6, b7, b8, b9⟩ := meas_ok (Mr := M) (cl := acl cc ch) h hk (hR k hk) (cTe_x t1 c1) (fun t ht => rfl) (pos := pos) (by omega)
  have hqk : zq ksc M M1 := b3.wk (fun q z => z k hk)
  have hm : ∀ q, 279 ≤ q → M1.2.1 q = M.2.1 q := fun q hq => (hqk.2 q (ksc_m (by omega))).1
  have t2' : mTe M1 len ch := by
    unfold mTe at *
    rw [hm 279 (by omega), hm 302 (by omega)]
    exact t2
  have c2' := mCs_mv hqk (ksc_m (by omega)) c2
  obtain ⟨R', r1, r2, -⟩ := lks_ok b2 (aRs_mv hqk (ksc_m (by omega)) (ksc_m (by omega)) (aRs_of hR)) hk (mTe_x t2') (pos := pos) (by omega)
  have eR : R = R' := by
    refine aLk_u b9 ?_
    rw [← aLk_mv hqk (fun q x y => ksc_m (by omega))]
    exact aLk_cl (by omega) (fun t ht => mTe_c t2' c2' ht) r2
  subst eR
  refine ⟨nI R, M1, M1, ?_, b2, ?_, inv_scr hI b2 hqk (fun k' hk' => ?_) (fun k' hk' p' hp' => ?_)⟩
  · unfold fX8_looksAt
    rw [a1, Option.bind_some, if_neg (by decide), zck_f h (by decide) zk_0, Option.bind_some, p1, Option.bind_some, if_neg n10]
    dsimp only
    rw [gr_0_2 h, Option.bind_some, ar7 h hk, Option.bind_some, gr_0_0 h, Option.bind_some, zck_f h (by omega) z1, Option.bind_some, b1, Option.bind_some, gr_0_2 b2, Option.bind_some, ar7 b2 hk, Option.bind_some, zgI_f b2 (by omega) z1, Option.bind_some, b7]
  · show fX9_looksAt M1 279 (nI k) (nI pos) = _
    unfold fX9_looksAt
    rw [a2, Option.bind_some, if_pos rfl, zgI_f b2 (by decide) zk_279, Option.bind_some, t2'.1, p2, Option.bind_some, if_neg (by decide), zck_f b2 (by decide) zk_279, Option.bind_some, r1, Option.bind_some]
  · by_cases e : k' = k
    · rw [e]
      exact b5
    · rw [(b3.2 _ ⟨by omega, fun p hp => by unfold zra; omega⟩).1]
  · by_cases e : k' = k
    · rw [e]
      exact b4 p' hp'
    · obtain ⟨w1, w2, g⟩ := (hR k' hk' p' hp').1
      exact ⟨w1, w2, zWt_mv (b3.2 _ ⟨by unfold zra; omega, fun p hp => by unfold zra; omega⟩).2 g⟩
theorem matchLength_ok {M : Mem} (hI : Inv M) (x y p : Int32) : Op (fX8_matchLength M 0 x y p) (fun M1 => fX9_matchLength M1 279 x y p) := by
  obtain ⟨h, hP, hE, hR, cc, len, ch, c1, c2, t1, t2, hK, hH⟩ := id hI
  have hl := t1.2.1
  rcases irp_ok x y with ⟨a1, a2⟩ | ⟨k, pl, hk, hp, rfl, rfl, a1, a2, a3⟩
  · refine op_same hI (-2) ?_ ?_
    · unfold fX8_matchLength
      rcases a1 with a1 | ⟨a1, a3⟩
      · rw [a1, Option.bind_some, if_pos rfl]
      · rw [a1, Option.bind_some, if_neg (by decide), a3, Option.bind_some, if_pos rfl]
    · show fX9_matchLength M 279 x y p = _
      unfold fX9_matchLength
      rw [a2, Option.bind_some, if_neg (by decide)]
  rcases ipos_ok h hl t1.1 t2.1 p with ⟨p1, p2⟩ | ⟨pos, p0, rfl, p1, p2⟩
  · refine op_same hI (-1) ?_ ?_
    · unfold fX8_matchLength
      rw [a1, Option.bind_some, if_neg (by decide), a2, Option.bind_some, if_neg (by decide), zck_f h (by decide) zk_0, Option.bind_some, p1, Option.bind_some, if_pos rfl]
    · show fX9_matchLength M 279 (nI k) (nI pl) p = _
      unfold fX9_matchLength
      rw [a3, Option.bind_some, if_pos rfl, zck_f h (by decide) zk_279, Option.bind_some, p2 M h t2.1, Option.bind_some, if_neg n10]
  obtain ⟨z1, z2, z3, z4, z5, z6, z7, z8⟩ := zkind hk
  obtain ⟨hC, hRr, hRl, hb1, hb2⟩ := zrule hk hp
  obtain ⟨⟨w1, w2, hW⟩, n, n1, n2, n3, n4, n5⟩ := hR k hk pl hp
  by_cases hn : n = 0
  · subst hn
    refine op_same hI (-5) ?_ ?_
    · unfold fX8_matchLength
      rw [a1, Option.bind_some, if_neg (by decide), a2, Option.bind_some, if_neg (by decide), zck_f h (by decide) zk_0, Option.bind_some, p1, Option.bind_some, if_neg n10]
      dsimp only
      rw [gr_0_2 h, Option.bind_some, ar7 h hk, Option.bind_some, zgR_f h (by omega) z1 z6, Option.bind_some, ar9 h hk hp, Option.bind_some, zck_f h (by omega) hC.1, Option.bind_some, isSet_ok h hb1 hC hRr n2 n1, Option.bind_some, if_pos rfl, if_pos rfl]
    · show fX9_matchLength M 279 (nI k) (nI pl) (nI pos) = _
      unfold fX9_matchLength
      rw [a3, Option.bind_some, if_pos rfl, zck_f h (by decide) zk_279, Option.bind_some, p2 M h t2.1, Option.bind_some, if_pos rfl, zlt_e, show (5 : Int32) = nI 5 from rfl, pk_mul, nI_add]
      dsimp only
      rw [gr_279_20 h, Option.bind_some, zaI_f h (by decide) zk_291 (by rw [zl_291]; omega), Option.bind_some, n3, if_pos (show nI 0 = (0 : Int32) from rfl)]
  obtain ⟨m1, m2, m3, m4, m5, m6, m7, m8, sg, l, hG⟩ := n5 (by omega)
  obtain ⟨M1, b1, b2, b3, b4, L, R, b5, b6, b7, b8, b9⟩ := walk_ok (cl := acl cc ch) (p := pos) h hb1 hb2 hC hRr (cTe_x t1 c1) (fun t ht => rfl) (by rw [show kln M (zra k pl) = M.2.1 299 (5 * k + pl) from m6]; exact m7) hG hW p0
  have hqk : zq ksc M M1 := b3.wk (fun q z => kfr_w hp (z k hk))
  have hm : ∀ q, 279 ≤ q → M1.2.1 q = M.2.1 q := fun q hq => (hqk.2 q (ksc_m (by omega))).1
  have t2' : mTe M1 len ch := by
    unfold mTe at *
    rw [hm 279 (by omega), hm 302 (by omega)]
    exact t2
  have c2' := mCs_mv hqk (ksc_m (by omega)) c2
  obtain ⟨L', l1, l2⟩ := len_ok (r := 5 * k + pl) b2 (by omega) (by rw [hm 291 (by omega)]; exact n3) n1 (mTe_x t2') p0 (by rw [hm 299 (by omega)]; exact m7)
  have hL1 : aRL M (acl cc ch) (5 * k + pl) len pos L := by
    refine ⟨n, n1, n3, Or.inr ⟨by omega, ?_⟩⟩
    rw [← aLn_cg (F := kF M (zra k pl)) m8, ← m1, ← m2, ← m4, ← m5, ← m6]
    exact b8
  have hL2 : aRL M (acl cc ch) (5 * k + pl) len pos L' := by
    rw [← aRL_mv hqk (fun q x y => ksc_m (by omega))]
    have : aRL M1 (aCl M1) (5 * k + pl) len pos L' := ⟨n, n1, by rw [hm 291 (by omega)]; exact n3, Or.inr ⟨by omega, l2⟩⟩
    obtain ⟨n', x1, x2, x3⟩ := this
    refine ⟨n', x1, x2, ?_⟩
    rcases x3 with e | ⟨e1, e2, e3⟩
    · exact Or.inl e
    · have hc : ∀ t, t < len → aCl M1 t = acl cc ch t := fun t ht => mTe_c t2' c2' ht
      refine Or.inr ⟨e1, ?_, fun L' l1 l2 l3 => ?_⟩
      · rcases e2 with e | ⟨c1, c2, c3, c4⟩
        · exact Or.inl e
        · refine Or.inr ⟨c1, c2, ?_, ?_⟩
          · rw [← aT_loc (cl := aCl M1) (p := pos) (fun u hu => hc _ (by omega))]
            exact c3
          · rw [← aAh_cl hc]
            exact c4
      · rw [← aAh_cl hc]
        refine e3 L' l1 l2 ?_
        rw [aT_loc (cl' := acl cc ch) (p' := pos) (fun u hu => hc _ (by omega))]
        exact l3
  have eL := aRL_u hL1 hL2
  subst eL
  refine ⟨nI L, M1, M1, ?_, b2, ?_, inv_scr hI b2 hqk (fun k' hk' => ?_) (fun k' hk' p' hp' => ?_)⟩
  · unfold fX8_matchLength
    rw [a1, Option.bind_some, if_neg (by decide), a2, Option.bind_some, if_neg (by decide), zck_f h (by decide) zk_0, Option.bind_some, p1, Option.bind_some, if_neg n10]
    dsimp only
    rw [gr_0_2 h, Option.bind_some, ar7 h hk, Option.bind_some, zgR_f h (by omega) z1 z6, Option.bind_some, ar9 h hk hp, Option.bind_some, zck_f h (by omega) hC.1, Option.bind_some, isSet_ok h hb1 hC hRr n2 n1, Option.bind_some, if_neg hn, if_neg n10]
    dsimp only
    rw [gr_0_0 h, Option.bind_some, zck_f h (by omega) hC.1, Option.bind_some, b1, Option.bind_some, zgI_f b2 (by omega) hC.1, Option.bind_some, b5]
  · show fX9_matchLength M1 279 (nI k) (nI pl) (nI pos) = _
    unfold fX9_matchLength
    rw [a3, Option.bind_some, if_pos rfl, zck_f b2 (by decide) zk_279, Option.bind_some, p2 M1 b2 t2'.1, Option.bind_some, if_pos rfl, zlt_e, show (5 : Int32) = nI 5 from rfl, pk_mul, nI_add]
    dsimp only
    rw [gr_279_20 b2, Option.bind_some, zaI_f b2 (by decide) zk_291 (by rw [zl_291]; omega), Option.bind_some, hm 291 (by omega), n3, if_neg (show ¬ nI n = 0 from fun z => hn (nI_inj (by omega) (by omega) z)), zck_f b2 (by decide) zk_279, Option.bind_some, l1, Option.bind_some]
  · rw [(b3.2 _ (by unfold zra; omega)).1]
  · by_cases e : k' = k ∧ p' = pl
    · rw [e.1, e.2]
      exact b4
    · obtain ⟨w1, w2, g⟩ := (hR k' hk' p' hp').1
      refine ⟨w1, w2, zWt_mv (b3.2 _ ?_).2 g⟩
      rcases (show k = 0 ∨ k = 1 ∨ k = 2 by omega) with rfl | rfl | rfl <;> rcases (show k' = 0 ∨ k' = 1 ∨ k' = 2 by omega) with rfl | rfl | rfl <;> (unfold zra; omega)
/-- the class analyses all kinds anew -/
theorem call_loop {M0 Mr : Mem} {cl : Nat → Int32} {c : Nat → Nat} {len : Nat} {x3 : Int32} (hR : ∀ k, k < 3 → iRs M0 Mr k) (hx : cTx M0 len c) (hcl : ∀ t, t < len → cl t = nI (c t)) : ∀ d k fuel M, k + d = 3 → d < fuel → zO M → zq kfl M0 M → wAll M → (∀ k', k' < k → ∃ n q, aChn Mr cl k' len (fun _ => False) 0 n q ∧ cK M Mr cl k' len n q ∧ M.2.1 (8 + 48 * k') 2 = nI n) →
    ∃ M', fX8_setClass_43L fuel M 0 x3 (nI k) = some (x3, M') ∧ zO M' ∧ zq kfl M0 M' ∧ wAll M' ∧ ∀ k', k' < 3 → ∃ n q, aChn Mr cl k' len (fun _ => False) 0 n q ∧ cK M' Mr cl k' len n q ∧ M'.2.1 (8 + 48 * k') 2 = nI n := by
  intro d
  induction d with
  | zero =>
    intro k fuel M hd hf hM hq hw hi
    obtain ⟨f, rfl⟩ : ∃ f, fuel = f + 1 := ⟨fuel - 1, by omega⟩
    show ∃ M', fX8_setClass_43 (fX8_setClass_43L f) M 0 x3 (nI k) = some (x3, M') ∧ _
    unfold fX8_setClass_43
    rw [show (3 : Int32) = nI 3 from rfl, if_pos (show nI 3 ≤ nI k by rw [nI_leN (by omega) (by omega)]; omega)]
    exact ⟨M, rfl, hM, hq, hw, fun k' hk' => hi k' (by omega)⟩
  | succ d ih =>
    intro k fuel M hd hf hM hq hw hi
    obtain ⟨f, rfl⟩ : ∃ f, fuel = f + 1 := ⟨fuel - 1, by omega⟩
    show ∃ M', fX8_setClass_43 (fX8_setClass_43L f) M 0 x3 (nI k) = some (x3, M') ∧ _
    have hk : k < 3 := by omega
    obtain ⟨z1, z2, z3, z4, z5, z6, z7, z8⟩ := zkind hk
    have hR1 : iRs M Mr k := iRs_mv hk hq (fun p hp i h1 h2 => kfl_r hk hp ⟨h1, h2⟩) hw (hR k hk)
    obtain ⟨M2, n, q, a1, a2, a3, a4, a5, a6, a7⟩ := call_ok hM hk hR1 (hx.mv hq (kfl_m (by omega)) (kfl_m (by omega)) (kfl_m (by omega))) hcl
    unfold fX8_setClass_43
    rw [show (3 : Int32) = nI 3 from rfl, if_neg (show ¬ nI 3 ≤ nI k by rw [nI_leN (by omega) (by omega)]; omega), gr_0_2 hM, Option.bind_some, ar7 hM hk, Option.bind_some, gr_0_0 hM, Option.bind_some, zck_f hM (by omega) z1, Option.bind_some, a1, Option.bind_some, zlt_e, nI_1]
    refine ih (k + 1) f M2 (by omega) (by omega) a2 (hq.tr (a3.wk (fun q z => z k hk))) (wAll_k hk a3 hw a4) (fun k' h1 => ?_)
    rcases Nat.lt_or_ge k' k with w | w
    · obtain ⟨n', q', c1, c2, c3⟩ := hi k' w
      refine ⟨n', q', c1, cK_mv a3 ?_ c2, ?_⟩
      · have := kfa_o hk (show k' < 3 by omega) (show k' ≠ k by omega) (j := 2) (by omega)
        rw [show 8 + 48 * k' + 2 = 10 + 48 * k' by omega] at this
        exact this
      · rw [(a3.2 _ (by have := kfa_o hk (show k' < 3 by omega) (show k' ≠ k by omega) (j := 0) (by omega); exact this)).1]
        exact c3
    · rw [show k' = k by omega]
      exact ⟨n, q, a6, a7, a5⟩
theorem mall_loop {M0 : Mem} (hR : aRs M0) {len : Nat} (hx : aTx M0 len) {x2 x3 : Int32} (hne : ¬ x3 = x2) : ∀ d k fuel M, k + d = 3 → d < fuel → zO M → zq mrw M0 M → (∀ k', k' < k → ∃ n q, aChn M0 (aCl M0) k' len (fun _ => False) 0 n q ∧ mK M k' n q ∧ M.2.1 305 k' = nI n) →
    ∃ M', fX9_setClass_41L fuel M 279 x2 x3 (nI k) = some (x3, M') ∧ zO M' ∧ zq mrw M0 M' ∧ ∀ k', k' < 3 → ∃ n q, aChn M0 (aCl M0) k' len (fun _ => False) 0 n q ∧ mK M' k' n q ∧ M'.2.1 305 k' = nI n := by
  have hl := hx.2.1
  intro d
  induction d with
  | zero =>
    intro k fuel M hd hf hM hq hi
    obtain ⟨f, rfl⟩ : ∃ f, fuel = f + 1 := ⟨fuel - 1, by omega⟩
    show ∃ M', fX9_setClass_41 (fX9_setClass_41L f) M 279 x2 x3 (nI k) = some (x3, M') ∧ _
    unfold fX9_setClass_41
    rw [show (3 : Int32) = nI 3 from rfl, if_pos (show nI 3 ≤ nI k by rw [nI_leN (by omega) (by omega)]; omega)]
    exact ⟨M, rfl, hM, hq, fun k' hk' => hi k' (by omega)⟩
  | succ d ih =>
    intro k fuel M hd hf hM hq hi
    obtain ⟨f, rfl⟩ : ∃ f, fuel = f + 1 := ⟨fuel - 1, by omega⟩
    show ∃ M', fX9_setClass_41 (fX9_setClass_41L f) M 279 x2 x3 (nI k) = some (x3, M') ∧ _
    have hk : k < 3 := by omega
    obtain ⟨M2, n, q, a1, a2, a3⟩ := mana_ok hM hk (aRs_mv hq (mrw_l (by decide)) (mrw_l (by decide)) hR) (aTx_mv hq (mrw_l (by decide)) (mrw_l (by decide)) hx)
    rw [aChn_mv hq (fun q h1 h2 => mrw_l (by omega)), aCl_mv hq (mrw_l (by decide)) (mrw_l (by decide))] at a3
    obtain ⟨s1, s2, s3, s4, s5, s6⟩ := a2
    unfold fX9_setClass_41
    rw [show (3 : Int32) = nI 3 from rfl, if_neg (show ¬ nI 3 ≤ nI k by rw [nI_leN (by omega) (by omega)]; omega), if_neg hne, zck_f hM (by decide) zk_279, Option.bind_some, a1, Option.bind_some, zlt_e, nI_1]
    refine ih (k + 1) f M2 (by omega) (by omega) s1 (hq.tr s2) (fun k' h1 => ?_)
    rcases Nat.lt_or_ge k' k with w | w
    · obtain ⟨n', q', c1, c2, c3⟩ := hi k' w
      obtain ⟨d1, d2, d3⟩ := s6 k' (by omega) (by omega)
      have hqn : q' n' ≤ 100 := by
        rcases c1.2.2 with e | ⟨e, -⟩ <;> omega
      have := aChn_i c1 n' (Nat.le_refl _)
      exact ⟨n', q', c1, ⟨by rw [d1]; exact c2.1, fun i hi' => by rw [d3 i (by omega)]; exact c2.2 i hi'⟩, by rw [d2]; exact c3⟩
    · rw [show k' = k by omega]
      exact ⟨n, q, a3, ⟨s3, fun i hi' => s4 i (by omega)⟩, s5⟩
/-- a kind has been analysed anew on both sides -/
theorem iK_all {M1 M2 Mr Ma : Mem} {cl : Nat → Int32} {k len : Nat} (hk : k < 3) (hra : zq (fun q => 291 ≤ q ∧ q ≤ 301) Mr Ma) (hrb : zq (fun q => 291 ≤ q ∧ q ≤ 301) Mr M2) (hcl : zq (fun q => q < 279) M1 M2) (hc : ∀ t, t < len → aCl Ma t = cl t) (h1 : ∃ n q, aChn Mr cl k len (fun _ => False) 0 n q ∧ cK M1 Mr cl k len n q ∧ M1.2.1 (8 + 48 * k) 2 = nI n) (h2 : ∃ n q, aChn Ma (aCl Ma) k len (fun _ => False) 0 n q ∧ mK M2 k n q ∧ M2.2.1 305 k = nI n) : iK M2 len cl k := by
  obtain ⟨n, q, a1, a2, a3⟩ := h1
  obtain ⟨n', q', b1, b2, b3⟩ := h2
  have b1' : aChn Mr cl k len (fun _ => False) 0 n' q' := by
    rw [← aChn_mv hra (fun q x y => ⟨x, y⟩)]
    exact aChn_cl hc b1
  obtain ⟨e1, e2⟩ := aChn_u a1 b1' (fun x _ => Iff.rfl)
  subst e1
  refine ⟨n, q, n, cK_mr hrb (fun q x y => ⟨x, y⟩) (cK_mv hcl (by omega) a2), ⟨b2.1, fun i hi => ?_⟩, ?_, b3⟩
  · rw [e2 i hi]
    exact b2.2 i hi
  · rw [(hcl.2 _ (by omega)).1]
    exact a3
theorem setClass_ok {M : Mem} (hI : Inv M) {c : Nat} (hc16 : c < 65536) (x : Int32) : Op (fX8_setClass M 0 (nI c) x) (fun M1 => fX9_setClass M1 279 (nI c) x) := by
  obtain ⟨h, hP, hE, hR, cc, len, ch, c1, c2, t1, t2, hK, hH⟩ := id hI
  have hl := t1.2.1
  rcases ichr_ok hc16 with ⟨b1, b2, b3, b4⟩ | ⟨b1, b3, b4⟩
  rotate_left
  · refine op_same hI (-2) ?_ ?_
    · unfold fX8_setClass
      rw [b3, Option.bind_some, if_pos rfl]
    · show fX9_setClass M 279 (nI c) x = _
      unfold fX9_setClass
      rw [b4, Option.bind_some, if_pos rfl]
  rcases icl_ok x with ⟨a1, a2⟩ | ⟨m, hm, rfl, a1, a2⟩
  · refine op_same hI (-2) ?_ ?_
    · unfold fX8_setClass
      rw [b3, Option.bind_some, if_neg (by decide), a1, Option.bind_some, if_pos rfl]
    · show fX9_setClass M 279 (nI c) x = _
      unfold fX9_setClass
      rw [b4, Option.bind_some, if_neg (by decide), a2, Option.bind_some, if_pos rfl]
  have e1 := c1 (c - 32) (by omega)
  have e2 := c2 (c - 32) (by omega)
  rw [show 32 + (c - 32) = c by omega] at e2
  by_cases hsame : cc (c - 32) = m
  · refine ⟨nI m, M, zwI M 280 c (nI m), ?_, h, ?_, ?_⟩
    · unfold fX8_setClass
      rw [b3, Option.bind_some, if_neg (by decide), a1, Option.bind_some, if_neg (by decide), gr_0_0 h, Option.bind_some, zck_f h (by decide) zk_1, Option.bind_some, coc_ok h b1 b2, Option.bind_some, e1.2, hsame, if_pos rfl]
    · show fX9_setClass M 279 (nI c) (nI m) = _
      unfold fX9_setClass
      rw [b4, Option.bind_some, if_neg (by decide), a2, Option.bind_some, if_neg (by decide), gr_279_0 h, Option.bind_some, zaI_f h (by decide) zk_280 (by rw [zl_280]; omega), Option.bind_some, Option.bind_some, zsI_f h (by decide) zk_280 (by rw [zl_280]; omega), Option.bind_some, e2.2, hsame]
      show fX9_setClass_41 (fX9_setClass_41L 4999) _ 279 (nI m) (nI m) 0 = _
      unfold fX9_setClass_41
      rw [if_neg (show ¬ (3 : Int32) ≤ 0 by decide), if_pos rfl]
    · have : zwI M 280 c (nI m) = M := by
        unfold zwI
        have : zu2 M.2.1 280 c (nI m) = M.2.1 := by
          funext a j
          unfold zu2
          by_cases e : a = 280 ∧ j = c
          · rw [if_pos e, e.1, e.2, e2.2, hsame]
          · rw [if_neg e]
        rw [this]
      rw [this]
      exact hI
  -- the class
  have hA : zO (zwI M 4 (c - 32) (nI m)) := h
  have hqA : zq (fun q => q ≠ 4) M (zwI M 4 (c - 32) (nI m)) := zq_wI
  obtain ⟨cc', hcc'⟩ : ∃ cc' : Nat → Nat, cc' = fun i => if i = c - 32 then m else cc i := ⟨_, rfl⟩
  have c1' : cCs (zwI M 4 (c - 32) (nI m)) cc' := fun i hi => by
    rw [hcc']
    dsimp only
    rw [zw_I]
    by_cases e : i = c - 32
    · rw [if_pos e, if_pos ⟨rfl, e⟩]
      exact ⟨hm, rfl⟩
    · rw [if_neg e, if_neg (fun z => e z.2)]
      exact c1 i hi
  have t1' := cTe_mv hqA (by omega) (by omega) t1
  have hwA : wAll (zwI M 4 (c - 32) (nI m)) := fun k hk p hp => (hR k hk p hp).1
  obtain ⟨M1, f1, f2, f3, f4, f5⟩ := call_loop (M0 := zwI M 4 (c - 32) (nI m)) (Mr := M) (cl := acl cc' ch) (x3 := nI (cc (c - 32))) (fun k hk => iRs_mv hk hqA (fun p hp i x y => by unfold zra; omega) hwA (hR k hk)) (cTe_x t1' c1') (fun t ht => rfl) 3 0 zFU _ (by omega) (by unfold zFU; omega) hA zq.rf hwA (fun k' hk' => absurd hk' (by omega))
  have hq1 : zq (fun q => kfl q ∧ q ≠ 4) M M1 := (hqA.wk (fun q z => z.2)).tr (f3.wk (fun q z => z.1))
  have kf : ∀ q, (q < 4 ∨ (5 ≤ q ∧ q < 8) ∨ 152 ≤ q) → kfl q ∧ q ≠ 4 := fun q z => ⟨kfl_m (by omega), by omega⟩
  have hmm : ∀ q, 279 ≤ q → M1.2.1 q = M.2.1 q := fun q hq => (hq1.2 q (kf q (by omega))).1
  -- the model
  have hB : zO (zwI M1 280 c (nI m)) := f2
  have hqB : zq (fun q => q ≠ 280) M1 (zwI M1 280 c (nI m)) := zq_wI
  have t2B : mTe (zwI M1 280 c (nI m)) len ch := by
    unfold mTe
    rw [(hqB.2 279 (by omega)).1, (hqB.2 302 (by omega)).1, hmm 279 (by omega), hmm 302 (by omega)]
    exact t2
  have c2B : mCs (zwI M1 280 c (nI m)) cc' := fun i hi => by
    rw [hcc']
    dsimp only
    rw [zw_I, hmm 280 (by omega)]
    by_cases e : i = c - 32
    · rw [if_pos e, if_pos ⟨rfl, by omega⟩]
      exact ⟨hm, rfl⟩
    · rw [if_neg e, if_neg (by omega)]
      exact c2 i hi
  have hRB : aRs (zwI M1 280 c (nI m)) := aRs_mv hqB (by omega) (by omega) (aRs_mv hq1 (kf _ (by omega)) (kf _ (by omega)) (aRs_of hR))
  have hne : ¬ nI (cc (c - 32)) = nI m := fun z => hsame (nI_inj (by omega) (by omega) z)
  obtain ⟨M2, g1, g2, g3, g4⟩ := mall_loop hRB (mTe_x t2B) hne 3 0 zFU _ (by omega) (by unfold zFU; omega) hB zq.rf (fun k' hk' => absurd hk' (by omega))
  have h2 : zq (fun q => q ≠ 280 ∧ mrw q) M1 M2 := (hqB.wk (fun q z => z.1)).tr (g3.wk (fun q z => z.2))
  have hall : zq (fun q => (q < 4 ∨ (5 ≤ q ∧ q < 8) ∨ (152 ≤ q ∧ q < 280) ∨ (281 ≤ q ∧ q ≤ 302) ∨ 306 ≤ q)) M M2 := (hq1.wk (fun q z => kf q (by omega))).tr (h2.wk (fun q z => ⟨by omega, by omega, by omega, by omega⟩))
  have hcc2 : zq (fun q => q < 279) M1 M2 := h2.wk (fun q z => ⟨by omega, by omega, by omega, by omega⟩)
  have hw2 : wAll M2 := fun k hk p hp => by
    obtain ⟨w1, w2, g⟩ := f4 k hk p hp
    exact ⟨w1, w2, zWt_mv (hcc2.2 _ (by unfold zra; omega)).2 g⟩
  refine ⟨nI (cc (c - 32)), M1, M2, ?_, f2, ?_, g2, iP_mv hall (by omega) (by omega) (by omega) (by rw [(hall.2 279 (by omega)).1]) hP, iE_mv hall (by omega) (fun q x y => by omega) (by omega) (by omega) (by rw [(hall.2 279 (by omega)).1]) hE, fun k hk p hp => ?_, cc', len, ch, ?_, ?_, ?_, ?_, fun k hk => ?_, ?_⟩
  · unfold fX8_setClass
    rw [b3, Option.bind_some, if_neg (by decide), a1, Option.bind_some, if_neg (by decide), gr_0_0 h, Option.bind_some, zck_f h (by decide) zk_1, Option.bind_some, coc_ok h b1 b2, Option.bind_some, e1.2, if_neg hne]
    dsimp only
    rw [gr_0_0 h, Option.bind_some, zck_f h (by decide) zk_1, Option.bind_some]
    unfold fX7_changeClass
    rw [zlt_e, show (32 : Int32) = nI 32 from rfl, pk_sub b1, if_neg (nI_pos (by omega)), gr_1_1 h, Option.bind_some, zal_f h (by decide) zk_4, Option.bind_some, show zsL 4 = 95 by decide +kernel, if_neg (show ¬ nI 95 ≤ nI (c - 32) by rw [nI_leN (by omega) (by omega)]; omega), Option.bind_some, zsI_f h (by decide) zk_4 (by rw [show zsL 4 = 95 by decide +kernel]; omega), Option.bind_some, Option.bind_some]
    exact f1
  · show fX9_setClass M1 279 (nI c) (nI m) = _
    unfold fX9_setClass
    rw [b4, Option.bind_some, if_neg (by decide), a2, Option.bind_some, if_neg (by decide), gr_279_0 f2, Option.bind_some, zaI_f f2 (by decide) zk_280 (by rw [zl_280]; omega), Option.bind_some, Option.bind_some, zsI_f f2 (by decide) zk_280 (by rw [zl_280]; omega), Option.bind_some, hmm 280 (by omega), e2.2]
    exact g1
  · refine iRule_mr hall (fun q x y => by omega) (iRule_mv (M := M1) (hcc2) (fun i x y => by unfold zra; omega) (hw2 k hk p hp) ?_)
    exact iRule_mv hq1 (fun i x y => ⟨kfl_r hk hp ⟨x, y⟩, by unfold zra; omega⟩) (f4 k hk p hp) (hR k hk p hp)
  · exact cCs_mv hcc2 (by omega) (cCs_mv f3 (kfl_m (by omega)) c1')
  · exact mCs_mv g3 (mrw_l (by omega)) c2B
  · exact cTe_mv hcc2 (by omega) (by omega) (cTe_mv f3 (kfl_m (by omega)) (kfl_m (by omega)) t1')
  · unfold mTe
    rw [(g3.2 279 (mrw_l (by omega))).1, (g3.2 302 (mrw_l (by omega))).1]
    exact t2B
  · exact iK_all hk ((hq1.wk (fun q z => kf q (by omega))).tr (hqB.wk (fun q z => by omega))) (hall.wk (fun q z => by omega)) hcc2 (fun t ht => mTe_c t2B c2B ht) (f5 k hk) (g4 k hk)
  · obtain ⟨o, u, r, D, Ls, g1, g2, g3, g4, g5, g6, g7, g8, g9, g10, g11, g12⟩ := hH
    refine ⟨o, u, r, D, Ls, g1, g2, by rw [(hall.2 187 (by omega)).1]; exact g3, by rw [(hall.2 187 (by omega)).1]; exact g4, by rw [(hall.2 187 (by omega)).1]; exact g5, by rw [(hall.2 279 (by omega)).1]; exact g6, by rw [(hall.2 279 (by omega)).1]; exact g7, g8, g9, fun i hi => cSl_mv hall (by omega) (by omega) (by omega) (g10 i hi), fun i hi => uSl_mv hall (fun q x y => by omega) (g11 i hi), fun i hi => rSl_mv hall (fun q x y => by omega) (g12 i hi)⟩
