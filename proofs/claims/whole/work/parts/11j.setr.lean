theorem setRule_ok {M : Mem} (hI : Inv M) (x y : Int32) : Op (fX8_setRule M 0 x y) (fun M1 => fX9_setRule M1 279 x y) := by
  obtain ⟨h, hP, hE, hR, -⟩ := id hI
  rcases irp_ok x y with ⟨a1, a2⟩ | ⟨k, p, hk, hp, rfl, rfl, a1, a2, a3⟩
  · refine op_same hI (-2) ?_ ?_
    · unfold fX8_setRule
      rcases a1 with a1 | ⟨a1, a3⟩
      · rw [a1, Option.bind_some, if_pos rfl]
      · rw [a1, Option.bind_some, if_neg (by decide), a3, Option.bind_some, if_pos rfl]
    · show fX9_setRule M 279 x y = _
      unfold fX9_setRule
      rw [a2, Option.bind_some, if_neg (by decide)]
  obtain ⟨⟨n, ch⟩, w1, w2, w3', w4⟩ := pat_w hP
  dsimp only at w1 w2 w3' w4
  have hp5 : pat M 5 n ch := ⟨w2, w1, fun j hj => ⟨(w4 j hj).2.1, (w4 j hj).1⟩⟩
  have hpm : ∀ X : Mem, X.2.1 279 1 = M.2.1 279 1 → X.2.1 281 = M.2.1 281 → mpat X n ch := fun X e1 e2 => by
    unfold mpat
    rw [e1, e2]
    exact ⟨w3', w1, fun j hj => ⟨(w4 j hj).2.2, (w4 j hj).1⟩⟩
  obtain ⟨z1, z2, z3, z4, z5, z6, z7, z8⟩ := zkind hk
  obtain ⟨hC, hRr, hRl, hb1, hb2⟩ := zrule hk hp
  obtain ⟨hw, n0, n1, n2, n3, n4, -⟩ := hR k hk p hp
  have hr15 : 5 * k + p < 15 := by omega
  -- the class, up to the rule
  have isS : fX5_isSet M (zra k p) = some (if n0 = 0 then 0 else 1, M) := by
    unfold fX5_isSet
    rw [zgR_f h (by omega) hC.1 hRr.1, Option.bind_some, zgI_f h (by omega) hC.2.1, Option.bind_some, n2]
    by_cases e : n0 = 0
    · rw [if_pos (show nI n0 ≤ 0 by rw [nI_le0 (by omega)]; exact e), if_pos e]; rfl
    · rw [if_neg (show ¬ nI n0 ≤ 0 by rw [nI_le0 (by omega)]; exact e), if_neg e]; rfl
  have h45a : n0 = 0 → n = 0 → fX8_setRule_45 M 0 (nI k) (nI p) = some (0, M) := by
    intro e1 e2
    unfold fX8_setRule_45
    rw [gr_0_2 h, Option.bind_some, ar7 h hk, Option.bind_some, zgR_f h (by omega) z1 z6, Option.bind_some, ar9 h hk hp, Option.bind_some, zck_f h (by omega) hC.1, Option.bind_some, isS, Option.bind_some, if_pos e1]
    dsimp only
    rw [if_pos rfl, gr_0_1 h, Option.bind_some, zgI_f h (by decide) zk_5, Option.bind_some, w2, if_pos (show nI n ≤ 0 by rw [nI_le0 (by omega)]; exact e2)]
    rfl
  have h45b : ¬ (n0 = 0 ∧ n = 0) → fX8_setRule_45 M 0 (nI k) (nI p) = fX8_setRule_78 M 0 (nI k) (zra k p) (if n0 = 0 then 0 else 1) := by
    intro e
    unfold fX8_setRule_45
    rw [gr_0_2 h, Option.bind_some, ar7 h hk, Option.bind_some, zgR_f h (by omega) z1 z6, Option.bind_some, ar9 h hk hp, Option.bind_some, zck_f h (by omega) hC.1, Option.bind_some, isS, Option.bind_some]
    dsimp only
    by_cases e1 : n0 = 0
    · rw [if_pos e1, if_pos rfl, gr_0_1 h, Option.bind_some, zgI_f h (by decide) zk_5, Option.bind_some, w2, if_neg (show ¬ nI n ≤ 0 by rw [nI_le0 (by omega)]; exact fun z => e ⟨e1, z⟩)]
    · rw [if_neg e1, if_neg (show ¬ (1 : Int32) = 0 by decide)]
  -- the class builds the rule
  have build : ∀ (bo B L : Pt) (F' T' : Nat → Int32), CR n ch (zra k p) 0 (fun _ => pN) (fun _ => pE) (fun _ => 0) (fun _ => 0) 0 bo 0 B L F' T' → ∃ Mb, zO Mb ∧ zq (fun q => (q < 152 ∨ 165 < q) ∧ ¬ (zra k p + 1 ≤ q ∧ q ≤ zra k p + 6)) M Mb ∧ pat Mb (zra k p + 1) n ch ∧ (∃ w1 w2, zWt Mb (zra k p) w1 w2) ∧ cPt Mb (zra k p + 3) B ∧ cPt Mb (zra k p + 4) L ∧ (∀ q, q < 24 → Mb.2.1 (zra k p + 5) q = F' q) ∧ (∀ c, c < 12 → Mb.2.1 (zra k p + 6) c = T' c) ∧ ∀ M1 (v : Int32), fX2_analyseAll Mb (8 + 48 * k) 1 = some M1 → fX8_setRule_78 M 0 (nI k) (zra k p) v = fX8_setRule_118 M1 v := by
    intro bo B L F' T' hcr
    obtain ⟨Ma, b1, b2, b3, b4, b5, b6⟩ := bec_ok h (zrow_r hb1 hC hRr) zrow_5 (by omega) w2 (by rw [show zsL (5 + 1) = 24 by decide +kernel]; omega) (fun i hi => by rw [show 5 + 1 = 6 from rfl, (w4 i hi).2.1]; exact chr_code (w4 i hi).1) (fr := 0) (cnt := n) (by omega) (by rw [show zra k p + 1 + 1 = zra k p + 2 from rfl, hC.2.2.2.2.2.2.2.2.2.1]; omega)
    have hpa : pat Ma (zra k p + 1) n ch := ⟨b5, w1, fun j hj => ⟨by rw [b6 j hj, Nat.zero_add, show 5 + 1 = 6 from rfl]; exact (w4 j hj).2.1, (w4 j hj).1⟩⟩
    obtain ⟨Mb, c1, c2, c3, c4, c5, c6, c7⟩ := bl_ok b2 hb1 hC hRr hpa hcr
    have hqb : zq (fun q => (q < 152 ∨ 165 < q) ∧ ¬ (zra k p + 1 ≤ q ∧ q ≤ zra k p + 6)) M Mb := (b3.wk (fun q z => by omega)).tr (c3.wk (fun q z => by omega))
    refine ⟨Mb, c2, hqb, pat_mv (c3.2 _ (by omega)).1 (c3.2 _ (by omega)).1 hpa, ?_, c4, c5, c6, c7, fun M1 v hM1 => ?_⟩
    · obtain ⟨u1, u2, g⟩ := hw
      exact ⟨u1, u2, zWt_mv (hqb.2 _ (by omega)).2 g⟩
    · unfold fX8_setRule_78
      rw [zgR_f h (by omega) hC.1 hRr.1, Option.bind_some, gr_0_1 h, Option.bind_some, Option.bind_some, zgI_f h (by decide) zk_5, Option.bind_some, w2, zck_f h (by omega) hC.2.1, Option.bind_some, show (0 : Int32) = nI 0 from rfl, b1, Option.bind_some, gr_0_3 b2, Option.bind_some, zck_f b2 (by decide) zk_152, Option.bind_some, c1, Option.bind_some, gr_0_2 c2, Option.bind_some, ar7 c2 hk, Option.bind_some, gr_0_0 c2, Option.bind_some, zck_f c2 (by omega) z1, Option.bind_some, hM1, Option.bind_some]
  -- the model, up to the rule
  have mod : ∀ X : Mem, zO X → X.2.1 291 = M.2.1 291 → fX9_setRule X 279 (nI k) (nI p) = fX9_setRule_31 X 279 (nI k) (nI (5 * k + p)) (if n0 = 0 then 0 else 1) := by
    intro X hX e91
    unfold fX9_setRule
    rw [a3, Option.bind_some, if_pos rfl, zlt_e, show (5 : Int32) = nI 5 from rfl, pk_mul, nI_add, gr_279_20 hX, Option.bind_some, zaI_f hX (by decide) zk_291 (by rw [zl_291]; omega), Option.bind_some, e91, n3]
    by_cases e : n0 = 0
    · rw [if_pos (show nI n0 ≤ 0 by rw [nI_le0 (by omega)]; exact e), if_pos e]
    · rw [if_neg (show ¬ nI n0 ≤ 0 by rw [nI_le0 (by omega)]; exact e), if_neg e]
  have h118 : ∀ X : Mem, fX8_setRule_118 X (if n0 = 0 then 0 else 1) = some (if n0 = 0 then 0 else 1, X) := fun X => by
    unfold fX8_setRule_118
    by_cases e : n0 = 0
    · rw [if_pos e, if_pos rfl]
    · rw [if_neg e, if_neg (show ¬ (1 : Int32) = 0 by decide)]
  by_cases hn0 : n = 0
  · subst hn0
    have f8 : fX8_setRule M 0 (nI k) (nI p) = fX8_setRule_45 M 0 (nI k) (nI p) := by
      unfold fX8_setRule
      rw [a1, Option.bind_some, if_neg (by decide), a2, Option.bind_some, if_neg (by decide), gr_0_1 h, Option.bind_some, zgI_f h (by decide) zk_5, Option.bind_some, w2, if_pos (show nI 0 ≤ 0 by decide)]
    by_cases e0 : n0 = 0
    · refine ⟨0, M, zwI M 291 (5 * k + p) 0, ?_, h, ?_, ?_⟩
      · rw [f8, h45a e0 rfl]
      · show fX9_setRule M 279 (nI k) (nI p) = _
        rw [mod M h rfl, if_pos e0]
        unfold fX9_setRule_31
        rw [x9 h, Option.bind_some, w3', if_pos (show nI 0 = 0 from rfl), gr_279_20 h, Option.bind_some, zsI_f h (by decide) zk_291 (by rw [zl_291]; omega), Option.bind_some, if_neg (show ¬ (0 : Int32) = 1 by decide)]
      · have : zwI M 291 (5 * k + p) 0 = M := by
          unfold zwI
          have : zu2 M.2.1 291 (5 * k + p) 0 = M.2.1 := by
            funext a j
            unfold zu2
            by_cases e : a = 291 ∧ j = 5 * k + p
            · rw [if_pos e, e.1, e.2, n3, e0]; rfl
            · rw [if_neg e]
          rw [this]
        rw [this]
        exact hI
    · obtain ⟨Mb, b1, b2, b3, b4, b5, b6, b7, b8, b9⟩ := build pE _ _ _ _ ((CR_end hb1 hC hRr).resolve_right (fun z => z (Or.inl rfl)))
      have hMr : iRule Mb (zwI M 291 (5 * k + p) 0) k p := ⟨b4, 0, by omega, b3.1, by rw [zw_I, if_pos ⟨rfl, rfl⟩]; rfl, fun i hi => absurd hi (by omega), fun z => absurd z (by omega)⟩
      have hoth : ∀ (X : Mem) r', r' ≠ 5 * k + p → rEq X (zwI X 291 (5 * k + p) 0) r' := fun X r' hne => ⟨by rw [zw_I, if_neg (fun z => hne z.2)], fun a x y => by rw [zw_I, if_neg (by omega)], fun q hq => ⟨by rw [zw_I, if_neg (by omega)], by rw [zw_I, if_neg (by omega)], by rw [zw_I, if_neg (by omega)]⟩⟩
      obtain ⟨M1, g1, g2, g3, g4⟩ := sr_end hI hk hp b1 b2 hMr (fun r' _ hne => hoth M r' hne)
      have hq1 : ∀ a, 166 ≤ a → M1.2.1 a = M.2.1 a := fun a ha => (g3.2 a (Or.inr ha)).1
      obtain ⟨M2, f1, f2⟩ := g4 (zwI M1 291 (5 * k + p) 0) g2 (zq_wI.wk (fun q z => by omega)) (fun j hj => by rw [zw_I, if_neg (by omega)]) (fun r' hr' => by
        refine ⟨?_, fun a x y => ?_, fun q hq => ⟨?_, ?_, ?_⟩⟩
        · rw [zw_I, zw_I, hq1 291 (by omega)]
        · rw [zw_I, zw_I, if_neg (by omega), if_neg (by omega), hq1 a (by omega)]
        · rw [zw_I, zw_I, if_neg (by omega), if_neg (by omega), hq1 292 (by omega)]
        · rw [zw_I, zw_I, if_neg (by omega), if_neg (by omega), hq1 293 (by omega)]
        · rw [zw_I, zw_I, if_neg (by omega), if_neg (by omega), hq1 294 (by omega)])
      have zk1 : zO (zwI M1 291 (5 * k + p) 0) := g2
      refine ⟨1, M1, M2, ?_, g2, ?_, f2⟩
      · rw [f8, h45b (fun z => e0 z.1), b9 M1 _ g1, h118, if_neg e0]
      · show fX9_setRule M1 279 (nI k) (nI p) = _
        rw [mod M1 g2 (hq1 291 (by omega)), if_neg e0]
        unfold fX9_setRule_31
        rw [x9 g2, Option.bind_some, hq1 279 (by omega), w3', if_pos (show nI 0 = 0 from rfl), gr_279_20 g2, Option.bind_some, zsI_f g2 (by decide) zk_291 (by rw [zl_291]; omega), Option.bind_some, if_pos rfl, c9 zk1, Option.bind_some, f1, Option.bind_some]
  -- a pattern that is not empty
  obtain ⟨v, B, L, F', T', sg, r1, r2, r3⟩ := parse (ch := ch) hb1 hC hRr w1 n 0 0 (fun _ => pN) (fun _ => pE) (fun _ => 0) (fun _ => 0) (fun _ => 0) 0 0 pE 0 (by omega) (by omega) (fun _ _ => Nat.le_refl _) (Or.inl ⟨rfl, rfl⟩) (fun z => absurd z (by decide)) (fun _ _ => ⟨pok_N, pok_E⟩) (fun q t _ hb => by
    rw [b_0] at hb
    exact absurd hb (by decide)) (fun c t _ => by
    rw [b_0]
    exact ⟨fun z => absurd z (by decide), fun z => absurd z.1 (by omega)⟩) (Or.inl rfl)
  rw [bhs_0 rfl] at r1
  have hfo : fX8_faultOf M 5 = some (v, M) := r1 M zFU h hp5 (by unfold zFU; omega)
  have f8 : fX8_setRule M 0 (nI k) (nI p) = if v = (-1 : Int32) then (fX8_setRule_45 M 0 (nI k) (nI p)) else (some ((-100 : Int32) - v, M)) := by
    unfold fX8_setRule
    rw [a1, Option.bind_some, if_neg (by decide), a2, Option.bind_some, if_neg (by decide), gr_0_1 h, Option.bind_some, zgI_f h (by decide) zk_5, Option.bind_some, w2, if_neg (show ¬ nI n ≤ 0 by rw [nI_le0 (by omega)]; exact hn0), Option.bind_some, hfo, Option.bind_some]
  have m31 : ∀ (X : Mem) (y0 : Int32), zO X → X.2.1 279 1 = M.2.1 279 1 → fX9_setRule_31 X 279 (nI k) (nI (5 * k + p)) y0 = (fX9_readPattern X 279).bind (fun r62 => if r62.1 < 0 then ((zck r62.2 9 279).bind (fun u80 => (fX9_keepRule r62.2 279 (nI (5 * k + p))).bind (fun M80 => (zck M80 9 279).bind (fun u85 => (fX9_analyse M80 279 (nI k)).bind (fun M85 => some (y0, M85)))))) else (some ((-100 : Int32) - r62.1, r62.2))) := by
    intro X y0 hX e1
    unfold fX9_setRule_31
    rw [x9 hX, Option.bind_some, e1, w3', if_neg (show ¬ nI n = 0 by rw [nI_00 (by omega)]; exact hn0), c9 hX, Option.bind_some]
  rcases r3 with ⟨f, hf, rfl⟩ | ⟨rfl, r4, r5⟩
  · have hne : ¬ nI f = -1 := fun z => nI_pos (n := f) (by omega) (by rw [z]; decide)
    obtain ⟨M', g1, g2, g3, -⟩ := rp_ok r2 h (hpm M rfl rfl)
    refine ⟨-100 - nI f, M, M', ?_, h, ?_, inv_rd hI g2 g3⟩
    · rw [f8, if_neg hne]
    · show fX9_setRule M 279 (nI k) (nI p) = _
      rw [mod M h rfl, m31 M _ h rfl, g1, Option.bind_some, if_neg (nI_pos (by omega))]
  · obtain ⟨Mb, b1, b2, b3, b4, b5, b6, b7, b8, b9⟩ := build pE B L F' T' r4
    have hMb : ∀ a, 166 ≤ a → Mb.2.1 a = M.2.1 a := fun a ha => (b2.2 a ⟨Or.inr (by omega), by omega⟩).1
    obtain ⟨Xr, Mr, -, -, -, -, -, -, k1⟩ := run_ok (M := M) hr15 r5.2.2.2.1 r5.2.2.2.2.2.2 r2 b1 (hpm Mb (by rw [hMb 279 (by omega)]) (hMb 281 (by omega))) (fun a x y => hMb a (by omega))
    obtain ⟨M1, g1, g2, g3, g4⟩ := sr_end hI hk hp b1 b2 (rule_ok b4 b3 b5 b6 b7 b8 r5 k1) k1.1
    have hq1 : ∀ a, 166 ≤ a → M1.2.1 a = M.2.1 a := fun a ha => (g3.2 a (Or.inr ha)).1
    obtain ⟨Xr', Mm, e1, e2, e3, e4, e5, e6, k2⟩ := run_ok (M := M) hr15 r5.2.2.2.1 r5.2.2.2.2.2.2 r2 g2 (hpm M1 (by rw [hq1 279 (by omega)]) (hq1 281 (by omega))) (fun a x y => hq1 a (by omega))
    obtain ⟨M2, f1, f2⟩ := g4 Mm e4 e5 e6 (kSp_e k1 k2)
    refine ⟨if n0 = 0 then 0 else 1, M1, M2, ?_, g2, ?_, f2⟩
    · rw [f8, if_pos rfl, h45b (fun z => hn0 z.2), b9 M1 _ g1, h118]
    · show fX9_setRule M1 279 (nI k) (nI p) = _
      rw [mod M1 g2 (hq1 291 (by omega)), m31 M1 _ g2 (by rw [hq1 279 (by omega)]), e1, Option.bind_some]
      dsimp only
      rw [if_pos (show (-1 : Int32) < 0 by decide), c9 e2, Option.bind_some, e3, Option.bind_some, c9 e4, Option.bind_some, f1, Option.bind_some]
