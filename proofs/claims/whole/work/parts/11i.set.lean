/-! ===== setRule ===== -/
theorem bl_ok {M : Mem} (h : zO M) {ra n : Nat} {ch : Nat → Nat} (hra : ra + 9 ≤ 152) (hC : zruleC ra) (hR : zruleR ra) (hp : pat M (ra + 1) n ch) {bo B L : Pt} {F' T' : Nat → Int32} (hc : CR n ch ra 0 (fun _ => pN) (fun _ => pE) (fun _ => 0) (fun _ => 0) 0 bo 0 B L F' T') : ∃ M', fX6_build M 152 ra = some M' ∧ zO M' ∧ zq (fun q => bfr ra q ∧ q ≠ ra + 3 ∧ q ≠ ra + 4) M M' ∧ cPt M' (ra + 3) B ∧ cPt M' (ra + 4) L ∧ (∀ q, q < 24 → M'.2.1 (ra + 5) q = F' q) ∧ (∀ c, c < 12 → M'.2.1 (ra + 6) c = T' c) := by
  have hn := hp.2.1
  obtain ⟨Ma, a1, a2, a3, -, a5⟩ := fill_ok h (a := ra + 5) (by omega) hC.2.2.2.2.2.1 0
  obtain ⟨Mc, b1, b2, b3, -, b5⟩ := fill_ok a2 (a := ra + 6) (by omega) hC.2.2.2.2.2.2.1 0
  rw [hC.2.2.2.2.2.2.2.2.2.2.1] at a5
  rw [hC.2.2.2.2.2.2.2.2.2.2.2.1] at b5
  obtain ⟨M3, hM3⟩ : ∃ M3, M3 = w3 Mc (ra + 4) pE := ⟨_, rfl⟩
  have z3 : zO M3 := by rw [hM3]; exact b2
  obtain ⟨M4, hM4⟩ : ∃ M4, M4 = zwI M3 152 3 (nI 0) := ⟨_, rfl⟩
  have z4 : zO M4 := by rw [hM4]; exact z3
  have e4 : M4.2.1 152 3 = nI 0 := by rw [hM4, zw_I, if_pos ⟨rfl, rfl⟩]
  have hbl := cbl z4 (d := 0) (by omega) e4
  obtain ⟨M5, hM5⟩ : ∃ M5, M5 = w3 (w3 M4 (156 + 2 * 0) pN) (157 + 2 * 0) pE := ⟨_, rfl⟩
  rw [← hM5] at hbl
  have z5 : zO M5 := by rw [hM5]; exact z4
  have f5 : ∀ b, b < 152 → M5.2.1 b = M3.2.1 b := fun b hb => by rw [hM5, w3_n (by omega), w3_n (by omega), hM4, (zq_wI.2 b (by omega)).1]
  have f3 : ∀ b, b ≠ ra + 4 → M3.2.1 b = Mc.2.1 b := fun b hb => by rw [hM3, w3_n hb]
  have q5 : zq (fun q => bfr ra q ∧ q ≠ ra + 3 ∧ q ≠ ra + 4) M M5 := by
    rw [hM5, hM4, hM3]
    exact (a3.wk (fun q z => z.1.2.1)).tr ((b3.wk (fun q z => z.1.2.2)).tr ((w3_q.wk (fun q z => z.2.2)).tr ((zq_wI.wk (fun q z => by have := z.1.1; omega)).tr ((w3_q.wk (fun q z => by have := z.1.1; omega)).tr (w3_q.wk (fun q z => by have := z.1.1; omega))))))
  obtain ⟨M', g1, g2, g3, g4⟩ := hc M5 zFU (pat_mv (q5.2 _ (by omega)).1 (q5.2 _ (by omega)).1 hp) (by unfold zFU; omega) ⟨z5, by omega, by rw [hM5, w3_n (by omega), w3_n (by omega)]; exact e4, fun j hj => by
      obtain rfl : j = 0 := by omega
      rw [hM5]
      exact cPt_3 (by omega) w3_e, fun j hj => by
      obtain rfl : j = 0 := by omega
      rw [hM5]
      exact w3_e, fun q hq => by rw [f5 _ (by omega), f3 _ (by omega), (b3.2 _ (by omega)).1]; exact a5 q hq, fun c hc => by rw [f5 _ (by omega), f3 _ (by omega)]; exact b5 c hc⟩ (fun _ => cPt_mv (f5 _ (by omega)) (by rw [hM3]; exact w3_e)) (fun z => absurd z (by decide))
  refine ⟨M', ?_, g2, q5.tr g3, g4⟩
  rw [if_neg (show ¬ 0 = 1 by decide)] at g1
  unfold fX6_build
  rw [zgR_f h (by omega) hC.1 hR.2.2.2.1, Option.bind_some, a1, Option.bind_some, zgR_f a2 (by omega) hC.1 hR.2.2.2.2.1, Option.bind_some, b1, Option.bind_some, zgR_f b2 (by omega) hC.1 hR.2.1, Option.bind_some, zgR_f b2 (by omega) hC.1 hR.2.2.1, Option.bind_some, zck_f b2 (by omega) hC.2.2.2.2.1, Option.bind_some, be3 b2 (by omega) hC.2.2.2.2.1, Option.bind_some, ← hM3, show (0 : Int32) = nI 0 from rfl, zpI_f z3 (by decide) zk_152, Option.bind_some, ← hM4, zck_f z4 (by decide) zk_152, Option.bind_some, hbl, Option.bind_some]
  exact g1
theorem rp27 : ∀ d q fuel M, q + d = 24 → d < fuel → zO M → (∀ t, t < q → M.2.1 290 t = 0) → ∃ M', zO M' ∧ zq (fun b => b ≠ 290) M M' ∧ (∀ t, t < 24 → M'.2.1 290 t = 0) ∧ fX9_readPattern_27L fuel M 279 (nI q) = (zck M' 9 279).bind (fun u47 => (fX9_openAlternatives M' 279).bind (fun M47 => fX9_readPattern_52L zFU M47 279 (0 : Int32))) := by
  intro d
  induction d with
  | zero =>
    intro q fuel M hd hf h h1
    obtain ⟨f, rfl⟩ : ∃ f, fuel = f + 1 := ⟨fuel - 1, by omega⟩
    refine ⟨M, h, zq.rf, fun t ht => h1 t (by omega), ?_⟩
    show fX9_readPattern_27 (fX9_readPattern_27L f) M 279 (nI q) = _
    unfold fX9_readPattern_27
    rw [if_pos (show (24 : Int32) ≤ nI q by rw [show (24 : Int32) = nI 24 from rfl, nI_leN (by omega) (by omega)]; omega)]
  | succ d ih =>
    intro q fuel M hd hf h h1
    obtain ⟨f, rfl⟩ : ∃ f, fuel = f + 1 := ⟨fuel - 1, by omega⟩
    obtain ⟨M', g1, g2, g3, g4⟩ := ih (q + 1) f (zwI M 290 q 0) (by omega) (by omega) h (fun t ht => by
      rw [zw_I]
      by_cases e : t = q
      · rw [if_pos ⟨rfl, e⟩]
      · rw [if_neg (fun z => e z.2)]; exact h1 t (by omega))
    refine ⟨M', g1, zq_wI.tr g2, g3, ?_⟩
    have st : fX9_readPattern_27L (f + 1) M 279 (nI q) = fX9_readPattern_27 (fX9_readPattern_27L f) M 279 (nI q) := rfl
    rw [st]
    unfold fX9_readPattern_27
    rw [if_neg (show ¬ (24 : Int32) ≤ nI q by rw [show (24 : Int32) = nI 24 from rfl, nI_leN (by omega) (by omega)]; omega), gr_279_15 h, Option.bind_some, zsI_f h (by decide) zk_290 (by rw [zl_290]; omega), Option.bind_some, zlt_e, nI_1]
    exact g4
theorem rp_ok {n : Nat} {ch : Nat → Nat} {bo B L : Pt} {F' : Nat → Int32} {v : Int32} (hm : MR n ch 0 (fun _ => pN) (fun _ => pE) (fun _ => 0) (fun _ => 0) 0 bo 0 v B L F') {M : Mem} (h : zO M) (hp : mpat M n ch) : ∃ M', fX9_readPattern M 279 = some (v, M') ∧ zO M' ∧ mfr M M' ∧ (v = -1 → m289 ch M M' 0 n ∧ (∀ q, q < 24 → M'.2.1 290 q = F' q) ∧ ((M'.2.1 279 16 = 0 ∧ mA0 M' B ∧ L = pE) ∨ (M'.2.1 279 16 = 1 ∧ mBo M' B ∧ mA0 M' L))) := by
  have hn := hp.2.1
  obtain ⟨M1, hM1⟩ : ∃ M1, M1 = zwI (zwI (zwI (zwI (zwI M 279 10 0) 279 16 0) 279 17 0) 279 18 0) 279 19 0 := ⟨_, rfl⟩
  have z1 : zO M1 := by rw [hM1]; exact h
  have m1 : mfr M M1 := by
    rw [hM1]
    exact ⟨(zq_wI.wk (fun q z => z.1)).tr ((zq_wI.wk (fun q z => z.1)).tr ((zq_wI.wk (fun q z => z.1)).tr ((zq_wI.wk (fun q z => z.1)).tr (zq_wI.wk (fun q z => z.1))))), fun j hj => by
      rw [zw_I, if_neg (by omega), zw_I, if_neg (by omega), zw_I, if_neg (by omega), zw_I, if_neg (by omega), zw_I, if_neg (by omega)]⟩
  have q1 : M1.2.1 289 = M.2.1 289 := by rw [hM1, ((zq_wI.tr (zq_wI.tr (zq_wI.tr (zq_wI.tr zq_wI)))).2 289 (by omega)).1]
  obtain ⟨M2, a1, a2, a3, a4⟩ := rp27 24 0 zFU M1 (by omega) (by unfold zFU; omega) z1 (fun t ht => absurd ht (by omega))
  have e10 : M2.2.1 279 10 = nI 0 := by
    rw [(a2.2 279 (by omega)).1, hM1, zw_I, if_neg (by omega), zw_I, if_neg (by omega), zw_I, if_neg (by omega), zw_I, if_neg (by omega), zw_I, if_pos ⟨rfl, rfl⟩]
    rfl
  have e16 : M2.2.1 279 16 = nI 0 := by
    rw [(a2.2 279 (by omega)).1, hM1, zw_I, if_neg (by omega), zw_I, if_neg (by omega), zw_I, if_neg (by omega), zw_I, if_pos ⟨rfl, rfl⟩]
    rfl
  have m2 : mfr M1 M2 := ⟨a2.wk (fun q z => by omega), fun j hj => by rw [(a2.2 279 (by omega)).1]⟩
  obtain ⟨M3, b1, b2, b3⟩ := oal a1 (d := 0) (by omega) e10
  have m3 := (mf1_l b3).r
  have mm := m1.tr (m2.tr m3)
  obtain ⟨M4, g1, g2, g3, g4⟩ := hm M3 zFU (mpat_r mm hp) (by unfold zFU; omega) ⟨b2, by omega, by rw [(b3.1.2 279 (by omega)).1]; exact e10, fun j hj => by
    obtain rfl : j = 0 := by omega
    exact b3.2.2, fun q hq => by rw [(b3.1.2 290 (by omega)).1]; exact a3 q hq⟩ (by rw [(b3.1.2 279 (by omega)).1]; exact e16) (fun z => absurd z (by decide))
  refine ⟨M4, ?_, g2, mm.tr g3, fun hv => ?_⟩
  · have z2 : zO (zwI M 279 10 0) := h
    have z3 : zO (zwI (zwI M 279 10 0) 279 16 0) := h
    have z4 : zO (zwI (zwI (zwI M 279 10 0) 279 16 0) 279 17 0) := h
    have z5 : zO (zwI (zwI (zwI (zwI M 279 10 0) 279 16 0) 279 17 0) 279 18 0) := h
    unfold fX9_readPattern
    rw [p9 h, Option.bind_some, pz9 z2 (Or.inl rfl), Option.bind_some, pz9 z3 (Or.inl rfl), Option.bind_some, p9 z4, Option.bind_some, p9 z5, Option.bind_some, ← hM1]
    refine (show fX9_readPattern_27L zFU M1 279 0 = _ from a4).trans ?_
    rw [c9 a1, Option.bind_some, b1, Option.bind_some]
    exact g1
  · obtain ⟨x1, x2, x3⟩ := g4 hv
    refine ⟨fun t => ?_, x2, x3⟩
    rw [x1 t, (b3.1.2 289 (by omega)).1, (a2.2 289 (by omega)).1, q1]
/-- what keepRule() leaves, whatever it began with -/
def kSp (M : Mem) (n r : Nat) (ch : Nat → Nat) (B L : Pt) (F' : Nat → Int32) (X : Mem) : Prop :=
  (∀ r', r' < 15 → r' ≠ r → rEq M X r') ∧ X.2.1 291 r = nI n ∧ X.2.1 297 r = B.1 ∧ X.2.1 298 r = B.2.1 ∧ X.2.1 296 r = B.2.2 ∧ X.2.1 300 r = L.1 ∧ X.2.1 301 r = L.2.1 ∧ X.2.1 299 r = L.2.2 ∧ ∀ q, q < 24 → (X.2.1 292 (24 * r + q) = if q < n then nI (ch q) else M.2.1 292 (24 * r + q)) ∧ (X.2.1 293 (24 * r + q) = if q < n then (if lfc (ch q) then wv (ch q) else M.2.1 289 q) else M.2.1 293 (24 * r + q)) ∧ (X.2.1 294 (24 * r + q) = if q < n then F' q else M.2.1 294 (24 * r + q))
theorem kSp_e {M : Mem} {n r : Nat} {ch : Nat → Nat} {B L : Pt} {F' : Nat → Int32} {X Y : Mem} (h : kSp M n r ch B L F' X) (h' : kSp M n r ch B L F' Y) : ∀ r', r' < 15 → rEq X Y r' := by
  obtain ⟨a0, a1, a2, a3, a4, a5, a6, a7, a8⟩ := h
  obtain ⟨b0, b1, b2, b3, b4, b5, b6, b7, b8⟩ := h'
  intro r' hr'
  by_cases e : r' = r
  · subst e
    refine ⟨b1.trans a1.symm, fun a x y => ?_, fun q hq => ⟨(b8 q hq).1.trans (a8 q hq).1.symm, (b8 q hq).2.1.trans (a8 q hq).2.1.symm, (b8 q hq).2.2.trans (a8 q hq).2.2.symm⟩⟩
    rcases (show a = 296 ∨ a = 297 ∨ a = 298 ∨ a = 299 ∨ a = 300 ∨ a = 301 by omega) with rfl | rfl | rfl | rfl | rfl | rfl
    · exact b4.trans a4.symm
    · exact b2.trans a2.symm
    · exact b3.trans a3.symm
    · exact b7.trans a7.symm
    · exact b5.trans a5.symm
    · exact b6.trans a6.symm
  · obtain ⟨x1, x2, x3⟩ := a0 r' hr' e
    obtain ⟨y1, y2, y3⟩ := b0 r' hr' e
    exact ⟨y1.trans x1.symm, fun a x y => (y2 a x y).trans (x2 a x y).symm, fun q hq => ⟨(y3 q hq).1.trans (x3 q hq).1.symm, (y3 q hq).2.1.trans (x3 q hq).2.1.symm, (y3 q hq).2.2.trans (x3 q hq).2.2.symm⟩⟩
theorem run_ok {M : Mem} {n r : Nat} {ch : Nat → Nat} {bo B L : Pt} {F' : Nat → Int32} (hr : r < 15) (hL : pB L) (hB : pB B) (hm : MR n ch 0 (fun _ => pN) (fun _ => pE) (fun _ => 0) (fun _ => 0) 0 bo 0 (-1) B L F') {X : Mem} (h : zO X) (hp : mpat X n ch) (hX : ∀ a, 289 ≤ a → a ≤ 301 → X.2.1 a = M.2.1 a) : ∃ Xr Xk, fX9_readPattern X 279 = some (-1, Xr) ∧ zO Xr ∧ fX9_keepRule Xr 279 (nI r) = some Xk ∧ zO Xk ∧ zq (fun q => q < 279 ∨ q = 280 ∨ q = 281 ∨ 302 ≤ q) X Xk ∧ (∀ j, (j < 10 ∨ 19 < j) → Xk.2.1 279 j = X.2.1 279 j) ∧ kSp M n r ch B L F' Xk := by
  have hn := hp.2.1
  obtain ⟨Xr, a1, a2, a3, a4⟩ := rp_ok hm h hp
  obtain ⟨a5, a6, a7⟩ := a4 rfl
  obtain ⟨Xk, b1, b2, b3, b4, b5, b6, b7, b8, b9, b10, b11, b12, b13⟩ := kr_ok a2 (mpat_r a3 hp) hr hL hB a7
  have eX : ∀ a, 291 ≤ a → a ≤ 301 → Xr.2.1 a = M.2.1 a := fun a x y => by rw [(a3.1.2 a (by omega)).1]; exact hX a (by omega) y
  refine ⟨Xr, Xk, a1, a2, b1, b2, (a3.1.wk (fun q z => by omega)).tr (b3.wk (fun q z => by omega)), fun j hj => by rw [(b3.2 279 (by omega)).1]; exact a3.2 j hj, fun r' hr' hne => ?_, b6, b7, b8, b9, b10, b11, b12, fun q hq => ?_⟩
  · obtain ⟨x1, x2⟩ := b4 r' hne
    refine ⟨by rw [x1, eX 291 (by omega) (by omega)], fun a x y => by rw [x2 a x y, eX a (by omega) y], fun q hq => ⟨?_, ?_, ?_⟩⟩
    · rw [b5 292 _ (by omega) (by omega) (by omega), eX 292 (by omega) (by omega)]
    · rw [b5 293 _ (by omega) (by omega) (by omega), eX 293 (by omega) (by omega)]
    · rw [b5 294 _ (by omega) (by omega) (by omega), eX 294 (by omega) (by omega)]
  · by_cases e : q < n
    · obtain ⟨y1, y2, y3⟩ := b13 q e
      rw [if_pos e, if_pos e, if_pos e, y1, y2, y3, a5 q, a6 q hq, hX 289 (by omega) (by omega)]
      refine ⟨rfl, ?_, rfl⟩
      by_cases e2 : lfc (ch q)
      · rw [if_pos ⟨by omega, e, e2⟩, if_pos e2]
      · rw [if_neg (fun z => e2 z.2.2), if_neg e2]
    · rw [if_neg e, if_neg e, if_neg e, b5 292 _ (by omega) (by omega) (by omega), b5 293 _ (by omega) (by omega) (by omega), b5 294 _ (by omega) (by omega) (by omega), eX 292 (by omega) (by omega), eX 293 (by omega) (by omega), eX 294 (by omega) (by omega)]
      exact ⟨rfl, rfl, rfl⟩
/-- the rule on both sides -/
theorem rule_ok {M Mb Mr : Mem} {k p n sg : Nat} {ch : Nat → Nat} {B L : Pt} {F' T' : Nat → Int32} (hw : ∃ w1 w2, zWt Mb (zra k p) w1 w2) (hp : pat Mb (zra k p + 1) n ch) (m1 : cPt Mb (zra k p + 3) B) (m2 : cPt Mb (zra k p + 4) L) (m3 : ∀ q, q < 24 → Mb.2.1 (zra k p + 5) q = F' q) (m4 : ∀ c, c < 12 → Mb.2.1 (zra k p + 6) c = T' c) (hf : fOk n ch sg B L F' T') (hk : kSp M n (5 * k + p) ch B L F' Mr) : iRule Mb Mr k p := by
  have hn := hp.2.1
  obtain ⟨f1, f2, f3, f4, f5, f6, f7⟩ := hf
  obtain ⟨a0, a1, a2, a3, a4, a5, a6, a7, a8⟩ := hk
  refine ⟨hw, n, hn, hp.1, a1, fun i hi => ?_, fun _ => ⟨m1.1.trans a2.symm, m1.2.1.trans a3.symm, m1.2.2.trans a4.symm, m2.1.trans a5.symm, m2.2.1.trans a6.symm, m2.2.2.trans a7.symm, by rw [a7]; exact f4, fun q hq => ?_, sg, fun i => i < n ∧ lfc (ch i), hn, fun i hl => hl.1, fun i hb => ?_, fun i hb => ?_, fun i hb => ?_, fun i hb => ?_, fun q i hq hb => ?_, fun c i hc hl => ?_⟩⟩
  · have := (a8 i (by omega)).1
    rw [if_pos hi] at this
    rw [this]
    exact ⟨(hp.2.2 i hi).1, chr_code (hp.2.2 i hi).2⟩
  · have := (a8 q (by omega)).2.2
    rw [if_pos hq] at this
    rw [this]
    exact m3 q (by omega)
  · rw [show kbf Mb (zra k p) = B.1 from m1.1] at hb
    obtain ⟨x1, x2, x3⟩ := f2.1 i hb
    exact ⟨⟨by omega, x3⟩, x2⟩
  · rw [show kbl Mb (zra k p) = B.2.1 from m1.2.1] at hb
    exact (f2.2 i hb).2.1
  · rw [show klf Mb (zra k p) = L.1 from m2.1] at hb
    obtain ⟨x1, x2, x3⟩ := f3.1 i hb
    exact ⟨⟨x2, x3⟩, x1⟩
  · rw [show kll Mb (zra k p) = L.2.1 from m2.2.1] at hb
    exact (f3.2 i hb).1
  · rw [show kF Mb (zra k p) q = F' q from m3 q (by omega)] at hb
    obtain ⟨x1, x2, x3, x4⟩ := f5 q i (by omega) hb
    exact ⟨⟨x2, x1⟩, x4⟩
  · have ew := (a8 i (by have := hl.1; omega)).2.1
    rw [if_pos hl.1, if_pos hl.2] at ew
    rw [show kTk Mb (zra k p) c = T' c from m4 c hc, f6 c i hc, show aW Mr (5 * k + p) i = wv (ch i) from ew]
    have hl2 := hl.2
    have h16 := (hp.2.2 i hl.1).2
    unfold wv
    constructor
    · rintro ⟨-, -, z⟩
      by_cases e : ch i = 46
      · rw [if_pos e]; exact Or.inl rfl
      · rw [if_neg e]
        exact Or.inr (by rw [show ch i - 65 = c by omega])
    · intro z
      refine ⟨hl.1, hl.2, ?_⟩
      by_cases e : ch i = 46
      · exact Or.inl e
      · rw [if_neg e] at z
        rcases z with z | z
        · have := nI_inj (a := ch i - 65) (b := 12) (by omega) (by omega) z
          omega
        · have := nI_inj (a := ch i - 65) (b := c) (by omega) (by omega) z
          omega
/-- the model has read a pattern, and no more -/
theorem inv_rd {M M' : Mem} (hI : Inv M) (hz : zO M') (hm : mfr M M') : Inv M' := by
  obtain ⟨h, hP, hE, hR, cc, len, ch, c1, c2, t1, t2, hK, hH⟩ := hI
  obtain ⟨hq, h279⟩ := hm
  have hw2 : wAll M' := fun k hk p hp => by
    obtain ⟨w1, w2, g⟩ := (hR k hk p hp).1
    exact ⟨w1, w2, zWt_mv (hq.2 _ (by unfold zra; omega)).2 g⟩
  refine ⟨hz, iP_mv hq (by omega) (by omega) (by omega) (h279 1 (by omega)) hP, iE_mv hq (by omega) (fun q x y => by omega) (by omega) (by omega) (h279 49 (by omega)) hE, fun k hk p hp => iRule_mr hq (fun q x y => by omega) (iRule_mv hq (fun i x y => by unfold zra; omega) (hw2 k hk p hp) (hR k hk p hp)), cc, len, ch, cCs_mv hq (by omega) c1, mCs_mv hq (by omega) c2, cTe_mv hq (by omega) (by omega) t1, ?_, fun k hk => ?_, ?_⟩
  · unfold mTe at *
    rw [h279 31 (by omega), (hq.2 302 (by omega)).1]
    exact t2
  · obtain ⟨N, b, w, a1, a2, a3, a4⟩ := hK k hk
    exact ⟨N, b, w, cK_mr hq (fun q x y => by omega) (cK_mv hq (by omega) a1), mK_mv hq (by omega) (by omega) a2, by rw [(hq.2 _ (by omega)).1]; exact a3, by rw [(hq.2 305 (by omega)).1]; exact a4⟩
  · obtain ⟨o, u, r, D, Ls, g1, g2, g3, g4, g5, g6, g7, g8, g9, g10, g11, g12⟩ := hH
    refine ⟨o, u, r, D, Ls, g1, g2, by rw [(hq.2 187 (by omega)).1]; exact g3, by rw [(hq.2 187 (by omega)).1]; exact g4, by rw [(hq.2 187 (by omega)).1]; exact g5, by rw [h279 39 (by omega)]; exact g6, by rw [h279 44 (by omega)]; exact g7, g8, g9, fun i hi => cSl_mv hq (by omega) (by omega) (by omega) (g10 i hi), fun i hi => uSl_mv hq (fun q x y => by omega) (g11 i hi), fun i hi => rSl_mv hq (fun q x y => by omega) (g12 i hi)⟩
