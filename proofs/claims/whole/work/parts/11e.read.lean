/-! ===== the model's run over the pattern ===== -/
def wv (c : Nat) : Int32 := if c = 46 then 12 else nI (c - 65)
def mfr (M M' : Mem) : Prop := zq (fun q => q ≠ 279 ∧ ¬ (282 ≤ q ∧ q ≤ 290)) M M' ∧ ∀ j, (j < 10 ∨ 19 < j) → M'.2.1 279 j = M.2.1 279 j
theorem mfr.tr {M M' M'' : Mem} (h : mfr M M') (h2 : mfr M' M'') : mfr M M'' := ⟨h.1.tr h2.1, fun j hj => (h2.2 j hj).trans (h.2 j hj)⟩
theorem mfr.rf {M : Mem} : mfr M M := ⟨zq.rf, fun _ _ => rfl⟩
theorem mf1.r {M M' : Mem} (h : mf1 M M') : mfr M M' := ⟨h.1.wk (fun q z => by omega), fun j hj => h.2 j (by omega)⟩
def mBo (M : Mem) (P : Pt) : Prop := M.2.1 279 18 = P.1 ∧ M.2.1 279 19 = P.2.1 ∧ M.2.1 279 17 = P.2.2
theorem mBo_1 {M M' : Mem} {P : Pt} (h : mf1 M M') (hb : mBo M P) : mBo M' P := by
  unfold mBo at *
  rw [h.2 18 (by omega), h.2 19 (by omega), h.2 17 (by omega)]
  exact hb
def mA0 (M : Mem) (P : Pt) : Prop := M.2.1 283 0 = P.1 ∧ M.2.1 284 0 = P.2.1 ∧ M.2.1 282 0 = P.2.2
def m289 (ch : Nat → Nat) (M M' : Mem) (i i1 : Nat) : Prop := ∀ t, M'.2.1 289 t = if i ≤ t ∧ t < i1 ∧ lfc (ch t) then wv (ch t) else M.2.1 289 t
def MR (n : Nat) (ch : Nat → Nat) (d : Nat) (A S : Nat → Pt) (F : Nat → Int32) (hs : Nat → Nat) (lk : Nat) (bo : Pt) (i : Nat) (v : Int32) (B L : Pt) (F' : Nat → Int32) : Prop :=
  ∀ M fu, mpat M n ch → n - i < fu → mS M d A S F hs → M.2.1 279 16 = nI lk → (lk = 1 → mBo M bo) →
    ∃ M', fX9_readPattern_52L fu M 279 (nI i) = some (v, M') ∧ zO M' ∧ mfr M M' ∧ (v = -1 → m289 ch M M' i n ∧ (∀ q, q < 24 → M'.2.1 290 q = F' q) ∧ ((M'.2.1 279 16 = 0 ∧ mA0 M' B ∧ L = pE) ∨ (M'.2.1 279 16 = 1 ∧ mBo M' B ∧ mA0 M' L)))
theorem mpat_r {M M' : Mem} {n : Nat} {ch : Nat → Nat} (h : mfr M M') (hp : mpat M n ch) : mpat M' n ch := by
  unfold mpat at *
  rw [h.2 1 (by omega), (h.1.2 281 (by omega)).1]
  exact hp
theorem in9 {c : Nat} (hc : c < 65536) : fX9_in (nI c) 65 76 = some (if 65 ≤ c ∧ c ≤ 76 then 1 else 0) := by
  unfold fX9_in
  rw [show (65 : Int32) = nI 65 from rfl, show (76 : Int32) = nI 76 from rfl]
  by_cases e1 : c < 65
  · rw [if_pos (show nI c < nI 65 by rw [nI_ltN (by omega) (by omega)]; exact e1), if_neg (by omega)]
    rfl
  · rw [if_neg (show ¬ nI c < nI 65 by rw [nI_ltN (by omega) (by omega)]; exact e1)]
    by_cases e2 : 76 < c
    · rw [if_pos (show nI 76 < nI c by rw [nI_ltN (by omega) (by omega)]; exact e2), if_neg (by omega)]
      rfl
    · rw [if_neg (show ¬ nI 76 < nI c by rw [nI_ltN (by omega) (by omega)]; exact e2), if_pos (by omega)]
      rfl
section MR
variable {n : Nat} {ch : Nat → Nat} {d : Nat} {A S : Nat → Pt} {F : Nat → Int32} {hs : Nat → Nat} {lk : Nat} {bo : Pt} {i : Nat} {v : Int32} {B L : Pt} {F' : Nat → Int32}
theorem MR_go {i1 d1 lk1 : Nat} {A1 S1 : Nat → Pt} {F1 : Nat → Int32} {hs1 : Nat → Nat} {bo1 : Pt} (hi : i < i1) (hn : i1 ≤ n)
    (st : ∀ M f, mpat M n ch → mS M d A S F hs → M.2.1 279 16 = nI lk → (lk = 1 → mBo M bo) → ∃ M1, fX9_readPattern_52L (f + 1) M 279 (nI i) = fX9_readPattern_52L f M1 279 (nI i1) ∧ mfr M M1 ∧ mS M1 d1 A1 S1 F1 hs1 ∧ M1.2.1 279 16 = nI lk1 ∧ (lk1 = 1 → mBo M1 bo1) ∧ m289 ch M M1 i i1)
    (h : MR n ch d1 A1 S1 F1 hs1 lk1 bo1 i1 v B L F') : MR n ch d A S F hs lk bo i v B L F' := by
  intro M fu hp hf hS hk hb
  obtain ⟨f, rfl⟩ : ∃ f, fu = f + 1 := ⟨fu - 1, by omega⟩
  obtain ⟨M1, e, m1, s1, k1, b1, w1⟩ := st M f hp hS hk hb
  obtain ⟨M', g1, g2, g3, g4⟩ := h M1 f (mpat_r m1 hp) (by omega) s1 k1 b1
  refine ⟨M', by rw [e]; exact g1, g2, m1.tr g3, fun hv => ?_⟩
  obtain ⟨x1, x2, x3⟩ := g4 hv
  refine ⟨fun t => ?_, x2, x3⟩
  rw [x1 t, w1 t]
  by_cases c1 : i1 ≤ t ∧ t < n ∧ lfc (ch t)
  · rw [if_pos c1, if_pos ⟨by omega, c1.2.1, c1.2.2⟩]
  · rw [if_neg c1]
    by_cases c2 : i ≤ t ∧ t < i1 ∧ lfc (ch t)
    · rw [if_pos c2, if_pos ⟨c2.1, by omega, c2.2.2⟩]
    · rw [if_neg c2, if_neg (fun z => by
        rcases Nat.lt_or_ge t i1 with w | w
        · exact c2 ⟨z.1, w, z.2.2⟩
        · exact c1 ⟨w, z.2⟩)]
theorem m289_0 {M M' : Mem} (hc : ¬ lfc (ch i)) (h : M'.2.1 289 = M.2.1 289) : m289 ch M M' i (i + 1) := by
  intro t
  rw [h, if_neg (fun z => by
    have : t = i := by omega
    subst this
    exact hc z.2.2)]
abbrev bhs (hs : Nat → Nat) (d : Nat) : Nat := if hs d = 0 then 0 else 1
theorem mr_hd {M : Mem} {f : Nat} (hp : mpat M n ch) (hS : mS M d A S F hs) (hi : i < n) (hh : hs d < 1000) : fX9_readPattern_52L (f + 1) M 279 (nI i) = fX9_readPattern_84 (fX9_readPattern_52L f) M 279 (nI i) (nI (ch i)) (nI (bhs hs d)) := by
  have hn := hp.2.1
  obtain ⟨h, a2, a3, a4, -⟩ := hS
  obtain ⟨-, -, -, -, -, -, u7⟩ := a4 d (Nat.le_refl _)
  have st : fX9_readPattern_52L (f + 1) M 279 (nI i) = fX9_readPattern_52 (fX9_readPattern_52L f) M 279 (nI i) := rfl
  rw [st]
  unfold fX9_readPattern_52
  rw [x9 h, Option.bind_some, hp.1, if_neg (show ¬ nI n ≤ nI i by rw [nI_leN (by omega) (by omega)]; omega), gr_279_2 h, Option.bind_some, zaI_f h (by decide) zk_281 (by rw [zl_281]; omega), Option.bind_some, (hp.2.2 i hi).1, gr_279_9 h, Option.bind_some, x9 h, Option.bind_some, a3, a288 h a2, Option.bind_some, u7]
  by_cases e : hs d = 0
  · rw [if_pos (show nI (hs d) ≤ 0 by rw [nI_le0 (by omega)]; exact e)]
    unfold bhs
    rw [if_pos e]
    rfl
  · rw [if_neg (show ¬ nI (hs d) ≤ 0 by rw [nI_le0 (by omega)]; exact e)]
    unfold bhs
    rw [if_neg e]
    rfl
theorem nx_le {p : Nat} (hp : p ≤ n) : p ≤ nx n ch p ∧ nx n ch p ≤ n := by
  unfold nx
  by_cases e : p < n ∧ isr (ch p)
  · rw [if_pos e]; omega
  · rw [if_neg e]; omega
theorem MR_leaf (hi : i < n) (hh : hs d < 1000) (hc : lfc (ch i)) (h : MR n ch d A (up S d (pFo (S d) (itE (sgn n ch (i + 1)) (bit1 i, bit1 i, 0)))) (pLk (itF (sgn n ch (i + 1)) F (bit1 i, bit1 i, 0)) (S d).2.1 (itE (sgn n ch (i + 1)) (bit1 i, bit1 i, 0)).1) (up hs d (hs d + 1)) lk bo (nx n ch (i + 1)) v B L F') : MR n ch d A S F hs lk bo i v B L F' := by
  have hnx := nx_le (ch := ch) (show i + 1 ≤ n by omega)
  refine MR_go (by omega) hnx.2 (fun M f hp hS hk hb => ?_) h
  have hn := hp.2.1
  obtain ⟨c1, c2⟩ := hp.2.2 i hi
  have hz := hS.1
  obtain ⟨M1, hM1⟩ : ∃ M1, M1 = zwI (zwI (zwI (zwI M 289 i (wv (ch i))) 279 11 0) 279 12 (bit1 i)) 279 13 (bit1 i) := ⟨_, rfl⟩
  have hS0 : mS (zwI M 289 i (wv (ch i))) d A S F hs := by
    obtain ⟨a1, a2, a3, a4, a5⟩ := hS
    have g : ∀ b, b ≠ 289 → (zwI M 289 i (wv (ch i))).2.1 b = M.2.1 b := fun b hb => (zq_wI.2 b hb).1
    refine ⟨a1, a2, by rw [g _ (by omega)]; exact a3, fun j hj => ?_, fun q hq => by rw [g _ (by omega)]; exact a5 q hq⟩
    have := a4 j hj
    unfold mL at *
    rw [g 283 (by omega), g 284 (by omega), g 282 (by omega), g 286 (by omega), g 287 (by omega), g 285 (by omega), g 288 (by omega)]
    exact this
  have hS1 : mS M1 d A S F hs := by rw [hM1]; exact mS_9 (mS_9 (mS_9 hS0 (by omega)) (by omega)) (by omega)
  have hm1 : mfr M M1 := by
    rw [hM1]
    exact ⟨(zq_wI.wk (fun q z => by omega)).tr ((zq_wI.wk (fun q z => z.1)).tr ((zq_wI.wk (fun q z => z.1)).tr (zq_wI.wk (fun q z => z.1)))), fun j hj => by
      rw [zw_I, if_neg (by omega), zw_I, if_neg (by omega), zw_I, if_neg (by omega), zw_I, if_neg (by omega)]⟩
  have hk1 : ∀ j, 16 ≤ j → M1.2.1 279 j = M.2.1 279 j := fun j hj => by rw [hM1, zw_I, if_neg (by omega), zw_I, if_neg (by omega), zw_I, if_neg (by omega), zw_I, if_neg (by omega)]
  have hI1 : mIt M1 (bit1 i, bit1 i, 0) := by
    rw [hM1]
    refine ⟨?_, ?_, ?_⟩
    · rw [zw_I, if_neg (by omega), zw_I, if_pos ⟨rfl, rfl⟩]
    · rw [zw_I, if_pos ⟨rfl, rfl⟩]
    · rw [zw_I, if_neg (by omega), zw_I, if_neg (by omega), zw_I, if_pos ⟨rfl, rfl⟩]
  obtain ⟨M2, g1, g2, g3⟩ := ei_ok hS1 hI1 (Or.inl rfl) (mpat_r hm1 hp) (p := i + 1) (by omega)
  refine ⟨M2, ?_, hm1.tr g2.r, g3, by rw [g2.2 16 (by omega), hk1 16 (by omega)]; exact hk, fun z => ?_, fun t => ?_⟩
  · have h122 : ∀ y, y = wv (ch i) → fX9_readPattern_122 (fX9_readPattern_52L f) M 279 (nI i) 289 (nI i) y = fX9_readPattern_52L f M2 279 (nI (nx n ch (i + 1))) := by
      intro y hy
      have hz1 : zO (zwI M 289 i (wv (ch i))) := hz
      have hz2 : zO (zwI (zwI M 289 i (wv (ch i))) 279 11 0) := hz
      have hz3 : zO (zwI (zwI (zwI M 289 i (wv (ch i))) 279 11 0) 279 12 (bit1 i)) := hz
      unfold fX9_readPattern_122 fX9_readPattern_367
      rw [hy, zsI_f hz (by decide) zk_289 (by rw [zl_289]; omega), Option.bind_some, pz9 hz1 (Or.inl rfl), Option.bind_some, p9 hz2, Option.bind_some, p9 hz3, Option.bind_some, ← hM1, c9 hS1.1, Option.bind_some, nI_1, g1, Option.bind_some]
    have h102 : fX9_readPattern_102 (fX9_readPattern_52L f) M 279 (nI i) (nI (ch i)) = fX9_readPattern_52L f M2 279 (nI (nx n ch (i + 1))) := by
      unfold fX9_readPattern_102
      rw [gr_279_14 hz, Option.bind_some]
      by_cases e : ch i = 46
      · rw [if_pos (show nI (ch i) = 46 by rw [e]; rfl)]
        exact h122 12 (by unfold wv; rw [if_pos e])
      · rw [if_neg (show ¬ nI (ch i) = (46 : Int32) from nE (x := 46) c2 (by omega) (by exact e))]
        exact h122 _ (by unfold wv; rw [if_neg e, show (65 : Int32) = nI 65 from rfl, pk_sub (by omega)])
    rw [mr_hd hp hS hi hh]
    unfold fX9_readPattern_84
    rw [in9 c2, Option.bind_some, h102]
    by_cases e : 65 ≤ ch i ∧ ch i ≤ 76
    · rw [if_pos e, if_neg (show ¬ (1 : Int32) = 0 by decide)]
    · rw [if_neg e, if_pos rfl, if_pos (show nI (ch i) = 46 by rw [show ch i = 46 by omega]; rfl)]
  · have := hb z
    unfold mBo at *
    rw [g2.2 18 (by omega), g2.2 19 (by omega), g2.2 17 (by omega), hk1 18 (by omega), hk1 19 (by omega), hk1 17 (by omega)]
    exact this
  · rw [(g2.1.2 289 (by omega)).1, hM1, zw_I, if_neg (by omega), zw_I, if_neg (by omega), zw_I, if_neg (by omega), zw_I]
    by_cases e : t = i
    · rw [if_pos ⟨rfl, e⟩, if_pos (by subst e; exact ⟨Nat.le_refl _, by omega, hc⟩), e]
    · rw [if_neg (fun z => e z.2), if_neg (fun z => by
        have hx := z.2.1
        unfold nx at hx
        by_cases e2 : i + 1 < n ∧ isr (ch (i + 1))
        · rw [if_pos e2] at hx
          have : t = i + 1 := by omega
          subst this
          omega
        · rw [if_neg e2] at hx
          omega)]
/-- what is no leaf and no "(" -/
theorem mr_nl {M : Mem} {f : Nat} (hp : mpat M n ch) (hS : mS M d A S F hs) (hi : i < n) (hh : hs d < 1000) (hc : ¬ lfc (ch i)) (h40 : ¬ (ch i = 40 ∧ d < 4)) : fX9_readPattern_52L (f + 1) M 279 (nI i) = fX9_readPattern_187 (fX9_readPattern_52L f) M 279 (nI i) (nI (ch i)) (nI (bhs hs d)) := by
  have c2 := (hp.2.2 i hi).2
  have hd := hS.2.1
  rw [mr_hd hp hS hi hh]
  unfold fX9_readPattern_84
  rw [in9 c2, Option.bind_some, if_neg (show ¬ (65 ≤ ch i ∧ ch i ≤ 76) by omega), if_pos rfl, if_neg (show ¬ nI (ch i) = (46 : Int32) from nE (x := 46) c2 (by omega) (by omega))]
  by_cases e : ch i = 40
  · rw [if_pos (show nI (ch i) = 40 by rw [e]; rfl), x9 hS.1, Option.bind_some, hS.2.2.1, if_pos (show (4 : Int32) ≤ nI d by rw [show (4 : Int32) = nI 4 from rfl, nI_leN (by omega) (by omega)]; omega)]
  · rw [if_neg (show ¬ nI (ch i) = (40 : Int32) from nE (x := 40) c2 (by omega) (by exact e))]
theorem mf1_d {M : Mem} {x : Int32} : mf1 M (zwI M 279 10 x) := ⟨zq_wI.wk (fun q z => z.1), fun j hj => by rw [zw_I, if_neg (by omega)]⟩
theorem MR_open (hi : i < n) (hh : hs d < 1000) (hc : ch i = 40) (hd : d < 4) (h : MR n ch (d + 1) (up A (d + 1) pN) (up S (d + 1) pE) F (up hs (d + 1) 0) lk bo (i + 1) v B L F') : MR n ch d A S F hs lk bo i v B L F' := by
  refine MR_go (by omega) (by omega) (fun M f hp hS hk hb => ?_) h
  have hz := hS.1
  have hz1 : zO (zwI M 279 10 (nI (d + 1))) := hz
  obtain ⟨M1, g1, g2, g3⟩ := oal hz1 (d := d + 1) (by omega) (by rw [zw_I, if_pos ⟨rfl, rfl⟩])
  have hm : mf1 M M1 := mf1_d.tr (mf1_l g3)
  have g : ∀ b, b ≠ 279 → (zwI M 279 10 (nI (d + 1))).2.1 b = M.2.1 b := fun b hb => (zq_wI.2 b hb).1
  refine ⟨M1, ?_, hm.r, ⟨g2, by omega, ?_, fun j hj => ?_, fun q hq => ?_⟩, by rw [hm.2 16 (by omega)]; exact hk, fun z => mBo_1 hm (hb z), m289_0 (by omega) (hm.1.2 289 (by omega)).1⟩
  · rw [mr_hd hp hS hi hh]
    unfold fX9_readPattern_84 fX9_readPattern_367
    rw [in9 (by omega), Option.bind_some, if_neg (show ¬ (65 ≤ ch i ∧ ch i ≤ 76) by omega), if_pos rfl, hc, if_neg (show ¬ nI 40 = (46 : Int32) by decide), if_pos (show nI 40 = (40 : Int32) from rfl), x9 hz, Option.bind_some, hS.2.2.1, if_neg (show ¬ (4 : Int32) ≤ nI d by rw [show (4 : Int32) = nI 4 from rfl, nI_leN (by omega) (by omega)]; omega), Option.bind_some, nI_1, p9 hz, Option.bind_some, c9 hz1, Option.bind_some, g1, Option.bind_some, zlt_e, nI_1]
  · rw [(g3.1.2 279 (by omega)).1, zw_I, if_pos ⟨rfl, rfl⟩]
  · by_cases e : j = d + 1
    · subst e
      rw [up_e, up_e, up_e]
      exact g3.2.2
    · rw [up_n e, up_n e, up_n e]
      refine mL_o g3 e ?_
      have := hS.2.2.2.1 j (by omega)
      unfold mL at *
      rw [g 283 (by omega), g 284 (by omega), g 282 (by omega), g 286 (by omega), g 287 (by omega), g 285 (by omega), g 288 (by omega)]
      exact this
  · rw [(g3.1.2 290 (by omega)).1, g _ (by omega)]
    exact hS.2.2.2.2 q hq
theorem MR_close (hi : i < n) (hh : hs (d + 1) < 1000) (hc : ch i = 41) (hb1 : hs (d + 1) ≠ 0) (h : MR n ch d A (up S d (pFo (S d) (itE (sgn n ch (i + 1)) (pOr (A (d + 1)) (S (d + 1)))))) (pLk (itF (sgn n ch (i + 1)) F (pOr (A (d + 1)) (S (d + 1)))) (S d).2.1 (itE (sgn n ch (i + 1)) (pOr (A (d + 1)) (S (d + 1)))).1) (up hs d (hs d + 1)) lk bo (nx n ch (i + 1)) v B L F') : MR n ch (d + 1) A S F hs lk bo i v B L F' := by
  have hnx := nx_le (ch := ch) (show i + 1 ≤ n by omega)
  refine MR_go (by omega) hnx.2 (fun M f hp hS hk hb => ?_) h
  have hn := hp.2.1
  have hz := hS.1
  have hd := hS.2.1
  obtain ⟨M1, g1, g2, g3⟩ := csq hz hd hS.2.2.1 (hS.2.2.2.1 _ (Nat.le_refl _))
  obtain ⟨p1, p2, p3, -⟩ := g3.2.2
  have e10 : M1.2.1 279 10 = nI (d + 1) := by rw [(g3.1.2 279 (by omega)).1]; exact hS.2.2.1
  obtain ⟨M2, hM2⟩ : ∃ M2, M2 = zwI (zwI (zwI (zwI M1 279 11 (pOr (A (d + 1)) (S (d + 1))).2.2) 279 12 (pOr (A (d + 1)) (S (d + 1))).1) 279 13 (pOr (A (d + 1)) (S (d + 1))).2.1) 279 10 (nI d) := ⟨_, rfl⟩
  have hq2 : ∀ b, b ≠ 279 → M2.2.1 b = M1.2.1 b := fun b hb => by
    rw [hM2]
    exact ((zq_wI.tr (zq_wI.tr (zq_wI.tr zq_wI))).2 b hb).1
  have hm2 : mf1 M1 M2 := by
    rw [hM2]
    exact ⟨(zq_wI.wk (fun q z => z.1)).tr ((zq_wI.wk (fun q z => z.1)).tr ((zq_wI.wk (fun q z => z.1)).tr (zq_wI.wk (fun q z => z.1)))), fun j hj => by
      rw [zw_I, if_neg (by omega), zw_I, if_neg (by omega), zw_I, if_neg (by omega), zw_I, if_neg (by omega)]⟩
  have hm : mf1 M M2 := (mf1_l g3).tr hm2
  have hS2 : mS M2 d A S F hs := by
    refine ⟨by rw [hM2]; exact g2, by omega, by rw [hM2, zw_I, if_pos ⟨rfl, rfl⟩], fun j hj => ?_, fun q hq => ?_⟩
    · have := mL_o g3 (show j ≠ d + 1 by omega) (hS.2.2.2.1 j (by omega))
      unfold mL at *
      rw [hq2 283 (by omega), hq2 284 (by omega), hq2 282 (by omega), hq2 286 (by omega), hq2 287 (by omega), hq2 285 (by omega), hq2 288 (by omega)]
      exact this
    · rw [hq2 290 (by omega), (g3.1.2 290 (by omega)).1]
      exact hS.2.2.2.2 q hq
  have hI2 : mIt M2 (pOr (A (d + 1)) (S (d + 1))) := by
    rw [hM2]
    refine ⟨?_, ?_, ?_⟩
    · rw [zw_I, if_neg (by omega), zw_I, if_neg (by omega), zw_I, if_pos ⟨rfl, rfl⟩]
    · rw [zw_I, if_neg (by omega), zw_I, if_pos ⟨rfl, rfl⟩]
    · rw [zw_I, if_neg (by omega), zw_I, if_neg (by omega), zw_I, if_neg (by omega), zw_I, if_pos ⟨rfl, rfl⟩]
  obtain ⟨M3, f1, f2, f3⟩ := ei_ok hS2 hI2 pB_or (mpat_r hm.r hp) (p := i + 1) (by omega)
  have hma := hm.tr f2
  refine ⟨M3, ?_, hma.r, f3, by rw [hma.2 16 (by omega)]; exact hk, fun z => mBo_1 hma (hb z), fun t => ?_⟩
  · have z1 : zO (zwI M1 279 11 (pOr (A (d + 1)) (S (d + 1))).2.2) := g2
    have z2 : zO (zwI (zwI M1 279 11 (pOr (A (d + 1)) (S (d + 1))).2.2) 279 12 (pOr (A (d + 1)) (S (d + 1))).1) := g2
    have z3 : zO (zwI (zwI (zwI M1 279 11 (pOr (A (d + 1)) (S (d + 1))).2.2) 279 12 (pOr (A (d + 1)) (S (d + 1))).1) 279 13 (pOr (A (d + 1)) (S (d + 1))).2.1) := g2
    rw [mr_nl hp hS hi hh (by omega) (by omega)]
    unfold fX9_readPattern_187 fX9_readPattern_367
    rw [hc, if_pos (show nI 41 = (41 : Int32) from rfl), x9 hz, Option.bind_some, hS.2.2.1, if_neg (show ¬ nI (d + 1) ≤ 0 by rw [nI_le0 (by omega)]; omega), show bhs hs (d + 1) = 1 from if_neg hb1, if_neg (show ¬ nI 1 = 0 by decide), c9 hz, Option.bind_some, g1, Option.bind_some, gr_279_3 g2, Option.bind_some, x9 g2, Option.bind_some, e10, a282 g2 hd, Option.bind_some, p3, pz9 g2 pB_or, Option.bind_some, gr_279_4 z1, Option.bind_some, x9 z1, Option.bind_some, zw_I, if_neg (by omega), e10, a283 z1 hd, Option.bind_some, zw_I, if_neg (by omega), p1, p9 z1, Option.bind_some, gr_279_5 z2, Option.bind_some, x9 z2, Option.bind_some, zw_I, if_neg (by omega), zw_I, if_neg (by omega), e10, a284 z2 hd, Option.bind_some, zw_I, if_neg (by omega), zw_I, if_neg (by omega), p2, p9 z2, Option.bind_some, x9 z3, Option.bind_some, zw_I, if_neg (by omega), zw_I, if_neg (by omega), zw_I, if_neg (by omega), e10, dec1, p9 z3, Option.bind_some, ← hM2, c9 hS2.1, Option.bind_some, nI_1, f1, Option.bind_some]
  · rw [(hma.1.2 289 (by omega)).1, if_neg (fun z => by
      have hx := z.2.1
      unfold nx at hx
      by_cases e2 : i + 1 < n ∧ isr (ch (i + 1))
      · rw [if_pos e2] at hx
        rcases (show t = i ∨ t = i + 1 by omega) with rfl | rfl
        · omega
        · omega
      · rw [if_neg e2] at hx
        have : t = i := by omega
        subst this
        omega)]
/-- what is no ")" -/
theorem mr_n2 {M : Mem} {k : Mem → Nat → Int32 → Option (Int32 × Mem)} {c b : Nat} (hS : mS M d A S F hs) (hc : c < 65536) (hb : b < 1000) (h : ¬ (c = 41 ∧ d ≠ 0 ∧ b ≠ 0)) : fX9_readPattern_187 k M 279 (nI i) (nI c) (nI b) = fX9_readPattern_268 k M 279 (nI i) (nI c) (nI b) := by
  have hd := hS.2.1
  unfold fX9_readPattern_187
  by_cases e : c = 41
  · rw [if_pos (show nI c = 41 by rw [e]; rfl), x9 hS.1, Option.bind_some, hS.2.2.1]
    by_cases e2 : d = 0
    · rw [if_pos (show nI d ≤ 0 by rw [nI_le0 (by omega)]; exact e2)]
    · rw [if_neg (show ¬ nI d ≤ 0 by rw [nI_le0 (by omega)]; exact e2), if_pos (show nI b = 0 by rw [nI_00 (by omega)]; exact Classical.byContradiction (fun z => h ⟨e, e2, z⟩))]
  · rw [if_neg (show ¬ nI c = (41 : Int32) from nE (x := 41) hc (by omega) (by exact e))]
theorem MR_bar (hi : i < n) (hh : hs d < 1000) (hc : ch i = 124) (hb1 : hs d ≠ 0) (h : MR n ch d (up A d (pOr (A d) (S d))) (up S d pE) F (up hs d 0) lk bo (i + 1) v B L F') : MR n ch d A S F hs lk bo i v B L F' := by
  refine MR_go (by omega) (by omega) (fun M f hp hS hk hb => ?_) h
  have hz := hS.1
  have hd := hS.2.1
  obtain ⟨M1, g1, g2, g3⟩ := csq hz hd hS.2.2.1 (hS.2.2.2.1 _ (Nat.le_refl _))
  have hS1 := mS_l hS g2 g3
  have e10 : M1.2.1 279 10 = nI d := hS1.2.2.1
  obtain ⟨M2, f1, f2, f3⟩ := osq g2 hd e10
  have hS2 := mS_l hS1 f2 f3
  rw [up_up, up_up, up_up] at hS2
  obtain ⟨p1, p2, p3, -⟩ := g3.2.2
  rw [p1, p2, p3] at hS2
  have hm : mf1 M M2 := (mf1_l g3).tr (mf1_l f3)
  refine ⟨M2, ?_, hm.r, hS2, by rw [hm.2 16 (by omega)]; exact hk, fun z => mBo_1 hm (hb z), m289_0 (by omega) (hm.1.2 289 (by omega)).1⟩
  rw [mr_nl hp hS hi hh (by omega) (by omega), hc, mr_n2 hS (by omega) (by unfold bhs; split <;> omega) (by omega)]
  unfold fX9_readPattern_268 fX9_readPattern_367
  rw [if_pos (show nI 124 = (124 : Int32) from rfl), show bhs hs d = 1 from if_neg hb1, if_neg (show ¬ nI 1 = 0 by decide), c9 hz, Option.bind_some, g1, Option.bind_some, c9 g2, Option.bind_some, f1, Option.bind_some, zlt_e, nI_1]
theorem mr_n3 {M : Mem} {k : Mem → Nat → Int32 → Option (Int32 × Mem)} {c b : Nat} (hc : c < 65536) (hb : b < 1000) (h : ¬ (c = 124 ∧ b ≠ 0)) : fX9_readPattern_268 k M 279 (nI i) (nI c) (nI b) = fX9_readPattern_292 k M 279 (nI i) (nI c) (nI b) := by
  unfold fX9_readPattern_268
  by_cases e : c = 124
  · rw [if_pos (show nI c = 124 by rw [e]; rfl), if_pos (show nI b = 0 by rw [nI_00 (by omega)]; exact Classical.byContradiction (fun z => h ⟨e, z⟩))]
  · rw [if_neg (show ¬ nI c = (124 : Int32) from nE (x := 124) hc (by omega) (by exact e))]
theorem MR_slash (hi : i < n) (hh : hs 0 < 1000) (hc : ch i = 47) (hb1 : hs 0 ≠ 0) (h : MR n ch 0 (up A 0 pN) (up S 0 pE) F (up hs 0 0) 1 (pOr (A 0) (S 0)) (i + 1) v B L F') : MR n ch 0 A S F hs 0 bo i v B L F' := by
  refine MR_go (by omega) (by omega) (fun M f hp hS hk hb => ?_) h
  have hz := hS.1
  have hd := hS.2.1
  obtain ⟨M1, g1, g2, g3⟩ := csq hz hd hS.2.2.1 (hS.2.2.2.1 _ (Nat.le_refl _))
  have hS1 := mS_l hS g2 g3
  obtain ⟨p1, p2, p3, -⟩ := g3.2.2
  obtain ⟨M2, hM2⟩ : ∃ M2, M2 = zwI (zwI (zwI (zwI M1 279 16 1) 279 17 (pOr (A 0) (S 0)).2.2) 279 18 (pOr (A 0) (S 0)).1) 279 19 (pOr (A 0) (S 0)).2.1 := ⟨_, rfl⟩
  have hS2 : mS M2 0 (up A 0 (pOr (A 0) (S 0))) (up S 0 (S 0)) F (up hs 0 (hs 0)) := by
    rw [hM2]
    exact mS_9 (mS_9 (mS_9 (mS_9 hS1 (by omega)) (by omega)) (by omega)) (by omega)
  obtain ⟨M3, f1, f2, f3⟩ := oal hS2.1 hS2.2.1 hS2.2.2.1
  have hS3 := mS_l hS2 f2 f3
  rw [up_up, up_up, up_up] at hS3
  have hm2 : mfr M1 M2 := by
    rw [hM2]
    exact ⟨(zq_wI.wk (fun q z => z.1)).tr ((zq_wI.wk (fun q z => z.1)).tr ((zq_wI.wk (fun q z => z.1)).tr (zq_wI.wk (fun q z => z.1)))), fun j hj => by
      rw [zw_I, if_neg (by omega), zw_I, if_neg (by omega), zw_I, if_neg (by omega), zw_I, if_neg (by omega)]⟩
  have h279 : M3.2.1 279 = M2.2.1 279 := (f3.1.2 279 (by omega)).1
  refine ⟨M3, ?_, (mf1_l g3).r.tr (hm2.tr (mf1_l f3).r), hS3, ?_, fun _ => ?_, m289_0 (by omega) ?_⟩
  · have z1 : zO (zwI M1 279 16 1) := g2
    have z2 : zO (zwI (zwI M1 279 16 1) 279 17 (pOr (A 0) (S 0)).2.2) := g2
    have z3 : zO (zwI (zwI (zwI M1 279 16 1) 279 17 (pOr (A 0) (S 0)).2.2) 279 18 (pOr (A 0) (S 0)).1) := g2
    rw [mr_nl hp hS hi hh (by omega) (by omega), hc, mr_n2 hS (by omega) (by unfold bhs; split <;> omega) (by omega), mr_n3 (by omega) (by unfold bhs; split <;> omega) (by omega)]
    unfold fX9_readPattern_292 fX9_readPattern_367
    rw [if_pos (show nI 47 = (47 : Int32) from rfl), x9 hz, Option.bind_some, hS.2.2.1, if_pos (show nI 0 = 0 from rfl), show bhs hs 0 = 1 from if_neg hb1, if_neg (show ¬ nI 1 = 0 by decide), x9 hz, Option.bind_some, hk, if_pos (show nI 0 = 0 from rfl), c9 hz, Option.bind_some, g1, Option.bind_some, pz9 g2 (Or.inr rfl), Option.bind_some, gr_279_3 z1, Option.bind_some, show (0 : Int32) = nI 0 from rfl, a282 z1 hd, Option.bind_some, zw_I, if_neg (by omega), p3, pz9 z1 pB_or, Option.bind_some, gr_279_4 z2, Option.bind_some, a283 z2 hd, Option.bind_some, zw_I, if_neg (by omega), zw_I, if_neg (by omega), p1, p9 z2, Option.bind_some, gr_279_5 z3, Option.bind_some, a284 z3 hd, Option.bind_some, zw_I, if_neg (by omega), zw_I, if_neg (by omega), zw_I, if_neg (by omega), p2, p9 z3, Option.bind_some, ← hM2, c9 hS2.1, Option.bind_some, f1, Option.bind_some, zlt_e, nI_1]
  · rw [h279, hM2, zw_I, if_neg (by omega), zw_I, if_neg (by omega), zw_I, if_neg (by omega), zw_I, if_pos ⟨rfl, rfl⟩]
    rfl
  · unfold mBo
    rw [h279, hM2]
    refine ⟨?_, ?_, ?_⟩
    · rw [zw_I, if_neg (by omega), zw_I, if_pos ⟨rfl, rfl⟩]
    · rw [zw_I, if_pos ⟨rfl, rfl⟩]
    · rw [zw_I, if_neg (by omega), zw_I, if_neg (by omega), zw_I, if_pos ⟨rfl, rfl⟩]
  · rw [(f3.1.2 289 (by omega)).1, hM2]
    rw [((zq_wI.tr (zq_wI.tr (zq_wI.tr zq_wI))).2 289 (by omega)).1, (g3.1.2 289 (by omega)).1]
theorem MR_fault (hi : i < n) (hh : hs d < 1000) (hl : lk < 1000) (h0 : ¬ lfc (ch i)) (h1 : ¬ (ch i = 40 ∧ d < 4)) (h2 : ¬ (ch i = 41 ∧ d ≠ 0 ∧ bhs hs d ≠ 0)) (h3 : ¬ (ch i = 124 ∧ bhs hs d ≠ 0)) (h4 : ¬ (ch i = 47 ∧ bhs hs d ≠ 0 ∧ d = 0 ∧ lk = 0)) : MR n ch d A S F hs lk bo i (nI i) B L F' := by
  intro M fu hp hf hS hk hb
  obtain ⟨f, rfl⟩ : ∃ f, fu = f + 1 := ⟨fu - 1, by omega⟩
  have hn := hp.2.1
  have hz := hS.1
  have hd := hS.2.1
  have c2 := (hp.2.2 i hi).2
  have hbb : bhs hs d < 1000 := by unfold bhs; split <;> omega
  refine ⟨M, ?_, hz, mfr.rf, fun hv => ?_⟩
  · rw [mr_nl hp hS hi hh h0 h1, mr_n2 hS c2 hbb h2, mr_n3 c2 hbb h3]
    unfold fX9_readPattern_292
    by_cases e : ch i = 47
    · rw [if_pos (show nI (ch i) = 47 by rw [e]; rfl), x9 hz, Option.bind_some, hS.2.2.1]
      by_cases e2 : d = 0
      · rw [if_pos (show nI d = 0 by rw [e2]; rfl)]
        by_cases e3 : bhs hs d = 0
        · rw [if_pos (show nI (bhs hs d) = 0 by rw [e3]; rfl)]
        · rw [if_neg (show ¬ nI (bhs hs d) = 0 by rw [nI_00 (by omega)]; exact e3), x9 hz, Option.bind_some, hk, if_neg (show ¬ nI lk = 0 by rw [nI_00 (by omega)]; exact fun z => h4 ⟨e, e3, e2, z⟩)]
      · rw [if_neg (show ¬ nI d = 0 by rw [nI_00 (by omega)]; exact e2)]
    · rw [if_neg (show ¬ nI (ch i) = (47 : Int32) from nE (x := 47) c2 (by omega) (by exact e))]
  · exfalso
    have : nI i < 0 := by rw [hv]; decide
    exact nI_pos (by omega) this
theorem MR_end (hh : hs d < 1000) (hl : lk = 0 ∨ lk = 1) : MR n ch d A S F hs lk bo n (if bhs hs d ≠ 0 ∧ d = 0 then -1 else nI n) (if lk = 1 then bo else pOr (A 0) (S 0)) (if lk = 1 then pOr (A 0) (S 0) else pE) F := by
  intro M fu hp hf hS hk hb
  obtain ⟨f, rfl⟩ : ∃ f, fu = f + 1 := ⟨fu - 1, by omega⟩
  have hn := hp.2.1
  have hz := hS.1
  have hd := hS.2.1
  have hnn : ∀ v : Int32, v = nI n → ¬ v = -1 := fun v hv z => by
    have : nI n < 0 := by rw [← hv, z]; decide
    exact nI_pos (by omega) this
  have st : fX9_readPattern_52L (f + 1) M 279 (nI n) = fX9_readPattern_52 (fX9_readPattern_52L f) M 279 (nI n) := rfl
  rw [st]
  unfold fX9_readPattern_52 fX9_readPattern_386
  rw [x9 hz, Option.bind_some, hp.1, if_pos (show nI n ≤ nI n by rw [nI_leN (by omega) (by omega)]; omega), Option.bind_some, x9 hz, Option.bind_some, hS.2.2.1]
  by_cases e : d = 0
  · subst e
    obtain ⟨-, -, -, -, -, -, u7⟩ := hS.2.2.2.1 0 (Nat.le_refl _)
    rw [if_neg (show ¬ (0 : Int32) < nI 0 by decide), gr_279_9 hz, Option.bind_some, show (0 : Int32) = nI 0 from rfl, a288 hz (by omega), Option.bind_some, u7]
    by_cases e2 : hs 0 = 0
    · rw [if_pos (show nI (hs 0) = nI 0 by rw [e2]), if_neg (fun z => z.1 (show bhs hs 0 = 0 from if_pos e2))]
      exact ⟨M, rfl, hz, mfr.rf, fun hv => absurd hv (hnn _ rfl)⟩
    · obtain ⟨M1, g1, g2, g3⟩ := csq hz hd hS.2.2.1 (hS.2.2.2.1 _ (Nat.le_refl _))
      rw [if_neg (show ¬ nI (hs 0) = nI 0 from fun z => e2 ((nI_eq (by omega) (by omega)).mp z)), if_pos (show bhs hs 0 ≠ 0 ∧ 0 = 0 from ⟨by rw [show bhs hs 0 = 1 from if_neg e2]; decide, rfl⟩), c9 hz, Option.bind_some, g1, Option.bind_some]
      obtain ⟨p1, p2, p3, -⟩ := g3.2.2
      refine ⟨M1, rfl, g2, (mf1_l g3).r, fun _ => ⟨fun t => ?_, fun q hq => ?_, ?_⟩⟩
      · rw [(g3.1.2 289 (by omega)).1, if_neg (by omega)]
      · rw [(g3.1.2 290 (by omega)).1]; exact hS.2.2.2.2 q hq
      · have h16 : M1.2.1 279 16 = nI lk := by rw [(g3.1.2 279 (by omega)).1]; exact hk
        rcases hl with rfl | rfl
        · left
          refine ⟨h16, ?_, if_neg (by decide)⟩
          rw [if_neg (show ¬ 0 = 1 by decide)]
          exact ⟨p1, p2, p3⟩
        · right
          refine ⟨h16, ?_, ?_⟩
          · rw [if_pos rfl]
            exact mBo_1 (mf1_l g3) (hb rfl)
          · rw [if_pos rfl]
            exact ⟨p1, p2, p3⟩
  · rw [if_pos (show (0 : Int32) < nI d by rw [show (0 : Int32) = nI 0 from rfl, nI_ltN (by omega) (by omega)]; omega), if_neg (fun z => e z.2)]
    exact ⟨M, rfl, hz, mfr.rf, fun hv => absurd hv (hnn _ rfl)⟩
end MR
