/-! ===== the class builds a rule ===== -/
theorem up_up {α : Type} {f : Nat → α} {i : Nat} {v w : α} : up (up f i v) i w = up f i w := by
  funext j
  unfold up
  by_cases e : j = i
  · rw [if_pos e, if_pos e]
  · rw [if_neg e, if_neg e, if_neg e]
def sgn (n : Nat) (ch : Nat → Nat) (i : Nat) : Nat := if i < n then ch i else 0
def pat (M : Mem) (a n : Nat) (ch : Nat → Nat) : Prop := M.2.1 a 1 = nI n ∧ n ≤ 24 ∧ ∀ j, j < n → M.2.1 (a + 1) j = nI (ch j) ∧ ch j < 65536
theorem pat_mv {M M' : Mem} {a n : Nat} {ch : Nat → Nat} (e1 : M'.2.1 a = M.2.1 a) (e2 : M'.2.1 (a + 1) = M.2.1 (a + 1)) (h : pat M a n ch) : pat M' a n ch := by
  unfold pat at *
  rw [e1, e2]
  exact h
theorem pat_at {M : Mem} {a n : Nat} {ch : Nat → Nat} (h : zO M) (hr : zrow a) (hl : zsL (a + 1) = 24) (hp : pat M a n ch) {i : Nat} (hi : i < 2 ^ 31) : fX4_at M a (nI i) = some (nI (sgn n ch i), M) := by
  rw [at_ok h hr hp.1 (by rw [hl]; exact hp.2.1) (fun j hj => by rw [(hp.2.2 j hj).1]; exact chr_code (hp.2.2 j hj).2) hi]
  unfold sgn
  by_cases e : i < n
  · rw [if_pos e, if_pos e, (hp.2.2 i e).1]
  · rw [if_neg e, if_neg e]
    rfl
theorem sgn_16 {M : Mem} {a n : Nat} {ch : Nat → Nat} (hp : pat M a n ch) {i : Nat} : sgn n ch i < 65536 := by
  unfold sgn
  by_cases e : i < n
  · rw [if_pos e]; exact (hp.2.2 i e).2
  · rw [if_neg e]; omega
abbrev lfc (c : Nat) : Prop := c = 46 ∨ (65 ≤ c ∧ c ≤ 76)
abbrev isr (c : Nat) : Prop := c = 42 ∨ c = 43 ∨ c = 63
theorem n16e {a b : Nat} (ha : a < 65536) (hb : b < 65536) : (nI a = nI b) = (a = b) := propext ⟨fun z => nI_inj16 ha hb z, fun z => by rw [z]⟩
theorem nE {c x : Nat} (hc : c < 65536) (hx : x < 65536) (h : c ≠ x) : ¬ nI c = nI x := by rw [n16e hc hx]; exact h
theorem lfd {c : Nat} (hc : c < 65536) : fX8_isClassLetterOrDot (nI c) = some (if lfc c then 1 else 0) := by
  unfold fX8_isClassLetterOrDot fX8_isClassLetterOrDot_18
  rw [show (46 : Int32) = nI 46 from rfl, show (65 : Int32) = nI 65 from rfl, show (77 : Int32) = nI 77 from rfl]
  by_cases e1 : c = 46
  · rw [if_pos (by rw [e1]), if_pos (Or.inl e1)]
    rfl
  · rw [if_neg (show ¬ nI c = nI 46 by rw [n16e hc (by omega)]; exact e1)]
    by_cases e2 : c < 65
    · rw [if_pos (show nI c < nI 65 by rw [nI_ltN (by omega) (by omega)]; exact e2), if_neg (show ¬ lfc c by omega)]
      rfl
    · rw [if_neg (show ¬ nI c < nI 65 by rw [nI_ltN (by omega) (by omega)]; exact e2)]
      by_cases e3 : 77 ≤ c
      · rw [if_pos (show nI 77 ≤ nI c by rw [nI_leN (by omega) (by omega)]; exact e3), if_neg (show ¬ lfc c by omega)]
        rfl
      · rw [if_neg (show ¬ nI 77 ≤ nI c by rw [nI_leN (by omega) (by omega)]; exact e3), if_pos (show lfc c by omega)]
        rfl
def tkL (c : Nat) (b : Int32) (T : Nat → Int32) : Nat → Int32 := fun q => if c = 46 ∨ c = 65 + q then T q ||| b else T q
section TL
variable {ra d : Nat} {A S : Nat → Pt} {F T : Nat → Int32}
theorem tl_loop (hra : ra + 9 ≤ 152) (hC : zruleC ra) (hR : zruleR ra) {c : Nat} (hc : c < 65536) {b : Int32} : ∀ dd q fuel M, q + dd = 12 → dd < fuel → cS M ra d A S F (fun t => if t < q then tkL c b T t else T t) →
    ∃ M', fX6_takeLeaf_8L fuel M 152 ra (nI c) b (nI q) = some M' ∧ zq (bfr ra) M M' ∧ cS M' ra d A S F (tkL c b T) ∧ cPt M' 155 (b, b, 0) := by
  intro dd
  induction dd with
  | zero =>
    intro q fuel M hd hf hs
    obtain ⟨f, rfl⟩ : ∃ f, fuel = f + 1 := ⟨fuel - 1, by omega⟩
    have h := hs.1
    have hs' : cS M ra d A S F (tkL c b T) := by
      obtain ⟨a1, a2, a3, a4, a5, a6, a7⟩ := hs
      exact ⟨a1, a2, a3, a4, a5, a6, fun x hx => by rw [a7 x hx]; dsimp only; rw [if_pos (by omega)]⟩
    refine ⟨w3 M 155 (b, b, 0), ?_, w3_q.wk (fun q z => by have := z.1; omega), cS_x hra hs' (Or.inl rfl), w3_e⟩
    show fX6_takeLeaf_8 (fX6_takeLeaf_8L f) M 152 ra (nI c) b (nI q) = _
    unfold fX6_takeLeaf_8
    rw [if_pos (show (12 : Int32) ≤ nI q by rw [show (12 : Int32) = nI 12 from rfl, nI_leN (by omega) (by omega)]; omega), gr_152_2 h, Option.bind_some, zck_f h (by decide) zk_155, Option.bind_some, bc3 h (by decide) zk_155 (Or.inl rfl), Option.bind_some]
  | succ dd ih =>
    intro q fuel M hd hf hs
    obtain ⟨f, rfl⟩ : ∃ f, fuel = f + 1 := ⟨fuel - 1, by omega⟩
    obtain ⟨a1, a2, a3, a4, a5, a6, a7⟩ := hs
    have st : fX6_takeLeaf_8L (f + 1) M 152 ra (nI c) b (nI q) = fX6_takeLeaf_8 (fX6_takeLeaf_8L f) M 152 ra (nI c) b (nI q) := rfl
    rw [st]
    have kt : zsK (ra + 6) = 11 := hC.2.2.2.2.2.2.1
    have lt : zsL (ra + 6) = 12 := hC.2.2.2.2.2.2.2.2.2.2.2.1
    have aq := a7 q (by omega)
    dsimp only at aq
    rw [if_neg (by omega)] at aq
    have h30 : (c = 46 ∨ c = 65 + q) → ∃ M', fX6_takeLeaf_30 (fX6_takeLeaf_8L f) M 152 ra (nI c) b (nI q) = some M' ∧ zq (bfr ra) M M' ∧ cS M' ra d A S F (tkL c b T) ∧ cPt M' 155 (b, b, 0) := by
      intro hcc
      unfold fX6_takeLeaf_30 fX6_takeLeaf_42
      rw [zgR_f a1 (by omega) hC.1 hR.2.2.2.2.1, Option.bind_some, zaI_f a1 (by omega) kt (by rw [lt]; omega), Option.bind_some, aq, zsI_f a1 (by omega) kt (by rw [lt]; omega), Option.bind_some, zlt_e, nI_1]
      have g : ∀ b', b' ≠ ra + 6 → (zwI M (ra + 6) q (T q ||| b)).2.1 b' = M.2.1 b' := fun b' hb => (zq_wI.2 b' hb).1
      obtain ⟨M', g1, g2, g3, g4⟩ := ih (q + 1) f (zwI M (ra + 6) q (T q ||| b)) (by omega) (by omega) ⟨a1, a2, by rw [g _ (by omega)]; exact a3, fun j hj => cPt_mv (g _ (by omega)) (a4 j hj), fun j hj => cPt_mv (g _ (by omega)) (a5 j hj), fun x hx => by rw [g _ (by omega)]; exact a6 x hx, fun x hx => by
        rw [zw_I]
        dsimp only
        by_cases e : x = q
        · rw [if_pos ⟨rfl, e⟩, if_pos (by omega), e]
          unfold tkL
          rw [if_pos hcc]
        · rw [if_neg (fun z => e z.2), a7 x hx]
          dsimp only
          by_cases e2 : x < q
          · rw [if_pos e2, if_pos (by omega)]
          · rw [if_neg e2, if_neg (by omega)]⟩
      exact ⟨M', g1, (zq_wI.wk (fun q z => z.2.2)).tr g2, g3, g4⟩
    unfold fX6_takeLeaf_8
    rw [if_neg (show ¬ (12 : Int32) ≤ nI q by rw [show (12 : Int32) = nI 12 from rfl, nI_leN (by omega) (by omega)]; omega), show (46 : Int32) = nI 46 from rfl, show (65 : Int32) = nI 65 from rfl, nI_add]
    by_cases e1 : c = 46
    · rw [if_pos (by rw [e1])]
      exact h30 (Or.inl e1)
    · rw [if_neg (show ¬ nI c = nI 46 by rw [n16e hc (by omega)]; exact e1)]
      by_cases e2 : c = 65 + q
      · rw [if_pos (by rw [e2])]
        exact h30 (Or.inr e2)
      · rw [if_neg (show ¬ nI c = nI (65 + q) by rw [n16e hc (by omega)]; exact e2)]
        unfold fX6_takeLeaf_42
        rw [zlt_e, nI_1]
        exact ih (q + 1) f M (by omega) (by omega) ⟨a1, a2, a3, a4, a5, a6, fun x hx => by
          rw [a7 x hx]
          dsimp only
          by_cases e : x = q
          · rw [if_neg (by omega), if_pos (by omega), e]
            unfold tkL
            rw [if_neg (fun z => z.elim e1 e2)]
          · by_cases e3 : x < q
            · rw [if_pos e3, if_pos (by omega)]
            · rw [if_neg e3, if_neg (by omega)]⟩
abbrev bit1 (i : Nat) : Int32 := (1 : Int32) <<< (nI i &&& 31)
theorem tl_ok (hra : ra + 9 ≤ 152) (hC : zruleC ra) (hR : zruleR ra) {M : Mem} (hs : cS M ra d A S F T) {i c : Nat} (hc : c < 65536) : ∃ M', fX6_takeLeaf M 152 ra (nI i) (nI c) = some M' ∧ zq (bfr ra) M M' ∧ cS M' ra d A S F (tkL c (bit1 i) T) ∧ cPt M' 155 (bit1 i, bit1 i, 0) := by
  unfold fX6_takeLeaf
  rw [zlt_e]
  refine tl_loop hra hC hR hc 12 0 zFU M (by omega) (by unfold zFU; omega) ?_
  obtain ⟨a1, a2, a3, a4, a5, a6, a7⟩ := hs
  exact ⟨a1, a2, a3, a4, a5, a6, fun x hx => by rw [a7 x hx]; dsimp only; rw [if_neg (by omega)]⟩
/-- endAlternatives() -/
theorem ea_ok (hra : ra + 9 ≤ 152) (hC : zruleC ra) (hR : zruleR ra) {M : Mem} (hs : cS M ra d A S F T) {t : Nat} (ht : t = ra + 3 ∨ t = ra + 4) : ∃ M', fX6_endAlternatives M 152 t = some M' ∧ zq (fun q => bfr ra q ∧ q ≠ t) M M' ∧ cPt M' t (pOr (A d) (S d)) ∧ cS M' ra d (up A d pN) (up S d pE) F T := by
  have hs2 := cS_es hra hs (P := pOr (A d) (S d)) (Q := pE)
  obtain ⟨a1, a2, a3, a4, a5, a6, a7⟩ := hs
  have hces := ces a1 a2 a3 (a4 _ (Nat.le_refl _)) (a5 _ (Nat.le_refl _))
  obtain ⟨M1, hM1⟩ : ∃ M1, M1 = w3 (w3 M (156 + 2 * d) (pOr (A d) (S d))) (157 + 2 * d) pE := ⟨_, rfl⟩
  have hq1 : zq (bfr ra) M M1 := by rw [hM1]; exact (w3_q.wk (fun q z => by have := z.1; omega)).tr (w3_q.wk (fun q z => by have := z.1; omega))
  rw [← hM1] at hces hs2
  have kt : zsK t = 3 := by
    rcases ht with rfl | rfl
    · exact hC.2.2.2.1
    · exact hC.2.2.2.2.1
  have hs3 := cS_x hra hs2 (a := t) (by omega) (P := pOr (A d) (S d))
  have hs4 := cS_es hra hs3 (P := pN) (Q := pE)
  rw [up_up, up_up] at hs4
  obtain ⟨b1, b2, b3, b4, b5, b6, b7⟩ := hs2
  obtain ⟨-, -, k1, k2⟩ := zalt d a2
  have hA := b4 d (Nat.le_refl _)
  rw [up_e] at hA
  obtain ⟨p1, p2, p3⟩ := hA
  obtain ⟨c1, c2, c3, -⟩ := hs3
  have hbl := cbl c1 c2 c3
  refine ⟨_, ?_, (hq1.wk (fun q z => z.1)).tr ((w3_q.wk (fun q z => z.2)).tr ((w3_q.wk (fun q z => by have := z.1.1; omega)).tr (w3_q.wk (fun q z => by have := z.1.1; omega)))), cPt_3 (by omega) (cPt_3 (by omega) w3_e), hs4⟩
  unfold fX6_endAlternatives
  rw [zck_f a1 (by decide) zk_152, Option.bind_some, hces, Option.bind_some, gr_152_0 b1, Option.bind_some, zgI_f b1 (by decide) zk_152, Option.bind_some, b3, ar153 b1 a2, Option.bind_some, zgI_f b1 (by omega) k1, Option.bind_some, p1, zgI_f b1 (by omega) k1, Option.bind_some, p2, zgI_f b1 (by omega) k1, Option.bind_some, p3, zck_f b1 (by omega) kt, Option.bind_some, bc3 b1 (by omega) kt pB_or, Option.bind_some, zck_f c1 (by decide) zk_152, Option.bind_some]
  exact (congrArg (fun z => z.bind (fun M31 => some M31)) hbl).trans rfl
end TL
/-- the class's run from the sign i on -/
def CR (n : Nat) (ch : Nat → Nat) (ra d : Nat) (A S : Nat → Pt) (F T : Nat → Int32) (lk : Nat) (bo : Pt) (i : Nat) (B L : Pt) (F' T' : Nat → Int32) : Prop :=
  ∀ M fu, pat M (ra + 1) n ch → n - i < fu → cS M ra d A S F T → (lk = 0 → cPt M (ra + 4) pE) → (lk = 1 → cPt M (ra + 3) bo) →
    ∃ M', fX6_build_39L fu M 152 ra (if lk = 1 then ra + 4 else ra + 3) (nI i) = some M' ∧ zO M' ∧ zq (fun q => bfr ra q ∧ q ≠ ra + 3 ∧ q ≠ ra + 4) M M' ∧ cPt M' (ra + 3) B ∧ cPt M' (ra + 4) L ∧ (∀ q, q < 24 → M'.2.1 (ra + 5) q = F' q) ∧ (∀ c, c < 12 → M'.2.1 (ra + 6) c = T' c)
section CR
variable {n : Nat} {ch : Nat → Nat} {ra d : Nat} {A S : Nat → Pt} {F T : Nat → Int32} {lk : Nat} {bo : Pt} {i : Nat} {B L : Pt} {F' T' : Nat → Int32}
theorem CR_go (hra : ra + 9 ≤ 152) {d1 : Nat} {A1 S1 : Nat → Pt} {F1 T1 : Nat → Int32} (hi : i < n) (st : ∀ M f t, pat M (ra + 1) n ch → cS M ra d A S F T → ∃ M1, fX6_build_39L (f + 1) M 152 ra t (nI i) = fX6_build_39L f M1 152 ra t (nI (i + 1)) ∧ zq (bfr ra) M M1 ∧ cS M1 ra d1 A1 S1 F1 T1) (h : CR n ch ra d1 A1 S1 F1 T1 lk bo (i + 1) B L F' T') : CR n ch ra d A S F T lk bo i B L F' T' := by
  intro M fu hp hf hs hE hB
  obtain ⟨f, rfl⟩ : ∃ f, fu = f + 1 := ⟨fu - 1, by omega⟩
  obtain ⟨M1, e, hq, hs1⟩ := st M f (if lk = 1 then ra + 4 else ra + 3) hp hs
  obtain ⟨M', g1, g2, g3, g4⟩ := h M1 f (pat_mv (hq.2 _ (by omega)).1 (hq.2 _ (by omega)).1 hp) (by omega) hs1 (fun z => cPt_mv (hq.2 _ (by omega)).1 (hE z)) (fun z => cPt_mv (hq.2 _ (by omega)).1 (hB z))
  exact ⟨M', by rw [e]; exact g1, g2, (hq.wk (fun q z => z.1)).tr g3, g4⟩
theorem zrow_r (hra : ra + 9 ≤ 152) (hC : zruleC ra) (hR : zruleR ra) : zrow (ra + 1) := ⟨by omega, hC.2.1, hR.2.2.2.2.2.2.2, hC.2.2.1⟩
/-- what stands before the choice by the sign -/
theorem bl_hd (hra : ra + 9 ≤ 152) (hC : zruleC ra) (hR : zruleR ra) {M : Mem} {f t : Nat} (h : zO M) (hp : pat M (ra + 1) n ch) (hi : i < n) : fX6_build_39L (f + 1) M 152 ra t (nI i) = (if nI (ch i) = (40 : Int32) then ((zck M 6 152).bind (fun u68 => (fX6_goDeeper M 152).bind (fun M68 => fX6_build_168 (fX6_build_39L f) M68 152 ra t (nI i)))) else (if nI (ch i) = (41 : Int32) then ((zck M 6 152).bind (fun u82 => (fX6_goBack M 152).bind (fun M82 => (zgR M82 5 0 ra).bind (fun v88 => (zck M82 4 v88).bind (fun u94 => (fX4_at M82 v88 (nI (i + 1))).bind (fun r94 => (zck r94.2 6 152).bind (fun u97 => (fX6_addItem r94.2 152 ra r94.1).bind (fun M97 => fX6_build_168 (fX6_build_39L f) M97 152 ra t (nI i))))))))) else (if nI (ch i) = (124 : Int32) then ((zck M 6 152).bind (fun u111 => (fX6_endSequence M 152).bind (fun M111 => fX6_build_168 (fX6_build_39L f) M111 152 ra t (nI i)))) else (if nI (ch i) = (47 : Int32) then ((zck M 6 152).bind (fun u126 => (fX6_endAlternatives M 152 t).bind (fun M126 => (zgR M126 5 2 ra).bind (fun v130 => fX6_build_168 (fX6_build_39L f) M126 152 ra v130 (nI i))))) else ((fX8_isClassLetterOrDot (nI (ch i))).bind (fun v139 => if v139 = 0 then (fX6_build_168 (fX6_build_39L f) M 152 ra t (nI i)) else ((zck M 6 152).bind (fun u150 => (fX6_takeLeaf M 152 ra (nI i) (nI (ch i))).bind (fun M150 => (zgR M150 5 0 ra).bind (fun v156 => (zck M150 4 v156).bind (fun u162 => (fX4_at M150 v156 (nI (i + 1))).bind (fun r162 => (zck r162.2 6 152).bind (fun u165 => (fX6_addItem r162.2 152 ra r162.1).bind (fun M165 => fX6_build_168 (fX6_build_39L f) M165 152 ra t (nI i)))))))))))))) ) := by
  have hn := hp.2.1
  have hat := pat_at h (zrow_r hra hC hR) hC.2.2.2.2.2.2.2.2.2.1 hp (i := i) (by omega)
  unfold sgn at hat
  rw [if_pos hi] at hat
  have st : fX6_build_39L (f + 1) M 152 ra t (nI i) = fX6_build_39 (fX6_build_39L f) M 152 ra t (nI i) := rfl
  rw [st]
  unfold fX6_build_39
  rw [zgR_f h (by omega) hC.1 hR.1, Option.bind_some, zgI_f h (by omega) hC.2.1, Option.bind_some, hp.1, if_neg (show ¬ nI n ≤ nI i by rw [nI_leN (by omega) (by omega)]; omega), Option.bind_some, zck_f h (by omega) hC.2.1, Option.bind_some, hat, Option.bind_some, nI_1]
theorem CR_open (hra : ra + 9 ≤ 152) (hC : zruleC ra) (hR : zruleR ra) (hi : i < n) (hc : ch i = 40) (hd : d < 4) (h : CR n ch ra (d + 1) (up A (d + 1) pN) (up S (d + 1) pE) F T lk bo (i + 1) B L F' T') : CR n ch ra d A S F T lk bo i B L F' T' := by
  refine CR_go hra hi (fun M f t hp hs => ?_) h
  obtain ⟨M1, e, hq, hs1⟩ := c_dp hra hs hd
  refine ⟨M1, ?_, hq, hs1⟩
  rw [bl_hd hra hC hR hs.1 hp hi, if_pos (by rw [hc]; rfl), zck_f hs.1 (by decide) zk_152, Option.bind_some, e, Option.bind_some]
  unfold fX6_build_168
  rw [zlt_e, nI_1]
theorem CR_close (hra : ra + 9 ≤ 152) (hC : zruleC ra) (hR : zruleR ra) (hi : i < n) (hc : ch i = 41) (h : CR n ch ra d A (up S d (pFo (S d) (itE (sgn n ch (i + 1)) (pOr (A (d + 1)) (S (d + 1)))))) (pLk (itF (sgn n ch (i + 1)) F (pOr (A (d + 1)) (S (d + 1)))) (S d).2.1 (itE (sgn n ch (i + 1)) (pOr (A (d + 1)) (S (d + 1)))).1) T lk bo (i + 1) B L F' T') : CR n ch ra (d + 1) A S F T lk bo i B L F' T' := by
  refine CR_go hra hi (fun M f t hp hs => ?_) h
  have hn := hp.2.1
  obtain ⟨M1, e, hq, hs1, hP⟩ := c_bk hra hs
  have hp1 := pat_mv (hq.2 (ra + 1) (by omega)).1 (hq.2 (ra + 1 + 1) (by omega)).1 hp
  have hat := pat_at hs1.1 (zrow_r hra hC hR) hC.2.2.2.2.2.2.2.2.2.1 hp1 (i := i + 1) (by omega)
  obtain ⟨M2, f1, f2, f3⟩ := ai_ok hra hC hR hs1 hP (sgn_16 hp1 (i := i + 1))
  refine ⟨M2, ?_, hq.tr f2, f3⟩
  rw [bl_hd hra hC hR hs.1 hp hi, hc, if_neg (show ¬ nI 41 = (40 : Int32) by decide), if_pos (show nI 41 = (41 : Int32) from rfl), zck_f hs.1 (by decide) zk_152, Option.bind_some, e, Option.bind_some, zgR_f hs1.1 (by omega) hC.1 hR.1, Option.bind_some, zck_f hs1.1 (by omega) hC.2.1, Option.bind_some, hat, Option.bind_some]
  dsimp only
  rw [zck_f hs1.1 (by decide) zk_152, Option.bind_some, f1, Option.bind_some]
  unfold fX6_build_168
  rw [zlt_e, nI_1]
theorem CR_bar (hra : ra + 9 ≤ 152) (hC : zruleC ra) (hR : zruleR ra) (hi : i < n) (hc : ch i = 124) (h : CR n ch ra d (up A d (pOr (A d) (S d))) (up S d pE) F T lk bo (i + 1) B L F' T') : CR n ch ra d A S F T lk bo i B L F' T' := by
  refine CR_go hra hi (fun M f t hp hs => ?_) h
  refine ⟨_, ?_, (w3_q.wk (fun q z => by have := z.1; have := hs.2.1; omega)).tr (w3_q.wk (fun q z => by have := z.1; have := hs.2.1; omega)), cS_es hra hs⟩
  rw [bl_hd hra hC hR hs.1 hp hi, hc, if_neg (show ¬ nI 124 = (40 : Int32) by decide), if_neg (show ¬ nI 124 = (41 : Int32) by decide), if_pos (show nI 124 = (124 : Int32) from rfl), zck_f hs.1 (by decide) zk_152, Option.bind_some, ces hs.1 hs.2.1 hs.2.2.1 (hs.2.2.2.1 _ (Nat.le_refl _)) (hs.2.2.2.2.1 _ (Nat.le_refl _)), Option.bind_some]
  unfold fX6_build_168
  rw [zlt_e, nI_1]
theorem CR_slash (hra : ra + 9 ≤ 152) (hC : zruleC ra) (hR : zruleR ra) (hi : i < n) (hc : ch i = 47) (h : CR n ch ra d (up A d pN) (up S d pE) F T 1 (pOr (A d) (S d)) (i + 1) B L F' T') : CR n ch ra d A S F T 0 bo i B L F' T' := by
  intro M fu hp hf hs hE hB
  obtain ⟨f, rfl⟩ : ∃ f, fu = f + 1 := ⟨fu - 1, by omega⟩
  obtain ⟨M1, e1, e2, e3, e4⟩ := ea_ok hra hC hR hs (t := ra + 3) (Or.inl rfl)
  obtain ⟨M', g1, g2, g3, g4⟩ := h M1 f (pat_mv (e2.2 _ (by omega)).1 (e2.2 _ (by omega)).1 hp) (by omega) e4 (fun z => absurd z (by decide)) (fun _ => e3)
  refine ⟨M', ?_, g2, (e2.wk (fun q z => ⟨z.1, z.2.1⟩)).tr g3, g4⟩
  rw [if_pos rfl] at g1
  rw [if_neg (show ¬ 0 = 1 by decide), bl_hd hra hC hR hs.1 hp hi, hc, if_neg (show ¬ nI 47 = (40 : Int32) by decide), if_neg (show ¬ nI 47 = (41 : Int32) by decide), if_neg (show ¬ nI 47 = (124 : Int32) by decide), if_pos (show nI 47 = (47 : Int32) from rfl), zck_f hs.1 (by decide) zk_152, Option.bind_some, e1, Option.bind_some, zgR_f e4.1 (by omega) hC.1 hR.2.2.1, Option.bind_some]
  unfold fX6_build_168
  rw [zlt_e, nI_1]
  exact g1
theorem CR_leaf (hra : ra + 9 ≤ 152) (hC : zruleC ra) (hR : zruleR ra) (hi : i < n) (hc : lfc (ch i)) (h : CR n ch ra d A (up S d (pFo (S d) (itE (sgn n ch (i + 1)) (bit1 i, bit1 i, 0)))) (pLk (itF (sgn n ch (i + 1)) F (bit1 i, bit1 i, 0)) (S d).2.1 (itE (sgn n ch (i + 1)) (bit1 i, bit1 i, 0)).1) (tkL (ch i) (bit1 i) T) lk bo (i + 1) B L F' T') : CR n ch ra d A S F T lk bo i B L F' T' := by
  refine CR_go hra hi (fun M f t hp hs => ?_) h
  have hn := hp.2.1
  have h16 := (hp.2.2 i hi).2
  obtain ⟨M1, e, hq, hs1, hP⟩ := tl_ok hra hC hR hs (i := i) h16
  have hp1 := pat_mv (hq.2 (ra + 1) (by omega)).1 (hq.2 (ra + 1 + 1) (by omega)).1 hp
  have hat := pat_at hs1.1 (zrow_r hra hC hR) hC.2.2.2.2.2.2.2.2.2.1 hp1 (i := i + 1) (by omega)
  obtain ⟨M2, f1, f2, f3⟩ := ai_ok hra hC hR hs1 hP (sgn_16 hp1 (i := i + 1))
  refine ⟨M2, ?_, hq.tr f2, f3⟩
  rw [bl_hd hra hC hR hs.1 hp hi, if_neg (show ¬ nI (ch i) = (40 : Int32) from nE (x := 40) h16 (by omega) (by omega)), if_neg (show ¬ nI (ch i) = (41 : Int32) from nE (x := 41) h16 (by omega) (by omega)), if_neg (show ¬ nI (ch i) = (124 : Int32) from nE (x := 124) h16 (by omega) (by omega)), if_neg (show ¬ nI (ch i) = (47 : Int32) from nE (x := 47) h16 (by omega) (by omega)), lfd h16, Option.bind_some, if_pos hc, if_neg (show ¬ (1 : Int32) = 0 by decide), zck_f hs.1 (by decide) zk_152, Option.bind_some, e, Option.bind_some, zgR_f hs1.1 (by omega) hC.1 hR.1, Option.bind_some, zck_f hs1.1 (by omega) hC.2.1, Option.bind_some, hat, Option.bind_some]
  dsimp only
  rw [zck_f hs1.1 (by decide) zk_152, Option.bind_some, f1, Option.bind_some]
  unfold fX6_build_168
  rw [zlt_e, nI_1]
theorem CR_rep (hra : ra + 9 ≤ 152) (hC : zruleC ra) (hR : zruleR ra) (hi : i < n) (hc : isr (ch i)) (h : CR n ch ra d A S F T lk bo (i + 1) B L F' T') : CR n ch ra d A S F T lk bo i B L F' T' := by
  refine CR_go hra hi (fun M f t hp hs => ?_) h
  have h16 := (hp.2.2 i hi).2
  refine ⟨M, ?_, zq.rf, hs⟩
  rw [bl_hd hra hC hR hs.1 hp hi, if_neg (show ¬ nI (ch i) = (40 : Int32) from nE (x := 40) h16 (by omega) (by omega)), if_neg (show ¬ nI (ch i) = (41 : Int32) from nE (x := 41) h16 (by omega) (by omega)), if_neg (show ¬ nI (ch i) = (124 : Int32) from nE (x := 124) h16 (by omega) (by omega)), if_neg (show ¬ nI (ch i) = (47 : Int32) from nE (x := 47) h16 (by omega) (by omega)), lfd h16, Option.bind_some, if_neg (show ¬ lfc (ch i) by omega), if_pos rfl]
  unfold fX6_build_168
  rw [zlt_e, nI_1]
theorem CR_end (hra : ra + 9 ≤ 152) (hC : zruleC ra) (hR : zruleR ra) : CR n ch ra 0 A S F T lk bo n (if lk = 1 then bo else pOr (A 0) (S 0)) (if lk = 1 then pOr (A 0) (S 0) else pE) F T ∨ ¬ (lk = 0 ∨ lk = 1) := by
  by_cases hl : lk = 0 ∨ lk = 1
  · left
    intro M fu hp hf hs hE hB
    have hn := hp.2.1
    obtain ⟨f, rfl⟩ : ∃ f, fu = f + 1 := ⟨fu - 1, by omega⟩
    have st : ∀ t, fX6_build_39L (f + 1) M 152 ra t (nI n) = (zck M 6 152).bind (fun u176 => (fX6_endAlternatives M 152 t).bind (fun M176 => some M176)) := fun t => by
      have st1 : fX6_build_39L (f + 1) M 152 ra t (nI n) = fX6_build_39 (fX6_build_39L f) M 152 ra t (nI n) := rfl
      rw [st1]
      unfold fX6_build_39
      rw [zgR_f hs.1 (by omega) hC.1 hR.1, Option.bind_some, zgI_f hs.1 (by omega) hC.2.1, Option.bind_some, hp.1, if_pos (show nI n ≤ nI n by rw [nI_leN (by omega) (by omega)]; omega)]
    rcases hl with rfl | rfl
    · obtain ⟨M', e1, e2, e3, e4⟩ := ea_ok hra hC hR hs (t := ra + 3) (Or.inl rfl)
      refine ⟨M', ?_, e4.1, e2.wk (fun q z => ⟨z.1, z.2.1⟩), ?_, ?_, e4.2.2.2.2.2.1, e4.2.2.2.2.2.2⟩
      · rw [if_neg (show ¬ 0 = 1 by decide), st, zck_f hs.1 (by decide) zk_152, Option.bind_some, e1, Option.bind_some]
      · rw [if_neg (show ¬ 0 = 1 by decide)]; exact e3
      · rw [if_neg (show ¬ 0 = 1 by decide)]; exact cPt_mv (e2.2 _ (by omega)).1 (hE rfl)
    · obtain ⟨M', e1, e2, e3, e4⟩ := ea_ok hra hC hR hs (t := ra + 4) (Or.inr rfl)
      refine ⟨M', ?_, e4.1, e2.wk (fun q z => ⟨z.1, z.2.2⟩), ?_, ?_, e4.2.2.2.2.2.1, e4.2.2.2.2.2.2⟩
      · rw [if_pos rfl, st, zck_f hs.1 (by decide) zk_152, Option.bind_some, e1, Option.bind_some]
      · rw [if_pos rfl]; exact cPt_mv (e2.2 _ (by omega)).1 (hB rfl)
      · rw [if_pos rfl]; exact e3
  · exact Or.inr hl
end CR
