/-! ===== the parts of a rule, as both sides build them ===== -/
abbrev Pt : Type := Int32 × Int32 × Int32
def pE : Pt := (0, 0, 1)
def pN : Pt := (0, 0, 0)
def pOr (a b : Pt) : Pt := (a.1 ||| b.1, a.2.1 ||| b.2.1, if a.2.2 = 0 then (if b.2.2 = 0 then 0 else 1) else 1)
def pFo (a b : Pt) : Pt := (if a.2.2 = 0 then a.1 else a.1 ||| b.1, if b.2.2 = 0 then b.2.1 else a.2.1 ||| b.2.1, if a.2.2 = 0 then 0 else if b.2.2 = 0 then 0 else 1)
def pLk (F : Nat → Int32) (m x : Int32) : Nat → Int32 := fun q => if bt m q = true then F q ||| x else F q
def up {α : Type} (f : Nat → α) (i : Nat) (v : α) : Nat → α := fun j => if j = i then v else f j
theorem up_e {α : Type} {f : Nat → α} {i : Nat} {v : α} : up f i v i = v := by unfold up; rw [if_pos rfl]
theorem up_n {α : Type} {f : Nat → α} {i j : Nat} {v : α} (h : j ≠ i) : up f i v j = f j := by unfold up; rw [if_neg h]
def pB (P : Pt) : Prop := P.2.2 = 0 ∨ P.2.2 = 1
theorem pB_or {a b : Pt} : pB (pOr a b) := by
  unfold pB pOr
  dsimp only
  split
  · split
    · exact Or.inl rfl
    · exact Or.inr rfl
  · exact Or.inr rfl
theorem pB_fo {a b : Pt} : pB (pFo a b) := by
  unfold pB pFo
  dsimp only
  split
  · exact Or.inl rfl
  · split
    · exact Or.inl rfl
    · exact Or.inr rfl
theorem pB_E : pB pE := Or.inr rfl
theorem pB_N : pB pN := Or.inl rfl
def cPt (M : Mem) (a : Nat) (P : Pt) : Prop := M.2.1 a 0 = P.1 ∧ M.2.1 a 1 = P.2.1 ∧ M.2.1 a 2 = P.2.2
def w3 (M : Mem) (a : Nat) (P : Pt) : Mem := zwI (zwI (zwI M a 0 P.1) a 1 P.2.1) a 2 P.2.2
theorem w3_e {M : Mem} {a : Nat} {P : Pt} : cPt (w3 M a P) a P := by
  unfold cPt w3
  simp [zw_I]
theorem w3_n {M : Mem} {a b : Nat} {P : Pt} (h : b ≠ a) : (w3 M a P).2.1 b = M.2.1 b := by
  funext j
  unfold w3
  simp [zw_I, h]
theorem w3_q {M : Mem} {a : Nat} {P : Pt} : zq (fun q => q ≠ a) M (w3 M a P) := zq_wI.tr (zq_wI.tr zq_wI)
theorem w3_O {M : Mem} {a : Nat} {P : Pt} (h : zO M) : zO (w3 M a P) := h
theorem cPt_mv {M M' : Mem} {a : Nat} {P : Pt} (e : M'.2.1 a = M.2.1 a) (h : cPt M a P) : cPt M' a P := by
  unfold cPt at *
  rw [e]
  exact h
theorem cPt_3 {M : Mem} {a b : Nat} {P Q : Pt} (h : b ≠ a) (h2 : cPt M b Q) : cPt (w3 M a P) b Q := cPt_mv (w3_n h) h2
section P3
variable {M : Mem} {a b : Nat} {P Q : Pt}
theorem bc3 (h : zO M) (ha : a < 320) (ka : zsK a = 3) {x y z : Int32} (hz : z = 0 ∨ z = 1) : fX3_become M a x y z = some (w3 M a (x, y, z)) := by
  have h1 : zO (zwI M a 0 x) := h
  have h2 : zO (zwI (zwI M a 0 x) a 1 y) := h
  unfold fX3_become
  rw [zpI_f h ha ka, Option.bind_some, zpI_f h1 ha ka, Option.bind_some, zpZ_f h2 ha ka hz, Option.bind_some]
  rfl
theorem bn3 (h : zO M) (ha : a < 320) (ka : zsK a = 3) : fX3_becomeNothing M a = some (w3 M a pN) := by
  unfold fX3_becomeNothing
  rw [zck_f h ha ka, Option.bind_some, bc3 h ha ka (Or.inl rfl), Option.bind_some]
  rfl
theorem be3 (h : zO M) (ha : a < 320) (ka : zsK a = 3) : fX3_becomeEmpty M a = some (w3 M a pE) := by
  unfold fX3_becomeEmpty
  rw [zck_f h ha ka, Option.bind_some, bc3 h ha ka (Or.inr rfl), Option.bind_some]
  rfl
theorem or3 (h : zO M) (ha : a < 320) (hb : b < 320) (ka : zsK a = 3) (kb : zsK b = 3) (h1 : cPt M a P) (h2 : cPt M b Q) : fX3_orElse M a b = some (w3 M a (pOr P Q)) := by
  obtain ⟨p1, p2, p3⟩ := h1
  obtain ⟨q1, q2, q3⟩ := h2
  unfold fX3_orElse fX3_orElse_33 fX3_orElse_38 pOr
  simp only [zgI_f h ha ka, zgI_f h hb kb, Option.bind_some, p1, p2, p3, q1, q2, q3, zck_f h ha ka, bc3 h ha ka (Or.inl rfl), bc3 h ha ka (Or.inr rfl)]
  by_cases e1 : P.2.2 = 0
  · by_cases e2 : Q.2.2 = 0
    · simp only [if_pos e1, if_pos e2]
    · simp only [if_pos e1, if_neg e2]
  · simp only [if_neg e1]
theorem fo3 (h : zO M) (ha : a < 320) (hb : b < 320) (ka : zsK a = 3) (kb : zsK b = 3) (h1 : cPt M a P) (h2 : cPt M b Q) : fX3_followedBy M a b = some (w3 M a (pFo P Q)) := by
  obtain ⟨p1, p2, p3⟩ := h1
  obtain ⟨q1, q2, q3⟩ := h2
  unfold fX3_followedBy fX3_followedBy_24 fX3_followedBy_47 fX3_followedBy_65 fX3_followedBy_66 pFo
  simp only [zgI_f h ha ka, zgI_f h hb kb, Option.bind_some, p1, p2, p3, q1, q2, q3, zck_f h ha ka, bc3 h ha ka (Or.inl rfl), bc3 h ha ka (Or.inr rfl)]
  by_cases e1 : P.2.2 = 0
  · by_cases e2 : Q.2.2 = 0
    · simp only [if_pos e1, if_pos e2]
    · simp only [if_pos e1, if_neg e2]
  · by_cases e2 : Q.2.2 = 0
    · simp only [if_neg e1, if_pos e2]
    · simp only [if_neg e1, if_neg e2]
end P3
theorem zalt : ∀ j, j < 5 → zR 153 j = some (156 + 2 * j) ∧ zR 154 j = some (157 + 2 * j) ∧ zsK (156 + 2 * j) = 3 ∧ zsK (157 + 2 * j) = 3 := by decide +kernel
theorem ar153 {M : Mem} (h : zO M) {j : Nat} (hj : j < 5) : zaR M 15 153 (nI j) = some (156 + 2 * j) := by
  rw [zaR_f h (by decide) zk_153 (by rw [zl_153]; exact hj)]
  exact h.2 _ _ _ (zalt j hj).1
theorem ar154 {M : Mem} (h : zO M) {j : Nat} (hj : j < 5) : zaR M 15 154 (nI j) = some (157 + 2 * j) := by
  rw [zaR_f h (by decide) zk_154 (by rw [zl_154]; exact hj)]
  exact h.2 _ _ _ (zalt j hj).2.1
section BL
variable {M : Mem} {d : Nat}
theorem cbl (h : zO M) (hd : d < 5) (e : M.2.1 152 3 = nI d) : fX6_beginLevel M 152 = some (w3 (w3 M (156 + 2 * d) pN) (157 + 2 * d) pE) := by
  obtain ⟨-, -, k1, k2⟩ := zalt d hd
  have hA : zO (w3 M (156 + 2 * d) pN) := h
  have e2 : (w3 M (156 + 2 * d) pN).2.1 152 3 = nI d := by rw [w3_n (by omega)]; exact e
  unfold fX6_beginLevel
  rw [gr_152_0 h, Option.bind_some, zgI_f h (by decide) zk_152, Option.bind_some, e, ar153 h hd, Option.bind_some, zck_f h (by omega) k1, Option.bind_some, bn3 h (by omega) k1, Option.bind_some, gr_152_1 hA, Option.bind_some, zgI_f hA (by decide) zk_152, Option.bind_some, e2, ar154 hA hd, Option.bind_some, zck_f hA (by omega) k2, Option.bind_some, be3 hA (by omega) k2, Option.bind_some]
theorem ces (h : zO M) (hd : d < 5) (e : M.2.1 152 3 = nI d) {A S : Pt} (hA : cPt M (156 + 2 * d) A) (hS : cPt M (157 + 2 * d) S) : fX6_endSequence M 152 = some (w3 (w3 M (156 + 2 * d) (pOr A S)) (157 + 2 * d) pE) := by
  obtain ⟨-, -, k1, k2⟩ := zalt d hd
  have hB : zO (w3 M (156 + 2 * d) (pOr A S)) := h
  have e2 : (w3 M (156 + 2 * d) (pOr A S)).2.1 152 3 = nI d := by rw [w3_n (by omega)]; exact e
  unfold fX6_endSequence
  rw [gr_152_0 h, Option.bind_some, zgI_f h (by decide) zk_152, Option.bind_some, e, ar153 h hd, Option.bind_some, gr_152_1 h, Option.bind_some, Option.bind_some, ar154 h hd, Option.bind_some, zck_f h (by omega) k1, Option.bind_some, or3 h (by omega) (by omega) k1 k2 hA hS, Option.bind_some, gr_152_1 hB, Option.bind_some, zgI_f hB (by decide) zk_152, Option.bind_some, e2, ar154 hB hd, Option.bind_some, zck_f hB (by omega) k2, Option.bind_some, be3 hB (by omega) k2, Option.bind_some]
end BL
/-- what the class holds while it builds the rule ra -/
def cS (M : Mem) (ra d : Nat) (A S : Nat → Pt) (F T : Nat → Int32) : Prop :=
  zO M ∧ d < 5 ∧ M.2.1 152 3 = nI d ∧ (∀ j, j ≤ d → cPt M (156 + 2 * j) (A j)) ∧ (∀ j, j ≤ d → cPt M (157 + 2 * j) (S j)) ∧ (∀ q, q < 24 → M.2.1 (ra + 5) q = F q) ∧ (∀ c, c < 12 → M.2.1 (ra + 6) c = T c)
abbrev bfr (ra : Nat) : Nat → Prop := fun q => (q < 152 ∨ 165 < q) ∧ q ≠ ra + 5 ∧ q ≠ ra + 6
section CS
variable {M : Mem} {ra d : Nat} {A S : Nat → Pt} {F T : Nat → Int32}
/-- a cell outside of what is held -/
theorem cS_x (hra : ra + 9 ≤ 152) (hs : cS M ra d A S F T) {a : Nat} (h1 : (a = 155 ∨ a = ra + 3 ∨ a = ra + 4)) {P : Pt} : cS (w3 M a P) ra d A S F T := by
  obtain ⟨a1, a2, a3, a4, a5, a6, a7⟩ := hs
  exact ⟨a1, a2, by rw [w3_n (by omega)]; exact a3, fun j hj => cPt_3 (by omega) (a4 j hj), fun j hj => cPt_3 (by omega) (a5 j hj), fun q hq => by rw [w3_n (by omega)]; exact a6 q hq, fun c hc => by rw [w3_n (by omega)]; exact a7 c hc⟩
theorem cS_es (hra : ra + 9 ≤ 152) (hs : cS M ra d A S F T) {P Q : Pt} : cS (w3 (w3 M (156 + 2 * d) P) (157 + 2 * d) Q) ra d (up A d P) (up S d Q) F T := by
  obtain ⟨a1, a2, a3, a4, a5, a6, a7⟩ := hs
  refine ⟨a1, a2, by rw [w3_n (by omega), w3_n (by omega)]; exact a3, fun j hj => ?_, fun j hj => ?_, fun q hq => by rw [w3_n (by omega), w3_n (by omega)]; exact a6 q hq, fun c hc => by rw [w3_n (by omega), w3_n (by omega)]; exact a7 c hc⟩
  · refine cPt_3 (by omega) ?_
    by_cases e : j = d
    · subst e
      rw [up_e]
      exact w3_e
    · rw [up_n e]
      exact cPt_3 (by omega) (a4 j hj)
  · by_cases e : j = d
    · subst e
      rw [up_e]
      exact w3_e
    · rw [up_n e]
      exact cPt_3 (by omega) (cPt_3 (by omega) (a5 j hj))
/-- "(" -/
theorem c_dp (hra : ra + 9 ≤ 152) (hs : cS M ra d A S F T) (hd : d < 4) : ∃ M', fX6_goDeeper M 152 = some M' ∧ zq (bfr ra) M M' ∧ cS M' ra (d + 1) (up A (d + 1) pN) (up S (d + 1) pE) F T := by
  obtain ⟨a1, a2, a3, a4, a5, a6, a7⟩ := hs
  have h1 : zO (zwI M 152 3 (nI (d + 1))) := a1
  have e1 : (zwI M 152 3 (nI (d + 1))).2.1 152 3 = nI (d + 1) := by rw [zw_I, if_pos ⟨rfl, rfl⟩]
  refine ⟨w3 (w3 (zwI M 152 3 (nI (d + 1))) (156 + 2 * (d + 1)) pN) (157 + 2 * (d + 1)) pE, ?_, (zq_wI.wk (fun q z => by have := z.1; omega)).tr ((w3_q.wk (fun q z => by have := z.1; omega)).tr (w3_q.wk (fun q z => by have := z.1; omega))), ?_⟩
  · unfold fX6_goDeeper
    rw [zgI_f a1 (by decide) zk_152, Option.bind_some, a3, if_neg (show ¬ (4 : Int32) ≤ nI d by rw [show (4 : Int32) = nI 4 from rfl, nI_leN (by omega) (by omega)]; omega), Option.bind_some, nI_1, zpI_f a1 (by decide) zk_152, Option.bind_some, zck_f h1 (by decide) zk_152, Option.bind_some, cbl h1 (by omega) e1, Option.bind_some]
  · have g : ∀ b, b ≠ 152 → (zwI M 152 3 (nI (d + 1))).2.1 b = M.2.1 b := fun b hb => (zq_wI.2 b hb).1
    refine ⟨a1, by omega, by rw [w3_n (by omega), w3_n (by omega)]; exact e1, fun j hj => ?_, fun j hj => ?_, fun q hq => by rw [w3_n (by omega), w3_n (by omega), g _ (by omega)]; exact a6 q hq, fun c hc => by rw [w3_n (by omega), w3_n (by omega), g _ (by omega)]; exact a7 c hc⟩
    · refine cPt_3 (by omega) ?_
      by_cases e : j = d + 1
      · subst e
        rw [up_e]
        exact w3_e
      · rw [up_n e]
        exact cPt_3 (by omega) (cPt_mv (g _ (by omega)) (a4 j (by omega)))
    · by_cases e : j = d + 1
      · subst e
        rw [up_e]
        exact w3_e
      · rw [up_n e]
        exact cPt_3 (by omega) (cPt_3 (by omega) (cPt_mv (g _ (by omega)) (a5 j (by omega))))
/-- ")", up to the item -/
theorem c_bk (hra : ra + 9 ≤ 152) (hs : cS M ra (d + 1) A S F T) : ∃ M', fX6_goBack M 152 = some M' ∧ zq (bfr ra) M M' ∧ cS M' ra d A S F T ∧ cPt M' 155 (pOr (A (d + 1)) (S (d + 1))) := by
  have hs2 := cS_es hra hs (P := pOr (A (d + 1)) (S (d + 1))) (Q := pE)
  obtain ⟨a1, a2, a3, a4, a5, a6, a7⟩ := hs
  have hces := ces a1 a2 a3 (a4 _ (Nat.le_refl _)) (a5 _ (Nat.le_refl _))
  obtain ⟨M1, hM1⟩ : ∃ M1, M1 = w3 (w3 M (156 + 2 * (d + 1)) (pOr (A (d + 1)) (S (d + 1)))) (157 + 2 * (d + 1)) pE := ⟨_, rfl⟩
  have hq1 : zq (bfr ra) M M1 := by rw [hM1]; exact (w3_q.wk (fun q z => by have := z.1; omega)).tr (w3_q.wk (fun q z => by have := z.1; omega))
  have hc1 : ∀ b, b < 152 → M1.2.1 b = M.2.1 b := fun b hb => by rw [hM1, w3_n (by omega), w3_n (by omega)]
  rw [← hM1] at hces hs2
  have hs3 := cS_x hra hs2 (a := 155) (Or.inl rfl) (P := pOr (A (d + 1)) (S (d + 1)))
  obtain ⟨b1, b2, b3, b4, b5, b6, b7⟩ := hs2
  obtain ⟨-, -, k1, k2⟩ := zalt (d + 1) a2
  have hA := b4 (d + 1) (Nat.le_refl _)
  rw [up_e] at hA
  obtain ⟨p1, p2, p3⟩ := hA
  obtain ⟨c1, c2, c3, c4, c5, c6, c7⟩ := hs3
  have g : ∀ b, b ≠ 152 → (zwI (w3 M1 155 (pOr (A (d + 1)) (S (d + 1)))) 152 3 (nI d)).2.1 b = (w3 M1 155 (pOr (A (d + 1)) (S (d + 1)))).2.1 b := fun b hb => (zq_wI.2 b hb).1
  refine ⟨zwI (w3 M1 155 (pOr (A (d + 1)) (S (d + 1)))) 152 3 (nI d), ?_, hq1.tr ((w3_q.wk (fun q z => by have := z.1; omega)).tr (zq_wI.wk (fun q z => by have := z.1; omega))), ?_, ?_⟩
  · unfold fX6_goBack
    rw [zgI_f a1 (by decide) zk_152, Option.bind_some, a3, if_neg (show ¬ nI (d + 1) ≤ 0 by rw [nI_le0 (by omega)]; omega), zck_f a1 (by decide) zk_152, Option.bind_some, hces, Option.bind_some, gr_152_0 b1, Option.bind_some, zgI_f b1 (by decide) zk_152, Option.bind_some, b3, ar153 b1 a2, Option.bind_some, gr_152_2 b1, Option.bind_some, zgI_f b1 (by omega) k1, Option.bind_some, p1, zgI_f b1 (by omega) k1, Option.bind_some, p2, zgI_f b1 (by omega) k1, Option.bind_some, p3, zck_f b1 (by decide) zk_155, Option.bind_some, bc3 b1 (by decide) zk_155 pB_or, Option.bind_some, zgI_f c1 (by decide) zk_152, Option.bind_some, c3, dec1, zpI_f c1 (by decide) zk_152, Option.bind_some]
  · refine ⟨c1, by omega, by rw [zw_I, if_pos ⟨rfl, rfl⟩], fun j hj => ?_, fun j hj => ?_, fun q hq => by rw [g _ (by omega)]; exact c6 q hq, fun c hc => by rw [g _ (by omega)]; exact c7 c hc⟩
    · have := c4 j (by omega)
      rw [up_n (by omega)] at this
      exact cPt_mv (g _ (by omega)) this
    · have := c5 j (by omega)
      rw [up_n (by omega)] at this
      exact cPt_mv (g _ (by omega)) this
  · exact cPt_mv (g _ (by omega)) w3_e
end CS
/-! link() -/
theorem lk_loop {ra : Nat} (hra : ra + 9 ≤ 152) (hC : zruleC ra) (hR : zruleR ra) {m x : Int32} {F : Nat → Int32} : ∀ d q fuel M, q + d = 24 → d < fuel → zO M → (∀ t, t < q → M.2.1 (ra + 5) t = pLk F m x t) → (∀ t, q ≤ t → t < 24 → M.2.1 (ra + 5) t = F t) →
    ∃ M', fX6_link_3L fuel M ra m x (nI q) = some M' ∧ zO M' ∧ zq (fun b => b ≠ ra + 5) M M' ∧ ∀ t, t < 24 → M'.2.1 (ra + 5) t = pLk F m x t := by
  intro d
  induction d with
  | zero =>
    intro q fuel M hd hf h h1 h2
    obtain ⟨f, rfl⟩ : ∃ f, fuel = f + 1 := ⟨fuel - 1, by omega⟩
    refine ⟨M, ?_, h, zq.rf, fun t ht => h1 t (by omega)⟩
    show fX6_link_3 (fX6_link_3L f) M ra m x (nI q) = _
    unfold fX6_link_3
    rw [if_pos (show (24 : Int32) ≤ nI q by rw [show (24 : Int32) = nI 24 from rfl, nI_leN (by omega) (by omega)]; omega)]
  | succ d ih =>
    intro q fuel M hd hf h h1 h2
    obtain ⟨f, rfl⟩ : ∃ f, fuel = f + 1 := ⟨fuel - 1, by omega⟩
    have st : fX6_link_3L (f + 1) M ra m x (nI q) = fX6_link_3 (fX6_link_3L f) M ra m x (nI q) := rfl
    rw [st]
    unfold fX6_link_3 fX6_link_30
    rw [if_neg (show ¬ (24 : Int32) ≤ nI q by rw [show (24 : Int32) = nI 24 from rfl, nI_leN (by omega) (by omega)]; omega), zbit m (by omega)]
    by_cases e : bt m q = true
    · rw [if_pos e, if_neg (show ¬ (1 : Int32) = 0 by decide), zgR_f h (by omega) hC.1 hR.2.2.2.1, Option.bind_some, zaI_f h (by omega) hC.2.2.2.2.2.1 (by rw [hC.2.2.2.2.2.2.2.2.2.2.1]; omega), Option.bind_some, h2 q (Nat.le_refl _) (by omega), zsI_f h (by omega) hC.2.2.2.2.2.1 (by rw [hC.2.2.2.2.2.2.2.2.2.2.1]; omega), Option.bind_some, zlt_e, nI_1]
      obtain ⟨M', g1, g2, g3, g4⟩ := ih (q + 1) f (zwI M (ra + 5) q (F q ||| x)) (by omega) (by omega) h (fun t ht => by
        rw [zw_I]
        by_cases et : t = q
        · rw [if_pos ⟨rfl, et⟩, et]; unfold pLk; rw [if_pos e]
        · rw [if_neg (fun z => et z.2)]; exact h1 t (by omega)) (fun t x1 x2 => by rw [zw_I, if_neg (by omega)]; exact h2 t (by omega) x2)
      exact ⟨M', g1, g2, zq_wI.tr g3, g4⟩
    · rw [if_neg e, if_pos rfl, zlt_e, nI_1]
      exact ih (q + 1) f M (by omega) (by omega) h (fun t ht => by
        by_cases et : t = q
        · rw [et, h2 q (Nat.le_refl _) (by omega)]; unfold pLk; rw [if_neg e]
        · exact h1 t (by omega)) (fun t x1 x2 => h2 t (by omega) x2)
theorem lk_ok {ra : Nat} (hra : ra + 9 ≤ 152) (hC : zruleC ra) (hR : zruleR ra) {m x : Int32} {F : Nat → Int32} {M : Mem} (h : zO M) (hF : ∀ t, t < 24 → M.2.1 (ra + 5) t = F t) : ∃ M', fX6_link M 152 ra m x = some M' ∧ zO M' ∧ zq (fun b => b ≠ ra + 5) M M' ∧ ∀ t, t < 24 → M'.2.1 (ra + 5) t = pLk F m x t := by
  unfold fX6_link
  exact lk_loop hra hC hR 24 0 zFU M (by omega) (by unfold zFU; omega) h (fun t ht => absurd ht (by omega)) (fun t _ ht => hF t ht)
/-- an item that a sign r follows -/
def itE (r : Nat) (P : Pt) : Pt := (P.1, P.2.1, if r = 42 ∨ r = 63 then 1 else P.2.2)
def itF (r : Nat) (F : Nat → Int32) (P : Pt) : Nat → Int32 := if r = 42 ∨ r = 43 then pLk F P.2.1 P.1 else F
section AI
variable {M : Mem} {ra d : Nat} {A S : Nat → Pt} {F T : Nat → Int32}
theorem cS_lk (hra : ra + 9 ≤ 152) (hC : zruleC ra) (hR : zruleR ra) (hs : cS M ra d A S F T) {m x : Int32} {M' : Mem} (h : zO M') (hq : zq (fun b => b ≠ ra + 5) M M') (hF : ∀ t, t < 24 → M'.2.1 (ra + 5) t = pLk F m x t) : cS M' ra d A S (pLk F m x) T := by
  obtain ⟨a1, a2, a3, a4, a5, a6, a7⟩ := hs
  exact ⟨h, a2, by rw [(hq.2 _ (by omega)).1]; exact a3, fun j hj => cPt_mv (hq.2 _ (by omega)).1 (a4 j hj), fun j hj => cPt_mv (hq.2 _ (by omega)).1 (a5 j hj), hF, fun c hc => by rw [(hq.2 _ (by omega)).1]; exact a7 c hc⟩
/-- the end of addItem() -/
theorem ai51 (hra : ra + 9 ≤ 152) (hC : zruleC ra) (hR : zruleR ra) (hs : cS M ra d A S F T) {P : Pt} (hP : cPt M 155 P) : ∃ M', fX6_addItem_51 M 152 ra = some M' ∧ zq (bfr ra) M M' ∧ cS M' ra d A (up S d (pFo (S d) P)) (pLk F (S d).2.1 P.1) T := by
  obtain ⟨a1, a2, a3, a4, a5, a6, a7⟩ := id hs
  obtain ⟨-, -, k1, k2⟩ := zalt d a2
  obtain ⟨s1, s2, s3⟩ := a5 d (Nat.le_refl _)
  obtain ⟨M', g1, g2, g3, g4⟩ := lk_ok hra hC hR (m := (S d).2.1) (x := P.1) a1 a6
  have hs' := cS_lk hra hC hR hs g2 g3 g4
  obtain ⟨b1, b2, b3, b4, b5, b6, b7⟩ := id hs'
  have hP' : cPt M' 155 P := cPt_mv (g3.2 _ (by omega)).1 hP
  refine ⟨w3 M' (157 + 2 * d) (pFo (S d) P), ?_, (g3.wk (fun q z => z.2.1)).tr (w3_q.wk (fun q z => by have := z.1; omega)), ?_⟩
  · unfold fX6_addItem_51
    rw [gr_152_1 a1, Option.bind_some, zgI_f a1 (by decide) zk_152, Option.bind_some, a3, ar154 a1 a2, Option.bind_some, zgI_f a1 (by omega) k2, Option.bind_some, s2, gr_152_2 a1, Option.bind_some, zgI_f a1 (by decide) zk_155, Option.bind_some, hP.1, zck_f a1 (by decide) zk_152, Option.bind_some, g1, Option.bind_some, gr_152_1 b1, Option.bind_some, zgI_f b1 (by decide) zk_152, Option.bind_some, b3, ar154 b1 a2, Option.bind_some, gr_152_2 b1, Option.bind_some, zck_f b1 (by omega) k2, Option.bind_some, fo3 b1 (by omega) (by decide) k2 zk_155 (b5 d (Nat.le_refl _)) hP', Option.bind_some]
  · refine ⟨b1, b2, by rw [w3_n (by omega)]; exact b3, fun j hj => cPt_3 (by omega) (b4 j hj), fun j hj => ?_, fun q hq => by rw [w3_n (by omega)]; exact b6 q hq, fun c hc => by rw [w3_n (by omega)]; exact b7 c hc⟩
    by_cases e : j = d
    · subst e
      rw [up_e]
      exact w3_e
    · rw [up_n e]
      exact cPt_3 (by omega) (b5 j hj)
theorem ai_ok (hra : ra + 9 ≤ 152) (hC : zruleC ra) (hR : zruleR ra) (hs : cS M ra d A S F T) {P : Pt} (hP : cPt M 155 P) {r : Nat} (hr : r < 65536) : ∃ M', fX6_addItem M 152 ra (nI r) = some M' ∧ zq (bfr ra) M M' ∧ cS M' ra d A (up S d (pFo (S d) (itE r P))) (pLk (itF r F P) (S d).2.1 (itE r P).1) T := by
  have n16 : ∀ c, c < 65536 → c ≠ r → ¬ nI r = nI c := fun c hc hne z => hne ((nI_inj16 hr hc z).symm)
  -- behind the first link
  have h31 : ∀ M1 F1, cS M1 ra d A S F1 T → cPt M1 155 P → ∃ M', fX6_addItem_31 M1 152 ra (nI r) = some M' ∧ zq (bfr ra) M1 M' ∧ cS M' ra d A (up S d (pFo (S d) (itE r P))) (pLk F1 (S d).2.1 (itE r P).1) T := by
    intro M1 F1 hs1 hP1
    have h43 : (r = 42 ∨ r = 63) → ∃ M', fX6_addItem_43 M1 152 ra = some M' ∧ zq (bfr ra) M1 M' ∧ cS M' ra d A (up S d (pFo (S d) (itE r P))) (pLk F1 (S d).2.1 (itE r P).1) T := by
      intro hr2
      have hA : zO (zwI M1 155 2 1) := hs1.1
      have hs2 : cS (zwI M1 155 2 1) ra d A S F1 T := by
        have g : ∀ b, b ≠ 155 → (zwI M1 155 2 1).2.1 b = M1.2.1 b := fun b hb => (zq_wI.2 b hb).1
        obtain ⟨a1, a2, a3, a4, a5, a6, a7⟩ := hs1
        exact ⟨a1, a2, by rw [g _ (by omega)]; exact a3, fun j hj => cPt_mv (g _ (by omega)) (a4 j hj), fun j hj => cPt_mv (g _ (by omega)) (a5 j hj), fun q hq => by rw [g _ (by omega)]; exact a6 q hq, fun c hc => by rw [g _ (by omega)]; exact a7 c hc⟩
      have hP2 : cPt (zwI M1 155 2 1) 155 (itE r P) := by
        refine ⟨?_, ?_, ?_⟩
        · rw [zw_I, if_neg (by omega)]; exact hP1.1
        · rw [zw_I, if_neg (by omega)]; exact hP1.2.1
        · rw [zw_I, if_pos ⟨rfl, rfl⟩]
          unfold itE
          dsimp only
          rw [if_pos hr2]
      obtain ⟨M', g1, g2, g3⟩ := ai51 hra hC hR hs2 hP2
      refine ⟨M', ?_, (zq_wI.wk (fun q z => by have := z.1; omega)).tr g2, g3⟩
      unfold fX6_addItem_43
      rw [gr_152_2 hs1.1, Option.bind_some, zpZ_f hs1.1 (by decide) zk_155 (Or.inr rfl), Option.bind_some, g1]
    unfold fX6_addItem_31
    by_cases e1 : r = 42
    · rw [if_pos (show nI r = 42 by rw [e1]; rfl)]
      exact h43 (Or.inl e1)
    · rw [if_neg (show ¬ nI r = (42 : Int32) from n16 42 (by omega) (fun z => e1 z.symm))]
      by_cases e2 : r = 63
      · rw [if_pos (show nI r = 63 by rw [e2]; rfl)]
        exact h43 (Or.inr e2)
      · rw [if_neg (show ¬ nI r = (63 : Int32) from n16 63 (by omega) (fun z => e2 z.symm))]
        have : itE r P = P := by unfold itE; rw [if_neg (fun z => z.elim e1 e2)]
        rw [this]
        exact ai51 hra hC hR hs1 hP1
  have h12 : (r = 42 ∨ r = 43) → ∃ M', fX6_addItem_12 M 152 ra (nI r) = some M' ∧ zq (bfr ra) M M' ∧ cS M' ra d A (up S d (pFo (S d) (itE r P))) (pLk (itF r F P) (S d).2.1 (itE r P).1) T := by
    intro hr2
    obtain ⟨M', g1, g2, g3, g4⟩ := lk_ok hra hC hR (m := P.2.1) (x := P.1) hs.1 hs.2.2.2.2.2.1
    have hs' := cS_lk hra hC hR hs g2 g3 g4
    obtain ⟨M2, f1, f2, f3⟩ := h31 M' _ hs' (cPt_mv (g3.2 _ (by omega)).1 hP)
    refine ⟨M2, ?_, (g3.wk (fun q z => z.2.1)).tr f2, ?_⟩
    · unfold fX6_addItem_12
      rw [gr_152_2 hs.1, Option.bind_some, zgI_f hs.1 (by decide) zk_155, Option.bind_some, hP.2.1, Option.bind_some, zgI_f hs.1 (by decide) zk_155, Option.bind_some, hP.1, zck_f hs.1 (by decide) zk_152, Option.bind_some, g1, Option.bind_some, f1]
    · unfold itF
      rw [if_pos hr2]
      exact f3
  unfold fX6_addItem
  by_cases e1 : r = 42
  · rw [if_pos (show nI r = 42 by rw [e1]; rfl)]
    exact h12 (Or.inl e1)
  · rw [if_neg (show ¬ nI r = (42 : Int32) from n16 42 (by omega) (fun z => e1 z.symm))]
    by_cases e2 : r = 43
    · rw [if_pos (show nI r = 43 by rw [e2]; rfl)]
      exact h12 (Or.inr e2)
    · rw [if_neg (show ¬ nI r = (43 : Int32) from n16 43 (by omega) (fun z => e2 z.symm))]
      have : itF r F P = F := by unfold itF; rw [if_neg (fun z => z.elim e1 e2)]
      rw [this]
      exact h31 M F hs hP
end AI
