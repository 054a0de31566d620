/-! ===== the model reads a pattern ===== -/
theorem zOw {M : Mem} {a k : Nat} {v : Int32} : zO (zwI M a k v) = zO M := rfl
theorem x9 {M : Mem} {k : Nat} (h : zO M) : zgI M 9 k 279 = some (M.2.1 279 k) := zgI_f h (by decide) zk_279
theorem c9 {M : Mem} (h : zO M) : zck M 9 279 = some () := zck_f h (by decide) zk_279
theorem p9 {M : Mem} {k : Nat} {v : Int32} (h : zO M) : zpI M 9 k 279 v = some (zwI M 279 k v) := zpI_f h (by decide) zk_279
theorem pz9 {M : Mem} {k : Nat} {v : Int32} (h : zO M) (hv : v = 0 ∨ v = 1) : zpZ M 9 k 279 v = some (zwI M 279 k v) := zpZ_f h (by decide) zk_279 hv
theorem s283 {M : Mem} {d : Nat} {v : Int32} (h : zO M) (hd : d < 5) : zsI M 283 (nI d) v = some (zwI M 283 d v) := zsI_f h (by decide) zk_283 (by rw [zl_283]; exact hd)
theorem a283 {M : Mem} {d : Nat} (h : zO M) (hd : d < 5) : zaI M 11 283 (nI d) = some (M.2.1 283 d) := zaI_f h (by decide) zk_283 (by rw [zl_283]; exact hd)
theorem s284 {M : Mem} {d : Nat} {v : Int32} (h : zO M) (hd : d < 5) : zsI M 284 (nI d) v = some (zwI M 284 d v) := zsI_f h (by decide) zk_284 (by rw [zl_284]; exact hd)
theorem a284 {M : Mem} {d : Nat} (h : zO M) (hd : d < 5) : zaI M 11 284 (nI d) = some (M.2.1 284 d) := zaI_f h (by decide) zk_284 (by rw [zl_284]; exact hd)
theorem s286 {M : Mem} {d : Nat} {v : Int32} (h : zO M) (hd : d < 5) : zsI M 286 (nI d) v = some (zwI M 286 d v) := zsI_f h (by decide) zk_286 (by rw [zl_286]; exact hd)
theorem a286 {M : Mem} {d : Nat} (h : zO M) (hd : d < 5) : zaI M 11 286 (nI d) = some (M.2.1 286 d) := zaI_f h (by decide) zk_286 (by rw [zl_286]; exact hd)
theorem s287 {M : Mem} {d : Nat} {v : Int32} (h : zO M) (hd : d < 5) : zsI M 287 (nI d) v = some (zwI M 287 d v) := zsI_f h (by decide) zk_287 (by rw [zl_287]; exact hd)
theorem a287 {M : Mem} {d : Nat} (h : zO M) (hd : d < 5) : zaI M 11 287 (nI d) = some (M.2.1 287 d) := zaI_f h (by decide) zk_287 (by rw [zl_287]; exact hd)
theorem s288 {M : Mem} {d : Nat} {v : Int32} (h : zO M) (hd : d < 5) : zsI M 288 (nI d) v = some (zwI M 288 d v) := zsI_f h (by decide) zk_288 (by rw [zl_288]; exact hd)
theorem a288 {M : Mem} {d : Nat} (h : zO M) (hd : d < 5) : zaI M 11 288 (nI d) = some (M.2.1 288 d) := zaI_f h (by decide) zk_288 (by rw [zl_288]; exact hd)
theorem s282 {M : Mem} {d : Nat} {v : Int32} (h : zO M) (hd : d < 5) (hv : v = 0 ∨ v = 1) : zsZ M 282 (nI d) v = some (zwI M 282 d v) := zsZ_f h (by decide) zk_282 (by rw [zl_282]; exact hd) hv
theorem a282 {M : Mem} {d : Nat} (h : zO M) (hd : d < 5) : zaI M 12 282 (nI d) = some (M.2.1 282 d) := zaI_f h (by decide) zk_282 (by rw [zl_282]; exact hd)
theorem s285 {M : Mem} {d : Nat} {v : Int32} (h : zO M) (hd : d < 5) (hv : v = 0 ∨ v = 1) : zsZ M 285 (nI d) v = some (zwI M 285 d v) := zsZ_f h (by decide) zk_285 (by rw [zl_285]; exact hd) hv
theorem a285 {M : Mem} {d : Nat} (h : zO M) (hd : d < 5) : zaI M 12 285 (nI d) = some (M.2.1 285 d) := zaI_f h (by decide) zk_285 (by rw [zl_285]; exact hd)
def mL (M : Mem) (j : Nat) (P Q : Pt) (x : Nat) : Prop := M.2.1 283 j = P.1 ∧ M.2.1 284 j = P.2.1 ∧ M.2.1 282 j = P.2.2 ∧ M.2.1 286 j = Q.1 ∧ M.2.1 287 j = Q.2.1 ∧ M.2.1 285 j = Q.2.2 ∧ M.2.1 288 j = nI x
def mS (M : Mem) (d : Nat) (A S : Nat → Pt) (F : Nat → Int32) (hs : Nat → Nat) : Prop := zO M ∧ d < 5 ∧ M.2.1 279 10 = nI d ∧ (∀ j, j ≤ d → mL M j (A j) (S j) (hs j)) ∧ ∀ q, q < 24 → M.2.1 290 q = F q
def lvl (M M' : Mem) (d : Nat) (P Q : Pt) (x : Nat) : Prop := zq (fun q => ¬ (282 ≤ q ∧ q ≤ 288)) M M' ∧ (∀ j q, j ≠ d → 282 ≤ q → q ≤ 288 → M'.2.1 q j = M.2.1 q j) ∧ mL M' d P Q x
theorem mL_o {M M' : Mem} {d j : Nat} {P Q P' Q' : Pt} {x x' : Nat} (h : lvl M M' d P' Q' x') (hj : j ≠ d) (hl : mL M j P Q x) : mL M' j P Q x := by
  obtain ⟨h1, h2, h3⟩ := h
  unfold mL at *
  rw [h2 j 283 hj (by omega) (by omega), h2 j 284 hj (by omega) (by omega), h2 j 282 hj (by omega) (by omega), h2 j 286 hj (by omega) (by omega), h2 j 287 hj (by omega) (by omega), h2 j 285 hj (by omega) (by omega), h2 j 288 hj (by omega) (by omega)]
  exact hl
theorem mS_l {M M' : Mem} {d : Nat} {A S : Nat → Pt} {F : Nat → Int32} {hs : Nat → Nat} {P Q : Pt} {x : Nat} (hS : mS M d A S F hs) (hz : zO M') (h : lvl M M' d P Q x) : mS M' d (up A d P) (up S d Q) F (up hs d x) := by
  obtain ⟨a1, a2, a3, a4, a5⟩ := hS
  refine ⟨hz, a2, by rw [(h.1.2 279 (by omega)).1]; exact a3, fun j hj => ?_, fun q hq => by rw [(h.1.2 290 (by omega)).1]; exact a5 q hq⟩
  by_cases e : j = d
  · subst e
    rw [up_e, up_e, up_e]
    exact h.2.2
  · rw [up_n e, up_n e, up_n e]
    exact mL_o h e (a4 j hj)
theorem up_id {α : Type} {f : Nat → α} {i : Nat} : up f i (f i) = f := by
  funext j
  unfold up
  by_cases e : j = i
  · rw [if_pos e, e]
  · rw [if_neg e]
def mf1 (M M' : Mem) : Prop := zq (fun q => q ≠ 279 ∧ ¬ (282 ≤ q ∧ q ≤ 288) ∧ q ≠ 290) M M' ∧ ∀ j, (j < 10 ∨ 13 < j) → M'.2.1 279 j = M.2.1 279 j
theorem mf1.tr {M M' M'' : Mem} (h : mf1 M M') (h2 : mf1 M' M'') : mf1 M M'' := ⟨h.1.tr h2.1, fun j hj => (h2.2 j hj).trans (h.2 j hj)⟩
theorem mf1_l {M M' : Mem} {d : Nat} {P Q : Pt} {x : Nat} (h : lvl M M' d P Q x) : mf1 M M' := ⟨h.1.wk (fun q z => z.2.1), fun j _ => by rw [(h.1.2 279 (by omega)).1]⟩
section OPS
variable {M : Mem} {d : Nat}
theorem osq (h : zO M) (hd : d < 5) (e : M.2.1 279 10 = nI d) : ∃ M', fX9_openSequence M 279 = some M' ∧ zO M' ∧ lvl M M' d (M.2.1 283 d, M.2.1 284 d, M.2.1 282 d) pE 0 := by
  refine ⟨zwI (zwI (zwI (zwI M 285 d 1) 286 d 0) 287 d 0) 288 d 0, ?_, h, ?_, ?_, ?_⟩
  · unfold fX9_openSequence
    have h1 : zO (zwI M 285 d 1) := h
    have h2 : zO (zwI (zwI M 285 d 1) 286 d 0) := h
    have h3 : zO (zwI (zwI (zwI M 285 d 1) 286 d 0) 287 d 0) := h
    have e1 : (zwI M 285 d 1).2.1 279 10 = nI d := by simp [zw_I, e]
    have e2 : (zwI (zwI M 285 d 1) 286 d 0).2.1 279 10 = nI d := by simp [zw_I, e]
    have e3 : (zwI (zwI (zwI M 285 d 1) 286 d 0) 287 d 0).2.1 279 10 = nI d := by simp [zw_I, e]
    rw [gr_279_6 h, Option.bind_some, x9 h, Option.bind_some, e, s285 h hd (Or.inr rfl), Option.bind_some, gr_279_7 h1, Option.bind_some, x9 h1, Option.bind_some, e1, s286 h1 hd, Option.bind_some, gr_279_8 h2, Option.bind_some, x9 h2, Option.bind_some, e2, s287 h2 hd, Option.bind_some, gr_279_9 h3, Option.bind_some, x9 h3, Option.bind_some, e3, s288 h3 hd, Option.bind_some]
  · exact (zq_wI.wk (fun q z => by omega)).tr ((zq_wI.wk (fun q z => by omega)).tr ((zq_wI.wk (fun q z => by omega)).tr (zq_wI.wk (fun q z => by omega))))
  · intro j q hj h1 h2
    simp [zw_I, hj]
  · unfold mL
    simp [zw_I, pE]
    rfl
theorem oal (h : zO M) (hd : d < 5) (e : M.2.1 279 10 = nI d) : ∃ M', fX9_openAlternatives M 279 = some M' ∧ zO M' ∧ lvl M M' d pN pE 0 := by
  have hA : zO (zwI (zwI (zwI M 282 d 0) 283 d 0) 284 d 0) := h
  obtain ⟨M', g1, g2, g3, g4, g5⟩ := osq (M := zwI (zwI (zwI M 282 d 0) 283 d 0) 284 d 0) hA hd (by simp [zw_I, e])
  refine ⟨M', ?_, g2, ?_, ?_, ?_⟩
  · unfold fX9_openAlternatives
    have h1 : zO (zwI M 282 d 0) := h
    have h2 : zO (zwI (zwI M 282 d 0) 283 d 0) := h
    have e1 : (zwI M 282 d 0).2.1 279 10 = nI d := by simp [zw_I, e]
    have e2 : (zwI (zwI M 282 d 0) 283 d 0).2.1 279 10 = nI d := by simp [zw_I, e]
    rw [gr_279_3 h, Option.bind_some, x9 h, Option.bind_some, e, s282 h hd (Or.inl rfl), Option.bind_some, gr_279_4 h1, Option.bind_some, x9 h1, Option.bind_some, e1, s283 h1 hd, Option.bind_some, gr_279_5 h2, Option.bind_some, x9 h2, Option.bind_some, e2, s284 h2 hd, Option.bind_some, c9 hA, Option.bind_some, g1, Option.bind_some]
  · exact ((zq_wI.wk (fun q z => by omega)).tr ((zq_wI.wk (fun q z => by omega)).tr (zq_wI.wk (fun q z => by omega)))).tr g3
  · intro j q hj h1 h2
    rw [g4 j q hj h1 h2]
    simp [zw_I, hj]
  · simp [zw_I] at g5
    exact g5
theorem csq (h : zO M) (hd : d < 5) (e : M.2.1 279 10 = nI d) {P Q : Pt} {x : Nat} (hl : mL M d P Q x) : ∃ M', fX9_closeSequence M 279 = some M' ∧ zO M' ∧ lvl M M' d (pOr P Q) Q x := by
  obtain ⟨p1, p2, p3, q1, q2, q3, q4⟩ := hl
  have h37 : ∀ y : Int32, (y = 0 ∨ y = 1) → fX9_closeSequence_37 M 279 282 (nI d) y = some (zwI (zwI (zwI M 282 d y) 283 d (P.1 ||| Q.1)) 284 d (P.2.1 ||| Q.2.1)) := by
    intro y hy
    unfold fX9_closeSequence_37
    have h1 : zO (zwI M 282 d y) := h
    have h2 : zO (zwI (zwI M 282 d y) 283 d (P.1 ||| Q.1)) := h
    have e1 : (zwI M 282 d y).2.1 279 10 = nI d := by simp [zw_I, e]
    have e2 : (zwI (zwI M 282 d y) 283 d (P.1 ||| Q.1)).2.1 279 10 = nI d := by simp [zw_I, e]
    have e3 : (zwI M 282 d y).2.1 283 d = P.1 := by simp [zw_I, p1]
    have e4 : (zwI M 282 d y).2.1 286 d = Q.1 := by simp [zw_I, q1]
    have e5 : (zwI (zwI M 282 d y) 283 d (P.1 ||| Q.1)).2.1 284 d = P.2.1 := by simp [zw_I, p2]
    have e6 : (zwI (zwI M 282 d y) 283 d (P.1 ||| Q.1)).2.1 287 d = Q.2.1 := by simp [zw_I, q2]
    rw [s282 h hd hy, Option.bind_some, gr_279_4 h1, Option.bind_some, x9 h1, Option.bind_some, e1, a283 h1 hd, Option.bind_some, e3, gr_279_7 h1, Option.bind_some, Option.bind_some, a286 h1 hd, Option.bind_some, e4, s283 h1 hd, Option.bind_some, gr_279_5 h2, Option.bind_some, x9 h2, Option.bind_some, e2, a284 h2 hd, Option.bind_some, e5, gr_279_8 h2, Option.bind_some, Option.bind_some, a287 h2 hd, Option.bind_some, e6, s284 h2 hd, Option.bind_some]
  refine ⟨zwI (zwI (zwI M 282 d (pOr P Q).2.2) 283 d (P.1 ||| Q.1)) 284 d (P.2.1 ||| Q.2.1), ?_, h, ?_, ?_, ?_⟩
  · unfold fX9_closeSequence fX9_closeSequence_32
    rw [gr_279_3 h, Option.bind_some, x9 h, Option.bind_some, e, Option.bind_some, Option.bind_some, a282 h hd, Option.bind_some, p3, gr_279_6 h, Option.bind_some, Option.bind_some, a285 h hd, Option.bind_some, q3, h37 0 (Or.inl rfl), h37 1 (Or.inr rfl)]
    unfold pOr
    dsimp only
    by_cases e1 : P.2.2 = 0
    · by_cases e2 : Q.2.2 = 0
      · rw [if_pos e1, if_pos e2, if_pos e1, if_pos e2]
      · rw [if_pos e1, if_neg e2, if_pos e1, if_neg e2]
    · rw [if_neg e1, if_neg e1]
  · exact (zq_wI.wk (fun q z => by omega)).tr ((zq_wI.wk (fun q z => by omega)).tr (zq_wI.wk (fun q z => by omega)))
  · intro j q hj h1 h2
    simp [zw_I, hj]
  · unfold mL
    simp [zw_I, q1, q2, q3, q4]
    exact ⟨rfl, rfl⟩
end OPS
/-! follows() -/
theorem or_0 (x : Int32) : x ||| 0 = x := by
  apply b_ext
  intro i _
  rw [b_or, b_0, Bool.or_false]
theorem or_c (x y : Int32) : x ||| y = y ||| x := by
  apply b_ext
  intro i _
  rw [b_or, b_or, Bool.or_comm]
theorem fw_loop {m x : Int32} {F : Nat → Int32} : ∀ d q fuel M, q + d = 24 → d < fuel → zO M → (∀ t, t < q → M.2.1 290 t = pLk F m x t) → (∀ t, q ≤ t → t < 24 → M.2.1 290 t = F t) →
    ∃ M', fX9_follows_2L fuel M 279 m x (nI q) = some M' ∧ zO M' ∧ zq (fun b => b ≠ 290) M M' ∧ ∀ t, t < 24 → M'.2.1 290 t = pLk F m x t := by
  intro d
  induction d with
  | zero =>
    intro q fuel M hd hf h h1 h2
    obtain ⟨f, rfl⟩ : ∃ f, fuel = f + 1 := ⟨fuel - 1, by omega⟩
    refine ⟨M, ?_, h, zq.rf, fun t ht => h1 t (by omega)⟩
    show fX9_follows_2 (fX9_follows_2L f) M 279 m x (nI q) = _
    unfold fX9_follows_2
    rw [if_pos (show (24 : Int32) ≤ nI q by rw [show (24 : Int32) = nI 24 from rfl, nI_leN (by omega) (by omega)]; omega)]
  | succ d ih =>
    intro q fuel M hd hf h h1 h2
    obtain ⟨f, rfl⟩ : ∃ f, fuel = f + 1 := ⟨fuel - 1, by omega⟩
    have st : fX9_follows_2L (f + 1) M 279 m x (nI q) = fX9_follows_2 (fX9_follows_2L f) M 279 m x (nI q) := rfl
    rw [st]
    have go : ∀ y, F q ||| y = pLk F m x q → ∃ M', fX9_follows_29 (fX9_follows_2L f) M 279 m x (nI q) 290 (nI q) (F q) y = some M' ∧ zO M' ∧ zq (fun b => b ≠ 290) M M' ∧ ∀ t, t < 24 → M'.2.1 290 t = pLk F m x t := by
      intro y hy
      unfold fX9_follows_29
      rw [zsI_f h (by decide) zk_290 (by rw [zl_290]; omega), Option.bind_some, zlt_e, nI_1]
      obtain ⟨M', g1, g2, g3, g4⟩ := ih (q + 1) f (zwI M 290 q (F q ||| y)) (by omega) (by omega) h (fun t ht => by
        rw [zw_I]
        by_cases et : t = q
        · rw [if_pos ⟨rfl, et⟩, et]; exact hy
        · rw [if_neg (fun z => et z.2)]; exact h1 t (by omega)) (fun t x1 x2 => by rw [zw_I, if_neg (by omega)]; exact h2 t (by omega) x2)
      exact ⟨M', g1, g2, zq_wI.tr g3, g4⟩
    unfold fX9_follows_2
    rw [if_neg (show ¬ (24 : Int32) ≤ nI q by rw [show (24 : Int32) = nI 24 from rfl, nI_leN (by omega) (by omega)]; omega), gr_279_15 h, Option.bind_some, zaI_f h (by decide) zk_290 (by rw [zl_290]; omega), Option.bind_some, h2 q (Nat.le_refl _) (by omega), zbit m (by omega)]
    by_cases e : bt m q = true
    · rw [if_pos e, if_pos rfl]
      exact go x (by unfold pLk; rw [if_pos e])
    · rw [if_neg e, if_neg (show ¬ (0 : Int32) = 1 by decide)]
      exact go 0 (by unfold pLk; rw [if_neg e, or_0])
theorem fw_ok {m x : Int32} {F : Nat → Int32} {M : Mem} (h : zO M) (hF : ∀ t, t < 24 → M.2.1 290 t = F t) : ∃ M', fX9_follows M 279 m x = some M' ∧ zO M' ∧ zq (fun b => b ≠ 290) M M' ∧ ∀ t, t < 24 → M'.2.1 290 t = pLk F m x t := by
  unfold fX9_follows
  exact fw_loop 24 0 zFU M (by omega) (by unfold zFU; omega) h (fun t ht => absurd ht (by omega)) (fun t _ ht => hF t ht)
def mIt (M : Mem) (P : Pt) : Prop := M.2.1 279 12 = P.1 ∧ M.2.1 279 13 = P.2.1 ∧ M.2.1 279 11 = P.2.2
theorem mIt_mv {M M' : Mem} {P : Pt} (e : M'.2.1 279 = M.2.1 279) (h : mIt M P) : mIt M' P := by
  unfold mIt at *
  rw [e]
  exact h
section MI
variable {M : Mem} {d : Nat} {A S : Nat → Pt} {F : Nat → Int32} {hs : Nat → Nat}
theorem mS_fw (hS : mS M d A S F hs) {m x : Int32} {M' : Mem} (h : zO M') (hq : zq (fun b => b ≠ 290) M M') (hF : ∀ t, t < 24 → M'.2.1 290 t = pLk F m x t) : mS M' d A S (pLk F m x) hs := by
  obtain ⟨a1, a2, a3, a4, a5⟩ := hS
  refine ⟨h, a2, by rw [(hq.2 279 (by omega)).1]; exact a3, fun j hj => ?_, hF⟩
  have := a4 j hj
  unfold mL at *
  rw [(hq.2 283 (by omega)).1, (hq.2 284 (by omega)).1, (hq.2 282 (by omega)).1, (hq.2 286 (by omega)).1, (hq.2 287 (by omega)).1, (hq.2 285 (by omega)).1, (hq.2 288 (by omega)).1]
  exact this
theorem adi (hS : mS M d A S F hs) {P : Pt} (hP : mIt M P) : ∃ M', fX9_addItem M 279 = some M' ∧ mf1 M M' ∧ mS M' d A (up S d (pFo (S d) P)) (pLk F (S d).2.1 P.1) (up hs d (hs d + 1)) := by
  obtain ⟨a1, a2, a3, a4, a5⟩ := id hS
  obtain ⟨-, -, -, -, u2, -, -⟩ := a4 d (Nat.le_refl _)
  obtain ⟨M1, g1, g2, g3, g4⟩ := fw_ok (m := (S d).2.1) (x := P.1) a1 a5
  have hS1 := mS_fw hS g2 g3 g4
  obtain ⟨i1, i2, i3⟩ := mIt_mv (g3.2 279 (by omega)).1 hP
  obtain ⟨b1, b2, b3, b4, b5⟩ := id hS1
  obtain ⟨p1, p2, p3, q1, q2, q3, q4⟩ := b4 d (Nat.le_refl _)
  -- the end, from the null flag on
  have h81 : ∀ y, P.2.1 ||| y = (pFo (S d) P).2.1 → fX9_addItem_81 (zwI M1 286 d (pFo (S d) P).1) 279 287 (nI d) P.2.1 y = some (zwI (zwI (zwI (zwI M1 286 d (pFo (S d) P).1) 287 d (pFo (S d) P).2.1) 285 d (pFo (S d) P).2.2) 288 d (nI (hs d + 1))) := by
    intro y hy
    have h115 : ∀ z : Int32, (z = 0 ∨ z = 1) → fX9_addItem_115 (zwI (zwI M1 286 d (pFo (S d) P).1) 287 d (pFo (S d) P).2.1) 279 285 (nI d) z = some (zwI (zwI (zwI (zwI M1 286 d (pFo (S d) P).1) 287 d (pFo (S d) P).2.1) 285 d z) 288 d (nI (hs d + 1))) := by
      intro z hz
      unfold fX9_addItem_115
      have h1 : zO (zwI (zwI M1 286 d (pFo (S d) P).1) 287 d (pFo (S d) P).2.1) := b1
      have h2 : zO (zwI (zwI (zwI M1 286 d (pFo (S d) P).1) 287 d (pFo (S d) P).2.1) 285 d z) := b1
      have e1 : (zwI (zwI (zwI M1 286 d (pFo (S d) P).1) 287 d (pFo (S d) P).2.1) 285 d z).2.1 279 10 = nI d := by simp [zw_I, b3]
      have e2 : (zwI (zwI (zwI M1 286 d (pFo (S d) P).1) 287 d (pFo (S d) P).2.1) 285 d z).2.1 288 d = nI (hs d) := by simp [zw_I, q4]
      rw [s285 h1 b2 hz, Option.bind_some, gr_279_9 h2, Option.bind_some, x9 h2, Option.bind_some, e1, a288 h2 b2, Option.bind_some, e2, nI_1, s288 h2 b2, Option.bind_some]
    have hB : zO (zwI (zwI M1 286 d (pFo (S d) P).1) 287 d (pFo (S d) P).2.1) := b1
    have hA : zO (zwI M1 286 d (pFo (S d) P).1) := b1
    have e1 : (zwI (zwI M1 286 d (pFo (S d) P).1) 287 d (pFo (S d) P).2.1).2.1 279 10 = nI d := by simp [zw_I, b3]
    have e2 : (zwI (zwI M1 286 d (pFo (S d) P).1) 287 d (pFo (S d) P).2.1).2.1 285 d = (S d).2.2 := by simp [zw_I, q3]
    have e3 : (zwI (zwI M1 286 d (pFo (S d) P).1) 287 d (pFo (S d) P).2.1).2.1 279 11 = P.2.2 := by simp [zw_I, i3]
    unfold fX9_addItem_81 fX9_addItem_114
    rw [s287 hA b2, Option.bind_some, hy, gr_279_6 hB, Option.bind_some, x9 hB, Option.bind_some, e1, Option.bind_some, Option.bind_some, a285 hB b2, Option.bind_some, e2, x9 hB, Option.bind_some, e3, h115 0 (Or.inl rfl), h115 1 (Or.inr rfl)]
    have e4 : (pFo (S d) P).2.2 = if (S d).2.2 = 0 then 0 else if P.2.2 = 0 then 0 else 1 := rfl
    rw [e4]
    by_cases z1 : (S d).2.2 = 0
    · rw [if_pos z1, if_pos z1]
    · rw [if_neg z1, if_neg z1]
      by_cases z2 : P.2.2 = 0
      · rw [if_pos z2, if_pos z2]
      · rw [if_neg z2, if_neg z2]
  have h47 : ∀ y, (S d).1 ||| y = (pFo (S d) P).1 → fX9_addItem_47 M1 279 286 (nI d) (S d).1 y = some (zwI (zwI (zwI (zwI M1 286 d (pFo (S d) P).1) 287 d (pFo (S d) P).2.1) 285 d (pFo (S d) P).2.2) 288 d (nI (hs d + 1))) := by
    intro y hy
    have hA : zO (zwI M1 286 d (pFo (S d) P).1) := b1
    have e1 : (zwI M1 286 d (pFo (S d) P).1).2.1 279 10 = nI d := by simp [zw_I, b3]
    have e2 : (zwI M1 286 d (pFo (S d) P).1).2.1 279 13 = P.2.1 := by simp [zw_I, i2]
    have e3 : (zwI M1 286 d (pFo (S d) P).1).2.1 279 11 = P.2.2 := by simp [zw_I, i3]
    have e5 : (zwI M1 286 d (pFo (S d) P).1).2.1 287 d = (S d).2.1 := by simp [zw_I, q2]
    unfold fX9_addItem_47
    rw [s286 b1 b2, Option.bind_some, hy, gr_279_8 hA, Option.bind_some, x9 hA, Option.bind_some, e1, x9 hA, Option.bind_some, e2, x9 hA, Option.bind_some, e3]
    have e4 : (pFo (S d) P).2.1 = if P.2.2 = 0 then P.2.1 else (S d).2.1 ||| P.2.1 := rfl
    by_cases z2 : P.2.2 = 0
    · rw [if_pos z2, h81 0 (by rw [e4, if_pos z2, or_0])]
    · rw [if_neg z2, Option.bind_some, Option.bind_some, a287 hA b2, Option.bind_some, e5, h81 (S d).2.1 (by rw [e4, if_neg z2, or_c])]
  have hl : lvl M1 (zwI (zwI (zwI (zwI M1 286 d (pFo (S d) P).1) 287 d (pFo (S d) P).2.1) 285 d (pFo (S d) P).2.2) 288 d (nI (hs d + 1))) d (A d) (pFo (S d) P) (hs d + 1) := by
    refine ⟨(zq_wI.wk (fun q z => by omega)).tr ((zq_wI.wk (fun q z => by omega)).tr ((zq_wI.wk (fun q z => by omega)).tr (zq_wI.wk (fun q z => by omega)))), fun j q hj h1 h2 => by simp [zw_I, hj], ?_⟩
    unfold mL
    simp [zw_I, p1, p2, p3]
  refine ⟨_, ?_, mf1.tr ⟨g3.wk (fun q z => z.2.2), fun j _ => by rw [(g3.2 279 (by omega)).1]⟩ (mf1_l hl), ?_⟩
  · unfold fX9_addItem
    rw [gr_279_8 a1, Option.bind_some, x9 a1, Option.bind_some, a3, a287 a1 a2, Option.bind_some, u2, x9 a1, Option.bind_some, hP.1, c9 a1, Option.bind_some, g1, Option.bind_some, gr_279_7 b1, Option.bind_some, x9 b1, Option.bind_some, b3, a286 b1 b2, Option.bind_some, q1, gr_279_6 b1, Option.bind_some, Option.bind_some, a285 b1 b2, Option.bind_some, q3, x9 b1, Option.bind_some, i1]
    have e4 : (pFo (S d) P).1 = if (S d).2.2 = 0 then (S d).1 else (S d).1 ||| P.1 := rfl
    by_cases z1 : (S d).2.2 = 0
    · rw [if_pos z1, h47 0 (by rw [e4, if_pos z1, or_0])]
    · rw [if_neg z1, h47 P.1 (by rw [e4, if_neg z1])]
  · have := mS_l hS1 (M' := zwI (zwI (zwI (zwI M1 286 d (pFo (S d) P).1) 287 d (pFo (S d) P).2.1) 285 d (pFo (S d) P).2.2) 288 d (nI (hs d + 1))) b1 hl
    rw [up_id] at this
    exact this
def mpat (M : Mem) (n : Nat) (ch : Nat → Nat) : Prop := M.2.1 279 1 = nI n ∧ n ≤ 24 ∧ ∀ j, j < n → M.2.1 281 j = nI (ch j) ∧ ch j < 65536
def nx (n : Nat) (ch : Nat → Nat) (p : Nat) : Nat := if p < n ∧ isr (ch p) then p + 1 else p
theorem mS_9 (hS : mS M d A S F hs) {k : Nat} (hk : k ≠ 10) {v : Int32} : mS (zwI M 279 k v) d A S F hs := by
  obtain ⟨a1, a2, a3, a4, a5⟩ := hS
  have g : ∀ b, b ≠ 279 → (zwI M 279 k v).2.1 b = M.2.1 b := fun b hb => (zq_wI.2 b hb).1
  refine ⟨a1, a2, by rw [zw_I, if_neg (fun z => hk z.2.symm)]; exact a3, fun j hj => ?_, fun q hq => by rw [g _ (by omega)]; exact a5 q hq⟩
  have := a4 j hj
  unfold mL at *
  rw [g 283 (by omega), g 284 (by omega), g 282 (by omega), g 286 (by omega), g 287 (by omega), g 285 (by omega), g 288 (by omega)]
  exact this
theorem ei_ok (hS : mS M d A S F hs) {P : Pt} (hP : mIt M P) (hB : pB P) {n : Nat} {ch : Nat → Nat} (hp : mpat M n ch) {p : Nat} (hpn : p ≤ n) : ∃ M', fX9_endItem M 279 (nI p) = some (nI (nx n ch p), M') ∧ mf1 M M' ∧ mS M' d A (up S d (pFo (S d) (itE (sgn n ch p) P))) (pLk (itF (sgn n ch p) F P) (S d).2.1 (itE (sgn n ch p) P).1) (up hs d (hs d + 1)) := by
  have hn := hp.2.1
  have h := hS.1
  -- no sign of repetition
  have h0 : ¬ (p < n ∧ isr (ch p)) → ∃ M', fX9_endItem_76 M 279 (nI p) = some (nI (nx n ch p), M') ∧ mf1 M M' ∧ mS M' d A (up S d (pFo (S d) (itE (sgn n ch p) P))) (pLk (itF (sgn n ch p) F P) (S d).2.1 (itE (sgn n ch p) P).1) (up hs d (hs d + 1)) := by
    intro hno
    have e1 : nx n ch p = p := by unfold nx; rw [if_neg hno]
    have hsg : ¬ isr (sgn n ch p) := by
      unfold sgn
      by_cases z : p < n
      · rw [if_pos z]; exact fun y => hno ⟨z, y⟩
      · rw [if_neg z]; omega
    have e2 : itE (sgn n ch p) P = P := by unfold itE; rw [if_neg (by omega)]
    have e3 : itF (sgn n ch p) F P = F := by unfold itF; rw [if_neg (by omega)]
    rw [e1, e2, e3]
    obtain ⟨M', g1, g2, g3⟩ := adi hS hP
    refine ⟨M', ?_, g2, g3⟩
    unfold fX9_endItem_76
    rw [c9 h, Option.bind_some, g1, Option.bind_some]
  unfold fX9_endItem
  rw [x9 h, Option.bind_some, hp.1]
  by_cases hpl : p = n
  · rw [if_pos (show nI n ≤ nI p by rw [nI_leN (by omega) (by omega)]; omega)]
    exact h0 (fun z => by omega)
  · have hlt : p < n := by omega
    obtain ⟨c1, c2⟩ := hp.2.2 p hlt
    rw [if_neg (show ¬ nI n ≤ nI p by rw [nI_leN (by omega) (by omega)]; omega), gr_279_2 h, Option.bind_some, zaI_f h (by decide) zk_281 (by rw [zl_281]; omega), Option.bind_some, c1, isr9 c2, Option.bind_some]
    by_cases hr : isr (ch p)
    · have e1 : nx n ch p = p + 1 := by unfold nx; rw [if_pos ⟨hlt, hr⟩]
      have es : sgn n ch p = ch p := by unfold sgn; rw [if_pos hlt]
      rw [if_pos hr, if_neg (show ¬ (1 : Int32) = 0 by decide), Option.bind_some, zaI_f h (by decide) zk_281 (by rw [zl_281]; omega), Option.bind_some, c1, e1, es]
      -- behind the link
      have h45 : ∀ M1 F1, zq (fun q => q ≠ 290) M M1 → mS M1 d A S F1 hs → ∃ M', fX9_endItem_45 M1 279 (nI p) = some (nI (p + 1), M') ∧ mf1 M M' ∧ mS M' d A (up S d (pFo (S d) (itE (ch p) P))) (pLk F1 (S d).2.1 (itE (ch p) P).1) (up hs d (hs d + 1)) := by
        intro M1 F1 hq hS1
        have hP1 := mIt_mv (hq.2 279 (by omega)).1 hP
        have hz := hS1.1
        have h69 : ∀ y : Int32, (y = 0 ∨ y = 1) → y = (itE (ch p) P).2.2 → ∃ M', fX9_endItem_69 M1 279 (nI p) 279 y = some (nI (p + 1), M') ∧ mf1 M M' ∧ mS M' d A (up S d (pFo (S d) (itE (ch p) P))) (pLk F1 (S d).2.1 (itE (ch p) P).1) (up hs d (hs d + 1)) := by
          intro y hy he
          have hP2 : mIt (zwI M1 279 11 y) (itE (ch p) P) := by
            refine ⟨?_, ?_, ?_⟩
            · rw [zw_I, if_neg (by omega)]; exact hP1.1
            · rw [zw_I, if_neg (by omega)]; exact hP1.2.1
            · rw [zw_I, if_pos ⟨rfl, rfl⟩]; exact he
          obtain ⟨M', g1, g2, g3⟩ := adi (mS_9 hS1 (k := 11) (by omega) (v := y)) hP2
          have hz2 : zO (zwI M1 279 11 y) := hz
          refine ⟨M', ?_, mf1.tr ⟨(hq.wk (fun q z => z.2.2)).tr (zq_wI.wk (fun q z => z.1)), fun j hj => by rw [zw_I, if_neg (by omega), (hq.2 279 (by omega)).1]⟩ g2, g3⟩
          unfold fX9_endItem_69 fX9_endItem_76
          rw [pz9 hz hy, Option.bind_some, zlt_e, c9 hz2, Option.bind_some, g1, Option.bind_some, nI_1]
        have eI : (itE (ch p) P).2.2 = if ch p = 42 ∨ ch p = 63 then 1 else P.2.2 := rfl
        unfold fX9_endItem_45 fX9_endItem_64
        rw [x9 hz, Option.bind_some, hP1.2.2]
        by_cases z1 : P.2.2 = 0
        · rw [if_pos z1, gr_279_2 hz, Option.bind_some, zaI_f hz (by decide) zk_281 (by rw [zl_281]; omega), Option.bind_some, (hq.2 281 (by omega)).1, c1]
          by_cases z2 : ch p = 43
          · rw [if_pos (show nI (ch p) = 43 by rw [z2]; rfl)]
            exact h69 0 (Or.inl rfl) (by rw [eI, if_neg (by omega), z1])
          · rw [if_neg (show ¬ nI (ch p) = (43 : Int32) from nE (x := 43) c2 (by omega) (by exact z2))]
            exact h69 1 (Or.inr rfl) (by rw [eI, if_pos (by omega)])
        · rw [if_neg z1]
          have z3 : P.2.2 = 1 := hB.resolve_left z1
          exact h69 1 (Or.inr rfl) (by rw [eI, z3]; split <;> rfl)
      by_cases z : ch p = 63
      · rw [if_pos (show nI (ch p) = 63 by rw [z]; rfl)]
        have : itF (ch p) F P = F := by unfold itF; rw [if_neg (by omega)]
        rw [this]
        exact h45 M F zq.rf hS
      · rw [if_neg (show ¬ nI (ch p) = (63 : Int32) from nE (x := 63) c2 (by omega) (by exact z)), x9 h, Option.bind_some, hP.2.1, x9 h, Option.bind_some, hP.1, c9 h, Option.bind_some]
        obtain ⟨M1, g1, g2, g3, g4⟩ := fw_ok (m := P.2.1) (x := P.1) h hS.2.2.2.2
        have : itF (ch p) F P = pLk F P.2.1 P.1 := by unfold itF; rw [if_pos (by omega)]
        rw [this, g1, Option.bind_some]
        exact h45 M1 _ g3 (mS_fw hS g2 g3 g4)
    · rw [if_neg hr, if_pos rfl]
      exact h0 (fun z => hr z.2)
end MI
