/-! ===== stepAhead() ===== -/
def aTa (wt : Nat → Int32) (tk : Int32) (k : Nat) : Prop := ¬ wt k < 0 ∧ bt tk k = true
def aWv (wt : Nat → Int32) (tk : Int32) (F : Nat → Int32) : Nat → Nat → Int32
  | 0, _ => -1
  | k + 1, i => if (¬ wt k < 0 ∧ bt tk k = true) ∧ bt (F k) i = true ∧ aWv wt tk F k i < wt k then wt k else aWv wt tk F k i
def aMm (wt : Nat → Int32) (tk ll m0 : Int32) : Nat → Int32
  | 0 => m0
  | k + 1 => if (¬ wt k < 0 ∧ bt tk k = true) ∧ bt ll k = true then (if aMm wt tk ll m0 k < wt k then wt k else aMm wt tk ll m0 k) else aMm wt tk ll m0 k
def aTn (wt : Nat → Int32) (tk : Int32) : Nat → Int32
  | 0 => 0
  | k + 1 => if ¬ wt k < 0 ∧ bt tk k = true then 1 else aTn wt tk k
theorem aTn_01 {wt : Nat → Int32} {tk : Int32} : ∀ k, aTn wt tk k = 0 ∨ aTn wt tk k = 1
  | 0 => Or.inl rfl
  | k + 1 => by
    unfold aTn
    split
    · exact Or.inr rfl
    · exact aTn_01 k
/-- the state at leaf k -/
def aSt (M0 M : Mem) (r w1 w2 : Nat) (tk : Int32) (k : Nat) : Prop :=
  zO M ∧ zq (zwk r) M0 M ∧ M.2.2 = M0.2.2 ∧ M.2.1 w1 = M0.2.1 w1 ∧ (∀ i, i < 24 → M.2.1 w2 i = aWv (M0.2.1 w1) tk (fun q => M0.2.1 (r + 5) q) k i) ∧ M.2.1 r 7 = aMm (M0.2.1 w1) tk (M0.2.1 (r + 4) 1) (M0.2.1 r 7) k
theorem step_loop {M0 : Mem} (h0 : zO M0) {r w1 w2 : Nat} (hr : r + 9 ≤ 152) (hC : zruleC r) (hR : zruleR r) (hW : zWt M0 r w1 w2) (tk : Int32) : ∀ d k fuel M, k + d = 24 → d < fuel → aSt M0 M r w1 w2 tk k →
    ∃ M' , fX5_stepAhead_24L fuel M r tk (aTn (M0.2.1 w1) tk k) (nI k) = some (aTn (M0.2.1 w1) tk 24, M') ∧ zO M' ∧ zq (zwk r) M0 M' ∧ zWt M' r w2 w1 ∧ (∀ i, i < 24 → M'.2.1 w2 i = aWv (M0.2.1 w1) tk (fun q => M0.2.1 (r + 5) q) 24 i) ∧ M'.2.1 r 7 = aMm (M0.2.1 w1) tk (M0.2.1 (r + 4) 1) (M0.2.1 r 7) 24 := by
  obtain ⟨⟨k1, k2⟩, ⟨k3, k4⟩, k5, k6, k7⟩ := hW.kind hC
  have hC0 := hC
  have hR0 := hR
  obtain ⟨c0, c1, c2, c3, c4, c5, c6, c7, c8, l2, l5, l6, l7, l8⟩ := hC
  obtain ⟨r0, r1, r2, r3, r4, r5, r6, -⟩ := hR
  have g5 : ∀ M : Mem, zO M → M.2.2 = M0.2.2 → zgR M 5 5 r = some w1 := fun M hM e => by
    unfold zgR
    rw [if_pos ⟨by rw [hM.1]; omega, c0⟩, e]
    exact hW.1
  have g6 : ∀ M : Mem, zO M → M.2.2 = M0.2.2 → zgR M 5 6 r = some w2 := fun M hM e => by
    unfold zgR
    rw [if_pos ⟨by rw [hM.1]; omega, c0⟩, e]
    exact hW.2.1
  intro d
  induction d with
  | zero =>
    intro k fuel M hk hf hs
    obtain ⟨s1, s2, s3, s4, s5, s6⟩ := hs
    obtain ⟨f, rfl⟩ : ∃ f, fuel = f + 1 := ⟨fuel - 1, by omega⟩
    have e24 : k = 24 := by omega
    subst e24
    show ∃ M', fX5_stepAhead_24 (fX5_stepAhead_24L f) M r tk _ (nI 24) = some (_, M') ∧ _
    unfold fX5_stepAhead_24
    have h1 : zO (zwR M r 5 (some w2)) := zO_wR r5 s1
    have h2 : zO (zwR (zwR M r 5 (some w2)) r 6 (some w1)) := zO_wR r6 h1
    rw [show (24 : Int32) = nI 24 from rfl, if_pos (by rw [nI_leN (by omega) (by omega)]; omega), g5 M s1 s3, Option.bind_some, g6 M s1 s3, Option.bind_some, zpR_f s1 (by omega) c0, Option.bind_some, zpR_f h1 (by omega) c0, Option.bind_some]
    refine ⟨zwR (zwR M r 5 (some w2)) r 6 (some w1), ?_, h2, ?_, ?_, s5, s6⟩
    · rcases aTn_01 (wt := M0.2.1 w1) (tk := tk) 24 with e | e <;> rw [e] <;> rfl
    · exact s2.tr ((zq_wR.wk (fun q hq => hq.1)).tr (zq_wR.wk (fun q hq => hq.1)))
    · refine ⟨?_, ?_, hW.2.2.symm.imp (fun q => ⟨q.2, q.1⟩) (fun q => ⟨q.2, q.1⟩)⟩
      · rw [zw_Rr, if_neg (by omega), zw_Rr, if_pos ⟨rfl, rfl⟩]
      · rw [zw_Rr, if_pos ⟨rfl, rfl⟩]
  | succ d ih =>
    intro k fuel M hk hf hs
    have hs0 := hs
    obtain ⟨s1, s2, s3, s4, s5, s6⟩ := hs
    obtain ⟨f, rfl⟩ : ∃ f, fuel = f + 1 := ⟨fuel - 1, by omega⟩
    show ∃ M', fX5_stepAhead_24 (fX5_stepAhead_24L f) M r tk _ (nI k) = some (_, M') ∧ _
    have eF : M.2.1 (r + 5) = M0.2.1 (r + 5) := (s2.2 (r + 5) ⟨by omega, by omega, by omega⟩).1
    have eL : M.2.1 (r + 4) = M0.2.1 (r + 4) := (s2.2 (r + 4) ⟨by omega, by omega, by omega⟩).1
    -- the next leaf
    have nxt : ∀ (M1 : Mem) (x : Int32), x = aTn (M0.2.1 w1) tk (k + 1) → aSt M0 M1 r w1 w2 tk (k + 1) → ∃ M', fX5_stepAhead_95 (fX5_stepAhead_24L f) M1 r tk x (nI k) = some (aTn (M0.2.1 w1) tk 24, M') ∧ zO M' ∧ zq (zwk r) M0 M' ∧ zWt M' r w2 w1 ∧ (∀ i, i < 24 → M'.2.1 w2 i = aWv (M0.2.1 w1) tk (fun q => M0.2.1 (r + 5) q) 24 i) ∧ M'.2.1 r 7 = aMm (M0.2.1 w1) tk (M0.2.1 (r + 4) 1) (M0.2.1 r 7) 24 := by
      intro M1 x ex h1
      unfold fX5_stepAhead_95
      rw [zlt_e, nI_1, ex]
      exact ih (k + 1) f M1 (by omega) (by omega) h1
    unfold fX5_stepAhead_24
    rw [show (24 : Int32) = nI 24 from rfl, if_neg (by rw [nI_leN (by omega) (by omega)]; omega), g5 M s1 s3, Option.bind_some, zaI_f s1 (by omega) k1 (by rw [k2]; omega), Option.bind_some, s4]
    by_cases hneg : M0.2.1 w1 k < 0
    · rw [if_pos hneg]
      refine nxt M _ (by simp only [aTn]; rw [if_neg (fun q => q.1 hneg)]) ⟨s1, s2, s3, s4, fun i hi => ?_, ?_⟩
      · rw [s5 i hi]; simp only [aWv]; rw [if_neg (fun q => q.1.1 hneg)]
      · rw [s6]; simp only [aMm]; rw [if_neg (fun q => q.1.1 hneg)]
    · rw [if_neg hneg, zbit tk (by omega)]
      by_cases hb : bt tk k = true
      · rw [if_pos hb, if_neg (by decide), zgR_f s1 (by omega) c0 r2, Option.bind_some, zgI_f s1 (by omega) c4, Option.bind_some, eL, zbit _ (by omega)]
        -- what is common: the look-ahead goes on to the leaf's followers
        have cm : ∀ M1 : Mem, zO M1 → zq (zwk r) M0 M1 → M1.2.2 = M0.2.2 → M1.2.1 w1 = M0.2.1 w1 → (∀ i, i < 24 → M1.2.1 w2 i = aWv (M0.2.1 w1) tk (fun q => M0.2.1 (r + 5) q) k i) → M1.2.1 r 7 = aMm (M0.2.1 w1) tk (M0.2.1 (r + 4) 1) (M0.2.1 r 7) (k + 1) → ∃ M', fX5_stepAhead_80 (fX5_stepAhead_24L f) M1 r tk 1 (nI k) (M0.2.1 w1 k) = some (aTn (M0.2.1 w1) tk 24, M') ∧ zO M' ∧ zq (zwk r) M0 M' ∧ zWt M' r w2 w1 ∧ (∀ i, i < 24 → M'.2.1 w2 i = aWv (M0.2.1 w1) tk (fun q => M0.2.1 (r + 5) q) 24 i) ∧ M'.2.1 r 7 = aMm (M0.2.1 w1) tk (M0.2.1 (r + 4) 1) (M0.2.1 r 7) 24 := by
          intro M1 t1 t2 t3 t4 t5 t6
          unfold fX5_stepAhead_80
          rw [g6 M1 t1 t3, Option.bind_some, zgR_f t1 (by omega) c0 r3, Option.bind_some, zaI_f t1 (by omega) c5 (by rw [l5]; omega), Option.bind_some, (t2.2 (r + 5) ⟨by omega, by omega, by omega⟩).1]
          obtain ⟨M2, a1, a2, a3, a4, a5⟩ := wait_ok t1 (a := w2) (by omega) k3 k4 (M0.2.1 (r + 5) k) (M0.2.1 w1 k)
          rw [a1, Option.bind_some]
          refine nxt M2 _ (by simp only [aTn]; rw [if_pos ⟨hneg, hb⟩]) ⟨a2, t2.tr (a3.wk (fun q hq => k7.elim (fun e => by rw [e]; exact hq.2.1) (fun e => by rw [e]; exact hq.2.2))), a4.trans t3, ?_, fun i hi => ?_, ?_⟩
          · rw [(a3.2 w1 k5).1, t4]
          · rw [a5 i, t5 i hi]
            simp only [aWv]
            by_cases hc : bt (M0.2.1 (r + 5) k) i = true ∧ aWv (M0.2.1 w1) tk (fun q => M0.2.1 (r + 5) q) k i < M0.2.1 w1 k
            · rw [if_pos ⟨hi, hc⟩, if_pos ⟨⟨hneg, hb⟩, hc⟩]
            · rw [if_neg (fun q => hc q.2), if_neg (fun q => hc q.2)]
          · rw [(a3.2 r (by omega)).1, t6]
        by_cases hll : bt (M0.2.1 (r + 4) 1) k = true
        · rw [if_pos hll, if_neg (by decide), zgI_f s1 (by omega) c0, Option.bind_some, zpI_f s1 (by omega) c0, Option.bind_some]
          refine cm (zwI M r 7 _) s1 (s2.tr (zq_wI.wk (fun q hq => hq.1))) s3 ?_ (fun i hi => ?_) ?_
          · rw [show (zwI M r 7 _).2.1 w1 = M.2.1 w1 from zu2_ne (by omega)]; exact s4
          · rw [show (zwI M r 7 _).2.1 w2 = M.2.1 w2 from zu2_ne (by omega)]; exact s5 i hi
          · have e7 : ∀ v : Int32, (zwI M r 7 v).2.1 r 7 = v := fun v => if_pos ⟨rfl, rfl⟩
            rw [e7, s6]
            simp only [aMm]
            rw [if_pos (show (¬ M0.2.1 w1 k < 0 ∧ bt tk k = true) ∧ bt (M0.2.1 (r + 4) 1) k = true from ⟨⟨hneg, hb⟩, hll⟩)]
        · rw [if_neg hll, if_pos rfl]
          refine cm M s1 s2 s3 s4 s5 ?_
          rw [s6]
          simp only [aMm]
          rw [if_neg (fun q => hll q.2)]
      · rw [if_neg hb, if_pos rfl]
        refine nxt M _ (by simp only [aTn]; rw [if_neg (fun q => hb q.2)]) ⟨s1, s2, s3, s4, fun i hi => ?_, ?_⟩
        · rw [s5 i hi]; simp only [aWv]; rw [if_neg (fun q => hb q.1.2)]
        · rw [s6]; simp only [aMm]; rw [if_neg (fun q => hb q.1.2)]
theorem step_ok {M : Mem} (h : zO M) {r w1 w2 : Nat} (hr : r + 9 ≤ 152) (hC : zruleC r) (hR : zruleR r) (hW : zWt M r w1 w2) (tk : Int32) (hlf : M.2.1 (r + 4) 0 ≠ 0) :
    ∃ M' , fX5_stepAhead M r tk = some (aTn (M.2.1 w1) tk 24, M') ∧ zO M' ∧ zq (zwk r) M M' ∧ zWt M' r w2 w1 ∧ (∀ i, i < 24 → M'.2.1 w2 i = aWv (M.2.1 w1) tk (fun q => M.2.1 (r + 5) q) 24 i) ∧ M'.2.1 r 7 = aMm (M.2.1 w1) tk (M.2.1 (r + 4) 1) (M.2.1 r 7) 24 := by
  obtain ⟨⟨k1, k2⟩, ⟨k3, k4⟩, k5, k6, k7⟩ := hW.kind hC
  have hC0 := hC
  have hR0 := hR
  obtain ⟨c0, c1, c2, c3, c4, c5, c6, c7, c8, l2, l5, l6, l7, l8⟩ := hC
  obtain ⟨r0, r1, r2, r3, r4, r5, r6, -⟩ := hR
  obtain ⟨M1, a1, a2, a3, a4, a5⟩ := fill_ok h (a := w2) (by omega) k3 (-1)
  have g6 : zgR M 5 6 r = some w2 := by
    unfold zgR
    rw [if_pos ⟨by rw [h.1]; omega, c0⟩]
    exact hW.2.1
  unfold fX5_stepAhead
  rw [zgR_f h (by omega) c0 r2, Option.bind_some, zgI_f h (by omega) c4, Option.bind_some, if_neg hlf, g6, Option.bind_some, a1, Option.bind_some]
  have hs : aSt M M1 r w1 w2 tk 0 := ⟨a2, a3.wk (fun q hq => k7.elim (fun e => by rw [e]; exact hq.2.1) (fun e => by rw [e]; exact hq.2.2)), a4, (a3.2 w1 k5).1, fun i hi => a5 i (by rw [k4]; exact hi), by rw [(a3.2 r (by omega)).1]; rfl⟩
  exact step_loop h hr hC0 hR0 hW tk 24 0 zFU M1 (by omega) (by unfold zFU; omega) hs
theorem step_no {M : Mem} (h : zO M) {r : Nat} (hr : r + 9 ≤ 152) (hC : zruleC r) (hR : zruleR r) (tk : Int32) (hlf : M.2.1 (r + 4) 0 = 0) : fX5_stepAhead M r tk = some (0, M) := by
  obtain ⟨c0, c1, c2, c3, c4, c5, c6, c7, c8, l2, l5, l6, l7, l8⟩ := hC
  obtain ⟨r0, r1, r2, r3, r4, r5, r6, -⟩ := hR
  unfold fX5_stepAhead
  rw [zgR_f h (by omega) c0 r2, Option.bind_some, zgI_f h (by omega) c4, Option.bind_some, if_pos hlf]
  rfl
