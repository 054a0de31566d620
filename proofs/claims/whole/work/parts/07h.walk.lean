/-! ===== the class's walk() ===== -/
theorem cTx.mv {M M' : Mem} {P : Nat → Prop} {len : Nat} {c : Nat → Nat} (h : cTx M len c) (hq : zq P M M') (h2 : P 2) (h3 : P 3) (h4 : P 4) : cTx M' len c := by
  obtain ⟨x1, x2, x3⟩ := h
  refine ⟨by rw [(hq.2 2 h2).1]; exact x1, x2, fun t ht => ?_⟩
  obtain ⟨ch, q1, q2, q3, q4, q5⟩ := x3 t ht
  exact ⟨ch, q1, q2, by rw [(hq.2 3 h3).1]; exact q3, by rw [(hq.2 4 h4).1]; exact q4, q5⟩
theorem aNx_le {F : Nat → Int32} {m : Int32} {n : Nat} (hn : n ≤ 24) (h : ∀ i, bt m i = true → i < n) : aNx F m 24 = aNx F m n := by
  have e := aNx_hi (F := F) (m := m) (k := n) (fun q hq => b_false (fun z => by have := h q z; omega)) (24 - n)
  rw [show n + (24 - n) = 24 by omega] at e
  exact e
section WK
variable {M0 : Mem} {r n sg len p : Nat} {W : Nat → Int32} {l : Nat → Prop} {cl : Nat → Int32} {c : Nat → Nat}
/-- the rule's masks in the class's cells -/
abbrev kbf (M : Mem) (r : Nat) : Int32 := M.2.1 (r + 3) 0
abbrev kbl (M : Mem) (r : Nat) : Int32 := M.2.1 (r + 3) 1
abbrev kbn (M : Mem) (r : Nat) : Int32 := M.2.1 (r + 3) 2
abbrev klf (M : Mem) (r : Nat) : Int32 := M.2.1 (r + 4) 0
abbrev kll (M : Mem) (r : Nat) : Int32 := M.2.1 (r + 4) 1
abbrev kln (M : Mem) (r : Nat) : Int32 := M.2.1 (r + 4) 2
abbrev kF (M : Mem) (r : Nat) : Nat → Int32 := fun q => M.2.1 (r + 5) q
abbrev kTk (M : Mem) (r : Nat) : Nat → Int32 := fun q => M.2.1 (r + 6) q
/-- what a walk leaves -/
def kEnd (M0 M' : Mem) (r n : Nat) (W : Nat → Int32) (cl : Nat → Int32) (len p : Nat) : Prop :=
  zO M' ∧ zq (zwk r) M0 M' ∧ (∃ w1 w2, zWt M' r w1 w2) ∧ ∃ L R, M'.2.1 r 7 = nI L ∧ M'.2.1 r 8 = nI R ∧ L ≤ len - p ∧ aLn W (kF M0 r) n cl (kbf M0 r) (kbl M0 r) (klf M0 r) (kll M0 r) (kln M0 r) len p L ∧ aFr (aV W (kF M0 r) n cl (kbf M0 r) (kbl M0 r) (kbn M0 r) (klf M0 r) p) len p R
theorem walk_end (h0 : zO M0) (hr : r + 9 ≤ 152) (hr1 : 11 ≤ r) (hC : zruleC r) (hR : zruleR r) (hln : kln M0 r = 0 ∨ kln M0 r = 1) (G : aOk n sg (kbf M0 r) (kbl M0 r) (klf M0 r) (kll M0 r) (kF M0 r) W (kTk M0 r) l) (hlen : len ≤ 100) {M : Mem} {t : Nat} (hM : zO M) (hq : zq (zwk r) M0 M) {w1 w2 : Nat} (hW : zWt M r w1 w2) (hpt : p + t ≤ len) (hmc : aMc W (kF M0 r) n cl (kbf M0 r) (kbl M0 r) (kbn M0 r) (klf M0 r) (kll M0 r) (kln M0 r) p t t (M.2.1 r 7)) {x4 : Int32}
    (he : (x4 = 1 ∧ p + t = len ∧ ∀ t', t' < t → aV W (kF M0 r) n cl (kbf M0 r) (kbl M0 r) (kbn M0 r) (klf M0 r) p t' ≠ 0) ∨ (x4 = 0 ∧ 1 ≤ t ∧ aV W (kF M0 r) n cl (kbf M0 r) (kbl M0 r) (kbn M0 r) (klf M0 r) p (t - 1) = 0 ∧ ∀ t', t' < t - 1 → aV W (kF M0 r) n cl (kbf M0 r) (kbl M0 r) (kbn M0 r) (klf M0 r) p t' ≠ 0)) :
    ∃ M', fX5_walk_136 M r (nI p) x4 (nI (p + t)) = some M' ∧ kEnd M0 M' r n W cl len p := by
  have c0 := hC.1
  obtain ⟨L, e1, e2, e3⟩ := ap_end G (len := len) (t := t) (by omega) hln hpt hmc (by
    rcases he with ⟨-, q, -⟩ | ⟨-, q1, q2, -⟩
    · exact Or.inl q
    · exact Or.inr ⟨q1, q2⟩)
  have core : ∀ R : Nat, aFr (aV W (kF M0 r) n cl (kbf M0 r) (kbl M0 r) (kbn M0 r) (klf M0 r) p) len p R → ∃ M', fX5_walk_155 M r (nI R) = some M' ∧ kEnd M0 M' r n W cl len p := by
    intro R hR2
    unfold fX5_walk_155
    rw [zpI_f hM (by omega) c0, Option.bind_some]
    refine ⟨zwI M r 8 (nI R), rfl, hM, hq.tr (zq_wI.wk (fun q z => z.1)), ⟨w1, w2, hW⟩, L, R, ?_, ?_, by omega, e3, hR2⟩
    · rw [zw_I, if_neg (by omega)]
      exact e1
    · rw [zw_I, if_pos ⟨rfl, rfl⟩]
  unfold fX5_walk_136
  rcases he with ⟨rfl, q1, q2⟩ | ⟨rfl, q1, q2, q3⟩
  · rw [if_neg (by decide), pk_sub (by omega), nI_1, show p + t - p + 1 = len + 1 - p by omega]
    exact core _ (Or.inr ⟨fun t' w => q2 t' (by omega), rfl⟩)
  · rw [if_pos rfl, pk_sub (by omega), show p + t - p = t - 1 + 1 by omega]
    exact core _ (Or.inl ⟨t - 1, by omega, q2, q3, rfl⟩)
theorem walk_loop (h0 : zO M0) (hr : r + 9 ≤ 152) (hr1 : 11 ≤ r) (hC : zruleC r) (hR : zruleR r) (hx : cTx M0 len c) (hcl : ∀ t, t < len → cl t = nI (c t)) (hln : kln M0 r = 0 ∨ kln M0 r = 1) (G : aOk n sg (kbf M0 r) (kbl M0 r) (klf M0 r) (kll M0 r) (kF M0 r) W (kTk M0 r) l) : ∀ d t fuel M x4, p + t + d = len → d < fuel → zO M → zq (zwk r) M0 M → ∀ w1 w2, zWt M r w1 w2 →
    aCh W (kF M0 r) n cl (kbf M0 r) (kbl M0 r) (kbn M0 r) (klf M0 r) p t t (M.2.1 w1) → aMc W (kF M0 r) n cl (kbf M0 r) (kbl M0 r) (kbn M0 r) (klf M0 r) (kll M0 r) (kln M0 r) p t t (M.2.1 r 7) →
    ((x4 = 1 ∧ ∀ t', t' < t → aV W (kF M0 r) n cl (kbf M0 r) (kbl M0 r) (kbn M0 r) (klf M0 r) p t' ≠ 0) ∨ (x4 = 0 ∧ 1 ≤ t ∧ aV W (kF M0 r) n cl (kbf M0 r) (kbl M0 r) (kbn M0 r) (klf M0 r) p (t - 1) = 0 ∧ ∀ t', t' < t - 1 → aV W (kF M0 r) n cl (kbf M0 r) (kbl M0 r) (kbn M0 r) (klf M0 r) p t' ≠ 0)) →
    ∃ M', fX5_walk_51L fuel M r 1 (nI p) (aS W (kF M0 r) n cl (kbf M0 r) p t) x4 (nI (p + t)) (nI len) = some M' ∧ kEnd M0 M' r n W cl len p := by
  have hlen := hx.2.1
  have hC0 := hC
  have hR0 := hR
  obtain ⟨c0, c1, c2, c3, c4, c5, c6, c7, c8, l2, l5, l6, l7, l8⟩ := hC
  obtain ⟨r0, r1, r2, r3, r4, r5, r6, -⟩ := hR
  have g1 := G.1
  intro d
  induction d with
  | zero =>
    intro t fuel M x4 hd hf hM hq w1 w2 hW hch hmc hg
    obtain ⟨f, rfl⟩ : ∃ f, fuel = f + 1 := ⟨fuel - 1, by omega⟩
    show ∃ M', fX5_walk_51 (fX5_walk_51L f) M r 1 (nI p) _ x4 (nI (p + t)) (nI len) = some M' ∧ _
    unfold fX5_walk_51
    have fin := walk_end (cl := cl) h0 hr hr1 hC0 hR0 hln G hlen hM hq hW (p := p) (t := t) (by omega) hmc (x4 := x4) (hg.imp (fun q => ⟨q.1, by omega, q.2⟩) id)
    rw [if_pos (show nI len ≤ nI (p + t) by rw [nI_leN (by omega) (by omega)]; omega)]
    split
    · exact fin
    · exact fin
  | succ d ih =>
    intro t fuel M x4 hd hf hM hq w1 w2 hW hch hmc hg
    obtain ⟨f, rfl⟩ : ∃ f, fuel = f + 1 := ⟨fuel - 1, by omega⟩
    show ∃ M', fX5_walk_51 (fX5_walk_51L f) M r 1 (nI p) _ x4 (nI (p + t)) (nI len) = some M' ∧ _
    unfold fX5_walk_51
    rcases hg with ⟨rfl, hg⟩ | ⟨rfl, hg1, hg2, hg3⟩
    · have hxM := hx.mv hq (P := zwk r) ⟨by omega, by omega, by omega⟩ ⟨by omega, by omega, by omega⟩ ⟨by omega, by omega, by omega⟩
      obtain ⟨ch, a1, a2, a3, a4, a5⟩ := hxM.2.2 (p + t) (by omega)
      have e6 : M.2.1 (r + 6) = M0.2.1 (r + 6) := (hq.2 (r + 6) ⟨by omega, by omega, by omega⟩).1
      have e5 : M.2.1 (r + 5) = M0.2.1 (r + 5) := (hq.2 (r + 5) ⟨by omega, by omega, by omega⟩).1
      have e4 : M.2.1 (r + 4) = M0.2.1 (r + 4) := (hq.2 (r + 4) ⟨by omega, by omega, by omega⟩).1
      have hsub : ∀ i, bt (aS W (kF M0 r) n cl (kbf M0 r) p t) i = true → l i := ap_S G (fun i hi => (G.2.2.1 i hi).1) p t
      have eT : aS W (kF M0 r) n cl (kbf M0 r) p t &&& M0.2.1 (r + 6) (c (p + t)) = aT W (kF M0 r) n cl (kbf M0 r) p t := by
        unfold aT
        rw [hcl (p + t) (by omega), ap_mt G hsub a5]
      have eN : aNx (fun q => M.2.1 (r + 5) q) (aT W (kF M0 r) n cl (kbf M0 r) p t) 24 = aS W (kF M0 r) n cl (kbf M0 r) p (t + 1) := by
        rw [aS_s, aNx_le g1 (fun i hi => (aT_S g1 hi).1), e5]
      rw [if_neg (by decide), if_neg (by rw [nI_leN (by omega) (by omega)]; omega), zck_f hM (by decide) zk_1, Option.bind_some, cat_ok hM hxM (by omega), Option.bind_some, zck_f hM (by omega) c0, Option.bind_some, tk_ok hM hr hC0 hR0 a5, Option.bind_some, zlt_e, zlt_e, nI_1, e6]
      dsimp only
      rw [eT, zck_f hM (by omega) c0, Option.bind_some, fo_ok hM hr hC0 hR0, Option.bind_some, zck_f hM (by omega) c0, Option.bind_some]
      dsimp only
      rw [eN]
      have hk : cl (p + t) = nI (c (p + t)) := hcl (p + t) (by omega)
      -- behind stepAhead(): the state, and its answer
      obtain ⟨fl, M1, v1, v2, ⟨y1, ⟨y2, hW1⟩, v4, v5⟩, v6, v7⟩ : ∃ fl M1, fX5_stepAhead M r (M0.2.1 (r + 6) (c (p + t))) = some (fl, M1) ∧ (zO M1 ∧ zq (zwk r) M0 M1) ∧ (∃ y1, (∃ y2, zWt M1 r y1 y2) ∧ aCh W (kF M0 r) n cl (kbf M0 r) (kbl M0 r) (kbn M0 r) (klf M0 r) p t (t + 1) (M1.2.1 y1) ∧ aMc W (kF M0 r) n cl (kbf M0 r) (kbl M0 r) (kbn M0 r) (klf M0 r) (kll M0 r) (kln M0 r) p t (t + 1) (M1.2.1 r 7)) ∧ (fl = 0 ∨ fl = 1) ∧ (fl = 1 ↔ ∃ L, L ≤ t ∧ aBg W (kF M0 r) n cl (kbf M0 r) (kbl M0 r) (kbn M0 r) p L ∧ aT W (kF M0 r) n cl (klf M0 r) (p + L) (t - L) ≠ 0) := by
        by_cases hlf : M.2.1 (r + 4) 0 = 0
        · have hlf0 : klf M0 r = 0 := by rw [← hlf, e4]
          refine ⟨0, M, step_no hM hr hC0 hR0 _ hlf, ⟨hM, hq⟩, ⟨w1, ⟨w2, hW⟩, ap_step0 hlf0 hch, ap_mstep0 hlf0 hmc⟩, Or.inl rfl, ⟨fun q => absurd q (by decide), ?_⟩⟩
          rintro ⟨L, -, -, q⟩
          have e := aS_0 (W := W) (F := kF M0 r) (N := n) (cl := cl) (m0 := klf M0 r) (p := p + L) (t := 0) hlf0 (t - L)
          rw [Nat.zero_add] at e
          exact absurd (aT_0 e) q
        · obtain ⟨M1, b1, b2, b3, b4, b5, b6⟩ := step_ok hM hr hC0 hR0 hW (M0.2.1 (r + 6) (c (p + t))) hlf
          have h1 := ap_step G (t := t) (by omega) a5 hk hch
          have h2 := ap_mstep G (t := t) (by omega) a5 hk hch hmc
          rw [e5] at b5
          rw [e4] at b6
          refine ⟨_, M1, b1, ⟨b2, hq.tr b3⟩, ⟨w2, ⟨w1, b4⟩, fun i hi => ?_, ?_⟩, aTn_01 24, ap_flag G (t := t) (by omega) a5 hk hch⟩
          · rw [b5 i hi]
            exact h1 i hi
          · rw [b6]
            exact h2
      rw [v1, Option.bind_some]
      dsimp only
      -- then the rest of the round, with goesOn as it must be
      have goes : ∀ y0 : Int32, (y0 = 1 ∧ aV W (kF M0 r) n cl (kbf M0 r) (kbl M0 r) (kbn M0 r) (klf M0 r) p t ≠ 0) ∨ (y0 = 0 ∧ aV W (kF M0 r) n cl (kbf M0 r) (kbl M0 r) (kbn M0 r) (klf M0 r) p t = 0) → ∃ M', fX5_walk_110 (fX5_walk_51L f) M1 r 1 (nI p) (aS W (kF M0 r) n cl (kbf M0 r) p (t + 1)) (nI (p + t + 1)) (nI len) (aT W (kF M0 r) n cl (kbf M0 r) p t) y0 = some M' ∧ kEnd M0 M' r n W cl len p := by
        intro y0 hy
        have hy' : (y0 = 1 ∧ ∀ t', t' < t + 1 → aV W (kF M0 r) n cl (kbf M0 r) (kbl M0 r) (kbn M0 r) (klf M0 r) p t' ≠ 0) ∨ (y0 = 0 ∧ 1 ≤ t + 1 ∧ aV W (kF M0 r) n cl (kbf M0 r) (kbl M0 r) (kbn M0 r) (klf M0 r) p (t + 1 - 1) = 0 ∧ ∀ t', t' < t + 1 - 1 → aV W (kF M0 r) n cl (kbf M0 r) (kbl M0 r) (kbn M0 r) (klf M0 r) p t' ≠ 0) := by
          rcases hy with ⟨q1, q2⟩ | ⟨q1, q2⟩
          · refine Or.inl ⟨q1, fun t' w => ?_⟩
            rcases Nat.lt_or_ge t' t with z | z
            · exact hg t' z
            · rw [show t' = t by omega]; exact q2
          · exact Or.inr ⟨q1, by omega, by rw [Nat.add_sub_cancel]; exact q2, fun t' w => hg t' (by omega)⟩
        have e3 : M1.2.1 (r + 3) = M0.2.1 (r + 3) := (v2.2.2 (r + 3) ⟨by omega, by omega, by omega⟩).1
        have e4' : M1.2.1 (r + 4) = M0.2.1 (r + 4) := (v2.2.2 (r + 4) ⟨by omega, by omega, by omega⟩).1
        unfold fX5_walk_110 fX5_walk_133
        rw [zgR_f v2.1 (by omega) c0 r1, Option.bind_some, zgI_f v2.1 (by omega) c3, Option.bind_some, e3]
        by_cases hb : aT W (kF M0 r) n cl (kbf M0 r) p t &&& M0.2.1 (r + 3) 1 = 0
        · rw [if_pos hb]
          have hB : ¬ aBg W (kF M0 r) n cl (kbf M0 r) (kbl M0 r) (kbn M0 r) p (t + 1) := by
            rintro (⟨q, -⟩ | ⟨-, q⟩)
            · omega
            · rw [Nat.add_sub_cancel] at q
              exact q hb
          exact ih (t + 1) f M1 y0 (by omega) (by omega) v2.1 v2.2 y1 y2 hW1 (ap_nobegin v4 hB) (ap_mnobegin v5 hB) hy'
        · rw [if_neg hb, zck_f v2.1 (by omega) c0, Option.bind_some, pk_sub (by omega), show p + t + 1 - p = t + 1 by omega]
          have hB : aBg W (kF M0 r) n cl (kbf M0 r) (kbl M0 r) (kbn M0 r) p (t + 1) := Or.inr ⟨by omega, by rw [Nat.add_sub_cancel]; exact hb⟩
          obtain ⟨M2, b1, b2, b3, b4, b5, b6⟩ := begin_ok v2.1 hr hC0 hR0 hW1 (nI (t + 1))
          rw [b1, Option.bind_some]
          rw [e4'] at b5 b6
          have hW2 : zWt M2 r y1 y2 := by
            unfold zWt
            rw [b4]
            exact hW1
          refine ih (t + 1) f M2 y0 (by omega) (by omega) b2 (v2.2.tr b3) y1 y2 hW2 (ap_begin (by omega) v4 hB b5) ?_ hy'
          rw [b6]
          exact ap_mbegin v5 hB
      unfold fX5_walk_105
      have hV := ap_V G (cl := cl) (bn := kbn M0 r) (p := p) t
      rcases v6 with rfl | rfl
      · rw [if_pos rfl]
        have hno : ∀ L, L ≤ t → aBg W (kF M0 r) n cl (kbf M0 r) (kbl M0 r) (kbn M0 r) p L → aT W (kF M0 r) n cl (klf M0 r) (p + L) (t - L) = 0 := by
          intro L q1 q2
          apply Classical.byContradiction
          intro q3
          exact absurd (v7.mpr ⟨L, q1, q2, q3⟩) (by decide)
        by_cases h8 : aT W (kF M0 r) n cl (kbf M0 r) p t = 0
        · rw [if_pos h8]
          exact goes 0 (Or.inr ⟨rfl, hV.mpr ⟨h8, hno⟩⟩)
        · rw [if_neg h8]
          exact goes 1 (Or.inl ⟨rfl, fun q => h8 (hV.mp q).1⟩)
      · rw [if_neg (by decide)]
        obtain ⟨L, q1, q2, q3⟩ := v7.mp rfl
        exact goes 1 (Or.inl ⟨rfl, fun q => q3 ((hV.mp q).2 L q1 q2)⟩)
    · rw [if_pos rfl]
      exact walk_end (cl := cl) h0 hr hr1 hC0 hR0 hln G hlen hM hq hW (p := p) (t := t) (by omega) hmc (Or.inr ⟨rfl, hg1, hg2, hg3⟩)
theorem walk_ok (h0 : zO M0) (hr : r + 9 ≤ 152) (hr1 : 11 ≤ r) (hC : zruleC r) (hR : zruleR r) (hx : cTx M0 len c) (hcl : ∀ t, t < len → cl t = nI (c t)) (hln : kln M0 r = 0 ∨ kln M0 r = 1) (G : aOk n sg (kbf M0 r) (kbl M0 r) (klf M0 r) (kll M0 r) (kF M0 r) W (kTk M0 r) l) {w1 w2 : Nat} (hW : zWt M0 r w1 w2) (hp : p ≤ len) :
    ∃ M', fX5_walk M0 r 1 (nI p) = some M' ∧ kEnd M0 M' r n W cl len p := by
  have hlen := hx.2.1
  have hC0 := hC
  have hR0 := hR
  obtain ⟨⟨k1, k2⟩, ⟨k3, k4⟩, k5, k6, k7⟩ := hW.kind hC
  obtain ⟨c0, c1, c2, c3, c4, c5, c6, c7, c8, l2, l5, l6, l7, l8⟩ := hC
  obtain ⟨r0, r1, r2, r3, r4, r5, r6, -⟩ := hR
  have hA : zO (zwI M0 r 7 0) := h0
  have g5 : zgR (zwI M0 r 7 0) 5 5 r = some w1 := by
    unfold zgR
    rw [if_pos ⟨by rw [hA.1]; omega, c0⟩]
    exact hW.1
  obtain ⟨M1, a1, a2, a3, a4, a5⟩ := fill_ok hA (a := w1) (by omega) k1 (-1)
  have hq1 : zq (zwk r) M0 M1 := (zq_wI.wk (fun q z => z.1)).tr (a3.wk (fun q z => k6.elim (fun e => by rw [e]; exact z.2.1) (fun e => by rw [e]; exact z.2.2)))
  have hW1 : zWt M1 r w1 w2 := by
    unfold zWt
    rw [a4]
    exact hW
  have e3 : M1.2.1 (r + 3) = M0.2.1 (r + 3) := (hq1.2 (r + 3) ⟨by omega, by omega, by omega⟩).1
  have e4 : M1.2.1 (r + 4) = M0.2.1 (r + 4) := (hq1.2 (r + 4) ⟨by omega, by omega, by omega⟩).1
  have em : M1.2.1 r 7 = 0 := by
    rw [(a3.2 r (by omega)).1, zw_I, if_pos ⟨rfl, rfl⟩]
  unfold fX5_walk
  rw [zpI_f h0 (by omega) c0, Option.bind_some, g5, Option.bind_some, a1, Option.bind_some, zgR_f a2 (by omega) c0 r1, Option.bind_some, zgI_f a2 (by omega) c3, Option.bind_some, Option.bind_some, zgI_f a2 (by omega) c3, Option.bind_some, e3]
  -- the loop, from any good start
  have go : ∀ M2 : Mem, zO M2 → zq (zwk r) M0 M2 → zWt M2 r w1 w2 → aCh W (kF M0 r) n cl (kbf M0 r) (kbl M0 r) (kbn M0 r) (klf M0 r) p 0 0 (M2.2.1 w1) → M2.2.1 r 7 = nI 0 → ∃ M', fX5_walk_36 M2 r 1 (nI p) (M0.2.1 (r + 3) 0) = some M' ∧ kEnd M0 M' r n W cl len p := by
    intro M2 b1 b2 b3 b4 b5
    have hx2 := hx.mv b2 (P := zwk r) ⟨by omega, by omega, by omega⟩ ⟨by omega, by omega, by omega⟩ ⟨by omega, by omega, by omega⟩
    unfold fX5_walk_36
    rw [gr_1_0 b1, Option.bind_some, zgI_f b1 (by decide) zk_2, Option.bind_some, hx2.1]
    exact walk_loop h0 hr hr1 hC0 hR0 hx hcl hln G (len - p) 0 zFU M2 1 (by omega) (by unfold zFU; omega) b1 b2 w1 w2 b3 b4 ⟨0, by omega, b5, Or.inl rfl, fun L q1 q2 => by omega⟩ (Or.inl ⟨rfl, fun t' q => absurd q (by omega)⟩)
  by_cases hb : M0.2.1 (r + 3) 2 = 0
  · rw [if_pos hb]
    refine go M1 a2 hq1 hW1 (fun i hi => Or.inl ⟨a5 i (by rw [k2]; exact hi), fun L q1 q2 => ?_⟩) em
    rcases q2 with ⟨-, q2⟩ | ⟨q2, -⟩
    · exact absurd hb q2
    · omega
  · rw [if_neg hb, zck_f a2 (by omega) c0, Option.bind_some]
    obtain ⟨M2, b1, b2, b3, b4, b5, b6⟩ := begin_ok a2 hr hC0 hR0 hW1 0
    rw [b1, Option.bind_some]
    have hW2 : zWt M2 r w1 w2 := by
      unfold zWt
      rw [b4]
      exact hW1
    refine go M2 b2 (hq1.tr b3) hW2 (fun i hi => ?_) ?_
    · rw [b5 i, a5 i (by rw [k2]; exact hi), e4]
      by_cases hl : bt (M0.2.1 (r + 4) 0) i = true
      · rw [if_pos ⟨hi, hl, neg1_lt⟩]
        exact Or.inr ⟨0, by omega, rfl, Or.inl ⟨rfl, hb⟩, hl, fun L' q1 q2 => by omega⟩
      · rw [if_neg (fun q => hl q.2.1)]
        refine Or.inl ⟨rfl, fun L q1 q2 => ?_⟩
        rw [show L = 0 by omega]
        exact b_false hl
    · rw [b6, em]
      split <;> rfl
end WK
