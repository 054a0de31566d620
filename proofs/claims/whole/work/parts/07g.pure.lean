/-! ===== the same: a step, a beginning, the end ===== -/
section AQ
variable {n sg len p : Nat} {bf bl bn lf ll ln : Int32} {F W Tk : Nat → Int32} {l : Nat → Prop} {cl : Nat → Int32}
/-- the look-ahead behind the body of length L has matched before the place t -/
def aAc (W F : Nat → Int32) (n : Nat) (cl : Nat → Int32) (lf ll ln : Int32) (p L t : Nat) : Prop := ln ≠ 0 ∨ ∃ j, L + j < t ∧ aT W F n cl lf (p + L) j &&& ll ≠ 0
def aMc (W F : Nat → Int32) (n : Nat) (cl : Nat → Int32) (bf bl bn lf ll ln : Int32) (p T t : Nat) (m : Int32) : Prop :=
  ∃ Lm, Lm ≤ T ∧ m = nI Lm ∧ (Lm = 0 ∨ (aBg W F n cl bf bl bn p Lm ∧ aAc W F n cl lf ll ln p Lm t)) ∧ ∀ L, Lm < L → L ≤ T → aBg W F n cl bf bl bn p L → ¬ aAc W F n cl lf ll ln p L t
theorem aCh_v {T t : Nat} {wt : Nat → Int32} (hT : T ≤ 1000) (h : aCh W F n cl bf bl bn lf p T t wt) : ∀ q, q < 24 → wt q = -1 ∨ ∃ L, L ≤ 1000 ∧ wt q = nI L := fun q hq => by
  rcases h q hq with ⟨h1, -⟩ | ⟨L, h1, h2, -⟩
  · exact Or.inl h1
  · exact Or.inr ⟨L, by omega, h2⟩
theorem ap_tak (G : aOk n sg bf bl lf ll F W Tk l) {t k L q : Nat} (hk : k < 12) (hc : cl (p + t) = nI k) (hL : L ≤ t) (hq : bt (aS W F n cl lf (p + L) (t - L)) q = true) : bt (aT W F n cl lf (p + L) (t - L)) q = true ↔ bt (Tk k) q = true := by
  have hl := ap_S G (cl := cl) (m0 := lf) (fun i hi => (G.2.2.2.2.1 i hi).1) (p + L) (t - L) q hq
  have hn := G.2.1 q hl
  have g1 := G.1
  unfold aT
  rw [aMt_bt (by omega) (by omega), show p + L + (t - L) = p + t by omega, hc, G.2.2.2.2.2.2.2 k q hk hl]
  exact ⟨fun h => h.2.2, fun h => ⟨hn, hq, h⟩⟩
theorem aT_S {m0 : Int32} {P j q : Nat} (hn : n ≤ 24) (h : bt (aT W F n cl m0 P j) q = true) : q < n ∧ bt (aS W F n cl m0 P j) q = true := by
  by_cases hq : q < 32
  · unfold aT at h
    have := (aMt_bt (by omega) hq).mp h
    exact ⟨this.1, this.2.1⟩
  · rw [b_big (by omega)] at h
    cases h
theorem neg1_lt : (-1 : Int32) < 0 := by decide
/-- a character is taken -/
theorem ap_step (G : aOk n sg bf bl lf ll F W Tk l) {t k : Nat} {wt : Nat → Int32} (ht : t ≤ 1000) (hk : k < 12) (hc : cl (p + t) = nI k) (h : aCh W F n cl bf bl bn lf p t t wt) : aCh W F n cl bf bl bn lf p t (t + 1) (aWv wt (Tk k) F 24) := by
  have g1 := G.1
  intro i hi
  rcases aWv_max (tk := Tk k) (F := F) (aCh_v ht h) i 24 (by omega) with ⟨h1, h2⟩ | ⟨q, h1, h2, h3, h4, h5, h6⟩
  · refine Or.inl ⟨h1, fun L hL hB => b_false (fun hb => ?_)⟩
    rw [show t + 1 - L = t - L + 1 by omega, aS_s] at hb
    obtain ⟨q, q1, q2, q3⟩ := aNx_bt.mp hb
    obtain ⟨-, q4⟩ := aT_S g1 q2
    have q5 := (ap_tak G hk hc hL q4).mp q2
    rcases h q (by omega) with ⟨-, w2⟩ | ⟨L', w1, w2, -⟩
    · rw [w2 L hL hB] at q4
      cases q4
    · have := h2 q (by omega) (by rw [w2]; exact nI_pos (by omega)) q5
      rw [this] at q3
      cases q3
  · rcases h q (by omega) with ⟨w1, -⟩ | ⟨L, w1, w2, w3, w4, w5⟩
    · rw [w1] at h2
      exact absurd neg1_lt h2
    · refine Or.inr ⟨L, w1, h5.trans w2, w3, ?_, fun L' v1 v2 v3 => b_false (fun hb => ?_)⟩
      · rw [show t + 1 - L = t - L + 1 by omega, aS_s]
        have hT := (ap_tak G hk hc w1 w4).mpr h3
        exact aNx_bt.mpr ⟨q, (aT_S g1 hT).1, hT, h4⟩
      · rw [show t + 1 - L' = t - L' + 1 by omega, aS_s] at hb
        obtain ⟨q', q1, q2, q3⟩ := aNx_bt.mp hb
        obtain ⟨-, q4⟩ := aT_S g1 q2
        have q5 := (ap_tak G hk hc v2 q4).mp q2
        rcases h q' (by omega) with ⟨-, u2⟩ | ⟨L2, u1, u2, u3, u4, u5⟩
        · rw [u2 L' v2 v3] at q4
          cases q4
        · have hle := h6 q' (by omega) (by rw [u2]; exact nI_pos (by omega)) q5 q3
          rw [u2, w2, nI_leN (by omega) (by omega)] at hle
          rw [u5 L' (by omega) v2 v3] at q4
          cases q4
theorem ap_step0 (hlf : lf = 0) {t : Nat} {wt : Nat → Int32} (h : aCh W F n cl bf bl bn lf p t t wt) : aCh W F n cl bf bl bn lf p t (t + 1) wt := by
  have hz : ∀ P j, aS W F n cl lf P j = 0 := fun P j => by
    have := aS_0 (W := W) (F := F) (N := n) (cl := cl) (m0 := lf) (p := P) (t := 0) hlf j
    rw [Nat.zero_add] at this
    exact this
  intro i hi
  rcases h i hi with ⟨h1, -⟩ | ⟨L, -, -, -, h4, -⟩
  · exact Or.inl ⟨h1, fun L _ _ => by rw [hz, b_0]⟩
  · rw [hz, b_0] at h4
    cases h4
/-- a look-ahead begins, or doesn't -/
theorem ap_begin {t : Nat} {wt : Nat → Int32} (ht : t ≤ 1000) (h : aCh W F n cl bf bl bn lf p t (t + 1) wt) (hB : aBg W F n cl bf bl bn p (t + 1)) {wt' : Nat → Int32} (hw : ∀ i, wt' i = if i < 24 ∧ bt lf i = true ∧ wt i < nI (t + 1) then nI (t + 1) else wt i) : aCh W F n cl bf bl bn lf p (t + 1) (t + 1) wt' := by
  intro i hi
  rw [hw i]
  by_cases hb : bt lf i = true
  · have hlt : wt i < nI (t + 1) := by
      rcases h i hi with ⟨h1, -⟩ | ⟨L, h1, h2, -⟩
      · rw [h1, Int32.lt_iff_toInt_lt, nI_toInt (by omega)]
        show (-1 : Int) < _
        omega
      · rw [h2, nI_ltN (by omega) (by omega)]
        omega
    rw [if_pos ⟨hi, hb, hlt⟩]
    refine Or.inr ⟨t + 1, by omega, rfl, hB, ?_, fun L' q1 q2 => by omega⟩
    rw [Nat.sub_self]
    exact hb
  · rw [if_neg (fun q => hb q.2.1)]
    have hf : bt (aS W F n cl lf (p + (t + 1)) (t + 1 - (t + 1))) i = false := by
      rw [Nat.sub_self]
      exact b_false hb
    rcases h i hi with ⟨h1, h2⟩ | ⟨L, h1, h2, h3, h4, h5⟩
    · refine Or.inl ⟨h1, fun L q1 q2 => ?_⟩
      rcases Nat.lt_or_ge t L with q | q
      · rw [show L = t + 1 by omega]; exact hf
      · exact h2 L q q2
    · refine Or.inr ⟨L, by omega, h2, h3, h4, fun L' q1 q2 q3 => ?_⟩
      rcases Nat.lt_or_ge t L' with q | q
      · rw [show L' = t + 1 by omega]; exact hf
      · exact h5 L' q1 q q3
theorem ap_nobegin {t : Nat} {wt : Nat → Int32} (h : aCh W F n cl bf bl bn lf p t (t + 1) wt) (hB : ¬ aBg W F n cl bf bl bn p (t + 1)) : aCh W F n cl bf bl bn lf p (t + 1) (t + 1) wt := by
  intro i hi
  rcases h i hi with ⟨h1, h2⟩ | ⟨L, h1, h2, h3, h4, h5⟩
  · refine Or.inl ⟨h1, fun L q1 q2 => ?_⟩
    rcases Nat.lt_or_ge t L with q | q
    · rw [show L = t + 1 by omega] at q2; exact absurd q2 hB
    · exact h2 L q q2
  · refine Or.inr ⟨L, by omega, h2, h3, h4, fun L' q1 q2 q3 => ?_⟩
    rcases Nat.lt_or_ge t L' with q | q
    · rw [show L' = t + 1 by omega] at q3; exact absurd q3 hB
    · exact h5 L' q1 q q3
/-- what stepAhead() makes of the matched length -/
theorem aMm_max {wt : Nat → Int32} {tk : Int32} {m0 : Int32} : ∀ k, m0 ≤ aMm wt tk ll m0 k ∧ (∀ q, q < k → ¬ wt q < 0 → bt tk q = true → bt ll q = true → wt q ≤ aMm wt tk ll m0 k) ∧ (aMm wt tk ll m0 k = m0 ∨ ∃ q, q < k ∧ ¬ wt q < 0 ∧ bt tk q = true ∧ bt ll q = true ∧ aMm wt tk ll m0 k = wt q)
  | 0 => ⟨Int32.le_refl _, fun q h => absurd h (by omega), Or.inl rfl⟩
  | k + 1 => by
    obtain ⟨h1, h2, h3⟩ := aMm_max (wt := wt) (tk := tk) (m0 := m0) k
    simp only [aMm]
    by_cases hc : (¬ wt k < 0 ∧ bt tk k = true) ∧ bt ll k = true
    · rw [if_pos hc]
      by_cases hlt : aMm wt tk ll m0 k < wt k
      · rw [if_pos hlt]
        refine ⟨Int32.le_of_lt (Int32.lt_of_le_of_lt h1 hlt), fun q q1 q2 q3 q4 => ?_, Or.inr ⟨k, by omega, hc.1.1, hc.1.2, hc.2, rfl⟩⟩
        rcases Nat.lt_or_ge q k with w | w
        · exact Int32.le_of_lt (Int32.lt_of_le_of_lt (h2 q w q2 q3 q4) hlt)
        · rw [show q = k by omega]; exact Int32.le_refl _
      · rw [if_neg hlt]
        refine ⟨h1, fun q q1 q2 q3 q4 => ?_, ?_⟩
        · rcases Nat.lt_or_ge q k with w | w
          · exact h2 q w q2 q3 q4
          · rw [show q = k by omega]; exact Int32.not_lt.mp hlt
        · rcases h3 with e | ⟨q, w⟩
          · exact Or.inl e
          · exact Or.inr ⟨q, by omega, w.2⟩
    · rw [if_neg hc]
      refine ⟨h1, fun q q1 q2 q3 q4 => ?_, ?_⟩
      · rcases Nat.lt_or_ge q k with w | w
        · exact h2 q w q2 q3 q4
        · have e : q = k := by omega
          subst e
          exact absurd ⟨⟨q2, q3⟩, q4⟩ hc
      · rcases h3 with e | ⟨q, w⟩
        · exact Or.inl e
        · exact Or.inr ⟨q, by omega, w.2⟩
theorem ap_mstep (G : aOk n sg bf bl lf ll F W Tk l) {t k : Nat} {wt : Nat → Int32} {m : Int32} (ht : t ≤ 1000) (hk : k < 12) (hc : cl (p + t) = nI k) (h : aCh W F n cl bf bl bn lf p t t wt) (hm : aMc W F n cl bf bl bn lf ll ln p t t m) : aMc W F n cl bf bl bn lf ll ln p t (t + 1) (aMm wt (Tk k) ll m 24) := by
  have g1 := G.1
  obtain ⟨Lm, m1, m2, m3, m4⟩ := hm
  obtain ⟨a1, a2, a3⟩ := aMm_max (wt := wt) (tk := Tk k) (ll := ll) (m0 := m) 24
  have mono : ∀ L, aAc W F n cl lf ll ln p L t → aAc W F n cl lf ll ln p L (t + 1) := fun L q => q.imp id (fun ⟨j, q1, q2⟩ => ⟨j, by omega, q2⟩)
  -- no longer one than the result
  have top : ∀ R, aMm wt (Tk k) ll m 24 = nI R → R ≤ t → ∀ L, R < L → L ≤ t → aBg W F n cl bf bl bn p L → ¬ aAc W F n cl lf ll ln p L (t + 1) := by
    intro R eR hR L q1 q2 q3 q4
    rw [eR, m2, nI_leN (by omega) (by omega)] at a1
    rcases q4 with q4 | ⟨j, q4, q5⟩
    · exact m4 L (by omega) q2 q3 (Or.inl q4)
    · rcases Nat.lt_or_ge (L + j) t with w | w
      · exact m4 L (by omega) q2 q3 (Or.inr ⟨j, w, q5⟩)
      · rw [show j = t - L by omega] at q5
        obtain ⟨q, w1, w2, w3⟩ := and_ne.mp q5
        obtain ⟨w4, w5⟩ := aT_S g1 w2
        have w6 := (ap_tak G hk hc q2 w5).mp w2
        rcases h q (by omega) with ⟨-, u2⟩ | ⟨L2, u1, u2, u3, u4, u5⟩
        · rw [u2 L q2 q3] at w5
          cases w5
        · have hle := a2 q (by omega) (by rw [u2]; exact nI_pos (by omega)) w6 w3
          rw [u2, eR, nI_leN (by omega) (by omega)] at hle
          rw [u5 L (by omega) q2 q3] at w5
          cases w5
  rcases a3 with e | ⟨q, w1, w2, w3, w4, w5⟩
  · rw [m2] at e
    refine ⟨Lm, m1, by rw [m2]; exact e, m3.imp id (fun w => ⟨w.1, mono _ w.2⟩), top Lm (by rw [m2]; exact e) m1⟩
  · rcases h q (by omega) with ⟨u1, -⟩ | ⟨L, u1, u2, u3, u4, -⟩
    · rw [u1] at w2
      exact absurd neg1_lt w2
    · have hT := (ap_tak G hk hc u1 u4).mpr w3
      refine ⟨L, u1, w5.trans u2, Or.inr ⟨u3, Or.inr ⟨t - L, by omega, and_ne.mpr ⟨q, by omega, hT, w4⟩⟩⟩, top L (w5.trans u2) u1⟩
theorem ap_mstep0 (hlf : lf = 0) {t : Nat} {m : Int32} (hm : aMc W F n cl bf bl bn lf ll ln p t t m) : aMc W F n cl bf bl bn lf ll ln p t (t + 1) m := by
  have hz : ∀ P j, aT W F n cl lf P j = 0 := fun P j => by
    have := aS_0 (W := W) (F := F) (N := n) (cl := cl) (m0 := lf) (p := P) (t := 0) hlf j
    rw [Nat.zero_add] at this
    exact aT_0 this
  have e : ∀ L, aAc W F n cl lf ll ln p L (t + 1) ↔ aAc W F n cl lf ll ln p L t := fun L => by
    constructor
    · rintro (q | ⟨j, q1, q2⟩)
      · exact Or.inl q
      · rw [hz] at q2
        exact absurd (by simp) q2
    · rintro (q | ⟨j, q1, q2⟩)
      · exact Or.inl q
      · rw [hz] at q2
        exact absurd (by simp) q2
  obtain ⟨Lm, m1, m2, m3, m4⟩ := hm
  exact ⟨Lm, m1, m2, m3.imp id (fun w => ⟨w.1, (e _).mpr w.2⟩), fun L q1 q2 q3 q4 => m4 L q1 q2 q3 ((e L).mp q4)⟩
theorem ap_mbegin {t : Nat} {m : Int32} (hm : aMc W F n cl bf bl bn lf ll ln p t (t + 1) m) (hB : aBg W F n cl bf bl bn p (t + 1)) : aMc W F n cl bf bl bn lf ll ln p (t + 1) (t + 1) (if ln = 0 then m else nI (t + 1)) := by
  obtain ⟨Lm, m1, m2, m3, m4⟩ := hm
  by_cases h0 : ln = 0
  · rw [if_pos h0]
    refine ⟨Lm, by omega, m2, m3, fun L q1 q2 q3 q4 => ?_⟩
    rcases Nat.lt_or_ge t L with w | w
    · rcases q4 with q4 | ⟨j, q4, -⟩
      · exact q4 h0
      · omega
    · exact m4 L q1 w q3 q4
  · rw [if_neg h0]
    exact ⟨t + 1, by omega, rfl, Or.inr ⟨hB, Or.inl h0⟩, fun L q1 q2 => by omega⟩
theorem ap_mnobegin {t : Nat} {m : Int32} (hm : aMc W F n cl bf bl bn lf ll ln p t (t + 1) m) (hB : ¬ aBg W F n cl bf bl bn p (t + 1)) : aMc W F n cl bf bl bn lf ll ln p (t + 1) (t + 1) m := by
  obtain ⟨Lm, m1, m2, m3, m4⟩ := hm
  refine ⟨Lm, by omega, m2, m3, fun L q1 q2 q3 q4 => ?_⟩
  rcases Nat.lt_or_ge t L with w | w
  · rw [show L = t + 1 by omega] at q3
    exact hB q3
  · exact m4 L q1 w q3 q4
/-- what stepAhead() answers -/
theorem aTn_iff {wt : Nat → Int32} {tk : Int32} : ∀ k, aTn wt tk k = 1 ↔ ∃ q, q < k ∧ ¬ wt q < 0 ∧ bt tk q = true
  | 0 => ⟨fun h => absurd h (show ¬ (0 : Int32) = 1 by decide), fun ⟨q, h, _⟩ => absurd h (by omega)⟩
  | k + 1 => by
    have ih := aTn_iff (wt := wt) (tk := tk) k
    simp only [aTn]
    by_cases hc : ¬ wt k < 0 ∧ bt tk k = true
    · rw [if_pos hc]
      exact ⟨fun _ => ⟨k, by omega, hc⟩, fun _ => rfl⟩
    · rw [if_neg hc, ih]
      constructor
      · rintro ⟨q, h1, h2⟩
        exact ⟨q, by omega, h2⟩
      · rintro ⟨q, h1, h2⟩
        rcases Nat.lt_or_ge q k with w | w
        · exact ⟨q, w, h2⟩
        · have e : q = k := by omega
          subst e
          exact absurd h2 hc
theorem ap_flag (G : aOk n sg bf bl lf ll F W Tk l) {t k : Nat} {wt : Nat → Int32} (ht : t ≤ 1000) (hk : k < 12) (hc : cl (p + t) = nI k) (h : aCh W F n cl bf bl bn lf p t t wt) : aTn wt (Tk k) 24 = 1 ↔ ∃ L, L ≤ t ∧ aBg W F n cl bf bl bn p L ∧ aT W F n cl lf (p + L) (t - L) ≠ 0 := by
  have g1 := G.1
  rw [aTn_iff]
  constructor
  · rintro ⟨q, h1, h2, h3⟩
    rcases h q h1 with ⟨u1, -⟩ | ⟨L, u1, u2, u3, u4, -⟩
    · rw [u1] at h2
      exact absurd neg1_lt h2
    · exact ⟨L, u1, u3, zne0' ((ap_tak G hk hc u1 u4).mpr h3)⟩
  · rintro ⟨L, h1, h2, h3⟩
    obtain ⟨q, q1, q2⟩ := zne0 h3
    obtain ⟨q3, q4⟩ := aT_S g1 q2
    rcases h q (by omega) with ⟨-, u2⟩ | ⟨L2, u1, u2, -⟩
    · rw [u2 L h1 h2] at q4
      cases q4
    · exact ⟨q, by omega, by rw [u2]; exact nI_pos (by omega), (ap_tak G hk hc h1 q4).mp q2⟩
/-- the end: at the text's end, or where nothing goes on -/
theorem ap_end (G : aOk n sg bf bl lf ll F W Tk l) {t : Nat} {m : Int32} (ht : t ≤ 1000) (hln : ln = 0 ∨ ln = 1) (hpt : p + t ≤ len) (hm : aMc W F n cl bf bl bn lf ll ln p t t m) (he : p + t = len ∨ (1 ≤ t ∧ aV W F n cl bf bl bn lf p (t - 1) = 0)) : ∃ L, m = nI L ∧ L ≤ t ∧ aLn W F n cl bf bl lf ll ln len p L := by
  obtain ⟨Lm, m1, m2, m3, m4⟩ := hm
  -- up to here all is known
  have key : ∀ L, p + L ≤ len → aT W F n cl bf p (L - 1) &&& bl ≠ 0 → 1 ≤ L → L ≤ t ∧ (aAh W F n cl lf ll ln len (p + L) ↔ aAc W F n cl lf ll ln p L t) := by
    intro L h1 h2 h3
    have back : aAc W F n cl lf ll ln p L t → aAh W F n cl lf ll ln len (p + L) := by
      rintro (q | ⟨j, q1, q2⟩)
      · exact Or.inl (hln.resolve_left q)
      · exact Or.inr ⟨j, by omega, q2⟩
    rcases he with he | ⟨he1, he2⟩
    · refine ⟨by omega, ?_, back⟩
      rintro (q | ⟨j, q1, q2⟩)
      · exact Or.inl (by rw [q]; decide)
      · exact Or.inr ⟨j, by omega, q2⟩
    · obtain ⟨v1, v2⟩ := (ap_V G (t - 1)).mp he2
      have hS : aS W F n cl bf p t = 0 := by
        rw [show t = t - 1 + 1 by omega, aS_s, v1, aNx_0]
      have hlt : L ≤ t - 1 := by
        apply Classical.byContradiction
        intro hn
        have : aT W F n cl bf p (L - 1) = 0 := by
          rcases Nat.lt_or_ge (L - 1) t with w | w
          · rw [show L - 1 = t - 1 by omega]; exact v1
          · have e := aS_0 hS (L - 1 - t)
            rw [show t + (L - 1 - t) = L - 1 by omega] at e
            exact aT_0 e
        rw [this] at h2
        exact absurd (by simp) h2
      have hz := v2 L hlt (Or.inr ⟨h3, h2⟩)
      have hS2 : aS W F n cl lf (p + L) (t - L) = 0 := by
        rw [show t - L = t - 1 - L + 1 by omega, aS_s, hz, aNx_0]
      refine ⟨by omega, ?_, back⟩
      rintro (q | ⟨j, q1, q2⟩)
      · exact Or.inl (by rw [q]; decide)
      · rcases Nat.lt_or_ge (L + j) t with w | w
        · exact Or.inr ⟨j, w, q2⟩
        · have e := aS_0 hS2 (j - (t - L))
          rw [show t - L + (j - (t - L)) = j by omega] at e
          rw [aT_0 e] at q2
          exact absurd (by simp) q2
  refine ⟨Lm, m2, m1, ?_, fun L' q1 q2 q3 q4 => ?_⟩
  · rcases Nat.eq_zero_or_pos Lm with w | w
    · exact Or.inl w
    · rcases m3 with e | ⟨b1, b2⟩
      · exact Or.inl e
      · rcases b1 with ⟨b1, -⟩ | ⟨b0, b1⟩
        · exact Or.inl b1
        · exact Or.inr ⟨b0, by omega, b1, (key Lm (by omega) b1 b0).2.mpr b2⟩
  · obtain ⟨k1, k2⟩ := key L' q2 q3 (by omega)
    exact m4 L' q1 k1 (Or.inr ⟨by omega, q3⟩) (k2.mp q4)
end AQ
