/-! ===== the class's way to walk finds what the model's finds: the numbers alone ===== -/
/-- a rule's masks are as they should be: l are its leaves, sg cuts body from look-ahead, Tk are the masks that the class has of the classes -/
def aOk (n sg : Nat) (bf bl lf ll : Int32) (F W Tk : Nat → Int32) (l : Nat → Prop) : Prop :=
  n ≤ 24 ∧ (∀ i, l i → i < n) ∧ (∀ i, bt bf i = true → l i ∧ i < sg) ∧ (∀ i, bt bl i = true → i < sg) ∧ (∀ i, bt lf i = true → l i ∧ sg ≤ i) ∧ (∀ i, bt ll i = true → sg ≤ i) ∧ (∀ q i, q < n → bt (F q) i = true → l i ∧ (q < sg ↔ i < sg)) ∧ (∀ c i, c < 12 → l i → (bt (Tk c) i = true ↔ (W i = 12 ∨ W i = nI c)))
theorem b_false {x : Int32} {i : Nat} (h : ¬ bt x i = true) : bt x i = false := by
  cases hb : bt x i with
  | false => rfl
  | true => exact absurd hb h
section AP
variable {n sg len p : Nat} {bf bl bn lf ll ln : Int32} {F W Tk : Nat → Int32} {l : Nat → Prop} {cl : Nat → Int32} {c : Nat → Nat}
theorem ap_nx (G : aOk n sg bf bl lf ll F W Tk l) {m : Int32} {i : Nat} (h : bt (aNx F m n) i = true) : l i := by
  obtain ⟨q, h1, h2, h3⟩ := aNx_bt.mp h
  exact (G.2.2.2.2.2.2.1 q i h1 h3).1
theorem ap_mt (G : aOk n sg bf bl lf ll F W Tk l) {m : Int32} (hm : ∀ i, bt m i = true → l i) {k : Nat} (hk : k < 12) : aMt W (nI k) m n = m &&& Tk k := by
  obtain ⟨g1, g2, g3, g4, g5, g6, g7, g8⟩ := G
  apply b_ext
  intro i hi
  have e := aMt_bt (W := W) (c := nI k) (m := m) (k := n) (by omega) hi
  rw [b_and]
  by_cases hb : bt m i = true
  · have hl := hm i hb
    by_cases ht : bt (Tk k) i = true
    · rw [hb, ht, e.mpr ⟨g2 i hl, hb, (g8 k i hk hl).mp ht⟩]
      rfl
    · rw [hb, b_false ht, b_false (fun q => ht ((g8 k i hk hl).mpr (e.mp q).2.2))]
      rfl
  · rw [b_false hb, b_false (fun q => hb (e.mp q).2.1)]
    rfl
theorem ap_S (G : aOk n sg bf bl lf ll F W Tk l) {m0 : Int32} (hm : ∀ i, bt m0 i = true → l i) (q : Nat) : ∀ t i, bt (aS W F n cl m0 q t) i = true → l i
  | 0, i, h => hm i h
  | t + 1, i, h => ap_nx G h
theorem ap_Sb (G : aOk n sg bf bl lf ll F W Tk l) (q : Nat) : ∀ t i, bt (aS W F n cl bf q t) i = true → i < sg
  | 0, i, h => (G.2.2.1 i h).2
  | t + 1, i, h => by
    obtain ⟨k, h1, h2, h3⟩ := aNx_bt.mp h
    have h4 : k < 32 := by have := G.1; omega
    have h5 := (aMt_bt (by have := G.1; omega) h4).mp h2
    exact ((G.2.2.2.2.2.2.1 k i h1 h3).2).mp (ap_Sb G q t k h5.2.1)
theorem ap_Sl (G : aOk n sg bf bl lf ll F W Tk l) (q : Nat) : ∀ t i, bt (aS W F n cl lf q t) i = true → sg ≤ i
  | 0, i, h => (G.2.2.2.2.1 i h).2
  | t + 1, i, h => by
    obtain ⟨k, h1, h2, h3⟩ := aNx_bt.mp h
    have h4 : k < 32 := by have := G.1; omega
    have h5 := (aMt_bt (by have := G.1; omega) h4).mp h2
    have h6 := ap_Sl G q t k h5.2.1
    have h7 := (G.2.2.2.2.2.2.1 k i h1 h3).2
    omega
/-- the body's match of length L ends, so that a look-ahead begins there -/
def aBg (W F : Nat → Int32) (n : Nat) (cl : Nat → Int32) (bf bl bn : Int32) (p L : Nat) : Prop := (L = 0 ∧ bn ≠ 0) ∨ (1 ≤ L ∧ aT W F n cl bf p (L - 1) &&& bl ≠ 0)
theorem and_ne {x y : Int32} : x &&& y ≠ 0 ↔ ∃ i, i < 32 ∧ bt x i = true ∧ bt y i = true := by
  constructor
  · intro h
    obtain ⟨i, hi, hb⟩ := zne0 h
    rw [b_and, Bool.and_eq_true] at hb
    exact ⟨i, hi, hb.1, hb.2⟩
  · rintro ⟨i, hi, h1, h2⟩
    exact zne0' (i := i) (by rw [b_and, h1, h2]; rfl)
/-- body and look-aheads as one set are the union of all -/
theorem ap_U (G : aOk n sg bf bl lf ll F W Tk l) : ∀ t i, i < 32 → (bt (aU W F n cl bf bl bn lf p t) i = true ↔ (bt (aS W F n cl bf p t) i = true ∨ ∃ L, L ≤ t ∧ aBg W F n cl bf bl bn p L ∧ bt (aS W F n cl lf (p + L) (t - L)) i = true))
  | 0, i, hi => by
    simp only [aU, aS]
    rw [b_or, Bool.or_eq_true]
    by_cases hb : bn = 0
    · rw [if_pos hb, b_0]
      constructor
      · rintro (h | h)
        · exact Or.inl h
        · cases h
      · rintro (h | ⟨L, h1, h2, h3⟩)
        · exact Or.inl h
        · rcases h2 with ⟨-, h2⟩ | ⟨h2, -⟩
          · exact absurd hb h2
          · omega
    · rw [if_neg hb]
      constructor
      · rintro (h | h)
        · exact Or.inl h
        · exact Or.inr ⟨0, by omega, Or.inl ⟨rfl, hb⟩, h⟩
      · rintro (h | ⟨L, h1, h2, h3⟩)
        · exact Or.inl h
        · have e : L = 0 := by omega
          subst e
          exact Or.inr h3
  | t + 1, i, hi => by
    have ih := ap_U G t
    have g1 := G.1
    -- those that take
    have hv : ∀ k, k < 32 → (bt (aMt W (cl (p + t)) (aU W F n cl bf bl bn lf p t) n) k = true ↔ (bt (aT W F n cl bf p t) k = true ∨ ∃ L, L ≤ t ∧ aBg W F n cl bf bl bn p L ∧ bt (aT W F n cl lf (p + L) (t - L)) k = true)) := by
      intro k hk
      rw [aMt_bt (by omega) hk, ih k hk]
      unfold aT
      rw [aMt_bt (by omega) hk]
      constructor
      · rintro ⟨h1, h2 | ⟨L, h2, h3, h4⟩, h5⟩
        · exact Or.inl ⟨h1, h2, h5⟩
        · refine Or.inr ⟨L, h2, h3, ?_⟩
          rw [show p + L + (t - L) = p + t by omega, aMt_bt (by omega) hk]
          exact ⟨h1, h4, h5⟩
      · rintro (⟨h1, h2, h3⟩ | ⟨L, h1, h2, h3⟩)
        · exact ⟨h1, Or.inl h2, h3⟩
        · rw [show p + L + (t - L) = p + t by omega, aMt_bt (by omega) hk] at h3
          exact ⟨h3.1, Or.inr ⟨L, h1, h2, h3.2.1⟩, h3.2.2⟩
    -- a body ends there just where the body's own set says so
    have hbl : aMt W (cl (p + t)) (aU W F n cl bf bl bn lf p t) n &&& bl ≠ 0 ↔ aT W F n cl bf p t &&& bl ≠ 0 := by
      rw [and_ne, and_ne]
      constructor
      · rintro ⟨k, hk, h1, h2⟩
        rcases (hv k hk).mp h1 with h | ⟨L, h3, h4, h5⟩
        · exact ⟨k, hk, h, h2⟩
        · have h6 := ap_Sl G (cl := cl) (p + L) (t - L) k (by
            unfold aT at h5
            exact ((aMt_bt (by omega) hk).mp h5).2.1)
          have h7 := G.2.2.2.1 k h2
          omega
      · rintro ⟨k, hk, h1, h2⟩
        exact ⟨k, hk, (hv k hk).mpr (Or.inl h1), h2⟩
    show bt (aNx F (aMt W (cl (p + t)) (aU W F n cl bf bl bn lf p t) n) n ||| (if aMt W (cl (p + t)) (aU W F n cl bf bl bn lf p t) n &&& bl = 0 then 0 else lf)) i = true ↔ _
    rw [b_or, Bool.or_eq_true, aNx_bt]
    constructor
    · rintro (⟨q, h1, h2, h3⟩ | h)
      · rcases (hv q (by omega)).mp h2 with h | ⟨L, h4, h5, h6⟩
        · exact Or.inl (by rw [aS_s]; exact aNx_bt.mpr ⟨q, h1, h, h3⟩)
        · refine Or.inr ⟨L, by omega, h5, ?_⟩
          rw [show t + 1 - L = t - L + 1 by omega, aS_s]
          exact aNx_bt.mpr ⟨q, h1, h6, h3⟩
      · by_cases hz : aMt W (cl (p + t)) (aU W F n cl bf bl bn lf p t) n &&& bl = 0
        · rw [if_pos hz, b_0] at h
          cases h
        · rw [if_neg hz] at h
          refine Or.inr ⟨t + 1, by omega, Or.inr ⟨by omega, hbl.mp hz⟩, ?_⟩
          rw [Nat.sub_self]
          exact h
    · rintro (h | ⟨L, h1, h2, h3⟩)
      · rw [aS_s] at h
        obtain ⟨q, q1, q2, q3⟩ := aNx_bt.mp h
        exact Or.inl ⟨q, q1, (hv q (by omega)).mpr (Or.inl q2), q3⟩
      · by_cases hL : L = t + 1
        · subst hL
          rw [Nat.sub_self] at h3
          right
          rcases h2 with ⟨h2, -⟩ | ⟨-, h2⟩
          · omega
          · rw [if_neg (hbl.mpr h2)]
            exact h3
        · rw [show t + 1 - L = t - L + 1 by omega, aS_s] at h3
          obtain ⟨q, q1, q2, q3⟩ := aNx_bt.mp h3
          exact Or.inl ⟨q, q1, (hv q (by omega)).mpr (Or.inr ⟨L, by omega, h2, q2⟩), q3⟩
theorem ap_V (G : aOk n sg bf bl lf ll F W Tk l) (t : Nat) : aV W F n cl bf bl bn lf p t = 0 ↔ (aT W F n cl bf p t = 0 ∧ ∀ L, L ≤ t → aBg W F n cl bf bl bn p L → aT W F n cl lf (p + L) (t - L) = 0) := by
  have g1 := G.1
  have hv : ∀ k, k < 32 → (bt (aV W F n cl bf bl bn lf p t) k = true ↔ (bt (aT W F n cl bf p t) k = true ∨ ∃ L, L ≤ t ∧ aBg W F n cl bf bl bn p L ∧ bt (aT W F n cl lf (p + L) (t - L)) k = true)) := by
    intro k hk
    unfold aV
    rw [aMt_bt (by omega) hk, ap_U G t k hk]
    unfold aT
    rw [aMt_bt (by omega) hk]
    constructor
    · rintro ⟨h1, h2 | ⟨L, h2, h3, h4⟩, h5⟩
      · exact Or.inl ⟨h1, h2, h5⟩
      · refine Or.inr ⟨L, h2, h3, ?_⟩
        rw [show p + L + (t - L) = p + t by omega, aMt_bt (by omega) hk]
        exact ⟨h1, h4, h5⟩
    · rintro (⟨h1, h2, h3⟩ | ⟨L, h1, h2, h3⟩)
      · exact ⟨h1, Or.inl h2, h3⟩
      · rw [show p + L + (t - L) = p + t by omega, aMt_bt (by omega) hk] at h3
        exact ⟨h3.1, Or.inr ⟨L, h1, h2, h3.2.1⟩, h3.2.2⟩
  constructor
  · intro h
    refine ⟨?_, fun L h1 h2 => ?_⟩
    · apply Classical.byContradiction
      intro hn
      obtain ⟨k, hk, hb⟩ := zne0 hn
      have := (hv k hk).mpr (Or.inl hb)
      rw [h, b_0] at this
      cases this
    · apply Classical.byContradiction
      intro hn
      obtain ⟨k, hk, hb⟩ := zne0 hn
      have := (hv k hk).mpr (Or.inr ⟨L, h1, h2, hb⟩)
      rw [h, b_0] at this
      cases this
  · rintro ⟨h1, h2⟩
    apply Classical.byContradiction
    intro hn
    obtain ⟨k, hk, hb⟩ := zne0 hn
    rcases (hv k hk).mp hb with h | ⟨L, h3, h4, h5⟩
    · rw [h1, b_0] at h
      cases h
    · rw [h2 L h3 h4, b_0] at h5
      cases h5
/-- the waiting lengths say what is open of all look-aheads that began up to T, at the place t -/
def aCh (W F : Nat → Int32) (n : Nat) (cl : Nat → Int32) (bf bl bn lf : Int32) (p T t : Nat) (wt : Nat → Int32) : Prop :=
  ∀ i, i < 24 → (wt i = -1 ∧ ∀ L, L ≤ T → aBg W F n cl bf bl bn p L → bt (aS W F n cl lf (p + L) (t - L)) i = false) ∨ (∃ L, L ≤ T ∧ wt i = nI L ∧ aBg W F n cl bf bl bn p L ∧ bt (aS W F n cl lf (p + L) (t - L)) i = true ∧ ∀ L', L < L' → L' ≤ T → aBg W F n cl bf bl bn p L' → bt (aS W F n cl lf (p + L') (t - L')) i = false)
/-- the greatest of the waiting lengths that go on to i -/
theorem aWv_max {wt : Nat → Int32} {tk : Int32} {F : Nat → Int32} (hw : ∀ q, q < 24 → wt q = -1 ∨ ∃ L, L ≤ 1000 ∧ wt q = nI L) (i : Nat) : ∀ k, k ≤ 24 → (aWv wt tk F k i = -1 ∧ ∀ q, q < k → ¬ wt q < 0 → bt tk q = true → bt (F q) i = false) ∨ (∃ q, q < k ∧ ¬ wt q < 0 ∧ bt tk q = true ∧ bt (F q) i = true ∧ aWv wt tk F k i = wt q ∧ ∀ q', q' < k → ¬ wt q' < 0 → bt tk q' = true → bt (F q') i = true → wt q' ≤ wt q)
  | 0, _ => Or.inl ⟨rfl, fun q h => absurd h (by omega)⟩
  | k + 1, hk => by
    have ih := aWv_max (tk := tk) (F := F) hw i k (by omega)
    simp only [aWv]
    by_cases hc : (¬ wt k < 0 ∧ bt tk k = true) ∧ bt (F k) i = true
    · obtain ⟨⟨c1, c2⟩, c3⟩ := hc
      rcases ih with ⟨h1, h2⟩ | ⟨q, h1, h2, h3, h4, h5, h6⟩
      · have hlt : aWv wt tk F k i < wt k := by
          rw [h1]
          rcases hw k (by omega) with e | ⟨L, hL, e⟩
          · rw [e] at c1
            exact absurd (by decide) c1
          · rw [e, Int32.lt_iff_toInt_lt, nI_toInt (by omega)]
            show (-1 : Int) < _
            omega
        rw [if_pos ⟨⟨c1, c2⟩, c3, hlt⟩]
        refine Or.inr ⟨k, by omega, c1, c2, c3, rfl, fun q' w1 w2 w3 w4 => ?_⟩
        rcases Nat.lt_or_ge q' k with w | w
        · rw [h2 q' w w2 w3] at w4
          cases w4
        · rw [show q' = k by omega]
          exact Int32.le_refl _
      · by_cases hlt : aWv wt tk F k i < wt k
        · rw [if_pos ⟨⟨c1, c2⟩, c3, hlt⟩]
          refine Or.inr ⟨k, by omega, c1, c2, c3, rfl, fun q' w1 w2 w3 w4 => ?_⟩
          rcases Nat.lt_or_ge q' k with w | w
          · have := h6 q' w w2 w3 w4
            rw [h5] at hlt
            exact Int32.le_of_lt (Int32.lt_of_le_of_lt this hlt)
          · rw [show q' = k by omega]
            exact Int32.le_refl _
        · rw [if_neg (fun z => hlt z.2.2)]
          refine Or.inr ⟨q, by omega, h2, h3, h4, h5, fun q' w1 w2 w3 w4 => ?_⟩
          rcases Nat.lt_or_ge q' k with w | w
          · exact h6 q' w w2 w3 w4
          · rw [show q' = k by omega]
            rw [h5] at hlt
            exact Int32.not_lt.mp hlt
    · rw [if_neg (fun z => hc ⟨z.1, z.2.1⟩)]
      rcases ih with ⟨h1, h2⟩ | ⟨q, h1, h2, h3, h4, h5, h6⟩
      · refine Or.inl ⟨h1, fun q w1 w2 w3 => ?_⟩
        rcases Nat.lt_or_ge q k with w | w
        · exact h2 q w w2 w3
        · have e : q = k := by omega
          subst e
          exact b_false (fun z => hc ⟨⟨w2, w3⟩, z⟩)
      · refine Or.inr ⟨q, by omega, h2, h3, h4, h5, fun q' w1 w2 w3 w4 => ?_⟩
        rcases Nat.lt_or_ge q' k with w | w
        · exact h6 q' w w2 w3 w4
        · have e : q' = k := by omega
          subst e
          exact absurd ⟨⟨w2, w3⟩, w4⟩ hc
end AP
