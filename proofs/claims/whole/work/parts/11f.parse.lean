/-! ===== class and model read a pattern alike ===== -/
def mok (ch : Nat → Nat) (s i : Nat) (m : Int32) : Prop := ∀ t, bt m t = true → s ≤ t ∧ t < i ∧ lfc (ch t)
def pok (ch : Nat → Nat) (s i : Nat) (P : Pt) : Prop := mok ch s i P.1 ∧ mok ch s i P.2.1
def Fok (ch : Nat → Nat) (s i : Nat) (F : Nat → Int32) : Prop := ∀ q t, q < 24 → bt (F q) t = true → lfc (ch t) ∧ t < i ∧ q < i ∧ (q < s ↔ t < s)
def Tok (ch : Nat → Nat) (i : Nat) (T : Nat → Int32) : Prop := ∀ c t, c < 12 → (bt (T c) t = true ↔ (t < i ∧ lfc (ch t) ∧ (ch t = 46 ∨ ch t = 65 + c)))
def fOk (n : Nat) (ch : Nat → Nat) (sg : Nat) (B L : Pt) (F T : Nat → Int32) : Prop := sg ≤ n ∧ pok ch 0 sg B ∧ pok ch sg n L ∧ pB L ∧ Fok ch sg n F ∧ Tok ch n T ∧ pB B
section OK
variable {ch : Nat → Nat} {s i : Nat}
theorem mok_0 : mok ch s i 0 := fun t h => by rw [b_0] at h; exact absurd h (by decide)
theorem mok_or {a b : Int32} (h1 : mok ch s i a) (h2 : mok ch s i b) : mok ch s i (a ||| b) := fun t h => by
  rw [b_or] at h
  rcases Bool.or_eq_true_iff.mp h with z | z
  · exact h1 t z
  · exact h2 t z
theorem mok_mn {a : Int32} {i' : Nat} (h : mok ch s i a) (hi : i ≤ i') : mok ch s i' a := fun t z => by
  obtain ⟨x1, x2, x3⟩ := h t z
  exact ⟨x1, by omega, x3⟩
theorem pok_mn {P : Pt} {i' : Nat} (h : pok ch s i P) (hi : i ≤ i') : pok ch s i' P := ⟨mok_mn h.1 hi, mok_mn h.2 hi⟩
theorem pok_N : pok ch s i pN := ⟨mok_0, mok_0⟩
theorem pok_E : pok ch s i pE := ⟨mok_0, mok_0⟩
theorem pok_or {P Q : Pt} (h1 : pok ch s i P) (h2 : pok ch s i Q) : pok ch s i (pOr P Q) := ⟨mok_or h1.1 h2.1, mok_or h1.2 h2.2⟩
theorem pok_fo {P Q : Pt} (h1 : pok ch s i P) (h2 : pok ch s i Q) : pok ch s i (pFo P Q) := by
  unfold pFo pok
  dsimp only
  constructor
  · split
    · exact h1.1
    · exact mok_or h1.1 h2.1
  · split
    · exact h2.2
    · exact mok_or h1.2 h2.2
theorem pok_it {r : Nat} {P : Pt} (h : pok ch s i P) : pok ch s i (itE r P) := h
theorem Fok_lk {F : Nat → Int32} {m x : Int32} (h : Fok ch s i F) (h1 : mok ch s i m) (h2 : mok ch s i x) : Fok ch s i (pLk F m x) := fun q t hq hb => by
  unfold pLk at hb
  by_cases e : bt m q = true
  · rw [if_pos e, b_or] at hb
    rcases Bool.or_eq_true_iff.mp hb with z | z
    · exact h q t hq z
    · obtain ⟨a1, a2, a3⟩ := h1 q e
      obtain ⟨b1, b2, b3⟩ := h2 t z
      exact ⟨b3, b2, a2, by omega⟩
  · rw [if_neg e] at hb
    exact h q t hq hb
theorem Fok_it {F : Nat → Int32} {P : Pt} {r : Nat} (h : Fok ch s i F) (hP : pok ch s i P) : Fok ch s i (itF r F P) := by
  unfold itF
  split
  · exact Fok_lk h hP.2 hP.1
  · exact h
theorem Fok_mn {F : Nat → Int32} {i' : Nat} (h : Fok ch s i F) (hi : i ≤ i') : Fok ch s i' F := fun q t hq hb => by
  obtain ⟨x1, x2, x3, x4⟩ := h q t hq hb
  exact ⟨x1, by omega, by omega, x4⟩
theorem Tok_1 {T : Nat → Int32} (h : Tok ch i T) (hc : ¬ lfc (ch i)) : Tok ch (i + 1) T := fun c t hc' => by
  rw [h c t hc']
  constructor
  · exact fun z => ⟨by omega, z.2⟩
  · intro z
    refine ⟨?_, z.2⟩
    rcases Nat.lt_or_ge t i with w | w
    · exact w
    · have : t = i := by omega
      subst this
      exact absurd z.2.1 hc
theorem b1_bt {t : Nat} (hi : i < 24) : bt (bit1 i) t = true ↔ t = i := by
  by_cases h : t < 32
  · rw [zpow (by omega) h, decide_eq_true_iff]
  · rw [b_big (by omega)]
    constructor
    · exact fun z => absurd z (by decide)
    · exact fun z => by omega
theorem Tok_l {T : Nat → Int32} (hi : i < 24) (h : Tok ch i T) (hc : lfc (ch i)) : Tok ch (i + 1) (tkL (ch i) (bit1 i) T) := fun c t hc' => by
  unfold tkL
  by_cases e : ch i = 46 ∨ ch i = 65 + c
  · rw [if_pos e, b_or, Bool.or_eq_true_iff, h c t hc', b1_bt hi]
    constructor
    · rintro (z | z)
      · exact ⟨by omega, z.2⟩
      · subst z; exact ⟨by omega, hc, e⟩
    · intro z
      by_cases et : t = i
      · exact Or.inr et
      · exact Or.inl ⟨by omega, z.2⟩
  · rw [if_neg e, h c t hc']
    constructor
    · exact fun z => ⟨by omega, z.2⟩
    · intro z
      refine ⟨?_, z.2⟩
      rcases Nat.lt_or_ge t i with w | w
      · exact w
      · have : t = i := by omega
        subst this
        exact absurd z.2.2 e
theorem pok_b (hi : i < 24) (hs : s ≤ i) (hc : lfc (ch i)) : pok ch s (i + 1) (bit1 i, bit1 i, 0) := by
  have : mok ch s (i + 1) (bit1 i) := fun t ht => by
    have := (b1_bt hi).mp ht
    subst this
    exact ⟨hs, by omega, hc⟩
  exact ⟨this, this⟩
end OK
theorem bhs_1 {hs : Nat → Nat} {d : Nat} (h : hs d ≠ 0) : bhs hs d = 1 := if_neg h
theorem bhs_0 {hs : Nat → Nat} {d : Nat} (h : hs d = 0) : bhs hs d = 0 := if_pos h
theorem bhs_b {hs : Nat → Nat} {d : Nat} : bhs hs d < 1000 := by unfold bhs; split <;> omega
theorem bhs_i {hs : Nat → Nat} {d : Nat} : bhs hs d ≠ 0 ↔ hs d ≠ 0 := by
  by_cases e : hs d = 0
  · rw [bhs_0 e]; exact ⟨fun z => absurd rfl z, fun z => absurd e z⟩
  · rw [bhs_1 e]; exact ⟨fun _ => e, fun _ => by decide⟩
theorem parse {ra n : Nat} {ch : Nat → Nat} (hra : ra + 9 ≤ 152) (hC : zruleC ra) (hR : zruleR ra) (hn : n ≤ 24) : ∀ rem i d (A S : Nat → Pt) (F T : Nat → Int32) (hs : Nat → Nat) lk s (bo : Pt) m, i + rem = n → d < 5 → (∀ j, j ≤ d → hs j ≤ i) → ((lk = 0 ∧ s = 0) ∨ (lk = 1 ∧ s ≤ i)) → (lk = 1 → pok ch 0 s bo ∧ pB bo) → (∀ j, j ≤ d → pok ch s i (A j) ∧ pok ch s i (S j)) → Fok ch s i F → Tok ch i T → (m = 0 ∨ (m = 1 ∧ ¬ (i < n ∧ isr (ch i)))) →
    ∃ v B L F' T' sg, FR n ch d (bhs hs d) m lk i v ∧ MR n ch d A S F hs lk bo i v B L F' ∧ ((∃ f, f ≤ n ∧ v = nI f) ∨ (v = -1 ∧ CR n ch ra d A S F T lk bo i B L F' T' ∧ fOk n ch sg B L F' T')) := by
  intro rem
  induction rem using Nat.strongRecOn with
  | ind rem ih =>
  intro i d A S F T hs lk s bo m hrem hd hhs hlk hbo hAS hF hT hm
  have hh : hs d < 1000 := by have := hhs d (Nat.le_refl _); omega
  have hlk2 : lk = 0 ∨ lk = 1 := hlk.imp (fun z => z.1) (fun z => z.1)
  have hsi : s ≤ i := by omega
  by_cases hin : i = n
  · subst hin
    refine ⟨if bhs hs d ≠ 0 ∧ d = 0 then -1 else nI i, if lk = 1 then bo else pOr (A 0) (S 0), if lk = 1 then pOr (A 0) (S 0) else pE, F, T, if lk = 1 then s else i, FR_end hd bhs_b, MR_end hh hlk2, ?_⟩
    by_cases e : bhs hs d ≠ 0 ∧ d = 0
    · obtain ⟨e1, rfl⟩ := e
      refine Or.inr ⟨if_pos ⟨e1, rfl⟩, (CR_end hra hC hR).resolve_right (fun z => z hlk2), ?_⟩
      obtain ⟨a0, s0⟩ := hAS 0 (Nat.le_refl _)
      rcases hlk with ⟨rfl, rfl⟩ | ⟨rfl, hs'⟩
      · rw [if_neg (show ¬ 0 = 1 by decide), if_neg (show ¬ 0 = 1 by decide), if_neg (show ¬ 0 = 1 by decide)]
        exact ⟨Nat.le_refl _, pok_or a0 s0, pok_E, pB_E, fun q t hq hb => by
          obtain ⟨x1, x2, x3, x4⟩ := hF q t hq hb
          exact ⟨x1, x2, x3, by omega⟩, hT, pB_or⟩
      · rw [if_pos rfl, if_pos rfl, if_pos rfl]
        exact ⟨hs', (hbo rfl).1, pok_or a0 s0, pB_or, hF, hT, (hbo rfl).2⟩
    · refine Or.inl ⟨i, Nat.le_refl _, if_neg e⟩
  have hi : i < n := by omega
  -- behind an item
  have item : ∀ d1 (A1 S1 : Nat → Pt) (F1 T1 : Nat → Int32) (hs1 : Nat → Nat), d1 < 5 → (∀ j, j ≤ d1 → hs1 j ≤ i + 1) → hs1 d1 ≠ 0 → (∀ j, j ≤ d1 → pok ch s (i + 1) (A1 j) ∧ pok ch s (i + 1) (S1 j)) → Fok ch s (i + 1) F1 → Tok ch (i + 1) T1 →
      ∃ v B L F' T' sg, FR n ch d1 1 1 lk (i + 1) v ∧ MR n ch d1 A1 S1 F1 hs1 lk bo (nx n ch (i + 1)) v B L F' ∧ ((∃ f, f ≤ n ∧ v = nI f) ∨ (v = -1 ∧ CR n ch ra d1 A1 S1 F1 T1 lk bo (i + 1) B L F' T' ∧ fOk n ch sg B L F' T')) := by
    intro d1 A1 S1 F1 T1 hs1 y1 y2 y3 y4 y5 y6
    by_cases er : i + 1 < n ∧ isr (ch (i + 1))
    · obtain ⟨v, B, L, F', T', sg, r1, r2, r3⟩ := ih (rem - 2) (by omega) (i + 2) d1 A1 S1 F1 T1 hs1 lk s bo 0 (by omega) y1 (fun j hj => by have := y2 j hj; omega) (hlk.imp id (fun z => ⟨z.1, by omega⟩)) hbo (fun j hj => ⟨pok_mn (y4 j hj).1 (by omega), pok_mn (y4 j hj).2 (by omega)⟩) (Fok_mn y5 (by omega)) (Tok_1 y6 (by omega)) (Or.inl rfl)
      rw [bhs_1 y3] at r1
      refine ⟨v, B, L, F', T', sg, FR_rep er.1 er.2 y1 (by omega) (by omega) r1, ?_, r3.imp id (fun z => ⟨z.1, CR_rep hra hC hR er.1 er.2 z.2.1, z.2.2⟩)⟩
      rw [show nx n ch (i + 1) = i + 2 from if_pos er]
      exact r2
    · obtain ⟨v, B, L, F', T', sg, r1, r2, r3⟩ := ih (rem - 1) (by omega) (i + 1) d1 A1 S1 F1 T1 hs1 lk s bo 1 (by omega) y1 y2 (hlk.imp id (fun z => ⟨z.1, by omega⟩)) hbo y4 y5 y6 (Or.inr ⟨rfl, er⟩)
      rw [bhs_1 y3] at r1
      refine ⟨v, B, L, F', T', sg, r1, ?_, r3⟩
      rw [show nx n ch (i + 1) = i + 1 from if_neg er]
      exact r2
  -- an item P that is added at the depth d1
  have add : ∀ d1 P, d1 ≤ d → (∀ T1 : Nat → Int32, Tok ch (i + 1) T1 → pok ch s (i + 1) P → ∃ v B L F' T' sg, FR n ch d1 1 1 lk (i + 1) v ∧ MR n ch d1 A (up S d1 (pFo (S d1) (itE (sgn n ch (i + 1)) P))) (pLk (itF (sgn n ch (i + 1)) F P) (S d1).2.1 (itE (sgn n ch (i + 1)) P).1) (up hs d1 (hs d1 + 1)) lk bo (nx n ch (i + 1)) v B L F' ∧ ((∃ f, f ≤ n ∧ v = nI f) ∨ (v = -1 ∧ CR n ch ra d1 A (up S d1 (pFo (S d1) (itE (sgn n ch (i + 1)) P))) (pLk (itF (sgn n ch (i + 1)) F P) (S d1).2.1 (itE (sgn n ch (i + 1)) P).1) T1 lk bo (i + 1) B L F' T' ∧ fOk n ch sg B L F' T'))) := by
    intro d1 P hd1 T1 hT1 hP
    have hF1 := Fok_mn hF (show i ≤ i + 1 by omega)
    have hS1 := pok_mn (hAS d1 hd1).2 (show i ≤ i + 1 by omega)
    refine item d1 A _ _ T1 _ (by omega) (fun j hj => ?_) (by rw [up_e]; omega) (fun j hj => ⟨pok_mn (hAS j (by omega)).1 (by omega), ?_⟩) (Fok_lk (Fok_it hF1 hP) hS1.2 (pok_it (r := sgn n ch (i + 1)) hP).1) hT1
    · by_cases e : j = d1
      · subst e
        rw [up_e]
        have := hhs j hd1
        omega
      · rw [up_n e]
        have := hhs j (by omega)
        omega
    · by_cases e : j = d1
      · subst e
        rw [up_e]
        exact pok_fo hS1 (pok_it hP)
      · rw [up_n e]
        exact pok_mn (hAS j (by omega)).2 (by omega)
  by_cases c1 : lfc (ch i)
  · obtain ⟨v, B, L, F', T', sg, r1, r2, r3⟩ := add d (bit1 i, bit1 i, 0) (Nat.le_refl _) _ (Tok_l (by omega) hT c1) (pok_b (by omega) hsi c1)
    exact ⟨v, B, L, F', T', sg, FR_leaf hi c1 r1, MR_leaf hi hh c1 r2, r3.imp id (fun z => ⟨z.1, CR_leaf hra hC hR hi c1 z.2.1, z.2.2⟩)⟩
  have hT1 := Tok_1 hT c1
  by_cases c2 : ch i = 40 ∧ d < 4
  · obtain ⟨v, B, L, F', T', sg, r1, r2, r3⟩ := ih (rem - 1) (by omega) (i + 1) (d + 1) (up A (d + 1) pN) (up S (d + 1) pE) F T (up hs (d + 1) 0) lk s bo 0 (by omega) (by omega) (fun j hj => by
        by_cases e : j = d + 1
        · subst e; rw [up_e]; omega
        · rw [up_n e]; have := hhs j (by omega); omega) (hlk.imp id (fun z => ⟨z.1, by omega⟩)) hbo (fun j hj => by
        by_cases e : j = d + 1
        · subst e; rw [up_e, up_e]; exact ⟨pok_N, pok_E⟩
        · rw [up_n e, up_n e]; exact ⟨pok_mn (hAS j (by omega)).1 (by omega), pok_mn (hAS j (by omega)).2 (by omega)⟩) (Fok_mn hF (by omega)) hT1 (Or.inl rfl)
    rw [bhs_0 up_e] at r1
    exact ⟨v, B, L, F', T', sg, FR_open hi c2.1 c2.2 r1, MR_open hi hh c2.1 c2.2 r2, r3.imp id (fun z => ⟨z.1, CR_open hra hC hR hi c2.1 c2.2 z.2.1, z.2.2⟩)⟩
  by_cases c3 : ch i = 41 ∧ d ≠ 0 ∧ hs d ≠ 0
  · obtain ⟨e1, e2, e3⟩ := c3
    obtain ⟨d1, rfl⟩ : ∃ d1, d = d1 + 1 := ⟨d - 1, by omega⟩
    obtain ⟨a1, s1⟩ := hAS (d1 + 1) (Nat.le_refl _)
    obtain ⟨v, B, L, F', T', sg, r1, r2, r3⟩ := add d1 (pOr (A (d1 + 1)) (S (d1 + 1))) (by omega) _ hT1 (pok_mn (pok_or a1 s1) (by omega))
    refine ⟨v, B, L, F', T', sg, ?_, MR_close hi hh e1 e3 r2, r3.imp id (fun z => ⟨z.1, CR_close hra hC hR hi e1 z.2.1, z.2.2⟩)⟩
    rw [bhs_1 e3]
    exact FR_close hi e1 (by omega) r1
  by_cases c4 : ch i = 124 ∧ hs d ≠ 0
  · obtain ⟨a1, s1⟩ := hAS d (Nat.le_refl _)
    obtain ⟨v, B, L, F', T', sg, r1, r2, r3⟩ := ih (rem - 1) (by omega) (i + 1) d (up A d (pOr (A d) (S d))) (up S d pE) F T (up hs d 0) lk s bo 0 (by omega) hd (fun j hj => by
        by_cases e : j = d
        · subst e; rw [up_e]; omega
        · rw [up_n e]; have := hhs j (by omega); omega) (hlk.imp id (fun z => ⟨z.1, by omega⟩)) hbo (fun j hj => by
        by_cases e : j = d
        · subst e; rw [up_e, up_e]; exact ⟨pok_mn (pok_or a1 s1) (by omega), pok_E⟩
        · rw [up_n e, up_n e]; exact ⟨pok_mn (hAS j (by omega)).1 (by omega), pok_mn (hAS j (by omega)).2 (by omega)⟩) (Fok_mn hF (by omega)) hT1 (Or.inl rfl)
    rw [bhs_0 up_e] at r1
    refine ⟨v, B, L, F', T', sg, ?_, MR_bar hi hh c4.1 c4.2 r2, r3.imp id (fun z => ⟨z.1, CR_bar hra hC hR hi c4.1 z.2.1, z.2.2⟩)⟩
    rw [bhs_1 c4.2]
    exact FR_bar hi c4.1 hd r1
  by_cases c5 : ch i = 47 ∧ hs d ≠ 0 ∧ d = 0 ∧ lk = 0
  · obtain ⟨e1, e2, rfl, rfl⟩ := c5
    obtain rfl : s = 0 := by omega
    obtain ⟨a1, s1⟩ := hAS 0 (Nat.le_refl _)
    obtain ⟨v, B, L, F', T', sg, r1, r2, r3⟩ := ih (rem - 1) (by omega) (i + 1) 0 (up A 0 pN) (up S 0 pE) F T (up hs 0 0) 1 i (pOr (A 0) (S 0)) 0 (by omega) hd (fun j hj => by
        rw [show j = 0 by omega, up_e]; omega) (Or.inr ⟨rfl, by omega⟩) (fun _ => ⟨pok_or a1 s1, pB_or⟩) (fun j hj => by
        rw [show j = 0 by omega, up_e, up_e]; exact ⟨pok_N, pok_E⟩) (fun q t hq hb => by
          obtain ⟨x1, x2, x3, x4⟩ := hF q t hq hb
          exact ⟨x1, by omega, by omega, by omega⟩) hT1 (Or.inl rfl)
    rw [bhs_0 up_e] at r1
    refine ⟨v, B, L, F', T', sg, ?_, MR_slash hi hh e1 e2 r2, r3.imp id (fun z => ⟨z.1, CR_slash hra hC hR hi e1 z.2.1, z.2.2⟩)⟩
    rw [bhs_1 e2]
    exact FR_slash hi e1 r1
  refine ⟨nI i, pE, pE, F, T, 0, FR_fault hi hd bhs_b (by omega) (by omega) c1 c2 (fun z => c3 ⟨z.1, z.2.1, bhs_i.mp z.2.2⟩) (fun z => c4 ⟨z.1, bhs_i.mp z.2⟩) (fun z => c5 ⟨z.1, bhs_i.mp z.2.1, z.2.2⟩) (fun z => ?_), MR_fault hi hh (by omega) c1 c2 (fun z => c3 ⟨z.1, z.2.1, bhs_i.mp z.2.2⟩) (fun z => c4 ⟨z.1, bhs_i.mp z.2⟩) (fun z => c5 ⟨z.1, bhs_i.mp z.2.1, z.2.2⟩), Or.inl ⟨i, by omega, rfl⟩⟩
  rcases hm with rfl | ⟨rfl, hm⟩
  · exact z.2 rfl
  · exact hm ⟨hi, z.1⟩
