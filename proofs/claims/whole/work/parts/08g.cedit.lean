/-! ===== the class: a kind behind an edit ===== -/
/-- the raw boundaries behind an edit: those before the start, those newly found, those kept behind -/
def nxB (b q : Nat → Nat) (i0 n j1 kn ko : Nat) : Nat → Nat := fun i => if i < i0 then b i else if i < i0 + n then q (i - i0) else b (j1 + (i - i0 - n)) + kn - ko
def aTr (Mr : Mem) (cl : Nat → Int32) (k len N : Nat) (b : Nat → Nat) (i0 kn ko n : Nat) (q : Nat → Nat) (j1 : Nat) : Prop :=
  aChn Mr cl k len (fun x => kn ≤ x ∧ ∃ j, j ≤ N ∧ b j + kn = x + ko) (b i0) n q ∧ j1 ≤ N ∧ b j1 + kn = q n + ko ∧ kn ≤ q n
theorem aTr_u {Mr : Mem} {cl : Nat → Int32} {k len N : Nat} {b : Nat → Nat} (hb : ∀ i, i < N → b i < b (i + 1)) {i0 kn ko n n' j1 j1' : Nat} {q q' : Nat → Nat} (h : aTr Mr cl k len N b i0 kn ko n q j1) (h' : aTr Mr cl k len N b i0 kn ko n' q' j1') : n = n' ∧ j1 = j1' ∧ ∀ i, i ≤ n → q i = q' i := by
  obtain ⟨e1, e2⟩ := aChn_u h.1 h'.1 (fun x _ => Iff.rfl)
  refine ⟨e1, ?_, e2⟩
  have a := h.2.2.1
  have a' := h'.2.2.1
  rw [← e1, ← e2 n (Nat.le_refl _)] at a'
  rcases Nat.lt_trichotomy j1 j1' with w | w | w
  · have := inc_lt hb j1' h'.2.1 w
    omega
  · exact w
  · have := inc_lt hb j1 h.2.1 w
    omega
/-- the joined row increases, from 0 to the end -/
theorem nxB_ok {Mr : Mem} {cl : Nat → Int32} {k len len' N : Nat} {b : Nat → Nat} (h0 : b 0 = 0) (hb : ∀ i, i < N → b i < b (i + 1)) (hN : b N = len) {i0 kn ko n j1 : Nat} {q : Nat → Nat} (hi0 : i0 ≤ N) (hle : len' + ko = len + kn) (hs : b i0 ≤ kn) (h : aTr Mr cl k len' N b i0 kn ko n q j1) :
    (nxB b q i0 n j1 kn ko) 0 = 0 ∧ (∀ i, i < i0 + n + (N - j1) → nxB b q i0 n j1 kn ko i < nxB b q i0 n j1 kn ko (i + 1)) ∧ nxB b q i0 n j1 kn ko (i0 + n + (N - j1)) = len' ∧ (∀ i, i ≤ n → nxB b q i0 n j1 kn ko (i0 + i) = q i) ∧ (∀ i, i ≤ N - j1 → nxB b q i0 n j1 kn ko (i0 + n + i) + ko = b (j1 + i) + kn) := by
  obtain ⟨c1, c2, c3, c4⟩ := h
  have hq0 := c1.1
  have hge : ∀ i, i ≤ N - j1 → ko ≤ b (j1 + i) := fun i hi => by
    have := inc_le hb (show j1 + i ≤ N by omega) (show j1 ≤ j1 + i by omega)
    omega
  have eA : ∀ i, i < i0 → nxB b q i0 n j1 kn ko i = b i := fun i hi => if_pos hi
  have eC : ∀ i, i ≤ N - j1 → nxB b q i0 n j1 kn ko (i0 + n + i) + ko = b (j1 + i) + kn := fun i hi => by
    unfold nxB
    rw [if_neg (by omega), if_neg (by omega), show i0 + n + i - i0 - n = i by omega]
    have := hge i hi
    omega
  have eB : ∀ i, i ≤ n → nxB b q i0 n j1 kn ko (i0 + i) = q i := fun i hi => by
    rcases Nat.lt_or_ge i n with w | w
    · unfold nxB
      rw [if_neg (by omega), if_pos (by omega), show i0 + i - i0 = i by omega]
    · have e : i = n := by omega
      subst e
      have := eC 0 (by omega)
      simp only [Nat.add_zero] at this
      omega
  refine ⟨?_, fun i hi => ?_, ?_, eB, eC⟩
  · rcases Nat.eq_zero_or_pos i0 with e | e
    · have := eB 0 (by omega)
      rw [e] at this hq0
      rw [e, this, hq0, h0]
    · rw [eA 0 e, h0]
  · rcases Nat.lt_or_ge i i0 with w | w
    · rw [eA i w]
      rcases Nat.lt_or_ge (i + 1) i0 with w2 | w2
      · rw [eA _ w2]
        exact hb i (by omega)
      · rw [show i + 1 = i0 + 0 by omega, eB 0 (by omega), hq0]
        exact inc_lt hb i0 hi0 w
    · rcases Nat.lt_or_ge i (i0 + n) with w2 | w2
      · have e1 := eB (i - i0) (by omega)
        have e2 := eB (i - i0 + 1) (by omega)
        rw [show i0 + (i - i0) = i by omega] at e1
        rw [show i0 + (i - i0 + 1) = i + 1 by omega] at e2
        rw [e1, e2]
        exact aChn_lt c1 (by omega) (by omega)
      · have e1 := eC (i - i0 - n) (by omega)
        have e2 := eC (i - i0 - n + 1) (by omega)
        rw [show i0 + n + (i - i0 - n) = i by omega] at e1
        rw [show i0 + n + (i - i0 - n + 1) = i + 1 by omega] at e2
        have := inc_lt hb (i := j1 + (i - i0 - n)) (j1 + (i - i0 - n + 1)) (by omega) (by omega)
        omega
  · have := eC (N - j1) (Nat.le_refl _)
    rw [show j1 + (N - j1) = N by omega, hN] at this
    omega
theorem ced_ok {M M1 Mr : Mem} {cl cl' : Nat → Int32} {c' : Nat → Nat} {k len len' N pl ko kn i0 : Nat} {b : Nat → Nat} (hk : k < 3) (h1 : zO M1) (hR : iRs M1 Mr k) (hx : cTx M1 len' c') (hcl : ∀ t, t < len' → cl' t = nI (c' t)) (hl : len ≤ 100) (hK : cK M Mr cl k len N b) (hto : aTo Mr cl k len N b pl i0) (hpo : pl ≤ ko) (hpn : pl ≤ kn) (hko : ko ≤ len) (hle : len' + ko = len + kn) (hA : ∀ t, t < pl → cl t = cl' t) (hB : ∀ t, ko ≤ t → t < len → cl t = cl' (t + kn - ko)) (hL : ∀ x, x < len' → M1.2.1 (10 + 48 * k) x = if x < pl then M.2.1 (10 + 48 * k) x else if x < kn then 0 else M.2.1 (10 + 48 * k) (x + ko - kn)) :
    ∃ M2 n q j1, fX2_analyse M1 (8 + 48 * k) 1 (nI (b i0)) (nI kn) = some M2 ∧ zO M2 ∧ zq (kfa k) M1 M2 ∧ (∀ p, p < 5 → ∃ w1 w2, zWt M2 (zra k p) w1 w2) ∧ M2.2.1 (8 + 48 * k) 2 = nI n ∧ aTr Mr cl' k len' N b i0 kn ko n q j1 ∧ cK M2 Mr cl' k len' (i0 + n + (N - j1)) (nxB b q i0 n j1 kn ko) := by
  have hl' := hx.2.1
  have hs := aTo_le hK hto
  obtain ⟨k1, k2, k3, k4, k5⟩ := hK
  obtain ⟨t1, t2, t3⟩ := hto
  obtain ⟨M2, n, q, a1, a2, a3⟩ := cana_ok h1 hk hR hx hcl (s := b i0) (known := kn) (by omega) (by omega)
  obtain ⟨b1, b2, b3, b4, b5, b6, b7⟩ := a2
  -- the stop is where a boundary was
  have hst : ∀ x, x < len' → ((kn ≤ x ∧ M1.2.1 (10 + 48 * k) x ≠ 0) ↔ (kn ≤ x ∧ ∃ j, j ≤ N ∧ b j + kn = x + ko)) := by
    intro x hx'
    constructor
    · rintro ⟨g1, g2⟩
      refine ⟨g1, ?_⟩
      rw [hL x hx', if_neg (by omega), if_neg (by omega)] at g2
      by_cases he : ∃ j, j < N ∧ x + ko - kn = b j
      · obtain ⟨j, j1, j2⟩ := he
        exact ⟨j, by omega, by omega⟩
      · exact absurd (k5 _ (by omega) (fun j hj e => he ⟨j, hj, e⟩)) g2
    · rintro ⟨g1, j, g2, g3⟩
      refine ⟨g1, ?_⟩
      rw [hL x hx', if_neg (by omega), if_neg (by omega), show x + ko - kn = b j by omega]
      have hj : j < N := by
        rcases Nat.lt_or_ge j N with w | w
        · exact w
        · rw [show j = N by omega, k3] at g3
          omega
      obtain ⟨R, r1, r2, -⟩ := k4 j hj
      have := aLk_pos r2
      have := aLk_b hl (show b j ≤ len by omega) r2
      rw [r1, show (0 : Int32) = nI 0 from rfl]
      intro e
      have := nI_inj (by omega) (by omega) e
      omega
  have hch : aChn Mr cl' k len' (fun x => kn ≤ x ∧ ∃ j, j ≤ N ∧ b j + kn = x + ko) (b i0) n q := by
    refine ⟨a3.1, fun i hi => ?_, ?_⟩
    · obtain ⟨g1, g2, g3⟩ := a3.2.1 i hi
      exact ⟨g1, fun z => g2 ((hst _ g1).mpr z), g3⟩
    · rcases a3.2.2 with e | ⟨e1, e2⟩
      · exact Or.inl e
      · exact Or.inr ⟨e1, (hst _ e1).mp e2⟩
  obtain ⟨j1, hj1, hj2, hj3⟩ : ∃ j1, j1 ≤ N ∧ b j1 + kn = q n + ko ∧ kn ≤ q n := by
    rcases hch.2.2 with e | ⟨e1, e2, j, e3, e4⟩
    · exact ⟨N, Nat.le_refl _, by omega, by omega⟩
    · exact ⟨j, e3, e4, e2⟩
  have hT : aTr Mr cl' k len' N b i0 kn ko n q j1 := ⟨hch, hj1, hj2, hj3⟩
  obtain ⟨n1, n2, n3, n4, n5⟩ := nxB_ok k1 k2 k3 t1 hle (by omega) hT
  refine ⟨M2, n, q, j1, a1, b1, b2, b3, b4, hT, n1, n2, n3, fun i hi => ?_, fun x hx' hn => ?_⟩
  · rcases Nat.lt_or_ge i i0 with w | w
    · obtain ⟨R, r1, r2, r3⟩ := k4 i (by omega)
      obtain ⟨R', r4, r5⟩ := t2 i w
      have := aLk_u r2 r4
      subst this
      have hlt := inc_lt k2 i0 t1 w
      have eA : nxB b q i0 n j1 kn ko i = b i := if_pos w
      refine ⟨R, ?_, ?_, ?_⟩
      · rw [eA, b5 _ (Or.inl hlt), hL _ (by omega), if_pos (by omega)]
        exact r1
      · rw [eA]
        exact aLk_pre r5 (by omega) (by omega) hA r2
      · rw [eA]
        rcases Nat.lt_or_ge (i + 1) i0 with w2 | w2
        · rw [show nxB b q i0 n j1 kn ko (i + 1) = b (i + 1) from if_pos w2]
          exact r3
        · have := n4 0 (by omega)
          rw [show i + 1 = i0 + 0 by omega, this, hch.1, show i0 = i + 1 by omega]
          exact r3
    · rcases Nat.lt_or_ge i (i0 + n) with w2 | w2
      · have e1 := n4 (i - i0) (by omega)
        have e2 := n4 (i - i0 + 1) (by omega)
        rw [show i0 + (i - i0) = i by omega] at e1
        rw [show i0 + (i - i0 + 1) = i + 1 by omega] at e2
        obtain ⟨R, r1, r2⟩ := b6 (i - i0) (by omega)
        obtain ⟨g1, -, S, g2, -, g3⟩ := hch.2.1 (i - i0) (by omega)
        have := sg_lk hR (by omega) g2 r2
        refine ⟨R, by rw [e1]; exact r1, by rw [e1]; exact r2, ?_⟩
        rw [e1, e2]
        omega
      · have e1 := n5 (i - i0 - n) (by omega)
        have e2 := n5 (i - i0 - n + 1) (by omega)
        rw [show i0 + n + (i - i0 - n) = i by omega] at e1
        rw [show i0 + n + (i - i0 - n + 1) = i + 1 by omega] at e2
        have hle2 := inc_le k2 (show j1 + (i - i0 - n) ≤ N by omega) (show j1 ≤ j1 + (i - i0 - n) by omega)
        have hlt2 := inc_lt k2 (i := j1 + (i - i0 - n)) N (Nat.le_refl _) (by omega)
        obtain ⟨R, r1, r2, r3⟩ := k4 (j1 + (i - i0 - n)) (by omega)
        refine ⟨R, ?_, ?_, ?_⟩
        · rw [b5 _ (Or.inr (by omega)), hL _ (by omega), if_neg (by omega), if_neg (by omega), show nxB b q i0 n j1 kn ko i + ko - kn = b (j1 + (i - i0 - n)) by omega]
          exact r1
        · refine aLk_suf (by omega) (by omega) (fun t ht => ?_) r2
          rw [hB _ (by omega) ht]
          congr 1
          omega
        · rw [show j1 + (i - i0 - n + 1) = j1 + (i - i0 - n) + 1 by omega] at e2
          omega
  · rcases Nat.lt_or_ge x (b i0) with w | w
    · rw [b5 x (Or.inl w), hL x hx', if_pos (by omega)]
      refine k5 x (by omega) (fun j hj e => ?_)
      have hji : j < i0 := inc_inv k2 t1 (by omega) (by omega)
      exact hn j (by omega) (by rw [show nxB b q i0 n j1 kn ko j = b j from if_pos hji]; exact e)
    · rcases Nat.lt_or_ge x (q n) with w2 | w2
      · refine b7 x w w2 (fun j hj e => hn (i0 + j) (by omega) ?_)
        rw [n4 j (by omega)]
        exact e
      · rw [b5 x (Or.inr w2), hL x hx', if_neg (by omega), if_neg (by omega)]
        refine k5 _ (by omega) (fun j hj e => ?_)
        have hjj : j1 ≤ j := by
          rcases Nat.lt_or_ge j j1 with w3 | w3
          · have := inc_lt k2 j1 hj1 w3
            omega
          · exact w3
        have := n5 (j - j1) (by omega)
        rw [show j1 + (j - j1) = j by omega] at this
        exact hn (i0 + n + (j - j1)) (by omega) (by omega)
/-- analyseAll() -/
theorem call_ok {M Mr : Mem} (h : zO M) {cl : Nat → Int32} {c : Nat → Nat} {k len : Nat} (hk : k < 3) (hR : iRs M Mr k) (hx : cTx M len c) (hcl : ∀ t, t < len → cl t = nI (c t)) :
    ∃ M2 n q, fX2_analyseAll M (8 + 48 * k) 1 = some M2 ∧ zO M2 ∧ zq (kfa k) M M2 ∧ (∀ p, p < 5 → ∃ w1 w2, zWt M2 (zra k p) w1 w2) ∧ M2.2.1 (8 + 48 * k) 2 = nI n ∧ aChn Mr cl k len (fun _ => False) 0 n q ∧ cK M2 Mr cl k len n q := by
  have hl := hx.2.1
  obtain ⟨z1, z2, z3, z4, z5, z6, z7, z8⟩ := zkind hk
  obtain ⟨M2, n, q, a1, a2, a3⟩ := cana_ok h hk hR hx hcl (s := 0) (known := len) (by omega) (by omega)
  obtain ⟨b1, b2, b3, b4, b5, b6, b7⟩ := a2
  have hch : aChn Mr cl k len (fun _ => False) 0 n q := by
    refine ⟨a3.1, fun i hi => ?_, ?_⟩
    · obtain ⟨g1, g2, g3⟩ := a3.2.1 i hi
      exact ⟨g1, id, g3⟩
    · rcases a3.2.2 with e | ⟨e1, e2, -⟩
      · exact Or.inl e
      · omega
  have hqn : q n = len := by
    rcases hch.2.2 with e | ⟨-, e⟩
    · exact e
    · exact e.elim
  refine ⟨M2, n, q, ?_, b1, b2, b3, b4, hch, hch.1, fun i hi => aChn_lt hch (by omega) (by omega), hqn, fun j hj => ?_, fun x hx' hn => b7 x (by omega) (by omega) hn⟩
  · unfold fX2_analyseAll
    rw [gr_1_0 h, Option.bind_some, zgI_f h (by decide) zk_2, Option.bind_some, hx.1, zck_f h (by omega) z1, Option.bind_some, show (0 : Int32) = nI 0 from rfl, a1, Option.bind_some]
  · obtain ⟨R, r1, r2⟩ := b6 j hj
    obtain ⟨g1, -, S, g2, -, g3⟩ := hch.2.1 j hj
    have := sg_lk hR (by omega) g2 r2
    exact ⟨R, r1, r2, by omega⟩
