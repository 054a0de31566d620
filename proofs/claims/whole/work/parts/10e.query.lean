/-! ===== questions about boundaries ===== -/
def qB (N : Nat) (b : Nat → Nat) (sf : Nat → Int32) (p : Nat) : Prop := (∃ i, i ≤ N ∧ b i = p) ∧ sf p = 0
def qD (M : Mem) (k len N : Nat) (b : Nat → Nat) (sf : Nat → Int32) : Prop :=
  zO M ∧ k < 3 ∧ len ≤ 100 ∧ M.2.1 2 1 = nI len ∧ M.2.1 279 31 = nI len ∧ b 0 = 0 ∧ (∀ i, i < N → b i < b (i + 1)) ∧ b N = len ∧ mK M k N b ∧ (∀ p, p ≤ len → (sf p = 0 ∨ sf p = 1) ∧ ((p = 0 ∨ p = len) → sf p = 0) ∧ fX9_isSuppressed M 279 (nI k) (nI p) = some (sf p, M)) ∧ (∀ p, p ≤ len → (∃ i, i ≤ N ∧ b i = p) → fX8_stateAt M 0 (nI k) (nI p) = some (if sf p = 0 then 1 else 2, M)) ∧ (∀ p, p ≤ len → (∀ i, i ≤ N → b i ≠ p) → fX8_stateAt M 0 (nI k) (nI p) = some (0, M))
theorem qD_of {M : Mem} (hI : Inv M) {k : Nat} (hk : k < 3) : ∃ len N b sf, qD M k len N b sf := by
  obtain ⟨h, hP, ⟨cnt, rr, cw, mw, hE⟩, hR, cc, len, ch, c1, c2, t1, t2, hK, hH⟩ := hI
  obtain ⟨N, b, w, a1, a2, a3, a4⟩ := hK k hk
  have key : ∀ p, p ≤ len → ∃ s, (s = 0 ∨ s = 1) ∧ ((p = 0 ∨ p = len) → s = 0) ∧ fX9_isSuppressed M 279 (nI k) (nI p) = some (s, M) ∧ ((∃ i, i ≤ N ∧ b i = p) → fX8_stateAt M 0 (nI k) (nI p) = some (if s = 0 then 1 else 2, M)) ∧ ((∀ i, i ≤ N → b i ≠ p) → fX8_stateAt M 0 (nI k) (nI p) = some (0, M)) ∧ (s = 1 ↔ ssP cc ch cnt mw k len p) := fun p hp => st_ok h c1 c2 t1 t2 hE hk a1 hp
  have hsf : ∀ p, p ≤ len → ∀ s, fX9_isSuppressed M 279 (nI k) (nI p) = some (s, M) → ((fX9_isSuppressed M 279 (nI k) (nI p)).getD (0, M)).1 = s := fun p hp s hs => by rw [hs]; rfl
  refine ⟨len, N, b, fun p => ((fX9_isSuppressed M 279 (nI k) (nI p)).getD (0, M)).1, h, hk, t1.2.1, t1.1, t2.1, a1.1, a1.2.1, a1.2.2.1, a2, fun p hp => ?_, fun p hp g => ?_, fun p hp g => ?_⟩
  · obtain ⟨s, s1, s2, s3, s4, s5, s6⟩ := key p hp
    have e := hsf p hp s s3
    dsimp only
    rw [e]
    exact ⟨s1, s2, s3⟩
  · obtain ⟨s, s1, s2, s3, s4, s5, s6⟩ := key p hp
    have e := hsf p hp s s3
    subst e
    exact s4 g
  · obtain ⟨s, s1, s2, s3, s4, s5, s6⟩ := key p hp
    exact s5 g
section QQ
variable {M : Mem} {k len N : Nat} {b : Nat → Nat} {sf : Nat → Int32}
theorem q_st (Q : qD M k len N b sf) {p : Nat} (hp : p ≤ len) : ∃ v, fX8_stateAt M 0 (nI k) (nI p) = some (v, M) ∧ (v = 1 ↔ qB N b sf p) := by
  obtain ⟨h, hk, hl, e1, e2, b0, b1, b2, hm, q1, q2, q3⟩ := Q
  by_cases hr : ∃ i, i ≤ N ∧ b i = p
  · refine ⟨_, q2 p hp hr, ?_⟩
    by_cases e : sf p = 0
    · rw [if_pos e]
      exact ⟨fun _ => ⟨hr, e⟩, fun _ => rfl⟩
    · rw [if_neg e]
      exact ⟨fun z => absurd z (by decide), fun z => absurd z.2 e⟩
  · refine ⟨0, q3 p hp (fun i hi e => hr ⟨i, hi, e⟩), fun z => absurd z (by decide), fun z => absurd z.1 hr⟩
theorem q_N (Q : qD M k len N b sf) : N ≤ 100 := by
  obtain ⟨h, hk, hl, e1, e2, b0, b1, b2, hm, q1, q2, q3⟩ := Q
  have := inc_ge b1 N (Nat.le_refl _)
  omega
theorem q_ble (Q : qD M k len N b sf) {i : Nat} (hi : i ≤ N) : b i ≤ len := by
  obtain ⟨h, hk, hl, e1, e2, b0, b1, b2, hm, q1, q2, q3⟩ := Q
  have := inc_le b1 (Nat.le_refl N) hi
  omega
theorem bar_ok (Q : qD M k len N b sf) {x p : Int32} (hx : x = nI k) : (fX8_isPosition M 0 p = some (0, M) ∧ fX9_barred M 279 x p = some (-1, M)) ∨ (∃ pos, pos ≤ len ∧ p = nI pos ∧ fX8_isPosition M 0 p = some (1, M) ∧ fX9_barred M 279 x p = some (0, M)) := by
  obtain ⟨h, hk, hl, e1, e2, -⟩ := Q
  unfold fX9_barred
  rcases ikd_ok x with ⟨-, a2⟩ | ⟨k', hk', -, -, a2⟩
  · exfalso
    rw [hx] at a2
    rcases (show k = 0 ∨ k = 1 ∨ k = 2 by omega) with rfl | rfl | rfl <;> revert a2 <;> decide
  · rw [a2, Option.bind_some, if_pos rfl, zck_f h (by decide) zk_279, Option.bind_some]
    rcases ipos_ok h hl e1 e2 p with ⟨p1, p2⟩ | ⟨pos, p0, rfl, p1, p2⟩
    · rw [p2 M h e2, Option.bind_some, if_neg n10]
      exact Or.inl ⟨p1, rfl⟩
    · rw [p2 M h e2, Option.bind_some, if_pos rfl]
      exact Or.inr ⟨pos, p0, rfl, p1, rfl⟩
/-! next -/
theorem nx_c (Q : qD M k len N b sf) {pos : Nat} : ∀ d p fuel, p + d = len + 1 → d < fuel → pos < p → (∀ q, pos < q → q < p → ¬ qB N b sf q) →
    ∃ r, fX8_boundaryBehind_4L fuel M 0 (nI k) (nI p) = some (r, M) ∧ ((∃ p', pos < p' ∧ p' ≤ len ∧ qB N b sf p' ∧ (∀ q, pos < q → q < p' → ¬ qB N b sf q) ∧ r = nI p') ∨ ((∀ q, pos < q → q ≤ len → ¬ qB N b sf q) ∧ r = -5)) := by
  have Q' := Q
  obtain ⟨h, hk, hl, e1, e2, -⟩ := Q
  intro d
  induction d with
  | zero =>
    intro p fuel hd hf hp hi
    obtain ⟨f, rfl⟩ : ∃ f, fuel = f + 1 := ⟨fuel - 1, by omega⟩
    refine ⟨-5, ?_, Or.inr ⟨fun q x y => hi q x (by omega), rfl⟩⟩
    show fX8_boundaryBehind_4 (fX8_boundaryBehind_4L f) M 0 (nI k) (nI p) = _
    unfold fX8_boundaryBehind_4
    rw [gr_0_0 h, Option.bind_some, gr_1_0 h, Option.bind_some, zgI_f h (by decide) zk_2, Option.bind_some, e1, if_pos (show nI len < nI p by rw [nI_ltN (by omega) (by omega)]; omega)]
  | succ d ih =>
    intro p fuel hd hf hp hi
    obtain ⟨f, rfl⟩ : ∃ f, fuel = f + 1 := ⟨fuel - 1, by omega⟩
    show ∃ r, fX8_boundaryBehind_4 (fX8_boundaryBehind_4L f) M 0 (nI k) (nI p) = some (r, M) ∧ _
    obtain ⟨v, v1, v2⟩ := q_st Q' (p := p) (by omega)
    unfold fX8_boundaryBehind_4
    rw [gr_0_0 h, Option.bind_some, gr_1_0 h, Option.bind_some, zgI_f h (by decide) zk_2, Option.bind_some, e1, if_neg (show ¬ nI len < nI p by rw [nI_ltN (by omega) (by omega)]; omega), zck_f h (by decide) zk_0, Option.bind_some, v1, Option.bind_some]
    dsimp only
    by_cases e : v = 1
    · rw [if_pos e]
      exact ⟨_, rfl, Or.inl ⟨p, hp, by omega, v2.mp e, hi, rfl⟩⟩
    · rw [if_neg e, zlt_e, nI_1]
      exact ih (p + 1) f (by omega) (by omega) (by omega) (fun q x y => by
        rcases Nat.lt_or_ge q p with w | w
        · exact hi q x w
        · rw [show q = p by omega]; exact fun z => e (v2.mpr z))
theorem nx_m (Q : qD M k len N b sf) {pos : Nat} (hpos : pos ≤ len) : ∀ d i fuel, i + d = N + 1 → d < fuel → (∀ j, j < i → pos < b j → ¬ qB N b sf (b j)) →
    ∃ r, fX9_next_16L fuel M 279 (nI k) (nI pos) (nI i) = some (r, M) ∧ ((∃ p', pos < p' ∧ p' ≤ len ∧ qB N b sf p' ∧ (∀ q, pos < q → q < p' → ¬ qB N b sf q) ∧ r = nI p') ∨ ((∀ q, pos < q → q ≤ len → ¬ qB N b sf q) ∧ r = -5)) := by
  have Q' := Q
  have hN := q_N Q
  obtain ⟨h, hk, hl, e1, e2, b0, b1, b2, hm, q1, q2, q3⟩ := Q
  intro d
  induction d with
  | zero =>
    intro i fuel hd hf hi
    obtain ⟨f, rfl⟩ : ∃ f, fuel = f + 1 := ⟨fuel - 1, by omega⟩
    refine ⟨-5, ?_, Or.inr ⟨fun q x y z => ?_, rfl⟩⟩
    · show fX9_next_16 (fX9_next_16L f) M 279 (nI k) (nI pos) (nI i) = _
      unfold fX9_next_16
      rw [gr_279_33 h, Option.bind_some, zaI_f h (by decide) zk_303 (by rw [zl_303]; exact hk), Option.bind_some, hm.1, if_pos (show nI (N + 1) ≤ nI i by rw [nI_leN (by omega) (by omega)]; omega)]
    · obtain ⟨⟨j, j1, j2⟩, -⟩ := id z
      exact hi j (by omega) (by omega) (by rw [j2]; exact z)
  | succ d ih =>
    intro i fuel hd hf hi
    obtain ⟨f, rfl⟩ : ∃ f, fuel = f + 1 := ⟨fuel - 1, by omega⟩
    show ∃ r, fX9_next_16 (fX9_next_16L f) M 279 (nI k) (nI pos) (nI i) = some (r, M) ∧ _
    have hbi := q_ble Q' (show i ≤ N by omega)
    have nxt : (pos < b i → ¬ qB N b sf (b i)) → ∃ r, fX9_next_61 (fX9_next_16L f) M 279 (nI k) (nI pos) (nI i) = some (r, M) ∧ ((∃ p', pos < p' ∧ p' ≤ len ∧ qB N b sf p' ∧ (∀ q, pos < q → q < p' → ¬ qB N b sf q) ∧ r = nI p') ∨ ((∀ q, pos < q → q ≤ len → ¬ qB N b sf q) ∧ r = -5)) := by
      intro g
      unfold fX9_next_61
      rw [zlt_e, nI_1]
      exact ih (i + 1) f (by omega) (by omega) (fun j hj => by
        rcases Nat.lt_or_ge j i with w | w
        · exact hi j w
        · rw [show j = i by omega]; exact g)
    unfold fX9_next_16
    rw [gr_279_33 h, Option.bind_some, zaI_f h (by decide) zk_303 (by rw [zl_303]; exact hk), Option.bind_some, hm.1, if_neg (show ¬ nI (N + 1) ≤ nI i by rw [nI_leN (by omega) (by omega)]; omega), zck_f h (by decide) zk_279, Option.bind_some, raw_ok h hk (by omega), Option.bind_some, hm.2 i (by omega)]
    dsimp only
    by_cases hle : b i ≤ pos
    · rw [if_pos (show nI (b i) ≤ nI pos by rw [nI_leN (by omega) (by omega)]; exact hle)]
      exact nxt (fun z => by omega)
    · obtain ⟨s1, s2, s3⟩ := q1 (b i) hbi
      rw [if_neg (show ¬ nI (b i) ≤ nI pos by rw [nI_leN (by omega) (by omega)]; exact hle), zck_f h (by decide) zk_279, Option.bind_some, raw_ok h hk (by omega), Option.bind_some, hm.2 i (by omega)]
      dsimp only
      rw [zck_f h (by decide) zk_279, Option.bind_some, s3, Option.bind_some]
      dsimp only
      by_cases es : sf (b i) = 0
      · rw [if_pos es, zck_f h (by decide) zk_279, Option.bind_some, raw_ok h hk (by omega), Option.bind_some, hm.2 i (by omega)]
        refine ⟨_, rfl, Or.inl ⟨b i, by omega, hbi, ⟨⟨i, by omega, rfl⟩, es⟩, fun q x y z => ?_, rfl⟩⟩
        obtain ⟨⟨j, j1, j2⟩, -⟩ := id z
        have : j < i := inc_inv b1 (show i ≤ N by omega) j1 (by omega)
        exact hi j this (by omega) (by rw [j2]; exact z)
      · rw [if_neg es]
        exact nxt (fun _ z => es z.2)
theorem nx_u {pos : Nat} {r r' : Int32} (h : (∃ p', pos < p' ∧ p' ≤ len ∧ qB N b sf p' ∧ (∀ q, pos < q → q < p' → ¬ qB N b sf q) ∧ r = nI p') ∨ ((∀ q, pos < q → q ≤ len → ¬ qB N b sf q) ∧ r = -5)) (h' : (∃ p', pos < p' ∧ p' ≤ len ∧ qB N b sf p' ∧ (∀ q, pos < q → q < p' → ¬ qB N b sf q) ∧ r' = nI p') ∨ ((∀ q, pos < q → q ≤ len → ¬ qB N b sf q) ∧ r' = -5)) : r = r' := by
  rcases h with ⟨p, a1, a2, a3, a4, rfl⟩ | ⟨a1, rfl⟩ <;> rcases h' with ⟨p', c1, c2, c3, c4, rfl⟩ | ⟨c1, rfl⟩
  · rcases Nat.lt_trichotomy p p' with w | w | w
    · exact absurd a3 (c4 p a1 w)
    · rw [w]
    · exact absurd c3 (a4 p' c1 w)
  · exact absurd a3 (c1 p a1 a2)
  · exact absurd c3 (a1 p' c1 c2)
  · rfl
/-! previous -/
theorem pv_c (Q : qD M k len N b sf) {pos : Nat} (hpos : pos ≤ len) : ∀ p fuel, p < fuel → p ≤ pos → (∀ q, p ≤ q → q < pos → ¬ qB N b sf q) →
    ∃ r, fX8_previous_24L fuel M 0 (nI k) (nI p - 1) = some (r, M) ∧ ((∃ p', p' < pos ∧ qB N b sf p' ∧ (∀ q, p' < q → q < pos → ¬ qB N b sf q) ∧ r = nI p') ∨ ((∀ q, q < pos → ¬ qB N b sf q) ∧ r = -5)) := by
  have Q' := Q
  obtain ⟨h, hk, hl, e1, e2, -⟩ := Q
  intro p
  induction p with
  | zero =>
    intro fuel hf hp hi
    obtain ⟨f, rfl⟩ : ∃ f, fuel = f + 1 := ⟨fuel - 1, by omega⟩
    refine ⟨-5, ?_, Or.inr ⟨fun q x => hi q (by omega) x, rfl⟩⟩
    show fX8_previous_24 (fX8_previous_24L f) M 0 (nI k) (nI 0 - 1) = _
    unfold fX8_previous_24
    rw [if_pos (show nI 0 - 1 < 0 by decide)]
  | succ p ih =>
    intro fuel hf hp hi
    obtain ⟨f, rfl⟩ : ∃ f, fuel = f + 1 := ⟨fuel - 1, by omega⟩
    show ∃ r, fX8_previous_24 (fX8_previous_24L f) M 0 (nI k) (nI (p + 1) - 1) = some (r, M) ∧ _
    obtain ⟨v, v1, v2⟩ := q_st Q' (p := p) (by omega)
    unfold fX8_previous_24
    rw [dec1, if_neg (nI_pos (by omega)), zck_f h (by decide) zk_0, Option.bind_some, v1, Option.bind_some]
    dsimp only
    by_cases e : v = 1
    · rw [if_pos e]
      exact ⟨_, rfl, Or.inl ⟨p, by omega, v2.mp e, fun q x y => hi q (by omega) y, rfl⟩⟩
    · rw [if_neg e, zlt_e, dec2]
      exact ih f (by omega) (by omega) (fun q x y => by
        rcases Nat.lt_or_ge p q with w | w
        · exact hi q (by omega) y
        · rw [show q = p by omega]; exact fun z => e (v2.mpr z))
theorem pv_m (Q : qD M k len N b sf) {pos : Nat} (hpos : pos ≤ len) : ∀ i fuel, i < fuel → i ≤ N + 1 → (∀ j, i ≤ j → j ≤ N → b j < pos → ¬ qB N b sf (b j)) →
    ∃ r, fX9_previous_23L fuel M 279 (nI k) (nI pos) (nI i - 1) = some (r, M) ∧ ((∃ p', p' < pos ∧ qB N b sf p' ∧ (∀ q, p' < q → q < pos → ¬ qB N b sf q) ∧ r = nI p') ∨ ((∀ q, q < pos → ¬ qB N b sf q) ∧ r = -5)) := by
  have Q' := Q
  have hN := q_N Q
  obtain ⟨h, hk, hl, e1, e2, b0, b1, b2, hm, q1, q2, q3⟩ := Q
  intro i
  induction i with
  | zero =>
    intro fuel hf hiN hi
    obtain ⟨f, rfl⟩ : ∃ f, fuel = f + 1 := ⟨fuel - 1, by omega⟩
    refine ⟨-5, ?_, Or.inr ⟨fun q x z => ?_, rfl⟩⟩
    · show fX9_previous_23 (fX9_previous_23L f) M 279 (nI k) (nI pos) (nI 0 - 1) = _
      unfold fX9_previous_23
      rw [if_pos (show nI 0 - 1 < 0 by decide)]
    · obtain ⟨⟨j, j1, j2⟩, -⟩ := id z
      exact hi j (by omega) j1 (by omega) (by rw [j2]; exact z)
  | succ i ih =>
    intro fuel hf hiN hi
    obtain ⟨f, rfl⟩ : ∃ f, fuel = f + 1 := ⟨fuel - 1, by omega⟩
    show ∃ r, fX9_previous_23 (fX9_previous_23L f) M 279 (nI k) (nI pos) (nI (i + 1) - 1) = some (r, M) ∧ _
    have hbi := q_ble Q' (show i ≤ N by omega)
    have nxt : (b i < pos → ¬ qB N b sf (b i)) → ∃ r, fX9_previous_62 (fX9_previous_23L f) M 279 (nI k) (nI pos) (nI i) = some (r, M) ∧ ((∃ p', p' < pos ∧ qB N b sf p' ∧ (∀ q, p' < q → q < pos → ¬ qB N b sf q) ∧ r = nI p') ∨ ((∀ q, q < pos → ¬ qB N b sf q) ∧ r = -5)) := by
      intro g
      unfold fX9_previous_62
      rw [zlt_e, dec2]
      exact ih f (by omega) (by omega) (fun j x y => by
        rcases Nat.lt_or_ge i j with w | w
        · exact hi j (by omega) y
        · rw [show j = i by omega]; exact g)
    unfold fX9_previous_23
    rw [dec1, if_neg (nI_pos (by omega)), zck_f h (by decide) zk_279, Option.bind_some, raw_ok h hk (by omega), Option.bind_some, hm.2 i (by omega)]
    dsimp only
    by_cases hle : pos ≤ b i
    · rw [if_pos (show nI pos ≤ nI (b i) by rw [nI_leN (by omega) (by omega)]; exact hle)]
      exact nxt (fun z => by omega)
    · obtain ⟨s1, s2, s3⟩ := q1 (b i) hbi
      rw [if_neg (show ¬ nI pos ≤ nI (b i) by rw [nI_leN (by omega) (by omega)]; exact hle), zck_f h (by decide) zk_279, Option.bind_some, raw_ok h hk (by omega), Option.bind_some, hm.2 i (by omega)]
      dsimp only
      rw [zck_f h (by decide) zk_279, Option.bind_some, s3, Option.bind_some]
      dsimp only
      by_cases es : sf (b i) = 0
      · rw [if_pos es, zck_f h (by decide) zk_279, Option.bind_some, raw_ok h hk (by omega), Option.bind_some, hm.2 i (by omega)]
        refine ⟨_, rfl, Or.inl ⟨b i, by omega, ⟨⟨i, by omega, rfl⟩, es⟩, fun q x y z => ?_, rfl⟩⟩
        obtain ⟨⟨j, j1, j2⟩, -⟩ := id z
        have : i < j := inc_inv b1 j1 (show i ≤ N by omega) (by omega)
        exact hi j (by omega) j1 (by omega) (by rw [j2]; exact z)
      · rw [if_neg es]
        exact nxt (fun _ z => es z.2)
theorem pv_u {pos : Nat} {r r' : Int32} (h : (∃ p', p' < pos ∧ qB N b sf p' ∧ (∀ q, p' < q → q < pos → ¬ qB N b sf q) ∧ r = nI p') ∨ ((∀ q, q < pos → ¬ qB N b sf q) ∧ r = -5)) (h' : (∃ p', p' < pos ∧ qB N b sf p' ∧ (∀ q, p' < q → q < pos → ¬ qB N b sf q) ∧ r' = nI p') ∨ ((∀ q, q < pos → ¬ qB N b sf q) ∧ r' = -5)) : r = r' := by
  rcases h with ⟨p, a1, a3, a4, rfl⟩ | ⟨a1, rfl⟩ <;> rcases h' with ⟨p', c1, c3, c4, rfl⟩ | ⟨c1, rfl⟩
  · rcases Nat.lt_trichotomy p p' with w | w | w
    · exact absurd c3 (a4 p' w c1)
    · rw [w]
    · exact absurd a3 (c4 p w a1)
  · exact absurd a3 (c1 p a1)
  · exact absurd c3 (a1 p' c1)
  · rfl
/-! boundaryAt -/
theorem ba_m (Q : qD M k len N b sf) {pos : Nat} (hpos : pos ≤ len) : ∀ d i fuel, i + d = N + 1 → d < fuel → (∀ j, j < i → b j ≠ pos) →
    ((∃ i, i ≤ N ∧ b i = pos) ∧ fX9_boundaryAt_16L fuel M 279 (nI k) (nI pos) (nI i) = some (if sf pos = 0 then 1 else 2, M)) ∨ ((∀ i, i ≤ N → b i ≠ pos) ∧ fX9_boundaryAt_16L fuel M 279 (nI k) (nI pos) (nI i) = some (0, M)) := by
  have Q' := Q
  have hN := q_N Q
  obtain ⟨h, hk, hl, e1, e2, b0, b1, b2, hm, q1, q2, q3⟩ := Q
  intro d
  induction d with
  | zero =>
    intro i fuel hd hf hi
    obtain ⟨f, rfl⟩ : ∃ f, fuel = f + 1 := ⟨fuel - 1, by omega⟩
    right
    refine ⟨fun j hj => hi j (by omega), ?_⟩
    show fX9_boundaryAt_16 (fX9_boundaryAt_16L f) M 279 (nI k) (nI pos) (nI i) = _
    unfold fX9_boundaryAt_16
    rw [gr_279_33 h, Option.bind_some, zaI_f h (by decide) zk_303 (by rw [zl_303]; exact hk), Option.bind_some, hm.1, if_pos (show nI (N + 1) ≤ nI i by rw [nI_leN (by omega) (by omega)]; omega)]
  | succ d ih =>
    intro i fuel hd hf hi
    obtain ⟨f, rfl⟩ : ∃ f, fuel = f + 1 := ⟨fuel - 1, by omega⟩
    have st : fX9_boundaryAt_16L (f + 1) M 279 (nI k) (nI pos) (nI i) = fX9_boundaryAt_16 (fX9_boundaryAt_16L f) M 279 (nI k) (nI pos) (nI i) := rfl
    rw [st]
    have hbi := q_ble Q' (show i ≤ N by omega)
    unfold fX9_boundaryAt_16
    rw [gr_279_33 h, Option.bind_some, zaI_f h (by decide) zk_303 (by rw [zl_303]; exact hk), Option.bind_some, hm.1, if_neg (show ¬ nI (N + 1) ≤ nI i by rw [nI_leN (by omega) (by omega)]; omega), zck_f h (by decide) zk_279, Option.bind_some, raw_ok h hk (by omega), Option.bind_some, hm.2 i (by omega)]
    dsimp only
    by_cases e : b i = pos
    · obtain ⟨s1, s2, s3⟩ := q1 pos hpos
      rw [if_pos (by rw [e]), zck_f h (by decide) zk_279, Option.bind_some, s3, Option.bind_some]
      dsimp only
      left
      refine ⟨⟨i, by omega, e⟩, ?_⟩
      by_cases es : sf pos = 0
      · rw [if_pos es, if_pos es]
      · rw [if_neg es, if_neg es]
    · rw [if_neg (fun z => e (nI_inj (by omega) (by omega) z)), zlt_e, nI_1]
      exact ih (i + 1) f (by omega) (by omega) (fun j hj => by
        rcases Nat.lt_or_ge j i with w | w
        · exact hi j w
        · rw [show j = i by omega]; exact e)
end QQ
theorem bar_no {M : Mem} {x p : Int32} (hx : fX9_noKind x = some 1) : fX9_barred M 279 x p = some (-2, M) := by
  unfold fX9_barred
  rw [hx, Option.bind_some, if_neg (by decide)]
theorem m2n {M : Mem} : ¬ (0 : Int32) ≤ ((-2 : Int32), M).1 := by show ¬ (0 : Int32) ≤ -2; decide
theorem m1n {M : Mem} : ¬ (0 : Int32) ≤ ((-1 : Int32), M).1 := by show ¬ (0 : Int32) ≤ -1; decide
theorem m0p {M : Mem} : (0 : Int32) ≤ ((0 : Int32), M).1 := by show (0 : Int32) ≤ 0; decide
theorem boundaryAt_ok {M : Mem} (hI : Inv M) (x p : Int32) : Op (fX8_boundaryAt M 0 x p) (fun M1 => fX9_boundaryAt M1 279 x p) := by
  have h := hI.1
  rcases ikd_ok x with ⟨a1, a2⟩ | ⟨k, hk, rfl, a1, a2⟩
  · refine op_same hI (-2) ?_ ?_
    · unfold fX8_boundaryAt
      rw [a1, Option.bind_some, if_pos rfl]
    · show fX9_boundaryAt M 279 x p = _
      unfold fX9_boundaryAt
      rw [zck_f h (by decide) zk_279, Option.bind_some, bar_no a2, Option.bind_some, if_neg m2n]
  obtain ⟨len, N, b, sf, Q⟩ := qD_of hI hk
  have hN := q_N Q
  rcases bar_ok Q (p := p) rfl with ⟨p1, p2⟩ | ⟨pos, p0, rfl, p1, p2⟩
  · refine op_same hI (-1) ?_ ?_
    · unfold fX8_boundaryAt
      rw [a1, Option.bind_some, if_neg (by decide), zck_f h (by decide) zk_0, Option.bind_some, p1, Option.bind_some, if_pos rfl]
    · show fX9_boundaryAt M 279 (nI k) p = _
      unfold fX9_boundaryAt
      rw [zck_f h (by decide) zk_279, Option.bind_some, p2, Option.bind_some, if_neg m1n]
  have h8 : ∀ v, fX8_stateAt M 0 (nI k) (nI pos) = some (v, M) → fX8_boundaryAt M 0 (nI k) (nI pos) = some (v, M) := fun v hv => by
    unfold fX8_boundaryAt
    rw [a1, Option.bind_some, if_neg (by decide), zck_f h (by decide) zk_0, Option.bind_some, p1, Option.bind_some, if_neg n10]
    dsimp only
    rw [zck_f h (by decide) zk_0, Option.bind_some, hv, Option.bind_some]
  have h9 : fX9_boundaryAt M 279 (nI k) (nI pos) = fX9_boundaryAt_16L zFU M 279 (nI k) (nI pos) (nI 0) := by
    unfold fX9_boundaryAt
    rw [zck_f h (by decide) zk_279, Option.bind_some, p2, Option.bind_some, if_pos m0p]
    rfl
  rcases ba_m Q p0 (N + 1) 0 zFU (by omega) (by unfold zFU; omega) (fun j hj => absurd hj (by omega)) with ⟨g1, g2⟩ | ⟨g1, g2⟩
  · exact op_same hI _ (h8 _ (Q.2.2.2.2.2.2.2.2.2.2.1 pos p0 g1)) (by show fX9_boundaryAt M 279 (nI k) (nI pos) = _; rw [h9, g2])
  · exact op_same hI _ (h8 _ (Q.2.2.2.2.2.2.2.2.2.2.2 pos p0 g1)) (by show fX9_boundaryAt M 279 (nI k) (nI pos) = _; rw [h9, g2])
theorem next_ok {M : Mem} (hI : Inv M) (x p : Int32) : Op (fX8_next M 0 x p) (fun M1 => fX9_next M1 279 x p) := by
  have h := hI.1
  rcases ikd_ok x with ⟨a1, a2⟩ | ⟨k, hk, rfl, a1, a2⟩
  · refine op_same hI (-2) ?_ ?_
    · unfold fX8_next
      rw [a1, Option.bind_some, if_pos rfl]
    · show fX9_next M 279 x p = _
      unfold fX9_next
      rw [zck_f h (by decide) zk_279, Option.bind_some, bar_no a2, Option.bind_some, if_neg m2n]
  obtain ⟨len, N, b, sf, Q⟩ := qD_of hI hk
  have hN := q_N Q
  have hl := Q.2.2.1
  rcases bar_ok Q (p := p) rfl with ⟨p1, p2⟩ | ⟨pos, p0, rfl, p1, p2⟩
  · refine op_same hI (-1) ?_ ?_
    · unfold fX8_next
      rw [a1, Option.bind_some, if_neg (by decide), zck_f h (by decide) zk_0, Option.bind_some, p1, Option.bind_some, if_pos rfl]
    · show fX9_next M 279 (nI k) p = _
      unfold fX9_next
      rw [zck_f h (by decide) zk_279, Option.bind_some, p2, Option.bind_some, if_neg m1n]
  obtain ⟨r, r1, r2⟩ := nx_c Q (pos := pos) (len - pos) (pos + 1) zFU (by omega) (by unfold zFU; omega) (by omega) (fun q x y => by omega)
  obtain ⟨r', s1, s2⟩ := nx_m Q p0 (N + 1) 0 zFU (by omega) (by unfold zFU; omega) (fun j hj => absurd hj (by omega))
  have e := nx_u r2 s2
  subst e
  refine op_same hI r ?_ ?_
  · unfold fX8_next fX8_boundaryBehind
    rw [a1, Option.bind_some, if_neg (by decide), zck_f h (by decide) zk_0, Option.bind_some, p1, Option.bind_some, if_neg n10]
    dsimp only
    rw [zck_f h (by decide) zk_0, Option.bind_some, zlt_e, nI_1, r1, Option.bind_some]
  · show fX9_next M 279 (nI k) (nI pos) = _
    unfold fX9_next
    rw [zck_f h (by decide) zk_279, Option.bind_some, p2, Option.bind_some, if_pos m0p]
    exact s1
theorem previous_ok {M : Mem} (hI : Inv M) (x p : Int32) : Op (fX8_previous M 0 x p) (fun M1 => fX9_previous M1 279 x p) := by
  have h := hI.1
  rcases ikd_ok x with ⟨a1, a2⟩ | ⟨k, hk, rfl, a1, a2⟩
  · refine op_same hI (-2) ?_ ?_
    · unfold fX8_previous
      rw [a1, Option.bind_some, if_pos rfl]
    · show fX9_previous M 279 x p = _
      unfold fX9_previous
      rw [zck_f h (by decide) zk_279, Option.bind_some, bar_no a2, Option.bind_some, if_neg m2n]
  obtain ⟨len, N, b, sf, Q⟩ := qD_of hI hk
  have hN := q_N Q
  have hl := Q.2.2.1
  rcases bar_ok Q (p := p) rfl with ⟨p1, p2⟩ | ⟨pos, p0, rfl, p1, p2⟩
  · refine op_same hI (-1) ?_ ?_
    · unfold fX8_previous
      rw [a1, Option.bind_some, if_neg (by decide), zck_f h (by decide) zk_0, Option.bind_some, p1, Option.bind_some, if_pos rfl]
    · show fX9_previous M 279 (nI k) p = _
      unfold fX9_previous
      rw [zck_f h (by decide) zk_279, Option.bind_some, p2, Option.bind_some, if_neg m1n]
  obtain ⟨r, r1, r2⟩ := pv_c Q p0 pos zFU (by unfold zFU; omega) (Nat.le_refl _) (fun q x y => by omega)
  obtain ⟨r', s1, s2⟩ := pv_m Q p0 (N + 1) zFU (by unfold zFU; omega) (Nat.le_refl _) (fun j x y => by omega)
  have e := pv_u r2 s2
  subst e
  refine op_same hI r ?_ ?_
  · unfold fX8_previous
    rw [a1, Option.bind_some, if_neg (by decide), zck_f h (by decide) zk_0, Option.bind_some, p1, Option.bind_some, if_neg n10]
    exact r1
  · show fX9_previous M 279 (nI k) (nI pos) = _
    unfold fX9_previous
    rw [zck_f h (by decide) zk_279, Option.bind_some, p2, Option.bind_some, if_pos m0p]
    dsimp only
    rw [gr_279_33 h, Option.bind_some, zaI_f h (by decide) zk_303 (by rw [zl_303]; exact hk), Option.bind_some, Q.2.2.2.2.2.2.2.2.1.1]
    exact s1
