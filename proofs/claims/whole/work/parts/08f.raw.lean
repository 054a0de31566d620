/-! ===== the raw boundaries of a kind: kept by the class ===== -/
theorem inc_lt {b : Nat → Nat} {N : Nat} (h : ∀ i, i < N → b i < b (i + 1)) {i : Nat} : ∀ j, j ≤ N → i < j → b i < b j
  | 0, _, h2 => absurd h2 (by omega)
  | j + 1, h1, h2 => by
    rcases Nat.lt_or_ge i j with w | w
    · have := inc_lt h j (by omega) w
      have := h j (by omega)
      omega
    · rw [show i = j by omega]
      exact h j (by omega)
theorem inc_le {b : Nat → Nat} {N : Nat} (h : ∀ i, i < N → b i < b (i + 1)) {i j : Nat} (hj : j ≤ N) (hi : i ≤ j) : b i ≤ b j := by
  rcases Nat.lt_or_ge i j with w | w
  · exact Nat.le_of_lt (inc_lt h j hj w)
  · rw [show i = j by omega]
    exact Nat.le_refl _
theorem inc_inv {b : Nat → Nat} {N : Nat} (h : ∀ i, i < N → b i < b (i + 1)) {i j : Nat} (hj : j ≤ N) (hi : i ≤ N) (hb : b i < b j) : i < j := by
  rcases Nat.lt_or_ge i j with w | w
  · exact w
  · have := inc_le h hi w
    omega
theorem inc_ge {b : Nat → Nat} {N : Nat} (h : ∀ i, i < N → b i < b (i + 1)) : ∀ j, j ≤ N → j ≤ b j
  | 0, _ => Nat.zero_le _
  | j + 1, h1 => by
    have := inc_ge h j (by omega)
    have := h j (by omega)
    omega
/-- kind k in the class: N segments, the raw boundaries b 0 .. b N, and what each analysis looked at -/
def cK (M Mr : Mem) (cl : Nat → Int32) (k len N : Nat) (b : Nat → Nat) : Prop :=
  b 0 = 0 ∧ (∀ i, i < N → b i < b (i + 1)) ∧ b N = len ∧ (∀ j, j < N → ∃ R, M.2.1 (10 + 48 * k) (b j) = nI R ∧ aLk Mr cl k len (b j) R ∧ b (j + 1) ≤ b j + R) ∧ (∀ x, x < len → (∀ j, j < N → x ≠ b j) → M.2.1 (10 + 48 * k) x = 0)
/-- .. and in the model -/
def mK (M : Mem) (k N : Nat) (b : Nat → Nat) : Prop := M.2.1 303 k = nI (N + 1) ∧ ∀ i, i ≤ N → M.2.1 304 (101 * k + i) = nI (b i)
/-- i0 is the first of them that is touched by a change at pl -/
def aTo (Mr : Mem) (cl : Nat → Int32) (k len N : Nat) (b : Nat → Nat) (pl i0 : Nat) : Prop :=
  i0 ≤ N ∧ (∀ j, j < i0 → ∃ R, aLk Mr cl k len (b j) R ∧ b j + R ≤ pl) ∧ (i0 < N → ∃ R, aLk Mr cl k len (b i0) R ∧ pl < b i0 + R)
theorem aTo_u {Mr : Mem} {cl : Nat → Int32} {k len N : Nat} {b : Nat → Nat} {pl i0 i1 : Nat} (h : aTo Mr cl k len N b pl i0) (h' : aTo Mr cl k len N b pl i1) : i0 = i1 := by
  rcases Nat.lt_trichotomy i0 i1 with w | w | w
  · obtain ⟨R, r1, r2⟩ := h'.2.1 i0 w
    obtain ⟨R', q1, q2⟩ := h.2.2 (by have := h'.1; omega)
    have := aLk_u r1 q1
    omega
  · exact w
  · obtain ⟨R, r1, r2⟩ := h.2.1 i1 w
    obtain ⟨R', q1, q2⟩ := h'.2.2 (by have := h.1; omega)
    have := aLk_u r1 q1
    omega
theorem aTo_le {M Mr : Mem} {cl : Nat → Int32} {k len N : Nat} {b : Nat → Nat} {pl i0 : Nat} (hK : cK M Mr cl k len N b) (h : aTo Mr cl k len N b pl i0) : b i0 ≤ pl := by
  rcases Nat.eq_zero_or_pos i0 with e | e
  · rw [e, hK.1]
    omega
  · obtain ⟨R, r1, r2⟩ := h.2.1 (i0 - 1) (by omega)
    obtain ⟨R', q1, q2, q3⟩ := hK.2.2.2.1 (i0 - 1) (by have := h.1; omega)
    have := aLk_u r1 q2
    rw [show i0 - 1 + 1 = i0 by omega] at q3
    omega
theorem cK_mv {M M' Mr : Mem} {Q : Nat → Prop} {cl : Nat → Int32} {k len N : Nat} {b : Nat → Nat} (hq : zq Q M M') (h1 : Q (10 + 48 * k)) (h : cK M Mr cl k len N b) : cK M' Mr cl k len N b := by
  unfold cK at *
  rw [(hq.2 _ h1).1]
  exact h
theorem mK_mv {M M' : Mem} {Q : Nat → Prop} {k N : Nat} {b : Nat → Nat} (hq : zq Q M M') (h1 : Q 303) (h2 : Q 304) (h : mK M k N b) : mK M' k N b := by
  unfold mK at *
  rw [(hq.2 303 h1).1, (hq.2 304 h2).1]
  exact h
theorem cK_u {M Mr : Mem} {cl : Nat → Int32} {k len N : Nat} {b : Nat → Nat} (h : cK M Mr cl k len N b) {N' : Nat} {b' : Nat → Nat} (e : N = N') (e2 : ∀ i, i ≤ N → b i = b' i) : cK M Mr cl k len N' b' := by
  subst e
  obtain ⟨h1, h2, h3, h4, h5⟩ := h
  refine ⟨by rw [← e2 0 (by omega)]; exact h1, fun i hi => by rw [← e2 i (by omega), ← e2 (i + 1) (by omega)]; exact h2 i hi, by rw [← e2 N (by omega)]; exact h3, fun j hj => by rw [← e2 j (by omega), ← e2 (j + 1) (by omega)]; exact h4 j hj, fun x hx hn => h5 x hx (fun j hj => by rw [e2 j (by omega)]; exact hn j hj)⟩
/-- firstTouched() -/
theorem ft_loop {M Mr : Mem} {cl : Nat → Int32} (h : zO M) {k len N pl : Nat} {b : Nat → Nat} (hk : k < 3) (hl : len ≤ 100) (hK : cK M Mr cl k len N b) (hpl : pl ≤ 1000) : ∀ d p fuel, p + d = len → d < fuel → (∀ j, j < N → b j < p → ∃ R, aLk Mr cl k len (b j) R ∧ b j + R ≤ pl) →
    ∃ i0, fX2_firstTouched_2L fuel M (8 + 48 * k) (nI pl) (nI len) (nI p) = some (nI (b i0), M) ∧ aTo Mr cl k len N b pl i0 := by
  obtain ⟨z1, z2, z3, z4, z5, z6, z7, z8⟩ := zkind hk
  obtain ⟨k1, k2, k3, k4, k5⟩ := hK
  intro d
  induction d with
  | zero =>
    intro p fuel hd hf hi
    obtain ⟨f, rfl⟩ : ∃ f, fuel = f + 1 := ⟨fuel - 1, by omega⟩
    show ∃ i0, fX2_firstTouched_2 (fX2_firstTouched_2L f) M (8 + 48 * k) (nI pl) (nI len) (nI p) = _ ∧ _
    unfold fX2_firstTouched_2
    rw [if_pos (show nI len ≤ nI p by rw [nI_leN (by omega) (by omega)]; omega)]
    exact ⟨N, by rw [k3], Nat.le_refl _, fun j hj => hi j hj (by have := inc_lt k2 N (Nat.le_refl _) hj; omega), fun z => absurd z (by omega)⟩
  | succ d ih =>
    intro p fuel hd hf hi
    obtain ⟨f, rfl⟩ : ∃ f, fuel = f + 1 := ⟨fuel - 1, by omega⟩
    show ∃ i0, fX2_firstTouched_2 (fX2_firstTouched_2L f) M (8 + 48 * k) (nI pl) (nI len) (nI p) = _ ∧ _
    have nxt : (∀ j, j < N → b j = p → ∃ R, aLk Mr cl k len (b j) R ∧ b j + R ≤ pl) → ∃ i0, fX2_firstTouched_39 (fX2_firstTouched_2L f) M (8 + 48 * k) (nI pl) (nI len) (nI p) = some (nI (b i0), M) ∧ aTo Mr cl k len N b pl i0 := by
      intro hp
      unfold fX2_firstTouched_39
      rw [zlt_e, nI_1]
      exact ih (p + 1) f (by omega) (by omega) (fun j hj hlt => by
        rcases Nat.lt_or_ge (b j) p with w | w
        · exact hi j hj w
        · exact hp j hj (by omega))
    unfold fX2_firstTouched_2
    rw [if_neg (show ¬ nI len ≤ nI p by rw [nI_leN (by omega) (by omega)]; omega), zgR_f h (by omega) z1 z7, Option.bind_some, zal_f h (by omega) z3, Option.bind_some, z5, if_neg (show ¬ nI 100 ≤ nI p by rw [nI_leN (by omega) (by omega)]; omega), Option.bind_some, zaI_f h (by omega) z3 (by rw [z5]; omega), Option.bind_some]
    by_cases he : ∃ j, j < N ∧ p = b j
    · obtain ⟨j, hj, rfl⟩ := he
      obtain ⟨R, r1, r2, r3⟩ := k4 j hj
      have hR1 := aLk_pos r2
      have hR2 := aLk_b hl (by omega) r2
      rw [r1, if_neg (show ¬ nI R ≤ 0 by rw [nI_le0 (by omega)]; omega), Option.bind_some, zaI_f h (by omega) z3 (by rw [z5]; omega), Option.bind_some, r1, nI_add]
      by_cases hle : b j + R ≤ pl
      · rw [if_pos (show nI (b j + R) ≤ nI pl by rw [nI_leN (by omega) (by omega)]; exact hle)]
        refine nxt (fun j' hj' e => ?_)
        rw [e]
        exact ⟨R, r2, hle⟩
      · rw [if_neg (show ¬ nI (b j + R) ≤ nI pl by rw [nI_leN (by omega) (by omega)]; exact hle)]
        exact ⟨j, rfl, by omega, fun j' hj' => hi j' (by omega) (inc_lt k2 j (by omega) hj'), fun _ => ⟨R, r2, by omega⟩⟩
    · rw [k5 p (by omega) (fun j hj e => he ⟨j, hj, e⟩), if_pos (show (0 : Int32) ≤ 0 by decide)]
      exact nxt (fun j hj e => absurd ⟨j, hj, e.symm⟩ he)
theorem ft_ok {M Mr : Mem} {cl : Nat → Int32} (h : zO M) {k len N pl : Nat} {b : Nat → Nat} (hk : k < 3) (hl : len ≤ 100) (hK : cK M Mr cl k len N b) (hpl : pl ≤ 1000) : ∃ i0, fX2_firstTouched M (8 + 48 * k) (nI pl) (nI len) = some (nI (b i0), M) ∧ aTo Mr cl k len N b pl i0 :=
  ft_loop h hk hl hK hpl len 0 zFU (by omega) (by unfold zFU; omega) (fun j hj hlt => absurd hlt (by omega))
/-- Arrays.fill of a part -/
theorem fillr_loop {a : Nat} (ha : a < 320) (hka : zsK a = 11) {B : Nat} (hB : B ≤ zsL a) (v : Int32) : ∀ d x fuel M, x + d = B → d < fuel → zO M → ∃ M', fJ7_fill_fda19_10L fuel M a (nI B) v (nI x) = some M' ∧ zO M' ∧ zq (fun q => q ≠ a) M M' ∧ M'.2.2 = M.2.2 ∧ ∀ y, M'.2.1 a y = if x ≤ y ∧ y < B then v else M.2.1 a y := by
  have hL := zsL_max a
  intro d
  induction d with
  | zero =>
    intro x fuel M hd hf hM
    obtain ⟨f, rfl⟩ : ∃ f, fuel = f + 1 := ⟨fuel - 1, by omega⟩
    show ∃ M', fJ7_fill_fda19_10 (fJ7_fill_fda19_10L f) M a (nI B) v (nI x) = _ ∧ _
    unfold fJ7_fill_fda19_10
    rw [if_pos (show nI B ≤ nI x by rw [nI_leN (by omega) (by omega)]; omega)]
    exact ⟨M, rfl, hM, zq.rf, rfl, fun y => by rw [if_neg (by omega)]⟩
  | succ d ih =>
    intro x fuel M hd hf hM
    obtain ⟨f, rfl⟩ : ∃ f, fuel = f + 1 := ⟨fuel - 1, by omega⟩
    show ∃ M', fJ7_fill_fda19_10 (fJ7_fill_fda19_10L f) M a (nI B) v (nI x) = _ ∧ _
    unfold fJ7_fill_fda19_10
    rw [if_neg (show ¬ nI B ≤ nI x by rw [nI_leN (by omega) (by omega)]; omega), zsI_f hM ha hka (by omega), Option.bind_some, zlt_e, nI_1]
    have hA : zO (zwI M a x v) := hM
    obtain ⟨M', a1, a2, a3, a4, a5⟩ := ih (x + 1) f (zwI M a x v) (by omega) (by omega) hA
    refine ⟨M', a1, a2, zq_wI.tr a3, a4, fun y => ?_⟩
    rw [a5 y, zw_I]
    by_cases e : y = x
    · subst e
      rw [if_neg (by omega), if_pos ⟨rfl, rfl⟩, if_pos (by omega)]
    · rw [if_neg (show ¬ (a = a ∧ y = x) from fun z => e z.2)]
      by_cases h2 : x + 1 ≤ y ∧ y < B
      · rw [if_pos h2, if_pos (by omega)]
      · rw [if_neg h2, if_neg (by omega)]
theorem fillr_ok {M : Mem} (h : zO M) {a : Nat} (ha : a < 320) (hka : zsK a = 11) {A B : Nat} (hA : A ≤ B) (hB : B ≤ zsL a) (v : Int32) : ∃ M', fJ7_fill_fda19 M a (nI A) (nI B) v = some M' ∧ zO M' ∧ zq (fun q => q ≠ a) M M' ∧ M'.2.2 = M.2.2 ∧ ∀ y, M'.2.1 a y = if A ≤ y ∧ y < B then v else M.2.1 a y := by
  have hL := zsL_max a
  unfold fJ7_fill_fda19 fJ7_rangeCheck_23922
  rw [zal_f h ha hka, Option.bind_some, if_pos (show nI A ≤ nI B by rw [nI_leN (by omega) (by omega)]; exact hA), if_pos (show 0 ≤ nI A from nI_pos' (by omega)), if_pos (show nI B ≤ nI (zsL a) by rw [nI_leN (by omega) (by omega)]; exact hB), Option.bind_some]
  exact fillr_loop ha hka hB v (B - A) A zFU M (by omega) (by unfold zFU; omega) h
theorem mup_ok {M : Mem} (h : zO M) {k pl n len : Nat} (hk : k < 3) (hp : pl ≤ len) (hn : len + n ≤ 100) : ∃ M', fX2_moveUp M (8 + 48 * k) (nI pl) (nI n) (nI len) = some M' ∧ zO M' ∧ zq (fun q => q ≠ 10 + 48 * k) M M' ∧ M'.2.2 = M.2.2 ∧ ∀ x, x < len + n → M'.2.1 (10 + 48 * k) x = if x < pl then M.2.1 (10 + 48 * k) x else if x < pl + n then 0 else M.2.1 (10 + 48 * k) (x - n) := by
  obtain ⟨z1, z2, z3, z4, z5, z6, z7, z8⟩ := zkind hk
  unfold fX2_moveUp
  rw [if_neg (nI_pos (by omega)), if_neg (nI_pos (by omega)), if_neg (show ¬ nI len < nI pl by rw [nI_ltN (by omega) (by omega)]; omega), zgR_f h (by omega) z1 z7, Option.bind_some, zal_f h (by omega) z3, Option.bind_some, z5, pk_sub (show len ≤ 100 by omega), if_pos (show nI n ≤ nI (100 - len) by rw [nI_leN (by omega) (by omega)]; omega), Option.bind_some, Option.bind_some, nI_add, pk_sub hp, zcp_f h (by omega) z3 (by omega) z3 (by rw [z5]; omega) (by rw [z5]; omega), Option.bind_some]
  have hA : zO (zwA M (10 + 48 * k) (va_cpy (M.2.1 (10 + 48 * k)) (M.2.1 (10 + 48 * k)) pl (pl + n) (len - pl))) := h
  rw [zgR_f hA (by omega) z1 z7, Option.bind_some]
  obtain ⟨M', a1, a2, a3, a4, a5⟩ := fillr_ok hA (a := 10 + 48 * k) (by omega) z3 (A := pl) (B := pl + n) (by omega) (by rw [z5]; omega) 0
  rw [a1, Option.bind_some]
  refine ⟨M', rfl, a2, zq_wA.tr a3, a4, fun x hx => ?_⟩
  rw [a5 x, zw_A, if_pos rfl]
  unfold va_cpy
  by_cases e1 : x < pl
  · rw [if_neg (by omega), if_neg (by omega), if_pos e1]
  · rw [if_neg e1]
    by_cases e2 : x < pl + n
    · rw [if_pos (by omega), if_pos e2]
    · rw [if_neg (by omega), if_pos (by omega), if_neg e2, show pl + (x - (pl + n)) = x - n by omega]
theorem mdn_ok {M : Mem} (h : zO M) {k pl n len : Nat} (hk : k < 3) (hp : pl + n ≤ len) (hn : len ≤ 100) : ∃ M', fX2_moveDown M (8 + 48 * k) (nI pl) (nI n) (nI len) = some M' ∧ zO M' ∧ zq (fun q => q ≠ 10 + 48 * k) M M' ∧ M'.2.2 = M.2.2 ∧ ∀ x, x + n < len → M'.2.1 (10 + 48 * k) x = if x < pl then M.2.1 (10 + 48 * k) x else M.2.1 (10 + 48 * k) (x + n) := by
  obtain ⟨z1, z2, z3, z4, z5, z6, z7, z8⟩ := zkind hk
  unfold fX2_moveDown
  rw [if_neg (nI_pos (by omega)), if_neg (nI_pos (by omega)), pk_sub (show pl ≤ len by omega), if_neg (show ¬ nI (len - pl) < nI n by rw [nI_ltN (by omega) (by omega)]; omega), zgR_f h (by omega) z1 z7, Option.bind_some, zal_f h (by omega) z3, Option.bind_some, z5, if_pos (show nI len ≤ nI 100 by rw [nI_leN (by omega) (by omega)]; omega), Option.bind_some, Option.bind_some, nI_add, pk_sub (show n ≤ len - pl by omega), zcp_f h (by omega) z3 (by omega) z3 (by rw [z5]; omega) (by rw [z5]; omega), Option.bind_some]
  refine ⟨_, rfl, h, zq_wA, rfl, fun x hx => ?_⟩
  rw [zw_A, if_pos rfl]
  unfold va_cpy
  by_cases e1 : x < pl
  · rw [if_neg (by omega), if_pos e1]
  · rw [if_pos (by omega), if_neg e1, show pl + n + (x - pl) = x + n by omega]
