/-! ===== rules on both sides; the length and the look of a kind at a position ===== -/
theorem aNx_cg {F F' : Nat → Int32} {m : Int32} : ∀ {k : Nat}, (∀ q, q < k → F q = F' q) → aNx F m k = aNx F' m k
  | 0, _ => rfl
  | k + 1, h => by
    simp only [aNx]
    rw [aNx_cg (fun q hq => h q (by omega)), h k (by omega)]
theorem aS_cg {W F F' : Nat → Int32} {n : Nat} {cl : Nat → Int32} {m0 : Int32} {p : Nat} (h : ∀ q, q < n → F q = F' q) : ∀ t, aS W F n cl m0 p t = aS W F' n cl m0 p t
  | 0 => rfl
  | t + 1 => by
    simp only [aS]
    rw [aS_cg h t, aNx_cg h]
theorem aT_cg {W F F' : Nat → Int32} {n : Nat} {cl : Nat → Int32} (h : ∀ q, q < n → F q = F' q) : aT W F n cl = aT W F' n cl := by
  funext m0 p t
  unfold aT
  rw [aS_cg h]
theorem aU_cg {W F F' : Nat → Int32} {n : Nat} {cl : Nat → Int32} {bf bl bn lf : Int32} {p : Nat} (h : ∀ q, q < n → F q = F' q) : ∀ t, aU W F n cl bf bl bn lf p t = aU W F' n cl bf bl bn lf p t
  | 0 => rfl
  | t + 1 => by
    simp only [aU]
    rw [aU_cg h t, aNx_cg h]
theorem aV_cg {W F F' : Nat → Int32} {n : Nat} {cl : Nat → Int32} {bf bl bn lf : Int32} {p : Nat} (h : ∀ q, q < n → F q = F' q) : aV W F n cl bf bl bn lf p = aV W F' n cl bf bl bn lf p := by
  funext t
  unfold aV
  rw [aU_cg h]
theorem aLn_cg {W F F' : Nat → Int32} {n : Nat} {cl : Nat → Int32} {bf bl lf ll ln : Int32} {len p L : Nat} (h : ∀ q, q < n → F q = F' q) : aLn W F n cl bf bl lf ll ln len p L = aLn W F' n cl bf bl lf ll ln len p L := by
  unfold aLn aAh
  rw [aT_cg h]
/-- the masks of a rule: the class (in M) and the model (in Mr) have the same -/
def iMask (M Mr : Mem) (ra r n : Nat) : Prop :=
  M.2.1 (ra + 3) 0 = Mr.2.1 297 r ∧ M.2.1 (ra + 3) 1 = Mr.2.1 298 r ∧ M.2.1 (ra + 3) 2 = Mr.2.1 296 r ∧ M.2.1 (ra + 4) 0 = Mr.2.1 300 r ∧ M.2.1 (ra + 4) 1 = Mr.2.1 301 r ∧ M.2.1 (ra + 4) 2 = Mr.2.1 299 r ∧ (Mr.2.1 299 r = 0 ∨ Mr.2.1 299 r = 1) ∧ (∀ q, q < n → M.2.1 (ra + 5) q = Mr.2.1 294 (24 * r + q)) ∧ ∃ sg l, aOk n sg (kbf M ra) (kbl M ra) (klf M ra) (kll M ra) (kF M ra) (aW Mr r) (kTk M ra) l
/-- the rule of kind k at place p -/
def iRule (M Mr : Mem) (k p : Nat) : Prop :=
  (∃ w1 w2, zWt M (zra k p) w1 w2) ∧ ∃ n, n ≤ 24 ∧ M.2.1 (zra k p + 1) 1 = nI n ∧ Mr.2.1 291 (5 * k + p) = nI n ∧ (∀ i, i < n → M.2.1 (zra k p + 2) i = Mr.2.1 292 (24 * (5 * k + p) + i) ∧ chr (Mr.2.1 292 (24 * (5 * k + p) + i))) ∧ (0 < n → iMask M Mr (zra k p) (5 * k + p) n)
/-- L is the length that the rule r of the model has at pos (0 where there is none); R how far it looks (0 where there is none) -/
def aRL (M : Mem) (cl : Nat → Int32) (r len pos L : Nat) : Prop := ∃ n, n ≤ 24 ∧ M.2.1 291 r = nI n ∧ ((n = 0 ∧ L = 0) ∨ (0 < n ∧ aLn (aW M r) (aF M r) n cl (M.2.1 297 r) (M.2.1 298 r) (M.2.1 300 r) (M.2.1 301 r) (M.2.1 299 r) len pos L))
def aRR (M : Mem) (cl : Nat → Int32) (r len pos R : Nat) : Prop := ∃ n, n ≤ 24 ∧ M.2.1 291 r = nI n ∧ ((n = 0 ∧ R = 0) ∨ (0 < n ∧ aFr (aV (aW M r) (aF M r) n cl (M.2.1 297 r) (M.2.1 298 r) (M.2.1 296 r) (M.2.1 300 r) pos) len pos R))
theorem nI_inj {a b : Nat} (ha : a ≤ 1000) (hb : b ≤ 1000) (h : nI a = nI b) : a = b := (nI_eq (by omega) (by omega)).mp h
theorem aRL_u {M : Mem} {cl : Nat → Int32} {r len pos L L' : Nat} (h : aRL M cl r len pos L) (h' : aRL M cl r len pos L') : L = L' := by
  obtain ⟨n, n1, n2, n3⟩ := h
  obtain ⟨n', m1, m2, m3⟩ := h'
  have e : n = n' := nI_inj (by omega) (by omega) (n2.symm.trans m2)
  subst e
  rcases n3 with ⟨a1, a2⟩ | ⟨a1, a2⟩ <;> rcases m3 with ⟨b1, b2⟩ | ⟨b1, b2⟩
  · rw [a2, b2]
  · omega
  · omega
  · exact aLn_u a2 b2
theorem aRR_u {M : Mem} {cl : Nat → Int32} {r len pos L L' : Nat} (h : aRR M cl r len pos L) (h' : aRR M cl r len pos L') : L = L' := by
  obtain ⟨n, n1, n2, n3⟩ := h
  obtain ⟨n', m1, m2, m3⟩ := h'
  have e : n = n' := nI_inj (by omega) (by omega) (n2.symm.trans m2)
  subst e
  rcases n3 with ⟨a1, a2⟩ | ⟨a1, a2⟩ <;> rcases m3 with ⟨b1, b2⟩ | ⟨b1, b2⟩
  · rw [a2, b2]
  · omega
  · omega
  · exact aFr_u a2 b2
def amx (f : Nat → Nat) : Nat → Nat
  | 0 => 1
  | k + 1 => max (amx f k) (f k)
theorem amx_pos (f : Nat → Nat) : ∀ k, 1 ≤ amx f k
  | 0 => Nat.le_refl _
  | k + 1 => by
    have := amx_pos f k
    simp only [amx]
    omega
theorem amx_le {f : Nat → Nat} {B : Nat} (hB : 1 ≤ B) : ∀ k, (∀ q, q < k → f q ≤ B) → amx f k ≤ B
  | 0, _ => hB
  | k + 1, h => by
    have := amx_le hB k (fun q hq => h q (by omega))
    have := h k (by omega)
    simp only [amx]
    omega
theorem amx_cg {f g : Nat → Nat} : ∀ k, (∀ q, q < k → f q = g q) → amx f k = amx g k
  | 0, _ => rfl
  | k + 1, h => by
    simp only [amx]
    rw [amx_cg k (fun q hq => h q (by omega)), h k (by omega)]
/-- the segment of kind k at pos has S characters; its analysis looks at R -/
def aSg (M : Mem) (cl : Nat → Int32) (k len pos S : Nat) : Prop := ∃ f : Nat → Nat, (∀ p, p < 5 → aRL M cl (5 * k + p) len pos (f p)) ∧ S = amx f 5
def aLk (M : Mem) (cl : Nat → Int32) (k len pos R : Nat) : Prop := ∃ f : Nat → Nat, (∀ p, p < 5 → aRR M cl (5 * k + p) len pos (f p)) ∧ R = amx f 5
theorem aSg_u {M : Mem} {cl : Nat → Int32} {k len pos S S' : Nat} (h : aSg M cl k len pos S) (h' : aSg M cl k len pos S') : S = S' := by
  obtain ⟨f, f1, rfl⟩ := h
  obtain ⟨g, g1, rfl⟩ := h'
  exact amx_cg 5 (fun q hq => aRL_u (f1 q hq) (g1 q hq))
theorem aLk_u {M : Mem} {cl : Nat → Int32} {k len pos S S' : Nat} (h : aLk M cl k len pos S) (h' : aLk M cl k len pos S') : S = S' := by
  obtain ⟨f, f1, rfl⟩ := h
  obtain ⟨g, g1, rfl⟩ := h'
  exact amx_cg 5 (fun q hq => aRR_u (f1 q hq) (g1 q hq))
theorem aLn_le {W F : Nat → Int32} {N : Nat} {cl : Nat → Int32} {bf bl lf ll ln : Int32} {len p L : Nat} (hp : p ≤ len) (h : aLn W F N cl bf bl lf ll ln len p L) : p + L ≤ len := by
  rcases h.1 with e | ⟨-, e, -⟩ <;> omega
theorem aFr_le {V : Nat → Int32} {len p R : Nat} (hp : p ≤ len) (h : aFr V len p R) : p + R ≤ len + 1 := by
  rcases h with ⟨t, a1, -, -, a2⟩ | ⟨-, a2⟩ <;> omega
/-- the model's rules are as they should be -/
def aRs (M : Mem) : Prop := ∀ r, r < 15 → ∃ n, n ≤ 24 ∧ M.2.1 291 r = nI n ∧ (0 < n → M.2.1 299 r = 0 ∨ M.2.1 299 r = 1)
theorem nI_le0 {a : Nat} (ha : a < 2 ^ 31) : (nI a ≤ 0) = (a = 0) := by
  rw [show (0 : Int32) = nI 0 from rfl, nI_leN ha (by omega)]
  exact propext (by omega)
/-- the model's segmentAt() -/
theorem seg_loop {M : Mem} (h : zO M) (hR : aRs M) {k len pos : Nat} (hk : k < 3) (hx : aTx M len) (hp : pos ≤ len) : ∀ d j fuel (f : Nat → Nat), j + d = 5 → d < fuel → (∀ p, p < j → aRL M (aCl M) (5 * k + p) len pos (f p)) →
    ∃ S, fX9_segmentAt_7L fuel M 279 (nI k) (nI pos) (nI (amx f j)) (nI (5 * k + j)) = some (nI S, M) ∧ aSg M (aCl M) k len pos S ∧ (pos < len → pos + S ≤ len) := by
  have hl := hx.2.1
  intro d
  induction d with
  | zero =>
    intro j fuel f hj hf hi
    obtain ⟨f', rfl⟩ : ∃ f, fuel = f + 1 := ⟨fuel - 1, by omega⟩
    show ∃ S, fX9_segmentAt_7 (fX9_segmentAt_7L f') M 279 (nI k) (nI pos) _ (nI (5 * k + j)) = some (nI S, M) ∧ _
    unfold fX9_segmentAt_7
    rw [show (5 : Int32) = nI 5 from rfl, pk_mul, nI_add, if_pos (by rw [nI_leN (by omega) (by omega)]; omega)]
    have e : j = 5 := by omega
    subst e
    refine ⟨amx f 5, rfl, ⟨f, hi, rfl⟩, fun hlt => ?_⟩
    have := amx_le (f := f) (B := len - pos) (by omega) 5 (fun q hq => by
      obtain ⟨n, n1, n2, n3⟩ := hi q hq
      rcases n3 with ⟨-, e⟩ | ⟨-, e⟩
      · omega
      · have := aLn_le hp e
        omega)
    omega
  | succ d ih =>
    intro j fuel f hj hf hi
    obtain ⟨f', rfl⟩ : ∃ f, fuel = f + 1 := ⟨fuel - 1, by omega⟩
    show ∃ S, fX9_segmentAt_7 (fX9_segmentAt_7L f') M 279 (nI k) (nI pos) _ (nI (5 * k + j)) = some (nI S, M) ∧ _
    have hr : 5 * k + j < 15 := by omega
    obtain ⟨n, n1, n2, n3⟩ := hR (5 * k + j) hr
    -- with the rule's length known, the round ends so
    have core : ∀ L, aRL M (aCl M) (5 * k + j) len pos L → ∃ S, fX9_segmentAt_38 (fX9_segmentAt_7L f') M 279 (nI k) (nI pos) (nI (amx f j)) (nI (5 * k + j)) (nI L) = some (nI S, M) ∧ aSg M (aCl M) k len pos S ∧ (pos < len → pos + S ≤ len) := by
      intro L hL
      have hLb : L ≤ 100 := by
        obtain ⟨n', -, -, q⟩ := hL
        rcases q with ⟨-, e⟩ | ⟨-, e⟩
        · omega
        · have := aLn_le hp e
          omega
      have hmb : amx f j ≤ 101 := amx_le (by omega) j (fun q hq => by
        obtain ⟨n', -, -, q'⟩ := hi q hq
        rcases q' with ⟨-, e⟩ | ⟨-, e⟩
        · omega
        · have := aLn_le hp e
          omega)
      have key : ∀ y, fX9_segmentAt_52 (fX9_segmentAt_7L f') M 279 (nI k) (nI pos) (nI (5 * k + j)) y = fX9_segmentAt_7L f' M 279 (nI k) (nI pos) y (nI (5 * k + (j + 1))) := fun y => by
        unfold fX9_segmentAt_52
        rw [zlt_e, nI_1]
        rfl
      have e2 : ∀ g : Nat → Nat, (∀ q, q < j → g q = f q) → g j = L → amx g (j + 1) = max (amx f j) L := fun g g1 g2 => by
        simp only [amx]
        rw [amx_cg j g1, g2]
      obtain ⟨g, g1, g2⟩ : ∃ g : Nat → Nat, (∀ q, q < j → g q = f q) ∧ g j = L := ⟨fun q => if q = j then L else f q, fun q hq => if_neg (by omega), if_pos rfl⟩
      have fin := ih (j + 1) f' g (by omega) (by omega) (fun p hp' => by
        rcases Nat.lt_or_ge p j with w | w
        · rw [g1 p w]; exact hi p w
        · rw [show p = j by omega, g2]; exact hL)
      rw [e2 g g1 g2] at fin
      unfold fX9_segmentAt_38
      rw [key, key]
      by_cases hle : L ≤ amx f j
      · rw [if_pos (show nI L ≤ nI (amx f j) by rw [nI_leN (by omega) (by omega)]; exact hle)]
        rw [show max (amx f j) L = amx f j by omega] at fin
        exact fin
      · rw [if_neg (show ¬ nI L ≤ nI (amx f j) by rw [nI_leN (by omega) (by omega)]; exact hle)]
        rw [show max (amx f j) L = L by omega] at fin
        exact fin
    unfold fX9_segmentAt_7
    rw [show (5 : Int32) = nI 5 from rfl, pk_mul, nI_add, if_neg (by rw [nI_leN (by omega) (by omega)]; omega), gr_279_20 h, Option.bind_some, zaI_f h (by decide) zk_291 (by rw [zl_291]; exact hr), Option.bind_some, n2]
    by_cases h0 : n = 0
    · rw [if_pos (show nI n ≤ 0 by rw [nI_le0 (by omega)]; exact h0)]
      exact core 0 ⟨n, n1, n2, Or.inl ⟨h0, rfl⟩⟩
    · rw [if_neg (show ¬ nI n ≤ 0 by rw [nI_le0 (by omega)]; exact h0), zck_f h (by decide) zk_279, Option.bind_some]
      obtain ⟨L, l1, l2⟩ := len_ok h hr n2 n1 hx hp (n3 (by omega))
      rw [l1, Option.bind_some]
      exact core L ⟨n, n1, n2, Or.inr ⟨by omega, l2⟩⟩
theorem seg_ok {M : Mem} (h : zO M) (hR : aRs M) {k len pos : Nat} (hk : k < 3) (hx : aTx M len) (hp : pos ≤ len) : ∃ S, fX9_segmentAt M 279 (nI k) (nI pos) = some (nI S, M) ∧ aSg M (aCl M) k len pos S ∧ (pos < len → pos + S ≤ len) := by
  unfold fX9_segmentAt
  rw [zlt_e, show (5 : Int32) = nI 5 from rfl, pk_mul]
  exact seg_loop h hR hk hx hp 5 0 zFU (fun _ => 0) (by omega) (by unfold zFU; omega) (fun p hp' => absurd hp' (by omega))
/-- the model's looksFrom() -/
theorem lks_loop {M : Mem} (h : zO M) (hR : aRs M) {k len pos : Nat} (hk : k < 3) (hx : aTx M len) (hp : pos ≤ len) : ∀ d j fuel (f : Nat → Nat), j + d = 5 → d < fuel → (∀ p, p < j → aRR M (aCl M) (5 * k + p) len pos (f p)) →
    ∃ S, fX9_looksFrom_7L fuel M 279 (nI k) (nI pos) (nI (amx f j)) (nI (5 * k + j)) = some (nI S, M) ∧ aLk M (aCl M) k len pos S ∧ 1 ≤ S ∧ (pos ≤ len → pos + S ≤ len + 1) := by
  have hl := hx.2.1
  intro d
  induction d with
  | zero =>
    intro j fuel f hj hf hi
    obtain ⟨f', rfl⟩ : ∃ f, fuel = f + 1 := ⟨fuel - 1, by omega⟩
    show ∃ S, fX9_looksFrom_7 (fX9_looksFrom_7L f') M 279 (nI k) (nI pos) _ (nI (5 * k + j)) = some (nI S, M) ∧ _
    unfold fX9_looksFrom_7
    rw [show (5 : Int32) = nI 5 from rfl, pk_mul, nI_add, if_pos (by rw [nI_leN (by omega) (by omega)]; omega)]
    have e : j = 5 := by omega
    subst e
    refine ⟨amx f 5, rfl, ⟨f, hi, rfl⟩, amx_pos f 5, fun _ => ?_⟩
    have := amx_le (f := f) (B := len + 1 - pos) (by omega) 5 (fun q hq => by
      obtain ⟨n, n1, n2, n3⟩ := hi q hq
      rcases n3 with ⟨-, e⟩ | ⟨-, e⟩
      · omega
      · have := aFr_le hp e
        omega)
    omega
  | succ d ih =>
    intro j fuel f hj hf hi
    obtain ⟨f', rfl⟩ : ∃ f, fuel = f + 1 := ⟨fuel - 1, by omega⟩
    show ∃ S, fX9_looksFrom_7 (fX9_looksFrom_7L f') M 279 (nI k) (nI pos) _ (nI (5 * k + j)) = some (nI S, M) ∧ _
    have hr : 5 * k + j < 15 := by omega
    obtain ⟨n, n1, n2, n3⟩ := hR (5 * k + j) hr
    have core : ∀ L, aRR M (aCl M) (5 * k + j) len pos L → ∃ S, fX9_looksFrom_38 (fX9_looksFrom_7L f') M 279 (nI k) (nI pos) (nI (amx f j)) (nI (5 * k + j)) (nI L) = some (nI S, M) ∧ aLk M (aCl M) k len pos S ∧ 1 ≤ S ∧ (pos ≤ len → pos + S ≤ len + 1) := by
      intro L hL
      have hLb : L ≤ 101 := by
        obtain ⟨n', -, -, q⟩ := hL
        rcases q with ⟨-, e⟩ | ⟨-, e⟩
        · omega
        · have := aFr_le hp e
          omega
      have hmb : amx f j ≤ 101 := amx_le (by omega) j (fun q hq => by
        obtain ⟨n', -, -, q'⟩ := hi q hq
        rcases q' with ⟨-, e⟩ | ⟨-, e⟩
        · omega
        · have := aFr_le hp e
          omega)
      have key : ∀ y, fX9_looksFrom_52 (fX9_looksFrom_7L f') M 279 (nI k) (nI pos) (nI (5 * k + j)) y = fX9_looksFrom_7L f' M 279 (nI k) (nI pos) y (nI (5 * k + (j + 1))) := fun y => by
        unfold fX9_looksFrom_52
        rw [zlt_e, nI_1]
        rfl
      have e2 : ∀ g : Nat → Nat, (∀ q, q < j → g q = f q) → g j = L → amx g (j + 1) = max (amx f j) L := fun g g1 g2 => by
        simp only [amx]
        rw [amx_cg j g1, g2]
      obtain ⟨g, g1, g2⟩ : ∃ g : Nat → Nat, (∀ q, q < j → g q = f q) ∧ g j = L := ⟨fun q => if q = j then L else f q, fun q hq => if_neg (by omega), if_pos rfl⟩
      have fin := ih (j + 1) f' g (by omega) (by omega) (fun p hp' => by
        rcases Nat.lt_or_ge p j with w | w
        · rw [g1 p w]; exact hi p w
        · rw [show p = j by omega, g2]; exact hL)
      rw [e2 g g1 g2] at fin
      unfold fX9_looksFrom_38
      rw [key, key]
      by_cases hle : L ≤ amx f j
      · rw [if_pos (show nI L ≤ nI (amx f j) by rw [nI_leN (by omega) (by omega)]; exact hle)]
        rw [show max (amx f j) L = amx f j by omega] at fin
        exact fin
      · rw [if_neg (show ¬ nI L ≤ nI (amx f j) by rw [nI_leN (by omega) (by omega)]; exact hle)]
        rw [show max (amx f j) L = L by omega] at fin
        exact fin
    unfold fX9_looksFrom_7
    rw [show (5 : Int32) = nI 5 from rfl, pk_mul, nI_add, if_neg (by rw [nI_leN (by omega) (by omega)]; omega), gr_279_20 h, Option.bind_some, zaI_f h (by decide) zk_291 (by rw [zl_291]; exact hr), Option.bind_some, n2]
    by_cases h0 : n = 0
    · rw [if_pos (show nI n ≤ 0 by rw [nI_le0 (by omega)]; exact h0)]
      exact core 0 ⟨n, n1, n2, Or.inl ⟨h0, rfl⟩⟩
    · rw [if_neg (show ¬ nI n ≤ 0 by rw [nI_le0 (by omega)]; exact h0), zck_f h (by decide) zk_279, Option.bind_some]
      obtain ⟨L, l1, l2⟩ := far_ok h hr n2 n1 hx hp
      rw [l1, Option.bind_some]
      exact core L ⟨n, n1, n2, Or.inr ⟨by omega, l2⟩⟩
theorem lks_ok {M : Mem} (h : zO M) (hR : aRs M) {k len pos : Nat} (hk : k < 3) (hx : aTx M len) (hp : pos ≤ len) : ∃ S, fX9_looksFrom M 279 (nI k) (nI pos) = some (nI S, M) ∧ aLk M (aCl M) k len pos S ∧ 1 ≤ S ∧ (pos ≤ len → pos + S ≤ len + 1) := by
  unfold fX9_looksFrom
  rw [zlt_e, show (5 : Int32) = nI 5 from rfl, pk_mul]
  exact lks_loop h hR hk hx hp 5 0 zFU (fun _ => 0) (by omega) (by unfold zFU; omega) (fun p hp' => absurd hp' (by omega))
