/-! ===== the model's walk along the text: what it finds, as numbers ===== -/
theorem aMt_0 {W : Nat → Int32} {c : Int32} : ∀ k : Nat, aMt W c 0 k = 0
  | 0 => rfl
  | k + 1 => by simp [aMt, aMt_0 k, b_0]
theorem aNx_0 {F : Nat → Int32} : ∀ k : Nat, aNx F 0 k = 0
  | 0 => rfl
  | k + 1 => by simp [aNx, aNx_0 k, b_0]
/-- the places that are open before the character p + t, from m0 on -/
def aS (W F : Nat → Int32) (N : Nat) (cl : Nat → Int32) (m0 : Int32) (p : Nat) : Nat → Int32
  | 0 => m0
  | t + 1 => aNx F (aMt W (cl (p + t)) (aS W F N cl m0 p t) N) N
/-- those that take the character p + t -/
def aT (W F : Nat → Int32) (N : Nat) (cl : Nat → Int32) (m0 : Int32) (p t : Nat) : Int32 := aMt W (cl (p + t)) (aS W F N cl m0 p t) N
theorem aS_s {W F : Nat → Int32} {N : Nat} {cl : Nat → Int32} {m0 : Int32} {p t : Nat} : aS W F N cl m0 p (t + 1) = aNx F (aT W F N cl m0 p t) N := rfl
theorem aT_0 {W F : Nat → Int32} {N : Nat} {cl : Nat → Int32} {m0 : Int32} {p t : Nat} (h : aS W F N cl m0 p t = 0) : aT W F N cl m0 p t = 0 := by
  unfold aT
  rw [h, aMt_0]
theorem aS_0 {W F : Nat → Int32} {N : Nat} {cl : Nat → Int32} {m0 : Int32} {p t : Nat} (h : aS W F N cl m0 p t = 0) : ∀ d, aS W F N cl m0 p (t + d) = 0
  | 0 => h
  | d + 1 => by
    rw [show t + (d + 1) = t + d + 1 by omega, aS_s, aT_0 (aS_0 h d), aNx_0]
/-- the model's text -/
def aCl (M : Mem) (t : Nat) : Int32 := M.2.1 280 (M.2.1 302 t).toNatClampNeg
def aTx (M : Mem) (len : Nat) : Prop := M.2.1 279 31 = nI len ∧ len ≤ 100 ∧ ∀ t, t < len → ∃ ch, ch < 127 ∧ M.2.1 302 t = nI ch
abbrev aW (M : Mem) (r : Nat) : Nat → Int32 := fun q => M.2.1 293 (24 * r + q)
abbrev aF (M : Mem) (r : Nat) : Nat → Int32 := fun q => M.2.1 294 (24 * r + q)
theorem mt_cl {M : Mem} (h : zO M) {r n len p : Nat} (hr : r < 15) (hn : M.2.1 291 r = nI n) (hn24 : n ≤ 24) (hx : aTx M len) (hp : p < len) (m : Int32) : fX9_matching M 279 (nI r) m (nI p) = some (aMt (aW M r) (aCl M p) m n, M) := by
  obtain ⟨-, h2, h3⟩ := hx
  obtain ⟨ch, hc, he⟩ := h3 p hp
  have e := mt_ok h hr hn hn24 (by omega) he hc m
  rw [e]
  unfold aCl
  rw [he, nI_clamp (by omega)]
/-- a look-ahead matches from p on -/
def aAh (W F : Nat → Int32) (N : Nat) (cl : Nat → Int32) (lf ll ln : Int32) (len p : Nat) : Prop := ln = 1 ∨ ∃ j, p + j < len ∧ aT W F N cl lf p j &&& ll ≠ 0
theorem ah_loop {M : Mem} (h : zO M) {r n len : Nat} (hr : r < 15) (hn : M.2.1 291 r = nI n) (hn24 : n ≤ 24) (hx : aTx M len) (lf : Int32) (p : Nat) : ∀ d j fuel, p + j + d = len → d < fuel → (∀ j', j' < j → aT (aW M r) (aF M r) n (aCl M) lf p j' &&& M.2.1 301 r = 0) →
    ∃ v, fX9_matchesAhead_18L fuel M 279 (nI r) 0 (aS (aW M r) (aF M r) n (aCl M) lf p j) (nI (p + j)) = some (v, M) ∧ (v = 0 ∨ v = 1) ∧ (v = 1 ↔ ∃ j', p + j' < len ∧ aT (aW M r) (aF M r) n (aCl M) lf p j' &&& M.2.1 301 r ≠ 0) := by
  intro d
  induction d with
  | zero =>
    intro j fuel hd hf hj
    obtain ⟨f, rfl⟩ : ∃ f, fuel = f + 1 := ⟨fuel - 1, by omega⟩
    show ∃ v, fX9_matchesAhead_18 (fX9_matchesAhead_18L f) M 279 (nI r) 0 _ (nI (p + j)) = some (v, M) ∧ _
    unfold fX9_matchesAhead_18
    have hl := hx.2.1
    rw [zgI_f h (by decide) zk_279, Option.bind_some, hx.1, if_pos (by rw [nI_leN (by omega) (by omega)]; omega), zrt_0]
    refine ⟨0, rfl, Or.inl rfl, ⟨fun q => absurd q (by decide), ?_⟩⟩
    rintro ⟨j', q1, q2⟩
    exact absurd (hj j' (by omega)) q2
  | succ d ih =>
    intro j fuel hd hf hj
    obtain ⟨f, rfl⟩ : ∃ f, fuel = f + 1 := ⟨fuel - 1, by omega⟩
    show ∃ v, fX9_matchesAhead_18 (fX9_matchesAhead_18L f) M 279 (nI r) 0 _ (nI (p + j)) = some (v, M) ∧ _
    have hl := hx.2.1
    unfold fX9_matchesAhead_18
    rw [zgI_f h (by decide) zk_279, Option.bind_some, hx.1, if_neg (by rw [nI_leN (by omega) (by omega)]; omega)]
    by_cases h0 : aS (aW M r) (aF M r) n (aCl M) lf p j = 0
    · rw [if_pos h0, zrt_0]
      refine ⟨0, rfl, Or.inl rfl, ⟨fun q => absurd q (by decide), ?_⟩⟩
      rintro ⟨j', q1, q2⟩
      by_cases hjj : j' < j
      · exact absurd (hj j' hjj) q2
      · have e := aS_0 h0 (j' - j)
        rw [show j + (j' - j) = j' by omega] at e
        rw [aT_0 e] at q2
        exact absurd (by simp) q2
    · rw [if_neg h0, if_pos rfl, zck_f h (by decide) zk_279, Option.bind_some, mt_cl h hr hn hn24 hx (by omega), Option.bind_some, gr_279_30 h, Option.bind_some, zaI_f h (by decide) zk_301 (by rw [zl_301]; exact hr), Option.bind_some]
      have e : aMt (aW M r) (aCl M (p + j)) (aS (aW M r) (aF M r) n (aCl M) lf p j) n = aT (aW M r) (aF M r) n (aCl M) lf p j := rfl
      simp only [e]
      have key : ∀ y, fX9_matchesAhead_64 (fX9_matchesAhead_18L f) M 279 (nI r) (nI (p + j)) (aT (aW M r) (aF M r) n (aCl M) lf p j) y = fX9_matchesAhead_18L f M 279 (nI r) y (aS (aW M r) (aF M r) n (aCl M) lf p (j + 1)) (nI (p + (j + 1))) := fun y => by
        unfold fX9_matchesAhead_64
        rw [zck_f h (by decide) zk_279, Option.bind_some, bh_ok h hr hn hn24, Option.bind_some, zlt_e, nI_1, aS_s]
        rfl
      by_cases ha : aT (aW M r) (aF M r) n (aCl M) lf p j &&& M.2.1 301 r = 0
      · rw [if_pos ha, key]
        exact ih (j + 1) f (by omega) (by omega) (fun j' hj' => by
          rcases Nat.lt_or_ge j' j with q | q
          · exact hj j' q
          · rw [show j' = j by omega]; exact ha)
      · rw [if_neg ha, key]
        obtain ⟨f', rfl⟩ : ∃ f', f = f' + 1 := ⟨f - 1, by omega⟩
        show ∃ v, fX9_matchesAhead_18 (fX9_matchesAhead_18L f') M 279 (nI r) 1 _ _ = some (v, M) ∧ _
        unfold fX9_matchesAhead_18
        rw [zgI_f h (by decide) zk_279, Option.bind_some]
        refine ⟨1, ?_, Or.inr rfl, ⟨fun _ => ⟨j, by omega, ha⟩, fun _ => rfl⟩⟩
        split
        · rfl
        · split
          · rfl
          · rw [if_neg (by decide)]
            rfl
theorem ah_ok {M : Mem} (h : zO M) {r n len p : Nat} (hr : r < 15) (hn : M.2.1 291 r = nI n) (hn24 : n ≤ 24) (hx : aTx M len) (hp : p ≤ len) (hb : M.2.1 299 r = 0 ∨ M.2.1 299 r = 1) :
    ∃ v, fX9_matchesAhead M 279 (nI r) (nI p) = some (v, M) ∧ (v = 0 ∨ v = 1) ∧ (v = 1 ↔ aAh (aW M r) (aF M r) n (aCl M) (M.2.1 300 r) (M.2.1 301 r) (M.2.1 299 r) len p) := by
  have hl := hx.2.1
  unfold fX9_matchesAhead
  rw [gr_279_28 h, Option.bind_some, zaI_f h (by decide) zk_299 (by rw [zl_299]; exact hr), Option.bind_some, gr_279_29 h, Option.bind_some, zaI_f h (by decide) zk_300 (by rw [zl_300]; exact hr), Option.bind_some]
  rcases hb with hb | hb
  · rw [hb]
    obtain ⟨v, h1, h2, h3⟩ := ah_loop h hr hn hn24 hx (M.2.1 300 r) p (len - p) 0 zFU (by omega) (by unfold zFU; omega) (fun j' q => absurd q (by omega))
    refine ⟨v, h1, h2, ?_⟩
    rw [h3]
    unfold aAh
    constructor
    · exact fun q => Or.inr q
    · rintro (q | q)
      · exact absurd q (by decide)
      · exact q
  · rw [hb]
    refine ⟨1, ?_, Or.inr rfl, ⟨fun _ => Or.inl rfl, fun _ => rfl⟩⟩
    show fX9_matchesAhead_18 (fX9_matchesAhead_18L 4999) M 279 (nI r) 1 _ _ = _
    unfold fX9_matchesAhead_18
    rw [zgI_f h (by decide) zk_279, Option.bind_some]
    split
    · rfl
    · split
      · rfl
      · rw [if_neg (by decide)]
        rfl
/-- L is the length of the rule at p -/
def aLn (W F : Nat → Int32) (N : Nat) (cl : Nat → Int32) (bf bl lf ll ln : Int32) (len p L : Nat) : Prop :=
  (L = 0 ∨ (1 ≤ L ∧ p + L ≤ len ∧ aT W F N cl bf p (L - 1) &&& bl ≠ 0 ∧ aAh W F N cl lf ll ln len (p + L))) ∧ ∀ L', L < L' → p + L' ≤ len → aT W F N cl bf p (L' - 1) &&& bl ≠ 0 → ¬ aAh W F N cl lf ll ln len (p + L')
theorem aLn_u {W F : Nat → Int32} {N : Nat} {cl : Nat → Int32} {bf bl lf ll ln : Int32} {len p L L' : Nat} (h : aLn W F N cl bf bl lf ll ln len p L) (h' : aLn W F N cl bf bl lf ll ln len p L') : L = L' := by
  rcases Nat.lt_trichotomy L L' with q | q | q
  · rcases h'.1 with e | ⟨-, h1, h2, h3⟩
    · omega
    · exact absurd h3 (h.2 L' q h1 h2)
  · exact q
  · rcases h.1 with e | ⟨-, h1, h2, h3⟩
    · omega
    · exact absurd h3 (h'.2 L q h1 h2)
theorem len_loop {M : Mem} (h : zO M) {r n len p : Nat} (hr : r < 15) (hn : M.2.1 291 r = nI n) (hn24 : n ≤ 24) (hx : aTx M len) (hb : M.2.1 299 r = 0 ∨ M.2.1 299 r = 1) (bf : Int32) : ∀ d t fuel best, p + t + d = len → d < fuel →
    ((best = 0 ∨ (1 ≤ best ∧ best ≤ t ∧ aT (aW M r) (aF M r) n (aCl M) bf p (best - 1) &&& M.2.1 298 r ≠ 0 ∧ aAh (aW M r) (aF M r) n (aCl M) (M.2.1 300 r) (M.2.1 301 r) (M.2.1 299 r) len (p + best))) ∧ ∀ L', best < L' → L' ≤ t → aT (aW M r) (aF M r) n (aCl M) bf p (L' - 1) &&& M.2.1 298 r ≠ 0 → ¬ aAh (aW M r) (aF M r) n (aCl M) (M.2.1 300 r) (M.2.1 301 r) (M.2.1 299 r) len (p + L')) →
    ∃ L, fX9_lengthOf_13L fuel M 279 (nI r) (nI p) (nI best) (aS (aW M r) (aF M r) n (aCl M) bf p t) (nI (p + t)) = some (nI L, M) ∧ aLn (aW M r) (aF M r) n (aCl M) bf (M.2.1 298 r) (M.2.1 300 r) (M.2.1 301 r) (M.2.1 299 r) len p L := by
  intro d
  induction d with
  | zero =>
    intro t fuel best hd hf hi
    obtain ⟨f, rfl⟩ : ∃ f, fuel = f + 1 := ⟨fuel - 1, by omega⟩
    show ∃ L, fX9_lengthOf_13 (fX9_lengthOf_13L f) M 279 (nI r) (nI p) (nI best) _ (nI (p + t)) = some (nI L, M) ∧ _
    have hl := hx.2.1
    unfold fX9_lengthOf_13
    rw [zgI_f h (by decide) zk_279, Option.bind_some, hx.1, if_pos (by rw [nI_leN (by omega) (by omega)]; omega)]
    refine ⟨best, rfl, ?_, fun L' q1 q2 q3 => hi.2 L' q1 (by omega) q3⟩
    rcases hi.1 with e | ⟨q1, q2, q3, q4⟩
    · exact Or.inl e
    · exact Or.inr ⟨q1, by omega, q3, q4⟩
  | succ d ih =>
    intro t fuel best hd hf hi
    obtain ⟨f, rfl⟩ : ∃ f, fuel = f + 1 := ⟨fuel - 1, by omega⟩
    show ∃ L, fX9_lengthOf_13 (fX9_lengthOf_13L f) M 279 (nI r) (nI p) (nI best) _ (nI (p + t)) = some (nI L, M) ∧ _
    have hl := hx.2.1
    have hbt : best ≤ t := by
      rcases hi.1 with e | ⟨q1, q2, -⟩ <;> omega
    unfold fX9_lengthOf_13
    rw [zgI_f h (by decide) zk_279, Option.bind_some, hx.1, if_neg (by rw [nI_leN (by omega) (by omega)]; omega)]
    by_cases h0 : aS (aW M r) (aF M r) n (aCl M) bf p t = 0
    · rw [if_pos h0]
      refine ⟨best, rfl, ?_, fun L' q1 q2 q3 => ?_⟩
      · rcases hi.1 with e | ⟨q1, q2, q3, q4⟩
        · exact Or.inl e
        · exact Or.inr ⟨q1, by omega, q3, q4⟩
      · by_cases hL : L' ≤ t
        · exact hi.2 L' q1 hL q3
        · have e := aS_0 h0 (L' - 1 - t)
          rw [show t + (L' - 1 - t) = L' - 1 by omega] at e
          rw [aT_0 e] at q3
          exact absurd (by simp) q3
    · rw [if_neg h0, zck_f h (by decide) zk_279, Option.bind_some, mt_cl h hr hn hn24 hx (by omega), Option.bind_some, gr_279_27 h, Option.bind_some, zaI_f h (by decide) zk_298 (by rw [zl_298]; exact hr), Option.bind_some]
      have e : aMt (aW M r) (aCl M (p + t)) (aS (aW M r) (aF M r) n (aCl M) bf p t) n = aT (aW M r) (aF M r) n (aCl M) bf p t := rfl
      simp only [e]
      have key : ∀ y, fX9_lengthOf_72 (fX9_lengthOf_13L f) M 279 (nI r) (nI p) (nI (p + t)) (aT (aW M r) (aF M r) n (aCl M) bf p t) y = fX9_lengthOf_13L f M 279 (nI r) (nI p) y (aS (aW M r) (aF M r) n (aCl M) bf p (t + 1)) (nI (p + (t + 1))) := fun y => by
        unfold fX9_lengthOf_72
        rw [zck_f h (by decide) zk_279, Option.bind_some, bh_ok h hr hn hn24, Option.bind_some, zlt_e, nI_1, aS_s]
        rfl
      unfold fX9_lengthOf_71
      by_cases ha : aT (aW M r) (aF M r) n (aCl M) bf p t &&& M.2.1 298 r = 0
      · rw [if_pos ha, key]
        refine ih (t + 1) f best (by omega) (by omega) ⟨?_, fun L' q1 q2 q3 => ?_⟩
        · rcases hi.1 with e | ⟨q1, q2, q3, q4⟩
          · exact Or.inl e
          · exact Or.inr ⟨q1, by omega, q3, q4⟩
        · by_cases hL : L' ≤ t
          · exact hi.2 L' q1 hL q3
          · rw [show L' - 1 = t by omega] at q3
            exact absurd ha q3
      · rw [if_neg ha, zck_f h (by decide) zk_279, Option.bind_some]
        obtain ⟨v, v1, v2, v3⟩ := ah_ok h hr hn hn24 hx (p := p + (t + 1)) (by omega) hb
        rw [nI_1, show p + t + 1 = p + (t + 1) by omega, v1, Option.bind_some]
        dsimp only
        rcases v2 with rfl | rfl
        · rw [if_pos rfl, key]
          refine ih (t + 1) f best (by omega) (by omega) ⟨?_, fun L' q1 q2 q3 => ?_⟩
          · rcases hi.1 with e | ⟨q1, q2, q3, q4⟩
            · exact Or.inl e
            · exact Or.inr ⟨q1, by omega, q3, q4⟩
          · by_cases hL : L' ≤ t
            · exact hi.2 L' q1 hL q3
            · rw [show L' = t + 1 by omega]
              intro q
              exact absurd (v3.mpr q) (by decide)
        · rw [if_neg (by decide), pk_sub (by omega), key, show p + (t + 1) - p = t + 1 by omega]
          refine ih (t + 1) f (t + 1) (by omega) (by omega) ⟨Or.inr ⟨by omega, by omega, ha, v3.mp rfl⟩, fun L' q1 q2 q3 => by omega⟩
theorem len_ok {M : Mem} (h : zO M) {r n len p : Nat} (hr : r < 15) (hn : M.2.1 291 r = nI n) (hn24 : n ≤ 24) (hx : aTx M len) (hp : p ≤ len) (hb : M.2.1 299 r = 0 ∨ M.2.1 299 r = 1) :
    ∃ L, fX9_lengthOf M 279 (nI r) (nI p) = some (nI L, M) ∧ aLn (aW M r) (aF M r) n (aCl M) (M.2.1 297 r) (M.2.1 298 r) (M.2.1 300 r) (M.2.1 301 r) (M.2.1 299 r) len p L := by
  have hl := hx.2.1
  unfold fX9_lengthOf
  rw [gr_279_26 h, Option.bind_some, zaI_f h (by decide) zk_297 (by rw [zl_297]; exact hr), Option.bind_some]
  exact len_loop h hr hn hn24 hx hb (M.2.1 297 r) (len - p) 0 zFU 0 (by omega) (by unfold zFU; omega) ⟨Or.inl rfl, fun L' q1 q2 => by omega⟩
/-- body and look-ahead as one: the places that are open before p + t, those that take -/
def aU (W F : Nat → Int32) (N : Nat) (cl : Nat → Int32) (bf bl bn lf : Int32) (p : Nat) : Nat → Int32
  | 0 => bf ||| (if bn = 0 then 0 else lf)
  | t + 1 => aNx F (aMt W (cl (p + t)) (aU W F N cl bf bl bn lf p t) N) N ||| (if aMt W (cl (p + t)) (aU W F N cl bf bl bn lf p t) N &&& bl = 0 then 0 else lf)
def aV (W F : Nat → Int32) (N : Nat) (cl : Nat → Int32) (bf bl bn lf : Int32) (p t : Nat) : Int32 := aMt W (cl (p + t)) (aU W F N cl bf bl bn lf p t) N
/-- R is how far the rule looks from p on -/
def aFr (V : Nat → Int32) (len p R : Nat) : Prop := (∃ t, p + t < len ∧ V t = 0 ∧ (∀ t', t' < t → V t' ≠ 0) ∧ R = t + 1) ∨ ((∀ t, p + t < len → V t ≠ 0) ∧ R = len + 1 - p)
theorem aFr_u {V : Nat → Int32} {len p R R' : Nat} (h : aFr V len p R) (h' : aFr V len p R') : R = R' := by
  rcases h with ⟨t, a1, a2, a3, rfl⟩ | ⟨a1, rfl⟩ <;> rcases h' with ⟨t', b1, b2, b3, rfl⟩ | ⟨b1, rfl⟩
  · rcases Nat.lt_trichotomy t t' with q | q | q
    · exact absurd a2 (b3 t q)
    · rw [q]
    · exact absurd b2 (a3 t' q)
  · exact absurd a2 (b1 t a1)
  · exact absurd b2 (a1 t' b1)
  · rfl
theorem far_loop {M : Mem} (h : zO M) {r n len p : Nat} (hr : r < 15) (hn : M.2.1 291 r = nI n) (hn24 : n ≤ 24) (hx : aTx M len) (bf bn : Int32) : ∀ d t fuel, p + t + d = len → d < fuel → (∀ t', t' < t → aV (aW M r) (aF M r) n (aCl M) bf (M.2.1 298 r) bn (M.2.1 300 r) p t' ≠ 0) →
    ∃ R, fX9_farOf_30L fuel M 279 (nI r) (nI p) (aU (aW M r) (aF M r) n (aCl M) bf (M.2.1 298 r) bn (M.2.1 300 r) p t) (nI (p + t)) = some (nI R, M) ∧ aFr (aV (aW M r) (aF M r) n (aCl M) bf (M.2.1 298 r) bn (M.2.1 300 r) p) len p R := by
  intro d
  induction d with
  | zero =>
    intro t fuel hd hf hi
    obtain ⟨f, rfl⟩ : ∃ f, fuel = f + 1 := ⟨fuel - 1, by omega⟩
    show ∃ R, fX9_farOf_30 (fX9_farOf_30L f) M 279 (nI r) (nI p) _ (nI (p + t)) = some (nI R, M) ∧ _
    have hl := hx.2.1
    unfold fX9_farOf_30
    rw [zgI_f h (by decide) zk_279, Option.bind_some, hx.1, if_pos (by rw [nI_leN (by omega) (by omega)]; omega), Option.bind_some, nI_1, pk_sub (by omega)]
    exact ⟨len + 1 - p, rfl, Or.inr ⟨fun t' q => hi t' (by omega), rfl⟩⟩
  | succ d ih =>
    intro t fuel hd hf hi
    obtain ⟨f, rfl⟩ : ∃ f, fuel = f + 1 := ⟨fuel - 1, by omega⟩
    show ∃ R, fX9_farOf_30 (fX9_farOf_30L f) M 279 (nI r) (nI p) _ (nI (p + t)) = some (nI R, M) ∧ _
    have hl := hx.2.1
    unfold fX9_farOf_30
    rw [zgI_f h (by decide) zk_279, Option.bind_some, hx.1, if_neg (by rw [nI_leN (by omega) (by omega)]; omega), zck_f h (by decide) zk_279, Option.bind_some, mt_cl h hr hn hn24 hx (by omega), Option.bind_some, zlt_e, nI_1]
    have e : aMt (aW M r) (aCl M (p + t)) (aU (aW M r) (aF M r) n (aCl M) bf (M.2.1 298 r) bn (M.2.1 300 r) p t) n = aV (aW M r) (aF M r) n (aCl M) bf (M.2.1 298 r) bn (M.2.1 300 r) p t := rfl
    simp only [e]
    by_cases hv : aV (aW M r) (aF M r) n (aCl M) bf (M.2.1 298 r) bn (M.2.1 300 r) p t = 0
    · rw [if_pos hv, pk_sub (by omega), show p + t + 1 - p = t + 1 by omega]
      exact ⟨t + 1, rfl, Or.inl ⟨t, by omega, hv, hi, rfl⟩⟩
    · rw [if_neg hv, zck_f h (by decide) zk_279, Option.bind_some, bh_ok h hr hn hn24, Option.bind_some, gr_279_27 h, Option.bind_some, zaI_f h (by decide) zk_298 (by rw [zl_298]; exact hr), Option.bind_some]
      have hi' : ∀ t', t' < t + 1 → aV (aW M r) (aF M r) n (aCl M) bf (M.2.1 298 r) bn (M.2.1 300 r) p t' ≠ 0 := fun t' q => by
        rcases Nat.lt_or_ge t' t with w | w
        · exact hi t' w
        · rw [show t' = t by omega]; exact hv
      have fin := ih (t + 1) f (by omega) (by omega) hi'
      unfold fX9_farOf_91
      simp only [zlt_e]
      have eu : aU (aW M r) (aF M r) n (aCl M) bf (M.2.1 298 r) bn (M.2.1 300 r) p (t + 1) = aNx (aF M r) (aV (aW M r) (aF M r) n (aCl M) bf (M.2.1 298 r) bn (M.2.1 300 r) p t) n ||| (if aV (aW M r) (aF M r) n (aCl M) bf (M.2.1 298 r) bn (M.2.1 300 r) p t &&& M.2.1 298 r = 0 then 0 else M.2.1 300 r) := rfl
      rw [eu] at fin
      by_cases ha : aV (aW M r) (aF M r) n (aCl M) bf (M.2.1 298 r) bn (M.2.1 300 r) p t &&& M.2.1 298 r = 0
      · rw [if_pos ha]
        rw [if_pos ha] at fin
        exact fin
      · rw [if_neg ha, gr_279_29 h, Option.bind_some, zaI_f h (by decide) zk_300 (by rw [zl_300]; exact hr), Option.bind_some]
        rw [if_neg ha] at fin
        exact fin
theorem far_ok {M : Mem} (h : zO M) {r n len p : Nat} (hr : r < 15) (hn : M.2.1 291 r = nI n) (hn24 : n ≤ 24) (hx : aTx M len) (hp : p ≤ len) :
    ∃ R, fX9_farOf M 279 (nI r) (nI p) = some (nI R, M) ∧ aFr (aV (aW M r) (aF M r) n (aCl M) (M.2.1 297 r) (M.2.1 298 r) (M.2.1 296 r) (M.2.1 300 r) p) len p R := by
  have hl := hx.2.1
  have fin := far_loop h hr hn hn24 hx (M.2.1 297 r) (M.2.1 296 r) (p := p) (len - p) 0 zFU (by omega) (by unfold zFU; omega) (fun t' q => absurd q (by omega))
  unfold fX9_farOf fX9_farOf_25
  rw [gr_279_26 h, Option.bind_some, zaI_f h (by decide) zk_297 (by rw [zl_297]; exact hr), Option.bind_some, gr_279_25 h, Option.bind_some, zaI_f h (by decide) zk_296 (by rw [zl_296]; exact hr), Option.bind_some, gr_279_29 h, Option.bind_some, zaI_f h (by decide) zk_300 (by rw [zl_300]; exact hr), Option.bind_some]
  simp only [zlt_e]
  have eu : aU (aW M r) (aF M r) n (aCl M) (M.2.1 297 r) (M.2.1 298 r) (M.2.1 296 r) (M.2.1 300 r) p 0 = M.2.1 297 r ||| (if M.2.1 296 r = 0 then 0 else M.2.1 300 r) := rfl
  rw [eu] at fin
  by_cases hb : M.2.1 296 r = 0
  · rw [if_pos hb]
    rw [if_pos hb] at fin
    exact fin
  · rw [if_neg hb]
    rw [if_neg hb] at fin
    exact fin
