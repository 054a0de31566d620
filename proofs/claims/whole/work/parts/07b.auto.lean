/-! ===== the automaton of a rule, as numbers ===== -/
theorem zlt_e {α β : Type} {x : α} {k : α → Option β} : zlt x k = k x := rfl
/-- the positions that may follow those of a mask, of the first k places -/
def aNx (F : Nat → Int32) (m : Int32) : Nat → Int32
  | 0 => 0
  | k + 1 => aNx F m k ||| (if bt m k = true then F k else 0)
/-- those of a mask, of the first k places, that take the class c -/
def aMt (W : Nat → Int32) (c m : Int32) : Nat → Int32
  | 0 => 0
  | k + 1 => aMt W c m k ||| (if bt m k = true ∧ (W k = 12 ∨ W k = c) then (1 : Int32) <<< (nI k &&& 31) else 0)
theorem aMt_bt {W : Nat → Int32} {c m : Int32} : ∀ {k : Nat}, k ≤ 32 → ∀ {i : Nat}, i < 32 → (bt (aMt W c m k) i = true ↔ (i < k ∧ bt m i = true ∧ (W i = 12 ∨ W i = c)))
  | 0, _, i, _ => by simp [aMt, b_0]
  | k + 1, hk, i, hi => by
    have ih := aMt_bt (W := W) (c := c) (m := m) (k := k) (by omega) hi
    simp only [aMt]
    rw [b_or, Bool.or_eq_true, ih]
    by_cases hc : bt m k = true ∧ (W k = 12 ∨ W k = c)
    · rw [if_pos hc, zpow (by omega) hi, decide_eq_true_eq]
      constructor
      · rintro (⟨h1, h2⟩ | h)
        · exact ⟨by omega, h2⟩
        · subst h; exact ⟨by omega, hc⟩
      · rintro ⟨h1, h2⟩
        rcases Nat.lt_or_ge i k with q | q
        · exact Or.inl ⟨q, h2⟩
        · exact Or.inr (by omega)
    · rw [if_neg hc, b_0]
      constructor
      · rintro (⟨h1, h2⟩ | h)
        · exact ⟨by omega, h2⟩
        · cases h
      · rintro ⟨h1, h2⟩
        rcases Nat.lt_or_ge i k with q | q
        · exact Or.inl ⟨q, h2⟩
        · have : i = k := by omega
          subst this
          exact absurd h2 hc
theorem aNx_bt {F : Nat → Int32} {m : Int32} {i : Nat} : ∀ {k : Nat}, (bt (aNx F m k) i = true ↔ ∃ q, q < k ∧ bt m q = true ∧ bt (F q) i = true)
  | 0 => by simp [aNx, b_0]
  | k + 1 => by
    have ih := aNx_bt (F := F) (m := m) (i := i) (k := k)
    simp only [aNx]
    rw [b_or, Bool.or_eq_true, ih]
    constructor
    · rintro (⟨q, h1, h2, h3⟩ | h)
      · exact ⟨q, by omega, h2, h3⟩
      · by_cases hm : bt m k = true
        · rw [if_pos hm] at h
          exact ⟨k, by omega, hm, h⟩
        · rw [if_neg hm, b_0] at h
          cases h
    · rintro ⟨q, h1, h2, h3⟩
      rcases Nat.lt_or_ge q k with w | w
      · exact Or.inl ⟨q, w, h2, h3⟩
      · have : q = k := by omega
        subst this
        rw [if_pos h2]
        exact Or.inr h3
/-- the model's matching() -/
theorem mt_loop {M : Mem} (h : zO M) {r n : Nat} (hr : r < 15) (hn : M.2.1 291 r = nI n) (hn24 : n ≤ 24) (m c : Int32) : ∀ d k fuel, k + d = n → d < fuel → fX9_matching_19L fuel M 279 (nI r) m (aMt (fun q => M.2.1 293 (24 * r + q)) c m k) c (nI k) = some (aMt (fun q => M.2.1 293 (24 * r + q)) c m n, M) := by
  intro d
  induction d with
  | zero =>
    intro k fuel hk hf
    obtain ⟨f, rfl⟩ : ∃ f, fuel = f + 1 := ⟨fuel - 1, by omega⟩
    show fX9_matching_19 (fX9_matching_19L f) M 279 (nI r) m _ c (nI k) = _
    unfold fX9_matching_19
    rw [gr_279_20 h, Option.bind_some, zaI_f h (by decide) zk_291 (by rw [zl_291]; exact hr), Option.bind_some, hn, if_pos (by rw [nI_leN (by omega) (by omega)]; omega), show k = n by omega]
  | succ d ih =>
    intro k fuel hk hf
    obtain ⟨f, rfl⟩ : ∃ f, fuel = f + 1 := ⟨fuel - 1, by omega⟩
    show fX9_matching_19 (fX9_matching_19L f) M 279 (nI r) m _ c (nI k) = _
    have fin := ih (k + 1) f (by omega) (by omega)
    have key : ∀ x y, fX9_matching_78 (fX9_matching_19L f) M 279 (nI r) m c (nI k) x y = fX9_matching_19L f M 279 (nI r) m (x ||| y) c (nI (k + 1)) := fun x y => by
      unfold fX9_matching_78
      rw [zlt_e, zlt_e, nI_1]
    unfold fX9_matching_19 fX9_matching_70 fX9_matching_77
    rw [gr_279_20 h, Option.bind_some, zaI_f h (by decide) zk_291 (by rw [zl_291]; exact hr), Option.bind_some, hn, if_neg (by rw [nI_leN (by omega) (by omega)]; omega), gr_279_22 h, Option.bind_some, show (24 : Int32) = nI 24 from rfl, pk_mul, nI_add, zaI_f h (by decide) zk_293 (by rw [zl_293]; omega), Option.bind_some, zbit m (by omega), key, key]
    simp only [aMt] at fin
    by_cases hb : bt m k = true
    · rw [if_pos hb, if_pos rfl]
      by_cases h12 : M.2.1 293 (24 * r + k) = 12
      · rw [if_pos h12]
        rw [if_pos ⟨hb, Or.inl h12⟩] at fin
        exact fin
      · rw [if_neg h12]
        by_cases hc : M.2.1 293 (24 * r + k) = c
        · rw [if_pos hc]
          rw [if_pos ⟨hb, Or.inr hc⟩] at fin
          exact fin
        · rw [if_neg hc]
          rw [if_neg (fun z => z.2.elim h12 hc)] at fin
          exact fin
    · rw [if_neg hb, if_neg (by decide)]
      rw [if_neg (by rintro ⟨q, -⟩; exact hb q)] at fin
      exact fin
theorem mt_ok {M : Mem} (h : zO M) {r n p ch : Nat} (hr : r < 15) (hn : M.2.1 291 r = nI n) (hn24 : n ≤ 24) (hp : p < 100) (hch : M.2.1 302 p = nI ch) (hch2 : ch < 127) (m : Int32) : fX9_matching M 279 (nI r) m (nI p) = some (aMt (fun q => M.2.1 293 (24 * r + q)) (M.2.1 280 ch) m n, M) := by
  unfold fX9_matching
  rw [gr_279_0 h, Option.bind_some, gr_279_32 h, Option.bind_some, zaI_f h (by decide) zk_302 (by rw [zl_302]; exact hp), Option.bind_some, hch, zaI_f h (by decide) zk_280 (by rw [zl_280]; exact hch2), Option.bind_some]
  exact mt_loop h hr hn hn24 m _ n 0 zFU (by omega) (by unfold zFU; omega)
/-- the model's behind() -/
theorem bh_loop {M : Mem} (h : zO M) {r n : Nat} (hr : r < 15) (hn : M.2.1 291 r = nI n) (hn24 : n ≤ 24) (m : Int32) : ∀ d k fuel, k + d = n → d < fuel → fX9_behind_5L fuel M 279 (nI r) m (aNx (fun q => M.2.1 294 (24 * r + q)) m k) (nI k) = some (aNx (fun q => M.2.1 294 (24 * r + q)) m n, M) := by
  intro d
  induction d with
  | zero =>
    intro k fuel hk hf
    obtain ⟨f, rfl⟩ : ∃ f, fuel = f + 1 := ⟨fuel - 1, by omega⟩
    show fX9_behind_5 (fX9_behind_5L f) M 279 (nI r) m _ (nI k) = _
    unfold fX9_behind_5
    rw [gr_279_20 h, Option.bind_some, zaI_f h (by decide) zk_291 (by rw [zl_291]; exact hr), Option.bind_some, hn, if_pos (by rw [nI_leN (by omega) (by omega)]; omega), show k = n by omega]
  | succ d ih =>
    intro k fuel hk hf
    obtain ⟨f, rfl⟩ : ∃ f, fuel = f + 1 := ⟨fuel - 1, by omega⟩
    show fX9_behind_5 (fX9_behind_5L f) M 279 (nI r) m _ (nI k) = _
    have fin := ih (k + 1) f (by omega) (by omega)
    have key : ∀ x y, fX9_behind_43 (fX9_behind_5L f) M 279 (nI r) m (nI k) x y = fX9_behind_5L f M 279 (nI r) m (x ||| y) (nI (k + 1)) := fun x y => by
      unfold fX9_behind_43
      rw [zlt_e, zlt_e, nI_1]
    unfold fX9_behind_5
    rw [gr_279_20 h, Option.bind_some, zaI_f h (by decide) zk_291 (by rw [zl_291]; exact hr), Option.bind_some, hn, if_neg (by rw [nI_leN (by omega) (by omega)]; omega), gr_279_23 h, Option.bind_some, show (24 : Int32) = nI 24 from rfl, pk_mul, nI_add, zaI_f h (by decide) zk_294 (by rw [zl_294]; omega), Option.bind_some, zbit m (by omega), key, key]
    simp only [aNx] at fin
    by_cases hb : bt m k = true
    · rw [if_pos hb, if_pos rfl]
      rw [if_pos hb] at fin
      exact fin
    · rw [if_neg hb, if_neg (by decide)]
      rw [if_neg hb] at fin
      exact fin
theorem bh_ok {M : Mem} (h : zO M) {r n : Nat} (hr : r < 15) (hn : M.2.1 291 r = nI n) (hn24 : n ≤ 24) (m : Int32) : fX9_behind M 279 (nI r) m = some (aNx (fun q => M.2.1 294 (24 * r + q)) m n, M) := by
  unfold fX9_behind
  exact bh_loop h hr hn hn24 m n 0 zFU (by omega) (by unfold zFU; omega)
