/-! ===== whether an exception suppresses a boundary ===== -/
def wd (ch : Nat → Nat) (b e : Nat) : Wd := (e - b, fun j => ch (b + j))
/-- the word that ends at e begins at b -/
def bgn (cc ch : Nat → Nat) (b e : Nat) : Prop := b ≤ e ∧ (∀ t, b ≤ t → t < e → cc (ch t - 32) = 0) ∧ (b = 0 ∨ cc (ch (b - 1) - 32) ≠ 0)
theorem bgn_u {cc ch : Nat → Nat} {b b' e : Nat} (h : bgn cc ch b e) (h' : bgn cc ch b' e) : b = b' := by
  rcases Nat.lt_trichotomy b b' with w | w | w
  · rcases h'.2.2 with q | q
    · omega
    · exact absurd (h.2.1 (b' - 1) (by omega) (by have := h'.1; omega)) q
  · exact w
  · rcases h.2.2 with q | q
    · omega
    · exact absurd (h'.2.1 (b - 1) (by omega) (by have := h.1; omega)) q
theorem nI_00 {c : Nat} (hc : c ≤ 1000) : (nI c = 0) = (c = 0) := propext ⟨fun z => nI_inj hc (by omega) z, fun z => by rw [z]; rfl⟩
def xbP (cc ch : Nat → Nat) (cnt : Nat) (mw : Nat → Wd) (e : Nat) : Prop := ∃ b j, bgn cc ch b e ∧ j < cnt ∧ weq (mw j) (wd ch b e)
def spP (cc ch : Nat → Nat) (cnt : Nat) (mw : Nat → Wd) : Nat → Prop
  | 0 => False
  | p + 1 => (ch (p + 1) = 46 ∧ xbP cc ch cnt mw (p + 1)) ∨ (cc (ch (p + 1) - 32) = 2 ∧ spP cc ch cnt mw p)
def ssP (cc ch : Nat → Nat) (cnt : Nat) (mw : Nat → Wd) (k len p : Nat) : Prop := k = 2 ∧ p ≠ 0 ∧ p ≠ len ∧ spP cc ch cnt mw (p - 1)
section XB
variable {M : Mem} {cc ch : Nat → Nat} {len : Nat} {cnt : Nat} {rr : Nat → Nat} {cw mw : Nat → Wd}
theorem xbc_loop (h : zO M) (c1 : cCs M cc) (t1 : cTe M len ch) {e : Nat} (he : e ≤ len) : ∀ d b fuel, b = d → d < fuel → b ≤ e → (∀ t, b ≤ t → t < e → cc (ch t - 32) = 0) →
    ∃ b', bgn cc ch b' e ∧ fX8_isExceptionBefore_2L fuel M 0 (nI e) (nI b) = fX8_isExceptionBefore_25 M 0 (nI e) (nI b') := by
  have hl := t1.2.1
  intro d
  induction d with
  | zero =>
    intro b fuel hd hf hb hi
    obtain ⟨f, rfl⟩ : ∃ f, fuel = f + 1 := ⟨fuel - 1, by omega⟩
    refine ⟨b, ⟨hb, hi, Or.inl hd⟩, ?_⟩
    show fX8_isExceptionBefore_2 (fX8_isExceptionBefore_2L f) M 0 (nI e) (nI b) = _
    unfold fX8_isExceptionBefore_2
    rw [if_pos (show nI b ≤ 0 by rw [nI_le0 (by omega)]; exact hd)]
  | succ d ih =>
    intro b fuel hd hf hb hi
    obtain ⟨f, rfl⟩ : ∃ f, fuel = f + 1 := ⟨fuel - 1, by omega⟩
    show ∃ b', bgn cc ch b' e ∧ fX8_isExceptionBefore_2 (fX8_isExceptionBefore_2L f) M 0 (nI e) (nI b) = _
    obtain ⟨c, rfl⟩ : ∃ c, b = c + 1 := ⟨b - 1, by omega⟩
    unfold fX8_isExceptionBefore_2
    have hc12 := (c1 (ch c - 32) (by have := t1.2.2 c (by omega); omega)).1
    rw [if_neg (show ¬ nI (c + 1) ≤ 0 by rw [nI_le0 (by omega)]; omega), gr_0_0 h, Option.bind_some, zck_f h (by decide) zk_1, Option.bind_some, dec1, cat_ok h (cTe_x t1 c1) (show c < len by omega), Option.bind_some]
    dsimp only
    by_cases e0 : cc (ch c - 32) = 0
    · rw [if_pos (show nI (cc (ch c - 32)) = 0 by rw [e0]; rfl), zlt_e, dec2, dec1]
      exact ih c f (by omega) (by omega) (by omega) (fun t h1 h2 => by
        rcases Nat.lt_or_ge t (c + 1) with w | w
        · rw [show t = c by omega]; exact e0
        · exact hi t w h2)
    · rw [if_neg (show ¬ nI (cc (ch c - 32)) = 0 from fun z => e0 (nI_inj (by omega) (by omega) z))]
      exact ⟨c + 1, ⟨hb, hi, Or.inr (by rw [Nat.add_sub_cancel]; exact e0)⟩, rfl⟩
theorem xbm_loop (h : zO M) (c2 : mCs M cc) (t2 : mTe M len ch) {e : Nat} (he : e ≤ len) : ∀ d b fuel, b = d → d < fuel → b ≤ e → (∀ t, b ≤ t → t < e → cc (ch t - 32) = 0) →
    ∃ b', bgn cc ch b' e ∧ fX9_isExceptionBefore_2L fuel M 279 (nI e) (nI b) = fX9_isExceptionBefore_28 M 279 (nI e) (nI b') := by
  have hl := t2.2.1
  intro d
  induction d with
  | zero =>
    intro b fuel hd hf hb hi
    obtain ⟨f, rfl⟩ : ∃ f, fuel = f + 1 := ⟨fuel - 1, by omega⟩
    refine ⟨b, ⟨hb, hi, Or.inl hd⟩, ?_⟩
    show fX9_isExceptionBefore_2 (fX9_isExceptionBefore_2L f) M 279 (nI e) (nI b) = _
    unfold fX9_isExceptionBefore_2
    rw [if_pos (show nI b ≤ 0 by rw [nI_le0 (by omega)]; exact hd)]
  | succ d ih =>
    intro b fuel hd hf hb hi
    obtain ⟨f, rfl⟩ : ∃ f, fuel = f + 1 := ⟨fuel - 1, by omega⟩
    show ∃ b', bgn cc ch b' e ∧ fX9_isExceptionBefore_2 (fX9_isExceptionBefore_2L f) M 279 (nI e) (nI b) = _
    obtain ⟨c, rfl⟩ : ∃ c, b = c + 1 := ⟨b - 1, by omega⟩
    unfold fX9_isExceptionBefore_2
    obtain ⟨g1, g2, g3⟩ := t2.2.2 c (by omega)
    obtain ⟨k1, k2⟩ := c2 (ch c - 32) (by omega)
    rw [show 32 + (ch c - 32) = ch c by omega] at k2
    rw [if_neg (show ¬ nI (c + 1) ≤ 0 by rw [nI_le0 (by omega)]; omega), gr_279_0 h, Option.bind_some, gr_279_32 h, Option.bind_some, dec1, zaI_f h (by decide) zk_302 (by rw [zl_302]; omega), Option.bind_some, g3, zaI_f h (by decide) zk_280 (by rw [zl_280]; omega), Option.bind_some, k2]
    by_cases e0 : cc (ch c - 32) = 0
    · rw [if_pos (show nI (cc (ch c - 32)) = 0 by rw [e0]; rfl), zlt_e, dec2, dec1]
      exact ih c f (by omega) (by omega) (by omega) (fun t h1 h2 => by
        rcases Nat.lt_or_ge t (c + 1) with w | w
        · rw [show t = c by omega]; exact e0
        · exact hi t w h2)
    · rw [if_neg (show ¬ nI (cc (ch c - 32)) = 0 from fun z => e0 (nI_inj (by omega) (by omega) z))]
      exact ⟨c + 1, ⟨hb, hi, Or.inr (by rw [Nat.add_sub_cancel]; exact e0)⟩, rfl⟩
/-- the model's comparison of one word -/
theorem xbm_in (h : zO M) (t2 : mTe M len ch) {i b e : Nat} {w : Wd} (hi : i < 10) (hv : vW w) (e3 : ∀ j, j < w.1 → M.2.1 318 (8 * i + j) = nI (w.2 j)) (hbe : b ≤ e) (he : e ≤ len) (hs : w.1 = e - b) (k30 : Mem → Nat → Int32 → Int32 → Int32 → Option (Int32 × Mem)) : ∀ d x fuel (y : Int32), x + d = e → b ≤ x → d < fuel → ((y = 1 ∧ ∀ t, b + t < x → w.2 t = ch (b + t)) ∨ (y = 0 ∧ ¬ weq w (wd ch b e))) →
    (weq w (wd ch b e) ∧ fX9_isExceptionBefore_60L k30 fuel M 279 (nI e) (nI b) (nI i) y (nI x) = some (1, M)) ∨ (¬ weq w (wd ch b e) ∧ fX9_isExceptionBefore_60L k30 fuel M 279 (nI e) (nI b) (nI i) y (nI x) = k30 M 279 (nI e) (nI b) (nI (i + 1))) := by
  have hl := t2.2.1
  have h0 : fX9_isExceptionBefore_108 k30 M 279 (nI e) (nI b) (nI i) 0 = k30 M 279 (nI e) (nI b) (nI (i + 1)) := by
    unfold fX9_isExceptionBefore_108
    rw [if_pos rfl, zlt_e, nI_1]
  have h1 : fX9_isExceptionBefore_108 k30 M 279 (nI e) (nI b) (nI i) 1 = some (1, M) := by
    unfold fX9_isExceptionBefore_108
    rw [if_neg (by decide)]
    rfl
  intro d
  induction d with
  | zero =>
    intro x fuel y hd hx hf hy
    obtain ⟨f, rfl⟩ : ∃ f, fuel = f + 1 := ⟨fuel - 1, by omega⟩
    have st : fX9_isExceptionBefore_60L k30 (f + 1) M 279 (nI e) (nI b) (nI i) y (nI x) = fX9_isExceptionBefore_60 k30 (fX9_isExceptionBefore_60L k30 f) M 279 (nI e) (nI b) (nI i) y (nI x) := rfl
    rw [st]
    unfold fX9_isExceptionBefore_60
    rw [if_pos (show nI e ≤ nI x by rw [nI_leN (by omega) (by omega)]; omega)]
    rcases hy with ⟨rfl, g⟩ | ⟨rfl, g⟩
    · exact Or.inl ⟨⟨hs, fun t ht => g t (by omega)⟩, h1⟩
    · exact Or.inr ⟨g, h0⟩
  | succ d ih =>
    intro x fuel y hd hx hf hy
    obtain ⟨f, rfl⟩ : ∃ f, fuel = f + 1 := ⟨fuel - 1, by omega⟩
    have st : fX9_isExceptionBefore_60L k30 (f + 1) M 279 (nI e) (nI b) (nI i) y (nI x) = fX9_isExceptionBefore_60 k30 (fX9_isExceptionBefore_60L k30 f) M 279 (nI e) (nI b) (nI i) y (nI x) := rfl
    rw [st]
    unfold fX9_isExceptionBefore_60
    rw [if_neg (show ¬ nI e ≤ nI x by rw [nI_leN (by omega) (by omega)]; omega)]
    rcases hy with ⟨rfl, g⟩ | ⟨rfl, g⟩
    · have hw8 := hv.2.1
      obtain ⟨g1, g2, g3⟩ := t2.2.2 x (by omega)
      have g4 := e3 (x - b) (by omega)
      rw [if_neg (by decide), gr_279_51 h, Option.bind_some, show (8 : Int32) = nI 8 from rfl, pk_mul, nI_add, pk_sub (show b ≤ 8 * i + x by omega), show 8 * i + x - b = 8 * i + (x - b) by omega, zaI_f h (by decide) zk_318 (by rw [zl_318]; omega), Option.bind_some, g4, gr_279_32 h, Option.bind_some, zaI_f h (by decide) zk_302 (by rw [zl_302]; omega), Option.bind_some, g3]
      unfold fX9_isExceptionBefore_100
      by_cases e0 : w.2 (x - b) = ch x
      · rw [if_pos (by rw [e0]), zlt_e, nI_1]
        exact ih (x + 1) f 1 (by omega) (by omega) (by omega) (Or.inl ⟨rfl, fun t ht => by
          rcases Nat.lt_or_ge (b + t) x with q | q
          · exact g t q
          · rw [show t = x - b by omega, show b + (x - b) = x by omega]; exact e0⟩)
      · rw [if_neg (fun z => e0 (nI_inj16 (hv.2.2 _ (by omega)) (by omega) z)), zlt_e, nI_1]
        exact ih (x + 1) f 0 (by omega) (by omega) (by omega) (Or.inr ⟨rfl, fun z => e0 (by
          have := z.2 (x - b) (by omega)
          unfold wd at this
          dsimp only at this
          rw [show b + (x - b) = x by omega] at this
          exact this)⟩)
    · rw [if_pos rfl]
      exact Or.inr ⟨g, h0⟩
theorem xbm_all (h : zO M) (t2 : mTe M len ch) (a1 : cnt ≤ 10) (a3 : M.2.1 279 49 = nI cnt) (a7 : ∀ i, i < cnt → vW (mw i) ∧ M.2.1 317 i = nI (mw i).1 ∧ ∀ j, j < (mw i).1 → M.2.1 318 (8 * i + j) = nI ((mw i).2 j)) {b e : Nat} (hbe : b ≤ e) (he : e ≤ len) : ∀ d i fuel, i + d = cnt → d < fuel → (∀ j, j < i → ¬ weq (mw j) (wd ch b e)) →
    ((∃ j, j < cnt ∧ weq (mw j) (wd ch b e)) ∧ fX9_isExceptionBefore_30L fuel M 279 (nI e) (nI b) (nI i) = some (1, M)) ∨ ((∀ j, j < cnt → ¬ weq (mw j) (wd ch b e)) ∧ fX9_isExceptionBefore_30L fuel M 279 (nI e) (nI b) (nI i) = some (0, M)) := by
  have hl := t2.2.1
  intro d
  induction d with
  | zero =>
    intro i fuel hd hf hi
    obtain ⟨f, rfl⟩ : ∃ f, fuel = f + 1 := ⟨fuel - 1, by omega⟩
    right
    refine ⟨fun j hj => hi j (by omega), ?_⟩
    show fX9_isExceptionBefore_30 (fX9_isExceptionBefore_30L f) M 279 (nI e) (nI b) (nI i) = _
    unfold fX9_isExceptionBefore_30
    rw [zgI_f h (by decide) zk_279, Option.bind_some, a3, if_pos (show nI cnt ≤ nI i by rw [nI_leN (by omega) (by omega)]; omega)]
    rfl
  | succ d ih =>
    intro i fuel hd hf hi
    obtain ⟨f, rfl⟩ : ∃ f, fuel = f + 1 := ⟨fuel - 1, by omega⟩
    obtain ⟨v1, v2, v3⟩ := a7 i (by omega)
    have v8 := v1.2.1
    have nxt : ¬ weq (mw i) (wd ch b e) → ((∃ j, j < cnt ∧ weq (mw j) (wd ch b e)) ∧ fX9_isExceptionBefore_30L f M 279 (nI e) (nI b) (nI (i + 1)) = some (1, M)) ∨ ((∀ j, j < cnt → ¬ weq (mw j) (wd ch b e)) ∧ fX9_isExceptionBefore_30L f M 279 (nI e) (nI b) (nI (i + 1)) = some (0, M)) := fun g3 => ih (i + 1) f (by omega) (by omega) (fun j hj => by
        rcases Nat.lt_or_ge j i with w | w
        · exact hi j w
        · rw [show j = i by omega]; exact g3)
    have st : fX9_isExceptionBefore_30L (f + 1) M 279 (nI e) (nI b) (nI i) = fX9_isExceptionBefore_30 (fX9_isExceptionBefore_30L f) M 279 (nI e) (nI b) (nI i) := rfl
    rw [st]
    unfold fX9_isExceptionBefore_30
    rw [zgI_f h (by decide) zk_279, Option.bind_some, a3, if_neg (show ¬ nI cnt ≤ nI i by rw [nI_leN (by omega) (by omega)]; omega), gr_279_50 h, Option.bind_some, zaI_f h (by decide) zk_317 (by rw [zl_317]; omega), Option.bind_some, v2, pk_sub hbe]
    unfold fX9_isExceptionBefore_55
    by_cases hs : (mw i).1 = e - b
    · rw [if_pos (by rw [hs])]
      rcases xbm_in (i := i) h t2 (by omega) v1 v3 hbe he hs (fX9_isExceptionBefore_30L f) (e - b) b zFU 1 (by omega) (Nat.le_refl _) (by unfold zFU; omega) (Or.inl ⟨rfl, fun t ht => absurd ht (by omega)⟩) with ⟨g1, g2⟩ | ⟨g1, g2⟩
      · left
        rw [g2]
        exact ⟨⟨i, by omega, g1⟩, rfl⟩
      · rw [g2]
        exact nxt g1
    · rw [if_neg (fun z => hs (nI_inj (by omega) (by omega) z))]
      have e75 : fX9_isExceptionBefore_60L (fX9_isExceptionBefore_30L f) zFU M 279 (nI e) (nI b) (nI i) 0 (nI b) = fX9_isExceptionBefore_30L f M 279 (nI e) (nI b) (nI (i + 1)) := by
        show fX9_isExceptionBefore_60 (fX9_isExceptionBefore_30L f) (fX9_isExceptionBefore_60L (fX9_isExceptionBefore_30L f) 4999) M 279 (nI e) (nI b) (nI i) 0 (nI b) = _
        unfold fX9_isExceptionBefore_60 fX9_isExceptionBefore_108
        rw [if_pos rfl, if_pos rfl, zlt_e, nI_1]
        split <;> rfl
      rw [e75]
      exact nxt (fun z => hs z.1)
/-- both sides say the same of the word that ends at e -/
theorem xb_ok (h : zO M) (c1 : cCs M cc) (c2 : mCs M cc) (t1 : cTe M len ch) (t2 : mTe M len ch) (hE : eD M cnt rr cw mw) {e : Nat} (he : e ≤ len) : ∃ v, (v = 0 ∨ v = 1) ∧ (e = 0 → v = 0) ∧ fX8_isExceptionBefore M 0 (nI e) = some (v, M) ∧ fX9_isExceptionBefore M 279 (nI e) = some (v, M) ∧ (v = 1 ↔ xbP cc ch cnt mw e) := by
  have hl := t1.2.1
  obtain ⟨b, b1, b2⟩ := xbc_loop h c1 t1 he e e zFU rfl (by unfold zFU; omega) (Nat.le_refl _) (fun t x y => absurd x (by omega))
  obtain ⟨b', d1, d2⟩ := xbm_loop h c2 t2 he e e zFU rfl (by unfold zFU; omega) (Nat.le_refl _) (fun t x y => absurd x (by omega))
  have eb := bgn_u b1 d1
  subst eb
  have hE' := hE
  obtain ⟨a1, a2, a3, a4, a5, a6, a7, a8, a9, a10, a11⟩ := hE
  have hbe := b1.1
  have hc := exa_ok h hE' zrow_2 (nb := len) (by rw [show zsL (2 + 1) = 100 by decide +kernel]; omega) t1.1 (fr := b) (w' := wd ch b e) (fun j hj => by
    have hj' : j < e - b := hj
    obtain ⟨x1, x2, x3⟩ := t1.2.2 (b + j) (by omega)
    exact ⟨by show ch (b + j) < 65536; omega, x3⟩) (by show b + (e - b) ≤ len; omega) (fun i hi => by
    obtain ⟨x1, x2, x3⟩ := t1.2.2 i hi
    rw [show 2 + 1 = 3 from rfl, x3]
    exact chr_code (by omega))
  have h8 : ∀ v, fX8_exceptionAt M 0 2 (nI b) (nI (e - b)) = some (v, M) → fX8_isExceptionBefore M 0 (nI e) = some (if v = -5 then 0 else 1, M) := by
    intro v hv
    unfold fX8_isExceptionBefore
    rw [b2]
    unfold fX8_isExceptionBefore_25
    rw [gr_0_0 h, Option.bind_some, gr_1_0 h, Option.bind_some, zck_f h (by decide) zk_0, Option.bind_some, pk_sub hbe, hv, Option.bind_some]
    dsimp only
    by_cases e5 : v = -5
    · rw [if_pos e5, if_pos e5]; rfl
    · rw [if_neg e5, if_neg e5]; rfl
  have h9 := xbm_all h t2 a1 a3 a7 hbe he cnt 0 zFU (by omega) (by unfold zFU; omega) (fun j hj => absurd hj (by omega))
  have h9' : fX9_isExceptionBefore M 279 (nI e) = fX9_isExceptionBefore_30L zFU M 279 (nI e) (nI b) (nI 0) := by
    unfold fX9_isExceptionBefore
    rw [d2]
    rfl
  rcases hc with ⟨i, i1, i2, i3⟩ | ⟨i2, i3⟩
  · refine ⟨1, Or.inr rfl, fun z => ?_, ?_, ?_, ⟨fun _ => by obtain ⟨j, j1, j2⟩ := a8 i i1; exact ⟨b, j, b1, j1, weq_tr (weq_sy j2) i2⟩, fun _ => rfl⟩⟩
    · exfalso
      have := (a6 i i1).1.1
      have h3 := i2.1
      unfold wd at h3
      dsimp only at h3
      omega
    · rw [h8 _ i3, if_neg (n5i (by omega))]
    · rw [h9']
      rcases h9 with ⟨-, q⟩ | ⟨q, -⟩
      · exact q
      · obtain ⟨j, j1, j2⟩ := a8 i i1
        exact absurd (weq_tr (weq_sy j2) i2) (q j j1)
  · refine ⟨0, Or.inl rfl, fun _ => rfl, ?_, ?_, ⟨fun z => absurd z (by decide), fun z => by
      obtain ⟨b', j, g1, g2, g3⟩ := z
      have eb := bgn_u b1 g1
      subst eb
      obtain ⟨i, i4, i5⟩ := a9 j g2
      exact absurd (weq_tr (weq_sy i5) g3) (i2 i i4)⟩⟩
    · rw [h8 _ i3, if_pos rfl]
    · rw [h9']
      rcases h9 with ⟨⟨j, j1, j2⟩, -⟩ | ⟨-, q⟩
      · obtain ⟨i, i4, i5⟩ := a9 j j1
        exact absurd (weq_tr (weq_sy i5) j2) (i2 i i4)
      · exact q
/-- both sides say the same of a boundary inside -/
theorem sup_loop (h : zO M) (c1 : cCs M cc) (c2 : mCs M cc) (t1 : cTe M len ch) (t2 : mTe M len ch) (hE : eD M cnt rr cw mw) : ∀ p f8 f9, p < len → p < f8 → p + 2 < f9 → ∃ v, (v = 0 ∨ v = 1) ∧ fX8_isBehindException_4L f8 M 0 (nI p) = some (v, M) ∧ fX9_isSuppressed_27L f9 M 279 (nI (p + 1)) 0 1 = some (v, M) ∧ (v = 1 ↔ spP cc ch cnt mw p) := by
  have hl := t1.2.1
  intro p
  induction p with
  | zero =>
    intro f8 f9 hp h8 h9
    obtain ⟨g8, rfl⟩ : ∃ f, f8 = f + 1 := ⟨f8 - 1, by omega⟩
    obtain ⟨g9, rfl⟩ : ∃ f, f9 = f + 1 + 1 := ⟨f9 - 2, by omega⟩
    refine ⟨0, Or.inl rfl, ?_, ?_, ⟨fun z => absurd z (by decide), fun z => (show False from z).elim⟩⟩
    · show fX8_isBehindException_4 (fX8_isBehindException_4L g8) M 0 (nI 0) = _
      unfold fX8_isBehindException_4
      rw [if_pos (show nI 0 ≤ 0 by decide)]
      rfl
    · obtain ⟨v, v1, v2, v3, v4, v5⟩ := xb_ok h c1 c2 t1 t2 hE (e := 0) (by omega)
      have v0 := v2 rfl
      subst v0
      obtain ⟨q1, q2, q3⟩ := t2.2.2 0 hp
      obtain ⟨k1, k2⟩ := c2 (ch 0 - 32) (by omega)
      rw [show 32 + (ch 0 - 32) = ch 0 by omega] at k2
      have tail : ∀ y : Int32, fX9_isSuppressed_27L (g9 + 1) M 279 (nI 0) 0 y = some (0, M) := fun y => by
        show fX9_isSuppressed_27 (fX9_isSuppressed_27L g9) M 279 (nI 0) 0 y = _
        unfold fX9_isSuppressed_27
        by_cases hy : y = 0
        · rw [if_pos hy]; rfl
        · rw [if_neg hy, if_pos rfl, if_pos (show nI 0 ≤ 0 by decide)]; rfl
      have h69 : fX9_isSuppressed_69 (fX9_isSuppressed_27L (g9 + 1)) M 279 (nI 1) 0 = some (0, M) := by
        unfold fX9_isSuppressed_69 fX9_isSuppressed_93
        rw [gr_279_0 h, Option.bind_some, gr_279_32 h, Option.bind_some, show nI 1 - (1 : Int32) = nI 0 from rfl, zaI_f h (by decide) zk_302 (by rw [zl_302]; omega), Option.bind_some, q3, zaI_f h (by decide) zk_280 (by rw [zl_280]; omega), Option.bind_some, zlt_e, zlt_e, show nI 1 + (-1 : Int32) = nI 0 from rfl, tail, tail]
        split <;> rfl
      show fX9_isSuppressed_27 (fX9_isSuppressed_27L (g9 + 1)) M 279 (nI 1) 0 1 = _
      unfold fX9_isSuppressed_27 fX9_isSuppressed_68
      rw [if_neg (show ¬ (1 : Int32) = 0 by decide), if_pos rfl, if_neg (show ¬ nI 1 ≤ 0 by decide), gr_279_32 h, Option.bind_some, show nI 1 - (1 : Int32) = nI 0 from rfl, zaI_f h (by decide) zk_302 (by rw [zl_302]; omega), Option.bind_some, zck_f h (by decide) zk_279, Option.bind_some, v4, Option.bind_some, if_pos rfl]
      dsimp only
      rw [h69]
      split <;> rfl
  | succ p ih =>
    intro f8 f9 hp h8 h9
    obtain ⟨g8, rfl⟩ : ∃ f, f8 = f + 1 := ⟨f8 - 1, by omega⟩
    obtain ⟨g9, rfl⟩ : ∃ f, f9 = f + 1 := ⟨f9 - 1, by omega⟩
    obtain ⟨v, v1, v2, v3, v4, v5⟩ := xb_ok h c1 c2 t1 t2 hE (e := p + 1) (by omega)
    obtain ⟨q1, q2, q3⟩ := t2.2.2 (p + 1) hp
    obtain ⟨r1, r2, r3⟩ := t1.2.2 (p + 1) hp
    obtain ⟨k1, k2⟩ := c2 (ch (p + 1) - 32) (by omega)
    rw [show 32 + (ch (p + 1) - 32) = ch (p + 1) by omega] at k2
    have hat := at_ok h zrow_2 t1.1 (by rw [show zsL (2 + 1) = 100 by decide +kernel]; omega) (fun i hi => by rw [show 2 + 1 = 3 from rfl, (t1.2.2 i hi).2.2]; exact chr_code (by have := (t1.2.2 i hi).2.1; omega)) (i := p + 1) (by omega)
    rw [if_pos hp, show 2 + 1 = 3 from rfl, r3] at hat
    obtain ⟨w, w1, w2, w3, w4⟩ := ih g8 g9 (by omega) (by omega) (by omega)
    -- behind the test for the exception
    have e34 : fX8_isBehindException_34 (fX8_isBehindException_4L g8) M 0 (nI (p + 1)) = if cc (ch (p + 1) - 32) = 2 then some (w, M) else some (0, M) := by
      unfold fX8_isBehindException_34
      rw [gr_0_0 h, Option.bind_some, zck_f h (by decide) zk_1, Option.bind_some, cat_ok h (cTe_x t1 c1) hp, Option.bind_some]
      dsimp only
      by_cases e2 : cc (ch (p + 1) - 32) = 2
      · rw [if_pos (show nI (cc (ch (p + 1) - 32)) = 2 by rw [e2]; rfl), zlt_e, dec2, dec1, w2, if_pos e2]
      · rw [if_neg (show ¬ nI (cc (ch (p + 1) - 32)) = (2 : Int32) from fun z => e2 (nI_inj (by omega) (by omega) z)), if_neg e2]; rfl
    have e69 : ∀ y : Int32, fX9_isSuppressed_69 (fX9_isSuppressed_27L g9) M 279 (nI (p + 1 + 1)) y = fX9_isSuppressed_27L g9 M 279 (nI (p + 1)) y (if cc (ch (p + 1) - 32) = 2 then 1 else 0) := fun y => by
      unfold fX9_isSuppressed_69 fX9_isSuppressed_93
      rw [gr_279_0 h, Option.bind_some, gr_279_32 h, Option.bind_some, dec1, zaI_f h (by decide) zk_302 (by rw [zl_302]; omega), Option.bind_some, q3, zaI_f h (by decide) zk_280 (by rw [zl_280]; omega), Option.bind_some, k2, zlt_e, zlt_e, dec2, dec1]
      by_cases e2 : cc (ch (p + 1) - 32) = 2
      · rw [if_pos (show nI (cc (ch (p + 1) - 32)) = 2 by rw [e2]; rfl), if_pos e2]
      · rw [if_neg (show ¬ nI (cc (ch (p + 1) - 32)) = (2 : Int32) from fun z => e2 (nI_inj (by omega) (by omega) z)), if_neg e2]
    have e27 : ∀ y : Int32, fX9_isSuppressed_27L g9 M 279 (nI (p + 1)) 1 y = some (1, M) := fun y => by
      obtain ⟨q, rfl⟩ : ∃ q, g9 = q + 1 := ⟨g9 - 1, by omega⟩
      show fX9_isSuppressed_27 (fX9_isSuppressed_27L q) M 279 (nI (p + 1)) 1 y = _
      unfold fX9_isSuppressed_27
      rw [if_neg (show ¬ (1 : Int32) = 0 by decide)]
      split <;> rfl
    have e270 : fX9_isSuppressed_27L g9 M 279 (nI (p + 1)) 0 0 = some (0, M) := by
      obtain ⟨q, rfl⟩ : ∃ q, g9 = q + 1 := ⟨g9 - 1, by omega⟩
      show fX9_isSuppressed_27 (fX9_isSuppressed_27L q) M 279 (nI (p + 1)) 0 0 = _
      unfold fX9_isSuppressed_27
      rw [if_pos rfl]
      rfl
    have eno : fX9_isSuppressed_69 (fX9_isSuppressed_27L g9) M 279 (nI (p + 1 + 1)) 0 = if cc (ch (p + 1) - 32) = 2 then some (w, M) else some (0, M) := by
      rw [e69]
      by_cases e2 : cc (ch (p + 1) - 32) = 2
      · rw [if_pos e2, if_pos e2, w3]
      · rw [if_neg e2, if_neg e2, e270]
    have s8 : fX8_isBehindException_4L (g8 + 1) M 0 (nI (p + 1)) = if ch (p + 1) = 46 ∧ v = 1 then some (1, M) else if cc (ch (p + 1) - 32) = 2 then some (w, M) else some (0, M) := by
      show fX8_isBehindException_4 (fX8_isBehindException_4L g8) M 0 (nI (p + 1)) = _
      unfold fX8_isBehindException_4
      rw [if_neg (show ¬ nI (p + 1) ≤ 0 by rw [nI_le0 (by omega)]; omega), gr_0_0 h, Option.bind_some, gr_1_0 h, Option.bind_some, zck_f h (by decide) zk_2, Option.bind_some, hat, Option.bind_some]
      dsimp only
      by_cases e1 : ch (p + 1) = 46
      · rw [if_pos (show nI (ch (p + 1)) = 46 by rw [e1]; rfl), zck_f h (by decide) zk_0, Option.bind_some, v3, Option.bind_some]
        dsimp only
        rcases v1 with rfl | rfl
        · rw [if_pos rfl, e34, if_neg (show ¬ (ch (p + 1) = 46 ∧ (0 : Int32) = 1) from fun z => absurd z.2 (by decide))]
        · rw [if_neg (by decide), if_pos ⟨e1, rfl⟩]
          rfl
      · rw [if_neg (show ¬ nI (ch (p + 1)) = (46 : Int32) from fun z => e1 (nI_inj (by omega) (by omega) z)), e34, if_neg (show ¬ (ch (p + 1) = 46 ∧ v = 1) from fun z => e1 z.1)]
    have s9 : fX9_isSuppressed_27L (g9 + 1) M 279 (nI (p + 1 + 1)) 0 1 = if ch (p + 1) = 46 ∧ v = 1 then some (1, M) else if cc (ch (p + 1) - 32) = 2 then some (w, M) else some (0, M) := by
      show fX9_isSuppressed_27 (fX9_isSuppressed_27L g9) M 279 (nI (p + 1 + 1)) 0 1 = _
      unfold fX9_isSuppressed_27 fX9_isSuppressed_68
      rw [if_neg (show ¬ (1 : Int32) = 0 by decide), if_pos rfl, if_neg (show ¬ nI (p + 1 + 1) ≤ 0 by rw [nI_le0 (by omega)]; omega), gr_279_32 h, Option.bind_some, dec1, zaI_f h (by decide) zk_302 (by rw [zl_302]; omega), Option.bind_some, q3]
      by_cases e1 : ch (p + 1) = 46
      · rw [if_pos (show nI (ch (p + 1)) = 46 by rw [e1]; rfl), zck_f h (by decide) zk_279, Option.bind_some, v4, Option.bind_some]
        dsimp only
        rcases v1 with rfl | rfl
        · rw [if_pos rfl, eno, if_neg (show ¬ (ch (p + 1) = 46 ∧ (0 : Int32) = 1) from fun z => absurd z.2 (by decide))]
        · rw [if_neg (by decide), e69, e27, if_pos ⟨e1, rfl⟩]
      · rw [if_neg (show ¬ nI (ch (p + 1)) = (46 : Int32) from fun z => e1 (nI_inj (by omega) (by omega) z)), eno, if_neg (show ¬ (ch (p + 1) = 46 ∧ v = 1) from fun z => e1 z.1)]
    rw [s8, s9]
    have hs : spP cc ch cnt mw (p + 1) ↔ ((ch (p + 1) = 46 ∧ xbP cc ch cnt mw (p + 1)) ∨ (cc (ch (p + 1) - 32) = 2 ∧ spP cc ch cnt mw p)) := Iff.rfl
    rw [hs]
    by_cases b1 : ch (p + 1) = 46 ∧ v = 1
    · exact ⟨1, Or.inr rfl, by rw [if_pos b1], by rw [if_pos b1], ⟨fun _ => Or.inl ⟨b1.1, v5.mp b1.2⟩, fun _ => rfl⟩⟩
    · by_cases b2 : cc (ch (p + 1) - 32) = 2
      · exact ⟨w, w1, by rw [if_neg b1, if_pos b2], by rw [if_neg b1, if_pos b2], ⟨fun z => Or.inr ⟨b2, w4.mp z⟩, fun z => z.elim (fun y => absurd ⟨y.1, v5.mpr y.2⟩ b1) (fun y => w4.mpr y.2)⟩⟩
      · exact ⟨0, Or.inl rfl, by rw [if_neg b1, if_neg b2], by rw [if_neg b1, if_neg b2], ⟨fun z => absurd z (by decide), fun z => z.elim (fun y => absurd ⟨y.1, v5.mpr y.2⟩ b1) (fun y => absurd y.1 b2)⟩⟩
/-- stateAt() -/
theorem st_ok (h : zO M) (c1 : cCs M cc) (c2 : mCs M cc) (t1 : cTe M len ch) (t2 : mTe M len ch) (hE : eD M cnt rr cw mw) {k N : Nat} {b : Nat → Nat} (hk : k < 3) (hK : cK M M (acl cc ch) k len N b) {p : Nat} (hp : p ≤ len) : ∃ s, (s = 0 ∨ s = 1) ∧ ((p = 0 ∨ p = len) → s = 0) ∧ fX9_isSuppressed M 279 (nI k) (nI p) = some (s, M) ∧ ((∃ i, i ≤ N ∧ b i = p) → fX8_stateAt M 0 (nI k) (nI p) = some (if s = 0 then 1 else 2, M)) ∧ ((∀ i, i ≤ N → b i ≠ p) → fX8_stateAt M 0 (nI k) (nI p) = some (0, M)) ∧ (s = 1 ↔ ssP cc ch cnt mw k len p) := by
  have hl := t1.2.1
  obtain ⟨z1, z2, z3, z4, z5, z6, z7, z8⟩ := zkind hk
  obtain ⟨k1, k2, k3, k4, k5⟩ := hK
  -- raw or not
  have hraw : ∀ (b0 : Bool), ((b0 = true ∧ ∃ i, i ≤ N ∧ b i = p) ∨ (b0 = false ∧ ∀ i, i ≤ N → b i ≠ p)) → fX2_isRaw M (8 + 48 * k) (nI p) (nI len) = some (if b0 then 1 else 0, M) := by
    intro b0 hb
    unfold fX2_isRaw fX2_isRaw_23
    by_cases e1 : p = len
    · rw [if_pos (by rw [e1])]
      rcases hb with ⟨rfl, -⟩ | ⟨-, g⟩
      · rfl
      · exact absurd (by rw [k3, e1]) (g N (Nat.le_refl _))
    · rw [if_neg (fun z => e1 (nI_inj (by omega) (by omega) z)), if_neg (nI_pos (by omega)), if_neg (show ¬ nI len ≤ nI p by rw [nI_leN (by omega) (by omega)]; omega), zgR_f h (by omega) z1 z7, Option.bind_some, zaI_f h (by omega) z3 (by rw [z5]; omega), Option.bind_some]
      rcases hb with ⟨rfl, i, i1, i2⟩ | ⟨rfl, g⟩
      · have hiN : i < N := by
          rcases Nat.lt_or_ge i N with w | w
          · exact w
          · rw [show i = N by omega, k3] at i2
            omega
        obtain ⟨R, r1, r2, -⟩ := k4 i hiN
        have := aLk_pos r2
        have := aLk_b hl (by omega) r2
        rw [← i2, r1, if_neg (show ¬ nI R ≤ 0 by rw [nI_le0 (by omega)]; omega)]
        rfl
      · rw [k5 p (by omega) (fun j hj e => g j (by omega) e.symm), if_pos (show (0 : Int32) ≤ 0 by decide)]
        rfl
  have hst : ∀ v, fX2_isRaw M (8 + 48 * k) (nI p) (nI len) = some (v, M) → fX8_stateAt M 0 (nI k) (nI p) = if v = 0 then some (0, M) else if nI p ≤ 0 then fX8_stateAt_47 M 0 (nI k) (nI p) else if nI len ≤ nI p then fX8_stateAt_47 M 0 (nI k) (nI p) else fX8_stateAt_48 M 0 (nI k) (nI p) 1 := by
    intro v hv
    unfold fX8_stateAt
    rw [gr_0_2 h, Option.bind_some, ar7 h hk, Option.bind_some, gr_0_0 h, Option.bind_some, gr_1_0 h, Option.bind_some, zgI_f h (by decide) zk_2, Option.bind_some, t1.1, zck_f h (by omega) z1, Option.bind_some, hv, Option.bind_some]
    dsimp only
    rw [gr_0_0 h, Option.bind_some, gr_1_0 h, Option.bind_some, zgI_f h (by decide) zk_2, Option.bind_some, t1.1]
  have hno : (∀ i, i ≤ N → b i ≠ p) → fX8_stateAt M 0 (nI k) (nI p) = some (0, M) := fun g => by
    rw [hst _ (hraw false (Or.inr ⟨rfl, g⟩))]
    rfl
  have hyes : (∃ i, i ≤ N ∧ b i = p) → fX8_stateAt M 0 (nI k) (nI p) = if nI p ≤ 0 then fX8_stateAt_47 M 0 (nI k) (nI p) else if nI len ≤ nI p then fX8_stateAt_47 M 0 (nI k) (nI p) else fX8_stateAt_48 M 0 (nI k) (nI p) 1 := fun g => by
    rw [hst _ (hraw true (Or.inl ⟨rfl, g⟩)), if_pos rfl, if_neg (by decide)]
  have h47 : fX8_stateAt_47 M 0 (nI k) (nI p) = some (1, M) := by
    unfold fX8_stateAt_47 fX8_stateAt_48
    split
    · rw [if_pos rfl]
    · rfl
  unfold fX9_isSuppressed
  by_cases hk2 : k = 2
  · rw [if_pos (show nI k = 2 by rw [hk2]; rfl)]
    by_cases hp0 : p = 0
    · refine ⟨0, Or.inl rfl, fun _ => rfl, ?_, fun g => ?_, hno, ⟨fun z => absurd z (by decide), fun z => absurd hp0 z.2.1⟩⟩
      · rw [if_pos (by rw [hp0]; rfl)]; rfl
      · rw [hyes g, if_pos (show nI p ≤ 0 by rw [nI_le0 (by omega)]; exact hp0), h47]
        rfl
    · rw [if_neg (show ¬ nI p = 0 from fun z => hp0 (nI_inj (by omega) (by omega) z)), zgI_f h (by decide) zk_279, Option.bind_some, t2.1]
      by_cases hpl : p = len
      · refine ⟨0, Or.inl rfl, fun _ => rfl, ?_, fun g => ?_, hno, ⟨fun z => absurd z (by decide), fun z => absurd hpl z.2.2.1⟩⟩
        · rw [if_pos (by rw [hpl])]; rfl
        · rw [hyes g, if_neg (show ¬ nI p ≤ 0 by rw [nI_le0 (by omega)]; exact hp0), if_pos (show nI len ≤ nI p by rw [nI_leN (by omega) (by omega)]; omega), h47]
          rfl
      · rw [if_neg (fun z => hpl (nI_inj (by omega) (by omega) z))]
        obtain ⟨v, v1, v2, v3, v4⟩ := sup_loop h c1 c2 t1 t2 hE (p - 1) zFU zFU (by omega) (by unfold zFU; omega) (by unfold zFU; omega)
        rw [show p - 1 + 1 = p by omega] at v3
        refine ⟨v, v1, fun z => ?_, v3, fun g => ?_, hno, ⟨fun z => ⟨hk2, hp0, hpl, v4.mp z⟩, fun z => v4.mpr z.2.2.2⟩⟩
        · rcases z with z | z
          · exact absurd z hp0
          · exact absurd z hpl
        · rw [hyes g, if_neg (show ¬ nI p ≤ 0 by rw [nI_le0 (by omega)]; exact hp0), if_neg (show ¬ nI len ≤ nI p by rw [nI_leN (by omega) (by omega)]; omega)]
          unfold fX8_stateAt_48 fX8_isBehindException
          rw [if_pos (show nI k = 2 by rw [hk2]; rfl), if_neg (show ¬ (1 : Int32) = 0 by decide), zck_f h (by decide) zk_0, Option.bind_some, zlt_e, show (1 : Int32) = nI 1 from rfl, pk_sub (show 1 ≤ p by omega), v2, Option.bind_some]
          dsimp only
          rcases v1 with rfl | rfl
          · rw [if_pos rfl, if_pos rfl]
          · rw [if_neg (by decide), if_neg (by decide)]
  · rw [if_neg (show ¬ nI k = 2 from fun z => hk2 (nI_inj (by omega) (by omega) z))]
    refine ⟨0, Or.inl rfl, fun _ => rfl, rfl, fun g => ?_, hno, ⟨fun z => absurd z (by decide), fun z => absurd z.1 hk2⟩⟩
    have h48 : fX8_stateAt_48 M 0 (nI k) (nI p) 1 = some (1, M) := by
      unfold fX8_stateAt_48
      rw [if_neg (show ¬ nI k = 2 from fun z => hk2 (nI_inj (by omega) (by omega) z))]
    rw [hyes g, h47, h48, if_pos rfl]
    split
    · rfl
    · split <;> rfl
end XB
