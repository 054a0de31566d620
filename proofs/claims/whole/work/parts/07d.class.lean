/-! ===== the class's walk: its parts ===== -/
/-- a rule's cells are there, and its two rows of waiting lengths are w1, w2 -/
def zWt (M : Mem) (r w1 w2 : Nat) : Prop := M.2.2 r 5 = some w1 ∧ M.2.2 r 6 = some w2 ∧ ((w1 = r + 7 ∧ w2 = r + 8) ∨ (w1 = r + 8 ∧ w2 = r + 7))
/-- the class's text: its length, the class of each character -/
def cTx (M : Mem) (len : Nat) (c : Nat → Nat) : Prop := M.2.1 2 1 = nI len ∧ len ≤ 100 ∧ ∀ t, t < len → ∃ ch, 32 ≤ ch ∧ ch ≤ 126 ∧ M.2.1 3 t = nI ch ∧ M.2.1 4 (ch - 32) = nI (c t) ∧ c t < 12
theorem zrow_2 : zrow 2 := ⟨by decide, zk_2, by decide +kernel, zk_3⟩
theorem coc_ok {M : Mem} (h : zO M) {ch : Nat} (h1 : 32 ≤ ch) (h2 : ch ≤ 126) : fX7_classOfCharacter M 1 (nI ch) = some (M.2.1 4 (ch - 32), M) := by
  unfold fX7_classOfCharacter
  rw [zlt_e, show (32 : Int32) = nI 32 from rfl, pk_sub h1, if_neg (nI_pos (by omega)), gr_1_1 h, Option.bind_some, zal_f h (by decide) zk_4, Option.bind_some, zl_4, if_neg (by rw [nI_leN (by omega) (by omega)]; omega), Option.bind_some, zaI_f h (by decide) zk_4 (by rw [zl_4]; omega), Option.bind_some]
theorem cat_ok {M : Mem} (h : zO M) {len t : Nat} {c : Nat → Nat} (hx : cTx M len c) (ht : t < len) : fX7_classAt M 1 (nI t) = some (nI (c t), M) := by
  obtain ⟨x1, x2, x3⟩ := hx
  obtain ⟨ch, q1, q2, q3, q4, q5⟩ := x3 t ht
  unfold fX7_classAt
  rw [gr_1_0 h, Option.bind_some, zck_f h (by decide) zk_2, Option.bind_some, at_ok h zrow_2 x1 (by rw [show (2 : Nat) + 1 = 3 from rfl, zl_3]; exact x2) (fun i hi => by
    obtain ⟨ch', a1, a2, a3, -⟩ := x3 i hi
    rw [show (2 : Nat) + 1 = 3 from rfl, a3]
    exact chr_code (by omega)) (by omega), Option.bind_some]
  dsimp only
  rw [if_pos ht, show (2 : Nat) + 1 = 3 from rfl, q3, zck_f h (by decide) zk_1, Option.bind_some, coc_ok h q1 q2, Option.bind_some, q4]
theorem isClass_ok {c : Nat} (hc : c < 12) : fX8_isClass (nI c) = some 1 := by
  unfold fX8_isClass
  rw [if_neg (nI_pos (by omega)), show (12 : Int32) = nI 12 from rfl, if_neg (by rw [nI_leN (by omega) (by omega)]; omega)]
  rfl
theorem tk_ok {M : Mem} (h : zO M) {r c : Nat} (hr : r + 9 ≤ 152) (hC : zruleC r) (hR : zruleR r) (hc : c < 12) : fX5_takersOf M r (nI c) = some (M.2.1 (r + 6) c, M) := by
  obtain ⟨c0, c1, c2, c3, c4, c5, c6, c7, c8, l2, l5, l6, l7, l8⟩ := hC
  obtain ⟨r0, r1, r2, r3, r4, -⟩ := hR
  unfold fX5_takersOf
  rw [isClass_ok hc, Option.bind_some, if_neg (by decide), zgR_f h (by omega) c0 r4, Option.bind_some, zaI_f h (by omega) c6 (by rw [l6]; exact hc), Option.bind_some]
theorem aNx_hi {F : Nat → Int32} {m : Int32} {k : Nat} (h : ∀ q, k ≤ q → bt m q = false) : ∀ d, aNx F m (k + d) = aNx F m k
  | 0 => rfl
  | d + 1 => by
    rw [show k + (d + 1) = k + d + 1 by omega]
    simp only [aNx]
    rw [aNx_hi h d, h (k + d) (by omega), if_neg (by decide)]
    apply b_ext
    intro i _
    rw [b_or, b_0, Bool.or_false]
theorem fo_loop {M : Mem} (h : zO M) {r : Nat} (hr : r + 9 ≤ 152) (hC : zruleC r) (hR : zruleR r) (m : Int32) : ∀ d k fuel, k + d = 24 → d < fuel → fX5_followersOf_4L fuel M r m (aNx (fun q => M.2.1 (r + 5) q) m k) (nI k) = some (aNx (fun q => M.2.1 (r + 5) q) m 24, M) := by
  obtain ⟨c0, c1, c2, c3, c4, c5, c6, c7, c8, l2, l5, l6, l7, l8⟩ := hC
  obtain ⟨r0, r1, r2, r3, r4, -⟩ := hR
  intro d
  induction d with
  | zero =>
    intro k fuel hk hf
    obtain ⟨f, rfl⟩ : ∃ f, fuel = f + 1 := ⟨fuel - 1, by omega⟩
    show fX5_followersOf_4 (fX5_followersOf_4L f) M r m _ (nI k) = _
    unfold fX5_followersOf_4
    rw [show (24 : Int32) = nI 24 from rfl, if_pos (by rw [nI_leN (by omega) (by omega)]; omega), show k = 24 by omega]
  | succ d ih =>
    intro k fuel hk hf
    obtain ⟨f, rfl⟩ : ∃ f, fuel = f + 1 := ⟨fuel - 1, by omega⟩
    show fX5_followersOf_4 (fX5_followersOf_4L f) M r m _ (nI k) = _
    have fin := ih (k + 1) f (by omega) (by omega)
    simp only [aNx] at fin
    unfold fX5_followersOf_4 fX5_followersOf_33
    rw [show (24 : Int32) = nI 24 from rfl, if_neg (by rw [nI_leN (by omega) (by omega)]; omega)]
    by_cases hs : m >>> (nI k &&& 31) = 0
    · rw [if_pos hs]
      have e := aNx_hi (F := fun q => M.2.1 (r + 5) q) (m := m) (k := k) (fun q hq => zsh0 (by omega) hs hq) (24 - k)
      rw [show k + (24 - k) = 24 by omega] at e
      rw [e]
    · rw [if_neg hs, zbit m (by omega)]
      by_cases hb : bt m k = true
      · rw [if_pos hb, if_neg (by decide), zgR_f h (by omega) c0 r3, Option.bind_some, zaI_f h (by omega) c5 (by rw [l5]; omega), Option.bind_some, zlt_e, zlt_e, nI_1]
        rw [if_pos hb] at fin
        exact fin
      · rw [if_neg hb, if_pos rfl, zlt_e, nI_1]
        rw [if_neg hb] at fin
        rw [show aNx (fun q => M.2.1 (r + 5) q) m k ||| 0 = aNx (fun q => M.2.1 (r + 5) q) m k from by
          apply b_ext
          intro i _
          rw [b_or, b_0, Bool.or_false]] at fin
        exact fin
theorem fo_ok {M : Mem} (h : zO M) {r : Nat} (hr : r + 9 ≤ 152) (hC : zruleC r) (hR : zruleR r) (m : Int32) : fX5_followersOf M r m = some (aNx (fun q => M.2.1 (r + 5) q) m 24, M) := by
  unfold fX5_followersOf
  exact fo_loop h hr hC hR m 24 0 zFU (by omega) (by unfold zFU; omega)
/-- Arrays.fill over all of an int array -/
theorem fill_loop {M0 : Mem} {a : Nat} (ha : a < 320) (hk : zsK a = 11) (v : Int32) : ∀ d k fuel M, zO M → k + d = zsL a → d < fuel → zq (fun q => q ≠ a) M0 M → M.2.2 = M0.2.2 → (∀ i, i < k → M.2.1 a i = v) →
    ∃ M', fJ7_fill_53178_5L fuel M a v (nI k) (nI (zsL a)) = some M' ∧ zO M' ∧ zq (fun q => q ≠ a) M0 M' ∧ M'.2.2 = M0.2.2 ∧ ∀ i, i < zsL a → M'.2.1 a i = v := by
  have hL := zsL_max a
  intro d
  induction d with
  | zero =>
    intro k fuel M h hkd hf hq hr hi
    obtain ⟨f, rfl⟩ : ∃ f, fuel = f + 1 := ⟨fuel - 1, by omega⟩
    show ∃ M', fJ7_fill_53178_5 (fJ7_fill_53178_5L f) M a v (nI k) (nI (zsL a)) = some M' ∧ _
    unfold fJ7_fill_53178_5
    rw [if_pos (by rw [nI_leN (by omega) (by omega)]; omega)]
    exact ⟨M, rfl, h, hq, hr, fun i hi' => hi i (by omega)⟩
  | succ d ih =>
    intro k fuel M h hkd hf hq hr hi
    obtain ⟨f, rfl⟩ : ∃ f, fuel = f + 1 := ⟨fuel - 1, by omega⟩
    show ∃ M', fJ7_fill_53178_5 (fJ7_fill_53178_5L f) M a v (nI k) (nI (zsL a)) = some M' ∧ _
    unfold fJ7_fill_53178_5
    rw [if_neg (by rw [nI_leN (by omega) (by omega)]; omega), zsI_f h ha hk (by omega), Option.bind_some, zlt_e, nI_1]
    refine ih (k + 1) f (zwI M a k v) h (by omega) (by omega) (hq.tr (zq_wI)) hr (fun i hi' => ?_)
    rw [zw_I]
    split
    · rfl
    · exact hi i (by omega)
theorem fill_ok {M : Mem} (h : zO M) {a : Nat} (ha : a < 320) (hk : zsK a = 11) (v : Int32) : ∃ M', fJ7_fill_53178 M a v = some M' ∧ zO M' ∧ zq (fun q => q ≠ a) M M' ∧ M'.2.2 = M.2.2 ∧ ∀ i, i < zsL a → M'.2.1 a i = v := by
  have hL := zsL_max a
  unfold fJ7_fill_53178
  rw [zal_f h ha hk, Option.bind_some]
  exact fill_loop ha hk v (zsL a) 0 zFU M h (by omega) (by unfold zFU; omega) zq.rf rfl (fun i hi => absurd hi (by omega))
/-- waitAt(): the greatest length stays -/
theorem wait_loop {M0 : Mem} {a : Nat} (ha : a < 320) (hk : zsK a = 11) (hl : zsL a = 24) (m x : Int32) : ∀ d k fuel M, zO M → k + d = 24 → d < fuel → zq (fun q => q ≠ a) M0 M → M.2.2 = M0.2.2 → (∀ i, M.2.1 a i = if i < k ∧ bt m i = true ∧ M0.2.1 a i < x then x else M0.2.1 a i) →
    ∃ M', fX5_waitAt_2L fuel M a m x (nI k) = some M' ∧ zO M' ∧ zq (fun q => q ≠ a) M0 M' ∧ M'.2.2 = M0.2.2 ∧ ∀ i, M'.2.1 a i = if i < 24 ∧ bt m i = true ∧ M0.2.1 a i < x then x else M0.2.1 a i := by
  intro d
  induction d with
  | zero =>
    intro k fuel M h hkd hf hq hr hi
    obtain ⟨f, rfl⟩ : ∃ f, fuel = f + 1 := ⟨fuel - 1, by omega⟩
    show ∃ M', fX5_waitAt_2 (fX5_waitAt_2L f) M a m x (nI k) = some M' ∧ _
    unfold fX5_waitAt_2
    rw [zal_f h ha hk, Option.bind_some, hl, if_pos (by rw [nI_leN (by omega) (by omega)]; omega)]
    refine ⟨M, rfl, h, hq, hr, fun i => ?_⟩
    rw [hi i, show k = 24 by omega]
  | succ d ih =>
    intro k fuel M h hkd hf hq hr hi
    obtain ⟨f, rfl⟩ : ∃ f, fuel = f + 1 := ⟨fuel - 1, by omega⟩
    show ∃ M', fX5_waitAt_2 (fX5_waitAt_2L f) M a m x (nI k) = some M' ∧ _
    unfold fX5_waitAt_2 fX5_waitAt_33
    rw [zal_f h ha hk, Option.bind_some, hl, if_neg (by rw [nI_leN (by omega) (by omega)]; omega)]
    by_cases hs : m >>> (nI k &&& 31) = 0
    · rw [if_pos hs]
      refine ⟨M, rfl, h, hq, hr, fun i => ?_⟩
      rw [hi i]
      by_cases hik : i < k
      · simp only [hik, show i < 24 by omega, true_and]
      · have hb := zsh0 (by omega) hs (i := i) (by omega)
        simp [hb]
    · rw [if_neg hs, zbit m (by omega), zlt_e, nI_1, zaI_f h ha hk (by rw [hl]; omega), Option.bind_some]
      have ek : M.2.1 a k = M0.2.1 a k := by rw [hi k, if_neg (by omega)]
      by_cases hb : bt m k = true
      · rw [if_pos hb, if_neg (by decide), ek]
        by_cases hx : x ≤ M0.2.1 a k
        · rw [if_pos hx]
          refine ih (k + 1) f M h (by omega) (by omega) hq hr (fun i => ?_)
          rw [hi i]
          by_cases hik : i = k
          · subst hik
            rw [if_neg (by omega), if_neg (by rintro ⟨-, -, q⟩; exact absurd q (Int32.not_lt.mpr hx))]
          · simp only [show (i < k + 1) = (i < k) from propext (by omega)]
        · rw [if_neg hx, zsI_f h ha hk (by rw [hl]; omega), Option.bind_some]
          refine ih (k + 1) f (zwI M a k x) h (by omega) (by omega) (hq.tr zq_wI) hr (fun i => ?_)
          rw [zw_I]
          by_cases hik : i = k
          · subst hik
            rw [if_pos ⟨rfl, rfl⟩, if_pos ⟨by omega, hb, Int32.not_le.mp hx⟩]
          · rw [if_neg (by rintro ⟨-, q⟩; exact hik q), hi i]
            simp only [show (i < k + 1) = (i < k) from propext (by omega)]
      · rw [if_neg hb, if_pos rfl]
        refine ih (k + 1) f M h (by omega) (by omega) hq hr (fun i => ?_)
        rw [hi i]
        by_cases hik : i = k
        · subst hik
          rw [if_neg (by omega), if_neg (by rintro ⟨-, q, -⟩; exact hb q)]
        · simp only [show (i < k + 1) = (i < k) from propext (by omega)]
theorem wait_ok {M : Mem} (h : zO M) {a : Nat} (ha : a < 320) (hk : zsK a = 11) (hl : zsL a = 24) (m x : Int32) : ∃ M', fX5_waitAt M a m x = some M' ∧ zO M' ∧ zq (fun q => q ≠ a) M M' ∧ M'.2.2 = M.2.2 ∧ ∀ i, M'.2.1 a i = if i < 24 ∧ bt m i = true ∧ M.2.1 a i < x then x else M.2.1 a i := by
  unfold fX5_waitAt
  exact wait_loop ha hk hl m x 24 0 zFU M h (by omega) (by unfold zFU; omega) zq.rf rfl (fun i => by rw [if_neg (by omega)])
/-- the cells that a walk of the rule r changes -/
abbrev zwk (r : Nat) : Nat → Prop := fun q => q ≠ r ∧ q ≠ r + 7 ∧ q ≠ r + 8
theorem zWt.kind {M : Mem} {r w1 w2 : Nat} (hC : zruleC r) (hW : zWt M r w1 w2) : (zsK w1 = 11 ∧ zsL w1 = 24) ∧ (zsK w2 = 11 ∧ zsL w2 = 24) ∧ w1 ≠ w2 ∧ (w1 = r + 7 ∨ w1 = r + 8) ∧ (w2 = r + 7 ∨ w2 = r + 8) := by
  obtain ⟨c0, c1, c2, c3, c4, c5, c6, c7, c8, l2, l5, l6, l7, l8⟩ := hC
  rcases hW.2.2 with ⟨rfl, rfl⟩ | ⟨rfl, rfl⟩
  · exact ⟨⟨c7, l7⟩, ⟨c8, l8⟩, by omega, by omega, by omega⟩
  · exact ⟨⟨c8, l8⟩, ⟨c7, l7⟩, by omega, by omega, by omega⟩
theorem begin_ok {M : Mem} (h : zO M) {r w1 w2 : Nat} (hr : r + 9 ≤ 152) (hC : zruleC r) (hR : zruleR r) (hW : zWt M r w1 w2) (x : Int32) : ∃ M', fX5_beginAhead M r x = some M' ∧ zO M' ∧ zq (zwk r) M M' ∧ M'.2.2 = M.2.2 ∧
    (∀ i, M'.2.1 w1 i = if i < 24 ∧ bt (M.2.1 (r + 4) 0) i = true ∧ M.2.1 w1 i < x then x else M.2.1 w1 i) ∧ M'.2.1 r 7 = (if M.2.1 (r + 4) 2 = 0 then M.2.1 r 7 else x) := by
  obtain ⟨⟨k1, k2⟩, ⟨k3, k4⟩, k5, k6, k7⟩ := hW.kind hC
  obtain ⟨c0, c1, c2, c3, c4, c5, c6, c7, c8, l2, l5, l6, l7, l8⟩ := hC
  obtain ⟨r0, r1, r2, r3, r4, -⟩ := hR
  have core : ∀ M1 : Mem, zO M1 → zq (zwk r) M M1 → M1.2.2 = M.2.2 → M1.2.1 w1 = M.2.1 w1 → M1.2.1 r 7 = (if M.2.1 (r + 4) 2 = 0 then M.2.1 r 7 else x) → ∃ M', fX5_beginAhead_15 M1 r x = some M' ∧ zO M' ∧ zq (zwk r) M M' ∧ M'.2.2 = M.2.2 ∧ (∀ i, M'.2.1 w1 i = if i < 24 ∧ bt (M.2.1 (r + 4) 0) i = true ∧ M.2.1 w1 i < x then x else M.2.1 w1 i) ∧ M'.2.1 r 7 = (if M.2.1 (r + 4) 2 = 0 then M.2.1 r 7 else x) := by
    intro M1 h1 q1 e1 e2 e3
    unfold fX5_beginAhead_15
    have hw : zgR M1 5 5 r = some w1 := by
      unfold zgR
      rw [if_pos ⟨by rw [h1.1]; omega, c0⟩, e1]
      exact hW.1
    rw [hw, Option.bind_some, zgR_f h1 (by omega) c0 r2, Option.bind_some, zgI_f h1 (by omega) c4, Option.bind_some]
    obtain ⟨M', a1, a2, a3, a4, a5⟩ := wait_ok h1 (a := w1) (by omega) k1 k2 (M1.2.1 (r + 4) 0) x
    rw [a1, Option.bind_some]
    refine ⟨M', rfl, a2, q1.tr (a3.wk (fun q hq => k6.elim (fun e => by rw [e]; exact hq.2.1) (fun e => by rw [e]; exact hq.2.2))), a4.trans e1, fun i => ?_, ?_⟩
    · rw [a5 i, e2, (q1.2 (r + 4) ⟨by omega, by omega, by omega⟩).1]
    · rw [(a3.2 r (by omega)).1, e3]
  unfold fX5_beginAhead
  rw [zgR_f h (by omega) c0 r2, Option.bind_some, zgI_f h (by omega) c4, Option.bind_some]
  by_cases h0 : M.2.1 (r + 4) 2 = 0
  · rw [if_pos h0]
    exact core M h zq.rf rfl rfl (by rw [if_pos h0])
  · rw [if_neg h0, zpI_f h (by omega) c0, Option.bind_some]
    refine core (zwI M r 7 x) h (zq_wI.wk (fun q hq => hq.1)) rfl ?_ ?_
    · exact zu2_ne (by omega)
    · rw [zw_I, if_pos ⟨rfl, rfl⟩, if_neg h0]
