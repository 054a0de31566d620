/-! ===== what always holds between class and model ===== -/
theorem i32_nn {x : Int32} (h : ¬ x < 0) : ∃ n, n < 2 ^ 31 ∧ x = nI n := by
  have h0 : 0 ≤ x.toInt := by
    rw [Int32.lt_iff_toInt_lt] at h
    simpa using h
  have h1 := Int32.toInt_lt x
  refine ⟨x.toInt.toNat, by omega, ?_⟩
  apply Int32.toInt_inj.mp
  show x.toInt = (Int32.ofNat _).toInt
  rw [Int32.toInt_ofNat_of_lt (by omega)]
  omega
theorem i32_le {x : Int32} {n : Nat} (hn : n < 2 ^ 31) (h : ¬ x < 0) (h2 : ¬ nI n < x) : ∃ m, m ≤ n ∧ x = nI m := by
  obtain ⟨m, m1, rfl⟩ := i32_nn h
  rw [nI_ltN hn m1] at h2
  exact ⟨m, by omega, rfl⟩
theorem i32_lt {x : Int32} {n : Nat} (hn : n < 2 ^ 31) (h : ¬ x < 0) (h2 : ¬ nI n ≤ x) : ∃ m, m < n ∧ x = nI m := by
  obtain ⟨m, m1, rfl⟩ := i32_nn h
  rw [nI_leN hn m1] at h2
  exact ⟨m, by omega, rfl⟩
theorem aRs_of {M : Mem} (h : ∀ k, k < 3 → iRs M M k) : aRs M := by
  intro r hr
  obtain ⟨-, n, n1, n2, n3, n4, n5⟩ := h (r / 5) (by omega) (r % 5) (by omega)
  rw [show 5 * (r / 5) + r % 5 = r by omega] at n3 n5
  exact ⟨n, n1, n3, fun hn => (n5 hn).2.2.2.2.2.2.1⟩
/-- a kind on both sides -/
def iK (M : Mem) (len : Nat) (cl : Nat → Int32) (k : Nat) : Prop := ∃ N b w, cK M M cl k len N b ∧ mK M k N b ∧ M.2.1 (8 + 48 * k) 2 = nI w ∧ M.2.1 305 k = nI w
theorem cK_mr {M Mr Mr' : Mem} {Q : Nat → Prop} {cl : Nat → Int32} {k len N : Nat} {b : Nat → Nat} (hq : zq Q Mr Mr') (hQ : ∀ q, 291 ≤ q → q ≤ 301 → Q q) (h : cK M Mr cl k len N b) : cK M Mr' cl k len N b := by
  unfold cK at *
  simp only [aLk_mv hq hQ]
  exact h
theorem nxB_cg {b q q' : Nat → Nat} {i0 n j1 kn ko : Nat} (e : ∀ i, i ≤ n → q i = q' i) : nxB b q i0 n j1 kn ko = nxB b q' i0 n j1 kn ko := by
  funext i
  unfold nxB
  by_cases h1 : i < i0
  · rw [if_pos h1, if_pos h1]
  · rw [if_neg h1, if_neg h1]
    by_cases h2 : i < i0 + n
    · rw [if_pos h2, if_pos h2, e _ (by omega)]
    · rw [if_neg h2, if_neg h2]
/-- an edit has been carried out on both sides: M at its start, M1 behind the class, Ma where the model's change of the text began, M2 at the end -/
theorem fin_k {M M1 Ma M2 : Mem} {cc ch ch' : Nat → Nat} {len len' pl kn ko k N : Nat} {b : Nat → Nat} (hk : k < 3) (hra : zq (fun q => 291 ≤ q ∧ q ≤ 301) M Ma) (hrb : zq (fun q => 291 ≤ q ∧ q ≤ 301) M M2) (hcl : zq (fun q => q < 279) M1 M2) (hxa : mTe Ma len ch) (hca : mCs Ma cc) (hxb : mTe M2 len' ch') (hcb : mCs M2 cc) (hb : ∀ i, i < N → b i < b (i + 1)) (hbl : ∀ i, i ≤ N → b i ≤ len) (h1 : kDn M1 M (acl cc ch) (acl cc ch') len len' pl kn ko k N b) (h2 : mDn Ma M2 len len' pl kn ko k N b) : iK M2 len' (acl cc ch') k := by
  obtain ⟨i0, n, q, j1, a1, a2, a3, a4⟩ := h1
  obtain ⟨i0', n', q', j1', b1, b2, b3, b4⟩ := h2
  have c1 : aTo M (acl cc ch) k len N b pl i0' := by
    rw [← aTo_mv hra (fun q x y => ⟨x, y⟩)]
    exact aTo_cl hbl (fun t ht => mTe_c hxa hca ht) b1
  have e := aTo_u a1 c1
  subst e
  have c2 : aTr M (acl cc ch') k len' N b i0 kn ko n' q' j1' := by
    rw [← aTr_mv hra (fun q x y => ⟨x, y⟩)]
    exact aTr_cl (fun t ht => mTe_c hxb hcb ht) b2
  obtain ⟨e1, e2, e3⟩ := aTr_u hb a2 c2
  subst e1
  subst e2
  rw [← nxB_cg e3] at b4
  refine ⟨_, _, n, cK_mr hrb (fun q x y => ⟨x, y⟩) (cK_mv hcl (by omega) a4), b4, ?_, b3⟩
  rw [(hcl.2 _ (by omega)).1]
  exact a3
/-- the pattern on both sides -/
def iP (M : Mem) : Prop := ∃ n, n ≤ 24 ∧ M.2.1 5 1 = nI n ∧ M.2.1 279 1 = nI n ∧ ∀ i, i < n → M.2.1 6 i = M.2.1 281 i ∧ chr (M.2.1 281 i)
/-! ===== the edits that are remembered ===== -/
abbrev Ed : Type := Int32 × Nat × Nat × (Nat → Nat)
def cSl (M : Mem) (s : Nat) (D : Ed) : Prop := M.2.1 (189 + 3 * s) 1 = D.1 ∧ M.2.1 (189 + 3 * s) 2 = nI D.2.1 ∧ M.2.1 (190 + 3 * s) 1 = nI D.2.2.1 ∧ ∀ j, j < D.2.2.1 → M.2.1 (191 + 3 * s) j = nI (D.2.2.2 j)
def uSl (M : Mem) (i : Nat) (D : Ed) : Prop := M.2.1 309 i = D.1 ∧ M.2.1 310 i = nI D.2.1 ∧ M.2.1 311 i = nI D.2.2.1 ∧ ∀ j, j < D.2.2.1 → M.2.1 312 (100 * i + j) = nI (D.2.2.2 j)
def rSl (M : Mem) (i : Nat) (D : Ed) : Prop := M.2.1 313 i = D.1 ∧ M.2.1 314 i = nI D.2.1 ∧ M.2.1 315 i = nI D.2.2.1 ∧ ∀ j, j < D.2.2.1 → M.2.1 316 (100 * i + j) = nI (D.2.2.2 j)
/-- D leads from a text of a characters to one of b -/
def vE (D : Ed) (a b : Nat) : Prop := ((D.1 = 1 ∧ D.2.1 ≤ a ∧ b = a + D.2.2.1 ∧ b ≤ 100) ∨ (D.1 = 0 ∧ D.2.1 + D.2.2.1 ≤ a ∧ a ≤ 100 ∧ a = b + D.2.2.1)) ∧ ∀ j, j < D.2.2.1 → 32 ≤ D.2.2.2 j ∧ D.2.2.2 j ≤ 126
theorem vE_n {D : Ed} {a b : Nat} (h : vE D a b) : D.2.2.1 ≤ 100 ∧ D.2.1 ≤ 100 ∧ (D.1 = 0 ∨ D.1 = 1) := by
  rcases h.1 with ⟨h1, h2, h3, h4⟩ | ⟨h1, h2, h3, h4⟩
  · exact ⟨by omega, by omega, Or.inr h1⟩
  · exact ⟨by omega, by omega, Or.inl h1⟩
def iH (M : Mem) (len : Nat) : Prop := ∃ (o u r : Nat) (D : Nat → Ed) (Ls : Nat → Nat), o < 30 ∧ u + r ≤ 30 ∧ M.2.1 187 1 = nI o ∧ M.2.1 187 2 = nI u ∧ M.2.1 187 3 = nI r ∧ M.2.1 279 39 = nI u ∧ M.2.1 279 44 = nI r ∧ Ls u = len ∧ (∀ i, i < u + r → vE (D i) (Ls i) (Ls (i + 1))) ∧ (∀ i, i < u + r → cSl M ((o + i) % 30) (D i)) ∧ (∀ i, i < u → uSl M i (D i)) ∧ (∀ j, j < r → rSl M (r - 1 - j) (D (u + j)))
theorem cSl_mv {M M' : Mem} {Q : Nat → Prop} (hq : zq Q M M') {s : Nat} {D : Ed} (h1 : Q (189 + 3 * s)) (h2 : Q (190 + 3 * s)) (h3 : Q (191 + 3 * s)) (h : cSl M s D) : cSl M' s D := by
  unfold cSl at *
  rw [(hq.2 _ h1).1, (hq.2 _ h2).1, (hq.2 _ h3).1]
  exact h
theorem uSl_mv {M M' : Mem} {Q : Nat → Prop} (hq : zq Q M M') {s : Nat} {D : Ed} (h : ∀ q, 309 ≤ q → q ≤ 312 → Q q) (hs : uSl M s D) : uSl M' s D := by
  unfold uSl at *
  rw [(hq.2 _ (h 309 (by decide) (by decide))).1, (hq.2 _ (h 310 (by decide) (by decide))).1, (hq.2 _ (h 311 (by decide) (by decide))).1, (hq.2 _ (h 312 (by decide) (by decide))).1]
  exact hs
theorem rSl_mv {M M' : Mem} {Q : Nat → Prop} (hq : zq Q M M') {s : Nat} {D : Ed} (h : ∀ q, 313 ≤ q → q ≤ 316 → Q q) (hs : rSl M s D) : rSl M' s D := by
  unfold rSl at *
  rw [(hq.2 _ (h 313 (by decide) (by decide))).1, (hq.2 _ (h 314 (by decide) (by decide))).1, (hq.2 _ (h 315 (by decide) (by decide))).1, (hq.2 _ (h 316 (by decide) (by decide))).1]
  exact hs
theorem fmod : ∀ a, a < 61 → fJ9_floorMod_7cf53 (nI a) 30 = some (nI (a % 30)) := by decide +kernel
theorem atx_ok {M : Mem} (h : zO M) {o i : Nat} (ho : o < 30) (hi : i ≤ 30) (e : M.2.1 187 1 = nI o) : fX1_atIndex M 187 (nI i) = some (189 + 3 * ((o + i) % 30), M) := by
  unfold fX1_atIndex
  have hr : zaR M 13 188 (nI ((o + i) % 30)) = some (189 + 3 * ((o + i) % 30)) := by
    rw [zaR_f h (by decide) zk_188 (by rw [zl_188]; omega)]
    exact h.2 _ _ _ (zedit (i := (o + i) % 30) (by omega)).2.2.2.2
  rw [gr_187_0 h, Option.bind_some, zgI_f h (by decide) zk_187, Option.bind_some, e, nI_add, fmod _ (by omega), Option.bind_some, hr, Option.bind_some]
/-- begin(): the room of a new edit -/
theorem beg_ok {M : Mem} (h : zO M) {o u : Nat} (ho : o < 30) (hu : u ≤ 30) (e1 : M.2.1 187 1 = nI o) (e2 : M.2.1 187 2 = nI u) : ∃ M' δ, δ ≤ 1 ∧ (δ = 1 ↔ u = 30) ∧ fX1_begin M 187 = some (189 + 3 * ((o + u) % 30), M') ∧ zO M' ∧ zq (fun q => q ≠ 187) M M' ∧ M'.2.2 = M.2.2 ∧ M'.2.1 187 1 = nI ((o + δ) % 30) ∧ M'.2.1 187 2 = nI (u - δ + 1) ∧ M'.2.1 187 3 = nI 0 := by
  unfold fX1_begin
  have hA : zO (zwI M 187 3 (nI 0)) := h
  have f1 : (zwI M 187 3 (nI 0)).2.1 187 1 = nI o := by rw [zw_I, if_neg (by omega)]; exact e1
  have f2 : (zwI M 187 3 (nI 0)).2.1 187 2 = nI u := by rw [zw_I, if_neg (by omega)]; exact e2
  rw [show (0 : Int32) = nI 0 from rfl, zpI_f h (by decide) zk_187, Option.bind_some, zgI_f hA (by decide) zk_187, Option.bind_some, f2]
  by_cases hu30 : u < 30
  · refine ⟨zwI (zwI M 187 3 (nI 0)) 187 2 (nI (u + 1)), 0, by omega, by omega, ?_, h, zq_wI.tr zq_wI, rfl, ?_, ?_, ?_⟩
    · have hB : zO (zwI (zwI M 187 3 (nI 0)) 187 2 (nI (u + 1))) := h
      have g2 : (zwI (zwI M 187 3 (nI 0)) 187 2 (nI (u + 1))).2.1 187 2 = nI (u + 1) := by rw [zw_I, if_pos ⟨rfl, rfl⟩]
      have g1 : (zwI (zwI M 187 3 (nI 0)) 187 2 (nI (u + 1))).2.1 187 1 = nI o := by rw [zw_I, if_neg (by omega)]; exact f1
      rw [show (30 : Int32) = nI 30 from rfl, if_pos (show nI u < nI 30 by rw [nI_ltN (by omega) (by omega)]; exact hu30)]
      unfold fX1_begin_35
      rw [zgI_f hA (by decide) zk_187, Option.bind_some, f2, nI_1, zpI_f hA (by decide) zk_187, Option.bind_some, zgI_f hB (by decide) zk_187, Option.bind_some, g2, zck_f hB (by decide) zk_187, Option.bind_some, dec1, atx_ok hB ho (by omega) g1, Option.bind_some]
    · rw [zw_I, if_neg (by omega), f1, Nat.add_zero, Nat.mod_eq_of_lt ho]
    · rw [zw_I, if_pos ⟨rfl, rfl⟩]
      rfl
    · rw [zw_I, if_neg (by omega), zw_I, if_pos ⟨rfl, rfl⟩]
  · have hu2 : u = 30 := by omega
    subst hu2
    refine ⟨zwI (zwI (zwI (zwI M 187 3 (nI 0)) 187 1 (nI ((o + 1) % 30))) 187 2 (nI 29)) 187 2 (nI (29 + 1)), 1, by omega, by omega, ?_, h, zq_wI.tr (zq_wI.tr (zq_wI.tr zq_wI)), rfl, ?_, ?_, ?_⟩
    · have hB : zO (zwI (zwI M 187 3 (nI 0)) 187 1 (nI ((o + 1) % 30))) := h
      have hC : zO (zwI (zwI (zwI M 187 3 (nI 0)) 187 1 (nI ((o + 1) % 30))) 187 2 (nI 29)) := h
      have hD : zO (zwI (zwI (zwI (zwI M 187 3 (nI 0)) 187 1 (nI ((o + 1) % 30))) 187 2 (nI 29)) 187 2 (nI (29 + 1))) := h
      have g2 : (zwI (zwI (zwI M 187 3 (nI 0)) 187 1 (nI ((o + 1) % 30))) 187 2 (nI 29)).2.1 187 2 = nI 29 := by rw [zw_I, if_pos ⟨rfl, rfl⟩]
      have g3 : (zwI (zwI (zwI (zwI M 187 3 (nI 0)) 187 1 (nI ((o + 1) % 30))) 187 2 (nI 29)) 187 2 (nI (29 + 1))).2.1 187 2 = nI (29 + 1) := by rw [zw_I, if_pos ⟨rfl, rfl⟩]
      have g4 : (zwI (zwI (zwI (zwI M 187 3 (nI 0)) 187 1 (nI ((o + 1) % 30))) 187 2 (nI 29)) 187 2 (nI (29 + 1))).2.1 187 1 = nI ((o + 1) % 30) := by rw [zw_I, if_neg (by omega), zw_I, if_neg (by omega), zw_I, if_pos ⟨rfl, rfl⟩]
      have fm := fmod (o + 1) (by omega)
      rw [show (30 : Int32) = nI 30 from rfl] at fm ⊢
      rw [if_neg (show ¬ nI 30 < nI 30 from Int32.lt_irrefl), zgI_f hA (by decide) zk_187, Option.bind_some, f1, nI_1, fm, Option.bind_some, zpI_f hA (by decide) zk_187, Option.bind_some, show (29 : Int32) = nI 29 from rfl, zpI_f hB (by decide) zk_187, Option.bind_some]
      unfold fX1_begin_35
      rw [zgI_f hC (by decide) zk_187, Option.bind_some, g2, nI_1, zpI_f hC (by decide) zk_187, Option.bind_some, zgI_f hD (by decide) zk_187, Option.bind_some, g3, zck_f hD (by decide) zk_187, Option.bind_some, dec1, atx_ok hD (by omega) (by omega) g4, Option.bind_some]
      dsimp only
      rw [show ((o + 1) % 30 + 29) % 30 = (o + 30) % 30 by omega]
    · rw [zw_I, if_neg (by omega), zw_I, if_neg (by omega), zw_I, if_pos ⟨rfl, rfl⟩]
    · rw [zw_I, if_pos ⟨rfl, rfl⟩]
    · rw [zw_I, if_neg (by omega), zw_I, if_neg (by omega), zw_I, if_neg (by omega), zw_I, if_pos ⟨rfl, rfl⟩]
