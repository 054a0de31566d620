/-! ===== what a rule of the model depends on; keepRule() ===== -/
theorem aMt_cq {W W' : Nat → Int32} {c m : Int32} : ∀ N, (∀ q, q < N → W q = W' q) → aMt W c m N = aMt W' c m N
  | 0, _ => rfl
  | N + 1, h => by
    unfold aMt
    rw [aMt_cq N (fun q hq => h q (by omega)), h N (by omega)]
theorem aNx_cq {F F' : Nat → Int32} {m : Int32} : ∀ N, (∀ q, q < N → F q = F' q) → aNx F m N = aNx F' m N
  | 0, _ => rfl
  | N + 1, h => by
    unfold aNx
    rw [aNx_cq N (fun q hq => h q (by omega)), h N (by omega)]
section CG
variable {W W' F F' : Nat → Int32} {N : Nat} {cl : Nat → Int32}
theorem aS_cq (hW : ∀ q, q < N → W q = W' q) (hF : ∀ q, q < N → F q = F' q) {m0 : Int32} {p : Nat} : ∀ t, aS W F N cl m0 p t = aS W' F' N cl m0 p t
  | 0 => rfl
  | t + 1 => by
    unfold aS
    rw [aS_cq hW hF t, aMt_cq N hW, aNx_cq N hF]
theorem aT_cq (hW : ∀ q, q < N → W q = W' q) (hF : ∀ q, q < N → F q = F' q) {m0 : Int32} {p t : Nat} : aT W F N cl m0 p t = aT W' F' N cl m0 p t := by
  unfold aT
  rw [aS_cq hW hF, aMt_cq N hW]
theorem aU_cq (hW : ∀ q, q < N → W q = W' q) (hF : ∀ q, q < N → F q = F' q) {bf bl bn lf : Int32} {p : Nat} : ∀ t, aU W F N cl bf bl bn lf p t = aU W' F' N cl bf bl bn lf p t
  | 0 => rfl
  | t + 1 => by
    unfold aU
    rw [aU_cq hW hF t, aMt_cq N hW, aNx_cq N hF]
theorem aV_cq (hW : ∀ q, q < N → W q = W' q) (hF : ∀ q, q < N → F q = F' q) {bf bl bn lf : Int32} {p : Nat} : aV W F N cl bf bl bn lf p = aV W' F' N cl bf bl bn lf p := by
  funext t
  unfold aV
  rw [aU_cq hW hF, aMt_cq N hW]
theorem aLn_cq (hW : ∀ q, q < N → W q = W' q) (hF : ∀ q, q < N → F q = F' q) {bf bl lf ll ln : Int32} {len p L : Nat} (h : aLn W F N cl bf bl lf ll ln len p L) : aLn W' F' N cl bf bl lf ll ln len p L := by
  have e : ∀ m0 p t, aT W F N cl m0 p t = aT W' F' N cl m0 p t := fun m0 p t => aT_cq hW hF
  unfold aLn aAh at *
  simp only [e] at h
  exact h
end CG
def rEq (M M' : Mem) (r : Nat) : Prop := M'.2.1 291 r = M.2.1 291 r ∧ (∀ a, 296 ≤ a → a ≤ 301 → M'.2.1 a r = M.2.1 a r) ∧ ∀ q, q < 24 → M'.2.1 292 (24 * r + q) = M.2.1 292 (24 * r + q) ∧ M'.2.1 293 (24 * r + q) = M.2.1 293 (24 * r + q) ∧ M'.2.1 294 (24 * r + q) = M.2.1 294 (24 * r + q)
theorem rEq.tr {M M' M'' : Mem} {r : Nat} (h : rEq M M' r) (h2 : rEq M' M'' r) : rEq M M'' r := ⟨h2.1.trans h.1, fun a x y => (h2.2.1 a x y).trans (h.2.1 a x y), fun q hq => ⟨(h2.2.2 q hq).1.trans (h.2.2 q hq).1, (h2.2.2 q hq).2.1.trans (h.2.2 q hq).2.1, (h2.2.2 q hq).2.2.trans (h.2.2 q hq).2.2⟩⟩
theorem rEq_q {M M' : Mem} {Q : Nat → Prop} (hq : zq Q M M') (hQ : ∀ q, 291 ≤ q → q ≤ 301 → Q q) (r : Nat) : rEq M M' r := by
  have e : ∀ a, 291 ≤ a → a ≤ 301 → M'.2.1 a = M.2.1 a := fun a x y => (hq.2 a (hQ a x y)).1
  exact ⟨by rw [e 291 (by omega) (by omega)], fun a x y => by rw [e a (by omega) y], fun q hq => ⟨by rw [e 292 (by omega) (by omega)], by rw [e 293 (by omega) (by omega)], by rw [e 294 (by omega) (by omega)]⟩⟩
theorem aRL_cq {M M' : Mem} {cl : Nat → Int32} {r len pos L : Nat} (e : rEq M M' r) (h : aRL M cl r len pos L) : aRL M' cl r len pos L := by
  obtain ⟨e1, e2, e3⟩ := e
  obtain ⟨n, n1, n2, n3⟩ := h
  refine ⟨n, n1, by rw [e1]; exact n2, n3.imp id (fun z => ⟨z.1, ?_⟩)⟩
  rw [e2 297 (by omega) (by omega), e2 298 (by omega) (by omega), e2 299 (by omega) (by omega), e2 300 (by omega) (by omega), e2 301 (by omega) (by omega)]
  exact aLn_cq (fun q hq => (e3 q (by omega)).2.1.symm) (fun q hq => (e3 q (by omega)).2.2.symm) z.2
theorem aRR_cq {M M' : Mem} {cl : Nat → Int32} {r len pos L : Nat} (e : rEq M M' r) (h : aRR M cl r len pos L) : aRR M' cl r len pos L := by
  obtain ⟨e1, e2, e3⟩ := e
  obtain ⟨n, n1, n2, n3⟩ := h
  refine ⟨n, n1, by rw [e1]; exact n2, n3.imp id (fun z => ⟨z.1, ?_⟩)⟩
  rw [e2 296 (by omega) (by omega), e2 297 (by omega) (by omega), e2 298 (by omega) (by omega), e2 300 (by omega) (by omega)]
  have := z.2
  rw [aV_cq (W' := aW M' r) (F' := aF M' r) (fun q hq => (e3 q (by omega)).2.1.symm) (fun q hq => (e3 q (by omega)).2.2.symm)] at this
  exact this
theorem aSg_cq {M M' : Mem} {cl : Nat → Int32} {k len pos S : Nat} (e : ∀ p, p < 5 → rEq M M' (5 * k + p)) (h : aSg M cl k len pos S) : aSg M' cl k len pos S := by
  obtain ⟨f, f1, f2⟩ := h
  exact ⟨f, fun p hp => aRL_cq (e p hp) (f1 p hp), f2⟩
theorem aLk_cq {M M' : Mem} {cl : Nat → Int32} {k len pos S : Nat} (e : ∀ p, p < 5 → rEq M M' (5 * k + p)) (h : aLk M cl k len pos S) : aLk M' cl k len pos S := by
  obtain ⟨f, f1, f2⟩ := h
  exact ⟨f, fun p hp => aRR_cq (e p hp) (f1 p hp), f2⟩
theorem aChn_cg2 {M M' : Mem} {cl : Nat → Int32} {k len s N : Nat} {stop : Nat → Prop} {q : Nat → Nat} (e : ∀ p, p < 5 → rEq M M' (5 * k + p)) (h : aChn M cl k len stop s N q) : aChn M' cl k len stop s N q := by
  obtain ⟨h1, h2, h3⟩ := h
  refine ⟨h1, fun i hi => ?_, h3⟩
  obtain ⟨a1, a2, S, a3, a4⟩ := h2 i hi
  exact ⟨a1, a2, S, aSg_cq e a3, a4⟩
theorem cK_cq {X M M' : Mem} {cl : Nat → Int32} {k len N : Nat} {b : Nat → Nat} (e : ∀ p, p < 5 → rEq M M' (5 * k + p)) (h : cK X M cl k len N b) : cK X M' cl k len N b := by
  obtain ⟨h1, h2, h3, h4, h5⟩ := h
  refine ⟨h1, h2, h3, fun j hj => ?_, h5⟩
  obtain ⟨R, r1, r2, r3⟩ := h4 j hj
  exact ⟨R, r1, aLk_cq e r2, r3⟩
theorem iRule_cq {X M M' : Mem} {k p : Nat} (e : rEq M M' (5 * k + p)) (h : iRule X M k p) : iRule X M' k p := by
  obtain ⟨e1, e2, e3⟩ := e
  obtain ⟨h1, n, n1, n2, n3, n4, n5⟩ := h
  refine ⟨h1, n, n1, n2, by rw [e1]; exact n3, fun i hi => by rw [(e3 i (by omega)).1]; exact n4 i hi, fun hn => ?_⟩
  obtain ⟨m1, m2, m3, m4, m5, m6, m7, m8, sg, l, g1, g2, g3, g4, g5, g6, g7, g8⟩ := n5 hn
  refine ⟨by rw [e2 297 (by omega) (by omega)]; exact m1, by rw [e2 298 (by omega) (by omega)]; exact m2, by rw [e2 296 (by omega) (by omega)]; exact m3, by rw [e2 300 (by omega) (by omega)]; exact m4, by rw [e2 301 (by omega) (by omega)]; exact m5, by rw [e2 299 (by omega) (by omega)]; exact m6, by rw [e2 299 (by omega) (by omega)]; exact m7, fun q hq => by rw [(e3 q (by omega)).2.2]; exact m8 q hq, sg, l, g1, g2, g3, g4, g5, g6, g7, fun c i hc hl => ?_⟩
  have hin := g2 i hl
  have ew : aW M' (5 * k + p) i = aW M (5 * k + p) i := (e3 i (by omega)).2.1
  rw [ew]
  exact g8 c i hc hl
/-! keepRule() -/
theorem kr_loop {M0 : Mem} {n r : Nat} {ch : Nat → Nat} (hp : mpat M0 n ch) (hr : r < 15) : ∀ d p fuel M, p + d = n → d < fuel → zO M → zq (fun q => q ≠ 292 ∧ q ≠ 293 ∧ q ≠ 294) M0 M → (∀ a j, 292 ≤ a → a ≤ 294 → (j < 24 * r ∨ 24 * r + p ≤ j) → M.2.1 a j = M0.2.1 a j) → (∀ q, q < p → M.2.1 292 (24 * r + q) = nI (ch q) ∧ M.2.1 293 (24 * r + q) = M0.2.1 289 q ∧ M.2.1 294 (24 * r + q) = M0.2.1 290 q) →
    ∃ M', fX9_keepRule_173L fuel M 279 (nI r) (nI p) = some M' ∧ zO M' ∧ zq (fun q => q ≠ 292 ∧ q ≠ 293 ∧ q ≠ 294) M0 M' ∧ (∀ a j, 292 ≤ a → a ≤ 294 → (j < 24 * r ∨ 24 * r + n ≤ j) → M'.2.1 a j = M0.2.1 a j) ∧ (∀ q, q < n → M'.2.1 292 (24 * r + q) = nI (ch q) ∧ M'.2.1 293 (24 * r + q) = M0.2.1 289 q ∧ M'.2.1 294 (24 * r + q) = M0.2.1 290 q) := by
  have hn := hp.2.1
  intro d
  induction d with
  | zero =>
    intro p fuel M hd hf h hq h1 h2
    obtain ⟨f, rfl⟩ : ∃ f, fuel = f + 1 := ⟨fuel - 1, by omega⟩
    have e : p = n := by omega
    subst e
    refine ⟨M, ?_, h, hq, h1, h2⟩
    show fX9_keepRule_173 (fX9_keepRule_173L f) M 279 (nI r) (nI p) = _
    unfold fX9_keepRule_173
    rw [x9 h, Option.bind_some, (hq.2 279 (by omega)).1, hp.1, if_pos (show nI p ≤ nI p by rw [nI_leN (by omega) (by omega)]; omega)]
  | succ d ih =>
    intro p fuel M hd hf h hq h1 h2
    obtain ⟨f, rfl⟩ : ∃ f, fuel = f + 1 := ⟨fuel - 1, by omega⟩
    have st : fX9_keepRule_173L (f + 1) M 279 (nI r) (nI p) = fX9_keepRule_173 (fX9_keepRule_173L f) M 279 (nI r) (nI p) := rfl
    rw [st]
    obtain ⟨c1, c2⟩ := hp.2.2 p (by omega)
    have e81 : M.2.1 281 p = nI (ch p) := by rw [(hq.2 281 (by omega)).1]; exact c1
    obtain ⟨M1, hM1⟩ : ∃ M1, M1 = zwI M 292 (24 * r + p) (nI (ch p)) := ⟨_, rfl⟩
    have z1 : zO M1 := by rw [hM1]; exact h
    have e1 : M1.2.1 289 p = M0.2.1 289 p := by rw [hM1, zw_I, if_neg (by omega), (hq.2 289 (by omega)).1]
    obtain ⟨M2, hM2⟩ : ∃ M2, M2 = zwI M1 293 (24 * r + p) (M0.2.1 289 p) := ⟨_, rfl⟩
    have z2 : zO M2 := by rw [hM2]; exact z1
    have e2 : M2.2.1 290 p = M0.2.1 290 p := by rw [hM2, zw_I, if_neg (by omega), hM1, zw_I, if_neg (by omega), (hq.2 290 (by omega)).1]
    obtain ⟨M3, hM3⟩ : ∃ M3, M3 = zwI M2 294 (24 * r + p) (M0.2.1 290 p) := ⟨_, rfl⟩
    have z3 : zO M3 := by rw [hM3]; exact z2
    have rd : ∀ a j, M3.2.1 a j = if a = 294 ∧ j = 24 * r + p then M0.2.1 290 p else if a = 293 ∧ j = 24 * r + p then M0.2.1 289 p else if a = 292 ∧ j = 24 * r + p then nI (ch p) else M.2.1 a j := fun a j => by
      rw [hM3, zw_I, hM2, zw_I, hM1, zw_I]
    unfold fX9_keepRule_173
    rw [x9 h, Option.bind_some, (hq.2 279 (by omega)).1, hp.1, if_neg (show ¬ nI n ≤ nI p by rw [nI_leN (by omega) (by omega)]; omega), gr_279_21 h, Option.bind_some, gr_279_2 h, Option.bind_some, zaI_f h (by decide) zk_281 (by rw [zl_281]; omega), Option.bind_some, e81, show (24 : Int32) = nI 24 from rfl, pk_mul, nI_add, zsC_f h (by decide) zk_292 (by rw [zl_292]; omega) (chr_code c2), Option.bind_some, ← hM1, gr_279_22 z1, Option.bind_some, gr_279_14 z1, Option.bind_some, zaI_f z1 (by decide) zk_289 (by rw [zl_289]; omega), Option.bind_some, e1, zsI_f z1 (by decide) zk_293 (by rw [zl_293]; omega), Option.bind_some, ← hM2, gr_279_23 z2, Option.bind_some, gr_279_15 z2, Option.bind_some, zaI_f z2 (by decide) zk_290 (by rw [zl_290]; omega), Option.bind_some, e2, zsI_f z2 (by decide) zk_294 (by rw [zl_294]; omega), Option.bind_some, ← hM3, zlt_e, nI_1]
    refine ih (p + 1) f M3 (by omega) (by omega) z3 (hq.tr ?_) (fun a j x y z => ?_) (fun q hq' => ?_)
    · rw [hM3, hM2, hM1]
      exact (zq_wI.wk (fun q z => z.1)).tr ((zq_wI.wk (fun q z => z.2.1)).tr (zq_wI.wk (fun q z => z.2.2)))
    · rw [rd, if_neg (by omega), if_neg (by omega), if_neg (by omega)]
      exact h1 a j x y (by omega)
    · by_cases e : q = p
      · subst e
        rw [rd, rd, rd, if_neg (by omega), if_neg (by omega), if_pos ⟨rfl, rfl⟩, if_neg (by omega), if_pos ⟨rfl, rfl⟩, if_pos ⟨rfl, rfl⟩]
        exact ⟨rfl, rfl, rfl⟩
      · rw [rd, rd, rd, if_neg (by omega), if_neg (by omega), if_neg (by omega), if_neg (by omega), if_neg (by omega), if_neg (by omega), if_neg (by omega), if_neg (by omega), if_neg (by omega)]
        exact h2 q (by omega)
theorem kr_ok {M : Mem} (h : zO M) {n r : Nat} {ch : Nat → Nat} (hp : mpat M n ch) (hr : r < 15) {B L : Pt} (hL : pB L) (hB : pB B) (hf : (M.2.1 279 16 = 0 ∧ mA0 M B ∧ L = pE) ∨ (M.2.1 279 16 = 1 ∧ mBo M B ∧ mA0 M L)) :
    ∃ M', fX9_keepRule M 279 (nI r) = some M' ∧ zO M' ∧ zq (fun q => q < 291 ∨ 301 < q) M M' ∧ (∀ j, j ≠ r → M'.2.1 291 j = M.2.1 291 j ∧ ∀ a, 296 ≤ a → a ≤ 301 → M'.2.1 a j = M.2.1 a j) ∧ (∀ a j, 292 ≤ a → a ≤ 294 → (j < 24 * r ∨ 24 * r + n ≤ j) → M'.2.1 a j = M.2.1 a j) ∧ M'.2.1 291 r = nI n ∧ M'.2.1 297 r = B.1 ∧ M'.2.1 298 r = B.2.1 ∧ M'.2.1 296 r = B.2.2 ∧ M'.2.1 300 r = L.1 ∧ M'.2.1 301 r = L.2.1 ∧ M'.2.1 299 r = L.2.2 ∧ ∀ q, q < n → M'.2.1 292 (24 * r + q) = nI (ch q) ∧ M'.2.1 293 (24 * r + q) = M.2.1 289 q ∧ M'.2.1 294 (24 * r + q) = M.2.1 290 q := by
  have hn := hp.2.1
  have nx : ∀ (X : Mem) (a : Nat) (v : Int32), 291 ≤ a → (∀ b, b < 291 → X.2.1 b = M.2.1 b) → ∀ b, b < 291 → (zwI X a r v).2.1 b = M.2.1 b := fun X a v ha hX b hb => by
    rw [(zq_wI.2 b (by omega)).1]; exact hX b hb
  have h16 : M.2.1 279 16 = 0 ∨ M.2.1 279 16 = 1 := hf.imp (fun z => z.1) (fun z => z.1)
  obtain ⟨M1, hM1⟩ : ∃ M1, M1 = zwI M 291 r (nI n) := ⟨_, rfl⟩
  have z1 : zO M1 := by rw [hM1]; exact h
  have f1 : ∀ b, b < 291 → M1.2.1 b = M.2.1 b := by rw [hM1]; exact nx M 291 _ (by omega) (fun _ _ => rfl)
  obtain ⟨M2, hM2⟩ : ∃ M2, M2 = zwI M1 295 r (M.2.1 279 16) := ⟨_, rfl⟩
  have z2 : zO M2 := by rw [hM2]; exact z1
  have f2 : ∀ b, b < 291 → M2.2.1 b = M.2.1 b := by rw [hM2]; exact nx M1 295 _ (by omega) f1
  obtain ⟨M3, hM3⟩ : ∃ M3, M3 = zwI M2 296 r B.2.2 := ⟨_, rfl⟩
  have z3 : zO M3 := by rw [hM3]; exact z2
  have f3 : ∀ b, b < 291 → M3.2.1 b = M.2.1 b := by rw [hM3]; exact nx M2 296 _ (by omega) f2
  obtain ⟨M4, hM4⟩ : ∃ M4, M4 = zwI M3 297 r B.1 := ⟨_, rfl⟩
  have z4 : zO M4 := by rw [hM4]; exact z3
  have f4 : ∀ b, b < 291 → M4.2.1 b = M.2.1 b := by rw [hM4]; exact nx M3 297 _ (by omega) f3
  obtain ⟨M5, hM5⟩ : ∃ M5, M5 = zwI M4 298 r B.2.1 := ⟨_, rfl⟩
  have z5 : zO M5 := by rw [hM5]; exact z4
  have f5 : ∀ b, b < 291 → M5.2.1 b = M.2.1 b := by rw [hM5]; exact nx M4 298 _ (by omega) f4
  obtain ⟨M6, hM6⟩ : ∃ M6, M6 = zwI M5 299 r L.2.2 := ⟨_, rfl⟩
  have z6 : zO M6 := by rw [hM6]; exact z5
  have f6 : ∀ b, b < 291 → M6.2.1 b = M.2.1 b := by rw [hM6]; exact nx M5 299 _ (by omega) f5
  obtain ⟨M7, hM7⟩ : ∃ M7, M7 = zwI M6 300 r L.1 := ⟨_, rfl⟩
  have z7 : zO M7 := by rw [hM7]; exact z6
  have f7 : ∀ b, b < 291 → M7.2.1 b = M.2.1 b := by rw [hM7]; exact nx M6 300 _ (by omega) f6
  obtain ⟨M8, hM8⟩ : ∃ M8, M8 = zwI M7 301 r L.2.1 := ⟨_, rfl⟩
  have z8 : zO M8 := by rw [hM8]; exact z7
  have f8 : ∀ b, b < 291 → M8.2.1 b = M.2.1 b := by rw [hM8]; exact nx M7 301 _ (by omega) f7
  have hp8 : mpat M8 n ch := by
    unfold mpat at *
    rw [f8 279 (by omega), f8 281 (by omega)]
    exact hp
  have q8 : zq (fun q => q < 291 ∨ (292 ≤ q ∧ q ≤ 294) ∨ 301 < q) M M8 := by
    rw [hM8, hM7, hM6, hM5, hM4, hM3, hM2, hM1]
    exact (zq_wI.wk (fun q z => by omega)).tr ((zq_wI.wk (fun q z => by omega)).tr ((zq_wI.wk (fun q z => by omega)).tr ((zq_wI.wk (fun q z => by omega)).tr ((zq_wI.wk (fun q z => by omega)).tr ((zq_wI.wk (fun q z => by omega)).tr ((zq_wI.wk (fun q z => by omega)).tr (zq_wI.wk (fun q z => by omega))))))))
  have rd : ∀ a j, M8.2.1 a j = if a = 301 ∧ j = r then L.2.1 else if a = 300 ∧ j = r then L.1 else if a = 299 ∧ j = r then L.2.2 else if a = 298 ∧ j = r then B.2.1 else if a = 297 ∧ j = r then B.1 else if a = 296 ∧ j = r then B.2.2 else if a = 295 ∧ j = r then M.2.1 279 16 else if a = 291 ∧ j = r then nI n else M.2.1 a j := fun a j => by
    rw [hM8, zw_I, hM7, zw_I, hM6, zw_I, hM5, zw_I, hM4, zw_I, hM3, zw_I, hM2, zw_I, hM1, zw_I]
  obtain ⟨M9, g1, g2, g3, g4, g5⟩ := kr_loop hp8 hr n 0 zFU M8 (by omega) (by unfold zFU; omega) z8 zq.rf (fun _ _ _ _ _ => rfl) (fun q hq => absurd hq (by omega))
  have g9 : ∀ a, a ≠ 292 → a ≠ 293 → a ≠ 294 → ∀ j, M9.2.1 a j = M8.2.1 a j := fun a x y z j => by rw [(g3.2 a ⟨x, y, z⟩).1]
  refine ⟨M9, ?_, g2, (q8.wk (fun q z => by omega)).tr (g3.wk (fun q z => by omega)), fun j hj => ⟨?_, fun a x y => ?_⟩, fun a j x y z => ?_, ?_, ?_, ?_, ?_, ?_, ?_, ?_, fun q hq => ?_⟩
  · have k170 : fX9_keepRule_170 M7 279 (nI r) 301 (nI r) L.2.1 = some M9 := by
      unfold fX9_keepRule_170
      rw [zsI_f z7 (by decide) zk_301 (by rw [zl_301]; exact hr), Option.bind_some, ← hM8]
      exact g1
    have k147 : fX9_keepRule_147 M6 279 (nI r) 300 (nI r) L.1 = some M9 := by
      unfold fX9_keepRule_147
      rw [zsI_f z6 (by decide) zk_300 (by rw [zl_300]; exact hr), Option.bind_some, ← hM7, gr_279_30 z7, Option.bind_some, x9 z7, Option.bind_some, f7 279 (by omega)]
      rcases hf with ⟨e1, e2, e3⟩ | ⟨e1, e2, e3⟩
      · rw [if_pos e1]
        have : L.2.1 = 0 := by rw [e3]; rfl
        rw [← this]
        exact k170
      · rw [if_neg (by rw [e1]; decide), gr_279_5 z7, Option.bind_some, show (0 : Int32) = nI 0 from rfl, a284 z7 (by omega), Option.bind_some, f7 284 (by omega), e3.2.1]
        exact k170
    have k124 : fX9_keepRule_124 M5 279 (nI r) 299 (nI r) L.2.2 = some M9 := by
      unfold fX9_keepRule_124
      rw [zsZ_f z5 (by decide) zk_299 (by rw [zl_299]; exact hr) hL, Option.bind_some, ← hM6, gr_279_29 z6, Option.bind_some, x9 z6, Option.bind_some, f6 279 (by omega)]
      rcases hf with ⟨e1, e2, e3⟩ | ⟨e1, e2, e3⟩
      · rw [if_pos e1]
        have : L.1 = 0 := by rw [e3]; rfl
        rw [← this]
        exact k147
      · rw [if_neg (by rw [e1]; decide), gr_279_4 z6, Option.bind_some, show (0 : Int32) = nI 0 from rfl, a283 z6 (by omega), Option.bind_some, f6 283 (by omega), e3.1]
        exact k147
    have k97 : fX9_keepRule_97 M4 279 (nI r) 298 (nI r) B.2.1 = some M9 := by
      unfold fX9_keepRule_97 fX9_keepRule_119
      rw [zsI_f z4 (by decide) zk_298 (by rw [zl_298]; exact hr), Option.bind_some, ← hM5, gr_279_28 z5, Option.bind_some, x9 z5, Option.bind_some, f5 279 (by omega)]
      rcases hf with ⟨e1, e2, e3⟩ | ⟨e1, e2, e3⟩
      · rw [if_pos e1]
        have : L.2.2 = 1 := by rw [e3]; rfl
        rw [← this]
        exact k124
      · rw [if_neg (by rw [e1]; decide), gr_279_3 z5, Option.bind_some, show zaI M5 12 282 0 = _ from a282 (d := 0) z5 (by omega), Option.bind_some, f5 282 (by omega), e3.2.2]
        rcases hL with e | e
        · rw [if_pos e]
          rw [e] at k124
          exact k124
        · rw [if_neg (by rw [e]; decide)]
          rw [e] at k124
          exact k124
    have k71 : fX9_keepRule_71 M3 279 (nI r) 297 (nI r) B.1 = some M9 := by
      unfold fX9_keepRule_71
      rw [zsI_f z3 (by decide) zk_297 (by rw [zl_297]; exact hr), Option.bind_some, ← hM4, gr_279_27 z4, Option.bind_some, x9 z4, Option.bind_some, f4 279 (by omega)]
      rcases hf with ⟨e1, e2, e3⟩ | ⟨e1, e2, e3⟩
      · rw [if_pos e1, gr_279_5 z4, Option.bind_some, show (0 : Int32) = nI 0 from rfl, a284 z4 (by omega), Option.bind_some, f4 284 (by omega), e2.2.1]
        exact k97
      · rw [if_neg (by rw [e1]; decide), x9 z4, Option.bind_some, f4 279 (by omega), e2.2.1]
        exact k97
    have k45 : fX9_keepRule_45 M2 279 (nI r) 296 (nI r) B.2.2 = some M9 := by
      unfold fX9_keepRule_45
      rw [zsZ_f z2 (by decide) zk_296 (by rw [zl_296]; exact hr) hB, Option.bind_some, ← hM3, gr_279_26 z3, Option.bind_some, x9 z3, Option.bind_some, f3 279 (by omega)]
      rcases hf with ⟨e1, e2, e3⟩ | ⟨e1, e2, e3⟩
      · rw [if_pos e1, gr_279_4 z3, Option.bind_some, show (0 : Int32) = nI 0 from rfl, a283 z3 (by omega), Option.bind_some, f3 283 (by omega), e2.1]
        exact k71
      · rw [if_neg (by rw [e1]; decide), x9 z3, Option.bind_some, f3 279 (by omega), e2.1]
        exact k71
    unfold fX9_keepRule
    rw [gr_279_20 h, Option.bind_some, x9 h, Option.bind_some, hp.1, zsI_f h (by decide) zk_291 (by rw [zl_291]; exact hr), Option.bind_some, ← hM1, gr_279_24 z1, Option.bind_some, x9 z1, Option.bind_some, f1 279 (by omega), zsZ_f z1 (by decide) zk_295 (by rw [zl_295]; exact hr) h16, Option.bind_some, ← hM2, gr_279_25 z2, Option.bind_some, x9 z2, Option.bind_some, f2 279 (by omega)]
    rcases hf with ⟨e1, e2, e3⟩ | ⟨e1, e2, e3⟩
    · rw [if_pos e1, gr_279_3 z2, Option.bind_some, show (0 : Int32) = nI 0 from rfl, a282 z2 (by omega), Option.bind_some, f2 282 (by omega), e2.2.2]
      exact k45
    · rw [if_neg (by rw [e1]; decide), x9 z2, Option.bind_some, f2 279 (by omega), e2.2.2]
      exact k45
  · rw [g9 291 (by omega) (by omega) (by omega), rd]
    simp [hj]
  · rw [g9 a (by omega) (by omega) (by omega), rd]
    simp [hj]
  · rw [g4 a j x y z, rd, if_neg (by omega), if_neg (by omega), if_neg (by omega), if_neg (by omega), if_neg (by omega), if_neg (by omega), if_neg (by omega), if_neg (by omega)]
  · rw [g9 291 (by omega) (by omega) (by omega), rd]; simp
  · rw [g9 297 (by omega) (by omega) (by omega), rd]; simp
  · rw [g9 298 (by omega) (by omega) (by omega), rd]; simp
  · rw [g9 296 (by omega) (by omega) (by omega), rd]; simp
  · rw [g9 300 (by omega) (by omega) (by omega), rd]; simp
  · rw [g9 301 (by omega) (by omega) (by omega), rd]; simp
  · rw [g9 299 (by omega) (by omega) (by omega), rd]; simp
  · have := g5 q hq
    rw [f8 289 (by omega), f8 290 (by omega)] at this
    exact this
