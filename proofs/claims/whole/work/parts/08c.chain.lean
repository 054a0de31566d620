/-! ===== a chain of segments, and the model's analyse() ===== -/
/-- from s on, segments are analysed one after the other, N of them, at q 0, q 1 ..; it ends at the text's end, or where stop holds -/
def aChn (M : Mem) (cl : Nat → Int32) (k len : Nat) (stop : Nat → Prop) (s N : Nat) (q : Nat → Nat) : Prop :=
  q 0 = s ∧ (∀ i, i < N → q i < len ∧ ¬ stop (q i) ∧ ∃ S, aSg M cl k len (q i) S ∧ 1 ≤ S ∧ q (i + 1) = q i + S) ∧ (q N = len ∨ (q N < len ∧ stop (q N)))
theorem aSg_pos {M : Mem} {cl : Nat → Int32} {k len pos S : Nat} (h : aSg M cl k len pos S) : 1 ≤ S := by
  obtain ⟨f, -, rfl⟩ := h
  exact amx_pos f 5
theorem aChn_i {M : Mem} {cl : Nat → Int32} {k len : Nat} {stop : Nat → Prop} {s N : Nat} {q : Nat → Nat} (h : aChn M cl k len stop s N q) : ∀ i, i ≤ N → s + i ≤ q i
  | 0, _ => by rw [h.1]; exact Nat.le_refl _
  | i + 1, hi => by
    have ih := aChn_i h i (by omega)
    obtain ⟨-, -, S, -, h1, h2⟩ := h.2.1 i (by omega)
    omega
theorem aChn_lt {M : Mem} {cl : Nat → Int32} {k len : Nat} {stop : Nat → Prop} {s N : Nat} {q : Nat → Nat} (h : aChn M cl k len stop s N q) {i j : Nat} (hij : i < j) (hj : j ≤ N) : q i < q j := by
  induction j with
  | zero => omega
  | succ j ih =>
    obtain ⟨-, -, S, -, h1, h2⟩ := h.2.1 j (by omega)
    rcases Nat.lt_or_ge i j with w | w
    · have := ih w (by omega)
      omega
    · rw [show i = j by omega]
      omega
/-- where the same rules hold, the chain is the same -/
theorem aChn_u {M : Mem} {cl : Nat → Int32} {k len : Nat} {stop stop' : Nat → Prop} {s N N' : Nat} {q q' : Nat → Nat} (h : aChn M cl k len stop s N q) (h' : aChn M cl k len stop' s N' q') (hs : ∀ x, x < len → (stop x ↔ stop' x)) : N = N' ∧ ∀ i, i ≤ N → q i = q' i := by
  have key : ∀ i, i ≤ N → i ≤ N' → q i = q' i := by
    intro i
    induction i with
    | zero =>
      intro _ _
      rw [h.1, h'.1]
    | succ i ih =>
      intro h1 h2
      obtain ⟨-, -, S, a1, -, a2⟩ := h.2.1 i (by omega)
      obtain ⟨-, -, S', b1, -, b2⟩ := h'.2.1 i (by omega)
      have e := ih (by omega) (by omega)
      rw [← e] at b1
      have := aSg_u a1 b1
      omega
  have hN : N = N' := by
    rcases Nat.lt_trichotomy N N' with w | w | w
    · obtain ⟨c1, c2, -⟩ := h'.2.1 N w
      have e := key N (Nat.le_refl _) (by omega)
      rw [← e] at c1 c2
      rcases h.2.2 with d | ⟨d1, d2⟩
      · omega
      · exact absurd ((hs _ d1).mp d2) c2
    · exact w
    · obtain ⟨c1, c2, -⟩ := h.2.1 N' w
      have e := key N' (by omega) (Nat.le_refl _)
      rw [e] at c1 c2
      rcases h'.2.2 with d | ⟨d1, d2⟩
      · omega
      · exact absurd ((hs _ d1).mpr d2) c2
  exact ⟨hN, fun i hi => key i hi (by omega)⟩
theorem aChn_mv {M M' : Mem} {Q : Nat → Prop} (hq : zq Q M M') (hQ : ∀ q, 291 ≤ q → q ≤ 301 → Q q) {cl : Nat → Int32} {k len : Nat} {stop : Nat → Prop} {s N : Nat} {q : Nat → Nat} : aChn M' cl k len stop s N q = aChn M cl k len stop s N q := by
  unfold aChn
  simp only [aSg_mv hq hQ]
theorem aTx_mv {M M' : Mem} {Q : Nat → Prop} (hq : zq Q M M') (h1 : Q 279) (h2 : Q 302) {len : Nat} (h : aTx M len) : aTx M' len := by
  unfold aTx at *
  rw [(hq.2 279 h1).1, (hq.2 302 h2).1]
  exact h
theorem aRs_mv {M M' : Mem} {Q : Nat → Prop} (hq : zq Q M M') (h1 : Q 291) (h2 : Q 299) (h : aRs M) : aRs M' := by
  unfold aRs at *
  rw [(hq.2 291 h1).1, (hq.2 299 h2).1]
  exact h
/-- the model's cells that hold raw boundaries and work -/
abbrev mrw : Nat → Prop := fun a => a ≠ 303 ∧ a ≠ 304 ∧ a ≠ 305
theorem mrw_l {q : Nat} (h : q ≤ 302) : mrw q := ⟨by omega, by omega, by omega⟩
/-- append() -/
theorem app_ok {M : Mem} (h : zO M) {k m : Nat} (hk : k < 3) (hm : M.2.1 303 k = nI m) (hm2 : m < 101) (x : Int32) : fX9_append M 279 (nI k) x = some (zwI (zwI M 304 (101 * k + m) x) 303 k (nI (m + 1))) := by
  unfold fX9_append
  have hA : zO (zwI M 304 (101 * k + m) x) := h
  have e3 : (zwI M 304 (101 * k + m) x).2.1 303 k = M.2.1 303 k := by rw [zw_I, if_neg (by omega)]
  rw [gr_279_34 h, Option.bind_some, gr_279_33 h, Option.bind_some, zaI_f h (by decide) zk_303 (by rw [zl_303]; exact hk), Option.bind_some, hm, show (101 : Int32) = nI 101 from rfl, pk_mul, nI_add, zsI_f h (by decide) zk_304 (by rw [zl_304]; omega), Option.bind_some, gr_279_33 hA, Option.bind_some, zaI_f hA (by decide) zk_303 (by rw [zl_303]; exact hk), Option.bind_some, e3, hm, nI_1, zsI_f hA (by decide) zk_303 (by rw [zl_303]; exact hk), Option.bind_some]
/-- what the model's cells say of kind k: m raw boundaries b 0 .., the work w; other kinds as in M0 -/
def mSt (M0 M : Mem) (k m : Nat) (b : Nat → Nat) (w : Nat) : Prop :=
  zO M ∧ zq mrw M0 M ∧ M.2.1 303 k = nI m ∧ (∀ i, i < m → M.2.1 304 (101 * k + i) = nI (b i)) ∧ M.2.1 305 k = nI w ∧ (∀ k', k' < 3 → k' ≠ k → M.2.1 303 k' = M0.2.1 303 k' ∧ M.2.1 305 k' = M0.2.1 305 k' ∧ ∀ i, i < 101 → M.2.1 304 (101 * k' + i) = M0.2.1 304 (101 * k' + i))
theorem mSt_app {M0 M : Mem} {k m w : Nat} {b : Nat → Nat} (hk : k < 3) (h : mSt M0 M k m b w) (hm : m < 101) {x : Nat} : ∃ M', fX9_append M 279 (nI k) (nI x) = some M' ∧ mSt M0 M' k (m + 1) (fun i => if i = m then x else b i) w := by
  obtain ⟨h1, h2, h3, h4, h5, h6⟩ := h
  refine ⟨_, app_ok h1 hk h3 hm (nI x), h1, h2.tr ((zq_wI.wk (fun q z => z.2.1)).tr (zq_wI.wk (fun q z => z.1))), ?_, fun i hi => ?_, ?_, fun k' hk' hne => ⟨?_, ?_, fun i hi => ?_⟩⟩
  · rw [zw_I, if_pos ⟨rfl, rfl⟩]
  · rw [zw_I, if_neg (by omega), zw_I]
    by_cases e : i = m
    · rw [if_pos ⟨rfl, by omega⟩]
      simp only [e, if_pos]
    · rw [if_neg (by omega)]
      simp only [if_neg e]
      exact h4 i (by omega)
  · rw [zw_I, if_neg (by omega), zw_I, if_neg (by omega)]
    exact h5
  · rw [zw_I, if_neg (by omega), zw_I, if_neg (by omega)]
    exact (h6 k' hk' hne).1
  · rw [zw_I, if_neg (by omega), zw_I, if_neg (by omega)]
    exact (h6 k' hk' hne).2.1
  · rw [zw_I, if_neg (by omega), zw_I, if_neg (by omega)]
    exact (h6 k' hk' hne).2.2 i hi
theorem mSt_w {M0 M : Mem} {k m w : Nat} {b : Nat → Nat} (hk : k < 3) (h : mSt M0 M k m b w) (w' : Nat) : mSt M0 (zwI M 305 k (nI w')) k m b w' := by
  obtain ⟨h1, h2, h3, h4, h5, h6⟩ := h
  refine ⟨h1, h2.tr (zq_wI.wk (fun q z => z.2.2)), ?_, fun i hi => ?_, ?_, fun k' hk' hne => ⟨?_, ?_, fun i hi => ?_⟩⟩
  · rw [zw_I, if_neg (by omega)]; exact h3
  · rw [zw_I, if_neg (by omega)]; exact h4 i hi
  · rw [zw_I, if_pos ⟨rfl, rfl⟩]
  · rw [zw_I, if_neg (by omega)]; exact (h6 k' hk' hne).1
  · rw [zw_I, if_neg (by omega)]; exact (h6 k' hk' hne).2.1
  · rw [zw_I, if_neg (by omega)]; exact (h6 k' hk' hne).2.2 i hi
theorem mSt_cg {M0 M : Mem} {k m w : Nat} {b b' : Nat → Nat} (h : mSt M0 M k m b w) (e : ∀ i, i < m → b i = b' i) : mSt M0 M k m b' w := by
  obtain ⟨h1, h2, h3, h4, h5, h6⟩ := h
  exact ⟨h1, h2, h3, fun i hi => by rw [← e i hi]; exact h4 i hi, h5, h6⟩
/-- analyse(): all of the text -/
theorem mana_loop {M0 : Mem} {k len : Nat} (hk : k < 3) (hR : aRs M0) (hx : aTx M0 len) : ∀ d i fuel M (q : Nat → Nat), q i + d = len → d < fuel → mSt M0 M k (i + 1) q i → q 0 = 0 → (∀ j, j < i → q j < len ∧ ∃ S, aSg M0 (aCl M0) k len (q j) S ∧ 1 ≤ S ∧ q (j + 1) = q j + S) → i ≤ q i →
    ∃ M' N q', fX9_analyse_22L fuel M 279 (nI k) (nI (q i)) = some M' ∧ mSt M0 M' k (N + 1) q' N ∧ aChn M0 (aCl M0) k len (fun _ => False) 0 N q' := by
  have hl := hx.2.1
  intro d
  induction d using Nat.strongRecOn with
  | ind d ih =>
    intro i fuel M q hd hf hs h0 hc hi
    obtain ⟨f, rfl⟩ : ∃ f, fuel = f + 1 := ⟨fuel - 1, by omega⟩
    show ∃ M' N q', fX9_analyse_22 (fX9_analyse_22L f) M 279 (nI k) (nI (q i)) = some M' ∧ _
    have hsM := hs
    obtain ⟨s1, s2, s3, s4, s5, s6⟩ := hs
    have hxM := aTx_mv s2 (mrw_l (by decide)) (mrw_l (by decide)) hx
    have hRM := aRs_mv s2 (mrw_l (by decide)) (mrw_l (by decide)) hR
    unfold fX9_analyse_22
    rw [zgI_f s1 (by decide) zk_279, Option.bind_some, hxM.1]
    by_cases he : q i = len
    · rw [if_pos (show nI len ≤ nI (q i) by rw [he]; exact Int32.le_refl _)]
      exact ⟨M, i, q, rfl, hsM, h0, fun j hj => ⟨(hc j hj).1, id, (hc j hj).2⟩, Or.inl he⟩
    · rw [if_neg (show ¬ nI len ≤ nI (q i) by rw [nI_leN (by omega) (by omega)]; omega), zck_f s1 (by decide) zk_279, Option.bind_some]
      obtain ⟨S, S1, S2, S3⟩ := seg_ok s1 hRM hk hxM (pos := q i) (by omega)
      have hSp := aSg_pos S2
      have hSl := S3 (by omega)
      rw [S1, Option.bind_some]
      dsimp only
      rw [zlt_e, nI_add, zck_f s1 (by decide) zk_279, Option.bind_some]
      obtain ⟨M1, a1, a2⟩ := mSt_app hk hsM (by omega) (x := q i + S)
      rw [a1, Option.bind_some, gr_279_35 a2.1, Option.bind_some, zaI_f a2.1 (by decide) zk_305 (by rw [zl_305]; exact hk), Option.bind_some, a2.2.2.2.2.1, nI_1, zsI_f a2.1 (by decide) zk_305 (by rw [zl_305]; exact hk), Option.bind_some]
      have hS0 : aSg M0 (aCl M0) k len (q i) S := by
        rw [← aSg_mv s2 (fun q h1 h2 => mrw_l (by omega)), ← aCl_mv s2 (mrw_l (by decide)) (mrw_l (by decide))]
        exact S2
      have fin := ih (d - S) (by omega) (i + 1) f (zwI M1 305 k (nI (i + 1))) (fun j => if j = i + 1 then q i + S else q j) (by simp only [if_pos]; omega) (by omega) (mSt_w hk a2 (i + 1)) (by simp only [show ¬ (0 = i + 1) by omega, if_false]; exact h0) (fun j hj => by
        rcases Nat.lt_or_ge j i with w | w
        · have := hc j w
          simp only [show ¬ (j = i + 1) by omega, show ¬ (j + 1 = i + 1) by omega, if_false]
          exact this
        · have e : j = i := by omega
          subst e
          simp only [show ¬ (j = j + 1) by omega, if_false, if_pos]
          exact ⟨by omega, S, hS0, hSp, rfl⟩) (by simp only [if_pos]; omega)
      simp only [if_pos] at fin
      exact fin
theorem mana_ok {M : Mem} (h : zO M) {k len : Nat} (hk : k < 3) (hR : aRs M) (hx : aTx M len) : ∃ M' N q, fX9_analyse M 279 (nI k) = some M' ∧ mSt M M' k (N + 1) q N ∧ aChn M (aCl M) k len (fun _ => False) 0 N q := by
  unfold fX9_analyse
  rw [show (0 : Int32) = nI 0 from rfl]
  have hA : zO (zwI M 303 k (nI 0)) := h
  have e3 : (zwI M 303 k (nI 0)).2.1 303 k = nI 0 := by rw [zw_I, if_pos ⟨rfl, rfl⟩]
  rw [gr_279_33 h, Option.bind_some, zsI_f h (by decide) zk_303 (by rw [zl_303]; exact hk), Option.bind_some, zck_f hA (by decide) zk_279, Option.bind_some, app_ok hA hk e3 (by omega) (nI 0), Option.bind_some]
  have hB : zO (zwI (zwI (zwI M 303 k (nI 0)) 304 (101 * k + 0) (nI 0)) 303 k (nI (0 + 1))) := h
  rw [gr_279_35 hB, Option.bind_some, zsI_f hB (by decide) zk_305 (by rw [zl_305]; exact hk), Option.bind_some]
  refine mana_loop hk hR hx len 0 zFU _ (fun _ => 0) (by omega) (by have := hx.2.1; unfold zFU; omega) ⟨h, ?_, ?_, fun i hi => ?_, ?_, fun k' hk' hne => ⟨?_, ?_, fun i hi => ?_⟩⟩ rfl (fun j hj => absurd hj (by omega)) (by omega)
  · exact (zq_wI.wk (fun q z => z.1)).tr ((zq_wI.wk (fun q z => z.2.1)).tr ((zq_wI.wk (fun q z => z.1)).tr (zq_wI.wk (fun q z => z.2.2))))
  · rw [zw_I, if_neg (by omega), zw_I, if_pos ⟨rfl, rfl⟩]
  · rw [zw_I, if_neg (by omega), zw_I, if_neg (by omega), zw_I, if_pos ⟨rfl, by omega⟩]
  · rw [zw_I, if_pos ⟨rfl, rfl⟩]
  · rw [zw_I, if_neg (by omega), zw_I, if_neg (by omega), zw_I, if_neg (by omega), zw_I, if_neg (by omega)]
  · rw [zw_I, if_neg (by omega), zw_I, if_neg (by omega), zw_I, if_neg (by omega), zw_I, if_neg (by omega)]
  · rw [zw_I, if_neg (by omega), zw_I, if_neg (by omega), zw_I, if_neg (by omega), zw_I, if_neg (by omega)]
