/-! ===== the model's repair() ===== -/
/-- how positions move: those from ko on come to lie from kn on -/
def shf (sh : Int32) (kn ko : Nat) : Prop := (∀ x, kn ≤ x → x ≤ 100 → nI x - sh = nI (x + ko - kn)) ∧ (∀ v x, v ≤ 100 → kn ≤ x → x ≤ 100 → (nI v + sh ≤ nI x) = (v + kn ≤ x + ko)) ∧ (∀ v, v ≤ 100 → ko ≤ v → nI v + sh = nI (v + kn - ko))
theorem shf_in {n pl : Nat} (h : pl + n ≤ 100) : shf (nI n) (pl + n) pl := by
  refine ⟨fun x h1 h2 => ?_, fun v x h1 h2 h3 => ?_, fun v h1 h2 => ?_⟩
  · rw [pk_sub (by omega)]
    congr 1
    omega
  · rw [nI_add, nI_leN (by omega) (by omega)]
    exact propext (by omega)
  · rw [nI_add]
    congr 1
    omega
theorem nI_ng {v n : Nat} (hn : n ≤ 1000) (h : v < n) : nI v + -(nI n) < 0 := by
  have e : nI v + -(nI n) = -(nI (n - v)) := by
    rw [show nI n = nI v + nI (n - v) by rw [nI_add]; congr 1; omega]
    rw [Int32.neg_add, Int32.sub_eq_add_neg, ← Int32.add_assoc, Int32.add_right_neg, Int32.zero_add]
  rw [e]
  have h2 : ∀ m : Nat, 1 ≤ m → m ≤ 1000 → -(nI m) < 0 := by
    intro m h1 h2
    rw [Int32.lt_iff_toInt_lt]
    have e2 : (nI m).toInt = m := by
      show (Int32.ofNat m).toInt = m
      exact Int32.toInt_ofNat_of_lt (by omega)
    rw [Int32.toInt_neg, e2]
    simp only [Int32.toInt_zero]
    rw [Int.bmod_eq_of_le (by omega) (by omega)]
    omega
  exact h2 _ (by omega) (by omega)
theorem shf_out {n pl : Nat} (h : pl + n ≤ 100) : shf (-(nI n)) pl (pl + n) := by
  refine ⟨fun x h1 h2 => ?_, fun v x h1 h2 h3 => ?_, fun v h1 h2 => ?_⟩
  · rw [Int32.sub_neg, nI_add]
    congr 1
    omega
  · rcases Nat.lt_or_ge v n with w | w
    · have hn := nI_ng (show n ≤ 1000 by omega) w
      have hp : (0 : Int32) ≤ nI x := nI_pos' (by omega)
      have : nI v + -(nI n) ≤ nI x := Int32.le_trans (Int32.le_of_lt hn) hp
      exact propext ⟨fun _ => by omega, fun _ => this⟩
    · rw [← Int32.sub_eq_add_neg, pk_sub w, nI_leN (by omega) (by omega)]
      exact propext (by omega)
  · rw [← Int32.sub_eq_add_neg, pk_sub (by omega)]
    congr 1
    omega
/-- wasRaw() -/
theorem was_loop {M : Mem} (h : zO M) {cnt : Nat} {B : Nat → Nat} (hc : cnt ≤ 101) (hB : ∀ i, i < cnt → M.2.1 307 i = nI (B i) ∧ B i ≤ 1000) {x : Nat} (hx : x ≤ 1000) : ∀ d i fuel, i + d = cnt → d < fuel → (∀ j, j < i → B j ≠ x) →
    ∃ v, fX9_wasRaw_3L fuel M 307 (nI cnt) (nI x) (nI i) = some (v, M) ∧ ((v = 1 ∧ ∃ j, j < cnt ∧ B j = x) ∨ (v = 0 ∧ ∀ j, j < cnt → B j ≠ x)) := by
  intro d
  induction d with
  | zero =>
    intro i fuel hd hf hi
    obtain ⟨f, rfl⟩ : ∃ f, fuel = f + 1 := ⟨fuel - 1, by omega⟩
    show ∃ v, fX9_wasRaw_3 (fX9_wasRaw_3L f) M 307 (nI cnt) (nI x) (nI i) = _ ∧ _
    unfold fX9_wasRaw_3
    rw [if_pos (show nI cnt ≤ nI i by rw [nI_leN (by omega) (by omega)]; omega), zrt_0]
    exact ⟨0, rfl, Or.inr ⟨rfl, fun j hj => hi j (by omega)⟩⟩
  | succ d ih =>
    intro i fuel hd hf hi
    obtain ⟨f, rfl⟩ : ∃ f, fuel = f + 1 := ⟨fuel - 1, by omega⟩
    show ∃ v, fX9_wasRaw_3 (fX9_wasRaw_3L f) M 307 (nI cnt) (nI x) (nI i) = _ ∧ _
    unfold fX9_wasRaw_3
    rw [if_neg (show ¬ nI cnt ≤ nI i by rw [nI_leN (by omega) (by omega)]; omega), zaI_f h (by decide) zk_307 (by rw [zl_307]; omega), Option.bind_some, (hB i (by omega)).1]
    by_cases e : B i = x
    · rw [if_pos (by rw [e]), zrt_1]
      exact ⟨1, rfl, Or.inl ⟨rfl, i, by omega, e⟩⟩
    · rw [if_neg (fun z => e (nI_inj (hB i (by omega)).2 hx z)), zlt_e, nI_1]
      exact ih (i + 1) f (by omega) (by omega) (fun j hj => by
        rcases Nat.lt_or_ge j i with w | w
        · exact hi j w
        · rw [show j = i by omega]
          exact e)
/-- what was raw is kept aside, and all behind the start is dropped -/
theorem rp_copy {M0 : Mem} {k len N i0 : Nat} {b : Nat → Nat} (hk : k < 3) (hl : len ≤ 100) (hK : mB M0 k len N b) (hi0 : M0.2.1 306 k = nI i0) (hi1 : i0 ≤ N) {kn sh : Int32} : ∀ d i fuel M, i + d = N + 1 → d < fuel → zO M → zq (fun a => a ≠ 307) M0 M → (∀ j, j < i → M.2.1 307 j = nI (b j)) →
    ∃ M', zO M' ∧ zq (fun a => a ≠ 307) M0 M' ∧ (∀ j, j < N + 1 → M'.2.1 307 j = nI (b j)) ∧ fX9_repair_11L fuel M 279 (nI k) kn sh (nI (N + 1)) (nI i) = fX9_repair_72L zFU (zwI (zwI M' 303 k (nI (i0 + 1))) 305 k (nI 0)) 279 (nI k) kn sh (nI (N + 1)) (nI (b i0)) := by
  have hN := mB_n hK hl
  intro d
  induction d with
  | zero =>
    intro i fuel M hd hf hM hq hi
    obtain ⟨f, rfl⟩ : ∃ f, fuel = f + 1 := ⟨fuel - 1, by omega⟩
    refine ⟨M, hM, hq, fun j hj => hi j (by omega), ?_⟩
    show fX9_repair_11 (fX9_repair_11L f) M 279 (nI k) kn sh (nI (N + 1)) (nI i) = _
    unfold fX9_repair_11
    have e306 : M.2.1 306 k = nI i0 := by rw [(hq.2 306 (by decide)).1]; exact hi0
    have hA : zO (zwI M 303 k (nI (i0 + 1))) := hM
    have hB : zO (zwI (zwI M 303 k (nI (i0 + 1))) 305 k (nI 0)) := hM
    have eB : (zwI (zwI M 303 k (nI (i0 + 1))) 305 k (nI 0)).2.1 306 k = nI i0 := by rw [zw_I, if_neg (by omega), zw_I, if_neg (by omega)]; exact e306
    have eC : (zwI (zwI M 303 k (nI (i0 + 1))) 305 k (nI 0)).2.1 304 (101 * k + i0) = nI (b i0) := by
      rw [zw_I, if_neg (by omega), zw_I, if_neg (by omega), (hq.2 304 (by decide)).1]
      exact hK.1.2 i0 hi1
    rw [if_pos (show nI (N + 1) ≤ nI i by rw [nI_leN (by omega) (by omega)]; omega), gr_279_33 hM, Option.bind_some, gr_279_36 hM, Option.bind_some, zaI_f hM (by decide) zk_306 (by rw [zl_306]; exact hk), Option.bind_some, e306, nI_1, zsI_f hM (by decide) zk_303 (by rw [zl_303]; exact hk), Option.bind_some, gr_279_35 hA, Option.bind_some, show (0 : Int32) = nI 0 from rfl, zsI_f hA (by decide) zk_305 (by rw [zl_305]; exact hk), Option.bind_some, gr_279_36 hB, Option.bind_some, zaI_f hB (by decide) zk_306 (by rw [zl_306]; exact hk), Option.bind_some, zck_f hB (by decide) zk_279, Option.bind_some, eB, raw_ok hB hk (by omega), Option.bind_some, eC]
  | succ d ih =>
    intro i fuel M hd hf hM hq hi
    obtain ⟨f, rfl⟩ : ∃ f, fuel = f + 1 := ⟨fuel - 1, by omega⟩
    show ∃ M', zO M' ∧ zq (fun a => a ≠ 307) M0 M' ∧ (∀ j, j < N + 1 → M'.2.1 307 j = nI (b j)) ∧ fX9_repair_11 (fX9_repair_11L f) M 279 (nI k) kn sh (nI (N + 1)) (nI i) = _
    unfold fX9_repair_11
    have eR : M.2.1 304 (101 * k + i) = nI (b i) := by
      rw [(hq.2 304 (by decide)).1]
      exact hK.1.2 i (by omega)
    rw [if_neg (show ¬ nI (N + 1) ≤ nI i by rw [nI_leN (by omega) (by omega)]; omega), gr_279_37 hM, Option.bind_some, zck_f hM (by decide) zk_279, Option.bind_some, raw_ok hM hk (by omega), Option.bind_some]
    dsimp only
    rw [zsI_f hM (by decide) zk_307 (by rw [zl_307]; omega), Option.bind_some, zlt_e, nI_1, eR]
    exact ih (i + 1) f (zwI M 307 i (nI (b i))) (by omega) (by omega) hM (hq.tr zq_wI) (fun j hj => by
      rw [zw_I]
      by_cases e : j = i
      · rw [if_pos ⟨rfl, e⟩, e]
      · rw [if_neg (fun z => e z.2)]
        exact hi j (by omega))
/-- those behind are put on again, moved -/
theorem rp_tail {M0 : Mem} {k len len' N i0 kn ko n j1 : Nat} {b q : Nat → Nat} {sh : Int32} (hk : k < 3) (hl : len ≤ 100) (hl' : len' ≤ 100) (hx : aTx M0 len') (b0 : b 0 = 0) (b1 : ∀ i, i < N → b i < b (i + 1)) (b2 : b N = len) (h307 : ∀ j, j < N + 1 → M0.2.1 307 j = nI (b j)) (hi0 : i0 ≤ N) (hs : b i0 ≤ kn) (hsh : shf sh kn ko) (hle : len' + ko = len + kn) (hT : aTr M0 (aCl M0) k len' N b i0 kn ko n q j1) : ∀ d j fuel M, j + d = N + 1 → d < fuel → mSt M0 M k (i0 + n + 1 + (j - (j1 + 1))) (nxB b q i0 n j1 kn ko) n →
    ∃ M', fX9_repair_139L fuel M 279 (nI k) sh (nI (N + 1)) (nI (q n)) (nI j) = some M' ∧ mSt M0 M' k (i0 + n + (N - j1) + 1) (nxB b q i0 n j1 kn ko) n := by
  obtain ⟨n1, n2, n3, n4, n5⟩ := nxB_ok b0 b1 b2 hi0 hle hs hT
  have hNN : N ≤ 100 := by have := inc_ge b1 N (Nat.le_refl _); omega
  obtain ⟨c1, c2, c3, c4⟩ := hT
  have hqn : q n ≤ 100 := by
    rcases c1.2.2 with e | ⟨e, -⟩ <;> omega
  intro d
  induction d with
  | zero =>
    intro j fuel M hd hf hS
    obtain ⟨f, rfl⟩ : ∃ f, fuel = f + 1 := ⟨fuel - 1, by omega⟩
    show ∃ M', fX9_repair_139 (fX9_repair_139L f) M 279 (nI k) sh (nI (N + 1)) (nI (q n)) (nI j) = some M' ∧ _
    unfold fX9_repair_139
    rw [if_pos (show nI (N + 1) ≤ nI j by rw [nI_leN (by omega) (by omega)]; omega)]
    refine ⟨M, rfl, ?_⟩
    rw [show i0 + n + (N - j1) + 1 = i0 + n + 1 + (j - (j1 + 1)) by omega]
    exact hS
  | succ d ih =>
    intro j fuel M hd hf hS
    obtain ⟨f, rfl⟩ : ∃ f, fuel = f + 1 := ⟨fuel - 1, by omega⟩
    show ∃ M', fX9_repair_139 (fX9_repair_139L f) M 279 (nI k) sh (nI (N + 1)) (nI (q n)) (nI j) = some M' ∧ _
    have hM := hS.1
    have hq := hS.2.1
    have e307 : M.2.1 307 j = nI (b j) := by
      rw [(hq.2 307 (by decide)).1]
      exact h307 j (by omega)
    have e31 : M.2.1 279 31 = nI len' := by
      rw [(hq.2 279 (by decide)).1]
      exact hx.1
    have hbj : b j ≤ 100 := by
      have := inc_le b1 (show N ≤ N by omega) (show j ≤ N by omega)
      omega
    unfold fX9_repair_139
    rw [if_neg (show ¬ nI (N + 1) ≤ nI j by rw [nI_leN (by omega) (by omega)]; omega), gr_279_37 hM, Option.bind_some, zaI_f hM (by decide) zk_307 (by rw [zl_307]; omega), Option.bind_some, e307]
    by_cases hj : j ≤ j1
    · have hle2 := inc_le b1 c2 hj
      rw [if_pos (show nI (b j) + sh ≤ nI (q n) by rw [hsh.2.1 (b j) (q n) hbj c4 hqn]; omega)]
      unfold fX9_repair_183
      rw [zlt_e, nI_1]
      refine ih (j + 1) f M (by omega) (by omega) ?_
      rw [show j + 1 - (j1 + 1) = j - (j1 + 1) by omega]
      exact hS
    · have hlt := inc_lt b1 j (by omega) (show j1 < j by omega)
      have hlt2 := inc_le b1 (show N ≤ N by omega) (show j ≤ N by omega)
      have e5 := n5 (j - j1) (by omega)
      rw [show j1 + (j - j1) = j by omega] at e5
      rw [if_neg (show ¬ nI (b j) + sh ≤ nI (q n) by rw [hsh.2.1 (b j) (q n) hbj c4 hqn]; omega), zgI_f hM (by decide) zk_279, Option.bind_some, e31, if_neg (show ¬ nI len' ≤ nI (q n) by rw [nI_leN (by omega) (by omega)]; omega), Option.bind_some, zaI_f hM (by decide) zk_307 (by rw [zl_307]; omega), Option.bind_some, e307, zck_f hM (by decide) zk_279, Option.bind_some, hsh.2.2 (b j) hbj (by omega)]
      have hcap : i0 + n + 1 + (j - (j1 + 1)) < 101 := by
        have g1 := inc_ge n2 (i0 + n + (j - j1)) (by omega)
        have g2 := inc_le n2 (show i0 + n + (N - j1) ≤ i0 + n + (N - j1) by omega) (show i0 + n + (j - j1) ≤ i0 + n + (N - j1) by omega)
        omega
      obtain ⟨M1, a1, a2⟩ := mSt_app hk hS hcap (x := b j + kn - ko)
      rw [a1, Option.bind_some]
      unfold fX9_repair_183
      rw [zlt_e, nI_1]
      refine ih (j + 1) f M1 (by omega) (by omega) ?_
      rw [show i0 + n + 1 + (j + 1 - (j1 + 1)) = i0 + n + 1 + (j - (j1 + 1)) + 1 by omega]
      refine mSt_cg a2 (fun i hi => ?_)
      by_cases e : i = i0 + n + 1 + (j - (j1 + 1))
      · simp only [if_pos e]
        rw [e, show i0 + n + 1 + (j - (j1 + 1)) = i0 + n + (j - j1) by omega]
        omega
      · simp only [if_neg e]
theorem rp_loop {M0 : Mem} {k len len' N i0 kn ko : Nat} {b : Nat → Nat} {sh : Int32} (hk : k < 3) (hl : len ≤ 100) (hR : aRs M0) (hx : aTx M0 len') (b0 : b 0 = 0) (b1 : ∀ i, i < N → b i < b (i + 1)) (b2 : b N = len) (h307 : ∀ j, j < N + 1 → M0.2.1 307 j = nI (b j)) (hi0 : i0 ≤ N) (hs : b i0 ≤ kn) (hko : ko ≤ len) (hsh : shf sh kn ko) (hle : len' + ko = len + kn) : ∀ d i fuel M (q : Nat → Nat), q i + d = len' → d < fuel → mSt M0 M k (i0 + i + 1) (fun j => if j < i0 then b j else q (j - i0)) i → q 0 = b i0 → (∀ j, j < i → q j < len' ∧ ¬ (kn ≤ q j ∧ ∃ j', j' ≤ N ∧ b j' + kn = q j + ko) ∧ ∃ S, aSg M0 (aCl M0) k len' (q j) S ∧ 1 ≤ S ∧ q (j + 1) = q j + S) → b i0 + i ≤ q i →
    ∃ M' n q' j1, fX9_repair_72L fuel M 279 (nI k) (nI kn) sh (nI (N + 1)) (nI (q i)) = some M' ∧ mSt M0 M' k (i0 + n + (N - j1) + 1) (nxB b q' i0 n j1 kn ko) n ∧ aTr M0 (aCl M0) k len' N b i0 kn ko n q' j1 := by
  have hl' := hx.2.1
  have hNN : N ≤ 100 := by have := inc_ge b1 N (Nat.le_refl _); omega
  have hbi0 := inc_ge b1 i0 hi0
  intro d
  induction d using Nat.strongRecOn with
  | ind d ih =>
    intro i fuel M q hd hf hS h0 hc hi
    obtain ⟨f, rfl⟩ : ∃ f, fuel = f + 1 := ⟨fuel - 1, by omega⟩
    show ∃ M' n q' j1, fX9_repair_72 (fX9_repair_72L f) M 279 (nI k) (nI kn) sh (nI (N + 1)) (nI (q i)) = some M' ∧ _
    have hSM := hS
    obtain ⟨s1, s2, s3, s4, s5, s6⟩ := hS
    have hxM := aTx_mv s2 (mrw_l (by decide)) (mrw_l (by decide)) hx
    have hRM := aRs_mv s2 (mrw_l (by decide)) (mrw_l (by decide)) hR
    -- the end
    have stop : ∀ j1, j1 ≤ N → b j1 + kn = q i + ko → kn ≤ q i → (q i = len' ∨ (q i < len' ∧ kn ≤ q i ∧ ∃ j', j' ≤ N ∧ b j' + kn = q i + ko)) → ∃ M' n q' j1, fX9_repair_136 M 279 (nI k) sh (nI (N + 1)) (nI (q i)) = some M' ∧ mSt M0 M' k (i0 + n + (N - j1) + 1) (nxB b q' i0 n j1 kn ko) n ∧ aTr M0 (aCl M0) k len' N b i0 kn ko n q' j1 := by
      intro j1 g1 g2 g3 g4
      have hT : aTr M0 (aCl M0) k len' N b i0 kn ko i q j1 := ⟨⟨h0, hc, g4⟩, g1, g2, g3⟩
      obtain ⟨n1, n2, n3, n4, n5⟩ := nxB_ok b0 b1 b2 hi0 hle hs hT
      unfold fX9_repair_136
      obtain ⟨M', e1, e2⟩ := rp_tail hk hl hl' hx b0 b1 b2 h307 hi0 hs hsh hle hT (N + 1) 0 zFU M (by omega) (by unfold zFU; omega) (by
        rw [show i0 + i + 1 + (0 - (j1 + 1)) = i0 + i + 1 by omega]
        refine mSt_cg hSM (fun j hj => ?_)
        rcases Nat.lt_or_ge j i0 with w | w
        · rw [if_pos w]
          exact (if_pos w).symm
        · rw [if_neg (by omega)]
          have := n4 (j - i0) (by omega)
          rw [show i0 + (j - i0) = j by omega] at this
          exact this.symm)
      exact ⟨M', i, q, j1, e1, e2, hT⟩
    -- one more segment
    have go : q i < len' → ¬ (kn ≤ q i ∧ ∃ j', j' ≤ N ∧ b j' + kn = q i + ko) → ∃ M' n q' j1, fX9_repair_104 (fX9_repair_72L f) M 279 (nI k) (nI kn) sh (nI (N + 1)) (nI (q i)) = some M' ∧ mSt M0 M' k (i0 + n + (N - j1) + 1) (nxB b q' i0 n j1 kn ko) n ∧ aTr M0 (aCl M0) k len' N b i0 kn ko n q' j1 := by
      intro hlt hns
      obtain ⟨S, S1, S2, S3⟩ := seg_ok s1 hRM hk hxM (pos := q i) (by omega)
      have hSp := aSg_pos S2
      have hSl := S3 (by omega)
      unfold fX9_repair_104
      rw [zck_f s1 (by decide) zk_279, Option.bind_some, S1, Option.bind_some]
      dsimp only
      rw [zlt_e, nI_add, zck_f s1 (by decide) zk_279, Option.bind_some]
      obtain ⟨M1, a1, a2⟩ := mSt_app hk hSM (by omega) (x := q i + S)
      rw [a1, Option.bind_some, gr_279_35 a2.1, Option.bind_some, zaI_f a2.1 (by decide) zk_305 (by rw [zl_305]; exact hk), Option.bind_some, a2.2.2.2.2.1, nI_1, zsI_f a2.1 (by decide) zk_305 (by rw [zl_305]; exact hk), Option.bind_some]
      have hS0 : aSg M0 (aCl M0) k len' (q i) S := by
        rw [← aSg_mv s2 (fun q h1 h2 => mrw_l (by omega)), ← aCl_mv s2 (mrw_l (by decide)) (mrw_l (by decide))]
        exact S2
      have fin := ih (d - S) (by omega) (i + 1) f (zwI M1 305 k (nI (i + 1))) (fun j => if j = i + 1 then q i + S else q j) (by simp only [if_pos]; omega) (by omega) (mSt_cg (mSt_w hk a2 (i + 1)) (fun j hj => by
        by_cases e : j = i0 + i + 1
        · rw [if_pos e, if_neg (by omega), if_pos (by omega)]
        · rw [if_neg e]
          by_cases e2 : j < i0
          · rw [if_pos e2, if_pos e2]
          · rw [if_neg e2, if_neg e2, if_neg (by omega)])) (by simp only [show ¬ (0 = i + 1) by omega, if_false]; exact h0) (fun j hj => by
        rcases Nat.lt_or_ge j i with w | w
        · have := hc j w
          simp only [show ¬ (j = i + 1) by omega, show ¬ (j + 1 = i + 1) by omega, if_false]
          exact this
        · have e : j = i := by omega
          subst e
          simp only [show ¬ (j = j + 1) by omega, if_false, if_pos]
          exact ⟨hlt, hns, S, hS0, hSp, rfl⟩) (by simp only [if_pos]; omega)
      simp only [if_pos] at fin
      exact fin
    unfold fX9_repair_72
    rw [zgI_f s1 (by decide) zk_279, Option.bind_some, hxM.1]
    by_cases he : q i = len'
    · rw [if_pos (show nI len' ≤ nI (q i) by rw [he]; exact Int32.le_refl _)]
      exact stop N (Nat.le_refl _) (by omega) (by omega) (Or.inl he)
    · rw [if_neg (show ¬ nI len' ≤ nI (q i) by rw [nI_leN (by omega) (by omega)]; omega)]
      by_cases hk1 : q i < kn
      · rw [if_pos (show nI (q i) < nI kn by rw [nI_ltN (by omega) (by omega)]; exact hk1)]
        exact go (by omega) (fun z => by omega)
      · rw [if_neg (show ¬ nI (q i) < nI kn by rw [nI_ltN (by omega) (by omega)]; exact hk1), gr_279_37 s1, Option.bind_some, zck_f s1 (by decide) zk_279, Option.bind_some, hsh.1 (q i) (by omega) (by omega)]
        obtain ⟨v, v1, v2⟩ := was_loop s1 (cnt := N + 1) (B := b) (by omega) (fun j hj => ⟨by rw [(s2.2 307 (by decide)).1]; exact h307 j hj, by have := inc_le b1 (show N ≤ N by omega) (show j ≤ N by omega); omega⟩) (x := q i + ko - kn) (by omega) (N + 1) 0 zFU (by omega) (by unfold zFU; omega) (fun j hj => absurd hj (by omega))
        unfold fX9_wasRaw
        rw [show (0 : Int32) = nI 0 from rfl, v1, Option.bind_some]
        dsimp only
        rcases v2 with ⟨rfl, j, j1, j2⟩ | ⟨rfl, hno⟩
        · rw [if_neg (by decide)]
          exact stop j (by omega) (by omega) (by omega) (Or.inr ⟨by omega, by omega, j, by omega, by omega⟩)
        · rw [if_pos (by rfl)]
          exact go (by omega) (fun ⟨_, j, j1, j2⟩ => hno j (by omega) (by omega))
theorem mrep_ok {M : Mem} (h : zO M) (hR : aRs M) {k len len' N i0 kn ko : Nat} {b : Nat → Nat} {sh : Int32} (hk : k < 3) (hl : len ≤ 100) (hx : aTx M len') (hK : mB M k len N b) (hi0 : M.2.1 306 k = nI i0) (hi1 : i0 ≤ N) (hs : b i0 ≤ kn) (hko : ko ≤ len) (hsh : shf sh kn ko) (hle : len' + ko = len + kn) :
    ∃ M' n q j1, fX9_repair M 279 (nI k) (nI kn) sh = some M' ∧ zO M' ∧ zq (fun a => mrw a ∧ a ≠ 307) M M' ∧ aTr M (aCl M) k len' N b i0 kn ko n q j1 ∧ mK M' k (i0 + n + (N - j1)) (nxB b q i0 n j1 kn ko) ∧ M'.2.1 305 k = nI n ∧ (∀ k', k' < 3 → k' ≠ k → M'.2.1 303 k' = M.2.1 303 k' ∧ M'.2.1 305 k' = M.2.1 305 k' ∧ ∀ i, i < 101 → M'.2.1 304 (101 * k' + i) = M.2.1 304 (101 * k' + i)) := by
  have hl' := hx.2.1
  have hN := mB_n hK hl
  obtain ⟨⟨c1, c2⟩, b0, b1, b2⟩ := id hK
  unfold fX9_repair
  rw [gr_279_33 h, Option.bind_some, zaI_f h (by decide) zk_303 (by rw [zl_303]; exact hk), Option.bind_some, c1]
  obtain ⟨Mc, m1, m2, m3, m4⟩ := rp_copy hk hl hK hi0 hi1 (kn := nI kn) (sh := sh) (N + 1) 0 zFU M (by omega) (by unfold zFU; omega) h zq.rf (fun j hj => absurd hj (by omega))
  rw [show (0 : Int32) = nI 0 from rfl, m4]
  have hRc := aRs_mv m2 (by decide) (by decide) hR
  have hxc := aTx_mv m2 (by decide) (by decide) hx
  have hS : mSt Mc (zwI (zwI Mc 303 k (nI (i0 + 1))) 305 k (nI 0)) k (i0 + 0 + 1) (fun j => if j < i0 then b j else (fun _ => b i0) (j - i0)) 0 := by
    refine ⟨m1, (zq_wI.wk (fun q z => z.1)).tr (zq_wI.wk (fun q z => z.2.2)), ?_, fun i hi => ?_, ?_, fun k' hk' hne => ⟨?_, ?_, fun i hi => ?_⟩⟩
    · rw [zw_I, if_neg (by omega), zw_I, if_pos ⟨rfl, rfl⟩]
    · rw [zw_I, if_neg (by omega), zw_I, if_neg (by omega), (m2.2 304 (by decide)).1, c2 i (by omega)]
      dsimp only
      rcases Nat.lt_or_ge i i0 with w | w
      · rw [if_pos w]
      · rw [if_neg (by omega), show i = i0 by omega]
    · rw [zw_I, if_pos ⟨rfl, rfl⟩]
    · rw [zw_I, if_neg (by omega), zw_I, if_neg (by omega)]
    · rw [zw_I, if_neg (by omega), zw_I, if_neg (by omega)]
    · rw [zw_I, if_neg (by omega), zw_I, if_neg (by omega)]
  obtain ⟨M', n, q, j1, e1, e2, e3⟩ := rp_loop hk hl hRc hxc b0 b1 b2 m3 hi1 hs hko hsh hle (len' - b i0) 0 zFU _ (fun _ => b i0) (by omega) (by unfold zFU; omega) hS rfl (fun j hj => absurd hj (by omega)) (by omega)
  rw [show aTr Mc (aCl Mc) k len' N b i0 kn ko n q j1 = aTr M (aCl M) k len' N b i0 kn ko n q j1 by
    unfold aTr
    rw [aChn_mv m2 (fun q h1 h2 => by omega), aCl_mv m2 (by decide) (by decide)]] at e3
  obtain ⟨g1, g2, g3, g4, g5, g6⟩ := e2
  refine ⟨M', n, q, j1, e1, g1, (m2.wk (fun a z => z.2)).tr (g2.wk (fun a z => z.1)), e3, ⟨g3, fun i hi => g4 i (by omega)⟩, g5, fun k' hk' hne => ?_⟩
  obtain ⟨f1, f2, f3⟩ := g6 k' hk' hne
  rw [(m2.2 303 (by decide)).1] at f1
  rw [(m2.2 305 (by decide)).1] at f2
  rw [(m2.2 304 (by decide)).1] at f3
  exact ⟨f1, f2, f3⟩
