/-! ===== the class's analyse() ===== -/
/-- what analyse() of kind k leaves as it is -/
def kfa (k : Nat) : Nat → Prop := fun q => kfr k q ∧ q ≠ 10 + 48 * k
theorem kfa_m {k q : Nat} (hk : k < 3) (h : q < 8 ∨ 152 ≤ q) : kfa k q := ⟨kfr_m hk h, by omega⟩
theorem kfa_r {k k' p i : Nat} (hk : k < 3) (hk' : k' < 3) (hp : p < 5) (hi : 1 ≤ i ∧ i ≤ 6) : kfa k (zra k' p + i) := by
  refine ⟨kfr_r hk hk' hp hi, ?_⟩
  unfold zra
  rcases (show k = 0 ∨ k = 1 ∨ k = 2 by omega) with rfl | rfl | rfl <;> rcases (show k' = 0 ∨ k' = 1 ∨ k' = 2 by omega) with rfl | rfl | rfl <;> omega
theorem aLk_pos {M : Mem} {cl : Nat → Int32} {k len pos R : Nat} (h : aLk M cl k len pos R) : 1 ≤ R := by
  obtain ⟨f, -, rfl⟩ := h
  exact amx_pos f 5
theorem aLk_b {M : Mem} {cl : Nat → Int32} {k len pos R : Nat} (hl : len ≤ 100) (hp : pos ≤ len) (h : aLk M cl k len pos R) : pos + R ≤ len + 1 := by
  obtain ⟨f, f1, rfl⟩ := h
  have := amx_le (f := f) (B := len + 1 - pos) (by omega) 5 (fun q hq => by
    obtain ⟨n, n1, n2, n3⟩ := f1 q hq
    rcases n3 with ⟨-, e⟩ | ⟨-, e⟩
    · omega
    · have := aFr_le hp e
      omega)
  omega
theorem aSg_b {M : Mem} {cl : Nat → Int32} {k len pos S : Nat} (hp : pos < len) (h : aSg M cl k len pos S) : pos + S ≤ len := by
  obtain ⟨f, f1, rfl⟩ := h
  have := amx_le (f := f) (B := len - pos) (by omega) 5 (fun q hq => by
    obtain ⟨n, n1, n2, n3⟩ := f1 q hq
    rcases n3 with ⟨-, e⟩ | ⟨-, e⟩
    · omega
    · have := aLn_le (by omega) e
      omega)
  omega
/-- the state of kind k in the class, N segments behind s analysed -/
def cSt (M0 Mr : Mem) (cl : Nat → Int32) (M : Mem) (k len s N : Nat) (q : Nat → Nat) : Prop :=
  zO M ∧ zq (kfa k) M0 M ∧ (∀ p, p < 5 → ∃ w1 w2, zWt M (zra k p) w1 w2) ∧ M.2.1 (8 + 48 * k) 2 = nI N ∧ (∀ x, x < s ∨ q N ≤ x → M.2.1 (10 + 48 * k) x = M0.2.1 (10 + 48 * k) x) ∧ (∀ j, j < N → ∃ R, M.2.1 (10 + 48 * k) (q j) = nI R ∧ aLk Mr cl k len (q j) R) ∧ (∀ x, s ≤ x → x < q N → (∀ j, j < N → x ≠ q j) → M.2.1 (10 + 48 * k) x = 0)
/-- the inner loop: zeros up to behind -/
theorem zero_loop {M0 : Mem} {k : Nat} (hk : k < 3) {k29 : Mem → Nat → Nat → Int32 → Int32 → Int32 → Option Mem} {x3 x4 : Int32} {w B : Nat} (hB : B ≤ 100) : ∀ d x fuel M, x + d = B → d < fuel → zO M → M.2.1 (8 + 48 * k) 2 = nI w → zq (fun a => a ≠ 10 + 48 * k) M0 M → (∀ y, M.2.1 (10 + 48 * k) y = if x - (x - B) ≤ y ∧ False then 0 else M.2.1 (10 + 48 * k) y) →
    ∃ M', fX2_analyse_87L k29 fuel M (8 + 48 * k) 1 x3 x4 (nI x) (nI B) = k29 (zwI M' (8 + 48 * k) 2 (nI (w + 1))) (8 + 48 * k) 1 x3 x4 (nI B) ∧ zO M' ∧ zq (fun a => a ≠ 10 + 48 * k) M M' ∧ M'.2.2 = M.2.2 ∧ ∀ y, M'.2.1 (10 + 48 * k) y = if x ≤ y ∧ y < B then 0 else M.2.1 (10 + 48 * k) y := by
  obtain ⟨z1, z2, z3, z4, z5, z6, z7, z8⟩ := zkind hk
  intro d
  induction d with
  | zero =>
    intro x fuel M hd hf hM hw hq _
    obtain ⟨f, rfl⟩ : ∃ f, fuel = f + 1 := ⟨fuel - 1, by omega⟩
    show ∃ M', fX2_analyse_87 k29 (fX2_analyse_87L k29 f) M (8 + 48 * k) 1 x3 x4 (nI x) (nI B) = _ ∧ _
    unfold fX2_analyse_87
    rw [if_pos (show nI B ≤ nI x by rw [nI_leN (by omega) (by omega)]; omega), zgI_f hM (by omega) z1, Option.bind_some, hw, nI_1, zpI_f hM (by omega) z1, Option.bind_some, show x = B by omega]
    exact ⟨M, rfl, hM, zq.rf, rfl, fun y => by rw [if_neg (by omega)]⟩
  | succ d ih =>
    intro x fuel M hd hf hM hw hq _
    obtain ⟨f, rfl⟩ : ∃ f, fuel = f + 1 := ⟨fuel - 1, by omega⟩
    show ∃ M', fX2_analyse_87 k29 (fX2_analyse_87L k29 f) M (8 + 48 * k) 1 x3 x4 (nI x) (nI B) = _ ∧ _
    unfold fX2_analyse_87
    rw [if_neg (show ¬ nI B ≤ nI x by rw [nI_leN (by omega) (by omega)]; omega), zgR_f hM (by omega) z1 z7, Option.bind_some, zsI_f hM (by omega) z3 (by rw [z5]; omega), Option.bind_some, zlt_e, nI_1]
    have hA : zO (zwI M (10 + 48 * k) x 0) := hM
    obtain ⟨M', a1, a2, a3, a4, a5⟩ := ih (x + 1) f (zwI M (10 + 48 * k) x 0) (by omega) (by omega) hA (by rw [zw_I, if_neg (by omega)]; exact hw) (hq.tr zq_wI) (fun y => by rw [if_neg (fun z => z.2)])
    refine ⟨M', a1, a2, zq_wI.tr a3, a4, fun y => ?_⟩
    rw [a5 y, zw_I]
    by_cases e : y = x
    · subst e
      rw [if_neg (by omega), if_pos ⟨rfl, rfl⟩, if_pos (by omega)]
    · rw [if_neg (show ¬ (10 + 48 * k = 10 + 48 * k ∧ y = x) from fun z => e z.2)]
      by_cases h2 : x + 1 ≤ y ∧ y < B
      · rw [if_pos h2, if_pos (by omega)]
      · rw [if_neg h2, if_neg (by omega)]
theorem cana_loop {M0 Mr : Mem} {cl : Nat → Int32} {c : Nat → Nat} {k len s : Nat} (hk : k < 3) (hR : iRs M0 Mr k) (hx : cTx M0 len c) (hcl : ∀ t, t < len → cl t = nI (c t)) {known : Nat} (hkn : known ≤ 1000) : ∀ d i fuel M (q : Nat → Nat), q i + d = len → d < fuel → cSt M0 Mr cl M k len s i q → q 0 = s → (∀ j, j < i → q j < len ∧ ¬ (known ≤ q j ∧ M0.2.1 (10 + 48 * k) (q j) ≠ 0) ∧ ∃ S, aSg Mr cl k len (q j) S ∧ 1 ≤ S ∧ q (j + 1) = q j + S) → s + i ≤ q i →
    ∃ M' N q', fX2_analyse_29L fuel M (8 + 48 * k) 1 (nI known) (nI len) (nI (q i)) = some M' ∧ cSt M0 Mr cl M' k len s N q' ∧ aChn Mr cl k len (fun x => known ≤ x ∧ M0.2.1 (10 + 48 * k) x ≠ 0) s N q' := by
  have hl : len ≤ 100 := hx.2.1
  obtain ⟨z1, z2, z3, z4, z5, z6, z7, z8⟩ := zkind hk
  intro d
  induction d using Nat.strongRecOn with
  | ind d ih =>
    intro i fuel M q hd hf hs h0 hc hi
    obtain ⟨f, rfl⟩ : ∃ f, fuel = f + 1 := ⟨fuel - 1, by omega⟩
    show ∃ M' N q', fX2_analyse_29 (fX2_analyse_29L f) M (8 + 48 * k) 1 (nI known) (nI len) (nI (q i)) = some M' ∧ _
    have hsM := hs
    obtain ⟨s1, s2, s3, s4, s5, s6, s7⟩ := hs
    -- one more segment
    have go : q i < len → ¬ (known ≤ q i ∧ M0.2.1 (10 + 48 * k) (q i) ≠ 0) → ∃ M' N q', fX2_analyse_52 (fX2_analyse_29L f) M (8 + 48 * k) 1 (nI known) (nI len) (nI (q i)) = some M' ∧ cSt M0 Mr cl M' k len s N q' ∧ aChn Mr cl k len (fun x => known ≤ x ∧ M0.2.1 (10 + 48 * k) x ≠ 0) s N q' := by
      intro hlt hns
      have hRM : iRs M Mr k := fun p hp => iRule_mv s2 (fun j h1 h2 => kfa_r hk hk hp ⟨h1, h2⟩) (s3 p hp) (hR p hp)
      have hxM : cTx M len c := hx.mv s2 (kfa_m hk (by omega)) (kfa_m hk (by omega)) (kfa_m hk (by omega))
      obtain ⟨M1, a1, a2, a3, a4, a5, S, R, a6, a7, a8, a9⟩ := meas_ok s1 hk hRM hxM hcl (pos := q i) (by omega)
      have hSp := aSg_pos a8
      have hSl := aSg_b hlt a8
      have hRb := aLk_b hl (by omega) a9
      have hmin : (if nI (q i + S) < nI len then nI (q i + S) else nI len) = nI (q i + S) := by
        by_cases e : q i + S < len
        · rw [if_pos (show nI (q i + S) < nI len by rw [nI_ltN (by omega) (by omega)]; exact e)]
        · rw [if_neg (show ¬ nI (q i + S) < nI len by rw [nI_ltN (by omega) (by omega)]; exact e), show len = q i + S by omega]
      unfold fX2_analyse_52
      have hA : zO (zwI M1 (10 + 48 * k) (q i) (nI R)) := a2
      rw [zck_f s1 (by omega) z1, Option.bind_some, a1, Option.bind_some, zgI_f a2 (by omega) z1, Option.bind_some, a6, nI_add, zlt_e, hmin, zgR_f a2 (by omega) z1 z7, Option.bind_some, zgI_f a2 (by omega) z1, Option.bind_some, a7, zsI_f a2 (by omega) z3 (by rw [z5]; omega), Option.bind_some, zlt_e, nI_1]
      obtain ⟨M2, b1, b2, b3, b4, b5⟩ := zero_loop (M0 := zwI M1 (10 + 48 * k) (q i) (nI R)) hk (k29 := fX2_analyse_29L f) (x3 := nI known) (x4 := nI len) (w := i) (B := q i + S) (by omega) (q i + S - (q i + 1)) (q i + 1) zFU (zwI M1 (10 + 48 * k) (q i) (nI R)) (by omega) (by unfold zFU; omega) hA (by rw [zw_I, if_neg (by omega), a5, s4]) zq.rf (fun y => by rw [if_neg (fun z => z.2)])
      rw [b1]
      -- the state behind it
      have hq2 : zq (kfa k) M0 (zwI M2 (8 + 48 * k) 2 (nI (i + 1))) := s2.tr ((a3.wk (fun q z => z.1)).tr ((zq_wI.wk (fun q z => z.2)).tr ((b3.wk (fun q z => z.2)).tr (zq_wI.wk (fun q z => z.1.1)))))
      have e10 : ∀ y, (zwI M2 (8 + 48 * k) 2 (nI (i + 1))).2.1 (10 + 48 * k) y = if q i + 1 ≤ y ∧ y < q i + S then 0 else if y = q i then nI R else M.2.1 (10 + 48 * k) y := by
        intro y
        have em : M1.2.1 (10 + 48 * k) = M.2.1 (10 + 48 * k) := (a3.2 _ (by
          refine ⟨by omega, fun p hp => ?_⟩
          unfold zra
          omega)).1
        rw [zw_I, if_neg (by omega), b5 y, zw_I, em]
        simp only [true_and]
      have fin := ih (d - S) (by omega) (i + 1) f (zwI M2 (8 + 48 * k) 2 (nI (i + 1))) (fun j => if j = i + 1 then q i + S else q j) (by simp only [if_pos]; omega) (by omega) ⟨b2, hq2, fun p hp => ?_, by rw [zw_I, if_pos ⟨rfl, rfl⟩], fun x hx' => ?_, fun j hj => ?_, fun x h1 h2 h3 => ?_⟩ (by simp only [show ¬ (0 = i + 1) by omega, if_false]; exact h0) (fun j hj => ?_) (by simp only [if_pos]; omega)
      · simp only [if_pos] at fin
        exact fin
      · obtain ⟨w1, w2, hW⟩ := a4 p hp
        refine ⟨w1, w2, ?_⟩
        show M2.2.2 (zra k p) 5 = some w1 ∧ M2.2.2 (zra k p) 6 = some w2 ∧ _
        rw [b4]
        exact hW
      · simp only [if_pos] at hx'
        rw [e10, if_neg (by omega)]
        by_cases e : x = q i
        · omega
        · rw [if_neg e]
          exact s5 x (by omega)
      · rcases Nat.lt_or_ge j i with w | w
        · have hlt2 : q j < q i := by
            have : ∀ b, b ≤ i → j < b → q j < q b := by
              intro b
              induction b with
              | zero => intro _ h; omega
              | succ b ihb =>
                intro g1 g2
                obtain ⟨-, -, S', -, t1, t2⟩ := hc b (by omega)
                rcases Nat.lt_or_ge j b with w' | w'
                · have := ihb (by omega) w'
                  omega
                · rw [show j = b by omega]
                  omega
            exact this i (Nat.le_refl _) w
          simp only [show ¬ (j = i + 1) by omega, if_false]
          rw [e10, if_neg (by omega), if_neg (by omega)]
          exact s6 j w
        · have e : j = i := by omega
          subst e
          simp only [show ¬ (j = j + 1) by omega, if_false]
          rw [e10, if_neg (by omega), if_pos rfl]
          exact ⟨R, rfl, a9⟩
      · simp only [if_pos] at h2
        rw [e10]
        by_cases e1 : q i + 1 ≤ x ∧ x < q i + S
        · rw [if_pos e1]
        · rw [if_neg e1]
          have hne : x ≠ q i := by
            have := h3 i (by omega)
            simp only [show ¬ (i = i + 1) by omega, if_false] at this
            exact this
          rw [if_neg hne]
          exact s7 x h1 (by omega) (fun j hj => by
            have := h3 j (by omega)
            simp only [show ¬ (j = i + 1) by omega, if_false] at this
            exact this)
      · rcases Nat.lt_or_ge j i with w | w
        · have := hc j w
          simp only [show ¬ (j = i + 1) by omega, show ¬ (j + 1 = i + 1) by omega, if_false]
          exact this
        · have e : j = i := by omega
          subst e
          simp only [show ¬ (j = j + 1) by omega, if_false, if_pos]
          exact ⟨hlt, hns, S, a8, hSp, rfl⟩
    unfold fX2_analyse_29
    by_cases he : q i = len
    · rw [if_pos (show nI len ≤ nI (q i) by rw [he]; exact Int32.le_refl _)]
      exact ⟨M, i, q, rfl, hsM, h0, hc, Or.inl he⟩
    · rw [if_neg (show ¬ nI len ≤ nI (q i) by rw [nI_leN (by omega) (by omega)]; omega)]
      by_cases hk1 : q i < known
      · rw [if_pos (show nI (q i) < nI known by rw [nI_ltN (by omega) (by omega)]; exact hk1)]
        exact go (by omega) (fun z => by omega)
      · rw [if_neg (show ¬ nI (q i) < nI known by rw [nI_ltN (by omega) (by omega)]; exact hk1), zgR_f s1 (by omega) z1 z7, Option.bind_some, zaI_f s1 (by omega) z3 (by rw [z5]; omega), Option.bind_some, s5 (q i) (Or.inr (Nat.le_refl _))]
        by_cases hz : M0.2.1 (10 + 48 * k) (q i) = 0
        · rw [if_pos hz]
          exact go (by omega) (fun z => z.2 hz)
        · rw [if_neg hz]
          exact ⟨M, i, q, rfl, hsM, h0, hc, Or.inr ⟨by omega, by omega, hz⟩⟩
theorem cana_ok {M Mr : Mem} (h : zO M) {cl : Nat → Int32} {c : Nat → Nat} {k len s known : Nat} (hk : k < 3) (hR : iRs M Mr k) (hx : cTx M len c) (hcl : ∀ t, t < len → cl t = nI (c t)) (hkn : known ≤ 1000) (hs : s ≤ len) :
    ∃ M' N q, fX2_analyse M (8 + 48 * k) 1 (nI s) (nI known) = some M' ∧ cSt M Mr cl M' k len s N q ∧ aChn Mr cl k len (fun x => known ≤ x ∧ M.2.1 (10 + 48 * k) x ≠ 0) s N q := by
  have hl : len ≤ 100 := hx.2.1
  have hlen : M.2.1 2 1 = nI len := hx.1
  obtain ⟨z1, z2, z3, z4, z5, z6, z7, z8⟩ := zkind hk
  have hA : zO (zwI M (8 + 48 * k) 2 0) := h
  unfold fX2_analyse
  have e1 : (if nI 100 < nI len then nI 100 else nI len) = nI len := by
    rw [if_neg (show ¬ nI 100 < nI len by rw [nI_ltN (by omega) (by omega)]; omega)]
  have e2 : (if (0 : Int32) < nI s then nI s else 0) = nI s := by
    by_cases hz : s = 0
    · subst hz
      rfl
    · rw [if_pos (show (0 : Int32) < nI s by rw [show (0 : Int32) = nI 0 from rfl, nI_ltN (by omega) (by omega)]; omega)]
  rw [gr_1_0 h, Option.bind_some, zgI_f h (by decide) zk_2, Option.bind_some, hlen, zgR_f h (by omega) z1 z7, Option.bind_some, zal_f h (by omega) z3, Option.bind_some, z5, zlt_e, zlt_e, e1, e2, zpI_f h (by omega) z1, Option.bind_some]
  have hq : zq (kfa k) M (zwI M (8 + 48 * k) 2 0) := zq_wI.wk (fun q z => z.1.1)
  have e10 : ∀ y, (zwI M (8 + 48 * k) 2 0).2.1 (10 + 48 * k) y = M.2.1 (10 + 48 * k) y := fun y => by rw [zw_I, if_neg (by omega)]
  exact cana_loop hk hR hx hcl hkn (len - s) 0 zFU (zwI M (8 + 48 * k) 2 0) (fun _ => s) (by omega) (by unfold zFU; omega) ⟨h, hq, fun p hp => (hR p hp).1, by rw [zw_I, if_pos ⟨rfl, rfl⟩]; rfl, fun x _ => e10 x, fun j hj => absurd hj (by omega), fun x h1 (h2 : x < s) => by omega⟩ rfl (fun j hj => absurd hj (by omega)) (by omega)
