/-! ===== what an analysis looks at: it depends on nothing else ===== -/
theorem aMt_cg {W W' : Nat → Int32} {c m : Int32} : ∀ {k : Nat}, (∀ q, q < k → W q = W' q) → aMt W c m k = aMt W' c m k
  | 0, _ => rfl
  | k + 1, h => by
    simp only [aMt]
    rw [aMt_cg (fun q hq => h q (by omega)), h k (by omega)]
theorem aU_loc {W F : Nat → Int32} {n : Nat} {cl cl' : Nat → Int32} {bf bl bn lf : Int32} {p p' : Nat} : ∀ t, (∀ u, u < t → cl (p + u) = cl' (p' + u)) → aU W F n cl bf bl bn lf p t = aU W F n cl' bf bl bn lf p' t
  | 0, _ => rfl
  | t + 1, h => by
    simp only [aU]
    rw [aU_loc t (fun u hu => h u (by omega)), h t (by omega)]
theorem aV_loc {W F : Nat → Int32} {n : Nat} {cl cl' : Nat → Int32} {bf bl bn lf : Int32} {p p' t : Nat} (h : ∀ u, u ≤ t → cl (p + u) = cl' (p' + u)) : aV W F n cl bf bl bn lf p t = aV W F n cl' bf bl bn lf p' t := by
  unfold aV
  rw [aU_loc t (fun u hu => h u (by omega)), h t (by omega)]
/-- one that ended before the place -/
theorem aRR_pre {M : Mem} {cl cl' : Nat → Int32} {r len len' pos R pl : Nat} (hp : pos + R ≤ pl) (h1 : pl ≤ len) (h2 : pl ≤ len') (hc : ∀ t, t < pl → cl t = cl' t) (h : aRR M cl r len pos R) : aRR M cl' r len' pos R := by
  obtain ⟨n, n1, n2, n3⟩ := h
  refine ⟨n, n1, n2, ?_⟩
  rcases n3 with e | ⟨e1, e2⟩
  · exact Or.inl e
  · refine Or.inr ⟨e1, ?_⟩
    rcases e2 with ⟨t, a1, a2, a3, rfl⟩ | ⟨-, a2⟩
    · refine Or.inl ⟨t, by omega, ?_, fun t' ht' => ?_, rfl⟩
      · rw [← a2]
        exact (aV_loc (fun u hu => hc _ (by omega))).symm
      · intro e
        apply a3 t' ht'
        rw [← e]
        exact aV_loc (fun u hu => hc _ (by omega))
    · omega
/-- one of what lies behind -/
theorem aRR_suf {M : Mem} {cl cl' : Nat → Int32} {r len len' pos pos' R : Nat} (hl : len + pos' = len' + pos) (hp : pos ≤ len) (hc : ∀ t, pos + t < len → cl (pos + t) = cl' (pos' + t)) (h : aRR M cl r len pos R) : aRR M cl' r len' pos' R := by
  obtain ⟨n, n1, n2, n3⟩ := h
  refine ⟨n, n1, n2, ?_⟩
  rcases n3 with e | ⟨e1, e2⟩
  · exact Or.inl e
  · refine Or.inr ⟨e1, ?_⟩
    rcases e2 with ⟨t, a1, a2, a3, rfl⟩ | ⟨a1, rfl⟩
    · refine Or.inl ⟨t, by omega, ?_, fun t' ht' => ?_, rfl⟩
      · rw [← a2]
        exact (aV_loc (fun u hu => hc _ (by omega))).symm
      · intro e
        apply a3 t' ht'
        rw [← e]
        exact aV_loc (fun u hu => hc _ (by omega))
    · refine Or.inr ⟨fun t ht => ?_, by omega⟩
      intro e
      apply a1 t (by omega)
      rw [← e]
      exact aV_loc (fun u hu => hc _ (by omega))
theorem amx_ge (f : Nat → Nat) : ∀ k q, q < k → f q ≤ amx f k
  | 0, q, h => absurd h (by omega)
  | k + 1, q, h => by
    simp only [amx]
    rcases Nat.lt_or_ge q k with w | w
    · have := amx_ge f k q w
      omega
    · rw [show q = k by omega]
      omega
theorem aLk_pre {M : Mem} {cl cl' : Nat → Int32} {k len len' pos R pl : Nat} (hp : pos + R ≤ pl) (h1 : pl ≤ len) (h2 : pl ≤ len') (hc : ∀ t, t < pl → cl t = cl' t) (h : aLk M cl k len pos R) : aLk M cl' k len' pos R := by
  obtain ⟨f, f1, rfl⟩ := h
  exact ⟨f, fun p hp' => aRR_pre (by have := amx_ge f 5 p hp'; omega) h1 h2 hc (f1 p hp'), rfl⟩
theorem aLk_suf {M : Mem} {cl cl' : Nat → Int32} {k len len' pos pos' R : Nat} (hl : len + pos' = len' + pos) (hp : pos ≤ len) (hc : ∀ t, pos + t < len → cl (pos + t) = cl' (pos' + t)) (h : aLk M cl k len pos R) : aLk M cl' k len' pos' R := by
  obtain ⟨f, f1, rfl⟩ := h
  exact ⟨f, fun p hp' => aRR_suf hl hp hc (f1 p hp'), rfl⟩
theorem aLk_cl {M : Mem} {cl cl' : Nat → Int32} {k len pos R : Nat} (hp : pos ≤ len) (hc : ∀ t, t < len → cl t = cl' t) (h : aLk M cl k len pos R) : aLk M cl' k len pos R := aLk_suf (by omega) hp (fun t ht => hc _ ht) h
/-- the segment too: it depends on the text from its position on -/
theorem aS_loc {W F : Nat → Int32} {n : Nat} {cl cl' : Nat → Int32} {m0 : Int32} {p p' : Nat} : ∀ t, (∀ u, u < t → cl (p + u) = cl' (p' + u)) → aS W F n cl m0 p t = aS W F n cl' m0 p' t
  | 0, _ => rfl
  | t + 1, h => by
    simp only [aS]
    rw [aS_loc t (fun u hu => h u (by omega)), h t (by omega)]
theorem aT_loc {W F : Nat → Int32} {n : Nat} {cl cl' : Nat → Int32} {m0 : Int32} {p p' t : Nat} (h : ∀ u, u ≤ t → cl (p + u) = cl' (p' + u)) : aT W F n cl m0 p t = aT W F n cl' m0 p' t := by
  unfold aT
  rw [aS_loc t (fun u hu => h u (by omega)), h t (by omega)]
theorem aAh_cl {W F : Nat → Int32} {n : Nat} {cl cl' : Nat → Int32} {lf ll ln : Int32} {len p : Nat} (hc : ∀ t, t < len → cl t = cl' t) : aAh W F n cl lf ll ln len p = aAh W F n cl' lf ll ln len p := by
  unfold aAh
  apply propext
  constructor
  · rintro (e | ⟨j, j1, j2⟩)
    · exact Or.inl e
    · refine Or.inr ⟨j, j1, ?_⟩
      rw [← aT_loc (cl := cl) (p := p) (fun u hu => hc _ (by omega))]
      exact j2
  · rintro (e | ⟨j, j1, j2⟩)
    · exact Or.inl e
    · refine Or.inr ⟨j, j1, ?_⟩
      rw [aT_loc (cl' := cl') (p' := p) (fun u hu => hc _ (by omega))]
      exact j2
theorem aSg_cl {M : Mem} {cl cl' : Nat → Int32} {k len pos S : Nat} (hc : ∀ t, t < len → cl t = cl' t) (h : aSg M cl k len pos S) : aSg M cl' k len pos S := by
  obtain ⟨f, f1, rfl⟩ := h
  refine ⟨f, fun p hp => ?_, rfl⟩
  obtain ⟨n, n1, n2, n3⟩ := f1 p hp
  refine ⟨n, n1, n2, ?_⟩
  rcases n3 with e | ⟨e1, e2, e3⟩
  · exact Or.inl e
  · refine Or.inr ⟨e1, ?_, fun L' l1 l2 l3 => ?_⟩
    · rcases e2 with e | ⟨c1, c2, c3, c4⟩
      · exact Or.inl e
      · refine Or.inr ⟨c1, c2, ?_, ?_⟩
        · rw [← aT_loc (cl := cl) (p := pos) (fun u hu => hc _ (by omega))]
          exact c3
        · rw [← aAh_cl hc]
          exact c4
    · rw [← aAh_cl hc]
      refine e3 L' l1 l2 ?_
      rw [aT_loc (cl' := cl') (p' := pos) (fun u hu => hc _ (by omega))]
      exact l3
theorem aChn_cl {M : Mem} {cl cl' : Nat → Int32} {k len : Nat} {stop : Nat → Prop} {s N : Nat} {q : Nat → Nat} (hc : ∀ t, t < len → cl t = cl' t) (h : aChn M cl k len stop s N q) : aChn M cl' k len stop s N q := by
  refine ⟨h.1, fun i hi => ?_, h.2.2⟩
  obtain ⟨a1, a2, S, a3, a4⟩ := h.2.1 i hi
  exact ⟨a1, a2, S, aSg_cl hc a3, a4⟩
/-- a segment ends within what was looked at -/
theorem ln_fr {n sg : Nat} {bf bl bn lf ll ln : Int32} {F W Tk : Nat → Int32} {l : Nat → Prop} (G : aOk n sg bf bl lf ll F W Tk l) {cl : Nat → Int32} {len p L R : Nat} (hp : p ≤ len) (h : aLn W F n cl bf bl lf ll ln len p L) (h' : aFr (aV W F n cl bf bl bn lf p) len p R) : L ≤ R := by
  rcases h.1 with e | ⟨c1, c2, c3, -⟩
  · omega
  · rcases h' with ⟨t, a1, a2, -, rfl⟩ | ⟨-, rfl⟩
    · rcases Nat.lt_or_ge (t + 1) L with w | w
      · exfalso
        have e := ((ap_V G t).mp a2).1
        have e2 : aS W F n cl bf p (t + 1) = 0 := by rw [aS_s, e, aNx_0]
        have e3 := aS_0 e2 (L - 1 - (t + 1))
        rw [show t + 1 + (L - 1 - (t + 1)) = L - 1 by omega] at e3
        apply c3
        rw [aT_0 e3]
        simp
      · exact w
    · omega
theorem amx_mo {f g : Nat → Nat} : ∀ k, (∀ q, q < k → f q ≤ g q) → amx f k ≤ amx g k
  | 0, _ => Nat.le_refl _
  | k + 1, h => by
    have := amx_mo k (fun q hq => h q (by omega))
    have := h k (by omega)
    simp only [amx]
    omega
theorem sg_lk {M Mr : Mem} {cl : Nat → Int32} {k len pos S R : Nat} (hR : iRs M Mr k) (hp : pos ≤ len) (h : aSg Mr cl k len pos S) (h' : aLk Mr cl k len pos R) : S ≤ R := by
  obtain ⟨f, f1, rfl⟩ := h
  obtain ⟨g, g1, rfl⟩ := h'
  refine amx_mo 5 (fun q hq => ?_)
  obtain ⟨n, n1, n2, n3⟩ := f1 q hq
  obtain ⟨n', m1, m2, m3⟩ := g1 q hq
  have e : n = n' := nI_inj (by omega) (by omega) (n2.symm.trans m2)
  subst e
  rcases n3 with ⟨a1, a2⟩ | ⟨a1, a2⟩
  · omega
  · rcases m3 with ⟨b1, b2⟩ | ⟨b1, b2⟩
    · omega
    · obtain ⟨-, n', c1, c2, c3, c4, c5⟩ := hR q hq
      have e : n = n' := nI_inj (by omega) (by omega) (n2.symm.trans c3)
      subst e
      obtain ⟨d1, d2, d3, d4, d5, d6, d7, d8, sg, l, G⟩ := c5 a1
      rw [← aLn_cg (F := kF M (zra k q)) d8, ← d1, ← d2, ← d4, ← d5, ← d6] at a2
      rw [← aV_cg (F := kF M (zra k q)) d8, ← d1, ← d2, ← d3, ← d4] at b2
      exact ln_fr G hp a2 b2
