/-! ===== the class looks for a fault ===== -/
theorem isr8 {c : Nat} (hc : c < 65536) : fX8_isRepetition (nI c) = some (if isr c then 1 else 0) := by
  unfold fX8_isRepetition fX8_isRepetition_18
  rw [show (42 : Int32) = nI 42 from rfl, show (43 : Int32) = nI 43 from rfl, show (63 : Int32) = nI 63 from rfl]
  by_cases e1 : c = 42
  · rw [if_pos (by rw [e1]), if_pos (Or.inl e1)]; rfl
  · rw [if_neg (show ¬ nI c = nI 42 by rw [n16e hc (by omega)]; exact e1)]
    by_cases e2 : c = 43
    · rw [if_pos (by rw [e2]), if_pos (Or.inr (Or.inl e2))]; rfl
    · rw [if_neg (show ¬ nI c = nI 43 by rw [n16e hc (by omega)]; exact e2)]
      by_cases e3 : c = 63
      · rw [if_pos (by rw [e3]), if_pos (Or.inr (Or.inr e3))]; rfl
      · rw [if_neg (show ¬ nI c = nI 63 by rw [n16e hc (by omega)]; exact e3), if_neg (show ¬ isr c by omega)]; rfl
theorem isr9 {c : Nat} (hc : c < 65536) : fX9_isRepeat (nI c) = some (if isr c then 1 else 0) := by
  unfold fX9_isRepeat fX9_isRepeat_18
  rw [show (42 : Int32) = nI 42 from rfl, show (43 : Int32) = nI 43 from rfl, show (63 : Int32) = nI 63 from rfl]
  by_cases e1 : c = 42
  · rw [if_pos (by rw [e1]), if_pos (Or.inl e1)]; rfl
  · rw [if_neg (show ¬ nI c = nI 42 by rw [n16e hc (by omega)]; exact e1)]
    by_cases e2 : c = 43
    · rw [if_pos (by rw [e2]), if_pos (Or.inr (Or.inl e2))]; rfl
    · rw [if_neg (show ¬ nI c = nI 43 by rw [n16e hc (by omega)]; exact e2)]
      by_cases e3 : c = 63
      · rw [if_pos (by rw [e3]), if_pos (Or.inr (Or.inr e3))]; rfl
      · rw [if_neg (show ¬ nI c = nI 63 by rw [n16e hc (by omega)]; exact e3), if_neg (show ¬ isr c by omega)]; rfl
def FR (n : Nat) (ch : Nat → Nat) (d b m lk i : Nat) (v : Int32) : Prop := ∀ M fu, zO M → pat M 5 n ch → n - i < fu → fX8_faultOf_12L fu M 5 (nI d) (nI b) (nI m) (nI lk) (nI i) = some (v, M)
section FR
variable {n : Nat} {ch : Nat → Nat} {d b m lk i : Nat} {v : Int32}
theorem fr_hd {M : Mem} {f : Nat} (h : zO M) (hp : pat M 5 n ch) (hi : i < n) {x1 x2 x3 x4 : Int32} : fX8_faultOf_12L (f + 1) M 5 x1 x2 x3 x4 (nI i) = if lfc (ch i) then fX8_faultOf_12L f M 5 x1 1 1 x4 (nI (i + 1)) else (if nI (ch i) = (40 : Int32) then (if (4 : Int32) ≤ x1 then (fX8_faultOf_66 (fX8_faultOf_12L f) M 5 x1 x2 x3 x4 (nI i) (nI (ch i))) else fX8_faultOf_12L f M 5 (x1 + 1) 0 0 x4 (nI (i + 1))) else (fX8_faultOf_66 (fX8_faultOf_12L f) M 5 x1 x2 x3 x4 (nI i) (nI (ch i)))) := by
  have hn := hp.2.1
  have h16 := (hp.2.2 i hi).2
  have hat := pat_at h zrow_5 (by decide +kernel) hp (i := i) (by omega)
  unfold sgn at hat
  rw [if_pos hi] at hat
  have st : fX8_faultOf_12L (f + 1) M 5 x1 x2 x3 x4 (nI i) = fX8_faultOf_12 (fX8_faultOf_12L f) M 5 x1 x2 x3 x4 (nI i) := rfl
  rw [st]
  unfold fX8_faultOf_12 fX8_faultOf_157
  rw [zgI_f h (by decide) zk_5, Option.bind_some, hp.1, if_neg (show ¬ nI n ≤ nI i by rw [nI_leN (by omega) (by omega)]; omega), zck_f h (by decide) zk_5, Option.bind_some, hat, Option.bind_some]
  dsimp only
  rw [lfd h16, Option.bind_some, nI_1]
  by_cases e : lfc (ch i)
  · rw [if_pos e, if_pos e, if_neg (show ¬ (1 : Int32) = 0 by decide)]
    rfl
  · rw [if_neg e, if_neg e, if_pos rfl]
    rfl
theorem f137 {k : Mem → Nat → Int32 → Int32 → Int32 → Int32 → Int32 → Option (Int32 × Mem)} {M : Mem} {c : Nat} {x1 x2 x4 : Int32} (hc : c < 65536) (hm : m < 1000) (h : ¬ (isr c ∧ m ≠ 0)) : fX8_faultOf_137 k M 5 x1 x2 (nI m) x4 (nI i) (nI c) = some (nI i, M) := by
  unfold fX8_faultOf_137
  rw [isr8 hc, Option.bind_some]
  by_cases e : isr c
  · rw [if_pos e, if_neg (show ¬ (1 : Int32) = 0 by decide), if_pos (show nI m = 0 by rw [nI_00 (by omega)]; exact Classical.byContradiction (fun z => h ⟨e, z⟩))]
  · rw [if_neg e, if_pos rfl]
theorem f107 {k : Mem → Nat → Int32 → Int32 → Int32 → Int32 → Int32 → Option (Int32 × Mem)} {M : Mem} {c : Nat} {x3 : Int32} (hc : c < 65536) (hb : b < 1000) (hd : d < 1000) (hl : lk < 1000) (h : ¬ (c = 47 ∧ b ≠ 0 ∧ d = 0 ∧ lk = 0)) : fX8_faultOf_107 k M 5 (nI d) (nI b) x3 (nI lk) (nI i) (nI c) = fX8_faultOf_137 k M 5 (nI d) (nI b) x3 (nI lk) (nI i) (nI c) := by
  unfold fX8_faultOf_107
  by_cases e : c = 47
  · rw [if_pos (show nI c = 47 by rw [e]; rfl)]
    by_cases e2 : b = 0
    · rw [if_pos (show nI b = 0 by rw [e2]; rfl)]
    · rw [if_neg (show ¬ nI b = 0 by rw [nI_00 (by omega)]; exact e2)]
      by_cases e3 : d = 0
      · rw [if_pos (show nI d = 0 by rw [e3]; rfl)]
        by_cases e4 : lk = 0
        · exact absurd ⟨e, e2, e3, e4⟩ h
        · rw [if_neg (show ¬ nI lk = 0 by rw [nI_00 (by omega)]; exact e4)]
      · rw [if_neg (show ¬ nI d = 0 by rw [nI_00 (by omega)]; exact e3)]
  · rw [if_neg (show ¬ nI c = (47 : Int32) from nE (x := 47) hc (by omega) (by exact e))]
theorem f89 {k : Mem → Nat → Int32 → Int32 → Int32 → Int32 → Int32 → Option (Int32 × Mem)} {M : Mem} {c : Nat} {x1 x3 x4 : Int32} (hc : c < 65536) (hb : b < 1000) (h : ¬ (c = 124 ∧ b ≠ 0)) : fX8_faultOf_89 k M 5 x1 (nI b) x3 x4 (nI i) (nI c) = fX8_faultOf_107 k M 5 x1 (nI b) x3 x4 (nI i) (nI c) := by
  unfold fX8_faultOf_89
  by_cases e : c = 124
  · rw [if_pos (show nI c = 124 by rw [e]; rfl)]
    by_cases e2 : b = 0
    · rw [if_pos (show nI b = 0 by rw [e2]; rfl)]
    · exact absurd ⟨e, e2⟩ h
  · rw [if_neg (show ¬ nI c = (124 : Int32) from nE (x := 124) hc (by omega) (by exact e))]
theorem f66 {k : Mem → Nat → Int32 → Int32 → Int32 → Int32 → Int32 → Option (Int32 × Mem)} {M : Mem} {c : Nat} {x3 x4 : Int32} (hc : c < 65536) (hb : b < 1000) (hd : d < 1000) (h : ¬ (c = 41 ∧ d ≠ 0 ∧ b ≠ 0)) : fX8_faultOf_66 k M 5 (nI d) (nI b) x3 x4 (nI i) (nI c) = fX8_faultOf_89 k M 5 (nI d) (nI b) x3 x4 (nI i) (nI c) := by
  unfold fX8_faultOf_66
  by_cases e : c = 41
  · rw [if_pos (show nI c = 41 by rw [e]; rfl)]
    by_cases e2 : d = 0
    · rw [if_pos (show nI d ≤ 0 by rw [nI_le0 (by omega)]; exact e2)]
    · rw [if_neg (show ¬ nI d ≤ 0 by rw [nI_le0 (by omega)]; exact e2)]
      by_cases e3 : b = 0
      · rw [if_pos (show nI b = 0 by rw [e3]; rfl)]
      · exact absurd ⟨e, e2, e3⟩ h
  · rw [if_neg (show ¬ nI c = (41 : Int32) from nE (x := 41) hc (by omega) (by exact e))]
theorem FR_go {d1 b1 m1 lk1 : Nat} (hi : i < n) (st : ∀ M f, zO M → pat M 5 n ch → fX8_faultOf_12L (f + 1) M 5 (nI d) (nI b) (nI m) (nI lk) (nI i) = fX8_faultOf_12L f M 5 (nI d1) (nI b1) (nI m1) (nI lk1) (nI (i + 1))) (h : FR n ch d1 b1 m1 lk1 (i + 1) v) : FR n ch d b m lk i v := by
  intro M fu hz hp hf
  obtain ⟨f, rfl⟩ : ∃ f, fu = f + 1 := ⟨fu - 1, by omega⟩
  rw [st M f hz hp]
  exact h M f hz hp (by omega)
theorem FR_leaf (hi : i < n) (hc : lfc (ch i)) (h : FR n ch d 1 1 lk (i + 1) v) : FR n ch d b m lk i v := by
  refine FR_go hi (fun M f hz hp => ?_) h
  rw [fr_hd hz hp hi, if_pos hc]
  rfl
theorem FR_open (hi : i < n) (hc : ch i = 40) (hd : d < 4) (h : FR n ch (d + 1) 0 0 lk (i + 1) v) : FR n ch d b m lk i v := by
  refine FR_go hi (fun M f hz hp => ?_) h
  rw [fr_hd hz hp hi, if_neg (show ¬ lfc (ch i) by omega), if_pos (by rw [hc]; rfl), if_neg (show ¬ (4 : Int32) ≤ nI d by rw [show (4 : Int32) = nI 4 from rfl, nI_leN (by omega) (by omega)]; omega), nI_1]
  rfl
theorem FR_close (hi : i < n) (hc : ch i = 41) (hd : d < 5) (h : FR n ch d 1 1 lk (i + 1) v) : FR n ch (d + 1) 1 m lk i v := by
  refine FR_go hi (fun M f hz hp => ?_) h
  rw [fr_hd hz hp hi, if_neg (show ¬ lfc (ch i) by omega), hc, if_neg (show ¬ nI 41 = (40 : Int32) by decide)]
  unfold fX8_faultOf_66 fX8_faultOf_157
  rw [if_pos (show nI 41 = (41 : Int32) from rfl), if_neg (show ¬ nI (d + 1) ≤ 0 by rw [nI_le0 (by omega)]; omega), if_neg (show ¬ nI 1 = 0 by decide), zlt_e, dec2, dec1, zlt_e, nI_1]
  rfl
theorem FR_bar (hi : i < n) (hc : ch i = 124) (hd : d < 5) (h : FR n ch d 0 0 lk (i + 1) v) : FR n ch d 1 m lk i v := by
  refine FR_go hi (fun M f hz hp => ?_) h
  rw [fr_hd hz hp hi, if_neg (show ¬ lfc (ch i) by omega), hc, if_neg (show ¬ nI 124 = (40 : Int32) by decide), f66 (by omega) (by omega) (by omega) (by omega)]
  unfold fX8_faultOf_89 fX8_faultOf_157
  rw [if_pos (show nI 124 = (124 : Int32) from rfl), if_neg (show ¬ nI 1 = 0 by decide), zlt_e, nI_1]
  rfl
theorem FR_slash (hi : i < n) (hc : ch i = 47) (h : FR n ch 0 0 0 1 (i + 1) v) : FR n ch 0 1 m 0 i v := by
  refine FR_go hi (fun M f hz hp => ?_) h
  rw [fr_hd hz hp hi, if_neg (show ¬ lfc (ch i) by omega), hc, if_neg (show ¬ nI 47 = (40 : Int32) by decide), f66 (by omega) (by omega) (by omega) (by omega), f89 (by omega) (by omega) (by omega)]
  unfold fX8_faultOf_107 fX8_faultOf_157
  rw [if_pos (show nI 47 = (47 : Int32) from rfl), if_neg (show ¬ nI 1 = 0 by decide), if_pos (show nI 0 = 0 from rfl), if_pos (show nI 0 = 0 from rfl), zlt_e, nI_1]
  rfl
theorem FR_rep (hi : i < n) (hc : isr (ch i)) (hd : d < 5) (hb : b < 1000) (hl : lk < 1000) (h : FR n ch d b 0 lk (i + 1) v) : FR n ch d b 1 lk i v := by
  refine FR_go hi (fun M f hz hp => ?_) h
  have h16 := (hp.2.2 i hi).2
  rw [fr_hd hz hp hi, if_neg (show ¬ lfc (ch i) by omega), if_neg (show ¬ nI (ch i) = (40 : Int32) from nE (x := 40) h16 (by omega) (by omega)), f66 h16 (by omega) (by omega) (by omega), f89 h16 (by omega) (by omega), f107 h16 (by omega) (by omega) (by omega) (by omega)]
  unfold fX8_faultOf_137 fX8_faultOf_157
  rw [isr8 h16, Option.bind_some, if_pos hc, if_neg (show ¬ (1 : Int32) = 0 by decide), if_neg (show ¬ nI 1 = 0 by decide), zlt_e, nI_1]
  rfl
theorem FR_fault (hi : i < n) (hd : d < 5) (hb : b < 1000) (hl : lk < 1000) (hm : m < 1000) (h0 : ¬ lfc (ch i)) (h1 : ¬ (ch i = 40 ∧ d < 4)) (h2 : ¬ (ch i = 41 ∧ d ≠ 0 ∧ b ≠ 0)) (h3 : ¬ (ch i = 124 ∧ b ≠ 0)) (h4 : ¬ (ch i = 47 ∧ b ≠ 0 ∧ d = 0 ∧ lk = 0)) (h5 : ¬ (isr (ch i) ∧ m ≠ 0)) : FR n ch d b m lk i (nI i) := by
  intro M fu hz hp hf
  obtain ⟨f, rfl⟩ : ∃ f, fu = f + 1 := ⟨fu - 1, by omega⟩
  have h16 := (hp.2.2 i hi).2
  have e : fX8_faultOf_66 (fX8_faultOf_12L f) M 5 (nI d) (nI b) (nI m) (nI lk) (nI i) (nI (ch i)) = some (nI i, M) := by
    rw [f66 h16 (by omega) (by omega) h2, f89 h16 (by omega) h3, f107 h16 (by omega) (by omega) (by omega) h4, f137 h16 (by omega) h5]
  rw [fr_hd hz hp hi, if_neg h0]
  by_cases e1 : ch i = 40
  · rw [if_pos (show nI (ch i) = 40 by rw [e1]; rfl), if_pos (show (4 : Int32) ≤ nI d by rw [show (4 : Int32) = nI 4 from rfl, nI_leN (by omega) (by omega)]; omega), e]
  · rw [if_neg (show ¬ nI (ch i) = (40 : Int32) from nE (x := 40) h16 (by omega) (by exact e1)), e]
theorem FR_end (hd : d < 5) (hb : b < 1000) : FR n ch d b m lk n (if b ≠ 0 ∧ d = 0 then -1 else nI n) := by
  intro M fu hz hp hf
  have hn := hp.2.1
  obtain ⟨f, rfl⟩ : ∃ f, fu = f + 1 := ⟨fu - 1, by omega⟩
  show fX8_faultOf_12 (fX8_faultOf_12L f) M 5 (nI d) (nI b) (nI m) (nI lk) (nI n) = _
  unfold fX8_faultOf_12 fX8_faultOf_175
  rw [zgI_f hz (by decide) zk_5, Option.bind_some, hp.1, if_pos (show nI n ≤ nI n by rw [nI_leN (by omega) (by omega)]; omega), Option.bind_some]
  by_cases e1 : b = 0
  · rw [if_pos (show nI b = 0 by rw [e1]; rfl), if_neg (fun z => z.1 e1)]
  · rw [if_neg (show ¬ nI b = 0 by rw [nI_00 (by omega)]; exact e1)]
    by_cases e2 : d = 0
    · rw [if_pos (show nI d = 0 by rw [e2]; rfl), if_pos ⟨e1, e2⟩]
    · rw [if_neg (show ¬ nI d = 0 by rw [nI_00 (by omega)]; exact e2), if_neg (fun z => e2 z.2)]
end FR
