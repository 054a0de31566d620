/-! ===== all of it, and edits ===== -/
abbrev Wd : Type := Nat × (Nat → Nat)
def weq (a b : Wd) : Prop := a.1 = b.1 ∧ ∀ j, j < a.1 → a.2 j = b.2 j
def vW (a : Wd) : Prop := 1 ≤ a.1 ∧ a.1 ≤ 8 ∧ ∀ j, j < a.1 → a.2 j < 65536
/-- the exceptions: the same words on both sides, none twice -/
def iE (M : Mem) : Prop := ∃ (cnt : Nat) (rr : Nat → Nat) (cw mw : Nat → Wd), cnt ≤ 10 ∧ M.2.1 0 5 = nI cnt ∧ M.2.1 279 49 = nI cnt ∧ (∀ i, i < 10 → M.2.2 166 i = some (rr i) ∧ ∃ j, j < 10 ∧ rr i = 167 + 2 * j) ∧ (∀ i j, i < 10 → j < 10 → i ≠ j → rr i ≠ rr j) ∧ (∀ i, i < cnt → vW (cw i) ∧ M.2.1 (rr i) 1 = nI (cw i).1 ∧ ∀ j, j < (cw i).1 → M.2.1 (rr i + 1) j = nI ((cw i).2 j)) ∧ (∀ i, i < cnt → vW (mw i) ∧ M.2.1 317 i = nI (mw i).1 ∧ ∀ j, j < (mw i).1 → M.2.1 318 (8 * i + j) = nI ((mw i).2 j)) ∧ (∀ i, i < cnt → ∃ j, j < cnt ∧ weq (cw i) (mw j)) ∧ (∀ j, j < cnt → ∃ i, i < cnt ∧ weq (mw j) (cw i)) ∧ (∀ i j, i < j → j < cnt → ¬ weq (cw i) (cw j)) ∧ (∀ i j, i < j → j < cnt → ¬ weq (mw i) (mw j))
theorem iE_mv {M M' : Mem} {Q : Nat → Prop} (hq : zq Q M M') (h0 : Q 0) (h1 : ∀ q, 166 ≤ q → q ≤ 186 → Q q) (h2 : Q 317) (h3 : Q 318) (h4 : M'.2.1 279 49 = M.2.1 279 49) (h : iE M) : iE M' := by
  obtain ⟨cnt, rr, cw, mw, a1, a2, a3, a4, a5, a6, a7, a8⟩ := h
  refine ⟨cnt, rr, cw, mw, a1, by rw [(hq.2 0 h0).1]; exact a2, by rw [h4]; exact a3, fun i hi => by rw [(hq.2 166 (h1 166 (by decide) (by decide))).2]; exact a4 i hi, a5, fun i hi => ?_, fun i hi => by rw [(hq.2 317 h2).1, (hq.2 318 h3).1]; exact a7 i hi, a8⟩
  obtain ⟨-, j, j1, j2⟩ := a4 i (by omega)
  rw [(hq.2 (rr i) (h1 _ (by omega) (by omega))).1, (hq.2 (rr i + 1) (h1 _ (by omega) (by omega))).1]
  exact a6 i hi
def Inv (M : Mem) : Prop := zO M ∧ iP M ∧ iE M ∧ (∀ k, k < 3 → iRs M M k) ∧ ∃ cc len ch, cCs M cc ∧ mCs M cc ∧ cTe M len ch ∧ mTe M len ch ∧ (∀ k, k < 3 → iK M len (acl cc ch) k) ∧ iH M len
/-- a call on both sides gives the same answer -/
def Op (f8 : Option (Int32 × Mem)) (f9 : Mem → Option (Int32 × Mem)) : Prop := ∃ r M1 M2, f8 = some (r, M1) ∧ zO M1 ∧ f9 M1 = some (r, M2) ∧ Inv M2
theorem iP_mv {M M' : Mem} {Q : Nat → Prop} (hq : zq Q M M') (h1 : Q 5) (h2 : Q 6) (h3 : Q 281) (h4 : M'.2.1 279 1 = M.2.1 279 1) (h : iP M) : iP M' := by
  unfold iP at *
  rw [(hq.2 5 h1).1, (hq.2 6 h2).1, (hq.2 281 h3).1, h4]
  exact h
theorem iK_fn {M : Mem} {len : Nat} {cl : Nat → Int32} (h : ∀ k, k < 3 → iK M len cl k) : ∃ (N : Nat → Nat) (b : Nat → Nat → Nat) (w : Nat → Nat), ∀ k, k < 3 → cK M M cl k len (N k) (b k) ∧ mK M k (N k) (b k) ∧ M.2.1 (8 + 48 * k) 2 = nI (w k) ∧ M.2.1 305 k = nI (w k) := by
  obtain ⟨N0, b0, w0, h0⟩ := h 0 (by omega)
  obtain ⟨N1, b1, w1, h1⟩ := h 1 (by omega)
  obtain ⟨N2, b2, w2, h2⟩ := h 2 (by omega)
  refine ⟨fun k => if k = 0 then N0 else if k = 1 then N1 else N2, fun k => if k = 0 then b0 else if k = 1 then b1 else b2, fun k => if k = 0 then w0 else if k = 1 then w1 else w2, fun k hk => ?_⟩
  rcases (show k = 0 ∨ k = 1 ∨ k = 2 by omega) with rfl | rfl | rfl
  · exact h0
  · exact h1
  · exact h2
def Fc (q : Nat) : Prop := kfe q ∧ (q < 187 ∨ 278 < q)
def Fm (q : Nat) : Prop := q < 279 ∨ (280 ≤ q ∧ q ≤ 301) ∨ 317 ≤ q
theorem Fc_m {q : Nat} (h : q < 2 ∨ (4 ≤ q ∧ q < 8) ∨ (152 ≤ q ∧ q < 187) ∨ 279 ≤ q) : Fc q := ⟨kfe_m (by omega), by omega⟩
theorem Fc_r {k p i : Nat} (hk : k < 3) (hp : p < 5) (hi : 1 ≤ i ∧ i ≤ 6) : Fc (zra k p + i) := ⟨kfe_r hk hp hi, by unfold zra; omega⟩
theorem inv_asm {M M1 M2 : Mem} (hP : iP M) (hE : iE M) (hR : ∀ k, k < 3 → iRs M M k) {cc ch' : Nat → Nat} {len' : Nat} (hc : cCs M cc) (hm : mCs M cc) (h1 : zq Fc M M1) (h2 : zq Fm M1 M2) (h3 : ∀ j, j ≠ 31 → j ≠ 39 → j ≠ 44 → M2.2.1 279 j = M1.2.1 279 j) (hz : zO M2) (hw : wAll M1) (hT : cTe M1 len' ch') (hT2 : mTe M2 len' ch') (hK : ∀ k, k < 3 → iK M2 len' (acl cc ch') k) (hH : iH M2 len') : Inv M2 := by
  have e279 : M1.2.1 279 = M.2.1 279 := (h1.2 279 (Fc_m (by omega))).1
  have hq : zq (fun q => Fc q ∧ Fm q) M M2 := (h1.wk (fun q z => z.1)).tr (h2.wk (fun q z => z.2))
  have ff : ∀ q, (q < 2 ∨ (4 ≤ q ∧ q < 8) ∨ (152 ≤ q ∧ q < 187) ∨ (280 ≤ q ∧ q ≤ 301) ∨ 317 ≤ q) → Fc q ∧ Fm q := fun q h => ⟨Fc_m (by omega), by unfold Fm; omega⟩
  have hw2 : wAll M2 := fun k hk p hp => by
    obtain ⟨w1, w2, g⟩ := hw k hk p hp
    exact ⟨w1, w2, zWt_mv (h2.2 _ (by unfold Fm zra; omega)).2 g⟩
  refine ⟨hz, iP_mv hq (ff _ (by omega)) (ff _ (by omega)) (ff _ (by omega)) (by rw [h3 1 (by omega) (by omega) (by omega), e279]) hP, iE_mv hq (ff _ (by omega)) (fun q x y => ff _ (by omega)) (ff _ (by omega)) (ff _ (by omega)) (by rw [h3 49 (by omega) (by omega) (by omega), e279]) hE, fun k hk p hp => ?_, cc, len', ch', cCs_mv hq (ff _ (by omega)) hc, mCs_mv hq (ff _ (by omega)) hm, cTe_mv h2 (by unfold Fm; omega) (by unfold Fm; omega) hT, hT2, hK, hH⟩
  exact iRule_mr hq (fun q x y => ff _ (by omega)) (iRule_mv hq (fun i x y => ⟨Fc_r hk hp ⟨x, y⟩, by unfold Fm zra; omega⟩) (hw2 k hk p hp) (hR k hk p hp))
/-- a new edit is remembered -/
theorem iH_new {M M2 : Mem} {o u r δ len len' : Nat} {D : Nat → Ed} {Ls : Nat → Nat} {Dn : Ed} (ho : o < 30) (hu : u + r ≤ 30) (hl : Ls u = len) (hv : ∀ i, i < u + r → vE (D i) (Ls i) (Ls (i + 1))) (hcs : ∀ i, i < u + r → cSl M ((o + i) % 30) (D i)) (hd : δ ≤ 1) (hd2 : δ = 1 ↔ u = 30) (e1 : M2.2.1 187 1 = nI ((o + δ) % 30)) (e2 : M2.2.1 187 2 = nI (u - δ + 1)) (e3 : M2.2.1 187 3 = nI 0) (e4 : M2.2.1 279 39 = nI (u - δ + 1)) (e5 : M2.2.1 279 44 = nI 0) (hn : vE Dn len len') (hc : cSl M2 ((o + u) % 30) Dn) (ho2 : ∀ s, s < 30 → s ≠ (o + u) % 30 → ∀ D, cSl M s D → cSl M2 s D) (hu2 : ∀ i, i < u - δ → uSl M2 i (D (i + δ))) (hu3 : uSl M2 (u - δ) Dn) : iH M2 len' := by
  have hdu : δ ≤ u := by
    rcases (show δ = 0 ∨ δ = 1 by omega) with w | w
    · omega
    · have := hd2.mp w
      omega
  have hd3 : δ = 0 → u < 30 := fun z => by
    rcases Nat.lt_or_ge u 30 with w | w
    · exact w
    · have := hd2.mpr (by omega)
      omega
  refine ⟨(o + δ) % 30, u - δ + 1, 0, fun i => if i < u - δ then D (i + δ) else Dn, fun i => if i ≤ u - δ then Ls (i + δ) else len', by omega, by omega, e1, e2, e3, e4, e5, ?_, fun i hi => ?_, fun i hi => ?_, fun i hi => ?_, fun j hj => absurd hj (by omega)⟩
  · dsimp only
    rw [if_neg (by omega)]
  · dsimp only
    by_cases h1 : i < u - δ
    · rw [if_pos h1, if_pos (by omega), if_pos (by omega), show i + 1 + δ = i + δ + 1 by omega]
      exact hv (i + δ) (by omega)
    · rw [if_neg h1, if_pos (by omega), if_neg (by omega), show i + δ = u by omega, hl]
      exact hn
  · dsimp only
    by_cases h1 : i < u - δ
    · rw [if_pos h1, show ((o + δ) % 30 + i) % 30 = (o + (i + δ)) % 30 by omega]
      refine ho2 _ (by omega) ?_ _ (hcs (i + δ) (by omega))
      rcases (show δ = 0 ∨ δ = 1 by omega) with w | w
      · have := hd3 w
        omega
      · have := hd2.mp w
        omega
    · rw [if_neg h1, show ((o + δ) % 30 + i) % 30 = (o + u) % 30 by omega]
      exact hc
  · dsimp only
    by_cases h1 : i < u - δ
    · rw [if_pos h1]
      exact hu2 i h1
    · rw [if_neg h1, show i = u - δ by omega]
      exact hu3
theorem chr_u16 (v : Int32) : ∃ c, c < 65536 ∧ (v.toUInt32 % 65536).toInt32 = nI c := by
  rw [pk_char]
  exact ⟨_, Nat.mod_lt _ (by decide), rfl⟩
theorem ipos_ok {M : Mem} (h : zO M) {len : Nat} (hl : len ≤ 100) (e : M.2.1 2 1 = nI len) (e2 : M.2.1 279 31 = nI len) (p : Int32) : (fX8_isPosition M 0 p = some (0, M) ∧ ∀ M', zO M' → M'.2.1 279 31 = nI len → fX9_noPosition M' 279 p = some (1, M')) ∨ (∃ pos, pos ≤ len ∧ p = nI pos ∧ fX8_isPosition M 0 p = some (1, M) ∧ ∀ M', zO M' → M'.2.1 279 31 = nI len → fX9_noPosition M' 279 p = some (0, M')) := by
  unfold fX8_isPosition fX9_noPosition fX9_in
  by_cases h1 : p < 0
  · left
    refine ⟨by rw [if_pos h1]; rfl, fun M' hM' e' => ?_⟩
    rw [zgI_f hM' (by decide) zk_279, Option.bind_some, if_pos h1, zrp_0, Option.bind_some, if_pos rfl]
    rfl
  · by_cases h2 : nI len < p
    · left
      refine ⟨?_, fun M' hM' e' => ?_⟩
      · rw [if_neg h1, gr_0_0 h, Option.bind_some, gr_1_0 h, Option.bind_some, zgI_f h (by decide) zk_2, Option.bind_some, e, if_pos h2]
        rfl
      · rw [zgI_f hM' (by decide) zk_279, Option.bind_some, if_neg h1, e', if_pos h2, zrp_0, Option.bind_some, if_pos rfl]
        rfl
    · right
      obtain ⟨m, m1, rfl⟩ := i32_le (by omega) h1 h2
      refine ⟨m, m1, rfl, ?_, fun M' hM' e' => ?_⟩
      · rw [if_neg h1, gr_0_0 h, Option.bind_some, gr_1_0 h, Option.bind_some, zgI_f h (by decide) zk_2, Option.bind_some, e, if_neg h2]
        rfl
      · rw [zgI_f hM' (by decide) zk_279, Option.bind_some, if_neg h1, e', if_neg h2, zrp_1, Option.bind_some, if_neg (by decide)]
        rfl
theorem ichr_ok {c : Nat} (hc : c < 65536) : (32 ≤ c ∧ c ≤ 126 ∧ fX8_isCharacter (nI c) = some 1 ∧ fX9_in (nI c) 32 126 = some 1) ∨ (¬ (32 ≤ c ∧ c ≤ 126) ∧ fX8_isCharacter (nI c) = some 0 ∧ fX9_in (nI c) 32 126 = some 0) := by
  unfold fX8_isCharacter fX9_in
  rw [show (32 : Int32) = nI 32 from rfl, show (126 : Int32) = nI 126 from rfl]
  by_cases h1 : c < 32
  · rw [if_pos (show nI c < nI 32 by rw [nI_ltN (by omega) (by omega)]; exact h1), zrp_0]
    exact Or.inr ⟨by omega, rfl, rfl⟩
  · rw [if_neg (show ¬ nI c < nI 32 by rw [nI_ltN (by omega) (by omega)]; exact h1)]
    by_cases h2 : 126 < c
    · rw [if_pos (show nI 126 < nI c by rw [nI_ltN (by omega) (by omega)]; exact h2), zrp_0]
      exact Or.inr ⟨by omega, rfl, rfl⟩
    · rw [if_neg (show ¬ nI 126 < nI c by rw [nI_ltN (by omega) (by omega)]; exact h2), zrp_1]
      exact Or.inl ⟨by omega, by omega, rfl, rfl⟩
theorem n10 {M : Mem} : ¬ ((1 : Int32), M).1 = 0 := by
  show ¬ (1 : Int32) = 0
  decide
theorem op_same {M : Mem} (h : Inv M) {f8 : Option (Int32 × Mem)} {f9 : Mem → Option (Int32 × Mem)} (r : Int32) (h1 : f8 = some (r, M)) (h2 : f9 M = some (r, M)) : Op f8 f9 := ⟨r, M, M, h1, h.1, h2, h⟩
theorem insert_ok {M : Mem} (hI : Inv M) (p : Int32) {c : Nat} (hc16 : c < 65536) : Op (fX8_insert M 0 p (nI c)) (fun M1 => fX9_insert M1 279 p (nI c)) := by
  obtain ⟨h, hP, hE, hR, cc, len, ch, c1, c2, t1, t2, hK, hH⟩ := id hI
  have hl := t1.2.1
  have full9 : ∀ M', zO M' → fX9_insert M' 279 p (nI c) = (fX9_noPosition M' 279 p).bind (fun r2 => if r2.1 = 0 then ((fX9_in (nI c) (32 : Int32) (126 : Int32)).bind (fun v15 => if v15 = 0 then (some ((-2 : Int32), r2.2)) else ((zgI r2.2 9 31 279).bind (fun v25 => if v25 = (100 : Int32) then (some ((-3 : Int32), r2.2)) else ((zgR r2.2 9 38 279).bind (fun v37 => (zsC r2.2 v37 (0 : Int32) (nI c)).bind (fun M42 => (zck M42 9 279).bind (fun u47 => (fX9_remember M42 279 (1 : Int32) p (1 : Int32)).bind (fun M47 => (zpI M47 9 44 279 (0 : Int32)).bind (fun M52 => (zck M52 9 279).bind (fun u58 => (fX9_putIn M52 279 p (1 : Int32)).bind (fun M58 => (zgI M58 9 31 279).bind (fun v62 => some (v62, M58)))))))))))))) else (some ((-1 : Int32), r2.2))) := fun M' hM' => by
    unfold fX9_insert
    rw [zck_f hM' (by decide) zk_279, Option.bind_some]
  rcases ipos_ok h hl t1.1 t2.1 p with ⟨p1, p2⟩ | ⟨pos, p0, rfl, p1, p2⟩
  · refine op_same hI (-1) ?_ ?_
    · unfold fX8_insert
      rw [zck_f h (by decide) zk_0, Option.bind_some, p1, Option.bind_some, if_pos rfl]
    · rw [full9 M h, p2 M h t2.1, Option.bind_some, if_neg n10]
  rcases ichr_ok hc16 with ⟨b1, b2, b3, b4⟩ | ⟨b1, b3, b4⟩
  rotate_left
  · refine op_same hI (-2) ?_ ?_
    · unfold fX8_insert
      rw [zck_f h (by decide) zk_0, Option.bind_some, p1, Option.bind_some, if_neg n10, b3, Option.bind_some, if_pos rfl]
    · rw [full9 M h, p2 M h t2.1, Option.bind_some, if_pos rfl, b4, Option.bind_some, if_pos rfl]
  by_cases hfull : len = 100
  · refine op_same hI (-3) ?_ ?_
    · unfold fX8_insert
      rw [zck_f h (by decide) zk_0, Option.bind_some, p1, Option.bind_some, if_neg n10, b3, Option.bind_some, if_neg (by decide), gr_0_0 h, Option.bind_some, gr_1_0 h, Option.bind_some, zgI_f h (by decide) zk_2, Option.bind_some, t1.1, hfull, show (100 : Int32) = nI 100 from rfl, if_neg Int32.lt_irrefl]
    · rw [full9 M h, p2 M h t2.1, Option.bind_some, if_pos rfl, b4, Option.bind_some, if_neg (by decide), zgI_f h (by decide) zk_279, Option.bind_some, t2.1, hfull, if_pos (show nI 100 = (100 : Int32) from rfl)]
  obtain ⟨o, u, r, D, Ls, g1, g2, g3, g4, g5, g6, g7, g8, g9, g10, g11, g12⟩ := hH
  obtain ⟨N, b, w, hKf⟩ := iK_fn hK
  -- the class
  obtain ⟨Ma, δ, d1, d2, d3, d4, d5, d6, d7, d8, d9⟩ := beg_ok h g1 (by omega) g3 g4
  have hs30 : (o + u) % 30 < 30 := by omega
  obtain ⟨z1, z2, z3, z4, z5⟩ := zedit hs30
  have hz3 := z3
  obtain ⟨y1, y2, y3, y4⟩ := z3
  have hcc : chr (nI c) := chr_code (by omega)
  -- its memory with the edit filled in
  have hMb : ∃ Mb, Mb = zwI (zwI (zwI (zwI (zwI Ma (189 + 3 * ((o + u) % 30)) 1 1) (189 + 3 * ((o + u) % 30)) 2 (nI pos)) (190 + 3 * ((o + u) % 30)) 1 (nI 0)) (190 + 3 * ((o + u) % 30) + 1) 0 (nI c)) (190 + 3 * ((o + u) % 30)) 1 (nI (0 + 1)) := ⟨_, rfl⟩
  obtain ⟨Mb, eMb⟩ := hMb
  have hOb : zO Mb := by rw [eMb]; exact d4
  have hRb : Mb.2.2 = M.2.2 := by rw [eMb]; exact d6
  have hqb : zq (fun q => q < 187 ∨ 278 < q) M Mb := by
    rw [eMb]
    exact (d5.wk (fun q z => by omega)).tr ((zq_wI.wk (fun q z => by omega)).tr ((zq_wI.wk (fun q z => by omega)).tr ((zq_wI.wk (fun q z => by omega)).tr ((zq_wI.wk (fun q z => by omega)).tr (zq_wI.wk (fun q z => by omega))))))
  have hslot : cSl Mb ((o + u) % 30) (1, pos, 1, fun _ => c) := by
    rw [eMb]
    refine ⟨?_, ?_, ?_, fun j hj => ?_⟩
    · rw [zw_I, if_neg (by omega), zw_I, if_neg (by omega), zw_I, if_neg (by omega), zw_I, if_neg (by omega), zw_I, if_pos ⟨rfl, rfl⟩]
    · rw [zw_I, if_neg (by omega), zw_I, if_neg (by omega), zw_I, if_neg (by omega), zw_I, if_pos ⟨rfl, rfl⟩]
    · rw [zw_I, if_pos ⟨rfl, rfl⟩]
    · have hj0 : j = 0 := by
        have : j < 1 := hj
        omega
      rw [zw_I, if_neg (by omega), zw_I, if_pos ⟨by omega, hj0⟩]
  have hold : ∀ s, s < 30 → s ≠ (o + u) % 30 → ∀ D, cSl M s D → cSl Mb s D := by
    intro s hs hne D' hD'
    rw [eMb]
    exact cSl_mv zq_wI (by omega) (by omega) (by omega) (cSl_mv zq_wI (by omega) (by omega) (by omega) (cSl_mv zq_wI (by omega) (by omega) (by omega) (cSl_mv zq_wI (by omega) (by omega) (by omega) (cSl_mv zq_wI (by omega) (by omega) (by omega) (cSl_mv d5 (by omega) (by omega) (by omega) hD')))))
  have h187 : ∀ j, Mb.2.1 187 j = Ma.2.1 187 j := fun j => by
    rw [eMb, zw_I, if_neg (by omega), zw_I, if_neg (by omega), zw_I, if_neg (by omega), zw_I, if_neg (by omega), zw_I, if_neg (by omega)]
  have hwb : wAll Mb := wAll_r hRb (fun k hk p hp => (hR k hk p hp).1)
  have hsmall : ∀ q, q < 187 → q < 187 ∨ 278 < q := fun q z => Or.inl z
  obtain ⟨M1, a1, a2, a3, a4, a5, a6⟩ := cin_ok (Mr := M) hOb (fun k hk => iRs_mv hk hqb (fun p hp i x y => by unfold zra; omega) hwb (hR k hk)) (cTe_mv hqb (by omega) (by omega) t1) (cCs_mv hqb (by omega) c1) (fun k hk => cK_mv hqb (by omega) (hKf k hk).1) hs30 (e := fun _ => c) hslot.2.1 hslot.2.2.1 (fun j hj => ⟨b1, b2, hslot.2.2.2 j hj⟩) p0 (by dsimp only; omega)
  dsimp only at a1 a5 a6
  have hf8 : fX8_insert M 0 (nI pos) (nI c) = some (nI (len + 1), M1) := by
    have hA1 : zO (zwI Ma (189 + 3 * ((o + u) % 30)) 1 1) := d4
    have hA2 : zO (zwI (zwI Ma (189 + 3 * ((o + u) % 30)) 1 1) (189 + 3 * ((o + u) % 30)) 2 (nI pos)) := d4
    have hA3 : zO (zwI (zwI (zwI Ma (189 + 3 * ((o + u) % 30)) 1 1) (189 + 3 * ((o + u) % 30)) 2 (nI pos)) (190 + 3 * ((o + u) % 30)) 1 (nI 0)) := d4
    have e1 : (zwI (zwI (zwI Ma (189 + 3 * ((o + u) % 30)) 1 1) (189 + 3 * ((o + u) % 30)) 2 (nI pos)) (190 + 3 * ((o + u) % 30)) 1 (nI 0)).2.1 (190 + 3 * ((o + u) % 30)) 1 = nI 0 := by rw [zw_I, if_pos ⟨rfl, rfl⟩]
    unfold fX8_insert
    rw [zck_f h (by decide) zk_0, Option.bind_some, p1, Option.bind_some, if_neg n10, b3, Option.bind_some, if_neg (by decide), gr_0_0 h, Option.bind_some, gr_1_0 h, Option.bind_some, zgI_f h (by decide) zk_2, Option.bind_some, t1.1, show (100 : Int32) = nI 100 from rfl, if_pos (show nI len < nI 100 by rw [nI_ltN (by omega) (by omega)]; omega), gr_0_6 h, Option.bind_some, zck_f h (by decide) zk_187, Option.bind_some, d3, Option.bind_some]
    dsimp only
    rw [zpZ_f d4 (by omega) z1 (Or.inr rfl), Option.bind_some, zpI_f hA1 (by omega) z1, Option.bind_some, zgR_f hA2 (by omega) z1 z2, Option.bind_some, show (0 : Int32) = nI 0 from rfl, zpI_f hA2 (by omega) y2, Option.bind_some, zgR_f hA3 (by omega) z1 z2, Option.bind_some, zck_f hA3 (by omega) y2, Option.bind_some, append_ok hA3 hz3 e1 (by rw [show 190 + 3 * ((o + u) % 30) + 1 = 191 + 3 * ((o + u) % 30) by omega, z4]; omega) hcc, Option.bind_some, ← eMb, zck_f hOb (by decide) zk_0, Option.bind_some, a1, Option.bind_some, gr_0_0 a2, Option.bind_some, gr_1_0 a2, Option.bind_some, zgI_f a2 (by decide) zk_2, Option.bind_some, a5.1]
  have hq1 : zq Fc M M1 := (hqb.wk (fun q z => z.2)).tr (a3.wk (fun q z => z.1))
  have e279 : M1.2.1 279 = M.2.1 279 := (hq1.2 279 (Fc_m (by omega))).1
  have hm : ∀ q, 279 ≤ q → M1.2.1 q = M.2.1 q := fun q hq => (hq1.2 q (Fc_m (by omega))).1
  -- the model
  have hAm : zO (zwI M1 308 0 (nI c)) := a2
  obtain ⟨M3, m1, m2, m3, m4, m5, m6, m7⟩ := rem_ok hAm (u := u) (n := 1) (pos := pos) (δ := δ) (by omega) d1 d2 (by omega) (Or.inr rfl) (I := 1) (e := fun _ => c) (fun j hj => ⟨b2, by rw [zw_I, if_pos ⟨rfl, by omega⟩]⟩) (by rw [zw_I, if_neg (by omega), e279]; exact g6) (D := D) (fun i hi => ⟨(vE_n (g9 i (by omega))).1, (vE_n (g9 i (by omega))).2.2, fun j hj => ((g9 i (by omega)).2 j hj).2⟩) (fun i hi => uSl_mv (zq_wI (M := M1) (a := 308)) (fun q _ _ => by omega) (uSl_mv hq1 (fun q _ _ => Fc_m (by omega)) (g11 i hi)))
  have hAn : zO (zwI M3 279 44 (nI 0)) := m2
  have hq3 : zq (fun q => q ≠ 279 ∧ q ≠ 308 ∧ (q < 309 ∨ 312 < q)) M1 (zwI M3 279 44 (nI 0)) := (zq_wI.wk (fun q z => z.2.1)).tr ((m3.wk (fun q z => ⟨z.1, z.2.2⟩)).tr (zq_wI.wk (fun q z => z.1)))
  have hf3 : ∀ j, j ≠ 39 → j ≠ 44 → (zwI M3 279 44 (nI 0)).2.1 279 j = M.2.1 279 j := fun j x y => by
    rw [zw_I, if_neg (by omega), m4 j x, zw_I, if_neg (by omega), e279]
  have hTa : mTe (zwI M3 279 44 (nI 0)) len ch := by
    unfold mTe
    rw [hf3 31 (by omega) (by omega), (hq3.2 302 (by omega)).1, hm 302 (by omega)]
    exact t2
  have hRa : aRs (zwI M3 279 44 (nI 0)) := aRs_mv hq3 (by omega) (by omega) (aRs_mv hq1 (Fc_m (by omega)) (Fc_m (by omega)) (aRs_of hR))
  have hBa : ∀ k, k < 3 → mB (zwI M3 279 44 (nI 0)) k len (N k) (b k) := fun k hk => ⟨mK_mv hq3 (by omega) (by omega) (mK_mv hq1 (Fc_m (by omega)) (Fc_m (by omega)) (hKf k hk).2.1), (hKf k hk).1.1, (hKf k hk).1.2.1, (hKf k hk).1.2.2.1⟩
  have hra : zq (fun q => 291 ≤ q ∧ q ≤ 301) M (zwI M3 279 44 (nI 0)) := (hq1.wk (fun q z => Fc_m (by omega))).tr (hq3.wk (fun q z => by omega))
  have hCa : mCs (zwI M3 279 44 (nI 0)) cc := mCs_mv hq3 (by omega) (mCs_mv hq1 (Fc_m (by omega)) c2)
  obtain ⟨M2, n1, n2, n3, n4, n5, n6⟩ := min_ok hAn hRa (e := fun _ => c) (n := 1) hTa hBa (fun k hk i0 hto => aTo_le (hKf k hk).1 (by
    rw [← aTo_mv hra (fun q x y => ⟨x, y⟩)]
    exact aTo_cl (fun i hi => mB_le (hBa k hk) hi) (fun t ht => mTe_c hTa hCa ht) hto)) (fun i hi => ⟨b1, b2, by
      rw [zw_I, if_neg (by omega), (m3.2 308 (by omega)).1, zw_I, if_pos ⟨rfl, by omega⟩]⟩) p0 (by omega)
  have h2 : zq Fm M1 M2 := (hq3.wk (fun q z => by unfold Fm at z; omega)).tr (n3.wk (fun q z => by
    unfold Fm at z
    refine ⟨⟨⟨by omega, by omega, by omega⟩, by omega⟩, by omega, by omega, by omega⟩))
  have hcb : mCs M2 cc := mCs_mv h2 (by unfold Fm; omega) (mCs_mv hq1 (Fc_m (by omega)) c2)
  refine ⟨nI (len + 1), M1, M2, hf8, a2, ?_, inv_asm hP hE hR c1 c2 hq1 h2 (fun j x y z => ?_) n2 a4 a5 n5 (fun k hk => ?_) ?_⟩
  · show fX9_insert M1 279 (nI pos) (nI c) = _
    rw [full9 M1 a2, p2 M1 a2 (by rw [e279]; exact t2.1), Option.bind_some, if_pos rfl, b4, Option.bind_some, if_neg (by decide), zgI_f a2 (by decide) zk_279, Option.bind_some, e279, t2.1, if_neg (show ¬ nI len = 100 from fun z => hfull (nI_inj (by omega) (by omega) z)), gr_279_38 a2, Option.bind_some, show (0 : Int32) = nI 0 from rfl, zsC_f a2 (by decide) zk_308 (by rw [zl_308]; omega) hcc, Option.bind_some, zck_f hAm (by decide) zk_279, Option.bind_some, show (1 : Int32) = nI 1 from rfl]
    rw [show (1 : Int32) = nI 1 from rfl] at m1
    rw [m1, Option.bind_some, zpI_f m2 (by decide) zk_279, Option.bind_some, zck_f hAn (by decide) zk_279, Option.bind_some, n1, Option.bind_some, zgI_f n2 (by decide) zk_279, Option.bind_some, n5.1]
  · rw [n4 j x, hf3 j y z, e279]
  · exact fin_k hk hra ((hq1.wk (fun q z => Fc_m (by omega))).tr (h2.wk (fun q z => by unfold Fm; omega))) (h2.wk (fun q z => by unfold Fm; omega)) hTa hCa n5 hcb (hKf k hk).1.2.1 (fun i hi => mB_le (hBa k hk) hi) (a6 k hk) (n6 k hk)
  · have n3h : ∀ q, 309 ≤ q → mre q := fun q hq => ⟨⟨⟨by omega, by omega, by omega⟩, by omega⟩, by omega, by omega, by omega⟩
    refine iH_new (M := M) g1 g2 g8 g9 g10 d1 d2 ?_ ?_ ?_ ?_ ?_ (Dn := (1, pos, 1, fun _ => c)) ⟨Or.inl ⟨rfl, p0, rfl, by omega⟩, fun j hj => ⟨b1, b2⟩⟩ ?_ (fun s hs hne D' hD' => ?_) (fun i hi => ?_) ?_
    · rw [(h2.2 187 (by unfold Fm; omega)).1, (a3.2 187 (kfe_m (by omega))).1, h187, d7]
    · rw [(h2.2 187 (by unfold Fm; omega)).1, (a3.2 187 (kfe_m (by omega))).1, h187, d8]
    · rw [(h2.2 187 (by unfold Fm; omega)).1, (a3.2 187 (kfe_m (by omega))).1, h187, d9]
    · rw [n4 39 (by omega), zw_I, if_neg (by omega), m5]
    · rw [n4 44 (by omega), zw_I, if_pos ⟨rfl, rfl⟩]
    · exact cSl_mv h2 (by unfold Fm; omega) (by unfold Fm; omega) (by unfold Fm; omega) (cSl_mv a3 (kfe_m (by omega)) (kfe_m (by omega)) (kfe_m (by omega)) hslot)
    · exact cSl_mv h2 (by unfold Fm; omega) (by unfold Fm; omega) (by unfold Fm; omega) (cSl_mv a3 (kfe_m (by omega)) (kfe_m (by omega)) (kfe_m (by omega)) (hold s hs hne D' hD'))
    · exact uSl_mv n3 (fun q x _ => n3h q x) (uSl_mv zq_wI (fun q x _ => by omega) (m6 i hi))
    · exact uSl_mv n3 (fun q x _ => n3h q x) (uSl_mv zq_wI (fun q x _ => by omega) m7)
