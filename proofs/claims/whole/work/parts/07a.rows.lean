/-! ===== the rows of characters of the class: what their functions do ===== -/
abbrev chr (v : Int32) : Prop := vp_nar .char v = v
theorem zrt_0 {M : Mem} : zrt .boolean 0 M = some (0, M) := rfl
theorem zrt_1 {M : Mem} : zrt .boolean 1 M = some (1, M) := rfl
theorem zrp_0 : zrp .boolean 0 = some 0 := rfl
theorem zrp_1 : zrp .boolean 1 = some 1 := rfl
theorem zrt_c {M : Mem} {v : Int32} (h : chr v) : zrt .char v M = some (v, M) := by
  unfold zrt
  rw [if_pos h]
theorem chr0 : chr 0 := rfl
theorem chr_code {n : Nat} (h : n < 65536) : chr (nI n) := by
  show vp_nar .char (nI n) = nI n
  have := (pk_charN h).1
  exact Value.int.inj this
theorem chr_of {v : Int32} (h : chr v) : ∃ n, n < 65536 ∧ v = nI n := by
  have e : vp_nar .char v = (v.toUInt32 % 65536).toInt32 := by
    rw [vp_nar_char]
    apply congrArg UInt32.toInt32
    apply UInt32.toNat_inj.mp
    simp [UInt32.toNat_mod]
  rw [show vp_nar .char v = v from h, pk_char] at e
  exact ⟨_, Nat.mod_lt _ (by decide), e⟩
/-- a row of the class: it, and its array behind it -/
def zrow (a : Nat) : Prop := a < 319 ∧ zsK a = 4 ∧ zR a 0 = some (a + 1) ∧ zsK (a + 1) = 10
theorem nI_ltN {a b : Nat} (ha : a < 2 ^ 31) (hb : b < 2 ^ 31) : (nI a < nI b) = (a < b) := propext (nI_ltI ha hb)
theorem nI_leN {a b : Nat} (ha : a < 2 ^ 31) (hb : b < 2 ^ 31) : (nI a ≤ nI b) = (a ≤ b) := propext (nI_leI ha hb)
theorem nI_eqN {a b : Nat} (ha : a < 2 ^ 31) (hb : b < 2 ^ 31) : (nI a = nI b) = (a = b) := propext (nI_eq ha hb)
theorem nI_lt0 {a : Nat} (ha : a < 2 ^ 31) : (nI a < 0) = False := eq_false (nI_pos ha)
theorem nI_0le {a : Nat} (ha : a < 2 ^ 31) : (0 ≤ nI a) = True := eq_true (nI_pos' ha)
theorem at_ok {M : Mem} {a n : Nat} (h : zO M) (hr : zrow a) (hn : M.2.1 a 1 = nI n) (hL : n ≤ zsL (a + 1)) (hc : ∀ i, i < n → chr (M.2.1 (a + 1) i)) {i : Nat} (hi : i < 2 ^ 31) : fX4_at M a (nI i) = some (if i < n then M.2.1 (a + 1) i else 0, M) := by
  obtain ⟨r1, r2, r3, r4⟩ := hr
  have hL2 := zsL_max (a + 1)
  unfold fX4_at
  rw [if_neg (nI_pos hi), zgI_f h (by omega) r2, Option.bind_some, hn]
  by_cases hlt : i < n
  · rw [if_neg (by rw [nI_leN (by omega) hi]; omega), zgR_f h (by omega) r2 r3, Option.bind_some, zaI_f h (by omega) r4 (by omega), Option.bind_some, zrt_c (hc i hlt), if_pos hlt]
  · rw [if_pos (by rw [nI_leN (by omega) hi]; omega), if_neg hlt, zrt_c chr0]
theorem at_neg {M : Mem} {a : Nat} {x : Int32} (hx : x < 0) : fX4_at M a x = some (0, M) := by
  unfold fX4_at
  rw [if_pos hx, zrt_c chr0]
theorem append_ok {M : Mem} {a n : Nat} (h : zO M) (hr : zrow a) (hn : M.2.1 a 1 = nI n) (hL : n < zsL (a + 1)) {c : Int32} (hc : chr c) : fX4_append M a c = some (zwI (zwI M (a + 1) n c) a 1 (nI (n + 1))) := by
  obtain ⟨r1, r2, r3, r4⟩ := hr
  have hL2 := zsL_max (a + 1)
  unfold fX4_append
  rw [zgI_f h (by omega) r2, Option.bind_some, hn, zgR_f h (by omega) r2 r3, Option.bind_some, zal_f h (by omega) r4, Option.bind_some, if_neg (by rw [nI_leN (by omega) (by omega)]; omega), Option.bind_some, Option.bind_some, zsC_f h (by omega) r4 hL hc, Option.bind_some]
  have h2 : zO (zwI M (a + 1) n c) := h
  rw [zgI_f h2 (by omega) r2, Option.bind_some, zw_I, if_neg (by omega), hn, nI_1, zpI_f h2 (by omega) r2, Option.bind_some]
