/-! ===== the references that stay ===== -/
def zRL : List (List (Option Nat)) := [[some 1, some 5, some 7, some 152, some 166, none, some 187], [some 2, some 4], [some 3, none], [], [], [some 6, none], [], [some 8, some 56, some 104], [some 9, some 10, none, none, none], [some 11, some 20, some 29, some 38, some 47], [], [some 12, some 14, some 15, some 16, some 17, none, none, none, none], [some 13, none], [], [none, none, none], [none, none, none], [], [], [], [], [some 21, some 23, some 24, some 25, some 26, none, none, none, none], [some 22, none], [], [none, none, none], [none, none, none], [], [], [], [], [some 30, some 32, some 33, some 34, some 35, none, none, none, none], [some 31, none], [], [none, none, none], [none, none, none], [], [], [], [], [some 39, some 41, some 42, some 43, some 44, none, none, none, none], [some 40, none], [], [none, none, none], [none, none, none], [], [], [], [], [some 48, some 50, some 51, some 52, some 53, none, none, none, none], [some 49, none], [], [none, none, none], [none, none, none], [], [], [], [], [some 57, some 58, none, none, none], [some 59, some 68, some 77, some 86, some 95], [], [some 60, some 62, some 63, some 64, some 65, none, none, none, none], [some 61, none], [], [none, none, none], [none, none, none], [], [], [], [], [some 69, some 71, some 72, some 73, some 74, none, none, none, none], [some 70, none], [], [none, none, none], [none, none, none], [], [], [], [], [some 78, some 80, some 81, some 82, some 83, none, none, none, none], [some 79, none], [], [none, none, none], [none, none, none], [], [], [], [], [some 87, some 89, some 90, some 91, some 92, none, none, none, none], [some 88, none], [], [none, none, none], [none, none, none], [], [], [], [], [some 96, some 98, some 99, some 100, some 101, none, none, none, none], [some 97, none], [], [none, none, none], [none, none, none], [], [], [], [], [some 105, some 106, none, none, none], [some 107, some 116, some 125, some 134, some 143], [], [some 108, some 110, some 111, some 112, some 113, none, none, none, none], [some 109, none], [], [none, none, none], [none, none, none], [], [], [], [], [some 117, some 119, some 120, some 121, some 122, none, none, none, none], [some 118, none], [], [none, none, none], [none, none, none], [], [], [], [], [some 126, some 128, some 129, some 130, some 131, none, none, none, none], [some 127, none], [], [none, none, none], [none, none, none], [], [], [], [], [some 135, some 137, some 138, some 139, some 140, none, none, none, none], [some 136, none], [], [none, none, none], [none, none, none], [], [], [], [], [some 144, some 146, some 147, some 148, some 149, none, none, none, none], [some 145, none], [], [none, none, none], [none, none, none], [], [], [], [], [some 153, some 154, some 155, none], [some 156, some 158, some 160, some 162, some 164], [some 157, some 159, some 161, some 163, some 165], [none, none, none], [none, none, none], [none, none, none], [none, none, none], [none, none, none], [none, none, none], [none, none, none], [none, none, none], [none, none, none], [none, none, none], [none, none, none], [none, none, none, none, none, none, none, none, none, none], [some 168, none], [], [some 170, none], [], [some 172, none], [], [some 174, none], [], [some 176, none], [], [some 178, none], [], [some 180, none], [], [some 182, none], [], [some 184, none], [], [some 186, none], [], [some 188, none, none, none], [some 189, some 192, some 195, some 198, some 201, some 204, some 207, some 210, some 213, some 216, some 219, some 222, some 225, some 228, some 231, some 234, some 237, some 240, some 243, some 246, some 249, some 252, some 255, some 258, some 261, some 264, some 267, some 270, some 273, some 276], [some 190, none, none], [some 191, none], [], [some 193, none, none], [some 194, none], [], [some 196, none, none], [some 197, none], [], [some 199, none, none], [some 200, none], [], [some 202, none, none], [some 203, none], [], [some 205, none, none], [some 206, none], [], [some 208, none, none], [some 209, none], [], [some 211, none, none], [some 212, none], [], [some 214, none, none], [some 215, none], [], [some 217, none, none], [some 218, none], [], [some 220, none, none], [some 221, none], [], [some 223, none, none], [some 224, none], [], [some 226, none, none], [some 227, none], [], [some 229, none, none], [some 230, none], [], [some 232, none, none], [some 233, none], [], [some 235, none, none], [some 236, none], [], [some 238, none, none], [some 239, none], [], [some 241, none, none], [some 242, none], [], [some 244, none, none], [some 245, none], [], [some 247, none, none], [some 248, none], [], [some 250, none, none], [some 251, none], [], [some 253, none, none], [some 254, none], [], [some 256, none, none], [some 257, none], [], [some 259, none, none], [some 260, none], [], [some 262, none, none], [some 263, none], [], [some 265, none, none], [some 266, none], [], [some 268, none, none], [some 269, none], [], [some 271, none, none], [some 272, none], [], [some 274, none, none], [some 275, none], [], [some 277, none, none], [some 278, none], [], [some 280, none, some 281, some 282, some 283, some 284, some 285, some 286, some 287, some 288, none, none, none, none, some 289, some 290, none, none, none, none, some 291, some 292, some 293, some 294, some 295, some 296, some 297, some 298, some 299, some 300, some 301, none, some 302, some 303, some 304, some 305, some 306, some 307, some 308, none, some 309, some 310, some 311, some 312, none, some 313, some 314, some 315, some 316, none, some 317, some 318, none, some 319], [], [], [], [], [], [], [], [], [], [], [], [], [], [], [], [], [], [], [], [], [], [], [], [], [], [], [], [], [], [], [], [], [], [], [], [], [], [], [], []]
def zR (a k : Nat) : Option Nat := (zRL.getD a []).getD k none
/-- all cells are made, and the references that stay are as they were made -/
def zO (M : Mem) : Prop := M.1 = 320 ∧ ∀ a k t, zR a k = some t → M.2.2 a k = some t
theorem zO_wI {M : Mem} {a k : Nat} {v : Int32} : zO (zwI M a k v) = zO M := rfl
theorem zO_wA {M : Mem} {a : Nat} {f : Nat → Int32} : zO (zwA M a f) = zO M := rfl
theorem zO_wR {M : Mem} {a k : Nat} {v : Option Nat} (hz : zR a k = none) (h : zO M) : zO (zwR M a k v) := by
  refine ⟨h.1, fun q j t ht => ?_⟩
  show zu2 M.2.2 a k v q j = some t
  unfold zu2
  rw [if_neg]
  · exact h.2 q j t ht
  · rintro ⟨rfl, rfl⟩
    rw [hz] at ht
    cases ht
theorem zgR_f {M : Mem} {ci k a t : Nat} (h : zO M) (ha : a < 320) (hk : zsK a = ci) (ht : zR a k = some t) : zgR M ci k a = some t := by
  unfold zgR
  rw [if_pos ⟨by rw [h.1]; exact ha, hk⟩]
  exact h.2 a k t ht
theorem zgI_f {M : Mem} {ci k a : Nat} (h : zO M) (ha : a < 320) (hk : zsK a = ci) : zgI M ci k a = some (M.2.1 a k) := by
  unfold zgI
  rw [if_pos ⟨by rw [h.1]; exact ha, hk⟩]
theorem zck_f {M : Mem} {ci a : Nat} (h : zO M) (ha : a < 320) (hk : zsK a = ci) : zck M ci a = some () := by
  unfold zck
  rw [if_pos ⟨by rw [h.1]; exact ha, hk⟩]
theorem zpI_f {M : Mem} {ci k a : Nat} {v : Int32} (h : zO M) (ha : a < 320) (hk : zsK a = ci) : zpI M ci k a v = some (zwI M a k v) := by
  unfold zpI
  rw [if_pos ⟨by rw [h.1]; exact ha, hk⟩]
theorem zpZ_f {M : Mem} {ci k a : Nat} {v : Int32} (h : zO M) (ha : a < 320) (hk : zsK a = ci) (hv : v = 0 ∨ v = 1) : zpZ M ci k a v = some (zwI M a k v) := by
  unfold zpZ
  rw [if_pos ⟨⟨by rw [h.1]; exact ha, hk⟩, hv⟩]
theorem zpR_f {M : Mem} {ci k a v : Nat} (h : zO M) (ha : a < 320) (hk : zsK a = ci) : zpR M ci k a v = some (zwR M a k (some v)) := by
  unfold zpR
  rw [if_pos ⟨by rw [h.1]; exact ha, hk⟩]
theorem zal_f {M : Mem} {kd a : Nat} (h : zO M) (ha : a < 320) (hk : zsK a = kd) : zal M kd a = some (nI (zsL a)) := by
  unfold zal
  rw [if_pos ⟨by rw [h.1]; exact ha, hk⟩]
  rfl
theorem zin_nI {j n : Nat} (hj : j < n) (hn : n < 2 ^ 31) : ¬ (nI j < 0 ∨ n ≤ (nI j).toNatClampNeg) := nI_in hj hn
theorem zsL_lt (a : Nat) : zsL a < 2 ^ 31 := Nat.lt_of_le_of_lt (zsL_max a) (by decide)
theorem zaI_f {M : Mem} {kd a j : Nat} (h : zO M) (ha : a < 320) (hk : zsK a = kd) (hj : j < zsL a) : zaI M kd a (nI j) = some (M.2.1 a j) := by
  unfold zaI
  rw [if_pos ⟨⟨by rw [h.1]; exact ha, hk⟩, zin_nI hj (zsL_lt a)⟩, nI_clamp (by have := zsL_lt a; omega)]
theorem zaR_f {M : Mem} {kd a j : Nat} (h : zO M) (ha : a < 320) (hk : zsK a = kd) (hj : j < zsL a) : zaR M kd a (nI j) = M.2.2 a j := by
  unfold zaR
  rw [if_pos ⟨⟨by rw [h.1]; exact ha, hk⟩, zin_nI hj (zsL_lt a)⟩, nI_clamp (by have := zsL_lt a; omega)]
theorem zsI_f {M : Mem} {a j : Nat} {v : Int32} (h : zO M) (ha : a < 320) (hk : zsK a = 11) (hj : j < zsL a) : zsI M a (nI j) v = some (zwI M a j v) := by
  unfold zsI
  rw [if_pos ⟨⟨by rw [h.1]; exact ha, hk⟩, zin_nI hj (zsL_lt a)⟩, nI_clamp (by have := zsL_lt a; omega)]
theorem zsC_f {M : Mem} {a j : Nat} {v : Int32} (h : zO M) (ha : a < 320) (hk : zsK a = 10) (hj : j < zsL a) (hv : vp_nar .char v = v) : zsC M a (nI j) v = some (zwI M a j v) := by
  unfold zsC
  rw [if_pos ⟨⟨by rw [h.1]; exact ha, hk⟩, zin_nI hj (zsL_lt a)⟩, nI_clamp (by have := zsL_lt a; omega), hv]
theorem zsZ_f {M : Mem} {a j : Nat} {v : Int32} (h : zO M) (ha : a < 320) (hk : zsK a = 12) (hj : j < zsL a) (hv : v = 0 ∨ v = 1) : zsZ M a (nI j) v = some (zwI M a j v) := by
  have hv2 : vp_nar .boolean v = v := by rcases hv with rfl | rfl <;> rfl
  unfold zsZ
  rw [if_pos ⟨⟨by rw [h.1]; exact ha, hk⟩, zin_nI hj (zsL_lt a)⟩, nI_clamp (by have := zsL_lt a; omega), hv2]
theorem zsR_f {M : Mem} {kd ce a j v : Nat} (h : zO M) (ha : a < 320) (hk : zsK a = kd) (hv : v < 320) (hkv : zsK v = ce) (hj : j < zsL a) : zsR M kd ce a (nI j) v = some (zwR M a j (some v)) := by
  unfold zsR
  rw [if_pos ⟨⟨⟨by rw [h.1]; exact ha, hk⟩, by rw [h.1]; exact hv, hkv⟩, zin_nI hj (zsL_lt a)⟩, nI_clamp (by have := zsL_lt a; omega)]
theorem zcp_f {M : Mem} {kd a0 a sp dp n : Nat} (h : zO M) (ha0 : a0 < 320) (hk0 : zsK a0 = kd) (ha : a < 320) (hk : zsK a = kd) (h1 : sp + n ≤ zsL a0) (h2 : dp + n ≤ zsL a) : zcp M kd a0 (nI sp) a (nI dp) (nI n) = some (zwA M a (va_cpy (M.2.1 a0) (M.2.1 a) sp dp n)) := by
  have q0 := zsL_lt a0
  have q1 := zsL_lt a
  unfold zcp
  rw [nI_clamp (by omega), nI_clamp (by omega), nI_clamp (by omega), if_pos ⟨⟨⟨by rw [h.1]; exact ha0, hk0⟩, by rw [h.1]; exact ha, hk⟩, ⟨nI_pos (by omega), nI_pos (by omega), nI_pos (by omega)⟩, h1, h2⟩]
theorem zw_I {M : Mem} {a k : Nat} {v : Int32} (q j : Nat) : (zwI M a k v).2.1 q j = if q = a ∧ j = k then v else M.2.1 q j := rfl
theorem zw_Ir {M : Mem} {a k : Nat} {v : Int32} : (zwI M a k v).2.2 = M.2.2 := rfl
theorem zw_A {M : Mem} {a : Nat} {f : Nat → Int32} (q : Nat) : (zwA M a f).2.1 q = if q = a then f else M.2.1 q := rfl
theorem zw_Ar {M : Mem} {a : Nat} {f : Nat → Int32} : (zwA M a f).2.2 = M.2.2 := rfl
theorem zw_R {M : Mem} {a k : Nat} {v : Option Nat} : (zwR M a k v).2.1 = M.2.1 := rfl
theorem zw_Rr {M : Mem} {a k : Nat} {v : Option Nat} (q j : Nat) : (zwR M a k v).2.2 q j = if q = a ∧ j = k then v else M.2.2 q j := rfl
/-- two memories have the same cells where P holds -/
def zq (P : Nat → Prop) (M M' : Mem) : Prop := M'.1 = M.1 ∧ ∀ a, P a → M'.2.1 a = M.2.1 a ∧ M'.2.2 a = M.2.2 a
theorem zq.rf {P : Nat → Prop} {M : Mem} : zq P M M := ⟨rfl, fun _ _ => ⟨rfl, rfl⟩⟩
theorem zq.tr {P : Nat → Prop} {M M' M'' : Mem} (h : zq P M M') (h2 : zq P M' M'') : zq P M M'' := ⟨h2.1.trans h.1, fun a ha => ⟨(h2.2 a ha).1.trans (h.2 a ha).1, (h2.2 a ha).2.trans (h.2 a ha).2⟩⟩
theorem zq.wk {P P' : Nat → Prop} {M M' : Mem} (h : zq P M M') (hp : ∀ a, P' a → P a) : zq P' M M' := ⟨h.1, fun a ha => h.2 a (hp a ha)⟩
theorem zq_wI {M : Mem} {a k : Nat} {v : Int32} : zq (fun q => q ≠ a) M (zwI M a k v) := ⟨rfl, fun q hq => ⟨zu2_ne hq, rfl⟩⟩
theorem zq_wR {M : Mem} {a k : Nat} {v : Option Nat} : zq (fun q => q ≠ a) M (zwR M a k v) := ⟨rfl, fun q hq => ⟨rfl, zu2_ne hq⟩⟩
theorem zq_wA {M : Mem} {a : Nat} {f : Nat → Int32} : zq (fun q => q ≠ a) M (zwA M a f) := ⟨rfl, fun q hq => ⟨by simp [zwA, hq], rfl⟩⟩
theorem nI_lit (n : Nat) : (OfNat.ofNat n : Int32) = nI n := rfl
theorem gr_0_0 {M : Mem} (h : zO M) : zgR M 8 0 0 = some 1 := zgR_f h (by decide +kernel) (by decide +kernel) (by decide +kernel)
theorem gr_0_1 {M : Mem} (h : zO M) : zgR M 8 1 0 = some 5 := zgR_f h (by decide +kernel) (by decide +kernel) (by decide +kernel)
theorem gr_0_2 {M : Mem} (h : zO M) : zgR M 8 2 0 = some 7 := zgR_f h (by decide +kernel) (by decide +kernel) (by decide +kernel)
theorem gr_0_3 {M : Mem} (h : zO M) : zgR M 8 3 0 = some 152 := zgR_f h (by decide +kernel) (by decide +kernel) (by decide +kernel)
theorem gr_0_4 {M : Mem} (h : zO M) : zgR M 8 4 0 = some 166 := zgR_f h (by decide +kernel) (by decide +kernel) (by decide +kernel)
theorem gr_0_6 {M : Mem} (h : zO M) : zgR M 8 6 0 = some 187 := zgR_f h (by decide +kernel) (by decide +kernel) (by decide +kernel)
theorem gr_1_0 {M : Mem} (h : zO M) : zgR M 7 0 1 = some 2 := zgR_f h (by decide +kernel) (by decide +kernel) (by decide +kernel)
theorem gr_1_1 {M : Mem} (h : zO M) : zgR M 7 1 1 = some 4 := zgR_f h (by decide +kernel) (by decide +kernel) (by decide +kernel)
theorem gr_2_0 {M : Mem} (h : zO M) : zgR M 4 0 2 = some 3 := zgR_f h (by decide +kernel) (by decide +kernel) (by decide +kernel)
theorem gr_5_0 {M : Mem} (h : zO M) : zgR M 4 0 5 = some 6 := zgR_f h (by decide +kernel) (by decide +kernel) (by decide +kernel)
theorem gr_152_0 {M : Mem} (h : zO M) : zgR M 6 0 152 = some 153 := zgR_f h (by decide +kernel) (by decide +kernel) (by decide +kernel)
theorem gr_152_1 {M : Mem} (h : zO M) : zgR M 6 1 152 = some 154 := zgR_f h (by decide +kernel) (by decide +kernel) (by decide +kernel)
theorem gr_152_2 {M : Mem} (h : zO M) : zgR M 6 2 152 = some 155 := zgR_f h (by decide +kernel) (by decide +kernel) (by decide +kernel)
theorem gr_187_0 {M : Mem} (h : zO M) : zgR M 1 0 187 = some 188 := zgR_f h (by decide +kernel) (by decide +kernel) (by decide +kernel)
theorem gr_279_0 {M : Mem} (h : zO M) : zgR M 9 0 279 = some 280 := zgR_f h (by decide +kernel) (by decide +kernel) (by decide +kernel)
theorem gr_279_2 {M : Mem} (h : zO M) : zgR M 9 2 279 = some 281 := zgR_f h (by decide +kernel) (by decide +kernel) (by decide +kernel)
theorem gr_279_3 {M : Mem} (h : zO M) : zgR M 9 3 279 = some 282 := zgR_f h (by decide +kernel) (by decide +kernel) (by decide +kernel)
theorem gr_279_4 {M : Mem} (h : zO M) : zgR M 9 4 279 = some 283 := zgR_f h (by decide +kernel) (by decide +kernel) (by decide +kernel)
theorem gr_279_5 {M : Mem} (h : zO M) : zgR M 9 5 279 = some 284 := zgR_f h (by decide +kernel) (by decide +kernel) (by decide +kernel)
theorem gr_279_6 {M : Mem} (h : zO M) : zgR M 9 6 279 = some 285 := zgR_f h (by decide +kernel) (by decide +kernel) (by decide +kernel)
theorem gr_279_7 {M : Mem} (h : zO M) : zgR M 9 7 279 = some 286 := zgR_f h (by decide +kernel) (by decide +kernel) (by decide +kernel)
theorem gr_279_8 {M : Mem} (h : zO M) : zgR M 9 8 279 = some 287 := zgR_f h (by decide +kernel) (by decide +kernel) (by decide +kernel)
theorem gr_279_9 {M : Mem} (h : zO M) : zgR M 9 9 279 = some 288 := zgR_f h (by decide +kernel) (by decide +kernel) (by decide +kernel)
theorem gr_279_14 {M : Mem} (h : zO M) : zgR M 9 14 279 = some 289 := zgR_f h (by decide +kernel) (by decide +kernel) (by decide +kernel)
theorem gr_279_15 {M : Mem} (h : zO M) : zgR M 9 15 279 = some 290 := zgR_f h (by decide +kernel) (by decide +kernel) (by decide +kernel)
theorem gr_279_20 {M : Mem} (h : zO M) : zgR M 9 20 279 = some 291 := zgR_f h (by decide +kernel) (by decide +kernel) (by decide +kernel)
theorem gr_279_21 {M : Mem} (h : zO M) : zgR M 9 21 279 = some 292 := zgR_f h (by decide +kernel) (by decide +kernel) (by decide +kernel)
theorem gr_279_22 {M : Mem} (h : zO M) : zgR M 9 22 279 = some 293 := zgR_f h (by decide +kernel) (by decide +kernel) (by decide +kernel)
theorem gr_279_23 {M : Mem} (h : zO M) : zgR M 9 23 279 = some 294 := zgR_f h (by decide +kernel) (by decide +kernel) (by decide +kernel)
theorem gr_279_24 {M : Mem} (h : zO M) : zgR M 9 24 279 = some 295 := zgR_f h (by decide +kernel) (by decide +kernel) (by decide +kernel)
theorem gr_279_25 {M : Mem} (h : zO M) : zgR M 9 25 279 = some 296 := zgR_f h (by decide +kernel) (by decide +kernel) (by decide +kernel)
theorem gr_279_26 {M : Mem} (h : zO M) : zgR M 9 26 279 = some 297 := zgR_f h (by decide +kernel) (by decide +kernel) (by decide +kernel)
theorem gr_279_27 {M : Mem} (h : zO M) : zgR M 9 27 279 = some 298 := zgR_f h (by decide +kernel) (by decide +kernel) (by decide +kernel)
theorem gr_279_28 {M : Mem} (h : zO M) : zgR M 9 28 279 = some 299 := zgR_f h (by decide +kernel) (by decide +kernel) (by decide +kernel)
theorem gr_279_29 {M : Mem} (h : zO M) : zgR M 9 29 279 = some 300 := zgR_f h (by decide +kernel) (by decide +kernel) (by decide +kernel)
theorem gr_279_30 {M : Mem} (h : zO M) : zgR M 9 30 279 = some 301 := zgR_f h (by decide +kernel) (by decide +kernel) (by decide +kernel)
theorem gr_279_32 {M : Mem} (h : zO M) : zgR M 9 32 279 = some 302 := zgR_f h (by decide +kernel) (by decide +kernel) (by decide +kernel)
theorem gr_279_33 {M : Mem} (h : zO M) : zgR M 9 33 279 = some 303 := zgR_f h (by decide +kernel) (by decide +kernel) (by decide +kernel)
theorem gr_279_34 {M : Mem} (h : zO M) : zgR M 9 34 279 = some 304 := zgR_f h (by decide +kernel) (by decide +kernel) (by decide +kernel)
theorem gr_279_35 {M : Mem} (h : zO M) : zgR M 9 35 279 = some 305 := zgR_f h (by decide +kernel) (by decide +kernel) (by decide +kernel)
theorem gr_279_36 {M : Mem} (h : zO M) : zgR M 9 36 279 = some 306 := zgR_f h (by decide +kernel) (by decide +kernel) (by decide +kernel)
theorem gr_279_37 {M : Mem} (h : zO M) : zgR M 9 37 279 = some 307 := zgR_f h (by decide +kernel) (by decide +kernel) (by decide +kernel)
theorem gr_279_38 {M : Mem} (h : zO M) : zgR M 9 38 279 = some 308 := zgR_f h (by decide +kernel) (by decide +kernel) (by decide +kernel)
theorem gr_279_40 {M : Mem} (h : zO M) : zgR M 9 40 279 = some 309 := zgR_f h (by decide +kernel) (by decide +kernel) (by decide +kernel)
theorem gr_279_41 {M : Mem} (h : zO M) : zgR M 9 41 279 = some 310 := zgR_f h (by decide +kernel) (by decide +kernel) (by decide +kernel)
theorem gr_279_42 {M : Mem} (h : zO M) : zgR M 9 42 279 = some 311 := zgR_f h (by decide +kernel) (by decide +kernel) (by decide +kernel)
theorem gr_279_43 {M : Mem} (h : zO M) : zgR M 9 43 279 = some 312 := zgR_f h (by decide +kernel) (by decide +kernel) (by decide +kernel)
theorem gr_279_45 {M : Mem} (h : zO M) : zgR M 9 45 279 = some 313 := zgR_f h (by decide +kernel) (by decide +kernel) (by decide +kernel)
theorem gr_279_46 {M : Mem} (h : zO M) : zgR M 9 46 279 = some 314 := zgR_f h (by decide +kernel) (by decide +kernel) (by decide +kernel)
theorem gr_279_47 {M : Mem} (h : zO M) : zgR M 9 47 279 = some 315 := zgR_f h (by decide +kernel) (by decide +kernel) (by decide +kernel)
theorem gr_279_48 {M : Mem} (h : zO M) : zgR M 9 48 279 = some 316 := zgR_f h (by decide +kernel) (by decide +kernel) (by decide +kernel)
theorem gr_279_50 {M : Mem} (h : zO M) : zgR M 9 50 279 = some 317 := zgR_f h (by decide +kernel) (by decide +kernel) (by decide +kernel)
theorem gr_279_51 {M : Mem} (h : zO M) : zgR M 9 51 279 = some 318 := zgR_f h (by decide +kernel) (by decide +kernel) (by decide +kernel)
theorem gr_279_53 {M : Mem} (h : zO M) : zgR M 9 53 279 = some 319 := zgR_f h (by decide +kernel) (by decide +kernel) (by decide +kernel)
