set_option maxHeartbeats 4000000 in
set_option maxRecDepth 100000 in
theorem law_L18 {p : Program} {e : Env} {s : State} {m : MethodId} {below : List Frame} {meth : Method} {c : Code} (l : Launch) {D : va_G} {cy : Nat → ClassId} {b bs L : Nat} {xs : Nat → Int32} {rr : Int32 × Mem} (X : zLx D cy b p s m meth c bs L xs) (h1e : rr.1 = 1) : ∀ (n : Nat) (M : Mem) (H : Heap) (locs : List Loc) (ls : Array Slot) (h1 : Nat) (h2 : Nat) (x3 : Int32), fL_18L xs L n M h1 h2 x3 = some rr → zH D cy b M H → va_S (zA b) s.heap H locs → lv_has ls 4 [(0, .ref bs), (1, .ref (b + h1)), (2, .ref (b + h2)), (3, .int x3)] → W p l e room_1 s m #[Value.ref bs] below meth c H locs 600000 7302250 (lw_Z below #[Value.ref bs] s) (F0 m 18 ls []) := by
  have X0 := X
  obtain ⟨hx, hb, hr, hml, hown, hts, hX, hbl, hlocks, hb0, hK⟩ := X
  have hbA : ¬ zA b bs := by show ¬ b ≤ bs; omega
  intro n
  induction n with
  | zero =>
    intro M H locs ls h1 h2 x3 hf
    have hf : (none : Option (Int32 × Mem)) = some rr := hf
    cases hf
  | succ n K18 =>
    have X := X0
    have K794 : ∀ (M : Mem) (H : Heap) (locs : List Loc) (ls : Array Slot) (h1 : Nat) (h2 : Nat) (x3 : Int32), fL_794 (fL_18L xs L n) M h1 h2 x3 = some rr → zH D cy b M H → va_S (zA b) s.heap H locs → lv_has ls 4 [(0, .ref bs), (1, .ref (b + h1)), (2, .ref (b + h2)), (3, .int x3)] → W p l e room_1 s m #[Value.ref bs] below meth c H locs 600000 7302250 (lw_Z below #[Value.ref bs] s) (F0 m 794 ls []) := by
      intro M H locs ls h1 h2 x3 hf hP hS hl
      unfold fL_794 at hf
      obtain ⟨x3_794, q794, hf⟩ := zlt_s hf
      refine lv_iinc (v := x3_794) (lv' := [(3, .int x3_794), (0, .ref bs), (1, .ref (b + h1)), (2, .ref (b + h2))]) hx hb dL_law_794 hl (k := 3) rfl (by rw [← q794]; rfl) (by decide) rfl (fun ls hl => ?_)
      refine lv_goto (tgt := 18) hx hb dL_law_797 (by decide) ?_
      exact K18 _ _ _ _ _ _ _ hf hP hS (lv_sub hl [1, 2, 3, 0] rfl)
    intro M H locs ls h1 h2 x3 hf hP hS hl
    have hf : fL_18 xs L (fL_18L xs L n) M h1 h2 x3 = some rr := hf
    unfold fL_18 at hf
    refine lv_iload_n hx hb dL_law_18 rfl (lv_at hl 3 rfl) ?_
    refine lv_aload_n hx hb dL_law_19 rfl (lv_at hl 0 rfl) ?_
    refine va_slen hx hb hX hbl hbA hS dL_law_20 ?_
    refine lv_iconst (v := (4 : Int32)) hx hb dL_law_21 (by decide) ?_
    refine lv_isub hx hb dL_law_22 ?_
    refine lv_icmp_gt (tgt := 800) hx hb dL_law_23 (by decide) (fun c23 => ?_) (fun c23 => ?_)
    · have hf := (if_pos c23).symm.trans hf
      refine lv_iconst (v := (1 : Int32)) hx hb dL_law_800 (by decide) ?_
      refine va_forget (fun q hq => by rw [hb0]; exact hS.2.2 q hq) ?_
      exact lw_ret hx hb hr hlocks dL_law_801
    · have hf := (if_neg c23).symm.trans hf
      refine lv_aload_n hx hb dL_law_26 rfl (lv_at hl 0 rfl) ?_
      refine lv_iload_n hx hb dL_law_27 rfl (lv_at hl 3 rfl) ?_
      obtain ⟨v28, e28, hf⟩ := zb hf
      obtain ⟨i28, j28⟩ := zxs_s e28
      refine va_sld hx hb hX hbl hbA hS i28 dL_law_28 ?_
      refine zt j28 ?_
      refine lv_bipush (v := (31 : Int32)) hx hb dL_law_29 (by decide) ?_
      refine lv_iand hx hb dL_law_31 ?_
      obtain ⟨w32, q32, hf⟩ := zlt_s hf
      refine zt q32 ?_
      by_cases c32_0 : w32 = (0 : Int32)
      · have hf := (if_pos c32_0).symm.trans hf
        refine lv_tableIn (off := 112) (tgt := 144) hx hb dL_law_32 (by rw [c32_0]; decide) (by rw [c32_0]; decide) (by rw [c32_0]; rfl) (by decide) ?_
        exact law_c144 l X h1e _ K794 _ _ _ _ _ _ _ hf hP hS (lv_sub hl [0, 1, 2, 3] rfl)
      have hf := (if_neg c32_0).symm.trans hf
      by_cases c32_1 : w32 = (1 : Int32)
      · have hf := (if_pos c32_1).symm.trans hf
        refine lv_tableIn (off := 147) (tgt := 179) hx hb dL_law_32 (by rw [c32_1]; decide) (by rw [c32_1]; decide) (by rw [c32_1]; rfl) (by decide) ?_
        exact law_c179 l X h1e _ K794 _ _ _ _ _ _ _ hf hP hS (lv_sub hl [0, 1, 2, 3] rfl)
      have hf := (if_neg c32_1).symm.trans hf
      by_cases c32_2 : w32 = (2 : Int32)
      · have hf := (if_pos c32_2).symm.trans hf
        refine lv_tableIn (off := 172) (tgt := 204) hx hb dL_law_32 (by rw [c32_2]; decide) (by rw [c32_2]; decide) (by rw [c32_2]; rfl) (by decide) ?_
        exact law_c204 l X h1e _ K794 _ _ _ _ _ _ _ hf hP hS (lv_sub hl [0, 1, 2, 3] rfl)
      have hf := (if_neg c32_2).symm.trans hf
      by_cases c32_3 : w32 = (3 : Int32)
      · have hf := (if_pos c32_3).symm.trans hf
        refine lv_tableIn (off := 197) (tgt := 229) hx hb dL_law_32 (by rw [c32_3]; decide) (by rw [c32_3]; decide) (by rw [c32_3]; rfl) (by decide) ?_
        exact law_c229 l X h1e _ K794 _ _ _ _ _ _ _ hf hP hS (lv_sub hl [0, 1, 2, 3] rfl)
      have hf := (if_neg c32_3).symm.trans hf
      by_cases c32_4 : w32 = (4 : Int32)
      · have hf := (if_pos c32_4).symm.trans hf
        refine lv_tableIn (off := 210) (tgt := 242) hx hb dL_law_32 (by rw [c32_4]; decide) (by rw [c32_4]; decide) (by rw [c32_4]; rfl) (by decide) ?_
        exact law_c242 l X h1e _ K794 _ _ _ _ _ _ _ hf hP hS (lv_sub hl [0, 1, 2, 3] rfl)
      have hf := (if_neg c32_4).symm.trans hf
      by_cases c32_5 : w32 = (5 : Int32)
      · have hf := (if_pos c32_5).symm.trans hf
        refine lv_tableIn (off := 243) (tgt := 275) hx hb dL_law_32 (by rw [c32_5]; decide) (by rw [c32_5]; decide) (by rw [c32_5]; rfl) (by decide) ?_
        exact law_c275 l X h1e _ K794 _ _ _ _ _ _ _ hf hP hS (lv_sub hl [0, 1, 2, 3] rfl)
      have hf := (if_neg c32_5).symm.trans hf
      by_cases c32_6 : w32 = (6 : Int32)
      · have hf := (if_pos c32_6).symm.trans hf
        refine lv_tableIn (off := 286) (tgt := 318) hx hb dL_law_32 (by rw [c32_6]; decide) (by rw [c32_6]; decide) (by rw [c32_6]; rfl) (by decide) ?_
        exact law_c318 l X h1e _ K794 _ _ _ _ _ _ _ hf hP hS (lv_sub hl [0, 1, 2, 3] rfl)
      have hf := (if_neg c32_6).symm.trans hf
      by_cases c32_7 : w32 = (7 : Int32)
      · have hf := (if_pos c32_7).symm.trans hf
        refine lv_tableIn (off := 329) (tgt := 361) hx hb dL_law_32 (by rw [c32_7]; decide) (by rw [c32_7]; decide) (by rw [c32_7]; rfl) (by decide) ?_
        exact law_c361 l X h1e _ K794 _ _ _ _ _ _ _ hf hP hS (lv_sub hl [0, 1, 2, 3] rfl)
      have hf := (if_neg c32_7).symm.trans hf
      by_cases c32_8 : w32 = (8 : Int32)
      · have hf := (if_pos c32_8).symm.trans hf
        refine lv_tableIn (off := 342) (tgt := 374) hx hb dL_law_32 (by rw [c32_8]; decide) (by rw [c32_8]; decide) (by rw [c32_8]; rfl) (by decide) ?_
        exact law_c374 l X h1e _ K794 _ _ _ _ _ _ _ hf hP hS (lv_sub hl [0, 1, 2, 3] rfl)
      have hf := (if_neg c32_8).symm.trans hf
      by_cases c32_9 : w32 = (9 : Int32)
      · have hf := (if_pos c32_9).symm.trans hf
        refine lv_tableIn (off := 355) (tgt := 387) hx hb dL_law_32 (by rw [c32_9]; decide) (by rw [c32_9]; decide) (by rw [c32_9]; rfl) (by decide) ?_
        exact law_c387 l X h1e _ K794 _ _ _ _ _ _ _ hf hP hS (lv_sub hl [0, 1, 2, 3] rfl)
      have hf := (if_neg c32_9).symm.trans hf
      by_cases c32_10 : w32 = (10 : Int32)
      · have hf := (if_pos c32_10).symm.trans hf
        refine lv_tableIn (off := 390) (tgt := 422) hx hb dL_law_32 (by rw [c32_10]; decide) (by rw [c32_10]; decide) (by rw [c32_10]; rfl) (by decide) ?_
        exact law_c422 l X h1e _ K794 _ _ _ _ _ _ _ hf hP hS (lv_sub hl [0, 1, 2, 3] rfl)
      have hf := (if_neg c32_10).symm.trans hf
      by_cases c32_11 : w32 = (11 : Int32)
      · have hf := (if_pos c32_11).symm.trans hf
        refine lv_tableIn (off := 423) (tgt := 455) hx hb dL_law_32 (by rw [c32_11]; decide) (by rw [c32_11]; decide) (by rw [c32_11]; rfl) (by decide) ?_
        exact law_c455 l X h1e _ K794 _ _ _ _ _ _ _ hf hP hS (lv_sub hl [0, 1, 2, 3] rfl)
      have hf := (if_neg c32_11).symm.trans hf
      by_cases c32_12 : w32 = (12 : Int32)
      · have hf := (if_pos c32_12).symm.trans hf
        refine lv_tableIn (off := 436) (tgt := 468) hx hb dL_law_32 (by rw [c32_12]; decide) (by rw [c32_12]; decide) (by rw [c32_12]; rfl) (by decide) ?_
        exact law_c468 l X h1e _ K794 _ _ _ _ _ _ _ hf hP hS (lv_sub hl [0, 1, 2, 3] rfl)
      have hf := (if_neg c32_12).symm.trans hf
      by_cases c32_13 : w32 = (13 : Int32)
      · have hf := (if_pos c32_13).symm.trans hf
        refine lv_tableIn (off := 449) (tgt := 481) hx hb dL_law_32 (by rw [c32_13]; decide) (by rw [c32_13]; decide) (by rw [c32_13]; rfl) (by decide) ?_
        exact law_c481 l X h1e _ K794 _ _ _ _ _ _ _ hf hP hS (lv_sub hl [0, 1, 2, 3] rfl)
      have hf := (if_neg c32_13).symm.trans hf
      by_cases c32_14 : w32 = (14 : Int32)
      · have hf := (if_pos c32_14).symm.trans hf
        refine lv_tableIn (off := 472) (tgt := 504) hx hb dL_law_32 (by rw [c32_14]; decide) (by rw [c32_14]; decide) (by rw [c32_14]; rfl) (by decide) ?_
        exact law_c504 l X h1e _ K794 _ _ _ _ _ _ _ hf hP hS (lv_sub hl [0, 1, 2, 3] rfl)
      have hf := (if_neg c32_14).symm.trans hf
      by_cases c32_15 : w32 = (15 : Int32)
      · have hf := (if_pos c32_15).symm.trans hf
        refine lv_tableIn (off := 495) (tgt := 527) hx hb dL_law_32 (by rw [c32_15]; decide) (by rw [c32_15]; decide) (by rw [c32_15]; rfl) (by decide) ?_
        exact law_c527 l X h1e _ K794 _ _ _ _ _ _ _ hf hP hS (lv_sub hl [0, 1, 2, 3] rfl)
      have hf := (if_neg c32_15).symm.trans hf
      by_cases c32_16 : w32 = (16 : Int32)
      · have hf := (if_pos c32_16).symm.trans hf
        refine lv_tableIn (off := 528) (tgt := 560) hx hb dL_law_32 (by rw [c32_16]; decide) (by rw [c32_16]; decide) (by rw [c32_16]; rfl) (by decide) ?_
        exact law_c560 l X h1e _ K794 _ _ _ _ _ _ _ hf hP hS (lv_sub hl [0, 1, 2, 3] rfl)
      have hf := (if_neg c32_16).symm.trans hf
      by_cases c32_17 : w32 = (17 : Int32)
      · have hf := (if_pos c32_17).symm.trans hf
        refine lv_tableIn (off := 561) (tgt := 593) hx hb dL_law_32 (by rw [c32_17]; decide) (by rw [c32_17]; decide) (by rw [c32_17]; rfl) (by decide) ?_
        exact law_c593 l X h1e _ K794 _ _ _ _ _ _ _ hf hP hS (lv_sub hl [0, 1, 2, 3] rfl)
      have hf := (if_neg c32_17).symm.trans hf
      by_cases c32_18 : w32 = (18 : Int32)
      · have hf := (if_pos c32_18).symm.trans hf
        refine lv_tableIn (off := 594) (tgt := 626) hx hb dL_law_32 (by rw [c32_18]; decide) (by rw [c32_18]; decide) (by rw [c32_18]; rfl) (by decide) ?_
        exact law_c626 l X h1e _ K794 _ _ _ _ _ _ _ hf hP hS (lv_sub hl [0, 1, 2, 3] rfl)
      have hf := (if_neg c32_18).symm.trans hf
      by_cases c32_19 : w32 = (19 : Int32)
      · have hf := (if_pos c32_19).symm.trans hf
        refine lv_tableIn (off := 617) (tgt := 649) hx hb dL_law_32 (by rw [c32_19]; decide) (by rw [c32_19]; decide) (by rw [c32_19]; rfl) (by decide) ?_
        exact law_c649 l X h1e _ K794 _ _ _ _ _ _ _ hf hP hS (lv_sub hl [0, 1, 2, 3] rfl)
      have hf := (if_neg c32_19).symm.trans hf
      by_cases c32_20 : w32 = (20 : Int32)
      · have hf := (if_pos c32_20).symm.trans hf
        refine lv_tableIn (off := 650) (tgt := 682) hx hb dL_law_32 (by rw [c32_20]; decide) (by rw [c32_20]; decide) (by rw [c32_20]; rfl) (by decide) ?_
        exact law_c682 l X h1e _ K794 _ _ _ _ _ _ _ hf hP hS (lv_sub hl [0, 1, 2, 3] rfl)
      have hf := (if_neg c32_20).symm.trans hf
      by_cases c32_21 : w32 = (21 : Int32)
      · have hf := (if_pos c32_21).symm.trans hf
        refine lv_tableIn (off := 673) (tgt := 705) hx hb dL_law_32 (by rw [c32_21]; decide) (by rw [c32_21]; decide) (by rw [c32_21]; rfl) (by decide) ?_
        exact law_c705 l X h1e _ K794 _ _ _ _ _ _ _ hf hP hS (lv_sub hl [0, 1, 2, 3] rfl)
      have hf := (if_neg c32_21).symm.trans hf
      by_cases c32_22 : w32 = (22 : Int32)
      · have hf := (if_pos c32_22).symm.trans hf
        refine lv_tableIn (off := 706) (tgt := 738) hx hb dL_law_32 (by rw [c32_22]; decide) (by rw [c32_22]; decide) (by rw [c32_22]; rfl) (by decide) ?_
        exact law_c738 l X h1e _ K794 _ _ _ _ _ _ _ hf hP hS (lv_sub hl [0, 1, 2, 3] rfl)
      have hf := (if_neg c32_22).symm.trans hf
      by_cases c32_23 : w32 = (23 : Int32)
      · have hf := (if_pos c32_23).symm.trans hf
        refine lv_tableIn (off := 739) (tgt := 771) hx hb dL_law_32 (by rw [c32_23]; decide) (by rw [c32_23]; decide) (by rw [c32_23]; rfl) (by decide) ?_
        exact law_c771 l X h1e _ K794 _ _ _ _ _ _ _ hf hP hS (lv_sub hl [0, 1, 2, 3] rfl)
      have hf := (if_neg c32_23).symm.trans hf
      refine lv_tableOut (tgt := 794) hx hb dL_law_32 (ztab (hi := 23) (by decide) (fun k hk => by rcases (show k = 0 ∨ k = 1 ∨ k = 2 ∨ k = 3 ∨ k = 4 ∨ k = 5 ∨ k = 6 ∨ k = 7 ∨ k = 8 ∨ k = 9 ∨ k = 10 ∨ k = 11 ∨ k = 12 ∨ k = 13 ∨ k = 14 ∨ k = 15 ∨ k = 16 ∨ k = 17 ∨ k = 18 ∨ k = 19 ∨ k = 20 ∨ k = 21 ∨ k = 22 ∨ k = 23 by omega) with rfl | rfl | rfl | rfl | rfl | rfl | rfl | rfl | rfl | rfl | rfl | rfl | rfl | rfl | rfl | rfl | rfl | rfl | rfl | rfl | rfl | rfl | rfl | rfl <;> assumption)) (by decide) ?_
      exact K794 _ _ _ _ _ _ _ hf hP hS (lv_sub hl [0, 1, 2, 3] rfl)
