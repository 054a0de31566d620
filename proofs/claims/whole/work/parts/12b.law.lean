/-! ===== the law's loop ===== -/
section LW
variable {xs : Nat → Int32} {L : Nat} {k : Mem → Nat → Nat → Int32 → Option (Int32 × Mem)} {M : Mem} {i : Nat}
theorem zx (hL : L ≤ 2048) {j : Nat} (hj : i + j < L) : zxs xs L (nI i + nI j) = some (xs (i + j)) := by
  unfold zxs
  rw [nI_add, nI_clamp (by omega), if_pos (fun z => by
    rcases z with z | z
    · exact nI_pos (by omega) z
    · omega)]
theorem L_c144 (hL : L ≤ 2048) (hI : Inv M) (hi : i + 3 < L) : ∃ M2, Inv M2 ∧ fL_c144 xs L k M 0 279 (nI i) = k M2 0 279 (nI i) := by
  obtain ⟨c, hc, ec⟩ := chr_u16 (xs (i + 1))
  obtain ⟨r, M1, M2, o1, o2, o3, o4⟩ := setClass_ok hI hc (xs (i + 2))
  have o5 : fX9_setClass M1 279 (nI c) (xs (i + 2)) = some (r, M2) := o3
  refine ⟨M2, o4, ?_⟩
  unfold fL_c144
  rw [show zxs xs L (nI i + (1 : Int32)) = some (xs (i + 1)) from zx (j := 1) hL (by omega), Option.bind_some, show zxs xs L (nI i + (2 : Int32)) = some (xs (i + 2)) from zx (j := 2) hL (by omega), Option.bind_some, ec, zck_f hI.1 (by decide) zk_0, Option.bind_some, o1, Option.bind_some]
  dsimp only
  rw [Option.bind_some, Option.bind_some, ec, zck_f o2 (by decide) zk_279, Option.bind_some, o5, Option.bind_some, if_pos rfl]
theorem L_c179 (hL : L ≤ 2048) (hI : Inv M) (hi : i + 3 < L) : ∃ M2, Inv M2 ∧ fL_c179 xs L k M 0 279 (nI i) = k M2 0 279 (nI i) := by
  obtain ⟨c, hc, ec⟩ := chr_u16 (xs (i + 1))
  obtain ⟨r, M1, M2, o1, o2, o3, o4⟩ := classOf_ok hI hc
  have o5 : fX9_classOf M1 279 (nI c) = some (r, M2) := o3
  refine ⟨M2, o4, ?_⟩
  unfold fL_c179
  rw [show zxs xs L (nI i + (1 : Int32)) = some (xs (i + 1)) from zx (j := 1) hL (by omega), Option.bind_some, ec, zck_f hI.1 (by decide) zk_0, Option.bind_some, o1, Option.bind_some]
  dsimp only
  rw [Option.bind_some, ec, zck_f o2 (by decide) zk_279, Option.bind_some, o5, Option.bind_some, if_pos rfl]
theorem L_c204 (hL : L ≤ 2048) (hI : Inv M) (hi : i + 3 < L) : ∃ M2, Inv M2 ∧ fL_c204 xs L k M 0 279 (nI i) = k M2 0 279 (nI i) := by
  obtain ⟨c, hc, ec⟩ := chr_u16 (xs (i + 1))
  obtain ⟨r, M1, M2, o1, o2, o3, o4⟩ := type_ok hI hc
  have o5 : fX9_type M1 279 (nI c) = some (r, M2) := o3
  refine ⟨M2, o4, ?_⟩
  unfold fL_c204
  rw [show zxs xs L (nI i + (1 : Int32)) = some (xs (i + 1)) from zx (j := 1) hL (by omega), Option.bind_some, ec, zck_f hI.1 (by decide) zk_0, Option.bind_some, o1, Option.bind_some]
  dsimp only
  rw [Option.bind_some, ec, zck_f o2 (by decide) zk_279, Option.bind_some, o5, Option.bind_some, if_pos rfl]
theorem L_c229 (hL : L ≤ 2048) (hI : Inv M) (hi : i + 3 < L) : ∃ M2, Inv M2 ∧ fL_c229 xs L k M 0 279 (nI i) = k M2 0 279 (nI i) := by
  obtain ⟨r, M1, M2, o1, o2, o3, o4⟩ := clear_ok hI 
  have o5 : fX9_clearPattern M1 279  = some (r, M2) := o3
  refine ⟨M2, o4, ?_⟩
  unfold fL_c229
  rw [zck_f hI.1 (by decide) zk_0, Option.bind_some, o1, Option.bind_some]
  dsimp only
  rw [zck_f o2 (by decide) zk_279, Option.bind_some, o5, Option.bind_some, if_pos rfl]
theorem L_c242 (hL : L ≤ 2048) (hI : Inv M) (hi : i + 3 < L) : ∃ M2, Inv M2 ∧ fL_c242 xs L k M 0 279 (nI i) = k M2 0 279 (nI i) := by
  obtain ⟨r, M1, M2, o1, o2, o3, o4⟩ := setRule_ok hI (xs (i + 1)) (xs (i + 2))
  have o5 : fX9_setRule M1 279 (xs (i + 1)) (xs (i + 2)) = some (r, M2) := o3
  refine ⟨M2, o4, ?_⟩
  unfold fL_c242
  rw [show zxs xs L (nI i + (1 : Int32)) = some (xs (i + 1)) from zx (j := 1) hL (by omega), Option.bind_some, show zxs xs L (nI i + (2 : Int32)) = some (xs (i + 2)) from zx (j := 2) hL (by omega), Option.bind_some, zck_f hI.1 (by decide) zk_0, Option.bind_some, o1, Option.bind_some]
  dsimp only
  rw [Option.bind_some, Option.bind_some, zck_f o2 (by decide) zk_279, Option.bind_some, o5, Option.bind_some, if_pos rfl]
theorem L_c275 (hL : L ≤ 2048) (hI : Inv M) (hi : i + 3 < L) : ∃ M2, Inv M2 ∧ fL_c275 xs L k M 0 279 (nI i) = k M2 0 279 (nI i) := by
  obtain ⟨r, M1, M2, o1, o2, o3, o4⟩ := ruleText_ok hI (xs (i + 1)) (xs (i + 2)) (xs (i + 3))
  have o5 : fX9_ruleText M1 279 (xs (i + 1)) (xs (i + 2)) (xs (i + 3)) = some (r, M2) := o3
  refine ⟨M2, o4, ?_⟩
  unfold fL_c275
  rw [show zxs xs L (nI i + (1 : Int32)) = some (xs (i + 1)) from zx (j := 1) hL (by omega), Option.bind_some, show zxs xs L (nI i + (2 : Int32)) = some (xs (i + 2)) from zx (j := 2) hL (by omega), Option.bind_some, show zxs xs L (nI i + (3 : Int32)) = some (xs (i + 3)) from zx (j := 3) hL (by omega), Option.bind_some, zck_f hI.1 (by decide) zk_0, Option.bind_some, o1, Option.bind_some]
  dsimp only
  rw [Option.bind_some, Option.bind_some, Option.bind_some, zck_f o2 (by decide) zk_279, Option.bind_some, o5, Option.bind_some, if_pos rfl]
theorem L_c318 (hL : L ≤ 2048) (hI : Inv M) (hi : i + 3 < L) : ∃ M2, Inv M2 ∧ fL_c318 xs L k M 0 279 (nI i) = k M2 0 279 (nI i) := by
  obtain ⟨r, M1, M2, o1, o2, o3, o4⟩ := matchLength_ok hI (xs (i + 1)) (xs (i + 2)) (xs (i + 3))
  have o5 : fX9_matchLength M1 279 (xs (i + 1)) (xs (i + 2)) (xs (i + 3)) = some (r, M2) := o3
  refine ⟨M2, o4, ?_⟩
  unfold fL_c318
  rw [show zxs xs L (nI i + (1 : Int32)) = some (xs (i + 1)) from zx (j := 1) hL (by omega), Option.bind_some, show zxs xs L (nI i + (2 : Int32)) = some (xs (i + 2)) from zx (j := 2) hL (by omega), Option.bind_some, show zxs xs L (nI i + (3 : Int32)) = some (xs (i + 3)) from zx (j := 3) hL (by omega), Option.bind_some, zck_f hI.1 (by decide) zk_0, Option.bind_some, o1, Option.bind_some]
  dsimp only
  rw [Option.bind_some, Option.bind_some, Option.bind_some, zck_f o2 (by decide) zk_279, Option.bind_some, o5, Option.bind_some, if_pos rfl]
theorem L_c361 (hL : L ≤ 2048) (hI : Inv M) (hi : i + 3 < L) : ∃ M2, Inv M2 ∧ fL_c361 xs L k M 0 279 (nI i) = k M2 0 279 (nI i) := by
  obtain ⟨r, M1, M2, o1, o2, o3, o4⟩ := addException_ok hI 
  have o5 : fX9_addException M1 279  = some (r, M2) := o3
  refine ⟨M2, o4, ?_⟩
  unfold fL_c361
  rw [zck_f hI.1 (by decide) zk_0, Option.bind_some, o1, Option.bind_some]
  dsimp only
  rw [zck_f o2 (by decide) zk_279, Option.bind_some, o5, Option.bind_some, if_pos rfl]
theorem L_c374 (hL : L ≤ 2048) (hI : Inv M) (hi : i + 3 < L) : ∃ M2, Inv M2 ∧ fL_c374 xs L k M 0 279 (nI i) = k M2 0 279 (nI i) := by
  obtain ⟨r, M1, M2, o1, o2, o3, o4⟩ := removeException_ok hI 
  have o5 : fX9_removeException M1 279  = some (r, M2) := o3
  refine ⟨M2, o4, ?_⟩
  unfold fL_c374
  rw [zck_f hI.1 (by decide) zk_0, Option.bind_some, o1, Option.bind_some]
  dsimp only
  rw [zck_f o2 (by decide) zk_279, Option.bind_some, o5, Option.bind_some, if_pos rfl]
theorem L_c387 (hL : L ≤ 2048) (hI : Inv M) (hi : i + 3 < L) : ∃ M2, Inv M2 ∧ fL_c387 xs L k M 0 279 (nI i) = k M2 0 279 (nI i) := by
  obtain ⟨c, hc, ec⟩ := chr_u16 (xs (i + 2))
  obtain ⟨r, M1, M2, o1, o2, o3, o4⟩ := insert_ok hI (xs (i + 1)) hc
  have o5 : fX9_insert M1 279 (xs (i + 1)) (nI c) = some (r, M2) := o3
  refine ⟨M2, o4, ?_⟩
  unfold fL_c387
  rw [show zxs xs L (nI i + (1 : Int32)) = some (xs (i + 1)) from zx (j := 1) hL (by omega), Option.bind_some, show zxs xs L (nI i + (2 : Int32)) = some (xs (i + 2)) from zx (j := 2) hL (by omega), Option.bind_some, ec, zck_f hI.1 (by decide) zk_0, Option.bind_some, o1, Option.bind_some]
  dsimp only
  rw [Option.bind_some, Option.bind_some, ec, zck_f o2 (by decide) zk_279, Option.bind_some, o5, Option.bind_some, if_pos rfl]
theorem L_c422 (hL : L ≤ 2048) (hI : Inv M) (hi : i + 3 < L) : ∃ M2, Inv M2 ∧ fL_c422 xs L k M 0 279 (nI i) = k M2 0 279 (nI i) := by
  obtain ⟨r, M1, M2, o1, o2, o3, o4⟩ := erase_ok hI (xs (i + 1)) (xs (i + 2))
  have o5 : fX9_erase M1 279 (xs (i + 1)) (xs (i + 2)) = some (r, M2) := o3
  refine ⟨M2, o4, ?_⟩
  unfold fL_c422
  rw [show zxs xs L (nI i + (1 : Int32)) = some (xs (i + 1)) from zx (j := 1) hL (by omega), Option.bind_some, show zxs xs L (nI i + (2 : Int32)) = some (xs (i + 2)) from zx (j := 2) hL (by omega), Option.bind_some, zck_f hI.1 (by decide) zk_0, Option.bind_some, o1, Option.bind_some]
  dsimp only
  rw [Option.bind_some, Option.bind_some, zck_f o2 (by decide) zk_279, Option.bind_some, o5, Option.bind_some, if_pos rfl]
theorem L_c455 (hL : L ≤ 2048) (hI : Inv M) (hi : i + 3 < L) : ∃ M2, Inv M2 ∧ fL_c455 xs L k M 0 279 (nI i) = k M2 0 279 (nI i) := by
  obtain ⟨r, M1, M2, o1, o2, o3, o4⟩ := undo_ok hI 
  have o5 : fX9_undo M1 279  = some (r, M2) := o3
  refine ⟨M2, o4, ?_⟩
  unfold fL_c455
  rw [zck_f hI.1 (by decide) zk_0, Option.bind_some, o1, Option.bind_some]
  dsimp only
  rw [zck_f o2 (by decide) zk_279, Option.bind_some, o5, Option.bind_some, if_pos rfl]
theorem L_c468 (hL : L ≤ 2048) (hI : Inv M) (hi : i + 3 < L) : ∃ M2, Inv M2 ∧ fL_c468 xs L k M 0 279 (nI i) = k M2 0 279 (nI i) := by
  obtain ⟨r, M1, M2, o1, o2, o3, o4⟩ := redo_ok hI 
  have o5 : fX9_redo M1 279  = some (r, M2) := o3
  refine ⟨M2, o4, ?_⟩
  unfold fL_c468
  rw [zck_f hI.1 (by decide) zk_0, Option.bind_some, o1, Option.bind_some]
  dsimp only
  rw [zck_f o2 (by decide) zk_279, Option.bind_some, o5, Option.bind_some, if_pos rfl]
theorem L_c481 (hL : L ≤ 2048) (hI : Inv M) (hi : i + 3 < L) : ∃ M2, Inv M2 ∧ fL_c481 xs L k M 0 279 (nI i) = k M2 0 279 (nI i) := by
  obtain ⟨r, M1, M2, o1, o2, o3, o4⟩ := charAt_ok hI (xs (i + 1))
  have o5 : fX9_charAt M1 279 (xs (i + 1)) = some (r, M2) := o3
  refine ⟨M2, o4, ?_⟩
  unfold fL_c481
  rw [show zxs xs L (nI i + (1 : Int32)) = some (xs (i + 1)) from zx (j := 1) hL (by omega), Option.bind_some, zck_f hI.1 (by decide) zk_0, Option.bind_some, o1, Option.bind_some]
  dsimp only
  rw [Option.bind_some, zck_f o2 (by decide) zk_279, Option.bind_some, o5, Option.bind_some, if_pos rfl]
theorem L_c504 (hL : L ≤ 2048) (hI : Inv M) (hi : i + 3 < L) : ∃ M2, Inv M2 ∧ fL_c504 xs L k M 0 279 (nI i) = k M2 0 279 (nI i) := by
  obtain ⟨r, M1, M2, o1, o2, o3, o4⟩ := value_ok hI (xs (i + 1))
  have o5 : fX9_value M1 279 (xs (i + 1)) = some (r, M2) := o3
  refine ⟨M2, o4, ?_⟩
  unfold fL_c504
  rw [show zxs xs L (nI i + (1 : Int32)) = some (xs (i + 1)) from zx (j := 1) hL (by omega), Option.bind_some, zck_f hI.1 (by decide) zk_0, Option.bind_some, o1, Option.bind_some]
  dsimp only
  rw [Option.bind_some, zck_f o2 (by decide) zk_279, Option.bind_some, o5, Option.bind_some, if_pos rfl]
theorem L_c527 (hL : L ≤ 2048) (hI : Inv M) (hi : i + 3 < L) : ∃ M2, Inv M2 ∧ fL_c527 xs L k M 0 279 (nI i) = k M2 0 279 (nI i) := by
  obtain ⟨r, M1, M2, o1, o2, o3, o4⟩ := boundaryAt_ok hI (xs (i + 1)) (xs (i + 2))
  have o5 : fX9_boundaryAt M1 279 (xs (i + 1)) (xs (i + 2)) = some (r, M2) := o3
  refine ⟨M2, o4, ?_⟩
  unfold fL_c527
  rw [show zxs xs L (nI i + (1 : Int32)) = some (xs (i + 1)) from zx (j := 1) hL (by omega), Option.bind_some, show zxs xs L (nI i + (2 : Int32)) = some (xs (i + 2)) from zx (j := 2) hL (by omega), Option.bind_some, zck_f hI.1 (by decide) zk_0, Option.bind_some, o1, Option.bind_some]
  dsimp only
  rw [Option.bind_some, Option.bind_some, zck_f o2 (by decide) zk_279, Option.bind_some, o5, Option.bind_some, if_pos rfl]
theorem L_c560 (hL : L ≤ 2048) (hI : Inv M) (hi : i + 3 < L) : ∃ M2, Inv M2 ∧ fL_c560 xs L k M 0 279 (nI i) = k M2 0 279 (nI i) := by
  obtain ⟨r, M1, M2, o1, o2, o3, o4⟩ := next_ok hI (xs (i + 1)) (xs (i + 2))
  have o5 : fX9_next M1 279 (xs (i + 1)) (xs (i + 2)) = some (r, M2) := o3
  refine ⟨M2, o4, ?_⟩
  unfold fL_c560
  rw [show zxs xs L (nI i + (1 : Int32)) = some (xs (i + 1)) from zx (j := 1) hL (by omega), Option.bind_some, show zxs xs L (nI i + (2 : Int32)) = some (xs (i + 2)) from zx (j := 2) hL (by omega), Option.bind_some, zck_f hI.1 (by decide) zk_0, Option.bind_some, o1, Option.bind_some]
  dsimp only
  rw [Option.bind_some, Option.bind_some, zck_f o2 (by decide) zk_279, Option.bind_some, o5, Option.bind_some, if_pos rfl]
theorem L_c593 (hL : L ≤ 2048) (hI : Inv M) (hi : i + 3 < L) : ∃ M2, Inv M2 ∧ fL_c593 xs L k M 0 279 (nI i) = k M2 0 279 (nI i) := by
  obtain ⟨r, M1, M2, o1, o2, o3, o4⟩ := previous_ok hI (xs (i + 1)) (xs (i + 2))
  have o5 : fX9_previous M1 279 (xs (i + 1)) (xs (i + 2)) = some (r, M2) := o3
  refine ⟨M2, o4, ?_⟩
  unfold fL_c593
  rw [show zxs xs L (nI i + (1 : Int32)) = some (xs (i + 1)) from zx (j := 1) hL (by omega), Option.bind_some, show zxs xs L (nI i + (2 : Int32)) = some (xs (i + 2)) from zx (j := 2) hL (by omega), Option.bind_some, zck_f hI.1 (by decide) zk_0, Option.bind_some, o1, Option.bind_some]
  dsimp only
  rw [Option.bind_some, Option.bind_some, zck_f o2 (by decide) zk_279, Option.bind_some, o5, Option.bind_some, if_pos rfl]
theorem L_c626 (hL : L ≤ 2048) (hI : Inv M) (hi : i + 3 < L) : ∃ M2, Inv M2 ∧ fL_c626 xs L k M 0 279 (nI i) = k M2 0 279 (nI i) := by
  obtain ⟨r, M1, M2, o1, o2, o3, o4⟩ := segmentCount_ok hI (xs (i + 1))
  have o5 : fX9_segmentCount M1 279 (xs (i + 1)) = some (r, M2) := o3
  refine ⟨M2, o4, ?_⟩
  unfold fL_c626
  rw [show zxs xs L (nI i + (1 : Int32)) = some (xs (i + 1)) from zx (j := 1) hL (by omega), Option.bind_some, zck_f hI.1 (by decide) zk_0, Option.bind_some, o1, Option.bind_some]
  dsimp only
  rw [Option.bind_some, zck_f o2 (by decide) zk_279, Option.bind_some, o5, Option.bind_some, if_pos rfl]
theorem L_c649 (hL : L ≤ 2048) (hI : Inv M) (hi : i + 3 < L) : ∃ M2, Inv M2 ∧ fL_c649 xs L k M 0 279 (nI i) = k M2 0 279 (nI i) := by
  obtain ⟨r, M1, M2, o1, o2, o3, o4⟩ := segment_ok hI (xs (i + 1)) (xs (i + 2))
  have o5 : fX9_segment M1 279 (xs (i + 1)) (xs (i + 2)) = some (r, M2) := o3
  refine ⟨M2, o4, ?_⟩
  unfold fL_c649
  rw [show zxs xs L (nI i + (1 : Int32)) = some (xs (i + 1)) from zx (j := 1) hL (by omega), Option.bind_some, show zxs xs L (nI i + (2 : Int32)) = some (xs (i + 2)) from zx (j := 2) hL (by omega), Option.bind_some, zck_f hI.1 (by decide) zk_0, Option.bind_some, o1, Option.bind_some]
  dsimp only
  rw [Option.bind_some, Option.bind_some, zck_f o2 (by decide) zk_279, Option.bind_some, o5, Option.bind_some, if_pos rfl]
theorem L_c682 (hL : L ≤ 2048) (hI : Inv M) (hi : i + 3 < L) : ∃ M2, Inv M2 ∧ fL_c682 xs L k M 0 279 (nI i) = k M2 0 279 (nI i) := by
  obtain ⟨r, M1, M2, o1, o2, o3, o4⟩ := longest_ok hI (xs (i + 1))
  have o5 : fX9_longest M1 279 (xs (i + 1)) = some (r, M2) := o3
  refine ⟨M2, o4, ?_⟩
  unfold fL_c682
  rw [show zxs xs L (nI i + (1 : Int32)) = some (xs (i + 1)) from zx (j := 1) hL (by omega), Option.bind_some, zck_f hI.1 (by decide) zk_0, Option.bind_some, o1, Option.bind_some]
  dsimp only
  rw [Option.bind_some, zck_f o2 (by decide) zk_279, Option.bind_some, o5, Option.bind_some, if_pos rfl]
theorem L_c705 (hL : L ≤ 2048) (hI : Inv M) (hi : i + 3 < L) : ∃ M2, Inv M2 ∧ fL_c705 xs L k M 0 279 (nI i) = k M2 0 279 (nI i) := by
  obtain ⟨r, M1, M2, o1, o2, o3, o4⟩ := segmentsWith_ok hI (xs (i + 1)) (xs (i + 2))
  have o5 : fX9_segmentsWith M1 279 (xs (i + 1)) (xs (i + 2)) = some (r, M2) := o3
  refine ⟨M2, o4, ?_⟩
  unfold fL_c705
  rw [show zxs xs L (nI i + (1 : Int32)) = some (xs (i + 1)) from zx (j := 1) hL (by omega), Option.bind_some, show zxs xs L (nI i + (2 : Int32)) = some (xs (i + 2)) from zx (j := 2) hL (by omega), Option.bind_some, zck_f hI.1 (by decide) zk_0, Option.bind_some, o1, Option.bind_some]
  dsimp only
  rw [Option.bind_some, Option.bind_some, zck_f o2 (by decide) zk_279, Option.bind_some, o5, Option.bind_some, if_pos rfl]
theorem L_c738 (hL : L ≤ 2048) (hI : Inv M) (hi : i + 3 < L) : ∃ M2, Inv M2 ∧ fL_c738 xs L k M 0 279 (nI i) = k M2 0 279 (nI i) := by
  obtain ⟨r, M1, M2, o1, o2, o3, o4⟩ := looksAt_ok hI (xs (i + 1)) (xs (i + 2))
  have o5 : fX9_looksAt M1 279 (xs (i + 1)) (xs (i + 2)) = some (r, M2) := o3
  refine ⟨M2, o4, ?_⟩
  unfold fL_c738
  rw [show zxs xs L (nI i + (1 : Int32)) = some (xs (i + 1)) from zx (j := 1) hL (by omega), Option.bind_some, show zxs xs L (nI i + (2 : Int32)) = some (xs (i + 2)) from zx (j := 2) hL (by omega), Option.bind_some, zck_f hI.1 (by decide) zk_0, Option.bind_some, o1, Option.bind_some]
  dsimp only
  rw [Option.bind_some, Option.bind_some, zck_f o2 (by decide) zk_279, Option.bind_some, o5, Option.bind_some, if_pos rfl]
theorem L_c771 (hL : L ≤ 2048) (hI : Inv M) (hi : i + 3 < L) : ∃ M2, Inv M2 ∧ fL_c771 xs L k M 0 279 (nI i) = k M2 0 279 (nI i) := by
  obtain ⟨r, M1, M2, o1, o2, o3, o4⟩ := work_ok hI (xs (i + 1))
  have o5 : fX9_work M1 279 (xs (i + 1)) = some (r, M2) := o3
  refine ⟨M2, o4, ?_⟩
  unfold fL_c771
  rw [show zxs xs L (nI i + (1 : Int32)) = some (xs (i + 1)) from zx (j := 1) hL (by omega), Option.bind_some, zck_f hI.1 (by decide) zk_0, Option.bind_some, o1, Option.bind_some]
  dsimp only
  rw [Option.bind_some, zck_f o2 (by decide) zk_279, Option.bind_some, o5, Option.bind_some, if_pos rfl]
theorem L_end (hL : L ≤ 2048) (hi : i ≤ 4000) : (Int32.ofNat L - (4 : Int32) < nI i) = (L < i + 4) := by
  rcases Nat.lt_or_ge L 4 with h | h
  · have h0 : ¬ nI i < 0 := nI_pos (by omega)
    have h1 : Int32.ofNat L - (4 : Int32) < 0 := by
      rcases (show L = 0 ∨ L = 1 ∨ L = 2 ∨ L = 3 by omega) with rfl | rfl | rfl | rfl <;> decide
    exact propext ⟨fun _ => by omega, fun _ => Int32.lt_of_lt_of_le h1 (Int32.not_lt.mp h0)⟩
  · rw [show Int32.ofNat L - (4 : Int32) = nI (L - 4) from pk_sub (a := L) (b := 4) h, nI_ltN (by omega) (by omega)]
    exact propext (by omega)
theorem L_loop (hL : L ≤ 2048) : ∀ d i fuel M, L < i + 4 + 4 * d → i ≤ 3000 → d < fuel → Inv M → ∃ M', fL_18L xs L fuel M 0 279 (nI i) = some (1, M') := by
  intro d
  induction d with
  | zero =>
    intro i fuel M hd hi hf hI
    obtain ⟨f, rfl⟩ : ∃ f, fuel = f + 1 := ⟨fuel - 1, by omega⟩
    refine ⟨M, ?_⟩
    show fL_18 xs L (fL_18L xs L f) M 0 279 (nI i) = _
    unfold fL_18
    rw [if_pos (show Int32.ofNat L - (4 : Int32) < nI i by rw [L_end hL (by omega)]; omega)]
  | succ d ih =>
    intro i fuel M hd hi hf hI
    obtain ⟨f, rfl⟩ : ∃ f, fuel = f + 1 := ⟨fuel - 1, by omega⟩
    have st : fL_18L xs L (f + 1) M 0 279 (nI i) = fL_18 xs L (fL_18L xs L f) M 0 279 (nI i) := rfl
    rw [st]
    by_cases he : L < i + 4
    · refine ⟨M, ?_⟩
      unfold fL_18
      rw [if_pos (show Int32.ofNat L - (4 : Int32) < nI i by rw [L_end hL (by omega)]; exact he)]
    have go : ∀ M2, Inv M2 → ∃ M', fL_794 (fL_18L xs L f) M2 0 279 (nI i) = some (1, M') := by
      intro M2 hI2
      unfold fL_794
      rw [zlt_e, show nI i + (4 : Int32) = nI (i + 4) from nI_add i 4]
      exact ih (i + 4) f M2 (by omega) (by omega) (by omega) hI2
    have via : ∀ {F : Option (Int32 × Mem)}, (∃ M2, Inv M2 ∧ F = fL_794 (fL_18L xs L f) M2 0 279 (nI i)) → ∃ M', F = some (1, M') := by
      intro F h
      obtain ⟨M2, h1, h2⟩ := h
      rw [h2]
      exact go M2 h1
    have z0 : zxs xs L (nI i) = some (xs i) := by
      have := zx (xs := xs) (i := i) (j := 0) hL (by omega)
      rw [nI_add] at this
      exact this
    unfold fL_18
    rw [if_neg (show ¬ Int32.ofNat L - (4 : Int32) < nI i by rw [L_end hL (by omega)]; exact he), z0, Option.bind_some, zlt_e]
    by_cases w0 : xs i &&& (31 : Int32) = (0 : Int32)
    · rw [if_pos w0]
      exact via (L_c144 hL hI (by omega))
    rw [if_neg w0]
    by_cases w1 : xs i &&& (31 : Int32) = (1 : Int32)
    · rw [if_pos w1]
      exact via (L_c179 hL hI (by omega))
    rw [if_neg w1]
    by_cases w2 : xs i &&& (31 : Int32) = (2 : Int32)
    · rw [if_pos w2]
      exact via (L_c204 hL hI (by omega))
    rw [if_neg w2]
    by_cases w3 : xs i &&& (31 : Int32) = (3 : Int32)
    · rw [if_pos w3]
      exact via (L_c229 hL hI (by omega))
    rw [if_neg w3]
    by_cases w4 : xs i &&& (31 : Int32) = (4 : Int32)
    · rw [if_pos w4]
      exact via (L_c242 hL hI (by omega))
    rw [if_neg w4]
    by_cases w5 : xs i &&& (31 : Int32) = (5 : Int32)
    · rw [if_pos w5]
      exact via (L_c275 hL hI (by omega))
    rw [if_neg w5]
    by_cases w6 : xs i &&& (31 : Int32) = (6 : Int32)
    · rw [if_pos w6]
      exact via (L_c318 hL hI (by omega))
    rw [if_neg w6]
    by_cases w7 : xs i &&& (31 : Int32) = (7 : Int32)
    · rw [if_pos w7]
      exact via (L_c361 hL hI (by omega))
    rw [if_neg w7]
    by_cases w8 : xs i &&& (31 : Int32) = (8 : Int32)
    · rw [if_pos w8]
      exact via (L_c374 hL hI (by omega))
    rw [if_neg w8]
    by_cases w9 : xs i &&& (31 : Int32) = (9 : Int32)
    · rw [if_pos w9]
      exact via (L_c387 hL hI (by omega))
    rw [if_neg w9]
    by_cases w10 : xs i &&& (31 : Int32) = (10 : Int32)
    · rw [if_pos w10]
      exact via (L_c422 hL hI (by omega))
    rw [if_neg w10]
    by_cases w11 : xs i &&& (31 : Int32) = (11 : Int32)
    · rw [if_pos w11]
      exact via (L_c455 hL hI (by omega))
    rw [if_neg w11]
    by_cases w12 : xs i &&& (31 : Int32) = (12 : Int32)
    · rw [if_pos w12]
      exact via (L_c468 hL hI (by omega))
    rw [if_neg w12]
    by_cases w13 : xs i &&& (31 : Int32) = (13 : Int32)
    · rw [if_pos w13]
      exact via (L_c481 hL hI (by omega))
    rw [if_neg w13]
    by_cases w14 : xs i &&& (31 : Int32) = (14 : Int32)
    · rw [if_pos w14]
      exact via (L_c504 hL hI (by omega))
    rw [if_neg w14]
    by_cases w15 : xs i &&& (31 : Int32) = (15 : Int32)
    · rw [if_pos w15]
      exact via (L_c527 hL hI (by omega))
    rw [if_neg w15]
    by_cases w16 : xs i &&& (31 : Int32) = (16 : Int32)
    · rw [if_pos w16]
      exact via (L_c560 hL hI (by omega))
    rw [if_neg w16]
    by_cases w17 : xs i &&& (31 : Int32) = (17 : Int32)
    · rw [if_pos w17]
      exact via (L_c593 hL hI (by omega))
    rw [if_neg w17]
    by_cases w18 : xs i &&& (31 : Int32) = (18 : Int32)
    · rw [if_pos w18]
      exact via (L_c626 hL hI (by omega))
    rw [if_neg w18]
    by_cases w19 : xs i &&& (31 : Int32) = (19 : Int32)
    · rw [if_pos w19]
      exact via (L_c649 hL hI (by omega))
    rw [if_neg w19]
    by_cases w20 : xs i &&& (31 : Int32) = (20 : Int32)
    · rw [if_pos w20]
      exact via (L_c682 hL hI (by omega))
    rw [if_neg w20]
    by_cases w21 : xs i &&& (31 : Int32) = (21 : Int32)
    · rw [if_pos w21]
      exact via (L_c705 hL hI (by omega))
    rw [if_neg w21]
    by_cases w22 : xs i &&& (31 : Int32) = (22 : Int32)
    · rw [if_pos w22]
      exact via (L_c738 hL hI (by omega))
    rw [if_neg w22]
    by_cases w23 : xs i &&& (31 : Int32) = (23 : Int32)
    · rw [if_pos w23]
      exact via (L_c771 hL hI (by omega))
    rw [if_neg w23]
    exact go M hI
theorem L_law (hL : L ≤ 2048) : ∃ M', fL_law xs L = some (1, M') := by
  rw [y_law]
  exact L_loop hL 520 0 zFU yD (by omega) (by omega) (by unfold zFU; omega) y_inv
end LW
