theorem hi_X8_segmentCount_4 : ∀ w ∈ wsX40, w ∈ wsX8_segmentCount := fun _ h => List.mem_cons_of_mem _ (List.mem_append_left _ (List.mem_append_right _ h))
theorem hi_X8_segmentCount_7 : ∀ w ∈ wsX70, w ∈ wsX8_segmentCount := fun _ h => List.mem_cons_of_mem _ (List.mem_append_left _ (List.mem_append_left _ (List.mem_append_right _ h)))
theorem hi_X8_segmentCount_8 : ∀ w ∈ wsX80, w ∈ wsX8_segmentCount := fun _ h => List.mem_cons_of_mem _ (List.mem_append_left _ (List.mem_append_left _ (List.mem_append_left _ (List.mem_append_right _ h))))
set_option maxHeartbeats 4000000 in
set_option maxRecDepth 100000 in
theorem k_X8_segmentCount (l : Launch) (D : va_G) (cy : Nat → ClassId) (b : Nat) (M0 : Mem) (h0 : Nat) (x1 : Int32) (rr : Int32 × Mem) (hf : fX8_segmentCount M0 h0 x1 = some rr) : Met l yX8_segmentCount wsX8_segmentCount ({ frames := 6, cells := 0, slots := 0, locals := 136 } : Room) (zPc D cy b M0 [.ref (b + h0), .int x1]) (zQi D cy b rr) 0 0 (zA b) := by
  refine Met.ofW (cc := cX8_segmentCount) (maxL := 4) (ret := (some .int)) (by decide) rfl ?_
  intro p e s m args below meth c s₁ B hml hv
  obtain ⟨rfl, hP, hK⟩ := hv
  have hx := B.exec
  have hb := B.bytes
  have hr := B.returns
  have hts := atoms_spec (ws := wsX8_segmentCount) B.pre
  have hown : s.vm.findClass RX8 = some m.cls := findClass_of_methodNamed B.named
  have hlocks := B.notSynchronized
  have hS : va_S (zA b) s.heap s.heap [] := va_S.rf
  have hl := lv_entry ([.ref (b + h0), .int x1]) (n := 4) (Nat.le_of_ble_eq_true rfl)
  rw [lg_entry_eq]
  generalize (lg_sl ([.ref (b + h0), .int x1]) ++ List.replicate (4 - (lg_sl ([.ref (b + h0), .int x1])).length) Slot.unset).toArray = ls at hl ⊢
  have hl : lv_has ls 4 [(0, .ref (b + h0)), (1, .int x1)] := hl
  have L14 : ∀ (n14 : Nat) (M : Mem) (H : Heap) (locs : List Loc) (ls : Array Slot) (h0 : Nat) (x1 : Int32) (x2 : Int32) (x3 : Int32), fX8_segmentCount_14L  n14 M h0 x1 x2 x3 = some rr → zH D cy b M H → va_S (zA b) s.heap H locs → lv_has ls 4 [(0, .ref (b + h0)), (1, .int x1), (2, .int x2), (3, .int x3)] → W p l e (headSpec wsX8_segmentCount ({ frames := 6, cells := 0, slots := 0, locals := 136 } : Room)).room s m ([.ref (b + h0), .int x1] : List Value).toArray below meth c H locs 0 0 (MQ below (zQi D cy b rr) ([.ref (b + h0), .int x1] : List Value).toArray s 0 0 (zA b)) (F0 m 14 ls []) := by
    intro n14
    induction n14 with
    | zero =>
      intro M H locs ls h0 x1 x2 x3 hf
      have hf : (none : Option (Int32 × Mem)) = some rr := hf
      cases hf
    | succ n14 ih14 =>
      have J41 : ∀ (M : Mem) (H : Heap) (locs : List Loc) (ls : Array Slot) (h0 : Nat) (x1 : Int32) (x2 : Int32) (x3 : Int32), fX8_segmentCount_41 (fX8_segmentCount_14L  n14) M h0 x1 x2 x3 = some rr → zH D cy b M H → va_S (zA b) s.heap H locs → lv_has ls 4 [(0, .ref (b + h0)), (1, .int x1), (2, .int x2), (3, .int x3)] → W p l e (headSpec wsX8_segmentCount ({ frames := 6, cells := 0, slots := 0, locals := 136 } : Room)).room s m ([.ref (b + h0), .int x1] : List Value).toArray below meth c H locs 0 0 (MQ below (zQi D cy b rr) ([.ref (b + h0), .int x1] : List Value).toArray s 0 0 (zA b)) (F0 m 41 ls []) := by
        intro M H locs ls h0 x1 x2 x3 hf hP hS hl
        unfold fX8_segmentCount_41 at hf
        obtain ⟨x3_41, q41, hf⟩ := zlt_s hf
        refine lv_iinc (v := x3_41) (lv' := [(3, .int x3_41), (0, .ref (b + h0)), (1, .int x1), (2, .int x2)]) hx hb dX8_segmentCount_41 hl (k := 3) rfl (by rw [← q41]; rfl) (by decide) rfl (fun ls hl => ?_)
        refine lv_goto (tgt := 14) hx hb dX8_segmentCount_44 (by decide) ?_
        exact ih14 _ _ _ _ _ _ _ _ hf hP hS (lv_sub hl [1, 2, 3, 0] rfl)
      intro M H locs ls h0 x1 x2 x3 hf hP hS hl
      have hf : fX8_segmentCount_14  (fX8_segmentCount_14L  n14) M h0 x1 x2 x3 = some rr := hf
      unfold fX8_segmentCount_14 at hf
      refine lv_iload_n hx hb dX8_segmentCount_14 rfl (lv_at hl 3 rfl) ?_
      refine lv_aload_n hx hb dX8_segmentCount_15 rfl (lv_at hl 0 rfl) ?_
      obtain ⟨v16, e16, hf⟩ := zb hf
      refine zr_gr (ci := 8) (k := 0) (C := RX8) (T := TX8) (N := 7) hx hb hts hi_X8_segmentCount_8 hown hK hP e16 rfl rfl (by decide) (by decide) (hts (.fieldLink RX8 10 "BoundaryAnalyzer" "text" "LBoundaryAnalyzer$Text;") (List.mem_of_getElem? (i := 1) rfl)) dX8_segmentCount_16 ?_
      obtain ⟨v19, e19, hf⟩ := zb hf
      refine zr_gr (ci := 7) (k := 0) (C := RX7) (T := TX7) (N := 2) hx hb hts hi_X8_segmentCount_7 hown hK hP e19 rfl rfl (by decide) (by decide) (hts (.fieldLink RX8 134 "BoundaryAnalyzer$Text" "signs" "LBoundaryAnalyzer$Row;") (List.mem_of_getElem? (i := 2) rfl)) dX8_segmentCount_19 ?_
      obtain ⟨v22, e22, hf⟩ := zb hf
      refine zr_gi (ci := 4) (k := 1) (C := RX4) (T := TX4) (N := 2) hx hb hts hi_X8_segmentCount_4 hown hK hP e22 rfl rfl (by decide) (by decide) (hts (.fieldLink RX8 70 "BoundaryAnalyzer$Row" "size" "I") (List.mem_of_getElem? (i := 3) rfl)) dX8_segmentCount_22 ?_
      refine lv_icmp_gt (tgt := 47) hx hb dX8_segmentCount_25 (by decide) (fun c25 => ?_) (fun c25 => ?_)
      · have hf := (if_pos c25).symm.trans hf
        refine lv_iload_n hx hb dX8_segmentCount_47 rfl (lv_at hl 2 rfl) ?_
        exact zret_i hx hb hr hlocks hf hP hS dX8_segmentCount_48
      · have hf := (if_neg c25).symm.trans hf
        refine lv_aload_n hx hb dX8_segmentCount_28 rfl (lv_at hl 0 rfl) ?_
        refine lv_iload_n hx hb dX8_segmentCount_29 rfl (lv_at hl 1 rfl) ?_
        refine lv_iload_n hx hb dX8_segmentCount_30 rfl (lv_at hl 3 rfl) ?_
        obtain ⟨u31, t31, hf⟩ := zb hf
        obtain ⟨r31, e31, hf⟩ := zb hf
        refine zc_i hS (va_runV (As := [.int x1, .int x3]) (rest := []) ⟨hx, hb, hml, hown, hts⟩ (k_X8_stateAt l D cy b M h0 x1 x3 r31 e31) (cwV 2 hts gX8_segmentCount_X8_stateAt rfl rfl rfl (by decide +kernel) ⟨Nat.le_of_ble_eq_true rfl, Nat.le_of_ble_eq_true rfl⟩) (zp_V _ hK hP t31 (T := TX8) (N := 7) rfl (by decide)) rfl rfl hl.1 rfl (lv_room (Nat.le_of_ble_eq_true rfl)) dX8_segmentCount_31 ⟨Nat.zero_le _, Nat.zero_le _⟩) (fun H locs hP hS => ?_)
        refine lv_iconst (v := (1 : Int32)) hx hb dX8_segmentCount_34 (by decide) ?_
        refine lv_icmp_ne (tgt := 41) hx hb dX8_segmentCount_35 (by decide) (fun c35 => ?_) (fun c35 => ?_)
        · have hf := (if_neg c35).symm.trans hf
          exact J41 _ _ _ _ _ _ _ _ hf hP hS (lv_sub hl [0, 1, 2, 3] rfl)
        · have hf := (if_pos c35).symm.trans hf
          obtain ⟨x2_38, q38, hf⟩ := zlt_s hf
          refine lv_iinc (v := x2_38) (lv' := [(2, .int x2_38), (0, .ref (b + h0)), (1, .int x1), (3, .int x3)]) hx hb dX8_segmentCount_38 hl (k := 2) rfl (by rw [← q38]; rfl) (by decide) rfl (fun ls hl => ?_)
          exact J41 _ _ _ _ _ _ _ _ hf hP hS (lv_sub hl [1, 2, 0, 3] rfl)
  unfold fX8_segmentCount at hf
  refine lv_iload_n hx hb dX8_segmentCount_0 rfl (lv_at hl 1 rfl) ?_
  obtain ⟨v1, e1, hf⟩ := zb hf
  refine zc_p (va_runS (As := [.int x1]) (rest := []) ⟨hx, hb, hml, hown, hts⟩ (k_X8_isKind l x1 v1 e1) (va_cwS 1 hts gX8_segmentCount_X8_isKind rfl rfl rfl (by decide +kernel) ⟨Nat.le_of_ble_eq_true rfl, Nat.le_of_ble_eq_true rfl⟩) (zp_p _) rfl rfl hl.1 rfl (lv_room (Nat.le_of_ble_eq_true rfl)) dX8_segmentCount_1 ⟨Nat.zero_le _, Nat.zero_le _⟩) ?_
  refine lv_if_ne (tgt := 10) hx hb dX8_segmentCount_4 (by decide) (fun c4 => ?_) (fun c4 => ?_)
  · have hf := (if_neg c4).symm.trans hf
    refine lv_iconst (v := (0 : Int32)) hx hb dX8_segmentCount_10 (by decide) ?_
    refine lv_istore_n (lv' := [(2, .int (0 : Int32)), (0, .ref (b + h0)), (1, .int x1)]) hx hb dX8_segmentCount_11 rfl hl (by decide) rfl (fun ls hl => ?_)
    refine lv_iconst (v := (1 : Int32)) hx hb dX8_segmentCount_12 (by decide) ?_
    refine lv_istore_n (lv' := [(3, .int (1 : Int32)), (2, .int (0 : Int32)), (0, .ref (b + h0)), (1, .int x1)]) hx hb dX8_segmentCount_13 rfl hl (by decide) rfl (fun ls hl => ?_)
    exact L14 _ _ _ _ _ _ _ _ _ hf hP hS (lv_sub hl [2, 3, 1, 0] rfl)
  · have hf := (if_pos c4).symm.trans hf
    refine lv_bipush (v := (-2 : Int32)) hx hb dX8_segmentCount_7 (by decide) ?_
    exact zret_i hx hb hr hlocks hf hP hS dX8_segmentCount_9
theorem hi_X8_segment_4 : ∀ w ∈ wsX40, w ∈ wsX8_segment := fun _ h => List.mem_cons_of_mem _ (List.mem_append_left _ (List.mem_append_right _ h))
theorem hi_X8_segment_7 : ∀ w ∈ wsX70, w ∈ wsX8_segment := fun _ h => List.mem_cons_of_mem _ (List.mem_append_left _ (List.mem_append_left _ (List.mem_append_right _ h)))
theorem hi_X8_segment_8 : ∀ w ∈ wsX80, w ∈ wsX8_segment := fun _ h => List.mem_cons_of_mem _ (List.mem_append_left _ (List.mem_append_left _ (List.mem_append_left _ (List.mem_append_right _ h))))
set_option maxHeartbeats 4000000 in
set_option maxRecDepth 100000 in
theorem k_X8_segment (l : Launch) (D : va_G) (cy : Nat → ClassId) (b : Nat) (M0 : Mem) (h0 : Nat) (x1 : Int32) (x2 : Int32) (rr : Int32 × Mem) (hf : fX8_segment M0 h0 x1 x2 = some rr) : Met l yX8_segment wsX8_segment ({ frames := 6, cells := 0, slots := 0, locals := 136 } : Room) (zPc D cy b M0 [.ref (b + h0), .int x1, .int x2]) (zQi D cy b rr) 0 0 (zA b) := by
  refine Met.ofW (cc := cX8_segment) (maxL := 5) (ret := (some .int)) (by decide) rfl ?_
  intro p e s m args below meth c s₁ B hml hv
  obtain ⟨rfl, hP, hK⟩ := hv
  have hx := B.exec
  have hb := B.bytes
  have hr := B.returns
  have hts := atoms_spec (ws := wsX8_segment) B.pre
  have hown : s.vm.findClass RX8 = some m.cls := findClass_of_methodNamed B.named
  have hlocks := B.notSynchronized
  have hS : va_S (zA b) s.heap s.heap [] := va_S.rf
  have hl := lv_entry ([.ref (b + h0), .int x1, .int x2]) (n := 5) (Nat.le_of_ble_eq_true rfl)
  rw [lg_entry_eq]
  generalize (lg_sl ([.ref (b + h0), .int x1, .int x2]) ++ List.replicate (5 - (lg_sl ([.ref (b + h0), .int x1, .int x2])).length) Slot.unset).toArray = ls at hl ⊢
  have hl : lv_has ls 5 [(0, .ref (b + h0)), (1, .int x1), (2, .int x2)] := hl
  have L19 : ∀ (n19 : Nat) (M : Mem) (H : Heap) (locs : List Loc) (ls : Array Slot) (h0 : Nat) (x1 : Int32) (x3 : Int32) (x4 : Int32), fX8_segment_19L  n19 M h0 x1 x3 x4 = some rr → zH D cy b M H → va_S (zA b) s.heap H locs → lv_has ls 5 [(0, .ref (b + h0)), (1, .int x1), (3, .int x3), (4, .int x4)] → W p l e (headSpec wsX8_segment ({ frames := 6, cells := 0, slots := 0, locals := 136 } : Room)).room s m ([.ref (b + h0), .int x1, .int x2] : List Value).toArray below meth c H locs 0 0 (MQ below (zQi D cy b rr) ([.ref (b + h0), .int x1, .int x2] : List Value).toArray s 0 0 (zA b)) (F0 m 19 ls []) := by
    intro n19
    induction n19 with
    | zero =>
      intro M H locs ls h0 x1 x3 x4 hf
      have hf : (none : Option (Int32 × Mem)) = some rr := hf
      cases hf
    | succ n19 ih19 =>
      have J55 : ∀ (M : Mem) (H : Heap) (locs : List Loc) (ls : Array Slot) (h0 : Nat) (x1 : Int32) (x3 : Int32) (x4 : Int32), fX8_segment_55 (fX8_segment_19L  n19) M h0 x1 x3 x4 = some rr → zH D cy b M H → va_S (zA b) s.heap H locs → lv_has ls 5 [(0, .ref (b + h0)), (1, .int x1), (3, .int x3), (4, .int x4)] → W p l e (headSpec wsX8_segment ({ frames := 6, cells := 0, slots := 0, locals := 136 } : Room)).room s m ([.ref (b + h0), .int x1, .int x2] : List Value).toArray below meth c H locs 0 0 (MQ below (zQi D cy b rr) ([.ref (b + h0), .int x1, .int x2] : List Value).toArray s 0 0 (zA b)) (F0 m 55 ls []) := by
        intro M H locs ls h0 x1 x3 x4 hf hP hS hl
        unfold fX8_segment_55 at hf
        obtain ⟨x4_55, q55, hf⟩ := zlt_s hf
        refine lv_iinc (v := x4_55) (lv' := [(4, .int x4_55), (0, .ref (b + h0)), (1, .int x1), (3, .int x3)]) hx hb dX8_segment_55 hl (k := 3) rfl (by rw [← q55]; rfl) (by decide) rfl (fun ls hl => ?_)
        refine lv_goto (tgt := 19) hx hb dX8_segment_58 (by decide) ?_
        exact ih19 _ _ _ _ _ _ _ _ hf hP hS (lv_sub hl [1, 2, 3, 0] rfl)
      intro M H locs ls h0 x1 x3 x4 hf hP hS hl
      have hf : fX8_segment_19  (fX8_segment_19L  n19) M h0 x1 x3 x4 = some rr := hf
      unfold fX8_segment_19 at hf
      refine lv_iload hx hb dX8_segment_19 (lv_at hl 3 rfl) ?_
      refine lv_aload_n hx hb dX8_segment_21 rfl (lv_at hl 0 rfl) ?_
      obtain ⟨v22, e22, hf⟩ := zb hf
      refine zr_gr (ci := 8) (k := 0) (C := RX8) (T := TX8) (N := 7) hx hb hts hi_X8_segment_8 hown hK hP e22 rfl rfl (by decide) (by decide) (hts (.fieldLink RX8 10 "BoundaryAnalyzer" "text" "LBoundaryAnalyzer$Text;") (List.mem_of_getElem? (i := 1) rfl)) dX8_segment_22 ?_
      obtain ⟨v25, e25, hf⟩ := zb hf
      refine zr_gr (ci := 7) (k := 0) (C := RX7) (T := TX7) (N := 2) hx hb hts hi_X8_segment_7 hown hK hP e25 rfl rfl (by decide) (by decide) (hts (.fieldLink RX8 134 "BoundaryAnalyzer$Text" "signs" "LBoundaryAnalyzer$Row;") (List.mem_of_getElem? (i := 2) rfl)) dX8_segment_25 ?_
      obtain ⟨v28, e28, hf⟩ := zb hf
      refine zr_gi (ci := 4) (k := 1) (C := RX4) (T := TX4) (N := 2) hx hb hts hi_X8_segment_4 hown hK hP e28 rfl rfl (by decide) (by decide) (hts (.fieldLink RX8 70 "BoundaryAnalyzer$Row" "size" "I") (List.mem_of_getElem? (i := 3) rfl)) dX8_segment_28 ?_
      refine lv_icmp_ge (tgt := 61) hx hb dX8_segment_31 (by decide) (fun c31 => ?_) (fun c31 => ?_)
      · have hf := (if_pos c31).symm.trans hf
        refine lv_bipush (v := (-5 : Int32)) hx hb dX8_segment_61 (by decide) ?_
        exact zret_i hx hb hr hlocks hf hP hS dX8_segment_63
      · have hf := (if_neg c31).symm.trans hf
        refine lv_aload_n hx hb dX8_segment_34 rfl (lv_at hl 0 rfl) ?_
        refine lv_iload_n hx hb dX8_segment_35 rfl (lv_at hl 1 rfl) ?_
        refine lv_iload hx hb dX8_segment_36 (lv_at hl 3 rfl) ?_
        obtain ⟨u38, t38, hf⟩ := zb hf
        obtain ⟨r38, e38, hf⟩ := zb hf
        refine zc_i hS (va_runV (As := [.int x1, .int x4]) (rest := []) ⟨hx, hb, hml, hown, hts⟩ (k_X8_stateAt l D cy b M h0 x1 x4 r38 e38) (cwV 2 hts gX8_segment_X8_stateAt rfl rfl rfl (by decide +kernel) ⟨Nat.le_of_ble_eq_true rfl, Nat.le_of_ble_eq_true rfl⟩) (zp_V _ hK hP t38 (T := TX8) (N := 7) rfl (by decide)) rfl rfl hl.1 rfl (lv_room (Nat.le_of_ble_eq_true rfl)) dX8_segment_38 ⟨Nat.zero_le _, Nat.zero_le _⟩) (fun H locs hP hS => ?_)
        refine lv_iconst (v := (1 : Int32)) hx hb dX8_segment_41 (by decide) ?_
        refine lv_icmp_ne (tgt := 55) hx hb dX8_segment_42 (by decide) (fun c42 => ?_) (fun c42 => ?_)
        · have hf := (if_neg c42).symm.trans hf
          exact J55 _ _ _ _ _ _ _ _ hf hP hS (lv_sub hl [0, 1, 2, 3] rfl)
        · have hf := (if_pos c42).symm.trans hf
          refine lv_iload_n hx hb dX8_segment_45 rfl (lv_at hl 2 rfl) ?_
          refine lv_if_ne (tgt := 52) hx hb dX8_segment_46 (by decide) (fun c46 => ?_) (fun c46 => ?_)
          · have hf := (if_neg c46).symm.trans hf
            obtain ⟨x3_52, q52, hf⟩ := zlt_s hf
            refine lv_iinc (v := x3_52) (lv' := [(3, .int x3_52), (0, .ref (b + h0)), (1, .int x1), (4, .int x4)]) hx hb dX8_segment_52 hl (k := 2) rfl (by rw [← q52]; rfl) (by decide) rfl (fun ls hl => ?_)
            exact J55 _ _ _ _ _ _ _ _ hf hP hS (lv_sub hl [1, 2, 0, 3] rfl)
          · have hf := (if_pos c46).symm.trans hf
            refine lv_iload hx hb dX8_segment_49 (lv_at hl 3 rfl) ?_
            exact zret_i hx hb hr hlocks hf hP hS dX8_segment_51
  unfold fX8_segment at hf
  refine lv_iload_n hx hb dX8_segment_0 rfl (lv_at hl 1 rfl) ?_
  obtain ⟨v1, e1, hf⟩ := zb hf
  refine zc_p (va_runS (As := [.int x1]) (rest := []) ⟨hx, hb, hml, hown, hts⟩ (k_X8_isKind l x1 v1 e1) (va_cwS 1 hts gX8_segment_X8_isKind rfl rfl rfl (by decide +kernel) ⟨Nat.le_of_ble_eq_true rfl, Nat.le_of_ble_eq_true rfl⟩) (zp_p _) rfl rfl hl.1 rfl (lv_room (Nat.le_of_ble_eq_true rfl)) dX8_segment_1 ⟨Nat.zero_le _, Nat.zero_le _⟩) ?_
  refine lv_if_eq (tgt := 11) hx hb dX8_segment_4 (by decide) (fun c4 => ?_) (fun c4 => ?_)
  · have hf := (if_pos c4).symm.trans hf
    refine lv_bipush (v := (-2 : Int32)) hx hb dX8_segment_11 (by decide) ?_
    exact zret_i hx hb hr hlocks hf hP hS dX8_segment_13
  · have hf := (if_neg c4).symm.trans hf
    refine lv_iload_n hx hb dX8_segment_7 rfl (lv_at hl 2 rfl) ?_
    refine lv_if_ge (tgt := 14) hx hb dX8_segment_8 (by decide) (fun c8 => ?_) (fun c8 => ?_)
    · have hf := (if_pos c8).symm.trans hf
      refine lv_iload_n hx hb dX8_segment_14 rfl (lv_at hl 2 rfl) ?_
      refine lv_istore_n (lv' := [(3, .int x2), (0, .ref (b + h0)), (1, .int x1), (2, .int x2)]) hx hb dX8_segment_15 rfl hl (by decide) rfl (fun ls hl => ?_)
      refine lv_iconst (v := (0 : Int32)) hx hb dX8_segment_16 (by decide) ?_
      refine lv_istore (lv' := [(4, .int (0 : Int32)), (3, .int x2), (0, .ref (b + h0)), (1, .int x1), (2, .int x2)]) hx hb dX8_segment_17 hl (by decide) rfl (fun ls hl => ?_)
      exact L19 _ _ _ _ _ _ _ _ _ hf hP hS (lv_sub hl [2, 3, 1, 0] rfl)
    · have hf := (if_neg c8).symm.trans hf
      refine lv_bipush (v := (-2 : Int32)) hx hb dX8_segment_11 (by decide) ?_
      exact zret_i hx hb hr hlocks hf hP hS dX8_segment_13
theorem hi_X8_longest_4 : ∀ w ∈ wsX40, w ∈ wsX8_longest := fun _ h => List.mem_cons_of_mem _ (List.mem_append_left _ (List.mem_append_right _ h))
theorem hi_X8_longest_7 : ∀ w ∈ wsX70, w ∈ wsX8_longest := fun _ h => List.mem_cons_of_mem _ (List.mem_append_left _ (List.mem_append_left _ (List.mem_append_right _ h)))
theorem hi_X8_longest_8 : ∀ w ∈ wsX80, w ∈ wsX8_longest := fun _ h => List.mem_cons_of_mem _ (List.mem_append_left _ (List.mem_append_left _ (List.mem_append_left _ (List.mem_append_right _ h))))
set_option maxHeartbeats 4000000 in
set_option maxRecDepth 100000 in
theorem k_X8_longest (l : Launch) (D : va_G) (cy : Nat → ClassId) (b : Nat) (M0 : Mem) (h0 : Nat) (x1 : Int32) (rr : Int32 × Mem) (hf : fX8_longest M0 h0 x1 = some rr) : Met l yX8_longest wsX8_longest ({ frames := 6, cells := 0, slots := 0, locals := 136 } : Room) (zPc D cy b M0 [.ref (b + h0), .int x1]) (zQi D cy b rr) 0 0 (zA b) := by
  refine Met.ofW (cc := cX8_longest) (maxL := 6) (ret := (some .int)) (by decide) rfl ?_
  intro p e s m args below meth c s₁ B hml hv
  obtain ⟨rfl, hP, hK⟩ := hv
  have hx := B.exec
  have hb := B.bytes
  have hr := B.returns
  have hts := atoms_spec (ws := wsX8_longest) B.pre
  have hown : s.vm.findClass RX8 = some m.cls := findClass_of_methodNamed B.named
  have hlocks := B.notSynchronized
  have hS : va_S (zA b) s.heap s.heap [] := va_S.rf
  have hl := lv_entry ([.ref (b + h0), .int x1]) (n := 6) (Nat.le_of_ble_eq_true rfl)
  rw [lg_entry_eq]
  generalize (lg_sl ([.ref (b + h0), .int x1]) ++ List.replicate (6 - (lg_sl ([.ref (b + h0), .int x1])).length) Slot.unset).toArray = ls at hl ⊢
  have hl : lv_has ls 6 [(0, .ref (b + h0)), (1, .int x1)] := hl
  have L21 : ∀ (n21 : Nat) (M : Mem) (H : Heap) (locs : List Loc) (ls : Array Slot) (h0 : Nat) (x1 : Int32) (x2 : Int32) (x3 : Int32) (x4 : Int32) (x5 : Int32), fX8_longest_21L  n21 M h0 x1 x2 x3 x4 x5 = some rr → zH D cy b M H → va_S (zA b) s.heap H locs → lv_has ls 6 [(0, .ref (b + h0)), (1, .int x1), (2, .int x2), (3, .int x3), (4, .int x4), (5, .int x5)] → W p l e (headSpec wsX8_longest ({ frames := 6, cells := 0, slots := 0, locals := 136 } : Room)).room s m ([.ref (b + h0), .int x1] : List Value).toArray below meth c H locs 0 0 (MQ below (zQi D cy b rr) ([.ref (b + h0), .int x1] : List Value).toArray s 0 0 (zA b)) (F0 m 21 ls []) := by
    intro n21
    induction n21 with
    | zero =>
      intro M H locs ls h0 x1 x2 x3 x4 x5 hf
      have hf : (none : Option (Int32 × Mem)) = some rr := hf
      cases hf
    | succ n21 ih21 =>
      have J69 : ∀ (M : Mem) (H : Heap) (locs : List Loc) (ls : Array Slot) (h0 : Nat) (x1 : Int32) (x2 : Int32) (x3 : Int32) (x4 : Int32) (x5 : Int32), fX8_longest_69 (fX8_longest_21L  n21) M h0 x1 x2 x3 x4 x5 = some rr → zH D cy b M H → va_S (zA b) s.heap H locs → lv_has ls 6 [(0, .ref (b + h0)), (1, .int x1), (2, .int x2), (3, .int x3), (4, .int x4), (5, .int x5)] → W p l e (headSpec wsX8_longest ({ frames := 6, cells := 0, slots := 0, locals := 136 } : Room)).room s m ([.ref (b + h0), .int x1] : List Value).toArray below meth c H locs 0 0 (MQ below (zQi D cy b rr) ([.ref (b + h0), .int x1] : List Value).toArray s 0 0 (zA b)) (F0 m 69 ls []) := by
        intro M H locs ls h0 x1 x2 x3 x4 x5 hf hP hS hl
        unfold fX8_longest_69 at hf
        obtain ⟨x5_69, q69, hf⟩ := zlt_s hf
        refine lv_iinc (v := x5_69) (lv' := [(5, .int x5_69), (0, .ref (b + h0)), (1, .int x1), (2, .int x2), (3, .int x3), (4, .int x4)]) hx hb dX8_longest_69 hl (k := 5) rfl (by rw [← q69]; rfl) (by decide) rfl (fun ls hl => ?_)
        refine lv_goto (tgt := 21) hx hb dX8_longest_72 (by decide) ?_
        exact ih21 _ _ _ _ _ _ _ _ _ _ hf hP hS (lv_sub hl [1, 2, 3, 4, 5, 0] rfl)
      have J65 : ∀ (M : Mem) (H : Heap) (locs : List Loc) (ls : Array Slot) (h0 : Nat) (x1 : Int32) (x2 : Int32) (x3 : Int32) (x5 : Int32), fX8_longest_65 (fX8_longest_21L  n21) M h0 x1 x2 x3 x5 = some rr → zH D cy b M H → va_S (zA b) s.heap H locs → lv_has ls 6 [(0, .ref (b + h0)), (1, .int x1), (2, .int x2), (3, .int x3), (5, .int x5)] → W p l e (headSpec wsX8_longest ({ frames := 6, cells := 0, slots := 0, locals := 136 } : Room)).room s m ([.ref (b + h0), .int x1] : List Value).toArray below meth c H locs 0 0 (MQ below (zQi D cy b rr) ([.ref (b + h0), .int x1] : List Value).toArray s 0 0 (zA b)) (F0 m 65 ls []) := by
        intro M H locs ls h0 x1 x2 x3 x5 hf hP hS hl
        unfold fX8_longest_65 at hf
        refine lv_iload hx hb dX8_longest_65 (lv_at hl 4 rfl) ?_
        refine lv_istore (lv' := [(4, .int x5), (0, .ref (b + h0)), (1, .int x1), (2, .int x2), (3, .int x3), (5, .int x5)]) hx hb dX8_longest_67 hl (by decide) rfl (fun ls hl => ?_)
        exact J69 _ _ _ _ _ _ _ _ _ _ hf hP hS (lv_sub hl [1, 2, 3, 4, 0, 5] rfl)
      intro M H locs ls h0 x1 x2 x3 x4 x5 hf hP hS hl
      have hf : fX8_longest_21  (fX8_longest_21L  n21) M h0 x1 x2 x3 x4 x5 = some rr := hf
      unfold fX8_longest_21 at hf
      refine lv_iload hx hb dX8_longest_21 (lv_at hl 5 rfl) ?_
      refine lv_aload_n hx hb dX8_longest_23 rfl (lv_at hl 0 rfl) ?_
      obtain ⟨v24, e24, hf⟩ := zb hf
      refine zr_gr (ci := 8) (k := 0) (C := RX8) (T := TX8) (N := 7) hx hb hts hi_X8_longest_8 hown hK hP e24 rfl rfl (by decide) (by decide) (hts (.fieldLink RX8 10 "BoundaryAnalyzer" "text" "LBoundaryAnalyzer$Text;") (List.mem_of_getElem? (i := 1) rfl)) dX8_longest_24 ?_
      obtain ⟨v27, e27, hf⟩ := zb hf
      refine zr_gr (ci := 7) (k := 0) (C := RX7) (T := TX7) (N := 2) hx hb hts hi_X8_longest_7 hown hK hP e27 rfl rfl (by decide) (by decide) (hts (.fieldLink RX8 134 "BoundaryAnalyzer$Text" "signs" "LBoundaryAnalyzer$Row;") (List.mem_of_getElem? (i := 2) rfl)) dX8_longest_27 ?_
      obtain ⟨v30, e30, hf⟩ := zb hf
      refine zr_gi (ci := 4) (k := 1) (C := RX4) (T := TX4) (N := 2) hx hb hts hi_X8_longest_4 hown hK hP e30 rfl rfl (by decide) (by decide) (hts (.fieldLink RX8 70 "BoundaryAnalyzer$Row" "size" "I") (List.mem_of_getElem? (i := 3) rfl)) dX8_longest_30 ?_
      refine lv_icmp_gt (tgt := 75) hx hb dX8_longest_33 (by decide) (fun c33 => ?_) (fun c33 => ?_)
      · have hf := (if_pos c33).symm.trans hf
        refine lv_iload_n hx hb dX8_longest_75 rfl (lv_at hl 2 rfl) ?_
        exact zret_i hx hb hr hlocks hf hP hS dX8_longest_76
      · have hf := (if_neg c33).symm.trans hf
        refine lv_aload_n hx hb dX8_longest_36 rfl (lv_at hl 0 rfl) ?_
        refine lv_iload_n hx hb dX8_longest_37 rfl (lv_at hl 1 rfl) ?_
        refine lv_iload hx hb dX8_longest_38 (lv_at hl 5 rfl) ?_
        obtain ⟨u40, t40, hf⟩ := zb hf
        obtain ⟨r40, e40, hf⟩ := zb hf
        refine zc_i hS (va_runV (As := [.int x1, .int x5]) (rest := []) ⟨hx, hb, hml, hown, hts⟩ (k_X8_stateAt l D cy b M h0 x1 x5 r40 e40) (cwV 2 hts gX8_longest_X8_stateAt rfl rfl rfl (by decide +kernel) ⟨Nat.le_of_ble_eq_true rfl, Nat.le_of_ble_eq_true rfl⟩) (zp_V _ hK hP t40 (T := TX8) (N := 7) rfl (by decide)) rfl rfl hl.1 rfl (lv_room (Nat.le_of_ble_eq_true rfl)) dX8_longest_40 ⟨Nat.zero_le _, Nat.zero_le _⟩) (fun H locs hP hS => ?_)
        refine lv_iconst (v := (1 : Int32)) hx hb dX8_longest_43 (by decide) ?_
        refine lv_icmp_ne (tgt := 69) hx hb dX8_longest_44 (by decide) (fun c44 => ?_) (fun c44 => ?_)
        · have hf := (if_neg c44).symm.trans hf
          exact J69 _ _ _ _ _ _ _ _ _ _ hf hP hS (lv_sub hl [0, 1, 2, 3, 4, 5] rfl)
        · have hf := (if_pos c44).symm.trans hf
          refine lv_iload hx hb dX8_longest_47 (lv_at hl 5 rfl) ?_
          refine lv_iload hx hb dX8_longest_49 (lv_at hl 4 rfl) ?_
          refine lv_isub hx hb dX8_longest_51 ?_
          refine lv_iload_n hx hb dX8_longest_52 rfl (lv_at hl 3 rfl) ?_
          refine lv_icmp_le (tgt := 65) hx hb dX8_longest_53 (by decide) (fun c53 => ?_) (fun c53 => ?_)
          · have hf := (if_pos c53).symm.trans hf
            exact J65 _ _ _ _ _ _ _ _ _ hf hP hS (lv_sub hl [0, 1, 2, 3, 5] rfl)
          · have hf := (if_neg c53).symm.trans hf
            refine lv_iload hx hb dX8_longest_56 (lv_at hl 4 rfl) ?_
            refine lv_istore_n (lv' := [(2, .int x4), (0, .ref (b + h0)), (1, .int x1), (3, .int x3), (4, .int x4), (5, .int x5)]) hx hb dX8_longest_58 rfl hl (by decide) rfl (fun ls hl => ?_)
            refine lv_iload hx hb dX8_longest_59 (lv_at hl 5 rfl) ?_
            refine lv_iload hx hb dX8_longest_61 (lv_at hl 4 rfl) ?_
            refine lv_isub hx hb dX8_longest_63 ?_
            obtain ⟨x3_64, q64, hf⟩ := zlt_s hf
            refine zt q64 ?_
            refine lv_istore_n (lv' := [(3, .int x3_64), (2, .int x4), (0, .ref (b + h0)), (1, .int x1), (4, .int x4), (5, .int x5)]) hx hb dX8_longest_64 rfl hl (by decide) rfl (fun ls hl => ?_)
            exact J65 _ _ _ _ _ _ _ _ _ hf hP hS (lv_sub hl [2, 3, 1, 0, 5] rfl)
  unfold fX8_longest at hf
  refine lv_iload_n hx hb dX8_longest_0 rfl (lv_at hl 1 rfl) ?_
  obtain ⟨v1, e1, hf⟩ := zb hf
  refine zc_p (va_runS (As := [.int x1]) (rest := []) ⟨hx, hb, hml, hown, hts⟩ (k_X8_isKind l x1 v1 e1) (va_cwS 1 hts gX8_longest_X8_isKind rfl rfl rfl (by decide +kernel) ⟨Nat.le_of_ble_eq_true rfl, Nat.le_of_ble_eq_true rfl⟩) (zp_p _) rfl rfl hl.1 rfl (lv_room (Nat.le_of_ble_eq_true rfl)) dX8_longest_1 ⟨Nat.zero_le _, Nat.zero_le _⟩) ?_
  refine lv_if_ne (tgt := 10) hx hb dX8_longest_4 (by decide) (fun c4 => ?_) (fun c4 => ?_)
  · have hf := (if_neg c4).symm.trans hf
    refine lv_bipush (v := (-5 : Int32)) hx hb dX8_longest_10 (by decide) ?_
    refine lv_istore_n (lv' := [(2, .int (-5 : Int32)), (0, .ref (b + h0)), (1, .int x1)]) hx hb dX8_longest_12 rfl hl (by decide) rfl (fun ls hl => ?_)
    refine lv_iconst (v := (0 : Int32)) hx hb dX8_longest_13 (by decide) ?_
    refine lv_istore_n (lv' := [(3, .int (0 : Int32)), (2, .int (-5 : Int32)), (0, .ref (b + h0)), (1, .int x1)]) hx hb dX8_longest_14 rfl hl (by decide) rfl (fun ls hl => ?_)
    refine lv_iconst (v := (0 : Int32)) hx hb dX8_longest_15 (by decide) ?_
    refine lv_istore (lv' := [(4, .int (0 : Int32)), (3, .int (0 : Int32)), (2, .int (-5 : Int32)), (0, .ref (b + h0)), (1, .int x1)]) hx hb dX8_longest_16 hl (by decide) rfl (fun ls hl => ?_)
    refine lv_iconst (v := (1 : Int32)) hx hb dX8_longest_18 (by decide) ?_
    refine lv_istore (lv' := [(5, .int (1 : Int32)), (4, .int (0 : Int32)), (3, .int (0 : Int32)), (2, .int (-5 : Int32)), (0, .ref (b + h0)), (1, .int x1)]) hx hb dX8_longest_19 hl (by decide) rfl (fun ls hl => ?_)
    exact L21 _ _ _ _ _ _ _ _ _ _ _ hf hP hS (lv_sub hl [4, 5, 3, 2, 1, 0] rfl)
  · have hf := (if_pos c4).symm.trans hf
    refine lv_bipush (v := (-2 : Int32)) hx hb dX8_longest_7 (by decide) ?_
    exact zret_i hx hb hr hlocks hf hP hS dX8_longest_9
theorem hi_X8_segmentsWith_4 : ∀ w ∈ wsX40, w ∈ wsX8_segmentsWith := fun _ h => List.mem_cons_of_mem _ (List.mem_append_left _ (List.mem_append_right _ h))
theorem hi_X8_segmentsWith_7 : ∀ w ∈ wsX70, w ∈ wsX8_segmentsWith := fun _ h => List.mem_cons_of_mem _ (List.mem_append_left _ (List.mem_append_left _ (List.mem_append_right _ h)))
theorem hi_X8_segmentsWith_8 : ∀ w ∈ wsX80, w ∈ wsX8_segmentsWith := fun _ h => List.mem_cons_of_mem _ (List.mem_append_left _ (List.mem_append_left _ (List.mem_append_left _ (List.mem_append_right _ h))))
set_option maxHeartbeats 4000000 in
set_option maxRecDepth 100000 in
theorem k_X8_segmentsWith (l : Launch) (D : va_G) (cy : Nat → ClassId) (b : Nat) (M0 : Mem) (h0 : Nat) (x1 : Int32) (x2 : Int32) (rr : Int32 × Mem) (hf : fX8_segmentsWith M0 h0 x1 x2 = some rr) : Met l yX8_segmentsWith wsX8_segmentsWith ({ frames := 6, cells := 0, slots := 0, locals := 136 } : Room) (zPc D cy b M0 [.ref (b + h0), .int x1, .int x2]) (zQi D cy b rr) 0 0 (zA b) := by
  refine Met.ofW (cc := cX8_segmentsWith) (maxL := 6) (ret := (some .int)) (by decide) rfl ?_
  intro p e s m args below meth c s₁ B hml hv
  obtain ⟨rfl, hP, hK⟩ := hv
  have hx := B.exec
  have hb := B.bytes
  have hr := B.returns
  have hts := atoms_spec (ws := wsX8_segmentsWith) B.pre
  have hown : s.vm.findClass RX8 = some m.cls := findClass_of_methodNamed B.named
  have hlocks := B.notSynchronized
  have hS : va_S (zA b) s.heap s.heap [] := va_S.rf
  have hl := lv_entry ([.ref (b + h0), .int x1, .int x2]) (n := 6) (Nat.le_of_ble_eq_true rfl)
  rw [lg_entry_eq]
  generalize (lg_sl ([.ref (b + h0), .int x1, .int x2]) ++ List.replicate (6 - (lg_sl ([.ref (b + h0), .int x1, .int x2])).length) Slot.unset).toArray = ls at hl ⊢
  have hl : lv_has ls 6 [(0, .ref (b + h0)), (1, .int x1), (2, .int x2)] := hl
  have L25 : ∀ (n25 : Nat) (M : Mem) (H : Heap) (locs : List Loc) (ls : Array Slot) (h0 : Nat) (x1 : Int32) (x2 : Int32) (x3 : Int32) (x4 : Int32) (x5 : Int32), fX8_segmentsWith_25L  n25 M h0 x1 x2 x3 x4 x5 = some rr → zH D cy b M H → va_S (zA b) s.heap H locs → lv_has ls 6 [(0, .ref (b + h0)), (1, .int x1), (2, .int x2), (3, .int x3), (4, .int x4), (5, .int x5)] → W p l e (headSpec wsX8_segmentsWith ({ frames := 6, cells := 0, slots := 0, locals := 136 } : Room)).room s m ([.ref (b + h0), .int x1, .int x2] : List Value).toArray below meth c H locs 0 0 (MQ below (zQi D cy b rr) ([.ref (b + h0), .int x1, .int x2] : List Value).toArray s 0 0 (zA b)) (F0 m 25 ls []) := by
    intro n25
    induction n25 with
    | zero =>
      intro M H locs ls h0 x1 x2 x3 x4 x5 hf
      have hf : (none : Option (Int32 × Mem)) = some rr := hf
      cases hf
    | succ n25 ih25 =>
      have J78 : ∀ (M : Mem) (H : Heap) (locs : List Loc) (ls : Array Slot) (h0 : Nat) (x1 : Int32) (x2 : Int32) (x3 : Int32) (x4 : Int32) (x5 : Int32), fX8_segmentsWith_78 (fX8_segmentsWith_25L  n25) M h0 x1 x2 x3 x4 x5 = some rr → zH D cy b M H → va_S (zA b) s.heap H locs → lv_has ls 6 [(0, .ref (b + h0)), (1, .int x1), (2, .int x2), (3, .int x3), (4, .int x4), (5, .int x5)] → W p l e (headSpec wsX8_segmentsWith ({ frames := 6, cells := 0, slots := 0, locals := 136 } : Room)).room s m ([.ref (b + h0), .int x1, .int x2] : List Value).toArray below meth c H locs 0 0 (MQ below (zQi D cy b rr) ([.ref (b + h0), .int x1, .int x2] : List Value).toArray s 0 0 (zA b)) (F0 m 78 ls []) := by
        intro M H locs ls h0 x1 x2 x3 x4 x5 hf hP hS hl
        unfold fX8_segmentsWith_78 at hf
        obtain ⟨x5_78, q78, hf⟩ := zlt_s hf
        refine lv_iinc (v := x5_78) (lv' := [(5, .int x5_78), (0, .ref (b + h0)), (1, .int x1), (2, .int x2), (3, .int x3), (4, .int x4)]) hx hb dX8_segmentsWith_78 hl (k := 5) rfl (by rw [← q78]; rfl) (by decide) rfl (fun ls hl => ?_)
        refine lv_goto (tgt := 25) hx hb dX8_segmentsWith_81 (by decide) ?_
        exact ih25 _ _ _ _ _ _ _ _ _ _ hf hP hS (lv_sub hl [1, 2, 3, 4, 5, 0] rfl)
      have J54 : ∀ (M : Mem) (H : Heap) (locs : List Loc) (ls : Array Slot) (h0 : Nat) (x1 : Int32) (x2 : Int32) (x3 : Int32) (x4 : Int32) (x5 : Int32), fX8_segmentsWith_54 (fX8_segmentsWith_25L  n25) M h0 x1 x2 x3 x4 x5 = some rr → zH D cy b M H → va_S (zA b) s.heap H locs → lv_has ls 6 [(0, .ref (b + h0)), (1, .int x1), (2, .int x2), (3, .int x3), (4, .int x4), (5, .int x5)] → W p l e (headSpec wsX8_segmentsWith ({ frames := 6, cells := 0, slots := 0, locals := 136 } : Room)).room s m ([.ref (b + h0), .int x1, .int x2] : List Value).toArray below meth c H locs 0 0 (MQ below (zQi D cy b rr) ([.ref (b + h0), .int x1, .int x2] : List Value).toArray s 0 0 (zA b)) (F0 m 54 ls []) := by
        intro M H locs ls h0 x1 x2 x3 x4 x5 hf hP hS hl
        unfold fX8_segmentsWith_54 at hf
        refine lv_iload hx hb dX8_segmentsWith_54 (lv_at hl 4 rfl) ?_
        refine lv_if_ne (tgt := 78) hx hb dX8_segmentsWith_56 (by decide) (fun c56 => ?_) (fun c56 => ?_)
        · have hf := (if_neg c56).symm.trans hf
          exact J78 _ _ _ _ _ _ _ _ _ _ hf hP hS (lv_sub hl [0, 1, 2, 3, 4, 5] rfl)
        · have hf := (if_pos c56).symm.trans hf
          refine lv_aload_n hx hb dX8_segmentsWith_59 rfl (lv_at hl 0 rfl) ?_
          obtain ⟨v60, e60, hf⟩ := zb hf
          refine zr_gr (ci := 8) (k := 0) (C := RX8) (T := TX8) (N := 7) hx hb hts hi_X8_segmentsWith_8 hown hK hP e60 rfl rfl (by decide) (by decide) (hts (.fieldLink RX8 10 "BoundaryAnalyzer" "text" "LBoundaryAnalyzer$Text;") (List.mem_of_getElem? (i := 1) rfl)) dX8_segmentsWith_60 ?_
          refine lv_iload hx hb dX8_segmentsWith_63 (lv_at hl 5 rfl) ?_
          obtain ⟨u65, t65, hf⟩ := zb hf
          obtain ⟨r65, e65, hf⟩ := zb hf
          refine zc_i hS (va_runV (As := [.int x5]) (rest := []) ⟨hx, hb, hml, hown, hts⟩ (k_X7_classAt l D cy b M v60 x5 r65 e65) (cwV 1 hts gX8_segmentsWith_X7_classAt rfl rfl rfl (by decide +kernel) ⟨Nat.le_of_ble_eq_true rfl, Nat.le_of_ble_eq_true rfl⟩) (zp_V _ hK hP t65 (T := TX7) (N := 2) rfl (by decide)) rfl rfl hl.1 rfl (lv_room (Nat.le_of_ble_eq_true rfl)) dX8_segmentsWith_65 ⟨Nat.zero_le _, Nat.zero_le _⟩) (fun H locs hP hS => ?_)
          refine lv_iload_n hx hb dX8_segmentsWith_68 rfl (lv_at hl 2 rfl) ?_
          refine lv_icmp_ne (tgt := 78) hx hb dX8_segmentsWith_69 (by decide) (fun c69 => ?_) (fun c69 => ?_)
          · have hf := (if_neg c69).symm.trans hf
            exact J78 _ _ _ _ _ _ _ _ _ _ hf hP hS (lv_sub hl [0, 1, 2, 3, 4, 5] rfl)
          · have hf := (if_pos c69).symm.trans hf
            refine lv_iconst (v := (1 : Int32)) hx hb dX8_segmentsWith_72 (by decide) ?_
            refine lv_istore (lv' := [(4, .int (1 : Int32)), (0, .ref (b + h0)), (1, .int x1), (2, .int x2), (3, .int x3), (5, .int x5)]) hx hb dX8_segmentsWith_73 hl (by decide) rfl (fun ls hl => ?_)
            obtain ⟨x3_75, q75, hf⟩ := zlt_s hf
            refine lv_iinc (v := x3_75) (lv' := [(3, .int x3_75), (4, .int (1 : Int32)), (0, .ref (b + h0)), (1, .int x1), (2, .int x2), (5, .int x5)]) hx hb dX8_segmentsWith_75 hl (k := 4) rfl (by rw [← q75]; rfl) (by decide) rfl (fun ls hl => ?_)
            exact J78 _ _ _ _ _ _ _ _ _ _ hf hP hS (lv_sub hl [2, 3, 4, 0, 1, 5] rfl)
      intro M H locs ls h0 x1 x2 x3 x4 x5 hf hP hS hl
      have hf : fX8_segmentsWith_25  (fX8_segmentsWith_25L  n25) M h0 x1 x2 x3 x4 x5 = some rr := hf
      unfold fX8_segmentsWith_25 at hf
      refine lv_iload hx hb dX8_segmentsWith_25 (lv_at hl 5 rfl) ?_
      refine lv_aload_n hx hb dX8_segmentsWith_27 rfl (lv_at hl 0 rfl) ?_
      obtain ⟨v28, e28, hf⟩ := zb hf
      refine zr_gr (ci := 8) (k := 0) (C := RX8) (T := TX8) (N := 7) hx hb hts hi_X8_segmentsWith_8 hown hK hP e28 rfl rfl (by decide) (by decide) (hts (.fieldLink RX8 10 "BoundaryAnalyzer" "text" "LBoundaryAnalyzer$Text;") (List.mem_of_getElem? (i := 1) rfl)) dX8_segmentsWith_28 ?_
      obtain ⟨v31, e31, hf⟩ := zb hf
      refine zr_gr (ci := 7) (k := 0) (C := RX7) (T := TX7) (N := 2) hx hb hts hi_X8_segmentsWith_7 hown hK hP e31 rfl rfl (by decide) (by decide) (hts (.fieldLink RX8 134 "BoundaryAnalyzer$Text" "signs" "LBoundaryAnalyzer$Row;") (List.mem_of_getElem? (i := 2) rfl)) dX8_segmentsWith_31 ?_
      obtain ⟨v34, e34, hf⟩ := zb hf
      refine zr_gi (ci := 4) (k := 1) (C := RX4) (T := TX4) (N := 2) hx hb hts hi_X8_segmentsWith_4 hown hK hP e34 rfl rfl (by decide) (by decide) (hts (.fieldLink RX8 70 "BoundaryAnalyzer$Row" "size" "I") (List.mem_of_getElem? (i := 3) rfl)) dX8_segmentsWith_34 ?_
      refine lv_icmp_ge (tgt := 84) hx hb dX8_segmentsWith_37 (by decide) (fun c37 => ?_) (fun c37 => ?_)
      · have hf := (if_pos c37).symm.trans hf
        refine lv_iload_n hx hb dX8_segmentsWith_84 rfl (lv_at hl 3 rfl) ?_
        exact zret_i hx hb hr hlocks hf hP hS dX8_segmentsWith_85
      · have hf := (if_neg c37).symm.trans hf
        refine lv_aload_n hx hb dX8_segmentsWith_40 rfl (lv_at hl 0 rfl) ?_
        refine lv_iload_n hx hb dX8_segmentsWith_41 rfl (lv_at hl 1 rfl) ?_
        refine lv_iload hx hb dX8_segmentsWith_42 (lv_at hl 5 rfl) ?_
        obtain ⟨u44, t44, hf⟩ := zb hf
        obtain ⟨r44, e44, hf⟩ := zb hf
        refine zc_i hS (va_runV (As := [.int x1, .int x5]) (rest := []) ⟨hx, hb, hml, hown, hts⟩ (k_X8_stateAt l D cy b M h0 x1 x5 r44 e44) (cwV 2 hts gX8_segmentsWith_X8_stateAt rfl rfl rfl (by decide +kernel) ⟨Nat.le_of_ble_eq_true rfl, Nat.le_of_ble_eq_true rfl⟩) (zp_V _ hK hP t44 (T := TX8) (N := 7) rfl (by decide)) rfl rfl hl.1 rfl (lv_room (Nat.le_of_ble_eq_true rfl)) dX8_segmentsWith_44 ⟨Nat.zero_le _, Nat.zero_le _⟩) (fun H locs hP hS => ?_)
        refine lv_iconst (v := (1 : Int32)) hx hb dX8_segmentsWith_47 (by decide) ?_
        refine lv_icmp_ne (tgt := 54) hx hb dX8_segmentsWith_48 (by decide) (fun c48 => ?_) (fun c48 => ?_)
        · have hf := (if_neg c48).symm.trans hf
          exact J54 _ _ _ _ _ _ _ _ _ _ hf hP hS (lv_sub hl [0, 1, 2, 3, 4, 5] rfl)
        · have hf := (if_pos c48).symm.trans hf
          refine lv_iconst (v := (0 : Int32)) hx hb dX8_segmentsWith_51 (by decide) ?_
          refine lv_istore (lv' := [(4, .int (0 : Int32)), (0, .ref (b + h0)), (1, .int x1), (2, .int x2), (3, .int x3), (5, .int x5)]) hx hb dX8_segmentsWith_52 hl (by decide) rfl (fun ls hl => ?_)
          exact J54 _ _ _ _ _ _ _ _ _ _ hf hP hS (lv_sub hl [1, 2, 3, 4, 0, 5] rfl)
  unfold fX8_segmentsWith at hf
  refine lv_iload_n hx hb dX8_segmentsWith_0 rfl (lv_at hl 1 rfl) ?_
  obtain ⟨v1, e1, hf⟩ := zb hf
  refine zc_p (va_runS (As := [.int x1]) (rest := []) ⟨hx, hb, hml, hown, hts⟩ (k_X8_isKind l x1 v1 e1) (va_cwS 1 hts gX8_segmentsWith_X8_isKind rfl rfl rfl (by decide +kernel) ⟨Nat.le_of_ble_eq_true rfl, Nat.le_of_ble_eq_true rfl⟩) (zp_p _) rfl rfl hl.1 rfl (lv_room (Nat.le_of_ble_eq_true rfl)) dX8_segmentsWith_1 ⟨Nat.zero_le _, Nat.zero_le _⟩) ?_
  refine lv_if_eq (tgt := 14) hx hb dX8_segmentsWith_4 (by decide) (fun c4 => ?_) (fun c4 => ?_)
  · have hf := (if_pos c4).symm.trans hf
    refine lv_bipush (v := (-2 : Int32)) hx hb dX8_segmentsWith_14 (by decide) ?_
    exact zret_i hx hb hr hlocks hf hP hS dX8_segmentsWith_16
  · have hf := (if_neg c4).symm.trans hf
    refine lv_iload_n hx hb dX8_segmentsWith_7 rfl (lv_at hl 2 rfl) ?_
    obtain ⟨v8, e8, hf⟩ := zb hf
    refine zc_p (va_runS (As := [.int x2]) (rest := []) ⟨hx, hb, hml, hown, hts⟩ (k_X8_isClass l x2 v8 e8) (va_cwS 1 hts gX8_segmentsWith_X8_isClass rfl rfl rfl (by decide +kernel) ⟨Nat.le_of_ble_eq_true rfl, Nat.le_of_ble_eq_true rfl⟩) (zp_p _) rfl rfl hl.1 rfl (lv_room (Nat.le_of_ble_eq_true rfl)) dX8_segmentsWith_8 ⟨Nat.zero_le _, Nat.zero_le _⟩) ?_
    refine lv_if_ne (tgt := 17) hx hb dX8_segmentsWith_11 (by decide) (fun c11 => ?_) (fun c11 => ?_)
    · have hf := (if_neg c11).symm.trans hf
      refine lv_iconst (v := (0 : Int32)) hx hb dX8_segmentsWith_17 (by decide) ?_
      refine lv_istore_n (lv' := [(3, .int (0 : Int32)), (0, .ref (b + h0)), (1, .int x1), (2, .int x2)]) hx hb dX8_segmentsWith_18 rfl hl (by decide) rfl (fun ls hl => ?_)
      refine lv_iconst (v := (0 : Int32)) hx hb dX8_segmentsWith_19 (by decide) ?_
      refine lv_istore (lv' := [(4, .int (0 : Int32)), (3, .int (0 : Int32)), (0, .ref (b + h0)), (1, .int x1), (2, .int x2)]) hx hb dX8_segmentsWith_20 hl (by decide) rfl (fun ls hl => ?_)
      refine lv_iconst (v := (0 : Int32)) hx hb dX8_segmentsWith_22 (by decide) ?_
      refine lv_istore (lv' := [(5, .int (0 : Int32)), (4, .int (0 : Int32)), (3, .int (0 : Int32)), (0, .ref (b + h0)), (1, .int x1), (2, .int x2)]) hx hb dX8_segmentsWith_23 hl (by decide) rfl (fun ls hl => ?_)
      exact L25 _ _ _ _ _ _ _ _ _ _ _ hf hP hS (lv_sub hl [3, 4, 5, 2, 1, 0] rfl)
    · have hf := (if_pos c11).symm.trans hf
      refine lv_bipush (v := (-2 : Int32)) hx hb dX8_segmentsWith_14 (by decide) ?_
      exact zret_i hx hb hr hlocks hf hP hS dX8_segmentsWith_16
theorem hi_X8_looksAt_2 : ∀ w ∈ wsX20, w ∈ wsX8_looksAt := fun _ h => List.mem_cons_of_mem _ (List.mem_append_left _ (List.mem_append_left _ (List.mem_append_left _ (List.mem_append_left _ (List.mem_append_right _ h)))))
theorem hi_X8_looksAt_8 : ∀ w ∈ wsX80, w ∈ wsX8_looksAt := fun _ h => List.mem_cons_of_mem _ (List.mem_append_left _ (List.mem_append_left _ (List.mem_append_left _ (List.mem_append_left _ (List.mem_append_left _ (List.mem_append_right _ h))))))
set_option maxHeartbeats 4000000 in
set_option maxRecDepth 100000 in
theorem k_X8_looksAt (l : Launch) (D : va_G) (cy : Nat → ClassId) (b : Nat) (M0 : Mem) (h0 : Nat) (x1 : Int32) (x2 : Int32) (rr : Int32 × Mem) (hf : fX8_looksAt M0 h0 x1 x2 = some rr) : Met l yX8_looksAt wsX8_looksAt ({ frames := 4, cells := 0, slots := 0, locals := 116 } : Room) (zPc D cy b M0 [.ref (b + h0), .int x1, .int x2]) (zQi D cy b rr) 0 0 (zA b) := by
  refine Met.ofW (cc := cX8_looksAt) (maxL := 3) (ret := (some .int)) (by decide) rfl ?_
  intro p e s m args below meth c s₁ B hml hv
  obtain ⟨rfl, hP, hK⟩ := hv
  have hx := B.exec
  have hb := B.bytes
  have hr := B.returns
  have hts := atoms_spec (ws := wsX8_looksAt) B.pre
  have hown : s.vm.findClass RX8 = some m.cls := findClass_of_methodNamed B.named
  have hlocks := B.notSynchronized
  have hS : va_S (zA b) s.heap s.heap [] := va_S.rf
  have hl := lv_entry ([.ref (b + h0), .int x1, .int x2]) (n := 3) (Nat.le_of_ble_eq_true rfl)
  rw [lg_entry_eq]
  generalize (lg_sl ([.ref (b + h0), .int x1, .int x2]) ++ List.replicate (3 - (lg_sl ([.ref (b + h0), .int x1, .int x2])).length) Slot.unset).toArray = ls at hl ⊢
  have hl : lv_has ls 3 [(0, .ref (b + h0)), (1, .int x1), (2, .int x2)] := hl
  unfold fX8_looksAt at hf
  refine lv_iload_n hx hb dX8_looksAt_0 rfl (lv_at hl 1 rfl) ?_
  obtain ⟨v1, e1, hf⟩ := zb hf
  refine zc_p (va_runS (As := [.int x1]) (rest := []) ⟨hx, hb, hml, hown, hts⟩ (k_X8_isKind l x1 v1 e1) (va_cwS 1 hts gX8_looksAt_X8_isKind rfl rfl rfl (by decide +kernel) ⟨Nat.le_of_ble_eq_true rfl, Nat.le_of_ble_eq_true rfl⟩) (zp_p _) rfl rfl hl.1 rfl (lv_room (Nat.le_of_ble_eq_true rfl)) dX8_looksAt_1 ⟨Nat.zero_le _, Nat.zero_le _⟩) ?_
  refine lv_if_ne (tgt := 10) hx hb dX8_looksAt_4 (by decide) (fun c4 => ?_) (fun c4 => ?_)
  · have hf := (if_neg c4).symm.trans hf
    refine lv_aload_n hx hb dX8_looksAt_10 rfl (lv_at hl 0 rfl) ?_
    refine lv_iload_n hx hb dX8_looksAt_11 rfl (lv_at hl 2 rfl) ?_
    obtain ⟨u12, t12, hf⟩ := zb hf
    obtain ⟨r12, e12, hf⟩ := zb hf
    refine zc_i hS (va_runV (As := [.int x2]) (rest := []) ⟨hx, hb, hml, hown, hts⟩ (k_X8_isPositionOfCharacter l D cy b M0 h0 x2 r12 e12) (cwV 1 hts gX8_looksAt_X8_isPositionOfCharacter rfl rfl rfl (by decide +kernel) ⟨Nat.le_of_ble_eq_true rfl, Nat.le_of_ble_eq_true rfl⟩) (zp_V _ hK hP t12 (T := TX8) (N := 7) rfl (by decide)) rfl rfl hl.1 rfl (lv_room (Nat.le_of_ble_eq_true rfl)) dX8_looksAt_12 ⟨Nat.zero_le _, Nat.zero_le _⟩) (fun H locs hP hS => ?_)
    refine lv_if_ne (tgt := 20) hx hb dX8_looksAt_15 (by decide) (fun c15 => ?_) (fun c15 => ?_)
    · have hf := (if_neg c15).symm.trans hf
      refine lv_aload_n hx hb dX8_looksAt_20 rfl (lv_at hl 0 rfl) ?_
      obtain ⟨v21, e21, hf⟩ := zb hf
      refine zr_gr (ci := 8) (k := 2) (C := RX8) (T := TX8) (N := 7) hx hb hts hi_X8_looksAt_8 hown hK hP e21 rfl rfl (by decide) (by decide) (hts (.fieldLink RX8 27 "BoundaryAnalyzer" "kinds" "[LBoundaryAnalyzer$Kind;") (List.mem_of_getElem? (i := 1) rfl)) dX8_looksAt_21 ?_
      refine lv_iload_n hx hb dX8_looksAt_24 rfl (lv_at hl 1 rfl) ?_
      obtain ⟨v25, e25, hf⟩ := zb hf
      refine zr_aa (t0 := 4) hx hb hK hP e25 (by decide) rfl dX8_looksAt_25 ?_
      refine lv_aload_n hx hb dX8_looksAt_26 rfl (lv_at hl 0 rfl) ?_
      obtain ⟨v27, e27, hf⟩ := zb hf
      refine zr_gr (ci := 8) (k := 0) (C := RX8) (T := TX8) (N := 7) hx hb hts hi_X8_looksAt_8 hown hK hP e27 rfl rfl (by decide) (by decide) (hts (.fieldLink RX8 10 "BoundaryAnalyzer" "text" "LBoundaryAnalyzer$Text;") (List.mem_of_getElem? (i := 2) rfl)) dX8_looksAt_27 ?_
      refine lv_iload_n hx hb dX8_looksAt_30 rfl (lv_at hl 2 rfl) ?_
      obtain ⟨u31, t31, hf⟩ := zb hf
      obtain ⟨M31, e31, hf⟩ := zb hf
      refine zc_v hS (va_runV (As := [.ref (b + v27), .int x2]) (rest := []) ⟨hx, hb, hml, hown, hts⟩ (k_X2_measure l D cy b r12.2 v25 v27 x2 M31 e31) (cwV 2 hts gX8_looksAt_X2_measure rfl rfl rfl (by decide +kernel) ⟨Nat.le_of_ble_eq_true rfl, Nat.le_of_ble_eq_true rfl⟩) (zp_V _ hK hP t31 (T := TX2) (N := 5) rfl (by decide)) rfl rfl hl.1 rfl (lv_room (Nat.le_of_ble_eq_true rfl)) dX8_looksAt_31 ⟨Nat.zero_le _, Nat.zero_le _⟩) (fun H locs hP hS => ?_)
      refine lv_aload_n hx hb dX8_looksAt_34 rfl (lv_at hl 0 rfl) ?_
      obtain ⟨v35, e35, hf⟩ := zb hf
      refine zr_gr (ci := 8) (k := 2) (C := RX8) (T := TX8) (N := 7) hx hb hts hi_X8_looksAt_8 hown hK hP e35 rfl rfl (by decide) (by decide) (hts (.fieldLink RX8 27 "BoundaryAnalyzer" "kinds" "[LBoundaryAnalyzer$Kind;") (List.mem_of_getElem? (i := 1) rfl)) dX8_looksAt_35 ?_
      refine lv_iload_n hx hb dX8_looksAt_38 rfl (lv_at hl 1 rfl) ?_
      obtain ⟨v39, e39, hf⟩ := zb hf
      refine zr_aa (t0 := 4) hx hb hK hP e39 (by decide) rfl dX8_looksAt_39 ?_
      obtain ⟨v40, e40, hf⟩ := zb hf
      refine zr_gi (ci := 2) (k := 4) (C := RX2) (T := TX2) (N := 5) hx hb hts hi_X8_looksAt_2 hown hK hP e40 rfl rfl (by decide) (by decide) (hts (.fieldLink RX8 182 "BoundaryAnalyzer$Kind" "looked" "I") (List.mem_of_getElem? (i := 3) rfl)) dX8_looksAt_40 ?_
      exact zret_i hx hb hr hlocks hf hP hS dX8_looksAt_43
    · have hf := (if_pos c15).symm.trans hf
      refine lv_iconst (v := (-1 : Int32)) hx hb dX8_looksAt_18 (by decide) ?_
      exact zret_i hx hb hr hlocks hf hP hS dX8_looksAt_19
  · have hf := (if_pos c4).symm.trans hf
    refine lv_bipush (v := (-2 : Int32)) hx hb dX8_looksAt_7 (by decide) ?_
    exact zret_i hx hb hr hlocks hf hP hS dX8_looksAt_9
theorem hi_X8_work_2 : ∀ w ∈ wsX20, w ∈ wsX8_work := fun _ h => List.mem_cons_of_mem _ (List.mem_append_right _ h)
theorem hi_X8_work_8 : ∀ w ∈ wsX80, w ∈ wsX8_work := fun _ h => List.mem_cons_of_mem _ (List.mem_append_left _ (List.mem_append_right _ h))
set_option maxHeartbeats 4000000 in
set_option maxRecDepth 100000 in
theorem k_X8_work (l : Launch) (D : va_G) (cy : Nat → ClassId) (b : Nat) (M0 : Mem) (h0 : Nat) (x1 : Int32) (rr : Int32 × Mem) (hf : fX8_work M0 h0 x1 = some rr) : Met l yX8_work wsX8_work ({ frames := 1, cells := 0, slots := 0, locals := 20 } : Room) (zPc D cy b M0 [.ref (b + h0), .int x1]) (zQi D cy b rr) 0 0 (zA b) := by
  refine Met.ofW (cc := cX8_work) (maxL := 2) (ret := (some .int)) (by decide) rfl ?_
  intro p e s m args below meth c s₁ B hml hv
  obtain ⟨rfl, hP, hK⟩ := hv
  have hx := B.exec
  have hb := B.bytes
  have hr := B.returns
  have hts := atoms_spec (ws := wsX8_work) B.pre
  have hown : s.vm.findClass RX8 = some m.cls := findClass_of_methodNamed B.named
  have hlocks := B.notSynchronized
  have hS : va_S (zA b) s.heap s.heap [] := va_S.rf
  have hl := lv_entry ([.ref (b + h0), .int x1]) (n := 2) (Nat.le_of_ble_eq_true rfl)
  rw [lg_entry_eq]
  generalize (lg_sl ([.ref (b + h0), .int x1]) ++ List.replicate (2 - (lg_sl ([.ref (b + h0), .int x1])).length) Slot.unset).toArray = ls at hl ⊢
  have hl : lv_has ls 2 [(0, .ref (b + h0)), (1, .int x1)] := hl
  unfold fX8_work at hf
  refine lv_iload_n hx hb dX8_work_0 rfl (lv_at hl 1 rfl) ?_
  obtain ⟨v1, e1, hf⟩ := zb hf
  refine zc_p (va_runS (As := [.int x1]) (rest := []) ⟨hx, hb, hml, hown, hts⟩ (k_X8_isKind l x1 v1 e1) (va_cwS 1 hts gX8_work_X8_isKind rfl rfl rfl (by decide +kernel) ⟨Nat.le_of_ble_eq_true rfl, Nat.le_of_ble_eq_true rfl⟩) (zp_p _) rfl rfl hl.1 rfl (lv_room (Nat.le_of_ble_eq_true rfl)) dX8_work_1 ⟨Nat.zero_le _, Nat.zero_le _⟩) ?_
  refine lv_if_eq (tgt := 19) hx hb dX8_work_4 (by decide) (fun c4 => ?_) (fun c4 => ?_)
  · have hf := (if_pos c4).symm.trans hf
    refine lv_bipush (v := (-2 : Int32)) hx hb dX8_work_19 (by decide) ?_
    exact zret_i hx hb hr hlocks hf hP hS dX8_work_21
  · have hf := (if_neg c4).symm.trans hf
    refine lv_aload_n hx hb dX8_work_7 rfl (lv_at hl 0 rfl) ?_
    obtain ⟨v8, e8, hf⟩ := zb hf
    refine zr_gr (ci := 8) (k := 2) (C := RX8) (T := TX8) (N := 7) hx hb hts hi_X8_work_8 hown hK hP e8 rfl rfl (by decide) (by decide) (hts (.fieldLink RX8 27 "BoundaryAnalyzer" "kinds" "[LBoundaryAnalyzer$Kind;") (List.mem_of_getElem? (i := 1) rfl)) dX8_work_8 ?_
    refine lv_iload_n hx hb dX8_work_11 rfl (lv_at hl 1 rfl) ?_
    obtain ⟨v12, e12, hf⟩ := zb hf
    refine zr_aa (t0 := 4) hx hb hK hP e12 (by decide) rfl dX8_work_12 ?_
    obtain ⟨v13, e13, hf⟩ := zb hf
    refine zr_gi (ci := 2) (k := 2) (C := RX2) (T := TX2) (N := 5) hx hb hts hi_X8_work_2 hown hK hP e13 rfl rfl (by decide) (by decide) (hts (.fieldLink RX8 185 "BoundaryAnalyzer$Kind" "analysed" "I") (List.mem_of_getElem? (i := 2) rfl)) dX8_work_13 ?_
    refine lv_goto (tgt := 21) hx hb dX8_work_16 (by decide) ?_
    exact zret_i hx hb hr hlocks hf hP hS dX8_work_21
set_option maxHeartbeats 4000000 in
set_option maxRecDepth 100000 in
theorem k_X9_in (l : Launch) (x0 : Int32) (x1 : Int32) (x2 : Int32) (rr : Int32) (hf : fX9_in x0 x1 x2 = some rr) : Met l yX9_in wsX9_in ({ frames := 0, cells := 0, slots := 0, locals := 0 } : Room) (zPp [.int x0, .int x1, .int x2]) (zQp rr) 0 0 zNo := by
  refine Met.ofW (cc := cX9_in) (maxL := 3) (ret := (some .boolean)) (by decide) rfl ?_
  intro p e s m args below meth c s₁ B hml hv
  obtain ⟨rfl, -⟩ := hv
  have hx := B.exec
  have hb := B.bytes
  have hr := B.returns
  have hts := atoms_spec (ws := wsX9_in) B.pre
  have hown : s.vm.findClass RX9 = some m.cls := findClass_of_methodNamed B.named
  have hlocks := B.notSynchronized
  have hl := lv_entry ([.int x0, .int x1, .int x2]) (n := 3) (Nat.le_of_ble_eq_true rfl)
  rw [lg_entry_eq]
  generalize (lg_sl ([.int x0, .int x1, .int x2]) ++ List.replicate (3 - (lg_sl ([.int x0, .int x1, .int x2])).length) Slot.unset).toArray = ls at hl ⊢
  have hl : lv_has ls 3 [(0, .int x0), (1, .int x1), (2, .int x2)] := hl
  unfold fX9_in at hf
  refine lv_iload_n hx hb dX9_in_0 rfl (lv_at hl 0 rfl) ?_
  refine lv_iload_n hx hb dX9_in_1 rfl (lv_at hl 1 rfl) ?_
  refine lv_icmp_lt (tgt := 14) hx hb dX9_in_2 (by decide) (fun c2 => ?_) (fun c2 => ?_)
  · have hf := (if_pos c2).symm.trans hf
    refine lv_iconst (v := (0 : Int32)) hx hb dX9_in_14 (by decide) ?_
    exact zret_pz hx hb hr (Or.inl rfl) hlocks hf dX9_in_15
  · have hf := (if_neg c2).symm.trans hf
    refine lv_iload_n hx hb dX9_in_5 rfl (lv_at hl 0 rfl) ?_
    refine lv_iload_n hx hb dX9_in_6 rfl (lv_at hl 2 rfl) ?_
    refine lv_icmp_gt (tgt := 14) hx hb dX9_in_7 (by decide) (fun c7 => ?_) (fun c7 => ?_)
    · have hf := (if_pos c7).symm.trans hf
      refine lv_iconst (v := (0 : Int32)) hx hb dX9_in_14 (by decide) ?_
      exact zret_pz hx hb hr (Or.inl rfl) hlocks hf dX9_in_15
    · have hf := (if_neg c7).symm.trans hf
      refine lv_iconst (v := (1 : Int32)) hx hb dX9_in_10 (by decide) ?_
      refine lv_goto (tgt := 15) hx hb dX9_in_11 (by decide) ?_
      exact zret_pz hx hb hr (Or.inl rfl) hlocks hf dX9_in_15
set_option maxHeartbeats 4000000 in
set_option maxRecDepth 100000 in
theorem k_X9_firstClass (l : Launch) (x0 : Int32) (rr : Int32) (hf : fX9_firstClass x0 = some rr) : Met l yX9_firstClass wsX9_firstClass ({ frames := 1, cells := 0, slots := 0, locals := 22 } : Room) (zPp [.int x0]) (zQp rr) 0 0 zNo := by
  refine Met.ofW (cc := cX9_firstClass) (maxL := 1) (ret := (some .int)) (by decide) rfl ?_
  intro p e s m args below meth c s₁ B hml hv
  obtain ⟨rfl, -⟩ := hv
  have hx := B.exec
  have hb := B.bytes
  have hr := B.returns
  have hts := atoms_spec (ws := wsX9_firstClass) B.pre
  have hown : s.vm.findClass RX9 = some m.cls := findClass_of_methodNamed B.named
  have hlocks := B.notSynchronized
  have hl := lv_entry ([.int x0]) (n := 1) (Nat.le_of_ble_eq_true rfl)
  rw [lg_entry_eq]
  generalize (lg_sl ([.int x0]) ++ List.replicate (1 - (lg_sl ([.int x0])).length) Slot.unset).toArray = ls at hl ⊢
  have hl : lv_has ls 1 [(0, .int x0)] := hl
  unfold fX9_firstClass at hf
  refine lv_iload_n hx hb dX9_firstClass_0 rfl (lv_at hl 0 rfl) ?_
  refine lv_bipush (v := (97 : Int32)) hx hb dX9_firstClass_1 (by decide) ?_
  refine lv_bipush (v := (122 : Int32)) hx hb dX9_firstClass_3 (by decide) ?_
  obtain ⟨v5, e5, hf⟩ := zb hf
  refine zc_p (va_runS (As := [.int x0, .int (97 : Int32), .int (122 : Int32)]) (rest := []) ⟨hx, hb, hml, hown, hts⟩ (k_X9_in l x0 (97 : Int32) (122 : Int32) v5 e5) (va_cwS 3 hts gX9_firstClass_X9_in rfl rfl rfl (by decide +kernel) ⟨Nat.le_of_ble_eq_true rfl, Nat.le_of_ble_eq_true rfl⟩) (zp_p _) rfl rfl hl.1 rfl (lv_room (Nat.le_of_ble_eq_true rfl)) dX9_firstClass_5 ⟨Nat.zero_le _, Nat.zero_le _⟩) ?_
  refine lv_if_ne (tgt := 22) hx hb dX9_firstClass_8 (by decide) (fun c8 => ?_) (fun c8 => ?_)
  · have hf := (if_neg c8).symm.trans hf
    refine lv_iconst (v := (0 : Int32)) hx hb dX9_firstClass_22 (by decide) ?_
    exact zret_pi hx hb hr hlocks hf dX9_firstClass_23
  · have hf := (if_pos c8).symm.trans hf
    refine lv_iload_n hx hb dX9_firstClass_11 rfl (lv_at hl 0 rfl) ?_
    refine lv_bipush (v := (65 : Int32)) hx hb dX9_firstClass_12 (by decide) ?_
    refine lv_bipush (v := (90 : Int32)) hx hb dX9_firstClass_14 (by decide) ?_
    obtain ⟨v16, e16, hf⟩ := zb hf
    refine zc_p (va_runS (As := [.int x0, .int (65 : Int32), .int (90 : Int32)]) (rest := []) ⟨hx, hb, hml, hown, hts⟩ (k_X9_in l x0 (65 : Int32) (90 : Int32) v16 e16) (va_cwS 3 hts gX9_firstClass_X9_in rfl rfl rfl (by decide +kernel) ⟨Nat.le_of_ble_eq_true rfl, Nat.le_of_ble_eq_true rfl⟩) (zp_p _) rfl rfl hl.1 rfl (lv_room (Nat.le_of_ble_eq_true rfl)) dX9_firstClass_16 ⟨Nat.zero_le _, Nat.zero_le _⟩) ?_
    refine lv_if_eq (tgt := 24) hx hb dX9_firstClass_19 (by decide) (fun c19 => ?_) (fun c19 => ?_)
    · have hf := (if_pos c19).symm.trans hf
      refine lv_iload_n hx hb dX9_firstClass_24 rfl (lv_at hl 0 rfl) ?_
      refine lv_bipush (v := (48 : Int32)) hx hb dX9_firstClass_25 (by decide) ?_
      refine lv_bipush (v := (57 : Int32)) hx hb dX9_firstClass_27 (by decide) ?_
      obtain ⟨v29, e29, hf⟩ := zb hf
      refine zc_p (va_runS (As := [.int x0, .int (48 : Int32), .int (57 : Int32)]) (rest := []) ⟨hx, hb, hml, hown, hts⟩ (k_X9_in l x0 (48 : Int32) (57 : Int32) v29 e29) (va_cwS 3 hts gX9_firstClass_X9_in rfl rfl rfl (by decide +kernel) ⟨Nat.le_of_ble_eq_true rfl, Nat.le_of_ble_eq_true rfl⟩) (zp_p _) rfl rfl hl.1 rfl (lv_room (Nat.le_of_ble_eq_true rfl)) dX9_firstClass_29 ⟨Nat.zero_le _, Nat.zero_le _⟩) ?_
      refine lv_if_eq (tgt := 37) hx hb dX9_firstClass_32 (by decide) (fun c32 => ?_) (fun c32 => ?_)
      · have hf := (if_pos c32).symm.trans hf
        refine lv_iload_n hx hb dX9_firstClass_37 rfl (lv_at hl 0 rfl) ?_
        by_cases c38_32 : x0 = (32 : Int32)
        · have hf := (if_pos c38_32).symm.trans hf
          refine lv_lookup (off := 146) (tgt := 184) hx hb dX9_firstClass_38 (by decide) (by rw [c38_32]; decide) (by decide) ?_
          refine lv_iconst (v := (2 : Int32)) hx hb dX9_firstClass_184 (by decide) ?_
          exact zret_pi hx hb hr hlocks hf dX9_firstClass_185
        have hf := (if_neg c38_32).symm.trans hf
        by_cases c38_33 : x0 = (33 : Int32)
        · have hf := (if_pos c38_33).symm.trans hf
          refine lv_lookup (off := 152) (tgt := 190) hx hb dX9_firstClass_38 (by decide) (by rw [c38_33]; decide) (by decide) ?_
          refine lv_iconst (v := (5 : Int32)) hx hb dX9_firstClass_190 (by decide) ?_
          exact zret_pi hx hb hr hlocks hf dX9_firstClass_191
        have hf := (if_neg c38_33).symm.trans hf
        by_cases c38_34 : x0 = (34 : Int32)
        · have hf := (if_pos c38_34).symm.trans hf
          refine lv_lookup (off := 163) (tgt := 201) hx hb dX9_firstClass_38 (by decide) (by rw [c38_34]; decide) (by decide) ?_
          refine lv_bipush (v := (9 : Int32)) hx hb dX9_firstClass_201 (by decide) ?_
          exact zret_pi hx hb hr hlocks hf dX9_firstClass_203
        have hf := (if_neg c38_34).symm.trans hf
        by_cases c38_39 : x0 = (39 : Int32)
        · have hf := (if_pos c38_39).symm.trans hf
          refine lv_lookup (off := 154) (tgt := 192) hx hb dX9_firstClass_38 (by decide) (by rw [c38_39]; decide) (by decide) ?_
          refine lv_bipush (v := (6 : Int32)) hx hb dX9_firstClass_192 (by decide) ?_
          exact zret_pi hx hb hr hlocks hf dX9_firstClass_194
        have hf := (if_neg c38_39).symm.trans hf
        by_cases c38_40 : x0 = (40 : Int32)
        · have hf := (if_pos c38_40).symm.trans hf
          refine lv_lookup (off := 160) (tgt := 198) hx hb dX9_firstClass_38 (by decide) (by rw [c38_40]; decide) (by decide) ?_
          refine lv_bipush (v := (8 : Int32)) hx hb dX9_firstClass_198 (by decide) ?_
          exact zret_pi hx hb hr hlocks hf dX9_firstClass_200
        have hf := (if_neg c38_40).symm.trans hf
        by_cases c38_41 : x0 = (41 : Int32)
        · have hf := (if_pos c38_41).symm.trans hf
          refine lv_lookup (off := 163) (tgt := 201) hx hb dX9_firstClass_38 (by decide) (by rw [c38_41]; decide) (by decide) ?_
          refine lv_bipush (v := (9 : Int32)) hx hb dX9_firstClass_201 (by decide) ?_
          exact zret_pi hx hb hr hlocks hf dX9_firstClass_203
        have hf := (if_neg c38_41).symm.trans hf
        by_cases c38_44 : x0 = (44 : Int32)
        · have hf := (if_pos c38_44).symm.trans hf
          refine lv_lookup (off := 150) (tgt := 188) hx hb dX9_firstClass_38 (by decide) (by rw [c38_44]; decide) (by decide) ?_
          refine lv_iconst (v := (4 : Int32)) hx hb dX9_firstClass_188 (by decide) ?_
          exact zret_pi hx hb hr hlocks hf dX9_firstClass_189
        have hf := (if_neg c38_44).symm.trans hf
        by_cases c38_45 : x0 = (45 : Int32)
        · have hf := (if_pos c38_45).symm.trans hf
          refine lv_lookup (off := 157) (tgt := 195) hx hb dX9_firstClass_38 (by decide) (by rw [c38_45]; decide) (by decide) ?_
          refine lv_bipush (v := (7 : Int32)) hx hb dX9_firstClass_195 (by decide) ?_
          exact zret_pi hx hb hr hlocks hf dX9_firstClass_197
        have hf := (if_neg c38_45).symm.trans hf
        by_cases c38_46 : x0 = (46 : Int32)
        · have hf := (if_pos c38_46).symm.trans hf
          refine lv_lookup (off := 148) (tgt := 186) hx hb dX9_firstClass_38 (by decide) (by rw [c38_46]; decide) (by decide) ?_
          refine lv_iconst (v := (3 : Int32)) hx hb dX9_firstClass_186 (by decide) ?_
          exact zret_pi hx hb hr hlocks hf dX9_firstClass_187
        have hf := (if_neg c38_46).symm.trans hf
        by_cases c38_58 : x0 = (58 : Int32)
        · have hf := (if_pos c38_58).symm.trans hf
          refine lv_lookup (off := 150) (tgt := 188) hx hb dX9_firstClass_38 (by decide) (by rw [c38_58]; decide) (by decide) ?_
          refine lv_iconst (v := (4 : Int32)) hx hb dX9_firstClass_188 (by decide) ?_
          exact zret_pi hx hb hr hlocks hf dX9_firstClass_189
        have hf := (if_neg c38_58).symm.trans hf
        by_cases c38_59 : x0 = (59 : Int32)
        · have hf := (if_pos c38_59).symm.trans hf
          refine lv_lookup (off := 150) (tgt := 188) hx hb dX9_firstClass_38 (by decide) (by rw [c38_59]; decide) (by decide) ?_
          refine lv_iconst (v := (4 : Int32)) hx hb dX9_firstClass_188 (by decide) ?_
          exact zret_pi hx hb hr hlocks hf dX9_firstClass_189
        have hf := (if_neg c38_59).symm.trans hf
        by_cases c38_63 : x0 = (63 : Int32)
        · have hf := (if_pos c38_63).symm.trans hf
          refine lv_lookup (off := 152) (tgt := 190) hx hb dX9_firstClass_38 (by decide) (by rw [c38_63]; decide) (by decide) ?_
          refine lv_iconst (v := (5 : Int32)) hx hb dX9_firstClass_190 (by decide) ?_
          exact zret_pi hx hb hr hlocks hf dX9_firstClass_191
        have hf := (if_neg c38_63).symm.trans hf
        by_cases c38_91 : x0 = (91 : Int32)
        · have hf := (if_pos c38_91).symm.trans hf
          refine lv_lookup (off := 160) (tgt := 198) hx hb dX9_firstClass_38 (by decide) (by rw [c38_91]; decide) (by decide) ?_
          refine lv_bipush (v := (8 : Int32)) hx hb dX9_firstClass_198 (by decide) ?_
          exact zret_pi hx hb hr hlocks hf dX9_firstClass_200
        have hf := (if_neg c38_91).symm.trans hf
        by_cases c38_93 : x0 = (93 : Int32)
        · have hf := (if_pos c38_93).symm.trans hf
          refine lv_lookup (off := 163) (tgt := 201) hx hb dX9_firstClass_38 (by decide) (by rw [c38_93]; decide) (by decide) ?_
          refine lv_bipush (v := (9 : Int32)) hx hb dX9_firstClass_201 (by decide) ?_
          exact zret_pi hx hb hr hlocks hf dX9_firstClass_203
        have hf := (if_neg c38_93).symm.trans hf
        by_cases c38_94 : x0 = (94 : Int32)
        · have hf := (if_pos c38_94).symm.trans hf
          refine lv_lookup (off := 166) (tgt := 204) hx hb dX9_firstClass_38 (by decide) (by rw [c38_94]; decide) (by decide) ?_
          refine lv_bipush (v := (10 : Int32)) hx hb dX9_firstClass_204 (by decide) ?_
          exact zret_pi hx hb hr hlocks hf dX9_firstClass_206
        have hf := (if_neg c38_94).symm.trans hf
        by_cases c38_96 : x0 = (96 : Int32)
        · have hf := (if_pos c38_96).symm.trans hf
          refine lv_lookup (off := 166) (tgt := 204) hx hb dX9_firstClass_38 (by decide) (by rw [c38_96]; decide) (by decide) ?_
          refine lv_bipush (v := (10 : Int32)) hx hb dX9_firstClass_204 (by decide) ?_
          exact zret_pi hx hb hr hlocks hf dX9_firstClass_206
        have hf := (if_neg c38_96).symm.trans hf
        by_cases c38_126 : x0 = (126 : Int32)
        · have hf := (if_pos c38_126).symm.trans hf
          refine lv_lookup (off := 166) (tgt := 204) hx hb dX9_firstClass_38 (by decide) (by rw [c38_126]; decide) (by decide) ?_
          refine lv_bipush (v := (10 : Int32)) hx hb dX9_firstClass_204 (by decide) ?_
          exact zret_pi hx hb hr hlocks hf dX9_firstClass_206
        have hf := (if_neg c38_126).symm.trans hf
        refine lv_lookup (off := 169) (tgt := 207) hx hb dX9_firstClass_38 (by decide) (by show Op.lookupswitch.offset [(32, 146), (33, 152), (34, 163), (39, 154), (40, 160), (41, 163), (44, 150), (45, 157), (46, 148), (58, 150), (59, 150), (63, 152), (91, 160), (93, 163), (94, 166), (96, 166), (126, 166)] 169 _ = _; rw [lv_osw (k := 32) c38_32 (by decide), lv_osw (k := 33) c38_33 (by decide), lv_osw (k := 34) c38_34 (by decide), lv_osw (k := 39) c38_39 (by decide), lv_osw (k := 40) c38_40 (by decide), lv_osw (k := 41) c38_41 (by decide), lv_osw (k := 44) c38_44 (by decide), lv_osw (k := 45) c38_45 (by decide), lv_osw (k := 46) c38_46 (by decide), lv_osw (k := 58) c38_58 (by decide), lv_osw (k := 59) c38_59 (by decide), lv_osw (k := 63) c38_63 (by decide), lv_osw (k := 91) c38_91 (by decide), lv_osw (k := 93) c38_93 (by decide), lv_osw (k := 94) c38_94 (by decide), lv_osw (k := 96) c38_96 (by decide), lv_osw (k := 126) c38_126 (by decide)]; rfl) (by decide) ?_
        refine lv_bipush (v := (11 : Int32)) hx hb dX9_firstClass_207 (by decide) ?_
        exact zret_pi hx hb hr hlocks hf dX9_firstClass_209
      · have hf := (if_neg c32).symm.trans hf
        refine lv_iconst (v := (1 : Int32)) hx hb dX9_firstClass_35 (by decide) ?_
        exact zret_pi hx hb hr hlocks hf dX9_firstClass_36
    · have hf := (if_neg c19).symm.trans hf
      refine lv_iconst (v := (0 : Int32)) hx hb dX9_firstClass_22 (by decide) ?_
      exact zret_pi hx hb hr hlocks hf dX9_firstClass_23
