theorem hi_X8_segment_4 : ∀ w ∈ wsX40, w ∈ wsX8_segment := fun _ h => List.mem_cons_of_mem _ (List.mem_append_left _ (List.mem_append_right _ h))
theorem hi_X8_segment_7 : ∀ w ∈ wsX70, w ∈ wsX8_segment := fun _ h => List.mem_cons_of_mem _ (List.mem_append_left _ (List.mem_append_left _ (List.mem_append_right _ h)))
theorem hi_X8_segment_8 : ∀ w ∈ wsX80, w ∈ wsX8_segment := fun _ h => List.mem_cons_of_mem _ (List.mem_append_left _ (List.mem_append_left _ (List.mem_append_left _ (List.mem_append_right _ h))))
set_option maxHeartbeats 4000000 in
set_option maxRecDepth 100000 in
theorem k_X8_segment (l : Launch) (D : va_G) (cy : Nat → ClassId) (b : Nat) (M0 : Mem) (p0 : Nat) (p1 : Int32) (p2 : Int32) (rr : Int32 × Mem) (hf : fX8_segment M0 p0 p1 p2 = some rr) : Met l yX8_segment wsX8_segment ({ frames := 6, cells := 0, slots := 0, locals := 136 } : Room) (zPc D cy b M0 [.ref (b + p0), .int p1, .int p2]) (zQi D cy b rr) 0 0 (zA b) := by
  refine Met.ofW (cc := cX8_segment) (maxL := 5) (ret := (some .int)) (by decide) rfl ?_
  intro p e s m args below meth c s₁ B hml hv
  obtain ⟨rfl, hP, hK⟩ := hv
  have hx := B.exec
  have hb := B.bytes
  have hr := B.returns
  have hts := atoms_spec (ws := wsX8_segment) B.pre
  have hown : s.vm.findClass RX8 = some m.cls := findClass_of_methodNamed B.named
  have hlocks := B.notSynchronized
  have hS : va_S (zA b) s.heap s.heap [] := va_S.rf
  have hl := lv_entry ([.ref (b + p0), .int p1, .int p2]) (n := 5) (Nat.le_of_ble_eq_true rfl)
  rw [lg_entry_eq]
  generalize (lg_sl ([.ref (b + p0), .int p1, .int p2]) ++ List.replicate (5 - (lg_sl ([.ref (b + p0), .int p1, .int p2])).length) Slot.unset).toArray = ls at hl ⊢
  have hl : lv_has ls 5 [(0, .ref (b + p0)), (1, .int p1), (2, .int p2)] := hl
  have L19 : ∀ (n19 : Nat) (M : Mem) (H : Heap) (locs : List Loc) (ls : Array Slot) (h0 : Nat) (x1 : Int32) (x3 : Int32) (x4 : Int32), fX8_segment_19L  n19 M h0 x1 x3 x4 = some rr → zH D cy b M H → va_S (zA b) s.heap H locs → lv_has ls 5 [(0, .ref (b + h0)), (1, .int x1), (3, .int x3), (4, .int x4)] → W p l e (headSpec wsX8_segment ({ frames := 6, cells := 0, slots := 0, locals := 136 } : Room)).room s m ([.ref (b + p0), .int p1, .int p2] : List Value).toArray below meth c H locs 0 0 (MQ below (zQi D cy b rr) ([.ref (b + p0), .int p1, .int p2] : List Value).toArray s 0 0 (zA b)) (F0 m 19 ls []) := by
    intro n19
    induction n19 with
    | zero =>
      intro M H locs ls h0 x1 x3 x4 hf
      have hf : (none : Option (Int32 × Mem)) = some rr := hf
      cases hf
    | succ n19 ih19 =>
      have J55 : ∀ (M : Mem) (H : Heap) (locs : List Loc) (ls : Array Slot) (h0 : Nat) (x1 : Int32) (x3 : Int32) (x4 : Int32), fX8_segment_55 (fX8_segment_19L  n19) M h0 x1 x3 x4 = some rr → zH D cy b M H → va_S (zA b) s.heap H locs → lv_has ls 5 [(0, .ref (b + h0)), (1, .int x1), (3, .int x3), (4, .int x4)] → W p l e (headSpec wsX8_segment ({ frames := 6, cells := 0, slots := 0, locals := 136 } : Room)).room s m ([.ref (b + p0), .int p1, .int p2] : List Value).toArray below meth c H locs 0 0 (MQ below (zQi D cy b rr) ([.ref (b + p0), .int p1, .int p2] : List Value).toArray s 0 0 (zA b)) (F0 m 55 ls []) := by
        intro M H locs ls h0 x1 x3 x4 hf hP hS hl
        unfold fX8_segment_55 at hf
        obtain ⟨x4_55, q55, hf⟩ := zlt_s hf
        refine lv_iinc (v := x4_55) (lv' := [(4, .int x4_55), (0, .ref (b + h0)), (1, .int x1), (3, .int x3)]) hx hb dX8_segment_55 hl (k := 3) rfl (by rw [← q55]; rfl) (by decide) rfl (fun ls hl => ?_)
        refine lv_goto (tgt := 19) hx hb dX8_segment_58 (by decide) ?_
        exact ih19 _ _ _ _ _ _ _ _ hf hP hS (lv_sub hl [1, 2, 3, 0] rfl)
      intro M H locs ls h0 x1 x3 x4 hf hP hS hl
      have hf : fX8_segment_19  (fX8_segment_19L  n19) M h0 x1 x3 x4 = some rr := hf
      unfold fX8_segment_19 at hf
      refine lv_iload hx hb dX8_segment_19 (lv_at hl 3 rfl) ?_
      refine lv_aload_n hx hb dX8_segment_21 rfl (lv_at hl 0 rfl) ?_
      obtain ⟨v22, e22, hf⟩ := zb hf
      refine zr_gr (ci := 8) (k := 0) (C := RX8) (T := TX8) (N := 7) hx hb hts hi_X8_segment_8 hown hK hP e22 rfl rfl (by decide) (by decide) (hts (.fieldLink RX8 10 "BoundaryAnalyzer" "text" "LBoundaryAnalyzer$Text;") (List.mem_of_getElem? (i := 1) rfl)) dX8_segment_22 ?_
      obtain ⟨v25, e25, hf⟩ := zb hf
      refine zr_gr (ci := 7) (k := 0) (C := RX7) (T := TX7) (N := 2) hx hb hts hi_X8_segment_7 hown hK hP e25 rfl rfl (by decide) (by decide) (hts (.fieldLink RX8 134 "BoundaryAnalyzer$Text" "signs" "LBoundaryAnalyzer$Row;") (List.mem_of_getElem? (i := 2) rfl)) dX8_segment_25 ?_
      obtain ⟨v28, e28, hf⟩ := zb hf
      refine zr_gi (ci := 4) (k := 1) (C := RX4) (T := TX4) (N := 2) hx hb hts hi_X8_segment_4 hown hK hP e28 rfl rfl (by decide) (by decide) (hts (.fieldLink RX8 70 "BoundaryAnalyzer$Row" "size" "I") (List.mem_of_getElem? (i := 3) rfl)) dX8_segment_28 ?_
      refine lv_icmp_ge (tgt := 61) hx hb dX8_segment_31 (by decide) (fun c31 => ?_) (fun c31 => ?_)
      · have hf := (if_pos c31).symm.trans hf
        refine lv_bipush (v := (-5 : Int32)) hx hb dX8_segment_61 (by decide) ?_
        exact zret_i hx hb hr hlocks hf hP hS dX8_segment_63
      · have hf := (if_neg c31).symm.trans hf
        refine lv_aload_n hx hb dX8_segment_34 rfl (lv_at hl 0 rfl) ?_
        refine lv_iload_n hx hb dX8_segment_35 rfl (lv_at hl 1 rfl) ?_
        refine lv_iload hx hb dX8_segment_36 (lv_at hl 3 rfl) ?_
        obtain ⟨u38, t38, hf⟩ := zb hf
        obtain ⟨r38, e38, hf⟩ := zb hf
        refine zc_i hS (va_runV (As := [.int x1, .int x4]) (rest := []) ⟨hx, hb, hml, hown, hts⟩ (k_X8_stateAt l D cy b M h0 x1 x4 r38 e38) (cwV 2 hts gX8_segment_X8_stateAt rfl rfl rfl (by decide +kernel) ⟨Nat.le_of_ble_eq_true rfl, Nat.le_of_ble_eq_true rfl⟩) (zp_V _ hK hP t38 (T := TX8) (N := 7) rfl (by decide)) rfl rfl hl.1 rfl (lv_room (Nat.le_of_ble_eq_true rfl)) dX8_segment_38 ⟨Nat.zero_le _, Nat.zero_le _⟩) (fun H locs hP hS => ?_)
        refine lv_iconst (v := (1 : Int32)) hx hb dX8_segment_41 (by decide) ?_
        refine lv_icmp_ne (tgt := 55) hx hb dX8_segment_42 (by decide) (fun c42 => ?_) (fun c42 => ?_)
        · have hf := (if_neg c42).symm.trans hf
          exact J55 _ _ _ _ _ _ _ _ hf hP hS (lv_sub hl [0, 1, 2, 3] rfl)
        · have hf := (if_pos c42).symm.trans hf
          refine lv_iload_n hx hb dX8_segment_45 rfl (lv_at hl 2 rfl) ?_
          refine lv_if_ne (tgt := 52) hx hb dX8_segment_46 (by decide) (fun c46 => ?_) (fun c46 => ?_)
          · have hf := (if_neg c46).symm.trans hf
            obtain ⟨x3_52, q52, hf⟩ := zlt_s hf
            refine lv_iinc (v := x3_52) (lv' := [(3, .int x3_52), (0, .ref (b + h0)), (1, .int x1), (4, .int x4)]) hx hb dX8_segment_52 hl (k := 2) rfl (by rw [← q52]; rfl) (by decide) rfl (fun ls hl => ?_)
            exact J55 _ _ _ _ _ _ _ _ hf hP hS (lv_sub hl [1, 2, 0, 3] rfl)
          · have hf := (if_pos c46).symm.trans hf
            refine lv_iload hx hb dX8_segment_49 (lv_at hl 3 rfl) ?_
            exact zret_i hx hb hr hlocks hf hP hS dX8_segment_51
  unfold fX8_segment at hf
  refine lv_iload_n hx hb dX8_segment_0 rfl (lv_at hl 1 rfl) ?_
  obtain ⟨v1, e1, hf⟩ := zb hf
  refine zc_p (va_runS (As := [.int p1]) (rest := []) ⟨hx, hb, hml, hown, hts⟩ (k_X8_isKind l p1 v1 e1) (va_cwS 1 hts gX8_segment_X8_isKind rfl rfl rfl (by decide +kernel) ⟨Nat.le_of_ble_eq_true rfl, Nat.le_of_ble_eq_true rfl⟩) (zp_p _) rfl rfl hl.1 rfl (lv_room (Nat.le_of_ble_eq_true rfl)) dX8_segment_1 ⟨Nat.zero_le _, Nat.zero_le _⟩) ?_
  refine lv_if_eq (tgt := 11) hx hb dX8_segment_4 (by decide) (fun c4 => ?_) (fun c4 => ?_)
  · have hf := (if_pos c4).symm.trans hf
    refine lv_bipush (v := (-2 : Int32)) hx hb dX8_segment_11 (by decide) ?_
    exact zret_i hx hb hr hlocks hf hP hS dX8_segment_13
  · have hf := (if_neg c4).symm.trans hf
    refine lv_iload_n hx hb dX8_segment_7 rfl (lv_at hl 2 rfl) ?_
    refine lv_if_ge (tgt := 14) hx hb dX8_segment_8 (by decide) (fun c8 => ?_) (fun c8 => ?_)
    · have hf := (if_pos c8).symm.trans hf
      refine lv_iload_n hx hb dX8_segment_14 rfl (lv_at hl 2 rfl) ?_
      refine lv_istore_n (lv' := [(3, .int p2), (0, .ref (b + p0)), (1, .int p1), (2, .int p2)]) hx hb dX8_segment_15 rfl hl (by decide) rfl (fun ls hl => ?_)
      refine lv_iconst (v := (0 : Int32)) hx hb dX8_segment_16 (by decide) ?_
      refine lv_istore (lv' := [(4, .int (0 : Int32)), (3, .int p2), (0, .ref (b + p0)), (1, .int p1), (2, .int p2)]) hx hb dX8_segment_17 hl (by decide) rfl (fun ls hl => ?_)
      exact L19 _ _ _ _ _ _ _ _ _ hf hP hS (lv_sub hl [2, 3, 1, 0] rfl)
    · have hf := (if_neg c8).symm.trans hf
      refine lv_bipush (v := (-2 : Int32)) hx hb dX8_segment_11 (by decide) ?_
      exact zret_i hx hb hr hlocks hf hP hS dX8_segment_13
theorem hi_X8_longest_4 : ∀ w ∈ wsX40, w ∈ wsX8_longest := fun _ h => List.mem_cons_of_mem _ (List.mem_append_left _ (List.mem_append_right _ h))
theorem hi_X8_longest_7 : ∀ w ∈ wsX70, w ∈ wsX8_longest := fun _ h => List.mem_cons_of_mem _ (List.mem_append_left _ (List.mem_append_left _ (List.mem_append_right _ h)))
theorem hi_X8_longest_8 : ∀ w ∈ wsX80, w ∈ wsX8_longest := fun _ h => List.mem_cons_of_mem _ (List.mem_append_left _ (List.mem_append_left _ (List.mem_append_left _ (List.mem_append_right _ h))))
set_option maxHeartbeats 4000000 in
set_option maxRecDepth 100000 in
theorem k_X8_longest (l : Launch) (D : va_G) (cy : Nat → ClassId) (b : Nat) (M0 : Mem) (p0 : Nat) (p1 : Int32) (rr : Int32 × Mem) (hf : fX8_longest M0 p0 p1 = some rr) : Met l yX8_longest wsX8_longest ({ frames := 6, cells := 0, slots := 0, locals := 136 } : Room) (zPc D cy b M0 [.ref (b + p0), .int p1]) (zQi D cy b rr) 0 0 (zA b) := by
  refine Met.ofW (cc := cX8_longest) (maxL := 6) (ret := (some .int)) (by decide) rfl ?_
  intro p e s m args below meth c s₁ B hml hv
  obtain ⟨rfl, hP, hK⟩ := hv
  have hx := B.exec
  have hb := B.bytes
  have hr := B.returns
  have hts := atoms_spec (ws := wsX8_longest) B.pre
  have hown : s.vm.findClass RX8 = some m.cls := findClass_of_methodNamed B.named
  have hlocks := B.notSynchronized
  have hS : va_S (zA b) s.heap s.heap [] := va_S.rf
  have hl := lv_entry ([.ref (b + p0), .int p1]) (n := 6) (Nat.le_of_ble_eq_true rfl)
  rw [lg_entry_eq]
  generalize (lg_sl ([.ref (b + p0), .int p1]) ++ List.replicate (6 - (lg_sl ([.ref (b + p0), .int p1])).length) Slot.unset).toArray = ls at hl ⊢
  have hl : lv_has ls 6 [(0, .ref (b + p0)), (1, .int p1)] := hl
  have L21 : ∀ (n21 : Nat) (M : Mem) (H : Heap) (locs : List Loc) (ls : Array Slot) (h0 : Nat) (x1 : Int32) (x2 : Int32) (x3 : Int32) (x4 : Int32) (x5 : Int32), fX8_longest_21L  n21 M h0 x1 x2 x3 x4 x5 = some rr → zH D cy b M H → va_S (zA b) s.heap H locs → lv_has ls 6 [(0, .ref (b + h0)), (1, .int x1), (2, .int x2), (3, .int x3), (4, .int x4), (5, .int x5)] → W p l e (headSpec wsX8_longest ({ frames := 6, cells := 0, slots := 0, locals := 136 } : Room)).room s m ([.ref (b + p0), .int p1] : List Value).toArray below meth c H locs 0 0 (MQ below (zQi D cy b rr) ([.ref (b + p0), .int p1] : List Value).toArray s 0 0 (zA b)) (F0 m 21 ls []) := by
    intro n21
    induction n21 with
    | zero =>
      intro M H locs ls h0 x1 x2 x3 x4 x5 hf
      have hf : (none : Option (Int32 × Mem)) = some rr := hf
      cases hf
    | succ n21 ih21 =>
      have J69 : ∀ (M : Mem) (H : Heap) (locs : List Loc) (ls : Array Slot) (h0 : Nat) (x1 : Int32) (x2 : Int32) (x3 : Int32) (x4 : Int32) (x5 : Int32), fX8_longest_69 (fX8_longest_21L  n21) M h0 x1 x2 x3 x4 x5 = some rr → zH D cy b M H → va_S (zA b) s.heap H locs → lv_has ls 6 [(0, .ref (b + h0)), (1, .int x1), (2, .int x2), (3, .int x3), (4, .int x4), (5, .int x5)] → W p l e (headSpec wsX8_longest ({ frames := 6, cells := 0, slots := 0, locals := 136 } : Room)).room s m ([.ref (b + p0), .int p1] : List Value).toArray below meth c H locs 0 0 (MQ below (zQi D cy b rr) ([.ref (b + p0), .int p1] : List Value).toArray s 0 0 (zA b)) (F0 m 69 ls []) := by
        intro M H locs ls h0 x1 x2 x3 x4 x5 hf hP hS hl
        unfold fX8_longest_69 at hf
        obtain ⟨x5_69, q69, hf⟩ := zlt_s hf
        refine lv_iinc (v := x5_69) (lv' := [(5, .int x5_69), (0, .ref (b + h0)), (1, .int x1), (2, .int x2), (3, .int x3), (4, .int x4)]) hx hb dX8_longest_69 hl (k := 5) rfl (by rw [← q69]; rfl) (by decide) rfl (fun ls hl => ?_)
        refine lv_goto (tgt := 21) hx hb dX8_longest_72 (by decide) ?_
        exact ih21 _ _ _ _ _ _ _ _ _ _ hf hP hS (lv_sub hl [1, 2, 3, 4, 5, 0] rfl)
      have J65 : ∀ (M : Mem) (H : Heap) (locs : List Loc) (ls : Array Slot) (h0 : Nat) (x1 : Int32) (x2 : Int32) (x3 : Int32) (x5 : Int32), fX8_longest_65 (fX8_longest_21L  n21) M h0 x1 x2 x3 x5 = some rr → zH D cy b M H → va_S (zA b) s.heap H locs → lv_has ls 6 [(0, .ref (b + h0)), (1, .int x1), (2, .int x2), (3, .int x3), (5, .int x5)] → W p l e (headSpec wsX8_longest ({ frames := 6, cells := 0, slots := 0, locals := 136 } : Room)).room s m ([.ref (b + p0), .int p1] : List Value).toArray below meth c H locs 0 0 (MQ below (zQi D cy b rr) ([.ref (b + p0), .int p1] : List Value).toArray s 0 0 (zA b)) (F0 m 65 ls []) := by
        intro M H locs ls h0 x1 x2 x3 x5 hf hP hS hl
        unfold fX8_longest_65 at hf
        refine lv_iload hx hb dX8_longest_65 (lv_at hl 4 rfl) ?_
        refine lv_istore (lv' := [(4, .int x5), (0, .ref (b + h0)), (1, .int x1), (2, .int x2), (3, .int x3), (5, .int x5)]) hx hb dX8_longest_67 hl (by decide) rfl (fun ls hl => ?_)
        exact J69 _ _ _ _ _ _ _ _ _ _ hf hP hS (lv_sub hl [1, 2, 3, 4, 0, 5] rfl)
      intro M H locs ls h0 x1 x2 x3 x4 x5 hf hP hS hl
      have hf : fX8_longest_21  (fX8_longest_21L  n21) M h0 x1 x2 x3 x4 x5 = some rr := hf
      unfold fX8_longest_21 at hf
      refine lv_iload hx hb dX8_longest_21 (lv_at hl 5 rfl) ?_
      refine lv_aload_n hx hb dX8_longest_23 rfl (lv_at hl 0 rfl) ?_
      obtain ⟨v24, e24, hf⟩ := zb hf
      refine zr_gr (ci := 8) (k := 0) (C := RX8) (T := TX8) (N := 7) hx hb hts hi_X8_longest_8 hown hK hP e24 rfl rfl (by decide) (by decide) (hts (.fieldLink RX8 10 "BoundaryAnalyzer" "text" "LBoundaryAnalyzer$Text;") (List.mem_of_getElem? (i := 1) rfl)) dX8_longest_24 ?_
      obtain ⟨v27, e27, hf⟩ := zb hf
      refine zr_gr (ci := 7) (k := 0) (C := RX7) (T := TX7) (N := 2) hx hb hts hi_X8_longest_7 hown hK hP e27 rfl rfl (by decide) (by decide) (hts (.fieldLink RX8 134 "BoundaryAnalyzer$Text" "signs" "LBoundaryAnalyzer$Row;") (List.mem_of_getElem? (i := 2) rfl)) dX8_longest_27 ?_
      obtain ⟨v30, e30, hf⟩ := zb hf
      refine zr_gi (ci := 4) (k := 1) (C := RX4) (T := TX4) (N := 2) hx hb hts hi_X8_longest_4 hown hK hP e30 rfl rfl (by decide) (by decide) (hts (.fieldLink RX8 70 "BoundaryAnalyzer$Row" "size" "I") (List.mem_of_getElem? (i := 3) rfl)) dX8_longest_30 ?_
      refine lv_icmp_gt (tgt := 75) hx hb dX8_longest_33 (by decide) (fun c33 => ?_) (fun c33 => ?_)
      · have hf := (if_pos c33).symm.trans hf
        refine lv_iload_n hx hb dX8_longest_75 rfl (lv_at hl 2 rfl) ?_
        exact zret_i hx hb hr hlocks hf hP hS dX8_longest_76
      · have hf := (if_neg c33).symm.trans hf
        refine lv_aload_n hx hb dX8_longest_36 rfl (lv_at hl 0 rfl) ?_
        refine lv_iload_n hx hb dX8_longest_37 rfl (lv_at hl 1 rfl) ?_
        refine lv_iload hx hb dX8_longest_38 (lv_at hl 5 rfl) ?_
        obtain ⟨u40, t40, hf⟩ := zb hf
        obtain ⟨r40, e40, hf⟩ := zb hf
        refine zc_i hS (va_runV (As := [.int x1, .int x5]) (rest := []) ⟨hx, hb, hml, hown, hts⟩ (k_X8_stateAt l D cy b M h0 x1 x5 r40 e40) (cwV 2 hts gX8_longest_X8_stateAt rfl rfl rfl (by decide +kernel) ⟨Nat.le_of_ble_eq_true rfl, Nat.le_of_ble_eq_true rfl⟩) (zp_V _ hK hP t40 (T := TX8) (N := 7) rfl (by decide)) rfl rfl hl.1 rfl (lv_room (Nat.le_of_ble_eq_true rfl)) dX8_longest_40 ⟨Nat.zero_le _, Nat.zero_le _⟩) (fun H locs hP hS => ?_)
        refine lv_iconst (v := (1 : Int32)) hx hb dX8_longest_43 (by decide) ?_
        refine lv_icmp_ne (tgt := 69) hx hb dX8_longest_44 (by decide) (fun c44 => ?_) (fun c44 => ?_)
        · have hf := (if_neg c44).symm.trans hf
          exact J69 _ _ _ _ _ _ _ _ _ _ hf hP hS (lv_sub hl [0, 1, 2, 3, 4, 5] rfl)
        · have hf := (if_pos c44).symm.trans hf
          refine lv_iload hx hb dX8_longest_47 (lv_at hl 5 rfl) ?_
          refine lv_iload hx hb dX8_longest_49 (lv_at hl 4 rfl) ?_
          refine lv_isub hx hb dX8_longest_51 ?_
          refine lv_iload_n hx hb dX8_longest_52 rfl (lv_at hl 3 rfl) ?_
          refine lv_icmp_le (tgt := 65) hx hb dX8_longest_53 (by decide) (fun c53 => ?_) (fun c53 => ?_)
          · have hf := (if_pos c53).symm.trans hf
            exact J65 _ _ _ _ _ _ _ _ _ hf hP hS (lv_sub hl [0, 1, 2, 3, 5] rfl)
          · have hf := (if_neg c53).symm.trans hf
            refine lv_iload hx hb dX8_longest_56 (lv_at hl 4 rfl) ?_
            refine lv_istore_n (lv' := [(2, .int x4), (0, .ref (b + h0)), (1, .int x1), (3, .int x3), (4, .int x4), (5, .int x5)]) hx hb dX8_longest_58 rfl hl (by decide) rfl (fun ls hl => ?_)
            refine lv_iload hx hb dX8_longest_59 (lv_at hl 5 rfl) ?_
            refine lv_iload hx hb dX8_longest_61 (lv_at hl 4 rfl) ?_
            refine lv_isub hx hb dX8_longest_63 ?_
            obtain ⟨x3_64, q64, hf⟩ := zlt_s hf
            refine zt q64 ?_
            refine lv_istore_n (lv' := [(3, .int x3_64), (2, .int x4), (0, .ref (b + h0)), (1, .int x1), (4, .int x4), (5, .int x5)]) hx hb dX8_longest_64 rfl hl (by decide) rfl (fun ls hl => ?_)
            exact J65 _ _ _ _ _ _ _ _ _ hf hP hS (lv_sub hl [2, 3, 1, 0, 5] rfl)
  unfold fX8_longest at hf
  refine lv_iload_n hx hb dX8_longest_0 rfl (lv_at hl 1 rfl) ?_
  obtain ⟨v1, e1, hf⟩ := zb hf
  refine zc_p (va_runS (As := [.int p1]) (rest := []) ⟨hx, hb, hml, hown, hts⟩ (k_X8_isKind l p1 v1 e1) (va_cwS 1 hts gX8_longest_X8_isKind rfl rfl rfl (by decide +kernel) ⟨Nat.le_of_ble_eq_true rfl, Nat.le_of_ble_eq_true rfl⟩) (zp_p _) rfl rfl hl.1 rfl (lv_room (Nat.le_of_ble_eq_true rfl)) dX8_longest_1 ⟨Nat.zero_le _, Nat.zero_le _⟩) ?_
  refine lv_if_ne (tgt := 10) hx hb dX8_longest_4 (by decide) (fun c4 => ?_) (fun c4 => ?_)
  · have hf := (if_neg c4).symm.trans hf
    refine lv_bipush (v := (-5 : Int32)) hx hb dX8_longest_10 (by decide) ?_
    refine lv_istore_n (lv' := [(2, .int (-5 : Int32)), (0, .ref (b + p0)), (1, .int p1)]) hx hb dX8_longest_12 rfl hl (by decide) rfl (fun ls hl => ?_)
    refine lv_iconst (v := (0 : Int32)) hx hb dX8_longest_13 (by decide) ?_
    refine lv_istore_n (lv' := [(3, .int (0 : Int32)), (2, .int (-5 : Int32)), (0, .ref (b + p0)), (1, .int p1)]) hx hb dX8_longest_14 rfl hl (by decide) rfl (fun ls hl => ?_)
    refine lv_iconst (v := (0 : Int32)) hx hb dX8_longest_15 (by decide) ?_
    refine lv_istore (lv' := [(4, .int (0 : Int32)), (3, .int (0 : Int32)), (2, .int (-5 : Int32)), (0, .ref (b + p0)), (1, .int p1)]) hx hb dX8_longest_16 hl (by decide) rfl (fun ls hl => ?_)
    refine lv_iconst (v := (1 : Int32)) hx hb dX8_longest_18 (by decide) ?_
    refine lv_istore (lv' := [(5, .int (1 : Int32)), (4, .int (0 : Int32)), (3, .int (0 : Int32)), (2, .int (-5 : Int32)), (0, .ref (b + p0)), (1, .int p1)]) hx hb dX8_longest_19 hl (by decide) rfl (fun ls hl => ?_)
    exact L21 _ _ _ _ _ _ _ _ _ _ _ hf hP hS (lv_sub hl [4, 5, 3, 2, 1, 0] rfl)
  · have hf := (if_pos c4).symm.trans hf
    refine lv_bipush (v := (-2 : Int32)) hx hb dX8_longest_7 (by decide) ?_
    exact zret_i hx hb hr hlocks hf hP hS dX8_longest_9
