theorem hi_X9_segmentCount_9 : ∀ w ∈ wsX90, w ∈ wsX9_segmentCount := fun _ h => List.mem_cons_of_mem _ (List.mem_append_right _ h)
set_option maxHeartbeats 4000000 in
set_option maxRecDepth 100000 in
theorem k_X9_segmentCount (l : Launch) (D : va_G) (cy : Nat → ClassId) (b : Nat) (M0 : Mem) (p0 : Nat) (p1 : Int32) (rr : Int32 × Mem) (hf : fX9_segmentCount M0 p0 p1 = some rr) : Met l yX9_segmentCount wsX9_segmentCount ({ frames := 3, cells := 0, slots := 0, locals := 72 } : Room) (zPc D cy b M0 [.ref (b + p0), .int p1]) (zQi D cy b rr) 0 0 (zA b) := by
  refine Met.ofW (cc := cX9_segmentCount) (maxL := 2) (ret := (some .int)) (by decide) rfl ?_
  intro p e s m args below meth c s₁ B hml hv
  obtain ⟨rfl, hP, hK⟩ := hv
  have hx := B.exec
  have hb := B.bytes
  have hr := B.returns
  have hts := atoms_spec (ws := wsX9_segmentCount) B.pre
  have hown : s.vm.findClass RX9 = some m.cls := findClass_of_methodNamed B.named
  have hlocks := B.notSynchronized
  have hS : va_S (zA b) s.heap s.heap [] := va_S.rf
  have hl := lv_entry ([.ref (b + p0), .int p1]) (n := 2) (Nat.le_of_ble_eq_true rfl)
  rw [lg_entry_eq]
  generalize (lg_sl ([.ref (b + p0), .int p1]) ++ List.replicate (2 - (lg_sl ([.ref (b + p0), .int p1])).length) Slot.unset).toArray = ls at hl ⊢
  have hl : lv_has ls 2 [(0, .ref (b + p0)), (1, .int p1)] := hl
  unfold fX9_segmentCount at hf
  refine lv_iload_n hx hb dX9_segmentCount_0 rfl (lv_at hl 1 rfl) ?_
  obtain ⟨v1, e1, hf⟩ := zb hf
  refine zc_p (va_runS (As := [.int p1]) (rest := []) ⟨hx, hb, hml, hown, hts⟩ (k_X9_noKind l p1 v1 e1) (va_cwS 1 hts gX9_segmentCount_X9_noKind rfl rfl rfl (by decide +kernel) ⟨Nat.le_of_ble_eq_true rfl, Nat.le_of_ble_eq_true rfl⟩) (zp_p _) rfl rfl hl.1 rfl (lv_room (Nat.le_of_ble_eq_true rfl)) dX9_segmentCount_1 ⟨Nat.zero_le _, Nat.zero_le _⟩) ?_
  refine lv_if_eq (tgt := 10) hx hb dX9_segmentCount_4 (by decide) (fun c4 => ?_) (fun c4 => ?_)
  · have hf := (if_pos c4).symm.trans hf
    refine lv_aload_n hx hb dX9_segmentCount_10 rfl (lv_at hl 0 rfl) ?_
    refine lv_iload_n hx hb dX9_segmentCount_11 rfl (lv_at hl 1 rfl) ?_
    obtain ⟨u12, t12, hf⟩ := zb hf
    obtain ⟨M12, e12, hf⟩ := zb hf
    refine zc_v hS (va_runV (As := [.int p1]) (rest := []) ⟨hx, hb, hml, hown, hts⟩ (k_X9_layBoundaries l D cy b M0 p0 p1 M12 e12) (cwV 1 hts gX9_segmentCount_X9_layBoundaries rfl rfl rfl (by decide +kernel) ⟨Nat.le_of_ble_eq_true rfl, Nat.le_of_ble_eq_true rfl⟩) (zp_V _ hK hP t12 (T := TX9) (N := 54) rfl (by decide)) rfl rfl hl.1 rfl (lv_room (Nat.le_of_ble_eq_true rfl)) dX9_segmentCount_12 ⟨Nat.zero_le _, Nat.zero_le _⟩) (fun H locs hP hS => ?_)
    refine lv_aload_n hx hb dX9_segmentCount_15 rfl (lv_at hl 0 rfl) ?_
    obtain ⟨v16, e16, hf⟩ := zb hf
    refine zr_gi (ci := 9) (k := 52) (C := RX9) (T := TX9) (N := 54) hx hb hts hi_X9_segmentCount_9 hown hK hP e16 rfl rfl (by decide) (by decide) (hts (.fieldLink RX9 294 "BoundaryAnalyzerModel" "boundaries" "I") (List.mem_of_getElem? (i := 1) rfl)) dX9_segmentCount_16 ?_
    refine lv_iconst (v := (1 : Int32)) hx hb dX9_segmentCount_19 (by decide) ?_
    refine lv_isub hx hb dX9_segmentCount_20 ?_
    exact zret_i hx hb hr hlocks hf hP hS dX9_segmentCount_21
  · have hf := (if_neg c4).symm.trans hf
    refine lv_bipush (v := (-2 : Int32)) hx hb dX9_segmentCount_7 (by decide) ?_
    exact zret_i hx hb hr hlocks hf hP hS dX9_segmentCount_9
theorem hi_X9_segment_9 : ∀ w ∈ wsX90, w ∈ wsX9_segment := fun _ h => List.mem_cons_of_mem _ (List.mem_append_right _ h)
set_option maxHeartbeats 4000000 in
set_option maxRecDepth 100000 in
theorem k_X9_segment (l : Launch) (D : va_G) (cy : Nat → ClassId) (b : Nat) (M0 : Mem) (p0 : Nat) (p1 : Int32) (p2 : Int32) (rr : Int32 × Mem) (hf : fX9_segment M0 p0 p1 p2 = some rr) : Met l yX9_segment wsX9_segment ({ frames := 3, cells := 0, slots := 0, locals := 72 } : Room) (zPc D cy b M0 [.ref (b + p0), .int p1, .int p2]) (zQi D cy b rr) 0 0 (zA b) := by
  refine Met.ofW (cc := cX9_segment) (maxL := 3) (ret := (some .int)) (by decide) rfl ?_
  intro p e s m args below meth c s₁ B hml hv
  obtain ⟨rfl, hP, hK⟩ := hv
  have hx := B.exec
  have hb := B.bytes
  have hr := B.returns
  have hts := atoms_spec (ws := wsX9_segment) B.pre
  have hown : s.vm.findClass RX9 = some m.cls := findClass_of_methodNamed B.named
  have hlocks := B.notSynchronized
  have hS : va_S (zA b) s.heap s.heap [] := va_S.rf
  have hl := lv_entry ([.ref (b + p0), .int p1, .int p2]) (n := 3) (Nat.le_of_ble_eq_true rfl)
  rw [lg_entry_eq]
  generalize (lg_sl ([.ref (b + p0), .int p1, .int p2]) ++ List.replicate (3 - (lg_sl ([.ref (b + p0), .int p1, .int p2])).length) Slot.unset).toArray = ls at hl ⊢
  have hl : lv_has ls 3 [(0, .ref (b + p0)), (1, .int p1), (2, .int p2)] := hl
  unfold fX9_segment at hf
  refine lv_iload_n hx hb dX9_segment_0 rfl (lv_at hl 1 rfl) ?_
  obtain ⟨v1, e1, hf⟩ := zb hf
  refine zc_p (va_runS (As := [.int p1]) (rest := []) ⟨hx, hb, hml, hown, hts⟩ (k_X9_noKind l p1 v1 e1) (va_cwS 1 hts gX9_segment_X9_noKind rfl rfl rfl (by decide +kernel) ⟨Nat.le_of_ble_eq_true rfl, Nat.le_of_ble_eq_true rfl⟩) (zp_p _) rfl rfl hl.1 rfl (lv_room (Nat.le_of_ble_eq_true rfl)) dX9_segment_1 ⟨Nat.zero_le _, Nat.zero_le _⟩) ?_
  refine lv_if_ne (tgt := 11) hx hb dX9_segment_4 (by decide) (fun c4 => ?_) (fun c4 => ?_)
  · have hf := (if_neg c4).symm.trans hf
    refine lv_bipush (v := (-2 : Int32)) hx hb dX9_segment_11 (by decide) ?_
    exact zret_i hx hb hr hlocks hf hP hS dX9_segment_13
  · have hf := (if_pos c4).symm.trans hf
    refine lv_iload_n hx hb dX9_segment_7 rfl (lv_at hl 2 rfl) ?_
    refine lv_if_ge (tgt := 14) hx hb dX9_segment_8 (by decide) (fun c8 => ?_) (fun c8 => ?_)
    · have hf := (if_pos c8).symm.trans hf
      refine lv_aload_n hx hb dX9_segment_14 rfl (lv_at hl 0 rfl) ?_
      refine lv_iload_n hx hb dX9_segment_15 rfl (lv_at hl 1 rfl) ?_
      obtain ⟨u16, t16, hf⟩ := zb hf
      obtain ⟨M16, e16, hf⟩ := zb hf
      refine zc_v hS (va_runV (As := [.int p1]) (rest := []) ⟨hx, hb, hml, hown, hts⟩ (k_X9_layBoundaries l D cy b M0 p0 p1 M16 e16) (cwV 1 hts gX9_segment_X9_layBoundaries rfl rfl rfl (by decide +kernel) ⟨Nat.le_of_ble_eq_true rfl, Nat.le_of_ble_eq_true rfl⟩) (zp_V _ hK hP t16 (T := TX9) (N := 54) rfl (by decide)) rfl rfl hl.1 rfl (lv_room (Nat.le_of_ble_eq_true rfl)) dX9_segment_16 ⟨Nat.zero_le _, Nat.zero_le _⟩) (fun H locs hP hS => ?_)
      refine lv_iload_n hx hb dX9_segment_19 rfl (lv_at hl 2 rfl) ?_
      refine lv_aload_n hx hb dX9_segment_20 rfl (lv_at hl 0 rfl) ?_
      obtain ⟨v21, e21, hf⟩ := zb hf
      refine zr_gi (ci := 9) (k := 52) (C := RX9) (T := TX9) (N := 54) hx hb hts hi_X9_segment_9 hown hK hP e21 rfl rfl (by decide) (by decide) (hts (.fieldLink RX9 294 "BoundaryAnalyzerModel" "boundaries" "I") (List.mem_of_getElem? (i := 1) rfl)) dX9_segment_21 ?_
      refine lv_iconst (v := (1 : Int32)) hx hb dX9_segment_24 (by decide) ?_
      refine lv_isub hx hb dX9_segment_25 ?_
      refine lv_icmp_ge (tgt := 38) hx hb dX9_segment_26 (by decide) (fun c26 => ?_) (fun c26 => ?_)
      · have hf := (if_pos c26).symm.trans hf
        refine lv_bipush (v := (-5 : Int32)) hx hb dX9_segment_38 (by decide) ?_
        exact zret_i hx hb hr hlocks hf hP hS dX9_segment_40
      · have hf := (if_neg c26).symm.trans hf
        refine lv_aload_n hx hb dX9_segment_29 rfl (lv_at hl 0 rfl) ?_
        obtain ⟨v30, e30, hf⟩ := zb hf
        refine zr_gr (ci := 9) (k := 53) (C := RX9) (T := TX9) (N := 54) hx hb hts hi_X9_segment_9 hown hK hP e30 rfl rfl (by decide) (by decide) (hts (.fieldLink RX9 129 "BoundaryAnalyzerModel" "boundary" "[I") (List.mem_of_getElem? (i := 2) rfl)) dX9_segment_30 ?_
        refine lv_iload_n hx hb dX9_segment_33 rfl (lv_at hl 2 rfl) ?_
        obtain ⟨v34, e34, hf⟩ := zb hf
        refine zr_ai hx hb hK hP e34 dX9_segment_34 ?_
        refine lv_goto (tgt := 40) hx hb dX9_segment_35 (by decide) ?_
        exact zret_i hx hb hr hlocks hf hP hS dX9_segment_40
    · have hf := (if_neg c8).symm.trans hf
      refine lv_bipush (v := (-2 : Int32)) hx hb dX9_segment_11 (by decide) ?_
      exact zret_i hx hb hr hlocks hf hP hS dX9_segment_13
