theorem hi_X2_moveUp_2 : ∀ w ∈ wsX20, w ∈ wsX2_moveUp := fun _ h => List.mem_cons_of_mem _ (List.mem_append_right _ h)
set_option maxHeartbeats 4000000 in
set_option maxRecDepth 100000 in
theorem k_X2_moveUp (l : Launch) (D : va_G) (cy : Nat → ClassId) (b : Nat) (M0 : Mem) (p0 : Nat) (p1 : Int32) (p2 : Int32) (p3 : Int32) (rr : Mem) (hf : fX2_moveUp M0 p0 p1 p2 p3 = some rr) : Met l yX2_moveUp wsX2_moveUp ({ frames := 2, cells := 0, slots := 0, locals := 46 } : Room) (zPc D cy b M0 [.ref (b + p0), .int p1, .int p2, .int p3]) (zQv D cy b rr) 0 0 (zA b) := by
  refine Met.ofW (cc := cX2_moveUp) (maxL := 4) (ret := none) (by decide) rfl ?_
  intro p e s m args below meth c s₁ B hml hv
  obtain ⟨rfl, hP, hK⟩ := hv
  have hx := B.exec
  have hb := B.bytes
  have hr := B.returns
  have hts := atoms_spec (ws := wsX2_moveUp) B.pre
  have hown : s.vm.findClass RX2 = some m.cls := findClass_of_methodNamed B.named
  have hlocks := B.notSynchronized
  have hS : va_S (zA b) s.heap s.heap [] := va_S.rf
  have hl := lv_entry ([.ref (b + p0), .int p1, .int p2, .int p3]) (n := 4) (Nat.le_of_ble_eq_true rfl)
  rw [lg_entry_eq]
  generalize (lg_sl ([.ref (b + p0), .int p1, .int p2, .int p3]) ++ List.replicate (4 - (lg_sl ([.ref (b + p0), .int p1, .int p2, .int p3])).length) Slot.unset).toArray = ls at hl ⊢
  have hl : lv_has ls 4 [(0, .ref (b + p0)), (1, .int p1), (2, .int p2), (3, .int p3)] := hl
  unfold fX2_moveUp at hf
  refine lv_iload_n hx hb dX2_moveUp_0 rfl (lv_at hl 1 rfl) ?_
  refine lv_if_lt (tgt := 24) hx hb dX2_moveUp_1 (by decide) (fun c1 => ?_) (fun c1 => ?_)
  · have hf := (if_pos c1).symm.trans hf
    exact zret_v hx hb hr hlocks hf hP hS dX2_moveUp_24
  · have hf := (if_neg c1).symm.trans hf
    refine lv_iload_n hx hb dX2_moveUp_4 rfl (lv_at hl 2 rfl) ?_
    refine lv_if_lt (tgt := 24) hx hb dX2_moveUp_5 (by decide) (fun c5 => ?_) (fun c5 => ?_)
    · have hf := (if_pos c5).symm.trans hf
      exact zret_v hx hb hr hlocks hf hP hS dX2_moveUp_24
    · have hf := (if_neg c5).symm.trans hf
      refine lv_iload_n hx hb dX2_moveUp_8 rfl (lv_at hl 1 rfl) ?_
      refine lv_iload_n hx hb dX2_moveUp_9 rfl (lv_at hl 3 rfl) ?_
      refine lv_icmp_gt (tgt := 24) hx hb dX2_moveUp_10 (by decide) (fun c10 => ?_) (fun c10 => ?_)
      · have hf := (if_pos c10).symm.trans hf
        exact zret_v hx hb hr hlocks hf hP hS dX2_moveUp_24
      · have hf := (if_neg c10).symm.trans hf
        refine lv_iload_n hx hb dX2_moveUp_13 rfl (lv_at hl 2 rfl) ?_
        refine lv_aload_n hx hb dX2_moveUp_14 rfl (lv_at hl 0 rfl) ?_
        obtain ⟨v15, e15, hf⟩ := zb hf
        refine zr_gr (ci := 2) (k := 1) (C := RX2) (T := TX2) (N := 5) hx hb hts hi_X2_moveUp_2 hown hK hP e15 rfl rfl (by decide) (by decide) (hts (.fieldLink RX2 17 "BoundaryAnalyzer$Kind" "looks" "[I") (List.mem_of_getElem? (i := 1) rfl)) dX2_moveUp_15 ?_
        obtain ⟨v18, e18, hf⟩ := zb hf
        refine zr_al (t0 := 1) hx hb hK hP e18 (by decide) rfl dX2_moveUp_18 ?_
        refine lv_iload_n hx hb dX2_moveUp_19 rfl (lv_at hl 3 rfl) ?_
        refine lv_isub hx hb dX2_moveUp_20 ?_
        refine lv_icmp_le (tgt := 25) hx hb dX2_moveUp_21 (by decide) (fun c21 => ?_) (fun c21 => ?_)
        · have hf := (if_pos c21).symm.trans hf
          refine lv_aload_n hx hb dX2_moveUp_25 rfl (lv_at hl 0 rfl) ?_
          obtain ⟨v26, e26, hf⟩ := zb hf
          refine zr_gr (ci := 2) (k := 1) (C := RX2) (T := TX2) (N := 5) hx hb hts hi_X2_moveUp_2 hown hK hP e26 rfl rfl (by decide) (by decide) (hts (.fieldLink RX2 17 "BoundaryAnalyzer$Kind" "looks" "[I") (List.mem_of_getElem? (i := 1) rfl)) dX2_moveUp_26 ?_
          refine lv_iload_n hx hb dX2_moveUp_29 rfl (lv_at hl 1 rfl) ?_
          refine lv_aload_n hx hb dX2_moveUp_30 rfl (lv_at hl 0 rfl) ?_
          obtain ⟨v31, e31, hf⟩ := zb hf
          refine zr_gr (ci := 2) (k := 1) (C := RX2) (T := TX2) (N := 5) hx hb hts hi_X2_moveUp_2 hown hK hP e31 rfl rfl (by decide) (by decide) (hts (.fieldLink RX2 17 "BoundaryAnalyzer$Kind" "looks" "[I") (List.mem_of_getElem? (i := 1) rfl)) dX2_moveUp_31 ?_
          refine lv_iload_n hx hb dX2_moveUp_34 rfl (lv_at hl 1 rfl) ?_
          refine lv_iload_n hx hb dX2_moveUp_35 rfl (lv_at hl 2 rfl) ?_
          refine lv_iadd hx hb dX2_moveUp_36 ?_
          refine lv_iload_n hx hb dX2_moveUp_37 rfl (lv_at hl 3 rfl) ?_
          refine lv_iload_n hx hb dX2_moveUp_38 rfl (lv_at hl 1 rfl) ?_
          refine lv_isub hx hb dX2_moveUp_39 ?_
          obtain ⟨M40, e40, hf⟩ := zb hf
          refine zr_cp (t0 := 1) hx hb (by rw [hml]; exact hl.1.symm) hown (hts (.methodLink RX2 47 arraycopyName) (List.mem_of_getElem? (i := 2) rfl)) (hts (.native arraycopyName) (List.mem_of_getElem? (i := 3) rfl)) (hts (.static arraycopyName) (List.mem_of_getElem? (i := 4) rfl)) (hts (.initialized "java/lang/System") (List.mem_of_getElem? (i := 5) rfl)) hK hP hS e40 rfl (Or.inr ⟨rfl, rfl⟩) (Nat.le_of_ble_eq_true rfl) (Nat.le_of_ble_eq_true rfl) dX2_moveUp_40 (fun H locs hP hS => ?_)
          refine lv_aload_n hx hb dX2_moveUp_43 rfl (lv_at hl 0 rfl) ?_
          obtain ⟨v44, e44, hf⟩ := zb hf
          refine zr_gr (ci := 2) (k := 1) (C := RX2) (T := TX2) (N := 5) hx hb hts hi_X2_moveUp_2 hown hK hP e44 rfl rfl (by decide) (by decide) (hts (.fieldLink RX2 17 "BoundaryAnalyzer$Kind" "looks" "[I") (List.mem_of_getElem? (i := 1) rfl)) dX2_moveUp_44 ?_
          refine lv_iload_n hx hb dX2_moveUp_47 rfl (lv_at hl 1 rfl) ?_
          refine lv_iload_n hx hb dX2_moveUp_48 rfl (lv_at hl 1 rfl) ?_
          refine lv_iload_n hx hb dX2_moveUp_49 rfl (lv_at hl 2 rfl) ?_
          refine lv_iadd hx hb dX2_moveUp_50 ?_
          refine lv_iconst (v := (0 : Int32)) hx hb dX2_moveUp_51 (by decide) ?_
          obtain ⟨M52, e52, hf⟩ := zb hf
          refine zc_v hS (va_runS (As := [.ref (b + v44), .int p1, .int (p1 + p2), .int (0 : Int32)]) (rest := []) ⟨hx, hb, hml, hown, hts⟩ (k_J7_fill_fda19 l D cy b M40  v44 p1 (p1 + p2) (0 : Int32) M52 e52) (va_cwS 4 hts gX2_moveUp_J7_fill_fda19 rfl rfl rfl (by decide +kernel) ⟨Nat.le_of_ble_eq_true rfl, Nat.le_of_ble_eq_true rfl⟩) (zp_S _ hK hP) rfl rfl hl.1 rfl (lv_room (Nat.le_of_ble_eq_true rfl)) dX2_moveUp_52 ⟨Nat.zero_le _, Nat.zero_le _⟩) (fun H locs hP hS => ?_)
          exact zret_v hx hb hr hlocks hf hP hS dX2_moveUp_55
        · have hf := (if_neg c21).symm.trans hf
          exact zret_v hx hb hr hlocks hf hP hS dX2_moveUp_24
theorem hi_X2_moveDown_2 : ∀ w ∈ wsX20, w ∈ wsX2_moveDown := fun _ h => List.mem_cons_of_mem _ (List.mem_append_right _ h)
set_option maxHeartbeats 4000000 in
set_option maxRecDepth 100000 in
theorem k_X2_moveDown (l : Launch) (D : va_G) (cy : Nat → ClassId) (b : Nat) (M0 : Mem) (p0 : Nat) (p1 : Int32) (p2 : Int32) (p3 : Int32) (rr : Mem) (hf : fX2_moveDown M0 p0 p1 p2 p3 = some rr) : Met l yX2_moveDown wsX2_moveDown ({ frames := 1, cells := 0, slots := 0, locals := 40 } : Room) (zPc D cy b M0 [.ref (b + p0), .int p1, .int p2, .int p3]) (zQv D cy b rr) 0 0 (zA b) := by
  refine Met.ofW (cc := cX2_moveDown) (maxL := 4) (ret := none) (by decide) rfl ?_
  intro p e s m args below meth c s₁ B hml hv
  obtain ⟨rfl, hP, hK⟩ := hv
  have hx := B.exec
  have hb := B.bytes
  have hr := B.returns
  have hts := atoms_spec (ws := wsX2_moveDown) B.pre
  have hown : s.vm.findClass RX2 = some m.cls := findClass_of_methodNamed B.named
  have hlocks := B.notSynchronized
  have hS : va_S (zA b) s.heap s.heap [] := va_S.rf
  have hl := lv_entry ([.ref (b + p0), .int p1, .int p2, .int p3]) (n := 4) (Nat.le_of_ble_eq_true rfl)
  rw [lg_entry_eq]
  generalize (lg_sl ([.ref (b + p0), .int p1, .int p2, .int p3]) ++ List.replicate (4 - (lg_sl ([.ref (b + p0), .int p1, .int p2, .int p3])).length) Slot.unset).toArray = ls at hl ⊢
  have hl : lv_has ls 4 [(0, .ref (b + p0)), (1, .int p1), (2, .int p2), (3, .int p3)] := hl
  unfold fX2_moveDown at hf
  refine lv_iload_n hx hb dX2_moveDown_0 rfl (lv_at hl 1 rfl) ?_
  refine lv_if_lt (tgt := 24) hx hb dX2_moveDown_1 (by decide) (fun c1 => ?_) (fun c1 => ?_)
  · have hf := (if_pos c1).symm.trans hf
    exact zret_v hx hb hr hlocks hf hP hS dX2_moveDown_24
  · have hf := (if_neg c1).symm.trans hf
    refine lv_iload_n hx hb dX2_moveDown_4 rfl (lv_at hl 2 rfl) ?_
    refine lv_if_lt (tgt := 24) hx hb dX2_moveDown_5 (by decide) (fun c5 => ?_) (fun c5 => ?_)
    · have hf := (if_pos c5).symm.trans hf
      exact zret_v hx hb hr hlocks hf hP hS dX2_moveDown_24
    · have hf := (if_neg c5).symm.trans hf
      refine lv_iload_n hx hb dX2_moveDown_8 rfl (lv_at hl 2 rfl) ?_
      refine lv_iload_n hx hb dX2_moveDown_9 rfl (lv_at hl 3 rfl) ?_
      refine lv_iload_n hx hb dX2_moveDown_10 rfl (lv_at hl 1 rfl) ?_
      refine lv_isub hx hb dX2_moveDown_11 ?_
      refine lv_icmp_gt (tgt := 24) hx hb dX2_moveDown_12 (by decide) (fun c12 => ?_) (fun c12 => ?_)
      · have hf := (if_pos c12).symm.trans hf
        exact zret_v hx hb hr hlocks hf hP hS dX2_moveDown_24
      · have hf := (if_neg c12).symm.trans hf
        refine lv_iload_n hx hb dX2_moveDown_15 rfl (lv_at hl 3 rfl) ?_
        refine lv_aload_n hx hb dX2_moveDown_16 rfl (lv_at hl 0 rfl) ?_
        obtain ⟨v17, e17, hf⟩ := zb hf
        refine zr_gr (ci := 2) (k := 1) (C := RX2) (T := TX2) (N := 5) hx hb hts hi_X2_moveDown_2 hown hK hP e17 rfl rfl (by decide) (by decide) (hts (.fieldLink RX2 17 "BoundaryAnalyzer$Kind" "looks" "[I") (List.mem_of_getElem? (i := 1) rfl)) dX2_moveDown_17 ?_
        obtain ⟨v20, e20, hf⟩ := zb hf
        refine zr_al (t0 := 1) hx hb hK hP e20 (by decide) rfl dX2_moveDown_20 ?_
        refine lv_icmp_le (tgt := 25) hx hb dX2_moveDown_21 (by decide) (fun c21 => ?_) (fun c21 => ?_)
        · have hf := (if_pos c21).symm.trans hf
          refine lv_aload_n hx hb dX2_moveDown_25 rfl (lv_at hl 0 rfl) ?_
          obtain ⟨v26, e26, hf⟩ := zb hf
          refine zr_gr (ci := 2) (k := 1) (C := RX2) (T := TX2) (N := 5) hx hb hts hi_X2_moveDown_2 hown hK hP e26 rfl rfl (by decide) (by decide) (hts (.fieldLink RX2 17 "BoundaryAnalyzer$Kind" "looks" "[I") (List.mem_of_getElem? (i := 1) rfl)) dX2_moveDown_26 ?_
          refine lv_iload_n hx hb dX2_moveDown_29 rfl (lv_at hl 1 rfl) ?_
          refine lv_iload_n hx hb dX2_moveDown_30 rfl (lv_at hl 2 rfl) ?_
          refine lv_iadd hx hb dX2_moveDown_31 ?_
          refine lv_aload_n hx hb dX2_moveDown_32 rfl (lv_at hl 0 rfl) ?_
          obtain ⟨v33, e33, hf⟩ := zb hf
          refine zr_gr (ci := 2) (k := 1) (C := RX2) (T := TX2) (N := 5) hx hb hts hi_X2_moveDown_2 hown hK hP e33 rfl rfl (by decide) (by decide) (hts (.fieldLink RX2 17 "BoundaryAnalyzer$Kind" "looks" "[I") (List.mem_of_getElem? (i := 1) rfl)) dX2_moveDown_33 ?_
          refine lv_iload_n hx hb dX2_moveDown_36 rfl (lv_at hl 1 rfl) ?_
          refine lv_iload_n hx hb dX2_moveDown_37 rfl (lv_at hl 3 rfl) ?_
          refine lv_iload_n hx hb dX2_moveDown_38 rfl (lv_at hl 1 rfl) ?_
          refine lv_isub hx hb dX2_moveDown_39 ?_
          refine lv_iload_n hx hb dX2_moveDown_40 rfl (lv_at hl 2 rfl) ?_
          refine lv_isub hx hb dX2_moveDown_41 ?_
          obtain ⟨M42, e42, hf⟩ := zb hf
          refine zr_cp (t0 := 1) hx hb (by rw [hml]; exact hl.1.symm) hown (hts (.methodLink RX2 47 arraycopyName) (List.mem_of_getElem? (i := 2) rfl)) (hts (.native arraycopyName) (List.mem_of_getElem? (i := 3) rfl)) (hts (.static arraycopyName) (List.mem_of_getElem? (i := 4) rfl)) (hts (.initialized "java/lang/System") (List.mem_of_getElem? (i := 5) rfl)) hK hP hS e42 rfl (Or.inr ⟨rfl, rfl⟩) (Nat.le_of_ble_eq_true rfl) (Nat.le_of_ble_eq_true rfl) dX2_moveDown_42 (fun H locs hP hS => ?_)
          exact zret_v hx hb hr hlocks hf hP hS dX2_moveDown_45
        · have hf := (if_neg c21).symm.trans hf
          exact zret_v hx hb hr hlocks hf hP hS dX2_moveDown_24
