theorem hi_X8_redo_0 : ∀ w ∈ wsX00, w ∈ wsX8_redo := fun _ h => List.mem_cons_of_mem _ (List.mem_append_left _ (List.mem_append_left _ (List.mem_append_left _ (List.mem_append_left _ (List.mem_append_left _ (List.mem_append_right _ h))))))
theorem hi_X8_redo_1 : ∀ w ∈ wsX10, w ∈ wsX8_redo := fun _ h => List.mem_cons_of_mem _ (List.mem_append_left _ (List.mem_append_left _ (List.mem_append_left _ (List.mem_append_left _ (List.mem_append_left _ (List.mem_append_left _ (List.mem_append_right _ h)))))))
theorem hi_X8_redo_8 : ∀ w ∈ wsX80, w ∈ wsX8_redo := fun _ h => List.mem_cons_of_mem _ (List.mem_append_left _ (List.mem_append_left _ (List.mem_append_left _ (List.mem_append_left _ (List.mem_append_left _ (List.mem_append_left _ (List.mem_append_left _ (List.mem_append_right _ h))))))))
set_option maxHeartbeats 4000000 in
set_option maxRecDepth 100000 in
theorem k_X8_redo (l : Launch) (D : va_G) (cy : Nat → ClassId) (b : Nat) (M0 : Mem) (p0 : Nat) (rr : Int32 × Mem) (hf : fX8_redo M0 p0 = some rr) : Met l yX8_redo wsX8_redo ({ frames := 6, cells := 0, slots := 0, locals := 171 } : Room) (zPc D cy b M0 [.ref (b + p0)]) (zQi D cy b rr) 0 0 (zA b) := by
  refine Met.ofW (cc := cX8_redo) (maxL := 2) (ret := (some .int)) (by decide) rfl ?_
  intro p e s m args below meth c s₁ B hml hv
  obtain ⟨rfl, hP, hK⟩ := hv
  have hx := B.exec
  have hb := B.bytes
  have hr := B.returns
  have hts := atoms_spec (ws := wsX8_redo) B.pre
  have hown : s.vm.findClass RX8 = some m.cls := findClass_of_methodNamed B.named
  have hlocks := B.notSynchronized
  have hS : va_S (zA b) s.heap s.heap [] := va_S.rf
  have hl := lv_entry ([.ref (b + p0)]) (n := 2) (Nat.le_of_ble_eq_true rfl)
  rw [lg_entry_eq]
  generalize (lg_sl ([.ref (b + p0)]) ++ List.replicate (2 - (lg_sl ([.ref (b + p0)])).length) Slot.unset).toArray = ls at hl ⊢
  have hl : lv_has ls 2 [(0, .ref (b + p0))] := hl
  unfold fX8_redo at hf
  refine lv_aload_n hx hb dX8_redo_0 rfl (lv_at hl 0 rfl) ?_
  obtain ⟨v1, e1, hf⟩ := zb hf
  refine zr_gr (ci := 8) (k := 6) (C := RX8) (T := TX8) (N := 7) hx hb hts hi_X8_redo_8 hown hK hP e1 rfl rfl (by decide) (by decide) (hts (.fieldLink RX8 46 "BoundaryAnalyzer" "history" "LBoundaryAnalyzer$History;") (List.mem_of_getElem? (i := 1) rfl)) dX8_redo_1 ?_
  obtain ⟨v4, e4, hf⟩ := zb hf
  refine zr_gi (ci := 1) (k := 3) (C := RX1) (T := TX1) (N := 4) hx hb hts hi_X8_redo_1 hown hK hP e4 rfl rfl (by decide) (by decide) (hts (.fieldLink RX8 162 "BoundaryAnalyzer$History" "redoable" "I") (List.mem_of_getElem? (i := 2) rfl)) dX8_redo_4 ?_
  refine lv_if_gt (tgt := 13) hx hb dX8_redo_7 (by decide) (fun c7 => ?_) (fun c7 => ?_)
  · have hf := (if_pos c7).symm.trans hf
    refine lv_aload_n hx hb dX8_redo_13 rfl (lv_at hl 0 rfl) ?_
    obtain ⟨v14, e14, hf⟩ := zb hf
    refine zr_gr (ci := 8) (k := 6) (C := RX8) (T := TX8) (N := 7) hx hb hts hi_X8_redo_8 hown hK hP e14 rfl rfl (by decide) (by decide) (hts (.fieldLink RX8 46 "BoundaryAnalyzer" "history" "LBoundaryAnalyzer$History;") (List.mem_of_getElem? (i := 1) rfl)) dX8_redo_14 ?_
    obtain ⟨u17, t17, hf⟩ := zb hf
    obtain ⟨r17, e17, hf⟩ := zb hf
    refine zc_r hS (va_runV (As := []) (rest := []) ⟨hx, hb, hml, hown, hts⟩ (k_X1_stepForward l D cy b M0 v14  r17 e17) (cwV 0 hts gX8_redo_X1_stepForward rfl rfl rfl (by decide +kernel) ⟨Nat.le_of_ble_eq_true rfl, Nat.le_of_ble_eq_true rfl⟩) (zp_V _ hK hP t17 (T := TX1) (N := 4) rfl (by decide)) rfl rfl hl.1 rfl (lv_room (Nat.le_of_ble_eq_true rfl)) dX8_redo_17 ⟨Nat.zero_le _, Nat.zero_le _⟩) (fun H locs hP hS => ?_)
    refine lv_astore_n (lv' := [(1, .ref (b + r17.1)), (0, .ref (b + p0))]) hx hb dX8_redo_20 rfl hl (by decide) rfl (fun ls hl => ?_)
    refine lv_aload_n hx hb dX8_redo_21 rfl (lv_at hl 1 rfl) ?_
    refine lv_aload_n hx hb dX8_redo_22 rfl (lv_at hl 0 rfl) ?_
    refine lv_aload_n hx hb dX8_redo_23 rfl (lv_at hl 0 rfl) ?_
    obtain ⟨v24, e24, hf⟩ := zb hf
    refine zr_gi (ci := 0) (k := 1) (C := RX0) (T := TX0) (N := 3) hx hb hts hi_X8_redo_0 hown hK hP e24 rfl rfl (by decide) (by decide) (hts (.fieldLink RX8 139 "BoundaryAnalyzer$Edit" "inserts" "Z") (List.mem_of_getElem? (i := 3) rfl)) dX8_redo_24 ?_
    obtain ⟨u27, t27, hf⟩ := zb hf
    obtain ⟨M27, e27, hf⟩ := zb hf
    refine zc_v hS (va_runV (As := [.ref (b + r17.1), .int v24]) (rest := []) ⟨hx, hb, hml, hown, hts⟩ (k_X8_carryOut l D cy b r17.2 p0 r17.1 v24 M27 e27) (cwV 2 hts gX8_redo_X8_carryOut rfl rfl rfl (by decide +kernel) ⟨Nat.le_of_ble_eq_true rfl, Nat.le_of_ble_eq_true rfl⟩) (zp_V _ hK hP t27 (T := TX8) (N := 7) rfl (by decide)) rfl rfl hl.1 rfl (lv_room (Nat.le_of_ble_eq_true rfl)) dX8_redo_27 ⟨Nat.zero_le _, Nat.zero_le _⟩) (fun H locs hP hS => ?_)
    refine lv_aload_n hx hb dX8_redo_30 rfl (lv_at hl 1 rfl) ?_
    obtain ⟨v31, e31, hf⟩ := zb hf
    refine zr_gr (ci := 8) (k := 6) (C := RX8) (T := TX8) (N := 7) hx hb hts hi_X8_redo_8 hown hK hP e31 rfl rfl (by decide) (by decide) (hts (.fieldLink RX8 46 "BoundaryAnalyzer" "history" "LBoundaryAnalyzer$History;") (List.mem_of_getElem? (i := 1) rfl)) dX8_redo_31 ?_
    obtain ⟨v34, e34, hf⟩ := zb hf
    refine zr_gi (ci := 1) (k := 3) (C := RX1) (T := TX1) (N := 4) hx hb hts hi_X8_redo_1 hown hK hP e34 rfl rfl (by decide) (by decide) (hts (.fieldLink RX8 162 "BoundaryAnalyzer$History" "redoable" "I") (List.mem_of_getElem? (i := 2) rfl)) dX8_redo_34 ?_
    exact zret_i hx hb hr hlocks hf hP hS dX8_redo_37
  · have hf := (if_neg c7).symm.trans hf
    refine lv_bipush (v := (-5 : Int32)) hx hb dX8_redo_10 (by decide) ?_
    exact zret_i hx hb hr hlocks hf hP hS dX8_redo_12
theorem hi_X8_charAt_4 : ∀ w ∈ wsX40, w ∈ wsX8_charAt := fun _ h => List.mem_cons_of_mem _ (List.mem_append_right _ h)
theorem hi_X8_charAt_7 : ∀ w ∈ wsX70, w ∈ wsX8_charAt := fun _ h => List.mem_cons_of_mem _ (List.mem_append_left _ (List.mem_append_right _ h))
theorem hi_X8_charAt_8 : ∀ w ∈ wsX80, w ∈ wsX8_charAt := fun _ h => List.mem_cons_of_mem _ (List.mem_append_left _ (List.mem_append_left _ (List.mem_append_right _ h)))
set_option maxHeartbeats 4000000 in
set_option maxRecDepth 100000 in
theorem k_X8_charAt (l : Launch) (D : va_G) (cy : Nat → ClassId) (b : Nat) (M0 : Mem) (p0 : Nat) (p1 : Int32) (rr : Int32 × Mem) (hf : fX8_charAt M0 p0 p1 = some rr) : Met l yX8_charAt wsX8_charAt ({ frames := 1, cells := 0, slots := 0, locals := 21 } : Room) (zPc D cy b M0 [.ref (b + p0), .int p1]) (zQi D cy b rr) 0 0 (zA b) := by
  refine Met.ofW (cc := cX8_charAt) (maxL := 2) (ret := (some .int)) (by decide) rfl ?_
  intro p e s m args below meth c s₁ B hml hv
  obtain ⟨rfl, hP, hK⟩ := hv
  have hx := B.exec
  have hb := B.bytes
  have hr := B.returns
  have hts := atoms_spec (ws := wsX8_charAt) B.pre
  have hown : s.vm.findClass RX8 = some m.cls := findClass_of_methodNamed B.named
  have hlocks := B.notSynchronized
  have hS : va_S (zA b) s.heap s.heap [] := va_S.rf
  have hl := lv_entry ([.ref (b + p0), .int p1]) (n := 2) (Nat.le_of_ble_eq_true rfl)
  rw [lg_entry_eq]
  generalize (lg_sl ([.ref (b + p0), .int p1]) ++ List.replicate (2 - (lg_sl ([.ref (b + p0), .int p1])).length) Slot.unset).toArray = ls at hl ⊢
  have hl : lv_has ls 2 [(0, .ref (b + p0)), (1, .int p1)] := hl
  unfold fX8_charAt at hf
  refine lv_aload_n hx hb dX8_charAt_0 rfl (lv_at hl 0 rfl) ?_
  refine lv_iload_n hx hb dX8_charAt_1 rfl (lv_at hl 1 rfl) ?_
  obtain ⟨u2, t2, hf⟩ := zb hf
  obtain ⟨r2, e2, hf⟩ := zb hf
  refine zc_i hS (va_runV (As := [.int p1]) (rest := []) ⟨hx, hb, hml, hown, hts⟩ (k_X8_isPositionOfCharacter l D cy b M0 p0 p1 r2 e2) (cwV 1 hts gX8_charAt_X8_isPositionOfCharacter rfl rfl rfl (by decide +kernel) ⟨Nat.le_of_ble_eq_true rfl, Nat.le_of_ble_eq_true rfl⟩) (zp_V _ hK hP t2 (T := TX8) (N := 7) rfl (by decide)) rfl rfl hl.1 rfl (lv_room (Nat.le_of_ble_eq_true rfl)) dX8_charAt_2 ⟨Nat.zero_le _, Nat.zero_le _⟩) (fun H locs hP hS => ?_)
  refine lv_if_eq (tgt := 22) hx hb dX8_charAt_5 (by decide) (fun c5 => ?_) (fun c5 => ?_)
  · have hf := (if_pos c5).symm.trans hf
    refine lv_iconst (v := (-1 : Int32)) hx hb dX8_charAt_22 (by decide) ?_
    exact zret_i hx hb hr hlocks hf hP hS dX8_charAt_23
  · have hf := (if_neg c5).symm.trans hf
    refine lv_aload_n hx hb dX8_charAt_8 rfl (lv_at hl 0 rfl) ?_
    obtain ⟨v9, e9, hf⟩ := zb hf
    refine zr_gr (ci := 8) (k := 0) (C := RX8) (T := TX8) (N := 7) hx hb hts hi_X8_charAt_8 hown hK hP e9 rfl rfl (by decide) (by decide) (hts (.fieldLink RX8 10 "BoundaryAnalyzer" "text" "LBoundaryAnalyzer$Text;") (List.mem_of_getElem? (i := 1) rfl)) dX8_charAt_9 ?_
    obtain ⟨v12, e12, hf⟩ := zb hf
    refine zr_gr (ci := 7) (k := 0) (C := RX7) (T := TX7) (N := 2) hx hb hts hi_X8_charAt_7 hown hK hP e12 rfl rfl (by decide) (by decide) (hts (.fieldLink RX8 134 "BoundaryAnalyzer$Text" "signs" "LBoundaryAnalyzer$Row;") (List.mem_of_getElem? (i := 2) rfl)) dX8_charAt_12 ?_
    refine lv_iload_n hx hb dX8_charAt_15 rfl (lv_at hl 1 rfl) ?_
    obtain ⟨u16, t16, hf⟩ := zb hf
    obtain ⟨r16, e16, hf⟩ := zb hf
    refine zc_i hS (va_runV (As := [.int p1]) (rest := []) ⟨hx, hb, hml, hown, hts⟩ (k_X4_at l D cy b r2.2 v12 p1 r16 e16) (cwV 1 hts gX8_charAt_X4_at rfl rfl rfl (by decide +kernel) ⟨Nat.le_of_ble_eq_true rfl, Nat.le_of_ble_eq_true rfl⟩) (zp_V _ hK hP t16 (T := TX4) (N := 2) rfl (by decide)) rfl rfl hl.1 rfl (lv_room (Nat.le_of_ble_eq_true rfl)) dX8_charAt_16 ⟨Nat.zero_le _, Nat.zero_le _⟩) (fun H locs hP hS => ?_)
    refine lv_goto (tgt := 23) hx hb dX8_charAt_19 (by decide) ?_
    exact zret_i hx hb hr hlocks hf hP hS dX8_charAt_23
theorem hi_X8_value_1 : ∀ w ∈ wsX10, w ∈ wsX8_value := fun _ h => List.mem_cons_of_mem _ (List.mem_append_right _ h)
theorem hi_X8_value_4 : ∀ w ∈ wsX40, w ∈ wsX8_value := fun _ h => List.mem_cons_of_mem _ (List.mem_append_left _ (List.mem_append_right _ h))
theorem hi_X8_value_7 : ∀ w ∈ wsX70, w ∈ wsX8_value := fun _ h => List.mem_cons_of_mem _ (List.mem_append_left _ (List.mem_append_left _ (List.mem_append_right _ h)))
theorem hi_X8_value_8 : ∀ w ∈ wsX80, w ∈ wsX8_value := fun _ h => List.mem_cons_of_mem _ (List.mem_append_left _ (List.mem_append_left _ (List.mem_append_left _ (List.mem_append_right _ h))))
set_option maxHeartbeats 4000000 in
set_option maxRecDepth 100000 in
theorem k_X8_value (l : Launch) (D : va_G) (cy : Nat → ClassId) (b : Nat) (M0 : Mem) (p0 : Nat) (p1 : Int32) (rr : Int32 × Mem) (hf : fX8_value M0 p0 p1 = some rr) : Met l yX8_value wsX8_value ({ frames := 0, cells := 0, slots := 0, locals := 0 } : Room) (zPc D cy b M0 [.ref (b + p0), .int p1]) (zQi D cy b rr) 0 0 (zA b) := by
  refine Met.ofW (cc := cX8_value) (maxL := 2) (ret := (some .int)) (by decide) rfl ?_
  intro p e s m args below meth c s₁ B hml hv
  obtain ⟨rfl, hP, hK⟩ := hv
  have hx := B.exec
  have hb := B.bytes
  have hr := B.returns
  have hts := atoms_spec (ws := wsX8_value) B.pre
  have hown : s.vm.findClass RX8 = some m.cls := findClass_of_methodNamed B.named
  have hlocks := B.notSynchronized
  have hS : va_S (zA b) s.heap s.heap [] := va_S.rf
  have hl := lv_entry ([.ref (b + p0), .int p1]) (n := 2) (Nat.le_of_ble_eq_true rfl)
  rw [lg_entry_eq]
  generalize (lg_sl ([.ref (b + p0), .int p1]) ++ List.replicate (2 - (lg_sl ([.ref (b + p0), .int p1])).length) Slot.unset).toArray = ls at hl ⊢
  have hl : lv_has ls 2 [(0, .ref (b + p0)), (1, .int p1)] := hl
  unfold fX8_value at hf
  refine lv_iload_n hx hb dX8_value_0 rfl (lv_at hl 1 rfl) ?_
  by_cases c1_0 : p1 = (0 : Int32)
  · have hf := (if_pos c1_0).symm.trans hf
    refine lv_tableIn (off := 35) (tgt := 36) hx hb dX8_value_1 (by rw [c1_0]; decide) (by rw [c1_0]; decide) (by rw [c1_0]; rfl) (by decide) ?_
    refine lv_aload_n hx hb dX8_value_36 rfl (lv_at hl 0 rfl) ?_
    obtain ⟨v37, e37, hf⟩ := zb hf
    refine zr_gr (ci := 8) (k := 0) (C := RX8) (T := TX8) (N := 7) hx hb hts hi_X8_value_8 hown hK hP e37 rfl rfl (by decide) (by decide) (hts (.fieldLink RX8 10 "BoundaryAnalyzer" "text" "LBoundaryAnalyzer$Text;") (List.mem_of_getElem? (i := 1) rfl)) dX8_value_37 ?_
    obtain ⟨v40, e40, hf⟩ := zb hf
    refine zr_gr (ci := 7) (k := 0) (C := RX7) (T := TX7) (N := 2) hx hb hts hi_X8_value_7 hown hK hP e40 rfl rfl (by decide) (by decide) (hts (.fieldLink RX8 134 "BoundaryAnalyzer$Text" "signs" "LBoundaryAnalyzer$Row;") (List.mem_of_getElem? (i := 2) rfl)) dX8_value_40 ?_
    obtain ⟨v43, e43, hf⟩ := zb hf
    refine zr_gi (ci := 4) (k := 1) (C := RX4) (T := TX4) (N := 2) hx hb hts hi_X8_value_4 hown hK hP e43 rfl rfl (by decide) (by decide) (hts (.fieldLink RX8 70 "BoundaryAnalyzer$Row" "size" "I") (List.mem_of_getElem? (i := 3) rfl)) dX8_value_43 ?_
    exact zret_i hx hb hr hlocks hf hP hS dX8_value_46
  have hf := (if_neg c1_0).symm.trans hf
  by_cases c1_1 : p1 = (1 : Int32)
  · have hf := (if_pos c1_1).symm.trans hf
    refine lv_tableIn (off := 46) (tgt := 47) hx hb dX8_value_1 (by rw [c1_1]; decide) (by rw [c1_1]; decide) (by rw [c1_1]; rfl) (by decide) ?_
    refine lv_aload_n hx hb dX8_value_47 rfl (lv_at hl 0 rfl) ?_
    obtain ⟨v48, e48, hf⟩ := zb hf
    refine zr_gr (ci := 8) (k := 1) (C := RX8) (T := TX8) (N := 7) hx hb hts hi_X8_value_8 hown hK hP e48 rfl rfl (by decide) (by decide) (hts (.fieldLink RX8 21 "BoundaryAnalyzer" "pattern" "LBoundaryAnalyzer$Row;") (List.mem_of_getElem? (i := 4) rfl)) dX8_value_48 ?_
    obtain ⟨v51, e51, hf⟩ := zb hf
    refine zr_gi (ci := 4) (k := 1) (C := RX4) (T := TX4) (N := 2) hx hb hts hi_X8_value_4 hown hK hP e51 rfl rfl (by decide) (by decide) (hts (.fieldLink RX8 70 "BoundaryAnalyzer$Row" "size" "I") (List.mem_of_getElem? (i := 3) rfl)) dX8_value_51 ?_
    exact zret_i hx hb hr hlocks hf hP hS dX8_value_54
  have hf := (if_neg c1_1).symm.trans hf
  by_cases c1_2 : p1 = (2 : Int32)
  · have hf := (if_pos c1_2).symm.trans hf
    refine lv_tableIn (off := 54) (tgt := 55) hx hb dX8_value_1 (by rw [c1_2]; decide) (by rw [c1_2]; decide) (by rw [c1_2]; rfl) (by decide) ?_
    refine lv_aload_n hx hb dX8_value_55 rfl (lv_at hl 0 rfl) ?_
    obtain ⟨v56, e56, hf⟩ := zb hf
    refine zr_gi (ci := 8) (k := 5) (C := RX8) (T := TX8) (N := 7) hx hb hts hi_X8_value_8 hown hK hP e56 rfl rfl (by decide) (by decide) (hts (.fieldLink RX8 131 "BoundaryAnalyzer" "exceptionCount" "I") (List.mem_of_getElem? (i := 5) rfl)) dX8_value_56 ?_
    exact zret_i hx hb hr hlocks hf hP hS dX8_value_59
  have hf := (if_neg c1_2).symm.trans hf
  by_cases c1_3 : p1 = (3 : Int32)
  · have hf := (if_pos c1_3).symm.trans hf
    refine lv_tableIn (off := 59) (tgt := 60) hx hb dX8_value_1 (by rw [c1_3]; decide) (by rw [c1_3]; decide) (by rw [c1_3]; rfl) (by decide) ?_
    refine lv_aload_n hx hb dX8_value_60 rfl (lv_at hl 0 rfl) ?_
    obtain ⟨v61, e61, hf⟩ := zb hf
    refine zr_gr (ci := 8) (k := 6) (C := RX8) (T := TX8) (N := 7) hx hb hts hi_X8_value_8 hown hK hP e61 rfl rfl (by decide) (by decide) (hts (.fieldLink RX8 46 "BoundaryAnalyzer" "history" "LBoundaryAnalyzer$History;") (List.mem_of_getElem? (i := 6) rfl)) dX8_value_61 ?_
    obtain ⟨v64, e64, hf⟩ := zb hf
    refine zr_gi (ci := 1) (k := 2) (C := RX1) (T := TX1) (N := 4) hx hb hts hi_X8_value_1 hown hK hP e64 rfl rfl (by decide) (by decide) (hts (.fieldLink RX8 156 "BoundaryAnalyzer$History" "undoable" "I") (List.mem_of_getElem? (i := 7) rfl)) dX8_value_64 ?_
    exact zret_i hx hb hr hlocks hf hP hS dX8_value_67
  have hf := (if_neg c1_3).symm.trans hf
  by_cases c1_4 : p1 = (4 : Int32)
  · have hf := (if_pos c1_4).symm.trans hf
    refine lv_tableIn (off := 67) (tgt := 68) hx hb dX8_value_1 (by rw [c1_4]; decide) (by rw [c1_4]; decide) (by rw [c1_4]; rfl) (by decide) ?_
    refine lv_aload_n hx hb dX8_value_68 rfl (lv_at hl 0 rfl) ?_
    obtain ⟨v69, e69, hf⟩ := zb hf
    refine zr_gr (ci := 8) (k := 6) (C := RX8) (T := TX8) (N := 7) hx hb hts hi_X8_value_8 hown hK hP e69 rfl rfl (by decide) (by decide) (hts (.fieldLink RX8 46 "BoundaryAnalyzer" "history" "LBoundaryAnalyzer$History;") (List.mem_of_getElem? (i := 6) rfl)) dX8_value_69 ?_
    obtain ⟨v72, e72, hf⟩ := zb hf
    refine zr_gi (ci := 1) (k := 3) (C := RX1) (T := TX1) (N := 4) hx hb hts hi_X8_value_1 hown hK hP e72 rfl rfl (by decide) (by decide) (hts (.fieldLink RX8 162 "BoundaryAnalyzer$History" "redoable" "I") (List.mem_of_getElem? (i := 8) rfl)) dX8_value_72 ?_
    exact zret_i hx hb hr hlocks hf hP hS dX8_value_75
  have hf := (if_neg c1_4).symm.trans hf
  refine lv_tableOut (tgt := 76) hx hb dX8_value_1 (ztab (hi := 4) (by decide) (fun k hk => by rcases (show k = 0 ∨ k = 1 ∨ k = 2 ∨ k = 3 ∨ k = 4 by omega) with rfl | rfl | rfl | rfl | rfl <;> assumption)) (by decide) ?_
  refine lv_bipush (v := (-2 : Int32)) hx hb dX8_value_76 (by decide) ?_
  exact zret_i hx hb hr hlocks hf hP hS dX8_value_78
