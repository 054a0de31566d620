theorem hi_X8_redo_0 : ∀ w ∈ wsX00, w ∈ wsX8_redo := fun _ h => List.mem_cons_of_mem _ (List.mem_append_left _ (List.mem_append_left _ (List.mem_append_left _ (List.mem_append_left _ (List.mem_append_left _ (List.mem_append_right _ h))))))
theorem hi_X8_redo_1 : ∀ w ∈ wsX10, w ∈ wsX8_redo := fun _ h => List.mem_cons_of_mem _ (List.mem_append_left _ (List.mem_append_left _ (List.mem_append_left _ (List.mem_append_left _ (List.mem_append_left _ (List.mem_append_left _ (List.mem_append_right _ h)))))))
theorem hi_X8_redo_8 : ∀ w ∈ wsX80, w ∈ wsX8_redo := fun _ h => List.mem_cons_of_mem _ (List.mem_append_left _ (List.mem_append_left _ (List.mem_append_left _ (List.mem_append_left _ (List.mem_append_left _ (List.mem_append_left _ (List.mem_append_left _ (List.mem_append_right _ h))))))))
set_option maxHeartbeats 4000000 in
set_option maxRecDepth 100000 in
theorem k_X8_redo (l : Launch) (D : va_G) (cy : Nat → ClassId) (b : Nat) (M0 : Mem) (h0 : Nat) (rr : Int32 × Mem) (hf : fX8_redo M0 h0 = some rr) : Met l yX8_redo wsX8_redo ({ frames := 6, cells := 0, slots := 0, locals := 171 } : Room) (zPc D cy b M0 [.ref (b + h0)]) (zQi D cy b rr) 0 0 (zA b) := by
  refine Met.ofW (cc := cX8_redo) (maxL := 2) (ret := (some .int)) (by decide) rfl ?_
  intro p e s m args below meth c s₁ B hml hv
  obtain ⟨rfl, hP, hK⟩ := hv
  have hx := B.exec
  have hb := B.bytes
  have hr := B.returns
  have hts := atoms_spec (ws := wsX8_redo) B.pre
  have hown : s.vm.findClass RX8 = some m.cls := findClass_of_methodNamed B.named
  have hlocks := B.notSynchronized
  have hS : va_S (zA b) s.heap s.heap [] := va_S.rf
  have hl := lv_entry ([.ref (b + h0)]) (n := 2) (Nat.le_of_ble_eq_true rfl)
  rw [lg_entry_eq]
  generalize (lg_sl ([.ref (b + h0)]) ++ List.replicate (2 - (lg_sl ([.ref (b + h0)])).length) Slot.unset).toArray = ls at hl ⊢
  have hl : lv_has ls 2 [(0, .ref (b + h0))] := hl
  unfold fX8_redo at hf
  refine lv_aload_n hx hb dX8_redo_0 rfl (lv_at hl 0 rfl) ?_
  obtain ⟨v1, e1, hf⟩ := zb hf
  refine zr_gr (ci := 8) (k := 6) (C := RX8) (T := TX8) (N := 7) hx hb hts hi_X8_redo_8 hown hK hP e1 rfl rfl (by decide) (by decide) (hts (.fieldLink RX8 46 "BoundaryAnalyzer" "history" "LBoundaryAnalyzer$History;") (List.mem_of_getElem? (i := 1) rfl)) dX8_redo_1 ?_
  obtain ⟨v4, e4, hf⟩ := zb hf
  refine zr_gi (ci := 1) (k := 3) (C := RX1) (T := TX1) (N := 4) hx hb hts hi_X8_redo_1 hown hK hP e4 rfl rfl (by decide) (by decide) (hts (.fieldLink RX8 162 "BoundaryAnalyzer$History" "redoable" "I") (List.mem_of_getElem? (i := 2) rfl)) dX8_redo_4 ?_
  refine lv_if_gt (tgt := 13) hx hb dX8_redo_7 (by decide) (fun c7 => ?_) (fun c7 => ?_)
  · have hf := (if_pos c7).symm.trans hf
    refine lv_aload_n hx hb dX8_redo_13 rfl (lv_at hl 0 rfl) ?_
    obtain ⟨v14, e14, hf⟩ := zb hf
    refine zr_gr (ci := 8) (k := 6) (C := RX8) (T := TX8) (N := 7) hx hb hts hi_X8_redo_8 hown hK hP e14 rfl rfl (by decide) (by decide) (hts (.fieldLink RX8 46 "BoundaryAnalyzer" "history" "LBoundaryAnalyzer$History;") (List.mem_of_getElem? (i := 1) rfl)) dX8_redo_14 ?_
    obtain ⟨u17, t17, hf⟩ := zb hf
    obtain ⟨r17, e17, hf⟩ := zb hf
    refine zc_r hS (va_runV (As := []) (rest := []) ⟨hx, hb, hml, hown, hts⟩ (k_X1_stepForward l D cy b M0 v14  r17 e17) (cwV 0 hts gX8_redo_X1_stepForward rfl rfl rfl (by decide +kernel) ⟨Nat.le_of_ble_eq_true rfl, Nat.le_of_ble_eq_true rfl⟩) (zp_V _ hK hP t17 (T := TX1) (N := 4) rfl (by decide)) rfl rfl hl.1 rfl (lv_room (Nat.le_of_ble_eq_true rfl)) dX8_redo_17 ⟨Nat.zero_le _, Nat.zero_le _⟩) (fun H locs hP hS => ?_)
    refine lv_astore_n (lv' := [(1, .ref (b + r17.1)), (0, .ref (b + h0))]) hx hb dX8_redo_20 rfl hl (by decide) rfl (fun ls hl => ?_)
    refine lv_aload_n hx hb dX8_redo_21 rfl (lv_at hl 1 rfl) ?_
    refine lv_aload_n hx hb dX8_redo_22 rfl (lv_at hl 0 rfl) ?_
    refine lv_aload_n hx hb dX8_redo_23 rfl (lv_at hl 0 rfl) ?_
    obtain ⟨v24, e24, hf⟩ := zb hf
    refine zr_gi (ci := 0) (k := 1) (C := RX0) (T := TX0) (N := 3) hx hb hts hi_X8_redo_0 hown hK hP e24 rfl rfl (by decide) (by decide) (hts (.fieldLink RX8 139 "BoundaryAnalyzer$Edit" "inserts" "Z") (List.mem_of_getElem? (i := 3) rfl)) dX8_redo_24 ?_
    obtain ⟨u27, t27, hf⟩ := zb hf
    obtain ⟨M27, e27, hf⟩ := zb hf
    refine zc_v hS (va_runV (As := [.ref (b + r17.1), .int v24]) (rest := []) ⟨hx, hb, hml, hown, hts⟩ (k_X8_carryOut l D cy b r17.2 h0 r17.1 v24 M27 e27) (cwV 2 hts gX8_redo_X8_carryOut rfl rfl rfl (by decide +kernel) ⟨Nat.le_of_ble_eq_true rfl, Nat.le_of_ble_eq_true rfl⟩) (zp_V _ hK hP t27 (T := TX8) (N := 7) rfl (by decide)) rfl rfl hl.1 rfl (lv_room (Nat.le_of_ble_eq_true rfl)) dX8_redo_27 ⟨Nat.zero_le _, Nat.zero_le _⟩) (fun H locs hP hS => ?_)
    refine lv_aload_n hx hb dX8_redo_30 rfl (lv_at hl 1 rfl) ?_
    obtain ⟨v31, e31, hf⟩ := zb hf
    refine zr_gr (ci := 8) (k := 6) (C := RX8) (T := TX8) (N := 7) hx hb hts hi_X8_redo_8 hown hK hP e31 rfl rfl (by decide) (by decide) (hts (.fieldLink RX8 46 "BoundaryAnalyzer" "history" "LBoundaryAnalyzer$History;") (List.mem_of_getElem? (i := 1) rfl)) dX8_redo_31 ?_
    obtain ⟨v34, e34, hf⟩ := zb hf
    refine zr_gi (ci := 1) (k := 3) (C := RX1) (T := TX1) (N := 4) hx hb hts hi_X8_redo_1 hown hK hP e34 rfl rfl (by decide) (by decide) (hts (.fieldLink RX8 162 "BoundaryAnalyzer$History" "redoable" "I") (List.mem_of_getElem? (i := 2) rfl)) dX8_redo_34 ?_
    exact zret_i hx hb hr hlocks hf hP hS dX8_redo_37
  · have hf := (if_neg c7).symm.trans hf
    refine lv_bipush (v := (-5 : Int32)) hx hb dX8_redo_10 (by decide) ?_
    exact zret_i hx hb hr hlocks hf hP hS dX8_redo_12
theorem hi_X8_charAt_4 : ∀ w ∈ wsX40, w ∈ wsX8_charAt := fun _ h => List.mem_cons_of_mem _ (List.mem_append_right _ h)
theorem hi_X8_charAt_7 : ∀ w ∈ wsX70, w ∈ wsX8_charAt := fun _ h => List.mem_cons_of_mem _ (List.mem_append_left _ (List.mem_append_right _ h))
theorem hi_X8_charAt_8 : ∀ w ∈ wsX80, w ∈ wsX8_charAt := fun _ h => List.mem_cons_of_mem _ (List.mem_append_left _ (List.mem_append_left _ (List.mem_append_right _ h)))
set_option maxHeartbeats 4000000 in
set_option maxRecDepth 100000 in
theorem k_X8_charAt (l : Launch) (D : va_G) (cy : Nat → ClassId) (b : Nat) (M0 : Mem) (h0 : Nat) (x1 : Int32) (rr : Int32 × Mem) (hf : fX8_charAt M0 h0 x1 = some rr) : Met l yX8_charAt wsX8_charAt ({ frames := 1, cells := 0, slots := 0, locals := 21 } : Room) (zPc D cy b M0 [.ref (b + h0), .int x1]) (zQi D cy b rr) 0 0 (zA b) := by
  refine Met.ofW (cc := cX8_charAt) (maxL := 2) (ret := (some .int)) (by decide) rfl ?_
  intro p e s m args below meth c s₁ B hml hv
  obtain ⟨rfl, hP, hK⟩ := hv
  have hx := B.exec
  have hb := B.bytes
  have hr := B.returns
  have hts := atoms_spec (ws := wsX8_charAt) B.pre
  have hown : s.vm.findClass RX8 = some m.cls := findClass_of_methodNamed B.named
  have hlocks := B.notSynchronized
  have hS : va_S (zA b) s.heap s.heap [] := va_S.rf
  have hl := lv_entry ([.ref (b + h0), .int x1]) (n := 2) (Nat.le_of_ble_eq_true rfl)
  rw [lg_entry_eq]
  generalize (lg_sl ([.ref (b + h0), .int x1]) ++ List.replicate (2 - (lg_sl ([.ref (b + h0), .int x1])).length) Slot.unset).toArray = ls at hl ⊢
  have hl : lv_has ls 2 [(0, .ref (b + h0)), (1, .int x1)] := hl
  unfold fX8_charAt at hf
  refine lv_aload_n hx hb dX8_charAt_0 rfl (lv_at hl 0 rfl) ?_
  refine lv_iload_n hx hb dX8_charAt_1 rfl (lv_at hl 1 rfl) ?_
  obtain ⟨u2, t2, hf⟩ := zb hf
  obtain ⟨r2, e2, hf⟩ := zb hf
  refine zc_i hS (va_runV (As := [.int x1]) (rest := []) ⟨hx, hb, hml, hown, hts⟩ (k_X8_isPositionOfCharacter l D cy b M0 h0 x1 r2 e2) (cwV 1 hts gX8_charAt_X8_isPositionOfCharacter rfl rfl rfl (by decide +kernel) ⟨Nat.le_of_ble_eq_true rfl, Nat.le_of_ble_eq_true rfl⟩) (zp_V _ hK hP t2 (T := TX8) (N := 7) rfl (by decide)) rfl rfl hl.1 rfl (lv_room (Nat.le_of_ble_eq_true rfl)) dX8_charAt_2 ⟨Nat.zero_le _, Nat.zero_le _⟩) (fun H locs hP hS => ?_)
  refine lv_if_eq (tgt := 22) hx hb dX8_charAt_5 (by decide) (fun c5 => ?_) (fun c5 => ?_)
  · have hf := (if_pos c5).symm.trans hf
    refine lv_iconst (v := (-1 : Int32)) hx hb dX8_charAt_22 (by decide) ?_
    exact zret_i hx hb hr hlocks hf hP hS dX8_charAt_23
  · have hf := (if_neg c5).symm.trans hf
    refine lv_aload_n hx hb dX8_charAt_8 rfl (lv_at hl 0 rfl) ?_
    obtain ⟨v9, e9, hf⟩ := zb hf
    refine zr_gr (ci := 8) (k := 0) (C := RX8) (T := TX8) (N := 7) hx hb hts hi_X8_charAt_8 hown hK hP e9 rfl rfl (by decide) (by decide) (hts (.fieldLink RX8 10 "BoundaryAnalyzer" "text" "LBoundaryAnalyzer$Text;") (List.mem_of_getElem? (i := 1) rfl)) dX8_charAt_9 ?_
    obtain ⟨v12, e12, hf⟩ := zb hf
    refine zr_gr (ci := 7) (k := 0) (C := RX7) (T := TX7) (N := 2) hx hb hts hi_X8_charAt_7 hown hK hP e12 rfl rfl (by decide) (by decide) (hts (.fieldLink RX8 134 "BoundaryAnalyzer$Text" "signs" "LBoundaryAnalyzer$Row;") (List.mem_of_getElem? (i := 2) rfl)) dX8_charAt_12 ?_
    refine lv_iload_n hx hb dX8_charAt_15 rfl (lv_at hl 1 rfl) ?_
    obtain ⟨u16, t16, hf⟩ := zb hf
    obtain ⟨r16, e16, hf⟩ := zb hf
    refine zc_i hS (va_runV (As := [.int x1]) (rest := []) ⟨hx, hb, hml, hown, hts⟩ (k_X4_at l D cy b r2.2 v12 x1 r16 e16) (cwV 1 hts gX8_charAt_X4_at rfl rfl rfl (by decide +kernel) ⟨Nat.le_of_ble_eq_true rfl, Nat.le_of_ble_eq_true rfl⟩) (zp_V _ hK hP t16 (T := TX4) (N := 2) rfl (by decide)) rfl rfl hl.1 rfl (lv_room (Nat.le_of_ble_eq_true rfl)) dX8_charAt_16 ⟨Nat.zero_le _, Nat.zero_le _⟩) (fun H locs hP hS => ?_)
    refine lv_goto (tgt := 23) hx hb dX8_charAt_19 (by decide) ?_
    exact zret_i hx hb hr hlocks hf hP hS dX8_charAt_23
theorem hi_X8_value_1 : ∀ w ∈ wsX10, w ∈ wsX8_value := fun _ h => List.mem_cons_of_mem _ (List.mem_append_right _ h)
theorem hi_X8_value_4 : ∀ w ∈ wsX40, w ∈ wsX8_value := fun _ h => List.mem_cons_of_mem _ (List.mem_append_left _ (List.mem_append_right _ h))
theorem hi_X8_value_7 : ∀ w ∈ wsX70, w ∈ wsX8_value := fun _ h => List.mem_cons_of_mem _ (List.mem_append_left _ (List.mem_append_left _ (List.mem_append_right _ h)))
theorem hi_X8_value_8 : ∀ w ∈ wsX80, w ∈ wsX8_value := fun _ h => List.mem_cons_of_mem _ (List.mem_append_left _ (List.mem_append_left _ (List.mem_append_left _ (List.mem_append_right _ h))))
set_option maxHeartbeats 4000000 in
set_option maxRecDepth 100000 in
theorem k_X8_value (l : Launch) (D : va_G) (cy : Nat → ClassId) (b : Nat) (M0 : Mem) (h0 : Nat) (x1 : Int32) (rr : Int32 × Mem) (hf : fX8_value M0 h0 x1 = some rr) : Met l yX8_value wsX8_value ({ frames := 0, cells := 0, slots := 0, locals := 0 } : Room) (zPc D cy b M0 [.ref (b + h0), .int x1]) (zQi D cy b rr) 0 0 (zA b) := by
  refine Met.ofW (cc := cX8_value) (maxL := 2) (ret := (some .int)) (by decide) rfl ?_
  intro p e s m args below meth c s₁ B hml hv
  obtain ⟨rfl, hP, hK⟩ := hv
  have hx := B.exec
  have hb := B.bytes
  have hr := B.returns
  have hts := atoms_spec (ws := wsX8_value) B.pre
  have hown : s.vm.findClass RX8 = some m.cls := findClass_of_methodNamed B.named
  have hlocks := B.notSynchronized
  have hS : va_S (zA b) s.heap s.heap [] := va_S.rf
  have hl := lv_entry ([.ref (b + h0), .int x1]) (n := 2) (Nat.le_of_ble_eq_true rfl)
  rw [lg_entry_eq]
  generalize (lg_sl ([.ref (b + h0), .int x1]) ++ List.replicate (2 - (lg_sl ([.ref (b + h0), .int x1])).length) Slot.unset).toArray = ls at hl ⊢
  have hl : lv_has ls 2 [(0, .ref (b + h0)), (1, .int x1)] := hl
  unfold fX8_value at hf
  refine lv_iload_n hx hb dX8_value_0 rfl (lv_at hl 1 rfl) ?_
  by_cases c1_0 : x1 = (0 : Int32)
  · have hf := (if_pos c1_0).symm.trans hf
    refine lv_tableIn (off := 35) (tgt := 36) hx hb dX8_value_1 (by rw [c1_0]; decide) (by rw [c1_0]; decide) (by rw [c1_0]; rfl) (by decide) ?_
    refine lv_aload_n hx hb dX8_value_36 rfl (lv_at hl 0 rfl) ?_
    obtain ⟨v37, e37, hf⟩ := zb hf
    refine zr_gr (ci := 8) (k := 0) (C := RX8) (T := TX8) (N := 7) hx hb hts hi_X8_value_8 hown hK hP e37 rfl rfl (by decide) (by decide) (hts (.fieldLink RX8 10 "BoundaryAnalyzer" "text" "LBoundaryAnalyzer$Text;") (List.mem_of_getElem? (i := 1) rfl)) dX8_value_37 ?_
    obtain ⟨v40, e40, hf⟩ := zb hf
    refine zr_gr (ci := 7) (k := 0) (C := RX7) (T := TX7) (N := 2) hx hb hts hi_X8_value_7 hown hK hP e40 rfl rfl (by decide) (by decide) (hts (.fieldLink RX8 134 "BoundaryAnalyzer$Text" "signs" "LBoundaryAnalyzer$Row;") (List.mem_of_getElem? (i := 2) rfl)) dX8_value_40 ?_
    obtain ⟨v43, e43, hf⟩ := zb hf
    refine zr_gi (ci := 4) (k := 1) (C := RX4) (T := TX4) (N := 2) hx hb hts hi_X8_value_4 hown hK hP e43 rfl rfl (by decide) (by decide) (hts (.fieldLink RX8 70 "BoundaryAnalyzer$Row" "size" "I") (List.mem_of_getElem? (i := 3) rfl)) dX8_value_43 ?_
    exact zret_i hx hb hr hlocks hf hP hS dX8_value_46
  have hf := (if_neg c1_0).symm.trans hf
  by_cases c1_1 : x1 = (1 : Int32)
  · have hf := (if_pos c1_1).symm.trans hf
    refine lv_tableIn (off := 46) (tgt := 47) hx hb dX8_value_1 (by rw [c1_1]; decide) (by rw [c1_1]; decide) (by rw [c1_1]; rfl) (by decide) ?_
    refine lv_aload_n hx hb dX8_value_47 rfl (lv_at hl 0 rfl) ?_
    obtain ⟨v48, e48, hf⟩ := zb hf
    refine zr_gr (ci := 8) (k := 1) (C := RX8) (T := TX8) (N := 7) hx hb hts hi_X8_value_8 hown hK hP e48 rfl rfl (by decide) (by decide) (hts (.fieldLink RX8 21 "BoundaryAnalyzer" "pattern" "LBoundaryAnalyzer$Row;") (List.mem_of_getElem? (i := 4) rfl)) dX8_value_48 ?_
    obtain ⟨v51, e51, hf⟩ := zb hf
    refine zr_gi (ci := 4) (k := 1) (C := RX4) (T := TX4) (N := 2) hx hb hts hi_X8_value_4 hown hK hP e51 rfl rfl (by decide) (by decide) (hts (.fieldLink RX8 70 "BoundaryAnalyzer$Row" "size" "I") (List.mem_of_getElem? (i := 3) rfl)) dX8_value_51 ?_
    exact zret_i hx hb hr hlocks hf hP hS dX8_value_54
  have hf := (if_neg c1_1).symm.trans hf
  by_cases c1_2 : x1 = (2 : Int32)
  · have hf := (if_pos c1_2).symm.trans hf
    refine lv_tableIn (off := 54) (tgt := 55) hx hb dX8_value_1 (by rw [c1_2]; decide) (by rw [c1_2]; decide) (by rw [c1_2]; rfl) (by decide) ?_
    refine lv_aload_n hx hb dX8_value_55 rfl (lv_at hl 0 rfl) ?_
    obtain ⟨v56, e56, hf⟩ := zb hf
    refine zr_gi (ci := 8) (k := 5) (C := RX8) (T := TX8) (N := 7) hx hb hts hi_X8_value_8 hown hK hP e56 rfl rfl (by decide) (by decide) (hts (.fieldLink RX8 131 "BoundaryAnalyzer" "exceptionCount" "I") (List.mem_of_getElem? (i := 5) rfl)) dX8_value_56 ?_
    exact zret_i hx hb hr hlocks hf hP hS dX8_value_59
  have hf := (if_neg c1_2).symm.trans hf
  by_cases c1_3 : x1 = (3 : Int32)
  · have hf := (if_pos c1_3).symm.trans hf
    refine lv_tableIn (off := 59) (tgt := 60) hx hb dX8_value_1 (by rw [c1_3]; decide) (by rw [c1_3]; decide) (by rw [c1_3]; rfl) (by decide) ?_
    refine lv_aload_n hx hb dX8_value_60 rfl (lv_at hl 0 rfl) ?_
    obtain ⟨v61, e61, hf⟩ := zb hf
    refine zr_gr (ci := 8) (k := 6) (C := RX8) (T := TX8) (N := 7) hx hb hts hi_X8_value_8 hown hK hP e61 rfl rfl (by decide) (by decide) (hts (.fieldLink RX8 46 "BoundaryAnalyzer" "history" "LBoundaryAnalyzer$History;") (List.mem_of_getElem? (i := 6) rfl)) dX8_value_61 ?_
    obtain ⟨v64, e64, hf⟩ := zb hf
    refine zr_gi (ci := 1) (k := 2) (C := RX1) (T := TX1) (N := 4) hx hb hts hi_X8_value_1 hown hK hP e64 rfl rfl (by decide) (by decide) (hts (.fieldLink RX8 156 "BoundaryAnalyzer$History" "undoable" "I") (List.mem_of_getElem? (i := 7) rfl)) dX8_value_64 ?_
    exact zret_i hx hb hr hlocks hf hP hS dX8_value_67
  have hf := (if_neg c1_3).symm.trans hf
  by_cases c1_4 : x1 = (4 : Int32)
  · have hf := (if_pos c1_4).symm.trans hf
    refine lv_tableIn (off := 67) (tgt := 68) hx hb dX8_value_1 (by rw [c1_4]; decide) (by rw [c1_4]; decide) (by rw [c1_4]; rfl) (by decide) ?_
    refine lv_aload_n hx hb dX8_value_68 rfl (lv_at hl 0 rfl) ?_
    obtain ⟨v69, e69, hf⟩ := zb hf
    refine zr_gr (ci := 8) (k := 6) (C := RX8) (T := TX8) (N := 7) hx hb hts hi_X8_value_8 hown hK hP e69 rfl rfl (by decide) (by decide) (hts (.fieldLink RX8 46 "BoundaryAnalyzer" "history" "LBoundaryAnalyzer$History;") (List.mem_of_getElem? (i := 6) rfl)) dX8_value_69 ?_
    obtain ⟨v72, e72, hf⟩ := zb hf
    refine zr_gi (ci := 1) (k := 3) (C := RX1) (T := TX1) (N := 4) hx hb hts hi_X8_value_1 hown hK hP e72 rfl rfl (by decide) (by decide) (hts (.fieldLink RX8 162 "BoundaryAnalyzer$History" "redoable" "I") (List.mem_of_getElem? (i := 8) rfl)) dX8_value_72 ?_
    exact zret_i hx hb hr hlocks hf hP hS dX8_value_75
  have hf := (if_neg c1_4).symm.trans hf
  refine lv_tableOut (tgt := 76) hx hb dX8_value_1 (ztab (hi := 4) (by decide) (fun k hk => by rcases (show k = 0 ∨ k = 1 ∨ k = 2 ∨ k = 3 ∨ k = 4 by omega) with rfl | rfl | rfl | rfl | rfl <;> assumption)) (by decide) ?_
  refine lv_bipush (v := (-2 : Int32)) hx hb dX8_value_76 (by decide) ?_
  exact zret_i hx hb hr hlocks hf hP hS dX8_value_78
theorem hi_X8_isExceptionBefore_7 : ∀ w ∈ wsX70, w ∈ wsX8_isExceptionBefore := fun _ h => List.mem_cons_of_mem _ (List.mem_append_left _ (List.mem_append_right _ h))
theorem hi_X8_isExceptionBefore_8 : ∀ w ∈ wsX80, w ∈ wsX8_isExceptionBefore := fun _ h => List.mem_cons_of_mem _ (List.mem_append_left _ (List.mem_append_left _ (List.mem_append_right _ h)))
set_option maxHeartbeats 4000000 in
set_option maxRecDepth 100000 in
theorem k_X8_isExceptionBefore (l : Launch) (D : va_G) (cy : Nat → ClassId) (b : Nat) (M0 : Mem) (h0 : Nat) (x1 : Int32) (rr : Int32 × Mem) (hf : fX8_isExceptionBefore M0 h0 x1 = some rr) : Met l yX8_isExceptionBefore wsX8_isExceptionBefore ({ frames := 3, cells := 0, slots := 0, locals := 69 } : Room) (zPc D cy b M0 [.ref (b + h0), .int x1]) (zQi D cy b rr) 0 0 (zA b) := by
  refine Met.ofW (cc := cX8_isExceptionBefore) (maxL := 3) (ret := (some .boolean)) (by decide) rfl ?_
  intro p e s m args below meth c s₁ B hml hv
  obtain ⟨rfl, hP, hK⟩ := hv
  have hx := B.exec
  have hb := B.bytes
  have hr := B.returns
  have hts := atoms_spec (ws := wsX8_isExceptionBefore) B.pre
  have hown : s.vm.findClass RX8 = some m.cls := findClass_of_methodNamed B.named
  have hlocks := B.notSynchronized
  have hS : va_S (zA b) s.heap s.heap [] := va_S.rf
  have hl := lv_entry ([.ref (b + h0), .int x1]) (n := 3) (Nat.le_of_ble_eq_true rfl)
  rw [lg_entry_eq]
  generalize (lg_sl ([.ref (b + h0), .int x1]) ++ List.replicate (3 - (lg_sl ([.ref (b + h0), .int x1])).length) Slot.unset).toArray = ls at hl ⊢
  have hl : lv_has ls 3 [(0, .ref (b + h0)), (1, .int x1)] := hl
  have J25 : ∀ (M : Mem) (H : Heap) (locs : List Loc) (ls : Array Slot) (h0 : Nat) (x1 : Int32) (x2 : Int32), fX8_isExceptionBefore_25  M h0 x1 x2 = some rr → zH D cy b M H → va_S (zA b) s.heap H locs → lv_has ls 3 [(0, .ref (b + h0)), (1, .int x1), (2, .int x2)] → W p l e (headSpec wsX8_isExceptionBefore ({ frames := 3, cells := 0, slots := 0, locals := 69 } : Room)).room s m ([.ref (b + h0), .int x1] : List Value).toArray below meth c H locs 0 0 (MQ below (zQi D cy b rr) ([.ref (b + h0), .int x1] : List Value).toArray s 0 0 (zA b)) (F0 m 25 ls []) := by
    intro M H locs ls h0 x1 x2 hf hP hS hl
    unfold fX8_isExceptionBefore_25 at hf
    refine lv_aload_n hx hb dX8_isExceptionBefore_25 rfl (lv_at hl 0 rfl) ?_
    refine lv_aload_n hx hb dX8_isExceptionBefore_26 rfl (lv_at hl 0 rfl) ?_
    obtain ⟨v27, e27, hf⟩ := zb hf
    refine zr_gr (ci := 8) (k := 0) (C := RX8) (T := TX8) (N := 7) hx hb hts hi_X8_isExceptionBefore_8 hown hK hP e27 rfl rfl (by decide) (by decide) (hts (.fieldLink RX8 10 "BoundaryAnalyzer" "text" "LBoundaryAnalyzer$Text;") (List.mem_of_getElem? (i := 1) rfl)) dX8_isExceptionBefore_27 ?_
    obtain ⟨v30, e30, hf⟩ := zb hf
    refine zr_gr (ci := 7) (k := 0) (C := RX7) (T := TX7) (N := 2) hx hb hts hi_X8_isExceptionBefore_7 hown hK hP e30 rfl rfl (by decide) (by decide) (hts (.fieldLink RX8 134 "BoundaryAnalyzer$Text" "signs" "LBoundaryAnalyzer$Row;") (List.mem_of_getElem? (i := 2) rfl)) dX8_isExceptionBefore_30 ?_
    refine lv_iload_n hx hb dX8_isExceptionBefore_33 rfl (lv_at hl 2 rfl) ?_
    refine lv_iload_n hx hb dX8_isExceptionBefore_34 rfl (lv_at hl 1 rfl) ?_
    refine lv_iload_n hx hb dX8_isExceptionBefore_35 rfl (lv_at hl 2 rfl) ?_
    refine lv_isub hx hb dX8_isExceptionBefore_36 ?_
    obtain ⟨u37, t37, hf⟩ := zb hf
    obtain ⟨r37, e37, hf⟩ := zb hf
    refine zc_i hS (va_runV (As := [.ref (b + v30), .int x2, .int (x1 - x2)]) (rest := []) ⟨hx, hb, hml, hown, hts⟩ (k_X8_exceptionAt l D cy b M h0 v30 x2 (x1 - x2) r37 e37) (cwV 3 hts gX8_isExceptionBefore_X8_exceptionAt rfl rfl rfl (by decide +kernel) ⟨Nat.le_of_ble_eq_true rfl, Nat.le_of_ble_eq_true rfl⟩) (zp_V _ hK hP t37 (T := TX8) (N := 7) rfl (by decide)) rfl rfl hl.1 rfl (lv_room (Nat.le_of_ble_eq_true rfl)) dX8_isExceptionBefore_37 ⟨Nat.zero_le _, Nat.zero_le _⟩) (fun H locs hP hS => ?_)
    refine lv_bipush (v := (-5 : Int32)) hx hb dX8_isExceptionBefore_40 (by decide) ?_
    refine lv_icmp_eq (tgt := 49) hx hb dX8_isExceptionBefore_42 (by decide) (fun c42 => ?_) (fun c42 => ?_)
    · have hf := (if_pos c42).symm.trans hf
      refine lv_iconst (v := (0 : Int32)) hx hb dX8_isExceptionBefore_49 (by decide) ?_
      exact zret_z hx hb hr (Or.inl rfl) hlocks hf hP hS dX8_isExceptionBefore_50
    · have hf := (if_neg c42).symm.trans hf
      refine lv_iconst (v := (1 : Int32)) hx hb dX8_isExceptionBefore_45 (by decide) ?_
      refine lv_goto (tgt := 50) hx hb dX8_isExceptionBefore_46 (by decide) ?_
      exact zret_z hx hb hr (Or.inl rfl) hlocks hf hP hS dX8_isExceptionBefore_50
  have L2 : ∀ (n2 : Nat) (M : Mem) (H : Heap) (locs : List Loc) (ls : Array Slot) (h0 : Nat) (x1 : Int32) (x2 : Int32), fX8_isExceptionBefore_2L  n2 M h0 x1 x2 = some rr → zH D cy b M H → va_S (zA b) s.heap H locs → lv_has ls 3 [(0, .ref (b + h0)), (1, .int x1), (2, .int x2)] → W p l e (headSpec wsX8_isExceptionBefore ({ frames := 3, cells := 0, slots := 0, locals := 69 } : Room)).room s m ([.ref (b + h0), .int x1] : List Value).toArray below meth c H locs 0 0 (MQ below (zQi D cy b rr) ([.ref (b + h0), .int x1] : List Value).toArray s 0 0 (zA b)) (F0 m 2 ls []) := by
    intro n2
    induction n2 with
    | zero =>
      intro M H locs ls h0 x1 x2 hf
      have hf : (none : Option (Int32 × Mem)) = some rr := hf
      cases hf
    | succ n2 ih2 =>
      intro M H locs ls h0 x1 x2 hf hP hS hl
      have hf : fX8_isExceptionBefore_2  (fX8_isExceptionBefore_2L  n2) M h0 x1 x2 = some rr := hf
      unfold fX8_isExceptionBefore_2 at hf
      refine lv_iload_n hx hb dX8_isExceptionBefore_2 rfl (lv_at hl 2 rfl) ?_
      refine lv_if_le (tgt := 25) hx hb dX8_isExceptionBefore_3 (by decide) (fun c3 => ?_) (fun c3 => ?_)
      · have hf := (if_pos c3).symm.trans hf
        exact J25 _ _ _ _ _ _ _ hf hP hS (lv_sub hl [0, 1, 2] rfl)
      · have hf := (if_neg c3).symm.trans hf
        refine lv_aload_n hx hb dX8_isExceptionBefore_6 rfl (lv_at hl 0 rfl) ?_
        obtain ⟨v7, e7, hf⟩ := zb hf
        refine zr_gr (ci := 8) (k := 0) (C := RX8) (T := TX8) (N := 7) hx hb hts hi_X8_isExceptionBefore_8 hown hK hP e7 rfl rfl (by decide) (by decide) (hts (.fieldLink RX8 10 "BoundaryAnalyzer" "text" "LBoundaryAnalyzer$Text;") (List.mem_of_getElem? (i := 1) rfl)) dX8_isExceptionBefore_7 ?_
        refine lv_iload_n hx hb dX8_isExceptionBefore_10 rfl (lv_at hl 2 rfl) ?_
        refine lv_iconst (v := (1 : Int32)) hx hb dX8_isExceptionBefore_11 (by decide) ?_
        refine lv_isub hx hb dX8_isExceptionBefore_12 ?_
        obtain ⟨u13, t13, hf⟩ := zb hf
        obtain ⟨r13, e13, hf⟩ := zb hf
        refine zc_i hS (va_runV (As := [.int (x2 - (1 : Int32))]) (rest := []) ⟨hx, hb, hml, hown, hts⟩ (k_X7_classAt l D cy b M v7 (x2 - (1 : Int32)) r13 e13) (cwV 1 hts gX8_isExceptionBefore_X7_classAt rfl rfl rfl (by decide +kernel) ⟨Nat.le_of_ble_eq_true rfl, Nat.le_of_ble_eq_true rfl⟩) (zp_V _ hK hP t13 (T := TX7) (N := 2) rfl (by decide)) rfl rfl hl.1 rfl (lv_room (Nat.le_of_ble_eq_true rfl)) dX8_isExceptionBefore_13 ⟨Nat.zero_le _, Nat.zero_le _⟩) (fun H locs hP hS => ?_)
        refine lv_if_ne (tgt := 25) hx hb dX8_isExceptionBefore_16 (by decide) (fun c16 => ?_) (fun c16 => ?_)
        · have hf := (if_neg c16).symm.trans hf
          exact J25 _ _ _ _ _ _ _ hf hP hS (lv_sub hl [0, 1, 2] rfl)
        · have hf := (if_pos c16).symm.trans hf
          obtain ⟨x2_19, q19, hf⟩ := zlt_s hf
          refine lv_iinc (v := x2_19) (lv' := [(2, .int x2_19), (0, .ref (b + h0)), (1, .int x1)]) hx hb dX8_isExceptionBefore_19 hl (k := 2) rfl (by rw [← q19]; rfl) (by decide) rfl (fun ls hl => ?_)
          refine lv_goto (tgt := 2) hx hb dX8_isExceptionBefore_22 (by decide) ?_
          exact ih2 _ _ _ _ _ _ _ hf hP hS (lv_sub hl [1, 2, 0] rfl)
  unfold fX8_isExceptionBefore at hf
  refine lv_iload_n hx hb dX8_isExceptionBefore_0 rfl (lv_at hl 1 rfl) ?_
  refine lv_istore_n (lv' := [(2, .int x1), (0, .ref (b + h0)), (1, .int x1)]) hx hb dX8_isExceptionBefore_1 rfl hl (by decide) rfl (fun ls hl => ?_)
  exact L2 _ _ _ _ _ _ _ _ hf hP hS (lv_sub hl [1, 2, 0] rfl)
theorem hi_X8_isBehindException_4 : ∀ w ∈ wsX40, w ∈ wsX8_isBehindException := fun _ h => List.mem_cons_of_mem _ (List.mem_append_right _ h)
theorem hi_X8_isBehindException_7 : ∀ w ∈ wsX70, w ∈ wsX8_isBehindException := fun _ h => List.mem_cons_of_mem _ (List.mem_append_left _ (List.mem_append_right _ h))
theorem hi_X8_isBehindException_8 : ∀ w ∈ wsX80, w ∈ wsX8_isBehindException := fun _ h => List.mem_cons_of_mem _ (List.mem_append_left _ (List.mem_append_left _ (List.mem_append_right _ h)))
set_option maxHeartbeats 4000000 in
set_option maxRecDepth 100000 in
theorem k_X8_isBehindException (l : Launch) (D : va_G) (cy : Nat → ClassId) (b : Nat) (M0 : Mem) (h0 : Nat) (x1 : Int32) (rr : Int32 × Mem) (hf : fX8_isBehindException M0 h0 x1 = some rr) : Met l yX8_isBehindException wsX8_isBehindException ({ frames := 4, cells := 0, slots := 0, locals := 91 } : Room) (zPc D cy b M0 [.ref (b + h0), .int x1]) (zQi D cy b rr) 0 0 (zA b) := by
  refine Met.ofW (cc := cX8_isBehindException) (maxL := 3) (ret := (some .boolean)) (by decide) rfl ?_
  intro p e s m args below meth c s₁ B hml hv
  obtain ⟨rfl, hP, hK⟩ := hv
  have hx := B.exec
  have hb := B.bytes
  have hr := B.returns
  have hts := atoms_spec (ws := wsX8_isBehindException) B.pre
  have hown : s.vm.findClass RX8 = some m.cls := findClass_of_methodNamed B.named
  have hlocks := B.notSynchronized
  have hS : va_S (zA b) s.heap s.heap [] := va_S.rf
  have hl := lv_entry ([.ref (b + h0), .int x1]) (n := 3) (Nat.le_of_ble_eq_true rfl)
  rw [lg_entry_eq]
  generalize (lg_sl ([.ref (b + h0), .int x1]) ++ List.replicate (3 - (lg_sl ([.ref (b + h0), .int x1])).length) Slot.unset).toArray = ls at hl ⊢
  have hl : lv_has ls 3 [(0, .ref (b + h0)), (1, .int x1)] := hl
  have L4 : ∀ (n4 : Nat) (M : Mem) (H : Heap) (locs : List Loc) (ls : Array Slot) (h0 : Nat) (x2 : Int32), fX8_isBehindException_4L  n4 M h0 x2 = some rr → zH D cy b M H → va_S (zA b) s.heap H locs → lv_has ls 3 [(0, .ref (b + h0)), (2, .int x2)] → W p l e (headSpec wsX8_isBehindException ({ frames := 4, cells := 0, slots := 0, locals := 91 } : Room)).room s m ([.ref (b + h0), .int x1] : List Value).toArray below meth c H locs 0 0 (MQ below (zQi D cy b rr) ([.ref (b + h0), .int x1] : List Value).toArray s 0 0 (zA b)) (F0 m 4 ls []) := by
    intro n4
    induction n4 with
    | zero =>
      intro M H locs ls h0 x2 hf
      have hf : (none : Option (Int32 × Mem)) = some rr := hf
      cases hf
    | succ n4 ih4 =>
      have J34 : ∀ (M : Mem) (H : Heap) (locs : List Loc) (ls : Array Slot) (h0 : Nat) (x2 : Int32), fX8_isBehindException_34 (fX8_isBehindException_4L  n4) M h0 x2 = some rr → zH D cy b M H → va_S (zA b) s.heap H locs → lv_has ls 3 [(0, .ref (b + h0)), (2, .int x2)] → W p l e (headSpec wsX8_isBehindException ({ frames := 4, cells := 0, slots := 0, locals := 91 } : Room)).room s m ([.ref (b + h0), .int x1] : List Value).toArray below meth c H locs 0 0 (MQ below (zQi D cy b rr) ([.ref (b + h0), .int x1] : List Value).toArray s 0 0 (zA b)) (F0 m 34 ls []) := by
        intro M H locs ls h0 x2 hf hP hS hl
        unfold fX8_isBehindException_34 at hf
        refine lv_aload_n hx hb dX8_isBehindException_34 rfl (lv_at hl 0 rfl) ?_
        obtain ⟨v35, e35, hf⟩ := zb hf
        refine zr_gr (ci := 8) (k := 0) (C := RX8) (T := TX8) (N := 7) hx hb hts hi_X8_isBehindException_8 hown hK hP e35 rfl rfl (by decide) (by decide) (hts (.fieldLink RX8 10 "BoundaryAnalyzer" "text" "LBoundaryAnalyzer$Text;") (List.mem_of_getElem? (i := 1) rfl)) dX8_isBehindException_35 ?_
        refine lv_iload_n hx hb dX8_isBehindException_38 rfl (lv_at hl 1 rfl) ?_
        obtain ⟨u39, t39, hf⟩ := zb hf
        obtain ⟨r39, e39, hf⟩ := zb hf
        refine zc_i hS (va_runV (As := [.int x2]) (rest := []) ⟨hx, hb, hml, hown, hts⟩ (k_X7_classAt l D cy b M v35 x2 r39 e39) (cwV 1 hts gX8_isBehindException_X7_classAt rfl rfl rfl (by decide +kernel) ⟨Nat.le_of_ble_eq_true rfl, Nat.le_of_ble_eq_true rfl⟩) (zp_V _ hK hP t39 (T := TX7) (N := 2) rfl (by decide)) rfl rfl hl.1 rfl (lv_room (Nat.le_of_ble_eq_true rfl)) dX8_isBehindException_39 ⟨Nat.zero_le _, Nat.zero_le _⟩) (fun H locs hP hS => ?_)
        refine lv_iconst (v := (2 : Int32)) hx hb dX8_isBehindException_42 (by decide) ?_
        refine lv_icmp_eq (tgt := 48) hx hb dX8_isBehindException_43 (by decide) (fun c43 => ?_) (fun c43 => ?_)
        · have hf := (if_pos c43).symm.trans hf
          obtain ⟨x2_48, q48, hf⟩ := zlt_s hf
          refine lv_iinc (v := x2_48) (lv' := [(2, .int x2_48), (0, .ref (b + h0))]) hx hb dX8_isBehindException_48 hl (k := 1) rfl (by rw [← q48]; rfl) (by decide) rfl (fun ls hl => ?_)
          refine lv_goto (tgt := 4) hx hb dX8_isBehindException_51 (by decide) ?_
          exact ih4 _ _ _ _ _ _ hf hP hS (lv_sub hl [1, 0] rfl)
        · have hf := (if_neg c43).symm.trans hf
          refine lv_iconst (v := (0 : Int32)) hx hb dX8_isBehindException_46 (by decide) ?_
          exact zret_z hx hb hr (Or.inl rfl) hlocks hf hP hS dX8_isBehindException_47
      intro M H locs ls h0 x2 hf hP hS hl
      have hf : fX8_isBehindException_4  (fX8_isBehindException_4L  n4) M h0 x2 = some rr := hf
      unfold fX8_isBehindException_4 at hf
      refine lv_iload_n hx hb dX8_isBehindException_4 rfl (lv_at hl 1 rfl) ?_
      refine lv_if_le (tgt := 54) hx hb dX8_isBehindException_5 (by decide) (fun c5 => ?_) (fun c5 => ?_)
      · have hf := (if_pos c5).symm.trans hf
        refine lv_iconst (v := (0 : Int32)) hx hb dX8_isBehindException_54 (by decide) ?_
        exact zret_z hx hb hr (Or.inl rfl) hlocks hf hP hS dX8_isBehindException_55
      · have hf := (if_neg c5).symm.trans hf
        refine lv_aload_n hx hb dX8_isBehindException_8 rfl (lv_at hl 0 rfl) ?_
        obtain ⟨v9, e9, hf⟩ := zb hf
        refine zr_gr (ci := 8) (k := 0) (C := RX8) (T := TX8) (N := 7) hx hb hts hi_X8_isBehindException_8 hown hK hP e9 rfl rfl (by decide) (by decide) (hts (.fieldLink RX8 10 "BoundaryAnalyzer" "text" "LBoundaryAnalyzer$Text;") (List.mem_of_getElem? (i := 1) rfl)) dX8_isBehindException_9 ?_
        obtain ⟨v12, e12, hf⟩ := zb hf
        refine zr_gr (ci := 7) (k := 0) (C := RX7) (T := TX7) (N := 2) hx hb hts hi_X8_isBehindException_7 hown hK hP e12 rfl rfl (by decide) (by decide) (hts (.fieldLink RX8 134 "BoundaryAnalyzer$Text" "signs" "LBoundaryAnalyzer$Row;") (List.mem_of_getElem? (i := 2) rfl)) dX8_isBehindException_12 ?_
        refine lv_iload_n hx hb dX8_isBehindException_15 rfl (lv_at hl 1 rfl) ?_
        obtain ⟨u16, t16, hf⟩ := zb hf
        obtain ⟨r16, e16, hf⟩ := zb hf
        refine zc_i hS (va_runV (As := [.int x2]) (rest := []) ⟨hx, hb, hml, hown, hts⟩ (k_X4_at l D cy b M v12 x2 r16 e16) (cwV 1 hts gX8_isBehindException_X4_at rfl rfl rfl (by decide +kernel) ⟨Nat.le_of_ble_eq_true rfl, Nat.le_of_ble_eq_true rfl⟩) (zp_V _ hK hP t16 (T := TX4) (N := 2) rfl (by decide)) rfl rfl hl.1 rfl (lv_room (Nat.le_of_ble_eq_true rfl)) dX8_isBehindException_16 ⟨Nat.zero_le _, Nat.zero_le _⟩) (fun H locs hP hS => ?_)
        refine lv_bipush (v := (46 : Int32)) hx hb dX8_isBehindException_19 (by decide) ?_
        refine lv_icmp_ne (tgt := 34) hx hb dX8_isBehindException_21 (by decide) (fun c21 => ?_) (fun c21 => ?_)
        · have hf := (if_neg c21).symm.trans hf
          exact J34 _ _ _ _ _ _ hf hP hS (lv_sub hl [0, 1] rfl)
        · have hf := (if_pos c21).symm.trans hf
          refine lv_aload_n hx hb dX8_isBehindException_24 rfl (lv_at hl 0 rfl) ?_
          refine lv_iload_n hx hb dX8_isBehindException_25 rfl (lv_at hl 1 rfl) ?_
          obtain ⟨u26, t26, hf⟩ := zb hf
          obtain ⟨r26, e26, hf⟩ := zb hf
          refine zc_i hS (va_runV (As := [.int x2]) (rest := []) ⟨hx, hb, hml, hown, hts⟩ (k_X8_isExceptionBefore l D cy b r16.2 h0 x2 r26 e26) (cwV 1 hts gX8_isBehindException_X8_isExceptionBefore rfl rfl rfl (by decide +kernel) ⟨Nat.le_of_ble_eq_true rfl, Nat.le_of_ble_eq_true rfl⟩) (zp_V _ hK hP t26 (T := TX8) (N := 7) rfl (by decide)) rfl rfl hl.1 rfl (lv_room (Nat.le_of_ble_eq_true rfl)) dX8_isBehindException_26 ⟨Nat.zero_le _, Nat.zero_le _⟩) (fun H locs hP hS => ?_)
          refine lv_if_eq (tgt := 34) hx hb dX8_isBehindException_29 (by decide) (fun c29 => ?_) (fun c29 => ?_)
          · have hf := (if_pos c29).symm.trans hf
            exact J34 _ _ _ _ _ _ hf hP hS (lv_sub hl [0, 1] rfl)
          · have hf := (if_neg c29).symm.trans hf
            refine lv_iconst (v := (1 : Int32)) hx hb dX8_isBehindException_32 (by decide) ?_
            exact zret_z hx hb hr (Or.inl rfl) hlocks hf hP hS dX8_isBehindException_33
  unfold fX8_isBehindException at hf
  refine lv_iload_n hx hb dX8_isBehindException_0 rfl (lv_at hl 1 rfl) ?_
  refine lv_iconst (v := (1 : Int32)) hx hb dX8_isBehindException_1 (by decide) ?_
  refine lv_isub hx hb dX8_isBehindException_2 ?_
  obtain ⟨x2_3, q3, hf⟩ := zlt_s hf
  refine zt q3 ?_
  refine lv_istore_n (lv' := [(2, .int x2_3), (0, .ref (b + h0)), (1, .int x1)]) hx hb dX8_isBehindException_3 rfl hl (by decide) rfl (fun ls hl => ?_)
  exact L4 _ _ _ _ _ _ _ hf hP hS (lv_sub hl [1, 0] rfl)
theorem hi_X8_stateAt_2 : ∀ w ∈ wsX20, w ∈ wsX8_stateAt := fun _ h => List.mem_cons_of_mem _ (List.mem_append_right _ h)
theorem hi_X8_stateAt_4 : ∀ w ∈ wsX40, w ∈ wsX8_stateAt := fun _ h => List.mem_cons_of_mem _ (List.mem_append_left _ (List.mem_append_right _ h))
theorem hi_X8_stateAt_7 : ∀ w ∈ wsX70, w ∈ wsX8_stateAt := fun _ h => List.mem_cons_of_mem _ (List.mem_append_left _ (List.mem_append_left _ (List.mem_append_right _ h)))
theorem hi_X8_stateAt_8 : ∀ w ∈ wsX80, w ∈ wsX8_stateAt := fun _ h => List.mem_cons_of_mem _ (List.mem_append_left _ (List.mem_append_left _ (List.mem_append_left _ (List.mem_append_right _ h))))
set_option maxHeartbeats 4000000 in
set_option maxRecDepth 100000 in
theorem k_X8_stateAt (l : Launch) (D : va_G) (cy : Nat → ClassId) (b : Nat) (M0 : Mem) (h0 : Nat) (x1 : Int32) (x2 : Int32) (rr : Int32 × Mem) (hf : fX8_stateAt M0 h0 x1 x2 = some rr) : Met l yX8_stateAt wsX8_stateAt ({ frames := 5, cells := 0, slots := 0, locals := 113 } : Room) (zPc D cy b M0 [.ref (b + h0), .int x1, .int x2]) (zQi D cy b rr) 0 0 (zA b) := by
  refine Met.ofW (cc := cX8_stateAt) (maxL := 4) (ret := (some .int)) (by decide) rfl ?_
  intro p e s m args below meth c s₁ B hml hv
  obtain ⟨rfl, hP, hK⟩ := hv
  have hx := B.exec
  have hb := B.bytes
  have hr := B.returns
  have hts := atoms_spec (ws := wsX8_stateAt) B.pre
  have hown : s.vm.findClass RX8 = some m.cls := findClass_of_methodNamed B.named
  have hlocks := B.notSynchronized
  have hS : va_S (zA b) s.heap s.heap [] := va_S.rf
  have hl := lv_entry ([.ref (b + h0), .int x1, .int x2]) (n := 4) (Nat.le_of_ble_eq_true rfl)
  rw [lg_entry_eq]
  generalize (lg_sl ([.ref (b + h0), .int x1, .int x2]) ++ List.replicate (4 - (lg_sl ([.ref (b + h0), .int x1, .int x2])).length) Slot.unset).toArray = ls at hl ⊢
  have hl : lv_has ls 4 [(0, .ref (b + h0)), (1, .int x1), (2, .int x2)] := hl
  have J48 : ∀ (M : Mem) (H : Heap) (locs : List Loc) (ls : Array Slot) (h0 : Nat) (x1 : Int32) (x2 : Int32) (y0 : Int32), fX8_stateAt_48  M h0 x1 x2 y0 = some rr → zH D cy b M H → va_S (zA b) s.heap H locs → lv_has ls 4 [(0, .ref (b + h0)), (1, .int x1), (2, .int x2)] → W p l e (headSpec wsX8_stateAt ({ frames := 5, cells := 0, slots := 0, locals := 113 } : Room)).room s m ([.ref (b + h0), .int x1, .int x2] : List Value).toArray below meth c H locs 0 0 (MQ below (zQi D cy b rr) ([.ref (b + h0), .int x1, .int x2] : List Value).toArray s 0 0 (zA b)) (F0 m 48 ls [.int y0]) := by
    intro M H locs ls h0 x1 x2 y0 hf hP hS hl
    unfold fX8_stateAt_48 at hf
    refine lv_istore_n (lv' := [(3, .int y0), (0, .ref (b + h0)), (1, .int x1), (2, .int x2)]) hx hb dX8_stateAt_48 rfl hl (by decide) rfl (fun ls hl => ?_)
    refine lv_iload_n hx hb dX8_stateAt_49 rfl (lv_at hl 2 rfl) ?_
    refine lv_iconst (v := (2 : Int32)) hx hb dX8_stateAt_50 (by decide) ?_
    refine lv_icmp_ne (tgt := 68) hx hb dX8_stateAt_51 (by decide) (fun c51 => ?_) (fun c51 => ?_)
    · have hf := (if_neg c51).symm.trans hf
      refine lv_iconst (v := (1 : Int32)) hx hb dX8_stateAt_68 (by decide) ?_
      exact zret_i hx hb hr hlocks hf hP hS dX8_stateAt_69
    · have hf := (if_pos c51).symm.trans hf
      refine lv_iload_n hx hb dX8_stateAt_54 rfl (lv_at hl 0 rfl) ?_
      refine lv_if_eq (tgt := 68) hx hb dX8_stateAt_55 (by decide) (fun c55 => ?_) (fun c55 => ?_)
      · have hf := (if_pos c55).symm.trans hf
        refine lv_iconst (v := (1 : Int32)) hx hb dX8_stateAt_68 (by decide) ?_
        exact zret_i hx hb hr hlocks hf hP hS dX8_stateAt_69
      · have hf := (if_neg c55).symm.trans hf
        refine lv_aload_n hx hb dX8_stateAt_58 rfl (lv_at hl 1 rfl) ?_
        refine lv_iload_n hx hb dX8_stateAt_59 rfl (lv_at hl 3 rfl) ?_
        obtain ⟨u60, t60, hf⟩ := zb hf
        obtain ⟨r60, e60, hf⟩ := zb hf
        refine zc_i hS (va_runV (As := [.int x2]) (rest := []) ⟨hx, hb, hml, hown, hts⟩ (k_X8_isBehindException l D cy b M h0 x2 r60 e60) (cwV 1 hts gX8_stateAt_X8_isBehindException rfl rfl rfl (by decide +kernel) ⟨Nat.le_of_ble_eq_true rfl, Nat.le_of_ble_eq_true rfl⟩) (zp_V _ hK hP t60 (T := TX8) (N := 7) rfl (by decide)) rfl rfl hl.1 rfl (lv_room (Nat.le_of_ble_eq_true rfl)) dX8_stateAt_60 ⟨Nat.zero_le _, Nat.zero_le _⟩) (fun H locs hP hS => ?_)
        refine lv_if_eq (tgt := 68) hx hb dX8_stateAt_63 (by decide) (fun c63 => ?_) (fun c63 => ?_)
        · have hf := (if_pos c63).symm.trans hf
          refine lv_iconst (v := (1 : Int32)) hx hb dX8_stateAt_68 (by decide) ?_
          exact zret_i hx hb hr hlocks hf hP hS dX8_stateAt_69
        · have hf := (if_neg c63).symm.trans hf
          refine lv_iconst (v := (2 : Int32)) hx hb dX8_stateAt_66 (by decide) ?_
          exact zret_i hx hb hr hlocks hf hP hS dX8_stateAt_67
  have J47 : ∀ (M : Mem) (H : Heap) (locs : List Loc) (ls : Array Slot) (h0 : Nat) (x1 : Int32) (x2 : Int32), fX8_stateAt_47  M h0 x1 x2 = some rr → zH D cy b M H → va_S (zA b) s.heap H locs → lv_has ls 4 [(0, .ref (b + h0)), (1, .int x1), (2, .int x2)] → W p l e (headSpec wsX8_stateAt ({ frames := 5, cells := 0, slots := 0, locals := 113 } : Room)).room s m ([.ref (b + h0), .int x1, .int x2] : List Value).toArray below meth c H locs 0 0 (MQ below (zQi D cy b rr) ([.ref (b + h0), .int x1, .int x2] : List Value).toArray s 0 0 (zA b)) (F0 m 47 ls []) := by
    intro M H locs ls h0 x1 x2 hf hP hS hl
    unfold fX8_stateAt_47 at hf
    refine lv_iconst (v := (0 : Int32)) hx hb dX8_stateAt_47 (by decide) ?_
    exact J48 _ _ _ _ _ _ _ _ hf hP hS (lv_sub hl [0, 1, 2] rfl)
  unfold fX8_stateAt at hf
  refine lv_aload_n hx hb dX8_stateAt_0 rfl (lv_at hl 0 rfl) ?_
  obtain ⟨v1, e1, hf⟩ := zb hf
  refine zr_gr (ci := 8) (k := 2) (C := RX8) (T := TX8) (N := 7) hx hb hts hi_X8_stateAt_8 hown hK hP e1 rfl rfl (by decide) (by decide) (hts (.fieldLink RX8 27 "BoundaryAnalyzer" "kinds" "[LBoundaryAnalyzer$Kind;") (List.mem_of_getElem? (i := 1) rfl)) dX8_stateAt_1 ?_
  refine lv_iload_n hx hb dX8_stateAt_4 rfl (lv_at hl 1 rfl) ?_
  obtain ⟨v5, e5, hf⟩ := zb hf
  refine zr_aa (t0 := 4) hx hb hK hP e5 (by decide) rfl dX8_stateAt_5 ?_
  refine lv_iload_n hx hb dX8_stateAt_6 rfl (lv_at hl 2 rfl) ?_
  refine lv_aload_n hx hb dX8_stateAt_7 rfl (lv_at hl 0 rfl) ?_
  obtain ⟨v8, e8, hf⟩ := zb hf
  refine zr_gr (ci := 8) (k := 0) (C := RX8) (T := TX8) (N := 7) hx hb hts hi_X8_stateAt_8 hown hK hP e8 rfl rfl (by decide) (by decide) (hts (.fieldLink RX8 10 "BoundaryAnalyzer" "text" "LBoundaryAnalyzer$Text;") (List.mem_of_getElem? (i := 2) rfl)) dX8_stateAt_8 ?_
  obtain ⟨v11, e11, hf⟩ := zb hf
  refine zr_gr (ci := 7) (k := 0) (C := RX7) (T := TX7) (N := 2) hx hb hts hi_X8_stateAt_7 hown hK hP e11 rfl rfl (by decide) (by decide) (hts (.fieldLink RX8 134 "BoundaryAnalyzer$Text" "signs" "LBoundaryAnalyzer$Row;") (List.mem_of_getElem? (i := 3) rfl)) dX8_stateAt_11 ?_
  obtain ⟨v14, e14, hf⟩ := zb hf
  refine zr_gi (ci := 4) (k := 1) (C := RX4) (T := TX4) (N := 2) hx hb hts hi_X8_stateAt_4 hown hK hP e14 rfl rfl (by decide) (by decide) (hts (.fieldLink RX8 70 "BoundaryAnalyzer$Row" "size" "I") (List.mem_of_getElem? (i := 4) rfl)) dX8_stateAt_14 ?_
  obtain ⟨u17, t17, hf⟩ := zb hf
  obtain ⟨r17, e17, hf⟩ := zb hf
  refine zc_i hS (va_runV (As := [.int x2, .int v14]) (rest := []) ⟨hx, hb, hml, hown, hts⟩ (k_X2_isRaw l D cy b M0 v5 x2 v14 r17 e17) (cwV 2 hts gX8_stateAt_X2_isRaw rfl rfl rfl (by decide +kernel) ⟨Nat.le_of_ble_eq_true rfl, Nat.le_of_ble_eq_true rfl⟩) (zp_V _ hK hP t17 (T := TX2) (N := 5) rfl (by decide)) rfl rfl hl.1 rfl (lv_room (Nat.le_of_ble_eq_true rfl)) dX8_stateAt_17 ⟨Nat.zero_le _, Nat.zero_le _⟩) (fun H locs hP hS => ?_)
  refine lv_if_ne (tgt := 25) hx hb dX8_stateAt_20 (by decide) (fun c20 => ?_) (fun c20 => ?_)
  · have hf := (if_neg c20).symm.trans hf
    refine lv_iload_n hx hb dX8_stateAt_25 rfl (lv_at hl 2 rfl) ?_
    refine lv_if_le (tgt := 47) hx hb dX8_stateAt_26 (by decide) (fun c26 => ?_) (fun c26 => ?_)
    · have hf := (if_pos c26).symm.trans hf
      exact J47 _ _ _ _ _ _ _ hf hP hS (lv_sub hl [0, 1, 2] rfl)
    · have hf := (if_neg c26).symm.trans hf
      refine lv_iload_n hx hb dX8_stateAt_29 rfl (lv_at hl 2 rfl) ?_
      refine lv_aload_n hx hb dX8_stateAt_30 rfl (lv_at hl 0 rfl) ?_
      obtain ⟨v31, e31, hf⟩ := zb hf
      refine zr_gr (ci := 8) (k := 0) (C := RX8) (T := TX8) (N := 7) hx hb hts hi_X8_stateAt_8 hown hK hP e31 rfl rfl (by decide) (by decide) (hts (.fieldLink RX8 10 "BoundaryAnalyzer" "text" "LBoundaryAnalyzer$Text;") (List.mem_of_getElem? (i := 2) rfl)) dX8_stateAt_31 ?_
      obtain ⟨v34, e34, hf⟩ := zb hf
      refine zr_gr (ci := 7) (k := 0) (C := RX7) (T := TX7) (N := 2) hx hb hts hi_X8_stateAt_7 hown hK hP e34 rfl rfl (by decide) (by decide) (hts (.fieldLink RX8 134 "BoundaryAnalyzer$Text" "signs" "LBoundaryAnalyzer$Row;") (List.mem_of_getElem? (i := 3) rfl)) dX8_stateAt_34 ?_
      obtain ⟨v37, e37, hf⟩ := zb hf
      refine zr_gi (ci := 4) (k := 1) (C := RX4) (T := TX4) (N := 2) hx hb hts hi_X8_stateAt_4 hown hK hP e37 rfl rfl (by decide) (by decide) (hts (.fieldLink RX8 70 "BoundaryAnalyzer$Row" "size" "I") (List.mem_of_getElem? (i := 4) rfl)) dX8_stateAt_37 ?_
      refine lv_icmp_ge (tgt := 47) hx hb dX8_stateAt_40 (by decide) (fun c40 => ?_) (fun c40 => ?_)
      · have hf := (if_pos c40).symm.trans hf
        exact J47 _ _ _ _ _ _ _ hf hP hS (lv_sub hl [0, 1, 2] rfl)
      · have hf := (if_neg c40).symm.trans hf
        refine lv_iconst (v := (1 : Int32)) hx hb dX8_stateAt_43 (by decide) ?_
        refine lv_goto (tgt := 48) hx hb dX8_stateAt_44 (by decide) ?_
        exact J48 _ _ _ _ _ _ _ _ hf hP hS (lv_sub hl [0, 1, 2] rfl)
  · have hf := (if_pos c20).symm.trans hf
    refine lv_iconst (v := (0 : Int32)) hx hb dX8_stateAt_23 (by decide) ?_
    exact zret_i hx hb hr hlocks hf hP hS dX8_stateAt_24
theorem hi_X8_boundaryAt_8 : ∀ w ∈ wsX80, w ∈ wsX8_boundaryAt := fun _ h => List.mem_cons_of_mem _ (List.mem_append_left _ (List.mem_append_left _ (List.mem_append_left _ (List.mem_append_right _ h))))
set_option maxHeartbeats 4000000 in
set_option maxRecDepth 100000 in
theorem k_X8_boundaryAt (l : Launch) (D : va_G) (cy : Nat → ClassId) (b : Nat) (M0 : Mem) (h0 : Nat) (x1 : Int32) (x2 : Int32) (rr : Int32 × Mem) (hf : fX8_boundaryAt M0 h0 x1 x2 = some rr) : Met l yX8_boundaryAt wsX8_boundaryAt ({ frames := 6, cells := 0, slots := 0, locals := 136 } : Room) (zPc D cy b M0 [.ref (b + h0), .int x1, .int x2]) (zQi D cy b rr) 0 0 (zA b) := by
  refine Met.ofW (cc := cX8_boundaryAt) (maxL := 3) (ret := (some .int)) (by decide) rfl ?_
  intro p e s m args below meth c s₁ B hml hv
  obtain ⟨rfl, hP, hK⟩ := hv
  have hx := B.exec
  have hb := B.bytes
  have hr := B.returns
  have hts := atoms_spec (ws := wsX8_boundaryAt) B.pre
  have hown : s.vm.findClass RX8 = some m.cls := findClass_of_methodNamed B.named
  have hlocks := B.notSynchronized
  have hS : va_S (zA b) s.heap s.heap [] := va_S.rf
  have hl := lv_entry ([.ref (b + h0), .int x1, .int x2]) (n := 3) (Nat.le_of_ble_eq_true rfl)
  rw [lg_entry_eq]
  generalize (lg_sl ([.ref (b + h0), .int x1, .int x2]) ++ List.replicate (3 - (lg_sl ([.ref (b + h0), .int x1, .int x2])).length) Slot.unset).toArray = ls at hl ⊢
  have hl : lv_has ls 3 [(0, .ref (b + h0)), (1, .int x1), (2, .int x2)] := hl
  unfold fX8_boundaryAt at hf
  refine lv_iload_n hx hb dX8_boundaryAt_0 rfl (lv_at hl 1 rfl) ?_
  obtain ⟨v1, e1, hf⟩ := zb hf
  refine zc_p (va_runS (As := [.int x1]) (rest := []) ⟨hx, hb, hml, hown, hts⟩ (k_X8_isKind l x1 v1 e1) (va_cwS 1 hts gX8_boundaryAt_X8_isKind rfl rfl rfl (by decide +kernel) ⟨Nat.le_of_ble_eq_true rfl, Nat.le_of_ble_eq_true rfl⟩) (zp_p _) rfl rfl hl.1 rfl (lv_room (Nat.le_of_ble_eq_true rfl)) dX8_boundaryAt_1 ⟨Nat.zero_le _, Nat.zero_le _⟩) ?_
  refine lv_if_ne (tgt := 10) hx hb dX8_boundaryAt_4 (by decide) (fun c4 => ?_) (fun c4 => ?_)
  · have hf := (if_neg c4).symm.trans hf
    refine lv_aload_n hx hb dX8_boundaryAt_10 rfl (lv_at hl 0 rfl) ?_
    refine lv_iload_n hx hb dX8_boundaryAt_11 rfl (lv_at hl 2 rfl) ?_
    obtain ⟨u12, t12, hf⟩ := zb hf
    obtain ⟨r12, e12, hf⟩ := zb hf
    refine zc_i hS (va_runV (As := [.int x2]) (rest := []) ⟨hx, hb, hml, hown, hts⟩ (k_X8_isPosition l D cy b M0 h0 x2 r12 e12) (cwV 1 hts gX8_boundaryAt_X8_isPosition rfl rfl rfl (by decide +kernel) ⟨Nat.le_of_ble_eq_true rfl, Nat.le_of_ble_eq_true rfl⟩) (zp_V _ hK hP t12 (T := TX8) (N := 7) rfl (by decide)) rfl rfl hl.1 rfl (lv_room (Nat.le_of_ble_eq_true rfl)) dX8_boundaryAt_12 ⟨Nat.zero_le _, Nat.zero_le _⟩) (fun H locs hP hS => ?_)
    refine lv_if_eq (tgt := 27) hx hb dX8_boundaryAt_15 (by decide) (fun c15 => ?_) (fun c15 => ?_)
    · have hf := (if_pos c15).symm.trans hf
      refine lv_iconst (v := (-1 : Int32)) hx hb dX8_boundaryAt_27 (by decide) ?_
      exact zret_i hx hb hr hlocks hf hP hS dX8_boundaryAt_28
    · have hf := (if_neg c15).symm.trans hf
      refine lv_aload_n hx hb dX8_boundaryAt_18 rfl (lv_at hl 0 rfl) ?_
      refine lv_iload_n hx hb dX8_boundaryAt_19 rfl (lv_at hl 1 rfl) ?_
      refine lv_iload_n hx hb dX8_boundaryAt_20 rfl (lv_at hl 2 rfl) ?_
      obtain ⟨u21, t21, hf⟩ := zb hf
      obtain ⟨r21, e21, hf⟩ := zb hf
      refine zc_i hS (va_runV (As := [.int x1, .int x2]) (rest := []) ⟨hx, hb, hml, hown, hts⟩ (k_X8_stateAt l D cy b r12.2 h0 x1 x2 r21 e21) (cwV 2 hts gX8_boundaryAt_X8_stateAt rfl rfl rfl (by decide +kernel) ⟨Nat.le_of_ble_eq_true rfl, Nat.le_of_ble_eq_true rfl⟩) (zp_V _ hK hP t21 (T := TX8) (N := 7) rfl (by decide)) rfl rfl hl.1 rfl (lv_room (Nat.le_of_ble_eq_true rfl)) dX8_boundaryAt_21 ⟨Nat.zero_le _, Nat.zero_le _⟩) (fun H locs hP hS => ?_)
      refine lv_goto (tgt := 28) hx hb dX8_boundaryAt_24 (by decide) ?_
      exact zret_i hx hb hr hlocks hf hP hS dX8_boundaryAt_28
  · have hf := (if_pos c4).symm.trans hf
    refine lv_bipush (v := (-2 : Int32)) hx hb dX8_boundaryAt_7 (by decide) ?_
    exact zret_i hx hb hr hlocks hf hP hS dX8_boundaryAt_9
theorem hi_X8_boundaryBehind_4 : ∀ w ∈ wsX40, w ∈ wsX8_boundaryBehind := fun _ h => List.mem_cons_of_mem _ (List.mem_append_left _ (List.mem_append_right _ h))
theorem hi_X8_boundaryBehind_7 : ∀ w ∈ wsX70, w ∈ wsX8_boundaryBehind := fun _ h => List.mem_cons_of_mem _ (List.mem_append_left _ (List.mem_append_left _ (List.mem_append_right _ h)))
theorem hi_X8_boundaryBehind_8 : ∀ w ∈ wsX80, w ∈ wsX8_boundaryBehind := fun _ h => List.mem_cons_of_mem _ (List.mem_append_left _ (List.mem_append_left _ (List.mem_append_left _ (List.mem_append_right _ h))))
set_option maxHeartbeats 4000000 in
set_option maxRecDepth 100000 in
theorem k_X8_boundaryBehind (l : Launch) (D : va_G) (cy : Nat → ClassId) (b : Nat) (M0 : Mem) (h0 : Nat) (x1 : Int32) (x2 : Int32) (rr : Int32 × Mem) (hf : fX8_boundaryBehind M0 h0 x1 x2 = some rr) : Met l yX8_boundaryBehind wsX8_boundaryBehind ({ frames := 6, cells := 0, slots := 0, locals := 136 } : Room) (zPc D cy b M0 [.ref (b + h0), .int x1, .int x2]) (zQi D cy b rr) 0 0 (zA b) := by
  refine Met.ofW (cc := cX8_boundaryBehind) (maxL := 4) (ret := (some .int)) (by decide) rfl ?_
  intro p e s m args below meth c s₁ B hml hv
  obtain ⟨rfl, hP, hK⟩ := hv
  have hx := B.exec
  have hb := B.bytes
  have hr := B.returns
  have hts := atoms_spec (ws := wsX8_boundaryBehind) B.pre
  have hown : s.vm.findClass RX8 = some m.cls := findClass_of_methodNamed B.named
  have hlocks := B.notSynchronized
  have hS : va_S (zA b) s.heap s.heap [] := va_S.rf
  have hl := lv_entry ([.ref (b + h0), .int x1, .int x2]) (n := 4) (Nat.le_of_ble_eq_true rfl)
  rw [lg_entry_eq]
  generalize (lg_sl ([.ref (b + h0), .int x1, .int x2]) ++ List.replicate (4 - (lg_sl ([.ref (b + h0), .int x1, .int x2])).length) Slot.unset).toArray = ls at hl ⊢
  have hl : lv_has ls 4 [(0, .ref (b + h0)), (1, .int x1), (2, .int x2)] := hl
  have L4 : ∀ (n4 : Nat) (M : Mem) (H : Heap) (locs : List Loc) (ls : Array Slot) (h0 : Nat) (x1 : Int32) (x3 : Int32), fX8_boundaryBehind_4L  n4 M h0 x1 x3 = some rr → zH D cy b M H → va_S (zA b) s.heap H locs → lv_has ls 4 [(0, .ref (b + h0)), (1, .int x1), (3, .int x3)] → W p l e (headSpec wsX8_boundaryBehind ({ frames := 6, cells := 0, slots := 0, locals := 136 } : Room)).room s m ([.ref (b + h0), .int x1, .int x2] : List Value).toArray below meth c H locs 0 0 (MQ below (zQi D cy b rr) ([.ref (b + h0), .int x1, .int x2] : List Value).toArray s 0 0 (zA b)) (F0 m 4 ls []) := by
    intro n4
    induction n4 with
    | zero =>
      intro M H locs ls h0 x1 x3 hf
      have hf : (none : Option (Int32 × Mem)) = some rr := hf
      cases hf
    | succ n4 ih4 =>
      intro M H locs ls h0 x1 x3 hf hP hS hl
      have hf : fX8_boundaryBehind_4  (fX8_boundaryBehind_4L  n4) M h0 x1 x3 = some rr := hf
      unfold fX8_boundaryBehind_4 at hf
      refine lv_iload_n hx hb dX8_boundaryBehind_4 rfl (lv_at hl 2 rfl) ?_
      refine lv_aload_n hx hb dX8_boundaryBehind_5 rfl (lv_at hl 0 rfl) ?_
      obtain ⟨v6, e6, hf⟩ := zb hf
      refine zr_gr (ci := 8) (k := 0) (C := RX8) (T := TX8) (N := 7) hx hb hts hi_X8_boundaryBehind_8 hown hK hP e6 rfl rfl (by decide) (by decide) (hts (.fieldLink RX8 10 "BoundaryAnalyzer" "text" "LBoundaryAnalyzer$Text;") (List.mem_of_getElem? (i := 1) rfl)) dX8_boundaryBehind_6 ?_
      obtain ⟨v9, e9, hf⟩ := zb hf
      refine zr_gr (ci := 7) (k := 0) (C := RX7) (T := TX7) (N := 2) hx hb hts hi_X8_boundaryBehind_7 hown hK hP e9 rfl rfl (by decide) (by decide) (hts (.fieldLink RX8 134 "BoundaryAnalyzer$Text" "signs" "LBoundaryAnalyzer$Row;") (List.mem_of_getElem? (i := 2) rfl)) dX8_boundaryBehind_9 ?_
      obtain ⟨v12, e12, hf⟩ := zb hf
      refine zr_gi (ci := 4) (k := 1) (C := RX4) (T := TX4) (N := 2) hx hb hts hi_X8_boundaryBehind_4 hown hK hP e12 rfl rfl (by decide) (by decide) (hts (.fieldLink RX8 70 "BoundaryAnalyzer$Row" "size" "I") (List.mem_of_getElem? (i := 3) rfl)) dX8_boundaryBehind_12 ?_
      refine lv_icmp_gt (tgt := 36) hx hb dX8_boundaryBehind_15 (by decide) (fun c15 => ?_) (fun c15 => ?_)
      · have hf := (if_pos c15).symm.trans hf
        refine lv_bipush (v := (-5 : Int32)) hx hb dX8_boundaryBehind_36 (by decide) ?_
        exact zret_i hx hb hr hlocks hf hP hS dX8_boundaryBehind_38
      · have hf := (if_neg c15).symm.trans hf
        refine lv_aload_n hx hb dX8_boundaryBehind_18 rfl (lv_at hl 0 rfl) ?_
        refine lv_iload_n hx hb dX8_boundaryBehind_19 rfl (lv_at hl 1 rfl) ?_
        refine lv_iload_n hx hb dX8_boundaryBehind_20 rfl (lv_at hl 2 rfl) ?_
        obtain ⟨u21, t21, hf⟩ := zb hf
        obtain ⟨r21, e21, hf⟩ := zb hf
        refine zc_i hS (va_runV (As := [.int x1, .int x3]) (rest := []) ⟨hx, hb, hml, hown, hts⟩ (k_X8_stateAt l D cy b M h0 x1 x3 r21 e21) (cwV 2 hts gX8_boundaryBehind_X8_stateAt rfl rfl rfl (by decide +kernel) ⟨Nat.le_of_ble_eq_true rfl, Nat.le_of_ble_eq_true rfl⟩) (zp_V _ hK hP t21 (T := TX8) (N := 7) rfl (by decide)) rfl rfl hl.1 rfl (lv_room (Nat.le_of_ble_eq_true rfl)) dX8_boundaryBehind_21 ⟨Nat.zero_le _, Nat.zero_le _⟩) (fun H locs hP hS => ?_)
        refine lv_iconst (v := (1 : Int32)) hx hb dX8_boundaryBehind_24 (by decide) ?_
        refine lv_icmp_ne (tgt := 30) hx hb dX8_boundaryBehind_25 (by decide) (fun c25 => ?_) (fun c25 => ?_)
        · have hf := (if_neg c25).symm.trans hf
          obtain ⟨x3_30, q30, hf⟩ := zlt_s hf
          refine lv_iinc (v := x3_30) (lv' := [(3, .int x3_30), (0, .ref (b + h0)), (1, .int x1)]) hx hb dX8_boundaryBehind_30 hl (k := 2) rfl (by rw [← q30]; rfl) (by decide) rfl (fun ls hl => ?_)
          refine lv_goto (tgt := 4) hx hb dX8_boundaryBehind_33 (by decide) ?_
          exact ih4 _ _ _ _ _ _ _ hf hP hS (lv_sub hl [1, 2, 0] rfl)
        · have hf := (if_pos c25).symm.trans hf
          refine lv_iload_n hx hb dX8_boundaryBehind_28 rfl (lv_at hl 2 rfl) ?_
          exact zret_i hx hb hr hlocks hf hP hS dX8_boundaryBehind_29
  unfold fX8_boundaryBehind at hf
  refine lv_iload_n hx hb dX8_boundaryBehind_0 rfl (lv_at hl 2 rfl) ?_
  refine lv_iconst (v := (1 : Int32)) hx hb dX8_boundaryBehind_1 (by decide) ?_
  refine lv_iadd hx hb dX8_boundaryBehind_2 ?_
  obtain ⟨x3_3, q3, hf⟩ := zlt_s hf
  refine zt q3 ?_
  refine lv_istore_n (lv' := [(3, .int x3_3), (0, .ref (b + h0)), (1, .int x1), (2, .int x2)]) hx hb dX8_boundaryBehind_3 rfl hl (by decide) rfl (fun ls hl => ?_)
  exact L4 _ _ _ _ _ _ _ _ hf hP hS (lv_sub hl [1, 2, 0] rfl)
theorem hi_X8_next_8 : ∀ w ∈ wsX80, w ∈ wsX8_next := fun _ h => List.mem_cons_of_mem _ (List.mem_append_left _ (List.mem_append_left _ (List.mem_append_left _ (List.mem_append_right _ h))))
set_option maxHeartbeats 4000000 in
set_option maxRecDepth 100000 in
theorem k_X8_next (l : Launch) (D : va_G) (cy : Nat → ClassId) (b : Nat) (M0 : Mem) (h0 : Nat) (x1 : Int32) (x2 : Int32) (rr : Int32 × Mem) (hf : fX8_next M0 h0 x1 x2 = some rr) : Met l yX8_next wsX8_next ({ frames := 7, cells := 0, slots := 0, locals := 159 } : Room) (zPc D cy b M0 [.ref (b + h0), .int x1, .int x2]) (zQi D cy b rr) 0 0 (zA b) := by
  refine Met.ofW (cc := cX8_next) (maxL := 3) (ret := (some .int)) (by decide) rfl ?_
  intro p e s m args below meth c s₁ B hml hv
  obtain ⟨rfl, hP, hK⟩ := hv
  have hx := B.exec
  have hb := B.bytes
  have hr := B.returns
  have hts := atoms_spec (ws := wsX8_next) B.pre
  have hown : s.vm.findClass RX8 = some m.cls := findClass_of_methodNamed B.named
  have hlocks := B.notSynchronized
  have hS : va_S (zA b) s.heap s.heap [] := va_S.rf
  have hl := lv_entry ([.ref (b + h0), .int x1, .int x2]) (n := 3) (Nat.le_of_ble_eq_true rfl)
  rw [lg_entry_eq]
  generalize (lg_sl ([.ref (b + h0), .int x1, .int x2]) ++ List.replicate (3 - (lg_sl ([.ref (b + h0), .int x1, .int x2])).length) Slot.unset).toArray = ls at hl ⊢
  have hl : lv_has ls 3 [(0, .ref (b + h0)), (1, .int x1), (2, .int x2)] := hl
  unfold fX8_next at hf
  refine lv_iload_n hx hb dX8_next_0 rfl (lv_at hl 1 rfl) ?_
  obtain ⟨v1, e1, hf⟩ := zb hf
  refine zc_p (va_runS (As := [.int x1]) (rest := []) ⟨hx, hb, hml, hown, hts⟩ (k_X8_isKind l x1 v1 e1) (va_cwS 1 hts gX8_next_X8_isKind rfl rfl rfl (by decide +kernel) ⟨Nat.le_of_ble_eq_true rfl, Nat.le_of_ble_eq_true rfl⟩) (zp_p _) rfl rfl hl.1 rfl (lv_room (Nat.le_of_ble_eq_true rfl)) dX8_next_1 ⟨Nat.zero_le _, Nat.zero_le _⟩) ?_
  refine lv_if_ne (tgt := 10) hx hb dX8_next_4 (by decide) (fun c4 => ?_) (fun c4 => ?_)
  · have hf := (if_neg c4).symm.trans hf
    refine lv_aload_n hx hb dX8_next_10 rfl (lv_at hl 0 rfl) ?_
    refine lv_iload_n hx hb dX8_next_11 rfl (lv_at hl 2 rfl) ?_
    obtain ⟨u12, t12, hf⟩ := zb hf
    obtain ⟨r12, e12, hf⟩ := zb hf
    refine zc_i hS (va_runV (As := [.int x2]) (rest := []) ⟨hx, hb, hml, hown, hts⟩ (k_X8_isPosition l D cy b M0 h0 x2 r12 e12) (cwV 1 hts gX8_next_X8_isPosition rfl rfl rfl (by decide +kernel) ⟨Nat.le_of_ble_eq_true rfl, Nat.le_of_ble_eq_true rfl⟩) (zp_V _ hK hP t12 (T := TX8) (N := 7) rfl (by decide)) rfl rfl hl.1 rfl (lv_room (Nat.le_of_ble_eq_true rfl)) dX8_next_12 ⟨Nat.zero_le _, Nat.zero_le _⟩) (fun H locs hP hS => ?_)
    refine lv_if_eq (tgt := 27) hx hb dX8_next_15 (by decide) (fun c15 => ?_) (fun c15 => ?_)
    · have hf := (if_pos c15).symm.trans hf
      refine lv_iconst (v := (-1 : Int32)) hx hb dX8_next_27 (by decide) ?_
      exact zret_i hx hb hr hlocks hf hP hS dX8_next_28
    · have hf := (if_neg c15).symm.trans hf
      refine lv_aload_n hx hb dX8_next_18 rfl (lv_at hl 0 rfl) ?_
      refine lv_iload_n hx hb dX8_next_19 rfl (lv_at hl 1 rfl) ?_
      refine lv_iload_n hx hb dX8_next_20 rfl (lv_at hl 2 rfl) ?_
      obtain ⟨u21, t21, hf⟩ := zb hf
      obtain ⟨r21, e21, hf⟩ := zb hf
      refine zc_i hS (va_runV (As := [.int x1, .int x2]) (rest := []) ⟨hx, hb, hml, hown, hts⟩ (k_X8_boundaryBehind l D cy b r12.2 h0 x1 x2 r21 e21) (cwV 2 hts gX8_next_X8_boundaryBehind rfl rfl rfl (by decide +kernel) ⟨Nat.le_of_ble_eq_true rfl, Nat.le_of_ble_eq_true rfl⟩) (zp_V _ hK hP t21 (T := TX8) (N := 7) rfl (by decide)) rfl rfl hl.1 rfl (lv_room (Nat.le_of_ble_eq_true rfl)) dX8_next_21 ⟨Nat.zero_le _, Nat.zero_le _⟩) (fun H locs hP hS => ?_)
      refine lv_goto (tgt := 28) hx hb dX8_next_24 (by decide) ?_
      exact zret_i hx hb hr hlocks hf hP hS dX8_next_28
  · have hf := (if_pos c4).symm.trans hf
    refine lv_bipush (v := (-2 : Int32)) hx hb dX8_next_7 (by decide) ?_
    exact zret_i hx hb hr hlocks hf hP hS dX8_next_9
theorem hi_X8_previous_8 : ∀ w ∈ wsX80, w ∈ wsX8_previous := fun _ h => List.mem_cons_of_mem _ (List.mem_append_left _ (List.mem_append_left _ (List.mem_append_left _ (List.mem_append_right _ h))))
set_option maxHeartbeats 4000000 in
set_option maxRecDepth 100000 in
theorem k_X8_previous (l : Launch) (D : va_G) (cy : Nat → ClassId) (b : Nat) (M0 : Mem) (h0 : Nat) (x1 : Int32) (x2 : Int32) (rr : Int32 × Mem) (hf : fX8_previous M0 h0 x1 x2 = some rr) : Met l yX8_previous wsX8_previous ({ frames := 6, cells := 0, slots := 0, locals := 136 } : Room) (zPc D cy b M0 [.ref (b + h0), .int x1, .int x2]) (zQi D cy b rr) 0 0 (zA b) := by
  refine Met.ofW (cc := cX8_previous) (maxL := 4) (ret := (some .int)) (by decide) rfl ?_
  intro p e s m args below meth c s₁ B hml hv
  obtain ⟨rfl, hP, hK⟩ := hv
  have hx := B.exec
  have hb := B.bytes
  have hr := B.returns
  have hts := atoms_spec (ws := wsX8_previous) B.pre
  have hown : s.vm.findClass RX8 = some m.cls := findClass_of_methodNamed B.named
  have hlocks := B.notSynchronized
  have hS : va_S (zA b) s.heap s.heap [] := va_S.rf
  have hl := lv_entry ([.ref (b + h0), .int x1, .int x2]) (n := 4) (Nat.le_of_ble_eq_true rfl)
  rw [lg_entry_eq]
  generalize (lg_sl ([.ref (b + h0), .int x1, .int x2]) ++ List.replicate (4 - (lg_sl ([.ref (b + h0), .int x1, .int x2])).length) Slot.unset).toArray = ls at hl ⊢
  have hl : lv_has ls 4 [(0, .ref (b + h0)), (1, .int x1), (2, .int x2)] := hl
  have L24 : ∀ (n24 : Nat) (M : Mem) (H : Heap) (locs : List Loc) (ls : Array Slot) (h0 : Nat) (x1 : Int32) (x3 : Int32), fX8_previous_24L  n24 M h0 x1 x3 = some rr → zH D cy b M H → va_S (zA b) s.heap H locs → lv_has ls 4 [(0, .ref (b + h0)), (1, .int x1), (3, .int x3)] → W p l e (headSpec wsX8_previous ({ frames := 6, cells := 0, slots := 0, locals := 136 } : Room)).room s m ([.ref (b + h0), .int x1, .int x2] : List Value).toArray below meth c H locs 0 0 (MQ below (zQi D cy b rr) ([.ref (b + h0), .int x1, .int x2] : List Value).toArray s 0 0 (zA b)) (F0 m 24 ls []) := by
    intro n24
    induction n24 with
    | zero =>
      intro M H locs ls h0 x1 x3 hf
      have hf : (none : Option (Int32 × Mem)) = some rr := hf
      cases hf
    | succ n24 ih24 =>
      intro M H locs ls h0 x1 x3 hf hP hS hl
      have hf : fX8_previous_24  (fX8_previous_24L  n24) M h0 x1 x3 = some rr := hf
      unfold fX8_previous_24 at hf
      refine lv_iload_n hx hb dX8_previous_24 rfl (lv_at hl 2 rfl) ?_
      refine lv_if_lt (tgt := 46) hx hb dX8_previous_25 (by decide) (fun c25 => ?_) (fun c25 => ?_)
      · have hf := (if_pos c25).symm.trans hf
        refine lv_bipush (v := (-5 : Int32)) hx hb dX8_previous_46 (by decide) ?_
        exact zret_i hx hb hr hlocks hf hP hS dX8_previous_48
      · have hf := (if_neg c25).symm.trans hf
        refine lv_aload_n hx hb dX8_previous_28 rfl (lv_at hl 0 rfl) ?_
        refine lv_iload_n hx hb dX8_previous_29 rfl (lv_at hl 1 rfl) ?_
        refine lv_iload_n hx hb dX8_previous_30 rfl (lv_at hl 2 rfl) ?_
        obtain ⟨u31, t31, hf⟩ := zb hf
        obtain ⟨r31, e31, hf⟩ := zb hf
        refine zc_i hS (va_runV (As := [.int x1, .int x3]) (rest := []) ⟨hx, hb, hml, hown, hts⟩ (k_X8_stateAt l D cy b M h0 x1 x3 r31 e31) (cwV 2 hts gX8_previous_X8_stateAt rfl rfl rfl (by decide +kernel) ⟨Nat.le_of_ble_eq_true rfl, Nat.le_of_ble_eq_true rfl⟩) (zp_V _ hK hP t31 (T := TX8) (N := 7) rfl (by decide)) rfl rfl hl.1 rfl (lv_room (Nat.le_of_ble_eq_true rfl)) dX8_previous_31 ⟨Nat.zero_le _, Nat.zero_le _⟩) (fun H locs hP hS => ?_)
        refine lv_iconst (v := (1 : Int32)) hx hb dX8_previous_34 (by decide) ?_
        refine lv_icmp_ne (tgt := 40) hx hb dX8_previous_35 (by decide) (fun c35 => ?_) (fun c35 => ?_)
        · have hf := (if_neg c35).symm.trans hf
          obtain ⟨x3_40, q40, hf⟩ := zlt_s hf
          refine lv_iinc (v := x3_40) (lv' := [(3, .int x3_40), (0, .ref (b + h0)), (1, .int x1)]) hx hb dX8_previous_40 hl (k := 2) rfl (by rw [← q40]; rfl) (by decide) rfl (fun ls hl => ?_)
          refine lv_goto (tgt := 24) hx hb dX8_previous_43 (by decide) ?_
          exact ih24 _ _ _ _ _ _ _ hf hP hS (lv_sub hl [1, 2, 0] rfl)
        · have hf := (if_pos c35).symm.trans hf
          refine lv_iload_n hx hb dX8_previous_38 rfl (lv_at hl 2 rfl) ?_
          exact zret_i hx hb hr hlocks hf hP hS dX8_previous_39
  unfold fX8_previous at hf
  refine lv_iload_n hx hb dX8_previous_0 rfl (lv_at hl 1 rfl) ?_
  obtain ⟨v1, e1, hf⟩ := zb hf
  refine zc_p (va_runS (As := [.int x1]) (rest := []) ⟨hx, hb, hml, hown, hts⟩ (k_X8_isKind l x1 v1 e1) (va_cwS 1 hts gX8_previous_X8_isKind rfl rfl rfl (by decide +kernel) ⟨Nat.le_of_ble_eq_true rfl, Nat.le_of_ble_eq_true rfl⟩) (zp_p _) rfl rfl hl.1 rfl (lv_room (Nat.le_of_ble_eq_true rfl)) dX8_previous_1 ⟨Nat.zero_le _, Nat.zero_le _⟩) ?_
  refine lv_if_ne (tgt := 10) hx hb dX8_previous_4 (by decide) (fun c4 => ?_) (fun c4 => ?_)
  · have hf := (if_neg c4).symm.trans hf
    refine lv_aload_n hx hb dX8_previous_10 rfl (lv_at hl 0 rfl) ?_
    refine lv_iload_n hx hb dX8_previous_11 rfl (lv_at hl 2 rfl) ?_
    obtain ⟨u12, t12, hf⟩ := zb hf
    obtain ⟨r12, e12, hf⟩ := zb hf
    refine zc_i hS (va_runV (As := [.int x2]) (rest := []) ⟨hx, hb, hml, hown, hts⟩ (k_X8_isPosition l D cy b M0 h0 x2 r12 e12) (cwV 1 hts gX8_previous_X8_isPosition rfl rfl rfl (by decide +kernel) ⟨Nat.le_of_ble_eq_true rfl, Nat.le_of_ble_eq_true rfl⟩) (zp_V _ hK hP t12 (T := TX8) (N := 7) rfl (by decide)) rfl rfl hl.1 rfl (lv_room (Nat.le_of_ble_eq_true rfl)) dX8_previous_12 ⟨Nat.zero_le _, Nat.zero_le _⟩) (fun H locs hP hS => ?_)
    refine lv_if_ne (tgt := 20) hx hb dX8_previous_15 (by decide) (fun c15 => ?_) (fun c15 => ?_)
    · have hf := (if_neg c15).symm.trans hf
      refine lv_iload_n hx hb dX8_previous_20 rfl (lv_at hl 2 rfl) ?_
      refine lv_iconst (v := (1 : Int32)) hx hb dX8_previous_21 (by decide) ?_
      refine lv_isub hx hb dX8_previous_22 ?_
      obtain ⟨x3_23, q23, hf⟩ := zlt_s hf
      refine zt q23 ?_
      refine lv_istore_n (lv' := [(3, .int x3_23), (0, .ref (b + h0)), (1, .int x1), (2, .int x2)]) hx hb dX8_previous_23 rfl hl (by decide) rfl (fun ls hl => ?_)
      exact L24 _ _ _ _ _ _ _ _ hf hP hS (lv_sub hl [1, 2, 0] rfl)
    · have hf := (if_pos c15).symm.trans hf
      refine lv_iconst (v := (-1 : Int32)) hx hb dX8_previous_18 (by decide) ?_
      exact zret_i hx hb hr hlocks hf hP hS dX8_previous_19
  · have hf := (if_pos c4).symm.trans hf
    refine lv_bipush (v := (-2 : Int32)) hx hb dX8_previous_7 (by decide) ?_
    exact zret_i hx hb hr hlocks hf hP hS dX8_previous_9
