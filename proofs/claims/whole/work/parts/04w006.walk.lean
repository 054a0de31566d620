theorem hi_X5_init_3 : ∀ w ∈ wsX30, w ∈ wsX5_init := fun _ h => List.mem_cons_of_mem _ (List.mem_append_right _ h)
theorem hi_X5_init_4 : ∀ w ∈ wsX40, w ∈ wsX5_init := fun _ h => List.mem_cons_of_mem _ (List.mem_append_left _ (List.mem_append_left _ (List.mem_append_right _ h)))
theorem hi_X5_init_5 : ∀ w ∈ wsX50, w ∈ wsX5_init := fun _ h => List.mem_cons_of_mem _ (List.mem_append_left _ (List.mem_append_right _ h))
set_option maxHeartbeats 4000000 in
set_option maxRecDepth 100000 in
theorem k_X5_init (l : Launch) (D : va_G) (cy : Nat → ClassId) (b : Nat) (M0 : Mem) (p0 : Nat) (rr : Mem) (hf : fX5_init M0 p0 = some rr) : Met l yX5_init wsX5_init ({ frames := 2, cells := 8, slots := 24000, locals := 61 } : Room) (zPn D cy b M0 [.ref (b + p0)]) (zQn D cy b rr) 8 24000 (zA b) := by
  refine Met.ofW (cc := cX5_init) (maxL := 1) (ret := none) (by decide) rfl ?_
  intro p e s m args below meth c s₁ B hml hv
  obtain ⟨rfl, hP, hK, hz⟩ := hv
  have hx := B.exec
  have hb := B.bytes
  have hr := B.returns
  have hts := atoms_spec (ws := wsX5_init) B.pre
  have hown : s.vm.findClass RX5 = some m.cls := findClass_of_methodNamed B.named
  have hlocks := B.notSynchronized
  have hin : meth.name = "<init>" := (name_of_methodNamed B.named B.method).1
  have hS : va_S (zA b) s.heap s.heap [] := va_S.rf
  have hl := lv_entry ([.ref (b + p0)]) (n := 1) (Nat.le_of_ble_eq_true rfl)
  rw [lg_entry_eq]
  generalize (lg_sl ([.ref (b + p0)]) ++ List.replicate (1 - (lg_sl ([.ref (b + p0)])).length) Slot.unset).toArray = ls at hl ⊢
  have hl : lv_has ls 1 [(0, .ref (b + p0))] := hl
  have hn : yN M0.1 8 M0 := ⟨Nat.le_refl _, Nat.le_add_right _ _⟩
  refine y_begin (M := M0) ?_
  unfold fX5_init at hf
  refine lv_aload_n hx hb dX5_init_0 rfl (lv_at hl 0 rfl) ?_
  refine W.objInit hx hb hown (hts (.methodLink RX5 3 objectInit) (List.mem_of_getElem? (i := 1) rfl)) (hts (.instanceMethod objectInit) (List.mem_of_getElem? (i := 2) rfl)) (hts _ (List.mem_of_getElem? (i := 3) rfl)) rfl (by rw [hml]; exact hl.1) rfl dX5_init_1 (Nat.le_of_ble_eq_true rfl) (Nat.le_of_ble_eq_true rfl) ?_
  refine W.eq (g2 := F0 m 4 ls []) rfl ?_
  refine lv_aload_n hx hb dX5_init_4 rfl (lv_at hl 0 rfl) ?_
  obtain ⟨M5, e5, hf⟩ := zb hf
  refine y_no (mc := 8) (ci := 4) (C := RX4) (T := TX4) (N := 2) hx hb hts hi_X5_init_4 tyX4 tyX4_ok hown (hts (.classLink RX5 9 RX4) (List.mem_of_getElem? (i := 4) rfl)) (hts (.instantiable RX4 2) (List.mem_of_getElem? (i := 5) rfl)) (hts (.initialized RX4) (List.mem_of_getElem? (i := 6) rfl)) hK hP hz hS hn e5 rfl (by decide) (fun j hj => by rcases (show j = 0 ∨ j = 1 by omega) with rfl | rfl <;> rfl) rfl rfl (by decide) dX5_init_5 (fun H hP hz hS hn => ?_)
  refine lv_dup hx hb dX5_init_8 rfl ?_
  refine lv_bipush (v := (24 : Int32)) hx hb dX5_init_9 (by decide) ?_
  obtain ⟨M11, e11, hf⟩ := zb hf
  obtain ⟨u11, r11, hf⟩ := zb hf
  refine y_call (mc := 8) (k := 1) hS hn r11 rfl rfl (fun hrm => va_runI (As := [.int (24 : Int32)]) (rest := [.ref (b + M0.1), .ref (b + p0)]) ⟨hx, hb, hml, hown, hts⟩ (k_X4_init l D cy b M5 M0.1 (24 : Int32) M11 e11) (cwI 1 hts gX5_init_X4_init rfl rfl rfl (hts (.initialized RX4) (List.mem_of_getElem? (i := 6) rfl)) (hts (.methodLink RX5 11 yX4_init) (List.mem_of_getElem? (i := 18) rfl)) (hts (.instanceMethod yX4_init) (List.mem_of_getElem? (i := 19) rfl)) rfl (by decide +kernel) ⟨Nat.le_of_ble_eq_true rfl, Nat.le_of_ble_eq_true rfl⟩) (zp_N _ hK hP hz) rfl rfl hl.1 rfl (lv_room (Nat.le_of_ble_eq_true rfl)) dX5_init_11 hrm) (fun H locs hP hz hS hn => ?_)
  obtain ⟨M14, e14, hf⟩ := zb hf
  refine y_put (ci := 5) (k := 0) (C := RX5) (T := TX5) (N := 9) hx hb hts hi_X5_init_5 tyX5 tyX5_ok nmX5 hown hK hP hz hS hn e14 rfl rfl (by decide) (by decide) (hts (.fieldLink RX5 14 "BoundaryAnalyzer$Rule" "signs" "LBoundaryAnalyzer$Row;") (List.mem_of_getElem? (i := 7) rfl)) (Or.inr ⟨rfl, hin, rfl⟩) (tyX5_ok 0 (by decide)) rfl rfl dX5_init_14 (fun H locs hP hz hS hn => ?_)
  refine lv_aload_n hx hb dX5_init_17 rfl (lv_at hl 0 rfl) ?_
  obtain ⟨M18, e18, hf⟩ := zb hf
  refine y_no (mc := 8) (ci := 3) (C := RX3) (T := TX3) (N := 3) hx hb hts hi_X5_init_3 tyX3 tyX3_ok hown (hts (.classLink RX5 20 RX3) (List.mem_of_getElem? (i := 8) rfl)) (hts (.instantiable RX3 3) (List.mem_of_getElem? (i := 9) rfl)) (hts (.initialized RX3) (List.mem_of_getElem? (i := 10) rfl)) hK hP hz hS hn e18 rfl (by decide) (fun j hj => by rcases (show j = 0 ∨ j = 1 ∨ j = 2 by omega) with rfl | rfl | rfl <;> rfl) rfl rfl (by decide) dX5_init_18 (fun H hP hz hS hn => ?_)
  refine lv_dup hx hb dX5_init_21 rfl ?_
  obtain ⟨M22, e22, hf⟩ := zb hf
  obtain ⟨u22, r22, hf⟩ := zb hf
  refine y_call (mc := 8) (k := 0) hS hn r22 rfl rfl (fun hrm => va_runIN (As := []) (rest := [.ref (b + M14.1), .ref (b + p0)]) ⟨hx, hb, hml, hown, hts⟩ (k_X3_init l D cy b M18 M14.1  M22 e22) ⟨va_cnB 0 hts gX5_init_X3_init_n22 rfl rfl rfl (hK.2.1 _ (List.mem_of_getElem? (i := 1) rfl)) (hts (.initialized RX3) (List.mem_of_getElem? (i := 10) rfl)) (by decide +kernel) ⟨Nat.le_of_ble_eq_true rfl, Nat.le_of_ble_eq_true rfl⟩, rfl, (hts (.instanceMethod yX3_init) (List.mem_of_getElem? (i := 28) rfl))⟩ (zp_N _ hK hP hz) rfl rfl hl.1 rfl (lv_room (Nat.le_of_ble_eq_true rfl)) dX5_init_22 hrm) (fun H locs hP hz hS hn => ?_)
  obtain ⟨M25, e25, hf⟩ := zb hf
  refine y_put (ci := 5) (k := 1) (C := RX5) (T := TX5) (N := 9) hx hb hts hi_X5_init_5 tyX5 tyX5_ok nmX5 hown hK hP hz hS hn e25 rfl rfl (by decide) (by decide) (hts (.fieldLink RX5 23 "BoundaryAnalyzer$Rule" "body" "LBoundaryAnalyzer$Part;") (List.mem_of_getElem? (i := 11) rfl)) (Or.inr ⟨rfl, hin, rfl⟩) (tyX5_ok 1 (by decide)) rfl rfl dX5_init_25 (fun H locs hP hz hS hn => ?_)
  refine lv_aload_n hx hb dX5_init_28 rfl (lv_at hl 0 rfl) ?_
  obtain ⟨M29, e29, hf⟩ := zb hf
  refine y_no (mc := 8) (ci := 3) (C := RX3) (T := TX3) (N := 3) hx hb hts hi_X5_init_3 tyX3 tyX3_ok hown (hts (.classLink RX5 20 RX3) (List.mem_of_getElem? (i := 8) rfl)) (hts (.instantiable RX3 3) (List.mem_of_getElem? (i := 9) rfl)) (hts (.initialized RX3) (List.mem_of_getElem? (i := 10) rfl)) hK hP hz hS hn e29 rfl (by decide) (fun j hj => by rcases (show j = 0 ∨ j = 1 ∨ j = 2 by omega) with rfl | rfl | rfl <;> rfl) rfl rfl (by decide) dX5_init_29 (fun H hP hz hS hn => ?_)
  refine lv_dup hx hb dX5_init_32 rfl ?_
  obtain ⟨M33, e33, hf⟩ := zb hf
  obtain ⟨u33, r33, hf⟩ := zb hf
  refine y_call (mc := 8) (k := 0) hS hn r33 rfl rfl (fun hrm => va_runIN (As := []) (rest := [.ref (b + M25.1), .ref (b + p0)]) ⟨hx, hb, hml, hown, hts⟩ (k_X3_init l D cy b M29 M25.1  M33 e33) ⟨va_cnB 0 hts gX5_init_X3_init_n22 rfl rfl rfl (hK.2.1 _ (List.mem_of_getElem? (i := 1) rfl)) (hts (.initialized RX3) (List.mem_of_getElem? (i := 10) rfl)) (by decide +kernel) ⟨Nat.le_of_ble_eq_true rfl, Nat.le_of_ble_eq_true rfl⟩, rfl, (hts (.instanceMethod yX3_init) (List.mem_of_getElem? (i := 28) rfl))⟩ (zp_N _ hK hP hz) rfl rfl hl.1 rfl (lv_room (Nat.le_of_ble_eq_true rfl)) dX5_init_33 hrm) (fun H locs hP hz hS hn => ?_)
  obtain ⟨M36, e36, hf⟩ := zb hf
  refine y_put (ci := 5) (k := 2) (C := RX5) (T := TX5) (N := 9) hx hb hts hi_X5_init_5 tyX5 tyX5_ok nmX5 hown hK hP hz hS hn e36 rfl rfl (by decide) (by decide) (hts (.fieldLink RX5 27 "BoundaryAnalyzer$Rule" "ahead" "LBoundaryAnalyzer$Part;") (List.mem_of_getElem? (i := 12) rfl)) (Or.inr ⟨rfl, hin, rfl⟩) (tyX5_ok 2 (by decide)) rfl rfl dX5_init_36 (fun H locs hP hz hS hn => ?_)
  refine lv_aload_n hx hb dX5_init_39 rfl (lv_at hl 0 rfl) ?_
  refine lv_bipush (v := (24 : Int32)) hx hb dX5_init_40 (by decide) ?_
  obtain ⟨M42, e42, hf⟩ := zb hf
  refine y_na (mc := 8) (atype := .int) (ty := .int) (t0 := 1) hx hb rfl (hts (.arrayClass .int) (List.mem_of_getElem? (i := 13) rfl)) hK hP hz hS hn e42 rfl (Or.inr (Or.inl ⟨rfl, rfl⟩)) (zsL_max _) rfl rfl dX5_init_42 (fun H hP hz hS hn => ?_)
  obtain ⟨M44, e44, hf⟩ := zb hf
  refine y_put (ci := 5) (k := 3) (C := RX5) (T := TX5) (N := 9) hx hb hts hi_X5_init_5 tyX5 tyX5_ok nmX5 hown hK hP hz hS hn e44 rfl rfl (by decide) (by decide) (hts (.fieldLink RX5 30 "BoundaryAnalyzer$Rule" "followers" "[I") (List.mem_of_getElem? (i := 14) rfl)) (Or.inr ⟨rfl, hin, rfl⟩) (tyX5_ok 3 (by decide)) rfl rfl dX5_init_44 (fun H locs hP hz hS hn => ?_)
  refine lv_aload_n hx hb dX5_init_47 rfl (lv_at hl 0 rfl) ?_
  refine lv_bipush (v := (12 : Int32)) hx hb dX5_init_48 (by decide) ?_
  obtain ⟨M50, e50, hf⟩ := zb hf
  refine y_na (mc := 8) (atype := .int) (ty := .int) (t0 := 1) hx hb rfl (hts (.arrayClass .int) (List.mem_of_getElem? (i := 13) rfl)) hK hP hz hS hn e50 rfl (Or.inr (Or.inl ⟨rfl, rfl⟩)) (zsL_max _) rfl rfl dX5_init_50 (fun H hP hz hS hn => ?_)
  obtain ⟨M52, e52, hf⟩ := zb hf
  refine y_put (ci := 5) (k := 4) (C := RX5) (T := TX5) (N := 9) hx hb hts hi_X5_init_5 tyX5 tyX5_ok nmX5 hown hK hP hz hS hn e52 rfl rfl (by decide) (by decide) (hts (.fieldLink RX5 34 "BoundaryAnalyzer$Rule" "takers" "[I") (List.mem_of_getElem? (i := 15) rfl)) (Or.inr ⟨rfl, hin, rfl⟩) (tyX5_ok 4 (by decide)) rfl rfl dX5_init_52 (fun H locs hP hz hS hn => ?_)
  refine lv_aload_n hx hb dX5_init_55 rfl (lv_at hl 0 rfl) ?_
  refine lv_bipush (v := (24 : Int32)) hx hb dX5_init_56 (by decide) ?_
  obtain ⟨M58, e58, hf⟩ := zb hf
  refine y_na (mc := 8) (atype := .int) (ty := .int) (t0 := 1) hx hb rfl (hts (.arrayClass .int) (List.mem_of_getElem? (i := 13) rfl)) hK hP hz hS hn e58 rfl (Or.inr (Or.inl ⟨rfl, rfl⟩)) (zsL_max _) rfl rfl dX5_init_58 (fun H hP hz hS hn => ?_)
  obtain ⟨M60, e60, hf⟩ := zb hf
  refine y_put (ci := 5) (k := 5) (C := RX5) (T := TX5) (N := 9) hx hb hts hi_X5_init_5 tyX5 tyX5_ok nmX5 hown hK hP hz hS hn e60 rfl rfl (by decide) (by decide) (hts (.fieldLink RX5 37 "BoundaryAnalyzer$Rule" "waiting" "[I") (List.mem_of_getElem? (i := 16) rfl)) (Or.inl rfl) (tyX5_ok 5 (by decide)) rfl rfl dX5_init_60 (fun H locs hP hz hS hn => ?_)
  refine lv_aload_n hx hb dX5_init_63 rfl (lv_at hl 0 rfl) ?_
  refine lv_bipush (v := (24 : Int32)) hx hb dX5_init_64 (by decide) ?_
  obtain ⟨M66, e66, hf⟩ := zb hf
  refine y_na (mc := 8) (atype := .int) (ty := .int) (t0 := 1) hx hb rfl (hts (.arrayClass .int) (List.mem_of_getElem? (i := 13) rfl)) hK hP hz hS hn e66 rfl (Or.inr (Or.inl ⟨rfl, rfl⟩)) (zsL_max _) rfl rfl dX5_init_66 (fun H hP hz hS hn => ?_)
  obtain ⟨M68, e68, hf⟩ := zb hf
  refine y_put (ci := 5) (k := 6) (C := RX5) (T := TX5) (N := 9) hx hb hts hi_X5_init_5 tyX5 tyX5_ok nmX5 hown hK hP hz hS hn e68 rfl rfl (by decide) (by decide) (hts (.fieldLink RX5 40 "BoundaryAnalyzer$Rule" "waitingThen" "[I") (List.mem_of_getElem? (i := 17) rfl)) (Or.inl rfl) (tyX5_ok 6 (by decide)) rfl rfl dX5_init_68 (fun H locs hP hz hS hn => ?_)
  exact y_ret (mc := 8) hx hb hr hlocks hf hP hz hS hn dX5_init_71
theorem hi_X5_isSet_4 : ∀ w ∈ wsX40, w ∈ wsX5_isSet := fun _ h => List.mem_cons_of_mem _ (List.mem_append_right _ h)
theorem hi_X5_isSet_5 : ∀ w ∈ wsX50, w ∈ wsX5_isSet := fun _ h => List.mem_cons_of_mem _ (List.mem_append_left _ (List.mem_append_right _ h))
set_option maxHeartbeats 4000000 in
set_option maxRecDepth 100000 in
theorem k_X5_isSet (l : Launch) (D : va_G) (cy : Nat → ClassId) (b : Nat) (M0 : Mem) (p0 : Nat) (rr : Int32 × Mem) (hf : fX5_isSet M0 p0 = some rr) : Met l yX5_isSet wsX5_isSet ({ frames := 0, cells := 0, slots := 0, locals := 0 } : Room) (zPc D cy b M0 [.ref (b + p0)]) (zQi D cy b rr) 0 0 (zA b) := by
  refine Met.ofW (cc := cX5_isSet) (maxL := 1) (ret := (some .boolean)) (by decide) rfl ?_
  intro p e s m args below meth c s₁ B hml hv
  obtain ⟨rfl, hP, hK⟩ := hv
  have hx := B.exec
  have hb := B.bytes
  have hr := B.returns
  have hts := atoms_spec (ws := wsX5_isSet) B.pre
  have hown : s.vm.findClass RX5 = some m.cls := findClass_of_methodNamed B.named
  have hlocks := B.notSynchronized
  have hS : va_S (zA b) s.heap s.heap [] := va_S.rf
  have hl := lv_entry ([.ref (b + p0)]) (n := 1) (Nat.le_of_ble_eq_true rfl)
  rw [lg_entry_eq]
  generalize (lg_sl ([.ref (b + p0)]) ++ List.replicate (1 - (lg_sl ([.ref (b + p0)])).length) Slot.unset).toArray = ls at hl ⊢
  have hl : lv_has ls 1 [(0, .ref (b + p0))] := hl
  unfold fX5_isSet at hf
  refine lv_aload_n hx hb dX5_isSet_0 rfl (lv_at hl 0 rfl) ?_
  obtain ⟨v1, e1, hf⟩ := zb hf
  refine zr_gr (ci := 5) (k := 0) (C := RX5) (T := TX5) (N := 9) hx hb hts hi_X5_isSet_5 hown hK hP e1 rfl rfl (by decide) (by decide) (hts (.fieldLink RX5 14 "BoundaryAnalyzer$Rule" "signs" "LBoundaryAnalyzer$Row;") (List.mem_of_getElem? (i := 1) rfl)) dX5_isSet_1 ?_
  obtain ⟨v4, e4, hf⟩ := zb hf
  refine zr_gi (ci := 4) (k := 1) (C := RX4) (T := TX4) (N := 2) hx hb hts hi_X5_isSet_4 hown hK hP e4 rfl rfl (by decide) (by decide) (hts (.fieldLink RX5 43 "BoundaryAnalyzer$Row" "size" "I") (List.mem_of_getElem? (i := 2) rfl)) dX5_isSet_4 ?_
  refine lv_if_le (tgt := 14) hx hb dX5_isSet_7 (by decide) (fun c7 => ?_) (fun c7 => ?_)
  · have hf := (if_pos c7).symm.trans hf
    refine lv_iconst (v := (0 : Int32)) hx hb dX5_isSet_14 (by decide) ?_
    exact zret_z hx hb hr (Or.inl rfl) hlocks hf hP hS dX5_isSet_15
  · have hf := (if_neg c7).symm.trans hf
    refine lv_iconst (v := (1 : Int32)) hx hb dX5_isSet_10 (by decide) ?_
    refine lv_goto (tgt := 15) hx hb dX5_isSet_11 (by decide) ?_
    exact zret_z hx hb hr (Or.inl rfl) hlocks hf hP hS dX5_isSet_15
set_option maxHeartbeats 4000000 in
set_option maxRecDepth 100000 in
theorem k_X8_isClass (l : Launch) (p0 : Int32) (rr : Int32) (hf : fX8_isClass p0 = some rr) : Met l yX8_isClass wsX8_isClass ({ frames := 0, cells := 0, slots := 0, locals := 0 } : Room) (zPp [.int p0]) (zQp rr) 0 0 zNo := by
  refine Met.ofW (cc := cX8_isClass) (maxL := 1) (ret := (some .boolean)) (by decide) rfl ?_
  intro p e s m args below meth c s₁ B hml hv
  obtain ⟨rfl, -⟩ := hv
  have hx := B.exec
  have hb := B.bytes
  have hr := B.returns
  have hts := atoms_spec (ws := wsX8_isClass) B.pre
  have hown : s.vm.findClass RX8 = some m.cls := findClass_of_methodNamed B.named
  have hlocks := B.notSynchronized
  have hl := lv_entry ([.int p0]) (n := 1) (Nat.le_of_ble_eq_true rfl)
  rw [lg_entry_eq]
  generalize (lg_sl ([.int p0]) ++ List.replicate (1 - (lg_sl ([.int p0])).length) Slot.unset).toArray = ls at hl ⊢
  have hl : lv_has ls 1 [(0, .int p0)] := hl
  unfold fX8_isClass at hf
  refine lv_iload_n hx hb dX8_isClass_0 rfl (lv_at hl 0 rfl) ?_
  refine lv_if_lt (tgt := 14) hx hb dX8_isClass_1 (by decide) (fun c1 => ?_) (fun c1 => ?_)
  · have hf := (if_pos c1).symm.trans hf
    refine lv_iconst (v := (0 : Int32)) hx hb dX8_isClass_14 (by decide) ?_
    exact zret_pz hx hb hr (Or.inl rfl) hlocks hf dX8_isClass_15
  · have hf := (if_neg c1).symm.trans hf
    refine lv_iload_n hx hb dX8_isClass_4 rfl (lv_at hl 0 rfl) ?_
    refine lv_bipush (v := (12 : Int32)) hx hb dX8_isClass_5 (by decide) ?_
    refine lv_icmp_ge (tgt := 14) hx hb dX8_isClass_7 (by decide) (fun c7 => ?_) (fun c7 => ?_)
    · have hf := (if_pos c7).symm.trans hf
      refine lv_iconst (v := (0 : Int32)) hx hb dX8_isClass_14 (by decide) ?_
      exact zret_pz hx hb hr (Or.inl rfl) hlocks hf dX8_isClass_15
    · have hf := (if_neg c7).symm.trans hf
      refine lv_iconst (v := (1 : Int32)) hx hb dX8_isClass_10 (by decide) ?_
      refine lv_goto (tgt := 15) hx hb dX8_isClass_11 (by decide) ?_
      exact zret_pz hx hb hr (Or.inl rfl) hlocks hf dX8_isClass_15
theorem hi_X5_takersOf_5 : ∀ w ∈ wsX50, w ∈ wsX5_takersOf := fun _ h => List.mem_cons_of_mem _ (List.mem_append_right _ h)
set_option maxHeartbeats 4000000 in
set_option maxRecDepth 100000 in
theorem k_X5_takersOf (l : Launch) (D : va_G) (cy : Nat → ClassId) (b : Nat) (M0 : Mem) (p0 : Nat) (p1 : Int32) (rr : Int32 × Mem) (hf : fX5_takersOf M0 p0 p1 = some rr) : Met l yX5_takersOf wsX5_takersOf ({ frames := 1, cells := 0, slots := 0, locals := 20 } : Room) (zPc D cy b M0 [.ref (b + p0), .int p1]) (zQi D cy b rr) 0 0 (zA b) := by
  refine Met.ofW (cc := cX5_takersOf) (maxL := 2) (ret := (some .int)) (by decide) rfl ?_
  intro p e s m args below meth c s₁ B hml hv
  obtain ⟨rfl, hP, hK⟩ := hv
  have hx := B.exec
  have hb := B.bytes
  have hr := B.returns
  have hts := atoms_spec (ws := wsX5_takersOf) B.pre
  have hown : s.vm.findClass RX5 = some m.cls := findClass_of_methodNamed B.named
  have hlocks := B.notSynchronized
  have hS : va_S (zA b) s.heap s.heap [] := va_S.rf
  have hl := lv_entry ([.ref (b + p0), .int p1]) (n := 2) (Nat.le_of_ble_eq_true rfl)
  rw [lg_entry_eq]
  generalize (lg_sl ([.ref (b + p0), .int p1]) ++ List.replicate (2 - (lg_sl ([.ref (b + p0), .int p1])).length) Slot.unset).toArray = ls at hl ⊢
  have hl : lv_has ls 2 [(0, .ref (b + p0)), (1, .int p1)] := hl
  unfold fX5_takersOf at hf
  refine lv_iload_n hx hb dX5_takersOf_0 rfl (lv_at hl 1 rfl) ?_
  obtain ⟨v1, e1, hf⟩ := zb hf
  refine zc_p (va_runSN (As := [.int p1]) (rest := []) ⟨hx, hb, hml, hown, hts⟩ (k_X8_isClass l p1 v1 e1) ⟨va_cnB 1 hts gX5_takersOf_X8_isClass_n47 rfl rfl rfl (hK.2.1 _ (List.mem_of_getElem? (i := 4) rfl)) (hts (.initialized RX8) (List.mem_of_getElem? (i := 3) rfl)) (by decide +kernel) ⟨Nat.le_of_ble_eq_true rfl, Nat.le_of_ble_eq_true rfl⟩, (hts (.static yX8_isClass) (List.mem_of_getElem? (i := 2) rfl)), trivial⟩ (zp_p _) rfl rfl hl.1 rfl (lv_room (Nat.le_of_ble_eq_true rfl)) dX5_takersOf_1 ⟨Nat.zero_le _, Nat.zero_le _⟩) ?_
  refine lv_if_eq (tgt := 16) hx hb dX5_takersOf_4 (by decide) (fun c4 => ?_) (fun c4 => ?_)
  · have hf := (if_pos c4).symm.trans hf
    refine lv_iconst (v := (0 : Int32)) hx hb dX5_takersOf_16 (by decide) ?_
    exact zret_i hx hb hr hlocks hf hP hS dX5_takersOf_17
  · have hf := (if_neg c4).symm.trans hf
    refine lv_aload_n hx hb dX5_takersOf_7 rfl (lv_at hl 0 rfl) ?_
    obtain ⟨v8, e8, hf⟩ := zb hf
    refine zr_gr (ci := 5) (k := 4) (C := RX5) (T := TX5) (N := 9) hx hb hts hi_X5_takersOf_5 hown hK hP e8 rfl rfl (by decide) (by decide) (hts (.fieldLink RX5 34 "BoundaryAnalyzer$Rule" "takers" "[I") (List.mem_of_getElem? (i := 1) rfl)) dX5_takersOf_8 ?_
    refine lv_iload_n hx hb dX5_takersOf_11 rfl (lv_at hl 1 rfl) ?_
    obtain ⟨v12, e12, hf⟩ := zb hf
    refine zr_ai hx hb hK hP e12 dX5_takersOf_12 ?_
    refine lv_goto (tgt := 17) hx hb dX5_takersOf_13 (by decide) ?_
    exact zret_i hx hb hr hlocks hf hP hS dX5_takersOf_17
