theorem hi_X6_beginLevel_3 : ∀ w ∈ wsX30, w ∈ wsX6_beginLevel := fun _ h => List.mem_cons_of_mem _ (List.mem_append_right _ h)
theorem hi_X6_beginLevel_6 : ∀ w ∈ wsX60, w ∈ wsX6_beginLevel := fun _ h => List.mem_cons_of_mem _ (List.mem_append_left _ (List.mem_append_right _ h))
set_option maxHeartbeats 4000000 in
set_option maxRecDepth 100000 in
theorem k_X6_beginLevel (l : Launch) (D : va_G) (cy : Nat → ClassId) (b : Nat) (M0 : Mem) (h0 : Nat) (rr : Mem) (hf : fX6_beginLevel M0 h0 = some rr) : Met l yX6_beginLevel wsX6_beginLevel ({ frames := 2, cells := 0, slots := 0, locals := 43 } : Room) (zPc D cy b M0 [.ref (b + h0)]) (zQv D cy b rr) 0 0 (zA b) := by
  refine Met.ofW (cc := cX6_beginLevel) (maxL := 1) (ret := none) (by decide) rfl ?_
  intro p e s m args below meth c s₁ B hml hv
  obtain ⟨rfl, hP, hK⟩ := hv
  have hx := B.exec
  have hb := B.bytes
  have hr := B.returns
  have hts := atoms_spec (ws := wsX6_beginLevel) B.pre
  have hown : s.vm.findClass RX6 = some m.cls := findClass_of_methodNamed B.named
  have hlocks := B.notSynchronized
  have hS : va_S (zA b) s.heap s.heap [] := va_S.rf
  have hl := lv_entry ([.ref (b + h0)]) (n := 1) (Nat.le_of_ble_eq_true rfl)
  rw [lg_entry_eq]
  generalize (lg_sl ([.ref (b + h0)]) ++ List.replicate (1 - (lg_sl ([.ref (b + h0)])).length) Slot.unset).toArray = ls at hl ⊢
  have hl : lv_has ls 1 [(0, .ref (b + h0))] := hl
  unfold fX6_beginLevel at hf
  refine lv_aload_n hx hb dX6_beginLevel_0 rfl (lv_at hl 0 rfl) ?_
  obtain ⟨v1, e1, hf⟩ := zb hf
  refine zr_gr (ci := 6) (k := 0) (C := RX6) (T := TX6) (N := 4) hx hb hts hi_X6_beginLevel_6 hown hK hP e1 rfl rfl (by decide) (by decide) (hts (.fieldLink RX6 11 "BoundaryAnalyzer$RuleBuilder" "alternatives" "[LBoundaryAnalyzer$Part;") (List.mem_of_getElem? (i := 1) rfl)) dX6_beginLevel_1 ?_
  refine lv_aload_n hx hb dX6_beginLevel_4 rfl (lv_at hl 0 rfl) ?_
  obtain ⟨v5, e5, hf⟩ := zb hf
  refine zr_gi (ci := 6) (k := 3) (C := RX6) (T := TX6) (N := 4) hx hb hts hi_X6_beginLevel_6 hown hK hP e5 rfl rfl (by decide) (by decide) (hts (.fieldLink RX6 49 "BoundaryAnalyzer$RuleBuilder" "depth" "I") (List.mem_of_getElem? (i := 2) rfl)) dX6_beginLevel_5 ?_
  obtain ⟨v8, e8, hf⟩ := zb hf
  refine zr_aa (t0 := 5) hx hb hK hP e8 (by decide) rfl dX6_beginLevel_8 ?_
  obtain ⟨u9, t9, hf⟩ := zb hf
  obtain ⟨M9, e9, hf⟩ := zb hf
  refine zc_v hS (va_runV (As := []) (rest := []) ⟨hx, hb, hml, hown, hts⟩ (k_X3_becomeNothing l D cy b M0 v8  M9 e9) (cwV 0 hts gX6_beginLevel_X3_becomeNothing rfl rfl rfl (by decide +kernel) ⟨Nat.le_of_ble_eq_true rfl, Nat.le_of_ble_eq_true rfl⟩) (zp_V _ hK hP t9 (T := TX3) (N := 3) rfl (by decide)) rfl rfl hl.1 rfl (lv_room (Nat.le_of_ble_eq_true rfl)) dX6_beginLevel_9 ⟨Nat.zero_le _, Nat.zero_le _⟩) (fun H locs hP hS => ?_)
  refine lv_aload_n hx hb dX6_beginLevel_12 rfl (lv_at hl 0 rfl) ?_
  obtain ⟨v13, e13, hf⟩ := zb hf
  refine zr_gr (ci := 6) (k := 1) (C := RX6) (T := TX6) (N := 4) hx hb hts hi_X6_beginLevel_6 hown hK hP e13 rfl rfl (by decide) (by decide) (hts (.fieldLink RX6 17 "BoundaryAnalyzer$RuleBuilder" "sequences" "[LBoundaryAnalyzer$Part;") (List.mem_of_getElem? (i := 3) rfl)) dX6_beginLevel_13 ?_
  refine lv_aload_n hx hb dX6_beginLevel_16 rfl (lv_at hl 0 rfl) ?_
  obtain ⟨v17, e17, hf⟩ := zb hf
  refine zr_gi (ci := 6) (k := 3) (C := RX6) (T := TX6) (N := 4) hx hb hts hi_X6_beginLevel_6 hown hK hP e17 rfl rfl (by decide) (by decide) (hts (.fieldLink RX6 49 "BoundaryAnalyzer$RuleBuilder" "depth" "I") (List.mem_of_getElem? (i := 2) rfl)) dX6_beginLevel_17 ?_
  obtain ⟨v20, e20, hf⟩ := zb hf
  refine zr_aa (t0 := 5) hx hb hK hP e20 (by decide) rfl dX6_beginLevel_20 ?_
  obtain ⟨u21, t21, hf⟩ := zb hf
  obtain ⟨M21, e21, hf⟩ := zb hf
  refine zc_v hS (va_runV (As := []) (rest := []) ⟨hx, hb, hml, hown, hts⟩ (k_X3_becomeEmpty l D cy b M9 v20  M21 e21) (cwV 0 hts gX6_beginLevel_X3_becomeEmpty rfl rfl rfl (by decide +kernel) ⟨Nat.le_of_ble_eq_true rfl, Nat.le_of_ble_eq_true rfl⟩) (zp_V _ hK hP t21 (T := TX3) (N := 3) rfl (by decide)) rfl rfl hl.1 rfl (lv_room (Nat.le_of_ble_eq_true rfl)) dX6_beginLevel_21 ⟨Nat.zero_le _, Nat.zero_le _⟩) (fun H locs hP hS => ?_)
  exact zret_v hx hb hr hlocks hf hP hS dX6_beginLevel_24
theorem hi_X6_goDeeper_6 : ∀ w ∈ wsX60, w ∈ wsX6_goDeeper := fun _ h => List.mem_cons_of_mem _ (List.mem_append_left _ (List.mem_append_right _ h))
set_option maxHeartbeats 4000000 in
set_option maxRecDepth 100000 in
theorem k_X6_goDeeper (l : Launch) (D : va_G) (cy : Nat → ClassId) (b : Nat) (M0 : Mem) (h0 : Nat) (rr : Mem) (hf : fX6_goDeeper M0 h0 = some rr) : Met l yX6_goDeeper wsX6_goDeeper ({ frames := 3, cells := 0, slots := 0, locals := 63 } : Room) (zPc D cy b M0 [.ref (b + h0)]) (zQv D cy b rr) 0 0 (zA b) := by
  refine Met.ofW (cc := cX6_goDeeper) (maxL := 1) (ret := none) (by decide) rfl ?_
  intro p e s m args below meth c s₁ B hml hv
  obtain ⟨rfl, hP, hK⟩ := hv
  have hx := B.exec
  have hb := B.bytes
  have hr := B.returns
  have hts := atoms_spec (ws := wsX6_goDeeper) B.pre
  have hown : s.vm.findClass RX6 = some m.cls := findClass_of_methodNamed B.named
  have hlocks := B.notSynchronized
  have hS : va_S (zA b) s.heap s.heap [] := va_S.rf
  have hl := lv_entry ([.ref (b + h0)]) (n := 1) (Nat.le_of_ble_eq_true rfl)
  rw [lg_entry_eq]
  generalize (lg_sl ([.ref (b + h0)]) ++ List.replicate (1 - (lg_sl ([.ref (b + h0)])).length) Slot.unset).toArray = ls at hl ⊢
  have hl : lv_has ls 1 [(0, .ref (b + h0))] := hl
  unfold fX6_goDeeper at hf
  refine lv_aload_n hx hb dX6_goDeeper_0 rfl (lv_at hl 0 rfl) ?_
  obtain ⟨v1, e1, hf⟩ := zb hf
  refine zr_gi (ci := 6) (k := 3) (C := RX6) (T := TX6) (N := 4) hx hb hts hi_X6_goDeeper_6 hown hK hP e1 rfl rfl (by decide) (by decide) (hts (.fieldLink RX6 49 "BoundaryAnalyzer$RuleBuilder" "depth" "I") (List.mem_of_getElem? (i := 1) rfl)) dX6_goDeeper_1 ?_
  refine lv_iconst (v := (4 : Int32)) hx hb dX6_goDeeper_4 (by decide) ?_
  refine lv_icmp_ge (tgt := 22) hx hb dX6_goDeeper_5 (by decide) (fun c5 => ?_) (fun c5 => ?_)
  · have hf := (if_pos c5).symm.trans hf
    exact zret_v hx hb hr hlocks hf hP hS dX6_goDeeper_22
  · have hf := (if_neg c5).symm.trans hf
    refine lv_aload_n hx hb dX6_goDeeper_8 rfl (lv_at hl 0 rfl) ?_
    refine lv_dup hx hb dX6_goDeeper_9 rfl ?_
    obtain ⟨v10, e10, hf⟩ := zb hf
    refine zr_gi (ci := 6) (k := 3) (C := RX6) (T := TX6) (N := 4) hx hb hts hi_X6_goDeeper_6 hown hK hP e10 rfl rfl (by decide) (by decide) (hts (.fieldLink RX6 49 "BoundaryAnalyzer$RuleBuilder" "depth" "I") (List.mem_of_getElem? (i := 1) rfl)) dX6_goDeeper_10 ?_
    refine lv_iconst (v := (1 : Int32)) hx hb dX6_goDeeper_13 (by decide) ?_
    refine lv_iadd hx hb dX6_goDeeper_14 ?_
    obtain ⟨M15, e15, hf⟩ := zb hf
    refine zr_pi (ci := 6) (k := 3) (C := RX6) (T := TX6) (N := 4) hx hb hts hi_X6_goDeeper_6 tyX6 tyX6_ok nmX6 hown hK hP hS e15 rfl rfl (by decide) (by decide) (hts (.fieldLink RX6 49 "BoundaryAnalyzer$RuleBuilder" "depth" "I") (List.mem_of_getElem? (i := 1) rfl)) rfl (tyX6_ok 3 (by decide)) dX6_goDeeper_15 (fun H locs hP _ hS => ?_)
    refine lv_aload_n hx hb dX6_goDeeper_18 rfl (lv_at hl 0 rfl) ?_
    obtain ⟨u19, t19, hf⟩ := zb hf
    obtain ⟨M19, e19, hf⟩ := zb hf
    refine zc_v hS (va_runV (As := []) (rest := []) ⟨hx, hb, hml, hown, hts⟩ (k_X6_beginLevel l D cy b M15 h0  M19 e19) (cwV 0 hts gX6_goDeeper_X6_beginLevel rfl rfl rfl (by decide +kernel) ⟨Nat.le_of_ble_eq_true rfl, Nat.le_of_ble_eq_true rfl⟩) (zp_V _ hK hP t19 (T := TX6) (N := 4) rfl (by decide)) rfl rfl hl.1 rfl (lv_room (Nat.le_of_ble_eq_true rfl)) dX6_goDeeper_19 ⟨Nat.zero_le _, Nat.zero_le _⟩) (fun H locs hP hS => ?_)
    exact zret_v hx hb hr hlocks hf hP hS dX6_goDeeper_22
theorem hi_X6_endSequence_3 : ∀ w ∈ wsX30, w ∈ wsX6_endSequence := fun _ h => List.mem_cons_of_mem _ (List.mem_append_right _ h)
theorem hi_X6_endSequence_6 : ∀ w ∈ wsX60, w ∈ wsX6_endSequence := fun _ h => List.mem_cons_of_mem _ (List.mem_append_left _ (List.mem_append_right _ h))
set_option maxHeartbeats 4000000 in
set_option maxRecDepth 100000 in
theorem k_X6_endSequence (l : Launch) (D : va_G) (cy : Nat → ClassId) (b : Nat) (M0 : Mem) (h0 : Nat) (rr : Mem) (hf : fX6_endSequence M0 h0 = some rr) : Met l yX6_endSequence wsX6_endSequence ({ frames := 2, cells := 0, slots := 0, locals := 44 } : Room) (zPc D cy b M0 [.ref (b + h0)]) (zQv D cy b rr) 0 0 (zA b) := by
  refine Met.ofW (cc := cX6_endSequence) (maxL := 1) (ret := none) (by decide) rfl ?_
  intro p e s m args below meth c s₁ B hml hv
  obtain ⟨rfl, hP, hK⟩ := hv
  have hx := B.exec
  have hb := B.bytes
  have hr := B.returns
  have hts := atoms_spec (ws := wsX6_endSequence) B.pre
  have hown : s.vm.findClass RX6 = some m.cls := findClass_of_methodNamed B.named
  have hlocks := B.notSynchronized
  have hS : va_S (zA b) s.heap s.heap [] := va_S.rf
  have hl := lv_entry ([.ref (b + h0)]) (n := 1) (Nat.le_of_ble_eq_true rfl)
  rw [lg_entry_eq]
  generalize (lg_sl ([.ref (b + h0)]) ++ List.replicate (1 - (lg_sl ([.ref (b + h0)])).length) Slot.unset).toArray = ls at hl ⊢
  have hl : lv_has ls 1 [(0, .ref (b + h0))] := hl
  unfold fX6_endSequence at hf
  refine lv_aload_n hx hb dX6_endSequence_0 rfl (lv_at hl 0 rfl) ?_
  obtain ⟨v1, e1, hf⟩ := zb hf
  refine zr_gr (ci := 6) (k := 0) (C := RX6) (T := TX6) (N := 4) hx hb hts hi_X6_endSequence_6 hown hK hP e1 rfl rfl (by decide) (by decide) (hts (.fieldLink RX6 11 "BoundaryAnalyzer$RuleBuilder" "alternatives" "[LBoundaryAnalyzer$Part;") (List.mem_of_getElem? (i := 1) rfl)) dX6_endSequence_1 ?_
  refine lv_aload_n hx hb dX6_endSequence_4 rfl (lv_at hl 0 rfl) ?_
  obtain ⟨v5, e5, hf⟩ := zb hf
  refine zr_gi (ci := 6) (k := 3) (C := RX6) (T := TX6) (N := 4) hx hb hts hi_X6_endSequence_6 hown hK hP e5 rfl rfl (by decide) (by decide) (hts (.fieldLink RX6 49 "BoundaryAnalyzer$RuleBuilder" "depth" "I") (List.mem_of_getElem? (i := 2) rfl)) dX6_endSequence_5 ?_
  obtain ⟨v8, e8, hf⟩ := zb hf
  refine zr_aa (t0 := 5) hx hb hK hP e8 (by decide) rfl dX6_endSequence_8 ?_
  refine lv_aload_n hx hb dX6_endSequence_9 rfl (lv_at hl 0 rfl) ?_
  obtain ⟨v10, e10, hf⟩ := zb hf
  refine zr_gr (ci := 6) (k := 1) (C := RX6) (T := TX6) (N := 4) hx hb hts hi_X6_endSequence_6 hown hK hP e10 rfl rfl (by decide) (by decide) (hts (.fieldLink RX6 17 "BoundaryAnalyzer$RuleBuilder" "sequences" "[LBoundaryAnalyzer$Part;") (List.mem_of_getElem? (i := 3) rfl)) dX6_endSequence_10 ?_
  refine lv_aload_n hx hb dX6_endSequence_13 rfl (lv_at hl 0 rfl) ?_
  obtain ⟨v14, e14, hf⟩ := zb hf
  refine zr_gi (ci := 6) (k := 3) (C := RX6) (T := TX6) (N := 4) hx hb hts hi_X6_endSequence_6 hown hK hP e14 rfl rfl (by decide) (by decide) (hts (.fieldLink RX6 49 "BoundaryAnalyzer$RuleBuilder" "depth" "I") (List.mem_of_getElem? (i := 2) rfl)) dX6_endSequence_14 ?_
  obtain ⟨v17, e17, hf⟩ := zb hf
  refine zr_aa (t0 := 5) hx hb hK hP e17 (by decide) rfl dX6_endSequence_17 ?_
  obtain ⟨u18, t18, hf⟩ := zb hf
  obtain ⟨M18, e18, hf⟩ := zb hf
  refine zc_v hS (va_runV (As := [.ref (b + v17)]) (rest := []) ⟨hx, hb, hml, hown, hts⟩ (k_X3_orElse l D cy b M0 v8 v17 M18 e18) (cwV 1 hts gX6_endSequence_X3_orElse rfl rfl rfl (by decide +kernel) ⟨Nat.le_of_ble_eq_true rfl, Nat.le_of_ble_eq_true rfl⟩) (zp_V _ hK hP t18 (T := TX3) (N := 3) rfl (by decide)) rfl rfl hl.1 rfl (lv_room (Nat.le_of_ble_eq_true rfl)) dX6_endSequence_18 ⟨Nat.zero_le _, Nat.zero_le _⟩) (fun H locs hP hS => ?_)
  refine lv_aload_n hx hb dX6_endSequence_21 rfl (lv_at hl 0 rfl) ?_
  obtain ⟨v22, e22, hf⟩ := zb hf
  refine zr_gr (ci := 6) (k := 1) (C := RX6) (T := TX6) (N := 4) hx hb hts hi_X6_endSequence_6 hown hK hP e22 rfl rfl (by decide) (by decide) (hts (.fieldLink RX6 17 "BoundaryAnalyzer$RuleBuilder" "sequences" "[LBoundaryAnalyzer$Part;") (List.mem_of_getElem? (i := 3) rfl)) dX6_endSequence_22 ?_
  refine lv_aload_n hx hb dX6_endSequence_25 rfl (lv_at hl 0 rfl) ?_
  obtain ⟨v26, e26, hf⟩ := zb hf
  refine zr_gi (ci := 6) (k := 3) (C := RX6) (T := TX6) (N := 4) hx hb hts hi_X6_endSequence_6 hown hK hP e26 rfl rfl (by decide) (by decide) (hts (.fieldLink RX6 49 "BoundaryAnalyzer$RuleBuilder" "depth" "I") (List.mem_of_getElem? (i := 2) rfl)) dX6_endSequence_26 ?_
  obtain ⟨v29, e29, hf⟩ := zb hf
  refine zr_aa (t0 := 5) hx hb hK hP e29 (by decide) rfl dX6_endSequence_29 ?_
  obtain ⟨u30, t30, hf⟩ := zb hf
  obtain ⟨M30, e30, hf⟩ := zb hf
  refine zc_v hS (va_runV (As := []) (rest := []) ⟨hx, hb, hml, hown, hts⟩ (k_X3_becomeEmpty l D cy b M18 v29  M30 e30) (cwV 0 hts gX6_endSequence_X3_becomeEmpty rfl rfl rfl (by decide +kernel) ⟨Nat.le_of_ble_eq_true rfl, Nat.le_of_ble_eq_true rfl⟩) (zp_V _ hK hP t30 (T := TX3) (N := 3) rfl (by decide)) rfl rfl hl.1 rfl (lv_room (Nat.le_of_ble_eq_true rfl)) dX6_endSequence_30 ⟨Nat.zero_le _, Nat.zero_le _⟩) (fun H locs hP hS => ?_)
  exact zret_v hx hb hr hlocks hf hP hS dX6_endSequence_33
theorem hi_X6_goBack_3 : ∀ w ∈ wsX30, w ∈ wsX6_goBack := fun _ h => List.mem_cons_of_mem _ (List.mem_append_right _ h)
theorem hi_X6_goBack_6 : ∀ w ∈ wsX60, w ∈ wsX6_goBack := fun _ h => List.mem_cons_of_mem _ (List.mem_append_left _ (List.mem_append_right _ h))
set_option maxHeartbeats 4000000 in
set_option maxRecDepth 100000 in
theorem k_X6_goBack (l : Launch) (D : va_G) (cy : Nat → ClassId) (b : Nat) (M0 : Mem) (h0 : Nat) (rr : Mem) (hf : fX6_goBack M0 h0 = some rr) : Met l yX6_goBack wsX6_goBack ({ frames := 3, cells := 0, slots := 0, locals := 64 } : Room) (zPc D cy b M0 [.ref (b + h0)]) (zQv D cy b rr) 0 0 (zA b) := by
  refine Met.ofW (cc := cX6_goBack) (maxL := 2) (ret := none) (by decide) rfl ?_
  intro p e s m args below meth c s₁ B hml hv
  obtain ⟨rfl, hP, hK⟩ := hv
  have hx := B.exec
  have hb := B.bytes
  have hr := B.returns
  have hts := atoms_spec (ws := wsX6_goBack) B.pre
  have hown : s.vm.findClass RX6 = some m.cls := findClass_of_methodNamed B.named
  have hlocks := B.notSynchronized
  have hS : va_S (zA b) s.heap s.heap [] := va_S.rf
  have hl := lv_entry ([.ref (b + h0)]) (n := 2) (Nat.le_of_ble_eq_true rfl)
  rw [lg_entry_eq]
  generalize (lg_sl ([.ref (b + h0)]) ++ List.replicate (2 - (lg_sl ([.ref (b + h0)])).length) Slot.unset).toArray = ls at hl ⊢
  have hl : lv_has ls 2 [(0, .ref (b + h0))] := hl
  unfold fX6_goBack at hf
  refine lv_aload_n hx hb dX6_goBack_0 rfl (lv_at hl 0 rfl) ?_
  obtain ⟨v1, e1, hf⟩ := zb hf
  refine zr_gi (ci := 6) (k := 3) (C := RX6) (T := TX6) (N := 4) hx hb hts hi_X6_goBack_6 hown hK hP e1 rfl rfl (by decide) (by decide) (hts (.fieldLink RX6 49 "BoundaryAnalyzer$RuleBuilder" "depth" "I") (List.mem_of_getElem? (i := 1) rfl)) dX6_goBack_1 ?_
  refine lv_if_le (tgt := 50) hx hb dX6_goBack_4 (by decide) (fun c4 => ?_) (fun c4 => ?_)
  · have hf := (if_pos c4).symm.trans hf
    exact zret_v hx hb hr hlocks hf hP hS dX6_goBack_50
  · have hf := (if_neg c4).symm.trans hf
    refine lv_aload_n hx hb dX6_goBack_7 rfl (lv_at hl 0 rfl) ?_
    obtain ⟨u8, t8, hf⟩ := zb hf
    obtain ⟨M8, e8, hf⟩ := zb hf
    refine zc_v hS (va_runV (As := []) (rest := []) ⟨hx, hb, hml, hown, hts⟩ (k_X6_endSequence l D cy b M0 h0  M8 e8) (cwV 0 hts gX6_goBack_X6_endSequence rfl rfl rfl (by decide +kernel) ⟨Nat.le_of_ble_eq_true rfl, Nat.le_of_ble_eq_true rfl⟩) (zp_V _ hK hP t8 (T := TX6) (N := 4) rfl (by decide)) rfl rfl hl.1 rfl (lv_room (Nat.le_of_ble_eq_true rfl)) dX6_goBack_8 ⟨Nat.zero_le _, Nat.zero_le _⟩) (fun H locs hP hS => ?_)
    refine lv_aload_n hx hb dX6_goBack_11 rfl (lv_at hl 0 rfl) ?_
    obtain ⟨v12, e12, hf⟩ := zb hf
    refine zr_gr (ci := 6) (k := 0) (C := RX6) (T := TX6) (N := 4) hx hb hts hi_X6_goBack_6 hown hK hP e12 rfl rfl (by decide) (by decide) (hts (.fieldLink RX6 11 "BoundaryAnalyzer$RuleBuilder" "alternatives" "[LBoundaryAnalyzer$Part;") (List.mem_of_getElem? (i := 2) rfl)) dX6_goBack_12 ?_
    refine lv_aload_n hx hb dX6_goBack_15 rfl (lv_at hl 0 rfl) ?_
    obtain ⟨v16, e16, hf⟩ := zb hf
    refine zr_gi (ci := 6) (k := 3) (C := RX6) (T := TX6) (N := 4) hx hb hts hi_X6_goBack_6 hown hK hP e16 rfl rfl (by decide) (by decide) (hts (.fieldLink RX6 49 "BoundaryAnalyzer$RuleBuilder" "depth" "I") (List.mem_of_getElem? (i := 1) rfl)) dX6_goBack_16 ?_
    obtain ⟨v19, e19, hf⟩ := zb hf
    refine zr_aa (t0 := 5) hx hb hK hP e19 (by decide) rfl dX6_goBack_19 ?_
    refine lv_astore_n (lv' := [(1, .ref (b + v19)), (0, .ref (b + h0))]) hx hb dX6_goBack_20 rfl hl (by decide) rfl (fun ls hl => ?_)
    refine lv_aload_n hx hb dX6_goBack_21 rfl (lv_at hl 1 rfl) ?_
    obtain ⟨v22, e22, hf⟩ := zb hf
    refine zr_gr (ci := 6) (k := 2) (C := RX6) (T := TX6) (N := 4) hx hb hts hi_X6_goBack_6 hown hK hP e22 rfl rfl (by decide) (by decide) (hts (.fieldLink RX6 21 "BoundaryAnalyzer$RuleBuilder" "item" "LBoundaryAnalyzer$Part;") (List.mem_of_getElem? (i := 3) rfl)) dX6_goBack_22 ?_
    refine lv_aload_n hx hb dX6_goBack_25 rfl (lv_at hl 0 rfl) ?_
    obtain ⟨v26, e26, hf⟩ := zb hf
    refine zr_gi (ci := 3) (k := 0) (C := RX3) (T := TX3) (N := 3) hx hb hts hi_X6_goBack_3 hown hK hP e26 rfl rfl (by decide) (by decide) (hts (.fieldLink RX6 97 "BoundaryAnalyzer$Part" "first" "I") (List.mem_of_getElem? (i := 4) rfl)) dX6_goBack_26 ?_
    refine lv_aload_n hx hb dX6_goBack_29 rfl (lv_at hl 0 rfl) ?_
    obtain ⟨v30, e30, hf⟩ := zb hf
    refine zr_gi (ci := 3) (k := 1) (C := RX3) (T := TX3) (N := 3) hx hb hts hi_X6_goBack_3 hown hK hP e30 rfl rfl (by decide) (by decide) (hts (.fieldLink RX6 100 "BoundaryAnalyzer$Part" "last" "I") (List.mem_of_getElem? (i := 5) rfl)) dX6_goBack_30 ?_
    refine lv_aload_n hx hb dX6_goBack_33 rfl (lv_at hl 0 rfl) ?_
    obtain ⟨v34, e34, hf⟩ := zb hf
    refine zr_gi (ci := 3) (k := 2) (C := RX3) (T := TX3) (N := 3) hx hb hts hi_X6_goBack_3 hown hK hP e34 rfl rfl (by decide) (by decide) (hts (.fieldLink RX6 103 "BoundaryAnalyzer$Part" "canBeEmpty" "Z") (List.mem_of_getElem? (i := 6) rfl)) dX6_goBack_34 ?_
    obtain ⟨u37, t37, hf⟩ := zb hf
    obtain ⟨M37, e37, hf⟩ := zb hf
    refine zc_v hS (va_runV (As := [.int v26, .int v30, .int v34]) (rest := []) ⟨hx, hb, hml, hown, hts⟩ (k_X3_become l D cy b M8 v22 v26 v30 v34 M37 e37) (cwV 3 hts gX6_goBack_X3_become rfl rfl rfl (by decide +kernel) ⟨Nat.le_of_ble_eq_true rfl, Nat.le_of_ble_eq_true rfl⟩) (zp_V _ hK hP t37 (T := TX3) (N := 3) rfl (by decide)) rfl rfl hl.1 rfl (lv_room (Nat.le_of_ble_eq_true rfl)) dX6_goBack_37 ⟨Nat.zero_le _, Nat.zero_le _⟩) (fun H locs hP hS => ?_)
    refine lv_aload_n hx hb dX6_goBack_40 rfl (lv_at hl 1 rfl) ?_
    refine lv_dup hx hb dX6_goBack_41 rfl ?_
    obtain ⟨v42, e42, hf⟩ := zb hf
    refine zr_gi (ci := 6) (k := 3) (C := RX6) (T := TX6) (N := 4) hx hb hts hi_X6_goBack_6 hown hK hP e42 rfl rfl (by decide) (by decide) (hts (.fieldLink RX6 49 "BoundaryAnalyzer$RuleBuilder" "depth" "I") (List.mem_of_getElem? (i := 1) rfl)) dX6_goBack_42 ?_
    refine lv_iconst (v := (1 : Int32)) hx hb dX6_goBack_45 (by decide) ?_
    refine lv_isub hx hb dX6_goBack_46 ?_
    obtain ⟨M47, e47, hf⟩ := zb hf
    refine zr_pi (ci := 6) (k := 3) (C := RX6) (T := TX6) (N := 4) hx hb hts hi_X6_goBack_6 tyX6 tyX6_ok nmX6 hown hK hP hS e47 rfl rfl (by decide) (by decide) (hts (.fieldLink RX6 49 "BoundaryAnalyzer$RuleBuilder" "depth" "I") (List.mem_of_getElem? (i := 1) rfl)) rfl (tyX6_ok 3 (by decide)) dX6_goBack_47 (fun H locs hP _ hS => ?_)
    exact zret_v hx hb hr hlocks hf hP hS dX6_goBack_50
theorem hi_X6_link_5 : ∀ w ∈ wsX50, w ∈ wsX6_link := fun _ h => List.mem_cons_of_mem _ (List.mem_append_right _ h)
set_option maxHeartbeats 4000000 in
set_option maxRecDepth 100000 in
theorem k_X6_link (l : Launch) (D : va_G) (cy : Nat → ClassId) (b : Nat) (M0 : Mem) (h0 : Nat) (h1 : Nat) (x2 : Int32) (x3 : Int32) (rr : Mem) (hf : fX6_link M0 h0 h1 x2 x3 = some rr) : Met l yX6_link wsX6_link ({ frames := 0, cells := 0, slots := 0, locals := 0 } : Room) (zPc D cy b M0 [.ref (b + h0), .ref (b + h1), .int x2, .int x3]) (zQv D cy b rr) 0 0 (zA b) := by
  refine Met.ofW (cc := cX6_link) (maxL := 5) (ret := none) (by decide) rfl ?_
  intro p e s m args below meth c s₁ B hml hv
  obtain ⟨rfl, hP, hK⟩ := hv
  have hx := B.exec
  have hb := B.bytes
  have hr := B.returns
  have hts := atoms_spec (ws := wsX6_link) B.pre
  have hown : s.vm.findClass RX6 = some m.cls := findClass_of_methodNamed B.named
  have hlocks := B.notSynchronized
  have hS : va_S (zA b) s.heap s.heap [] := va_S.rf
  have hl := lv_entry ([.ref (b + h0), .ref (b + h1), .int x2, .int x3]) (n := 5) (Nat.le_of_ble_eq_true rfl)
  rw [lg_entry_eq]
  generalize (lg_sl ([.ref (b + h0), .ref (b + h1), .int x2, .int x3]) ++ List.replicate (5 - (lg_sl ([.ref (b + h0), .ref (b + h1), .int x2, .int x3])).length) Slot.unset).toArray = ls at hl ⊢
  have hl : lv_has ls 5 [(0, .ref (b + h0)), (1, .ref (b + h1)), (2, .int x2), (3, .int x3)] := hl
  have L3 : ∀ (n3 : Nat) (M : Mem) (H : Heap) (locs : List Loc) (ls : Array Slot) (h1 : Nat) (x2 : Int32) (x3 : Int32) (x4 : Int32), fX6_link_3L  n3 M h1 x2 x3 x4 = some rr → zH D cy b M H → va_S (zA b) s.heap H locs → lv_has ls 5 [(1, .ref (b + h1)), (2, .int x2), (3, .int x3), (4, .int x4)] → W p l e (headSpec wsX6_link ({ frames := 0, cells := 0, slots := 0, locals := 0 } : Room)).room s m ([.ref (b + h0), .ref (b + h1), .int x2, .int x3] : List Value).toArray below meth c H locs 0 0 (MQ below (zQv D cy b rr) ([.ref (b + h0), .ref (b + h1), .int x2, .int x3] : List Value).toArray s 0 0 (zA b)) (F0 m 3 ls []) := by
    intro n3
    induction n3 with
    | zero =>
      intro M H locs ls h1 x2 x3 x4 hf
      have hf : (none : Option Mem) = some rr := hf
      cases hf
    | succ n3 ih3 =>
      have J30 : ∀ (M : Mem) (H : Heap) (locs : List Loc) (ls : Array Slot) (h1 : Nat) (x2 : Int32) (x3 : Int32) (x4 : Int32), fX6_link_30 (fX6_link_3L  n3) M h1 x2 x3 x4 = some rr → zH D cy b M H → va_S (zA b) s.heap H locs → lv_has ls 5 [(1, .ref (b + h1)), (2, .int x2), (3, .int x3), (4, .int x4)] → W p l e (headSpec wsX6_link ({ frames := 0, cells := 0, slots := 0, locals := 0 } : Room)).room s m ([.ref (b + h0), .ref (b + h1), .int x2, .int x3] : List Value).toArray below meth c H locs 0 0 (MQ below (zQv D cy b rr) ([.ref (b + h0), .ref (b + h1), .int x2, .int x3] : List Value).toArray s 0 0 (zA b)) (F0 m 30 ls []) := by
        intro M H locs ls h1 x2 x3 x4 hf hP hS hl
        unfold fX6_link_30 at hf
        obtain ⟨x4_30, q30, hf⟩ := zlt_s hf
        refine lv_iinc (v := x4_30) (lv' := [(4, .int x4_30), (1, .ref (b + h1)), (2, .int x2), (3, .int x3)]) hx hb dX6_link_30 hl (k := 3) rfl (by rw [← q30]; rfl) (by decide) rfl (fun ls hl => ?_)
        refine lv_goto (tgt := 3) hx hb dX6_link_33 (by decide) ?_
        exact ih3 _ _ _ _ _ _ _ _ hf hP hS (lv_sub hl [1, 2, 3, 0] rfl)
      intro M H locs ls h1 x2 x3 x4 hf hP hS hl
      have hf : fX6_link_3  (fX6_link_3L  n3) M h1 x2 x3 x4 = some rr := hf
      unfold fX6_link_3 at hf
      refine lv_iload hx hb dX6_link_3 (lv_at hl 3 rfl) ?_
      refine lv_bipush (v := (24 : Int32)) hx hb dX6_link_5 (by decide) ?_
      refine lv_icmp_ge (tgt := 36) hx hb dX6_link_7 (by decide) (fun c7 => ?_) (fun c7 => ?_)
      · have hf := (if_pos c7).symm.trans hf
        exact zret_v hx hb hr hlocks hf hP hS dX6_link_36
      · have hf := (if_neg c7).symm.trans hf
        refine lv_iload_n hx hb dX6_link_10 rfl (lv_at hl 1 rfl) ?_
        refine lv_iload hx hb dX6_link_11 (lv_at hl 3 rfl) ?_
        refine lv_ishr hx hb dX6_link_13 ?_
        refine lv_iconst (v := (1 : Int32)) hx hb dX6_link_14 (by decide) ?_
        refine lv_iand hx hb dX6_link_15 ?_
        refine lv_if_eq (tgt := 30) hx hb dX6_link_16 (by decide) (fun c16 => ?_) (fun c16 => ?_)
        · have hf := (if_pos c16).symm.trans hf
          exact J30 _ _ _ _ _ _ _ _ hf hP hS (lv_sub hl [0, 1, 2, 3] rfl)
        · have hf := (if_neg c16).symm.trans hf
          refine lv_aload_n hx hb dX6_link_19 rfl (lv_at hl 0 rfl) ?_
          obtain ⟨v20, e20, hf⟩ := zb hf
          refine zr_gr (ci := 5) (k := 3) (C := RX5) (T := TX5) (N := 9) hx hb hts hi_X6_link_5 hown hK hP e20 rfl rfl (by decide) (by decide) (hts (.fieldLink RX6 25 "BoundaryAnalyzer$Rule" "followers" "[I") (List.mem_of_getElem? (i := 1) rfl)) dX6_link_20 ?_
          refine lv_iload hx hb dX6_link_23 (lv_at hl 3 rfl) ?_
          refine lv_dup2_11 hx hb dX6_link_25 rfl rfl ?_
          obtain ⟨v26, e26, hf⟩ := zb hf
          refine zr_ai hx hb hK hP e26 dX6_link_26 ?_
          refine lv_iload_n hx hb dX6_link_27 rfl (lv_at hl 2 rfl) ?_
          refine lv_ior hx hb dX6_link_28 ?_
          obtain ⟨M29, e29, hf⟩ := zb hf
          refine zr_si hx hb hK hP hS e29 dX6_link_29 (fun H locs hP _ hS => ?_)
          exact J30 _ _ _ _ _ _ _ _ hf hP hS (lv_sub hl [0, 1, 2, 3] rfl)
  unfold fX6_link at hf
  refine lv_iconst (v := (0 : Int32)) hx hb dX6_link_0 (by decide) ?_
  refine lv_istore (lv' := [(4, .int (0 : Int32)), (0, .ref (b + h0)), (1, .ref (b + h1)), (2, .int x2), (3, .int x3)]) hx hb dX6_link_1 hl (by decide) rfl (fun ls hl => ?_)
  exact L3 _ _ _ _ _ _ _ _ _ hf hP hS (lv_sub hl [2, 3, 4, 0] rfl)
theorem hi_X6_addItem_3 : ∀ w ∈ wsX30, w ∈ wsX6_addItem := fun _ h => List.mem_cons_of_mem _ (List.mem_append_left _ (List.mem_append_right _ h))
theorem hi_X6_addItem_6 : ∀ w ∈ wsX60, w ∈ wsX6_addItem := fun _ h => List.mem_cons_of_mem _ (List.mem_append_left _ (List.mem_append_left _ (List.mem_append_right _ h)))
set_option maxHeartbeats 4000000 in
set_option maxRecDepth 100000 in
theorem k_X6_addItem (l : Launch) (D : va_G) (cy : Nat → ClassId) (b : Nat) (M0 : Mem) (h0 : Nat) (h1 : Nat) (x2 : Int32) (rr : Mem) (hf : fX6_addItem M0 h0 h1 x2 = some rr) : Met l yX6_addItem wsX6_addItem ({ frames := 2, cells := 0, slots := 0, locals := 44 } : Room) (zPc D cy b M0 [.ref (b + h0), .ref (b + h1), .int x2]) (zQv D cy b rr) 0 0 (zA b) := by
  refine Met.ofW (cc := cX6_addItem) (maxL := 3) (ret := none) (by decide) rfl ?_
  intro p e s m args below meth c s₁ B hml hv
  obtain ⟨rfl, hP, hK⟩ := hv
  have hx := B.exec
  have hb := B.bytes
  have hr := B.returns
  have hts := atoms_spec (ws := wsX6_addItem) B.pre
  have hown : s.vm.findClass RX6 = some m.cls := findClass_of_methodNamed B.named
  have hlocks := B.notSynchronized
  have hS : va_S (zA b) s.heap s.heap [] := va_S.rf
  have hl := lv_entry ([.ref (b + h0), .ref (b + h1), .int x2]) (n := 3) (Nat.le_of_ble_eq_true rfl)
  rw [lg_entry_eq]
  generalize (lg_sl ([.ref (b + h0), .ref (b + h1), .int x2]) ++ List.replicate (3 - (lg_sl ([.ref (b + h0), .ref (b + h1), .int x2])).length) Slot.unset).toArray = ls at hl ⊢
  have hl : lv_has ls 3 [(0, .ref (b + h0)), (1, .ref (b + h1)), (2, .int x2)] := hl
  have J51 : ∀ (M : Mem) (H : Heap) (locs : List Loc) (ls : Array Slot) (h0 : Nat) (h1 : Nat), fX6_addItem_51  M h0 h1 = some rr → zH D cy b M H → va_S (zA b) s.heap H locs → lv_has ls 3 [(0, .ref (b + h0)), (1, .ref (b + h1))] → W p l e (headSpec wsX6_addItem ({ frames := 2, cells := 0, slots := 0, locals := 44 } : Room)).room s m ([.ref (b + h0), .ref (b + h1), .int x2] : List Value).toArray below meth c H locs 0 0 (MQ below (zQv D cy b rr) ([.ref (b + h0), .ref (b + h1), .int x2] : List Value).toArray s 0 0 (zA b)) (F0 m 51 ls []) := by
    intro M H locs ls h0 h1 hf hP hS hl
    unfold fX6_addItem_51 at hf
    refine lv_aload_n hx hb dX6_addItem_51 rfl (lv_at hl 0 rfl) ?_
    refine lv_aload_n hx hb dX6_addItem_52 rfl (lv_at hl 1 rfl) ?_
    refine lv_aload_n hx hb dX6_addItem_53 rfl (lv_at hl 0 rfl) ?_
    obtain ⟨v54, e54, hf⟩ := zb hf
    refine zr_gr (ci := 6) (k := 1) (C := RX6) (T := TX6) (N := 4) hx hb hts hi_X6_addItem_6 hown hK hP e54 rfl rfl (by decide) (by decide) (hts (.fieldLink RX6 17 "BoundaryAnalyzer$RuleBuilder" "sequences" "[LBoundaryAnalyzer$Part;") (List.mem_of_getElem? (i := 5) rfl)) dX6_addItem_54 ?_
    refine lv_aload_n hx hb dX6_addItem_57 rfl (lv_at hl 0 rfl) ?_
    obtain ⟨v58, e58, hf⟩ := zb hf
    refine zr_gi (ci := 6) (k := 3) (C := RX6) (T := TX6) (N := 4) hx hb hts hi_X6_addItem_6 hown hK hP e58 rfl rfl (by decide) (by decide) (hts (.fieldLink RX6 49 "BoundaryAnalyzer$RuleBuilder" "depth" "I") (List.mem_of_getElem? (i := 6) rfl)) dX6_addItem_58 ?_
    obtain ⟨v61, e61, hf⟩ := zb hf
    refine zr_aa (t0 := 5) hx hb hK hP e61 (by decide) rfl dX6_addItem_61 ?_
    obtain ⟨v62, e62, hf⟩ := zb hf
    refine zr_gi (ci := 3) (k := 1) (C := RX3) (T := TX3) (N := 3) hx hb hts hi_X6_addItem_3 hown hK hP e62 rfl rfl (by decide) (by decide) (hts (.fieldLink RX6 100 "BoundaryAnalyzer$Part" "last" "I") (List.mem_of_getElem? (i := 2) rfl)) dX6_addItem_62 ?_
    refine lv_aload_n hx hb dX6_addItem_65 rfl (lv_at hl 0 rfl) ?_
    obtain ⟨v66, e66, hf⟩ := zb hf
    refine zr_gr (ci := 6) (k := 2) (C := RX6) (T := TX6) (N := 4) hx hb hts hi_X6_addItem_6 hown hK hP e66 rfl rfl (by decide) (by decide) (hts (.fieldLink RX6 21 "BoundaryAnalyzer$RuleBuilder" "item" "LBoundaryAnalyzer$Part;") (List.mem_of_getElem? (i := 1) rfl)) dX6_addItem_66 ?_
    obtain ⟨v69, e69, hf⟩ := zb hf
    refine zr_gi (ci := 3) (k := 0) (C := RX3) (T := TX3) (N := 3) hx hb hts hi_X6_addItem_3 hown hK hP e69 rfl rfl (by decide) (by decide) (hts (.fieldLink RX6 97 "BoundaryAnalyzer$Part" "first" "I") (List.mem_of_getElem? (i := 3) rfl)) dX6_addItem_69 ?_
    obtain ⟨u72, t72, hf⟩ := zb hf
    obtain ⟨M72, e72, hf⟩ := zb hf
    refine zc_v hS (va_runV (As := [.ref (b + h1), .int v62, .int v69]) (rest := []) ⟨hx, hb, hml, hown, hts⟩ (k_X6_link l D cy b M h0 h1 v62 v69 M72 e72) (cwV 3 hts gX6_addItem_X6_link rfl rfl rfl (by decide +kernel) ⟨Nat.le_of_ble_eq_true rfl, Nat.le_of_ble_eq_true rfl⟩) (zp_V _ hK hP t72 (T := TX6) (N := 4) rfl (by decide)) rfl rfl hl.1 rfl (lv_room (Nat.le_of_ble_eq_true rfl)) dX6_addItem_72 ⟨Nat.zero_le _, Nat.zero_le _⟩) (fun H locs hP hS => ?_)
    refine lv_aload_n hx hb dX6_addItem_75 rfl (lv_at hl 0 rfl) ?_
    obtain ⟨v76, e76, hf⟩ := zb hf
    refine zr_gr (ci := 6) (k := 1) (C := RX6) (T := TX6) (N := 4) hx hb hts hi_X6_addItem_6 hown hK hP e76 rfl rfl (by decide) (by decide) (hts (.fieldLink RX6 17 "BoundaryAnalyzer$RuleBuilder" "sequences" "[LBoundaryAnalyzer$Part;") (List.mem_of_getElem? (i := 5) rfl)) dX6_addItem_76 ?_
    refine lv_aload_n hx hb dX6_addItem_79 rfl (lv_at hl 0 rfl) ?_
    obtain ⟨v80, e80, hf⟩ := zb hf
    refine zr_gi (ci := 6) (k := 3) (C := RX6) (T := TX6) (N := 4) hx hb hts hi_X6_addItem_6 hown hK hP e80 rfl rfl (by decide) (by decide) (hts (.fieldLink RX6 49 "BoundaryAnalyzer$RuleBuilder" "depth" "I") (List.mem_of_getElem? (i := 6) rfl)) dX6_addItem_80 ?_
    obtain ⟨v83, e83, hf⟩ := zb hf
    refine zr_aa (t0 := 5) hx hb hK hP e83 (by decide) rfl dX6_addItem_83 ?_
    refine lv_aload_n hx hb dX6_addItem_84 rfl (lv_at hl 0 rfl) ?_
    obtain ⟨v85, e85, hf⟩ := zb hf
    refine zr_gr (ci := 6) (k := 2) (C := RX6) (T := TX6) (N := 4) hx hb hts hi_X6_addItem_6 hown hK hP e85 rfl rfl (by decide) (by decide) (hts (.fieldLink RX6 21 "BoundaryAnalyzer$RuleBuilder" "item" "LBoundaryAnalyzer$Part;") (List.mem_of_getElem? (i := 1) rfl)) dX6_addItem_85 ?_
    obtain ⟨u88, t88, hf⟩ := zb hf
    obtain ⟨M88, e88, hf⟩ := zb hf
    refine zc_v hS (va_runV (As := [.ref (b + v85)]) (rest := []) ⟨hx, hb, hml, hown, hts⟩ (k_X3_followedBy l D cy b M72 v83 v85 M88 e88) (cwV 1 hts gX6_addItem_X3_followedBy rfl rfl rfl (by decide +kernel) ⟨Nat.le_of_ble_eq_true rfl, Nat.le_of_ble_eq_true rfl⟩) (zp_V _ hK hP t88 (T := TX3) (N := 3) rfl (by decide)) rfl rfl hl.1 rfl (lv_room (Nat.le_of_ble_eq_true rfl)) dX6_addItem_88 ⟨Nat.zero_le _, Nat.zero_le _⟩) (fun H locs hP hS => ?_)
    exact zret_v hx hb hr hlocks hf hP hS dX6_addItem_91
  have J43 : ∀ (M : Mem) (H : Heap) (locs : List Loc) (ls : Array Slot) (h0 : Nat) (h1 : Nat), fX6_addItem_43  M h0 h1 = some rr → zH D cy b M H → va_S (zA b) s.heap H locs → lv_has ls 3 [(0, .ref (b + h0)), (1, .ref (b + h1))] → W p l e (headSpec wsX6_addItem ({ frames := 2, cells := 0, slots := 0, locals := 44 } : Room)).room s m ([.ref (b + h0), .ref (b + h1), .int x2] : List Value).toArray below meth c H locs 0 0 (MQ below (zQv D cy b rr) ([.ref (b + h0), .ref (b + h1), .int x2] : List Value).toArray s 0 0 (zA b)) (F0 m 43 ls []) := by
    intro M H locs ls h0 h1 hf hP hS hl
    unfold fX6_addItem_43 at hf
    refine lv_aload_n hx hb dX6_addItem_43 rfl (lv_at hl 0 rfl) ?_
    obtain ⟨v44, e44, hf⟩ := zb hf
    refine zr_gr (ci := 6) (k := 2) (C := RX6) (T := TX6) (N := 4) hx hb hts hi_X6_addItem_6 hown hK hP e44 rfl rfl (by decide) (by decide) (hts (.fieldLink RX6 21 "BoundaryAnalyzer$RuleBuilder" "item" "LBoundaryAnalyzer$Part;") (List.mem_of_getElem? (i := 1) rfl)) dX6_addItem_44 ?_
    refine lv_iconst (v := (1 : Int32)) hx hb dX6_addItem_47 (by decide) ?_
    obtain ⟨M48, e48, hf⟩ := zb hf
    refine zr_pz (ci := 3) (k := 2) (C := RX3) (T := TX3) (N := 3) hx hb hts hi_X6_addItem_3 tyX3 tyX3_ok nmX3 hown hK hP hS e48 rfl rfl (by decide) (by decide) (hts (.fieldLink RX6 103 "BoundaryAnalyzer$Part" "canBeEmpty" "Z") (List.mem_of_getElem? (i := 4) rfl)) rfl (tyX3_ok 2 (by decide)) dX6_addItem_48 (fun H locs hP _ hS => ?_)
    exact J51 _ _ _ _ _ _ hf hP hS (lv_sub hl [0, 1] rfl)
  have J31 : ∀ (M : Mem) (H : Heap) (locs : List Loc) (ls : Array Slot) (h0 : Nat) (h1 : Nat) (x2 : Int32), fX6_addItem_31  M h0 h1 x2 = some rr → zH D cy b M H → va_S (zA b) s.heap H locs → lv_has ls 3 [(0, .ref (b + h0)), (1, .ref (b + h1)), (2, .int x2)] → W p l e (headSpec wsX6_addItem ({ frames := 2, cells := 0, slots := 0, locals := 44 } : Room)).room s m ([.ref (b + h0), .ref (b + h1), .int x2] : List Value).toArray below meth c H locs 0 0 (MQ below (zQv D cy b rr) ([.ref (b + h0), .ref (b + h1), .int x2] : List Value).toArray s 0 0 (zA b)) (F0 m 31 ls []) := by
    intro M H locs ls h0 h1 x2 hf hP hS hl
    unfold fX6_addItem_31 at hf
    refine lv_iload_n hx hb dX6_addItem_31 rfl (lv_at hl 2 rfl) ?_
    refine lv_bipush (v := (42 : Int32)) hx hb dX6_addItem_32 (by decide) ?_
    refine lv_icmp_eq (tgt := 43) hx hb dX6_addItem_34 (by decide) (fun c34 => ?_) (fun c34 => ?_)
    · have hf := (if_pos c34).symm.trans hf
      exact J43 _ _ _ _ _ _ hf hP hS (lv_sub hl [0, 1] rfl)
    · have hf := (if_neg c34).symm.trans hf
      refine lv_iload_n hx hb dX6_addItem_37 rfl (lv_at hl 2 rfl) ?_
      refine lv_bipush (v := (63 : Int32)) hx hb dX6_addItem_38 (by decide) ?_
      refine lv_icmp_ne (tgt := 51) hx hb dX6_addItem_40 (by decide) (fun c40 => ?_) (fun c40 => ?_)
      · have hf := (if_neg c40).symm.trans hf
        exact J51 _ _ _ _ _ _ hf hP hS (lv_sub hl [0, 1] rfl)
      · have hf := (if_pos c40).symm.trans hf
        exact J43 _ _ _ _ _ _ hf hP hS (lv_sub hl [0, 1] rfl)
  have J12 : ∀ (M : Mem) (H : Heap) (locs : List Loc) (ls : Array Slot) (h0 : Nat) (h1 : Nat) (x2 : Int32), fX6_addItem_12  M h0 h1 x2 = some rr → zH D cy b M H → va_S (zA b) s.heap H locs → lv_has ls 3 [(0, .ref (b + h0)), (1, .ref (b + h1)), (2, .int x2)] → W p l e (headSpec wsX6_addItem ({ frames := 2, cells := 0, slots := 0, locals := 44 } : Room)).room s m ([.ref (b + h0), .ref (b + h1), .int x2] : List Value).toArray below meth c H locs 0 0 (MQ below (zQv D cy b rr) ([.ref (b + h0), .ref (b + h1), .int x2] : List Value).toArray s 0 0 (zA b)) (F0 m 12 ls []) := by
    intro M H locs ls h0 h1 x2 hf hP hS hl
    unfold fX6_addItem_12 at hf
    refine lv_aload_n hx hb dX6_addItem_12 rfl (lv_at hl 0 rfl) ?_
    refine lv_aload_n hx hb dX6_addItem_13 rfl (lv_at hl 1 rfl) ?_
    refine lv_aload_n hx hb dX6_addItem_14 rfl (lv_at hl 0 rfl) ?_
    obtain ⟨v15, e15, hf⟩ := zb hf
    refine zr_gr (ci := 6) (k := 2) (C := RX6) (T := TX6) (N := 4) hx hb hts hi_X6_addItem_6 hown hK hP e15 rfl rfl (by decide) (by decide) (hts (.fieldLink RX6 21 "BoundaryAnalyzer$RuleBuilder" "item" "LBoundaryAnalyzer$Part;") (List.mem_of_getElem? (i := 1) rfl)) dX6_addItem_15 ?_
    obtain ⟨v18, e18, hf⟩ := zb hf
    refine zr_gi (ci := 3) (k := 1) (C := RX3) (T := TX3) (N := 3) hx hb hts hi_X6_addItem_3 hown hK hP e18 rfl rfl (by decide) (by decide) (hts (.fieldLink RX6 100 "BoundaryAnalyzer$Part" "last" "I") (List.mem_of_getElem? (i := 2) rfl)) dX6_addItem_18 ?_
    refine lv_aload_n hx hb dX6_addItem_21 rfl (lv_at hl 0 rfl) ?_
    obtain ⟨v22, e22, hf⟩ := zb hf
    refine zr_gr (ci := 6) (k := 2) (C := RX6) (T := TX6) (N := 4) hx hb hts hi_X6_addItem_6 hown hK hP e22 rfl rfl (by decide) (by decide) (hts (.fieldLink RX6 21 "BoundaryAnalyzer$RuleBuilder" "item" "LBoundaryAnalyzer$Part;") (List.mem_of_getElem? (i := 1) rfl)) dX6_addItem_22 ?_
    obtain ⟨v25, e25, hf⟩ := zb hf
    refine zr_gi (ci := 3) (k := 0) (C := RX3) (T := TX3) (N := 3) hx hb hts hi_X6_addItem_3 hown hK hP e25 rfl rfl (by decide) (by decide) (hts (.fieldLink RX6 97 "BoundaryAnalyzer$Part" "first" "I") (List.mem_of_getElem? (i := 3) rfl)) dX6_addItem_25 ?_
    obtain ⟨u28, t28, hf⟩ := zb hf
    obtain ⟨M28, e28, hf⟩ := zb hf
    refine zc_v hS (va_runV (As := [.ref (b + h1), .int v18, .int v25]) (rest := []) ⟨hx, hb, hml, hown, hts⟩ (k_X6_link l D cy b M h0 h1 v18 v25 M28 e28) (cwV 3 hts gX6_addItem_X6_link rfl rfl rfl (by decide +kernel) ⟨Nat.le_of_ble_eq_true rfl, Nat.le_of_ble_eq_true rfl⟩) (zp_V _ hK hP t28 (T := TX6) (N := 4) rfl (by decide)) rfl rfl hl.1 rfl (lv_room (Nat.le_of_ble_eq_true rfl)) dX6_addItem_28 ⟨Nat.zero_le _, Nat.zero_le _⟩) (fun H locs hP hS => ?_)
    exact J31 _ _ _ _ _ _ _ hf hP hS (lv_sub hl [0, 1, 2] rfl)
  unfold fX6_addItem at hf
  refine lv_iload_n hx hb dX6_addItem_0 rfl (lv_at hl 2 rfl) ?_
  refine lv_bipush (v := (42 : Int32)) hx hb dX6_addItem_1 (by decide) ?_
  refine lv_icmp_eq (tgt := 12) hx hb dX6_addItem_3 (by decide) (fun c3 => ?_) (fun c3 => ?_)
  · have hf := (if_pos c3).symm.trans hf
    exact J12 _ _ _ _ _ _ _ hf hP hS (lv_sub hl [0, 1, 2] rfl)
  · have hf := (if_neg c3).symm.trans hf
    refine lv_iload_n hx hb dX6_addItem_6 rfl (lv_at hl 2 rfl) ?_
    refine lv_bipush (v := (43 : Int32)) hx hb dX6_addItem_7 (by decide) ?_
    refine lv_icmp_ne (tgt := 31) hx hb dX6_addItem_9 (by decide) (fun c9 => ?_) (fun c9 => ?_)
    · have hf := (if_neg c9).symm.trans hf
      exact J31 _ _ _ _ _ _ _ hf hP hS (lv_sub hl [0, 1, 2] rfl)
    · have hf := (if_pos c9).symm.trans hf
      exact J12 _ _ _ _ _ _ _ hf hP hS (lv_sub hl [0, 1, 2] rfl)
theorem hi_X6_endAlternatives_3 : ∀ w ∈ wsX30, w ∈ wsX6_endAlternatives := fun _ h => List.mem_cons_of_mem _ (List.mem_append_right _ h)
theorem hi_X6_endAlternatives_6 : ∀ w ∈ wsX60, w ∈ wsX6_endAlternatives := fun _ h => List.mem_cons_of_mem _ (List.mem_append_left _ (List.mem_append_right _ h))
set_option maxHeartbeats 4000000 in
set_option maxRecDepth 100000 in
theorem k_X6_endAlternatives (l : Launch) (D : va_G) (cy : Nat → ClassId) (b : Nat) (M0 : Mem) (h0 : Nat) (h1 : Nat) (rr : Mem) (hf : fX6_endAlternatives M0 h0 h1 = some rr) : Met l yX6_endAlternatives wsX6_endAlternatives ({ frames := 3, cells := 0, slots := 0, locals := 64 } : Room) (zPc D cy b M0 [.ref (b + h0), .ref (b + h1)]) (zQv D cy b rr) 0 0 (zA b) := by
  refine Met.ofW (cc := cX6_endAlternatives) (maxL := 3) (ret := none) (by decide) rfl ?_
  intro p e s m args below meth c s₁ B hml hv
  obtain ⟨rfl, hP, hK⟩ := hv
  have hx := B.exec
  have hb := B.bytes
  have hr := B.returns
  have hts := atoms_spec (ws := wsX6_endAlternatives) B.pre
  have hown : s.vm.findClass RX6 = some m.cls := findClass_of_methodNamed B.named
  have hlocks := B.notSynchronized
  have hS : va_S (zA b) s.heap s.heap [] := va_S.rf
  have hl := lv_entry ([.ref (b + h0), .ref (b + h1)]) (n := 3) (Nat.le_of_ble_eq_true rfl)
  rw [lg_entry_eq]
  generalize (lg_sl ([.ref (b + h0), .ref (b + h1)]) ++ List.replicate (3 - (lg_sl ([.ref (b + h0), .ref (b + h1)])).length) Slot.unset).toArray = ls at hl ⊢
  have hl : lv_has ls 3 [(0, .ref (b + h0)), (1, .ref (b + h1))] := hl
  unfold fX6_endAlternatives at hf
  refine lv_aload_n hx hb dX6_endAlternatives_0 rfl (lv_at hl 0 rfl) ?_
  obtain ⟨u1, t1, hf⟩ := zb hf
  obtain ⟨M1, e1, hf⟩ := zb hf
  refine zc_v hS (va_runV (As := []) (rest := []) ⟨hx, hb, hml, hown, hts⟩ (k_X6_endSequence l D cy b M0 h0  M1 e1) (cwV 0 hts gX6_endAlternatives_X6_endSequence rfl rfl rfl (by decide +kernel) ⟨Nat.le_of_ble_eq_true rfl, Nat.le_of_ble_eq_true rfl⟩) (zp_V _ hK hP t1 (T := TX6) (N := 4) rfl (by decide)) rfl rfl hl.1 rfl (lv_room (Nat.le_of_ble_eq_true rfl)) dX6_endAlternatives_1 ⟨Nat.zero_le _, Nat.zero_le _⟩) (fun H locs hP hS => ?_)
  refine lv_aload_n hx hb dX6_endAlternatives_4 rfl (lv_at hl 0 rfl) ?_
  obtain ⟨v5, e5, hf⟩ := zb hf
  refine zr_gr (ci := 6) (k := 0) (C := RX6) (T := TX6) (N := 4) hx hb hts hi_X6_endAlternatives_6 hown hK hP e5 rfl rfl (by decide) (by decide) (hts (.fieldLink RX6 11 "BoundaryAnalyzer$RuleBuilder" "alternatives" "[LBoundaryAnalyzer$Part;") (List.mem_of_getElem? (i := 1) rfl)) dX6_endAlternatives_5 ?_
  refine lv_aload_n hx hb dX6_endAlternatives_8 rfl (lv_at hl 0 rfl) ?_
  obtain ⟨v9, e9, hf⟩ := zb hf
  refine zr_gi (ci := 6) (k := 3) (C := RX6) (T := TX6) (N := 4) hx hb hts hi_X6_endAlternatives_6 hown hK hP e9 rfl rfl (by decide) (by decide) (hts (.fieldLink RX6 49 "BoundaryAnalyzer$RuleBuilder" "depth" "I") (List.mem_of_getElem? (i := 2) rfl)) dX6_endAlternatives_9 ?_
  obtain ⟨v12, e12, hf⟩ := zb hf
  refine zr_aa (t0 := 5) hx hb hK hP e12 (by decide) rfl dX6_endAlternatives_12 ?_
  refine lv_astore_n (lv' := [(2, .ref (b + v12)), (0, .ref (b + h0)), (1, .ref (b + h1))]) hx hb dX6_endAlternatives_13 rfl hl (by decide) rfl (fun ls hl => ?_)
  refine lv_aload_n hx hb dX6_endAlternatives_14 rfl (lv_at hl 2 rfl) ?_
  refine lv_aload_n hx hb dX6_endAlternatives_15 rfl (lv_at hl 0 rfl) ?_
  obtain ⟨v16, e16, hf⟩ := zb hf
  refine zr_gi (ci := 3) (k := 0) (C := RX3) (T := TX3) (N := 3) hx hb hts hi_X6_endAlternatives_3 hown hK hP e16 rfl rfl (by decide) (by decide) (hts (.fieldLink RX6 97 "BoundaryAnalyzer$Part" "first" "I") (List.mem_of_getElem? (i := 3) rfl)) dX6_endAlternatives_16 ?_
  refine lv_aload_n hx hb dX6_endAlternatives_19 rfl (lv_at hl 0 rfl) ?_
  obtain ⟨v20, e20, hf⟩ := zb hf
  refine zr_gi (ci := 3) (k := 1) (C := RX3) (T := TX3) (N := 3) hx hb hts hi_X6_endAlternatives_3 hown hK hP e20 rfl rfl (by decide) (by decide) (hts (.fieldLink RX6 100 "BoundaryAnalyzer$Part" "last" "I") (List.mem_of_getElem? (i := 4) rfl)) dX6_endAlternatives_20 ?_
  refine lv_aload_n hx hb dX6_endAlternatives_23 rfl (lv_at hl 0 rfl) ?_
  obtain ⟨v24, e24, hf⟩ := zb hf
  refine zr_gi (ci := 3) (k := 2) (C := RX3) (T := TX3) (N := 3) hx hb hts hi_X6_endAlternatives_3 hown hK hP e24 rfl rfl (by decide) (by decide) (hts (.fieldLink RX6 103 "BoundaryAnalyzer$Part" "canBeEmpty" "Z") (List.mem_of_getElem? (i := 5) rfl)) dX6_endAlternatives_24 ?_
  obtain ⟨u27, t27, hf⟩ := zb hf
  obtain ⟨M27, e27, hf⟩ := zb hf
  refine zc_v hS (va_runV (As := [.int v16, .int v20, .int v24]) (rest := []) ⟨hx, hb, hml, hown, hts⟩ (k_X3_become l D cy b M1 h1 v16 v20 v24 M27 e27) (cwV 3 hts gX6_endAlternatives_X3_become rfl rfl rfl (by decide +kernel) ⟨Nat.le_of_ble_eq_true rfl, Nat.le_of_ble_eq_true rfl⟩) (zp_V _ hK hP t27 (T := TX3) (N := 3) rfl (by decide)) rfl rfl hl.1 rfl (lv_room (Nat.le_of_ble_eq_true rfl)) dX6_endAlternatives_27 ⟨Nat.zero_le _, Nat.zero_le _⟩) (fun H locs hP hS => ?_)
  refine lv_aload_n hx hb dX6_endAlternatives_30 rfl (lv_at hl 1 rfl) ?_
  obtain ⟨u31, t31, hf⟩ := zb hf
  obtain ⟨M31, e31, hf⟩ := zb hf
  refine zc_v hS (va_runV (As := []) (rest := []) ⟨hx, hb, hml, hown, hts⟩ (k_X6_beginLevel l D cy b M27 h0  M31 e31) (cwV 0 hts gX6_endAlternatives_X6_beginLevel rfl rfl rfl (by decide +kernel) ⟨Nat.le_of_ble_eq_true rfl, Nat.le_of_ble_eq_true rfl⟩) (zp_V _ hK hP t31 (T := TX6) (N := 4) rfl (by decide)) rfl rfl hl.1 rfl (lv_room (Nat.le_of_ble_eq_true rfl)) dX6_endAlternatives_31 ⟨Nat.zero_le _, Nat.zero_le _⟩) (fun H locs hP hS => ?_)
  exact zret_v hx hb hr hlocks hf hP hS dX6_endAlternatives_34
set_option maxHeartbeats 4000000 in
set_option maxRecDepth 100000 in
theorem k_X8_isClassLetterOrDot (l : Launch) (x0 : Int32) (rr : Int32) (hf : fX8_isClassLetterOrDot x0 = some rr) : Met l yX8_isClassLetterOrDot wsX8_isClassLetterOrDot ({ frames := 0, cells := 0, slots := 0, locals := 0 } : Room) (zPp [.int x0]) (zQp rr) 0 0 zNo := by
  refine Met.ofW (cc := cX8_isClassLetterOrDot) (maxL := 1) (ret := (some .boolean)) (by decide) rfl ?_
  intro p e s m args below meth c s₁ B hml hv
  obtain ⟨rfl, -⟩ := hv
  have hx := B.exec
  have hb := B.bytes
  have hr := B.returns
  have hts := atoms_spec (ws := wsX8_isClassLetterOrDot) B.pre
  have hown : s.vm.findClass RX8 = some m.cls := findClass_of_methodNamed B.named
  have hlocks := B.notSynchronized
  have hl := lv_entry ([.int x0]) (n := 1) (Nat.le_of_ble_eq_true rfl)
  rw [lg_entry_eq]
  generalize (lg_sl ([.int x0]) ++ List.replicate (1 - (lg_sl ([.int x0])).length) Slot.unset).toArray = ls at hl ⊢
  have hl : lv_has ls 1 [(0, .int x0)] := hl
  have J18 : ∀ (ls : Array Slot) , fX8_isClassLetterOrDot_18   = some rr → lv_has ls 1 [] → W p l e (headSpec wsX8_isClassLetterOrDot ({ frames := 0, cells := 0, slots := 0, locals := 0 } : Room)).room s m ([.int x0] : List Value).toArray below meth c s.heap [] 0 0 (MQ below (zQp rr) ([.int x0] : List Value).toArray s 0 0 zNo) (F0 m 18 ls []) := by
    intro ls  hf hl
    unfold fX8_isClassLetterOrDot_18 at hf
    refine lv_iconst (v := (1 : Int32)) hx hb dX8_isClassLetterOrDot_18 (by decide) ?_
    refine lv_goto (tgt := 23) hx hb dX8_isClassLetterOrDot_19 (by decide) ?_
    exact zret_pz hx hb hr (Or.inl rfl) hlocks hf dX8_isClassLetterOrDot_23
  unfold fX8_isClassLetterOrDot at hf
  refine lv_iload_n hx hb dX8_isClassLetterOrDot_0 rfl (lv_at hl 0 rfl) ?_
  refine lv_bipush (v := (46 : Int32)) hx hb dX8_isClassLetterOrDot_1 (by decide) ?_
  refine lv_icmp_eq (tgt := 18) hx hb dX8_isClassLetterOrDot_3 (by decide) (fun c3 => ?_) (fun c3 => ?_)
  · have hf := (if_pos c3).symm.trans hf
    exact J18 _ hf (lv_sub hl [] rfl)
  · have hf := (if_neg c3).symm.trans hf
    refine lv_iload_n hx hb dX8_isClassLetterOrDot_6 rfl (lv_at hl 0 rfl) ?_
    refine lv_bipush (v := (65 : Int32)) hx hb dX8_isClassLetterOrDot_7 (by decide) ?_
    refine lv_icmp_lt (tgt := 22) hx hb dX8_isClassLetterOrDot_9 (by decide) (fun c9 => ?_) (fun c9 => ?_)
    · have hf := (if_pos c9).symm.trans hf
      refine lv_iconst (v := (0 : Int32)) hx hb dX8_isClassLetterOrDot_22 (by decide) ?_
      exact zret_pz hx hb hr (Or.inl rfl) hlocks hf dX8_isClassLetterOrDot_23
    · have hf := (if_neg c9).symm.trans hf
      refine lv_iload_n hx hb dX8_isClassLetterOrDot_12 rfl (lv_at hl 0 rfl) ?_
      refine lv_bipush (v := (77 : Int32)) hx hb dX8_isClassLetterOrDot_13 (by decide) ?_
      refine lv_icmp_ge (tgt := 22) hx hb dX8_isClassLetterOrDot_15 (by decide) (fun c15 => ?_) (fun c15 => ?_)
      · have hf := (if_pos c15).symm.trans hf
        refine lv_iconst (v := (0 : Int32)) hx hb dX8_isClassLetterOrDot_22 (by decide) ?_
        exact zret_pz hx hb hr (Or.inl rfl) hlocks hf dX8_isClassLetterOrDot_23
      · have hf := (if_neg c15).symm.trans hf
        exact J18 _ hf (lv_sub hl [] rfl)
theorem hi_X6_takeLeaf_3 : ∀ w ∈ wsX30, w ∈ wsX6_takeLeaf := fun _ h => List.mem_cons_of_mem _ (List.mem_append_right _ h)
theorem hi_X6_takeLeaf_5 : ∀ w ∈ wsX50, w ∈ wsX6_takeLeaf := fun _ h => List.mem_cons_of_mem _ (List.mem_append_left _ (List.mem_append_left _ (List.mem_append_right _ h)))
theorem hi_X6_takeLeaf_6 : ∀ w ∈ wsX60, w ∈ wsX6_takeLeaf := fun _ h => List.mem_cons_of_mem _ (List.mem_append_left _ (List.mem_append_right _ h))
set_option maxHeartbeats 4000000 in
set_option maxRecDepth 100000 in
theorem k_X6_takeLeaf (l : Launch) (D : va_G) (cy : Nat → ClassId) (b : Nat) (M0 : Mem) (h0 : Nat) (h1 : Nat) (x2 : Int32) (x3 : Int32) (rr : Mem) (hf : fX6_takeLeaf M0 h0 h1 x2 x3 = some rr) : Met l yX6_takeLeaf wsX6_takeLeaf ({ frames := 1, cells := 0, slots := 0, locals := 23 } : Room) (zPc D cy b M0 [.ref (b + h0), .ref (b + h1), .int x2, .int x3]) (zQv D cy b rr) 0 0 (zA b) := by
  refine Met.ofW (cc := cX6_takeLeaf) (maxL := 6) (ret := none) (by decide) rfl ?_
  intro p e s m args below meth c s₁ B hml hv
  obtain ⟨rfl, hP, hK⟩ := hv
  have hx := B.exec
  have hb := B.bytes
  have hr := B.returns
  have hts := atoms_spec (ws := wsX6_takeLeaf) B.pre
  have hown : s.vm.findClass RX6 = some m.cls := findClass_of_methodNamed B.named
  have hlocks := B.notSynchronized
  have hS : va_S (zA b) s.heap s.heap [] := va_S.rf
  have hl := lv_entry ([.ref (b + h0), .ref (b + h1), .int x2, .int x3]) (n := 6) (Nat.le_of_ble_eq_true rfl)
  rw [lg_entry_eq]
  generalize (lg_sl ([.ref (b + h0), .ref (b + h1), .int x2, .int x3]) ++ List.replicate (6 - (lg_sl ([.ref (b + h0), .ref (b + h1), .int x2, .int x3])).length) Slot.unset).toArray = ls at hl ⊢
  have hl : lv_has ls 6 [(0, .ref (b + h0)), (1, .ref (b + h1)), (2, .int x2), (3, .int x3)] := hl
  have L8 : ∀ (n8 : Nat) (M : Mem) (H : Heap) (locs : List Loc) (ls : Array Slot) (h0 : Nat) (h1 : Nat) (x3 : Int32) (x4 : Int32) (x5 : Int32), fX6_takeLeaf_8L  n8 M h0 h1 x3 x4 x5 = some rr → zH D cy b M H → va_S (zA b) s.heap H locs → lv_has ls 6 [(0, .ref (b + h0)), (1, .ref (b + h1)), (3, .int x3), (4, .int x4), (5, .int x5)] → W p l e (headSpec wsX6_takeLeaf ({ frames := 1, cells := 0, slots := 0, locals := 23 } : Room)).room s m ([.ref (b + h0), .ref (b + h1), .int x2, .int x3] : List Value).toArray below meth c H locs 0 0 (MQ below (zQv D cy b rr) ([.ref (b + h0), .ref (b + h1), .int x2, .int x3] : List Value).toArray s 0 0 (zA b)) (F0 m 8 ls []) := by
    intro n8
    induction n8 with
    | zero =>
      intro M H locs ls h0 h1 x3 x4 x5 hf
      have hf : (none : Option Mem) = some rr := hf
      cases hf
    | succ n8 ih8 =>
      have J42 : ∀ (M : Mem) (H : Heap) (locs : List Loc) (ls : Array Slot) (h0 : Nat) (h1 : Nat) (x3 : Int32) (x4 : Int32) (x5 : Int32), fX6_takeLeaf_42 (fX6_takeLeaf_8L  n8) M h0 h1 x3 x4 x5 = some rr → zH D cy b M H → va_S (zA b) s.heap H locs → lv_has ls 6 [(0, .ref (b + h0)), (1, .ref (b + h1)), (3, .int x3), (4, .int x4), (5, .int x5)] → W p l e (headSpec wsX6_takeLeaf ({ frames := 1, cells := 0, slots := 0, locals := 23 } : Room)).room s m ([.ref (b + h0), .ref (b + h1), .int x2, .int x3] : List Value).toArray below meth c H locs 0 0 (MQ below (zQv D cy b rr) ([.ref (b + h0), .ref (b + h1), .int x2, .int x3] : List Value).toArray s 0 0 (zA b)) (F0 m 42 ls []) := by
        intro M H locs ls h0 h1 x3 x4 x5 hf hP hS hl
        unfold fX6_takeLeaf_42 at hf
        obtain ⟨x5_42, q42, hf⟩ := zlt_s hf
        refine lv_iinc (v := x5_42) (lv' := [(5, .int x5_42), (0, .ref (b + h0)), (1, .ref (b + h1)), (3, .int x3), (4, .int x4)]) hx hb dX6_takeLeaf_42 hl (k := 4) rfl (by rw [← q42]; rfl) (by decide) rfl (fun ls hl => ?_)
        refine lv_goto (tgt := 8) hx hb dX6_takeLeaf_45 (by decide) ?_
        exact ih8 _ _ _ _ _ _ _ _ _ hf hP hS (lv_sub hl [1, 2, 3, 4, 0] rfl)
      have J30 : ∀ (M : Mem) (H : Heap) (locs : List Loc) (ls : Array Slot) (h0 : Nat) (h1 : Nat) (x3 : Int32) (x4 : Int32) (x5 : Int32), fX6_takeLeaf_30 (fX6_takeLeaf_8L  n8) M h0 h1 x3 x4 x5 = some rr → zH D cy b M H → va_S (zA b) s.heap H locs → lv_has ls 6 [(0, .ref (b + h0)), (1, .ref (b + h1)), (3, .int x3), (4, .int x4), (5, .int x5)] → W p l e (headSpec wsX6_takeLeaf ({ frames := 1, cells := 0, slots := 0, locals := 23 } : Room)).room s m ([.ref (b + h0), .ref (b + h1), .int x2, .int x3] : List Value).toArray below meth c H locs 0 0 (MQ below (zQv D cy b rr) ([.ref (b + h0), .ref (b + h1), .int x2, .int x3] : List Value).toArray s 0 0 (zA b)) (F0 m 30 ls []) := by
        intro M H locs ls h0 h1 x3 x4 x5 hf hP hS hl
        unfold fX6_takeLeaf_30 at hf
        refine lv_aload_n hx hb dX6_takeLeaf_30 rfl (lv_at hl 1 rfl) ?_
        obtain ⟨v31, e31, hf⟩ := zb hf
        refine zr_gr (ci := 5) (k := 4) (C := RX5) (T := TX5) (N := 9) hx hb hts hi_X6_takeLeaf_5 hown hK hP e31 rfl rfl (by decide) (by decide) (hts (.fieldLink RX6 37 "BoundaryAnalyzer$Rule" "takers" "[I") (List.mem_of_getElem? (i := 1) rfl)) dX6_takeLeaf_31 ?_
        refine lv_iload hx hb dX6_takeLeaf_34 (lv_at hl 4 rfl) ?_
        refine lv_dup2_11 hx hb dX6_takeLeaf_36 rfl rfl ?_
        obtain ⟨v37, e37, hf⟩ := zb hf
        refine zr_ai hx hb hK hP e37 dX6_takeLeaf_37 ?_
        refine lv_iload hx hb dX6_takeLeaf_38 (lv_at hl 3 rfl) ?_
        refine lv_ior hx hb dX6_takeLeaf_40 ?_
        obtain ⟨M41, e41, hf⟩ := zb hf
        refine zr_si hx hb hK hP hS e41 dX6_takeLeaf_41 (fun H locs hP _ hS => ?_)
        exact J42 _ _ _ _ _ _ _ _ _ hf hP hS (lv_sub hl [0, 1, 2, 3, 4] rfl)
      intro M H locs ls h0 h1 x3 x4 x5 hf hP hS hl
      have hf : fX6_takeLeaf_8  (fX6_takeLeaf_8L  n8) M h0 h1 x3 x4 x5 = some rr := hf
      unfold fX6_takeLeaf_8 at hf
      refine lv_iload hx hb dX6_takeLeaf_8 (lv_at hl 4 rfl) ?_
      refine lv_bipush (v := (12 : Int32)) hx hb dX6_takeLeaf_10 (by decide) ?_
      refine lv_icmp_ge (tgt := 48) hx hb dX6_takeLeaf_12 (by decide) (fun c12 => ?_) (fun c12 => ?_)
      · have hf := (if_pos c12).symm.trans hf
        refine lv_aload_n hx hb dX6_takeLeaf_48 rfl (lv_at hl 0 rfl) ?_
        obtain ⟨v49, e49, hf⟩ := zb hf
        refine zr_gr (ci := 6) (k := 2) (C := RX6) (T := TX6) (N := 4) hx hb hts hi_X6_takeLeaf_6 hown hK hP e49 rfl rfl (by decide) (by decide) (hts (.fieldLink RX6 21 "BoundaryAnalyzer$RuleBuilder" "item" "LBoundaryAnalyzer$Part;") (List.mem_of_getElem? (i := 2) rfl)) dX6_takeLeaf_49 ?_
        refine lv_iload hx hb dX6_takeLeaf_52 (lv_at hl 3 rfl) ?_
        refine lv_iload hx hb dX6_takeLeaf_54 (lv_at hl 3 rfl) ?_
        refine lv_iconst (v := (0 : Int32)) hx hb dX6_takeLeaf_56 (by decide) ?_
        obtain ⟨u57, t57, hf⟩ := zb hf
        obtain ⟨M57, e57, hf⟩ := zb hf
        refine zc_v hS (va_runV (As := [.int x4, .int x4, .int (0 : Int32)]) (rest := []) ⟨hx, hb, hml, hown, hts⟩ (k_X3_become l D cy b M v49 x4 x4 (0 : Int32) M57 e57) (cwV 3 hts gX6_takeLeaf_X3_become rfl rfl rfl (by decide +kernel) ⟨Nat.le_of_ble_eq_true rfl, Nat.le_of_ble_eq_true rfl⟩) (zp_V _ hK hP t57 (T := TX3) (N := 3) rfl (by decide)) rfl rfl hl.1 rfl (lv_room (Nat.le_of_ble_eq_true rfl)) dX6_takeLeaf_57 ⟨Nat.zero_le _, Nat.zero_le _⟩) (fun H locs hP hS => ?_)
        exact zret_v hx hb hr hlocks hf hP hS dX6_takeLeaf_60
      · have hf := (if_neg c12).symm.trans hf
        refine lv_iload_n hx hb dX6_takeLeaf_15 rfl (lv_at hl 2 rfl) ?_
        refine lv_bipush (v := (46 : Int32)) hx hb dX6_takeLeaf_16 (by decide) ?_
        refine lv_icmp_eq (tgt := 30) hx hb dX6_takeLeaf_18 (by decide) (fun c18 => ?_) (fun c18 => ?_)
        · have hf := (if_pos c18).symm.trans hf
          exact J30 _ _ _ _ _ _ _ _ _ hf hP hS (lv_sub hl [0, 1, 2, 3, 4] rfl)
        · have hf := (if_neg c18).symm.trans hf
          refine lv_iload_n hx hb dX6_takeLeaf_21 rfl (lv_at hl 2 rfl) ?_
          refine lv_bipush (v := (65 : Int32)) hx hb dX6_takeLeaf_22 (by decide) ?_
          refine lv_iload hx hb dX6_takeLeaf_24 (lv_at hl 4 rfl) ?_
          refine lv_iadd hx hb dX6_takeLeaf_26 ?_
          refine lv_icmp_ne (tgt := 42) hx hb dX6_takeLeaf_27 (by decide) (fun c27 => ?_) (fun c27 => ?_)
          · have hf := (if_neg c27).symm.trans hf
            exact J42 _ _ _ _ _ _ _ _ _ hf hP hS (lv_sub hl [0, 1, 2, 3, 4] rfl)
          · have hf := (if_pos c27).symm.trans hf
            exact J30 _ _ _ _ _ _ _ _ _ hf hP hS (lv_sub hl [0, 1, 2, 3, 4] rfl)
  unfold fX6_takeLeaf at hf
  refine lv_iconst (v := (1 : Int32)) hx hb dX6_takeLeaf_0 (by decide) ?_
  refine lv_iload_n hx hb dX6_takeLeaf_1 rfl (lv_at hl 2 rfl) ?_
  refine lv_ishl hx hb dX6_takeLeaf_2 ?_
  obtain ⟨x4_3, q3, hf⟩ := zlt_s hf
  refine zt q3 ?_
  refine lv_istore (lv' := [(4, .int x4_3), (0, .ref (b + h0)), (1, .ref (b + h1)), (2, .int x2), (3, .int x3)]) hx hb dX6_takeLeaf_3 hl (by decide) rfl (fun ls hl => ?_)
  refine lv_iconst (v := (0 : Int32)) hx hb dX6_takeLeaf_5 (by decide) ?_
  refine lv_istore (lv' := [(5, .int (0 : Int32)), (4, .int x4_3), (0, .ref (b + h0)), (1, .ref (b + h1)), (2, .int x2), (3, .int x3)]) hx hb dX6_takeLeaf_6 hl (by decide) rfl (fun ls hl => ?_)
  exact L8 _ _ _ _ _ _ _ _ _ _ hf hP hS (lv_sub hl [2, 3, 5, 1, 0] rfl)
