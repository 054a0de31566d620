theorem hi_X6_addItem_3 : ∀ w ∈ wsX30, w ∈ wsX6_addItem := fun _ h => List.mem_cons_of_mem _ (List.mem_append_left _ (List.mem_append_right _ h))
theorem hi_X6_addItem_6 : ∀ w ∈ wsX60, w ∈ wsX6_addItem := fun _ h => List.mem_cons_of_mem _ (List.mem_append_left _ (List.mem_append_left _ (List.mem_append_right _ h)))
set_option maxHeartbeats 4000000 in
set_option maxRecDepth 100000 in
theorem k_X6_addItem (l : Launch) (D : va_G) (cy : Nat → ClassId) (b : Nat) (M0 : Mem) (p0 : Nat) (p1 : Nat) (p2 : Int32) (rr : Mem) (hf : fX6_addItem M0 p0 p1 p2 = some rr) : Met l yX6_addItem wsX6_addItem ({ frames := 2, cells := 0, slots := 0, locals := 44 } : Room) (zPc D cy b M0 [.ref (b + p0), .ref (b + p1), .int p2]) (zQv D cy b rr) 0 0 (zA b) := by
  refine Met.ofW (cc := cX6_addItem) (maxL := 3) (ret := none) (by decide) rfl ?_
  intro p e s m args below meth c s₁ B hml hv
  obtain ⟨rfl, hP, hK⟩ := hv
  have hx := B.exec
  have hb := B.bytes
  have hr := B.returns
  have hts := atoms_spec (ws := wsX6_addItem) B.pre
  have hown : s.vm.findClass RX6 = some m.cls := findClass_of_methodNamed B.named
  have hlocks := B.notSynchronized
  have hS : va_S (zA b) s.heap s.heap [] := va_S.rf
  have hl := lv_entry ([.ref (b + p0), .ref (b + p1), .int p2]) (n := 3) (Nat.le_of_ble_eq_true rfl)
  rw [lg_entry_eq]
  generalize (lg_sl ([.ref (b + p0), .ref (b + p1), .int p2]) ++ List.replicate (3 - (lg_sl ([.ref (b + p0), .ref (b + p1), .int p2])).length) Slot.unset).toArray = ls at hl ⊢
  have hl : lv_has ls 3 [(0, .ref (b + p0)), (1, .ref (b + p1)), (2, .int p2)] := hl
  have J51 : ∀ (M : Mem) (H : Heap) (locs : List Loc) (ls : Array Slot) (h0 : Nat) (h1 : Nat), fX6_addItem_51  M h0 h1 = some rr → zH D cy b M H → va_S (zA b) s.heap H locs → lv_has ls 3 [(0, .ref (b + h0)), (1, .ref (b + h1))] → W p l e (headSpec wsX6_addItem ({ frames := 2, cells := 0, slots := 0, locals := 44 } : Room)).room s m ([.ref (b + p0), .ref (b + p1), .int p2] : List Value).toArray below meth c H locs 0 0 (MQ below (zQv D cy b rr) ([.ref (b + p0), .ref (b + p1), .int p2] : List Value).toArray s 0 0 (zA b)) (F0 m 51 ls []) := by
    intro M H locs ls h0 h1 hf hP hS hl
    unfold fX6_addItem_51 at hf
    refine lv_aload_n hx hb dX6_addItem_51 rfl (lv_at hl 0 rfl) ?_
    refine lv_aload_n hx hb dX6_addItem_52 rfl (lv_at hl 1 rfl) ?_
    refine lv_aload_n hx hb dX6_addItem_53 rfl (lv_at hl 0 rfl) ?_
    obtain ⟨v54, e54, hf⟩ := zb hf
    refine zr_gr (ci := 6) (k := 1) (C := RX6) (T := TX6) (N := 4) hx hb hts hi_X6_addItem_6 hown hK hP e54 rfl rfl (by decide) (by decide) (hts (.fieldLink RX6 17 "BoundaryAnalyzer$RuleBuilder" "sequences" "[LBoundaryAnalyzer$Part;") (List.mem_of_getElem? (i := 5) rfl)) dX6_addItem_54 ?_
    refine lv_aload_n hx hb dX6_addItem_57 rfl (lv_at hl 0 rfl) ?_
    obtain ⟨v58, e58, hf⟩ := zb hf
    refine zr_gi (ci := 6) (k := 3) (C := RX6) (T := TX6) (N := 4) hx hb hts hi_X6_addItem_6 hown hK hP e58 rfl rfl (by decide) (by decide) (hts (.fieldLink RX6 49 "BoundaryAnalyzer$RuleBuilder" "depth" "I") (List.mem_of_getElem? (i := 6) rfl)) dX6_addItem_58 ?_
    obtain ⟨v61, e61, hf⟩ := zb hf
    refine zr_aa (t0 := 5) hx hb hK hP e61 (by decide) rfl dX6_addItem_61 ?_
    obtain ⟨v62, e62, hf⟩ := zb hf
    refine zr_gi (ci := 3) (k := 1) (C := RX3) (T := TX3) (N := 3) hx hb hts hi_X6_addItem_3 hown hK hP e62 rfl rfl (by decide) (by decide) (hts (.fieldLink RX6 100 "BoundaryAnalyzer$Part" "last" "I") (List.mem_of_getElem? (i := 2) rfl)) dX6_addItem_62 ?_
    refine lv_aload_n hx hb dX6_addItem_65 rfl (lv_at hl 0 rfl) ?_
    obtain ⟨v66, e66, hf⟩ := zb hf
    refine zr_gr (ci := 6) (k := 2) (C := RX6) (T := TX6) (N := 4) hx hb hts hi_X6_addItem_6 hown hK hP e66 rfl rfl (by decide) (by decide) (hts (.fieldLink RX6 21 "BoundaryAnalyzer$RuleBuilder" "item" "LBoundaryAnalyzer$Part;") (List.mem_of_getElem? (i := 1) rfl)) dX6_addItem_66 ?_
    obtain ⟨v69, e69, hf⟩ := zb hf
    refine zr_gi (ci := 3) (k := 0) (C := RX3) (T := TX3) (N := 3) hx hb hts hi_X6_addItem_3 hown hK hP e69 rfl rfl (by decide) (by decide) (hts (.fieldLink RX6 97 "BoundaryAnalyzer$Part" "first" "I") (List.mem_of_getElem? (i := 3) rfl)) dX6_addItem_69 ?_
    obtain ⟨u72, t72, hf⟩ := zb hf
    obtain ⟨M72, e72, hf⟩ := zb hf
    refine zc_v hS (va_runV (As := [.ref (b + h1), .int v62, .int v69]) (rest := []) ⟨hx, hb, hml, hown, hts⟩ (k_X6_link l D cy b M h0 h1 v62 v69 M72 e72) (cwV 3 hts gX6_addItem_X6_link rfl rfl rfl (by decide +kernel) ⟨Nat.le_of_ble_eq_true rfl, Nat.le_of_ble_eq_true rfl⟩) (zp_V _ hK hP t72 (T := TX6) (N := 4) rfl (by decide)) rfl rfl hl.1 rfl (lv_room (Nat.le_of_ble_eq_true rfl)) dX6_addItem_72 ⟨Nat.zero_le _, Nat.zero_le _⟩) (fun H locs hP hS => ?_)
    refine lv_aload_n hx hb dX6_addItem_75 rfl (lv_at hl 0 rfl) ?_
    obtain ⟨v76, e76, hf⟩ := zb hf
    refine zr_gr (ci := 6) (k := 1) (C := RX6) (T := TX6) (N := 4) hx hb hts hi_X6_addItem_6 hown hK hP e76 rfl rfl (by decide) (by decide) (hts (.fieldLink RX6 17 "BoundaryAnalyzer$RuleBuilder" "sequences" "[LBoundaryAnalyzer$Part;") (List.mem_of_getElem? (i := 5) rfl)) dX6_addItem_76 ?_
    refine lv_aload_n hx hb dX6_addItem_79 rfl (lv_at hl 0 rfl) ?_
    obtain ⟨v80, e80, hf⟩ := zb hf
    refine zr_gi (ci := 6) (k := 3) (C := RX6) (T := TX6) (N := 4) hx hb hts hi_X6_addItem_6 hown hK hP e80 rfl rfl (by decide) (by decide) (hts (.fieldLink RX6 49 "BoundaryAnalyzer$RuleBuilder" "depth" "I") (List.mem_of_getElem? (i := 6) rfl)) dX6_addItem_80 ?_
    obtain ⟨v83, e83, hf⟩ := zb hf
    refine zr_aa (t0 := 5) hx hb hK hP e83 (by decide) rfl dX6_addItem_83 ?_
    refine lv_aload_n hx hb dX6_addItem_84 rfl (lv_at hl 0 rfl) ?_
    obtain ⟨v85, e85, hf⟩ := zb hf
    refine zr_gr (ci := 6) (k := 2) (C := RX6) (T := TX6) (N := 4) hx hb hts hi_X6_addItem_6 hown hK hP e85 rfl rfl (by decide) (by decide) (hts (.fieldLink RX6 21 "BoundaryAnalyzer$RuleBuilder" "item" "LBoundaryAnalyzer$Part;") (List.mem_of_getElem? (i := 1) rfl)) dX6_addItem_85 ?_
    obtain ⟨u88, t88, hf⟩ := zb hf
    obtain ⟨M88, e88, hf⟩ := zb hf
    refine zc_v hS (va_runV (As := [.ref (b + v85)]) (rest := []) ⟨hx, hb, hml, hown, hts⟩ (k_X3_followedBy l D cy b M72 v83 v85 M88 e88) (cwV 1 hts gX6_addItem_X3_followedBy rfl rfl rfl (by decide +kernel) ⟨Nat.le_of_ble_eq_true rfl, Nat.le_of_ble_eq_true rfl⟩) (zp_V _ hK hP t88 (T := TX3) (N := 3) rfl (by decide)) rfl rfl hl.1 rfl (lv_room (Nat.le_of_ble_eq_true rfl)) dX6_addItem_88 ⟨Nat.zero_le _, Nat.zero_le _⟩) (fun H locs hP hS => ?_)
    exact zret_v hx hb hr hlocks hf hP hS dX6_addItem_91
  have J43 : ∀ (M : Mem) (H : Heap) (locs : List Loc) (ls : Array Slot) (h0 : Nat) (h1 : Nat), fX6_addItem_43  M h0 h1 = some rr → zH D cy b M H → va_S (zA b) s.heap H locs → lv_has ls 3 [(0, .ref (b + h0)), (1, .ref (b + h1))] → W p l e (headSpec wsX6_addItem ({ frames := 2, cells := 0, slots := 0, locals := 44 } : Room)).room s m ([.ref (b + p0), .ref (b + p1), .int p2] : List Value).toArray below meth c H locs 0 0 (MQ below (zQv D cy b rr) ([.ref (b + p0), .ref (b + p1), .int p2] : List Value).toArray s 0 0 (zA b)) (F0 m 43 ls []) := by
    intro M H locs ls h0 h1 hf hP hS hl
    unfold fX6_addItem_43 at hf
    refine lv_aload_n hx hb dX6_addItem_43 rfl (lv_at hl 0 rfl) ?_
    obtain ⟨v44, e44, hf⟩ := zb hf
    refine zr_gr (ci := 6) (k := 2) (C := RX6) (T := TX6) (N := 4) hx hb hts hi_X6_addItem_6 hown hK hP e44 rfl rfl (by decide) (by decide) (hts (.fieldLink RX6 21 "BoundaryAnalyzer$RuleBuilder" "item" "LBoundaryAnalyzer$Part;") (List.mem_of_getElem? (i := 1) rfl)) dX6_addItem_44 ?_
    refine lv_iconst (v := (1 : Int32)) hx hb dX6_addItem_47 (by decide) ?_
    obtain ⟨M48, e48, hf⟩ := zb hf
    refine zr_pz (ci := 3) (k := 2) (C := RX3) (T := TX3) (N := 3) hx hb hts hi_X6_addItem_3 tyX3 tyX3_ok nmX3 hown hK hP hS e48 rfl rfl (by decide) (by decide) (hts (.fieldLink RX6 103 "BoundaryAnalyzer$Part" "canBeEmpty" "Z") (List.mem_of_getElem? (i := 4) rfl)) rfl (tyX3_ok 2 (by decide)) dX6_addItem_48 (fun H locs hP _ hS => ?_)
    exact J51 _ _ _ _ _ _ hf hP hS (lv_sub hl [0, 1] rfl)
  have J31 : ∀ (M : Mem) (H : Heap) (locs : List Loc) (ls : Array Slot) (h0 : Nat) (h1 : Nat) (x2 : Int32), fX6_addItem_31  M h0 h1 x2 = some rr → zH D cy b M H → va_S (zA b) s.heap H locs → lv_has ls 3 [(0, .ref (b + h0)), (1, .ref (b + h1)), (2, .int x2)] → W p l e (headSpec wsX6_addItem ({ frames := 2, cells := 0, slots := 0, locals := 44 } : Room)).room s m ([.ref (b + p0), .ref (b + p1), .int p2] : List Value).toArray below meth c H locs 0 0 (MQ below (zQv D cy b rr) ([.ref (b + p0), .ref (b + p1), .int p2] : List Value).toArray s 0 0 (zA b)) (F0 m 31 ls []) := by
    intro M H locs ls h0 h1 x2 hf hP hS hl
    unfold fX6_addItem_31 at hf
    refine lv_iload_n hx hb dX6_addItem_31 rfl (lv_at hl 2 rfl) ?_
    refine lv_bipush (v := (42 : Int32)) hx hb dX6_addItem_32 (by decide) ?_
    refine lv_icmp_eq (tgt := 43) hx hb dX6_addItem_34 (by decide) (fun c34 => ?_) (fun c34 => ?_)
    · have hf := (if_pos c34).symm.trans hf
      exact J43 _ _ _ _ _ _ hf hP hS (lv_sub hl [0, 1] rfl)
    · have hf := (if_neg c34).symm.trans hf
      refine lv_iload_n hx hb dX6_addItem_37 rfl (lv_at hl 2 rfl) ?_
      refine lv_bipush (v := (63 : Int32)) hx hb dX6_addItem_38 (by decide) ?_
      refine lv_icmp_ne (tgt := 51) hx hb dX6_addItem_40 (by decide) (fun c40 => ?_) (fun c40 => ?_)
      · have hf := (if_neg c40).symm.trans hf
        exact J51 _ _ _ _ _ _ hf hP hS (lv_sub hl [0, 1] rfl)
      · have hf := (if_pos c40).symm.trans hf
        exact J43 _ _ _ _ _ _ hf hP hS (lv_sub hl [0, 1] rfl)
  have J12 : ∀ (M : Mem) (H : Heap) (locs : List Loc) (ls : Array Slot) (h0 : Nat) (h1 : Nat) (x2 : Int32), fX6_addItem_12  M h0 h1 x2 = some rr → zH D cy b M H → va_S (zA b) s.heap H locs → lv_has ls 3 [(0, .ref (b + h0)), (1, .ref (b + h1)), (2, .int x2)] → W p l e (headSpec wsX6_addItem ({ frames := 2, cells := 0, slots := 0, locals := 44 } : Room)).room s m ([.ref (b + p0), .ref (b + p1), .int p2] : List Value).toArray below meth c H locs 0 0 (MQ below (zQv D cy b rr) ([.ref (b + p0), .ref (b + p1), .int p2] : List Value).toArray s 0 0 (zA b)) (F0 m 12 ls []) := by
    intro M H locs ls h0 h1 x2 hf hP hS hl
    unfold fX6_addItem_12 at hf
    refine lv_aload_n hx hb dX6_addItem_12 rfl (lv_at hl 0 rfl) ?_
    refine lv_aload_n hx hb dX6_addItem_13 rfl (lv_at hl 1 rfl) ?_
    refine lv_aload_n hx hb dX6_addItem_14 rfl (lv_at hl 0 rfl) ?_
    obtain ⟨v15, e15, hf⟩ := zb hf
    refine zr_gr (ci := 6) (k := 2) (C := RX6) (T := TX6) (N := 4) hx hb hts hi_X6_addItem_6 hown hK hP e15 rfl rfl (by decide) (by decide) (hts (.fieldLink RX6 21 "BoundaryAnalyzer$RuleBuilder" "item" "LBoundaryAnalyzer$Part;") (List.mem_of_getElem? (i := 1) rfl)) dX6_addItem_15 ?_
    obtain ⟨v18, e18, hf⟩ := zb hf
    refine zr_gi (ci := 3) (k := 1) (C := RX3) (T := TX3) (N := 3) hx hb hts hi_X6_addItem_3 hown hK hP e18 rfl rfl (by decide) (by decide) (hts (.fieldLink RX6 100 "BoundaryAnalyzer$Part" "last" "I") (List.mem_of_getElem? (i := 2) rfl)) dX6_addItem_18 ?_
    refine lv_aload_n hx hb dX6_addItem_21 rfl (lv_at hl 0 rfl) ?_
    obtain ⟨v22, e22, hf⟩ := zb hf
    refine zr_gr (ci := 6) (k := 2) (C := RX6) (T := TX6) (N := 4) hx hb hts hi_X6_addItem_6 hown hK hP e22 rfl rfl (by decide) (by decide) (hts (.fieldLink RX6 21 "BoundaryAnalyzer$RuleBuilder" "item" "LBoundaryAnalyzer$Part;") (List.mem_of_getElem? (i := 1) rfl)) dX6_addItem_22 ?_
    obtain ⟨v25, e25, hf⟩ := zb hf
    refine zr_gi (ci := 3) (k := 0) (C := RX3) (T := TX3) (N := 3) hx hb hts hi_X6_addItem_3 hown hK hP e25 rfl rfl (by decide) (by decide) (hts (.fieldLink RX6 97 "BoundaryAnalyzer$Part" "first" "I") (List.mem_of_getElem? (i := 3) rfl)) dX6_addItem_25 ?_
    obtain ⟨u28, t28, hf⟩ := zb hf
    obtain ⟨M28, e28, hf⟩ := zb hf
    refine zc_v hS (va_runV (As := [.ref (b + h1), .int v18, .int v25]) (rest := []) ⟨hx, hb, hml, hown, hts⟩ (k_X6_link l D cy b M h0 h1 v18 v25 M28 e28) (cwV 3 hts gX6_addItem_X6_link rfl rfl rfl (by decide +kernel) ⟨Nat.le_of_ble_eq_true rfl, Nat.le_of_ble_eq_true rfl⟩) (zp_V _ hK hP t28 (T := TX6) (N := 4) rfl (by decide)) rfl rfl hl.1 rfl (lv_room (Nat.le_of_ble_eq_true rfl)) dX6_addItem_28 ⟨Nat.zero_le _, Nat.zero_le _⟩) (fun H locs hP hS => ?_)
    exact J31 _ _ _ _ _ _ _ hf hP hS (lv_sub hl [0, 1, 2] rfl)
  unfold fX6_addItem at hf
  refine lv_iload_n hx hb dX6_addItem_0 rfl (lv_at hl 2 rfl) ?_
  refine lv_bipush (v := (42 : Int32)) hx hb dX6_addItem_1 (by decide) ?_
  refine lv_icmp_eq (tgt := 12) hx hb dX6_addItem_3 (by decide) (fun c3 => ?_) (fun c3 => ?_)
  · have hf := (if_pos c3).symm.trans hf
    exact J12 _ _ _ _ _ _ _ hf hP hS (lv_sub hl [0, 1, 2] rfl)
  · have hf := (if_neg c3).symm.trans hf
    refine lv_iload_n hx hb dX6_addItem_6 rfl (lv_at hl 2 rfl) ?_
    refine lv_bipush (v := (43 : Int32)) hx hb dX6_addItem_7 (by decide) ?_
    refine lv_icmp_ne (tgt := 31) hx hb dX6_addItem_9 (by decide) (fun c9 => ?_) (fun c9 => ?_)
    · have hf := (if_neg c9).symm.trans hf
      exact J31 _ _ _ _ _ _ _ hf hP hS (lv_sub hl [0, 1, 2] rfl)
    · have hf := (if_pos c9).symm.trans hf
      exact J12 _ _ _ _ _ _ _ hf hP hS (lv_sub hl [0, 1, 2] rfl)
theorem hi_X6_endAlternatives_3 : ∀ w ∈ wsX30, w ∈ wsX6_endAlternatives := fun _ h => List.mem_cons_of_mem _ (List.mem_append_right _ h)
theorem hi_X6_endAlternatives_6 : ∀ w ∈ wsX60, w ∈ wsX6_endAlternatives := fun _ h => List.mem_cons_of_mem _ (List.mem_append_left _ (List.mem_append_right _ h))
set_option maxHeartbeats 4000000 in
set_option maxRecDepth 100000 in
theorem k_X6_endAlternatives (l : Launch) (D : va_G) (cy : Nat → ClassId) (b : Nat) (M0 : Mem) (p0 : Nat) (p1 : Nat) (rr : Mem) (hf : fX6_endAlternatives M0 p0 p1 = some rr) : Met l yX6_endAlternatives wsX6_endAlternatives ({ frames := 3, cells := 0, slots := 0, locals := 64 } : Room) (zPc D cy b M0 [.ref (b + p0), .ref (b + p1)]) (zQv D cy b rr) 0 0 (zA b) := by
  refine Met.ofW (cc := cX6_endAlternatives) (maxL := 3) (ret := none) (by decide) rfl ?_
  intro p e s m args below meth c s₁ B hml hv
  obtain ⟨rfl, hP, hK⟩ := hv
  have hx := B.exec
  have hb := B.bytes
  have hr := B.returns
  have hts := atoms_spec (ws := wsX6_endAlternatives) B.pre
  have hown : s.vm.findClass RX6 = some m.cls := findClass_of_methodNamed B.named
  have hlocks := B.notSynchronized
  have hS : va_S (zA b) s.heap s.heap [] := va_S.rf
  have hl := lv_entry ([.ref (b + p0), .ref (b + p1)]) (n := 3) (Nat.le_of_ble_eq_true rfl)
  rw [lg_entry_eq]
  generalize (lg_sl ([.ref (b + p0), .ref (b + p1)]) ++ List.replicate (3 - (lg_sl ([.ref (b + p0), .ref (b + p1)])).length) Slot.unset).toArray = ls at hl ⊢
  have hl : lv_has ls 3 [(0, .ref (b + p0)), (1, .ref (b + p1))] := hl
  unfold fX6_endAlternatives at hf
  refine lv_aload_n hx hb dX6_endAlternatives_0 rfl (lv_at hl 0 rfl) ?_
  obtain ⟨u1, t1, hf⟩ := zb hf
  obtain ⟨M1, e1, hf⟩ := zb hf
  refine zc_v hS (va_runV (As := []) (rest := []) ⟨hx, hb, hml, hown, hts⟩ (k_X6_endSequence l D cy b M0 p0  M1 e1) (cwV 0 hts gX6_endAlternatives_X6_endSequence rfl rfl rfl (by decide +kernel) ⟨Nat.le_of_ble_eq_true rfl, Nat.le_of_ble_eq_true rfl⟩) (zp_V _ hK hP t1 (T := TX6) (N := 4) rfl (by decide)) rfl rfl hl.1 rfl (lv_room (Nat.le_of_ble_eq_true rfl)) dX6_endAlternatives_1 ⟨Nat.zero_le _, Nat.zero_le _⟩) (fun H locs hP hS => ?_)
  refine lv_aload_n hx hb dX6_endAlternatives_4 rfl (lv_at hl 0 rfl) ?_
  obtain ⟨v5, e5, hf⟩ := zb hf
  refine zr_gr (ci := 6) (k := 0) (C := RX6) (T := TX6) (N := 4) hx hb hts hi_X6_endAlternatives_6 hown hK hP e5 rfl rfl (by decide) (by decide) (hts (.fieldLink RX6 11 "BoundaryAnalyzer$RuleBuilder" "alternatives" "[LBoundaryAnalyzer$Part;") (List.mem_of_getElem? (i := 1) rfl)) dX6_endAlternatives_5 ?_
  refine lv_aload_n hx hb dX6_endAlternatives_8 rfl (lv_at hl 0 rfl) ?_
  obtain ⟨v9, e9, hf⟩ := zb hf
  refine zr_gi (ci := 6) (k := 3) (C := RX6) (T := TX6) (N := 4) hx hb hts hi_X6_endAlternatives_6 hown hK hP e9 rfl rfl (by decide) (by decide) (hts (.fieldLink RX6 49 "BoundaryAnalyzer$RuleBuilder" "depth" "I") (List.mem_of_getElem? (i := 2) rfl)) dX6_endAlternatives_9 ?_
  obtain ⟨v12, e12, hf⟩ := zb hf
  refine zr_aa (t0 := 5) hx hb hK hP e12 (by decide) rfl dX6_endAlternatives_12 ?_
  refine lv_astore_n (lv' := [(2, .ref (b + v12)), (0, .ref (b + p0)), (1, .ref (b + p1))]) hx hb dX6_endAlternatives_13 rfl hl (by decide) rfl (fun ls hl => ?_)
  refine lv_aload_n hx hb dX6_endAlternatives_14 rfl (lv_at hl 2 rfl) ?_
  refine lv_aload_n hx hb dX6_endAlternatives_15 rfl (lv_at hl 0 rfl) ?_
  obtain ⟨v16, e16, hf⟩ := zb hf
  refine zr_gi (ci := 3) (k := 0) (C := RX3) (T := TX3) (N := 3) hx hb hts hi_X6_endAlternatives_3 hown hK hP e16 rfl rfl (by decide) (by decide) (hts (.fieldLink RX6 97 "BoundaryAnalyzer$Part" "first" "I") (List.mem_of_getElem? (i := 3) rfl)) dX6_endAlternatives_16 ?_
  refine lv_aload_n hx hb dX6_endAlternatives_19 rfl (lv_at hl 0 rfl) ?_
  obtain ⟨v20, e20, hf⟩ := zb hf
  refine zr_gi (ci := 3) (k := 1) (C := RX3) (T := TX3) (N := 3) hx hb hts hi_X6_endAlternatives_3 hown hK hP e20 rfl rfl (by decide) (by decide) (hts (.fieldLink RX6 100 "BoundaryAnalyzer$Part" "last" "I") (List.mem_of_getElem? (i := 4) rfl)) dX6_endAlternatives_20 ?_
  refine lv_aload_n hx hb dX6_endAlternatives_23 rfl (lv_at hl 0 rfl) ?_
  obtain ⟨v24, e24, hf⟩ := zb hf
  refine zr_gi (ci := 3) (k := 2) (C := RX3) (T := TX3) (N := 3) hx hb hts hi_X6_endAlternatives_3 hown hK hP e24 rfl rfl (by decide) (by decide) (hts (.fieldLink RX6 103 "BoundaryAnalyzer$Part" "canBeEmpty" "Z") (List.mem_of_getElem? (i := 5) rfl)) dX6_endAlternatives_24 ?_
  obtain ⟨u27, t27, hf⟩ := zb hf
  obtain ⟨M27, e27, hf⟩ := zb hf
  refine zc_v hS (va_runV (As := [.int v16, .int v20, .int v24]) (rest := []) ⟨hx, hb, hml, hown, hts⟩ (k_X3_become l D cy b M1 p1 v16 v20 v24 M27 e27) (cwV 3 hts gX6_endAlternatives_X3_become rfl rfl rfl (by decide +kernel) ⟨Nat.le_of_ble_eq_true rfl, Nat.le_of_ble_eq_true rfl⟩) (zp_V _ hK hP t27 (T := TX3) (N := 3) rfl (by decide)) rfl rfl hl.1 rfl (lv_room (Nat.le_of_ble_eq_true rfl)) dX6_endAlternatives_27 ⟨Nat.zero_le _, Nat.zero_le _⟩) (fun H locs hP hS => ?_)
  refine lv_aload_n hx hb dX6_endAlternatives_30 rfl (lv_at hl 1 rfl) ?_
  obtain ⟨u31, t31, hf⟩ := zb hf
  obtain ⟨M31, e31, hf⟩ := zb hf
  refine zc_v hS (va_runV (As := []) (rest := []) ⟨hx, hb, hml, hown, hts⟩ (k_X6_beginLevel l D cy b M27 p0  M31 e31) (cwV 0 hts gX6_endAlternatives_X6_beginLevel rfl rfl rfl (by decide +kernel) ⟨Nat.le_of_ble_eq_true rfl, Nat.le_of_ble_eq_true rfl⟩) (zp_V _ hK hP t31 (T := TX6) (N := 4) rfl (by decide)) rfl rfl hl.1 rfl (lv_room (Nat.le_of_ble_eq_true rfl)) dX6_endAlternatives_31 ⟨Nat.zero_le _, Nat.zero_le _⟩) (fun H locs hP hS => ?_)
  exact zret_v hx hb hr hlocks hf hP hS dX6_endAlternatives_34
set_option maxHeartbeats 4000000 in
set_option maxRecDepth 100000 in
theorem k_X8_isClassLetterOrDot (l : Launch) (p0 : Int32) (rr : Int32) (hf : fX8_isClassLetterOrDot p0 = some rr) : Met l yX8_isClassLetterOrDot wsX8_isClassLetterOrDot ({ frames := 0, cells := 0, slots := 0, locals := 0 } : Room) (zPp [.int p0]) (zQp rr) 0 0 zNo := by
  refine Met.ofW (cc := cX8_isClassLetterOrDot) (maxL := 1) (ret := (some .boolean)) (by decide) rfl ?_
  intro p e s m args below meth c s₁ B hml hv
  obtain ⟨rfl, -⟩ := hv
  have hx := B.exec
  have hb := B.bytes
  have hr := B.returns
  have hts := atoms_spec (ws := wsX8_isClassLetterOrDot) B.pre
  have hown : s.vm.findClass RX8 = some m.cls := findClass_of_methodNamed B.named
  have hlocks := B.notSynchronized
  have hl := lv_entry ([.int p0]) (n := 1) (Nat.le_of_ble_eq_true rfl)
  rw [lg_entry_eq]
  generalize (lg_sl ([.int p0]) ++ List.replicate (1 - (lg_sl ([.int p0])).length) Slot.unset).toArray = ls at hl ⊢
  have hl : lv_has ls 1 [(0, .int p0)] := hl
  have J18 : ∀ (ls : Array Slot) , fX8_isClassLetterOrDot_18   = some rr → lv_has ls 1 [] → W p l e (headSpec wsX8_isClassLetterOrDot ({ frames := 0, cells := 0, slots := 0, locals := 0 } : Room)).room s m ([.int p0] : List Value).toArray below meth c s.heap [] 0 0 (MQ below (zQp rr) ([.int p0] : List Value).toArray s 0 0 zNo) (F0 m 18 ls []) := by
    intro ls  hf hl
    unfold fX8_isClassLetterOrDot_18 at hf
    refine lv_iconst (v := (1 : Int32)) hx hb dX8_isClassLetterOrDot_18 (by decide) ?_
    refine lv_goto (tgt := 23) hx hb dX8_isClassLetterOrDot_19 (by decide) ?_
    exact zret_pz hx hb hr (Or.inl rfl) hlocks hf dX8_isClassLetterOrDot_23
  unfold fX8_isClassLetterOrDot at hf
  refine lv_iload_n hx hb dX8_isClassLetterOrDot_0 rfl (lv_at hl 0 rfl) ?_
  refine lv_bipush (v := (46 : Int32)) hx hb dX8_isClassLetterOrDot_1 (by decide) ?_
  refine lv_icmp_eq (tgt := 18) hx hb dX8_isClassLetterOrDot_3 (by decide) (fun c3 => ?_) (fun c3 => ?_)
  · have hf := (if_pos c3).symm.trans hf
    exact J18 _ hf (lv_sub hl [] rfl)
  · have hf := (if_neg c3).symm.trans hf
    refine lv_iload_n hx hb dX8_isClassLetterOrDot_6 rfl (lv_at hl 0 rfl) ?_
    refine lv_bipush (v := (65 : Int32)) hx hb dX8_isClassLetterOrDot_7 (by decide) ?_
    refine lv_icmp_lt (tgt := 22) hx hb dX8_isClassLetterOrDot_9 (by decide) (fun c9 => ?_) (fun c9 => ?_)
    · have hf := (if_pos c9).symm.trans hf
      refine lv_iconst (v := (0 : Int32)) hx hb dX8_isClassLetterOrDot_22 (by decide) ?_
      exact zret_pz hx hb hr (Or.inl rfl) hlocks hf dX8_isClassLetterOrDot_23
    · have hf := (if_neg c9).symm.trans hf
      refine lv_iload_n hx hb dX8_isClassLetterOrDot_12 rfl (lv_at hl 0 rfl) ?_
      refine lv_bipush (v := (77 : Int32)) hx hb dX8_isClassLetterOrDot_13 (by decide) ?_
      refine lv_icmp_ge (tgt := 22) hx hb dX8_isClassLetterOrDot_15 (by decide) (fun c15 => ?_) (fun c15 => ?_)
      · have hf := (if_pos c15).symm.trans hf
        refine lv_iconst (v := (0 : Int32)) hx hb dX8_isClassLetterOrDot_22 (by decide) ?_
        exact zret_pz hx hb hr (Or.inl rfl) hlocks hf dX8_isClassLetterOrDot_23
      · have hf := (if_neg c15).symm.trans hf
        exact J18 _ hf (lv_sub hl [] rfl)
