theorem hi_X6_endSequence_3 : ∀ w ∈ wsX30, w ∈ wsX6_endSequence := fun _ h => List.mem_cons_of_mem _ (List.mem_append_right _ h)
theorem hi_X6_endSequence_6 : ∀ w ∈ wsX60, w ∈ wsX6_endSequence := fun _ h => List.mem_cons_of_mem _ (List.mem_append_left _ (List.mem_append_right _ h))
set_option maxHeartbeats 4000000 in
set_option maxRecDepth 100000 in
theorem k_X6_endSequence (l : Launch) (D : va_G) (cy : Nat → ClassId) (b : Nat) (M0 : Mem) (p0 : Nat) (rr : Mem) (hf : fX6_endSequence M0 p0 = some rr) : Met l yX6_endSequence wsX6_endSequence ({ frames := 2, cells := 0, slots := 0, locals := 44 } : Room) (zPc D cy b M0 [.ref (b + p0)]) (zQv D cy b rr) 0 0 (zA b) := by
  refine Met.ofW (cc := cX6_endSequence) (maxL := 1) (ret := none) (by decide) rfl ?_
  intro p e s m args below meth c s₁ B hml hv
  obtain ⟨rfl, hP, hK⟩ := hv
  have hx := B.exec
  have hb := B.bytes
  have hr := B.returns
  have hts := atoms_spec (ws := wsX6_endSequence) B.pre
  have hown : s.vm.findClass RX6 = some m.cls := findClass_of_methodNamed B.named
  have hlocks := B.notSynchronized
  have hS : va_S (zA b) s.heap s.heap [] := va_S.rf
  have hl := lv_entry ([.ref (b + p0)]) (n := 1) (Nat.le_of_ble_eq_true rfl)
  rw [lg_entry_eq]
  generalize (lg_sl ([.ref (b + p0)]) ++ List.replicate (1 - (lg_sl ([.ref (b + p0)])).length) Slot.unset).toArray = ls at hl ⊢
  have hl : lv_has ls 1 [(0, .ref (b + p0))] := hl
  unfold fX6_endSequence at hf
  refine lv_aload_n hx hb dX6_endSequence_0 rfl (lv_at hl 0 rfl) ?_
  obtain ⟨v1, e1, hf⟩ := zb hf
  refine zr_gr (ci := 6) (k := 0) (C := RX6) (T := TX6) (N := 4) hx hb hts hi_X6_endSequence_6 hown hK hP e1 rfl rfl (by decide) (by decide) (hts (.fieldLink RX6 11 "BoundaryAnalyzer$RuleBuilder" "alternatives" "[LBoundaryAnalyzer$Part;") (List.mem_of_getElem? (i := 1) rfl)) dX6_endSequence_1 ?_
  refine lv_aload_n hx hb dX6_endSequence_4 rfl (lv_at hl 0 rfl) ?_
  obtain ⟨v5, e5, hf⟩ := zb hf
  refine zr_gi (ci := 6) (k := 3) (C := RX6) (T := TX6) (N := 4) hx hb hts hi_X6_endSequence_6 hown hK hP e5 rfl rfl (by decide) (by decide) (hts (.fieldLink RX6 49 "BoundaryAnalyzer$RuleBuilder" "depth" "I") (List.mem_of_getElem? (i := 2) rfl)) dX6_endSequence_5 ?_
  obtain ⟨v8, e8, hf⟩ := zb hf
  refine zr_aa (t0 := 5) hx hb hK hP e8 (by decide) rfl dX6_endSequence_8 ?_
  refine lv_aload_n hx hb dX6_endSequence_9 rfl (lv_at hl 0 rfl) ?_
  obtain ⟨v10, e10, hf⟩ := zb hf
  refine zr_gr (ci := 6) (k := 1) (C := RX6) (T := TX6) (N := 4) hx hb hts hi_X6_endSequence_6 hown hK hP e10 rfl rfl (by decide) (by decide) (hts (.fieldLink RX6 17 "BoundaryAnalyzer$RuleBuilder" "sequences" "[LBoundaryAnalyzer$Part;") (List.mem_of_getElem? (i := 3) rfl)) dX6_endSequence_10 ?_
  refine lv_aload_n hx hb dX6_endSequence_13 rfl (lv_at hl 0 rfl) ?_
  obtain ⟨v14, e14, hf⟩ := zb hf
  refine zr_gi (ci := 6) (k := 3) (C := RX6) (T := TX6) (N := 4) hx hb hts hi_X6_endSequence_6 hown hK hP e14 rfl rfl (by decide) (by decide) (hts (.fieldLink RX6 49 "BoundaryAnalyzer$RuleBuilder" "depth" "I") (List.mem_of_getElem? (i := 2) rfl)) dX6_endSequence_14 ?_
  obtain ⟨v17, e17, hf⟩ := zb hf
  refine zr_aa (t0 := 5) hx hb hK hP e17 (by decide) rfl dX6_endSequence_17 ?_
  obtain ⟨u18, t18, hf⟩ := zb hf
  obtain ⟨M18, e18, hf⟩ := zb hf
  refine zc_v hS (va_runV (As := [.ref (b + v17)]) (rest := []) ⟨hx, hb, hml, hown, hts⟩ (k_X3_orElse l D cy b M0 v8 v17 M18 e18) (cwV 1 hts gX6_endSequence_X3_orElse rfl rfl rfl (by decide +kernel) ⟨Nat.le_of_ble_eq_true rfl, Nat.le_of_ble_eq_true rfl⟩) (zp_V _ hK hP t18 (T := TX3) (N := 3) rfl (by decide)) rfl rfl hl.1 rfl (lv_room (Nat.le_of_ble_eq_true rfl)) dX6_endSequence_18 ⟨Nat.zero_le _, Nat.zero_le _⟩) (fun H locs hP hS => ?_)
  refine lv_aload_n hx hb dX6_endSequence_21 rfl (lv_at hl 0 rfl) ?_
  obtain ⟨v22, e22, hf⟩ := zb hf
  refine zr_gr (ci := 6) (k := 1) (C := RX6) (T := TX6) (N := 4) hx hb hts hi_X6_endSequence_6 hown hK hP e22 rfl rfl (by decide) (by decide) (hts (.fieldLink RX6 17 "BoundaryAnalyzer$RuleBuilder" "sequences" "[LBoundaryAnalyzer$Part;") (List.mem_of_getElem? (i := 3) rfl)) dX6_endSequence_22 ?_
  refine lv_aload_n hx hb dX6_endSequence_25 rfl (lv_at hl 0 rfl) ?_
  obtain ⟨v26, e26, hf⟩ := zb hf
  refine zr_gi (ci := 6) (k := 3) (C := RX6) (T := TX6) (N := 4) hx hb hts hi_X6_endSequence_6 hown hK hP e26 rfl rfl (by decide) (by decide) (hts (.fieldLink RX6 49 "BoundaryAnalyzer$RuleBuilder" "depth" "I") (List.mem_of_getElem? (i := 2) rfl)) dX6_endSequence_26 ?_
  obtain ⟨v29, e29, hf⟩ := zb hf
  refine zr_aa (t0 := 5) hx hb hK hP e29 (by decide) rfl dX6_endSequence_29 ?_
  obtain ⟨u30, t30, hf⟩ := zb hf
  obtain ⟨M30, e30, hf⟩ := zb hf
  refine zc_v hS (va_runV (As := []) (rest := []) ⟨hx, hb, hml, hown, hts⟩ (k_X3_becomeEmpty l D cy b M18 v29  M30 e30) (cwV 0 hts gX6_endSequence_X3_becomeEmpty rfl rfl rfl (by decide +kernel) ⟨Nat.le_of_ble_eq_true rfl, Nat.le_of_ble_eq_true rfl⟩) (zp_V _ hK hP t30 (T := TX3) (N := 3) rfl (by decide)) rfl rfl hl.1 rfl (lv_room (Nat.le_of_ble_eq_true rfl)) dX6_endSequence_30 ⟨Nat.zero_le _, Nat.zero_le _⟩) (fun H locs hP hS => ?_)
  exact zret_v hx hb hr hlocks hf hP hS dX6_endSequence_33
theorem hi_X6_goBack_3 : ∀ w ∈ wsX30, w ∈ wsX6_goBack := fun _ h => List.mem_cons_of_mem _ (List.mem_append_right _ h)
theorem hi_X6_goBack_6 : ∀ w ∈ wsX60, w ∈ wsX6_goBack := fun _ h => List.mem_cons_of_mem _ (List.mem_append_left _ (List.mem_append_right _ h))
set_option maxHeartbeats 4000000 in
set_option maxRecDepth 100000 in
theorem k_X6_goBack (l : Launch) (D : va_G) (cy : Nat → ClassId) (b : Nat) (M0 : Mem) (p0 : Nat) (rr : Mem) (hf : fX6_goBack M0 p0 = some rr) : Met l yX6_goBack wsX6_goBack ({ frames := 3, cells := 0, slots := 0, locals := 64 } : Room) (zPc D cy b M0 [.ref (b + p0)]) (zQv D cy b rr) 0 0 (zA b) := by
  refine Met.ofW (cc := cX6_goBack) (maxL := 2) (ret := none) (by decide) rfl ?_
  intro p e s m args below meth c s₁ B hml hv
  obtain ⟨rfl, hP, hK⟩ := hv
  have hx := B.exec
  have hb := B.bytes
  have hr := B.returns
  have hts := atoms_spec (ws := wsX6_goBack) B.pre
  have hown : s.vm.findClass RX6 = some m.cls := findClass_of_methodNamed B.named
  have hlocks := B.notSynchronized
  have hS : va_S (zA b) s.heap s.heap [] := va_S.rf
  have hl := lv_entry ([.ref (b + p0)]) (n := 2) (Nat.le_of_ble_eq_true rfl)
  rw [lg_entry_eq]
  generalize (lg_sl ([.ref (b + p0)]) ++ List.replicate (2 - (lg_sl ([.ref (b + p0)])).length) Slot.unset).toArray = ls at hl ⊢
  have hl : lv_has ls 2 [(0, .ref (b + p0))] := hl
  unfold fX6_goBack at hf
  refine lv_aload_n hx hb dX6_goBack_0 rfl (lv_at hl 0 rfl) ?_
  obtain ⟨v1, e1, hf⟩ := zb hf
  refine zr_gi (ci := 6) (k := 3) (C := RX6) (T := TX6) (N := 4) hx hb hts hi_X6_goBack_6 hown hK hP e1 rfl rfl (by decide) (by decide) (hts (.fieldLink RX6 49 "BoundaryAnalyzer$RuleBuilder" "depth" "I") (List.mem_of_getElem? (i := 1) rfl)) dX6_goBack_1 ?_
  refine lv_if_le (tgt := 50) hx hb dX6_goBack_4 (by decide) (fun c4 => ?_) (fun c4 => ?_)
  · have hf := (if_pos c4).symm.trans hf
    exact zret_v hx hb hr hlocks hf hP hS dX6_goBack_50
  · have hf := (if_neg c4).symm.trans hf
    refine lv_aload_n hx hb dX6_goBack_7 rfl (lv_at hl 0 rfl) ?_
    obtain ⟨u8, t8, hf⟩ := zb hf
    obtain ⟨M8, e8, hf⟩ := zb hf
    refine zc_v hS (va_runV (As := []) (rest := []) ⟨hx, hb, hml, hown, hts⟩ (k_X6_endSequence l D cy b M0 p0  M8 e8) (cwV 0 hts gX6_goBack_X6_endSequence rfl rfl rfl (by decide +kernel) ⟨Nat.le_of_ble_eq_true rfl, Nat.le_of_ble_eq_true rfl⟩) (zp_V _ hK hP t8 (T := TX6) (N := 4) rfl (by decide)) rfl rfl hl.1 rfl (lv_room (Nat.le_of_ble_eq_true rfl)) dX6_goBack_8 ⟨Nat.zero_le _, Nat.zero_le _⟩) (fun H locs hP hS => ?_)
    refine lv_aload_n hx hb dX6_goBack_11 rfl (lv_at hl 0 rfl) ?_
    obtain ⟨v12, e12, hf⟩ := zb hf
    refine zr_gr (ci := 6) (k := 0) (C := RX6) (T := TX6) (N := 4) hx hb hts hi_X6_goBack_6 hown hK hP e12 rfl rfl (by decide) (by decide) (hts (.fieldLink RX6 11 "BoundaryAnalyzer$RuleBuilder" "alternatives" "[LBoundaryAnalyzer$Part;") (List.mem_of_getElem? (i := 2) rfl)) dX6_goBack_12 ?_
    refine lv_aload_n hx hb dX6_goBack_15 rfl (lv_at hl 0 rfl) ?_
    obtain ⟨v16, e16, hf⟩ := zb hf
    refine zr_gi (ci := 6) (k := 3) (C := RX6) (T := TX6) (N := 4) hx hb hts hi_X6_goBack_6 hown hK hP e16 rfl rfl (by decide) (by decide) (hts (.fieldLink RX6 49 "BoundaryAnalyzer$RuleBuilder" "depth" "I") (List.mem_of_getElem? (i := 1) rfl)) dX6_goBack_16 ?_
    obtain ⟨v19, e19, hf⟩ := zb hf
    refine zr_aa (t0 := 5) hx hb hK hP e19 (by decide) rfl dX6_goBack_19 ?_
    refine lv_astore_n (lv' := [(1, .ref (b + v19)), (0, .ref (b + p0))]) hx hb dX6_goBack_20 rfl hl (by decide) rfl (fun ls hl => ?_)
    refine lv_aload_n hx hb dX6_goBack_21 rfl (lv_at hl 1 rfl) ?_
    obtain ⟨v22, e22, hf⟩ := zb hf
    refine zr_gr (ci := 6) (k := 2) (C := RX6) (T := TX6) (N := 4) hx hb hts hi_X6_goBack_6 hown hK hP e22 rfl rfl (by decide) (by decide) (hts (.fieldLink RX6 21 "BoundaryAnalyzer$RuleBuilder" "item" "LBoundaryAnalyzer$Part;") (List.mem_of_getElem? (i := 3) rfl)) dX6_goBack_22 ?_
    refine lv_aload_n hx hb dX6_goBack_25 rfl (lv_at hl 0 rfl) ?_
    obtain ⟨v26, e26, hf⟩ := zb hf
    refine zr_gi (ci := 3) (k := 0) (C := RX3) (T := TX3) (N := 3) hx hb hts hi_X6_goBack_3 hown hK hP e26 rfl rfl (by decide) (by decide) (hts (.fieldLink RX6 97 "BoundaryAnalyzer$Part" "first" "I") (List.mem_of_getElem? (i := 4) rfl)) dX6_goBack_26 ?_
    refine lv_aload_n hx hb dX6_goBack_29 rfl (lv_at hl 0 rfl) ?_
    obtain ⟨v30, e30, hf⟩ := zb hf
    refine zr_gi (ci := 3) (k := 1) (C := RX3) (T := TX3) (N := 3) hx hb hts hi_X6_goBack_3 hown hK hP e30 rfl rfl (by decide) (by decide) (hts (.fieldLink RX6 100 "BoundaryAnalyzer$Part" "last" "I") (List.mem_of_getElem? (i := 5) rfl)) dX6_goBack_30 ?_
    refine lv_aload_n hx hb dX6_goBack_33 rfl (lv_at hl 0 rfl) ?_
    obtain ⟨v34, e34, hf⟩ := zb hf
    refine zr_gi (ci := 3) (k := 2) (C := RX3) (T := TX3) (N := 3) hx hb hts hi_X6_goBack_3 hown hK hP e34 rfl rfl (by decide) (by decide) (hts (.fieldLink RX6 103 "BoundaryAnalyzer$Part" "canBeEmpty" "Z") (List.mem_of_getElem? (i := 6) rfl)) dX6_goBack_34 ?_
    obtain ⟨u37, t37, hf⟩ := zb hf
    obtain ⟨M37, e37, hf⟩ := zb hf
    refine zc_v hS (va_runV (As := [.int v26, .int v30, .int v34]) (rest := []) ⟨hx, hb, hml, hown, hts⟩ (k_X3_become l D cy b M8 v22 v26 v30 v34 M37 e37) (cwV 3 hts gX6_goBack_X3_become rfl rfl rfl (by decide +kernel) ⟨Nat.le_of_ble_eq_true rfl, Nat.le_of_ble_eq_true rfl⟩) (zp_V _ hK hP t37 (T := TX3) (N := 3) rfl (by decide)) rfl rfl hl.1 rfl (lv_room (Nat.le_of_ble_eq_true rfl)) dX6_goBack_37 ⟨Nat.zero_le _, Nat.zero_le _⟩) (fun H locs hP hS => ?_)
    refine lv_aload_n hx hb dX6_goBack_40 rfl (lv_at hl 1 rfl) ?_
    refine lv_dup hx hb dX6_goBack_41 rfl ?_
    obtain ⟨v42, e42, hf⟩ := zb hf
    refine zr_gi (ci := 6) (k := 3) (C := RX6) (T := TX6) (N := 4) hx hb hts hi_X6_goBack_6 hown hK hP e42 rfl rfl (by decide) (by decide) (hts (.fieldLink RX6 49 "BoundaryAnalyzer$RuleBuilder" "depth" "I") (List.mem_of_getElem? (i := 1) rfl)) dX6_goBack_42 ?_
    refine lv_iconst (v := (1 : Int32)) hx hb dX6_goBack_45 (by decide) ?_
    refine lv_isub hx hb dX6_goBack_46 ?_
    obtain ⟨M47, e47, hf⟩ := zb hf
    refine zr_pi (ci := 6) (k := 3) (C := RX6) (T := TX6) (N := 4) hx hb hts hi_X6_goBack_6 tyX6 tyX6_ok nmX6 hown hK hP hS e47 rfl rfl (by decide) (by decide) (hts (.fieldLink RX6 49 "BoundaryAnalyzer$RuleBuilder" "depth" "I") (List.mem_of_getElem? (i := 1) rfl)) rfl (tyX6_ok 3 (by decide)) dX6_goBack_47 (fun H locs hP _ hS => ?_)
    exact zret_v hx hb hr hlocks hf hP hS dX6_goBack_50
theorem hi_X6_link_5 : ∀ w ∈ wsX50, w ∈ wsX6_link := fun _ h => List.mem_cons_of_mem _ (List.mem_append_right _ h)
set_option maxHeartbeats 4000000 in
set_option maxRecDepth 100000 in
theorem k_X6_link (l : Launch) (D : va_G) (cy : Nat → ClassId) (b : Nat) (M0 : Mem) (p0 : Nat) (p1 : Nat) (p2 : Int32) (p3 : Int32) (rr : Mem) (hf : fX6_link M0 p0 p1 p2 p3 = some rr) : Met l yX6_link wsX6_link ({ frames := 0, cells := 0, slots := 0, locals := 0 } : Room) (zPc D cy b M0 [.ref (b + p0), .ref (b + p1), .int p2, .int p3]) (zQv D cy b rr) 0 0 (zA b) := by
  refine Met.ofW (cc := cX6_link) (maxL := 5) (ret := none) (by decide) rfl ?_
  intro p e s m args below meth c s₁ B hml hv
  obtain ⟨rfl, hP, hK⟩ := hv
  have hx := B.exec
  have hb := B.bytes
  have hr := B.returns
  have hts := atoms_spec (ws := wsX6_link) B.pre
  have hown : s.vm.findClass RX6 = some m.cls := findClass_of_methodNamed B.named
  have hlocks := B.notSynchronized
  have hS : va_S (zA b) s.heap s.heap [] := va_S.rf
  have hl := lv_entry ([.ref (b + p0), .ref (b + p1), .int p2, .int p3]) (n := 5) (Nat.le_of_ble_eq_true rfl)
  rw [lg_entry_eq]
  generalize (lg_sl ([.ref (b + p0), .ref (b + p1), .int p2, .int p3]) ++ List.replicate (5 - (lg_sl ([.ref (b + p0), .ref (b + p1), .int p2, .int p3])).length) Slot.unset).toArray = ls at hl ⊢
  have hl : lv_has ls 5 [(0, .ref (b + p0)), (1, .ref (b + p1)), (2, .int p2), (3, .int p3)] := hl
  have L3 : ∀ (n3 : Nat) (M : Mem) (H : Heap) (locs : List Loc) (ls : Array Slot) (h1 : Nat) (x2 : Int32) (x3 : Int32) (x4 : Int32), fX6_link_3L  n3 M h1 x2 x3 x4 = some rr → zH D cy b M H → va_S (zA b) s.heap H locs → lv_has ls 5 [(1, .ref (b + h1)), (2, .int x2), (3, .int x3), (4, .int x4)] → W p l e (headSpec wsX6_link ({ frames := 0, cells := 0, slots := 0, locals := 0 } : Room)).room s m ([.ref (b + p0), .ref (b + p1), .int p2, .int p3] : List Value).toArray below meth c H locs 0 0 (MQ below (zQv D cy b rr) ([.ref (b + p0), .ref (b + p1), .int p2, .int p3] : List Value).toArray s 0 0 (zA b)) (F0 m 3 ls []) := by
    intro n3
    induction n3 with
    | zero =>
      intro M H locs ls h1 x2 x3 x4 hf
      have hf : (none : Option Mem) = some rr := hf
      cases hf
    | succ n3 ih3 =>
      have J30 : ∀ (M : Mem) (H : Heap) (locs : List Loc) (ls : Array Slot) (h1 : Nat) (x2 : Int32) (x3 : Int32) (x4 : Int32), fX6_link_30 (fX6_link_3L  n3) M h1 x2 x3 x4 = some rr → zH D cy b M H → va_S (zA b) s.heap H locs → lv_has ls 5 [(1, .ref (b + h1)), (2, .int x2), (3, .int x3), (4, .int x4)] → W p l e (headSpec wsX6_link ({ frames := 0, cells := 0, slots := 0, locals := 0 } : Room)).room s m ([.ref (b + p0), .ref (b + p1), .int p2, .int p3] : List Value).toArray below meth c H locs 0 0 (MQ below (zQv D cy b rr) ([.ref (b + p0), .ref (b + p1), .int p2, .int p3] : List Value).toArray s 0 0 (zA b)) (F0 m 30 ls []) := by
        intro M H locs ls h1 x2 x3 x4 hf hP hS hl
        unfold fX6_link_30 at hf
        obtain ⟨x4_30, q30, hf⟩ := zlt_s hf
        refine lv_iinc (v := x4_30) (lv' := [(4, .int x4_30), (1, .ref (b + h1)), (2, .int x2), (3, .int x3)]) hx hb dX6_link_30 hl (k := 3) rfl (by rw [← q30]; rfl) (by decide) rfl (fun ls hl => ?_)
        refine lv_goto (tgt := 3) hx hb dX6_link_33 (by decide) ?_
        exact ih3 _ _ _ _ _ _ _ _ hf hP hS (lv_sub hl [1, 2, 3, 0] rfl)
      intro M H locs ls h1 x2 x3 x4 hf hP hS hl
      have hf : fX6_link_3  (fX6_link_3L  n3) M h1 x2 x3 x4 = some rr := hf
      unfold fX6_link_3 at hf
      refine lv_iload hx hb dX6_link_3 (lv_at hl 3 rfl) ?_
      refine lv_bipush (v := (24 : Int32)) hx hb dX6_link_5 (by decide) ?_
      refine lv_icmp_ge (tgt := 36) hx hb dX6_link_7 (by decide) (fun c7 => ?_) (fun c7 => ?_)
      · have hf := (if_pos c7).symm.trans hf
        exact zret_v hx hb hr hlocks hf hP hS dX6_link_36
      · have hf := (if_neg c7).symm.trans hf
        refine lv_iload_n hx hb dX6_link_10 rfl (lv_at hl 1 rfl) ?_
        refine lv_iload hx hb dX6_link_11 (lv_at hl 3 rfl) ?_
        refine lv_ishr hx hb dX6_link_13 ?_
        refine lv_iconst (v := (1 : Int32)) hx hb dX6_link_14 (by decide) ?_
        refine lv_iand hx hb dX6_link_15 ?_
        refine lv_if_eq (tgt := 30) hx hb dX6_link_16 (by decide) (fun c16 => ?_) (fun c16 => ?_)
        · have hf := (if_pos c16).symm.trans hf
          exact J30 _ _ _ _ _ _ _ _ hf hP hS (lv_sub hl [0, 1, 2, 3] rfl)
        · have hf := (if_neg c16).symm.trans hf
          refine lv_aload_n hx hb dX6_link_19 rfl (lv_at hl 0 rfl) ?_
          obtain ⟨v20, e20, hf⟩ := zb hf
          refine zr_gr (ci := 5) (k := 3) (C := RX5) (T := TX5) (N := 9) hx hb hts hi_X6_link_5 hown hK hP e20 rfl rfl (by decide) (by decide) (hts (.fieldLink RX6 25 "BoundaryAnalyzer$Rule" "followers" "[I") (List.mem_of_getElem? (i := 1) rfl)) dX6_link_20 ?_
          refine lv_iload hx hb dX6_link_23 (lv_at hl 3 rfl) ?_
          refine lv_dup2_11 hx hb dX6_link_25 rfl rfl ?_
          obtain ⟨v26, e26, hf⟩ := zb hf
          refine zr_ai hx hb hK hP e26 dX6_link_26 ?_
          refine lv_iload_n hx hb dX6_link_27 rfl (lv_at hl 2 rfl) ?_
          refine lv_ior hx hb dX6_link_28 ?_
          obtain ⟨M29, e29, hf⟩ := zb hf
          refine zr_si hx hb hK hP hS e29 dX6_link_29 (fun H locs hP _ hS => ?_)
          exact J30 _ _ _ _ _ _ _ _ hf hP hS (lv_sub hl [0, 1, 2, 3] rfl)
  unfold fX6_link at hf
  refine lv_iconst (v := (0 : Int32)) hx hb dX6_link_0 (by decide) ?_
  refine lv_istore (lv' := [(4, .int (0 : Int32)), (0, .ref (b + p0)), (1, .ref (b + p1)), (2, .int p2), (3, .int p3)]) hx hb dX6_link_1 hl (by decide) rfl (fun ls hl => ?_)
  exact L3 _ _ _ _ _ _ _ _ _ hf hP hS (lv_sub hl [2, 3, 4, 0] rfl)
