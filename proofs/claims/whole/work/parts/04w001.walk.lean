theorem hi_X3_becomeEmpty_3 : ∀ w ∈ wsX30, w ∈ wsX3_becomeEmpty := fun _ h => List.mem_cons_of_mem _ (List.mem_append_right _ h)
set_option maxHeartbeats 4000000 in
set_option maxRecDepth 100000 in
theorem k_X3_becomeEmpty (l : Launch) (D : va_G) (cy : Nat → ClassId) (b : Nat) (M0 : Mem) (p0 : Nat) (rr : Mem) (hf : fX3_becomeEmpty M0 p0 = some rr) : Met l yX3_becomeEmpty wsX3_becomeEmpty ({ frames := 1, cells := 0, slots := 0, locals := 23 } : Room) (zPc D cy b M0 [.ref (b + p0)]) (zQv D cy b rr) 0 0 (zA b) := by
  refine Met.ofW (cc := cX3_becomeEmpty) (maxL := 1) (ret := none) (by decide) rfl ?_
  intro p e s m args below meth c s₁ B hml hv
  obtain ⟨rfl, hP, hK⟩ := hv
  have hx := B.exec
  have hb := B.bytes
  have hr := B.returns
  have hts := atoms_spec (ws := wsX3_becomeEmpty) B.pre
  have hown : s.vm.findClass RX3 = some m.cls := findClass_of_methodNamed B.named
  have hlocks := B.notSynchronized
  have hS : va_S (zA b) s.heap s.heap [] := va_S.rf
  have hl := lv_entry ([.ref (b + p0)]) (n := 1) (Nat.le_of_ble_eq_true rfl)
  rw [lg_entry_eq]
  generalize (lg_sl ([.ref (b + p0)]) ++ List.replicate (1 - (lg_sl ([.ref (b + p0)])).length) Slot.unset).toArray = ls at hl ⊢
  have hl : lv_has ls 1 [(0, .ref (b + p0))] := hl
  unfold fX3_becomeEmpty at hf
  refine lv_aload_n hx hb dX3_becomeEmpty_0 rfl (lv_at hl 0 rfl) ?_
  refine lv_iconst (v := (0 : Int32)) hx hb dX3_becomeEmpty_1 (by decide) ?_
  refine lv_iconst (v := (0 : Int32)) hx hb dX3_becomeEmpty_2 (by decide) ?_
  refine lv_iconst (v := (1 : Int32)) hx hb dX3_becomeEmpty_3 (by decide) ?_
  obtain ⟨u4, t4, hf⟩ := zb hf
  obtain ⟨M4, e4, hf⟩ := zb hf
  refine zc_v hS (va_runV (As := [.int (0 : Int32), .int (0 : Int32), .int (1 : Int32)]) (rest := []) ⟨hx, hb, hml, hown, hts⟩ (k_X3_become l D cy b M0 p0 (0 : Int32) (0 : Int32) (1 : Int32) M4 e4) (cwV 3 hts gX3_becomeEmpty_X3_become rfl rfl rfl (by decide +kernel) ⟨Nat.le_of_ble_eq_true rfl, Nat.le_of_ble_eq_true rfl⟩) (zp_V _ hK hP t4 (T := TX3) (N := 3) rfl (by decide)) rfl rfl hl.1 rfl (lv_room (Nat.le_of_ble_eq_true rfl)) dX3_becomeEmpty_4 ⟨Nat.zero_le _, Nat.zero_le _⟩) (fun H locs hP hS => ?_)
  exact zret_v hx hb hr hlocks hf hP hS dX3_becomeEmpty_7
theorem hi_X3_orElse_3 : ∀ w ∈ wsX30, w ∈ wsX3_orElse := fun _ h => List.mem_cons_of_mem _ (List.mem_append_right _ h)
set_option maxHeartbeats 4000000 in
set_option maxRecDepth 100000 in
theorem k_X3_orElse (l : Launch) (D : va_G) (cy : Nat → ClassId) (b : Nat) (M0 : Mem) (p0 : Nat) (p1 : Nat) (rr : Mem) (hf : fX3_orElse M0 p0 p1 = some rr) : Met l yX3_orElse wsX3_orElse ({ frames := 1, cells := 0, slots := 0, locals := 23 } : Room) (zPc D cy b M0 [.ref (b + p0), .ref (b + p1)]) (zQv D cy b rr) 0 0 (zA b) := by
  refine Met.ofW (cc := cX3_orElse) (maxL := 2) (ret := none) (by decide) rfl ?_
  intro p e s m args below meth c s₁ B hml hv
  obtain ⟨rfl, hP, hK⟩ := hv
  have hx := B.exec
  have hb := B.bytes
  have hr := B.returns
  have hts := atoms_spec (ws := wsX3_orElse) B.pre
  have hown : s.vm.findClass RX3 = some m.cls := findClass_of_methodNamed B.named
  have hlocks := B.notSynchronized
  have hS : va_S (zA b) s.heap s.heap [] := va_S.rf
  have hl := lv_entry ([.ref (b + p0), .ref (b + p1)]) (n := 2) (Nat.le_of_ble_eq_true rfl)
  rw [lg_entry_eq]
  generalize (lg_sl ([.ref (b + p0), .ref (b + p1)]) ++ List.replicate (2 - (lg_sl ([.ref (b + p0), .ref (b + p1)])).length) Slot.unset).toArray = ls at hl ⊢
  have hl : lv_has ls 2 [(0, .ref (b + p0)), (1, .ref (b + p1))] := hl
  have J38 : ∀ (M : Mem) (H : Heap) (locs : List Loc) (ls : Array Slot) (g0 : Nat) (y1 : Int32) (y2 : Int32) (y3 : Int32), fX3_orElse_38  M g0 y1 y2 y3 = some rr → zH D cy b M H → va_S (zA b) s.heap H locs → lv_has ls 2 [] → W p l e (headSpec wsX3_orElse ({ frames := 1, cells := 0, slots := 0, locals := 23 } : Room)).room s m ([.ref (b + p0), .ref (b + p1)] : List Value).toArray below meth c H locs 0 0 (MQ below (zQv D cy b rr) ([.ref (b + p0), .ref (b + p1)] : List Value).toArray s 0 0 (zA b)) (F0 m 38 ls [.int y3, .int y2, .int y1, .ref (b + g0)]) := by
    intro M H locs ls g0 y1 y2 y3 hf hP hS hl
    unfold fX3_orElse_38 at hf
    obtain ⟨u38, t38, hf⟩ := zb hf
    obtain ⟨M38, e38, hf⟩ := zb hf
    refine zc_v hS (va_runV (As := [.int y1, .int y2, .int y3]) (rest := []) ⟨hx, hb, hml, hown, hts⟩ (k_X3_become l D cy b M g0 y1 y2 y3 M38 e38) (cwV 3 hts gX3_orElse_X3_become rfl rfl rfl (by decide +kernel) ⟨Nat.le_of_ble_eq_true rfl, Nat.le_of_ble_eq_true rfl⟩) (zp_V _ hK hP t38 (T := TX3) (N := 3) rfl (by decide)) rfl rfl hl.1 rfl (lv_room (Nat.le_of_ble_eq_true rfl)) dX3_orElse_38 ⟨Nat.zero_le _, Nat.zero_le _⟩) (fun H locs hP hS => ?_)
    exact zret_v hx hb hr hlocks hf hP hS dX3_orElse_41
  have J33 : ∀ (M : Mem) (H : Heap) (locs : List Loc) (ls : Array Slot) (g0 : Nat) (y1 : Int32) (y2 : Int32), fX3_orElse_33  M g0 y1 y2 = some rr → zH D cy b M H → va_S (zA b) s.heap H locs → lv_has ls 2 [] → W p l e (headSpec wsX3_orElse ({ frames := 1, cells := 0, slots := 0, locals := 23 } : Room)).room s m ([.ref (b + p0), .ref (b + p1)] : List Value).toArray below meth c H locs 0 0 (MQ below (zQv D cy b rr) ([.ref (b + p0), .ref (b + p1)] : List Value).toArray s 0 0 (zA b)) (F0 m 33 ls [.int y2, .int y1, .ref (b + g0)]) := by
    intro M H locs ls g0 y1 y2 hf hP hS hl
    unfold fX3_orElse_33 at hf
    refine lv_iconst (v := (1 : Int32)) hx hb dX3_orElse_33 (by decide) ?_
    refine lv_goto (tgt := 38) hx hb dX3_orElse_34 (by decide) ?_
    exact J38 _ _ _ _ _ _ _ _ hf hP hS (lv_sub hl [] rfl)
  unfold fX3_orElse at hf
  refine lv_aload_n hx hb dX3_orElse_0 rfl (lv_at hl 0 rfl) ?_
  refine lv_aload_n hx hb dX3_orElse_1 rfl (lv_at hl 0 rfl) ?_
  obtain ⟨v2, e2, hf⟩ := zb hf
  refine zr_gi (ci := 3) (k := 0) (C := RX3) (T := TX3) (N := 3) hx hb hts hi_X3_orElse_3 hown hK hP e2 rfl rfl (by decide) (by decide) (hts (.fieldLink RX3 7 "BoundaryAnalyzer$Part" "first" "I") (List.mem_of_getElem? (i := 1) rfl)) dX3_orElse_2 ?_
  refine lv_aload_n hx hb dX3_orElse_5 rfl (lv_at hl 1 rfl) ?_
  obtain ⟨v6, e6, hf⟩ := zb hf
  refine zr_gi (ci := 3) (k := 0) (C := RX3) (T := TX3) (N := 3) hx hb hts hi_X3_orElse_3 hown hK hP e6 rfl rfl (by decide) (by decide) (hts (.fieldLink RX3 7 "BoundaryAnalyzer$Part" "first" "I") (List.mem_of_getElem? (i := 1) rfl)) dX3_orElse_6 ?_
  refine lv_ior hx hb dX3_orElse_9 ?_
  refine lv_aload_n hx hb dX3_orElse_10 rfl (lv_at hl 0 rfl) ?_
  obtain ⟨v11, e11, hf⟩ := zb hf
  refine zr_gi (ci := 3) (k := 1) (C := RX3) (T := TX3) (N := 3) hx hb hts hi_X3_orElse_3 hown hK hP e11 rfl rfl (by decide) (by decide) (hts (.fieldLink RX3 13 "BoundaryAnalyzer$Part" "last" "I") (List.mem_of_getElem? (i := 2) rfl)) dX3_orElse_11 ?_
  refine lv_aload_n hx hb dX3_orElse_14 rfl (lv_at hl 1 rfl) ?_
  obtain ⟨v15, e15, hf⟩ := zb hf
  refine zr_gi (ci := 3) (k := 1) (C := RX3) (T := TX3) (N := 3) hx hb hts hi_X3_orElse_3 hown hK hP e15 rfl rfl (by decide) (by decide) (hts (.fieldLink RX3 13 "BoundaryAnalyzer$Part" "last" "I") (List.mem_of_getElem? (i := 2) rfl)) dX3_orElse_15 ?_
  refine lv_ior hx hb dX3_orElse_18 ?_
  refine lv_aload_n hx hb dX3_orElse_19 rfl (lv_at hl 0 rfl) ?_
  obtain ⟨v20, e20, hf⟩ := zb hf
  refine zr_gi (ci := 3) (k := 2) (C := RX3) (T := TX3) (N := 3) hx hb hts hi_X3_orElse_3 hown hK hP e20 rfl rfl (by decide) (by decide) (hts (.fieldLink RX3 16 "BoundaryAnalyzer$Part" "canBeEmpty" "Z") (List.mem_of_getElem? (i := 3) rfl)) dX3_orElse_20 ?_
  refine lv_if_ne (tgt := 33) hx hb dX3_orElse_23 (by decide) (fun c23 => ?_) (fun c23 => ?_)
  · have hf := (if_neg c23).symm.trans hf
    exact J33 _ _ _ _ _ _ _ hf hP hS (lv_sub hl [] rfl)
  · have hf := (if_pos c23).symm.trans hf
    refine lv_aload_n hx hb dX3_orElse_26 rfl (lv_at hl 1 rfl) ?_
    obtain ⟨v27, e27, hf⟩ := zb hf
    refine zr_gi (ci := 3) (k := 2) (C := RX3) (T := TX3) (N := 3) hx hb hts hi_X3_orElse_3 hown hK hP e27 rfl rfl (by decide) (by decide) (hts (.fieldLink RX3 16 "BoundaryAnalyzer$Part" "canBeEmpty" "Z") (List.mem_of_getElem? (i := 3) rfl)) dX3_orElse_27 ?_
    refine lv_if_eq (tgt := 37) hx hb dX3_orElse_30 (by decide) (fun c30 => ?_) (fun c30 => ?_)
    · have hf := (if_pos c30).symm.trans hf
      refine lv_iconst (v := (0 : Int32)) hx hb dX3_orElse_37 (by decide) ?_
      exact J38 _ _ _ _ _ _ _ _ hf hP hS (lv_sub hl [] rfl)
    · have hf := (if_neg c30).symm.trans hf
      exact J33 _ _ _ _ _ _ _ hf hP hS (lv_sub hl [] rfl)
theorem hi_X3_followedBy_3 : ∀ w ∈ wsX30, w ∈ wsX3_followedBy := fun _ h => List.mem_cons_of_mem _ (List.mem_append_right _ h)
set_option maxHeartbeats 4000000 in
set_option maxRecDepth 100000 in
theorem k_X3_followedBy (l : Launch) (D : va_G) (cy : Nat → ClassId) (b : Nat) (M0 : Mem) (p0 : Nat) (p1 : Nat) (rr : Mem) (hf : fX3_followedBy M0 p0 p1 = some rr) : Met l yX3_followedBy wsX3_followedBy ({ frames := 1, cells := 0, slots := 0, locals := 23 } : Room) (zPc D cy b M0 [.ref (b + p0), .ref (b + p1)]) (zQv D cy b rr) 0 0 (zA b) := by
  refine Met.ofW (cc := cX3_followedBy) (maxL := 2) (ret := none) (by decide) rfl ?_
  intro p e s m args below meth c s₁ B hml hv
  obtain ⟨rfl, hP, hK⟩ := hv
  have hx := B.exec
  have hb := B.bytes
  have hr := B.returns
  have hts := atoms_spec (ws := wsX3_followedBy) B.pre
  have hown : s.vm.findClass RX3 = some m.cls := findClass_of_methodNamed B.named
  have hlocks := B.notSynchronized
  have hS : va_S (zA b) s.heap s.heap [] := va_S.rf
  have hl := lv_entry ([.ref (b + p0), .ref (b + p1)]) (n := 2) (Nat.le_of_ble_eq_true rfl)
  rw [lg_entry_eq]
  generalize (lg_sl ([.ref (b + p0), .ref (b + p1)]) ++ List.replicate (2 - (lg_sl ([.ref (b + p0), .ref (b + p1)])).length) Slot.unset).toArray = ls at hl ⊢
  have hl : lv_has ls 2 [(0, .ref (b + p0)), (1, .ref (b + p1))] := hl
  have J66 : ∀ (M : Mem) (H : Heap) (locs : List Loc) (ls : Array Slot) (g0 : Nat) (y1 : Int32) (y2 : Int32) (y3 : Int32), fX3_followedBy_66  M g0 y1 y2 y3 = some rr → zH D cy b M H → va_S (zA b) s.heap H locs → lv_has ls 2 [] → W p l e (headSpec wsX3_followedBy ({ frames := 1, cells := 0, slots := 0, locals := 23 } : Room)).room s m ([.ref (b + p0), .ref (b + p1)] : List Value).toArray below meth c H locs 0 0 (MQ below (zQv D cy b rr) ([.ref (b + p0), .ref (b + p1)] : List Value).toArray s 0 0 (zA b)) (F0 m 66 ls [.int y3, .int y2, .int y1, .ref (b + g0)]) := by
    intro M H locs ls g0 y1 y2 y3 hf hP hS hl
    unfold fX3_followedBy_66 at hf
    obtain ⟨u66, t66, hf⟩ := zb hf
    obtain ⟨M66, e66, hf⟩ := zb hf
    refine zc_v hS (va_runV (As := [.int y1, .int y2, .int y3]) (rest := []) ⟨hx, hb, hml, hown, hts⟩ (k_X3_become l D cy b M g0 y1 y2 y3 M66 e66) (cwV 3 hts gX3_followedBy_X3_become rfl rfl rfl (by decide +kernel) ⟨Nat.le_of_ble_eq_true rfl, Nat.le_of_ble_eq_true rfl⟩) (zp_V _ hK hP t66 (T := TX3) (N := 3) rfl (by decide)) rfl rfl hl.1 rfl (lv_room (Nat.le_of_ble_eq_true rfl)) dX3_followedBy_66 ⟨Nat.zero_le _, Nat.zero_le _⟩) (fun H locs hP hS => ?_)
    exact zret_v hx hb hr hlocks hf hP hS dX3_followedBy_69
  have J65 : ∀ (M : Mem) (H : Heap) (locs : List Loc) (ls : Array Slot) (g0 : Nat) (y1 : Int32) (y2 : Int32), fX3_followedBy_65  M g0 y1 y2 = some rr → zH D cy b M H → va_S (zA b) s.heap H locs → lv_has ls 2 [] → W p l e (headSpec wsX3_followedBy ({ frames := 1, cells := 0, slots := 0, locals := 23 } : Room)).room s m ([.ref (b + p0), .ref (b + p1)] : List Value).toArray below meth c H locs 0 0 (MQ below (zQv D cy b rr) ([.ref (b + p0), .ref (b + p1)] : List Value).toArray s 0 0 (zA b)) (F0 m 65 ls [.int y2, .int y1, .ref (b + g0)]) := by
    intro M H locs ls g0 y1 y2 hf hP hS hl
    unfold fX3_followedBy_65 at hf
    refine lv_iconst (v := (0 : Int32)) hx hb dX3_followedBy_65 (by decide) ?_
    exact J66 _ _ _ _ _ _ _ _ hf hP hS (lv_sub hl [] rfl)
  have J47 : ∀ (M : Mem) (H : Heap) (locs : List Loc) (ls : Array Slot) (h0 : Nat) (h1 : Nat) (g0 : Nat) (y1 : Int32) (y2 : Int32), fX3_followedBy_47  M h0 h1 g0 y1 y2 = some rr → zH D cy b M H → va_S (zA b) s.heap H locs → lv_has ls 2 [(0, .ref (b + h0)), (1, .ref (b + h1))] → W p l e (headSpec wsX3_followedBy ({ frames := 1, cells := 0, slots := 0, locals := 23 } : Room)).room s m ([.ref (b + p0), .ref (b + p1)] : List Value).toArray below meth c H locs 0 0 (MQ below (zQv D cy b rr) ([.ref (b + p0), .ref (b + p1)] : List Value).toArray s 0 0 (zA b)) (F0 m 47 ls [.int y2, .int y1, .ref (b + g0)]) := by
    intro M H locs ls h0 h1 g0 y1 y2 hf hP hS hl
    unfold fX3_followedBy_47 at hf
    refine lv_aload_n hx hb dX3_followedBy_47 rfl (lv_at hl 0 rfl) ?_
    obtain ⟨v48, e48, hf⟩ := zb hf
    refine zr_gi (ci := 3) (k := 2) (C := RX3) (T := TX3) (N := 3) hx hb hts hi_X3_followedBy_3 hown hK hP e48 rfl rfl (by decide) (by decide) (hts (.fieldLink RX3 16 "BoundaryAnalyzer$Part" "canBeEmpty" "Z") (List.mem_of_getElem? (i := 1) rfl)) dX3_followedBy_48 ?_
    refine lv_if_eq (tgt := 65) hx hb dX3_followedBy_51 (by decide) (fun c51 => ?_) (fun c51 => ?_)
    · have hf := (if_pos c51).symm.trans hf
      exact J65 _ _ _ _ _ _ _ hf hP hS (lv_sub hl [] rfl)
    · have hf := (if_neg c51).symm.trans hf
      refine lv_aload_n hx hb dX3_followedBy_54 rfl (lv_at hl 1 rfl) ?_
      obtain ⟨v55, e55, hf⟩ := zb hf
      refine zr_gi (ci := 3) (k := 2) (C := RX3) (T := TX3) (N := 3) hx hb hts hi_X3_followedBy_3 hown hK hP e55 rfl rfl (by decide) (by decide) (hts (.fieldLink RX3 16 "BoundaryAnalyzer$Part" "canBeEmpty" "Z") (List.mem_of_getElem? (i := 1) rfl)) dX3_followedBy_55 ?_
      refine lv_if_eq (tgt := 65) hx hb dX3_followedBy_58 (by decide) (fun c58 => ?_) (fun c58 => ?_)
      · have hf := (if_pos c58).symm.trans hf
        exact J65 _ _ _ _ _ _ _ hf hP hS (lv_sub hl [] rfl)
      · have hf := (if_neg c58).symm.trans hf
        refine lv_iconst (v := (1 : Int32)) hx hb dX3_followedBy_61 (by decide) ?_
        refine lv_goto (tgt := 66) hx hb dX3_followedBy_62 (by decide) ?_
        exact J66 _ _ _ _ _ _ _ _ hf hP hS (lv_sub hl [] rfl)
  have J24 : ∀ (M : Mem) (H : Heap) (locs : List Loc) (ls : Array Slot) (h0 : Nat) (h1 : Nat) (g0 : Nat) (y1 : Int32), fX3_followedBy_24  M h0 h1 g0 y1 = some rr → zH D cy b M H → va_S (zA b) s.heap H locs → lv_has ls 2 [(0, .ref (b + h0)), (1, .ref (b + h1))] → W p l e (headSpec wsX3_followedBy ({ frames := 1, cells := 0, slots := 0, locals := 23 } : Room)).room s m ([.ref (b + p0), .ref (b + p1)] : List Value).toArray below meth c H locs 0 0 (MQ below (zQv D cy b rr) ([.ref (b + p0), .ref (b + p1)] : List Value).toArray s 0 0 (zA b)) (F0 m 24 ls [.int y1, .ref (b + g0)]) := by
    intro M H locs ls h0 h1 g0 y1 hf hP hS hl
    unfold fX3_followedBy_24 at hf
    refine lv_aload_n hx hb dX3_followedBy_24 rfl (lv_at hl 1 rfl) ?_
    obtain ⟨v25, e25, hf⟩ := zb hf
    refine zr_gi (ci := 3) (k := 2) (C := RX3) (T := TX3) (N := 3) hx hb hts hi_X3_followedBy_3 hown hK hP e25 rfl rfl (by decide) (by decide) (hts (.fieldLink RX3 16 "BoundaryAnalyzer$Part" "canBeEmpty" "Z") (List.mem_of_getElem? (i := 1) rfl)) dX3_followedBy_25 ?_
    refine lv_if_eq (tgt := 43) hx hb dX3_followedBy_28 (by decide) (fun c28 => ?_) (fun c28 => ?_)
    · have hf := (if_pos c28).symm.trans hf
      refine lv_aload_n hx hb dX3_followedBy_43 rfl (lv_at hl 1 rfl) ?_
      obtain ⟨v44, e44, hf⟩ := zb hf
      refine zr_gi (ci := 3) (k := 1) (C := RX3) (T := TX3) (N := 3) hx hb hts hi_X3_followedBy_3 hown hK hP e44 rfl rfl (by decide) (by decide) (hts (.fieldLink RX3 13 "BoundaryAnalyzer$Part" "last" "I") (List.mem_of_getElem? (i := 3) rfl)) dX3_followedBy_44 ?_
      exact J47 _ _ _ _ _ _ _ _ _ hf hP hS (lv_sub hl [0, 1] rfl)
    · have hf := (if_neg c28).symm.trans hf
      refine lv_aload_n hx hb dX3_followedBy_31 rfl (lv_at hl 0 rfl) ?_
      obtain ⟨v32, e32, hf⟩ := zb hf
      refine zr_gi (ci := 3) (k := 1) (C := RX3) (T := TX3) (N := 3) hx hb hts hi_X3_followedBy_3 hown hK hP e32 rfl rfl (by decide) (by decide) (hts (.fieldLink RX3 13 "BoundaryAnalyzer$Part" "last" "I") (List.mem_of_getElem? (i := 3) rfl)) dX3_followedBy_32 ?_
      refine lv_aload_n hx hb dX3_followedBy_35 rfl (lv_at hl 1 rfl) ?_
      obtain ⟨v36, e36, hf⟩ := zb hf
      refine zr_gi (ci := 3) (k := 1) (C := RX3) (T := TX3) (N := 3) hx hb hts hi_X3_followedBy_3 hown hK hP e36 rfl rfl (by decide) (by decide) (hts (.fieldLink RX3 13 "BoundaryAnalyzer$Part" "last" "I") (List.mem_of_getElem? (i := 3) rfl)) dX3_followedBy_36 ?_
      refine lv_ior hx hb dX3_followedBy_39 ?_
      refine lv_goto (tgt := 47) hx hb dX3_followedBy_40 (by decide) ?_
      exact J47 _ _ _ _ _ _ _ _ _ hf hP hS (lv_sub hl [0, 1] rfl)
  unfold fX3_followedBy at hf
  refine lv_aload_n hx hb dX3_followedBy_0 rfl (lv_at hl 0 rfl) ?_
  refine lv_aload_n hx hb dX3_followedBy_1 rfl (lv_at hl 0 rfl) ?_
  obtain ⟨v2, e2, hf⟩ := zb hf
  refine zr_gi (ci := 3) (k := 2) (C := RX3) (T := TX3) (N := 3) hx hb hts hi_X3_followedBy_3 hown hK hP e2 rfl rfl (by decide) (by decide) (hts (.fieldLink RX3 16 "BoundaryAnalyzer$Part" "canBeEmpty" "Z") (List.mem_of_getElem? (i := 1) rfl)) dX3_followedBy_2 ?_
  refine lv_if_eq (tgt := 20) hx hb dX3_followedBy_5 (by decide) (fun c5 => ?_) (fun c5 => ?_)
  · have hf := (if_pos c5).symm.trans hf
    refine lv_aload_n hx hb dX3_followedBy_20 rfl (lv_at hl 0 rfl) ?_
    obtain ⟨v21, e21, hf⟩ := zb hf
    refine zr_gi (ci := 3) (k := 0) (C := RX3) (T := TX3) (N := 3) hx hb hts hi_X3_followedBy_3 hown hK hP e21 rfl rfl (by decide) (by decide) (hts (.fieldLink RX3 7 "BoundaryAnalyzer$Part" "first" "I") (List.mem_of_getElem? (i := 2) rfl)) dX3_followedBy_21 ?_
    exact J24 _ _ _ _ _ _ _ _ hf hP hS (lv_sub hl [0, 1] rfl)
  · have hf := (if_neg c5).symm.trans hf
    refine lv_aload_n hx hb dX3_followedBy_8 rfl (lv_at hl 0 rfl) ?_
    obtain ⟨v9, e9, hf⟩ := zb hf
    refine zr_gi (ci := 3) (k := 0) (C := RX3) (T := TX3) (N := 3) hx hb hts hi_X3_followedBy_3 hown hK hP e9 rfl rfl (by decide) (by decide) (hts (.fieldLink RX3 7 "BoundaryAnalyzer$Part" "first" "I") (List.mem_of_getElem? (i := 2) rfl)) dX3_followedBy_9 ?_
    refine lv_aload_n hx hb dX3_followedBy_12 rfl (lv_at hl 1 rfl) ?_
    obtain ⟨v13, e13, hf⟩ := zb hf
    refine zr_gi (ci := 3) (k := 0) (C := RX3) (T := TX3) (N := 3) hx hb hts hi_X3_followedBy_3 hown hK hP e13 rfl rfl (by decide) (by decide) (hts (.fieldLink RX3 7 "BoundaryAnalyzer$Part" "first" "I") (List.mem_of_getElem? (i := 2) rfl)) dX3_followedBy_13 ?_
    refine lv_ior hx hb dX3_followedBy_16 ?_
    refine lv_goto (tgt := 24) hx hb dX3_followedBy_17 (by decide) ?_
    exact J24 _ _ _ _ _ _ _ _ hf hP hS (lv_sub hl [0, 1] rfl)
theorem hi_X4_init_4 : ∀ w ∈ wsX40, w ∈ wsX4_init := fun _ h => List.mem_cons_of_mem _ (List.mem_append_right _ h)
set_option maxHeartbeats 4000000 in
set_option maxRecDepth 100000 in
theorem k_X4_init (l : Launch) (D : va_G) (cy : Nat → ClassId) (b : Nat) (M0 : Mem) (p0 : Nat) (p1 : Int32) (rr : Mem) (hf : fX4_init M0 p0 p1 = some rr) : Met l yX4_init wsX4_init ({ frames := 1, cells := 1, slots := 3000, locals := 40 } : Room) (zPn D cy b M0 [.ref (b + p0), .int p1]) (zQn D cy b rr) 1 3000 (zA b) := by
  refine Met.ofW (cc := cX4_init) (maxL := 2) (ret := none) (by decide) rfl ?_
  intro p e s m args below meth c s₁ B hml hv
  obtain ⟨rfl, hP, hK, hz⟩ := hv
  have hx := B.exec
  have hb := B.bytes
  have hr := B.returns
  have hts := atoms_spec (ws := wsX4_init) B.pre
  have hown : s.vm.findClass RX4 = some m.cls := findClass_of_methodNamed B.named
  have hlocks := B.notSynchronized
  have hin : meth.name = "<init>" := (name_of_methodNamed B.named B.method).1
  have hS : va_S (zA b) s.heap s.heap [] := va_S.rf
  have hl := lv_entry ([.ref (b + p0), .int p1]) (n := 2) (Nat.le_of_ble_eq_true rfl)
  rw [lg_entry_eq]
  generalize (lg_sl ([.ref (b + p0), .int p1]) ++ List.replicate (2 - (lg_sl ([.ref (b + p0), .int p1])).length) Slot.unset).toArray = ls at hl ⊢
  have hl : lv_has ls 2 [(0, .ref (b + p0)), (1, .int p1)] := hl
  have hn : yN M0.1 1 M0 := ⟨Nat.le_refl _, Nat.le_add_right _ _⟩
  refine y_begin (M := M0) ?_
  unfold fX4_init at hf
  refine lv_aload_n hx hb dX4_init_0 rfl (lv_at hl 0 rfl) ?_
  refine W.objInit hx hb hown (hts (.methodLink RX4 1 objectInit) (List.mem_of_getElem? (i := 1) rfl)) (hts (.instanceMethod objectInit) (List.mem_of_getElem? (i := 2) rfl)) (hts _ (List.mem_of_getElem? (i := 3) rfl)) rfl (by rw [hml]; exact hl.1) rfl dX4_init_1 (Nat.le_of_ble_eq_true rfl) (Nat.le_of_ble_eq_true rfl) ?_
  refine W.eq (g2 := F0 m 4 ls []) rfl ?_
  refine lv_aload_n hx hb dX4_init_4 rfl (lv_at hl 0 rfl) ?_
  refine lv_iconst (v := (0 : Int32)) hx hb dX4_init_5 (by decide) ?_
  refine lv_iload_n hx hb dX4_init_6 rfl (lv_at hl 1 rfl) ?_
  refine va_mmax hx hb (by rw [hml]; exact hl.1.symm) hown (hts (.methodLink RX4 7 Lib.Math.max.name) (List.mem_of_getElem? (i := 4) rfl)) (hts (.static Lib.Math.max.name) (List.mem_of_getElem? (i := 5) rfl)) (hts (.initialized "java/lang/Math") (List.mem_of_getElem? (i := 6) rfl)) (hts _ (List.mem_of_getElem? (i := 7) rfl)) (Nat.le_of_ble_eq_true rfl) (Nat.le_of_ble_eq_true rfl) (y_le1 (mc := 1) hn rfl) (y_le2 (mc := 1) hn rfl) dX4_init_7 ?_
  obtain ⟨M10, e10, hf⟩ := zb hf
  refine y_na (mc := 1) (atype := .char) (ty := .char) (t0 := 0) hx hb rfl (hts (.arrayClass .char) (List.mem_of_getElem? (i := 8) rfl)) hK hP hz hS hn e10 rfl (Or.inl ⟨rfl, rfl⟩) (zsL_max _) rfl rfl dX4_init_10 (fun H hP hz hS hn => ?_)
  obtain ⟨M12, e12, hf⟩ := zb hf
  refine y_put (ci := 4) (k := 0) (C := RX4) (T := TX4) (N := 2) hx hb hts hi_X4_init_4 tyX4 tyX4_ok nmX4 hown hK hP hz hS hn e12 rfl rfl (by decide) (by decide) (hts (.fieldLink RX4 13 "BoundaryAnalyzer$Row" "signs" "[C") (List.mem_of_getElem? (i := 9) rfl)) (Or.inr ⟨rfl, hin, rfl⟩) (tyX4_ok 0 (by decide)) rfl rfl dX4_init_12 (fun H locs hP hz hS hn => ?_)
  exact y_ret (mc := 1) hx hb hr hlocks hf hP hz hS hn dX4_init_15
