theorem hi_X9_setClass_9 : ∀ w ∈ wsX90, w ∈ wsX9_setClass := fun _ h => List.mem_cons_of_mem _ (List.mem_append_right _ h)
set_option maxHeartbeats 4000000 in
set_option maxRecDepth 100000 in
theorem k_X9_setClass (l : Launch) (D : va_G) (cy : Nat → ClassId) (b : Nat) (M0 : Mem) (p0 : Nat) (p1 : Int32) (p2 : Int32) (rr : Int32 × Mem) (hf : fX9_setClass M0 p0 p1 p2 = some rr) : Met l yX9_setClass wsX9_setClass ({ frames := 5, cells := 0, slots := 0, locals := 126 } : Room) (zPc D cy b M0 [.ref (b + p0), .int p1, .int p2]) (zQi D cy b rr) 0 0 (zA b) := by
  refine Met.ofW (cc := cX9_setClass) (maxL := 5) (ret := (some .int)) (by decide) rfl ?_
  intro p e s m args below meth c s₁ B hml hv
  obtain ⟨rfl, hP, hK⟩ := hv
  have hx := B.exec
  have hb := B.bytes
  have hr := B.returns
  have hts := atoms_spec (ws := wsX9_setClass) B.pre
  have hown : s.vm.findClass RX9 = some m.cls := findClass_of_methodNamed B.named
  have hlocks := B.notSynchronized
  have hS : va_S (zA b) s.heap s.heap [] := va_S.rf
  have hl := lv_entry ([.ref (b + p0), .int p1, .int p2]) (n := 5) (Nat.le_of_ble_eq_true rfl)
  rw [lg_entry_eq]
  generalize (lg_sl ([.ref (b + p0), .int p1, .int p2]) ++ List.replicate (5 - (lg_sl ([.ref (b + p0), .int p1, .int p2])).length) Slot.unset).toArray = ls at hl ⊢
  have hl : lv_has ls 5 [(0, .ref (b + p0)), (1, .int p1), (2, .int p2)] := hl
  have L41 : ∀ (n41 : Nat) (M : Mem) (H : Heap) (locs : List Loc) (ls : Array Slot) (h0 : Nat) (x2 : Int32) (x3 : Int32) (x4 : Int32), fX9_setClass_41L  n41 M h0 x2 x3 x4 = some rr → zH D cy b M H → va_S (zA b) s.heap H locs → lv_has ls 5 [(0, .ref (b + h0)), (2, .int x2), (3, .int x3), (4, .int x4)] → W p l e (headSpec wsX9_setClass ({ frames := 5, cells := 0, slots := 0, locals := 126 } : Room)).room s m ([.ref (b + p0), .int p1, .int p2] : List Value).toArray below meth c H locs 0 0 (MQ below (zQi D cy b rr) ([.ref (b + p0), .int p1, .int p2] : List Value).toArray s 0 0 (zA b)) (F0 m 41 ls []) := by
    intro n41
    induction n41 with
    | zero =>
      intro M H locs ls h0 x2 x3 x4 hf
      have hf : (none : Option (Int32 × Mem)) = some rr := hf
      cases hf
    | succ n41 ih41 =>
      intro M H locs ls h0 x2 x3 x4 hf hP hS hl
      have hf : fX9_setClass_41  (fX9_setClass_41L  n41) M h0 x2 x3 x4 = some rr := hf
      unfold fX9_setClass_41 at hf
      refine lv_iload hx hb dX9_setClass_41 (lv_at hl 3 rfl) ?_
      refine lv_iconst (v := (3 : Int32)) hx hb dX9_setClass_43 (by decide) ?_
      refine lv_icmp_ge (tgt := 64) hx hb dX9_setClass_44 (by decide) (fun c44 => ?_) (fun c44 => ?_)
      · have hf := (if_pos c44).symm.trans hf
        refine lv_iload_n hx hb dX9_setClass_64 rfl (lv_at hl 2 rfl) ?_
        exact zret_i hx hb hr hlocks hf hP hS dX9_setClass_65
      · have hf := (if_neg c44).symm.trans hf
        refine lv_iload_n hx hb dX9_setClass_47 rfl (lv_at hl 2 rfl) ?_
        refine lv_iload_n hx hb dX9_setClass_48 rfl (lv_at hl 1 rfl) ?_
        refine lv_icmp_eq (tgt := 64) hx hb dX9_setClass_49 (by decide) (fun c49 => ?_) (fun c49 => ?_)
        · have hf := (if_pos c49).symm.trans hf
          refine lv_iload_n hx hb dX9_setClass_64 rfl (lv_at hl 2 rfl) ?_
          exact zret_i hx hb hr hlocks hf hP hS dX9_setClass_65
        · have hf := (if_neg c49).symm.trans hf
          refine lv_aload_n hx hb dX9_setClass_52 rfl (lv_at hl 0 rfl) ?_
          refine lv_iload hx hb dX9_setClass_53 (lv_at hl 3 rfl) ?_
          obtain ⟨u55, t55, hf⟩ := zb hf
          obtain ⟨M55, e55, hf⟩ := zb hf
          refine zc_v hS (va_runV (As := [.int x4]) (rest := []) ⟨hx, hb, hml, hown, hts⟩ (k_X9_analyse l D cy b M h0 x4 M55 e55) (cwV 1 hts gX9_setClass_X9_analyse rfl rfl rfl (by decide +kernel) ⟨Nat.le_of_ble_eq_true rfl, Nat.le_of_ble_eq_true rfl⟩) (zp_V _ hK hP t55 (T := TX9) (N := 54) rfl (by decide)) rfl rfl hl.1 rfl (lv_room (Nat.le_of_ble_eq_true rfl)) dX9_setClass_55 ⟨Nat.zero_le _, Nat.zero_le _⟩) (fun H locs hP hS => ?_)
          obtain ⟨x4_58, q58, hf⟩ := zlt_s hf
          refine lv_iinc (v := x4_58) (lv' := [(4, .int x4_58), (0, .ref (b + h0)), (2, .int x2), (3, .int x3)]) hx hb dX9_setClass_58 hl (k := 3) rfl (by rw [← q58]; rfl) (by decide) rfl (fun ls hl => ?_)
          refine lv_goto (tgt := 41) hx hb dX9_setClass_61 (by decide) ?_
          exact ih41 _ _ _ _ _ _ _ _ hf hP hS (lv_sub hl [1, 2, 3, 0] rfl)
  unfold fX9_setClass at hf
  refine lv_iload_n hx hb dX9_setClass_0 rfl (lv_at hl 1 rfl) ?_
  refine lv_bipush (v := (32 : Int32)) hx hb dX9_setClass_1 (by decide) ?_
  refine lv_bipush (v := (126 : Int32)) hx hb dX9_setClass_3 (by decide) ?_
  obtain ⟨v5, e5, hf⟩ := zb hf
  refine zc_p (va_runS (As := [.int p1, .int (32 : Int32), .int (126 : Int32)]) (rest := []) ⟨hx, hb, hml, hown, hts⟩ (k_X9_in l p1 (32 : Int32) (126 : Int32) v5 e5) (va_cwS 3 hts gX9_setClass_X9_in rfl rfl rfl (by decide +kernel) ⟨Nat.le_of_ble_eq_true rfl, Nat.le_of_ble_eq_true rfl⟩) (zp_p _) rfl rfl hl.1 rfl (lv_room (Nat.le_of_ble_eq_true rfl)) dX9_setClass_5 ⟨Nat.zero_le _, Nat.zero_le _⟩) ?_
  refine lv_if_eq (tgt := 21) hx hb dX9_setClass_8 (by decide) (fun c8 => ?_) (fun c8 => ?_)
  · have hf := (if_pos c8).symm.trans hf
    refine lv_bipush (v := (-2 : Int32)) hx hb dX9_setClass_21 (by decide) ?_
    exact zret_i hx hb hr hlocks hf hP hS dX9_setClass_23
  · have hf := (if_neg c8).symm.trans hf
    refine lv_iload_n hx hb dX9_setClass_11 rfl (lv_at hl 2 rfl) ?_
    refine lv_iconst (v := (0 : Int32)) hx hb dX9_setClass_12 (by decide) ?_
    refine lv_bipush (v := (11 : Int32)) hx hb dX9_setClass_13 (by decide) ?_
    obtain ⟨v15, e15, hf⟩ := zb hf
    refine zc_p (va_runS (As := [.int p2, .int (0 : Int32), .int (11 : Int32)]) (rest := []) ⟨hx, hb, hml, hown, hts⟩ (k_X9_in l p2 (0 : Int32) (11 : Int32) v15 e15) (va_cwS 3 hts gX9_setClass_X9_in rfl rfl rfl (by decide +kernel) ⟨Nat.le_of_ble_eq_true rfl, Nat.le_of_ble_eq_true rfl⟩) (zp_p _) rfl rfl hl.1 rfl (lv_room (Nat.le_of_ble_eq_true rfl)) dX9_setClass_15 ⟨Nat.zero_le _, Nat.zero_le _⟩) ?_
    refine lv_if_ne (tgt := 24) hx hb dX9_setClass_18 (by decide) (fun c18 => ?_) (fun c18 => ?_)
    · have hf := (if_neg c18).symm.trans hf
      refine lv_aload_n hx hb dX9_setClass_24 rfl (lv_at hl 0 rfl) ?_
      obtain ⟨v25, e25, hf⟩ := zb hf
      refine zr_gr (ci := 9) (k := 0) (C := RX9) (T := TX9) (N := 54) hx hb hts hi_X9_setClass_9 hown hK hP e25 rfl rfl (by decide) (by decide) (hts (.fieldLink RX9 7 "BoundaryAnalyzerModel" "classAt" "[I") (List.mem_of_getElem? (i := 1) rfl)) dX9_setClass_25 ?_
      refine lv_iload_n hx hb dX9_setClass_28 rfl (lv_at hl 1 rfl) ?_
      obtain ⟨v29, e29, hf⟩ := zb hf
      refine zr_ai hx hb hK hP e29 dX9_setClass_29 ?_
      refine lv_istore_n (lv' := [(3, .int v29), (0, .ref (b + p0)), (1, .int p1), (2, .int p2)]) hx hb dX9_setClass_30 rfl hl (by decide) rfl (fun ls hl => ?_)
      refine lv_aload_n hx hb dX9_setClass_31 rfl (lv_at hl 1 rfl) ?_
      obtain ⟨v32, e32, hf⟩ := zb hf
      refine zr_gr (ci := 9) (k := 0) (C := RX9) (T := TX9) (N := 54) hx hb hts hi_X9_setClass_9 hown hK hP e32 rfl rfl (by decide) (by decide) (hts (.fieldLink RX9 7 "BoundaryAnalyzerModel" "classAt" "[I") (List.mem_of_getElem? (i := 1) rfl)) dX9_setClass_32 ?_
      refine lv_iload_n hx hb dX9_setClass_35 rfl (lv_at hl 2 rfl) ?_
      refine lv_iload_n hx hb dX9_setClass_36 rfl (lv_at hl 3 rfl) ?_
      obtain ⟨M37, e37, hf⟩ := zb hf
      refine zr_si hx hb hK hP hS e37 dX9_setClass_37 (fun H locs hP _ hS => ?_)
      refine lv_iconst (v := (0 : Int32)) hx hb dX9_setClass_38 (by decide) ?_
      refine lv_istore (lv' := [(4, .int (0 : Int32)), (3, .int v29), (0, .ref (b + p0)), (1, .int p1), (2, .int p2)]) hx hb dX9_setClass_39 hl (by decide) rfl (fun ls hl => ?_)
      exact L41 _ _ _ _ _ _ _ _ _ hf hP hS (lv_sub hl [2, 4, 1, 0] rfl)
    · have hf := (if_pos c18).symm.trans hf
      refine lv_bipush (v := (-2 : Int32)) hx hb dX9_setClass_21 (by decide) ?_
      exact zret_i hx hb hr hlocks hf hP hS dX9_setClass_23
theorem hi_X9_classOf_9 : ∀ w ∈ wsX90, w ∈ wsX9_classOf := fun _ h => List.mem_cons_of_mem _ (List.mem_append_right _ h)
set_option maxHeartbeats 4000000 in
set_option maxRecDepth 100000 in
theorem k_X9_classOf (l : Launch) (D : va_G) (cy : Nat → ClassId) (b : Nat) (M0 : Mem) (p0 : Nat) (p1 : Int32) (rr : Int32 × Mem) (hf : fX9_classOf M0 p0 p1 = some rr) : Met l yX9_classOf wsX9_classOf ({ frames := 1, cells := 0, slots := 0, locals := 22 } : Room) (zPc D cy b M0 [.ref (b + p0), .int p1]) (zQi D cy b rr) 0 0 (zA b) := by
  refine Met.ofW (cc := cX9_classOf) (maxL := 2) (ret := (some .int)) (by decide) rfl ?_
  intro p e s m args below meth c s₁ B hml hv
  obtain ⟨rfl, hP, hK⟩ := hv
  have hx := B.exec
  have hb := B.bytes
  have hr := B.returns
  have hts := atoms_spec (ws := wsX9_classOf) B.pre
  have hown : s.vm.findClass RX9 = some m.cls := findClass_of_methodNamed B.named
  have hlocks := B.notSynchronized
  have hS : va_S (zA b) s.heap s.heap [] := va_S.rf
  have hl := lv_entry ([.ref (b + p0), .int p1]) (n := 2) (Nat.le_of_ble_eq_true rfl)
  rw [lg_entry_eq]
  generalize (lg_sl ([.ref (b + p0), .int p1]) ++ List.replicate (2 - (lg_sl ([.ref (b + p0), .int p1])).length) Slot.unset).toArray = ls at hl ⊢
  have hl : lv_has ls 2 [(0, .ref (b + p0)), (1, .int p1)] := hl
  unfold fX9_classOf at hf
  refine lv_iload_n hx hb dX9_classOf_0 rfl (lv_at hl 1 rfl) ?_
  refine lv_bipush (v := (32 : Int32)) hx hb dX9_classOf_1 (by decide) ?_
  refine lv_bipush (v := (126 : Int32)) hx hb dX9_classOf_3 (by decide) ?_
  obtain ⟨v5, e5, hf⟩ := zb hf
  refine zc_p (va_runS (As := [.int p1, .int (32 : Int32), .int (126 : Int32)]) (rest := []) ⟨hx, hb, hml, hown, hts⟩ (k_X9_in l p1 (32 : Int32) (126 : Int32) v5 e5) (va_cwS 3 hts gX9_classOf_X9_in rfl rfl rfl (by decide +kernel) ⟨Nat.le_of_ble_eq_true rfl, Nat.le_of_ble_eq_true rfl⟩) (zp_p _) rfl rfl hl.1 rfl (lv_room (Nat.le_of_ble_eq_true rfl)) dX9_classOf_5 ⟨Nat.zero_le _, Nat.zero_le _⟩) ?_
  refine lv_if_eq (tgt := 20) hx hb dX9_classOf_8 (by decide) (fun c8 => ?_) (fun c8 => ?_)
  · have hf := (if_pos c8).symm.trans hf
    refine lv_bipush (v := (-2 : Int32)) hx hb dX9_classOf_20 (by decide) ?_
    exact zret_i hx hb hr hlocks hf hP hS dX9_classOf_22
  · have hf := (if_neg c8).symm.trans hf
    refine lv_aload_n hx hb dX9_classOf_11 rfl (lv_at hl 0 rfl) ?_
    obtain ⟨v12, e12, hf⟩ := zb hf
    refine zr_gr (ci := 9) (k := 0) (C := RX9) (T := TX9) (N := 54) hx hb hts hi_X9_classOf_9 hown hK hP e12 rfl rfl (by decide) (by decide) (hts (.fieldLink RX9 7 "BoundaryAnalyzerModel" "classAt" "[I") (List.mem_of_getElem? (i := 1) rfl)) dX9_classOf_12 ?_
    refine lv_iload_n hx hb dX9_classOf_15 rfl (lv_at hl 1 rfl) ?_
    obtain ⟨v16, e16, hf⟩ := zb hf
    refine zr_ai hx hb hK hP e16 dX9_classOf_16 ?_
    refine lv_goto (tgt := 22) hx hb dX9_classOf_17 (by decide) ?_
    exact zret_i hx hb hr hlocks hf hP hS dX9_classOf_22
theorem hi_X9_type_9 : ∀ w ∈ wsX90, w ∈ wsX9_type := fun _ h => List.mem_cons_of_mem _ (List.mem_append_right _ h)
set_option maxHeartbeats 4000000 in
set_option maxRecDepth 100000 in
theorem k_X9_type (l : Launch) (D : va_G) (cy : Nat → ClassId) (b : Nat) (M0 : Mem) (p0 : Nat) (p1 : Int32) (rr : Int32 × Mem) (hf : fX9_type M0 p0 p1 = some rr) : Met l yX9_type wsX9_type ({ frames := 0, cells := 0, slots := 0, locals := 0 } : Room) (zPc D cy b M0 [.ref (b + p0), .int p1]) (zQi D cy b rr) 0 0 (zA b) := by
  refine Met.ofW (cc := cX9_type) (maxL := 2) (ret := (some .int)) (by decide) rfl ?_
  intro p e s m args below meth c s₁ B hml hv
  obtain ⟨rfl, hP, hK⟩ := hv
  have hx := B.exec
  have hb := B.bytes
  have hr := B.returns
  have hts := atoms_spec (ws := wsX9_type) B.pre
  have hown : s.vm.findClass RX9 = some m.cls := findClass_of_methodNamed B.named
  have hlocks := B.notSynchronized
  have hS : va_S (zA b) s.heap s.heap [] := va_S.rf
  have hl := lv_entry ([.ref (b + p0), .int p1]) (n := 2) (Nat.le_of_ble_eq_true rfl)
  rw [lg_entry_eq]
  generalize (lg_sl ([.ref (b + p0), .int p1]) ++ List.replicate (2 - (lg_sl ([.ref (b + p0), .int p1])).length) Slot.unset).toArray = ls at hl ⊢
  have hl : lv_has ls 2 [(0, .ref (b + p0)), (1, .int p1)] := hl
  unfold fX9_type at hf
  refine lv_aload_n hx hb dX9_type_0 rfl (lv_at hl 0 rfl) ?_
  obtain ⟨v1, e1, hf⟩ := zb hf
  refine zr_gi (ci := 9) (k := 1) (C := RX9) (T := TX9) (N := 54) hx hb hts hi_X9_type_9 hown hK hP e1 rfl rfl (by decide) (by decide) (hts (.fieldLink RX9 144 "BoundaryAnalyzerModel" "typed" "I") (List.mem_of_getElem? (i := 1) rfl)) dX9_type_1 ?_
  refine lv_bipush (v := (24 : Int32)) hx hb dX9_type_4 (by decide) ?_
  refine lv_icmp_ne (tgt := 12) hx hb dX9_type_6 (by decide) (fun c6 => ?_) (fun c6 => ?_)
  · have hf := (if_neg c6).symm.trans hf
    refine lv_aload_n hx hb dX9_type_12 rfl (lv_at hl 0 rfl) ?_
    obtain ⟨v13, e13, hf⟩ := zb hf
    refine zr_gr (ci := 9) (k := 2) (C := RX9) (T := TX9) (N := 54) hx hb hts hi_X9_type_9 hown hK hP e13 rfl rfl (by decide) (by decide) (hts (.fieldLink RX9 13 "BoundaryAnalyzerModel" "pattern" "[C") (List.mem_of_getElem? (i := 2) rfl)) dX9_type_13 ?_
    refine lv_aload_n hx hb dX9_type_16 rfl (lv_at hl 0 rfl) ?_
    obtain ⟨v17, e17, hf⟩ := zb hf
    refine zr_gi (ci := 9) (k := 1) (C := RX9) (T := TX9) (N := 54) hx hb hts hi_X9_type_9 hown hK hP e17 rfl rfl (by decide) (by decide) (hts (.fieldLink RX9 144 "BoundaryAnalyzerModel" "typed" "I") (List.mem_of_getElem? (i := 1) rfl)) dX9_type_17 ?_
    refine lv_iload_n hx hb dX9_type_20 rfl (lv_at hl 1 rfl) ?_
    obtain ⟨M21, e21, hf⟩ := zb hf
    refine zr_sc hx hb hK hP hS e21 dX9_type_21 (fun H locs hP _ hS => ?_)
    refine lv_aload_n hx hb dX9_type_22 rfl (lv_at hl 0 rfl) ?_
    refine lv_dup hx hb dX9_type_23 rfl ?_
    obtain ⟨v24, e24, hf⟩ := zb hf
    refine zr_gi (ci := 9) (k := 1) (C := RX9) (T := TX9) (N := 54) hx hb hts hi_X9_type_9 hown hK hP e24 rfl rfl (by decide) (by decide) (hts (.fieldLink RX9 144 "BoundaryAnalyzerModel" "typed" "I") (List.mem_of_getElem? (i := 1) rfl)) dX9_type_24 ?_
    refine lv_iconst (v := (1 : Int32)) hx hb dX9_type_27 (by decide) ?_
    refine lv_iadd hx hb dX9_type_28 ?_
    obtain ⟨M29, e29, hf⟩ := zb hf
    refine zr_pi (ci := 9) (k := 1) (C := RX9) (T := TX9) (N := 54) hx hb hts hi_X9_type_9 tyX9 tyX9_ok nmX9 hown hK hP hS e29 rfl rfl (by decide) (by decide) (hts (.fieldLink RX9 144 "BoundaryAnalyzerModel" "typed" "I") (List.mem_of_getElem? (i := 1) rfl)) rfl (tyX9_ok 1 (by decide)) dX9_type_29 (fun H locs hP _ hS => ?_)
    refine lv_aload_n hx hb dX9_type_32 rfl (lv_at hl 0 rfl) ?_
    obtain ⟨v33, e33, hf⟩ := zb hf
    refine zr_gi (ci := 9) (k := 1) (C := RX9) (T := TX9) (N := 54) hx hb hts hi_X9_type_9 hown hK hP e33 rfl rfl (by decide) (by decide) (hts (.fieldLink RX9 144 "BoundaryAnalyzerModel" "typed" "I") (List.mem_of_getElem? (i := 1) rfl)) dX9_type_33 ?_
    exact zret_i hx hb hr hlocks hf hP hS dX9_type_36
  · have hf := (if_pos c6).symm.trans hf
    refine lv_bipush (v := (-3 : Int32)) hx hb dX9_type_9 (by decide) ?_
    exact zret_i hx hb hr hlocks hf hP hS dX9_type_11
theorem hi_X9_clearPattern_9 : ∀ w ∈ wsX90, w ∈ wsX9_clearPattern := fun _ h => List.mem_cons_of_mem _ (List.mem_append_right _ h)
set_option maxHeartbeats 4000000 in
set_option maxRecDepth 100000 in
theorem k_X9_clearPattern (l : Launch) (D : va_G) (cy : Nat → ClassId) (b : Nat) (M0 : Mem) (p0 : Nat) (rr : Int32 × Mem) (hf : fX9_clearPattern M0 p0 = some rr) : Met l yX9_clearPattern wsX9_clearPattern ({ frames := 0, cells := 0, slots := 0, locals := 0 } : Room) (zPc D cy b M0 [.ref (b + p0)]) (zQi D cy b rr) 0 0 (zA b) := by
  refine Met.ofW (cc := cX9_clearPattern) (maxL := 2) (ret := (some .int)) (by decide) rfl ?_
  intro p e s m args below meth c s₁ B hml hv
  obtain ⟨rfl, hP, hK⟩ := hv
  have hx := B.exec
  have hb := B.bytes
  have hr := B.returns
  have hts := atoms_spec (ws := wsX9_clearPattern) B.pre
  have hown : s.vm.findClass RX9 = some m.cls := findClass_of_methodNamed B.named
  have hlocks := B.notSynchronized
  have hS : va_S (zA b) s.heap s.heap [] := va_S.rf
  have hl := lv_entry ([.ref (b + p0)]) (n := 2) (Nat.le_of_ble_eq_true rfl)
  rw [lg_entry_eq]
  generalize (lg_sl ([.ref (b + p0)]) ++ List.replicate (2 - (lg_sl ([.ref (b + p0)])).length) Slot.unset).toArray = ls at hl ⊢
  have hl : lv_has ls 2 [(0, .ref (b + p0))] := hl
  unfold fX9_clearPattern at hf
  refine lv_aload_n hx hb dX9_clearPattern_0 rfl (lv_at hl 0 rfl) ?_
  obtain ⟨v1, e1, hf⟩ := zb hf
  refine zr_gi (ci := 9) (k := 1) (C := RX9) (T := TX9) (N := 54) hx hb hts hi_X9_clearPattern_9 hown hK hP e1 rfl rfl (by decide) (by decide) (hts (.fieldLink RX9 144 "BoundaryAnalyzerModel" "typed" "I") (List.mem_of_getElem? (i := 1) rfl)) dX9_clearPattern_1 ?_
  refine lv_istore_n (lv' := [(1, .int v1), (0, .ref (b + p0))]) hx hb dX9_clearPattern_4 rfl hl (by decide) rfl (fun ls hl => ?_)
  refine lv_aload_n hx hb dX9_clearPattern_5 rfl (lv_at hl 1 rfl) ?_
  refine lv_iconst (v := (0 : Int32)) hx hb dX9_clearPattern_6 (by decide) ?_
  obtain ⟨M7, e7, hf⟩ := zb hf
  refine zr_pi (ci := 9) (k := 1) (C := RX9) (T := TX9) (N := 54) hx hb hts hi_X9_clearPattern_9 tyX9 tyX9_ok nmX9 hown hK hP hS e7 rfl rfl (by decide) (by decide) (hts (.fieldLink RX9 144 "BoundaryAnalyzerModel" "typed" "I") (List.mem_of_getElem? (i := 1) rfl)) rfl (tyX9_ok 1 (by decide)) dX9_clearPattern_7 (fun H locs hP _ hS => ?_)
  refine lv_iload_n hx hb dX9_clearPattern_10 rfl (lv_at hl 0 rfl) ?_
  exact zret_i hx hb hr hlocks hf hP hS dX9_clearPattern_11
