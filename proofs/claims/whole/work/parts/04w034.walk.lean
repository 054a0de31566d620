theorem hi_X8_stateAt_2 : ∀ w ∈ wsX20, w ∈ wsX8_stateAt := fun _ h => List.mem_cons_of_mem _ (List.mem_append_right _ h)
theorem hi_X8_stateAt_4 : ∀ w ∈ wsX40, w ∈ wsX8_stateAt := fun _ h => List.mem_cons_of_mem _ (List.mem_append_left _ (List.mem_append_right _ h))
theorem hi_X8_stateAt_7 : ∀ w ∈ wsX70, w ∈ wsX8_stateAt := fun _ h => List.mem_cons_of_mem _ (List.mem_append_left _ (List.mem_append_left _ (List.mem_append_right _ h)))
theorem hi_X8_stateAt_8 : ∀ w ∈ wsX80, w ∈ wsX8_stateAt := fun _ h => List.mem_cons_of_mem _ (List.mem_append_left _ (List.mem_append_left _ (List.mem_append_left _ (List.mem_append_right _ h))))
set_option maxHeartbeats 4000000 in
set_option maxRecDepth 100000 in
theorem k_X8_stateAt (l : Launch) (D : va_G) (cy : Nat → ClassId) (b : Nat) (M0 : Mem) (p0 : Nat) (p1 : Int32) (p2 : Int32) (rr : Int32 × Mem) (hf : fX8_stateAt M0 p0 p1 p2 = some rr) : Met l yX8_stateAt wsX8_stateAt ({ frames := 5, cells := 0, slots := 0, locals := 113 } : Room) (zPc D cy b M0 [.ref (b + p0), .int p1, .int p2]) (zQi D cy b rr) 0 0 (zA b) := by
  refine Met.ofW (cc := cX8_stateAt) (maxL := 4) (ret := (some .int)) (by decide) rfl ?_
  intro p e s m args below meth c s₁ B hml hv
  obtain ⟨rfl, hP, hK⟩ := hv
  have hx := B.exec
  have hb := B.bytes
  have hr := B.returns
  have hts := atoms_spec (ws := wsX8_stateAt) B.pre
  have hown : s.vm.findClass RX8 = some m.cls := findClass_of_methodNamed B.named
  have hlocks := B.notSynchronized
  have hS : va_S (zA b) s.heap s.heap [] := va_S.rf
  have hl := lv_entry ([.ref (b + p0), .int p1, .int p2]) (n := 4) (Nat.le_of_ble_eq_true rfl)
  rw [lg_entry_eq]
  generalize (lg_sl ([.ref (b + p0), .int p1, .int p2]) ++ List.replicate (4 - (lg_sl ([.ref (b + p0), .int p1, .int p2])).length) Slot.unset).toArray = ls at hl ⊢
  have hl : lv_has ls 4 [(0, .ref (b + p0)), (1, .int p1), (2, .int p2)] := hl
  have J48 : ∀ (M : Mem) (H : Heap) (locs : List Loc) (ls : Array Slot) (h0 : Nat) (x1 : Int32) (x2 : Int32) (y0 : Int32), fX8_stateAt_48  M h0 x1 x2 y0 = some rr → zH D cy b M H → va_S (zA b) s.heap H locs → lv_has ls 4 [(0, .ref (b + h0)), (1, .int x1), (2, .int x2)] → W p l e (headSpec wsX8_stateAt ({ frames := 5, cells := 0, slots := 0, locals := 113 } : Room)).room s m ([.ref (b + p0), .int p1, .int p2] : List Value).toArray below meth c H locs 0 0 (MQ below (zQi D cy b rr) ([.ref (b + p0), .int p1, .int p2] : List Value).toArray s 0 0 (zA b)) (F0 m 48 ls [.int y0]) := by
    intro M H locs ls h0 x1 x2 y0 hf hP hS hl
    unfold fX8_stateAt_48 at hf
    refine lv_istore_n (lv' := [(3, .int y0), (0, .ref (b + h0)), (1, .int x1), (2, .int x2)]) hx hb dX8_stateAt_48 rfl hl (by decide) rfl (fun ls hl => ?_)
    refine lv_iload_n hx hb dX8_stateAt_49 rfl (lv_at hl 2 rfl) ?_
    refine lv_iconst (v := (2 : Int32)) hx hb dX8_stateAt_50 (by decide) ?_
    refine lv_icmp_ne (tgt := 68) hx hb dX8_stateAt_51 (by decide) (fun c51 => ?_) (fun c51 => ?_)
    · have hf := (if_neg c51).symm.trans hf
      refine lv_iconst (v := (1 : Int32)) hx hb dX8_stateAt_68 (by decide) ?_
      exact zret_i hx hb hr hlocks hf hP hS dX8_stateAt_69
    · have hf := (if_pos c51).symm.trans hf
      refine lv_iload_n hx hb dX8_stateAt_54 rfl (lv_at hl 0 rfl) ?_
      refine lv_if_eq (tgt := 68) hx hb dX8_stateAt_55 (by decide) (fun c55 => ?_) (fun c55 => ?_)
      · have hf := (if_pos c55).symm.trans hf
        refine lv_iconst (v := (1 : Int32)) hx hb dX8_stateAt_68 (by decide) ?_
        exact zret_i hx hb hr hlocks hf hP hS dX8_stateAt_69
      · have hf := (if_neg c55).symm.trans hf
        refine lv_aload_n hx hb dX8_stateAt_58 rfl (lv_at hl 1 rfl) ?_
        refine lv_iload_n hx hb dX8_stateAt_59 rfl (lv_at hl 3 rfl) ?_
        obtain ⟨u60, t60, hf⟩ := zb hf
        obtain ⟨r60, e60, hf⟩ := zb hf
        refine zc_i hS (va_runV (As := [.int x2]) (rest := []) ⟨hx, hb, hml, hown, hts⟩ (k_X8_isBehindException l D cy b M h0 x2 r60 e60) (cwV 1 hts gX8_stateAt_X8_isBehindException rfl rfl rfl (by decide +kernel) ⟨Nat.le_of_ble_eq_true rfl, Nat.le_of_ble_eq_true rfl⟩) (zp_V _ hK hP t60 (T := TX8) (N := 7) rfl (by decide)) rfl rfl hl.1 rfl (lv_room (Nat.le_of_ble_eq_true rfl)) dX8_stateAt_60 ⟨Nat.zero_le _, Nat.zero_le _⟩) (fun H locs hP hS => ?_)
        refine lv_if_eq (tgt := 68) hx hb dX8_stateAt_63 (by decide) (fun c63 => ?_) (fun c63 => ?_)
        · have hf := (if_pos c63).symm.trans hf
          refine lv_iconst (v := (1 : Int32)) hx hb dX8_stateAt_68 (by decide) ?_
          exact zret_i hx hb hr hlocks hf hP hS dX8_stateAt_69
        · have hf := (if_neg c63).symm.trans hf
          refine lv_iconst (v := (2 : Int32)) hx hb dX8_stateAt_66 (by decide) ?_
          exact zret_i hx hb hr hlocks hf hP hS dX8_stateAt_67
  have J47 : ∀ (M : Mem) (H : Heap) (locs : List Loc) (ls : Array Slot) (h0 : Nat) (x1 : Int32) (x2 : Int32), fX8_stateAt_47  M h0 x1 x2 = some rr → zH D cy b M H → va_S (zA b) s.heap H locs → lv_has ls 4 [(0, .ref (b + h0)), (1, .int x1), (2, .int x2)] → W p l e (headSpec wsX8_stateAt ({ frames := 5, cells := 0, slots := 0, locals := 113 } : Room)).room s m ([.ref (b + p0), .int p1, .int p2] : List Value).toArray below meth c H locs 0 0 (MQ below (zQi D cy b rr) ([.ref (b + p0), .int p1, .int p2] : List Value).toArray s 0 0 (zA b)) (F0 m 47 ls []) := by
    intro M H locs ls h0 x1 x2 hf hP hS hl
    unfold fX8_stateAt_47 at hf
    refine lv_iconst (v := (0 : Int32)) hx hb dX8_stateAt_47 (by decide) ?_
    exact J48 _ _ _ _ _ _ _ _ hf hP hS (lv_sub hl [0, 1, 2] rfl)
  unfold fX8_stateAt at hf
  refine lv_aload_n hx hb dX8_stateAt_0 rfl (lv_at hl 0 rfl) ?_
  obtain ⟨v1, e1, hf⟩ := zb hf
  refine zr_gr (ci := 8) (k := 2) (C := RX8) (T := TX8) (N := 7) hx hb hts hi_X8_stateAt_8 hown hK hP e1 rfl rfl (by decide) (by decide) (hts (.fieldLink RX8 27 "BoundaryAnalyzer" "kinds" "[LBoundaryAnalyzer$Kind;") (List.mem_of_getElem? (i := 1) rfl)) dX8_stateAt_1 ?_
  refine lv_iload_n hx hb dX8_stateAt_4 rfl (lv_at hl 1 rfl) ?_
  obtain ⟨v5, e5, hf⟩ := zb hf
  refine zr_aa (t0 := 4) hx hb hK hP e5 (by decide) rfl dX8_stateAt_5 ?_
  refine lv_iload_n hx hb dX8_stateAt_6 rfl (lv_at hl 2 rfl) ?_
  refine lv_aload_n hx hb dX8_stateAt_7 rfl (lv_at hl 0 rfl) ?_
  obtain ⟨v8, e8, hf⟩ := zb hf
  refine zr_gr (ci := 8) (k := 0) (C := RX8) (T := TX8) (N := 7) hx hb hts hi_X8_stateAt_8 hown hK hP e8 rfl rfl (by decide) (by decide) (hts (.fieldLink RX8 10 "BoundaryAnalyzer" "text" "LBoundaryAnalyzer$Text;") (List.mem_of_getElem? (i := 2) rfl)) dX8_stateAt_8 ?_
  obtain ⟨v11, e11, hf⟩ := zb hf
  refine zr_gr (ci := 7) (k := 0) (C := RX7) (T := TX7) (N := 2) hx hb hts hi_X8_stateAt_7 hown hK hP e11 rfl rfl (by decide) (by decide) (hts (.fieldLink RX8 134 "BoundaryAnalyzer$Text" "signs" "LBoundaryAnalyzer$Row;") (List.mem_of_getElem? (i := 3) rfl)) dX8_stateAt_11 ?_
  obtain ⟨v14, e14, hf⟩ := zb hf
  refine zr_gi (ci := 4) (k := 1) (C := RX4) (T := TX4) (N := 2) hx hb hts hi_X8_stateAt_4 hown hK hP e14 rfl rfl (by decide) (by decide) (hts (.fieldLink RX8 70 "BoundaryAnalyzer$Row" "size" "I") (List.mem_of_getElem? (i := 4) rfl)) dX8_stateAt_14 ?_
  obtain ⟨u17, t17, hf⟩ := zb hf
  obtain ⟨r17, e17, hf⟩ := zb hf
  refine zc_i hS (va_runV (As := [.int p2, .int v14]) (rest := []) ⟨hx, hb, hml, hown, hts⟩ (k_X2_isRaw l D cy b M0 v5 p2 v14 r17 e17) (cwV 2 hts gX8_stateAt_X2_isRaw rfl rfl rfl (by decide +kernel) ⟨Nat.le_of_ble_eq_true rfl, Nat.le_of_ble_eq_true rfl⟩) (zp_V _ hK hP t17 (T := TX2) (N := 5) rfl (by decide)) rfl rfl hl.1 rfl (lv_room (Nat.le_of_ble_eq_true rfl)) dX8_stateAt_17 ⟨Nat.zero_le _, Nat.zero_le _⟩) (fun H locs hP hS => ?_)
  refine lv_if_ne (tgt := 25) hx hb dX8_stateAt_20 (by decide) (fun c20 => ?_) (fun c20 => ?_)
  · have hf := (if_neg c20).symm.trans hf
    refine lv_iload_n hx hb dX8_stateAt_25 rfl (lv_at hl 2 rfl) ?_
    refine lv_if_le (tgt := 47) hx hb dX8_stateAt_26 (by decide) (fun c26 => ?_) (fun c26 => ?_)
    · have hf := (if_pos c26).symm.trans hf
      exact J47 _ _ _ _ _ _ _ hf hP hS (lv_sub hl [0, 1, 2] rfl)
    · have hf := (if_neg c26).symm.trans hf
      refine lv_iload_n hx hb dX8_stateAt_29 rfl (lv_at hl 2 rfl) ?_
      refine lv_aload_n hx hb dX8_stateAt_30 rfl (lv_at hl 0 rfl) ?_
      obtain ⟨v31, e31, hf⟩ := zb hf
      refine zr_gr (ci := 8) (k := 0) (C := RX8) (T := TX8) (N := 7) hx hb hts hi_X8_stateAt_8 hown hK hP e31 rfl rfl (by decide) (by decide) (hts (.fieldLink RX8 10 "BoundaryAnalyzer" "text" "LBoundaryAnalyzer$Text;") (List.mem_of_getElem? (i := 2) rfl)) dX8_stateAt_31 ?_
      obtain ⟨v34, e34, hf⟩ := zb hf
      refine zr_gr (ci := 7) (k := 0) (C := RX7) (T := TX7) (N := 2) hx hb hts hi_X8_stateAt_7 hown hK hP e34 rfl rfl (by decide) (by decide) (hts (.fieldLink RX8 134 "BoundaryAnalyzer$Text" "signs" "LBoundaryAnalyzer$Row;") (List.mem_of_getElem? (i := 3) rfl)) dX8_stateAt_34 ?_
      obtain ⟨v37, e37, hf⟩ := zb hf
      refine zr_gi (ci := 4) (k := 1) (C := RX4) (T := TX4) (N := 2) hx hb hts hi_X8_stateAt_4 hown hK hP e37 rfl rfl (by decide) (by decide) (hts (.fieldLink RX8 70 "BoundaryAnalyzer$Row" "size" "I") (List.mem_of_getElem? (i := 4) rfl)) dX8_stateAt_37 ?_
      refine lv_icmp_ge (tgt := 47) hx hb dX8_stateAt_40 (by decide) (fun c40 => ?_) (fun c40 => ?_)
      · have hf := (if_pos c40).symm.trans hf
        exact J47 _ _ _ _ _ _ _ hf hP hS (lv_sub hl [0, 1, 2] rfl)
      · have hf := (if_neg c40).symm.trans hf
        refine lv_iconst (v := (1 : Int32)) hx hb dX8_stateAt_43 (by decide) ?_
        refine lv_goto (tgt := 48) hx hb dX8_stateAt_44 (by decide) ?_
        exact J48 _ _ _ _ _ _ _ _ hf hP hS (lv_sub hl [0, 1, 2] rfl)
  · have hf := (if_pos c20).symm.trans hf
    refine lv_iconst (v := (0 : Int32)) hx hb dX8_stateAt_23 (by decide) ?_
    exact zret_i hx hb hr hlocks hf hP hS dX8_stateAt_24
theorem hi_X8_boundaryAt_8 : ∀ w ∈ wsX80, w ∈ wsX8_boundaryAt := fun _ h => List.mem_cons_of_mem _ (List.mem_append_left _ (List.mem_append_left _ (List.mem_append_left _ (List.mem_append_right _ h))))
set_option maxHeartbeats 4000000 in
set_option maxRecDepth 100000 in
theorem k_X8_boundaryAt (l : Launch) (D : va_G) (cy : Nat → ClassId) (b : Nat) (M0 : Mem) (p0 : Nat) (p1 : Int32) (p2 : Int32) (rr : Int32 × Mem) (hf : fX8_boundaryAt M0 p0 p1 p2 = some rr) : Met l yX8_boundaryAt wsX8_boundaryAt ({ frames := 6, cells := 0, slots := 0, locals := 136 } : Room) (zPc D cy b M0 [.ref (b + p0), .int p1, .int p2]) (zQi D cy b rr) 0 0 (zA b) := by
  refine Met.ofW (cc := cX8_boundaryAt) (maxL := 3) (ret := (some .int)) (by decide) rfl ?_
  intro p e s m args below meth c s₁ B hml hv
  obtain ⟨rfl, hP, hK⟩ := hv
  have hx := B.exec
  have hb := B.bytes
  have hr := B.returns
  have hts := atoms_spec (ws := wsX8_boundaryAt) B.pre
  have hown : s.vm.findClass RX8 = some m.cls := findClass_of_methodNamed B.named
  have hlocks := B.notSynchronized
  have hS : va_S (zA b) s.heap s.heap [] := va_S.rf
  have hl := lv_entry ([.ref (b + p0), .int p1, .int p2]) (n := 3) (Nat.le_of_ble_eq_true rfl)
  rw [lg_entry_eq]
  generalize (lg_sl ([.ref (b + p0), .int p1, .int p2]) ++ List.replicate (3 - (lg_sl ([.ref (b + p0), .int p1, .int p2])).length) Slot.unset).toArray = ls at hl ⊢
  have hl : lv_has ls 3 [(0, .ref (b + p0)), (1, .int p1), (2, .int p2)] := hl
  unfold fX8_boundaryAt at hf
  refine lv_iload_n hx hb dX8_boundaryAt_0 rfl (lv_at hl 1 rfl) ?_
  obtain ⟨v1, e1, hf⟩ := zb hf
  refine zc_p (va_runS (As := [.int p1]) (rest := []) ⟨hx, hb, hml, hown, hts⟩ (k_X8_isKind l p1 v1 e1) (va_cwS 1 hts gX8_boundaryAt_X8_isKind rfl rfl rfl (by decide +kernel) ⟨Nat.le_of_ble_eq_true rfl, Nat.le_of_ble_eq_true rfl⟩) (zp_p _) rfl rfl hl.1 rfl (lv_room (Nat.le_of_ble_eq_true rfl)) dX8_boundaryAt_1 ⟨Nat.zero_le _, Nat.zero_le _⟩) ?_
  refine lv_if_ne (tgt := 10) hx hb dX8_boundaryAt_4 (by decide) (fun c4 => ?_) (fun c4 => ?_)
  · have hf := (if_neg c4).symm.trans hf
    refine lv_aload_n hx hb dX8_boundaryAt_10 rfl (lv_at hl 0 rfl) ?_
    refine lv_iload_n hx hb dX8_boundaryAt_11 rfl (lv_at hl 2 rfl) ?_
    obtain ⟨u12, t12, hf⟩ := zb hf
    obtain ⟨r12, e12, hf⟩ := zb hf
    refine zc_i hS (va_runV (As := [.int p2]) (rest := []) ⟨hx, hb, hml, hown, hts⟩ (k_X8_isPosition l D cy b M0 p0 p2 r12 e12) (cwV 1 hts gX8_boundaryAt_X8_isPosition rfl rfl rfl (by decide +kernel) ⟨Nat.le_of_ble_eq_true rfl, Nat.le_of_ble_eq_true rfl⟩) (zp_V _ hK hP t12 (T := TX8) (N := 7) rfl (by decide)) rfl rfl hl.1 rfl (lv_room (Nat.le_of_ble_eq_true rfl)) dX8_boundaryAt_12 ⟨Nat.zero_le _, Nat.zero_le _⟩) (fun H locs hP hS => ?_)
    refine lv_if_eq (tgt := 27) hx hb dX8_boundaryAt_15 (by decide) (fun c15 => ?_) (fun c15 => ?_)
    · have hf := (if_pos c15).symm.trans hf
      refine lv_iconst (v := (-1 : Int32)) hx hb dX8_boundaryAt_27 (by decide) ?_
      exact zret_i hx hb hr hlocks hf hP hS dX8_boundaryAt_28
    · have hf := (if_neg c15).symm.trans hf
      refine lv_aload_n hx hb dX8_boundaryAt_18 rfl (lv_at hl 0 rfl) ?_
      refine lv_iload_n hx hb dX8_boundaryAt_19 rfl (lv_at hl 1 rfl) ?_
      refine lv_iload_n hx hb dX8_boundaryAt_20 rfl (lv_at hl 2 rfl) ?_
      obtain ⟨u21, t21, hf⟩ := zb hf
      obtain ⟨r21, e21, hf⟩ := zb hf
      refine zc_i hS (va_runV (As := [.int p1, .int p2]) (rest := []) ⟨hx, hb, hml, hown, hts⟩ (k_X8_stateAt l D cy b r12.2 p0 p1 p2 r21 e21) (cwV 2 hts gX8_boundaryAt_X8_stateAt rfl rfl rfl (by decide +kernel) ⟨Nat.le_of_ble_eq_true rfl, Nat.le_of_ble_eq_true rfl⟩) (zp_V _ hK hP t21 (T := TX8) (N := 7) rfl (by decide)) rfl rfl hl.1 rfl (lv_room (Nat.le_of_ble_eq_true rfl)) dX8_boundaryAt_21 ⟨Nat.zero_le _, Nat.zero_le _⟩) (fun H locs hP hS => ?_)
      refine lv_goto (tgt := 28) hx hb dX8_boundaryAt_24 (by decide) ?_
      exact zret_i hx hb hr hlocks hf hP hS dX8_boundaryAt_28
  · have hf := (if_pos c4).symm.trans hf
    refine lv_bipush (v := (-2 : Int32)) hx hb dX8_boundaryAt_7 (by decide) ?_
    exact zret_i hx hb hr hlocks hf hP hS dX8_boundaryAt_9
theorem hi_X8_boundaryBehind_4 : ∀ w ∈ wsX40, w ∈ wsX8_boundaryBehind := fun _ h => List.mem_cons_of_mem _ (List.mem_append_left _ (List.mem_append_right _ h))
theorem hi_X8_boundaryBehind_7 : ∀ w ∈ wsX70, w ∈ wsX8_boundaryBehind := fun _ h => List.mem_cons_of_mem _ (List.mem_append_left _ (List.mem_append_left _ (List.mem_append_right _ h)))
theorem hi_X8_boundaryBehind_8 : ∀ w ∈ wsX80, w ∈ wsX8_boundaryBehind := fun _ h => List.mem_cons_of_mem _ (List.mem_append_left _ (List.mem_append_left _ (List.mem_append_left _ (List.mem_append_right _ h))))
set_option maxHeartbeats 4000000 in
set_option maxRecDepth 100000 in
theorem k_X8_boundaryBehind (l : Launch) (D : va_G) (cy : Nat → ClassId) (b : Nat) (M0 : Mem) (p0 : Nat) (p1 : Int32) (p2 : Int32) (rr : Int32 × Mem) (hf : fX8_boundaryBehind M0 p0 p1 p2 = some rr) : Met l yX8_boundaryBehind wsX8_boundaryBehind ({ frames := 6, cells := 0, slots := 0, locals := 136 } : Room) (zPc D cy b M0 [.ref (b + p0), .int p1, .int p2]) (zQi D cy b rr) 0 0 (zA b) := by
  refine Met.ofW (cc := cX8_boundaryBehind) (maxL := 4) (ret := (some .int)) (by decide) rfl ?_
  intro p e s m args below meth c s₁ B hml hv
  obtain ⟨rfl, hP, hK⟩ := hv
  have hx := B.exec
  have hb := B.bytes
  have hr := B.returns
  have hts := atoms_spec (ws := wsX8_boundaryBehind) B.pre
  have hown : s.vm.findClass RX8 = some m.cls := findClass_of_methodNamed B.named
  have hlocks := B.notSynchronized
  have hS : va_S (zA b) s.heap s.heap [] := va_S.rf
  have hl := lv_entry ([.ref (b + p0), .int p1, .int p2]) (n := 4) (Nat.le_of_ble_eq_true rfl)
  rw [lg_entry_eq]
  generalize (lg_sl ([.ref (b + p0), .int p1, .int p2]) ++ List.replicate (4 - (lg_sl ([.ref (b + p0), .int p1, .int p2])).length) Slot.unset).toArray = ls at hl ⊢
  have hl : lv_has ls 4 [(0, .ref (b + p0)), (1, .int p1), (2, .int p2)] := hl
  have L4 : ∀ (n4 : Nat) (M : Mem) (H : Heap) (locs : List Loc) (ls : Array Slot) (h0 : Nat) (x1 : Int32) (x3 : Int32), fX8_boundaryBehind_4L  n4 M h0 x1 x3 = some rr → zH D cy b M H → va_S (zA b) s.heap H locs → lv_has ls 4 [(0, .ref (b + h0)), (1, .int x1), (3, .int x3)] → W p l e (headSpec wsX8_boundaryBehind ({ frames := 6, cells := 0, slots := 0, locals := 136 } : Room)).room s m ([.ref (b + p0), .int p1, .int p2] : List Value).toArray below meth c H locs 0 0 (MQ below (zQi D cy b rr) ([.ref (b + p0), .int p1, .int p2] : List Value).toArray s 0 0 (zA b)) (F0 m 4 ls []) := by
    intro n4
    induction n4 with
    | zero =>
      intro M H locs ls h0 x1 x3 hf
      have hf : (none : Option (Int32 × Mem)) = some rr := hf
      cases hf
    | succ n4 ih4 =>
      intro M H locs ls h0 x1 x3 hf hP hS hl
      have hf : fX8_boundaryBehind_4  (fX8_boundaryBehind_4L  n4) M h0 x1 x3 = some rr := hf
      unfold fX8_boundaryBehind_4 at hf
      refine lv_iload_n hx hb dX8_boundaryBehind_4 rfl (lv_at hl 2 rfl) ?_
      refine lv_aload_n hx hb dX8_boundaryBehind_5 rfl (lv_at hl 0 rfl) ?_
      obtain ⟨v6, e6, hf⟩ := zb hf
      refine zr_gr (ci := 8) (k := 0) (C := RX8) (T := TX8) (N := 7) hx hb hts hi_X8_boundaryBehind_8 hown hK hP e6 rfl rfl (by decide) (by decide) (hts (.fieldLink RX8 10 "BoundaryAnalyzer" "text" "LBoundaryAnalyzer$Text;") (List.mem_of_getElem? (i := 1) rfl)) dX8_boundaryBehind_6 ?_
      obtain ⟨v9, e9, hf⟩ := zb hf
      refine zr_gr (ci := 7) (k := 0) (C := RX7) (T := TX7) (N := 2) hx hb hts hi_X8_boundaryBehind_7 hown hK hP e9 rfl rfl (by decide) (by decide) (hts (.fieldLink RX8 134 "BoundaryAnalyzer$Text" "signs" "LBoundaryAnalyzer$Row;") (List.mem_of_getElem? (i := 2) rfl)) dX8_boundaryBehind_9 ?_
      obtain ⟨v12, e12, hf⟩ := zb hf
      refine zr_gi (ci := 4) (k := 1) (C := RX4) (T := TX4) (N := 2) hx hb hts hi_X8_boundaryBehind_4 hown hK hP e12 rfl rfl (by decide) (by decide) (hts (.fieldLink RX8 70 "BoundaryAnalyzer$Row" "size" "I") (List.mem_of_getElem? (i := 3) rfl)) dX8_boundaryBehind_12 ?_
      refine lv_icmp_gt (tgt := 36) hx hb dX8_boundaryBehind_15 (by decide) (fun c15 => ?_) (fun c15 => ?_)
      · have hf := (if_pos c15).symm.trans hf
        refine lv_bipush (v := (-5 : Int32)) hx hb dX8_boundaryBehind_36 (by decide) ?_
        exact zret_i hx hb hr hlocks hf hP hS dX8_boundaryBehind_38
      · have hf := (if_neg c15).symm.trans hf
        refine lv_aload_n hx hb dX8_boundaryBehind_18 rfl (lv_at hl 0 rfl) ?_
        refine lv_iload_n hx hb dX8_boundaryBehind_19 rfl (lv_at hl 1 rfl) ?_
        refine lv_iload_n hx hb dX8_boundaryBehind_20 rfl (lv_at hl 2 rfl) ?_
        obtain ⟨u21, t21, hf⟩ := zb hf
        obtain ⟨r21, e21, hf⟩ := zb hf
        refine zc_i hS (va_runV (As := [.int x1, .int x3]) (rest := []) ⟨hx, hb, hml, hown, hts⟩ (k_X8_stateAt l D cy b M h0 x1 x3 r21 e21) (cwV 2 hts gX8_boundaryBehind_X8_stateAt rfl rfl rfl (by decide +kernel) ⟨Nat.le_of_ble_eq_true rfl, Nat.le_of_ble_eq_true rfl⟩) (zp_V _ hK hP t21 (T := TX8) (N := 7) rfl (by decide)) rfl rfl hl.1 rfl (lv_room (Nat.le_of_ble_eq_true rfl)) dX8_boundaryBehind_21 ⟨Nat.zero_le _, Nat.zero_le _⟩) (fun H locs hP hS => ?_)
        refine lv_iconst (v := (1 : Int32)) hx hb dX8_boundaryBehind_24 (by decide) ?_
        refine lv_icmp_ne (tgt := 30) hx hb dX8_boundaryBehind_25 (by decide) (fun c25 => ?_) (fun c25 => ?_)
        · have hf := (if_neg c25).symm.trans hf
          obtain ⟨x3_30, q30, hf⟩ := zlt_s hf
          refine lv_iinc (v := x3_30) (lv' := [(3, .int x3_30), (0, .ref (b + h0)), (1, .int x1)]) hx hb dX8_boundaryBehind_30 hl (k := 2) rfl (by rw [← q30]; rfl) (by decide) rfl (fun ls hl => ?_)
          refine lv_goto (tgt := 4) hx hb dX8_boundaryBehind_33 (by decide) ?_
          exact ih4 _ _ _ _ _ _ _ hf hP hS (lv_sub hl [1, 2, 0] rfl)
        · have hf := (if_pos c25).symm.trans hf
          refine lv_iload_n hx hb dX8_boundaryBehind_28 rfl (lv_at hl 2 rfl) ?_
          exact zret_i hx hb hr hlocks hf hP hS dX8_boundaryBehind_29
  unfold fX8_boundaryBehind at hf
  refine lv_iload_n hx hb dX8_boundaryBehind_0 rfl (lv_at hl 2 rfl) ?_
  refine lv_iconst (v := (1 : Int32)) hx hb dX8_boundaryBehind_1 (by decide) ?_
  refine lv_iadd hx hb dX8_boundaryBehind_2 ?_
  obtain ⟨x3_3, q3, hf⟩ := zlt_s hf
  refine zt q3 ?_
  refine lv_istore_n (lv' := [(3, .int x3_3), (0, .ref (b + p0)), (1, .int p1), (2, .int p2)]) hx hb dX8_boundaryBehind_3 rfl hl (by decide) rfl (fun ls hl => ?_)
  exact L4 _ _ _ _ _ _ _ _ hf hP hS (lv_sub hl [1, 2, 0] rfl)
