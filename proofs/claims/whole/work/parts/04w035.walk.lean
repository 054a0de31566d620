theorem hi_X8_next_8 : ∀ w ∈ wsX80, w ∈ wsX8_next := fun _ h => List.mem_cons_of_mem _ (List.mem_append_left _ (List.mem_append_left _ (List.mem_append_left _ (List.mem_append_right _ h))))
set_option maxHeartbeats 4000000 in
set_option maxRecDepth 100000 in
theorem k_X8_next (l : Launch) (D : va_G) (cy : Nat → ClassId) (b : Nat) (M0 : Mem) (p0 : Nat) (p1 : Int32) (p2 : Int32) (rr : Int32 × Mem) (hf : fX8_next M0 p0 p1 p2 = some rr) : Met l yX8_next wsX8_next ({ frames := 7, cells := 0, slots := 0, locals := 159 } : Room) (zPc D cy b M0 [.ref (b + p0), .int p1, .int p2]) (zQi D cy b rr) 0 0 (zA b) := by
  refine Met.ofW (cc := cX8_next) (maxL := 3) (ret := (some .int)) (by decide) rfl ?_
  intro p e s m args below meth c s₁ B hml hv
  obtain ⟨rfl, hP, hK⟩ := hv
  have hx := B.exec
  have hb := B.bytes
  have hr := B.returns
  have hts := atoms_spec (ws := wsX8_next) B.pre
  have hown : s.vm.findClass RX8 = some m.cls := findClass_of_methodNamed B.named
  have hlocks := B.notSynchronized
  have hS : va_S (zA b) s.heap s.heap [] := va_S.rf
  have hl := lv_entry ([.ref (b + p0), .int p1, .int p2]) (n := 3) (Nat.le_of_ble_eq_true rfl)
  rw [lg_entry_eq]
  generalize (lg_sl ([.ref (b + p0), .int p1, .int p2]) ++ List.replicate (3 - (lg_sl ([.ref (b + p0), .int p1, .int p2])).length) Slot.unset).toArray = ls at hl ⊢
  have hl : lv_has ls 3 [(0, .ref (b + p0)), (1, .int p1), (2, .int p2)] := hl
  unfold fX8_next at hf
  refine lv_iload_n hx hb dX8_next_0 rfl (lv_at hl 1 rfl) ?_
  obtain ⟨v1, e1, hf⟩ := zb hf
  refine zc_p (va_runS (As := [.int p1]) (rest := []) ⟨hx, hb, hml, hown, hts⟩ (k_X8_isKind l p1 v1 e1) (va_cwS 1 hts gX8_next_X8_isKind rfl rfl rfl (by decide +kernel) ⟨Nat.le_of_ble_eq_true rfl, Nat.le_of_ble_eq_true rfl⟩) (zp_p _) rfl rfl hl.1 rfl (lv_room (Nat.le_of_ble_eq_true rfl)) dX8_next_1 ⟨Nat.zero_le _, Nat.zero_le _⟩) ?_
  refine lv_if_ne (tgt := 10) hx hb dX8_next_4 (by decide) (fun c4 => ?_) (fun c4 => ?_)
  · have hf := (if_neg c4).symm.trans hf
    refine lv_aload_n hx hb dX8_next_10 rfl (lv_at hl 0 rfl) ?_
    refine lv_iload_n hx hb dX8_next_11 rfl (lv_at hl 2 rfl) ?_
    obtain ⟨u12, t12, hf⟩ := zb hf
    obtain ⟨r12, e12, hf⟩ := zb hf
    refine zc_i hS (va_runV (As := [.int p2]) (rest := []) ⟨hx, hb, hml, hown, hts⟩ (k_X8_isPosition l D cy b M0 p0 p2 r12 e12) (cwV 1 hts gX8_next_X8_isPosition rfl rfl rfl (by decide +kernel) ⟨Nat.le_of_ble_eq_true rfl, Nat.le_of_ble_eq_true rfl⟩) (zp_V _ hK hP t12 (T := TX8) (N := 7) rfl (by decide)) rfl rfl hl.1 rfl (lv_room (Nat.le_of_ble_eq_true rfl)) dX8_next_12 ⟨Nat.zero_le _, Nat.zero_le _⟩) (fun H locs hP hS => ?_)
    refine lv_if_eq (tgt := 27) hx hb dX8_next_15 (by decide) (fun c15 => ?_) (fun c15 => ?_)
    · have hf := (if_pos c15).symm.trans hf
      refine lv_iconst (v := (-1 : Int32)) hx hb dX8_next_27 (by decide) ?_
      exact zret_i hx hb hr hlocks hf hP hS dX8_next_28
    · have hf := (if_neg c15).symm.trans hf
      refine lv_aload_n hx hb dX8_next_18 rfl (lv_at hl 0 rfl) ?_
      refine lv_iload_n hx hb dX8_next_19 rfl (lv_at hl 1 rfl) ?_
      refine lv_iload_n hx hb dX8_next_20 rfl (lv_at hl 2 rfl) ?_
      obtain ⟨u21, t21, hf⟩ := zb hf
      obtain ⟨r21, e21, hf⟩ := zb hf
      refine zc_i hS (va_runV (As := [.int p1, .int p2]) (rest := []) ⟨hx, hb, hml, hown, hts⟩ (k_X8_boundaryBehind l D cy b r12.2 p0 p1 p2 r21 e21) (cwV 2 hts gX8_next_X8_boundaryBehind rfl rfl rfl (by decide +kernel) ⟨Nat.le_of_ble_eq_true rfl, Nat.le_of_ble_eq_true rfl⟩) (zp_V _ hK hP t21 (T := TX8) (N := 7) rfl (by decide)) rfl rfl hl.1 rfl (lv_room (Nat.le_of_ble_eq_true rfl)) dX8_next_21 ⟨Nat.zero_le _, Nat.zero_le _⟩) (fun H locs hP hS => ?_)
      refine lv_goto (tgt := 28) hx hb dX8_next_24 (by decide) ?_
      exact zret_i hx hb hr hlocks hf hP hS dX8_next_28
  · have hf := (if_pos c4).symm.trans hf
    refine lv_bipush (v := (-2 : Int32)) hx hb dX8_next_7 (by decide) ?_
    exact zret_i hx hb hr hlocks hf hP hS dX8_next_9
theorem hi_X8_previous_8 : ∀ w ∈ wsX80, w ∈ wsX8_previous := fun _ h => List.mem_cons_of_mem _ (List.mem_append_left _ (List.mem_append_left _ (List.mem_append_left _ (List.mem_append_right _ h))))
set_option maxHeartbeats 4000000 in
set_option maxRecDepth 100000 in
theorem k_X8_previous (l : Launch) (D : va_G) (cy : Nat → ClassId) (b : Nat) (M0 : Mem) (p0 : Nat) (p1 : Int32) (p2 : Int32) (rr : Int32 × Mem) (hf : fX8_previous M0 p0 p1 p2 = some rr) : Met l yX8_previous wsX8_previous ({ frames := 6, cells := 0, slots := 0, locals := 136 } : Room) (zPc D cy b M0 [.ref (b + p0), .int p1, .int p2]) (zQi D cy b rr) 0 0 (zA b) := by
  refine Met.ofW (cc := cX8_previous) (maxL := 4) (ret := (some .int)) (by decide) rfl ?_
  intro p e s m args below meth c s₁ B hml hv
  obtain ⟨rfl, hP, hK⟩ := hv
  have hx := B.exec
  have hb := B.bytes
  have hr := B.returns
  have hts := atoms_spec (ws := wsX8_previous) B.pre
  have hown : s.vm.findClass RX8 = some m.cls := findClass_of_methodNamed B.named
  have hlocks := B.notSynchronized
  have hS : va_S (zA b) s.heap s.heap [] := va_S.rf
  have hl := lv_entry ([.ref (b + p0), .int p1, .int p2]) (n := 4) (Nat.le_of_ble_eq_true rfl)
  rw [lg_entry_eq]
  generalize (lg_sl ([.ref (b + p0), .int p1, .int p2]) ++ List.replicate (4 - (lg_sl ([.ref (b + p0), .int p1, .int p2])).length) Slot.unset).toArray = ls at hl ⊢
  have hl : lv_has ls 4 [(0, .ref (b + p0)), (1, .int p1), (2, .int p2)] := hl
  have L24 : ∀ (n24 : Nat) (M : Mem) (H : Heap) (locs : List Loc) (ls : Array Slot) (h0 : Nat) (x1 : Int32) (x3 : Int32), fX8_previous_24L  n24 M h0 x1 x3 = some rr → zH D cy b M H → va_S (zA b) s.heap H locs → lv_has ls 4 [(0, .ref (b + h0)), (1, .int x1), (3, .int x3)] → W p l e (headSpec wsX8_previous ({ frames := 6, cells := 0, slots := 0, locals := 136 } : Room)).room s m ([.ref (b + p0), .int p1, .int p2] : List Value).toArray below meth c H locs 0 0 (MQ below (zQi D cy b rr) ([.ref (b + p0), .int p1, .int p2] : List Value).toArray s 0 0 (zA b)) (F0 m 24 ls []) := by
    intro n24
    induction n24 with
    | zero =>
      intro M H locs ls h0 x1 x3 hf
      have hf : (none : Option (Int32 × Mem)) = some rr := hf
      cases hf
    | succ n24 ih24 =>
      intro M H locs ls h0 x1 x3 hf hP hS hl
      have hf : fX8_previous_24  (fX8_previous_24L  n24) M h0 x1 x3 = some rr := hf
      unfold fX8_previous_24 at hf
      refine lv_iload_n hx hb dX8_previous_24 rfl (lv_at hl 2 rfl) ?_
      refine lv_if_lt (tgt := 46) hx hb dX8_previous_25 (by decide) (fun c25 => ?_) (fun c25 => ?_)
      · have hf := (if_pos c25).symm.trans hf
        refine lv_bipush (v := (-5 : Int32)) hx hb dX8_previous_46 (by decide) ?_
        exact zret_i hx hb hr hlocks hf hP hS dX8_previous_48
      · have hf := (if_neg c25).symm.trans hf
        refine lv_aload_n hx hb dX8_previous_28 rfl (lv_at hl 0 rfl) ?_
        refine lv_iload_n hx hb dX8_previous_29 rfl (lv_at hl 1 rfl) ?_
        refine lv_iload_n hx hb dX8_previous_30 rfl (lv_at hl 2 rfl) ?_
        obtain ⟨u31, t31, hf⟩ := zb hf
        obtain ⟨r31, e31, hf⟩ := zb hf
        refine zc_i hS (va_runV (As := [.int x1, .int x3]) (rest := []) ⟨hx, hb, hml, hown, hts⟩ (k_X8_stateAt l D cy b M h0 x1 x3 r31 e31) (cwV 2 hts gX8_previous_X8_stateAt rfl rfl rfl (by decide +kernel) ⟨Nat.le_of_ble_eq_true rfl, Nat.le_of_ble_eq_true rfl⟩) (zp_V _ hK hP t31 (T := TX8) (N := 7) rfl (by decide)) rfl rfl hl.1 rfl (lv_room (Nat.le_of_ble_eq_true rfl)) dX8_previous_31 ⟨Nat.zero_le _, Nat.zero_le _⟩) (fun H locs hP hS => ?_)
        refine lv_iconst (v := (1 : Int32)) hx hb dX8_previous_34 (by decide) ?_
        refine lv_icmp_ne (tgt := 40) hx hb dX8_previous_35 (by decide) (fun c35 => ?_) (fun c35 => ?_)
        · have hf := (if_neg c35).symm.trans hf
          obtain ⟨x3_40, q40, hf⟩ := zlt_s hf
          refine lv_iinc (v := x3_40) (lv' := [(3, .int x3_40), (0, .ref (b + h0)), (1, .int x1)]) hx hb dX8_previous_40 hl (k := 2) rfl (by rw [← q40]; rfl) (by decide) rfl (fun ls hl => ?_)
          refine lv_goto (tgt := 24) hx hb dX8_previous_43 (by decide) ?_
          exact ih24 _ _ _ _ _ _ _ hf hP hS (lv_sub hl [1, 2, 0] rfl)
        · have hf := (if_pos c35).symm.trans hf
          refine lv_iload_n hx hb dX8_previous_38 rfl (lv_at hl 2 rfl) ?_
          exact zret_i hx hb hr hlocks hf hP hS dX8_previous_39
  unfold fX8_previous at hf
  refine lv_iload_n hx hb dX8_previous_0 rfl (lv_at hl 1 rfl) ?_
  obtain ⟨v1, e1, hf⟩ := zb hf
  refine zc_p (va_runS (As := [.int p1]) (rest := []) ⟨hx, hb, hml, hown, hts⟩ (k_X8_isKind l p1 v1 e1) (va_cwS 1 hts gX8_previous_X8_isKind rfl rfl rfl (by decide +kernel) ⟨Nat.le_of_ble_eq_true rfl, Nat.le_of_ble_eq_true rfl⟩) (zp_p _) rfl rfl hl.1 rfl (lv_room (Nat.le_of_ble_eq_true rfl)) dX8_previous_1 ⟨Nat.zero_le _, Nat.zero_le _⟩) ?_
  refine lv_if_ne (tgt := 10) hx hb dX8_previous_4 (by decide) (fun c4 => ?_) (fun c4 => ?_)
  · have hf := (if_neg c4).symm.trans hf
    refine lv_aload_n hx hb dX8_previous_10 rfl (lv_at hl 0 rfl) ?_
    refine lv_iload_n hx hb dX8_previous_11 rfl (lv_at hl 2 rfl) ?_
    obtain ⟨u12, t12, hf⟩ := zb hf
    obtain ⟨r12, e12, hf⟩ := zb hf
    refine zc_i hS (va_runV (As := [.int p2]) (rest := []) ⟨hx, hb, hml, hown, hts⟩ (k_X8_isPosition l D cy b M0 p0 p2 r12 e12) (cwV 1 hts gX8_previous_X8_isPosition rfl rfl rfl (by decide +kernel) ⟨Nat.le_of_ble_eq_true rfl, Nat.le_of_ble_eq_true rfl⟩) (zp_V _ hK hP t12 (T := TX8) (N := 7) rfl (by decide)) rfl rfl hl.1 rfl (lv_room (Nat.le_of_ble_eq_true rfl)) dX8_previous_12 ⟨Nat.zero_le _, Nat.zero_le _⟩) (fun H locs hP hS => ?_)
    refine lv_if_ne (tgt := 20) hx hb dX8_previous_15 (by decide) (fun c15 => ?_) (fun c15 => ?_)
    · have hf := (if_neg c15).symm.trans hf
      refine lv_iload_n hx hb dX8_previous_20 rfl (lv_at hl 2 rfl) ?_
      refine lv_iconst (v := (1 : Int32)) hx hb dX8_previous_21 (by decide) ?_
      refine lv_isub hx hb dX8_previous_22 ?_
      obtain ⟨x3_23, q23, hf⟩ := zlt_s hf
      refine zt q23 ?_
      refine lv_istore_n (lv' := [(3, .int x3_23), (0, .ref (b + p0)), (1, .int p1), (2, .int p2)]) hx hb dX8_previous_23 rfl hl (by decide) rfl (fun ls hl => ?_)
      exact L24 _ _ _ _ _ _ _ _ hf hP hS (lv_sub hl [1, 2, 0] rfl)
    · have hf := (if_pos c15).symm.trans hf
      refine lv_iconst (v := (-1 : Int32)) hx hb dX8_previous_18 (by decide) ?_
      exact zret_i hx hb hr hlocks hf hP hS dX8_previous_19
  · have hf := (if_pos c4).symm.trans hf
    refine lv_bipush (v := (-2 : Int32)) hx hb dX8_previous_7 (by decide) ?_
    exact zret_i hx hb hr hlocks hf hP hS dX8_previous_9
theorem hi_X8_segmentCount_4 : ∀ w ∈ wsX40, w ∈ wsX8_segmentCount := fun _ h => List.mem_cons_of_mem _ (List.mem_append_left _ (List.mem_append_right _ h))
theorem hi_X8_segmentCount_7 : ∀ w ∈ wsX70, w ∈ wsX8_segmentCount := fun _ h => List.mem_cons_of_mem _ (List.mem_append_left _ (List.mem_append_left _ (List.mem_append_right _ h)))
theorem hi_X8_segmentCount_8 : ∀ w ∈ wsX80, w ∈ wsX8_segmentCount := fun _ h => List.mem_cons_of_mem _ (List.mem_append_left _ (List.mem_append_left _ (List.mem_append_left _ (List.mem_append_right _ h))))
set_option maxHeartbeats 4000000 in
set_option maxRecDepth 100000 in
theorem k_X8_segmentCount (l : Launch) (D : va_G) (cy : Nat → ClassId) (b : Nat) (M0 : Mem) (p0 : Nat) (p1 : Int32) (rr : Int32 × Mem) (hf : fX8_segmentCount M0 p0 p1 = some rr) : Met l yX8_segmentCount wsX8_segmentCount ({ frames := 6, cells := 0, slots := 0, locals := 136 } : Room) (zPc D cy b M0 [.ref (b + p0), .int p1]) (zQi D cy b rr) 0 0 (zA b) := by
  refine Met.ofW (cc := cX8_segmentCount) (maxL := 4) (ret := (some .int)) (by decide) rfl ?_
  intro p e s m args below meth c s₁ B hml hv
  obtain ⟨rfl, hP, hK⟩ := hv
  have hx := B.exec
  have hb := B.bytes
  have hr := B.returns
  have hts := atoms_spec (ws := wsX8_segmentCount) B.pre
  have hown : s.vm.findClass RX8 = some m.cls := findClass_of_methodNamed B.named
  have hlocks := B.notSynchronized
  have hS : va_S (zA b) s.heap s.heap [] := va_S.rf
  have hl := lv_entry ([.ref (b + p0), .int p1]) (n := 4) (Nat.le_of_ble_eq_true rfl)
  rw [lg_entry_eq]
  generalize (lg_sl ([.ref (b + p0), .int p1]) ++ List.replicate (4 - (lg_sl ([.ref (b + p0), .int p1])).length) Slot.unset).toArray = ls at hl ⊢
  have hl : lv_has ls 4 [(0, .ref (b + p0)), (1, .int p1)] := hl
  have L14 : ∀ (n14 : Nat) (M : Mem) (H : Heap) (locs : List Loc) (ls : Array Slot) (h0 : Nat) (x1 : Int32) (x2 : Int32) (x3 : Int32), fX8_segmentCount_14L  n14 M h0 x1 x2 x3 = some rr → zH D cy b M H → va_S (zA b) s.heap H locs → lv_has ls 4 [(0, .ref (b + h0)), (1, .int x1), (2, .int x2), (3, .int x3)] → W p l e (headSpec wsX8_segmentCount ({ frames := 6, cells := 0, slots := 0, locals := 136 } : Room)).room s m ([.ref (b + p0), .int p1] : List Value).toArray below meth c H locs 0 0 (MQ below (zQi D cy b rr) ([.ref (b + p0), .int p1] : List Value).toArray s 0 0 (zA b)) (F0 m 14 ls []) := by
    intro n14
    induction n14 with
    | zero =>
      intro M H locs ls h0 x1 x2 x3 hf
      have hf : (none : Option (Int32 × Mem)) = some rr := hf
      cases hf
    | succ n14 ih14 =>
      have J41 : ∀ (M : Mem) (H : Heap) (locs : List Loc) (ls : Array Slot) (h0 : Nat) (x1 : Int32) (x2 : Int32) (x3 : Int32), fX8_segmentCount_41 (fX8_segmentCount_14L  n14) M h0 x1 x2 x3 = some rr → zH D cy b M H → va_S (zA b) s.heap H locs → lv_has ls 4 [(0, .ref (b + h0)), (1, .int x1), (2, .int x2), (3, .int x3)] → W p l e (headSpec wsX8_segmentCount ({ frames := 6, cells := 0, slots := 0, locals := 136 } : Room)).room s m ([.ref (b + p0), .int p1] : List Value).toArray below meth c H locs 0 0 (MQ below (zQi D cy b rr) ([.ref (b + p0), .int p1] : List Value).toArray s 0 0 (zA b)) (F0 m 41 ls []) := by
        intro M H locs ls h0 x1 x2 x3 hf hP hS hl
        unfold fX8_segmentCount_41 at hf
        obtain ⟨x3_41, q41, hf⟩ := zlt_s hf
        refine lv_iinc (v := x3_41) (lv' := [(3, .int x3_41), (0, .ref (b + h0)), (1, .int x1), (2, .int x2)]) hx hb dX8_segmentCount_41 hl (k := 3) rfl (by rw [← q41]; rfl) (by decide) rfl (fun ls hl => ?_)
        refine lv_goto (tgt := 14) hx hb dX8_segmentCount_44 (by decide) ?_
        exact ih14 _ _ _ _ _ _ _ _ hf hP hS (lv_sub hl [1, 2, 3, 0] rfl)
      intro M H locs ls h0 x1 x2 x3 hf hP hS hl
      have hf : fX8_segmentCount_14  (fX8_segmentCount_14L  n14) M h0 x1 x2 x3 = some rr := hf
      unfold fX8_segmentCount_14 at hf
      refine lv_iload_n hx hb dX8_segmentCount_14 rfl (lv_at hl 3 rfl) ?_
      refine lv_aload_n hx hb dX8_segmentCount_15 rfl (lv_at hl 0 rfl) ?_
      obtain ⟨v16, e16, hf⟩ := zb hf
      refine zr_gr (ci := 8) (k := 0) (C := RX8) (T := TX8) (N := 7) hx hb hts hi_X8_segmentCount_8 hown hK hP e16 rfl rfl (by decide) (by decide) (hts (.fieldLink RX8 10 "BoundaryAnalyzer" "text" "LBoundaryAnalyzer$Text;") (List.mem_of_getElem? (i := 1) rfl)) dX8_segmentCount_16 ?_
      obtain ⟨v19, e19, hf⟩ := zb hf
      refine zr_gr (ci := 7) (k := 0) (C := RX7) (T := TX7) (N := 2) hx hb hts hi_X8_segmentCount_7 hown hK hP e19 rfl rfl (by decide) (by decide) (hts (.fieldLink RX8 134 "BoundaryAnalyzer$Text" "signs" "LBoundaryAnalyzer$Row;") (List.mem_of_getElem? (i := 2) rfl)) dX8_segmentCount_19 ?_
      obtain ⟨v22, e22, hf⟩ := zb hf
      refine zr_gi (ci := 4) (k := 1) (C := RX4) (T := TX4) (N := 2) hx hb hts hi_X8_segmentCount_4 hown hK hP e22 rfl rfl (by decide) (by decide) (hts (.fieldLink RX8 70 "BoundaryAnalyzer$Row" "size" "I") (List.mem_of_getElem? (i := 3) rfl)) dX8_segmentCount_22 ?_
      refine lv_icmp_gt (tgt := 47) hx hb dX8_segmentCount_25 (by decide) (fun c25 => ?_) (fun c25 => ?_)
      · have hf := (if_pos c25).symm.trans hf
        refine lv_iload_n hx hb dX8_segmentCount_47 rfl (lv_at hl 2 rfl) ?_
        exact zret_i hx hb hr hlocks hf hP hS dX8_segmentCount_48
      · have hf := (if_neg c25).symm.trans hf
        refine lv_aload_n hx hb dX8_segmentCount_28 rfl (lv_at hl 0 rfl) ?_
        refine lv_iload_n hx hb dX8_segmentCount_29 rfl (lv_at hl 1 rfl) ?_
        refine lv_iload_n hx hb dX8_segmentCount_30 rfl (lv_at hl 3 rfl) ?_
        obtain ⟨u31, t31, hf⟩ := zb hf
        obtain ⟨r31, e31, hf⟩ := zb hf
        refine zc_i hS (va_runV (As := [.int x1, .int x3]) (rest := []) ⟨hx, hb, hml, hown, hts⟩ (k_X8_stateAt l D cy b M h0 x1 x3 r31 e31) (cwV 2 hts gX8_segmentCount_X8_stateAt rfl rfl rfl (by decide +kernel) ⟨Nat.le_of_ble_eq_true rfl, Nat.le_of_ble_eq_true rfl⟩) (zp_V _ hK hP t31 (T := TX8) (N := 7) rfl (by decide)) rfl rfl hl.1 rfl (lv_room (Nat.le_of_ble_eq_true rfl)) dX8_segmentCount_31 ⟨Nat.zero_le _, Nat.zero_le _⟩) (fun H locs hP hS => ?_)
        refine lv_iconst (v := (1 : Int32)) hx hb dX8_segmentCount_34 (by decide) ?_
        refine lv_icmp_ne (tgt := 41) hx hb dX8_segmentCount_35 (by decide) (fun c35 => ?_) (fun c35 => ?_)
        · have hf := (if_neg c35).symm.trans hf
          exact J41 _ _ _ _ _ _ _ _ hf hP hS (lv_sub hl [0, 1, 2, 3] rfl)
        · have hf := (if_pos c35).symm.trans hf
          obtain ⟨x2_38, q38, hf⟩ := zlt_s hf
          refine lv_iinc (v := x2_38) (lv' := [(2, .int x2_38), (0, .ref (b + h0)), (1, .int x1), (3, .int x3)]) hx hb dX8_segmentCount_38 hl (k := 2) rfl (by rw [← q38]; rfl) (by decide) rfl (fun ls hl => ?_)
          exact J41 _ _ _ _ _ _ _ _ hf hP hS (lv_sub hl [1, 2, 0, 3] rfl)
  unfold fX8_segmentCount at hf
  refine lv_iload_n hx hb dX8_segmentCount_0 rfl (lv_at hl 1 rfl) ?_
  obtain ⟨v1, e1, hf⟩ := zb hf
  refine zc_p (va_runS (As := [.int p1]) (rest := []) ⟨hx, hb, hml, hown, hts⟩ (k_X8_isKind l p1 v1 e1) (va_cwS 1 hts gX8_segmentCount_X8_isKind rfl rfl rfl (by decide +kernel) ⟨Nat.le_of_ble_eq_true rfl, Nat.le_of_ble_eq_true rfl⟩) (zp_p _) rfl rfl hl.1 rfl (lv_room (Nat.le_of_ble_eq_true rfl)) dX8_segmentCount_1 ⟨Nat.zero_le _, Nat.zero_le _⟩) ?_
  refine lv_if_ne (tgt := 10) hx hb dX8_segmentCount_4 (by decide) (fun c4 => ?_) (fun c4 => ?_)
  · have hf := (if_neg c4).symm.trans hf
    refine lv_iconst (v := (0 : Int32)) hx hb dX8_segmentCount_10 (by decide) ?_
    refine lv_istore_n (lv' := [(2, .int (0 : Int32)), (0, .ref (b + p0)), (1, .int p1)]) hx hb dX8_segmentCount_11 rfl hl (by decide) rfl (fun ls hl => ?_)
    refine lv_iconst (v := (1 : Int32)) hx hb dX8_segmentCount_12 (by decide) ?_
    refine lv_istore_n (lv' := [(3, .int (1 : Int32)), (2, .int (0 : Int32)), (0, .ref (b + p0)), (1, .int p1)]) hx hb dX8_segmentCount_13 rfl hl (by decide) rfl (fun ls hl => ?_)
    exact L14 _ _ _ _ _ _ _ _ _ hf hP hS (lv_sub hl [2, 3, 1, 0] rfl)
  · have hf := (if_pos c4).symm.trans hf
    refine lv_bipush (v := (-2 : Int32)) hx hb dX8_segmentCount_7 (by decide) ?_
    exact zret_i hx hb hr hlocks hf hP hS dX8_segmentCount_9
