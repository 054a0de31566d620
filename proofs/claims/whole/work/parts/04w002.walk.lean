theorem hi_X4_at_4 : ∀ w ∈ wsX40, w ∈ wsX4_at := fun _ h => List.mem_cons_of_mem _ (List.mem_append_right _ h)
set_option maxHeartbeats 4000000 in
set_option maxRecDepth 100000 in
theorem k_X4_at (l : Launch) (D : va_G) (cy : Nat → ClassId) (b : Nat) (M0 : Mem) (p0 : Nat) (p1 : Int32) (rr : Int32 × Mem) (hf : fX4_at M0 p0 p1 = some rr) : Met l yX4_at wsX4_at ({ frames := 0, cells := 0, slots := 0, locals := 0 } : Room) (zPc D cy b M0 [.ref (b + p0), .int p1]) (zQi D cy b rr) 0 0 (zA b) := by
  refine Met.ofW (cc := cX4_at) (maxL := 2) (ret := (some .char)) (by decide) rfl ?_
  intro p e s m args below meth c s₁ B hml hv
  obtain ⟨rfl, hP, hK⟩ := hv
  have hx := B.exec
  have hb := B.bytes
  have hr := B.returns
  have hts := atoms_spec (ws := wsX4_at) B.pre
  have hown : s.vm.findClass RX4 = some m.cls := findClass_of_methodNamed B.named
  have hlocks := B.notSynchronized
  have hS : va_S (zA b) s.heap s.heap [] := va_S.rf
  have hl := lv_entry ([.ref (b + p0), .int p1]) (n := 2) (Nat.le_of_ble_eq_true rfl)
  rw [lg_entry_eq]
  generalize (lg_sl ([.ref (b + p0), .int p1]) ++ List.replicate (2 - (lg_sl ([.ref (b + p0), .int p1])).length) Slot.unset).toArray = ls at hl ⊢
  have hl : lv_has ls 2 [(0, .ref (b + p0)), (1, .int p1)] := hl
  unfold fX4_at at hf
  refine lv_iload_n hx hb dX4_at_0 rfl (lv_at hl 1 rfl) ?_
  refine lv_if_lt (tgt := 21) hx hb dX4_at_1 (by decide) (fun c1 => ?_) (fun c1 => ?_)
  · have hf := (if_pos c1).symm.trans hf
    refine lv_iconst (v := (0 : Int32)) hx hb dX4_at_21 (by decide) ?_
    exact zret_z hx hb hr (Or.inr rfl) hlocks hf hP hS dX4_at_22
  · have hf := (if_neg c1).symm.trans hf
    refine lv_iload_n hx hb dX4_at_4 rfl (lv_at hl 1 rfl) ?_
    refine lv_aload_n hx hb dX4_at_5 rfl (lv_at hl 0 rfl) ?_
    obtain ⟨v6, e6, hf⟩ := zb hf
    refine zr_gi (ci := 4) (k := 1) (C := RX4) (T := TX4) (N := 2) hx hb hts hi_X4_at_4 hown hK hP e6 rfl rfl (by decide) (by decide) (hts (.fieldLink RX4 19 "BoundaryAnalyzer$Row" "size" "I") (List.mem_of_getElem? (i := 1) rfl)) dX4_at_6 ?_
    refine lv_icmp_ge (tgt := 21) hx hb dX4_at_9 (by decide) (fun c9 => ?_) (fun c9 => ?_)
    · have hf := (if_pos c9).symm.trans hf
      refine lv_iconst (v := (0 : Int32)) hx hb dX4_at_21 (by decide) ?_
      exact zret_z hx hb hr (Or.inr rfl) hlocks hf hP hS dX4_at_22
    · have hf := (if_neg c9).symm.trans hf
      refine lv_aload_n hx hb dX4_at_12 rfl (lv_at hl 0 rfl) ?_
      obtain ⟨v13, e13, hf⟩ := zb hf
      refine zr_gr (ci := 4) (k := 0) (C := RX4) (T := TX4) (N := 2) hx hb hts hi_X4_at_4 hown hK hP e13 rfl rfl (by decide) (by decide) (hts (.fieldLink RX4 13 "BoundaryAnalyzer$Row" "signs" "[C") (List.mem_of_getElem? (i := 2) rfl)) dX4_at_13 ?_
      refine lv_iload_n hx hb dX4_at_16 rfl (lv_at hl 1 rfl) ?_
      obtain ⟨v17, e17, hf⟩ := zb hf
      refine zr_ac hx hb hK hP e17 dX4_at_17 ?_
      refine lv_goto (tgt := 22) hx hb dX4_at_18 (by decide) ?_
      exact zret_z hx hb hr (Or.inr rfl) hlocks hf hP hS dX4_at_22
theorem hi_X4_append_4 : ∀ w ∈ wsX40, w ∈ wsX4_append := fun _ h => List.mem_cons_of_mem _ (List.mem_append_right _ h)
set_option maxHeartbeats 4000000 in
set_option maxRecDepth 100000 in
theorem k_X4_append (l : Launch) (D : va_G) (cy : Nat → ClassId) (b : Nat) (M0 : Mem) (p0 : Nat) (p1 : Int32) (rr : Mem) (hf : fX4_append M0 p0 p1 = some rr) : Met l yX4_append wsX4_append ({ frames := 0, cells := 0, slots := 0, locals := 0 } : Room) (zPc D cy b M0 [.ref (b + p0), .int p1]) (zQv D cy b rr) 0 0 (zA b) := by
  refine Met.ofW (cc := cX4_append) (maxL := 2) (ret := none) (by decide) rfl ?_
  intro p e s m args below meth c s₁ B hml hv
  obtain ⟨rfl, hP, hK⟩ := hv
  have hx := B.exec
  have hb := B.bytes
  have hr := B.returns
  have hts := atoms_spec (ws := wsX4_append) B.pre
  have hown : s.vm.findClass RX4 = some m.cls := findClass_of_methodNamed B.named
  have hlocks := B.notSynchronized
  have hS : va_S (zA b) s.heap s.heap [] := va_S.rf
  have hl := lv_entry ([.ref (b + p0), .int p1]) (n := 2) (Nat.le_of_ble_eq_true rfl)
  rw [lg_entry_eq]
  generalize (lg_sl ([.ref (b + p0), .int p1]) ++ List.replicate (2 - (lg_sl ([.ref (b + p0), .int p1])).length) Slot.unset).toArray = ls at hl ⊢
  have hl : lv_has ls 2 [(0, .ref (b + p0)), (1, .int p1)] := hl
  unfold fX4_append at hf
  refine lv_aload_n hx hb dX4_append_0 rfl (lv_at hl 0 rfl) ?_
  obtain ⟨v1, e1, hf⟩ := zb hf
  refine zr_gi (ci := 4) (k := 1) (C := RX4) (T := TX4) (N := 2) hx hb hts hi_X4_append_4 hown hK hP e1 rfl rfl (by decide) (by decide) (hts (.fieldLink RX4 19 "BoundaryAnalyzer$Row" "size" "I") (List.mem_of_getElem? (i := 1) rfl)) dX4_append_1 ?_
  refine lv_aload_n hx hb dX4_append_4 rfl (lv_at hl 0 rfl) ?_
  obtain ⟨v5, e5, hf⟩ := zb hf
  refine zr_gr (ci := 4) (k := 0) (C := RX4) (T := TX4) (N := 2) hx hb hts hi_X4_append_4 hown hK hP e5 rfl rfl (by decide) (by decide) (hts (.fieldLink RX4 13 "BoundaryAnalyzer$Row" "signs" "[C") (List.mem_of_getElem? (i := 2) rfl)) dX4_append_5 ?_
  obtain ⟨v8, e8, hf⟩ := zb hf
  refine zr_al (t0 := 0) hx hb hK hP e8 (by decide) rfl dX4_append_8 ?_
  refine lv_icmp_ge (tgt := 32) hx hb dX4_append_9 (by decide) (fun c9 => ?_) (fun c9 => ?_)
  · have hf := (if_pos c9).symm.trans hf
    exact zret_v hx hb hr hlocks hf hP hS dX4_append_32
  · have hf := (if_neg c9).symm.trans hf
    refine lv_aload_n hx hb dX4_append_12 rfl (lv_at hl 0 rfl) ?_
    obtain ⟨v13, e13, hf⟩ := zb hf
    refine zr_gr (ci := 4) (k := 0) (C := RX4) (T := TX4) (N := 2) hx hb hts hi_X4_append_4 hown hK hP e13 rfl rfl (by decide) (by decide) (hts (.fieldLink RX4 13 "BoundaryAnalyzer$Row" "signs" "[C") (List.mem_of_getElem? (i := 2) rfl)) dX4_append_13 ?_
    refine lv_aload_n hx hb dX4_append_16 rfl (lv_at hl 0 rfl) ?_
    obtain ⟨v17, e17, hf⟩ := zb hf
    refine zr_gi (ci := 4) (k := 1) (C := RX4) (T := TX4) (N := 2) hx hb hts hi_X4_append_4 hown hK hP e17 rfl rfl (by decide) (by decide) (hts (.fieldLink RX4 19 "BoundaryAnalyzer$Row" "size" "I") (List.mem_of_getElem? (i := 1) rfl)) dX4_append_17 ?_
    refine lv_iload_n hx hb dX4_append_20 rfl (lv_at hl 1 rfl) ?_
    obtain ⟨M21, e21, hf⟩ := zb hf
    refine zr_sc hx hb hK hP hS e21 dX4_append_21 (fun H locs hP _ hS => ?_)
    refine lv_aload_n hx hb dX4_append_22 rfl (lv_at hl 0 rfl) ?_
    refine lv_dup hx hb dX4_append_23 rfl ?_
    obtain ⟨v24, e24, hf⟩ := zb hf
    refine zr_gi (ci := 4) (k := 1) (C := RX4) (T := TX4) (N := 2) hx hb hts hi_X4_append_4 hown hK hP e24 rfl rfl (by decide) (by decide) (hts (.fieldLink RX4 19 "BoundaryAnalyzer$Row" "size" "I") (List.mem_of_getElem? (i := 1) rfl)) dX4_append_24 ?_
    refine lv_iconst (v := (1 : Int32)) hx hb dX4_append_27 (by decide) ?_
    refine lv_iadd hx hb dX4_append_28 ?_
    obtain ⟨M29, e29, hf⟩ := zb hf
    refine zr_pi (ci := 4) (k := 1) (C := RX4) (T := TX4) (N := 2) hx hb hts hi_X4_append_4 tyX4 tyX4_ok nmX4 hown hK hP hS e29 rfl rfl (by decide) (by decide) (hts (.fieldLink RX4 19 "BoundaryAnalyzer$Row" "size" "I") (List.mem_of_getElem? (i := 1) rfl)) rfl (tyX4_ok 1 (by decide)) dX4_append_29 (fun H locs hP _ hS => ?_)
    exact zret_v hx hb hr hlocks hf hP hS dX4_append_32
theorem hi_X4_become_4 : ∀ w ∈ wsX40, w ∈ wsX4_become := fun _ h => List.mem_cons_of_mem _ (List.mem_append_right _ h)
set_option maxHeartbeats 4000000 in
set_option maxRecDepth 100000 in
theorem k_X4_become (l : Launch) (D : va_G) (cy : Nat → ClassId) (b : Nat) (M0 : Mem) (p0 : Nat) (p1 : Nat) (p2 : Int32) (p3 : Int32) (rr : Mem) (hf : fX4_become M0 p0 p1 p2 p3 = some rr) : Met l yX4_become wsX4_become ({ frames := 1, cells := 0, slots := 0, locals := 21 } : Room) (zPc D cy b M0 [.ref (b + p0), .ref (b + p1), .int p2, .int p3]) (zQv D cy b rr) 0 0 (zA b) := by
  refine Met.ofW (cc := cX4_become) (maxL := 5) (ret := none) (by decide) rfl ?_
  intro p e s m args below meth c s₁ B hml hv
  obtain ⟨rfl, hP, hK⟩ := hv
  have hx := B.exec
  have hb := B.bytes
  have hr := B.returns
  have hts := atoms_spec (ws := wsX4_become) B.pre
  have hown : s.vm.findClass RX4 = some m.cls := findClass_of_methodNamed B.named
  have hlocks := B.notSynchronized
  have hS : va_S (zA b) s.heap s.heap [] := va_S.rf
  have hl := lv_entry ([.ref (b + p0), .ref (b + p1), .int p2, .int p3]) (n := 5) (Nat.le_of_ble_eq_true rfl)
  rw [lg_entry_eq]
  generalize (lg_sl ([.ref (b + p0), .ref (b + p1), .int p2, .int p3]) ++ List.replicate (5 - (lg_sl ([.ref (b + p0), .ref (b + p1), .int p2, .int p3])).length) Slot.unset).toArray = ls at hl ⊢
  have hl : lv_has ls 5 [(0, .ref (b + p0)), (1, .ref (b + p1)), (2, .int p2), (3, .int p3)] := hl
  have L8 : ∀ (n8 : Nat) (M : Mem) (H : Heap) (locs : List Loc) (ls : Array Slot) (h0 : Nat) (h1 : Nat) (x2 : Int32) (x3 : Int32) (x4 : Int32), fX4_become_8L  n8 M h0 h1 x2 x3 x4 = some rr → zH D cy b M H → va_S (zA b) s.heap H locs → lv_has ls 5 [(0, .ref (b + h0)), (1, .ref (b + h1)), (2, .int x2), (3, .int x3), (4, .int x4)] → W p l e (headSpec wsX4_become ({ frames := 1, cells := 0, slots := 0, locals := 21 } : Room)).room s m ([.ref (b + p0), .ref (b + p1), .int p2, .int p3] : List Value).toArray below meth c H locs 0 0 (MQ below (zQv D cy b rr) ([.ref (b + p0), .ref (b + p1), .int p2, .int p3] : List Value).toArray s 0 0 (zA b)) (F0 m 8 ls []) := by
    intro n8
    induction n8 with
    | zero =>
      intro M H locs ls h0 h1 x2 x3 x4 hf
      have hf : (none : Option Mem) = some rr := hf
      cases hf
    | succ n8 ih8 =>
      intro M H locs ls h0 h1 x2 x3 x4 hf hP hS hl
      have hf : fX4_become_8  (fX4_become_8L  n8) M h0 h1 x2 x3 x4 = some rr := hf
      unfold fX4_become_8 at hf
      refine lv_iload hx hb dX4_become_8 (lv_at hl 4 rfl) ?_
      refine lv_iload_n hx hb dX4_become_10 rfl (lv_at hl 3 rfl) ?_
      refine lv_icmp_ge (tgt := 32) hx hb dX4_become_11 (by decide) (fun c11 => ?_) (fun c11 => ?_)
      · have hf := (if_pos c11).symm.trans hf
        exact zret_v hx hb hr hlocks hf hP hS dX4_become_32
      · have hf := (if_neg c11).symm.trans hf
        refine lv_aload_n hx hb dX4_become_14 rfl (lv_at hl 0 rfl) ?_
        refine lv_aload_n hx hb dX4_become_15 rfl (lv_at hl 1 rfl) ?_
        refine lv_iload_n hx hb dX4_become_16 rfl (lv_at hl 2 rfl) ?_
        refine lv_iload hx hb dX4_become_17 (lv_at hl 4 rfl) ?_
        refine lv_iadd hx hb dX4_become_19 ?_
        obtain ⟨u20, t20, hf⟩ := zb hf
        obtain ⟨r20, e20, hf⟩ := zb hf
        refine zc_i hS (va_runV (As := [.int (x2 + x4)]) (rest := [.ref (b + h0)]) ⟨hx, hb, hml, hown, hts⟩ (k_X4_at l D cy b M h1 (x2 + x4) r20 e20) (cwV 1 hts gX4_become_X4_at rfl rfl rfl (by decide +kernel) ⟨Nat.le_of_ble_eq_true rfl, Nat.le_of_ble_eq_true rfl⟩) (zp_V _ hK hP t20 (T := TX4) (N := 2) rfl (by decide)) rfl rfl hl.1 rfl (lv_room (Nat.le_of_ble_eq_true rfl)) dX4_become_20 ⟨Nat.zero_le _, Nat.zero_le _⟩) (fun H locs hP hS => ?_)
        obtain ⟨u23, t23, hf⟩ := zb hf
        obtain ⟨M23, e23, hf⟩ := zb hf
        refine zc_v hS (va_runV (As := [.int r20.1]) (rest := []) ⟨hx, hb, hml, hown, hts⟩ (k_X4_append l D cy b r20.2 h0 r20.1 M23 e23) (cwV 1 hts gX4_become_X4_append rfl rfl rfl (by decide +kernel) ⟨Nat.le_of_ble_eq_true rfl, Nat.le_of_ble_eq_true rfl⟩) (zp_V _ hK hP t23 (T := TX4) (N := 2) rfl (by decide)) rfl rfl hl.1 rfl (lv_room (Nat.le_of_ble_eq_true rfl)) dX4_become_23 ⟨Nat.zero_le _, Nat.zero_le _⟩) (fun H locs hP hS => ?_)
        obtain ⟨x4_26, q26, hf⟩ := zlt_s hf
        refine lv_iinc (v := x4_26) (lv' := [(4, .int x4_26), (0, .ref (b + h0)), (1, .ref (b + h1)), (2, .int x2), (3, .int x3)]) hx hb dX4_become_26 hl (k := 4) rfl (by rw [← q26]; rfl) (by decide) rfl (fun ls hl => ?_)
        refine lv_goto (tgt := 8) hx hb dX4_become_29 (by decide) ?_
        exact ih8 _ _ _ _ _ _ _ _ _ hf hP hS (lv_sub hl [1, 2, 3, 4, 0] rfl)
  unfold fX4_become at hf
  refine lv_aload_n hx hb dX4_become_0 rfl (lv_at hl 0 rfl) ?_
  refine lv_iconst (v := (0 : Int32)) hx hb dX4_become_1 (by decide) ?_
  obtain ⟨M2, e2, hf⟩ := zb hf
  refine zr_pi (ci := 4) (k := 1) (C := RX4) (T := TX4) (N := 2) hx hb hts hi_X4_become_4 tyX4 tyX4_ok nmX4 hown hK hP hS e2 rfl rfl (by decide) (by decide) (hts (.fieldLink RX4 19 "BoundaryAnalyzer$Row" "size" "I") (List.mem_of_getElem? (i := 1) rfl)) rfl (tyX4_ok 1 (by decide)) dX4_become_2 (fun H locs hP _ hS => ?_)
  refine lv_iconst (v := (0 : Int32)) hx hb dX4_become_5 (by decide) ?_
  refine lv_istore (lv' := [(4, .int (0 : Int32)), (0, .ref (b + p0)), (1, .ref (b + p1)), (2, .int p2), (3, .int p3)]) hx hb dX4_become_6 hl (by decide) rfl (fun ls hl => ?_)
  exact L8 _ _ _ _ _ _ _ _ _ _ hf hP hS (lv_sub hl [1, 2, 3, 4, 0] rfl)
theorem hi_X4_isPartOf_4 : ∀ w ∈ wsX40, w ∈ wsX4_isPartOf := fun _ h => List.mem_cons_of_mem _ (List.mem_append_right _ h)
set_option maxHeartbeats 4000000 in
set_option maxRecDepth 100000 in
theorem k_X4_isPartOf (l : Launch) (D : va_G) (cy : Nat → ClassId) (b : Nat) (M0 : Mem) (p0 : Nat) (p1 : Nat) (p2 : Int32) (p3 : Int32) (rr : Int32 × Mem) (hf : fX4_isPartOf M0 p0 p1 p2 p3 = some rr) : Met l yX4_isPartOf wsX4_isPartOf ({ frames := 1, cells := 0, slots := 0, locals := 21 } : Room) (zPc D cy b M0 [.ref (b + p0), .ref (b + p1), .int p2, .int p3]) (zQi D cy b rr) 0 0 (zA b) := by
  refine Met.ofW (cc := cX4_isPartOf) (maxL := 5) (ret := (some .boolean)) (by decide) rfl ?_
  intro p e s m args below meth c s₁ B hml hv
  obtain ⟨rfl, hP, hK⟩ := hv
  have hx := B.exec
  have hb := B.bytes
  have hr := B.returns
  have hts := atoms_spec (ws := wsX4_isPartOf) B.pre
  have hown : s.vm.findClass RX4 = some m.cls := findClass_of_methodNamed B.named
  have hlocks := B.notSynchronized
  have hS : va_S (zA b) s.heap s.heap [] := va_S.rf
  have hl := lv_entry ([.ref (b + p0), .ref (b + p1), .int p2, .int p3]) (n := 5) (Nat.le_of_ble_eq_true rfl)
  rw [lg_entry_eq]
  generalize (lg_sl ([.ref (b + p0), .ref (b + p1), .int p2, .int p3]) ++ List.replicate (5 - (lg_sl ([.ref (b + p0), .ref (b + p1), .int p2, .int p3])).length) Slot.unset).toArray = ls at hl ⊢
  have hl : lv_has ls 5 [(0, .ref (b + p0)), (1, .ref (b + p1)), (2, .int p2), (3, .int p3)] := hl
  have L13 : ∀ (n13 : Nat) (M : Mem) (H : Heap) (locs : List Loc) (ls : Array Slot) (h0 : Nat) (h1 : Nat) (x2 : Int32) (x4 : Int32), fX4_isPartOf_13L  n13 M h0 h1 x2 x4 = some rr → zH D cy b M H → va_S (zA b) s.heap H locs → lv_has ls 5 [(0, .ref (b + h0)), (1, .ref (b + h1)), (2, .int x2), (4, .int x4)] → W p l e (headSpec wsX4_isPartOf ({ frames := 1, cells := 0, slots := 0, locals := 21 } : Room)).room s m ([.ref (b + p0), .ref (b + p1), .int p2, .int p3] : List Value).toArray below meth c H locs 0 0 (MQ below (zQi D cy b rr) ([.ref (b + p0), .ref (b + p1), .int p2, .int p3] : List Value).toArray s 0 0 (zA b)) (F0 m 13 ls []) := by
    intro n13
    induction n13 with
    | zero =>
      intro M H locs ls h0 h1 x2 x4 hf
      have hf : (none : Option (Int32 × Mem)) = some rr := hf
      cases hf
    | succ n13 ih13 =>
      intro M H locs ls h0 h1 x2 x4 hf hP hS hl
      have hf : fX4_isPartOf_13  (fX4_isPartOf_13L  n13) M h0 h1 x2 x4 = some rr := hf
      unfold fX4_isPartOf_13 at hf
      refine lv_iload hx hb dX4_isPartOf_13 (lv_at hl 3 rfl) ?_
      refine lv_aload_n hx hb dX4_isPartOf_15 rfl (lv_at hl 0 rfl) ?_
      obtain ⟨v16, e16, hf⟩ := zb hf
      refine zr_gi (ci := 4) (k := 1) (C := RX4) (T := TX4) (N := 2) hx hb hts hi_X4_isPartOf_4 hown hK hP e16 rfl rfl (by decide) (by decide) (hts (.fieldLink RX4 19 "BoundaryAnalyzer$Row" "size" "I") (List.mem_of_getElem? (i := 1) rfl)) dX4_isPartOf_16 ?_
      refine lv_icmp_ge (tgt := 47) hx hb dX4_isPartOf_19 (by decide) (fun c19 => ?_) (fun c19 => ?_)
      · have hf := (if_pos c19).symm.trans hf
        refine lv_iconst (v := (1 : Int32)) hx hb dX4_isPartOf_47 (by decide) ?_
        exact zret_z hx hb hr (Or.inl rfl) hlocks hf hP hS dX4_isPartOf_48
      · have hf := (if_neg c19).symm.trans hf
        refine lv_aload_n hx hb dX4_isPartOf_22 rfl (lv_at hl 0 rfl) ?_
        refine lv_iload hx hb dX4_isPartOf_23 (lv_at hl 3 rfl) ?_
        obtain ⟨u25, t25, hf⟩ := zb hf
        obtain ⟨r25, e25, hf⟩ := zb hf
        refine zc_i hS (va_runV (As := [.int x4]) (rest := []) ⟨hx, hb, hml, hown, hts⟩ (k_X4_at l D cy b M h0 x4 r25 e25) (cwV 1 hts gX4_isPartOf_X4_at rfl rfl rfl (by decide +kernel) ⟨Nat.le_of_ble_eq_true rfl, Nat.le_of_ble_eq_true rfl⟩) (zp_V _ hK hP t25 (T := TX4) (N := 2) rfl (by decide)) rfl rfl hl.1 rfl (lv_room (Nat.le_of_ble_eq_true rfl)) dX4_isPartOf_25 ⟨Nat.zero_le _, Nat.zero_le _⟩) (fun H locs hP hS => ?_)
        refine lv_aload_n hx hb dX4_isPartOf_28 rfl (lv_at hl 1 rfl) ?_
        refine lv_iload_n hx hb dX4_isPartOf_29 rfl (lv_at hl 2 rfl) ?_
        refine lv_iload hx hb dX4_isPartOf_30 (lv_at hl 3 rfl) ?_
        refine lv_iadd hx hb dX4_isPartOf_32 ?_
        obtain ⟨u33, t33, hf⟩ := zb hf
        obtain ⟨r33, e33, hf⟩ := zb hf
        refine zc_i hS (va_runV (As := [.int (x2 + x4)]) (rest := [.int r25.1]) ⟨hx, hb, hml, hown, hts⟩ (k_X4_at l D cy b r25.2 h1 (x2 + x4) r33 e33) (cwV 1 hts gX4_isPartOf_X4_at rfl rfl rfl (by decide +kernel) ⟨Nat.le_of_ble_eq_true rfl, Nat.le_of_ble_eq_true rfl⟩) (zp_V _ hK hP t33 (T := TX4) (N := 2) rfl (by decide)) rfl rfl hl.1 rfl (lv_room (Nat.le_of_ble_eq_true rfl)) dX4_isPartOf_33 ⟨Nat.zero_le _, Nat.zero_le _⟩) (fun H locs hP hS => ?_)
        refine lv_icmp_eq (tgt := 41) hx hb dX4_isPartOf_36 (by decide) (fun c36 => ?_) (fun c36 => ?_)
        · have hf := (if_pos c36).symm.trans hf
          obtain ⟨x4_41, q41, hf⟩ := zlt_s hf
          refine lv_iinc (v := x4_41) (lv' := [(4, .int x4_41), (0, .ref (b + h0)), (1, .ref (b + h1)), (2, .int x2)]) hx hb dX4_isPartOf_41 hl (k := 3) rfl (by rw [← q41]; rfl) (by decide) rfl (fun ls hl => ?_)
          refine lv_goto (tgt := 13) hx hb dX4_isPartOf_44 (by decide) ?_
          exact ih13 _ _ _ _ _ _ _ _ hf hP hS (lv_sub hl [1, 2, 3, 0] rfl)
        · have hf := (if_neg c36).symm.trans hf
          refine lv_iconst (v := (0 : Int32)) hx hb dX4_isPartOf_39 (by decide) ?_
          exact zret_z hx hb hr (Or.inl rfl) hlocks hf hP hS dX4_isPartOf_40
  unfold fX4_isPartOf at hf
  refine lv_aload_n hx hb dX4_isPartOf_0 rfl (lv_at hl 0 rfl) ?_
  obtain ⟨v1, e1, hf⟩ := zb hf
  refine zr_gi (ci := 4) (k := 1) (C := RX4) (T := TX4) (N := 2) hx hb hts hi_X4_isPartOf_4 hown hK hP e1 rfl rfl (by decide) (by decide) (hts (.fieldLink RX4 19 "BoundaryAnalyzer$Row" "size" "I") (List.mem_of_getElem? (i := 1) rfl)) dX4_isPartOf_1 ?_
  refine lv_iload_n hx hb dX4_isPartOf_4 rfl (lv_at hl 3 rfl) ?_
  refine lv_icmp_eq (tgt := 10) hx hb dX4_isPartOf_5 (by decide) (fun c5 => ?_) (fun c5 => ?_)
  · have hf := (if_pos c5).symm.trans hf
    refine lv_iconst (v := (0 : Int32)) hx hb dX4_isPartOf_10 (by decide) ?_
    refine lv_istore (lv' := [(4, .int (0 : Int32)), (0, .ref (b + p0)), (1, .ref (b + p1)), (2, .int p2), (3, .int p3)]) hx hb dX4_isPartOf_11 hl (by decide) rfl (fun ls hl => ?_)
    exact L13 _ _ _ _ _ _ _ _ _ hf hP hS (lv_sub hl [1, 2, 3, 0] rfl)
  · have hf := (if_neg c5).symm.trans hf
    refine lv_iconst (v := (0 : Int32)) hx hb dX4_isPartOf_8 (by decide) ?_
    exact zret_z hx hb hr (Or.inl rfl) hlocks hf hP hS dX4_isPartOf_9
