set_option maxHeartbeats 4000000 in
set_option maxRecDepth 100000 in
theorem k_X5_waitAt (l : Launch) (D : va_G) (cy : Nat → ClassId) (b : Nat) (M0 : Mem) (p0 : Nat) (p1 : Int32) (p2 : Int32) (rr : Mem) (hf : fX5_waitAt M0 p0 p1 p2 = some rr) : Met l yX5_waitAt wsX5_waitAt ({ frames := 0, cells := 0, slots := 0, locals := 0 } : Room) (zPc D cy b M0 [.ref (b + p0), .int p1, .int p2]) (zQv D cy b rr) 0 0 (zA b) := by
  refine Met.ofW (cc := cX5_waitAt) (maxL := 4) (ret := none) (by decide) rfl ?_
  intro p e s m args below meth c s₁ B hml hv
  obtain ⟨rfl, hP, hK⟩ := hv
  have hx := B.exec
  have hb := B.bytes
  have hr := B.returns
  have hts := atoms_spec (ws := wsX5_waitAt) B.pre
  have hown : s.vm.findClass RX5 = some m.cls := findClass_of_methodNamed B.named
  have hlocks := B.notSynchronized
  have hS : va_S (zA b) s.heap s.heap [] := va_S.rf
  have hl := lv_entry ([.ref (b + p0), .int p1, .int p2]) (n := 4) (Nat.le_of_ble_eq_true rfl)
  rw [lg_entry_eq]
  generalize (lg_sl ([.ref (b + p0), .int p1, .int p2]) ++ List.replicate (4 - (lg_sl ([.ref (b + p0), .int p1, .int p2])).length) Slot.unset).toArray = ls at hl ⊢
  have hl : lv_has ls 4 [(0, .ref (b + p0)), (1, .int p1), (2, .int p2)] := hl
  have L2 : ∀ (n2 : Nat) (M : Mem) (H : Heap) (locs : List Loc) (ls : Array Slot) (h0 : Nat) (x1 : Int32) (x2 : Int32) (x3 : Int32), fX5_waitAt_2L  n2 M h0 x1 x2 x3 = some rr → zH D cy b M H → va_S (zA b) s.heap H locs → lv_has ls 4 [(0, .ref (b + h0)), (1, .int x1), (2, .int x2), (3, .int x3)] → W p l e (headSpec wsX5_waitAt ({ frames := 0, cells := 0, slots := 0, locals := 0 } : Room)).room s m ([.ref (b + p0), .int p1, .int p2] : List Value).toArray below meth c H locs 0 0 (MQ below (zQv D cy b rr) ([.ref (b + p0), .int p1, .int p2] : List Value).toArray s 0 0 (zA b)) (F0 m 2 ls []) := by
    intro n2
    induction n2 with
    | zero =>
      intro M H locs ls h0 x1 x2 x3 hf
      have hf : (none : Option Mem) = some rr := hf
      cases hf
    | succ n2 ih2 =>
      have J33 : ∀ (M : Mem) (H : Heap) (locs : List Loc) (ls : Array Slot) (h0 : Nat) (x1 : Int32) (x2 : Int32) (x3 : Int32), fX5_waitAt_33 (fX5_waitAt_2L  n2) M h0 x1 x2 x3 = some rr → zH D cy b M H → va_S (zA b) s.heap H locs → lv_has ls 4 [(0, .ref (b + h0)), (1, .int x1), (2, .int x2), (3, .int x3)] → W p l e (headSpec wsX5_waitAt ({ frames := 0, cells := 0, slots := 0, locals := 0 } : Room)).room s m ([.ref (b + p0), .int p1, .int p2] : List Value).toArray below meth c H locs 0 0 (MQ below (zQv D cy b rr) ([.ref (b + p0), .int p1, .int p2] : List Value).toArray s 0 0 (zA b)) (F0 m 33 ls []) := by
        intro M H locs ls h0 x1 x2 x3 hf hP hS hl
        unfold fX5_waitAt_33 at hf
        obtain ⟨x3_33, q33, hf⟩ := zlt_s hf
        refine lv_iinc (v := x3_33) (lv' := [(3, .int x3_33), (0, .ref (b + h0)), (1, .int x1), (2, .int x2)]) hx hb dX5_waitAt_33 hl (k := 3) rfl (by rw [← q33]; rfl) (by decide) rfl (fun ls hl => ?_)
        refine lv_goto (tgt := 2) hx hb dX5_waitAt_36 (by decide) ?_
        exact ih2 _ _ _ _ _ _ _ _ hf hP hS (lv_sub hl [1, 2, 3, 0] rfl)
      intro M H locs ls h0 x1 x2 x3 hf hP hS hl
      have hf : fX5_waitAt_2  (fX5_waitAt_2L  n2) M h0 x1 x2 x3 = some rr := hf
      unfold fX5_waitAt_2 at hf
      refine lv_iload_n hx hb dX5_waitAt_2 rfl (lv_at hl 3 rfl) ?_
      refine lv_aload_n hx hb dX5_waitAt_3 rfl (lv_at hl 0 rfl) ?_
      obtain ⟨v4, e4, hf⟩ := zb hf
      refine zr_al (t0 := 1) hx hb hK hP e4 (by decide) rfl dX5_waitAt_4 ?_
      refine lv_icmp_ge (tgt := 39) hx hb dX5_waitAt_5 (by decide) (fun c5 => ?_) (fun c5 => ?_)
      · have hf := (if_pos c5).symm.trans hf
        exact zret_v hx hb hr hlocks hf hP hS dX5_waitAt_39
      · have hf := (if_neg c5).symm.trans hf
        refine lv_iload_n hx hb dX5_waitAt_8 rfl (lv_at hl 1 rfl) ?_
        refine lv_iload_n hx hb dX5_waitAt_9 rfl (lv_at hl 3 rfl) ?_
        refine lv_ishr hx hb dX5_waitAt_10 ?_
        refine lv_if_eq (tgt := 39) hx hb dX5_waitAt_11 (by decide) (fun c11 => ?_) (fun c11 => ?_)
        · have hf := (if_pos c11).symm.trans hf
          exact zret_v hx hb hr hlocks hf hP hS dX5_waitAt_39
        · have hf := (if_neg c11).symm.trans hf
          refine lv_iload_n hx hb dX5_waitAt_14 rfl (lv_at hl 1 rfl) ?_
          refine lv_iload_n hx hb dX5_waitAt_15 rfl (lv_at hl 3 rfl) ?_
          refine lv_ishr hx hb dX5_waitAt_16 ?_
          refine lv_iconst (v := (1 : Int32)) hx hb dX5_waitAt_17 (by decide) ?_
          refine lv_iand hx hb dX5_waitAt_18 ?_
          refine lv_if_eq (tgt := 33) hx hb dX5_waitAt_19 (by decide) (fun c19 => ?_) (fun c19 => ?_)
          · have hf := (if_pos c19).symm.trans hf
            exact J33 _ _ _ _ _ _ _ _ hf hP hS (lv_sub hl [0, 1, 2, 3] rfl)
          · have hf := (if_neg c19).symm.trans hf
            refine lv_aload_n hx hb dX5_waitAt_22 rfl (lv_at hl 0 rfl) ?_
            refine lv_iload_n hx hb dX5_waitAt_23 rfl (lv_at hl 3 rfl) ?_
            obtain ⟨v24, e24, hf⟩ := zb hf
            refine zr_ai hx hb hK hP e24 dX5_waitAt_24 ?_
            refine lv_iload_n hx hb dX5_waitAt_25 rfl (lv_at hl 2 rfl) ?_
            refine lv_icmp_ge (tgt := 33) hx hb dX5_waitAt_26 (by decide) (fun c26 => ?_) (fun c26 => ?_)
            · have hf := (if_pos c26).symm.trans hf
              exact J33 _ _ _ _ _ _ _ _ hf hP hS (lv_sub hl [0, 1, 2, 3] rfl)
            · have hf := (if_neg c26).symm.trans hf
              refine lv_aload_n hx hb dX5_waitAt_29 rfl (lv_at hl 0 rfl) ?_
              refine lv_iload_n hx hb dX5_waitAt_30 rfl (lv_at hl 3 rfl) ?_
              refine lv_iload_n hx hb dX5_waitAt_31 rfl (lv_at hl 2 rfl) ?_
              obtain ⟨M32, e32, hf⟩ := zb hf
              refine zr_si hx hb hK hP hS e32 dX5_waitAt_32 (fun H locs hP _ hS => ?_)
              exact J33 _ _ _ _ _ _ _ _ hf hP hS (lv_sub hl [0, 1, 2, 3] rfl)
  unfold fX5_waitAt at hf
  refine lv_iconst (v := (0 : Int32)) hx hb dX5_waitAt_0 (by decide) ?_
  refine lv_istore_n (lv' := [(3, .int (0 : Int32)), (0, .ref (b + p0)), (1, .int p1), (2, .int p2)]) hx hb dX5_waitAt_1 rfl hl (by decide) rfl (fun ls hl => ?_)
  exact L2 _ _ _ _ _ _ _ _ _ hf hP hS (lv_sub hl [1, 2, 3, 0] rfl)
theorem hi_X5_beginAhead_3 : ∀ w ∈ wsX30, w ∈ wsX5_beginAhead := fun _ h => List.mem_cons_of_mem _ (List.mem_append_right _ h)
theorem hi_X5_beginAhead_5 : ∀ w ∈ wsX50, w ∈ wsX5_beginAhead := fun _ h => List.mem_cons_of_mem _ (List.mem_append_left _ (List.mem_append_right _ h))
set_option maxHeartbeats 4000000 in
set_option maxRecDepth 100000 in
theorem k_X5_beginAhead (l : Launch) (D : va_G) (cy : Nat → ClassId) (b : Nat) (M0 : Mem) (p0 : Nat) (p1 : Int32) (rr : Mem) (hf : fX5_beginAhead M0 p0 p1 = some rr) : Met l yX5_beginAhead wsX5_beginAhead ({ frames := 1, cells := 0, slots := 0, locals := 23 } : Room) (zPc D cy b M0 [.ref (b + p0), .int p1]) (zQv D cy b rr) 0 0 (zA b) := by
  refine Met.ofW (cc := cX5_beginAhead) (maxL := 2) (ret := none) (by decide) rfl ?_
  intro p e s m args below meth c s₁ B hml hv
  obtain ⟨rfl, hP, hK⟩ := hv
  have hx := B.exec
  have hb := B.bytes
  have hr := B.returns
  have hts := atoms_spec (ws := wsX5_beginAhead) B.pre
  have hown : s.vm.findClass RX5 = some m.cls := findClass_of_methodNamed B.named
  have hlocks := B.notSynchronized
  have hS : va_S (zA b) s.heap s.heap [] := va_S.rf
  have hl := lv_entry ([.ref (b + p0), .int p1]) (n := 2) (Nat.le_of_ble_eq_true rfl)
  rw [lg_entry_eq]
  generalize (lg_sl ([.ref (b + p0), .int p1]) ++ List.replicate (2 - (lg_sl ([.ref (b + p0), .int p1])).length) Slot.unset).toArray = ls at hl ⊢
  have hl : lv_has ls 2 [(0, .ref (b + p0)), (1, .int p1)] := hl
  have J15 : ∀ (M : Mem) (H : Heap) (locs : List Loc) (ls : Array Slot) (h0 : Nat) (x1 : Int32), fX5_beginAhead_15  M h0 x1 = some rr → zH D cy b M H → va_S (zA b) s.heap H locs → lv_has ls 2 [(0, .ref (b + h0)), (1, .int x1)] → W p l e (headSpec wsX5_beginAhead ({ frames := 1, cells := 0, slots := 0, locals := 23 } : Room)).room s m ([.ref (b + p0), .int p1] : List Value).toArray below meth c H locs 0 0 (MQ below (zQv D cy b rr) ([.ref (b + p0), .int p1] : List Value).toArray s 0 0 (zA b)) (F0 m 15 ls []) := by
    intro M H locs ls h0 x1 hf hP hS hl
    unfold fX5_beginAhead_15 at hf
    refine lv_aload_n hx hb dX5_beginAhead_15 rfl (lv_at hl 0 rfl) ?_
    obtain ⟨v16, e16, hf⟩ := zb hf
    refine zr_gr (ci := 5) (k := 5) (C := RX5) (T := TX5) (N := 9) hx hb hts hi_X5_beginAhead_5 hown hK hP e16 rfl rfl (by decide) (by decide) (hts (.fieldLink RX5 37 "BoundaryAnalyzer$Rule" "waiting" "[I") (List.mem_of_getElem? (i := 4) rfl)) dX5_beginAhead_16 ?_
    refine lv_aload_n hx hb dX5_beginAhead_19 rfl (lv_at hl 0 rfl) ?_
    obtain ⟨v20, e20, hf⟩ := zb hf
    refine zr_gr (ci := 5) (k := 2) (C := RX5) (T := TX5) (N := 9) hx hb hts hi_X5_beginAhead_5 hown hK hP e20 rfl rfl (by decide) (by decide) (hts (.fieldLink RX5 27 "BoundaryAnalyzer$Rule" "ahead" "LBoundaryAnalyzer$Part;") (List.mem_of_getElem? (i := 1) rfl)) dX5_beginAhead_20 ?_
    obtain ⟨v23, e23, hf⟩ := zb hf
    refine zr_gi (ci := 3) (k := 0) (C := RX3) (T := TX3) (N := 3) hx hb hts hi_X5_beginAhead_3 hown hK hP e23 rfl rfl (by decide) (by decide) (hts (.fieldLink RX5 60 "BoundaryAnalyzer$Part" "first" "I") (List.mem_of_getElem? (i := 5) rfl)) dX5_beginAhead_23 ?_
    refine lv_iload_n hx hb dX5_beginAhead_26 rfl (lv_at hl 1 rfl) ?_
    obtain ⟨M27, e27, hf⟩ := zb hf
    refine zc_v hS (va_runS (As := [.ref (b + v16), .int v23, .int x1]) (rest := []) ⟨hx, hb, hml, hown, hts⟩ (k_X5_waitAt l D cy b M  v16 v23 x1 M27 e27) (va_cwS 3 hts gX5_beginAhead_X5_waitAt rfl rfl rfl (by decide +kernel) ⟨Nat.le_of_ble_eq_true rfl, Nat.le_of_ble_eq_true rfl⟩) (zp_S _ hK hP) rfl rfl hl.1 rfl (lv_room (Nat.le_of_ble_eq_true rfl)) dX5_beginAhead_27 ⟨Nat.zero_le _, Nat.zero_le _⟩) (fun H locs hP hS => ?_)
    exact zret_v hx hb hr hlocks hf hP hS dX5_beginAhead_30
  unfold fX5_beginAhead at hf
  refine lv_aload_n hx hb dX5_beginAhead_0 rfl (lv_at hl 0 rfl) ?_
  obtain ⟨v1, e1, hf⟩ := zb hf
  refine zr_gr (ci := 5) (k := 2) (C := RX5) (T := TX5) (N := 9) hx hb hts hi_X5_beginAhead_5 hown hK hP e1 rfl rfl (by decide) (by decide) (hts (.fieldLink RX5 27 "BoundaryAnalyzer$Rule" "ahead" "LBoundaryAnalyzer$Part;") (List.mem_of_getElem? (i := 1) rfl)) dX5_beginAhead_1 ?_
  obtain ⟨v4, e4, hf⟩ := zb hf
  refine zr_gi (ci := 3) (k := 2) (C := RX3) (T := TX3) (N := 3) hx hb hts hi_X5_beginAhead_3 hown hK hP e4 rfl rfl (by decide) (by decide) (hts (.fieldLink RX5 63 "BoundaryAnalyzer$Part" "canBeEmpty" "Z") (List.mem_of_getElem? (i := 2) rfl)) dX5_beginAhead_4 ?_
  refine lv_if_eq (tgt := 15) hx hb dX5_beginAhead_7 (by decide) (fun c7 => ?_) (fun c7 => ?_)
  · have hf := (if_pos c7).symm.trans hf
    exact J15 _ _ _ _ _ _ hf hP hS (lv_sub hl [0, 1] rfl)
  · have hf := (if_neg c7).symm.trans hf
    refine lv_aload_n hx hb dX5_beginAhead_10 rfl (lv_at hl 0 rfl) ?_
    refine lv_iload_n hx hb dX5_beginAhead_11 rfl (lv_at hl 1 rfl) ?_
    obtain ⟨M12, e12, hf⟩ := zb hf
    refine zr_pi (ci := 5) (k := 7) (C := RX5) (T := TX5) (N := 9) hx hb hts hi_X5_beginAhead_5 tyX5 tyX5_ok nmX5 hown hK hP hS e12 rfl rfl (by decide) (by decide) (hts (.fieldLink RX5 51 "BoundaryAnalyzer$Rule" "matched" "I") (List.mem_of_getElem? (i := 3) rfl)) rfl (tyX5_ok 7 (by decide)) dX5_beginAhead_12 (fun H locs hP _ hS => ?_)
    exact J15 _ _ _ _ _ _ hf hP hS (lv_sub hl [0, 1] rfl)
theorem hi_X5_followersOf_5 : ∀ w ∈ wsX50, w ∈ wsX5_followersOf := fun _ h => List.mem_cons_of_mem _ (List.mem_append_right _ h)
set_option maxHeartbeats 4000000 in
set_option maxRecDepth 100000 in
theorem k_X5_followersOf (l : Launch) (D : va_G) (cy : Nat → ClassId) (b : Nat) (M0 : Mem) (p0 : Nat) (p1 : Int32) (rr : Int32 × Mem) (hf : fX5_followersOf M0 p0 p1 = some rr) : Met l yX5_followersOf wsX5_followersOf ({ frames := 0, cells := 0, slots := 0, locals := 0 } : Room) (zPc D cy b M0 [.ref (b + p0), .int p1]) (zQi D cy b rr) 0 0 (zA b) := by
  refine Met.ofW (cc := cX5_followersOf) (maxL := 4) (ret := (some .int)) (by decide) rfl ?_
  intro p e s m args below meth c s₁ B hml hv
  obtain ⟨rfl, hP, hK⟩ := hv
  have hx := B.exec
  have hb := B.bytes
  have hr := B.returns
  have hts := atoms_spec (ws := wsX5_followersOf) B.pre
  have hown : s.vm.findClass RX5 = some m.cls := findClass_of_methodNamed B.named
  have hlocks := B.notSynchronized
  have hS : va_S (zA b) s.heap s.heap [] := va_S.rf
  have hl := lv_entry ([.ref (b + p0), .int p1]) (n := 4) (Nat.le_of_ble_eq_true rfl)
  rw [lg_entry_eq]
  generalize (lg_sl ([.ref (b + p0), .int p1]) ++ List.replicate (4 - (lg_sl ([.ref (b + p0), .int p1])).length) Slot.unset).toArray = ls at hl ⊢
  have hl : lv_has ls 4 [(0, .ref (b + p0)), (1, .int p1)] := hl
  have L4 : ∀ (n4 : Nat) (M : Mem) (H : Heap) (locs : List Loc) (ls : Array Slot) (h0 : Nat) (x1 : Int32) (x2 : Int32) (x3 : Int32), fX5_followersOf_4L  n4 M h0 x1 x2 x3 = some rr → zH D cy b M H → va_S (zA b) s.heap H locs → lv_has ls 4 [(0, .ref (b + h0)), (1, .int x1), (2, .int x2), (3, .int x3)] → W p l e (headSpec wsX5_followersOf ({ frames := 0, cells := 0, slots := 0, locals := 0 } : Room)).room s m ([.ref (b + p0), .int p1] : List Value).toArray below meth c H locs 0 0 (MQ below (zQi D cy b rr) ([.ref (b + p0), .int p1] : List Value).toArray s 0 0 (zA b)) (F0 m 4 ls []) := by
    intro n4
    induction n4 with
    | zero =>
      intro M H locs ls h0 x1 x2 x3 hf
      have hf : (none : Option (Int32 × Mem)) = some rr := hf
      cases hf
    | succ n4 ih4 =>
      have J33 : ∀ (M : Mem) (H : Heap) (locs : List Loc) (ls : Array Slot) (h0 : Nat) (x1 : Int32) (x2 : Int32) (x3 : Int32), fX5_followersOf_33 (fX5_followersOf_4L  n4) M h0 x1 x2 x3 = some rr → zH D cy b M H → va_S (zA b) s.heap H locs → lv_has ls 4 [(0, .ref (b + h0)), (1, .int x1), (2, .int x2), (3, .int x3)] → W p l e (headSpec wsX5_followersOf ({ frames := 0, cells := 0, slots := 0, locals := 0 } : Room)).room s m ([.ref (b + p0), .int p1] : List Value).toArray below meth c H locs 0 0 (MQ below (zQi D cy b rr) ([.ref (b + p0), .int p1] : List Value).toArray s 0 0 (zA b)) (F0 m 33 ls []) := by
        intro M H locs ls h0 x1 x2 x3 hf hP hS hl
        unfold fX5_followersOf_33 at hf
        obtain ⟨x3_33, q33, hf⟩ := zlt_s hf
        refine lv_iinc (v := x3_33) (lv' := [(3, .int x3_33), (0, .ref (b + h0)), (1, .int x1), (2, .int x2)]) hx hb dX5_followersOf_33 hl (k := 3) rfl (by rw [← q33]; rfl) (by decide) rfl (fun ls hl => ?_)
        refine lv_goto (tgt := 4) hx hb dX5_followersOf_36 (by decide) ?_
        exact ih4 _ _ _ _ _ _ _ _ hf hP hS (lv_sub hl [1, 2, 3, 0] rfl)
      intro M H locs ls h0 x1 x2 x3 hf hP hS hl
      have hf : fX5_followersOf_4  (fX5_followersOf_4L  n4) M h0 x1 x2 x3 = some rr := hf
      unfold fX5_followersOf_4 at hf
      refine lv_iload_n hx hb dX5_followersOf_4 rfl (lv_at hl 3 rfl) ?_
      refine lv_bipush (v := (24 : Int32)) hx hb dX5_followersOf_5 (by decide) ?_
      refine lv_icmp_ge (tgt := 39) hx hb dX5_followersOf_7 (by decide) (fun c7 => ?_) (fun c7 => ?_)
      · have hf := (if_pos c7).symm.trans hf
        refine lv_iload_n hx hb dX5_followersOf_39 rfl (lv_at hl 2 rfl) ?_
        exact zret_i hx hb hr hlocks hf hP hS dX5_followersOf_40
      · have hf := (if_neg c7).symm.trans hf
        refine lv_iload_n hx hb dX5_followersOf_10 rfl (lv_at hl 1 rfl) ?_
        refine lv_iload_n hx hb dX5_followersOf_11 rfl (lv_at hl 3 rfl) ?_
        refine lv_ishr hx hb dX5_followersOf_12 ?_
        refine lv_if_eq (tgt := 39) hx hb dX5_followersOf_13 (by decide) (fun c13 => ?_) (fun c13 => ?_)
        · have hf := (if_pos c13).symm.trans hf
          refine lv_iload_n hx hb dX5_followersOf_39 rfl (lv_at hl 2 rfl) ?_
          exact zret_i hx hb hr hlocks hf hP hS dX5_followersOf_40
        · have hf := (if_neg c13).symm.trans hf
          refine lv_iload_n hx hb dX5_followersOf_16 rfl (lv_at hl 1 rfl) ?_
          refine lv_iload_n hx hb dX5_followersOf_17 rfl (lv_at hl 3 rfl) ?_
          refine lv_ishr hx hb dX5_followersOf_18 ?_
          refine lv_iconst (v := (1 : Int32)) hx hb dX5_followersOf_19 (by decide) ?_
          refine lv_iand hx hb dX5_followersOf_20 ?_
          refine lv_if_eq (tgt := 33) hx hb dX5_followersOf_21 (by decide) (fun c21 => ?_) (fun c21 => ?_)
          · have hf := (if_pos c21).symm.trans hf
            exact J33 _ _ _ _ _ _ _ _ hf hP hS (lv_sub hl [0, 1, 2, 3] rfl)
          · have hf := (if_neg c21).symm.trans hf
            refine lv_iload_n hx hb dX5_followersOf_24 rfl (lv_at hl 2 rfl) ?_
            refine lv_aload_n hx hb dX5_followersOf_25 rfl (lv_at hl 0 rfl) ?_
            obtain ⟨v26, e26, hf⟩ := zb hf
            refine zr_gr (ci := 5) (k := 3) (C := RX5) (T := TX5) (N := 9) hx hb hts hi_X5_followersOf_5 hown hK hP e26 rfl rfl (by decide) (by decide) (hts (.fieldLink RX5 30 "BoundaryAnalyzer$Rule" "followers" "[I") (List.mem_of_getElem? (i := 1) rfl)) dX5_followersOf_26 ?_
            refine lv_iload_n hx hb dX5_followersOf_29 rfl (lv_at hl 3 rfl) ?_
            obtain ⟨v30, e30, hf⟩ := zb hf
            refine zr_ai hx hb hK hP e30 dX5_followersOf_30 ?_
            refine lv_ior hx hb dX5_followersOf_31 ?_
            obtain ⟨x2_32, q32, hf⟩ := zlt_s hf
            refine zt q32 ?_
            refine lv_istore_n (lv' := [(2, .int x2_32), (0, .ref (b + h0)), (1, .int x1), (3, .int x3)]) hx hb dX5_followersOf_32 rfl hl (by decide) rfl (fun ls hl => ?_)
            exact J33 _ _ _ _ _ _ _ _ hf hP hS (lv_sub hl [1, 2, 0, 3] rfl)
  unfold fX5_followersOf at hf
  refine lv_iconst (v := (0 : Int32)) hx hb dX5_followersOf_0 (by decide) ?_
  refine lv_istore_n (lv' := [(2, .int (0 : Int32)), (0, .ref (b + p0)), (1, .int p1)]) hx hb dX5_followersOf_1 rfl hl (by decide) rfl (fun ls hl => ?_)
  refine lv_iconst (v := (0 : Int32)) hx hb dX5_followersOf_2 (by decide) ?_
  refine lv_istore_n (lv' := [(3, .int (0 : Int32)), (2, .int (0 : Int32)), (0, .ref (b + p0)), (1, .int p1)]) hx hb dX5_followersOf_3 rfl hl (by decide) rfl (fun ls hl => ?_)
  exact L4 _ _ _ _ _ _ _ _ _ hf hP hS (lv_sub hl [2, 3, 1, 0] rfl)
