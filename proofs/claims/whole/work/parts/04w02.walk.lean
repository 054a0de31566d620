theorem hi_X5_takersOf_5 : ∀ w ∈ wsX50, w ∈ wsX5_takersOf := fun _ h => List.mem_cons_of_mem _ (List.mem_append_right _ h)
set_option maxHeartbeats 4000000 in
set_option maxRecDepth 100000 in
theorem k_X5_takersOf (l : Launch) (D : va_G) (cy : Nat → ClassId) (b : Nat) (M0 : Mem) (h0 : Nat) (x1 : Int32) (rr : Int32 × Mem) (hf : fX5_takersOf M0 h0 x1 = some rr) : Met l yX5_takersOf wsX5_takersOf ({ frames := 1, cells := 0, slots := 0, locals := 20 } : Room) (zPc D cy b M0 [.ref (b + h0), .int x1]) (zQi D cy b rr) 0 0 (zA b) := by
  refine Met.ofW (cc := cX5_takersOf) (maxL := 2) (ret := (some .int)) (by decide) rfl ?_
  intro p e s m args below meth c s₁ B hml hv
  obtain ⟨rfl, hP, hK⟩ := hv
  have hx := B.exec
  have hb := B.bytes
  have hr := B.returns
  have hts := atoms_spec (ws := wsX5_takersOf) B.pre
  have hown : s.vm.findClass RX5 = some m.cls := findClass_of_methodNamed B.named
  have hlocks := B.notSynchronized
  have hS : va_S (zA b) s.heap s.heap [] := va_S.rf
  have hl := lv_entry ([.ref (b + h0), .int x1]) (n := 2) (Nat.le_of_ble_eq_true rfl)
  rw [lg_entry_eq]
  generalize (lg_sl ([.ref (b + h0), .int x1]) ++ List.replicate (2 - (lg_sl ([.ref (b + h0), .int x1])).length) Slot.unset).toArray = ls at hl ⊢
  have hl : lv_has ls 2 [(0, .ref (b + h0)), (1, .int x1)] := hl
  unfold fX5_takersOf at hf
  refine lv_iload_n hx hb dX5_takersOf_0 rfl (lv_at hl 1 rfl) ?_
  obtain ⟨v1, e1, hf⟩ := zb hf
  refine zc_p (va_runSN (As := [.int x1]) (rest := []) ⟨hx, hb, hml, hown, hts⟩ (k_X8_isClass l x1 v1 e1) ⟨va_cnB 1 hts gX5_takersOf_X8_isClass_n47 rfl rfl rfl (hK.2.1 _ (List.mem_of_getElem? (i := 4) rfl)) (hts (.initialized RX8) (List.mem_of_getElem? (i := 3) rfl)) (by decide +kernel) ⟨Nat.le_of_ble_eq_true rfl, Nat.le_of_ble_eq_true rfl⟩, (hts (.static yX8_isClass) (List.mem_of_getElem? (i := 2) rfl)), trivial⟩ (zp_p _) rfl rfl hl.1 rfl (lv_room (Nat.le_of_ble_eq_true rfl)) dX5_takersOf_1 ⟨Nat.zero_le _, Nat.zero_le _⟩) ?_
  refine lv_if_eq (tgt := 16) hx hb dX5_takersOf_4 (by decide) (fun c4 => ?_) (fun c4 => ?_)
  · have hf := (if_pos c4).symm.trans hf
    refine lv_iconst (v := (0 : Int32)) hx hb dX5_takersOf_16 (by decide) ?_
    exact zret_i hx hb hr hlocks hf hP hS dX5_takersOf_17
  · have hf := (if_neg c4).symm.trans hf
    refine lv_aload_n hx hb dX5_takersOf_7 rfl (lv_at hl 0 rfl) ?_
    obtain ⟨v8, e8, hf⟩ := zb hf
    refine zr_gr (ci := 5) (k := 4) (C := RX5) (T := TX5) (N := 9) hx hb hts hi_X5_takersOf_5 hown hK hP e8 rfl rfl (by decide) (by decide) (hts (.fieldLink RX5 34 "BoundaryAnalyzer$Rule" "takers" "[I") (List.mem_of_getElem? (i := 1) rfl)) dX5_takersOf_8 ?_
    refine lv_iload_n hx hb dX5_takersOf_11 rfl (lv_at hl 1 rfl) ?_
    obtain ⟨v12, e12, hf⟩ := zb hf
    refine zr_ai hx hb hK hP e12 dX5_takersOf_12 ?_
    refine lv_goto (tgt := 17) hx hb dX5_takersOf_13 (by decide) ?_
    exact zret_i hx hb hr hlocks hf hP hS dX5_takersOf_17
set_option maxHeartbeats 4000000 in
set_option maxRecDepth 100000 in
theorem k_X5_waitAt (l : Launch) (D : va_G) (cy : Nat → ClassId) (b : Nat) (M0 : Mem) (h0 : Nat) (x1 : Int32) (x2 : Int32) (rr : Mem) (hf : fX5_waitAt M0 h0 x1 x2 = some rr) : Met l yX5_waitAt wsX5_waitAt ({ frames := 0, cells := 0, slots := 0, locals := 0 } : Room) (zPc D cy b M0 [.ref (b + h0), .int x1, .int x2]) (zQv D cy b rr) 0 0 (zA b) := by
  refine Met.ofW (cc := cX5_waitAt) (maxL := 4) (ret := none) (by decide) rfl ?_
  intro p e s m args below meth c s₁ B hml hv
  obtain ⟨rfl, hP, hK⟩ := hv
  have hx := B.exec
  have hb := B.bytes
  have hr := B.returns
  have hts := atoms_spec (ws := wsX5_waitAt) B.pre
  have hown : s.vm.findClass RX5 = some m.cls := findClass_of_methodNamed B.named
  have hlocks := B.notSynchronized
  have hS : va_S (zA b) s.heap s.heap [] := va_S.rf
  have hl := lv_entry ([.ref (b + h0), .int x1, .int x2]) (n := 4) (Nat.le_of_ble_eq_true rfl)
  rw [lg_entry_eq]
  generalize (lg_sl ([.ref (b + h0), .int x1, .int x2]) ++ List.replicate (4 - (lg_sl ([.ref (b + h0), .int x1, .int x2])).length) Slot.unset).toArray = ls at hl ⊢
  have hl : lv_has ls 4 [(0, .ref (b + h0)), (1, .int x1), (2, .int x2)] := hl
  have L2 : ∀ (n2 : Nat) (M : Mem) (H : Heap) (locs : List Loc) (ls : Array Slot) (h0 : Nat) (x1 : Int32) (x2 : Int32) (x3 : Int32), fX5_waitAt_2L  n2 M h0 x1 x2 x3 = some rr → zH D cy b M H → va_S (zA b) s.heap H locs → lv_has ls 4 [(0, .ref (b + h0)), (1, .int x1), (2, .int x2), (3, .int x3)] → W p l e (headSpec wsX5_waitAt ({ frames := 0, cells := 0, slots := 0, locals := 0 } : Room)).room s m ([.ref (b + h0), .int x1, .int x2] : List Value).toArray below meth c H locs 0 0 (MQ below (zQv D cy b rr) ([.ref (b + h0), .int x1, .int x2] : List Value).toArray s 0 0 (zA b)) (F0 m 2 ls []) := by
    intro n2
    induction n2 with
    | zero =>
      intro M H locs ls h0 x1 x2 x3 hf
      have hf : (none : Option Mem) = some rr := hf
      cases hf
    | succ n2 ih2 =>
      have J33 : ∀ (M : Mem) (H : Heap) (locs : List Loc) (ls : Array Slot) (h0 : Nat) (x1 : Int32) (x2 : Int32) (x3 : Int32), fX5_waitAt_33 (fX5_waitAt_2L  n2) M h0 x1 x2 x3 = some rr → zH D cy b M H → va_S (zA b) s.heap H locs → lv_has ls 4 [(0, .ref (b + h0)), (1, .int x1), (2, .int x2), (3, .int x3)] → W p l e (headSpec wsX5_waitAt ({ frames := 0, cells := 0, slots := 0, locals := 0 } : Room)).room s m ([.ref (b + h0), .int x1, .int x2] : List Value).toArray below meth c H locs 0 0 (MQ below (zQv D cy b rr) ([.ref (b + h0), .int x1, .int x2] : List Value).toArray s 0 0 (zA b)) (F0 m 33 ls []) := by
        intro M H locs ls h0 x1 x2 x3 hf hP hS hl
        unfold fX5_waitAt_33 at hf
        obtain ⟨x3_33, q33, hf⟩ := zlt_s hf
        refine lv_iinc (v := x3_33) (lv' := [(3, .int x3_33), (0, .ref (b + h0)), (1, .int x1), (2, .int x2)]) hx hb dX5_waitAt_33 hl (k := 3) rfl (by rw [← q33]; rfl) (by decide) rfl (fun ls hl => ?_)
        refine lv_goto (tgt := 2) hx hb dX5_waitAt_36 (by decide) ?_
        exact ih2 _ _ _ _ _ _ _ _ hf hP hS (lv_sub hl [1, 2, 3, 0] rfl)
      intro M H locs ls h0 x1 x2 x3 hf hP hS hl
      have hf : fX5_waitAt_2  (fX5_waitAt_2L  n2) M h0 x1 x2 x3 = some rr := hf
      unfold fX5_waitAt_2 at hf
      refine lv_iload_n hx hb dX5_waitAt_2 rfl (lv_at hl 3 rfl) ?_
      refine lv_aload_n hx hb dX5_waitAt_3 rfl (lv_at hl 0 rfl) ?_
      obtain ⟨v4, e4, hf⟩ := zb hf
      refine zr_al (t0 := 1) hx hb hK hP e4 (by decide) rfl dX5_waitAt_4 ?_
      refine lv_icmp_ge (tgt := 39) hx hb dX5_waitAt_5 (by decide) (fun c5 => ?_) (fun c5 => ?_)
      · have hf := (if_pos c5).symm.trans hf
        exact zret_v hx hb hr hlocks hf hP hS dX5_waitAt_39
      · have hf := (if_neg c5).symm.trans hf
        refine lv_iload_n hx hb dX5_waitAt_8 rfl (lv_at hl 1 rfl) ?_
        refine lv_iload_n hx hb dX5_waitAt_9 rfl (lv_at hl 3 rfl) ?_
        refine lv_ishr hx hb dX5_waitAt_10 ?_
        refine lv_if_eq (tgt := 39) hx hb dX5_waitAt_11 (by decide) (fun c11 => ?_) (fun c11 => ?_)
        · have hf := (if_pos c11).symm.trans hf
          exact zret_v hx hb hr hlocks hf hP hS dX5_waitAt_39
        · have hf := (if_neg c11).symm.trans hf
          refine lv_iload_n hx hb dX5_waitAt_14 rfl (lv_at hl 1 rfl) ?_
          refine lv_iload_n hx hb dX5_waitAt_15 rfl (lv_at hl 3 rfl) ?_
          refine lv_ishr hx hb dX5_waitAt_16 ?_
          refine lv_iconst (v := (1 : Int32)) hx hb dX5_waitAt_17 (by decide) ?_
          refine lv_iand hx hb dX5_waitAt_18 ?_
          refine lv_if_eq (tgt := 33) hx hb dX5_waitAt_19 (by decide) (fun c19 => ?_) (fun c19 => ?_)
          · have hf := (if_pos c19).symm.trans hf
            exact J33 _ _ _ _ _ _ _ _ hf hP hS (lv_sub hl [0, 1, 2, 3] rfl)
          · have hf := (if_neg c19).symm.trans hf
            refine lv_aload_n hx hb dX5_waitAt_22 rfl (lv_at hl 0 rfl) ?_
            refine lv_iload_n hx hb dX5_waitAt_23 rfl (lv_at hl 3 rfl) ?_
            obtain ⟨v24, e24, hf⟩ := zb hf
            refine zr_ai hx hb hK hP e24 dX5_waitAt_24 ?_
            refine lv_iload_n hx hb dX5_waitAt_25 rfl (lv_at hl 2 rfl) ?_
            refine lv_icmp_ge (tgt := 33) hx hb dX5_waitAt_26 (by decide) (fun c26 => ?_) (fun c26 => ?_)
            · have hf := (if_pos c26).symm.trans hf
              exact J33 _ _ _ _ _ _ _ _ hf hP hS (lv_sub hl [0, 1, 2, 3] rfl)
            · have hf := (if_neg c26).symm.trans hf
              refine lv_aload_n hx hb dX5_waitAt_29 rfl (lv_at hl 0 rfl) ?_
              refine lv_iload_n hx hb dX5_waitAt_30 rfl (lv_at hl 3 rfl) ?_
              refine lv_iload_n hx hb dX5_waitAt_31 rfl (lv_at hl 2 rfl) ?_
              obtain ⟨M32, e32, hf⟩ := zb hf
              refine zr_si hx hb hK hP hS e32 dX5_waitAt_32 (fun H locs hP _ hS => ?_)
              exact J33 _ _ _ _ _ _ _ _ hf hP hS (lv_sub hl [0, 1, 2, 3] rfl)
  unfold fX5_waitAt at hf
  refine lv_iconst (v := (0 : Int32)) hx hb dX5_waitAt_0 (by decide) ?_
  refine lv_istore_n (lv' := [(3, .int (0 : Int32)), (0, .ref (b + h0)), (1, .int x1), (2, .int x2)]) hx hb dX5_waitAt_1 rfl hl (by decide) rfl (fun ls hl => ?_)
  exact L2 _ _ _ _ _ _ _ _ _ hf hP hS (lv_sub hl [1, 2, 3, 0] rfl)
theorem hi_X5_beginAhead_3 : ∀ w ∈ wsX30, w ∈ wsX5_beginAhead := fun _ h => List.mem_cons_of_mem _ (List.mem_append_right _ h)
theorem hi_X5_beginAhead_5 : ∀ w ∈ wsX50, w ∈ wsX5_beginAhead := fun _ h => List.mem_cons_of_mem _ (List.mem_append_left _ (List.mem_append_right _ h))
set_option maxHeartbeats 4000000 in
set_option maxRecDepth 100000 in
theorem k_X5_beginAhead (l : Launch) (D : va_G) (cy : Nat → ClassId) (b : Nat) (M0 : Mem) (h0 : Nat) (x1 : Int32) (rr : Mem) (hf : fX5_beginAhead M0 h0 x1 = some rr) : Met l yX5_beginAhead wsX5_beginAhead ({ frames := 1, cells := 0, slots := 0, locals := 23 } : Room) (zPc D cy b M0 [.ref (b + h0), .int x1]) (zQv D cy b rr) 0 0 (zA b) := by
  refine Met.ofW (cc := cX5_beginAhead) (maxL := 2) (ret := none) (by decide) rfl ?_
  intro p e s m args below meth c s₁ B hml hv
  obtain ⟨rfl, hP, hK⟩ := hv
  have hx := B.exec
  have hb := B.bytes
  have hr := B.returns
  have hts := atoms_spec (ws := wsX5_beginAhead) B.pre
  have hown : s.vm.findClass RX5 = some m.cls := findClass_of_methodNamed B.named
  have hlocks := B.notSynchronized
  have hS : va_S (zA b) s.heap s.heap [] := va_S.rf
  have hl := lv_entry ([.ref (b + h0), .int x1]) (n := 2) (Nat.le_of_ble_eq_true rfl)
  rw [lg_entry_eq]
  generalize (lg_sl ([.ref (b + h0), .int x1]) ++ List.replicate (2 - (lg_sl ([.ref (b + h0), .int x1])).length) Slot.unset).toArray = ls at hl ⊢
  have hl : lv_has ls 2 [(0, .ref (b + h0)), (1, .int x1)] := hl
  have J15 : ∀ (M : Mem) (H : Heap) (locs : List Loc) (ls : Array Slot) (h0 : Nat) (x1 : Int32), fX5_beginAhead_15  M h0 x1 = some rr → zH D cy b M H → va_S (zA b) s.heap H locs → lv_has ls 2 [(0, .ref (b + h0)), (1, .int x1)] → W p l e (headSpec wsX5_beginAhead ({ frames := 1, cells := 0, slots := 0, locals := 23 } : Room)).room s m ([.ref (b + h0), .int x1] : List Value).toArray below meth c H locs 0 0 (MQ below (zQv D cy b rr) ([.ref (b + h0), .int x1] : List Value).toArray s 0 0 (zA b)) (F0 m 15 ls []) := by
    intro M H locs ls h0 x1 hf hP hS hl
    unfold fX5_beginAhead_15 at hf
    refine lv_aload_n hx hb dX5_beginAhead_15 rfl (lv_at hl 0 rfl) ?_
    obtain ⟨v16, e16, hf⟩ := zb hf
    refine zr_gr (ci := 5) (k := 5) (C := RX5) (T := TX5) (N := 9) hx hb hts hi_X5_beginAhead_5 hown hK hP e16 rfl rfl (by decide) (by decide) (hts (.fieldLink RX5 37 "BoundaryAnalyzer$Rule" "waiting" "[I") (List.mem_of_getElem? (i := 4) rfl)) dX5_beginAhead_16 ?_
    refine lv_aload_n hx hb dX5_beginAhead_19 rfl (lv_at hl 0 rfl) ?_
    obtain ⟨v20, e20, hf⟩ := zb hf
    refine zr_gr (ci := 5) (k := 2) (C := RX5) (T := TX5) (N := 9) hx hb hts hi_X5_beginAhead_5 hown hK hP e20 rfl rfl (by decide) (by decide) (hts (.fieldLink RX5 27 "BoundaryAnalyzer$Rule" "ahead" "LBoundaryAnalyzer$Part;") (List.mem_of_getElem? (i := 1) rfl)) dX5_beginAhead_20 ?_
    obtain ⟨v23, e23, hf⟩ := zb hf
    refine zr_gi (ci := 3) (k := 0) (C := RX3) (T := TX3) (N := 3) hx hb hts hi_X5_beginAhead_3 hown hK hP e23 rfl rfl (by decide) (by decide) (hts (.fieldLink RX5 60 "BoundaryAnalyzer$Part" "first" "I") (List.mem_of_getElem? (i := 5) rfl)) dX5_beginAhead_23 ?_
    refine lv_iload_n hx hb dX5_beginAhead_26 rfl (lv_at hl 1 rfl) ?_
    obtain ⟨M27, e27, hf⟩ := zb hf
    refine zc_v hS (va_runS (As := [.ref (b + v16), .int v23, .int x1]) (rest := []) ⟨hx, hb, hml, hown, hts⟩ (k_X5_waitAt l D cy b M  v16 v23 x1 M27 e27) (va_cwS 3 hts gX5_beginAhead_X5_waitAt rfl rfl rfl (by decide +kernel) ⟨Nat.le_of_ble_eq_true rfl, Nat.le_of_ble_eq_true rfl⟩) (zp_S _ hK hP) rfl rfl hl.1 rfl (lv_room (Nat.le_of_ble_eq_true rfl)) dX5_beginAhead_27 ⟨Nat.zero_le _, Nat.zero_le _⟩) (fun H locs hP hS => ?_)
    exact zret_v hx hb hr hlocks hf hP hS dX5_beginAhead_30
  unfold fX5_beginAhead at hf
  refine lv_aload_n hx hb dX5_beginAhead_0 rfl (lv_at hl 0 rfl) ?_
  obtain ⟨v1, e1, hf⟩ := zb hf
  refine zr_gr (ci := 5) (k := 2) (C := RX5) (T := TX5) (N := 9) hx hb hts hi_X5_beginAhead_5 hown hK hP e1 rfl rfl (by decide) (by decide) (hts (.fieldLink RX5 27 "BoundaryAnalyzer$Rule" "ahead" "LBoundaryAnalyzer$Part;") (List.mem_of_getElem? (i := 1) rfl)) dX5_beginAhead_1 ?_
  obtain ⟨v4, e4, hf⟩ := zb hf
  refine zr_gi (ci := 3) (k := 2) (C := RX3) (T := TX3) (N := 3) hx hb hts hi_X5_beginAhead_3 hown hK hP e4 rfl rfl (by decide) (by decide) (hts (.fieldLink RX5 63 "BoundaryAnalyzer$Part" "canBeEmpty" "Z") (List.mem_of_getElem? (i := 2) rfl)) dX5_beginAhead_4 ?_
  refine lv_if_eq (tgt := 15) hx hb dX5_beginAhead_7 (by decide) (fun c7 => ?_) (fun c7 => ?_)
  · have hf := (if_pos c7).symm.trans hf
    exact J15 _ _ _ _ _ _ hf hP hS (lv_sub hl [0, 1] rfl)
  · have hf := (if_neg c7).symm.trans hf
    refine lv_aload_n hx hb dX5_beginAhead_10 rfl (lv_at hl 0 rfl) ?_
    refine lv_iload_n hx hb dX5_beginAhead_11 rfl (lv_at hl 1 rfl) ?_
    obtain ⟨M12, e12, hf⟩ := zb hf
    refine zr_pi (ci := 5) (k := 7) (C := RX5) (T := TX5) (N := 9) hx hb hts hi_X5_beginAhead_5 tyX5 tyX5_ok nmX5 hown hK hP hS e12 rfl rfl (by decide) (by decide) (hts (.fieldLink RX5 51 "BoundaryAnalyzer$Rule" "matched" "I") (List.mem_of_getElem? (i := 3) rfl)) rfl (tyX5_ok 7 (by decide)) dX5_beginAhead_12 (fun H locs hP _ hS => ?_)
    exact J15 _ _ _ _ _ _ hf hP hS (lv_sub hl [0, 1] rfl)
theorem hi_X5_followersOf_5 : ∀ w ∈ wsX50, w ∈ wsX5_followersOf := fun _ h => List.mem_cons_of_mem _ (List.mem_append_right _ h)
set_option maxHeartbeats 4000000 in
set_option maxRecDepth 100000 in
theorem k_X5_followersOf (l : Launch) (D : va_G) (cy : Nat → ClassId) (b : Nat) (M0 : Mem) (h0 : Nat) (x1 : Int32) (rr : Int32 × Mem) (hf : fX5_followersOf M0 h0 x1 = some rr) : Met l yX5_followersOf wsX5_followersOf ({ frames := 0, cells := 0, slots := 0, locals := 0 } : Room) (zPc D cy b M0 [.ref (b + h0), .int x1]) (zQi D cy b rr) 0 0 (zA b) := by
  refine Met.ofW (cc := cX5_followersOf) (maxL := 4) (ret := (some .int)) (by decide) rfl ?_
  intro p e s m args below meth c s₁ B hml hv
  obtain ⟨rfl, hP, hK⟩ := hv
  have hx := B.exec
  have hb := B.bytes
  have hr := B.returns
  have hts := atoms_spec (ws := wsX5_followersOf) B.pre
  have hown : s.vm.findClass RX5 = some m.cls := findClass_of_methodNamed B.named
  have hlocks := B.notSynchronized
  have hS : va_S (zA b) s.heap s.heap [] := va_S.rf
  have hl := lv_entry ([.ref (b + h0), .int x1]) (n := 4) (Nat.le_of_ble_eq_true rfl)
  rw [lg_entry_eq]
  generalize (lg_sl ([.ref (b + h0), .int x1]) ++ List.replicate (4 - (lg_sl ([.ref (b + h0), .int x1])).length) Slot.unset).toArray = ls at hl ⊢
  have hl : lv_has ls 4 [(0, .ref (b + h0)), (1, .int x1)] := hl
  have L4 : ∀ (n4 : Nat) (M : Mem) (H : Heap) (locs : List Loc) (ls : Array Slot) (h0 : Nat) (x1 : Int32) (x2 : Int32) (x3 : Int32), fX5_followersOf_4L  n4 M h0 x1 x2 x3 = some rr → zH D cy b M H → va_S (zA b) s.heap H locs → lv_has ls 4 [(0, .ref (b + h0)), (1, .int x1), (2, .int x2), (3, .int x3)] → W p l e (headSpec wsX5_followersOf ({ frames := 0, cells := 0, slots := 0, locals := 0 } : Room)).room s m ([.ref (b + h0), .int x1] : List Value).toArray below meth c H locs 0 0 (MQ below (zQi D cy b rr) ([.ref (b + h0), .int x1] : List Value).toArray s 0 0 (zA b)) (F0 m 4 ls []) := by
    intro n4
    induction n4 with
    | zero =>
      intro M H locs ls h0 x1 x2 x3 hf
      have hf : (none : Option (Int32 × Mem)) = some rr := hf
      cases hf
    | succ n4 ih4 =>
      have J33 : ∀ (M : Mem) (H : Heap) (locs : List Loc) (ls : Array Slot) (h0 : Nat) (x1 : Int32) (x2 : Int32) (x3 : Int32), fX5_followersOf_33 (fX5_followersOf_4L  n4) M h0 x1 x2 x3 = some rr → zH D cy b M H → va_S (zA b) s.heap H locs → lv_has ls 4 [(0, .ref (b + h0)), (1, .int x1), (2, .int x2), (3, .int x3)] → W p l e (headSpec wsX5_followersOf ({ frames := 0, cells := 0, slots := 0, locals := 0 } : Room)).room s m ([.ref (b + h0), .int x1] : List Value).toArray below meth c H locs 0 0 (MQ below (zQi D cy b rr) ([.ref (b + h0), .int x1] : List Value).toArray s 0 0 (zA b)) (F0 m 33 ls []) := by
        intro M H locs ls h0 x1 x2 x3 hf hP hS hl
        unfold fX5_followersOf_33 at hf
        obtain ⟨x3_33, q33, hf⟩ := zlt_s hf
        refine lv_iinc (v := x3_33) (lv' := [(3, .int x3_33), (0, .ref (b + h0)), (1, .int x1), (2, .int x2)]) hx hb dX5_followersOf_33 hl (k := 3) rfl (by rw [← q33]; rfl) (by decide) rfl (fun ls hl => ?_)
        refine lv_goto (tgt := 4) hx hb dX5_followersOf_36 (by decide) ?_
        exact ih4 _ _ _ _ _ _ _ _ hf hP hS (lv_sub hl [1, 2, 3, 0] rfl)
      intro M H locs ls h0 x1 x2 x3 hf hP hS hl
      have hf : fX5_followersOf_4  (fX5_followersOf_4L  n4) M h0 x1 x2 x3 = some rr := hf
      unfold fX5_followersOf_4 at hf
      refine lv_iload_n hx hb dX5_followersOf_4 rfl (lv_at hl 3 rfl) ?_
      refine lv_bipush (v := (24 : Int32)) hx hb dX5_followersOf_5 (by decide) ?_
      refine lv_icmp_ge (tgt := 39) hx hb dX5_followersOf_7 (by decide) (fun c7 => ?_) (fun c7 => ?_)
      · have hf := (if_pos c7).symm.trans hf
        refine lv_iload_n hx hb dX5_followersOf_39 rfl (lv_at hl 2 rfl) ?_
        exact zret_i hx hb hr hlocks hf hP hS dX5_followersOf_40
      · have hf := (if_neg c7).symm.trans hf
        refine lv_iload_n hx hb dX5_followersOf_10 rfl (lv_at hl 1 rfl) ?_
        refine lv_iload_n hx hb dX5_followersOf_11 rfl (lv_at hl 3 rfl) ?_
        refine lv_ishr hx hb dX5_followersOf_12 ?_
        refine lv_if_eq (tgt := 39) hx hb dX5_followersOf_13 (by decide) (fun c13 => ?_) (fun c13 => ?_)
        · have hf := (if_pos c13).symm.trans hf
          refine lv_iload_n hx hb dX5_followersOf_39 rfl (lv_at hl 2 rfl) ?_
          exact zret_i hx hb hr hlocks hf hP hS dX5_followersOf_40
        · have hf := (if_neg c13).symm.trans hf
          refine lv_iload_n hx hb dX5_followersOf_16 rfl (lv_at hl 1 rfl) ?_
          refine lv_iload_n hx hb dX5_followersOf_17 rfl (lv_at hl 3 rfl) ?_
          refine lv_ishr hx hb dX5_followersOf_18 ?_
          refine lv_iconst (v := (1 : Int32)) hx hb dX5_followersOf_19 (by decide) ?_
          refine lv_iand hx hb dX5_followersOf_20 ?_
          refine lv_if_eq (tgt := 33) hx hb dX5_followersOf_21 (by decide) (fun c21 => ?_) (fun c21 => ?_)
          · have hf := (if_pos c21).symm.trans hf
            exact J33 _ _ _ _ _ _ _ _ hf hP hS (lv_sub hl [0, 1, 2, 3] rfl)
          · have hf := (if_neg c21).symm.trans hf
            refine lv_iload_n hx hb dX5_followersOf_24 rfl (lv_at hl 2 rfl) ?_
            refine lv_aload_n hx hb dX5_followersOf_25 rfl (lv_at hl 0 rfl) ?_
            obtain ⟨v26, e26, hf⟩ := zb hf
            refine zr_gr (ci := 5) (k := 3) (C := RX5) (T := TX5) (N := 9) hx hb hts hi_X5_followersOf_5 hown hK hP e26 rfl rfl (by decide) (by decide) (hts (.fieldLink RX5 30 "BoundaryAnalyzer$Rule" "followers" "[I") (List.mem_of_getElem? (i := 1) rfl)) dX5_followersOf_26 ?_
            refine lv_iload_n hx hb dX5_followersOf_29 rfl (lv_at hl 3 rfl) ?_
            obtain ⟨v30, e30, hf⟩ := zb hf
            refine zr_ai hx hb hK hP e30 dX5_followersOf_30 ?_
            refine lv_ior hx hb dX5_followersOf_31 ?_
            obtain ⟨x2_32, q32, hf⟩ := zlt_s hf
            refine zt q32 ?_
            refine lv_istore_n (lv' := [(2, .int x2_32), (0, .ref (b + h0)), (1, .int x1), (3, .int x3)]) hx hb dX5_followersOf_32 rfl hl (by decide) rfl (fun ls hl => ?_)
            exact J33 _ _ _ _ _ _ _ _ hf hP hS (lv_sub hl [1, 2, 0, 3] rfl)
  unfold fX5_followersOf at hf
  refine lv_iconst (v := (0 : Int32)) hx hb dX5_followersOf_0 (by decide) ?_
  refine lv_istore_n (lv' := [(2, .int (0 : Int32)), (0, .ref (b + h0)), (1, .int x1)]) hx hb dX5_followersOf_1 rfl hl (by decide) rfl (fun ls hl => ?_)
  refine lv_iconst (v := (0 : Int32)) hx hb dX5_followersOf_2 (by decide) ?_
  refine lv_istore_n (lv' := [(3, .int (0 : Int32)), (2, .int (0 : Int32)), (0, .ref (b + h0)), (1, .int x1)]) hx hb dX5_followersOf_3 rfl hl (by decide) rfl (fun ls hl => ?_)
  exact L4 _ _ _ _ _ _ _ _ _ hf hP hS (lv_sub hl [2, 3, 1, 0] rfl)
theorem hi_X5_stepAhead_3 : ∀ w ∈ wsX30, w ∈ wsX5_stepAhead := fun _ h => List.mem_cons_of_mem _ (List.mem_append_right _ h)
theorem hi_X5_stepAhead_5 : ∀ w ∈ wsX50, w ∈ wsX5_stepAhead := fun _ h => List.mem_cons_of_mem _ (List.mem_append_left _ (List.mem_append_right _ h))
set_option maxHeartbeats 4000000 in
set_option maxRecDepth 100000 in
theorem k_X5_stepAhead (l : Launch) (D : va_G) (cy : Nat → ClassId) (b : Nat) (M0 : Mem) (h0 : Nat) (x1 : Int32) (rr : Int32 × Mem) (hf : fX5_stepAhead M0 h0 x1 = some rr) : Met l yX5_stepAhead wsX5_stepAhead ({ frames := 1, cells := 0, slots := 0, locals := 40 } : Room) (zPc D cy b M0 [.ref (b + h0), .int x1]) (zQi D cy b rr) 0 0 (zA b) := by
  refine Met.ofW (cc := cX5_stepAhead) (maxL := 5) (ret := (some .boolean)) (by decide) rfl ?_
  intro p e s m args below meth c s₁ B hml hv
  obtain ⟨rfl, hP, hK⟩ := hv
  have hx := B.exec
  have hb := B.bytes
  have hr := B.returns
  have hts := atoms_spec (ws := wsX5_stepAhead) B.pre
  have hown : s.vm.findClass RX5 = some m.cls := findClass_of_methodNamed B.named
  have hlocks := B.notSynchronized
  have hS : va_S (zA b) s.heap s.heap [] := va_S.rf
  have hl := lv_entry ([.ref (b + h0), .int x1]) (n := 5) (Nat.le_of_ble_eq_true rfl)
  rw [lg_entry_eq]
  generalize (lg_sl ([.ref (b + h0), .int x1]) ++ List.replicate (5 - (lg_sl ([.ref (b + h0), .int x1])).length) Slot.unset).toArray = ls at hl ⊢
  have hl : lv_has ls 5 [(0, .ref (b + h0)), (1, .int x1)] := hl
  have L24 : ∀ (n24 : Nat) (M : Mem) (H : Heap) (locs : List Loc) (ls : Array Slot) (h0 : Nat) (x1 : Int32) (x2 : Int32) (x3 : Int32), fX5_stepAhead_24L  n24 M h0 x1 x2 x3 = some rr → zH D cy b M H → va_S (zA b) s.heap H locs → lv_has ls 5 [(0, .ref (b + h0)), (1, .int x1), (2, .int x2), (3, .int x3)] → W p l e (headSpec wsX5_stepAhead ({ frames := 1, cells := 0, slots := 0, locals := 40 } : Room)).room s m ([.ref (b + h0), .int x1] : List Value).toArray below meth c H locs 0 0 (MQ below (zQi D cy b rr) ([.ref (b + h0), .int x1] : List Value).toArray s 0 0 (zA b)) (F0 m 24 ls []) := by
    intro n24
    induction n24 with
    | zero =>
      intro M H locs ls h0 x1 x2 x3 hf
      have hf : (none : Option (Int32 × Mem)) = some rr := hf
      cases hf
    | succ n24 ih24 =>
      have J95 : ∀ (M : Mem) (H : Heap) (locs : List Loc) (ls : Array Slot) (h0 : Nat) (x1 : Int32) (x2 : Int32) (x3 : Int32), fX5_stepAhead_95 (fX5_stepAhead_24L  n24) M h0 x1 x2 x3 = some rr → zH D cy b M H → va_S (zA b) s.heap H locs → lv_has ls 5 [(0, .ref (b + h0)), (1, .int x1), (2, .int x2), (3, .int x3)] → W p l e (headSpec wsX5_stepAhead ({ frames := 1, cells := 0, slots := 0, locals := 40 } : Room)).room s m ([.ref (b + h0), .int x1] : List Value).toArray below meth c H locs 0 0 (MQ below (zQi D cy b rr) ([.ref (b + h0), .int x1] : List Value).toArray s 0 0 (zA b)) (F0 m 95 ls []) := by
        intro M H locs ls h0 x1 x2 x3 hf hP hS hl
        unfold fX5_stepAhead_95 at hf
        obtain ⟨x3_95, q95, hf⟩ := zlt_s hf
        refine lv_iinc (v := x3_95) (lv' := [(3, .int x3_95), (0, .ref (b + h0)), (1, .int x1), (2, .int x2)]) hx hb dX5_stepAhead_95 hl (k := 3) rfl (by rw [← q95]; rfl) (by decide) rfl (fun ls hl => ?_)
        refine lv_goto (tgt := 24) hx hb dX5_stepAhead_98 (by decide) ?_
        exact ih24 _ _ _ _ _ _ _ _ hf hP hS (lv_sub hl [1, 2, 3, 0] rfl)
      have J80 : ∀ (M : Mem) (H : Heap) (locs : List Loc) (ls : Array Slot) (h0 : Nat) (x1 : Int32) (x2 : Int32) (x3 : Int32) (x4 : Int32), fX5_stepAhead_80 (fX5_stepAhead_24L  n24) M h0 x1 x2 x3 x4 = some rr → zH D cy b M H → va_S (zA b) s.heap H locs → lv_has ls 5 [(0, .ref (b + h0)), (1, .int x1), (2, .int x2), (3, .int x3), (4, .int x4)] → W p l e (headSpec wsX5_stepAhead ({ frames := 1, cells := 0, slots := 0, locals := 40 } : Room)).room s m ([.ref (b + h0), .int x1] : List Value).toArray below meth c H locs 0 0 (MQ below (zQi D cy b rr) ([.ref (b + h0), .int x1] : List Value).toArray s 0 0 (zA b)) (F0 m 80 ls []) := by
        intro M H locs ls h0 x1 x2 x3 x4 hf hP hS hl
        unfold fX5_stepAhead_80 at hf
        refine lv_aload_n hx hb dX5_stepAhead_80 rfl (lv_at hl 0 rfl) ?_
        obtain ⟨v81, e81, hf⟩ := zb hf
        refine zr_gr (ci := 5) (k := 6) (C := RX5) (T := TX5) (N := 9) hx hb hts hi_X5_stepAhead_5 hown hK hP e81 rfl rfl (by decide) (by decide) (hts (.fieldLink RX5 40 "BoundaryAnalyzer$Rule" "waitingThen" "[I") (List.mem_of_getElem? (i := 3) rfl)) dX5_stepAhead_81 ?_
        refine lv_aload_n hx hb dX5_stepAhead_84 rfl (lv_at hl 0 rfl) ?_
        obtain ⟨v85, e85, hf⟩ := zb hf
        refine zr_gr (ci := 5) (k := 3) (C := RX5) (T := TX5) (N := 9) hx hb hts hi_X5_stepAhead_5 hown hK hP e85 rfl rfl (by decide) (by decide) (hts (.fieldLink RX5 30 "BoundaryAnalyzer$Rule" "followers" "[I") (List.mem_of_getElem? (i := 11) rfl)) dX5_stepAhead_85 ?_
        refine lv_iload_n hx hb dX5_stepAhead_88 rfl (lv_at hl 3 rfl) ?_
        obtain ⟨v89, e89, hf⟩ := zb hf
        refine zr_ai hx hb hK hP e89 dX5_stepAhead_89 ?_
        refine lv_iload hx hb dX5_stepAhead_90 (lv_at hl 4 rfl) ?_
        obtain ⟨M92, e92, hf⟩ := zb hf
        refine zc_v hS (va_runS (As := [.ref (b + v81), .int v89, .int x4]) (rest := []) ⟨hx, hb, hml, hown, hts⟩ (k_X5_waitAt l D cy b M  v81 v89 x4 M92 e92) (va_cwS 3 hts gX5_stepAhead_X5_waitAt rfl rfl rfl (by decide +kernel) ⟨Nat.le_of_ble_eq_true rfl, Nat.le_of_ble_eq_true rfl⟩) (zp_S _ hK hP) rfl rfl hl.1 rfl (lv_room (Nat.le_of_ble_eq_true rfl)) dX5_stepAhead_92 ⟨Nat.zero_le _, Nat.zero_le _⟩) (fun H locs hP hS => ?_)
        exact J95 _ _ _ _ _ _ _ _ hf hP hS (lv_sub hl [0, 1, 2, 3] rfl)
      intro M H locs ls h0 x1 x2 x3 hf hP hS hl
      have hf : fX5_stepAhead_24  (fX5_stepAhead_24L  n24) M h0 x1 x2 x3 = some rr := hf
      unfold fX5_stepAhead_24 at hf
      refine lv_iload_n hx hb dX5_stepAhead_24 rfl (lv_at hl 3 rfl) ?_
      refine lv_bipush (v := (24 : Int32)) hx hb dX5_stepAhead_25 (by decide) ?_
      refine lv_icmp_ge (tgt := 101) hx hb dX5_stepAhead_27 (by decide) (fun c27 => ?_) (fun c27 => ?_)
      · have hf := (if_pos c27).symm.trans hf
        refine lv_aload_n hx hb dX5_stepAhead_101 rfl (lv_at hl 0 rfl) ?_
        obtain ⟨v102, e102, hf⟩ := zb hf
        refine zr_gr (ci := 5) (k := 5) (C := RX5) (T := TX5) (N := 9) hx hb hts hi_X5_stepAhead_5 hown hK hP e102 rfl rfl (by decide) (by decide) (hts (.fieldLink RX5 37 "BoundaryAnalyzer$Rule" "waiting" "[I") (List.mem_of_getElem? (i := 4) rfl)) dX5_stepAhead_102 ?_
        refine lv_astore_n (lv' := [(3, .ref (b + v102)), (0, .ref (b + h0)), (1, .int x1), (2, .int x2)]) hx hb dX5_stepAhead_105 rfl hl (by decide) rfl (fun ls hl => ?_)
        refine lv_aload_n hx hb dX5_stepAhead_106 rfl (lv_at hl 1 rfl) ?_
        refine lv_aload_n hx hb dX5_stepAhead_107 rfl (lv_at hl 1 rfl) ?_
        obtain ⟨v108, e108, hf⟩ := zb hf
        refine zr_gr (ci := 5) (k := 6) (C := RX5) (T := TX5) (N := 9) hx hb hts hi_X5_stepAhead_5 hown hK hP e108 rfl rfl (by decide) (by decide) (hts (.fieldLink RX5 40 "BoundaryAnalyzer$Rule" "waitingThen" "[I") (List.mem_of_getElem? (i := 3) rfl)) dX5_stepAhead_108 ?_
        obtain ⟨M111, e111, hf⟩ := zb hf
        refine zr_pr (ci := 5) (k := 5) (C := RX5) (T := TX5) (N := 9) hx hb hts hi_X5_stepAhead_5 tyX5 tyX5_ok nmX5 hown hK hP hS e111 rfl rfl (by decide) (by decide) (hts (.fieldLink RX5 37 "BoundaryAnalyzer$Rule" "waiting" "[I") (List.mem_of_getElem? (i := 4) rfl)) (Or.inl rfl) (tyX5_ok 5 (by decide)) rfl rfl dX5_stepAhead_111 (fun H locs hP _ hS => ?_)
        refine lv_aload_n hx hb dX5_stepAhead_114 rfl (lv_at hl 1 rfl) ?_
        refine lv_aload_n hx hb dX5_stepAhead_115 rfl (lv_at hl 0 rfl) ?_
        obtain ⟨M116, e116, hf⟩ := zb hf
        refine zr_pr (ci := 5) (k := 6) (C := RX5) (T := TX5) (N := 9) hx hb hts hi_X5_stepAhead_5 tyX5 tyX5_ok nmX5 hown hK hP hS e116 rfl rfl (by decide) (by decide) (hts (.fieldLink RX5 40 "BoundaryAnalyzer$Rule" "waitingThen" "[I") (List.mem_of_getElem? (i := 3) rfl)) (Or.inl rfl) (tyX5_ok 6 (by decide)) rfl rfl dX5_stepAhead_116 (fun H locs hP _ hS => ?_)
        refine lv_iload_n hx hb dX5_stepAhead_119 rfl (lv_at hl 3 rfl) ?_
        exact zret_z hx hb hr (Or.inl rfl) hlocks hf hP hS dX5_stepAhead_120
      · have hf := (if_neg c27).symm.trans hf
        refine lv_aload_n hx hb dX5_stepAhead_30 rfl (lv_at hl 0 rfl) ?_
        obtain ⟨v31, e31, hf⟩ := zb hf
        refine zr_gr (ci := 5) (k := 5) (C := RX5) (T := TX5) (N := 9) hx hb hts hi_X5_stepAhead_5 hown hK hP e31 rfl rfl (by decide) (by decide) (hts (.fieldLink RX5 37 "BoundaryAnalyzer$Rule" "waiting" "[I") (List.mem_of_getElem? (i := 4) rfl)) dX5_stepAhead_31 ?_
        refine lv_iload_n hx hb dX5_stepAhead_34 rfl (lv_at hl 3 rfl) ?_
        obtain ⟨v35, e35, hf⟩ := zb hf
        refine zr_ai hx hb hK hP e35 dX5_stepAhead_35 ?_
        refine lv_istore (lv' := [(4, .int v35), (0, .ref (b + h0)), (1, .int x1), (2, .int x2), (3, .int x3)]) hx hb dX5_stepAhead_36 hl (by decide) rfl (fun ls hl => ?_)
        refine lv_iload hx hb dX5_stepAhead_38 (lv_at hl 0 rfl) ?_
        refine lv_if_lt (tgt := 95) hx hb dX5_stepAhead_40 (by decide) (fun c40 => ?_) (fun c40 => ?_)
        · have hf := (if_pos c40).symm.trans hf
          exact J95 _ _ _ _ _ _ _ _ hf hP hS (lv_sub hl [1, 2, 3, 4] rfl)
        · have hf := (if_neg c40).symm.trans hf
          refine lv_iload_n hx hb dX5_stepAhead_43 rfl (lv_at hl 2 rfl) ?_
          refine lv_iload_n hx hb dX5_stepAhead_44 rfl (lv_at hl 4 rfl) ?_
          refine lv_ishr hx hb dX5_stepAhead_45 ?_
          refine lv_iconst (v := (1 : Int32)) hx hb dX5_stepAhead_46 (by decide) ?_
          refine lv_iand hx hb dX5_stepAhead_47 ?_
          refine lv_if_eq (tgt := 95) hx hb dX5_stepAhead_48 (by decide) (fun c48 => ?_) (fun c48 => ?_)
          · have hf := (if_pos c48).symm.trans hf
            exact J95 _ _ _ _ _ _ _ _ hf hP hS (lv_sub hl [1, 2, 3, 4] rfl)
          · have hf := (if_neg c48).symm.trans hf
            refine lv_iconst (v := (1 : Int32)) hx hb dX5_stepAhead_51 (by decide) ?_
            refine lv_istore_n (lv' := [(2, .int (1 : Int32)), (4, .int v35), (0, .ref (b + h0)), (1, .int x1), (3, .int x3)]) hx hb dX5_stepAhead_52 rfl hl (by decide) rfl (fun ls hl => ?_)
            refine lv_aload_n hx hb dX5_stepAhead_53 rfl (lv_at hl 2 rfl) ?_
            obtain ⟨v54, e54, hf⟩ := zb hf
            refine zr_gr (ci := 5) (k := 2) (C := RX5) (T := TX5) (N := 9) hx hb hts hi_X5_stepAhead_5 hown hK hP e54 rfl rfl (by decide) (by decide) (hts (.fieldLink RX5 27 "BoundaryAnalyzer$Rule" "ahead" "LBoundaryAnalyzer$Part;") (List.mem_of_getElem? (i := 1) rfl)) dX5_stepAhead_54 ?_
            obtain ⟨v57, e57, hf⟩ := zb hf
            refine zr_gi (ci := 3) (k := 1) (C := RX3) (T := TX3) (N := 3) hx hb hts hi_X5_stepAhead_3 hown hK hP e57 rfl rfl (by decide) (by decide) (hts (.fieldLink RX5 86 "BoundaryAnalyzer$Part" "last" "I") (List.mem_of_getElem? (i := 5) rfl)) dX5_stepAhead_57 ?_
            refine lv_iload_n hx hb dX5_stepAhead_60 rfl (lv_at hl 4 rfl) ?_
            refine lv_ishr hx hb dX5_stepAhead_61 ?_
            refine lv_iconst (v := (1 : Int32)) hx hb dX5_stepAhead_62 (by decide) ?_
            refine lv_iand hx hb dX5_stepAhead_63 ?_
            refine lv_if_eq (tgt := 80) hx hb dX5_stepAhead_64 (by decide) (fun c64 => ?_) (fun c64 => ?_)
            · have hf := (if_pos c64).symm.trans hf
              exact J80 _ _ _ _ _ _ _ _ _ hf hP hS (lv_sub hl [2, 3, 0, 4, 1] rfl)
            · have hf := (if_neg c64).symm.trans hf
              refine lv_aload_n hx hb dX5_stepAhead_67 rfl (lv_at hl 2 rfl) ?_
              refine lv_aload_n hx hb dX5_stepAhead_68 rfl (lv_at hl 2 rfl) ?_
              obtain ⟨v69, e69, hf⟩ := zb hf
              refine zr_gi (ci := 5) (k := 7) (C := RX5) (T := TX5) (N := 9) hx hb hts hi_X5_stepAhead_5 hown hK hP e69 rfl rfl (by decide) (by decide) (hts (.fieldLink RX5 51 "BoundaryAnalyzer$Rule" "matched" "I") (List.mem_of_getElem? (i := 6) rfl)) dX5_stepAhead_69 ?_
              refine lv_iload hx hb dX5_stepAhead_72 (lv_at hl 1 rfl) ?_
              refine va_mmax hx hb (by rw [hml]; exact hl.1.symm) hown (hts (.methodLink RX5 96 Lib.Math.max.name) (List.mem_of_getElem? (i := 7) rfl)) (hts (.static Lib.Math.max.name) (List.mem_of_getElem? (i := 8) rfl)) (hts (.initialized "java/lang/Math") (List.mem_of_getElem? (i := 9) rfl)) (hts _ (List.mem_of_getElem? (i := 10) rfl)) (Nat.le_of_ble_eq_true rfl) (Nat.le_of_ble_eq_true rfl) (Nat.zero_le _) (Nat.zero_le _) dX5_stepAhead_74 ?_
              obtain ⟨M77, e77, hf⟩ := zb hf
              refine zr_pi (ci := 5) (k := 7) (C := RX5) (T := TX5) (N := 9) hx hb hts hi_X5_stepAhead_5 tyX5 tyX5_ok nmX5 hown hK hP hS e77 rfl rfl (by decide) (by decide) (hts (.fieldLink RX5 51 "BoundaryAnalyzer$Rule" "matched" "I") (List.mem_of_getElem? (i := 6) rfl)) rfl (tyX5_ok 7 (by decide)) dX5_stepAhead_77 (fun H locs hP _ hS => ?_)
              exact J80 _ _ _ _ _ _ _ _ _ hf hP hS (lv_sub hl [2, 3, 0, 4, 1] rfl)
  unfold fX5_stepAhead at hf
  refine lv_aload_n hx hb dX5_stepAhead_0 rfl (lv_at hl 0 rfl) ?_
  obtain ⟨v1, e1, hf⟩ := zb hf
  refine zr_gr (ci := 5) (k := 2) (C := RX5) (T := TX5) (N := 9) hx hb hts hi_X5_stepAhead_5 hown hK hP e1 rfl rfl (by decide) (by decide) (hts (.fieldLink RX5 27 "BoundaryAnalyzer$Rule" "ahead" "LBoundaryAnalyzer$Part;") (List.mem_of_getElem? (i := 1) rfl)) dX5_stepAhead_1 ?_
  obtain ⟨v4, e4, hf⟩ := zb hf
  refine zr_gi (ci := 3) (k := 0) (C := RX3) (T := TX3) (N := 3) hx hb hts hi_X5_stepAhead_3 hown hK hP e4 rfl rfl (by decide) (by decide) (hts (.fieldLink RX5 60 "BoundaryAnalyzer$Part" "first" "I") (List.mem_of_getElem? (i := 2) rfl)) dX5_stepAhead_4 ?_
  refine lv_if_ne (tgt := 12) hx hb dX5_stepAhead_7 (by decide) (fun c7 => ?_) (fun c7 => ?_)
  · have hf := (if_neg c7).symm.trans hf
    refine lv_iconst (v := (0 : Int32)) hx hb dX5_stepAhead_12 (by decide) ?_
    refine lv_istore_n (lv' := [(2, .int (0 : Int32)), (0, .ref (b + h0)), (1, .int x1)]) hx hb dX5_stepAhead_13 rfl hl (by decide) rfl (fun ls hl => ?_)
    refine lv_aload_n hx hb dX5_stepAhead_14 rfl (lv_at hl 1 rfl) ?_
    obtain ⟨v15, e15, hf⟩ := zb hf
    refine zr_gr (ci := 5) (k := 6) (C := RX5) (T := TX5) (N := 9) hx hb hts hi_X5_stepAhead_5 hown hK hP e15 rfl rfl (by decide) (by decide) (hts (.fieldLink RX5 40 "BoundaryAnalyzer$Rule" "waitingThen" "[I") (List.mem_of_getElem? (i := 3) rfl)) dX5_stepAhead_15 ?_
    refine lv_iconst (v := (-1 : Int32)) hx hb dX5_stepAhead_18 (by decide) ?_
    obtain ⟨M19, e19, hf⟩ := zb hf
    refine zc_v hS (va_runS (As := [.ref (b + v15), .int (-1 : Int32)]) (rest := []) ⟨hx, hb, hml, hown, hts⟩ (k_J7_fill_53178 l D cy b M0  v15 (-1 : Int32) M19 e19) (va_cwS 2 hts gX5_stepAhead_J7_fill_53178 rfl rfl rfl (by decide +kernel) ⟨Nat.le_of_ble_eq_true rfl, Nat.le_of_ble_eq_true rfl⟩) (zp_S _ hK hP) rfl rfl hl.1 rfl (lv_room (Nat.le_of_ble_eq_true rfl)) dX5_stepAhead_19 ⟨Nat.zero_le _, Nat.zero_le _⟩) (fun H locs hP hS => ?_)
    refine lv_iconst (v := (0 : Int32)) hx hb dX5_stepAhead_22 (by decide) ?_
    refine lv_istore_n (lv' := [(3, .int (0 : Int32)), (2, .int (0 : Int32)), (0, .ref (b + h0)), (1, .int x1)]) hx hb dX5_stepAhead_23 rfl hl (by decide) rfl (fun ls hl => ?_)
    exact L24 _ _ _ _ _ _ _ _ _ hf hP hS (lv_sub hl [2, 3, 1, 0] rfl)
  · have hf := (if_pos c7).symm.trans hf
    refine lv_iconst (v := (0 : Int32)) hx hb dX5_stepAhead_10 (by decide) ?_
    exact zret_z hx hb hr (Or.inl rfl) hlocks hf hP hS dX5_stepAhead_11
theorem hi_X5_walk_3 : ∀ w ∈ wsX30, w ∈ wsX5_walk := fun _ h => List.mem_cons_of_mem _ (List.mem_append_left _ (List.mem_append_left _ (List.mem_append_right _ h)))
theorem hi_X5_walk_4 : ∀ w ∈ wsX40, w ∈ wsX5_walk := fun _ h => List.mem_cons_of_mem _ (List.mem_append_right _ h)
theorem hi_X5_walk_5 : ∀ w ∈ wsX50, w ∈ wsX5_walk := fun _ h => List.mem_cons_of_mem _ (List.mem_append_left _ (List.mem_append_left _ (List.mem_append_left _ (List.mem_append_right _ h))))
theorem hi_X5_walk_7 : ∀ w ∈ wsX70, w ∈ wsX5_walk := fun _ h => List.mem_cons_of_mem _ (List.mem_append_left _ (List.mem_append_right _ h))
set_option maxHeartbeats 4000000 in
set_option maxRecDepth 100000 in
theorem k_X5_walk (l : Launch) (D : va_G) (cy : Nat → ClassId) (b : Nat) (M0 : Mem) (h0 : Nat) (h1 : Nat) (x2 : Int32) (rr : Mem) (hf : fX5_walk M0 h0 h1 x2 = some rr) : Met l yX5_walk wsX5_walk ({ frames := 2, cells := 0, slots := 0, locals := 64 } : Room) (zPc D cy b M0 [.ref (b + h0), .ref (b + h1), .int x2]) (zQv D cy b rr) 0 0 (zA b) := by
  refine Met.ofW (cc := cX5_walk) (maxL := 9) (ret := none) (by decide) rfl ?_
  intro p e s m args below meth c s₁ B hml hv
  obtain ⟨rfl, hP, hK⟩ := hv
  have hx := B.exec
  have hb := B.bytes
  have hr := B.returns
  have hts := atoms_spec (ws := wsX5_walk) B.pre
  have hown : s.vm.findClass RX5 = some m.cls := findClass_of_methodNamed B.named
  have hlocks := B.notSynchronized
  have hS : va_S (zA b) s.heap s.heap [] := va_S.rf
  have hl := lv_entry ([.ref (b + h0), .ref (b + h1), .int x2]) (n := 9) (Nat.le_of_ble_eq_true rfl)
  rw [lg_entry_eq]
  generalize (lg_sl ([.ref (b + h0), .ref (b + h1), .int x2]) ++ List.replicate (9 - (lg_sl ([.ref (b + h0), .ref (b + h1), .int x2])).length) Slot.unset).toArray = ls at hl ⊢
  have hl : lv_has ls 9 [(0, .ref (b + h0)), (1, .ref (b + h1)), (2, .int x2)] := hl
  have J155 : ∀ (M : Mem) (H : Heap) (locs : List Loc) (ls : Array Slot) (g0 : Nat) (y1 : Int32), fX5_walk_155  M g0 y1 = some rr → zH D cy b M H → va_S (zA b) s.heap H locs → lv_has ls 9 [] → W p l e (headSpec wsX5_walk ({ frames := 2, cells := 0, slots := 0, locals := 64 } : Room)).room s m ([.ref (b + h0), .ref (b + h1), .int x2] : List Value).toArray below meth c H locs 0 0 (MQ below (zQv D cy b rr) ([.ref (b + h0), .ref (b + h1), .int x2] : List Value).toArray s 0 0 (zA b)) (F0 m 155 ls [.int y1, .ref (b + g0)]) := by
    intro M H locs ls g0 y1 hf hP hS hl
    unfold fX5_walk_155 at hf
    obtain ⟨M155, e155, hf⟩ := zb hf
    refine zr_pi (ci := 5) (k := 8) (C := RX5) (T := TX5) (N := 9) hx hb hts hi_X5_walk_5 tyX5 tyX5_ok nmX5 hown hK hP hS e155 rfl rfl (by decide) (by decide) (hts (.fieldLink RX5 89 "BoundaryAnalyzer$Rule" "looked" "I") (List.mem_of_getElem? (i := 9) rfl)) rfl (tyX5_ok 8 (by decide)) dX5_walk_155 (fun H locs hP _ hS => ?_)
    exact zret_v hx hb hr hlocks hf hP hS dX5_walk_158
  have J136 : ∀ (M : Mem) (H : Heap) (locs : List Loc) (ls : Array Slot) (h0 : Nat) (x2 : Int32) (x4 : Int32) (x5 : Int32), fX5_walk_136  M h0 x2 x4 x5 = some rr → zH D cy b M H → va_S (zA b) s.heap H locs → lv_has ls 9 [(0, .ref (b + h0)), (2, .int x2), (4, .int x4), (5, .int x5)] → W p l e (headSpec wsX5_walk ({ frames := 2, cells := 0, slots := 0, locals := 64 } : Room)).room s m ([.ref (b + h0), .ref (b + h1), .int x2] : List Value).toArray below meth c H locs 0 0 (MQ below (zQv D cy b rr) ([.ref (b + h0), .ref (b + h1), .int x2] : List Value).toArray s 0 0 (zA b)) (F0 m 136 ls []) := by
    intro M H locs ls h0 x2 x4 x5 hf hP hS hl
    unfold fX5_walk_136 at hf
    refine lv_aload_n hx hb dX5_walk_136 rfl (lv_at hl 0 rfl) ?_
    refine lv_iload hx hb dX5_walk_137 (lv_at hl 2 rfl) ?_
    refine lv_if_eq (tgt := 151) hx hb dX5_walk_139 (by decide) (fun c139 => ?_) (fun c139 => ?_)
    · have hf := (if_pos c139).symm.trans hf
      refine lv_iload hx hb dX5_walk_151 (lv_at hl 3 rfl) ?_
      refine lv_iload_n hx hb dX5_walk_153 rfl (lv_at hl 1 rfl) ?_
      refine lv_isub hx hb dX5_walk_154 ?_
      exact J155 _ _ _ _ _ _ hf hP hS (lv_sub hl [] rfl)
    · have hf := (if_neg c139).symm.trans hf
      refine lv_iload hx hb dX5_walk_142 (lv_at hl 3 rfl) ?_
      refine lv_iload_n hx hb dX5_walk_144 rfl (lv_at hl 1 rfl) ?_
      refine lv_isub hx hb dX5_walk_145 ?_
      refine lv_iconst (v := (1 : Int32)) hx hb dX5_walk_146 (by decide) ?_
      refine lv_iadd hx hb dX5_walk_147 ?_
      refine lv_goto (tgt := 155) hx hb dX5_walk_148 (by decide) ?_
      exact J155 _ _ _ _ _ _ hf hP hS (lv_sub hl [] rfl)
  have L51 : ∀ (n51 : Nat) (M : Mem) (H : Heap) (locs : List Loc) (ls : Array Slot) (h0 : Nat) (h1 : Nat) (x2 : Int32) (x3 : Int32) (x4 : Int32) (x5 : Int32) (x6 : Int32), fX5_walk_51L  n51 M h0 h1 x2 x3 x4 x5 x6 = some rr → zH D cy b M H → va_S (zA b) s.heap H locs → lv_has ls 9 [(0, .ref (b + h0)), (1, .ref (b + h1)), (2, .int x2), (3, .int x3), (4, .int x4), (5, .int x5), (6, .int x6)] → W p l e (headSpec wsX5_walk ({ frames := 2, cells := 0, slots := 0, locals := 64 } : Room)).room s m ([.ref (b + h0), .ref (b + h1), .int x2] : List Value).toArray below meth c H locs 0 0 (MQ below (zQv D cy b rr) ([.ref (b + h0), .ref (b + h1), .int x2] : List Value).toArray s 0 0 (zA b)) (F0 m 51 ls []) := by
    intro n51
    induction n51 with
    | zero =>
      intro M H locs ls h0 h1 x2 x3 x4 x5 x6 hf
      have hf : (none : Option Mem) = some rr := hf
      cases hf
    | succ n51 ih51 =>
      have J133 : ∀ (M : Mem) (H : Heap) (locs : List Loc) (ls : Array Slot) (h0 : Nat) (h1 : Nat) (x2 : Int32) (x3 : Int32) (x4 : Int32) (x5 : Int32) (x6 : Int32), fX5_walk_133 (fX5_walk_51L  n51) M h0 h1 x2 x3 x4 x5 x6 = some rr → zH D cy b M H → va_S (zA b) s.heap H locs → lv_has ls 9 [(0, .ref (b + h0)), (1, .ref (b + h1)), (2, .int x2), (3, .int x3), (4, .int x4), (5, .int x5), (6, .int x6)] → W p l e (headSpec wsX5_walk ({ frames := 2, cells := 0, slots := 0, locals := 64 } : Room)).room s m ([.ref (b + h0), .ref (b + h1), .int x2] : List Value).toArray below meth c H locs 0 0 (MQ below (zQv D cy b rr) ([.ref (b + h0), .ref (b + h1), .int x2] : List Value).toArray s 0 0 (zA b)) (F0 m 133 ls []) := by
        intro M H locs ls h0 h1 x2 x3 x4 x5 x6 hf hP hS hl
        unfold fX5_walk_133 at hf
        refine lv_goto (tgt := 51) hx hb dX5_walk_133 (by decide) ?_
        exact ih51 _ _ _ _ _ _ _ _ _ _ _ hf hP hS (lv_sub hl [0, 1, 2, 3, 4, 5, 6] rfl)
      have J110 : ∀ (M : Mem) (H : Heap) (locs : List Loc) (ls : Array Slot) (h0 : Nat) (h1 : Nat) (x2 : Int32) (x3 : Int32) (x5 : Int32) (x6 : Int32) (x8 : Int32) (y0 : Int32), fX5_walk_110 (fX5_walk_51L  n51) M h0 h1 x2 x3 x5 x6 x8 y0 = some rr → zH D cy b M H → va_S (zA b) s.heap H locs → lv_has ls 9 [(0, .ref (b + h0)), (1, .ref (b + h1)), (2, .int x2), (3, .int x3), (5, .int x5), (6, .int x6), (8, .int x8)] → W p l e (headSpec wsX5_walk ({ frames := 2, cells := 0, slots := 0, locals := 64 } : Room)).room s m ([.ref (b + h0), .ref (b + h1), .int x2] : List Value).toArray below meth c H locs 0 0 (MQ below (zQv D cy b rr) ([.ref (b + h0), .ref (b + h1), .int x2] : List Value).toArray s 0 0 (zA b)) (F0 m 110 ls [.int y0]) := by
        intro M H locs ls h0 h1 x2 x3 x5 x6 x8 y0 hf hP hS hl
        unfold fX5_walk_110 at hf
        refine lv_istore (lv' := [(4, .int y0), (0, .ref (b + h0)), (1, .ref (b + h1)), (2, .int x2), (3, .int x3), (5, .int x5), (6, .int x6), (8, .int x8)]) hx hb dX5_walk_110 hl (by decide) rfl (fun ls hl => ?_)
        refine lv_iload hx hb dX5_walk_112 (lv_at hl 7 rfl) ?_
        refine lv_aload_n hx hb dX5_walk_114 rfl (lv_at hl 1 rfl) ?_
        obtain ⟨v115, e115, hf⟩ := zb hf
        refine zr_gr (ci := 5) (k := 1) (C := RX5) (T := TX5) (N := 9) hx hb hts hi_X5_walk_5 hown hK hP e115 rfl rfl (by decide) (by decide) (hts (.fieldLink RX5 23 "BoundaryAnalyzer$Rule" "body" "LBoundaryAnalyzer$Part;") (List.mem_of_getElem? (i := 3) rfl)) dX5_walk_115 ?_
        obtain ⟨v118, e118, hf⟩ := zb hf
        refine zr_gi (ci := 3) (k := 1) (C := RX3) (T := TX3) (N := 3) hx hb hts hi_X5_walk_3 hown hK hP e118 rfl rfl (by decide) (by decide) (hts (.fieldLink RX5 86 "BoundaryAnalyzer$Part" "last" "I") (List.mem_of_getElem? (i := 8) rfl)) dX5_walk_118 ?_
        refine lv_iand hx hb dX5_walk_121 ?_
        refine lv_if_eq (tgt := 133) hx hb dX5_walk_122 (by decide) (fun c122 => ?_) (fun c122 => ?_)
        · have hf := (if_pos c122).symm.trans hf
          exact J133 _ _ _ _ _ _ _ _ _ _ _ hf hP hS (lv_sub hl [1, 2, 3, 4, 0, 5, 6] rfl)
        · have hf := (if_neg c122).symm.trans hf
          refine lv_aload_n hx hb dX5_walk_125 rfl (lv_at hl 1 rfl) ?_
          refine lv_iload hx hb dX5_walk_126 (lv_at hl 5 rfl) ?_
          refine lv_iload_n hx hb dX5_walk_128 rfl (lv_at hl 3 rfl) ?_
          refine lv_isub hx hb dX5_walk_129 ?_
          obtain ⟨u130, t130, hf⟩ := zb hf
          obtain ⟨M130, e130, hf⟩ := zb hf
          refine zc_v hS (va_runV (As := [.int (x5 - x2)]) (rest := []) ⟨hx, hb, hml, hown, hts⟩ (k_X5_beginAhead l D cy b M h0 (x5 - x2) M130 e130) (cwV 1 hts gX5_walk_X5_beginAhead rfl rfl rfl (by decide +kernel) ⟨Nat.le_of_ble_eq_true rfl, Nat.le_of_ble_eq_true rfl⟩) (zp_V _ hK hP t130 (T := TX5) (N := 9) rfl (by decide)) rfl rfl hl.1 rfl (lv_room (Nat.le_of_ble_eq_true rfl)) dX5_walk_130 ⟨Nat.zero_le _, Nat.zero_le _⟩) (fun H locs hP hS => ?_)
          exact J133 _ _ _ _ _ _ _ _ _ _ _ hf hP hS (lv_sub hl [1, 2, 3, 4, 0, 5, 6] rfl)
      have J105 : ∀ (M : Mem) (H : Heap) (locs : List Loc) (ls : Array Slot) (h0 : Nat) (h1 : Nat) (x2 : Int32) (x3 : Int32) (x5 : Int32) (x6 : Int32) (x8 : Int32), fX5_walk_105 (fX5_walk_51L  n51) M h0 h1 x2 x3 x5 x6 x8 = some rr → zH D cy b M H → va_S (zA b) s.heap H locs → lv_has ls 9 [(0, .ref (b + h0)), (1, .ref (b + h1)), (2, .int x2), (3, .int x3), (5, .int x5), (6, .int x6), (8, .int x8)] → W p l e (headSpec wsX5_walk ({ frames := 2, cells := 0, slots := 0, locals := 64 } : Room)).room s m ([.ref (b + h0), .ref (b + h1), .int x2] : List Value).toArray below meth c H locs 0 0 (MQ below (zQv D cy b rr) ([.ref (b + h0), .ref (b + h1), .int x2] : List Value).toArray s 0 0 (zA b)) (F0 m 105 ls []) := by
        intro M H locs ls h0 h1 x2 x3 x5 x6 x8 hf hP hS hl
        unfold fX5_walk_105 at hf
        refine lv_iconst (v := (1 : Int32)) hx hb dX5_walk_105 (by decide) ?_
        refine lv_goto (tgt := 110) hx hb dX5_walk_106 (by decide) ?_
        exact J110 _ _ _ _ _ _ _ _ _ _ _ _ hf hP hS (lv_sub hl [0, 1, 2, 3, 4, 5, 6] rfl)
      intro M H locs ls h0 h1 x2 x3 x4 x5 x6 hf hP hS hl
      have hf : fX5_walk_51  (fX5_walk_51L  n51) M h0 h1 x2 x3 x4 x5 x6 = some rr := hf
      unfold fX5_walk_51 at hf
      refine lv_iload hx hb dX5_walk_51 (lv_at hl 4 rfl) ?_
      refine lv_if_eq (tgt := 136) hx hb dX5_walk_53 (by decide) (fun c53 => ?_) (fun c53 => ?_)
      · have hf := (if_pos c53).symm.trans hf
        exact J136 _ _ _ _ _ _ _ _ hf hP hS (lv_sub hl [0, 2, 4, 5] rfl)
      · have hf := (if_neg c53).symm.trans hf
        refine lv_iload hx hb dX5_walk_56 (lv_at hl 5 rfl) ?_
        refine lv_iload hx hb dX5_walk_58 (lv_at hl 6 rfl) ?_
        refine lv_icmp_ge (tgt := 136) hx hb dX5_walk_60 (by decide) (fun c60 => ?_) (fun c60 => ?_)
        · have hf := (if_pos c60).symm.trans hf
          exact J136 _ _ _ _ _ _ _ _ hf hP hS (lv_sub hl [0, 2, 4, 5] rfl)
        · have hf := (if_neg c60).symm.trans hf
          refine lv_aload_n hx hb dX5_walk_63 rfl (lv_at hl 0 rfl) ?_
          refine lv_aload_n hx hb dX5_walk_64 rfl (lv_at hl 1 rfl) ?_
          refine lv_iload hx hb dX5_walk_65 (lv_at hl 5 rfl) ?_
          obtain ⟨u67, t67, hf⟩ := zb hf
          obtain ⟨r67, e67, hf⟩ := zb hf
          refine zc_i hS (va_runV (As := [.int x5]) (rest := [.ref (b + h0)]) ⟨hx, hb, hml, hown, hts⟩ (k_X7_classAt l D cy b M h1 x5 r67 e67) (cwV 1 hts gX5_walk_X7_classAt rfl rfl rfl (by decide +kernel) ⟨Nat.le_of_ble_eq_true rfl, Nat.le_of_ble_eq_true rfl⟩) (zp_V _ hK hP t67 (T := TX7) (N := 2) rfl (by decide)) rfl rfl hl.1 rfl (lv_room (Nat.le_of_ble_eq_true rfl)) dX5_walk_67 ⟨Nat.zero_le _, Nat.zero_le _⟩) (fun H locs hP hS => ?_)
          obtain ⟨u70, t70, hf⟩ := zb hf
          obtain ⟨r70, e70, hf⟩ := zb hf
          refine zc_i hS (va_runV (As := [.int r67.1]) (rest := []) ⟨hx, hb, hml, hown, hts⟩ (k_X5_takersOf l D cy b r67.2 h0 r67.1 r70 e70) (cwV 1 hts gX5_walk_X5_takersOf rfl rfl rfl (by decide +kernel) ⟨Nat.le_of_ble_eq_true rfl, Nat.le_of_ble_eq_true rfl⟩) (zp_V _ hK hP t70 (T := TX5) (N := 9) rfl (by decide)) rfl rfl hl.1 rfl (lv_room (Nat.le_of_ble_eq_true rfl)) dX5_walk_70 ⟨Nat.zero_le _, Nat.zero_le _⟩) (fun H locs hP hS => ?_)
          refine lv_istore (lv' := [(7, .int r70.1), (0, .ref (b + h0)), (1, .ref (b + h1)), (2, .int x2), (3, .int x3), (4, .int x4), (5, .int x5), (6, .int x6)]) hx hb dX5_walk_73 hl (by decide) rfl (fun ls hl => ?_)
          obtain ⟨x5_75, q75, hf⟩ := zlt_s hf
          refine lv_iinc (v := x5_75) (lv' := [(5, .int x5_75), (7, .int r70.1), (0, .ref (b + h0)), (1, .ref (b + h1)), (2, .int x2), (3, .int x3), (4, .int x4), (6, .int x6)]) hx hb dX5_walk_75 hl (k := 6) rfl (by rw [← q75]; rfl) (by decide) rfl (fun ls hl => ?_)
          refine lv_iload_n hx hb dX5_walk_78 rfl (lv_at hl 5 rfl) ?_
          refine lv_iload hx hb dX5_walk_79 (lv_at hl 1 rfl) ?_
          refine lv_iand hx hb dX5_walk_81 ?_
          obtain ⟨x8_82, q82, hf⟩ := zlt_s hf
          refine zt q82 ?_
          refine lv_istore (lv' := [(8, .int x8_82), (5, .int x5_75), (7, .int r70.1), (0, .ref (b + h0)), (1, .ref (b + h1)), (2, .int x2), (3, .int x3), (4, .int x4), (6, .int x6)]) hx hb dX5_walk_82 hl (by decide) rfl (fun ls hl => ?_)
          refine lv_aload_n hx hb dX5_walk_84 rfl (lv_at hl 3 rfl) ?_
          refine lv_iload hx hb dX5_walk_85 (lv_at hl 0 rfl) ?_
          obtain ⟨u87, t87, hf⟩ := zb hf
          obtain ⟨r87, e87, hf⟩ := zb hf
          refine zc_i hS (va_runV (As := [.int x8_82]) (rest := []) ⟨hx, hb, hml, hown, hts⟩ (k_X5_followersOf l D cy b r70.2 h0 x8_82 r87 e87) (cwV 1 hts gX5_walk_X5_followersOf rfl rfl rfl (by decide +kernel) ⟨Nat.le_of_ble_eq_true rfl, Nat.le_of_ble_eq_true rfl⟩) (zp_V _ hK hP t87 (T := TX5) (N := 9) rfl (by decide)) rfl rfl hl.1 rfl (lv_room (Nat.le_of_ble_eq_true rfl)) dX5_walk_87 ⟨Nat.zero_le _, Nat.zero_le _⟩) (fun H locs hP hS => ?_)
          refine lv_istore_n (lv' := [(3, .int r87.1), (8, .int x8_82), (5, .int x5_75), (7, .int r70.1), (0, .ref (b + h0)), (1, .ref (b + h1)), (2, .int x2), (4, .int x4), (6, .int x6)]) hx hb dX5_walk_90 rfl hl (by decide) rfl (fun ls hl => ?_)
          refine lv_aload_n hx hb dX5_walk_91 rfl (lv_at hl 4 rfl) ?_
          refine lv_iload hx hb dX5_walk_92 (lv_at hl 3 rfl) ?_
          obtain ⟨u94, t94, hf⟩ := zb hf
          obtain ⟨r94, e94, hf⟩ := zb hf
          refine zc_i hS (va_runV (As := [.int r70.1]) (rest := []) ⟨hx, hb, hml, hown, hts⟩ (k_X5_stepAhead l D cy b r87.2 h0 r70.1 r94 e94) (cwV 1 hts gX5_walk_X5_stepAhead rfl rfl rfl (by decide +kernel) ⟨Nat.le_of_ble_eq_true rfl, Nat.le_of_ble_eq_true rfl⟩) (zp_V _ hK hP t94 (T := TX5) (N := 9) rfl (by decide)) rfl rfl hl.1 rfl (lv_room (Nat.le_of_ble_eq_true rfl)) dX5_walk_94 ⟨Nat.zero_le _, Nat.zero_le _⟩) (fun H locs hP hS => ?_)
          refine lv_if_ne (tgt := 105) hx hb dX5_walk_97 (by decide) (fun c97 => ?_) (fun c97 => ?_)
          · have hf := (if_neg c97).symm.trans hf
            exact J105 _ _ _ _ _ _ _ _ _ _ _ hf hP hS (lv_sub hl [4, 5, 6, 0, 2, 8, 1] rfl)
          · have hf := (if_pos c97).symm.trans hf
            refine lv_iload hx hb dX5_walk_100 (lv_at hl 1 rfl) ?_
            refine lv_if_eq (tgt := 109) hx hb dX5_walk_102 (by decide) (fun c102 => ?_) (fun c102 => ?_)
            · have hf := (if_pos c102).symm.trans hf
              refine lv_iconst (v := (0 : Int32)) hx hb dX5_walk_109 (by decide) ?_
              exact J110 _ _ _ _ _ _ _ _ _ _ _ _ hf hP hS (lv_sub hl [4, 5, 6, 0, 2, 8, 1] rfl)
            · have hf := (if_neg c102).symm.trans hf
              exact J105 _ _ _ _ _ _ _ _ _ _ _ hf hP hS (lv_sub hl [4, 5, 6, 0, 2, 8, 1] rfl)
  have J36 : ∀ (M : Mem) (H : Heap) (locs : List Loc) (ls : Array Slot) (h0 : Nat) (h1 : Nat) (x2 : Int32) (x3 : Int32), fX5_walk_36  M h0 h1 x2 x3 = some rr → zH D cy b M H → va_S (zA b) s.heap H locs → lv_has ls 9 [(0, .ref (b + h0)), (1, .ref (b + h1)), (2, .int x2), (3, .int x3)] → W p l e (headSpec wsX5_walk ({ frames := 2, cells := 0, slots := 0, locals := 64 } : Room)).room s m ([.ref (b + h0), .ref (b + h1), .int x2] : List Value).toArray below meth c H locs 0 0 (MQ below (zQv D cy b rr) ([.ref (b + h0), .ref (b + h1), .int x2] : List Value).toArray s 0 0 (zA b)) (F0 m 36 ls []) := by
    intro M H locs ls h0 h1 x2 x3 hf hP hS hl
    unfold fX5_walk_36 at hf
    refine lv_iconst (v := (1 : Int32)) hx hb dX5_walk_36 (by decide) ?_
    refine lv_istore (lv' := [(4, .int (1 : Int32)), (0, .ref (b + h0)), (1, .ref (b + h1)), (2, .int x2), (3, .int x3)]) hx hb dX5_walk_37 hl (by decide) rfl (fun ls hl => ?_)
    refine lv_iload_n hx hb dX5_walk_39 rfl (lv_at hl 3 rfl) ?_
    refine lv_istore (lv' := [(5, .int x2), (4, .int (1 : Int32)), (0, .ref (b + h0)), (1, .ref (b + h1)), (2, .int x2), (3, .int x3)]) hx hb dX5_walk_40 hl (by decide) rfl (fun ls hl => ?_)
    refine lv_aload_n hx hb dX5_walk_42 rfl (lv_at hl 3 rfl) ?_
    obtain ⟨v43, e43, hf⟩ := zb hf
    refine zr_gr (ci := 7) (k := 0) (C := RX7) (T := TX7) (N := 2) hx hb hts hi_X5_walk_7 hown hK hP e43 rfl rfl (by decide) (by decide) (hts (.fieldLink RX5 70 "BoundaryAnalyzer$Text" "signs" "LBoundaryAnalyzer$Row;") (List.mem_of_getElem? (i := 6) rfl)) dX5_walk_43 ?_
    obtain ⟨v46, e46, hf⟩ := zb hf
    refine zr_gi (ci := 4) (k := 1) (C := RX4) (T := TX4) (N := 2) hx hb hts hi_X5_walk_4 hown hK hP e46 rfl rfl (by decide) (by decide) (hts (.fieldLink RX5 43 "BoundaryAnalyzer$Row" "size" "I") (List.mem_of_getElem? (i := 7) rfl)) dX5_walk_46 ?_
    refine lv_istore (lv' := [(6, .int v46), (5, .int x2), (4, .int (1 : Int32)), (0, .ref (b + h0)), (1, .ref (b + h1)), (2, .int x2), (3, .int x3)]) hx hb dX5_walk_49 hl (by decide) rfl (fun ls hl => ?_)
    exact L51 _ _ _ _ _ _ _ _ _ _ _ _ hf hP hS (lv_sub hl [3, 4, 5, 6, 2, 1, 0] rfl)
  unfold fX5_walk at hf
  refine lv_aload_n hx hb dX5_walk_0 rfl (lv_at hl 0 rfl) ?_
  refine lv_iconst (v := (0 : Int32)) hx hb dX5_walk_1 (by decide) ?_
  obtain ⟨M2, e2, hf⟩ := zb hf
  refine zr_pi (ci := 5) (k := 7) (C := RX5) (T := TX5) (N := 9) hx hb hts hi_X5_walk_5 tyX5 tyX5_ok nmX5 hown hK hP hS e2 rfl rfl (by decide) (by decide) (hts (.fieldLink RX5 51 "BoundaryAnalyzer$Rule" "matched" "I") (List.mem_of_getElem? (i := 1) rfl)) rfl (tyX5_ok 7 (by decide)) dX5_walk_2 (fun H locs hP _ hS => ?_)
  refine lv_aload_n hx hb dX5_walk_5 rfl (lv_at hl 0 rfl) ?_
  obtain ⟨v6, e6, hf⟩ := zb hf
  refine zr_gr (ci := 5) (k := 5) (C := RX5) (T := TX5) (N := 9) hx hb hts hi_X5_walk_5 hown hK hP e6 rfl rfl (by decide) (by decide) (hts (.fieldLink RX5 37 "BoundaryAnalyzer$Rule" "waiting" "[I") (List.mem_of_getElem? (i := 2) rfl)) dX5_walk_6 ?_
  refine lv_iconst (v := (-1 : Int32)) hx hb dX5_walk_9 (by decide) ?_
  obtain ⟨M10, e10, hf⟩ := zb hf
  refine zc_v hS (va_runS (As := [.ref (b + v6), .int (-1 : Int32)]) (rest := []) ⟨hx, hb, hml, hown, hts⟩ (k_J7_fill_53178 l D cy b M2  v6 (-1 : Int32) M10 e10) (va_cwS 2 hts gX5_walk_J7_fill_53178 rfl rfl rfl (by decide +kernel) ⟨Nat.le_of_ble_eq_true rfl, Nat.le_of_ble_eq_true rfl⟩) (zp_S _ hK hP) rfl rfl hl.1 rfl (lv_room (Nat.le_of_ble_eq_true rfl)) dX5_walk_10 ⟨Nat.zero_le _, Nat.zero_le _⟩) (fun H locs hP hS => ?_)
  refine lv_aload_n hx hb dX5_walk_13 rfl (lv_at hl 0 rfl) ?_
  obtain ⟨v14, e14, hf⟩ := zb hf
  refine zr_gr (ci := 5) (k := 1) (C := RX5) (T := TX5) (N := 9) hx hb hts hi_X5_walk_5 hown hK hP e14 rfl rfl (by decide) (by decide) (hts (.fieldLink RX5 23 "BoundaryAnalyzer$Rule" "body" "LBoundaryAnalyzer$Part;") (List.mem_of_getElem? (i := 3) rfl)) dX5_walk_14 ?_
  obtain ⟨v17, e17, hf⟩ := zb hf
  refine zr_gi (ci := 3) (k := 0) (C := RX3) (T := TX3) (N := 3) hx hb hts hi_X5_walk_3 hown hK hP e17 rfl rfl (by decide) (by decide) (hts (.fieldLink RX5 60 "BoundaryAnalyzer$Part" "first" "I") (List.mem_of_getElem? (i := 4) rfl)) dX5_walk_17 ?_
  refine lv_istore_n (lv' := [(3, .int v17), (0, .ref (b + h0)), (1, .ref (b + h1)), (2, .int x2)]) hx hb dX5_walk_20 rfl hl (by decide) rfl (fun ls hl => ?_)
  refine lv_aload_n hx hb dX5_walk_21 rfl (lv_at hl 1 rfl) ?_
  obtain ⟨v22, e22, hf⟩ := zb hf
  refine zr_gr (ci := 5) (k := 1) (C := RX5) (T := TX5) (N := 9) hx hb hts hi_X5_walk_5 hown hK hP e22 rfl rfl (by decide) (by decide) (hts (.fieldLink RX5 23 "BoundaryAnalyzer$Rule" "body" "LBoundaryAnalyzer$Part;") (List.mem_of_getElem? (i := 3) rfl)) dX5_walk_22 ?_
  obtain ⟨v25, e25, hf⟩ := zb hf
  refine zr_gi (ci := 3) (k := 2) (C := RX3) (T := TX3) (N := 3) hx hb hts hi_X5_walk_3 hown hK hP e25 rfl rfl (by decide) (by decide) (hts (.fieldLink RX5 63 "BoundaryAnalyzer$Part" "canBeEmpty" "Z") (List.mem_of_getElem? (i := 5) rfl)) dX5_walk_25 ?_
  refine lv_if_eq (tgt := 36) hx hb dX5_walk_28 (by decide) (fun c28 => ?_) (fun c28 => ?_)
  · have hf := (if_pos c28).symm.trans hf
    exact J36 _ _ _ _ _ _ _ _ hf hP hS (lv_sub hl [1, 2, 3, 0] rfl)
  · have hf := (if_neg c28).symm.trans hf
    refine lv_aload_n hx hb dX5_walk_31 rfl (lv_at hl 1 rfl) ?_
    refine lv_iconst (v := (0 : Int32)) hx hb dX5_walk_32 (by decide) ?_
    obtain ⟨u33, t33, hf⟩ := zb hf
    obtain ⟨M33, e33, hf⟩ := zb hf
    refine zc_v hS (va_runV (As := [.int (0 : Int32)]) (rest := []) ⟨hx, hb, hml, hown, hts⟩ (k_X5_beginAhead l D cy b M10 h0 (0 : Int32) M33 e33) (cwV 1 hts gX5_walk_X5_beginAhead rfl rfl rfl (by decide +kernel) ⟨Nat.le_of_ble_eq_true rfl, Nat.le_of_ble_eq_true rfl⟩) (zp_V _ hK hP t33 (T := TX5) (N := 9) rfl (by decide)) rfl rfl hl.1 rfl (lv_room (Nat.le_of_ble_eq_true rfl)) dX5_walk_33 ⟨Nat.zero_le _, Nat.zero_le _⟩) (fun H locs hP hS => ?_)
    exact J36 _ _ _ _ _ _ _ _ hf hP hS (lv_sub hl [1, 2, 3, 0] rfl)
theorem hi_X2_init_2 : ∀ w ∈ wsX20, w ∈ wsX2_init := fun _ h => List.mem_cons_of_mem _ (List.mem_append_left _ (List.mem_append_left _ (List.mem_append_left _ (List.mem_append_right _ h))))
theorem hi_X2_init_5 : ∀ w ∈ wsX50, w ∈ wsX2_init := fun _ h => List.mem_cons_of_mem _ (List.mem_append_left _ (List.mem_append_left _ (List.mem_append_right _ h)))
set_option maxHeartbeats 4000000 in
set_option maxRecDepth 100000 in
theorem k_X2_init (l : Launch) (D : va_G) (cy : Nat → ClassId) (b : Nat) (M0 : Mem) (h0 : Nat) (rr : Mem) (hf : fX2_init M0 h0 = some rr) : Met l yX2_init wsX2_init ({ frames := 3, cells := 47, slots := 141000, locals := 81 } : Room) (zPn D cy b M0 [.ref (b + h0)]) (zQn D cy b rr) 47 141000 (zA b) := by
  refine Met.ofW (cc := cX2_init) (maxL := 2) (ret := none) (by decide) rfl ?_
  intro p e s m args below meth c s₁ B hml hv
  obtain ⟨rfl, hP, hK, hz⟩ := hv
  have hx := B.exec
  have hb := B.bytes
  have hr := B.returns
  have hts := atoms_spec (ws := wsX2_init) B.pre
  have hown : s.vm.findClass RX2 = some m.cls := findClass_of_methodNamed B.named
  have hlocks := B.notSynchronized
  have hin : meth.name = "<init>" := (name_of_methodNamed B.named B.method).1
  have hS : va_S (zA b) s.heap s.heap [] := va_S.rf
  have hl := lv_entry ([.ref (b + h0)]) (n := 2) (Nat.le_of_ble_eq_true rfl)
  rw [lg_entry_eq]
  generalize (lg_sl ([.ref (b + h0)]) ++ List.replicate (2 - (lg_sl ([.ref (b + h0)])).length) Slot.unset).toArray = ls at hl ⊢
  have hl : lv_has ls 2 [(0, .ref (b + h0))] := hl
  have hn : M0.1 ≤ M0.1 := Nat.le_refl _
  have hu : M0.1 ≤ M0.1 + 47 := by omega
  refine W.widen (k := M0.1 - M0.1) (n := 3000 * (M0.1 - M0.1)) (by omega) (by omega) ?_
  have L22 : ∀ (n22 : Nat) (M : Mem) (H : Heap) (locs : List Loc) (ls : Array Slot) (h0 : Nat) (x1 : Int32), fX2_init_22L M0  n22 M h0 x1 = some rr → zH D cy b M H → H.size = b + M.1 → va_S (zA b) s.heap H locs → M0.1 ≤ M.1 → M.1 ≤ M0.1 + 47 → lv_has ls 2 [(0, .ref (b + h0)), (1, .int x1)] → W p l e (headSpec wsX2_init ({ frames := 3, cells := 47, slots := 141000, locals := 81 } : Room)).room s m ([.ref (b + h0)] : List Value).toArray below meth c H locs (M.1 - M0.1) (3000 * (M.1 - M0.1)) (MQ below (zQn D cy b rr) ([.ref (b + h0)] : List Value).toArray s 47 141000 (zA b)) (F0 m 22 ls []) := by
    intro n22
    induction n22 with
    | zero =>
      intro M H locs ls h0 x1 hf
      have hf : (none : Option Mem) = some rr := hf
      cases hf
    | succ n22 ih22 =>
      intro M H locs ls h0 x1 hf hP hz hS hn hu hl
      have hf : fX2_init_22 M0  (fX2_init_22L M0  n22) M h0 x1 = some rr := hf
      unfold fX2_init_22 at hf
      refine lv_iload_n hx hb dX2_init_22 rfl (lv_at hl 1 rfl) ?_
      refine lv_iconst (v := (5 : Int32)) hx hb dX2_init_23 (by decide) ?_
      refine lv_icmp_ge (tgt := 46) hx hb dX2_init_24 (by decide) (fun c24 => ?_) (fun c24 => ?_)
      · have hf := (if_pos c24).symm.trans hf
        refine W.widen (k := 47) (n := 141000) (by omega) (by omega) ?_
        exact zret_n hx hb hr hlocks hf hP hz hS dX2_init_46
      · have hf := (if_neg c24).symm.trans hf
        refine lv_aload_n hx hb dX2_init_27 rfl (lv_at hl 0 rfl) ?_
        obtain ⟨v28, e28, hf⟩ := zb hf
        refine zr_gr (ci := 2) (k := 0) (C := RX2) (T := TX2) (N := 5) hx hb hts hi_X2_init_2 hown hK hP e28 rfl rfl (by decide) (by decide) (hts (.fieldLink RX2 11 "BoundaryAnalyzer$Kind" "rules" "[LBoundaryAnalyzer$Rule;") (List.mem_of_getElem? (i := 5) rfl)) dX2_init_28 ?_
        refine lv_iload_n hx hb dX2_init_31 rfl (lv_at hl 1 rfl) ?_
        obtain ⟨M32, e32, hf⟩ := zb hf
        refine zr_no (ci := 5) (C := RX5) (T := TX5) (N := 9) hx hb hts hi_X2_init_5 tyX5 tyX5_ok hown (hts (.classLink RX2 9 RX5) (List.mem_of_getElem? (i := 4) rfl)) (hts (.instantiable RX5 9) (List.mem_of_getElem? (i := 8) rfl)) (hts (.initialized RX5) (List.mem_of_getElem? (i := 9) rfl)) hK hP hz hS e32 rfl (by decide) (fun j hj => by rcases (show j = 0 ∨ j = 1 ∨ j = 2 ∨ j = 3 ∨ j = 4 ∨ j = 5 ∨ j = 6 ∨ j = 7 ∨ j = 8 by omega) with rfl | rfl | rfl | rfl | rfl | rfl | rfl | rfl | rfl <;> rfl) (fun h9 => by show _ ≤ 47; omega) (fun h9 => by show _ ≤ 141000; omega) dX2_init_32 (fun H hP hz hS hq h9 => ?_)
        have hn : M0.1 ≤ M32.1 := by omega
        have hu : M32.1 ≤ M0.1 + 47 := by omega
        refine W.widen (k := M32.1 - M0.1) (n := 3000 * (M32.1 - M0.1)) (by omega) (by omega) ?_
        refine lv_dup hx hb dX2_init_35 rfl ?_
        obtain ⟨M36, e36, hf⟩ := zb hf
        obtain ⟨u36, r36, hf⟩ := zb hf
        obtain ⟨hq, h9⟩ := zcg_s r36
        refine zc_n hS (va_runIN (As := []) (rest := [.ref (b + M.1), .int x1, .ref (b + v28)]) ⟨hx, hb, hml, hown, hts⟩ (k_X5_init l D cy b M32 M.1  M36 e36) ⟨va_cnB 0 hts gX2_init_X5_init_n21 rfl rfl rfl (hK.2.1 _ (List.mem_of_getElem? (i := 0) rfl)) (hts (.initialized RX5) (List.mem_of_getElem? (i := 9) rfl)) (by decide +kernel) ⟨Nat.le_of_ble_eq_true rfl, Nat.le_of_ble_eq_true rfl⟩, rfl, (hts (.instanceMethod yX5_init) (List.mem_of_getElem? (i := 10) rfl))⟩ (zp_N _ hK hP hz) rfl rfl hl.1 rfl (lv_room (Nat.le_of_ble_eq_true rfl)) dX2_init_36 ⟨by show _ ≤ 47; omega, by show _ ≤ 141000; omega⟩) (fun H locs hP hz hS => ?_)
        have hn : M0.1 ≤ M36.1 := by omega
        have hu : M36.1 ≤ M0.1 + 47 := by omega
        refine W.widen (k := M36.1 - M0.1) (n := 3000 * (M36.1 - M0.1)) (by omega) (by omega) ?_
        obtain ⟨M39, e39, hf⟩ := zb hf
        refine zr_sa (t0 := 7) (r := (RX5, TX5, 9)) hx hb hK hP hS e39 (by decide) (by decide) rfl rfl dX2_init_39 (fun H locs hP hz1 hS => ?_)
        rw [hz] at hz1; have hz := hz1
        have hq := zsR_n e39
        rw [← hq] at hn hu hz
        refine W.widen (k := M39.1 - M0.1) (n := 3000 * (M39.1 - M0.1)) (by omega) (by omega) ?_
        obtain ⟨x1_40, q40, hf⟩ := zlt_s hf
        refine lv_iinc (v := x1_40) (lv' := [(1, .int x1_40), (0, .ref (b + h0))]) hx hb dX2_init_40 hl (k := 1) rfl (by rw [← q40]; rfl) (by decide) rfl (fun ls hl => ?_)
        refine lv_goto (tgt := 22) hx hb dX2_init_43 (by decide) ?_
        exact ih22 _ _ _ _ _ _ hf hP hz hS hn hu (lv_sub hl [1, 0] rfl)
  unfold fX2_init at hf
  refine lv_aload_n hx hb dX2_init_0 rfl (lv_at hl 0 rfl) ?_
  refine W.objInit hx hb hown (hts (.methodLink RX2 3 objectInit) (List.mem_of_getElem? (i := 1) rfl)) (hts (.instanceMethod objectInit) (List.mem_of_getElem? (i := 2) rfl)) (hts _ (List.mem_of_getElem? (i := 3) rfl)) rfl (by rw [hml]; exact hl.1) rfl dX2_init_1 (Nat.le_of_ble_eq_true rfl) (Nat.le_of_ble_eq_true rfl) ?_
  refine W.eq (g2 := F0 m 4 ls []) rfl ?_
  refine lv_aload_n hx hb dX2_init_4 rfl (lv_at hl 0 rfl) ?_
  refine lv_iconst (v := (5 : Int32)) hx hb dX2_init_5 (by decide) ?_
  obtain ⟨M6, e6, hf⟩ := zb hf
  refine zr_nq (t0 := 7) hx hb hown (hts (.classLink RX2 9 RX5) (List.mem_of_getElem? (i := 4) rfl)) (List.mem_of_getElem? (i := 4) rfl) hK hP hz hS e6 rfl (by decide) (zsL_max _) (fun h9 => by show _ ≤ 47; omega) (fun h9 => by show _ ≤ 141000; omega) dX2_init_6 (fun H hP hz hS hq h9 => ?_)
  have hn : M0.1 ≤ M6.1 := by omega
  have hu : M6.1 ≤ M0.1 + 47 := by omega
  refine W.widen (k := M6.1 - M0.1) (n := 3000 * (M6.1 - M0.1)) (by omega) (by omega) ?_
  obtain ⟨M9, e9, hf⟩ := zb hf
  refine zr_pr (ci := 2) (k := 0) (C := RX2) (T := TX2) (N := 5) hx hb hts hi_X2_init_2 tyX2 tyX2_ok nmX2 hown hK hP hS e9 rfl rfl (by decide) (by decide) (hts (.fieldLink RX2 11 "BoundaryAnalyzer$Kind" "rules" "[LBoundaryAnalyzer$Rule;") (List.mem_of_getElem? (i := 5) rfl)) (Or.inr ⟨rfl, hin, rfl⟩) (tyX2_ok 0 (by decide)) rfl rfl dX2_init_9 (fun H locs hP hz1 hS => ?_)
  rw [hz] at hz1; have hz := hz1
  have hq := zpR_n e9
  rw [← hq] at hn hu hz
  refine W.widen (k := M9.1 - M0.1) (n := 3000 * (M9.1 - M0.1)) (by omega) (by omega) ?_
  refine lv_aload_n hx hb dX2_init_12 rfl (lv_at hl 0 rfl) ?_
  refine lv_bipush (v := (100 : Int32)) hx hb dX2_init_13 (by decide) ?_
  obtain ⟨M15, e15, hf⟩ := zb hf
  refine zr_na (atype := .int) (ty := .int) (t0 := 1) hx hb rfl (hts (.arrayClass .int) (List.mem_of_getElem? (i := 6) rfl)) hK hP hz hS e15 rfl (Or.inr (Or.inl ⟨rfl, rfl⟩)) (zsL_max _) (fun h9 => by show _ ≤ 47; omega) (fun h9 => by show _ ≤ 141000; omega) dX2_init_15 (fun H hP hz hS hq h9 => ?_)
  have hn : M0.1 ≤ M15.1 := by omega
  have hu : M15.1 ≤ M0.1 + 47 := by omega
  refine W.widen (k := M15.1 - M0.1) (n := 3000 * (M15.1 - M0.1)) (by omega) (by omega) ?_
  obtain ⟨M17, e17, hf⟩ := zb hf
  refine zr_pr (ci := 2) (k := 1) (C := RX2) (T := TX2) (N := 5) hx hb hts hi_X2_init_2 tyX2 tyX2_ok nmX2 hown hK hP hS e17 rfl rfl (by decide) (by decide) (hts (.fieldLink RX2 17 "BoundaryAnalyzer$Kind" "looks" "[I") (List.mem_of_getElem? (i := 7) rfl)) (Or.inr ⟨rfl, hin, rfl⟩) (tyX2_ok 1 (by decide)) rfl rfl dX2_init_17 (fun H locs hP hz1 hS => ?_)
  rw [hz] at hz1; have hz := hz1
  have hq := zpR_n e17
  rw [← hq] at hn hu hz
  refine W.widen (k := M17.1 - M0.1) (n := 3000 * (M17.1 - M0.1)) (by omega) (by omega) ?_
  refine lv_iconst (v := (0 : Int32)) hx hb dX2_init_20 (by decide) ?_
  refine lv_istore_n (lv' := [(1, .int (0 : Int32)), (0, .ref (b + h0))]) hx hb dX2_init_21 rfl hl (by decide) rfl (fun ls hl => ?_)
  exact L22 _ _ _ _ _ _ _ hf hP hz hS hn hu (lv_sub hl [1, 0] rfl)
