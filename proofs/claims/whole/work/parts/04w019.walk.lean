theorem hi_X1_init_0 : ∀ w ∈ wsX00, w ∈ wsX1_init := fun _ h => List.mem_cons_of_mem _ (List.mem_append_left _ (List.mem_append_right _ h))
theorem hi_X1_init_1 : ∀ w ∈ wsX10, w ∈ wsX1_init := fun _ h => List.mem_cons_of_mem _ (List.mem_append_left _ (List.mem_append_left _ (List.mem_append_right _ h)))
set_option maxHeartbeats 4000000 in
set_option maxRecDepth 100000 in
theorem k_X1_init (l : Launch) (D : va_G) (cy : Nat → ClassId) (b : Nat) (M0 : Mem) (p0 : Nat) (rr : Mem) (hf : fX1_init M0 p0 = some rr) : Met l yX1_init wsX1_init ({ frames := 3, cells := 91, slots := 273000, locals := 81 } : Room) (zPn D cy b M0 [.ref (b + p0)]) (zQn D cy b rr) 91 273000 (zA b) := by
  refine Met.ofW (cc := cX1_init) (maxL := 2) (ret := none) (by decide) rfl ?_
  intro p e s m args below meth c s₁ B hml hv
  obtain ⟨rfl, hP, hK, hz⟩ := hv
  have hx := B.exec
  have hb := B.bytes
  have hr := B.returns
  have hts := atoms_spec (ws := wsX1_init) B.pre
  have hown : s.vm.findClass RX1 = some m.cls := findClass_of_methodNamed B.named
  have hlocks := B.notSynchronized
  have hin : meth.name = "<init>" := (name_of_methodNamed B.named B.method).1
  have hS : va_S (zA b) s.heap s.heap [] := va_S.rf
  have hl := lv_entry ([.ref (b + p0)]) (n := 2) (Nat.le_of_ble_eq_true rfl)
  rw [lg_entry_eq]
  generalize (lg_sl ([.ref (b + p0)]) ++ List.replicate (2 - (lg_sl ([.ref (b + p0)])).length) Slot.unset).toArray = ls at hl ⊢
  have hl : lv_has ls 2 [(0, .ref (b + p0))] := hl
  have hn : yN M0.1 91 M0 := ⟨Nat.le_refl _, Nat.le_add_right _ _⟩
  refine y_begin (M := M0) ?_
  have L15 : ∀ (n15 : Nat) (M : Mem) (H : Heap) (locs : List Loc) (ls : Array Slot) (h0 : Nat) (x1 : Int32), fX1_init_15L M0  n15 M h0 x1 = some rr → zH D cy b M H → H.size = b + M.1 → va_S (zA b) s.heap H locs → yN M0.1 91 M → lv_has ls 2 [(0, .ref (b + h0)), (1, .int x1)] → yW p l e (headSpec wsX1_init ({ frames := 3, cells := 91, slots := 273000, locals := 81 } : Room)).room s m ([.ref (b + p0)] : List Value).toArray below meth c H locs M0.1 M (MQ below (zQn D cy b rr) ([.ref (b + p0)] : List Value).toArray s 91 273000 (zA b)) (F0 m 15 ls []) := by
    intro n15
    induction n15 with
    | zero =>
      intro M H locs ls h0 x1 hf
      have hf : (none : Option Mem) = some rr := hf
      cases hf
    | succ n15 ih15 =>
      intro M H locs ls h0 x1 hf hP hz hS hn hl
      have hf : fX1_init_15 M0  (fX1_init_15L M0  n15) M h0 x1 = some rr := hf
      unfold fX1_init_15 at hf
      refine lv_iload_n hx hb dX1_init_15 rfl (lv_at hl 1 rfl) ?_
      refine lv_bipush (v := (30 : Int32)) hx hb dX1_init_16 (by decide) ?_
      refine lv_icmp_ge (tgt := 40) hx hb dX1_init_18 (by decide) (fun c18 => ?_) (fun c18 => ?_)
      · have hf := (if_pos c18).symm.trans hf
        exact y_ret (mc := 91) hx hb hr hlocks hf hP hz hS hn dX1_init_40
      · have hf := (if_neg c18).symm.trans hf
        refine lv_aload_n hx hb dX1_init_21 rfl (lv_at hl 0 rfl) ?_
        obtain ⟨v22, e22, hf⟩ := zb hf
        refine zr_gr (ci := 1) (k := 0) (C := RX1) (T := TX1) (N := 4) hx hb hts hi_X1_init_1 hown hK hP e22 rfl rfl (by decide) (by decide) (hts (.fieldLink RX1 11 "BoundaryAnalyzer$History" "edits" "[LBoundaryAnalyzer$Edit;") (List.mem_of_getElem? (i := 5) rfl)) dX1_init_22 ?_
        refine lv_iload_n hx hb dX1_init_25 rfl (lv_at hl 1 rfl) ?_
        obtain ⟨M26, e26, hf⟩ := zb hf
        refine y_no (mc := 91) (ci := 0) (C := RX0) (T := TX0) (N := 3) hx hb hts hi_X1_init_0 tyX0 tyX0_ok hown (hts (.classLink RX1 9 RX0) (List.mem_of_getElem? (i := 4) rfl)) (hts (.instantiable RX0 3) (List.mem_of_getElem? (i := 6) rfl)) (hts (.initialized RX0) (List.mem_of_getElem? (i := 7) rfl)) hK hP hz hS hn e26 rfl (by decide) (fun j hj => by rcases (show j = 0 ∨ j = 1 ∨ j = 2 by omega) with rfl | rfl | rfl <;> rfl) rfl rfl (by decide) dX1_init_26 (fun H hP hz hS hn => ?_)
        refine lv_dup hx hb dX1_init_29 rfl ?_
        obtain ⟨M30, e30, hf⟩ := zb hf
        obtain ⟨u30, r30, hf⟩ := zb hf
        refine y_call (mc := 91) (k := 2) hS hn r30 rfl rfl (fun hrm => va_runIN (As := []) (rest := [.ref (b + M.1), .int x1, .ref (b + v22)]) ⟨hx, hb, hml, hown, hts⟩ (k_X0_init l D cy b M26 M.1  M30 e30) ⟨va_cnB 0 hts gX1_init_X0_init_n17 rfl rfl rfl (hK.2.1 _ (List.mem_of_getElem? (i := 3) rfl)) (hts (.initialized RX0) (List.mem_of_getElem? (i := 7) rfl)) (by decide +kernel) ⟨Nat.le_of_ble_eq_true rfl, Nat.le_of_ble_eq_true rfl⟩, rfl, (hts (.instanceMethod yX0_init) (List.mem_of_getElem? (i := 8) rfl))⟩ (zp_N _ hK hP hz) rfl rfl hl.1 rfl (lv_room (Nat.le_of_ble_eq_true rfl)) dX1_init_30 hrm) (fun H locs hP hz hS hn => ?_)
        obtain ⟨M33, e33, hf⟩ := zb hf
        refine y_sa (t0 := 3) (r := (RX0, TX0, 3)) hx hb hK hP hz hS hn e33 (by decide) (by decide) rfl rfl dX1_init_33 (fun H locs hP hz hS hn => ?_)
        obtain ⟨x1_34, q34, hf⟩ := zlt_s hf
        refine lv_iinc (v := x1_34) (lv' := [(1, .int x1_34), (0, .ref (b + h0))]) hx hb dX1_init_34 hl (k := 1) rfl (by rw [← q34]; rfl) (by decide) rfl (fun ls hl => ?_)
        refine lv_goto (tgt := 15) hx hb dX1_init_37 (by decide) ?_
        exact ih15 _ _ _ _ _ _ hf hP hz hS hn (lv_sub hl [1, 0] rfl)
  unfold fX1_init at hf
  refine lv_aload_n hx hb dX1_init_0 rfl (lv_at hl 0 rfl) ?_
  refine W.objInit hx hb hown (hts (.methodLink RX1 3 objectInit) (List.mem_of_getElem? (i := 1) rfl)) (hts (.instanceMethod objectInit) (List.mem_of_getElem? (i := 2) rfl)) (hts _ (List.mem_of_getElem? (i := 3) rfl)) rfl (by rw [hml]; exact hl.1) rfl dX1_init_1 (Nat.le_of_ble_eq_true rfl) (Nat.le_of_ble_eq_true rfl) ?_
  refine W.eq (g2 := F0 m 4 ls []) rfl ?_
  refine lv_aload_n hx hb dX1_init_4 rfl (lv_at hl 0 rfl) ?_
  refine lv_bipush (v := (30 : Int32)) hx hb dX1_init_5 (by decide) ?_
  obtain ⟨M7, e7, hf⟩ := zb hf
  refine y_nq (mc := 91) (t0 := 3) hx hb hown (hts (.classLink RX1 9 RX0) (List.mem_of_getElem? (i := 4) rfl)) (List.mem_of_getElem? (i := 0) rfl) hK hP hz hS hn e7 rfl (by decide) (zsL_max _) rfl rfl dX1_init_7 (fun H hP hz hS hn => ?_)
  obtain ⟨M10, e10, hf⟩ := zb hf
  refine y_put (ci := 1) (k := 0) (C := RX1) (T := TX1) (N := 4) hx hb hts hi_X1_init_1 tyX1 tyX1_ok nmX1 hown hK hP hz hS hn e10 rfl rfl (by decide) (by decide) (hts (.fieldLink RX1 11 "BoundaryAnalyzer$History" "edits" "[LBoundaryAnalyzer$Edit;") (List.mem_of_getElem? (i := 5) rfl)) (Or.inr ⟨rfl, hin, rfl⟩) (tyX1_ok 0 (by decide)) rfl rfl dX1_init_10 (fun H locs hP hz hS hn => ?_)
  refine lv_iconst (v := (0 : Int32)) hx hb dX1_init_13 (by decide) ?_
  refine lv_istore_n (lv' := [(1, .int (0 : Int32)), (0, .ref (b + p0))]) hx hb dX1_init_14 rfl hl (by decide) rfl (fun ls hl => ?_)
  exact L15 _ _ _ _ _ _ _ hf hP hz hS hn (lv_sub hl [1, 0] rfl)
theorem hi_X1_atIndex_1 : ∀ w ∈ wsX10, w ∈ wsX1_atIndex := fun _ h => List.mem_cons_of_mem _ (List.mem_append_right _ h)
set_option maxHeartbeats 4000000 in
set_option maxRecDepth 100000 in
theorem k_X1_atIndex (l : Launch) (D : va_G) (cy : Nat → ClassId) (b : Nat) (M0 : Mem) (p0 : Nat) (p1 : Int32) (rr : Nat × Mem) (hf : fX1_atIndex M0 p0 p1 = some rr) : Met l yX1_atIndex wsX1_atIndex ({ frames := 1, cells := 0, slots := 0, locals := 22 } : Room) (zPc D cy b M0 [.ref (b + p0), .int p1]) (zQr D cy b rr) 0 0 (zA b) := by
  refine Met.ofW (cc := cX1_atIndex) (maxL := 2) (ret := (some (.object "BoundaryAnalyzer$Edit"))) (by decide) rfl ?_
  intro p e s m args below meth c s₁ B hml hv
  obtain ⟨rfl, hP, hK⟩ := hv
  have hx := B.exec
  have hb := B.bytes
  have hr := B.returns
  have hts := atoms_spec (ws := wsX1_atIndex) B.pre
  have hown : s.vm.findClass RX1 = some m.cls := findClass_of_methodNamed B.named
  have hlocks := B.notSynchronized
  have hS : va_S (zA b) s.heap s.heap [] := va_S.rf
  have hl := lv_entry ([.ref (b + p0), .int p1]) (n := 2) (Nat.le_of_ble_eq_true rfl)
  rw [lg_entry_eq]
  generalize (lg_sl ([.ref (b + p0), .int p1]) ++ List.replicate (2 - (lg_sl ([.ref (b + p0), .int p1])).length) Slot.unset).toArray = ls at hl ⊢
  have hl : lv_has ls 2 [(0, .ref (b + p0)), (1, .int p1)] := hl
  unfold fX1_atIndex at hf
  refine lv_aload_n hx hb dX1_atIndex_0 rfl (lv_at hl 0 rfl) ?_
  obtain ⟨v1, e1, hf⟩ := zb hf
  refine zr_gr (ci := 1) (k := 0) (C := RX1) (T := TX1) (N := 4) hx hb hts hi_X1_atIndex_1 hown hK hP e1 rfl rfl (by decide) (by decide) (hts (.fieldLink RX1 11 "BoundaryAnalyzer$History" "edits" "[LBoundaryAnalyzer$Edit;") (List.mem_of_getElem? (i := 1) rfl)) dX1_atIndex_1 ?_
  refine lv_aload_n hx hb dX1_atIndex_4 rfl (lv_at hl 0 rfl) ?_
  obtain ⟨v5, e5, hf⟩ := zb hf
  refine zr_gi (ci := 1) (k := 1) (C := RX1) (T := TX1) (N := 4) hx hb hts hi_X1_atIndex_1 hown hK hP e5 rfl rfl (by decide) (by decide) (hts (.fieldLink RX1 18 "BoundaryAnalyzer$History" "oldest" "I") (List.mem_of_getElem? (i := 2) rfl)) dX1_atIndex_5 ?_
  refine lv_iload_n hx hb dX1_atIndex_8 rfl (lv_at hl 1 rfl) ?_
  refine lv_iadd hx hb dX1_atIndex_9 ?_
  refine lv_bipush (v := (30 : Int32)) hx hb dX1_atIndex_10 (by decide) ?_
  obtain ⟨v12, e12, hf⟩ := zb hf
  refine zc_p (va_runS (As := [.int (v5 + p1), .int (30 : Int32)]) (rest := [.ref (b + v1)]) ⟨hx, hb, hml, hown, hts⟩ (k_J9_floorMod_7cf53 l (v5 + p1) (30 : Int32) v12 e12) (va_cwS 2 hts gX1_atIndex_J9_floorMod_7cf53 rfl rfl rfl (by decide +kernel) ⟨Nat.le_of_ble_eq_true rfl, Nat.le_of_ble_eq_true rfl⟩) (zp_p _) rfl rfl hl.1 rfl (lv_room (Nat.le_of_ble_eq_true rfl)) dX1_atIndex_12 ⟨Nat.zero_le _, Nat.zero_le _⟩) ?_
  obtain ⟨v15, e15, hf⟩ := zb hf
  refine zr_aa (t0 := 3) hx hb hK hP e15 (by decide) rfl dX1_atIndex_15 ?_
  exact zret_r hx hb hr (Or.inl ⟨_, rfl⟩) hlocks hf hP hS dX1_atIndex_16
theorem hi_X1_begin_1 : ∀ w ∈ wsX10, w ∈ wsX1_begin := fun _ h => List.mem_cons_of_mem _ (List.mem_append_right _ h)
set_option maxHeartbeats 4000000 in
set_option maxRecDepth 100000 in
theorem k_X1_begin (l : Launch) (D : va_G) (cy : Nat → ClassId) (b : Nat) (M0 : Mem) (p0 : Nat) (rr : Nat × Mem) (hf : fX1_begin M0 p0 = some rr) : Met l yX1_begin wsX1_begin ({ frames := 2, cells := 0, slots := 0, locals := 43 } : Room) (zPc D cy b M0 [.ref (b + p0)]) (zQr D cy b rr) 0 0 (zA b) := by
  refine Met.ofW (cc := cX1_begin) (maxL := 1) (ret := (some (.object "BoundaryAnalyzer$Edit"))) (by decide) rfl ?_
  intro p e s m args below meth c s₁ B hml hv
  obtain ⟨rfl, hP, hK⟩ := hv
  have hx := B.exec
  have hb := B.bytes
  have hr := B.returns
  have hts := atoms_spec (ws := wsX1_begin) B.pre
  have hown : s.vm.findClass RX1 = some m.cls := findClass_of_methodNamed B.named
  have hlocks := B.notSynchronized
  have hS : va_S (zA b) s.heap s.heap [] := va_S.rf
  have hl := lv_entry ([.ref (b + p0)]) (n := 1) (Nat.le_of_ble_eq_true rfl)
  rw [lg_entry_eq]
  generalize (lg_sl ([.ref (b + p0)]) ++ List.replicate (1 - (lg_sl ([.ref (b + p0)])).length) Slot.unset).toArray = ls at hl ⊢
  have hl : lv_has ls 1 [(0, .ref (b + p0))] := hl
  have J35 : ∀ (M : Mem) (H : Heap) (locs : List Loc) (ls : Array Slot) (h0 : Nat), fX1_begin_35  M h0 = some rr → zH D cy b M H → va_S (zA b) s.heap H locs → lv_has ls 1 [(0, .ref (b + h0))] → W p l e (headSpec wsX1_begin ({ frames := 2, cells := 0, slots := 0, locals := 43 } : Room)).room s m ([.ref (b + p0)] : List Value).toArray below meth c H locs 0 0 (MQ below (zQr D cy b rr) ([.ref (b + p0)] : List Value).toArray s 0 0 (zA b)) (F0 m 35 ls []) := by
    intro M H locs ls h0 hf hP hS hl
    unfold fX1_begin_35 at hf
    refine lv_aload_n hx hb dX1_begin_35 rfl (lv_at hl 0 rfl) ?_
    refine lv_dup hx hb dX1_begin_36 rfl ?_
    obtain ⟨v37, e37, hf⟩ := zb hf
    refine zr_gi (ci := 1) (k := 2) (C := RX1) (T := TX1) (N := 4) hx hb hts hi_X1_begin_1 hown hK hP e37 rfl rfl (by decide) (by decide) (hts (.fieldLink RX1 31 "BoundaryAnalyzer$History" "undoable" "I") (List.mem_of_getElem? (i := 2) rfl)) dX1_begin_37 ?_
    refine lv_iconst (v := (1 : Int32)) hx hb dX1_begin_40 (by decide) ?_
    refine lv_iadd hx hb dX1_begin_41 ?_
    obtain ⟨M42, e42, hf⟩ := zb hf
    refine zr_pi (ci := 1) (k := 2) (C := RX1) (T := TX1) (N := 4) hx hb hts hi_X1_begin_1 tyX1 tyX1_ok nmX1 hown hK hP hS e42 rfl rfl (by decide) (by decide) (hts (.fieldLink RX1 31 "BoundaryAnalyzer$History" "undoable" "I") (List.mem_of_getElem? (i := 2) rfl)) rfl (tyX1_ok 2 (by decide)) dX1_begin_42 (fun H locs hP _ hS => ?_)
    refine lv_aload_n hx hb dX1_begin_45 rfl (lv_at hl 0 rfl) ?_
    refine lv_aload_n hx hb dX1_begin_46 rfl (lv_at hl 0 rfl) ?_
    obtain ⟨v47, e47, hf⟩ := zb hf
    refine zr_gi (ci := 1) (k := 2) (C := RX1) (T := TX1) (N := 4) hx hb hts hi_X1_begin_1 hown hK hP e47 rfl rfl (by decide) (by decide) (hts (.fieldLink RX1 31 "BoundaryAnalyzer$History" "undoable" "I") (List.mem_of_getElem? (i := 2) rfl)) dX1_begin_47 ?_
    refine lv_iconst (v := (1 : Int32)) hx hb dX1_begin_50 (by decide) ?_
    refine lv_isub hx hb dX1_begin_51 ?_
    obtain ⟨u52, t52, hf⟩ := zb hf
    obtain ⟨r52, e52, hf⟩ := zb hf
    refine zc_r hS (va_runV (As := [.int (v47 - (1 : Int32))]) (rest := []) ⟨hx, hb, hml, hown, hts⟩ (k_X1_atIndex l D cy b M42 h0 (v47 - (1 : Int32)) r52 e52) (cwV 1 hts gX1_begin_X1_atIndex rfl rfl rfl (by decide +kernel) ⟨Nat.le_of_ble_eq_true rfl, Nat.le_of_ble_eq_true rfl⟩) (zp_V _ hK hP t52 (T := TX1) (N := 4) rfl (by decide)) rfl rfl hl.1 rfl (lv_room (Nat.le_of_ble_eq_true rfl)) dX1_begin_52 ⟨Nat.zero_le _, Nat.zero_le _⟩) (fun H locs hP hS => ?_)
    exact zret_r hx hb hr (Or.inl ⟨_, rfl⟩) hlocks hf hP hS dX1_begin_55
  unfold fX1_begin at hf
  refine lv_aload_n hx hb dX1_begin_0 rfl (lv_at hl 0 rfl) ?_
  refine lv_iconst (v := (0 : Int32)) hx hb dX1_begin_1 (by decide) ?_
  obtain ⟨M2, e2, hf⟩ := zb hf
  refine zr_pi (ci := 1) (k := 3) (C := RX1) (T := TX1) (N := 4) hx hb hts hi_X1_begin_1 tyX1 tyX1_ok nmX1 hown hK hP hS e2 rfl rfl (by decide) (by decide) (hts (.fieldLink RX1 28 "BoundaryAnalyzer$History" "redoable" "I") (List.mem_of_getElem? (i := 1) rfl)) rfl (tyX1_ok 3 (by decide)) dX1_begin_2 (fun H locs hP _ hS => ?_)
  refine lv_aload_n hx hb dX1_begin_5 rfl (lv_at hl 0 rfl) ?_
  obtain ⟨v6, e6, hf⟩ := zb hf
  refine zr_gi (ci := 1) (k := 2) (C := RX1) (T := TX1) (N := 4) hx hb hts hi_X1_begin_1 hown hK hP e6 rfl rfl (by decide) (by decide) (hts (.fieldLink RX1 31 "BoundaryAnalyzer$History" "undoable" "I") (List.mem_of_getElem? (i := 2) rfl)) dX1_begin_6 ?_
  refine lv_bipush (v := (30 : Int32)) hx hb dX1_begin_9 (by decide) ?_
  refine lv_icmp_lt (tgt := 35) hx hb dX1_begin_11 (by decide) (fun c11 => ?_) (fun c11 => ?_)
  · have hf := (if_pos c11).symm.trans hf
    exact J35 _ _ _ _ _ hf hP hS (lv_sub hl [0] rfl)
  · have hf := (if_neg c11).symm.trans hf
    refine lv_aload_n hx hb dX1_begin_14 rfl (lv_at hl 0 rfl) ?_
    refine lv_aload_n hx hb dX1_begin_15 rfl (lv_at hl 0 rfl) ?_
    obtain ⟨v16, e16, hf⟩ := zb hf
    refine zr_gi (ci := 1) (k := 1) (C := RX1) (T := TX1) (N := 4) hx hb hts hi_X1_begin_1 hown hK hP e16 rfl rfl (by decide) (by decide) (hts (.fieldLink RX1 18 "BoundaryAnalyzer$History" "oldest" "I") (List.mem_of_getElem? (i := 3) rfl)) dX1_begin_16 ?_
    refine lv_iconst (v := (1 : Int32)) hx hb dX1_begin_19 (by decide) ?_
    refine lv_iadd hx hb dX1_begin_20 ?_
    refine lv_bipush (v := (30 : Int32)) hx hb dX1_begin_21 (by decide) ?_
    obtain ⟨v23, e23, hf⟩ := zb hf
    refine zc_p (va_runS (As := [.int (v16 + (1 : Int32)), .int (30 : Int32)]) (rest := [.ref (b + p0)]) ⟨hx, hb, hml, hown, hts⟩ (k_J9_floorMod_7cf53 l (v16 + (1 : Int32)) (30 : Int32) v23 e23) (va_cwS 2 hts gX1_begin_J9_floorMod_7cf53 rfl rfl rfl (by decide +kernel) ⟨Nat.le_of_ble_eq_true rfl, Nat.le_of_ble_eq_true rfl⟩) (zp_p _) rfl rfl hl.1 rfl (lv_room (Nat.le_of_ble_eq_true rfl)) dX1_begin_23 ⟨Nat.zero_le _, Nat.zero_le _⟩) ?_
    obtain ⟨M26, e26, hf⟩ := zb hf
    refine zr_pi (ci := 1) (k := 1) (C := RX1) (T := TX1) (N := 4) hx hb hts hi_X1_begin_1 tyX1 tyX1_ok nmX1 hown hK hP hS e26 rfl rfl (by decide) (by decide) (hts (.fieldLink RX1 18 "BoundaryAnalyzer$History" "oldest" "I") (List.mem_of_getElem? (i := 3) rfl)) rfl (tyX1_ok 1 (by decide)) dX1_begin_26 (fun H locs hP _ hS => ?_)
    refine lv_aload_n hx hb dX1_begin_29 rfl (lv_at hl 0 rfl) ?_
    refine lv_bipush (v := (29 : Int32)) hx hb dX1_begin_30 (by decide) ?_
    obtain ⟨M32, e32, hf⟩ := zb hf
    refine zr_pi (ci := 1) (k := 2) (C := RX1) (T := TX1) (N := 4) hx hb hts hi_X1_begin_1 tyX1 tyX1_ok nmX1 hown hK hP hS e32 rfl rfl (by decide) (by decide) (hts (.fieldLink RX1 31 "BoundaryAnalyzer$History" "undoable" "I") (List.mem_of_getElem? (i := 2) rfl)) rfl (tyX1_ok 2 (by decide)) dX1_begin_32 (fun H locs hP _ hS => ?_)
    exact J35 _ _ _ _ _ hf hP hS (lv_sub hl [0] rfl)
theorem hi_X1_stepBack_1 : ∀ w ∈ wsX10, w ∈ wsX1_stepBack := fun _ h => List.mem_cons_of_mem _ (List.mem_append_right _ h)
set_option maxHeartbeats 4000000 in
set_option maxRecDepth 100000 in
theorem k_X1_stepBack (l : Launch) (D : va_G) (cy : Nat → ClassId) (b : Nat) (M0 : Mem) (p0 : Nat) (rr : Nat × Mem) (hf : fX1_stepBack M0 p0 = some rr) : Met l yX1_stepBack wsX1_stepBack ({ frames := 2, cells := 0, slots := 0, locals := 43 } : Room) (zPc D cy b M0 [.ref (b + p0)]) (zQr D cy b rr) 0 0 (zA b) := by
  refine Met.ofW (cc := cX1_stepBack) (maxL := 1) (ret := (some (.object "BoundaryAnalyzer$Edit"))) (by decide) rfl ?_
  intro p e s m args below meth c s₁ B hml hv
  obtain ⟨rfl, hP, hK⟩ := hv
  have hx := B.exec
  have hb := B.bytes
  have hr := B.returns
  have hts := atoms_spec (ws := wsX1_stepBack) B.pre
  have hown : s.vm.findClass RX1 = some m.cls := findClass_of_methodNamed B.named
  have hlocks := B.notSynchronized
  have hS : va_S (zA b) s.heap s.heap [] := va_S.rf
  have hl := lv_entry ([.ref (b + p0)]) (n := 1) (Nat.le_of_ble_eq_true rfl)
  rw [lg_entry_eq]
  generalize (lg_sl ([.ref (b + p0)]) ++ List.replicate (1 - (lg_sl ([.ref (b + p0)])).length) Slot.unset).toArray = ls at hl ⊢
  have hl : lv_has ls 1 [(0, .ref (b + p0))] := hl
  unfold fX1_stepBack at hf
  refine lv_aload_n hx hb dX1_stepBack_0 rfl (lv_at hl 0 rfl) ?_
  refine lv_dup hx hb dX1_stepBack_1 rfl ?_
  obtain ⟨v2, e2, hf⟩ := zb hf
  refine zr_gi (ci := 1) (k := 2) (C := RX1) (T := TX1) (N := 4) hx hb hts hi_X1_stepBack_1 hown hK hP e2 rfl rfl (by decide) (by decide) (hts (.fieldLink RX1 31 "BoundaryAnalyzer$History" "undoable" "I") (List.mem_of_getElem? (i := 1) rfl)) dX1_stepBack_2 ?_
  refine lv_iconst (v := (1 : Int32)) hx hb dX1_stepBack_5 (by decide) ?_
  refine lv_isub hx hb dX1_stepBack_6 ?_
  obtain ⟨M7, e7, hf⟩ := zb hf
  refine zr_pi (ci := 1) (k := 2) (C := RX1) (T := TX1) (N := 4) hx hb hts hi_X1_stepBack_1 tyX1 tyX1_ok nmX1 hown hK hP hS e7 rfl rfl (by decide) (by decide) (hts (.fieldLink RX1 31 "BoundaryAnalyzer$History" "undoable" "I") (List.mem_of_getElem? (i := 1) rfl)) rfl (tyX1_ok 2 (by decide)) dX1_stepBack_7 (fun H locs hP _ hS => ?_)
  refine lv_aload_n hx hb dX1_stepBack_10 rfl (lv_at hl 0 rfl) ?_
  refine lv_dup hx hb dX1_stepBack_11 rfl ?_
  obtain ⟨v12, e12, hf⟩ := zb hf
  refine zr_gi (ci := 1) (k := 3) (C := RX1) (T := TX1) (N := 4) hx hb hts hi_X1_stepBack_1 hown hK hP e12 rfl rfl (by decide) (by decide) (hts (.fieldLink RX1 28 "BoundaryAnalyzer$History" "redoable" "I") (List.mem_of_getElem? (i := 2) rfl)) dX1_stepBack_12 ?_
  refine lv_iconst (v := (1 : Int32)) hx hb dX1_stepBack_15 (by decide) ?_
  refine lv_iadd hx hb dX1_stepBack_16 ?_
  obtain ⟨M17, e17, hf⟩ := zb hf
  refine zr_pi (ci := 1) (k := 3) (C := RX1) (T := TX1) (N := 4) hx hb hts hi_X1_stepBack_1 tyX1 tyX1_ok nmX1 hown hK hP hS e17 rfl rfl (by decide) (by decide) (hts (.fieldLink RX1 28 "BoundaryAnalyzer$History" "redoable" "I") (List.mem_of_getElem? (i := 2) rfl)) rfl (tyX1_ok 3 (by decide)) dX1_stepBack_17 (fun H locs hP _ hS => ?_)
  refine lv_aload_n hx hb dX1_stepBack_20 rfl (lv_at hl 0 rfl) ?_
  refine lv_aload_n hx hb dX1_stepBack_21 rfl (lv_at hl 0 rfl) ?_
  obtain ⟨v22, e22, hf⟩ := zb hf
  refine zr_gi (ci := 1) (k := 2) (C := RX1) (T := TX1) (N := 4) hx hb hts hi_X1_stepBack_1 hown hK hP e22 rfl rfl (by decide) (by decide) (hts (.fieldLink RX1 31 "BoundaryAnalyzer$History" "undoable" "I") (List.mem_of_getElem? (i := 1) rfl)) dX1_stepBack_22 ?_
  obtain ⟨u25, t25, hf⟩ := zb hf
  obtain ⟨r25, e25, hf⟩ := zb hf
  refine zc_r hS (va_runV (As := [.int v22]) (rest := []) ⟨hx, hb, hml, hown, hts⟩ (k_X1_atIndex l D cy b M17 p0 v22 r25 e25) (cwV 1 hts gX1_stepBack_X1_atIndex rfl rfl rfl (by decide +kernel) ⟨Nat.le_of_ble_eq_true rfl, Nat.le_of_ble_eq_true rfl⟩) (zp_V _ hK hP t25 (T := TX1) (N := 4) rfl (by decide)) rfl rfl hl.1 rfl (lv_room (Nat.le_of_ble_eq_true rfl)) dX1_stepBack_25 ⟨Nat.zero_le _, Nat.zero_le _⟩) (fun H locs hP hS => ?_)
  exact zret_r hx hb hr (Or.inl ⟨_, rfl⟩) hlocks hf hP hS dX1_stepBack_28
