theorem hi_X8_erase_0 : ∀ w ∈ wsX00, w ∈ wsX8_erase := fun _ h => List.mem_cons_of_mem _ (List.mem_append_left _ (List.mem_append_left _ (List.mem_append_left _ (List.mem_append_left _ (List.mem_append_right _ h)))))
theorem hi_X8_erase_1 : ∀ w ∈ wsX10, w ∈ wsX8_erase := fun _ h => List.mem_cons_of_mem _ (List.mem_append_left _ (List.mem_append_left _ (List.mem_append_left _ (List.mem_append_right _ h))))
theorem hi_X8_erase_4 : ∀ w ∈ wsX40, w ∈ wsX8_erase := fun _ h => List.mem_cons_of_mem _ (List.mem_append_left _ (List.mem_append_left _ (List.mem_append_left _ (List.mem_append_left _ (List.mem_append_left _ (List.mem_append_right _ h))))))
theorem hi_X8_erase_7 : ∀ w ∈ wsX70, w ∈ wsX8_erase := fun _ h => List.mem_cons_of_mem _ (List.mem_append_left _ (List.mem_append_left _ (List.mem_append_left _ (List.mem_append_left _ (List.mem_append_left _ (List.mem_append_left _ (List.mem_append_right _ h)))))))
theorem hi_X8_erase_8 : ∀ w ∈ wsX80, w ∈ wsX8_erase := fun _ h => List.mem_cons_of_mem _ (List.mem_append_left _ (List.mem_append_left _ (List.mem_append_left _ (List.mem_append_left _ (List.mem_append_left _ (List.mem_append_left _ (List.mem_append_left _ (List.mem_append_right _ h))))))))
set_option maxHeartbeats 4000000 in
set_option maxRecDepth 100000 in
theorem k_X8_erase (l : Launch) (D : va_G) (cy : Nat → ClassId) (b : Nat) (M0 : Mem) (p0 : Nat) (p1 : Int32) (p2 : Int32) (rr : Int32 × Mem) (hf : fX8_erase M0 p0 p1 p2 = some rr) : Met l yX8_erase wsX8_erase ({ frames := 6, cells := 0, slots := 0, locals := 171 } : Room) (zPc D cy b M0 [.ref (b + p0), .int p1, .int p2]) (zQi D cy b rr) 0 0 (zA b) := by
  refine Met.ofW (cc := cX8_erase) (maxL := 4) (ret := (some .int)) (by decide) rfl ?_
  intro p e s m args below meth c s₁ B hml hv
  obtain ⟨rfl, hP, hK⟩ := hv
  have hx := B.exec
  have hb := B.bytes
  have hr := B.returns
  have hts := atoms_spec (ws := wsX8_erase) B.pre
  have hown : s.vm.findClass RX8 = some m.cls := findClass_of_methodNamed B.named
  have hlocks := B.notSynchronized
  have hS : va_S (zA b) s.heap s.heap [] := va_S.rf
  have hl := lv_entry ([.ref (b + p0), .int p1, .int p2]) (n := 4) (Nat.le_of_ble_eq_true rfl)
  rw [lg_entry_eq]
  generalize (lg_sl ([.ref (b + p0), .int p1, .int p2]) ++ List.replicate (4 - (lg_sl ([.ref (b + p0), .int p1, .int p2])).length) Slot.unset).toArray = ls at hl ⊢
  have hl : lv_has ls 4 [(0, .ref (b + p0)), (1, .int p1), (2, .int p2)] := hl
  unfold fX8_erase at hf
  refine lv_aload_n hx hb dX8_erase_0 rfl (lv_at hl 0 rfl) ?_
  refine lv_iload_n hx hb dX8_erase_1 rfl (lv_at hl 1 rfl) ?_
  obtain ⟨u2, t2, hf⟩ := zb hf
  obtain ⟨r2, e2, hf⟩ := zb hf
  refine zc_i hS (va_runV (As := [.int p1]) (rest := []) ⟨hx, hb, hml, hown, hts⟩ (k_X8_isPositionOfCharacter l D cy b M0 p0 p1 r2 e2) (cwV 1 hts gX8_erase_X8_isPositionOfCharacter rfl rfl rfl (by decide +kernel) ⟨Nat.le_of_ble_eq_true rfl, Nat.le_of_ble_eq_true rfl⟩) (zp_V _ hK hP t2 (T := TX8) (N := 7) rfl (by decide)) rfl rfl hl.1 rfl (lv_room (Nat.le_of_ble_eq_true rfl)) dX8_erase_2 ⟨Nat.zero_le _, Nat.zero_le _⟩) (fun H locs hP hS => ?_)
  refine lv_if_ne (tgt := 10) hx hb dX8_erase_5 (by decide) (fun c5 => ?_) (fun c5 => ?_)
  · have hf := (if_neg c5).symm.trans hf
    refine lv_iload_n hx hb dX8_erase_10 rfl (lv_at hl 2 rfl) ?_
    refine lv_iconst (v := (1 : Int32)) hx hb dX8_erase_11 (by decide) ?_
    refine lv_icmp_lt (tgt := 31) hx hb dX8_erase_12 (by decide) (fun c12 => ?_) (fun c12 => ?_)
    · have hf := (if_pos c12).symm.trans hf
      refine lv_bipush (v := (-2 : Int32)) hx hb dX8_erase_31 (by decide) ?_
      exact zret_i hx hb hr hlocks hf hP hS dX8_erase_33
    · have hf := (if_neg c12).symm.trans hf
      refine lv_iload_n hx hb dX8_erase_15 rfl (lv_at hl 2 rfl) ?_
      refine lv_aload_n hx hb dX8_erase_16 rfl (lv_at hl 0 rfl) ?_
      obtain ⟨v17, e17, hf⟩ := zb hf
      refine zr_gr (ci := 8) (k := 0) (C := RX8) (T := TX8) (N := 7) hx hb hts hi_X8_erase_8 hown hK hP e17 rfl rfl (by decide) (by decide) (hts (.fieldLink RX8 10 "BoundaryAnalyzer" "text" "LBoundaryAnalyzer$Text;") (List.mem_of_getElem? (i := 1) rfl)) dX8_erase_17 ?_
      obtain ⟨v20, e20, hf⟩ := zb hf
      refine zr_gr (ci := 7) (k := 0) (C := RX7) (T := TX7) (N := 2) hx hb hts hi_X8_erase_7 hown hK hP e20 rfl rfl (by decide) (by decide) (hts (.fieldLink RX8 134 "BoundaryAnalyzer$Text" "signs" "LBoundaryAnalyzer$Row;") (List.mem_of_getElem? (i := 2) rfl)) dX8_erase_20 ?_
      obtain ⟨v23, e23, hf⟩ := zb hf
      refine zr_gi (ci := 4) (k := 1) (C := RX4) (T := TX4) (N := 2) hx hb hts hi_X8_erase_4 hown hK hP e23 rfl rfl (by decide) (by decide) (hts (.fieldLink RX8 70 "BoundaryAnalyzer$Row" "size" "I") (List.mem_of_getElem? (i := 3) rfl)) dX8_erase_23 ?_
      refine lv_iload_n hx hb dX8_erase_26 rfl (lv_at hl 1 rfl) ?_
      refine lv_isub hx hb dX8_erase_27 ?_
      refine lv_icmp_le (tgt := 34) hx hb dX8_erase_28 (by decide) (fun c28 => ?_) (fun c28 => ?_)
      · have hf := (if_pos c28).symm.trans hf
        refine lv_aload_n hx hb dX8_erase_34 rfl (lv_at hl 0 rfl) ?_
        obtain ⟨v35, e35, hf⟩ := zb hf
        refine zr_gr (ci := 8) (k := 6) (C := RX8) (T := TX8) (N := 7) hx hb hts hi_X8_erase_8 hown hK hP e35 rfl rfl (by decide) (by decide) (hts (.fieldLink RX8 46 "BoundaryAnalyzer" "history" "LBoundaryAnalyzer$History;") (List.mem_of_getElem? (i := 4) rfl)) dX8_erase_35 ?_
        obtain ⟨u38, t38, hf⟩ := zb hf
        obtain ⟨r38, e38, hf⟩ := zb hf
        refine zc_r hS (va_runV (As := []) (rest := []) ⟨hx, hb, hml, hown, hts⟩ (k_X1_begin l D cy b r2.2 v35  r38 e38) (cwV 0 hts gX8_erase_X1_begin rfl rfl rfl (by decide +kernel) ⟨Nat.le_of_ble_eq_true rfl, Nat.le_of_ble_eq_true rfl⟩) (zp_V _ hK hP t38 (T := TX1) (N := 4) rfl (by decide)) rfl rfl hl.1 rfl (lv_room (Nat.le_of_ble_eq_true rfl)) dX8_erase_38 ⟨Nat.zero_le _, Nat.zero_le _⟩) (fun H locs hP hS => ?_)
        refine lv_astore_n (lv' := [(3, .ref (b + r38.1)), (0, .ref (b + p0)), (1, .int p1), (2, .int p2)]) hx hb dX8_erase_41 rfl hl (by decide) rfl (fun ls hl => ?_)
        refine lv_aload_n hx hb dX8_erase_42 rfl (lv_at hl 0 rfl) ?_
        refine lv_iconst (v := (0 : Int32)) hx hb dX8_erase_43 (by decide) ?_
        obtain ⟨M44, e44, hf⟩ := zb hf
        refine zr_pz (ci := 0) (k := 1) (C := RX0) (T := TX0) (N := 3) hx hb hts hi_X8_erase_0 tyX0 tyX0_ok nmX0 hown hK hP hS e44 rfl rfl (by decide) (by decide) (hts (.fieldLink RX8 139 "BoundaryAnalyzer$Edit" "inserts" "Z") (List.mem_of_getElem? (i := 5) rfl)) rfl (tyX0_ok 1 (by decide)) dX8_erase_44 (fun H locs hP _ hS => ?_)
        refine lv_aload_n hx hb dX8_erase_47 rfl (lv_at hl 0 rfl) ?_
        refine lv_iload_n hx hb dX8_erase_48 rfl (lv_at hl 2 rfl) ?_
        obtain ⟨M49, e49, hf⟩ := zb hf
        refine zr_pi (ci := 0) (k := 2) (C := RX0) (T := TX0) (N := 3) hx hb hts hi_X8_erase_0 tyX0 tyX0_ok nmX0 hown hK hP hS e49 rfl rfl (by decide) (by decide) (hts (.fieldLink RX8 145 "BoundaryAnalyzer$Edit" "position" "I") (List.mem_of_getElem? (i := 6) rfl)) rfl (tyX0_ok 2 (by decide)) dX8_erase_49 (fun H locs hP _ hS => ?_)
        refine lv_aload_n hx hb dX8_erase_52 rfl (lv_at hl 0 rfl) ?_
        obtain ⟨v53, e53, hf⟩ := zb hf
        refine zr_gr (ci := 0) (k := 0) (C := RX0) (T := TX0) (N := 3) hx hb hts hi_X8_erase_0 hown hK hP e53 rfl rfl (by decide) (by decide) (hts (.fieldLink RX8 148 "BoundaryAnalyzer$Edit" "signs" "LBoundaryAnalyzer$Row;") (List.mem_of_getElem? (i := 7) rfl)) dX8_erase_53 ?_
        refine lv_aload_n hx hb dX8_erase_56 rfl (lv_at hl 1 rfl) ?_
        obtain ⟨v57, e57, hf⟩ := zb hf
        refine zr_gr (ci := 8) (k := 0) (C := RX8) (T := TX8) (N := 7) hx hb hts hi_X8_erase_8 hown hK hP e57 rfl rfl (by decide) (by decide) (hts (.fieldLink RX8 10 "BoundaryAnalyzer" "text" "LBoundaryAnalyzer$Text;") (List.mem_of_getElem? (i := 1) rfl)) dX8_erase_57 ?_
        obtain ⟨v60, e60, hf⟩ := zb hf
        refine zr_gr (ci := 7) (k := 0) (C := RX7) (T := TX7) (N := 2) hx hb hts hi_X8_erase_7 hown hK hP e60 rfl rfl (by decide) (by decide) (hts (.fieldLink RX8 134 "BoundaryAnalyzer$Text" "signs" "LBoundaryAnalyzer$Row;") (List.mem_of_getElem? (i := 2) rfl)) dX8_erase_60 ?_
        refine lv_iload_n hx hb dX8_erase_63 rfl (lv_at hl 2 rfl) ?_
        refine lv_iload_n hx hb dX8_erase_64 rfl (lv_at hl 3 rfl) ?_
        obtain ⟨u65, t65, hf⟩ := zb hf
        obtain ⟨M65, e65, hf⟩ := zb hf
        refine zc_v hS (va_runV (As := [.ref (b + v60), .int p1, .int p2]) (rest := []) ⟨hx, hb, hml, hown, hts⟩ (k_X4_become l D cy b M49 v53 v60 p1 p2 M65 e65) (cwV 3 hts gX8_erase_X4_become rfl rfl rfl (by decide +kernel) ⟨Nat.le_of_ble_eq_true rfl, Nat.le_of_ble_eq_true rfl⟩) (zp_V _ hK hP t65 (T := TX4) (N := 2) rfl (by decide)) rfl rfl hl.1 rfl (lv_room (Nat.le_of_ble_eq_true rfl)) dX8_erase_65 ⟨Nat.zero_le _, Nat.zero_le _⟩) (fun H locs hP hS => ?_)
        refine lv_aload_n hx hb dX8_erase_68 rfl (lv_at hl 1 rfl) ?_
        refine lv_aload_n hx hb dX8_erase_69 rfl (lv_at hl 0 rfl) ?_
        refine lv_iconst (v := (0 : Int32)) hx hb dX8_erase_70 (by decide) ?_
        obtain ⟨u71, t71, hf⟩ := zb hf
        obtain ⟨M71, e71, hf⟩ := zb hf
        refine zc_v hS (va_runV (As := [.ref (b + r38.1), .int (0 : Int32)]) (rest := []) ⟨hx, hb, hml, hown, hts⟩ (k_X8_carryOut l D cy b M65 p0 r38.1 (0 : Int32) M71 e71) (cwV 2 hts gX8_erase_X8_carryOut rfl rfl rfl (by decide +kernel) ⟨Nat.le_of_ble_eq_true rfl, Nat.le_of_ble_eq_true rfl⟩) (zp_V _ hK hP t71 (T := TX8) (N := 7) rfl (by decide)) rfl rfl hl.1 rfl (lv_room (Nat.le_of_ble_eq_true rfl)) dX8_erase_71 ⟨Nat.zero_le _, Nat.zero_le _⟩) (fun H locs hP hS => ?_)
        refine lv_aload_n hx hb dX8_erase_74 rfl (lv_at hl 1 rfl) ?_
        obtain ⟨v75, e75, hf⟩ := zb hf
        refine zr_gr (ci := 8) (k := 0) (C := RX8) (T := TX8) (N := 7) hx hb hts hi_X8_erase_8 hown hK hP e75 rfl rfl (by decide) (by decide) (hts (.fieldLink RX8 10 "BoundaryAnalyzer" "text" "LBoundaryAnalyzer$Text;") (List.mem_of_getElem? (i := 1) rfl)) dX8_erase_75 ?_
        obtain ⟨v78, e78, hf⟩ := zb hf
        refine zr_gr (ci := 7) (k := 0) (C := RX7) (T := TX7) (N := 2) hx hb hts hi_X8_erase_7 hown hK hP e78 rfl rfl (by decide) (by decide) (hts (.fieldLink RX8 134 "BoundaryAnalyzer$Text" "signs" "LBoundaryAnalyzer$Row;") (List.mem_of_getElem? (i := 2) rfl)) dX8_erase_78 ?_
        obtain ⟨v81, e81, hf⟩ := zb hf
        refine zr_gi (ci := 4) (k := 1) (C := RX4) (T := TX4) (N := 2) hx hb hts hi_X8_erase_4 hown hK hP e81 rfl rfl (by decide) (by decide) (hts (.fieldLink RX8 70 "BoundaryAnalyzer$Row" "size" "I") (List.mem_of_getElem? (i := 3) rfl)) dX8_erase_81 ?_
        exact zret_i hx hb hr hlocks hf hP hS dX8_erase_84
      · have hf := (if_neg c28).symm.trans hf
        refine lv_bipush (v := (-2 : Int32)) hx hb dX8_erase_31 (by decide) ?_
        exact zret_i hx hb hr hlocks hf hP hS dX8_erase_33
  · have hf := (if_pos c5).symm.trans hf
    refine lv_iconst (v := (-1 : Int32)) hx hb dX8_erase_8 (by decide) ?_
    exact zret_i hx hb hr hlocks hf hP hS dX8_erase_9
theorem hi_X8_undo_0 : ∀ w ∈ wsX00, w ∈ wsX8_undo := fun _ h => List.mem_cons_of_mem _ (List.mem_append_left _ (List.mem_append_left _ (List.mem_append_left _ (List.mem_append_left _ (List.mem_append_left _ (List.mem_append_right _ h))))))
theorem hi_X8_undo_1 : ∀ w ∈ wsX10, w ∈ wsX8_undo := fun _ h => List.mem_cons_of_mem _ (List.mem_append_left _ (List.mem_append_left _ (List.mem_append_left _ (List.mem_append_left _ (List.mem_append_left _ (List.mem_append_left _ (List.mem_append_right _ h)))))))
theorem hi_X8_undo_8 : ∀ w ∈ wsX80, w ∈ wsX8_undo := fun _ h => List.mem_cons_of_mem _ (List.mem_append_left _ (List.mem_append_left _ (List.mem_append_left _ (List.mem_append_left _ (List.mem_append_left _ (List.mem_append_left _ (List.mem_append_left _ (List.mem_append_right _ h))))))))
set_option maxHeartbeats 4000000 in
set_option maxRecDepth 100000 in
theorem k_X8_undo (l : Launch) (D : va_G) (cy : Nat → ClassId) (b : Nat) (M0 : Mem) (p0 : Nat) (rr : Int32 × Mem) (hf : fX8_undo M0 p0 = some rr) : Met l yX8_undo wsX8_undo ({ frames := 6, cells := 0, slots := 0, locals := 171 } : Room) (zPc D cy b M0 [.ref (b + p0)]) (zQi D cy b rr) 0 0 (zA b) := by
  refine Met.ofW (cc := cX8_undo) (maxL := 2) (ret := (some .int)) (by decide) rfl ?_
  intro p e s m args below meth c s₁ B hml hv
  obtain ⟨rfl, hP, hK⟩ := hv
  have hx := B.exec
  have hb := B.bytes
  have hr := B.returns
  have hts := atoms_spec (ws := wsX8_undo) B.pre
  have hown : s.vm.findClass RX8 = some m.cls := findClass_of_methodNamed B.named
  have hlocks := B.notSynchronized
  have hS : va_S (zA b) s.heap s.heap [] := va_S.rf
  have hl := lv_entry ([.ref (b + p0)]) (n := 2) (Nat.le_of_ble_eq_true rfl)
  rw [lg_entry_eq]
  generalize (lg_sl ([.ref (b + p0)]) ++ List.replicate (2 - (lg_sl ([.ref (b + p0)])).length) Slot.unset).toArray = ls at hl ⊢
  have hl : lv_has ls 2 [(0, .ref (b + p0))] := hl
  have J35 : ∀ (M : Mem) (H : Heap) (locs : List Loc) (ls : Array Slot) (h0 : Nat) (g0 : Nat) (g1 : Nat) (y2 : Int32), fX8_undo_35  M h0 g0 g1 y2 = some rr → zH D cy b M H → va_S (zA b) s.heap H locs → lv_has ls 2 [(0, .ref (b + h0))] → W p l e (headSpec wsX8_undo ({ frames := 6, cells := 0, slots := 0, locals := 171 } : Room)).room s m ([.ref (b + p0)] : List Value).toArray below meth c H locs 0 0 (MQ below (zQi D cy b rr) ([.ref (b + p0)] : List Value).toArray s 0 0 (zA b)) (F0 m 35 ls [.int y2, .ref (b + g1), .ref (b + g0)]) := by
    intro M H locs ls h0 g0 g1 y2 hf hP hS hl
    unfold fX8_undo_35 at hf
    obtain ⟨u35, t35, hf⟩ := zb hf
    obtain ⟨M35, e35, hf⟩ := zb hf
    refine zc_v hS (va_runV (As := [.ref (b + g1), .int y2]) (rest := []) ⟨hx, hb, hml, hown, hts⟩ (k_X8_carryOut l D cy b M g0 g1 y2 M35 e35) (cwV 2 hts gX8_undo_X8_carryOut rfl rfl rfl (by decide +kernel) ⟨Nat.le_of_ble_eq_true rfl, Nat.le_of_ble_eq_true rfl⟩) (zp_V _ hK hP t35 (T := TX8) (N := 7) rfl (by decide)) rfl rfl hl.1 rfl (lv_room (Nat.le_of_ble_eq_true rfl)) dX8_undo_35 ⟨Nat.zero_le _, Nat.zero_le _⟩) (fun H locs hP hS => ?_)
    refine lv_aload_n hx hb dX8_undo_38 rfl (lv_at hl 0 rfl) ?_
    obtain ⟨v39, e39, hf⟩ := zb hf
    refine zr_gr (ci := 8) (k := 6) (C := RX8) (T := TX8) (N := 7) hx hb hts hi_X8_undo_8 hown hK hP e39 rfl rfl (by decide) (by decide) (hts (.fieldLink RX8 46 "BoundaryAnalyzer" "history" "LBoundaryAnalyzer$History;") (List.mem_of_getElem? (i := 1) rfl)) dX8_undo_39 ?_
    obtain ⟨v42, e42, hf⟩ := zb hf
    refine zr_gi (ci := 1) (k := 2) (C := RX1) (T := TX1) (N := 4) hx hb hts hi_X8_undo_1 hown hK hP e42 rfl rfl (by decide) (by decide) (hts (.fieldLink RX8 156 "BoundaryAnalyzer$History" "undoable" "I") (List.mem_of_getElem? (i := 2) rfl)) dX8_undo_42 ?_
    exact zret_i hx hb hr hlocks hf hP hS dX8_undo_45
  unfold fX8_undo at hf
  refine lv_aload_n hx hb dX8_undo_0 rfl (lv_at hl 0 rfl) ?_
  obtain ⟨v1, e1, hf⟩ := zb hf
  refine zr_gr (ci := 8) (k := 6) (C := RX8) (T := TX8) (N := 7) hx hb hts hi_X8_undo_8 hown hK hP e1 rfl rfl (by decide) (by decide) (hts (.fieldLink RX8 46 "BoundaryAnalyzer" "history" "LBoundaryAnalyzer$History;") (List.mem_of_getElem? (i := 1) rfl)) dX8_undo_1 ?_
  obtain ⟨v4, e4, hf⟩ := zb hf
  refine zr_gi (ci := 1) (k := 2) (C := RX1) (T := TX1) (N := 4) hx hb hts hi_X8_undo_1 hown hK hP e4 rfl rfl (by decide) (by decide) (hts (.fieldLink RX8 156 "BoundaryAnalyzer$History" "undoable" "I") (List.mem_of_getElem? (i := 2) rfl)) dX8_undo_4 ?_
  refine lv_if_gt (tgt := 13) hx hb dX8_undo_7 (by decide) (fun c7 => ?_) (fun c7 => ?_)
  · have hf := (if_pos c7).symm.trans hf
    refine lv_aload_n hx hb dX8_undo_13 rfl (lv_at hl 0 rfl) ?_
    obtain ⟨v14, e14, hf⟩ := zb hf
    refine zr_gr (ci := 8) (k := 6) (C := RX8) (T := TX8) (N := 7) hx hb hts hi_X8_undo_8 hown hK hP e14 rfl rfl (by decide) (by decide) (hts (.fieldLink RX8 46 "BoundaryAnalyzer" "history" "LBoundaryAnalyzer$History;") (List.mem_of_getElem? (i := 1) rfl)) dX8_undo_14 ?_
    obtain ⟨u17, t17, hf⟩ := zb hf
    obtain ⟨r17, e17, hf⟩ := zb hf
    refine zc_r hS (va_runV (As := []) (rest := []) ⟨hx, hb, hml, hown, hts⟩ (k_X1_stepBack l D cy b M0 v14  r17 e17) (cwV 0 hts gX8_undo_X1_stepBack rfl rfl rfl (by decide +kernel) ⟨Nat.le_of_ble_eq_true rfl, Nat.le_of_ble_eq_true rfl⟩) (zp_V _ hK hP t17 (T := TX1) (N := 4) rfl (by decide)) rfl rfl hl.1 rfl (lv_room (Nat.le_of_ble_eq_true rfl)) dX8_undo_17 ⟨Nat.zero_le _, Nat.zero_le _⟩) (fun H locs hP hS => ?_)
    refine lv_astore_n (lv' := [(1, .ref (b + r17.1)), (0, .ref (b + p0))]) hx hb dX8_undo_20 rfl hl (by decide) rfl (fun ls hl => ?_)
    refine lv_aload_n hx hb dX8_undo_21 rfl (lv_at hl 1 rfl) ?_
    refine lv_aload_n hx hb dX8_undo_22 rfl (lv_at hl 0 rfl) ?_
    refine lv_aload_n hx hb dX8_undo_23 rfl (lv_at hl 0 rfl) ?_
    obtain ⟨v24, e24, hf⟩ := zb hf
    refine zr_gi (ci := 0) (k := 1) (C := RX0) (T := TX0) (N := 3) hx hb hts hi_X8_undo_0 hown hK hP e24 rfl rfl (by decide) (by decide) (hts (.fieldLink RX8 139 "BoundaryAnalyzer$Edit" "inserts" "Z") (List.mem_of_getElem? (i := 3) rfl)) dX8_undo_24 ?_
    refine lv_if_ne (tgt := 34) hx hb dX8_undo_27 (by decide) (fun c27 => ?_) (fun c27 => ?_)
    · have hf := (if_neg c27).symm.trans hf
      refine lv_iconst (v := (0 : Int32)) hx hb dX8_undo_34 (by decide) ?_
      exact J35 _ _ _ _ _ _ _ _ hf hP hS (lv_sub hl [1] rfl)
    · have hf := (if_pos c27).symm.trans hf
      refine lv_iconst (v := (1 : Int32)) hx hb dX8_undo_30 (by decide) ?_
      refine lv_goto (tgt := 35) hx hb dX8_undo_31 (by decide) ?_
      exact J35 _ _ _ _ _ _ _ _ hf hP hS (lv_sub hl [1] rfl)
  · have hf := (if_neg c7).symm.trans hf
    refine lv_bipush (v := (-5 : Int32)) hx hb dX8_undo_10 (by decide) ?_
    exact zret_i hx hb hr hlocks hf hP hS dX8_undo_12
