theorem hi_X8_addException_4 : ∀ w ∈ wsX40, w ∈ wsX8_addException := fun _ h => List.mem_cons_of_mem _ (List.mem_append_right _ h)
theorem hi_X8_addException_8 : ∀ w ∈ wsX80, w ∈ wsX8_addException := fun _ h => List.mem_cons_of_mem _ (List.mem_append_left _ (List.mem_append_right _ h))
set_option maxHeartbeats 4000000 in
set_option maxRecDepth 100000 in
theorem k_X8_addException (l : Launch) (D : va_G) (cy : Nat → ClassId) (b : Nat) (M0 : Mem) (p0 : Nat) (rr : Int32 × Mem) (hf : fX8_addException M0 p0 = some rr) : Met l yX8_addException wsX8_addException ({ frames := 3, cells := 0, slots := 0, locals := 69 } : Room) (zPc D cy b M0 [.ref (b + p0)]) (zQi D cy b rr) 0 0 (zA b) := by
  refine Met.ofW (cc := cX8_addException) (maxL := 1) (ret := (some .int)) (by decide) rfl ?_
  intro p e s m args below meth c s₁ B hml hv
  obtain ⟨rfl, hP, hK⟩ := hv
  have hx := B.exec
  have hb := B.bytes
  have hr := B.returns
  have hts := atoms_spec (ws := wsX8_addException) B.pre
  have hown : s.vm.findClass RX8 = some m.cls := findClass_of_methodNamed B.named
  have hlocks := B.notSynchronized
  have hS : va_S (zA b) s.heap s.heap [] := va_S.rf
  have hl := lv_entry ([.ref (b + p0)]) (n := 1) (Nat.le_of_ble_eq_true rfl)
  rw [lg_entry_eq]
  generalize (lg_sl ([.ref (b + p0)]) ++ List.replicate (1 - (lg_sl ([.ref (b + p0)])).length) Slot.unset).toArray = ls at hl ⊢
  have hl : lv_has ls 1 [(0, .ref (b + p0))] := hl
  unfold fX8_addException at hf
  refine lv_aload_n hx hb dX8_addException_0 rfl (lv_at hl 0 rfl) ?_
  obtain ⟨v1, e1, hf⟩ := zb hf
  refine zr_gr (ci := 8) (k := 1) (C := RX8) (T := TX8) (N := 7) hx hb hts hi_X8_addException_8 hown hK hP e1 rfl rfl (by decide) (by decide) (hts (.fieldLink RX8 21 "BoundaryAnalyzer" "pattern" "LBoundaryAnalyzer$Row;") (List.mem_of_getElem? (i := 1) rfl)) dX8_addException_1 ?_
  obtain ⟨r4, e4, hf⟩ := zb hf
  refine zc_i hS (va_runS (As := [.ref (b + v1)]) (rest := []) ⟨hx, hb, hml, hown, hts⟩ (k_X8_isExceptionWord l D cy b M0  v1 r4 e4) (va_cwS 1 hts gX8_addException_X8_isExceptionWord rfl rfl rfl (by decide +kernel) ⟨Nat.le_of_ble_eq_true rfl, Nat.le_of_ble_eq_true rfl⟩) (zp_S _ hK hP) rfl rfl hl.1 rfl (lv_room (Nat.le_of_ble_eq_true rfl)) dX8_addException_4 ⟨Nat.zero_le _, Nat.zero_le _⟩) (fun H locs hP hS => ?_)
  refine lv_if_ne (tgt := 13) hx hb dX8_addException_7 (by decide) (fun c7 => ?_) (fun c7 => ?_)
  · have hf := (if_neg c7).symm.trans hf
    refine lv_aload_n hx hb dX8_addException_13 rfl (lv_at hl 0 rfl) ?_
    refine lv_aload_n hx hb dX8_addException_14 rfl (lv_at hl 0 rfl) ?_
    obtain ⟨v15, e15, hf⟩ := zb hf
    refine zr_gr (ci := 8) (k := 1) (C := RX8) (T := TX8) (N := 7) hx hb hts hi_X8_addException_8 hown hK hP e15 rfl rfl (by decide) (by decide) (hts (.fieldLink RX8 21 "BoundaryAnalyzer" "pattern" "LBoundaryAnalyzer$Row;") (List.mem_of_getElem? (i := 1) rfl)) dX8_addException_15 ?_
    refine lv_iconst (v := (0 : Int32)) hx hb dX8_addException_18 (by decide) ?_
    refine lv_aload_n hx hb dX8_addException_19 rfl (lv_at hl 0 rfl) ?_
    obtain ⟨v20, e20, hf⟩ := zb hf
    refine zr_gr (ci := 8) (k := 1) (C := RX8) (T := TX8) (N := 7) hx hb hts hi_X8_addException_8 hown hK hP e20 rfl rfl (by decide) (by decide) (hts (.fieldLink RX8 21 "BoundaryAnalyzer" "pattern" "LBoundaryAnalyzer$Row;") (List.mem_of_getElem? (i := 1) rfl)) dX8_addException_20 ?_
    obtain ⟨v23, e23, hf⟩ := zb hf
    refine zr_gi (ci := 4) (k := 1) (C := RX4) (T := TX4) (N := 2) hx hb hts hi_X8_addException_4 hown hK hP e23 rfl rfl (by decide) (by decide) (hts (.fieldLink RX8 70 "BoundaryAnalyzer$Row" "size" "I") (List.mem_of_getElem? (i := 2) rfl)) dX8_addException_23 ?_
    obtain ⟨u26, t26, hf⟩ := zb hf
    obtain ⟨r26, e26, hf⟩ := zb hf
    refine zc_i hS (va_runV (As := [.ref (b + v15), .int (0 : Int32), .int v23]) (rest := []) ⟨hx, hb, hml, hown, hts⟩ (k_X8_exceptionAt l D cy b r4.2 p0 v15 (0 : Int32) v23 r26 e26) (cwV 3 hts gX8_addException_X8_exceptionAt rfl rfl rfl (by decide +kernel) ⟨Nat.le_of_ble_eq_true rfl, Nat.le_of_ble_eq_true rfl⟩) (zp_V _ hK hP t26 (T := TX8) (N := 7) rfl (by decide)) rfl rfl hl.1 rfl (lv_room (Nat.le_of_ble_eq_true rfl)) dX8_addException_26 ⟨Nat.zero_le _, Nat.zero_le _⟩) (fun H locs hP hS => ?_)
    refine lv_bipush (v := (-5 : Int32)) hx hb dX8_addException_29 (by decide) ?_
    refine lv_icmp_eq (tgt := 37) hx hb dX8_addException_31 (by decide) (fun c31 => ?_) (fun c31 => ?_)
    · have hf := (if_pos c31).symm.trans hf
      refine lv_aload_n hx hb dX8_addException_37 rfl (lv_at hl 0 rfl) ?_
      obtain ⟨v38, e38, hf⟩ := zb hf
      refine zr_gi (ci := 8) (k := 5) (C := RX8) (T := TX8) (N := 7) hx hb hts hi_X8_addException_8 hown hK hP e38 rfl rfl (by decide) (by decide) (hts (.fieldLink RX8 131 "BoundaryAnalyzer" "exceptionCount" "I") (List.mem_of_getElem? (i := 3) rfl)) dX8_addException_38 ?_
      refine lv_bipush (v := (10 : Int32)) hx hb dX8_addException_41 (by decide) ?_
      refine lv_icmp_lt (tgt := 49) hx hb dX8_addException_43 (by decide) (fun c43 => ?_) (fun c43 => ?_)
      · have hf := (if_pos c43).symm.trans hf
        refine lv_aload_n hx hb dX8_addException_49 rfl (lv_at hl 0 rfl) ?_
        obtain ⟨v50, e50, hf⟩ := zb hf
        refine zr_gr (ci := 8) (k := 4) (C := RX8) (T := TX8) (N := 7) hx hb hts hi_X8_addException_8 hown hK hP e50 rfl rfl (by decide) (by decide) (hts (.fieldLink RX8 39 "BoundaryAnalyzer" "exceptions" "[LBoundaryAnalyzer$Row;") (List.mem_of_getElem? (i := 4) rfl)) dX8_addException_50 ?_
        refine lv_aload_n hx hb dX8_addException_53 rfl (lv_at hl 0 rfl) ?_
        obtain ⟨v54, e54, hf⟩ := zb hf
        refine zr_gi (ci := 8) (k := 5) (C := RX8) (T := TX8) (N := 7) hx hb hts hi_X8_addException_8 hown hK hP e54 rfl rfl (by decide) (by decide) (hts (.fieldLink RX8 131 "BoundaryAnalyzer" "exceptionCount" "I") (List.mem_of_getElem? (i := 3) rfl)) dX8_addException_54 ?_
        obtain ⟨v57, e57, hf⟩ := zb hf
        refine zr_aa (t0 := 6) hx hb hK hP e57 (by decide) rfl dX8_addException_57 ?_
        refine lv_aload_n hx hb dX8_addException_58 rfl (lv_at hl 0 rfl) ?_
        obtain ⟨v59, e59, hf⟩ := zb hf
        refine zr_gr (ci := 8) (k := 1) (C := RX8) (T := TX8) (N := 7) hx hb hts hi_X8_addException_8 hown hK hP e59 rfl rfl (by decide) (by decide) (hts (.fieldLink RX8 21 "BoundaryAnalyzer" "pattern" "LBoundaryAnalyzer$Row;") (List.mem_of_getElem? (i := 1) rfl)) dX8_addException_59 ?_
        refine lv_iconst (v := (0 : Int32)) hx hb dX8_addException_62 (by decide) ?_
        refine lv_aload_n hx hb dX8_addException_63 rfl (lv_at hl 0 rfl) ?_
        obtain ⟨v64, e64, hf⟩ := zb hf
        refine zr_gr (ci := 8) (k := 1) (C := RX8) (T := TX8) (N := 7) hx hb hts hi_X8_addException_8 hown hK hP e64 rfl rfl (by decide) (by decide) (hts (.fieldLink RX8 21 "BoundaryAnalyzer" "pattern" "LBoundaryAnalyzer$Row;") (List.mem_of_getElem? (i := 1) rfl)) dX8_addException_64 ?_
        obtain ⟨v67, e67, hf⟩ := zb hf
        refine zr_gi (ci := 4) (k := 1) (C := RX4) (T := TX4) (N := 2) hx hb hts hi_X8_addException_4 hown hK hP e67 rfl rfl (by decide) (by decide) (hts (.fieldLink RX8 70 "BoundaryAnalyzer$Row" "size" "I") (List.mem_of_getElem? (i := 2) rfl)) dX8_addException_67 ?_
        obtain ⟨u70, t70, hf⟩ := zb hf
        obtain ⟨M70, e70, hf⟩ := zb hf
        refine zc_v hS (va_runV (As := [.ref (b + v59), .int (0 : Int32), .int v67]) (rest := []) ⟨hx, hb, hml, hown, hts⟩ (k_X4_become l D cy b r26.2 v57 v59 (0 : Int32) v67 M70 e70) (cwV 3 hts gX8_addException_X4_become rfl rfl rfl (by decide +kernel) ⟨Nat.le_of_ble_eq_true rfl, Nat.le_of_ble_eq_true rfl⟩) (zp_V _ hK hP t70 (T := TX4) (N := 2) rfl (by decide)) rfl rfl hl.1 rfl (lv_room (Nat.le_of_ble_eq_true rfl)) dX8_addException_70 ⟨Nat.zero_le _, Nat.zero_le _⟩) (fun H locs hP hS => ?_)
        refine lv_aload_n hx hb dX8_addException_73 rfl (lv_at hl 0 rfl) ?_
        refine lv_dup hx hb dX8_addException_74 rfl ?_
        obtain ⟨v75, e75, hf⟩ := zb hf
        refine zr_gi (ci := 8) (k := 5) (C := RX8) (T := TX8) (N := 7) hx hb hts hi_X8_addException_8 hown hK hP e75 rfl rfl (by decide) (by decide) (hts (.fieldLink RX8 131 "BoundaryAnalyzer" "exceptionCount" "I") (List.mem_of_getElem? (i := 3) rfl)) dX8_addException_75 ?_
        refine lv_iconst (v := (1 : Int32)) hx hb dX8_addException_78 (by decide) ?_
        refine lv_iadd hx hb dX8_addException_79 ?_
        obtain ⟨M80, e80, hf⟩ := zb hf
        refine zr_pi (ci := 8) (k := 5) (C := RX8) (T := TX8) (N := 7) hx hb hts hi_X8_addException_8 tyX8 tyX8_ok nmX8 hown hK hP hS e80 rfl rfl (by decide) (by decide) (hts (.fieldLink RX8 131 "BoundaryAnalyzer" "exceptionCount" "I") (List.mem_of_getElem? (i := 3) rfl)) rfl (tyX8_ok 5 (by decide)) dX8_addException_80 (fun H locs hP _ hS => ?_)
        refine lv_aload_n hx hb dX8_addException_83 rfl (lv_at hl 0 rfl) ?_
        obtain ⟨v84, e84, hf⟩ := zb hf
        refine zr_gi (ci := 8) (k := 5) (C := RX8) (T := TX8) (N := 7) hx hb hts hi_X8_addException_8 hown hK hP e84 rfl rfl (by decide) (by decide) (hts (.fieldLink RX8 131 "BoundaryAnalyzer" "exceptionCount" "I") (List.mem_of_getElem? (i := 3) rfl)) dX8_addException_84 ?_
        exact zret_i hx hb hr hlocks hf hP hS dX8_addException_87
      · have hf := (if_neg c43).symm.trans hf
        refine lv_bipush (v := (-3 : Int32)) hx hb dX8_addException_46 (by decide) ?_
        exact zret_i hx hb hr hlocks hf hP hS dX8_addException_48
    · have hf := (if_neg c31).symm.trans hf
      refine lv_bipush (v := (-4 : Int32)) hx hb dX8_addException_34 (by decide) ?_
      exact zret_i hx hb hr hlocks hf hP hS dX8_addException_36
  · have hf := (if_pos c7).symm.trans hf
    refine lv_bipush (v := (-2 : Int32)) hx hb dX8_addException_10 (by decide) ?_
    exact zret_i hx hb hr hlocks hf hP hS dX8_addException_12
