theorem hi_X8_removeException_4 : ∀ w ∈ wsX40, w ∈ wsX8_removeException := fun _ h => List.mem_cons_of_mem _ (List.mem_append_right _ h)
theorem hi_X8_removeException_8 : ∀ w ∈ wsX80, w ∈ wsX8_removeException := fun _ h => List.mem_cons_of_mem _ (List.mem_append_left _ (List.mem_append_right _ h))
set_option maxHeartbeats 4000000 in
set_option maxRecDepth 100000 in
theorem k_X8_removeException (l : Launch) (D : va_G) (cy : Nat → ClassId) (b : Nat) (M0 : Mem) (p0 : Nat) (rr : Int32 × Mem) (hf : fX8_removeException M0 p0 = some rr) : Met l yX8_removeException wsX8_removeException ({ frames := 3, cells := 0, slots := 0, locals := 69 } : Room) (zPc D cy b M0 [.ref (b + p0)]) (zQi D cy b rr) 0 0 (zA b) := by
  refine Met.ofW (cc := cX8_removeException) (maxL := 3) (ret := (some .int)) (by decide) rfl ?_
  intro p e s m args below meth c s₁ B hml hv
  obtain ⟨rfl, hP, hK⟩ := hv
  have hx := B.exec
  have hb := B.bytes
  have hr := B.returns
  have hts := atoms_spec (ws := wsX8_removeException) B.pre
  have hown : s.vm.findClass RX8 = some m.cls := findClass_of_methodNamed B.named
  have hlocks := B.notSynchronized
  have hS : va_S (zA b) s.heap s.heap [] := va_S.rf
  have hl := lv_entry ([.ref (b + p0)]) (n := 3) (Nat.le_of_ble_eq_true rfl)
  rw [lg_entry_eq]
  generalize (lg_sl ([.ref (b + p0)]) ++ List.replicate (3 - (lg_sl ([.ref (b + p0)])).length) Slot.unset).toArray = ls at hl ⊢
  have hl : lv_has ls 3 [(0, .ref (b + p0))] := hl
  unfold fX8_removeException at hf
  refine lv_aload_n hx hb dX8_removeException_0 rfl (lv_at hl 0 rfl) ?_
  refine lv_aload_n hx hb dX8_removeException_1 rfl (lv_at hl 0 rfl) ?_
  obtain ⟨v2, e2, hf⟩ := zb hf
  refine zr_gr (ci := 8) (k := 1) (C := RX8) (T := TX8) (N := 7) hx hb hts hi_X8_removeException_8 hown hK hP e2 rfl rfl (by decide) (by decide) (hts (.fieldLink RX8 21 "BoundaryAnalyzer" "pattern" "LBoundaryAnalyzer$Row;") (List.mem_of_getElem? (i := 1) rfl)) dX8_removeException_2 ?_
  refine lv_iconst (v := (0 : Int32)) hx hb dX8_removeException_5 (by decide) ?_
  refine lv_aload_n hx hb dX8_removeException_6 rfl (lv_at hl 0 rfl) ?_
  obtain ⟨v7, e7, hf⟩ := zb hf
  refine zr_gr (ci := 8) (k := 1) (C := RX8) (T := TX8) (N := 7) hx hb hts hi_X8_removeException_8 hown hK hP e7 rfl rfl (by decide) (by decide) (hts (.fieldLink RX8 21 "BoundaryAnalyzer" "pattern" "LBoundaryAnalyzer$Row;") (List.mem_of_getElem? (i := 1) rfl)) dX8_removeException_7 ?_
  obtain ⟨v10, e10, hf⟩ := zb hf
  refine zr_gi (ci := 4) (k := 1) (C := RX4) (T := TX4) (N := 2) hx hb hts hi_X8_removeException_4 hown hK hP e10 rfl rfl (by decide) (by decide) (hts (.fieldLink RX8 70 "BoundaryAnalyzer$Row" "size" "I") (List.mem_of_getElem? (i := 2) rfl)) dX8_removeException_10 ?_
  obtain ⟨u13, t13, hf⟩ := zb hf
  obtain ⟨r13, e13, hf⟩ := zb hf
  refine zc_i hS (va_runV (As := [.ref (b + v2), .int (0 : Int32), .int v10]) (rest := []) ⟨hx, hb, hml, hown, hts⟩ (k_X8_exceptionAt l D cy b M0 p0 v2 (0 : Int32) v10 r13 e13) (cwV 3 hts gX8_removeException_X8_exceptionAt rfl rfl rfl (by decide +kernel) ⟨Nat.le_of_ble_eq_true rfl, Nat.le_of_ble_eq_true rfl⟩) (zp_V _ hK hP t13 (T := TX8) (N := 7) rfl (by decide)) rfl rfl hl.1 rfl (lv_room (Nat.le_of_ble_eq_true rfl)) dX8_removeException_13 ⟨Nat.zero_le _, Nat.zero_le _⟩) (fun H locs hP hS => ?_)
  refine lv_istore_n (lv' := [(1, .int r13.1), (0, .ref (b + p0))]) hx hb dX8_removeException_16 rfl hl (by decide) rfl (fun ls hl => ?_)
  refine lv_iload_n hx hb dX8_removeException_17 rfl (lv_at hl 0 rfl) ?_
  refine lv_bipush (v := (-5 : Int32)) hx hb dX8_removeException_18 (by decide) ?_
  refine lv_icmp_ne (tgt := 26) hx hb dX8_removeException_20 (by decide) (fun c20 => ?_) (fun c20 => ?_)
  · have hf := (if_neg c20).symm.trans hf
    refine lv_aload_n hx hb dX8_removeException_26 rfl (lv_at hl 1 rfl) ?_
    refine lv_dup hx hb dX8_removeException_27 rfl ?_
    obtain ⟨v28, e28, hf⟩ := zb hf
    refine zr_gi (ci := 8) (k := 5) (C := RX8) (T := TX8) (N := 7) hx hb hts hi_X8_removeException_8 hown hK hP e28 rfl rfl (by decide) (by decide) (hts (.fieldLink RX8 131 "BoundaryAnalyzer" "exceptionCount" "I") (List.mem_of_getElem? (i := 3) rfl)) dX8_removeException_28 ?_
    refine lv_iconst (v := (1 : Int32)) hx hb dX8_removeException_31 (by decide) ?_
    refine lv_isub hx hb dX8_removeException_32 ?_
    obtain ⟨M33, e33, hf⟩ := zb hf
    refine zr_pi (ci := 8) (k := 5) (C := RX8) (T := TX8) (N := 7) hx hb hts hi_X8_removeException_8 tyX8 tyX8_ok nmX8 hown hK hP hS e33 rfl rfl (by decide) (by decide) (hts (.fieldLink RX8 131 "BoundaryAnalyzer" "exceptionCount" "I") (List.mem_of_getElem? (i := 3) rfl)) rfl (tyX8_ok 5 (by decide)) dX8_removeException_33 (fun H locs hP _ hS => ?_)
    refine lv_aload_n hx hb dX8_removeException_36 rfl (lv_at hl 1 rfl) ?_
    obtain ⟨v37, e37, hf⟩ := zb hf
    refine zr_gr (ci := 8) (k := 4) (C := RX8) (T := TX8) (N := 7) hx hb hts hi_X8_removeException_8 hown hK hP e37 rfl rfl (by decide) (by decide) (hts (.fieldLink RX8 39 "BoundaryAnalyzer" "exceptions" "[LBoundaryAnalyzer$Row;") (List.mem_of_getElem? (i := 4) rfl)) dX8_removeException_37 ?_
    refine lv_iload_n hx hb dX8_removeException_40 rfl (lv_at hl 0 rfl) ?_
    obtain ⟨v41, e41, hf⟩ := zb hf
    refine zr_aa (t0 := 6) hx hb hK hP e41 (by decide) rfl dX8_removeException_41 ?_
    refine lv_astore_n (lv' := [(2, .ref (b + v41)), (1, .int r13.1), (0, .ref (b + p0))]) hx hb dX8_removeException_42 rfl hl (by decide) rfl (fun ls hl => ?_)
    refine lv_aload_n hx hb dX8_removeException_43 rfl (lv_at hl 2 rfl) ?_
    obtain ⟨v44, e44, hf⟩ := zb hf
    refine zr_gr (ci := 8) (k := 4) (C := RX8) (T := TX8) (N := 7) hx hb hts hi_X8_removeException_8 hown hK hP e44 rfl rfl (by decide) (by decide) (hts (.fieldLink RX8 39 "BoundaryAnalyzer" "exceptions" "[LBoundaryAnalyzer$Row;") (List.mem_of_getElem? (i := 4) rfl)) dX8_removeException_44 ?_
    refine lv_iload_n hx hb dX8_removeException_47 rfl (lv_at hl 1 rfl) ?_
    refine lv_aload_n hx hb dX8_removeException_48 rfl (lv_at hl 2 rfl) ?_
    obtain ⟨v49, e49, hf⟩ := zb hf
    refine zr_gr (ci := 8) (k := 4) (C := RX8) (T := TX8) (N := 7) hx hb hts hi_X8_removeException_8 hown hK hP e49 rfl rfl (by decide) (by decide) (hts (.fieldLink RX8 39 "BoundaryAnalyzer" "exceptions" "[LBoundaryAnalyzer$Row;") (List.mem_of_getElem? (i := 4) rfl)) dX8_removeException_49 ?_
    refine lv_aload_n hx hb dX8_removeException_52 rfl (lv_at hl 2 rfl) ?_
    obtain ⟨v53, e53, hf⟩ := zb hf
    refine zr_gi (ci := 8) (k := 5) (C := RX8) (T := TX8) (N := 7) hx hb hts hi_X8_removeException_8 hown hK hP e53 rfl rfl (by decide) (by decide) (hts (.fieldLink RX8 131 "BoundaryAnalyzer" "exceptionCount" "I") (List.mem_of_getElem? (i := 3) rfl)) dX8_removeException_53 ?_
    obtain ⟨v56, e56, hf⟩ := zb hf
    refine zr_aa (t0 := 6) hx hb hK hP e56 (by decide) rfl dX8_removeException_56 ?_
    obtain ⟨M57, e57, hf⟩ := zb hf
    refine zr_sa (t0 := 6) (r := (RX4, TX4, 2)) hx hb hK hP hS e57 (by decide) (by decide) rfl rfl dX8_removeException_57 (fun H locs hP _ hS => ?_)
    refine lv_aload_n hx hb dX8_removeException_58 rfl (lv_at hl 2 rfl) ?_
    obtain ⟨v59, e59, hf⟩ := zb hf
    refine zr_gr (ci := 8) (k := 4) (C := RX8) (T := TX8) (N := 7) hx hb hts hi_X8_removeException_8 hown hK hP e59 rfl rfl (by decide) (by decide) (hts (.fieldLink RX8 39 "BoundaryAnalyzer" "exceptions" "[LBoundaryAnalyzer$Row;") (List.mem_of_getElem? (i := 4) rfl)) dX8_removeException_59 ?_
    refine lv_aload_n hx hb dX8_removeException_62 rfl (lv_at hl 2 rfl) ?_
    obtain ⟨v63, e63, hf⟩ := zb hf
    refine zr_gi (ci := 8) (k := 5) (C := RX8) (T := TX8) (N := 7) hx hb hts hi_X8_removeException_8 hown hK hP e63 rfl rfl (by decide) (by decide) (hts (.fieldLink RX8 131 "BoundaryAnalyzer" "exceptionCount" "I") (List.mem_of_getElem? (i := 3) rfl)) dX8_removeException_63 ?_
    refine lv_aload_n hx hb dX8_removeException_66 rfl (lv_at hl 0 rfl) ?_
    obtain ⟨M67, e67, hf⟩ := zb hf
    refine zr_sa (t0 := 6) (r := (RX4, TX4, 2)) hx hb hK hP hS e67 (by decide) (by decide) rfl rfl dX8_removeException_67 (fun H locs hP _ hS => ?_)
    refine lv_aload_n hx hb dX8_removeException_68 rfl (lv_at hl 2 rfl) ?_
    obtain ⟨v69, e69, hf⟩ := zb hf
    refine zr_gi (ci := 8) (k := 5) (C := RX8) (T := TX8) (N := 7) hx hb hts hi_X8_removeException_8 hown hK hP e69 rfl rfl (by decide) (by decide) (hts (.fieldLink RX8 131 "BoundaryAnalyzer" "exceptionCount" "I") (List.mem_of_getElem? (i := 3) rfl)) dX8_removeException_69 ?_
    exact zret_i hx hb hr hlocks hf hP hS dX8_removeException_72
  · have hf := (if_pos c20).symm.trans hf
    refine lv_bipush (v := (-5 : Int32)) hx hb dX8_removeException_23 (by decide) ?_
    exact zret_i hx hb hr hlocks hf hP hS dX8_removeException_25
