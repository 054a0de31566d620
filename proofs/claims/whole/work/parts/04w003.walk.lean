theorem hi_X4_putIn_4 : ∀ w ∈ wsX40, w ∈ wsX4_putIn := fun _ h => List.mem_cons_of_mem _ (List.mem_append_right _ h)
set_option maxHeartbeats 4000000 in
set_option maxRecDepth 100000 in
theorem k_X4_putIn (l : Launch) (D : va_G) (cy : Nat → ClassId) (b : Nat) (M0 : Mem) (p0 : Nat) (p1 : Int32) (p2 : Nat) (rr : Mem) (hf : fX4_putIn M0 p0 p1 p2 = some rr) : Met l yX4_putIn wsX4_putIn ({ frames := 1, cells := 0, slots := 0, locals := 40 } : Room) (zPc D cy b M0 [.ref (b + p0), .int p1, .ref (b + p2)]) (zQv D cy b rr) 0 0 (zA b) := by
  refine Met.ofW (cc := cX4_putIn) (maxL := 4) (ret := none) (by decide) rfl ?_
  intro p e s m args below meth c s₁ B hml hv
  obtain ⟨rfl, hP, hK⟩ := hv
  have hx := B.exec
  have hb := B.bytes
  have hr := B.returns
  have hts := atoms_spec (ws := wsX4_putIn) B.pre
  have hown : s.vm.findClass RX4 = some m.cls := findClass_of_methodNamed B.named
  have hlocks := B.notSynchronized
  have hS : va_S (zA b) s.heap s.heap [] := va_S.rf
  have hl := lv_entry ([.ref (b + p0), .int p1, .ref (b + p2)]) (n := 4) (Nat.le_of_ble_eq_true rfl)
  rw [lg_entry_eq]
  generalize (lg_sl ([.ref (b + p0), .int p1, .ref (b + p2)]) ++ List.replicate (4 - (lg_sl ([.ref (b + p0), .int p1, .ref (b + p2)])).length) Slot.unset).toArray = ls at hl ⊢
  have hl : lv_has ls 4 [(0, .ref (b + p0)), (1, .int p1), (2, .ref (b + p2))] := hl
  unfold fX4_putIn at hf
  refine lv_aload_n hx hb dX4_putIn_0 rfl (lv_at hl 2 rfl) ?_
  obtain ⟨v1, e1, hf⟩ := zb hf
  refine zr_gi (ci := 4) (k := 1) (C := RX4) (T := TX4) (N := 2) hx hb hts hi_X4_putIn_4 hown hK hP e1 rfl rfl (by decide) (by decide) (hts (.fieldLink RX4 19 "BoundaryAnalyzer$Row" "size" "I") (List.mem_of_getElem? (i := 1) rfl)) dX4_putIn_1 ?_
  refine lv_istore_n (lv' := [(3, .int v1), (0, .ref (b + p0)), (1, .int p1), (2, .ref (b + p2))]) hx hb dX4_putIn_4 rfl hl (by decide) rfl (fun ls hl => ?_)
  refine lv_iload_n hx hb dX4_putIn_5 rfl (lv_at hl 2 rfl) ?_
  refine lv_if_lt (tgt := 31) hx hb dX4_putIn_6 (by decide) (fun c6 => ?_) (fun c6 => ?_)
  · have hf := (if_pos c6).symm.trans hf
    exact zret_v hx hb hr hlocks hf hP hS dX4_putIn_31
  · have hf := (if_neg c6).symm.trans hf
    refine lv_iload_n hx hb dX4_putIn_9 rfl (lv_at hl 2 rfl) ?_
    refine lv_aload_n hx hb dX4_putIn_10 rfl (lv_at hl 1 rfl) ?_
    obtain ⟨v11, e11, hf⟩ := zb hf
    refine zr_gi (ci := 4) (k := 1) (C := RX4) (T := TX4) (N := 2) hx hb hts hi_X4_putIn_4 hown hK hP e11 rfl rfl (by decide) (by decide) (hts (.fieldLink RX4 19 "BoundaryAnalyzer$Row" "size" "I") (List.mem_of_getElem? (i := 1) rfl)) dX4_putIn_11 ?_
    refine lv_icmp_gt (tgt := 31) hx hb dX4_putIn_14 (by decide) (fun c14 => ?_) (fun c14 => ?_)
    · have hf := (if_pos c14).symm.trans hf
      exact zret_v hx hb hr hlocks hf hP hS dX4_putIn_31
    · have hf := (if_neg c14).symm.trans hf
      refine lv_iload_n hx hb dX4_putIn_17 rfl (lv_at hl 0 rfl) ?_
      refine lv_aload_n hx hb dX4_putIn_18 rfl (lv_at hl 1 rfl) ?_
      obtain ⟨v19, e19, hf⟩ := zb hf
      refine zr_gr (ci := 4) (k := 0) (C := RX4) (T := TX4) (N := 2) hx hb hts hi_X4_putIn_4 hown hK hP e19 rfl rfl (by decide) (by decide) (hts (.fieldLink RX4 13 "BoundaryAnalyzer$Row" "signs" "[C") (List.mem_of_getElem? (i := 2) rfl)) dX4_putIn_19 ?_
      obtain ⟨v22, e22, hf⟩ := zb hf
      refine zr_al (t0 := 0) hx hb hK hP e22 (by decide) rfl dX4_putIn_22 ?_
      refine lv_aload_n hx hb dX4_putIn_23 rfl (lv_at hl 1 rfl) ?_
      obtain ⟨v24, e24, hf⟩ := zb hf
      refine zr_gi (ci := 4) (k := 1) (C := RX4) (T := TX4) (N := 2) hx hb hts hi_X4_putIn_4 hown hK hP e24 rfl rfl (by decide) (by decide) (hts (.fieldLink RX4 19 "BoundaryAnalyzer$Row" "size" "I") (List.mem_of_getElem? (i := 1) rfl)) dX4_putIn_24 ?_
      refine lv_isub hx hb dX4_putIn_27 ?_
      refine lv_icmp_le (tgt := 32) hx hb dX4_putIn_28 (by decide) (fun c28 => ?_) (fun c28 => ?_)
      · have hf := (if_pos c28).symm.trans hf
        refine lv_aload_n hx hb dX4_putIn_32 rfl (lv_at hl 1 rfl) ?_
        obtain ⟨v33, e33, hf⟩ := zb hf
        refine zr_gr (ci := 4) (k := 0) (C := RX4) (T := TX4) (N := 2) hx hb hts hi_X4_putIn_4 hown hK hP e33 rfl rfl (by decide) (by decide) (hts (.fieldLink RX4 13 "BoundaryAnalyzer$Row" "signs" "[C") (List.mem_of_getElem? (i := 2) rfl)) dX4_putIn_33 ?_
        refine lv_iload_n hx hb dX4_putIn_36 rfl (lv_at hl 2 rfl) ?_
        refine lv_aload_n hx hb dX4_putIn_37 rfl (lv_at hl 1 rfl) ?_
        obtain ⟨v38, e38, hf⟩ := zb hf
        refine zr_gr (ci := 4) (k := 0) (C := RX4) (T := TX4) (N := 2) hx hb hts hi_X4_putIn_4 hown hK hP e38 rfl rfl (by decide) (by decide) (hts (.fieldLink RX4 13 "BoundaryAnalyzer$Row" "signs" "[C") (List.mem_of_getElem? (i := 2) rfl)) dX4_putIn_38 ?_
        refine lv_iload_n hx hb dX4_putIn_41 rfl (lv_at hl 2 rfl) ?_
        refine lv_iload_n hx hb dX4_putIn_42 rfl (lv_at hl 0 rfl) ?_
        refine lv_iadd hx hb dX4_putIn_43 ?_
        refine lv_aload_n hx hb dX4_putIn_44 rfl (lv_at hl 1 rfl) ?_
        obtain ⟨v45, e45, hf⟩ := zb hf
        refine zr_gi (ci := 4) (k := 1) (C := RX4) (T := TX4) (N := 2) hx hb hts hi_X4_putIn_4 hown hK hP e45 rfl rfl (by decide) (by decide) (hts (.fieldLink RX4 19 "BoundaryAnalyzer$Row" "size" "I") (List.mem_of_getElem? (i := 1) rfl)) dX4_putIn_45 ?_
        refine lv_iload_n hx hb dX4_putIn_48 rfl (lv_at hl 2 rfl) ?_
        refine lv_isub hx hb dX4_putIn_49 ?_
        obtain ⟨M50, e50, hf⟩ := zb hf
        refine zr_cp (t0 := 0) hx hb (by rw [hml]; exact hl.1.symm) hown (hts (.methodLink RX4 31 arraycopyName) (List.mem_of_getElem? (i := 3) rfl)) (hts (.native arraycopyName) (List.mem_of_getElem? (i := 4) rfl)) (hts (.static arraycopyName) (List.mem_of_getElem? (i := 5) rfl)) (hts (.initialized "java/lang/System") (List.mem_of_getElem? (i := 6) rfl)) hK hP hS e50 rfl (Or.inl ⟨rfl, rfl⟩) (Nat.le_of_ble_eq_true rfl) (Nat.le_of_ble_eq_true rfl) dX4_putIn_50 (fun H locs hP hS => ?_)
        refine lv_aload_n hx hb dX4_putIn_53 rfl (lv_at hl 3 rfl) ?_
        obtain ⟨v54, e54, hf⟩ := zb hf
        refine zr_gr (ci := 4) (k := 0) (C := RX4) (T := TX4) (N := 2) hx hb hts hi_X4_putIn_4 hown hK hP e54 rfl rfl (by decide) (by decide) (hts (.fieldLink RX4 13 "BoundaryAnalyzer$Row" "signs" "[C") (List.mem_of_getElem? (i := 2) rfl)) dX4_putIn_54 ?_
        refine lv_iconst (v := (0 : Int32)) hx hb dX4_putIn_57 (by decide) ?_
        refine lv_aload_n hx hb dX4_putIn_58 rfl (lv_at hl 1 rfl) ?_
        obtain ⟨v59, e59, hf⟩ := zb hf
        refine zr_gr (ci := 4) (k := 0) (C := RX4) (T := TX4) (N := 2) hx hb hts hi_X4_putIn_4 hown hK hP e59 rfl rfl (by decide) (by decide) (hts (.fieldLink RX4 13 "BoundaryAnalyzer$Row" "signs" "[C") (List.mem_of_getElem? (i := 2) rfl)) dX4_putIn_59 ?_
        refine lv_iload_n hx hb dX4_putIn_62 rfl (lv_at hl 2 rfl) ?_
        refine lv_iload_n hx hb dX4_putIn_63 rfl (lv_at hl 0 rfl) ?_
        obtain ⟨M64, e64, hf⟩ := zb hf
        refine zr_cp (t0 := 0) hx hb (by rw [hml]; exact hl.1.symm) hown (hts (.methodLink RX4 31 arraycopyName) (List.mem_of_getElem? (i := 3) rfl)) (hts (.native arraycopyName) (List.mem_of_getElem? (i := 4) rfl)) (hts (.static arraycopyName) (List.mem_of_getElem? (i := 5) rfl)) (hts (.initialized "java/lang/System") (List.mem_of_getElem? (i := 6) rfl)) hK hP hS e64 rfl (Or.inl ⟨rfl, rfl⟩) (Nat.le_of_ble_eq_true rfl) (Nat.le_of_ble_eq_true rfl) dX4_putIn_64 (fun H locs hP hS => ?_)
        refine lv_aload_n hx hb dX4_putIn_67 rfl (lv_at hl 1 rfl) ?_
        refine lv_dup hx hb dX4_putIn_68 rfl ?_
        obtain ⟨v69, e69, hf⟩ := zb hf
        refine zr_gi (ci := 4) (k := 1) (C := RX4) (T := TX4) (N := 2) hx hb hts hi_X4_putIn_4 hown hK hP e69 rfl rfl (by decide) (by decide) (hts (.fieldLink RX4 19 "BoundaryAnalyzer$Row" "size" "I") (List.mem_of_getElem? (i := 1) rfl)) dX4_putIn_69 ?_
        refine lv_iload_n hx hb dX4_putIn_72 rfl (lv_at hl 0 rfl) ?_
        refine lv_iadd hx hb dX4_putIn_73 ?_
        obtain ⟨M74, e74, hf⟩ := zb hf
        refine zr_pi (ci := 4) (k := 1) (C := RX4) (T := TX4) (N := 2) hx hb hts hi_X4_putIn_4 tyX4 tyX4_ok nmX4 hown hK hP hS e74 rfl rfl (by decide) (by decide) (hts (.fieldLink RX4 19 "BoundaryAnalyzer$Row" "size" "I") (List.mem_of_getElem? (i := 1) rfl)) rfl (tyX4_ok 1 (by decide)) dX4_putIn_74 (fun H locs hP _ hS => ?_)
        exact zret_v hx hb hr hlocks hf hP hS dX4_putIn_77
      · have hf := (if_neg c28).symm.trans hf
        exact zret_v hx hb hr hlocks hf hP hS dX4_putIn_31
theorem hi_X4_takeOut_4 : ∀ w ∈ wsX40, w ∈ wsX4_takeOut := fun _ h => List.mem_cons_of_mem _ (List.mem_append_right _ h)
set_option maxHeartbeats 4000000 in
set_option maxRecDepth 100000 in
theorem k_X4_takeOut (l : Launch) (D : va_G) (cy : Nat → ClassId) (b : Nat) (M0 : Mem) (p0 : Nat) (p1 : Int32) (p2 : Int32) (rr : Mem) (hf : fX4_takeOut M0 p0 p1 p2 = some rr) : Met l yX4_takeOut wsX4_takeOut ({ frames := 1, cells := 0, slots := 0, locals := 40 } : Room) (zPc D cy b M0 [.ref (b + p0), .int p1, .int p2]) (zQv D cy b rr) 0 0 (zA b) := by
  refine Met.ofW (cc := cX4_takeOut) (maxL := 3) (ret := none) (by decide) rfl ?_
  intro p e s m args below meth c s₁ B hml hv
  obtain ⟨rfl, hP, hK⟩ := hv
  have hx := B.exec
  have hb := B.bytes
  have hr := B.returns
  have hts := atoms_spec (ws := wsX4_takeOut) B.pre
  have hown : s.vm.findClass RX4 = some m.cls := findClass_of_methodNamed B.named
  have hlocks := B.notSynchronized
  have hS : va_S (zA b) s.heap s.heap [] := va_S.rf
  have hl := lv_entry ([.ref (b + p0), .int p1, .int p2]) (n := 3) (Nat.le_of_ble_eq_true rfl)
  rw [lg_entry_eq]
  generalize (lg_sl ([.ref (b + p0), .int p1, .int p2]) ++ List.replicate (3 - (lg_sl ([.ref (b + p0), .int p1, .int p2])).length) Slot.unset).toArray = ls at hl ⊢
  have hl : lv_has ls 3 [(0, .ref (b + p0)), (1, .int p1), (2, .int p2)] := hl
  unfold fX4_takeOut at hf
  refine lv_iload_n hx hb dX4_takeOut_0 rfl (lv_at hl 1 rfl) ?_
  refine lv_if_lt (tgt := 18) hx hb dX4_takeOut_1 (by decide) (fun c1 => ?_) (fun c1 => ?_)
  · have hf := (if_pos c1).symm.trans hf
    exact zret_v hx hb hr hlocks hf hP hS dX4_takeOut_18
  · have hf := (if_neg c1).symm.trans hf
    refine lv_iload_n hx hb dX4_takeOut_4 rfl (lv_at hl 2 rfl) ?_
    refine lv_if_lt (tgt := 18) hx hb dX4_takeOut_5 (by decide) (fun c5 => ?_) (fun c5 => ?_)
    · have hf := (if_pos c5).symm.trans hf
      exact zret_v hx hb hr hlocks hf hP hS dX4_takeOut_18
    · have hf := (if_neg c5).symm.trans hf
      refine lv_iload_n hx hb dX4_takeOut_8 rfl (lv_at hl 2 rfl) ?_
      refine lv_aload_n hx hb dX4_takeOut_9 rfl (lv_at hl 0 rfl) ?_
      obtain ⟨v10, e10, hf⟩ := zb hf
      refine zr_gi (ci := 4) (k := 1) (C := RX4) (T := TX4) (N := 2) hx hb hts hi_X4_takeOut_4 hown hK hP e10 rfl rfl (by decide) (by decide) (hts (.fieldLink RX4 19 "BoundaryAnalyzer$Row" "size" "I") (List.mem_of_getElem? (i := 1) rfl)) dX4_takeOut_10 ?_
      refine lv_iload_n hx hb dX4_takeOut_13 rfl (lv_at hl 1 rfl) ?_
      refine lv_isub hx hb dX4_takeOut_14 ?_
      refine lv_icmp_le (tgt := 19) hx hb dX4_takeOut_15 (by decide) (fun c15 => ?_) (fun c15 => ?_)
      · have hf := (if_pos c15).symm.trans hf
        refine lv_aload_n hx hb dX4_takeOut_19 rfl (lv_at hl 0 rfl) ?_
        obtain ⟨v20, e20, hf⟩ := zb hf
        refine zr_gr (ci := 4) (k := 0) (C := RX4) (T := TX4) (N := 2) hx hb hts hi_X4_takeOut_4 hown hK hP e20 rfl rfl (by decide) (by decide) (hts (.fieldLink RX4 13 "BoundaryAnalyzer$Row" "signs" "[C") (List.mem_of_getElem? (i := 2) rfl)) dX4_takeOut_20 ?_
        refine lv_iload_n hx hb dX4_takeOut_23 rfl (lv_at hl 1 rfl) ?_
        refine lv_iload_n hx hb dX4_takeOut_24 rfl (lv_at hl 2 rfl) ?_
        refine lv_iadd hx hb dX4_takeOut_25 ?_
        refine lv_aload_n hx hb dX4_takeOut_26 rfl (lv_at hl 0 rfl) ?_
        obtain ⟨v27, e27, hf⟩ := zb hf
        refine zr_gr (ci := 4) (k := 0) (C := RX4) (T := TX4) (N := 2) hx hb hts hi_X4_takeOut_4 hown hK hP e27 rfl rfl (by decide) (by decide) (hts (.fieldLink RX4 13 "BoundaryAnalyzer$Row" "signs" "[C") (List.mem_of_getElem? (i := 2) rfl)) dX4_takeOut_27 ?_
        refine lv_iload_n hx hb dX4_takeOut_30 rfl (lv_at hl 1 rfl) ?_
        refine lv_aload_n hx hb dX4_takeOut_31 rfl (lv_at hl 0 rfl) ?_
        obtain ⟨v32, e32, hf⟩ := zb hf
        refine zr_gi (ci := 4) (k := 1) (C := RX4) (T := TX4) (N := 2) hx hb hts hi_X4_takeOut_4 hown hK hP e32 rfl rfl (by decide) (by decide) (hts (.fieldLink RX4 19 "BoundaryAnalyzer$Row" "size" "I") (List.mem_of_getElem? (i := 1) rfl)) dX4_takeOut_32 ?_
        refine lv_iload_n hx hb dX4_takeOut_35 rfl (lv_at hl 1 rfl) ?_
        refine lv_isub hx hb dX4_takeOut_36 ?_
        refine lv_iload_n hx hb dX4_takeOut_37 rfl (lv_at hl 2 rfl) ?_
        refine lv_isub hx hb dX4_takeOut_38 ?_
        obtain ⟨M39, e39, hf⟩ := zb hf
        refine zr_cp (t0 := 0) hx hb (by rw [hml]; exact hl.1.symm) hown (hts (.methodLink RX4 31 arraycopyName) (List.mem_of_getElem? (i := 3) rfl)) (hts (.native arraycopyName) (List.mem_of_getElem? (i := 4) rfl)) (hts (.static arraycopyName) (List.mem_of_getElem? (i := 5) rfl)) (hts (.initialized "java/lang/System") (List.mem_of_getElem? (i := 6) rfl)) hK hP hS e39 rfl (Or.inl ⟨rfl, rfl⟩) (Nat.le_of_ble_eq_true rfl) (Nat.le_of_ble_eq_true rfl) dX4_takeOut_39 (fun H locs hP hS => ?_)
        refine lv_aload_n hx hb dX4_takeOut_42 rfl (lv_at hl 0 rfl) ?_
        refine lv_dup hx hb dX4_takeOut_43 rfl ?_
        obtain ⟨v44, e44, hf⟩ := zb hf
        refine zr_gi (ci := 4) (k := 1) (C := RX4) (T := TX4) (N := 2) hx hb hts hi_X4_takeOut_4 hown hK hP e44 rfl rfl (by decide) (by decide) (hts (.fieldLink RX4 19 "BoundaryAnalyzer$Row" "size" "I") (List.mem_of_getElem? (i := 1) rfl)) dX4_takeOut_44 ?_
        refine lv_iload_n hx hb dX4_takeOut_47 rfl (lv_at hl 2 rfl) ?_
        refine lv_isub hx hb dX4_takeOut_48 ?_
        obtain ⟨M49, e49, hf⟩ := zb hf
        refine zr_pi (ci := 4) (k := 1) (C := RX4) (T := TX4) (N := 2) hx hb hts hi_X4_takeOut_4 tyX4 tyX4_ok nmX4 hown hK hP hS e49 rfl rfl (by decide) (by decide) (hts (.fieldLink RX4 19 "BoundaryAnalyzer$Row" "size" "I") (List.mem_of_getElem? (i := 1) rfl)) rfl (tyX4_ok 1 (by decide)) dX4_takeOut_49 (fun H locs hP _ hS => ?_)
        exact zret_v hx hb hr hlocks hf hP hS dX4_takeOut_52
      · have hf := (if_neg c15).symm.trans hf
        exact zret_v hx hb hr hlocks hf hP hS dX4_takeOut_18
