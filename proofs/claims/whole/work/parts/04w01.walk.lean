theorem hi_X4_putIn_4 : ∀ w ∈ wsX40, w ∈ wsX4_putIn := fun _ h => List.mem_cons_of_mem _ (List.mem_append_right _ h)
set_option maxHeartbeats 4000000 in
set_option maxRecDepth 100000 in
theorem k_X4_putIn (l : Launch) (D : va_G) (cy : Nat → ClassId) (b : Nat) (M0 : Mem) (h0 : Nat) (x1 : Int32) (h2 : Nat) (rr : Mem) (hf : fX4_putIn M0 h0 x1 h2 = some rr) : Met l yX4_putIn wsX4_putIn ({ frames := 1, cells := 0, slots := 0, locals := 40 } : Room) (zPc D cy b M0 [.ref (b + h0), .int x1, .ref (b + h2)]) (zQv D cy b rr) 0 0 (zA b) := by
  refine Met.ofW (cc := cX4_putIn) (maxL := 4) (ret := none) (by decide) rfl ?_
  intro p e s m args below meth c s₁ B hml hv
  obtain ⟨rfl, hP, hK⟩ := hv
  have hx := B.exec
  have hb := B.bytes
  have hr := B.returns
  have hts := atoms_spec (ws := wsX4_putIn) B.pre
  have hown : s.vm.findClass RX4 = some m.cls := findClass_of_methodNamed B.named
  have hlocks := B.notSynchronized
  have hS : va_S (zA b) s.heap s.heap [] := va_S.rf
  have hl := lv_entry ([.ref (b + h0), .int x1, .ref (b + h2)]) (n := 4) (Nat.le_of_ble_eq_true rfl)
  rw [lg_entry_eq]
  generalize (lg_sl ([.ref (b + h0), .int x1, .ref (b + h2)]) ++ List.replicate (4 - (lg_sl ([.ref (b + h0), .int x1, .ref (b + h2)])).length) Slot.unset).toArray = ls at hl ⊢
  have hl : lv_has ls 4 [(0, .ref (b + h0)), (1, .int x1), (2, .ref (b + h2))] := hl
  unfold fX4_putIn at hf
  refine lv_aload_n hx hb dX4_putIn_0 rfl (lv_at hl 2 rfl) ?_
  obtain ⟨v1, e1, hf⟩ := zb hf
  refine zr_gi (ci := 4) (k := 1) (C := RX4) (T := TX4) (N := 2) hx hb hts hi_X4_putIn_4 hown hK hP e1 rfl rfl (by decide) (by decide) (hts (.fieldLink RX4 19 "BoundaryAnalyzer$Row" "size" "I") (List.mem_of_getElem? (i := 1) rfl)) dX4_putIn_1 ?_
  refine lv_istore_n (lv' := [(3, .int v1), (0, .ref (b + h0)), (1, .int x1), (2, .ref (b + h2))]) hx hb dX4_putIn_4 rfl hl (by decide) rfl (fun ls hl => ?_)
  refine lv_iload_n hx hb dX4_putIn_5 rfl (lv_at hl 2 rfl) ?_
  refine lv_if_lt (tgt := 31) hx hb dX4_putIn_6 (by decide) (fun c6 => ?_) (fun c6 => ?_)
  · have hf := (if_pos c6).symm.trans hf
    exact zret_v hx hb hr hlocks hf hP hS dX4_putIn_31
  · have hf := (if_neg c6).symm.trans hf
    refine lv_iload_n hx hb dX4_putIn_9 rfl (lv_at hl 2 rfl) ?_
    refine lv_aload_n hx hb dX4_putIn_10 rfl (lv_at hl 1 rfl) ?_
    obtain ⟨v11, e11, hf⟩ := zb hf
    refine zr_gi (ci := 4) (k := 1) (C := RX4) (T := TX4) (N := 2) hx hb hts hi_X4_putIn_4 hown hK hP e11 rfl rfl (by decide) (by decide) (hts (.fieldLink RX4 19 "BoundaryAnalyzer$Row" "size" "I") (List.mem_of_getElem? (i := 1) rfl)) dX4_putIn_11 ?_
    refine lv_icmp_gt (tgt := 31) hx hb dX4_putIn_14 (by decide) (fun c14 => ?_) (fun c14 => ?_)
    · have hf := (if_pos c14).symm.trans hf
      exact zret_v hx hb hr hlocks hf hP hS dX4_putIn_31
    · have hf := (if_neg c14).symm.trans hf
      refine lv_iload_n hx hb dX4_putIn_17 rfl (lv_at hl 0 rfl) ?_
      refine lv_aload_n hx hb dX4_putIn_18 rfl (lv_at hl 1 rfl) ?_
      obtain ⟨v19, e19, hf⟩ := zb hf
      refine zr_gr (ci := 4) (k := 0) (C := RX4) (T := TX4) (N := 2) hx hb hts hi_X4_putIn_4 hown hK hP e19 rfl rfl (by decide) (by decide) (hts (.fieldLink RX4 13 "BoundaryAnalyzer$Row" "signs" "[C") (List.mem_of_getElem? (i := 2) rfl)) dX4_putIn_19 ?_
      obtain ⟨v22, e22, hf⟩ := zb hf
      refine zr_al (t0 := 0) hx hb hK hP e22 (by decide) rfl dX4_putIn_22 ?_
      refine lv_aload_n hx hb dX4_putIn_23 rfl (lv_at hl 1 rfl) ?_
      obtain ⟨v24, e24, hf⟩ := zb hf
      refine zr_gi (ci := 4) (k := 1) (C := RX4) (T := TX4) (N := 2) hx hb hts hi_X4_putIn_4 hown hK hP e24 rfl rfl (by decide) (by decide) (hts (.fieldLink RX4 19 "BoundaryAnalyzer$Row" "size" "I") (List.mem_of_getElem? (i := 1) rfl)) dX4_putIn_24 ?_
      refine lv_isub hx hb dX4_putIn_27 ?_
      refine lv_icmp_le (tgt := 32) hx hb dX4_putIn_28 (by decide) (fun c28 => ?_) (fun c28 => ?_)
      · have hf := (if_pos c28).symm.trans hf
        refine lv_aload_n hx hb dX4_putIn_32 rfl (lv_at hl 1 rfl) ?_
        obtain ⟨v33, e33, hf⟩ := zb hf
        refine zr_gr (ci := 4) (k := 0) (C := RX4) (T := TX4) (N := 2) hx hb hts hi_X4_putIn_4 hown hK hP e33 rfl rfl (by decide) (by decide) (hts (.fieldLink RX4 13 "BoundaryAnalyzer$Row" "signs" "[C") (List.mem_of_getElem? (i := 2) rfl)) dX4_putIn_33 ?_
        refine lv_iload_n hx hb dX4_putIn_36 rfl (lv_at hl 2 rfl) ?_
        refine lv_aload_n hx hb dX4_putIn_37 rfl (lv_at hl 1 rfl) ?_
        obtain ⟨v38, e38, hf⟩ := zb hf
        refine zr_gr (ci := 4) (k := 0) (C := RX4) (T := TX4) (N := 2) hx hb hts hi_X4_putIn_4 hown hK hP e38 rfl rfl (by decide) (by decide) (hts (.fieldLink RX4 13 "BoundaryAnalyzer$Row" "signs" "[C") (List.mem_of_getElem? (i := 2) rfl)) dX4_putIn_38 ?_
        refine lv_iload_n hx hb dX4_putIn_41 rfl (lv_at hl 2 rfl) ?_
        refine lv_iload_n hx hb dX4_putIn_42 rfl (lv_at hl 0 rfl) ?_
        refine lv_iadd hx hb dX4_putIn_43 ?_
        refine lv_aload_n hx hb dX4_putIn_44 rfl (lv_at hl 1 rfl) ?_
        obtain ⟨v45, e45, hf⟩ := zb hf
        refine zr_gi (ci := 4) (k := 1) (C := RX4) (T := TX4) (N := 2) hx hb hts hi_X4_putIn_4 hown hK hP e45 rfl rfl (by decide) (by decide) (hts (.fieldLink RX4 19 "BoundaryAnalyzer$Row" "size" "I") (List.mem_of_getElem? (i := 1) rfl)) dX4_putIn_45 ?_
        refine lv_iload_n hx hb dX4_putIn_48 rfl (lv_at hl 2 rfl) ?_
        refine lv_isub hx hb dX4_putIn_49 ?_
        obtain ⟨M50, e50, hf⟩ := zb hf
        refine zr_cp (t0 := 0) hx hb (by rw [hml]; exact hl.1.symm) hown (hts (.methodLink RX4 31 arraycopyName) (List.mem_of_getElem? (i := 3) rfl)) (hts (.native arraycopyName) (List.mem_of_getElem? (i := 4) rfl)) (hts (.static arraycopyName) (List.mem_of_getElem? (i := 5) rfl)) (hts (.initialized "java/lang/System") (List.mem_of_getElem? (i := 6) rfl)) hK hP hS e50 rfl (Or.inl ⟨rfl, rfl⟩) (Nat.le_of_ble_eq_true rfl) (Nat.le_of_ble_eq_true rfl) dX4_putIn_50 (fun H locs hP hS => ?_)
        refine lv_aload_n hx hb dX4_putIn_53 rfl (lv_at hl 3 rfl) ?_
        obtain ⟨v54, e54, hf⟩ := zb hf
        refine zr_gr (ci := 4) (k := 0) (C := RX4) (T := TX4) (N := 2) hx hb hts hi_X4_putIn_4 hown hK hP e54 rfl rfl (by decide) (by decide) (hts (.fieldLink RX4 13 "BoundaryAnalyzer$Row" "signs" "[C") (List.mem_of_getElem? (i := 2) rfl)) dX4_putIn_54 ?_
        refine lv_iconst (v := (0 : Int32)) hx hb dX4_putIn_57 (by decide) ?_
        refine lv_aload_n hx hb dX4_putIn_58 rfl (lv_at hl 1 rfl) ?_
        obtain ⟨v59, e59, hf⟩ := zb hf
        refine zr_gr (ci := 4) (k := 0) (C := RX4) (T := TX4) (N := 2) hx hb hts hi_X4_putIn_4 hown hK hP e59 rfl rfl (by decide) (by decide) (hts (.fieldLink RX4 13 "BoundaryAnalyzer$Row" "signs" "[C") (List.mem_of_getElem? (i := 2) rfl)) dX4_putIn_59 ?_
        refine lv_iload_n hx hb dX4_putIn_62 rfl (lv_at hl 2 rfl) ?_
        refine lv_iload_n hx hb dX4_putIn_63 rfl (lv_at hl 0 rfl) ?_
        obtain ⟨M64, e64, hf⟩ := zb hf
        refine zr_cp (t0 := 0) hx hb (by rw [hml]; exact hl.1.symm) hown (hts (.methodLink RX4 31 arraycopyName) (List.mem_of_getElem? (i := 3) rfl)) (hts (.native arraycopyName) (List.mem_of_getElem? (i := 4) rfl)) (hts (.static arraycopyName) (List.mem_of_getElem? (i := 5) rfl)) (hts (.initialized "java/lang/System") (List.mem_of_getElem? (i := 6) rfl)) hK hP hS e64 rfl (Or.inl ⟨rfl, rfl⟩) (Nat.le_of_ble_eq_true rfl) (Nat.le_of_ble_eq_true rfl) dX4_putIn_64 (fun H locs hP hS => ?_)
        refine lv_aload_n hx hb dX4_putIn_67 rfl (lv_at hl 1 rfl) ?_
        refine lv_dup hx hb dX4_putIn_68 rfl ?_
        obtain ⟨v69, e69, hf⟩ := zb hf
        refine zr_gi (ci := 4) (k := 1) (C := RX4) (T := TX4) (N := 2) hx hb hts hi_X4_putIn_4 hown hK hP e69 rfl rfl (by decide) (by decide) (hts (.fieldLink RX4 19 "BoundaryAnalyzer$Row" "size" "I") (List.mem_of_getElem? (i := 1) rfl)) dX4_putIn_69 ?_
        refine lv_iload_n hx hb dX4_putIn_72 rfl (lv_at hl 0 rfl) ?_
        refine lv_iadd hx hb dX4_putIn_73 ?_
        obtain ⟨M74, e74, hf⟩ := zb hf
        refine zr_pi (ci := 4) (k := 1) (C := RX4) (T := TX4) (N := 2) hx hb hts hi_X4_putIn_4 tyX4 tyX4_ok nmX4 hown hK hP hS e74 rfl rfl (by decide) (by decide) (hts (.fieldLink RX4 19 "BoundaryAnalyzer$Row" "size" "I") (List.mem_of_getElem? (i := 1) rfl)) rfl (tyX4_ok 1 (by decide)) dX4_putIn_74 (fun H locs hP _ hS => ?_)
        exact zret_v hx hb hr hlocks hf hP hS dX4_putIn_77
      · have hf := (if_neg c28).symm.trans hf
        exact zret_v hx hb hr hlocks hf hP hS dX4_putIn_31
theorem hi_X4_takeOut_4 : ∀ w ∈ wsX40, w ∈ wsX4_takeOut := fun _ h => List.mem_cons_of_mem _ (List.mem_append_right _ h)
set_option maxHeartbeats 4000000 in
set_option maxRecDepth 100000 in
theorem k_X4_takeOut (l : Launch) (D : va_G) (cy : Nat → ClassId) (b : Nat) (M0 : Mem) (h0 : Nat) (x1 : Int32) (x2 : Int32) (rr : Mem) (hf : fX4_takeOut M0 h0 x1 x2 = some rr) : Met l yX4_takeOut wsX4_takeOut ({ frames := 1, cells := 0, slots := 0, locals := 40 } : Room) (zPc D cy b M0 [.ref (b + h0), .int x1, .int x2]) (zQv D cy b rr) 0 0 (zA b) := by
  refine Met.ofW (cc := cX4_takeOut) (maxL := 3) (ret := none) (by decide) rfl ?_
  intro p e s m args below meth c s₁ B hml hv
  obtain ⟨rfl, hP, hK⟩ := hv
  have hx := B.exec
  have hb := B.bytes
  have hr := B.returns
  have hts := atoms_spec (ws := wsX4_takeOut) B.pre
  have hown : s.vm.findClass RX4 = some m.cls := findClass_of_methodNamed B.named
  have hlocks := B.notSynchronized
  have hS : va_S (zA b) s.heap s.heap [] := va_S.rf
  have hl := lv_entry ([.ref (b + h0), .int x1, .int x2]) (n := 3) (Nat.le_of_ble_eq_true rfl)
  rw [lg_entry_eq]
  generalize (lg_sl ([.ref (b + h0), .int x1, .int x2]) ++ List.replicate (3 - (lg_sl ([.ref (b + h0), .int x1, .int x2])).length) Slot.unset).toArray = ls at hl ⊢
  have hl : lv_has ls 3 [(0, .ref (b + h0)), (1, .int x1), (2, .int x2)] := hl
  unfold fX4_takeOut at hf
  refine lv_iload_n hx hb dX4_takeOut_0 rfl (lv_at hl 1 rfl) ?_
  refine lv_if_lt (tgt := 18) hx hb dX4_takeOut_1 (by decide) (fun c1 => ?_) (fun c1 => ?_)
  · have hf := (if_pos c1).symm.trans hf
    exact zret_v hx hb hr hlocks hf hP hS dX4_takeOut_18
  · have hf := (if_neg c1).symm.trans hf
    refine lv_iload_n hx hb dX4_takeOut_4 rfl (lv_at hl 2 rfl) ?_
    refine lv_if_lt (tgt := 18) hx hb dX4_takeOut_5 (by decide) (fun c5 => ?_) (fun c5 => ?_)
    · have hf := (if_pos c5).symm.trans hf
      exact zret_v hx hb hr hlocks hf hP hS dX4_takeOut_18
    · have hf := (if_neg c5).symm.trans hf
      refine lv_iload_n hx hb dX4_takeOut_8 rfl (lv_at hl 2 rfl) ?_
      refine lv_aload_n hx hb dX4_takeOut_9 rfl (lv_at hl 0 rfl) ?_
      obtain ⟨v10, e10, hf⟩ := zb hf
      refine zr_gi (ci := 4) (k := 1) (C := RX4) (T := TX4) (N := 2) hx hb hts hi_X4_takeOut_4 hown hK hP e10 rfl rfl (by decide) (by decide) (hts (.fieldLink RX4 19 "BoundaryAnalyzer$Row" "size" "I") (List.mem_of_getElem? (i := 1) rfl)) dX4_takeOut_10 ?_
      refine lv_iload_n hx hb dX4_takeOut_13 rfl (lv_at hl 1 rfl) ?_
      refine lv_isub hx hb dX4_takeOut_14 ?_
      refine lv_icmp_le (tgt := 19) hx hb dX4_takeOut_15 (by decide) (fun c15 => ?_) (fun c15 => ?_)
      · have hf := (if_pos c15).symm.trans hf
        refine lv_aload_n hx hb dX4_takeOut_19 rfl (lv_at hl 0 rfl) ?_
        obtain ⟨v20, e20, hf⟩ := zb hf
        refine zr_gr (ci := 4) (k := 0) (C := RX4) (T := TX4) (N := 2) hx hb hts hi_X4_takeOut_4 hown hK hP e20 rfl rfl (by decide) (by decide) (hts (.fieldLink RX4 13 "BoundaryAnalyzer$Row" "signs" "[C") (List.mem_of_getElem? (i := 2) rfl)) dX4_takeOut_20 ?_
        refine lv_iload_n hx hb dX4_takeOut_23 rfl (lv_at hl 1 rfl) ?_
        refine lv_iload_n hx hb dX4_takeOut_24 rfl (lv_at hl 2 rfl) ?_
        refine lv_iadd hx hb dX4_takeOut_25 ?_
        refine lv_aload_n hx hb dX4_takeOut_26 rfl (lv_at hl 0 rfl) ?_
        obtain ⟨v27, e27, hf⟩ := zb hf
        refine zr_gr (ci := 4) (k := 0) (C := RX4) (T := TX4) (N := 2) hx hb hts hi_X4_takeOut_4 hown hK hP e27 rfl rfl (by decide) (by decide) (hts (.fieldLink RX4 13 "BoundaryAnalyzer$Row" "signs" "[C") (List.mem_of_getElem? (i := 2) rfl)) dX4_takeOut_27 ?_
        refine lv_iload_n hx hb dX4_takeOut_30 rfl (lv_at hl 1 rfl) ?_
        refine lv_aload_n hx hb dX4_takeOut_31 rfl (lv_at hl 0 rfl) ?_
        obtain ⟨v32, e32, hf⟩ := zb hf
        refine zr_gi (ci := 4) (k := 1) (C := RX4) (T := TX4) (N := 2) hx hb hts hi_X4_takeOut_4 hown hK hP e32 rfl rfl (by decide) (by decide) (hts (.fieldLink RX4 19 "BoundaryAnalyzer$Row" "size" "I") (List.mem_of_getElem? (i := 1) rfl)) dX4_takeOut_32 ?_
        refine lv_iload_n hx hb dX4_takeOut_35 rfl (lv_at hl 1 rfl) ?_
        refine lv_isub hx hb dX4_takeOut_36 ?_
        refine lv_iload_n hx hb dX4_takeOut_37 rfl (lv_at hl 2 rfl) ?_
        refine lv_isub hx hb dX4_takeOut_38 ?_
        obtain ⟨M39, e39, hf⟩ := zb hf
        refine zr_cp (t0 := 0) hx hb (by rw [hml]; exact hl.1.symm) hown (hts (.methodLink RX4 31 arraycopyName) (List.mem_of_getElem? (i := 3) rfl)) (hts (.native arraycopyName) (List.mem_of_getElem? (i := 4) rfl)) (hts (.static arraycopyName) (List.mem_of_getElem? (i := 5) rfl)) (hts (.initialized "java/lang/System") (List.mem_of_getElem? (i := 6) rfl)) hK hP hS e39 rfl (Or.inl ⟨rfl, rfl⟩) (Nat.le_of_ble_eq_true rfl) (Nat.le_of_ble_eq_true rfl) dX4_takeOut_39 (fun H locs hP hS => ?_)
        refine lv_aload_n hx hb dX4_takeOut_42 rfl (lv_at hl 0 rfl) ?_
        refine lv_dup hx hb dX4_takeOut_43 rfl ?_
        obtain ⟨v44, e44, hf⟩ := zb hf
        refine zr_gi (ci := 4) (k := 1) (C := RX4) (T := TX4) (N := 2) hx hb hts hi_X4_takeOut_4 hown hK hP e44 rfl rfl (by decide) (by decide) (hts (.fieldLink RX4 19 "BoundaryAnalyzer$Row" "size" "I") (List.mem_of_getElem? (i := 1) rfl)) dX4_takeOut_44 ?_
        refine lv_iload_n hx hb dX4_takeOut_47 rfl (lv_at hl 2 rfl) ?_
        refine lv_isub hx hb dX4_takeOut_48 ?_
        obtain ⟨M49, e49, hf⟩ := zb hf
        refine zr_pi (ci := 4) (k := 1) (C := RX4) (T := TX4) (N := 2) hx hb hts hi_X4_takeOut_4 tyX4 tyX4_ok nmX4 hown hK hP hS e49 rfl rfl (by decide) (by decide) (hts (.fieldLink RX4 19 "BoundaryAnalyzer$Row" "size" "I") (List.mem_of_getElem? (i := 1) rfl)) rfl (tyX4_ok 1 (by decide)) dX4_takeOut_49 (fun H locs hP _ hS => ?_)
        exact zret_v hx hb hr hlocks hf hP hS dX4_takeOut_52
      · have hf := (if_neg c15).symm.trans hf
        exact zret_v hx hb hr hlocks hf hP hS dX4_takeOut_18
theorem hi_X0_init_0 : ∀ w ∈ wsX00, w ∈ wsX0_init := fun _ h => List.mem_cons_of_mem _ (List.mem_append_right _ h)
theorem hi_X0_init_4 : ∀ w ∈ wsX40, w ∈ wsX0_init := fun _ h => List.mem_cons_of_mem _ (List.mem_append_left _ (List.mem_append_right _ h))
set_option maxHeartbeats 4000000 in
set_option maxRecDepth 100000 in
theorem k_X0_init (l : Launch) (D : va_G) (cy : Nat → ClassId) (b : Nat) (M0 : Mem) (h0 : Nat) (rr : Mem) (hf : fX0_init M0 h0 = some rr) : Met l yX0_init wsX0_init ({ frames := 2, cells := 2, slots := 6000, locals := 61 } : Room) (zPn D cy b M0 [.ref (b + h0)]) (zQn D cy b rr) 2 6000 (zA b) := by
  refine Met.ofW (cc := cX0_init) (maxL := 1) (ret := none) (by decide) rfl ?_
  intro p e s m args below meth c s₁ B hml hv
  obtain ⟨rfl, hP, hK, hz⟩ := hv
  have hx := B.exec
  have hb := B.bytes
  have hr := B.returns
  have hts := atoms_spec (ws := wsX0_init) B.pre
  have hown : s.vm.findClass RX0 = some m.cls := findClass_of_methodNamed B.named
  have hlocks := B.notSynchronized
  have hin : meth.name = "<init>" := (name_of_methodNamed B.named B.method).1
  have hS : va_S (zA b) s.heap s.heap [] := va_S.rf
  have hl := lv_entry ([.ref (b + h0)]) (n := 1) (Nat.le_of_ble_eq_true rfl)
  rw [lg_entry_eq]
  generalize (lg_sl ([.ref (b + h0)]) ++ List.replicate (1 - (lg_sl ([.ref (b + h0)])).length) Slot.unset).toArray = ls at hl ⊢
  have hl : lv_has ls 1 [(0, .ref (b + h0))] := hl
  have hn : M0.1 ≤ M0.1 := Nat.le_refl _
  have hu : M0.1 ≤ M0.1 + 2 := by omega
  refine W.widen (k := M0.1 - M0.1) (n := 3000 * (M0.1 - M0.1)) (by omega) (by omega) ?_
  unfold fX0_init at hf
  refine lv_aload_n hx hb dX0_init_0 rfl (lv_at hl 0 rfl) ?_
  refine W.objInit hx hb hown (hts (.methodLink RX0 3 objectInit) (List.mem_of_getElem? (i := 1) rfl)) (hts (.instanceMethod objectInit) (List.mem_of_getElem? (i := 2) rfl)) (hts _ (List.mem_of_getElem? (i := 3) rfl)) rfl (by rw [hml]; exact hl.1) rfl dX0_init_1 (Nat.le_of_ble_eq_true rfl) (Nat.le_of_ble_eq_true rfl) ?_
  refine W.eq (g2 := F0 m 4 ls []) rfl ?_
  refine lv_aload_n hx hb dX0_init_4 rfl (lv_at hl 0 rfl) ?_
  obtain ⟨M5, e5, hf⟩ := zb hf
  refine zr_no (ci := 4) (C := RX4) (T := TX4) (N := 2) hx hb hts hi_X0_init_4 tyX4 tyX4_ok hown (hts (.classLink RX0 9 RX4) (List.mem_of_getElem? (i := 4) rfl)) (hts (.instantiable RX4 2) (List.mem_of_getElem? (i := 5) rfl)) (hts (.initialized RX4) (List.mem_of_getElem? (i := 6) rfl)) hK hP hz hS e5 rfl (by decide) (fun j hj => by rcases (show j = 0 ∨ j = 1 by omega) with rfl | rfl <;> rfl) (fun h9 => by show _ ≤ 2; omega) (fun h9 => by show _ ≤ 6000; omega) dX0_init_5 (fun H hP hz hS hq h9 => ?_)
  have hn : M0.1 ≤ M5.1 := by omega
  have hu : M5.1 ≤ M0.1 + 2 := by omega
  refine W.widen (k := M5.1 - M0.1) (n := 3000 * (M5.1 - M0.1)) (by omega) (by omega) ?_
  refine lv_dup hx hb dX0_init_8 rfl ?_
  refine lv_bipush (v := (100 : Int32)) hx hb dX0_init_9 (by decide) ?_
  obtain ⟨M11, e11, hf⟩ := zb hf
  obtain ⟨u11, r11, hf⟩ := zb hf
  obtain ⟨hq, h9⟩ := zcg_s r11
  refine zc_n hS (va_runI (As := [.int (100 : Int32)]) (rest := [.ref (b + M0.1), .ref (b + h0)]) ⟨hx, hb, hml, hown, hts⟩ (k_X4_init l D cy b M5 M0.1 (100 : Int32) M11 e11) (cwI 1 hts gX0_init_X4_init rfl rfl rfl (hts (.initialized RX4) (List.mem_of_getElem? (i := 6) rfl)) (hts (.methodLink RX0 11 yX4_init) (List.mem_of_getElem? (i := 8) rfl)) (hts (.instanceMethod yX4_init) (List.mem_of_getElem? (i := 9) rfl)) rfl (by decide +kernel) ⟨Nat.le_of_ble_eq_true rfl, Nat.le_of_ble_eq_true rfl⟩) (zp_N _ hK hP hz) rfl rfl hl.1 rfl (lv_room (Nat.le_of_ble_eq_true rfl)) dX0_init_11 ⟨by show _ ≤ 2; omega, by show _ ≤ 6000; omega⟩) (fun H locs hP hz hS => ?_)
  have hn : M0.1 ≤ M11.1 := by omega
  have hu : M11.1 ≤ M0.1 + 2 := by omega
  refine W.widen (k := M11.1 - M0.1) (n := 3000 * (M11.1 - M0.1)) (by omega) (by omega) ?_
  obtain ⟨M14, e14, hf⟩ := zb hf
  refine zr_pr (ci := 0) (k := 0) (C := RX0) (T := TX0) (N := 3) hx hb hts hi_X0_init_0 tyX0 tyX0_ok nmX0 hown hK hP hS e14 rfl rfl (by decide) (by decide) (hts (.fieldLink RX0 14 "BoundaryAnalyzer$Edit" "signs" "LBoundaryAnalyzer$Row;") (List.mem_of_getElem? (i := 7) rfl)) (Or.inr ⟨rfl, hin, rfl⟩) (tyX0_ok 0 (by decide)) rfl rfl dX0_init_14 (fun H locs hP hz1 hS => ?_)
  rw [hz] at hz1; have hz := hz1
  have hq := zpR_n e14
  rw [← hq] at hn hu hz
  refine W.widen (k := M14.1 - M0.1) (n := 3000 * (M14.1 - M0.1)) (by omega) (by omega) ?_
  refine W.widen (k := 2) (n := 6000) (by omega) (by omega) ?_
  exact zret_n hx hb hr hlocks hf hP hz hS dX0_init_17
set_option maxHeartbeats 4000000 in
set_option maxRecDepth 100000 in
theorem k_X7_firstClassOf (l : Launch) (x0 : Int32) (rr : Int32) (hf : fX7_firstClassOf x0 = some rr) : Met l yX7_firstClassOf wsX7_firstClassOf ({ frames := 0, cells := 0, slots := 0, locals := 0 } : Room) (zPp [.int x0]) (zQp rr) 0 0 zNo := by
  refine Met.ofW (cc := cX7_firstClassOf) (maxL := 1) (ret := (some .int)) (by decide) rfl ?_
  intro p e s m args below meth c s₁ B hml hv
  obtain ⟨rfl, -⟩ := hv
  have hx := B.exec
  have hb := B.bytes
  have hr := B.returns
  have hts := atoms_spec (ws := wsX7_firstClassOf) B.pre
  have hown : s.vm.findClass RX7 = some m.cls := findClass_of_methodNamed B.named
  have hlocks := B.notSynchronized
  have hl := lv_entry ([.int x0]) (n := 1) (Nat.le_of_ble_eq_true rfl)
  rw [lg_entry_eq]
  generalize (lg_sl ([.int x0]) ++ List.replicate (1 - (lg_sl ([.int x0])).length) Slot.unset).toArray = ls at hl ⊢
  have hl : lv_has ls 1 [(0, .int x0)] := hl
  have J40 : ∀ (ls : Array Slot) (x0 : Int32), fX7_firstClassOf_40  x0 = some rr → lv_has ls 1 [(0, .int x0)] → W p l e (headSpec wsX7_firstClassOf ({ frames := 0, cells := 0, slots := 0, locals := 0 } : Room)).room s m ([.int x0] : List Value).toArray below meth c s.heap [] 0 0 (MQ below (zQp rr) ([.int x0] : List Value).toArray s 0 0 zNo) (F0 m 40 ls []) := by
    intro ls x0 hf hl
    unfold fX7_firstClassOf_40 at hf
    refine lv_iload_n hx hb dX7_firstClassOf_40 rfl (lv_at hl 0 rfl) ?_
    by_cases c41_32 : x0 = (32 : Int32)
    · have hf := (if_pos c41_32).symm.trans hf
      refine lv_lookup (off := 147) (tgt := 188) hx hb dX7_firstClassOf_41 (by decide) (by rw [c41_32]; decide) (by decide) ?_
      refine lv_iconst (v := (2 : Int32)) hx hb dX7_firstClassOf_188 (by decide) ?_
      exact zret_pi hx hb hr hlocks hf dX7_firstClassOf_189
    have hf := (if_neg c41_32).symm.trans hf
    by_cases c41_33 : x0 = (33 : Int32)
    · have hf := (if_pos c41_33).symm.trans hf
      refine lv_lookup (off := 153) (tgt := 194) hx hb dX7_firstClassOf_41 (by decide) (by rw [c41_33]; decide) (by decide) ?_
      refine lv_iconst (v := (5 : Int32)) hx hb dX7_firstClassOf_194 (by decide) ?_
      exact zret_pi hx hb hr hlocks hf dX7_firstClassOf_195
    have hf := (if_neg c41_33).symm.trans hf
    by_cases c41_34 : x0 = (34 : Int32)
    · have hf := (if_pos c41_34).symm.trans hf
      refine lv_lookup (off := 164) (tgt := 205) hx hb dX7_firstClassOf_41 (by decide) (by rw [c41_34]; decide) (by decide) ?_
      refine lv_bipush (v := (9 : Int32)) hx hb dX7_firstClassOf_205 (by decide) ?_
      exact zret_pi hx hb hr hlocks hf dX7_firstClassOf_207
    have hf := (if_neg c41_34).symm.trans hf
    by_cases c41_39 : x0 = (39 : Int32)
    · have hf := (if_pos c41_39).symm.trans hf
      refine lv_lookup (off := 155) (tgt := 196) hx hb dX7_firstClassOf_41 (by decide) (by rw [c41_39]; decide) (by decide) ?_
      refine lv_bipush (v := (6 : Int32)) hx hb dX7_firstClassOf_196 (by decide) ?_
      exact zret_pi hx hb hr hlocks hf dX7_firstClassOf_198
    have hf := (if_neg c41_39).symm.trans hf
    by_cases c41_40 : x0 = (40 : Int32)
    · have hf := (if_pos c41_40).symm.trans hf
      refine lv_lookup (off := 161) (tgt := 202) hx hb dX7_firstClassOf_41 (by decide) (by rw [c41_40]; decide) (by decide) ?_
      refine lv_bipush (v := (8 : Int32)) hx hb dX7_firstClassOf_202 (by decide) ?_
      exact zret_pi hx hb hr hlocks hf dX7_firstClassOf_204
    have hf := (if_neg c41_40).symm.trans hf
    by_cases c41_41 : x0 = (41 : Int32)
    · have hf := (if_pos c41_41).symm.trans hf
      refine lv_lookup (off := 164) (tgt := 205) hx hb dX7_firstClassOf_41 (by decide) (by rw [c41_41]; decide) (by decide) ?_
      refine lv_bipush (v := (9 : Int32)) hx hb dX7_firstClassOf_205 (by decide) ?_
      exact zret_pi hx hb hr hlocks hf dX7_firstClassOf_207
    have hf := (if_neg c41_41).symm.trans hf
    by_cases c41_44 : x0 = (44 : Int32)
    · have hf := (if_pos c41_44).symm.trans hf
      refine lv_lookup (off := 151) (tgt := 192) hx hb dX7_firstClassOf_41 (by decide) (by rw [c41_44]; decide) (by decide) ?_
      refine lv_iconst (v := (4 : Int32)) hx hb dX7_firstClassOf_192 (by decide) ?_
      exact zret_pi hx hb hr hlocks hf dX7_firstClassOf_193
    have hf := (if_neg c41_44).symm.trans hf
    by_cases c41_45 : x0 = (45 : Int32)
    · have hf := (if_pos c41_45).symm.trans hf
      refine lv_lookup (off := 158) (tgt := 199) hx hb dX7_firstClassOf_41 (by decide) (by rw [c41_45]; decide) (by decide) ?_
      refine lv_bipush (v := (7 : Int32)) hx hb dX7_firstClassOf_199 (by decide) ?_
      exact zret_pi hx hb hr hlocks hf dX7_firstClassOf_201
    have hf := (if_neg c41_45).symm.trans hf
    by_cases c41_46 : x0 = (46 : Int32)
    · have hf := (if_pos c41_46).symm.trans hf
      refine lv_lookup (off := 149) (tgt := 190) hx hb dX7_firstClassOf_41 (by decide) (by rw [c41_46]; decide) (by decide) ?_
      refine lv_iconst (v := (3 : Int32)) hx hb dX7_firstClassOf_190 (by decide) ?_
      exact zret_pi hx hb hr hlocks hf dX7_firstClassOf_191
    have hf := (if_neg c41_46).symm.trans hf
    by_cases c41_58 : x0 = (58 : Int32)
    · have hf := (if_pos c41_58).symm.trans hf
      refine lv_lookup (off := 151) (tgt := 192) hx hb dX7_firstClassOf_41 (by decide) (by rw [c41_58]; decide) (by decide) ?_
      refine lv_iconst (v := (4 : Int32)) hx hb dX7_firstClassOf_192 (by decide) ?_
      exact zret_pi hx hb hr hlocks hf dX7_firstClassOf_193
    have hf := (if_neg c41_58).symm.trans hf
    by_cases c41_59 : x0 = (59 : Int32)
    · have hf := (if_pos c41_59).symm.trans hf
      refine lv_lookup (off := 151) (tgt := 192) hx hb dX7_firstClassOf_41 (by decide) (by rw [c41_59]; decide) (by decide) ?_
      refine lv_iconst (v := (4 : Int32)) hx hb dX7_firstClassOf_192 (by decide) ?_
      exact zret_pi hx hb hr hlocks hf dX7_firstClassOf_193
    have hf := (if_neg c41_59).symm.trans hf
    by_cases c41_63 : x0 = (63 : Int32)
    · have hf := (if_pos c41_63).symm.trans hf
      refine lv_lookup (off := 153) (tgt := 194) hx hb dX7_firstClassOf_41 (by decide) (by rw [c41_63]; decide) (by decide) ?_
      refine lv_iconst (v := (5 : Int32)) hx hb dX7_firstClassOf_194 (by decide) ?_
      exact zret_pi hx hb hr hlocks hf dX7_firstClassOf_195
    have hf := (if_neg c41_63).symm.trans hf
    by_cases c41_91 : x0 = (91 : Int32)
    · have hf := (if_pos c41_91).symm.trans hf
      refine lv_lookup (off := 161) (tgt := 202) hx hb dX7_firstClassOf_41 (by decide) (by rw [c41_91]; decide) (by decide) ?_
      refine lv_bipush (v := (8 : Int32)) hx hb dX7_firstClassOf_202 (by decide) ?_
      exact zret_pi hx hb hr hlocks hf dX7_firstClassOf_204
    have hf := (if_neg c41_91).symm.trans hf
    by_cases c41_93 : x0 = (93 : Int32)
    · have hf := (if_pos c41_93).symm.trans hf
      refine lv_lookup (off := 164) (tgt := 205) hx hb dX7_firstClassOf_41 (by decide) (by rw [c41_93]; decide) (by decide) ?_
      refine lv_bipush (v := (9 : Int32)) hx hb dX7_firstClassOf_205 (by decide) ?_
      exact zret_pi hx hb hr hlocks hf dX7_firstClassOf_207
    have hf := (if_neg c41_93).symm.trans hf
    by_cases c41_94 : x0 = (94 : Int32)
    · have hf := (if_pos c41_94).symm.trans hf
      refine lv_lookup (off := 167) (tgt := 208) hx hb dX7_firstClassOf_41 (by decide) (by rw [c41_94]; decide) (by decide) ?_
      refine lv_bipush (v := (10 : Int32)) hx hb dX7_firstClassOf_208 (by decide) ?_
      exact zret_pi hx hb hr hlocks hf dX7_firstClassOf_210
    have hf := (if_neg c41_94).symm.trans hf
    by_cases c41_96 : x0 = (96 : Int32)
    · have hf := (if_pos c41_96).symm.trans hf
      refine lv_lookup (off := 167) (tgt := 208) hx hb dX7_firstClassOf_41 (by decide) (by rw [c41_96]; decide) (by decide) ?_
      refine lv_bipush (v := (10 : Int32)) hx hb dX7_firstClassOf_208 (by decide) ?_
      exact zret_pi hx hb hr hlocks hf dX7_firstClassOf_210
    have hf := (if_neg c41_96).symm.trans hf
    by_cases c41_126 : x0 = (126 : Int32)
    · have hf := (if_pos c41_126).symm.trans hf
      refine lv_lookup (off := 167) (tgt := 208) hx hb dX7_firstClassOf_41 (by decide) (by rw [c41_126]; decide) (by decide) ?_
      refine lv_bipush (v := (10 : Int32)) hx hb dX7_firstClassOf_208 (by decide) ?_
      exact zret_pi hx hb hr hlocks hf dX7_firstClassOf_210
    have hf := (if_neg c41_126).symm.trans hf
    refine lv_lookup (off := 170) (tgt := 211) hx hb dX7_firstClassOf_41 (by decide) (by show Op.lookupswitch.offset [(32, 147), (33, 153), (34, 164), (39, 155), (40, 161), (41, 164), (44, 151), (45, 158), (46, 149), (58, 151), (59, 151), (63, 153), (91, 161), (93, 164), (94, 167), (96, 167), (126, 167)] 170 _ = _; rw [lv_osw (k := 32) c41_32 (by decide), lv_osw (k := 33) c41_33 (by decide), lv_osw (k := 34) c41_34 (by decide), lv_osw (k := 39) c41_39 (by decide), lv_osw (k := 40) c41_40 (by decide), lv_osw (k := 41) c41_41 (by decide), lv_osw (k := 44) c41_44 (by decide), lv_osw (k := 45) c41_45 (by decide), lv_osw (k := 46) c41_46 (by decide), lv_osw (k := 58) c41_58 (by decide), lv_osw (k := 59) c41_59 (by decide), lv_osw (k := 63) c41_63 (by decide), lv_osw (k := 91) c41_91 (by decide), lv_osw (k := 93) c41_93 (by decide), lv_osw (k := 94) c41_94 (by decide), lv_osw (k := 96) c41_96 (by decide), lv_osw (k := 126) c41_126 (by decide)]; rfl) (by decide) ?_
    refine lv_bipush (v := (11 : Int32)) hx hb dX7_firstClassOf_211 (by decide) ?_
    exact zret_pi hx hb hr hlocks hf dX7_firstClassOf_213
  have J26 : ∀ (ls : Array Slot) (x0 : Int32), fX7_firstClassOf_26  x0 = some rr → lv_has ls 1 [(0, .int x0)] → W p l e (headSpec wsX7_firstClassOf ({ frames := 0, cells := 0, slots := 0, locals := 0 } : Room)).room s m ([.int x0] : List Value).toArray below meth c s.heap [] 0 0 (MQ below (zQp rr) ([.int x0] : List Value).toArray s 0 0 zNo) (F0 m 26 ls []) := by
    intro ls x0 hf hl
    unfold fX7_firstClassOf_26 at hf
    refine lv_iload_n hx hb dX7_firstClassOf_26 rfl (lv_at hl 0 rfl) ?_
    refine lv_bipush (v := (48 : Int32)) hx hb dX7_firstClassOf_27 (by decide) ?_
    refine lv_icmp_lt (tgt := 40) hx hb dX7_firstClassOf_29 (by decide) (fun c29 => ?_) (fun c29 => ?_)
    · have hf := (if_pos c29).symm.trans hf
      exact J40 _ _ hf (lv_sub hl [0] rfl)
    · have hf := (if_neg c29).symm.trans hf
      refine lv_iload_n hx hb dX7_firstClassOf_32 rfl (lv_at hl 0 rfl) ?_
      refine lv_bipush (v := (57 : Int32)) hx hb dX7_firstClassOf_33 (by decide) ?_
      refine lv_icmp_gt (tgt := 40) hx hb dX7_firstClassOf_35 (by decide) (fun c35 => ?_) (fun c35 => ?_)
      · have hf := (if_pos c35).symm.trans hf
        exact J40 _ _ hf (lv_sub hl [0] rfl)
      · have hf := (if_neg c35).symm.trans hf
        refine lv_iconst (v := (1 : Int32)) hx hb dX7_firstClassOf_38 (by decide) ?_
        exact zret_pi hx hb hr hlocks hf dX7_firstClassOf_39
  have J12 : ∀ (ls : Array Slot) (x0 : Int32), fX7_firstClassOf_12  x0 = some rr → lv_has ls 1 [(0, .int x0)] → W p l e (headSpec wsX7_firstClassOf ({ frames := 0, cells := 0, slots := 0, locals := 0 } : Room)).room s m ([.int x0] : List Value).toArray below meth c s.heap [] 0 0 (MQ below (zQp rr) ([.int x0] : List Value).toArray s 0 0 zNo) (F0 m 12 ls []) := by
    intro ls x0 hf hl
    unfold fX7_firstClassOf_12 at hf
    refine lv_iload_n hx hb dX7_firstClassOf_12 rfl (lv_at hl 0 rfl) ?_
    refine lv_bipush (v := (65 : Int32)) hx hb dX7_firstClassOf_13 (by decide) ?_
    refine lv_icmp_lt (tgt := 26) hx hb dX7_firstClassOf_15 (by decide) (fun c15 => ?_) (fun c15 => ?_)
    · have hf := (if_pos c15).symm.trans hf
      exact J26 _ _ hf (lv_sub hl [0] rfl)
    · have hf := (if_neg c15).symm.trans hf
      refine lv_iload_n hx hb dX7_firstClassOf_18 rfl (lv_at hl 0 rfl) ?_
      refine lv_bipush (v := (90 : Int32)) hx hb dX7_firstClassOf_19 (by decide) ?_
      refine lv_icmp_gt (tgt := 26) hx hb dX7_firstClassOf_21 (by decide) (fun c21 => ?_) (fun c21 => ?_)
      · have hf := (if_pos c21).symm.trans hf
        exact J26 _ _ hf (lv_sub hl [0] rfl)
      · have hf := (if_neg c21).symm.trans hf
        refine lv_iconst (v := (0 : Int32)) hx hb dX7_firstClassOf_24 (by decide) ?_
        exact zret_pi hx hb hr hlocks hf dX7_firstClassOf_25
  unfold fX7_firstClassOf at hf
  refine lv_iload_n hx hb dX7_firstClassOf_0 rfl (lv_at hl 0 rfl) ?_
  refine lv_bipush (v := (97 : Int32)) hx hb dX7_firstClassOf_1 (by decide) ?_
  refine lv_icmp_lt (tgt := 12) hx hb dX7_firstClassOf_3 (by decide) (fun c3 => ?_) (fun c3 => ?_)
  · have hf := (if_pos c3).symm.trans hf
    exact J12 _ _ hf (lv_sub hl [0] rfl)
  · have hf := (if_neg c3).symm.trans hf
    refine lv_iload_n hx hb dX7_firstClassOf_6 rfl (lv_at hl 0 rfl) ?_
    refine lv_bipush (v := (122 : Int32)) hx hb dX7_firstClassOf_7 (by decide) ?_
    refine lv_icmp_le (tgt := 24) hx hb dX7_firstClassOf_9 (by decide) (fun c9 => ?_) (fun c9 => ?_)
    · have hf := (if_pos c9).symm.trans hf
      refine lv_iconst (v := (0 : Int32)) hx hb dX7_firstClassOf_24 (by decide) ?_
      exact zret_pi hx hb hr hlocks hf dX7_firstClassOf_25
    · have hf := (if_neg c9).symm.trans hf
      exact J12 _ _ hf (lv_sub hl [0] rfl)
theorem hi_X7_init_4 : ∀ w ∈ wsX40, w ∈ wsX7_init := fun _ h => List.mem_cons_of_mem _ (List.mem_append_left _ (List.mem_append_right _ h))
theorem hi_X7_init_7 : ∀ w ∈ wsX70, w ∈ wsX7_init := fun _ h => List.mem_cons_of_mem _ (List.mem_append_right _ h)
set_option maxHeartbeats 4000000 in
set_option maxRecDepth 100000 in
theorem k_X7_init (l : Launch) (D : va_G) (cy : Nat → ClassId) (b : Nat) (M0 : Mem) (h0 : Nat) (rr : Mem) (hf : fX7_init M0 h0 = some rr) : Met l yX7_init wsX7_init ({ frames := 2, cells := 3, slots := 9000, locals := 61 } : Room) (zPn D cy b M0 [.ref (b + h0)]) (zQn D cy b rr) 3 9000 (zA b) := by
  refine Met.ofW (cc := cX7_init) (maxL := 2) (ret := none) (by decide) rfl ?_
  intro p e s m args below meth c s₁ B hml hv
  obtain ⟨rfl, hP, hK, hz⟩ := hv
  have hx := B.exec
  have hb := B.bytes
  have hr := B.returns
  have hts := atoms_spec (ws := wsX7_init) B.pre
  have hown : s.vm.findClass RX7 = some m.cls := findClass_of_methodNamed B.named
  have hlocks := B.notSynchronized
  have hin : meth.name = "<init>" := (name_of_methodNamed B.named B.method).1
  have hS : va_S (zA b) s.heap s.heap [] := va_S.rf
  have hl := lv_entry ([.ref (b + h0)]) (n := 2) (Nat.le_of_ble_eq_true rfl)
  rw [lg_entry_eq]
  generalize (lg_sl ([.ref (b + h0)]) ++ List.replicate (2 - (lg_sl ([.ref (b + h0)])).length) Slot.unset).toArray = ls at hl ⊢
  have hl : lv_has ls 2 [(0, .ref (b + h0))] := hl
  have hn : M0.1 ≤ M0.1 := Nat.le_refl _
  have hu : M0.1 ≤ M0.1 + 3 := by omega
  refine W.widen (k := M0.1 - M0.1) (n := 3000 * (M0.1 - M0.1)) (by omega) (by omega) ?_
  have L27 : ∀ (n27 : Nat) (M : Mem) (H : Heap) (locs : List Loc) (ls : Array Slot) (h0 : Nat) (x1 : Int32), fX7_init_27L M0  n27 M h0 x1 = some rr → zH D cy b M H → H.size = b + M.1 → va_S (zA b) s.heap H locs → M0.1 ≤ M.1 → M.1 ≤ M0.1 + 3 → lv_has ls 2 [(0, .ref (b + h0)), (1, .int x1)] → W p l e (headSpec wsX7_init ({ frames := 2, cells := 3, slots := 9000, locals := 61 } : Room)).room s m ([.ref (b + h0)] : List Value).toArray below meth c H locs (M.1 - M0.1) (3000 * (M.1 - M0.1)) (MQ below (zQn D cy b rr) ([.ref (b + h0)] : List Value).toArray s 3 9000 (zA b)) (F0 m 27 ls []) := by
    intro n27
    induction n27 with
    | zero =>
      intro M H locs ls h0 x1 hf
      have hf : (none : Option Mem) = some rr := hf
      cases hf
    | succ n27 ih27 =>
      intro M H locs ls h0 x1 hf hP hz hS hn hu hl
      have hf : fX7_init_27 M0  (fX7_init_27L M0  n27) M h0 x1 = some rr := hf
      unfold fX7_init_27 at hf
      refine lv_iload_n hx hb dX7_init_27 rfl (lv_at hl 1 rfl) ?_
      refine lv_aload_n hx hb dX7_init_28 rfl (lv_at hl 0 rfl) ?_
      obtain ⟨v29, e29, hf⟩ := zb hf
      refine zr_gr (ci := 7) (k := 1) (C := RX7) (T := TX7) (N := 2) hx hb hts hi_X7_init_7 hown hK hP e29 rfl rfl (by decide) (by decide) (hts (.fieldLink RX7 20 "BoundaryAnalyzer$Text" "classes" "[I") (List.mem_of_getElem? (i := 9) rfl)) dX7_init_29 ?_
      obtain ⟨v32, e32, hf⟩ := zb hf
      refine zr_al (t0 := 1) hx hb hK hP e32 (by decide) rfl dX7_init_32 ?_
      refine lv_icmp_ge (tgt := 55) hx hb dX7_init_33 (by decide) (fun c33 => ?_) (fun c33 => ?_)
      · have hf := (if_pos c33).symm.trans hf
        refine W.widen (k := 3) (n := 9000) (by omega) (by omega) ?_
        exact zret_n hx hb hr hlocks hf hP hz hS dX7_init_55
      · have hf := (if_neg c33).symm.trans hf
        refine lv_aload_n hx hb dX7_init_36 rfl (lv_at hl 0 rfl) ?_
        obtain ⟨v37, e37, hf⟩ := zb hf
        refine zr_gr (ci := 7) (k := 1) (C := RX7) (T := TX7) (N := 2) hx hb hts hi_X7_init_7 hown hK hP e37 rfl rfl (by decide) (by decide) (hts (.fieldLink RX7 20 "BoundaryAnalyzer$Text" "classes" "[I") (List.mem_of_getElem? (i := 9) rfl)) dX7_init_37 ?_
        refine lv_iload_n hx hb dX7_init_40 rfl (lv_at hl 1 rfl) ?_
        refine lv_bipush (v := (32 : Int32)) hx hb dX7_init_41 (by decide) ?_
        refine lv_iload_n hx hb dX7_init_43 rfl (lv_at hl 1 rfl) ?_
        refine lv_iadd hx hb dX7_init_44 ?_
        obtain ⟨v45, e45, hf⟩ := zb hf
        refine zc_p (va_runS (As := [.int (32 : Int32) + x1]) (rest := [.int x1, .ref (b + v37)]) ⟨hx, hb, hml, hown, hts⟩ (k_X7_firstClassOf l ((32 : Int32) + x1) v45 e45) (va_cwS 1 hts gX7_init_X7_firstClassOf rfl rfl rfl (by decide +kernel) ⟨Nat.le_of_ble_eq_true rfl, Nat.le_of_ble_eq_true rfl⟩) (zp_p _) rfl rfl hl.1 rfl (lv_room (Nat.le_of_ble_eq_true rfl)) dX7_init_45 ⟨by show _ ≤ 3; omega, by show _ ≤ 9000; omega⟩) ?_
        obtain ⟨M48, e48, hf⟩ := zb hf
        refine zr_si hx hb hK hP hS e48 dX7_init_48 (fun H locs hP hz1 hS => ?_)
        rw [hz] at hz1; have hz := hz1
        have hq := zsI_n e48
        rw [← hq] at hn hu hz
        refine W.widen (k := M48.1 - M0.1) (n := 3000 * (M48.1 - M0.1)) (by omega) (by omega) ?_
        obtain ⟨x1_49, q49, hf⟩ := zlt_s hf
        refine lv_iinc (v := x1_49) (lv' := [(1, .int x1_49), (0, .ref (b + h0))]) hx hb dX7_init_49 hl (k := 1) rfl (by rw [← q49]; rfl) (by decide) rfl (fun ls hl => ?_)
        refine lv_goto (tgt := 27) hx hb dX7_init_52 (by decide) ?_
        exact ih27 _ _ _ _ _ _ hf hP hz hS hn hu (lv_sub hl [1, 0] rfl)
  unfold fX7_init at hf
  refine lv_aload_n hx hb dX7_init_0 rfl (lv_at hl 0 rfl) ?_
  refine W.objInit hx hb hown (hts (.methodLink RX7 3 objectInit) (List.mem_of_getElem? (i := 1) rfl)) (hts (.instanceMethod objectInit) (List.mem_of_getElem? (i := 2) rfl)) (hts _ (List.mem_of_getElem? (i := 3) rfl)) rfl (by rw [hml]; exact hl.1) rfl dX7_init_1 (Nat.le_of_ble_eq_true rfl) (Nat.le_of_ble_eq_true rfl) ?_
  refine W.eq (g2 := F0 m 4 ls []) rfl ?_
  refine lv_aload_n hx hb dX7_init_4 rfl (lv_at hl 0 rfl) ?_
  obtain ⟨M5, e5, hf⟩ := zb hf
  refine zr_no (ci := 4) (C := RX4) (T := TX4) (N := 2) hx hb hts hi_X7_init_4 tyX4 tyX4_ok hown (hts (.classLink RX7 9 RX4) (List.mem_of_getElem? (i := 4) rfl)) (hts (.instantiable RX4 2) (List.mem_of_getElem? (i := 5) rfl)) (hts (.initialized RX4) (List.mem_of_getElem? (i := 6) rfl)) hK hP hz hS e5 rfl (by decide) (fun j hj => by rcases (show j = 0 ∨ j = 1 by omega) with rfl | rfl <;> rfl) (fun h9 => by show _ ≤ 3; omega) (fun h9 => by show _ ≤ 9000; omega) dX7_init_5 (fun H hP hz hS hq h9 => ?_)
  have hn : M0.1 ≤ M5.1 := by omega
  have hu : M5.1 ≤ M0.1 + 3 := by omega
  refine W.widen (k := M5.1 - M0.1) (n := 3000 * (M5.1 - M0.1)) (by omega) (by omega) ?_
  refine lv_dup hx hb dX7_init_8 rfl ?_
  refine lv_bipush (v := (100 : Int32)) hx hb dX7_init_9 (by decide) ?_
  obtain ⟨M11, e11, hf⟩ := zb hf
  obtain ⟨u11, r11, hf⟩ := zb hf
  obtain ⟨hq, h9⟩ := zcg_s r11
  refine zc_n hS (va_runI (As := [.int (100 : Int32)]) (rest := [.ref (b + M0.1), .ref (b + h0)]) ⟨hx, hb, hml, hown, hts⟩ (k_X4_init l D cy b M5 M0.1 (100 : Int32) M11 e11) (cwI 1 hts gX7_init_X4_init rfl rfl rfl (hts (.initialized RX4) (List.mem_of_getElem? (i := 6) rfl)) (hts (.methodLink RX7 11 yX4_init) (List.mem_of_getElem? (i := 10) rfl)) (hts (.instanceMethod yX4_init) (List.mem_of_getElem? (i := 11) rfl)) rfl (by decide +kernel) ⟨Nat.le_of_ble_eq_true rfl, Nat.le_of_ble_eq_true rfl⟩) (zp_N _ hK hP hz) rfl rfl hl.1 rfl (lv_room (Nat.le_of_ble_eq_true rfl)) dX7_init_11 ⟨by show _ ≤ 3; omega, by show _ ≤ 9000; omega⟩) (fun H locs hP hz hS => ?_)
  have hn : M0.1 ≤ M11.1 := by omega
  have hu : M11.1 ≤ M0.1 + 3 := by omega
  refine W.widen (k := M11.1 - M0.1) (n := 3000 * (M11.1 - M0.1)) (by omega) (by omega) ?_
  obtain ⟨M14, e14, hf⟩ := zb hf
  refine zr_pr (ci := 7) (k := 0) (C := RX7) (T := TX7) (N := 2) hx hb hts hi_X7_init_7 tyX7 tyX7_ok nmX7 hown hK hP hS e14 rfl rfl (by decide) (by decide) (hts (.fieldLink RX7 14 "BoundaryAnalyzer$Text" "signs" "LBoundaryAnalyzer$Row;") (List.mem_of_getElem? (i := 7) rfl)) (Or.inr ⟨rfl, hin, rfl⟩) (tyX7_ok 0 (by decide)) rfl rfl dX7_init_14 (fun H locs hP hz1 hS => ?_)
  rw [hz] at hz1; have hz := hz1
  have hq := zpR_n e14
  rw [← hq] at hn hu hz
  refine W.widen (k := M14.1 - M0.1) (n := 3000 * (M14.1 - M0.1)) (by omega) (by omega) ?_
  refine lv_aload_n hx hb dX7_init_17 rfl (lv_at hl 0 rfl) ?_
  refine lv_bipush (v := (95 : Int32)) hx hb dX7_init_18 (by decide) ?_
  obtain ⟨M20, e20, hf⟩ := zb hf
  refine zr_na (atype := .int) (ty := .int) (t0 := 1) hx hb rfl (hts (.arrayClass .int) (List.mem_of_getElem? (i := 8) rfl)) hK hP hz hS e20 rfl (Or.inr (Or.inl ⟨rfl, rfl⟩)) (zsL_max _) (fun h9 => by show _ ≤ 3; omega) (fun h9 => by show _ ≤ 9000; omega) dX7_init_20 (fun H hP hz hS hq h9 => ?_)
  have hn : M0.1 ≤ M20.1 := by omega
  have hu : M20.1 ≤ M0.1 + 3 := by omega
  refine W.widen (k := M20.1 - M0.1) (n := 3000 * (M20.1 - M0.1)) (by omega) (by omega) ?_
  obtain ⟨M22, e22, hf⟩ := zb hf
  refine zr_pr (ci := 7) (k := 1) (C := RX7) (T := TX7) (N := 2) hx hb hts hi_X7_init_7 tyX7 tyX7_ok nmX7 hown hK hP hS e22 rfl rfl (by decide) (by decide) (hts (.fieldLink RX7 20 "BoundaryAnalyzer$Text" "classes" "[I") (List.mem_of_getElem? (i := 9) rfl)) (Or.inr ⟨rfl, hin, rfl⟩) (tyX7_ok 1 (by decide)) rfl rfl dX7_init_22 (fun H locs hP hz1 hS => ?_)
  rw [hz] at hz1; have hz := hz1
  have hq := zpR_n e22
  rw [← hq] at hn hu hz
  refine W.widen (k := M22.1 - M0.1) (n := 3000 * (M22.1 - M0.1)) (by omega) (by omega) ?_
  refine lv_iconst (v := (0 : Int32)) hx hb dX7_init_25 (by decide) ?_
  refine lv_istore_n (lv' := [(1, .int (0 : Int32)), (0, .ref (b + h0))]) hx hb dX7_init_26 rfl hl (by decide) rfl (fun ls hl => ?_)
  exact L27 _ _ _ _ _ _ _ hf hP hz hS hn hu (lv_sub hl [1, 0] rfl)
theorem hi_X7_classOfCharacter_7 : ∀ w ∈ wsX70, w ∈ wsX7_classOfCharacter := fun _ h => List.mem_cons_of_mem _ (List.mem_append_right _ h)
set_option maxHeartbeats 4000000 in
set_option maxRecDepth 100000 in
theorem k_X7_classOfCharacter (l : Launch) (D : va_G) (cy : Nat → ClassId) (b : Nat) (M0 : Mem) (h0 : Nat) (x1 : Int32) (rr : Int32 × Mem) (hf : fX7_classOfCharacter M0 h0 x1 = some rr) : Met l yX7_classOfCharacter wsX7_classOfCharacter ({ frames := 0, cells := 0, slots := 0, locals := 0 } : Room) (zPc D cy b M0 [.ref (b + h0), .int x1]) (zQi D cy b rr) 0 0 (zA b) := by
  refine Met.ofW (cc := cX7_classOfCharacter) (maxL := 3) (ret := (some .int)) (by decide) rfl ?_
  intro p e s m args below meth c s₁ B hml hv
  obtain ⟨rfl, hP, hK⟩ := hv
  have hx := B.exec
  have hb := B.bytes
  have hr := B.returns
  have hts := atoms_spec (ws := wsX7_classOfCharacter) B.pre
  have hown : s.vm.findClass RX7 = some m.cls := findClass_of_methodNamed B.named
  have hlocks := B.notSynchronized
  have hS : va_S (zA b) s.heap s.heap [] := va_S.rf
  have hl := lv_entry ([.ref (b + h0), .int x1]) (n := 3) (Nat.le_of_ble_eq_true rfl)
  rw [lg_entry_eq]
  generalize (lg_sl ([.ref (b + h0), .int x1]) ++ List.replicate (3 - (lg_sl ([.ref (b + h0), .int x1])).length) Slot.unset).toArray = ls at hl ⊢
  have hl : lv_has ls 3 [(0, .ref (b + h0)), (1, .int x1)] := hl
  unfold fX7_classOfCharacter at hf
  refine lv_iload_n hx hb dX7_classOfCharacter_0 rfl (lv_at hl 1 rfl) ?_
  refine lv_bipush (v := (32 : Int32)) hx hb dX7_classOfCharacter_1 (by decide) ?_
  refine lv_isub hx hb dX7_classOfCharacter_3 ?_
  obtain ⟨x2_4, q4, hf⟩ := zlt_s hf
  refine zt q4 ?_
  refine lv_istore_n (lv' := [(2, .int x2_4), (0, .ref (b + h0)), (1, .int x1)]) hx hb dX7_classOfCharacter_4 rfl hl (by decide) rfl (fun ls hl => ?_)
  refine lv_iload_n hx hb dX7_classOfCharacter_5 rfl (lv_at hl 0 rfl) ?_
  refine lv_if_lt (tgt := 27) hx hb dX7_classOfCharacter_6 (by decide) (fun c6 => ?_) (fun c6 => ?_)
  · have hf := (if_pos c6).symm.trans hf
    refine lv_iconst (v := (-1 : Int32)) hx hb dX7_classOfCharacter_27 (by decide) ?_
    exact zret_i hx hb hr hlocks hf hP hS dX7_classOfCharacter_28
  · have hf := (if_neg c6).symm.trans hf
    refine lv_iload_n hx hb dX7_classOfCharacter_9 rfl (lv_at hl 0 rfl) ?_
    refine lv_aload_n hx hb dX7_classOfCharacter_10 rfl (lv_at hl 1 rfl) ?_
    obtain ⟨v11, e11, hf⟩ := zb hf
    refine zr_gr (ci := 7) (k := 1) (C := RX7) (T := TX7) (N := 2) hx hb hts hi_X7_classOfCharacter_7 hown hK hP e11 rfl rfl (by decide) (by decide) (hts (.fieldLink RX7 20 "BoundaryAnalyzer$Text" "classes" "[I") (List.mem_of_getElem? (i := 1) rfl)) dX7_classOfCharacter_11 ?_
    obtain ⟨v14, e14, hf⟩ := zb hf
    refine zr_al (t0 := 1) hx hb hK hP e14 (by decide) rfl dX7_classOfCharacter_14 ?_
    refine lv_icmp_ge (tgt := 27) hx hb dX7_classOfCharacter_15 (by decide) (fun c15 => ?_) (fun c15 => ?_)
    · have hf := (if_pos c15).symm.trans hf
      refine lv_iconst (v := (-1 : Int32)) hx hb dX7_classOfCharacter_27 (by decide) ?_
      exact zret_i hx hb hr hlocks hf hP hS dX7_classOfCharacter_28
    · have hf := (if_neg c15).symm.trans hf
      refine lv_aload_n hx hb dX7_classOfCharacter_18 rfl (lv_at hl 1 rfl) ?_
      obtain ⟨v19, e19, hf⟩ := zb hf
      refine zr_gr (ci := 7) (k := 1) (C := RX7) (T := TX7) (N := 2) hx hb hts hi_X7_classOfCharacter_7 hown hK hP e19 rfl rfl (by decide) (by decide) (hts (.fieldLink RX7 20 "BoundaryAnalyzer$Text" "classes" "[I") (List.mem_of_getElem? (i := 1) rfl)) dX7_classOfCharacter_19 ?_
      refine lv_iload_n hx hb dX7_classOfCharacter_22 rfl (lv_at hl 0 rfl) ?_
      obtain ⟨v23, e23, hf⟩ := zb hf
      refine zr_ai hx hb hK hP e23 dX7_classOfCharacter_23 ?_
      refine lv_goto (tgt := 28) hx hb dX7_classOfCharacter_24 (by decide) ?_
      exact zret_i hx hb hr hlocks hf hP hS dX7_classOfCharacter_28
theorem hi_X7_changeClass_7 : ∀ w ∈ wsX70, w ∈ wsX7_changeClass := fun _ h => List.mem_cons_of_mem _ (List.mem_append_right _ h)
set_option maxHeartbeats 4000000 in
set_option maxRecDepth 100000 in
theorem k_X7_changeClass (l : Launch) (D : va_G) (cy : Nat → ClassId) (b : Nat) (M0 : Mem) (h0 : Nat) (x1 : Int32) (x2 : Int32) (rr : Mem) (hf : fX7_changeClass M0 h0 x1 x2 = some rr) : Met l yX7_changeClass wsX7_changeClass ({ frames := 0, cells := 0, slots := 0, locals := 0 } : Room) (zPc D cy b M0 [.ref (b + h0), .int x1, .int x2]) (zQv D cy b rr) 0 0 (zA b) := by
  refine Met.ofW (cc := cX7_changeClass) (maxL := 4) (ret := none) (by decide) rfl ?_
  intro p e s m args below meth c s₁ B hml hv
  obtain ⟨rfl, hP, hK⟩ := hv
  have hx := B.exec
  have hb := B.bytes
  have hr := B.returns
  have hts := atoms_spec (ws := wsX7_changeClass) B.pre
  have hown : s.vm.findClass RX7 = some m.cls := findClass_of_methodNamed B.named
  have hlocks := B.notSynchronized
  have hS : va_S (zA b) s.heap s.heap [] := va_S.rf
  have hl := lv_entry ([.ref (b + h0), .int x1, .int x2]) (n := 4) (Nat.le_of_ble_eq_true rfl)
  rw [lg_entry_eq]
  generalize (lg_sl ([.ref (b + h0), .int x1, .int x2]) ++ List.replicate (4 - (lg_sl ([.ref (b + h0), .int x1, .int x2])).length) Slot.unset).toArray = ls at hl ⊢
  have hl : lv_has ls 4 [(0, .ref (b + h0)), (1, .int x1), (2, .int x2)] := hl
  unfold fX7_changeClass at hf
  refine lv_iload_n hx hb dX7_changeClass_0 rfl (lv_at hl 1 rfl) ?_
  refine lv_bipush (v := (32 : Int32)) hx hb dX7_changeClass_1 (by decide) ?_
  refine lv_isub hx hb dX7_changeClass_3 ?_
  obtain ⟨x3_4, q4, hf⟩ := zlt_s hf
  refine zt q4 ?_
  refine lv_istore_n (lv' := [(3, .int x3_4), (0, .ref (b + h0)), (1, .int x1), (2, .int x2)]) hx hb dX7_changeClass_4 rfl hl (by decide) rfl (fun ls hl => ?_)
  refine lv_iload_n hx hb dX7_changeClass_5 rfl (lv_at hl 0 rfl) ?_
  refine lv_if_lt (tgt := 25) hx hb dX7_changeClass_6 (by decide) (fun c6 => ?_) (fun c6 => ?_)
  · have hf := (if_pos c6).symm.trans hf
    exact zret_v hx hb hr hlocks hf hP hS dX7_changeClass_25
  · have hf := (if_neg c6).symm.trans hf
    refine lv_iload_n hx hb dX7_changeClass_9 rfl (lv_at hl 0 rfl) ?_
    refine lv_aload_n hx hb dX7_changeClass_10 rfl (lv_at hl 1 rfl) ?_
    obtain ⟨v11, e11, hf⟩ := zb hf
    refine zr_gr (ci := 7) (k := 1) (C := RX7) (T := TX7) (N := 2) hx hb hts hi_X7_changeClass_7 hown hK hP e11 rfl rfl (by decide) (by decide) (hts (.fieldLink RX7 20 "BoundaryAnalyzer$Text" "classes" "[I") (List.mem_of_getElem? (i := 1) rfl)) dX7_changeClass_11 ?_
    obtain ⟨v14, e14, hf⟩ := zb hf
    refine zr_al (t0 := 1) hx hb hK hP e14 (by decide) rfl dX7_changeClass_14 ?_
    refine lv_icmp_ge (tgt := 25) hx hb dX7_changeClass_15 (by decide) (fun c15 => ?_) (fun c15 => ?_)
    · have hf := (if_pos c15).symm.trans hf
      exact zret_v hx hb hr hlocks hf hP hS dX7_changeClass_25
    · have hf := (if_neg c15).symm.trans hf
      refine lv_aload_n hx hb dX7_changeClass_18 rfl (lv_at hl 1 rfl) ?_
      obtain ⟨v19, e19, hf⟩ := zb hf
      refine zr_gr (ci := 7) (k := 1) (C := RX7) (T := TX7) (N := 2) hx hb hts hi_X7_changeClass_7 hown hK hP e19 rfl rfl (by decide) (by decide) (hts (.fieldLink RX7 20 "BoundaryAnalyzer$Text" "classes" "[I") (List.mem_of_getElem? (i := 1) rfl)) dX7_changeClass_19 ?_
      refine lv_iload_n hx hb dX7_changeClass_22 rfl (lv_at hl 0 rfl) ?_
      refine lv_iload_n hx hb dX7_changeClass_23 rfl (lv_at hl 3 rfl) ?_
      obtain ⟨M24, e24, hf⟩ := zb hf
      refine zr_si hx hb hK hP hS e24 dX7_changeClass_24 (fun H locs hP _ hS => ?_)
      exact zret_v hx hb hr hlocks hf hP hS dX7_changeClass_25
theorem hi_X7_classAt_4 : ∀ w ∈ wsX40, w ∈ wsX7_classAt := fun _ h => List.mem_cons_of_mem _ (List.mem_append_right _ h)
theorem hi_X7_classAt_7 : ∀ w ∈ wsX70, w ∈ wsX7_classAt := fun _ h => List.mem_cons_of_mem _ (List.mem_append_left _ (List.mem_append_right _ h))
set_option maxHeartbeats 4000000 in
set_option maxRecDepth 100000 in
theorem k_X7_classAt (l : Launch) (D : va_G) (cy : Nat → ClassId) (b : Nat) (M0 : Mem) (h0 : Nat) (x1 : Int32) (rr : Int32 × Mem) (hf : fX7_classAt M0 h0 x1 = some rr) : Met l yX7_classAt wsX7_classAt ({ frames := 1, cells := 0, slots := 0, locals := 22 } : Room) (zPc D cy b M0 [.ref (b + h0), .int x1]) (zQi D cy b rr) 0 0 (zA b) := by
  refine Met.ofW (cc := cX7_classAt) (maxL := 2) (ret := (some .int)) (by decide) rfl ?_
  intro p e s m args below meth c s₁ B hml hv
  obtain ⟨rfl, hP, hK⟩ := hv
  have hx := B.exec
  have hb := B.bytes
  have hr := B.returns
  have hts := atoms_spec (ws := wsX7_classAt) B.pre
  have hown : s.vm.findClass RX7 = some m.cls := findClass_of_methodNamed B.named
  have hlocks := B.notSynchronized
  have hS : va_S (zA b) s.heap s.heap [] := va_S.rf
  have hl := lv_entry ([.ref (b + h0), .int x1]) (n := 2) (Nat.le_of_ble_eq_true rfl)
  rw [lg_entry_eq]
  generalize (lg_sl ([.ref (b + h0), .int x1]) ++ List.replicate (2 - (lg_sl ([.ref (b + h0), .int x1])).length) Slot.unset).toArray = ls at hl ⊢
  have hl : lv_has ls 2 [(0, .ref (b + h0)), (1, .int x1)] := hl
  unfold fX7_classAt at hf
  refine lv_aload_n hx hb dX7_classAt_0 rfl (lv_at hl 0 rfl) ?_
  refine lv_aload_n hx hb dX7_classAt_1 rfl (lv_at hl 0 rfl) ?_
  obtain ⟨v2, e2, hf⟩ := zb hf
  refine zr_gr (ci := 7) (k := 0) (C := RX7) (T := TX7) (N := 2) hx hb hts hi_X7_classAt_7 hown hK hP e2 rfl rfl (by decide) (by decide) (hts (.fieldLink RX7 14 "BoundaryAnalyzer$Text" "signs" "LBoundaryAnalyzer$Row;") (List.mem_of_getElem? (i := 1) rfl)) dX7_classAt_2 ?_
  refine lv_iload_n hx hb dX7_classAt_5 rfl (lv_at hl 1 rfl) ?_
  obtain ⟨u6, t6, hf⟩ := zb hf
  obtain ⟨r6, e6, hf⟩ := zb hf
  refine zc_i hS (va_runV (As := [.int x1]) (rest := [.ref (b + h0)]) ⟨hx, hb, hml, hown, hts⟩ (k_X4_at l D cy b M0 v2 x1 r6 e6) (cwV 1 hts gX7_classAt_X4_at rfl rfl rfl (by decide +kernel) ⟨Nat.le_of_ble_eq_true rfl, Nat.le_of_ble_eq_true rfl⟩) (zp_V _ hK hP t6 (T := TX4) (N := 2) rfl (by decide)) rfl rfl hl.1 rfl (lv_room (Nat.le_of_ble_eq_true rfl)) dX7_classAt_6 ⟨Nat.zero_le _, Nat.zero_le _⟩) (fun H locs hP hS => ?_)
  obtain ⟨u9, t9, hf⟩ := zb hf
  obtain ⟨r9, e9, hf⟩ := zb hf
  refine zc_i hS (va_runV (As := [.int r6.1]) (rest := []) ⟨hx, hb, hml, hown, hts⟩ (k_X7_classOfCharacter l D cy b r6.2 h0 r6.1 r9 e9) (cwV 1 hts gX7_classAt_X7_classOfCharacter rfl rfl rfl (by decide +kernel) ⟨Nat.le_of_ble_eq_true rfl, Nat.le_of_ble_eq_true rfl⟩) (zp_V _ hK hP t9 (T := TX7) (N := 2) rfl (by decide)) rfl rfl hl.1 rfl (lv_room (Nat.le_of_ble_eq_true rfl)) dX7_classAt_9 ⟨Nat.zero_le _, Nat.zero_le _⟩) (fun H locs hP hS => ?_)
  exact zret_i hx hb hr hlocks hf hP hS dX7_classAt_12
theorem hi_X5_init_3 : ∀ w ∈ wsX30, w ∈ wsX5_init := fun _ h => List.mem_cons_of_mem _ (List.mem_append_right _ h)
theorem hi_X5_init_4 : ∀ w ∈ wsX40, w ∈ wsX5_init := fun _ h => List.mem_cons_of_mem _ (List.mem_append_left _ (List.mem_append_left _ (List.mem_append_right _ h)))
theorem hi_X5_init_5 : ∀ w ∈ wsX50, w ∈ wsX5_init := fun _ h => List.mem_cons_of_mem _ (List.mem_append_left _ (List.mem_append_right _ h))
set_option maxHeartbeats 4000000 in
set_option maxRecDepth 100000 in
theorem k_X5_init (l : Launch) (D : va_G) (cy : Nat → ClassId) (b : Nat) (M0 : Mem) (h0 : Nat) (rr : Mem) (hf : fX5_init M0 h0 = some rr) : Met l yX5_init wsX5_init ({ frames := 2, cells := 8, slots := 24000, locals := 61 } : Room) (zPn D cy b M0 [.ref (b + h0)]) (zQn D cy b rr) 8 24000 (zA b) := by
  refine Met.ofW (cc := cX5_init) (maxL := 1) (ret := none) (by decide) rfl ?_
  intro p e s m args below meth c s₁ B hml hv
  obtain ⟨rfl, hP, hK, hz⟩ := hv
  have hx := B.exec
  have hb := B.bytes
  have hr := B.returns
  have hts := atoms_spec (ws := wsX5_init) B.pre
  have hown : s.vm.findClass RX5 = some m.cls := findClass_of_methodNamed B.named
  have hlocks := B.notSynchronized
  have hin : meth.name = "<init>" := (name_of_methodNamed B.named B.method).1
  have hS : va_S (zA b) s.heap s.heap [] := va_S.rf
  have hl := lv_entry ([.ref (b + h0)]) (n := 1) (Nat.le_of_ble_eq_true rfl)
  rw [lg_entry_eq]
  generalize (lg_sl ([.ref (b + h0)]) ++ List.replicate (1 - (lg_sl ([.ref (b + h0)])).length) Slot.unset).toArray = ls at hl ⊢
  have hl : lv_has ls 1 [(0, .ref (b + h0))] := hl
  have hn : M0.1 ≤ M0.1 := Nat.le_refl _
  have hu : M0.1 ≤ M0.1 + 8 := by omega
  refine W.widen (k := M0.1 - M0.1) (n := 3000 * (M0.1 - M0.1)) (by omega) (by omega) ?_
  unfold fX5_init at hf
  refine lv_aload_n hx hb dX5_init_0 rfl (lv_at hl 0 rfl) ?_
  refine W.objInit hx hb hown (hts (.methodLink RX5 3 objectInit) (List.mem_of_getElem? (i := 1) rfl)) (hts (.instanceMethod objectInit) (List.mem_of_getElem? (i := 2) rfl)) (hts _ (List.mem_of_getElem? (i := 3) rfl)) rfl (by rw [hml]; exact hl.1) rfl dX5_init_1 (Nat.le_of_ble_eq_true rfl) (Nat.le_of_ble_eq_true rfl) ?_
  refine W.eq (g2 := F0 m 4 ls []) rfl ?_
  refine lv_aload_n hx hb dX5_init_4 rfl (lv_at hl 0 rfl) ?_
  obtain ⟨M5, e5, hf⟩ := zb hf
  refine zr_no (ci := 4) (C := RX4) (T := TX4) (N := 2) hx hb hts hi_X5_init_4 tyX4 tyX4_ok hown (hts (.classLink RX5 9 RX4) (List.mem_of_getElem? (i := 4) rfl)) (hts (.instantiable RX4 2) (List.mem_of_getElem? (i := 5) rfl)) (hts (.initialized RX4) (List.mem_of_getElem? (i := 6) rfl)) hK hP hz hS e5 rfl (by decide) (fun j hj => by rcases (show j = 0 ∨ j = 1 by omega) with rfl | rfl <;> rfl) (fun h9 => by show _ ≤ 8; omega) (fun h9 => by show _ ≤ 24000; omega) dX5_init_5 (fun H hP hz hS hq h9 => ?_)
  have hn : M0.1 ≤ M5.1 := by omega
  have hu : M5.1 ≤ M0.1 + 8 := by omega
  refine W.widen (k := M5.1 - M0.1) (n := 3000 * (M5.1 - M0.1)) (by omega) (by omega) ?_
  refine lv_dup hx hb dX5_init_8 rfl ?_
  refine lv_bipush (v := (24 : Int32)) hx hb dX5_init_9 (by decide) ?_
  obtain ⟨M11, e11, hf⟩ := zb hf
  obtain ⟨u11, r11, hf⟩ := zb hf
  obtain ⟨hq, h9⟩ := zcg_s r11
  refine zc_n hS (va_runI (As := [.int (24 : Int32)]) (rest := [.ref (b + M0.1), .ref (b + h0)]) ⟨hx, hb, hml, hown, hts⟩ (k_X4_init l D cy b M5 M0.1 (24 : Int32) M11 e11) (cwI 1 hts gX5_init_X4_init rfl rfl rfl (hts (.initialized RX4) (List.mem_of_getElem? (i := 6) rfl)) (hts (.methodLink RX5 11 yX4_init) (List.mem_of_getElem? (i := 18) rfl)) (hts (.instanceMethod yX4_init) (List.mem_of_getElem? (i := 19) rfl)) rfl (by decide +kernel) ⟨Nat.le_of_ble_eq_true rfl, Nat.le_of_ble_eq_true rfl⟩) (zp_N _ hK hP hz) rfl rfl hl.1 rfl (lv_room (Nat.le_of_ble_eq_true rfl)) dX5_init_11 ⟨by show _ ≤ 8; omega, by show _ ≤ 24000; omega⟩) (fun H locs hP hz hS => ?_)
  have hn : M0.1 ≤ M11.1 := by omega
  have hu : M11.1 ≤ M0.1 + 8 := by omega
  refine W.widen (k := M11.1 - M0.1) (n := 3000 * (M11.1 - M0.1)) (by omega) (by omega) ?_
  obtain ⟨M14, e14, hf⟩ := zb hf
  refine zr_pr (ci := 5) (k := 0) (C := RX5) (T := TX5) (N := 9) hx hb hts hi_X5_init_5 tyX5 tyX5_ok nmX5 hown hK hP hS e14 rfl rfl (by decide) (by decide) (hts (.fieldLink RX5 14 "BoundaryAnalyzer$Rule" "signs" "LBoundaryAnalyzer$Row;") (List.mem_of_getElem? (i := 7) rfl)) (Or.inr ⟨rfl, hin, rfl⟩) (tyX5_ok 0 (by decide)) rfl rfl dX5_init_14 (fun H locs hP hz1 hS => ?_)
  rw [hz] at hz1; have hz := hz1
  have hq := zpR_n e14
  rw [← hq] at hn hu hz
  refine W.widen (k := M14.1 - M0.1) (n := 3000 * (M14.1 - M0.1)) (by omega) (by omega) ?_
  refine lv_aload_n hx hb dX5_init_17 rfl (lv_at hl 0 rfl) ?_
  obtain ⟨M18, e18, hf⟩ := zb hf
  refine zr_no (ci := 3) (C := RX3) (T := TX3) (N := 3) hx hb hts hi_X5_init_3 tyX3 tyX3_ok hown (hts (.classLink RX5 20 RX3) (List.mem_of_getElem? (i := 8) rfl)) (hts (.instantiable RX3 3) (List.mem_of_getElem? (i := 9) rfl)) (hts (.initialized RX3) (List.mem_of_getElem? (i := 10) rfl)) hK hP hz hS e18 rfl (by decide) (fun j hj => by rcases (show j = 0 ∨ j = 1 ∨ j = 2 by omega) with rfl | rfl | rfl <;> rfl) (fun h9 => by show _ ≤ 8; omega) (fun h9 => by show _ ≤ 24000; omega) dX5_init_18 (fun H hP hz hS hq h9 => ?_)
  have hn : M0.1 ≤ M18.1 := by omega
  have hu : M18.1 ≤ M0.1 + 8 := by omega
  refine W.widen (k := M18.1 - M0.1) (n := 3000 * (M18.1 - M0.1)) (by omega) (by omega) ?_
  refine lv_dup hx hb dX5_init_21 rfl ?_
  obtain ⟨M22, e22, hf⟩ := zb hf
  obtain ⟨u22, r22, hf⟩ := zb hf
  obtain ⟨hq, h9⟩ := zcg_s r22
  refine zc_n hS (va_runIN (As := []) (rest := [.ref (b + M14.1), .ref (b + h0)]) ⟨hx, hb, hml, hown, hts⟩ (k_X3_init l D cy b M18 M14.1  M22 e22) ⟨va_cnB 0 hts gX5_init_X3_init_n22 rfl rfl rfl (hK.2.1 _ (List.mem_of_getElem? (i := 1) rfl)) (hts (.initialized RX3) (List.mem_of_getElem? (i := 10) rfl)) (by decide +kernel) ⟨Nat.le_of_ble_eq_true rfl, Nat.le_of_ble_eq_true rfl⟩, rfl, (hts (.instanceMethod yX3_init) (List.mem_of_getElem? (i := 28) rfl))⟩ (zp_N _ hK hP hz) rfl rfl hl.1 rfl (lv_room (Nat.le_of_ble_eq_true rfl)) dX5_init_22 ⟨by show _ ≤ 8; omega, by show _ ≤ 24000; omega⟩) (fun H locs hP hz hS => ?_)
  have hn : M0.1 ≤ M22.1 := by omega
  have hu : M22.1 ≤ M0.1 + 8 := by omega
  refine W.widen (k := M22.1 - M0.1) (n := 3000 * (M22.1 - M0.1)) (by omega) (by omega) ?_
  obtain ⟨M25, e25, hf⟩ := zb hf
  refine zr_pr (ci := 5) (k := 1) (C := RX5) (T := TX5) (N := 9) hx hb hts hi_X5_init_5 tyX5 tyX5_ok nmX5 hown hK hP hS e25 rfl rfl (by decide) (by decide) (hts (.fieldLink RX5 23 "BoundaryAnalyzer$Rule" "body" "LBoundaryAnalyzer$Part;") (List.mem_of_getElem? (i := 11) rfl)) (Or.inr ⟨rfl, hin, rfl⟩) (tyX5_ok 1 (by decide)) rfl rfl dX5_init_25 (fun H locs hP hz1 hS => ?_)
  rw [hz] at hz1; have hz := hz1
  have hq := zpR_n e25
  rw [← hq] at hn hu hz
  refine W.widen (k := M25.1 - M0.1) (n := 3000 * (M25.1 - M0.1)) (by omega) (by omega) ?_
  refine lv_aload_n hx hb dX5_init_28 rfl (lv_at hl 0 rfl) ?_
  obtain ⟨M29, e29, hf⟩ := zb hf
  refine zr_no (ci := 3) (C := RX3) (T := TX3) (N := 3) hx hb hts hi_X5_init_3 tyX3 tyX3_ok hown (hts (.classLink RX5 20 RX3) (List.mem_of_getElem? (i := 8) rfl)) (hts (.instantiable RX3 3) (List.mem_of_getElem? (i := 9) rfl)) (hts (.initialized RX3) (List.mem_of_getElem? (i := 10) rfl)) hK hP hz hS e29 rfl (by decide) (fun j hj => by rcases (show j = 0 ∨ j = 1 ∨ j = 2 by omega) with rfl | rfl | rfl <;> rfl) (fun h9 => by show _ ≤ 8; omega) (fun h9 => by show _ ≤ 24000; omega) dX5_init_29 (fun H hP hz hS hq h9 => ?_)
  have hn : M0.1 ≤ M29.1 := by omega
  have hu : M29.1 ≤ M0.1 + 8 := by omega
  refine W.widen (k := M29.1 - M0.1) (n := 3000 * (M29.1 - M0.1)) (by omega) (by omega) ?_
  refine lv_dup hx hb dX5_init_32 rfl ?_
  obtain ⟨M33, e33, hf⟩ := zb hf
  obtain ⟨u33, r33, hf⟩ := zb hf
  obtain ⟨hq, h9⟩ := zcg_s r33
  refine zc_n hS (va_runIN (As := []) (rest := [.ref (b + M25.1), .ref (b + h0)]) ⟨hx, hb, hml, hown, hts⟩ (k_X3_init l D cy b M29 M25.1  M33 e33) ⟨va_cnB 0 hts gX5_init_X3_init_n22 rfl rfl rfl (hK.2.1 _ (List.mem_of_getElem? (i := 1) rfl)) (hts (.initialized RX3) (List.mem_of_getElem? (i := 10) rfl)) (by decide +kernel) ⟨Nat.le_of_ble_eq_true rfl, Nat.le_of_ble_eq_true rfl⟩, rfl, (hts (.instanceMethod yX3_init) (List.mem_of_getElem? (i := 28) rfl))⟩ (zp_N _ hK hP hz) rfl rfl hl.1 rfl (lv_room (Nat.le_of_ble_eq_true rfl)) dX5_init_33 ⟨by show _ ≤ 8; omega, by show _ ≤ 24000; omega⟩) (fun H locs hP hz hS => ?_)
  have hn : M0.1 ≤ M33.1 := by omega
  have hu : M33.1 ≤ M0.1 + 8 := by omega
  refine W.widen (k := M33.1 - M0.1) (n := 3000 * (M33.1 - M0.1)) (by omega) (by omega) ?_
  obtain ⟨M36, e36, hf⟩ := zb hf
  refine zr_pr (ci := 5) (k := 2) (C := RX5) (T := TX5) (N := 9) hx hb hts hi_X5_init_5 tyX5 tyX5_ok nmX5 hown hK hP hS e36 rfl rfl (by decide) (by decide) (hts (.fieldLink RX5 27 "BoundaryAnalyzer$Rule" "ahead" "LBoundaryAnalyzer$Part;") (List.mem_of_getElem? (i := 12) rfl)) (Or.inr ⟨rfl, hin, rfl⟩) (tyX5_ok 2 (by decide)) rfl rfl dX5_init_36 (fun H locs hP hz1 hS => ?_)
  rw [hz] at hz1; have hz := hz1
  have hq := zpR_n e36
  rw [← hq] at hn hu hz
  refine W.widen (k := M36.1 - M0.1) (n := 3000 * (M36.1 - M0.1)) (by omega) (by omega) ?_
  refine lv_aload_n hx hb dX5_init_39 rfl (lv_at hl 0 rfl) ?_
  refine lv_bipush (v := (24 : Int32)) hx hb dX5_init_40 (by decide) ?_
  obtain ⟨M42, e42, hf⟩ := zb hf
  refine zr_na (atype := .int) (ty := .int) (t0 := 1) hx hb rfl (hts (.arrayClass .int) (List.mem_of_getElem? (i := 13) rfl)) hK hP hz hS e42 rfl (Or.inr (Or.inl ⟨rfl, rfl⟩)) (zsL_max _) (fun h9 => by show _ ≤ 8; omega) (fun h9 => by show _ ≤ 24000; omega) dX5_init_42 (fun H hP hz hS hq h9 => ?_)
  have hn : M0.1 ≤ M42.1 := by omega
  have hu : M42.1 ≤ M0.1 + 8 := by omega
  refine W.widen (k := M42.1 - M0.1) (n := 3000 * (M42.1 - M0.1)) (by omega) (by omega) ?_
  obtain ⟨M44, e44, hf⟩ := zb hf
  refine zr_pr (ci := 5) (k := 3) (C := RX5) (T := TX5) (N := 9) hx hb hts hi_X5_init_5 tyX5 tyX5_ok nmX5 hown hK hP hS e44 rfl rfl (by decide) (by decide) (hts (.fieldLink RX5 30 "BoundaryAnalyzer$Rule" "followers" "[I") (List.mem_of_getElem? (i := 14) rfl)) (Or.inr ⟨rfl, hin, rfl⟩) (tyX5_ok 3 (by decide)) rfl rfl dX5_init_44 (fun H locs hP hz1 hS => ?_)
  rw [hz] at hz1; have hz := hz1
  have hq := zpR_n e44
  rw [← hq] at hn hu hz
  refine W.widen (k := M44.1 - M0.1) (n := 3000 * (M44.1 - M0.1)) (by omega) (by omega) ?_
  refine lv_aload_n hx hb dX5_init_47 rfl (lv_at hl 0 rfl) ?_
  refine lv_bipush (v := (12 : Int32)) hx hb dX5_init_48 (by decide) ?_
  obtain ⟨M50, e50, hf⟩ := zb hf
  refine zr_na (atype := .int) (ty := .int) (t0 := 1) hx hb rfl (hts (.arrayClass .int) (List.mem_of_getElem? (i := 13) rfl)) hK hP hz hS e50 rfl (Or.inr (Or.inl ⟨rfl, rfl⟩)) (zsL_max _) (fun h9 => by show _ ≤ 8; omega) (fun h9 => by show _ ≤ 24000; omega) dX5_init_50 (fun H hP hz hS hq h9 => ?_)
  have hn : M0.1 ≤ M50.1 := by omega
  have hu : M50.1 ≤ M0.1 + 8 := by omega
  refine W.widen (k := M50.1 - M0.1) (n := 3000 * (M50.1 - M0.1)) (by omega) (by omega) ?_
  obtain ⟨M52, e52, hf⟩ := zb hf
  refine zr_pr (ci := 5) (k := 4) (C := RX5) (T := TX5) (N := 9) hx hb hts hi_X5_init_5 tyX5 tyX5_ok nmX5 hown hK hP hS e52 rfl rfl (by decide) (by decide) (hts (.fieldLink RX5 34 "BoundaryAnalyzer$Rule" "takers" "[I") (List.mem_of_getElem? (i := 15) rfl)) (Or.inr ⟨rfl, hin, rfl⟩) (tyX5_ok 4 (by decide)) rfl rfl dX5_init_52 (fun H locs hP hz1 hS => ?_)
  rw [hz] at hz1; have hz := hz1
  have hq := zpR_n e52
  rw [← hq] at hn hu hz
  refine W.widen (k := M52.1 - M0.1) (n := 3000 * (M52.1 - M0.1)) (by omega) (by omega) ?_
  refine lv_aload_n hx hb dX5_init_55 rfl (lv_at hl 0 rfl) ?_
  refine lv_bipush (v := (24 : Int32)) hx hb dX5_init_56 (by decide) ?_
  obtain ⟨M58, e58, hf⟩ := zb hf
  refine zr_na (atype := .int) (ty := .int) (t0 := 1) hx hb rfl (hts (.arrayClass .int) (List.mem_of_getElem? (i := 13) rfl)) hK hP hz hS e58 rfl (Or.inr (Or.inl ⟨rfl, rfl⟩)) (zsL_max _) (fun h9 => by show _ ≤ 8; omega) (fun h9 => by show _ ≤ 24000; omega) dX5_init_58 (fun H hP hz hS hq h9 => ?_)
  have hn : M0.1 ≤ M58.1 := by omega
  have hu : M58.1 ≤ M0.1 + 8 := by omega
  refine W.widen (k := M58.1 - M0.1) (n := 3000 * (M58.1 - M0.1)) (by omega) (by omega) ?_
  obtain ⟨M60, e60, hf⟩ := zb hf
  refine zr_pr (ci := 5) (k := 5) (C := RX5) (T := TX5) (N := 9) hx hb hts hi_X5_init_5 tyX5 tyX5_ok nmX5 hown hK hP hS e60 rfl rfl (by decide) (by decide) (hts (.fieldLink RX5 37 "BoundaryAnalyzer$Rule" "waiting" "[I") (List.mem_of_getElem? (i := 16) rfl)) (Or.inl rfl) (tyX5_ok 5 (by decide)) rfl rfl dX5_init_60 (fun H locs hP hz1 hS => ?_)
  rw [hz] at hz1; have hz := hz1
  have hq := zpR_n e60
  rw [← hq] at hn hu hz
  refine W.widen (k := M60.1 - M0.1) (n := 3000 * (M60.1 - M0.1)) (by omega) (by omega) ?_
  refine lv_aload_n hx hb dX5_init_63 rfl (lv_at hl 0 rfl) ?_
  refine lv_bipush (v := (24 : Int32)) hx hb dX5_init_64 (by decide) ?_
  obtain ⟨M66, e66, hf⟩ := zb hf
  refine zr_na (atype := .int) (ty := .int) (t0 := 1) hx hb rfl (hts (.arrayClass .int) (List.mem_of_getElem? (i := 13) rfl)) hK hP hz hS e66 rfl (Or.inr (Or.inl ⟨rfl, rfl⟩)) (zsL_max _) (fun h9 => by show _ ≤ 8; omega) (fun h9 => by show _ ≤ 24000; omega) dX5_init_66 (fun H hP hz hS hq h9 => ?_)
  have hn : M0.1 ≤ M66.1 := by omega
  have hu : M66.1 ≤ M0.1 + 8 := by omega
  refine W.widen (k := M66.1 - M0.1) (n := 3000 * (M66.1 - M0.1)) (by omega) (by omega) ?_
  obtain ⟨M68, e68, hf⟩ := zb hf
  refine zr_pr (ci := 5) (k := 6) (C := RX5) (T := TX5) (N := 9) hx hb hts hi_X5_init_5 tyX5 tyX5_ok nmX5 hown hK hP hS e68 rfl rfl (by decide) (by decide) (hts (.fieldLink RX5 40 "BoundaryAnalyzer$Rule" "waitingThen" "[I") (List.mem_of_getElem? (i := 17) rfl)) (Or.inl rfl) (tyX5_ok 6 (by decide)) rfl rfl dX5_init_68 (fun H locs hP hz1 hS => ?_)
  rw [hz] at hz1; have hz := hz1
  have hq := zpR_n e68
  rw [← hq] at hn hu hz
  refine W.widen (k := M68.1 - M0.1) (n := 3000 * (M68.1 - M0.1)) (by omega) (by omega) ?_
  refine W.widen (k := 8) (n := 24000) (by omega) (by omega) ?_
  exact zret_n hx hb hr hlocks hf hP hz hS dX5_init_71
theorem hi_X5_isSet_4 : ∀ w ∈ wsX40, w ∈ wsX5_isSet := fun _ h => List.mem_cons_of_mem _ (List.mem_append_right _ h)
theorem hi_X5_isSet_5 : ∀ w ∈ wsX50, w ∈ wsX5_isSet := fun _ h => List.mem_cons_of_mem _ (List.mem_append_left _ (List.mem_append_right _ h))
set_option maxHeartbeats 4000000 in
set_option maxRecDepth 100000 in
theorem k_X5_isSet (l : Launch) (D : va_G) (cy : Nat → ClassId) (b : Nat) (M0 : Mem) (h0 : Nat) (rr : Int32 × Mem) (hf : fX5_isSet M0 h0 = some rr) : Met l yX5_isSet wsX5_isSet ({ frames := 0, cells := 0, slots := 0, locals := 0 } : Room) (zPc D cy b M0 [.ref (b + h0)]) (zQi D cy b rr) 0 0 (zA b) := by
  refine Met.ofW (cc := cX5_isSet) (maxL := 1) (ret := (some .boolean)) (by decide) rfl ?_
  intro p e s m args below meth c s₁ B hml hv
  obtain ⟨rfl, hP, hK⟩ := hv
  have hx := B.exec
  have hb := B.bytes
  have hr := B.returns
  have hts := atoms_spec (ws := wsX5_isSet) B.pre
  have hown : s.vm.findClass RX5 = some m.cls := findClass_of_methodNamed B.named
  have hlocks := B.notSynchronized
  have hS : va_S (zA b) s.heap s.heap [] := va_S.rf
  have hl := lv_entry ([.ref (b + h0)]) (n := 1) (Nat.le_of_ble_eq_true rfl)
  rw [lg_entry_eq]
  generalize (lg_sl ([.ref (b + h0)]) ++ List.replicate (1 - (lg_sl ([.ref (b + h0)])).length) Slot.unset).toArray = ls at hl ⊢
  have hl : lv_has ls 1 [(0, .ref (b + h0))] := hl
  unfold fX5_isSet at hf
  refine lv_aload_n hx hb dX5_isSet_0 rfl (lv_at hl 0 rfl) ?_
  obtain ⟨v1, e1, hf⟩ := zb hf
  refine zr_gr (ci := 5) (k := 0) (C := RX5) (T := TX5) (N := 9) hx hb hts hi_X5_isSet_5 hown hK hP e1 rfl rfl (by decide) (by decide) (hts (.fieldLink RX5 14 "BoundaryAnalyzer$Rule" "signs" "LBoundaryAnalyzer$Row;") (List.mem_of_getElem? (i := 1) rfl)) dX5_isSet_1 ?_
  obtain ⟨v4, e4, hf⟩ := zb hf
  refine zr_gi (ci := 4) (k := 1) (C := RX4) (T := TX4) (N := 2) hx hb hts hi_X5_isSet_4 hown hK hP e4 rfl rfl (by decide) (by decide) (hts (.fieldLink RX5 43 "BoundaryAnalyzer$Row" "size" "I") (List.mem_of_getElem? (i := 2) rfl)) dX5_isSet_4 ?_
  refine lv_if_le (tgt := 14) hx hb dX5_isSet_7 (by decide) (fun c7 => ?_) (fun c7 => ?_)
  · have hf := (if_pos c7).symm.trans hf
    refine lv_iconst (v := (0 : Int32)) hx hb dX5_isSet_14 (by decide) ?_
    exact zret_z hx hb hr (Or.inl rfl) hlocks hf hP hS dX5_isSet_15
  · have hf := (if_neg c7).symm.trans hf
    refine lv_iconst (v := (1 : Int32)) hx hb dX5_isSet_10 (by decide) ?_
    refine lv_goto (tgt := 15) hx hb dX5_isSet_11 (by decide) ?_
    exact zret_z hx hb hr (Or.inl rfl) hlocks hf hP hS dX5_isSet_15
set_option maxHeartbeats 4000000 in
set_option maxRecDepth 100000 in
theorem k_X8_isClass (l : Launch) (x0 : Int32) (rr : Int32) (hf : fX8_isClass x0 = some rr) : Met l yX8_isClass wsX8_isClass ({ frames := 0, cells := 0, slots := 0, locals := 0 } : Room) (zPp [.int x0]) (zQp rr) 0 0 zNo := by
  refine Met.ofW (cc := cX8_isClass) (maxL := 1) (ret := (some .boolean)) (by decide) rfl ?_
  intro p e s m args below meth c s₁ B hml hv
  obtain ⟨rfl, -⟩ := hv
  have hx := B.exec
  have hb := B.bytes
  have hr := B.returns
  have hts := atoms_spec (ws := wsX8_isClass) B.pre
  have hown : s.vm.findClass RX8 = some m.cls := findClass_of_methodNamed B.named
  have hlocks := B.notSynchronized
  have hl := lv_entry ([.int x0]) (n := 1) (Nat.le_of_ble_eq_true rfl)
  rw [lg_entry_eq]
  generalize (lg_sl ([.int x0]) ++ List.replicate (1 - (lg_sl ([.int x0])).length) Slot.unset).toArray = ls at hl ⊢
  have hl : lv_has ls 1 [(0, .int x0)] := hl
  unfold fX8_isClass at hf
  refine lv_iload_n hx hb dX8_isClass_0 rfl (lv_at hl 0 rfl) ?_
  refine lv_if_lt (tgt := 14) hx hb dX8_isClass_1 (by decide) (fun c1 => ?_) (fun c1 => ?_)
  · have hf := (if_pos c1).symm.trans hf
    refine lv_iconst (v := (0 : Int32)) hx hb dX8_isClass_14 (by decide) ?_
    exact zret_pz hx hb hr (Or.inl rfl) hlocks hf dX8_isClass_15
  · have hf := (if_neg c1).symm.trans hf
    refine lv_iload_n hx hb dX8_isClass_4 rfl (lv_at hl 0 rfl) ?_
    refine lv_bipush (v := (12 : Int32)) hx hb dX8_isClass_5 (by decide) ?_
    refine lv_icmp_ge (tgt := 14) hx hb dX8_isClass_7 (by decide) (fun c7 => ?_) (fun c7 => ?_)
    · have hf := (if_pos c7).symm.trans hf
      refine lv_iconst (v := (0 : Int32)) hx hb dX8_isClass_14 (by decide) ?_
      exact zret_pz hx hb hr (Or.inl rfl) hlocks hf dX8_isClass_15
    · have hf := (if_neg c7).symm.trans hf
      refine lv_iconst (v := (1 : Int32)) hx hb dX8_isClass_10 (by decide) ?_
      refine lv_goto (tgt := 15) hx hb dX8_isClass_11 (by decide) ?_
      exact zret_pz hx hb hr (Or.inl rfl) hlocks hf dX8_isClass_15
