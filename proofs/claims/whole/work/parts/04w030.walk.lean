theorem hi_X8_insert_0 : ∀ w ∈ wsX00, w ∈ wsX8_insert := fun _ h => List.mem_cons_of_mem _ (List.mem_append_left _ (List.mem_append_left _ (List.mem_append_left _ (List.mem_append_left _ (List.mem_append_right _ h)))))
theorem hi_X8_insert_1 : ∀ w ∈ wsX10, w ∈ wsX8_insert := fun _ h => List.mem_cons_of_mem _ (List.mem_append_left _ (List.mem_append_left _ (List.mem_append_left _ (List.mem_append_right _ h))))
theorem hi_X8_insert_4 : ∀ w ∈ wsX40, w ∈ wsX8_insert := fun _ h => List.mem_cons_of_mem _ (List.mem_append_left _ (List.mem_append_left _ (List.mem_append_left _ (List.mem_append_left _ (List.mem_append_left _ (List.mem_append_right _ h))))))
theorem hi_X8_insert_7 : ∀ w ∈ wsX70, w ∈ wsX8_insert := fun _ h => List.mem_cons_of_mem _ (List.mem_append_left _ (List.mem_append_left _ (List.mem_append_left _ (List.mem_append_left _ (List.mem_append_left _ (List.mem_append_left _ (List.mem_append_right _ h)))))))
theorem hi_X8_insert_8 : ∀ w ∈ wsX80, w ∈ wsX8_insert := fun _ h => List.mem_cons_of_mem _ (List.mem_append_left _ (List.mem_append_left _ (List.mem_append_left _ (List.mem_append_left _ (List.mem_append_left _ (List.mem_append_left _ (List.mem_append_left _ (List.mem_append_right _ h))))))))
set_option maxHeartbeats 4000000 in
set_option maxRecDepth 100000 in
theorem k_X8_insert (l : Launch) (D : va_G) (cy : Nat → ClassId) (b : Nat) (M0 : Mem) (p0 : Nat) (p1 : Int32) (p2 : Int32) (rr : Int32 × Mem) (hf : fX8_insert M0 p0 p1 p2 = some rr) : Met l yX8_insert wsX8_insert ({ frames := 6, cells := 0, slots := 0, locals := 171 } : Room) (zPc D cy b M0 [.ref (b + p0), .int p1, .int p2]) (zQi D cy b rr) 0 0 (zA b) := by
  refine Met.ofW (cc := cX8_insert) (maxL := 4) (ret := (some .int)) (by decide) rfl ?_
  intro p e s m args below meth c s₁ B hml hv
  obtain ⟨rfl, hP, hK⟩ := hv
  have hx := B.exec
  have hb := B.bytes
  have hr := B.returns
  have hts := atoms_spec (ws := wsX8_insert) B.pre
  have hown : s.vm.findClass RX8 = some m.cls := findClass_of_methodNamed B.named
  have hlocks := B.notSynchronized
  have hS : va_S (zA b) s.heap s.heap [] := va_S.rf
  have hl := lv_entry ([.ref (b + p0), .int p1, .int p2]) (n := 4) (Nat.le_of_ble_eq_true rfl)
  rw [lg_entry_eq]
  generalize (lg_sl ([.ref (b + p0), .int p1, .int p2]) ++ List.replicate (4 - (lg_sl ([.ref (b + p0), .int p1, .int p2])).length) Slot.unset).toArray = ls at hl ⊢
  have hl : lv_has ls 4 [(0, .ref (b + p0)), (1, .int p1), (2, .int p2)] := hl
  unfold fX8_insert at hf
  refine lv_aload_n hx hb dX8_insert_0 rfl (lv_at hl 0 rfl) ?_
  refine lv_iload_n hx hb dX8_insert_1 rfl (lv_at hl 1 rfl) ?_
  obtain ⟨u2, t2, hf⟩ := zb hf
  obtain ⟨r2, e2, hf⟩ := zb hf
  refine zc_i hS (va_runV (As := [.int p1]) (rest := []) ⟨hx, hb, hml, hown, hts⟩ (k_X8_isPosition l D cy b M0 p0 p1 r2 e2) (cwV 1 hts gX8_insert_X8_isPosition rfl rfl rfl (by decide +kernel) ⟨Nat.le_of_ble_eq_true rfl, Nat.le_of_ble_eq_true rfl⟩) (zp_V _ hK hP t2 (T := TX8) (N := 7) rfl (by decide)) rfl rfl hl.1 rfl (lv_room (Nat.le_of_ble_eq_true rfl)) dX8_insert_2 ⟨Nat.zero_le _, Nat.zero_le _⟩) (fun H locs hP hS => ?_)
  refine lv_if_ne (tgt := 10) hx hb dX8_insert_5 (by decide) (fun c5 => ?_) (fun c5 => ?_)
  · have hf := (if_neg c5).symm.trans hf
    refine lv_iload_n hx hb dX8_insert_10 rfl (lv_at hl 2 rfl) ?_
    obtain ⟨v11, e11, hf⟩ := zb hf
    refine zc_p (va_runS (As := [.int p2]) (rest := []) ⟨hx, hb, hml, hown, hts⟩ (k_X8_isCharacter l p2 v11 e11) (va_cwS 1 hts gX8_insert_X8_isCharacter rfl rfl rfl (by decide +kernel) ⟨Nat.le_of_ble_eq_true rfl, Nat.le_of_ble_eq_true rfl⟩) (zp_p _) rfl rfl hl.1 rfl (lv_room (Nat.le_of_ble_eq_true rfl)) dX8_insert_11 ⟨Nat.zero_le _, Nat.zero_le _⟩) ?_
    refine lv_if_ne (tgt := 20) hx hb dX8_insert_14 (by decide) (fun c14 => ?_) (fun c14 => ?_)
    · have hf := (if_neg c14).symm.trans hf
      refine lv_aload_n hx hb dX8_insert_20 rfl (lv_at hl 0 rfl) ?_
      obtain ⟨v21, e21, hf⟩ := zb hf
      refine zr_gr (ci := 8) (k := 0) (C := RX8) (T := TX8) (N := 7) hx hb hts hi_X8_insert_8 hown hK hP e21 rfl rfl (by decide) (by decide) (hts (.fieldLink RX8 10 "BoundaryAnalyzer" "text" "LBoundaryAnalyzer$Text;") (List.mem_of_getElem? (i := 1) rfl)) dX8_insert_21 ?_
      obtain ⟨v24, e24, hf⟩ := zb hf
      refine zr_gr (ci := 7) (k := 0) (C := RX7) (T := TX7) (N := 2) hx hb hts hi_X8_insert_7 hown hK hP e24 rfl rfl (by decide) (by decide) (hts (.fieldLink RX8 134 "BoundaryAnalyzer$Text" "signs" "LBoundaryAnalyzer$Row;") (List.mem_of_getElem? (i := 2) rfl)) dX8_insert_24 ?_
      obtain ⟨v27, e27, hf⟩ := zb hf
      refine zr_gi (ci := 4) (k := 1) (C := RX4) (T := TX4) (N := 2) hx hb hts hi_X8_insert_4 hown hK hP e27 rfl rfl (by decide) (by decide) (hts (.fieldLink RX8 70 "BoundaryAnalyzer$Row" "size" "I") (List.mem_of_getElem? (i := 3) rfl)) dX8_insert_27 ?_
      refine lv_bipush (v := (100 : Int32)) hx hb dX8_insert_30 (by decide) ?_
      refine lv_icmp_lt (tgt := 38) hx hb dX8_insert_32 (by decide) (fun c32 => ?_) (fun c32 => ?_)
      · have hf := (if_pos c32).symm.trans hf
        refine lv_aload_n hx hb dX8_insert_38 rfl (lv_at hl 0 rfl) ?_
        obtain ⟨v39, e39, hf⟩ := zb hf
        refine zr_gr (ci := 8) (k := 6) (C := RX8) (T := TX8) (N := 7) hx hb hts hi_X8_insert_8 hown hK hP e39 rfl rfl (by decide) (by decide) (hts (.fieldLink RX8 46 "BoundaryAnalyzer" "history" "LBoundaryAnalyzer$History;") (List.mem_of_getElem? (i := 4) rfl)) dX8_insert_39 ?_
        obtain ⟨u42, t42, hf⟩ := zb hf
        obtain ⟨r42, e42, hf⟩ := zb hf
        refine zc_r hS (va_runV (As := []) (rest := []) ⟨hx, hb, hml, hown, hts⟩ (k_X1_begin l D cy b r2.2 v39  r42 e42) (cwV 0 hts gX8_insert_X1_begin rfl rfl rfl (by decide +kernel) ⟨Nat.le_of_ble_eq_true rfl, Nat.le_of_ble_eq_true rfl⟩) (zp_V _ hK hP t42 (T := TX1) (N := 4) rfl (by decide)) rfl rfl hl.1 rfl (lv_room (Nat.le_of_ble_eq_true rfl)) dX8_insert_42 ⟨Nat.zero_le _, Nat.zero_le _⟩) (fun H locs hP hS => ?_)
        refine lv_astore_n (lv' := [(3, .ref (b + r42.1)), (0, .ref (b + p0)), (1, .int p1), (2, .int p2)]) hx hb dX8_insert_45 rfl hl (by decide) rfl (fun ls hl => ?_)
        refine lv_aload_n hx hb dX8_insert_46 rfl (lv_at hl 0 rfl) ?_
        refine lv_iconst (v := (1 : Int32)) hx hb dX8_insert_47 (by decide) ?_
        obtain ⟨M48, e48, hf⟩ := zb hf
        refine zr_pz (ci := 0) (k := 1) (C := RX0) (T := TX0) (N := 3) hx hb hts hi_X8_insert_0 tyX0 tyX0_ok nmX0 hown hK hP hS e48 rfl rfl (by decide) (by decide) (hts (.fieldLink RX8 139 "BoundaryAnalyzer$Edit" "inserts" "Z") (List.mem_of_getElem? (i := 5) rfl)) rfl (tyX0_ok 1 (by decide)) dX8_insert_48 (fun H locs hP _ hS => ?_)
        refine lv_aload_n hx hb dX8_insert_51 rfl (lv_at hl 0 rfl) ?_
        refine lv_iload_n hx hb dX8_insert_52 rfl (lv_at hl 2 rfl) ?_
        obtain ⟨M53, e53, hf⟩ := zb hf
        refine zr_pi (ci := 0) (k := 2) (C := RX0) (T := TX0) (N := 3) hx hb hts hi_X8_insert_0 tyX0 tyX0_ok nmX0 hown hK hP hS e53 rfl rfl (by decide) (by decide) (hts (.fieldLink RX8 145 "BoundaryAnalyzer$Edit" "position" "I") (List.mem_of_getElem? (i := 6) rfl)) rfl (tyX0_ok 2 (by decide)) dX8_insert_53 (fun H locs hP _ hS => ?_)
        refine lv_aload_n hx hb dX8_insert_56 rfl (lv_at hl 0 rfl) ?_
        obtain ⟨v57, e57, hf⟩ := zb hf
        refine zr_gr (ci := 0) (k := 0) (C := RX0) (T := TX0) (N := 3) hx hb hts hi_X8_insert_0 hown hK hP e57 rfl rfl (by decide) (by decide) (hts (.fieldLink RX8 148 "BoundaryAnalyzer$Edit" "signs" "LBoundaryAnalyzer$Row;") (List.mem_of_getElem? (i := 7) rfl)) dX8_insert_57 ?_
        refine lv_iconst (v := (0 : Int32)) hx hb dX8_insert_60 (by decide) ?_
        obtain ⟨M61, e61, hf⟩ := zb hf
        refine zr_pi (ci := 4) (k := 1) (C := RX4) (T := TX4) (N := 2) hx hb hts hi_X8_insert_4 tyX4 tyX4_ok nmX4 hown hK hP hS e61 rfl rfl (by decide) (by decide) (hts (.fieldLink RX8 70 "BoundaryAnalyzer$Row" "size" "I") (List.mem_of_getElem? (i := 3) rfl)) rfl (tyX4_ok 1 (by decide)) dX8_insert_61 (fun H locs hP _ hS => ?_)
        refine lv_aload_n hx hb dX8_insert_64 rfl (lv_at hl 0 rfl) ?_
        obtain ⟨v65, e65, hf⟩ := zb hf
        refine zr_gr (ci := 0) (k := 0) (C := RX0) (T := TX0) (N := 3) hx hb hts hi_X8_insert_0 hown hK hP e65 rfl rfl (by decide) (by decide) (hts (.fieldLink RX8 148 "BoundaryAnalyzer$Edit" "signs" "LBoundaryAnalyzer$Row;") (List.mem_of_getElem? (i := 7) rfl)) dX8_insert_65 ?_
        refine lv_iload_n hx hb dX8_insert_68 rfl (lv_at hl 3 rfl) ?_
        obtain ⟨u69, t69, hf⟩ := zb hf
        obtain ⟨M69, e69, hf⟩ := zb hf
        refine zc_v hS (va_runV (As := [.int p2]) (rest := []) ⟨hx, hb, hml, hown, hts⟩ (k_X4_append l D cy b M61 v65 p2 M69 e69) (cwV 1 hts gX8_insert_X4_append rfl rfl rfl (by decide +kernel) ⟨Nat.le_of_ble_eq_true rfl, Nat.le_of_ble_eq_true rfl⟩) (zp_V _ hK hP t69 (T := TX4) (N := 2) rfl (by decide)) rfl rfl hl.1 rfl (lv_room (Nat.le_of_ble_eq_true rfl)) dX8_insert_69 ⟨Nat.zero_le _, Nat.zero_le _⟩) (fun H locs hP hS => ?_)
        refine lv_aload_n hx hb dX8_insert_72 rfl (lv_at hl 1 rfl) ?_
        refine lv_aload_n hx hb dX8_insert_73 rfl (lv_at hl 0 rfl) ?_
        refine lv_iconst (v := (1 : Int32)) hx hb dX8_insert_74 (by decide) ?_
        obtain ⟨u75, t75, hf⟩ := zb hf
        obtain ⟨M75, e75, hf⟩ := zb hf
        refine zc_v hS (va_runV (As := [.ref (b + r42.1), .int (1 : Int32)]) (rest := []) ⟨hx, hb, hml, hown, hts⟩ (k_X8_carryOut l D cy b M69 p0 r42.1 (1 : Int32) M75 e75) (cwV 2 hts gX8_insert_X8_carryOut rfl rfl rfl (by decide +kernel) ⟨Nat.le_of_ble_eq_true rfl, Nat.le_of_ble_eq_true rfl⟩) (zp_V _ hK hP t75 (T := TX8) (N := 7) rfl (by decide)) rfl rfl hl.1 rfl (lv_room (Nat.le_of_ble_eq_true rfl)) dX8_insert_75 ⟨Nat.zero_le _, Nat.zero_le _⟩) (fun H locs hP hS => ?_)
        refine lv_aload_n hx hb dX8_insert_78 rfl (lv_at hl 1 rfl) ?_
        obtain ⟨v79, e79, hf⟩ := zb hf
        refine zr_gr (ci := 8) (k := 0) (C := RX8) (T := TX8) (N := 7) hx hb hts hi_X8_insert_8 hown hK hP e79 rfl rfl (by decide) (by decide) (hts (.fieldLink RX8 10 "BoundaryAnalyzer" "text" "LBoundaryAnalyzer$Text;") (List.mem_of_getElem? (i := 1) rfl)) dX8_insert_79 ?_
        obtain ⟨v82, e82, hf⟩ := zb hf
        refine zr_gr (ci := 7) (k := 0) (C := RX7) (T := TX7) (N := 2) hx hb hts hi_X8_insert_7 hown hK hP e82 rfl rfl (by decide) (by decide) (hts (.fieldLink RX8 134 "BoundaryAnalyzer$Text" "signs" "LBoundaryAnalyzer$Row;") (List.mem_of_getElem? (i := 2) rfl)) dX8_insert_82 ?_
        obtain ⟨v85, e85, hf⟩ := zb hf
        refine zr_gi (ci := 4) (k := 1) (C := RX4) (T := TX4) (N := 2) hx hb hts hi_X8_insert_4 hown hK hP e85 rfl rfl (by decide) (by decide) (hts (.fieldLink RX8 70 "BoundaryAnalyzer$Row" "size" "I") (List.mem_of_getElem? (i := 3) rfl)) dX8_insert_85 ?_
        exact zret_i hx hb hr hlocks hf hP hS dX8_insert_88
      · have hf := (if_neg c32).symm.trans hf
        refine lv_bipush (v := (-3 : Int32)) hx hb dX8_insert_35 (by decide) ?_
        exact zret_i hx hb hr hlocks hf hP hS dX8_insert_37
    · have hf := (if_pos c14).symm.trans hf
      refine lv_bipush (v := (-2 : Int32)) hx hb dX8_insert_17 (by decide) ?_
      exact zret_i hx hb hr hlocks hf hP hS dX8_insert_19
  · have hf := (if_pos c5).symm.trans hf
    refine lv_iconst (v := (-1 : Int32)) hx hb dX8_insert_8 (by decide) ?_
    exact zret_i hx hb hr hlocks hf hP hS dX8_insert_9
theorem hi_X8_isPositionOfCharacter_4 : ∀ w ∈ wsX40, w ∈ wsX8_isPositionOfCharacter := fun _ h => List.mem_cons_of_mem _ (List.mem_append_right _ h)
theorem hi_X8_isPositionOfCharacter_7 : ∀ w ∈ wsX70, w ∈ wsX8_isPositionOfCharacter := fun _ h => List.mem_cons_of_mem _ (List.mem_append_left _ (List.mem_append_right _ h))
theorem hi_X8_isPositionOfCharacter_8 : ∀ w ∈ wsX80, w ∈ wsX8_isPositionOfCharacter := fun _ h => List.mem_cons_of_mem _ (List.mem_append_left _ (List.mem_append_left _ (List.mem_append_right _ h)))
set_option maxHeartbeats 4000000 in
set_option maxRecDepth 100000 in
theorem k_X8_isPositionOfCharacter (l : Launch) (D : va_G) (cy : Nat → ClassId) (b : Nat) (M0 : Mem) (p0 : Nat) (p1 : Int32) (rr : Int32 × Mem) (hf : fX8_isPositionOfCharacter M0 p0 p1 = some rr) : Met l yX8_isPositionOfCharacter wsX8_isPositionOfCharacter ({ frames := 0, cells := 0, slots := 0, locals := 0 } : Room) (zPc D cy b M0 [.ref (b + p0), .int p1]) (zQi D cy b rr) 0 0 (zA b) := by
  refine Met.ofW (cc := cX8_isPositionOfCharacter) (maxL := 2) (ret := (some .boolean)) (by decide) rfl ?_
  intro p e s m args below meth c s₁ B hml hv
  obtain ⟨rfl, hP, hK⟩ := hv
  have hx := B.exec
  have hb := B.bytes
  have hr := B.returns
  have hts := atoms_spec (ws := wsX8_isPositionOfCharacter) B.pre
  have hown : s.vm.findClass RX8 = some m.cls := findClass_of_methodNamed B.named
  have hlocks := B.notSynchronized
  have hS : va_S (zA b) s.heap s.heap [] := va_S.rf
  have hl := lv_entry ([.ref (b + p0), .int p1]) (n := 2) (Nat.le_of_ble_eq_true rfl)
  rw [lg_entry_eq]
  generalize (lg_sl ([.ref (b + p0), .int p1]) ++ List.replicate (2 - (lg_sl ([.ref (b + p0), .int p1])).length) Slot.unset).toArray = ls at hl ⊢
  have hl : lv_has ls 2 [(0, .ref (b + p0)), (1, .int p1)] := hl
  unfold fX8_isPositionOfCharacter at hf
  refine lv_iload_n hx hb dX8_isPositionOfCharacter_0 rfl (lv_at hl 1 rfl) ?_
  refine lv_if_lt (tgt := 22) hx hb dX8_isPositionOfCharacter_1 (by decide) (fun c1 => ?_) (fun c1 => ?_)
  · have hf := (if_pos c1).symm.trans hf
    refine lv_iconst (v := (0 : Int32)) hx hb dX8_isPositionOfCharacter_22 (by decide) ?_
    exact zret_z hx hb hr (Or.inl rfl) hlocks hf hP hS dX8_isPositionOfCharacter_23
  · have hf := (if_neg c1).symm.trans hf
    refine lv_iload_n hx hb dX8_isPositionOfCharacter_4 rfl (lv_at hl 1 rfl) ?_
    refine lv_aload_n hx hb dX8_isPositionOfCharacter_5 rfl (lv_at hl 0 rfl) ?_
    obtain ⟨v6, e6, hf⟩ := zb hf
    refine zr_gr (ci := 8) (k := 0) (C := RX8) (T := TX8) (N := 7) hx hb hts hi_X8_isPositionOfCharacter_8 hown hK hP e6 rfl rfl (by decide) (by decide) (hts (.fieldLink RX8 10 "BoundaryAnalyzer" "text" "LBoundaryAnalyzer$Text;") (List.mem_of_getElem? (i := 1) rfl)) dX8_isPositionOfCharacter_6 ?_
    obtain ⟨v9, e9, hf⟩ := zb hf
    refine zr_gr (ci := 7) (k := 0) (C := RX7) (T := TX7) (N := 2) hx hb hts hi_X8_isPositionOfCharacter_7 hown hK hP e9 rfl rfl (by decide) (by decide) (hts (.fieldLink RX8 134 "BoundaryAnalyzer$Text" "signs" "LBoundaryAnalyzer$Row;") (List.mem_of_getElem? (i := 2) rfl)) dX8_isPositionOfCharacter_9 ?_
    obtain ⟨v12, e12, hf⟩ := zb hf
    refine zr_gi (ci := 4) (k := 1) (C := RX4) (T := TX4) (N := 2) hx hb hts hi_X8_isPositionOfCharacter_4 hown hK hP e12 rfl rfl (by decide) (by decide) (hts (.fieldLink RX8 70 "BoundaryAnalyzer$Row" "size" "I") (List.mem_of_getElem? (i := 3) rfl)) dX8_isPositionOfCharacter_12 ?_
    refine lv_icmp_ge (tgt := 22) hx hb dX8_isPositionOfCharacter_15 (by decide) (fun c15 => ?_) (fun c15 => ?_)
    · have hf := (if_pos c15).symm.trans hf
      refine lv_iconst (v := (0 : Int32)) hx hb dX8_isPositionOfCharacter_22 (by decide) ?_
      exact zret_z hx hb hr (Or.inl rfl) hlocks hf hP hS dX8_isPositionOfCharacter_23
    · have hf := (if_neg c15).symm.trans hf
      refine lv_iconst (v := (1 : Int32)) hx hb dX8_isPositionOfCharacter_18 (by decide) ?_
      refine lv_goto (tgt := 23) hx hb dX8_isPositionOfCharacter_19 (by decide) ?_
      exact zret_z hx hb hr (Or.inl rfl) hlocks hf hP hS dX8_isPositionOfCharacter_23
