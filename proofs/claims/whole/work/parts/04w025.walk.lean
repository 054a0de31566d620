theorem hi_X8_ruleText_2 : ∀ w ∈ wsX20, w ∈ wsX8_ruleText := fun _ h => List.mem_cons_of_mem _ (List.mem_append_left _ (List.mem_append_left _ (List.mem_append_right _ h)))
theorem hi_X8_ruleText_4 : ∀ w ∈ wsX40, w ∈ wsX8_ruleText := fun _ h => List.mem_cons_of_mem _ (List.mem_append_right _ h)
theorem hi_X8_ruleText_5 : ∀ w ∈ wsX50, w ∈ wsX8_ruleText := fun _ h => List.mem_cons_of_mem _ (List.mem_append_left _ (List.mem_append_right _ h))
theorem hi_X8_ruleText_8 : ∀ w ∈ wsX80, w ∈ wsX8_ruleText := fun _ h => List.mem_cons_of_mem _ (List.mem_append_left _ (List.mem_append_left _ (List.mem_append_left _ (List.mem_append_right _ h))))
set_option maxHeartbeats 4000000 in
set_option maxRecDepth 100000 in
theorem k_X8_ruleText (l : Launch) (D : va_G) (cy : Nat → ClassId) (b : Nat) (M0 : Mem) (p0 : Nat) (p1 : Int32) (p2 : Int32) (p3 : Int32) (rr : Int32 × Mem) (hf : fX8_ruleText M0 p0 p1 p2 p3 = some rr) : Met l yX8_ruleText wsX8_ruleText ({ frames := 1, cells := 0, slots := 0, locals := 21 } : Room) (zPc D cy b M0 [.ref (b + p0), .int p1, .int p2, .int p3]) (zQi D cy b rr) 0 0 (zA b) := by
  refine Met.ofW (cc := cX8_ruleText) (maxL := 5) (ret := (some .int)) (by decide) rfl ?_
  intro p e s m args below meth c s₁ B hml hv
  obtain ⟨rfl, hP, hK⟩ := hv
  have hx := B.exec
  have hb := B.bytes
  have hr := B.returns
  have hts := atoms_spec (ws := wsX8_ruleText) B.pre
  have hown : s.vm.findClass RX8 = some m.cls := findClass_of_methodNamed B.named
  have hlocks := B.notSynchronized
  have hS : va_S (zA b) s.heap s.heap [] := va_S.rf
  have hl := lv_entry ([.ref (b + p0), .int p1, .int p2, .int p3]) (n := 5) (Nat.le_of_ble_eq_true rfl)
  rw [lg_entry_eq]
  generalize (lg_sl ([.ref (b + p0), .int p1, .int p2, .int p3]) ++ List.replicate (5 - (lg_sl ([.ref (b + p0), .int p1, .int p2, .int p3])).length) Slot.unset).toArray = ls at hl ⊢
  have hl : lv_has ls 5 [(0, .ref (b + p0)), (1, .int p1), (2, .int p2), (3, .int p3)] := hl
  unfold fX8_ruleText at hf
  refine lv_iload_n hx hb dX8_ruleText_0 rfl (lv_at hl 1 rfl) ?_
  obtain ⟨v1, e1, hf⟩ := zb hf
  refine zc_p (va_runS (As := [.int p1]) (rest := []) ⟨hx, hb, hml, hown, hts⟩ (k_X8_isKind l p1 v1 e1) (va_cwS 1 hts gX8_ruleText_X8_isKind rfl rfl rfl (by decide +kernel) ⟨Nat.le_of_ble_eq_true rfl, Nat.le_of_ble_eq_true rfl⟩) (zp_p _) rfl rfl hl.1 rfl (lv_room (Nat.le_of_ble_eq_true rfl)) dX8_ruleText_1 ⟨Nat.zero_le _, Nat.zero_le _⟩) ?_
  refine lv_if_eq (tgt := 18) hx hb dX8_ruleText_4 (by decide) (fun c4 => ?_) (fun c4 => ?_)
  · have hf := (if_pos c4).symm.trans hf
    refine lv_bipush (v := (-2 : Int32)) hx hb dX8_ruleText_18 (by decide) ?_
    exact zret_i hx hb hr hlocks hf hP hS dX8_ruleText_20
  · have hf := (if_neg c4).symm.trans hf
    refine lv_iload_n hx hb dX8_ruleText_7 rfl (lv_at hl 2 rfl) ?_
    obtain ⟨v8, e8, hf⟩ := zb hf
    refine zc_p (va_runS (As := [.int p2]) (rest := []) ⟨hx, hb, hml, hown, hts⟩ (k_X8_isPlace l p2 v8 e8) (va_cwS 1 hts gX8_ruleText_X8_isPlace rfl rfl rfl (by decide +kernel) ⟨Nat.le_of_ble_eq_true rfl, Nat.le_of_ble_eq_true rfl⟩) (zp_p _) rfl rfl hl.1 rfl (lv_room (Nat.le_of_ble_eq_true rfl)) dX8_ruleText_8 ⟨Nat.zero_le _, Nat.zero_le _⟩) ?_
    refine lv_if_eq (tgt := 18) hx hb dX8_ruleText_11 (by decide) (fun c11 => ?_) (fun c11 => ?_)
    · have hf := (if_pos c11).symm.trans hf
      refine lv_bipush (v := (-2 : Int32)) hx hb dX8_ruleText_18 (by decide) ?_
      exact zret_i hx hb hr hlocks hf hP hS dX8_ruleText_20
    · have hf := (if_neg c11).symm.trans hf
      refine lv_iload_n hx hb dX8_ruleText_14 rfl (lv_at hl 3 rfl) ?_
      refine lv_if_ge (tgt := 21) hx hb dX8_ruleText_15 (by decide) (fun c15 => ?_) (fun c15 => ?_)
      · have hf := (if_pos c15).symm.trans hf
        refine lv_aload_n hx hb dX8_ruleText_21 rfl (lv_at hl 0 rfl) ?_
        obtain ⟨v22, e22, hf⟩ := zb hf
        refine zr_gr (ci := 8) (k := 2) (C := RX8) (T := TX8) (N := 7) hx hb hts hi_X8_ruleText_8 hown hK hP e22 rfl rfl (by decide) (by decide) (hts (.fieldLink RX8 27 "BoundaryAnalyzer" "kinds" "[LBoundaryAnalyzer$Kind;") (List.mem_of_getElem? (i := 1) rfl)) dX8_ruleText_22 ?_
        refine lv_iload_n hx hb dX8_ruleText_25 rfl (lv_at hl 1 rfl) ?_
        obtain ⟨v26, e26, hf⟩ := zb hf
        refine zr_aa (t0 := 4) hx hb hK hP e26 (by decide) rfl dX8_ruleText_26 ?_
        obtain ⟨v27, e27, hf⟩ := zb hf
        refine zr_gr (ci := 2) (k := 0) (C := RX2) (T := TX2) (N := 5) hx hb hts hi_X8_ruleText_2 hown hK hP e27 rfl rfl (by decide) (by decide) (hts (.fieldLink RX8 88 "BoundaryAnalyzer$Kind" "rules" "[LBoundaryAnalyzer$Rule;") (List.mem_of_getElem? (i := 2) rfl)) dX8_ruleText_27 ?_
        refine lv_iload_n hx hb dX8_ruleText_30 rfl (lv_at hl 2 rfl) ?_
        obtain ⟨v31, e31, hf⟩ := zb hf
        refine zr_aa (t0 := 7) hx hb hK hP e31 (by decide) rfl dX8_ruleText_31 ?_
        obtain ⟨v32, e32, hf⟩ := zb hf
        refine zr_gr (ci := 5) (k := 0) (C := RX5) (T := TX5) (N := 9) hx hb hts hi_X8_ruleText_5 hown hK hP e32 rfl rfl (by decide) (by decide) (hts (.fieldLink RX8 98 "BoundaryAnalyzer$Rule" "signs" "LBoundaryAnalyzer$Row;") (List.mem_of_getElem? (i := 3) rfl)) dX8_ruleText_32 ?_
        refine lv_astore (lv' := [(4, .ref (b + v32)), (0, .ref (b + p0)), (1, .int p1), (2, .int p2), (3, .int p3)]) hx hb dX8_ruleText_35 hl (by decide) rfl (fun ls hl => ?_)
        refine lv_iload_n hx hb dX8_ruleText_37 rfl (lv_at hl 4 rfl) ?_
        refine lv_aload hx hb dX8_ruleText_38 (lv_at hl 0 rfl) ?_
        obtain ⟨v40, e40, hf⟩ := zb hf
        refine zr_gi (ci := 4) (k := 1) (C := RX4) (T := TX4) (N := 2) hx hb hts hi_X8_ruleText_4 hown hK hP e40 rfl rfl (by decide) (by decide) (hts (.fieldLink RX8 70 "BoundaryAnalyzer$Row" "size" "I") (List.mem_of_getElem? (i := 4) rfl)) dX8_ruleText_40 ?_
        refine lv_icmp_ge (tgt := 55) hx hb dX8_ruleText_43 (by decide) (fun c43 => ?_) (fun c43 => ?_)
        · have hf := (if_pos c43).symm.trans hf
          refine lv_bipush (v := (-5 : Int32)) hx hb dX8_ruleText_55 (by decide) ?_
          exact zret_i hx hb hr hlocks hf hP hS dX8_ruleText_57
        · have hf := (if_neg c43).symm.trans hf
          refine lv_aload hx hb dX8_ruleText_46 (lv_at hl 0 rfl) ?_
          refine lv_iload_n hx hb dX8_ruleText_48 rfl (lv_at hl 4 rfl) ?_
          obtain ⟨u49, t49, hf⟩ := zb hf
          obtain ⟨r49, e49, hf⟩ := zb hf
          refine zc_i hS (va_runV (As := [.int p3]) (rest := []) ⟨hx, hb, hml, hown, hts⟩ (k_X4_at l D cy b M0 v32 p3 r49 e49) (cwV 1 hts gX8_ruleText_X4_at rfl rfl rfl (by decide +kernel) ⟨Nat.le_of_ble_eq_true rfl, Nat.le_of_ble_eq_true rfl⟩) (zp_V _ hK hP t49 (T := TX4) (N := 2) rfl (by decide)) rfl rfl hl.1 rfl (lv_room (Nat.le_of_ble_eq_true rfl)) dX8_ruleText_49 ⟨Nat.zero_le _, Nat.zero_le _⟩) (fun H locs hP hS => ?_)
          refine lv_goto (tgt := 57) hx hb dX8_ruleText_52 (by decide) ?_
          exact zret_i hx hb hr hlocks hf hP hS dX8_ruleText_57
      · have hf := (if_neg c15).symm.trans hf
        refine lv_bipush (v := (-2 : Int32)) hx hb dX8_ruleText_18 (by decide) ?_
        exact zret_i hx hb hr hlocks hf hP hS dX8_ruleText_20
theorem hi_X8_isPosition_4 : ∀ w ∈ wsX40, w ∈ wsX8_isPosition := fun _ h => List.mem_cons_of_mem _ (List.mem_append_right _ h)
theorem hi_X8_isPosition_7 : ∀ w ∈ wsX70, w ∈ wsX8_isPosition := fun _ h => List.mem_cons_of_mem _ (List.mem_append_left _ (List.mem_append_right _ h))
theorem hi_X8_isPosition_8 : ∀ w ∈ wsX80, w ∈ wsX8_isPosition := fun _ h => List.mem_cons_of_mem _ (List.mem_append_left _ (List.mem_append_left _ (List.mem_append_right _ h)))
set_option maxHeartbeats 4000000 in
set_option maxRecDepth 100000 in
theorem k_X8_isPosition (l : Launch) (D : va_G) (cy : Nat → ClassId) (b : Nat) (M0 : Mem) (p0 : Nat) (p1 : Int32) (rr : Int32 × Mem) (hf : fX8_isPosition M0 p0 p1 = some rr) : Met l yX8_isPosition wsX8_isPosition ({ frames := 0, cells := 0, slots := 0, locals := 0 } : Room) (zPc D cy b M0 [.ref (b + p0), .int p1]) (zQi D cy b rr) 0 0 (zA b) := by
  refine Met.ofW (cc := cX8_isPosition) (maxL := 2) (ret := (some .boolean)) (by decide) rfl ?_
  intro p e s m args below meth c s₁ B hml hv
  obtain ⟨rfl, hP, hK⟩ := hv
  have hx := B.exec
  have hb := B.bytes
  have hr := B.returns
  have hts := atoms_spec (ws := wsX8_isPosition) B.pre
  have hown : s.vm.findClass RX8 = some m.cls := findClass_of_methodNamed B.named
  have hlocks := B.notSynchronized
  have hS : va_S (zA b) s.heap s.heap [] := va_S.rf
  have hl := lv_entry ([.ref (b + p0), .int p1]) (n := 2) (Nat.le_of_ble_eq_true rfl)
  rw [lg_entry_eq]
  generalize (lg_sl ([.ref (b + p0), .int p1]) ++ List.replicate (2 - (lg_sl ([.ref (b + p0), .int p1])).length) Slot.unset).toArray = ls at hl ⊢
  have hl : lv_has ls 2 [(0, .ref (b + p0)), (1, .int p1)] := hl
  unfold fX8_isPosition at hf
  refine lv_iload_n hx hb dX8_isPosition_0 rfl (lv_at hl 1 rfl) ?_
  refine lv_if_lt (tgt := 22) hx hb dX8_isPosition_1 (by decide) (fun c1 => ?_) (fun c1 => ?_)
  · have hf := (if_pos c1).symm.trans hf
    refine lv_iconst (v := (0 : Int32)) hx hb dX8_isPosition_22 (by decide) ?_
    exact zret_z hx hb hr (Or.inl rfl) hlocks hf hP hS dX8_isPosition_23
  · have hf := (if_neg c1).symm.trans hf
    refine lv_iload_n hx hb dX8_isPosition_4 rfl (lv_at hl 1 rfl) ?_
    refine lv_aload_n hx hb dX8_isPosition_5 rfl (lv_at hl 0 rfl) ?_
    obtain ⟨v6, e6, hf⟩ := zb hf
    refine zr_gr (ci := 8) (k := 0) (C := RX8) (T := TX8) (N := 7) hx hb hts hi_X8_isPosition_8 hown hK hP e6 rfl rfl (by decide) (by decide) (hts (.fieldLink RX8 10 "BoundaryAnalyzer" "text" "LBoundaryAnalyzer$Text;") (List.mem_of_getElem? (i := 1) rfl)) dX8_isPosition_6 ?_
    obtain ⟨v9, e9, hf⟩ := zb hf
    refine zr_gr (ci := 7) (k := 0) (C := RX7) (T := TX7) (N := 2) hx hb hts hi_X8_isPosition_7 hown hK hP e9 rfl rfl (by decide) (by decide) (hts (.fieldLink RX8 134 "BoundaryAnalyzer$Text" "signs" "LBoundaryAnalyzer$Row;") (List.mem_of_getElem? (i := 2) rfl)) dX8_isPosition_9 ?_
    obtain ⟨v12, e12, hf⟩ := zb hf
    refine zr_gi (ci := 4) (k := 1) (C := RX4) (T := TX4) (N := 2) hx hb hts hi_X8_isPosition_4 hown hK hP e12 rfl rfl (by decide) (by decide) (hts (.fieldLink RX8 70 "BoundaryAnalyzer$Row" "size" "I") (List.mem_of_getElem? (i := 3) rfl)) dX8_isPosition_12 ?_
    refine lv_icmp_gt (tgt := 22) hx hb dX8_isPosition_15 (by decide) (fun c15 => ?_) (fun c15 => ?_)
    · have hf := (if_pos c15).symm.trans hf
      refine lv_iconst (v := (0 : Int32)) hx hb dX8_isPosition_22 (by decide) ?_
      exact zret_z hx hb hr (Or.inl rfl) hlocks hf hP hS dX8_isPosition_23
    · have hf := (if_neg c15).symm.trans hf
      refine lv_iconst (v := (1 : Int32)) hx hb dX8_isPosition_18 (by decide) ?_
      refine lv_goto (tgt := 23) hx hb dX8_isPosition_19 (by decide) ?_
      exact zret_z hx hb hr (Or.inl rfl) hlocks hf hP hS dX8_isPosition_23
theorem hi_X8_matchLength_2 : ∀ w ∈ wsX20, w ∈ wsX8_matchLength := fun _ h => List.mem_cons_of_mem _ (List.mem_append_left _ (List.mem_append_left _ (List.mem_append_left _ (List.mem_append_left _ (List.mem_append_right _ h)))))
theorem hi_X8_matchLength_5 : ∀ w ∈ wsX50, w ∈ wsX8_matchLength := fun _ h => List.mem_cons_of_mem _ (List.mem_append_left _ (List.mem_append_left _ (List.mem_append_left _ (List.mem_append_right _ h))))
theorem hi_X8_matchLength_8 : ∀ w ∈ wsX80, w ∈ wsX8_matchLength := fun _ h => List.mem_cons_of_mem _ (List.mem_append_left _ (List.mem_append_left _ (List.mem_append_left _ (List.mem_append_left _ (List.mem_append_left _ (List.mem_append_right _ h))))))
set_option maxHeartbeats 4000000 in
set_option maxRecDepth 100000 in
theorem k_X8_matchLength (l : Launch) (D : va_G) (cy : Nat → ClassId) (b : Nat) (M0 : Mem) (p0 : Nat) (p1 : Int32) (p2 : Int32) (p3 : Int32) (rr : Int32 × Mem) (hf : fX8_matchLength M0 p0 p1 p2 p3 = some rr) : Met l yX8_matchLength wsX8_matchLength ({ frames := 3, cells := 0, slots := 0, locals := 92 } : Room) (zPc D cy b M0 [.ref (b + p0), .int p1, .int p2, .int p3]) (zQi D cy b rr) 0 0 (zA b) := by
  refine Met.ofW (cc := cX8_matchLength) (maxL := 5) (ret := (some .int)) (by decide) rfl ?_
  intro p e s m args below meth c s₁ B hml hv
  obtain ⟨rfl, hP, hK⟩ := hv
  have hx := B.exec
  have hb := B.bytes
  have hr := B.returns
  have hts := atoms_spec (ws := wsX8_matchLength) B.pre
  have hown : s.vm.findClass RX8 = some m.cls := findClass_of_methodNamed B.named
  have hlocks := B.notSynchronized
  have hS : va_S (zA b) s.heap s.heap [] := va_S.rf
  have hl := lv_entry ([.ref (b + p0), .int p1, .int p2, .int p3]) (n := 5) (Nat.le_of_ble_eq_true rfl)
  rw [lg_entry_eq]
  generalize (lg_sl ([.ref (b + p0), .int p1, .int p2, .int p3]) ++ List.replicate (5 - (lg_sl ([.ref (b + p0), .int p1, .int p2, .int p3])).length) Slot.unset).toArray = ls at hl ⊢
  have hl : lv_has ls 5 [(0, .ref (b + p0)), (1, .int p1), (2, .int p2), (3, .int p3)] := hl
  unfold fX8_matchLength at hf
  refine lv_iload_n hx hb dX8_matchLength_0 rfl (lv_at hl 1 rfl) ?_
  obtain ⟨v1, e1, hf⟩ := zb hf
  refine zc_p (va_runS (As := [.int p1]) (rest := []) ⟨hx, hb, hml, hown, hts⟩ (k_X8_isKind l p1 v1 e1) (va_cwS 1 hts gX8_matchLength_X8_isKind rfl rfl rfl (by decide +kernel) ⟨Nat.le_of_ble_eq_true rfl, Nat.le_of_ble_eq_true rfl⟩) (zp_p _) rfl rfl hl.1 rfl (lv_room (Nat.le_of_ble_eq_true rfl)) dX8_matchLength_1 ⟨Nat.zero_le _, Nat.zero_le _⟩) ?_
  refine lv_if_eq (tgt := 14) hx hb dX8_matchLength_4 (by decide) (fun c4 => ?_) (fun c4 => ?_)
  · have hf := (if_pos c4).symm.trans hf
    refine lv_bipush (v := (-2 : Int32)) hx hb dX8_matchLength_14 (by decide) ?_
    exact zret_i hx hb hr hlocks hf hP hS dX8_matchLength_16
  · have hf := (if_neg c4).symm.trans hf
    refine lv_iload_n hx hb dX8_matchLength_7 rfl (lv_at hl 2 rfl) ?_
    obtain ⟨v8, e8, hf⟩ := zb hf
    refine zc_p (va_runS (As := [.int p2]) (rest := []) ⟨hx, hb, hml, hown, hts⟩ (k_X8_isPlace l p2 v8 e8) (va_cwS 1 hts gX8_matchLength_X8_isPlace rfl rfl rfl (by decide +kernel) ⟨Nat.le_of_ble_eq_true rfl, Nat.le_of_ble_eq_true rfl⟩) (zp_p _) rfl rfl hl.1 rfl (lv_room (Nat.le_of_ble_eq_true rfl)) dX8_matchLength_8 ⟨Nat.zero_le _, Nat.zero_le _⟩) ?_
    refine lv_if_ne (tgt := 17) hx hb dX8_matchLength_11 (by decide) (fun c11 => ?_) (fun c11 => ?_)
    · have hf := (if_neg c11).symm.trans hf
      refine lv_aload_n hx hb dX8_matchLength_17 rfl (lv_at hl 0 rfl) ?_
      refine lv_iload_n hx hb dX8_matchLength_18 rfl (lv_at hl 3 rfl) ?_
      obtain ⟨u19, t19, hf⟩ := zb hf
      obtain ⟨r19, e19, hf⟩ := zb hf
      refine zc_i hS (va_runV (As := [.int p3]) (rest := []) ⟨hx, hb, hml, hown, hts⟩ (k_X8_isPosition l D cy b M0 p0 p3 r19 e19) (cwV 1 hts gX8_matchLength_X8_isPosition rfl rfl rfl (by decide +kernel) ⟨Nat.le_of_ble_eq_true rfl, Nat.le_of_ble_eq_true rfl⟩) (zp_V _ hK hP t19 (T := TX8) (N := 7) rfl (by decide)) rfl rfl hl.1 rfl (lv_room (Nat.le_of_ble_eq_true rfl)) dX8_matchLength_19 ⟨Nat.zero_le _, Nat.zero_le _⟩) (fun H locs hP hS => ?_)
      refine lv_if_ne (tgt := 27) hx hb dX8_matchLength_22 (by decide) (fun c22 => ?_) (fun c22 => ?_)
      · have hf := (if_neg c22).symm.trans hf
        refine lv_aload_n hx hb dX8_matchLength_27 rfl (lv_at hl 0 rfl) ?_
        obtain ⟨v28, e28, hf⟩ := zb hf
        refine zr_gr (ci := 8) (k := 2) (C := RX8) (T := TX8) (N := 7) hx hb hts hi_X8_matchLength_8 hown hK hP e28 rfl rfl (by decide) (by decide) (hts (.fieldLink RX8 27 "BoundaryAnalyzer" "kinds" "[LBoundaryAnalyzer$Kind;") (List.mem_of_getElem? (i := 1) rfl)) dX8_matchLength_28 ?_
        refine lv_iload_n hx hb dX8_matchLength_31 rfl (lv_at hl 1 rfl) ?_
        obtain ⟨v32, e32, hf⟩ := zb hf
        refine zr_aa (t0 := 4) hx hb hK hP e32 (by decide) rfl dX8_matchLength_32 ?_
        obtain ⟨v33, e33, hf⟩ := zb hf
        refine zr_gr (ci := 2) (k := 0) (C := RX2) (T := TX2) (N := 5) hx hb hts hi_X8_matchLength_2 hown hK hP e33 rfl rfl (by decide) (by decide) (hts (.fieldLink RX8 88 "BoundaryAnalyzer$Kind" "rules" "[LBoundaryAnalyzer$Rule;") (List.mem_of_getElem? (i := 2) rfl)) dX8_matchLength_33 ?_
        refine lv_iload_n hx hb dX8_matchLength_36 rfl (lv_at hl 2 rfl) ?_
        obtain ⟨v37, e37, hf⟩ := zb hf
        refine zr_aa (t0 := 7) hx hb hK hP e37 (by decide) rfl dX8_matchLength_37 ?_
        refine lv_astore (lv' := [(4, .ref (b + v37)), (0, .ref (b + p0)), (1, .int p1), (2, .int p2), (3, .int p3)]) hx hb dX8_matchLength_38 hl (by decide) rfl (fun ls hl => ?_)
        refine lv_aload hx hb dX8_matchLength_40 (lv_at hl 0 rfl) ?_
        obtain ⟨u42, t42, hf⟩ := zb hf
        obtain ⟨r42, e42, hf⟩ := zb hf
        refine zc_i hS (va_runV (As := []) (rest := []) ⟨hx, hb, hml, hown, hts⟩ (k_X5_isSet l D cy b r19.2 v37  r42 e42) (cwV 0 hts gX8_matchLength_X5_isSet rfl rfl rfl (by decide +kernel) ⟨Nat.le_of_ble_eq_true rfl, Nat.le_of_ble_eq_true rfl⟩) (zp_V _ hK hP t42 (T := TX5) (N := 9) rfl (by decide)) rfl rfl hl.1 rfl (lv_room (Nat.le_of_ble_eq_true rfl)) dX8_matchLength_42 ⟨Nat.zero_le _, Nat.zero_le _⟩) (fun H locs hP hS => ?_)
        refine lv_if_ne (tgt := 51) hx hb dX8_matchLength_45 (by decide) (fun c45 => ?_) (fun c45 => ?_)
        · have hf := (if_neg c45).symm.trans hf
          refine lv_aload hx hb dX8_matchLength_51 (lv_at hl 0 rfl) ?_
          refine lv_aload_n hx hb dX8_matchLength_53 rfl (lv_at hl 1 rfl) ?_
          obtain ⟨v54, e54, hf⟩ := zb hf
          refine zr_gr (ci := 8) (k := 0) (C := RX8) (T := TX8) (N := 7) hx hb hts hi_X8_matchLength_8 hown hK hP e54 rfl rfl (by decide) (by decide) (hts (.fieldLink RX8 10 "BoundaryAnalyzer" "text" "LBoundaryAnalyzer$Text;") (List.mem_of_getElem? (i := 3) rfl)) dX8_matchLength_54 ?_
          refine lv_iload_n hx hb dX8_matchLength_57 rfl (lv_at hl 4 rfl) ?_
          obtain ⟨u58, t58, hf⟩ := zb hf
          obtain ⟨M58, e58, hf⟩ := zb hf
          refine zc_v hS (va_runV (As := [.ref (b + v54), .int p3]) (rest := []) ⟨hx, hb, hml, hown, hts⟩ (k_X5_walk l D cy b r42.2 v37 v54 p3 M58 e58) (cwV 2 hts gX8_matchLength_X5_walk rfl rfl rfl (by decide +kernel) ⟨Nat.le_of_ble_eq_true rfl, Nat.le_of_ble_eq_true rfl⟩) (zp_V _ hK hP t58 (T := TX5) (N := 9) rfl (by decide)) rfl rfl hl.1 rfl (lv_room (Nat.le_of_ble_eq_true rfl)) dX8_matchLength_58 ⟨Nat.zero_le _, Nat.zero_le _⟩) (fun H locs hP hS => ?_)
          refine lv_aload hx hb dX8_matchLength_61 (lv_at hl 0 rfl) ?_
          obtain ⟨v63, e63, hf⟩ := zb hf
          refine zr_gi (ci := 5) (k := 7) (C := RX5) (T := TX5) (N := 9) hx hb hts hi_X8_matchLength_5 hown hK hP e63 rfl rfl (by decide) (by decide) (hts (.fieldLink RX8 120 "BoundaryAnalyzer$Rule" "matched" "I") (List.mem_of_getElem? (i := 4) rfl)) dX8_matchLength_63 ?_
          exact zret_i hx hb hr hlocks hf hP hS dX8_matchLength_66
        · have hf := (if_pos c45).symm.trans hf
          refine lv_bipush (v := (-5 : Int32)) hx hb dX8_matchLength_48 (by decide) ?_
          exact zret_i hx hb hr hlocks hf hP hS dX8_matchLength_50
      · have hf := (if_pos c22).symm.trans hf
        refine lv_iconst (v := (-1 : Int32)) hx hb dX8_matchLength_25 (by decide) ?_
        exact zret_i hx hb hr hlocks hf hP hS dX8_matchLength_26
    · have hf := (if_pos c11).symm.trans hf
      refine lv_bipush (v := (-2 : Int32)) hx hb dX8_matchLength_14 (by decide) ?_
      exact zret_i hx hb hr hlocks hf hP hS dX8_matchLength_16
