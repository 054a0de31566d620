theorem hi_X9_ruleText_9 : ∀ w ∈ wsX90, w ∈ wsX9_ruleText := fun _ h => List.mem_cons_of_mem _ (List.mem_append_right _ h)
set_option maxHeartbeats 4000000 in
set_option maxRecDepth 100000 in
theorem k_X9_ruleText (l : Launch) (D : va_G) (cy : Nat → ClassId) (b : Nat) (M0 : Mem) (p0 : Nat) (p1 : Int32) (p2 : Int32) (p3 : Int32) (rr : Int32 × Mem) (hf : fX9_ruleText M0 p0 p1 p2 p3 = some rr) : Met l yX9_ruleText wsX9_ruleText ({ frames := 2, cells := 0, slots := 0, locals := 43 } : Room) (zPc D cy b M0 [.ref (b + p0), .int p1, .int p2, .int p3]) (zQi D cy b rr) 0 0 (zA b) := by
  refine Met.ofW (cc := cX9_ruleText) (maxL := 5) (ret := (some .int)) (by decide) rfl ?_
  intro p e s m args below meth c s₁ B hml hv
  obtain ⟨rfl, hP, hK⟩ := hv
  have hx := B.exec
  have hb := B.bytes
  have hr := B.returns
  have hts := atoms_spec (ws := wsX9_ruleText) B.pre
  have hown : s.vm.findClass RX9 = some m.cls := findClass_of_methodNamed B.named
  have hlocks := B.notSynchronized
  have hS : va_S (zA b) s.heap s.heap [] := va_S.rf
  have hl := lv_entry ([.ref (b + p0), .int p1, .int p2, .int p3]) (n := 5) (Nat.le_of_ble_eq_true rfl)
  rw [lg_entry_eq]
  generalize (lg_sl ([.ref (b + p0), .int p1, .int p2, .int p3]) ++ List.replicate (5 - (lg_sl ([.ref (b + p0), .int p1, .int p2, .int p3])).length) Slot.unset).toArray = ls at hl ⊢
  have hl : lv_has ls 5 [(0, .ref (b + p0)), (1, .int p1), (2, .int p2), (3, .int p3)] := hl
  unfold fX9_ruleText at hf
  refine lv_iload_n hx hb dX9_ruleText_0 rfl (lv_at hl 1 rfl) ?_
  refine lv_iload_n hx hb dX9_ruleText_1 rfl (lv_at hl 2 rfl) ?_
  obtain ⟨v2, e2, hf⟩ := zb hf
  refine zc_p (va_runS (As := [.int p1, .int p2]) (rest := []) ⟨hx, hb, hml, hown, hts⟩ (k_X9_noRulePlace l p1 p2 v2 e2) (va_cwS 2 hts gX9_ruleText_X9_noRulePlace rfl rfl rfl (by decide +kernel) ⟨Nat.le_of_ble_eq_true rfl, Nat.le_of_ble_eq_true rfl⟩) (zp_p _) rfl rfl hl.1 rfl (lv_room (Nat.le_of_ble_eq_true rfl)) dX9_ruleText_2 ⟨Nat.zero_le _, Nat.zero_le _⟩) ?_
  refine lv_if_ne (tgt := 12) hx hb dX9_ruleText_5 (by decide) (fun c5 => ?_) (fun c5 => ?_)
  · have hf := (if_neg c5).symm.trans hf
    refine lv_bipush (v := (-2 : Int32)) hx hb dX9_ruleText_12 (by decide) ?_
    exact zret_i hx hb hr hlocks hf hP hS dX9_ruleText_14
  · have hf := (if_pos c5).symm.trans hf
    refine lv_iload_n hx hb dX9_ruleText_8 rfl (lv_at hl 3 rfl) ?_
    refine lv_if_ge (tgt := 15) hx hb dX9_ruleText_9 (by decide) (fun c9 => ?_) (fun c9 => ?_)
    · have hf := (if_pos c9).symm.trans hf
      refine lv_iconst (v := (5 : Int32)) hx hb dX9_ruleText_15 (by decide) ?_
      refine lv_iload_n hx hb dX9_ruleText_16 rfl (lv_at hl 1 rfl) ?_
      refine lv_imul hx hb dX9_ruleText_17 ?_
      refine lv_iload_n hx hb dX9_ruleText_18 rfl (lv_at hl 2 rfl) ?_
      refine lv_iadd hx hb dX9_ruleText_19 ?_
      obtain ⟨x4_20, q20, hf⟩ := zlt_s hf
      refine zt q20 ?_
      refine lv_istore (lv' := [(4, .int x4_20), (0, .ref (b + p0)), (1, .int p1), (2, .int p2), (3, .int p3)]) hx hb dX9_ruleText_20 hl (by decide) rfl (fun ls hl => ?_)
      refine lv_iload_n hx hb dX9_ruleText_22 rfl (lv_at hl 4 rfl) ?_
      refine lv_aload_n hx hb dX9_ruleText_23 rfl (lv_at hl 1 rfl) ?_
      obtain ⟨v24, e24, hf⟩ := zb hf
      refine zr_gr (ci := 9) (k := 20) (C := RX9) (T := TX9) (N := 54) hx hb hts hi_X9_ruleText_9 hown hK hP e24 rfl rfl (by decide) (by decide) (hts (.fieldLink RX9 45 "BoundaryAnalyzerModel" "ruleLong" "[I") (List.mem_of_getElem? (i := 1) rfl)) dX9_ruleText_24 ?_
      refine lv_iload hx hb dX9_ruleText_27 (lv_at hl 0 rfl) ?_
      obtain ⟨v29, e29, hf⟩ := zb hf
      refine zr_ai hx hb hK hP e29 dX9_ruleText_29 ?_
      refine lv_icmp_ge (tgt := 48) hx hb dX9_ruleText_30 (by decide) (fun c30 => ?_) (fun c30 => ?_)
      · have hf := (if_pos c30).symm.trans hf
        refine lv_bipush (v := (-5 : Int32)) hx hb dX9_ruleText_48 (by decide) ?_
        exact zret_i hx hb hr hlocks hf hP hS dX9_ruleText_50
      · have hf := (if_neg c30).symm.trans hf
        refine lv_aload_n hx hb dX9_ruleText_33 rfl (lv_at hl 1 rfl) ?_
        obtain ⟨v34, e34, hf⟩ := zb hf
        refine zr_gr (ci := 9) (k := 21) (C := RX9) (T := TX9) (N := 54) hx hb hts hi_X9_ruleText_9 hown hK hP e34 rfl rfl (by decide) (by decide) (hts (.fieldLink RX9 48 "BoundaryAnalyzerModel" "ruleAt" "[C") (List.mem_of_getElem? (i := 2) rfl)) dX9_ruleText_34 ?_
        refine lv_bipush (v := (24 : Int32)) hx hb dX9_ruleText_37 (by decide) ?_
        refine lv_iload hx hb dX9_ruleText_39 (lv_at hl 0 rfl) ?_
        refine lv_imul hx hb dX9_ruleText_41 ?_
        refine lv_iload_n hx hb dX9_ruleText_42 rfl (lv_at hl 4 rfl) ?_
        refine lv_iadd hx hb dX9_ruleText_43 ?_
        obtain ⟨v44, e44, hf⟩ := zb hf
        refine zr_ac hx hb hK hP e44 dX9_ruleText_44 ?_
        refine lv_goto (tgt := 50) hx hb dX9_ruleText_45 (by decide) ?_
        exact zret_i hx hb hr hlocks hf hP hS dX9_ruleText_50
    · have hf := (if_neg c9).symm.trans hf
      refine lv_bipush (v := (-2 : Int32)) hx hb dX9_ruleText_12 (by decide) ?_
      exact zret_i hx hb hr hlocks hf hP hS dX9_ruleText_14
set_option maxHeartbeats 4000000 in
set_option maxRecDepth 100000 in
theorem k_X9_noKind (l : Launch) (p0 : Int32) (rr : Int32) (hf : fX9_noKind p0 = some rr) : Met l yX9_noKind wsX9_noKind ({ frames := 1, cells := 0, slots := 0, locals := 22 } : Room) (zPp [.int p0]) (zQp rr) 0 0 zNo := by
  refine Met.ofW (cc := cX9_noKind) (maxL := 1) (ret := (some .boolean)) (by decide) rfl ?_
  intro p e s m args below meth c s₁ B hml hv
  obtain ⟨rfl, -⟩ := hv
  have hx := B.exec
  have hb := B.bytes
  have hr := B.returns
  have hts := atoms_spec (ws := wsX9_noKind) B.pre
  have hown : s.vm.findClass RX9 = some m.cls := findClass_of_methodNamed B.named
  have hlocks := B.notSynchronized
  have hl := lv_entry ([.int p0]) (n := 1) (Nat.le_of_ble_eq_true rfl)
  rw [lg_entry_eq]
  generalize (lg_sl ([.int p0]) ++ List.replicate (1 - (lg_sl ([.int p0])).length) Slot.unset).toArray = ls at hl ⊢
  have hl : lv_has ls 1 [(0, .int p0)] := hl
  unfold fX9_noKind at hf
  refine lv_iload_n hx hb dX9_noKind_0 rfl (lv_at hl 0 rfl) ?_
  refine lv_iconst (v := (0 : Int32)) hx hb dX9_noKind_1 (by decide) ?_
  refine lv_iconst (v := (2 : Int32)) hx hb dX9_noKind_2 (by decide) ?_
  obtain ⟨v3, e3, hf⟩ := zb hf
  refine zc_p (va_runS (As := [.int p0, .int (0 : Int32), .int (2 : Int32)]) (rest := []) ⟨hx, hb, hml, hown, hts⟩ (k_X9_in l p0 (0 : Int32) (2 : Int32) v3 e3) (va_cwS 3 hts gX9_noKind_X9_in rfl rfl rfl (by decide +kernel) ⟨Nat.le_of_ble_eq_true rfl, Nat.le_of_ble_eq_true rfl⟩) (zp_p _) rfl rfl hl.1 rfl (lv_room (Nat.le_of_ble_eq_true rfl)) dX9_noKind_3 ⟨Nat.zero_le _, Nat.zero_le _⟩) ?_
  refine lv_if_ne (tgt := 13) hx hb dX9_noKind_6 (by decide) (fun c6 => ?_) (fun c6 => ?_)
  · have hf := (if_neg c6).symm.trans hf
    refine lv_iconst (v := (0 : Int32)) hx hb dX9_noKind_13 (by decide) ?_
    exact zret_pz hx hb hr (Or.inl rfl) hlocks hf dX9_noKind_14
  · have hf := (if_pos c6).symm.trans hf
    refine lv_iconst (v := (1 : Int32)) hx hb dX9_noKind_9 (by decide) ?_
    refine lv_goto (tgt := 14) hx hb dX9_noKind_10 (by decide) ?_
    exact zret_pz hx hb hr (Or.inl rfl) hlocks hf dX9_noKind_14
theorem hi_X9_noPosition_9 : ∀ w ∈ wsX90, w ∈ wsX9_noPosition := fun _ h => List.mem_cons_of_mem _ (List.mem_append_right _ h)
set_option maxHeartbeats 4000000 in
set_option maxRecDepth 100000 in
theorem k_X9_noPosition (l : Launch) (D : va_G) (cy : Nat → ClassId) (b : Nat) (M0 : Mem) (p0 : Nat) (p1 : Int32) (rr : Int32 × Mem) (hf : fX9_noPosition M0 p0 p1 = some rr) : Met l yX9_noPosition wsX9_noPosition ({ frames := 1, cells := 0, slots := 0, locals := 22 } : Room) (zPc D cy b M0 [.ref (b + p0), .int p1]) (zQi D cy b rr) 0 0 (zA b) := by
  refine Met.ofW (cc := cX9_noPosition) (maxL := 2) (ret := (some .boolean)) (by decide) rfl ?_
  intro p e s m args below meth c s₁ B hml hv
  obtain ⟨rfl, hP, hK⟩ := hv
  have hx := B.exec
  have hb := B.bytes
  have hr := B.returns
  have hts := atoms_spec (ws := wsX9_noPosition) B.pre
  have hown : s.vm.findClass RX9 = some m.cls := findClass_of_methodNamed B.named
  have hlocks := B.notSynchronized
  have hS : va_S (zA b) s.heap s.heap [] := va_S.rf
  have hl := lv_entry ([.ref (b + p0), .int p1]) (n := 2) (Nat.le_of_ble_eq_true rfl)
  rw [lg_entry_eq]
  generalize (lg_sl ([.ref (b + p0), .int p1]) ++ List.replicate (2 - (lg_sl ([.ref (b + p0), .int p1])).length) Slot.unset).toArray = ls at hl ⊢
  have hl : lv_has ls 2 [(0, .ref (b + p0)), (1, .int p1)] := hl
  unfold fX9_noPosition at hf
  refine lv_iload_n hx hb dX9_noPosition_0 rfl (lv_at hl 1 rfl) ?_
  refine lv_iconst (v := (0 : Int32)) hx hb dX9_noPosition_1 (by decide) ?_
  refine lv_aload_n hx hb dX9_noPosition_2 rfl (lv_at hl 0 rfl) ?_
  obtain ⟨v3, e3, hf⟩ := zb hf
  refine zr_gi (ci := 9) (k := 31) (C := RX9) (T := TX9) (N := 54) hx hb hts hi_X9_noPosition_9 hown hK hP e3 rfl rfl (by decide) (by decide) (hts (.fieldLink RX9 207 "BoundaryAnalyzerModel" "length" "I") (List.mem_of_getElem? (i := 1) rfl)) dX9_noPosition_3 ?_
  obtain ⟨v6, e6, hf⟩ := zb hf
  refine zc_p (va_runS (As := [.int p1, .int (0 : Int32), .int v3]) (rest := []) ⟨hx, hb, hml, hown, hts⟩ (k_X9_in l p1 (0 : Int32) v3 v6 e6) (va_cwS 3 hts gX9_noPosition_X9_in rfl rfl rfl (by decide +kernel) ⟨Nat.le_of_ble_eq_true rfl, Nat.le_of_ble_eq_true rfl⟩) (zp_p _) rfl rfl hl.1 rfl (lv_room (Nat.le_of_ble_eq_true rfl)) dX9_noPosition_6 ⟨Nat.zero_le _, Nat.zero_le _⟩) ?_
  refine lv_if_ne (tgt := 16) hx hb dX9_noPosition_9 (by decide) (fun c9 => ?_) (fun c9 => ?_)
  · have hf := (if_neg c9).symm.trans hf
    refine lv_iconst (v := (0 : Int32)) hx hb dX9_noPosition_16 (by decide) ?_
    exact zret_z hx hb hr (Or.inl rfl) hlocks hf hP hS dX9_noPosition_17
  · have hf := (if_pos c9).symm.trans hf
    refine lv_iconst (v := (1 : Int32)) hx hb dX9_noPosition_12 (by decide) ?_
    refine lv_goto (tgt := 17) hx hb dX9_noPosition_13 (by decide) ?_
    exact zret_z hx hb hr (Or.inl rfl) hlocks hf hP hS dX9_noPosition_17
theorem hi_X9_matchLength_9 : ∀ w ∈ wsX90, w ∈ wsX9_matchLength := fun _ h => List.mem_cons_of_mem _ (List.mem_append_right _ h)
set_option maxHeartbeats 4000000 in
set_option maxRecDepth 100000 in
theorem k_X9_matchLength (l : Launch) (D : va_G) (cy : Nat → ClassId) (b : Nat) (M0 : Mem) (p0 : Nat) (p1 : Int32) (p2 : Int32) (p3 : Int32) (rr : Int32 × Mem) (hf : fX9_matchLength M0 p0 p1 p2 p3 = some rr) : Met l yX9_matchLength wsX9_matchLength ({ frames := 3, cells := 0, slots := 0, locals := 79 } : Room) (zPc D cy b M0 [.ref (b + p0), .int p1, .int p2, .int p3]) (zQi D cy b rr) 0 0 (zA b) := by
  refine Met.ofW (cc := cX9_matchLength) (maxL := 5) (ret := (some .int)) (by decide) rfl ?_
  intro p e s m args below meth c s₁ B hml hv
  obtain ⟨rfl, hP, hK⟩ := hv
  have hx := B.exec
  have hb := B.bytes
  have hr := B.returns
  have hts := atoms_spec (ws := wsX9_matchLength) B.pre
  have hown : s.vm.findClass RX9 = some m.cls := findClass_of_methodNamed B.named
  have hlocks := B.notSynchronized
  have hS : va_S (zA b) s.heap s.heap [] := va_S.rf
  have hl := lv_entry ([.ref (b + p0), .int p1, .int p2, .int p3]) (n := 5) (Nat.le_of_ble_eq_true rfl)
  rw [lg_entry_eq]
  generalize (lg_sl ([.ref (b + p0), .int p1, .int p2, .int p3]) ++ List.replicate (5 - (lg_sl ([.ref (b + p0), .int p1, .int p2, .int p3])).length) Slot.unset).toArray = ls at hl ⊢
  have hl : lv_has ls 5 [(0, .ref (b + p0)), (1, .int p1), (2, .int p2), (3, .int p3)] := hl
  unfold fX9_matchLength at hf
  refine lv_iload_n hx hb dX9_matchLength_0 rfl (lv_at hl 1 rfl) ?_
  refine lv_iload_n hx hb dX9_matchLength_1 rfl (lv_at hl 2 rfl) ?_
  obtain ⟨v2, e2, hf⟩ := zb hf
  refine zc_p (va_runS (As := [.int p1, .int p2]) (rest := []) ⟨hx, hb, hml, hown, hts⟩ (k_X9_noRulePlace l p1 p2 v2 e2) (va_cwS 2 hts gX9_matchLength_X9_noRulePlace rfl rfl rfl (by decide +kernel) ⟨Nat.le_of_ble_eq_true rfl, Nat.le_of_ble_eq_true rfl⟩) (zp_p _) rfl rfl hl.1 rfl (lv_room (Nat.le_of_ble_eq_true rfl)) dX9_matchLength_2 ⟨Nat.zero_le _, Nat.zero_le _⟩) ?_
  refine lv_if_eq (tgt := 11) hx hb dX9_matchLength_5 (by decide) (fun c5 => ?_) (fun c5 => ?_)
  · have hf := (if_pos c5).symm.trans hf
    refine lv_aload_n hx hb dX9_matchLength_11 rfl (lv_at hl 0 rfl) ?_
    refine lv_iload_n hx hb dX9_matchLength_12 rfl (lv_at hl 3 rfl) ?_
    obtain ⟨u13, t13, hf⟩ := zb hf
    obtain ⟨r13, e13, hf⟩ := zb hf
    refine zc_i hS (va_runV (As := [.int p3]) (rest := []) ⟨hx, hb, hml, hown, hts⟩ (k_X9_noPosition l D cy b M0 p0 p3 r13 e13) (cwV 1 hts gX9_matchLength_X9_noPosition rfl rfl rfl (by decide +kernel) ⟨Nat.le_of_ble_eq_true rfl, Nat.le_of_ble_eq_true rfl⟩) (zp_V _ hK hP t13 (T := TX9) (N := 54) rfl (by decide)) rfl rfl hl.1 rfl (lv_room (Nat.le_of_ble_eq_true rfl)) dX9_matchLength_13 ⟨Nat.zero_le _, Nat.zero_le _⟩) (fun H locs hP hS => ?_)
    refine lv_if_eq (tgt := 21) hx hb dX9_matchLength_16 (by decide) (fun c16 => ?_) (fun c16 => ?_)
    · have hf := (if_pos c16).symm.trans hf
      refine lv_iconst (v := (5 : Int32)) hx hb dX9_matchLength_21 (by decide) ?_
      refine lv_iload_n hx hb dX9_matchLength_22 rfl (lv_at hl 1 rfl) ?_
      refine lv_imul hx hb dX9_matchLength_23 ?_
      refine lv_iload_n hx hb dX9_matchLength_24 rfl (lv_at hl 2 rfl) ?_
      refine lv_iadd hx hb dX9_matchLength_25 ?_
      obtain ⟨x4_26, q26, hf⟩ := zlt_s hf
      refine zt q26 ?_
      refine lv_istore (lv' := [(4, .int x4_26), (0, .ref (b + p0)), (1, .int p1), (2, .int p2), (3, .int p3)]) hx hb dX9_matchLength_26 hl (by decide) rfl (fun ls hl => ?_)
      refine lv_aload_n hx hb dX9_matchLength_28 rfl (lv_at hl 1 rfl) ?_
      obtain ⟨v29, e29, hf⟩ := zb hf
      refine zr_gr (ci := 9) (k := 20) (C := RX9) (T := TX9) (N := 54) hx hb hts hi_X9_matchLength_9 hown hK hP e29 rfl rfl (by decide) (by decide) (hts (.fieldLink RX9 45 "BoundaryAnalyzerModel" "ruleLong" "[I") (List.mem_of_getElem? (i := 1) rfl)) dX9_matchLength_29 ?_
      refine lv_iload hx hb dX9_matchLength_32 (lv_at hl 0 rfl) ?_
      obtain ⟨v34, e34, hf⟩ := zb hf
      refine zr_ai hx hb hK hP e34 dX9_matchLength_34 ?_
      refine lv_if_ne (tgt := 43) hx hb dX9_matchLength_35 (by decide) (fun c35 => ?_) (fun c35 => ?_)
      · have hf := (if_neg c35).symm.trans hf
        refine lv_aload_n hx hb dX9_matchLength_43 rfl (lv_at hl 1 rfl) ?_
        refine lv_iload hx hb dX9_matchLength_44 (lv_at hl 0 rfl) ?_
        refine lv_iload_n hx hb dX9_matchLength_46 rfl (lv_at hl 4 rfl) ?_
        obtain ⟨u47, t47, hf⟩ := zb hf
        obtain ⟨r47, e47, hf⟩ := zb hf
        refine zc_i hS (va_runV (As := [.int x4_26, .int p3]) (rest := []) ⟨hx, hb, hml, hown, hts⟩ (k_X9_lengthOf l D cy b r13.2 p0 x4_26 p3 r47 e47) (cwV 2 hts gX9_matchLength_X9_lengthOf rfl rfl rfl (by decide +kernel) ⟨Nat.le_of_ble_eq_true rfl, Nat.le_of_ble_eq_true rfl⟩) (zp_V _ hK hP t47 (T := TX9) (N := 54) rfl (by decide)) rfl rfl hl.1 rfl (lv_room (Nat.le_of_ble_eq_true rfl)) dX9_matchLength_47 ⟨Nat.zero_le _, Nat.zero_le _⟩) (fun H locs hP hS => ?_)
        exact zret_i hx hb hr hlocks hf hP hS dX9_matchLength_50
      · have hf := (if_pos c35).symm.trans hf
        refine lv_bipush (v := (-5 : Int32)) hx hb dX9_matchLength_38 (by decide) ?_
        refine lv_goto (tgt := 50) hx hb dX9_matchLength_40 (by decide) ?_
        exact zret_i hx hb hr hlocks hf hP hS dX9_matchLength_50
    · have hf := (if_neg c16).symm.trans hf
      refine lv_iconst (v := (-1 : Int32)) hx hb dX9_matchLength_19 (by decide) ?_
      exact zret_i hx hb hr hlocks hf hP hS dX9_matchLength_20
  · have hf := (if_neg c5).symm.trans hf
    refine lv_bipush (v := (-2 : Int32)) hx hb dX9_matchLength_8 (by decide) ?_
    exact zret_i hx hb hr hlocks hf hP hS dX9_matchLength_10
