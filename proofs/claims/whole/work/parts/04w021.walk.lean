set_option maxHeartbeats 4000000 in
set_option maxRecDepth 100000 in
theorem k_X8_isCharacter (l : Launch) (p0 : Int32) (rr : Int32) (hf : fX8_isCharacter p0 = some rr) : Met l yX8_isCharacter wsX8_isCharacter ({ frames := 0, cells := 0, slots := 0, locals := 0 } : Room) (zPp [.int p0]) (zQp rr) 0 0 zNo := by
  refine Met.ofW (cc := cX8_isCharacter) (maxL := 1) (ret := (some .boolean)) (by decide) rfl ?_
  intro p e s m args below meth c s₁ B hml hv
  obtain ⟨rfl, -⟩ := hv
  have hx := B.exec
  have hb := B.bytes
  have hr := B.returns
  have hts := atoms_spec (ws := wsX8_isCharacter) B.pre
  have hown : s.vm.findClass RX8 = some m.cls := findClass_of_methodNamed B.named
  have hlocks := B.notSynchronized
  have hl := lv_entry ([.int p0]) (n := 1) (Nat.le_of_ble_eq_true rfl)
  rw [lg_entry_eq]
  generalize (lg_sl ([.int p0]) ++ List.replicate (1 - (lg_sl ([.int p0])).length) Slot.unset).toArray = ls at hl ⊢
  have hl : lv_has ls 1 [(0, .int p0)] := hl
  unfold fX8_isCharacter at hf
  refine lv_iload_n hx hb dX8_isCharacter_0 rfl (lv_at hl 0 rfl) ?_
  refine lv_bipush (v := (32 : Int32)) hx hb dX8_isCharacter_1 (by decide) ?_
  refine lv_icmp_lt (tgt := 16) hx hb dX8_isCharacter_3 (by decide) (fun c3 => ?_) (fun c3 => ?_)
  · have hf := (if_pos c3).symm.trans hf
    refine lv_iconst (v := (0 : Int32)) hx hb dX8_isCharacter_16 (by decide) ?_
    exact zret_pz hx hb hr (Or.inl rfl) hlocks hf dX8_isCharacter_17
  · have hf := (if_neg c3).symm.trans hf
    refine lv_iload_n hx hb dX8_isCharacter_6 rfl (lv_at hl 0 rfl) ?_
    refine lv_bipush (v := (126 : Int32)) hx hb dX8_isCharacter_7 (by decide) ?_
    refine lv_icmp_gt (tgt := 16) hx hb dX8_isCharacter_9 (by decide) (fun c9 => ?_) (fun c9 => ?_)
    · have hf := (if_pos c9).symm.trans hf
      refine lv_iconst (v := (0 : Int32)) hx hb dX8_isCharacter_16 (by decide) ?_
      exact zret_pz hx hb hr (Or.inl rfl) hlocks hf dX8_isCharacter_17
    · have hf := (if_neg c9).symm.trans hf
      refine lv_iconst (v := (1 : Int32)) hx hb dX8_isCharacter_12 (by decide) ?_
      refine lv_goto (tgt := 17) hx hb dX8_isCharacter_13 (by decide) ?_
      exact zret_pz hx hb hr (Or.inl rfl) hlocks hf dX8_isCharacter_17
theorem hi_X8_setClass_2 : ∀ w ∈ wsX20, w ∈ wsX8_setClass := fun _ h => List.mem_cons_of_mem _ (List.mem_append_left _ (List.mem_append_left _ (List.mem_append_right _ h)))
theorem hi_X8_setClass_7 : ∀ w ∈ wsX70, w ∈ wsX8_setClass := fun _ h => List.mem_cons_of_mem _ (List.mem_append_left _ (List.mem_append_left _ (List.mem_append_left _ (List.mem_append_left _ (List.mem_append_right _ h)))))
theorem hi_X8_setClass_8 : ∀ w ∈ wsX80, w ∈ wsX8_setClass := fun _ h => List.mem_cons_of_mem _ (List.mem_append_left _ (List.mem_append_left _ (List.mem_append_left _ (List.mem_append_left _ (List.mem_append_left _ (List.mem_append_right _ h))))))
set_option maxHeartbeats 4000000 in
set_option maxRecDepth 100000 in
theorem k_X8_setClass (l : Launch) (D : va_G) (cy : Nat → ClassId) (b : Nat) (M0 : Mem) (p0 : Nat) (p1 : Int32) (p2 : Int32) (rr : Int32 × Mem) (hf : fX8_setClass M0 p0 p1 p2 = some rr) : Met l yX8_setClass wsX8_setClass ({ frames := 6, cells := 0, slots := 0, locals := 163 } : Room) (zPc D cy b M0 [.ref (b + p0), .int p1, .int p2]) (zQi D cy b rr) 0 0 (zA b) := by
  refine Met.ofW (cc := cX8_setClass) (maxL := 5) (ret := (some .int)) (by decide) rfl ?_
  intro p e s m args below meth c s₁ B hml hv
  obtain ⟨rfl, hP, hK⟩ := hv
  have hx := B.exec
  have hb := B.bytes
  have hr := B.returns
  have hts := atoms_spec (ws := wsX8_setClass) B.pre
  have hown : s.vm.findClass RX8 = some m.cls := findClass_of_methodNamed B.named
  have hlocks := B.notSynchronized
  have hS : va_S (zA b) s.heap s.heap [] := va_S.rf
  have hl := lv_entry ([.ref (b + p0), .int p1, .int p2]) (n := 5) (Nat.le_of_ble_eq_true rfl)
  rw [lg_entry_eq]
  generalize (lg_sl ([.ref (b + p0), .int p1, .int p2]) ++ List.replicate (5 - (lg_sl ([.ref (b + p0), .int p1, .int p2])).length) Slot.unset).toArray = ls at hl ⊢
  have hl : lv_has ls 5 [(0, .ref (b + p0)), (1, .int p1), (2, .int p2)] := hl
  have L43 : ∀ (n43 : Nat) (M : Mem) (H : Heap) (locs : List Loc) (ls : Array Slot) (h0 : Nat) (x3 : Int32) (x4 : Int32), fX8_setClass_43L  n43 M h0 x3 x4 = some rr → zH D cy b M H → va_S (zA b) s.heap H locs → lv_has ls 5 [(0, .ref (b + h0)), (3, .int x3), (4, .int x4)] → W p l e (headSpec wsX8_setClass ({ frames := 6, cells := 0, slots := 0, locals := 163 } : Room)).room s m ([.ref (b + p0), .int p1, .int p2] : List Value).toArray below meth c H locs 0 0 (MQ below (zQi D cy b rr) ([.ref (b + p0), .int p1, .int p2] : List Value).toArray s 0 0 (zA b)) (F0 m 43 ls []) := by
    intro n43
    induction n43 with
    | zero =>
      intro M H locs ls h0 x3 x4 hf
      have hf : (none : Option (Int32 × Mem)) = some rr := hf
      cases hf
    | succ n43 ih43 =>
      intro M H locs ls h0 x3 x4 hf hP hS hl
      have hf : fX8_setClass_43  (fX8_setClass_43L  n43) M h0 x3 x4 = some rr := hf
      unfold fX8_setClass_43 at hf
      refine lv_iload hx hb dX8_setClass_43 (lv_at hl 2 rfl) ?_
      refine lv_iconst (v := (3 : Int32)) hx hb dX8_setClass_45 (by decide) ?_
      refine lv_icmp_ge (tgt := 69) hx hb dX8_setClass_46 (by decide) (fun c46 => ?_) (fun c46 => ?_)
      · have hf := (if_pos c46).symm.trans hf
        refine lv_iload_n hx hb dX8_setClass_69 rfl (lv_at hl 1 rfl) ?_
        exact zret_i hx hb hr hlocks hf hP hS dX8_setClass_70
      · have hf := (if_neg c46).symm.trans hf
        refine lv_aload_n hx hb dX8_setClass_49 rfl (lv_at hl 0 rfl) ?_
        obtain ⟨v50, e50, hf⟩ := zb hf
        refine zr_gr (ci := 8) (k := 2) (C := RX8) (T := TX8) (N := 7) hx hb hts hi_X8_setClass_8 hown hK hP e50 rfl rfl (by decide) (by decide) (hts (.fieldLink RX8 27 "BoundaryAnalyzer" "kinds" "[LBoundaryAnalyzer$Kind;") (List.mem_of_getElem? (i := 2) rfl)) dX8_setClass_50 ?_
        refine lv_iload hx hb dX8_setClass_53 (lv_at hl 2 rfl) ?_
        obtain ⟨v55, e55, hf⟩ := zb hf
        refine zr_aa (t0 := 4) hx hb hK hP e55 (by decide) rfl dX8_setClass_55 ?_
        refine lv_aload_n hx hb dX8_setClass_56 rfl (lv_at hl 0 rfl) ?_
        obtain ⟨v57, e57, hf⟩ := zb hf
        refine zr_gr (ci := 8) (k := 0) (C := RX8) (T := TX8) (N := 7) hx hb hts hi_X8_setClass_8 hown hK hP e57 rfl rfl (by decide) (by decide) (hts (.fieldLink RX8 10 "BoundaryAnalyzer" "text" "LBoundaryAnalyzer$Text;") (List.mem_of_getElem? (i := 1) rfl)) dX8_setClass_57 ?_
        obtain ⟨u60, t60, hf⟩ := zb hf
        obtain ⟨M60, e60, hf⟩ := zb hf
        refine zc_v hS (va_runV (As := [.ref (b + v57)]) (rest := []) ⟨hx, hb, hml, hown, hts⟩ (k_X2_analyseAll l D cy b M v55 v57 M60 e60) (cwV 1 hts gX8_setClass_X2_analyseAll rfl rfl rfl (by decide +kernel) ⟨Nat.le_of_ble_eq_true rfl, Nat.le_of_ble_eq_true rfl⟩) (zp_V _ hK hP t60 (T := TX2) (N := 5) rfl (by decide)) rfl rfl hl.1 rfl (lv_room (Nat.le_of_ble_eq_true rfl)) dX8_setClass_60 ⟨Nat.zero_le _, Nat.zero_le _⟩) (fun H locs hP hS => ?_)
        obtain ⟨x4_63, q63, hf⟩ := zlt_s hf
        refine lv_iinc (v := x4_63) (lv' := [(4, .int x4_63), (0, .ref (b + h0)), (3, .int x3)]) hx hb dX8_setClass_63 hl (k := 2) rfl (by rw [← q63]; rfl) (by decide) rfl (fun ls hl => ?_)
        refine lv_goto (tgt := 43) hx hb dX8_setClass_66 (by decide) ?_
        exact ih43 _ _ _ _ _ _ _ hf hP hS (lv_sub hl [1, 2, 0] rfl)
  unfold fX8_setClass at hf
  refine lv_iload_n hx hb dX8_setClass_0 rfl (lv_at hl 1 rfl) ?_
  obtain ⟨v1, e1, hf⟩ := zb hf
  refine zc_p (va_runS (As := [.int p1]) (rest := []) ⟨hx, hb, hml, hown, hts⟩ (k_X8_isCharacter l p1 v1 e1) (va_cwS 1 hts gX8_setClass_X8_isCharacter rfl rfl rfl (by decide +kernel) ⟨Nat.le_of_ble_eq_true rfl, Nat.le_of_ble_eq_true rfl⟩) (zp_p _) rfl rfl hl.1 rfl (lv_room (Nat.le_of_ble_eq_true rfl)) dX8_setClass_1 ⟨Nat.zero_le _, Nat.zero_le _⟩) ?_
  refine lv_if_eq (tgt := 14) hx hb dX8_setClass_4 (by decide) (fun c4 => ?_) (fun c4 => ?_)
  · have hf := (if_pos c4).symm.trans hf
    refine lv_bipush (v := (-2 : Int32)) hx hb dX8_setClass_14 (by decide) ?_
    exact zret_i hx hb hr hlocks hf hP hS dX8_setClass_16
  · have hf := (if_neg c4).symm.trans hf
    refine lv_iload_n hx hb dX8_setClass_7 rfl (lv_at hl 2 rfl) ?_
    obtain ⟨v8, e8, hf⟩ := zb hf
    refine zc_p (va_runS (As := [.int p2]) (rest := []) ⟨hx, hb, hml, hown, hts⟩ (k_X8_isClass l p2 v8 e8) (va_cwS 1 hts gX8_setClass_X8_isClass rfl rfl rfl (by decide +kernel) ⟨Nat.le_of_ble_eq_true rfl, Nat.le_of_ble_eq_true rfl⟩) (zp_p _) rfl rfl hl.1 rfl (lv_room (Nat.le_of_ble_eq_true rfl)) dX8_setClass_8 ⟨Nat.zero_le _, Nat.zero_le _⟩) ?_
    refine lv_if_ne (tgt := 17) hx hb dX8_setClass_11 (by decide) (fun c11 => ?_) (fun c11 => ?_)
    · have hf := (if_neg c11).symm.trans hf
      refine lv_aload_n hx hb dX8_setClass_17 rfl (lv_at hl 0 rfl) ?_
      obtain ⟨v18, e18, hf⟩ := zb hf
      refine zr_gr (ci := 8) (k := 0) (C := RX8) (T := TX8) (N := 7) hx hb hts hi_X8_setClass_8 hown hK hP e18 rfl rfl (by decide) (by decide) (hts (.fieldLink RX8 10 "BoundaryAnalyzer" "text" "LBoundaryAnalyzer$Text;") (List.mem_of_getElem? (i := 1) rfl)) dX8_setClass_18 ?_
      refine lv_iload_n hx hb dX8_setClass_21 rfl (lv_at hl 1 rfl) ?_
      obtain ⟨u22, t22, hf⟩ := zb hf
      obtain ⟨r22, e22, hf⟩ := zb hf
      refine zc_i hS (va_runV (As := [.int p1]) (rest := []) ⟨hx, hb, hml, hown, hts⟩ (k_X7_classOfCharacter l D cy b M0 v18 p1 r22 e22) (cwV 1 hts gX8_setClass_X7_classOfCharacter rfl rfl rfl (by decide +kernel) ⟨Nat.le_of_ble_eq_true rfl, Nat.le_of_ble_eq_true rfl⟩) (zp_V _ hK hP t22 (T := TX7) (N := 2) rfl (by decide)) rfl rfl hl.1 rfl (lv_room (Nat.le_of_ble_eq_true rfl)) dX8_setClass_22 ⟨Nat.zero_le _, Nat.zero_le _⟩) (fun H locs hP hS => ?_)
      refine lv_istore_n (lv' := [(3, .int r22.1), (0, .ref (b + p0)), (1, .int p1), (2, .int p2)]) hx hb dX8_setClass_25 rfl hl (by decide) rfl (fun ls hl => ?_)
      refine lv_iload_n hx hb dX8_setClass_26 rfl (lv_at hl 0 rfl) ?_
      refine lv_iload_n hx hb dX8_setClass_27 rfl (lv_at hl 3 rfl) ?_
      refine lv_icmp_eq (tgt := 69) hx hb dX8_setClass_28 (by decide) (fun c28 => ?_) (fun c28 => ?_)
      · have hf := (if_pos c28).symm.trans hf
        refine lv_iload_n hx hb dX8_setClass_69 rfl (lv_at hl 0 rfl) ?_
        exact zret_i hx hb hr hlocks hf hP hS dX8_setClass_70
      · have hf := (if_neg c28).symm.trans hf
        refine lv_aload_n hx hb dX8_setClass_31 rfl (lv_at hl 1 rfl) ?_
        obtain ⟨v32, e32, hf⟩ := zb hf
        refine zr_gr (ci := 8) (k := 0) (C := RX8) (T := TX8) (N := 7) hx hb hts hi_X8_setClass_8 hown hK hP e32 rfl rfl (by decide) (by decide) (hts (.fieldLink RX8 10 "BoundaryAnalyzer" "text" "LBoundaryAnalyzer$Text;") (List.mem_of_getElem? (i := 1) rfl)) dX8_setClass_32 ?_
        refine lv_iload_n hx hb dX8_setClass_35 rfl (lv_at hl 2 rfl) ?_
        refine lv_iload_n hx hb dX8_setClass_36 rfl (lv_at hl 3 rfl) ?_
        obtain ⟨u37, t37, hf⟩ := zb hf
        obtain ⟨M37, e37, hf⟩ := zb hf
        refine zc_v hS (va_runV (As := [.int p1, .int p2]) (rest := []) ⟨hx, hb, hml, hown, hts⟩ (k_X7_changeClass l D cy b r22.2 v32 p1 p2 M37 e37) (cwV 2 hts gX8_setClass_X7_changeClass rfl rfl rfl (by decide +kernel) ⟨Nat.le_of_ble_eq_true rfl, Nat.le_of_ble_eq_true rfl⟩) (zp_V _ hK hP t37 (T := TX7) (N := 2) rfl (by decide)) rfl rfl hl.1 rfl (lv_room (Nat.le_of_ble_eq_true rfl)) dX8_setClass_37 ⟨Nat.zero_le _, Nat.zero_le _⟩) (fun H locs hP hS => ?_)
        refine lv_iconst (v := (0 : Int32)) hx hb dX8_setClass_40 (by decide) ?_
        refine lv_istore (lv' := [(4, .int (0 : Int32)), (3, .int r22.1), (0, .ref (b + p0)), (1, .int p1), (2, .int p2)]) hx hb dX8_setClass_41 hl (by decide) rfl (fun ls hl => ?_)
        exact L43 _ _ _ _ _ _ _ _ hf hP hS (lv_sub hl [2, 1, 0] rfl)
    · have hf := (if_pos c11).symm.trans hf
      refine lv_bipush (v := (-2 : Int32)) hx hb dX8_setClass_14 (by decide) ?_
      exact zret_i hx hb hr hlocks hf hP hS dX8_setClass_16
theorem hi_X8_classOf_7 : ∀ w ∈ wsX70, w ∈ wsX8_classOf := fun _ h => List.mem_cons_of_mem _ (List.mem_append_right _ h)
theorem hi_X8_classOf_8 : ∀ w ∈ wsX80, w ∈ wsX8_classOf := fun _ h => List.mem_cons_of_mem _ (List.mem_append_left _ (List.mem_append_right _ h))
set_option maxHeartbeats 4000000 in
set_option maxRecDepth 100000 in
theorem k_X8_classOf (l : Launch) (D : va_G) (cy : Nat → ClassId) (b : Nat) (M0 : Mem) (p0 : Nat) (p1 : Int32) (rr : Int32 × Mem) (hf : fX8_classOf M0 p0 p1 = some rr) : Met l yX8_classOf wsX8_classOf ({ frames := 1, cells := 0, slots := 0, locals := 22 } : Room) (zPc D cy b M0 [.ref (b + p0), .int p1]) (zQi D cy b rr) 0 0 (zA b) := by
  refine Met.ofW (cc := cX8_classOf) (maxL := 2) (ret := (some .int)) (by decide) rfl ?_
  intro p e s m args below meth c s₁ B hml hv
  obtain ⟨rfl, hP, hK⟩ := hv
  have hx := B.exec
  have hb := B.bytes
  have hr := B.returns
  have hts := atoms_spec (ws := wsX8_classOf) B.pre
  have hown : s.vm.findClass RX8 = some m.cls := findClass_of_methodNamed B.named
  have hlocks := B.notSynchronized
  have hS : va_S (zA b) s.heap s.heap [] := va_S.rf
  have hl := lv_entry ([.ref (b + p0), .int p1]) (n := 2) (Nat.le_of_ble_eq_true rfl)
  rw [lg_entry_eq]
  generalize (lg_sl ([.ref (b + p0), .int p1]) ++ List.replicate (2 - (lg_sl ([.ref (b + p0), .int p1])).length) Slot.unset).toArray = ls at hl ⊢
  have hl : lv_has ls 2 [(0, .ref (b + p0)), (1, .int p1)] := hl
  unfold fX8_classOf at hf
  refine lv_iload_n hx hb dX8_classOf_0 rfl (lv_at hl 1 rfl) ?_
  obtain ⟨v1, e1, hf⟩ := zb hf
  refine zc_p (va_runS (As := [.int p1]) (rest := []) ⟨hx, hb, hml, hown, hts⟩ (k_X8_isCharacter l p1 v1 e1) (va_cwS 1 hts gX8_classOf_X8_isCharacter rfl rfl rfl (by decide +kernel) ⟨Nat.le_of_ble_eq_true rfl, Nat.le_of_ble_eq_true rfl⟩) (zp_p _) rfl rfl hl.1 rfl (lv_room (Nat.le_of_ble_eq_true rfl)) dX8_classOf_1 ⟨Nat.zero_le _, Nat.zero_le _⟩) ?_
  refine lv_if_eq (tgt := 18) hx hb dX8_classOf_4 (by decide) (fun c4 => ?_) (fun c4 => ?_)
  · have hf := (if_pos c4).symm.trans hf
    refine lv_bipush (v := (-2 : Int32)) hx hb dX8_classOf_18 (by decide) ?_
    exact zret_i hx hb hr hlocks hf hP hS dX8_classOf_20
  · have hf := (if_neg c4).symm.trans hf
    refine lv_aload_n hx hb dX8_classOf_7 rfl (lv_at hl 0 rfl) ?_
    obtain ⟨v8, e8, hf⟩ := zb hf
    refine zr_gr (ci := 8) (k := 0) (C := RX8) (T := TX8) (N := 7) hx hb hts hi_X8_classOf_8 hown hK hP e8 rfl rfl (by decide) (by decide) (hts (.fieldLink RX8 10 "BoundaryAnalyzer" "text" "LBoundaryAnalyzer$Text;") (List.mem_of_getElem? (i := 1) rfl)) dX8_classOf_8 ?_
    refine lv_iload_n hx hb dX8_classOf_11 rfl (lv_at hl 1 rfl) ?_
    obtain ⟨u12, t12, hf⟩ := zb hf
    obtain ⟨r12, e12, hf⟩ := zb hf
    refine zc_i hS (va_runV (As := [.int p1]) (rest := []) ⟨hx, hb, hml, hown, hts⟩ (k_X7_classOfCharacter l D cy b M0 v8 p1 r12 e12) (cwV 1 hts gX8_classOf_X7_classOfCharacter rfl rfl rfl (by decide +kernel) ⟨Nat.le_of_ble_eq_true rfl, Nat.le_of_ble_eq_true rfl⟩) (zp_V _ hK hP t12 (T := TX7) (N := 2) rfl (by decide)) rfl rfl hl.1 rfl (lv_room (Nat.le_of_ble_eq_true rfl)) dX8_classOf_12 ⟨Nat.zero_le _, Nat.zero_le _⟩) (fun H locs hP hS => ?_)
    refine lv_goto (tgt := 20) hx hb dX8_classOf_15 (by decide) ?_
    exact zret_i hx hb hr hlocks hf hP hS dX8_classOf_20
theorem hi_X8_type_4 : ∀ w ∈ wsX40, w ∈ wsX8_type := fun _ h => List.mem_cons_of_mem _ (List.mem_append_right _ h)
theorem hi_X8_type_8 : ∀ w ∈ wsX80, w ∈ wsX8_type := fun _ h => List.mem_cons_of_mem _ (List.mem_append_left _ (List.mem_append_right _ h))
set_option maxHeartbeats 4000000 in
set_option maxRecDepth 100000 in
theorem k_X8_type (l : Launch) (D : va_G) (cy : Nat → ClassId) (b : Nat) (M0 : Mem) (p0 : Nat) (p1 : Int32) (rr : Int32 × Mem) (hf : fX8_type M0 p0 p1 = some rr) : Met l yX8_type wsX8_type ({ frames := 1, cells := 0, slots := 0, locals := 21 } : Room) (zPc D cy b M0 [.ref (b + p0), .int p1]) (zQi D cy b rr) 0 0 (zA b) := by
  refine Met.ofW (cc := cX8_type) (maxL := 2) (ret := (some .int)) (by decide) rfl ?_
  intro p e s m args below meth c s₁ B hml hv
  obtain ⟨rfl, hP, hK⟩ := hv
  have hx := B.exec
  have hb := B.bytes
  have hr := B.returns
  have hts := atoms_spec (ws := wsX8_type) B.pre
  have hown : s.vm.findClass RX8 = some m.cls := findClass_of_methodNamed B.named
  have hlocks := B.notSynchronized
  have hS : va_S (zA b) s.heap s.heap [] := va_S.rf
  have hl := lv_entry ([.ref (b + p0), .int p1]) (n := 2) (Nat.le_of_ble_eq_true rfl)
  rw [lg_entry_eq]
  generalize (lg_sl ([.ref (b + p0), .int p1]) ++ List.replicate (2 - (lg_sl ([.ref (b + p0), .int p1])).length) Slot.unset).toArray = ls at hl ⊢
  have hl : lv_has ls 2 [(0, .ref (b + p0)), (1, .int p1)] := hl
  unfold fX8_type at hf
  refine lv_aload_n hx hb dX8_type_0 rfl (lv_at hl 0 rfl) ?_
  obtain ⟨v1, e1, hf⟩ := zb hf
  refine zr_gr (ci := 8) (k := 1) (C := RX8) (T := TX8) (N := 7) hx hb hts hi_X8_type_8 hown hK hP e1 rfl rfl (by decide) (by decide) (hts (.fieldLink RX8 21 "BoundaryAnalyzer" "pattern" "LBoundaryAnalyzer$Row;") (List.mem_of_getElem? (i := 1) rfl)) dX8_type_1 ?_
  obtain ⟨v4, e4, hf⟩ := zb hf
  refine zr_gi (ci := 4) (k := 1) (C := RX4) (T := TX4) (N := 2) hx hb hts hi_X8_type_4 hown hK hP e4 rfl rfl (by decide) (by decide) (hts (.fieldLink RX8 70 "BoundaryAnalyzer$Row" "size" "I") (List.mem_of_getElem? (i := 2) rfl)) dX8_type_4 ?_
  refine lv_bipush (v := (24 : Int32)) hx hb dX8_type_7 (by decide) ?_
  refine lv_icmp_lt (tgt := 15) hx hb dX8_type_9 (by decide) (fun c9 => ?_) (fun c9 => ?_)
  · have hf := (if_pos c9).symm.trans hf
    refine lv_aload_n hx hb dX8_type_15 rfl (lv_at hl 0 rfl) ?_
    obtain ⟨v16, e16, hf⟩ := zb hf
    refine zr_gr (ci := 8) (k := 1) (C := RX8) (T := TX8) (N := 7) hx hb hts hi_X8_type_8 hown hK hP e16 rfl rfl (by decide) (by decide) (hts (.fieldLink RX8 21 "BoundaryAnalyzer" "pattern" "LBoundaryAnalyzer$Row;") (List.mem_of_getElem? (i := 1) rfl)) dX8_type_16 ?_
    refine lv_iload_n hx hb dX8_type_19 rfl (lv_at hl 1 rfl) ?_
    obtain ⟨u20, t20, hf⟩ := zb hf
    obtain ⟨M20, e20, hf⟩ := zb hf
    refine zc_v hS (va_runV (As := [.int p1]) (rest := []) ⟨hx, hb, hml, hown, hts⟩ (k_X4_append l D cy b M0 v16 p1 M20 e20) (cwV 1 hts gX8_type_X4_append rfl rfl rfl (by decide +kernel) ⟨Nat.le_of_ble_eq_true rfl, Nat.le_of_ble_eq_true rfl⟩) (zp_V _ hK hP t20 (T := TX4) (N := 2) rfl (by decide)) rfl rfl hl.1 rfl (lv_room (Nat.le_of_ble_eq_true rfl)) dX8_type_20 ⟨Nat.zero_le _, Nat.zero_le _⟩) (fun H locs hP hS => ?_)
    refine lv_aload_n hx hb dX8_type_23 rfl (lv_at hl 0 rfl) ?_
    obtain ⟨v24, e24, hf⟩ := zb hf
    refine zr_gr (ci := 8) (k := 1) (C := RX8) (T := TX8) (N := 7) hx hb hts hi_X8_type_8 hown hK hP e24 rfl rfl (by decide) (by decide) (hts (.fieldLink RX8 21 "BoundaryAnalyzer" "pattern" "LBoundaryAnalyzer$Row;") (List.mem_of_getElem? (i := 1) rfl)) dX8_type_24 ?_
    obtain ⟨v27, e27, hf⟩ := zb hf
    refine zr_gi (ci := 4) (k := 1) (C := RX4) (T := TX4) (N := 2) hx hb hts hi_X8_type_4 hown hK hP e27 rfl rfl (by decide) (by decide) (hts (.fieldLink RX8 70 "BoundaryAnalyzer$Row" "size" "I") (List.mem_of_getElem? (i := 2) rfl)) dX8_type_27 ?_
    exact zret_i hx hb hr hlocks hf hP hS dX8_type_30
  · have hf := (if_neg c9).symm.trans hf
    refine lv_bipush (v := (-3 : Int32)) hx hb dX8_type_12 (by decide) ?_
    exact zret_i hx hb hr hlocks hf hP hS dX8_type_14
