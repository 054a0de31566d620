theorem hi_X8_setClass_2 : ∀ w ∈ wsX20, w ∈ wsX8_setClass := fun _ h => List.mem_cons_of_mem _ (List.mem_append_left _ (List.mem_append_left _ (List.mem_append_right _ h)))
theorem hi_X8_setClass_7 : ∀ w ∈ wsX70, w ∈ wsX8_setClass := fun _ h => List.mem_cons_of_mem _ (List.mem_append_left _ (List.mem_append_left _ (List.mem_append_left _ (List.mem_append_left _ (List.mem_append_right _ h)))))
theorem hi_X8_setClass_8 : ∀ w ∈ wsX80, w ∈ wsX8_setClass := fun _ h => List.mem_cons_of_mem _ (List.mem_append_left _ (List.mem_append_left _ (List.mem_append_left _ (List.mem_append_left _ (List.mem_append_left _ (List.mem_append_right _ h))))))
set_option maxHeartbeats 4000000 in
set_option maxRecDepth 100000 in
theorem k_X8_setClass (l : Launch) (D : va_G) (cy : Nat → ClassId) (b : Nat) (M0 : Mem) (h0 : Nat) (x1 : Int32) (x2 : Int32) (rr : Int32 × Mem) (hf : fX8_setClass M0 h0 x1 x2 = some rr) : Met l yX8_setClass wsX8_setClass ({ frames := 6, cells := 0, slots := 0, locals := 163 } : Room) (zPc D cy b M0 [.ref (b + h0), .int x1, .int x2]) (zQi D cy b rr) 0 0 (zA b) := by
  refine Met.ofW (cc := cX8_setClass) (maxL := 5) (ret := (some .int)) (by decide) rfl ?_
  intro p e s m args below meth c s₁ B hml hv
  obtain ⟨rfl, hP, hK⟩ := hv
  have hx := B.exec
  have hb := B.bytes
  have hr := B.returns
  have hts := atoms_spec (ws := wsX8_setClass) B.pre
  have hown : s.vm.findClass RX8 = some m.cls := findClass_of_methodNamed B.named
  have hlocks := B.notSynchronized
  have hS : va_S (zA b) s.heap s.heap [] := va_S.rf
  have hl := lv_entry ([.ref (b + h0), .int x1, .int x2]) (n := 5) (Nat.le_of_ble_eq_true rfl)
  rw [lg_entry_eq]
  generalize (lg_sl ([.ref (b + h0), .int x1, .int x2]) ++ List.replicate (5 - (lg_sl ([.ref (b + h0), .int x1, .int x2])).length) Slot.unset).toArray = ls at hl ⊢
  have hl : lv_has ls 5 [(0, .ref (b + h0)), (1, .int x1), (2, .int x2)] := hl
  have L43 : ∀ (n43 : Nat) (M : Mem) (H : Heap) (locs : List Loc) (ls : Array Slot) (h0 : Nat) (x3 : Int32) (x4 : Int32), fX8_setClass_43L  n43 M h0 x3 x4 = some rr → zH D cy b M H → va_S (zA b) s.heap H locs → lv_has ls 5 [(0, .ref (b + h0)), (3, .int x3), (4, .int x4)] → W p l e (headSpec wsX8_setClass ({ frames := 6, cells := 0, slots := 0, locals := 163 } : Room)).room s m ([.ref (b + h0), .int x1, .int x2] : List Value).toArray below meth c H locs 0 0 (MQ below (zQi D cy b rr) ([.ref (b + h0), .int x1, .int x2] : List Value).toArray s 0 0 (zA b)) (F0 m 43 ls []) := by
    intro n43
    induction n43 with
    | zero =>
      intro M H locs ls h0 x3 x4 hf
      have hf : (none : Option (Int32 × Mem)) = some rr := hf
      cases hf
    | succ n43 ih43 =>
      intro M H locs ls h0 x3 x4 hf hP hS hl
      have hf : fX8_setClass_43  (fX8_setClass_43L  n43) M h0 x3 x4 = some rr := hf
      unfold fX8_setClass_43 at hf
      refine lv_iload hx hb dX8_setClass_43 (lv_at hl 2 rfl) ?_
      refine lv_iconst (v := (3 : Int32)) hx hb dX8_setClass_45 (by decide) ?_
      refine lv_icmp_ge (tgt := 69) hx hb dX8_setClass_46 (by decide) (fun c46 => ?_) (fun c46 => ?_)
      · have hf := (if_pos c46).symm.trans hf
        refine lv_iload_n hx hb dX8_setClass_69 rfl (lv_at hl 1 rfl) ?_
        exact zret_i hx hb hr hlocks hf hP hS dX8_setClass_70
      · have hf := (if_neg c46).symm.trans hf
        refine lv_aload_n hx hb dX8_setClass_49 rfl (lv_at hl 0 rfl) ?_
        obtain ⟨v50, e50, hf⟩ := zb hf
        refine zr_gr (ci := 8) (k := 2) (C := RX8) (T := TX8) (N := 7) hx hb hts hi_X8_setClass_8 hown hK hP e50 rfl rfl (by decide) (by decide) (hts (.fieldLink RX8 27 "BoundaryAnalyzer" "kinds" "[LBoundaryAnalyzer$Kind;") (List.mem_of_getElem? (i := 2) rfl)) dX8_setClass_50 ?_
        refine lv_iload hx hb dX8_setClass_53 (lv_at hl 2 rfl) ?_
        obtain ⟨v55, e55, hf⟩ := zb hf
        refine zr_aa (t0 := 4) hx hb hK hP e55 (by decide) rfl dX8_setClass_55 ?_
        refine lv_aload_n hx hb dX8_setClass_56 rfl (lv_at hl 0 rfl) ?_
        obtain ⟨v57, e57, hf⟩ := zb hf
        refine zr_gr (ci := 8) (k := 0) (C := RX8) (T := TX8) (N := 7) hx hb hts hi_X8_setClass_8 hown hK hP e57 rfl rfl (by decide) (by decide) (hts (.fieldLink RX8 10 "BoundaryAnalyzer" "text" "LBoundaryAnalyzer$Text;") (List.mem_of_getElem? (i := 1) rfl)) dX8_setClass_57 ?_
        obtain ⟨u60, t60, hf⟩ := zb hf
        obtain ⟨M60, e60, hf⟩ := zb hf
        refine zc_v hS (va_runV (As := [.ref (b + v57)]) (rest := []) ⟨hx, hb, hml, hown, hts⟩ (k_X2_analyseAll l D cy b M v55 v57 M60 e60) (cwV 1 hts gX8_setClass_X2_analyseAll rfl rfl rfl (by decide +kernel) ⟨Nat.le_of_ble_eq_true rfl, Nat.le_of_ble_eq_true rfl⟩) (zp_V _ hK hP t60 (T := TX2) (N := 5) rfl (by decide)) rfl rfl hl.1 rfl (lv_room (Nat.le_of_ble_eq_true rfl)) dX8_setClass_60 ⟨Nat.zero_le _, Nat.zero_le _⟩) (fun H locs hP hS => ?_)
        obtain ⟨x4_63, q63, hf⟩ := zlt_s hf
        refine lv_iinc (v := x4_63) (lv' := [(4, .int x4_63), (0, .ref (b + h0)), (3, .int x3)]) hx hb dX8_setClass_63 hl (k := 2) rfl (by rw [← q63]; rfl) (by decide) rfl (fun ls hl => ?_)
        refine lv_goto (tgt := 43) hx hb dX8_setClass_66 (by decide) ?_
        exact ih43 _ _ _ _ _ _ _ hf hP hS (lv_sub hl [1, 2, 0] rfl)
  unfold fX8_setClass at hf
  refine lv_iload_n hx hb dX8_setClass_0 rfl (lv_at hl 1 rfl) ?_
  obtain ⟨v1, e1, hf⟩ := zb hf
  refine zc_p (va_runS (As := [.int x1]) (rest := []) ⟨hx, hb, hml, hown, hts⟩ (k_X8_isCharacter l x1 v1 e1) (va_cwS 1 hts gX8_setClass_X8_isCharacter rfl rfl rfl (by decide +kernel) ⟨Nat.le_of_ble_eq_true rfl, Nat.le_of_ble_eq_true rfl⟩) (zp_p _) rfl rfl hl.1 rfl (lv_room (Nat.le_of_ble_eq_true rfl)) dX8_setClass_1 ⟨Nat.zero_le _, Nat.zero_le _⟩) ?_
  refine lv_if_eq (tgt := 14) hx hb dX8_setClass_4 (by decide) (fun c4 => ?_) (fun c4 => ?_)
  · have hf := (if_pos c4).symm.trans hf
    refine lv_bipush (v := (-2 : Int32)) hx hb dX8_setClass_14 (by decide) ?_
    exact zret_i hx hb hr hlocks hf hP hS dX8_setClass_16
  · have hf := (if_neg c4).symm.trans hf
    refine lv_iload_n hx hb dX8_setClass_7 rfl (lv_at hl 2 rfl) ?_
    obtain ⟨v8, e8, hf⟩ := zb hf
    refine zc_p (va_runS (As := [.int x2]) (rest := []) ⟨hx, hb, hml, hown, hts⟩ (k_X8_isClass l x2 v8 e8) (va_cwS 1 hts gX8_setClass_X8_isClass rfl rfl rfl (by decide +kernel) ⟨Nat.le_of_ble_eq_true rfl, Nat.le_of_ble_eq_true rfl⟩) (zp_p _) rfl rfl hl.1 rfl (lv_room (Nat.le_of_ble_eq_true rfl)) dX8_setClass_8 ⟨Nat.zero_le _, Nat.zero_le _⟩) ?_
    refine lv_if_ne (tgt := 17) hx hb dX8_setClass_11 (by decide) (fun c11 => ?_) (fun c11 => ?_)
    · have hf := (if_neg c11).symm.trans hf
      refine lv_aload_n hx hb dX8_setClass_17 rfl (lv_at hl 0 rfl) ?_
      obtain ⟨v18, e18, hf⟩ := zb hf
      refine zr_gr (ci := 8) (k := 0) (C := RX8) (T := TX8) (N := 7) hx hb hts hi_X8_setClass_8 hown hK hP e18 rfl rfl (by decide) (by decide) (hts (.fieldLink RX8 10 "BoundaryAnalyzer" "text" "LBoundaryAnalyzer$Text;") (List.mem_of_getElem? (i := 1) rfl)) dX8_setClass_18 ?_
      refine lv_iload_n hx hb dX8_setClass_21 rfl (lv_at hl 1 rfl) ?_
      obtain ⟨u22, t22, hf⟩ := zb hf
      obtain ⟨r22, e22, hf⟩ := zb hf
      refine zc_i hS (va_runV (As := [.int x1]) (rest := []) ⟨hx, hb, hml, hown, hts⟩ (k_X7_classOfCharacter l D cy b M0 v18 x1 r22 e22) (cwV 1 hts gX8_setClass_X7_classOfCharacter rfl rfl rfl (by decide +kernel) ⟨Nat.le_of_ble_eq_true rfl, Nat.le_of_ble_eq_true rfl⟩) (zp_V _ hK hP t22 (T := TX7) (N := 2) rfl (by decide)) rfl rfl hl.1 rfl (lv_room (Nat.le_of_ble_eq_true rfl)) dX8_setClass_22 ⟨Nat.zero_le _, Nat.zero_le _⟩) (fun H locs hP hS => ?_)
      refine lv_istore_n (lv' := [(3, .int r22.1), (0, .ref (b + h0)), (1, .int x1), (2, .int x2)]) hx hb dX8_setClass_25 rfl hl (by decide) rfl (fun ls hl => ?_)
      refine lv_iload_n hx hb dX8_setClass_26 rfl (lv_at hl 0 rfl) ?_
      refine lv_iload_n hx hb dX8_setClass_27 rfl (lv_at hl 3 rfl) ?_
      refine lv_icmp_eq (tgt := 69) hx hb dX8_setClass_28 (by decide) (fun c28 => ?_) (fun c28 => ?_)
      · have hf := (if_pos c28).symm.trans hf
        refine lv_iload_n hx hb dX8_setClass_69 rfl (lv_at hl 0 rfl) ?_
        exact zret_i hx hb hr hlocks hf hP hS dX8_setClass_70
      · have hf := (if_neg c28).symm.trans hf
        refine lv_aload_n hx hb dX8_setClass_31 rfl (lv_at hl 1 rfl) ?_
        obtain ⟨v32, e32, hf⟩ := zb hf
        refine zr_gr (ci := 8) (k := 0) (C := RX8) (T := TX8) (N := 7) hx hb hts hi_X8_setClass_8 hown hK hP e32 rfl rfl (by decide) (by decide) (hts (.fieldLink RX8 10 "BoundaryAnalyzer" "text" "LBoundaryAnalyzer$Text;") (List.mem_of_getElem? (i := 1) rfl)) dX8_setClass_32 ?_
        refine lv_iload_n hx hb dX8_setClass_35 rfl (lv_at hl 2 rfl) ?_
        refine lv_iload_n hx hb dX8_setClass_36 rfl (lv_at hl 3 rfl) ?_
        obtain ⟨u37, t37, hf⟩ := zb hf
        obtain ⟨M37, e37, hf⟩ := zb hf
        refine zc_v hS (va_runV (As := [.int x1, .int x2]) (rest := []) ⟨hx, hb, hml, hown, hts⟩ (k_X7_changeClass l D cy b r22.2 v32 x1 x2 M37 e37) (cwV 2 hts gX8_setClass_X7_changeClass rfl rfl rfl (by decide +kernel) ⟨Nat.le_of_ble_eq_true rfl, Nat.le_of_ble_eq_true rfl⟩) (zp_V _ hK hP t37 (T := TX7) (N := 2) rfl (by decide)) rfl rfl hl.1 rfl (lv_room (Nat.le_of_ble_eq_true rfl)) dX8_setClass_37 ⟨Nat.zero_le _, Nat.zero_le _⟩) (fun H locs hP hS => ?_)
        refine lv_iconst (v := (0 : Int32)) hx hb dX8_setClass_40 (by decide) ?_
        refine lv_istore (lv' := [(4, .int (0 : Int32)), (3, .int r22.1), (0, .ref (b + h0)), (1, .int x1), (2, .int x2)]) hx hb dX8_setClass_41 hl (by decide) rfl (fun ls hl => ?_)
        exact L43 _ _ _ _ _ _ _ _ hf hP hS (lv_sub hl [2, 1, 0] rfl)
    · have hf := (if_pos c11).symm.trans hf
      refine lv_bipush (v := (-2 : Int32)) hx hb dX8_setClass_14 (by decide) ?_
      exact zret_i hx hb hr hlocks hf hP hS dX8_setClass_16
theorem hi_X8_classOf_7 : ∀ w ∈ wsX70, w ∈ wsX8_classOf := fun _ h => List.mem_cons_of_mem _ (List.mem_append_right _ h)
theorem hi_X8_classOf_8 : ∀ w ∈ wsX80, w ∈ wsX8_classOf := fun _ h => List.mem_cons_of_mem _ (List.mem_append_left _ (List.mem_append_right _ h))
set_option maxHeartbeats 4000000 in
set_option maxRecDepth 100000 in
theorem k_X8_classOf (l : Launch) (D : va_G) (cy : Nat → ClassId) (b : Nat) (M0 : Mem) (h0 : Nat) (x1 : Int32) (rr : Int32 × Mem) (hf : fX8_classOf M0 h0 x1 = some rr) : Met l yX8_classOf wsX8_classOf ({ frames := 1, cells := 0, slots := 0, locals := 22 } : Room) (zPc D cy b M0 [.ref (b + h0), .int x1]) (zQi D cy b rr) 0 0 (zA b) := by
  refine Met.ofW (cc := cX8_classOf) (maxL := 2) (ret := (some .int)) (by decide) rfl ?_
  intro p e s m args below meth c s₁ B hml hv
  obtain ⟨rfl, hP, hK⟩ := hv
  have hx := B.exec
  have hb := B.bytes
  have hr := B.returns
  have hts := atoms_spec (ws := wsX8_classOf) B.pre
  have hown : s.vm.findClass RX8 = some m.cls := findClass_of_methodNamed B.named
  have hlocks := B.notSynchronized
  have hS : va_S (zA b) s.heap s.heap [] := va_S.rf
  have hl := lv_entry ([.ref (b + h0), .int x1]) (n := 2) (Nat.le_of_ble_eq_true rfl)
  rw [lg_entry_eq]
  generalize (lg_sl ([.ref (b + h0), .int x1]) ++ List.replicate (2 - (lg_sl ([.ref (b + h0), .int x1])).length) Slot.unset).toArray = ls at hl ⊢
  have hl : lv_has ls 2 [(0, .ref (b + h0)), (1, .int x1)] := hl
  unfold fX8_classOf at hf
  refine lv_iload_n hx hb dX8_classOf_0 rfl (lv_at hl 1 rfl) ?_
  obtain ⟨v1, e1, hf⟩ := zb hf
  refine zc_p (va_runS (As := [.int x1]) (rest := []) ⟨hx, hb, hml, hown, hts⟩ (k_X8_isCharacter l x1 v1 e1) (va_cwS 1 hts gX8_classOf_X8_isCharacter rfl rfl rfl (by decide +kernel) ⟨Nat.le_of_ble_eq_true rfl, Nat.le_of_ble_eq_true rfl⟩) (zp_p _) rfl rfl hl.1 rfl (lv_room (Nat.le_of_ble_eq_true rfl)) dX8_classOf_1 ⟨Nat.zero_le _, Nat.zero_le _⟩) ?_
  refine lv_if_eq (tgt := 18) hx hb dX8_classOf_4 (by decide) (fun c4 => ?_) (fun c4 => ?_)
  · have hf := (if_pos c4).symm.trans hf
    refine lv_bipush (v := (-2 : Int32)) hx hb dX8_classOf_18 (by decide) ?_
    exact zret_i hx hb hr hlocks hf hP hS dX8_classOf_20
  · have hf := (if_neg c4).symm.trans hf
    refine lv_aload_n hx hb dX8_classOf_7 rfl (lv_at hl 0 rfl) ?_
    obtain ⟨v8, e8, hf⟩ := zb hf
    refine zr_gr (ci := 8) (k := 0) (C := RX8) (T := TX8) (N := 7) hx hb hts hi_X8_classOf_8 hown hK hP e8 rfl rfl (by decide) (by decide) (hts (.fieldLink RX8 10 "BoundaryAnalyzer" "text" "LBoundaryAnalyzer$Text;") (List.mem_of_getElem? (i := 1) rfl)) dX8_classOf_8 ?_
    refine lv_iload_n hx hb dX8_classOf_11 rfl (lv_at hl 1 rfl) ?_
    obtain ⟨u12, t12, hf⟩ := zb hf
    obtain ⟨r12, e12, hf⟩ := zb hf
    refine zc_i hS (va_runV (As := [.int x1]) (rest := []) ⟨hx, hb, hml, hown, hts⟩ (k_X7_classOfCharacter l D cy b M0 v8 x1 r12 e12) (cwV 1 hts gX8_classOf_X7_classOfCharacter rfl rfl rfl (by decide +kernel) ⟨Nat.le_of_ble_eq_true rfl, Nat.le_of_ble_eq_true rfl⟩) (zp_V _ hK hP t12 (T := TX7) (N := 2) rfl (by decide)) rfl rfl hl.1 rfl (lv_room (Nat.le_of_ble_eq_true rfl)) dX8_classOf_12 ⟨Nat.zero_le _, Nat.zero_le _⟩) (fun H locs hP hS => ?_)
    refine lv_goto (tgt := 20) hx hb dX8_classOf_15 (by decide) ?_
    exact zret_i hx hb hr hlocks hf hP hS dX8_classOf_20
theorem hi_X8_type_4 : ∀ w ∈ wsX40, w ∈ wsX8_type := fun _ h => List.mem_cons_of_mem _ (List.mem_append_right _ h)
theorem hi_X8_type_8 : ∀ w ∈ wsX80, w ∈ wsX8_type := fun _ h => List.mem_cons_of_mem _ (List.mem_append_left _ (List.mem_append_right _ h))
set_option maxHeartbeats 4000000 in
set_option maxRecDepth 100000 in
theorem k_X8_type (l : Launch) (D : va_G) (cy : Nat → ClassId) (b : Nat) (M0 : Mem) (h0 : Nat) (x1 : Int32) (rr : Int32 × Mem) (hf : fX8_type M0 h0 x1 = some rr) : Met l yX8_type wsX8_type ({ frames := 1, cells := 0, slots := 0, locals := 21 } : Room) (zPc D cy b M0 [.ref (b + h0), .int x1]) (zQi D cy b rr) 0 0 (zA b) := by
  refine Met.ofW (cc := cX8_type) (maxL := 2) (ret := (some .int)) (by decide) rfl ?_
  intro p e s m args below meth c s₁ B hml hv
  obtain ⟨rfl, hP, hK⟩ := hv
  have hx := B.exec
  have hb := B.bytes
  have hr := B.returns
  have hts := atoms_spec (ws := wsX8_type) B.pre
  have hown : s.vm.findClass RX8 = some m.cls := findClass_of_methodNamed B.named
  have hlocks := B.notSynchronized
  have hS : va_S (zA b) s.heap s.heap [] := va_S.rf
  have hl := lv_entry ([.ref (b + h0), .int x1]) (n := 2) (Nat.le_of_ble_eq_true rfl)
  rw [lg_entry_eq]
  generalize (lg_sl ([.ref (b + h0), .int x1]) ++ List.replicate (2 - (lg_sl ([.ref (b + h0), .int x1])).length) Slot.unset).toArray = ls at hl ⊢
  have hl : lv_has ls 2 [(0, .ref (b + h0)), (1, .int x1)] := hl
  unfold fX8_type at hf
  refine lv_aload_n hx hb dX8_type_0 rfl (lv_at hl 0 rfl) ?_
  obtain ⟨v1, e1, hf⟩ := zb hf
  refine zr_gr (ci := 8) (k := 1) (C := RX8) (T := TX8) (N := 7) hx hb hts hi_X8_type_8 hown hK hP e1 rfl rfl (by decide) (by decide) (hts (.fieldLink RX8 21 "BoundaryAnalyzer" "pattern" "LBoundaryAnalyzer$Row;") (List.mem_of_getElem? (i := 1) rfl)) dX8_type_1 ?_
  obtain ⟨v4, e4, hf⟩ := zb hf
  refine zr_gi (ci := 4) (k := 1) (C := RX4) (T := TX4) (N := 2) hx hb hts hi_X8_type_4 hown hK hP e4 rfl rfl (by decide) (by decide) (hts (.fieldLink RX8 70 "BoundaryAnalyzer$Row" "size" "I") (List.mem_of_getElem? (i := 2) rfl)) dX8_type_4 ?_
  refine lv_bipush (v := (24 : Int32)) hx hb dX8_type_7 (by decide) ?_
  refine lv_icmp_lt (tgt := 15) hx hb dX8_type_9 (by decide) (fun c9 => ?_) (fun c9 => ?_)
  · have hf := (if_pos c9).symm.trans hf
    refine lv_aload_n hx hb dX8_type_15 rfl (lv_at hl 0 rfl) ?_
    obtain ⟨v16, e16, hf⟩ := zb hf
    refine zr_gr (ci := 8) (k := 1) (C := RX8) (T := TX8) (N := 7) hx hb hts hi_X8_type_8 hown hK hP e16 rfl rfl (by decide) (by decide) (hts (.fieldLink RX8 21 "BoundaryAnalyzer" "pattern" "LBoundaryAnalyzer$Row;") (List.mem_of_getElem? (i := 1) rfl)) dX8_type_16 ?_
    refine lv_iload_n hx hb dX8_type_19 rfl (lv_at hl 1 rfl) ?_
    obtain ⟨u20, t20, hf⟩ := zb hf
    obtain ⟨M20, e20, hf⟩ := zb hf
    refine zc_v hS (va_runV (As := [.int x1]) (rest := []) ⟨hx, hb, hml, hown, hts⟩ (k_X4_append l D cy b M0 v16 x1 M20 e20) (cwV 1 hts gX8_type_X4_append rfl rfl rfl (by decide +kernel) ⟨Nat.le_of_ble_eq_true rfl, Nat.le_of_ble_eq_true rfl⟩) (zp_V _ hK hP t20 (T := TX4) (N := 2) rfl (by decide)) rfl rfl hl.1 rfl (lv_room (Nat.le_of_ble_eq_true rfl)) dX8_type_20 ⟨Nat.zero_le _, Nat.zero_le _⟩) (fun H locs hP hS => ?_)
    refine lv_aload_n hx hb dX8_type_23 rfl (lv_at hl 0 rfl) ?_
    obtain ⟨v24, e24, hf⟩ := zb hf
    refine zr_gr (ci := 8) (k := 1) (C := RX8) (T := TX8) (N := 7) hx hb hts hi_X8_type_8 hown hK hP e24 rfl rfl (by decide) (by decide) (hts (.fieldLink RX8 21 "BoundaryAnalyzer" "pattern" "LBoundaryAnalyzer$Row;") (List.mem_of_getElem? (i := 1) rfl)) dX8_type_24 ?_
    obtain ⟨v27, e27, hf⟩ := zb hf
    refine zr_gi (ci := 4) (k := 1) (C := RX4) (T := TX4) (N := 2) hx hb hts hi_X8_type_4 hown hK hP e27 rfl rfl (by decide) (by decide) (hts (.fieldLink RX8 70 "BoundaryAnalyzer$Row" "size" "I") (List.mem_of_getElem? (i := 2) rfl)) dX8_type_27 ?_
    exact zret_i hx hb hr hlocks hf hP hS dX8_type_30
  · have hf := (if_neg c9).symm.trans hf
    refine lv_bipush (v := (-3 : Int32)) hx hb dX8_type_12 (by decide) ?_
    exact zret_i hx hb hr hlocks hf hP hS dX8_type_14
theorem hi_X8_clearPattern_4 : ∀ w ∈ wsX40, w ∈ wsX8_clearPattern := fun _ h => List.mem_cons_of_mem _ (List.mem_append_right _ h)
theorem hi_X8_clearPattern_8 : ∀ w ∈ wsX80, w ∈ wsX8_clearPattern := fun _ h => List.mem_cons_of_mem _ (List.mem_append_left _ (List.mem_append_right _ h))
set_option maxHeartbeats 4000000 in
set_option maxRecDepth 100000 in
theorem k_X8_clearPattern (l : Launch) (D : va_G) (cy : Nat → ClassId) (b : Nat) (M0 : Mem) (h0 : Nat) (rr : Int32 × Mem) (hf : fX8_clearPattern M0 h0 = some rr) : Met l yX8_clearPattern wsX8_clearPattern ({ frames := 0, cells := 0, slots := 0, locals := 0 } : Room) (zPc D cy b M0 [.ref (b + h0)]) (zQi D cy b rr) 0 0 (zA b) := by
  refine Met.ofW (cc := cX8_clearPattern) (maxL := 2) (ret := (some .int)) (by decide) rfl ?_
  intro p e s m args below meth c s₁ B hml hv
  obtain ⟨rfl, hP, hK⟩ := hv
  have hx := B.exec
  have hb := B.bytes
  have hr := B.returns
  have hts := atoms_spec (ws := wsX8_clearPattern) B.pre
  have hown : s.vm.findClass RX8 = some m.cls := findClass_of_methodNamed B.named
  have hlocks := B.notSynchronized
  have hS : va_S (zA b) s.heap s.heap [] := va_S.rf
  have hl := lv_entry ([.ref (b + h0)]) (n := 2) (Nat.le_of_ble_eq_true rfl)
  rw [lg_entry_eq]
  generalize (lg_sl ([.ref (b + h0)]) ++ List.replicate (2 - (lg_sl ([.ref (b + h0)])).length) Slot.unset).toArray = ls at hl ⊢
  have hl : lv_has ls 2 [(0, .ref (b + h0))] := hl
  unfold fX8_clearPattern at hf
  refine lv_aload_n hx hb dX8_clearPattern_0 rfl (lv_at hl 0 rfl) ?_
  obtain ⟨v1, e1, hf⟩ := zb hf
  refine zr_gr (ci := 8) (k := 1) (C := RX8) (T := TX8) (N := 7) hx hb hts hi_X8_clearPattern_8 hown hK hP e1 rfl rfl (by decide) (by decide) (hts (.fieldLink RX8 21 "BoundaryAnalyzer" "pattern" "LBoundaryAnalyzer$Row;") (List.mem_of_getElem? (i := 1) rfl)) dX8_clearPattern_1 ?_
  obtain ⟨v4, e4, hf⟩ := zb hf
  refine zr_gi (ci := 4) (k := 1) (C := RX4) (T := TX4) (N := 2) hx hb hts hi_X8_clearPattern_4 hown hK hP e4 rfl rfl (by decide) (by decide) (hts (.fieldLink RX8 70 "BoundaryAnalyzer$Row" "size" "I") (List.mem_of_getElem? (i := 2) rfl)) dX8_clearPattern_4 ?_
  refine lv_istore_n (lv' := [(1, .int v4), (0, .ref (b + h0))]) hx hb dX8_clearPattern_7 rfl hl (by decide) rfl (fun ls hl => ?_)
  refine lv_aload_n hx hb dX8_clearPattern_8 rfl (lv_at hl 1 rfl) ?_
  obtain ⟨v9, e9, hf⟩ := zb hf
  refine zr_gr (ci := 8) (k := 1) (C := RX8) (T := TX8) (N := 7) hx hb hts hi_X8_clearPattern_8 hown hK hP e9 rfl rfl (by decide) (by decide) (hts (.fieldLink RX8 21 "BoundaryAnalyzer" "pattern" "LBoundaryAnalyzer$Row;") (List.mem_of_getElem? (i := 1) rfl)) dX8_clearPattern_9 ?_
  refine lv_iconst (v := (0 : Int32)) hx hb dX8_clearPattern_12 (by decide) ?_
  obtain ⟨M13, e13, hf⟩ := zb hf
  refine zr_pi (ci := 4) (k := 1) (C := RX4) (T := TX4) (N := 2) hx hb hts hi_X8_clearPattern_4 tyX4 tyX4_ok nmX4 hown hK hP hS e13 rfl rfl (by decide) (by decide) (hts (.fieldLink RX8 70 "BoundaryAnalyzer$Row" "size" "I") (List.mem_of_getElem? (i := 2) rfl)) rfl (tyX4_ok 1 (by decide)) dX8_clearPattern_13 (fun H locs hP _ hS => ?_)
  refine lv_iload_n hx hb dX8_clearPattern_16 rfl (lv_at hl 0 rfl) ?_
  exact zret_i hx hb hr hlocks hf hP hS dX8_clearPattern_17
set_option maxHeartbeats 4000000 in
set_option maxRecDepth 100000 in
theorem k_X8_isKind (l : Launch) (x0 : Int32) (rr : Int32) (hf : fX8_isKind x0 = some rr) : Met l yX8_isKind wsX8_isKind ({ frames := 0, cells := 0, slots := 0, locals := 0 } : Room) (zPp [.int x0]) (zQp rr) 0 0 zNo := by
  refine Met.ofW (cc := cX8_isKind) (maxL := 1) (ret := (some .boolean)) (by decide) rfl ?_
  intro p e s m args below meth c s₁ B hml hv
  obtain ⟨rfl, -⟩ := hv
  have hx := B.exec
  have hb := B.bytes
  have hr := B.returns
  have hts := atoms_spec (ws := wsX8_isKind) B.pre
  have hown : s.vm.findClass RX8 = some m.cls := findClass_of_methodNamed B.named
  have hlocks := B.notSynchronized
  have hl := lv_entry ([.int x0]) (n := 1) (Nat.le_of_ble_eq_true rfl)
  rw [lg_entry_eq]
  generalize (lg_sl ([.int x0]) ++ List.replicate (1 - (lg_sl ([.int x0])).length) Slot.unset).toArray = ls at hl ⊢
  have hl : lv_has ls 1 [(0, .int x0)] := hl
  unfold fX8_isKind at hf
  refine lv_iload_n hx hb dX8_isKind_0 rfl (lv_at hl 0 rfl) ?_
  refine lv_if_lt (tgt := 13) hx hb dX8_isKind_1 (by decide) (fun c1 => ?_) (fun c1 => ?_)
  · have hf := (if_pos c1).symm.trans hf
    refine lv_iconst (v := (0 : Int32)) hx hb dX8_isKind_13 (by decide) ?_
    exact zret_pz hx hb hr (Or.inl rfl) hlocks hf dX8_isKind_14
  · have hf := (if_neg c1).symm.trans hf
    refine lv_iload_n hx hb dX8_isKind_4 rfl (lv_at hl 0 rfl) ?_
    refine lv_iconst (v := (3 : Int32)) hx hb dX8_isKind_5 (by decide) ?_
    refine lv_icmp_ge (tgt := 13) hx hb dX8_isKind_6 (by decide) (fun c6 => ?_) (fun c6 => ?_)
    · have hf := (if_pos c6).symm.trans hf
      refine lv_iconst (v := (0 : Int32)) hx hb dX8_isKind_13 (by decide) ?_
      exact zret_pz hx hb hr (Or.inl rfl) hlocks hf dX8_isKind_14
    · have hf := (if_neg c6).symm.trans hf
      refine lv_iconst (v := (1 : Int32)) hx hb dX8_isKind_9 (by decide) ?_
      refine lv_goto (tgt := 14) hx hb dX8_isKind_10 (by decide) ?_
      exact zret_pz hx hb hr (Or.inl rfl) hlocks hf dX8_isKind_14
set_option maxHeartbeats 4000000 in
set_option maxRecDepth 100000 in
theorem k_X8_isPlace (l : Launch) (x0 : Int32) (rr : Int32) (hf : fX8_isPlace x0 = some rr) : Met l yX8_isPlace wsX8_isPlace ({ frames := 0, cells := 0, slots := 0, locals := 0 } : Room) (zPp [.int x0]) (zQp rr) 0 0 zNo := by
  refine Met.ofW (cc := cX8_isPlace) (maxL := 1) (ret := (some .boolean)) (by decide) rfl ?_
  intro p e s m args below meth c s₁ B hml hv
  obtain ⟨rfl, -⟩ := hv
  have hx := B.exec
  have hb := B.bytes
  have hr := B.returns
  have hts := atoms_spec (ws := wsX8_isPlace) B.pre
  have hown : s.vm.findClass RX8 = some m.cls := findClass_of_methodNamed B.named
  have hlocks := B.notSynchronized
  have hl := lv_entry ([.int x0]) (n := 1) (Nat.le_of_ble_eq_true rfl)
  rw [lg_entry_eq]
  generalize (lg_sl ([.int x0]) ++ List.replicate (1 - (lg_sl ([.int x0])).length) Slot.unset).toArray = ls at hl ⊢
  have hl : lv_has ls 1 [(0, .int x0)] := hl
  unfold fX8_isPlace at hf
  refine lv_iload_n hx hb dX8_isPlace_0 rfl (lv_at hl 0 rfl) ?_
  refine lv_if_lt (tgt := 13) hx hb dX8_isPlace_1 (by decide) (fun c1 => ?_) (fun c1 => ?_)
  · have hf := (if_pos c1).symm.trans hf
    refine lv_iconst (v := (0 : Int32)) hx hb dX8_isPlace_13 (by decide) ?_
    exact zret_pz hx hb hr (Or.inl rfl) hlocks hf dX8_isPlace_14
  · have hf := (if_neg c1).symm.trans hf
    refine lv_iload_n hx hb dX8_isPlace_4 rfl (lv_at hl 0 rfl) ?_
    refine lv_iconst (v := (5 : Int32)) hx hb dX8_isPlace_5 (by decide) ?_
    refine lv_icmp_ge (tgt := 13) hx hb dX8_isPlace_6 (by decide) (fun c6 => ?_) (fun c6 => ?_)
    · have hf := (if_pos c6).symm.trans hf
      refine lv_iconst (v := (0 : Int32)) hx hb dX8_isPlace_13 (by decide) ?_
      exact zret_pz hx hb hr (Or.inl rfl) hlocks hf dX8_isPlace_14
    · have hf := (if_neg c6).symm.trans hf
      refine lv_iconst (v := (1 : Int32)) hx hb dX8_isPlace_9 (by decide) ?_
      refine lv_goto (tgt := 14) hx hb dX8_isPlace_10 (by decide) ?_
      exact zret_pz hx hb hr (Or.inl rfl) hlocks hf dX8_isPlace_14
set_option maxHeartbeats 4000000 in
set_option maxRecDepth 100000 in
theorem k_X8_isRepetition (l : Launch) (x0 : Int32) (rr : Int32) (hf : fX8_isRepetition x0 = some rr) : Met l yX8_isRepetition wsX8_isRepetition ({ frames := 0, cells := 0, slots := 0, locals := 0 } : Room) (zPp [.int x0]) (zQp rr) 0 0 zNo := by
  refine Met.ofW (cc := cX8_isRepetition) (maxL := 1) (ret := (some .boolean)) (by decide) rfl ?_
  intro p e s m args below meth c s₁ B hml hv
  obtain ⟨rfl, -⟩ := hv
  have hx := B.exec
  have hb := B.bytes
  have hr := B.returns
  have hts := atoms_spec (ws := wsX8_isRepetition) B.pre
  have hown : s.vm.findClass RX8 = some m.cls := findClass_of_methodNamed B.named
  have hlocks := B.notSynchronized
  have hl := lv_entry ([.int x0]) (n := 1) (Nat.le_of_ble_eq_true rfl)
  rw [lg_entry_eq]
  generalize (lg_sl ([.int x0]) ++ List.replicate (1 - (lg_sl ([.int x0])).length) Slot.unset).toArray = ls at hl ⊢
  have hl : lv_has ls 1 [(0, .int x0)] := hl
  have J18 : ∀ (ls : Array Slot) , fX8_isRepetition_18   = some rr → lv_has ls 1 [] → W p l e (headSpec wsX8_isRepetition ({ frames := 0, cells := 0, slots := 0, locals := 0 } : Room)).room s m ([.int x0] : List Value).toArray below meth c s.heap [] 0 0 (MQ below (zQp rr) ([.int x0] : List Value).toArray s 0 0 zNo) (F0 m 18 ls []) := by
    intro ls  hf hl
    unfold fX8_isRepetition_18 at hf
    refine lv_iconst (v := (1 : Int32)) hx hb dX8_isRepetition_18 (by decide) ?_
    refine lv_goto (tgt := 23) hx hb dX8_isRepetition_19 (by decide) ?_
    exact zret_pz hx hb hr (Or.inl rfl) hlocks hf dX8_isRepetition_23
  unfold fX8_isRepetition at hf
  refine lv_iload_n hx hb dX8_isRepetition_0 rfl (lv_at hl 0 rfl) ?_
  refine lv_bipush (v := (42 : Int32)) hx hb dX8_isRepetition_1 (by decide) ?_
  refine lv_icmp_eq (tgt := 18) hx hb dX8_isRepetition_3 (by decide) (fun c3 => ?_) (fun c3 => ?_)
  · have hf := (if_pos c3).symm.trans hf
    exact J18 _ hf (lv_sub hl [] rfl)
  · have hf := (if_neg c3).symm.trans hf
    refine lv_iload_n hx hb dX8_isRepetition_6 rfl (lv_at hl 0 rfl) ?_
    refine lv_bipush (v := (43 : Int32)) hx hb dX8_isRepetition_7 (by decide) ?_
    refine lv_icmp_eq (tgt := 18) hx hb dX8_isRepetition_9 (by decide) (fun c9 => ?_) (fun c9 => ?_)
    · have hf := (if_pos c9).symm.trans hf
      exact J18 _ hf (lv_sub hl [] rfl)
    · have hf := (if_neg c9).symm.trans hf
      refine lv_iload_n hx hb dX8_isRepetition_12 rfl (lv_at hl 0 rfl) ?_
      refine lv_bipush (v := (63 : Int32)) hx hb dX8_isRepetition_13 (by decide) ?_
      refine lv_icmp_ne (tgt := 22) hx hb dX8_isRepetition_15 (by decide) (fun c15 => ?_) (fun c15 => ?_)
      · have hf := (if_neg c15).symm.trans hf
        refine lv_iconst (v := (0 : Int32)) hx hb dX8_isRepetition_22 (by decide) ?_
        exact zret_pz hx hb hr (Or.inl rfl) hlocks hf dX8_isRepetition_23
      · have hf := (if_pos c15).symm.trans hf
        exact J18 _ hf (lv_sub hl [] rfl)
theorem hi_X8_faultOf_4 : ∀ w ∈ wsX40, w ∈ wsX8_faultOf := fun _ h => List.mem_cons_of_mem _ (List.mem_append_right _ h)
set_option maxHeartbeats 4000000 in
set_option maxRecDepth 100000 in
theorem k_X8_faultOf (l : Launch) (D : va_G) (cy : Nat → ClassId) (b : Nat) (M0 : Mem) (h0 : Nat) (rr : Int32 × Mem) (hf : fX8_faultOf M0 h0 = some rr) : Met l yX8_faultOf wsX8_faultOf ({ frames := 1, cells := 0, slots := 0, locals := 21 } : Room) (zPc D cy b M0 [.ref (b + h0)]) (zQi D cy b rr) 0 0 (zA b) := by
  refine Met.ofW (cc := cX8_faultOf) (maxL := 7) (ret := (some .int)) (by decide) rfl ?_
  intro p e s m args below meth c s₁ B hml hv
  obtain ⟨rfl, hP, hK⟩ := hv
  have hx := B.exec
  have hb := B.bytes
  have hr := B.returns
  have hts := atoms_spec (ws := wsX8_faultOf) B.pre
  have hown : s.vm.findClass RX8 = some m.cls := findClass_of_methodNamed B.named
  have hlocks := B.notSynchronized
  have hS : va_S (zA b) s.heap s.heap [] := va_S.rf
  have hl := lv_entry ([.ref (b + h0)]) (n := 7) (Nat.le_of_ble_eq_true rfl)
  rw [lg_entry_eq]
  generalize (lg_sl ([.ref (b + h0)]) ++ List.replicate (7 - (lg_sl ([.ref (b + h0)])).length) Slot.unset).toArray = ls at hl ⊢
  have hl : lv_has ls 7 [(0, .ref (b + h0))] := hl
  have J175 : ∀ (M : Mem) (H : Heap) (locs : List Loc) (ls : Array Slot) (h0 : Nat), fX8_faultOf_175  M h0 = some rr → zH D cy b M H → va_S (zA b) s.heap H locs → lv_has ls 7 [(0, .ref (b + h0))] → W p l e (headSpec wsX8_faultOf ({ frames := 1, cells := 0, slots := 0, locals := 21 } : Room)).room s m ([.ref (b + h0)] : List Value).toArray below meth c H locs 0 0 (MQ below (zQi D cy b rr) ([.ref (b + h0)] : List Value).toArray s 0 0 (zA b)) (F0 m 175 ls []) := by
    intro M H locs ls h0 hf hP hS hl
    unfold fX8_faultOf_175 at hf
    refine lv_aload_n hx hb dX8_faultOf_175 rfl (lv_at hl 0 rfl) ?_
    obtain ⟨v176, e176, hf⟩ := zb hf
    refine zr_gi (ci := 4) (k := 1) (C := RX4) (T := TX4) (N := 2) hx hb hts hi_X8_faultOf_4 hown hK hP e176 rfl rfl (by decide) (by decide) (hts (.fieldLink RX8 70 "BoundaryAnalyzer$Row" "size" "I") (List.mem_of_getElem? (i := 1) rfl)) dX8_faultOf_176 ?_
    exact zret_i hx hb hr hlocks hf hP hS dX8_faultOf_179
  have L12 : ∀ (n12 : Nat) (M : Mem) (H : Heap) (locs : List Loc) (ls : Array Slot) (h0 : Nat) (x1 : Int32) (x2 : Int32) (x3 : Int32) (x4 : Int32) (x5 : Int32), fX8_faultOf_12L  n12 M h0 x1 x2 x3 x4 x5 = some rr → zH D cy b M H → va_S (zA b) s.heap H locs → lv_has ls 7 [(0, .ref (b + h0)), (1, .int x1), (2, .int x2), (3, .int x3), (4, .int x4), (5, .int x5)] → W p l e (headSpec wsX8_faultOf ({ frames := 1, cells := 0, slots := 0, locals := 21 } : Room)).room s m ([.ref (b + h0)] : List Value).toArray below meth c H locs 0 0 (MQ below (zQi D cy b rr) ([.ref (b + h0)] : List Value).toArray s 0 0 (zA b)) (F0 m 12 ls []) := by
    intro n12
    induction n12 with
    | zero =>
      intro M H locs ls h0 x1 x2 x3 x4 x5 hf
      have hf : (none : Option (Int32 × Mem)) = some rr := hf
      cases hf
    | succ n12 ih12 =>
      have J157 : ∀ (M : Mem) (H : Heap) (locs : List Loc) (ls : Array Slot) (h0 : Nat) (x1 : Int32) (x2 : Int32) (x3 : Int32) (x4 : Int32) (x5 : Int32), fX8_faultOf_157 (fX8_faultOf_12L  n12) M h0 x1 x2 x3 x4 x5 = some rr → zH D cy b M H → va_S (zA b) s.heap H locs → lv_has ls 7 [(0, .ref (b + h0)), (1, .int x1), (2, .int x2), (3, .int x3), (4, .int x4), (5, .int x5)] → W p l e (headSpec wsX8_faultOf ({ frames := 1, cells := 0, slots := 0, locals := 21 } : Room)).room s m ([.ref (b + h0)] : List Value).toArray below meth c H locs 0 0 (MQ below (zQi D cy b rr) ([.ref (b + h0)] : List Value).toArray s 0 0 (zA b)) (F0 m 157 ls []) := by
        intro M H locs ls h0 x1 x2 x3 x4 x5 hf hP hS hl
        unfold fX8_faultOf_157 at hf
        obtain ⟨x5_157, q157, hf⟩ := zlt_s hf
        refine lv_iinc (v := x5_157) (lv' := [(5, .int x5_157), (0, .ref (b + h0)), (1, .int x1), (2, .int x2), (3, .int x3), (4, .int x4)]) hx hb dX8_faultOf_157 hl (k := 5) rfl (by rw [← q157]; rfl) (by decide) rfl (fun ls hl => ?_)
        refine lv_goto (tgt := 12) hx hb dX8_faultOf_160 (by decide) ?_
        exact ih12 _ _ _ _ _ _ _ _ _ _ hf hP hS (lv_sub hl [1, 2, 3, 4, 5, 0] rfl)
      have J137 : ∀ (M : Mem) (H : Heap) (locs : List Loc) (ls : Array Slot) (h0 : Nat) (x1 : Int32) (x2 : Int32) (x3 : Int32) (x4 : Int32) (x5 : Int32) (x6 : Int32), fX8_faultOf_137 (fX8_faultOf_12L  n12) M h0 x1 x2 x3 x4 x5 x6 = some rr → zH D cy b M H → va_S (zA b) s.heap H locs → lv_has ls 7 [(0, .ref (b + h0)), (1, .int x1), (2, .int x2), (3, .int x3), (4, .int x4), (5, .int x5), (6, .int x6)] → W p l e (headSpec wsX8_faultOf ({ frames := 1, cells := 0, slots := 0, locals := 21 } : Room)).room s m ([.ref (b + h0)] : List Value).toArray below meth c H locs 0 0 (MQ below (zQi D cy b rr) ([.ref (b + h0)] : List Value).toArray s 0 0 (zA b)) (F0 m 137 ls []) := by
        intro M H locs ls h0 x1 x2 x3 x4 x5 x6 hf hP hS hl
        unfold fX8_faultOf_137 at hf
        refine lv_iload hx hb dX8_faultOf_137 (lv_at hl 6 rfl) ?_
        obtain ⟨v139, e139, hf⟩ := zb hf
        refine zc_p (va_runS (As := [.int x6]) (rest := []) ⟨hx, hb, hml, hown, hts⟩ (k_X8_isRepetition l x6 v139 e139) (va_cwS 1 hts gX8_faultOf_X8_isRepetition rfl rfl rfl (by decide +kernel) ⟨Nat.le_of_ble_eq_true rfl, Nat.le_of_ble_eq_true rfl⟩) (zp_p _) rfl rfl hl.1 rfl (lv_room (Nat.le_of_ble_eq_true rfl)) dX8_faultOf_139 ⟨Nat.zero_le _, Nat.zero_le _⟩) ?_
        refine lv_if_eq (tgt := 154) hx hb dX8_faultOf_142 (by decide) (fun c142 => ?_) (fun c142 => ?_)
        · have hf := (if_pos c142).symm.trans hf
          refine lv_iload hx hb dX8_faultOf_154 (lv_at hl 5 rfl) ?_
          exact zret_i hx hb hr hlocks hf hP hS dX8_faultOf_156
        · have hf := (if_neg c142).symm.trans hf
          refine lv_iload_n hx hb dX8_faultOf_145 rfl (lv_at hl 3 rfl) ?_
          refine lv_if_eq (tgt := 154) hx hb dX8_faultOf_146 (by decide) (fun c146 => ?_) (fun c146 => ?_)
          · have hf := (if_pos c146).symm.trans hf
            refine lv_iload hx hb dX8_faultOf_154 (lv_at hl 5 rfl) ?_
            exact zret_i hx hb hr hlocks hf hP hS dX8_faultOf_156
          · have hf := (if_neg c146).symm.trans hf
            refine lv_iconst (v := (0 : Int32)) hx hb dX8_faultOf_149 (by decide) ?_
            refine lv_istore_n (lv' := [(3, .int (0 : Int32)), (0, .ref (b + h0)), (1, .int x1), (2, .int x2), (4, .int x4), (5, .int x5), (6, .int x6)]) hx hb dX8_faultOf_150 rfl hl (by decide) rfl (fun ls hl => ?_)
            refine lv_goto (tgt := 157) hx hb dX8_faultOf_151 (by decide) ?_
            exact J157 _ _ _ _ _ _ _ _ _ _ hf hP hS (lv_sub hl [1, 2, 3, 0, 4, 5] rfl)
      have J107 : ∀ (M : Mem) (H : Heap) (locs : List Loc) (ls : Array Slot) (h0 : Nat) (x1 : Int32) (x2 : Int32) (x3 : Int32) (x4 : Int32) (x5 : Int32) (x6 : Int32), fX8_faultOf_107 (fX8_faultOf_12L  n12) M h0 x1 x2 x3 x4 x5 x6 = some rr → zH D cy b M H → va_S (zA b) s.heap H locs → lv_has ls 7 [(0, .ref (b + h0)), (1, .int x1), (2, .int x2), (3, .int x3), (4, .int x4), (5, .int x5), (6, .int x6)] → W p l e (headSpec wsX8_faultOf ({ frames := 1, cells := 0, slots := 0, locals := 21 } : Room)).room s m ([.ref (b + h0)] : List Value).toArray below meth c H locs 0 0 (MQ below (zQi D cy b rr) ([.ref (b + h0)] : List Value).toArray s 0 0 (zA b)) (F0 m 107 ls []) := by
        intro M H locs ls h0 x1 x2 x3 x4 x5 x6 hf hP hS hl
        unfold fX8_faultOf_107 at hf
        refine lv_iload hx hb dX8_faultOf_107 (lv_at hl 6 rfl) ?_
        refine lv_bipush (v := (47 : Int32)) hx hb dX8_faultOf_109 (by decide) ?_
        refine lv_icmp_ne (tgt := 137) hx hb dX8_faultOf_111 (by decide) (fun c111 => ?_) (fun c111 => ?_)
        · have hf := (if_neg c111).symm.trans hf
          exact J137 _ _ _ _ _ _ _ _ _ _ _ hf hP hS (lv_sub hl [0, 1, 2, 3, 4, 5, 6] rfl)
        · have hf := (if_pos c111).symm.trans hf
          refine lv_iload_n hx hb dX8_faultOf_114 rfl (lv_at hl 2 rfl) ?_
          refine lv_if_eq (tgt := 137) hx hb dX8_faultOf_115 (by decide) (fun c115 => ?_) (fun c115 => ?_)
          · have hf := (if_pos c115).symm.trans hf
            exact J137 _ _ _ _ _ _ _ _ _ _ _ hf hP hS (lv_sub hl [0, 1, 2, 3, 4, 5, 6] rfl)
          · have hf := (if_neg c115).symm.trans hf
            refine lv_iload_n hx hb dX8_faultOf_118 rfl (lv_at hl 1 rfl) ?_
            refine lv_if_ne (tgt := 137) hx hb dX8_faultOf_119 (by decide) (fun c119 => ?_) (fun c119 => ?_)
            · have hf := (if_neg c119).symm.trans hf
              exact J137 _ _ _ _ _ _ _ _ _ _ _ hf hP hS (lv_sub hl [0, 1, 2, 3, 4, 5, 6] rfl)
            · have hf := (if_pos c119).symm.trans hf
              refine lv_iload hx hb dX8_faultOf_122 (lv_at hl 4 rfl) ?_
              refine lv_if_ne (tgt := 137) hx hb dX8_faultOf_124 (by decide) (fun c124 => ?_) (fun c124 => ?_)
              · have hf := (if_neg c124).symm.trans hf
                exact J137 _ _ _ _ _ _ _ _ _ _ _ hf hP hS (lv_sub hl [0, 1, 2, 3, 4, 5, 6] rfl)
              · have hf := (if_pos c124).symm.trans hf
                refine lv_iconst (v := (1 : Int32)) hx hb dX8_faultOf_127 (by decide) ?_
                refine lv_istore (lv' := [(4, .int (1 : Int32)), (0, .ref (b + h0)), (1, .int x1), (2, .int x2), (3, .int x3), (5, .int x5), (6, .int x6)]) hx hb dX8_faultOf_128 hl (by decide) rfl (fun ls hl => ?_)
                refine lv_iconst (v := (0 : Int32)) hx hb dX8_faultOf_130 (by decide) ?_
                refine lv_istore_n (lv' := [(2, .int (0 : Int32)), (4, .int (1 : Int32)), (0, .ref (b + h0)), (1, .int x1), (3, .int x3), (5, .int x5), (6, .int x6)]) hx hb dX8_faultOf_131 rfl hl (by decide) rfl (fun ls hl => ?_)
                refine lv_iconst (v := (0 : Int32)) hx hb dX8_faultOf_132 (by decide) ?_
                refine lv_istore_n (lv' := [(3, .int (0 : Int32)), (2, .int (0 : Int32)), (4, .int (1 : Int32)), (0, .ref (b + h0)), (1, .int x1), (5, .int x5), (6, .int x6)]) hx hb dX8_faultOf_133 rfl hl (by decide) rfl (fun ls hl => ?_)
                refine lv_goto (tgt := 157) hx hb dX8_faultOf_134 (by decide) ?_
                exact J157 _ _ _ _ _ _ _ _ _ _ hf hP hS (lv_sub hl [3, 4, 1, 0, 2, 5] rfl)
      have J89 : ∀ (M : Mem) (H : Heap) (locs : List Loc) (ls : Array Slot) (h0 : Nat) (x1 : Int32) (x2 : Int32) (x3 : Int32) (x4 : Int32) (x5 : Int32) (x6 : Int32), fX8_faultOf_89 (fX8_faultOf_12L  n12) M h0 x1 x2 x3 x4 x5 x6 = some rr → zH D cy b M H → va_S (zA b) s.heap H locs → lv_has ls 7 [(0, .ref (b + h0)), (1, .int x1), (2, .int x2), (3, .int x3), (4, .int x4), (5, .int x5), (6, .int x6)] → W p l e (headSpec wsX8_faultOf ({ frames := 1, cells := 0, slots := 0, locals := 21 } : Room)).room s m ([.ref (b + h0)] : List Value).toArray below meth c H locs 0 0 (MQ below (zQi D cy b rr) ([.ref (b + h0)] : List Value).toArray s 0 0 (zA b)) (F0 m 89 ls []) := by
        intro M H locs ls h0 x1 x2 x3 x4 x5 x6 hf hP hS hl
        unfold fX8_faultOf_89 at hf
        refine lv_iload hx hb dX8_faultOf_89 (lv_at hl 6 rfl) ?_
        refine lv_bipush (v := (124 : Int32)) hx hb dX8_faultOf_91 (by decide) ?_
        refine lv_icmp_ne (tgt := 107) hx hb dX8_faultOf_93 (by decide) (fun c93 => ?_) (fun c93 => ?_)
        · have hf := (if_neg c93).symm.trans hf
          exact J107 _ _ _ _ _ _ _ _ _ _ _ hf hP hS (lv_sub hl [0, 1, 2, 3, 4, 5, 6] rfl)
        · have hf := (if_pos c93).symm.trans hf
          refine lv_iload_n hx hb dX8_faultOf_96 rfl (lv_at hl 2 rfl) ?_
          refine lv_if_eq (tgt := 107) hx hb dX8_faultOf_97 (by decide) (fun c97 => ?_) (fun c97 => ?_)
          · have hf := (if_pos c97).symm.trans hf
            exact J107 _ _ _ _ _ _ _ _ _ _ _ hf hP hS (lv_sub hl [0, 1, 2, 3, 4, 5, 6] rfl)
          · have hf := (if_neg c97).symm.trans hf
            refine lv_iconst (v := (0 : Int32)) hx hb dX8_faultOf_100 (by decide) ?_
            refine lv_istore_n (lv' := [(2, .int (0 : Int32)), (0, .ref (b + h0)), (1, .int x1), (3, .int x3), (4, .int x4), (5, .int x5), (6, .int x6)]) hx hb dX8_faultOf_101 rfl hl (by decide) rfl (fun ls hl => ?_)
            refine lv_iconst (v := (0 : Int32)) hx hb dX8_faultOf_102 (by decide) ?_
            refine lv_istore_n (lv' := [(3, .int (0 : Int32)), (2, .int (0 : Int32)), (0, .ref (b + h0)), (1, .int x1), (4, .int x4), (5, .int x5), (6, .int x6)]) hx hb dX8_faultOf_103 rfl hl (by decide) rfl (fun ls hl => ?_)
            refine lv_goto (tgt := 157) hx hb dX8_faultOf_104 (by decide) ?_
            exact J157 _ _ _ _ _ _ _ _ _ _ hf hP hS (lv_sub hl [2, 3, 1, 0, 4, 5] rfl)
      have J66 : ∀ (M : Mem) (H : Heap) (locs : List Loc) (ls : Array Slot) (h0 : Nat) (x1 : Int32) (x2 : Int32) (x3 : Int32) (x4 : Int32) (x5 : Int32) (x6 : Int32), fX8_faultOf_66 (fX8_faultOf_12L  n12) M h0 x1 x2 x3 x4 x5 x6 = some rr → zH D cy b M H → va_S (zA b) s.heap H locs → lv_has ls 7 [(0, .ref (b + h0)), (1, .int x1), (2, .int x2), (3, .int x3), (4, .int x4), (5, .int x5), (6, .int x6)] → W p l e (headSpec wsX8_faultOf ({ frames := 1, cells := 0, slots := 0, locals := 21 } : Room)).room s m ([.ref (b + h0)] : List Value).toArray below meth c H locs 0 0 (MQ below (zQi D cy b rr) ([.ref (b + h0)] : List Value).toArray s 0 0 (zA b)) (F0 m 66 ls []) := by
        intro M H locs ls h0 x1 x2 x3 x4 x5 x6 hf hP hS hl
        unfold fX8_faultOf_66 at hf
        refine lv_iload hx hb dX8_faultOf_66 (lv_at hl 6 rfl) ?_
        refine lv_bipush (v := (41 : Int32)) hx hb dX8_faultOf_68 (by decide) ?_
        refine lv_icmp_ne (tgt := 89) hx hb dX8_faultOf_70 (by decide) (fun c70 => ?_) (fun c70 => ?_)
        · have hf := (if_neg c70).symm.trans hf
          exact J89 _ _ _ _ _ _ _ _ _ _ _ hf hP hS (lv_sub hl [0, 1, 2, 3, 4, 5, 6] rfl)
        · have hf := (if_pos c70).symm.trans hf
          refine lv_iload_n hx hb dX8_faultOf_73 rfl (lv_at hl 1 rfl) ?_
          refine lv_if_le (tgt := 89) hx hb dX8_faultOf_74 (by decide) (fun c74 => ?_) (fun c74 => ?_)
          · have hf := (if_pos c74).symm.trans hf
            exact J89 _ _ _ _ _ _ _ _ _ _ _ hf hP hS (lv_sub hl [0, 1, 2, 3, 4, 5, 6] rfl)
          · have hf := (if_neg c74).symm.trans hf
            refine lv_iload_n hx hb dX8_faultOf_77 rfl (lv_at hl 2 rfl) ?_
            refine lv_if_eq (tgt := 89) hx hb dX8_faultOf_78 (by decide) (fun c78 => ?_) (fun c78 => ?_)
            · have hf := (if_pos c78).symm.trans hf
              exact J89 _ _ _ _ _ _ _ _ _ _ _ hf hP hS (lv_sub hl [0, 1, 2, 3, 4, 5, 6] rfl)
            · have hf := (if_neg c78).symm.trans hf
              obtain ⟨x1_81, q81, hf⟩ := zlt_s hf
              refine lv_iinc (v := x1_81) (lv' := [(1, .int x1_81), (0, .ref (b + h0)), (2, .int x2), (3, .int x3), (4, .int x4), (5, .int x5), (6, .int x6)]) hx hb dX8_faultOf_81 hl (k := 1) rfl (by rw [← q81]; rfl) (by decide) rfl (fun ls hl => ?_)
              refine lv_iconst (v := (1 : Int32)) hx hb dX8_faultOf_84 (by decide) ?_
              refine lv_istore_n (lv' := [(3, .int (1 : Int32)), (1, .int x1_81), (0, .ref (b + h0)), (2, .int x2), (4, .int x4), (5, .int x5), (6, .int x6)]) hx hb dX8_faultOf_85 rfl hl (by decide) rfl (fun ls hl => ?_)
              refine lv_goto (tgt := 157) hx hb dX8_faultOf_86 (by decide) ?_
              exact J157 _ _ _ _ _ _ _ _ _ _ hf hP hS (lv_sub hl [2, 1, 3, 0, 4, 5] rfl)
      intro M H locs ls h0 x1 x2 x3 x4 x5 hf hP hS hl
      have hf : fX8_faultOf_12  (fX8_faultOf_12L  n12) M h0 x1 x2 x3 x4 x5 = some rr := hf
      unfold fX8_faultOf_12 at hf
      refine lv_iload hx hb dX8_faultOf_12 (lv_at hl 5 rfl) ?_
      refine lv_aload_n hx hb dX8_faultOf_14 rfl (lv_at hl 0 rfl) ?_
      obtain ⟨v15, e15, hf⟩ := zb hf
      refine zr_gi (ci := 4) (k := 1) (C := RX4) (T := TX4) (N := 2) hx hb hts hi_X8_faultOf_4 hown hK hP e15 rfl rfl (by decide) (by decide) (hts (.fieldLink RX8 70 "BoundaryAnalyzer$Row" "size" "I") (List.mem_of_getElem? (i := 1) rfl)) dX8_faultOf_15 ?_
      refine lv_icmp_ge (tgt := 163) hx hb dX8_faultOf_18 (by decide) (fun c18 => ?_) (fun c18 => ?_)
      · have hf := (if_pos c18).symm.trans hf
        refine lv_iload_n hx hb dX8_faultOf_163 rfl (lv_at hl 2 rfl) ?_
        refine lv_if_eq (tgt := 175) hx hb dX8_faultOf_164 (by decide) (fun c164 => ?_) (fun c164 => ?_)
        · have hf := (if_pos c164).symm.trans hf
          exact J175 _ _ _ _ _ hf hP hS (lv_sub hl [0] rfl)
        · have hf := (if_neg c164).symm.trans hf
          refine lv_iload_n hx hb dX8_faultOf_167 rfl (lv_at hl 1 rfl) ?_
          refine lv_if_ne (tgt := 175) hx hb dX8_faultOf_168 (by decide) (fun c168 => ?_) (fun c168 => ?_)
          · have hf := (if_neg c168).symm.trans hf
            exact J175 _ _ _ _ _ hf hP hS (lv_sub hl [0] rfl)
          · have hf := (if_pos c168).symm.trans hf
            refine lv_iconst (v := (-1 : Int32)) hx hb dX8_faultOf_171 (by decide) ?_
            refine lv_goto (tgt := 179) hx hb dX8_faultOf_172 (by decide) ?_
            exact zret_i hx hb hr hlocks hf hP hS dX8_faultOf_179
      · have hf := (if_neg c18).symm.trans hf
        refine lv_aload_n hx hb dX8_faultOf_21 rfl (lv_at hl 0 rfl) ?_
        refine lv_iload hx hb dX8_faultOf_22 (lv_at hl 5 rfl) ?_
        obtain ⟨u24, t24, hf⟩ := zb hf
        obtain ⟨r24, e24, hf⟩ := zb hf
        refine zc_i hS (va_runV (As := [.int x5]) (rest := []) ⟨hx, hb, hml, hown, hts⟩ (k_X4_at l D cy b M h0 x5 r24 e24) (cwV 1 hts gX8_faultOf_X4_at rfl rfl rfl (by decide +kernel) ⟨Nat.le_of_ble_eq_true rfl, Nat.le_of_ble_eq_true rfl⟩) (zp_V _ hK hP t24 (T := TX4) (N := 2) rfl (by decide)) rfl rfl hl.1 rfl (lv_room (Nat.le_of_ble_eq_true rfl)) dX8_faultOf_24 ⟨Nat.zero_le _, Nat.zero_le _⟩) (fun H locs hP hS => ?_)
        refine lv_istore (lv' := [(6, .int r24.1), (0, .ref (b + h0)), (1, .int x1), (2, .int x2), (3, .int x3), (4, .int x4), (5, .int x5)]) hx hb dX8_faultOf_27 hl (by decide) rfl (fun ls hl => ?_)
        refine lv_iload hx hb dX8_faultOf_29 (lv_at hl 0 rfl) ?_
        obtain ⟨v31, e31, hf⟩ := zb hf
        refine zc_p (va_runS (As := [.int r24.1]) (rest := []) ⟨hx, hb, hml, hown, hts⟩ (k_X8_isClassLetterOrDot l r24.1 v31 e31) (va_cwS 1 hts gX8_faultOf_X8_isClassLetterOrDot rfl rfl rfl (by decide +kernel) ⟨Nat.le_of_ble_eq_true rfl, Nat.le_of_ble_eq_true rfl⟩) (zp_p _) rfl rfl hl.1 rfl (lv_room (Nat.le_of_ble_eq_true rfl)) dX8_faultOf_31 ⟨Nat.zero_le _, Nat.zero_le _⟩) ?_
        refine lv_if_eq (tgt := 44) hx hb dX8_faultOf_34 (by decide) (fun c34 => ?_) (fun c34 => ?_)
        · have hf := (if_pos c34).symm.trans hf
          refine lv_iload hx hb dX8_faultOf_44 (lv_at hl 0 rfl) ?_
          refine lv_bipush (v := (40 : Int32)) hx hb dX8_faultOf_46 (by decide) ?_
          refine lv_icmp_ne (tgt := 66) hx hb dX8_faultOf_48 (by decide) (fun c48 => ?_) (fun c48 => ?_)
          · have hf := (if_neg c48).symm.trans hf
            exact J66 _ _ _ _ _ _ _ _ _ _ _ hf hP hS (lv_sub hl [1, 2, 3, 4, 5, 6, 0] rfl)
          · have hf := (if_pos c48).symm.trans hf
            refine lv_iload_n hx hb dX8_faultOf_51 rfl (lv_at hl 2 rfl) ?_
            refine lv_iconst (v := (4 : Int32)) hx hb dX8_faultOf_52 (by decide) ?_
            refine lv_icmp_ge (tgt := 66) hx hb dX8_faultOf_53 (by decide) (fun c53 => ?_) (fun c53 => ?_)
            · have hf := (if_pos c53).symm.trans hf
              exact J66 _ _ _ _ _ _ _ _ _ _ _ hf hP hS (lv_sub hl [1, 2, 3, 4, 5, 6, 0] rfl)
            · have hf := (if_neg c53).symm.trans hf
              obtain ⟨x1_56, q56, hf⟩ := zlt_s hf
              refine lv_iinc (v := x1_56) (lv' := [(1, .int x1_56), (6, .int r24.1), (0, .ref (b + h0)), (2, .int x2), (3, .int x3), (4, .int x4), (5, .int x5)]) hx hb dX8_faultOf_56 hl (k := 2) rfl (by rw [← q56]; rfl) (by decide) rfl (fun ls hl => ?_)
              refine lv_iconst (v := (0 : Int32)) hx hb dX8_faultOf_59 (by decide) ?_
              refine lv_istore_n (lv' := [(2, .int (0 : Int32)), (1, .int x1_56), (6, .int r24.1), (0, .ref (b + h0)), (3, .int x3), (4, .int x4), (5, .int x5)]) hx hb dX8_faultOf_60 rfl hl (by decide) rfl (fun ls hl => ?_)
              refine lv_iconst (v := (0 : Int32)) hx hb dX8_faultOf_61 (by decide) ?_
              refine lv_istore_n (lv' := [(3, .int (0 : Int32)), (2, .int (0 : Int32)), (1, .int x1_56), (6, .int r24.1), (0, .ref (b + h0)), (4, .int x4), (5, .int x5)]) hx hb dX8_faultOf_62 rfl hl (by decide) rfl (fun ls hl => ?_)
              refine lv_goto (tgt := 157) hx hb dX8_faultOf_63 (by decide) ?_
              exact J157 _ _ _ _ _ _ _ _ _ _ hf hP hS (lv_sub hl [4, 2, 1, 0, 5, 6] rfl)
        · have hf := (if_neg c34).symm.trans hf
          refine lv_iconst (v := (1 : Int32)) hx hb dX8_faultOf_37 (by decide) ?_
          refine lv_istore_n (lv' := [(2, .int (1 : Int32)), (6, .int r24.1), (0, .ref (b + h0)), (1, .int x1), (3, .int x3), (4, .int x4), (5, .int x5)]) hx hb dX8_faultOf_38 rfl hl (by decide) rfl (fun ls hl => ?_)
          refine lv_iconst (v := (1 : Int32)) hx hb dX8_faultOf_39 (by decide) ?_
          refine lv_istore_n (lv' := [(3, .int (1 : Int32)), (2, .int (1 : Int32)), (6, .int r24.1), (0, .ref (b + h0)), (1, .int x1), (4, .int x4), (5, .int x5)]) hx hb dX8_faultOf_40 rfl hl (by decide) rfl (fun ls hl => ?_)
          refine lv_goto (tgt := 157) hx hb dX8_faultOf_41 (by decide) ?_
          exact J157 _ _ _ _ _ _ _ _ _ _ hf hP hS (lv_sub hl [3, 4, 1, 0, 5, 6] rfl)
  unfold fX8_faultOf at hf
  refine lv_iconst (v := (0 : Int32)) hx hb dX8_faultOf_0 (by decide) ?_
  refine lv_istore_n (lv' := [(1, .int (0 : Int32)), (0, .ref (b + h0))]) hx hb dX8_faultOf_1 rfl hl (by decide) rfl (fun ls hl => ?_)
  refine lv_iconst (v := (0 : Int32)) hx hb dX8_faultOf_2 (by decide) ?_
  refine lv_istore_n (lv' := [(2, .int (0 : Int32)), (1, .int (0 : Int32)), (0, .ref (b + h0))]) hx hb dX8_faultOf_3 rfl hl (by decide) rfl (fun ls hl => ?_)
  refine lv_iconst (v := (0 : Int32)) hx hb dX8_faultOf_4 (by decide) ?_
  refine lv_istore_n (lv' := [(3, .int (0 : Int32)), (2, .int (0 : Int32)), (1, .int (0 : Int32)), (0, .ref (b + h0))]) hx hb dX8_faultOf_5 rfl hl (by decide) rfl (fun ls hl => ?_)
  refine lv_iconst (v := (0 : Int32)) hx hb dX8_faultOf_6 (by decide) ?_
  refine lv_istore (lv' := [(4, .int (0 : Int32)), (3, .int (0 : Int32)), (2, .int (0 : Int32)), (1, .int (0 : Int32)), (0, .ref (b + h0))]) hx hb dX8_faultOf_7 hl (by decide) rfl (fun ls hl => ?_)
  refine lv_iconst (v := (0 : Int32)) hx hb dX8_faultOf_9 (by decide) ?_
  refine lv_istore (lv' := [(5, .int (0 : Int32)), (4, .int (0 : Int32)), (3, .int (0 : Int32)), (2, .int (0 : Int32)), (1, .int (0 : Int32)), (0, .ref (b + h0))]) hx hb dX8_faultOf_10 hl (by decide) rfl (fun ls hl => ?_)
  exact L12 _ _ _ _ _ _ _ _ _ _ _ hf hP hS (lv_sub hl [5, 4, 3, 2, 1, 0] rfl)
