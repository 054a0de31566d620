theorem hi_X8_segmentsWith_4 : ∀ w ∈ wsX40, w ∈ wsX8_segmentsWith := fun _ h => List.mem_cons_of_mem _ (List.mem_append_left _ (List.mem_append_right _ h))
theorem hi_X8_segmentsWith_7 : ∀ w ∈ wsX70, w ∈ wsX8_segmentsWith := fun _ h => List.mem_cons_of_mem _ (List.mem_append_left _ (List.mem_append_left _ (List.mem_append_right _ h)))
theorem hi_X8_segmentsWith_8 : ∀ w ∈ wsX80, w ∈ wsX8_segmentsWith := fun _ h => List.mem_cons_of_mem _ (List.mem_append_left _ (List.mem_append_left _ (List.mem_append_left _ (List.mem_append_right _ h))))
set_option maxHeartbeats 4000000 in
set_option maxRecDepth 100000 in
theorem k_X8_segmentsWith (l : Launch) (D : va_G) (cy : Nat → ClassId) (b : Nat) (M0 : Mem) (p0 : Nat) (p1 : Int32) (p2 : Int32) (rr : Int32 × Mem) (hf : fX8_segmentsWith M0 p0 p1 p2 = some rr) : Met l yX8_segmentsWith wsX8_segmentsWith ({ frames := 6, cells := 0, slots := 0, locals := 136 } : Room) (zPc D cy b M0 [.ref (b + p0), .int p1, .int p2]) (zQi D cy b rr) 0 0 (zA b) := by
  refine Met.ofW (cc := cX8_segmentsWith) (maxL := 6) (ret := (some .int)) (by decide) rfl ?_
  intro p e s m args below meth c s₁ B hml hv
  obtain ⟨rfl, hP, hK⟩ := hv
  have hx := B.exec
  have hb := B.bytes
  have hr := B.returns
  have hts := atoms_spec (ws := wsX8_segmentsWith) B.pre
  have hown : s.vm.findClass RX8 = some m.cls := findClass_of_methodNamed B.named
  have hlocks := B.notSynchronized
  have hS : va_S (zA b) s.heap s.heap [] := va_S.rf
  have hl := lv_entry ([.ref (b + p0), .int p1, .int p2]) (n := 6) (Nat.le_of_ble_eq_true rfl)
  rw [lg_entry_eq]
  generalize (lg_sl ([.ref (b + p0), .int p1, .int p2]) ++ List.replicate (6 - (lg_sl ([.ref (b + p0), .int p1, .int p2])).length) Slot.unset).toArray = ls at hl ⊢
  have hl : lv_has ls 6 [(0, .ref (b + p0)), (1, .int p1), (2, .int p2)] := hl
  have L25 : ∀ (n25 : Nat) (M : Mem) (H : Heap) (locs : List Loc) (ls : Array Slot) (h0 : Nat) (x1 : Int32) (x2 : Int32) (x3 : Int32) (x4 : Int32) (x5 : Int32), fX8_segmentsWith_25L  n25 M h0 x1 x2 x3 x4 x5 = some rr → zH D cy b M H → va_S (zA b) s.heap H locs → lv_has ls 6 [(0, .ref (b + h0)), (1, .int x1), (2, .int x2), (3, .int x3), (4, .int x4), (5, .int x5)] → W p l e (headSpec wsX8_segmentsWith ({ frames := 6, cells := 0, slots := 0, locals := 136 } : Room)).room s m ([.ref (b + p0), .int p1, .int p2] : List Value).toArray below meth c H locs 0 0 (MQ below (zQi D cy b rr) ([.ref (b + p0), .int p1, .int p2] : List Value).toArray s 0 0 (zA b)) (F0 m 25 ls []) := by
    intro n25
    induction n25 with
    | zero =>
      intro M H locs ls h0 x1 x2 x3 x4 x5 hf
      have hf : (none : Option (Int32 × Mem)) = some rr := hf
      cases hf
    | succ n25 ih25 =>
      have J78 : ∀ (M : Mem) (H : Heap) (locs : List Loc) (ls : Array Slot) (h0 : Nat) (x1 : Int32) (x2 : Int32) (x3 : Int32) (x4 : Int32) (x5 : Int32), fX8_segmentsWith_78 (fX8_segmentsWith_25L  n25) M h0 x1 x2 x3 x4 x5 = some rr → zH D cy b M H → va_S (zA b) s.heap H locs → lv_has ls 6 [(0, .ref (b + h0)), (1, .int x1), (2, .int x2), (3, .int x3), (4, .int x4), (5, .int x5)] → W p l e (headSpec wsX8_segmentsWith ({ frames := 6, cells := 0, slots := 0, locals := 136 } : Room)).room s m ([.ref (b + p0), .int p1, .int p2] : List Value).toArray below meth c H locs 0 0 (MQ below (zQi D cy b rr) ([.ref (b + p0), .int p1, .int p2] : List Value).toArray s 0 0 (zA b)) (F0 m 78 ls []) := by
        intro M H locs ls h0 x1 x2 x3 x4 x5 hf hP hS hl
        unfold fX8_segmentsWith_78 at hf
        obtain ⟨x5_78, q78, hf⟩ := zlt_s hf
        refine lv_iinc (v := x5_78) (lv' := [(5, .int x5_78), (0, .ref (b + h0)), (1, .int x1), (2, .int x2), (3, .int x3), (4, .int x4)]) hx hb dX8_segmentsWith_78 hl (k := 5) rfl (by rw [← q78]; rfl) (by decide) rfl (fun ls hl => ?_)
        refine lv_goto (tgt := 25) hx hb dX8_segmentsWith_81 (by decide) ?_
        exact ih25 _ _ _ _ _ _ _ _ _ _ hf hP hS (lv_sub hl [1, 2, 3, 4, 5, 0] rfl)
      have J54 : ∀ (M : Mem) (H : Heap) (locs : List Loc) (ls : Array Slot) (h0 : Nat) (x1 : Int32) (x2 : Int32) (x3 : Int32) (x4 : Int32) (x5 : Int32), fX8_segmentsWith_54 (fX8_segmentsWith_25L  n25) M h0 x1 x2 x3 x4 x5 = some rr → zH D cy b M H → va_S (zA b) s.heap H locs → lv_has ls 6 [(0, .ref (b + h0)), (1, .int x1), (2, .int x2), (3, .int x3), (4, .int x4), (5, .int x5)] → W p l e (headSpec wsX8_segmentsWith ({ frames := 6, cells := 0, slots := 0, locals := 136 } : Room)).room s m ([.ref (b + p0), .int p1, .int p2] : List Value).toArray below meth c H locs 0 0 (MQ below (zQi D cy b rr) ([.ref (b + p0), .int p1, .int p2] : List Value).toArray s 0 0 (zA b)) (F0 m 54 ls []) := by
        intro M H locs ls h0 x1 x2 x3 x4 x5 hf hP hS hl
        unfold fX8_segmentsWith_54 at hf
        refine lv_iload hx hb dX8_segmentsWith_54 (lv_at hl 4 rfl) ?_
        refine lv_if_ne (tgt := 78) hx hb dX8_segmentsWith_56 (by decide) (fun c56 => ?_) (fun c56 => ?_)
        · have hf := (if_neg c56).symm.trans hf
          exact J78 _ _ _ _ _ _ _ _ _ _ hf hP hS (lv_sub hl [0, 1, 2, 3, 4, 5] rfl)
        · have hf := (if_pos c56).symm.trans hf
          refine lv_aload_n hx hb dX8_segmentsWith_59 rfl (lv_at hl 0 rfl) ?_
          obtain ⟨v60, e60, hf⟩ := zb hf
          refine zr_gr (ci := 8) (k := 0) (C := RX8) (T := TX8) (N := 7) hx hb hts hi_X8_segmentsWith_8 hown hK hP e60 rfl rfl (by decide) (by decide) (hts (.fieldLink RX8 10 "BoundaryAnalyzer" "text" "LBoundaryAnalyzer$Text;") (List.mem_of_getElem? (i := 1) rfl)) dX8_segmentsWith_60 ?_
          refine lv_iload hx hb dX8_segmentsWith_63 (lv_at hl 5 rfl) ?_
          obtain ⟨u65, t65, hf⟩ := zb hf
          obtain ⟨r65, e65, hf⟩ := zb hf
          refine zc_i hS (va_runV (As := [.int x5]) (rest := []) ⟨hx, hb, hml, hown, hts⟩ (k_X7_classAt l D cy b M v60 x5 r65 e65) (cwV 1 hts gX8_segmentsWith_X7_classAt rfl rfl rfl (by decide +kernel) ⟨Nat.le_of_ble_eq_true rfl, Nat.le_of_ble_eq_true rfl⟩) (zp_V _ hK hP t65 (T := TX7) (N := 2) rfl (by decide)) rfl rfl hl.1 rfl (lv_room (Nat.le_of_ble_eq_true rfl)) dX8_segmentsWith_65 ⟨Nat.zero_le _, Nat.zero_le _⟩) (fun H locs hP hS => ?_)
          refine lv_iload_n hx hb dX8_segmentsWith_68 rfl (lv_at hl 2 rfl) ?_
          refine lv_icmp_ne (tgt := 78) hx hb dX8_segmentsWith_69 (by decide) (fun c69 => ?_) (fun c69 => ?_)
          · have hf := (if_neg c69).symm.trans hf
            exact J78 _ _ _ _ _ _ _ _ _ _ hf hP hS (lv_sub hl [0, 1, 2, 3, 4, 5] rfl)
          · have hf := (if_pos c69).symm.trans hf
            refine lv_iconst (v := (1 : Int32)) hx hb dX8_segmentsWith_72 (by decide) ?_
            refine lv_istore (lv' := [(4, .int (1 : Int32)), (0, .ref (b + h0)), (1, .int x1), (2, .int x2), (3, .int x3), (5, .int x5)]) hx hb dX8_segmentsWith_73 hl (by decide) rfl (fun ls hl => ?_)
            obtain ⟨x3_75, q75, hf⟩ := zlt_s hf
            refine lv_iinc (v := x3_75) (lv' := [(3, .int x3_75), (4, .int (1 : Int32)), (0, .ref (b + h0)), (1, .int x1), (2, .int x2), (5, .int x5)]) hx hb dX8_segmentsWith_75 hl (k := 4) rfl (by rw [← q75]; rfl) (by decide) rfl (fun ls hl => ?_)
            exact J78 _ _ _ _ _ _ _ _ _ _ hf hP hS (lv_sub hl [2, 3, 4, 0, 1, 5] rfl)
      intro M H locs ls h0 x1 x2 x3 x4 x5 hf hP hS hl
      have hf : fX8_segmentsWith_25  (fX8_segmentsWith_25L  n25) M h0 x1 x2 x3 x4 x5 = some rr := hf
      unfold fX8_segmentsWith_25 at hf
      refine lv_iload hx hb dX8_segmentsWith_25 (lv_at hl 5 rfl) ?_
      refine lv_aload_n hx hb dX8_segmentsWith_27 rfl (lv_at hl 0 rfl) ?_
      obtain ⟨v28, e28, hf⟩ := zb hf
      refine zr_gr (ci := 8) (k := 0) (C := RX8) (T := TX8) (N := 7) hx hb hts hi_X8_segmentsWith_8 hown hK hP e28 rfl rfl (by decide) (by decide) (hts (.fieldLink RX8 10 "BoundaryAnalyzer" "text" "LBoundaryAnalyzer$Text;") (List.mem_of_getElem? (i := 1) rfl)) dX8_segmentsWith_28 ?_
      obtain ⟨v31, e31, hf⟩ := zb hf
      refine zr_gr (ci := 7) (k := 0) (C := RX7) (T := TX7) (N := 2) hx hb hts hi_X8_segmentsWith_7 hown hK hP e31 rfl rfl (by decide) (by decide) (hts (.fieldLink RX8 134 "BoundaryAnalyzer$Text" "signs" "LBoundaryAnalyzer$Row;") (List.mem_of_getElem? (i := 2) rfl)) dX8_segmentsWith_31 ?_
      obtain ⟨v34, e34, hf⟩ := zb hf
      refine zr_gi (ci := 4) (k := 1) (C := RX4) (T := TX4) (N := 2) hx hb hts hi_X8_segmentsWith_4 hown hK hP e34 rfl rfl (by decide) (by decide) (hts (.fieldLink RX8 70 "BoundaryAnalyzer$Row" "size" "I") (List.mem_of_getElem? (i := 3) rfl)) dX8_segmentsWith_34 ?_
      refine lv_icmp_ge (tgt := 84) hx hb dX8_segmentsWith_37 (by decide) (fun c37 => ?_) (fun c37 => ?_)
      · have hf := (if_pos c37).symm.trans hf
        refine lv_iload_n hx hb dX8_segmentsWith_84 rfl (lv_at hl 3 rfl) ?_
        exact zret_i hx hb hr hlocks hf hP hS dX8_segmentsWith_85
      · have hf := (if_neg c37).symm.trans hf
        refine lv_aload_n hx hb dX8_segmentsWith_40 rfl (lv_at hl 0 rfl) ?_
        refine lv_iload_n hx hb dX8_segmentsWith_41 rfl (lv_at hl 1 rfl) ?_
        refine lv_iload hx hb dX8_segmentsWith_42 (lv_at hl 5 rfl) ?_
        obtain ⟨u44, t44, hf⟩ := zb hf
        obtain ⟨r44, e44, hf⟩ := zb hf
        refine zc_i hS (va_runV (As := [.int x1, .int x5]) (rest := []) ⟨hx, hb, hml, hown, hts⟩ (k_X8_stateAt l D cy b M h0 x1 x5 r44 e44) (cwV 2 hts gX8_segmentsWith_X8_stateAt rfl rfl rfl (by decide +kernel) ⟨Nat.le_of_ble_eq_true rfl, Nat.le_of_ble_eq_true rfl⟩) (zp_V _ hK hP t44 (T := TX8) (N := 7) rfl (by decide)) rfl rfl hl.1 rfl (lv_room (Nat.le_of_ble_eq_true rfl)) dX8_segmentsWith_44 ⟨Nat.zero_le _, Nat.zero_le _⟩) (fun H locs hP hS => ?_)
        refine lv_iconst (v := (1 : Int32)) hx hb dX8_segmentsWith_47 (by decide) ?_
        refine lv_icmp_ne (tgt := 54) hx hb dX8_segmentsWith_48 (by decide) (fun c48 => ?_) (fun c48 => ?_)
        · have hf := (if_neg c48).symm.trans hf
          exact J54 _ _ _ _ _ _ _ _ _ _ hf hP hS (lv_sub hl [0, 1, 2, 3, 4, 5] rfl)
        · have hf := (if_pos c48).symm.trans hf
          refine lv_iconst (v := (0 : Int32)) hx hb dX8_segmentsWith_51 (by decide) ?_
          refine lv_istore (lv' := [(4, .int (0 : Int32)), (0, .ref (b + h0)), (1, .int x1), (2, .int x2), (3, .int x3), (5, .int x5)]) hx hb dX8_segmentsWith_52 hl (by decide) rfl (fun ls hl => ?_)
          exact J54 _ _ _ _ _ _ _ _ _ _ hf hP hS (lv_sub hl [1, 2, 3, 4, 0, 5] rfl)
  unfold fX8_segmentsWith at hf
  refine lv_iload_n hx hb dX8_segmentsWith_0 rfl (lv_at hl 1 rfl) ?_
  obtain ⟨v1, e1, hf⟩ := zb hf
  refine zc_p (va_runS (As := [.int p1]) (rest := []) ⟨hx, hb, hml, hown, hts⟩ (k_X8_isKind l p1 v1 e1) (va_cwS 1 hts gX8_segmentsWith_X8_isKind rfl rfl rfl (by decide +kernel) ⟨Nat.le_of_ble_eq_true rfl, Nat.le_of_ble_eq_true rfl⟩) (zp_p _) rfl rfl hl.1 rfl (lv_room (Nat.le_of_ble_eq_true rfl)) dX8_segmentsWith_1 ⟨Nat.zero_le _, Nat.zero_le _⟩) ?_
  refine lv_if_eq (tgt := 14) hx hb dX8_segmentsWith_4 (by decide) (fun c4 => ?_) (fun c4 => ?_)
  · have hf := (if_pos c4).symm.trans hf
    refine lv_bipush (v := (-2 : Int32)) hx hb dX8_segmentsWith_14 (by decide) ?_
    exact zret_i hx hb hr hlocks hf hP hS dX8_segmentsWith_16
  · have hf := (if_neg c4).symm.trans hf
    refine lv_iload_n hx hb dX8_segmentsWith_7 rfl (lv_at hl 2 rfl) ?_
    obtain ⟨v8, e8, hf⟩ := zb hf
    refine zc_p (va_runS (As := [.int p2]) (rest := []) ⟨hx, hb, hml, hown, hts⟩ (k_X8_isClass l p2 v8 e8) (va_cwS 1 hts gX8_segmentsWith_X8_isClass rfl rfl rfl (by decide +kernel) ⟨Nat.le_of_ble_eq_true rfl, Nat.le_of_ble_eq_true rfl⟩) (zp_p _) rfl rfl hl.1 rfl (lv_room (Nat.le_of_ble_eq_true rfl)) dX8_segmentsWith_8 ⟨Nat.zero_le _, Nat.zero_le _⟩) ?_
    refine lv_if_ne (tgt := 17) hx hb dX8_segmentsWith_11 (by decide) (fun c11 => ?_) (fun c11 => ?_)
    · have hf := (if_neg c11).symm.trans hf
      refine lv_iconst (v := (0 : Int32)) hx hb dX8_segmentsWith_17 (by decide) ?_
      refine lv_istore_n (lv' := [(3, .int (0 : Int32)), (0, .ref (b + p0)), (1, .int p1), (2, .int p2)]) hx hb dX8_segmentsWith_18 rfl hl (by decide) rfl (fun ls hl => ?_)
      refine lv_iconst (v := (0 : Int32)) hx hb dX8_segmentsWith_19 (by decide) ?_
      refine lv_istore (lv' := [(4, .int (0 : Int32)), (3, .int (0 : Int32)), (0, .ref (b + p0)), (1, .int p1), (2, .int p2)]) hx hb dX8_segmentsWith_20 hl (by decide) rfl (fun ls hl => ?_)
      refine lv_iconst (v := (0 : Int32)) hx hb dX8_segmentsWith_22 (by decide) ?_
      refine lv_istore (lv' := [(5, .int (0 : Int32)), (4, .int (0 : Int32)), (3, .int (0 : Int32)), (0, .ref (b + p0)), (1, .int p1), (2, .int p2)]) hx hb dX8_segmentsWith_23 hl (by decide) rfl (fun ls hl => ?_)
      exact L25 _ _ _ _ _ _ _ _ _ _ _ hf hP hS (lv_sub hl [3, 4, 5, 2, 1, 0] rfl)
    · have hf := (if_pos c11).symm.trans hf
      refine lv_bipush (v := (-2 : Int32)) hx hb dX8_segmentsWith_14 (by decide) ?_
      exact zret_i hx hb hr hlocks hf hP hS dX8_segmentsWith_16
theorem hi_X8_looksAt_2 : ∀ w ∈ wsX20, w ∈ wsX8_looksAt := fun _ h => List.mem_cons_of_mem _ (List.mem_append_left _ (List.mem_append_left _ (List.mem_append_left _ (List.mem_append_left _ (List.mem_append_right _ h)))))
theorem hi_X8_looksAt_8 : ∀ w ∈ wsX80, w ∈ wsX8_looksAt := fun _ h => List.mem_cons_of_mem _ (List.mem_append_left _ (List.mem_append_left _ (List.mem_append_left _ (List.mem_append_left _ (List.mem_append_left _ (List.mem_append_right _ h))))))
set_option maxHeartbeats 4000000 in
set_option maxRecDepth 100000 in
theorem k_X8_looksAt (l : Launch) (D : va_G) (cy : Nat → ClassId) (b : Nat) (M0 : Mem) (p0 : Nat) (p1 : Int32) (p2 : Int32) (rr : Int32 × Mem) (hf : fX8_looksAt M0 p0 p1 p2 = some rr) : Met l yX8_looksAt wsX8_looksAt ({ frames := 4, cells := 0, slots := 0, locals := 116 } : Room) (zPc D cy b M0 [.ref (b + p0), .int p1, .int p2]) (zQi D cy b rr) 0 0 (zA b) := by
  refine Met.ofW (cc := cX8_looksAt) (maxL := 3) (ret := (some .int)) (by decide) rfl ?_
  intro p e s m args below meth c s₁ B hml hv
  obtain ⟨rfl, hP, hK⟩ := hv
  have hx := B.exec
  have hb := B.bytes
  have hr := B.returns
  have hts := atoms_spec (ws := wsX8_looksAt) B.pre
  have hown : s.vm.findClass RX8 = some m.cls := findClass_of_methodNamed B.named
  have hlocks := B.notSynchronized
  have hS : va_S (zA b) s.heap s.heap [] := va_S.rf
  have hl := lv_entry ([.ref (b + p0), .int p1, .int p2]) (n := 3) (Nat.le_of_ble_eq_true rfl)
  rw [lg_entry_eq]
  generalize (lg_sl ([.ref (b + p0), .int p1, .int p2]) ++ List.replicate (3 - (lg_sl ([.ref (b + p0), .int p1, .int p2])).length) Slot.unset).toArray = ls at hl ⊢
  have hl : lv_has ls 3 [(0, .ref (b + p0)), (1, .int p1), (2, .int p2)] := hl
  unfold fX8_looksAt at hf
  refine lv_iload_n hx hb dX8_looksAt_0 rfl (lv_at hl 1 rfl) ?_
  obtain ⟨v1, e1, hf⟩ := zb hf
  refine zc_p (va_runS (As := [.int p1]) (rest := []) ⟨hx, hb, hml, hown, hts⟩ (k_X8_isKind l p1 v1 e1) (va_cwS 1 hts gX8_looksAt_X8_isKind rfl rfl rfl (by decide +kernel) ⟨Nat.le_of_ble_eq_true rfl, Nat.le_of_ble_eq_true rfl⟩) (zp_p _) rfl rfl hl.1 rfl (lv_room (Nat.le_of_ble_eq_true rfl)) dX8_looksAt_1 ⟨Nat.zero_le _, Nat.zero_le _⟩) ?_
  refine lv_if_ne (tgt := 10) hx hb dX8_looksAt_4 (by decide) (fun c4 => ?_) (fun c4 => ?_)
  · have hf := (if_neg c4).symm.trans hf
    refine lv_aload_n hx hb dX8_looksAt_10 rfl (lv_at hl 0 rfl) ?_
    refine lv_iload_n hx hb dX8_looksAt_11 rfl (lv_at hl 2 rfl) ?_
    obtain ⟨u12, t12, hf⟩ := zb hf
    obtain ⟨r12, e12, hf⟩ := zb hf
    refine zc_i hS (va_runV (As := [.int p2]) (rest := []) ⟨hx, hb, hml, hown, hts⟩ (k_X8_isPositionOfCharacter l D cy b M0 p0 p2 r12 e12) (cwV 1 hts gX8_looksAt_X8_isPositionOfCharacter rfl rfl rfl (by decide +kernel) ⟨Nat.le_of_ble_eq_true rfl, Nat.le_of_ble_eq_true rfl⟩) (zp_V _ hK hP t12 (T := TX8) (N := 7) rfl (by decide)) rfl rfl hl.1 rfl (lv_room (Nat.le_of_ble_eq_true rfl)) dX8_looksAt_12 ⟨Nat.zero_le _, Nat.zero_le _⟩) (fun H locs hP hS => ?_)
    refine lv_if_ne (tgt := 20) hx hb dX8_looksAt_15 (by decide) (fun c15 => ?_) (fun c15 => ?_)
    · have hf := (if_neg c15).symm.trans hf
      refine lv_aload_n hx hb dX8_looksAt_20 rfl (lv_at hl 0 rfl) ?_
      obtain ⟨v21, e21, hf⟩ := zb hf
      refine zr_gr (ci := 8) (k := 2) (C := RX8) (T := TX8) (N := 7) hx hb hts hi_X8_looksAt_8 hown hK hP e21 rfl rfl (by decide) (by decide) (hts (.fieldLink RX8 27 "BoundaryAnalyzer" "kinds" "[LBoundaryAnalyzer$Kind;") (List.mem_of_getElem? (i := 1) rfl)) dX8_looksAt_21 ?_
      refine lv_iload_n hx hb dX8_looksAt_24 rfl (lv_at hl 1 rfl) ?_
      obtain ⟨v25, e25, hf⟩ := zb hf
      refine zr_aa (t0 := 4) hx hb hK hP e25 (by decide) rfl dX8_looksAt_25 ?_
      refine lv_aload_n hx hb dX8_looksAt_26 rfl (lv_at hl 0 rfl) ?_
      obtain ⟨v27, e27, hf⟩ := zb hf
      refine zr_gr (ci := 8) (k := 0) (C := RX8) (T := TX8) (N := 7) hx hb hts hi_X8_looksAt_8 hown hK hP e27 rfl rfl (by decide) (by decide) (hts (.fieldLink RX8 10 "BoundaryAnalyzer" "text" "LBoundaryAnalyzer$Text;") (List.mem_of_getElem? (i := 2) rfl)) dX8_looksAt_27 ?_
      refine lv_iload_n hx hb dX8_looksAt_30 rfl (lv_at hl 2 rfl) ?_
      obtain ⟨u31, t31, hf⟩ := zb hf
      obtain ⟨M31, e31, hf⟩ := zb hf
      refine zc_v hS (va_runV (As := [.ref (b + v27), .int p2]) (rest := []) ⟨hx, hb, hml, hown, hts⟩ (k_X2_measure l D cy b r12.2 v25 v27 p2 M31 e31) (cwV 2 hts gX8_looksAt_X2_measure rfl rfl rfl (by decide +kernel) ⟨Nat.le_of_ble_eq_true rfl, Nat.le_of_ble_eq_true rfl⟩) (zp_V _ hK hP t31 (T := TX2) (N := 5) rfl (by decide)) rfl rfl hl.1 rfl (lv_room (Nat.le_of_ble_eq_true rfl)) dX8_looksAt_31 ⟨Nat.zero_le _, Nat.zero_le _⟩) (fun H locs hP hS => ?_)
      refine lv_aload_n hx hb dX8_looksAt_34 rfl (lv_at hl 0 rfl) ?_
      obtain ⟨v35, e35, hf⟩ := zb hf
      refine zr_gr (ci := 8) (k := 2) (C := RX8) (T := TX8) (N := 7) hx hb hts hi_X8_looksAt_8 hown hK hP e35 rfl rfl (by decide) (by decide) (hts (.fieldLink RX8 27 "BoundaryAnalyzer" "kinds" "[LBoundaryAnalyzer$Kind;") (List.mem_of_getElem? (i := 1) rfl)) dX8_looksAt_35 ?_
      refine lv_iload_n hx hb dX8_looksAt_38 rfl (lv_at hl 1 rfl) ?_
      obtain ⟨v39, e39, hf⟩ := zb hf
      refine zr_aa (t0 := 4) hx hb hK hP e39 (by decide) rfl dX8_looksAt_39 ?_
      obtain ⟨v40, e40, hf⟩ := zb hf
      refine zr_gi (ci := 2) (k := 4) (C := RX2) (T := TX2) (N := 5) hx hb hts hi_X8_looksAt_2 hown hK hP e40 rfl rfl (by decide) (by decide) (hts (.fieldLink RX8 182 "BoundaryAnalyzer$Kind" "looked" "I") (List.mem_of_getElem? (i := 3) rfl)) dX8_looksAt_40 ?_
      exact zret_i hx hb hr hlocks hf hP hS dX8_looksAt_43
    · have hf := (if_pos c15).symm.trans hf
      refine lv_iconst (v := (-1 : Int32)) hx hb dX8_looksAt_18 (by decide) ?_
      exact zret_i hx hb hr hlocks hf hP hS dX8_looksAt_19
  · have hf := (if_pos c4).symm.trans hf
    refine lv_bipush (v := (-2 : Int32)) hx hb dX8_looksAt_7 (by decide) ?_
    exact zret_i hx hb hr hlocks hf hP hS dX8_looksAt_9
theorem hi_X8_work_2 : ∀ w ∈ wsX20, w ∈ wsX8_work := fun _ h => List.mem_cons_of_mem _ (List.mem_append_right _ h)
theorem hi_X8_work_8 : ∀ w ∈ wsX80, w ∈ wsX8_work := fun _ h => List.mem_cons_of_mem _ (List.mem_append_left _ (List.mem_append_right _ h))
set_option maxHeartbeats 4000000 in
set_option maxRecDepth 100000 in
theorem k_X8_work (l : Launch) (D : va_G) (cy : Nat → ClassId) (b : Nat) (M0 : Mem) (p0 : Nat) (p1 : Int32) (rr : Int32 × Mem) (hf : fX8_work M0 p0 p1 = some rr) : Met l yX8_work wsX8_work ({ frames := 1, cells := 0, slots := 0, locals := 20 } : Room) (zPc D cy b M0 [.ref (b + p0), .int p1]) (zQi D cy b rr) 0 0 (zA b) := by
  refine Met.ofW (cc := cX8_work) (maxL := 2) (ret := (some .int)) (by decide) rfl ?_
  intro p e s m args below meth c s₁ B hml hv
  obtain ⟨rfl, hP, hK⟩ := hv
  have hx := B.exec
  have hb := B.bytes
  have hr := B.returns
  have hts := atoms_spec (ws := wsX8_work) B.pre
  have hown : s.vm.findClass RX8 = some m.cls := findClass_of_methodNamed B.named
  have hlocks := B.notSynchronized
  have hS : va_S (zA b) s.heap s.heap [] := va_S.rf
  have hl := lv_entry ([.ref (b + p0), .int p1]) (n := 2) (Nat.le_of_ble_eq_true rfl)
  rw [lg_entry_eq]
  generalize (lg_sl ([.ref (b + p0), .int p1]) ++ List.replicate (2 - (lg_sl ([.ref (b + p0), .int p1])).length) Slot.unset).toArray = ls at hl ⊢
  have hl : lv_has ls 2 [(0, .ref (b + p0)), (1, .int p1)] := hl
  unfold fX8_work at hf
  refine lv_iload_n hx hb dX8_work_0 rfl (lv_at hl 1 rfl) ?_
  obtain ⟨v1, e1, hf⟩ := zb hf
  refine zc_p (va_runS (As := [.int p1]) (rest := []) ⟨hx, hb, hml, hown, hts⟩ (k_X8_isKind l p1 v1 e1) (va_cwS 1 hts gX8_work_X8_isKind rfl rfl rfl (by decide +kernel) ⟨Nat.le_of_ble_eq_true rfl, Nat.le_of_ble_eq_true rfl⟩) (zp_p _) rfl rfl hl.1 rfl (lv_room (Nat.le_of_ble_eq_true rfl)) dX8_work_1 ⟨Nat.zero_le _, Nat.zero_le _⟩) ?_
  refine lv_if_eq (tgt := 19) hx hb dX8_work_4 (by decide) (fun c4 => ?_) (fun c4 => ?_)
  · have hf := (if_pos c4).symm.trans hf
    refine lv_bipush (v := (-2 : Int32)) hx hb dX8_work_19 (by decide) ?_
    exact zret_i hx hb hr hlocks hf hP hS dX8_work_21
  · have hf := (if_neg c4).symm.trans hf
    refine lv_aload_n hx hb dX8_work_7 rfl (lv_at hl 0 rfl) ?_
    obtain ⟨v8, e8, hf⟩ := zb hf
    refine zr_gr (ci := 8) (k := 2) (C := RX8) (T := TX8) (N := 7) hx hb hts hi_X8_work_8 hown hK hP e8 rfl rfl (by decide) (by decide) (hts (.fieldLink RX8 27 "BoundaryAnalyzer" "kinds" "[LBoundaryAnalyzer$Kind;") (List.mem_of_getElem? (i := 1) rfl)) dX8_work_8 ?_
    refine lv_iload_n hx hb dX8_work_11 rfl (lv_at hl 1 rfl) ?_
    obtain ⟨v12, e12, hf⟩ := zb hf
    refine zr_aa (t0 := 4) hx hb hK hP e12 (by decide) rfl dX8_work_12 ?_
    obtain ⟨v13, e13, hf⟩ := zb hf
    refine zr_gi (ci := 2) (k := 2) (C := RX2) (T := TX2) (N := 5) hx hb hts hi_X8_work_2 hown hK hP e13 rfl rfl (by decide) (by decide) (hts (.fieldLink RX8 185 "BoundaryAnalyzer$Kind" "analysed" "I") (List.mem_of_getElem? (i := 2) rfl)) dX8_work_13 ?_
    refine lv_goto (tgt := 21) hx hb dX8_work_16 (by decide) ?_
    exact zret_i hx hb hr hlocks hf hP hS dX8_work_21
