theorem hi_X8_isExceptionBefore_7 : ∀ w ∈ wsX70, w ∈ wsX8_isExceptionBefore := fun _ h => List.mem_cons_of_mem _ (List.mem_append_left _ (List.mem_append_right _ h))
theorem hi_X8_isExceptionBefore_8 : ∀ w ∈ wsX80, w ∈ wsX8_isExceptionBefore := fun _ h => List.mem_cons_of_mem _ (List.mem_append_left _ (List.mem_append_left _ (List.mem_append_right _ h)))
set_option maxHeartbeats 4000000 in
set_option maxRecDepth 100000 in
theorem k_X8_isExceptionBefore (l : Launch) (D : va_G) (cy : Nat → ClassId) (b : Nat) (M0 : Mem) (p0 : Nat) (p1 : Int32) (rr : Int32 × Mem) (hf : fX8_isExceptionBefore M0 p0 p1 = some rr) : Met l yX8_isExceptionBefore wsX8_isExceptionBefore ({ frames := 3, cells := 0, slots := 0, locals := 69 } : Room) (zPc D cy b M0 [.ref (b + p0), .int p1]) (zQi D cy b rr) 0 0 (zA b) := by
  refine Met.ofW (cc := cX8_isExceptionBefore) (maxL := 3) (ret := (some .boolean)) (by decide) rfl ?_
  intro p e s m args below meth c s₁ B hml hv
  obtain ⟨rfl, hP, hK⟩ := hv
  have hx := B.exec
  have hb := B.bytes
  have hr := B.returns
  have hts := atoms_spec (ws := wsX8_isExceptionBefore) B.pre
  have hown : s.vm.findClass RX8 = some m.cls := findClass_of_methodNamed B.named
  have hlocks := B.notSynchronized
  have hS : va_S (zA b) s.heap s.heap [] := va_S.rf
  have hl := lv_entry ([.ref (b + p0), .int p1]) (n := 3) (Nat.le_of_ble_eq_true rfl)
  rw [lg_entry_eq]
  generalize (lg_sl ([.ref (b + p0), .int p1]) ++ List.replicate (3 - (lg_sl ([.ref (b + p0), .int p1])).length) Slot.unset).toArray = ls at hl ⊢
  have hl : lv_has ls 3 [(0, .ref (b + p0)), (1, .int p1)] := hl
  have J25 : ∀ (M : Mem) (H : Heap) (locs : List Loc) (ls : Array Slot) (h0 : Nat) (x1 : Int32) (x2 : Int32), fX8_isExceptionBefore_25  M h0 x1 x2 = some rr → zH D cy b M H → va_S (zA b) s.heap H locs → lv_has ls 3 [(0, .ref (b + h0)), (1, .int x1), (2, .int x2)] → W p l e (headSpec wsX8_isExceptionBefore ({ frames := 3, cells := 0, slots := 0, locals := 69 } : Room)).room s m ([.ref (b + p0), .int p1] : List Value).toArray below meth c H locs 0 0 (MQ below (zQi D cy b rr) ([.ref (b + p0), .int p1] : List Value).toArray s 0 0 (zA b)) (F0 m 25 ls []) := by
    intro M H locs ls h0 x1 x2 hf hP hS hl
    unfold fX8_isExceptionBefore_25 at hf
    refine lv_aload_n hx hb dX8_isExceptionBefore_25 rfl (lv_at hl 0 rfl) ?_
    refine lv_aload_n hx hb dX8_isExceptionBefore_26 rfl (lv_at hl 0 rfl) ?_
    obtain ⟨v27, e27, hf⟩ := zb hf
    refine zr_gr (ci := 8) (k := 0) (C := RX8) (T := TX8) (N := 7) hx hb hts hi_X8_isExceptionBefore_8 hown hK hP e27 rfl rfl (by decide) (by decide) (hts (.fieldLink RX8 10 "BoundaryAnalyzer" "text" "LBoundaryAnalyzer$Text;") (List.mem_of_getElem? (i := 1) rfl)) dX8_isExceptionBefore_27 ?_
    obtain ⟨v30, e30, hf⟩ := zb hf
    refine zr_gr (ci := 7) (k := 0) (C := RX7) (T := TX7) (N := 2) hx hb hts hi_X8_isExceptionBefore_7 hown hK hP e30 rfl rfl (by decide) (by decide) (hts (.fieldLink RX8 134 "BoundaryAnalyzer$Text" "signs" "LBoundaryAnalyzer$Row;") (List.mem_of_getElem? (i := 2) rfl)) dX8_isExceptionBefore_30 ?_
    refine lv_iload_n hx hb dX8_isExceptionBefore_33 rfl (lv_at hl 2 rfl) ?_
    refine lv_iload_n hx hb dX8_isExceptionBefore_34 rfl (lv_at hl 1 rfl) ?_
    refine lv_iload_n hx hb dX8_isExceptionBefore_35 rfl (lv_at hl 2 rfl) ?_
    refine lv_isub hx hb dX8_isExceptionBefore_36 ?_
    obtain ⟨u37, t37, hf⟩ := zb hf
    obtain ⟨r37, e37, hf⟩ := zb hf
    refine zc_i hS (va_runV (As := [.ref (b + v30), .int x2, .int (x1 - x2)]) (rest := []) ⟨hx, hb, hml, hown, hts⟩ (k_X8_exceptionAt l D cy b M h0 v30 x2 (x1 - x2) r37 e37) (cwV 3 hts gX8_isExceptionBefore_X8_exceptionAt rfl rfl rfl (by decide +kernel) ⟨Nat.le_of_ble_eq_true rfl, Nat.le_of_ble_eq_true rfl⟩) (zp_V _ hK hP t37 (T := TX8) (N := 7) rfl (by decide)) rfl rfl hl.1 rfl (lv_room (Nat.le_of_ble_eq_true rfl)) dX8_isExceptionBefore_37 ⟨Nat.zero_le _, Nat.zero_le _⟩) (fun H locs hP hS => ?_)
    refine lv_bipush (v := (-5 : Int32)) hx hb dX8_isExceptionBefore_40 (by decide) ?_
    refine lv_icmp_eq (tgt := 49) hx hb dX8_isExceptionBefore_42 (by decide) (fun c42 => ?_) (fun c42 => ?_)
    · have hf := (if_pos c42).symm.trans hf
      refine lv_iconst (v := (0 : Int32)) hx hb dX8_isExceptionBefore_49 (by decide) ?_
      exact zret_z hx hb hr (Or.inl rfl) hlocks hf hP hS dX8_isExceptionBefore_50
    · have hf := (if_neg c42).symm.trans hf
      refine lv_iconst (v := (1 : Int32)) hx hb dX8_isExceptionBefore_45 (by decide) ?_
      refine lv_goto (tgt := 50) hx hb dX8_isExceptionBefore_46 (by decide) ?_
      exact zret_z hx hb hr (Or.inl rfl) hlocks hf hP hS dX8_isExceptionBefore_50
  have L2 : ∀ (n2 : Nat) (M : Mem) (H : Heap) (locs : List Loc) (ls : Array Slot) (h0 : Nat) (x1 : Int32) (x2 : Int32), fX8_isExceptionBefore_2L  n2 M h0 x1 x2 = some rr → zH D cy b M H → va_S (zA b) s.heap H locs → lv_has ls 3 [(0, .ref (b + h0)), (1, .int x1), (2, .int x2)] → W p l e (headSpec wsX8_isExceptionBefore ({ frames := 3, cells := 0, slots := 0, locals := 69 } : Room)).room s m ([.ref (b + p0), .int p1] : List Value).toArray below meth c H locs 0 0 (MQ below (zQi D cy b rr) ([.ref (b + p0), .int p1] : List Value).toArray s 0 0 (zA b)) (F0 m 2 ls []) := by
    intro n2
    induction n2 with
    | zero =>
      intro M H locs ls h0 x1 x2 hf
      have hf : (none : Option (Int32 × Mem)) = some rr := hf
      cases hf
    | succ n2 ih2 =>
      intro M H locs ls h0 x1 x2 hf hP hS hl
      have hf : fX8_isExceptionBefore_2  (fX8_isExceptionBefore_2L  n2) M h0 x1 x2 = some rr := hf
      unfold fX8_isExceptionBefore_2 at hf
      refine lv_iload_n hx hb dX8_isExceptionBefore_2 rfl (lv_at hl 2 rfl) ?_
      refine lv_if_le (tgt := 25) hx hb dX8_isExceptionBefore_3 (by decide) (fun c3 => ?_) (fun c3 => ?_)
      · have hf := (if_pos c3).symm.trans hf
        exact J25 _ _ _ _ _ _ _ hf hP hS (lv_sub hl [0, 1, 2] rfl)
      · have hf := (if_neg c3).symm.trans hf
        refine lv_aload_n hx hb dX8_isExceptionBefore_6 rfl (lv_at hl 0 rfl) ?_
        obtain ⟨v7, e7, hf⟩ := zb hf
        refine zr_gr (ci := 8) (k := 0) (C := RX8) (T := TX8) (N := 7) hx hb hts hi_X8_isExceptionBefore_8 hown hK hP e7 rfl rfl (by decide) (by decide) (hts (.fieldLink RX8 10 "BoundaryAnalyzer" "text" "LBoundaryAnalyzer$Text;") (List.mem_of_getElem? (i := 1) rfl)) dX8_isExceptionBefore_7 ?_
        refine lv_iload_n hx hb dX8_isExceptionBefore_10 rfl (lv_at hl 2 rfl) ?_
        refine lv_iconst (v := (1 : Int32)) hx hb dX8_isExceptionBefore_11 (by decide) ?_
        refine lv_isub hx hb dX8_isExceptionBefore_12 ?_
        obtain ⟨u13, t13, hf⟩ := zb hf
        obtain ⟨r13, e13, hf⟩ := zb hf
        refine zc_i hS (va_runV (As := [.int (x2 - (1 : Int32))]) (rest := []) ⟨hx, hb, hml, hown, hts⟩ (k_X7_classAt l D cy b M v7 (x2 - (1 : Int32)) r13 e13) (cwV 1 hts gX8_isExceptionBefore_X7_classAt rfl rfl rfl (by decide +kernel) ⟨Nat.le_of_ble_eq_true rfl, Nat.le_of_ble_eq_true rfl⟩) (zp_V _ hK hP t13 (T := TX7) (N := 2) rfl (by decide)) rfl rfl hl.1 rfl (lv_room (Nat.le_of_ble_eq_true rfl)) dX8_isExceptionBefore_13 ⟨Nat.zero_le _, Nat.zero_le _⟩) (fun H locs hP hS => ?_)
        refine lv_if_ne (tgt := 25) hx hb dX8_isExceptionBefore_16 (by decide) (fun c16 => ?_) (fun c16 => ?_)
        · have hf := (if_neg c16).symm.trans hf
          exact J25 _ _ _ _ _ _ _ hf hP hS (lv_sub hl [0, 1, 2] rfl)
        · have hf := (if_pos c16).symm.trans hf
          obtain ⟨x2_19, q19, hf⟩ := zlt_s hf
          refine lv_iinc (v := x2_19) (lv' := [(2, .int x2_19), (0, .ref (b + h0)), (1, .int x1)]) hx hb dX8_isExceptionBefore_19 hl (k := 2) rfl (by rw [← q19]; rfl) (by decide) rfl (fun ls hl => ?_)
          refine lv_goto (tgt := 2) hx hb dX8_isExceptionBefore_22 (by decide) ?_
          exact ih2 _ _ _ _ _ _ _ hf hP hS (lv_sub hl [1, 2, 0] rfl)
  unfold fX8_isExceptionBefore at hf
  refine lv_iload_n hx hb dX8_isExceptionBefore_0 rfl (lv_at hl 1 rfl) ?_
  refine lv_istore_n (lv' := [(2, .int p1), (0, .ref (b + p0)), (1, .int p1)]) hx hb dX8_isExceptionBefore_1 rfl hl (by decide) rfl (fun ls hl => ?_)
  exact L2 _ _ _ _ _ _ _ _ hf hP hS (lv_sub hl [1, 2, 0] rfl)
theorem hi_X8_isBehindException_4 : ∀ w ∈ wsX40, w ∈ wsX8_isBehindException := fun _ h => List.mem_cons_of_mem _ (List.mem_append_right _ h)
theorem hi_X8_isBehindException_7 : ∀ w ∈ wsX70, w ∈ wsX8_isBehindException := fun _ h => List.mem_cons_of_mem _ (List.mem_append_left _ (List.mem_append_right _ h))
theorem hi_X8_isBehindException_8 : ∀ w ∈ wsX80, w ∈ wsX8_isBehindException := fun _ h => List.mem_cons_of_mem _ (List.mem_append_left _ (List.mem_append_left _ (List.mem_append_right _ h)))
set_option maxHeartbeats 4000000 in
set_option maxRecDepth 100000 in
theorem k_X8_isBehindException (l : Launch) (D : va_G) (cy : Nat → ClassId) (b : Nat) (M0 : Mem) (p0 : Nat) (p1 : Int32) (rr : Int32 × Mem) (hf : fX8_isBehindException M0 p0 p1 = some rr) : Met l yX8_isBehindException wsX8_isBehindException ({ frames := 4, cells := 0, slots := 0, locals := 91 } : Room) (zPc D cy b M0 [.ref (b + p0), .int p1]) (zQi D cy b rr) 0 0 (zA b) := by
  refine Met.ofW (cc := cX8_isBehindException) (maxL := 3) (ret := (some .boolean)) (by decide) rfl ?_
  intro p e s m args below meth c s₁ B hml hv
  obtain ⟨rfl, hP, hK⟩ := hv
  have hx := B.exec
  have hb := B.bytes
  have hr := B.returns
  have hts := atoms_spec (ws := wsX8_isBehindException) B.pre
  have hown : s.vm.findClass RX8 = some m.cls := findClass_of_methodNamed B.named
  have hlocks := B.notSynchronized
  have hS : va_S (zA b) s.heap s.heap [] := va_S.rf
  have hl := lv_entry ([.ref (b + p0), .int p1]) (n := 3) (Nat.le_of_ble_eq_true rfl)
  rw [lg_entry_eq]
  generalize (lg_sl ([.ref (b + p0), .int p1]) ++ List.replicate (3 - (lg_sl ([.ref (b + p0), .int p1])).length) Slot.unset).toArray = ls at hl ⊢
  have hl : lv_has ls 3 [(0, .ref (b + p0)), (1, .int p1)] := hl
  have L4 : ∀ (n4 : Nat) (M : Mem) (H : Heap) (locs : List Loc) (ls : Array Slot) (h0 : Nat) (x2 : Int32), fX8_isBehindException_4L  n4 M h0 x2 = some rr → zH D cy b M H → va_S (zA b) s.heap H locs → lv_has ls 3 [(0, .ref (b + h0)), (2, .int x2)] → W p l e (headSpec wsX8_isBehindException ({ frames := 4, cells := 0, slots := 0, locals := 91 } : Room)).room s m ([.ref (b + p0), .int p1] : List Value).toArray below meth c H locs 0 0 (MQ below (zQi D cy b rr) ([.ref (b + p0), .int p1] : List Value).toArray s 0 0 (zA b)) (F0 m 4 ls []) := by
    intro n4
    induction n4 with
    | zero =>
      intro M H locs ls h0 x2 hf
      have hf : (none : Option (Int32 × Mem)) = some rr := hf
      cases hf
    | succ n4 ih4 =>
      have J34 : ∀ (M : Mem) (H : Heap) (locs : List Loc) (ls : Array Slot) (h0 : Nat) (x2 : Int32), fX8_isBehindException_34 (fX8_isBehindException_4L  n4) M h0 x2 = some rr → zH D cy b M H → va_S (zA b) s.heap H locs → lv_has ls 3 [(0, .ref (b + h0)), (2, .int x2)] → W p l e (headSpec wsX8_isBehindException ({ frames := 4, cells := 0, slots := 0, locals := 91 } : Room)).room s m ([.ref (b + p0), .int p1] : List Value).toArray below meth c H locs 0 0 (MQ below (zQi D cy b rr) ([.ref (b + p0), .int p1] : List Value).toArray s 0 0 (zA b)) (F0 m 34 ls []) := by
        intro M H locs ls h0 x2 hf hP hS hl
        unfold fX8_isBehindException_34 at hf
        refine lv_aload_n hx hb dX8_isBehindException_34 rfl (lv_at hl 0 rfl) ?_
        obtain ⟨v35, e35, hf⟩ := zb hf
        refine zr_gr (ci := 8) (k := 0) (C := RX8) (T := TX8) (N := 7) hx hb hts hi_X8_isBehindException_8 hown hK hP e35 rfl rfl (by decide) (by decide) (hts (.fieldLink RX8 10 "BoundaryAnalyzer" "text" "LBoundaryAnalyzer$Text;") (List.mem_of_getElem? (i := 1) rfl)) dX8_isBehindException_35 ?_
        refine lv_iload_n hx hb dX8_isBehindException_38 rfl (lv_at hl 1 rfl) ?_
        obtain ⟨u39, t39, hf⟩ := zb hf
        obtain ⟨r39, e39, hf⟩ := zb hf
        refine zc_i hS (va_runV (As := [.int x2]) (rest := []) ⟨hx, hb, hml, hown, hts⟩ (k_X7_classAt l D cy b M v35 x2 r39 e39) (cwV 1 hts gX8_isBehindException_X7_classAt rfl rfl rfl (by decide +kernel) ⟨Nat.le_of_ble_eq_true rfl, Nat.le_of_ble_eq_true rfl⟩) (zp_V _ hK hP t39 (T := TX7) (N := 2) rfl (by decide)) rfl rfl hl.1 rfl (lv_room (Nat.le_of_ble_eq_true rfl)) dX8_isBehindException_39 ⟨Nat.zero_le _, Nat.zero_le _⟩) (fun H locs hP hS => ?_)
        refine lv_iconst (v := (2 : Int32)) hx hb dX8_isBehindException_42 (by decide) ?_
        refine lv_icmp_eq (tgt := 48) hx hb dX8_isBehindException_43 (by decide) (fun c43 => ?_) (fun c43 => ?_)
        · have hf := (if_pos c43).symm.trans hf
          obtain ⟨x2_48, q48, hf⟩ := zlt_s hf
          refine lv_iinc (v := x2_48) (lv' := [(2, .int x2_48), (0, .ref (b + h0))]) hx hb dX8_isBehindException_48 hl (k := 1) rfl (by rw [← q48]; rfl) (by decide) rfl (fun ls hl => ?_)
          refine lv_goto (tgt := 4) hx hb dX8_isBehindException_51 (by decide) ?_
          exact ih4 _ _ _ _ _ _ hf hP hS (lv_sub hl [1, 0] rfl)
        · have hf := (if_neg c43).symm.trans hf
          refine lv_iconst (v := (0 : Int32)) hx hb dX8_isBehindException_46 (by decide) ?_
          exact zret_z hx hb hr (Or.inl rfl) hlocks hf hP hS dX8_isBehindException_47
      intro M H locs ls h0 x2 hf hP hS hl
      have hf : fX8_isBehindException_4  (fX8_isBehindException_4L  n4) M h0 x2 = some rr := hf
      unfold fX8_isBehindException_4 at hf
      refine lv_iload_n hx hb dX8_isBehindException_4 rfl (lv_at hl 1 rfl) ?_
      refine lv_if_le (tgt := 54) hx hb dX8_isBehindException_5 (by decide) (fun c5 => ?_) (fun c5 => ?_)
      · have hf := (if_pos c5).symm.trans hf
        refine lv_iconst (v := (0 : Int32)) hx hb dX8_isBehindException_54 (by decide) ?_
        exact zret_z hx hb hr (Or.inl rfl) hlocks hf hP hS dX8_isBehindException_55
      · have hf := (if_neg c5).symm.trans hf
        refine lv_aload_n hx hb dX8_isBehindException_8 rfl (lv_at hl 0 rfl) ?_
        obtain ⟨v9, e9, hf⟩ := zb hf
        refine zr_gr (ci := 8) (k := 0) (C := RX8) (T := TX8) (N := 7) hx hb hts hi_X8_isBehindException_8 hown hK hP e9 rfl rfl (by decide) (by decide) (hts (.fieldLink RX8 10 "BoundaryAnalyzer" "text" "LBoundaryAnalyzer$Text;") (List.mem_of_getElem? (i := 1) rfl)) dX8_isBehindException_9 ?_
        obtain ⟨v12, e12, hf⟩ := zb hf
        refine zr_gr (ci := 7) (k := 0) (C := RX7) (T := TX7) (N := 2) hx hb hts hi_X8_isBehindException_7 hown hK hP e12 rfl rfl (by decide) (by decide) (hts (.fieldLink RX8 134 "BoundaryAnalyzer$Text" "signs" "LBoundaryAnalyzer$Row;") (List.mem_of_getElem? (i := 2) rfl)) dX8_isBehindException_12 ?_
        refine lv_iload_n hx hb dX8_isBehindException_15 rfl (lv_at hl 1 rfl) ?_
        obtain ⟨u16, t16, hf⟩ := zb hf
        obtain ⟨r16, e16, hf⟩ := zb hf
        refine zc_i hS (va_runV (As := [.int x2]) (rest := []) ⟨hx, hb, hml, hown, hts⟩ (k_X4_at l D cy b M v12 x2 r16 e16) (cwV 1 hts gX8_isBehindException_X4_at rfl rfl rfl (by decide +kernel) ⟨Nat.le_of_ble_eq_true rfl, Nat.le_of_ble_eq_true rfl⟩) (zp_V _ hK hP t16 (T := TX4) (N := 2) rfl (by decide)) rfl rfl hl.1 rfl (lv_room (Nat.le_of_ble_eq_true rfl)) dX8_isBehindException_16 ⟨Nat.zero_le _, Nat.zero_le _⟩) (fun H locs hP hS => ?_)
        refine lv_bipush (v := (46 : Int32)) hx hb dX8_isBehindException_19 (by decide) ?_
        refine lv_icmp_ne (tgt := 34) hx hb dX8_isBehindException_21 (by decide) (fun c21 => ?_) (fun c21 => ?_)
        · have hf := (if_neg c21).symm.trans hf
          exact J34 _ _ _ _ _ _ hf hP hS (lv_sub hl [0, 1] rfl)
        · have hf := (if_pos c21).symm.trans hf
          refine lv_aload_n hx hb dX8_isBehindException_24 rfl (lv_at hl 0 rfl) ?_
          refine lv_iload_n hx hb dX8_isBehindException_25 rfl (lv_at hl 1 rfl) ?_
          obtain ⟨u26, t26, hf⟩ := zb hf
          obtain ⟨r26, e26, hf⟩ := zb hf
          refine zc_i hS (va_runV (As := [.int x2]) (rest := []) ⟨hx, hb, hml, hown, hts⟩ (k_X8_isExceptionBefore l D cy b r16.2 h0 x2 r26 e26) (cwV 1 hts gX8_isBehindException_X8_isExceptionBefore rfl rfl rfl (by decide +kernel) ⟨Nat.le_of_ble_eq_true rfl, Nat.le_of_ble_eq_true rfl⟩) (zp_V _ hK hP t26 (T := TX8) (N := 7) rfl (by decide)) rfl rfl hl.1 rfl (lv_room (Nat.le_of_ble_eq_true rfl)) dX8_isBehindException_26 ⟨Nat.zero_le _, Nat.zero_le _⟩) (fun H locs hP hS => ?_)
          refine lv_if_eq (tgt := 34) hx hb dX8_isBehindException_29 (by decide) (fun c29 => ?_) (fun c29 => ?_)
          · have hf := (if_pos c29).symm.trans hf
            exact J34 _ _ _ _ _ _ hf hP hS (lv_sub hl [0, 1] rfl)
          · have hf := (if_neg c29).symm.trans hf
            refine lv_iconst (v := (1 : Int32)) hx hb dX8_isBehindException_32 (by decide) ?_
            exact zret_z hx hb hr (Or.inl rfl) hlocks hf hP hS dX8_isBehindException_33
  unfold fX8_isBehindException at hf
  refine lv_iload_n hx hb dX8_isBehindException_0 rfl (lv_at hl 1 rfl) ?_
  refine lv_iconst (v := (1 : Int32)) hx hb dX8_isBehindException_1 (by decide) ?_
  refine lv_isub hx hb dX8_isBehindException_2 ?_
  obtain ⟨x2_3, q3, hf⟩ := zlt_s hf
  refine zt q3 ?_
  refine lv_istore_n (lv' := [(2, .int x2_3), (0, .ref (b + p0)), (1, .int p1)]) hx hb dX8_isBehindException_3 rfl hl (by decide) rfl (fun ls hl => ?_)
  exact L4 _ _ _ _ _ _ _ hf hP hS (lv_sub hl [1, 0] rfl)
