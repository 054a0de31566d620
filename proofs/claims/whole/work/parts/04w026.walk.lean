theorem hi_X8_isExceptionWord_4 : ∀ w ∈ wsX40, w ∈ wsX8_isExceptionWord := fun _ h => List.mem_cons_of_mem _ (List.mem_append_right _ h)
set_option maxHeartbeats 4000000 in
set_option maxRecDepth 100000 in
theorem k_X8_isExceptionWord (l : Launch) (D : va_G) (cy : Nat → ClassId) (b : Nat) (M0 : Mem) (p0 : Nat) (rr : Int32 × Mem) (hf : fX8_isExceptionWord M0 p0 = some rr) : Met l yX8_isExceptionWord wsX8_isExceptionWord ({ frames := 1, cells := 0, slots := 0, locals := 21 } : Room) (zPc D cy b M0 [.ref (b + p0)]) (zQi D cy b rr) 0 0 (zA b) := by
  refine Met.ofW (cc := cX8_isExceptionWord) (maxL := 2) (ret := (some .boolean)) (by decide) rfl ?_
  intro p e s m args below meth c s₁ B hml hv
  obtain ⟨rfl, hP, hK⟩ := hv
  have hx := B.exec
  have hb := B.bytes
  have hr := B.returns
  have hts := atoms_spec (ws := wsX8_isExceptionWord) B.pre
  have hown : s.vm.findClass RX8 = some m.cls := findClass_of_methodNamed B.named
  have hlocks := B.notSynchronized
  have hS : va_S (zA b) s.heap s.heap [] := va_S.rf
  have hl := lv_entry ([.ref (b + p0)]) (n := 2) (Nat.le_of_ble_eq_true rfl)
  rw [lg_entry_eq]
  generalize (lg_sl ([.ref (b + p0)]) ++ List.replicate (2 - (lg_sl ([.ref (b + p0)])).length) Slot.unset).toArray = ls at hl ⊢
  have hl : lv_has ls 2 [(0, .ref (b + p0))] := hl
  have L21 : ∀ (n21 : Nat) (M : Mem) (H : Heap) (locs : List Loc) (ls : Array Slot) (h0 : Nat) (x1 : Int32), fX8_isExceptionWord_21L  n21 M h0 x1 = some rr → zH D cy b M H → va_S (zA b) s.heap H locs → lv_has ls 2 [(0, .ref (b + h0)), (1, .int x1)] → W p l e (headSpec wsX8_isExceptionWord ({ frames := 1, cells := 0, slots := 0, locals := 21 } : Room)).room s m ([.ref (b + p0)] : List Value).toArray below meth c H locs 0 0 (MQ below (zQi D cy b rr) ([.ref (b + p0)] : List Value).toArray s 0 0 (zA b)) (F0 m 21 ls []) := by
    intro n21
    induction n21 with
    | zero =>
      intro M H locs ls h0 x1 hf
      have hf : (none : Option (Int32 × Mem)) = some rr := hf
      cases hf
    | succ n21 ih21 =>
      intro M H locs ls h0 x1 hf hP hS hl
      have hf : fX8_isExceptionWord_21  (fX8_isExceptionWord_21L  n21) M h0 x1 = some rr := hf
      unfold fX8_isExceptionWord_21 at hf
      refine lv_iload_n hx hb dX8_isExceptionWord_21 rfl (lv_at hl 1 rfl) ?_
      refine lv_aload_n hx hb dX8_isExceptionWord_22 rfl (lv_at hl 0 rfl) ?_
      obtain ⟨v23, e23, hf⟩ := zb hf
      refine zr_gi (ci := 4) (k := 1) (C := RX4) (T := TX4) (N := 2) hx hb hts hi_X8_isExceptionWord_4 hown hK hP e23 rfl rfl (by decide) (by decide) (hts (.fieldLink RX8 70 "BoundaryAnalyzer$Row" "size" "I") (List.mem_of_getElem? (i := 1) rfl)) dX8_isExceptionWord_23 ?_
      refine lv_icmp_ge (tgt := 48) hx hb dX8_isExceptionWord_26 (by decide) (fun c26 => ?_) (fun c26 => ?_)
      · have hf := (if_pos c26).symm.trans hf
        refine lv_iconst (v := (1 : Int32)) hx hb dX8_isExceptionWord_48 (by decide) ?_
        exact zret_z hx hb hr (Or.inl rfl) hlocks hf hP hS dX8_isExceptionWord_49
      · have hf := (if_neg c26).symm.trans hf
        refine lv_aload_n hx hb dX8_isExceptionWord_29 rfl (lv_at hl 0 rfl) ?_
        refine lv_iload_n hx hb dX8_isExceptionWord_30 rfl (lv_at hl 1 rfl) ?_
        obtain ⟨u31, t31, hf⟩ := zb hf
        obtain ⟨r31, e31, hf⟩ := zb hf
        refine zc_i hS (va_runV (As := [.int x1]) (rest := []) ⟨hx, hb, hml, hown, hts⟩ (k_X4_at l D cy b M h0 x1 r31 e31) (cwV 1 hts gX8_isExceptionWord_X4_at rfl rfl rfl (by decide +kernel) ⟨Nat.le_of_ble_eq_true rfl, Nat.le_of_ble_eq_true rfl⟩) (zp_V _ hK hP t31 (T := TX4) (N := 2) rfl (by decide)) rfl rfl hl.1 rfl (lv_room (Nat.le_of_ble_eq_true rfl)) dX8_isExceptionWord_31 ⟨Nat.zero_le _, Nat.zero_le _⟩) (fun H locs hP hS => ?_)
        obtain ⟨v34, e34, hf⟩ := zb hf
        refine zc_p (va_runS (As := [.int r31.1]) (rest := []) ⟨hx, hb, hml, hown, hts⟩ (k_X8_isCharacter l r31.1 v34 e34) (va_cwS 1 hts gX8_isExceptionWord_X8_isCharacter rfl rfl rfl (by decide +kernel) ⟨Nat.le_of_ble_eq_true rfl, Nat.le_of_ble_eq_true rfl⟩) (zp_p _) rfl rfl hl.1 rfl (lv_room (Nat.le_of_ble_eq_true rfl)) dX8_isExceptionWord_34 ⟨Nat.zero_le _, Nat.zero_le _⟩) ?_
        refine lv_if_ne (tgt := 42) hx hb dX8_isExceptionWord_37 (by decide) (fun c37 => ?_) (fun c37 => ?_)
        · have hf := (if_neg c37).symm.trans hf
          obtain ⟨x1_42, q42, hf⟩ := zlt_s hf
          refine lv_iinc (v := x1_42) (lv' := [(1, .int x1_42), (0, .ref (b + h0))]) hx hb dX8_isExceptionWord_42 hl (k := 1) rfl (by rw [← q42]; rfl) (by decide) rfl (fun ls hl => ?_)
          refine lv_goto (tgt := 21) hx hb dX8_isExceptionWord_45 (by decide) ?_
          exact ih21 _ _ _ _ _ _ hf hP hS (lv_sub hl [1, 0] rfl)
        · have hf := (if_pos c37).symm.trans hf
          refine lv_iconst (v := (0 : Int32)) hx hb dX8_isExceptionWord_40 (by decide) ?_
          exact zret_z hx hb hr (Or.inl rfl) hlocks hf hP hS dX8_isExceptionWord_41
  unfold fX8_isExceptionWord at hf
  refine lv_aload_n hx hb dX8_isExceptionWord_0 rfl (lv_at hl 0 rfl) ?_
  obtain ⟨v1, e1, hf⟩ := zb hf
  refine zr_gi (ci := 4) (k := 1) (C := RX4) (T := TX4) (N := 2) hx hb hts hi_X8_isExceptionWord_4 hown hK hP e1 rfl rfl (by decide) (by decide) (hts (.fieldLink RX8 70 "BoundaryAnalyzer$Row" "size" "I") (List.mem_of_getElem? (i := 1) rfl)) dX8_isExceptionWord_1 ?_
  refine lv_iconst (v := (1 : Int32)) hx hb dX8_isExceptionWord_4 (by decide) ?_
  refine lv_icmp_lt (tgt := 17) hx hb dX8_isExceptionWord_5 (by decide) (fun c5 => ?_) (fun c5 => ?_)
  · have hf := (if_pos c5).symm.trans hf
    refine lv_iconst (v := (0 : Int32)) hx hb dX8_isExceptionWord_17 (by decide) ?_
    exact zret_z hx hb hr (Or.inl rfl) hlocks hf hP hS dX8_isExceptionWord_18
  · have hf := (if_neg c5).symm.trans hf
    refine lv_aload_n hx hb dX8_isExceptionWord_8 rfl (lv_at hl 0 rfl) ?_
    obtain ⟨v9, e9, hf⟩ := zb hf
    refine zr_gi (ci := 4) (k := 1) (C := RX4) (T := TX4) (N := 2) hx hb hts hi_X8_isExceptionWord_4 hown hK hP e9 rfl rfl (by decide) (by decide) (hts (.fieldLink RX8 70 "BoundaryAnalyzer$Row" "size" "I") (List.mem_of_getElem? (i := 1) rfl)) dX8_isExceptionWord_9 ?_
    refine lv_bipush (v := (8 : Int32)) hx hb dX8_isExceptionWord_12 (by decide) ?_
    refine lv_icmp_le (tgt := 19) hx hb dX8_isExceptionWord_14 (by decide) (fun c14 => ?_) (fun c14 => ?_)
    · have hf := (if_pos c14).symm.trans hf
      refine lv_iconst (v := (0 : Int32)) hx hb dX8_isExceptionWord_19 (by decide) ?_
      refine lv_istore_n (lv' := [(1, .int (0 : Int32)), (0, .ref (b + p0))]) hx hb dX8_isExceptionWord_20 rfl hl (by decide) rfl (fun ls hl => ?_)
      exact L21 _ _ _ _ _ _ _ hf hP hS (lv_sub hl [1, 0] rfl)
    · have hf := (if_neg c14).symm.trans hf
      refine lv_iconst (v := (0 : Int32)) hx hb dX8_isExceptionWord_17 (by decide) ?_
      exact zret_z hx hb hr (Or.inl rfl) hlocks hf hP hS dX8_isExceptionWord_18
theorem hi_X8_exceptionAt_4 : ∀ w ∈ wsX40, w ∈ wsX8_exceptionAt := fun _ h => List.mem_cons_of_mem _ (List.mem_append_right _ h)
theorem hi_X8_exceptionAt_8 : ∀ w ∈ wsX80, w ∈ wsX8_exceptionAt := fun _ h => List.mem_cons_of_mem _ (List.mem_append_left _ (List.mem_append_right _ h))
set_option maxHeartbeats 4000000 in
set_option maxRecDepth 100000 in
theorem k_X8_exceptionAt (l : Launch) (D : va_G) (cy : Nat → ClassId) (b : Nat) (M0 : Mem) (p0 : Nat) (p1 : Nat) (p2 : Int32) (p3 : Int32) (rr : Int32 × Mem) (hf : fX8_exceptionAt M0 p0 p1 p2 p3 = some rr) : Met l yX8_exceptionAt wsX8_exceptionAt ({ frames := 2, cells := 0, slots := 0, locals := 45 } : Room) (zPc D cy b M0 [.ref (b + p0), .ref (b + p1), .int p2, .int p3]) (zQi D cy b rr) 0 0 (zA b) := by
  refine Met.ofW (cc := cX8_exceptionAt) (maxL := 5) (ret := (some .int)) (by decide) rfl ?_
  intro p e s m args below meth c s₁ B hml hv
  obtain ⟨rfl, hP, hK⟩ := hv
  have hx := B.exec
  have hb := B.bytes
  have hr := B.returns
  have hts := atoms_spec (ws := wsX8_exceptionAt) B.pre
  have hown : s.vm.findClass RX8 = some m.cls := findClass_of_methodNamed B.named
  have hlocks := B.notSynchronized
  have hS : va_S (zA b) s.heap s.heap [] := va_S.rf
  have hl := lv_entry ([.ref (b + p0), .ref (b + p1), .int p2, .int p3]) (n := 5) (Nat.le_of_ble_eq_true rfl)
  rw [lg_entry_eq]
  generalize (lg_sl ([.ref (b + p0), .ref (b + p1), .int p2, .int p3]) ++ List.replicate (5 - (lg_sl ([.ref (b + p0), .ref (b + p1), .int p2, .int p3])).length) Slot.unset).toArray = ls at hl ⊢
  have hl : lv_has ls 5 [(0, .ref (b + p0)), (1, .ref (b + p1)), (2, .int p2), (3, .int p3)] := hl
  have L3 : ∀ (n3 : Nat) (M : Mem) (H : Heap) (locs : List Loc) (ls : Array Slot) (h0 : Nat) (h1 : Nat) (x2 : Int32) (x3 : Int32) (x4 : Int32), fX8_exceptionAt_3L  n3 M h0 h1 x2 x3 x4 = some rr → zH D cy b M H → va_S (zA b) s.heap H locs → lv_has ls 5 [(0, .ref (b + h0)), (1, .ref (b + h1)), (2, .int x2), (3, .int x3), (4, .int x4)] → W p l e (headSpec wsX8_exceptionAt ({ frames := 2, cells := 0, slots := 0, locals := 45 } : Room)).room s m ([.ref (b + p0), .ref (b + p1), .int p2, .int p3] : List Value).toArray below meth c H locs 0 0 (MQ below (zQi D cy b rr) ([.ref (b + p0), .ref (b + p1), .int p2, .int p3] : List Value).toArray s 0 0 (zA b)) (F0 m 3 ls []) := by
    intro n3
    induction n3 with
    | zero =>
      intro M H locs ls h0 h1 x2 x3 x4 hf
      have hf : (none : Option (Int32 × Mem)) = some rr := hf
      cases hf
    | succ n3 ih3 =>
      intro M H locs ls h0 h1 x2 x3 x4 hf hP hS hl
      have hf : fX8_exceptionAt_3  (fX8_exceptionAt_3L  n3) M h0 h1 x2 x3 x4 = some rr := hf
      unfold fX8_exceptionAt_3 at hf
      refine lv_iload hx hb dX8_exceptionAt_3 (lv_at hl 4 rfl) ?_
      refine lv_aload_n hx hb dX8_exceptionAt_5 rfl (lv_at hl 0 rfl) ?_
      obtain ⟨v6, e6, hf⟩ := zb hf
      refine zr_gi (ci := 8) (k := 5) (C := RX8) (T := TX8) (N := 7) hx hb hts hi_X8_exceptionAt_8 hown hK hP e6 rfl rfl (by decide) (by decide) (hts (.fieldLink RX8 131 "BoundaryAnalyzer" "exceptionCount" "I") (List.mem_of_getElem? (i := 1) rfl)) dX8_exceptionAt_6 ?_
      refine lv_icmp_ge (tgt := 37) hx hb dX8_exceptionAt_9 (by decide) (fun c9 => ?_) (fun c9 => ?_)
      · have hf := (if_pos c9).symm.trans hf
        refine lv_bipush (v := (-5 : Int32)) hx hb dX8_exceptionAt_37 (by decide) ?_
        exact zret_i hx hb hr hlocks hf hP hS dX8_exceptionAt_39
      · have hf := (if_neg c9).symm.trans hf
        refine lv_aload_n hx hb dX8_exceptionAt_12 rfl (lv_at hl 0 rfl) ?_
        obtain ⟨v13, e13, hf⟩ := zb hf
        refine zr_gr (ci := 8) (k := 4) (C := RX8) (T := TX8) (N := 7) hx hb hts hi_X8_exceptionAt_8 hown hK hP e13 rfl rfl (by decide) (by decide) (hts (.fieldLink RX8 39 "BoundaryAnalyzer" "exceptions" "[LBoundaryAnalyzer$Row;") (List.mem_of_getElem? (i := 2) rfl)) dX8_exceptionAt_13 ?_
        refine lv_iload hx hb dX8_exceptionAt_16 (lv_at hl 4 rfl) ?_
        obtain ⟨v18, e18, hf⟩ := zb hf
        refine zr_aa (t0 := 6) hx hb hK hP e18 (by decide) rfl dX8_exceptionAt_18 ?_
        refine lv_aload_n hx hb dX8_exceptionAt_19 rfl (lv_at hl 1 rfl) ?_
        refine lv_iload_n hx hb dX8_exceptionAt_20 rfl (lv_at hl 2 rfl) ?_
        refine lv_iload_n hx hb dX8_exceptionAt_21 rfl (lv_at hl 3 rfl) ?_
        obtain ⟨u22, t22, hf⟩ := zb hf
        obtain ⟨r22, e22, hf⟩ := zb hf
        refine zc_i hS (va_runV (As := [.ref (b + h1), .int x2, .int x3]) (rest := []) ⟨hx, hb, hml, hown, hts⟩ (k_X4_isPartOf l D cy b M v18 h1 x2 x3 r22 e22) (cwV 3 hts gX8_exceptionAt_X4_isPartOf rfl rfl rfl (by decide +kernel) ⟨Nat.le_of_ble_eq_true rfl, Nat.le_of_ble_eq_true rfl⟩) (zp_V _ hK hP t22 (T := TX4) (N := 2) rfl (by decide)) rfl rfl hl.1 rfl (lv_room (Nat.le_of_ble_eq_true rfl)) dX8_exceptionAt_22 ⟨Nat.zero_le _, Nat.zero_le _⟩) (fun H locs hP hS => ?_)
        refine lv_if_eq (tgt := 31) hx hb dX8_exceptionAt_25 (by decide) (fun c25 => ?_) (fun c25 => ?_)
        · have hf := (if_pos c25).symm.trans hf
          obtain ⟨x4_31, q31, hf⟩ := zlt_s hf
          refine lv_iinc (v := x4_31) (lv' := [(4, .int x4_31), (0, .ref (b + h0)), (1, .ref (b + h1)), (2, .int x2), (3, .int x3)]) hx hb dX8_exceptionAt_31 hl (k := 4) rfl (by rw [← q31]; rfl) (by decide) rfl (fun ls hl => ?_)
          refine lv_goto (tgt := 3) hx hb dX8_exceptionAt_34 (by decide) ?_
          exact ih3 _ _ _ _ _ _ _ _ _ hf hP hS (lv_sub hl [1, 2, 3, 4, 0] rfl)
        · have hf := (if_neg c25).symm.trans hf
          refine lv_iload hx hb dX8_exceptionAt_28 (lv_at hl 4 rfl) ?_
          exact zret_i hx hb hr hlocks hf hP hS dX8_exceptionAt_30
  unfold fX8_exceptionAt at hf
  refine lv_iconst (v := (0 : Int32)) hx hb dX8_exceptionAt_0 (by decide) ?_
  refine lv_istore (lv' := [(4, .int (0 : Int32)), (0, .ref (b + p0)), (1, .ref (b + p1)), (2, .int p2), (3, .int p3)]) hx hb dX8_exceptionAt_1 hl (by decide) rfl (fun ls hl => ?_)
  exact L3 _ _ _ _ _ _ _ _ _ _ hf hP hS (lv_sub hl [1, 2, 3, 4, 0] rfl)
