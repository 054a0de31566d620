theorem hi_X9_value_9 : ∀ w ∈ wsX90, w ∈ wsX9_value := fun _ h => List.mem_cons_of_mem _ (List.mem_append_right _ h)
set_option maxHeartbeats 4000000 in
set_option maxRecDepth 100000 in
theorem k_X9_value (l : Launch) (D : va_G) (cy : Nat → ClassId) (b : Nat) (M0 : Mem) (p0 : Nat) (p1 : Int32) (rr : Int32 × Mem) (hf : fX9_value M0 p0 p1 = some rr) : Met l yX9_value wsX9_value ({ frames := 0, cells := 0, slots := 0, locals := 0 } : Room) (zPc D cy b M0 [.ref (b + p0), .int p1]) (zQi D cy b rr) 0 0 (zA b) := by
  refine Met.ofW (cc := cX9_value) (maxL := 2) (ret := (some .int)) (by decide) rfl ?_
  intro p e s m args below meth c s₁ B hml hv
  obtain ⟨rfl, hP, hK⟩ := hv
  have hx := B.exec
  have hb := B.bytes
  have hr := B.returns
  have hts := atoms_spec (ws := wsX9_value) B.pre
  have hown : s.vm.findClass RX9 = some m.cls := findClass_of_methodNamed B.named
  have hlocks := B.notSynchronized
  have hS : va_S (zA b) s.heap s.heap [] := va_S.rf
  have hl := lv_entry ([.ref (b + p0), .int p1]) (n := 2) (Nat.le_of_ble_eq_true rfl)
  rw [lg_entry_eq]
  generalize (lg_sl ([.ref (b + p0), .int p1]) ++ List.replicate (2 - (lg_sl ([.ref (b + p0), .int p1])).length) Slot.unset).toArray = ls at hl ⊢
  have hl : lv_has ls 2 [(0, .ref (b + p0)), (1, .int p1)] := hl
  unfold fX9_value at hf
  refine lv_iload_n hx hb dX9_value_0 rfl (lv_at hl 1 rfl) ?_
  refine lv_if_ne (tgt := 11) hx hb dX9_value_1 (by decide) (fun c1 => ?_) (fun c1 => ?_)
  · have hf := (if_neg c1).symm.trans hf
    refine lv_iload_n hx hb dX9_value_11 rfl (lv_at hl 1 rfl) ?_
    refine lv_iconst (v := (1 : Int32)) hx hb dX9_value_12 (by decide) ?_
    refine lv_icmp_ne (tgt := 23) hx hb dX9_value_13 (by decide) (fun c13 => ?_) (fun c13 => ?_)
    · have hf := (if_neg c13).symm.trans hf
      refine lv_iload_n hx hb dX9_value_23 rfl (lv_at hl 1 rfl) ?_
      refine lv_iconst (v := (2 : Int32)) hx hb dX9_value_24 (by decide) ?_
      refine lv_icmp_ne (tgt := 35) hx hb dX9_value_25 (by decide) (fun c25 => ?_) (fun c25 => ?_)
      · have hf := (if_neg c25).symm.trans hf
        refine lv_iload_n hx hb dX9_value_35 rfl (lv_at hl 1 rfl) ?_
        refine lv_iconst (v := (3 : Int32)) hx hb dX9_value_36 (by decide) ?_
        refine lv_icmp_ne (tgt := 47) hx hb dX9_value_37 (by decide) (fun c37 => ?_) (fun c37 => ?_)
        · have hf := (if_neg c37).symm.trans hf
          refine lv_iload_n hx hb dX9_value_47 rfl (lv_at hl 1 rfl) ?_
          refine lv_iconst (v := (4 : Int32)) hx hb dX9_value_48 (by decide) ?_
          refine lv_icmp_ne (tgt := 59) hx hb dX9_value_49 (by decide) (fun c49 => ?_) (fun c49 => ?_)
          · have hf := (if_neg c49).symm.trans hf
            refine lv_bipush (v := (-2 : Int32)) hx hb dX9_value_59 (by decide) ?_
            exact zret_i hx hb hr hlocks hf hP hS dX9_value_61
          · have hf := (if_pos c49).symm.trans hf
            refine lv_aload_n hx hb dX9_value_52 rfl (lv_at hl 0 rfl) ?_
            obtain ⟨v53, e53, hf⟩ := zb hf
            refine zr_gi (ci := 9) (k := 44) (C := RX9) (T := TX9) (N := 54) hx hb hts hi_X9_value_9 hown hK hP e53 rfl rfl (by decide) (by decide) (hts (.fieldLink RX9 267 "BoundaryAnalyzerModel" "redoMany" "I") (List.mem_of_getElem? (i := 5) rfl)) dX9_value_53 ?_
            refine lv_goto (tgt := 61) hx hb dX9_value_56 (by decide) ?_
            exact zret_i hx hb hr hlocks hf hP hS dX9_value_61
        · have hf := (if_pos c37).symm.trans hf
          refine lv_aload_n hx hb dX9_value_40 rfl (lv_at hl 0 rfl) ?_
          obtain ⟨v41, e41, hf⟩ := zb hf
          refine zr_gi (ci := 9) (k := 39) (C := RX9) (T := TX9) (N := 54) hx hb hts hi_X9_value_9 hown hK hP e41 rfl rfl (by decide) (by decide) (hts (.fieldLink RX9 260 "BoundaryAnalyzerModel" "undoMany" "I") (List.mem_of_getElem? (i := 4) rfl)) dX9_value_41 ?_
          refine lv_goto (tgt := 61) hx hb dX9_value_44 (by decide) ?_
          exact zret_i hx hb hr hlocks hf hP hS dX9_value_61
      · have hf := (if_pos c25).symm.trans hf
        refine lv_aload_n hx hb dX9_value_28 rfl (lv_at hl 0 rfl) ?_
        obtain ⟨v29, e29, hf⟩ := zb hf
        refine zr_gi (ci := 9) (k := 49) (C := RX9) (T := TX9) (N := 54) hx hb hts hi_X9_value_9 hown hK hP e29 rfl rfl (by decide) (by decide) (hts (.fieldLink RX9 279 "BoundaryAnalyzerModel" "exceptions" "I") (List.mem_of_getElem? (i := 3) rfl)) dX9_value_29 ?_
        refine lv_goto (tgt := 61) hx hb dX9_value_32 (by decide) ?_
        exact zret_i hx hb hr hlocks hf hP hS dX9_value_61
    · have hf := (if_pos c13).symm.trans hf
      refine lv_aload_n hx hb dX9_value_16 rfl (lv_at hl 0 rfl) ?_
      obtain ⟨v17, e17, hf⟩ := zb hf
      refine zr_gi (ci := 9) (k := 1) (C := RX9) (T := TX9) (N := 54) hx hb hts hi_X9_value_9 hown hK hP e17 rfl rfl (by decide) (by decide) (hts (.fieldLink RX9 144 "BoundaryAnalyzerModel" "typed" "I") (List.mem_of_getElem? (i := 2) rfl)) dX9_value_17 ?_
      refine lv_goto (tgt := 61) hx hb dX9_value_20 (by decide) ?_
      exact zret_i hx hb hr hlocks hf hP hS dX9_value_61
  · have hf := (if_pos c1).symm.trans hf
    refine lv_aload_n hx hb dX9_value_4 rfl (lv_at hl 0 rfl) ?_
    obtain ⟨v5, e5, hf⟩ := zb hf
    refine zr_gi (ci := 9) (k := 31) (C := RX9) (T := TX9) (N := 54) hx hb hts hi_X9_value_9 hown hK hP e5 rfl rfl (by decide) (by decide) (hts (.fieldLink RX9 207 "BoundaryAnalyzerModel" "length" "I") (List.mem_of_getElem? (i := 1) rfl)) dX9_value_5 ?_
    refine lv_goto (tgt := 61) hx hb dX9_value_8 (by decide) ?_
    exact zret_i hx hb hr hlocks hf hP hS dX9_value_61
theorem hi_X9_barred_9 : ∀ w ∈ wsX90, w ∈ wsX9_barred := fun _ h => List.mem_cons_of_mem _ (List.mem_append_right _ h)
set_option maxHeartbeats 4000000 in
set_option maxRecDepth 100000 in
theorem k_X9_barred (l : Launch) (D : va_G) (cy : Nat → ClassId) (b : Nat) (M0 : Mem) (p0 : Nat) (p1 : Int32) (p2 : Int32) (rr : Int32 × Mem) (hf : fX9_barred M0 p0 p1 p2 = some rr) : Met l yX9_barred wsX9_barred ({ frames := 2, cells := 0, slots := 0, locals := 43 } : Room) (zPc D cy b M0 [.ref (b + p0), .int p1, .int p2]) (zQi D cy b rr) 0 0 (zA b) := by
  refine Met.ofW (cc := cX9_barred) (maxL := 3) (ret := (some .int)) (by decide) rfl ?_
  intro p e s m args below meth c s₁ B hml hv
  obtain ⟨rfl, hP, hK⟩ := hv
  have hx := B.exec
  have hb := B.bytes
  have hr := B.returns
  have hts := atoms_spec (ws := wsX9_barred) B.pre
  have hown : s.vm.findClass RX9 = some m.cls := findClass_of_methodNamed B.named
  have hlocks := B.notSynchronized
  have hS : va_S (zA b) s.heap s.heap [] := va_S.rf
  have hl := lv_entry ([.ref (b + p0), .int p1, .int p2]) (n := 3) (Nat.le_of_ble_eq_true rfl)
  rw [lg_entry_eq]
  generalize (lg_sl ([.ref (b + p0), .int p1, .int p2]) ++ List.replicate (3 - (lg_sl ([.ref (b + p0), .int p1, .int p2])).length) Slot.unset).toArray = ls at hl ⊢
  have hl : lv_has ls 3 [(0, .ref (b + p0)), (1, .int p1), (2, .int p2)] := hl
  unfold fX9_barred at hf
  refine lv_iload_n hx hb dX9_barred_0 rfl (lv_at hl 1 rfl) ?_
  obtain ⟨v1, e1, hf⟩ := zb hf
  refine zc_p (va_runS (As := [.int p1]) (rest := []) ⟨hx, hb, hml, hown, hts⟩ (k_X9_noKind l p1 v1 e1) (va_cwS 1 hts gX9_barred_X9_noKind rfl rfl rfl (by decide +kernel) ⟨Nat.le_of_ble_eq_true rfl, Nat.le_of_ble_eq_true rfl⟩) (zp_p _) rfl rfl hl.1 rfl (lv_room (Nat.le_of_ble_eq_true rfl)) dX9_barred_1 ⟨Nat.zero_le _, Nat.zero_le _⟩) ?_
  refine lv_if_eq (tgt := 12) hx hb dX9_barred_4 (by decide) (fun c4 => ?_) (fun c4 => ?_)
  · have hf := (if_pos c4).symm.trans hf
    refine lv_aload_n hx hb dX9_barred_12 rfl (lv_at hl 0 rfl) ?_
    refine lv_iload_n hx hb dX9_barred_13 rfl (lv_at hl 2 rfl) ?_
    obtain ⟨u14, t14, hf⟩ := zb hf
    obtain ⟨r14, e14, hf⟩ := zb hf
    refine zc_i hS (va_runV (As := [.int p2]) (rest := []) ⟨hx, hb, hml, hown, hts⟩ (k_X9_noPosition l D cy b M0 p0 p2 r14 e14) (cwV 1 hts gX9_barred_X9_noPosition rfl rfl rfl (by decide +kernel) ⟨Nat.le_of_ble_eq_true rfl, Nat.le_of_ble_eq_true rfl⟩) (zp_V _ hK hP t14 (T := TX9) (N := 54) rfl (by decide)) rfl rfl hl.1 rfl (lv_room (Nat.le_of_ble_eq_true rfl)) dX9_barred_14 ⟨Nat.zero_le _, Nat.zero_le _⟩) (fun H locs hP hS => ?_)
    refine lv_if_eq (tgt := 24) hx hb dX9_barred_17 (by decide) (fun c17 => ?_) (fun c17 => ?_)
    · have hf := (if_pos c17).symm.trans hf
      refine lv_iconst (v := (0 : Int32)) hx hb dX9_barred_24 (by decide) ?_
      exact zret_i hx hb hr hlocks hf hP hS dX9_barred_25
    · have hf := (if_neg c17).symm.trans hf
      refine lv_iconst (v := (-1 : Int32)) hx hb dX9_barred_20 (by decide) ?_
      refine lv_goto (tgt := 25) hx hb dX9_barred_21 (by decide) ?_
      exact zret_i hx hb hr hlocks hf hP hS dX9_barred_25
  · have hf := (if_neg c4).symm.trans hf
    refine lv_bipush (v := (-2 : Int32)) hx hb dX9_barred_7 (by decide) ?_
    refine lv_goto (tgt := 25) hx hb dX9_barred_9 (by decide) ?_
    exact zret_i hx hb hr hlocks hf hP hS dX9_barred_25
theorem hi_X9_boundaryAt_9 : ∀ w ∈ wsX90, w ∈ wsX9_boundaryAt := fun _ h => List.mem_cons_of_mem _ (List.mem_append_right _ h)
set_option maxHeartbeats 4000000 in
set_option maxRecDepth 100000 in
theorem k_X9_boundaryAt (l : Launch) (D : va_G) (cy : Nat → ClassId) (b : Nat) (M0 : Mem) (p0 : Nat) (p1 : Int32) (p2 : Int32) (rr : Int32 × Mem) (hf : fX9_boundaryAt M0 p0 p1 p2 = some rr) : Met l yX9_boundaryAt wsX9_boundaryAt ({ frames := 3, cells := 0, slots := 0, locals := 65 } : Room) (zPc D cy b M0 [.ref (b + p0), .int p1, .int p2]) (zQi D cy b rr) 0 0 (zA b) := by
  refine Met.ofW (cc := cX9_boundaryAt) (maxL := 5) (ret := (some .int)) (by decide) rfl ?_
  intro p e s m args below meth c s₁ B hml hv
  obtain ⟨rfl, hP, hK⟩ := hv
  have hx := B.exec
  have hb := B.bytes
  have hr := B.returns
  have hts := atoms_spec (ws := wsX9_boundaryAt) B.pre
  have hown : s.vm.findClass RX9 = some m.cls := findClass_of_methodNamed B.named
  have hlocks := B.notSynchronized
  have hS : va_S (zA b) s.heap s.heap [] := va_S.rf
  have hl := lv_entry ([.ref (b + p0), .int p1, .int p2]) (n := 5) (Nat.le_of_ble_eq_true rfl)
  rw [lg_entry_eq]
  generalize (lg_sl ([.ref (b + p0), .int p1, .int p2]) ++ List.replicate (5 - (lg_sl ([.ref (b + p0), .int p1, .int p2])).length) Slot.unset).toArray = ls at hl ⊢
  have hl : lv_has ls 5 [(0, .ref (b + p0)), (1, .int p1), (2, .int p2)] := hl
  have L16 : ∀ (n16 : Nat) (M : Mem) (H : Heap) (locs : List Loc) (ls : Array Slot) (h0 : Nat) (x1 : Int32) (x2 : Int32) (x4 : Int32), fX9_boundaryAt_16L  n16 M h0 x1 x2 x4 = some rr → zH D cy b M H → va_S (zA b) s.heap H locs → lv_has ls 5 [(0, .ref (b + h0)), (1, .int x1), (2, .int x2), (4, .int x4)] → W p l e (headSpec wsX9_boundaryAt ({ frames := 3, cells := 0, slots := 0, locals := 65 } : Room)).room s m ([.ref (b + p0), .int p1, .int p2] : List Value).toArray below meth c H locs 0 0 (MQ below (zQi D cy b rr) ([.ref (b + p0), .int p1, .int p2] : List Value).toArray s 0 0 (zA b)) (F0 m 16 ls []) := by
    intro n16
    induction n16 with
    | zero =>
      intro M H locs ls h0 x1 x2 x4 hf
      have hf : (none : Option (Int32 × Mem)) = some rr := hf
      cases hf
    | succ n16 ih16 =>
      intro M H locs ls h0 x1 x2 x4 hf hP hS hl
      have hf : fX9_boundaryAt_16  (fX9_boundaryAt_16L  n16) M h0 x1 x2 x4 = some rr := hf
      unfold fX9_boundaryAt_16 at hf
      refine lv_iload hx hb dX9_boundaryAt_16 (lv_at hl 3 rfl) ?_
      refine lv_aload_n hx hb dX9_boundaryAt_18 rfl (lv_at hl 0 rfl) ?_
      obtain ⟨v19, e19, hf⟩ := zb hf
      refine zr_gr (ci := 9) (k := 33) (C := RX9) (T := TX9) (N := 54) hx hb hts hi_X9_boundaryAt_9 hown hK hP e19 rfl rfl (by decide) (by decide) (hts (.fieldLink RX9 81 "BoundaryAnalyzerModel" "rawMany" "[I") (List.mem_of_getElem? (i := 1) rfl)) dX9_boundaryAt_19 ?_
      refine lv_iload_n hx hb dX9_boundaryAt_22 rfl (lv_at hl 1 rfl) ?_
      obtain ⟨v23, e23, hf⟩ := zb hf
      refine zr_ai hx hb hK hP e23 dX9_boundaryAt_23 ?_
      refine lv_icmp_ge (tgt := 59) hx hb dX9_boundaryAt_24 (by decide) (fun c24 => ?_) (fun c24 => ?_)
      · have hf := (if_pos c24).symm.trans hf
        refine lv_iconst (v := (0 : Int32)) hx hb dX9_boundaryAt_59 (by decide) ?_
        exact zret_i hx hb hr hlocks hf hP hS dX9_boundaryAt_60
      · have hf := (if_neg c24).symm.trans hf
        refine lv_aload_n hx hb dX9_boundaryAt_27 rfl (lv_at hl 0 rfl) ?_
        refine lv_iload_n hx hb dX9_boundaryAt_28 rfl (lv_at hl 1 rfl) ?_
        refine lv_iload hx hb dX9_boundaryAt_29 (lv_at hl 3 rfl) ?_
        obtain ⟨u31, t31, hf⟩ := zb hf
        obtain ⟨r31, e31, hf⟩ := zb hf
        refine zc_i hS (va_runV (As := [.int x1, .int x4]) (rest := []) ⟨hx, hb, hml, hown, hts⟩ (k_X9_raw l D cy b M h0 x1 x4 r31 e31) (cwV 2 hts gX9_boundaryAt_X9_raw rfl rfl rfl (by decide +kernel) ⟨Nat.le_of_ble_eq_true rfl, Nat.le_of_ble_eq_true rfl⟩) (zp_V _ hK hP t31 (T := TX9) (N := 54) rfl (by decide)) rfl rfl hl.1 rfl (lv_room (Nat.le_of_ble_eq_true rfl)) dX9_boundaryAt_31 ⟨Nat.zero_le _, Nat.zero_le _⟩) (fun H locs hP hS => ?_)
        refine lv_iload_n hx hb dX9_boundaryAt_34 rfl (lv_at hl 2 rfl) ?_
        refine lv_icmp_ne (tgt := 53) hx hb dX9_boundaryAt_35 (by decide) (fun c35 => ?_) (fun c35 => ?_)
        · have hf := (if_neg c35).symm.trans hf
          obtain ⟨x4_53, q53, hf⟩ := zlt_s hf
          refine lv_iinc (v := x4_53) (lv' := [(4, .int x4_53), (0, .ref (b + h0)), (1, .int x1), (2, .int x2)]) hx hb dX9_boundaryAt_53 hl (k := 3) rfl (by rw [← q53]; rfl) (by decide) rfl (fun ls hl => ?_)
          refine lv_goto (tgt := 16) hx hb dX9_boundaryAt_56 (by decide) ?_
          exact ih16 _ _ _ _ _ _ _ _ hf hP hS (lv_sub hl [1, 2, 3, 0] rfl)
        · have hf := (if_pos c35).symm.trans hf
          refine lv_aload_n hx hb dX9_boundaryAt_38 rfl (lv_at hl 0 rfl) ?_
          refine lv_iload_n hx hb dX9_boundaryAt_39 rfl (lv_at hl 1 rfl) ?_
          refine lv_iload_n hx hb dX9_boundaryAt_40 rfl (lv_at hl 2 rfl) ?_
          obtain ⟨u41, t41, hf⟩ := zb hf
          obtain ⟨r41, e41, hf⟩ := zb hf
          refine zc_i hS (va_runV (As := [.int x1, .int x2]) (rest := []) ⟨hx, hb, hml, hown, hts⟩ (k_X9_isSuppressed l D cy b r31.2 h0 x1 x2 r41 e41) (cwV 2 hts gX9_boundaryAt_X9_isSuppressed rfl rfl rfl (by decide +kernel) ⟨Nat.le_of_ble_eq_true rfl, Nat.le_of_ble_eq_true rfl⟩) (zp_V _ hK hP t41 (T := TX9) (N := 54) rfl (by decide)) rfl rfl hl.1 rfl (lv_room (Nat.le_of_ble_eq_true rfl)) dX9_boundaryAt_41 ⟨Nat.zero_le _, Nat.zero_le _⟩) (fun H locs hP hS => ?_)
          refine lv_if_eq (tgt := 51) hx hb dX9_boundaryAt_44 (by decide) (fun c44 => ?_) (fun c44 => ?_)
          · have hf := (if_pos c44).symm.trans hf
            refine lv_iconst (v := (1 : Int32)) hx hb dX9_boundaryAt_51 (by decide) ?_
            exact zret_i hx hb hr hlocks hf hP hS dX9_boundaryAt_52
          · have hf := (if_neg c44).symm.trans hf
            refine lv_iconst (v := (2 : Int32)) hx hb dX9_boundaryAt_47 (by decide) ?_
            refine lv_goto (tgt := 52) hx hb dX9_boundaryAt_48 (by decide) ?_
            exact zret_i hx hb hr hlocks hf hP hS dX9_boundaryAt_52
  unfold fX9_boundaryAt at hf
  refine lv_aload_n hx hb dX9_boundaryAt_0 rfl (lv_at hl 0 rfl) ?_
  refine lv_iload_n hx hb dX9_boundaryAt_1 rfl (lv_at hl 1 rfl) ?_
  refine lv_iload_n hx hb dX9_boundaryAt_2 rfl (lv_at hl 2 rfl) ?_
  obtain ⟨u3, t3, hf⟩ := zb hf
  obtain ⟨r3, e3, hf⟩ := zb hf
  refine zc_i hS (va_runV (As := [.int p1, .int p2]) (rest := []) ⟨hx, hb, hml, hown, hts⟩ (k_X9_barred l D cy b M0 p0 p1 p2 r3 e3) (cwV 2 hts gX9_boundaryAt_X9_barred rfl rfl rfl (by decide +kernel) ⟨Nat.le_of_ble_eq_true rfl, Nat.le_of_ble_eq_true rfl⟩) (zp_V _ hK hP t3 (T := TX9) (N := 54) rfl (by decide)) rfl rfl hl.1 rfl (lv_room (Nat.le_of_ble_eq_true rfl)) dX9_boundaryAt_3 ⟨Nat.zero_le _, Nat.zero_le _⟩) (fun H locs hP hS => ?_)
  refine lv_istore_n (lv' := [(3, .int r3.1), (0, .ref (b + p0)), (1, .int p1), (2, .int p2)]) hx hb dX9_boundaryAt_6 rfl hl (by decide) rfl (fun ls hl => ?_)
  refine lv_iload_n hx hb dX9_boundaryAt_7 rfl (lv_at hl 0 rfl) ?_
  refine lv_if_ge (tgt := 13) hx hb dX9_boundaryAt_8 (by decide) (fun c8 => ?_) (fun c8 => ?_)
  · have hf := (if_pos c8).symm.trans hf
    refine lv_iconst (v := (0 : Int32)) hx hb dX9_boundaryAt_13 (by decide) ?_
    refine lv_istore (lv' := [(4, .int (0 : Int32)), (3, .int r3.1), (0, .ref (b + p0)), (1, .int p1), (2, .int p2)]) hx hb dX9_boundaryAt_14 hl (by decide) rfl (fun ls hl => ?_)
    exact L16 _ _ _ _ _ _ _ _ _ hf hP hS (lv_sub hl [2, 3, 4, 0] rfl)
  · have hf := (if_neg c8).symm.trans hf
    refine lv_iload_n hx hb dX9_boundaryAt_11 rfl (lv_at hl 0 rfl) ?_
    exact zret_i hx hb hr hlocks hf hP hS dX9_boundaryAt_12
