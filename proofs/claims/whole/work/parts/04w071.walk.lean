theorem hi_X9_previous_9 : ∀ w ∈ wsX90, w ∈ wsX9_previous := fun _ h => List.mem_cons_of_mem _ (List.mem_append_right _ h)
set_option maxHeartbeats 4000000 in
set_option maxRecDepth 100000 in
theorem k_X9_previous (l : Launch) (D : va_G) (cy : Nat → ClassId) (b : Nat) (M0 : Mem) (p0 : Nat) (p1 : Int32) (p2 : Int32) (rr : Int32 × Mem) (hf : fX9_previous M0 p0 p1 p2 = some rr) : Met l yX9_previous wsX9_previous ({ frames := 3, cells := 0, slots := 0, locals := 65 } : Room) (zPc D cy b M0 [.ref (b + p0), .int p1, .int p2]) (zQi D cy b rr) 0 0 (zA b) := by
  refine Met.ofW (cc := cX9_previous) (maxL := 5) (ret := (some .int)) (by decide) rfl ?_
  intro p e s m args below meth c s₁ B hml hv
  obtain ⟨rfl, hP, hK⟩ := hv
  have hx := B.exec
  have hb := B.bytes
  have hr := B.returns
  have hts := atoms_spec (ws := wsX9_previous) B.pre
  have hown : s.vm.findClass RX9 = some m.cls := findClass_of_methodNamed B.named
  have hlocks := B.notSynchronized
  have hS : va_S (zA b) s.heap s.heap [] := va_S.rf
  have hl := lv_entry ([.ref (b + p0), .int p1, .int p2]) (n := 5) (Nat.le_of_ble_eq_true rfl)
  rw [lg_entry_eq]
  generalize (lg_sl ([.ref (b + p0), .int p1, .int p2]) ++ List.replicate (5 - (lg_sl ([.ref (b + p0), .int p1, .int p2])).length) Slot.unset).toArray = ls at hl ⊢
  have hl : lv_has ls 5 [(0, .ref (b + p0)), (1, .int p1), (2, .int p2)] := hl
  have L23 : ∀ (n23 : Nat) (M : Mem) (H : Heap) (locs : List Loc) (ls : Array Slot) (h0 : Nat) (x1 : Int32) (x2 : Int32) (x4 : Int32), fX9_previous_23L  n23 M h0 x1 x2 x4 = some rr → zH D cy b M H → va_S (zA b) s.heap H locs → lv_has ls 5 [(0, .ref (b + h0)), (1, .int x1), (2, .int x2), (4, .int x4)] → W p l e (headSpec wsX9_previous ({ frames := 3, cells := 0, slots := 0, locals := 65 } : Room)).room s m ([.ref (b + p0), .int p1, .int p2] : List Value).toArray below meth c H locs 0 0 (MQ below (zQi D cy b rr) ([.ref (b + p0), .int p1, .int p2] : List Value).toArray s 0 0 (zA b)) (F0 m 23 ls []) := by
    intro n23
    induction n23 with
    | zero =>
      intro M H locs ls h0 x1 x2 x4 hf
      have hf : (none : Option (Int32 × Mem)) = some rr := hf
      cases hf
    | succ n23 ih23 =>
      have J62 : ∀ (M : Mem) (H : Heap) (locs : List Loc) (ls : Array Slot) (h0 : Nat) (x1 : Int32) (x2 : Int32) (x4 : Int32), fX9_previous_62 (fX9_previous_23L  n23) M h0 x1 x2 x4 = some rr → zH D cy b M H → va_S (zA b) s.heap H locs → lv_has ls 5 [(0, .ref (b + h0)), (1, .int x1), (2, .int x2), (4, .int x4)] → W p l e (headSpec wsX9_previous ({ frames := 3, cells := 0, slots := 0, locals := 65 } : Room)).room s m ([.ref (b + p0), .int p1, .int p2] : List Value).toArray below meth c H locs 0 0 (MQ below (zQi D cy b rr) ([.ref (b + p0), .int p1, .int p2] : List Value).toArray s 0 0 (zA b)) (F0 m 62 ls []) := by
        intro M H locs ls h0 x1 x2 x4 hf hP hS hl
        unfold fX9_previous_62 at hf
        obtain ⟨x4_62, q62, hf⟩ := zlt_s hf
        refine lv_iinc (v := x4_62) (lv' := [(4, .int x4_62), (0, .ref (b + h0)), (1, .int x1), (2, .int x2)]) hx hb dX9_previous_62 hl (k := 3) rfl (by rw [← q62]; rfl) (by decide) rfl (fun ls hl => ?_)
        refine lv_goto (tgt := 23) hx hb dX9_previous_65 (by decide) ?_
        exact ih23 _ _ _ _ _ _ _ _ hf hP hS (lv_sub hl [1, 2, 3, 0] rfl)
      intro M H locs ls h0 x1 x2 x4 hf hP hS hl
      have hf : fX9_previous_23  (fX9_previous_23L  n23) M h0 x1 x2 x4 = some rr := hf
      unfold fX9_previous_23 at hf
      refine lv_iload hx hb dX9_previous_23 (lv_at hl 3 rfl) ?_
      refine lv_if_lt (tgt := 68) hx hb dX9_previous_25 (by decide) (fun c25 => ?_) (fun c25 => ?_)
      · have hf := (if_pos c25).symm.trans hf
        refine lv_bipush (v := (-5 : Int32)) hx hb dX9_previous_68 (by decide) ?_
        exact zret_i hx hb hr hlocks hf hP hS dX9_previous_70
      · have hf := (if_neg c25).symm.trans hf
        refine lv_aload_n hx hb dX9_previous_28 rfl (lv_at hl 0 rfl) ?_
        refine lv_iload_n hx hb dX9_previous_29 rfl (lv_at hl 1 rfl) ?_
        refine lv_iload hx hb dX9_previous_30 (lv_at hl 3 rfl) ?_
        obtain ⟨u32, t32, hf⟩ := zb hf
        obtain ⟨r32, e32, hf⟩ := zb hf
        refine zc_i hS (va_runV (As := [.int x1, .int x4]) (rest := []) ⟨hx, hb, hml, hown, hts⟩ (k_X9_raw l D cy b M h0 x1 x4 r32 e32) (cwV 2 hts gX9_previous_X9_raw rfl rfl rfl (by decide +kernel) ⟨Nat.le_of_ble_eq_true rfl, Nat.le_of_ble_eq_true rfl⟩) (zp_V _ hK hP t32 (T := TX9) (N := 54) rfl (by decide)) rfl rfl hl.1 rfl (lv_room (Nat.le_of_ble_eq_true rfl)) dX9_previous_32 ⟨Nat.zero_le _, Nat.zero_le _⟩) (fun H locs hP hS => ?_)
        refine lv_iload_n hx hb dX9_previous_35 rfl (lv_at hl 2 rfl) ?_
        refine lv_icmp_ge (tgt := 62) hx hb dX9_previous_36 (by decide) (fun c36 => ?_) (fun c36 => ?_)
        · have hf := (if_pos c36).symm.trans hf
          exact J62 _ _ _ _ _ _ _ _ hf hP hS (lv_sub hl [0, 1, 2, 3] rfl)
        · have hf := (if_neg c36).symm.trans hf
          refine lv_aload_n hx hb dX9_previous_39 rfl (lv_at hl 0 rfl) ?_
          refine lv_iload_n hx hb dX9_previous_40 rfl (lv_at hl 1 rfl) ?_
          refine lv_aload_n hx hb dX9_previous_41 rfl (lv_at hl 0 rfl) ?_
          refine lv_iload_n hx hb dX9_previous_42 rfl (lv_at hl 1 rfl) ?_
          refine lv_iload hx hb dX9_previous_43 (lv_at hl 3 rfl) ?_
          obtain ⟨u45, t45, hf⟩ := zb hf
          obtain ⟨r45, e45, hf⟩ := zb hf
          refine zc_i hS (va_runV (As := [.int x1, .int x4]) (rest := [.int x1, .ref (b + h0)]) ⟨hx, hb, hml, hown, hts⟩ (k_X9_raw l D cy b r32.2 h0 x1 x4 r45 e45) (cwV 2 hts gX9_previous_X9_raw rfl rfl rfl (by decide +kernel) ⟨Nat.le_of_ble_eq_true rfl, Nat.le_of_ble_eq_true rfl⟩) (zp_V _ hK hP t45 (T := TX9) (N := 54) rfl (by decide)) rfl rfl hl.1 rfl (lv_room (Nat.le_of_ble_eq_true rfl)) dX9_previous_45 ⟨Nat.zero_le _, Nat.zero_le _⟩) (fun H locs hP hS => ?_)
          obtain ⟨u48, t48, hf⟩ := zb hf
          obtain ⟨r48, e48, hf⟩ := zb hf
          refine zc_i hS (va_runV (As := [.int x1, .int r45.1]) (rest := []) ⟨hx, hb, hml, hown, hts⟩ (k_X9_isSuppressed l D cy b r45.2 h0 x1 r45.1 r48 e48) (cwV 2 hts gX9_previous_X9_isSuppressed rfl rfl rfl (by decide +kernel) ⟨Nat.le_of_ble_eq_true rfl, Nat.le_of_ble_eq_true rfl⟩) (zp_V _ hK hP t48 (T := TX9) (N := 54) rfl (by decide)) rfl rfl hl.1 rfl (lv_room (Nat.le_of_ble_eq_true rfl)) dX9_previous_48 ⟨Nat.zero_le _, Nat.zero_le _⟩) (fun H locs hP hS => ?_)
          refine lv_if_ne (tgt := 62) hx hb dX9_previous_51 (by decide) (fun c51 => ?_) (fun c51 => ?_)
          · have hf := (if_neg c51).symm.trans hf
            exact J62 _ _ _ _ _ _ _ _ hf hP hS (lv_sub hl [0, 1, 2, 3] rfl)
          · have hf := (if_pos c51).symm.trans hf
            refine lv_aload_n hx hb dX9_previous_54 rfl (lv_at hl 0 rfl) ?_
            refine lv_iload_n hx hb dX9_previous_55 rfl (lv_at hl 1 rfl) ?_
            refine lv_iload hx hb dX9_previous_56 (lv_at hl 3 rfl) ?_
            obtain ⟨u58, t58, hf⟩ := zb hf
            obtain ⟨r58, e58, hf⟩ := zb hf
            refine zc_i hS (va_runV (As := [.int x1, .int x4]) (rest := []) ⟨hx, hb, hml, hown, hts⟩ (k_X9_raw l D cy b r48.2 h0 x1 x4 r58 e58) (cwV 2 hts gX9_previous_X9_raw rfl rfl rfl (by decide +kernel) ⟨Nat.le_of_ble_eq_true rfl, Nat.le_of_ble_eq_true rfl⟩) (zp_V _ hK hP t58 (T := TX9) (N := 54) rfl (by decide)) rfl rfl hl.1 rfl (lv_room (Nat.le_of_ble_eq_true rfl)) dX9_previous_58 ⟨Nat.zero_le _, Nat.zero_le _⟩) (fun H locs hP hS => ?_)
            exact zret_i hx hb hr hlocks hf hP hS dX9_previous_61
  unfold fX9_previous at hf
  refine lv_aload_n hx hb dX9_previous_0 rfl (lv_at hl 0 rfl) ?_
  refine lv_iload_n hx hb dX9_previous_1 rfl (lv_at hl 1 rfl) ?_
  refine lv_iload_n hx hb dX9_previous_2 rfl (lv_at hl 2 rfl) ?_
  obtain ⟨u3, t3, hf⟩ := zb hf
  obtain ⟨r3, e3, hf⟩ := zb hf
  refine zc_i hS (va_runV (As := [.int p1, .int p2]) (rest := []) ⟨hx, hb, hml, hown, hts⟩ (k_X9_barred l D cy b M0 p0 p1 p2 r3 e3) (cwV 2 hts gX9_previous_X9_barred rfl rfl rfl (by decide +kernel) ⟨Nat.le_of_ble_eq_true rfl, Nat.le_of_ble_eq_true rfl⟩) (zp_V _ hK hP t3 (T := TX9) (N := 54) rfl (by decide)) rfl rfl hl.1 rfl (lv_room (Nat.le_of_ble_eq_true rfl)) dX9_previous_3 ⟨Nat.zero_le _, Nat.zero_le _⟩) (fun H locs hP hS => ?_)
  refine lv_istore_n (lv' := [(3, .int r3.1), (0, .ref (b + p0)), (1, .int p1), (2, .int p2)]) hx hb dX9_previous_6 rfl hl (by decide) rfl (fun ls hl => ?_)
  refine lv_iload_n hx hb dX9_previous_7 rfl (lv_at hl 0 rfl) ?_
  refine lv_if_ge (tgt := 13) hx hb dX9_previous_8 (by decide) (fun c8 => ?_) (fun c8 => ?_)
  · have hf := (if_pos c8).symm.trans hf
    refine lv_aload_n hx hb dX9_previous_13 rfl (lv_at hl 1 rfl) ?_
    obtain ⟨v14, e14, hf⟩ := zb hf
    refine zr_gr (ci := 9) (k := 33) (C := RX9) (T := TX9) (N := 54) hx hb hts hi_X9_previous_9 hown hK hP e14 rfl rfl (by decide) (by decide) (hts (.fieldLink RX9 81 "BoundaryAnalyzerModel" "rawMany" "[I") (List.mem_of_getElem? (i := 1) rfl)) dX9_previous_14 ?_
    refine lv_iload_n hx hb dX9_previous_17 rfl (lv_at hl 2 rfl) ?_
    obtain ⟨v18, e18, hf⟩ := zb hf
    refine zr_ai hx hb hK hP e18 dX9_previous_18 ?_
    refine lv_iconst (v := (1 : Int32)) hx hb dX9_previous_19 (by decide) ?_
    refine lv_isub hx hb dX9_previous_20 ?_
    obtain ⟨x4_21, q21, hf⟩ := zlt_s hf
    refine zt q21 ?_
    refine lv_istore (lv' := [(4, .int x4_21), (3, .int r3.1), (0, .ref (b + p0)), (1, .int p1), (2, .int p2)]) hx hb dX9_previous_21 hl (by decide) rfl (fun ls hl => ?_)
    exact L23 _ _ _ _ _ _ _ _ _ hf hP hS (lv_sub hl [2, 3, 4, 0] rfl)
  · have hf := (if_neg c8).symm.trans hf
    refine lv_iload_n hx hb dX9_previous_11 rfl (lv_at hl 0 rfl) ?_
    exact zret_i hx hb hr hlocks hf hP hS dX9_previous_12
theorem hi_X9_layBoundaries_9 : ∀ w ∈ wsX90, w ∈ wsX9_layBoundaries := fun _ h => List.mem_cons_of_mem _ (List.mem_append_right _ h)
set_option maxHeartbeats 4000000 in
set_option maxRecDepth 100000 in
theorem k_X9_layBoundaries (l : Launch) (D : va_G) (cy : Nat → ClassId) (b : Nat) (M0 : Mem) (p0 : Nat) (p1 : Int32) (rr : Mem) (hf : fX9_layBoundaries M0 p0 p1 = some rr) : Met l yX9_layBoundaries wsX9_layBoundaries ({ frames := 2, cells := 0, slots := 0, locals := 50 } : Room) (zPc D cy b M0 [.ref (b + p0), .int p1]) (zQv D cy b rr) 0 0 (zA b) := by
  refine Met.ofW (cc := cX9_layBoundaries) (maxL := 3) (ret := none) (by decide) rfl ?_
  intro p e s m args below meth c s₁ B hml hv
  obtain ⟨rfl, hP, hK⟩ := hv
  have hx := B.exec
  have hb := B.bytes
  have hr := B.returns
  have hts := atoms_spec (ws := wsX9_layBoundaries) B.pre
  have hown : s.vm.findClass RX9 = some m.cls := findClass_of_methodNamed B.named
  have hlocks := B.notSynchronized
  have hS : va_S (zA b) s.heap s.heap [] := va_S.rf
  have hl := lv_entry ([.ref (b + p0), .int p1]) (n := 3) (Nat.le_of_ble_eq_true rfl)
  rw [lg_entry_eq]
  generalize (lg_sl ([.ref (b + p0), .int p1]) ++ List.replicate (3 - (lg_sl ([.ref (b + p0), .int p1])).length) Slot.unset).toArray = ls at hl ⊢
  have hl : lv_has ls 3 [(0, .ref (b + p0)), (1, .int p1)] := hl
  have L7 : ∀ (n7 : Nat) (M : Mem) (H : Heap) (locs : List Loc) (ls : Array Slot) (h0 : Nat) (x1 : Int32) (x2 : Int32), fX9_layBoundaries_7L  n7 M h0 x1 x2 = some rr → zH D cy b M H → va_S (zA b) s.heap H locs → lv_has ls 3 [(0, .ref (b + h0)), (1, .int x1), (2, .int x2)] → W p l e (headSpec wsX9_layBoundaries ({ frames := 2, cells := 0, slots := 0, locals := 50 } : Room)).room s m ([.ref (b + p0), .int p1] : List Value).toArray below meth c H locs 0 0 (MQ below (zQv D cy b rr) ([.ref (b + p0), .int p1] : List Value).toArray s 0 0 (zA b)) (F0 m 7 ls []) := by
    intro n7
    induction n7 with
    | zero =>
      intro M H locs ls h0 x1 x2 hf
      have hf : (none : Option Mem) = some rr := hf
      cases hf
    | succ n7 ih7 =>
      have J56 : ∀ (M : Mem) (H : Heap) (locs : List Loc) (ls : Array Slot) (h0 : Nat) (x1 : Int32) (x2 : Int32), fX9_layBoundaries_56 (fX9_layBoundaries_7L  n7) M h0 x1 x2 = some rr → zH D cy b M H → va_S (zA b) s.heap H locs → lv_has ls 3 [(0, .ref (b + h0)), (1, .int x1), (2, .int x2)] → W p l e (headSpec wsX9_layBoundaries ({ frames := 2, cells := 0, slots := 0, locals := 50 } : Room)).room s m ([.ref (b + p0), .int p1] : List Value).toArray below meth c H locs 0 0 (MQ below (zQv D cy b rr) ([.ref (b + p0), .int p1] : List Value).toArray s 0 0 (zA b)) (F0 m 56 ls []) := by
        intro M H locs ls h0 x1 x2 hf hP hS hl
        unfold fX9_layBoundaries_56 at hf
        obtain ⟨x2_56, q56, hf⟩ := zlt_s hf
        refine lv_iinc (v := x2_56) (lv' := [(2, .int x2_56), (0, .ref (b + h0)), (1, .int x1)]) hx hb dX9_layBoundaries_56 hl (k := 2) rfl (by rw [← q56]; rfl) (by decide) rfl (fun ls hl => ?_)
        refine lv_goto (tgt := 7) hx hb dX9_layBoundaries_59 (by decide) ?_
        exact ih7 _ _ _ _ _ _ _ hf hP hS (lv_sub hl [1, 2, 0] rfl)
      intro M H locs ls h0 x1 x2 hf hP hS hl
      have hf : fX9_layBoundaries_7  (fX9_layBoundaries_7L  n7) M h0 x1 x2 = some rr := hf
      unfold fX9_layBoundaries_7 at hf
      refine lv_iload_n hx hb dX9_layBoundaries_7 rfl (lv_at hl 2 rfl) ?_
      refine lv_aload_n hx hb dX9_layBoundaries_8 rfl (lv_at hl 0 rfl) ?_
      obtain ⟨v9, e9, hf⟩ := zb hf
      refine zr_gr (ci := 9) (k := 33) (C := RX9) (T := TX9) (N := 54) hx hb hts hi_X9_layBoundaries_9 hown hK hP e9 rfl rfl (by decide) (by decide) (hts (.fieldLink RX9 81 "BoundaryAnalyzerModel" "rawMany" "[I") (List.mem_of_getElem? (i := 2) rfl)) dX9_layBoundaries_9 ?_
      refine lv_iload_n hx hb dX9_layBoundaries_12 rfl (lv_at hl 1 rfl) ?_
      obtain ⟨v13, e13, hf⟩ := zb hf
      refine zr_ai hx hb hK hP e13 dX9_layBoundaries_13 ?_
      refine lv_icmp_ge (tgt := 62) hx hb dX9_layBoundaries_14 (by decide) (fun c14 => ?_) (fun c14 => ?_)
      · have hf := (if_pos c14).symm.trans hf
        exact zret_v hx hb hr hlocks hf hP hS dX9_layBoundaries_62
      · have hf := (if_neg c14).symm.trans hf
        refine lv_aload_n hx hb dX9_layBoundaries_17 rfl (lv_at hl 0 rfl) ?_
        refine lv_iload_n hx hb dX9_layBoundaries_18 rfl (lv_at hl 1 rfl) ?_
        refine lv_aload_n hx hb dX9_layBoundaries_19 rfl (lv_at hl 0 rfl) ?_
        refine lv_iload_n hx hb dX9_layBoundaries_20 rfl (lv_at hl 1 rfl) ?_
        refine lv_iload_n hx hb dX9_layBoundaries_21 rfl (lv_at hl 2 rfl) ?_
        obtain ⟨u22, t22, hf⟩ := zb hf
        obtain ⟨r22, e22, hf⟩ := zb hf
        refine zc_i hS (va_runV (As := [.int x1, .int x2]) (rest := [.int x1, .ref (b + h0)]) ⟨hx, hb, hml, hown, hts⟩ (k_X9_raw l D cy b M h0 x1 x2 r22 e22) (cwV 2 hts gX9_layBoundaries_X9_raw rfl rfl rfl (by decide +kernel) ⟨Nat.le_of_ble_eq_true rfl, Nat.le_of_ble_eq_true rfl⟩) (zp_V _ hK hP t22 (T := TX9) (N := 54) rfl (by decide)) rfl rfl hl.1 rfl (lv_room (Nat.le_of_ble_eq_true rfl)) dX9_layBoundaries_22 ⟨Nat.zero_le _, Nat.zero_le _⟩) (fun H locs hP hS => ?_)
        obtain ⟨u25, t25, hf⟩ := zb hf
        obtain ⟨r25, e25, hf⟩ := zb hf
        refine zc_i hS (va_runV (As := [.int x1, .int r22.1]) (rest := []) ⟨hx, hb, hml, hown, hts⟩ (k_X9_isSuppressed l D cy b r22.2 h0 x1 r22.1 r25 e25) (cwV 2 hts gX9_layBoundaries_X9_isSuppressed rfl rfl rfl (by decide +kernel) ⟨Nat.le_of_ble_eq_true rfl, Nat.le_of_ble_eq_true rfl⟩) (zp_V _ hK hP t25 (T := TX9) (N := 54) rfl (by decide)) rfl rfl hl.1 rfl (lv_room (Nat.le_of_ble_eq_true rfl)) dX9_layBoundaries_25 ⟨Nat.zero_le _, Nat.zero_le _⟩) (fun H locs hP hS => ?_)
        refine lv_if_ne (tgt := 56) hx hb dX9_layBoundaries_28 (by decide) (fun c28 => ?_) (fun c28 => ?_)
        · have hf := (if_neg c28).symm.trans hf
          exact J56 _ _ _ _ _ _ _ hf hP hS (lv_sub hl [0, 1, 2] rfl)
        · have hf := (if_pos c28).symm.trans hf
          refine lv_aload_n hx hb dX9_layBoundaries_31 rfl (lv_at hl 0 rfl) ?_
          obtain ⟨v32, e32, hf⟩ := zb hf
          refine zr_gr (ci := 9) (k := 53) (C := RX9) (T := TX9) (N := 54) hx hb hts hi_X9_layBoundaries_9 hown hK hP e32 rfl rfl (by decide) (by decide) (hts (.fieldLink RX9 129 "BoundaryAnalyzerModel" "boundary" "[I") (List.mem_of_getElem? (i := 3) rfl)) dX9_layBoundaries_32 ?_
          refine lv_aload_n hx hb dX9_layBoundaries_35 rfl (lv_at hl 0 rfl) ?_
          obtain ⟨v36, e36, hf⟩ := zb hf
          refine zr_gi (ci := 9) (k := 52) (C := RX9) (T := TX9) (N := 54) hx hb hts hi_X9_layBoundaries_9 hown hK hP e36 rfl rfl (by decide) (by decide) (hts (.fieldLink RX9 294 "BoundaryAnalyzerModel" "boundaries" "I") (List.mem_of_getElem? (i := 1) rfl)) dX9_layBoundaries_36 ?_
          refine lv_aload_n hx hb dX9_layBoundaries_39 rfl (lv_at hl 0 rfl) ?_
          refine lv_iload_n hx hb dX9_layBoundaries_40 rfl (lv_at hl 1 rfl) ?_
          refine lv_iload_n hx hb dX9_layBoundaries_41 rfl (lv_at hl 2 rfl) ?_
          obtain ⟨u42, t42, hf⟩ := zb hf
          obtain ⟨r42, e42, hf⟩ := zb hf
          refine zc_i hS (va_runV (As := [.int x1, .int x2]) (rest := [.int v36, .ref (b + v32)]) ⟨hx, hb, hml, hown, hts⟩ (k_X9_raw l D cy b r25.2 h0 x1 x2 r42 e42) (cwV 2 hts gX9_layBoundaries_X9_raw rfl rfl rfl (by decide +kernel) ⟨Nat.le_of_ble_eq_true rfl, Nat.le_of_ble_eq_true rfl⟩) (zp_V _ hK hP t42 (T := TX9) (N := 54) rfl (by decide)) rfl rfl hl.1 rfl (lv_room (Nat.le_of_ble_eq_true rfl)) dX9_layBoundaries_42 ⟨Nat.zero_le _, Nat.zero_le _⟩) (fun H locs hP hS => ?_)
          obtain ⟨M45, e45, hf⟩ := zb hf
          refine zr_si hx hb hK hP hS e45 dX9_layBoundaries_45 (fun H locs hP _ hS => ?_)
          refine lv_aload_n hx hb dX9_layBoundaries_46 rfl (lv_at hl 0 rfl) ?_
          refine lv_dup hx hb dX9_layBoundaries_47 rfl ?_
          obtain ⟨v48, e48, hf⟩ := zb hf
          refine zr_gi (ci := 9) (k := 52) (C := RX9) (T := TX9) (N := 54) hx hb hts hi_X9_layBoundaries_9 hown hK hP e48 rfl rfl (by decide) (by decide) (hts (.fieldLink RX9 294 "BoundaryAnalyzerModel" "boundaries" "I") (List.mem_of_getElem? (i := 1) rfl)) dX9_layBoundaries_48 ?_
          refine lv_iconst (v := (1 : Int32)) hx hb dX9_layBoundaries_51 (by decide) ?_
          refine lv_iadd hx hb dX9_layBoundaries_52 ?_
          obtain ⟨M53, e53, hf⟩ := zb hf
          refine zr_pi (ci := 9) (k := 52) (C := RX9) (T := TX9) (N := 54) hx hb hts hi_X9_layBoundaries_9 tyX9 tyX9_ok nmX9 hown hK hP hS e53 rfl rfl (by decide) (by decide) (hts (.fieldLink RX9 294 "BoundaryAnalyzerModel" "boundaries" "I") (List.mem_of_getElem? (i := 1) rfl)) rfl (tyX9_ok 52 (by decide)) dX9_layBoundaries_53 (fun H locs hP _ hS => ?_)
          exact J56 _ _ _ _ _ _ _ hf hP hS (lv_sub hl [0, 1, 2] rfl)
  unfold fX9_layBoundaries at hf
  refine lv_aload_n hx hb dX9_layBoundaries_0 rfl (lv_at hl 0 rfl) ?_
  refine lv_iconst (v := (0 : Int32)) hx hb dX9_layBoundaries_1 (by decide) ?_
  obtain ⟨M2, e2, hf⟩ := zb hf
  refine zr_pi (ci := 9) (k := 52) (C := RX9) (T := TX9) (N := 54) hx hb hts hi_X9_layBoundaries_9 tyX9 tyX9_ok nmX9 hown hK hP hS e2 rfl rfl (by decide) (by decide) (hts (.fieldLink RX9 294 "BoundaryAnalyzerModel" "boundaries" "I") (List.mem_of_getElem? (i := 1) rfl)) rfl (tyX9_ok 52 (by decide)) dX9_layBoundaries_2 (fun H locs hP _ hS => ?_)
  refine lv_iconst (v := (0 : Int32)) hx hb dX9_layBoundaries_5 (by decide) ?_
  refine lv_istore_n (lv' := [(2, .int (0 : Int32)), (0, .ref (b + p0)), (1, .int p1)]) hx hb dX9_layBoundaries_6 rfl hl (by decide) rfl (fun ls hl => ?_)
  exact L7 _ _ _ _ _ _ _ _ hf hP hS (lv_sub hl [1, 2, 0] rfl)
