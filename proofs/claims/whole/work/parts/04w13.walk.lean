theorem hi_X9_analyse_9 : ∀ w ∈ wsX90, w ∈ wsX9_analyse := fun _ h => List.mem_cons_of_mem _ (List.mem_append_right _ h)
set_option maxHeartbeats 4000000 in
set_option maxRecDepth 100000 in
theorem k_X9_analyse (l : Launch) (D : va_G) (cy : Nat → ClassId) (b : Nat) (M0 : Mem) (h0 : Nat) (x1 : Int32) (rr : Mem) (hf : fX9_analyse M0 h0 x1 = some rr) : Met l yX9_analyse wsX9_analyse ({ frames := 4, cells := 0, slots := 0, locals := 104 } : Room) (zPc D cy b M0 [.ref (b + h0), .int x1]) (zQv D cy b rr) 0 0 (zA b) := by
  refine Met.ofW (cc := cX9_analyse) (maxL := 3) (ret := none) (by decide) rfl ?_
  intro p e s m args below meth c s₁ B hml hv
  obtain ⟨rfl, hP, hK⟩ := hv
  have hx := B.exec
  have hb := B.bytes
  have hr := B.returns
  have hts := atoms_spec (ws := wsX9_analyse) B.pre
  have hown : s.vm.findClass RX9 = some m.cls := findClass_of_methodNamed B.named
  have hlocks := B.notSynchronized
  have hS : va_S (zA b) s.heap s.heap [] := va_S.rf
  have hl := lv_entry ([.ref (b + h0), .int x1]) (n := 3) (Nat.le_of_ble_eq_true rfl)
  rw [lg_entry_eq]
  generalize (lg_sl ([.ref (b + h0), .int x1]) ++ List.replicate (3 - (lg_sl ([.ref (b + h0), .int x1])).length) Slot.unset).toArray = ls at hl ⊢
  have hl : lv_has ls 3 [(0, .ref (b + h0)), (1, .int x1)] := hl
  have L22 : ∀ (n22 : Nat) (M : Mem) (H : Heap) (locs : List Loc) (ls : Array Slot) (h0 : Nat) (x1 : Int32) (x2 : Int32), fX9_analyse_22L  n22 M h0 x1 x2 = some rr → zH D cy b M H → va_S (zA b) s.heap H locs → lv_has ls 3 [(0, .ref (b + h0)), (1, .int x1), (2, .int x2)] → W p l e (headSpec wsX9_analyse ({ frames := 4, cells := 0, slots := 0, locals := 104 } : Room)).room s m ([.ref (b + h0), .int x1] : List Value).toArray below meth c H locs 0 0 (MQ below (zQv D cy b rr) ([.ref (b + h0), .int x1] : List Value).toArray s 0 0 (zA b)) (F0 m 22 ls []) := by
    intro n22
    induction n22 with
    | zero =>
      intro M H locs ls h0 x1 x2 hf
      have hf : (none : Option Mem) = some rr := hf
      cases hf
    | succ n22 ih22 =>
      intro M H locs ls h0 x1 x2 hf hP hS hl
      have hf : fX9_analyse_22  (fX9_analyse_22L  n22) M h0 x1 x2 = some rr := hf
      unfold fX9_analyse_22 at hf
      refine lv_iload_n hx hb dX9_analyse_22 rfl (lv_at hl 2 rfl) ?_
      refine lv_aload_n hx hb dX9_analyse_23 rfl (lv_at hl 0 rfl) ?_
      obtain ⟨v24, e24, hf⟩ := zb hf
      refine zr_gi (ci := 9) (k := 31) (C := RX9) (T := TX9) (N := 54) hx hb hts hi_X9_analyse_9 hown hK hP e24 rfl rfl (by decide) (by decide) (hts (.fieldLink RX9 207 "BoundaryAnalyzerModel" "length" "I") (List.mem_of_getElem? (i := 3) rfl)) dX9_analyse_24 ?_
      refine lv_icmp_ge (tgt := 58) hx hb dX9_analyse_27 (by decide) (fun c27 => ?_) (fun c27 => ?_)
      · have hf := (if_pos c27).symm.trans hf
        exact zret_v hx hb hr hlocks hf hP hS dX9_analyse_58
      · have hf := (if_neg c27).symm.trans hf
        refine lv_iload_n hx hb dX9_analyse_30 rfl (lv_at hl 2 rfl) ?_
        refine lv_aload_n hx hb dX9_analyse_31 rfl (lv_at hl 0 rfl) ?_
        refine lv_iload_n hx hb dX9_analyse_32 rfl (lv_at hl 1 rfl) ?_
        refine lv_iload_n hx hb dX9_analyse_33 rfl (lv_at hl 2 rfl) ?_
        obtain ⟨u34, t34, hf⟩ := zb hf
        obtain ⟨r34, e34, hf⟩ := zb hf
        refine zc_i hS (va_runV (As := [.int x1, .int x2]) (rest := [.int x2]) ⟨hx, hb, hml, hown, hts⟩ (k_X9_segmentAt l D cy b M h0 x1 x2 r34 e34) (cwV 2 hts gX9_analyse_X9_segmentAt rfl rfl rfl (by decide +kernel) ⟨Nat.le_of_ble_eq_true rfl, Nat.le_of_ble_eq_true rfl⟩) (zp_V _ hK hP t34 (T := TX9) (N := 54) rfl (by decide)) rfl rfl hl.1 rfl (lv_room (Nat.le_of_ble_eq_true rfl)) dX9_analyse_34 ⟨Nat.zero_le _, Nat.zero_le _⟩) (fun H locs hP hS => ?_)
        refine lv_iadd hx hb dX9_analyse_37 ?_
        obtain ⟨x2_38, q38, hf⟩ := zlt_s hf
        refine zt q38 ?_
        refine lv_istore_n (lv' := [(2, .int x2_38), (0, .ref (b + h0)), (1, .int x1)]) hx hb dX9_analyse_38 rfl hl (by decide) rfl (fun ls hl => ?_)
        refine lv_aload_n hx hb dX9_analyse_39 rfl (lv_at hl 1 rfl) ?_
        refine lv_iload_n hx hb dX9_analyse_40 rfl (lv_at hl 2 rfl) ?_
        refine lv_iload_n hx hb dX9_analyse_41 rfl (lv_at hl 0 rfl) ?_
        obtain ⟨u42, t42, hf⟩ := zb hf
        obtain ⟨M42, e42, hf⟩ := zb hf
        refine zc_v hS (va_runV (As := [.int x1, .int x2_38]) (rest := []) ⟨hx, hb, hml, hown, hts⟩ (k_X9_append l D cy b r34.2 h0 x1 x2_38 M42 e42) (cwV 2 hts gX9_analyse_X9_append rfl rfl rfl (by decide +kernel) ⟨Nat.le_of_ble_eq_true rfl, Nat.le_of_ble_eq_true rfl⟩) (zp_V _ hK hP t42 (T := TX9) (N := 54) rfl (by decide)) rfl rfl hl.1 rfl (lv_room (Nat.le_of_ble_eq_true rfl)) dX9_analyse_42 ⟨Nat.zero_le _, Nat.zero_le _⟩) (fun H locs hP hS => ?_)
        refine lv_aload_n hx hb dX9_analyse_45 rfl (lv_at hl 1 rfl) ?_
        obtain ⟨v46, e46, hf⟩ := zb hf
        refine zr_gr (ci := 9) (k := 35) (C := RX9) (T := TX9) (N := 54) hx hb hts hi_X9_analyse_9 hown hK hP e46 rfl rfl (by decide) (by decide) (hts (.fieldLink RX9 87 "BoundaryAnalyzerModel" "workOf" "[I") (List.mem_of_getElem? (i := 2) rfl)) dX9_analyse_46 ?_
        refine lv_iload_n hx hb dX9_analyse_49 rfl (lv_at hl 2 rfl) ?_
        refine lv_dup2_11 hx hb dX9_analyse_50 rfl rfl ?_
        obtain ⟨v51, e51, hf⟩ := zb hf
        refine zr_ai hx hb hK hP e51 dX9_analyse_51 ?_
        refine lv_iconst (v := (1 : Int32)) hx hb dX9_analyse_52 (by decide) ?_
        refine lv_iadd hx hb dX9_analyse_53 ?_
        obtain ⟨M54, e54, hf⟩ := zb hf
        refine zr_si hx hb hK hP hS e54 dX9_analyse_54 (fun H locs hP _ hS => ?_)
        refine lv_goto (tgt := 22) hx hb dX9_analyse_55 (by decide) ?_
        exact ih22 _ _ _ _ _ _ _ hf hP hS (lv_sub hl [1, 2, 0] rfl)
  unfold fX9_analyse at hf
  refine lv_aload_n hx hb dX9_analyse_0 rfl (lv_at hl 0 rfl) ?_
  obtain ⟨v1, e1, hf⟩ := zb hf
  refine zr_gr (ci := 9) (k := 33) (C := RX9) (T := TX9) (N := 54) hx hb hts hi_X9_analyse_9 hown hK hP e1 rfl rfl (by decide) (by decide) (hts (.fieldLink RX9 81 "BoundaryAnalyzerModel" "rawMany" "[I") (List.mem_of_getElem? (i := 1) rfl)) dX9_analyse_1 ?_
  refine lv_iload_n hx hb dX9_analyse_4 rfl (lv_at hl 1 rfl) ?_
  refine lv_iconst (v := (0 : Int32)) hx hb dX9_analyse_5 (by decide) ?_
  obtain ⟨M6, e6, hf⟩ := zb hf
  refine zr_si hx hb hK hP hS e6 dX9_analyse_6 (fun H locs hP _ hS => ?_)
  refine lv_aload_n hx hb dX9_analyse_7 rfl (lv_at hl 0 rfl) ?_
  refine lv_iload_n hx hb dX9_analyse_8 rfl (lv_at hl 1 rfl) ?_
  refine lv_iconst (v := (0 : Int32)) hx hb dX9_analyse_9 (by decide) ?_
  obtain ⟨u10, t10, hf⟩ := zb hf
  obtain ⟨M10, e10, hf⟩ := zb hf
  refine zc_v hS (va_runV (As := [.int x1, .int (0 : Int32)]) (rest := []) ⟨hx, hb, hml, hown, hts⟩ (k_X9_append l D cy b M6 h0 x1 (0 : Int32) M10 e10) (cwV 2 hts gX9_analyse_X9_append rfl rfl rfl (by decide +kernel) ⟨Nat.le_of_ble_eq_true rfl, Nat.le_of_ble_eq_true rfl⟩) (zp_V _ hK hP t10 (T := TX9) (N := 54) rfl (by decide)) rfl rfl hl.1 rfl (lv_room (Nat.le_of_ble_eq_true rfl)) dX9_analyse_10 ⟨Nat.zero_le _, Nat.zero_le _⟩) (fun H locs hP hS => ?_)
  refine lv_aload_n hx hb dX9_analyse_13 rfl (lv_at hl 0 rfl) ?_
  obtain ⟨v14, e14, hf⟩ := zb hf
  refine zr_gr (ci := 9) (k := 35) (C := RX9) (T := TX9) (N := 54) hx hb hts hi_X9_analyse_9 hown hK hP e14 rfl rfl (by decide) (by decide) (hts (.fieldLink RX9 87 "BoundaryAnalyzerModel" "workOf" "[I") (List.mem_of_getElem? (i := 2) rfl)) dX9_analyse_14 ?_
  refine lv_iload_n hx hb dX9_analyse_17 rfl (lv_at hl 1 rfl) ?_
  refine lv_iconst (v := (0 : Int32)) hx hb dX9_analyse_18 (by decide) ?_
  obtain ⟨M19, e19, hf⟩ := zb hf
  refine zr_si hx hb hK hP hS e19 dX9_analyse_19 (fun H locs hP _ hS => ?_)
  refine lv_iconst (v := (0 : Int32)) hx hb dX9_analyse_20 (by decide) ?_
  refine lv_istore_n (lv' := [(2, .int (0 : Int32)), (0, .ref (b + h0)), (1, .int x1)]) hx hb dX9_analyse_21 rfl hl (by decide) rfl (fun ls hl => ?_)
  exact L22 _ _ _ _ _ _ _ _ hf hP hS (lv_sub hl [1, 2, 0] rfl)
theorem hi_X9_setClass_9 : ∀ w ∈ wsX90, w ∈ wsX9_setClass := fun _ h => List.mem_cons_of_mem _ (List.mem_append_right _ h)
set_option maxHeartbeats 4000000 in
set_option maxRecDepth 100000 in
theorem k_X9_setClass (l : Launch) (D : va_G) (cy : Nat → ClassId) (b : Nat) (M0 : Mem) (h0 : Nat) (x1 : Int32) (x2 : Int32) (rr : Int32 × Mem) (hf : fX9_setClass M0 h0 x1 x2 = some rr) : Met l yX9_setClass wsX9_setClass ({ frames := 5, cells := 0, slots := 0, locals := 126 } : Room) (zPc D cy b M0 [.ref (b + h0), .int x1, .int x2]) (zQi D cy b rr) 0 0 (zA b) := by
  refine Met.ofW (cc := cX9_setClass) (maxL := 5) (ret := (some .int)) (by decide) rfl ?_
  intro p e s m args below meth c s₁ B hml hv
  obtain ⟨rfl, hP, hK⟩ := hv
  have hx := B.exec
  have hb := B.bytes
  have hr := B.returns
  have hts := atoms_spec (ws := wsX9_setClass) B.pre
  have hown : s.vm.findClass RX9 = some m.cls := findClass_of_methodNamed B.named
  have hlocks := B.notSynchronized
  have hS : va_S (zA b) s.heap s.heap [] := va_S.rf
  have hl := lv_entry ([.ref (b + h0), .int x1, .int x2]) (n := 5) (Nat.le_of_ble_eq_true rfl)
  rw [lg_entry_eq]
  generalize (lg_sl ([.ref (b + h0), .int x1, .int x2]) ++ List.replicate (5 - (lg_sl ([.ref (b + h0), .int x1, .int x2])).length) Slot.unset).toArray = ls at hl ⊢
  have hl : lv_has ls 5 [(0, .ref (b + h0)), (1, .int x1), (2, .int x2)] := hl
  have L41 : ∀ (n41 : Nat) (M : Mem) (H : Heap) (locs : List Loc) (ls : Array Slot) (h0 : Nat) (x2 : Int32) (x3 : Int32) (x4 : Int32), fX9_setClass_41L  n41 M h0 x2 x3 x4 = some rr → zH D cy b M H → va_S (zA b) s.heap H locs → lv_has ls 5 [(0, .ref (b + h0)), (2, .int x2), (3, .int x3), (4, .int x4)] → W p l e (headSpec wsX9_setClass ({ frames := 5, cells := 0, slots := 0, locals := 126 } : Room)).room s m ([.ref (b + h0), .int x1, .int x2] : List Value).toArray below meth c H locs 0 0 (MQ below (zQi D cy b rr) ([.ref (b + h0), .int x1, .int x2] : List Value).toArray s 0 0 (zA b)) (F0 m 41 ls []) := by
    intro n41
    induction n41 with
    | zero =>
      intro M H locs ls h0 x2 x3 x4 hf
      have hf : (none : Option (Int32 × Mem)) = some rr := hf
      cases hf
    | succ n41 ih41 =>
      intro M H locs ls h0 x2 x3 x4 hf hP hS hl
      have hf : fX9_setClass_41  (fX9_setClass_41L  n41) M h0 x2 x3 x4 = some rr := hf
      unfold fX9_setClass_41 at hf
      refine lv_iload hx hb dX9_setClass_41 (lv_at hl 3 rfl) ?_
      refine lv_iconst (v := (3 : Int32)) hx hb dX9_setClass_43 (by decide) ?_
      refine lv_icmp_ge (tgt := 64) hx hb dX9_setClass_44 (by decide) (fun c44 => ?_) (fun c44 => ?_)
      · have hf := (if_pos c44).symm.trans hf
        refine lv_iload_n hx hb dX9_setClass_64 rfl (lv_at hl 2 rfl) ?_
        exact zret_i hx hb hr hlocks hf hP hS dX9_setClass_65
      · have hf := (if_neg c44).symm.trans hf
        refine lv_iload_n hx hb dX9_setClass_47 rfl (lv_at hl 2 rfl) ?_
        refine lv_iload_n hx hb dX9_setClass_48 rfl (lv_at hl 1 rfl) ?_
        refine lv_icmp_eq (tgt := 64) hx hb dX9_setClass_49 (by decide) (fun c49 => ?_) (fun c49 => ?_)
        · have hf := (if_pos c49).symm.trans hf
          refine lv_iload_n hx hb dX9_setClass_64 rfl (lv_at hl 2 rfl) ?_
          exact zret_i hx hb hr hlocks hf hP hS dX9_setClass_65
        · have hf := (if_neg c49).symm.trans hf
          refine lv_aload_n hx hb dX9_setClass_52 rfl (lv_at hl 0 rfl) ?_
          refine lv_iload hx hb dX9_setClass_53 (lv_at hl 3 rfl) ?_
          obtain ⟨u55, t55, hf⟩ := zb hf
          obtain ⟨M55, e55, hf⟩ := zb hf
          refine zc_v hS (va_runV (As := [.int x4]) (rest := []) ⟨hx, hb, hml, hown, hts⟩ (k_X9_analyse l D cy b M h0 x4 M55 e55) (cwV 1 hts gX9_setClass_X9_analyse rfl rfl rfl (by decide +kernel) ⟨Nat.le_of_ble_eq_true rfl, Nat.le_of_ble_eq_true rfl⟩) (zp_V _ hK hP t55 (T := TX9) (N := 54) rfl (by decide)) rfl rfl hl.1 rfl (lv_room (Nat.le_of_ble_eq_true rfl)) dX9_setClass_55 ⟨Nat.zero_le _, Nat.zero_le _⟩) (fun H locs hP hS => ?_)
          obtain ⟨x4_58, q58, hf⟩ := zlt_s hf
          refine lv_iinc (v := x4_58) (lv' := [(4, .int x4_58), (0, .ref (b + h0)), (2, .int x2), (3, .int x3)]) hx hb dX9_setClass_58 hl (k := 3) rfl (by rw [← q58]; rfl) (by decide) rfl (fun ls hl => ?_)
          refine lv_goto (tgt := 41) hx hb dX9_setClass_61 (by decide) ?_
          exact ih41 _ _ _ _ _ _ _ _ hf hP hS (lv_sub hl [1, 2, 3, 0] rfl)
  unfold fX9_setClass at hf
  refine lv_iload_n hx hb dX9_setClass_0 rfl (lv_at hl 1 rfl) ?_
  refine lv_bipush (v := (32 : Int32)) hx hb dX9_setClass_1 (by decide) ?_
  refine lv_bipush (v := (126 : Int32)) hx hb dX9_setClass_3 (by decide) ?_
  obtain ⟨v5, e5, hf⟩ := zb hf
  refine zc_p (va_runS (As := [.int x1, .int (32 : Int32), .int (126 : Int32)]) (rest := []) ⟨hx, hb, hml, hown, hts⟩ (k_X9_in l x1 (32 : Int32) (126 : Int32) v5 e5) (va_cwS 3 hts gX9_setClass_X9_in rfl rfl rfl (by decide +kernel) ⟨Nat.le_of_ble_eq_true rfl, Nat.le_of_ble_eq_true rfl⟩) (zp_p _) rfl rfl hl.1 rfl (lv_room (Nat.le_of_ble_eq_true rfl)) dX9_setClass_5 ⟨Nat.zero_le _, Nat.zero_le _⟩) ?_
  refine lv_if_eq (tgt := 21) hx hb dX9_setClass_8 (by decide) (fun c8 => ?_) (fun c8 => ?_)
  · have hf := (if_pos c8).symm.trans hf
    refine lv_bipush (v := (-2 : Int32)) hx hb dX9_setClass_21 (by decide) ?_
    exact zret_i hx hb hr hlocks hf hP hS dX9_setClass_23
  · have hf := (if_neg c8).symm.trans hf
    refine lv_iload_n hx hb dX9_setClass_11 rfl (lv_at hl 2 rfl) ?_
    refine lv_iconst (v := (0 : Int32)) hx hb dX9_setClass_12 (by decide) ?_
    refine lv_bipush (v := (11 : Int32)) hx hb dX9_setClass_13 (by decide) ?_
    obtain ⟨v15, e15, hf⟩ := zb hf
    refine zc_p (va_runS (As := [.int x2, .int (0 : Int32), .int (11 : Int32)]) (rest := []) ⟨hx, hb, hml, hown, hts⟩ (k_X9_in l x2 (0 : Int32) (11 : Int32) v15 e15) (va_cwS 3 hts gX9_setClass_X9_in rfl rfl rfl (by decide +kernel) ⟨Nat.le_of_ble_eq_true rfl, Nat.le_of_ble_eq_true rfl⟩) (zp_p _) rfl rfl hl.1 rfl (lv_room (Nat.le_of_ble_eq_true rfl)) dX9_setClass_15 ⟨Nat.zero_le _, Nat.zero_le _⟩) ?_
    refine lv_if_ne (tgt := 24) hx hb dX9_setClass_18 (by decide) (fun c18 => ?_) (fun c18 => ?_)
    · have hf := (if_neg c18).symm.trans hf
      refine lv_aload_n hx hb dX9_setClass_24 rfl (lv_at hl 0 rfl) ?_
      obtain ⟨v25, e25, hf⟩ := zb hf
      refine zr_gr (ci := 9) (k := 0) (C := RX9) (T := TX9) (N := 54) hx hb hts hi_X9_setClass_9 hown hK hP e25 rfl rfl (by decide) (by decide) (hts (.fieldLink RX9 7 "BoundaryAnalyzerModel" "classAt" "[I") (List.mem_of_getElem? (i := 1) rfl)) dX9_setClass_25 ?_
      refine lv_iload_n hx hb dX9_setClass_28 rfl (lv_at hl 1 rfl) ?_
      obtain ⟨v29, e29, hf⟩ := zb hf
      refine zr_ai hx hb hK hP e29 dX9_setClass_29 ?_
      refine lv_istore_n (lv' := [(3, .int v29), (0, .ref (b + h0)), (1, .int x1), (2, .int x2)]) hx hb dX9_setClass_30 rfl hl (by decide) rfl (fun ls hl => ?_)
      refine lv_aload_n hx hb dX9_setClass_31 rfl (lv_at hl 1 rfl) ?_
      obtain ⟨v32, e32, hf⟩ := zb hf
      refine zr_gr (ci := 9) (k := 0) (C := RX9) (T := TX9) (N := 54) hx hb hts hi_X9_setClass_9 hown hK hP e32 rfl rfl (by decide) (by decide) (hts (.fieldLink RX9 7 "BoundaryAnalyzerModel" "classAt" "[I") (List.mem_of_getElem? (i := 1) rfl)) dX9_setClass_32 ?_
      refine lv_iload_n hx hb dX9_setClass_35 rfl (lv_at hl 2 rfl) ?_
      refine lv_iload_n hx hb dX9_setClass_36 rfl (lv_at hl 3 rfl) ?_
      obtain ⟨M37, e37, hf⟩ := zb hf
      refine zr_si hx hb hK hP hS e37 dX9_setClass_37 (fun H locs hP _ hS => ?_)
      refine lv_iconst (v := (0 : Int32)) hx hb dX9_setClass_38 (by decide) ?_
      refine lv_istore (lv' := [(4, .int (0 : Int32)), (3, .int v29), (0, .ref (b + h0)), (1, .int x1), (2, .int x2)]) hx hb dX9_setClass_39 hl (by decide) rfl (fun ls hl => ?_)
      exact L41 _ _ _ _ _ _ _ _ _ hf hP hS (lv_sub hl [2, 4, 1, 0] rfl)
    · have hf := (if_pos c18).symm.trans hf
      refine lv_bipush (v := (-2 : Int32)) hx hb dX9_setClass_21 (by decide) ?_
      exact zret_i hx hb hr hlocks hf hP hS dX9_setClass_23
theorem hi_X9_classOf_9 : ∀ w ∈ wsX90, w ∈ wsX9_classOf := fun _ h => List.mem_cons_of_mem _ (List.mem_append_right _ h)
set_option maxHeartbeats 4000000 in
set_option maxRecDepth 100000 in
theorem k_X9_classOf (l : Launch) (D : va_G) (cy : Nat → ClassId) (b : Nat) (M0 : Mem) (h0 : Nat) (x1 : Int32) (rr : Int32 × Mem) (hf : fX9_classOf M0 h0 x1 = some rr) : Met l yX9_classOf wsX9_classOf ({ frames := 1, cells := 0, slots := 0, locals := 22 } : Room) (zPc D cy b M0 [.ref (b + h0), .int x1]) (zQi D cy b rr) 0 0 (zA b) := by
  refine Met.ofW (cc := cX9_classOf) (maxL := 2) (ret := (some .int)) (by decide) rfl ?_
  intro p e s m args below meth c s₁ B hml hv
  obtain ⟨rfl, hP, hK⟩ := hv
  have hx := B.exec
  have hb := B.bytes
  have hr := B.returns
  have hts := atoms_spec (ws := wsX9_classOf) B.pre
  have hown : s.vm.findClass RX9 = some m.cls := findClass_of_methodNamed B.named
  have hlocks := B.notSynchronized
  have hS : va_S (zA b) s.heap s.heap [] := va_S.rf
  have hl := lv_entry ([.ref (b + h0), .int x1]) (n := 2) (Nat.le_of_ble_eq_true rfl)
  rw [lg_entry_eq]
  generalize (lg_sl ([.ref (b + h0), .int x1]) ++ List.replicate (2 - (lg_sl ([.ref (b + h0), .int x1])).length) Slot.unset).toArray = ls at hl ⊢
  have hl : lv_has ls 2 [(0, .ref (b + h0)), (1, .int x1)] := hl
  unfold fX9_classOf at hf
  refine lv_iload_n hx hb dX9_classOf_0 rfl (lv_at hl 1 rfl) ?_
  refine lv_bipush (v := (32 : Int32)) hx hb dX9_classOf_1 (by decide) ?_
  refine lv_bipush (v := (126 : Int32)) hx hb dX9_classOf_3 (by decide) ?_
  obtain ⟨v5, e5, hf⟩ := zb hf
  refine zc_p (va_runS (As := [.int x1, .int (32 : Int32), .int (126 : Int32)]) (rest := []) ⟨hx, hb, hml, hown, hts⟩ (k_X9_in l x1 (32 : Int32) (126 : Int32) v5 e5) (va_cwS 3 hts gX9_classOf_X9_in rfl rfl rfl (by decide +kernel) ⟨Nat.le_of_ble_eq_true rfl, Nat.le_of_ble_eq_true rfl⟩) (zp_p _) rfl rfl hl.1 rfl (lv_room (Nat.le_of_ble_eq_true rfl)) dX9_classOf_5 ⟨Nat.zero_le _, Nat.zero_le _⟩) ?_
  refine lv_if_eq (tgt := 20) hx hb dX9_classOf_8 (by decide) (fun c8 => ?_) (fun c8 => ?_)
  · have hf := (if_pos c8).symm.trans hf
    refine lv_bipush (v := (-2 : Int32)) hx hb dX9_classOf_20 (by decide) ?_
    exact zret_i hx hb hr hlocks hf hP hS dX9_classOf_22
  · have hf := (if_neg c8).symm.trans hf
    refine lv_aload_n hx hb dX9_classOf_11 rfl (lv_at hl 0 rfl) ?_
    obtain ⟨v12, e12, hf⟩ := zb hf
    refine zr_gr (ci := 9) (k := 0) (C := RX9) (T := TX9) (N := 54) hx hb hts hi_X9_classOf_9 hown hK hP e12 rfl rfl (by decide) (by decide) (hts (.fieldLink RX9 7 "BoundaryAnalyzerModel" "classAt" "[I") (List.mem_of_getElem? (i := 1) rfl)) dX9_classOf_12 ?_
    refine lv_iload_n hx hb dX9_classOf_15 rfl (lv_at hl 1 rfl) ?_
    obtain ⟨v16, e16, hf⟩ := zb hf
    refine zr_ai hx hb hK hP e16 dX9_classOf_16 ?_
    refine lv_goto (tgt := 22) hx hb dX9_classOf_17 (by decide) ?_
    exact zret_i hx hb hr hlocks hf hP hS dX9_classOf_22
theorem hi_X9_type_9 : ∀ w ∈ wsX90, w ∈ wsX9_type := fun _ h => List.mem_cons_of_mem _ (List.mem_append_right _ h)
set_option maxHeartbeats 4000000 in
set_option maxRecDepth 100000 in
theorem k_X9_type (l : Launch) (D : va_G) (cy : Nat → ClassId) (b : Nat) (M0 : Mem) (h0 : Nat) (x1 : Int32) (rr : Int32 × Mem) (hf : fX9_type M0 h0 x1 = some rr) : Met l yX9_type wsX9_type ({ frames := 0, cells := 0, slots := 0, locals := 0 } : Room) (zPc D cy b M0 [.ref (b + h0), .int x1]) (zQi D cy b rr) 0 0 (zA b) := by
  refine Met.ofW (cc := cX9_type) (maxL := 2) (ret := (some .int)) (by decide) rfl ?_
  intro p e s m args below meth c s₁ B hml hv
  obtain ⟨rfl, hP, hK⟩ := hv
  have hx := B.exec
  have hb := B.bytes
  have hr := B.returns
  have hts := atoms_spec (ws := wsX9_type) B.pre
  have hown : s.vm.findClass RX9 = some m.cls := findClass_of_methodNamed B.named
  have hlocks := B.notSynchronized
  have hS : va_S (zA b) s.heap s.heap [] := va_S.rf
  have hl := lv_entry ([.ref (b + h0), .int x1]) (n := 2) (Nat.le_of_ble_eq_true rfl)
  rw [lg_entry_eq]
  generalize (lg_sl ([.ref (b + h0), .int x1]) ++ List.replicate (2 - (lg_sl ([.ref (b + h0), .int x1])).length) Slot.unset).toArray = ls at hl ⊢
  have hl : lv_has ls 2 [(0, .ref (b + h0)), (1, .int x1)] := hl
  unfold fX9_type at hf
  refine lv_aload_n hx hb dX9_type_0 rfl (lv_at hl 0 rfl) ?_
  obtain ⟨v1, e1, hf⟩ := zb hf
  refine zr_gi (ci := 9) (k := 1) (C := RX9) (T := TX9) (N := 54) hx hb hts hi_X9_type_9 hown hK hP e1 rfl rfl (by decide) (by decide) (hts (.fieldLink RX9 144 "BoundaryAnalyzerModel" "typed" "I") (List.mem_of_getElem? (i := 1) rfl)) dX9_type_1 ?_
  refine lv_bipush (v := (24 : Int32)) hx hb dX9_type_4 (by decide) ?_
  refine lv_icmp_ne (tgt := 12) hx hb dX9_type_6 (by decide) (fun c6 => ?_) (fun c6 => ?_)
  · have hf := (if_neg c6).symm.trans hf
    refine lv_aload_n hx hb dX9_type_12 rfl (lv_at hl 0 rfl) ?_
    obtain ⟨v13, e13, hf⟩ := zb hf
    refine zr_gr (ci := 9) (k := 2) (C := RX9) (T := TX9) (N := 54) hx hb hts hi_X9_type_9 hown hK hP e13 rfl rfl (by decide) (by decide) (hts (.fieldLink RX9 13 "BoundaryAnalyzerModel" "pattern" "[C") (List.mem_of_getElem? (i := 2) rfl)) dX9_type_13 ?_
    refine lv_aload_n hx hb dX9_type_16 rfl (lv_at hl 0 rfl) ?_
    obtain ⟨v17, e17, hf⟩ := zb hf
    refine zr_gi (ci := 9) (k := 1) (C := RX9) (T := TX9) (N := 54) hx hb hts hi_X9_type_9 hown hK hP e17 rfl rfl (by decide) (by decide) (hts (.fieldLink RX9 144 "BoundaryAnalyzerModel" "typed" "I") (List.mem_of_getElem? (i := 1) rfl)) dX9_type_17 ?_
    refine lv_iload_n hx hb dX9_type_20 rfl (lv_at hl 1 rfl) ?_
    obtain ⟨M21, e21, hf⟩ := zb hf
    refine zr_sc hx hb hK hP hS e21 dX9_type_21 (fun H locs hP _ hS => ?_)
    refine lv_aload_n hx hb dX9_type_22 rfl (lv_at hl 0 rfl) ?_
    refine lv_dup hx hb dX9_type_23 rfl ?_
    obtain ⟨v24, e24, hf⟩ := zb hf
    refine zr_gi (ci := 9) (k := 1) (C := RX9) (T := TX9) (N := 54) hx hb hts hi_X9_type_9 hown hK hP e24 rfl rfl (by decide) (by decide) (hts (.fieldLink RX9 144 "BoundaryAnalyzerModel" "typed" "I") (List.mem_of_getElem? (i := 1) rfl)) dX9_type_24 ?_
    refine lv_iconst (v := (1 : Int32)) hx hb dX9_type_27 (by decide) ?_
    refine lv_iadd hx hb dX9_type_28 ?_
    obtain ⟨M29, e29, hf⟩ := zb hf
    refine zr_pi (ci := 9) (k := 1) (C := RX9) (T := TX9) (N := 54) hx hb hts hi_X9_type_9 tyX9 tyX9_ok nmX9 hown hK hP hS e29 rfl rfl (by decide) (by decide) (hts (.fieldLink RX9 144 "BoundaryAnalyzerModel" "typed" "I") (List.mem_of_getElem? (i := 1) rfl)) rfl (tyX9_ok 1 (by decide)) dX9_type_29 (fun H locs hP _ hS => ?_)
    refine lv_aload_n hx hb dX9_type_32 rfl (lv_at hl 0 rfl) ?_
    obtain ⟨v33, e33, hf⟩ := zb hf
    refine zr_gi (ci := 9) (k := 1) (C := RX9) (T := TX9) (N := 54) hx hb hts hi_X9_type_9 hown hK hP e33 rfl rfl (by decide) (by decide) (hts (.fieldLink RX9 144 "BoundaryAnalyzerModel" "typed" "I") (List.mem_of_getElem? (i := 1) rfl)) dX9_type_33 ?_
    exact zret_i hx hb hr hlocks hf hP hS dX9_type_36
  · have hf := (if_pos c6).symm.trans hf
    refine lv_bipush (v := (-3 : Int32)) hx hb dX9_type_9 (by decide) ?_
    exact zret_i hx hb hr hlocks hf hP hS dX9_type_11
theorem hi_X9_clearPattern_9 : ∀ w ∈ wsX90, w ∈ wsX9_clearPattern := fun _ h => List.mem_cons_of_mem _ (List.mem_append_right _ h)
set_option maxHeartbeats 4000000 in
set_option maxRecDepth 100000 in
theorem k_X9_clearPattern (l : Launch) (D : va_G) (cy : Nat → ClassId) (b : Nat) (M0 : Mem) (h0 : Nat) (rr : Int32 × Mem) (hf : fX9_clearPattern M0 h0 = some rr) : Met l yX9_clearPattern wsX9_clearPattern ({ frames := 0, cells := 0, slots := 0, locals := 0 } : Room) (zPc D cy b M0 [.ref (b + h0)]) (zQi D cy b rr) 0 0 (zA b) := by
  refine Met.ofW (cc := cX9_clearPattern) (maxL := 2) (ret := (some .int)) (by decide) rfl ?_
  intro p e s m args below meth c s₁ B hml hv
  obtain ⟨rfl, hP, hK⟩ := hv
  have hx := B.exec
  have hb := B.bytes
  have hr := B.returns
  have hts := atoms_spec (ws := wsX9_clearPattern) B.pre
  have hown : s.vm.findClass RX9 = some m.cls := findClass_of_methodNamed B.named
  have hlocks := B.notSynchronized
  have hS : va_S (zA b) s.heap s.heap [] := va_S.rf
  have hl := lv_entry ([.ref (b + h0)]) (n := 2) (Nat.le_of_ble_eq_true rfl)
  rw [lg_entry_eq]
  generalize (lg_sl ([.ref (b + h0)]) ++ List.replicate (2 - (lg_sl ([.ref (b + h0)])).length) Slot.unset).toArray = ls at hl ⊢
  have hl : lv_has ls 2 [(0, .ref (b + h0))] := hl
  unfold fX9_clearPattern at hf
  refine lv_aload_n hx hb dX9_clearPattern_0 rfl (lv_at hl 0 rfl) ?_
  obtain ⟨v1, e1, hf⟩ := zb hf
  refine zr_gi (ci := 9) (k := 1) (C := RX9) (T := TX9) (N := 54) hx hb hts hi_X9_clearPattern_9 hown hK hP e1 rfl rfl (by decide) (by decide) (hts (.fieldLink RX9 144 "BoundaryAnalyzerModel" "typed" "I") (List.mem_of_getElem? (i := 1) rfl)) dX9_clearPattern_1 ?_
  refine lv_istore_n (lv' := [(1, .int v1), (0, .ref (b + h0))]) hx hb dX9_clearPattern_4 rfl hl (by decide) rfl (fun ls hl => ?_)
  refine lv_aload_n hx hb dX9_clearPattern_5 rfl (lv_at hl 1 rfl) ?_
  refine lv_iconst (v := (0 : Int32)) hx hb dX9_clearPattern_6 (by decide) ?_
  obtain ⟨M7, e7, hf⟩ := zb hf
  refine zr_pi (ci := 9) (k := 1) (C := RX9) (T := TX9) (N := 54) hx hb hts hi_X9_clearPattern_9 tyX9 tyX9_ok nmX9 hown hK hP hS e7 rfl rfl (by decide) (by decide) (hts (.fieldLink RX9 144 "BoundaryAnalyzerModel" "typed" "I") (List.mem_of_getElem? (i := 1) rfl)) rfl (tyX9_ok 1 (by decide)) dX9_clearPattern_7 (fun H locs hP _ hS => ?_)
  refine lv_iload_n hx hb dX9_clearPattern_10 rfl (lv_at hl 0 rfl) ?_
  exact zret_i hx hb hr hlocks hf hP hS dX9_clearPattern_11
theorem hi_X9_openSequence_9 : ∀ w ∈ wsX90, w ∈ wsX9_openSequence := fun _ h => List.mem_cons_of_mem _ (List.mem_append_right _ h)
set_option maxHeartbeats 4000000 in
set_option maxRecDepth 100000 in
theorem k_X9_openSequence (l : Launch) (D : va_G) (cy : Nat → ClassId) (b : Nat) (M0 : Mem) (h0 : Nat) (rr : Mem) (hf : fX9_openSequence M0 h0 = some rr) : Met l yX9_openSequence wsX9_openSequence ({ frames := 0, cells := 0, slots := 0, locals := 0 } : Room) (zPc D cy b M0 [.ref (b + h0)]) (zQv D cy b rr) 0 0 (zA b) := by
  refine Met.ofW (cc := cX9_openSequence) (maxL := 1) (ret := none) (by decide) rfl ?_
  intro p e s m args below meth c s₁ B hml hv
  obtain ⟨rfl, hP, hK⟩ := hv
  have hx := B.exec
  have hb := B.bytes
  have hr := B.returns
  have hts := atoms_spec (ws := wsX9_openSequence) B.pre
  have hown : s.vm.findClass RX9 = some m.cls := findClass_of_methodNamed B.named
  have hlocks := B.notSynchronized
  have hS : va_S (zA b) s.heap s.heap [] := va_S.rf
  have hl := lv_entry ([.ref (b + h0)]) (n := 1) (Nat.le_of_ble_eq_true rfl)
  rw [lg_entry_eq]
  generalize (lg_sl ([.ref (b + h0)]) ++ List.replicate (1 - (lg_sl ([.ref (b + h0)])).length) Slot.unset).toArray = ls at hl ⊢
  have hl : lv_has ls 1 [(0, .ref (b + h0))] := hl
  unfold fX9_openSequence at hf
  refine lv_aload_n hx hb dX9_openSequence_0 rfl (lv_at hl 0 rfl) ?_
  obtain ⟨v1, e1, hf⟩ := zb hf
  refine zr_gr (ci := 9) (k := 6) (C := RX9) (T := TX9) (N := 54) hx hb hts hi_X9_openSequence_9 hown hK hP e1 rfl rfl (by decide) (by decide) (hts (.fieldLink RX9 27 "BoundaryAnalyzerModel" "seqNull" "[Z") (List.mem_of_getElem? (i := 1) rfl)) dX9_openSequence_1 ?_
  refine lv_aload_n hx hb dX9_openSequence_4 rfl (lv_at hl 0 rfl) ?_
  obtain ⟨v5, e5, hf⟩ := zb hf
  refine zr_gi (ci := 9) (k := 10) (C := RX9) (T := TX9) (N := 54) hx hb hts hi_X9_openSequence_9 hown hK hP e5 rfl rfl (by decide) (by decide) (hts (.fieldLink RX9 148 "BoundaryAnalyzerModel" "depth" "I") (List.mem_of_getElem? (i := 2) rfl)) dX9_openSequence_5 ?_
  refine lv_iconst (v := (1 : Int32)) hx hb dX9_openSequence_8 (by decide) ?_
  obtain ⟨M9, e9, hf⟩ := zb hf
  refine zr_sz hx hb hK hP hS e9 dX9_openSequence_9 (fun H locs hP _ hS => ?_)
  refine lv_aload_n hx hb dX9_openSequence_10 rfl (lv_at hl 0 rfl) ?_
  obtain ⟨v11, e11, hf⟩ := zb hf
  refine zr_gr (ci := 9) (k := 7) (C := RX9) (T := TX9) (N := 54) hx hb hts hi_X9_openSequence_9 hown hK hP e11 rfl rfl (by decide) (by decide) (hts (.fieldLink RX9 30 "BoundaryAnalyzerModel" "seqFirst" "[I") (List.mem_of_getElem? (i := 3) rfl)) dX9_openSequence_11 ?_
  refine lv_aload_n hx hb dX9_openSequence_14 rfl (lv_at hl 0 rfl) ?_
  obtain ⟨v15, e15, hf⟩ := zb hf
  refine zr_gi (ci := 9) (k := 10) (C := RX9) (T := TX9) (N := 54) hx hb hts hi_X9_openSequence_9 hown hK hP e15 rfl rfl (by decide) (by decide) (hts (.fieldLink RX9 148 "BoundaryAnalyzerModel" "depth" "I") (List.mem_of_getElem? (i := 2) rfl)) dX9_openSequence_15 ?_
  refine lv_iconst (v := (0 : Int32)) hx hb dX9_openSequence_18 (by decide) ?_
  obtain ⟨M19, e19, hf⟩ := zb hf
  refine zr_si hx hb hK hP hS e19 dX9_openSequence_19 (fun H locs hP _ hS => ?_)
  refine lv_aload_n hx hb dX9_openSequence_20 rfl (lv_at hl 0 rfl) ?_
  obtain ⟨v21, e21, hf⟩ := zb hf
  refine zr_gr (ci := 9) (k := 8) (C := RX9) (T := TX9) (N := 54) hx hb hts hi_X9_openSequence_9 hown hK hP e21 rfl rfl (by decide) (by decide) (hts (.fieldLink RX9 33 "BoundaryAnalyzerModel" "seqLast" "[I") (List.mem_of_getElem? (i := 4) rfl)) dX9_openSequence_21 ?_
  refine lv_aload_n hx hb dX9_openSequence_24 rfl (lv_at hl 0 rfl) ?_
  obtain ⟨v25, e25, hf⟩ := zb hf
  refine zr_gi (ci := 9) (k := 10) (C := RX9) (T := TX9) (N := 54) hx hb hts hi_X9_openSequence_9 hown hK hP e25 rfl rfl (by decide) (by decide) (hts (.fieldLink RX9 148 "BoundaryAnalyzerModel" "depth" "I") (List.mem_of_getElem? (i := 2) rfl)) dX9_openSequence_25 ?_
  refine lv_iconst (v := (0 : Int32)) hx hb dX9_openSequence_28 (by decide) ?_
  obtain ⟨M29, e29, hf⟩ := zb hf
  refine zr_si hx hb hK hP hS e29 dX9_openSequence_29 (fun H locs hP _ hS => ?_)
  refine lv_aload_n hx hb dX9_openSequence_30 rfl (lv_at hl 0 rfl) ?_
  obtain ⟨v31, e31, hf⟩ := zb hf
  refine zr_gr (ci := 9) (k := 9) (C := RX9) (T := TX9) (N := 54) hx hb hts hi_X9_openSequence_9 hown hK hP e31 rfl rfl (by decide) (by decide) (hts (.fieldLink RX9 36 "BoundaryAnalyzerModel" "seqMany" "[I") (List.mem_of_getElem? (i := 5) rfl)) dX9_openSequence_31 ?_
  refine lv_aload_n hx hb dX9_openSequence_34 rfl (lv_at hl 0 rfl) ?_
  obtain ⟨v35, e35, hf⟩ := zb hf
  refine zr_gi (ci := 9) (k := 10) (C := RX9) (T := TX9) (N := 54) hx hb hts hi_X9_openSequence_9 hown hK hP e35 rfl rfl (by decide) (by decide) (hts (.fieldLink RX9 148 "BoundaryAnalyzerModel" "depth" "I") (List.mem_of_getElem? (i := 2) rfl)) dX9_openSequence_35 ?_
  refine lv_iconst (v := (0 : Int32)) hx hb dX9_openSequence_38 (by decide) ?_
  obtain ⟨M39, e39, hf⟩ := zb hf
  refine zr_si hx hb hK hP hS e39 dX9_openSequence_39 (fun H locs hP _ hS => ?_)
  exact zret_v hx hb hr hlocks hf hP hS dX9_openSequence_40
theorem hi_X9_openAlternatives_9 : ∀ w ∈ wsX90, w ∈ wsX9_openAlternatives := fun _ h => List.mem_cons_of_mem _ (List.mem_append_right _ h)
set_option maxHeartbeats 4000000 in
set_option maxRecDepth 100000 in
theorem k_X9_openAlternatives (l : Launch) (D : va_G) (cy : Nat → ClassId) (b : Nat) (M0 : Mem) (h0 : Nat) (rr : Mem) (hf : fX9_openAlternatives M0 h0 = some rr) : Met l yX9_openAlternatives wsX9_openAlternatives ({ frames := 1, cells := 0, slots := 0, locals := 20 } : Room) (zPc D cy b M0 [.ref (b + h0)]) (zQv D cy b rr) 0 0 (zA b) := by
  refine Met.ofW (cc := cX9_openAlternatives) (maxL := 1) (ret := none) (by decide) rfl ?_
  intro p e s m args below meth c s₁ B hml hv
  obtain ⟨rfl, hP, hK⟩ := hv
  have hx := B.exec
  have hb := B.bytes
  have hr := B.returns
  have hts := atoms_spec (ws := wsX9_openAlternatives) B.pre
  have hown : s.vm.findClass RX9 = some m.cls := findClass_of_methodNamed B.named
  have hlocks := B.notSynchronized
  have hS : va_S (zA b) s.heap s.heap [] := va_S.rf
  have hl := lv_entry ([.ref (b + h0)]) (n := 1) (Nat.le_of_ble_eq_true rfl)
  rw [lg_entry_eq]
  generalize (lg_sl ([.ref (b + h0)]) ++ List.replicate (1 - (lg_sl ([.ref (b + h0)])).length) Slot.unset).toArray = ls at hl ⊢
  have hl : lv_has ls 1 [(0, .ref (b + h0))] := hl
  unfold fX9_openAlternatives at hf
  refine lv_aload_n hx hb dX9_openAlternatives_0 rfl (lv_at hl 0 rfl) ?_
  obtain ⟨v1, e1, hf⟩ := zb hf
  refine zr_gr (ci := 9) (k := 3) (C := RX9) (T := TX9) (N := 54) hx hb hts hi_X9_openAlternatives_9 hown hK hP e1 rfl rfl (by decide) (by decide) (hts (.fieldLink RX9 17 "BoundaryAnalyzerModel" "altNull" "[Z") (List.mem_of_getElem? (i := 1) rfl)) dX9_openAlternatives_1 ?_
  refine lv_aload_n hx hb dX9_openAlternatives_4 rfl (lv_at hl 0 rfl) ?_
  obtain ⟨v5, e5, hf⟩ := zb hf
  refine zr_gi (ci := 9) (k := 10) (C := RX9) (T := TX9) (N := 54) hx hb hts hi_X9_openAlternatives_9 hown hK hP e5 rfl rfl (by decide) (by decide) (hts (.fieldLink RX9 148 "BoundaryAnalyzerModel" "depth" "I") (List.mem_of_getElem? (i := 2) rfl)) dX9_openAlternatives_5 ?_
  refine lv_iconst (v := (0 : Int32)) hx hb dX9_openAlternatives_8 (by decide) ?_
  obtain ⟨M9, e9, hf⟩ := zb hf
  refine zr_sz hx hb hK hP hS e9 dX9_openAlternatives_9 (fun H locs hP _ hS => ?_)
  refine lv_aload_n hx hb dX9_openAlternatives_10 rfl (lv_at hl 0 rfl) ?_
  obtain ⟨v11, e11, hf⟩ := zb hf
  refine zr_gr (ci := 9) (k := 4) (C := RX9) (T := TX9) (N := 54) hx hb hts hi_X9_openAlternatives_9 hown hK hP e11 rfl rfl (by decide) (by decide) (hts (.fieldLink RX9 21 "BoundaryAnalyzerModel" "altFirst" "[I") (List.mem_of_getElem? (i := 3) rfl)) dX9_openAlternatives_11 ?_
  refine lv_aload_n hx hb dX9_openAlternatives_14 rfl (lv_at hl 0 rfl) ?_
  obtain ⟨v15, e15, hf⟩ := zb hf
  refine zr_gi (ci := 9) (k := 10) (C := RX9) (T := TX9) (N := 54) hx hb hts hi_X9_openAlternatives_9 hown hK hP e15 rfl rfl (by decide) (by decide) (hts (.fieldLink RX9 148 "BoundaryAnalyzerModel" "depth" "I") (List.mem_of_getElem? (i := 2) rfl)) dX9_openAlternatives_15 ?_
  refine lv_iconst (v := (0 : Int32)) hx hb dX9_openAlternatives_18 (by decide) ?_
  obtain ⟨M19, e19, hf⟩ := zb hf
  refine zr_si hx hb hK hP hS e19 dX9_openAlternatives_19 (fun H locs hP _ hS => ?_)
  refine lv_aload_n hx hb dX9_openAlternatives_20 rfl (lv_at hl 0 rfl) ?_
  obtain ⟨v21, e21, hf⟩ := zb hf
  refine zr_gr (ci := 9) (k := 5) (C := RX9) (T := TX9) (N := 54) hx hb hts hi_X9_openAlternatives_9 hown hK hP e21 rfl rfl (by decide) (by decide) (hts (.fieldLink RX9 24 "BoundaryAnalyzerModel" "altLast" "[I") (List.mem_of_getElem? (i := 4) rfl)) dX9_openAlternatives_21 ?_
  refine lv_aload_n hx hb dX9_openAlternatives_24 rfl (lv_at hl 0 rfl) ?_
  obtain ⟨v25, e25, hf⟩ := zb hf
  refine zr_gi (ci := 9) (k := 10) (C := RX9) (T := TX9) (N := 54) hx hb hts hi_X9_openAlternatives_9 hown hK hP e25 rfl rfl (by decide) (by decide) (hts (.fieldLink RX9 148 "BoundaryAnalyzerModel" "depth" "I") (List.mem_of_getElem? (i := 2) rfl)) dX9_openAlternatives_25 ?_
  refine lv_iconst (v := (0 : Int32)) hx hb dX9_openAlternatives_28 (by decide) ?_
  obtain ⟨M29, e29, hf⟩ := zb hf
  refine zr_si hx hb hK hP hS e29 dX9_openAlternatives_29 (fun H locs hP _ hS => ?_)
  refine lv_aload_n hx hb dX9_openAlternatives_30 rfl (lv_at hl 0 rfl) ?_
  obtain ⟨u31, t31, hf⟩ := zb hf
  obtain ⟨M31, e31, hf⟩ := zb hf
  refine zc_v hS (va_runV (As := []) (rest := []) ⟨hx, hb, hml, hown, hts⟩ (k_X9_openSequence l D cy b M29 h0  M31 e31) (cwV 0 hts gX9_openAlternatives_X9_openSequence rfl rfl rfl (by decide +kernel) ⟨Nat.le_of_ble_eq_true rfl, Nat.le_of_ble_eq_true rfl⟩) (zp_V _ hK hP t31 (T := TX9) (N := 54) rfl (by decide)) rfl rfl hl.1 rfl (lv_room (Nat.le_of_ble_eq_true rfl)) dX9_openAlternatives_31 ⟨Nat.zero_le _, Nat.zero_le _⟩) (fun H locs hP hS => ?_)
  exact zret_v hx hb hr hlocks hf hP hS dX9_openAlternatives_34
theorem hi_X9_closeSequence_9 : ∀ w ∈ wsX90, w ∈ wsX9_closeSequence := fun _ h => List.mem_cons_of_mem _ (List.mem_append_right _ h)
set_option maxHeartbeats 4000000 in
set_option maxRecDepth 100000 in
theorem k_X9_closeSequence (l : Launch) (D : va_G) (cy : Nat → ClassId) (b : Nat) (M0 : Mem) (h0 : Nat) (rr : Mem) (hf : fX9_closeSequence M0 h0 = some rr) : Met l yX9_closeSequence wsX9_closeSequence ({ frames := 0, cells := 0, slots := 0, locals := 0 } : Room) (zPc D cy b M0 [.ref (b + h0)]) (zQv D cy b rr) 0 0 (zA b) := by
  refine Met.ofW (cc := cX9_closeSequence) (maxL := 1) (ret := none) (by decide) rfl ?_
  intro p e s m args below meth c s₁ B hml hv
  obtain ⟨rfl, hP, hK⟩ := hv
  have hx := B.exec
  have hb := B.bytes
  have hr := B.returns
  have hts := atoms_spec (ws := wsX9_closeSequence) B.pre
  have hown : s.vm.findClass RX9 = some m.cls := findClass_of_methodNamed B.named
  have hlocks := B.notSynchronized
  have hS : va_S (zA b) s.heap s.heap [] := va_S.rf
  have hl := lv_entry ([.ref (b + h0)]) (n := 1) (Nat.le_of_ble_eq_true rfl)
  rw [lg_entry_eq]
  generalize (lg_sl ([.ref (b + h0)]) ++ List.replicate (1 - (lg_sl ([.ref (b + h0)])).length) Slot.unset).toArray = ls at hl ⊢
  have hl : lv_has ls 1 [(0, .ref (b + h0))] := hl
  have J37 : ∀ (M : Mem) (H : Heap) (locs : List Loc) (ls : Array Slot) (h0 : Nat) (g0 : Nat) (y1 : Int32) (y2 : Int32), fX9_closeSequence_37  M h0 g0 y1 y2 = some rr → zH D cy b M H → va_S (zA b) s.heap H locs → lv_has ls 1 [(0, .ref (b + h0))] → W p l e (headSpec wsX9_closeSequence ({ frames := 0, cells := 0, slots := 0, locals := 0 } : Room)).room s m ([.ref (b + h0)] : List Value).toArray below meth c H locs 0 0 (MQ below (zQv D cy b rr) ([.ref (b + h0)] : List Value).toArray s 0 0 (zA b)) (F0 m 37 ls [.int y2, .int y1, .ref (b + g0)]) := by
    intro M H locs ls h0 g0 y1 y2 hf hP hS hl
    unfold fX9_closeSequence_37 at hf
    obtain ⟨M37, e37, hf⟩ := zb hf
    refine zr_sz hx hb hK hP hS e37 dX9_closeSequence_37 (fun H locs hP _ hS => ?_)
    refine lv_aload_n hx hb dX9_closeSequence_38 rfl (lv_at hl 0 rfl) ?_
    obtain ⟨v39, e39, hf⟩ := zb hf
    refine zr_gr (ci := 9) (k := 4) (C := RX9) (T := TX9) (N := 54) hx hb hts hi_X9_closeSequence_9 hown hK hP e39 rfl rfl (by decide) (by decide) (hts (.fieldLink RX9 21 "BoundaryAnalyzerModel" "altFirst" "[I") (List.mem_of_getElem? (i := 4) rfl)) dX9_closeSequence_39 ?_
    refine lv_aload_n hx hb dX9_closeSequence_42 rfl (lv_at hl 0 rfl) ?_
    obtain ⟨v43, e43, hf⟩ := zb hf
    refine zr_gi (ci := 9) (k := 10) (C := RX9) (T := TX9) (N := 54) hx hb hts hi_X9_closeSequence_9 hown hK hP e43 rfl rfl (by decide) (by decide) (hts (.fieldLink RX9 148 "BoundaryAnalyzerModel" "depth" "I") (List.mem_of_getElem? (i := 2) rfl)) dX9_closeSequence_43 ?_
    refine lv_dup2_11 hx hb dX9_closeSequence_46 rfl rfl ?_
    obtain ⟨v47, e47, hf⟩ := zb hf
    refine zr_ai hx hb hK hP e47 dX9_closeSequence_47 ?_
    refine lv_aload_n hx hb dX9_closeSequence_48 rfl (lv_at hl 0 rfl) ?_
    obtain ⟨v49, e49, hf⟩ := zb hf
    refine zr_gr (ci := 9) (k := 7) (C := RX9) (T := TX9) (N := 54) hx hb hts hi_X9_closeSequence_9 hown hK hP e49 rfl rfl (by decide) (by decide) (hts (.fieldLink RX9 30 "BoundaryAnalyzerModel" "seqFirst" "[I") (List.mem_of_getElem? (i := 5) rfl)) dX9_closeSequence_49 ?_
    refine lv_aload_n hx hb dX9_closeSequence_52 rfl (lv_at hl 0 rfl) ?_
    obtain ⟨v53, e53, hf⟩ := zb hf
    refine zr_gi (ci := 9) (k := 10) (C := RX9) (T := TX9) (N := 54) hx hb hts hi_X9_closeSequence_9 hown hK hP e53 rfl rfl (by decide) (by decide) (hts (.fieldLink RX9 148 "BoundaryAnalyzerModel" "depth" "I") (List.mem_of_getElem? (i := 2) rfl)) dX9_closeSequence_53 ?_
    obtain ⟨v56, e56, hf⟩ := zb hf
    refine zr_ai hx hb hK hP e56 dX9_closeSequence_56 ?_
    refine lv_ior hx hb dX9_closeSequence_57 ?_
    obtain ⟨M58, e58, hf⟩ := zb hf
    refine zr_si hx hb hK hP hS e58 dX9_closeSequence_58 (fun H locs hP _ hS => ?_)
    refine lv_aload_n hx hb dX9_closeSequence_59 rfl (lv_at hl 0 rfl) ?_
    obtain ⟨v60, e60, hf⟩ := zb hf
    refine zr_gr (ci := 9) (k := 5) (C := RX9) (T := TX9) (N := 54) hx hb hts hi_X9_closeSequence_9 hown hK hP e60 rfl rfl (by decide) (by decide) (hts (.fieldLink RX9 24 "BoundaryAnalyzerModel" "altLast" "[I") (List.mem_of_getElem? (i := 6) rfl)) dX9_closeSequence_60 ?_
    refine lv_aload_n hx hb dX9_closeSequence_63 rfl (lv_at hl 0 rfl) ?_
    obtain ⟨v64, e64, hf⟩ := zb hf
    refine zr_gi (ci := 9) (k := 10) (C := RX9) (T := TX9) (N := 54) hx hb hts hi_X9_closeSequence_9 hown hK hP e64 rfl rfl (by decide) (by decide) (hts (.fieldLink RX9 148 "BoundaryAnalyzerModel" "depth" "I") (List.mem_of_getElem? (i := 2) rfl)) dX9_closeSequence_64 ?_
    refine lv_dup2_11 hx hb dX9_closeSequence_67 rfl rfl ?_
    obtain ⟨v68, e68, hf⟩ := zb hf
    refine zr_ai hx hb hK hP e68 dX9_closeSequence_68 ?_
    refine lv_aload_n hx hb dX9_closeSequence_69 rfl (lv_at hl 0 rfl) ?_
    obtain ⟨v70, e70, hf⟩ := zb hf
    refine zr_gr (ci := 9) (k := 8) (C := RX9) (T := TX9) (N := 54) hx hb hts hi_X9_closeSequence_9 hown hK hP e70 rfl rfl (by decide) (by decide) (hts (.fieldLink RX9 33 "BoundaryAnalyzerModel" "seqLast" "[I") (List.mem_of_getElem? (i := 7) rfl)) dX9_closeSequence_70 ?_
    refine lv_aload_n hx hb dX9_closeSequence_73 rfl (lv_at hl 0 rfl) ?_
    obtain ⟨v74, e74, hf⟩ := zb hf
    refine zr_gi (ci := 9) (k := 10) (C := RX9) (T := TX9) (N := 54) hx hb hts hi_X9_closeSequence_9 hown hK hP e74 rfl rfl (by decide) (by decide) (hts (.fieldLink RX9 148 "BoundaryAnalyzerModel" "depth" "I") (List.mem_of_getElem? (i := 2) rfl)) dX9_closeSequence_74 ?_
    obtain ⟨v77, e77, hf⟩ := zb hf
    refine zr_ai hx hb hK hP e77 dX9_closeSequence_77 ?_
    refine lv_ior hx hb dX9_closeSequence_78 ?_
    obtain ⟨M79, e79, hf⟩ := zb hf
    refine zr_si hx hb hK hP hS e79 dX9_closeSequence_79 (fun H locs hP _ hS => ?_)
    exact zret_v hx hb hr hlocks hf hP hS dX9_closeSequence_80
  have J32 : ∀ (M : Mem) (H : Heap) (locs : List Loc) (ls : Array Slot) (h0 : Nat) (g0 : Nat) (y1 : Int32), fX9_closeSequence_32  M h0 g0 y1 = some rr → zH D cy b M H → va_S (zA b) s.heap H locs → lv_has ls 1 [(0, .ref (b + h0))] → W p l e (headSpec wsX9_closeSequence ({ frames := 0, cells := 0, slots := 0, locals := 0 } : Room)).room s m ([.ref (b + h0)] : List Value).toArray below meth c H locs 0 0 (MQ below (zQv D cy b rr) ([.ref (b + h0)] : List Value).toArray s 0 0 (zA b)) (F0 m 32 ls [.int y1, .ref (b + g0)]) := by
    intro M H locs ls h0 g0 y1 hf hP hS hl
    unfold fX9_closeSequence_32 at hf
    refine lv_iconst (v := (1 : Int32)) hx hb dX9_closeSequence_32 (by decide) ?_
    refine lv_goto (tgt := 37) hx hb dX9_closeSequence_33 (by decide) ?_
    exact J37 _ _ _ _ _ _ _ _ hf hP hS (lv_sub hl [0] rfl)
  unfold fX9_closeSequence at hf
  refine lv_aload_n hx hb dX9_closeSequence_0 rfl (lv_at hl 0 rfl) ?_
  obtain ⟨v1, e1, hf⟩ := zb hf
  refine zr_gr (ci := 9) (k := 3) (C := RX9) (T := TX9) (N := 54) hx hb hts hi_X9_closeSequence_9 hown hK hP e1 rfl rfl (by decide) (by decide) (hts (.fieldLink RX9 17 "BoundaryAnalyzerModel" "altNull" "[Z") (List.mem_of_getElem? (i := 1) rfl)) dX9_closeSequence_1 ?_
  refine lv_aload_n hx hb dX9_closeSequence_4 rfl (lv_at hl 0 rfl) ?_
  obtain ⟨v5, e5, hf⟩ := zb hf
  refine zr_gi (ci := 9) (k := 10) (C := RX9) (T := TX9) (N := 54) hx hb hts hi_X9_closeSequence_9 hown hK hP e5 rfl rfl (by decide) (by decide) (hts (.fieldLink RX9 148 "BoundaryAnalyzerModel" "depth" "I") (List.mem_of_getElem? (i := 2) rfl)) dX9_closeSequence_5 ?_
  refine lv_aload_n hx hb dX9_closeSequence_8 rfl (lv_at hl 0 rfl) ?_
  obtain ⟨v9, e9, hf⟩ := zb hf
  refine zr_gr (ci := 9) (k := 3) (C := RX9) (T := TX9) (N := 54) hx hb hts hi_X9_closeSequence_9 hown hK hP e9 rfl rfl (by decide) (by decide) (hts (.fieldLink RX9 17 "BoundaryAnalyzerModel" "altNull" "[Z") (List.mem_of_getElem? (i := 1) rfl)) dX9_closeSequence_9 ?_
  refine lv_aload_n hx hb dX9_closeSequence_12 rfl (lv_at hl 0 rfl) ?_
  obtain ⟨v13, e13, hf⟩ := zb hf
  refine zr_gi (ci := 9) (k := 10) (C := RX9) (T := TX9) (N := 54) hx hb hts hi_X9_closeSequence_9 hown hK hP e13 rfl rfl (by decide) (by decide) (hts (.fieldLink RX9 148 "BoundaryAnalyzerModel" "depth" "I") (List.mem_of_getElem? (i := 2) rfl)) dX9_closeSequence_13 ?_
  obtain ⟨v16, e16, hf⟩ := zb hf
  refine zr_az hx hb hK hP e16 dX9_closeSequence_16 ?_
  refine lv_if_ne (tgt := 32) hx hb dX9_closeSequence_17 (by decide) (fun c17 => ?_) (fun c17 => ?_)
  · have hf := (if_neg c17).symm.trans hf
    exact J32 _ _ _ _ _ _ _ hf hP hS (lv_sub hl [0] rfl)
  · have hf := (if_pos c17).symm.trans hf
    refine lv_aload_n hx hb dX9_closeSequence_20 rfl (lv_at hl 0 rfl) ?_
    obtain ⟨v21, e21, hf⟩ := zb hf
    refine zr_gr (ci := 9) (k := 6) (C := RX9) (T := TX9) (N := 54) hx hb hts hi_X9_closeSequence_9 hown hK hP e21 rfl rfl (by decide) (by decide) (hts (.fieldLink RX9 27 "BoundaryAnalyzerModel" "seqNull" "[Z") (List.mem_of_getElem? (i := 3) rfl)) dX9_closeSequence_21 ?_
    refine lv_aload_n hx hb dX9_closeSequence_24 rfl (lv_at hl 0 rfl) ?_
    obtain ⟨v25, e25, hf⟩ := zb hf
    refine zr_gi (ci := 9) (k := 10) (C := RX9) (T := TX9) (N := 54) hx hb hts hi_X9_closeSequence_9 hown hK hP e25 rfl rfl (by decide) (by decide) (hts (.fieldLink RX9 148 "BoundaryAnalyzerModel" "depth" "I") (List.mem_of_getElem? (i := 2) rfl)) dX9_closeSequence_25 ?_
    obtain ⟨v28, e28, hf⟩ := zb hf
    refine zr_az hx hb hK hP e28 dX9_closeSequence_28 ?_
    refine lv_if_eq (tgt := 36) hx hb dX9_closeSequence_29 (by decide) (fun c29 => ?_) (fun c29 => ?_)
    · have hf := (if_pos c29).symm.trans hf
      refine lv_iconst (v := (0 : Int32)) hx hb dX9_closeSequence_36 (by decide) ?_
      exact J37 _ _ _ _ _ _ _ _ hf hP hS (lv_sub hl [0] rfl)
    · have hf := (if_neg c29).symm.trans hf
      exact J32 _ _ _ _ _ _ _ hf hP hS (lv_sub hl [0] rfl)
theorem hi_X9_follows_9 : ∀ w ∈ wsX90, w ∈ wsX9_follows := fun _ h => List.mem_cons_of_mem _ (List.mem_append_right _ h)
set_option maxHeartbeats 4000000 in
set_option maxRecDepth 100000 in
theorem k_X9_follows (l : Launch) (D : va_G) (cy : Nat → ClassId) (b : Nat) (M0 : Mem) (h0 : Nat) (x1 : Int32) (x2 : Int32) (rr : Mem) (hf : fX9_follows M0 h0 x1 x2 = some rr) : Met l yX9_follows wsX9_follows ({ frames := 0, cells := 0, slots := 0, locals := 0 } : Room) (zPc D cy b M0 [.ref (b + h0), .int x1, .int x2]) (zQv D cy b rr) 0 0 (zA b) := by
  refine Met.ofW (cc := cX9_follows) (maxL := 4) (ret := none) (by decide) rfl ?_
  intro p e s m args below meth c s₁ B hml hv
  obtain ⟨rfl, hP, hK⟩ := hv
  have hx := B.exec
  have hb := B.bytes
  have hr := B.returns
  have hts := atoms_spec (ws := wsX9_follows) B.pre
  have hown : s.vm.findClass RX9 = some m.cls := findClass_of_methodNamed B.named
  have hlocks := B.notSynchronized
  have hS : va_S (zA b) s.heap s.heap [] := va_S.rf
  have hl := lv_entry ([.ref (b + h0), .int x1, .int x2]) (n := 4) (Nat.le_of_ble_eq_true rfl)
  rw [lg_entry_eq]
  generalize (lg_sl ([.ref (b + h0), .int x1, .int x2]) ++ List.replicate (4 - (lg_sl ([.ref (b + h0), .int x1, .int x2])).length) Slot.unset).toArray = ls at hl ⊢
  have hl : lv_has ls 4 [(0, .ref (b + h0)), (1, .int x1), (2, .int x2)] := hl
  have L2 : ∀ (n2 : Nat) (M : Mem) (H : Heap) (locs : List Loc) (ls : Array Slot) (h0 : Nat) (x1 : Int32) (x2 : Int32) (x3 : Int32), fX9_follows_2L  n2 M h0 x1 x2 x3 = some rr → zH D cy b M H → va_S (zA b) s.heap H locs → lv_has ls 4 [(0, .ref (b + h0)), (1, .int x1), (2, .int x2), (3, .int x3)] → W p l e (headSpec wsX9_follows ({ frames := 0, cells := 0, slots := 0, locals := 0 } : Room)).room s m ([.ref (b + h0), .int x1, .int x2] : List Value).toArray below meth c H locs 0 0 (MQ below (zQv D cy b rr) ([.ref (b + h0), .int x1, .int x2] : List Value).toArray s 0 0 (zA b)) (F0 m 2 ls []) := by
    intro n2
    induction n2 with
    | zero =>
      intro M H locs ls h0 x1 x2 x3 hf
      have hf : (none : Option Mem) = some rr := hf
      cases hf
    | succ n2 ih2 =>
      have J29 : ∀ (M : Mem) (H : Heap) (locs : List Loc) (ls : Array Slot) (h0 : Nat) (x1 : Int32) (x2 : Int32) (x3 : Int32) (g0 : Nat) (y1 : Int32) (y2 : Int32) (y3 : Int32), fX9_follows_29 (fX9_follows_2L  n2) M h0 x1 x2 x3 g0 y1 y2 y3 = some rr → zH D cy b M H → va_S (zA b) s.heap H locs → lv_has ls 4 [(0, .ref (b + h0)), (1, .int x1), (2, .int x2), (3, .int x3)] → W p l e (headSpec wsX9_follows ({ frames := 0, cells := 0, slots := 0, locals := 0 } : Room)).room s m ([.ref (b + h0), .int x1, .int x2] : List Value).toArray below meth c H locs 0 0 (MQ below (zQv D cy b rr) ([.ref (b + h0), .int x1, .int x2] : List Value).toArray s 0 0 (zA b)) (F0 m 29 ls [.int y3, .int y2, .int y1, .ref (b + g0)]) := by
        intro M H locs ls h0 x1 x2 x3 g0 y1 y2 y3 hf hP hS hl
        unfold fX9_follows_29 at hf
        refine lv_ior hx hb dX9_follows_29 ?_
        obtain ⟨M30, e30, hf⟩ := zb hf
        refine zr_si hx hb hK hP hS e30 dX9_follows_30 (fun H locs hP _ hS => ?_)
        obtain ⟨x3_31, q31, hf⟩ := zlt_s hf
        refine lv_iinc (v := x3_31) (lv' := [(3, .int x3_31), (0, .ref (b + h0)), (1, .int x1), (2, .int x2)]) hx hb dX9_follows_31 hl (k := 3) rfl (by rw [← q31]; rfl) (by decide) rfl (fun ls hl => ?_)
        refine lv_goto (tgt := 2) hx hb dX9_follows_34 (by decide) ?_
        exact ih2 _ _ _ _ _ _ _ _ hf hP hS (lv_sub hl [1, 2, 3, 0] rfl)
      intro M H locs ls h0 x1 x2 x3 hf hP hS hl
      have hf : fX9_follows_2  (fX9_follows_2L  n2) M h0 x1 x2 x3 = some rr := hf
      unfold fX9_follows_2 at hf
      refine lv_iload_n hx hb dX9_follows_2 rfl (lv_at hl 3 rfl) ?_
      refine lv_bipush (v := (24 : Int32)) hx hb dX9_follows_3 (by decide) ?_
      refine lv_icmp_ge (tgt := 37) hx hb dX9_follows_5 (by decide) (fun c5 => ?_) (fun c5 => ?_)
      · have hf := (if_pos c5).symm.trans hf
        exact zret_v hx hb hr hlocks hf hP hS dX9_follows_37
      · have hf := (if_neg c5).symm.trans hf
        refine lv_aload_n hx hb dX9_follows_8 rfl (lv_at hl 0 rfl) ?_
        obtain ⟨v9, e9, hf⟩ := zb hf
        refine zr_gr (ci := 9) (k := 15) (C := RX9) (T := TX9) (N := 54) hx hb hts hi_X9_follows_9 hown hK hP e9 rfl rfl (by decide) (by decide) (hts (.fieldLink RX9 42 "BoundaryAnalyzerModel" "readNext" "[I") (List.mem_of_getElem? (i := 1) rfl)) dX9_follows_9 ?_
        refine lv_iload_n hx hb dX9_follows_12 rfl (lv_at hl 3 rfl) ?_
        refine lv_dup2_11 hx hb dX9_follows_13 rfl rfl ?_
        obtain ⟨v14, e14, hf⟩ := zb hf
        refine zr_ai hx hb hK hP e14 dX9_follows_14 ?_
        refine lv_iload_n hx hb dX9_follows_15 rfl (lv_at hl 1 rfl) ?_
        refine lv_iload_n hx hb dX9_follows_16 rfl (lv_at hl 3 rfl) ?_
        refine lv_ishr hx hb dX9_follows_17 ?_
        refine lv_iconst (v := (1 : Int32)) hx hb dX9_follows_18 (by decide) ?_
        refine lv_iand hx hb dX9_follows_19 ?_
        refine lv_iconst (v := (1 : Int32)) hx hb dX9_follows_20 (by decide) ?_
        refine lv_icmp_ne (tgt := 28) hx hb dX9_follows_21 (by decide) (fun c21 => ?_) (fun c21 => ?_)
        · have hf := (if_neg c21).symm.trans hf
          refine lv_iconst (v := (0 : Int32)) hx hb dX9_follows_28 (by decide) ?_
          exact J29 _ _ _ _ _ _ _ _ _ _ _ _ hf hP hS (lv_sub hl [0, 1, 2, 3] rfl)
        · have hf := (if_pos c21).symm.trans hf
          refine lv_iload_n hx hb dX9_follows_24 rfl (lv_at hl 2 rfl) ?_
          refine lv_goto (tgt := 29) hx hb dX9_follows_25 (by decide) ?_
          exact J29 _ _ _ _ _ _ _ _ _ _ _ _ hf hP hS (lv_sub hl [0, 1, 2, 3] rfl)
  unfold fX9_follows at hf
  refine lv_iconst (v := (0 : Int32)) hx hb dX9_follows_0 (by decide) ?_
  refine lv_istore_n (lv' := [(3, .int (0 : Int32)), (0, .ref (b + h0)), (1, .int x1), (2, .int x2)]) hx hb dX9_follows_1 rfl hl (by decide) rfl (fun ls hl => ?_)
  exact L2 _ _ _ _ _ _ _ _ _ hf hP hS (lv_sub hl [1, 2, 3, 0] rfl)
