theorem hi_X9_segmentAt_9 : ∀ w ∈ wsX90, w ∈ wsX9_segmentAt := fun _ h => List.mem_cons_of_mem _ (List.mem_append_right _ h)
set_option maxHeartbeats 4000000 in
set_option maxRecDepth 100000 in
theorem k_X9_segmentAt (l : Launch) (D : va_G) (cy : Nat → ClassId) (b : Nat) (M0 : Mem) (p0 : Nat) (p1 : Int32) (p2 : Int32) (rr : Int32 × Mem) (hf : fX9_segmentAt M0 p0 p1 p2 = some rr) : Met l yX9_segmentAt wsX9_segmentAt ({ frames := 3, cells := 0, slots := 0, locals := 79 } : Room) (zPc D cy b M0 [.ref (b + p0), .int p1, .int p2]) (zQi D cy b rr) 0 0 (zA b) := by
  refine Met.ofW (cc := cX9_segmentAt) (maxL := 6) (ret := (some .int)) (by decide) rfl ?_
  intro p e s m args below meth c s₁ B hml hv
  obtain ⟨rfl, hP, hK⟩ := hv
  have hx := B.exec
  have hb := B.bytes
  have hr := B.returns
  have hts := atoms_spec (ws := wsX9_segmentAt) B.pre
  have hown : s.vm.findClass RX9 = some m.cls := findClass_of_methodNamed B.named
  have hlocks := B.notSynchronized
  have hS : va_S (zA b) s.heap s.heap [] := va_S.rf
  have hl := lv_entry ([.ref (b + p0), .int p1, .int p2]) (n := 6) (Nat.le_of_ble_eq_true rfl)
  rw [lg_entry_eq]
  generalize (lg_sl ([.ref (b + p0), .int p1, .int p2]) ++ List.replicate (6 - (lg_sl ([.ref (b + p0), .int p1, .int p2])).length) Slot.unset).toArray = ls at hl ⊢
  have hl : lv_has ls 6 [(0, .ref (b + p0)), (1, .int p1), (2, .int p2)] := hl
  have L7 : ∀ (n7 : Nat) (M : Mem) (H : Heap) (locs : List Loc) (ls : Array Slot) (h0 : Nat) (x1 : Int32) (x2 : Int32) (x3 : Int32) (x4 : Int32), fX9_segmentAt_7L  n7 M h0 x1 x2 x3 x4 = some rr → zH D cy b M H → va_S (zA b) s.heap H locs → lv_has ls 6 [(0, .ref (b + h0)), (1, .int x1), (2, .int x2), (3, .int x3), (4, .int x4)] → W p l e (headSpec wsX9_segmentAt ({ frames := 3, cells := 0, slots := 0, locals := 79 } : Room)).room s m ([.ref (b + p0), .int p1, .int p2] : List Value).toArray below meth c H locs 0 0 (MQ below (zQi D cy b rr) ([.ref (b + p0), .int p1, .int p2] : List Value).toArray s 0 0 (zA b)) (F0 m 7 ls []) := by
    intro n7
    induction n7 with
    | zero =>
      intro M H locs ls h0 x1 x2 x3 x4 hf
      have hf : (none : Option (Int32 × Mem)) = some rr := hf
      cases hf
    | succ n7 ih7 =>
      have J52 : ∀ (M : Mem) (H : Heap) (locs : List Loc) (ls : Array Slot) (h0 : Nat) (x1 : Int32) (x2 : Int32) (x4 : Int32) (y0 : Int32), fX9_segmentAt_52 (fX9_segmentAt_7L  n7) M h0 x1 x2 x4 y0 = some rr → zH D cy b M H → va_S (zA b) s.heap H locs → lv_has ls 6 [(0, .ref (b + h0)), (1, .int x1), (2, .int x2), (4, .int x4)] → W p l e (headSpec wsX9_segmentAt ({ frames := 3, cells := 0, slots := 0, locals := 79 } : Room)).room s m ([.ref (b + p0), .int p1, .int p2] : List Value).toArray below meth c H locs 0 0 (MQ below (zQi D cy b rr) ([.ref (b + p0), .int p1, .int p2] : List Value).toArray s 0 0 (zA b)) (F0 m 52 ls [.int y0]) := by
        intro M H locs ls h0 x1 x2 x4 y0 hf hP hS hl
        unfold fX9_segmentAt_52 at hf
        refine lv_istore_n (lv' := [(3, .int y0), (0, .ref (b + h0)), (1, .int x1), (2, .int x2), (4, .int x4)]) hx hb dX9_segmentAt_52 rfl hl (by decide) rfl (fun ls hl => ?_)
        obtain ⟨x4_53, q53, hf⟩ := zlt_s hf
        refine lv_iinc (v := x4_53) (lv' := [(4, .int x4_53), (3, .int y0), (0, .ref (b + h0)), (1, .int x1), (2, .int x2)]) hx hb dX9_segmentAt_53 hl (k := 4) rfl (by rw [← q53]; rfl) (by decide) rfl (fun ls hl => ?_)
        refine lv_goto (tgt := 7) hx hb dX9_segmentAt_56 (by decide) ?_
        exact ih7 _ _ _ _ _ _ _ _ _ hf hP hS (lv_sub hl [2, 3, 4, 1, 0] rfl)
      have J38 : ∀ (M : Mem) (H : Heap) (locs : List Loc) (ls : Array Slot) (h0 : Nat) (x1 : Int32) (x2 : Int32) (x3 : Int32) (x4 : Int32) (y0 : Int32), fX9_segmentAt_38 (fX9_segmentAt_7L  n7) M h0 x1 x2 x3 x4 y0 = some rr → zH D cy b M H → va_S (zA b) s.heap H locs → lv_has ls 6 [(0, .ref (b + h0)), (1, .int x1), (2, .int x2), (3, .int x3), (4, .int x4)] → W p l e (headSpec wsX9_segmentAt ({ frames := 3, cells := 0, slots := 0, locals := 79 } : Room)).room s m ([.ref (b + p0), .int p1, .int p2] : List Value).toArray below meth c H locs 0 0 (MQ below (zQi D cy b rr) ([.ref (b + p0), .int p1, .int p2] : List Value).toArray s 0 0 (zA b)) (F0 m 38 ls [.int y0]) := by
        intro M H locs ls h0 x1 x2 x3 x4 y0 hf hP hS hl
        unfold fX9_segmentAt_38 at hf
        refine lv_istore (lv' := [(5, .int y0), (0, .ref (b + h0)), (1, .int x1), (2, .int x2), (3, .int x3), (4, .int x4)]) hx hb dX9_segmentAt_38 hl (by decide) rfl (fun ls hl => ?_)
        refine lv_iload hx hb dX9_segmentAt_40 (lv_at hl 0 rfl) ?_
        refine lv_iload_n hx hb dX9_segmentAt_42 rfl (lv_at hl 4 rfl) ?_
        refine lv_icmp_le (tgt := 51) hx hb dX9_segmentAt_43 (by decide) (fun c43 => ?_) (fun c43 => ?_)
        · have hf := (if_pos c43).symm.trans hf
          refine lv_iload_n hx hb dX9_segmentAt_51 rfl (lv_at hl 4 rfl) ?_
          exact J52 _ _ _ _ _ _ _ _ _ hf hP hS (lv_sub hl [1, 2, 3, 5] rfl)
        · have hf := (if_neg c43).symm.trans hf
          refine lv_iload hx hb dX9_segmentAt_46 (lv_at hl 0 rfl) ?_
          refine lv_goto (tgt := 52) hx hb dX9_segmentAt_48 (by decide) ?_
          exact J52 _ _ _ _ _ _ _ _ _ hf hP hS (lv_sub hl [1, 2, 3, 5] rfl)
      intro M H locs ls h0 x1 x2 x3 x4 hf hP hS hl
      have hf : fX9_segmentAt_7  (fX9_segmentAt_7L  n7) M h0 x1 x2 x3 x4 = some rr := hf
      unfold fX9_segmentAt_7 at hf
      refine lv_iload hx hb dX9_segmentAt_7 (lv_at hl 4 rfl) ?_
      refine lv_iconst (v := (5 : Int32)) hx hb dX9_segmentAt_9 (by decide) ?_
      refine lv_iload_n hx hb dX9_segmentAt_10 rfl (lv_at hl 1 rfl) ?_
      refine lv_imul hx hb dX9_segmentAt_11 ?_
      refine lv_iconst (v := (5 : Int32)) hx hb dX9_segmentAt_12 (by decide) ?_
      refine lv_iadd hx hb dX9_segmentAt_13 ?_
      refine lv_icmp_ge (tgt := 59) hx hb dX9_segmentAt_14 (by decide) (fun c14 => ?_) (fun c14 => ?_)
      · have hf := (if_pos c14).symm.trans hf
        refine lv_iload_n hx hb dX9_segmentAt_59 rfl (lv_at hl 3 rfl) ?_
        exact zret_i hx hb hr hlocks hf hP hS dX9_segmentAt_60
      · have hf := (if_neg c14).symm.trans hf
        refine lv_aload_n hx hb dX9_segmentAt_17 rfl (lv_at hl 0 rfl) ?_
        obtain ⟨v18, e18, hf⟩ := zb hf
        refine zr_gr (ci := 9) (k := 20) (C := RX9) (T := TX9) (N := 54) hx hb hts hi_X9_segmentAt_9 hown hK hP e18 rfl rfl (by decide) (by decide) (hts (.fieldLink RX9 45 "BoundaryAnalyzerModel" "ruleLong" "[I") (List.mem_of_getElem? (i := 1) rfl)) dX9_segmentAt_18 ?_
        refine lv_iload hx hb dX9_segmentAt_21 (lv_at hl 4 rfl) ?_
        obtain ⟨v23, e23, hf⟩ := zb hf
        refine zr_ai hx hb hK hP e23 dX9_segmentAt_23 ?_
        refine lv_if_le (tgt := 37) hx hb dX9_segmentAt_24 (by decide) (fun c24 => ?_) (fun c24 => ?_)
        · have hf := (if_pos c24).symm.trans hf
          refine lv_iconst (v := (0 : Int32)) hx hb dX9_segmentAt_37 (by decide) ?_
          exact J38 _ _ _ _ _ _ _ _ _ _ hf hP hS (lv_sub hl [0, 1, 2, 3, 4] rfl)
        · have hf := (if_neg c24).symm.trans hf
          refine lv_aload_n hx hb dX9_segmentAt_27 rfl (lv_at hl 0 rfl) ?_
          refine lv_iload hx hb dX9_segmentAt_28 (lv_at hl 4 rfl) ?_
          refine lv_iload_n hx hb dX9_segmentAt_30 rfl (lv_at hl 2 rfl) ?_
          obtain ⟨u31, t31, hf⟩ := zb hf
          obtain ⟨r31, e31, hf⟩ := zb hf
          refine zc_i hS (va_runV (As := [.int x4, .int x2]) (rest := []) ⟨hx, hb, hml, hown, hts⟩ (k_X9_lengthOf l D cy b M h0 x4 x2 r31 e31) (cwV 2 hts gX9_segmentAt_X9_lengthOf rfl rfl rfl (by decide +kernel) ⟨Nat.le_of_ble_eq_true rfl, Nat.le_of_ble_eq_true rfl⟩) (zp_V _ hK hP t31 (T := TX9) (N := 54) rfl (by decide)) rfl rfl hl.1 rfl (lv_room (Nat.le_of_ble_eq_true rfl)) dX9_segmentAt_31 ⟨Nat.zero_le _, Nat.zero_le _⟩) (fun H locs hP hS => ?_)
          refine lv_goto (tgt := 38) hx hb dX9_segmentAt_34 (by decide) ?_
          exact J38 _ _ _ _ _ _ _ _ _ _ hf hP hS (lv_sub hl [0, 1, 2, 3, 4] rfl)
  unfold fX9_segmentAt at hf
  refine lv_iconst (v := (1 : Int32)) hx hb dX9_segmentAt_0 (by decide) ?_
  refine lv_istore_n (lv' := [(3, .int (1 : Int32)), (0, .ref (b + p0)), (1, .int p1), (2, .int p2)]) hx hb dX9_segmentAt_1 rfl hl (by decide) rfl (fun ls hl => ?_)
  refine lv_iconst (v := (5 : Int32)) hx hb dX9_segmentAt_2 (by decide) ?_
  refine lv_iload_n hx hb dX9_segmentAt_3 rfl (lv_at hl 2 rfl) ?_
  refine lv_imul hx hb dX9_segmentAt_4 ?_
  obtain ⟨x4_5, q5, hf⟩ := zlt_s hf
  refine zt q5 ?_
  refine lv_istore (lv' := [(4, .int x4_5), (3, .int (1 : Int32)), (0, .ref (b + p0)), (1, .int p1), (2, .int p2)]) hx hb dX9_segmentAt_5 hl (by decide) rfl (fun ls hl => ?_)
  exact L7 _ _ _ _ _ _ _ _ _ _ hf hP hS (lv_sub hl [2, 3, 4, 1, 0] rfl)
theorem hi_X9_analyse_9 : ∀ w ∈ wsX90, w ∈ wsX9_analyse := fun _ h => List.mem_cons_of_mem _ (List.mem_append_right _ h)
set_option maxHeartbeats 4000000 in
set_option maxRecDepth 100000 in
theorem k_X9_analyse (l : Launch) (D : va_G) (cy : Nat → ClassId) (b : Nat) (M0 : Mem) (p0 : Nat) (p1 : Int32) (rr : Mem) (hf : fX9_analyse M0 p0 p1 = some rr) : Met l yX9_analyse wsX9_analyse ({ frames := 4, cells := 0, slots := 0, locals := 104 } : Room) (zPc D cy b M0 [.ref (b + p0), .int p1]) (zQv D cy b rr) 0 0 (zA b) := by
  refine Met.ofW (cc := cX9_analyse) (maxL := 3) (ret := none) (by decide) rfl ?_
  intro p e s m args below meth c s₁ B hml hv
  obtain ⟨rfl, hP, hK⟩ := hv
  have hx := B.exec
  have hb := B.bytes
  have hr := B.returns
  have hts := atoms_spec (ws := wsX9_analyse) B.pre
  have hown : s.vm.findClass RX9 = some m.cls := findClass_of_methodNamed B.named
  have hlocks := B.notSynchronized
  have hS : va_S (zA b) s.heap s.heap [] := va_S.rf
  have hl := lv_entry ([.ref (b + p0), .int p1]) (n := 3) (Nat.le_of_ble_eq_true rfl)
  rw [lg_entry_eq]
  generalize (lg_sl ([.ref (b + p0), .int p1]) ++ List.replicate (3 - (lg_sl ([.ref (b + p0), .int p1])).length) Slot.unset).toArray = ls at hl ⊢
  have hl : lv_has ls 3 [(0, .ref (b + p0)), (1, .int p1)] := hl
  have L22 : ∀ (n22 : Nat) (M : Mem) (H : Heap) (locs : List Loc) (ls : Array Slot) (h0 : Nat) (x1 : Int32) (x2 : Int32), fX9_analyse_22L  n22 M h0 x1 x2 = some rr → zH D cy b M H → va_S (zA b) s.heap H locs → lv_has ls 3 [(0, .ref (b + h0)), (1, .int x1), (2, .int x2)] → W p l e (headSpec wsX9_analyse ({ frames := 4, cells := 0, slots := 0, locals := 104 } : Room)).room s m ([.ref (b + p0), .int p1] : List Value).toArray below meth c H locs 0 0 (MQ below (zQv D cy b rr) ([.ref (b + p0), .int p1] : List Value).toArray s 0 0 (zA b)) (F0 m 22 ls []) := by
    intro n22
    induction n22 with
    | zero =>
      intro M H locs ls h0 x1 x2 hf
      have hf : (none : Option Mem) = some rr := hf
      cases hf
    | succ n22 ih22 =>
      intro M H locs ls h0 x1 x2 hf hP hS hl
      have hf : fX9_analyse_22  (fX9_analyse_22L  n22) M h0 x1 x2 = some rr := hf
      unfold fX9_analyse_22 at hf
      refine lv_iload_n hx hb dX9_analyse_22 rfl (lv_at hl 2 rfl) ?_
      refine lv_aload_n hx hb dX9_analyse_23 rfl (lv_at hl 0 rfl) ?_
      obtain ⟨v24, e24, hf⟩ := zb hf
      refine zr_gi (ci := 9) (k := 31) (C := RX9) (T := TX9) (N := 54) hx hb hts hi_X9_analyse_9 hown hK hP e24 rfl rfl (by decide) (by decide) (hts (.fieldLink RX9 207 "BoundaryAnalyzerModel" "length" "I") (List.mem_of_getElem? (i := 3) rfl)) dX9_analyse_24 ?_
      refine lv_icmp_ge (tgt := 58) hx hb dX9_analyse_27 (by decide) (fun c27 => ?_) (fun c27 => ?_)
      · have hf := (if_pos c27).symm.trans hf
        exact zret_v hx hb hr hlocks hf hP hS dX9_analyse_58
      · have hf := (if_neg c27).symm.trans hf
        refine lv_iload_n hx hb dX9_analyse_30 rfl (lv_at hl 2 rfl) ?_
        refine lv_aload_n hx hb dX9_analyse_31 rfl (lv_at hl 0 rfl) ?_
        refine lv_iload_n hx hb dX9_analyse_32 rfl (lv_at hl 1 rfl) ?_
        refine lv_iload_n hx hb dX9_analyse_33 rfl (lv_at hl 2 rfl) ?_
        obtain ⟨u34, t34, hf⟩ := zb hf
        obtain ⟨r34, e34, hf⟩ := zb hf
        refine zc_i hS (va_runV (As := [.int x1, .int x2]) (rest := [.int x2]) ⟨hx, hb, hml, hown, hts⟩ (k_X9_segmentAt l D cy b M h0 x1 x2 r34 e34) (cwV 2 hts gX9_analyse_X9_segmentAt rfl rfl rfl (by decide +kernel) ⟨Nat.le_of_ble_eq_true rfl, Nat.le_of_ble_eq_true rfl⟩) (zp_V _ hK hP t34 (T := TX9) (N := 54) rfl (by decide)) rfl rfl hl.1 rfl (lv_room (Nat.le_of_ble_eq_true rfl)) dX9_analyse_34 ⟨Nat.zero_le _, Nat.zero_le _⟩) (fun H locs hP hS => ?_)
        refine lv_iadd hx hb dX9_analyse_37 ?_
        obtain ⟨x2_38, q38, hf⟩ := zlt_s hf
        refine zt q38 ?_
        refine lv_istore_n (lv' := [(2, .int x2_38), (0, .ref (b + h0)), (1, .int x1)]) hx hb dX9_analyse_38 rfl hl (by decide) rfl (fun ls hl => ?_)
        refine lv_aload_n hx hb dX9_analyse_39 rfl (lv_at hl 1 rfl) ?_
        refine lv_iload_n hx hb dX9_analyse_40 rfl (lv_at hl 2 rfl) ?_
        refine lv_iload_n hx hb dX9_analyse_41 rfl (lv_at hl 0 rfl) ?_
        obtain ⟨u42, t42, hf⟩ := zb hf
        obtain ⟨M42, e42, hf⟩ := zb hf
        refine zc_v hS (va_runV (As := [.int x1, .int x2_38]) (rest := []) ⟨hx, hb, hml, hown, hts⟩ (k_X9_append l D cy b r34.2 h0 x1 x2_38 M42 e42) (cwV 2 hts gX9_analyse_X9_append rfl rfl rfl (by decide +kernel) ⟨Nat.le_of_ble_eq_true rfl, Nat.le_of_ble_eq_true rfl⟩) (zp_V _ hK hP t42 (T := TX9) (N := 54) rfl (by decide)) rfl rfl hl.1 rfl (lv_room (Nat.le_of_ble_eq_true rfl)) dX9_analyse_42 ⟨Nat.zero_le _, Nat.zero_le _⟩) (fun H locs hP hS => ?_)
        refine lv_aload_n hx hb dX9_analyse_45 rfl (lv_at hl 1 rfl) ?_
        obtain ⟨v46, e46, hf⟩ := zb hf
        refine zr_gr (ci := 9) (k := 35) (C := RX9) (T := TX9) (N := 54) hx hb hts hi_X9_analyse_9 hown hK hP e46 rfl rfl (by decide) (by decide) (hts (.fieldLink RX9 87 "BoundaryAnalyzerModel" "workOf" "[I") (List.mem_of_getElem? (i := 2) rfl)) dX9_analyse_46 ?_
        refine lv_iload_n hx hb dX9_analyse_49 rfl (lv_at hl 2 rfl) ?_
        refine lv_dup2_11 hx hb dX9_analyse_50 rfl rfl ?_
        obtain ⟨v51, e51, hf⟩ := zb hf
        refine zr_ai hx hb hK hP e51 dX9_analyse_51 ?_
        refine lv_iconst (v := (1 : Int32)) hx hb dX9_analyse_52 (by decide) ?_
        refine lv_iadd hx hb dX9_analyse_53 ?_
        obtain ⟨M54, e54, hf⟩ := zb hf
        refine zr_si hx hb hK hP hS e54 dX9_analyse_54 (fun H locs hP _ hS => ?_)
        refine lv_goto (tgt := 22) hx hb dX9_analyse_55 (by decide) ?_
        exact ih22 _ _ _ _ _ _ _ hf hP hS (lv_sub hl [1, 2, 0] rfl)
  unfold fX9_analyse at hf
  refine lv_aload_n hx hb dX9_analyse_0 rfl (lv_at hl 0 rfl) ?_
  obtain ⟨v1, e1, hf⟩ := zb hf
  refine zr_gr (ci := 9) (k := 33) (C := RX9) (T := TX9) (N := 54) hx hb hts hi_X9_analyse_9 hown hK hP e1 rfl rfl (by decide) (by decide) (hts (.fieldLink RX9 81 "BoundaryAnalyzerModel" "rawMany" "[I") (List.mem_of_getElem? (i := 1) rfl)) dX9_analyse_1 ?_
  refine lv_iload_n hx hb dX9_analyse_4 rfl (lv_at hl 1 rfl) ?_
  refine lv_iconst (v := (0 : Int32)) hx hb dX9_analyse_5 (by decide) ?_
  obtain ⟨M6, e6, hf⟩ := zb hf
  refine zr_si hx hb hK hP hS e6 dX9_analyse_6 (fun H locs hP _ hS => ?_)
  refine lv_aload_n hx hb dX9_analyse_7 rfl (lv_at hl 0 rfl) ?_
  refine lv_iload_n hx hb dX9_analyse_8 rfl (lv_at hl 1 rfl) ?_
  refine lv_iconst (v := (0 : Int32)) hx hb dX9_analyse_9 (by decide) ?_
  obtain ⟨u10, t10, hf⟩ := zb hf
  obtain ⟨M10, e10, hf⟩ := zb hf
  refine zc_v hS (va_runV (As := [.int p1, .int (0 : Int32)]) (rest := []) ⟨hx, hb, hml, hown, hts⟩ (k_X9_append l D cy b M6 p0 p1 (0 : Int32) M10 e10) (cwV 2 hts gX9_analyse_X9_append rfl rfl rfl (by decide +kernel) ⟨Nat.le_of_ble_eq_true rfl, Nat.le_of_ble_eq_true rfl⟩) (zp_V _ hK hP t10 (T := TX9) (N := 54) rfl (by decide)) rfl rfl hl.1 rfl (lv_room (Nat.le_of_ble_eq_true rfl)) dX9_analyse_10 ⟨Nat.zero_le _, Nat.zero_le _⟩) (fun H locs hP hS => ?_)
  refine lv_aload_n hx hb dX9_analyse_13 rfl (lv_at hl 0 rfl) ?_
  obtain ⟨v14, e14, hf⟩ := zb hf
  refine zr_gr (ci := 9) (k := 35) (C := RX9) (T := TX9) (N := 54) hx hb hts hi_X9_analyse_9 hown hK hP e14 rfl rfl (by decide) (by decide) (hts (.fieldLink RX9 87 "BoundaryAnalyzerModel" "workOf" "[I") (List.mem_of_getElem? (i := 2) rfl)) dX9_analyse_14 ?_
  refine lv_iload_n hx hb dX9_analyse_17 rfl (lv_at hl 1 rfl) ?_
  refine lv_iconst (v := (0 : Int32)) hx hb dX9_analyse_18 (by decide) ?_
  obtain ⟨M19, e19, hf⟩ := zb hf
  refine zr_si hx hb hK hP hS e19 dX9_analyse_19 (fun H locs hP _ hS => ?_)
  refine lv_iconst (v := (0 : Int32)) hx hb dX9_analyse_20 (by decide) ?_
  refine lv_istore_n (lv' := [(2, .int (0 : Int32)), (0, .ref (b + p0)), (1, .int p1)]) hx hb dX9_analyse_21 rfl hl (by decide) rfl (fun ls hl => ?_)
  exact L22 _ _ _ _ _ _ _ _ hf hP hS (lv_sub hl [1, 2, 0] rfl)
