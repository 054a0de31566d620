theorem hi_X9_append_9 : ∀ w ∈ wsX90, w ∈ wsX9_append := fun _ h => List.mem_cons_of_mem _ (List.mem_append_right _ h)
set_option maxHeartbeats 4000000 in
set_option maxRecDepth 100000 in
theorem k_X9_append (l : Launch) (D : va_G) (cy : Nat → ClassId) (b : Nat) (M0 : Mem) (p0 : Nat) (p1 : Int32) (p2 : Int32) (rr : Mem) (hf : fX9_append M0 p0 p1 p2 = some rr) : Met l yX9_append wsX9_append ({ frames := 0, cells := 0, slots := 0, locals := 0 } : Room) (zPc D cy b M0 [.ref (b + p0), .int p1, .int p2]) (zQv D cy b rr) 0 0 (zA b) := by
  refine Met.ofW (cc := cX9_append) (maxL := 3) (ret := none) (by decide) rfl ?_
  intro p e s m args below meth c s₁ B hml hv
  obtain ⟨rfl, hP, hK⟩ := hv
  have hx := B.exec
  have hb := B.bytes
  have hr := B.returns
  have hts := atoms_spec (ws := wsX9_append) B.pre
  have hown : s.vm.findClass RX9 = some m.cls := findClass_of_methodNamed B.named
  have hlocks := B.notSynchronized
  have hS : va_S (zA b) s.heap s.heap [] := va_S.rf
  have hl := lv_entry ([.ref (b + p0), .int p1, .int p2]) (n := 3) (Nat.le_of_ble_eq_true rfl)
  rw [lg_entry_eq]
  generalize (lg_sl ([.ref (b + p0), .int p1, .int p2]) ++ List.replicate (3 - (lg_sl ([.ref (b + p0), .int p1, .int p2])).length) Slot.unset).toArray = ls at hl ⊢
  have hl : lv_has ls 3 [(0, .ref (b + p0)), (1, .int p1), (2, .int p2)] := hl
  unfold fX9_append at hf
  refine lv_aload_n hx hb dX9_append_0 rfl (lv_at hl 0 rfl) ?_
  obtain ⟨v1, e1, hf⟩ := zb hf
  refine zr_gr (ci := 9) (k := 34) (C := RX9) (T := TX9) (N := 54) hx hb hts hi_X9_append_9 hown hK hP e1 rfl rfl (by decide) (by decide) (hts (.fieldLink RX9 84 "BoundaryAnalyzerModel" "rawAt" "[I") (List.mem_of_getElem? (i := 1) rfl)) dX9_append_1 ?_
  refine lv_bipush (v := (101 : Int32)) hx hb dX9_append_4 (by decide) ?_
  refine lv_iload_n hx hb dX9_append_6 rfl (lv_at hl 1 rfl) ?_
  refine lv_imul hx hb dX9_append_7 ?_
  refine lv_aload_n hx hb dX9_append_8 rfl (lv_at hl 0 rfl) ?_
  obtain ⟨v9, e9, hf⟩ := zb hf
  refine zr_gr (ci := 9) (k := 33) (C := RX9) (T := TX9) (N := 54) hx hb hts hi_X9_append_9 hown hK hP e9 rfl rfl (by decide) (by decide) (hts (.fieldLink RX9 81 "BoundaryAnalyzerModel" "rawMany" "[I") (List.mem_of_getElem? (i := 2) rfl)) dX9_append_9 ?_
  refine lv_iload_n hx hb dX9_append_12 rfl (lv_at hl 1 rfl) ?_
  obtain ⟨v13, e13, hf⟩ := zb hf
  refine zr_ai hx hb hK hP e13 dX9_append_13 ?_
  refine lv_iadd hx hb dX9_append_14 ?_
  refine lv_iload_n hx hb dX9_append_15 rfl (lv_at hl 2 rfl) ?_
  obtain ⟨M16, e16, hf⟩ := zb hf
  refine zr_si hx hb hK hP hS e16 dX9_append_16 (fun H locs hP _ hS => ?_)
  refine lv_aload_n hx hb dX9_append_17 rfl (lv_at hl 0 rfl) ?_
  obtain ⟨v18, e18, hf⟩ := zb hf
  refine zr_gr (ci := 9) (k := 33) (C := RX9) (T := TX9) (N := 54) hx hb hts hi_X9_append_9 hown hK hP e18 rfl rfl (by decide) (by decide) (hts (.fieldLink RX9 81 "BoundaryAnalyzerModel" "rawMany" "[I") (List.mem_of_getElem? (i := 2) rfl)) dX9_append_18 ?_
  refine lv_iload_n hx hb dX9_append_21 rfl (lv_at hl 1 rfl) ?_
  refine lv_dup2_11 hx hb dX9_append_22 rfl rfl ?_
  obtain ⟨v23, e23, hf⟩ := zb hf
  refine zr_ai hx hb hK hP e23 dX9_append_23 ?_
  refine lv_iconst (v := (1 : Int32)) hx hb dX9_append_24 (by decide) ?_
  refine lv_iadd hx hb dX9_append_25 ?_
  obtain ⟨M26, e26, hf⟩ := zb hf
  refine zr_si hx hb hK hP hS e26 dX9_append_26 (fun H locs hP _ hS => ?_)
  exact zret_v hx hb hr hlocks hf hP hS dX9_append_27
theorem hi_X9_matching_9 : ∀ w ∈ wsX90, w ∈ wsX9_matching := fun _ h => List.mem_cons_of_mem _ (List.mem_append_right _ h)
set_option maxHeartbeats 4000000 in
set_option maxRecDepth 100000 in
theorem k_X9_matching (l : Launch) (D : va_G) (cy : Nat → ClassId) (b : Nat) (M0 : Mem) (p0 : Nat) (p1 : Int32) (p2 : Int32) (p3 : Int32) (rr : Int32 × Mem) (hf : fX9_matching M0 p0 p1 p2 p3 = some rr) : Met l yX9_matching wsX9_matching ({ frames := 0, cells := 0, slots := 0, locals := 0 } : Room) (zPc D cy b M0 [.ref (b + p0), .int p1, .int p2, .int p3]) (zQi D cy b rr) 0 0 (zA b) := by
  refine Met.ofW (cc := cX9_matching) (maxL := 8) (ret := (some .int)) (by decide) rfl ?_
  intro p e s m args below meth c s₁ B hml hv
  obtain ⟨rfl, hP, hK⟩ := hv
  have hx := B.exec
  have hb := B.bytes
  have hr := B.returns
  have hts := atoms_spec (ws := wsX9_matching) B.pre
  have hown : s.vm.findClass RX9 = some m.cls := findClass_of_methodNamed B.named
  have hlocks := B.notSynchronized
  have hS : va_S (zA b) s.heap s.heap [] := va_S.rf
  have hl := lv_entry ([.ref (b + p0), .int p1, .int p2, .int p3]) (n := 8) (Nat.le_of_ble_eq_true rfl)
  rw [lg_entry_eq]
  generalize (lg_sl ([.ref (b + p0), .int p1, .int p2, .int p3]) ++ List.replicate (8 - (lg_sl ([.ref (b + p0), .int p1, .int p2, .int p3])).length) Slot.unset).toArray = ls at hl ⊢
  have hl : lv_has ls 8 [(0, .ref (b + p0)), (1, .int p1), (2, .int p2), (3, .int p3)] := hl
  have L19 : ∀ (n19 : Nat) (M : Mem) (H : Heap) (locs : List Loc) (ls : Array Slot) (h0 : Nat) (x1 : Int32) (x2 : Int32) (x4 : Int32) (x5 : Int32) (x6 : Int32), fX9_matching_19L  n19 M h0 x1 x2 x4 x5 x6 = some rr → zH D cy b M H → va_S (zA b) s.heap H locs → lv_has ls 8 [(0, .ref (b + h0)), (1, .int x1), (2, .int x2), (4, .int x4), (5, .int x5), (6, .int x6)] → W p l e (headSpec wsX9_matching ({ frames := 0, cells := 0, slots := 0, locals := 0 } : Room)).room s m ([.ref (b + p0), .int p1, .int p2, .int p3] : List Value).toArray below meth c H locs 0 0 (MQ below (zQi D cy b rr) ([.ref (b + p0), .int p1, .int p2, .int p3] : List Value).toArray s 0 0 (zA b)) (F0 m 19 ls []) := by
    intro n19
    induction n19 with
    | zero =>
      intro M H locs ls h0 x1 x2 x4 x5 x6 hf
      have hf : (none : Option (Int32 × Mem)) = some rr := hf
      cases hf
    | succ n19 ih19 =>
      have J78 : ∀ (M : Mem) (H : Heap) (locs : List Loc) (ls : Array Slot) (h0 : Nat) (x1 : Int32) (x2 : Int32) (x5 : Int32) (x6 : Int32) (y0 : Int32) (y1 : Int32), fX9_matching_78 (fX9_matching_19L  n19) M h0 x1 x2 x5 x6 y0 y1 = some rr → zH D cy b M H → va_S (zA b) s.heap H locs → lv_has ls 8 [(0, .ref (b + h0)), (1, .int x1), (2, .int x2), (5, .int x5), (6, .int x6)] → W p l e (headSpec wsX9_matching ({ frames := 0, cells := 0, slots := 0, locals := 0 } : Room)).room s m ([.ref (b + p0), .int p1, .int p2, .int p3] : List Value).toArray below meth c H locs 0 0 (MQ below (zQi D cy b rr) ([.ref (b + p0), .int p1, .int p2, .int p3] : List Value).toArray s 0 0 (zA b)) (F0 m 78 ls [.int y1, .int y0]) := by
        intro M H locs ls h0 x1 x2 x5 x6 y0 y1 hf hP hS hl
        unfold fX9_matching_78 at hf
        refine lv_ior hx hb dX9_matching_78 ?_
        obtain ⟨x4_79, q79, hf⟩ := zlt_s hf
        refine zt q79 ?_
        refine lv_istore (lv' := [(4, .int x4_79), (0, .ref (b + h0)), (1, .int x1), (2, .int x2), (5, .int x5), (6, .int x6)]) hx hb dX9_matching_79 hl (by decide) rfl (fun ls hl => ?_)
        obtain ⟨x6_81, q81, hf⟩ := zlt_s hf
        refine lv_iinc (v := x6_81) (lv' := [(6, .int x6_81), (4, .int x4_79), (0, .ref (b + h0)), (1, .int x1), (2, .int x2), (5, .int x5)]) hx hb dX9_matching_81 hl (k := 5) rfl (by rw [← q81]; rfl) (by decide) rfl (fun ls hl => ?_)
        refine lv_goto (tgt := 19) hx hb dX9_matching_84 (by decide) ?_
        exact ih19 _ _ _ _ _ _ _ _ _ _ hf hP hS (lv_sub hl [2, 3, 4, 1, 5, 0] rfl)
      have J70 : ∀ (M : Mem) (H : Heap) (locs : List Loc) (ls : Array Slot) (h0 : Nat) (x1 : Int32) (x2 : Int32) (x5 : Int32) (x6 : Int32) (y0 : Int32), fX9_matching_70 (fX9_matching_19L  n19) M h0 x1 x2 x5 x6 y0 = some rr → zH D cy b M H → va_S (zA b) s.heap H locs → lv_has ls 8 [(0, .ref (b + h0)), (1, .int x1), (2, .int x2), (5, .int x5), (6, .int x6)] → W p l e (headSpec wsX9_matching ({ frames := 0, cells := 0, slots := 0, locals := 0 } : Room)).room s m ([.ref (b + p0), .int p1, .int p2, .int p3] : List Value).toArray below meth c H locs 0 0 (MQ below (zQi D cy b rr) ([.ref (b + p0), .int p1, .int p2, .int p3] : List Value).toArray s 0 0 (zA b)) (F0 m 70 ls [.int y0]) := by
        intro M H locs ls h0 x1 x2 x5 x6 y0 hf hP hS hl
        unfold fX9_matching_70 at hf
        refine lv_iconst (v := (1 : Int32)) hx hb dX9_matching_70 (by decide) ?_
        refine lv_iload hx hb dX9_matching_71 (lv_at hl 4 rfl) ?_
        refine lv_ishl hx hb dX9_matching_73 ?_
        refine lv_goto (tgt := 78) hx hb dX9_matching_74 (by decide) ?_
        exact J78 _ _ _ _ _ _ _ _ _ _ _ hf hP hS (lv_sub hl [0, 1, 2, 3, 4] rfl)
      have J77 : ∀ (M : Mem) (H : Heap) (locs : List Loc) (ls : Array Slot) (h0 : Nat) (x1 : Int32) (x2 : Int32) (x5 : Int32) (x6 : Int32) (y0 : Int32), fX9_matching_77 (fX9_matching_19L  n19) M h0 x1 x2 x5 x6 y0 = some rr → zH D cy b M H → va_S (zA b) s.heap H locs → lv_has ls 8 [(0, .ref (b + h0)), (1, .int x1), (2, .int x2), (5, .int x5), (6, .int x6)] → W p l e (headSpec wsX9_matching ({ frames := 0, cells := 0, slots := 0, locals := 0 } : Room)).room s m ([.ref (b + p0), .int p1, .int p2, .int p3] : List Value).toArray below meth c H locs 0 0 (MQ below (zQi D cy b rr) ([.ref (b + p0), .int p1, .int p2, .int p3] : List Value).toArray s 0 0 (zA b)) (F0 m 77 ls [.int y0]) := by
        intro M H locs ls h0 x1 x2 x5 x6 y0 hf hP hS hl
        unfold fX9_matching_77 at hf
        refine lv_iconst (v := (0 : Int32)) hx hb dX9_matching_77 (by decide) ?_
        exact J78 _ _ _ _ _ _ _ _ _ _ _ hf hP hS (lv_sub hl [0, 1, 2, 3, 4] rfl)
      intro M H locs ls h0 x1 x2 x4 x5 x6 hf hP hS hl
      have hf : fX9_matching_19  (fX9_matching_19L  n19) M h0 x1 x2 x4 x5 x6 = some rr := hf
      unfold fX9_matching_19 at hf
      refine lv_iload hx hb dX9_matching_19 (lv_at hl 5 rfl) ?_
      refine lv_aload_n hx hb dX9_matching_21 rfl (lv_at hl 0 rfl) ?_
      obtain ⟨v22, e22, hf⟩ := zb hf
      refine zr_gr (ci := 9) (k := 20) (C := RX9) (T := TX9) (N := 54) hx hb hts hi_X9_matching_9 hown hK hP e22 rfl rfl (by decide) (by decide) (hts (.fieldLink RX9 45 "BoundaryAnalyzerModel" "ruleLong" "[I") (List.mem_of_getElem? (i := 3) rfl)) dX9_matching_22 ?_
      refine lv_iload_n hx hb dX9_matching_25 rfl (lv_at hl 1 rfl) ?_
      obtain ⟨v26, e26, hf⟩ := zb hf
      refine zr_ai hx hb hK hP e26 dX9_matching_26 ?_
      refine lv_icmp_ge (tgt := 87) hx hb dX9_matching_27 (by decide) (fun c27 => ?_) (fun c27 => ?_)
      · have hf := (if_pos c27).symm.trans hf
        refine lv_iload hx hb dX9_matching_87 (lv_at hl 3 rfl) ?_
        exact zret_i hx hb hr hlocks hf hP hS dX9_matching_89
      · have hf := (if_neg c27).symm.trans hf
        refine lv_aload_n hx hb dX9_matching_30 rfl (lv_at hl 0 rfl) ?_
        obtain ⟨v31, e31, hf⟩ := zb hf
        refine zr_gr (ci := 9) (k := 22) (C := RX9) (T := TX9) (N := 54) hx hb hts hi_X9_matching_9 hown hK hP e31 rfl rfl (by decide) (by decide) (hts (.fieldLink RX9 51 "BoundaryAnalyzerModel" "classOfPlace" "[I") (List.mem_of_getElem? (i := 4) rfl)) dX9_matching_31 ?_
        refine lv_bipush (v := (24 : Int32)) hx hb dX9_matching_34 (by decide) ?_
        refine lv_iload_n hx hb dX9_matching_36 rfl (lv_at hl 1 rfl) ?_
        refine lv_imul hx hb dX9_matching_37 ?_
        refine lv_iload hx hb dX9_matching_38 (lv_at hl 5 rfl) ?_
        refine lv_iadd hx hb dX9_matching_40 ?_
        obtain ⟨v41, e41, hf⟩ := zb hf
        refine zr_ai hx hb hK hP e41 dX9_matching_41 ?_
        refine lv_istore (lv' := [(7, .int v41), (0, .ref (b + h0)), (1, .int x1), (2, .int x2), (4, .int x4), (5, .int x5), (6, .int x6)]) hx hb dX9_matching_42 hl (by decide) rfl (fun ls hl => ?_)
        refine lv_iload hx hb dX9_matching_44 (lv_at hl 4 rfl) ?_
        refine lv_iload_n hx hb dX9_matching_46 rfl (lv_at hl 3 rfl) ?_
        refine lv_iload hx hb dX9_matching_47 (lv_at hl 6 rfl) ?_
        refine lv_ishr hx hb dX9_matching_49 ?_
        refine lv_iconst (v := (1 : Int32)) hx hb dX9_matching_50 (by decide) ?_
        refine lv_iand hx hb dX9_matching_51 ?_
        refine lv_iconst (v := (1 : Int32)) hx hb dX9_matching_52 (by decide) ?_
        refine lv_icmp_ne (tgt := 77) hx hb dX9_matching_53 (by decide) (fun c53 => ?_) (fun c53 => ?_)
        · have hf := (if_neg c53).symm.trans hf
          exact J77 _ _ _ _ _ _ _ _ _ _ hf hP hS (lv_sub hl [1, 2, 3, 5, 6] rfl)
        · have hf := (if_pos c53).symm.trans hf
          refine lv_iload hx hb dX9_matching_56 (lv_at hl 0 rfl) ?_
          refine lv_bipush (v := (12 : Int32)) hx hb dX9_matching_58 (by decide) ?_
          refine lv_icmp_eq (tgt := 70) hx hb dX9_matching_60 (by decide) (fun c60 => ?_) (fun c60 => ?_)
          · have hf := (if_pos c60).symm.trans hf
            exact J70 _ _ _ _ _ _ _ _ _ _ hf hP hS (lv_sub hl [1, 2, 3, 5, 6] rfl)
          · have hf := (if_neg c60).symm.trans hf
            refine lv_iload hx hb dX9_matching_63 (lv_at hl 0 rfl) ?_
            refine lv_iload hx hb dX9_matching_65 (lv_at hl 5 rfl) ?_
            refine lv_icmp_ne (tgt := 77) hx hb dX9_matching_67 (by decide) (fun c67 => ?_) (fun c67 => ?_)
            · have hf := (if_neg c67).symm.trans hf
              exact J77 _ _ _ _ _ _ _ _ _ _ hf hP hS (lv_sub hl [1, 2, 3, 5, 6] rfl)
            · have hf := (if_pos c67).symm.trans hf
              exact J70 _ _ _ _ _ _ _ _ _ _ hf hP hS (lv_sub hl [1, 2, 3, 5, 6] rfl)
  unfold fX9_matching at hf
  refine lv_iconst (v := (0 : Int32)) hx hb dX9_matching_0 (by decide) ?_
  refine lv_istore (lv' := [(4, .int (0 : Int32)), (0, .ref (b + p0)), (1, .int p1), (2, .int p2), (3, .int p3)]) hx hb dX9_matching_1 hl (by decide) rfl (fun ls hl => ?_)
  refine lv_aload_n hx hb dX9_matching_3 rfl (lv_at hl 1 rfl) ?_
  obtain ⟨v4, e4, hf⟩ := zb hf
  refine zr_gr (ci := 9) (k := 0) (C := RX9) (T := TX9) (N := 54) hx hb hts hi_X9_matching_9 hown hK hP e4 rfl rfl (by decide) (by decide) (hts (.fieldLink RX9 7 "BoundaryAnalyzerModel" "classAt" "[I") (List.mem_of_getElem? (i := 1) rfl)) dX9_matching_4 ?_
  refine lv_aload_n hx hb dX9_matching_7 rfl (lv_at hl 1 rfl) ?_
  obtain ⟨v8, e8, hf⟩ := zb hf
  refine zr_gr (ci := 9) (k := 32) (C := RX9) (T := TX9) (N := 54) hx hb hts hi_X9_matching_9 hown hK hP e8 rfl rfl (by decide) (by decide) (hts (.fieldLink RX9 78 "BoundaryAnalyzerModel" "text" "[C") (List.mem_of_getElem? (i := 2) rfl)) dX9_matching_8 ?_
  refine lv_iload_n hx hb dX9_matching_11 rfl (lv_at hl 4 rfl) ?_
  obtain ⟨v12, e12, hf⟩ := zb hf
  refine zr_ac hx hb hK hP e12 dX9_matching_12 ?_
  obtain ⟨v13, e13, hf⟩ := zb hf
  refine zr_ai hx hb hK hP e13 dX9_matching_13 ?_
  refine lv_istore (lv' := [(5, .int v13), (4, .int (0 : Int32)), (0, .ref (b + p0)), (1, .int p1), (2, .int p2), (3, .int p3)]) hx hb dX9_matching_14 hl (by decide) rfl (fun ls hl => ?_)
  refine lv_iconst (v := (0 : Int32)) hx hb dX9_matching_16 (by decide) ?_
  refine lv_istore (lv' := [(6, .int (0 : Int32)), (5, .int v13), (4, .int (0 : Int32)), (0, .ref (b + p0)), (1, .int p1), (2, .int p2), (3, .int p3)]) hx hb dX9_matching_17 hl (by decide) rfl (fun ls hl => ?_)
  exact L19 _ _ _ _ _ _ _ _ _ _ _ hf hP hS (lv_sub hl [3, 4, 5, 2, 1, 0] rfl)
