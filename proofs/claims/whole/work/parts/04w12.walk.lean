theorem hi_X9_matching_9 : ∀ w ∈ wsX90, w ∈ wsX9_matching := fun _ h => List.mem_cons_of_mem _ (List.mem_append_right _ h)
set_option maxHeartbeats 4000000 in
set_option maxRecDepth 100000 in
theorem k_X9_matching (l : Launch) (D : va_G) (cy : Nat → ClassId) (b : Nat) (M0 : Mem) (h0 : Nat) (x1 : Int32) (x2 : Int32) (x3 : Int32) (rr : Int32 × Mem) (hf : fX9_matching M0 h0 x1 x2 x3 = some rr) : Met l yX9_matching wsX9_matching ({ frames := 0, cells := 0, slots := 0, locals := 0 } : Room) (zPc D cy b M0 [.ref (b + h0), .int x1, .int x2, .int x3]) (zQi D cy b rr) 0 0 (zA b) := by
  refine Met.ofW (cc := cX9_matching) (maxL := 8) (ret := (some .int)) (by decide) rfl ?_
  intro p e s m args below meth c s₁ B hml hv
  obtain ⟨rfl, hP, hK⟩ := hv
  have hx := B.exec
  have hb := B.bytes
  have hr := B.returns
  have hts := atoms_spec (ws := wsX9_matching) B.pre
  have hown : s.vm.findClass RX9 = some m.cls := findClass_of_methodNamed B.named
  have hlocks := B.notSynchronized
  have hS : va_S (zA b) s.heap s.heap [] := va_S.rf
  have hl := lv_entry ([.ref (b + h0), .int x1, .int x2, .int x3]) (n := 8) (Nat.le_of_ble_eq_true rfl)
  rw [lg_entry_eq]
  generalize (lg_sl ([.ref (b + h0), .int x1, .int x2, .int x3]) ++ List.replicate (8 - (lg_sl ([.ref (b + h0), .int x1, .int x2, .int x3])).length) Slot.unset).toArray = ls at hl ⊢
  have hl : lv_has ls 8 [(0, .ref (b + h0)), (1, .int x1), (2, .int x2), (3, .int x3)] := hl
  have L19 : ∀ (n19 : Nat) (M : Mem) (H : Heap) (locs : List Loc) (ls : Array Slot) (h0 : Nat) (x1 : Int32) (x2 : Int32) (x4 : Int32) (x5 : Int32) (x6 : Int32), fX9_matching_19L  n19 M h0 x1 x2 x4 x5 x6 = some rr → zH D cy b M H → va_S (zA b) s.heap H locs → lv_has ls 8 [(0, .ref (b + h0)), (1, .int x1), (2, .int x2), (4, .int x4), (5, .int x5), (6, .int x6)] → W p l e (headSpec wsX9_matching ({ frames := 0, cells := 0, slots := 0, locals := 0 } : Room)).room s m ([.ref (b + h0), .int x1, .int x2, .int x3] : List Value).toArray below meth c H locs 0 0 (MQ below (zQi D cy b rr) ([.ref (b + h0), .int x1, .int x2, .int x3] : List Value).toArray s 0 0 (zA b)) (F0 m 19 ls []) := by
    intro n19
    induction n19 with
    | zero =>
      intro M H locs ls h0 x1 x2 x4 x5 x6 hf
      have hf : (none : Option (Int32 × Mem)) = some rr := hf
      cases hf
    | succ n19 ih19 =>
      have J78 : ∀ (M : Mem) (H : Heap) (locs : List Loc) (ls : Array Slot) (h0 : Nat) (x1 : Int32) (x2 : Int32) (x5 : Int32) (x6 : Int32) (y0 : Int32) (y1 : Int32), fX9_matching_78 (fX9_matching_19L  n19) M h0 x1 x2 x5 x6 y0 y1 = some rr → zH D cy b M H → va_S (zA b) s.heap H locs → lv_has ls 8 [(0, .ref (b + h0)), (1, .int x1), (2, .int x2), (5, .int x5), (6, .int x6)] → W p l e (headSpec wsX9_matching ({ frames := 0, cells := 0, slots := 0, locals := 0 } : Room)).room s m ([.ref (b + h0), .int x1, .int x2, .int x3] : List Value).toArray below meth c H locs 0 0 (MQ below (zQi D cy b rr) ([.ref (b + h0), .int x1, .int x2, .int x3] : List Value).toArray s 0 0 (zA b)) (F0 m 78 ls [.int y1, .int y0]) := by
        intro M H locs ls h0 x1 x2 x5 x6 y0 y1 hf hP hS hl
        unfold fX9_matching_78 at hf
        refine lv_ior hx hb dX9_matching_78 ?_
        obtain ⟨x4_79, q79, hf⟩ := zlt_s hf
        refine zt q79 ?_
        refine lv_istore (lv' := [(4, .int x4_79), (0, .ref (b + h0)), (1, .int x1), (2, .int x2), (5, .int x5), (6, .int x6)]) hx hb dX9_matching_79 hl (by decide) rfl (fun ls hl => ?_)
        obtain ⟨x6_81, q81, hf⟩ := zlt_s hf
        refine lv_iinc (v := x6_81) (lv' := [(6, .int x6_81), (4, .int x4_79), (0, .ref (b + h0)), (1, .int x1), (2, .int x2), (5, .int x5)]) hx hb dX9_matching_81 hl (k := 5) rfl (by rw [← q81]; rfl) (by decide) rfl (fun ls hl => ?_)
        refine lv_goto (tgt := 19) hx hb dX9_matching_84 (by decide) ?_
        exact ih19 _ _ _ _ _ _ _ _ _ _ hf hP hS (lv_sub hl [2, 3, 4, 1, 5, 0] rfl)
      have J70 : ∀ (M : Mem) (H : Heap) (locs : List Loc) (ls : Array Slot) (h0 : Nat) (x1 : Int32) (x2 : Int32) (x5 : Int32) (x6 : Int32) (y0 : Int32), fX9_matching_70 (fX9_matching_19L  n19) M h0 x1 x2 x5 x6 y0 = some rr → zH D cy b M H → va_S (zA b) s.heap H locs → lv_has ls 8 [(0, .ref (b + h0)), (1, .int x1), (2, .int x2), (5, .int x5), (6, .int x6)] → W p l e (headSpec wsX9_matching ({ frames := 0, cells := 0, slots := 0, locals := 0 } : Room)).room s m ([.ref (b + h0), .int x1, .int x2, .int x3] : List Value).toArray below meth c H locs 0 0 (MQ below (zQi D cy b rr) ([.ref (b + h0), .int x1, .int x2, .int x3] : List Value).toArray s 0 0 (zA b)) (F0 m 70 ls [.int y0]) := by
        intro M H locs ls h0 x1 x2 x5 x6 y0 hf hP hS hl
        unfold fX9_matching_70 at hf
        refine lv_iconst (v := (1 : Int32)) hx hb dX9_matching_70 (by decide) ?_
        refine lv_iload hx hb dX9_matching_71 (lv_at hl 4 rfl) ?_
        refine lv_ishl hx hb dX9_matching_73 ?_
        refine lv_goto (tgt := 78) hx hb dX9_matching_74 (by decide) ?_
        exact J78 _ _ _ _ _ _ _ _ _ _ _ hf hP hS (lv_sub hl [0, 1, 2, 3, 4] rfl)
      have J77 : ∀ (M : Mem) (H : Heap) (locs : List Loc) (ls : Array Slot) (h0 : Nat) (x1 : Int32) (x2 : Int32) (x5 : Int32) (x6 : Int32) (y0 : Int32), fX9_matching_77 (fX9_matching_19L  n19) M h0 x1 x2 x5 x6 y0 = some rr → zH D cy b M H → va_S (zA b) s.heap H locs → lv_has ls 8 [(0, .ref (b + h0)), (1, .int x1), (2, .int x2), (5, .int x5), (6, .int x6)] → W p l e (headSpec wsX9_matching ({ frames := 0, cells := 0, slots := 0, locals := 0 } : Room)).room s m ([.ref (b + h0), .int x1, .int x2, .int x3] : List Value).toArray below meth c H locs 0 0 (MQ below (zQi D cy b rr) ([.ref (b + h0), .int x1, .int x2, .int x3] : List Value).toArray s 0 0 (zA b)) (F0 m 77 ls [.int y0]) := by
        intro M H locs ls h0 x1 x2 x5 x6 y0 hf hP hS hl
        unfold fX9_matching_77 at hf
        refine lv_iconst (v := (0 : Int32)) hx hb dX9_matching_77 (by decide) ?_
        exact J78 _ _ _ _ _ _ _ _ _ _ _ hf hP hS (lv_sub hl [0, 1, 2, 3, 4] rfl)
      intro M H locs ls h0 x1 x2 x4 x5 x6 hf hP hS hl
      have hf : fX9_matching_19  (fX9_matching_19L  n19) M h0 x1 x2 x4 x5 x6 = some rr := hf
      unfold fX9_matching_19 at hf
      refine lv_iload hx hb dX9_matching_19 (lv_at hl 5 rfl) ?_
      refine lv_aload_n hx hb dX9_matching_21 rfl (lv_at hl 0 rfl) ?_
      obtain ⟨v22, e22, hf⟩ := zb hf
      refine zr_gr (ci := 9) (k := 20) (C := RX9) (T := TX9) (N := 54) hx hb hts hi_X9_matching_9 hown hK hP e22 rfl rfl (by decide) (by decide) (hts (.fieldLink RX9 45 "BoundaryAnalyzerModel" "ruleLong" "[I") (List.mem_of_getElem? (i := 3) rfl)) dX9_matching_22 ?_
      refine lv_iload_n hx hb dX9_matching_25 rfl (lv_at hl 1 rfl) ?_
      obtain ⟨v26, e26, hf⟩ := zb hf
      refine zr_ai hx hb hK hP e26 dX9_matching_26 ?_
      refine lv_icmp_ge (tgt := 87) hx hb dX9_matching_27 (by decide) (fun c27 => ?_) (fun c27 => ?_)
      · have hf := (if_pos c27).symm.trans hf
        refine lv_iload hx hb dX9_matching_87 (lv_at hl 3 rfl) ?_
        exact zret_i hx hb hr hlocks hf hP hS dX9_matching_89
      · have hf := (if_neg c27).symm.trans hf
        refine lv_aload_n hx hb dX9_matching_30 rfl (lv_at hl 0 rfl) ?_
        obtain ⟨v31, e31, hf⟩ := zb hf
        refine zr_gr (ci := 9) (k := 22) (C := RX9) (T := TX9) (N := 54) hx hb hts hi_X9_matching_9 hown hK hP e31 rfl rfl (by decide) (by decide) (hts (.fieldLink RX9 51 "BoundaryAnalyzerModel" "classOfPlace" "[I") (List.mem_of_getElem? (i := 4) rfl)) dX9_matching_31 ?_
        refine lv_bipush (v := (24 : Int32)) hx hb dX9_matching_34 (by decide) ?_
        refine lv_iload_n hx hb dX9_matching_36 rfl (lv_at hl 1 rfl) ?_
        refine lv_imul hx hb dX9_matching_37 ?_
        refine lv_iload hx hb dX9_matching_38 (lv_at hl 5 rfl) ?_
        refine lv_iadd hx hb dX9_matching_40 ?_
        obtain ⟨v41, e41, hf⟩ := zb hf
        refine zr_ai hx hb hK hP e41 dX9_matching_41 ?_
        refine lv_istore (lv' := [(7, .int v41), (0, .ref (b + h0)), (1, .int x1), (2, .int x2), (4, .int x4), (5, .int x5), (6, .int x6)]) hx hb dX9_matching_42 hl (by decide) rfl (fun ls hl => ?_)
        refine lv_iload hx hb dX9_matching_44 (lv_at hl 4 rfl) ?_
        refine lv_iload_n hx hb dX9_matching_46 rfl (lv_at hl 3 rfl) ?_
        refine lv_iload hx hb dX9_matching_47 (lv_at hl 6 rfl) ?_
        refine lv_ishr hx hb dX9_matching_49 ?_
        refine lv_iconst (v := (1 : Int32)) hx hb dX9_matching_50 (by decide) ?_
        refine lv_iand hx hb dX9_matching_51 ?_
        refine lv_iconst (v := (1 : Int32)) hx hb dX9_matching_52 (by decide) ?_
        refine lv_icmp_ne (tgt := 77) hx hb dX9_matching_53 (by decide) (fun c53 => ?_) (fun c53 => ?_)
        · have hf := (if_neg c53).symm.trans hf
          exact J77 _ _ _ _ _ _ _ _ _ _ hf hP hS (lv_sub hl [1, 2, 3, 5, 6] rfl)
        · have hf := (if_pos c53).symm.trans hf
          refine lv_iload hx hb dX9_matching_56 (lv_at hl 0 rfl) ?_
          refine lv_bipush (v := (12 : Int32)) hx hb dX9_matching_58 (by decide) ?_
          refine lv_icmp_eq (tgt := 70) hx hb dX9_matching_60 (by decide) (fun c60 => ?_) (fun c60 => ?_)
          · have hf := (if_pos c60).symm.trans hf
            exact J70 _ _ _ _ _ _ _ _ _ _ hf hP hS (lv_sub hl [1, 2, 3, 5, 6] rfl)
          · have hf := (if_neg c60).symm.trans hf
            refine lv_iload hx hb dX9_matching_63 (lv_at hl 0 rfl) ?_
            refine lv_iload hx hb dX9_matching_65 (lv_at hl 5 rfl) ?_
            refine lv_icmp_ne (tgt := 77) hx hb dX9_matching_67 (by decide) (fun c67 => ?_) (fun c67 => ?_)
            · have hf := (if_neg c67).symm.trans hf
              exact J77 _ _ _ _ _ _ _ _ _ _ hf hP hS (lv_sub hl [1, 2, 3, 5, 6] rfl)
            · have hf := (if_pos c67).symm.trans hf
              exact J70 _ _ _ _ _ _ _ _ _ _ hf hP hS (lv_sub hl [1, 2, 3, 5, 6] rfl)
  unfold fX9_matching at hf
  refine lv_iconst (v := (0 : Int32)) hx hb dX9_matching_0 (by decide) ?_
  refine lv_istore (lv' := [(4, .int (0 : Int32)), (0, .ref (b + h0)), (1, .int x1), (2, .int x2), (3, .int x3)]) hx hb dX9_matching_1 hl (by decide) rfl (fun ls hl => ?_)
  refine lv_aload_n hx hb dX9_matching_3 rfl (lv_at hl 1 rfl) ?_
  obtain ⟨v4, e4, hf⟩ := zb hf
  refine zr_gr (ci := 9) (k := 0) (C := RX9) (T := TX9) (N := 54) hx hb hts hi_X9_matching_9 hown hK hP e4 rfl rfl (by decide) (by decide) (hts (.fieldLink RX9 7 "BoundaryAnalyzerModel" "classAt" "[I") (List.mem_of_getElem? (i := 1) rfl)) dX9_matching_4 ?_
  refine lv_aload_n hx hb dX9_matching_7 rfl (lv_at hl 1 rfl) ?_
  obtain ⟨v8, e8, hf⟩ := zb hf
  refine zr_gr (ci := 9) (k := 32) (C := RX9) (T := TX9) (N := 54) hx hb hts hi_X9_matching_9 hown hK hP e8 rfl rfl (by decide) (by decide) (hts (.fieldLink RX9 78 "BoundaryAnalyzerModel" "text" "[C") (List.mem_of_getElem? (i := 2) rfl)) dX9_matching_8 ?_
  refine lv_iload_n hx hb dX9_matching_11 rfl (lv_at hl 4 rfl) ?_
  obtain ⟨v12, e12, hf⟩ := zb hf
  refine zr_ac hx hb hK hP e12 dX9_matching_12 ?_
  obtain ⟨v13, e13, hf⟩ := zb hf
  refine zr_ai hx hb hK hP e13 dX9_matching_13 ?_
  refine lv_istore (lv' := [(5, .int v13), (4, .int (0 : Int32)), (0, .ref (b + h0)), (1, .int x1), (2, .int x2), (3, .int x3)]) hx hb dX9_matching_14 hl (by decide) rfl (fun ls hl => ?_)
  refine lv_iconst (v := (0 : Int32)) hx hb dX9_matching_16 (by decide) ?_
  refine lv_istore (lv' := [(6, .int (0 : Int32)), (5, .int v13), (4, .int (0 : Int32)), (0, .ref (b + h0)), (1, .int x1), (2, .int x2), (3, .int x3)]) hx hb dX9_matching_17 hl (by decide) rfl (fun ls hl => ?_)
  exact L19 _ _ _ _ _ _ _ _ _ _ _ hf hP hS (lv_sub hl [3, 4, 5, 2, 1, 0] rfl)
theorem hi_X9_behind_9 : ∀ w ∈ wsX90, w ∈ wsX9_behind := fun _ h => List.mem_cons_of_mem _ (List.mem_append_right _ h)
set_option maxHeartbeats 4000000 in
set_option maxRecDepth 100000 in
theorem k_X9_behind (l : Launch) (D : va_G) (cy : Nat → ClassId) (b : Nat) (M0 : Mem) (h0 : Nat) (x1 : Int32) (x2 : Int32) (rr : Int32 × Mem) (hf : fX9_behind M0 h0 x1 x2 = some rr) : Met l yX9_behind wsX9_behind ({ frames := 0, cells := 0, slots := 0, locals := 0 } : Room) (zPc D cy b M0 [.ref (b + h0), .int x1, .int x2]) (zQi D cy b rr) 0 0 (zA b) := by
  refine Met.ofW (cc := cX9_behind) (maxL := 5) (ret := (some .int)) (by decide) rfl ?_
  intro p e s m args below meth c s₁ B hml hv
  obtain ⟨rfl, hP, hK⟩ := hv
  have hx := B.exec
  have hb := B.bytes
  have hr := B.returns
  have hts := atoms_spec (ws := wsX9_behind) B.pre
  have hown : s.vm.findClass RX9 = some m.cls := findClass_of_methodNamed B.named
  have hlocks := B.notSynchronized
  have hS : va_S (zA b) s.heap s.heap [] := va_S.rf
  have hl := lv_entry ([.ref (b + h0), .int x1, .int x2]) (n := 5) (Nat.le_of_ble_eq_true rfl)
  rw [lg_entry_eq]
  generalize (lg_sl ([.ref (b + h0), .int x1, .int x2]) ++ List.replicate (5 - (lg_sl ([.ref (b + h0), .int x1, .int x2])).length) Slot.unset).toArray = ls at hl ⊢
  have hl : lv_has ls 5 [(0, .ref (b + h0)), (1, .int x1), (2, .int x2)] := hl
  have L5 : ∀ (n5 : Nat) (M : Mem) (H : Heap) (locs : List Loc) (ls : Array Slot) (h0 : Nat) (x1 : Int32) (x2 : Int32) (x3 : Int32) (x4 : Int32), fX9_behind_5L  n5 M h0 x1 x2 x3 x4 = some rr → zH D cy b M H → va_S (zA b) s.heap H locs → lv_has ls 5 [(0, .ref (b + h0)), (1, .int x1), (2, .int x2), (3, .int x3), (4, .int x4)] → W p l e (headSpec wsX9_behind ({ frames := 0, cells := 0, slots := 0, locals := 0 } : Room)).room s m ([.ref (b + h0), .int x1, .int x2] : List Value).toArray below meth c H locs 0 0 (MQ below (zQi D cy b rr) ([.ref (b + h0), .int x1, .int x2] : List Value).toArray s 0 0 (zA b)) (F0 m 5 ls []) := by
    intro n5
    induction n5 with
    | zero =>
      intro M H locs ls h0 x1 x2 x3 x4 hf
      have hf : (none : Option (Int32 × Mem)) = some rr := hf
      cases hf
    | succ n5 ih5 =>
      have J43 : ∀ (M : Mem) (H : Heap) (locs : List Loc) (ls : Array Slot) (h0 : Nat) (x1 : Int32) (x2 : Int32) (x4 : Int32) (y0 : Int32) (y1 : Int32), fX9_behind_43 (fX9_behind_5L  n5) M h0 x1 x2 x4 y0 y1 = some rr → zH D cy b M H → va_S (zA b) s.heap H locs → lv_has ls 5 [(0, .ref (b + h0)), (1, .int x1), (2, .int x2), (4, .int x4)] → W p l e (headSpec wsX9_behind ({ frames := 0, cells := 0, slots := 0, locals := 0 } : Room)).room s m ([.ref (b + h0), .int x1, .int x2] : List Value).toArray below meth c H locs 0 0 (MQ below (zQi D cy b rr) ([.ref (b + h0), .int x1, .int x2] : List Value).toArray s 0 0 (zA b)) (F0 m 43 ls [.int y1, .int y0]) := by
        intro M H locs ls h0 x1 x2 x4 y0 y1 hf hP hS hl
        unfold fX9_behind_43 at hf
        refine lv_ior hx hb dX9_behind_43 ?_
        obtain ⟨x3_44, q44, hf⟩ := zlt_s hf
        refine zt q44 ?_
        refine lv_istore_n (lv' := [(3, .int x3_44), (0, .ref (b + h0)), (1, .int x1), (2, .int x2), (4, .int x4)]) hx hb dX9_behind_44 rfl hl (by decide) rfl (fun ls hl => ?_)
        obtain ⟨x4_45, q45, hf⟩ := zlt_s hf
        refine lv_iinc (v := x4_45) (lv' := [(4, .int x4_45), (3, .int x3_44), (0, .ref (b + h0)), (1, .int x1), (2, .int x2)]) hx hb dX9_behind_45 hl (k := 4) rfl (by rw [← q45]; rfl) (by decide) rfl (fun ls hl => ?_)
        refine lv_goto (tgt := 5) hx hb dX9_behind_48 (by decide) ?_
        exact ih5 _ _ _ _ _ _ _ _ _ hf hP hS (lv_sub hl [2, 3, 4, 1, 0] rfl)
      intro M H locs ls h0 x1 x2 x3 x4 hf hP hS hl
      have hf : fX9_behind_5  (fX9_behind_5L  n5) M h0 x1 x2 x3 x4 = some rr := hf
      unfold fX9_behind_5 at hf
      refine lv_iload hx hb dX9_behind_5 (lv_at hl 4 rfl) ?_
      refine lv_aload_n hx hb dX9_behind_7 rfl (lv_at hl 0 rfl) ?_
      obtain ⟨v8, e8, hf⟩ := zb hf
      refine zr_gr (ci := 9) (k := 20) (C := RX9) (T := TX9) (N := 54) hx hb hts hi_X9_behind_9 hown hK hP e8 rfl rfl (by decide) (by decide) (hts (.fieldLink RX9 45 "BoundaryAnalyzerModel" "ruleLong" "[I") (List.mem_of_getElem? (i := 1) rfl)) dX9_behind_8 ?_
      refine lv_iload_n hx hb dX9_behind_11 rfl (lv_at hl 1 rfl) ?_
      obtain ⟨v12, e12, hf⟩ := zb hf
      refine zr_ai hx hb hK hP e12 dX9_behind_12 ?_
      refine lv_icmp_ge (tgt := 51) hx hb dX9_behind_13 (by decide) (fun c13 => ?_) (fun c13 => ?_)
      · have hf := (if_pos c13).symm.trans hf
        refine lv_iload_n hx hb dX9_behind_51 rfl (lv_at hl 3 rfl) ?_
        exact zret_i hx hb hr hlocks hf hP hS dX9_behind_52
      · have hf := (if_neg c13).symm.trans hf
        refine lv_iload_n hx hb dX9_behind_16 rfl (lv_at hl 3 rfl) ?_
        refine lv_iload_n hx hb dX9_behind_17 rfl (lv_at hl 2 rfl) ?_
        refine lv_iload hx hb dX9_behind_18 (lv_at hl 4 rfl) ?_
        refine lv_ishr hx hb dX9_behind_20 ?_
        refine lv_iconst (v := (1 : Int32)) hx hb dX9_behind_21 (by decide) ?_
        refine lv_iand hx hb dX9_behind_22 ?_
        refine lv_iconst (v := (1 : Int32)) hx hb dX9_behind_23 (by decide) ?_
        refine lv_icmp_ne (tgt := 42) hx hb dX9_behind_24 (by decide) (fun c24 => ?_) (fun c24 => ?_)
        · have hf := (if_neg c24).symm.trans hf
          refine lv_iconst (v := (0 : Int32)) hx hb dX9_behind_42 (by decide) ?_
          exact J43 _ _ _ _ _ _ _ _ _ _ hf hP hS (lv_sub hl [0, 1, 2, 4] rfl)
        · have hf := (if_pos c24).symm.trans hf
          refine lv_aload_n hx hb dX9_behind_27 rfl (lv_at hl 0 rfl) ?_
          obtain ⟨v28, e28, hf⟩ := zb hf
          refine zr_gr (ci := 9) (k := 23) (C := RX9) (T := TX9) (N := 54) hx hb hts hi_X9_behind_9 hown hK hP e28 rfl rfl (by decide) (by decide) (hts (.fieldLink RX9 54 "BoundaryAnalyzerModel" "nextOf" "[I") (List.mem_of_getElem? (i := 2) rfl)) dX9_behind_28 ?_
          refine lv_bipush (v := (24 : Int32)) hx hb dX9_behind_31 (by decide) ?_
          refine lv_iload_n hx hb dX9_behind_33 rfl (lv_at hl 1 rfl) ?_
          refine lv_imul hx hb dX9_behind_34 ?_
          refine lv_iload hx hb dX9_behind_35 (lv_at hl 4 rfl) ?_
          refine lv_iadd hx hb dX9_behind_37 ?_
          obtain ⟨v38, e38, hf⟩ := zb hf
          refine zr_ai hx hb hK hP e38 dX9_behind_38 ?_
          refine lv_goto (tgt := 43) hx hb dX9_behind_39 (by decide) ?_
          exact J43 _ _ _ _ _ _ _ _ _ _ hf hP hS (lv_sub hl [0, 1, 2, 4] rfl)
  unfold fX9_behind at hf
  refine lv_iconst (v := (0 : Int32)) hx hb dX9_behind_0 (by decide) ?_
  refine lv_istore_n (lv' := [(3, .int (0 : Int32)), (0, .ref (b + h0)), (1, .int x1), (2, .int x2)]) hx hb dX9_behind_1 rfl hl (by decide) rfl (fun ls hl => ?_)
  refine lv_iconst (v := (0 : Int32)) hx hb dX9_behind_2 (by decide) ?_
  refine lv_istore (lv' := [(4, .int (0 : Int32)), (3, .int (0 : Int32)), (0, .ref (b + h0)), (1, .int x1), (2, .int x2)]) hx hb dX9_behind_3 hl (by decide) rfl (fun ls hl => ?_)
  exact L5 _ _ _ _ _ _ _ _ _ _ hf hP hS (lv_sub hl [2, 3, 4, 1, 0] rfl)
theorem hi_X9_matchesAhead_9 : ∀ w ∈ wsX90, w ∈ wsX9_matchesAhead := fun _ h => List.mem_cons_of_mem _ (List.mem_append_right _ h)
set_option maxHeartbeats 4000000 in
set_option maxRecDepth 100000 in
theorem k_X9_matchesAhead (l : Launch) (D : va_G) (cy : Nat → ClassId) (b : Nat) (M0 : Mem) (h0 : Nat) (x1 : Int32) (x2 : Int32) (rr : Int32 × Mem) (hf : fX9_matchesAhead M0 h0 x1 x2 = some rr) : Met l yX9_matchesAhead wsX9_matchesAhead ({ frames := 1, cells := 0, slots := 0, locals := 27 } : Room) (zPc D cy b M0 [.ref (b + h0), .int x1, .int x2]) (zQi D cy b rr) 0 0 (zA b) := by
  refine Met.ofW (cc := cX9_matchesAhead) (maxL := 7) (ret := (some .boolean)) (by decide) rfl ?_
  intro p e s m args below meth c s₁ B hml hv
  obtain ⟨rfl, hP, hK⟩ := hv
  have hx := B.exec
  have hb := B.bytes
  have hr := B.returns
  have hts := atoms_spec (ws := wsX9_matchesAhead) B.pre
  have hown : s.vm.findClass RX9 = some m.cls := findClass_of_methodNamed B.named
  have hlocks := B.notSynchronized
  have hS : va_S (zA b) s.heap s.heap [] := va_S.rf
  have hl := lv_entry ([.ref (b + h0), .int x1, .int x2]) (n := 7) (Nat.le_of_ble_eq_true rfl)
  rw [lg_entry_eq]
  generalize (lg_sl ([.ref (b + h0), .int x1, .int x2]) ++ List.replicate (7 - (lg_sl ([.ref (b + h0), .int x1, .int x2])).length) Slot.unset).toArray = ls at hl ⊢
  have hl : lv_has ls 7 [(0, .ref (b + h0)), (1, .int x1), (2, .int x2)] := hl
  have L18 : ∀ (n18 : Nat) (M : Mem) (H : Heap) (locs : List Loc) (ls : Array Slot) (h0 : Nat) (x1 : Int32) (x3 : Int32) (x4 : Int32) (x5 : Int32), fX9_matchesAhead_18L  n18 M h0 x1 x3 x4 x5 = some rr → zH D cy b M H → va_S (zA b) s.heap H locs → lv_has ls 7 [(0, .ref (b + h0)), (1, .int x1), (3, .int x3), (4, .int x4), (5, .int x5)] → W p l e (headSpec wsX9_matchesAhead ({ frames := 1, cells := 0, slots := 0, locals := 27 } : Room)).room s m ([.ref (b + h0), .int x1, .int x2] : List Value).toArray below meth c H locs 0 0 (MQ below (zQi D cy b rr) ([.ref (b + h0), .int x1, .int x2] : List Value).toArray s 0 0 (zA b)) (F0 m 18 ls []) := by
    intro n18
    induction n18 with
    | zero =>
      intro M H locs ls h0 x1 x3 x4 x5 hf
      have hf : (none : Option (Int32 × Mem)) = some rr := hf
      cases hf
    | succ n18 ih18 =>
      have J64 : ∀ (M : Mem) (H : Heap) (locs : List Loc) (ls : Array Slot) (h0 : Nat) (x1 : Int32) (x5 : Int32) (x6 : Int32) (y0 : Int32), fX9_matchesAhead_64 (fX9_matchesAhead_18L  n18) M h0 x1 x5 x6 y0 = some rr → zH D cy b M H → va_S (zA b) s.heap H locs → lv_has ls 7 [(0, .ref (b + h0)), (1, .int x1), (5, .int x5), (6, .int x6)] → W p l e (headSpec wsX9_matchesAhead ({ frames := 1, cells := 0, slots := 0, locals := 27 } : Room)).room s m ([.ref (b + h0), .int x1, .int x2] : List Value).toArray below meth c H locs 0 0 (MQ below (zQi D cy b rr) ([.ref (b + h0), .int x1, .int x2] : List Value).toArray s 0 0 (zA b)) (F0 m 64 ls [.int y0]) := by
        intro M H locs ls h0 x1 x5 x6 y0 hf hP hS hl
        unfold fX9_matchesAhead_64 at hf
        refine lv_istore_n (lv' := [(3, .int y0), (0, .ref (b + h0)), (1, .int x1), (5, .int x5), (6, .int x6)]) hx hb dX9_matchesAhead_64 rfl hl (by decide) rfl (fun ls hl => ?_)
        refine lv_aload_n hx hb dX9_matchesAhead_65 rfl (lv_at hl 1 rfl) ?_
        refine lv_iload_n hx hb dX9_matchesAhead_66 rfl (lv_at hl 2 rfl) ?_
        refine lv_iload hx hb dX9_matchesAhead_67 (lv_at hl 4 rfl) ?_
        obtain ⟨u69, t69, hf⟩ := zb hf
        obtain ⟨r69, e69, hf⟩ := zb hf
        refine zc_i hS (va_runV (As := [.int x1, .int x6]) (rest := []) ⟨hx, hb, hml, hown, hts⟩ (k_X9_behind l D cy b M h0 x1 x6 r69 e69) (cwV 2 hts gX9_matchesAhead_X9_behind rfl rfl rfl (by decide +kernel) ⟨Nat.le_of_ble_eq_true rfl, Nat.le_of_ble_eq_true rfl⟩) (zp_V _ hK hP t69 (T := TX9) (N := 54) rfl (by decide)) rfl rfl hl.1 rfl (lv_room (Nat.le_of_ble_eq_true rfl)) dX9_matchesAhead_69 ⟨Nat.zero_le _, Nat.zero_le _⟩) (fun H locs hP hS => ?_)
        refine lv_istore (lv' := [(4, .int r69.1), (3, .int y0), (0, .ref (b + h0)), (1, .int x1), (5, .int x5), (6, .int x6)]) hx hb dX9_matchesAhead_72 hl (by decide) rfl (fun ls hl => ?_)
        obtain ⟨x5_74, q74, hf⟩ := zlt_s hf
        refine lv_iinc (v := x5_74) (lv' := [(5, .int x5_74), (4, .int r69.1), (3, .int y0), (0, .ref (b + h0)), (1, .int x1), (6, .int x6)]) hx hb dX9_matchesAhead_74 hl (k := 4) rfl (by rw [← q74]; rfl) (by decide) rfl (fun ls hl => ?_)
        refine lv_goto (tgt := 18) hx hb dX9_matchesAhead_77 (by decide) ?_
        exact ih18 _ _ _ _ _ _ _ _ _ hf hP hS (lv_sub hl [3, 4, 2, 1, 0] rfl)
      intro M H locs ls h0 x1 x3 x4 x5 hf hP hS hl
      have hf : fX9_matchesAhead_18  (fX9_matchesAhead_18L  n18) M h0 x1 x3 x4 x5 = some rr := hf
      unfold fX9_matchesAhead_18 at hf
      refine lv_iload hx hb dX9_matchesAhead_18 (lv_at hl 4 rfl) ?_
      refine lv_aload_n hx hb dX9_matchesAhead_20 rfl (lv_at hl 0 rfl) ?_
      obtain ⟨v21, e21, hf⟩ := zb hf
      refine zr_gi (ci := 9) (k := 31) (C := RX9) (T := TX9) (N := 54) hx hb hts hi_X9_matchesAhead_9 hown hK hP e21 rfl rfl (by decide) (by decide) (hts (.fieldLink RX9 207 "BoundaryAnalyzerModel" "length" "I") (List.mem_of_getElem? (i := 3) rfl)) dX9_matchesAhead_21 ?_
      refine lv_icmp_ge (tgt := 80) hx hb dX9_matchesAhead_24 (by decide) (fun c24 => ?_) (fun c24 => ?_)
      · have hf := (if_pos c24).symm.trans hf
        refine lv_iload_n hx hb dX9_matchesAhead_80 rfl (lv_at hl 2 rfl) ?_
        exact zret_z hx hb hr (Or.inl rfl) hlocks hf hP hS dX9_matchesAhead_81
      · have hf := (if_neg c24).symm.trans hf
        refine lv_iload hx hb dX9_matchesAhead_27 (lv_at hl 3 rfl) ?_
        refine lv_if_eq (tgt := 80) hx hb dX9_matchesAhead_29 (by decide) (fun c29 => ?_) (fun c29 => ?_)
        · have hf := (if_pos c29).symm.trans hf
          refine lv_iload_n hx hb dX9_matchesAhead_80 rfl (lv_at hl 2 rfl) ?_
          exact zret_z hx hb hr (Or.inl rfl) hlocks hf hP hS dX9_matchesAhead_81
        · have hf := (if_neg c29).symm.trans hf
          refine lv_iload_n hx hb dX9_matchesAhead_32 rfl (lv_at hl 2 rfl) ?_
          refine lv_if_ne (tgt := 80) hx hb dX9_matchesAhead_33 (by decide) (fun c33 => ?_) (fun c33 => ?_)
          · have hf := (if_neg c33).symm.trans hf
            refine lv_iload_n hx hb dX9_matchesAhead_80 rfl (lv_at hl 2 rfl) ?_
            exact zret_z hx hb hr (Or.inl rfl) hlocks hf hP hS dX9_matchesAhead_81
          · have hf := (if_pos c33).symm.trans hf
            refine lv_aload_n hx hb dX9_matchesAhead_36 rfl (lv_at hl 0 rfl) ?_
            refine lv_iload_n hx hb dX9_matchesAhead_37 rfl (lv_at hl 1 rfl) ?_
            refine lv_iload hx hb dX9_matchesAhead_38 (lv_at hl 3 rfl) ?_
            refine lv_iload hx hb dX9_matchesAhead_40 (lv_at hl 4 rfl) ?_
            obtain ⟨u42, t42, hf⟩ := zb hf
            obtain ⟨r42, e42, hf⟩ := zb hf
            refine zc_i hS (va_runV (As := [.int x1, .int x4, .int x5]) (rest := []) ⟨hx, hb, hml, hown, hts⟩ (k_X9_matching l D cy b M h0 x1 x4 x5 r42 e42) (cwV 3 hts gX9_matchesAhead_X9_matching rfl rfl rfl (by decide +kernel) ⟨Nat.le_of_ble_eq_true rfl, Nat.le_of_ble_eq_true rfl⟩) (zp_V _ hK hP t42 (T := TX9) (N := 54) rfl (by decide)) rfl rfl hl.1 rfl (lv_room (Nat.le_of_ble_eq_true rfl)) dX9_matchesAhead_42 ⟨Nat.zero_le _, Nat.zero_le _⟩) (fun H locs hP hS => ?_)
            refine lv_istore (lv' := [(6, .int r42.1), (0, .ref (b + h0)), (1, .int x1), (3, .int x3), (4, .int x4), (5, .int x5)]) hx hb dX9_matchesAhead_45 hl (by decide) rfl (fun ls hl => ?_)
            refine lv_iload hx hb dX9_matchesAhead_47 (lv_at hl 0 rfl) ?_
            refine lv_aload_n hx hb dX9_matchesAhead_49 rfl (lv_at hl 1 rfl) ?_
            obtain ⟨v50, e50, hf⟩ := zb hf
            refine zr_gr (ci := 9) (k := 30) (C := RX9) (T := TX9) (N := 54) hx hb hts hi_X9_matchesAhead_9 hown hK hP e50 rfl rfl (by decide) (by decide) (hts (.fieldLink RX9 75 "BoundaryAnalyzerModel" "lookLast" "[I") (List.mem_of_getElem? (i := 4) rfl)) dX9_matchesAhead_50 ?_
            refine lv_iload_n hx hb dX9_matchesAhead_53 rfl (lv_at hl 2 rfl) ?_
            obtain ⟨v54, e54, hf⟩ := zb hf
            refine zr_ai hx hb hK hP e54 dX9_matchesAhead_54 ?_
            refine lv_iand hx hb dX9_matchesAhead_55 ?_
            refine lv_if_eq (tgt := 63) hx hb dX9_matchesAhead_56 (by decide) (fun c56 => ?_) (fun c56 => ?_)
            · have hf := (if_pos c56).symm.trans hf
              refine lv_iconst (v := (0 : Int32)) hx hb dX9_matchesAhead_63 (by decide) ?_
              exact J64 _ _ _ _ _ _ _ _ _ hf hP hS (lv_sub hl [1, 2, 5, 0] rfl)
            · have hf := (if_neg c56).symm.trans hf
              refine lv_iconst (v := (1 : Int32)) hx hb dX9_matchesAhead_59 (by decide) ?_
              refine lv_goto (tgt := 64) hx hb dX9_matchesAhead_60 (by decide) ?_
              exact J64 _ _ _ _ _ _ _ _ _ hf hP hS (lv_sub hl [1, 2, 5, 0] rfl)
  unfold fX9_matchesAhead at hf
  refine lv_aload_n hx hb dX9_matchesAhead_0 rfl (lv_at hl 0 rfl) ?_
  obtain ⟨v1, e1, hf⟩ := zb hf
  refine zr_gr (ci := 9) (k := 28) (C := RX9) (T := TX9) (N := 54) hx hb hts hi_X9_matchesAhead_9 hown hK hP e1 rfl rfl (by decide) (by decide) (hts (.fieldLink RX9 69 "BoundaryAnalyzerModel" "lookNull" "[Z") (List.mem_of_getElem? (i := 1) rfl)) dX9_matchesAhead_1 ?_
  refine lv_iload_n hx hb dX9_matchesAhead_4 rfl (lv_at hl 1 rfl) ?_
  obtain ⟨v5, e5, hf⟩ := zb hf
  refine zr_az hx hb hK hP e5 dX9_matchesAhead_5 ?_
  refine lv_istore_n (lv' := [(3, .int v5), (0, .ref (b + h0)), (1, .int x1), (2, .int x2)]) hx hb dX9_matchesAhead_6 rfl hl (by decide) rfl (fun ls hl => ?_)
  refine lv_aload_n hx hb dX9_matchesAhead_7 rfl (lv_at hl 1 rfl) ?_
  obtain ⟨v8, e8, hf⟩ := zb hf
  refine zr_gr (ci := 9) (k := 29) (C := RX9) (T := TX9) (N := 54) hx hb hts hi_X9_matchesAhead_9 hown hK hP e8 rfl rfl (by decide) (by decide) (hts (.fieldLink RX9 72 "BoundaryAnalyzerModel" "lookFirst" "[I") (List.mem_of_getElem? (i := 2) rfl)) dX9_matchesAhead_8 ?_
  refine lv_iload_n hx hb dX9_matchesAhead_11 rfl (lv_at hl 2 rfl) ?_
  obtain ⟨v12, e12, hf⟩ := zb hf
  refine zr_ai hx hb hK hP e12 dX9_matchesAhead_12 ?_
  refine lv_istore (lv' := [(4, .int v12), (3, .int v5), (0, .ref (b + h0)), (1, .int x1), (2, .int x2)]) hx hb dX9_matchesAhead_13 hl (by decide) rfl (fun ls hl => ?_)
  refine lv_iload_n hx hb dX9_matchesAhead_15 rfl (lv_at hl 4 rfl) ?_
  refine lv_istore (lv' := [(5, .int x2), (4, .int v12), (3, .int v5), (0, .ref (b + h0)), (1, .int x1), (2, .int x2)]) hx hb dX9_matchesAhead_16 hl (by decide) rfl (fun ls hl => ?_)
  exact L18 _ _ _ _ _ _ _ _ _ _ hf hP hS (lv_sub hl [3, 4, 2, 1, 0] rfl)
theorem hi_X9_lengthOf_9 : ∀ w ∈ wsX90, w ∈ wsX9_lengthOf := fun _ h => List.mem_cons_of_mem _ (List.mem_append_right _ h)
set_option maxHeartbeats 4000000 in
set_option maxRecDepth 100000 in
theorem k_X9_lengthOf (l : Launch) (D : va_G) (cy : Nat → ClassId) (b : Nat) (M0 : Mem) (h0 : Nat) (x1 : Int32) (x2 : Int32) (rr : Int32 × Mem) (hf : fX9_lengthOf M0 h0 x1 x2 = some rr) : Met l yX9_lengthOf wsX9_lengthOf ({ frames := 2, cells := 0, slots := 0, locals := 53 } : Room) (zPc D cy b M0 [.ref (b + h0), .int x1, .int x2]) (zQi D cy b rr) 0 0 (zA b) := by
  refine Met.ofW (cc := cX9_lengthOf) (maxL := 7) (ret := (some .int)) (by decide) rfl ?_
  intro p e s m args below meth c s₁ B hml hv
  obtain ⟨rfl, hP, hK⟩ := hv
  have hx := B.exec
  have hb := B.bytes
  have hr := B.returns
  have hts := atoms_spec (ws := wsX9_lengthOf) B.pre
  have hown : s.vm.findClass RX9 = some m.cls := findClass_of_methodNamed B.named
  have hlocks := B.notSynchronized
  have hS : va_S (zA b) s.heap s.heap [] := va_S.rf
  have hl := lv_entry ([.ref (b + h0), .int x1, .int x2]) (n := 7) (Nat.le_of_ble_eq_true rfl)
  rw [lg_entry_eq]
  generalize (lg_sl ([.ref (b + h0), .int x1, .int x2]) ++ List.replicate (7 - (lg_sl ([.ref (b + h0), .int x1, .int x2])).length) Slot.unset).toArray = ls at hl ⊢
  have hl : lv_has ls 7 [(0, .ref (b + h0)), (1, .int x1), (2, .int x2)] := hl
  have L13 : ∀ (n13 : Nat) (M : Mem) (H : Heap) (locs : List Loc) (ls : Array Slot) (h0 : Nat) (x1 : Int32) (x2 : Int32) (x3 : Int32) (x4 : Int32) (x5 : Int32), fX9_lengthOf_13L  n13 M h0 x1 x2 x3 x4 x5 = some rr → zH D cy b M H → va_S (zA b) s.heap H locs → lv_has ls 7 [(0, .ref (b + h0)), (1, .int x1), (2, .int x2), (3, .int x3), (4, .int x4), (5, .int x5)] → W p l e (headSpec wsX9_lengthOf ({ frames := 2, cells := 0, slots := 0, locals := 53 } : Room)).room s m ([.ref (b + h0), .int x1, .int x2] : List Value).toArray below meth c H locs 0 0 (MQ below (zQi D cy b rr) ([.ref (b + h0), .int x1, .int x2] : List Value).toArray s 0 0 (zA b)) (F0 m 13 ls []) := by
    intro n13
    induction n13 with
    | zero =>
      intro M H locs ls h0 x1 x2 x3 x4 x5 hf
      have hf : (none : Option (Int32 × Mem)) = some rr := hf
      cases hf
    | succ n13 ih13 =>
      have J72 : ∀ (M : Mem) (H : Heap) (locs : List Loc) (ls : Array Slot) (h0 : Nat) (x1 : Int32) (x2 : Int32) (x5 : Int32) (x6 : Int32) (y0 : Int32), fX9_lengthOf_72 (fX9_lengthOf_13L  n13) M h0 x1 x2 x5 x6 y0 = some rr → zH D cy b M H → va_S (zA b) s.heap H locs → lv_has ls 7 [(0, .ref (b + h0)), (1, .int x1), (2, .int x2), (5, .int x5), (6, .int x6)] → W p l e (headSpec wsX9_lengthOf ({ frames := 2, cells := 0, slots := 0, locals := 53 } : Room)).room s m ([.ref (b + h0), .int x1, .int x2] : List Value).toArray below meth c H locs 0 0 (MQ below (zQi D cy b rr) ([.ref (b + h0), .int x1, .int x2] : List Value).toArray s 0 0 (zA b)) (F0 m 72 ls [.int y0]) := by
        intro M H locs ls h0 x1 x2 x5 x6 y0 hf hP hS hl
        unfold fX9_lengthOf_72 at hf
        refine lv_istore_n (lv' := [(3, .int y0), (0, .ref (b + h0)), (1, .int x1), (2, .int x2), (5, .int x5), (6, .int x6)]) hx hb dX9_lengthOf_72 rfl hl (by decide) rfl (fun ls hl => ?_)
        refine lv_aload_n hx hb dX9_lengthOf_73 rfl (lv_at hl 1 rfl) ?_
        refine lv_iload_n hx hb dX9_lengthOf_74 rfl (lv_at hl 2 rfl) ?_
        refine lv_iload hx hb dX9_lengthOf_75 (lv_at hl 5 rfl) ?_
        obtain ⟨u77, t77, hf⟩ := zb hf
        obtain ⟨r77, e77, hf⟩ := zb hf
        refine zc_i hS (va_runV (As := [.int x1, .int x6]) (rest := []) ⟨hx, hb, hml, hown, hts⟩ (k_X9_behind l D cy b M h0 x1 x6 r77 e77) (cwV 2 hts gX9_lengthOf_X9_behind rfl rfl rfl (by decide +kernel) ⟨Nat.le_of_ble_eq_true rfl, Nat.le_of_ble_eq_true rfl⟩) (zp_V _ hK hP t77 (T := TX9) (N := 54) rfl (by decide)) rfl rfl hl.1 rfl (lv_room (Nat.le_of_ble_eq_true rfl)) dX9_lengthOf_77 ⟨Nat.zero_le _, Nat.zero_le _⟩) (fun H locs hP hS => ?_)
        refine lv_istore (lv' := [(4, .int r77.1), (3, .int y0), (0, .ref (b + h0)), (1, .int x1), (2, .int x2), (5, .int x5), (6, .int x6)]) hx hb dX9_lengthOf_80 hl (by decide) rfl (fun ls hl => ?_)
        obtain ⟨x5_82, q82, hf⟩ := zlt_s hf
        refine lv_iinc (v := x5_82) (lv' := [(5, .int x5_82), (4, .int r77.1), (3, .int y0), (0, .ref (b + h0)), (1, .int x1), (2, .int x2), (6, .int x6)]) hx hb dX9_lengthOf_82 hl (k := 5) rfl (by rw [← q82]; rfl) (by decide) rfl (fun ls hl => ?_)
        refine lv_goto (tgt := 13) hx hb dX9_lengthOf_85 (by decide) ?_
        exact ih13 _ _ _ _ _ _ _ _ _ _ hf hP hS (lv_sub hl [3, 4, 5, 2, 1, 0] rfl)
      have J71 : ∀ (M : Mem) (H : Heap) (locs : List Loc) (ls : Array Slot) (h0 : Nat) (x1 : Int32) (x2 : Int32) (x3 : Int32) (x5 : Int32) (x6 : Int32), fX9_lengthOf_71 (fX9_lengthOf_13L  n13) M h0 x1 x2 x3 x5 x6 = some rr → zH D cy b M H → va_S (zA b) s.heap H locs → lv_has ls 7 [(0, .ref (b + h0)), (1, .int x1), (2, .int x2), (3, .int x3), (5, .int x5), (6, .int x6)] → W p l e (headSpec wsX9_lengthOf ({ frames := 2, cells := 0, slots := 0, locals := 53 } : Room)).room s m ([.ref (b + h0), .int x1, .int x2] : List Value).toArray below meth c H locs 0 0 (MQ below (zQi D cy b rr) ([.ref (b + h0), .int x1, .int x2] : List Value).toArray s 0 0 (zA b)) (F0 m 71 ls []) := by
        intro M H locs ls h0 x1 x2 x3 x5 x6 hf hP hS hl
        unfold fX9_lengthOf_71 at hf
        refine lv_iload_n hx hb dX9_lengthOf_71 rfl (lv_at hl 3 rfl) ?_
        exact J72 _ _ _ _ _ _ _ _ _ _ hf hP hS (lv_sub hl [0, 1, 2, 4, 5] rfl)
      intro M H locs ls h0 x1 x2 x3 x4 x5 hf hP hS hl
      have hf : fX9_lengthOf_13  (fX9_lengthOf_13L  n13) M h0 x1 x2 x3 x4 x5 = some rr := hf
      unfold fX9_lengthOf_13 at hf
      refine lv_iload hx hb dX9_lengthOf_13 (lv_at hl 5 rfl) ?_
      refine lv_aload_n hx hb dX9_lengthOf_15 rfl (lv_at hl 0 rfl) ?_
      obtain ⟨v16, e16, hf⟩ := zb hf
      refine zr_gi (ci := 9) (k := 31) (C := RX9) (T := TX9) (N := 54) hx hb hts hi_X9_lengthOf_9 hown hK hP e16 rfl rfl (by decide) (by decide) (hts (.fieldLink RX9 207 "BoundaryAnalyzerModel" "length" "I") (List.mem_of_getElem? (i := 2) rfl)) dX9_lengthOf_16 ?_
      refine lv_icmp_ge (tgt := 88) hx hb dX9_lengthOf_19 (by decide) (fun c19 => ?_) (fun c19 => ?_)
      · have hf := (if_pos c19).symm.trans hf
        refine lv_iload_n hx hb dX9_lengthOf_88 rfl (lv_at hl 3 rfl) ?_
        exact zret_i hx hb hr hlocks hf hP hS dX9_lengthOf_89
      · have hf := (if_neg c19).symm.trans hf
        refine lv_iload hx hb dX9_lengthOf_22 (lv_at hl 4 rfl) ?_
        refine lv_if_eq (tgt := 88) hx hb dX9_lengthOf_24 (by decide) (fun c24 => ?_) (fun c24 => ?_)
        · have hf := (if_pos c24).symm.trans hf
          refine lv_iload_n hx hb dX9_lengthOf_88 rfl (lv_at hl 3 rfl) ?_
          exact zret_i hx hb hr hlocks hf hP hS dX9_lengthOf_89
        · have hf := (if_neg c24).symm.trans hf
          refine lv_aload_n hx hb dX9_lengthOf_27 rfl (lv_at hl 0 rfl) ?_
          refine lv_iload_n hx hb dX9_lengthOf_28 rfl (lv_at hl 1 rfl) ?_
          refine lv_iload hx hb dX9_lengthOf_29 (lv_at hl 4 rfl) ?_
          refine lv_iload hx hb dX9_lengthOf_31 (lv_at hl 5 rfl) ?_
          obtain ⟨u33, t33, hf⟩ := zb hf
          obtain ⟨r33, e33, hf⟩ := zb hf
          refine zc_i hS (va_runV (As := [.int x1, .int x4, .int x5]) (rest := []) ⟨hx, hb, hml, hown, hts⟩ (k_X9_matching l D cy b M h0 x1 x4 x5 r33 e33) (cwV 3 hts gX9_lengthOf_X9_matching rfl rfl rfl (by decide +kernel) ⟨Nat.le_of_ble_eq_true rfl, Nat.le_of_ble_eq_true rfl⟩) (zp_V _ hK hP t33 (T := TX9) (N := 54) rfl (by decide)) rfl rfl hl.1 rfl (lv_room (Nat.le_of_ble_eq_true rfl)) dX9_lengthOf_33 ⟨Nat.zero_le _, Nat.zero_le _⟩) (fun H locs hP hS => ?_)
          refine lv_istore (lv' := [(6, .int r33.1), (0, .ref (b + h0)), (1, .int x1), (2, .int x2), (3, .int x3), (4, .int x4), (5, .int x5)]) hx hb dX9_lengthOf_36 hl (by decide) rfl (fun ls hl => ?_)
          refine lv_iload hx hb dX9_lengthOf_38 (lv_at hl 0 rfl) ?_
          refine lv_aload_n hx hb dX9_lengthOf_40 rfl (lv_at hl 1 rfl) ?_
          obtain ⟨v41, e41, hf⟩ := zb hf
          refine zr_gr (ci := 9) (k := 27) (C := RX9) (T := TX9) (N := 54) hx hb hts hi_X9_lengthOf_9 hown hK hP e41 rfl rfl (by decide) (by decide) (hts (.fieldLink RX9 66 "BoundaryAnalyzerModel" "bodyLast" "[I") (List.mem_of_getElem? (i := 3) rfl)) dX9_lengthOf_41 ?_
          refine lv_iload_n hx hb dX9_lengthOf_44 rfl (lv_at hl 2 rfl) ?_
          obtain ⟨v45, e45, hf⟩ := zb hf
          refine zr_ai hx hb hK hP e45 dX9_lengthOf_45 ?_
          refine lv_iand hx hb dX9_lengthOf_46 ?_
          refine lv_if_eq (tgt := 71) hx hb dX9_lengthOf_47 (by decide) (fun c47 => ?_) (fun c47 => ?_)
          · have hf := (if_pos c47).symm.trans hf
            exact J71 _ _ _ _ _ _ _ _ _ _ hf hP hS (lv_sub hl [1, 2, 3, 4, 6, 0] rfl)
          · have hf := (if_neg c47).symm.trans hf
            refine lv_aload_n hx hb dX9_lengthOf_50 rfl (lv_at hl 1 rfl) ?_
            refine lv_iload_n hx hb dX9_lengthOf_51 rfl (lv_at hl 2 rfl) ?_
            refine lv_iload hx hb dX9_lengthOf_52 (lv_at hl 6 rfl) ?_
            refine lv_iconst (v := (1 : Int32)) hx hb dX9_lengthOf_54 (by decide) ?_
            refine lv_iadd hx hb dX9_lengthOf_55 ?_
            obtain ⟨u56, t56, hf⟩ := zb hf
            obtain ⟨r56, e56, hf⟩ := zb hf
            refine zc_i hS (va_runV (As := [.int x1, .int (x5 + (1 : Int32))]) (rest := []) ⟨hx, hb, hml, hown, hts⟩ (k_X9_matchesAhead l D cy b r33.2 h0 x1 (x5 + (1 : Int32)) r56 e56) (cwV 2 hts gX9_lengthOf_X9_matchesAhead rfl rfl rfl (by decide +kernel) ⟨Nat.le_of_ble_eq_true rfl, Nat.le_of_ble_eq_true rfl⟩) (zp_V _ hK hP t56 (T := TX9) (N := 54) rfl (by decide)) rfl rfl hl.1 rfl (lv_room (Nat.le_of_ble_eq_true rfl)) dX9_lengthOf_56 ⟨Nat.zero_le _, Nat.zero_le _⟩) (fun H locs hP hS => ?_)
            refine lv_if_eq (tgt := 71) hx hb dX9_lengthOf_59 (by decide) (fun c59 => ?_) (fun c59 => ?_)
            · have hf := (if_pos c59).symm.trans hf
              exact J71 _ _ _ _ _ _ _ _ _ _ hf hP hS (lv_sub hl [1, 2, 3, 4, 6, 0] rfl)
            · have hf := (if_neg c59).symm.trans hf
              refine lv_iload hx hb dX9_lengthOf_62 (lv_at hl 6 rfl) ?_
              refine lv_iconst (v := (1 : Int32)) hx hb dX9_lengthOf_64 (by decide) ?_
              refine lv_iadd hx hb dX9_lengthOf_65 ?_
              refine lv_iload_n hx hb dX9_lengthOf_66 rfl (lv_at hl 3 rfl) ?_
              refine lv_isub hx hb dX9_lengthOf_67 ?_
              refine lv_goto (tgt := 72) hx hb dX9_lengthOf_68 (by decide) ?_
              exact J72 _ _ _ _ _ _ _ _ _ _ hf hP hS (lv_sub hl [1, 2, 3, 6, 0] rfl)
  unfold fX9_lengthOf at hf
  refine lv_iconst (v := (0 : Int32)) hx hb dX9_lengthOf_0 (by decide) ?_
  refine lv_istore_n (lv' := [(3, .int (0 : Int32)), (0, .ref (b + h0)), (1, .int x1), (2, .int x2)]) hx hb dX9_lengthOf_1 rfl hl (by decide) rfl (fun ls hl => ?_)
  refine lv_aload_n hx hb dX9_lengthOf_2 rfl (lv_at hl 1 rfl) ?_
  obtain ⟨v3, e3, hf⟩ := zb hf
  refine zr_gr (ci := 9) (k := 26) (C := RX9) (T := TX9) (N := 54) hx hb hts hi_X9_lengthOf_9 hown hK hP e3 rfl rfl (by decide) (by decide) (hts (.fieldLink RX9 63 "BoundaryAnalyzerModel" "bodyFirst" "[I") (List.mem_of_getElem? (i := 1) rfl)) dX9_lengthOf_3 ?_
  refine lv_iload_n hx hb dX9_lengthOf_6 rfl (lv_at hl 2 rfl) ?_
  obtain ⟨v7, e7, hf⟩ := zb hf
  refine zr_ai hx hb hK hP e7 dX9_lengthOf_7 ?_
  refine lv_istore (lv' := [(4, .int v7), (3, .int (0 : Int32)), (0, .ref (b + h0)), (1, .int x1), (2, .int x2)]) hx hb dX9_lengthOf_8 hl (by decide) rfl (fun ls hl => ?_)
  refine lv_iload_n hx hb dX9_lengthOf_10 rfl (lv_at hl 4 rfl) ?_
  refine lv_istore (lv' := [(5, .int x2), (4, .int v7), (3, .int (0 : Int32)), (0, .ref (b + h0)), (1, .int x1), (2, .int x2)]) hx hb dX9_lengthOf_11 hl (by decide) rfl (fun ls hl => ?_)
  exact L13 _ _ _ _ _ _ _ _ _ _ _ hf hP hS (lv_sub hl [3, 4, 5, 2, 1, 0] rfl)
theorem hi_X9_segmentAt_9 : ∀ w ∈ wsX90, w ∈ wsX9_segmentAt := fun _ h => List.mem_cons_of_mem _ (List.mem_append_right _ h)
set_option maxHeartbeats 4000000 in
set_option maxRecDepth 100000 in
theorem k_X9_segmentAt (l : Launch) (D : va_G) (cy : Nat → ClassId) (b : Nat) (M0 : Mem) (h0 : Nat) (x1 : Int32) (x2 : Int32) (rr : Int32 × Mem) (hf : fX9_segmentAt M0 h0 x1 x2 = some rr) : Met l yX9_segmentAt wsX9_segmentAt ({ frames := 3, cells := 0, slots := 0, locals := 79 } : Room) (zPc D cy b M0 [.ref (b + h0), .int x1, .int x2]) (zQi D cy b rr) 0 0 (zA b) := by
  refine Met.ofW (cc := cX9_segmentAt) (maxL := 6) (ret := (some .int)) (by decide) rfl ?_
  intro p e s m args below meth c s₁ B hml hv
  obtain ⟨rfl, hP, hK⟩ := hv
  have hx := B.exec
  have hb := B.bytes
  have hr := B.returns
  have hts := atoms_spec (ws := wsX9_segmentAt) B.pre
  have hown : s.vm.findClass RX9 = some m.cls := findClass_of_methodNamed B.named
  have hlocks := B.notSynchronized
  have hS : va_S (zA b) s.heap s.heap [] := va_S.rf
  have hl := lv_entry ([.ref (b + h0), .int x1, .int x2]) (n := 6) (Nat.le_of_ble_eq_true rfl)
  rw [lg_entry_eq]
  generalize (lg_sl ([.ref (b + h0), .int x1, .int x2]) ++ List.replicate (6 - (lg_sl ([.ref (b + h0), .int x1, .int x2])).length) Slot.unset).toArray = ls at hl ⊢
  have hl : lv_has ls 6 [(0, .ref (b + h0)), (1, .int x1), (2, .int x2)] := hl
  have L7 : ∀ (n7 : Nat) (M : Mem) (H : Heap) (locs : List Loc) (ls : Array Slot) (h0 : Nat) (x1 : Int32) (x2 : Int32) (x3 : Int32) (x4 : Int32), fX9_segmentAt_7L  n7 M h0 x1 x2 x3 x4 = some rr → zH D cy b M H → va_S (zA b) s.heap H locs → lv_has ls 6 [(0, .ref (b + h0)), (1, .int x1), (2, .int x2), (3, .int x3), (4, .int x4)] → W p l e (headSpec wsX9_segmentAt ({ frames := 3, cells := 0, slots := 0, locals := 79 } : Room)).room s m ([.ref (b + h0), .int x1, .int x2] : List Value).toArray below meth c H locs 0 0 (MQ below (zQi D cy b rr) ([.ref (b + h0), .int x1, .int x2] : List Value).toArray s 0 0 (zA b)) (F0 m 7 ls []) := by
    intro n7
    induction n7 with
    | zero =>
      intro M H locs ls h0 x1 x2 x3 x4 hf
      have hf : (none : Option (Int32 × Mem)) = some rr := hf
      cases hf
    | succ n7 ih7 =>
      have J52 : ∀ (M : Mem) (H : Heap) (locs : List Loc) (ls : Array Slot) (h0 : Nat) (x1 : Int32) (x2 : Int32) (x4 : Int32) (y0 : Int32), fX9_segmentAt_52 (fX9_segmentAt_7L  n7) M h0 x1 x2 x4 y0 = some rr → zH D cy b M H → va_S (zA b) s.heap H locs → lv_has ls 6 [(0, .ref (b + h0)), (1, .int x1), (2, .int x2), (4, .int x4)] → W p l e (headSpec wsX9_segmentAt ({ frames := 3, cells := 0, slots := 0, locals := 79 } : Room)).room s m ([.ref (b + h0), .int x1, .int x2] : List Value).toArray below meth c H locs 0 0 (MQ below (zQi D cy b rr) ([.ref (b + h0), .int x1, .int x2] : List Value).toArray s 0 0 (zA b)) (F0 m 52 ls [.int y0]) := by
        intro M H locs ls h0 x1 x2 x4 y0 hf hP hS hl
        unfold fX9_segmentAt_52 at hf
        refine lv_istore_n (lv' := [(3, .int y0), (0, .ref (b + h0)), (1, .int x1), (2, .int x2), (4, .int x4)]) hx hb dX9_segmentAt_52 rfl hl (by decide) rfl (fun ls hl => ?_)
        obtain ⟨x4_53, q53, hf⟩ := zlt_s hf
        refine lv_iinc (v := x4_53) (lv' := [(4, .int x4_53), (3, .int y0), (0, .ref (b + h0)), (1, .int x1), (2, .int x2)]) hx hb dX9_segmentAt_53 hl (k := 4) rfl (by rw [← q53]; rfl) (by decide) rfl (fun ls hl => ?_)
        refine lv_goto (tgt := 7) hx hb dX9_segmentAt_56 (by decide) ?_
        exact ih7 _ _ _ _ _ _ _ _ _ hf hP hS (lv_sub hl [2, 3, 4, 1, 0] rfl)
      have J38 : ∀ (M : Mem) (H : Heap) (locs : List Loc) (ls : Array Slot) (h0 : Nat) (x1 : Int32) (x2 : Int32) (x3 : Int32) (x4 : Int32) (y0 : Int32), fX9_segmentAt_38 (fX9_segmentAt_7L  n7) M h0 x1 x2 x3 x4 y0 = some rr → zH D cy b M H → va_S (zA b) s.heap H locs → lv_has ls 6 [(0, .ref (b + h0)), (1, .int x1), (2, .int x2), (3, .int x3), (4, .int x4)] → W p l e (headSpec wsX9_segmentAt ({ frames := 3, cells := 0, slots := 0, locals := 79 } : Room)).room s m ([.ref (b + h0), .int x1, .int x2] : List Value).toArray below meth c H locs 0 0 (MQ below (zQi D cy b rr) ([.ref (b + h0), .int x1, .int x2] : List Value).toArray s 0 0 (zA b)) (F0 m 38 ls [.int y0]) := by
        intro M H locs ls h0 x1 x2 x3 x4 y0 hf hP hS hl
        unfold fX9_segmentAt_38 at hf
        refine lv_istore (lv' := [(5, .int y0), (0, .ref (b + h0)), (1, .int x1), (2, .int x2), (3, .int x3), (4, .int x4)]) hx hb dX9_segmentAt_38 hl (by decide) rfl (fun ls hl => ?_)
        refine lv_iload hx hb dX9_segmentAt_40 (lv_at hl 0 rfl) ?_
        refine lv_iload_n hx hb dX9_segmentAt_42 rfl (lv_at hl 4 rfl) ?_
        refine lv_icmp_le (tgt := 51) hx hb dX9_segmentAt_43 (by decide) (fun c43 => ?_) (fun c43 => ?_)
        · have hf := (if_pos c43).symm.trans hf
          refine lv_iload_n hx hb dX9_segmentAt_51 rfl (lv_at hl 4 rfl) ?_
          exact J52 _ _ _ _ _ _ _ _ _ hf hP hS (lv_sub hl [1, 2, 3, 5] rfl)
        · have hf := (if_neg c43).symm.trans hf
          refine lv_iload hx hb dX9_segmentAt_46 (lv_at hl 0 rfl) ?_
          refine lv_goto (tgt := 52) hx hb dX9_segmentAt_48 (by decide) ?_
          exact J52 _ _ _ _ _ _ _ _ _ hf hP hS (lv_sub hl [1, 2, 3, 5] rfl)
      intro M H locs ls h0 x1 x2 x3 x4 hf hP hS hl
      have hf : fX9_segmentAt_7  (fX9_segmentAt_7L  n7) M h0 x1 x2 x3 x4 = some rr := hf
      unfold fX9_segmentAt_7 at hf
      refine lv_iload hx hb dX9_segmentAt_7 (lv_at hl 4 rfl) ?_
      refine lv_iconst (v := (5 : Int32)) hx hb dX9_segmentAt_9 (by decide) ?_
      refine lv_iload_n hx hb dX9_segmentAt_10 rfl (lv_at hl 1 rfl) ?_
      refine lv_imul hx hb dX9_segmentAt_11 ?_
      refine lv_iconst (v := (5 : Int32)) hx hb dX9_segmentAt_12 (by decide) ?_
      refine lv_iadd hx hb dX9_segmentAt_13 ?_
      refine lv_icmp_ge (tgt := 59) hx hb dX9_segmentAt_14 (by decide) (fun c14 => ?_) (fun c14 => ?_)
      · have hf := (if_pos c14).symm.trans hf
        refine lv_iload_n hx hb dX9_segmentAt_59 rfl (lv_at hl 3 rfl) ?_
        exact zret_i hx hb hr hlocks hf hP hS dX9_segmentAt_60
      · have hf := (if_neg c14).symm.trans hf
        refine lv_aload_n hx hb dX9_segmentAt_17 rfl (lv_at hl 0 rfl) ?_
        obtain ⟨v18, e18, hf⟩ := zb hf
        refine zr_gr (ci := 9) (k := 20) (C := RX9) (T := TX9) (N := 54) hx hb hts hi_X9_segmentAt_9 hown hK hP e18 rfl rfl (by decide) (by decide) (hts (.fieldLink RX9 45 "BoundaryAnalyzerModel" "ruleLong" "[I") (List.mem_of_getElem? (i := 1) rfl)) dX9_segmentAt_18 ?_
        refine lv_iload hx hb dX9_segmentAt_21 (lv_at hl 4 rfl) ?_
        obtain ⟨v23, e23, hf⟩ := zb hf
        refine zr_ai hx hb hK hP e23 dX9_segmentAt_23 ?_
        refine lv_if_le (tgt := 37) hx hb dX9_segmentAt_24 (by decide) (fun c24 => ?_) (fun c24 => ?_)
        · have hf := (if_pos c24).symm.trans hf
          refine lv_iconst (v := (0 : Int32)) hx hb dX9_segmentAt_37 (by decide) ?_
          exact J38 _ _ _ _ _ _ _ _ _ _ hf hP hS (lv_sub hl [0, 1, 2, 3, 4] rfl)
        · have hf := (if_neg c24).symm.trans hf
          refine lv_aload_n hx hb dX9_segmentAt_27 rfl (lv_at hl 0 rfl) ?_
          refine lv_iload hx hb dX9_segmentAt_28 (lv_at hl 4 rfl) ?_
          refine lv_iload_n hx hb dX9_segmentAt_30 rfl (lv_at hl 2 rfl) ?_
          obtain ⟨u31, t31, hf⟩ := zb hf
          obtain ⟨r31, e31, hf⟩ := zb hf
          refine zc_i hS (va_runV (As := [.int x4, .int x2]) (rest := []) ⟨hx, hb, hml, hown, hts⟩ (k_X9_lengthOf l D cy b M h0 x4 x2 r31 e31) (cwV 2 hts gX9_segmentAt_X9_lengthOf rfl rfl rfl (by decide +kernel) ⟨Nat.le_of_ble_eq_true rfl, Nat.le_of_ble_eq_true rfl⟩) (zp_V _ hK hP t31 (T := TX9) (N := 54) rfl (by decide)) rfl rfl hl.1 rfl (lv_room (Nat.le_of_ble_eq_true rfl)) dX9_segmentAt_31 ⟨Nat.zero_le _, Nat.zero_le _⟩) (fun H locs hP hS => ?_)
          refine lv_goto (tgt := 38) hx hb dX9_segmentAt_34 (by decide) ?_
          exact J38 _ _ _ _ _ _ _ _ _ _ hf hP hS (lv_sub hl [0, 1, 2, 3, 4] rfl)
  unfold fX9_segmentAt at hf
  refine lv_iconst (v := (1 : Int32)) hx hb dX9_segmentAt_0 (by decide) ?_
  refine lv_istore_n (lv' := [(3, .int (1 : Int32)), (0, .ref (b + h0)), (1, .int x1), (2, .int x2)]) hx hb dX9_segmentAt_1 rfl hl (by decide) rfl (fun ls hl => ?_)
  refine lv_iconst (v := (5 : Int32)) hx hb dX9_segmentAt_2 (by decide) ?_
  refine lv_iload_n hx hb dX9_segmentAt_3 rfl (lv_at hl 2 rfl) ?_
  refine lv_imul hx hb dX9_segmentAt_4 ?_
  obtain ⟨x4_5, q5, hf⟩ := zlt_s hf
  refine zt q5 ?_
  refine lv_istore (lv' := [(4, .int x4_5), (3, .int (1 : Int32)), (0, .ref (b + h0)), (1, .int x1), (2, .int x2)]) hx hb dX9_segmentAt_5 hl (by decide) rfl (fun ls hl => ?_)
  exact L7 _ _ _ _ _ _ _ _ _ _ hf hP hS (lv_sub hl [2, 3, 4, 1, 0] rfl)
