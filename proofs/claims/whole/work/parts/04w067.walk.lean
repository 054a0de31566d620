theorem hi_X9_isExceptionBefore_9 : ∀ w ∈ wsX90, w ∈ wsX9_isExceptionBefore := fun _ h => List.mem_cons_of_mem _ (List.mem_append_right _ h)
set_option maxHeartbeats 4000000 in
set_option maxRecDepth 100000 in
theorem k_X9_isExceptionBefore (l : Launch) (D : va_G) (cy : Nat → ClassId) (b : Nat) (M0 : Mem) (p0 : Nat) (p1 : Int32) (rr : Int32 × Mem) (hf : fX9_isExceptionBefore M0 p0 p1 = some rr) : Met l yX9_isExceptionBefore wsX9_isExceptionBefore ({ frames := 0, cells := 0, slots := 0, locals := 0 } : Room) (zPc D cy b M0 [.ref (b + p0), .int p1]) (zQi D cy b rr) 0 0 (zA b) := by
  refine Met.ofW (cc := cX9_isExceptionBefore) (maxL := 6) (ret := (some .boolean)) (by decide) rfl ?_
  intro p e s m args below meth c s₁ B hml hv
  obtain ⟨rfl, hP, hK⟩ := hv
  have hx := B.exec
  have hb := B.bytes
  have hr := B.returns
  have hts := atoms_spec (ws := wsX9_isExceptionBefore) B.pre
  have hown : s.vm.findClass RX9 = some m.cls := findClass_of_methodNamed B.named
  have hlocks := B.notSynchronized
  have hS : va_S (zA b) s.heap s.heap [] := va_S.rf
  have hl := lv_entry ([.ref (b + p0), .int p1]) (n := 6) (Nat.le_of_ble_eq_true rfl)
  rw [lg_entry_eq]
  generalize (lg_sl ([.ref (b + p0), .int p1]) ++ List.replicate (6 - (lg_sl ([.ref (b + p0), .int p1])).length) Slot.unset).toArray = ls at hl ⊢
  have hl : lv_has ls 6 [(0, .ref (b + p0)), (1, .int p1)] := hl
  have L30 : ∀ (n30 : Nat) (M : Mem) (H : Heap) (locs : List Loc) (ls : Array Slot) (h0 : Nat) (x1 : Int32) (x2 : Int32) (x3 : Int32), fX9_isExceptionBefore_30L  n30 M h0 x1 x2 x3 = some rr → zH D cy b M H → va_S (zA b) s.heap H locs → lv_has ls 6 [(0, .ref (b + h0)), (1, .int x1), (2, .int x2), (3, .int x3)] → W p l e (headSpec wsX9_isExceptionBefore ({ frames := 0, cells := 0, slots := 0, locals := 0 } : Room)).room s m ([.ref (b + p0), .int p1] : List Value).toArray below meth c H locs 0 0 (MQ below (zQi D cy b rr) ([.ref (b + p0), .int p1] : List Value).toArray s 0 0 (zA b)) (F0 m 30 ls []) := by
    intro n30
    induction n30 with
    | zero =>
      intro M H locs ls h0 x1 x2 x3 hf
      have hf : (none : Option (Int32 × Mem)) = some rr := hf
      cases hf
    | succ n30 ih30 =>
      have J108 : ∀ (M : Mem) (H : Heap) (locs : List Loc) (ls : Array Slot) (h0 : Nat) (x1 : Int32) (x2 : Int32) (x3 : Int32) (x4 : Int32), fX9_isExceptionBefore_108 (fX9_isExceptionBefore_30L  n30) M h0 x1 x2 x3 x4 = some rr → zH D cy b M H → va_S (zA b) s.heap H locs → lv_has ls 6 [(0, .ref (b + h0)), (1, .int x1), (2, .int x2), (3, .int x3), (4, .int x4)] → W p l e (headSpec wsX9_isExceptionBefore ({ frames := 0, cells := 0, slots := 0, locals := 0 } : Room)).room s m ([.ref (b + p0), .int p1] : List Value).toArray below meth c H locs 0 0 (MQ below (zQi D cy b rr) ([.ref (b + p0), .int p1] : List Value).toArray s 0 0 (zA b)) (F0 m 108 ls []) := by
        intro M H locs ls h0 x1 x2 x3 x4 hf hP hS hl
        unfold fX9_isExceptionBefore_108 at hf
        refine lv_iload hx hb dX9_isExceptionBefore_108 (lv_at hl 4 rfl) ?_
        refine lv_if_eq (tgt := 115) hx hb dX9_isExceptionBefore_110 (by decide) (fun c110 => ?_) (fun c110 => ?_)
        · have hf := (if_pos c110).symm.trans hf
          obtain ⟨x3_115, q115, hf⟩ := zlt_s hf
          refine lv_iinc (v := x3_115) (lv' := [(3, .int x3_115), (0, .ref (b + h0)), (1, .int x1), (2, .int x2), (4, .int x4)]) hx hb dX9_isExceptionBefore_115 hl (k := 3) rfl (by rw [← q115]; rfl) (by decide) rfl (fun ls hl => ?_)
          refine lv_goto (tgt := 30) hx hb dX9_isExceptionBefore_118 (by decide) ?_
          exact ih30 _ _ _ _ _ _ _ _ hf hP hS (lv_sub hl [1, 2, 3, 0] rfl)
        · have hf := (if_neg c110).symm.trans hf
          refine lv_iconst (v := (1 : Int32)) hx hb dX9_isExceptionBefore_113 (by decide) ?_
          exact zret_z hx hb hr (Or.inl rfl) hlocks hf hP hS dX9_isExceptionBefore_114
      have L60 : ∀ (n60 : Nat) (M : Mem) (H : Heap) (locs : List Loc) (ls : Array Slot) (h0 : Nat) (x1 : Int32) (x2 : Int32) (x3 : Int32) (x4 : Int32) (x5 : Int32), fX9_isExceptionBefore_60L (fX9_isExceptionBefore_30L  n30) n60 M h0 x1 x2 x3 x4 x5 = some rr → zH D cy b M H → va_S (zA b) s.heap H locs → lv_has ls 6 [(0, .ref (b + h0)), (1, .int x1), (2, .int x2), (3, .int x3), (4, .int x4), (5, .int x5)] → W p l e (headSpec wsX9_isExceptionBefore ({ frames := 0, cells := 0, slots := 0, locals := 0 } : Room)).room s m ([.ref (b + p0), .int p1] : List Value).toArray below meth c H locs 0 0 (MQ below (zQi D cy b rr) ([.ref (b + p0), .int p1] : List Value).toArray s 0 0 (zA b)) (F0 m 60 ls []) := by
        intro n60
        induction n60 with
        | zero =>
          intro M H locs ls h0 x1 x2 x3 x4 x5 hf
          have hf : (none : Option (Int32 × Mem)) = some rr := hf
          cases hf
        | succ n60 ih60 =>
          have J100 : ∀ (M : Mem) (H : Heap) (locs : List Loc) (ls : Array Slot) (h0 : Nat) (x1 : Int32) (x2 : Int32) (x3 : Int32) (x5 : Int32) (y0 : Int32), fX9_isExceptionBefore_100 (fX9_isExceptionBefore_60L (fX9_isExceptionBefore_30L  n30) n60) M h0 x1 x2 x3 x5 y0 = some rr → zH D cy b M H → va_S (zA b) s.heap H locs → lv_has ls 6 [(0, .ref (b + h0)), (1, .int x1), (2, .int x2), (3, .int x3), (5, .int x5)] → W p l e (headSpec wsX9_isExceptionBefore ({ frames := 0, cells := 0, slots := 0, locals := 0 } : Room)).room s m ([.ref (b + p0), .int p1] : List Value).toArray below meth c H locs 0 0 (MQ below (zQi D cy b rr) ([.ref (b + p0), .int p1] : List Value).toArray s 0 0 (zA b)) (F0 m 100 ls [.int y0]) := by
            intro M H locs ls h0 x1 x2 x3 x5 y0 hf hP hS hl
            unfold fX9_isExceptionBefore_100 at hf
            refine lv_istore (lv' := [(4, .int y0), (0, .ref (b + h0)), (1, .int x1), (2, .int x2), (3, .int x3), (5, .int x5)]) hx hb dX9_isExceptionBefore_100 hl (by decide) rfl (fun ls hl => ?_)
            obtain ⟨x5_102, q102, hf⟩ := zlt_s hf
            refine lv_iinc (v := x5_102) (lv' := [(5, .int x5_102), (4, .int y0), (0, .ref (b + h0)), (1, .int x1), (2, .int x2), (3, .int x3)]) hx hb dX9_isExceptionBefore_102 hl (k := 5) rfl (by rw [← q102]; rfl) (by decide) rfl (fun ls hl => ?_)
            refine lv_goto (tgt := 60) hx hb dX9_isExceptionBefore_105 (by decide) ?_
            exact ih60 _ _ _ _ _ _ _ _ _ _ hf hP hS (lv_sub hl [2, 3, 4, 5, 1, 0] rfl)
          intro M H locs ls h0 x1 x2 x3 x4 x5 hf hP hS hl
          have hf : fX9_isExceptionBefore_60 (fX9_isExceptionBefore_30L  n30) (fX9_isExceptionBefore_60L (fX9_isExceptionBefore_30L  n30) n60) M h0 x1 x2 x3 x4 x5 = some rr := hf
          unfold fX9_isExceptionBefore_60 at hf
          refine lv_iload hx hb dX9_isExceptionBefore_60 (lv_at hl 5 rfl) ?_
          refine lv_iload_n hx hb dX9_isExceptionBefore_62 rfl (lv_at hl 1 rfl) ?_
          refine lv_icmp_ge (tgt := 108) hx hb dX9_isExceptionBefore_63 (by decide) (fun c63 => ?_) (fun c63 => ?_)
          · have hf := (if_pos c63).symm.trans hf
            exact J108 _ _ _ _ _ _ _ _ _ hf hP hS (lv_sub hl [0, 1, 2, 3, 4] rfl)
          · have hf := (if_neg c63).symm.trans hf
            refine lv_iload hx hb dX9_isExceptionBefore_66 (lv_at hl 4 rfl) ?_
            refine lv_if_eq (tgt := 108) hx hb dX9_isExceptionBefore_68 (by decide) (fun c68 => ?_) (fun c68 => ?_)
            · have hf := (if_pos c68).symm.trans hf
              exact J108 _ _ _ _ _ _ _ _ _ hf hP hS (lv_sub hl [0, 1, 2, 3, 4] rfl)
            · have hf := (if_neg c68).symm.trans hf
              refine lv_aload_n hx hb dX9_isExceptionBefore_71 rfl (lv_at hl 0 rfl) ?_
              obtain ⟨v72, e72, hf⟩ := zb hf
              refine zr_gr (ci := 9) (k := 51) (C := RX9) (T := TX9) (N := 54) hx hb hts hi_X9_isExceptionBefore_9 hown hK hP e72 rfl rfl (by decide) (by decide) (hts (.fieldLink RX9 126 "BoundaryAnalyzerModel" "exceptionAt" "[C") (List.mem_of_getElem? (i := 5) rfl)) dX9_isExceptionBefore_72 ?_
              refine lv_bipush (v := (8 : Int32)) hx hb dX9_isExceptionBefore_75 (by decide) ?_
              refine lv_iload_n hx hb dX9_isExceptionBefore_77 rfl (lv_at hl 3 rfl) ?_
              refine lv_imul hx hb dX9_isExceptionBefore_78 ?_
              refine lv_iload hx hb dX9_isExceptionBefore_79 (lv_at hl 5 rfl) ?_
              refine lv_iadd hx hb dX9_isExceptionBefore_81 ?_
              refine lv_iload_n hx hb dX9_isExceptionBefore_82 rfl (lv_at hl 2 rfl) ?_
              refine lv_isub hx hb dX9_isExceptionBefore_83 ?_
              obtain ⟨v84, e84, hf⟩ := zb hf
              refine zr_ac hx hb hK hP e84 dX9_isExceptionBefore_84 ?_
              refine lv_aload_n hx hb dX9_isExceptionBefore_85 rfl (lv_at hl 0 rfl) ?_
              obtain ⟨v86, e86, hf⟩ := zb hf
              refine zr_gr (ci := 9) (k := 32) (C := RX9) (T := TX9) (N := 54) hx hb hts hi_X9_isExceptionBefore_9 hown hK hP e86 rfl rfl (by decide) (by decide) (hts (.fieldLink RX9 78 "BoundaryAnalyzerModel" "text" "[C") (List.mem_of_getElem? (i := 2) rfl)) dX9_isExceptionBefore_86 ?_
              refine lv_iload hx hb dX9_isExceptionBefore_89 (lv_at hl 5 rfl) ?_
              obtain ⟨v91, e91, hf⟩ := zb hf
              refine zr_ac hx hb hK hP e91 dX9_isExceptionBefore_91 ?_
              refine lv_icmp_ne (tgt := 99) hx hb dX9_isExceptionBefore_92 (by decide) (fun c92 => ?_) (fun c92 => ?_)
              · have hf := (if_neg c92).symm.trans hf
                refine lv_iconst (v := (0 : Int32)) hx hb dX9_isExceptionBefore_99 (by decide) ?_
                exact J100 _ _ _ _ _ _ _ _ _ _ hf hP hS (lv_sub hl [0, 1, 2, 3, 5] rfl)
              · have hf := (if_pos c92).symm.trans hf
                refine lv_iconst (v := (1 : Int32)) hx hb dX9_isExceptionBefore_95 (by decide) ?_
                refine lv_goto (tgt := 100) hx hb dX9_isExceptionBefore_96 (by decide) ?_
                exact J100 _ _ _ _ _ _ _ _ _ _ hf hP hS (lv_sub hl [0, 1, 2, 3, 5] rfl)
      have J55 : ∀ (M : Mem) (H : Heap) (locs : List Loc) (ls : Array Slot) (h0 : Nat) (x1 : Int32) (x2 : Int32) (x3 : Int32) (y0 : Int32), fX9_isExceptionBefore_55 (fX9_isExceptionBefore_30L  n30) M h0 x1 x2 x3 y0 = some rr → zH D cy b M H → va_S (zA b) s.heap H locs → lv_has ls 6 [(0, .ref (b + h0)), (1, .int x1), (2, .int x2), (3, .int x3)] → W p l e (headSpec wsX9_isExceptionBefore ({ frames := 0, cells := 0, slots := 0, locals := 0 } : Room)).room s m ([.ref (b + p0), .int p1] : List Value).toArray below meth c H locs 0 0 (MQ below (zQi D cy b rr) ([.ref (b + p0), .int p1] : List Value).toArray s 0 0 (zA b)) (F0 m 55 ls [.int y0]) := by
        intro M H locs ls h0 x1 x2 x3 y0 hf hP hS hl
        unfold fX9_isExceptionBefore_55 at hf
        refine lv_istore (lv' := [(4, .int y0), (0, .ref (b + h0)), (1, .int x1), (2, .int x2), (3, .int x3)]) hx hb dX9_isExceptionBefore_55 hl (by decide) rfl (fun ls hl => ?_)
        refine lv_iload_n hx hb dX9_isExceptionBefore_57 rfl (lv_at hl 3 rfl) ?_
        refine lv_istore (lv' := [(5, .int x2), (4, .int y0), (0, .ref (b + h0)), (1, .int x1), (2, .int x2), (3, .int x3)]) hx hb dX9_isExceptionBefore_58 hl (by decide) rfl (fun ls hl => ?_)
        exact L60 _ _ _ _ _ _ _ _ _ _ _ hf hP hS (lv_sub hl [2, 3, 4, 5, 1, 0] rfl)
      intro M H locs ls h0 x1 x2 x3 hf hP hS hl
      have hf : fX9_isExceptionBefore_30  (fX9_isExceptionBefore_30L  n30) M h0 x1 x2 x3 = some rr := hf
      unfold fX9_isExceptionBefore_30 at hf
      refine lv_iload_n hx hb dX9_isExceptionBefore_30 rfl (lv_at hl 3 rfl) ?_
      refine lv_aload_n hx hb dX9_isExceptionBefore_31 rfl (lv_at hl 0 rfl) ?_
      obtain ⟨v32, e32, hf⟩ := zb hf
      refine zr_gi (ci := 9) (k := 49) (C := RX9) (T := TX9) (N := 54) hx hb hts hi_X9_isExceptionBefore_9 hown hK hP e32 rfl rfl (by decide) (by decide) (hts (.fieldLink RX9 279 "BoundaryAnalyzerModel" "exceptions" "I") (List.mem_of_getElem? (i := 3) rfl)) dX9_isExceptionBefore_32 ?_
      refine lv_icmp_ge (tgt := 121) hx hb dX9_isExceptionBefore_35 (by decide) (fun c35 => ?_) (fun c35 => ?_)
      · have hf := (if_pos c35).symm.trans hf
        refine lv_iconst (v := (0 : Int32)) hx hb dX9_isExceptionBefore_121 (by decide) ?_
        exact zret_z hx hb hr (Or.inl rfl) hlocks hf hP hS dX9_isExceptionBefore_122
      · have hf := (if_neg c35).symm.trans hf
        refine lv_aload_n hx hb dX9_isExceptionBefore_38 rfl (lv_at hl 0 rfl) ?_
        obtain ⟨v39, e39, hf⟩ := zb hf
        refine zr_gr (ci := 9) (k := 50) (C := RX9) (T := TX9) (N := 54) hx hb hts hi_X9_isExceptionBefore_9 hown hK hP e39 rfl rfl (by decide) (by decide) (hts (.fieldLink RX9 123 "BoundaryAnalyzerModel" "exceptionLong" "[I") (List.mem_of_getElem? (i := 4) rfl)) dX9_isExceptionBefore_39 ?_
        refine lv_iload_n hx hb dX9_isExceptionBefore_42 rfl (lv_at hl 3 rfl) ?_
        obtain ⟨v43, e43, hf⟩ := zb hf
        refine zr_ai hx hb hK hP e43 dX9_isExceptionBefore_43 ?_
        refine lv_iload_n hx hb dX9_isExceptionBefore_44 rfl (lv_at hl 1 rfl) ?_
        refine lv_iload_n hx hb dX9_isExceptionBefore_45 rfl (lv_at hl 2 rfl) ?_
        refine lv_isub hx hb dX9_isExceptionBefore_46 ?_
        refine lv_icmp_ne (tgt := 54) hx hb dX9_isExceptionBefore_47 (by decide) (fun c47 => ?_) (fun c47 => ?_)
        · have hf := (if_neg c47).symm.trans hf
          refine lv_iconst (v := (0 : Int32)) hx hb dX9_isExceptionBefore_54 (by decide) ?_
          exact J55 _ _ _ _ _ _ _ _ _ hf hP hS (lv_sub hl [0, 1, 2, 3] rfl)
        · have hf := (if_pos c47).symm.trans hf
          refine lv_iconst (v := (1 : Int32)) hx hb dX9_isExceptionBefore_50 (by decide) ?_
          refine lv_goto (tgt := 55) hx hb dX9_isExceptionBefore_51 (by decide) ?_
          exact J55 _ _ _ _ _ _ _ _ _ hf hP hS (lv_sub hl [0, 1, 2, 3] rfl)
  have J28 : ∀ (M : Mem) (H : Heap) (locs : List Loc) (ls : Array Slot) (h0 : Nat) (x1 : Int32) (x2 : Int32), fX9_isExceptionBefore_28  M h0 x1 x2 = some rr → zH D cy b M H → va_S (zA b) s.heap H locs → lv_has ls 6 [(0, .ref (b + h0)), (1, .int x1), (2, .int x2)] → W p l e (headSpec wsX9_isExceptionBefore ({ frames := 0, cells := 0, slots := 0, locals := 0 } : Room)).room s m ([.ref (b + p0), .int p1] : List Value).toArray below meth c H locs 0 0 (MQ below (zQi D cy b rr) ([.ref (b + p0), .int p1] : List Value).toArray s 0 0 (zA b)) (F0 m 28 ls []) := by
    intro M H locs ls h0 x1 x2 hf hP hS hl
    unfold fX9_isExceptionBefore_28 at hf
    refine lv_iconst (v := (0 : Int32)) hx hb dX9_isExceptionBefore_28 (by decide) ?_
    refine lv_istore_n (lv' := [(3, .int (0 : Int32)), (0, .ref (b + h0)), (1, .int x1), (2, .int x2)]) hx hb dX9_isExceptionBefore_29 rfl hl (by decide) rfl (fun ls hl => ?_)
    exact L30 _ _ _ _ _ _ _ _ _ hf hP hS (lv_sub hl [1, 2, 3, 0] rfl)
  have L2 : ∀ (n2 : Nat) (M : Mem) (H : Heap) (locs : List Loc) (ls : Array Slot) (h0 : Nat) (x1 : Int32) (x2 : Int32), fX9_isExceptionBefore_2L  n2 M h0 x1 x2 = some rr → zH D cy b M H → va_S (zA b) s.heap H locs → lv_has ls 6 [(0, .ref (b + h0)), (1, .int x1), (2, .int x2)] → W p l e (headSpec wsX9_isExceptionBefore ({ frames := 0, cells := 0, slots := 0, locals := 0 } : Room)).room s m ([.ref (b + p0), .int p1] : List Value).toArray below meth c H locs 0 0 (MQ below (zQi D cy b rr) ([.ref (b + p0), .int p1] : List Value).toArray s 0 0 (zA b)) (F0 m 2 ls []) := by
    intro n2
    induction n2 with
    | zero =>
      intro M H locs ls h0 x1 x2 hf
      have hf : (none : Option (Int32 × Mem)) = some rr := hf
      cases hf
    | succ n2 ih2 =>
      intro M H locs ls h0 x1 x2 hf hP hS hl
      have hf : fX9_isExceptionBefore_2  (fX9_isExceptionBefore_2L  n2) M h0 x1 x2 = some rr := hf
      unfold fX9_isExceptionBefore_2 at hf
      refine lv_iload_n hx hb dX9_isExceptionBefore_2 rfl (lv_at hl 2 rfl) ?_
      refine lv_if_le (tgt := 28) hx hb dX9_isExceptionBefore_3 (by decide) (fun c3 => ?_) (fun c3 => ?_)
      · have hf := (if_pos c3).symm.trans hf
        exact J28 _ _ _ _ _ _ _ hf hP hS (lv_sub hl [0, 1, 2] rfl)
      · have hf := (if_neg c3).symm.trans hf
        refine lv_aload_n hx hb dX9_isExceptionBefore_6 rfl (lv_at hl 0 rfl) ?_
        obtain ⟨v7, e7, hf⟩ := zb hf
        refine zr_gr (ci := 9) (k := 0) (C := RX9) (T := TX9) (N := 54) hx hb hts hi_X9_isExceptionBefore_9 hown hK hP e7 rfl rfl (by decide) (by decide) (hts (.fieldLink RX9 7 "BoundaryAnalyzerModel" "classAt" "[I") (List.mem_of_getElem? (i := 1) rfl)) dX9_isExceptionBefore_7 ?_
        refine lv_aload_n hx hb dX9_isExceptionBefore_10 rfl (lv_at hl 0 rfl) ?_
        obtain ⟨v11, e11, hf⟩ := zb hf
        refine zr_gr (ci := 9) (k := 32) (C := RX9) (T := TX9) (N := 54) hx hb hts hi_X9_isExceptionBefore_9 hown hK hP e11 rfl rfl (by decide) (by decide) (hts (.fieldLink RX9 78 "BoundaryAnalyzerModel" "text" "[C") (List.mem_of_getElem? (i := 2) rfl)) dX9_isExceptionBefore_11 ?_
        refine lv_iload_n hx hb dX9_isExceptionBefore_14 rfl (lv_at hl 2 rfl) ?_
        refine lv_iconst (v := (1 : Int32)) hx hb dX9_isExceptionBefore_15 (by decide) ?_
        refine lv_isub hx hb dX9_isExceptionBefore_16 ?_
        obtain ⟨v17, e17, hf⟩ := zb hf
        refine zr_ac hx hb hK hP e17 dX9_isExceptionBefore_17 ?_
        obtain ⟨v18, e18, hf⟩ := zb hf
        refine zr_ai hx hb hK hP e18 dX9_isExceptionBefore_18 ?_
        refine lv_if_ne (tgt := 28) hx hb dX9_isExceptionBefore_19 (by decide) (fun c19 => ?_) (fun c19 => ?_)
        · have hf := (if_neg c19).symm.trans hf
          exact J28 _ _ _ _ _ _ _ hf hP hS (lv_sub hl [0, 1, 2] rfl)
        · have hf := (if_pos c19).symm.trans hf
          obtain ⟨x2_22, q22, hf⟩ := zlt_s hf
          refine lv_iinc (v := x2_22) (lv' := [(2, .int x2_22), (0, .ref (b + h0)), (1, .int x1)]) hx hb dX9_isExceptionBefore_22 hl (k := 2) rfl (by rw [← q22]; rfl) (by decide) rfl (fun ls hl => ?_)
          refine lv_goto (tgt := 2) hx hb dX9_isExceptionBefore_25 (by decide) ?_
          exact ih2 _ _ _ _ _ _ _ hf hP hS (lv_sub hl [1, 2, 0] rfl)
  unfold fX9_isExceptionBefore at hf
  refine lv_iload_n hx hb dX9_isExceptionBefore_0 rfl (lv_at hl 1 rfl) ?_
  refine lv_istore_n (lv' := [(2, .int p1), (0, .ref (b + p0)), (1, .int p1)]) hx hb dX9_isExceptionBefore_1 rfl hl (by decide) rfl (fun ls hl => ?_)
  exact L2 _ _ _ _ _ _ _ _ hf hP hS (lv_sub hl [1, 2, 0] rfl)
