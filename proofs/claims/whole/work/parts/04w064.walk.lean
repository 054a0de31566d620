theorem hi_X9_exceptionBy_9 : ∀ w ∈ wsX90, w ∈ wsX9_exceptionBy := fun _ h => List.mem_cons_of_mem _ (List.mem_append_right _ h)
set_option maxHeartbeats 4000000 in
set_option maxRecDepth 100000 in
theorem k_X9_exceptionBy (l : Launch) (D : va_G) (cy : Nat → ClassId) (b : Nat) (M0 : Mem) (p0 : Nat) (rr : Int32 × Mem) (hf : fX9_exceptionBy M0 p0 = some rr) : Met l yX9_exceptionBy wsX9_exceptionBy ({ frames := 0, cells := 0, slots := 0, locals := 0 } : Room) (zPc D cy b M0 [.ref (b + p0)]) (zQi D cy b rr) 0 0 (zA b) := by
  refine Met.ofW (cc := cX9_exceptionBy) (maxL := 4) (ret := (some .int)) (by decide) rfl ?_
  intro p e s m args below meth c s₁ B hml hv
  obtain ⟨rfl, hP, hK⟩ := hv
  have hx := B.exec
  have hb := B.bytes
  have hr := B.returns
  have hts := atoms_spec (ws := wsX9_exceptionBy) B.pre
  have hown : s.vm.findClass RX9 = some m.cls := findClass_of_methodNamed B.named
  have hlocks := B.notSynchronized
  have hS : va_S (zA b) s.heap s.heap [] := va_S.rf
  have hl := lv_entry ([.ref (b + p0)]) (n := 4) (Nat.le_of_ble_eq_true rfl)
  rw [lg_entry_eq]
  generalize (lg_sl ([.ref (b + p0)]) ++ List.replicate (4 - (lg_sl ([.ref (b + p0)])).length) Slot.unset).toArray = ls at hl ⊢
  have hl : lv_has ls 4 [(0, .ref (b + p0))] := hl
  have L2 : ∀ (n2 : Nat) (M : Mem) (H : Heap) (locs : List Loc) (ls : Array Slot) (h0 : Nat) (x1 : Int32), fX9_exceptionBy_2L  n2 M h0 x1 = some rr → zH D cy b M H → va_S (zA b) s.heap H locs → lv_has ls 4 [(0, .ref (b + h0)), (1, .int x1)] → W p l e (headSpec wsX9_exceptionBy ({ frames := 0, cells := 0, slots := 0, locals := 0 } : Room)).room s m ([.ref (b + p0)] : List Value).toArray below meth c H locs 0 0 (MQ below (zQi D cy b rr) ([.ref (b + p0)] : List Value).toArray s 0 0 (zA b)) (F0 m 2 ls []) := by
    intro n2
    induction n2 with
    | zero =>
      intro M H locs ls h0 x1 hf
      have hf : (none : Option (Int32 × Mem)) = some rr := hf
      cases hf
    | succ n2 ih2 =>
      have J75 : ∀ (M : Mem) (H : Heap) (locs : List Loc) (ls : Array Slot) (h0 : Nat) (x1 : Int32) (x2 : Int32), fX9_exceptionBy_75 (fX9_exceptionBy_2L  n2) M h0 x1 x2 = some rr → zH D cy b M H → va_S (zA b) s.heap H locs → lv_has ls 4 [(0, .ref (b + h0)), (1, .int x1), (2, .int x2)] → W p l e (headSpec wsX9_exceptionBy ({ frames := 0, cells := 0, slots := 0, locals := 0 } : Room)).room s m ([.ref (b + p0)] : List Value).toArray below meth c H locs 0 0 (MQ below (zQi D cy b rr) ([.ref (b + p0)] : List Value).toArray s 0 0 (zA b)) (F0 m 75 ls []) := by
        intro M H locs ls h0 x1 x2 hf hP hS hl
        unfold fX9_exceptionBy_75 at hf
        refine lv_iload_n hx hb dX9_exceptionBy_75 rfl (lv_at hl 2 rfl) ?_
        refine lv_if_eq (tgt := 81) hx hb dX9_exceptionBy_76 (by decide) (fun c76 => ?_) (fun c76 => ?_)
        · have hf := (if_pos c76).symm.trans hf
          obtain ⟨x1_81, q81, hf⟩ := zlt_s hf
          refine lv_iinc (v := x1_81) (lv' := [(1, .int x1_81), (0, .ref (b + h0)), (2, .int x2)]) hx hb dX9_exceptionBy_81 hl (k := 1) rfl (by rw [← q81]; rfl) (by decide) rfl (fun ls hl => ?_)
          refine lv_goto (tgt := 2) hx hb dX9_exceptionBy_84 (by decide) ?_
          exact ih2 _ _ _ _ _ _ hf hP hS (lv_sub hl [1, 0] rfl)
        · have hf := (if_neg c76).symm.trans hf
          refine lv_iload_n hx hb dX9_exceptionBy_79 rfl (lv_at hl 1 rfl) ?_
          exact zret_i hx hb hr hlocks hf hP hS dX9_exceptionBy_80
      have L31 : ∀ (n31 : Nat) (M : Mem) (H : Heap) (locs : List Loc) (ls : Array Slot) (h0 : Nat) (x1 : Int32) (x2 : Int32) (x3 : Int32), fX9_exceptionBy_31L (fX9_exceptionBy_2L  n2) n31 M h0 x1 x2 x3 = some rr → zH D cy b M H → va_S (zA b) s.heap H locs → lv_has ls 4 [(0, .ref (b + h0)), (1, .int x1), (2, .int x2), (3, .int x3)] → W p l e (headSpec wsX9_exceptionBy ({ frames := 0, cells := 0, slots := 0, locals := 0 } : Room)).room s m ([.ref (b + p0)] : List Value).toArray below meth c H locs 0 0 (MQ below (zQi D cy b rr) ([.ref (b + p0)] : List Value).toArray s 0 0 (zA b)) (F0 m 31 ls []) := by
        intro n31
        induction n31 with
        | zero =>
          intro M H locs ls h0 x1 x2 x3 hf
          have hf : (none : Option (Int32 × Mem)) = some rr := hf
          cases hf
        | succ n31 ih31 =>
          have J68 : ∀ (M : Mem) (H : Heap) (locs : List Loc) (ls : Array Slot) (h0 : Nat) (x1 : Int32) (x3 : Int32) (y0 : Int32), fX9_exceptionBy_68 (fX9_exceptionBy_31L (fX9_exceptionBy_2L  n2) n31) M h0 x1 x3 y0 = some rr → zH D cy b M H → va_S (zA b) s.heap H locs → lv_has ls 4 [(0, .ref (b + h0)), (1, .int x1), (3, .int x3)] → W p l e (headSpec wsX9_exceptionBy ({ frames := 0, cells := 0, slots := 0, locals := 0 } : Room)).room s m ([.ref (b + p0)] : List Value).toArray below meth c H locs 0 0 (MQ below (zQi D cy b rr) ([.ref (b + p0)] : List Value).toArray s 0 0 (zA b)) (F0 m 68 ls [.int y0]) := by
            intro M H locs ls h0 x1 x3 y0 hf hP hS hl
            unfold fX9_exceptionBy_68 at hf
            refine lv_istore_n (lv' := [(2, .int y0), (0, .ref (b + h0)), (1, .int x1), (3, .int x3)]) hx hb dX9_exceptionBy_68 rfl hl (by decide) rfl (fun ls hl => ?_)
            obtain ⟨x3_69, q69, hf⟩ := zlt_s hf
            refine lv_iinc (v := x3_69) (lv' := [(3, .int x3_69), (2, .int y0), (0, .ref (b + h0)), (1, .int x1)]) hx hb dX9_exceptionBy_69 hl (k := 3) rfl (by rw [← q69]; rfl) (by decide) rfl (fun ls hl => ?_)
            refine lv_goto (tgt := 31) hx hb dX9_exceptionBy_72 (by decide) ?_
            exact ih31 _ _ _ _ _ _ _ _ hf hP hS (lv_sub hl [2, 3, 1, 0] rfl)
          intro M H locs ls h0 x1 x2 x3 hf hP hS hl
          have hf : fX9_exceptionBy_31 (fX9_exceptionBy_2L  n2) (fX9_exceptionBy_31L (fX9_exceptionBy_2L  n2) n31) M h0 x1 x2 x3 = some rr := hf
          unfold fX9_exceptionBy_31 at hf
          refine lv_iload_n hx hb dX9_exceptionBy_31 rfl (lv_at hl 3 rfl) ?_
          refine lv_aload_n hx hb dX9_exceptionBy_32 rfl (lv_at hl 0 rfl) ?_
          obtain ⟨v33, e33, hf⟩ := zb hf
          refine zr_gi (ci := 9) (k := 1) (C := RX9) (T := TX9) (N := 54) hx hb hts hi_X9_exceptionBy_9 hown hK hP e33 rfl rfl (by decide) (by decide) (hts (.fieldLink RX9 144 "BoundaryAnalyzerModel" "typed" "I") (List.mem_of_getElem? (i := 3) rfl)) dX9_exceptionBy_33 ?_
          refine lv_icmp_ge (tgt := 75) hx hb dX9_exceptionBy_36 (by decide) (fun c36 => ?_) (fun c36 => ?_)
          · have hf := (if_pos c36).symm.trans hf
            exact J75 _ _ _ _ _ _ _ hf hP hS (lv_sub hl [0, 1, 2] rfl)
          · have hf := (if_neg c36).symm.trans hf
            refine lv_iload_n hx hb dX9_exceptionBy_39 rfl (lv_at hl 2 rfl) ?_
            refine lv_if_eq (tgt := 75) hx hb dX9_exceptionBy_40 (by decide) (fun c40 => ?_) (fun c40 => ?_)
            · have hf := (if_pos c40).symm.trans hf
              exact J75 _ _ _ _ _ _ _ hf hP hS (lv_sub hl [0, 1, 2] rfl)
            · have hf := (if_neg c40).symm.trans hf
              refine lv_aload_n hx hb dX9_exceptionBy_43 rfl (lv_at hl 0 rfl) ?_
              obtain ⟨v44, e44, hf⟩ := zb hf
              refine zr_gr (ci := 9) (k := 51) (C := RX9) (T := TX9) (N := 54) hx hb hts hi_X9_exceptionBy_9 hown hK hP e44 rfl rfl (by decide) (by decide) (hts (.fieldLink RX9 126 "BoundaryAnalyzerModel" "exceptionAt" "[C") (List.mem_of_getElem? (i := 4) rfl)) dX9_exceptionBy_44 ?_
              refine lv_bipush (v := (8 : Int32)) hx hb dX9_exceptionBy_47 (by decide) ?_
              refine lv_iload_n hx hb dX9_exceptionBy_49 rfl (lv_at hl 1 rfl) ?_
              refine lv_imul hx hb dX9_exceptionBy_50 ?_
              refine lv_iload_n hx hb dX9_exceptionBy_51 rfl (lv_at hl 3 rfl) ?_
              refine lv_iadd hx hb dX9_exceptionBy_52 ?_
              obtain ⟨v53, e53, hf⟩ := zb hf
              refine zr_ac hx hb hK hP e53 dX9_exceptionBy_53 ?_
              refine lv_aload_n hx hb dX9_exceptionBy_54 rfl (lv_at hl 0 rfl) ?_
              obtain ⟨v55, e55, hf⟩ := zb hf
              refine zr_gr (ci := 9) (k := 2) (C := RX9) (T := TX9) (N := 54) hx hb hts hi_X9_exceptionBy_9 hown hK hP e55 rfl rfl (by decide) (by decide) (hts (.fieldLink RX9 13 "BoundaryAnalyzerModel" "pattern" "[C") (List.mem_of_getElem? (i := 5) rfl)) dX9_exceptionBy_55 ?_
              refine lv_iload_n hx hb dX9_exceptionBy_58 rfl (lv_at hl 3 rfl) ?_
              obtain ⟨v59, e59, hf⟩ := zb hf
              refine zr_ac hx hb hK hP e59 dX9_exceptionBy_59 ?_
              refine lv_icmp_ne (tgt := 67) hx hb dX9_exceptionBy_60 (by decide) (fun c60 => ?_) (fun c60 => ?_)
              · have hf := (if_neg c60).symm.trans hf
                refine lv_iconst (v := (0 : Int32)) hx hb dX9_exceptionBy_67 (by decide) ?_
                exact J68 _ _ _ _ _ _ _ _ hf hP hS (lv_sub hl [0, 1, 3] rfl)
              · have hf := (if_pos c60).symm.trans hf
                refine lv_iconst (v := (1 : Int32)) hx hb dX9_exceptionBy_63 (by decide) ?_
                refine lv_goto (tgt := 68) hx hb dX9_exceptionBy_64 (by decide) ?_
                exact J68 _ _ _ _ _ _ _ _ hf hP hS (lv_sub hl [0, 1, 3] rfl)
      have J28 : ∀ (M : Mem) (H : Heap) (locs : List Loc) (ls : Array Slot) (h0 : Nat) (x1 : Int32) (y0 : Int32), fX9_exceptionBy_28 (fX9_exceptionBy_2L  n2) M h0 x1 y0 = some rr → zH D cy b M H → va_S (zA b) s.heap H locs → lv_has ls 4 [(0, .ref (b + h0)), (1, .int x1)] → W p l e (headSpec wsX9_exceptionBy ({ frames := 0, cells := 0, slots := 0, locals := 0 } : Room)).room s m ([.ref (b + p0)] : List Value).toArray below meth c H locs 0 0 (MQ below (zQi D cy b rr) ([.ref (b + p0)] : List Value).toArray s 0 0 (zA b)) (F0 m 28 ls [.int y0]) := by
        intro M H locs ls h0 x1 y0 hf hP hS hl
        unfold fX9_exceptionBy_28 at hf
        refine lv_istore_n (lv' := [(2, .int y0), (0, .ref (b + h0)), (1, .int x1)]) hx hb dX9_exceptionBy_28 rfl hl (by decide) rfl (fun ls hl => ?_)
        refine lv_iconst (v := (0 : Int32)) hx hb dX9_exceptionBy_29 (by decide) ?_
        refine lv_istore_n (lv' := [(3, .int (0 : Int32)), (2, .int y0), (0, .ref (b + h0)), (1, .int x1)]) hx hb dX9_exceptionBy_30 rfl hl (by decide) rfl (fun ls hl => ?_)
        exact L31 _ _ _ _ _ _ _ _ _ hf hP hS (lv_sub hl [2, 3, 1, 0] rfl)
      intro M H locs ls h0 x1 hf hP hS hl
      have hf : fX9_exceptionBy_2  (fX9_exceptionBy_2L  n2) M h0 x1 = some rr := hf
      unfold fX9_exceptionBy_2 at hf
      refine lv_iload_n hx hb dX9_exceptionBy_2 rfl (lv_at hl 1 rfl) ?_
      refine lv_aload_n hx hb dX9_exceptionBy_3 rfl (lv_at hl 0 rfl) ?_
      obtain ⟨v4, e4, hf⟩ := zb hf
      refine zr_gi (ci := 9) (k := 49) (C := RX9) (T := TX9) (N := 54) hx hb hts hi_X9_exceptionBy_9 hown hK hP e4 rfl rfl (by decide) (by decide) (hts (.fieldLink RX9 279 "BoundaryAnalyzerModel" "exceptions" "I") (List.mem_of_getElem? (i := 1) rfl)) dX9_exceptionBy_4 ?_
      refine lv_icmp_ge (tgt := 87) hx hb dX9_exceptionBy_7 (by decide) (fun c7 => ?_) (fun c7 => ?_)
      · have hf := (if_pos c7).symm.trans hf
        refine lv_iconst (v := (-1 : Int32)) hx hb dX9_exceptionBy_87 (by decide) ?_
        exact zret_i hx hb hr hlocks hf hP hS dX9_exceptionBy_88
      · have hf := (if_neg c7).symm.trans hf
        refine lv_aload_n hx hb dX9_exceptionBy_10 rfl (lv_at hl 0 rfl) ?_
        obtain ⟨v11, e11, hf⟩ := zb hf
        refine zr_gr (ci := 9) (k := 50) (C := RX9) (T := TX9) (N := 54) hx hb hts hi_X9_exceptionBy_9 hown hK hP e11 rfl rfl (by decide) (by decide) (hts (.fieldLink RX9 123 "BoundaryAnalyzerModel" "exceptionLong" "[I") (List.mem_of_getElem? (i := 2) rfl)) dX9_exceptionBy_11 ?_
        refine lv_iload_n hx hb dX9_exceptionBy_14 rfl (lv_at hl 1 rfl) ?_
        obtain ⟨v15, e15, hf⟩ := zb hf
        refine zr_ai hx hb hK hP e15 dX9_exceptionBy_15 ?_
        refine lv_aload_n hx hb dX9_exceptionBy_16 rfl (lv_at hl 0 rfl) ?_
        obtain ⟨v17, e17, hf⟩ := zb hf
        refine zr_gi (ci := 9) (k := 1) (C := RX9) (T := TX9) (N := 54) hx hb hts hi_X9_exceptionBy_9 hown hK hP e17 rfl rfl (by decide) (by decide) (hts (.fieldLink RX9 144 "BoundaryAnalyzerModel" "typed" "I") (List.mem_of_getElem? (i := 3) rfl)) dX9_exceptionBy_17 ?_
        refine lv_icmp_ne (tgt := 27) hx hb dX9_exceptionBy_20 (by decide) (fun c20 => ?_) (fun c20 => ?_)
        · have hf := (if_neg c20).symm.trans hf
          refine lv_iconst (v := (0 : Int32)) hx hb dX9_exceptionBy_27 (by decide) ?_
          exact J28 _ _ _ _ _ _ _ hf hP hS (lv_sub hl [0, 1] rfl)
        · have hf := (if_pos c20).symm.trans hf
          refine lv_iconst (v := (1 : Int32)) hx hb dX9_exceptionBy_23 (by decide) ?_
          refine lv_goto (tgt := 28) hx hb dX9_exceptionBy_24 (by decide) ?_
          exact J28 _ _ _ _ _ _ _ hf hP hS (lv_sub hl [0, 1] rfl)
  unfold fX9_exceptionBy at hf
  refine lv_iconst (v := (0 : Int32)) hx hb dX9_exceptionBy_0 (by decide) ?_
  refine lv_istore_n (lv' := [(1, .int (0 : Int32)), (0, .ref (b + p0))]) hx hb dX9_exceptionBy_1 rfl hl (by decide) rfl (fun ls hl => ?_)
  exact L2 _ _ _ _ _ _ _ hf hP hS (lv_sub hl [1, 0] rfl)
