theorem hi_X9_closeSequence_9 : ∀ w ∈ wsX90, w ∈ wsX9_closeSequence := fun _ h => List.mem_cons_of_mem _ (List.mem_append_right _ h)
set_option maxHeartbeats 4000000 in
set_option maxRecDepth 100000 in
theorem k_X9_closeSequence (l : Launch) (D : va_G) (cy : Nat → ClassId) (b : Nat) (M0 : Mem) (p0 : Nat) (rr : Mem) (hf : fX9_closeSequence M0 p0 = some rr) : Met l yX9_closeSequence wsX9_closeSequence ({ frames := 0, cells := 0, slots := 0, locals := 0 } : Room) (zPc D cy b M0 [.ref (b + p0)]) (zQv D cy b rr) 0 0 (zA b) := by
  refine Met.ofW (cc := cX9_closeSequence) (maxL := 1) (ret := none) (by decide) rfl ?_
  intro p e s m args below meth c s₁ B hml hv
  obtain ⟨rfl, hP, hK⟩ := hv
  have hx := B.exec
  have hb := B.bytes
  have hr := B.returns
  have hts := atoms_spec (ws := wsX9_closeSequence) B.pre
  have hown : s.vm.findClass RX9 = some m.cls := findClass_of_methodNamed B.named
  have hlocks := B.notSynchronized
  have hS : va_S (zA b) s.heap s.heap [] := va_S.rf
  have hl := lv_entry ([.ref (b + p0)]) (n := 1) (Nat.le_of_ble_eq_true rfl)
  rw [lg_entry_eq]
  generalize (lg_sl ([.ref (b + p0)]) ++ List.replicate (1 - (lg_sl ([.ref (b + p0)])).length) Slot.unset).toArray = ls at hl ⊢
  have hl : lv_has ls 1 [(0, .ref (b + p0))] := hl
  have J37 : ∀ (M : Mem) (H : Heap) (locs : List Loc) (ls : Array Slot) (h0 : Nat) (g0 : Nat) (y1 : Int32) (y2 : Int32), fX9_closeSequence_37  M h0 g0 y1 y2 = some rr → zH D cy b M H → va_S (zA b) s.heap H locs → lv_has ls 1 [(0, .ref (b + h0))] → W p l e (headSpec wsX9_closeSequence ({ frames := 0, cells := 0, slots := 0, locals := 0 } : Room)).room s m ([.ref (b + p0)] : List Value).toArray below meth c H locs 0 0 (MQ below (zQv D cy b rr) ([.ref (b + p0)] : List Value).toArray s 0 0 (zA b)) (F0 m 37 ls [.int y2, .int y1, .ref (b + g0)]) := by
    intro M H locs ls h0 g0 y1 y2 hf hP hS hl
    unfold fX9_closeSequence_37 at hf
    obtain ⟨M37, e37, hf⟩ := zb hf
    refine zr_sz hx hb hK hP hS e37 dX9_closeSequence_37 (fun H locs hP _ hS => ?_)
    refine lv_aload_n hx hb dX9_closeSequence_38 rfl (lv_at hl 0 rfl) ?_
    obtain ⟨v39, e39, hf⟩ := zb hf
    refine zr_gr (ci := 9) (k := 4) (C := RX9) (T := TX9) (N := 54) hx hb hts hi_X9_closeSequence_9 hown hK hP e39 rfl rfl (by decide) (by decide) (hts (.fieldLink RX9 21 "BoundaryAnalyzerModel" "altFirst" "[I") (List.mem_of_getElem? (i := 4) rfl)) dX9_closeSequence_39 ?_
    refine lv_aload_n hx hb dX9_closeSequence_42 rfl (lv_at hl 0 rfl) ?_
    obtain ⟨v43, e43, hf⟩ := zb hf
    refine zr_gi (ci := 9) (k := 10) (C := RX9) (T := TX9) (N := 54) hx hb hts hi_X9_closeSequence_9 hown hK hP e43 rfl rfl (by decide) (by decide) (hts (.fieldLink RX9 148 "BoundaryAnalyzerModel" "depth" "I") (List.mem_of_getElem? (i := 2) rfl)) dX9_closeSequence_43 ?_
    refine lv_dup2_11 hx hb dX9_closeSequence_46 rfl rfl ?_
    obtain ⟨v47, e47, hf⟩ := zb hf
    refine zr_ai hx hb hK hP e47 dX9_closeSequence_47 ?_
    refine lv_aload_n hx hb dX9_closeSequence_48 rfl (lv_at hl 0 rfl) ?_
    obtain ⟨v49, e49, hf⟩ := zb hf
    refine zr_gr (ci := 9) (k := 7) (C := RX9) (T := TX9) (N := 54) hx hb hts hi_X9_closeSequence_9 hown hK hP e49 rfl rfl (by decide) (by decide) (hts (.fieldLink RX9 30 "BoundaryAnalyzerModel" "seqFirst" "[I") (List.mem_of_getElem? (i := 5) rfl)) dX9_closeSequence_49 ?_
    refine lv_aload_n hx hb dX9_closeSequence_52 rfl (lv_at hl 0 rfl) ?_
    obtain ⟨v53, e53, hf⟩ := zb hf
    refine zr_gi (ci := 9) (k := 10) (C := RX9) (T := TX9) (N := 54) hx hb hts hi_X9_closeSequence_9 hown hK hP e53 rfl rfl (by decide) (by decide) (hts (.fieldLink RX9 148 "BoundaryAnalyzerModel" "depth" "I") (List.mem_of_getElem? (i := 2) rfl)) dX9_closeSequence_53 ?_
    obtain ⟨v56, e56, hf⟩ := zb hf
    refine zr_ai hx hb hK hP e56 dX9_closeSequence_56 ?_
    refine lv_ior hx hb dX9_closeSequence_57 ?_
    obtain ⟨M58, e58, hf⟩ := zb hf
    refine zr_si hx hb hK hP hS e58 dX9_closeSequence_58 (fun H locs hP _ hS => ?_)
    refine lv_aload_n hx hb dX9_closeSequence_59 rfl (lv_at hl 0 rfl) ?_
    obtain ⟨v60, e60, hf⟩ := zb hf
    refine zr_gr (ci := 9) (k := 5) (C := RX9) (T := TX9) (N := 54) hx hb hts hi_X9_closeSequence_9 hown hK hP e60 rfl rfl (by decide) (by decide) (hts (.fieldLink RX9 24 "BoundaryAnalyzerModel" "altLast" "[I") (List.mem_of_getElem? (i := 6) rfl)) dX9_closeSequence_60 ?_
    refine lv_aload_n hx hb dX9_closeSequence_63 rfl (lv_at hl 0 rfl) ?_
    obtain ⟨v64, e64, hf⟩ := zb hf
    refine zr_gi (ci := 9) (k := 10) (C := RX9) (T := TX9) (N := 54) hx hb hts hi_X9_closeSequence_9 hown hK hP e64 rfl rfl (by decide) (by decide) (hts (.fieldLink RX9 148 "BoundaryAnalyzerModel" "depth" "I") (List.mem_of_getElem? (i := 2) rfl)) dX9_closeSequence_64 ?_
    refine lv_dup2_11 hx hb dX9_closeSequence_67 rfl rfl ?_
    obtain ⟨v68, e68, hf⟩ := zb hf
    refine zr_ai hx hb hK hP e68 dX9_closeSequence_68 ?_
    refine lv_aload_n hx hb dX9_closeSequence_69 rfl (lv_at hl 0 rfl) ?_
    obtain ⟨v70, e70, hf⟩ := zb hf
    refine zr_gr (ci := 9) (k := 8) (C := RX9) (T := TX9) (N := 54) hx hb hts hi_X9_closeSequence_9 hown hK hP e70 rfl rfl (by decide) (by decide) (hts (.fieldLink RX9 33 "BoundaryAnalyzerModel" "seqLast" "[I") (List.mem_of_getElem? (i := 7) rfl)) dX9_closeSequence_70 ?_
    refine lv_aload_n hx hb dX9_closeSequence_73 rfl (lv_at hl 0 rfl) ?_
    obtain ⟨v74, e74, hf⟩ := zb hf
    refine zr_gi (ci := 9) (k := 10) (C := RX9) (T := TX9) (N := 54) hx hb hts hi_X9_closeSequence_9 hown hK hP e74 rfl rfl (by decide) (by decide) (hts (.fieldLink RX9 148 "BoundaryAnalyzerModel" "depth" "I") (List.mem_of_getElem? (i := 2) rfl)) dX9_closeSequence_74 ?_
    obtain ⟨v77, e77, hf⟩ := zb hf
    refine zr_ai hx hb hK hP e77 dX9_closeSequence_77 ?_
    refine lv_ior hx hb dX9_closeSequence_78 ?_
    obtain ⟨M79, e79, hf⟩ := zb hf
    refine zr_si hx hb hK hP hS e79 dX9_closeSequence_79 (fun H locs hP _ hS => ?_)
    exact zret_v hx hb hr hlocks hf hP hS dX9_closeSequence_80
  have J32 : ∀ (M : Mem) (H : Heap) (locs : List Loc) (ls : Array Slot) (h0 : Nat) (g0 : Nat) (y1 : Int32), fX9_closeSequence_32  M h0 g0 y1 = some rr → zH D cy b M H → va_S (zA b) s.heap H locs → lv_has ls 1 [(0, .ref (b + h0))] → W p l e (headSpec wsX9_closeSequence ({ frames := 0, cells := 0, slots := 0, locals := 0 } : Room)).room s m ([.ref (b + p0)] : List Value).toArray below meth c H locs 0 0 (MQ below (zQv D cy b rr) ([.ref (b + p0)] : List Value).toArray s 0 0 (zA b)) (F0 m 32 ls [.int y1, .ref (b + g0)]) := by
    intro M H locs ls h0 g0 y1 hf hP hS hl
    unfold fX9_closeSequence_32 at hf
    refine lv_iconst (v := (1 : Int32)) hx hb dX9_closeSequence_32 (by decide) ?_
    refine lv_goto (tgt := 37) hx hb dX9_closeSequence_33 (by decide) ?_
    exact J37 _ _ _ _ _ _ _ _ hf hP hS (lv_sub hl [0] rfl)
  unfold fX9_closeSequence at hf
  refine lv_aload_n hx hb dX9_closeSequence_0 rfl (lv_at hl 0 rfl) ?_
  obtain ⟨v1, e1, hf⟩ := zb hf
  refine zr_gr (ci := 9) (k := 3) (C := RX9) (T := TX9) (N := 54) hx hb hts hi_X9_closeSequence_9 hown hK hP e1 rfl rfl (by decide) (by decide) (hts (.fieldLink RX9 17 "BoundaryAnalyzerModel" "altNull" "[Z") (List.mem_of_getElem? (i := 1) rfl)) dX9_closeSequence_1 ?_
  refine lv_aload_n hx hb dX9_closeSequence_4 rfl (lv_at hl 0 rfl) ?_
  obtain ⟨v5, e5, hf⟩ := zb hf
  refine zr_gi (ci := 9) (k := 10) (C := RX9) (T := TX9) (N := 54) hx hb hts hi_X9_closeSequence_9 hown hK hP e5 rfl rfl (by decide) (by decide) (hts (.fieldLink RX9 148 "BoundaryAnalyzerModel" "depth" "I") (List.mem_of_getElem? (i := 2) rfl)) dX9_closeSequence_5 ?_
  refine lv_aload_n hx hb dX9_closeSequence_8 rfl (lv_at hl 0 rfl) ?_
  obtain ⟨v9, e9, hf⟩ := zb hf
  refine zr_gr (ci := 9) (k := 3) (C := RX9) (T := TX9) (N := 54) hx hb hts hi_X9_closeSequence_9 hown hK hP e9 rfl rfl (by decide) (by decide) (hts (.fieldLink RX9 17 "BoundaryAnalyzerModel" "altNull" "[Z") (List.mem_of_getElem? (i := 1) rfl)) dX9_closeSequence_9 ?_
  refine lv_aload_n hx hb dX9_closeSequence_12 rfl (lv_at hl 0 rfl) ?_
  obtain ⟨v13, e13, hf⟩ := zb hf
  refine zr_gi (ci := 9) (k := 10) (C := RX9) (T := TX9) (N := 54) hx hb hts hi_X9_closeSequence_9 hown hK hP e13 rfl rfl (by decide) (by decide) (hts (.fieldLink RX9 148 "BoundaryAnalyzerModel" "depth" "I") (List.mem_of_getElem? (i := 2) rfl)) dX9_closeSequence_13 ?_
  obtain ⟨v16, e16, hf⟩ := zb hf
  refine zr_az hx hb hK hP e16 dX9_closeSequence_16 ?_
  refine lv_if_ne (tgt := 32) hx hb dX9_closeSequence_17 (by decide) (fun c17 => ?_) (fun c17 => ?_)
  · have hf := (if_neg c17).symm.trans hf
    exact J32 _ _ _ _ _ _ _ hf hP hS (lv_sub hl [0] rfl)
  · have hf := (if_pos c17).symm.trans hf
    refine lv_aload_n hx hb dX9_closeSequence_20 rfl (lv_at hl 0 rfl) ?_
    obtain ⟨v21, e21, hf⟩ := zb hf
    refine zr_gr (ci := 9) (k := 6) (C := RX9) (T := TX9) (N := 54) hx hb hts hi_X9_closeSequence_9 hown hK hP e21 rfl rfl (by decide) (by decide) (hts (.fieldLink RX9 27 "BoundaryAnalyzerModel" "seqNull" "[Z") (List.mem_of_getElem? (i := 3) rfl)) dX9_closeSequence_21 ?_
    refine lv_aload_n hx hb dX9_closeSequence_24 rfl (lv_at hl 0 rfl) ?_
    obtain ⟨v25, e25, hf⟩ := zb hf
    refine zr_gi (ci := 9) (k := 10) (C := RX9) (T := TX9) (N := 54) hx hb hts hi_X9_closeSequence_9 hown hK hP e25 rfl rfl (by decide) (by decide) (hts (.fieldLink RX9 148 "BoundaryAnalyzerModel" "depth" "I") (List.mem_of_getElem? (i := 2) rfl)) dX9_closeSequence_25 ?_
    obtain ⟨v28, e28, hf⟩ := zb hf
    refine zr_az hx hb hK hP e28 dX9_closeSequence_28 ?_
    refine lv_if_eq (tgt := 36) hx hb dX9_closeSequence_29 (by decide) (fun c29 => ?_) (fun c29 => ?_)
    · have hf := (if_pos c29).symm.trans hf
      refine lv_iconst (v := (0 : Int32)) hx hb dX9_closeSequence_36 (by decide) ?_
      exact J37 _ _ _ _ _ _ _ _ hf hP hS (lv_sub hl [0] rfl)
    · have hf := (if_neg c29).symm.trans hf
      exact J32 _ _ _ _ _ _ _ hf hP hS (lv_sub hl [0] rfl)
theorem hi_X9_follows_9 : ∀ w ∈ wsX90, w ∈ wsX9_follows := fun _ h => List.mem_cons_of_mem _ (List.mem_append_right _ h)
set_option maxHeartbeats 4000000 in
set_option maxRecDepth 100000 in
theorem k_X9_follows (l : Launch) (D : va_G) (cy : Nat → ClassId) (b : Nat) (M0 : Mem) (p0 : Nat) (p1 : Int32) (p2 : Int32) (rr : Mem) (hf : fX9_follows M0 p0 p1 p2 = some rr) : Met l yX9_follows wsX9_follows ({ frames := 0, cells := 0, slots := 0, locals := 0 } : Room) (zPc D cy b M0 [.ref (b + p0), .int p1, .int p2]) (zQv D cy b rr) 0 0 (zA b) := by
  refine Met.ofW (cc := cX9_follows) (maxL := 4) (ret := none) (by decide) rfl ?_
  intro p e s m args below meth c s₁ B hml hv
  obtain ⟨rfl, hP, hK⟩ := hv
  have hx := B.exec
  have hb := B.bytes
  have hr := B.returns
  have hts := atoms_spec (ws := wsX9_follows) B.pre
  have hown : s.vm.findClass RX9 = some m.cls := findClass_of_methodNamed B.named
  have hlocks := B.notSynchronized
  have hS : va_S (zA b) s.heap s.heap [] := va_S.rf
  have hl := lv_entry ([.ref (b + p0), .int p1, .int p2]) (n := 4) (Nat.le_of_ble_eq_true rfl)
  rw [lg_entry_eq]
  generalize (lg_sl ([.ref (b + p0), .int p1, .int p2]) ++ List.replicate (4 - (lg_sl ([.ref (b + p0), .int p1, .int p2])).length) Slot.unset).toArray = ls at hl ⊢
  have hl : lv_has ls 4 [(0, .ref (b + p0)), (1, .int p1), (2, .int p2)] := hl
  have L2 : ∀ (n2 : Nat) (M : Mem) (H : Heap) (locs : List Loc) (ls : Array Slot) (h0 : Nat) (x1 : Int32) (x2 : Int32) (x3 : Int32), fX9_follows_2L  n2 M h0 x1 x2 x3 = some rr → zH D cy b M H → va_S (zA b) s.heap H locs → lv_has ls 4 [(0, .ref (b + h0)), (1, .int x1), (2, .int x2), (3, .int x3)] → W p l e (headSpec wsX9_follows ({ frames := 0, cells := 0, slots := 0, locals := 0 } : Room)).room s m ([.ref (b + p0), .int p1, .int p2] : List Value).toArray below meth c H locs 0 0 (MQ below (zQv D cy b rr) ([.ref (b + p0), .int p1, .int p2] : List Value).toArray s 0 0 (zA b)) (F0 m 2 ls []) := by
    intro n2
    induction n2 with
    | zero =>
      intro M H locs ls h0 x1 x2 x3 hf
      have hf : (none : Option Mem) = some rr := hf
      cases hf
    | succ n2 ih2 =>
      have J29 : ∀ (M : Mem) (H : Heap) (locs : List Loc) (ls : Array Slot) (h0 : Nat) (x1 : Int32) (x2 : Int32) (x3 : Int32) (g0 : Nat) (y1 : Int32) (y2 : Int32) (y3 : Int32), fX9_follows_29 (fX9_follows_2L  n2) M h0 x1 x2 x3 g0 y1 y2 y3 = some rr → zH D cy b M H → va_S (zA b) s.heap H locs → lv_has ls 4 [(0, .ref (b + h0)), (1, .int x1), (2, .int x2), (3, .int x3)] → W p l e (headSpec wsX9_follows ({ frames := 0, cells := 0, slots := 0, locals := 0 } : Room)).room s m ([.ref (b + p0), .int p1, .int p2] : List Value).toArray below meth c H locs 0 0 (MQ below (zQv D cy b rr) ([.ref (b + p0), .int p1, .int p2] : List Value).toArray s 0 0 (zA b)) (F0 m 29 ls [.int y3, .int y2, .int y1, .ref (b + g0)]) := by
        intro M H locs ls h0 x1 x2 x3 g0 y1 y2 y3 hf hP hS hl
        unfold fX9_follows_29 at hf
        refine lv_ior hx hb dX9_follows_29 ?_
        obtain ⟨M30, e30, hf⟩ := zb hf
        refine zr_si hx hb hK hP hS e30 dX9_follows_30 (fun H locs hP _ hS => ?_)
        obtain ⟨x3_31, q31, hf⟩ := zlt_s hf
        refine lv_iinc (v := x3_31) (lv' := [(3, .int x3_31), (0, .ref (b + h0)), (1, .int x1), (2, .int x2)]) hx hb dX9_follows_31 hl (k := 3) rfl (by rw [← q31]; rfl) (by decide) rfl (fun ls hl => ?_)
        refine lv_goto (tgt := 2) hx hb dX9_follows_34 (by decide) ?_
        exact ih2 _ _ _ _ _ _ _ _ hf hP hS (lv_sub hl [1, 2, 3, 0] rfl)
      intro M H locs ls h0 x1 x2 x3 hf hP hS hl
      have hf : fX9_follows_2  (fX9_follows_2L  n2) M h0 x1 x2 x3 = some rr := hf
      unfold fX9_follows_2 at hf
      refine lv_iload_n hx hb dX9_follows_2 rfl (lv_at hl 3 rfl) ?_
      refine lv_bipush (v := (24 : Int32)) hx hb dX9_follows_3 (by decide) ?_
      refine lv_icmp_ge (tgt := 37) hx hb dX9_follows_5 (by decide) (fun c5 => ?_) (fun c5 => ?_)
      · have hf := (if_pos c5).symm.trans hf
        exact zret_v hx hb hr hlocks hf hP hS dX9_follows_37
      · have hf := (if_neg c5).symm.trans hf
        refine lv_aload_n hx hb dX9_follows_8 rfl (lv_at hl 0 rfl) ?_
        obtain ⟨v9, e9, hf⟩ := zb hf
        refine zr_gr (ci := 9) (k := 15) (C := RX9) (T := TX9) (N := 54) hx hb hts hi_X9_follows_9 hown hK hP e9 rfl rfl (by decide) (by decide) (hts (.fieldLink RX9 42 "BoundaryAnalyzerModel" "readNext" "[I") (List.mem_of_getElem? (i := 1) rfl)) dX9_follows_9 ?_
        refine lv_iload_n hx hb dX9_follows_12 rfl (lv_at hl 3 rfl) ?_
        refine lv_dup2_11 hx hb dX9_follows_13 rfl rfl ?_
        obtain ⟨v14, e14, hf⟩ := zb hf
        refine zr_ai hx hb hK hP e14 dX9_follows_14 ?_
        refine lv_iload_n hx hb dX9_follows_15 rfl (lv_at hl 1 rfl) ?_
        refine lv_iload_n hx hb dX9_follows_16 rfl (lv_at hl 3 rfl) ?_
        refine lv_ishr hx hb dX9_follows_17 ?_
        refine lv_iconst (v := (1 : Int32)) hx hb dX9_follows_18 (by decide) ?_
        refine lv_iand hx hb dX9_follows_19 ?_
        refine lv_iconst (v := (1 : Int32)) hx hb dX9_follows_20 (by decide) ?_
        refine lv_icmp_ne (tgt := 28) hx hb dX9_follows_21 (by decide) (fun c21 => ?_) (fun c21 => ?_)
        · have hf := (if_neg c21).symm.trans hf
          refine lv_iconst (v := (0 : Int32)) hx hb dX9_follows_28 (by decide) ?_
          exact J29 _ _ _ _ _ _ _ _ _ _ _ _ hf hP hS (lv_sub hl [0, 1, 2, 3] rfl)
        · have hf := (if_pos c21).symm.trans hf
          refine lv_iload_n hx hb dX9_follows_24 rfl (lv_at hl 2 rfl) ?_
          refine lv_goto (tgt := 29) hx hb dX9_follows_25 (by decide) ?_
          exact J29 _ _ _ _ _ _ _ _ _ _ _ _ hf hP hS (lv_sub hl [0, 1, 2, 3] rfl)
  unfold fX9_follows at hf
  refine lv_iconst (v := (0 : Int32)) hx hb dX9_follows_0 (by decide) ?_
  refine lv_istore_n (lv' := [(3, .int (0 : Int32)), (0, .ref (b + p0)), (1, .int p1), (2, .int p2)]) hx hb dX9_follows_1 rfl hl (by decide) rfl (fun ls hl => ?_)
  exact L2 _ _ _ _ _ _ _ _ _ hf hP hS (lv_sub hl [1, 2, 3, 0] rfl)
