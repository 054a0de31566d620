theorem hi_X9_addException_9 : ∀ w ∈ wsX90, w ∈ wsX9_addException := fun _ h => List.mem_cons_of_mem _ (List.mem_append_right _ h)
set_option maxHeartbeats 4000000 in
set_option maxRecDepth 100000 in
theorem k_X9_addException (l : Launch) (D : va_G) (cy : Nat → ClassId) (b : Nat) (M0 : Mem) (p0 : Nat) (rr : Int32 × Mem) (hf : fX9_addException M0 p0 = some rr) : Met l yX9_addException wsX9_addException ({ frames := 1, cells := 0, slots := 0, locals := 23 } : Room) (zPc D cy b M0 [.ref (b + p0)]) (zQi D cy b rr) 0 0 (zA b) := by
  refine Met.ofW (cc := cX9_addException) (maxL := 3) (ret := (some .int)) (by decide) rfl ?_
  intro p e s m args below meth c s₁ B hml hv
  obtain ⟨rfl, hP, hK⟩ := hv
  have hx := B.exec
  have hb := B.bytes
  have hr := B.returns
  have hts := atoms_spec (ws := wsX9_addException) B.pre
  have hown : s.vm.findClass RX9 = some m.cls := findClass_of_methodNamed B.named
  have hlocks := B.notSynchronized
  have hS : va_S (zA b) s.heap s.heap [] := va_S.rf
  have hl := lv_entry ([.ref (b + p0)]) (n := 3) (Nat.le_of_ble_eq_true rfl)
  rw [lg_entry_eq]
  generalize (lg_sl ([.ref (b + p0)]) ++ List.replicate (3 - (lg_sl ([.ref (b + p0)])).length) Slot.unset).toArray = ls at hl ⊢
  have hl : lv_has ls 3 [(0, .ref (b + p0))] := hl
  have L84 : ∀ (n84 : Nat) (M : Mem) (H : Heap) (locs : List Loc) (ls : Array Slot) (h0 : Nat) (x2 : Int32), fX9_addException_84L  n84 M h0 x2 = some rr → zH D cy b M H → va_S (zA b) s.heap H locs → lv_has ls 3 [(0, .ref (b + h0)), (2, .int x2)] → W p l e (headSpec wsX9_addException ({ frames := 1, cells := 0, slots := 0, locals := 23 } : Room)).room s m ([.ref (b + p0)] : List Value).toArray below meth c H locs 0 0 (MQ below (zQi D cy b rr) ([.ref (b + p0)] : List Value).toArray s 0 0 (zA b)) (F0 m 84 ls []) := by
    intro n84
    induction n84 with
    | zero =>
      intro M H locs ls h0 x2 hf
      have hf : (none : Option (Int32 × Mem)) = some rr := hf
      cases hf
    | succ n84 ih84 =>
      intro M H locs ls h0 x2 hf hP hS hl
      have hf : fX9_addException_84  (fX9_addException_84L  n84) M h0 x2 = some rr := hf
      unfold fX9_addException_84 at hf
      refine lv_iload_n hx hb dX9_addException_84 rfl (lv_at hl 1 rfl) ?_
      refine lv_aload_n hx hb dX9_addException_85 rfl (lv_at hl 0 rfl) ?_
      obtain ⟨v86, e86, hf⟩ := zb hf
      refine zr_gi (ci := 9) (k := 1) (C := RX9) (T := TX9) (N := 54) hx hb hts hi_X9_addException_9 hown hK hP e86 rfl rfl (by decide) (by decide) (hts (.fieldLink RX9 144 "BoundaryAnalyzerModel" "typed" "I") (List.mem_of_getElem? (i := 1) rfl)) dX9_addException_86 ?_
      refine lv_icmp_ge (tgt := 118) hx hb dX9_addException_89 (by decide) (fun c89 => ?_) (fun c89 => ?_)
      · have hf := (if_pos c89).symm.trans hf
        refine lv_aload_n hx hb dX9_addException_118 rfl (lv_at hl 0 rfl) ?_
        obtain ⟨v119, e119, hf⟩ := zb hf
        refine zr_gr (ci := 9) (k := 50) (C := RX9) (T := TX9) (N := 54) hx hb hts hi_X9_addException_9 hown hK hP e119 rfl rfl (by decide) (by decide) (hts (.fieldLink RX9 123 "BoundaryAnalyzerModel" "exceptionLong" "[I") (List.mem_of_getElem? (i := 5) rfl)) dX9_addException_119 ?_
        refine lv_aload_n hx hb dX9_addException_122 rfl (lv_at hl 0 rfl) ?_
        obtain ⟨v123, e123, hf⟩ := zb hf
        refine zr_gi (ci := 9) (k := 49) (C := RX9) (T := TX9) (N := 54) hx hb hts hi_X9_addException_9 hown hK hP e123 rfl rfl (by decide) (by decide) (hts (.fieldLink RX9 279 "BoundaryAnalyzerModel" "exceptions" "I") (List.mem_of_getElem? (i := 3) rfl)) dX9_addException_123 ?_
        refine lv_aload_n hx hb dX9_addException_126 rfl (lv_at hl 0 rfl) ?_
        obtain ⟨v127, e127, hf⟩ := zb hf
        refine zr_gi (ci := 9) (k := 1) (C := RX9) (T := TX9) (N := 54) hx hb hts hi_X9_addException_9 hown hK hP e127 rfl rfl (by decide) (by decide) (hts (.fieldLink RX9 144 "BoundaryAnalyzerModel" "typed" "I") (List.mem_of_getElem? (i := 1) rfl)) dX9_addException_127 ?_
        obtain ⟨M130, e130, hf⟩ := zb hf
        refine zr_si hx hb hK hP hS e130 dX9_addException_130 (fun H locs hP _ hS => ?_)
        refine lv_aload_n hx hb dX9_addException_131 rfl (lv_at hl 0 rfl) ?_
        refine lv_dup hx hb dX9_addException_132 rfl ?_
        obtain ⟨v133, e133, hf⟩ := zb hf
        refine zr_gi (ci := 9) (k := 49) (C := RX9) (T := TX9) (N := 54) hx hb hts hi_X9_addException_9 hown hK hP e133 rfl rfl (by decide) (by decide) (hts (.fieldLink RX9 279 "BoundaryAnalyzerModel" "exceptions" "I") (List.mem_of_getElem? (i := 3) rfl)) dX9_addException_133 ?_
        refine lv_iconst (v := (1 : Int32)) hx hb dX9_addException_136 (by decide) ?_
        refine lv_iadd hx hb dX9_addException_137 ?_
        obtain ⟨M138, e138, hf⟩ := zb hf
        refine zr_pi (ci := 9) (k := 49) (C := RX9) (T := TX9) (N := 54) hx hb hts hi_X9_addException_9 tyX9 tyX9_ok nmX9 hown hK hP hS e138 rfl rfl (by decide) (by decide) (hts (.fieldLink RX9 279 "BoundaryAnalyzerModel" "exceptions" "I") (List.mem_of_getElem? (i := 3) rfl)) rfl (tyX9_ok 49 (by decide)) dX9_addException_138 (fun H locs hP _ hS => ?_)
        refine lv_aload_n hx hb dX9_addException_141 rfl (lv_at hl 0 rfl) ?_
        obtain ⟨v142, e142, hf⟩ := zb hf
        refine zr_gi (ci := 9) (k := 49) (C := RX9) (T := TX9) (N := 54) hx hb hts hi_X9_addException_9 hown hK hP e142 rfl rfl (by decide) (by decide) (hts (.fieldLink RX9 279 "BoundaryAnalyzerModel" "exceptions" "I") (List.mem_of_getElem? (i := 3) rfl)) dX9_addException_142 ?_
        exact zret_i hx hb hr hlocks hf hP hS dX9_addException_145
      · have hf := (if_neg c89).symm.trans hf
        refine lv_aload_n hx hb dX9_addException_92 rfl (lv_at hl 0 rfl) ?_
        obtain ⟨v93, e93, hf⟩ := zb hf
        refine zr_gr (ci := 9) (k := 51) (C := RX9) (T := TX9) (N := 54) hx hb hts hi_X9_addException_9 hown hK hP e93 rfl rfl (by decide) (by decide) (hts (.fieldLink RX9 126 "BoundaryAnalyzerModel" "exceptionAt" "[C") (List.mem_of_getElem? (i := 4) rfl)) dX9_addException_93 ?_
        refine lv_bipush (v := (8 : Int32)) hx hb dX9_addException_96 (by decide) ?_
        refine lv_aload_n hx hb dX9_addException_98 rfl (lv_at hl 0 rfl) ?_
        obtain ⟨v99, e99, hf⟩ := zb hf
        refine zr_gi (ci := 9) (k := 49) (C := RX9) (T := TX9) (N := 54) hx hb hts hi_X9_addException_9 hown hK hP e99 rfl rfl (by decide) (by decide) (hts (.fieldLink RX9 279 "BoundaryAnalyzerModel" "exceptions" "I") (List.mem_of_getElem? (i := 3) rfl)) dX9_addException_99 ?_
        refine lv_imul hx hb dX9_addException_102 ?_
        refine lv_iload_n hx hb dX9_addException_103 rfl (lv_at hl 1 rfl) ?_
        refine lv_iadd hx hb dX9_addException_104 ?_
        refine lv_aload_n hx hb dX9_addException_105 rfl (lv_at hl 0 rfl) ?_
        obtain ⟨v106, e106, hf⟩ := zb hf
        refine zr_gr (ci := 9) (k := 2) (C := RX9) (T := TX9) (N := 54) hx hb hts hi_X9_addException_9 hown hK hP e106 rfl rfl (by decide) (by decide) (hts (.fieldLink RX9 13 "BoundaryAnalyzerModel" "pattern" "[C") (List.mem_of_getElem? (i := 2) rfl)) dX9_addException_106 ?_
        refine lv_iload_n hx hb dX9_addException_109 rfl (lv_at hl 1 rfl) ?_
        obtain ⟨v110, e110, hf⟩ := zb hf
        refine zr_ac hx hb hK hP e110 dX9_addException_110 ?_
        obtain ⟨M111, e111, hf⟩ := zb hf
        refine zr_sc hx hb hK hP hS e111 dX9_addException_111 (fun H locs hP _ hS => ?_)
        obtain ⟨x2_112, q112, hf⟩ := zlt_s hf
        refine lv_iinc (v := x2_112) (lv' := [(2, .int x2_112), (0, .ref (b + h0))]) hx hb dX9_addException_112 hl (k := 1) rfl (by rw [← q112]; rfl) (by decide) rfl (fun ls hl => ?_)
        refine lv_goto (tgt := 84) hx hb dX9_addException_115 (by decide) ?_
        exact ih84 _ _ _ _ _ _ hf hP hS (lv_sub hl [1, 0] rfl)
  have L13 : ∀ (n13 : Nat) (M : Mem) (H : Heap) (locs : List Loc) (ls : Array Slot) (h0 : Nat) (x1 : Int32) (x2 : Int32), fX9_addException_13L  n13 M h0 x1 x2 = some rr → zH D cy b M H → va_S (zA b) s.heap H locs → lv_has ls 3 [(0, .ref (b + h0)), (1, .int x1), (2, .int x2)] → W p l e (headSpec wsX9_addException ({ frames := 1, cells := 0, slots := 0, locals := 23 } : Room)).room s m ([.ref (b + p0)] : List Value).toArray below meth c H locs 0 0 (MQ below (zQi D cy b rr) ([.ref (b + p0)] : List Value).toArray s 0 0 (zA b)) (F0 m 13 ls []) := by
    intro n13
    induction n13 with
    | zero =>
      intro M H locs ls h0 x1 x2 hf
      have hf : (none : Option (Int32 × Mem)) = some rr := hf
      cases hf
    | succ n13 ih13 =>
      have J46 : ∀ (M : Mem) (H : Heap) (locs : List Loc) (ls : Array Slot) (h0 : Nat) (x2 : Int32) (y0 : Int32), fX9_addException_46 (fX9_addException_13L  n13) M h0 x2 y0 = some rr → zH D cy b M H → va_S (zA b) s.heap H locs → lv_has ls 3 [(0, .ref (b + h0)), (2, .int x2)] → W p l e (headSpec wsX9_addException ({ frames := 1, cells := 0, slots := 0, locals := 23 } : Room)).room s m ([.ref (b + p0)] : List Value).toArray below meth c H locs 0 0 (MQ below (zQi D cy b rr) ([.ref (b + p0)] : List Value).toArray s 0 0 (zA b)) (F0 m 46 ls [.int y0]) := by
        intro M H locs ls h0 x2 y0 hf hP hS hl
        unfold fX9_addException_46 at hf
        refine lv_istore_n (lv' := [(1, .int y0), (0, .ref (b + h0)), (2, .int x2)]) hx hb dX9_addException_46 rfl hl (by decide) rfl (fun ls hl => ?_)
        obtain ⟨x2_47, q47, hf⟩ := zlt_s hf
        refine lv_iinc (v := x2_47) (lv' := [(2, .int x2_47), (1, .int y0), (0, .ref (b + h0))]) hx hb dX9_addException_47 hl (k := 2) rfl (by rw [← q47]; rfl) (by decide) rfl (fun ls hl => ?_)
        refine lv_goto (tgt := 13) hx hb dX9_addException_50 (by decide) ?_
        exact ih13 _ _ _ _ _ _ _ hf hP hS (lv_sub hl [2, 1, 0] rfl)
      have J45 : ∀ (M : Mem) (H : Heap) (locs : List Loc) (ls : Array Slot) (h0 : Nat) (x2 : Int32), fX9_addException_45 (fX9_addException_13L  n13) M h0 x2 = some rr → zH D cy b M H → va_S (zA b) s.heap H locs → lv_has ls 3 [(0, .ref (b + h0)), (2, .int x2)] → W p l e (headSpec wsX9_addException ({ frames := 1, cells := 0, slots := 0, locals := 23 } : Room)).room s m ([.ref (b + p0)] : List Value).toArray below meth c H locs 0 0 (MQ below (zQi D cy b rr) ([.ref (b + p0)] : List Value).toArray s 0 0 (zA b)) (F0 m 45 ls []) := by
        intro M H locs ls h0 x2 hf hP hS hl
        unfold fX9_addException_45 at hf
        refine lv_iconst (v := (0 : Int32)) hx hb dX9_addException_45 (by decide) ?_
        exact J46 _ _ _ _ _ _ _ hf hP hS (lv_sub hl [0, 1] rfl)
      intro M H locs ls h0 x1 x2 hf hP hS hl
      have hf : fX9_addException_13  (fX9_addException_13L  n13) M h0 x1 x2 = some rr := hf
      unfold fX9_addException_13 at hf
      refine lv_iload_n hx hb dX9_addException_13 rfl (lv_at hl 2 rfl) ?_
      refine lv_aload_n hx hb dX9_addException_14 rfl (lv_at hl 0 rfl) ?_
      obtain ⟨v15, e15, hf⟩ := zb hf
      refine zr_gi (ci := 9) (k := 1) (C := RX9) (T := TX9) (N := 54) hx hb hts hi_X9_addException_9 hown hK hP e15 rfl rfl (by decide) (by decide) (hts (.fieldLink RX9 144 "BoundaryAnalyzerModel" "typed" "I") (List.mem_of_getElem? (i := 1) rfl)) dX9_addException_15 ?_
      refine lv_icmp_ge (tgt := 53) hx hb dX9_addException_18 (by decide) (fun c18 => ?_) (fun c18 => ?_)
      · have hf := (if_pos c18).symm.trans hf
        refine lv_iload_n hx hb dX9_addException_53 rfl (lv_at hl 1 rfl) ?_
        refine lv_if_ne (tgt := 60) hx hb dX9_addException_54 (by decide) (fun c54 => ?_) (fun c54 => ?_)
        · have hf := (if_neg c54).symm.trans hf
          refine lv_aload_n hx hb dX9_addException_60 rfl (lv_at hl 0 rfl) ?_
          obtain ⟨u61, t61, hf⟩ := zb hf
          obtain ⟨r61, e61, hf⟩ := zb hf
          refine zc_i hS (va_runV (As := []) (rest := []) ⟨hx, hb, hml, hown, hts⟩ (k_X9_exceptionBy l D cy b M h0  r61 e61) (cwV 0 hts gX9_addException_X9_exceptionBy rfl rfl rfl (by decide +kernel) ⟨Nat.le_of_ble_eq_true rfl, Nat.le_of_ble_eq_true rfl⟩) (zp_V _ hK hP t61 (T := TX9) (N := 54) rfl (by decide)) rfl rfl hl.1 rfl (lv_room (Nat.le_of_ble_eq_true rfl)) dX9_addException_61 ⟨Nat.zero_le _, Nat.zero_le _⟩) (fun H locs hP hS => ?_)
          refine lv_if_lt (tgt := 70) hx hb dX9_addException_64 (by decide) (fun c64 => ?_) (fun c64 => ?_)
          · have hf := (if_pos c64).symm.trans hf
            refine lv_aload_n hx hb dX9_addException_70 rfl (lv_at hl 0 rfl) ?_
            obtain ⟨v71, e71, hf⟩ := zb hf
            refine zr_gi (ci := 9) (k := 49) (C := RX9) (T := TX9) (N := 54) hx hb hts hi_X9_addException_9 hown hK hP e71 rfl rfl (by decide) (by decide) (hts (.fieldLink RX9 279 "BoundaryAnalyzerModel" "exceptions" "I") (List.mem_of_getElem? (i := 3) rfl)) dX9_addException_71 ?_
            refine lv_bipush (v := (10 : Int32)) hx hb dX9_addException_74 (by decide) ?_
            refine lv_icmp_ne (tgt := 82) hx hb dX9_addException_76 (by decide) (fun c76 => ?_) (fun c76 => ?_)
            · have hf := (if_neg c76).symm.trans hf
              refine lv_iconst (v := (0 : Int32)) hx hb dX9_addException_82 (by decide) ?_
              refine lv_istore_n (lv' := [(2, .int (0 : Int32)), (0, .ref (b + h0)), (1, .int x1)]) hx hb dX9_addException_83 rfl hl (by decide) rfl (fun ls hl => ?_)
              exact L84 _ _ _ _ _ _ _ hf hP hS (lv_sub hl [1, 0] rfl)
            · have hf := (if_pos c76).symm.trans hf
              refine lv_bipush (v := (-3 : Int32)) hx hb dX9_addException_79 (by decide) ?_
              exact zret_i hx hb hr hlocks hf hP hS dX9_addException_81
          · have hf := (if_neg c64).symm.trans hf
            refine lv_bipush (v := (-4 : Int32)) hx hb dX9_addException_67 (by decide) ?_
            exact zret_i hx hb hr hlocks hf hP hS dX9_addException_69
        · have hf := (if_pos c54).symm.trans hf
          refine lv_bipush (v := (-2 : Int32)) hx hb dX9_addException_57 (by decide) ?_
          exact zret_i hx hb hr hlocks hf hP hS dX9_addException_59
      · have hf := (if_neg c18).symm.trans hf
        refine lv_iload_n hx hb dX9_addException_21 rfl (lv_at hl 1 rfl) ?_
        refine lv_if_eq (tgt := 45) hx hb dX9_addException_22 (by decide) (fun c22 => ?_) (fun c22 => ?_)
        · have hf := (if_pos c22).symm.trans hf
          exact J45 _ _ _ _ _ _ hf hP hS (lv_sub hl [0, 2] rfl)
        · have hf := (if_neg c22).symm.trans hf
          refine lv_aload_n hx hb dX9_addException_25 rfl (lv_at hl 0 rfl) ?_
          obtain ⟨v26, e26, hf⟩ := zb hf
          refine zr_gr (ci := 9) (k := 2) (C := RX9) (T := TX9) (N := 54) hx hb hts hi_X9_addException_9 hown hK hP e26 rfl rfl (by decide) (by decide) (hts (.fieldLink RX9 13 "BoundaryAnalyzerModel" "pattern" "[C") (List.mem_of_getElem? (i := 2) rfl)) dX9_addException_26 ?_
          refine lv_iload_n hx hb dX9_addException_29 rfl (lv_at hl 2 rfl) ?_
          obtain ⟨v30, e30, hf⟩ := zb hf
          refine zr_ac hx hb hK hP e30 dX9_addException_30 ?_
          refine lv_bipush (v := (32 : Int32)) hx hb dX9_addException_31 (by decide) ?_
          refine lv_bipush (v := (126 : Int32)) hx hb dX9_addException_33 (by decide) ?_
          obtain ⟨v35, e35, hf⟩ := zb hf
          refine zc_p (va_runS (As := [.int v30, .int (32 : Int32), .int (126 : Int32)]) (rest := []) ⟨hx, hb, hml, hown, hts⟩ (k_X9_in l v30 (32 : Int32) (126 : Int32) v35 e35) (va_cwS 3 hts gX9_addException_X9_in rfl rfl rfl (by decide +kernel) ⟨Nat.le_of_ble_eq_true rfl, Nat.le_of_ble_eq_true rfl⟩) (zp_p _) rfl rfl hl.1 rfl (lv_room (Nat.le_of_ble_eq_true rfl)) dX9_addException_35 ⟨Nat.zero_le _, Nat.zero_le _⟩) ?_
          refine lv_if_eq (tgt := 45) hx hb dX9_addException_38 (by decide) (fun c38 => ?_) (fun c38 => ?_)
          · have hf := (if_pos c38).symm.trans hf
            exact J45 _ _ _ _ _ _ hf hP hS (lv_sub hl [0, 2] rfl)
          · have hf := (if_neg c38).symm.trans hf
            refine lv_iconst (v := (1 : Int32)) hx hb dX9_addException_41 (by decide) ?_
            refine lv_goto (tgt := 46) hx hb dX9_addException_42 (by decide) ?_
            exact J46 _ _ _ _ _ _ _ hf hP hS (lv_sub hl [0, 2] rfl)
  unfold fX9_addException at hf
  refine lv_aload_n hx hb dX9_addException_0 rfl (lv_at hl 0 rfl) ?_
  obtain ⟨v1, e1, hf⟩ := zb hf
  refine zr_gi (ci := 9) (k := 1) (C := RX9) (T := TX9) (N := 54) hx hb hts hi_X9_addException_9 hown hK hP e1 rfl rfl (by decide) (by decide) (hts (.fieldLink RX9 144 "BoundaryAnalyzerModel" "typed" "I") (List.mem_of_getElem? (i := 1) rfl)) dX9_addException_1 ?_
  refine lv_iconst (v := (1 : Int32)) hx hb dX9_addException_4 (by decide) ?_
  refine lv_bipush (v := (8 : Int32)) hx hb dX9_addException_5 (by decide) ?_
  obtain ⟨v7, e7, hf⟩ := zb hf
  refine zc_p (va_runS (As := [.int v1, .int (1 : Int32), .int (8 : Int32)]) (rest := []) ⟨hx, hb, hml, hown, hts⟩ (k_X9_in l v1 (1 : Int32) (8 : Int32) v7 e7) (va_cwS 3 hts gX9_addException_X9_in rfl rfl rfl (by decide +kernel) ⟨Nat.le_of_ble_eq_true rfl, Nat.le_of_ble_eq_true rfl⟩) (zp_p _) rfl rfl hl.1 rfl (lv_room (Nat.le_of_ble_eq_true rfl)) dX9_addException_7 ⟨Nat.zero_le _, Nat.zero_le _⟩) ?_
  refine lv_istore_n (lv' := [(1, .int v7), (0, .ref (b + p0))]) hx hb dX9_addException_10 rfl hl (by decide) rfl (fun ls hl => ?_)
  refine lv_iconst (v := (0 : Int32)) hx hb dX9_addException_11 (by decide) ?_
  refine lv_istore_n (lv' := [(2, .int (0 : Int32)), (1, .int v7), (0, .ref (b + p0))]) hx hb dX9_addException_12 rfl hl (by decide) rfl (fun ls hl => ?_)
  exact L13 _ _ _ _ _ _ _ _ hf hP hS (lv_sub hl [2, 1, 0] rfl)
