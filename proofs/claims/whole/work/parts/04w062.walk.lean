theorem hi_X9_undo_9 : ∀ w ∈ wsX90, w ∈ wsX9_undo := fun _ h => List.mem_cons_of_mem _ (List.mem_append_right _ h)
set_option maxHeartbeats 4000000 in
set_option maxRecDepth 100000 in
theorem k_X9_undo (l : Launch) (D : va_G) (cy : Nat → ClassId) (b : Nat) (M0 : Mem) (p0 : Nat) (rr : Int32 × Mem) (hf : fX9_undo M0 p0 = some rr) : Met l yX9_undo wsX9_undo ({ frames := 8, cells := 0, slots := 0, locals := 199 } : Room) (zPc D cy b M0 [.ref (b + p0)]) (zQi D cy b rr) 0 0 (zA b) := by
  refine Met.ofW (cc := cX9_undo) (maxL := 4) (ret := (some .int)) (by decide) rfl ?_
  intro p e s m args below meth c s₁ B hml hv
  obtain ⟨rfl, hP, hK⟩ := hv
  have hx := B.exec
  have hb := B.bytes
  have hr := B.returns
  have hts := atoms_spec (ws := wsX9_undo) B.pre
  have hown : s.vm.findClass RX9 = some m.cls := findClass_of_methodNamed B.named
  have hlocks := B.notSynchronized
  have hS : va_S (zA b) s.heap s.heap [] := va_S.rf
  have hl := lv_entry ([.ref (b + p0)]) (n := 4) (Nat.le_of_ble_eq_true rfl)
  rw [lg_entry_eq]
  generalize (lg_sl ([.ref (b + p0)]) ++ List.replicate (4 - (lg_sl ([.ref (b + p0)])).length) Slot.unset).toArray = ls at hl ⊢
  have hl : lv_has ls 4 [(0, .ref (b + p0))] := hl
  have J147 : ∀ (M : Mem) (H : Heap) (locs : List Loc) (ls : Array Slot) (h0 : Nat) (x1 : Int32) (x2 : Int32) (g0 : Nat) (y1 : Int32), fX9_undo_147  M h0 x1 x2 g0 y1 = some rr → zH D cy b M H → va_S (zA b) s.heap H locs → lv_has ls 4 [(0, .ref (b + h0)), (1, .int x1), (2, .int x2)] → W p l e (headSpec wsX9_undo ({ frames := 8, cells := 0, slots := 0, locals := 199 } : Room)).room s m ([.ref (b + p0)] : List Value).toArray below meth c H locs 0 0 (MQ below (zQi D cy b rr) ([.ref (b + p0)] : List Value).toArray s 0 0 (zA b)) (F0 m 147 ls [.int y1, .ref (b + g0)]) := by
    intro M H locs ls h0 x1 x2 g0 y1 hf hP hS hl
    unfold fX9_undo_147 at hf
    refine lv_aload_n hx hb dX9_undo_147 rfl (lv_at hl 0 rfl) ?_
    obtain ⟨v148, e148, hf⟩ := zb hf
    refine zr_gr (ci := 9) (k := 41) (C := RX9) (T := TX9) (N := 54) hx hb hts hi_X9_undo_9 hown hK hP e148 rfl rfl (by decide) (by decide) (hts (.fieldLink RX9 102 "BoundaryAnalyzerModel" "undoAt" "[I") (List.mem_of_getElem? (i := 10) rfl)) dX9_undo_148 ?_
    refine lv_iload_n hx hb dX9_undo_151 rfl (lv_at hl 1 rfl) ?_
    obtain ⟨v152, e152, hf⟩ := zb hf
    refine zr_ai hx hb hK hP e152 dX9_undo_152 ?_
    refine lv_iload_n hx hb dX9_undo_153 rfl (lv_at hl 2 rfl) ?_
    obtain ⟨u154, t154, hf⟩ := zb hf
    obtain ⟨M154, e154, hf⟩ := zb hf
    refine zc_v hS (va_runV (As := [.int y1, .int v152, .int x2]) (rest := []) ⟨hx, hb, hml, hown, hts⟩ (k_X9_carryOut l D cy b M g0 y1 v152 x2 M154 e154) (cwV 3 hts gX9_undo_X9_carryOut rfl rfl rfl (by decide +kernel) ⟨Nat.le_of_ble_eq_true rfl, Nat.le_of_ble_eq_true rfl⟩) (zp_V _ hK hP t154 (T := TX9) (N := 54) rfl (by decide)) rfl rfl hl.1 rfl (lv_room (Nat.le_of_ble_eq_true rfl)) dX9_undo_154 ⟨Nat.zero_le _, Nat.zero_le _⟩) (fun H locs hP hS => ?_)
    refine lv_aload_n hx hb dX9_undo_157 rfl (lv_at hl 0 rfl) ?_
    obtain ⟨v158, e158, hf⟩ := zb hf
    refine zr_gi (ci := 9) (k := 39) (C := RX9) (T := TX9) (N := 54) hx hb hts hi_X9_undo_9 hown hK hP e158 rfl rfl (by decide) (by decide) (hts (.fieldLink RX9 260 "BoundaryAnalyzerModel" "undoMany" "I") (List.mem_of_getElem? (i := 1) rfl)) dX9_undo_158 ?_
    exact zret_i hx hb hr hlocks hf hP hS dX9_undo_161
  have L34 : ∀ (n34 : Nat) (M : Mem) (H : Heap) (locs : List Loc) (ls : Array Slot) (h0 : Nat) (x1 : Int32) (x2 : Int32) (x3 : Int32), fX9_undo_34L  n34 M h0 x1 x2 x3 = some rr → zH D cy b M H → va_S (zA b) s.heap H locs → lv_has ls 4 [(0, .ref (b + h0)), (1, .int x1), (2, .int x2), (3, .int x3)] → W p l e (headSpec wsX9_undo ({ frames := 8, cells := 0, slots := 0, locals := 199 } : Room)).room s m ([.ref (b + p0)] : List Value).toArray below meth c H locs 0 0 (MQ below (zQi D cy b rr) ([.ref (b + p0)] : List Value).toArray s 0 0 (zA b)) (F0 m 34 ls []) := by
    intro n34
    induction n34 with
    | zero =>
      intro M H locs ls h0 x1 x2 x3 hf
      have hf : (none : Option (Int32 × Mem)) = some rr := hf
      cases hf
    | succ n34 ih34 =>
      intro M H locs ls h0 x1 x2 x3 hf hP hS hl
      have hf : fX9_undo_34  (fX9_undo_34L  n34) M h0 x1 x2 x3 = some rr := hf
      unfold fX9_undo_34 at hf
      refine lv_iload_n hx hb dX9_undo_34 rfl (lv_at hl 3 rfl) ?_
      refine lv_iload_n hx hb dX9_undo_35 rfl (lv_at hl 2 rfl) ?_
      refine lv_icmp_ge (tgt := 82) hx hb dX9_undo_36 (by decide) (fun c36 => ?_) (fun c36 => ?_)
      · have hf := (if_pos c36).symm.trans hf
        refine lv_aload_n hx hb dX9_undo_82 rfl (lv_at hl 0 rfl) ?_
        obtain ⟨v83, e83, hf⟩ := zb hf
        refine zr_gr (ci := 9) (k := 45) (C := RX9) (T := TX9) (N := 54) hx hb hts hi_X9_undo_9 hown hK hP e83 rfl rfl (by decide) (by decide) (hts (.fieldLink RX9 111 "BoundaryAnalyzerModel" "redoPuts" "[Z") (List.mem_of_getElem? (i := 7) rfl)) dX9_undo_83 ?_
        refine lv_aload_n hx hb dX9_undo_86 rfl (lv_at hl 0 rfl) ?_
        obtain ⟨v87, e87, hf⟩ := zb hf
        refine zr_gi (ci := 9) (k := 44) (C := RX9) (T := TX9) (N := 54) hx hb hts hi_X9_undo_9 hown hK hP e87 rfl rfl (by decide) (by decide) (hts (.fieldLink RX9 267 "BoundaryAnalyzerModel" "redoMany" "I") (List.mem_of_getElem? (i := 6) rfl)) dX9_undo_87 ?_
        refine lv_aload_n hx hb dX9_undo_90 rfl (lv_at hl 0 rfl) ?_
        obtain ⟨v91, e91, hf⟩ := zb hf
        refine zr_gr (ci := 9) (k := 40) (C := RX9) (T := TX9) (N := 54) hx hb hts hi_X9_undo_9 hown hK hP e91 rfl rfl (by decide) (by decide) (hts (.fieldLink RX9 99 "BoundaryAnalyzerModel" "undoPuts" "[Z") (List.mem_of_getElem? (i := 8) rfl)) dX9_undo_91 ?_
        refine lv_iload_n hx hb dX9_undo_94 rfl (lv_at hl 1 rfl) ?_
        obtain ⟨v95, e95, hf⟩ := zb hf
        refine zr_az hx hb hK hP e95 dX9_undo_95 ?_
        obtain ⟨M96, e96, hf⟩ := zb hf
        refine zr_sz hx hb hK hP hS e96 dX9_undo_96 (fun H locs hP _ hS => ?_)
        refine lv_aload_n hx hb dX9_undo_97 rfl (lv_at hl 0 rfl) ?_
        obtain ⟨v98, e98, hf⟩ := zb hf
        refine zr_gr (ci := 9) (k := 46) (C := RX9) (T := TX9) (N := 54) hx hb hts hi_X9_undo_9 hown hK hP e98 rfl rfl (by decide) (by decide) (hts (.fieldLink RX9 114 "BoundaryAnalyzerModel" "redoAt" "[I") (List.mem_of_getElem? (i := 9) rfl)) dX9_undo_98 ?_
        refine lv_aload_n hx hb dX9_undo_101 rfl (lv_at hl 0 rfl) ?_
        obtain ⟨v102, e102, hf⟩ := zb hf
        refine zr_gi (ci := 9) (k := 44) (C := RX9) (T := TX9) (N := 54) hx hb hts hi_X9_undo_9 hown hK hP e102 rfl rfl (by decide) (by decide) (hts (.fieldLink RX9 267 "BoundaryAnalyzerModel" "redoMany" "I") (List.mem_of_getElem? (i := 6) rfl)) dX9_undo_102 ?_
        refine lv_aload_n hx hb dX9_undo_105 rfl (lv_at hl 0 rfl) ?_
        obtain ⟨v106, e106, hf⟩ := zb hf
        refine zr_gr (ci := 9) (k := 41) (C := RX9) (T := TX9) (N := 54) hx hb hts hi_X9_undo_9 hown hK hP e106 rfl rfl (by decide) (by decide) (hts (.fieldLink RX9 102 "BoundaryAnalyzerModel" "undoAt" "[I") (List.mem_of_getElem? (i := 10) rfl)) dX9_undo_106 ?_
        refine lv_iload_n hx hb dX9_undo_109 rfl (lv_at hl 1 rfl) ?_
        obtain ⟨v110, e110, hf⟩ := zb hf
        refine zr_ai hx hb hK hP e110 dX9_undo_110 ?_
        obtain ⟨M111, e111, hf⟩ := zb hf
        refine zr_si hx hb hK hP hS e111 dX9_undo_111 (fun H locs hP _ hS => ?_)
        refine lv_aload_n hx hb dX9_undo_112 rfl (lv_at hl 0 rfl) ?_
        obtain ⟨v113, e113, hf⟩ := zb hf
        refine zr_gr (ci := 9) (k := 47) (C := RX9) (T := TX9) (N := 54) hx hb hts hi_X9_undo_9 hown hK hP e113 rfl rfl (by decide) (by decide) (hts (.fieldLink RX9 117 "BoundaryAnalyzerModel" "redoLong" "[I") (List.mem_of_getElem? (i := 11) rfl)) dX9_undo_113 ?_
        refine lv_aload_n hx hb dX9_undo_116 rfl (lv_at hl 0 rfl) ?_
        obtain ⟨v117, e117, hf⟩ := zb hf
        refine zr_gi (ci := 9) (k := 44) (C := RX9) (T := TX9) (N := 54) hx hb hts hi_X9_undo_9 hown hK hP e117 rfl rfl (by decide) (by decide) (hts (.fieldLink RX9 267 "BoundaryAnalyzerModel" "redoMany" "I") (List.mem_of_getElem? (i := 6) rfl)) dX9_undo_117 ?_
        refine lv_iload_n hx hb dX9_undo_120 rfl (lv_at hl 2 rfl) ?_
        obtain ⟨M121, e121, hf⟩ := zb hf
        refine zr_si hx hb hK hP hS e121 dX9_undo_121 (fun H locs hP _ hS => ?_)
        refine lv_aload_n hx hb dX9_undo_122 rfl (lv_at hl 0 rfl) ?_
        refine lv_dup hx hb dX9_undo_123 rfl ?_
        obtain ⟨v124, e124, hf⟩ := zb hf
        refine zr_gi (ci := 9) (k := 44) (C := RX9) (T := TX9) (N := 54) hx hb hts hi_X9_undo_9 hown hK hP e124 rfl rfl (by decide) (by decide) (hts (.fieldLink RX9 267 "BoundaryAnalyzerModel" "redoMany" "I") (List.mem_of_getElem? (i := 6) rfl)) dX9_undo_124 ?_
        refine lv_iconst (v := (1 : Int32)) hx hb dX9_undo_127 (by decide) ?_
        refine lv_iadd hx hb dX9_undo_128 ?_
        obtain ⟨M129, e129, hf⟩ := zb hf
        refine zr_pi (ci := 9) (k := 44) (C := RX9) (T := TX9) (N := 54) hx hb hts hi_X9_undo_9 tyX9 tyX9_ok nmX9 hown hK hP hS e129 rfl rfl (by decide) (by decide) (hts (.fieldLink RX9 267 "BoundaryAnalyzerModel" "redoMany" "I") (List.mem_of_getElem? (i := 6) rfl)) rfl (tyX9_ok 44 (by decide)) dX9_undo_129 (fun H locs hP _ hS => ?_)
        refine lv_aload_n hx hb dX9_undo_132 rfl (lv_at hl 0 rfl) ?_
        refine lv_aload_n hx hb dX9_undo_133 rfl (lv_at hl 0 rfl) ?_
        obtain ⟨v134, e134, hf⟩ := zb hf
        refine zr_gr (ci := 9) (k := 40) (C := RX9) (T := TX9) (N := 54) hx hb hts hi_X9_undo_9 hown hK hP e134 rfl rfl (by decide) (by decide) (hts (.fieldLink RX9 99 "BoundaryAnalyzerModel" "undoPuts" "[Z") (List.mem_of_getElem? (i := 8) rfl)) dX9_undo_134 ?_
        refine lv_iload_n hx hb dX9_undo_137 rfl (lv_at hl 1 rfl) ?_
        obtain ⟨v138, e138, hf⟩ := zb hf
        refine zr_az hx hb hK hP e138 dX9_undo_138 ?_
        refine lv_if_ne (tgt := 146) hx hb dX9_undo_139 (by decide) (fun c139 => ?_) (fun c139 => ?_)
        · have hf := (if_neg c139).symm.trans hf
          refine lv_iconst (v := (0 : Int32)) hx hb dX9_undo_146 (by decide) ?_
          exact J147 _ _ _ _ _ _ _ _ _ hf hP hS (lv_sub hl [0, 1, 2] rfl)
        · have hf := (if_pos c139).symm.trans hf
          refine lv_iconst (v := (1 : Int32)) hx hb dX9_undo_142 (by decide) ?_
          refine lv_goto (tgt := 147) hx hb dX9_undo_143 (by decide) ?_
          exact J147 _ _ _ _ _ _ _ _ _ hf hP hS (lv_sub hl [0, 1, 2] rfl)
      · have hf := (if_neg c36).symm.trans hf
        refine lv_aload_n hx hb dX9_undo_39 rfl (lv_at hl 0 rfl) ?_
        obtain ⟨v40, e40, hf⟩ := zb hf
        refine zr_gr (ci := 9) (k := 38) (C := RX9) (T := TX9) (N := 54) hx hb hts hi_X9_undo_9 hown hK hP e40 rfl rfl (by decide) (by decide) (hts (.fieldLink RX9 96 "BoundaryAnalyzerModel" "editText" "[C") (List.mem_of_getElem? (i := 3) rfl)) dX9_undo_40 ?_
        refine lv_iload_n hx hb dX9_undo_43 rfl (lv_at hl 3 rfl) ?_
        refine lv_aload_n hx hb dX9_undo_44 rfl (lv_at hl 0 rfl) ?_
        obtain ⟨v45, e45, hf⟩ := zb hf
        refine zr_gr (ci := 9) (k := 43) (C := RX9) (T := TX9) (N := 54) hx hb hts hi_X9_undo_9 hown hK hP e45 rfl rfl (by decide) (by decide) (hts (.fieldLink RX9 108 "BoundaryAnalyzerModel" "undoText" "[C") (List.mem_of_getElem? (i := 4) rfl)) dX9_undo_45 ?_
        refine lv_bipush (v := (100 : Int32)) hx hb dX9_undo_48 (by decide) ?_
        refine lv_iload_n hx hb dX9_undo_50 rfl (lv_at hl 1 rfl) ?_
        refine lv_imul hx hb dX9_undo_51 ?_
        refine lv_iload_n hx hb dX9_undo_52 rfl (lv_at hl 3 rfl) ?_
        refine lv_iadd hx hb dX9_undo_53 ?_
        obtain ⟨v54, e54, hf⟩ := zb hf
        refine zr_ac hx hb hK hP e54 dX9_undo_54 ?_
        obtain ⟨M55, e55, hf⟩ := zb hf
        refine zr_sc hx hb hK hP hS e55 dX9_undo_55 (fun H locs hP _ hS => ?_)
        refine lv_aload_n hx hb dX9_undo_56 rfl (lv_at hl 0 rfl) ?_
        obtain ⟨v57, e57, hf⟩ := zb hf
        refine zr_gr (ci := 9) (k := 48) (C := RX9) (T := TX9) (N := 54) hx hb hts hi_X9_undo_9 hown hK hP e57 rfl rfl (by decide) (by decide) (hts (.fieldLink RX9 120 "BoundaryAnalyzerModel" "redoText" "[C") (List.mem_of_getElem? (i := 5) rfl)) dX9_undo_57 ?_
        refine lv_bipush (v := (100 : Int32)) hx hb dX9_undo_60 (by decide) ?_
        refine lv_aload_n hx hb dX9_undo_62 rfl (lv_at hl 0 rfl) ?_
        obtain ⟨v63, e63, hf⟩ := zb hf
        refine zr_gi (ci := 9) (k := 44) (C := RX9) (T := TX9) (N := 54) hx hb hts hi_X9_undo_9 hown hK hP e63 rfl rfl (by decide) (by decide) (hts (.fieldLink RX9 267 "BoundaryAnalyzerModel" "redoMany" "I") (List.mem_of_getElem? (i := 6) rfl)) dX9_undo_63 ?_
        refine lv_imul hx hb dX9_undo_66 ?_
        refine lv_iload_n hx hb dX9_undo_67 rfl (lv_at hl 3 rfl) ?_
        refine lv_iadd hx hb dX9_undo_68 ?_
        refine lv_aload_n hx hb dX9_undo_69 rfl (lv_at hl 0 rfl) ?_
        obtain ⟨v70, e70, hf⟩ := zb hf
        refine zr_gr (ci := 9) (k := 38) (C := RX9) (T := TX9) (N := 54) hx hb hts hi_X9_undo_9 hown hK hP e70 rfl rfl (by decide) (by decide) (hts (.fieldLink RX9 96 "BoundaryAnalyzerModel" "editText" "[C") (List.mem_of_getElem? (i := 3) rfl)) dX9_undo_70 ?_
        refine lv_iload_n hx hb dX9_undo_73 rfl (lv_at hl 3 rfl) ?_
        obtain ⟨v74, e74, hf⟩ := zb hf
        refine zr_ac hx hb hK hP e74 dX9_undo_74 ?_
        obtain ⟨M75, e75, hf⟩ := zb hf
        refine zr_sc hx hb hK hP hS e75 dX9_undo_75 (fun H locs hP _ hS => ?_)
        obtain ⟨x3_76, q76, hf⟩ := zlt_s hf
        refine lv_iinc (v := x3_76) (lv' := [(3, .int x3_76), (0, .ref (b + h0)), (1, .int x1), (2, .int x2)]) hx hb dX9_undo_76 hl (k := 3) rfl (by rw [← q76]; rfl) (by decide) rfl (fun ls hl => ?_)
        refine lv_goto (tgt := 34) hx hb dX9_undo_79 (by decide) ?_
        exact ih34 _ _ _ _ _ _ _ _ hf hP hS (lv_sub hl [1, 2, 3, 0] rfl)
  unfold fX9_undo at hf
  refine lv_aload_n hx hb dX9_undo_0 rfl (lv_at hl 0 rfl) ?_
  obtain ⟨v1, e1, hf⟩ := zb hf
  refine zr_gi (ci := 9) (k := 39) (C := RX9) (T := TX9) (N := 54) hx hb hts hi_X9_undo_9 hown hK hP e1 rfl rfl (by decide) (by decide) (hts (.fieldLink RX9 260 "BoundaryAnalyzerModel" "undoMany" "I") (List.mem_of_getElem? (i := 1) rfl)) dX9_undo_1 ?_
  refine lv_if_ne (tgt := 10) hx hb dX9_undo_4 (by decide) (fun c4 => ?_) (fun c4 => ?_)
  · have hf := (if_neg c4).symm.trans hf
    refine lv_aload_n hx hb dX9_undo_10 rfl (lv_at hl 0 rfl) ?_
    refine lv_dup hx hb dX9_undo_11 rfl ?_
    obtain ⟨v12, e12, hf⟩ := zb hf
    refine zr_gi (ci := 9) (k := 39) (C := RX9) (T := TX9) (N := 54) hx hb hts hi_X9_undo_9 hown hK hP e12 rfl rfl (by decide) (by decide) (hts (.fieldLink RX9 260 "BoundaryAnalyzerModel" "undoMany" "I") (List.mem_of_getElem? (i := 1) rfl)) dX9_undo_12 ?_
    refine lv_iconst (v := (1 : Int32)) hx hb dX9_undo_15 (by decide) ?_
    refine lv_isub hx hb dX9_undo_16 ?_
    obtain ⟨M17, e17, hf⟩ := zb hf
    refine zr_pi (ci := 9) (k := 39) (C := RX9) (T := TX9) (N := 54) hx hb hts hi_X9_undo_9 tyX9 tyX9_ok nmX9 hown hK hP hS e17 rfl rfl (by decide) (by decide) (hts (.fieldLink RX9 260 "BoundaryAnalyzerModel" "undoMany" "I") (List.mem_of_getElem? (i := 1) rfl)) rfl (tyX9_ok 39 (by decide)) dX9_undo_17 (fun H locs hP _ hS => ?_)
    refine lv_aload_n hx hb dX9_undo_20 rfl (lv_at hl 0 rfl) ?_
    obtain ⟨v21, e21, hf⟩ := zb hf
    refine zr_gi (ci := 9) (k := 39) (C := RX9) (T := TX9) (N := 54) hx hb hts hi_X9_undo_9 hown hK hP e21 rfl rfl (by decide) (by decide) (hts (.fieldLink RX9 260 "BoundaryAnalyzerModel" "undoMany" "I") (List.mem_of_getElem? (i := 1) rfl)) dX9_undo_21 ?_
    refine lv_istore_n (lv' := [(1, .int v21), (0, .ref (b + p0))]) hx hb dX9_undo_24 rfl hl (by decide) rfl (fun ls hl => ?_)
    refine lv_aload_n hx hb dX9_undo_25 rfl (lv_at hl 1 rfl) ?_
    obtain ⟨v26, e26, hf⟩ := zb hf
    refine zr_gr (ci := 9) (k := 42) (C := RX9) (T := TX9) (N := 54) hx hb hts hi_X9_undo_9 hown hK hP e26 rfl rfl (by decide) (by decide) (hts (.fieldLink RX9 105 "BoundaryAnalyzerModel" "undoLong" "[I") (List.mem_of_getElem? (i := 2) rfl)) dX9_undo_26 ?_
    refine lv_iload_n hx hb dX9_undo_29 rfl (lv_at hl 0 rfl) ?_
    obtain ⟨v30, e30, hf⟩ := zb hf
    refine zr_ai hx hb hK hP e30 dX9_undo_30 ?_
    refine lv_istore_n (lv' := [(2, .int v30), (1, .int v21), (0, .ref (b + p0))]) hx hb dX9_undo_31 rfl hl (by decide) rfl (fun ls hl => ?_)
    refine lv_iconst (v := (0 : Int32)) hx hb dX9_undo_32 (by decide) ?_
    refine lv_istore_n (lv' := [(3, .int (0 : Int32)), (2, .int v30), (1, .int v21), (0, .ref (b + p0))]) hx hb dX9_undo_33 rfl hl (by decide) rfl (fun ls hl => ?_)
    exact L34 _ _ _ _ _ _ _ _ _ hf hP hS (lv_sub hl [3, 2, 1, 0] rfl)
  · have hf := (if_pos c4).symm.trans hf
    refine lv_bipush (v := (-5 : Int32)) hx hb dX9_undo_7 (by decide) ?_
    exact zret_i hx hb hr hlocks hf hP hS dX9_undo_9
