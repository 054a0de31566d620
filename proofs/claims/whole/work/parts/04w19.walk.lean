theorem hi_X9_remember_9 : ∀ w ∈ wsX90, w ∈ wsX9_remember := fun _ h => List.mem_cons_of_mem _ (List.mem_append_right _ h)
set_option maxHeartbeats 4000000 in
set_option maxRecDepth 100000 in
theorem k_X9_remember (l : Launch) (D : va_G) (cy : Nat → ClassId) (b : Nat) (M0 : Mem) (h0 : Nat) (x1 : Int32) (x2 : Int32) (x3 : Int32) (rr : Mem) (hf : fX9_remember M0 h0 x1 x2 x3 = some rr) : Met l yX9_remember wsX9_remember ({ frames := 0, cells := 0, slots := 0, locals := 0 } : Room) (zPc D cy b M0 [.ref (b + h0), .int x1, .int x2, .int x3]) (zQv D cy b rr) 0 0 (zA b) := by
  refine Met.ofW (cc := cX9_remember) (maxL := 6) (ret := none) (by decide) rfl ?_
  intro p e s m args below meth c s₁ B hml hv
  obtain ⟨rfl, hP, hK⟩ := hv
  have hx := B.exec
  have hb := B.bytes
  have hr := B.returns
  have hts := atoms_spec (ws := wsX9_remember) B.pre
  have hown : s.vm.findClass RX9 = some m.cls := findClass_of_methodNamed B.named
  have hlocks := B.notSynchronized
  have hS : va_S (zA b) s.heap s.heap [] := va_S.rf
  have hl := lv_entry ([.ref (b + h0), .int x1, .int x2, .int x3]) (n := 6) (Nat.le_of_ble_eq_true rfl)
  rw [lg_entry_eq]
  generalize (lg_sl ([.ref (b + h0), .int x1, .int x2, .int x3]) ++ List.replicate (6 - (lg_sl ([.ref (b + h0), .int x1, .int x2, .int x3])).length) Slot.unset).toArray = ls at hl ⊢
  have hl : lv_has ls 6 [(0, .ref (b + h0)), (1, .int x1), (2, .int x2), (3, .int x3)] := hl
  have L163 : ∀ (n163 : Nat) (M : Mem) (H : Heap) (locs : List Loc) (ls : Array Slot) (h0 : Nat) (x3 : Int32) (x4 : Int32), fX9_remember_163L  n163 M h0 x3 x4 = some rr → zH D cy b M H → va_S (zA b) s.heap H locs → lv_has ls 6 [(0, .ref (b + h0)), (3, .int x3), (4, .int x4)] → W p l e (headSpec wsX9_remember ({ frames := 0, cells := 0, slots := 0, locals := 0 } : Room)).room s m ([.ref (b + h0), .int x1, .int x2, .int x3] : List Value).toArray below meth c H locs 0 0 (MQ below (zQv D cy b rr) ([.ref (b + h0), .int x1, .int x2, .int x3] : List Value).toArray s 0 0 (zA b)) (F0 m 163 ls []) := by
    intro n163
    induction n163 with
    | zero =>
      intro M H locs ls h0 x3 x4 hf
      have hf : (none : Option Mem) = some rr := hf
      cases hf
    | succ n163 ih163 =>
      intro M H locs ls h0 x3 x4 hf hP hS hl
      have hf : fX9_remember_163  (fX9_remember_163L  n163) M h0 x3 x4 = some rr := hf
      unfold fX9_remember_163 at hf
      refine lv_iload hx hb dX9_remember_163 (lv_at hl 2 rfl) ?_
      refine lv_iload_n hx hb dX9_remember_165 rfl (lv_at hl 1 rfl) ?_
      refine lv_icmp_ge (tgt := 197) hx hb dX9_remember_166 (by decide) (fun c166 => ?_) (fun c166 => ?_)
      · have hf := (if_pos c166).symm.trans hf
        refine lv_aload_n hx hb dX9_remember_197 rfl (lv_at hl 0 rfl) ?_
        refine lv_dup hx hb dX9_remember_198 rfl ?_
        obtain ⟨v199, e199, hf⟩ := zb hf
        refine zr_gi (ci := 9) (k := 39) (C := RX9) (T := TX9) (N := 54) hx hb hts hi_X9_remember_9 hown hK hP e199 rfl rfl (by decide) (by decide) (hts (.fieldLink RX9 260 "BoundaryAnalyzerModel" "undoMany" "I") (List.mem_of_getElem? (i := 1) rfl)) dX9_remember_199 ?_
        refine lv_iconst (v := (1 : Int32)) hx hb dX9_remember_202 (by decide) ?_
        refine lv_iadd hx hb dX9_remember_203 ?_
        obtain ⟨M204, e204, hf⟩ := zb hf
        refine zr_pi (ci := 9) (k := 39) (C := RX9) (T := TX9) (N := 54) hx hb hts hi_X9_remember_9 tyX9 tyX9_ok nmX9 hown hK hP hS e204 rfl rfl (by decide) (by decide) (hts (.fieldLink RX9 260 "BoundaryAnalyzerModel" "undoMany" "I") (List.mem_of_getElem? (i := 1) rfl)) rfl (tyX9_ok 39 (by decide)) dX9_remember_204 (fun H locs hP _ hS => ?_)
        exact zret_v hx hb hr hlocks hf hP hS dX9_remember_207
      · have hf := (if_neg c166).symm.trans hf
        refine lv_aload_n hx hb dX9_remember_169 rfl (lv_at hl 0 rfl) ?_
        obtain ⟨v170, e170, hf⟩ := zb hf
        refine zr_gr (ci := 9) (k := 43) (C := RX9) (T := TX9) (N := 54) hx hb hts hi_X9_remember_9 hown hK hP e170 rfl rfl (by decide) (by decide) (hts (.fieldLink RX9 108 "BoundaryAnalyzerModel" "undoText" "[C") (List.mem_of_getElem? (i := 5) rfl)) dX9_remember_170 ?_
        refine lv_bipush (v := (100 : Int32)) hx hb dX9_remember_173 (by decide) ?_
        refine lv_aload_n hx hb dX9_remember_175 rfl (lv_at hl 0 rfl) ?_
        obtain ⟨v176, e176, hf⟩ := zb hf
        refine zr_gi (ci := 9) (k := 39) (C := RX9) (T := TX9) (N := 54) hx hb hts hi_X9_remember_9 hown hK hP e176 rfl rfl (by decide) (by decide) (hts (.fieldLink RX9 260 "BoundaryAnalyzerModel" "undoMany" "I") (List.mem_of_getElem? (i := 1) rfl)) dX9_remember_176 ?_
        refine lv_imul hx hb dX9_remember_179 ?_
        refine lv_iload hx hb dX9_remember_180 (lv_at hl 2 rfl) ?_
        refine lv_iadd hx hb dX9_remember_182 ?_
        refine lv_aload_n hx hb dX9_remember_183 rfl (lv_at hl 0 rfl) ?_
        obtain ⟨v184, e184, hf⟩ := zb hf
        refine zr_gr (ci := 9) (k := 38) (C := RX9) (T := TX9) (N := 54) hx hb hts hi_X9_remember_9 hown hK hP e184 rfl rfl (by decide) (by decide) (hts (.fieldLink RX9 96 "BoundaryAnalyzerModel" "editText" "[C") (List.mem_of_getElem? (i := 6) rfl)) dX9_remember_184 ?_
        refine lv_iload hx hb dX9_remember_187 (lv_at hl 2 rfl) ?_
        obtain ⟨v189, e189, hf⟩ := zb hf
        refine zr_ac hx hb hK hP e189 dX9_remember_189 ?_
        obtain ⟨M190, e190, hf⟩ := zb hf
        refine zr_sc hx hb hK hP hS e190 dX9_remember_190 (fun H locs hP _ hS => ?_)
        obtain ⟨x4_191, q191, hf⟩ := zlt_s hf
        refine lv_iinc (v := x4_191) (lv' := [(4, .int x4_191), (0, .ref (b + h0)), (3, .int x3)]) hx hb dX9_remember_191 hl (k := 2) rfl (by rw [← q191]; rfl) (by decide) rfl (fun ls hl => ?_)
        refine lv_goto (tgt := 163) hx hb dX9_remember_194 (by decide) ?_
        exact ih163 _ _ _ _ _ _ _ hf hP hS (lv_sub hl [1, 2, 0] rfl)
  have J130 : ∀ (M : Mem) (H : Heap) (locs : List Loc) (ls : Array Slot) (h0 : Nat) (x1 : Int32) (x2 : Int32) (x3 : Int32), fX9_remember_130  M h0 x1 x2 x3 = some rr → zH D cy b M H → va_S (zA b) s.heap H locs → lv_has ls 6 [(0, .ref (b + h0)), (1, .int x1), (2, .int x2), (3, .int x3)] → W p l e (headSpec wsX9_remember ({ frames := 0, cells := 0, slots := 0, locals := 0 } : Room)).room s m ([.ref (b + h0), .int x1, .int x2, .int x3] : List Value).toArray below meth c H locs 0 0 (MQ below (zQv D cy b rr) ([.ref (b + h0), .int x1, .int x2, .int x3] : List Value).toArray s 0 0 (zA b)) (F0 m 130 ls []) := by
    intro M H locs ls h0 x1 x2 x3 hf hP hS hl
    unfold fX9_remember_130 at hf
    refine lv_aload_n hx hb dX9_remember_130 rfl (lv_at hl 0 rfl) ?_
    obtain ⟨v131, e131, hf⟩ := zb hf
    refine zr_gr (ci := 9) (k := 40) (C := RX9) (T := TX9) (N := 54) hx hb hts hi_X9_remember_9 hown hK hP e131 rfl rfl (by decide) (by decide) (hts (.fieldLink RX9 99 "BoundaryAnalyzerModel" "undoPuts" "[Z") (List.mem_of_getElem? (i := 2) rfl)) dX9_remember_131 ?_
    refine lv_aload_n hx hb dX9_remember_134 rfl (lv_at hl 0 rfl) ?_
    obtain ⟨v135, e135, hf⟩ := zb hf
    refine zr_gi (ci := 9) (k := 39) (C := RX9) (T := TX9) (N := 54) hx hb hts hi_X9_remember_9 hown hK hP e135 rfl rfl (by decide) (by decide) (hts (.fieldLink RX9 260 "BoundaryAnalyzerModel" "undoMany" "I") (List.mem_of_getElem? (i := 1) rfl)) dX9_remember_135 ?_
    refine lv_iload_n hx hb dX9_remember_138 rfl (lv_at hl 1 rfl) ?_
    obtain ⟨M139, e139, hf⟩ := zb hf
    refine zr_sz hx hb hK hP hS e139 dX9_remember_139 (fun H locs hP _ hS => ?_)
    refine lv_aload_n hx hb dX9_remember_140 rfl (lv_at hl 0 rfl) ?_
    obtain ⟨v141, e141, hf⟩ := zb hf
    refine zr_gr (ci := 9) (k := 41) (C := RX9) (T := TX9) (N := 54) hx hb hts hi_X9_remember_9 hown hK hP e141 rfl rfl (by decide) (by decide) (hts (.fieldLink RX9 102 "BoundaryAnalyzerModel" "undoAt" "[I") (List.mem_of_getElem? (i := 3) rfl)) dX9_remember_141 ?_
    refine lv_aload_n hx hb dX9_remember_144 rfl (lv_at hl 0 rfl) ?_
    obtain ⟨v145, e145, hf⟩ := zb hf
    refine zr_gi (ci := 9) (k := 39) (C := RX9) (T := TX9) (N := 54) hx hb hts hi_X9_remember_9 hown hK hP e145 rfl rfl (by decide) (by decide) (hts (.fieldLink RX9 260 "BoundaryAnalyzerModel" "undoMany" "I") (List.mem_of_getElem? (i := 1) rfl)) dX9_remember_145 ?_
    refine lv_iload_n hx hb dX9_remember_148 rfl (lv_at hl 2 rfl) ?_
    obtain ⟨M149, e149, hf⟩ := zb hf
    refine zr_si hx hb hK hP hS e149 dX9_remember_149 (fun H locs hP _ hS => ?_)
    refine lv_aload_n hx hb dX9_remember_150 rfl (lv_at hl 0 rfl) ?_
    obtain ⟨v151, e151, hf⟩ := zb hf
    refine zr_gr (ci := 9) (k := 42) (C := RX9) (T := TX9) (N := 54) hx hb hts hi_X9_remember_9 hown hK hP e151 rfl rfl (by decide) (by decide) (hts (.fieldLink RX9 105 "BoundaryAnalyzerModel" "undoLong" "[I") (List.mem_of_getElem? (i := 4) rfl)) dX9_remember_151 ?_
    refine lv_aload_n hx hb dX9_remember_154 rfl (lv_at hl 0 rfl) ?_
    obtain ⟨v155, e155, hf⟩ := zb hf
    refine zr_gi (ci := 9) (k := 39) (C := RX9) (T := TX9) (N := 54) hx hb hts hi_X9_remember_9 hown hK hP e155 rfl rfl (by decide) (by decide) (hts (.fieldLink RX9 260 "BoundaryAnalyzerModel" "undoMany" "I") (List.mem_of_getElem? (i := 1) rfl)) dX9_remember_155 ?_
    refine lv_iload_n hx hb dX9_remember_158 rfl (lv_at hl 3 rfl) ?_
    obtain ⟨M159, e159, hf⟩ := zb hf
    refine zr_si hx hb hK hP hS e159 dX9_remember_159 (fun H locs hP _ hS => ?_)
    refine lv_iconst (v := (0 : Int32)) hx hb dX9_remember_160 (by decide) ?_
    refine lv_istore (lv' := [(4, .int (0 : Int32)), (0, .ref (b + h0)), (1, .int x1), (2, .int x2), (3, .int x3)]) hx hb dX9_remember_161 hl (by decide) rfl (fun ls hl => ?_)
    exact L163 _ _ _ _ _ _ _ _ hf hP hS (lv_sub hl [1, 4, 0] rfl)
  have L22 : ∀ (n22 : Nat) (M : Mem) (H : Heap) (locs : List Loc) (ls : Array Slot) (h0 : Nat) (x1 : Int32) (x2 : Int32) (x3 : Int32) (x4 : Int32), fX9_remember_22L  n22 M h0 x1 x2 x3 x4 = some rr → zH D cy b M H → va_S (zA b) s.heap H locs → lv_has ls 6 [(0, .ref (b + h0)), (1, .int x1), (2, .int x2), (3, .int x3), (4, .int x4)] → W p l e (headSpec wsX9_remember ({ frames := 0, cells := 0, slots := 0, locals := 0 } : Room)).room s m ([.ref (b + h0), .int x1, .int x2, .int x3] : List Value).toArray below meth c H locs 0 0 (MQ below (zQv D cy b rr) ([.ref (b + h0), .int x1, .int x2, .int x3] : List Value).toArray s 0 0 (zA b)) (F0 m 22 ls []) := by
    intro n22
    induction n22 with
    | zero =>
      intro M H locs ls h0 x1 x2 x3 x4 hf
      have hf : (none : Option Mem) = some rr := hf
      cases hf
    | succ n22 ih22 =>
      have L82 : ∀ (n82 : Nat) (M : Mem) (H : Heap) (locs : List Loc) (ls : Array Slot) (h0 : Nat) (x1 : Int32) (x2 : Int32) (x3 : Int32) (x4 : Int32) (x5 : Int32), fX9_remember_82L (fX9_remember_22L  n22) n82 M h0 x1 x2 x3 x4 x5 = some rr → zH D cy b M H → va_S (zA b) s.heap H locs → lv_has ls 6 [(0, .ref (b + h0)), (1, .int x1), (2, .int x2), (3, .int x3), (4, .int x4), (5, .int x5)] → W p l e (headSpec wsX9_remember ({ frames := 0, cells := 0, slots := 0, locals := 0 } : Room)).room s m ([.ref (b + h0), .int x1, .int x2, .int x3] : List Value).toArray below meth c H locs 0 0 (MQ below (zQv D cy b rr) ([.ref (b + h0), .int x1, .int x2, .int x3] : List Value).toArray s 0 0 (zA b)) (F0 m 82 ls []) := by
        intro n82
        induction n82 with
        | zero =>
          intro M H locs ls h0 x1 x2 x3 x4 x5 hf
          have hf : (none : Option Mem) = some rr := hf
          cases hf
        | succ n82 ih82 =>
          intro M H locs ls h0 x1 x2 x3 x4 x5 hf hP hS hl
          have hf : fX9_remember_82 (fX9_remember_22L  n22) (fX9_remember_82L (fX9_remember_22L  n22) n82) M h0 x1 x2 x3 x4 x5 = some rr := hf
          unfold fX9_remember_82 at hf
          refine lv_iload hx hb dX9_remember_82 (lv_at hl 5 rfl) ?_
          refine lv_bipush (v := (100 : Int32)) hx hb dX9_remember_84 (by decide) ?_
          refine lv_icmp_ge (tgt := 124) hx hb dX9_remember_86 (by decide) (fun c86 => ?_) (fun c86 => ?_)
          · have hf := (if_pos c86).symm.trans hf
            obtain ⟨x4_124, q124, hf⟩ := zlt_s hf
            refine lv_iinc (v := x4_124) (lv' := [(4, .int x4_124), (0, .ref (b + h0)), (1, .int x1), (2, .int x2), (3, .int x3), (5, .int x5)]) hx hb dX9_remember_124 hl (k := 4) rfl (by rw [← q124]; rfl) (by decide) rfl (fun ls hl => ?_)
            refine lv_goto (tgt := 22) hx hb dX9_remember_127 (by decide) ?_
            exact ih22 _ _ _ _ _ _ _ _ _ hf hP hS (lv_sub hl [1, 2, 3, 4, 0] rfl)
          · have hf := (if_neg c86).symm.trans hf
            refine lv_aload_n hx hb dX9_remember_89 rfl (lv_at hl 0 rfl) ?_
            obtain ⟨v90, e90, hf⟩ := zb hf
            refine zr_gr (ci := 9) (k := 43) (C := RX9) (T := TX9) (N := 54) hx hb hts hi_X9_remember_9 hown hK hP e90 rfl rfl (by decide) (by decide) (hts (.fieldLink RX9 108 "BoundaryAnalyzerModel" "undoText" "[C") (List.mem_of_getElem? (i := 5) rfl)) dX9_remember_90 ?_
            refine lv_bipush (v := (100 : Int32)) hx hb dX9_remember_93 (by decide) ?_
            refine lv_iload hx hb dX9_remember_95 (lv_at hl 4 rfl) ?_
            refine lv_imul hx hb dX9_remember_97 ?_
            refine lv_iload hx hb dX9_remember_98 (lv_at hl 5 rfl) ?_
            refine lv_iadd hx hb dX9_remember_100 ?_
            refine lv_aload_n hx hb dX9_remember_101 rfl (lv_at hl 0 rfl) ?_
            obtain ⟨v102, e102, hf⟩ := zb hf
            refine zr_gr (ci := 9) (k := 43) (C := RX9) (T := TX9) (N := 54) hx hb hts hi_X9_remember_9 hown hK hP e102 rfl rfl (by decide) (by decide) (hts (.fieldLink RX9 108 "BoundaryAnalyzerModel" "undoText" "[C") (List.mem_of_getElem? (i := 5) rfl)) dX9_remember_102 ?_
            refine lv_bipush (v := (100 : Int32)) hx hb dX9_remember_105 (by decide) ?_
            refine lv_iload hx hb dX9_remember_107 (lv_at hl 4 rfl) ?_
            refine lv_imul hx hb dX9_remember_109 ?_
            refine lv_bipush (v := (100 : Int32)) hx hb dX9_remember_110 (by decide) ?_
            refine lv_iadd hx hb dX9_remember_112 ?_
            refine lv_iload hx hb dX9_remember_113 (lv_at hl 5 rfl) ?_
            refine lv_iadd hx hb dX9_remember_115 ?_
            obtain ⟨v116, e116, hf⟩ := zb hf
            refine zr_ac hx hb hK hP e116 dX9_remember_116 ?_
            obtain ⟨M117, e117, hf⟩ := zb hf
            refine zr_sc hx hb hK hP hS e117 dX9_remember_117 (fun H locs hP _ hS => ?_)
            obtain ⟨x5_118, q118, hf⟩ := zlt_s hf
            refine lv_iinc (v := x5_118) (lv' := [(5, .int x5_118), (0, .ref (b + h0)), (1, .int x1), (2, .int x2), (3, .int x3), (4, .int x4)]) hx hb dX9_remember_118 hl (k := 5) rfl (by rw [← q118]; rfl) (by decide) rfl (fun ls hl => ?_)
            refine lv_goto (tgt := 82) hx hb dX9_remember_121 (by decide) ?_
            exact ih82 _ _ _ _ _ _ _ _ _ _ hf hP hS (lv_sub hl [1, 2, 3, 4, 5, 0] rfl)
      intro M H locs ls h0 x1 x2 x3 x4 hf hP hS hl
      have hf : fX9_remember_22  (fX9_remember_22L  n22) M h0 x1 x2 x3 x4 = some rr := hf
      unfold fX9_remember_22 at hf
      refine lv_iload hx hb dX9_remember_22 (lv_at hl 4 rfl) ?_
      refine lv_aload_n hx hb dX9_remember_24 rfl (lv_at hl 0 rfl) ?_
      obtain ⟨v25, e25, hf⟩ := zb hf
      refine zr_gi (ci := 9) (k := 39) (C := RX9) (T := TX9) (N := 54) hx hb hts hi_X9_remember_9 hown hK hP e25 rfl rfl (by decide) (by decide) (hts (.fieldLink RX9 260 "BoundaryAnalyzerModel" "undoMany" "I") (List.mem_of_getElem? (i := 1) rfl)) dX9_remember_25 ?_
      refine lv_icmp_ge (tgt := 130) hx hb dX9_remember_28 (by decide) (fun c28 => ?_) (fun c28 => ?_)
      · have hf := (if_pos c28).symm.trans hf
        exact J130 _ _ _ _ _ _ _ _ hf hP hS (lv_sub hl [0, 1, 2, 3] rfl)
      · have hf := (if_neg c28).symm.trans hf
        refine lv_aload_n hx hb dX9_remember_31 rfl (lv_at hl 0 rfl) ?_
        obtain ⟨v32, e32, hf⟩ := zb hf
        refine zr_gr (ci := 9) (k := 40) (C := RX9) (T := TX9) (N := 54) hx hb hts hi_X9_remember_9 hown hK hP e32 rfl rfl (by decide) (by decide) (hts (.fieldLink RX9 99 "BoundaryAnalyzerModel" "undoPuts" "[Z") (List.mem_of_getElem? (i := 2) rfl)) dX9_remember_32 ?_
        refine lv_iload hx hb dX9_remember_35 (lv_at hl 4 rfl) ?_
        refine lv_aload_n hx hb dX9_remember_37 rfl (lv_at hl 0 rfl) ?_
        obtain ⟨v38, e38, hf⟩ := zb hf
        refine zr_gr (ci := 9) (k := 40) (C := RX9) (T := TX9) (N := 54) hx hb hts hi_X9_remember_9 hown hK hP e38 rfl rfl (by decide) (by decide) (hts (.fieldLink RX9 99 "BoundaryAnalyzerModel" "undoPuts" "[Z") (List.mem_of_getElem? (i := 2) rfl)) dX9_remember_38 ?_
        refine lv_iload hx hb dX9_remember_41 (lv_at hl 4 rfl) ?_
        refine lv_iconst (v := (1 : Int32)) hx hb dX9_remember_43 (by decide) ?_
        refine lv_iadd hx hb dX9_remember_44 ?_
        obtain ⟨v45, e45, hf⟩ := zb hf
        refine zr_az hx hb hK hP e45 dX9_remember_45 ?_
        obtain ⟨M46, e46, hf⟩ := zb hf
        refine zr_sz hx hb hK hP hS e46 dX9_remember_46 (fun H locs hP _ hS => ?_)
        refine lv_aload_n hx hb dX9_remember_47 rfl (lv_at hl 0 rfl) ?_
        obtain ⟨v48, e48, hf⟩ := zb hf
        refine zr_gr (ci := 9) (k := 41) (C := RX9) (T := TX9) (N := 54) hx hb hts hi_X9_remember_9 hown hK hP e48 rfl rfl (by decide) (by decide) (hts (.fieldLink RX9 102 "BoundaryAnalyzerModel" "undoAt" "[I") (List.mem_of_getElem? (i := 3) rfl)) dX9_remember_48 ?_
        refine lv_iload hx hb dX9_remember_51 (lv_at hl 4 rfl) ?_
        refine lv_aload_n hx hb dX9_remember_53 rfl (lv_at hl 0 rfl) ?_
        obtain ⟨v54, e54, hf⟩ := zb hf
        refine zr_gr (ci := 9) (k := 41) (C := RX9) (T := TX9) (N := 54) hx hb hts hi_X9_remember_9 hown hK hP e54 rfl rfl (by decide) (by decide) (hts (.fieldLink RX9 102 "BoundaryAnalyzerModel" "undoAt" "[I") (List.mem_of_getElem? (i := 3) rfl)) dX9_remember_54 ?_
        refine lv_iload hx hb dX9_remember_57 (lv_at hl 4 rfl) ?_
        refine lv_iconst (v := (1 : Int32)) hx hb dX9_remember_59 (by decide) ?_
        refine lv_iadd hx hb dX9_remember_60 ?_
        obtain ⟨v61, e61, hf⟩ := zb hf
        refine zr_ai hx hb hK hP e61 dX9_remember_61 ?_
        obtain ⟨M62, e62, hf⟩ := zb hf
        refine zr_si hx hb hK hP hS e62 dX9_remember_62 (fun H locs hP _ hS => ?_)
        refine lv_aload_n hx hb dX9_remember_63 rfl (lv_at hl 0 rfl) ?_
        obtain ⟨v64, e64, hf⟩ := zb hf
        refine zr_gr (ci := 9) (k := 42) (C := RX9) (T := TX9) (N := 54) hx hb hts hi_X9_remember_9 hown hK hP e64 rfl rfl (by decide) (by decide) (hts (.fieldLink RX9 105 "BoundaryAnalyzerModel" "undoLong" "[I") (List.mem_of_getElem? (i := 4) rfl)) dX9_remember_64 ?_
        refine lv_iload hx hb dX9_remember_67 (lv_at hl 4 rfl) ?_
        refine lv_aload_n hx hb dX9_remember_69 rfl (lv_at hl 0 rfl) ?_
        obtain ⟨v70, e70, hf⟩ := zb hf
        refine zr_gr (ci := 9) (k := 42) (C := RX9) (T := TX9) (N := 54) hx hb hts hi_X9_remember_9 hown hK hP e70 rfl rfl (by decide) (by decide) (hts (.fieldLink RX9 105 "BoundaryAnalyzerModel" "undoLong" "[I") (List.mem_of_getElem? (i := 4) rfl)) dX9_remember_70 ?_
        refine lv_iload hx hb dX9_remember_73 (lv_at hl 4 rfl) ?_
        refine lv_iconst (v := (1 : Int32)) hx hb dX9_remember_75 (by decide) ?_
        refine lv_iadd hx hb dX9_remember_76 ?_
        obtain ⟨v77, e77, hf⟩ := zb hf
        refine zr_ai hx hb hK hP e77 dX9_remember_77 ?_
        obtain ⟨M78, e78, hf⟩ := zb hf
        refine zr_si hx hb hK hP hS e78 dX9_remember_78 (fun H locs hP _ hS => ?_)
        refine lv_iconst (v := (0 : Int32)) hx hb dX9_remember_79 (by decide) ?_
        refine lv_istore (lv' := [(5, .int (0 : Int32)), (0, .ref (b + h0)), (1, .int x1), (2, .int x2), (3, .int x3), (4, .int x4)]) hx hb dX9_remember_80 hl (by decide) rfl (fun ls hl => ?_)
        exact L82 _ _ _ _ _ _ _ _ _ _ _ hf hP hS (lv_sub hl [1, 2, 3, 4, 5, 0] rfl)
  unfold fX9_remember at hf
  refine lv_aload_n hx hb dX9_remember_0 rfl (lv_at hl 0 rfl) ?_
  obtain ⟨v1, e1, hf⟩ := zb hf
  refine zr_gi (ci := 9) (k := 39) (C := RX9) (T := TX9) (N := 54) hx hb hts hi_X9_remember_9 hown hK hP e1 rfl rfl (by decide) (by decide) (hts (.fieldLink RX9 260 "BoundaryAnalyzerModel" "undoMany" "I") (List.mem_of_getElem? (i := 1) rfl)) dX9_remember_1 ?_
  refine lv_bipush (v := (30 : Int32)) hx hb dX9_remember_4 (by decide) ?_
  refine lv_icmp_ne (tgt := 130) hx hb dX9_remember_6 (by decide) (fun c6 => ?_) (fun c6 => ?_)
  · have hf := (if_neg c6).symm.trans hf
    exact J130 _ _ _ _ _ _ _ _ hf hP hS (lv_sub hl [0, 1, 2, 3] rfl)
  · have hf := (if_pos c6).symm.trans hf
    refine lv_aload_n hx hb dX9_remember_9 rfl (lv_at hl 0 rfl) ?_
    refine lv_dup hx hb dX9_remember_10 rfl ?_
    obtain ⟨v11, e11, hf⟩ := zb hf
    refine zr_gi (ci := 9) (k := 39) (C := RX9) (T := TX9) (N := 54) hx hb hts hi_X9_remember_9 hown hK hP e11 rfl rfl (by decide) (by decide) (hts (.fieldLink RX9 260 "BoundaryAnalyzerModel" "undoMany" "I") (List.mem_of_getElem? (i := 1) rfl)) dX9_remember_11 ?_
    refine lv_iconst (v := (1 : Int32)) hx hb dX9_remember_14 (by decide) ?_
    refine lv_isub hx hb dX9_remember_15 ?_
    obtain ⟨M16, e16, hf⟩ := zb hf
    refine zr_pi (ci := 9) (k := 39) (C := RX9) (T := TX9) (N := 54) hx hb hts hi_X9_remember_9 tyX9 tyX9_ok nmX9 hown hK hP hS e16 rfl rfl (by decide) (by decide) (hts (.fieldLink RX9 260 "BoundaryAnalyzerModel" "undoMany" "I") (List.mem_of_getElem? (i := 1) rfl)) rfl (tyX9_ok 39 (by decide)) dX9_remember_16 (fun H locs hP _ hS => ?_)
    refine lv_iconst (v := (0 : Int32)) hx hb dX9_remember_19 (by decide) ?_
    refine lv_istore (lv' := [(4, .int (0 : Int32)), (0, .ref (b + h0)), (1, .int x1), (2, .int x2), (3, .int x3)]) hx hb dX9_remember_20 hl (by decide) rfl (fun ls hl => ?_)
    exact L22 _ _ _ _ _ _ _ _ _ _ hf hP hS (lv_sub hl [1, 2, 3, 4, 0] rfl)
theorem hi_X9_insert_9 : ∀ w ∈ wsX90, w ∈ wsX9_insert := fun _ h => List.mem_cons_of_mem _ (List.mem_append_right _ h)
set_option maxHeartbeats 4000000 in
set_option maxRecDepth 100000 in
theorem k_X9_insert (l : Launch) (D : va_G) (cy : Nat → ClassId) (b : Nat) (M0 : Mem) (h0 : Nat) (x1 : Int32) (x2 : Int32) (rr : Int32 × Mem) (hf : fX9_insert M0 h0 x1 x2 = some rr) : Met l yX9_insert wsX9_insert ({ frames := 7, cells := 0, slots := 0, locals := 176 } : Room) (zPc D cy b M0 [.ref (b + h0), .int x1, .int x2]) (zQi D cy b rr) 0 0 (zA b) := by
  refine Met.ofW (cc := cX9_insert) (maxL := 3) (ret := (some .int)) (by decide) rfl ?_
  intro p e s m args below meth c s₁ B hml hv
  obtain ⟨rfl, hP, hK⟩ := hv
  have hx := B.exec
  have hb := B.bytes
  have hr := B.returns
  have hts := atoms_spec (ws := wsX9_insert) B.pre
  have hown : s.vm.findClass RX9 = some m.cls := findClass_of_methodNamed B.named
  have hlocks := B.notSynchronized
  have hS : va_S (zA b) s.heap s.heap [] := va_S.rf
  have hl := lv_entry ([.ref (b + h0), .int x1, .int x2]) (n := 3) (Nat.le_of_ble_eq_true rfl)
  rw [lg_entry_eq]
  generalize (lg_sl ([.ref (b + h0), .int x1, .int x2]) ++ List.replicate (3 - (lg_sl ([.ref (b + h0), .int x1, .int x2])).length) Slot.unset).toArray = ls at hl ⊢
  have hl : lv_has ls 3 [(0, .ref (b + h0)), (1, .int x1), (2, .int x2)] := hl
  unfold fX9_insert at hf
  refine lv_aload_n hx hb dX9_insert_0 rfl (lv_at hl 0 rfl) ?_
  refine lv_iload_n hx hb dX9_insert_1 rfl (lv_at hl 1 rfl) ?_
  obtain ⟨u2, t2, hf⟩ := zb hf
  obtain ⟨r2, e2, hf⟩ := zb hf
  refine zc_i hS (va_runV (As := [.int x1]) (rest := []) ⟨hx, hb, hml, hown, hts⟩ (k_X9_noPosition l D cy b M0 h0 x1 r2 e2) (cwV 1 hts gX9_insert_X9_noPosition rfl rfl rfl (by decide +kernel) ⟨Nat.le_of_ble_eq_true rfl, Nat.le_of_ble_eq_true rfl⟩) (zp_V _ hK hP t2 (T := TX9) (N := 54) rfl (by decide)) rfl rfl hl.1 rfl (lv_room (Nat.le_of_ble_eq_true rfl)) dX9_insert_2 ⟨Nat.zero_le _, Nat.zero_le _⟩) (fun H locs hP hS => ?_)
  refine lv_if_eq (tgt := 10) hx hb dX9_insert_5 (by decide) (fun c5 => ?_) (fun c5 => ?_)
  · have hf := (if_pos c5).symm.trans hf
    refine lv_iload_n hx hb dX9_insert_10 rfl (lv_at hl 2 rfl) ?_
    refine lv_bipush (v := (32 : Int32)) hx hb dX9_insert_11 (by decide) ?_
    refine lv_bipush (v := (126 : Int32)) hx hb dX9_insert_13 (by decide) ?_
    obtain ⟨v15, e15, hf⟩ := zb hf
    refine zc_p (va_runS (As := [.int x2, .int (32 : Int32), .int (126 : Int32)]) (rest := []) ⟨hx, hb, hml, hown, hts⟩ (k_X9_in l x2 (32 : Int32) (126 : Int32) v15 e15) (va_cwS 3 hts gX9_insert_X9_in rfl rfl rfl (by decide +kernel) ⟨Nat.le_of_ble_eq_true rfl, Nat.le_of_ble_eq_true rfl⟩) (zp_p _) rfl rfl hl.1 rfl (lv_room (Nat.le_of_ble_eq_true rfl)) dX9_insert_15 ⟨Nat.zero_le _, Nat.zero_le _⟩) ?_
    refine lv_if_ne (tgt := 24) hx hb dX9_insert_18 (by decide) (fun c18 => ?_) (fun c18 => ?_)
    · have hf := (if_neg c18).symm.trans hf
      refine lv_aload_n hx hb dX9_insert_24 rfl (lv_at hl 0 rfl) ?_
      obtain ⟨v25, e25, hf⟩ := zb hf
      refine zr_gi (ci := 9) (k := 31) (C := RX9) (T := TX9) (N := 54) hx hb hts hi_X9_insert_9 hown hK hP e25 rfl rfl (by decide) (by decide) (hts (.fieldLink RX9 207 "BoundaryAnalyzerModel" "length" "I") (List.mem_of_getElem? (i := 1) rfl)) dX9_insert_25 ?_
      refine lv_bipush (v := (100 : Int32)) hx hb dX9_insert_28 (by decide) ?_
      refine lv_icmp_ne (tgt := 36) hx hb dX9_insert_30 (by decide) (fun c30 => ?_) (fun c30 => ?_)
      · have hf := (if_neg c30).symm.trans hf
        refine lv_aload_n hx hb dX9_insert_36 rfl (lv_at hl 0 rfl) ?_
        obtain ⟨v37, e37, hf⟩ := zb hf
        refine zr_gr (ci := 9) (k := 38) (C := RX9) (T := TX9) (N := 54) hx hb hts hi_X9_insert_9 hown hK hP e37 rfl rfl (by decide) (by decide) (hts (.fieldLink RX9 96 "BoundaryAnalyzerModel" "editText" "[C") (List.mem_of_getElem? (i := 2) rfl)) dX9_insert_37 ?_
        refine lv_iconst (v := (0 : Int32)) hx hb dX9_insert_40 (by decide) ?_
        refine lv_iload_n hx hb dX9_insert_41 rfl (lv_at hl 2 rfl) ?_
        obtain ⟨M42, e42, hf⟩ := zb hf
        refine zr_sc hx hb hK hP hS e42 dX9_insert_42 (fun H locs hP _ hS => ?_)
        refine lv_aload_n hx hb dX9_insert_43 rfl (lv_at hl 0 rfl) ?_
        refine lv_iconst (v := (1 : Int32)) hx hb dX9_insert_44 (by decide) ?_
        refine lv_iload_n hx hb dX9_insert_45 rfl (lv_at hl 1 rfl) ?_
        refine lv_iconst (v := (1 : Int32)) hx hb dX9_insert_46 (by decide) ?_
        obtain ⟨u47, t47, hf⟩ := zb hf
        obtain ⟨M47, e47, hf⟩ := zb hf
        refine zc_v hS (va_runV (As := [.int (1 : Int32), .int x1, .int (1 : Int32)]) (rest := []) ⟨hx, hb, hml, hown, hts⟩ (k_X9_remember l D cy b M42 h0 (1 : Int32) x1 (1 : Int32) M47 e47) (cwV 3 hts gX9_insert_X9_remember rfl rfl rfl (by decide +kernel) ⟨Nat.le_of_ble_eq_true rfl, Nat.le_of_ble_eq_true rfl⟩) (zp_V _ hK hP t47 (T := TX9) (N := 54) rfl (by decide)) rfl rfl hl.1 rfl (lv_room (Nat.le_of_ble_eq_true rfl)) dX9_insert_47 ⟨Nat.zero_le _, Nat.zero_le _⟩) (fun H locs hP hS => ?_)
        refine lv_aload_n hx hb dX9_insert_50 rfl (lv_at hl 0 rfl) ?_
        refine lv_iconst (v := (0 : Int32)) hx hb dX9_insert_51 (by decide) ?_
        obtain ⟨M52, e52, hf⟩ := zb hf
        refine zr_pi (ci := 9) (k := 44) (C := RX9) (T := TX9) (N := 54) hx hb hts hi_X9_insert_9 tyX9 tyX9_ok nmX9 hown hK hP hS e52 rfl rfl (by decide) (by decide) (hts (.fieldLink RX9 267 "BoundaryAnalyzerModel" "redoMany" "I") (List.mem_of_getElem? (i := 3) rfl)) rfl (tyX9_ok 44 (by decide)) dX9_insert_52 (fun H locs hP _ hS => ?_)
        refine lv_aload_n hx hb dX9_insert_55 rfl (lv_at hl 0 rfl) ?_
        refine lv_iload_n hx hb dX9_insert_56 rfl (lv_at hl 1 rfl) ?_
        refine lv_iconst (v := (1 : Int32)) hx hb dX9_insert_57 (by decide) ?_
        obtain ⟨u58, t58, hf⟩ := zb hf
        obtain ⟨M58, e58, hf⟩ := zb hf
        refine zc_v hS (va_runV (As := [.int x1, .int (1 : Int32)]) (rest := []) ⟨hx, hb, hml, hown, hts⟩ (k_X9_putIn l D cy b M52 h0 x1 (1 : Int32) M58 e58) (cwV 2 hts gX9_insert_X9_putIn rfl rfl rfl (by decide +kernel) ⟨Nat.le_of_ble_eq_true rfl, Nat.le_of_ble_eq_true rfl⟩) (zp_V _ hK hP t58 (T := TX9) (N := 54) rfl (by decide)) rfl rfl hl.1 rfl (lv_room (Nat.le_of_ble_eq_true rfl)) dX9_insert_58 ⟨Nat.zero_le _, Nat.zero_le _⟩) (fun H locs hP hS => ?_)
        refine lv_aload_n hx hb dX9_insert_61 rfl (lv_at hl 0 rfl) ?_
        obtain ⟨v62, e62, hf⟩ := zb hf
        refine zr_gi (ci := 9) (k := 31) (C := RX9) (T := TX9) (N := 54) hx hb hts hi_X9_insert_9 hown hK hP e62 rfl rfl (by decide) (by decide) (hts (.fieldLink RX9 207 "BoundaryAnalyzerModel" "length" "I") (List.mem_of_getElem? (i := 1) rfl)) dX9_insert_62 ?_
        exact zret_i hx hb hr hlocks hf hP hS dX9_insert_65
      · have hf := (if_pos c30).symm.trans hf
        refine lv_bipush (v := (-3 : Int32)) hx hb dX9_insert_33 (by decide) ?_
        exact zret_i hx hb hr hlocks hf hP hS dX9_insert_35
    · have hf := (if_pos c18).symm.trans hf
      refine lv_bipush (v := (-2 : Int32)) hx hb dX9_insert_21 (by decide) ?_
      exact zret_i hx hb hr hlocks hf hP hS dX9_insert_23
  · have hf := (if_neg c5).symm.trans hf
    refine lv_iconst (v := (-1 : Int32)) hx hb dX9_insert_8 (by decide) ?_
    exact zret_i hx hb hr hlocks hf hP hS dX9_insert_9
theorem hi_X9_erase_9 : ∀ w ∈ wsX90, w ∈ wsX9_erase := fun _ h => List.mem_cons_of_mem _ (List.mem_append_right _ h)
set_option maxHeartbeats 4000000 in
set_option maxRecDepth 100000 in
theorem k_X9_erase (l : Launch) (D : va_G) (cy : Nat → ClassId) (b : Nat) (M0 : Mem) (h0 : Nat) (x1 : Int32) (x2 : Int32) (rr : Int32 × Mem) (hf : fX9_erase M0 h0 x1 x2 = some rr) : Met l yX9_erase wsX9_erase ({ frames := 7, cells := 0, slots := 0, locals := 176 } : Room) (zPc D cy b M0 [.ref (b + h0), .int x1, .int x2]) (zQi D cy b rr) 0 0 (zA b) := by
  refine Met.ofW (cc := cX9_erase) (maxL := 4) (ret := (some .int)) (by decide) rfl ?_
  intro p e s m args below meth c s₁ B hml hv
  obtain ⟨rfl, hP, hK⟩ := hv
  have hx := B.exec
  have hb := B.bytes
  have hr := B.returns
  have hts := atoms_spec (ws := wsX9_erase) B.pre
  have hown : s.vm.findClass RX9 = some m.cls := findClass_of_methodNamed B.named
  have hlocks := B.notSynchronized
  have hS : va_S (zA b) s.heap s.heap [] := va_S.rf
  have hl := lv_entry ([.ref (b + h0), .int x1, .int x2]) (n := 4) (Nat.le_of_ble_eq_true rfl)
  rw [lg_entry_eq]
  generalize (lg_sl ([.ref (b + h0), .int x1, .int x2]) ++ List.replicate (4 - (lg_sl ([.ref (b + h0), .int x1, .int x2])).length) Slot.unset).toArray = ls at hl ⊢
  have hl : lv_has ls 4 [(0, .ref (b + h0)), (1, .int x1), (2, .int x2)] := hl
  have L35 : ∀ (n35 : Nat) (M : Mem) (H : Heap) (locs : List Loc) (ls : Array Slot) (h0 : Nat) (x1 : Int32) (x2 : Int32) (x3 : Int32), fX9_erase_35L  n35 M h0 x1 x2 x3 = some rr → zH D cy b M H → va_S (zA b) s.heap H locs → lv_has ls 4 [(0, .ref (b + h0)), (1, .int x1), (2, .int x2), (3, .int x3)] → W p l e (headSpec wsX9_erase ({ frames := 7, cells := 0, slots := 0, locals := 176 } : Room)).room s m ([.ref (b + h0), .int x1, .int x2] : List Value).toArray below meth c H locs 0 0 (MQ below (zQi D cy b rr) ([.ref (b + h0), .int x1, .int x2] : List Value).toArray s 0 0 (zA b)) (F0 m 35 ls []) := by
    intro n35
    induction n35 with
    | zero =>
      intro M H locs ls h0 x1 x2 x3 hf
      have hf : (none : Option (Int32 × Mem)) = some rr := hf
      cases hf
    | succ n35 ih35 =>
      intro M H locs ls h0 x1 x2 x3 hf hP hS hl
      have hf : fX9_erase_35  (fX9_erase_35L  n35) M h0 x1 x2 x3 = some rr := hf
      unfold fX9_erase_35 at hf
      refine lv_iload_n hx hb dX9_erase_35 rfl (lv_at hl 3 rfl) ?_
      refine lv_iload_n hx hb dX9_erase_36 rfl (lv_at hl 2 rfl) ?_
      refine lv_icmp_ge (tgt := 60) hx hb dX9_erase_37 (by decide) (fun c37 => ?_) (fun c37 => ?_)
      · have hf := (if_pos c37).symm.trans hf
        refine lv_aload_n hx hb dX9_erase_60 rfl (lv_at hl 0 rfl) ?_
        refine lv_iconst (v := (0 : Int32)) hx hb dX9_erase_61 (by decide) ?_
        refine lv_iload_n hx hb dX9_erase_62 rfl (lv_at hl 1 rfl) ?_
        refine lv_iload_n hx hb dX9_erase_63 rfl (lv_at hl 2 rfl) ?_
        obtain ⟨u64, t64, hf⟩ := zb hf
        obtain ⟨M64, e64, hf⟩ := zb hf
        refine zc_v hS (va_runV (As := [.int (0 : Int32), .int x1, .int x2]) (rest := []) ⟨hx, hb, hml, hown, hts⟩ (k_X9_remember l D cy b M h0 (0 : Int32) x1 x2 M64 e64) (cwV 3 hts gX9_erase_X9_remember rfl rfl rfl (by decide +kernel) ⟨Nat.le_of_ble_eq_true rfl, Nat.le_of_ble_eq_true rfl⟩) (zp_V _ hK hP t64 (T := TX9) (N := 54) rfl (by decide)) rfl rfl hl.1 rfl (lv_room (Nat.le_of_ble_eq_true rfl)) dX9_erase_64 ⟨Nat.zero_le _, Nat.zero_le _⟩) (fun H locs hP hS => ?_)
        refine lv_aload_n hx hb dX9_erase_67 rfl (lv_at hl 0 rfl) ?_
        refine lv_iconst (v := (0 : Int32)) hx hb dX9_erase_68 (by decide) ?_
        obtain ⟨M69, e69, hf⟩ := zb hf
        refine zr_pi (ci := 9) (k := 44) (C := RX9) (T := TX9) (N := 54) hx hb hts hi_X9_erase_9 tyX9 tyX9_ok nmX9 hown hK hP hS e69 rfl rfl (by decide) (by decide) (hts (.fieldLink RX9 267 "BoundaryAnalyzerModel" "redoMany" "I") (List.mem_of_getElem? (i := 4) rfl)) rfl (tyX9_ok 44 (by decide)) dX9_erase_69 (fun H locs hP _ hS => ?_)
        refine lv_aload_n hx hb dX9_erase_72 rfl (lv_at hl 0 rfl) ?_
        refine lv_iload_n hx hb dX9_erase_73 rfl (lv_at hl 1 rfl) ?_
        refine lv_iload_n hx hb dX9_erase_74 rfl (lv_at hl 2 rfl) ?_
        obtain ⟨u75, t75, hf⟩ := zb hf
        obtain ⟨M75, e75, hf⟩ := zb hf
        refine zc_v hS (va_runV (As := [.int x1, .int x2]) (rest := []) ⟨hx, hb, hml, hown, hts⟩ (k_X9_takeOut l D cy b M69 h0 x1 x2 M75 e75) (cwV 2 hts gX9_erase_X9_takeOut rfl rfl rfl (by decide +kernel) ⟨Nat.le_of_ble_eq_true rfl, Nat.le_of_ble_eq_true rfl⟩) (zp_V _ hK hP t75 (T := TX9) (N := 54) rfl (by decide)) rfl rfl hl.1 rfl (lv_room (Nat.le_of_ble_eq_true rfl)) dX9_erase_75 ⟨Nat.zero_le _, Nat.zero_le _⟩) (fun H locs hP hS => ?_)
        refine lv_aload_n hx hb dX9_erase_78 rfl (lv_at hl 0 rfl) ?_
        obtain ⟨v79, e79, hf⟩ := zb hf
        refine zr_gi (ci := 9) (k := 31) (C := RX9) (T := TX9) (N := 54) hx hb hts hi_X9_erase_9 hown hK hP e79 rfl rfl (by decide) (by decide) (hts (.fieldLink RX9 207 "BoundaryAnalyzerModel" "length" "I") (List.mem_of_getElem? (i := 1) rfl)) dX9_erase_79 ?_
        exact zret_i hx hb hr hlocks hf hP hS dX9_erase_82
      · have hf := (if_neg c37).symm.trans hf
        refine lv_aload_n hx hb dX9_erase_40 rfl (lv_at hl 0 rfl) ?_
        obtain ⟨v41, e41, hf⟩ := zb hf
        refine zr_gr (ci := 9) (k := 38) (C := RX9) (T := TX9) (N := 54) hx hb hts hi_X9_erase_9 hown hK hP e41 rfl rfl (by decide) (by decide) (hts (.fieldLink RX9 96 "BoundaryAnalyzerModel" "editText" "[C") (List.mem_of_getElem? (i := 2) rfl)) dX9_erase_41 ?_
        refine lv_iload_n hx hb dX9_erase_44 rfl (lv_at hl 3 rfl) ?_
        refine lv_aload_n hx hb dX9_erase_45 rfl (lv_at hl 0 rfl) ?_
        obtain ⟨v46, e46, hf⟩ := zb hf
        refine zr_gr (ci := 9) (k := 32) (C := RX9) (T := TX9) (N := 54) hx hb hts hi_X9_erase_9 hown hK hP e46 rfl rfl (by decide) (by decide) (hts (.fieldLink RX9 78 "BoundaryAnalyzerModel" "text" "[C") (List.mem_of_getElem? (i := 3) rfl)) dX9_erase_46 ?_
        refine lv_iload_n hx hb dX9_erase_49 rfl (lv_at hl 1 rfl) ?_
        refine lv_iload_n hx hb dX9_erase_50 rfl (lv_at hl 3 rfl) ?_
        refine lv_iadd hx hb dX9_erase_51 ?_
        obtain ⟨v52, e52, hf⟩ := zb hf
        refine zr_ac hx hb hK hP e52 dX9_erase_52 ?_
        obtain ⟨M53, e53, hf⟩ := zb hf
        refine zr_sc hx hb hK hP hS e53 dX9_erase_53 (fun H locs hP _ hS => ?_)
        obtain ⟨x3_54, q54, hf⟩ := zlt_s hf
        refine lv_iinc (v := x3_54) (lv' := [(3, .int x3_54), (0, .ref (b + h0)), (1, .int x1), (2, .int x2)]) hx hb dX9_erase_54 hl (k := 3) rfl (by rw [← q54]; rfl) (by decide) rfl (fun ls hl => ?_)
        refine lv_goto (tgt := 35) hx hb dX9_erase_57 (by decide) ?_
        exact ih35 _ _ _ _ _ _ _ _ hf hP hS (lv_sub hl [1, 2, 3, 0] rfl)
  unfold fX9_erase at hf
  refine lv_iload_n hx hb dX9_erase_0 rfl (lv_at hl 1 rfl) ?_
  refine lv_iconst (v := (0 : Int32)) hx hb dX9_erase_1 (by decide) ?_
  refine lv_aload_n hx hb dX9_erase_2 rfl (lv_at hl 0 rfl) ?_
  obtain ⟨v3, e3, hf⟩ := zb hf
  refine zr_gi (ci := 9) (k := 31) (C := RX9) (T := TX9) (N := 54) hx hb hts hi_X9_erase_9 hown hK hP e3 rfl rfl (by decide) (by decide) (hts (.fieldLink RX9 207 "BoundaryAnalyzerModel" "length" "I") (List.mem_of_getElem? (i := 1) rfl)) dX9_erase_3 ?_
  refine lv_iconst (v := (1 : Int32)) hx hb dX9_erase_6 (by decide) ?_
  refine lv_isub hx hb dX9_erase_7 ?_
  obtain ⟨v8, e8, hf⟩ := zb hf
  refine zc_p (va_runS (As := [.int x1, .int (0 : Int32), .int (v3 - (1 : Int32))]) (rest := []) ⟨hx, hb, hml, hown, hts⟩ (k_X9_in l x1 (0 : Int32) (v3 - (1 : Int32)) v8 e8) (va_cwS 3 hts gX9_erase_X9_in rfl rfl rfl (by decide +kernel) ⟨Nat.le_of_ble_eq_true rfl, Nat.le_of_ble_eq_true rfl⟩) (zp_p _) rfl rfl hl.1 rfl (lv_room (Nat.le_of_ble_eq_true rfl)) dX9_erase_8 ⟨Nat.zero_le _, Nat.zero_le _⟩) ?_
  refine lv_if_ne (tgt := 16) hx hb dX9_erase_11 (by decide) (fun c11 => ?_) (fun c11 => ?_)
  · have hf := (if_neg c11).symm.trans hf
    refine lv_iload_n hx hb dX9_erase_16 rfl (lv_at hl 2 rfl) ?_
    refine lv_iconst (v := (1 : Int32)) hx hb dX9_erase_17 (by decide) ?_
    refine lv_aload_n hx hb dX9_erase_18 rfl (lv_at hl 0 rfl) ?_
    obtain ⟨v19, e19, hf⟩ := zb hf
    refine zr_gi (ci := 9) (k := 31) (C := RX9) (T := TX9) (N := 54) hx hb hts hi_X9_erase_9 hown hK hP e19 rfl rfl (by decide) (by decide) (hts (.fieldLink RX9 207 "BoundaryAnalyzerModel" "length" "I") (List.mem_of_getElem? (i := 1) rfl)) dX9_erase_19 ?_
    refine lv_iload_n hx hb dX9_erase_22 rfl (lv_at hl 1 rfl) ?_
    refine lv_isub hx hb dX9_erase_23 ?_
    obtain ⟨v24, e24, hf⟩ := zb hf
    refine zc_p (va_runS (As := [.int x2, .int (1 : Int32), .int (v19 - x1)]) (rest := []) ⟨hx, hb, hml, hown, hts⟩ (k_X9_in l x2 (1 : Int32) (v19 - x1) v24 e24) (va_cwS 3 hts gX9_erase_X9_in rfl rfl rfl (by decide +kernel) ⟨Nat.le_of_ble_eq_true rfl, Nat.le_of_ble_eq_true rfl⟩) (zp_p _) rfl rfl hl.1 rfl (lv_room (Nat.le_of_ble_eq_true rfl)) dX9_erase_24 ⟨Nat.zero_le _, Nat.zero_le _⟩) ?_
    refine lv_if_ne (tgt := 33) hx hb dX9_erase_27 (by decide) (fun c27 => ?_) (fun c27 => ?_)
    · have hf := (if_neg c27).symm.trans hf
      refine lv_iconst (v := (0 : Int32)) hx hb dX9_erase_33 (by decide) ?_
      refine lv_istore_n (lv' := [(3, .int (0 : Int32)), (0, .ref (b + h0)), (1, .int x1), (2, .int x2)]) hx hb dX9_erase_34 rfl hl (by decide) rfl (fun ls hl => ?_)
      exact L35 _ _ _ _ _ _ _ _ _ hf hP hS (lv_sub hl [1, 2, 3, 0] rfl)
    · have hf := (if_pos c27).symm.trans hf
      refine lv_bipush (v := (-2 : Int32)) hx hb dX9_erase_30 (by decide) ?_
      exact zret_i hx hb hr hlocks hf hP hS dX9_erase_32
  · have hf := (if_pos c11).symm.trans hf
    refine lv_iconst (v := (-1 : Int32)) hx hb dX9_erase_14 (by decide) ?_
    exact zret_i hx hb hr hlocks hf hP hS dX9_erase_15
theorem hi_X9_carryOut_9 : ∀ w ∈ wsX90, w ∈ wsX9_carryOut := fun _ h => List.mem_cons_of_mem _ (List.mem_append_right _ h)
set_option maxHeartbeats 4000000 in
set_option maxRecDepth 100000 in
theorem k_X9_carryOut (l : Launch) (D : va_G) (cy : Nat → ClassId) (b : Nat) (M0 : Mem) (h0 : Nat) (x1 : Int32) (x2 : Int32) (x3 : Int32) (rr : Mem) (hf : fX9_carryOut M0 h0 x1 x2 x3 = some rr) : Met l yX9_carryOut wsX9_carryOut ({ frames := 7, cells := 0, slots := 0, locals := 176 } : Room) (zPc D cy b M0 [.ref (b + h0), .int x1, .int x2, .int x3]) (zQv D cy b rr) 0 0 (zA b) := by
  refine Met.ofW (cc := cX9_carryOut) (maxL := 4) (ret := none) (by decide) rfl ?_
  intro p e s m args below meth c s₁ B hml hv
  obtain ⟨rfl, hP, hK⟩ := hv
  have hx := B.exec
  have hb := B.bytes
  have hr := B.returns
  have hts := atoms_spec (ws := wsX9_carryOut) B.pre
  have hown : s.vm.findClass RX9 = some m.cls := findClass_of_methodNamed B.named
  have hlocks := B.notSynchronized
  have hS : va_S (zA b) s.heap s.heap [] := va_S.rf
  have hl := lv_entry ([.ref (b + h0), .int x1, .int x2, .int x3]) (n := 4) (Nat.le_of_ble_eq_true rfl)
  rw [lg_entry_eq]
  generalize (lg_sl ([.ref (b + h0), .int x1, .int x2, .int x3]) ++ List.replicate (4 - (lg_sl ([.ref (b + h0), .int x1, .int x2, .int x3])).length) Slot.unset).toArray = ls at hl ⊢
  have hl : lv_has ls 4 [(0, .ref (b + h0)), (1, .int x1), (2, .int x2), (3, .int x3)] := hl
  unfold fX9_carryOut at hf
  refine lv_iload_n hx hb dX9_carryOut_0 rfl (lv_at hl 1 rfl) ?_
  refine lv_if_eq (tgt := 13) hx hb dX9_carryOut_1 (by decide) (fun c1 => ?_) (fun c1 => ?_)
  · have hf := (if_pos c1).symm.trans hf
    refine lv_aload_n hx hb dX9_carryOut_13 rfl (lv_at hl 0 rfl) ?_
    refine lv_iload_n hx hb dX9_carryOut_14 rfl (lv_at hl 2 rfl) ?_
    refine lv_iload_n hx hb dX9_carryOut_15 rfl (lv_at hl 3 rfl) ?_
    obtain ⟨u16, t16, hf⟩ := zb hf
    obtain ⟨M16, e16, hf⟩ := zb hf
    refine zc_v hS (va_runV (As := [.int x2, .int x3]) (rest := []) ⟨hx, hb, hml, hown, hts⟩ (k_X9_takeOut l D cy b M0 h0 x2 x3 M16 e16) (cwV 2 hts gX9_carryOut_X9_takeOut rfl rfl rfl (by decide +kernel) ⟨Nat.le_of_ble_eq_true rfl, Nat.le_of_ble_eq_true rfl⟩) (zp_V _ hK hP t16 (T := TX9) (N := 54) rfl (by decide)) rfl rfl hl.1 rfl (lv_room (Nat.le_of_ble_eq_true rfl)) dX9_carryOut_16 ⟨Nat.zero_le _, Nat.zero_le _⟩) (fun H locs hP hS => ?_)
    exact zret_v hx hb hr hlocks hf hP hS dX9_carryOut_19
  · have hf := (if_neg c1).symm.trans hf
    refine lv_aload_n hx hb dX9_carryOut_4 rfl (lv_at hl 0 rfl) ?_
    refine lv_iload_n hx hb dX9_carryOut_5 rfl (lv_at hl 2 rfl) ?_
    refine lv_iload_n hx hb dX9_carryOut_6 rfl (lv_at hl 3 rfl) ?_
    obtain ⟨u7, t7, hf⟩ := zb hf
    obtain ⟨M7, e7, hf⟩ := zb hf
    refine zc_v hS (va_runV (As := [.int x2, .int x3]) (rest := []) ⟨hx, hb, hml, hown, hts⟩ (k_X9_putIn l D cy b M0 h0 x2 x3 M7 e7) (cwV 2 hts gX9_carryOut_X9_putIn rfl rfl rfl (by decide +kernel) ⟨Nat.le_of_ble_eq_true rfl, Nat.le_of_ble_eq_true rfl⟩) (zp_V _ hK hP t7 (T := TX9) (N := 54) rfl (by decide)) rfl rfl hl.1 rfl (lv_room (Nat.le_of_ble_eq_true rfl)) dX9_carryOut_7 ⟨Nat.zero_le _, Nat.zero_le _⟩) (fun H locs hP hS => ?_)
    refine lv_goto (tgt := 19) hx hb dX9_carryOut_10 (by decide) ?_
    exact zret_v hx hb hr hlocks hf hP hS dX9_carryOut_19
