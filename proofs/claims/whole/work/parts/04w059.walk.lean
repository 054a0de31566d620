theorem hi_X9_remember_9 : ∀ w ∈ wsX90, w ∈ wsX9_remember := fun _ h => List.mem_cons_of_mem _ (List.mem_append_right _ h)
set_option maxHeartbeats 4000000 in
set_option maxRecDepth 100000 in
theorem k_X9_remember (l : Launch) (D : va_G) (cy : Nat → ClassId) (b : Nat) (M0 : Mem) (p0 : Nat) (p1 : Int32) (p2 : Int32) (p3 : Int32) (rr : Mem) (hf : fX9_remember M0 p0 p1 p2 p3 = some rr) : Met l yX9_remember wsX9_remember ({ frames := 0, cells := 0, slots := 0, locals := 0 } : Room) (zPc D cy b M0 [.ref (b + p0), .int p1, .int p2, .int p3]) (zQv D cy b rr) 0 0 (zA b) := by
  refine Met.ofW (cc := cX9_remember) (maxL := 6) (ret := none) (by decide) rfl ?_
  intro p e s m args below meth c s₁ B hml hv
  obtain ⟨rfl, hP, hK⟩ := hv
  have hx := B.exec
  have hb := B.bytes
  have hr := B.returns
  have hts := atoms_spec (ws := wsX9_remember) B.pre
  have hown : s.vm.findClass RX9 = some m.cls := findClass_of_methodNamed B.named
  have hlocks := B.notSynchronized
  have hS : va_S (zA b) s.heap s.heap [] := va_S.rf
  have hl := lv_entry ([.ref (b + p0), .int p1, .int p2, .int p3]) (n := 6) (Nat.le_of_ble_eq_true rfl)
  rw [lg_entry_eq]
  generalize (lg_sl ([.ref (b + p0), .int p1, .int p2, .int p3]) ++ List.replicate (6 - (lg_sl ([.ref (b + p0), .int p1, .int p2, .int p3])).length) Slot.unset).toArray = ls at hl ⊢
  have hl : lv_has ls 6 [(0, .ref (b + p0)), (1, .int p1), (2, .int p2), (3, .int p3)] := hl
  have L163 : ∀ (n163 : Nat) (M : Mem) (H : Heap) (locs : List Loc) (ls : Array Slot) (h0 : Nat) (x3 : Int32) (x4 : Int32), fX9_remember_163L  n163 M h0 x3 x4 = some rr → zH D cy b M H → va_S (zA b) s.heap H locs → lv_has ls 6 [(0, .ref (b + h0)), (3, .int x3), (4, .int x4)] → W p l e (headSpec wsX9_remember ({ frames := 0, cells := 0, slots := 0, locals := 0 } : Room)).room s m ([.ref (b + p0), .int p1, .int p2, .int p3] : List Value).toArray below meth c H locs 0 0 (MQ below (zQv D cy b rr) ([.ref (b + p0), .int p1, .int p2, .int p3] : List Value).toArray s 0 0 (zA b)) (F0 m 163 ls []) := by
    intro n163
    induction n163 with
    | zero =>
      intro M H locs ls h0 x3 x4 hf
      have hf : (none : Option Mem) = some rr := hf
      cases hf
    | succ n163 ih163 =>
      intro M H locs ls h0 x3 x4 hf hP hS hl
      have hf : fX9_remember_163  (fX9_remember_163L  n163) M h0 x3 x4 = some rr := hf
      unfold fX9_remember_163 at hf
      refine lv_iload hx hb dX9_remember_163 (lv_at hl 2 rfl) ?_
      refine lv_iload_n hx hb dX9_remember_165 rfl (lv_at hl 1 rfl) ?_
      refine lv_icmp_ge (tgt := 197) hx hb dX9_remember_166 (by decide) (fun c166 => ?_) (fun c166 => ?_)
      · have hf := (if_pos c166).symm.trans hf
        refine lv_aload_n hx hb dX9_remember_197 rfl (lv_at hl 0 rfl) ?_
        refine lv_dup hx hb dX9_remember_198 rfl ?_
        obtain ⟨v199, e199, hf⟩ := zb hf
        refine zr_gi (ci := 9) (k := 39) (C := RX9) (T := TX9) (N := 54) hx hb hts hi_X9_remember_9 hown hK hP e199 rfl rfl (by decide) (by decide) (hts (.fieldLink RX9 260 "BoundaryAnalyzerModel" "undoMany" "I") (List.mem_of_getElem? (i := 1) rfl)) dX9_remember_199 ?_
        refine lv_iconst (v := (1 : Int32)) hx hb dX9_remember_202 (by decide) ?_
        refine lv_iadd hx hb dX9_remember_203 ?_
        obtain ⟨M204, e204, hf⟩ := zb hf
        refine zr_pi (ci := 9) (k := 39) (C := RX9) (T := TX9) (N := 54) hx hb hts hi_X9_remember_9 tyX9 tyX9_ok nmX9 hown hK hP hS e204 rfl rfl (by decide) (by decide) (hts (.fieldLink RX9 260 "BoundaryAnalyzerModel" "undoMany" "I") (List.mem_of_getElem? (i := 1) rfl)) rfl (tyX9_ok 39 (by decide)) dX9_remember_204 (fun H locs hP _ hS => ?_)
        exact zret_v hx hb hr hlocks hf hP hS dX9_remember_207
      · have hf := (if_neg c166).symm.trans hf
        refine lv_aload_n hx hb dX9_remember_169 rfl (lv_at hl 0 rfl) ?_
        obtain ⟨v170, e170, hf⟩ := zb hf
        refine zr_gr (ci := 9) (k := 43) (C := RX9) (T := TX9) (N := 54) hx hb hts hi_X9_remember_9 hown hK hP e170 rfl rfl (by decide) (by decide) (hts (.fieldLink RX9 108 "BoundaryAnalyzerModel" "undoText" "[C") (List.mem_of_getElem? (i := 5) rfl)) dX9_remember_170 ?_
        refine lv_bipush (v := (100 : Int32)) hx hb dX9_remember_173 (by decide) ?_
        refine lv_aload_n hx hb dX9_remember_175 rfl (lv_at hl 0 rfl) ?_
        obtain ⟨v176, e176, hf⟩ := zb hf
        refine zr_gi (ci := 9) (k := 39) (C := RX9) (T := TX9) (N := 54) hx hb hts hi_X9_remember_9 hown hK hP e176 rfl rfl (by decide) (by decide) (hts (.fieldLink RX9 260 "BoundaryAnalyzerModel" "undoMany" "I") (List.mem_of_getElem? (i := 1) rfl)) dX9_remember_176 ?_
        refine lv_imul hx hb dX9_remember_179 ?_
        refine lv_iload hx hb dX9_remember_180 (lv_at hl 2 rfl) ?_
        refine lv_iadd hx hb dX9_remember_182 ?_
        refine lv_aload_n hx hb dX9_remember_183 rfl (lv_at hl 0 rfl) ?_
        obtain ⟨v184, e184, hf⟩ := zb hf
        refine zr_gr (ci := 9) (k := 38) (C := RX9) (T := TX9) (N := 54) hx hb hts hi_X9_remember_9 hown hK hP e184 rfl rfl (by decide) (by decide) (hts (.fieldLink RX9 96 "BoundaryAnalyzerModel" "editText" "[C") (List.mem_of_getElem? (i := 6) rfl)) dX9_remember_184 ?_
        refine lv_iload hx hb dX9_remember_187 (lv_at hl 2 rfl) ?_
        obtain ⟨v189, e189, hf⟩ := zb hf
        refine zr_ac hx hb hK hP e189 dX9_remember_189 ?_
        obtain ⟨M190, e190, hf⟩ := zb hf
        refine zr_sc hx hb hK hP hS e190 dX9_remember_190 (fun H locs hP _ hS => ?_)
        obtain ⟨x4_191, q191, hf⟩ := zlt_s hf
        refine lv_iinc (v := x4_191) (lv' := [(4, .int x4_191), (0, .ref (b + h0)), (3, .int x3)]) hx hb dX9_remember_191 hl (k := 2) rfl (by rw [← q191]; rfl) (by decide) rfl (fun ls hl => ?_)
        refine lv_goto (tgt := 163) hx hb dX9_remember_194 (by decide) ?_
        exact ih163 _ _ _ _ _ _ _ hf hP hS (lv_sub hl [1, 2, 0] rfl)
  have J130 : ∀ (M : Mem) (H : Heap) (locs : List Loc) (ls : Array Slot) (h0 : Nat) (x1 : Int32) (x2 : Int32) (x3 : Int32), fX9_remember_130  M h0 x1 x2 x3 = some rr → zH D cy b M H → va_S (zA b) s.heap H locs → lv_has ls 6 [(0, .ref (b + h0)), (1, .int x1), (2, .int x2), (3, .int x3)] → W p l e (headSpec wsX9_remember ({ frames := 0, cells := 0, slots := 0, locals := 0 } : Room)).room s m ([.ref (b + p0), .int p1, .int p2, .int p3] : List Value).toArray below meth c H locs 0 0 (MQ below (zQv D cy b rr) ([.ref (b + p0), .int p1, .int p2, .int p3] : List Value).toArray s 0 0 (zA b)) (F0 m 130 ls []) := by
    intro M H locs ls h0 x1 x2 x3 hf hP hS hl
    unfold fX9_remember_130 at hf
    refine lv_aload_n hx hb dX9_remember_130 rfl (lv_at hl 0 rfl) ?_
    obtain ⟨v131, e131, hf⟩ := zb hf
    refine zr_gr (ci := 9) (k := 40) (C := RX9) (T := TX9) (N := 54) hx hb hts hi_X9_remember_9 hown hK hP e131 rfl rfl (by decide) (by decide) (hts (.fieldLink RX9 99 "BoundaryAnalyzerModel" "undoPuts" "[Z") (List.mem_of_getElem? (i := 2) rfl)) dX9_remember_131 ?_
    refine lv_aload_n hx hb dX9_remember_134 rfl (lv_at hl 0 rfl) ?_
    obtain ⟨v135, e135, hf⟩ := zb hf
    refine zr_gi (ci := 9) (k := 39) (C := RX9) (T := TX9) (N := 54) hx hb hts hi_X9_remember_9 hown hK hP e135 rfl rfl (by decide) (by decide) (hts (.fieldLink RX9 260 "BoundaryAnalyzerModel" "undoMany" "I") (List.mem_of_getElem? (i := 1) rfl)) dX9_remember_135 ?_
    refine lv_iload_n hx hb dX9_remember_138 rfl (lv_at hl 1 rfl) ?_
    obtain ⟨M139, e139, hf⟩ := zb hf
    refine zr_sz hx hb hK hP hS e139 dX9_remember_139 (fun H locs hP _ hS => ?_)
    refine lv_aload_n hx hb dX9_remember_140 rfl (lv_at hl 0 rfl) ?_
    obtain ⟨v141, e141, hf⟩ := zb hf
    refine zr_gr (ci := 9) (k := 41) (C := RX9) (T := TX9) (N := 54) hx hb hts hi_X9_remember_9 hown hK hP e141 rfl rfl (by decide) (by decide) (hts (.fieldLink RX9 102 "BoundaryAnalyzerModel" "undoAt" "[I") (List.mem_of_getElem? (i := 3) rfl)) dX9_remember_141 ?_
    refine lv_aload_n hx hb dX9_remember_144 rfl (lv_at hl 0 rfl) ?_
    obtain ⟨v145, e145, hf⟩ := zb hf
    refine zr_gi (ci := 9) (k := 39) (C := RX9) (T := TX9) (N := 54) hx hb hts hi_X9_remember_9 hown hK hP e145 rfl rfl (by decide) (by decide) (hts (.fieldLink RX9 260 "BoundaryAnalyzerModel" "undoMany" "I") (List.mem_of_getElem? (i := 1) rfl)) dX9_remember_145 ?_
    refine lv_iload_n hx hb dX9_remember_148 rfl (lv_at hl 2 rfl) ?_
    obtain ⟨M149, e149, hf⟩ := zb hf
    refine zr_si hx hb hK hP hS e149 dX9_remember_149 (fun H locs hP _ hS => ?_)
    refine lv_aload_n hx hb dX9_remember_150 rfl (lv_at hl 0 rfl) ?_
    obtain ⟨v151, e151, hf⟩ := zb hf
    refine zr_gr (ci := 9) (k := 42) (C := RX9) (T := TX9) (N := 54) hx hb hts hi_X9_remember_9 hown hK hP e151 rfl rfl (by decide) (by decide) (hts (.fieldLink RX9 105 "BoundaryAnalyzerModel" "undoLong" "[I") (List.mem_of_getElem? (i := 4) rfl)) dX9_remember_151 ?_
    refine lv_aload_n hx hb dX9_remember_154 rfl (lv_at hl 0 rfl) ?_
    obtain ⟨v155, e155, hf⟩ := zb hf
    refine zr_gi (ci := 9) (k := 39) (C := RX9) (T := TX9) (N := 54) hx hb hts hi_X9_remember_9 hown hK hP e155 rfl rfl (by decide) (by decide) (hts (.fieldLink RX9 260 "BoundaryAnalyzerModel" "undoMany" "I") (List.mem_of_getElem? (i := 1) rfl)) dX9_remember_155 ?_
    refine lv_iload_n hx hb dX9_remember_158 rfl (lv_at hl 3 rfl) ?_
    obtain ⟨M159, e159, hf⟩ := zb hf
    refine zr_si hx hb hK hP hS e159 dX9_remember_159 (fun H locs hP _ hS => ?_)
    refine lv_iconst (v := (0 : Int32)) hx hb dX9_remember_160 (by decide) ?_
    refine lv_istore (lv' := [(4, .int (0 : Int32)), (0, .ref (b + h0)), (1, .int x1), (2, .int x2), (3, .int x3)]) hx hb dX9_remember_161 hl (by decide) rfl (fun ls hl => ?_)
    exact L163 _ _ _ _ _ _ _ _ hf hP hS (lv_sub hl [1, 4, 0] rfl)
  have L22 : ∀ (n22 : Nat) (M : Mem) (H : Heap) (locs : List Loc) (ls : Array Slot) (h0 : Nat) (x1 : Int32) (x2 : Int32) (x3 : Int32) (x4 : Int32), fX9_remember_22L  n22 M h0 x1 x2 x3 x4 = some rr → zH D cy b M H → va_S (zA b) s.heap H locs → lv_has ls 6 [(0, .ref (b + h0)), (1, .int x1), (2, .int x2), (3, .int x3), (4, .int x4)] → W p l e (headSpec wsX9_remember ({ frames := 0, cells := 0, slots := 0, locals := 0 } : Room)).room s m ([.ref (b + p0), .int p1, .int p2, .int p3] : List Value).toArray below meth c H locs 0 0 (MQ below (zQv D cy b rr) ([.ref (b + p0), .int p1, .int p2, .int p3] : List Value).toArray s 0 0 (zA b)) (F0 m 22 ls []) := by
    intro n22
    induction n22 with
    | zero =>
      intro M H locs ls h0 x1 x2 x3 x4 hf
      have hf : (none : Option Mem) = some rr := hf
      cases hf
    | succ n22 ih22 =>
      have L82 : ∀ (n82 : Nat) (M : Mem) (H : Heap) (locs : List Loc) (ls : Array Slot) (h0 : Nat) (x1 : Int32) (x2 : Int32) (x3 : Int32) (x4 : Int32) (x5 : Int32), fX9_remember_82L (fX9_remember_22L  n22) n82 M h0 x1 x2 x3 x4 x5 = some rr → zH D cy b M H → va_S (zA b) s.heap H locs → lv_has ls 6 [(0, .ref (b + h0)), (1, .int x1), (2, .int x2), (3, .int x3), (4, .int x4), (5, .int x5)] → W p l e (headSpec wsX9_remember ({ frames := 0, cells := 0, slots := 0, locals := 0 } : Room)).room s m ([.ref (b + p0), .int p1, .int p2, .int p3] : List Value).toArray below meth c H locs 0 0 (MQ below (zQv D cy b rr) ([.ref (b + p0), .int p1, .int p2, .int p3] : List Value).toArray s 0 0 (zA b)) (F0 m 82 ls []) := by
        intro n82
        induction n82 with
        | zero =>
          intro M H locs ls h0 x1 x2 x3 x4 x5 hf
          have hf : (none : Option Mem) = some rr := hf
          cases hf
        | succ n82 ih82 =>
          intro M H locs ls h0 x1 x2 x3 x4 x5 hf hP hS hl
          have hf : fX9_remember_82 (fX9_remember_22L  n22) (fX9_remember_82L (fX9_remember_22L  n22) n82) M h0 x1 x2 x3 x4 x5 = some rr := hf
          unfold fX9_remember_82 at hf
          refine lv_iload hx hb dX9_remember_82 (lv_at hl 5 rfl) ?_
          refine lv_bipush (v := (100 : Int32)) hx hb dX9_remember_84 (by decide) ?_
          refine lv_icmp_ge (tgt := 124) hx hb dX9_remember_86 (by decide) (fun c86 => ?_) (fun c86 => ?_)
          · have hf := (if_pos c86).symm.trans hf
            obtain ⟨x4_124, q124, hf⟩ := zlt_s hf
            refine lv_iinc (v := x4_124) (lv' := [(4, .int x4_124), (0, .ref (b + h0)), (1, .int x1), (2, .int x2), (3, .int x3), (5, .int x5)]) hx hb dX9_remember_124 hl (k := 4) rfl (by rw [← q124]; rfl) (by decide) rfl (fun ls hl => ?_)
            refine lv_goto (tgt := 22) hx hb dX9_remember_127 (by decide) ?_
            exact ih22 _ _ _ _ _ _ _ _ _ hf hP hS (lv_sub hl [1, 2, 3, 4, 0] rfl)
          · have hf := (if_neg c86).symm.trans hf
            refine lv_aload_n hx hb dX9_remember_89 rfl (lv_at hl 0 rfl) ?_
            obtain ⟨v90, e90, hf⟩ := zb hf
            refine zr_gr (ci := 9) (k := 43) (C := RX9) (T := TX9) (N := 54) hx hb hts hi_X9_remember_9 hown hK hP e90 rfl rfl (by decide) (by decide) (hts (.fieldLink RX9 108 "BoundaryAnalyzerModel" "undoText" "[C") (List.mem_of_getElem? (i := 5) rfl)) dX9_remember_90 ?_
            refine lv_bipush (v := (100 : Int32)) hx hb dX9_remember_93 (by decide) ?_
            refine lv_iload hx hb dX9_remember_95 (lv_at hl 4 rfl) ?_
            refine lv_imul hx hb dX9_remember_97 ?_
            refine lv_iload hx hb dX9_remember_98 (lv_at hl 5 rfl) ?_
            refine lv_iadd hx hb dX9_remember_100 ?_
            refine lv_aload_n hx hb dX9_remember_101 rfl (lv_at hl 0 rfl) ?_
            obtain ⟨v102, e102, hf⟩ := zb hf
            refine zr_gr (ci := 9) (k := 43) (C := RX9) (T := TX9) (N := 54) hx hb hts hi_X9_remember_9 hown hK hP e102 rfl rfl (by decide) (by decide) (hts (.fieldLink RX9 108 "BoundaryAnalyzerModel" "undoText" "[C") (List.mem_of_getElem? (i := 5) rfl)) dX9_remember_102 ?_
            refine lv_bipush (v := (100 : Int32)) hx hb dX9_remember_105 (by decide) ?_
            refine lv_iload hx hb dX9_remember_107 (lv_at hl 4 rfl) ?_
            refine lv_imul hx hb dX9_remember_109 ?_
            refine lv_bipush (v := (100 : Int32)) hx hb dX9_remember_110 (by decide) ?_
            refine lv_iadd hx hb dX9_remember_112 ?_
            refine lv_iload hx hb dX9_remember_113 (lv_at hl 5 rfl) ?_
            refine lv_iadd hx hb dX9_remember_115 ?_
            obtain ⟨v116, e116, hf⟩ := zb hf
            refine zr_ac hx hb hK hP e116 dX9_remember_116 ?_
            obtain ⟨M117, e117, hf⟩ := zb hf
            refine zr_sc hx hb hK hP hS e117 dX9_remember_117 (fun H locs hP _ hS => ?_)
            obtain ⟨x5_118, q118, hf⟩ := zlt_s hf
            refine lv_iinc (v := x5_118) (lv' := [(5, .int x5_118), (0, .ref (b + h0)), (1, .int x1), (2, .int x2), (3, .int x3), (4, .int x4)]) hx hb dX9_remember_118 hl (k := 5) rfl (by rw [← q118]; rfl) (by decide) rfl (fun ls hl => ?_)
            refine lv_goto (tgt := 82) hx hb dX9_remember_121 (by decide) ?_
            exact ih82 _ _ _ _ _ _ _ _ _ _ hf hP hS (lv_sub hl [1, 2, 3, 4, 5, 0] rfl)
      intro M H locs ls h0 x1 x2 x3 x4 hf hP hS hl
      have hf : fX9_remember_22  (fX9_remember_22L  n22) M h0 x1 x2 x3 x4 = some rr := hf
      unfold fX9_remember_22 at hf
      refine lv_iload hx hb dX9_remember_22 (lv_at hl 4 rfl) ?_
      refine lv_aload_n hx hb dX9_remember_24 rfl (lv_at hl 0 rfl) ?_
      obtain ⟨v25, e25, hf⟩ := zb hf
      refine zr_gi (ci := 9) (k := 39) (C := RX9) (T := TX9) (N := 54) hx hb hts hi_X9_remember_9 hown hK hP e25 rfl rfl (by decide) (by decide) (hts (.fieldLink RX9 260 "BoundaryAnalyzerModel" "undoMany" "I") (List.mem_of_getElem? (i := 1) rfl)) dX9_remember_25 ?_
      refine lv_icmp_ge (tgt := 130) hx hb dX9_remember_28 (by decide) (fun c28 => ?_) (fun c28 => ?_)
      · have hf := (if_pos c28).symm.trans hf
        exact J130 _ _ _ _ _ _ _ _ hf hP hS (lv_sub hl [0, 1, 2, 3] rfl)
      · have hf := (if_neg c28).symm.trans hf
        refine lv_aload_n hx hb dX9_remember_31 rfl (lv_at hl 0 rfl) ?_
        obtain ⟨v32, e32, hf⟩ := zb hf
        refine zr_gr (ci := 9) (k := 40) (C := RX9) (T := TX9) (N := 54) hx hb hts hi_X9_remember_9 hown hK hP e32 rfl rfl (by decide) (by decide) (hts (.fieldLink RX9 99 "BoundaryAnalyzerModel" "undoPuts" "[Z") (List.mem_of_getElem? (i := 2) rfl)) dX9_remember_32 ?_
        refine lv_iload hx hb dX9_remember_35 (lv_at hl 4 rfl) ?_
        refine lv_aload_n hx hb dX9_remember_37 rfl (lv_at hl 0 rfl) ?_
        obtain ⟨v38, e38, hf⟩ := zb hf
        refine zr_gr (ci := 9) (k := 40) (C := RX9) (T := TX9) (N := 54) hx hb hts hi_X9_remember_9 hown hK hP e38 rfl rfl (by decide) (by decide) (hts (.fieldLink RX9 99 "BoundaryAnalyzerModel" "undoPuts" "[Z") (List.mem_of_getElem? (i := 2) rfl)) dX9_remember_38 ?_
        refine lv_iload hx hb dX9_remember_41 (lv_at hl 4 rfl) ?_
        refine lv_iconst (v := (1 : Int32)) hx hb dX9_remember_43 (by decide) ?_
        refine lv_iadd hx hb dX9_remember_44 ?_
        obtain ⟨v45, e45, hf⟩ := zb hf
        refine zr_az hx hb hK hP e45 dX9_remember_45 ?_
        obtain ⟨M46, e46, hf⟩ := zb hf
        refine zr_sz hx hb hK hP hS e46 dX9_remember_46 (fun H locs hP _ hS => ?_)
        refine lv_aload_n hx hb dX9_remember_47 rfl (lv_at hl 0 rfl) ?_
        obtain ⟨v48, e48, hf⟩ := zb hf
        refine zr_gr (ci := 9) (k := 41) (C := RX9) (T := TX9) (N := 54) hx hb hts hi_X9_remember_9 hown hK hP e48 rfl rfl (by decide) (by decide) (hts (.fieldLink RX9 102 "BoundaryAnalyzerModel" "undoAt" "[I") (List.mem_of_getElem? (i := 3) rfl)) dX9_remember_48 ?_
        refine lv_iload hx hb dX9_remember_51 (lv_at hl 4 rfl) ?_
        refine lv_aload_n hx hb dX9_remember_53 rfl (lv_at hl 0 rfl) ?_
        obtain ⟨v54, e54, hf⟩ := zb hf
        refine zr_gr (ci := 9) (k := 41) (C := RX9) (T := TX9) (N := 54) hx hb hts hi_X9_remember_9 hown hK hP e54 rfl rfl (by decide) (by decide) (hts (.fieldLink RX9 102 "BoundaryAnalyzerModel" "undoAt" "[I") (List.mem_of_getElem? (i := 3) rfl)) dX9_remember_54 ?_
        refine lv_iload hx hb dX9_remember_57 (lv_at hl 4 rfl) ?_
        refine lv_iconst (v := (1 : Int32)) hx hb dX9_remember_59 (by decide) ?_
        refine lv_iadd hx hb dX9_remember_60 ?_
        obtain ⟨v61, e61, hf⟩ := zb hf
        refine zr_ai hx hb hK hP e61 dX9_remember_61 ?_
        obtain ⟨M62, e62, hf⟩ := zb hf
        refine zr_si hx hb hK hP hS e62 dX9_remember_62 (fun H locs hP _ hS => ?_)
        refine lv_aload_n hx hb dX9_remember_63 rfl (lv_at hl 0 rfl) ?_
        obtain ⟨v64, e64, hf⟩ := zb hf
        refine zr_gr (ci := 9) (k := 42) (C := RX9) (T := TX9) (N := 54) hx hb hts hi_X9_remember_9 hown hK hP e64 rfl rfl (by decide) (by decide) (hts (.fieldLink RX9 105 "BoundaryAnalyzerModel" "undoLong" "[I") (List.mem_of_getElem? (i := 4) rfl)) dX9_remember_64 ?_
        refine lv_iload hx hb dX9_remember_67 (lv_at hl 4 rfl) ?_
        refine lv_aload_n hx hb dX9_remember_69 rfl (lv_at hl 0 rfl) ?_
        obtain ⟨v70, e70, hf⟩ := zb hf
        refine zr_gr (ci := 9) (k := 42) (C := RX9) (T := TX9) (N := 54) hx hb hts hi_X9_remember_9 hown hK hP e70 rfl rfl (by decide) (by decide) (hts (.fieldLink RX9 105 "BoundaryAnalyzerModel" "undoLong" "[I") (List.mem_of_getElem? (i := 4) rfl)) dX9_remember_70 ?_
        refine lv_iload hx hb dX9_remember_73 (lv_at hl 4 rfl) ?_
        refine lv_iconst (v := (1 : Int32)) hx hb dX9_remember_75 (by decide) ?_
        refine lv_iadd hx hb dX9_remember_76 ?_
        obtain ⟨v77, e77, hf⟩ := zb hf
        refine zr_ai hx hb hK hP e77 dX9_remember_77 ?_
        obtain ⟨M78, e78, hf⟩ := zb hf
        refine zr_si hx hb hK hP hS e78 dX9_remember_78 (fun H locs hP _ hS => ?_)
        refine lv_iconst (v := (0 : Int32)) hx hb dX9_remember_79 (by decide) ?_
        refine lv_istore (lv' := [(5, .int (0 : Int32)), (0, .ref (b + h0)), (1, .int x1), (2, .int x2), (3, .int x3), (4, .int x4)]) hx hb dX9_remember_80 hl (by decide) rfl (fun ls hl => ?_)
        exact L82 _ _ _ _ _ _ _ _ _ _ _ hf hP hS (lv_sub hl [1, 2, 3, 4, 5, 0] rfl)
  unfold fX9_remember at hf
  refine lv_aload_n hx hb dX9_remember_0 rfl (lv_at hl 0 rfl) ?_
  obtain ⟨v1, e1, hf⟩ := zb hf
  refine zr_gi (ci := 9) (k := 39) (C := RX9) (T := TX9) (N := 54) hx hb hts hi_X9_remember_9 hown hK hP e1 rfl rfl (by decide) (by decide) (hts (.fieldLink RX9 260 "BoundaryAnalyzerModel" "undoMany" "I") (List.mem_of_getElem? (i := 1) rfl)) dX9_remember_1 ?_
  refine lv_bipush (v := (30 : Int32)) hx hb dX9_remember_4 (by decide) ?_
  refine lv_icmp_ne (tgt := 130) hx hb dX9_remember_6 (by decide) (fun c6 => ?_) (fun c6 => ?_)
  · have hf := (if_neg c6).symm.trans hf
    exact J130 _ _ _ _ _ _ _ _ hf hP hS (lv_sub hl [0, 1, 2, 3] rfl)
  · have hf := (if_pos c6).symm.trans hf
    refine lv_aload_n hx hb dX9_remember_9 rfl (lv_at hl 0 rfl) ?_
    refine lv_dup hx hb dX9_remember_10 rfl ?_
    obtain ⟨v11, e11, hf⟩ := zb hf
    refine zr_gi (ci := 9) (k := 39) (C := RX9) (T := TX9) (N := 54) hx hb hts hi_X9_remember_9 hown hK hP e11 rfl rfl (by decide) (by decide) (hts (.fieldLink RX9 260 "BoundaryAnalyzerModel" "undoMany" "I") (List.mem_of_getElem? (i := 1) rfl)) dX9_remember_11 ?_
    refine lv_iconst (v := (1 : Int32)) hx hb dX9_remember_14 (by decide) ?_
    refine lv_isub hx hb dX9_remember_15 ?_
    obtain ⟨M16, e16, hf⟩ := zb hf
    refine zr_pi (ci := 9) (k := 39) (C := RX9) (T := TX9) (N := 54) hx hb hts hi_X9_remember_9 tyX9 tyX9_ok nmX9 hown hK hP hS e16 rfl rfl (by decide) (by decide) (hts (.fieldLink RX9 260 "BoundaryAnalyzerModel" "undoMany" "I") (List.mem_of_getElem? (i := 1) rfl)) rfl (tyX9_ok 39 (by decide)) dX9_remember_16 (fun H locs hP _ hS => ?_)
    refine lv_iconst (v := (0 : Int32)) hx hb dX9_remember_19 (by decide) ?_
    refine lv_istore (lv' := [(4, .int (0 : Int32)), (0, .ref (b + p0)), (1, .int p1), (2, .int p2), (3, .int p3)]) hx hb dX9_remember_20 hl (by decide) rfl (fun ls hl => ?_)
    exact L22 _ _ _ _ _ _ _ _ _ _ hf hP hS (lv_sub hl [1, 2, 3, 4, 0] rfl)
