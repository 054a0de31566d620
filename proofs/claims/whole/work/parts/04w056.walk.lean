theorem hi_X9_repair_9 : ∀ w ∈ wsX90, w ∈ wsX9_repair := fun _ h => List.mem_cons_of_mem _ (List.mem_append_right _ h)
set_option maxHeartbeats 4000000 in
set_option maxRecDepth 100000 in
theorem k_X9_repair (l : Launch) (D : va_G) (cy : Nat → ClassId) (b : Nat) (M0 : Mem) (p0 : Nat) (p1 : Int32) (p2 : Int32) (p3 : Int32) (rr : Mem) (hf : fX9_repair M0 p0 p1 p2 p3 = some rr) : Met l yX9_repair wsX9_repair ({ frames := 4, cells := 0, slots := 0, locals := 104 } : Room) (zPc D cy b M0 [.ref (b + p0), .int p1, .int p2, .int p3]) (zQv D cy b rr) 0 0 (zA b) := by
  refine Met.ofW (cc := cX9_repair) (maxL := 7) (ret := none) (by decide) rfl ?_
  intro p e s m args below meth c s₁ B hml hv
  obtain ⟨rfl, hP, hK⟩ := hv
  have hx := B.exec
  have hb := B.bytes
  have hr := B.returns
  have hts := atoms_spec (ws := wsX9_repair) B.pre
  have hown : s.vm.findClass RX9 = some m.cls := findClass_of_methodNamed B.named
  have hlocks := B.notSynchronized
  have hS : va_S (zA b) s.heap s.heap [] := va_S.rf
  have hl := lv_entry ([.ref (b + p0), .int p1, .int p2, .int p3]) (n := 7) (Nat.le_of_ble_eq_true rfl)
  rw [lg_entry_eq]
  generalize (lg_sl ([.ref (b + p0), .int p1, .int p2, .int p3]) ++ List.replicate (7 - (lg_sl ([.ref (b + p0), .int p1, .int p2, .int p3])).length) Slot.unset).toArray = ls at hl ⊢
  have hl : lv_has ls 7 [(0, .ref (b + p0)), (1, .int p1), (2, .int p2), (3, .int p3)] := hl
  have L139 : ∀ (n139 : Nat) (M : Mem) (H : Heap) (locs : List Loc) (ls : Array Slot) (h0 : Nat) (x1 : Int32) (x3 : Int32) (x4 : Int32) (x5 : Int32) (x6 : Int32), fX9_repair_139L  n139 M h0 x1 x3 x4 x5 x6 = some rr → zH D cy b M H → va_S (zA b) s.heap H locs → lv_has ls 7 [(0, .ref (b + h0)), (1, .int x1), (3, .int x3), (4, .int x4), (5, .int x5), (6, .int x6)] → W p l e (headSpec wsX9_repair ({ frames := 4, cells := 0, slots := 0, locals := 104 } : Room)).room s m ([.ref (b + p0), .int p1, .int p2, .int p3] : List Value).toArray below meth c H locs 0 0 (MQ below (zQv D cy b rr) ([.ref (b + p0), .int p1, .int p2, .int p3] : List Value).toArray s 0 0 (zA b)) (F0 m 139 ls []) := by
    intro n139
    induction n139 with
    | zero =>
      intro M H locs ls h0 x1 x3 x4 x5 x6 hf
      have hf : (none : Option Mem) = some rr := hf
      cases hf
    | succ n139 ih139 =>
      have J183 : ∀ (M : Mem) (H : Heap) (locs : List Loc) (ls : Array Slot) (h0 : Nat) (x1 : Int32) (x3 : Int32) (x4 : Int32) (x5 : Int32) (x6 : Int32), fX9_repair_183 (fX9_repair_139L  n139) M h0 x1 x3 x4 x5 x6 = some rr → zH D cy b M H → va_S (zA b) s.heap H locs → lv_has ls 7 [(0, .ref (b + h0)), (1, .int x1), (3, .int x3), (4, .int x4), (5, .int x5), (6, .int x6)] → W p l e (headSpec wsX9_repair ({ frames := 4, cells := 0, slots := 0, locals := 104 } : Room)).room s m ([.ref (b + p0), .int p1, .int p2, .int p3] : List Value).toArray below meth c H locs 0 0 (MQ below (zQv D cy b rr) ([.ref (b + p0), .int p1, .int p2, .int p3] : List Value).toArray s 0 0 (zA b)) (F0 m 183 ls []) := by
        intro M H locs ls h0 x1 x3 x4 x5 x6 hf hP hS hl
        unfold fX9_repair_183 at hf
        obtain ⟨x6_183, q183, hf⟩ := zlt_s hf
        refine lv_iinc (v := x6_183) (lv' := [(6, .int x6_183), (0, .ref (b + h0)), (1, .int x1), (3, .int x3), (4, .int x4), (5, .int x5)]) hx hb dX9_repair_183 hl (k := 5) rfl (by rw [← q183]; rfl) (by decide) rfl (fun ls hl => ?_)
        refine lv_goto (tgt := 139) hx hb dX9_repair_186 (by decide) ?_
        exact ih139 _ _ _ _ _ _ _ _ _ _ hf hP hS (lv_sub hl [1, 2, 3, 4, 5, 0] rfl)
      intro M H locs ls h0 x1 x3 x4 x5 x6 hf hP hS hl
      have hf : fX9_repair_139  (fX9_repair_139L  n139) M h0 x1 x3 x4 x5 x6 = some rr := hf
      unfold fX9_repair_139 at hf
      refine lv_iload hx hb dX9_repair_139 (lv_at hl 5 rfl) ?_
      refine lv_iload hx hb dX9_repair_141 (lv_at hl 3 rfl) ?_
      refine lv_icmp_ge (tgt := 189) hx hb dX9_repair_143 (by decide) (fun c143 => ?_) (fun c143 => ?_)
      · have hf := (if_pos c143).symm.trans hf
        exact zret_v hx hb hr hlocks hf hP hS dX9_repair_189
      · have hf := (if_neg c143).symm.trans hf
        refine lv_aload_n hx hb dX9_repair_146 rfl (lv_at hl 0 rfl) ?_
        obtain ⟨v147, e147, hf⟩ := zb hf
        refine zr_gr (ci := 9) (k := 37) (C := RX9) (T := TX9) (N := 54) hx hb hts hi_X9_repair_9 hown hK hP e147 rfl rfl (by decide) (by decide) (hts (.fieldLink RX9 93 "BoundaryAnalyzerModel" "old" "[I") (List.mem_of_getElem? (i := 2) rfl)) dX9_repair_147 ?_
        refine lv_iload hx hb dX9_repair_150 (lv_at hl 5 rfl) ?_
        obtain ⟨v152, e152, hf⟩ := zb hf
        refine zr_ai hx hb hK hP e152 dX9_repair_152 ?_
        refine lv_iload_n hx hb dX9_repair_153 rfl (lv_at hl 2 rfl) ?_
        refine lv_iadd hx hb dX9_repair_154 ?_
        refine lv_iload hx hb dX9_repair_155 (lv_at hl 4 rfl) ?_
        refine lv_icmp_le (tgt := 183) hx hb dX9_repair_157 (by decide) (fun c157 => ?_) (fun c157 => ?_)
        · have hf := (if_pos c157).symm.trans hf
          exact J183 _ _ _ _ _ _ _ _ _ _ hf hP hS (lv_sub hl [0, 1, 2, 3, 4, 5] rfl)
        · have hf := (if_neg c157).symm.trans hf
          refine lv_iload hx hb dX9_repair_160 (lv_at hl 4 rfl) ?_
          refine lv_aload_n hx hb dX9_repair_162 rfl (lv_at hl 0 rfl) ?_
          obtain ⟨v163, e163, hf⟩ := zb hf
          refine zr_gi (ci := 9) (k := 31) (C := RX9) (T := TX9) (N := 54) hx hb hts hi_X9_repair_9 hown hK hP e163 rfl rfl (by decide) (by decide) (hts (.fieldLink RX9 207 "BoundaryAnalyzerModel" "length" "I") (List.mem_of_getElem? (i := 5) rfl)) dX9_repair_163 ?_
          refine lv_icmp_ge (tgt := 183) hx hb dX9_repair_166 (by decide) (fun c166 => ?_) (fun c166 => ?_)
          · have hf := (if_pos c166).symm.trans hf
            exact J183 _ _ _ _ _ _ _ _ _ _ hf hP hS (lv_sub hl [0, 1, 2, 3, 4, 5] rfl)
          · have hf := (if_neg c166).symm.trans hf
            refine lv_aload_n hx hb dX9_repair_169 rfl (lv_at hl 0 rfl) ?_
            refine lv_iload_n hx hb dX9_repair_170 rfl (lv_at hl 1 rfl) ?_
            refine lv_aload_n hx hb dX9_repair_171 rfl (lv_at hl 0 rfl) ?_
            obtain ⟨v172, e172, hf⟩ := zb hf
            refine zr_gr (ci := 9) (k := 37) (C := RX9) (T := TX9) (N := 54) hx hb hts hi_X9_repair_9 hown hK hP e172 rfl rfl (by decide) (by decide) (hts (.fieldLink RX9 93 "BoundaryAnalyzerModel" "old" "[I") (List.mem_of_getElem? (i := 2) rfl)) dX9_repair_172 ?_
            refine lv_iload hx hb dX9_repair_175 (lv_at hl 5 rfl) ?_
            obtain ⟨v177, e177, hf⟩ := zb hf
            refine zr_ai hx hb hK hP e177 dX9_repair_177 ?_
            refine lv_iload_n hx hb dX9_repair_178 rfl (lv_at hl 2 rfl) ?_
            refine lv_iadd hx hb dX9_repair_179 ?_
            obtain ⟨u180, t180, hf⟩ := zb hf
            obtain ⟨M180, e180, hf⟩ := zb hf
            refine zc_v hS (va_runV (As := [.int x1, .int (v177 + x3)]) (rest := []) ⟨hx, hb, hml, hown, hts⟩ (k_X9_append l D cy b M h0 x1 (v177 + x3) M180 e180) (cwV 2 hts gX9_repair_X9_append rfl rfl rfl (by decide +kernel) ⟨Nat.le_of_ble_eq_true rfl, Nat.le_of_ble_eq_true rfl⟩) (zp_V _ hK hP t180 (T := TX9) (N := 54) rfl (by decide)) rfl rfl hl.1 rfl (lv_room (Nat.le_of_ble_eq_true rfl)) dX9_repair_180 ⟨Nat.zero_le _, Nat.zero_le _⟩) (fun H locs hP hS => ?_)
            exact J183 _ _ _ _ _ _ _ _ _ _ hf hP hS (lv_sub hl [0, 1, 2, 3, 4, 5] rfl)
  have J136 : ∀ (M : Mem) (H : Heap) (locs : List Loc) (ls : Array Slot) (h0 : Nat) (x1 : Int32) (x3 : Int32) (x4 : Int32) (x5 : Int32), fX9_repair_136  M h0 x1 x3 x4 x5 = some rr → zH D cy b M H → va_S (zA b) s.heap H locs → lv_has ls 7 [(0, .ref (b + h0)), (1, .int x1), (3, .int x3), (4, .int x4), (5, .int x5)] → W p l e (headSpec wsX9_repair ({ frames := 4, cells := 0, slots := 0, locals := 104 } : Room)).room s m ([.ref (b + p0), .int p1, .int p2, .int p3] : List Value).toArray below meth c H locs 0 0 (MQ below (zQv D cy b rr) ([.ref (b + p0), .int p1, .int p2, .int p3] : List Value).toArray s 0 0 (zA b)) (F0 m 136 ls []) := by
    intro M H locs ls h0 x1 x3 x4 x5 hf hP hS hl
    unfold fX9_repair_136 at hf
    refine lv_iconst (v := (0 : Int32)) hx hb dX9_repair_136 (by decide) ?_
    refine lv_istore (lv' := [(6, .int (0 : Int32)), (0, .ref (b + h0)), (1, .int x1), (3, .int x3), (4, .int x4), (5, .int x5)]) hx hb dX9_repair_137 hl (by decide) rfl (fun ls hl => ?_)
    exact L139 _ _ _ _ _ _ _ _ _ _ _ hf hP hS (lv_sub hl [1, 2, 3, 4, 5, 0] rfl)
  have L72 : ∀ (n72 : Nat) (M : Mem) (H : Heap) (locs : List Loc) (ls : Array Slot) (h0 : Nat) (x1 : Int32) (x2 : Int32) (x3 : Int32) (x4 : Int32) (x5 : Int32), fX9_repair_72L  n72 M h0 x1 x2 x3 x4 x5 = some rr → zH D cy b M H → va_S (zA b) s.heap H locs → lv_has ls 7 [(0, .ref (b + h0)), (1, .int x1), (2, .int x2), (3, .int x3), (4, .int x4), (5, .int x5)] → W p l e (headSpec wsX9_repair ({ frames := 4, cells := 0, slots := 0, locals := 104 } : Room)).room s m ([.ref (b + p0), .int p1, .int p2, .int p3] : List Value).toArray below meth c H locs 0 0 (MQ below (zQv D cy b rr) ([.ref (b + p0), .int p1, .int p2, .int p3] : List Value).toArray s 0 0 (zA b)) (F0 m 72 ls []) := by
    intro n72
    induction n72 with
    | zero =>
      intro M H locs ls h0 x1 x2 x3 x4 x5 hf
      have hf : (none : Option Mem) = some rr := hf
      cases hf
    | succ n72 ih72 =>
      have J104 : ∀ (M : Mem) (H : Heap) (locs : List Loc) (ls : Array Slot) (h0 : Nat) (x1 : Int32) (x2 : Int32) (x3 : Int32) (x4 : Int32) (x5 : Int32), fX9_repair_104 (fX9_repair_72L  n72) M h0 x1 x2 x3 x4 x5 = some rr → zH D cy b M H → va_S (zA b) s.heap H locs → lv_has ls 7 [(0, .ref (b + h0)), (1, .int x1), (2, .int x2), (3, .int x3), (4, .int x4), (5, .int x5)] → W p l e (headSpec wsX9_repair ({ frames := 4, cells := 0, slots := 0, locals := 104 } : Room)).room s m ([.ref (b + p0), .int p1, .int p2, .int p3] : List Value).toArray below meth c H locs 0 0 (MQ below (zQv D cy b rr) ([.ref (b + p0), .int p1, .int p2, .int p3] : List Value).toArray s 0 0 (zA b)) (F0 m 104 ls []) := by
        intro M H locs ls h0 x1 x2 x3 x4 x5 hf hP hS hl
        unfold fX9_repair_104 at hf
        refine lv_iload hx hb dX9_repair_104 (lv_at hl 5 rfl) ?_
        refine lv_aload_n hx hb dX9_repair_106 rfl (lv_at hl 0 rfl) ?_
        refine lv_iload_n hx hb dX9_repair_107 rfl (lv_at hl 1 rfl) ?_
        refine lv_iload hx hb dX9_repair_108 (lv_at hl 5 rfl) ?_
        obtain ⟨u110, t110, hf⟩ := zb hf
        obtain ⟨r110, e110, hf⟩ := zb hf
        refine zc_i hS (va_runV (As := [.int x1, .int x5]) (rest := [.int x5]) ⟨hx, hb, hml, hown, hts⟩ (k_X9_segmentAt l D cy b M h0 x1 x5 r110 e110) (cwV 2 hts gX9_repair_X9_segmentAt rfl rfl rfl (by decide +kernel) ⟨Nat.le_of_ble_eq_true rfl, Nat.le_of_ble_eq_true rfl⟩) (zp_V _ hK hP t110 (T := TX9) (N := 54) rfl (by decide)) rfl rfl hl.1 rfl (lv_room (Nat.le_of_ble_eq_true rfl)) dX9_repair_110 ⟨Nat.zero_le _, Nat.zero_le _⟩) (fun H locs hP hS => ?_)
        refine lv_iadd hx hb dX9_repair_113 ?_
        obtain ⟨x5_114, q114, hf⟩ := zlt_s hf
        refine zt q114 ?_
        refine lv_istore (lv' := [(5, .int x5_114), (0, .ref (b + h0)), (1, .int x1), (2, .int x2), (3, .int x3), (4, .int x4)]) hx hb dX9_repair_114 hl (by decide) rfl (fun ls hl => ?_)
        refine lv_aload_n hx hb dX9_repair_116 rfl (lv_at hl 1 rfl) ?_
        refine lv_iload_n hx hb dX9_repair_117 rfl (lv_at hl 2 rfl) ?_
        refine lv_iload hx hb dX9_repair_118 (lv_at hl 0 rfl) ?_
        obtain ⟨u120, t120, hf⟩ := zb hf
        obtain ⟨M120, e120, hf⟩ := zb hf
        refine zc_v hS (va_runV (As := [.int x1, .int x5_114]) (rest := []) ⟨hx, hb, hml, hown, hts⟩ (k_X9_append l D cy b r110.2 h0 x1 x5_114 M120 e120) (cwV 2 hts gX9_repair_X9_append rfl rfl rfl (by decide +kernel) ⟨Nat.le_of_ble_eq_true rfl, Nat.le_of_ble_eq_true rfl⟩) (zp_V _ hK hP t120 (T := TX9) (N := 54) rfl (by decide)) rfl rfl hl.1 rfl (lv_room (Nat.le_of_ble_eq_true rfl)) dX9_repair_120 ⟨Nat.zero_le _, Nat.zero_le _⟩) (fun H locs hP hS => ?_)
        refine lv_aload_n hx hb dX9_repair_123 rfl (lv_at hl 1 rfl) ?_
        obtain ⟨v124, e124, hf⟩ := zb hf
        refine zr_gr (ci := 9) (k := 35) (C := RX9) (T := TX9) (N := 54) hx hb hts hi_X9_repair_9 hown hK hP e124 rfl rfl (by decide) (by decide) (hts (.fieldLink RX9 87 "BoundaryAnalyzerModel" "workOf" "[I") (List.mem_of_getElem? (i := 4) rfl)) dX9_repair_124 ?_
        refine lv_iload_n hx hb dX9_repair_127 rfl (lv_at hl 2 rfl) ?_
        refine lv_dup2_11 hx hb dX9_repair_128 rfl rfl ?_
        obtain ⟨v129, e129, hf⟩ := zb hf
        refine zr_ai hx hb hK hP e129 dX9_repair_129 ?_
        refine lv_iconst (v := (1 : Int32)) hx hb dX9_repair_130 (by decide) ?_
        refine lv_iadd hx hb dX9_repair_131 ?_
        obtain ⟨M132, e132, hf⟩ := zb hf
        refine zr_si hx hb hK hP hS e132 dX9_repair_132 (fun H locs hP _ hS => ?_)
        refine lv_goto (tgt := 72) hx hb dX9_repair_133 (by decide) ?_
        exact ih72 _ _ _ _ _ _ _ _ _ _ hf hP hS (lv_sub hl [1, 2, 3, 4, 5, 0] rfl)
      intro M H locs ls h0 x1 x2 x3 x4 x5 hf hP hS hl
      have hf : fX9_repair_72  (fX9_repair_72L  n72) M h0 x1 x2 x3 x4 x5 = some rr := hf
      unfold fX9_repair_72 at hf
      refine lv_iload hx hb dX9_repair_72 (lv_at hl 5 rfl) ?_
      refine lv_aload_n hx hb dX9_repair_74 rfl (lv_at hl 0 rfl) ?_
      obtain ⟨v75, e75, hf⟩ := zb hf
      refine zr_gi (ci := 9) (k := 31) (C := RX9) (T := TX9) (N := 54) hx hb hts hi_X9_repair_9 hown hK hP e75 rfl rfl (by decide) (by decide) (hts (.fieldLink RX9 207 "BoundaryAnalyzerModel" "length" "I") (List.mem_of_getElem? (i := 5) rfl)) dX9_repair_75 ?_
      refine lv_icmp_ge (tgt := 136) hx hb dX9_repair_78 (by decide) (fun c78 => ?_) (fun c78 => ?_)
      · have hf := (if_pos c78).symm.trans hf
        exact J136 _ _ _ _ _ _ _ _ _ hf hP hS (lv_sub hl [0, 1, 3, 4, 5] rfl)
      · have hf := (if_neg c78).symm.trans hf
        refine lv_iload hx hb dX9_repair_81 (lv_at hl 5 rfl) ?_
        refine lv_iload_n hx hb dX9_repair_83 rfl (lv_at hl 2 rfl) ?_
        refine lv_icmp_lt (tgt := 104) hx hb dX9_repair_84 (by decide) (fun c84 => ?_) (fun c84 => ?_)
        · have hf := (if_pos c84).symm.trans hf
          exact J104 _ _ _ _ _ _ _ _ _ _ hf hP hS (lv_sub hl [0, 1, 2, 3, 4, 5] rfl)
        · have hf := (if_neg c84).symm.trans hf
          refine lv_aload_n hx hb dX9_repair_87 rfl (lv_at hl 0 rfl) ?_
          refine lv_aload_n hx hb dX9_repair_88 rfl (lv_at hl 0 rfl) ?_
          obtain ⟨v89, e89, hf⟩ := zb hf
          refine zr_gr (ci := 9) (k := 37) (C := RX9) (T := TX9) (N := 54) hx hb hts hi_X9_repair_9 hown hK hP e89 rfl rfl (by decide) (by decide) (hts (.fieldLink RX9 93 "BoundaryAnalyzerModel" "old" "[I") (List.mem_of_getElem? (i := 2) rfl)) dX9_repair_89 ?_
          refine lv_iload hx hb dX9_repair_92 (lv_at hl 4 rfl) ?_
          refine lv_iload hx hb dX9_repair_94 (lv_at hl 5 rfl) ?_
          refine lv_iload_n hx hb dX9_repair_96 rfl (lv_at hl 3 rfl) ?_
          refine lv_isub hx hb dX9_repair_97 ?_
          obtain ⟨u98, t98, hf⟩ := zb hf
          obtain ⟨r98, e98, hf⟩ := zb hf
          refine zc_i hS (va_runV (As := [.ref (b + v89), .int x4, .int (x5 - x3)]) (rest := []) ⟨hx, hb, hml, hown, hts⟩ (k_X9_wasRaw l D cy b M h0 v89 x4 (x5 - x3) r98 e98) (cwV 3 hts gX9_repair_X9_wasRaw rfl rfl rfl (by decide +kernel) ⟨Nat.le_of_ble_eq_true rfl, Nat.le_of_ble_eq_true rfl⟩) (zp_V _ hK hP t98 (T := TX9) (N := 54) rfl (by decide)) rfl rfl hl.1 rfl (lv_room (Nat.le_of_ble_eq_true rfl)) dX9_repair_98 ⟨Nat.zero_le _, Nat.zero_le _⟩) (fun H locs hP hS => ?_)
          refine lv_if_ne (tgt := 136) hx hb dX9_repair_101 (by decide) (fun c101 => ?_) (fun c101 => ?_)
          · have hf := (if_neg c101).symm.trans hf
            exact J136 _ _ _ _ _ _ _ _ _ hf hP hS (lv_sub hl [0, 1, 3, 4, 5] rfl)
          · have hf := (if_pos c101).symm.trans hf
            exact J104 _ _ _ _ _ _ _ _ _ _ hf hP hS (lv_sub hl [0, 1, 2, 3, 4, 5] rfl)
  have L11 : ∀ (n11 : Nat) (M : Mem) (H : Heap) (locs : List Loc) (ls : Array Slot) (h0 : Nat) (x1 : Int32) (x2 : Int32) (x3 : Int32) (x4 : Int32) (x5 : Int32), fX9_repair_11L  n11 M h0 x1 x2 x3 x4 x5 = some rr → zH D cy b M H → va_S (zA b) s.heap H locs → lv_has ls 7 [(0, .ref (b + h0)), (1, .int x1), (2, .int x2), (3, .int x3), (4, .int x4), (5, .int x5)] → W p l e (headSpec wsX9_repair ({ frames := 4, cells := 0, slots := 0, locals := 104 } : Room)).room s m ([.ref (b + p0), .int p1, .int p2, .int p3] : List Value).toArray below meth c H locs 0 0 (MQ below (zQv D cy b rr) ([.ref (b + p0), .int p1, .int p2, .int p3] : List Value).toArray s 0 0 (zA b)) (F0 m 11 ls []) := by
    intro n11
    induction n11 with
    | zero =>
      intro M H locs ls h0 x1 x2 x3 x4 x5 hf
      have hf : (none : Option Mem) = some rr := hf
      cases hf
    | succ n11 ih11 =>
      intro M H locs ls h0 x1 x2 x3 x4 x5 hf hP hS hl
      have hf : fX9_repair_11  (fX9_repair_11L  n11) M h0 x1 x2 x3 x4 x5 = some rr := hf
      unfold fX9_repair_11 at hf
      refine lv_iload hx hb dX9_repair_11 (lv_at hl 5 rfl) ?_
      refine lv_iload hx hb dX9_repair_13 (lv_at hl 4 rfl) ?_
      refine lv_icmp_ge (tgt := 38) hx hb dX9_repair_15 (by decide) (fun c15 => ?_) (fun c15 => ?_)
      · have hf := (if_pos c15).symm.trans hf
        refine lv_aload_n hx hb dX9_repair_38 rfl (lv_at hl 0 rfl) ?_
        obtain ⟨v39, e39, hf⟩ := zb hf
        refine zr_gr (ci := 9) (k := 33) (C := RX9) (T := TX9) (N := 54) hx hb hts hi_X9_repair_9 hown hK hP e39 rfl rfl (by decide) (by decide) (hts (.fieldLink RX9 81 "BoundaryAnalyzerModel" "rawMany" "[I") (List.mem_of_getElem? (i := 1) rfl)) dX9_repair_39 ?_
        refine lv_iload_n hx hb dX9_repair_42 rfl (lv_at hl 1 rfl) ?_
        refine lv_aload_n hx hb dX9_repair_43 rfl (lv_at hl 0 rfl) ?_
        obtain ⟨v44, e44, hf⟩ := zb hf
        refine zr_gr (ci := 9) (k := 36) (C := RX9) (T := TX9) (N := 54) hx hb hts hi_X9_repair_9 hown hK hP e44 rfl rfl (by decide) (by decide) (hts (.fieldLink RX9 90 "BoundaryAnalyzerModel" "startOf" "[I") (List.mem_of_getElem? (i := 3) rfl)) dX9_repair_44 ?_
        refine lv_iload_n hx hb dX9_repair_47 rfl (lv_at hl 1 rfl) ?_
        obtain ⟨v48, e48, hf⟩ := zb hf
        refine zr_ai hx hb hK hP e48 dX9_repair_48 ?_
        refine lv_iconst (v := (1 : Int32)) hx hb dX9_repair_49 (by decide) ?_
        refine lv_iadd hx hb dX9_repair_50 ?_
        obtain ⟨M51, e51, hf⟩ := zb hf
        refine zr_si hx hb hK hP hS e51 dX9_repair_51 (fun H locs hP _ hS => ?_)
        refine lv_aload_n hx hb dX9_repair_52 rfl (lv_at hl 0 rfl) ?_
        obtain ⟨v53, e53, hf⟩ := zb hf
        refine zr_gr (ci := 9) (k := 35) (C := RX9) (T := TX9) (N := 54) hx hb hts hi_X9_repair_9 hown hK hP e53 rfl rfl (by decide) (by decide) (hts (.fieldLink RX9 87 "BoundaryAnalyzerModel" "workOf" "[I") (List.mem_of_getElem? (i := 4) rfl)) dX9_repair_53 ?_
        refine lv_iload_n hx hb dX9_repair_56 rfl (lv_at hl 1 rfl) ?_
        refine lv_iconst (v := (0 : Int32)) hx hb dX9_repair_57 (by decide) ?_
        obtain ⟨M58, e58, hf⟩ := zb hf
        refine zr_si hx hb hK hP hS e58 dX9_repair_58 (fun H locs hP _ hS => ?_)
        refine lv_aload_n hx hb dX9_repair_59 rfl (lv_at hl 0 rfl) ?_
        refine lv_iload_n hx hb dX9_repair_60 rfl (lv_at hl 1 rfl) ?_
        refine lv_aload_n hx hb dX9_repair_61 rfl (lv_at hl 0 rfl) ?_
        obtain ⟨v62, e62, hf⟩ := zb hf
        refine zr_gr (ci := 9) (k := 36) (C := RX9) (T := TX9) (N := 54) hx hb hts hi_X9_repair_9 hown hK hP e62 rfl rfl (by decide) (by decide) (hts (.fieldLink RX9 90 "BoundaryAnalyzerModel" "startOf" "[I") (List.mem_of_getElem? (i := 3) rfl)) dX9_repair_62 ?_
        refine lv_iload_n hx hb dX9_repair_65 rfl (lv_at hl 1 rfl) ?_
        obtain ⟨v66, e66, hf⟩ := zb hf
        refine zr_ai hx hb hK hP e66 dX9_repair_66 ?_
        obtain ⟨u67, t67, hf⟩ := zb hf
        obtain ⟨r67, e67, hf⟩ := zb hf
        refine zc_i hS (va_runV (As := [.int x1, .int v66]) (rest := []) ⟨hx, hb, hml, hown, hts⟩ (k_X9_raw l D cy b M58 h0 x1 v66 r67 e67) (cwV 2 hts gX9_repair_X9_raw rfl rfl rfl (by decide +kernel) ⟨Nat.le_of_ble_eq_true rfl, Nat.le_of_ble_eq_true rfl⟩) (zp_V _ hK hP t67 (T := TX9) (N := 54) rfl (by decide)) rfl rfl hl.1 rfl (lv_room (Nat.le_of_ble_eq_true rfl)) dX9_repair_67 ⟨Nat.zero_le _, Nat.zero_le _⟩) (fun H locs hP hS => ?_)
        refine lv_istore (lv' := [(5, .int r67.1), (0, .ref (b + h0)), (1, .int x1), (2, .int x2), (3, .int x3), (4, .int x4)]) hx hb dX9_repair_70 hl (by decide) rfl (fun ls hl => ?_)
        exact L72 _ _ _ _ _ _ _ _ _ _ _ hf hP hS (lv_sub hl [1, 2, 3, 4, 5, 0] rfl)
      · have hf := (if_neg c15).symm.trans hf
        refine lv_aload_n hx hb dX9_repair_18 rfl (lv_at hl 0 rfl) ?_
        obtain ⟨v19, e19, hf⟩ := zb hf
        refine zr_gr (ci := 9) (k := 37) (C := RX9) (T := TX9) (N := 54) hx hb hts hi_X9_repair_9 hown hK hP e19 rfl rfl (by decide) (by decide) (hts (.fieldLink RX9 93 "BoundaryAnalyzerModel" "old" "[I") (List.mem_of_getElem? (i := 2) rfl)) dX9_repair_19 ?_
        refine lv_iload hx hb dX9_repair_22 (lv_at hl 5 rfl) ?_
        refine lv_aload_n hx hb dX9_repair_24 rfl (lv_at hl 0 rfl) ?_
        refine lv_iload_n hx hb dX9_repair_25 rfl (lv_at hl 1 rfl) ?_
        refine lv_iload hx hb dX9_repair_26 (lv_at hl 5 rfl) ?_
        obtain ⟨u28, t28, hf⟩ := zb hf
        obtain ⟨r28, e28, hf⟩ := zb hf
        refine zc_i hS (va_runV (As := [.int x1, .int x5]) (rest := [.int x5, .ref (b + v19)]) ⟨hx, hb, hml, hown, hts⟩ (k_X9_raw l D cy b M h0 x1 x5 r28 e28) (cwV 2 hts gX9_repair_X9_raw rfl rfl rfl (by decide +kernel) ⟨Nat.le_of_ble_eq_true rfl, Nat.le_of_ble_eq_true rfl⟩) (zp_V _ hK hP t28 (T := TX9) (N := 54) rfl (by decide)) rfl rfl hl.1 rfl (lv_room (Nat.le_of_ble_eq_true rfl)) dX9_repair_28 ⟨Nat.zero_le _, Nat.zero_le _⟩) (fun H locs hP hS => ?_)
        obtain ⟨M31, e31, hf⟩ := zb hf
        refine zr_si hx hb hK hP hS e31 dX9_repair_31 (fun H locs hP _ hS => ?_)
        obtain ⟨x5_32, q32, hf⟩ := zlt_s hf
        refine lv_iinc (v := x5_32) (lv' := [(5, .int x5_32), (0, .ref (b + h0)), (1, .int x1), (2, .int x2), (3, .int x3), (4, .int x4)]) hx hb dX9_repair_32 hl (k := 5) rfl (by rw [← q32]; rfl) (by decide) rfl (fun ls hl => ?_)
        refine lv_goto (tgt := 11) hx hb dX9_repair_35 (by decide) ?_
        exact ih11 _ _ _ _ _ _ _ _ _ _ hf hP hS (lv_sub hl [1, 2, 3, 4, 5, 0] rfl)
  unfold fX9_repair at hf
  refine lv_aload_n hx hb dX9_repair_0 rfl (lv_at hl 0 rfl) ?_
  obtain ⟨v1, e1, hf⟩ := zb hf
  refine zr_gr (ci := 9) (k := 33) (C := RX9) (T := TX9) (N := 54) hx hb hts hi_X9_repair_9 hown hK hP e1 rfl rfl (by decide) (by decide) (hts (.fieldLink RX9 81 "BoundaryAnalyzerModel" "rawMany" "[I") (List.mem_of_getElem? (i := 1) rfl)) dX9_repair_1 ?_
  refine lv_iload_n hx hb dX9_repair_4 rfl (lv_at hl 1 rfl) ?_
  obtain ⟨v5, e5, hf⟩ := zb hf
  refine zr_ai hx hb hK hP e5 dX9_repair_5 ?_
  refine lv_istore (lv' := [(4, .int v5), (0, .ref (b + p0)), (1, .int p1), (2, .int p2), (3, .int p3)]) hx hb dX9_repair_6 hl (by decide) rfl (fun ls hl => ?_)
  refine lv_iconst (v := (0 : Int32)) hx hb dX9_repair_8 (by decide) ?_
  refine lv_istore (lv' := [(5, .int (0 : Int32)), (4, .int v5), (0, .ref (b + p0)), (1, .int p1), (2, .int p2), (3, .int p3)]) hx hb dX9_repair_9 hl (by decide) rfl (fun ls hl => ?_)
  exact L11 _ _ _ _ _ _ _ _ _ _ _ hf hP hS (lv_sub hl [2, 3, 4, 5, 1, 0] rfl)
