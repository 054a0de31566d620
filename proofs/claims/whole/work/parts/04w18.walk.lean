theorem hi_X9_repair_9 : ∀ w ∈ wsX90, w ∈ wsX9_repair := fun _ h => List.mem_cons_of_mem _ (List.mem_append_right _ h)
set_option maxHeartbeats 4000000 in
set_option maxRecDepth 100000 in
theorem k_X9_repair (l : Launch) (D : va_G) (cy : Nat → ClassId) (b : Nat) (M0 : Mem) (h0 : Nat) (x1 : Int32) (x2 : Int32) (x3 : Int32) (rr : Mem) (hf : fX9_repair M0 h0 x1 x2 x3 = some rr) : Met l yX9_repair wsX9_repair ({ frames := 4, cells := 0, slots := 0, locals := 104 } : Room) (zPc D cy b M0 [.ref (b + h0), .int x1, .int x2, .int x3]) (zQv D cy b rr) 0 0 (zA b) := by
  refine Met.ofW (cc := cX9_repair) (maxL := 7) (ret := none) (by decide) rfl ?_
  intro p e s m args below meth c s₁ B hml hv
  obtain ⟨rfl, hP, hK⟩ := hv
  have hx := B.exec
  have hb := B.bytes
  have hr := B.returns
  have hts := atoms_spec (ws := wsX9_repair) B.pre
  have hown : s.vm.findClass RX9 = some m.cls := findClass_of_methodNamed B.named
  have hlocks := B.notSynchronized
  have hS : va_S (zA b) s.heap s.heap [] := va_S.rf
  have hl := lv_entry ([.ref (b + h0), .int x1, .int x2, .int x3]) (n := 7) (Nat.le_of_ble_eq_true rfl)
  rw [lg_entry_eq]
  generalize (lg_sl ([.ref (b + h0), .int x1, .int x2, .int x3]) ++ List.replicate (7 - (lg_sl ([.ref (b + h0), .int x1, .int x2, .int x3])).length) Slot.unset).toArray = ls at hl ⊢
  have hl : lv_has ls 7 [(0, .ref (b + h0)), (1, .int x1), (2, .int x2), (3, .int x3)] := hl
  have L139 : ∀ (n139 : Nat) (M : Mem) (H : Heap) (locs : List Loc) (ls : Array Slot) (h0 : Nat) (x1 : Int32) (x3 : Int32) (x4 : Int32) (x5 : Int32) (x6 : Int32), fX9_repair_139L  n139 M h0 x1 x3 x4 x5 x6 = some rr → zH D cy b M H → va_S (zA b) s.heap H locs → lv_has ls 7 [(0, .ref (b + h0)), (1, .int x1), (3, .int x3), (4, .int x4), (5, .int x5), (6, .int x6)] → W p l e (headSpec wsX9_repair ({ frames := 4, cells := 0, slots := 0, locals := 104 } : Room)).room s m ([.ref (b + h0), .int x1, .int x2, .int x3] : List Value).toArray below meth c H locs 0 0 (MQ below (zQv D cy b rr) ([.ref (b + h0), .int x1, .int x2, .int x3] : List Value).toArray s 0 0 (zA b)) (F0 m 139 ls []) := by
    intro n139
    induction n139 with
    | zero =>
      intro M H locs ls h0 x1 x3 x4 x5 x6 hf
      have hf : (none : Option Mem) = some rr := hf
      cases hf
    | succ n139 ih139 =>
      have J183 : ∀ (M : Mem) (H : Heap) (locs : List Loc) (ls : Array Slot) (h0 : Nat) (x1 : Int32) (x3 : Int32) (x4 : Int32) (x5 : Int32) (x6 : Int32), fX9_repair_183 (fX9_repair_139L  n139) M h0 x1 x3 x4 x5 x6 = some rr → zH D cy b M H → va_S (zA b) s.heap H locs → lv_has ls 7 [(0, .ref (b + h0)), (1, .int x1), (3, .int x3), (4, .int x4), (5, .int x5), (6, .int x6)] → W p l e (headSpec wsX9_repair ({ frames := 4, cells := 0, slots := 0, locals := 104 } : Room)).room s m ([.ref (b + h0), .int x1, .int x2, .int x3] : List Value).toArray below meth c H locs 0 0 (MQ below (zQv D cy b rr) ([.ref (b + h0), .int x1, .int x2, .int x3] : List Value).toArray s 0 0 (zA b)) (F0 m 183 ls []) := by
        intro M H locs ls h0 x1 x3 x4 x5 x6 hf hP hS hl
        unfold fX9_repair_183 at hf
        obtain ⟨x6_183, q183, hf⟩ := zlt_s hf
        refine lv_iinc (v := x6_183) (lv' := [(6, .int x6_183), (0, .ref (b + h0)), (1, .int x1), (3, .int x3), (4, .int x4), (5, .int x5)]) hx hb dX9_repair_183 hl (k := 5) rfl (by rw [← q183]; rfl) (by decide) rfl (fun ls hl => ?_)
        refine lv_goto (tgt := 139) hx hb dX9_repair_186 (by decide) ?_
        exact ih139 _ _ _ _ _ _ _ _ _ _ hf hP hS (lv_sub hl [1, 2, 3, 4, 5, 0] rfl)
      intro M H locs ls h0 x1 x3 x4 x5 x6 hf hP hS hl
      have hf : fX9_repair_139  (fX9_repair_139L  n139) M h0 x1 x3 x4 x5 x6 = some rr := hf
      unfold fX9_repair_139 at hf
      refine lv_iload hx hb dX9_repair_139 (lv_at hl 5 rfl) ?_
      refine lv_iload hx hb dX9_repair_141 (lv_at hl 3 rfl) ?_
      refine lv_icmp_ge (tgt := 189) hx hb dX9_repair_143 (by decide) (fun c143 => ?_) (fun c143 => ?_)
      · have hf := (if_pos c143).symm.trans hf
        exact zret_v hx hb hr hlocks hf hP hS dX9_repair_189
      · have hf := (if_neg c143).symm.trans hf
        refine lv_aload_n hx hb dX9_repair_146 rfl (lv_at hl 0 rfl) ?_
        obtain ⟨v147, e147, hf⟩ := zb hf
        refine zr_gr (ci := 9) (k := 37) (C := RX9) (T := TX9) (N := 54) hx hb hts hi_X9_repair_9 hown hK hP e147 rfl rfl (by decide) (by decide) (hts (.fieldLink RX9 93 "BoundaryAnalyzerModel" "old" "[I") (List.mem_of_getElem? (i := 2) rfl)) dX9_repair_147 ?_
        refine lv_iload hx hb dX9_repair_150 (lv_at hl 5 rfl) ?_
        obtain ⟨v152, e152, hf⟩ := zb hf
        refine zr_ai hx hb hK hP e152 dX9_repair_152 ?_
        refine lv_iload_n hx hb dX9_repair_153 rfl (lv_at hl 2 rfl) ?_
        refine lv_iadd hx hb dX9_repair_154 ?_
        refine lv_iload hx hb dX9_repair_155 (lv_at hl 4 rfl) ?_
        refine lv_icmp_le (tgt := 183) hx hb dX9_repair_157 (by decide) (fun c157 => ?_) (fun c157 => ?_)
        · have hf := (if_pos c157).symm.trans hf
          exact J183 _ _ _ _ _ _ _ _ _ _ hf hP hS (lv_sub hl [0, 1, 2, 3, 4, 5] rfl)
        · have hf := (if_neg c157).symm.trans hf
          refine lv_iload hx hb dX9_repair_160 (lv_at hl 4 rfl) ?_
          refine lv_aload_n hx hb dX9_repair_162 rfl (lv_at hl 0 rfl) ?_
          obtain ⟨v163, e163, hf⟩ := zb hf
          refine zr_gi (ci := 9) (k := 31) (C := RX9) (T := TX9) (N := 54) hx hb hts hi_X9_repair_9 hown hK hP e163 rfl rfl (by decide) (by decide) (hts (.fieldLink RX9 207 "BoundaryAnalyzerModel" "length" "I") (List.mem_of_getElem? (i := 5) rfl)) dX9_repair_163 ?_
          refine lv_icmp_ge (tgt := 183) hx hb dX9_repair_166 (by decide) (fun c166 => ?_) (fun c166 => ?_)
          · have hf := (if_pos c166).symm.trans hf
            exact J183 _ _ _ _ _ _ _ _ _ _ hf hP hS (lv_sub hl [0, 1, 2, 3, 4, 5] rfl)
          · have hf := (if_neg c166).symm.trans hf
            refine lv_aload_n hx hb dX9_repair_169 rfl (lv_at hl 0 rfl) ?_
            refine lv_iload_n hx hb dX9_repair_170 rfl (lv_at hl 1 rfl) ?_
            refine lv_aload_n hx hb dX9_repair_171 rfl (lv_at hl 0 rfl) ?_
            obtain ⟨v172, e172, hf⟩ := zb hf
            refine zr_gr (ci := 9) (k := 37) (C := RX9) (T := TX9) (N := 54) hx hb hts hi_X9_repair_9 hown hK hP e172 rfl rfl (by decide) (by decide) (hts (.fieldLink RX9 93 "BoundaryAnalyzerModel" "old" "[I") (List.mem_of_getElem? (i := 2) rfl)) dX9_repair_172 ?_
            refine lv_iload hx hb dX9_repair_175 (lv_at hl 5 rfl) ?_
            obtain ⟨v177, e177, hf⟩ := zb hf
            refine zr_ai hx hb hK hP e177 dX9_repair_177 ?_
            refine lv_iload_n hx hb dX9_repair_178 rfl (lv_at hl 2 rfl) ?_
            refine lv_iadd hx hb dX9_repair_179 ?_
            obtain ⟨u180, t180, hf⟩ := zb hf
            obtain ⟨M180, e180, hf⟩ := zb hf
            refine zc_v hS (va_runV (As := [.int x1, .int (v177 + x3)]) (rest := []) ⟨hx, hb, hml, hown, hts⟩ (k_X9_append l D cy b M h0 x1 (v177 + x3) M180 e180) (cwV 2 hts gX9_repair_X9_append rfl rfl rfl (by decide +kernel) ⟨Nat.le_of_ble_eq_true rfl, Nat.le_of_ble_eq_true rfl⟩) (zp_V _ hK hP t180 (T := TX9) (N := 54) rfl (by decide)) rfl rfl hl.1 rfl (lv_room (Nat.le_of_ble_eq_true rfl)) dX9_repair_180 ⟨Nat.zero_le _, Nat.zero_le _⟩) (fun H locs hP hS => ?_)
            exact J183 _ _ _ _ _ _ _ _ _ _ hf hP hS (lv_sub hl [0, 1, 2, 3, 4, 5] rfl)
  have J136 : ∀ (M : Mem) (H : Heap) (locs : List Loc) (ls : Array Slot) (h0 : Nat) (x1 : Int32) (x3 : Int32) (x4 : Int32) (x5 : Int32), fX9_repair_136  M h0 x1 x3 x4 x5 = some rr → zH D cy b M H → va_S (zA b) s.heap H locs → lv_has ls 7 [(0, .ref (b + h0)), (1, .int x1), (3, .int x3), (4, .int x4), (5, .int x5)] → W p l e (headSpec wsX9_repair ({ frames := 4, cells := 0, slots := 0, locals := 104 } : Room)).room s m ([.ref (b + h0), .int x1, .int x2, .int x3] : List Value).toArray below meth c H locs 0 0 (MQ below (zQv D cy b rr) ([.ref (b + h0), .int x1, .int x2, .int x3] : List Value).toArray s 0 0 (zA b)) (F0 m 136 ls []) := by
    intro M H locs ls h0 x1 x3 x4 x5 hf hP hS hl
    unfold fX9_repair_136 at hf
    refine lv_iconst (v := (0 : Int32)) hx hb dX9_repair_136 (by decide) ?_
    refine lv_istore (lv' := [(6, .int (0 : Int32)), (0, .ref (b + h0)), (1, .int x1), (3, .int x3), (4, .int x4), (5, .int x5)]) hx hb dX9_repair_137 hl (by decide) rfl (fun ls hl => ?_)
    exact L139 _ _ _ _ _ _ _ _ _ _ _ hf hP hS (lv_sub hl [1, 2, 3, 4, 5, 0] rfl)
  have L72 : ∀ (n72 : Nat) (M : Mem) (H : Heap) (locs : List Loc) (ls : Array Slot) (h0 : Nat) (x1 : Int32) (x2 : Int32) (x3 : Int32) (x4 : Int32) (x5 : Int32), fX9_repair_72L  n72 M h0 x1 x2 x3 x4 x5 = some rr → zH D cy b M H → va_S (zA b) s.heap H locs → lv_has ls 7 [(0, .ref (b + h0)), (1, .int x1), (2, .int x2), (3, .int x3), (4, .int x4), (5, .int x5)] → W p l e (headSpec wsX9_repair ({ frames := 4, cells := 0, slots := 0, locals := 104 } : Room)).room s m ([.ref (b + h0), .int x1, .int x2, .int x3] : List Value).toArray below meth c H locs 0 0 (MQ below (zQv D cy b rr) ([.ref (b + h0), .int x1, .int x2, .int x3] : List Value).toArray s 0 0 (zA b)) (F0 m 72 ls []) := by
    intro n72
    induction n72 with
    | zero =>
      intro M H locs ls h0 x1 x2 x3 x4 x5 hf
      have hf : (none : Option Mem) = some rr := hf
      cases hf
    | succ n72 ih72 =>
      have J104 : ∀ (M : Mem) (H : Heap) (locs : List Loc) (ls : Array Slot) (h0 : Nat) (x1 : Int32) (x2 : Int32) (x3 : Int32) (x4 : Int32) (x5 : Int32), fX9_repair_104 (fX9_repair_72L  n72) M h0 x1 x2 x3 x4 x5 = some rr → zH D cy b M H → va_S (zA b) s.heap H locs → lv_has ls 7 [(0, .ref (b + h0)), (1, .int x1), (2, .int x2), (3, .int x3), (4, .int x4), (5, .int x5)] → W p l e (headSpec wsX9_repair ({ frames := 4, cells := 0, slots := 0, locals := 104 } : Room)).room s m ([.ref (b + h0), .int x1, .int x2, .int x3] : List Value).toArray below meth c H locs 0 0 (MQ below (zQv D cy b rr) ([.ref (b + h0), .int x1, .int x2, .int x3] : List Value).toArray s 0 0 (zA b)) (F0 m 104 ls []) := by
        intro M H locs ls h0 x1 x2 x3 x4 x5 hf hP hS hl
        unfold fX9_repair_104 at hf
        refine lv_iload hx hb dX9_repair_104 (lv_at hl 5 rfl) ?_
        refine lv_aload_n hx hb dX9_repair_106 rfl (lv_at hl 0 rfl) ?_
        refine lv_iload_n hx hb dX9_repair_107 rfl (lv_at hl 1 rfl) ?_
        refine lv_iload hx hb dX9_repair_108 (lv_at hl 5 rfl) ?_
        obtain ⟨u110, t110, hf⟩ := zb hf
        obtain ⟨r110, e110, hf⟩ := zb hf
        refine zc_i hS (va_runV (As := [.int x1, .int x5]) (rest := [.int x5]) ⟨hx, hb, hml, hown, hts⟩ (k_X9_segmentAt l D cy b M h0 x1 x5 r110 e110) (cwV 2 hts gX9_repair_X9_segmentAt rfl rfl rfl (by decide +kernel) ⟨Nat.le_of_ble_eq_true rfl, Nat.le_of_ble_eq_true rfl⟩) (zp_V _ hK hP t110 (T := TX9) (N := 54) rfl (by decide)) rfl rfl hl.1 rfl (lv_room (Nat.le_of_ble_eq_true rfl)) dX9_repair_110 ⟨Nat.zero_le _, Nat.zero_le _⟩) (fun H locs hP hS => ?_)
        refine lv_iadd hx hb dX9_repair_113 ?_
        obtain ⟨x5_114, q114, hf⟩ := zlt_s hf
        refine zt q114 ?_
        refine lv_istore (lv' := [(5, .int x5_114), (0, .ref (b + h0)), (1, .int x1), (2, .int x2), (3, .int x3), (4, .int x4)]) hx hb dX9_repair_114 hl (by decide) rfl (fun ls hl => ?_)
        refine lv_aload_n hx hb dX9_repair_116 rfl (lv_at hl 1 rfl) ?_
        refine lv_iload_n hx hb dX9_repair_117 rfl (lv_at hl 2 rfl) ?_
        refine lv_iload hx hb dX9_repair_118 (lv_at hl 0 rfl) ?_
        obtain ⟨u120, t120, hf⟩ := zb hf
        obtain ⟨M120, e120, hf⟩ := zb hf
        refine zc_v hS (va_runV (As := [.int x1, .int x5_114]) (rest := []) ⟨hx, hb, hml, hown, hts⟩ (k_X9_append l D cy b r110.2 h0 x1 x5_114 M120 e120) (cwV 2 hts gX9_repair_X9_append rfl rfl rfl (by decide +kernel) ⟨Nat.le_of_ble_eq_true rfl, Nat.le_of_ble_eq_true rfl⟩) (zp_V _ hK hP t120 (T := TX9) (N := 54) rfl (by decide)) rfl rfl hl.1 rfl (lv_room (Nat.le_of_ble_eq_true rfl)) dX9_repair_120 ⟨Nat.zero_le _, Nat.zero_le _⟩) (fun H locs hP hS => ?_)
        refine lv_aload_n hx hb dX9_repair_123 rfl (lv_at hl 1 rfl) ?_
        obtain ⟨v124, e124, hf⟩ := zb hf
        refine zr_gr (ci := 9) (k := 35) (C := RX9) (T := TX9) (N := 54) hx hb hts hi_X9_repair_9 hown hK hP e124 rfl rfl (by decide) (by decide) (hts (.fieldLink RX9 87 "BoundaryAnalyzerModel" "workOf" "[I") (List.mem_of_getElem? (i := 4) rfl)) dX9_repair_124 ?_
        refine lv_iload_n hx hb dX9_repair_127 rfl (lv_at hl 2 rfl) ?_
        refine lv_dup2_11 hx hb dX9_repair_128 rfl rfl ?_
        obtain ⟨v129, e129, hf⟩ := zb hf
        refine zr_ai hx hb hK hP e129 dX9_repair_129 ?_
        refine lv_iconst (v := (1 : Int32)) hx hb dX9_repair_130 (by decide) ?_
        refine lv_iadd hx hb dX9_repair_131 ?_
        obtain ⟨M132, e132, hf⟩ := zb hf
        refine zr_si hx hb hK hP hS e132 dX9_repair_132 (fun H locs hP _ hS => ?_)
        refine lv_goto (tgt := 72) hx hb dX9_repair_133 (by decide) ?_
        exact ih72 _ _ _ _ _ _ _ _ _ _ hf hP hS (lv_sub hl [1, 2, 3, 4, 5, 0] rfl)
      intro M H locs ls h0 x1 x2 x3 x4 x5 hf hP hS hl
      have hf : fX9_repair_72  (fX9_repair_72L  n72) M h0 x1 x2 x3 x4 x5 = some rr := hf
      unfold fX9_repair_72 at hf
      refine lv_iload hx hb dX9_repair_72 (lv_at hl 5 rfl) ?_
      refine lv_aload_n hx hb dX9_repair_74 rfl (lv_at hl 0 rfl) ?_
      obtain ⟨v75, e75, hf⟩ := zb hf
      refine zr_gi (ci := 9) (k := 31) (C := RX9) (T := TX9) (N := 54) hx hb hts hi_X9_repair_9 hown hK hP e75 rfl rfl (by decide) (by decide) (hts (.fieldLink RX9 207 "BoundaryAnalyzerModel" "length" "I") (List.mem_of_getElem? (i := 5) rfl)) dX9_repair_75 ?_
      refine lv_icmp_ge (tgt := 136) hx hb dX9_repair_78 (by decide) (fun c78 => ?_) (fun c78 => ?_)
      · have hf := (if_pos c78).symm.trans hf
        exact J136 _ _ _ _ _ _ _ _ _ hf hP hS (lv_sub hl [0, 1, 3, 4, 5] rfl)
      · have hf := (if_neg c78).symm.trans hf
        refine lv_iload hx hb dX9_repair_81 (lv_at hl 5 rfl) ?_
        refine lv_iload_n hx hb dX9_repair_83 rfl (lv_at hl 2 rfl) ?_
        refine lv_icmp_lt (tgt := 104) hx hb dX9_repair_84 (by decide) (fun c84 => ?_) (fun c84 => ?_)
        · have hf := (if_pos c84).symm.trans hf
          exact J104 _ _ _ _ _ _ _ _ _ _ hf hP hS (lv_sub hl [0, 1, 2, 3, 4, 5] rfl)
        · have hf := (if_neg c84).symm.trans hf
          refine lv_aload_n hx hb dX9_repair_87 rfl (lv_at hl 0 rfl) ?_
          refine lv_aload_n hx hb dX9_repair_88 rfl (lv_at hl 0 rfl) ?_
          obtain ⟨v89, e89, hf⟩ := zb hf
          refine zr_gr (ci := 9) (k := 37) (C := RX9) (T := TX9) (N := 54) hx hb hts hi_X9_repair_9 hown hK hP e89 rfl rfl (by decide) (by decide) (hts (.fieldLink RX9 93 "BoundaryAnalyzerModel" "old" "[I") (List.mem_of_getElem? (i := 2) rfl)) dX9_repair_89 ?_
          refine lv_iload hx hb dX9_repair_92 (lv_at hl 4 rfl) ?_
          refine lv_iload hx hb dX9_repair_94 (lv_at hl 5 rfl) ?_
          refine lv_iload_n hx hb dX9_repair_96 rfl (lv_at hl 3 rfl) ?_
          refine lv_isub hx hb dX9_repair_97 ?_
          obtain ⟨u98, t98, hf⟩ := zb hf
          obtain ⟨r98, e98, hf⟩ := zb hf
          refine zc_i hS (va_runV (As := [.ref (b + v89), .int x4, .int (x5 - x3)]) (rest := []) ⟨hx, hb, hml, hown, hts⟩ (k_X9_wasRaw l D cy b M h0 v89 x4 (x5 - x3) r98 e98) (cwV 3 hts gX9_repair_X9_wasRaw rfl rfl rfl (by decide +kernel) ⟨Nat.le_of_ble_eq_true rfl, Nat.le_of_ble_eq_true rfl⟩) (zp_V _ hK hP t98 (T := TX9) (N := 54) rfl (by decide)) rfl rfl hl.1 rfl (lv_room (Nat.le_of_ble_eq_true rfl)) dX9_repair_98 ⟨Nat.zero_le _, Nat.zero_le _⟩) (fun H locs hP hS => ?_)
          refine lv_if_ne (tgt := 136) hx hb dX9_repair_101 (by decide) (fun c101 => ?_) (fun c101 => ?_)
          · have hf := (if_neg c101).symm.trans hf
            exact J136 _ _ _ _ _ _ _ _ _ hf hP hS (lv_sub hl [0, 1, 3, 4, 5] rfl)
          · have hf := (if_pos c101).symm.trans hf
            exact J104 _ _ _ _ _ _ _ _ _ _ hf hP hS (lv_sub hl [0, 1, 2, 3, 4, 5] rfl)
  have L11 : ∀ (n11 : Nat) (M : Mem) (H : Heap) (locs : List Loc) (ls : Array Slot) (h0 : Nat) (x1 : Int32) (x2 : Int32) (x3 : Int32) (x4 : Int32) (x5 : Int32), fX9_repair_11L  n11 M h0 x1 x2 x3 x4 x5 = some rr → zH D cy b M H → va_S (zA b) s.heap H locs → lv_has ls 7 [(0, .ref (b + h0)), (1, .int x1), (2, .int x2), (3, .int x3), (4, .int x4), (5, .int x5)] → W p l e (headSpec wsX9_repair ({ frames := 4, cells := 0, slots := 0, locals := 104 } : Room)).room s m ([.ref (b + h0), .int x1, .int x2, .int x3] : List Value).toArray below meth c H locs 0 0 (MQ below (zQv D cy b rr) ([.ref (b + h0), .int x1, .int x2, .int x3] : List Value).toArray s 0 0 (zA b)) (F0 m 11 ls []) := by
    intro n11
    induction n11 with
    | zero =>
      intro M H locs ls h0 x1 x2 x3 x4 x5 hf
      have hf : (none : Option Mem) = some rr := hf
      cases hf
    | succ n11 ih11 =>
      intro M H locs ls h0 x1 x2 x3 x4 x5 hf hP hS hl
      have hf : fX9_repair_11  (fX9_repair_11L  n11) M h0 x1 x2 x3 x4 x5 = some rr := hf
      unfold fX9_repair_11 at hf
      refine lv_iload hx hb dX9_repair_11 (lv_at hl 5 rfl) ?_
      refine lv_iload hx hb dX9_repair_13 (lv_at hl 4 rfl) ?_
      refine lv_icmp_ge (tgt := 38) hx hb dX9_repair_15 (by decide) (fun c15 => ?_) (fun c15 => ?_)
      · have hf := (if_pos c15).symm.trans hf
        refine lv_aload_n hx hb dX9_repair_38 rfl (lv_at hl 0 rfl) ?_
        obtain ⟨v39, e39, hf⟩ := zb hf
        refine zr_gr (ci := 9) (k := 33) (C := RX9) (T := TX9) (N := 54) hx hb hts hi_X9_repair_9 hown hK hP e39 rfl rfl (by decide) (by decide) (hts (.fieldLink RX9 81 "BoundaryAnalyzerModel" "rawMany" "[I") (List.mem_of_getElem? (i := 1) rfl)) dX9_repair_39 ?_
        refine lv_iload_n hx hb dX9_repair_42 rfl (lv_at hl 1 rfl) ?_
        refine lv_aload_n hx hb dX9_repair_43 rfl (lv_at hl 0 rfl) ?_
        obtain ⟨v44, e44, hf⟩ := zb hf
        refine zr_gr (ci := 9) (k := 36) (C := RX9) (T := TX9) (N := 54) hx hb hts hi_X9_repair_9 hown hK hP e44 rfl rfl (by decide) (by decide) (hts (.fieldLink RX9 90 "BoundaryAnalyzerModel" "startOf" "[I") (List.mem_of_getElem? (i := 3) rfl)) dX9_repair_44 ?_
        refine lv_iload_n hx hb dX9_repair_47 rfl (lv_at hl 1 rfl) ?_
        obtain ⟨v48, e48, hf⟩ := zb hf
        refine zr_ai hx hb hK hP e48 dX9_repair_48 ?_
        refine lv_iconst (v := (1 : Int32)) hx hb dX9_repair_49 (by decide) ?_
        refine lv_iadd hx hb dX9_repair_50 ?_
        obtain ⟨M51, e51, hf⟩ := zb hf
        refine zr_si hx hb hK hP hS e51 dX9_repair_51 (fun H locs hP _ hS => ?_)
        refine lv_aload_n hx hb dX9_repair_52 rfl (lv_at hl 0 rfl) ?_
        obtain ⟨v53, e53, hf⟩ := zb hf
        refine zr_gr (ci := 9) (k := 35) (C := RX9) (T := TX9) (N := 54) hx hb hts hi_X9_repair_9 hown hK hP e53 rfl rfl (by decide) (by decide) (hts (.fieldLink RX9 87 "BoundaryAnalyzerModel" "workOf" "[I") (List.mem_of_getElem? (i := 4) rfl)) dX9_repair_53 ?_
        refine lv_iload_n hx hb dX9_repair_56 rfl (lv_at hl 1 rfl) ?_
        refine lv_iconst (v := (0 : Int32)) hx hb dX9_repair_57 (by decide) ?_
        obtain ⟨M58, e58, hf⟩ := zb hf
        refine zr_si hx hb hK hP hS e58 dX9_repair_58 (fun H locs hP _ hS => ?_)
        refine lv_aload_n hx hb dX9_repair_59 rfl (lv_at hl 0 rfl) ?_
        refine lv_iload_n hx hb dX9_repair_60 rfl (lv_at hl 1 rfl) ?_
        refine lv_aload_n hx hb dX9_repair_61 rfl (lv_at hl 0 rfl) ?_
        obtain ⟨v62, e62, hf⟩ := zb hf
        refine zr_gr (ci := 9) (k := 36) (C := RX9) (T := TX9) (N := 54) hx hb hts hi_X9_repair_9 hown hK hP e62 rfl rfl (by decide) (by decide) (hts (.fieldLink RX9 90 "BoundaryAnalyzerModel" "startOf" "[I") (List.mem_of_getElem? (i := 3) rfl)) dX9_repair_62 ?_
        refine lv_iload_n hx hb dX9_repair_65 rfl (lv_at hl 1 rfl) ?_
        obtain ⟨v66, e66, hf⟩ := zb hf
        refine zr_ai hx hb hK hP e66 dX9_repair_66 ?_
        obtain ⟨u67, t67, hf⟩ := zb hf
        obtain ⟨r67, e67, hf⟩ := zb hf
        refine zc_i hS (va_runV (As := [.int x1, .int v66]) (rest := []) ⟨hx, hb, hml, hown, hts⟩ (k_X9_raw l D cy b M58 h0 x1 v66 r67 e67) (cwV 2 hts gX9_repair_X9_raw rfl rfl rfl (by decide +kernel) ⟨Nat.le_of_ble_eq_true rfl, Nat.le_of_ble_eq_true rfl⟩) (zp_V _ hK hP t67 (T := TX9) (N := 54) rfl (by decide)) rfl rfl hl.1 rfl (lv_room (Nat.le_of_ble_eq_true rfl)) dX9_repair_67 ⟨Nat.zero_le _, Nat.zero_le _⟩) (fun H locs hP hS => ?_)
        refine lv_istore (lv' := [(5, .int r67.1), (0, .ref (b + h0)), (1, .int x1), (2, .int x2), (3, .int x3), (4, .int x4)]) hx hb dX9_repair_70 hl (by decide) rfl (fun ls hl => ?_)
        exact L72 _ _ _ _ _ _ _ _ _ _ _ hf hP hS (lv_sub hl [1, 2, 3, 4, 5, 0] rfl)
      · have hf := (if_neg c15).symm.trans hf
        refine lv_aload_n hx hb dX9_repair_18 rfl (lv_at hl 0 rfl) ?_
        obtain ⟨v19, e19, hf⟩ := zb hf
        refine zr_gr (ci := 9) (k := 37) (C := RX9) (T := TX9) (N := 54) hx hb hts hi_X9_repair_9 hown hK hP e19 rfl rfl (by decide) (by decide) (hts (.fieldLink RX9 93 "BoundaryAnalyzerModel" "old" "[I") (List.mem_of_getElem? (i := 2) rfl)) dX9_repair_19 ?_
        refine lv_iload hx hb dX9_repair_22 (lv_at hl 5 rfl) ?_
        refine lv_aload_n hx hb dX9_repair_24 rfl (lv_at hl 0 rfl) ?_
        refine lv_iload_n hx hb dX9_repair_25 rfl (lv_at hl 1 rfl) ?_
        refine lv_iload hx hb dX9_repair_26 (lv_at hl 5 rfl) ?_
        obtain ⟨u28, t28, hf⟩ := zb hf
        obtain ⟨r28, e28, hf⟩ := zb hf
        refine zc_i hS (va_runV (As := [.int x1, .int x5]) (rest := [.int x5, .ref (b + v19)]) ⟨hx, hb, hml, hown, hts⟩ (k_X9_raw l D cy b M h0 x1 x5 r28 e28) (cwV 2 hts gX9_repair_X9_raw rfl rfl rfl (by decide +kernel) ⟨Nat.le_of_ble_eq_true rfl, Nat.le_of_ble_eq_true rfl⟩) (zp_V _ hK hP t28 (T := TX9) (N := 54) rfl (by decide)) rfl rfl hl.1 rfl (lv_room (Nat.le_of_ble_eq_true rfl)) dX9_repair_28 ⟨Nat.zero_le _, Nat.zero_le _⟩) (fun H locs hP hS => ?_)
        obtain ⟨M31, e31, hf⟩ := zb hf
        refine zr_si hx hb hK hP hS e31 dX9_repair_31 (fun H locs hP _ hS => ?_)
        obtain ⟨x5_32, q32, hf⟩ := zlt_s hf
        refine lv_iinc (v := x5_32) (lv' := [(5, .int x5_32), (0, .ref (b + h0)), (1, .int x1), (2, .int x2), (3, .int x3), (4, .int x4)]) hx hb dX9_repair_32 hl (k := 5) rfl (by rw [← q32]; rfl) (by decide) rfl (fun ls hl => ?_)
        refine lv_goto (tgt := 11) hx hb dX9_repair_35 (by decide) ?_
        exact ih11 _ _ _ _ _ _ _ _ _ _ hf hP hS (lv_sub hl [1, 2, 3, 4, 5, 0] rfl)
  unfold fX9_repair at hf
  refine lv_aload_n hx hb dX9_repair_0 rfl (lv_at hl 0 rfl) ?_
  obtain ⟨v1, e1, hf⟩ := zb hf
  refine zr_gr (ci := 9) (k := 33) (C := RX9) (T := TX9) (N := 54) hx hb hts hi_X9_repair_9 hown hK hP e1 rfl rfl (by decide) (by decide) (hts (.fieldLink RX9 81 "BoundaryAnalyzerModel" "rawMany" "[I") (List.mem_of_getElem? (i := 1) rfl)) dX9_repair_1 ?_
  refine lv_iload_n hx hb dX9_repair_4 rfl (lv_at hl 1 rfl) ?_
  obtain ⟨v5, e5, hf⟩ := zb hf
  refine zr_ai hx hb hK hP e5 dX9_repair_5 ?_
  refine lv_istore (lv' := [(4, .int v5), (0, .ref (b + h0)), (1, .int x1), (2, .int x2), (3, .int x3)]) hx hb dX9_repair_6 hl (by decide) rfl (fun ls hl => ?_)
  refine lv_iconst (v := (0 : Int32)) hx hb dX9_repair_8 (by decide) ?_
  refine lv_istore (lv' := [(5, .int (0 : Int32)), (4, .int v5), (0, .ref (b + h0)), (1, .int x1), (2, .int x2), (3, .int x3)]) hx hb dX9_repair_9 hl (by decide) rfl (fun ls hl => ?_)
  exact L11 _ _ _ _ _ _ _ _ _ _ _ hf hP hS (lv_sub hl [2, 3, 4, 5, 1, 0] rfl)
theorem hi_X9_repairAll_9 : ∀ w ∈ wsX90, w ∈ wsX9_repairAll := fun _ h => List.mem_cons_of_mem _ (List.mem_append_right _ h)
set_option maxHeartbeats 4000000 in
set_option maxRecDepth 100000 in
theorem k_X9_repairAll (l : Launch) (D : va_G) (cy : Nat → ClassId) (b : Nat) (M0 : Mem) (h0 : Nat) (x1 : Int32) (x2 : Int32) (rr : Mem) (hf : fX9_repairAll M0 h0 x1 x2 = some rr) : Met l yX9_repairAll wsX9_repairAll ({ frames := 5, cells := 0, slots := 0, locals := 130 } : Room) (zPc D cy b M0 [.ref (b + h0), .int x1, .int x2]) (zQv D cy b rr) 0 0 (zA b) := by
  refine Met.ofW (cc := cX9_repairAll) (maxL := 4) (ret := none) (by decide) rfl ?_
  intro p e s m args below meth c s₁ B hml hv
  obtain ⟨rfl, hP, hK⟩ := hv
  have hx := B.exec
  have hb := B.bytes
  have hr := B.returns
  have hts := atoms_spec (ws := wsX9_repairAll) B.pre
  have hown : s.vm.findClass RX9 = some m.cls := findClass_of_methodNamed B.named
  have hlocks := B.notSynchronized
  have hS : va_S (zA b) s.heap s.heap [] := va_S.rf
  have hl := lv_entry ([.ref (b + h0), .int x1, .int x2]) (n := 4) (Nat.le_of_ble_eq_true rfl)
  rw [lg_entry_eq]
  generalize (lg_sl ([.ref (b + h0), .int x1, .int x2]) ++ List.replicate (4 - (lg_sl ([.ref (b + h0), .int x1, .int x2])).length) Slot.unset).toArray = ls at hl ⊢
  have hl : lv_has ls 4 [(0, .ref (b + h0)), (1, .int x1), (2, .int x2)] := hl
  have L2 : ∀ (n2 : Nat) (M : Mem) (H : Heap) (locs : List Loc) (ls : Array Slot) (h0 : Nat) (x1 : Int32) (x2 : Int32) (x3 : Int32), fX9_repairAll_2L  n2 M h0 x1 x2 x3 = some rr → zH D cy b M H → va_S (zA b) s.heap H locs → lv_has ls 4 [(0, .ref (b + h0)), (1, .int x1), (2, .int x2), (3, .int x3)] → W p l e (headSpec wsX9_repairAll ({ frames := 5, cells := 0, slots := 0, locals := 130 } : Room)).room s m ([.ref (b + h0), .int x1, .int x2] : List Value).toArray below meth c H locs 0 0 (MQ below (zQv D cy b rr) ([.ref (b + h0), .int x1, .int x2] : List Value).toArray s 0 0 (zA b)) (F0 m 2 ls []) := by
    intro n2
    induction n2 with
    | zero =>
      intro M H locs ls h0 x1 x2 x3 hf
      have hf : (none : Option Mem) = some rr := hf
      cases hf
    | succ n2 ih2 =>
      intro M H locs ls h0 x1 x2 x3 hf hP hS hl
      have hf : fX9_repairAll_2  (fX9_repairAll_2L  n2) M h0 x1 x2 x3 = some rr := hf
      unfold fX9_repairAll_2 at hf
      refine lv_iload_n hx hb dX9_repairAll_2 rfl (lv_at hl 3 rfl) ?_
      refine lv_iconst (v := (3 : Int32)) hx hb dX9_repairAll_3 (by decide) ?_
      refine lv_icmp_ge (tgt := 20) hx hb dX9_repairAll_4 (by decide) (fun c4 => ?_) (fun c4 => ?_)
      · have hf := (if_pos c4).symm.trans hf
        exact zret_v hx hb hr hlocks hf hP hS dX9_repairAll_20
      · have hf := (if_neg c4).symm.trans hf
        refine lv_aload_n hx hb dX9_repairAll_7 rfl (lv_at hl 0 rfl) ?_
        refine lv_iload_n hx hb dX9_repairAll_8 rfl (lv_at hl 3 rfl) ?_
        refine lv_iload_n hx hb dX9_repairAll_9 rfl (lv_at hl 1 rfl) ?_
        refine lv_iload_n hx hb dX9_repairAll_10 rfl (lv_at hl 2 rfl) ?_
        obtain ⟨u11, t11, hf⟩ := zb hf
        obtain ⟨M11, e11, hf⟩ := zb hf
        refine zc_v hS (va_runV (As := [.int x3, .int x1, .int x2]) (rest := []) ⟨hx, hb, hml, hown, hts⟩ (k_X9_repair l D cy b M h0 x3 x1 x2 M11 e11) (cwV 3 hts gX9_repairAll_X9_repair rfl rfl rfl (by decide +kernel) ⟨Nat.le_of_ble_eq_true rfl, Nat.le_of_ble_eq_true rfl⟩) (zp_V _ hK hP t11 (T := TX9) (N := 54) rfl (by decide)) rfl rfl hl.1 rfl (lv_room (Nat.le_of_ble_eq_true rfl)) dX9_repairAll_11 ⟨Nat.zero_le _, Nat.zero_le _⟩) (fun H locs hP hS => ?_)
        obtain ⟨x3_14, q14, hf⟩ := zlt_s hf
        refine lv_iinc (v := x3_14) (lv' := [(3, .int x3_14), (0, .ref (b + h0)), (1, .int x1), (2, .int x2)]) hx hb dX9_repairAll_14 hl (k := 3) rfl (by rw [← q14]; rfl) (by decide) rfl (fun ls hl => ?_)
        refine lv_goto (tgt := 2) hx hb dX9_repairAll_17 (by decide) ?_
        exact ih2 _ _ _ _ _ _ _ _ hf hP hS (lv_sub hl [1, 2, 3, 0] rfl)
  unfold fX9_repairAll at hf
  refine lv_iconst (v := (0 : Int32)) hx hb dX9_repairAll_0 (by decide) ?_
  refine lv_istore_n (lv' := [(3, .int (0 : Int32)), (0, .ref (b + h0)), (1, .int x1), (2, .int x2)]) hx hb dX9_repairAll_1 rfl hl (by decide) rfl (fun ls hl => ?_)
  exact L2 _ _ _ _ _ _ _ _ _ hf hP hS (lv_sub hl [1, 2, 3, 0] rfl)
theorem hi_X9_putIn_9 : ∀ w ∈ wsX90, w ∈ wsX9_putIn := fun _ h => List.mem_cons_of_mem _ (List.mem_append_right _ h)
set_option maxHeartbeats 4000000 in
set_option maxRecDepth 100000 in
theorem k_X9_putIn (l : Launch) (D : va_G) (cy : Nat → ClassId) (b : Nat) (M0 : Mem) (h0 : Nat) (x1 : Int32) (x2 : Int32) (rr : Mem) (hf : fX9_putIn M0 h0 x1 x2 = some rr) : Met l yX9_putIn wsX9_putIn ({ frames := 6, cells := 0, slots := 0, locals := 153 } : Room) (zPc D cy b M0 [.ref (b + h0), .int x1, .int x2]) (zQv D cy b rr) 0 0 (zA b) := by
  refine Met.ofW (cc := cX9_putIn) (maxL := 4) (ret := none) (by decide) rfl ?_
  intro p e s m args below meth c s₁ B hml hv
  obtain ⟨rfl, hP, hK⟩ := hv
  have hx := B.exec
  have hb := B.bytes
  have hr := B.returns
  have hts := atoms_spec (ws := wsX9_putIn) B.pre
  have hown : s.vm.findClass RX9 = some m.cls := findClass_of_methodNamed B.named
  have hlocks := B.notSynchronized
  have hS : va_S (zA b) s.heap s.heap [] := va_S.rf
  have hl := lv_entry ([.ref (b + h0), .int x1, .int x2]) (n := 4) (Nat.le_of_ble_eq_true rfl)
  rw [lg_entry_eq]
  generalize (lg_sl ([.ref (b + h0), .int x1, .int x2]) ++ List.replicate (4 - (lg_sl ([.ref (b + h0), .int x1, .int x2])).length) Slot.unset).toArray = ls at hl ⊢
  have hl : lv_has ls 4 [(0, .ref (b + h0)), (1, .int x1), (2, .int x2)] := hl
  have L39 : ∀ (n39 : Nat) (M : Mem) (H : Heap) (locs : List Loc) (ls : Array Slot) (h0 : Nat) (x1 : Int32) (x2 : Int32) (x3 : Int32), fX9_putIn_39L  n39 M h0 x1 x2 x3 = some rr → zH D cy b M H → va_S (zA b) s.heap H locs → lv_has ls 4 [(0, .ref (b + h0)), (1, .int x1), (2, .int x2), (3, .int x3)] → W p l e (headSpec wsX9_putIn ({ frames := 6, cells := 0, slots := 0, locals := 153 } : Room)).room s m ([.ref (b + h0), .int x1, .int x2] : List Value).toArray below meth c H locs 0 0 (MQ below (zQv D cy b rr) ([.ref (b + h0), .int x1, .int x2] : List Value).toArray s 0 0 (zA b)) (F0 m 39 ls []) := by
    intro n39
    induction n39 with
    | zero =>
      intro M H locs ls h0 x1 x2 x3 hf
      have hf : (none : Option Mem) = some rr := hf
      cases hf
    | succ n39 ih39 =>
      intro M H locs ls h0 x1 x2 x3 hf hP hS hl
      have hf : fX9_putIn_39  (fX9_putIn_39L  n39) M h0 x1 x2 x3 = some rr := hf
      unfold fX9_putIn_39 at hf
      refine lv_iload_n hx hb dX9_putIn_39 rfl (lv_at hl 3 rfl) ?_
      refine lv_iload_n hx hb dX9_putIn_40 rfl (lv_at hl 2 rfl) ?_
      refine lv_icmp_ge (tgt := 64) hx hb dX9_putIn_41 (by decide) (fun c41 => ?_) (fun c41 => ?_)
      · have hf := (if_pos c41).symm.trans hf
        refine lv_aload_n hx hb dX9_putIn_64 rfl (lv_at hl 0 rfl) ?_
        refine lv_dup hx hb dX9_putIn_65 rfl ?_
        obtain ⟨v66, e66, hf⟩ := zb hf
        refine zr_gi (ci := 9) (k := 31) (C := RX9) (T := TX9) (N := 54) hx hb hts hi_X9_putIn_9 hown hK hP e66 rfl rfl (by decide) (by decide) (hts (.fieldLink RX9 207 "BoundaryAnalyzerModel" "length" "I") (List.mem_of_getElem? (i := 1) rfl)) dX9_putIn_66 ?_
        refine lv_iload_n hx hb dX9_putIn_69 rfl (lv_at hl 2 rfl) ?_
        refine lv_iadd hx hb dX9_putIn_70 ?_
        obtain ⟨M71, e71, hf⟩ := zb hf
        refine zr_pi (ci := 9) (k := 31) (C := RX9) (T := TX9) (N := 54) hx hb hts hi_X9_putIn_9 tyX9 tyX9_ok nmX9 hown hK hP hS e71 rfl rfl (by decide) (by decide) (hts (.fieldLink RX9 207 "BoundaryAnalyzerModel" "length" "I") (List.mem_of_getElem? (i := 1) rfl)) rfl (tyX9_ok 31 (by decide)) dX9_putIn_71 (fun H locs hP _ hS => ?_)
        refine lv_aload_n hx hb dX9_putIn_74 rfl (lv_at hl 0 rfl) ?_
        refine lv_iload_n hx hb dX9_putIn_75 rfl (lv_at hl 1 rfl) ?_
        refine lv_iload_n hx hb dX9_putIn_76 rfl (lv_at hl 2 rfl) ?_
        refine lv_iadd hx hb dX9_putIn_77 ?_
        refine lv_iload_n hx hb dX9_putIn_78 rfl (lv_at hl 2 rfl) ?_
        obtain ⟨u79, t79, hf⟩ := zb hf
        obtain ⟨M79, e79, hf⟩ := zb hf
        refine zc_v hS (va_runV (As := [.int (x1 + x2), .int x2]) (rest := []) ⟨hx, hb, hml, hown, hts⟩ (k_X9_repairAll l D cy b M71 h0 (x1 + x2) x2 M79 e79) (cwV 2 hts gX9_putIn_X9_repairAll rfl rfl rfl (by decide +kernel) ⟨Nat.le_of_ble_eq_true rfl, Nat.le_of_ble_eq_true rfl⟩) (zp_V _ hK hP t79 (T := TX9) (N := 54) rfl (by decide)) rfl rfl hl.1 rfl (lv_room (Nat.le_of_ble_eq_true rfl)) dX9_putIn_79 ⟨Nat.zero_le _, Nat.zero_le _⟩) (fun H locs hP hS => ?_)
        exact zret_v hx hb hr hlocks hf hP hS dX9_putIn_82
      · have hf := (if_neg c41).symm.trans hf
        refine lv_aload_n hx hb dX9_putIn_44 rfl (lv_at hl 0 rfl) ?_
        obtain ⟨v45, e45, hf⟩ := zb hf
        refine zr_gr (ci := 9) (k := 32) (C := RX9) (T := TX9) (N := 54) hx hb hts hi_X9_putIn_9 hown hK hP e45 rfl rfl (by decide) (by decide) (hts (.fieldLink RX9 78 "BoundaryAnalyzerModel" "text" "[C") (List.mem_of_getElem? (i := 2) rfl)) dX9_putIn_45 ?_
        refine lv_iload_n hx hb dX9_putIn_48 rfl (lv_at hl 1 rfl) ?_
        refine lv_iload_n hx hb dX9_putIn_49 rfl (lv_at hl 3 rfl) ?_
        refine lv_iadd hx hb dX9_putIn_50 ?_
        refine lv_aload_n hx hb dX9_putIn_51 rfl (lv_at hl 0 rfl) ?_
        obtain ⟨v52, e52, hf⟩ := zb hf
        refine zr_gr (ci := 9) (k := 38) (C := RX9) (T := TX9) (N := 54) hx hb hts hi_X9_putIn_9 hown hK hP e52 rfl rfl (by decide) (by decide) (hts (.fieldLink RX9 96 "BoundaryAnalyzerModel" "editText" "[C") (List.mem_of_getElem? (i := 3) rfl)) dX9_putIn_52 ?_
        refine lv_iload_n hx hb dX9_putIn_55 rfl (lv_at hl 3 rfl) ?_
        obtain ⟨v56, e56, hf⟩ := zb hf
        refine zr_ac hx hb hK hP e56 dX9_putIn_56 ?_
        obtain ⟨M57, e57, hf⟩ := zb hf
        refine zr_sc hx hb hK hP hS e57 dX9_putIn_57 (fun H locs hP _ hS => ?_)
        obtain ⟨x3_58, q58, hf⟩ := zlt_s hf
        refine lv_iinc (v := x3_58) (lv' := [(3, .int x3_58), (0, .ref (b + h0)), (1, .int x1), (2, .int x2)]) hx hb dX9_putIn_58 hl (k := 3) rfl (by rw [← q58]; rfl) (by decide) rfl (fun ls hl => ?_)
        refine lv_goto (tgt := 39) hx hb dX9_putIn_61 (by decide) ?_
        exact ih39 _ _ _ _ _ _ _ _ hf hP hS (lv_sub hl [1, 2, 3, 0] rfl)
  have L12 : ∀ (n12 : Nat) (M : Mem) (H : Heap) (locs : List Loc) (ls : Array Slot) (h0 : Nat) (x1 : Int32) (x2 : Int32) (x3 : Int32), fX9_putIn_12L  n12 M h0 x1 x2 x3 = some rr → zH D cy b M H → va_S (zA b) s.heap H locs → lv_has ls 4 [(0, .ref (b + h0)), (1, .int x1), (2, .int x2), (3, .int x3)] → W p l e (headSpec wsX9_putIn ({ frames := 6, cells := 0, slots := 0, locals := 153 } : Room)).room s m ([.ref (b + h0), .int x1, .int x2] : List Value).toArray below meth c H locs 0 0 (MQ below (zQv D cy b rr) ([.ref (b + h0), .int x1, .int x2] : List Value).toArray s 0 0 (zA b)) (F0 m 12 ls []) := by
    intro n12
    induction n12 with
    | zero =>
      intro M H locs ls h0 x1 x2 x3 hf
      have hf : (none : Option Mem) = some rr := hf
      cases hf
    | succ n12 ih12 =>
      intro M H locs ls h0 x1 x2 x3 hf hP hS hl
      have hf : fX9_putIn_12  (fX9_putIn_12L  n12) M h0 x1 x2 x3 = some rr := hf
      unfold fX9_putIn_12 at hf
      refine lv_iload_n hx hb dX9_putIn_12 rfl (lv_at hl 3 rfl) ?_
      refine lv_iload_n hx hb dX9_putIn_13 rfl (lv_at hl 1 rfl) ?_
      refine lv_icmp_lt (tgt := 37) hx hb dX9_putIn_14 (by decide) (fun c14 => ?_) (fun c14 => ?_)
      · have hf := (if_pos c14).symm.trans hf
        refine lv_iconst (v := (0 : Int32)) hx hb dX9_putIn_37 (by decide) ?_
        refine lv_istore_n (lv' := [(3, .int (0 : Int32)), (0, .ref (b + h0)), (1, .int x1), (2, .int x2)]) hx hb dX9_putIn_38 rfl hl (by decide) rfl (fun ls hl => ?_)
        exact L39 _ _ _ _ _ _ _ _ _ hf hP hS (lv_sub hl [1, 2, 3, 0] rfl)
      · have hf := (if_neg c14).symm.trans hf
        refine lv_aload_n hx hb dX9_putIn_17 rfl (lv_at hl 0 rfl) ?_
        obtain ⟨v18, e18, hf⟩ := zb hf
        refine zr_gr (ci := 9) (k := 32) (C := RX9) (T := TX9) (N := 54) hx hb hts hi_X9_putIn_9 hown hK hP e18 rfl rfl (by decide) (by decide) (hts (.fieldLink RX9 78 "BoundaryAnalyzerModel" "text" "[C") (List.mem_of_getElem? (i := 2) rfl)) dX9_putIn_18 ?_
        refine lv_iload_n hx hb dX9_putIn_21 rfl (lv_at hl 3 rfl) ?_
        refine lv_iload_n hx hb dX9_putIn_22 rfl (lv_at hl 2 rfl) ?_
        refine lv_iadd hx hb dX9_putIn_23 ?_
        refine lv_aload_n hx hb dX9_putIn_24 rfl (lv_at hl 0 rfl) ?_
        obtain ⟨v25, e25, hf⟩ := zb hf
        refine zr_gr (ci := 9) (k := 32) (C := RX9) (T := TX9) (N := 54) hx hb hts hi_X9_putIn_9 hown hK hP e25 rfl rfl (by decide) (by decide) (hts (.fieldLink RX9 78 "BoundaryAnalyzerModel" "text" "[C") (List.mem_of_getElem? (i := 2) rfl)) dX9_putIn_25 ?_
        refine lv_iload_n hx hb dX9_putIn_28 rfl (lv_at hl 3 rfl) ?_
        obtain ⟨v29, e29, hf⟩ := zb hf
        refine zr_ac hx hb hK hP e29 dX9_putIn_29 ?_
        obtain ⟨M30, e30, hf⟩ := zb hf
        refine zr_sc hx hb hK hP hS e30 dX9_putIn_30 (fun H locs hP _ hS => ?_)
        obtain ⟨x3_31, q31, hf⟩ := zlt_s hf
        refine lv_iinc (v := x3_31) (lv' := [(3, .int x3_31), (0, .ref (b + h0)), (1, .int x1), (2, .int x2)]) hx hb dX9_putIn_31 hl (k := 3) rfl (by rw [← q31]; rfl) (by decide) rfl (fun ls hl => ?_)
        refine lv_goto (tgt := 12) hx hb dX9_putIn_34 (by decide) ?_
        exact ih12 _ _ _ _ _ _ _ _ hf hP hS (lv_sub hl [1, 2, 3, 0] rfl)
  unfold fX9_putIn at hf
  refine lv_aload_n hx hb dX9_putIn_0 rfl (lv_at hl 0 rfl) ?_
  refine lv_iload_n hx hb dX9_putIn_1 rfl (lv_at hl 1 rfl) ?_
  obtain ⟨u2, t2, hf⟩ := zb hf
  obtain ⟨M2, e2, hf⟩ := zb hf
  refine zc_v hS (va_runV (As := [.int x1]) (rest := []) ⟨hx, hb, hml, hown, hts⟩ (k_X9_findStarts l D cy b M0 h0 x1 M2 e2) (cwV 1 hts gX9_putIn_X9_findStarts rfl rfl rfl (by decide +kernel) ⟨Nat.le_of_ble_eq_true rfl, Nat.le_of_ble_eq_true rfl⟩) (zp_V _ hK hP t2 (T := TX9) (N := 54) rfl (by decide)) rfl rfl hl.1 rfl (lv_room (Nat.le_of_ble_eq_true rfl)) dX9_putIn_2 ⟨Nat.zero_le _, Nat.zero_le _⟩) (fun H locs hP hS => ?_)
  refine lv_aload_n hx hb dX9_putIn_5 rfl (lv_at hl 0 rfl) ?_
  obtain ⟨v6, e6, hf⟩ := zb hf
  refine zr_gi (ci := 9) (k := 31) (C := RX9) (T := TX9) (N := 54) hx hb hts hi_X9_putIn_9 hown hK hP e6 rfl rfl (by decide) (by decide) (hts (.fieldLink RX9 207 "BoundaryAnalyzerModel" "length" "I") (List.mem_of_getElem? (i := 1) rfl)) dX9_putIn_6 ?_
  refine lv_iconst (v := (1 : Int32)) hx hb dX9_putIn_9 (by decide) ?_
  refine lv_isub hx hb dX9_putIn_10 ?_
  obtain ⟨x3_11, q11, hf⟩ := zlt_s hf
  refine zt q11 ?_
  refine lv_istore_n (lv' := [(3, .int x3_11), (0, .ref (b + h0)), (1, .int x1), (2, .int x2)]) hx hb dX9_putIn_11 rfl hl (by decide) rfl (fun ls hl => ?_)
  exact L12 _ _ _ _ _ _ _ _ _ hf hP hS (lv_sub hl [1, 2, 3, 0] rfl)
theorem hi_X9_takeOut_9 : ∀ w ∈ wsX90, w ∈ wsX9_takeOut := fun _ h => List.mem_cons_of_mem _ (List.mem_append_right _ h)
set_option maxHeartbeats 4000000 in
set_option maxRecDepth 100000 in
theorem k_X9_takeOut (l : Launch) (D : va_G) (cy : Nat → ClassId) (b : Nat) (M0 : Mem) (h0 : Nat) (x1 : Int32) (x2 : Int32) (rr : Mem) (hf : fX9_takeOut M0 h0 x1 x2 = some rr) : Met l yX9_takeOut wsX9_takeOut ({ frames := 6, cells := 0, slots := 0, locals := 153 } : Room) (zPc D cy b M0 [.ref (b + h0), .int x1, .int x2]) (zQv D cy b rr) 0 0 (zA b) := by
  refine Met.ofW (cc := cX9_takeOut) (maxL := 4) (ret := none) (by decide) rfl ?_
  intro p e s m args below meth c s₁ B hml hv
  obtain ⟨rfl, hP, hK⟩ := hv
  have hx := B.exec
  have hb := B.bytes
  have hr := B.returns
  have hts := atoms_spec (ws := wsX9_takeOut) B.pre
  have hown : s.vm.findClass RX9 = some m.cls := findClass_of_methodNamed B.named
  have hlocks := B.notSynchronized
  have hS : va_S (zA b) s.heap s.heap [] := va_S.rf
  have hl := lv_entry ([.ref (b + h0), .int x1, .int x2]) (n := 4) (Nat.le_of_ble_eq_true rfl)
  rw [lg_entry_eq]
  generalize (lg_sl ([.ref (b + h0), .int x1, .int x2]) ++ List.replicate (4 - (lg_sl ([.ref (b + h0), .int x1, .int x2])).length) Slot.unset).toArray = ls at hl ⊢
  have hl : lv_has ls 4 [(0, .ref (b + h0)), (1, .int x1), (2, .int x2)] := hl
  have L17 : ∀ (n17 : Nat) (M : Mem) (H : Heap) (locs : List Loc) (ls : Array Slot) (h0 : Nat) (x1 : Int32) (x2 : Int32) (x3 : Int32), fX9_takeOut_17L  n17 M h0 x1 x2 x3 = some rr → zH D cy b M H → va_S (zA b) s.heap H locs → lv_has ls 4 [(0, .ref (b + h0)), (1, .int x1), (2, .int x2), (3, .int x3)] → W p l e (headSpec wsX9_takeOut ({ frames := 6, cells := 0, slots := 0, locals := 153 } : Room)).room s m ([.ref (b + h0), .int x1, .int x2] : List Value).toArray below meth c H locs 0 0 (MQ below (zQv D cy b rr) ([.ref (b + h0), .int x1, .int x2] : List Value).toArray s 0 0 (zA b)) (F0 m 17 ls []) := by
    intro n17
    induction n17 with
    | zero =>
      intro M H locs ls h0 x1 x2 x3 hf
      have hf : (none : Option Mem) = some rr := hf
      cases hf
    | succ n17 ih17 =>
      intro M H locs ls h0 x1 x2 x3 hf hP hS hl
      have hf : fX9_takeOut_17  (fX9_takeOut_17L  n17) M h0 x1 x2 x3 = some rr := hf
      unfold fX9_takeOut_17 at hf
      refine lv_iload_n hx hb dX9_takeOut_17 rfl (lv_at hl 3 rfl) ?_
      refine lv_aload_n hx hb dX9_takeOut_18 rfl (lv_at hl 0 rfl) ?_
      obtain ⟨v19, e19, hf⟩ := zb hf
      refine zr_gi (ci := 9) (k := 31) (C := RX9) (T := TX9) (N := 54) hx hb hts hi_X9_takeOut_9 hown hK hP e19 rfl rfl (by decide) (by decide) (hts (.fieldLink RX9 207 "BoundaryAnalyzerModel" "length" "I") (List.mem_of_getElem? (i := 1) rfl)) dX9_takeOut_19 ?_
      refine lv_icmp_ge (tgt := 45) hx hb dX9_takeOut_22 (by decide) (fun c22 => ?_) (fun c22 => ?_)
      · have hf := (if_pos c22).symm.trans hf
        refine lv_aload_n hx hb dX9_takeOut_45 rfl (lv_at hl 0 rfl) ?_
        refine lv_iload_n hx hb dX9_takeOut_46 rfl (lv_at hl 1 rfl) ?_
        refine lv_iload_n hx hb dX9_takeOut_47 rfl (lv_at hl 2 rfl) ?_
        refine lv_ineg hx hb dX9_takeOut_48 ?_
        obtain ⟨u49, t49, hf⟩ := zb hf
        obtain ⟨M49, e49, hf⟩ := zb hf
        refine zc_v hS (va_runV (As := [.int x1, .int (-x2)]) (rest := []) ⟨hx, hb, hml, hown, hts⟩ (k_X9_repairAll l D cy b M h0 x1 -x2 M49 e49) (cwV 2 hts gX9_takeOut_X9_repairAll rfl rfl rfl (by decide +kernel) ⟨Nat.le_of_ble_eq_true rfl, Nat.le_of_ble_eq_true rfl⟩) (zp_V _ hK hP t49 (T := TX9) (N := 54) rfl (by decide)) rfl rfl hl.1 rfl (lv_room (Nat.le_of_ble_eq_true rfl)) dX9_takeOut_49 ⟨Nat.zero_le _, Nat.zero_le _⟩) (fun H locs hP hS => ?_)
        exact zret_v hx hb hr hlocks hf hP hS dX9_takeOut_52
      · have hf := (if_neg c22).symm.trans hf
        refine lv_aload_n hx hb dX9_takeOut_25 rfl (lv_at hl 0 rfl) ?_
        obtain ⟨v26, e26, hf⟩ := zb hf
        refine zr_gr (ci := 9) (k := 32) (C := RX9) (T := TX9) (N := 54) hx hb hts hi_X9_takeOut_9 hown hK hP e26 rfl rfl (by decide) (by decide) (hts (.fieldLink RX9 78 "BoundaryAnalyzerModel" "text" "[C") (List.mem_of_getElem? (i := 2) rfl)) dX9_takeOut_26 ?_
        refine lv_iload_n hx hb dX9_takeOut_29 rfl (lv_at hl 3 rfl) ?_
        refine lv_aload_n hx hb dX9_takeOut_30 rfl (lv_at hl 0 rfl) ?_
        obtain ⟨v31, e31, hf⟩ := zb hf
        refine zr_gr (ci := 9) (k := 32) (C := RX9) (T := TX9) (N := 54) hx hb hts hi_X9_takeOut_9 hown hK hP e31 rfl rfl (by decide) (by decide) (hts (.fieldLink RX9 78 "BoundaryAnalyzerModel" "text" "[C") (List.mem_of_getElem? (i := 2) rfl)) dX9_takeOut_31 ?_
        refine lv_iload_n hx hb dX9_takeOut_34 rfl (lv_at hl 3 rfl) ?_
        refine lv_iload_n hx hb dX9_takeOut_35 rfl (lv_at hl 2 rfl) ?_
        refine lv_iadd hx hb dX9_takeOut_36 ?_
        obtain ⟨v37, e37, hf⟩ := zb hf
        refine zr_ac hx hb hK hP e37 dX9_takeOut_37 ?_
        obtain ⟨M38, e38, hf⟩ := zb hf
        refine zr_sc hx hb hK hP hS e38 dX9_takeOut_38 (fun H locs hP _ hS => ?_)
        obtain ⟨x3_39, q39, hf⟩ := zlt_s hf
        refine lv_iinc (v := x3_39) (lv' := [(3, .int x3_39), (0, .ref (b + h0)), (1, .int x1), (2, .int x2)]) hx hb dX9_takeOut_39 hl (k := 3) rfl (by rw [← q39]; rfl) (by decide) rfl (fun ls hl => ?_)
        refine lv_goto (tgt := 17) hx hb dX9_takeOut_42 (by decide) ?_
        exact ih17 _ _ _ _ _ _ _ _ hf hP hS (lv_sub hl [1, 2, 3, 0] rfl)
  unfold fX9_takeOut at hf
  refine lv_aload_n hx hb dX9_takeOut_0 rfl (lv_at hl 0 rfl) ?_
  refine lv_iload_n hx hb dX9_takeOut_1 rfl (lv_at hl 1 rfl) ?_
  obtain ⟨u2, t2, hf⟩ := zb hf
  obtain ⟨M2, e2, hf⟩ := zb hf
  refine zc_v hS (va_runV (As := [.int x1]) (rest := []) ⟨hx, hb, hml, hown, hts⟩ (k_X9_findStarts l D cy b M0 h0 x1 M2 e2) (cwV 1 hts gX9_takeOut_X9_findStarts rfl rfl rfl (by decide +kernel) ⟨Nat.le_of_ble_eq_true rfl, Nat.le_of_ble_eq_true rfl⟩) (zp_V _ hK hP t2 (T := TX9) (N := 54) rfl (by decide)) rfl rfl hl.1 rfl (lv_room (Nat.le_of_ble_eq_true rfl)) dX9_takeOut_2 ⟨Nat.zero_le _, Nat.zero_le _⟩) (fun H locs hP hS => ?_)
  refine lv_aload_n hx hb dX9_takeOut_5 rfl (lv_at hl 0 rfl) ?_
  refine lv_dup hx hb dX9_takeOut_6 rfl ?_
  obtain ⟨v7, e7, hf⟩ := zb hf
  refine zr_gi (ci := 9) (k := 31) (C := RX9) (T := TX9) (N := 54) hx hb hts hi_X9_takeOut_9 hown hK hP e7 rfl rfl (by decide) (by decide) (hts (.fieldLink RX9 207 "BoundaryAnalyzerModel" "length" "I") (List.mem_of_getElem? (i := 1) rfl)) dX9_takeOut_7 ?_
  refine lv_iload_n hx hb dX9_takeOut_10 rfl (lv_at hl 2 rfl) ?_
  refine lv_isub hx hb dX9_takeOut_11 ?_
  obtain ⟨M12, e12, hf⟩ := zb hf
  refine zr_pi (ci := 9) (k := 31) (C := RX9) (T := TX9) (N := 54) hx hb hts hi_X9_takeOut_9 tyX9 tyX9_ok nmX9 hown hK hP hS e12 rfl rfl (by decide) (by decide) (hts (.fieldLink RX9 207 "BoundaryAnalyzerModel" "length" "I") (List.mem_of_getElem? (i := 1) rfl)) rfl (tyX9_ok 31 (by decide)) dX9_takeOut_12 (fun H locs hP _ hS => ?_)
  refine lv_iload_n hx hb dX9_takeOut_15 rfl (lv_at hl 1 rfl) ?_
  refine lv_istore_n (lv' := [(3, .int x1), (0, .ref (b + h0)), (1, .int x1), (2, .int x2)]) hx hb dX9_takeOut_16 rfl hl (by decide) rfl (fun ls hl => ?_)
  exact L17 _ _ _ _ _ _ _ _ _ hf hP hS (lv_sub hl [1, 2, 3, 0] rfl)
