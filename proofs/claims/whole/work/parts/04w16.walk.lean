theorem hi_X9_keepRule_9 : ∀ w ∈ wsX90, w ∈ wsX9_keepRule := fun _ h => List.mem_cons_of_mem _ (List.mem_append_right _ h)
set_option maxHeartbeats 4000000 in
set_option maxRecDepth 100000 in
theorem k_X9_keepRule (l : Launch) (D : va_G) (cy : Nat → ClassId) (b : Nat) (M0 : Mem) (h0 : Nat) (x1 : Int32) (rr : Mem) (hf : fX9_keepRule M0 h0 x1 = some rr) : Met l yX9_keepRule wsX9_keepRule ({ frames := 0, cells := 0, slots := 0, locals := 0 } : Room) (zPc D cy b M0 [.ref (b + h0), .int x1]) (zQv D cy b rr) 0 0 (zA b) := by
  refine Met.ofW (cc := cX9_keepRule) (maxL := 3) (ret := none) (by decide) rfl ?_
  intro p e s m args below meth c s₁ B hml hv
  obtain ⟨rfl, hP, hK⟩ := hv
  have hx := B.exec
  have hb := B.bytes
  have hr := B.returns
  have hts := atoms_spec (ws := wsX9_keepRule) B.pre
  have hown : s.vm.findClass RX9 = some m.cls := findClass_of_methodNamed B.named
  have hlocks := B.notSynchronized
  have hS : va_S (zA b) s.heap s.heap [] := va_S.rf
  have hl := lv_entry ([.ref (b + h0), .int x1]) (n := 3) (Nat.le_of_ble_eq_true rfl)
  rw [lg_entry_eq]
  generalize (lg_sl ([.ref (b + h0), .int x1]) ++ List.replicate (3 - (lg_sl ([.ref (b + h0), .int x1])).length) Slot.unset).toArray = ls at hl ⊢
  have hl : lv_has ls 3 [(0, .ref (b + h0)), (1, .int x1)] := hl
  have L173 : ∀ (n173 : Nat) (M : Mem) (H : Heap) (locs : List Loc) (ls : Array Slot) (h0 : Nat) (x1 : Int32) (x2 : Int32), fX9_keepRule_173L  n173 M h0 x1 x2 = some rr → zH D cy b M H → va_S (zA b) s.heap H locs → lv_has ls 3 [(0, .ref (b + h0)), (1, .int x1), (2, .int x2)] → W p l e (headSpec wsX9_keepRule ({ frames := 0, cells := 0, slots := 0, locals := 0 } : Room)).room s m ([.ref (b + h0), .int x1] : List Value).toArray below meth c H locs 0 0 (MQ below (zQv D cy b rr) ([.ref (b + h0), .int x1] : List Value).toArray s 0 0 (zA b)) (F0 m 173 ls []) := by
    intro n173
    induction n173 with
    | zero =>
      intro M H locs ls h0 x1 x2 hf
      have hf : (none : Option Mem) = some rr := hf
      cases hf
    | succ n173 ih173 =>
      intro M H locs ls h0 x1 x2 hf hP hS hl
      have hf : fX9_keepRule_173  (fX9_keepRule_173L  n173) M h0 x1 x2 = some rr := hf
      unfold fX9_keepRule_173 at hf
      refine lv_iload_n hx hb dX9_keepRule_173 rfl (lv_at hl 2 rfl) ?_
      refine lv_aload_n hx hb dX9_keepRule_174 rfl (lv_at hl 0 rfl) ?_
      obtain ⟨v175, e175, hf⟩ := zb hf
      refine zr_gi (ci := 9) (k := 1) (C := RX9) (T := TX9) (N := 54) hx hb hts hi_X9_keepRule_9 hown hK hP e175 rfl rfl (by decide) (by decide) (hts (.fieldLink RX9 144 "BoundaryAnalyzerModel" "typed" "I") (List.mem_of_getElem? (i := 2) rfl)) dX9_keepRule_175 ?_
      refine lv_icmp_ge (tgt := 238) hx hb dX9_keepRule_178 (by decide) (fun c178 => ?_) (fun c178 => ?_)
      · have hf := (if_pos c178).symm.trans hf
        exact zret_v hx hb hr hlocks hf hP hS dX9_keepRule_238
      · have hf := (if_neg c178).symm.trans hf
        refine lv_aload_n hx hb dX9_keepRule_181 rfl (lv_at hl 0 rfl) ?_
        obtain ⟨v182, e182, hf⟩ := zb hf
        refine zr_gr (ci := 9) (k := 21) (C := RX9) (T := TX9) (N := 54) hx hb hts hi_X9_keepRule_9 hown hK hP e182 rfl rfl (by decide) (by decide) (hts (.fieldLink RX9 48 "BoundaryAnalyzerModel" "ruleAt" "[C") (List.mem_of_getElem? (i := 17) rfl)) dX9_keepRule_182 ?_
        refine lv_bipush (v := (24 : Int32)) hx hb dX9_keepRule_185 (by decide) ?_
        refine lv_iload_n hx hb dX9_keepRule_187 rfl (lv_at hl 1 rfl) ?_
        refine lv_imul hx hb dX9_keepRule_188 ?_
        refine lv_iload_n hx hb dX9_keepRule_189 rfl (lv_at hl 2 rfl) ?_
        refine lv_iadd hx hb dX9_keepRule_190 ?_
        refine lv_aload_n hx hb dX9_keepRule_191 rfl (lv_at hl 0 rfl) ?_
        obtain ⟨v192, e192, hf⟩ := zb hf
        refine zr_gr (ci := 9) (k := 2) (C := RX9) (T := TX9) (N := 54) hx hb hts hi_X9_keepRule_9 hown hK hP e192 rfl rfl (by decide) (by decide) (hts (.fieldLink RX9 13 "BoundaryAnalyzerModel" "pattern" "[C") (List.mem_of_getElem? (i := 18) rfl)) dX9_keepRule_192 ?_
        refine lv_iload_n hx hb dX9_keepRule_195 rfl (lv_at hl 2 rfl) ?_
        obtain ⟨v196, e196, hf⟩ := zb hf
        refine zr_ac hx hb hK hP e196 dX9_keepRule_196 ?_
        obtain ⟨M197, e197, hf⟩ := zb hf
        refine zr_sc hx hb hK hP hS e197 dX9_keepRule_197 (fun H locs hP _ hS => ?_)
        refine lv_aload_n hx hb dX9_keepRule_198 rfl (lv_at hl 0 rfl) ?_
        obtain ⟨v199, e199, hf⟩ := zb hf
        refine zr_gr (ci := 9) (k := 22) (C := RX9) (T := TX9) (N := 54) hx hb hts hi_X9_keepRule_9 hown hK hP e199 rfl rfl (by decide) (by decide) (hts (.fieldLink RX9 51 "BoundaryAnalyzerModel" "classOfPlace" "[I") (List.mem_of_getElem? (i := 19) rfl)) dX9_keepRule_199 ?_
        refine lv_bipush (v := (24 : Int32)) hx hb dX9_keepRule_202 (by decide) ?_
        refine lv_iload_n hx hb dX9_keepRule_204 rfl (lv_at hl 1 rfl) ?_
        refine lv_imul hx hb dX9_keepRule_205 ?_
        refine lv_iload_n hx hb dX9_keepRule_206 rfl (lv_at hl 2 rfl) ?_
        refine lv_iadd hx hb dX9_keepRule_207 ?_
        refine lv_aload_n hx hb dX9_keepRule_208 rfl (lv_at hl 0 rfl) ?_
        obtain ⟨v209, e209, hf⟩ := zb hf
        refine zr_gr (ci := 9) (k := 14) (C := RX9) (T := TX9) (N := 54) hx hb hts hi_X9_keepRule_9 hown hK hP e209 rfl rfl (by decide) (by decide) (hts (.fieldLink RX9 39 "BoundaryAnalyzerModel" "readClass" "[I") (List.mem_of_getElem? (i := 20) rfl)) dX9_keepRule_209 ?_
        refine lv_iload_n hx hb dX9_keepRule_212 rfl (lv_at hl 2 rfl) ?_
        obtain ⟨v213, e213, hf⟩ := zb hf
        refine zr_ai hx hb hK hP e213 dX9_keepRule_213 ?_
        obtain ⟨M214, e214, hf⟩ := zb hf
        refine zr_si hx hb hK hP hS e214 dX9_keepRule_214 (fun H locs hP _ hS => ?_)
        refine lv_aload_n hx hb dX9_keepRule_215 rfl (lv_at hl 0 rfl) ?_
        obtain ⟨v216, e216, hf⟩ := zb hf
        refine zr_gr (ci := 9) (k := 23) (C := RX9) (T := TX9) (N := 54) hx hb hts hi_X9_keepRule_9 hown hK hP e216 rfl rfl (by decide) (by decide) (hts (.fieldLink RX9 54 "BoundaryAnalyzerModel" "nextOf" "[I") (List.mem_of_getElem? (i := 21) rfl)) dX9_keepRule_216 ?_
        refine lv_bipush (v := (24 : Int32)) hx hb dX9_keepRule_219 (by decide) ?_
        refine lv_iload_n hx hb dX9_keepRule_221 rfl (lv_at hl 1 rfl) ?_
        refine lv_imul hx hb dX9_keepRule_222 ?_
        refine lv_iload_n hx hb dX9_keepRule_223 rfl (lv_at hl 2 rfl) ?_
        refine lv_iadd hx hb dX9_keepRule_224 ?_
        refine lv_aload_n hx hb dX9_keepRule_225 rfl (lv_at hl 0 rfl) ?_
        obtain ⟨v226, e226, hf⟩ := zb hf
        refine zr_gr (ci := 9) (k := 15) (C := RX9) (T := TX9) (N := 54) hx hb hts hi_X9_keepRule_9 hown hK hP e226 rfl rfl (by decide) (by decide) (hts (.fieldLink RX9 42 "BoundaryAnalyzerModel" "readNext" "[I") (List.mem_of_getElem? (i := 22) rfl)) dX9_keepRule_226 ?_
        refine lv_iload_n hx hb dX9_keepRule_229 rfl (lv_at hl 2 rfl) ?_
        obtain ⟨v230, e230, hf⟩ := zb hf
        refine zr_ai hx hb hK hP e230 dX9_keepRule_230 ?_
        obtain ⟨M231, e231, hf⟩ := zb hf
        refine zr_si hx hb hK hP hS e231 dX9_keepRule_231 (fun H locs hP _ hS => ?_)
        obtain ⟨x2_232, q232, hf⟩ := zlt_s hf
        refine lv_iinc (v := x2_232) (lv' := [(2, .int x2_232), (0, .ref (b + h0)), (1, .int x1)]) hx hb dX9_keepRule_232 hl (k := 2) rfl (by rw [← q232]; rfl) (by decide) rfl (fun ls hl => ?_)
        refine lv_goto (tgt := 173) hx hb dX9_keepRule_235 (by decide) ?_
        exact ih173 _ _ _ _ _ _ _ hf hP hS (lv_sub hl [1, 2, 0] rfl)
  have J170 : ∀ (M : Mem) (H : Heap) (locs : List Loc) (ls : Array Slot) (h0 : Nat) (x1 : Int32) (g0 : Nat) (y1 : Int32) (y2 : Int32), fX9_keepRule_170  M h0 x1 g0 y1 y2 = some rr → zH D cy b M H → va_S (zA b) s.heap H locs → lv_has ls 3 [(0, .ref (b + h0)), (1, .int x1)] → W p l e (headSpec wsX9_keepRule ({ frames := 0, cells := 0, slots := 0, locals := 0 } : Room)).room s m ([.ref (b + h0), .int x1] : List Value).toArray below meth c H locs 0 0 (MQ below (zQv D cy b rr) ([.ref (b + h0), .int x1] : List Value).toArray s 0 0 (zA b)) (F0 m 170 ls [.int y2, .int y1, .ref (b + g0)]) := by
    intro M H locs ls h0 x1 g0 y1 y2 hf hP hS hl
    unfold fX9_keepRule_170 at hf
    obtain ⟨M170, e170, hf⟩ := zb hf
    refine zr_si hx hb hK hP hS e170 dX9_keepRule_170 (fun H locs hP _ hS => ?_)
    refine lv_iconst (v := (0 : Int32)) hx hb dX9_keepRule_171 (by decide) ?_
    refine lv_istore_n (lv' := [(2, .int (0 : Int32)), (0, .ref (b + h0)), (1, .int x1)]) hx hb dX9_keepRule_172 rfl hl (by decide) rfl (fun ls hl => ?_)
    exact L173 _ _ _ _ _ _ _ _ hf hP hS (lv_sub hl [1, 2, 0] rfl)
  have J147 : ∀ (M : Mem) (H : Heap) (locs : List Loc) (ls : Array Slot) (h0 : Nat) (x1 : Int32) (g0 : Nat) (y1 : Int32) (y2 : Int32), fX9_keepRule_147  M h0 x1 g0 y1 y2 = some rr → zH D cy b M H → va_S (zA b) s.heap H locs → lv_has ls 3 [(0, .ref (b + h0)), (1, .int x1)] → W p l e (headSpec wsX9_keepRule ({ frames := 0, cells := 0, slots := 0, locals := 0 } : Room)).room s m ([.ref (b + h0), .int x1] : List Value).toArray below meth c H locs 0 0 (MQ below (zQv D cy b rr) ([.ref (b + h0), .int x1] : List Value).toArray s 0 0 (zA b)) (F0 m 147 ls [.int y2, .int y1, .ref (b + g0)]) := by
    intro M H locs ls h0 x1 g0 y1 y2 hf hP hS hl
    unfold fX9_keepRule_147 at hf
    obtain ⟨M147, e147, hf⟩ := zb hf
    refine zr_si hx hb hK hP hS e147 dX9_keepRule_147 (fun H locs hP _ hS => ?_)
    refine lv_aload_n hx hb dX9_keepRule_148 rfl (lv_at hl 0 rfl) ?_
    obtain ⟨v149, e149, hf⟩ := zb hf
    refine zr_gr (ci := 9) (k := 30) (C := RX9) (T := TX9) (N := 54) hx hb hts hi_X9_keepRule_9 hown hK hP e149 rfl rfl (by decide) (by decide) (hts (.fieldLink RX9 75 "BoundaryAnalyzerModel" "lookLast" "[I") (List.mem_of_getElem? (i := 16) rfl)) dX9_keepRule_149 ?_
    refine lv_iload_n hx hb dX9_keepRule_152 rfl (lv_at hl 1 rfl) ?_
    refine lv_aload_n hx hb dX9_keepRule_153 rfl (lv_at hl 0 rfl) ?_
    obtain ⟨v154, e154, hf⟩ := zb hf
    refine zr_gi (ci := 9) (k := 16) (C := RX9) (T := TX9) (N := 54) hx hb hts hi_X9_keepRule_9 hown hK hP e154 rfl rfl (by decide) (by decide) (hts (.fieldLink RX9 175 "BoundaryAnalyzerModel" "readLooks" "Z") (List.mem_of_getElem? (i := 4) rfl)) dX9_keepRule_154 ?_
    refine lv_if_eq (tgt := 169) hx hb dX9_keepRule_157 (by decide) (fun c157 => ?_) (fun c157 => ?_)
    · have hf := (if_pos c157).symm.trans hf
      refine lv_iconst (v := (0 : Int32)) hx hb dX9_keepRule_169 (by decide) ?_
      exact J170 _ _ _ _ _ _ _ _ _ hf hP hS (lv_sub hl [0, 1] rfl)
    · have hf := (if_neg c157).symm.trans hf
      refine lv_aload_n hx hb dX9_keepRule_160 rfl (lv_at hl 0 rfl) ?_
      obtain ⟨v161, e161, hf⟩ := zb hf
      refine zr_gr (ci := 9) (k := 5) (C := RX9) (T := TX9) (N := 54) hx hb hts hi_X9_keepRule_9 hown hK hP e161 rfl rfl (by decide) (by decide) (hts (.fieldLink RX9 24 "BoundaryAnalyzerModel" "altLast" "[I") (List.mem_of_getElem? (i := 13) rfl)) dX9_keepRule_161 ?_
      refine lv_iconst (v := (0 : Int32)) hx hb dX9_keepRule_164 (by decide) ?_
      obtain ⟨v165, e165, hf⟩ := zb hf
      refine zr_ai hx hb hK hP e165 dX9_keepRule_165 ?_
      refine lv_goto (tgt := 170) hx hb dX9_keepRule_166 (by decide) ?_
      exact J170 _ _ _ _ _ _ _ _ _ hf hP hS (lv_sub hl [0, 1] rfl)
  have J124 : ∀ (M : Mem) (H : Heap) (locs : List Loc) (ls : Array Slot) (h0 : Nat) (x1 : Int32) (g0 : Nat) (y1 : Int32) (y2 : Int32), fX9_keepRule_124  M h0 x1 g0 y1 y2 = some rr → zH D cy b M H → va_S (zA b) s.heap H locs → lv_has ls 3 [(0, .ref (b + h0)), (1, .int x1)] → W p l e (headSpec wsX9_keepRule ({ frames := 0, cells := 0, slots := 0, locals := 0 } : Room)).room s m ([.ref (b + h0), .int x1] : List Value).toArray below meth c H locs 0 0 (MQ below (zQv D cy b rr) ([.ref (b + h0), .int x1] : List Value).toArray s 0 0 (zA b)) (F0 m 124 ls [.int y2, .int y1, .ref (b + g0)]) := by
    intro M H locs ls h0 x1 g0 y1 y2 hf hP hS hl
    unfold fX9_keepRule_124 at hf
    obtain ⟨M124, e124, hf⟩ := zb hf
    refine zr_sz hx hb hK hP hS e124 dX9_keepRule_124 (fun H locs hP _ hS => ?_)
    refine lv_aload_n hx hb dX9_keepRule_125 rfl (lv_at hl 0 rfl) ?_
    obtain ⟨v126, e126, hf⟩ := zb hf
    refine zr_gr (ci := 9) (k := 29) (C := RX9) (T := TX9) (N := 54) hx hb hts hi_X9_keepRule_9 hown hK hP e126 rfl rfl (by decide) (by decide) (hts (.fieldLink RX9 72 "BoundaryAnalyzerModel" "lookFirst" "[I") (List.mem_of_getElem? (i := 15) rfl)) dX9_keepRule_126 ?_
    refine lv_iload_n hx hb dX9_keepRule_129 rfl (lv_at hl 1 rfl) ?_
    refine lv_aload_n hx hb dX9_keepRule_130 rfl (lv_at hl 0 rfl) ?_
    obtain ⟨v131, e131, hf⟩ := zb hf
    refine zr_gi (ci := 9) (k := 16) (C := RX9) (T := TX9) (N := 54) hx hb hts hi_X9_keepRule_9 hown hK hP e131 rfl rfl (by decide) (by decide) (hts (.fieldLink RX9 175 "BoundaryAnalyzerModel" "readLooks" "Z") (List.mem_of_getElem? (i := 4) rfl)) dX9_keepRule_131 ?_
    refine lv_if_eq (tgt := 146) hx hb dX9_keepRule_134 (by decide) (fun c134 => ?_) (fun c134 => ?_)
    · have hf := (if_pos c134).symm.trans hf
      refine lv_iconst (v := (0 : Int32)) hx hb dX9_keepRule_146 (by decide) ?_
      exact J147 _ _ _ _ _ _ _ _ _ hf hP hS (lv_sub hl [0, 1] rfl)
    · have hf := (if_neg c134).symm.trans hf
      refine lv_aload_n hx hb dX9_keepRule_137 rfl (lv_at hl 0 rfl) ?_
      obtain ⟨v138, e138, hf⟩ := zb hf
      refine zr_gr (ci := 9) (k := 4) (C := RX9) (T := TX9) (N := 54) hx hb hts hi_X9_keepRule_9 hown hK hP e138 rfl rfl (by decide) (by decide) (hts (.fieldLink RX9 21 "BoundaryAnalyzerModel" "altFirst" "[I") (List.mem_of_getElem? (i := 10) rfl)) dX9_keepRule_138 ?_
      refine lv_iconst (v := (0 : Int32)) hx hb dX9_keepRule_141 (by decide) ?_
      obtain ⟨v142, e142, hf⟩ := zb hf
      refine zr_ai hx hb hK hP e142 dX9_keepRule_142 ?_
      refine lv_goto (tgt := 147) hx hb dX9_keepRule_143 (by decide) ?_
      exact J147 _ _ _ _ _ _ _ _ _ hf hP hS (lv_sub hl [0, 1] rfl)
  have J119 : ∀ (M : Mem) (H : Heap) (locs : List Loc) (ls : Array Slot) (h0 : Nat) (x1 : Int32) (g0 : Nat) (y1 : Int32), fX9_keepRule_119  M h0 x1 g0 y1 = some rr → zH D cy b M H → va_S (zA b) s.heap H locs → lv_has ls 3 [(0, .ref (b + h0)), (1, .int x1)] → W p l e (headSpec wsX9_keepRule ({ frames := 0, cells := 0, slots := 0, locals := 0 } : Room)).room s m ([.ref (b + h0), .int x1] : List Value).toArray below meth c H locs 0 0 (MQ below (zQv D cy b rr) ([.ref (b + h0), .int x1] : List Value).toArray s 0 0 (zA b)) (F0 m 119 ls [.int y1, .ref (b + g0)]) := by
    intro M H locs ls h0 x1 g0 y1 hf hP hS hl
    unfold fX9_keepRule_119 at hf
    refine lv_iconst (v := (1 : Int32)) hx hb dX9_keepRule_119 (by decide) ?_
    refine lv_goto (tgt := 124) hx hb dX9_keepRule_120 (by decide) ?_
    exact J124 _ _ _ _ _ _ _ _ _ hf hP hS (lv_sub hl [0, 1] rfl)
  have J97 : ∀ (M : Mem) (H : Heap) (locs : List Loc) (ls : Array Slot) (h0 : Nat) (x1 : Int32) (g0 : Nat) (y1 : Int32) (y2 : Int32), fX9_keepRule_97  M h0 x1 g0 y1 y2 = some rr → zH D cy b M H → va_S (zA b) s.heap H locs → lv_has ls 3 [(0, .ref (b + h0)), (1, .int x1)] → W p l e (headSpec wsX9_keepRule ({ frames := 0, cells := 0, slots := 0, locals := 0 } : Room)).room s m ([.ref (b + h0), .int x1] : List Value).toArray below meth c H locs 0 0 (MQ below (zQv D cy b rr) ([.ref (b + h0), .int x1] : List Value).toArray s 0 0 (zA b)) (F0 m 97 ls [.int y2, .int y1, .ref (b + g0)]) := by
    intro M H locs ls h0 x1 g0 y1 y2 hf hP hS hl
    unfold fX9_keepRule_97 at hf
    obtain ⟨M97, e97, hf⟩ := zb hf
    refine zr_si hx hb hK hP hS e97 dX9_keepRule_97 (fun H locs hP _ hS => ?_)
    refine lv_aload_n hx hb dX9_keepRule_98 rfl (lv_at hl 0 rfl) ?_
    obtain ⟨v99, e99, hf⟩ := zb hf
    refine zr_gr (ci := 9) (k := 28) (C := RX9) (T := TX9) (N := 54) hx hb hts hi_X9_keepRule_9 hown hK hP e99 rfl rfl (by decide) (by decide) (hts (.fieldLink RX9 69 "BoundaryAnalyzerModel" "lookNull" "[Z") (List.mem_of_getElem? (i := 14) rfl)) dX9_keepRule_99 ?_
    refine lv_iload_n hx hb dX9_keepRule_102 rfl (lv_at hl 1 rfl) ?_
    refine lv_aload_n hx hb dX9_keepRule_103 rfl (lv_at hl 0 rfl) ?_
    obtain ⟨v104, e104, hf⟩ := zb hf
    refine zr_gi (ci := 9) (k := 16) (C := RX9) (T := TX9) (N := 54) hx hb hts hi_X9_keepRule_9 hown hK hP e104 rfl rfl (by decide) (by decide) (hts (.fieldLink RX9 175 "BoundaryAnalyzerModel" "readLooks" "Z") (List.mem_of_getElem? (i := 4) rfl)) dX9_keepRule_104 ?_
    refine lv_if_eq (tgt := 119) hx hb dX9_keepRule_107 (by decide) (fun c107 => ?_) (fun c107 => ?_)
    · have hf := (if_pos c107).symm.trans hf
      exact J119 _ _ _ _ _ _ _ _ hf hP hS (lv_sub hl [0, 1] rfl)
    · have hf := (if_neg c107).symm.trans hf
      refine lv_aload_n hx hb dX9_keepRule_110 rfl (lv_at hl 0 rfl) ?_
      obtain ⟨v111, e111, hf⟩ := zb hf
      refine zr_gr (ci := 9) (k := 3) (C := RX9) (T := TX9) (N := 54) hx hb hts hi_X9_keepRule_9 hown hK hP e111 rfl rfl (by decide) (by decide) (hts (.fieldLink RX9 17 "BoundaryAnalyzerModel" "altNull" "[Z") (List.mem_of_getElem? (i := 7) rfl)) dX9_keepRule_111 ?_
      refine lv_iconst (v := (0 : Int32)) hx hb dX9_keepRule_114 (by decide) ?_
      obtain ⟨v115, e115, hf⟩ := zb hf
      refine zr_az hx hb hK hP e115 dX9_keepRule_115 ?_
      refine lv_if_eq (tgt := 123) hx hb dX9_keepRule_116 (by decide) (fun c116 => ?_) (fun c116 => ?_)
      · have hf := (if_pos c116).symm.trans hf
        refine lv_iconst (v := (0 : Int32)) hx hb dX9_keepRule_123 (by decide) ?_
        exact J124 _ _ _ _ _ _ _ _ _ hf hP hS (lv_sub hl [0, 1] rfl)
      · have hf := (if_neg c116).symm.trans hf
        exact J119 _ _ _ _ _ _ _ _ hf hP hS (lv_sub hl [0, 1] rfl)
  have J71 : ∀ (M : Mem) (H : Heap) (locs : List Loc) (ls : Array Slot) (h0 : Nat) (x1 : Int32) (g0 : Nat) (y1 : Int32) (y2 : Int32), fX9_keepRule_71  M h0 x1 g0 y1 y2 = some rr → zH D cy b M H → va_S (zA b) s.heap H locs → lv_has ls 3 [(0, .ref (b + h0)), (1, .int x1)] → W p l e (headSpec wsX9_keepRule ({ frames := 0, cells := 0, slots := 0, locals := 0 } : Room)).room s m ([.ref (b + h0), .int x1] : List Value).toArray below meth c H locs 0 0 (MQ below (zQv D cy b rr) ([.ref (b + h0), .int x1] : List Value).toArray s 0 0 (zA b)) (F0 m 71 ls [.int y2, .int y1, .ref (b + g0)]) := by
    intro M H locs ls h0 x1 g0 y1 y2 hf hP hS hl
    unfold fX9_keepRule_71 at hf
    obtain ⟨M71, e71, hf⟩ := zb hf
    refine zr_si hx hb hK hP hS e71 dX9_keepRule_71 (fun H locs hP _ hS => ?_)
    refine lv_aload_n hx hb dX9_keepRule_72 rfl (lv_at hl 0 rfl) ?_
    obtain ⟨v73, e73, hf⟩ := zb hf
    refine zr_gr (ci := 9) (k := 27) (C := RX9) (T := TX9) (N := 54) hx hb hts hi_X9_keepRule_9 hown hK hP e73 rfl rfl (by decide) (by decide) (hts (.fieldLink RX9 66 "BoundaryAnalyzerModel" "bodyLast" "[I") (List.mem_of_getElem? (i := 11) rfl)) dX9_keepRule_73 ?_
    refine lv_iload_n hx hb dX9_keepRule_76 rfl (lv_at hl 1 rfl) ?_
    refine lv_aload_n hx hb dX9_keepRule_77 rfl (lv_at hl 0 rfl) ?_
    obtain ⟨v78, e78, hf⟩ := zb hf
    refine zr_gi (ci := 9) (k := 16) (C := RX9) (T := TX9) (N := 54) hx hb hts hi_X9_keepRule_9 hown hK hP e78 rfl rfl (by decide) (by decide) (hts (.fieldLink RX9 175 "BoundaryAnalyzerModel" "readLooks" "Z") (List.mem_of_getElem? (i := 4) rfl)) dX9_keepRule_78 ?_
    refine lv_if_eq (tgt := 91) hx hb dX9_keepRule_81 (by decide) (fun c81 => ?_) (fun c81 => ?_)
    · have hf := (if_pos c81).symm.trans hf
      refine lv_aload_n hx hb dX9_keepRule_91 rfl (lv_at hl 0 rfl) ?_
      obtain ⟨v92, e92, hf⟩ := zb hf
      refine zr_gr (ci := 9) (k := 5) (C := RX9) (T := TX9) (N := 54) hx hb hts hi_X9_keepRule_9 hown hK hP e92 rfl rfl (by decide) (by decide) (hts (.fieldLink RX9 24 "BoundaryAnalyzerModel" "altLast" "[I") (List.mem_of_getElem? (i := 13) rfl)) dX9_keepRule_92 ?_
      refine lv_iconst (v := (0 : Int32)) hx hb dX9_keepRule_95 (by decide) ?_
      obtain ⟨v96, e96, hf⟩ := zb hf
      refine zr_ai hx hb hK hP e96 dX9_keepRule_96 ?_
      exact J97 _ _ _ _ _ _ _ _ _ hf hP hS (lv_sub hl [0, 1] rfl)
    · have hf := (if_neg c81).symm.trans hf
      refine lv_aload_n hx hb dX9_keepRule_84 rfl (lv_at hl 0 rfl) ?_
      obtain ⟨v85, e85, hf⟩ := zb hf
      refine zr_gi (ci := 9) (k := 19) (C := RX9) (T := TX9) (N := 54) hx hb hts hi_X9_keepRule_9 hown hK hP e85 rfl rfl (by decide) (by decide) (hts (.fieldLink RX9 184 "BoundaryAnalyzerModel" "bodyReadLast" "I") (List.mem_of_getElem? (i := 12) rfl)) dX9_keepRule_85 ?_
      refine lv_goto (tgt := 97) hx hb dX9_keepRule_88 (by decide) ?_
      exact J97 _ _ _ _ _ _ _ _ _ hf hP hS (lv_sub hl [0, 1] rfl)
  have J45 : ∀ (M : Mem) (H : Heap) (locs : List Loc) (ls : Array Slot) (h0 : Nat) (x1 : Int32) (g0 : Nat) (y1 : Int32) (y2 : Int32), fX9_keepRule_45  M h0 x1 g0 y1 y2 = some rr → zH D cy b M H → va_S (zA b) s.heap H locs → lv_has ls 3 [(0, .ref (b + h0)), (1, .int x1)] → W p l e (headSpec wsX9_keepRule ({ frames := 0, cells := 0, slots := 0, locals := 0 } : Room)).room s m ([.ref (b + h0), .int x1] : List Value).toArray below meth c H locs 0 0 (MQ below (zQv D cy b rr) ([.ref (b + h0), .int x1] : List Value).toArray s 0 0 (zA b)) (F0 m 45 ls [.int y2, .int y1, .ref (b + g0)]) := by
    intro M H locs ls h0 x1 g0 y1 y2 hf hP hS hl
    unfold fX9_keepRule_45 at hf
    obtain ⟨M45, e45, hf⟩ := zb hf
    refine zr_sz hx hb hK hP hS e45 dX9_keepRule_45 (fun H locs hP _ hS => ?_)
    refine lv_aload_n hx hb dX9_keepRule_46 rfl (lv_at hl 0 rfl) ?_
    obtain ⟨v47, e47, hf⟩ := zb hf
    refine zr_gr (ci := 9) (k := 26) (C := RX9) (T := TX9) (N := 54) hx hb hts hi_X9_keepRule_9 hown hK hP e47 rfl rfl (by decide) (by decide) (hts (.fieldLink RX9 63 "BoundaryAnalyzerModel" "bodyFirst" "[I") (List.mem_of_getElem? (i := 8) rfl)) dX9_keepRule_47 ?_
    refine lv_iload_n hx hb dX9_keepRule_50 rfl (lv_at hl 1 rfl) ?_
    refine lv_aload_n hx hb dX9_keepRule_51 rfl (lv_at hl 0 rfl) ?_
    obtain ⟨v52, e52, hf⟩ := zb hf
    refine zr_gi (ci := 9) (k := 16) (C := RX9) (T := TX9) (N := 54) hx hb hts hi_X9_keepRule_9 hown hK hP e52 rfl rfl (by decide) (by decide) (hts (.fieldLink RX9 175 "BoundaryAnalyzerModel" "readLooks" "Z") (List.mem_of_getElem? (i := 4) rfl)) dX9_keepRule_52 ?_
    refine lv_if_eq (tgt := 65) hx hb dX9_keepRule_55 (by decide) (fun c55 => ?_) (fun c55 => ?_)
    · have hf := (if_pos c55).symm.trans hf
      refine lv_aload_n hx hb dX9_keepRule_65 rfl (lv_at hl 0 rfl) ?_
      obtain ⟨v66, e66, hf⟩ := zb hf
      refine zr_gr (ci := 9) (k := 4) (C := RX9) (T := TX9) (N := 54) hx hb hts hi_X9_keepRule_9 hown hK hP e66 rfl rfl (by decide) (by decide) (hts (.fieldLink RX9 21 "BoundaryAnalyzerModel" "altFirst" "[I") (List.mem_of_getElem? (i := 10) rfl)) dX9_keepRule_66 ?_
      refine lv_iconst (v := (0 : Int32)) hx hb dX9_keepRule_69 (by decide) ?_
      obtain ⟨v70, e70, hf⟩ := zb hf
      refine zr_ai hx hb hK hP e70 dX9_keepRule_70 ?_
      exact J71 _ _ _ _ _ _ _ _ _ hf hP hS (lv_sub hl [0, 1] rfl)
    · have hf := (if_neg c55).symm.trans hf
      refine lv_aload_n hx hb dX9_keepRule_58 rfl (lv_at hl 0 rfl) ?_
      obtain ⟨v59, e59, hf⟩ := zb hf
      refine zr_gi (ci := 9) (k := 18) (C := RX9) (T := TX9) (N := 54) hx hb hts hi_X9_keepRule_9 hown hK hP e59 rfl rfl (by decide) (by decide) (hts (.fieldLink RX9 181 "BoundaryAnalyzerModel" "bodyReadFirst" "I") (List.mem_of_getElem? (i := 9) rfl)) dX9_keepRule_59 ?_
      refine lv_goto (tgt := 71) hx hb dX9_keepRule_62 (by decide) ?_
      exact J71 _ _ _ _ _ _ _ _ _ hf hP hS (lv_sub hl [0, 1] rfl)
  unfold fX9_keepRule at hf
  refine lv_aload_n hx hb dX9_keepRule_0 rfl (lv_at hl 0 rfl) ?_
  obtain ⟨v1, e1, hf⟩ := zb hf
  refine zr_gr (ci := 9) (k := 20) (C := RX9) (T := TX9) (N := 54) hx hb hts hi_X9_keepRule_9 hown hK hP e1 rfl rfl (by decide) (by decide) (hts (.fieldLink RX9 45 "BoundaryAnalyzerModel" "ruleLong" "[I") (List.mem_of_getElem? (i := 1) rfl)) dX9_keepRule_1 ?_
  refine lv_iload_n hx hb dX9_keepRule_4 rfl (lv_at hl 1 rfl) ?_
  refine lv_aload_n hx hb dX9_keepRule_5 rfl (lv_at hl 0 rfl) ?_
  obtain ⟨v6, e6, hf⟩ := zb hf
  refine zr_gi (ci := 9) (k := 1) (C := RX9) (T := TX9) (N := 54) hx hb hts hi_X9_keepRule_9 hown hK hP e6 rfl rfl (by decide) (by decide) (hts (.fieldLink RX9 144 "BoundaryAnalyzerModel" "typed" "I") (List.mem_of_getElem? (i := 2) rfl)) dX9_keepRule_6 ?_
  obtain ⟨M9, e9, hf⟩ := zb hf
  refine zr_si hx hb hK hP hS e9 dX9_keepRule_9 (fun H locs hP _ hS => ?_)
  refine lv_aload_n hx hb dX9_keepRule_10 rfl (lv_at hl 0 rfl) ?_
  obtain ⟨v11, e11, hf⟩ := zb hf
  refine zr_gr (ci := 9) (k := 24) (C := RX9) (T := TX9) (N := 54) hx hb hts hi_X9_keepRule_9 hown hK hP e11 rfl rfl (by decide) (by decide) (hts (.fieldLink RX9 57 "BoundaryAnalyzerModel" "looks" "[Z") (List.mem_of_getElem? (i := 3) rfl)) dX9_keepRule_11 ?_
  refine lv_iload_n hx hb dX9_keepRule_14 rfl (lv_at hl 1 rfl) ?_
  refine lv_aload_n hx hb dX9_keepRule_15 rfl (lv_at hl 0 rfl) ?_
  obtain ⟨v16, e16, hf⟩ := zb hf
  refine zr_gi (ci := 9) (k := 16) (C := RX9) (T := TX9) (N := 54) hx hb hts hi_X9_keepRule_9 hown hK hP e16 rfl rfl (by decide) (by decide) (hts (.fieldLink RX9 175 "BoundaryAnalyzerModel" "readLooks" "Z") (List.mem_of_getElem? (i := 4) rfl)) dX9_keepRule_16 ?_
  obtain ⟨M19, e19, hf⟩ := zb hf
  refine zr_sz hx hb hK hP hS e19 dX9_keepRule_19 (fun H locs hP _ hS => ?_)
  refine lv_aload_n hx hb dX9_keepRule_20 rfl (lv_at hl 0 rfl) ?_
  obtain ⟨v21, e21, hf⟩ := zb hf
  refine zr_gr (ci := 9) (k := 25) (C := RX9) (T := TX9) (N := 54) hx hb hts hi_X9_keepRule_9 hown hK hP e21 rfl rfl (by decide) (by decide) (hts (.fieldLink RX9 60 "BoundaryAnalyzerModel" "bodyNull" "[Z") (List.mem_of_getElem? (i := 5) rfl)) dX9_keepRule_21 ?_
  refine lv_iload_n hx hb dX9_keepRule_24 rfl (lv_at hl 1 rfl) ?_
  refine lv_aload_n hx hb dX9_keepRule_25 rfl (lv_at hl 0 rfl) ?_
  obtain ⟨v26, e26, hf⟩ := zb hf
  refine zr_gi (ci := 9) (k := 16) (C := RX9) (T := TX9) (N := 54) hx hb hts hi_X9_keepRule_9 hown hK hP e26 rfl rfl (by decide) (by decide) (hts (.fieldLink RX9 175 "BoundaryAnalyzerModel" "readLooks" "Z") (List.mem_of_getElem? (i := 4) rfl)) dX9_keepRule_26 ?_
  refine lv_if_eq (tgt := 39) hx hb dX9_keepRule_29 (by decide) (fun c29 => ?_) (fun c29 => ?_)
  · have hf := (if_pos c29).symm.trans hf
    refine lv_aload_n hx hb dX9_keepRule_39 rfl (lv_at hl 0 rfl) ?_
    obtain ⟨v40, e40, hf⟩ := zb hf
    refine zr_gr (ci := 9) (k := 3) (C := RX9) (T := TX9) (N := 54) hx hb hts hi_X9_keepRule_9 hown hK hP e40 rfl rfl (by decide) (by decide) (hts (.fieldLink RX9 17 "BoundaryAnalyzerModel" "altNull" "[Z") (List.mem_of_getElem? (i := 7) rfl)) dX9_keepRule_40 ?_
    refine lv_iconst (v := (0 : Int32)) hx hb dX9_keepRule_43 (by decide) ?_
    obtain ⟨v44, e44, hf⟩ := zb hf
    refine zr_az hx hb hK hP e44 dX9_keepRule_44 ?_
    exact J45 _ _ _ _ _ _ _ _ _ hf hP hS (lv_sub hl [0, 1] rfl)
  · have hf := (if_neg c29).symm.trans hf
    refine lv_aload_n hx hb dX9_keepRule_32 rfl (lv_at hl 0 rfl) ?_
    obtain ⟨v33, e33, hf⟩ := zb hf
    refine zr_gi (ci := 9) (k := 17) (C := RX9) (T := TX9) (N := 54) hx hb hts hi_X9_keepRule_9 hown hK hP e33 rfl rfl (by decide) (by decide) (hts (.fieldLink RX9 178 "BoundaryAnalyzerModel" "bodyReadNull" "Z") (List.mem_of_getElem? (i := 6) rfl)) dX9_keepRule_33 ?_
    refine lv_goto (tgt := 45) hx hb dX9_keepRule_36 (by decide) ?_
    exact J45 _ _ _ _ _ _ _ _ _ hf hP hS (lv_sub hl [0, 1] rfl)
set_option maxHeartbeats 4000000 in
set_option maxRecDepth 100000 in
theorem k_X9_noRulePlace (l : Launch) (x0 : Int32) (x1 : Int32) (rr : Int32) (hf : fX9_noRulePlace x0 x1 = some rr) : Met l yX9_noRulePlace wsX9_noRulePlace ({ frames := 1, cells := 0, slots := 0, locals := 22 } : Room) (zPp [.int x0, .int x1]) (zQp rr) 0 0 zNo := by
  refine Met.ofW (cc := cX9_noRulePlace) (maxL := 2) (ret := (some .boolean)) (by decide) rfl ?_
  intro p e s m args below meth c s₁ B hml hv
  obtain ⟨rfl, -⟩ := hv
  have hx := B.exec
  have hb := B.bytes
  have hr := B.returns
  have hts := atoms_spec (ws := wsX9_noRulePlace) B.pre
  have hown : s.vm.findClass RX9 = some m.cls := findClass_of_methodNamed B.named
  have hlocks := B.notSynchronized
  have hl := lv_entry ([.int x0, .int x1]) (n := 2) (Nat.le_of_ble_eq_true rfl)
  rw [lg_entry_eq]
  generalize (lg_sl ([.int x0, .int x1]) ++ List.replicate (2 - (lg_sl ([.int x0, .int x1])).length) Slot.unset).toArray = ls at hl ⊢
  have hl : lv_has ls 2 [(0, .int x0), (1, .int x1)] := hl
  have J18 : ∀ (ls : Array Slot) , fX9_noRulePlace_18   = some rr → lv_has ls 2 [] → W p l e (headSpec wsX9_noRulePlace ({ frames := 1, cells := 0, slots := 0, locals := 22 } : Room)).room s m ([.int x0, .int x1] : List Value).toArray below meth c s.heap [] 0 0 (MQ below (zQp rr) ([.int x0, .int x1] : List Value).toArray s 0 0 zNo) (F0 m 18 ls []) := by
    intro ls  hf hl
    unfold fX9_noRulePlace_18 at hf
    refine lv_iconst (v := (1 : Int32)) hx hb dX9_noRulePlace_18 (by decide) ?_
    refine lv_goto (tgt := 23) hx hb dX9_noRulePlace_19 (by decide) ?_
    exact zret_pz hx hb hr (Or.inl rfl) hlocks hf dX9_noRulePlace_23
  unfold fX9_noRulePlace at hf
  refine lv_iload_n hx hb dX9_noRulePlace_0 rfl (lv_at hl 0 rfl) ?_
  refine lv_iconst (v := (0 : Int32)) hx hb dX9_noRulePlace_1 (by decide) ?_
  refine lv_iconst (v := (2 : Int32)) hx hb dX9_noRulePlace_2 (by decide) ?_
  obtain ⟨v3, e3, hf⟩ := zb hf
  refine zc_p (va_runS (As := [.int x0, .int (0 : Int32), .int (2 : Int32)]) (rest := []) ⟨hx, hb, hml, hown, hts⟩ (k_X9_in l x0 (0 : Int32) (2 : Int32) v3 e3) (va_cwS 3 hts gX9_noRulePlace_X9_in rfl rfl rfl (by decide +kernel) ⟨Nat.le_of_ble_eq_true rfl, Nat.le_of_ble_eq_true rfl⟩) (zp_p _) rfl rfl hl.1 rfl (lv_room (Nat.le_of_ble_eq_true rfl)) dX9_noRulePlace_3 ⟨Nat.zero_le _, Nat.zero_le _⟩) ?_
  refine lv_if_eq (tgt := 18) hx hb dX9_noRulePlace_6 (by decide) (fun c6 => ?_) (fun c6 => ?_)
  · have hf := (if_pos c6).symm.trans hf
    exact J18 _ hf (lv_sub hl [] rfl)
  · have hf := (if_neg c6).symm.trans hf
    refine lv_iload_n hx hb dX9_noRulePlace_9 rfl (lv_at hl 1 rfl) ?_
    refine lv_iconst (v := (0 : Int32)) hx hb dX9_noRulePlace_10 (by decide) ?_
    refine lv_iconst (v := (4 : Int32)) hx hb dX9_noRulePlace_11 (by decide) ?_
    obtain ⟨v12, e12, hf⟩ := zb hf
    refine zc_p (va_runS (As := [.int x1, .int (0 : Int32), .int (4 : Int32)]) (rest := []) ⟨hx, hb, hml, hown, hts⟩ (k_X9_in l x1 (0 : Int32) (4 : Int32) v12 e12) (va_cwS 3 hts gX9_noRulePlace_X9_in rfl rfl rfl (by decide +kernel) ⟨Nat.le_of_ble_eq_true rfl, Nat.le_of_ble_eq_true rfl⟩) (zp_p _) rfl rfl hl.1 rfl (lv_room (Nat.le_of_ble_eq_true rfl)) dX9_noRulePlace_12 ⟨Nat.zero_le _, Nat.zero_le _⟩) ?_
    refine lv_if_ne (tgt := 22) hx hb dX9_noRulePlace_15 (by decide) (fun c15 => ?_) (fun c15 => ?_)
    · have hf := (if_neg c15).symm.trans hf
      refine lv_iconst (v := (0 : Int32)) hx hb dX9_noRulePlace_22 (by decide) ?_
      exact zret_pz hx hb hr (Or.inl rfl) hlocks hf dX9_noRulePlace_23
    · have hf := (if_pos c15).symm.trans hf
      exact J18 _ hf (lv_sub hl [] rfl)
theorem hi_X9_setRule_9 : ∀ w ∈ wsX90, w ∈ wsX9_setRule := fun _ h => List.mem_cons_of_mem _ (List.mem_append_right _ h)
set_option maxHeartbeats 4000000 in
set_option maxRecDepth 100000 in
theorem k_X9_setRule (l : Launch) (D : va_G) (cy : Nat → ClassId) (b : Nat) (M0 : Mem) (h0 : Nat) (x1 : Int32) (x2 : Int32) (rr : Int32 × Mem) (hf : fX9_setRule M0 h0 x1 x2 = some rr) : Met l yX9_setRule wsX9_setRule ({ frames := 5, cells := 0, slots := 0, locals := 126 } : Room) (zPc D cy b M0 [.ref (b + h0), .int x1, .int x2]) (zQi D cy b rr) 0 0 (zA b) := by
  refine Met.ofW (cc := cX9_setRule) (maxL := 6) (ret := (some .int)) (by decide) rfl ?_
  intro p e s m args below meth c s₁ B hml hv
  obtain ⟨rfl, hP, hK⟩ := hv
  have hx := B.exec
  have hb := B.bytes
  have hr := B.returns
  have hts := atoms_spec (ws := wsX9_setRule) B.pre
  have hown : s.vm.findClass RX9 = some m.cls := findClass_of_methodNamed B.named
  have hlocks := B.notSynchronized
  have hS : va_S (zA b) s.heap s.heap [] := va_S.rf
  have hl := lv_entry ([.ref (b + h0), .int x1, .int x2]) (n := 6) (Nat.le_of_ble_eq_true rfl)
  rw [lg_entry_eq]
  generalize (lg_sl ([.ref (b + h0), .int x1, .int x2]) ++ List.replicate (6 - (lg_sl ([.ref (b + h0), .int x1, .int x2])).length) Slot.unset).toArray = ls at hl ⊢
  have hl : lv_has ls 6 [(0, .ref (b + h0)), (1, .int x1), (2, .int x2)] := hl
  have J31 : ∀ (M : Mem) (H : Heap) (locs : List Loc) (ls : Array Slot) (h0 : Nat) (x1 : Int32) (x3 : Int32) (y0 : Int32), fX9_setRule_31  M h0 x1 x3 y0 = some rr → zH D cy b M H → va_S (zA b) s.heap H locs → lv_has ls 6 [(0, .ref (b + h0)), (1, .int x1), (3, .int x3)] → W p l e (headSpec wsX9_setRule ({ frames := 5, cells := 0, slots := 0, locals := 126 } : Room)).room s m ([.ref (b + h0), .int x1, .int x2] : List Value).toArray below meth c H locs 0 0 (MQ below (zQi D cy b rr) ([.ref (b + h0), .int x1, .int x2] : List Value).toArray s 0 0 (zA b)) (F0 m 31 ls [.int y0]) := by
    intro M H locs ls h0 x1 x3 y0 hf hP hS hl
    unfold fX9_setRule_31 at hf
    refine lv_istore (lv' := [(4, .int y0), (0, .ref (b + h0)), (1, .int x1), (3, .int x3)]) hx hb dX9_setRule_31 hl (by decide) rfl (fun ls hl => ?_)
    refine lv_aload_n hx hb dX9_setRule_33 rfl (lv_at hl 1 rfl) ?_
    obtain ⟨v34, e34, hf⟩ := zb hf
    refine zr_gi (ci := 9) (k := 1) (C := RX9) (T := TX9) (N := 54) hx hb hts hi_X9_setRule_9 hown hK hP e34 rfl rfl (by decide) (by decide) (hts (.fieldLink RX9 144 "BoundaryAnalyzerModel" "typed" "I") (List.mem_of_getElem? (i := 2) rfl)) dX9_setRule_34 ?_
    refine lv_if_ne (tgt := 61) hx hb dX9_setRule_37 (by decide) (fun c37 => ?_) (fun c37 => ?_)
    · have hf := (if_neg c37).symm.trans hf
      refine lv_aload_n hx hb dX9_setRule_61 rfl (lv_at hl 1 rfl) ?_
      obtain ⟨u62, t62, hf⟩ := zb hf
      obtain ⟨r62, e62, hf⟩ := zb hf
      refine zc_i hS (va_runV (As := []) (rest := []) ⟨hx, hb, hml, hown, hts⟩ (k_X9_readPattern l D cy b M h0  r62 e62) (cwV 0 hts gX9_setRule_X9_readPattern rfl rfl rfl (by decide +kernel) ⟨Nat.le_of_ble_eq_true rfl, Nat.le_of_ble_eq_true rfl⟩) (zp_V _ hK hP t62 (T := TX9) (N := 54) rfl (by decide)) rfl rfl hl.1 rfl (lv_room (Nat.le_of_ble_eq_true rfl)) dX9_setRule_62 ⟨Nat.zero_le _, Nat.zero_le _⟩) (fun H locs hP hS => ?_)
      refine lv_istore (lv' := [(5, .int r62.1), (4, .int y0), (0, .ref (b + h0)), (1, .int x1), (3, .int x3)]) hx hb dX9_setRule_65 hl (by decide) rfl (fun ls hl => ?_)
      refine lv_iload hx hb dX9_setRule_67 (lv_at hl 0 rfl) ?_
      refine lv_if_lt (tgt := 78) hx hb dX9_setRule_69 (by decide) (fun c69 => ?_) (fun c69 => ?_)
      · have hf := (if_pos c69).symm.trans hf
        refine lv_aload_n hx hb dX9_setRule_78 rfl (lv_at hl 2 rfl) ?_
        refine lv_iload_n hx hb dX9_setRule_79 rfl (lv_at hl 4 rfl) ?_
        obtain ⟨u80, t80, hf⟩ := zb hf
        obtain ⟨M80, e80, hf⟩ := zb hf
        refine zc_v hS (va_runV (As := [.int x3]) (rest := []) ⟨hx, hb, hml, hown, hts⟩ (k_X9_keepRule l D cy b r62.2 h0 x3 M80 e80) (cwV 1 hts gX9_setRule_X9_keepRule rfl rfl rfl (by decide +kernel) ⟨Nat.le_of_ble_eq_true rfl, Nat.le_of_ble_eq_true rfl⟩) (zp_V _ hK hP t80 (T := TX9) (N := 54) rfl (by decide)) rfl rfl hl.1 rfl (lv_room (Nat.le_of_ble_eq_true rfl)) dX9_setRule_80 ⟨Nat.zero_le _, Nat.zero_le _⟩) (fun H locs hP hS => ?_)
        refine lv_aload_n hx hb dX9_setRule_83 rfl (lv_at hl 2 rfl) ?_
        refine lv_iload_n hx hb dX9_setRule_84 rfl (lv_at hl 3 rfl) ?_
        obtain ⟨u85, t85, hf⟩ := zb hf
        obtain ⟨M85, e85, hf⟩ := zb hf
        refine zc_v hS (va_runV (As := [.int x1]) (rest := []) ⟨hx, hb, hml, hown, hts⟩ (k_X9_analyse l D cy b M80 h0 x1 M85 e85) (cwV 1 hts gX9_setRule_X9_analyse rfl rfl rfl (by decide +kernel) ⟨Nat.le_of_ble_eq_true rfl, Nat.le_of_ble_eq_true rfl⟩) (zp_V _ hK hP t85 (T := TX9) (N := 54) rfl (by decide)) rfl rfl hl.1 rfl (lv_room (Nat.le_of_ble_eq_true rfl)) dX9_setRule_85 ⟨Nat.zero_le _, Nat.zero_le _⟩) (fun H locs hP hS => ?_)
        refine lv_iload hx hb dX9_setRule_88 (lv_at hl 1 rfl) ?_
        exact zret_i hx hb hr hlocks hf hP hS dX9_setRule_90
      · have hf := (if_neg c69).symm.trans hf
        refine lv_bipush (v := (-100 : Int32)) hx hb dX9_setRule_72 (by decide) ?_
        refine lv_iload hx hb dX9_setRule_74 (lv_at hl 0 rfl) ?_
        refine lv_isub hx hb dX9_setRule_76 ?_
        exact zret_i hx hb hr hlocks hf hP hS dX9_setRule_77
    · have hf := (if_pos c37).symm.trans hf
      refine lv_aload_n hx hb dX9_setRule_40 rfl (lv_at hl 1 rfl) ?_
      obtain ⟨v41, e41, hf⟩ := zb hf
      refine zr_gr (ci := 9) (k := 20) (C := RX9) (T := TX9) (N := 54) hx hb hts hi_X9_setRule_9 hown hK hP e41 rfl rfl (by decide) (by decide) (hts (.fieldLink RX9 45 "BoundaryAnalyzerModel" "ruleLong" "[I") (List.mem_of_getElem? (i := 1) rfl)) dX9_setRule_41 ?_
      refine lv_iload_n hx hb dX9_setRule_44 rfl (lv_at hl 3 rfl) ?_
      refine lv_iconst (v := (0 : Int32)) hx hb dX9_setRule_45 (by decide) ?_
      obtain ⟨M46, e46, hf⟩ := zb hf
      refine zr_si hx hb hK hP hS e46 dX9_setRule_46 (fun H locs hP _ hS => ?_)
      refine lv_iload hx hb dX9_setRule_47 (lv_at hl 0 rfl) ?_
      refine lv_iconst (v := (1 : Int32)) hx hb dX9_setRule_49 (by decide) ?_
      refine lv_icmp_ne (tgt := 58) hx hb dX9_setRule_50 (by decide) (fun c50 => ?_) (fun c50 => ?_)
      · have hf := (if_neg c50).symm.trans hf
        refine lv_iload hx hb dX9_setRule_58 (lv_at hl 0 rfl) ?_
        exact zret_i hx hb hr hlocks hf hP hS dX9_setRule_60
      · have hf := (if_pos c50).symm.trans hf
        refine lv_aload_n hx hb dX9_setRule_53 rfl (lv_at hl 1 rfl) ?_
        refine lv_iload_n hx hb dX9_setRule_54 rfl (lv_at hl 2 rfl) ?_
        obtain ⟨u55, t55, hf⟩ := zb hf
        obtain ⟨M55, e55, hf⟩ := zb hf
        refine zc_v hS (va_runV (As := [.int x1]) (rest := []) ⟨hx, hb, hml, hown, hts⟩ (k_X9_analyse l D cy b M46 h0 x1 M55 e55) (cwV 1 hts gX9_setRule_X9_analyse rfl rfl rfl (by decide +kernel) ⟨Nat.le_of_ble_eq_true rfl, Nat.le_of_ble_eq_true rfl⟩) (zp_V _ hK hP t55 (T := TX9) (N := 54) rfl (by decide)) rfl rfl hl.1 rfl (lv_room (Nat.le_of_ble_eq_true rfl)) dX9_setRule_55 ⟨Nat.zero_le _, Nat.zero_le _⟩) (fun H locs hP hS => ?_)
        refine lv_iload hx hb dX9_setRule_58 (lv_at hl 0 rfl) ?_
        exact zret_i hx hb hr hlocks hf hP hS dX9_setRule_60
  unfold fX9_setRule at hf
  refine lv_iload_n hx hb dX9_setRule_0 rfl (lv_at hl 1 rfl) ?_
  refine lv_iload_n hx hb dX9_setRule_1 rfl (lv_at hl 2 rfl) ?_
  obtain ⟨v2, e2, hf⟩ := zb hf
  refine zc_p (va_runS (As := [.int x1, .int x2]) (rest := []) ⟨hx, hb, hml, hown, hts⟩ (k_X9_noRulePlace l x1 x2 v2 e2) (va_cwS 2 hts gX9_setRule_X9_noRulePlace rfl rfl rfl (by decide +kernel) ⟨Nat.le_of_ble_eq_true rfl, Nat.le_of_ble_eq_true rfl⟩) (zp_p _) rfl rfl hl.1 rfl (lv_room (Nat.le_of_ble_eq_true rfl)) dX9_setRule_2 ⟨Nat.zero_le _, Nat.zero_le _⟩) ?_
  refine lv_if_eq (tgt := 11) hx hb dX9_setRule_5 (by decide) (fun c5 => ?_) (fun c5 => ?_)
  · have hf := (if_pos c5).symm.trans hf
    refine lv_iconst (v := (5 : Int32)) hx hb dX9_setRule_11 (by decide) ?_
    refine lv_iload_n hx hb dX9_setRule_12 rfl (lv_at hl 1 rfl) ?_
    refine lv_imul hx hb dX9_setRule_13 ?_
    refine lv_iload_n hx hb dX9_setRule_14 rfl (lv_at hl 2 rfl) ?_
    refine lv_iadd hx hb dX9_setRule_15 ?_
    obtain ⟨x3_16, q16, hf⟩ := zlt_s hf
    refine zt q16 ?_
    refine lv_istore_n (lv' := [(3, .int x3_16), (0, .ref (b + h0)), (1, .int x1), (2, .int x2)]) hx hb dX9_setRule_16 rfl hl (by decide) rfl (fun ls hl => ?_)
    refine lv_aload_n hx hb dX9_setRule_17 rfl (lv_at hl 1 rfl) ?_
    obtain ⟨v18, e18, hf⟩ := zb hf
    refine zr_gr (ci := 9) (k := 20) (C := RX9) (T := TX9) (N := 54) hx hb hts hi_X9_setRule_9 hown hK hP e18 rfl rfl (by decide) (by decide) (hts (.fieldLink RX9 45 "BoundaryAnalyzerModel" "ruleLong" "[I") (List.mem_of_getElem? (i := 1) rfl)) dX9_setRule_18 ?_
    refine lv_iload_n hx hb dX9_setRule_21 rfl (lv_at hl 0 rfl) ?_
    obtain ⟨v22, e22, hf⟩ := zb hf
    refine zr_ai hx hb hK hP e22 dX9_setRule_22 ?_
    refine lv_if_le (tgt := 30) hx hb dX9_setRule_23 (by decide) (fun c23 => ?_) (fun c23 => ?_)
    · have hf := (if_pos c23).symm.trans hf
      refine lv_iconst (v := (0 : Int32)) hx hb dX9_setRule_30 (by decide) ?_
      exact J31 _ _ _ _ _ _ _ _ hf hP hS (lv_sub hl [1, 2, 0] rfl)
    · have hf := (if_neg c23).symm.trans hf
      refine lv_iconst (v := (1 : Int32)) hx hb dX9_setRule_26 (by decide) ?_
      refine lv_goto (tgt := 31) hx hb dX9_setRule_27 (by decide) ?_
      exact J31 _ _ _ _ _ _ _ _ hf hP hS (lv_sub hl [1, 2, 0] rfl)
  · have hf := (if_neg c5).symm.trans hf
    refine lv_bipush (v := (-2 : Int32)) hx hb dX9_setRule_8 (by decide) ?_
    exact zret_i hx hb hr hlocks hf hP hS dX9_setRule_10
theorem hi_X9_ruleText_9 : ∀ w ∈ wsX90, w ∈ wsX9_ruleText := fun _ h => List.mem_cons_of_mem _ (List.mem_append_right _ h)
set_option maxHeartbeats 4000000 in
set_option maxRecDepth 100000 in
theorem k_X9_ruleText (l : Launch) (D : va_G) (cy : Nat → ClassId) (b : Nat) (M0 : Mem) (h0 : Nat) (x1 : Int32) (x2 : Int32) (x3 : Int32) (rr : Int32 × Mem) (hf : fX9_ruleText M0 h0 x1 x2 x3 = some rr) : Met l yX9_ruleText wsX9_ruleText ({ frames := 2, cells := 0, slots := 0, locals := 43 } : Room) (zPc D cy b M0 [.ref (b + h0), .int x1, .int x2, .int x3]) (zQi D cy b rr) 0 0 (zA b) := by
  refine Met.ofW (cc := cX9_ruleText) (maxL := 5) (ret := (some .int)) (by decide) rfl ?_
  intro p e s m args below meth c s₁ B hml hv
  obtain ⟨rfl, hP, hK⟩ := hv
  have hx := B.exec
  have hb := B.bytes
  have hr := B.returns
  have hts := atoms_spec (ws := wsX9_ruleText) B.pre
  have hown : s.vm.findClass RX9 = some m.cls := findClass_of_methodNamed B.named
  have hlocks := B.notSynchronized
  have hS : va_S (zA b) s.heap s.heap [] := va_S.rf
  have hl := lv_entry ([.ref (b + h0), .int x1, .int x2, .int x3]) (n := 5) (Nat.le_of_ble_eq_true rfl)
  rw [lg_entry_eq]
  generalize (lg_sl ([.ref (b + h0), .int x1, .int x2, .int x3]) ++ List.replicate (5 - (lg_sl ([.ref (b + h0), .int x1, .int x2, .int x3])).length) Slot.unset).toArray = ls at hl ⊢
  have hl : lv_has ls 5 [(0, .ref (b + h0)), (1, .int x1), (2, .int x2), (3, .int x3)] := hl
  unfold fX9_ruleText at hf
  refine lv_iload_n hx hb dX9_ruleText_0 rfl (lv_at hl 1 rfl) ?_
  refine lv_iload_n hx hb dX9_ruleText_1 rfl (lv_at hl 2 rfl) ?_
  obtain ⟨v2, e2, hf⟩ := zb hf
  refine zc_p (va_runS (As := [.int x1, .int x2]) (rest := []) ⟨hx, hb, hml, hown, hts⟩ (k_X9_noRulePlace l x1 x2 v2 e2) (va_cwS 2 hts gX9_ruleText_X9_noRulePlace rfl rfl rfl (by decide +kernel) ⟨Nat.le_of_ble_eq_true rfl, Nat.le_of_ble_eq_true rfl⟩) (zp_p _) rfl rfl hl.1 rfl (lv_room (Nat.le_of_ble_eq_true rfl)) dX9_ruleText_2 ⟨Nat.zero_le _, Nat.zero_le _⟩) ?_
  refine lv_if_ne (tgt := 12) hx hb dX9_ruleText_5 (by decide) (fun c5 => ?_) (fun c5 => ?_)
  · have hf := (if_neg c5).symm.trans hf
    refine lv_bipush (v := (-2 : Int32)) hx hb dX9_ruleText_12 (by decide) ?_
    exact zret_i hx hb hr hlocks hf hP hS dX9_ruleText_14
  · have hf := (if_pos c5).symm.trans hf
    refine lv_iload_n hx hb dX9_ruleText_8 rfl (lv_at hl 3 rfl) ?_
    refine lv_if_ge (tgt := 15) hx hb dX9_ruleText_9 (by decide) (fun c9 => ?_) (fun c9 => ?_)
    · have hf := (if_pos c9).symm.trans hf
      refine lv_iconst (v := (5 : Int32)) hx hb dX9_ruleText_15 (by decide) ?_
      refine lv_iload_n hx hb dX9_ruleText_16 rfl (lv_at hl 1 rfl) ?_
      refine lv_imul hx hb dX9_ruleText_17 ?_
      refine lv_iload_n hx hb dX9_ruleText_18 rfl (lv_at hl 2 rfl) ?_
      refine lv_iadd hx hb dX9_ruleText_19 ?_
      obtain ⟨x4_20, q20, hf⟩ := zlt_s hf
      refine zt q20 ?_
      refine lv_istore (lv' := [(4, .int x4_20), (0, .ref (b + h0)), (1, .int x1), (2, .int x2), (3, .int x3)]) hx hb dX9_ruleText_20 hl (by decide) rfl (fun ls hl => ?_)
      refine lv_iload_n hx hb dX9_ruleText_22 rfl (lv_at hl 4 rfl) ?_
      refine lv_aload_n hx hb dX9_ruleText_23 rfl (lv_at hl 1 rfl) ?_
      obtain ⟨v24, e24, hf⟩ := zb hf
      refine zr_gr (ci := 9) (k := 20) (C := RX9) (T := TX9) (N := 54) hx hb hts hi_X9_ruleText_9 hown hK hP e24 rfl rfl (by decide) (by decide) (hts (.fieldLink RX9 45 "BoundaryAnalyzerModel" "ruleLong" "[I") (List.mem_of_getElem? (i := 1) rfl)) dX9_ruleText_24 ?_
      refine lv_iload hx hb dX9_ruleText_27 (lv_at hl 0 rfl) ?_
      obtain ⟨v29, e29, hf⟩ := zb hf
      refine zr_ai hx hb hK hP e29 dX9_ruleText_29 ?_
      refine lv_icmp_ge (tgt := 48) hx hb dX9_ruleText_30 (by decide) (fun c30 => ?_) (fun c30 => ?_)
      · have hf := (if_pos c30).symm.trans hf
        refine lv_bipush (v := (-5 : Int32)) hx hb dX9_ruleText_48 (by decide) ?_
        exact zret_i hx hb hr hlocks hf hP hS dX9_ruleText_50
      · have hf := (if_neg c30).symm.trans hf
        refine lv_aload_n hx hb dX9_ruleText_33 rfl (lv_at hl 1 rfl) ?_
        obtain ⟨v34, e34, hf⟩ := zb hf
        refine zr_gr (ci := 9) (k := 21) (C := RX9) (T := TX9) (N := 54) hx hb hts hi_X9_ruleText_9 hown hK hP e34 rfl rfl (by decide) (by decide) (hts (.fieldLink RX9 48 "BoundaryAnalyzerModel" "ruleAt" "[C") (List.mem_of_getElem? (i := 2) rfl)) dX9_ruleText_34 ?_
        refine lv_bipush (v := (24 : Int32)) hx hb dX9_ruleText_37 (by decide) ?_
        refine lv_iload hx hb dX9_ruleText_39 (lv_at hl 0 rfl) ?_
        refine lv_imul hx hb dX9_ruleText_41 ?_
        refine lv_iload_n hx hb dX9_ruleText_42 rfl (lv_at hl 4 rfl) ?_
        refine lv_iadd hx hb dX9_ruleText_43 ?_
        obtain ⟨v44, e44, hf⟩ := zb hf
        refine zr_ac hx hb hK hP e44 dX9_ruleText_44 ?_
        refine lv_goto (tgt := 50) hx hb dX9_ruleText_45 (by decide) ?_
        exact zret_i hx hb hr hlocks hf hP hS dX9_ruleText_50
    · have hf := (if_neg c9).symm.trans hf
      refine lv_bipush (v := (-2 : Int32)) hx hb dX9_ruleText_12 (by decide) ?_
      exact zret_i hx hb hr hlocks hf hP hS dX9_ruleText_14
set_option maxHeartbeats 4000000 in
set_option maxRecDepth 100000 in
theorem k_X9_noKind (l : Launch) (x0 : Int32) (rr : Int32) (hf : fX9_noKind x0 = some rr) : Met l yX9_noKind wsX9_noKind ({ frames := 1, cells := 0, slots := 0, locals := 22 } : Room) (zPp [.int x0]) (zQp rr) 0 0 zNo := by
  refine Met.ofW (cc := cX9_noKind) (maxL := 1) (ret := (some .boolean)) (by decide) rfl ?_
  intro p e s m args below meth c s₁ B hml hv
  obtain ⟨rfl, -⟩ := hv
  have hx := B.exec
  have hb := B.bytes
  have hr := B.returns
  have hts := atoms_spec (ws := wsX9_noKind) B.pre
  have hown : s.vm.findClass RX9 = some m.cls := findClass_of_methodNamed B.named
  have hlocks := B.notSynchronized
  have hl := lv_entry ([.int x0]) (n := 1) (Nat.le_of_ble_eq_true rfl)
  rw [lg_entry_eq]
  generalize (lg_sl ([.int x0]) ++ List.replicate (1 - (lg_sl ([.int x0])).length) Slot.unset).toArray = ls at hl ⊢
  have hl : lv_has ls 1 [(0, .int x0)] := hl
  unfold fX9_noKind at hf
  refine lv_iload_n hx hb dX9_noKind_0 rfl (lv_at hl 0 rfl) ?_
  refine lv_iconst (v := (0 : Int32)) hx hb dX9_noKind_1 (by decide) ?_
  refine lv_iconst (v := (2 : Int32)) hx hb dX9_noKind_2 (by decide) ?_
  obtain ⟨v3, e3, hf⟩ := zb hf
  refine zc_p (va_runS (As := [.int x0, .int (0 : Int32), .int (2 : Int32)]) (rest := []) ⟨hx, hb, hml, hown, hts⟩ (k_X9_in l x0 (0 : Int32) (2 : Int32) v3 e3) (va_cwS 3 hts gX9_noKind_X9_in rfl rfl rfl (by decide +kernel) ⟨Nat.le_of_ble_eq_true rfl, Nat.le_of_ble_eq_true rfl⟩) (zp_p _) rfl rfl hl.1 rfl (lv_room (Nat.le_of_ble_eq_true rfl)) dX9_noKind_3 ⟨Nat.zero_le _, Nat.zero_le _⟩) ?_
  refine lv_if_ne (tgt := 13) hx hb dX9_noKind_6 (by decide) (fun c6 => ?_) (fun c6 => ?_)
  · have hf := (if_neg c6).symm.trans hf
    refine lv_iconst (v := (0 : Int32)) hx hb dX9_noKind_13 (by decide) ?_
    exact zret_pz hx hb hr (Or.inl rfl) hlocks hf dX9_noKind_14
  · have hf := (if_pos c6).symm.trans hf
    refine lv_iconst (v := (1 : Int32)) hx hb dX9_noKind_9 (by decide) ?_
    refine lv_goto (tgt := 14) hx hb dX9_noKind_10 (by decide) ?_
    exact zret_pz hx hb hr (Or.inl rfl) hlocks hf dX9_noKind_14
theorem hi_X9_noPosition_9 : ∀ w ∈ wsX90, w ∈ wsX9_noPosition := fun _ h => List.mem_cons_of_mem _ (List.mem_append_right _ h)
set_option maxHeartbeats 4000000 in
set_option maxRecDepth 100000 in
theorem k_X9_noPosition (l : Launch) (D : va_G) (cy : Nat → ClassId) (b : Nat) (M0 : Mem) (h0 : Nat) (x1 : Int32) (rr : Int32 × Mem) (hf : fX9_noPosition M0 h0 x1 = some rr) : Met l yX9_noPosition wsX9_noPosition ({ frames := 1, cells := 0, slots := 0, locals := 22 } : Room) (zPc D cy b M0 [.ref (b + h0), .int x1]) (zQi D cy b rr) 0 0 (zA b) := by
  refine Met.ofW (cc := cX9_noPosition) (maxL := 2) (ret := (some .boolean)) (by decide) rfl ?_
  intro p e s m args below meth c s₁ B hml hv
  obtain ⟨rfl, hP, hK⟩ := hv
  have hx := B.exec
  have hb := B.bytes
  have hr := B.returns
  have hts := atoms_spec (ws := wsX9_noPosition) B.pre
  have hown : s.vm.findClass RX9 = some m.cls := findClass_of_methodNamed B.named
  have hlocks := B.notSynchronized
  have hS : va_S (zA b) s.heap s.heap [] := va_S.rf
  have hl := lv_entry ([.ref (b + h0), .int x1]) (n := 2) (Nat.le_of_ble_eq_true rfl)
  rw [lg_entry_eq]
  generalize (lg_sl ([.ref (b + h0), .int x1]) ++ List.replicate (2 - (lg_sl ([.ref (b + h0), .int x1])).length) Slot.unset).toArray = ls at hl ⊢
  have hl : lv_has ls 2 [(0, .ref (b + h0)), (1, .int x1)] := hl
  unfold fX9_noPosition at hf
  refine lv_iload_n hx hb dX9_noPosition_0 rfl (lv_at hl 1 rfl) ?_
  refine lv_iconst (v := (0 : Int32)) hx hb dX9_noPosition_1 (by decide) ?_
  refine lv_aload_n hx hb dX9_noPosition_2 rfl (lv_at hl 0 rfl) ?_
  obtain ⟨v3, e3, hf⟩ := zb hf
  refine zr_gi (ci := 9) (k := 31) (C := RX9) (T := TX9) (N := 54) hx hb hts hi_X9_noPosition_9 hown hK hP e3 rfl rfl (by decide) (by decide) (hts (.fieldLink RX9 207 "BoundaryAnalyzerModel" "length" "I") (List.mem_of_getElem? (i := 1) rfl)) dX9_noPosition_3 ?_
  obtain ⟨v6, e6, hf⟩ := zb hf
  refine zc_p (va_runS (As := [.int x1, .int (0 : Int32), .int v3]) (rest := []) ⟨hx, hb, hml, hown, hts⟩ (k_X9_in l x1 (0 : Int32) v3 v6 e6) (va_cwS 3 hts gX9_noPosition_X9_in rfl rfl rfl (by decide +kernel) ⟨Nat.le_of_ble_eq_true rfl, Nat.le_of_ble_eq_true rfl⟩) (zp_p _) rfl rfl hl.1 rfl (lv_room (Nat.le_of_ble_eq_true rfl)) dX9_noPosition_6 ⟨Nat.zero_le _, Nat.zero_le _⟩) ?_
  refine lv_if_ne (tgt := 16) hx hb dX9_noPosition_9 (by decide) (fun c9 => ?_) (fun c9 => ?_)
  · have hf := (if_neg c9).symm.trans hf
    refine lv_iconst (v := (0 : Int32)) hx hb dX9_noPosition_16 (by decide) ?_
    exact zret_z hx hb hr (Or.inl rfl) hlocks hf hP hS dX9_noPosition_17
  · have hf := (if_pos c9).symm.trans hf
    refine lv_iconst (v := (1 : Int32)) hx hb dX9_noPosition_12 (by decide) ?_
    refine lv_goto (tgt := 17) hx hb dX9_noPosition_13 (by decide) ?_
    exact zret_z hx hb hr (Or.inl rfl) hlocks hf hP hS dX9_noPosition_17
