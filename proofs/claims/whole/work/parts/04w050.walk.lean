theorem hi_X9_keepRule_9 : ∀ w ∈ wsX90, w ∈ wsX9_keepRule := fun _ h => List.mem_cons_of_mem _ (List.mem_append_right _ h)
set_option maxHeartbeats 4000000 in
set_option maxRecDepth 100000 in
theorem k_X9_keepRule (l : Launch) (D : va_G) (cy : Nat → ClassId) (b : Nat) (M0 : Mem) (p0 : Nat) (p1 : Int32) (rr : Mem) (hf : fX9_keepRule M0 p0 p1 = some rr) : Met l yX9_keepRule wsX9_keepRule ({ frames := 0, cells := 0, slots := 0, locals := 0 } : Room) (zPc D cy b M0 [.ref (b + p0), .int p1]) (zQv D cy b rr) 0 0 (zA b) := by
  refine Met.ofW (cc := cX9_keepRule) (maxL := 3) (ret := none) (by decide) rfl ?_
  intro p e s m args below meth c s₁ B hml hv
  obtain ⟨rfl, hP, hK⟩ := hv
  have hx := B.exec
  have hb := B.bytes
  have hr := B.returns
  have hts := atoms_spec (ws := wsX9_keepRule) B.pre
  have hown : s.vm.findClass RX9 = some m.cls := findClass_of_methodNamed B.named
  have hlocks := B.notSynchronized
  have hS : va_S (zA b) s.heap s.heap [] := va_S.rf
  have hl := lv_entry ([.ref (b + p0), .int p1]) (n := 3) (Nat.le_of_ble_eq_true rfl)
  rw [lg_entry_eq]
  generalize (lg_sl ([.ref (b + p0), .int p1]) ++ List.replicate (3 - (lg_sl ([.ref (b + p0), .int p1])).length) Slot.unset).toArray = ls at hl ⊢
  have hl : lv_has ls 3 [(0, .ref (b + p0)), (1, .int p1)] := hl
  have L173 : ∀ (n173 : Nat) (M : Mem) (H : Heap) (locs : List Loc) (ls : Array Slot) (h0 : Nat) (x1 : Int32) (x2 : Int32), fX9_keepRule_173L  n173 M h0 x1 x2 = some rr → zH D cy b M H → va_S (zA b) s.heap H locs → lv_has ls 3 [(0, .ref (b + h0)), (1, .int x1), (2, .int x2)] → W p l e (headSpec wsX9_keepRule ({ frames := 0, cells := 0, slots := 0, locals := 0 } : Room)).room s m ([.ref (b + p0), .int p1] : List Value).toArray below meth c H locs 0 0 (MQ below (zQv D cy b rr) ([.ref (b + p0), .int p1] : List Value).toArray s 0 0 (zA b)) (F0 m 173 ls []) := by
    intro n173
    induction n173 with
    | zero =>
      intro M H locs ls h0 x1 x2 hf
      have hf : (none : Option Mem) = some rr := hf
      cases hf
    | succ n173 ih173 =>
      intro M H locs ls h0 x1 x2 hf hP hS hl
      have hf : fX9_keepRule_173  (fX9_keepRule_173L  n173) M h0 x1 x2 = some rr := hf
      unfold fX9_keepRule_173 at hf
      refine lv_iload_n hx hb dX9_keepRule_173 rfl (lv_at hl 2 rfl) ?_
      refine lv_aload_n hx hb dX9_keepRule_174 rfl (lv_at hl 0 rfl) ?_
      obtain ⟨v175, e175, hf⟩ := zb hf
      refine zr_gi (ci := 9) (k := 1) (C := RX9) (T := TX9) (N := 54) hx hb hts hi_X9_keepRule_9 hown hK hP e175 rfl rfl (by decide) (by decide) (hts (.fieldLink RX9 144 "BoundaryAnalyzerModel" "typed" "I") (List.mem_of_getElem? (i := 2) rfl)) dX9_keepRule_175 ?_
      refine lv_icmp_ge (tgt := 238) hx hb dX9_keepRule_178 (by decide) (fun c178 => ?_) (fun c178 => ?_)
      · have hf := (if_pos c178).symm.trans hf
        exact zret_v hx hb hr hlocks hf hP hS dX9_keepRule_238
      · have hf := (if_neg c178).symm.trans hf
        refine lv_aload_n hx hb dX9_keepRule_181 rfl (lv_at hl 0 rfl) ?_
        obtain ⟨v182, e182, hf⟩ := zb hf
        refine zr_gr (ci := 9) (k := 21) (C := RX9) (T := TX9) (N := 54) hx hb hts hi_X9_keepRule_9 hown hK hP e182 rfl rfl (by decide) (by decide) (hts (.fieldLink RX9 48 "BoundaryAnalyzerModel" "ruleAt" "[C") (List.mem_of_getElem? (i := 17) rfl)) dX9_keepRule_182 ?_
        refine lv_bipush (v := (24 : Int32)) hx hb dX9_keepRule_185 (by decide) ?_
        refine lv_iload_n hx hb dX9_keepRule_187 rfl (lv_at hl 1 rfl) ?_
        refine lv_imul hx hb dX9_keepRule_188 ?_
        refine lv_iload_n hx hb dX9_keepRule_189 rfl (lv_at hl 2 rfl) ?_
        refine lv_iadd hx hb dX9_keepRule_190 ?_
        refine lv_aload_n hx hb dX9_keepRule_191 rfl (lv_at hl 0 rfl) ?_
        obtain ⟨v192, e192, hf⟩ := zb hf
        refine zr_gr (ci := 9) (k := 2) (C := RX9) (T := TX9) (N := 54) hx hb hts hi_X9_keepRule_9 hown hK hP e192 rfl rfl (by decide) (by decide) (hts (.fieldLink RX9 13 "BoundaryAnalyzerModel" "pattern" "[C") (List.mem_of_getElem? (i := 18) rfl)) dX9_keepRule_192 ?_
        refine lv_iload_n hx hb dX9_keepRule_195 rfl (lv_at hl 2 rfl) ?_
        obtain ⟨v196, e196, hf⟩ := zb hf
        refine zr_ac hx hb hK hP e196 dX9_keepRule_196 ?_
        obtain ⟨M197, e197, hf⟩ := zb hf
        refine zr_sc hx hb hK hP hS e197 dX9_keepRule_197 (fun H locs hP _ hS => ?_)
        refine lv_aload_n hx hb dX9_keepRule_198 rfl (lv_at hl 0 rfl) ?_
        obtain ⟨v199, e199, hf⟩ := zb hf
        refine zr_gr (ci := 9) (k := 22) (C := RX9) (T := TX9) (N := 54) hx hb hts hi_X9_keepRule_9 hown hK hP e199 rfl rfl (by decide) (by decide) (hts (.fieldLink RX9 51 "BoundaryAnalyzerModel" "classOfPlace" "[I") (List.mem_of_getElem? (i := 19) rfl)) dX9_keepRule_199 ?_
        refine lv_bipush (v := (24 : Int32)) hx hb dX9_keepRule_202 (by decide) ?_
        refine lv_iload_n hx hb dX9_keepRule_204 rfl (lv_at hl 1 rfl) ?_
        refine lv_imul hx hb dX9_keepRule_205 ?_
        refine lv_iload_n hx hb dX9_keepRule_206 rfl (lv_at hl 2 rfl) ?_
        refine lv_iadd hx hb dX9_keepRule_207 ?_
        refine lv_aload_n hx hb dX9_keepRule_208 rfl (lv_at hl 0 rfl) ?_
        obtain ⟨v209, e209, hf⟩ := zb hf
        refine zr_gr (ci := 9) (k := 14) (C := RX9) (T := TX9) (N := 54) hx hb hts hi_X9_keepRule_9 hown hK hP e209 rfl rfl (by decide) (by decide) (hts (.fieldLink RX9 39 "BoundaryAnalyzerModel" "readClass" "[I") (List.mem_of_getElem? (i := 20) rfl)) dX9_keepRule_209 ?_
        refine lv_iload_n hx hb dX9_keepRule_212 rfl (lv_at hl 2 rfl) ?_
        obtain ⟨v213, e213, hf⟩ := zb hf
        refine zr_ai hx hb hK hP e213 dX9_keepRule_213 ?_
        obtain ⟨M214, e214, hf⟩ := zb hf
        refine zr_si hx hb hK hP hS e214 dX9_keepRule_214 (fun H locs hP _ hS => ?_)
        refine lv_aload_n hx hb dX9_keepRule_215 rfl (lv_at hl 0 rfl) ?_
        obtain ⟨v216, e216, hf⟩ := zb hf
        refine zr_gr (ci := 9) (k := 23) (C := RX9) (T := TX9) (N := 54) hx hb hts hi_X9_keepRule_9 hown hK hP e216 rfl rfl (by decide) (by decide) (hts (.fieldLink RX9 54 "BoundaryAnalyzerModel" "nextOf" "[I") (List.mem_of_getElem? (i := 21) rfl)) dX9_keepRule_216 ?_
        refine lv_bipush (v := (24 : Int32)) hx hb dX9_keepRule_219 (by decide) ?_
        refine lv_iload_n hx hb dX9_keepRule_221 rfl (lv_at hl 1 rfl) ?_
        refine lv_imul hx hb dX9_keepRule_222 ?_
        refine lv_iload_n hx hb dX9_keepRule_223 rfl (lv_at hl 2 rfl) ?_
        refine lv_iadd hx hb dX9_keepRule_224 ?_
        refine lv_aload_n hx hb dX9_keepRule_225 rfl (lv_at hl 0 rfl) ?_
        obtain ⟨v226, e226, hf⟩ := zb hf
        refine zr_gr (ci := 9) (k := 15) (C := RX9) (T := TX9) (N := 54) hx hb hts hi_X9_keepRule_9 hown hK hP e226 rfl rfl (by decide) (by decide) (hts (.fieldLink RX9 42 "BoundaryAnalyzerModel" "readNext" "[I") (List.mem_of_getElem? (i := 22) rfl)) dX9_keepRule_226 ?_
        refine lv_iload_n hx hb dX9_keepRule_229 rfl (lv_at hl 2 rfl) ?_
        obtain ⟨v230, e230, hf⟩ := zb hf
        refine zr_ai hx hb hK hP e230 dX9_keepRule_230 ?_
        obtain ⟨M231, e231, hf⟩ := zb hf
        refine zr_si hx hb hK hP hS e231 dX9_keepRule_231 (fun H locs hP _ hS => ?_)
        obtain ⟨x2_232, q232, hf⟩ := zlt_s hf
        refine lv_iinc (v := x2_232) (lv' := [(2, .int x2_232), (0, .ref (b + h0)), (1, .int x1)]) hx hb dX9_keepRule_232 hl (k := 2) rfl (by rw [← q232]; rfl) (by decide) rfl (fun ls hl => ?_)
        refine lv_goto (tgt := 173) hx hb dX9_keepRule_235 (by decide) ?_
        exact ih173 _ _ _ _ _ _ _ hf hP hS (lv_sub hl [1, 2, 0] rfl)
  have J170 : ∀ (M : Mem) (H : Heap) (locs : List Loc) (ls : Array Slot) (h0 : Nat) (x1 : Int32) (g0 : Nat) (y1 : Int32) (y2 : Int32), fX9_keepRule_170  M h0 x1 g0 y1 y2 = some rr → zH D cy b M H → va_S (zA b) s.heap H locs → lv_has ls 3 [(0, .ref (b + h0)), (1, .int x1)] → W p l e (headSpec wsX9_keepRule ({ frames := 0, cells := 0, slots := 0, locals := 0 } : Room)).room s m ([.ref (b + p0), .int p1] : List Value).toArray below meth c H locs 0 0 (MQ below (zQv D cy b rr) ([.ref (b + p0), .int p1] : List Value).toArray s 0 0 (zA b)) (F0 m 170 ls [.int y2, .int y1, .ref (b + g0)]) := by
    intro M H locs ls h0 x1 g0 y1 y2 hf hP hS hl
    unfold fX9_keepRule_170 at hf
    obtain ⟨M170, e170, hf⟩ := zb hf
    refine zr_si hx hb hK hP hS e170 dX9_keepRule_170 (fun H locs hP _ hS => ?_)
    refine lv_iconst (v := (0 : Int32)) hx hb dX9_keepRule_171 (by decide) ?_
    refine lv_istore_n (lv' := [(2, .int (0 : Int32)), (0, .ref (b + h0)), (1, .int x1)]) hx hb dX9_keepRule_172 rfl hl (by decide) rfl (fun ls hl => ?_)
    exact L173 _ _ _ _ _ _ _ _ hf hP hS (lv_sub hl [1, 2, 0] rfl)
  have J147 : ∀ (M : Mem) (H : Heap) (locs : List Loc) (ls : Array Slot) (h0 : Nat) (x1 : Int32) (g0 : Nat) (y1 : Int32) (y2 : Int32), fX9_keepRule_147  M h0 x1 g0 y1 y2 = some rr → zH D cy b M H → va_S (zA b) s.heap H locs → lv_has ls 3 [(0, .ref (b + h0)), (1, .int x1)] → W p l e (headSpec wsX9_keepRule ({ frames := 0, cells := 0, slots := 0, locals := 0 } : Room)).room s m ([.ref (b + p0), .int p1] : List Value).toArray below meth c H locs 0 0 (MQ below (zQv D cy b rr) ([.ref (b + p0), .int p1] : List Value).toArray s 0 0 (zA b)) (F0 m 147 ls [.int y2, .int y1, .ref (b + g0)]) := by
    intro M H locs ls h0 x1 g0 y1 y2 hf hP hS hl
    unfold fX9_keepRule_147 at hf
    obtain ⟨M147, e147, hf⟩ := zb hf
    refine zr_si hx hb hK hP hS e147 dX9_keepRule_147 (fun H locs hP _ hS => ?_)
    refine lv_aload_n hx hb dX9_keepRule_148 rfl (lv_at hl 0 rfl) ?_
    obtain ⟨v149, e149, hf⟩ := zb hf
    refine zr_gr (ci := 9) (k := 30) (C := RX9) (T := TX9) (N := 54) hx hb hts hi_X9_keepRule_9 hown hK hP e149 rfl rfl (by decide) (by decide) (hts (.fieldLink RX9 75 "BoundaryAnalyzerModel" "lookLast" "[I") (List.mem_of_getElem? (i := 16) rfl)) dX9_keepRule_149 ?_
    refine lv_iload_n hx hb dX9_keepRule_152 rfl (lv_at hl 1 rfl) ?_
    refine lv_aload_n hx hb dX9_keepRule_153 rfl (lv_at hl 0 rfl) ?_
    obtain ⟨v154, e154, hf⟩ := zb hf
    refine zr_gi (ci := 9) (k := 16) (C := RX9) (T := TX9) (N := 54) hx hb hts hi_X9_keepRule_9 hown hK hP e154 rfl rfl (by decide) (by decide) (hts (.fieldLink RX9 175 "BoundaryAnalyzerModel" "readLooks" "Z") (List.mem_of_getElem? (i := 4) rfl)) dX9_keepRule_154 ?_
    refine lv_if_eq (tgt := 169) hx hb dX9_keepRule_157 (by decide) (fun c157 => ?_) (fun c157 => ?_)
    · have hf := (if_pos c157).symm.trans hf
      refine lv_iconst (v := (0 : Int32)) hx hb dX9_keepRule_169 (by decide) ?_
      exact J170 _ _ _ _ _ _ _ _ _ hf hP hS (lv_sub hl [0, 1] rfl)
    · have hf := (if_neg c157).symm.trans hf
      refine lv_aload_n hx hb dX9_keepRule_160 rfl (lv_at hl 0 rfl) ?_
      obtain ⟨v161, e161, hf⟩ := zb hf
      refine zr_gr (ci := 9) (k := 5) (C := RX9) (T := TX9) (N := 54) hx hb hts hi_X9_keepRule_9 hown hK hP e161 rfl rfl (by decide) (by decide) (hts (.fieldLink RX9 24 "BoundaryAnalyzerModel" "altLast" "[I") (List.mem_of_getElem? (i := 13) rfl)) dX9_keepRule_161 ?_
      refine lv_iconst (v := (0 : Int32)) hx hb dX9_keepRule_164 (by decide) ?_
      obtain ⟨v165, e165, hf⟩ := zb hf
      refine zr_ai hx hb hK hP e165 dX9_keepRule_165 ?_
      refine lv_goto (tgt := 170) hx hb dX9_keepRule_166 (by decide) ?_
      exact J170 _ _ _ _ _ _ _ _ _ hf hP hS (lv_sub hl [0, 1] rfl)
  have J124 : ∀ (M : Mem) (H : Heap) (locs : List Loc) (ls : Array Slot) (h0 : Nat) (x1 : Int32) (g0 : Nat) (y1 : Int32) (y2 : Int32), fX9_keepRule_124  M h0 x1 g0 y1 y2 = some rr → zH D cy b M H → va_S (zA b) s.heap H locs → lv_has ls 3 [(0, .ref (b + h0)), (1, .int x1)] → W p l e (headSpec wsX9_keepRule ({ frames := 0, cells := 0, slots := 0, locals := 0 } : Room)).room s m ([.ref (b + p0), .int p1] : List Value).toArray below meth c H locs 0 0 (MQ below (zQv D cy b rr) ([.ref (b + p0), .int p1] : List Value).toArray s 0 0 (zA b)) (F0 m 124 ls [.int y2, .int y1, .ref (b + g0)]) := by
    intro M H locs ls h0 x1 g0 y1 y2 hf hP hS hl
    unfold fX9_keepRule_124 at hf
    obtain ⟨M124, e124, hf⟩ := zb hf
    refine zr_sz hx hb hK hP hS e124 dX9_keepRule_124 (fun H locs hP _ hS => ?_)
    refine lv_aload_n hx hb dX9_keepRule_125 rfl (lv_at hl 0 rfl) ?_
    obtain ⟨v126, e126, hf⟩ := zb hf
    refine zr_gr (ci := 9) (k := 29) (C := RX9) (T := TX9) (N := 54) hx hb hts hi_X9_keepRule_9 hown hK hP e126 rfl rfl (by decide) (by decide) (hts (.fieldLink RX9 72 "BoundaryAnalyzerModel" "lookFirst" "[I") (List.mem_of_getElem? (i := 15) rfl)) dX9_keepRule_126 ?_
    refine lv_iload_n hx hb dX9_keepRule_129 rfl (lv_at hl 1 rfl) ?_
    refine lv_aload_n hx hb dX9_keepRule_130 rfl (lv_at hl 0 rfl) ?_
    obtain ⟨v131, e131, hf⟩ := zb hf
    refine zr_gi (ci := 9) (k := 16) (C := RX9) (T := TX9) (N := 54) hx hb hts hi_X9_keepRule_9 hown hK hP e131 rfl rfl (by decide) (by decide) (hts (.fieldLink RX9 175 "BoundaryAnalyzerModel" "readLooks" "Z") (List.mem_of_getElem? (i := 4) rfl)) dX9_keepRule_131 ?_
    refine lv_if_eq (tgt := 146) hx hb dX9_keepRule_134 (by decide) (fun c134 => ?_) (fun c134 => ?_)
    · have hf := (if_pos c134).symm.trans hf
      refine lv_iconst (v := (0 : Int32)) hx hb dX9_keepRule_146 (by decide) ?_
      exact J147 _ _ _ _ _ _ _ _ _ hf hP hS (lv_sub hl [0, 1] rfl)
    · have hf := (if_neg c134).symm.trans hf
      refine lv_aload_n hx hb dX9_keepRule_137 rfl (lv_at hl 0 rfl) ?_
      obtain ⟨v138, e138, hf⟩ := zb hf
      refine zr_gr (ci := 9) (k := 4) (C := RX9) (T := TX9) (N := 54) hx hb hts hi_X9_keepRule_9 hown hK hP e138 rfl rfl (by decide) (by decide) (hts (.fieldLink RX9 21 "BoundaryAnalyzerModel" "altFirst" "[I") (List.mem_of_getElem? (i := 10) rfl)) dX9_keepRule_138 ?_
      refine lv_iconst (v := (0 : Int32)) hx hb dX9_keepRule_141 (by decide) ?_
      obtain ⟨v142, e142, hf⟩ := zb hf
      refine zr_ai hx hb hK hP e142 dX9_keepRule_142 ?_
      refine lv_goto (tgt := 147) hx hb dX9_keepRule_143 (by decide) ?_
      exact J147 _ _ _ _ _ _ _ _ _ hf hP hS (lv_sub hl [0, 1] rfl)
  have J119 : ∀ (M : Mem) (H : Heap) (locs : List Loc) (ls : Array Slot) (h0 : Nat) (x1 : Int32) (g0 : Nat) (y1 : Int32), fX9_keepRule_119  M h0 x1 g0 y1 = some rr → zH D cy b M H → va_S (zA b) s.heap H locs → lv_has ls 3 [(0, .ref (b + h0)), (1, .int x1)] → W p l e (headSpec wsX9_keepRule ({ frames := 0, cells := 0, slots := 0, locals := 0 } : Room)).room s m ([.ref (b + p0), .int p1] : List Value).toArray below meth c H locs 0 0 (MQ below (zQv D cy b rr) ([.ref (b + p0), .int p1] : List Value).toArray s 0 0 (zA b)) (F0 m 119 ls [.int y1, .ref (b + g0)]) := by
    intro M H locs ls h0 x1 g0 y1 hf hP hS hl
    unfold fX9_keepRule_119 at hf
    refine lv_iconst (v := (1 : Int32)) hx hb dX9_keepRule_119 (by decide) ?_
    refine lv_goto (tgt := 124) hx hb dX9_keepRule_120 (by decide) ?_
    exact J124 _ _ _ _ _ _ _ _ _ hf hP hS (lv_sub hl [0, 1] rfl)
  have J97 : ∀ (M : Mem) (H : Heap) (locs : List Loc) (ls : Array Slot) (h0 : Nat) (x1 : Int32) (g0 : Nat) (y1 : Int32) (y2 : Int32), fX9_keepRule_97  M h0 x1 g0 y1 y2 = some rr → zH D cy b M H → va_S (zA b) s.heap H locs → lv_has ls 3 [(0, .ref (b + h0)), (1, .int x1)] → W p l e (headSpec wsX9_keepRule ({ frames := 0, cells := 0, slots := 0, locals := 0 } : Room)).room s m ([.ref (b + p0), .int p1] : List Value).toArray below meth c H locs 0 0 (MQ below (zQv D cy b rr) ([.ref (b + p0), .int p1] : List Value).toArray s 0 0 (zA b)) (F0 m 97 ls [.int y2, .int y1, .ref (b + g0)]) := by
    intro M H locs ls h0 x1 g0 y1 y2 hf hP hS hl
    unfold fX9_keepRule_97 at hf
    obtain ⟨M97, e97, hf⟩ := zb hf
    refine zr_si hx hb hK hP hS e97 dX9_keepRule_97 (fun H locs hP _ hS => ?_)
    refine lv_aload_n hx hb dX9_keepRule_98 rfl (lv_at hl 0 rfl) ?_
    obtain ⟨v99, e99, hf⟩ := zb hf
    refine zr_gr (ci := 9) (k := 28) (C := RX9) (T := TX9) (N := 54) hx hb hts hi_X9_keepRule_9 hown hK hP e99 rfl rfl (by decide) (by decide) (hts (.fieldLink RX9 69 "BoundaryAnalyzerModel" "lookNull" "[Z") (List.mem_of_getElem? (i := 14) rfl)) dX9_keepRule_99 ?_
    refine lv_iload_n hx hb dX9_keepRule_102 rfl (lv_at hl 1 rfl) ?_
    refine lv_aload_n hx hb dX9_keepRule_103 rfl (lv_at hl 0 rfl) ?_
    obtain ⟨v104, e104, hf⟩ := zb hf
    refine zr_gi (ci := 9) (k := 16) (C := RX9) (T := TX9) (N := 54) hx hb hts hi_X9_keepRule_9 hown hK hP e104 rfl rfl (by decide) (by decide) (hts (.fieldLink RX9 175 "BoundaryAnalyzerModel" "readLooks" "Z") (List.mem_of_getElem? (i := 4) rfl)) dX9_keepRule_104 ?_
    refine lv_if_eq (tgt := 119) hx hb dX9_keepRule_107 (by decide) (fun c107 => ?_) (fun c107 => ?_)
    · have hf := (if_pos c107).symm.trans hf
      exact J119 _ _ _ _ _ _ _ _ hf hP hS (lv_sub hl [0, 1] rfl)
    · have hf := (if_neg c107).symm.trans hf
      refine lv_aload_n hx hb dX9_keepRule_110 rfl (lv_at hl 0 rfl) ?_
      obtain ⟨v111, e111, hf⟩ := zb hf
      refine zr_gr (ci := 9) (k := 3) (C := RX9) (T := TX9) (N := 54) hx hb hts hi_X9_keepRule_9 hown hK hP e111 rfl rfl (by decide) (by decide) (hts (.fieldLink RX9 17 "BoundaryAnalyzerModel" "altNull" "[Z") (List.mem_of_getElem? (i := 7) rfl)) dX9_keepRule_111 ?_
      refine lv_iconst (v := (0 : Int32)) hx hb dX9_keepRule_114 (by decide) ?_
      obtain ⟨v115, e115, hf⟩ := zb hf
      refine zr_az hx hb hK hP e115 dX9_keepRule_115 ?_
      refine lv_if_eq (tgt := 123) hx hb dX9_keepRule_116 (by decide) (fun c116 => ?_) (fun c116 => ?_)
      · have hf := (if_pos c116).symm.trans hf
        refine lv_iconst (v := (0 : Int32)) hx hb dX9_keepRule_123 (by decide) ?_
        exact J124 _ _ _ _ _ _ _ _ _ hf hP hS (lv_sub hl [0, 1] rfl)
      · have hf := (if_neg c116).symm.trans hf
        exact J119 _ _ _ _ _ _ _ _ hf hP hS (lv_sub hl [0, 1] rfl)
  have J71 : ∀ (M : Mem) (H : Heap) (locs : List Loc) (ls : Array Slot) (h0 : Nat) (x1 : Int32) (g0 : Nat) (y1 : Int32) (y2 : Int32), fX9_keepRule_71  M h0 x1 g0 y1 y2 = some rr → zH D cy b M H → va_S (zA b) s.heap H locs → lv_has ls 3 [(0, .ref (b + h0)), (1, .int x1)] → W p l e (headSpec wsX9_keepRule ({ frames := 0, cells := 0, slots := 0, locals := 0 } : Room)).room s m ([.ref (b + p0), .int p1] : List Value).toArray below meth c H locs 0 0 (MQ below (zQv D cy b rr) ([.ref (b + p0), .int p1] : List Value).toArray s 0 0 (zA b)) (F0 m 71 ls [.int y2, .int y1, .ref (b + g0)]) := by
    intro M H locs ls h0 x1 g0 y1 y2 hf hP hS hl
    unfold fX9_keepRule_71 at hf
    obtain ⟨M71, e71, hf⟩ := zb hf
    refine zr_si hx hb hK hP hS e71 dX9_keepRule_71 (fun H locs hP _ hS => ?_)
    refine lv_aload_n hx hb dX9_keepRule_72 rfl (lv_at hl 0 rfl) ?_
    obtain ⟨v73, e73, hf⟩ := zb hf
    refine zr_gr (ci := 9) (k := 27) (C := RX9) (T := TX9) (N := 54) hx hb hts hi_X9_keepRule_9 hown hK hP e73 rfl rfl (by decide) (by decide) (hts (.fieldLink RX9 66 "BoundaryAnalyzerModel" "bodyLast" "[I") (List.mem_of_getElem? (i := 11) rfl)) dX9_keepRule_73 ?_
    refine lv_iload_n hx hb dX9_keepRule_76 rfl (lv_at hl 1 rfl) ?_
    refine lv_aload_n hx hb dX9_keepRule_77 rfl (lv_at hl 0 rfl) ?_
    obtain ⟨v78, e78, hf⟩ := zb hf
    refine zr_gi (ci := 9) (k := 16) (C := RX9) (T := TX9) (N := 54) hx hb hts hi_X9_keepRule_9 hown hK hP e78 rfl rfl (by decide) (by decide) (hts (.fieldLink RX9 175 "BoundaryAnalyzerModel" "readLooks" "Z") (List.mem_of_getElem? (i := 4) rfl)) dX9_keepRule_78 ?_
    refine lv_if_eq (tgt := 91) hx hb dX9_keepRule_81 (by decide) (fun c81 => ?_) (fun c81 => ?_)
    · have hf := (if_pos c81).symm.trans hf
      refine lv_aload_n hx hb dX9_keepRule_91 rfl (lv_at hl 0 rfl) ?_
      obtain ⟨v92, e92, hf⟩ := zb hf
      refine zr_gr (ci := 9) (k := 5) (C := RX9) (T := TX9) (N := 54) hx hb hts hi_X9_keepRule_9 hown hK hP e92 rfl rfl (by decide) (by decide) (hts (.fieldLink RX9 24 "BoundaryAnalyzerModel" "altLast" "[I") (List.mem_of_getElem? (i := 13) rfl)) dX9_keepRule_92 ?_
      refine lv_iconst (v := (0 : Int32)) hx hb dX9_keepRule_95 (by decide) ?_
      obtain ⟨v96, e96, hf⟩ := zb hf
      refine zr_ai hx hb hK hP e96 dX9_keepRule_96 ?_
      exact J97 _ _ _ _ _ _ _ _ _ hf hP hS (lv_sub hl [0, 1] rfl)
    · have hf := (if_neg c81).symm.trans hf
      refine lv_aload_n hx hb dX9_keepRule_84 rfl (lv_at hl 0 rfl) ?_
      obtain ⟨v85, e85, hf⟩ := zb hf
      refine zr_gi (ci := 9) (k := 19) (C := RX9) (T := TX9) (N := 54) hx hb hts hi_X9_keepRule_9 hown hK hP e85 rfl rfl (by decide) (by decide) (hts (.fieldLink RX9 184 "BoundaryAnalyzerModel" "bodyReadLast" "I") (List.mem_of_getElem? (i := 12) rfl)) dX9_keepRule_85 ?_
      refine lv_goto (tgt := 97) hx hb dX9_keepRule_88 (by decide) ?_
      exact J97 _ _ _ _ _ _ _ _ _ hf hP hS (lv_sub hl [0, 1] rfl)
  have J45 : ∀ (M : Mem) (H : Heap) (locs : List Loc) (ls : Array Slot) (h0 : Nat) (x1 : Int32) (g0 : Nat) (y1 : Int32) (y2 : Int32), fX9_keepRule_45  M h0 x1 g0 y1 y2 = some rr → zH D cy b M H → va_S (zA b) s.heap H locs → lv_has ls 3 [(0, .ref (b + h0)), (1, .int x1)] → W p l e (headSpec wsX9_keepRule ({ frames := 0, cells := 0, slots := 0, locals := 0 } : Room)).room s m ([.ref (b + p0), .int p1] : List Value).toArray below meth c H locs 0 0 (MQ below (zQv D cy b rr) ([.ref (b + p0), .int p1] : List Value).toArray s 0 0 (zA b)) (F0 m 45 ls [.int y2, .int y1, .ref (b + g0)]) := by
    intro M H locs ls h0 x1 g0 y1 y2 hf hP hS hl
    unfold fX9_keepRule_45 at hf
    obtain ⟨M45, e45, hf⟩ := zb hf
    refine zr_sz hx hb hK hP hS e45 dX9_keepRule_45 (fun H locs hP _ hS => ?_)
    refine lv_aload_n hx hb dX9_keepRule_46 rfl (lv_at hl 0 rfl) ?_
    obtain ⟨v47, e47, hf⟩ := zb hf
    refine zr_gr (ci := 9) (k := 26) (C := RX9) (T := TX9) (N := 54) hx hb hts hi_X9_keepRule_9 hown hK hP e47 rfl rfl (by decide) (by decide) (hts (.fieldLink RX9 63 "BoundaryAnalyzerModel" "bodyFirst" "[I") (List.mem_of_getElem? (i := 8) rfl)) dX9_keepRule_47 ?_
    refine lv_iload_n hx hb dX9_keepRule_50 rfl (lv_at hl 1 rfl) ?_
    refine lv_aload_n hx hb dX9_keepRule_51 rfl (lv_at hl 0 rfl) ?_
    obtain ⟨v52, e52, hf⟩ := zb hf
    refine zr_gi (ci := 9) (k := 16) (C := RX9) (T := TX9) (N := 54) hx hb hts hi_X9_keepRule_9 hown hK hP e52 rfl rfl (by decide) (by decide) (hts (.fieldLink RX9 175 "BoundaryAnalyzerModel" "readLooks" "Z") (List.mem_of_getElem? (i := 4) rfl)) dX9_keepRule_52 ?_
    refine lv_if_eq (tgt := 65) hx hb dX9_keepRule_55 (by decide) (fun c55 => ?_) (fun c55 => ?_)
    · have hf := (if_pos c55).symm.trans hf
      refine lv_aload_n hx hb dX9_keepRule_65 rfl (lv_at hl 0 rfl) ?_
      obtain ⟨v66, e66, hf⟩ := zb hf
      refine zr_gr (ci := 9) (k := 4) (C := RX9) (T := TX9) (N := 54) hx hb hts hi_X9_keepRule_9 hown hK hP e66 rfl rfl (by decide) (by decide) (hts (.fieldLink RX9 21 "BoundaryAnalyzerModel" "altFirst" "[I") (List.mem_of_getElem? (i := 10) rfl)) dX9_keepRule_66 ?_
      refine lv_iconst (v := (0 : Int32)) hx hb dX9_keepRule_69 (by decide) ?_
      obtain ⟨v70, e70, hf⟩ := zb hf
      refine zr_ai hx hb hK hP e70 dX9_keepRule_70 ?_
      exact J71 _ _ _ _ _ _ _ _ _ hf hP hS (lv_sub hl [0, 1] rfl)
    · have hf := (if_neg c55).symm.trans hf
      refine lv_aload_n hx hb dX9_keepRule_58 rfl (lv_at hl 0 rfl) ?_
      obtain ⟨v59, e59, hf⟩ := zb hf
      refine zr_gi (ci := 9) (k := 18) (C := RX9) (T := TX9) (N := 54) hx hb hts hi_X9_keepRule_9 hown hK hP e59 rfl rfl (by decide) (by decide) (hts (.fieldLink RX9 181 "BoundaryAnalyzerModel" "bodyReadFirst" "I") (List.mem_of_getElem? (i := 9) rfl)) dX9_keepRule_59 ?_
      refine lv_goto (tgt := 71) hx hb dX9_keepRule_62 (by decide) ?_
      exact J71 _ _ _ _ _ _ _ _ _ hf hP hS (lv_sub hl [0, 1] rfl)
  unfold fX9_keepRule at hf
  refine lv_aload_n hx hb dX9_keepRule_0 rfl (lv_at hl 0 rfl) ?_
  obtain ⟨v1, e1, hf⟩ := zb hf
  refine zr_gr (ci := 9) (k := 20) (C := RX9) (T := TX9) (N := 54) hx hb hts hi_X9_keepRule_9 hown hK hP e1 rfl rfl (by decide) (by decide) (hts (.fieldLink RX9 45 "BoundaryAnalyzerModel" "ruleLong" "[I") (List.mem_of_getElem? (i := 1) rfl)) dX9_keepRule_1 ?_
  refine lv_iload_n hx hb dX9_keepRule_4 rfl (lv_at hl 1 rfl) ?_
  refine lv_aload_n hx hb dX9_keepRule_5 rfl (lv_at hl 0 rfl) ?_
  obtain ⟨v6, e6, hf⟩ := zb hf
  refine zr_gi (ci := 9) (k := 1) (C := RX9) (T := TX9) (N := 54) hx hb hts hi_X9_keepRule_9 hown hK hP e6 rfl rfl (by decide) (by decide) (hts (.fieldLink RX9 144 "BoundaryAnalyzerModel" "typed" "I") (List.mem_of_getElem? (i := 2) rfl)) dX9_keepRule_6 ?_
  obtain ⟨M9, e9, hf⟩ := zb hf
  refine zr_si hx hb hK hP hS e9 dX9_keepRule_9 (fun H locs hP _ hS => ?_)
  refine lv_aload_n hx hb dX9_keepRule_10 rfl (lv_at hl 0 rfl) ?_
  obtain ⟨v11, e11, hf⟩ := zb hf
  refine zr_gr (ci := 9) (k := 24) (C := RX9) (T := TX9) (N := 54) hx hb hts hi_X9_keepRule_9 hown hK hP e11 rfl rfl (by decide) (by decide) (hts (.fieldLink RX9 57 "BoundaryAnalyzerModel" "looks" "[Z") (List.mem_of_getElem? (i := 3) rfl)) dX9_keepRule_11 ?_
  refine lv_iload_n hx hb dX9_keepRule_14 rfl (lv_at hl 1 rfl) ?_
  refine lv_aload_n hx hb dX9_keepRule_15 rfl (lv_at hl 0 rfl) ?_
  obtain ⟨v16, e16, hf⟩ := zb hf
  refine zr_gi (ci := 9) (k := 16) (C := RX9) (T := TX9) (N := 54) hx hb hts hi_X9_keepRule_9 hown hK hP e16 rfl rfl (by decide) (by decide) (hts (.fieldLink RX9 175 "BoundaryAnalyzerModel" "readLooks" "Z") (List.mem_of_getElem? (i := 4) rfl)) dX9_keepRule_16 ?_
  obtain ⟨M19, e19, hf⟩ := zb hf
  refine zr_sz hx hb hK hP hS e19 dX9_keepRule_19 (fun H locs hP _ hS => ?_)
  refine lv_aload_n hx hb dX9_keepRule_20 rfl (lv_at hl 0 rfl) ?_
  obtain ⟨v21, e21, hf⟩ := zb hf
  refine zr_gr (ci := 9) (k := 25) (C := RX9) (T := TX9) (N := 54) hx hb hts hi_X9_keepRule_9 hown hK hP e21 rfl rfl (by decide) (by decide) (hts (.fieldLink RX9 60 "BoundaryAnalyzerModel" "bodyNull" "[Z") (List.mem_of_getElem? (i := 5) rfl)) dX9_keepRule_21 ?_
  refine lv_iload_n hx hb dX9_keepRule_24 rfl (lv_at hl 1 rfl) ?_
  refine lv_aload_n hx hb dX9_keepRule_25 rfl (lv_at hl 0 rfl) ?_
  obtain ⟨v26, e26, hf⟩ := zb hf
  refine zr_gi (ci := 9) (k := 16) (C := RX9) (T := TX9) (N := 54) hx hb hts hi_X9_keepRule_9 hown hK hP e26 rfl rfl (by decide) (by decide) (hts (.fieldLink RX9 175 "BoundaryAnalyzerModel" "readLooks" "Z") (List.mem_of_getElem? (i := 4) rfl)) dX9_keepRule_26 ?_
  refine lv_if_eq (tgt := 39) hx hb dX9_keepRule_29 (by decide) (fun c29 => ?_) (fun c29 => ?_)
  · have hf := (if_pos c29).symm.trans hf
    refine lv_aload_n hx hb dX9_keepRule_39 rfl (lv_at hl 0 rfl) ?_
    obtain ⟨v40, e40, hf⟩ := zb hf
    refine zr_gr (ci := 9) (k := 3) (C := RX9) (T := TX9) (N := 54) hx hb hts hi_X9_keepRule_9 hown hK hP e40 rfl rfl (by decide) (by decide) (hts (.fieldLink RX9 17 "BoundaryAnalyzerModel" "altNull" "[Z") (List.mem_of_getElem? (i := 7) rfl)) dX9_keepRule_40 ?_
    refine lv_iconst (v := (0 : Int32)) hx hb dX9_keepRule_43 (by decide) ?_
    obtain ⟨v44, e44, hf⟩ := zb hf
    refine zr_az hx hb hK hP e44 dX9_keepRule_44 ?_
    exact J45 _ _ _ _ _ _ _ _ _ hf hP hS (lv_sub hl [0, 1] rfl)
  · have hf := (if_neg c29).symm.trans hf
    refine lv_aload_n hx hb dX9_keepRule_32 rfl (lv_at hl 0 rfl) ?_
    obtain ⟨v33, e33, hf⟩ := zb hf
    refine zr_gi (ci := 9) (k := 17) (C := RX9) (T := TX9) (N := 54) hx hb hts hi_X9_keepRule_9 hown hK hP e33 rfl rfl (by decide) (by decide) (hts (.fieldLink RX9 178 "BoundaryAnalyzerModel" "bodyReadNull" "Z") (List.mem_of_getElem? (i := 6) rfl)) dX9_keepRule_33 ?_
    refine lv_goto (tgt := 45) hx hb dX9_keepRule_36 (by decide) ?_
    exact J45 _ _ _ _ _ _ _ _ _ hf hP hS (lv_sub hl [0, 1] rfl)
