theorem hi_X9_readPattern_9 : ∀ w ∈ wsX90, w ∈ wsX9_readPattern := fun _ h => List.mem_cons_of_mem _ (List.mem_append_right _ h)
set_option maxHeartbeats 4000000 in
set_option maxRecDepth 100000 in
theorem k_X9_readPattern (l : Launch) (D : va_G) (cy : Nat → ClassId) (b : Nat) (M0 : Mem) (p0 : Nat) (rr : Int32 × Mem) (hf : fX9_readPattern M0 p0 = some rr) : Met l yX9_readPattern wsX9_readPattern ({ frames := 3, cells := 0, slots := 0, locals := 65 } : Room) (zPc D cy b M0 [.ref (b + p0)]) (zQi D cy b rr) 0 0 (zA b) := by
  refine Met.ofW (cc := cX9_readPattern) (maxL := 4) (ret := (some .int)) (by decide) rfl ?_
  intro p e s m args below meth c s₁ B hml hv
  obtain ⟨rfl, hP, hK⟩ := hv
  have hx := B.exec
  have hb := B.bytes
  have hr := B.returns
  have hts := atoms_spec (ws := wsX9_readPattern) B.pre
  have hown : s.vm.findClass RX9 = some m.cls := findClass_of_methodNamed B.named
  have hlocks := B.notSynchronized
  have hS : va_S (zA b) s.heap s.heap [] := va_S.rf
  have hl := lv_entry ([.ref (b + p0)]) (n := 4) (Nat.le_of_ble_eq_true rfl)
  rw [lg_entry_eq]
  generalize (lg_sl ([.ref (b + p0)]) ++ List.replicate (4 - (lg_sl ([.ref (b + p0)])).length) Slot.unset).toArray = ls at hl ⊢
  have hl : lv_has ls 4 [(0, .ref (b + p0))] := hl
  have J386 : ∀ (M : Mem) (H : Heap) (locs : List Loc) (ls : Array Slot) (h0 : Nat), fX9_readPattern_386  M h0 = some rr → zH D cy b M H → va_S (zA b) s.heap H locs → lv_has ls 4 [(0, .ref (b + h0))] → W p l e (headSpec wsX9_readPattern ({ frames := 3, cells := 0, slots := 0, locals := 65 } : Room)).room s m ([.ref (b + p0)] : List Value).toArray below meth c H locs 0 0 (MQ below (zQi D cy b rr) ([.ref (b + p0)] : List Value).toArray s 0 0 (zA b)) (F0 m 386 ls []) := by
    intro M H locs ls h0 hf hP hS hl
    unfold fX9_readPattern_386 at hf
    refine lv_aload_n hx hb dX9_readPattern_386 rfl (lv_at hl 0 rfl) ?_
    obtain ⟨v387, e387, hf⟩ := zb hf
    refine zr_gi (ci := 9) (k := 1) (C := RX9) (T := TX9) (N := 54) hx hb hts hi_X9_readPattern_9 hown hK hP e387 rfl rfl (by decide) (by decide) (hts (.fieldLink RX9 144 "BoundaryAnalyzerModel" "typed" "I") (List.mem_of_getElem? (i := 7) rfl)) dX9_readPattern_387 ?_
    exact zret_i hx hb hr hlocks hf hP hS dX9_readPattern_390
  have L52 : ∀ (n52 : Nat) (M : Mem) (H : Heap) (locs : List Loc) (ls : Array Slot) (h0 : Nat) (x1 : Int32), fX9_readPattern_52L  n52 M h0 x1 = some rr → zH D cy b M H → va_S (zA b) s.heap H locs → lv_has ls 4 [(0, .ref (b + h0)), (1, .int x1)] → W p l e (headSpec wsX9_readPattern ({ frames := 3, cells := 0, slots := 0, locals := 65 } : Room)).room s m ([.ref (b + p0)] : List Value).toArray below meth c H locs 0 0 (MQ below (zQi D cy b rr) ([.ref (b + p0)] : List Value).toArray s 0 0 (zA b)) (F0 m 52 ls []) := by
    intro n52
    induction n52 with
    | zero =>
      intro M H locs ls h0 x1 hf
      have hf : (none : Option (Int32 × Mem)) = some rr := hf
      cases hf
    | succ n52 ih52 =>
      have J367 : ∀ (M : Mem) (H : Heap) (locs : List Loc) (ls : Array Slot) (h0 : Nat) (x1 : Int32), fX9_readPattern_367 (fX9_readPattern_52L  n52) M h0 x1 = some rr → zH D cy b M H → va_S (zA b) s.heap H locs → lv_has ls 4 [(0, .ref (b + h0)), (1, .int x1)] → W p l e (headSpec wsX9_readPattern ({ frames := 3, cells := 0, slots := 0, locals := 65 } : Room)).room s m ([.ref (b + p0)] : List Value).toArray below meth c H locs 0 0 (MQ below (zQi D cy b rr) ([.ref (b + p0)] : List Value).toArray s 0 0 (zA b)) (F0 m 367 ls []) := by
        intro M H locs ls h0 x1 hf hP hS hl
        unfold fX9_readPattern_367 at hf
        refine lv_goto (tgt := 52) hx hb dX9_readPattern_367 (by decide) ?_
        exact ih52 _ _ _ _ _ _ hf hP hS (lv_sub hl [0, 1] rfl)
      have J122 : ∀ (M : Mem) (H : Heap) (locs : List Loc) (ls : Array Slot) (h0 : Nat) (x1 : Int32) (g0 : Nat) (y1 : Int32) (y2 : Int32), fX9_readPattern_122 (fX9_readPattern_52L  n52) M h0 x1 g0 y1 y2 = some rr → zH D cy b M H → va_S (zA b) s.heap H locs → lv_has ls 4 [(0, .ref (b + h0)), (1, .int x1)] → W p l e (headSpec wsX9_readPattern ({ frames := 3, cells := 0, slots := 0, locals := 65 } : Room)).room s m ([.ref (b + p0)] : List Value).toArray below meth c H locs 0 0 (MQ below (zQi D cy b rr) ([.ref (b + p0)] : List Value).toArray s 0 0 (zA b)) (F0 m 122 ls [.int y2, .int y1, .ref (b + g0)]) := by
        intro M H locs ls h0 x1 g0 y1 y2 hf hP hS hl
        unfold fX9_readPattern_122 at hf
        obtain ⟨M122, e122, hf⟩ := zb hf
        refine zr_si hx hb hK hP hS e122 dX9_readPattern_122 (fun H locs hP _ hS => ?_)
        refine lv_aload_n hx hb dX9_readPattern_123 rfl (lv_at hl 0 rfl) ?_
        refine lv_iconst (v := (0 : Int32)) hx hb dX9_readPattern_124 (by decide) ?_
        obtain ⟨M125, e125, hf⟩ := zb hf
        refine zr_pz (ci := 9) (k := 11) (C := RX9) (T := TX9) (N := 54) hx hb hts hi_X9_readPattern_9 tyX9 tyX9_ok nmX9 hown hK hP hS e125 rfl rfl (by decide) (by decide) (hts (.fieldLink RX9 164 "BoundaryAnalyzerModel" "itemNull" "Z") (List.mem_of_getElem? (i := 11) rfl)) rfl (tyX9_ok 11 (by decide)) dX9_readPattern_125 (fun H locs hP _ hS => ?_)
        refine lv_aload_n hx hb dX9_readPattern_128 rfl (lv_at hl 0 rfl) ?_
        refine lv_iconst (v := (1 : Int32)) hx hb dX9_readPattern_129 (by decide) ?_
        refine lv_iload_n hx hb dX9_readPattern_130 rfl (lv_at hl 1 rfl) ?_
        refine lv_ishl hx hb dX9_readPattern_131 ?_
        obtain ⟨M132, e132, hf⟩ := zb hf
        refine zr_pi (ci := 9) (k := 12) (C := RX9) (T := TX9) (N := 54) hx hb hts hi_X9_readPattern_9 tyX9 tyX9_ok nmX9 hown hK hP hS e132 rfl rfl (by decide) (by decide) (hts (.fieldLink RX9 154 "BoundaryAnalyzerModel" "itemFirst" "I") (List.mem_of_getElem? (i := 12) rfl)) rfl (tyX9_ok 12 (by decide)) dX9_readPattern_132 (fun H locs hP _ hS => ?_)
        refine lv_aload_n hx hb dX9_readPattern_135 rfl (lv_at hl 0 rfl) ?_
        refine lv_iconst (v := (1 : Int32)) hx hb dX9_readPattern_136 (by decide) ?_
        refine lv_iload_n hx hb dX9_readPattern_137 rfl (lv_at hl 1 rfl) ?_
        refine lv_ishl hx hb dX9_readPattern_138 ?_
        obtain ⟨M139, e139, hf⟩ := zb hf
        refine zr_pi (ci := 9) (k := 13) (C := RX9) (T := TX9) (N := 54) hx hb hts hi_X9_readPattern_9 tyX9 tyX9_ok nmX9 hown hK hP hS e139 rfl rfl (by decide) (by decide) (hts (.fieldLink RX9 161 "BoundaryAnalyzerModel" "itemLast" "I") (List.mem_of_getElem? (i := 13) rfl)) rfl (tyX9_ok 13 (by decide)) dX9_readPattern_139 (fun H locs hP _ hS => ?_)
        refine lv_aload_n hx hb dX9_readPattern_142 rfl (lv_at hl 0 rfl) ?_
        refine lv_iload_n hx hb dX9_readPattern_143 rfl (lv_at hl 1 rfl) ?_
        refine lv_iconst (v := (1 : Int32)) hx hb dX9_readPattern_144 (by decide) ?_
        refine lv_iadd hx hb dX9_readPattern_145 ?_
        obtain ⟨u146, t146, hf⟩ := zb hf
        obtain ⟨r146, e146, hf⟩ := zb hf
        refine zc_i hS (va_runV (As := [.int (x1 + (1 : Int32))]) (rest := []) ⟨hx, hb, hml, hown, hts⟩ (k_X9_endItem l D cy b M139 h0 (x1 + (1 : Int32)) r146 e146) (cwV 1 hts gX9_readPattern_X9_endItem rfl rfl rfl (by decide +kernel) ⟨Nat.le_of_ble_eq_true rfl, Nat.le_of_ble_eq_true rfl⟩) (zp_V _ hK hP t146 (T := TX9) (N := 54) rfl (by decide)) rfl rfl hl.1 rfl (lv_room (Nat.le_of_ble_eq_true rfl)) dX9_readPattern_146 ⟨Nat.zero_le _, Nat.zero_le _⟩) (fun H locs hP hS => ?_)
        refine lv_istore_n (lv' := [(1, .int r146.1), (0, .ref (b + h0))]) hx hb dX9_readPattern_149 rfl hl (by decide) rfl (fun ls hl => ?_)
        refine lv_goto (tgt := 367) hx hb dX9_readPattern_150 (by decide) ?_
        exact J367 _ _ _ _ _ _ hf hP hS (lv_sub hl [1, 0] rfl)
      have J102 : ∀ (M : Mem) (H : Heap) (locs : List Loc) (ls : Array Slot) (h0 : Nat) (x1 : Int32) (x2 : Int32), fX9_readPattern_102 (fX9_readPattern_52L  n52) M h0 x1 x2 = some rr → zH D cy b M H → va_S (zA b) s.heap H locs → lv_has ls 4 [(0, .ref (b + h0)), (1, .int x1), (2, .int x2)] → W p l e (headSpec wsX9_readPattern ({ frames := 3, cells := 0, slots := 0, locals := 65 } : Room)).room s m ([.ref (b + p0)] : List Value).toArray below meth c H locs 0 0 (MQ below (zQi D cy b rr) ([.ref (b + p0)] : List Value).toArray s 0 0 (zA b)) (F0 m 102 ls []) := by
        intro M H locs ls h0 x1 x2 hf hP hS hl
        unfold fX9_readPattern_102 at hf
        refine lv_aload_n hx hb dX9_readPattern_102 rfl (lv_at hl 0 rfl) ?_
        obtain ⟨v103, e103, hf⟩ := zb hf
        refine zr_gr (ci := 9) (k := 14) (C := RX9) (T := TX9) (N := 54) hx hb hts hi_X9_readPattern_9 hown hK hP e103 rfl rfl (by decide) (by decide) (hts (.fieldLink RX9 39 "BoundaryAnalyzerModel" "readClass" "[I") (List.mem_of_getElem? (i := 10) rfl)) dX9_readPattern_103 ?_
        refine lv_iload_n hx hb dX9_readPattern_106 rfl (lv_at hl 1 rfl) ?_
        refine lv_iload_n hx hb dX9_readPattern_107 rfl (lv_at hl 2 rfl) ?_
        refine lv_bipush (v := (46 : Int32)) hx hb dX9_readPattern_108 (by decide) ?_
        refine lv_icmp_ne (tgt := 118) hx hb dX9_readPattern_110 (by decide) (fun c110 => ?_) (fun c110 => ?_)
        · have hf := (if_neg c110).symm.trans hf
          refine lv_iload_n hx hb dX9_readPattern_118 rfl (lv_at hl 2 rfl) ?_
          refine lv_bipush (v := (65 : Int32)) hx hb dX9_readPattern_119 (by decide) ?_
          refine lv_isub hx hb dX9_readPattern_121 ?_
          exact J122 _ _ _ _ _ _ _ _ _ hf hP hS (lv_sub hl [0, 1] rfl)
        · have hf := (if_pos c110).symm.trans hf
          refine lv_bipush (v := (12 : Int32)) hx hb dX9_readPattern_113 (by decide) ?_
          refine lv_goto (tgt := 122) hx hb dX9_readPattern_115 (by decide) ?_
          exact J122 _ _ _ _ _ _ _ _ _ hf hP hS (lv_sub hl [0, 1] rfl)
      have J292 : ∀ (M : Mem) (H : Heap) (locs : List Loc) (ls : Array Slot) (h0 : Nat) (x1 : Int32) (x2 : Int32) (x3 : Int32), fX9_readPattern_292 (fX9_readPattern_52L  n52) M h0 x1 x2 x3 = some rr → zH D cy b M H → va_S (zA b) s.heap H locs → lv_has ls 4 [(0, .ref (b + h0)), (1, .int x1), (2, .int x2), (3, .int x3)] → W p l e (headSpec wsX9_readPattern ({ frames := 3, cells := 0, slots := 0, locals := 65 } : Room)).room s m ([.ref (b + p0)] : List Value).toArray below meth c H locs 0 0 (MQ below (zQi D cy b rr) ([.ref (b + p0)] : List Value).toArray s 0 0 (zA b)) (F0 m 292 ls []) := by
        intro M H locs ls h0 x1 x2 x3 hf hP hS hl
        unfold fX9_readPattern_292 at hf
        refine lv_iload_n hx hb dX9_readPattern_292 rfl (lv_at hl 2 rfl) ?_
        refine lv_bipush (v := (47 : Int32)) hx hb dX9_readPattern_293 (by decide) ?_
        refine lv_icmp_ne (tgt := 365) hx hb dX9_readPattern_295 (by decide) (fun c295 => ?_) (fun c295 => ?_)
        · have hf := (if_neg c295).symm.trans hf
          refine lv_iload_n hx hb dX9_readPattern_365 rfl (lv_at hl 1 rfl) ?_
          exact zret_i hx hb hr hlocks hf hP hS dX9_readPattern_366
        · have hf := (if_pos c295).symm.trans hf
          refine lv_aload_n hx hb dX9_readPattern_298 rfl (lv_at hl 0 rfl) ?_
          obtain ⟨v299, e299, hf⟩ := zb hf
          refine zr_gi (ci := 9) (k := 10) (C := RX9) (T := TX9) (N := 54) hx hb hts hi_X9_readPattern_9 hown hK hP e299 rfl rfl (by decide) (by decide) (hts (.fieldLink RX9 148 "BoundaryAnalyzerModel" "depth" "I") (List.mem_of_getElem? (i := 1) rfl)) dX9_readPattern_299 ?_
          refine lv_if_ne (tgt := 365) hx hb dX9_readPattern_302 (by decide) (fun c302 => ?_) (fun c302 => ?_)
          · have hf := (if_neg c302).symm.trans hf
            refine lv_iload_n hx hb dX9_readPattern_365 rfl (lv_at hl 1 rfl) ?_
            exact zret_i hx hb hr hlocks hf hP hS dX9_readPattern_366
          · have hf := (if_pos c302).symm.trans hf
            refine lv_iload_n hx hb dX9_readPattern_305 rfl (lv_at hl 3 rfl) ?_
            refine lv_if_eq (tgt := 365) hx hb dX9_readPattern_306 (by decide) (fun c306 => ?_) (fun c306 => ?_)
            · have hf := (if_pos c306).symm.trans hf
              refine lv_iload_n hx hb dX9_readPattern_365 rfl (lv_at hl 1 rfl) ?_
              exact zret_i hx hb hr hlocks hf hP hS dX9_readPattern_366
            · have hf := (if_neg c306).symm.trans hf
              refine lv_aload_n hx hb dX9_readPattern_309 rfl (lv_at hl 0 rfl) ?_
              obtain ⟨v310, e310, hf⟩ := zb hf
              refine zr_gi (ci := 9) (k := 16) (C := RX9) (T := TX9) (N := 54) hx hb hts hi_X9_readPattern_9 hown hK hP e310 rfl rfl (by decide) (by decide) (hts (.fieldLink RX9 175 "BoundaryAnalyzerModel" "readLooks" "Z") (List.mem_of_getElem? (i := 2) rfl)) dX9_readPattern_310 ?_
              refine lv_if_ne (tgt := 365) hx hb dX9_readPattern_313 (by decide) (fun c313 => ?_) (fun c313 => ?_)
              · have hf := (if_neg c313).symm.trans hf
                refine lv_iload_n hx hb dX9_readPattern_365 rfl (lv_at hl 1 rfl) ?_
                exact zret_i hx hb hr hlocks hf hP hS dX9_readPattern_366
              · have hf := (if_pos c313).symm.trans hf
                refine lv_aload_n hx hb dX9_readPattern_316 rfl (lv_at hl 0 rfl) ?_
                obtain ⟨u317, t317, hf⟩ := zb hf
                obtain ⟨M317, e317, hf⟩ := zb hf
                refine zc_v hS (va_runV (As := []) (rest := []) ⟨hx, hb, hml, hown, hts⟩ (k_X9_closeSequence l D cy b M h0  M317 e317) (cwV 0 hts gX9_readPattern_X9_closeSequence rfl rfl rfl (by decide +kernel) ⟨Nat.le_of_ble_eq_true rfl, Nat.le_of_ble_eq_true rfl⟩) (zp_V _ hK hP t317 (T := TX9) (N := 54) rfl (by decide)) rfl rfl hl.1 rfl (lv_room (Nat.le_of_ble_eq_true rfl)) dX9_readPattern_317 ⟨Nat.zero_le _, Nat.zero_le _⟩) (fun H locs hP hS => ?_)
                refine lv_aload_n hx hb dX9_readPattern_320 rfl (lv_at hl 0 rfl) ?_
                refine lv_iconst (v := (1 : Int32)) hx hb dX9_readPattern_321 (by decide) ?_
                obtain ⟨M322, e322, hf⟩ := zb hf
                refine zr_pz (ci := 9) (k := 16) (C := RX9) (T := TX9) (N := 54) hx hb hts hi_X9_readPattern_9 tyX9 tyX9_ok nmX9 hown hK hP hS e322 rfl rfl (by decide) (by decide) (hts (.fieldLink RX9 175 "BoundaryAnalyzerModel" "readLooks" "Z") (List.mem_of_getElem? (i := 2) rfl)) rfl (tyX9_ok 16 (by decide)) dX9_readPattern_322 (fun H locs hP _ hS => ?_)
                refine lv_aload_n hx hb dX9_readPattern_325 rfl (lv_at hl 0 rfl) ?_
                refine lv_aload_n hx hb dX9_readPattern_326 rfl (lv_at hl 0 rfl) ?_
                obtain ⟨v327, e327, hf⟩ := zb hf
                refine zr_gr (ci := 9) (k := 3) (C := RX9) (T := TX9) (N := 54) hx hb hts hi_X9_readPattern_9 hown hK hP e327 rfl rfl (by decide) (by decide) (hts (.fieldLink RX9 17 "BoundaryAnalyzerModel" "altNull" "[Z") (List.mem_of_getElem? (i := 14) rfl)) dX9_readPattern_327 ?_
                refine lv_iconst (v := (0 : Int32)) hx hb dX9_readPattern_330 (by decide) ?_
                obtain ⟨v331, e331, hf⟩ := zb hf
                refine zr_az hx hb hK hP e331 dX9_readPattern_331 ?_
                obtain ⟨M332, e332, hf⟩ := zb hf
                refine zr_pz (ci := 9) (k := 17) (C := RX9) (T := TX9) (N := 54) hx hb hts hi_X9_readPattern_9 tyX9 tyX9_ok nmX9 hown hK hP hS e332 rfl rfl (by decide) (by decide) (hts (.fieldLink RX9 178 "BoundaryAnalyzerModel" "bodyReadNull" "Z") (List.mem_of_getElem? (i := 3) rfl)) rfl (tyX9_ok 17 (by decide)) dX9_readPattern_332 (fun H locs hP _ hS => ?_)
                refine lv_aload_n hx hb dX9_readPattern_335 rfl (lv_at hl 0 rfl) ?_
                refine lv_aload_n hx hb dX9_readPattern_336 rfl (lv_at hl 0 rfl) ?_
                obtain ⟨v337, e337, hf⟩ := zb hf
                refine zr_gr (ci := 9) (k := 4) (C := RX9) (T := TX9) (N := 54) hx hb hts hi_X9_readPattern_9 hown hK hP e337 rfl rfl (by decide) (by decide) (hts (.fieldLink RX9 21 "BoundaryAnalyzerModel" "altFirst" "[I") (List.mem_of_getElem? (i := 15) rfl)) dX9_readPattern_337 ?_
                refine lv_iconst (v := (0 : Int32)) hx hb dX9_readPattern_340 (by decide) ?_
                obtain ⟨v341, e341, hf⟩ := zb hf
                refine zr_ai hx hb hK hP e341 dX9_readPattern_341 ?_
                obtain ⟨M342, e342, hf⟩ := zb hf
                refine zr_pi (ci := 9) (k := 18) (C := RX9) (T := TX9) (N := 54) hx hb hts hi_X9_readPattern_9 tyX9 tyX9_ok nmX9 hown hK hP hS e342 rfl rfl (by decide) (by decide) (hts (.fieldLink RX9 181 "BoundaryAnalyzerModel" "bodyReadFirst" "I") (List.mem_of_getElem? (i := 4) rfl)) rfl (tyX9_ok 18 (by decide)) dX9_readPattern_342 (fun H locs hP _ hS => ?_)
                refine lv_aload_n hx hb dX9_readPattern_345 rfl (lv_at hl 0 rfl) ?_
                refine lv_aload_n hx hb dX9_readPattern_346 rfl (lv_at hl 0 rfl) ?_
                obtain ⟨v347, e347, hf⟩ := zb hf
                refine zr_gr (ci := 9) (k := 5) (C := RX9) (T := TX9) (N := 54) hx hb hts hi_X9_readPattern_9 hown hK hP e347 rfl rfl (by decide) (by decide) (hts (.fieldLink RX9 24 "BoundaryAnalyzerModel" "altLast" "[I") (List.mem_of_getElem? (i := 16) rfl)) dX9_readPattern_347 ?_
                refine lv_iconst (v := (0 : Int32)) hx hb dX9_readPattern_350 (by decide) ?_
                obtain ⟨v351, e351, hf⟩ := zb hf
                refine zr_ai hx hb hK hP e351 dX9_readPattern_351 ?_
                obtain ⟨M352, e352, hf⟩ := zb hf
                refine zr_pi (ci := 9) (k := 19) (C := RX9) (T := TX9) (N := 54) hx hb hts hi_X9_readPattern_9 tyX9 tyX9_ok nmX9 hown hK hP hS e352 rfl rfl (by decide) (by decide) (hts (.fieldLink RX9 184 "BoundaryAnalyzerModel" "bodyReadLast" "I") (List.mem_of_getElem? (i := 5) rfl)) rfl (tyX9_ok 19 (by decide)) dX9_readPattern_352 (fun H locs hP _ hS => ?_)
                refine lv_aload_n hx hb dX9_readPattern_355 rfl (lv_at hl 0 rfl) ?_
                obtain ⟨u356, t356, hf⟩ := zb hf
                obtain ⟨M356, e356, hf⟩ := zb hf
                refine zc_v hS (va_runV (As := []) (rest := []) ⟨hx, hb, hml, hown, hts⟩ (k_X9_openAlternatives l D cy b M352 h0  M356 e356) (cwV 0 hts gX9_readPattern_X9_openAlternatives rfl rfl rfl (by decide +kernel) ⟨Nat.le_of_ble_eq_true rfl, Nat.le_of_ble_eq_true rfl⟩) (zp_V _ hK hP t356 (T := TX9) (N := 54) rfl (by decide)) rfl rfl hl.1 rfl (lv_room (Nat.le_of_ble_eq_true rfl)) dX9_readPattern_356 ⟨Nat.zero_le _, Nat.zero_le _⟩) (fun H locs hP hS => ?_)
                obtain ⟨x1_359, q359, hf⟩ := zlt_s hf
                refine lv_iinc (v := x1_359) (lv' := [(1, .int x1_359), (0, .ref (b + h0)), (2, .int x2), (3, .int x3)]) hx hb dX9_readPattern_359 hl (k := 1) rfl (by rw [← q359]; rfl) (by decide) rfl (fun ls hl => ?_)
                refine lv_goto (tgt := 367) hx hb dX9_readPattern_362 (by decide) ?_
                exact J367 _ _ _ _ _ _ hf hP hS (lv_sub hl [1, 0] rfl)
      have J268 : ∀ (M : Mem) (H : Heap) (locs : List Loc) (ls : Array Slot) (h0 : Nat) (x1 : Int32) (x2 : Int32) (x3 : Int32), fX9_readPattern_268 (fX9_readPattern_52L  n52) M h0 x1 x2 x3 = some rr → zH D cy b M H → va_S (zA b) s.heap H locs → lv_has ls 4 [(0, .ref (b + h0)), (1, .int x1), (2, .int x2), (3, .int x3)] → W p l e (headSpec wsX9_readPattern ({ frames := 3, cells := 0, slots := 0, locals := 65 } : Room)).room s m ([.ref (b + p0)] : List Value).toArray below meth c H locs 0 0 (MQ below (zQi D cy b rr) ([.ref (b + p0)] : List Value).toArray s 0 0 (zA b)) (F0 m 268 ls []) := by
        intro M H locs ls h0 x1 x2 x3 hf hP hS hl
        unfold fX9_readPattern_268 at hf
        refine lv_iload_n hx hb dX9_readPattern_268 rfl (lv_at hl 2 rfl) ?_
        refine lv_bipush (v := (124 : Int32)) hx hb dX9_readPattern_269 (by decide) ?_
        refine lv_icmp_ne (tgt := 292) hx hb dX9_readPattern_271 (by decide) (fun c271 => ?_) (fun c271 => ?_)
        · have hf := (if_neg c271).symm.trans hf
          exact J292 _ _ _ _ _ _ _ _ hf hP hS (lv_sub hl [0, 1, 2, 3] rfl)
        · have hf := (if_pos c271).symm.trans hf
          refine lv_iload_n hx hb dX9_readPattern_274 rfl (lv_at hl 3 rfl) ?_
          refine lv_if_eq (tgt := 292) hx hb dX9_readPattern_275 (by decide) (fun c275 => ?_) (fun c275 => ?_)
          · have hf := (if_pos c275).symm.trans hf
            exact J292 _ _ _ _ _ _ _ _ hf hP hS (lv_sub hl [0, 1, 2, 3] rfl)
          · have hf := (if_neg c275).symm.trans hf
            refine lv_aload_n hx hb dX9_readPattern_278 rfl (lv_at hl 0 rfl) ?_
            obtain ⟨u279, t279, hf⟩ := zb hf
            obtain ⟨M279, e279, hf⟩ := zb hf
            refine zc_v hS (va_runV (As := []) (rest := []) ⟨hx, hb, hml, hown, hts⟩ (k_X9_closeSequence l D cy b M h0  M279 e279) (cwV 0 hts gX9_readPattern_X9_closeSequence rfl rfl rfl (by decide +kernel) ⟨Nat.le_of_ble_eq_true rfl, Nat.le_of_ble_eq_true rfl⟩) (zp_V _ hK hP t279 (T := TX9) (N := 54) rfl (by decide)) rfl rfl hl.1 rfl (lv_room (Nat.le_of_ble_eq_true rfl)) dX9_readPattern_279 ⟨Nat.zero_le _, Nat.zero_le _⟩) (fun H locs hP hS => ?_)
            refine lv_aload_n hx hb dX9_readPattern_282 rfl (lv_at hl 0 rfl) ?_
            obtain ⟨u283, t283, hf⟩ := zb hf
            obtain ⟨M283, e283, hf⟩ := zb hf
            refine zc_v hS (va_runV (As := []) (rest := []) ⟨hx, hb, hml, hown, hts⟩ (k_X9_openSequence l D cy b M279 h0  M283 e283) (cwV 0 hts gX9_readPattern_X9_openSequence rfl rfl rfl (by decide +kernel) ⟨Nat.le_of_ble_eq_true rfl, Nat.le_of_ble_eq_true rfl⟩) (zp_V _ hK hP t283 (T := TX9) (N := 54) rfl (by decide)) rfl rfl hl.1 rfl (lv_room (Nat.le_of_ble_eq_true rfl)) dX9_readPattern_283 ⟨Nat.zero_le _, Nat.zero_le _⟩) (fun H locs hP hS => ?_)
            obtain ⟨x1_286, q286, hf⟩ := zlt_s hf
            refine lv_iinc (v := x1_286) (lv' := [(1, .int x1_286), (0, .ref (b + h0)), (2, .int x2), (3, .int x3)]) hx hb dX9_readPattern_286 hl (k := 1) rfl (by rw [← q286]; rfl) (by decide) rfl (fun ls hl => ?_)
            refine lv_goto (tgt := 367) hx hb dX9_readPattern_289 (by decide) ?_
            exact J367 _ _ _ _ _ _ hf hP hS (lv_sub hl [1, 0] rfl)
      have J187 : ∀ (M : Mem) (H : Heap) (locs : List Loc) (ls : Array Slot) (h0 : Nat) (x1 : Int32) (x2 : Int32) (x3 : Int32), fX9_readPattern_187 (fX9_readPattern_52L  n52) M h0 x1 x2 x3 = some rr → zH D cy b M H → va_S (zA b) s.heap H locs → lv_has ls 4 [(0, .ref (b + h0)), (1, .int x1), (2, .int x2), (3, .int x3)] → W p l e (headSpec wsX9_readPattern ({ frames := 3, cells := 0, slots := 0, locals := 65 } : Room)).room s m ([.ref (b + p0)] : List Value).toArray below meth c H locs 0 0 (MQ below (zQi D cy b rr) ([.ref (b + p0)] : List Value).toArray s 0 0 (zA b)) (F0 m 187 ls []) := by
        intro M H locs ls h0 x1 x2 x3 hf hP hS hl
        unfold fX9_readPattern_187 at hf
        refine lv_iload_n hx hb dX9_readPattern_187 rfl (lv_at hl 2 rfl) ?_
        refine lv_bipush (v := (41 : Int32)) hx hb dX9_readPattern_188 (by decide) ?_
        refine lv_icmp_ne (tgt := 268) hx hb dX9_readPattern_190 (by decide) (fun c190 => ?_) (fun c190 => ?_)
        · have hf := (if_neg c190).symm.trans hf
          exact J268 _ _ _ _ _ _ _ _ hf hP hS (lv_sub hl [0, 1, 2, 3] rfl)
        · have hf := (if_pos c190).symm.trans hf
          refine lv_aload_n hx hb dX9_readPattern_193 rfl (lv_at hl 0 rfl) ?_
          obtain ⟨v194, e194, hf⟩ := zb hf
          refine zr_gi (ci := 9) (k := 10) (C := RX9) (T := TX9) (N := 54) hx hb hts hi_X9_readPattern_9 hown hK hP e194 rfl rfl (by decide) (by decide) (hts (.fieldLink RX9 148 "BoundaryAnalyzerModel" "depth" "I") (List.mem_of_getElem? (i := 1) rfl)) dX9_readPattern_194 ?_
          refine lv_if_le (tgt := 268) hx hb dX9_readPattern_197 (by decide) (fun c197 => ?_) (fun c197 => ?_)
          · have hf := (if_pos c197).symm.trans hf
            exact J268 _ _ _ _ _ _ _ _ hf hP hS (lv_sub hl [0, 1, 2, 3] rfl)
          · have hf := (if_neg c197).symm.trans hf
            refine lv_iload_n hx hb dX9_readPattern_200 rfl (lv_at hl 3 rfl) ?_
            refine lv_if_eq (tgt := 268) hx hb dX9_readPattern_201 (by decide) (fun c201 => ?_) (fun c201 => ?_)
            · have hf := (if_pos c201).symm.trans hf
              exact J268 _ _ _ _ _ _ _ _ hf hP hS (lv_sub hl [0, 1, 2, 3] rfl)
            · have hf := (if_neg c201).symm.trans hf
              refine lv_aload_n hx hb dX9_readPattern_204 rfl (lv_at hl 0 rfl) ?_
              obtain ⟨u205, t205, hf⟩ := zb hf
              obtain ⟨M205, e205, hf⟩ := zb hf
              refine zc_v hS (va_runV (As := []) (rest := []) ⟨hx, hb, hml, hown, hts⟩ (k_X9_closeSequence l D cy b M h0  M205 e205) (cwV 0 hts gX9_readPattern_X9_closeSequence rfl rfl rfl (by decide +kernel) ⟨Nat.le_of_ble_eq_true rfl, Nat.le_of_ble_eq_true rfl⟩) (zp_V _ hK hP t205 (T := TX9) (N := 54) rfl (by decide)) rfl rfl hl.1 rfl (lv_room (Nat.le_of_ble_eq_true rfl)) dX9_readPattern_205 ⟨Nat.zero_le _, Nat.zero_le _⟩) (fun H locs hP hS => ?_)
              refine lv_aload_n hx hb dX9_readPattern_208 rfl (lv_at hl 0 rfl) ?_
              refine lv_aload_n hx hb dX9_readPattern_209 rfl (lv_at hl 0 rfl) ?_
              obtain ⟨v210, e210, hf⟩ := zb hf
              refine zr_gr (ci := 9) (k := 3) (C := RX9) (T := TX9) (N := 54) hx hb hts hi_X9_readPattern_9 hown hK hP e210 rfl rfl (by decide) (by decide) (hts (.fieldLink RX9 17 "BoundaryAnalyzerModel" "altNull" "[Z") (List.mem_of_getElem? (i := 14) rfl)) dX9_readPattern_210 ?_
              refine lv_aload_n hx hb dX9_readPattern_213 rfl (lv_at hl 0 rfl) ?_
              obtain ⟨v214, e214, hf⟩ := zb hf
              refine zr_gi (ci := 9) (k := 10) (C := RX9) (T := TX9) (N := 54) hx hb hts hi_X9_readPattern_9 hown hK hP e214 rfl rfl (by decide) (by decide) (hts (.fieldLink RX9 148 "BoundaryAnalyzerModel" "depth" "I") (List.mem_of_getElem? (i := 1) rfl)) dX9_readPattern_214 ?_
              obtain ⟨v217, e217, hf⟩ := zb hf
              refine zr_az hx hb hK hP e217 dX9_readPattern_217 ?_
              obtain ⟨M218, e218, hf⟩ := zb hf
              refine zr_pz (ci := 9) (k := 11) (C := RX9) (T := TX9) (N := 54) hx hb hts hi_X9_readPattern_9 tyX9 tyX9_ok nmX9 hown hK hP hS e218 rfl rfl (by decide) (by decide) (hts (.fieldLink RX9 164 "BoundaryAnalyzerModel" "itemNull" "Z") (List.mem_of_getElem? (i := 11) rfl)) rfl (tyX9_ok 11 (by decide)) dX9_readPattern_218 (fun H locs hP _ hS => ?_)
              refine lv_aload_n hx hb dX9_readPattern_221 rfl (lv_at hl 0 rfl) ?_
              refine lv_aload_n hx hb dX9_readPattern_222 rfl (lv_at hl 0 rfl) ?_
              obtain ⟨v223, e223, hf⟩ := zb hf
              refine zr_gr (ci := 9) (k := 4) (C := RX9) (T := TX9) (N := 54) hx hb hts hi_X9_readPattern_9 hown hK hP e223 rfl rfl (by decide) (by decide) (hts (.fieldLink RX9 21 "BoundaryAnalyzerModel" "altFirst" "[I") (List.mem_of_getElem? (i := 15) rfl)) dX9_readPattern_223 ?_
              refine lv_aload_n hx hb dX9_readPattern_226 rfl (lv_at hl 0 rfl) ?_
              obtain ⟨v227, e227, hf⟩ := zb hf
              refine zr_gi (ci := 9) (k := 10) (C := RX9) (T := TX9) (N := 54) hx hb hts hi_X9_readPattern_9 hown hK hP e227 rfl rfl (by decide) (by decide) (hts (.fieldLink RX9 148 "BoundaryAnalyzerModel" "depth" "I") (List.mem_of_getElem? (i := 1) rfl)) dX9_readPattern_227 ?_
              obtain ⟨v230, e230, hf⟩ := zb hf
              refine zr_ai hx hb hK hP e230 dX9_readPattern_230 ?_
              obtain ⟨M231, e231, hf⟩ := zb hf
              refine zr_pi (ci := 9) (k := 12) (C := RX9) (T := TX9) (N := 54) hx hb hts hi_X9_readPattern_9 tyX9 tyX9_ok nmX9 hown hK hP hS e231 rfl rfl (by decide) (by decide) (hts (.fieldLink RX9 154 "BoundaryAnalyzerModel" "itemFirst" "I") (List.mem_of_getElem? (i := 12) rfl)) rfl (tyX9_ok 12 (by decide)) dX9_readPattern_231 (fun H locs hP _ hS => ?_)
              refine lv_aload_n hx hb dX9_readPattern_234 rfl (lv_at hl 0 rfl) ?_
              refine lv_aload_n hx hb dX9_readPattern_235 rfl (lv_at hl 0 rfl) ?_
              obtain ⟨v236, e236, hf⟩ := zb hf
              refine zr_gr (ci := 9) (k := 5) (C := RX9) (T := TX9) (N := 54) hx hb hts hi_X9_readPattern_9 hown hK hP e236 rfl rfl (by decide) (by decide) (hts (.fieldLink RX9 24 "BoundaryAnalyzerModel" "altLast" "[I") (List.mem_of_getElem? (i := 16) rfl)) dX9_readPattern_236 ?_
              refine lv_aload_n hx hb dX9_readPattern_239 rfl (lv_at hl 0 rfl) ?_
              obtain ⟨v240, e240, hf⟩ := zb hf
              refine zr_gi (ci := 9) (k := 10) (C := RX9) (T := TX9) (N := 54) hx hb hts hi_X9_readPattern_9 hown hK hP e240 rfl rfl (by decide) (by decide) (hts (.fieldLink RX9 148 "BoundaryAnalyzerModel" "depth" "I") (List.mem_of_getElem? (i := 1) rfl)) dX9_readPattern_240 ?_
              obtain ⟨v243, e243, hf⟩ := zb hf
              refine zr_ai hx hb hK hP e243 dX9_readPattern_243 ?_
              obtain ⟨M244, e244, hf⟩ := zb hf
              refine zr_pi (ci := 9) (k := 13) (C := RX9) (T := TX9) (N := 54) hx hb hts hi_X9_readPattern_9 tyX9 tyX9_ok nmX9 hown hK hP hS e244 rfl rfl (by decide) (by decide) (hts (.fieldLink RX9 161 "BoundaryAnalyzerModel" "itemLast" "I") (List.mem_of_getElem? (i := 13) rfl)) rfl (tyX9_ok 13 (by decide)) dX9_readPattern_244 (fun H locs hP _ hS => ?_)
              refine lv_aload_n hx hb dX9_readPattern_247 rfl (lv_at hl 0 rfl) ?_
              refine lv_dup hx hb dX9_readPattern_248 rfl ?_
              obtain ⟨v249, e249, hf⟩ := zb hf
              refine zr_gi (ci := 9) (k := 10) (C := RX9) (T := TX9) (N := 54) hx hb hts hi_X9_readPattern_9 hown hK hP e249 rfl rfl (by decide) (by decide) (hts (.fieldLink RX9 148 "BoundaryAnalyzerModel" "depth" "I") (List.mem_of_getElem? (i := 1) rfl)) dX9_readPattern_249 ?_
              refine lv_iconst (v := (1 : Int32)) hx hb dX9_readPattern_252 (by decide) ?_
              refine lv_isub hx hb dX9_readPattern_253 ?_
              obtain ⟨M254, e254, hf⟩ := zb hf
              refine zr_pi (ci := 9) (k := 10) (C := RX9) (T := TX9) (N := 54) hx hb hts hi_X9_readPattern_9 tyX9 tyX9_ok nmX9 hown hK hP hS e254 rfl rfl (by decide) (by decide) (hts (.fieldLink RX9 148 "BoundaryAnalyzerModel" "depth" "I") (List.mem_of_getElem? (i := 1) rfl)) rfl (tyX9_ok 10 (by decide)) dX9_readPattern_254 (fun H locs hP _ hS => ?_)
              refine lv_aload_n hx hb dX9_readPattern_257 rfl (lv_at hl 0 rfl) ?_
              refine lv_iload_n hx hb dX9_readPattern_258 rfl (lv_at hl 1 rfl) ?_
              refine lv_iconst (v := (1 : Int32)) hx hb dX9_readPattern_259 (by decide) ?_
              refine lv_iadd hx hb dX9_readPattern_260 ?_
              obtain ⟨u261, t261, hf⟩ := zb hf
              obtain ⟨r261, e261, hf⟩ := zb hf
              refine zc_i hS (va_runV (As := [.int (x1 + (1 : Int32))]) (rest := []) ⟨hx, hb, hml, hown, hts⟩ (k_X9_endItem l D cy b M254 h0 (x1 + (1 : Int32)) r261 e261) (cwV 1 hts gX9_readPattern_X9_endItem rfl rfl rfl (by decide +kernel) ⟨Nat.le_of_ble_eq_true rfl, Nat.le_of_ble_eq_true rfl⟩) (zp_V _ hK hP t261 (T := TX9) (N := 54) rfl (by decide)) rfl rfl hl.1 rfl (lv_room (Nat.le_of_ble_eq_true rfl)) dX9_readPattern_261 ⟨Nat.zero_le _, Nat.zero_le _⟩) (fun H locs hP hS => ?_)
              refine lv_istore_n (lv' := [(1, .int r261.1), (0, .ref (b + h0)), (2, .int x2), (3, .int x3)]) hx hb dX9_readPattern_264 rfl hl (by decide) rfl (fun ls hl => ?_)
              refine lv_goto (tgt := 367) hx hb dX9_readPattern_265 (by decide) ?_
              exact J367 _ _ _ _ _ _ hf hP hS (lv_sub hl [1, 0] rfl)
      have J84 : ∀ (M : Mem) (H : Heap) (locs : List Loc) (ls : Array Slot) (h0 : Nat) (x1 : Int32) (x2 : Int32) (y0 : Int32), fX9_readPattern_84 (fX9_readPattern_52L  n52) M h0 x1 x2 y0 = some rr → zH D cy b M H → va_S (zA b) s.heap H locs → lv_has ls 4 [(0, .ref (b + h0)), (1, .int x1), (2, .int x2)] → W p l e (headSpec wsX9_readPattern ({ frames := 3, cells := 0, slots := 0, locals := 65 } : Room)).room s m ([.ref (b + p0)] : List Value).toArray below meth c H locs 0 0 (MQ below (zQi D cy b rr) ([.ref (b + p0)] : List Value).toArray s 0 0 (zA b)) (F0 m 84 ls [.int y0]) := by
        intro M H locs ls h0 x1 x2 y0 hf hP hS hl
        unfold fX9_readPattern_84 at hf
        refine lv_istore_n (lv' := [(3, .int y0), (0, .ref (b + h0)), (1, .int x1), (2, .int x2)]) hx hb dX9_readPattern_84 rfl hl (by decide) rfl (fun ls hl => ?_)
        refine lv_iload_n hx hb dX9_readPattern_85 rfl (lv_at hl 3 rfl) ?_
        refine lv_bipush (v := (65 : Int32)) hx hb dX9_readPattern_86 (by decide) ?_
        refine lv_bipush (v := (76 : Int32)) hx hb dX9_readPattern_88 (by decide) ?_
        obtain ⟨v90, e90, hf⟩ := zb hf
        refine zc_p (va_runS (As := [.int x2, .int (65 : Int32), .int (76 : Int32)]) (rest := []) ⟨hx, hb, hml, hown, hts⟩ (k_X9_in l x2 (65 : Int32) (76 : Int32) v90 e90) (va_cwS 3 hts gX9_readPattern_X9_in rfl rfl rfl (by decide +kernel) ⟨Nat.le_of_ble_eq_true rfl, Nat.le_of_ble_eq_true rfl⟩) (zp_p _) rfl rfl hl.1 rfl (lv_room (Nat.le_of_ble_eq_true rfl)) dX9_readPattern_90 ⟨Nat.zero_le _, Nat.zero_le _⟩) ?_
        refine lv_if_ne (tgt := 102) hx hb dX9_readPattern_93 (by decide) (fun c93 => ?_) (fun c93 => ?_)
        · have hf := (if_neg c93).symm.trans hf
          exact J102 _ _ _ _ _ _ _ hf hP hS (lv_sub hl [1, 2, 3] rfl)
        · have hf := (if_pos c93).symm.trans hf
          refine lv_iload_n hx hb dX9_readPattern_96 rfl (lv_at hl 3 rfl) ?_
          refine lv_bipush (v := (46 : Int32)) hx hb dX9_readPattern_97 (by decide) ?_
          refine lv_icmp_ne (tgt := 153) hx hb dX9_readPattern_99 (by decide) (fun c99 => ?_) (fun c99 => ?_)
          · have hf := (if_neg c99).symm.trans hf
            refine lv_iload_n hx hb dX9_readPattern_153 rfl (lv_at hl 3 rfl) ?_
            refine lv_bipush (v := (40 : Int32)) hx hb dX9_readPattern_154 (by decide) ?_
            refine lv_icmp_ne (tgt := 187) hx hb dX9_readPattern_156 (by decide) (fun c156 => ?_) (fun c156 => ?_)
            · have hf := (if_neg c156).symm.trans hf
              exact J187 _ _ _ _ _ _ _ _ hf hP hS (lv_sub hl [1, 2, 3, 0] rfl)
            · have hf := (if_pos c156).symm.trans hf
              refine lv_aload_n hx hb dX9_readPattern_159 rfl (lv_at hl 1 rfl) ?_
              obtain ⟨v160, e160, hf⟩ := zb hf
              refine zr_gi (ci := 9) (k := 10) (C := RX9) (T := TX9) (N := 54) hx hb hts hi_X9_readPattern_9 hown hK hP e160 rfl rfl (by decide) (by decide) (hts (.fieldLink RX9 148 "BoundaryAnalyzerModel" "depth" "I") (List.mem_of_getElem? (i := 1) rfl)) dX9_readPattern_160 ?_
              refine lv_iconst (v := (4 : Int32)) hx hb dX9_readPattern_163 (by decide) ?_
              refine lv_icmp_ge (tgt := 187) hx hb dX9_readPattern_164 (by decide) (fun c164 => ?_) (fun c164 => ?_)
              · have hf := (if_pos c164).symm.trans hf
                exact J187 _ _ _ _ _ _ _ _ hf hP hS (lv_sub hl [1, 2, 3, 0] rfl)
              · have hf := (if_neg c164).symm.trans hf
                refine lv_aload_n hx hb dX9_readPattern_167 rfl (lv_at hl 1 rfl) ?_
                refine lv_dup hx hb dX9_readPattern_168 rfl ?_
                obtain ⟨v169, e169, hf⟩ := zb hf
                refine zr_gi (ci := 9) (k := 10) (C := RX9) (T := TX9) (N := 54) hx hb hts hi_X9_readPattern_9 hown hK hP e169 rfl rfl (by decide) (by decide) (hts (.fieldLink RX9 148 "BoundaryAnalyzerModel" "depth" "I") (List.mem_of_getElem? (i := 1) rfl)) dX9_readPattern_169 ?_
                refine lv_iconst (v := (1 : Int32)) hx hb dX9_readPattern_172 (by decide) ?_
                refine lv_iadd hx hb dX9_readPattern_173 ?_
                obtain ⟨M174, e174, hf⟩ := zb hf
                refine zr_pi (ci := 9) (k := 10) (C := RX9) (T := TX9) (N := 54) hx hb hts hi_X9_readPattern_9 tyX9 tyX9_ok nmX9 hown hK hP hS e174 rfl rfl (by decide) (by decide) (hts (.fieldLink RX9 148 "BoundaryAnalyzerModel" "depth" "I") (List.mem_of_getElem? (i := 1) rfl)) rfl (tyX9_ok 10 (by decide)) dX9_readPattern_174 (fun H locs hP _ hS => ?_)
                refine lv_aload_n hx hb dX9_readPattern_177 rfl (lv_at hl 1 rfl) ?_
                obtain ⟨u178, t178, hf⟩ := zb hf
                obtain ⟨M178, e178, hf⟩ := zb hf
                refine zc_v hS (va_runV (As := []) (rest := []) ⟨hx, hb, hml, hown, hts⟩ (k_X9_openAlternatives l D cy b M174 h0  M178 e178) (cwV 0 hts gX9_readPattern_X9_openAlternatives rfl rfl rfl (by decide +kernel) ⟨Nat.le_of_ble_eq_true rfl, Nat.le_of_ble_eq_true rfl⟩) (zp_V _ hK hP t178 (T := TX9) (N := 54) rfl (by decide)) rfl rfl hl.1 rfl (lv_room (Nat.le_of_ble_eq_true rfl)) dX9_readPattern_178 ⟨Nat.zero_le _, Nat.zero_le _⟩) (fun H locs hP hS => ?_)
                obtain ⟨x1_181, q181, hf⟩ := zlt_s hf
                refine lv_iinc (v := x1_181) (lv' := [(1, .int x1_181), (3, .int y0), (0, .ref (b + h0)), (2, .int x2)]) hx hb dX9_readPattern_181 hl (k := 2) rfl (by rw [← q181]; rfl) (by decide) rfl (fun ls hl => ?_)
                refine lv_goto (tgt := 367) hx hb dX9_readPattern_184 (by decide) ?_
                exact J367 _ _ _ _ _ _ hf hP hS (lv_sub hl [2, 0] rfl)
          · have hf := (if_pos c99).symm.trans hf
            exact J102 _ _ _ _ _ _ _ hf hP hS (lv_sub hl [1, 2, 3] rfl)
      intro M H locs ls h0 x1 hf hP hS hl
      have hf : fX9_readPattern_52  (fX9_readPattern_52L  n52) M h0 x1 = some rr := hf
      unfold fX9_readPattern_52 at hf
      refine lv_iload_n hx hb dX9_readPattern_52 rfl (lv_at hl 1 rfl) ?_
      refine lv_aload_n hx hb dX9_readPattern_53 rfl (lv_at hl 0 rfl) ?_
      obtain ⟨v54, e54, hf⟩ := zb hf
      refine zr_gi (ci := 9) (k := 1) (C := RX9) (T := TX9) (N := 54) hx hb hts hi_X9_readPattern_9 hown hK hP e54 rfl rfl (by decide) (by decide) (hts (.fieldLink RX9 144 "BoundaryAnalyzerModel" "typed" "I") (List.mem_of_getElem? (i := 7) rfl)) dX9_readPattern_54 ?_
      refine lv_icmp_ge (tgt := 370) hx hb dX9_readPattern_57 (by decide) (fun c57 => ?_) (fun c57 => ?_)
      · have hf := (if_pos c57).symm.trans hf
        refine lv_aload_n hx hb dX9_readPattern_370 rfl (lv_at hl 0 rfl) ?_
        obtain ⟨v371, e371, hf⟩ := zb hf
        refine zr_gi (ci := 9) (k := 10) (C := RX9) (T := TX9) (N := 54) hx hb hts hi_X9_readPattern_9 hown hK hP e371 rfl rfl (by decide) (by decide) (hts (.fieldLink RX9 148 "BoundaryAnalyzerModel" "depth" "I") (List.mem_of_getElem? (i := 1) rfl)) dX9_readPattern_371 ?_
        refine lv_if_gt (tgt := 386) hx hb dX9_readPattern_374 (by decide) (fun c374 => ?_) (fun c374 => ?_)
        · have hf := (if_pos c374).symm.trans hf
          exact J386 _ _ _ _ _ hf hP hS (lv_sub hl [0] rfl)
        · have hf := (if_neg c374).symm.trans hf
          refine lv_aload_n hx hb dX9_readPattern_377 rfl (lv_at hl 0 rfl) ?_
          obtain ⟨v378, e378, hf⟩ := zb hf
          refine zr_gr (ci := 9) (k := 9) (C := RX9) (T := TX9) (N := 54) hx hb hts hi_X9_readPattern_9 hown hK hP e378 rfl rfl (by decide) (by decide) (hts (.fieldLink RX9 36 "BoundaryAnalyzerModel" "seqMany" "[I") (List.mem_of_getElem? (i := 9) rfl)) dX9_readPattern_378 ?_
          refine lv_iconst (v := (0 : Int32)) hx hb dX9_readPattern_381 (by decide) ?_
          obtain ⟨v382, e382, hf⟩ := zb hf
          refine zr_ai hx hb hK hP e382 dX9_readPattern_382 ?_
          refine lv_if_ne (tgt := 391) hx hb dX9_readPattern_383 (by decide) (fun c383 => ?_) (fun c383 => ?_)
          · have hf := (if_neg c383).symm.trans hf
            refine lv_aload_n hx hb dX9_readPattern_391 rfl (lv_at hl 0 rfl) ?_
            obtain ⟨u392, t392, hf⟩ := zb hf
            obtain ⟨M392, e392, hf⟩ := zb hf
            refine zc_v hS (va_runV (As := []) (rest := []) ⟨hx, hb, hml, hown, hts⟩ (k_X9_closeSequence l D cy b M h0  M392 e392) (cwV 0 hts gX9_readPattern_X9_closeSequence rfl rfl rfl (by decide +kernel) ⟨Nat.le_of_ble_eq_true rfl, Nat.le_of_ble_eq_true rfl⟩) (zp_V _ hK hP t392 (T := TX9) (N := 54) rfl (by decide)) rfl rfl hl.1 rfl (lv_room (Nat.le_of_ble_eq_true rfl)) dX9_readPattern_392 ⟨Nat.zero_le _, Nat.zero_le _⟩) (fun H locs hP hS => ?_)
            refine lv_iconst (v := (-1 : Int32)) hx hb dX9_readPattern_395 (by decide) ?_
            exact zret_i hx hb hr hlocks hf hP hS dX9_readPattern_396
          · have hf := (if_pos c383).symm.trans hf
            exact J386 _ _ _ _ _ hf hP hS (lv_sub hl [0] rfl)
      · have hf := (if_neg c57).symm.trans hf
        refine lv_aload_n hx hb dX9_readPattern_60 rfl (lv_at hl 0 rfl) ?_
        obtain ⟨v61, e61, hf⟩ := zb hf
        refine zr_gr (ci := 9) (k := 2) (C := RX9) (T := TX9) (N := 54) hx hb hts hi_X9_readPattern_9 hown hK hP e61 rfl rfl (by decide) (by decide) (hts (.fieldLink RX9 13 "BoundaryAnalyzerModel" "pattern" "[C") (List.mem_of_getElem? (i := 8) rfl)) dX9_readPattern_61 ?_
        refine lv_iload_n hx hb dX9_readPattern_64 rfl (lv_at hl 1 rfl) ?_
        obtain ⟨v65, e65, hf⟩ := zb hf
        refine zr_ac hx hb hK hP e65 dX9_readPattern_65 ?_
        refine lv_istore_n (lv' := [(2, .int v65), (0, .ref (b + h0)), (1, .int x1)]) hx hb dX9_readPattern_66 rfl hl (by decide) rfl (fun ls hl => ?_)
        refine lv_aload_n hx hb dX9_readPattern_67 rfl (lv_at hl 1 rfl) ?_
        obtain ⟨v68, e68, hf⟩ := zb hf
        refine zr_gr (ci := 9) (k := 9) (C := RX9) (T := TX9) (N := 54) hx hb hts hi_X9_readPattern_9 hown hK hP e68 rfl rfl (by decide) (by decide) (hts (.fieldLink RX9 36 "BoundaryAnalyzerModel" "seqMany" "[I") (List.mem_of_getElem? (i := 9) rfl)) dX9_readPattern_68 ?_
        refine lv_aload_n hx hb dX9_readPattern_71 rfl (lv_at hl 1 rfl) ?_
        obtain ⟨v72, e72, hf⟩ := zb hf
        refine zr_gi (ci := 9) (k := 10) (C := RX9) (T := TX9) (N := 54) hx hb hts hi_X9_readPattern_9 hown hK hP e72 rfl rfl (by decide) (by decide) (hts (.fieldLink RX9 148 "BoundaryAnalyzerModel" "depth" "I") (List.mem_of_getElem? (i := 1) rfl)) dX9_readPattern_72 ?_
        obtain ⟨v75, e75, hf⟩ := zb hf
        refine zr_ai hx hb hK hP e75 dX9_readPattern_75 ?_
        refine lv_if_le (tgt := 83) hx hb dX9_readPattern_76 (by decide) (fun c76 => ?_) (fun c76 => ?_)
        · have hf := (if_pos c76).symm.trans hf
          refine lv_iconst (v := (0 : Int32)) hx hb dX9_readPattern_83 (by decide) ?_
          exact J84 _ _ _ _ _ _ _ _ hf hP hS (lv_sub hl [1, 2, 0] rfl)
        · have hf := (if_neg c76).symm.trans hf
          refine lv_iconst (v := (1 : Int32)) hx hb dX9_readPattern_79 (by decide) ?_
          refine lv_goto (tgt := 84) hx hb dX9_readPattern_80 (by decide) ?_
          exact J84 _ _ _ _ _ _ _ _ hf hP hS (lv_sub hl [1, 2, 0] rfl)
  have L27 : ∀ (n27 : Nat) (M : Mem) (H : Heap) (locs : List Loc) (ls : Array Slot) (h0 : Nat) (x1 : Int32), fX9_readPattern_27L  n27 M h0 x1 = some rr → zH D cy b M H → va_S (zA b) s.heap H locs → lv_has ls 4 [(0, .ref (b + h0)), (1, .int x1)] → W p l e (headSpec wsX9_readPattern ({ frames := 3, cells := 0, slots := 0, locals := 65 } : Room)).room s m ([.ref (b + p0)] : List Value).toArray below meth c H locs 0 0 (MQ below (zQi D cy b rr) ([.ref (b + p0)] : List Value).toArray s 0 0 (zA b)) (F0 m 27 ls []) := by
    intro n27
    induction n27 with
    | zero =>
      intro M H locs ls h0 x1 hf
      have hf : (none : Option (Int32 × Mem)) = some rr := hf
      cases hf
    | succ n27 ih27 =>
      intro M H locs ls h0 x1 hf hP hS hl
      have hf : fX9_readPattern_27  (fX9_readPattern_27L  n27) M h0 x1 = some rr := hf
      unfold fX9_readPattern_27 at hf
      refine lv_iload_n hx hb dX9_readPattern_27 rfl (lv_at hl 1 rfl) ?_
      refine lv_bipush (v := (24 : Int32)) hx hb dX9_readPattern_28 (by decide) ?_
      refine lv_icmp_ge (tgt := 46) hx hb dX9_readPattern_30 (by decide) (fun c30 => ?_) (fun c30 => ?_)
      · have hf := (if_pos c30).symm.trans hf
        refine lv_aload_n hx hb dX9_readPattern_46 rfl (lv_at hl 0 rfl) ?_
        obtain ⟨u47, t47, hf⟩ := zb hf
        obtain ⟨M47, e47, hf⟩ := zb hf
        refine zc_v hS (va_runV (As := []) (rest := []) ⟨hx, hb, hml, hown, hts⟩ (k_X9_openAlternatives l D cy b M h0  M47 e47) (cwV 0 hts gX9_readPattern_X9_openAlternatives rfl rfl rfl (by decide +kernel) ⟨Nat.le_of_ble_eq_true rfl, Nat.le_of_ble_eq_true rfl⟩) (zp_V _ hK hP t47 (T := TX9) (N := 54) rfl (by decide)) rfl rfl hl.1 rfl (lv_room (Nat.le_of_ble_eq_true rfl)) dX9_readPattern_47 ⟨Nat.zero_le _, Nat.zero_le _⟩) (fun H locs hP hS => ?_)
        refine lv_iconst (v := (0 : Int32)) hx hb dX9_readPattern_50 (by decide) ?_
        refine lv_istore_n (lv' := [(1, .int (0 : Int32)), (0, .ref (b + h0))]) hx hb dX9_readPattern_51 rfl hl (by decide) rfl (fun ls hl => ?_)
        exact L52 _ _ _ _ _ _ _ hf hP hS (lv_sub hl [1, 0] rfl)
      · have hf := (if_neg c30).symm.trans hf
        refine lv_aload_n hx hb dX9_readPattern_33 rfl (lv_at hl 0 rfl) ?_
        obtain ⟨v34, e34, hf⟩ := zb hf
        refine zr_gr (ci := 9) (k := 15) (C := RX9) (T := TX9) (N := 54) hx hb hts hi_X9_readPattern_9 hown hK hP e34 rfl rfl (by decide) (by decide) (hts (.fieldLink RX9 42 "BoundaryAnalyzerModel" "readNext" "[I") (List.mem_of_getElem? (i := 6) rfl)) dX9_readPattern_34 ?_
        refine lv_iload_n hx hb dX9_readPattern_37 rfl (lv_at hl 1 rfl) ?_
        refine lv_iconst (v := (0 : Int32)) hx hb dX9_readPattern_38 (by decide) ?_
        obtain ⟨M39, e39, hf⟩ := zb hf
        refine zr_si hx hb hK hP hS e39 dX9_readPattern_39 (fun H locs hP _ hS => ?_)
        obtain ⟨x1_40, q40, hf⟩ := zlt_s hf
        refine lv_iinc (v := x1_40) (lv' := [(1, .int x1_40), (0, .ref (b + h0))]) hx hb dX9_readPattern_40 hl (k := 1) rfl (by rw [← q40]; rfl) (by decide) rfl (fun ls hl => ?_)
        refine lv_goto (tgt := 27) hx hb dX9_readPattern_43 (by decide) ?_
        exact ih27 _ _ _ _ _ _ hf hP hS (lv_sub hl [1, 0] rfl)
  unfold fX9_readPattern at hf
  refine lv_aload_n hx hb dX9_readPattern_0 rfl (lv_at hl 0 rfl) ?_
  refine lv_iconst (v := (0 : Int32)) hx hb dX9_readPattern_1 (by decide) ?_
  obtain ⟨M2, e2, hf⟩ := zb hf
  refine zr_pi (ci := 9) (k := 10) (C := RX9) (T := TX9) (N := 54) hx hb hts hi_X9_readPattern_9 tyX9 tyX9_ok nmX9 hown hK hP hS e2 rfl rfl (by decide) (by decide) (hts (.fieldLink RX9 148 "BoundaryAnalyzerModel" "depth" "I") (List.mem_of_getElem? (i := 1) rfl)) rfl (tyX9_ok 10 (by decide)) dX9_readPattern_2 (fun H locs hP _ hS => ?_)
  refine lv_aload_n hx hb dX9_readPattern_5 rfl (lv_at hl 0 rfl) ?_
  refine lv_iconst (v := (0 : Int32)) hx hb dX9_readPattern_6 (by decide) ?_
  obtain ⟨M7, e7, hf⟩ := zb hf
  refine zr_pz (ci := 9) (k := 16) (C := RX9) (T := TX9) (N := 54) hx hb hts hi_X9_readPattern_9 tyX9 tyX9_ok nmX9 hown hK hP hS e7 rfl rfl (by decide) (by decide) (hts (.fieldLink RX9 175 "BoundaryAnalyzerModel" "readLooks" "Z") (List.mem_of_getElem? (i := 2) rfl)) rfl (tyX9_ok 16 (by decide)) dX9_readPattern_7 (fun H locs hP _ hS => ?_)
  refine lv_aload_n hx hb dX9_readPattern_10 rfl (lv_at hl 0 rfl) ?_
  refine lv_iconst (v := (0 : Int32)) hx hb dX9_readPattern_11 (by decide) ?_
  obtain ⟨M12, e12, hf⟩ := zb hf
  refine zr_pz (ci := 9) (k := 17) (C := RX9) (T := TX9) (N := 54) hx hb hts hi_X9_readPattern_9 tyX9 tyX9_ok nmX9 hown hK hP hS e12 rfl rfl (by decide) (by decide) (hts (.fieldLink RX9 178 "BoundaryAnalyzerModel" "bodyReadNull" "Z") (List.mem_of_getElem? (i := 3) rfl)) rfl (tyX9_ok 17 (by decide)) dX9_readPattern_12 (fun H locs hP _ hS => ?_)
  refine lv_aload_n hx hb dX9_readPattern_15 rfl (lv_at hl 0 rfl) ?_
  refine lv_iconst (v := (0 : Int32)) hx hb dX9_readPattern_16 (by decide) ?_
  obtain ⟨M17, e17, hf⟩ := zb hf
  refine zr_pi (ci := 9) (k := 18) (C := RX9) (T := TX9) (N := 54) hx hb hts hi_X9_readPattern_9 tyX9 tyX9_ok nmX9 hown hK hP hS e17 rfl rfl (by decide) (by decide) (hts (.fieldLink RX9 181 "BoundaryAnalyzerModel" "bodyReadFirst" "I") (List.mem_of_getElem? (i := 4) rfl)) rfl (tyX9_ok 18 (by decide)) dX9_readPattern_17 (fun H locs hP _ hS => ?_)
  refine lv_aload_n hx hb dX9_readPattern_20 rfl (lv_at hl 0 rfl) ?_
  refine lv_iconst (v := (0 : Int32)) hx hb dX9_readPattern_21 (by decide) ?_
  obtain ⟨M22, e22, hf⟩ := zb hf
  refine zr_pi (ci := 9) (k := 19) (C := RX9) (T := TX9) (N := 54) hx hb hts hi_X9_readPattern_9 tyX9 tyX9_ok nmX9 hown hK hP hS e22 rfl rfl (by decide) (by decide) (hts (.fieldLink RX9 184 "BoundaryAnalyzerModel" "bodyReadLast" "I") (List.mem_of_getElem? (i := 5) rfl)) rfl (tyX9_ok 19 (by decide)) dX9_readPattern_22 (fun H locs hP _ hS => ?_)
  refine lv_iconst (v := (0 : Int32)) hx hb dX9_readPattern_25 (by decide) ?_
  refine lv_istore_n (lv' := [(1, .int (0 : Int32)), (0, .ref (b + p0))]) hx hb dX9_readPattern_26 rfl hl (by decide) rfl (fun ls hl => ?_)
  exact L27 _ _ _ _ _ _ _ hf hP hS (lv_sub hl [1, 0] rfl)
