theorem hi_X9_openSequence_9 : ∀ w ∈ wsX90, w ∈ wsX9_openSequence := fun _ h => List.mem_cons_of_mem _ (List.mem_append_right _ h)
set_option maxHeartbeats 4000000 in
set_option maxRecDepth 100000 in
theorem k_X9_openSequence (l : Launch) (D : va_G) (cy : Nat → ClassId) (b : Nat) (M0 : Mem) (p0 : Nat) (rr : Mem) (hf : fX9_openSequence M0 p0 = some rr) : Met l yX9_openSequence wsX9_openSequence ({ frames := 0, cells := 0, slots := 0, locals := 0 } : Room) (zPc D cy b M0 [.ref (b + p0)]) (zQv D cy b rr) 0 0 (zA b) := by
  refine Met.ofW (cc := cX9_openSequence) (maxL := 1) (ret := none) (by decide) rfl ?_
  intro p e s m args below meth c s₁ B hml hv
  obtain ⟨rfl, hP, hK⟩ := hv
  have hx := B.exec
  have hb := B.bytes
  have hr := B.returns
  have hts := atoms_spec (ws := wsX9_openSequence) B.pre
  have hown : s.vm.findClass RX9 = some m.cls := findClass_of_methodNamed B.named
  have hlocks := B.notSynchronized
  have hS : va_S (zA b) s.heap s.heap [] := va_S.rf
  have hl := lv_entry ([.ref (b + p0)]) (n := 1) (Nat.le_of_ble_eq_true rfl)
  rw [lg_entry_eq]
  generalize (lg_sl ([.ref (b + p0)]) ++ List.replicate (1 - (lg_sl ([.ref (b + p0)])).length) Slot.unset).toArray = ls at hl ⊢
  have hl : lv_has ls 1 [(0, .ref (b + p0))] := hl
  unfold fX9_openSequence at hf
  refine lv_aload_n hx hb dX9_openSequence_0 rfl (lv_at hl 0 rfl) ?_
  obtain ⟨v1, e1, hf⟩ := zb hf
  refine zr_gr (ci := 9) (k := 6) (C := RX9) (T := TX9) (N := 54) hx hb hts hi_X9_openSequence_9 hown hK hP e1 rfl rfl (by decide) (by decide) (hts (.fieldLink RX9 27 "BoundaryAnalyzerModel" "seqNull" "[Z") (List.mem_of_getElem? (i := 1) rfl)) dX9_openSequence_1 ?_
  refine lv_aload_n hx hb dX9_openSequence_4 rfl (lv_at hl 0 rfl) ?_
  obtain ⟨v5, e5, hf⟩ := zb hf
  refine zr_gi (ci := 9) (k := 10) (C := RX9) (T := TX9) (N := 54) hx hb hts hi_X9_openSequence_9 hown hK hP e5 rfl rfl (by decide) (by decide) (hts (.fieldLink RX9 148 "BoundaryAnalyzerModel" "depth" "I") (List.mem_of_getElem? (i := 2) rfl)) dX9_openSequence_5 ?_
  refine lv_iconst (v := (1 : Int32)) hx hb dX9_openSequence_8 (by decide) ?_
  obtain ⟨M9, e9, hf⟩ := zb hf
  refine zr_sz hx hb hK hP hS e9 dX9_openSequence_9 (fun H locs hP _ hS => ?_)
  refine lv_aload_n hx hb dX9_openSequence_10 rfl (lv_at hl 0 rfl) ?_
  obtain ⟨v11, e11, hf⟩ := zb hf
  refine zr_gr (ci := 9) (k := 7) (C := RX9) (T := TX9) (N := 54) hx hb hts hi_X9_openSequence_9 hown hK hP e11 rfl rfl (by decide) (by decide) (hts (.fieldLink RX9 30 "BoundaryAnalyzerModel" "seqFirst" "[I") (List.mem_of_getElem? (i := 3) rfl)) dX9_openSequence_11 ?_
  refine lv_aload_n hx hb dX9_openSequence_14 rfl (lv_at hl 0 rfl) ?_
  obtain ⟨v15, e15, hf⟩ := zb hf
  refine zr_gi (ci := 9) (k := 10) (C := RX9) (T := TX9) (N := 54) hx hb hts hi_X9_openSequence_9 hown hK hP e15 rfl rfl (by decide) (by decide) (hts (.fieldLink RX9 148 "BoundaryAnalyzerModel" "depth" "I") (List.mem_of_getElem? (i := 2) rfl)) dX9_openSequence_15 ?_
  refine lv_iconst (v := (0 : Int32)) hx hb dX9_openSequence_18 (by decide) ?_
  obtain ⟨M19, e19, hf⟩ := zb hf
  refine zr_si hx hb hK hP hS e19 dX9_openSequence_19 (fun H locs hP _ hS => ?_)
  refine lv_aload_n hx hb dX9_openSequence_20 rfl (lv_at hl 0 rfl) ?_
  obtain ⟨v21, e21, hf⟩ := zb hf
  refine zr_gr (ci := 9) (k := 8) (C := RX9) (T := TX9) (N := 54) hx hb hts hi_X9_openSequence_9 hown hK hP e21 rfl rfl (by decide) (by decide) (hts (.fieldLink RX9 33 "BoundaryAnalyzerModel" "seqLast" "[I") (List.mem_of_getElem? (i := 4) rfl)) dX9_openSequence_21 ?_
  refine lv_aload_n hx hb dX9_openSequence_24 rfl (lv_at hl 0 rfl) ?_
  obtain ⟨v25, e25, hf⟩ := zb hf
  refine zr_gi (ci := 9) (k := 10) (C := RX9) (T := TX9) (N := 54) hx hb hts hi_X9_openSequence_9 hown hK hP e25 rfl rfl (by decide) (by decide) (hts (.fieldLink RX9 148 "BoundaryAnalyzerModel" "depth" "I") (List.mem_of_getElem? (i := 2) rfl)) dX9_openSequence_25 ?_
  refine lv_iconst (v := (0 : Int32)) hx hb dX9_openSequence_28 (by decide) ?_
  obtain ⟨M29, e29, hf⟩ := zb hf
  refine zr_si hx hb hK hP hS e29 dX9_openSequence_29 (fun H locs hP _ hS => ?_)
  refine lv_aload_n hx hb dX9_openSequence_30 rfl (lv_at hl 0 rfl) ?_
  obtain ⟨v31, e31, hf⟩ := zb hf
  refine zr_gr (ci := 9) (k := 9) (C := RX9) (T := TX9) (N := 54) hx hb hts hi_X9_openSequence_9 hown hK hP e31 rfl rfl (by decide) (by decide) (hts (.fieldLink RX9 36 "BoundaryAnalyzerModel" "seqMany" "[I") (List.mem_of_getElem? (i := 5) rfl)) dX9_openSequence_31 ?_
  refine lv_aload_n hx hb dX9_openSequence_34 rfl (lv_at hl 0 rfl) ?_
  obtain ⟨v35, e35, hf⟩ := zb hf
  refine zr_gi (ci := 9) (k := 10) (C := RX9) (T := TX9) (N := 54) hx hb hts hi_X9_openSequence_9 hown hK hP e35 rfl rfl (by decide) (by decide) (hts (.fieldLink RX9 148 "BoundaryAnalyzerModel" "depth" "I") (List.mem_of_getElem? (i := 2) rfl)) dX9_openSequence_35 ?_
  refine lv_iconst (v := (0 : Int32)) hx hb dX9_openSequence_38 (by decide) ?_
  obtain ⟨M39, e39, hf⟩ := zb hf
  refine zr_si hx hb hK hP hS e39 dX9_openSequence_39 (fun H locs hP _ hS => ?_)
  exact zret_v hx hb hr hlocks hf hP hS dX9_openSequence_40
theorem hi_X9_openAlternatives_9 : ∀ w ∈ wsX90, w ∈ wsX9_openAlternatives := fun _ h => List.mem_cons_of_mem _ (List.mem_append_right _ h)
set_option maxHeartbeats 4000000 in
set_option maxRecDepth 100000 in
theorem k_X9_openAlternatives (l : Launch) (D : va_G) (cy : Nat → ClassId) (b : Nat) (M0 : Mem) (p0 : Nat) (rr : Mem) (hf : fX9_openAlternatives M0 p0 = some rr) : Met l yX9_openAlternatives wsX9_openAlternatives ({ frames := 1, cells := 0, slots := 0, locals := 20 } : Room) (zPc D cy b M0 [.ref (b + p0)]) (zQv D cy b rr) 0 0 (zA b) := by
  refine Met.ofW (cc := cX9_openAlternatives) (maxL := 1) (ret := none) (by decide) rfl ?_
  intro p e s m args below meth c s₁ B hml hv
  obtain ⟨rfl, hP, hK⟩ := hv
  have hx := B.exec
  have hb := B.bytes
  have hr := B.returns
  have hts := atoms_spec (ws := wsX9_openAlternatives) B.pre
  have hown : s.vm.findClass RX9 = some m.cls := findClass_of_methodNamed B.named
  have hlocks := B.notSynchronized
  have hS : va_S (zA b) s.heap s.heap [] := va_S.rf
  have hl := lv_entry ([.ref (b + p0)]) (n := 1) (Nat.le_of_ble_eq_true rfl)
  rw [lg_entry_eq]
  generalize (lg_sl ([.ref (b + p0)]) ++ List.replicate (1 - (lg_sl ([.ref (b + p0)])).length) Slot.unset).toArray = ls at hl ⊢
  have hl : lv_has ls 1 [(0, .ref (b + p0))] := hl
  unfold fX9_openAlternatives at hf
  refine lv_aload_n hx hb dX9_openAlternatives_0 rfl (lv_at hl 0 rfl) ?_
  obtain ⟨v1, e1, hf⟩ := zb hf
  refine zr_gr (ci := 9) (k := 3) (C := RX9) (T := TX9) (N := 54) hx hb hts hi_X9_openAlternatives_9 hown hK hP e1 rfl rfl (by decide) (by decide) (hts (.fieldLink RX9 17 "BoundaryAnalyzerModel" "altNull" "[Z") (List.mem_of_getElem? (i := 1) rfl)) dX9_openAlternatives_1 ?_
  refine lv_aload_n hx hb dX9_openAlternatives_4 rfl (lv_at hl 0 rfl) ?_
  obtain ⟨v5, e5, hf⟩ := zb hf
  refine zr_gi (ci := 9) (k := 10) (C := RX9) (T := TX9) (N := 54) hx hb hts hi_X9_openAlternatives_9 hown hK hP e5 rfl rfl (by decide) (by decide) (hts (.fieldLink RX9 148 "BoundaryAnalyzerModel" "depth" "I") (List.mem_of_getElem? (i := 2) rfl)) dX9_openAlternatives_5 ?_
  refine lv_iconst (v := (0 : Int32)) hx hb dX9_openAlternatives_8 (by decide) ?_
  obtain ⟨M9, e9, hf⟩ := zb hf
  refine zr_sz hx hb hK hP hS e9 dX9_openAlternatives_9 (fun H locs hP _ hS => ?_)
  refine lv_aload_n hx hb dX9_openAlternatives_10 rfl (lv_at hl 0 rfl) ?_
  obtain ⟨v11, e11, hf⟩ := zb hf
  refine zr_gr (ci := 9) (k := 4) (C := RX9) (T := TX9) (N := 54) hx hb hts hi_X9_openAlternatives_9 hown hK hP e11 rfl rfl (by decide) (by decide) (hts (.fieldLink RX9 21 "BoundaryAnalyzerModel" "altFirst" "[I") (List.mem_of_getElem? (i := 3) rfl)) dX9_openAlternatives_11 ?_
  refine lv_aload_n hx hb dX9_openAlternatives_14 rfl (lv_at hl 0 rfl) ?_
  obtain ⟨v15, e15, hf⟩ := zb hf
  refine zr_gi (ci := 9) (k := 10) (C := RX9) (T := TX9) (N := 54) hx hb hts hi_X9_openAlternatives_9 hown hK hP e15 rfl rfl (by decide) (by decide) (hts (.fieldLink RX9 148 "BoundaryAnalyzerModel" "depth" "I") (List.mem_of_getElem? (i := 2) rfl)) dX9_openAlternatives_15 ?_
  refine lv_iconst (v := (0 : Int32)) hx hb dX9_openAlternatives_18 (by decide) ?_
  obtain ⟨M19, e19, hf⟩ := zb hf
  refine zr_si hx hb hK hP hS e19 dX9_openAlternatives_19 (fun H locs hP _ hS => ?_)
  refine lv_aload_n hx hb dX9_openAlternatives_20 rfl (lv_at hl 0 rfl) ?_
  obtain ⟨v21, e21, hf⟩ := zb hf
  refine zr_gr (ci := 9) (k := 5) (C := RX9) (T := TX9) (N := 54) hx hb hts hi_X9_openAlternatives_9 hown hK hP e21 rfl rfl (by decide) (by decide) (hts (.fieldLink RX9 24 "BoundaryAnalyzerModel" "altLast" "[I") (List.mem_of_getElem? (i := 4) rfl)) dX9_openAlternatives_21 ?_
  refine lv_aload_n hx hb dX9_openAlternatives_24 rfl (lv_at hl 0 rfl) ?_
  obtain ⟨v25, e25, hf⟩ := zb hf
  refine zr_gi (ci := 9) (k := 10) (C := RX9) (T := TX9) (N := 54) hx hb hts hi_X9_openAlternatives_9 hown hK hP e25 rfl rfl (by decide) (by decide) (hts (.fieldLink RX9 148 "BoundaryAnalyzerModel" "depth" "I") (List.mem_of_getElem? (i := 2) rfl)) dX9_openAlternatives_25 ?_
  refine lv_iconst (v := (0 : Int32)) hx hb dX9_openAlternatives_28 (by decide) ?_
  obtain ⟨M29, e29, hf⟩ := zb hf
  refine zr_si hx hb hK hP hS e29 dX9_openAlternatives_29 (fun H locs hP _ hS => ?_)
  refine lv_aload_n hx hb dX9_openAlternatives_30 rfl (lv_at hl 0 rfl) ?_
  obtain ⟨u31, t31, hf⟩ := zb hf
  obtain ⟨M31, e31, hf⟩ := zb hf
  refine zc_v hS (va_runV (As := []) (rest := []) ⟨hx, hb, hml, hown, hts⟩ (k_X9_openSequence l D cy b M29 p0  M31 e31) (cwV 0 hts gX9_openAlternatives_X9_openSequence rfl rfl rfl (by decide +kernel) ⟨Nat.le_of_ble_eq_true rfl, Nat.le_of_ble_eq_true rfl⟩) (zp_V _ hK hP t31 (T := TX9) (N := 54) rfl (by decide)) rfl rfl hl.1 rfl (lv_room (Nat.le_of_ble_eq_true rfl)) dX9_openAlternatives_31 ⟨Nat.zero_le _, Nat.zero_le _⟩) (fun H locs hP hS => ?_)
  exact zret_v hx hb hr hlocks hf hP hS dX9_openAlternatives_34
