theorem hi_X9_addItem_9 : ∀ w ∈ wsX90, w ∈ wsX9_addItem := fun _ h => List.mem_cons_of_mem _ (List.mem_append_right _ h)
set_option maxHeartbeats 4000000 in
set_option maxRecDepth 100000 in
theorem k_X9_addItem (l : Launch) (D : va_G) (cy : Nat → ClassId) (b : Nat) (M0 : Mem) (p0 : Nat) (rr : Mem) (hf : fX9_addItem M0 p0 = some rr) : Met l yX9_addItem wsX9_addItem ({ frames := 1, cells := 0, slots := 0, locals := 23 } : Room) (zPc D cy b M0 [.ref (b + p0)]) (zQv D cy b rr) 0 0 (zA b) := by
  refine Met.ofW (cc := cX9_addItem) (maxL := 1) (ret := none) (by decide) rfl ?_
  intro p e s m args below meth c s₁ B hml hv
  obtain ⟨rfl, hP, hK⟩ := hv
  have hx := B.exec
  have hb := B.bytes
  have hr := B.returns
  have hts := atoms_spec (ws := wsX9_addItem) B.pre
  have hown : s.vm.findClass RX9 = some m.cls := findClass_of_methodNamed B.named
  have hlocks := B.notSynchronized
  have hS : va_S (zA b) s.heap s.heap [] := va_S.rf
  have hl := lv_entry ([.ref (b + p0)]) (n := 1) (Nat.le_of_ble_eq_true rfl)
  rw [lg_entry_eq]
  generalize (lg_sl ([.ref (b + p0)]) ++ List.replicate (1 - (lg_sl ([.ref (b + p0)])).length) Slot.unset).toArray = ls at hl ⊢
  have hl : lv_has ls 1 [(0, .ref (b + p0))] := hl
  have J115 : ∀ (M : Mem) (H : Heap) (locs : List Loc) (ls : Array Slot) (h0 : Nat) (g0 : Nat) (y1 : Int32) (y2 : Int32), fX9_addItem_115  M h0 g0 y1 y2 = some rr → zH D cy b M H → va_S (zA b) s.heap H locs → lv_has ls 1 [(0, .ref (b + h0))] → W p l e (headSpec wsX9_addItem ({ frames := 1, cells := 0, slots := 0, locals := 23 } : Room)).room s m ([.ref (b + p0)] : List Value).toArray below meth c H locs 0 0 (MQ below (zQv D cy b rr) ([.ref (b + p0)] : List Value).toArray s 0 0 (zA b)) (F0 m 115 ls [.int y2, .int y1, .ref (b + g0)]) := by
    intro M H locs ls h0 g0 y1 y2 hf hP hS hl
    unfold fX9_addItem_115 at hf
    obtain ⟨M115, e115, hf⟩ := zb hf
    refine zr_sz hx hb hK hP hS e115 dX9_addItem_115 (fun H locs hP _ hS => ?_)
    refine lv_aload_n hx hb dX9_addItem_116 rfl (lv_at hl 0 rfl) ?_
    obtain ⟨v117, e117, hf⟩ := zb hf
    refine zr_gr (ci := 9) (k := 9) (C := RX9) (T := TX9) (N := 54) hx hb hts hi_X9_addItem_9 hown hK hP e117 rfl rfl (by decide) (by decide) (hts (.fieldLink RX9 36 "BoundaryAnalyzerModel" "seqMany" "[I") (List.mem_of_getElem? (i := 8) rfl)) dX9_addItem_117 ?_
    refine lv_aload_n hx hb dX9_addItem_120 rfl (lv_at hl 0 rfl) ?_
    obtain ⟨v121, e121, hf⟩ := zb hf
    refine zr_gi (ci := 9) (k := 10) (C := RX9) (T := TX9) (N := 54) hx hb hts hi_X9_addItem_9 hown hK hP e121 rfl rfl (by decide) (by decide) (hts (.fieldLink RX9 148 "BoundaryAnalyzerModel" "depth" "I") (List.mem_of_getElem? (i := 2) rfl)) dX9_addItem_121 ?_
    refine lv_dup2_11 hx hb dX9_addItem_124 rfl rfl ?_
    obtain ⟨v125, e125, hf⟩ := zb hf
    refine zr_ai hx hb hK hP e125 dX9_addItem_125 ?_
    refine lv_iconst (v := (1 : Int32)) hx hb dX9_addItem_126 (by decide) ?_
    refine lv_iadd hx hb dX9_addItem_127 ?_
    obtain ⟨M128, e128, hf⟩ := zb hf
    refine zr_si hx hb hK hP hS e128 dX9_addItem_128 (fun H locs hP _ hS => ?_)
    exact zret_v hx hb hr hlocks hf hP hS dX9_addItem_129
  have J114 : ∀ (M : Mem) (H : Heap) (locs : List Loc) (ls : Array Slot) (h0 : Nat) (g0 : Nat) (y1 : Int32), fX9_addItem_114  M h0 g0 y1 = some rr → zH D cy b M H → va_S (zA b) s.heap H locs → lv_has ls 1 [(0, .ref (b + h0))] → W p l e (headSpec wsX9_addItem ({ frames := 1, cells := 0, slots := 0, locals := 23 } : Room)).room s m ([.ref (b + p0)] : List Value).toArray below meth c H locs 0 0 (MQ below (zQv D cy b rr) ([.ref (b + p0)] : List Value).toArray s 0 0 (zA b)) (F0 m 114 ls [.int y1, .ref (b + g0)]) := by
    intro M H locs ls h0 g0 y1 hf hP hS hl
    unfold fX9_addItem_114 at hf
    refine lv_iconst (v := (0 : Int32)) hx hb dX9_addItem_114 (by decide) ?_
    exact J115 _ _ _ _ _ _ _ _ hf hP hS (lv_sub hl [0] rfl)
  have J81 : ∀ (M : Mem) (H : Heap) (locs : List Loc) (ls : Array Slot) (h0 : Nat) (g0 : Nat) (y1 : Int32) (y2 : Int32) (y3 : Int32), fX9_addItem_81  M h0 g0 y1 y2 y3 = some rr → zH D cy b M H → va_S (zA b) s.heap H locs → lv_has ls 1 [(0, .ref (b + h0))] → W p l e (headSpec wsX9_addItem ({ frames := 1, cells := 0, slots := 0, locals := 23 } : Room)).room s m ([.ref (b + p0)] : List Value).toArray below meth c H locs 0 0 (MQ below (zQv D cy b rr) ([.ref (b + p0)] : List Value).toArray s 0 0 (zA b)) (F0 m 81 ls [.int y3, .int y2, .int y1, .ref (b + g0)]) := by
    intro M H locs ls h0 g0 y1 y2 y3 hf hP hS hl
    unfold fX9_addItem_81 at hf
    refine lv_ior hx hb dX9_addItem_81 ?_
    obtain ⟨M82, e82, hf⟩ := zb hf
    refine zr_si hx hb hK hP hS e82 dX9_addItem_82 (fun H locs hP _ hS => ?_)
    refine lv_aload_n hx hb dX9_addItem_83 rfl (lv_at hl 0 rfl) ?_
    obtain ⟨v84, e84, hf⟩ := zb hf
    refine zr_gr (ci := 9) (k := 6) (C := RX9) (T := TX9) (N := 54) hx hb hts hi_X9_addItem_9 hown hK hP e84 rfl rfl (by decide) (by decide) (hts (.fieldLink RX9 27 "BoundaryAnalyzerModel" "seqNull" "[Z") (List.mem_of_getElem? (i := 5) rfl)) dX9_addItem_84 ?_
    refine lv_aload_n hx hb dX9_addItem_87 rfl (lv_at hl 0 rfl) ?_
    obtain ⟨v88, e88, hf⟩ := zb hf
    refine zr_gi (ci := 9) (k := 10) (C := RX9) (T := TX9) (N := 54) hx hb hts hi_X9_addItem_9 hown hK hP e88 rfl rfl (by decide) (by decide) (hts (.fieldLink RX9 148 "BoundaryAnalyzerModel" "depth" "I") (List.mem_of_getElem? (i := 2) rfl)) dX9_addItem_88 ?_
    refine lv_aload_n hx hb dX9_addItem_91 rfl (lv_at hl 0 rfl) ?_
    obtain ⟨v92, e92, hf⟩ := zb hf
    refine zr_gr (ci := 9) (k := 6) (C := RX9) (T := TX9) (N := 54) hx hb hts hi_X9_addItem_9 hown hK hP e92 rfl rfl (by decide) (by decide) (hts (.fieldLink RX9 27 "BoundaryAnalyzerModel" "seqNull" "[Z") (List.mem_of_getElem? (i := 5) rfl)) dX9_addItem_92 ?_
    refine lv_aload_n hx hb dX9_addItem_95 rfl (lv_at hl 0 rfl) ?_
    obtain ⟨v96, e96, hf⟩ := zb hf
    refine zr_gi (ci := 9) (k := 10) (C := RX9) (T := TX9) (N := 54) hx hb hts hi_X9_addItem_9 hown hK hP e96 rfl rfl (by decide) (by decide) (hts (.fieldLink RX9 148 "BoundaryAnalyzerModel" "depth" "I") (List.mem_of_getElem? (i := 2) rfl)) dX9_addItem_96 ?_
    obtain ⟨v99, e99, hf⟩ := zb hf
    refine zr_az hx hb hK hP e99 dX9_addItem_99 ?_
    refine lv_if_eq (tgt := 114) hx hb dX9_addItem_100 (by decide) (fun c100 => ?_) (fun c100 => ?_)
    · have hf := (if_pos c100).symm.trans hf
      exact J114 _ _ _ _ _ _ _ hf hP hS (lv_sub hl [0] rfl)
    · have hf := (if_neg c100).symm.trans hf
      refine lv_aload_n hx hb dX9_addItem_103 rfl (lv_at hl 0 rfl) ?_
      obtain ⟨v104, e104, hf⟩ := zb hf
      refine zr_gi (ci := 9) (k := 11) (C := RX9) (T := TX9) (N := 54) hx hb hts hi_X9_addItem_9 hown hK hP e104 rfl rfl (by decide) (by decide) (hts (.fieldLink RX9 164 "BoundaryAnalyzerModel" "itemNull" "Z") (List.mem_of_getElem? (i := 7) rfl)) dX9_addItem_104 ?_
      refine lv_if_eq (tgt := 114) hx hb dX9_addItem_107 (by decide) (fun c107 => ?_) (fun c107 => ?_)
      · have hf := (if_pos c107).symm.trans hf
        exact J114 _ _ _ _ _ _ _ hf hP hS (lv_sub hl [0] rfl)
      · have hf := (if_neg c107).symm.trans hf
        refine lv_iconst (v := (1 : Int32)) hx hb dX9_addItem_110 (by decide) ?_
        refine lv_goto (tgt := 115) hx hb dX9_addItem_111 (by decide) ?_
        exact J115 _ _ _ _ _ _ _ _ hf hP hS (lv_sub hl [0] rfl)
  have J47 : ∀ (M : Mem) (H : Heap) (locs : List Loc) (ls : Array Slot) (h0 : Nat) (g0 : Nat) (y1 : Int32) (y2 : Int32) (y3 : Int32), fX9_addItem_47  M h0 g0 y1 y2 y3 = some rr → zH D cy b M H → va_S (zA b) s.heap H locs → lv_has ls 1 [(0, .ref (b + h0))] → W p l e (headSpec wsX9_addItem ({ frames := 1, cells := 0, slots := 0, locals := 23 } : Room)).room s m ([.ref (b + p0)] : List Value).toArray below meth c H locs 0 0 (MQ below (zQv D cy b rr) ([.ref (b + p0)] : List Value).toArray s 0 0 (zA b)) (F0 m 47 ls [.int y3, .int y2, .int y1, .ref (b + g0)]) := by
    intro M H locs ls h0 g0 y1 y2 y3 hf hP hS hl
    unfold fX9_addItem_47 at hf
    refine lv_ior hx hb dX9_addItem_47 ?_
    obtain ⟨M48, e48, hf⟩ := zb hf
    refine zr_si hx hb hK hP hS e48 dX9_addItem_48 (fun H locs hP _ hS => ?_)
    refine lv_aload_n hx hb dX9_addItem_49 rfl (lv_at hl 0 rfl) ?_
    obtain ⟨v50, e50, hf⟩ := zb hf
    refine zr_gr (ci := 9) (k := 8) (C := RX9) (T := TX9) (N := 54) hx hb hts hi_X9_addItem_9 hown hK hP e50 rfl rfl (by decide) (by decide) (hts (.fieldLink RX9 33 "BoundaryAnalyzerModel" "seqLast" "[I") (List.mem_of_getElem? (i := 1) rfl)) dX9_addItem_50 ?_
    refine lv_aload_n hx hb dX9_addItem_53 rfl (lv_at hl 0 rfl) ?_
    obtain ⟨v54, e54, hf⟩ := zb hf
    refine zr_gi (ci := 9) (k := 10) (C := RX9) (T := TX9) (N := 54) hx hb hts hi_X9_addItem_9 hown hK hP e54 rfl rfl (by decide) (by decide) (hts (.fieldLink RX9 148 "BoundaryAnalyzerModel" "depth" "I") (List.mem_of_getElem? (i := 2) rfl)) dX9_addItem_54 ?_
    refine lv_aload_n hx hb dX9_addItem_57 rfl (lv_at hl 0 rfl) ?_
    obtain ⟨v58, e58, hf⟩ := zb hf
    refine zr_gi (ci := 9) (k := 13) (C := RX9) (T := TX9) (N := 54) hx hb hts hi_X9_addItem_9 hown hK hP e58 rfl rfl (by decide) (by decide) (hts (.fieldLink RX9 161 "BoundaryAnalyzerModel" "itemLast" "I") (List.mem_of_getElem? (i := 6) rfl)) dX9_addItem_58 ?_
    refine lv_aload_n hx hb dX9_addItem_61 rfl (lv_at hl 0 rfl) ?_
    obtain ⟨v62, e62, hf⟩ := zb hf
    refine zr_gi (ci := 9) (k := 11) (C := RX9) (T := TX9) (N := 54) hx hb hts hi_X9_addItem_9 hown hK hP e62 rfl rfl (by decide) (by decide) (hts (.fieldLink RX9 164 "BoundaryAnalyzerModel" "itemNull" "Z") (List.mem_of_getElem? (i := 7) rfl)) dX9_addItem_62 ?_
    refine lv_if_eq (tgt := 80) hx hb dX9_addItem_65 (by decide) (fun c65 => ?_) (fun c65 => ?_)
    · have hf := (if_pos c65).symm.trans hf
      refine lv_iconst (v := (0 : Int32)) hx hb dX9_addItem_80 (by decide) ?_
      exact J81 _ _ _ _ _ _ _ _ _ hf hP hS (lv_sub hl [0] rfl)
    · have hf := (if_neg c65).symm.trans hf
      refine lv_aload_n hx hb dX9_addItem_68 rfl (lv_at hl 0 rfl) ?_
      obtain ⟨v69, e69, hf⟩ := zb hf
      refine zr_gr (ci := 9) (k := 8) (C := RX9) (T := TX9) (N := 54) hx hb hts hi_X9_addItem_9 hown hK hP e69 rfl rfl (by decide) (by decide) (hts (.fieldLink RX9 33 "BoundaryAnalyzerModel" "seqLast" "[I") (List.mem_of_getElem? (i := 1) rfl)) dX9_addItem_69 ?_
      refine lv_aload_n hx hb dX9_addItem_72 rfl (lv_at hl 0 rfl) ?_
      obtain ⟨v73, e73, hf⟩ := zb hf
      refine zr_gi (ci := 9) (k := 10) (C := RX9) (T := TX9) (N := 54) hx hb hts hi_X9_addItem_9 hown hK hP e73 rfl rfl (by decide) (by decide) (hts (.fieldLink RX9 148 "BoundaryAnalyzerModel" "depth" "I") (List.mem_of_getElem? (i := 2) rfl)) dX9_addItem_73 ?_
      obtain ⟨v76, e76, hf⟩ := zb hf
      refine zr_ai hx hb hK hP e76 dX9_addItem_76 ?_
      refine lv_goto (tgt := 81) hx hb dX9_addItem_77 (by decide) ?_
      exact J81 _ _ _ _ _ _ _ _ _ hf hP hS (lv_sub hl [0] rfl)
  unfold fX9_addItem at hf
  refine lv_aload_n hx hb dX9_addItem_0 rfl (lv_at hl 0 rfl) ?_
  refine lv_aload_n hx hb dX9_addItem_1 rfl (lv_at hl 0 rfl) ?_
  obtain ⟨v2, e2, hf⟩ := zb hf
  refine zr_gr (ci := 9) (k := 8) (C := RX9) (T := TX9) (N := 54) hx hb hts hi_X9_addItem_9 hown hK hP e2 rfl rfl (by decide) (by decide) (hts (.fieldLink RX9 33 "BoundaryAnalyzerModel" "seqLast" "[I") (List.mem_of_getElem? (i := 1) rfl)) dX9_addItem_2 ?_
  refine lv_aload_n hx hb dX9_addItem_5 rfl (lv_at hl 0 rfl) ?_
  obtain ⟨v6, e6, hf⟩ := zb hf
  refine zr_gi (ci := 9) (k := 10) (C := RX9) (T := TX9) (N := 54) hx hb hts hi_X9_addItem_9 hown hK hP e6 rfl rfl (by decide) (by decide) (hts (.fieldLink RX9 148 "BoundaryAnalyzerModel" "depth" "I") (List.mem_of_getElem? (i := 2) rfl)) dX9_addItem_6 ?_
  obtain ⟨v9, e9, hf⟩ := zb hf
  refine zr_ai hx hb hK hP e9 dX9_addItem_9 ?_
  refine lv_aload_n hx hb dX9_addItem_10 rfl (lv_at hl 0 rfl) ?_
  obtain ⟨v11, e11, hf⟩ := zb hf
  refine zr_gi (ci := 9) (k := 12) (C := RX9) (T := TX9) (N := 54) hx hb hts hi_X9_addItem_9 hown hK hP e11 rfl rfl (by decide) (by decide) (hts (.fieldLink RX9 154 "BoundaryAnalyzerModel" "itemFirst" "I") (List.mem_of_getElem? (i := 3) rfl)) dX9_addItem_11 ?_
  obtain ⟨u14, t14, hf⟩ := zb hf
  obtain ⟨M14, e14, hf⟩ := zb hf
  refine zc_v hS (va_runV (As := [.int v9, .int v11]) (rest := []) ⟨hx, hb, hml, hown, hts⟩ (k_X9_follows l D cy b M0 p0 v9 v11 M14 e14) (cwV 2 hts gX9_addItem_X9_follows rfl rfl rfl (by decide +kernel) ⟨Nat.le_of_ble_eq_true rfl, Nat.le_of_ble_eq_true rfl⟩) (zp_V _ hK hP t14 (T := TX9) (N := 54) rfl (by decide)) rfl rfl hl.1 rfl (lv_room (Nat.le_of_ble_eq_true rfl)) dX9_addItem_14 ⟨Nat.zero_le _, Nat.zero_le _⟩) (fun H locs hP hS => ?_)
  refine lv_aload_n hx hb dX9_addItem_17 rfl (lv_at hl 0 rfl) ?_
  obtain ⟨v18, e18, hf⟩ := zb hf
  refine zr_gr (ci := 9) (k := 7) (C := RX9) (T := TX9) (N := 54) hx hb hts hi_X9_addItem_9 hown hK hP e18 rfl rfl (by decide) (by decide) (hts (.fieldLink RX9 30 "BoundaryAnalyzerModel" "seqFirst" "[I") (List.mem_of_getElem? (i := 4) rfl)) dX9_addItem_18 ?_
  refine lv_aload_n hx hb dX9_addItem_21 rfl (lv_at hl 0 rfl) ?_
  obtain ⟨v22, e22, hf⟩ := zb hf
  refine zr_gi (ci := 9) (k := 10) (C := RX9) (T := TX9) (N := 54) hx hb hts hi_X9_addItem_9 hown hK hP e22 rfl rfl (by decide) (by decide) (hts (.fieldLink RX9 148 "BoundaryAnalyzerModel" "depth" "I") (List.mem_of_getElem? (i := 2) rfl)) dX9_addItem_22 ?_
  refine lv_dup2_11 hx hb dX9_addItem_25 rfl rfl ?_
  obtain ⟨v26, e26, hf⟩ := zb hf
  refine zr_ai hx hb hK hP e26 dX9_addItem_26 ?_
  refine lv_aload_n hx hb dX9_addItem_27 rfl (lv_at hl 0 rfl) ?_
  obtain ⟨v28, e28, hf⟩ := zb hf
  refine zr_gr (ci := 9) (k := 6) (C := RX9) (T := TX9) (N := 54) hx hb hts hi_X9_addItem_9 hown hK hP e28 rfl rfl (by decide) (by decide) (hts (.fieldLink RX9 27 "BoundaryAnalyzerModel" "seqNull" "[Z") (List.mem_of_getElem? (i := 5) rfl)) dX9_addItem_28 ?_
  refine lv_aload_n hx hb dX9_addItem_31 rfl (lv_at hl 0 rfl) ?_
  obtain ⟨v32, e32, hf⟩ := zb hf
  refine zr_gi (ci := 9) (k := 10) (C := RX9) (T := TX9) (N := 54) hx hb hts hi_X9_addItem_9 hown hK hP e32 rfl rfl (by decide) (by decide) (hts (.fieldLink RX9 148 "BoundaryAnalyzerModel" "depth" "I") (List.mem_of_getElem? (i := 2) rfl)) dX9_addItem_32 ?_
  obtain ⟨v35, e35, hf⟩ := zb hf
  refine zr_az hx hb hK hP e35 dX9_addItem_35 ?_
  refine lv_if_eq (tgt := 46) hx hb dX9_addItem_36 (by decide) (fun c36 => ?_) (fun c36 => ?_)
  · have hf := (if_pos c36).symm.trans hf
    refine lv_iconst (v := (0 : Int32)) hx hb dX9_addItem_46 (by decide) ?_
    exact J47 _ _ _ _ _ _ _ _ _ hf hP hS (lv_sub hl [0] rfl)
  · have hf := (if_neg c36).symm.trans hf
    refine lv_aload_n hx hb dX9_addItem_39 rfl (lv_at hl 0 rfl) ?_
    obtain ⟨v40, e40, hf⟩ := zb hf
    refine zr_gi (ci := 9) (k := 12) (C := RX9) (T := TX9) (N := 54) hx hb hts hi_X9_addItem_9 hown hK hP e40 rfl rfl (by decide) (by decide) (hts (.fieldLink RX9 154 "BoundaryAnalyzerModel" "itemFirst" "I") (List.mem_of_getElem? (i := 3) rfl)) dX9_addItem_40 ?_
    refine lv_goto (tgt := 47) hx hb dX9_addItem_43 (by decide) ?_
    exact J47 _ _ _ _ _ _ _ _ _ hf hP hS (lv_sub hl [0] rfl)
