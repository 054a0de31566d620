theorem hi_X9_addItem_9 : ∀ w ∈ wsX90, w ∈ wsX9_addItem := fun _ h => List.mem_cons_of_mem _ (List.mem_append_right _ h)
set_option maxHeartbeats 4000000 in
set_option maxRecDepth 100000 in
theorem k_X9_addItem (l : Launch) (D : va_G) (cy : Nat → ClassId) (b : Nat) (M0 : Mem) (h0 : Nat) (rr : Mem) (hf : fX9_addItem M0 h0 = some rr) : Met l yX9_addItem wsX9_addItem ({ frames := 1, cells := 0, slots := 0, locals := 23 } : Room) (zPc D cy b M0 [.ref (b + h0)]) (zQv D cy b rr) 0 0 (zA b) := by
  refine Met.ofW (cc := cX9_addItem) (maxL := 1) (ret := none) (by decide) rfl ?_
  intro p e s m args below meth c s₁ B hml hv
  obtain ⟨rfl, hP, hK⟩ := hv
  have hx := B.exec
  have hb := B.bytes
  have hr := B.returns
  have hts := atoms_spec (ws := wsX9_addItem) B.pre
  have hown : s.vm.findClass RX9 = some m.cls := findClass_of_methodNamed B.named
  have hlocks := B.notSynchronized
  have hS : va_S (zA b) s.heap s.heap [] := va_S.rf
  have hl := lv_entry ([.ref (b + h0)]) (n := 1) (Nat.le_of_ble_eq_true rfl)
  rw [lg_entry_eq]
  generalize (lg_sl ([.ref (b + h0)]) ++ List.replicate (1 - (lg_sl ([.ref (b + h0)])).length) Slot.unset).toArray = ls at hl ⊢
  have hl : lv_has ls 1 [(0, .ref (b + h0))] := hl
  have J115 : ∀ (M : Mem) (H : Heap) (locs : List Loc) (ls : Array Slot) (h0 : Nat) (g0 : Nat) (y1 : Int32) (y2 : Int32), fX9_addItem_115  M h0 g0 y1 y2 = some rr → zH D cy b M H → va_S (zA b) s.heap H locs → lv_has ls 1 [(0, .ref (b + h0))] → W p l e (headSpec wsX9_addItem ({ frames := 1, cells := 0, slots := 0, locals := 23 } : Room)).room s m ([.ref (b + h0)] : List Value).toArray below meth c H locs 0 0 (MQ below (zQv D cy b rr) ([.ref (b + h0)] : List Value).toArray s 0 0 (zA b)) (F0 m 115 ls [.int y2, .int y1, .ref (b + g0)]) := by
    intro M H locs ls h0 g0 y1 y2 hf hP hS hl
    unfold fX9_addItem_115 at hf
    obtain ⟨M115, e115, hf⟩ := zb hf
    refine zr_sz hx hb hK hP hS e115 dX9_addItem_115 (fun H locs hP _ hS => ?_)
    refine lv_aload_n hx hb dX9_addItem_116 rfl (lv_at hl 0 rfl) ?_
    obtain ⟨v117, e117, hf⟩ := zb hf
    refine zr_gr (ci := 9) (k := 9) (C := RX9) (T := TX9) (N := 54) hx hb hts hi_X9_addItem_9 hown hK hP e117 rfl rfl (by decide) (by decide) (hts (.fieldLink RX9 36 "BoundaryAnalyzerModel" "seqMany" "[I") (List.mem_of_getElem? (i := 8) rfl)) dX9_addItem_117 ?_
    refine lv_aload_n hx hb dX9_addItem_120 rfl (lv_at hl 0 rfl) ?_
    obtain ⟨v121, e121, hf⟩ := zb hf
    refine zr_gi (ci := 9) (k := 10) (C := RX9) (T := TX9) (N := 54) hx hb hts hi_X9_addItem_9 hown hK hP e121 rfl rfl (by decide) (by decide) (hts (.fieldLink RX9 148 "BoundaryAnalyzerModel" "depth" "I") (List.mem_of_getElem? (i := 2) rfl)) dX9_addItem_121 ?_
    refine lv_dup2_11 hx hb dX9_addItem_124 rfl rfl ?_
    obtain ⟨v125, e125, hf⟩ := zb hf
    refine zr_ai hx hb hK hP e125 dX9_addItem_125 ?_
    refine lv_iconst (v := (1 : Int32)) hx hb dX9_addItem_126 (by decide) ?_
    refine lv_iadd hx hb dX9_addItem_127 ?_
    obtain ⟨M128, e128, hf⟩ := zb hf
    refine zr_si hx hb hK hP hS e128 dX9_addItem_128 (fun H locs hP _ hS => ?_)
    exact zret_v hx hb hr hlocks hf hP hS dX9_addItem_129
  have J114 : ∀ (M : Mem) (H : Heap) (locs : List Loc) (ls : Array Slot) (h0 : Nat) (g0 : Nat) (y1 : Int32), fX9_addItem_114  M h0 g0 y1 = some rr → zH D cy b M H → va_S (zA b) s.heap H locs → lv_has ls 1 [(0, .ref (b + h0))] → W p l e (headSpec wsX9_addItem ({ frames := 1, cells := 0, slots := 0, locals := 23 } : Room)).room s m ([.ref (b + h0)] : List Value).toArray below meth c H locs 0 0 (MQ below (zQv D cy b rr) ([.ref (b + h0)] : List Value).toArray s 0 0 (zA b)) (F0 m 114 ls [.int y1, .ref (b + g0)]) := by
    intro M H locs ls h0 g0 y1 hf hP hS hl
    unfold fX9_addItem_114 at hf
    refine lv_iconst (v := (0 : Int32)) hx hb dX9_addItem_114 (by decide) ?_
    exact J115 _ _ _ _ _ _ _ _ hf hP hS (lv_sub hl [0] rfl)
  have J81 : ∀ (M : Mem) (H : Heap) (locs : List Loc) (ls : Array Slot) (h0 : Nat) (g0 : Nat) (y1 : Int32) (y2 : Int32) (y3 : Int32), fX9_addItem_81  M h0 g0 y1 y2 y3 = some rr → zH D cy b M H → va_S (zA b) s.heap H locs → lv_has ls 1 [(0, .ref (b + h0))] → W p l e (headSpec wsX9_addItem ({ frames := 1, cells := 0, slots := 0, locals := 23 } : Room)).room s m ([.ref (b + h0)] : List Value).toArray below meth c H locs 0 0 (MQ below (zQv D cy b rr) ([.ref (b + h0)] : List Value).toArray s 0 0 (zA b)) (F0 m 81 ls [.int y3, .int y2, .int y1, .ref (b + g0)]) := by
    intro M H locs ls h0 g0 y1 y2 y3 hf hP hS hl
    unfold fX9_addItem_81 at hf
    refine lv_ior hx hb dX9_addItem_81 ?_
    obtain ⟨M82, e82, hf⟩ := zb hf
    refine zr_si hx hb hK hP hS e82 dX9_addItem_82 (fun H locs hP _ hS => ?_)
    refine lv_aload_n hx hb dX9_addItem_83 rfl (lv_at hl 0 rfl) ?_
    obtain ⟨v84, e84, hf⟩ := zb hf
    refine zr_gr (ci := 9) (k := 6) (C := RX9) (T := TX9) (N := 54) hx hb hts hi_X9_addItem_9 hown hK hP e84 rfl rfl (by decide) (by decide) (hts (.fieldLink RX9 27 "BoundaryAnalyzerModel" "seqNull" "[Z") (List.mem_of_getElem? (i := 5) rfl)) dX9_addItem_84 ?_
    refine lv_aload_n hx hb dX9_addItem_87 rfl (lv_at hl 0 rfl) ?_
    obtain ⟨v88, e88, hf⟩ := zb hf
    refine zr_gi (ci := 9) (k := 10) (C := RX9) (T := TX9) (N := 54) hx hb hts hi_X9_addItem_9 hown hK hP e88 rfl rfl (by decide) (by decide) (hts (.fieldLink RX9 148 "BoundaryAnalyzerModel" "depth" "I") (List.mem_of_getElem? (i := 2) rfl)) dX9_addItem_88 ?_
    refine lv_aload_n hx hb dX9_addItem_91 rfl (lv_at hl 0 rfl) ?_
    obtain ⟨v92, e92, hf⟩ := zb hf
    refine zr_gr (ci := 9) (k := 6) (C := RX9) (T := TX9) (N := 54) hx hb hts hi_X9_addItem_9 hown hK hP e92 rfl rfl (by decide) (by decide) (hts (.fieldLink RX9 27 "BoundaryAnalyzerModel" "seqNull" "[Z") (List.mem_of_getElem? (i := 5) rfl)) dX9_addItem_92 ?_
    refine lv_aload_n hx hb dX9_addItem_95 rfl (lv_at hl 0 rfl) ?_
    obtain ⟨v96, e96, hf⟩ := zb hf
    refine zr_gi (ci := 9) (k := 10) (C := RX9) (T := TX9) (N := 54) hx hb hts hi_X9_addItem_9 hown hK hP e96 rfl rfl (by decide) (by decide) (hts (.fieldLink RX9 148 "BoundaryAnalyzerModel" "depth" "I") (List.mem_of_getElem? (i := 2) rfl)) dX9_addItem_96 ?_
    obtain ⟨v99, e99, hf⟩ := zb hf
    refine zr_az hx hb hK hP e99 dX9_addItem_99 ?_
    refine lv_if_eq (tgt := 114) hx hb dX9_addItem_100 (by decide) (fun c100 => ?_) (fun c100 => ?_)
    · have hf := (if_pos c100).symm.trans hf
      exact J114 _ _ _ _ _ _ _ hf hP hS (lv_sub hl [0] rfl)
    · have hf := (if_neg c100).symm.trans hf
      refine lv_aload_n hx hb dX9_addItem_103 rfl (lv_at hl 0 rfl) ?_
      obtain ⟨v104, e104, hf⟩ := zb hf
      refine zr_gi (ci := 9) (k := 11) (C := RX9) (T := TX9) (N := 54) hx hb hts hi_X9_addItem_9 hown hK hP e104 rfl rfl (by decide) (by decide) (hts (.fieldLink RX9 164 "BoundaryAnalyzerModel" "itemNull" "Z") (List.mem_of_getElem? (i := 7) rfl)) dX9_addItem_104 ?_
      refine lv_if_eq (tgt := 114) hx hb dX9_addItem_107 (by decide) (fun c107 => ?_) (fun c107 => ?_)
      · have hf := (if_pos c107).symm.trans hf
        exact J114 _ _ _ _ _ _ _ hf hP hS (lv_sub hl [0] rfl)
      · have hf := (if_neg c107).symm.trans hf
        refine lv_iconst (v := (1 : Int32)) hx hb dX9_addItem_110 (by decide) ?_
        refine lv_goto (tgt := 115) hx hb dX9_addItem_111 (by decide) ?_
        exact J115 _ _ _ _ _ _ _ _ hf hP hS (lv_sub hl [0] rfl)
  have J47 : ∀ (M : Mem) (H : Heap) (locs : List Loc) (ls : Array Slot) (h0 : Nat) (g0 : Nat) (y1 : Int32) (y2 : Int32) (y3 : Int32), fX9_addItem_47  M h0 g0 y1 y2 y3 = some rr → zH D cy b M H → va_S (zA b) s.heap H locs → lv_has ls 1 [(0, .ref (b + h0))] → W p l e (headSpec wsX9_addItem ({ frames := 1, cells := 0, slots := 0, locals := 23 } : Room)).room s m ([.ref (b + h0)] : List Value).toArray below meth c H locs 0 0 (MQ below (zQv D cy b rr) ([.ref (b + h0)] : List Value).toArray s 0 0 (zA b)) (F0 m 47 ls [.int y3, .int y2, .int y1, .ref (b + g0)]) := by
    intro M H locs ls h0 g0 y1 y2 y3 hf hP hS hl
    unfold fX9_addItem_47 at hf
    refine lv_ior hx hb dX9_addItem_47 ?_
    obtain ⟨M48, e48, hf⟩ := zb hf
    refine zr_si hx hb hK hP hS e48 dX9_addItem_48 (fun H locs hP _ hS => ?_)
    refine lv_aload_n hx hb dX9_addItem_49 rfl (lv_at hl 0 rfl) ?_
    obtain ⟨v50, e50, hf⟩ := zb hf
    refine zr_gr (ci := 9) (k := 8) (C := RX9) (T := TX9) (N := 54) hx hb hts hi_X9_addItem_9 hown hK hP e50 rfl rfl (by decide) (by decide) (hts (.fieldLink RX9 33 "BoundaryAnalyzerModel" "seqLast" "[I") (List.mem_of_getElem? (i := 1) rfl)) dX9_addItem_50 ?_
    refine lv_aload_n hx hb dX9_addItem_53 rfl (lv_at hl 0 rfl) ?_
    obtain ⟨v54, e54, hf⟩ := zb hf
    refine zr_gi (ci := 9) (k := 10) (C := RX9) (T := TX9) (N := 54) hx hb hts hi_X9_addItem_9 hown hK hP e54 rfl rfl (by decide) (by decide) (hts (.fieldLink RX9 148 "BoundaryAnalyzerModel" "depth" "I") (List.mem_of_getElem? (i := 2) rfl)) dX9_addItem_54 ?_
    refine lv_aload_n hx hb dX9_addItem_57 rfl (lv_at hl 0 rfl) ?_
    obtain ⟨v58, e58, hf⟩ := zb hf
    refine zr_gi (ci := 9) (k := 13) (C := RX9) (T := TX9) (N := 54) hx hb hts hi_X9_addItem_9 hown hK hP e58 rfl rfl (by decide) (by decide) (hts (.fieldLink RX9 161 "BoundaryAnalyzerModel" "itemLast" "I") (List.mem_of_getElem? (i := 6) rfl)) dX9_addItem_58 ?_
    refine lv_aload_n hx hb dX9_addItem_61 rfl (lv_at hl 0 rfl) ?_
    obtain ⟨v62, e62, hf⟩ := zb hf
    refine zr_gi (ci := 9) (k := 11) (C := RX9) (T := TX9) (N := 54) hx hb hts hi_X9_addItem_9 hown hK hP e62 rfl rfl (by decide) (by decide) (hts (.fieldLink RX9 164 "BoundaryAnalyzerModel" "itemNull" "Z") (List.mem_of_getElem? (i := 7) rfl)) dX9_addItem_62 ?_
    refine lv_if_eq (tgt := 80) hx hb dX9_addItem_65 (by decide) (fun c65 => ?_) (fun c65 => ?_)
    · have hf := (if_pos c65).symm.trans hf
      refine lv_iconst (v := (0 : Int32)) hx hb dX9_addItem_80 (by decide) ?_
      exact J81 _ _ _ _ _ _ _ _ _ hf hP hS (lv_sub hl [0] rfl)
    · have hf := (if_neg c65).symm.trans hf
      refine lv_aload_n hx hb dX9_addItem_68 rfl (lv_at hl 0 rfl) ?_
      obtain ⟨v69, e69, hf⟩ := zb hf
      refine zr_gr (ci := 9) (k := 8) (C := RX9) (T := TX9) (N := 54) hx hb hts hi_X9_addItem_9 hown hK hP e69 rfl rfl (by decide) (by decide) (hts (.fieldLink RX9 33 "BoundaryAnalyzerModel" "seqLast" "[I") (List.mem_of_getElem? (i := 1) rfl)) dX9_addItem_69 ?_
      refine lv_aload_n hx hb dX9_addItem_72 rfl (lv_at hl 0 rfl) ?_
      obtain ⟨v73, e73, hf⟩ := zb hf
      refine zr_gi (ci := 9) (k := 10) (C := RX9) (T := TX9) (N := 54) hx hb hts hi_X9_addItem_9 hown hK hP e73 rfl rfl (by decide) (by decide) (hts (.fieldLink RX9 148 "BoundaryAnalyzerModel" "depth" "I") (List.mem_of_getElem? (i := 2) rfl)) dX9_addItem_73 ?_
      obtain ⟨v76, e76, hf⟩ := zb hf
      refine zr_ai hx hb hK hP e76 dX9_addItem_76 ?_
      refine lv_goto (tgt := 81) hx hb dX9_addItem_77 (by decide) ?_
      exact J81 _ _ _ _ _ _ _ _ _ hf hP hS (lv_sub hl [0] rfl)
  unfold fX9_addItem at hf
  refine lv_aload_n hx hb dX9_addItem_0 rfl (lv_at hl 0 rfl) ?_
  refine lv_aload_n hx hb dX9_addItem_1 rfl (lv_at hl 0 rfl) ?_
  obtain ⟨v2, e2, hf⟩ := zb hf
  refine zr_gr (ci := 9) (k := 8) (C := RX9) (T := TX9) (N := 54) hx hb hts hi_X9_addItem_9 hown hK hP e2 rfl rfl (by decide) (by decide) (hts (.fieldLink RX9 33 "BoundaryAnalyzerModel" "seqLast" "[I") (List.mem_of_getElem? (i := 1) rfl)) dX9_addItem_2 ?_
  refine lv_aload_n hx hb dX9_addItem_5 rfl (lv_at hl 0 rfl) ?_
  obtain ⟨v6, e6, hf⟩ := zb hf
  refine zr_gi (ci := 9) (k := 10) (C := RX9) (T := TX9) (N := 54) hx hb hts hi_X9_addItem_9 hown hK hP e6 rfl rfl (by decide) (by decide) (hts (.fieldLink RX9 148 "BoundaryAnalyzerModel" "depth" "I") (List.mem_of_getElem? (i := 2) rfl)) dX9_addItem_6 ?_
  obtain ⟨v9, e9, hf⟩ := zb hf
  refine zr_ai hx hb hK hP e9 dX9_addItem_9 ?_
  refine lv_aload_n hx hb dX9_addItem_10 rfl (lv_at hl 0 rfl) ?_
  obtain ⟨v11, e11, hf⟩ := zb hf
  refine zr_gi (ci := 9) (k := 12) (C := RX9) (T := TX9) (N := 54) hx hb hts hi_X9_addItem_9 hown hK hP e11 rfl rfl (by decide) (by decide) (hts (.fieldLink RX9 154 "BoundaryAnalyzerModel" "itemFirst" "I") (List.mem_of_getElem? (i := 3) rfl)) dX9_addItem_11 ?_
  obtain ⟨u14, t14, hf⟩ := zb hf
  obtain ⟨M14, e14, hf⟩ := zb hf
  refine zc_v hS (va_runV (As := [.int v9, .int v11]) (rest := []) ⟨hx, hb, hml, hown, hts⟩ (k_X9_follows l D cy b M0 h0 v9 v11 M14 e14) (cwV 2 hts gX9_addItem_X9_follows rfl rfl rfl (by decide +kernel) ⟨Nat.le_of_ble_eq_true rfl, Nat.le_of_ble_eq_true rfl⟩) (zp_V _ hK hP t14 (T := TX9) (N := 54) rfl (by decide)) rfl rfl hl.1 rfl (lv_room (Nat.le_of_ble_eq_true rfl)) dX9_addItem_14 ⟨Nat.zero_le _, Nat.zero_le _⟩) (fun H locs hP hS => ?_)
  refine lv_aload_n hx hb dX9_addItem_17 rfl (lv_at hl 0 rfl) ?_
  obtain ⟨v18, e18, hf⟩ := zb hf
  refine zr_gr (ci := 9) (k := 7) (C := RX9) (T := TX9) (N := 54) hx hb hts hi_X9_addItem_9 hown hK hP e18 rfl rfl (by decide) (by decide) (hts (.fieldLink RX9 30 "BoundaryAnalyzerModel" "seqFirst" "[I") (List.mem_of_getElem? (i := 4) rfl)) dX9_addItem_18 ?_
  refine lv_aload_n hx hb dX9_addItem_21 rfl (lv_at hl 0 rfl) ?_
  obtain ⟨v22, e22, hf⟩ := zb hf
  refine zr_gi (ci := 9) (k := 10) (C := RX9) (T := TX9) (N := 54) hx hb hts hi_X9_addItem_9 hown hK hP e22 rfl rfl (by decide) (by decide) (hts (.fieldLink RX9 148 "BoundaryAnalyzerModel" "depth" "I") (List.mem_of_getElem? (i := 2) rfl)) dX9_addItem_22 ?_
  refine lv_dup2_11 hx hb dX9_addItem_25 rfl rfl ?_
  obtain ⟨v26, e26, hf⟩ := zb hf
  refine zr_ai hx hb hK hP e26 dX9_addItem_26 ?_
  refine lv_aload_n hx hb dX9_addItem_27 rfl (lv_at hl 0 rfl) ?_
  obtain ⟨v28, e28, hf⟩ := zb hf
  refine zr_gr (ci := 9) (k := 6) (C := RX9) (T := TX9) (N := 54) hx hb hts hi_X9_addItem_9 hown hK hP e28 rfl rfl (by decide) (by decide) (hts (.fieldLink RX9 27 "BoundaryAnalyzerModel" "seqNull" "[Z") (List.mem_of_getElem? (i := 5) rfl)) dX9_addItem_28 ?_
  refine lv_aload_n hx hb dX9_addItem_31 rfl (lv_at hl 0 rfl) ?_
  obtain ⟨v32, e32, hf⟩ := zb hf
  refine zr_gi (ci := 9) (k := 10) (C := RX9) (T := TX9) (N := 54) hx hb hts hi_X9_addItem_9 hown hK hP e32 rfl rfl (by decide) (by decide) (hts (.fieldLink RX9 148 "BoundaryAnalyzerModel" "depth" "I") (List.mem_of_getElem? (i := 2) rfl)) dX9_addItem_32 ?_
  obtain ⟨v35, e35, hf⟩ := zb hf
  refine zr_az hx hb hK hP e35 dX9_addItem_35 ?_
  refine lv_if_eq (tgt := 46) hx hb dX9_addItem_36 (by decide) (fun c36 => ?_) (fun c36 => ?_)
  · have hf := (if_pos c36).symm.trans hf
    refine lv_iconst (v := (0 : Int32)) hx hb dX9_addItem_46 (by decide) ?_
    exact J47 _ _ _ _ _ _ _ _ _ hf hP hS (lv_sub hl [0] rfl)
  · have hf := (if_neg c36).symm.trans hf
    refine lv_aload_n hx hb dX9_addItem_39 rfl (lv_at hl 0 rfl) ?_
    obtain ⟨v40, e40, hf⟩ := zb hf
    refine zr_gi (ci := 9) (k := 12) (C := RX9) (T := TX9) (N := 54) hx hb hts hi_X9_addItem_9 hown hK hP e40 rfl rfl (by decide) (by decide) (hts (.fieldLink RX9 154 "BoundaryAnalyzerModel" "itemFirst" "I") (List.mem_of_getElem? (i := 3) rfl)) dX9_addItem_40 ?_
    refine lv_goto (tgt := 47) hx hb dX9_addItem_43 (by decide) ?_
    exact J47 _ _ _ _ _ _ _ _ _ hf hP hS (lv_sub hl [0] rfl)
set_option maxHeartbeats 4000000 in
set_option maxRecDepth 100000 in
theorem k_X9_isRepeat (l : Launch) (x0 : Int32) (rr : Int32) (hf : fX9_isRepeat x0 = some rr) : Met l yX9_isRepeat wsX9_isRepeat ({ frames := 0, cells := 0, slots := 0, locals := 0 } : Room) (zPp [.int x0]) (zQp rr) 0 0 zNo := by
  refine Met.ofW (cc := cX9_isRepeat) (maxL := 1) (ret := (some .boolean)) (by decide) rfl ?_
  intro p e s m args below meth c s₁ B hml hv
  obtain ⟨rfl, -⟩ := hv
  have hx := B.exec
  have hb := B.bytes
  have hr := B.returns
  have hts := atoms_spec (ws := wsX9_isRepeat) B.pre
  have hown : s.vm.findClass RX9 = some m.cls := findClass_of_methodNamed B.named
  have hlocks := B.notSynchronized
  have hl := lv_entry ([.int x0]) (n := 1) (Nat.le_of_ble_eq_true rfl)
  rw [lg_entry_eq]
  generalize (lg_sl ([.int x0]) ++ List.replicate (1 - (lg_sl ([.int x0])).length) Slot.unset).toArray = ls at hl ⊢
  have hl : lv_has ls 1 [(0, .int x0)] := hl
  have J18 : ∀ (ls : Array Slot) , fX9_isRepeat_18   = some rr → lv_has ls 1 [] → W p l e (headSpec wsX9_isRepeat ({ frames := 0, cells := 0, slots := 0, locals := 0 } : Room)).room s m ([.int x0] : List Value).toArray below meth c s.heap [] 0 0 (MQ below (zQp rr) ([.int x0] : List Value).toArray s 0 0 zNo) (F0 m 18 ls []) := by
    intro ls  hf hl
    unfold fX9_isRepeat_18 at hf
    refine lv_iconst (v := (1 : Int32)) hx hb dX9_isRepeat_18 (by decide) ?_
    refine lv_goto (tgt := 23) hx hb dX9_isRepeat_19 (by decide) ?_
    exact zret_pz hx hb hr (Or.inl rfl) hlocks hf dX9_isRepeat_23
  unfold fX9_isRepeat at hf
  refine lv_iload_n hx hb dX9_isRepeat_0 rfl (lv_at hl 0 rfl) ?_
  refine lv_bipush (v := (42 : Int32)) hx hb dX9_isRepeat_1 (by decide) ?_
  refine lv_icmp_eq (tgt := 18) hx hb dX9_isRepeat_3 (by decide) (fun c3 => ?_) (fun c3 => ?_)
  · have hf := (if_pos c3).symm.trans hf
    exact J18 _ hf (lv_sub hl [] rfl)
  · have hf := (if_neg c3).symm.trans hf
    refine lv_iload_n hx hb dX9_isRepeat_6 rfl (lv_at hl 0 rfl) ?_
    refine lv_bipush (v := (43 : Int32)) hx hb dX9_isRepeat_7 (by decide) ?_
    refine lv_icmp_eq (tgt := 18) hx hb dX9_isRepeat_9 (by decide) (fun c9 => ?_) (fun c9 => ?_)
    · have hf := (if_pos c9).symm.trans hf
      exact J18 _ hf (lv_sub hl [] rfl)
    · have hf := (if_neg c9).symm.trans hf
      refine lv_iload_n hx hb dX9_isRepeat_12 rfl (lv_at hl 0 rfl) ?_
      refine lv_bipush (v := (63 : Int32)) hx hb dX9_isRepeat_13 (by decide) ?_
      refine lv_icmp_ne (tgt := 22) hx hb dX9_isRepeat_15 (by decide) (fun c15 => ?_) (fun c15 => ?_)
      · have hf := (if_neg c15).symm.trans hf
        refine lv_iconst (v := (0 : Int32)) hx hb dX9_isRepeat_22 (by decide) ?_
        exact zret_pz hx hb hr (Or.inl rfl) hlocks hf dX9_isRepeat_23
      · have hf := (if_pos c15).symm.trans hf
        exact J18 _ hf (lv_sub hl [] rfl)
theorem hi_X9_endItem_9 : ∀ w ∈ wsX90, w ∈ wsX9_endItem := fun _ h => List.mem_cons_of_mem _ (List.mem_append_right _ h)
set_option maxHeartbeats 4000000 in
set_option maxRecDepth 100000 in
theorem k_X9_endItem (l : Launch) (D : va_G) (cy : Nat → ClassId) (b : Nat) (M0 : Mem) (h0 : Nat) (x1 : Int32) (rr : Int32 × Mem) (hf : fX9_endItem M0 h0 x1 = some rr) : Met l yX9_endItem wsX9_endItem ({ frames := 2, cells := 0, slots := 0, locals := 43 } : Room) (zPc D cy b M0 [.ref (b + h0), .int x1]) (zQi D cy b rr) 0 0 (zA b) := by
  refine Met.ofW (cc := cX9_endItem) (maxL := 3) (ret := (some .int)) (by decide) rfl ?_
  intro p e s m args below meth c s₁ B hml hv
  obtain ⟨rfl, hP, hK⟩ := hv
  have hx := B.exec
  have hb := B.bytes
  have hr := B.returns
  have hts := atoms_spec (ws := wsX9_endItem) B.pre
  have hown : s.vm.findClass RX9 = some m.cls := findClass_of_methodNamed B.named
  have hlocks := B.notSynchronized
  have hS : va_S (zA b) s.heap s.heap [] := va_S.rf
  have hl := lv_entry ([.ref (b + h0), .int x1]) (n := 3) (Nat.le_of_ble_eq_true rfl)
  rw [lg_entry_eq]
  generalize (lg_sl ([.ref (b + h0), .int x1]) ++ List.replicate (3 - (lg_sl ([.ref (b + h0), .int x1])).length) Slot.unset).toArray = ls at hl ⊢
  have hl : lv_has ls 3 [(0, .ref (b + h0)), (1, .int x1)] := hl
  have J76 : ∀ (M : Mem) (H : Heap) (locs : List Loc) (ls : Array Slot) (h0 : Nat) (x2 : Int32), fX9_endItem_76  M h0 x2 = some rr → zH D cy b M H → va_S (zA b) s.heap H locs → lv_has ls 3 [(0, .ref (b + h0)), (2, .int x2)] → W p l e (headSpec wsX9_endItem ({ frames := 2, cells := 0, slots := 0, locals := 43 } : Room)).room s m ([.ref (b + h0), .int x1] : List Value).toArray below meth c H locs 0 0 (MQ below (zQi D cy b rr) ([.ref (b + h0), .int x1] : List Value).toArray s 0 0 (zA b)) (F0 m 76 ls []) := by
    intro M H locs ls h0 x2 hf hP hS hl
    unfold fX9_endItem_76 at hf
    refine lv_aload_n hx hb dX9_endItem_76 rfl (lv_at hl 0 rfl) ?_
    obtain ⟨u77, t77, hf⟩ := zb hf
    obtain ⟨M77, e77, hf⟩ := zb hf
    refine zc_v hS (va_runV (As := []) (rest := []) ⟨hx, hb, hml, hown, hts⟩ (k_X9_addItem l D cy b M h0  M77 e77) (cwV 0 hts gX9_endItem_X9_addItem rfl rfl rfl (by decide +kernel) ⟨Nat.le_of_ble_eq_true rfl, Nat.le_of_ble_eq_true rfl⟩) (zp_V _ hK hP t77 (T := TX9) (N := 54) rfl (by decide)) rfl rfl hl.1 rfl (lv_room (Nat.le_of_ble_eq_true rfl)) dX9_endItem_77 ⟨Nat.zero_le _, Nat.zero_le _⟩) (fun H locs hP hS => ?_)
    refine lv_iload_n hx hb dX9_endItem_80 rfl (lv_at hl 1 rfl) ?_
    exact zret_i hx hb hr hlocks hf hP hS dX9_endItem_81
  have J69 : ∀ (M : Mem) (H : Heap) (locs : List Loc) (ls : Array Slot) (h0 : Nat) (x1 : Int32) (g0 : Nat) (y1 : Int32), fX9_endItem_69  M h0 x1 g0 y1 = some rr → zH D cy b M H → va_S (zA b) s.heap H locs → lv_has ls 3 [(0, .ref (b + h0)), (1, .int x1)] → W p l e (headSpec wsX9_endItem ({ frames := 2, cells := 0, slots := 0, locals := 43 } : Room)).room s m ([.ref (b + h0), .int x1] : List Value).toArray below meth c H locs 0 0 (MQ below (zQi D cy b rr) ([.ref (b + h0), .int x1] : List Value).toArray s 0 0 (zA b)) (F0 m 69 ls [.int y1, .ref (b + g0)]) := by
    intro M H locs ls h0 x1 g0 y1 hf hP hS hl
    unfold fX9_endItem_69 at hf
    obtain ⟨M69, e69, hf⟩ := zb hf
    refine zr_pz (ci := 9) (k := 11) (C := RX9) (T := TX9) (N := 54) hx hb hts hi_X9_endItem_9 tyX9 tyX9_ok nmX9 hown hK hP hS e69 rfl rfl (by decide) (by decide) (hts (.fieldLink RX9 164 "BoundaryAnalyzerModel" "itemNull" "Z") (List.mem_of_getElem? (i := 5) rfl)) rfl (tyX9_ok 11 (by decide)) dX9_endItem_69 (fun H locs hP _ hS => ?_)
    refine lv_iload_n hx hb dX9_endItem_72 rfl (lv_at hl 1 rfl) ?_
    refine lv_iconst (v := (1 : Int32)) hx hb dX9_endItem_73 (by decide) ?_
    refine lv_iadd hx hb dX9_endItem_74 ?_
    obtain ⟨x2_75, q75, hf⟩ := zlt_s hf
    refine zt q75 ?_
    refine lv_istore_n (lv' := [(2, .int x2_75), (0, .ref (b + h0)), (1, .int x1)]) hx hb dX9_endItem_75 rfl hl (by decide) rfl (fun ls hl => ?_)
    exact J76 _ _ _ _ _ _ hf hP hS (lv_sub hl [1, 0] rfl)
  have J64 : ∀ (M : Mem) (H : Heap) (locs : List Loc) (ls : Array Slot) (h0 : Nat) (x1 : Int32) (g0 : Nat), fX9_endItem_64  M h0 x1 g0 = some rr → zH D cy b M H → va_S (zA b) s.heap H locs → lv_has ls 3 [(0, .ref (b + h0)), (1, .int x1)] → W p l e (headSpec wsX9_endItem ({ frames := 2, cells := 0, slots := 0, locals := 43 } : Room)).room s m ([.ref (b + h0), .int x1] : List Value).toArray below meth c H locs 0 0 (MQ below (zQi D cy b rr) ([.ref (b + h0), .int x1] : List Value).toArray s 0 0 (zA b)) (F0 m 64 ls [.ref (b + g0)]) := by
    intro M H locs ls h0 x1 g0 hf hP hS hl
    unfold fX9_endItem_64 at hf
    refine lv_iconst (v := (1 : Int32)) hx hb dX9_endItem_64 (by decide) ?_
    refine lv_goto (tgt := 69) hx hb dX9_endItem_65 (by decide) ?_
    exact J69 _ _ _ _ _ _ _ _ hf hP hS (lv_sub hl [0, 1] rfl)
  have J45 : ∀ (M : Mem) (H : Heap) (locs : List Loc) (ls : Array Slot) (h0 : Nat) (x1 : Int32), fX9_endItem_45  M h0 x1 = some rr → zH D cy b M H → va_S (zA b) s.heap H locs → lv_has ls 3 [(0, .ref (b + h0)), (1, .int x1)] → W p l e (headSpec wsX9_endItem ({ frames := 2, cells := 0, slots := 0, locals := 43 } : Room)).room s m ([.ref (b + h0), .int x1] : List Value).toArray below meth c H locs 0 0 (MQ below (zQi D cy b rr) ([.ref (b + h0), .int x1] : List Value).toArray s 0 0 (zA b)) (F0 m 45 ls []) := by
    intro M H locs ls h0 x1 hf hP hS hl
    unfold fX9_endItem_45 at hf
    refine lv_aload_n hx hb dX9_endItem_45 rfl (lv_at hl 0 rfl) ?_
    refine lv_aload_n hx hb dX9_endItem_46 rfl (lv_at hl 0 rfl) ?_
    obtain ⟨v47, e47, hf⟩ := zb hf
    refine zr_gi (ci := 9) (k := 11) (C := RX9) (T := TX9) (N := 54) hx hb hts hi_X9_endItem_9 hown hK hP e47 rfl rfl (by decide) (by decide) (hts (.fieldLink RX9 164 "BoundaryAnalyzerModel" "itemNull" "Z") (List.mem_of_getElem? (i := 5) rfl)) dX9_endItem_47 ?_
    refine lv_if_ne (tgt := 64) hx hb dX9_endItem_50 (by decide) (fun c50 => ?_) (fun c50 => ?_)
    · have hf := (if_neg c50).symm.trans hf
      exact J64 _ _ _ _ _ _ _ hf hP hS (lv_sub hl [0, 1] rfl)
    · have hf := (if_pos c50).symm.trans hf
      refine lv_aload_n hx hb dX9_endItem_53 rfl (lv_at hl 0 rfl) ?_
      obtain ⟨v54, e54, hf⟩ := zb hf
      refine zr_gr (ci := 9) (k := 2) (C := RX9) (T := TX9) (N := 54) hx hb hts hi_X9_endItem_9 hown hK hP e54 rfl rfl (by decide) (by decide) (hts (.fieldLink RX9 13 "BoundaryAnalyzerModel" "pattern" "[C") (List.mem_of_getElem? (i := 2) rfl)) dX9_endItem_54 ?_
      refine lv_iload_n hx hb dX9_endItem_57 rfl (lv_at hl 1 rfl) ?_
      obtain ⟨v58, e58, hf⟩ := zb hf
      refine zr_ac hx hb hK hP e58 dX9_endItem_58 ?_
      refine lv_bipush (v := (43 : Int32)) hx hb dX9_endItem_59 (by decide) ?_
      refine lv_icmp_eq (tgt := 68) hx hb dX9_endItem_61 (by decide) (fun c61 => ?_) (fun c61 => ?_)
      · have hf := (if_pos c61).symm.trans hf
        refine lv_iconst (v := (0 : Int32)) hx hb dX9_endItem_68 (by decide) ?_
        exact J69 _ _ _ _ _ _ _ _ hf hP hS (lv_sub hl [0, 1] rfl)
      · have hf := (if_neg c61).symm.trans hf
        exact J64 _ _ _ _ _ _ _ hf hP hS (lv_sub hl [0, 1] rfl)
  unfold fX9_endItem at hf
  refine lv_iload_n hx hb dX9_endItem_0 rfl (lv_at hl 1 rfl) ?_
  refine lv_istore_n (lv' := [(2, .int x1), (0, .ref (b + h0)), (1, .int x1)]) hx hb dX9_endItem_1 rfl hl (by decide) rfl (fun ls hl => ?_)
  refine lv_iload_n hx hb dX9_endItem_2 rfl (lv_at hl 2 rfl) ?_
  refine lv_aload_n hx hb dX9_endItem_3 rfl (lv_at hl 1 rfl) ?_
  obtain ⟨v4, e4, hf⟩ := zb hf
  refine zr_gi (ci := 9) (k := 1) (C := RX9) (T := TX9) (N := 54) hx hb hts hi_X9_endItem_9 hown hK hP e4 rfl rfl (by decide) (by decide) (hts (.fieldLink RX9 144 "BoundaryAnalyzerModel" "typed" "I") (List.mem_of_getElem? (i := 1) rfl)) dX9_endItem_4 ?_
  refine lv_icmp_ge (tgt := 76) hx hb dX9_endItem_7 (by decide) (fun c7 => ?_) (fun c7 => ?_)
  · have hf := (if_pos c7).symm.trans hf
    exact J76 _ _ _ _ _ _ hf hP hS (lv_sub hl [1, 0] rfl)
  · have hf := (if_neg c7).symm.trans hf
    refine lv_aload_n hx hb dX9_endItem_10 rfl (lv_at hl 1 rfl) ?_
    obtain ⟨v11, e11, hf⟩ := zb hf
    refine zr_gr (ci := 9) (k := 2) (C := RX9) (T := TX9) (N := 54) hx hb hts hi_X9_endItem_9 hown hK hP e11 rfl rfl (by decide) (by decide) (hts (.fieldLink RX9 13 "BoundaryAnalyzerModel" "pattern" "[C") (List.mem_of_getElem? (i := 2) rfl)) dX9_endItem_11 ?_
    refine lv_iload_n hx hb dX9_endItem_14 rfl (lv_at hl 2 rfl) ?_
    obtain ⟨v15, e15, hf⟩ := zb hf
    refine zr_ac hx hb hK hP e15 dX9_endItem_15 ?_
    obtain ⟨v16, e16, hf⟩ := zb hf
    refine zc_p (va_runS (As := [.int v15]) (rest := []) ⟨hx, hb, hml, hown, hts⟩ (k_X9_isRepeat l v15 v16 e16) (va_cwS 1 hts gX9_endItem_X9_isRepeat rfl rfl rfl (by decide +kernel) ⟨Nat.le_of_ble_eq_true rfl, Nat.le_of_ble_eq_true rfl⟩) (zp_p _) rfl rfl hl.1 rfl (lv_room (Nat.le_of_ble_eq_true rfl)) dX9_endItem_16 ⟨Nat.zero_le _, Nat.zero_le _⟩) ?_
    refine lv_if_eq (tgt := 76) hx hb dX9_endItem_19 (by decide) (fun c19 => ?_) (fun c19 => ?_)
    · have hf := (if_pos c19).symm.trans hf
      exact J76 _ _ _ _ _ _ hf hP hS (lv_sub hl [1, 0] rfl)
    · have hf := (if_neg c19).symm.trans hf
      refine lv_aload_n hx hb dX9_endItem_22 rfl (lv_at hl 1 rfl) ?_
      obtain ⟨v23, e23, hf⟩ := zb hf
      refine zr_gr (ci := 9) (k := 2) (C := RX9) (T := TX9) (N := 54) hx hb hts hi_X9_endItem_9 hown hK hP e23 rfl rfl (by decide) (by decide) (hts (.fieldLink RX9 13 "BoundaryAnalyzerModel" "pattern" "[C") (List.mem_of_getElem? (i := 2) rfl)) dX9_endItem_23 ?_
      refine lv_iload_n hx hb dX9_endItem_26 rfl (lv_at hl 2 rfl) ?_
      obtain ⟨v27, e27, hf⟩ := zb hf
      refine zr_ac hx hb hK hP e27 dX9_endItem_27 ?_
      refine lv_bipush (v := (63 : Int32)) hx hb dX9_endItem_28 (by decide) ?_
      refine lv_icmp_eq (tgt := 45) hx hb dX9_endItem_30 (by decide) (fun c30 => ?_) (fun c30 => ?_)
      · have hf := (if_pos c30).symm.trans hf
        exact J45 _ _ _ _ _ _ hf hP hS (lv_sub hl [1, 2] rfl)
      · have hf := (if_neg c30).symm.trans hf
        refine lv_aload_n hx hb dX9_endItem_33 rfl (lv_at hl 1 rfl) ?_
        refine lv_aload_n hx hb dX9_endItem_34 rfl (lv_at hl 1 rfl) ?_
        obtain ⟨v35, e35, hf⟩ := zb hf
        refine zr_gi (ci := 9) (k := 13) (C := RX9) (T := TX9) (N := 54) hx hb hts hi_X9_endItem_9 hown hK hP e35 rfl rfl (by decide) (by decide) (hts (.fieldLink RX9 161 "BoundaryAnalyzerModel" "itemLast" "I") (List.mem_of_getElem? (i := 3) rfl)) dX9_endItem_35 ?_
        refine lv_aload_n hx hb dX9_endItem_38 rfl (lv_at hl 1 rfl) ?_
        obtain ⟨v39, e39, hf⟩ := zb hf
        refine zr_gi (ci := 9) (k := 12) (C := RX9) (T := TX9) (N := 54) hx hb hts hi_X9_endItem_9 hown hK hP e39 rfl rfl (by decide) (by decide) (hts (.fieldLink RX9 154 "BoundaryAnalyzerModel" "itemFirst" "I") (List.mem_of_getElem? (i := 4) rfl)) dX9_endItem_39 ?_
        obtain ⟨u42, t42, hf⟩ := zb hf
        obtain ⟨M42, e42, hf⟩ := zb hf
        refine zc_v hS (va_runV (As := [.int v35, .int v39]) (rest := []) ⟨hx, hb, hml, hown, hts⟩ (k_X9_follows l D cy b M0 h0 v35 v39 M42 e42) (cwV 2 hts gX9_endItem_X9_follows rfl rfl rfl (by decide +kernel) ⟨Nat.le_of_ble_eq_true rfl, Nat.le_of_ble_eq_true rfl⟩) (zp_V _ hK hP t42 (T := TX9) (N := 54) rfl (by decide)) rfl rfl hl.1 rfl (lv_room (Nat.le_of_ble_eq_true rfl)) dX9_endItem_42 ⟨Nat.zero_le _, Nat.zero_le _⟩) (fun H locs hP hS => ?_)
        exact J45 _ _ _ _ _ _ hf hP hS (lv_sub hl [1, 2] rfl)
