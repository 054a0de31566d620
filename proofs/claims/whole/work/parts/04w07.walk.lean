theorem hi_X8_setRule_2 : ∀ w ∈ wsX20, w ∈ wsX8_setRule := fun _ h => List.mem_cons_of_mem _ (List.mem_append_left _ (List.mem_append_left _ (List.mem_append_left _ (List.mem_append_left _ (List.mem_append_right _ h)))))
theorem hi_X8_setRule_4 : ∀ w ∈ wsX40, w ∈ wsX8_setRule := fun _ h => List.mem_cons_of_mem _ (List.mem_append_left _ (List.mem_append_left _ (List.mem_append_left _ (List.mem_append_left _ (List.mem_append_left _ (List.mem_append_right _ h))))))
theorem hi_X8_setRule_5 : ∀ w ∈ wsX50, w ∈ wsX8_setRule := fun _ h => List.mem_cons_of_mem _ (List.mem_append_left _ (List.mem_append_left _ (List.mem_append_left _ (List.mem_append_right _ h))))
theorem hi_X8_setRule_6 : ∀ w ∈ wsX60, w ∈ wsX8_setRule := fun _ h => List.mem_cons_of_mem _ (List.mem_append_left _ (List.mem_append_left _ (List.mem_append_right _ h)))
theorem hi_X8_setRule_8 : ∀ w ∈ wsX80, w ∈ wsX8_setRule := fun _ h => List.mem_cons_of_mem _ (List.mem_append_left _ (List.mem_append_left _ (List.mem_append_left _ (List.mem_append_left _ (List.mem_append_left _ (List.mem_append_left _ (List.mem_append_right _ h)))))))
set_option maxHeartbeats 4000000 in
set_option maxRecDepth 100000 in
theorem k_X8_setRule (l : Launch) (D : va_G) (cy : Nat → ClassId) (b : Nat) (M0 : Mem) (h0 : Nat) (x1 : Int32) (x2 : Int32) (rr : Int32 × Mem) (hf : fX8_setRule M0 h0 x1 x2 = some rr) : Met l yX8_setRule wsX8_setRule ({ frames := 6, cells := 0, slots := 0, locals := 163 } : Room) (zPc D cy b M0 [.ref (b + h0), .int x1, .int x2]) (zQi D cy b rr) 0 0 (zA b) := by
  refine Met.ofW (cc := cX8_setRule) (maxL := 5) (ret := (some .int)) (by decide) rfl ?_
  intro p e s m args below meth c s₁ B hml hv
  obtain ⟨rfl, hP, hK⟩ := hv
  have hx := B.exec
  have hb := B.bytes
  have hr := B.returns
  have hts := atoms_spec (ws := wsX8_setRule) B.pre
  have hown : s.vm.findClass RX8 = some m.cls := findClass_of_methodNamed B.named
  have hlocks := B.notSynchronized
  have hS : va_S (zA b) s.heap s.heap [] := va_S.rf
  have hl := lv_entry ([.ref (b + h0), .int x1, .int x2]) (n := 5) (Nat.le_of_ble_eq_true rfl)
  rw [lg_entry_eq]
  generalize (lg_sl ([.ref (b + h0), .int x1, .int x2]) ++ List.replicate (5 - (lg_sl ([.ref (b + h0), .int x1, .int x2])).length) Slot.unset).toArray = ls at hl ⊢
  have hl : lv_has ls 5 [(0, .ref (b + h0)), (1, .int x1), (2, .int x2)] := hl
  have J118 : ∀ (M : Mem) (H : Heap) (locs : List Loc) (ls : Array Slot) (x4 : Int32), fX8_setRule_118  M x4 = some rr → zH D cy b M H → va_S (zA b) s.heap H locs → lv_has ls 5 [(4, .int x4)] → W p l e (headSpec wsX8_setRule ({ frames := 6, cells := 0, slots := 0, locals := 163 } : Room)).room s m ([.ref (b + h0), .int x1, .int x2] : List Value).toArray below meth c H locs 0 0 (MQ below (zQi D cy b rr) ([.ref (b + h0), .int x1, .int x2] : List Value).toArray s 0 0 (zA b)) (F0 m 118 ls []) := by
    intro M H locs ls x4 hf hP hS hl
    unfold fX8_setRule_118 at hf
    refine lv_iload hx hb dX8_setRule_118 (lv_at hl 0 rfl) ?_
    refine lv_if_eq (tgt := 127) hx hb dX8_setRule_120 (by decide) (fun c120 => ?_) (fun c120 => ?_)
    · have hf := (if_pos c120).symm.trans hf
      refine lv_iconst (v := (0 : Int32)) hx hb dX8_setRule_127 (by decide) ?_
      exact zret_i hx hb hr hlocks hf hP hS dX8_setRule_128
    · have hf := (if_neg c120).symm.trans hf
      refine lv_iconst (v := (1 : Int32)) hx hb dX8_setRule_123 (by decide) ?_
      refine lv_goto (tgt := 128) hx hb dX8_setRule_124 (by decide) ?_
      exact zret_i hx hb hr hlocks hf hP hS dX8_setRule_128
  have J78 : ∀ (M : Mem) (H : Heap) (locs : List Loc) (ls : Array Slot) (h0 : Nat) (x1 : Int32) (h3 : Nat) (x4 : Int32), fX8_setRule_78  M h0 x1 h3 x4 = some rr → zH D cy b M H → va_S (zA b) s.heap H locs → lv_has ls 5 [(0, .ref (b + h0)), (1, .int x1), (3, .ref (b + h3)), (4, .int x4)] → W p l e (headSpec wsX8_setRule ({ frames := 6, cells := 0, slots := 0, locals := 163 } : Room)).room s m ([.ref (b + h0), .int x1, .int x2] : List Value).toArray below meth c H locs 0 0 (MQ below (zQi D cy b rr) ([.ref (b + h0), .int x1, .int x2] : List Value).toArray s 0 0 (zA b)) (F0 m 78 ls []) := by
    intro M H locs ls h0 x1 h3 x4 hf hP hS hl
    unfold fX8_setRule_78 at hf
    refine lv_aload_n hx hb dX8_setRule_78 rfl (lv_at hl 2 rfl) ?_
    obtain ⟨v79, e79, hf⟩ := zb hf
    refine zr_gr (ci := 5) (k := 0) (C := RX5) (T := TX5) (N := 9) hx hb hts hi_X8_setRule_5 hown hK hP e79 rfl rfl (by decide) (by decide) (hts (.fieldLink RX8 98 "BoundaryAnalyzer$Rule" "signs" "LBoundaryAnalyzer$Row;") (List.mem_of_getElem? (i := 5) rfl)) dX8_setRule_79 ?_
    refine lv_aload_n hx hb dX8_setRule_82 rfl (lv_at hl 0 rfl) ?_
    obtain ⟨v83, e83, hf⟩ := zb hf
    refine zr_gr (ci := 8) (k := 1) (C := RX8) (T := TX8) (N := 7) hx hb hts hi_X8_setRule_8 hown hK hP e83 rfl rfl (by decide) (by decide) (hts (.fieldLink RX8 21 "BoundaryAnalyzer" "pattern" "LBoundaryAnalyzer$Row;") (List.mem_of_getElem? (i := 1) rfl)) dX8_setRule_83 ?_
    refine lv_iconst (v := (0 : Int32)) hx hb dX8_setRule_86 (by decide) ?_
    refine lv_aload_n hx hb dX8_setRule_87 rfl (lv_at hl 0 rfl) ?_
    obtain ⟨v88, e88, hf⟩ := zb hf
    refine zr_gr (ci := 8) (k := 1) (C := RX8) (T := TX8) (N := 7) hx hb hts hi_X8_setRule_8 hown hK hP e88 rfl rfl (by decide) (by decide) (hts (.fieldLink RX8 21 "BoundaryAnalyzer" "pattern" "LBoundaryAnalyzer$Row;") (List.mem_of_getElem? (i := 1) rfl)) dX8_setRule_88 ?_
    obtain ⟨v91, e91, hf⟩ := zb hf
    refine zr_gi (ci := 4) (k := 1) (C := RX4) (T := TX4) (N := 2) hx hb hts hi_X8_setRule_4 hown hK hP e91 rfl rfl (by decide) (by decide) (hts (.fieldLink RX8 70 "BoundaryAnalyzer$Row" "size" "I") (List.mem_of_getElem? (i := 2) rfl)) dX8_setRule_91 ?_
    obtain ⟨u94, t94, hf⟩ := zb hf
    obtain ⟨M94, e94, hf⟩ := zb hf
    refine zc_v hS (va_runV (As := [.ref (b + v83), .int (0 : Int32), .int v91]) (rest := []) ⟨hx, hb, hml, hown, hts⟩ (k_X4_become l D cy b M v79 v83 (0 : Int32) v91 M94 e94) (cwV 3 hts gX8_setRule_X4_become rfl rfl rfl (by decide +kernel) ⟨Nat.le_of_ble_eq_true rfl, Nat.le_of_ble_eq_true rfl⟩) (zp_V _ hK hP t94 (T := TX4) (N := 2) rfl (by decide)) rfl rfl hl.1 rfl (lv_room (Nat.le_of_ble_eq_true rfl)) dX8_setRule_94 ⟨Nat.zero_le _, Nat.zero_le _⟩) (fun H locs hP hS => ?_)
    refine lv_aload_n hx hb dX8_setRule_97 rfl (lv_at hl 0 rfl) ?_
    obtain ⟨v98, e98, hf⟩ := zb hf
    refine zr_gr (ci := 8) (k := 3) (C := RX8) (T := TX8) (N := 7) hx hb hts hi_X8_setRule_8 hown hK hP e98 rfl rfl (by decide) (by decide) (hts (.fieldLink RX8 35 "BoundaryAnalyzer" "builder" "LBoundaryAnalyzer$RuleBuilder;") (List.mem_of_getElem? (i := 6) rfl)) dX8_setRule_98 ?_
    refine lv_aload_n hx hb dX8_setRule_101 rfl (lv_at hl 2 rfl) ?_
    obtain ⟨u102, t102, hf⟩ := zb hf
    obtain ⟨M102, e102, hf⟩ := zb hf
    refine zc_v hS (va_runV (As := [.ref (b + h3)]) (rest := []) ⟨hx, hb, hml, hown, hts⟩ (k_X6_build l D cy b M94 v98 h3 M102 e102) (cwV 1 hts gX8_setRule_X6_build rfl rfl rfl (by decide +kernel) ⟨Nat.le_of_ble_eq_true rfl, Nat.le_of_ble_eq_true rfl⟩) (zp_V _ hK hP t102 (T := TX6) (N := 4) rfl (by decide)) rfl rfl hl.1 rfl (lv_room (Nat.le_of_ble_eq_true rfl)) dX8_setRule_102 ⟨Nat.zero_le _, Nat.zero_le _⟩) (fun H locs hP hS => ?_)
    refine lv_aload_n hx hb dX8_setRule_105 rfl (lv_at hl 0 rfl) ?_
    obtain ⟨v106, e106, hf⟩ := zb hf
    refine zr_gr (ci := 8) (k := 2) (C := RX8) (T := TX8) (N := 7) hx hb hts hi_X8_setRule_8 hown hK hP e106 rfl rfl (by decide) (by decide) (hts (.fieldLink RX8 27 "BoundaryAnalyzer" "kinds" "[LBoundaryAnalyzer$Kind;") (List.mem_of_getElem? (i := 3) rfl)) dX8_setRule_106 ?_
    refine lv_iload_n hx hb dX8_setRule_109 rfl (lv_at hl 1 rfl) ?_
    obtain ⟨v110, e110, hf⟩ := zb hf
    refine zr_aa (t0 := 4) hx hb hK hP e110 (by decide) rfl dX8_setRule_110 ?_
    refine lv_aload_n hx hb dX8_setRule_111 rfl (lv_at hl 0 rfl) ?_
    obtain ⟨v112, e112, hf⟩ := zb hf
    refine zr_gr (ci := 8) (k := 0) (C := RX8) (T := TX8) (N := 7) hx hb hts hi_X8_setRule_8 hown hK hP e112 rfl rfl (by decide) (by decide) (hts (.fieldLink RX8 10 "BoundaryAnalyzer" "text" "LBoundaryAnalyzer$Text;") (List.mem_of_getElem? (i := 7) rfl)) dX8_setRule_112 ?_
    obtain ⟨u115, t115, hf⟩ := zb hf
    obtain ⟨M115, e115, hf⟩ := zb hf
    refine zc_v hS (va_runV (As := [.ref (b + v112)]) (rest := []) ⟨hx, hb, hml, hown, hts⟩ (k_X2_analyseAll l D cy b M102 v110 v112 M115 e115) (cwV 1 hts gX8_setRule_X2_analyseAll rfl rfl rfl (by decide +kernel) ⟨Nat.le_of_ble_eq_true rfl, Nat.le_of_ble_eq_true rfl⟩) (zp_V _ hK hP t115 (T := TX2) (N := 5) rfl (by decide)) rfl rfl hl.1 rfl (lv_room (Nat.le_of_ble_eq_true rfl)) dX8_setRule_115 ⟨Nat.zero_le _, Nat.zero_le _⟩) (fun H locs hP hS => ?_)
    exact J118 _ _ _ _ _ hf hP hS (lv_sub hl [3] rfl)
  have J45 : ∀ (M : Mem) (H : Heap) (locs : List Loc) (ls : Array Slot) (h0 : Nat) (x1 : Int32) (x2 : Int32), fX8_setRule_45  M h0 x1 x2 = some rr → zH D cy b M H → va_S (zA b) s.heap H locs → lv_has ls 5 [(0, .ref (b + h0)), (1, .int x1), (2, .int x2)] → W p l e (headSpec wsX8_setRule ({ frames := 6, cells := 0, slots := 0, locals := 163 } : Room)).room s m ([.ref (b + h0), .int x1, .int x2] : List Value).toArray below meth c H locs 0 0 (MQ below (zQi D cy b rr) ([.ref (b + h0), .int x1, .int x2] : List Value).toArray s 0 0 (zA b)) (F0 m 45 ls []) := by
    intro M H locs ls h0 x1 x2 hf hP hS hl
    unfold fX8_setRule_45 at hf
    refine lv_aload_n hx hb dX8_setRule_45 rfl (lv_at hl 0 rfl) ?_
    obtain ⟨v46, e46, hf⟩ := zb hf
    refine zr_gr (ci := 8) (k := 2) (C := RX8) (T := TX8) (N := 7) hx hb hts hi_X8_setRule_8 hown hK hP e46 rfl rfl (by decide) (by decide) (hts (.fieldLink RX8 27 "BoundaryAnalyzer" "kinds" "[LBoundaryAnalyzer$Kind;") (List.mem_of_getElem? (i := 3) rfl)) dX8_setRule_46 ?_
    refine lv_iload_n hx hb dX8_setRule_49 rfl (lv_at hl 1 rfl) ?_
    obtain ⟨v50, e50, hf⟩ := zb hf
    refine zr_aa (t0 := 4) hx hb hK hP e50 (by decide) rfl dX8_setRule_50 ?_
    obtain ⟨v51, e51, hf⟩ := zb hf
    refine zr_gr (ci := 2) (k := 0) (C := RX2) (T := TX2) (N := 5) hx hb hts hi_X8_setRule_2 hown hK hP e51 rfl rfl (by decide) (by decide) (hts (.fieldLink RX8 88 "BoundaryAnalyzer$Kind" "rules" "[LBoundaryAnalyzer$Rule;") (List.mem_of_getElem? (i := 4) rfl)) dX8_setRule_51 ?_
    refine lv_iload_n hx hb dX8_setRule_54 rfl (lv_at hl 2 rfl) ?_
    obtain ⟨v55, e55, hf⟩ := zb hf
    refine zr_aa (t0 := 7) hx hb hK hP e55 (by decide) rfl dX8_setRule_55 ?_
    refine lv_astore_n (lv' := [(3, .ref (b + v55)), (0, .ref (b + h0)), (1, .int x1), (2, .int x2)]) hx hb dX8_setRule_56 rfl hl (by decide) rfl (fun ls hl => ?_)
    refine lv_aload_n hx hb dX8_setRule_57 rfl (lv_at hl 0 rfl) ?_
    obtain ⟨u58, t58, hf⟩ := zb hf
    obtain ⟨r58, e58, hf⟩ := zb hf
    refine zc_i hS (va_runV (As := []) (rest := []) ⟨hx, hb, hml, hown, hts⟩ (k_X5_isSet l D cy b M v55  r58 e58) (cwV 0 hts gX8_setRule_X5_isSet rfl rfl rfl (by decide +kernel) ⟨Nat.le_of_ble_eq_true rfl, Nat.le_of_ble_eq_true rfl⟩) (zp_V _ hK hP t58 (T := TX5) (N := 9) rfl (by decide)) rfl rfl hl.1 rfl (lv_room (Nat.le_of_ble_eq_true rfl)) dX8_setRule_58 ⟨Nat.zero_le _, Nat.zero_le _⟩) (fun H locs hP hS => ?_)
    refine lv_istore (lv' := [(4, .int r58.1), (3, .ref (b + v55)), (0, .ref (b + h0)), (1, .int x1), (2, .int x2)]) hx hb dX8_setRule_61 hl (by decide) rfl (fun ls hl => ?_)
    refine lv_iload hx hb dX8_setRule_63 (lv_at hl 0 rfl) ?_
    refine lv_if_ne (tgt := 78) hx hb dX8_setRule_65 (by decide) (fun c65 => ?_) (fun c65 => ?_)
    · have hf := (if_neg c65).symm.trans hf
      exact J78 _ _ _ _ _ _ _ _ hf hP hS (lv_sub hl [2, 3, 1, 0] rfl)
    · have hf := (if_pos c65).symm.trans hf
      refine lv_aload_n hx hb dX8_setRule_68 rfl (lv_at hl 2 rfl) ?_
      obtain ⟨v69, e69, hf⟩ := zb hf
      refine zr_gr (ci := 8) (k := 1) (C := RX8) (T := TX8) (N := 7) hx hb hts hi_X8_setRule_8 hown hK hP e69 rfl rfl (by decide) (by decide) (hts (.fieldLink RX8 21 "BoundaryAnalyzer" "pattern" "LBoundaryAnalyzer$Row;") (List.mem_of_getElem? (i := 1) rfl)) dX8_setRule_69 ?_
      obtain ⟨v72, e72, hf⟩ := zb hf
      refine zr_gi (ci := 4) (k := 1) (C := RX4) (T := TX4) (N := 2) hx hb hts hi_X8_setRule_4 hown hK hP e72 rfl rfl (by decide) (by decide) (hts (.fieldLink RX8 70 "BoundaryAnalyzer$Row" "size" "I") (List.mem_of_getElem? (i := 2) rfl)) dX8_setRule_72 ?_
      refine lv_if_le (tgt := 118) hx hb dX8_setRule_75 (by decide) (fun c75 => ?_) (fun c75 => ?_)
      · have hf := (if_pos c75).symm.trans hf
        exact J118 _ _ _ _ _ hf hP hS (lv_sub hl [0] rfl)
      · have hf := (if_neg c75).symm.trans hf
        exact J78 _ _ _ _ _ _ _ _ hf hP hS (lv_sub hl [2, 3, 1, 0] rfl)
  unfold fX8_setRule at hf
  refine lv_iload_n hx hb dX8_setRule_0 rfl (lv_at hl 1 rfl) ?_
  obtain ⟨v1, e1, hf⟩ := zb hf
  refine zc_p (va_runS (As := [.int x1]) (rest := []) ⟨hx, hb, hml, hown, hts⟩ (k_X8_isKind l x1 v1 e1) (va_cwS 1 hts gX8_setRule_X8_isKind rfl rfl rfl (by decide +kernel) ⟨Nat.le_of_ble_eq_true rfl, Nat.le_of_ble_eq_true rfl⟩) (zp_p _) rfl rfl hl.1 rfl (lv_room (Nat.le_of_ble_eq_true rfl)) dX8_setRule_1 ⟨Nat.zero_le _, Nat.zero_le _⟩) ?_
  refine lv_if_eq (tgt := 14) hx hb dX8_setRule_4 (by decide) (fun c4 => ?_) (fun c4 => ?_)
  · have hf := (if_pos c4).symm.trans hf
    refine lv_bipush (v := (-2 : Int32)) hx hb dX8_setRule_14 (by decide) ?_
    exact zret_i hx hb hr hlocks hf hP hS dX8_setRule_16
  · have hf := (if_neg c4).symm.trans hf
    refine lv_iload_n hx hb dX8_setRule_7 rfl (lv_at hl 2 rfl) ?_
    obtain ⟨v8, e8, hf⟩ := zb hf
    refine zc_p (va_runS (As := [.int x2]) (rest := []) ⟨hx, hb, hml, hown, hts⟩ (k_X8_isPlace l x2 v8 e8) (va_cwS 1 hts gX8_setRule_X8_isPlace rfl rfl rfl (by decide +kernel) ⟨Nat.le_of_ble_eq_true rfl, Nat.le_of_ble_eq_true rfl⟩) (zp_p _) rfl rfl hl.1 rfl (lv_room (Nat.le_of_ble_eq_true rfl)) dX8_setRule_8 ⟨Nat.zero_le _, Nat.zero_le _⟩) ?_
    refine lv_if_ne (tgt := 17) hx hb dX8_setRule_11 (by decide) (fun c11 => ?_) (fun c11 => ?_)
    · have hf := (if_neg c11).symm.trans hf
      refine lv_aload_n hx hb dX8_setRule_17 rfl (lv_at hl 0 rfl) ?_
      obtain ⟨v18, e18, hf⟩ := zb hf
      refine zr_gr (ci := 8) (k := 1) (C := RX8) (T := TX8) (N := 7) hx hb hts hi_X8_setRule_8 hown hK hP e18 rfl rfl (by decide) (by decide) (hts (.fieldLink RX8 21 "BoundaryAnalyzer" "pattern" "LBoundaryAnalyzer$Row;") (List.mem_of_getElem? (i := 1) rfl)) dX8_setRule_18 ?_
      obtain ⟨v21, e21, hf⟩ := zb hf
      refine zr_gi (ci := 4) (k := 1) (C := RX4) (T := TX4) (N := 2) hx hb hts hi_X8_setRule_4 hown hK hP e21 rfl rfl (by decide) (by decide) (hts (.fieldLink RX8 70 "BoundaryAnalyzer$Row" "size" "I") (List.mem_of_getElem? (i := 2) rfl)) dX8_setRule_21 ?_
      refine lv_if_le (tgt := 45) hx hb dX8_setRule_24 (by decide) (fun c24 => ?_) (fun c24 => ?_)
      · have hf := (if_pos c24).symm.trans hf
        exact J45 _ _ _ _ _ _ _ hf hP hS (lv_sub hl [0, 1, 2] rfl)
      · have hf := (if_neg c24).symm.trans hf
        refine lv_aload_n hx hb dX8_setRule_27 rfl (lv_at hl 0 rfl) ?_
        obtain ⟨v28, e28, hf⟩ := zb hf
        refine zr_gr (ci := 8) (k := 1) (C := RX8) (T := TX8) (N := 7) hx hb hts hi_X8_setRule_8 hown hK hP e28 rfl rfl (by decide) (by decide) (hts (.fieldLink RX8 21 "BoundaryAnalyzer" "pattern" "LBoundaryAnalyzer$Row;") (List.mem_of_getElem? (i := 1) rfl)) dX8_setRule_28 ?_
        obtain ⟨r31, e31, hf⟩ := zb hf
        refine zc_i hS (va_runS (As := [.ref (b + v28)]) (rest := []) ⟨hx, hb, hml, hown, hts⟩ (k_X8_faultOf l D cy b M0  v28 r31 e31) (va_cwS 1 hts gX8_setRule_X8_faultOf rfl rfl rfl (by decide +kernel) ⟨Nat.le_of_ble_eq_true rfl, Nat.le_of_ble_eq_true rfl⟩) (zp_S _ hK hP) rfl rfl hl.1 rfl (lv_room (Nat.le_of_ble_eq_true rfl)) dX8_setRule_31 ⟨Nat.zero_le _, Nat.zero_le _⟩) (fun H locs hP hS => ?_)
        refine lv_istore_n (lv' := [(3, .int r31.1), (0, .ref (b + h0)), (1, .int x1), (2, .int x2)]) hx hb dX8_setRule_34 rfl hl (by decide) rfl (fun ls hl => ?_)
        refine lv_iload_n hx hb dX8_setRule_35 rfl (lv_at hl 0 rfl) ?_
        refine lv_iconst (v := (-1 : Int32)) hx hb dX8_setRule_36 (by decide) ?_
        refine lv_icmp_eq (tgt := 45) hx hb dX8_setRule_37 (by decide) (fun c37 => ?_) (fun c37 => ?_)
        · have hf := (if_pos c37).symm.trans hf
          exact J45 _ _ _ _ _ _ _ hf hP hS (lv_sub hl [1, 2, 3] rfl)
        · have hf := (if_neg c37).symm.trans hf
          refine lv_bipush (v := (-100 : Int32)) hx hb dX8_setRule_40 (by decide) ?_
          refine lv_iload_n hx hb dX8_setRule_42 rfl (lv_at hl 0 rfl) ?_
          refine lv_isub hx hb dX8_setRule_43 ?_
          exact zret_i hx hb hr hlocks hf hP hS dX8_setRule_44
    · have hf := (if_pos c11).symm.trans hf
      refine lv_bipush (v := (-2 : Int32)) hx hb dX8_setRule_14 (by decide) ?_
      exact zret_i hx hb hr hlocks hf hP hS dX8_setRule_16
theorem hi_X8_ruleText_2 : ∀ w ∈ wsX20, w ∈ wsX8_ruleText := fun _ h => List.mem_cons_of_mem _ (List.mem_append_left _ (List.mem_append_left _ (List.mem_append_right _ h)))
theorem hi_X8_ruleText_4 : ∀ w ∈ wsX40, w ∈ wsX8_ruleText := fun _ h => List.mem_cons_of_mem _ (List.mem_append_right _ h)
theorem hi_X8_ruleText_5 : ∀ w ∈ wsX50, w ∈ wsX8_ruleText := fun _ h => List.mem_cons_of_mem _ (List.mem_append_left _ (List.mem_append_right _ h))
theorem hi_X8_ruleText_8 : ∀ w ∈ wsX80, w ∈ wsX8_ruleText := fun _ h => List.mem_cons_of_mem _ (List.mem_append_left _ (List.mem_append_left _ (List.mem_append_left _ (List.mem_append_right _ h))))
set_option maxHeartbeats 4000000 in
set_option maxRecDepth 100000 in
theorem k_X8_ruleText (l : Launch) (D : va_G) (cy : Nat → ClassId) (b : Nat) (M0 : Mem) (h0 : Nat) (x1 : Int32) (x2 : Int32) (x3 : Int32) (rr : Int32 × Mem) (hf : fX8_ruleText M0 h0 x1 x2 x3 = some rr) : Met l yX8_ruleText wsX8_ruleText ({ frames := 1, cells := 0, slots := 0, locals := 21 } : Room) (zPc D cy b M0 [.ref (b + h0), .int x1, .int x2, .int x3]) (zQi D cy b rr) 0 0 (zA b) := by
  refine Met.ofW (cc := cX8_ruleText) (maxL := 5) (ret := (some .int)) (by decide) rfl ?_
  intro p e s m args below meth c s₁ B hml hv
  obtain ⟨rfl, hP, hK⟩ := hv
  have hx := B.exec
  have hb := B.bytes
  have hr := B.returns
  have hts := atoms_spec (ws := wsX8_ruleText) B.pre
  have hown : s.vm.findClass RX8 = some m.cls := findClass_of_methodNamed B.named
  have hlocks := B.notSynchronized
  have hS : va_S (zA b) s.heap s.heap [] := va_S.rf
  have hl := lv_entry ([.ref (b + h0), .int x1, .int x2, .int x3]) (n := 5) (Nat.le_of_ble_eq_true rfl)
  rw [lg_entry_eq]
  generalize (lg_sl ([.ref (b + h0), .int x1, .int x2, .int x3]) ++ List.replicate (5 - (lg_sl ([.ref (b + h0), .int x1, .int x2, .int x3])).length) Slot.unset).toArray = ls at hl ⊢
  have hl : lv_has ls 5 [(0, .ref (b + h0)), (1, .int x1), (2, .int x2), (3, .int x3)] := hl
  unfold fX8_ruleText at hf
  refine lv_iload_n hx hb dX8_ruleText_0 rfl (lv_at hl 1 rfl) ?_
  obtain ⟨v1, e1, hf⟩ := zb hf
  refine zc_p (va_runS (As := [.int x1]) (rest := []) ⟨hx, hb, hml, hown, hts⟩ (k_X8_isKind l x1 v1 e1) (va_cwS 1 hts gX8_ruleText_X8_isKind rfl rfl rfl (by decide +kernel) ⟨Nat.le_of_ble_eq_true rfl, Nat.le_of_ble_eq_true rfl⟩) (zp_p _) rfl rfl hl.1 rfl (lv_room (Nat.le_of_ble_eq_true rfl)) dX8_ruleText_1 ⟨Nat.zero_le _, Nat.zero_le _⟩) ?_
  refine lv_if_eq (tgt := 18) hx hb dX8_ruleText_4 (by decide) (fun c4 => ?_) (fun c4 => ?_)
  · have hf := (if_pos c4).symm.trans hf
    refine lv_bipush (v := (-2 : Int32)) hx hb dX8_ruleText_18 (by decide) ?_
    exact zret_i hx hb hr hlocks hf hP hS dX8_ruleText_20
  · have hf := (if_neg c4).symm.trans hf
    refine lv_iload_n hx hb dX8_ruleText_7 rfl (lv_at hl 2 rfl) ?_
    obtain ⟨v8, e8, hf⟩ := zb hf
    refine zc_p (va_runS (As := [.int x2]) (rest := []) ⟨hx, hb, hml, hown, hts⟩ (k_X8_isPlace l x2 v8 e8) (va_cwS 1 hts gX8_ruleText_X8_isPlace rfl rfl rfl (by decide +kernel) ⟨Nat.le_of_ble_eq_true rfl, Nat.le_of_ble_eq_true rfl⟩) (zp_p _) rfl rfl hl.1 rfl (lv_room (Nat.le_of_ble_eq_true rfl)) dX8_ruleText_8 ⟨Nat.zero_le _, Nat.zero_le _⟩) ?_
    refine lv_if_eq (tgt := 18) hx hb dX8_ruleText_11 (by decide) (fun c11 => ?_) (fun c11 => ?_)
    · have hf := (if_pos c11).symm.trans hf
      refine lv_bipush (v := (-2 : Int32)) hx hb dX8_ruleText_18 (by decide) ?_
      exact zret_i hx hb hr hlocks hf hP hS dX8_ruleText_20
    · have hf := (if_neg c11).symm.trans hf
      refine lv_iload_n hx hb dX8_ruleText_14 rfl (lv_at hl 3 rfl) ?_
      refine lv_if_ge (tgt := 21) hx hb dX8_ruleText_15 (by decide) (fun c15 => ?_) (fun c15 => ?_)
      · have hf := (if_pos c15).symm.trans hf
        refine lv_aload_n hx hb dX8_ruleText_21 rfl (lv_at hl 0 rfl) ?_
        obtain ⟨v22, e22, hf⟩ := zb hf
        refine zr_gr (ci := 8) (k := 2) (C := RX8) (T := TX8) (N := 7) hx hb hts hi_X8_ruleText_8 hown hK hP e22 rfl rfl (by decide) (by decide) (hts (.fieldLink RX8 27 "BoundaryAnalyzer" "kinds" "[LBoundaryAnalyzer$Kind;") (List.mem_of_getElem? (i := 1) rfl)) dX8_ruleText_22 ?_
        refine lv_iload_n hx hb dX8_ruleText_25 rfl (lv_at hl 1 rfl) ?_
        obtain ⟨v26, e26, hf⟩ := zb hf
        refine zr_aa (t0 := 4) hx hb hK hP e26 (by decide) rfl dX8_ruleText_26 ?_
        obtain ⟨v27, e27, hf⟩ := zb hf
        refine zr_gr (ci := 2) (k := 0) (C := RX2) (T := TX2) (N := 5) hx hb hts hi_X8_ruleText_2 hown hK hP e27 rfl rfl (by decide) (by decide) (hts (.fieldLink RX8 88 "BoundaryAnalyzer$Kind" "rules" "[LBoundaryAnalyzer$Rule;") (List.mem_of_getElem? (i := 2) rfl)) dX8_ruleText_27 ?_
        refine lv_iload_n hx hb dX8_ruleText_30 rfl (lv_at hl 2 rfl) ?_
        obtain ⟨v31, e31, hf⟩ := zb hf
        refine zr_aa (t0 := 7) hx hb hK hP e31 (by decide) rfl dX8_ruleText_31 ?_
        obtain ⟨v32, e32, hf⟩ := zb hf
        refine zr_gr (ci := 5) (k := 0) (C := RX5) (T := TX5) (N := 9) hx hb hts hi_X8_ruleText_5 hown hK hP e32 rfl rfl (by decide) (by decide) (hts (.fieldLink RX8 98 "BoundaryAnalyzer$Rule" "signs" "LBoundaryAnalyzer$Row;") (List.mem_of_getElem? (i := 3) rfl)) dX8_ruleText_32 ?_
        refine lv_astore (lv' := [(4, .ref (b + v32)), (0, .ref (b + h0)), (1, .int x1), (2, .int x2), (3, .int x3)]) hx hb dX8_ruleText_35 hl (by decide) rfl (fun ls hl => ?_)
        refine lv_iload_n hx hb dX8_ruleText_37 rfl (lv_at hl 4 rfl) ?_
        refine lv_aload hx hb dX8_ruleText_38 (lv_at hl 0 rfl) ?_
        obtain ⟨v40, e40, hf⟩ := zb hf
        refine zr_gi (ci := 4) (k := 1) (C := RX4) (T := TX4) (N := 2) hx hb hts hi_X8_ruleText_4 hown hK hP e40 rfl rfl (by decide) (by decide) (hts (.fieldLink RX8 70 "BoundaryAnalyzer$Row" "size" "I") (List.mem_of_getElem? (i := 4) rfl)) dX8_ruleText_40 ?_
        refine lv_icmp_ge (tgt := 55) hx hb dX8_ruleText_43 (by decide) (fun c43 => ?_) (fun c43 => ?_)
        · have hf := (if_pos c43).symm.trans hf
          refine lv_bipush (v := (-5 : Int32)) hx hb dX8_ruleText_55 (by decide) ?_
          exact zret_i hx hb hr hlocks hf hP hS dX8_ruleText_57
        · have hf := (if_neg c43).symm.trans hf
          refine lv_aload hx hb dX8_ruleText_46 (lv_at hl 0 rfl) ?_
          refine lv_iload_n hx hb dX8_ruleText_48 rfl (lv_at hl 4 rfl) ?_
          obtain ⟨u49, t49, hf⟩ := zb hf
          obtain ⟨r49, e49, hf⟩ := zb hf
          refine zc_i hS (va_runV (As := [.int x3]) (rest := []) ⟨hx, hb, hml, hown, hts⟩ (k_X4_at l D cy b M0 v32 x3 r49 e49) (cwV 1 hts gX8_ruleText_X4_at rfl rfl rfl (by decide +kernel) ⟨Nat.le_of_ble_eq_true rfl, Nat.le_of_ble_eq_true rfl⟩) (zp_V _ hK hP t49 (T := TX4) (N := 2) rfl (by decide)) rfl rfl hl.1 rfl (lv_room (Nat.le_of_ble_eq_true rfl)) dX8_ruleText_49 ⟨Nat.zero_le _, Nat.zero_le _⟩) (fun H locs hP hS => ?_)
          refine lv_goto (tgt := 57) hx hb dX8_ruleText_52 (by decide) ?_
          exact zret_i hx hb hr hlocks hf hP hS dX8_ruleText_57
      · have hf := (if_neg c15).symm.trans hf
        refine lv_bipush (v := (-2 : Int32)) hx hb dX8_ruleText_18 (by decide) ?_
        exact zret_i hx hb hr hlocks hf hP hS dX8_ruleText_20
theorem hi_X8_isPosition_4 : ∀ w ∈ wsX40, w ∈ wsX8_isPosition := fun _ h => List.mem_cons_of_mem _ (List.mem_append_right _ h)
theorem hi_X8_isPosition_7 : ∀ w ∈ wsX70, w ∈ wsX8_isPosition := fun _ h => List.mem_cons_of_mem _ (List.mem_append_left _ (List.mem_append_right _ h))
theorem hi_X8_isPosition_8 : ∀ w ∈ wsX80, w ∈ wsX8_isPosition := fun _ h => List.mem_cons_of_mem _ (List.mem_append_left _ (List.mem_append_left _ (List.mem_append_right _ h)))
set_option maxHeartbeats 4000000 in
set_option maxRecDepth 100000 in
theorem k_X8_isPosition (l : Launch) (D : va_G) (cy : Nat → ClassId) (b : Nat) (M0 : Mem) (h0 : Nat) (x1 : Int32) (rr : Int32 × Mem) (hf : fX8_isPosition M0 h0 x1 = some rr) : Met l yX8_isPosition wsX8_isPosition ({ frames := 0, cells := 0, slots := 0, locals := 0 } : Room) (zPc D cy b M0 [.ref (b + h0), .int x1]) (zQi D cy b rr) 0 0 (zA b) := by
  refine Met.ofW (cc := cX8_isPosition) (maxL := 2) (ret := (some .boolean)) (by decide) rfl ?_
  intro p e s m args below meth c s₁ B hml hv
  obtain ⟨rfl, hP, hK⟩ := hv
  have hx := B.exec
  have hb := B.bytes
  have hr := B.returns
  have hts := atoms_spec (ws := wsX8_isPosition) B.pre
  have hown : s.vm.findClass RX8 = some m.cls := findClass_of_methodNamed B.named
  have hlocks := B.notSynchronized
  have hS : va_S (zA b) s.heap s.heap [] := va_S.rf
  have hl := lv_entry ([.ref (b + h0), .int x1]) (n := 2) (Nat.le_of_ble_eq_true rfl)
  rw [lg_entry_eq]
  generalize (lg_sl ([.ref (b + h0), .int x1]) ++ List.replicate (2 - (lg_sl ([.ref (b + h0), .int x1])).length) Slot.unset).toArray = ls at hl ⊢
  have hl : lv_has ls 2 [(0, .ref (b + h0)), (1, .int x1)] := hl
  unfold fX8_isPosition at hf
  refine lv_iload_n hx hb dX8_isPosition_0 rfl (lv_at hl 1 rfl) ?_
  refine lv_if_lt (tgt := 22) hx hb dX8_isPosition_1 (by decide) (fun c1 => ?_) (fun c1 => ?_)
  · have hf := (if_pos c1).symm.trans hf
    refine lv_iconst (v := (0 : Int32)) hx hb dX8_isPosition_22 (by decide) ?_
    exact zret_z hx hb hr (Or.inl rfl) hlocks hf hP hS dX8_isPosition_23
  · have hf := (if_neg c1).symm.trans hf
    refine lv_iload_n hx hb dX8_isPosition_4 rfl (lv_at hl 1 rfl) ?_
    refine lv_aload_n hx hb dX8_isPosition_5 rfl (lv_at hl 0 rfl) ?_
    obtain ⟨v6, e6, hf⟩ := zb hf
    refine zr_gr (ci := 8) (k := 0) (C := RX8) (T := TX8) (N := 7) hx hb hts hi_X8_isPosition_8 hown hK hP e6 rfl rfl (by decide) (by decide) (hts (.fieldLink RX8 10 "BoundaryAnalyzer" "text" "LBoundaryAnalyzer$Text;") (List.mem_of_getElem? (i := 1) rfl)) dX8_isPosition_6 ?_
    obtain ⟨v9, e9, hf⟩ := zb hf
    refine zr_gr (ci := 7) (k := 0) (C := RX7) (T := TX7) (N := 2) hx hb hts hi_X8_isPosition_7 hown hK hP e9 rfl rfl (by decide) (by decide) (hts (.fieldLink RX8 134 "BoundaryAnalyzer$Text" "signs" "LBoundaryAnalyzer$Row;") (List.mem_of_getElem? (i := 2) rfl)) dX8_isPosition_9 ?_
    obtain ⟨v12, e12, hf⟩ := zb hf
    refine zr_gi (ci := 4) (k := 1) (C := RX4) (T := TX4) (N := 2) hx hb hts hi_X8_isPosition_4 hown hK hP e12 rfl rfl (by decide) (by decide) (hts (.fieldLink RX8 70 "BoundaryAnalyzer$Row" "size" "I") (List.mem_of_getElem? (i := 3) rfl)) dX8_isPosition_12 ?_
    refine lv_icmp_gt (tgt := 22) hx hb dX8_isPosition_15 (by decide) (fun c15 => ?_) (fun c15 => ?_)
    · have hf := (if_pos c15).symm.trans hf
      refine lv_iconst (v := (0 : Int32)) hx hb dX8_isPosition_22 (by decide) ?_
      exact zret_z hx hb hr (Or.inl rfl) hlocks hf hP hS dX8_isPosition_23
    · have hf := (if_neg c15).symm.trans hf
      refine lv_iconst (v := (1 : Int32)) hx hb dX8_isPosition_18 (by decide) ?_
      refine lv_goto (tgt := 23) hx hb dX8_isPosition_19 (by decide) ?_
      exact zret_z hx hb hr (Or.inl rfl) hlocks hf hP hS dX8_isPosition_23
theorem hi_X8_matchLength_2 : ∀ w ∈ wsX20, w ∈ wsX8_matchLength := fun _ h => List.mem_cons_of_mem _ (List.mem_append_left _ (List.mem_append_left _ (List.mem_append_left _ (List.mem_append_left _ (List.mem_append_right _ h)))))
theorem hi_X8_matchLength_5 : ∀ w ∈ wsX50, w ∈ wsX8_matchLength := fun _ h => List.mem_cons_of_mem _ (List.mem_append_left _ (List.mem_append_left _ (List.mem_append_left _ (List.mem_append_right _ h))))
theorem hi_X8_matchLength_8 : ∀ w ∈ wsX80, w ∈ wsX8_matchLength := fun _ h => List.mem_cons_of_mem _ (List.mem_append_left _ (List.mem_append_left _ (List.mem_append_left _ (List.mem_append_left _ (List.mem_append_left _ (List.mem_append_right _ h))))))
set_option maxHeartbeats 4000000 in
set_option maxRecDepth 100000 in
theorem k_X8_matchLength (l : Launch) (D : va_G) (cy : Nat → ClassId) (b : Nat) (M0 : Mem) (h0 : Nat) (x1 : Int32) (x2 : Int32) (x3 : Int32) (rr : Int32 × Mem) (hf : fX8_matchLength M0 h0 x1 x2 x3 = some rr) : Met l yX8_matchLength wsX8_matchLength ({ frames := 3, cells := 0, slots := 0, locals := 92 } : Room) (zPc D cy b M0 [.ref (b + h0), .int x1, .int x2, .int x3]) (zQi D cy b rr) 0 0 (zA b) := by
  refine Met.ofW (cc := cX8_matchLength) (maxL := 5) (ret := (some .int)) (by decide) rfl ?_
  intro p e s m args below meth c s₁ B hml hv
  obtain ⟨rfl, hP, hK⟩ := hv
  have hx := B.exec
  have hb := B.bytes
  have hr := B.returns
  have hts := atoms_spec (ws := wsX8_matchLength) B.pre
  have hown : s.vm.findClass RX8 = some m.cls := findClass_of_methodNamed B.named
  have hlocks := B.notSynchronized
  have hS : va_S (zA b) s.heap s.heap [] := va_S.rf
  have hl := lv_entry ([.ref (b + h0), .int x1, .int x2, .int x3]) (n := 5) (Nat.le_of_ble_eq_true rfl)
  rw [lg_entry_eq]
  generalize (lg_sl ([.ref (b + h0), .int x1, .int x2, .int x3]) ++ List.replicate (5 - (lg_sl ([.ref (b + h0), .int x1, .int x2, .int x3])).length) Slot.unset).toArray = ls at hl ⊢
  have hl : lv_has ls 5 [(0, .ref (b + h0)), (1, .int x1), (2, .int x2), (3, .int x3)] := hl
  unfold fX8_matchLength at hf
  refine lv_iload_n hx hb dX8_matchLength_0 rfl (lv_at hl 1 rfl) ?_
  obtain ⟨v1, e1, hf⟩ := zb hf
  refine zc_p (va_runS (As := [.int x1]) (rest := []) ⟨hx, hb, hml, hown, hts⟩ (k_X8_isKind l x1 v1 e1) (va_cwS 1 hts gX8_matchLength_X8_isKind rfl rfl rfl (by decide +kernel) ⟨Nat.le_of_ble_eq_true rfl, Nat.le_of_ble_eq_true rfl⟩) (zp_p _) rfl rfl hl.1 rfl (lv_room (Nat.le_of_ble_eq_true rfl)) dX8_matchLength_1 ⟨Nat.zero_le _, Nat.zero_le _⟩) ?_
  refine lv_if_eq (tgt := 14) hx hb dX8_matchLength_4 (by decide) (fun c4 => ?_) (fun c4 => ?_)
  · have hf := (if_pos c4).symm.trans hf
    refine lv_bipush (v := (-2 : Int32)) hx hb dX8_matchLength_14 (by decide) ?_
    exact zret_i hx hb hr hlocks hf hP hS dX8_matchLength_16
  · have hf := (if_neg c4).symm.trans hf
    refine lv_iload_n hx hb dX8_matchLength_7 rfl (lv_at hl 2 rfl) ?_
    obtain ⟨v8, e8, hf⟩ := zb hf
    refine zc_p (va_runS (As := [.int x2]) (rest := []) ⟨hx, hb, hml, hown, hts⟩ (k_X8_isPlace l x2 v8 e8) (va_cwS 1 hts gX8_matchLength_X8_isPlace rfl rfl rfl (by decide +kernel) ⟨Nat.le_of_ble_eq_true rfl, Nat.le_of_ble_eq_true rfl⟩) (zp_p _) rfl rfl hl.1 rfl (lv_room (Nat.le_of_ble_eq_true rfl)) dX8_matchLength_8 ⟨Nat.zero_le _, Nat.zero_le _⟩) ?_
    refine lv_if_ne (tgt := 17) hx hb dX8_matchLength_11 (by decide) (fun c11 => ?_) (fun c11 => ?_)
    · have hf := (if_neg c11).symm.trans hf
      refine lv_aload_n hx hb dX8_matchLength_17 rfl (lv_at hl 0 rfl) ?_
      refine lv_iload_n hx hb dX8_matchLength_18 rfl (lv_at hl 3 rfl) ?_
      obtain ⟨u19, t19, hf⟩ := zb hf
      obtain ⟨r19, e19, hf⟩ := zb hf
      refine zc_i hS (va_runV (As := [.int x3]) (rest := []) ⟨hx, hb, hml, hown, hts⟩ (k_X8_isPosition l D cy b M0 h0 x3 r19 e19) (cwV 1 hts gX8_matchLength_X8_isPosition rfl rfl rfl (by decide +kernel) ⟨Nat.le_of_ble_eq_true rfl, Nat.le_of_ble_eq_true rfl⟩) (zp_V _ hK hP t19 (T := TX8) (N := 7) rfl (by decide)) rfl rfl hl.1 rfl (lv_room (Nat.le_of_ble_eq_true rfl)) dX8_matchLength_19 ⟨Nat.zero_le _, Nat.zero_le _⟩) (fun H locs hP hS => ?_)
      refine lv_if_ne (tgt := 27) hx hb dX8_matchLength_22 (by decide) (fun c22 => ?_) (fun c22 => ?_)
      · have hf := (if_neg c22).symm.trans hf
        refine lv_aload_n hx hb dX8_matchLength_27 rfl (lv_at hl 0 rfl) ?_
        obtain ⟨v28, e28, hf⟩ := zb hf
        refine zr_gr (ci := 8) (k := 2) (C := RX8) (T := TX8) (N := 7) hx hb hts hi_X8_matchLength_8 hown hK hP e28 rfl rfl (by decide) (by decide) (hts (.fieldLink RX8 27 "BoundaryAnalyzer" "kinds" "[LBoundaryAnalyzer$Kind;") (List.mem_of_getElem? (i := 1) rfl)) dX8_matchLength_28 ?_
        refine lv_iload_n hx hb dX8_matchLength_31 rfl (lv_at hl 1 rfl) ?_
        obtain ⟨v32, e32, hf⟩ := zb hf
        refine zr_aa (t0 := 4) hx hb hK hP e32 (by decide) rfl dX8_matchLength_32 ?_
        obtain ⟨v33, e33, hf⟩ := zb hf
        refine zr_gr (ci := 2) (k := 0) (C := RX2) (T := TX2) (N := 5) hx hb hts hi_X8_matchLength_2 hown hK hP e33 rfl rfl (by decide) (by decide) (hts (.fieldLink RX8 88 "BoundaryAnalyzer$Kind" "rules" "[LBoundaryAnalyzer$Rule;") (List.mem_of_getElem? (i := 2) rfl)) dX8_matchLength_33 ?_
        refine lv_iload_n hx hb dX8_matchLength_36 rfl (lv_at hl 2 rfl) ?_
        obtain ⟨v37, e37, hf⟩ := zb hf
        refine zr_aa (t0 := 7) hx hb hK hP e37 (by decide) rfl dX8_matchLength_37 ?_
        refine lv_astore (lv' := [(4, .ref (b + v37)), (0, .ref (b + h0)), (1, .int x1), (2, .int x2), (3, .int x3)]) hx hb dX8_matchLength_38 hl (by decide) rfl (fun ls hl => ?_)
        refine lv_aload hx hb dX8_matchLength_40 (lv_at hl 0 rfl) ?_
        obtain ⟨u42, t42, hf⟩ := zb hf
        obtain ⟨r42, e42, hf⟩ := zb hf
        refine zc_i hS (va_runV (As := []) (rest := []) ⟨hx, hb, hml, hown, hts⟩ (k_X5_isSet l D cy b r19.2 v37  r42 e42) (cwV 0 hts gX8_matchLength_X5_isSet rfl rfl rfl (by decide +kernel) ⟨Nat.le_of_ble_eq_true rfl, Nat.le_of_ble_eq_true rfl⟩) (zp_V _ hK hP t42 (T := TX5) (N := 9) rfl (by decide)) rfl rfl hl.1 rfl (lv_room (Nat.le_of_ble_eq_true rfl)) dX8_matchLength_42 ⟨Nat.zero_le _, Nat.zero_le _⟩) (fun H locs hP hS => ?_)
        refine lv_if_ne (tgt := 51) hx hb dX8_matchLength_45 (by decide) (fun c45 => ?_) (fun c45 => ?_)
        · have hf := (if_neg c45).symm.trans hf
          refine lv_aload hx hb dX8_matchLength_51 (lv_at hl 0 rfl) ?_
          refine lv_aload_n hx hb dX8_matchLength_53 rfl (lv_at hl 1 rfl) ?_
          obtain ⟨v54, e54, hf⟩ := zb hf
          refine zr_gr (ci := 8) (k := 0) (C := RX8) (T := TX8) (N := 7) hx hb hts hi_X8_matchLength_8 hown hK hP e54 rfl rfl (by decide) (by decide) (hts (.fieldLink RX8 10 "BoundaryAnalyzer" "text" "LBoundaryAnalyzer$Text;") (List.mem_of_getElem? (i := 3) rfl)) dX8_matchLength_54 ?_
          refine lv_iload_n hx hb dX8_matchLength_57 rfl (lv_at hl 4 rfl) ?_
          obtain ⟨u58, t58, hf⟩ := zb hf
          obtain ⟨M58, e58, hf⟩ := zb hf
          refine zc_v hS (va_runV (As := [.ref (b + v54), .int x3]) (rest := []) ⟨hx, hb, hml, hown, hts⟩ (k_X5_walk l D cy b r42.2 v37 v54 x3 M58 e58) (cwV 2 hts gX8_matchLength_X5_walk rfl rfl rfl (by decide +kernel) ⟨Nat.le_of_ble_eq_true rfl, Nat.le_of_ble_eq_true rfl⟩) (zp_V _ hK hP t58 (T := TX5) (N := 9) rfl (by decide)) rfl rfl hl.1 rfl (lv_room (Nat.le_of_ble_eq_true rfl)) dX8_matchLength_58 ⟨Nat.zero_le _, Nat.zero_le _⟩) (fun H locs hP hS => ?_)
          refine lv_aload hx hb dX8_matchLength_61 (lv_at hl 0 rfl) ?_
          obtain ⟨v63, e63, hf⟩ := zb hf
          refine zr_gi (ci := 5) (k := 7) (C := RX5) (T := TX5) (N := 9) hx hb hts hi_X8_matchLength_5 hown hK hP e63 rfl rfl (by decide) (by decide) (hts (.fieldLink RX8 120 "BoundaryAnalyzer$Rule" "matched" "I") (List.mem_of_getElem? (i := 4) rfl)) dX8_matchLength_63 ?_
          exact zret_i hx hb hr hlocks hf hP hS dX8_matchLength_66
        · have hf := (if_pos c45).symm.trans hf
          refine lv_bipush (v := (-5 : Int32)) hx hb dX8_matchLength_48 (by decide) ?_
          exact zret_i hx hb hr hlocks hf hP hS dX8_matchLength_50
      · have hf := (if_pos c22).symm.trans hf
        refine lv_iconst (v := (-1 : Int32)) hx hb dX8_matchLength_25 (by decide) ?_
        exact zret_i hx hb hr hlocks hf hP hS dX8_matchLength_26
    · have hf := (if_pos c11).symm.trans hf
      refine lv_bipush (v := (-2 : Int32)) hx hb dX8_matchLength_14 (by decide) ?_
      exact zret_i hx hb hr hlocks hf hP hS dX8_matchLength_16
theorem hi_X8_isExceptionWord_4 : ∀ w ∈ wsX40, w ∈ wsX8_isExceptionWord := fun _ h => List.mem_cons_of_mem _ (List.mem_append_right _ h)
set_option maxHeartbeats 4000000 in
set_option maxRecDepth 100000 in
theorem k_X8_isExceptionWord (l : Launch) (D : va_G) (cy : Nat → ClassId) (b : Nat) (M0 : Mem) (h0 : Nat) (rr : Int32 × Mem) (hf : fX8_isExceptionWord M0 h0 = some rr) : Met l yX8_isExceptionWord wsX8_isExceptionWord ({ frames := 1, cells := 0, slots := 0, locals := 21 } : Room) (zPc D cy b M0 [.ref (b + h0)]) (zQi D cy b rr) 0 0 (zA b) := by
  refine Met.ofW (cc := cX8_isExceptionWord) (maxL := 2) (ret := (some .boolean)) (by decide) rfl ?_
  intro p e s m args below meth c s₁ B hml hv
  obtain ⟨rfl, hP, hK⟩ := hv
  have hx := B.exec
  have hb := B.bytes
  have hr := B.returns
  have hts := atoms_spec (ws := wsX8_isExceptionWord) B.pre
  have hown : s.vm.findClass RX8 = some m.cls := findClass_of_methodNamed B.named
  have hlocks := B.notSynchronized
  have hS : va_S (zA b) s.heap s.heap [] := va_S.rf
  have hl := lv_entry ([.ref (b + h0)]) (n := 2) (Nat.le_of_ble_eq_true rfl)
  rw [lg_entry_eq]
  generalize (lg_sl ([.ref (b + h0)]) ++ List.replicate (2 - (lg_sl ([.ref (b + h0)])).length) Slot.unset).toArray = ls at hl ⊢
  have hl : lv_has ls 2 [(0, .ref (b + h0))] := hl
  have L21 : ∀ (n21 : Nat) (M : Mem) (H : Heap) (locs : List Loc) (ls : Array Slot) (h0 : Nat) (x1 : Int32), fX8_isExceptionWord_21L  n21 M h0 x1 = some rr → zH D cy b M H → va_S (zA b) s.heap H locs → lv_has ls 2 [(0, .ref (b + h0)), (1, .int x1)] → W p l e (headSpec wsX8_isExceptionWord ({ frames := 1, cells := 0, slots := 0, locals := 21 } : Room)).room s m ([.ref (b + h0)] : List Value).toArray below meth c H locs 0 0 (MQ below (zQi D cy b rr) ([.ref (b + h0)] : List Value).toArray s 0 0 (zA b)) (F0 m 21 ls []) := by
    intro n21
    induction n21 with
    | zero =>
      intro M H locs ls h0 x1 hf
      have hf : (none : Option (Int32 × Mem)) = some rr := hf
      cases hf
    | succ n21 ih21 =>
      intro M H locs ls h0 x1 hf hP hS hl
      have hf : fX8_isExceptionWord_21  (fX8_isExceptionWord_21L  n21) M h0 x1 = some rr := hf
      unfold fX8_isExceptionWord_21 at hf
      refine lv_iload_n hx hb dX8_isExceptionWord_21 rfl (lv_at hl 1 rfl) ?_
      refine lv_aload_n hx hb dX8_isExceptionWord_22 rfl (lv_at hl 0 rfl) ?_
      obtain ⟨v23, e23, hf⟩ := zb hf
      refine zr_gi (ci := 4) (k := 1) (C := RX4) (T := TX4) (N := 2) hx hb hts hi_X8_isExceptionWord_4 hown hK hP e23 rfl rfl (by decide) (by decide) (hts (.fieldLink RX8 70 "BoundaryAnalyzer$Row" "size" "I") (List.mem_of_getElem? (i := 1) rfl)) dX8_isExceptionWord_23 ?_
      refine lv_icmp_ge (tgt := 48) hx hb dX8_isExceptionWord_26 (by decide) (fun c26 => ?_) (fun c26 => ?_)
      · have hf := (if_pos c26).symm.trans hf
        refine lv_iconst (v := (1 : Int32)) hx hb dX8_isExceptionWord_48 (by decide) ?_
        exact zret_z hx hb hr (Or.inl rfl) hlocks hf hP hS dX8_isExceptionWord_49
      · have hf := (if_neg c26).symm.trans hf
        refine lv_aload_n hx hb dX8_isExceptionWord_29 rfl (lv_at hl 0 rfl) ?_
        refine lv_iload_n hx hb dX8_isExceptionWord_30 rfl (lv_at hl 1 rfl) ?_
        obtain ⟨u31, t31, hf⟩ := zb hf
        obtain ⟨r31, e31, hf⟩ := zb hf
        refine zc_i hS (va_runV (As := [.int x1]) (rest := []) ⟨hx, hb, hml, hown, hts⟩ (k_X4_at l D cy b M h0 x1 r31 e31) (cwV 1 hts gX8_isExceptionWord_X4_at rfl rfl rfl (by decide +kernel) ⟨Nat.le_of_ble_eq_true rfl, Nat.le_of_ble_eq_true rfl⟩) (zp_V _ hK hP t31 (T := TX4) (N := 2) rfl (by decide)) rfl rfl hl.1 rfl (lv_room (Nat.le_of_ble_eq_true rfl)) dX8_isExceptionWord_31 ⟨Nat.zero_le _, Nat.zero_le _⟩) (fun H locs hP hS => ?_)
        obtain ⟨v34, e34, hf⟩ := zb hf
        refine zc_p (va_runS (As := [.int r31.1]) (rest := []) ⟨hx, hb, hml, hown, hts⟩ (k_X8_isCharacter l r31.1 v34 e34) (va_cwS 1 hts gX8_isExceptionWord_X8_isCharacter rfl rfl rfl (by decide +kernel) ⟨Nat.le_of_ble_eq_true rfl, Nat.le_of_ble_eq_true rfl⟩) (zp_p _) rfl rfl hl.1 rfl (lv_room (Nat.le_of_ble_eq_true rfl)) dX8_isExceptionWord_34 ⟨Nat.zero_le _, Nat.zero_le _⟩) ?_
        refine lv_if_ne (tgt := 42) hx hb dX8_isExceptionWord_37 (by decide) (fun c37 => ?_) (fun c37 => ?_)
        · have hf := (if_neg c37).symm.trans hf
          obtain ⟨x1_42, q42, hf⟩ := zlt_s hf
          refine lv_iinc (v := x1_42) (lv' := [(1, .int x1_42), (0, .ref (b + h0))]) hx hb dX8_isExceptionWord_42 hl (k := 1) rfl (by rw [← q42]; rfl) (by decide) rfl (fun ls hl => ?_)
          refine lv_goto (tgt := 21) hx hb dX8_isExceptionWord_45 (by decide) ?_
          exact ih21 _ _ _ _ _ _ hf hP hS (lv_sub hl [1, 0] rfl)
        · have hf := (if_pos c37).symm.trans hf
          refine lv_iconst (v := (0 : Int32)) hx hb dX8_isExceptionWord_40 (by decide) ?_
          exact zret_z hx hb hr (Or.inl rfl) hlocks hf hP hS dX8_isExceptionWord_41
  unfold fX8_isExceptionWord at hf
  refine lv_aload_n hx hb dX8_isExceptionWord_0 rfl (lv_at hl 0 rfl) ?_
  obtain ⟨v1, e1, hf⟩ := zb hf
  refine zr_gi (ci := 4) (k := 1) (C := RX4) (T := TX4) (N := 2) hx hb hts hi_X8_isExceptionWord_4 hown hK hP e1 rfl rfl (by decide) (by decide) (hts (.fieldLink RX8 70 "BoundaryAnalyzer$Row" "size" "I") (List.mem_of_getElem? (i := 1) rfl)) dX8_isExceptionWord_1 ?_
  refine lv_iconst (v := (1 : Int32)) hx hb dX8_isExceptionWord_4 (by decide) ?_
  refine lv_icmp_lt (tgt := 17) hx hb dX8_isExceptionWord_5 (by decide) (fun c5 => ?_) (fun c5 => ?_)
  · have hf := (if_pos c5).symm.trans hf
    refine lv_iconst (v := (0 : Int32)) hx hb dX8_isExceptionWord_17 (by decide) ?_
    exact zret_z hx hb hr (Or.inl rfl) hlocks hf hP hS dX8_isExceptionWord_18
  · have hf := (if_neg c5).symm.trans hf
    refine lv_aload_n hx hb dX8_isExceptionWord_8 rfl (lv_at hl 0 rfl) ?_
    obtain ⟨v9, e9, hf⟩ := zb hf
    refine zr_gi (ci := 4) (k := 1) (C := RX4) (T := TX4) (N := 2) hx hb hts hi_X8_isExceptionWord_4 hown hK hP e9 rfl rfl (by decide) (by decide) (hts (.fieldLink RX8 70 "BoundaryAnalyzer$Row" "size" "I") (List.mem_of_getElem? (i := 1) rfl)) dX8_isExceptionWord_9 ?_
    refine lv_bipush (v := (8 : Int32)) hx hb dX8_isExceptionWord_12 (by decide) ?_
    refine lv_icmp_le (tgt := 19) hx hb dX8_isExceptionWord_14 (by decide) (fun c14 => ?_) (fun c14 => ?_)
    · have hf := (if_pos c14).symm.trans hf
      refine lv_iconst (v := (0 : Int32)) hx hb dX8_isExceptionWord_19 (by decide) ?_
      refine lv_istore_n (lv' := [(1, .int (0 : Int32)), (0, .ref (b + h0))]) hx hb dX8_isExceptionWord_20 rfl hl (by decide) rfl (fun ls hl => ?_)
      exact L21 _ _ _ _ _ _ _ hf hP hS (lv_sub hl [1, 0] rfl)
    · have hf := (if_neg c14).symm.trans hf
      refine lv_iconst (v := (0 : Int32)) hx hb dX8_isExceptionWord_17 (by decide) ?_
      exact zret_z hx hb hr (Or.inl rfl) hlocks hf hP hS dX8_isExceptionWord_18
theorem hi_X8_exceptionAt_4 : ∀ w ∈ wsX40, w ∈ wsX8_exceptionAt := fun _ h => List.mem_cons_of_mem _ (List.mem_append_right _ h)
theorem hi_X8_exceptionAt_8 : ∀ w ∈ wsX80, w ∈ wsX8_exceptionAt := fun _ h => List.mem_cons_of_mem _ (List.mem_append_left _ (List.mem_append_right _ h))
set_option maxHeartbeats 4000000 in
set_option maxRecDepth 100000 in
theorem k_X8_exceptionAt (l : Launch) (D : va_G) (cy : Nat → ClassId) (b : Nat) (M0 : Mem) (h0 : Nat) (h1 : Nat) (x2 : Int32) (x3 : Int32) (rr : Int32 × Mem) (hf : fX8_exceptionAt M0 h0 h1 x2 x3 = some rr) : Met l yX8_exceptionAt wsX8_exceptionAt ({ frames := 2, cells := 0, slots := 0, locals := 45 } : Room) (zPc D cy b M0 [.ref (b + h0), .ref (b + h1), .int x2, .int x3]) (zQi D cy b rr) 0 0 (zA b) := by
  refine Met.ofW (cc := cX8_exceptionAt) (maxL := 5) (ret := (some .int)) (by decide) rfl ?_
  intro p e s m args below meth c s₁ B hml hv
  obtain ⟨rfl, hP, hK⟩ := hv
  have hx := B.exec
  have hb := B.bytes
  have hr := B.returns
  have hts := atoms_spec (ws := wsX8_exceptionAt) B.pre
  have hown : s.vm.findClass RX8 = some m.cls := findClass_of_methodNamed B.named
  have hlocks := B.notSynchronized
  have hS : va_S (zA b) s.heap s.heap [] := va_S.rf
  have hl := lv_entry ([.ref (b + h0), .ref (b + h1), .int x2, .int x3]) (n := 5) (Nat.le_of_ble_eq_true rfl)
  rw [lg_entry_eq]
  generalize (lg_sl ([.ref (b + h0), .ref (b + h1), .int x2, .int x3]) ++ List.replicate (5 - (lg_sl ([.ref (b + h0), .ref (b + h1), .int x2, .int x3])).length) Slot.unset).toArray = ls at hl ⊢
  have hl : lv_has ls 5 [(0, .ref (b + h0)), (1, .ref (b + h1)), (2, .int x2), (3, .int x3)] := hl
  have L3 : ∀ (n3 : Nat) (M : Mem) (H : Heap) (locs : List Loc) (ls : Array Slot) (h0 : Nat) (h1 : Nat) (x2 : Int32) (x3 : Int32) (x4 : Int32), fX8_exceptionAt_3L  n3 M h0 h1 x2 x3 x4 = some rr → zH D cy b M H → va_S (zA b) s.heap H locs → lv_has ls 5 [(0, .ref (b + h0)), (1, .ref (b + h1)), (2, .int x2), (3, .int x3), (4, .int x4)] → W p l e (headSpec wsX8_exceptionAt ({ frames := 2, cells := 0, slots := 0, locals := 45 } : Room)).room s m ([.ref (b + h0), .ref (b + h1), .int x2, .int x3] : List Value).toArray below meth c H locs 0 0 (MQ below (zQi D cy b rr) ([.ref (b + h0), .ref (b + h1), .int x2, .int x3] : List Value).toArray s 0 0 (zA b)) (F0 m 3 ls []) := by
    intro n3
    induction n3 with
    | zero =>
      intro M H locs ls h0 h1 x2 x3 x4 hf
      have hf : (none : Option (Int32 × Mem)) = some rr := hf
      cases hf
    | succ n3 ih3 =>
      intro M H locs ls h0 h1 x2 x3 x4 hf hP hS hl
      have hf : fX8_exceptionAt_3  (fX8_exceptionAt_3L  n3) M h0 h1 x2 x3 x4 = some rr := hf
      unfold fX8_exceptionAt_3 at hf
      refine lv_iload hx hb dX8_exceptionAt_3 (lv_at hl 4 rfl) ?_
      refine lv_aload_n hx hb dX8_exceptionAt_5 rfl (lv_at hl 0 rfl) ?_
      obtain ⟨v6, e6, hf⟩ := zb hf
      refine zr_gi (ci := 8) (k := 5) (C := RX8) (T := TX8) (N := 7) hx hb hts hi_X8_exceptionAt_8 hown hK hP e6 rfl rfl (by decide) (by decide) (hts (.fieldLink RX8 131 "BoundaryAnalyzer" "exceptionCount" "I") (List.mem_of_getElem? (i := 1) rfl)) dX8_exceptionAt_6 ?_
      refine lv_icmp_ge (tgt := 37) hx hb dX8_exceptionAt_9 (by decide) (fun c9 => ?_) (fun c9 => ?_)
      · have hf := (if_pos c9).symm.trans hf
        refine lv_bipush (v := (-5 : Int32)) hx hb dX8_exceptionAt_37 (by decide) ?_
        exact zret_i hx hb hr hlocks hf hP hS dX8_exceptionAt_39
      · have hf := (if_neg c9).symm.trans hf
        refine lv_aload_n hx hb dX8_exceptionAt_12 rfl (lv_at hl 0 rfl) ?_
        obtain ⟨v13, e13, hf⟩ := zb hf
        refine zr_gr (ci := 8) (k := 4) (C := RX8) (T := TX8) (N := 7) hx hb hts hi_X8_exceptionAt_8 hown hK hP e13 rfl rfl (by decide) (by decide) (hts (.fieldLink RX8 39 "BoundaryAnalyzer" "exceptions" "[LBoundaryAnalyzer$Row;") (List.mem_of_getElem? (i := 2) rfl)) dX8_exceptionAt_13 ?_
        refine lv_iload hx hb dX8_exceptionAt_16 (lv_at hl 4 rfl) ?_
        obtain ⟨v18, e18, hf⟩ := zb hf
        refine zr_aa (t0 := 6) hx hb hK hP e18 (by decide) rfl dX8_exceptionAt_18 ?_
        refine lv_aload_n hx hb dX8_exceptionAt_19 rfl (lv_at hl 1 rfl) ?_
        refine lv_iload_n hx hb dX8_exceptionAt_20 rfl (lv_at hl 2 rfl) ?_
        refine lv_iload_n hx hb dX8_exceptionAt_21 rfl (lv_at hl 3 rfl) ?_
        obtain ⟨u22, t22, hf⟩ := zb hf
        obtain ⟨r22, e22, hf⟩ := zb hf
        refine zc_i hS (va_runV (As := [.ref (b + h1), .int x2, .int x3]) (rest := []) ⟨hx, hb, hml, hown, hts⟩ (k_X4_isPartOf l D cy b M v18 h1 x2 x3 r22 e22) (cwV 3 hts gX8_exceptionAt_X4_isPartOf rfl rfl rfl (by decide +kernel) ⟨Nat.le_of_ble_eq_true rfl, Nat.le_of_ble_eq_true rfl⟩) (zp_V _ hK hP t22 (T := TX4) (N := 2) rfl (by decide)) rfl rfl hl.1 rfl (lv_room (Nat.le_of_ble_eq_true rfl)) dX8_exceptionAt_22 ⟨Nat.zero_le _, Nat.zero_le _⟩) (fun H locs hP hS => ?_)
        refine lv_if_eq (tgt := 31) hx hb dX8_exceptionAt_25 (by decide) (fun c25 => ?_) (fun c25 => ?_)
        · have hf := (if_pos c25).symm.trans hf
          obtain ⟨x4_31, q31, hf⟩ := zlt_s hf
          refine lv_iinc (v := x4_31) (lv' := [(4, .int x4_31), (0, .ref (b + h0)), (1, .ref (b + h1)), (2, .int x2), (3, .int x3)]) hx hb dX8_exceptionAt_31 hl (k := 4) rfl (by rw [← q31]; rfl) (by decide) rfl (fun ls hl => ?_)
          refine lv_goto (tgt := 3) hx hb dX8_exceptionAt_34 (by decide) ?_
          exact ih3 _ _ _ _ _ _ _ _ _ hf hP hS (lv_sub hl [1, 2, 3, 4, 0] rfl)
        · have hf := (if_neg c25).symm.trans hf
          refine lv_iload hx hb dX8_exceptionAt_28 (lv_at hl 4 rfl) ?_
          exact zret_i hx hb hr hlocks hf hP hS dX8_exceptionAt_30
  unfold fX8_exceptionAt at hf
  refine lv_iconst (v := (0 : Int32)) hx hb dX8_exceptionAt_0 (by decide) ?_
  refine lv_istore (lv' := [(4, .int (0 : Int32)), (0, .ref (b + h0)), (1, .ref (b + h1)), (2, .int x2), (3, .int x3)]) hx hb dX8_exceptionAt_1 hl (by decide) rfl (fun ls hl => ?_)
  exact L3 _ _ _ _ _ _ _ _ _ _ hf hP hS (lv_sub hl [1, 2, 3, 4, 0] rfl)
theorem hi_X8_addException_4 : ∀ w ∈ wsX40, w ∈ wsX8_addException := fun _ h => List.mem_cons_of_mem _ (List.mem_append_right _ h)
theorem hi_X8_addException_8 : ∀ w ∈ wsX80, w ∈ wsX8_addException := fun _ h => List.mem_cons_of_mem _ (List.mem_append_left _ (List.mem_append_right _ h))
set_option maxHeartbeats 4000000 in
set_option maxRecDepth 100000 in
theorem k_X8_addException (l : Launch) (D : va_G) (cy : Nat → ClassId) (b : Nat) (M0 : Mem) (h0 : Nat) (rr : Int32 × Mem) (hf : fX8_addException M0 h0 = some rr) : Met l yX8_addException wsX8_addException ({ frames := 3, cells := 0, slots := 0, locals := 69 } : Room) (zPc D cy b M0 [.ref (b + h0)]) (zQi D cy b rr) 0 0 (zA b) := by
  refine Met.ofW (cc := cX8_addException) (maxL := 1) (ret := (some .int)) (by decide) rfl ?_
  intro p e s m args below meth c s₁ B hml hv
  obtain ⟨rfl, hP, hK⟩ := hv
  have hx := B.exec
  have hb := B.bytes
  have hr := B.returns
  have hts := atoms_spec (ws := wsX8_addException) B.pre
  have hown : s.vm.findClass RX8 = some m.cls := findClass_of_methodNamed B.named
  have hlocks := B.notSynchronized
  have hS : va_S (zA b) s.heap s.heap [] := va_S.rf
  have hl := lv_entry ([.ref (b + h0)]) (n := 1) (Nat.le_of_ble_eq_true rfl)
  rw [lg_entry_eq]
  generalize (lg_sl ([.ref (b + h0)]) ++ List.replicate (1 - (lg_sl ([.ref (b + h0)])).length) Slot.unset).toArray = ls at hl ⊢
  have hl : lv_has ls 1 [(0, .ref (b + h0))] := hl
  unfold fX8_addException at hf
  refine lv_aload_n hx hb dX8_addException_0 rfl (lv_at hl 0 rfl) ?_
  obtain ⟨v1, e1, hf⟩ := zb hf
  refine zr_gr (ci := 8) (k := 1) (C := RX8) (T := TX8) (N := 7) hx hb hts hi_X8_addException_8 hown hK hP e1 rfl rfl (by decide) (by decide) (hts (.fieldLink RX8 21 "BoundaryAnalyzer" "pattern" "LBoundaryAnalyzer$Row;") (List.mem_of_getElem? (i := 1) rfl)) dX8_addException_1 ?_
  obtain ⟨r4, e4, hf⟩ := zb hf
  refine zc_i hS (va_runS (As := [.ref (b + v1)]) (rest := []) ⟨hx, hb, hml, hown, hts⟩ (k_X8_isExceptionWord l D cy b M0  v1 r4 e4) (va_cwS 1 hts gX8_addException_X8_isExceptionWord rfl rfl rfl (by decide +kernel) ⟨Nat.le_of_ble_eq_true rfl, Nat.le_of_ble_eq_true rfl⟩) (zp_S _ hK hP) rfl rfl hl.1 rfl (lv_room (Nat.le_of_ble_eq_true rfl)) dX8_addException_4 ⟨Nat.zero_le _, Nat.zero_le _⟩) (fun H locs hP hS => ?_)
  refine lv_if_ne (tgt := 13) hx hb dX8_addException_7 (by decide) (fun c7 => ?_) (fun c7 => ?_)
  · have hf := (if_neg c7).symm.trans hf
    refine lv_aload_n hx hb dX8_addException_13 rfl (lv_at hl 0 rfl) ?_
    refine lv_aload_n hx hb dX8_addException_14 rfl (lv_at hl 0 rfl) ?_
    obtain ⟨v15, e15, hf⟩ := zb hf
    refine zr_gr (ci := 8) (k := 1) (C := RX8) (T := TX8) (N := 7) hx hb hts hi_X8_addException_8 hown hK hP e15 rfl rfl (by decide) (by decide) (hts (.fieldLink RX8 21 "BoundaryAnalyzer" "pattern" "LBoundaryAnalyzer$Row;") (List.mem_of_getElem? (i := 1) rfl)) dX8_addException_15 ?_
    refine lv_iconst (v := (0 : Int32)) hx hb dX8_addException_18 (by decide) ?_
    refine lv_aload_n hx hb dX8_addException_19 rfl (lv_at hl 0 rfl) ?_
    obtain ⟨v20, e20, hf⟩ := zb hf
    refine zr_gr (ci := 8) (k := 1) (C := RX8) (T := TX8) (N := 7) hx hb hts hi_X8_addException_8 hown hK hP e20 rfl rfl (by decide) (by decide) (hts (.fieldLink RX8 21 "BoundaryAnalyzer" "pattern" "LBoundaryAnalyzer$Row;") (List.mem_of_getElem? (i := 1) rfl)) dX8_addException_20 ?_
    obtain ⟨v23, e23, hf⟩ := zb hf
    refine zr_gi (ci := 4) (k := 1) (C := RX4) (T := TX4) (N := 2) hx hb hts hi_X8_addException_4 hown hK hP e23 rfl rfl (by decide) (by decide) (hts (.fieldLink RX8 70 "BoundaryAnalyzer$Row" "size" "I") (List.mem_of_getElem? (i := 2) rfl)) dX8_addException_23 ?_
    obtain ⟨u26, t26, hf⟩ := zb hf
    obtain ⟨r26, e26, hf⟩ := zb hf
    refine zc_i hS (va_runV (As := [.ref (b + v15), .int (0 : Int32), .int v23]) (rest := []) ⟨hx, hb, hml, hown, hts⟩ (k_X8_exceptionAt l D cy b r4.2 h0 v15 (0 : Int32) v23 r26 e26) (cwV 3 hts gX8_addException_X8_exceptionAt rfl rfl rfl (by decide +kernel) ⟨Nat.le_of_ble_eq_true rfl, Nat.le_of_ble_eq_true rfl⟩) (zp_V _ hK hP t26 (T := TX8) (N := 7) rfl (by decide)) rfl rfl hl.1 rfl (lv_room (Nat.le_of_ble_eq_true rfl)) dX8_addException_26 ⟨Nat.zero_le _, Nat.zero_le _⟩) (fun H locs hP hS => ?_)
    refine lv_bipush (v := (-5 : Int32)) hx hb dX8_addException_29 (by decide) ?_
    refine lv_icmp_eq (tgt := 37) hx hb dX8_addException_31 (by decide) (fun c31 => ?_) (fun c31 => ?_)
    · have hf := (if_pos c31).symm.trans hf
      refine lv_aload_n hx hb dX8_addException_37 rfl (lv_at hl 0 rfl) ?_
      obtain ⟨v38, e38, hf⟩ := zb hf
      refine zr_gi (ci := 8) (k := 5) (C := RX8) (T := TX8) (N := 7) hx hb hts hi_X8_addException_8 hown hK hP e38 rfl rfl (by decide) (by decide) (hts (.fieldLink RX8 131 "BoundaryAnalyzer" "exceptionCount" "I") (List.mem_of_getElem? (i := 3) rfl)) dX8_addException_38 ?_
      refine lv_bipush (v := (10 : Int32)) hx hb dX8_addException_41 (by decide) ?_
      refine lv_icmp_lt (tgt := 49) hx hb dX8_addException_43 (by decide) (fun c43 => ?_) (fun c43 => ?_)
      · have hf := (if_pos c43).symm.trans hf
        refine lv_aload_n hx hb dX8_addException_49 rfl (lv_at hl 0 rfl) ?_
        obtain ⟨v50, e50, hf⟩ := zb hf
        refine zr_gr (ci := 8) (k := 4) (C := RX8) (T := TX8) (N := 7) hx hb hts hi_X8_addException_8 hown hK hP e50 rfl rfl (by decide) (by decide) (hts (.fieldLink RX8 39 "BoundaryAnalyzer" "exceptions" "[LBoundaryAnalyzer$Row;") (List.mem_of_getElem? (i := 4) rfl)) dX8_addException_50 ?_
        refine lv_aload_n hx hb dX8_addException_53 rfl (lv_at hl 0 rfl) ?_
        obtain ⟨v54, e54, hf⟩ := zb hf
        refine zr_gi (ci := 8) (k := 5) (C := RX8) (T := TX8) (N := 7) hx hb hts hi_X8_addException_8 hown hK hP e54 rfl rfl (by decide) (by decide) (hts (.fieldLink RX8 131 "BoundaryAnalyzer" "exceptionCount" "I") (List.mem_of_getElem? (i := 3) rfl)) dX8_addException_54 ?_
        obtain ⟨v57, e57, hf⟩ := zb hf
        refine zr_aa (t0 := 6) hx hb hK hP e57 (by decide) rfl dX8_addException_57 ?_
        refine lv_aload_n hx hb dX8_addException_58 rfl (lv_at hl 0 rfl) ?_
        obtain ⟨v59, e59, hf⟩ := zb hf
        refine zr_gr (ci := 8) (k := 1) (C := RX8) (T := TX8) (N := 7) hx hb hts hi_X8_addException_8 hown hK hP e59 rfl rfl (by decide) (by decide) (hts (.fieldLink RX8 21 "BoundaryAnalyzer" "pattern" "LBoundaryAnalyzer$Row;") (List.mem_of_getElem? (i := 1) rfl)) dX8_addException_59 ?_
        refine lv_iconst (v := (0 : Int32)) hx hb dX8_addException_62 (by decide) ?_
        refine lv_aload_n hx hb dX8_addException_63 rfl (lv_at hl 0 rfl) ?_
        obtain ⟨v64, e64, hf⟩ := zb hf
        refine zr_gr (ci := 8) (k := 1) (C := RX8) (T := TX8) (N := 7) hx hb hts hi_X8_addException_8 hown hK hP e64 rfl rfl (by decide) (by decide) (hts (.fieldLink RX8 21 "BoundaryAnalyzer" "pattern" "LBoundaryAnalyzer$Row;") (List.mem_of_getElem? (i := 1) rfl)) dX8_addException_64 ?_
        obtain ⟨v67, e67, hf⟩ := zb hf
        refine zr_gi (ci := 4) (k := 1) (C := RX4) (T := TX4) (N := 2) hx hb hts hi_X8_addException_4 hown hK hP e67 rfl rfl (by decide) (by decide) (hts (.fieldLink RX8 70 "BoundaryAnalyzer$Row" "size" "I") (List.mem_of_getElem? (i := 2) rfl)) dX8_addException_67 ?_
        obtain ⟨u70, t70, hf⟩ := zb hf
        obtain ⟨M70, e70, hf⟩ := zb hf
        refine zc_v hS (va_runV (As := [.ref (b + v59), .int (0 : Int32), .int v67]) (rest := []) ⟨hx, hb, hml, hown, hts⟩ (k_X4_become l D cy b r26.2 v57 v59 (0 : Int32) v67 M70 e70) (cwV 3 hts gX8_addException_X4_become rfl rfl rfl (by decide +kernel) ⟨Nat.le_of_ble_eq_true rfl, Nat.le_of_ble_eq_true rfl⟩) (zp_V _ hK hP t70 (T := TX4) (N := 2) rfl (by decide)) rfl rfl hl.1 rfl (lv_room (Nat.le_of_ble_eq_true rfl)) dX8_addException_70 ⟨Nat.zero_le _, Nat.zero_le _⟩) (fun H locs hP hS => ?_)
        refine lv_aload_n hx hb dX8_addException_73 rfl (lv_at hl 0 rfl) ?_
        refine lv_dup hx hb dX8_addException_74 rfl ?_
        obtain ⟨v75, e75, hf⟩ := zb hf
        refine zr_gi (ci := 8) (k := 5) (C := RX8) (T := TX8) (N := 7) hx hb hts hi_X8_addException_8 hown hK hP e75 rfl rfl (by decide) (by decide) (hts (.fieldLink RX8 131 "BoundaryAnalyzer" "exceptionCount" "I") (List.mem_of_getElem? (i := 3) rfl)) dX8_addException_75 ?_
        refine lv_iconst (v := (1 : Int32)) hx hb dX8_addException_78 (by decide) ?_
        refine lv_iadd hx hb dX8_addException_79 ?_
        obtain ⟨M80, e80, hf⟩ := zb hf
        refine zr_pi (ci := 8) (k := 5) (C := RX8) (T := TX8) (N := 7) hx hb hts hi_X8_addException_8 tyX8 tyX8_ok nmX8 hown hK hP hS e80 rfl rfl (by decide) (by decide) (hts (.fieldLink RX8 131 "BoundaryAnalyzer" "exceptionCount" "I") (List.mem_of_getElem? (i := 3) rfl)) rfl (tyX8_ok 5 (by decide)) dX8_addException_80 (fun H locs hP _ hS => ?_)
        refine lv_aload_n hx hb dX8_addException_83 rfl (lv_at hl 0 rfl) ?_
        obtain ⟨v84, e84, hf⟩ := zb hf
        refine zr_gi (ci := 8) (k := 5) (C := RX8) (T := TX8) (N := 7) hx hb hts hi_X8_addException_8 hown hK hP e84 rfl rfl (by decide) (by decide) (hts (.fieldLink RX8 131 "BoundaryAnalyzer" "exceptionCount" "I") (List.mem_of_getElem? (i := 3) rfl)) dX8_addException_84 ?_
        exact zret_i hx hb hr hlocks hf hP hS dX8_addException_87
      · have hf := (if_neg c43).symm.trans hf
        refine lv_bipush (v := (-3 : Int32)) hx hb dX8_addException_46 (by decide) ?_
        exact zret_i hx hb hr hlocks hf hP hS dX8_addException_48
    · have hf := (if_neg c31).symm.trans hf
      refine lv_bipush (v := (-4 : Int32)) hx hb dX8_addException_34 (by decide) ?_
      exact zret_i hx hb hr hlocks hf hP hS dX8_addException_36
  · have hf := (if_pos c7).symm.trans hf
    refine lv_bipush (v := (-2 : Int32)) hx hb dX8_addException_10 (by decide) ?_
    exact zret_i hx hb hr hlocks hf hP hS dX8_addException_12
