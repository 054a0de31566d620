theorem hi_X8_setRule_2 : ∀ w ∈ wsX20, w ∈ wsX8_setRule := fun _ h => List.mem_cons_of_mem _ (List.mem_append_left _ (List.mem_append_left _ (List.mem_append_left _ (List.mem_append_left _ (List.mem_append_right _ h)))))
theorem hi_X8_setRule_4 : ∀ w ∈ wsX40, w ∈ wsX8_setRule := fun _ h => List.mem_cons_of_mem _ (List.mem_append_left _ (List.mem_append_left _ (List.mem_append_left _ (List.mem_append_left _ (List.mem_append_left _ (List.mem_append_right _ h))))))
theorem hi_X8_setRule_5 : ∀ w ∈ wsX50, w ∈ wsX8_setRule := fun _ h => List.mem_cons_of_mem _ (List.mem_append_left _ (List.mem_append_left _ (List.mem_append_left _ (List.mem_append_right _ h))))
theorem hi_X8_setRule_6 : ∀ w ∈ wsX60, w ∈ wsX8_setRule := fun _ h => List.mem_cons_of_mem _ (List.mem_append_left _ (List.mem_append_left _ (List.mem_append_right _ h)))
theorem hi_X8_setRule_8 : ∀ w ∈ wsX80, w ∈ wsX8_setRule := fun _ h => List.mem_cons_of_mem _ (List.mem_append_left _ (List.mem_append_left _ (List.mem_append_left _ (List.mem_append_left _ (List.mem_append_left _ (List.mem_append_left _ (List.mem_append_right _ h)))))))
set_option maxHeartbeats 4000000 in
set_option maxRecDepth 100000 in
theorem k_X8_setRule (l : Launch) (D : va_G) (cy : Nat → ClassId) (b : Nat) (M0 : Mem) (p0 : Nat) (p1 : Int32) (p2 : Int32) (rr : Int32 × Mem) (hf : fX8_setRule M0 p0 p1 p2 = some rr) : Met l yX8_setRule wsX8_setRule ({ frames := 6, cells := 0, slots := 0, locals := 163 } : Room) (zPc D cy b M0 [.ref (b + p0), .int p1, .int p2]) (zQi D cy b rr) 0 0 (zA b) := by
  refine Met.ofW (cc := cX8_setRule) (maxL := 5) (ret := (some .int)) (by decide) rfl ?_
  intro p e s m args below meth c s₁ B hml hv
  obtain ⟨rfl, hP, hK⟩ := hv
  have hx := B.exec
  have hb := B.bytes
  have hr := B.returns
  have hts := atoms_spec (ws := wsX8_setRule) B.pre
  have hown : s.vm.findClass RX8 = some m.cls := findClass_of_methodNamed B.named
  have hlocks := B.notSynchronized
  have hS : va_S (zA b) s.heap s.heap [] := va_S.rf
  have hl := lv_entry ([.ref (b + p0), .int p1, .int p2]) (n := 5) (Nat.le_of_ble_eq_true rfl)
  rw [lg_entry_eq]
  generalize (lg_sl ([.ref (b + p0), .int p1, .int p2]) ++ List.replicate (5 - (lg_sl ([.ref (b + p0), .int p1, .int p2])).length) Slot.unset).toArray = ls at hl ⊢
  have hl : lv_has ls 5 [(0, .ref (b + p0)), (1, .int p1), (2, .int p2)] := hl
  have J118 : ∀ (M : Mem) (H : Heap) (locs : List Loc) (ls : Array Slot) (x4 : Int32), fX8_setRule_118  M x4 = some rr → zH D cy b M H → va_S (zA b) s.heap H locs → lv_has ls 5 [(4, .int x4)] → W p l e (headSpec wsX8_setRule ({ frames := 6, cells := 0, slots := 0, locals := 163 } : Room)).room s m ([.ref (b + p0), .int p1, .int p2] : List Value).toArray below meth c H locs 0 0 (MQ below (zQi D cy b rr) ([.ref (b + p0), .int p1, .int p2] : List Value).toArray s 0 0 (zA b)) (F0 m 118 ls []) := by
    intro M H locs ls x4 hf hP hS hl
    unfold fX8_setRule_118 at hf
    refine lv_iload hx hb dX8_setRule_118 (lv_at hl 0 rfl) ?_
    refine lv_if_eq (tgt := 127) hx hb dX8_setRule_120 (by decide) (fun c120 => ?_) (fun c120 => ?_)
    · have hf := (if_pos c120).symm.trans hf
      refine lv_iconst (v := (0 : Int32)) hx hb dX8_setRule_127 (by decide) ?_
      exact zret_i hx hb hr hlocks hf hP hS dX8_setRule_128
    · have hf := (if_neg c120).symm.trans hf
      refine lv_iconst (v := (1 : Int32)) hx hb dX8_setRule_123 (by decide) ?_
      refine lv_goto (tgt := 128) hx hb dX8_setRule_124 (by decide) ?_
      exact zret_i hx hb hr hlocks hf hP hS dX8_setRule_128
  have J78 : ∀ (M : Mem) (H : Heap) (locs : List Loc) (ls : Array Slot) (h0 : Nat) (x1 : Int32) (h3 : Nat) (x4 : Int32), fX8_setRule_78  M h0 x1 h3 x4 = some rr → zH D cy b M H → va_S (zA b) s.heap H locs → lv_has ls 5 [(0, .ref (b + h0)), (1, .int x1), (3, .ref (b + h3)), (4, .int x4)] → W p l e (headSpec wsX8_setRule ({ frames := 6, cells := 0, slots := 0, locals := 163 } : Room)).room s m ([.ref (b + p0), .int p1, .int p2] : List Value).toArray below meth c H locs 0 0 (MQ below (zQi D cy b rr) ([.ref (b + p0), .int p1, .int p2] : List Value).toArray s 0 0 (zA b)) (F0 m 78 ls []) := by
    intro M H locs ls h0 x1 h3 x4 hf hP hS hl
    unfold fX8_setRule_78 at hf
    refine lv_aload_n hx hb dX8_setRule_78 rfl (lv_at hl 2 rfl) ?_
    obtain ⟨v79, e79, hf⟩ := zb hf
    refine zr_gr (ci := 5) (k := 0) (C := RX5) (T := TX5) (N := 9) hx hb hts hi_X8_setRule_5 hown hK hP e79 rfl rfl (by decide) (by decide) (hts (.fieldLink RX8 98 "BoundaryAnalyzer$Rule" "signs" "LBoundaryAnalyzer$Row;") (List.mem_of_getElem? (i := 5) rfl)) dX8_setRule_79 ?_
    refine lv_aload_n hx hb dX8_setRule_82 rfl (lv_at hl 0 rfl) ?_
    obtain ⟨v83, e83, hf⟩ := zb hf
    refine zr_gr (ci := 8) (k := 1) (C := RX8) (T := TX8) (N := 7) hx hb hts hi_X8_setRule_8 hown hK hP e83 rfl rfl (by decide) (by decide) (hts (.fieldLink RX8 21 "BoundaryAnalyzer" "pattern" "LBoundaryAnalyzer$Row;") (List.mem_of_getElem? (i := 1) rfl)) dX8_setRule_83 ?_
    refine lv_iconst (v := (0 : Int32)) hx hb dX8_setRule_86 (by decide) ?_
    refine lv_aload_n hx hb dX8_setRule_87 rfl (lv_at hl 0 rfl) ?_
    obtain ⟨v88, e88, hf⟩ := zb hf
    refine zr_gr (ci := 8) (k := 1) (C := RX8) (T := TX8) (N := 7) hx hb hts hi_X8_setRule_8 hown hK hP e88 rfl rfl (by decide) (by decide) (hts (.fieldLink RX8 21 "BoundaryAnalyzer" "pattern" "LBoundaryAnalyzer$Row;") (List.mem_of_getElem? (i := 1) rfl)) dX8_setRule_88 ?_
    obtain ⟨v91, e91, hf⟩ := zb hf
    refine zr_gi (ci := 4) (k := 1) (C := RX4) (T := TX4) (N := 2) hx hb hts hi_X8_setRule_4 hown hK hP e91 rfl rfl (by decide) (by decide) (hts (.fieldLink RX8 70 "BoundaryAnalyzer$Row" "size" "I") (List.mem_of_getElem? (i := 2) rfl)) dX8_setRule_91 ?_
    obtain ⟨u94, t94, hf⟩ := zb hf
    obtain ⟨M94, e94, hf⟩ := zb hf
    refine zc_v hS (va_runV (As := [.ref (b + v83), .int (0 : Int32), .int v91]) (rest := []) ⟨hx, hb, hml, hown, hts⟩ (k_X4_become l D cy b M v79 v83 (0 : Int32) v91 M94 e94) (cwV 3 hts gX8_setRule_X4_become rfl rfl rfl (by decide +kernel) ⟨Nat.le_of_ble_eq_true rfl, Nat.le_of_ble_eq_true rfl⟩) (zp_V _ hK hP t94 (T := TX4) (N := 2) rfl (by decide)) rfl rfl hl.1 rfl (lv_room (Nat.le_of_ble_eq_true rfl)) dX8_setRule_94 ⟨Nat.zero_le _, Nat.zero_le _⟩) (fun H locs hP hS => ?_)
    refine lv_aload_n hx hb dX8_setRule_97 rfl (lv_at hl 0 rfl) ?_
    obtain ⟨v98, e98, hf⟩ := zb hf
    refine zr_gr (ci := 8) (k := 3) (C := RX8) (T := TX8) (N := 7) hx hb hts hi_X8_setRule_8 hown hK hP e98 rfl rfl (by decide) (by decide) (hts (.fieldLink RX8 35 "BoundaryAnalyzer" "builder" "LBoundaryAnalyzer$RuleBuilder;") (List.mem_of_getElem? (i := 6) rfl)) dX8_setRule_98 ?_
    refine lv_aload_n hx hb dX8_setRule_101 rfl (lv_at hl 2 rfl) ?_
    obtain ⟨u102, t102, hf⟩ := zb hf
    obtain ⟨M102, e102, hf⟩ := zb hf
    refine zc_v hS (va_runV (As := [.ref (b + h3)]) (rest := []) ⟨hx, hb, hml, hown, hts⟩ (k_X6_build l D cy b M94 v98 h3 M102 e102) (cwV 1 hts gX8_setRule_X6_build rfl rfl rfl (by decide +kernel) ⟨Nat.le_of_ble_eq_true rfl, Nat.le_of_ble_eq_true rfl⟩) (zp_V _ hK hP t102 (T := TX6) (N := 4) rfl (by decide)) rfl rfl hl.1 rfl (lv_room (Nat.le_of_ble_eq_true rfl)) dX8_setRule_102 ⟨Nat.zero_le _, Nat.zero_le _⟩) (fun H locs hP hS => ?_)
    refine lv_aload_n hx hb dX8_setRule_105 rfl (lv_at hl 0 rfl) ?_
    obtain ⟨v106, e106, hf⟩ := zb hf
    refine zr_gr (ci := 8) (k := 2) (C := RX8) (T := TX8) (N := 7) hx hb hts hi_X8_setRule_8 hown hK hP e106 rfl rfl (by decide) (by decide) (hts (.fieldLink RX8 27 "BoundaryAnalyzer" "kinds" "[LBoundaryAnalyzer$Kind;") (List.mem_of_getElem? (i := 3) rfl)) dX8_setRule_106 ?_
    refine lv_iload_n hx hb dX8_setRule_109 rfl (lv_at hl 1 rfl) ?_
    obtain ⟨v110, e110, hf⟩ := zb hf
    refine zr_aa (t0 := 4) hx hb hK hP e110 (by decide) rfl dX8_setRule_110 ?_
    refine lv_aload_n hx hb dX8_setRule_111 rfl (lv_at hl 0 rfl) ?_
    obtain ⟨v112, e112, hf⟩ := zb hf
    refine zr_gr (ci := 8) (k := 0) (C := RX8) (T := TX8) (N := 7) hx hb hts hi_X8_setRule_8 hown hK hP e112 rfl rfl (by decide) (by decide) (hts (.fieldLink RX8 10 "BoundaryAnalyzer" "text" "LBoundaryAnalyzer$Text;") (List.mem_of_getElem? (i := 7) rfl)) dX8_setRule_112 ?_
    obtain ⟨u115, t115, hf⟩ := zb hf
    obtain ⟨M115, e115, hf⟩ := zb hf
    refine zc_v hS (va_runV (As := [.ref (b + v112)]) (rest := []) ⟨hx, hb, hml, hown, hts⟩ (k_X2_analyseAll l D cy b M102 v110 v112 M115 e115) (cwV 1 hts gX8_setRule_X2_analyseAll rfl rfl rfl (by decide +kernel) ⟨Nat.le_of_ble_eq_true rfl, Nat.le_of_ble_eq_true rfl⟩) (zp_V _ hK hP t115 (T := TX2) (N := 5) rfl (by decide)) rfl rfl hl.1 rfl (lv_room (Nat.le_of_ble_eq_true rfl)) dX8_setRule_115 ⟨Nat.zero_le _, Nat.zero_le _⟩) (fun H locs hP hS => ?_)
    exact J118 _ _ _ _ _ hf hP hS (lv_sub hl [3] rfl)
  have J45 : ∀ (M : Mem) (H : Heap) (locs : List Loc) (ls : Array Slot) (h0 : Nat) (x1 : Int32) (x2 : Int32), fX8_setRule_45  M h0 x1 x2 = some rr → zH D cy b M H → va_S (zA b) s.heap H locs → lv_has ls 5 [(0, .ref (b + h0)), (1, .int x1), (2, .int x2)] → W p l e (headSpec wsX8_setRule ({ frames := 6, cells := 0, slots := 0, locals := 163 } : Room)).room s m ([.ref (b + p0), .int p1, .int p2] : List Value).toArray below meth c H locs 0 0 (MQ below (zQi D cy b rr) ([.ref (b + p0), .int p1, .int p2] : List Value).toArray s 0 0 (zA b)) (F0 m 45 ls []) := by
    intro M H locs ls h0 x1 x2 hf hP hS hl
    unfold fX8_setRule_45 at hf
    refine lv_aload_n hx hb dX8_setRule_45 rfl (lv_at hl 0 rfl) ?_
    obtain ⟨v46, e46, hf⟩ := zb hf
    refine zr_gr (ci := 8) (k := 2) (C := RX8) (T := TX8) (N := 7) hx hb hts hi_X8_setRule_8 hown hK hP e46 rfl rfl (by decide) (by decide) (hts (.fieldLink RX8 27 "BoundaryAnalyzer" "kinds" "[LBoundaryAnalyzer$Kind;") (List.mem_of_getElem? (i := 3) rfl)) dX8_setRule_46 ?_
    refine lv_iload_n hx hb dX8_setRule_49 rfl (lv_at hl 1 rfl) ?_
    obtain ⟨v50, e50, hf⟩ := zb hf
    refine zr_aa (t0 := 4) hx hb hK hP e50 (by decide) rfl dX8_setRule_50 ?_
    obtain ⟨v51, e51, hf⟩ := zb hf
    refine zr_gr (ci := 2) (k := 0) (C := RX2) (T := TX2) (N := 5) hx hb hts hi_X8_setRule_2 hown hK hP e51 rfl rfl (by decide) (by decide) (hts (.fieldLink RX8 88 "BoundaryAnalyzer$Kind" "rules" "[LBoundaryAnalyzer$Rule;") (List.mem_of_getElem? (i := 4) rfl)) dX8_setRule_51 ?_
    refine lv_iload_n hx hb dX8_setRule_54 rfl (lv_at hl 2 rfl) ?_
    obtain ⟨v55, e55, hf⟩ := zb hf
    refine zr_aa (t0 := 7) hx hb hK hP e55 (by decide) rfl dX8_setRule_55 ?_
    refine lv_astore_n (lv' := [(3, .ref (b + v55)), (0, .ref (b + h0)), (1, .int x1), (2, .int x2)]) hx hb dX8_setRule_56 rfl hl (by decide) rfl (fun ls hl => ?_)
    refine lv_aload_n hx hb dX8_setRule_57 rfl (lv_at hl 0 rfl) ?_
    obtain ⟨u58, t58, hf⟩ := zb hf
    obtain ⟨r58, e58, hf⟩ := zb hf
    refine zc_i hS (va_runV (As := []) (rest := []) ⟨hx, hb, hml, hown, hts⟩ (k_X5_isSet l D cy b M v55  r58 e58) (cwV 0 hts gX8_setRule_X5_isSet rfl rfl rfl (by decide +kernel) ⟨Nat.le_of_ble_eq_true rfl, Nat.le_of_ble_eq_true rfl⟩) (zp_V _ hK hP t58 (T := TX5) (N := 9) rfl (by decide)) rfl rfl hl.1 rfl (lv_room (Nat.le_of_ble_eq_true rfl)) dX8_setRule_58 ⟨Nat.zero_le _, Nat.zero_le _⟩) (fun H locs hP hS => ?_)
    refine lv_istore (lv' := [(4, .int r58.1), (3, .ref (b + v55)), (0, .ref (b + h0)), (1, .int x1), (2, .int x2)]) hx hb dX8_setRule_61 hl (by decide) rfl (fun ls hl => ?_)
    refine lv_iload hx hb dX8_setRule_63 (lv_at hl 0 rfl) ?_
    refine lv_if_ne (tgt := 78) hx hb dX8_setRule_65 (by decide) (fun c65 => ?_) (fun c65 => ?_)
    · have hf := (if_neg c65).symm.trans hf
      exact J78 _ _ _ _ _ _ _ _ hf hP hS (lv_sub hl [2, 3, 1, 0] rfl)
    · have hf := (if_pos c65).symm.trans hf
      refine lv_aload_n hx hb dX8_setRule_68 rfl (lv_at hl 2 rfl) ?_
      obtain ⟨v69, e69, hf⟩ := zb hf
      refine zr_gr (ci := 8) (k := 1) (C := RX8) (T := TX8) (N := 7) hx hb hts hi_X8_setRule_8 hown hK hP e69 rfl rfl (by decide) (by decide) (hts (.fieldLink RX8 21 "BoundaryAnalyzer" "pattern" "LBoundaryAnalyzer$Row;") (List.mem_of_getElem? (i := 1) rfl)) dX8_setRule_69 ?_
      obtain ⟨v72, e72, hf⟩ := zb hf
      refine zr_gi (ci := 4) (k := 1) (C := RX4) (T := TX4) (N := 2) hx hb hts hi_X8_setRule_4 hown hK hP e72 rfl rfl (by decide) (by decide) (hts (.fieldLink RX8 70 "BoundaryAnalyzer$Row" "size" "I") (List.mem_of_getElem? (i := 2) rfl)) dX8_setRule_72 ?_
      refine lv_if_le (tgt := 118) hx hb dX8_setRule_75 (by decide) (fun c75 => ?_) (fun c75 => ?_)
      · have hf := (if_pos c75).symm.trans hf
        exact J118 _ _ _ _ _ hf hP hS (lv_sub hl [0] rfl)
      · have hf := (if_neg c75).symm.trans hf
        exact J78 _ _ _ _ _ _ _ _ hf hP hS (lv_sub hl [2, 3, 1, 0] rfl)
  unfold fX8_setRule at hf
  refine lv_iload_n hx hb dX8_setRule_0 rfl (lv_at hl 1 rfl) ?_
  obtain ⟨v1, e1, hf⟩ := zb hf
  refine zc_p (va_runS (As := [.int p1]) (rest := []) ⟨hx, hb, hml, hown, hts⟩ (k_X8_isKind l p1 v1 e1) (va_cwS 1 hts gX8_setRule_X8_isKind rfl rfl rfl (by decide +kernel) ⟨Nat.le_of_ble_eq_true rfl, Nat.le_of_ble_eq_true rfl⟩) (zp_p _) rfl rfl hl.1 rfl (lv_room (Nat.le_of_ble_eq_true rfl)) dX8_setRule_1 ⟨Nat.zero_le _, Nat.zero_le _⟩) ?_
  refine lv_if_eq (tgt := 14) hx hb dX8_setRule_4 (by decide) (fun c4 => ?_) (fun c4 => ?_)
  · have hf := (if_pos c4).symm.trans hf
    refine lv_bipush (v := (-2 : Int32)) hx hb dX8_setRule_14 (by decide) ?_
    exact zret_i hx hb hr hlocks hf hP hS dX8_setRule_16
  · have hf := (if_neg c4).symm.trans hf
    refine lv_iload_n hx hb dX8_setRule_7 rfl (lv_at hl 2 rfl) ?_
    obtain ⟨v8, e8, hf⟩ := zb hf
    refine zc_p (va_runS (As := [.int p2]) (rest := []) ⟨hx, hb, hml, hown, hts⟩ (k_X8_isPlace l p2 v8 e8) (va_cwS 1 hts gX8_setRule_X8_isPlace rfl rfl rfl (by decide +kernel) ⟨Nat.le_of_ble_eq_true rfl, Nat.le_of_ble_eq_true rfl⟩) (zp_p _) rfl rfl hl.1 rfl (lv_room (Nat.le_of_ble_eq_true rfl)) dX8_setRule_8 ⟨Nat.zero_le _, Nat.zero_le _⟩) ?_
    refine lv_if_ne (tgt := 17) hx hb dX8_setRule_11 (by decide) (fun c11 => ?_) (fun c11 => ?_)
    · have hf := (if_neg c11).symm.trans hf
      refine lv_aload_n hx hb dX8_setRule_17 rfl (lv_at hl 0 rfl) ?_
      obtain ⟨v18, e18, hf⟩ := zb hf
      refine zr_gr (ci := 8) (k := 1) (C := RX8) (T := TX8) (N := 7) hx hb hts hi_X8_setRule_8 hown hK hP e18 rfl rfl (by decide) (by decide) (hts (.fieldLink RX8 21 "BoundaryAnalyzer" "pattern" "LBoundaryAnalyzer$Row;") (List.mem_of_getElem? (i := 1) rfl)) dX8_setRule_18 ?_
      obtain ⟨v21, e21, hf⟩ := zb hf
      refine zr_gi (ci := 4) (k := 1) (C := RX4) (T := TX4) (N := 2) hx hb hts hi_X8_setRule_4 hown hK hP e21 rfl rfl (by decide) (by decide) (hts (.fieldLink RX8 70 "BoundaryAnalyzer$Row" "size" "I") (List.mem_of_getElem? (i := 2) rfl)) dX8_setRule_21 ?_
      refine lv_if_le (tgt := 45) hx hb dX8_setRule_24 (by decide) (fun c24 => ?_) (fun c24 => ?_)
      · have hf := (if_pos c24).symm.trans hf
        exact J45 _ _ _ _ _ _ _ hf hP hS (lv_sub hl [0, 1, 2] rfl)
      · have hf := (if_neg c24).symm.trans hf
        refine lv_aload_n hx hb dX8_setRule_27 rfl (lv_at hl 0 rfl) ?_
        obtain ⟨v28, e28, hf⟩ := zb hf
        refine zr_gr (ci := 8) (k := 1) (C := RX8) (T := TX8) (N := 7) hx hb hts hi_X8_setRule_8 hown hK hP e28 rfl rfl (by decide) (by decide) (hts (.fieldLink RX8 21 "BoundaryAnalyzer" "pattern" "LBoundaryAnalyzer$Row;") (List.mem_of_getElem? (i := 1) rfl)) dX8_setRule_28 ?_
        obtain ⟨r31, e31, hf⟩ := zb hf
        refine zc_i hS (va_runS (As := [.ref (b + v28)]) (rest := []) ⟨hx, hb, hml, hown, hts⟩ (k_X8_faultOf l D cy b M0  v28 r31 e31) (va_cwS 1 hts gX8_setRule_X8_faultOf rfl rfl rfl (by decide +kernel) ⟨Nat.le_of_ble_eq_true rfl, Nat.le_of_ble_eq_true rfl⟩) (zp_S _ hK hP) rfl rfl hl.1 rfl (lv_room (Nat.le_of_ble_eq_true rfl)) dX8_setRule_31 ⟨Nat.zero_le _, Nat.zero_le _⟩) (fun H locs hP hS => ?_)
        refine lv_istore_n (lv' := [(3, .int r31.1), (0, .ref (b + p0)), (1, .int p1), (2, .int p2)]) hx hb dX8_setRule_34 rfl hl (by decide) rfl (fun ls hl => ?_)
        refine lv_iload_n hx hb dX8_setRule_35 rfl (lv_at hl 0 rfl) ?_
        refine lv_iconst (v := (-1 : Int32)) hx hb dX8_setRule_36 (by decide) ?_
        refine lv_icmp_eq (tgt := 45) hx hb dX8_setRule_37 (by decide) (fun c37 => ?_) (fun c37 => ?_)
        · have hf := (if_pos c37).symm.trans hf
          exact J45 _ _ _ _ _ _ _ hf hP hS (lv_sub hl [1, 2, 3] rfl)
        · have hf := (if_neg c37).symm.trans hf
          refine lv_bipush (v := (-100 : Int32)) hx hb dX8_setRule_40 (by decide) ?_
          refine lv_iload_n hx hb dX8_setRule_42 rfl (lv_at hl 0 rfl) ?_
          refine lv_isub hx hb dX8_setRule_43 ?_
          exact zret_i hx hb hr hlocks hf hP hS dX8_setRule_44
    · have hf := (if_pos c11).symm.trans hf
      refine lv_bipush (v := (-2 : Int32)) hx hb dX8_setRule_14 (by decide) ?_
      exact zret_i hx hb hr hlocks hf hP hS dX8_setRule_16
