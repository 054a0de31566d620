theorem hi_X8_carryOut_0 : ∀ w ∈ wsX00, w ∈ wsX8_carryOut := fun _ h => List.mem_cons_of_mem _ (List.mem_append_left _ (List.mem_append_left _ (List.mem_append_left _ (List.mem_append_right _ h))))
theorem hi_X8_carryOut_2 : ∀ w ∈ wsX20, w ∈ wsX8_carryOut := fun _ h => List.mem_cons_of_mem _ (List.mem_append_left _ (List.mem_append_left _ (List.mem_append_right _ h)))
theorem hi_X8_carryOut_4 : ∀ w ∈ wsX40, w ∈ wsX8_carryOut := fun _ h => List.mem_cons_of_mem _ (List.mem_append_left _ (List.mem_append_left _ (List.mem_append_left _ (List.mem_append_left _ (List.mem_append_right _ h)))))
theorem hi_X8_carryOut_7 : ∀ w ∈ wsX70, w ∈ wsX8_carryOut := fun _ h => List.mem_cons_of_mem _ (List.mem_append_left _ (List.mem_append_left _ (List.mem_append_left _ (List.mem_append_left _ (List.mem_append_left _ (List.mem_append_right _ h))))))
theorem hi_X8_carryOut_8 : ∀ w ∈ wsX80, w ∈ wsX8_carryOut := fun _ h => List.mem_cons_of_mem _ (List.mem_append_left _ (List.mem_append_left _ (List.mem_append_left _ (List.mem_append_left _ (List.mem_append_left _ (List.mem_append_left _ (List.mem_append_right _ h)))))))
set_option maxHeartbeats 4000000 in
set_option maxRecDepth 100000 in
theorem k_X8_carryOut (l : Launch) (D : va_G) (cy : Nat → ClassId) (b : Nat) (M0 : Mem) (p0 : Nat) (p1 : Nat) (p2 : Int32) (rr : Mem) (hf : fX8_carryOut M0 p0 p1 p2 = some rr) : Met l yX8_carryOut wsX8_carryOut ({ frames := 5, cells := 0, slots := 0, locals := 142 } : Room) (zPc D cy b M0 [.ref (b + p0), .ref (b + p1), .int p2]) (zQv D cy b rr) 0 0 (zA b) := by
  refine Met.ofW (cc := cX8_carryOut) (maxL := 10) (ret := none) (by decide) rfl ?_
  intro p e s m args below meth c s₁ B hml hv
  obtain ⟨rfl, hP, hK⟩ := hv
  have hx := B.exec
  have hb := B.bytes
  have hr := B.returns
  have hts := atoms_spec (ws := wsX8_carryOut) B.pre
  have hown : s.vm.findClass RX8 = some m.cls := findClass_of_methodNamed B.named
  have hlocks := B.notSynchronized
  have hS : va_S (zA b) s.heap s.heap [] := va_S.rf
  have hl := lv_entry ([.ref (b + p0), .ref (b + p1), .int p2]) (n := 10) (Nat.le_of_ble_eq_true rfl)
  rw [lg_entry_eq]
  generalize (lg_sl ([.ref (b + p0), .ref (b + p1), .int p2]) ++ List.replicate (10 - (lg_sl ([.ref (b + p0), .ref (b + p1), .int p2])).length) Slot.unset).toArray = ls at hl ⊢
  have hl : lv_has ls 10 [(0, .ref (b + p0)), (1, .ref (b + p1)), (2, .int p2)] := hl
  have L82 : ∀ (n82 : Nat) (M : Mem) (H : Heap) (locs : List Loc) (ls : Array Slot) (h0 : Nat) (x2 : Int32) (x3 : Int32) (x4 : Int32) (x5 : Int32) (x6 : Int32) (x7 : Int32), fX8_carryOut_82L  n82 M h0 x2 x3 x4 x5 x6 x7 = some rr → zH D cy b M H → va_S (zA b) s.heap H locs → lv_has ls 10 [(0, .ref (b + h0)), (2, .int x2), (3, .int x3), (4, .int x4), (5, .int x5), (6, .int x6), (7, .int x7)] → W p l e (headSpec wsX8_carryOut ({ frames := 5, cells := 0, slots := 0, locals := 142 } : Room)).room s m ([.ref (b + p0), .ref (b + p1), .int p2] : List Value).toArray below meth c H locs 0 0 (MQ below (zQv D cy b rr) ([.ref (b + p0), .ref (b + p1), .int p2] : List Value).toArray s 0 0 (zA b)) (F0 m 82 ls []) := by
    intro n82
    induction n82 with
    | zero =>
      intro M H locs ls h0 x2 x3 x4 x5 x6 x7 hf
      have hf : (none : Option Mem) = some rr := hf
      cases hf
    | succ n82 ih82 =>
      have J134 : ∀ (M : Mem) (H : Heap) (locs : List Loc) (ls : Array Slot) (h0 : Nat) (x2 : Int32) (x3 : Int32) (x4 : Int32) (x5 : Int32) (x6 : Int32) (x7 : Int32) (h8 : Nat) (x9 : Int32), fX8_carryOut_134 (fX8_carryOut_82L  n82) M h0 x2 x3 x4 x5 x6 x7 h8 x9 = some rr → zH D cy b M H → va_S (zA b) s.heap H locs → lv_has ls 10 [(0, .ref (b + h0)), (2, .int x2), (3, .int x3), (4, .int x4), (5, .int x5), (6, .int x6), (7, .int x7), (8, .ref (b + h8)), (9, .int x9)] → W p l e (headSpec wsX8_carryOut ({ frames := 5, cells := 0, slots := 0, locals := 142 } : Room)).room s m ([.ref (b + p0), .ref (b + p1), .int p2] : List Value).toArray below meth c H locs 0 0 (MQ below (zQv D cy b rr) ([.ref (b + p0), .ref (b + p1), .int p2] : List Value).toArray s 0 0 (zA b)) (F0 m 134 ls []) := by
        intro M H locs ls h0 x2 x3 x4 x5 x6 x7 h8 x9 hf hP hS hl
        unfold fX8_carryOut_134 at hf
        refine lv_aload hx hb dX8_carryOut_134 (lv_at hl 7 rfl) ?_
        refine lv_aload_n hx hb dX8_carryOut_136 rfl (lv_at hl 0 rfl) ?_
        obtain ⟨v137, e137, hf⟩ := zb hf
        refine zr_gr (ci := 8) (k := 0) (C := RX8) (T := TX8) (N := 7) hx hb hts hi_X8_carryOut_8 hown hK hP e137 rfl rfl (by decide) (by decide) (hts (.fieldLink RX8 10 "BoundaryAnalyzer" "text" "LBoundaryAnalyzer$Text;") (List.mem_of_getElem? (i := 1) rfl)) dX8_carryOut_137 ?_
        refine lv_iload hx hb dX8_carryOut_140 (lv_at hl 8 rfl) ?_
        refine lv_iload hx hb dX8_carryOut_142 (lv_at hl 5 rfl) ?_
        obtain ⟨u144, t144, hf⟩ := zb hf
        obtain ⟨M144, e144, hf⟩ := zb hf
        refine zc_v hS (va_runV (As := [.ref (b + v137), .int x9, .int x6]) (rest := []) ⟨hx, hb, hml, hown, hts⟩ (k_X2_analyse l D cy b M h8 v137 x9 x6 M144 e144) (cwV 3 hts gX8_carryOut_X2_analyse rfl rfl rfl (by decide +kernel) ⟨Nat.le_of_ble_eq_true rfl, Nat.le_of_ble_eq_true rfl⟩) (zp_V _ hK hP t144 (T := TX2) (N := 5) rfl (by decide)) rfl rfl hl.1 rfl (lv_room (Nat.le_of_ble_eq_true rfl)) dX8_carryOut_144 ⟨Nat.zero_le _, Nat.zero_le _⟩) (fun H locs hP hS => ?_)
        obtain ⟨x7_147, q147, hf⟩ := zlt_s hf
        refine lv_iinc (v := x7_147) (lv' := [(7, .int x7_147), (0, .ref (b + h0)), (2, .int x2), (3, .int x3), (4, .int x4), (5, .int x5), (6, .int x6), (8, .ref (b + h8)), (9, .int x9)]) hx hb dX8_carryOut_147 hl (k := 6) rfl (by rw [← q147]; rfl) (by decide) rfl (fun ls hl => ?_)
        refine lv_goto (tgt := 82) hx hb dX8_carryOut_150 (by decide) ?_
        exact ih82 _ _ _ _ _ _ _ _ _ _ _ hf hP hS (lv_sub hl [1, 2, 3, 4, 5, 6, 0] rfl)
      intro M H locs ls h0 x2 x3 x4 x5 x6 x7 hf hP hS hl
      have hf : fX8_carryOut_82  (fX8_carryOut_82L  n82) M h0 x2 x3 x4 x5 x6 x7 = some rr := hf
      unfold fX8_carryOut_82 at hf
      refine lv_iload hx hb dX8_carryOut_82 (lv_at hl 6 rfl) ?_
      refine lv_iconst (v := (3 : Int32)) hx hb dX8_carryOut_84 (by decide) ?_
      refine lv_icmp_ge (tgt := 153) hx hb dX8_carryOut_85 (by decide) (fun c85 => ?_) (fun c85 => ?_)
      · have hf := (if_pos c85).symm.trans hf
        exact zret_v hx hb hr hlocks hf hP hS dX8_carryOut_153
      · have hf := (if_neg c85).symm.trans hf
        refine lv_aload_n hx hb dX8_carryOut_88 rfl (lv_at hl 0 rfl) ?_
        obtain ⟨v89, e89, hf⟩ := zb hf
        refine zr_gr (ci := 8) (k := 2) (C := RX8) (T := TX8) (N := 7) hx hb hts hi_X8_carryOut_8 hown hK hP e89 rfl rfl (by decide) (by decide) (hts (.fieldLink RX8 27 "BoundaryAnalyzer" "kinds" "[LBoundaryAnalyzer$Kind;") (List.mem_of_getElem? (i := 6) rfl)) dX8_carryOut_89 ?_
        refine lv_iload hx hb dX8_carryOut_92 (lv_at hl 6 rfl) ?_
        obtain ⟨v94, e94, hf⟩ := zb hf
        refine zr_aa (t0 := 4) hx hb hK hP e94 (by decide) rfl dX8_carryOut_94 ?_
        refine lv_astore (lv' := [(8, .ref (b + v94)), (0, .ref (b + h0)), (2, .int x2), (3, .int x3), (4, .int x4), (5, .int x5), (6, .int x6), (7, .int x7)]) hx hb dX8_carryOut_95 hl (by decide) rfl (fun ls hl => ?_)
        refine lv_aload hx hb dX8_carryOut_97 (lv_at hl 0 rfl) ?_
        refine lv_iload hx hb dX8_carryOut_99 (lv_at hl 4 rfl) ?_
        refine lv_iload_n hx hb dX8_carryOut_101 rfl (lv_at hl 3 rfl) ?_
        obtain ⟨u102, t102, hf⟩ := zb hf
        obtain ⟨r102, e102, hf⟩ := zb hf
        refine zc_i hS (va_runV (As := [.int x4, .int x3]) (rest := []) ⟨hx, hb, hml, hown, hts⟩ (k_X2_firstTouched l D cy b M v94 x4 x3 r102 e102) (cwV 2 hts gX8_carryOut_X2_firstTouched rfl rfl rfl (by decide +kernel) ⟨Nat.le_of_ble_eq_true rfl, Nat.le_of_ble_eq_true rfl⟩) (zp_V _ hK hP t102 (T := TX2) (N := 5) rfl (by decide)) rfl rfl hl.1 rfl (lv_room (Nat.le_of_ble_eq_true rfl)) dX8_carryOut_102 ⟨Nat.zero_le _, Nat.zero_le _⟩) (fun H locs hP hS => ?_)
        refine lv_istore (lv' := [(9, .int r102.1), (8, .ref (b + v94)), (0, .ref (b + h0)), (2, .int x2), (3, .int x3), (4, .int x4), (5, .int x5), (6, .int x6), (7, .int x7)]) hx hb dX8_carryOut_105 hl (by decide) rfl (fun ls hl => ?_)
        refine lv_iload_n hx hb dX8_carryOut_107 rfl (lv_at hl 3 rfl) ?_
        refine lv_if_eq (tgt := 124) hx hb dX8_carryOut_108 (by decide) (fun c108 => ?_) (fun c108 => ?_)
        · have hf := (if_pos c108).symm.trans hf
          refine lv_aload hx hb dX8_carryOut_124 (lv_at hl 1 rfl) ?_
          refine lv_iload hx hb dX8_carryOut_126 (lv_at hl 5 rfl) ?_
          refine lv_iload hx hb dX8_carryOut_128 (lv_at hl 6 rfl) ?_
          refine lv_iload_n hx hb dX8_carryOut_130 rfl (lv_at hl 4 rfl) ?_
          obtain ⟨u131, t131, hf⟩ := zb hf
          obtain ⟨M131, e131, hf⟩ := zb hf
          refine zc_v hS (va_runV (As := [.int x4, .int x5, .int x3]) (rest := []) ⟨hx, hb, hml, hown, hts⟩ (k_X2_moveDown l D cy b r102.2 v94 x4 x5 x3 M131 e131) (cwV 3 hts gX8_carryOut_X2_moveDown rfl rfl rfl (by decide +kernel) ⟨Nat.le_of_ble_eq_true rfl, Nat.le_of_ble_eq_true rfl⟩) (zp_V _ hK hP t131 (T := TX2) (N := 5) rfl (by decide)) rfl rfl hl.1 rfl (lv_room (Nat.le_of_ble_eq_true rfl)) dX8_carryOut_131 ⟨Nat.zero_le _, Nat.zero_le _⟩) (fun H locs hP hS => ?_)
          exact J134 _ _ _ _ _ _ _ _ _ _ _ _ _ hf hP hS (lv_sub hl [2, 3, 4, 5, 6, 7, 8, 1, 0] rfl)
        · have hf := (if_neg c108).symm.trans hf
          refine lv_aload hx hb dX8_carryOut_111 (lv_at hl 1 rfl) ?_
          refine lv_iload hx hb dX8_carryOut_113 (lv_at hl 5 rfl) ?_
          refine lv_iload hx hb dX8_carryOut_115 (lv_at hl 6 rfl) ?_
          refine lv_iload_n hx hb dX8_carryOut_117 rfl (lv_at hl 4 rfl) ?_
          obtain ⟨u118, t118, hf⟩ := zb hf
          obtain ⟨M118, e118, hf⟩ := zb hf
          refine zc_v hS (va_runV (As := [.int x4, .int x5, .int x3]) (rest := []) ⟨hx, hb, hml, hown, hts⟩ (k_X2_moveUp l D cy b r102.2 v94 x4 x5 x3 M118 e118) (cwV 3 hts gX8_carryOut_X2_moveUp rfl rfl rfl (by decide +kernel) ⟨Nat.le_of_ble_eq_true rfl, Nat.le_of_ble_eq_true rfl⟩) (zp_V _ hK hP t118 (T := TX2) (N := 5) rfl (by decide)) rfl rfl hl.1 rfl (lv_room (Nat.le_of_ble_eq_true rfl)) dX8_carryOut_118 ⟨Nat.zero_le _, Nat.zero_le _⟩) (fun H locs hP hS => ?_)
          refine lv_goto (tgt := 134) hx hb dX8_carryOut_121 (by decide) ?_
          exact J134 _ _ _ _ _ _ _ _ _ _ _ _ _ hf hP hS (lv_sub hl [2, 3, 4, 5, 6, 7, 8, 1, 0] rfl)
  have J77 : ∀ (M : Mem) (H : Heap) (locs : List Loc) (ls : Array Slot) (h0 : Nat) (x2 : Int32) (x3 : Int32) (x4 : Int32) (x5 : Int32) (y0 : Int32), fX8_carryOut_77  M h0 x2 x3 x4 x5 y0 = some rr → zH D cy b M H → va_S (zA b) s.heap H locs → lv_has ls 10 [(0, .ref (b + h0)), (2, .int x2), (3, .int x3), (4, .int x4), (5, .int x5)] → W p l e (headSpec wsX8_carryOut ({ frames := 5, cells := 0, slots := 0, locals := 142 } : Room)).room s m ([.ref (b + p0), .ref (b + p1), .int p2] : List Value).toArray below meth c H locs 0 0 (MQ below (zQv D cy b rr) ([.ref (b + p0), .ref (b + p1), .int p2] : List Value).toArray s 0 0 (zA b)) (F0 m 77 ls [.int y0]) := by
    intro M H locs ls h0 x2 x3 x4 x5 y0 hf hP hS hl
    unfold fX8_carryOut_77 at hf
    refine lv_istore (lv' := [(6, .int y0), (0, .ref (b + h0)), (2, .int x2), (3, .int x3), (4, .int x4), (5, .int x5)]) hx hb dX8_carryOut_77 hl (by decide) rfl (fun ls hl => ?_)
    refine lv_iconst (v := (0 : Int32)) hx hb dX8_carryOut_79 (by decide) ?_
    refine lv_istore (lv' := [(7, .int (0 : Int32)), (6, .int y0), (0, .ref (b + h0)), (2, .int x2), (3, .int x3), (4, .int x4), (5, .int x5)]) hx hb dX8_carryOut_80 hl (by decide) rfl (fun ls hl => ?_)
    exact L82 _ _ _ _ _ _ _ _ _ _ _ _ hf hP hS (lv_sub hl [2, 3, 4, 5, 6, 1, 0] rfl)
  have J63 : ∀ (M : Mem) (H : Heap) (locs : List Loc) (ls : Array Slot) (h0 : Nat) (x2 : Int32) (x3 : Int32) (x4 : Int32) (x5 : Int32), fX8_carryOut_63  M h0 x2 x3 x4 x5 = some rr → zH D cy b M H → va_S (zA b) s.heap H locs → lv_has ls 10 [(0, .ref (b + h0)), (2, .int x2), (3, .int x3), (4, .int x4), (5, .int x5)] → W p l e (headSpec wsX8_carryOut ({ frames := 5, cells := 0, slots := 0, locals := 142 } : Room)).room s m ([.ref (b + p0), .ref (b + p1), .int p2] : List Value).toArray below meth c H locs 0 0 (MQ below (zQv D cy b rr) ([.ref (b + p0), .ref (b + p1), .int p2] : List Value).toArray s 0 0 (zA b)) (F0 m 63 ls []) := by
    intro M H locs ls h0 x2 x3 x4 x5 hf hP hS hl
    unfold fX8_carryOut_63 at hf
    refine lv_iload_n hx hb dX8_carryOut_63 rfl (lv_at hl 1 rfl) ?_
    refine lv_if_eq (tgt := 75) hx hb dX8_carryOut_64 (by decide) (fun c64 => ?_) (fun c64 => ?_)
    · have hf := (if_pos c64).symm.trans hf
      refine lv_iload hx hb dX8_carryOut_75 (lv_at hl 3 rfl) ?_
      exact J77 _ _ _ _ _ _ _ _ _ _ hf hP hS (lv_sub hl [0, 1, 2, 3, 4] rfl)
    · have hf := (if_neg c64).symm.trans hf
      refine lv_iload hx hb dX8_carryOut_67 (lv_at hl 3 rfl) ?_
      refine lv_iload hx hb dX8_carryOut_69 (lv_at hl 4 rfl) ?_
      refine lv_iadd hx hb dX8_carryOut_71 ?_
      refine lv_goto (tgt := 77) hx hb dX8_carryOut_72 (by decide) ?_
      exact J77 _ _ _ _ _ _ _ _ _ _ hf hP hS (lv_sub hl [0, 1, 2, 3, 4] rfl)
  unfold fX8_carryOut at hf
  refine lv_aload_n hx hb dX8_carryOut_0 rfl (lv_at hl 0 rfl) ?_
  obtain ⟨v1, e1, hf⟩ := zb hf
  refine zr_gr (ci := 8) (k := 0) (C := RX8) (T := TX8) (N := 7) hx hb hts hi_X8_carryOut_8 hown hK hP e1 rfl rfl (by decide) (by decide) (hts (.fieldLink RX8 10 "BoundaryAnalyzer" "text" "LBoundaryAnalyzer$Text;") (List.mem_of_getElem? (i := 1) rfl)) dX8_carryOut_1 ?_
  obtain ⟨v4, e4, hf⟩ := zb hf
  refine zr_gr (ci := 7) (k := 0) (C := RX7) (T := TX7) (N := 2) hx hb hts hi_X8_carryOut_7 hown hK hP e4 rfl rfl (by decide) (by decide) (hts (.fieldLink RX8 134 "BoundaryAnalyzer$Text" "signs" "LBoundaryAnalyzer$Row;") (List.mem_of_getElem? (i := 2) rfl)) dX8_carryOut_4 ?_
  obtain ⟨v7, e7, hf⟩ := zb hf
  refine zr_gi (ci := 4) (k := 1) (C := RX4) (T := TX4) (N := 2) hx hb hts hi_X8_carryOut_4 hown hK hP e7 rfl rfl (by decide) (by decide) (hts (.fieldLink RX8 70 "BoundaryAnalyzer$Row" "size" "I") (List.mem_of_getElem? (i := 3) rfl)) dX8_carryOut_7 ?_
  refine lv_istore_n (lv' := [(3, .int v7), (0, .ref (b + p0)), (1, .ref (b + p1)), (2, .int p2)]) hx hb dX8_carryOut_10 rfl hl (by decide) rfl (fun ls hl => ?_)
  refine lv_aload_n hx hb dX8_carryOut_11 rfl (lv_at hl 2 rfl) ?_
  obtain ⟨v12, e12, hf⟩ := zb hf
  refine zr_gi (ci := 0) (k := 2) (C := RX0) (T := TX0) (N := 3) hx hb hts hi_X8_carryOut_0 hown hK hP e12 rfl rfl (by decide) (by decide) (hts (.fieldLink RX8 145 "BoundaryAnalyzer$Edit" "position" "I") (List.mem_of_getElem? (i := 4) rfl)) dX8_carryOut_12 ?_
  refine lv_istore (lv' := [(4, .int v12), (3, .int v7), (0, .ref (b + p0)), (1, .ref (b + p1)), (2, .int p2)]) hx hb dX8_carryOut_15 hl (by decide) rfl (fun ls hl => ?_)
  refine lv_aload_n hx hb dX8_carryOut_17 rfl (lv_at hl 3 rfl) ?_
  obtain ⟨v18, e18, hf⟩ := zb hf
  refine zr_gr (ci := 0) (k := 0) (C := RX0) (T := TX0) (N := 3) hx hb hts hi_X8_carryOut_0 hown hK hP e18 rfl rfl (by decide) (by decide) (hts (.fieldLink RX8 148 "BoundaryAnalyzer$Edit" "signs" "LBoundaryAnalyzer$Row;") (List.mem_of_getElem? (i := 5) rfl)) dX8_carryOut_18 ?_
  obtain ⟨v21, e21, hf⟩ := zb hf
  refine zr_gi (ci := 4) (k := 1) (C := RX4) (T := TX4) (N := 2) hx hb hts hi_X8_carryOut_4 hown hK hP e21 rfl rfl (by decide) (by decide) (hts (.fieldLink RX8 70 "BoundaryAnalyzer$Row" "size" "I") (List.mem_of_getElem? (i := 3) rfl)) dX8_carryOut_21 ?_
  refine lv_istore (lv' := [(5, .int v21), (4, .int v12), (3, .int v7), (0, .ref (b + p0)), (1, .ref (b + p1)), (2, .int p2)]) hx hb dX8_carryOut_24 hl (by decide) rfl (fun ls hl => ?_)
  refine lv_iload_n hx hb dX8_carryOut_26 rfl (lv_at hl 5 rfl) ?_
  refine lv_if_eq (tgt := 49) hx hb dX8_carryOut_27 (by decide) (fun c27 => ?_) (fun c27 => ?_)
  · have hf := (if_pos c27).symm.trans hf
    refine lv_aload_n hx hb dX8_carryOut_49 rfl (lv_at hl 3 rfl) ?_
    obtain ⟨v50, e50, hf⟩ := zb hf
    refine zr_gr (ci := 8) (k := 0) (C := RX8) (T := TX8) (N := 7) hx hb hts hi_X8_carryOut_8 hown hK hP e50 rfl rfl (by decide) (by decide) (hts (.fieldLink RX8 10 "BoundaryAnalyzer" "text" "LBoundaryAnalyzer$Text;") (List.mem_of_getElem? (i := 1) rfl)) dX8_carryOut_50 ?_
    obtain ⟨v53, e53, hf⟩ := zb hf
    refine zr_gr (ci := 7) (k := 0) (C := RX7) (T := TX7) (N := 2) hx hb hts hi_X8_carryOut_7 hown hK hP e53 rfl rfl (by decide) (by decide) (hts (.fieldLink RX8 134 "BoundaryAnalyzer$Text" "signs" "LBoundaryAnalyzer$Row;") (List.mem_of_getElem? (i := 2) rfl)) dX8_carryOut_53 ?_
    refine lv_iload hx hb dX8_carryOut_56 (lv_at hl 1 rfl) ?_
    refine lv_iload hx hb dX8_carryOut_58 (lv_at hl 0 rfl) ?_
    obtain ⟨u60, t60, hf⟩ := zb hf
    obtain ⟨M60, e60, hf⟩ := zb hf
    refine zc_v hS (va_runV (As := [.int v12, .int v21]) (rest := []) ⟨hx, hb, hml, hown, hts⟩ (k_X4_takeOut l D cy b M0 v53 v12 v21 M60 e60) (cwV 2 hts gX8_carryOut_X4_takeOut rfl rfl rfl (by decide +kernel) ⟨Nat.le_of_ble_eq_true rfl, Nat.le_of_ble_eq_true rfl⟩) (zp_V _ hK hP t60 (T := TX4) (N := 2) rfl (by decide)) rfl rfl hl.1 rfl (lv_room (Nat.le_of_ble_eq_true rfl)) dX8_carryOut_60 ⟨Nat.zero_le _, Nat.zero_le _⟩) (fun H locs hP hS => ?_)
    exact J63 _ _ _ _ _ _ _ _ _ hf hP hS (lv_sub hl [3, 5, 2, 1, 0] rfl)
  · have hf := (if_neg c27).symm.trans hf
    refine lv_aload_n hx hb dX8_carryOut_30 rfl (lv_at hl 3 rfl) ?_
    obtain ⟨v31, e31, hf⟩ := zb hf
    refine zr_gr (ci := 8) (k := 0) (C := RX8) (T := TX8) (N := 7) hx hb hts hi_X8_carryOut_8 hown hK hP e31 rfl rfl (by decide) (by decide) (hts (.fieldLink RX8 10 "BoundaryAnalyzer" "text" "LBoundaryAnalyzer$Text;") (List.mem_of_getElem? (i := 1) rfl)) dX8_carryOut_31 ?_
    obtain ⟨v34, e34, hf⟩ := zb hf
    refine zr_gr (ci := 7) (k := 0) (C := RX7) (T := TX7) (N := 2) hx hb hts hi_X8_carryOut_7 hown hK hP e34 rfl rfl (by decide) (by decide) (hts (.fieldLink RX8 134 "BoundaryAnalyzer$Text" "signs" "LBoundaryAnalyzer$Row;") (List.mem_of_getElem? (i := 2) rfl)) dX8_carryOut_34 ?_
    refine lv_iload hx hb dX8_carryOut_37 (lv_at hl 1 rfl) ?_
    refine lv_aload_n hx hb dX8_carryOut_39 rfl (lv_at hl 4 rfl) ?_
    obtain ⟨v40, e40, hf⟩ := zb hf
    refine zr_gr (ci := 0) (k := 0) (C := RX0) (T := TX0) (N := 3) hx hb hts hi_X8_carryOut_0 hown hK hP e40 rfl rfl (by decide) (by decide) (hts (.fieldLink RX8 148 "BoundaryAnalyzer$Edit" "signs" "LBoundaryAnalyzer$Row;") (List.mem_of_getElem? (i := 5) rfl)) dX8_carryOut_40 ?_
    obtain ⟨u43, t43, hf⟩ := zb hf
    obtain ⟨M43, e43, hf⟩ := zb hf
    refine zc_v hS (va_runV (As := [.int v12, .ref (b + v40)]) (rest := []) ⟨hx, hb, hml, hown, hts⟩ (k_X4_putIn l D cy b M0 v34 v12 v40 M43 e43) (cwV 2 hts gX8_carryOut_X4_putIn rfl rfl rfl (by decide +kernel) ⟨Nat.le_of_ble_eq_true rfl, Nat.le_of_ble_eq_true rfl⟩) (zp_V _ hK hP t43 (T := TX4) (N := 2) rfl (by decide)) rfl rfl hl.1 rfl (lv_room (Nat.le_of_ble_eq_true rfl)) dX8_carryOut_43 ⟨Nat.zero_le _, Nat.zero_le _⟩) (fun H locs hP hS => ?_)
    refine lv_goto (tgt := 63) hx hb dX8_carryOut_46 (by decide) ?_
    exact J63 _ _ _ _ _ _ _ _ _ hf hP hS (lv_sub hl [3, 5, 2, 1, 0] rfl)
