theorem hi_X6_build_3 : ∀ w ∈ wsX30, w ∈ wsX6_build := fun _ h => List.mem_cons_of_mem _ (List.mem_append_right _ h)
theorem hi_X6_build_4 : ∀ w ∈ wsX40, w ∈ wsX6_build := fun _ h => List.mem_cons_of_mem _ (List.mem_append_left _ (List.mem_append_right _ h))
theorem hi_X6_build_5 : ∀ w ∈ wsX50, w ∈ wsX6_build := fun _ h => List.mem_cons_of_mem _ (List.mem_append_left _ (List.mem_append_left _ (List.mem_append_left _ (List.mem_append_right _ h))))
theorem hi_X6_build_6 : ∀ w ∈ wsX60, w ∈ wsX6_build := fun _ h => List.mem_cons_of_mem _ (List.mem_append_left _ (List.mem_append_left _ (List.mem_append_right _ h)))
set_option maxHeartbeats 4000000 in
set_option maxRecDepth 100000 in
theorem k_X6_build (l : Launch) (D : va_G) (cy : Nat → ClassId) (b : Nat) (M0 : Mem) (p0 : Nat) (p1 : Nat) (rr : Mem) (hf : fX6_build M0 p0 p1 = some rr) : Met l yX6_build wsX6_build ({ frames := 4, cells := 0, slots := 0, locals := 86 } : Room) (zPc D cy b M0 [.ref (b + p0), .ref (b + p1)]) (zQv D cy b rr) 0 0 (zA b) := by
  refine Met.ofW (cc := cX6_build) (maxL := 5) (ret := none) (by decide) rfl ?_
  intro p e s m args below meth c s₁ B hml hv
  obtain ⟨rfl, hP, hK⟩ := hv
  have hx := B.exec
  have hb := B.bytes
  have hr := B.returns
  have hts := atoms_spec (ws := wsX6_build) B.pre
  have hown : s.vm.findClass RX6 = some m.cls := findClass_of_methodNamed B.named
  have hlocks := B.notSynchronized
  have hS : va_S (zA b) s.heap s.heap [] := va_S.rf
  have hl := lv_entry ([.ref (b + p0), .ref (b + p1)]) (n := 5) (Nat.le_of_ble_eq_true rfl)
  rw [lg_entry_eq]
  generalize (lg_sl ([.ref (b + p0), .ref (b + p1)]) ++ List.replicate (5 - (lg_sl ([.ref (b + p0), .ref (b + p1)])).length) Slot.unset).toArray = ls at hl ⊢
  have hl : lv_has ls 5 [(0, .ref (b + p0)), (1, .ref (b + p1))] := hl
  have L39 : ∀ (n39 : Nat) (M : Mem) (H : Heap) (locs : List Loc) (ls : Array Slot) (h0 : Nat) (h1 : Nat) (h2 : Nat) (x3 : Int32), fX6_build_39L  n39 M h0 h1 h2 x3 = some rr → zH D cy b M H → va_S (zA b) s.heap H locs → lv_has ls 5 [(0, .ref (b + h0)), (1, .ref (b + h1)), (2, .ref (b + h2)), (3, .int x3)] → W p l e (headSpec wsX6_build ({ frames := 4, cells := 0, slots := 0, locals := 86 } : Room)).room s m ([.ref (b + p0), .ref (b + p1)] : List Value).toArray below meth c H locs 0 0 (MQ below (zQv D cy b rr) ([.ref (b + p0), .ref (b + p1)] : List Value).toArray s 0 0 (zA b)) (F0 m 39 ls []) := by
    intro n39
    induction n39 with
    | zero =>
      intro M H locs ls h0 h1 h2 x3 hf
      have hf : (none : Option Mem) = some rr := hf
      cases hf
    | succ n39 ih39 =>
      have J168 : ∀ (M : Mem) (H : Heap) (locs : List Loc) (ls : Array Slot) (h0 : Nat) (h1 : Nat) (h2 : Nat) (x3 : Int32), fX6_build_168 (fX6_build_39L  n39) M h0 h1 h2 x3 = some rr → zH D cy b M H → va_S (zA b) s.heap H locs → lv_has ls 5 [(0, .ref (b + h0)), (1, .ref (b + h1)), (2, .ref (b + h2)), (3, .int x3)] → W p l e (headSpec wsX6_build ({ frames := 4, cells := 0, slots := 0, locals := 86 } : Room)).room s m ([.ref (b + p0), .ref (b + p1)] : List Value).toArray below meth c H locs 0 0 (MQ below (zQv D cy b rr) ([.ref (b + p0), .ref (b + p1)] : List Value).toArray s 0 0 (zA b)) (F0 m 168 ls []) := by
        intro M H locs ls h0 h1 h2 x3 hf hP hS hl
        unfold fX6_build_168 at hf
        obtain ⟨x3_168, q168, hf⟩ := zlt_s hf
        refine lv_iinc (v := x3_168) (lv' := [(3, .int x3_168), (0, .ref (b + h0)), (1, .ref (b + h1)), (2, .ref (b + h2))]) hx hb dX6_build_168 hl (k := 3) rfl (by rw [← q168]; rfl) (by decide) rfl (fun ls hl => ?_)
        refine lv_goto (tgt := 39) hx hb dX6_build_171 (by decide) ?_
        exact ih39 _ _ _ _ _ _ _ _ hf hP hS (lv_sub hl [1, 2, 3, 0] rfl)
      intro M H locs ls h0 h1 h2 x3 hf hP hS hl
      have hf : fX6_build_39  (fX6_build_39L  n39) M h0 h1 h2 x3 = some rr := hf
      unfold fX6_build_39 at hf
      refine lv_iload_n hx hb dX6_build_39 rfl (lv_at hl 3 rfl) ?_
      refine lv_aload_n hx hb dX6_build_40 rfl (lv_at hl 1 rfl) ?_
      obtain ⟨v41, e41, hf⟩ := zb hf
      refine zr_gr (ci := 5) (k := 0) (C := RX5) (T := TX5) (N := 9) hx hb hts hi_X6_build_5 hown hK hP e41 rfl rfl (by decide) (by decide) (hts (.fieldLink RX6 56 "BoundaryAnalyzer$Rule" "signs" "LBoundaryAnalyzer$Row;") (List.mem_of_getElem? (i := 6) rfl)) dX6_build_41 ?_
      obtain ⟨v44, e44, hf⟩ := zb hf
      refine zr_gi (ci := 4) (k := 1) (C := RX4) (T := TX4) (N := 2) hx hb hts hi_X6_build_4 hown hK hP e44 rfl rfl (by decide) (by decide) (hts (.fieldLink RX6 60 "BoundaryAnalyzer$Row" "size" "I") (List.mem_of_getElem? (i := 7) rfl)) dX6_build_44 ?_
      refine lv_icmp_ge (tgt := 174) hx hb dX6_build_47 (by decide) (fun c47 => ?_) (fun c47 => ?_)
      · have hf := (if_pos c47).symm.trans hf
        refine lv_aload_n hx hb dX6_build_174 rfl (lv_at hl 0 rfl) ?_
        refine lv_aload_n hx hb dX6_build_175 rfl (lv_at hl 2 rfl) ?_
        obtain ⟨u176, t176, hf⟩ := zb hf
        obtain ⟨M176, e176, hf⟩ := zb hf
        refine zc_v hS (va_runV (As := [.ref (b + h2)]) (rest := []) ⟨hx, hb, hml, hown, hts⟩ (k_X6_endAlternatives l D cy b M h0 h2 M176 e176) (cwV 1 hts gX6_build_X6_endAlternatives rfl rfl rfl (by decide +kernel) ⟨Nat.le_of_ble_eq_true rfl, Nat.le_of_ble_eq_true rfl⟩) (zp_V _ hK hP t176 (T := TX6) (N := 4) rfl (by decide)) rfl rfl hl.1 rfl (lv_room (Nat.le_of_ble_eq_true rfl)) dX6_build_176 ⟨Nat.zero_le _, Nat.zero_le _⟩) (fun H locs hP hS => ?_)
        exact zret_v hx hb hr hlocks hf hP hS dX6_build_179
      · have hf := (if_neg c47).symm.trans hf
        refine lv_aload_n hx hb dX6_build_50 rfl (lv_at hl 1 rfl) ?_
        obtain ⟨v51, e51, hf⟩ := zb hf
        refine zr_gr (ci := 5) (k := 0) (C := RX5) (T := TX5) (N := 9) hx hb hts hi_X6_build_5 hown hK hP e51 rfl rfl (by decide) (by decide) (hts (.fieldLink RX6 56 "BoundaryAnalyzer$Rule" "signs" "LBoundaryAnalyzer$Row;") (List.mem_of_getElem? (i := 6) rfl)) dX6_build_51 ?_
        refine lv_iload_n hx hb dX6_build_54 rfl (lv_at hl 3 rfl) ?_
        obtain ⟨u55, t55, hf⟩ := zb hf
        obtain ⟨r55, e55, hf⟩ := zb hf
        refine zc_i hS (va_runV (As := [.int x3]) (rest := []) ⟨hx, hb, hml, hown, hts⟩ (k_X4_at l D cy b M v51 x3 r55 e55) (cwV 1 hts gX6_build_X4_at rfl rfl rfl (by decide +kernel) ⟨Nat.le_of_ble_eq_true rfl, Nat.le_of_ble_eq_true rfl⟩) (zp_V _ hK hP t55 (T := TX4) (N := 2) rfl (by decide)) rfl rfl hl.1 rfl (lv_room (Nat.le_of_ble_eq_true rfl)) dX6_build_55 ⟨Nat.zero_le _, Nat.zero_le _⟩) (fun H locs hP hS => ?_)
        refine lv_istore (lv' := [(4, .int r55.1), (0, .ref (b + h0)), (1, .ref (b + h1)), (2, .ref (b + h2)), (3, .int x3)]) hx hb dX6_build_58 hl (by decide) rfl (fun ls hl => ?_)
        refine lv_iload hx hb dX6_build_60 (lv_at hl 0 rfl) ?_
        refine lv_bipush (v := (40 : Int32)) hx hb dX6_build_62 (by decide) ?_
        refine lv_icmp_ne (tgt := 74) hx hb dX6_build_64 (by decide) (fun c64 => ?_) (fun c64 => ?_)
        · have hf := (if_neg c64).symm.trans hf
          refine lv_iload hx hb dX6_build_74 (lv_at hl 0 rfl) ?_
          refine lv_bipush (v := (41 : Int32)) hx hb dX6_build_76 (by decide) ?_
          refine lv_icmp_ne (tgt := 103) hx hb dX6_build_78 (by decide) (fun c78 => ?_) (fun c78 => ?_)
          · have hf := (if_neg c78).symm.trans hf
            refine lv_iload hx hb dX6_build_103 (lv_at hl 0 rfl) ?_
            refine lv_bipush (v := (124 : Int32)) hx hb dX6_build_105 (by decide) ?_
            refine lv_icmp_ne (tgt := 117) hx hb dX6_build_107 (by decide) (fun c107 => ?_) (fun c107 => ?_)
            · have hf := (if_neg c107).symm.trans hf
              refine lv_iload hx hb dX6_build_117 (lv_at hl 0 rfl) ?_
              refine lv_bipush (v := (47 : Int32)) hx hb dX6_build_119 (by decide) ?_
              refine lv_icmp_ne (tgt := 137) hx hb dX6_build_121 (by decide) (fun c121 => ?_) (fun c121 => ?_)
              · have hf := (if_neg c121).symm.trans hf
                refine lv_iload hx hb dX6_build_137 (lv_at hl 0 rfl) ?_
                obtain ⟨v139, e139, hf⟩ := zb hf
                refine zc_p (va_runSN (As := [.int r55.1]) (rest := []) ⟨hx, hb, hml, hown, hts⟩ (k_X8_isClassLetterOrDot l r55.1 v139 e139) ⟨va_cnB 1 hts gX6_build_X8_isClassLetterOrDot_n86 rfl rfl rfl (hK.2.1 _ (List.mem_of_getElem? (i := 5) rfl)) (hts (.initialized RX8) (List.mem_of_getElem? (i := 80) rfl)) (by decide +kernel) ⟨Nat.le_of_ble_eq_true rfl, Nat.le_of_ble_eq_true rfl⟩, (hts (.static yX8_isClassLetterOrDot) (List.mem_of_getElem? (i := 79) rfl)), trivial⟩ (zp_p _) rfl rfl hl.1 rfl (lv_room (Nat.le_of_ble_eq_true rfl)) dX6_build_139 ⟨Nat.zero_le _, Nat.zero_le _⟩) ?_
                refine lv_if_eq (tgt := 168) hx hb dX6_build_142 (by decide) (fun c142 => ?_) (fun c142 => ?_)
                · have hf := (if_pos c142).symm.trans hf
                  exact J168 _ _ _ _ _ _ _ _ hf hP hS (lv_sub hl [1, 2, 3, 4] rfl)
                · have hf := (if_neg c142).symm.trans hf
                  refine lv_aload_n hx hb dX6_build_145 rfl (lv_at hl 1 rfl) ?_
                  refine lv_aload_n hx hb dX6_build_146 rfl (lv_at hl 2 rfl) ?_
                  refine lv_iload_n hx hb dX6_build_147 rfl (lv_at hl 4 rfl) ?_
                  refine lv_iload hx hb dX6_build_148 (lv_at hl 0 rfl) ?_
                  obtain ⟨u150, t150, hf⟩ := zb hf
                  obtain ⟨M150, e150, hf⟩ := zb hf
                  refine zc_v hS (va_runV (As := [.ref (b + h1), .int x3, .int r55.1]) (rest := []) ⟨hx, hb, hml, hown, hts⟩ (k_X6_takeLeaf l D cy b r55.2 h0 h1 x3 r55.1 M150 e150) (cwV 3 hts gX6_build_X6_takeLeaf rfl rfl rfl (by decide +kernel) ⟨Nat.le_of_ble_eq_true rfl, Nat.le_of_ble_eq_true rfl⟩) (zp_V _ hK hP t150 (T := TX6) (N := 4) rfl (by decide)) rfl rfl hl.1 rfl (lv_room (Nat.le_of_ble_eq_true rfl)) dX6_build_150 ⟨Nat.zero_le _, Nat.zero_le _⟩) (fun H locs hP hS => ?_)
                  refine lv_aload_n hx hb dX6_build_153 rfl (lv_at hl 1 rfl) ?_
                  refine lv_aload_n hx hb dX6_build_154 rfl (lv_at hl 2 rfl) ?_
                  refine lv_aload_n hx hb dX6_build_155 rfl (lv_at hl 2 rfl) ?_
                  obtain ⟨v156, e156, hf⟩ := zb hf
                  refine zr_gr (ci := 5) (k := 0) (C := RX5) (T := TX5) (N := 9) hx hb hts hi_X6_build_5 hown hK hP e156 rfl rfl (by decide) (by decide) (hts (.fieldLink RX6 56 "BoundaryAnalyzer$Rule" "signs" "LBoundaryAnalyzer$Row;") (List.mem_of_getElem? (i := 6) rfl)) dX6_build_156 ?_
                  refine lv_iload_n hx hb dX6_build_159 rfl (lv_at hl 4 rfl) ?_
                  refine lv_iconst (v := (1 : Int32)) hx hb dX6_build_160 (by decide) ?_
                  refine lv_iadd hx hb dX6_build_161 ?_
                  obtain ⟨u162, t162, hf⟩ := zb hf
                  obtain ⟨r162, e162, hf⟩ := zb hf
                  refine zc_i hS (va_runV (As := [.int (x3 + (1 : Int32))]) (rest := [.ref (b + h1), .ref (b + h0)]) ⟨hx, hb, hml, hown, hts⟩ (k_X4_at l D cy b M150 v156 (x3 + (1 : Int32)) r162 e162) (cwV 1 hts gX6_build_X4_at rfl rfl rfl (by decide +kernel) ⟨Nat.le_of_ble_eq_true rfl, Nat.le_of_ble_eq_true rfl⟩) (zp_V _ hK hP t162 (T := TX4) (N := 2) rfl (by decide)) rfl rfl hl.1 rfl (lv_room (Nat.le_of_ble_eq_true rfl)) dX6_build_162 ⟨Nat.zero_le _, Nat.zero_le _⟩) (fun H locs hP hS => ?_)
                  obtain ⟨u165, t165, hf⟩ := zb hf
                  obtain ⟨M165, e165, hf⟩ := zb hf
                  refine zc_v hS (va_runV (As := [.ref (b + h1), .int r162.1]) (rest := []) ⟨hx, hb, hml, hown, hts⟩ (k_X6_addItem l D cy b r162.2 h0 h1 r162.1 M165 e165) (cwV 2 hts gX6_build_X6_addItem rfl rfl rfl (by decide +kernel) ⟨Nat.le_of_ble_eq_true rfl, Nat.le_of_ble_eq_true rfl⟩) (zp_V _ hK hP t165 (T := TX6) (N := 4) rfl (by decide)) rfl rfl hl.1 rfl (lv_room (Nat.le_of_ble_eq_true rfl)) dX6_build_165 ⟨Nat.zero_le _, Nat.zero_le _⟩) (fun H locs hP hS => ?_)
                  exact J168 _ _ _ _ _ _ _ _ hf hP hS (lv_sub hl [1, 2, 3, 4] rfl)
              · have hf := (if_pos c121).symm.trans hf
                refine lv_aload_n hx hb dX6_build_124 rfl (lv_at hl 1 rfl) ?_
                refine lv_aload_n hx hb dX6_build_125 rfl (lv_at hl 3 rfl) ?_
                obtain ⟨u126, t126, hf⟩ := zb hf
                obtain ⟨M126, e126, hf⟩ := zb hf
                refine zc_v hS (va_runV (As := [.ref (b + h2)]) (rest := []) ⟨hx, hb, hml, hown, hts⟩ (k_X6_endAlternatives l D cy b r55.2 h0 h2 M126 e126) (cwV 1 hts gX6_build_X6_endAlternatives rfl rfl rfl (by decide +kernel) ⟨Nat.le_of_ble_eq_true rfl, Nat.le_of_ble_eq_true rfl⟩) (zp_V _ hK hP t126 (T := TX6) (N := 4) rfl (by decide)) rfl rfl hl.1 rfl (lv_room (Nat.le_of_ble_eq_true rfl)) dX6_build_126 ⟨Nat.zero_le _, Nat.zero_le _⟩) (fun H locs hP hS => ?_)
                refine lv_aload_n hx hb dX6_build_129 rfl (lv_at hl 2 rfl) ?_
                obtain ⟨v130, e130, hf⟩ := zb hf
                refine zr_gr (ci := 5) (k := 2) (C := RX5) (T := TX5) (N := 9) hx hb hts hi_X6_build_5 hown hK hP e130 rfl rfl (by decide) (by decide) (hts (.fieldLink RX6 43 "BoundaryAnalyzer$Rule" "ahead" "LBoundaryAnalyzer$Part;") (List.mem_of_getElem? (i := 4) rfl)) dX6_build_130 ?_
                refine lv_astore_n (lv' := [(2, .ref (b + v130)), (4, .int r55.1), (0, .ref (b + h0)), (1, .ref (b + h1)), (3, .int x3)]) hx hb dX6_build_133 rfl hl (by decide) rfl (fun ls hl => ?_)
                refine lv_goto (tgt := 168) hx hb dX6_build_134 (by decide) ?_
                exact J168 _ _ _ _ _ _ _ _ hf hP hS (lv_sub hl [2, 3, 0, 4] rfl)
            · have hf := (if_pos c107).symm.trans hf
              refine lv_aload_n hx hb dX6_build_110 rfl (lv_at hl 1 rfl) ?_
              obtain ⟨u111, t111, hf⟩ := zb hf
              obtain ⟨M111, e111, hf⟩ := zb hf
              refine zc_v hS (va_runV (As := []) (rest := []) ⟨hx, hb, hml, hown, hts⟩ (k_X6_endSequence l D cy b r55.2 h0  M111 e111) (cwV 0 hts gX6_build_X6_endSequence rfl rfl rfl (by decide +kernel) ⟨Nat.le_of_ble_eq_true rfl, Nat.le_of_ble_eq_true rfl⟩) (zp_V _ hK hP t111 (T := TX6) (N := 4) rfl (by decide)) rfl rfl hl.1 rfl (lv_room (Nat.le_of_ble_eq_true rfl)) dX6_build_111 ⟨Nat.zero_le _, Nat.zero_le _⟩) (fun H locs hP hS => ?_)
              refine lv_goto (tgt := 168) hx hb dX6_build_114 (by decide) ?_
              exact J168 _ _ _ _ _ _ _ _ hf hP hS (lv_sub hl [1, 2, 3, 4] rfl)
          · have hf := (if_pos c78).symm.trans hf
            refine lv_aload_n hx hb dX6_build_81 rfl (lv_at hl 1 rfl) ?_
            obtain ⟨u82, t82, hf⟩ := zb hf
            obtain ⟨M82, e82, hf⟩ := zb hf
            refine zc_v hS (va_runV (As := []) (rest := []) ⟨hx, hb, hml, hown, hts⟩ (k_X6_goBack l D cy b r55.2 h0  M82 e82) (cwV 0 hts gX6_build_X6_goBack rfl rfl rfl (by decide +kernel) ⟨Nat.le_of_ble_eq_true rfl, Nat.le_of_ble_eq_true rfl⟩) (zp_V _ hK hP t82 (T := TX6) (N := 4) rfl (by decide)) rfl rfl hl.1 rfl (lv_room (Nat.le_of_ble_eq_true rfl)) dX6_build_82 ⟨Nat.zero_le _, Nat.zero_le _⟩) (fun H locs hP hS => ?_)
            refine lv_aload_n hx hb dX6_build_85 rfl (lv_at hl 1 rfl) ?_
            refine lv_aload_n hx hb dX6_build_86 rfl (lv_at hl 2 rfl) ?_
            refine lv_aload_n hx hb dX6_build_87 rfl (lv_at hl 2 rfl) ?_
            obtain ⟨v88, e88, hf⟩ := zb hf
            refine zr_gr (ci := 5) (k := 0) (C := RX5) (T := TX5) (N := 9) hx hb hts hi_X6_build_5 hown hK hP e88 rfl rfl (by decide) (by decide) (hts (.fieldLink RX6 56 "BoundaryAnalyzer$Rule" "signs" "LBoundaryAnalyzer$Row;") (List.mem_of_getElem? (i := 6) rfl)) dX6_build_88 ?_
            refine lv_iload_n hx hb dX6_build_91 rfl (lv_at hl 4 rfl) ?_
            refine lv_iconst (v := (1 : Int32)) hx hb dX6_build_92 (by decide) ?_
            refine lv_iadd hx hb dX6_build_93 ?_
            obtain ⟨u94, t94, hf⟩ := zb hf
            obtain ⟨r94, e94, hf⟩ := zb hf
            refine zc_i hS (va_runV (As := [.int (x3 + (1 : Int32))]) (rest := [.ref (b + h1), .ref (b + h0)]) ⟨hx, hb, hml, hown, hts⟩ (k_X4_at l D cy b M82 v88 (x3 + (1 : Int32)) r94 e94) (cwV 1 hts gX6_build_X4_at rfl rfl rfl (by decide +kernel) ⟨Nat.le_of_ble_eq_true rfl, Nat.le_of_ble_eq_true rfl⟩) (zp_V _ hK hP t94 (T := TX4) (N := 2) rfl (by decide)) rfl rfl hl.1 rfl (lv_room (Nat.le_of_ble_eq_true rfl)) dX6_build_94 ⟨Nat.zero_le _, Nat.zero_le _⟩) (fun H locs hP hS => ?_)
            obtain ⟨u97, t97, hf⟩ := zb hf
            obtain ⟨M97, e97, hf⟩ := zb hf
            refine zc_v hS (va_runV (As := [.ref (b + h1), .int r94.1]) (rest := []) ⟨hx, hb, hml, hown, hts⟩ (k_X6_addItem l D cy b r94.2 h0 h1 r94.1 M97 e97) (cwV 2 hts gX6_build_X6_addItem rfl rfl rfl (by decide +kernel) ⟨Nat.le_of_ble_eq_true rfl, Nat.le_of_ble_eq_true rfl⟩) (zp_V _ hK hP t97 (T := TX6) (N := 4) rfl (by decide)) rfl rfl hl.1 rfl (lv_room (Nat.le_of_ble_eq_true rfl)) dX6_build_97 ⟨Nat.zero_le _, Nat.zero_le _⟩) (fun H locs hP hS => ?_)
            refine lv_goto (tgt := 168) hx hb dX6_build_100 (by decide) ?_
            exact J168 _ _ _ _ _ _ _ _ hf hP hS (lv_sub hl [1, 2, 3, 4] rfl)
        · have hf := (if_pos c64).symm.trans hf
          refine lv_aload_n hx hb dX6_build_67 rfl (lv_at hl 1 rfl) ?_
          obtain ⟨u68, t68, hf⟩ := zb hf
          obtain ⟨M68, e68, hf⟩ := zb hf
          refine zc_v hS (va_runV (As := []) (rest := []) ⟨hx, hb, hml, hown, hts⟩ (k_X6_goDeeper l D cy b r55.2 h0  M68 e68) (cwV 0 hts gX6_build_X6_goDeeper rfl rfl rfl (by decide +kernel) ⟨Nat.le_of_ble_eq_true rfl, Nat.le_of_ble_eq_true rfl⟩) (zp_V _ hK hP t68 (T := TX6) (N := 4) rfl (by decide)) rfl rfl hl.1 rfl (lv_room (Nat.le_of_ble_eq_true rfl)) dX6_build_68 ⟨Nat.zero_le _, Nat.zero_le _⟩) (fun H locs hP hS => ?_)
          refine lv_goto (tgt := 168) hx hb dX6_build_71 (by decide) ?_
          exact J168 _ _ _ _ _ _ _ _ hf hP hS (lv_sub hl [1, 2, 3, 4] rfl)
  unfold fX6_build at hf
  refine lv_aload_n hx hb dX6_build_0 rfl (lv_at hl 1 rfl) ?_
  obtain ⟨v1, e1, hf⟩ := zb hf
  refine zr_gr (ci := 5) (k := 3) (C := RX5) (T := TX5) (N := 9) hx hb hts hi_X6_build_5 hown hK hP e1 rfl rfl (by decide) (by decide) (hts (.fieldLink RX6 25 "BoundaryAnalyzer$Rule" "followers" "[I") (List.mem_of_getElem? (i := 1) rfl)) dX6_build_1 ?_
  refine lv_iconst (v := (0 : Int32)) hx hb dX6_build_4 (by decide) ?_
  obtain ⟨M5, e5, hf⟩ := zb hf
  refine zc_v hS (va_runS (As := [.ref (b + v1), .int (0 : Int32)]) (rest := []) ⟨hx, hb, hml, hown, hts⟩ (k_J7_fill_53178 l D cy b M0  v1 (0 : Int32) M5 e5) (va_cwS 2 hts gX6_build_J7_fill_53178 rfl rfl rfl (by decide +kernel) ⟨Nat.le_of_ble_eq_true rfl, Nat.le_of_ble_eq_true rfl⟩) (zp_S _ hK hP) rfl rfl hl.1 rfl (lv_room (Nat.le_of_ble_eq_true rfl)) dX6_build_5 ⟨Nat.zero_le _, Nat.zero_le _⟩) (fun H locs hP hS => ?_)
  refine lv_aload_n hx hb dX6_build_8 rfl (lv_at hl 1 rfl) ?_
  obtain ⟨v9, e9, hf⟩ := zb hf
  refine zr_gr (ci := 5) (k := 4) (C := RX5) (T := TX5) (N := 9) hx hb hts hi_X6_build_5 hown hK hP e9 rfl rfl (by decide) (by decide) (hts (.fieldLink RX6 37 "BoundaryAnalyzer$Rule" "takers" "[I") (List.mem_of_getElem? (i := 2) rfl)) dX6_build_9 ?_
  refine lv_iconst (v := (0 : Int32)) hx hb dX6_build_12 (by decide) ?_
  obtain ⟨M13, e13, hf⟩ := zb hf
  refine zc_v hS (va_runS (As := [.ref (b + v9), .int (0 : Int32)]) (rest := []) ⟨hx, hb, hml, hown, hts⟩ (k_J7_fill_53178 l D cy b M5  v9 (0 : Int32) M13 e13) (va_cwS 2 hts gX6_build_J7_fill_53178 rfl rfl rfl (by decide +kernel) ⟨Nat.le_of_ble_eq_true rfl, Nat.le_of_ble_eq_true rfl⟩) (zp_S _ hK hP) rfl rfl hl.1 rfl (lv_room (Nat.le_of_ble_eq_true rfl)) dX6_build_13 ⟨Nat.zero_le _, Nat.zero_le _⟩) (fun H locs hP hS => ?_)
  refine lv_aload_n hx hb dX6_build_16 rfl (lv_at hl 1 rfl) ?_
  obtain ⟨v17, e17, hf⟩ := zb hf
  refine zr_gr (ci := 5) (k := 1) (C := RX5) (T := TX5) (N := 9) hx hb hts hi_X6_build_5 hown hK hP e17 rfl rfl (by decide) (by decide) (hts (.fieldLink RX6 40 "BoundaryAnalyzer$Rule" "body" "LBoundaryAnalyzer$Part;") (List.mem_of_getElem? (i := 3) rfl)) dX6_build_17 ?_
  refine lv_astore_n (lv' := [(2, .ref (b + v17)), (0, .ref (b + p0)), (1, .ref (b + p1))]) hx hb dX6_build_20 rfl hl (by decide) rfl (fun ls hl => ?_)
  refine lv_aload_n hx hb dX6_build_21 rfl (lv_at hl 2 rfl) ?_
  obtain ⟨v22, e22, hf⟩ := zb hf
  refine zr_gr (ci := 5) (k := 2) (C := RX5) (T := TX5) (N := 9) hx hb hts hi_X6_build_5 hown hK hP e22 rfl rfl (by decide) (by decide) (hts (.fieldLink RX6 43 "BoundaryAnalyzer$Rule" "ahead" "LBoundaryAnalyzer$Part;") (List.mem_of_getElem? (i := 4) rfl)) dX6_build_22 ?_
  obtain ⟨u25, t25, hf⟩ := zb hf
  obtain ⟨M25, e25, hf⟩ := zb hf
  refine zc_v hS (va_runV (As := []) (rest := []) ⟨hx, hb, hml, hown, hts⟩ (k_X3_becomeEmpty l D cy b M13 v22  M25 e25) (cwV 0 hts gX6_build_X3_becomeEmpty rfl rfl rfl (by decide +kernel) ⟨Nat.le_of_ble_eq_true rfl, Nat.le_of_ble_eq_true rfl⟩) (zp_V _ hK hP t25 (T := TX3) (N := 3) rfl (by decide)) rfl rfl hl.1 rfl (lv_room (Nat.le_of_ble_eq_true rfl)) dX6_build_25 ⟨Nat.zero_le _, Nat.zero_le _⟩) (fun H locs hP hS => ?_)
  refine lv_aload_n hx hb dX6_build_28 rfl (lv_at hl 1 rfl) ?_
  refine lv_iconst (v := (0 : Int32)) hx hb dX6_build_29 (by decide) ?_
  obtain ⟨M30, e30, hf⟩ := zb hf
  refine zr_pi (ci := 6) (k := 3) (C := RX6) (T := TX6) (N := 4) hx hb hts hi_X6_build_6 tyX6 tyX6_ok nmX6 hown hK hP hS e30 rfl rfl (by decide) (by decide) (hts (.fieldLink RX6 49 "BoundaryAnalyzer$RuleBuilder" "depth" "I") (List.mem_of_getElem? (i := 5) rfl)) rfl (tyX6_ok 3 (by decide)) dX6_build_30 (fun H locs hP _ hS => ?_)
  refine lv_aload_n hx hb dX6_build_33 rfl (lv_at hl 1 rfl) ?_
  obtain ⟨u34, t34, hf⟩ := zb hf
  obtain ⟨M34, e34, hf⟩ := zb hf
  refine zc_v hS (va_runV (As := []) (rest := []) ⟨hx, hb, hml, hown, hts⟩ (k_X6_beginLevel l D cy b M30 p0  M34 e34) (cwV 0 hts gX6_build_X6_beginLevel rfl rfl rfl (by decide +kernel) ⟨Nat.le_of_ble_eq_true rfl, Nat.le_of_ble_eq_true rfl⟩) (zp_V _ hK hP t34 (T := TX6) (N := 4) rfl (by decide)) rfl rfl hl.1 rfl (lv_room (Nat.le_of_ble_eq_true rfl)) dX6_build_34 ⟨Nat.zero_le _, Nat.zero_le _⟩) (fun H locs hP hS => ?_)
  refine lv_iconst (v := (0 : Int32)) hx hb dX6_build_37 (by decide) ?_
  refine lv_istore_n (lv' := [(3, .int (0 : Int32)), (2, .ref (b + v17)), (0, .ref (b + p0)), (1, .ref (b + p1))]) hx hb dX6_build_38 rfl hl (by decide) rfl (fun ls hl => ?_)
  exact L39 _ _ _ _ _ _ _ _ _ hf hP hS (lv_sub hl [2, 3, 1, 0] rfl)
