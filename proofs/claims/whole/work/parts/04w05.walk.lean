theorem hi_X6_build_3 : ∀ w ∈ wsX30, w ∈ wsX6_build := fun _ h => List.mem_cons_of_mem _ (List.mem_append_right _ h)
theorem hi_X6_build_4 : ∀ w ∈ wsX40, w ∈ wsX6_build := fun _ h => List.mem_cons_of_mem _ (List.mem_append_left _ (List.mem_append_right _ h))
theorem hi_X6_build_5 : ∀ w ∈ wsX50, w ∈ wsX6_build := fun _ h => List.mem_cons_of_mem _ (List.mem_append_left _ (List.mem_append_left _ (List.mem_append_left _ (List.mem_append_right _ h))))
theorem hi_X6_build_6 : ∀ w ∈ wsX60, w ∈ wsX6_build := fun _ h => List.mem_cons_of_mem _ (List.mem_append_left _ (List.mem_append_left _ (List.mem_append_right _ h)))
set_option maxHeartbeats 4000000 in
set_option maxRecDepth 100000 in
theorem k_X6_build (l : Launch) (D : va_G) (cy : Nat → ClassId) (b : Nat) (M0 : Mem) (h0 : Nat) (h1 : Nat) (rr : Mem) (hf : fX6_build M0 h0 h1 = some rr) : Met l yX6_build wsX6_build ({ frames := 4, cells := 0, slots := 0, locals := 86 } : Room) (zPc D cy b M0 [.ref (b + h0), .ref (b + h1)]) (zQv D cy b rr) 0 0 (zA b) := by
  refine Met.ofW (cc := cX6_build) (maxL := 5) (ret := none) (by decide) rfl ?_
  intro p e s m args below meth c s₁ B hml hv
  obtain ⟨rfl, hP, hK⟩ := hv
  have hx := B.exec
  have hb := B.bytes
  have hr := B.returns
  have hts := atoms_spec (ws := wsX6_build) B.pre
  have hown : s.vm.findClass RX6 = some m.cls := findClass_of_methodNamed B.named
  have hlocks := B.notSynchronized
  have hS : va_S (zA b) s.heap s.heap [] := va_S.rf
  have hl := lv_entry ([.ref (b + h0), .ref (b + h1)]) (n := 5) (Nat.le_of_ble_eq_true rfl)
  rw [lg_entry_eq]
  generalize (lg_sl ([.ref (b + h0), .ref (b + h1)]) ++ List.replicate (5 - (lg_sl ([.ref (b + h0), .ref (b + h1)])).length) Slot.unset).toArray = ls at hl ⊢
  have hl : lv_has ls 5 [(0, .ref (b + h0)), (1, .ref (b + h1))] := hl
  have L39 : ∀ (n39 : Nat) (M : Mem) (H : Heap) (locs : List Loc) (ls : Array Slot) (h0 : Nat) (h1 : Nat) (h2 : Nat) (x3 : Int32), fX6_build_39L  n39 M h0 h1 h2 x3 = some rr → zH D cy b M H → va_S (zA b) s.heap H locs → lv_has ls 5 [(0, .ref (b + h0)), (1, .ref (b + h1)), (2, .ref (b + h2)), (3, .int x3)] → W p l e (headSpec wsX6_build ({ frames := 4, cells := 0, slots := 0, locals := 86 } : Room)).room s m ([.ref (b + h0), .ref (b + h1)] : List Value).toArray below meth c H locs 0 0 (MQ below (zQv D cy b rr) ([.ref (b + h0), .ref (b + h1)] : List Value).toArray s 0 0 (zA b)) (F0 m 39 ls []) := by
    intro n39
    induction n39 with
    | zero =>
      intro M H locs ls h0 h1 h2 x3 hf
      have hf : (none : Option Mem) = some rr := hf
      cases hf
    | succ n39 ih39 =>
      have J168 : ∀ (M : Mem) (H : Heap) (locs : List Loc) (ls : Array Slot) (h0 : Nat) (h1 : Nat) (h2 : Nat) (x3 : Int32), fX6_build_168 (fX6_build_39L  n39) M h0 h1 h2 x3 = some rr → zH D cy b M H → va_S (zA b) s.heap H locs → lv_has ls 5 [(0, .ref (b + h0)), (1, .ref (b + h1)), (2, .ref (b + h2)), (3, .int x3)] → W p l e (headSpec wsX6_build ({ frames := 4, cells := 0, slots := 0, locals := 86 } : Room)).room s m ([.ref (b + h0), .ref (b + h1)] : List Value).toArray below meth c H locs 0 0 (MQ below (zQv D cy b rr) ([.ref (b + h0), .ref (b + h1)] : List Value).toArray s 0 0 (zA b)) (F0 m 168 ls []) := by
        intro M H locs ls h0 h1 h2 x3 hf hP hS hl
        unfold fX6_build_168 at hf
        obtain ⟨x3_168, q168, hf⟩ := zlt_s hf
        refine lv_iinc (v := x3_168) (lv' := [(3, .int x3_168), (0, .ref (b + h0)), (1, .ref (b + h1)), (2, .ref (b + h2))]) hx hb dX6_build_168 hl (k := 3) rfl (by rw [← q168]; rfl) (by decide) rfl (fun ls hl => ?_)
        refine lv_goto (tgt := 39) hx hb dX6_build_171 (by decide) ?_
        exact ih39 _ _ _ _ _ _ _ _ hf hP hS (lv_sub hl [1, 2, 3, 0] rfl)
      intro M H locs ls h0 h1 h2 x3 hf hP hS hl
      have hf : fX6_build_39  (fX6_build_39L  n39) M h0 h1 h2 x3 = some rr := hf
      unfold fX6_build_39 at hf
      refine lv_iload_n hx hb dX6_build_39 rfl (lv_at hl 3 rfl) ?_
      refine lv_aload_n hx hb dX6_build_40 rfl (lv_at hl 1 rfl) ?_
      obtain ⟨v41, e41, hf⟩ := zb hf
      refine zr_gr (ci := 5) (k := 0) (C := RX5) (T := TX5) (N := 9) hx hb hts hi_X6_build_5 hown hK hP e41 rfl rfl (by decide) (by decide) (hts (.fieldLink RX6 56 "BoundaryAnalyzer$Rule" "signs" "LBoundaryAnalyzer$Row;") (List.mem_of_getElem? (i := 6) rfl)) dX6_build_41 ?_
      obtain ⟨v44, e44, hf⟩ := zb hf
      refine zr_gi (ci := 4) (k := 1) (C := RX4) (T := TX4) (N := 2) hx hb hts hi_X6_build_4 hown hK hP e44 rfl rfl (by decide) (by decide) (hts (.fieldLink RX6 60 "BoundaryAnalyzer$Row" "size" "I") (List.mem_of_getElem? (i := 7) rfl)) dX6_build_44 ?_
      refine lv_icmp_ge (tgt := 174) hx hb dX6_build_47 (by decide) (fun c47 => ?_) (fun c47 => ?_)
      · have hf := (if_pos c47).symm.trans hf
        refine lv_aload_n hx hb dX6_build_174 rfl (lv_at hl 0 rfl) ?_
        refine lv_aload_n hx hb dX6_build_175 rfl (lv_at hl 2 rfl) ?_
        obtain ⟨u176, t176, hf⟩ := zb hf
        obtain ⟨M176, e176, hf⟩ := zb hf
        refine zc_v hS (va_runV (As := [.ref (b + h2)]) (rest := []) ⟨hx, hb, hml, hown, hts⟩ (k_X6_endAlternatives l D cy b M h0 h2 M176 e176) (cwV 1 hts gX6_build_X6_endAlternatives rfl rfl rfl (by decide +kernel) ⟨Nat.le_of_ble_eq_true rfl, Nat.le_of_ble_eq_true rfl⟩) (zp_V _ hK hP t176 (T := TX6) (N := 4) rfl (by decide)) rfl rfl hl.1 rfl (lv_room (Nat.le_of_ble_eq_true rfl)) dX6_build_176 ⟨Nat.zero_le _, Nat.zero_le _⟩) (fun H locs hP hS => ?_)
        exact zret_v hx hb hr hlocks hf hP hS dX6_build_179
      · have hf := (if_neg c47).symm.trans hf
        refine lv_aload_n hx hb dX6_build_50 rfl (lv_at hl 1 rfl) ?_
        obtain ⟨v51, e51, hf⟩ := zb hf
        refine zr_gr (ci := 5) (k := 0) (C := RX5) (T := TX5) (N := 9) hx hb hts hi_X6_build_5 hown hK hP e51 rfl rfl (by decide) (by decide) (hts (.fieldLink RX6 56 "BoundaryAnalyzer$Rule" "signs" "LBoundaryAnalyzer$Row;") (List.mem_of_getElem? (i := 6) rfl)) dX6_build_51 ?_
        refine lv_iload_n hx hb dX6_build_54 rfl (lv_at hl 3 rfl) ?_
        obtain ⟨u55, t55, hf⟩ := zb hf
        obtain ⟨r55, e55, hf⟩ := zb hf
        refine zc_i hS (va_runV (As := [.int x3]) (rest := []) ⟨hx, hb, hml, hown, hts⟩ (k_X4_at l D cy b M v51 x3 r55 e55) (cwV 1 hts gX6_build_X4_at rfl rfl rfl (by decide +kernel) ⟨Nat.le_of_ble_eq_true rfl, Nat.le_of_ble_eq_true rfl⟩) (zp_V _ hK hP t55 (T := TX4) (N := 2) rfl (by decide)) rfl rfl hl.1 rfl (lv_room (Nat.le_of_ble_eq_true rfl)) dX6_build_55 ⟨Nat.zero_le _, Nat.zero_le _⟩) (fun H locs hP hS => ?_)
        refine lv_istore (lv' := [(4, .int r55.1), (0, .ref (b + h0)), (1, .ref (b + h1)), (2, .ref (b + h2)), (3, .int x3)]) hx hb dX6_build_58 hl (by decide) rfl (fun ls hl => ?_)
        refine lv_iload hx hb dX6_build_60 (lv_at hl 0 rfl) ?_
        refine lv_bipush (v := (40 : Int32)) hx hb dX6_build_62 (by decide) ?_
        refine lv_icmp_ne (tgt := 74) hx hb dX6_build_64 (by decide) (fun c64 => ?_) (fun c64 => ?_)
        · have hf := (if_neg c64).symm.trans hf
          refine lv_iload hx hb dX6_build_74 (lv_at hl 0 rfl) ?_
          refine lv_bipush (v := (41 : Int32)) hx hb dX6_build_76 (by decide) ?_
          refine lv_icmp_ne (tgt := 103) hx hb dX6_build_78 (by decide) (fun c78 => ?_) (fun c78 => ?_)
          · have hf := (if_neg c78).symm.trans hf
            refine lv_iload hx hb dX6_build_103 (lv_at hl 0 rfl) ?_
            refine lv_bipush (v := (124 : Int32)) hx hb dX6_build_105 (by decide) ?_
            refine lv_icmp_ne (tgt := 117) hx hb dX6_build_107 (by decide) (fun c107 => ?_) (fun c107 => ?_)
            · have hf := (if_neg c107).symm.trans hf
              refine lv_iload hx hb dX6_build_117 (lv_at hl 0 rfl) ?_
              refine lv_bipush (v := (47 : Int32)) hx hb dX6_build_119 (by decide) ?_
              refine lv_icmp_ne (tgt := 137) hx hb dX6_build_121 (by decide) (fun c121 => ?_) (fun c121 => ?_)
              · have hf := (if_neg c121).symm.trans hf
                refine lv_iload hx hb dX6_build_137 (lv_at hl 0 rfl) ?_
                obtain ⟨v139, e139, hf⟩ := zb hf
                refine zc_p (va_runSN (As := [.int r55.1]) (rest := []) ⟨hx, hb, hml, hown, hts⟩ (k_X8_isClassLetterOrDot l r55.1 v139 e139) ⟨va_cnB 1 hts gX6_build_X8_isClassLetterOrDot_n86 rfl rfl rfl (hK.2.1 _ (List.mem_of_getElem? (i := 5) rfl)) (hts (.initialized RX8) (List.mem_of_getElem? (i := 80) rfl)) (by decide +kernel) ⟨Nat.le_of_ble_eq_true rfl, Nat.le_of_ble_eq_true rfl⟩, (hts (.static yX8_isClassLetterOrDot) (List.mem_of_getElem? (i := 79) rfl)), trivial⟩ (zp_p _) rfl rfl hl.1 rfl (lv_room (Nat.le_of_ble_eq_true rfl)) dX6_build_139 ⟨Nat.zero_le _, Nat.zero_le _⟩) ?_
                refine lv_if_eq (tgt := 168) hx hb dX6_build_142 (by decide) (fun c142 => ?_) (fun c142 => ?_)
                · have hf := (if_pos c142).symm.trans hf
                  exact J168 _ _ _ _ _ _ _ _ hf hP hS (lv_sub hl [1, 2, 3, 4] rfl)
                · have hf := (if_neg c142).symm.trans hf
                  refine lv_aload_n hx hb dX6_build_145 rfl (lv_at hl 1 rfl) ?_
                  refine lv_aload_n hx hb dX6_build_146 rfl (lv_at hl 2 rfl) ?_
                  refine lv_iload_n hx hb dX6_build_147 rfl (lv_at hl 4 rfl) ?_
                  refine lv_iload hx hb dX6_build_148 (lv_at hl 0 rfl) ?_
                  obtain ⟨u150, t150, hf⟩ := zb hf
                  obtain ⟨M150, e150, hf⟩ := zb hf
                  refine zc_v hS (va_runV (As := [.ref (b + h1), .int x3, .int r55.1]) (rest := []) ⟨hx, hb, hml, hown, hts⟩ (k_X6_takeLeaf l D cy b r55.2 h0 h1 x3 r55.1 M150 e150) (cwV 3 hts gX6_build_X6_takeLeaf rfl rfl rfl (by decide +kernel) ⟨Nat.le_of_ble_eq_true rfl, Nat.le_of_ble_eq_true rfl⟩) (zp_V _ hK hP t150 (T := TX6) (N := 4) rfl (by decide)) rfl rfl hl.1 rfl (lv_room (Nat.le_of_ble_eq_true rfl)) dX6_build_150 ⟨Nat.zero_le _, Nat.zero_le _⟩) (fun H locs hP hS => ?_)
                  refine lv_aload_n hx hb dX6_build_153 rfl (lv_at hl 1 rfl) ?_
                  refine lv_aload_n hx hb dX6_build_154 rfl (lv_at hl 2 rfl) ?_
                  refine lv_aload_n hx hb dX6_build_155 rfl (lv_at hl 2 rfl) ?_
                  obtain ⟨v156, e156, hf⟩ := zb hf
                  refine zr_gr (ci := 5) (k := 0) (C := RX5) (T := TX5) (N := 9) hx hb hts hi_X6_build_5 hown hK hP e156 rfl rfl (by decide) (by decide) (hts (.fieldLink RX6 56 "BoundaryAnalyzer$Rule" "signs" "LBoundaryAnalyzer$Row;") (List.mem_of_getElem? (i := 6) rfl)) dX6_build_156 ?_
                  refine lv_iload_n hx hb dX6_build_159 rfl (lv_at hl 4 rfl) ?_
                  refine lv_iconst (v := (1 : Int32)) hx hb dX6_build_160 (by decide) ?_
                  refine lv_iadd hx hb dX6_build_161 ?_
                  obtain ⟨u162, t162, hf⟩ := zb hf
                  obtain ⟨r162, e162, hf⟩ := zb hf
                  refine zc_i hS (va_runV (As := [.int (x3 + (1 : Int32))]) (rest := [.ref (b + h1), .ref (b + h0)]) ⟨hx, hb, hml, hown, hts⟩ (k_X4_at l D cy b M150 v156 (x3 + (1 : Int32)) r162 e162) (cwV 1 hts gX6_build_X4_at rfl rfl rfl (by decide +kernel) ⟨Nat.le_of_ble_eq_true rfl, Nat.le_of_ble_eq_true rfl⟩) (zp_V _ hK hP t162 (T := TX4) (N := 2) rfl (by decide)) rfl rfl hl.1 rfl (lv_room (Nat.le_of_ble_eq_true rfl)) dX6_build_162 ⟨Nat.zero_le _, Nat.zero_le _⟩) (fun H locs hP hS => ?_)
                  obtain ⟨u165, t165, hf⟩ := zb hf
                  obtain ⟨M165, e165, hf⟩ := zb hf
                  refine zc_v hS (va_runV (As := [.ref (b + h1), .int r162.1]) (rest := []) ⟨hx, hb, hml, hown, hts⟩ (k_X6_addItem l D cy b r162.2 h0 h1 r162.1 M165 e165) (cwV 2 hts gX6_build_X6_addItem rfl rfl rfl (by decide +kernel) ⟨Nat.le_of_ble_eq_true rfl, Nat.le_of_ble_eq_true rfl⟩) (zp_V _ hK hP t165 (T := TX6) (N := 4) rfl (by decide)) rfl rfl hl.1 rfl (lv_room (Nat.le_of_ble_eq_true rfl)) dX6_build_165 ⟨Nat.zero_le _, Nat.zero_le _⟩) (fun H locs hP hS => ?_)
                  exact J168 _ _ _ _ _ _ _ _ hf hP hS (lv_sub hl [1, 2, 3, 4] rfl)
              · have hf := (if_pos c121).symm.trans hf
                refine lv_aload_n hx hb dX6_build_124 rfl (lv_at hl 1 rfl) ?_
                refine lv_aload_n hx hb dX6_build_125 rfl (lv_at hl 3 rfl) ?_
                obtain ⟨u126, t126, hf⟩ := zb hf
                obtain ⟨M126, e126, hf⟩ := zb hf
                refine zc_v hS (va_runV (As := [.ref (b + h2)]) (rest := []) ⟨hx, hb, hml, hown, hts⟩ (k_X6_endAlternatives l D cy b r55.2 h0 h2 M126 e126) (cwV 1 hts gX6_build_X6_endAlternatives rfl rfl rfl (by decide +kernel) ⟨Nat.le_of_ble_eq_true rfl, Nat.le_of_ble_eq_true rfl⟩) (zp_V _ hK hP t126 (T := TX6) (N := 4) rfl (by decide)) rfl rfl hl.1 rfl (lv_room (Nat.le_of_ble_eq_true rfl)) dX6_build_126 ⟨Nat.zero_le _, Nat.zero_le _⟩) (fun H locs hP hS => ?_)
                refine lv_aload_n hx hb dX6_build_129 rfl (lv_at hl 2 rfl) ?_
                obtain ⟨v130, e130, hf⟩ := zb hf
                refine zr_gr (ci := 5) (k := 2) (C := RX5) (T := TX5) (N := 9) hx hb hts hi_X6_build_5 hown hK hP e130 rfl rfl (by decide) (by decide) (hts (.fieldLink RX6 43 "BoundaryAnalyzer$Rule" "ahead" "LBoundaryAnalyzer$Part;") (List.mem_of_getElem? (i := 4) rfl)) dX6_build_130 ?_
                refine lv_astore_n (lv' := [(2, .ref (b + v130)), (4, .int r55.1), (0, .ref (b + h0)), (1, .ref (b + h1)), (3, .int x3)]) hx hb dX6_build_133 rfl hl (by decide) rfl (fun ls hl => ?_)
                refine lv_goto (tgt := 168) hx hb dX6_build_134 (by decide) ?_
                exact J168 _ _ _ _ _ _ _ _ hf hP hS (lv_sub hl [2, 3, 0, 4] rfl)
            · have hf := (if_pos c107).symm.trans hf
              refine lv_aload_n hx hb dX6_build_110 rfl (lv_at hl 1 rfl) ?_
              obtain ⟨u111, t111, hf⟩ := zb hf
              obtain ⟨M111, e111, hf⟩ := zb hf
              refine zc_v hS (va_runV (As := []) (rest := []) ⟨hx, hb, hml, hown, hts⟩ (k_X6_endSequence l D cy b r55.2 h0  M111 e111) (cwV 0 hts gX6_build_X6_endSequence rfl rfl rfl (by decide +kernel) ⟨Nat.le_of_ble_eq_true rfl, Nat.le_of_ble_eq_true rfl⟩) (zp_V _ hK hP t111 (T := TX6) (N := 4) rfl (by decide)) rfl rfl hl.1 rfl (lv_room (Nat.le_of_ble_eq_true rfl)) dX6_build_111 ⟨Nat.zero_le _, Nat.zero_le _⟩) (fun H locs hP hS => ?_)
              refine lv_goto (tgt := 168) hx hb dX6_build_114 (by decide) ?_
              exact J168 _ _ _ _ _ _ _ _ hf hP hS (lv_sub hl [1, 2, 3, 4] rfl)
          · have hf := (if_pos c78).symm.trans hf
            refine lv_aload_n hx hb dX6_build_81 rfl (lv_at hl 1 rfl) ?_
            obtain ⟨u82, t82, hf⟩ := zb hf
            obtain ⟨M82, e82, hf⟩ := zb hf
            refine zc_v hS (va_runV (As := []) (rest := []) ⟨hx, hb, hml, hown, hts⟩ (k_X6_goBack l D cy b r55.2 h0  M82 e82) (cwV 0 hts gX6_build_X6_goBack rfl rfl rfl (by decide +kernel) ⟨Nat.le_of_ble_eq_true rfl, Nat.le_of_ble_eq_true rfl⟩) (zp_V _ hK hP t82 (T := TX6) (N := 4) rfl (by decide)) rfl rfl hl.1 rfl (lv_room (Nat.le_of_ble_eq_true rfl)) dX6_build_82 ⟨Nat.zero_le _, Nat.zero_le _⟩) (fun H locs hP hS => ?_)
            refine lv_aload_n hx hb dX6_build_85 rfl (lv_at hl 1 rfl) ?_
            refine lv_aload_n hx hb dX6_build_86 rfl (lv_at hl 2 rfl) ?_
            refine lv_aload_n hx hb dX6_build_87 rfl (lv_at hl 2 rfl) ?_
            obtain ⟨v88, e88, hf⟩ := zb hf
            refine zr_gr (ci := 5) (k := 0) (C := RX5) (T := TX5) (N := 9) hx hb hts hi_X6_build_5 hown hK hP e88 rfl rfl (by decide) (by decide) (hts (.fieldLink RX6 56 "BoundaryAnalyzer$Rule" "signs" "LBoundaryAnalyzer$Row;") (List.mem_of_getElem? (i := 6) rfl)) dX6_build_88 ?_
            refine lv_iload_n hx hb dX6_build_91 rfl (lv_at hl 4 rfl) ?_
            refine lv_iconst (v := (1 : Int32)) hx hb dX6_build_92 (by decide) ?_
            refine lv_iadd hx hb dX6_build_93 ?_
            obtain ⟨u94, t94, hf⟩ := zb hf
            obtain ⟨r94, e94, hf⟩ := zb hf
            refine zc_i hS (va_runV (As := [.int (x3 + (1 : Int32))]) (rest := [.ref (b + h1), .ref (b + h0)]) ⟨hx, hb, hml, hown, hts⟩ (k_X4_at l D cy b M82 v88 (x3 + (1 : Int32)) r94 e94) (cwV 1 hts gX6_build_X4_at rfl rfl rfl (by decide +kernel) ⟨Nat.le_of_ble_eq_true rfl, Nat.le_of_ble_eq_true rfl⟩) (zp_V _ hK hP t94 (T := TX4) (N := 2) rfl (by decide)) rfl rfl hl.1 rfl (lv_room (Nat.le_of_ble_eq_true rfl)) dX6_build_94 ⟨Nat.zero_le _, Nat.zero_le _⟩) (fun H locs hP hS => ?_)
            obtain ⟨u97, t97, hf⟩ := zb hf
            obtain ⟨M97, e97, hf⟩ := zb hf
            refine zc_v hS (va_runV (As := [.ref (b + h1), .int r94.1]) (rest := []) ⟨hx, hb, hml, hown, hts⟩ (k_X6_addItem l D cy b r94.2 h0 h1 r94.1 M97 e97) (cwV 2 hts gX6_build_X6_addItem rfl rfl rfl (by decide +kernel) ⟨Nat.le_of_ble_eq_true rfl, Nat.le_of_ble_eq_true rfl⟩) (zp_V _ hK hP t97 (T := TX6) (N := 4) rfl (by decide)) rfl rfl hl.1 rfl (lv_room (Nat.le_of_ble_eq_true rfl)) dX6_build_97 ⟨Nat.zero_le _, Nat.zero_le _⟩) (fun H locs hP hS => ?_)
            refine lv_goto (tgt := 168) hx hb dX6_build_100 (by decide) ?_
            exact J168 _ _ _ _ _ _ _ _ hf hP hS (lv_sub hl [1, 2, 3, 4] rfl)
        · have hf := (if_pos c64).symm.trans hf
          refine lv_aload_n hx hb dX6_build_67 rfl (lv_at hl 1 rfl) ?_
          obtain ⟨u68, t68, hf⟩ := zb hf
          obtain ⟨M68, e68, hf⟩ := zb hf
          refine zc_v hS (va_runV (As := []) (rest := []) ⟨hx, hb, hml, hown, hts⟩ (k_X6_goDeeper l D cy b r55.2 h0  M68 e68) (cwV 0 hts gX6_build_X6_goDeeper rfl rfl rfl (by decide +kernel) ⟨Nat.le_of_ble_eq_true rfl, Nat.le_of_ble_eq_true rfl⟩) (zp_V _ hK hP t68 (T := TX6) (N := 4) rfl (by decide)) rfl rfl hl.1 rfl (lv_room (Nat.le_of_ble_eq_true rfl)) dX6_build_68 ⟨Nat.zero_le _, Nat.zero_le _⟩) (fun H locs hP hS => ?_)
          refine lv_goto (tgt := 168) hx hb dX6_build_71 (by decide) ?_
          exact J168 _ _ _ _ _ _ _ _ hf hP hS (lv_sub hl [1, 2, 3, 4] rfl)
  unfold fX6_build at hf
  refine lv_aload_n hx hb dX6_build_0 rfl (lv_at hl 1 rfl) ?_
  obtain ⟨v1, e1, hf⟩ := zb hf
  refine zr_gr (ci := 5) (k := 3) (C := RX5) (T := TX5) (N := 9) hx hb hts hi_X6_build_5 hown hK hP e1 rfl rfl (by decide) (by decide) (hts (.fieldLink RX6 25 "BoundaryAnalyzer$Rule" "followers" "[I") (List.mem_of_getElem? (i := 1) rfl)) dX6_build_1 ?_
  refine lv_iconst (v := (0 : Int32)) hx hb dX6_build_4 (by decide) ?_
  obtain ⟨M5, e5, hf⟩ := zb hf
  refine zc_v hS (va_runS (As := [.ref (b + v1), .int (0 : Int32)]) (rest := []) ⟨hx, hb, hml, hown, hts⟩ (k_J7_fill_53178 l D cy b M0  v1 (0 : Int32) M5 e5) (va_cwS 2 hts gX6_build_J7_fill_53178 rfl rfl rfl (by decide +kernel) ⟨Nat.le_of_ble_eq_true rfl, Nat.le_of_ble_eq_true rfl⟩) (zp_S _ hK hP) rfl rfl hl.1 rfl (lv_room (Nat.le_of_ble_eq_true rfl)) dX6_build_5 ⟨Nat.zero_le _, Nat.zero_le _⟩) (fun H locs hP hS => ?_)
  refine lv_aload_n hx hb dX6_build_8 rfl (lv_at hl 1 rfl) ?_
  obtain ⟨v9, e9, hf⟩ := zb hf
  refine zr_gr (ci := 5) (k := 4) (C := RX5) (T := TX5) (N := 9) hx hb hts hi_X6_build_5 hown hK hP e9 rfl rfl (by decide) (by decide) (hts (.fieldLink RX6 37 "BoundaryAnalyzer$Rule" "takers" "[I") (List.mem_of_getElem? (i := 2) rfl)) dX6_build_9 ?_
  refine lv_iconst (v := (0 : Int32)) hx hb dX6_build_12 (by decide) ?_
  obtain ⟨M13, e13, hf⟩ := zb hf
  refine zc_v hS (va_runS (As := [.ref (b + v9), .int (0 : Int32)]) (rest := []) ⟨hx, hb, hml, hown, hts⟩ (k_J7_fill_53178 l D cy b M5  v9 (0 : Int32) M13 e13) (va_cwS 2 hts gX6_build_J7_fill_53178 rfl rfl rfl (by decide +kernel) ⟨Nat.le_of_ble_eq_true rfl, Nat.le_of_ble_eq_true rfl⟩) (zp_S _ hK hP) rfl rfl hl.1 rfl (lv_room (Nat.le_of_ble_eq_true rfl)) dX6_build_13 ⟨Nat.zero_le _, Nat.zero_le _⟩) (fun H locs hP hS => ?_)
  refine lv_aload_n hx hb dX6_build_16 rfl (lv_at hl 1 rfl) ?_
  obtain ⟨v17, e17, hf⟩ := zb hf
  refine zr_gr (ci := 5) (k := 1) (C := RX5) (T := TX5) (N := 9) hx hb hts hi_X6_build_5 hown hK hP e17 rfl rfl (by decide) (by decide) (hts (.fieldLink RX6 40 "BoundaryAnalyzer$Rule" "body" "LBoundaryAnalyzer$Part;") (List.mem_of_getElem? (i := 3) rfl)) dX6_build_17 ?_
  refine lv_astore_n (lv' := [(2, .ref (b + v17)), (0, .ref (b + h0)), (1, .ref (b + h1))]) hx hb dX6_build_20 rfl hl (by decide) rfl (fun ls hl => ?_)
  refine lv_aload_n hx hb dX6_build_21 rfl (lv_at hl 2 rfl) ?_
  obtain ⟨v22, e22, hf⟩ := zb hf
  refine zr_gr (ci := 5) (k := 2) (C := RX5) (T := TX5) (N := 9) hx hb hts hi_X6_build_5 hown hK hP e22 rfl rfl (by decide) (by decide) (hts (.fieldLink RX6 43 "BoundaryAnalyzer$Rule" "ahead" "LBoundaryAnalyzer$Part;") (List.mem_of_getElem? (i := 4) rfl)) dX6_build_22 ?_
  obtain ⟨u25, t25, hf⟩ := zb hf
  obtain ⟨M25, e25, hf⟩ := zb hf
  refine zc_v hS (va_runV (As := []) (rest := []) ⟨hx, hb, hml, hown, hts⟩ (k_X3_becomeEmpty l D cy b M13 v22  M25 e25) (cwV 0 hts gX6_build_X3_becomeEmpty rfl rfl rfl (by decide +kernel) ⟨Nat.le_of_ble_eq_true rfl, Nat.le_of_ble_eq_true rfl⟩) (zp_V _ hK hP t25 (T := TX3) (N := 3) rfl (by decide)) rfl rfl hl.1 rfl (lv_room (Nat.le_of_ble_eq_true rfl)) dX6_build_25 ⟨Nat.zero_le _, Nat.zero_le _⟩) (fun H locs hP hS => ?_)
  refine lv_aload_n hx hb dX6_build_28 rfl (lv_at hl 1 rfl) ?_
  refine lv_iconst (v := (0 : Int32)) hx hb dX6_build_29 (by decide) ?_
  obtain ⟨M30, e30, hf⟩ := zb hf
  refine zr_pi (ci := 6) (k := 3) (C := RX6) (T := TX6) (N := 4) hx hb hts hi_X6_build_6 tyX6 tyX6_ok nmX6 hown hK hP hS e30 rfl rfl (by decide) (by decide) (hts (.fieldLink RX6 49 "BoundaryAnalyzer$RuleBuilder" "depth" "I") (List.mem_of_getElem? (i := 5) rfl)) rfl (tyX6_ok 3 (by decide)) dX6_build_30 (fun H locs hP _ hS => ?_)
  refine lv_aload_n hx hb dX6_build_33 rfl (lv_at hl 1 rfl) ?_
  obtain ⟨u34, t34, hf⟩ := zb hf
  obtain ⟨M34, e34, hf⟩ := zb hf
  refine zc_v hS (va_runV (As := []) (rest := []) ⟨hx, hb, hml, hown, hts⟩ (k_X6_beginLevel l D cy b M30 h0  M34 e34) (cwV 0 hts gX6_build_X6_beginLevel rfl rfl rfl (by decide +kernel) ⟨Nat.le_of_ble_eq_true rfl, Nat.le_of_ble_eq_true rfl⟩) (zp_V _ hK hP t34 (T := TX6) (N := 4) rfl (by decide)) rfl rfl hl.1 rfl (lv_room (Nat.le_of_ble_eq_true rfl)) dX6_build_34 ⟨Nat.zero_le _, Nat.zero_le _⟩) (fun H locs hP hS => ?_)
  refine lv_iconst (v := (0 : Int32)) hx hb dX6_build_37 (by decide) ?_
  refine lv_istore_n (lv' := [(3, .int (0 : Int32)), (2, .ref (b + v17)), (0, .ref (b + h0)), (1, .ref (b + h1))]) hx hb dX6_build_38 rfl hl (by decide) rfl (fun ls hl => ?_)
  exact L39 _ _ _ _ _ _ _ _ _ hf hP hS (lv_sub hl [2, 3, 1, 0] rfl)
theorem hi_X1_init_0 : ∀ w ∈ wsX00, w ∈ wsX1_init := fun _ h => List.mem_cons_of_mem _ (List.mem_append_left _ (List.mem_append_right _ h))
theorem hi_X1_init_1 : ∀ w ∈ wsX10, w ∈ wsX1_init := fun _ h => List.mem_cons_of_mem _ (List.mem_append_left _ (List.mem_append_left _ (List.mem_append_right _ h)))
set_option maxHeartbeats 4000000 in
set_option maxRecDepth 100000 in
theorem k_X1_init (l : Launch) (D : va_G) (cy : Nat → ClassId) (b : Nat) (M0 : Mem) (h0 : Nat) (rr : Mem) (hf : fX1_init M0 h0 = some rr) : Met l yX1_init wsX1_init ({ frames := 3, cells := 91, slots := 273000, locals := 81 } : Room) (zPn D cy b M0 [.ref (b + h0)]) (zQn D cy b rr) 91 273000 (zA b) := by
  refine Met.ofW (cc := cX1_init) (maxL := 2) (ret := none) (by decide) rfl ?_
  intro p e s m args below meth c s₁ B hml hv
  obtain ⟨rfl, hP, hK, hz⟩ := hv
  have hx := B.exec
  have hb := B.bytes
  have hr := B.returns
  have hts := atoms_spec (ws := wsX1_init) B.pre
  have hown : s.vm.findClass RX1 = some m.cls := findClass_of_methodNamed B.named
  have hlocks := B.notSynchronized
  have hin : meth.name = "<init>" := (name_of_methodNamed B.named B.method).1
  have hS : va_S (zA b) s.heap s.heap [] := va_S.rf
  have hl := lv_entry ([.ref (b + h0)]) (n := 2) (Nat.le_of_ble_eq_true rfl)
  rw [lg_entry_eq]
  generalize (lg_sl ([.ref (b + h0)]) ++ List.replicate (2 - (lg_sl ([.ref (b + h0)])).length) Slot.unset).toArray = ls at hl ⊢
  have hl : lv_has ls 2 [(0, .ref (b + h0))] := hl
  have hn : M0.1 ≤ M0.1 := Nat.le_refl _
  have hu : M0.1 ≤ M0.1 + 91 := by omega
  refine W.widen (k := M0.1 - M0.1) (n := 3000 * (M0.1 - M0.1)) (by omega) (by omega) ?_
  have L15 : ∀ (n15 : Nat) (M : Mem) (H : Heap) (locs : List Loc) (ls : Array Slot) (h0 : Nat) (x1 : Int32), fX1_init_15L M0  n15 M h0 x1 = some rr → zH D cy b M H → H.size = b + M.1 → va_S (zA b) s.heap H locs → M0.1 ≤ M.1 → M.1 ≤ M0.1 + 91 → lv_has ls 2 [(0, .ref (b + h0)), (1, .int x1)] → W p l e (headSpec wsX1_init ({ frames := 3, cells := 91, slots := 273000, locals := 81 } : Room)).room s m ([.ref (b + h0)] : List Value).toArray below meth c H locs (M.1 - M0.1) (3000 * (M.1 - M0.1)) (MQ below (zQn D cy b rr) ([.ref (b + h0)] : List Value).toArray s 91 273000 (zA b)) (F0 m 15 ls []) := by
    intro n15
    induction n15 with
    | zero =>
      intro M H locs ls h0 x1 hf
      have hf : (none : Option Mem) = some rr := hf
      cases hf
    | succ n15 ih15 =>
      intro M H locs ls h0 x1 hf hP hz hS hn hu hl
      have hf : fX1_init_15 M0  (fX1_init_15L M0  n15) M h0 x1 = some rr := hf
      unfold fX1_init_15 at hf
      refine lv_iload_n hx hb dX1_init_15 rfl (lv_at hl 1 rfl) ?_
      refine lv_bipush (v := (30 : Int32)) hx hb dX1_init_16 (by decide) ?_
      refine lv_icmp_ge (tgt := 40) hx hb dX1_init_18 (by decide) (fun c18 => ?_) (fun c18 => ?_)
      · have hf := (if_pos c18).symm.trans hf
        refine W.widen (k := 91) (n := 273000) (by omega) (by omega) ?_
        exact zret_n hx hb hr hlocks hf hP hz hS dX1_init_40
      · have hf := (if_neg c18).symm.trans hf
        refine lv_aload_n hx hb dX1_init_21 rfl (lv_at hl 0 rfl) ?_
        obtain ⟨v22, e22, hf⟩ := zb hf
        refine zr_gr (ci := 1) (k := 0) (C := RX1) (T := TX1) (N := 4) hx hb hts hi_X1_init_1 hown hK hP e22 rfl rfl (by decide) (by decide) (hts (.fieldLink RX1 11 "BoundaryAnalyzer$History" "edits" "[LBoundaryAnalyzer$Edit;") (List.mem_of_getElem? (i := 5) rfl)) dX1_init_22 ?_
        refine lv_iload_n hx hb dX1_init_25 rfl (lv_at hl 1 rfl) ?_
        obtain ⟨M26, e26, hf⟩ := zb hf
        refine zr_no (ci := 0) (C := RX0) (T := TX0) (N := 3) hx hb hts hi_X1_init_0 tyX0 tyX0_ok hown (hts (.classLink RX1 9 RX0) (List.mem_of_getElem? (i := 4) rfl)) (hts (.instantiable RX0 3) (List.mem_of_getElem? (i := 6) rfl)) (hts (.initialized RX0) (List.mem_of_getElem? (i := 7) rfl)) hK hP hz hS e26 rfl (by decide) (fun j hj => by rcases (show j = 0 ∨ j = 1 ∨ j = 2 by omega) with rfl | rfl | rfl <;> rfl) (fun h9 => by show _ ≤ 91; omega) (fun h9 => by show _ ≤ 273000; omega) dX1_init_26 (fun H hP hz hS hq h9 => ?_)
        have hn : M0.1 ≤ M26.1 := by omega
        have hu : M26.1 ≤ M0.1 + 91 := by omega
        refine W.widen (k := M26.1 - M0.1) (n := 3000 * (M26.1 - M0.1)) (by omega) (by omega) ?_
        refine lv_dup hx hb dX1_init_29 rfl ?_
        obtain ⟨M30, e30, hf⟩ := zb hf
        obtain ⟨u30, r30, hf⟩ := zb hf
        obtain ⟨hq, h9⟩ := zcg_s r30
        refine zc_n hS (va_runIN (As := []) (rest := [.ref (b + M.1), .int x1, .ref (b + v22)]) ⟨hx, hb, hml, hown, hts⟩ (k_X0_init l D cy b M26 M.1  M30 e30) ⟨va_cnB 0 hts gX1_init_X0_init_n17 rfl rfl rfl (hK.2.1 _ (List.mem_of_getElem? (i := 3) rfl)) (hts (.initialized RX0) (List.mem_of_getElem? (i := 7) rfl)) (by decide +kernel) ⟨Nat.le_of_ble_eq_true rfl, Nat.le_of_ble_eq_true rfl⟩, rfl, (hts (.instanceMethod yX0_init) (List.mem_of_getElem? (i := 8) rfl))⟩ (zp_N _ hK hP hz) rfl rfl hl.1 rfl (lv_room (Nat.le_of_ble_eq_true rfl)) dX1_init_30 ⟨by show _ ≤ 91; omega, by show _ ≤ 273000; omega⟩) (fun H locs hP hz hS => ?_)
        have hn : M0.1 ≤ M30.1 := by omega
        have hu : M30.1 ≤ M0.1 + 91 := by omega
        refine W.widen (k := M30.1 - M0.1) (n := 3000 * (M30.1 - M0.1)) (by omega) (by omega) ?_
        obtain ⟨M33, e33, hf⟩ := zb hf
        refine zr_sa (t0 := 3) (r := (RX0, TX0, 3)) hx hb hK hP hS e33 (by decide) (by decide) rfl rfl dX1_init_33 (fun H locs hP hz1 hS => ?_)
        rw [hz] at hz1; have hz := hz1
        have hq := zsR_n e33
        rw [← hq] at hn hu hz
        refine W.widen (k := M33.1 - M0.1) (n := 3000 * (M33.1 - M0.1)) (by omega) (by omega) ?_
        obtain ⟨x1_34, q34, hf⟩ := zlt_s hf
        refine lv_iinc (v := x1_34) (lv' := [(1, .int x1_34), (0, .ref (b + h0))]) hx hb dX1_init_34 hl (k := 1) rfl (by rw [← q34]; rfl) (by decide) rfl (fun ls hl => ?_)
        refine lv_goto (tgt := 15) hx hb dX1_init_37 (by decide) ?_
        exact ih15 _ _ _ _ _ _ hf hP hz hS hn hu (lv_sub hl [1, 0] rfl)
  unfold fX1_init at hf
  refine lv_aload_n hx hb dX1_init_0 rfl (lv_at hl 0 rfl) ?_
  refine W.objInit hx hb hown (hts (.methodLink RX1 3 objectInit) (List.mem_of_getElem? (i := 1) rfl)) (hts (.instanceMethod objectInit) (List.mem_of_getElem? (i := 2) rfl)) (hts _ (List.mem_of_getElem? (i := 3) rfl)) rfl (by rw [hml]; exact hl.1) rfl dX1_init_1 (Nat.le_of_ble_eq_true rfl) (Nat.le_of_ble_eq_true rfl) ?_
  refine W.eq (g2 := F0 m 4 ls []) rfl ?_
  refine lv_aload_n hx hb dX1_init_4 rfl (lv_at hl 0 rfl) ?_
  refine lv_bipush (v := (30 : Int32)) hx hb dX1_init_5 (by decide) ?_
  obtain ⟨M7, e7, hf⟩ := zb hf
  refine zr_nq (t0 := 3) hx hb hown (hts (.classLink RX1 9 RX0) (List.mem_of_getElem? (i := 4) rfl)) (List.mem_of_getElem? (i := 0) rfl) hK hP hz hS e7 rfl (by decide) (zsL_max _) (fun h9 => by show _ ≤ 91; omega) (fun h9 => by show _ ≤ 273000; omega) dX1_init_7 (fun H hP hz hS hq h9 => ?_)
  have hn : M0.1 ≤ M7.1 := by omega
  have hu : M7.1 ≤ M0.1 + 91 := by omega
  refine W.widen (k := M7.1 - M0.1) (n := 3000 * (M7.1 - M0.1)) (by omega) (by omega) ?_
  obtain ⟨M10, e10, hf⟩ := zb hf
  refine zr_pr (ci := 1) (k := 0) (C := RX1) (T := TX1) (N := 4) hx hb hts hi_X1_init_1 tyX1 tyX1_ok nmX1 hown hK hP hS e10 rfl rfl (by decide) (by decide) (hts (.fieldLink RX1 11 "BoundaryAnalyzer$History" "edits" "[LBoundaryAnalyzer$Edit;") (List.mem_of_getElem? (i := 5) rfl)) (Or.inr ⟨rfl, hin, rfl⟩) (tyX1_ok 0 (by decide)) rfl rfl dX1_init_10 (fun H locs hP hz1 hS => ?_)
  rw [hz] at hz1; have hz := hz1
  have hq := zpR_n e10
  rw [← hq] at hn hu hz
  refine W.widen (k := M10.1 - M0.1) (n := 3000 * (M10.1 - M0.1)) (by omega) (by omega) ?_
  refine lv_iconst (v := (0 : Int32)) hx hb dX1_init_13 (by decide) ?_
  refine lv_istore_n (lv' := [(1, .int (0 : Int32)), (0, .ref (b + h0))]) hx hb dX1_init_14 rfl hl (by decide) rfl (fun ls hl => ?_)
  exact L15 _ _ _ _ _ _ _ hf hP hz hS hn hu (lv_sub hl [1, 0] rfl)
theorem hi_X1_atIndex_1 : ∀ w ∈ wsX10, w ∈ wsX1_atIndex := fun _ h => List.mem_cons_of_mem _ (List.mem_append_right _ h)
set_option maxHeartbeats 4000000 in
set_option maxRecDepth 100000 in
theorem k_X1_atIndex (l : Launch) (D : va_G) (cy : Nat → ClassId) (b : Nat) (M0 : Mem) (h0 : Nat) (x1 : Int32) (rr : Nat × Mem) (hf : fX1_atIndex M0 h0 x1 = some rr) : Met l yX1_atIndex wsX1_atIndex ({ frames := 1, cells := 0, slots := 0, locals := 22 } : Room) (zPc D cy b M0 [.ref (b + h0), .int x1]) (zQr D cy b rr) 0 0 (zA b) := by
  refine Met.ofW (cc := cX1_atIndex) (maxL := 2) (ret := (some (.object "BoundaryAnalyzer$Edit"))) (by decide) rfl ?_
  intro p e s m args below meth c s₁ B hml hv
  obtain ⟨rfl, hP, hK⟩ := hv
  have hx := B.exec
  have hb := B.bytes
  have hr := B.returns
  have hts := atoms_spec (ws := wsX1_atIndex) B.pre
  have hown : s.vm.findClass RX1 = some m.cls := findClass_of_methodNamed B.named
  have hlocks := B.notSynchronized
  have hS : va_S (zA b) s.heap s.heap [] := va_S.rf
  have hl := lv_entry ([.ref (b + h0), .int x1]) (n := 2) (Nat.le_of_ble_eq_true rfl)
  rw [lg_entry_eq]
  generalize (lg_sl ([.ref (b + h0), .int x1]) ++ List.replicate (2 - (lg_sl ([.ref (b + h0), .int x1])).length) Slot.unset).toArray = ls at hl ⊢
  have hl : lv_has ls 2 [(0, .ref (b + h0)), (1, .int x1)] := hl
  unfold fX1_atIndex at hf
  refine lv_aload_n hx hb dX1_atIndex_0 rfl (lv_at hl 0 rfl) ?_
  obtain ⟨v1, e1, hf⟩ := zb hf
  refine zr_gr (ci := 1) (k := 0) (C := RX1) (T := TX1) (N := 4) hx hb hts hi_X1_atIndex_1 hown hK hP e1 rfl rfl (by decide) (by decide) (hts (.fieldLink RX1 11 "BoundaryAnalyzer$History" "edits" "[LBoundaryAnalyzer$Edit;") (List.mem_of_getElem? (i := 1) rfl)) dX1_atIndex_1 ?_
  refine lv_aload_n hx hb dX1_atIndex_4 rfl (lv_at hl 0 rfl) ?_
  obtain ⟨v5, e5, hf⟩ := zb hf
  refine zr_gi (ci := 1) (k := 1) (C := RX1) (T := TX1) (N := 4) hx hb hts hi_X1_atIndex_1 hown hK hP e5 rfl rfl (by decide) (by decide) (hts (.fieldLink RX1 18 "BoundaryAnalyzer$History" "oldest" "I") (List.mem_of_getElem? (i := 2) rfl)) dX1_atIndex_5 ?_
  refine lv_iload_n hx hb dX1_atIndex_8 rfl (lv_at hl 1 rfl) ?_
  refine lv_iadd hx hb dX1_atIndex_9 ?_
  refine lv_bipush (v := (30 : Int32)) hx hb dX1_atIndex_10 (by decide) ?_
  obtain ⟨v12, e12, hf⟩ := zb hf
  refine zc_p (va_runS (As := [.int (v5 + x1), .int (30 : Int32)]) (rest := [.ref (b + v1)]) ⟨hx, hb, hml, hown, hts⟩ (k_J9_floorMod_7cf53 l (v5 + x1) (30 : Int32) v12 e12) (va_cwS 2 hts gX1_atIndex_J9_floorMod_7cf53 rfl rfl rfl (by decide +kernel) ⟨Nat.le_of_ble_eq_true rfl, Nat.le_of_ble_eq_true rfl⟩) (zp_p _) rfl rfl hl.1 rfl (lv_room (Nat.le_of_ble_eq_true rfl)) dX1_atIndex_12 ⟨Nat.zero_le _, Nat.zero_le _⟩) ?_
  obtain ⟨v15, e15, hf⟩ := zb hf
  refine zr_aa (t0 := 3) hx hb hK hP e15 (by decide) rfl dX1_atIndex_15 ?_
  exact zret_r hx hb hr (Or.inl ⟨_, rfl⟩) hlocks hf hP hS dX1_atIndex_16
theorem hi_X1_begin_1 : ∀ w ∈ wsX10, w ∈ wsX1_begin := fun _ h => List.mem_cons_of_mem _ (List.mem_append_right _ h)
set_option maxHeartbeats 4000000 in
set_option maxRecDepth 100000 in
theorem k_X1_begin (l : Launch) (D : va_G) (cy : Nat → ClassId) (b : Nat) (M0 : Mem) (h0 : Nat) (rr : Nat × Mem) (hf : fX1_begin M0 h0 = some rr) : Met l yX1_begin wsX1_begin ({ frames := 2, cells := 0, slots := 0, locals := 43 } : Room) (zPc D cy b M0 [.ref (b + h0)]) (zQr D cy b rr) 0 0 (zA b) := by
  refine Met.ofW (cc := cX1_begin) (maxL := 1) (ret := (some (.object "BoundaryAnalyzer$Edit"))) (by decide) rfl ?_
  intro p e s m args below meth c s₁ B hml hv
  obtain ⟨rfl, hP, hK⟩ := hv
  have hx := B.exec
  have hb := B.bytes
  have hr := B.returns
  have hts := atoms_spec (ws := wsX1_begin) B.pre
  have hown : s.vm.findClass RX1 = some m.cls := findClass_of_methodNamed B.named
  have hlocks := B.notSynchronized
  have hS : va_S (zA b) s.heap s.heap [] := va_S.rf
  have hl := lv_entry ([.ref (b + h0)]) (n := 1) (Nat.le_of_ble_eq_true rfl)
  rw [lg_entry_eq]
  generalize (lg_sl ([.ref (b + h0)]) ++ List.replicate (1 - (lg_sl ([.ref (b + h0)])).length) Slot.unset).toArray = ls at hl ⊢
  have hl : lv_has ls 1 [(0, .ref (b + h0))] := hl
  have J35 : ∀ (M : Mem) (H : Heap) (locs : List Loc) (ls : Array Slot) (h0 : Nat), fX1_begin_35  M h0 = some rr → zH D cy b M H → va_S (zA b) s.heap H locs → lv_has ls 1 [(0, .ref (b + h0))] → W p l e (headSpec wsX1_begin ({ frames := 2, cells := 0, slots := 0, locals := 43 } : Room)).room s m ([.ref (b + h0)] : List Value).toArray below meth c H locs 0 0 (MQ below (zQr D cy b rr) ([.ref (b + h0)] : List Value).toArray s 0 0 (zA b)) (F0 m 35 ls []) := by
    intro M H locs ls h0 hf hP hS hl
    unfold fX1_begin_35 at hf
    refine lv_aload_n hx hb dX1_begin_35 rfl (lv_at hl 0 rfl) ?_
    refine lv_dup hx hb dX1_begin_36 rfl ?_
    obtain ⟨v37, e37, hf⟩ := zb hf
    refine zr_gi (ci := 1) (k := 2) (C := RX1) (T := TX1) (N := 4) hx hb hts hi_X1_begin_1 hown hK hP e37 rfl rfl (by decide) (by decide) (hts (.fieldLink RX1 31 "BoundaryAnalyzer$History" "undoable" "I") (List.mem_of_getElem? (i := 2) rfl)) dX1_begin_37 ?_
    refine lv_iconst (v := (1 : Int32)) hx hb dX1_begin_40 (by decide) ?_
    refine lv_iadd hx hb dX1_begin_41 ?_
    obtain ⟨M42, e42, hf⟩ := zb hf
    refine zr_pi (ci := 1) (k := 2) (C := RX1) (T := TX1) (N := 4) hx hb hts hi_X1_begin_1 tyX1 tyX1_ok nmX1 hown hK hP hS e42 rfl rfl (by decide) (by decide) (hts (.fieldLink RX1 31 "BoundaryAnalyzer$History" "undoable" "I") (List.mem_of_getElem? (i := 2) rfl)) rfl (tyX1_ok 2 (by decide)) dX1_begin_42 (fun H locs hP _ hS => ?_)
    refine lv_aload_n hx hb dX1_begin_45 rfl (lv_at hl 0 rfl) ?_
    refine lv_aload_n hx hb dX1_begin_46 rfl (lv_at hl 0 rfl) ?_
    obtain ⟨v47, e47, hf⟩ := zb hf
    refine zr_gi (ci := 1) (k := 2) (C := RX1) (T := TX1) (N := 4) hx hb hts hi_X1_begin_1 hown hK hP e47 rfl rfl (by decide) (by decide) (hts (.fieldLink RX1 31 "BoundaryAnalyzer$History" "undoable" "I") (List.mem_of_getElem? (i := 2) rfl)) dX1_begin_47 ?_
    refine lv_iconst (v := (1 : Int32)) hx hb dX1_begin_50 (by decide) ?_
    refine lv_isub hx hb dX1_begin_51 ?_
    obtain ⟨u52, t52, hf⟩ := zb hf
    obtain ⟨r52, e52, hf⟩ := zb hf
    refine zc_r hS (va_runV (As := [.int (v47 - (1 : Int32))]) (rest := []) ⟨hx, hb, hml, hown, hts⟩ (k_X1_atIndex l D cy b M42 h0 (v47 - (1 : Int32)) r52 e52) (cwV 1 hts gX1_begin_X1_atIndex rfl rfl rfl (by decide +kernel) ⟨Nat.le_of_ble_eq_true rfl, Nat.le_of_ble_eq_true rfl⟩) (zp_V _ hK hP t52 (T := TX1) (N := 4) rfl (by decide)) rfl rfl hl.1 rfl (lv_room (Nat.le_of_ble_eq_true rfl)) dX1_begin_52 ⟨Nat.zero_le _, Nat.zero_le _⟩) (fun H locs hP hS => ?_)
    exact zret_r hx hb hr (Or.inl ⟨_, rfl⟩) hlocks hf hP hS dX1_begin_55
  unfold fX1_begin at hf
  refine lv_aload_n hx hb dX1_begin_0 rfl (lv_at hl 0 rfl) ?_
  refine lv_iconst (v := (0 : Int32)) hx hb dX1_begin_1 (by decide) ?_
  obtain ⟨M2, e2, hf⟩ := zb hf
  refine zr_pi (ci := 1) (k := 3) (C := RX1) (T := TX1) (N := 4) hx hb hts hi_X1_begin_1 tyX1 tyX1_ok nmX1 hown hK hP hS e2 rfl rfl (by decide) (by decide) (hts (.fieldLink RX1 28 "BoundaryAnalyzer$History" "redoable" "I") (List.mem_of_getElem? (i := 1) rfl)) rfl (tyX1_ok 3 (by decide)) dX1_begin_2 (fun H locs hP _ hS => ?_)
  refine lv_aload_n hx hb dX1_begin_5 rfl (lv_at hl 0 rfl) ?_
  obtain ⟨v6, e6, hf⟩ := zb hf
  refine zr_gi (ci := 1) (k := 2) (C := RX1) (T := TX1) (N := 4) hx hb hts hi_X1_begin_1 hown hK hP e6 rfl rfl (by decide) (by decide) (hts (.fieldLink RX1 31 "BoundaryAnalyzer$History" "undoable" "I") (List.mem_of_getElem? (i := 2) rfl)) dX1_begin_6 ?_
  refine lv_bipush (v := (30 : Int32)) hx hb dX1_begin_9 (by decide) ?_
  refine lv_icmp_lt (tgt := 35) hx hb dX1_begin_11 (by decide) (fun c11 => ?_) (fun c11 => ?_)
  · have hf := (if_pos c11).symm.trans hf
    exact J35 _ _ _ _ _ hf hP hS (lv_sub hl [0] rfl)
  · have hf := (if_neg c11).symm.trans hf
    refine lv_aload_n hx hb dX1_begin_14 rfl (lv_at hl 0 rfl) ?_
    refine lv_aload_n hx hb dX1_begin_15 rfl (lv_at hl 0 rfl) ?_
    obtain ⟨v16, e16, hf⟩ := zb hf
    refine zr_gi (ci := 1) (k := 1) (C := RX1) (T := TX1) (N := 4) hx hb hts hi_X1_begin_1 hown hK hP e16 rfl rfl (by decide) (by decide) (hts (.fieldLink RX1 18 "BoundaryAnalyzer$History" "oldest" "I") (List.mem_of_getElem? (i := 3) rfl)) dX1_begin_16 ?_
    refine lv_iconst (v := (1 : Int32)) hx hb dX1_begin_19 (by decide) ?_
    refine lv_iadd hx hb dX1_begin_20 ?_
    refine lv_bipush (v := (30 : Int32)) hx hb dX1_begin_21 (by decide) ?_
    obtain ⟨v23, e23, hf⟩ := zb hf
    refine zc_p (va_runS (As := [.int (v16 + (1 : Int32)), .int (30 : Int32)]) (rest := [.ref (b + h0)]) ⟨hx, hb, hml, hown, hts⟩ (k_J9_floorMod_7cf53 l (v16 + (1 : Int32)) (30 : Int32) v23 e23) (va_cwS 2 hts gX1_begin_J9_floorMod_7cf53 rfl rfl rfl (by decide +kernel) ⟨Nat.le_of_ble_eq_true rfl, Nat.le_of_ble_eq_true rfl⟩) (zp_p _) rfl rfl hl.1 rfl (lv_room (Nat.le_of_ble_eq_true rfl)) dX1_begin_23 ⟨Nat.zero_le _, Nat.zero_le _⟩) ?_
    obtain ⟨M26, e26, hf⟩ := zb hf
    refine zr_pi (ci := 1) (k := 1) (C := RX1) (T := TX1) (N := 4) hx hb hts hi_X1_begin_1 tyX1 tyX1_ok nmX1 hown hK hP hS e26 rfl rfl (by decide) (by decide) (hts (.fieldLink RX1 18 "BoundaryAnalyzer$History" "oldest" "I") (List.mem_of_getElem? (i := 3) rfl)) rfl (tyX1_ok 1 (by decide)) dX1_begin_26 (fun H locs hP _ hS => ?_)
    refine lv_aload_n hx hb dX1_begin_29 rfl (lv_at hl 0 rfl) ?_
    refine lv_bipush (v := (29 : Int32)) hx hb dX1_begin_30 (by decide) ?_
    obtain ⟨M32, e32, hf⟩ := zb hf
    refine zr_pi (ci := 1) (k := 2) (C := RX1) (T := TX1) (N := 4) hx hb hts hi_X1_begin_1 tyX1 tyX1_ok nmX1 hown hK hP hS e32 rfl rfl (by decide) (by decide) (hts (.fieldLink RX1 31 "BoundaryAnalyzer$History" "undoable" "I") (List.mem_of_getElem? (i := 2) rfl)) rfl (tyX1_ok 2 (by decide)) dX1_begin_32 (fun H locs hP _ hS => ?_)
    exact J35 _ _ _ _ _ hf hP hS (lv_sub hl [0] rfl)
theorem hi_X1_stepBack_1 : ∀ w ∈ wsX10, w ∈ wsX1_stepBack := fun _ h => List.mem_cons_of_mem _ (List.mem_append_right _ h)
set_option maxHeartbeats 4000000 in
set_option maxRecDepth 100000 in
theorem k_X1_stepBack (l : Launch) (D : va_G) (cy : Nat → ClassId) (b : Nat) (M0 : Mem) (h0 : Nat) (rr : Nat × Mem) (hf : fX1_stepBack M0 h0 = some rr) : Met l yX1_stepBack wsX1_stepBack ({ frames := 2, cells := 0, slots := 0, locals := 43 } : Room) (zPc D cy b M0 [.ref (b + h0)]) (zQr D cy b rr) 0 0 (zA b) := by
  refine Met.ofW (cc := cX1_stepBack) (maxL := 1) (ret := (some (.object "BoundaryAnalyzer$Edit"))) (by decide) rfl ?_
  intro p e s m args below meth c s₁ B hml hv
  obtain ⟨rfl, hP, hK⟩ := hv
  have hx := B.exec
  have hb := B.bytes
  have hr := B.returns
  have hts := atoms_spec (ws := wsX1_stepBack) B.pre
  have hown : s.vm.findClass RX1 = some m.cls := findClass_of_methodNamed B.named
  have hlocks := B.notSynchronized
  have hS : va_S (zA b) s.heap s.heap [] := va_S.rf
  have hl := lv_entry ([.ref (b + h0)]) (n := 1) (Nat.le_of_ble_eq_true rfl)
  rw [lg_entry_eq]
  generalize (lg_sl ([.ref (b + h0)]) ++ List.replicate (1 - (lg_sl ([.ref (b + h0)])).length) Slot.unset).toArray = ls at hl ⊢
  have hl : lv_has ls 1 [(0, .ref (b + h0))] := hl
  unfold fX1_stepBack at hf
  refine lv_aload_n hx hb dX1_stepBack_0 rfl (lv_at hl 0 rfl) ?_
  refine lv_dup hx hb dX1_stepBack_1 rfl ?_
  obtain ⟨v2, e2, hf⟩ := zb hf
  refine zr_gi (ci := 1) (k := 2) (C := RX1) (T := TX1) (N := 4) hx hb hts hi_X1_stepBack_1 hown hK hP e2 rfl rfl (by decide) (by decide) (hts (.fieldLink RX1 31 "BoundaryAnalyzer$History" "undoable" "I") (List.mem_of_getElem? (i := 1) rfl)) dX1_stepBack_2 ?_
  refine lv_iconst (v := (1 : Int32)) hx hb dX1_stepBack_5 (by decide) ?_
  refine lv_isub hx hb dX1_stepBack_6 ?_
  obtain ⟨M7, e7, hf⟩ := zb hf
  refine zr_pi (ci := 1) (k := 2) (C := RX1) (T := TX1) (N := 4) hx hb hts hi_X1_stepBack_1 tyX1 tyX1_ok nmX1 hown hK hP hS e7 rfl rfl (by decide) (by decide) (hts (.fieldLink RX1 31 "BoundaryAnalyzer$History" "undoable" "I") (List.mem_of_getElem? (i := 1) rfl)) rfl (tyX1_ok 2 (by decide)) dX1_stepBack_7 (fun H locs hP _ hS => ?_)
  refine lv_aload_n hx hb dX1_stepBack_10 rfl (lv_at hl 0 rfl) ?_
  refine lv_dup hx hb dX1_stepBack_11 rfl ?_
  obtain ⟨v12, e12, hf⟩ := zb hf
  refine zr_gi (ci := 1) (k := 3) (C := RX1) (T := TX1) (N := 4) hx hb hts hi_X1_stepBack_1 hown hK hP e12 rfl rfl (by decide) (by decide) (hts (.fieldLink RX1 28 "BoundaryAnalyzer$History" "redoable" "I") (List.mem_of_getElem? (i := 2) rfl)) dX1_stepBack_12 ?_
  refine lv_iconst (v := (1 : Int32)) hx hb dX1_stepBack_15 (by decide) ?_
  refine lv_iadd hx hb dX1_stepBack_16 ?_
  obtain ⟨M17, e17, hf⟩ := zb hf
  refine zr_pi (ci := 1) (k := 3) (C := RX1) (T := TX1) (N := 4) hx hb hts hi_X1_stepBack_1 tyX1 tyX1_ok nmX1 hown hK hP hS e17 rfl rfl (by decide) (by decide) (hts (.fieldLink RX1 28 "BoundaryAnalyzer$History" "redoable" "I") (List.mem_of_getElem? (i := 2) rfl)) rfl (tyX1_ok 3 (by decide)) dX1_stepBack_17 (fun H locs hP _ hS => ?_)
  refine lv_aload_n hx hb dX1_stepBack_20 rfl (lv_at hl 0 rfl) ?_
  refine lv_aload_n hx hb dX1_stepBack_21 rfl (lv_at hl 0 rfl) ?_
  obtain ⟨v22, e22, hf⟩ := zb hf
  refine zr_gi (ci := 1) (k := 2) (C := RX1) (T := TX1) (N := 4) hx hb hts hi_X1_stepBack_1 hown hK hP e22 rfl rfl (by decide) (by decide) (hts (.fieldLink RX1 31 "BoundaryAnalyzer$History" "undoable" "I") (List.mem_of_getElem? (i := 1) rfl)) dX1_stepBack_22 ?_
  obtain ⟨u25, t25, hf⟩ := zb hf
  obtain ⟨r25, e25, hf⟩ := zb hf
  refine zc_r hS (va_runV (As := [.int v22]) (rest := []) ⟨hx, hb, hml, hown, hts⟩ (k_X1_atIndex l D cy b M17 h0 v22 r25 e25) (cwV 1 hts gX1_stepBack_X1_atIndex rfl rfl rfl (by decide +kernel) ⟨Nat.le_of_ble_eq_true rfl, Nat.le_of_ble_eq_true rfl⟩) (zp_V _ hK hP t25 (T := TX1) (N := 4) rfl (by decide)) rfl rfl hl.1 rfl (lv_room (Nat.le_of_ble_eq_true rfl)) dX1_stepBack_25 ⟨Nat.zero_le _, Nat.zero_le _⟩) (fun H locs hP hS => ?_)
  exact zret_r hx hb hr (Or.inl ⟨_, rfl⟩) hlocks hf hP hS dX1_stepBack_28
theorem hi_X1_stepForward_1 : ∀ w ∈ wsX10, w ∈ wsX1_stepForward := fun _ h => List.mem_cons_of_mem _ (List.mem_append_right _ h)
set_option maxHeartbeats 4000000 in
set_option maxRecDepth 100000 in
theorem k_X1_stepForward (l : Launch) (D : va_G) (cy : Nat → ClassId) (b : Nat) (M0 : Mem) (h0 : Nat) (rr : Nat × Mem) (hf : fX1_stepForward M0 h0 = some rr) : Met l yX1_stepForward wsX1_stepForward ({ frames := 2, cells := 0, slots := 0, locals := 43 } : Room) (zPc D cy b M0 [.ref (b + h0)]) (zQr D cy b rr) 0 0 (zA b) := by
  refine Met.ofW (cc := cX1_stepForward) (maxL := 1) (ret := (some (.object "BoundaryAnalyzer$Edit"))) (by decide) rfl ?_
  intro p e s m args below meth c s₁ B hml hv
  obtain ⟨rfl, hP, hK⟩ := hv
  have hx := B.exec
  have hb := B.bytes
  have hr := B.returns
  have hts := atoms_spec (ws := wsX1_stepForward) B.pre
  have hown : s.vm.findClass RX1 = some m.cls := findClass_of_methodNamed B.named
  have hlocks := B.notSynchronized
  have hS : va_S (zA b) s.heap s.heap [] := va_S.rf
  have hl := lv_entry ([.ref (b + h0)]) (n := 1) (Nat.le_of_ble_eq_true rfl)
  rw [lg_entry_eq]
  generalize (lg_sl ([.ref (b + h0)]) ++ List.replicate (1 - (lg_sl ([.ref (b + h0)])).length) Slot.unset).toArray = ls at hl ⊢
  have hl : lv_has ls 1 [(0, .ref (b + h0))] := hl
  unfold fX1_stepForward at hf
  refine lv_aload_n hx hb dX1_stepForward_0 rfl (lv_at hl 0 rfl) ?_
  refine lv_dup hx hb dX1_stepForward_1 rfl ?_
  obtain ⟨v2, e2, hf⟩ := zb hf
  refine zr_gi (ci := 1) (k := 2) (C := RX1) (T := TX1) (N := 4) hx hb hts hi_X1_stepForward_1 hown hK hP e2 rfl rfl (by decide) (by decide) (hts (.fieldLink RX1 31 "BoundaryAnalyzer$History" "undoable" "I") (List.mem_of_getElem? (i := 1) rfl)) dX1_stepForward_2 ?_
  refine lv_iconst (v := (1 : Int32)) hx hb dX1_stepForward_5 (by decide) ?_
  refine lv_iadd hx hb dX1_stepForward_6 ?_
  obtain ⟨M7, e7, hf⟩ := zb hf
  refine zr_pi (ci := 1) (k := 2) (C := RX1) (T := TX1) (N := 4) hx hb hts hi_X1_stepForward_1 tyX1 tyX1_ok nmX1 hown hK hP hS e7 rfl rfl (by decide) (by decide) (hts (.fieldLink RX1 31 "BoundaryAnalyzer$History" "undoable" "I") (List.mem_of_getElem? (i := 1) rfl)) rfl (tyX1_ok 2 (by decide)) dX1_stepForward_7 (fun H locs hP _ hS => ?_)
  refine lv_aload_n hx hb dX1_stepForward_10 rfl (lv_at hl 0 rfl) ?_
  refine lv_dup hx hb dX1_stepForward_11 rfl ?_
  obtain ⟨v12, e12, hf⟩ := zb hf
  refine zr_gi (ci := 1) (k := 3) (C := RX1) (T := TX1) (N := 4) hx hb hts hi_X1_stepForward_1 hown hK hP e12 rfl rfl (by decide) (by decide) (hts (.fieldLink RX1 28 "BoundaryAnalyzer$History" "redoable" "I") (List.mem_of_getElem? (i := 2) rfl)) dX1_stepForward_12 ?_
  refine lv_iconst (v := (1 : Int32)) hx hb dX1_stepForward_15 (by decide) ?_
  refine lv_isub hx hb dX1_stepForward_16 ?_
  obtain ⟨M17, e17, hf⟩ := zb hf
  refine zr_pi (ci := 1) (k := 3) (C := RX1) (T := TX1) (N := 4) hx hb hts hi_X1_stepForward_1 tyX1 tyX1_ok nmX1 hown hK hP hS e17 rfl rfl (by decide) (by decide) (hts (.fieldLink RX1 28 "BoundaryAnalyzer$History" "redoable" "I") (List.mem_of_getElem? (i := 2) rfl)) rfl (tyX1_ok 3 (by decide)) dX1_stepForward_17 (fun H locs hP _ hS => ?_)
  refine lv_aload_n hx hb dX1_stepForward_20 rfl (lv_at hl 0 rfl) ?_
  refine lv_aload_n hx hb dX1_stepForward_21 rfl (lv_at hl 0 rfl) ?_
  obtain ⟨v22, e22, hf⟩ := zb hf
  refine zr_gi (ci := 1) (k := 2) (C := RX1) (T := TX1) (N := 4) hx hb hts hi_X1_stepForward_1 hown hK hP e22 rfl rfl (by decide) (by decide) (hts (.fieldLink RX1 31 "BoundaryAnalyzer$History" "undoable" "I") (List.mem_of_getElem? (i := 1) rfl)) dX1_stepForward_22 ?_
  refine lv_iconst (v := (1 : Int32)) hx hb dX1_stepForward_25 (by decide) ?_
  refine lv_isub hx hb dX1_stepForward_26 ?_
  obtain ⟨u27, t27, hf⟩ := zb hf
  obtain ⟨r27, e27, hf⟩ := zb hf
  refine zc_r hS (va_runV (As := [.int (v22 - (1 : Int32))]) (rest := []) ⟨hx, hb, hml, hown, hts⟩ (k_X1_atIndex l D cy b M17 h0 (v22 - (1 : Int32)) r27 e27) (cwV 1 hts gX1_stepForward_X1_atIndex rfl rfl rfl (by decide +kernel) ⟨Nat.le_of_ble_eq_true rfl, Nat.le_of_ble_eq_true rfl⟩) (zp_V _ hK hP t27 (T := TX1) (N := 4) rfl (by decide)) rfl rfl hl.1 rfl (lv_room (Nat.le_of_ble_eq_true rfl)) dX1_stepForward_27 ⟨Nat.zero_le _, Nat.zero_le _⟩) (fun H locs hP hS => ?_)
  exact zret_r hx hb hr (Or.inl ⟨_, rfl⟩) hlocks hf hP hS dX1_stepForward_30
theorem hi_X8_init_1 : ∀ w ∈ wsX10, w ∈ wsX8_init := fun _ h => List.mem_cons_of_mem _ (List.mem_append_left _ (List.mem_append_left _ (List.mem_append_left _ (List.mem_append_right _ h))))
theorem hi_X8_init_2 : ∀ w ∈ wsX20, w ∈ wsX8_init := fun _ h => List.mem_cons_of_mem _ (List.mem_append_left _ (List.mem_append_left _ (List.mem_append_left _ (List.mem_append_left _ (List.mem_append_left _ (List.mem_append_right _ h))))))
theorem hi_X8_init_4 : ∀ w ∈ wsX40, w ∈ wsX8_init := fun _ h => List.mem_cons_of_mem _ (List.mem_append_left _ (List.mem_append_left _ (List.mem_append_left _ (List.mem_append_left _ (List.mem_append_left _ (List.mem_append_left _ (List.mem_append_right _ h)))))))
theorem hi_X8_init_6 : ∀ w ∈ wsX60, w ∈ wsX8_init := fun _ h => List.mem_cons_of_mem _ (List.mem_append_left _ (List.mem_append_left _ (List.mem_append_left _ (List.mem_append_left _ (List.mem_append_right _ h)))))
theorem hi_X8_init_7 : ∀ w ∈ wsX70, w ∈ wsX8_init := fun _ h => List.mem_cons_of_mem _ (List.mem_append_left _ (List.mem_append_left _ (List.mem_append_left _ (List.mem_append_left _ (List.mem_append_left _ (List.mem_append_left _ (List.mem_append_left _ (List.mem_append_left _ (List.mem_append_right _ h)))))))))
theorem hi_X8_init_8 : ∀ w ∈ wsX80, w ∈ wsX8_init := fun _ h => List.mem_cons_of_mem _ (List.mem_append_left _ (List.mem_append_left _ (List.mem_append_left _ (List.mem_append_left _ (List.mem_append_left _ (List.mem_append_left _ (List.mem_append_left _ (List.mem_append_right _ h))))))))
set_option maxHeartbeats 4000000 in
set_option maxRecDepth 100000 in
theorem k_X8_init (l : Launch) (D : va_G) (cy : Nat → ClassId) (b : Nat) (M0 : Mem) (h0 : Nat) (rr : Mem) (hf : fX8_init M0 h0 = some rr) : Met l yX8_init wsX8_init ({ frames := 4, cells := 278, slots := 834000, locals := 102 } : Room) (zPn D cy b M0 [.ref (b + h0)]) (zQn D cy b rr) 278 834000 (zA b) := by
  refine Met.ofW (cc := cX8_init) (maxL := 2) (ret := none) (by decide) rfl ?_
  intro p e s m args below meth c s₁ B hml hv
  obtain ⟨rfl, hP, hK, hz⟩ := hv
  have hx := B.exec
  have hb := B.bytes
  have hr := B.returns
  have hts := atoms_spec (ws := wsX8_init) B.pre
  have hown : s.vm.findClass RX8 = some m.cls := findClass_of_methodNamed B.named
  have hlocks := B.notSynchronized
  have hin : meth.name = "<init>" := (name_of_methodNamed B.named B.method).1
  have hS : va_S (zA b) s.heap s.heap [] := va_S.rf
  have hl := lv_entry ([.ref (b + h0)]) (n := 2) (Nat.le_of_ble_eq_true rfl)
  rw [lg_entry_eq]
  generalize (lg_sl ([.ref (b + h0)]) ++ List.replicate (2 - (lg_sl ([.ref (b + h0)])).length) Slot.unset).toArray = ls at hl ⊢
  have hl : lv_has ls 2 [(0, .ref (b + h0))] := hl
  have hn : M0.1 ≤ M0.1 := Nat.le_refl _
  have hu : M0.1 ≤ M0.1 + 278 := by omega
  refine W.widen (k := M0.1 - M0.1) (n := 3000 * (M0.1 - M0.1)) (by omega) (by omega) ?_
  have L84 : ∀ (n84 : Nat) (M : Mem) (H : Heap) (locs : List Loc) (ls : Array Slot) (h0 : Nat) (x1 : Int32), fX8_init_84L M0  n84 M h0 x1 = some rr → zH D cy b M H → H.size = b + M.1 → va_S (zA b) s.heap H locs → M0.1 ≤ M.1 → M.1 ≤ M0.1 + 278 → lv_has ls 2 [(0, .ref (b + h0)), (1, .int x1)] → W p l e (headSpec wsX8_init ({ frames := 4, cells := 278, slots := 834000, locals := 102 } : Room)).room s m ([.ref (b + h0)] : List Value).toArray below meth c H locs (M.1 - M0.1) (3000 * (M.1 - M0.1)) (MQ below (zQn D cy b rr) ([.ref (b + h0)] : List Value).toArray s 278 834000 (zA b)) (F0 m 84 ls []) := by
    intro n84
    induction n84 with
    | zero =>
      intro M H locs ls h0 x1 hf
      have hf : (none : Option Mem) = some rr := hf
      cases hf
    | succ n84 ih84 =>
      intro M H locs ls h0 x1 hf hP hz hS hn hu hl
      have hf : fX8_init_84 M0  (fX8_init_84L M0  n84) M h0 x1 = some rr := hf
      unfold fX8_init_84 at hf
      refine lv_iload_n hx hb dX8_init_84 rfl (lv_at hl 1 rfl) ?_
      refine lv_bipush (v := (10 : Int32)) hx hb dX8_init_85 (by decide) ?_
      refine lv_icmp_ge (tgt := 111) hx hb dX8_init_87 (by decide) (fun c87 => ?_) (fun c87 => ?_)
      · have hf := (if_pos c87).symm.trans hf
        refine lv_aload_n hx hb dX8_init_111 rfl (lv_at hl 0 rfl) ?_
        obtain ⟨M112, e112, hf⟩ := zb hf
        refine zr_no (ci := 1) (C := RX1) (T := TX1) (N := 4) hx hb hts hi_X8_init_1 tyX1 tyX1_ok hown (hts (.classLink RX8 43 RX1) (List.mem_of_getElem? (i := 21) rfl)) (hts (.instantiable RX1 4) (List.mem_of_getElem? (i := 22) rfl)) (hts (.initialized RX1) (List.mem_of_getElem? (i := 23) rfl)) hK hP hz hS e112 rfl (by decide) (fun j hj => by rcases (show j = 0 ∨ j = 1 ∨ j = 2 ∨ j = 3 by omega) with rfl | rfl | rfl | rfl <;> rfl) (fun h9 => by show _ ≤ 278; omega) (fun h9 => by show _ ≤ 834000; omega) dX8_init_112 (fun H hP hz hS hq h9 => ?_)
        have hn : M0.1 ≤ M112.1 := by omega
        have hu : M112.1 ≤ M0.1 + 278 := by omega
        refine W.widen (k := M112.1 - M0.1) (n := 3000 * (M112.1 - M0.1)) (by omega) (by omega) ?_
        refine lv_dup hx hb dX8_init_115 rfl ?_
        obtain ⟨M116, e116, hf⟩ := zb hf
        obtain ⟨u116, r116, hf⟩ := zb hf
        obtain ⟨hq, h9⟩ := zcg_s r116
        refine zc_n hS (va_runI (As := []) (rest := [.ref (b + M.1), .ref (b + h0)]) ⟨hx, hb, hml, hown, hts⟩ (k_X1_init l D cy b M112 M.1  M116 e116) (cwI 0 hts gX8_init_X1_init rfl rfl rfl (hts (.initialized RX1) (List.mem_of_getElem? (i := 23) rfl)) (hts (.methodLink RX8 45 yX1_init) (List.mem_of_getElem? (i := 82) rfl)) (hts (.instanceMethod yX1_init) (List.mem_of_getElem? (i := 83) rfl)) rfl (by decide +kernel) ⟨Nat.le_of_ble_eq_true rfl, Nat.le_of_ble_eq_true rfl⟩) (zp_N _ hK hP hz) rfl rfl hl.1 rfl (lv_room (Nat.le_of_ble_eq_true rfl)) dX8_init_116 ⟨by show _ ≤ 278; omega, by show _ ≤ 834000; omega⟩) (fun H locs hP hz hS => ?_)
        have hn : M0.1 ≤ M116.1 := by omega
        have hu : M116.1 ≤ M0.1 + 278 := by omega
        refine W.widen (k := M116.1 - M0.1) (n := 3000 * (M116.1 - M0.1)) (by omega) (by omega) ?_
        obtain ⟨M119, e119, hf⟩ := zb hf
        refine zr_pr (ci := 8) (k := 6) (C := RX8) (T := TX8) (N := 7) hx hb hts hi_X8_init_8 tyX8 tyX8_ok nmX8 hown hK hP hS e119 rfl rfl (by decide) (by decide) (hts (.fieldLink RX8 46 "BoundaryAnalyzer" "history" "LBoundaryAnalyzer$History;") (List.mem_of_getElem? (i := 24) rfl)) (Or.inr ⟨rfl, hin, rfl⟩) (tyX8_ok 6 (by decide)) rfl rfl dX8_init_119 (fun H locs hP hz1 hS => ?_)
        rw [hz] at hz1; have hz := hz1
        have hq := zpR_n e119
        rw [← hq] at hn hu hz
        refine W.widen (k := M119.1 - M0.1) (n := 3000 * (M119.1 - M0.1)) (by omega) (by omega) ?_
        refine W.widen (k := 278) (n := 834000) (by omega) (by omega) ?_
        exact zret_n hx hb hr hlocks hf hP hz hS dX8_init_122
      · have hf := (if_neg c87).symm.trans hf
        refine lv_aload_n hx hb dX8_init_90 rfl (lv_at hl 0 rfl) ?_
        obtain ⟨v91, e91, hf⟩ := zb hf
        refine zr_gr (ci := 8) (k := 4) (C := RX8) (T := TX8) (N := 7) hx hb hts hi_X8_init_8 hown hK hP e91 rfl rfl (by decide) (by decide) (hts (.fieldLink RX8 39 "BoundaryAnalyzer" "exceptions" "[LBoundaryAnalyzer$Row;") (List.mem_of_getElem? (i := 20) rfl)) dX8_init_91 ?_
        refine lv_iload_n hx hb dX8_init_94 rfl (lv_at hl 1 rfl) ?_
        obtain ⟨M95, e95, hf⟩ := zb hf
        refine zr_no (ci := 4) (C := RX4) (T := TX4) (N := 2) hx hb hts hi_X8_init_4 tyX4 tyX4_ok hown (hts (.classLink RX8 16 RX4) (List.mem_of_getElem? (i := 8) rfl)) (hts (.instantiable RX4 2) (List.mem_of_getElem? (i := 9) rfl)) (hts (.initialized RX4) (List.mem_of_getElem? (i := 10) rfl)) hK hP hz hS e95 rfl (by decide) (fun j hj => by rcases (show j = 0 ∨ j = 1 by omega) with rfl | rfl <;> rfl) (fun h9 => by show _ ≤ 278; omega) (fun h9 => by show _ ≤ 834000; omega) dX8_init_95 (fun H hP hz hS hq h9 => ?_)
        have hn : M0.1 ≤ M95.1 := by omega
        have hu : M95.1 ≤ M0.1 + 278 := by omega
        refine W.widen (k := M95.1 - M0.1) (n := 3000 * (M95.1 - M0.1)) (by omega) (by omega) ?_
        refine lv_dup hx hb dX8_init_98 rfl ?_
        refine lv_bipush (v := (8 : Int32)) hx hb dX8_init_99 (by decide) ?_
        obtain ⟨M101, e101, hf⟩ := zb hf
        obtain ⟨u101, r101, hf⟩ := zb hf
        obtain ⟨hq, h9⟩ := zcg_s r101
        refine zc_n hS (va_runI (As := [.int (8 : Int32)]) (rest := [.ref (b + M.1), .int x1, .ref (b + v91)]) ⟨hx, hb, hml, hown, hts⟩ (k_X4_init l D cy b M95 M.1 (8 : Int32) M101 e101) (cwI 1 hts gX8_init_X4_init rfl rfl rfl (hts (.initialized RX4) (List.mem_of_getElem? (i := 10) rfl)) (hts (.methodLink RX8 18 yX4_init) (List.mem_of_getElem? (i := 46) rfl)) (hts (.instanceMethod yX4_init) (List.mem_of_getElem? (i := 34) rfl)) rfl (by decide +kernel) ⟨Nat.le_of_ble_eq_true rfl, Nat.le_of_ble_eq_true rfl⟩) (zp_N _ hK hP hz) rfl rfl hl.1 rfl (lv_room (Nat.le_of_ble_eq_true rfl)) dX8_init_101 ⟨by show _ ≤ 278; omega, by show _ ≤ 834000; omega⟩) (fun H locs hP hz hS => ?_)
        have hn : M0.1 ≤ M101.1 := by omega
        have hu : M101.1 ≤ M0.1 + 278 := by omega
        refine W.widen (k := M101.1 - M0.1) (n := 3000 * (M101.1 - M0.1)) (by omega) (by omega) ?_
        obtain ⟨M104, e104, hf⟩ := zb hf
        refine zr_sa (t0 := 6) (r := (RX4, TX4, 2)) hx hb hK hP hS e104 (by decide) (by decide) rfl rfl dX8_init_104 (fun H locs hP hz1 hS => ?_)
        rw [hz] at hz1; have hz := hz1
        have hq := zsR_n e104
        rw [← hq] at hn hu hz
        refine W.widen (k := M104.1 - M0.1) (n := 3000 * (M104.1 - M0.1)) (by omega) (by omega) ?_
        obtain ⟨x1_105, q105, hf⟩ := zlt_s hf
        refine lv_iinc (v := x1_105) (lv' := [(1, .int x1_105), (0, .ref (b + h0))]) hx hb dX8_init_105 hl (k := 1) rfl (by rw [← q105]; rfl) (by decide) rfl (fun ls hl => ?_)
        refine lv_goto (tgt := 84) hx hb dX8_init_108 (by decide) ?_
        exact ih84 _ _ _ _ _ _ hf hP hz hS hn hu (lv_sub hl [1, 0] rfl)
  have L38 : ∀ (n38 : Nat) (M : Mem) (H : Heap) (locs : List Loc) (ls : Array Slot) (h0 : Nat) (x1 : Int32), fX8_init_38L M0  n38 M h0 x1 = some rr → zH D cy b M H → H.size = b + M.1 → va_S (zA b) s.heap H locs → M0.1 ≤ M.1 → M.1 ≤ M0.1 + 278 → lv_has ls 2 [(0, .ref (b + h0)), (1, .int x1)] → W p l e (headSpec wsX8_init ({ frames := 4, cells := 278, slots := 834000, locals := 102 } : Room)).room s m ([.ref (b + h0)] : List Value).toArray below meth c H locs (M.1 - M0.1) (3000 * (M.1 - M0.1)) (MQ below (zQn D cy b rr) ([.ref (b + h0)] : List Value).toArray s 278 834000 (zA b)) (F0 m 38 ls []) := by
    intro n38
    induction n38 with
    | zero =>
      intro M H locs ls h0 x1 hf
      have hf : (none : Option Mem) = some rr := hf
      cases hf
    | succ n38 ih38 =>
      intro M H locs ls h0 x1 hf hP hz hS hn hu hl
      have hf : fX8_init_38 M0  (fX8_init_38L M0  n38) M h0 x1 = some rr := hf
      unfold fX8_init_38 at hf
      refine lv_iload_n hx hb dX8_init_38 rfl (lv_at hl 1 rfl) ?_
      refine lv_iconst (v := (3 : Int32)) hx hb dX8_init_39 (by decide) ?_
      refine lv_icmp_ge (tgt := 62) hx hb dX8_init_40 (by decide) (fun c40 => ?_) (fun c40 => ?_)
      · have hf := (if_pos c40).symm.trans hf
        refine lv_aload_n hx hb dX8_init_62 rfl (lv_at hl 0 rfl) ?_
        obtain ⟨M63, e63, hf⟩ := zb hf
        refine zr_no (ci := 6) (C := RX6) (T := TX6) (N := 4) hx hb hts hi_X8_init_6 tyX6 tyX6_ok hown (hts (.classLink RX8 32 RX6) (List.mem_of_getElem? (i := 16) rfl)) (hts (.instantiable RX6 4) (List.mem_of_getElem? (i := 17) rfl)) (hts (.initialized RX6) (List.mem_of_getElem? (i := 18) rfl)) hK hP hz hS e63 rfl (by decide) (fun j hj => by rcases (show j = 0 ∨ j = 1 ∨ j = 2 ∨ j = 3 by omega) with rfl | rfl | rfl | rfl <;> rfl) (fun h9 => by show _ ≤ 278; omega) (fun h9 => by show _ ≤ 834000; omega) dX8_init_63 (fun H hP hz hS hq h9 => ?_)
        have hn : M0.1 ≤ M63.1 := by omega
        have hu : M63.1 ≤ M0.1 + 278 := by omega
        refine W.widen (k := M63.1 - M0.1) (n := 3000 * (M63.1 - M0.1)) (by omega) (by omega) ?_
        refine lv_dup hx hb dX8_init_66 rfl ?_
        obtain ⟨M67, e67, hf⟩ := zb hf
        obtain ⟨u67, r67, hf⟩ := zb hf
        obtain ⟨hq, h9⟩ := zcg_s r67
        refine zc_n hS (va_runI (As := []) (rest := [.ref (b + M.1), .ref (b + h0)]) ⟨hx, hb, hml, hown, hts⟩ (k_X6_init l D cy b M63 M.1  M67 e67) (cwI 0 hts gX8_init_X6_init rfl rfl rfl (hts (.initialized RX6) (List.mem_of_getElem? (i := 18) rfl)) (hts (.methodLink RX8 34 yX6_init) (List.mem_of_getElem? (i := 74) rfl)) (hts (.instanceMethod yX6_init) (List.mem_of_getElem? (i := 75) rfl)) rfl (by decide +kernel) ⟨Nat.le_of_ble_eq_true rfl, Nat.le_of_ble_eq_true rfl⟩) (zp_N _ hK hP hz) rfl rfl hl.1 rfl (lv_room (Nat.le_of_ble_eq_true rfl)) dX8_init_67 ⟨by show _ ≤ 278; omega, by show _ ≤ 834000; omega⟩) (fun H locs hP hz hS => ?_)
        have hn : M0.1 ≤ M67.1 := by omega
        have hu : M67.1 ≤ M0.1 + 278 := by omega
        refine W.widen (k := M67.1 - M0.1) (n := 3000 * (M67.1 - M0.1)) (by omega) (by omega) ?_
        obtain ⟨M70, e70, hf⟩ := zb hf
        refine zr_pr (ci := 8) (k := 3) (C := RX8) (T := TX8) (N := 7) hx hb hts hi_X8_init_8 tyX8 tyX8_ok nmX8 hown hK hP hS e70 rfl rfl (by decide) (by decide) (hts (.fieldLink RX8 35 "BoundaryAnalyzer" "builder" "LBoundaryAnalyzer$RuleBuilder;") (List.mem_of_getElem? (i := 19) rfl)) (Or.inr ⟨rfl, hin, rfl⟩) (tyX8_ok 3 (by decide)) rfl rfl dX8_init_70 (fun H locs hP hz1 hS => ?_)
        rw [hz] at hz1; have hz := hz1
        have hq := zpR_n e70
        rw [← hq] at hn hu hz
        refine W.widen (k := M70.1 - M0.1) (n := 3000 * (M70.1 - M0.1)) (by omega) (by omega) ?_
        refine lv_aload_n hx hb dX8_init_73 rfl (lv_at hl 0 rfl) ?_
        refine lv_bipush (v := (10 : Int32)) hx hb dX8_init_74 (by decide) ?_
        obtain ⟨M76, e76, hf⟩ := zb hf
        refine zr_nq (t0 := 6) hx hb hown (hts (.classLink RX8 16 RX4) (List.mem_of_getElem? (i := 8) rfl)) (List.mem_of_getElem? (i := 3) rfl) hK hP hz hS e76 rfl (by decide) (zsL_max _) (fun h9 => by show _ ≤ 278; omega) (fun h9 => by show _ ≤ 834000; omega) dX8_init_76 (fun H hP hz hS hq h9 => ?_)
        have hn : M0.1 ≤ M76.1 := by omega
        have hu : M76.1 ≤ M0.1 + 278 := by omega
        refine W.widen (k := M76.1 - M0.1) (n := 3000 * (M76.1 - M0.1)) (by omega) (by omega) ?_
        obtain ⟨M79, e79, hf⟩ := zb hf
        refine zr_pr (ci := 8) (k := 4) (C := RX8) (T := TX8) (N := 7) hx hb hts hi_X8_init_8 tyX8 tyX8_ok nmX8 hown hK hP hS e79 rfl rfl (by decide) (by decide) (hts (.fieldLink RX8 39 "BoundaryAnalyzer" "exceptions" "[LBoundaryAnalyzer$Row;") (List.mem_of_getElem? (i := 20) rfl)) (Or.inr ⟨rfl, hin, rfl⟩) (tyX8_ok 4 (by decide)) rfl rfl dX8_init_79 (fun H locs hP hz1 hS => ?_)
        rw [hz] at hz1; have hz := hz1
        have hq := zpR_n e79
        rw [← hq] at hn hu hz
        refine W.widen (k := M79.1 - M0.1) (n := 3000 * (M79.1 - M0.1)) (by omega) (by omega) ?_
        refine lv_iconst (v := (0 : Int32)) hx hb dX8_init_82 (by decide) ?_
        refine lv_istore_n (lv' := [(1, .int (0 : Int32)), (0, .ref (b + h0))]) hx hb dX8_init_83 rfl hl (by decide) rfl (fun ls hl => ?_)
        exact L84 _ _ _ _ _ _ _ hf hP hz hS hn hu (lv_sub hl [1, 0] rfl)
      · have hf := (if_neg c40).symm.trans hf
        refine lv_aload_n hx hb dX8_init_43 rfl (lv_at hl 0 rfl) ?_
        obtain ⟨v44, e44, hf⟩ := zb hf
        refine zr_gr (ci := 8) (k := 2) (C := RX8) (T := TX8) (N := 7) hx hb hts hi_X8_init_8 hown hK hP e44 rfl rfl (by decide) (by decide) (hts (.fieldLink RX8 27 "BoundaryAnalyzer" "kinds" "[LBoundaryAnalyzer$Kind;") (List.mem_of_getElem? (i := 13) rfl)) dX8_init_44 ?_
        refine lv_iload_n hx hb dX8_init_47 rfl (lv_at hl 1 rfl) ?_
        obtain ⟨M48, e48, hf⟩ := zb hf
        refine zr_no (ci := 2) (C := RX2) (T := TX2) (N := 5) hx hb hts hi_X8_init_2 tyX2 tyX2_ok hown (hts (.classLink RX8 25 RX2) (List.mem_of_getElem? (i := 12) rfl)) (hts (.instantiable RX2 5) (List.mem_of_getElem? (i := 14) rfl)) (hts (.initialized RX2) (List.mem_of_getElem? (i := 15) rfl)) hK hP hz hS e48 rfl (by decide) (fun j hj => by rcases (show j = 0 ∨ j = 1 ∨ j = 2 ∨ j = 3 ∨ j = 4 by omega) with rfl | rfl | rfl | rfl | rfl <;> rfl) (fun h9 => by show _ ≤ 278; omega) (fun h9 => by show _ ≤ 834000; omega) dX8_init_48 (fun H hP hz hS hq h9 => ?_)
        have hn : M0.1 ≤ M48.1 := by omega
        have hu : M48.1 ≤ M0.1 + 278 := by omega
        refine W.widen (k := M48.1 - M0.1) (n := 3000 * (M48.1 - M0.1)) (by omega) (by omega) ?_
        refine lv_dup hx hb dX8_init_51 rfl ?_
        obtain ⟨M52, e52, hf⟩ := zb hf
        obtain ⟨u52, r52, hf⟩ := zb hf
        obtain ⟨hq, h9⟩ := zcg_s r52
        refine zc_n hS (va_runI (As := []) (rest := [.ref (b + M.1), .int x1, .ref (b + v44)]) ⟨hx, hb, hml, hown, hts⟩ (k_X2_init l D cy b M48 M.1  M52 e52) (cwI 0 hts gX8_init_X2_init rfl rfl rfl (hts (.initialized RX2) (List.mem_of_getElem? (i := 15) rfl)) (hts (.methodLink RX8 31 yX2_init) (List.mem_of_getElem? (i := 47) rfl)) (hts (.instanceMethod yX2_init) (List.mem_of_getElem? (i := 48) rfl)) rfl (by decide +kernel) ⟨Nat.le_of_ble_eq_true rfl, Nat.le_of_ble_eq_true rfl⟩) (zp_N _ hK hP hz) rfl rfl hl.1 rfl (lv_room (Nat.le_of_ble_eq_true rfl)) dX8_init_52 ⟨by show _ ≤ 278; omega, by show _ ≤ 834000; omega⟩) (fun H locs hP hz hS => ?_)
        have hn : M0.1 ≤ M52.1 := by omega
        have hu : M52.1 ≤ M0.1 + 278 := by omega
        refine W.widen (k := M52.1 - M0.1) (n := 3000 * (M52.1 - M0.1)) (by omega) (by omega) ?_
        obtain ⟨M55, e55, hf⟩ := zb hf
        refine zr_sa (t0 := 4) (r := (RX2, TX2, 5)) hx hb hK hP hS e55 (by decide) (by decide) rfl rfl dX8_init_55 (fun H locs hP hz1 hS => ?_)
        rw [hz] at hz1; have hz := hz1
        have hq := zsR_n e55
        rw [← hq] at hn hu hz
        refine W.widen (k := M55.1 - M0.1) (n := 3000 * (M55.1 - M0.1)) (by omega) (by omega) ?_
        obtain ⟨x1_56, q56, hf⟩ := zlt_s hf
        refine lv_iinc (v := x1_56) (lv' := [(1, .int x1_56), (0, .ref (b + h0))]) hx hb dX8_init_56 hl (k := 1) rfl (by rw [← q56]; rfl) (by decide) rfl (fun ls hl => ?_)
        refine lv_goto (tgt := 38) hx hb dX8_init_59 (by decide) ?_
        exact ih38 _ _ _ _ _ _ hf hP hz hS hn hu (lv_sub hl [1, 0] rfl)
  unfold fX8_init at hf
  refine lv_aload_n hx hb dX8_init_0 rfl (lv_at hl 0 rfl) ?_
  refine W.objInit hx hb hown (hts (.methodLink RX8 1 objectInit) (List.mem_of_getElem? (i := 1) rfl)) (hts (.instanceMethod objectInit) (List.mem_of_getElem? (i := 2) rfl)) (hts _ (List.mem_of_getElem? (i := 3) rfl)) rfl (by rw [hml]; exact hl.1) rfl dX8_init_1 (Nat.le_of_ble_eq_true rfl) (Nat.le_of_ble_eq_true rfl) ?_
  refine W.eq (g2 := F0 m 4 ls []) rfl ?_
  refine lv_aload_n hx hb dX8_init_4 rfl (lv_at hl 0 rfl) ?_
  obtain ⟨M5, e5, hf⟩ := zb hf
  refine zr_no (ci := 7) (C := RX7) (T := TX7) (N := 2) hx hb hts hi_X8_init_7 tyX7 tyX7_ok hown (hts (.classLink RX8 7 RX7) (List.mem_of_getElem? (i := 4) rfl)) (hts (.instantiable RX7 2) (List.mem_of_getElem? (i := 5) rfl)) (hts (.initialized RX7) (List.mem_of_getElem? (i := 6) rfl)) hK hP hz hS e5 rfl (by decide) (fun j hj => by rcases (show j = 0 ∨ j = 1 by omega) with rfl | rfl <;> rfl) (fun h9 => by show _ ≤ 278; omega) (fun h9 => by show _ ≤ 834000; omega) dX8_init_5 (fun H hP hz hS hq h9 => ?_)
  have hn : M0.1 ≤ M5.1 := by omega
  have hu : M5.1 ≤ M0.1 + 278 := by omega
  refine W.widen (k := M5.1 - M0.1) (n := 3000 * (M5.1 - M0.1)) (by omega) (by omega) ?_
  refine lv_dup hx hb dX8_init_8 rfl ?_
  obtain ⟨M9, e9, hf⟩ := zb hf
  obtain ⟨u9, r9, hf⟩ := zb hf
  obtain ⟨hq, h9⟩ := zcg_s r9
  refine zc_n hS (va_runI (As := []) (rest := [.ref (b + M0.1), .ref (b + h0)]) ⟨hx, hb, hml, hown, hts⟩ (k_X7_init l D cy b M5 M0.1  M9 e9) (cwI 0 hts gX8_init_X7_init rfl rfl rfl (hts (.initialized RX7) (List.mem_of_getElem? (i := 6) rfl)) (hts (.methodLink RX8 9 yX7_init) (List.mem_of_getElem? (i := 25) rfl)) (hts (.instanceMethod yX7_init) (List.mem_of_getElem? (i := 26) rfl)) rfl (by decide +kernel) ⟨Nat.le_of_ble_eq_true rfl, Nat.le_of_ble_eq_true rfl⟩) (zp_N _ hK hP hz) rfl rfl hl.1 rfl (lv_room (Nat.le_of_ble_eq_true rfl)) dX8_init_9 ⟨by show _ ≤ 278; omega, by show _ ≤ 834000; omega⟩) (fun H locs hP hz hS => ?_)
  have hn : M0.1 ≤ M9.1 := by omega
  have hu : M9.1 ≤ M0.1 + 278 := by omega
  refine W.widen (k := M9.1 - M0.1) (n := 3000 * (M9.1 - M0.1)) (by omega) (by omega) ?_
  obtain ⟨M12, e12, hf⟩ := zb hf
  refine zr_pr (ci := 8) (k := 0) (C := RX8) (T := TX8) (N := 7) hx hb hts hi_X8_init_8 tyX8 tyX8_ok nmX8 hown hK hP hS e12 rfl rfl (by decide) (by decide) (hts (.fieldLink RX8 10 "BoundaryAnalyzer" "text" "LBoundaryAnalyzer$Text;") (List.mem_of_getElem? (i := 7) rfl)) (Or.inr ⟨rfl, hin, rfl⟩) (tyX8_ok 0 (by decide)) rfl rfl dX8_init_12 (fun H locs hP hz1 hS => ?_)
  rw [hz] at hz1; have hz := hz1
  have hq := zpR_n e12
  rw [← hq] at hn hu hz
  refine W.widen (k := M12.1 - M0.1) (n := 3000 * (M12.1 - M0.1)) (by omega) (by omega) ?_
  refine lv_aload_n hx hb dX8_init_15 rfl (lv_at hl 0 rfl) ?_
  obtain ⟨M16, e16, hf⟩ := zb hf
  refine zr_no (ci := 4) (C := RX4) (T := TX4) (N := 2) hx hb hts hi_X8_init_4 tyX4 tyX4_ok hown (hts (.classLink RX8 16 RX4) (List.mem_of_getElem? (i := 8) rfl)) (hts (.instantiable RX4 2) (List.mem_of_getElem? (i := 9) rfl)) (hts (.initialized RX4) (List.mem_of_getElem? (i := 10) rfl)) hK hP hz hS e16 rfl (by decide) (fun j hj => by rcases (show j = 0 ∨ j = 1 by omega) with rfl | rfl <;> rfl) (fun h9 => by show _ ≤ 278; omega) (fun h9 => by show _ ≤ 834000; omega) dX8_init_16 (fun H hP hz hS hq h9 => ?_)
  have hn : M0.1 ≤ M16.1 := by omega
  have hu : M16.1 ≤ M0.1 + 278 := by omega
  refine W.widen (k := M16.1 - M0.1) (n := 3000 * (M16.1 - M0.1)) (by omega) (by omega) ?_
  refine lv_dup hx hb dX8_init_19 rfl ?_
  refine lv_bipush (v := (24 : Int32)) hx hb dX8_init_20 (by decide) ?_
  obtain ⟨M22, e22, hf⟩ := zb hf
  obtain ⟨u22, r22, hf⟩ := zb hf
  obtain ⟨hq, h9⟩ := zcg_s r22
  refine zc_n hS (va_runI (As := [.int (24 : Int32)]) (rest := [.ref (b + M12.1), .ref (b + h0)]) ⟨hx, hb, hml, hown, hts⟩ (k_X4_init l D cy b M16 M12.1 (24 : Int32) M22 e22) (cwI 1 hts gX8_init_X4_init rfl rfl rfl (hts (.initialized RX4) (List.mem_of_getElem? (i := 10) rfl)) (hts (.methodLink RX8 18 yX4_init) (List.mem_of_getElem? (i := 46) rfl)) (hts (.instanceMethod yX4_init) (List.mem_of_getElem? (i := 34) rfl)) rfl (by decide +kernel) ⟨Nat.le_of_ble_eq_true rfl, Nat.le_of_ble_eq_true rfl⟩) (zp_N _ hK hP hz) rfl rfl hl.1 rfl (lv_room (Nat.le_of_ble_eq_true rfl)) dX8_init_22 ⟨by show _ ≤ 278; omega, by show _ ≤ 834000; omega⟩) (fun H locs hP hz hS => ?_)
  have hn : M0.1 ≤ M22.1 := by omega
  have hu : M22.1 ≤ M0.1 + 278 := by omega
  refine W.widen (k := M22.1 - M0.1) (n := 3000 * (M22.1 - M0.1)) (by omega) (by omega) ?_
  obtain ⟨M25, e25, hf⟩ := zb hf
  refine zr_pr (ci := 8) (k := 1) (C := RX8) (T := TX8) (N := 7) hx hb hts hi_X8_init_8 tyX8 tyX8_ok nmX8 hown hK hP hS e25 rfl rfl (by decide) (by decide) (hts (.fieldLink RX8 21 "BoundaryAnalyzer" "pattern" "LBoundaryAnalyzer$Row;") (List.mem_of_getElem? (i := 11) rfl)) (Or.inr ⟨rfl, hin, rfl⟩) (tyX8_ok 1 (by decide)) rfl rfl dX8_init_25 (fun H locs hP hz1 hS => ?_)
  rw [hz] at hz1; have hz := hz1
  have hq := zpR_n e25
  rw [← hq] at hn hu hz
  refine W.widen (k := M25.1 - M0.1) (n := 3000 * (M25.1 - M0.1)) (by omega) (by omega) ?_
  refine lv_aload_n hx hb dX8_init_28 rfl (lv_at hl 0 rfl) ?_
  refine lv_iconst (v := (3 : Int32)) hx hb dX8_init_29 (by decide) ?_
  obtain ⟨M30, e30, hf⟩ := zb hf
  refine zr_nq (t0 := 4) hx hb hown (hts (.classLink RX8 25 RX2) (List.mem_of_getElem? (i := 12) rfl)) (List.mem_of_getElem? (i := 1) rfl) hK hP hz hS e30 rfl (by decide) (zsL_max _) (fun h9 => by show _ ≤ 278; omega) (fun h9 => by show _ ≤ 834000; omega) dX8_init_30 (fun H hP hz hS hq h9 => ?_)
  have hn : M0.1 ≤ M30.1 := by omega
  have hu : M30.1 ≤ M0.1 + 278 := by omega
  refine W.widen (k := M30.1 - M0.1) (n := 3000 * (M30.1 - M0.1)) (by omega) (by omega) ?_
  obtain ⟨M33, e33, hf⟩ := zb hf
  refine zr_pr (ci := 8) (k := 2) (C := RX8) (T := TX8) (N := 7) hx hb hts hi_X8_init_8 tyX8 tyX8_ok nmX8 hown hK hP hS e33 rfl rfl (by decide) (by decide) (hts (.fieldLink RX8 27 "BoundaryAnalyzer" "kinds" "[LBoundaryAnalyzer$Kind;") (List.mem_of_getElem? (i := 13) rfl)) (Or.inr ⟨rfl, hin, rfl⟩) (tyX8_ok 2 (by decide)) rfl rfl dX8_init_33 (fun H locs hP hz1 hS => ?_)
  rw [hz] at hz1; have hz := hz1
  have hq := zpR_n e33
  rw [← hq] at hn hu hz
  refine W.widen (k := M33.1 - M0.1) (n := 3000 * (M33.1 - M0.1)) (by omega) (by omega) ?_
  refine lv_iconst (v := (0 : Int32)) hx hb dX8_init_36 (by decide) ?_
  refine lv_istore_n (lv' := [(1, .int (0 : Int32)), (0, .ref (b + h0))]) hx hb dX8_init_37 rfl hl (by decide) rfl (fun ls hl => ?_)
  exact L38 _ _ _ _ _ _ _ hf hP hz hS hn hu (lv_sub hl [1, 0] rfl)
set_option maxHeartbeats 4000000 in
set_option maxRecDepth 100000 in
theorem k_X8_isCharacter (l : Launch) (x0 : Int32) (rr : Int32) (hf : fX8_isCharacter x0 = some rr) : Met l yX8_isCharacter wsX8_isCharacter ({ frames := 0, cells := 0, slots := 0, locals := 0 } : Room) (zPp [.int x0]) (zQp rr) 0 0 zNo := by
  refine Met.ofW (cc := cX8_isCharacter) (maxL := 1) (ret := (some .boolean)) (by decide) rfl ?_
  intro p e s m args below meth c s₁ B hml hv
  obtain ⟨rfl, -⟩ := hv
  have hx := B.exec
  have hb := B.bytes
  have hr := B.returns
  have hts := atoms_spec (ws := wsX8_isCharacter) B.pre
  have hown : s.vm.findClass RX8 = some m.cls := findClass_of_methodNamed B.named
  have hlocks := B.notSynchronized
  have hl := lv_entry ([.int x0]) (n := 1) (Nat.le_of_ble_eq_true rfl)
  rw [lg_entry_eq]
  generalize (lg_sl ([.int x0]) ++ List.replicate (1 - (lg_sl ([.int x0])).length) Slot.unset).toArray = ls at hl ⊢
  have hl : lv_has ls 1 [(0, .int x0)] := hl
  unfold fX8_isCharacter at hf
  refine lv_iload_n hx hb dX8_isCharacter_0 rfl (lv_at hl 0 rfl) ?_
  refine lv_bipush (v := (32 : Int32)) hx hb dX8_isCharacter_1 (by decide) ?_
  refine lv_icmp_lt (tgt := 16) hx hb dX8_isCharacter_3 (by decide) (fun c3 => ?_) (fun c3 => ?_)
  · have hf := (if_pos c3).symm.trans hf
    refine lv_iconst (v := (0 : Int32)) hx hb dX8_isCharacter_16 (by decide) ?_
    exact zret_pz hx hb hr (Or.inl rfl) hlocks hf dX8_isCharacter_17
  · have hf := (if_neg c3).symm.trans hf
    refine lv_iload_n hx hb dX8_isCharacter_6 rfl (lv_at hl 0 rfl) ?_
    refine lv_bipush (v := (126 : Int32)) hx hb dX8_isCharacter_7 (by decide) ?_
    refine lv_icmp_gt (tgt := 16) hx hb dX8_isCharacter_9 (by decide) (fun c9 => ?_) (fun c9 => ?_)
    · have hf := (if_pos c9).symm.trans hf
      refine lv_iconst (v := (0 : Int32)) hx hb dX8_isCharacter_16 (by decide) ?_
      exact zret_pz hx hb hr (Or.inl rfl) hlocks hf dX8_isCharacter_17
    · have hf := (if_neg c9).symm.trans hf
      refine lv_iconst (v := (1 : Int32)) hx hb dX8_isCharacter_12 (by decide) ?_
      refine lv_goto (tgt := 17) hx hb dX8_isCharacter_13 (by decide) ?_
      exact zret_pz hx hb hr (Or.inl rfl) hlocks hf dX8_isCharacter_17
