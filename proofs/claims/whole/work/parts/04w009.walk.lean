theorem hi_X5_walk_3 : ∀ w ∈ wsX30, w ∈ wsX5_walk := fun _ h => List.mem_cons_of_mem _ (List.mem_append_left _ (List.mem_append_left _ (List.mem_append_right _ h)))
theorem hi_X5_walk_4 : ∀ w ∈ wsX40, w ∈ wsX5_walk := fun _ h => List.mem_cons_of_mem _ (List.mem_append_right _ h)
theorem hi_X5_walk_5 : ∀ w ∈ wsX50, w ∈ wsX5_walk := fun _ h => List.mem_cons_of_mem _ (List.mem_append_left _ (List.mem_append_left _ (List.mem_append_left _ (List.mem_append_right _ h))))
theorem hi_X5_walk_7 : ∀ w ∈ wsX70, w ∈ wsX5_walk := fun _ h => List.mem_cons_of_mem _ (List.mem_append_left _ (List.mem_append_right _ h))
set_option maxHeartbeats 4000000 in
set_option maxRecDepth 100000 in
theorem k_X5_walk (l : Launch) (D : va_G) (cy : Nat → ClassId) (b : Nat) (M0 : Mem) (p0 : Nat) (p1 : Nat) (p2 : Int32) (rr : Mem) (hf : fX5_walk M0 p0 p1 p2 = some rr) : Met l yX5_walk wsX5_walk ({ frames := 2, cells := 0, slots := 0, locals := 64 } : Room) (zPc D cy b M0 [.ref (b + p0), .ref (b + p1), .int p2]) (zQv D cy b rr) 0 0 (zA b) := by
  refine Met.ofW (cc := cX5_walk) (maxL := 9) (ret := none) (by decide) rfl ?_
  intro p e s m args below meth c s₁ B hml hv
  obtain ⟨rfl, hP, hK⟩ := hv
  have hx := B.exec
  have hb := B.bytes
  have hr := B.returns
  have hts := atoms_spec (ws := wsX5_walk) B.pre
  have hown : s.vm.findClass RX5 = some m.cls := findClass_of_methodNamed B.named
  have hlocks := B.notSynchronized
  have hS : va_S (zA b) s.heap s.heap [] := va_S.rf
  have hl := lv_entry ([.ref (b + p0), .ref (b + p1), .int p2]) (n := 9) (Nat.le_of_ble_eq_true rfl)
  rw [lg_entry_eq]
  generalize (lg_sl ([.ref (b + p0), .ref (b + p1), .int p2]) ++ List.replicate (9 - (lg_sl ([.ref (b + p0), .ref (b + p1), .int p2])).length) Slot.unset).toArray = ls at hl ⊢
  have hl : lv_has ls 9 [(0, .ref (b + p0)), (1, .ref (b + p1)), (2, .int p2)] := hl
  have J155 : ∀ (M : Mem) (H : Heap) (locs : List Loc) (ls : Array Slot) (g0 : Nat) (y1 : Int32), fX5_walk_155  M g0 y1 = some rr → zH D cy b M H → va_S (zA b) s.heap H locs → lv_has ls 9 [] → W p l e (headSpec wsX5_walk ({ frames := 2, cells := 0, slots := 0, locals := 64 } : Room)).room s m ([.ref (b + p0), .ref (b + p1), .int p2] : List Value).toArray below meth c H locs 0 0 (MQ below (zQv D cy b rr) ([.ref (b + p0), .ref (b + p1), .int p2] : List Value).toArray s 0 0 (zA b)) (F0 m 155 ls [.int y1, .ref (b + g0)]) := by
    intro M H locs ls g0 y1 hf hP hS hl
    unfold fX5_walk_155 at hf
    obtain ⟨M155, e155, hf⟩ := zb hf
    refine zr_pi (ci := 5) (k := 8) (C := RX5) (T := TX5) (N := 9) hx hb hts hi_X5_walk_5 tyX5 tyX5_ok nmX5 hown hK hP hS e155 rfl rfl (by decide) (by decide) (hts (.fieldLink RX5 89 "BoundaryAnalyzer$Rule" "looked" "I") (List.mem_of_getElem? (i := 9) rfl)) rfl (tyX5_ok 8 (by decide)) dX5_walk_155 (fun H locs hP _ hS => ?_)
    exact zret_v hx hb hr hlocks hf hP hS dX5_walk_158
  have J136 : ∀ (M : Mem) (H : Heap) (locs : List Loc) (ls : Array Slot) (h0 : Nat) (x2 : Int32) (x4 : Int32) (x5 : Int32), fX5_walk_136  M h0 x2 x4 x5 = some rr → zH D cy b M H → va_S (zA b) s.heap H locs → lv_has ls 9 [(0, .ref (b + h0)), (2, .int x2), (4, .int x4), (5, .int x5)] → W p l e (headSpec wsX5_walk ({ frames := 2, cells := 0, slots := 0, locals := 64 } : Room)).room s m ([.ref (b + p0), .ref (b + p1), .int p2] : List Value).toArray below meth c H locs 0 0 (MQ below (zQv D cy b rr) ([.ref (b + p0), .ref (b + p1), .int p2] : List Value).toArray s 0 0 (zA b)) (F0 m 136 ls []) := by
    intro M H locs ls h0 x2 x4 x5 hf hP hS hl
    unfold fX5_walk_136 at hf
    refine lv_aload_n hx hb dX5_walk_136 rfl (lv_at hl 0 rfl) ?_
    refine lv_iload hx hb dX5_walk_137 (lv_at hl 2 rfl) ?_
    refine lv_if_eq (tgt := 151) hx hb dX5_walk_139 (by decide) (fun c139 => ?_) (fun c139 => ?_)
    · have hf := (if_pos c139).symm.trans hf
      refine lv_iload hx hb dX5_walk_151 (lv_at hl 3 rfl) ?_
      refine lv_iload_n hx hb dX5_walk_153 rfl (lv_at hl 1 rfl) ?_
      refine lv_isub hx hb dX5_walk_154 ?_
      exact J155 _ _ _ _ _ _ hf hP hS (lv_sub hl [] rfl)
    · have hf := (if_neg c139).symm.trans hf
      refine lv_iload hx hb dX5_walk_142 (lv_at hl 3 rfl) ?_
      refine lv_iload_n hx hb dX5_walk_144 rfl (lv_at hl 1 rfl) ?_
      refine lv_isub hx hb dX5_walk_145 ?_
      refine lv_iconst (v := (1 : Int32)) hx hb dX5_walk_146 (by decide) ?_
      refine lv_iadd hx hb dX5_walk_147 ?_
      refine lv_goto (tgt := 155) hx hb dX5_walk_148 (by decide) ?_
      exact J155 _ _ _ _ _ _ hf hP hS (lv_sub hl [] rfl)
  have L51 : ∀ (n51 : Nat) (M : Mem) (H : Heap) (locs : List Loc) (ls : Array Slot) (h0 : Nat) (h1 : Nat) (x2 : Int32) (x3 : Int32) (x4 : Int32) (x5 : Int32) (x6 : Int32), fX5_walk_51L  n51 M h0 h1 x2 x3 x4 x5 x6 = some rr → zH D cy b M H → va_S (zA b) s.heap H locs → lv_has ls 9 [(0, .ref (b + h0)), (1, .ref (b + h1)), (2, .int x2), (3, .int x3), (4, .int x4), (5, .int x5), (6, .int x6)] → W p l e (headSpec wsX5_walk ({ frames := 2, cells := 0, slots := 0, locals := 64 } : Room)).room s m ([.ref (b + p0), .ref (b + p1), .int p2] : List Value).toArray below meth c H locs 0 0 (MQ below (zQv D cy b rr) ([.ref (b + p0), .ref (b + p1), .int p2] : List Value).toArray s 0 0 (zA b)) (F0 m 51 ls []) := by
    intro n51
    induction n51 with
    | zero =>
      intro M H locs ls h0 h1 x2 x3 x4 x5 x6 hf
      have hf : (none : Option Mem) = some rr := hf
      cases hf
    | succ n51 ih51 =>
      have J133 : ∀ (M : Mem) (H : Heap) (locs : List Loc) (ls : Array Slot) (h0 : Nat) (h1 : Nat) (x2 : Int32) (x3 : Int32) (x4 : Int32) (x5 : Int32) (x6 : Int32), fX5_walk_133 (fX5_walk_51L  n51) M h0 h1 x2 x3 x4 x5 x6 = some rr → zH D cy b M H → va_S (zA b) s.heap H locs → lv_has ls 9 [(0, .ref (b + h0)), (1, .ref (b + h1)), (2, .int x2), (3, .int x3), (4, .int x4), (5, .int x5), (6, .int x6)] → W p l e (headSpec wsX5_walk ({ frames := 2, cells := 0, slots := 0, locals := 64 } : Room)).room s m ([.ref (b + p0), .ref (b + p1), .int p2] : List Value).toArray below meth c H locs 0 0 (MQ below (zQv D cy b rr) ([.ref (b + p0), .ref (b + p1), .int p2] : List Value).toArray s 0 0 (zA b)) (F0 m 133 ls []) := by
        intro M H locs ls h0 h1 x2 x3 x4 x5 x6 hf hP hS hl
        unfold fX5_walk_133 at hf
        refine lv_goto (tgt := 51) hx hb dX5_walk_133 (by decide) ?_
        exact ih51 _ _ _ _ _ _ _ _ _ _ _ hf hP hS (lv_sub hl [0, 1, 2, 3, 4, 5, 6] rfl)
      have J110 : ∀ (M : Mem) (H : Heap) (locs : List Loc) (ls : Array Slot) (h0 : Nat) (h1 : Nat) (x2 : Int32) (x3 : Int32) (x5 : Int32) (x6 : Int32) (x8 : Int32) (y0 : Int32), fX5_walk_110 (fX5_walk_51L  n51) M h0 h1 x2 x3 x5 x6 x8 y0 = some rr → zH D cy b M H → va_S (zA b) s.heap H locs → lv_has ls 9 [(0, .ref (b + h0)), (1, .ref (b + h1)), (2, .int x2), (3, .int x3), (5, .int x5), (6, .int x6), (8, .int x8)] → W p l e (headSpec wsX5_walk ({ frames := 2, cells := 0, slots := 0, locals := 64 } : Room)).room s m ([.ref (b + p0), .ref (b + p1), .int p2] : List Value).toArray below meth c H locs 0 0 (MQ below (zQv D cy b rr) ([.ref (b + p0), .ref (b + p1), .int p2] : List Value).toArray s 0 0 (zA b)) (F0 m 110 ls [.int y0]) := by
        intro M H locs ls h0 h1 x2 x3 x5 x6 x8 y0 hf hP hS hl
        unfold fX5_walk_110 at hf
        refine lv_istore (lv' := [(4, .int y0), (0, .ref (b + h0)), (1, .ref (b + h1)), (2, .int x2), (3, .int x3), (5, .int x5), (6, .int x6), (8, .int x8)]) hx hb dX5_walk_110 hl (by decide) rfl (fun ls hl => ?_)
        refine lv_iload hx hb dX5_walk_112 (lv_at hl 7 rfl) ?_
        refine lv_aload_n hx hb dX5_walk_114 rfl (lv_at hl 1 rfl) ?_
        obtain ⟨v115, e115, hf⟩ := zb hf
        refine zr_gr (ci := 5) (k := 1) (C := RX5) (T := TX5) (N := 9) hx hb hts hi_X5_walk_5 hown hK hP e115 rfl rfl (by decide) (by decide) (hts (.fieldLink RX5 23 "BoundaryAnalyzer$Rule" "body" "LBoundaryAnalyzer$Part;") (List.mem_of_getElem? (i := 3) rfl)) dX5_walk_115 ?_
        obtain ⟨v118, e118, hf⟩ := zb hf
        refine zr_gi (ci := 3) (k := 1) (C := RX3) (T := TX3) (N := 3) hx hb hts hi_X5_walk_3 hown hK hP e118 rfl rfl (by decide) (by decide) (hts (.fieldLink RX5 86 "BoundaryAnalyzer$Part" "last" "I") (List.mem_of_getElem? (i := 8) rfl)) dX5_walk_118 ?_
        refine lv_iand hx hb dX5_walk_121 ?_
        refine lv_if_eq (tgt := 133) hx hb dX5_walk_122 (by decide) (fun c122 => ?_) (fun c122 => ?_)
        · have hf := (if_pos c122).symm.trans hf
          exact J133 _ _ _ _ _ _ _ _ _ _ _ hf hP hS (lv_sub hl [1, 2, 3, 4, 0, 5, 6] rfl)
        · have hf := (if_neg c122).symm.trans hf
          refine lv_aload_n hx hb dX5_walk_125 rfl (lv_at hl 1 rfl) ?_
          refine lv_iload hx hb dX5_walk_126 (lv_at hl 5 rfl) ?_
          refine lv_iload_n hx hb dX5_walk_128 rfl (lv_at hl 3 rfl) ?_
          refine lv_isub hx hb dX5_walk_129 ?_
          obtain ⟨u130, t130, hf⟩ := zb hf
          obtain ⟨M130, e130, hf⟩ := zb hf
          refine zc_v hS (va_runV (As := [.int (x5 - x2)]) (rest := []) ⟨hx, hb, hml, hown, hts⟩ (k_X5_beginAhead l D cy b M h0 (x5 - x2) M130 e130) (cwV 1 hts gX5_walk_X5_beginAhead rfl rfl rfl (by decide +kernel) ⟨Nat.le_of_ble_eq_true rfl, Nat.le_of_ble_eq_true rfl⟩) (zp_V _ hK hP t130 (T := TX5) (N := 9) rfl (by decide)) rfl rfl hl.1 rfl (lv_room (Nat.le_of_ble_eq_true rfl)) dX5_walk_130 ⟨Nat.zero_le _, Nat.zero_le _⟩) (fun H locs hP hS => ?_)
          exact J133 _ _ _ _ _ _ _ _ _ _ _ hf hP hS (lv_sub hl [1, 2, 3, 4, 0, 5, 6] rfl)
      have J105 : ∀ (M : Mem) (H : Heap) (locs : List Loc) (ls : Array Slot) (h0 : Nat) (h1 : Nat) (x2 : Int32) (x3 : Int32) (x5 : Int32) (x6 : Int32) (x8 : Int32), fX5_walk_105 (fX5_walk_51L  n51) M h0 h1 x2 x3 x5 x6 x8 = some rr → zH D cy b M H → va_S (zA b) s.heap H locs → lv_has ls 9 [(0, .ref (b + h0)), (1, .ref (b + h1)), (2, .int x2), (3, .int x3), (5, .int x5), (6, .int x6), (8, .int x8)] → W p l e (headSpec wsX5_walk ({ frames := 2, cells := 0, slots := 0, locals := 64 } : Room)).room s m ([.ref (b + p0), .ref (b + p1), .int p2] : List Value).toArray below meth c H locs 0 0 (MQ below (zQv D cy b rr) ([.ref (b + p0), .ref (b + p1), .int p2] : List Value).toArray s 0 0 (zA b)) (F0 m 105 ls []) := by
        intro M H locs ls h0 h1 x2 x3 x5 x6 x8 hf hP hS hl
        unfold fX5_walk_105 at hf
        refine lv_iconst (v := (1 : Int32)) hx hb dX5_walk_105 (by decide) ?_
        refine lv_goto (tgt := 110) hx hb dX5_walk_106 (by decide) ?_
        exact J110 _ _ _ _ _ _ _ _ _ _ _ _ hf hP hS (lv_sub hl [0, 1, 2, 3, 4, 5, 6] rfl)
      intro M H locs ls h0 h1 x2 x3 x4 x5 x6 hf hP hS hl
      have hf : fX5_walk_51  (fX5_walk_51L  n51) M h0 h1 x2 x3 x4 x5 x6 = some rr := hf
      unfold fX5_walk_51 at hf
      refine lv_iload hx hb dX5_walk_51 (lv_at hl 4 rfl) ?_
      refine lv_if_eq (tgt := 136) hx hb dX5_walk_53 (by decide) (fun c53 => ?_) (fun c53 => ?_)
      · have hf := (if_pos c53).symm.trans hf
        exact J136 _ _ _ _ _ _ _ _ hf hP hS (lv_sub hl [0, 2, 4, 5] rfl)
      · have hf := (if_neg c53).symm.trans hf
        refine lv_iload hx hb dX5_walk_56 (lv_at hl 5 rfl) ?_
        refine lv_iload hx hb dX5_walk_58 (lv_at hl 6 rfl) ?_
        refine lv_icmp_ge (tgt := 136) hx hb dX5_walk_60 (by decide) (fun c60 => ?_) (fun c60 => ?_)
        · have hf := (if_pos c60).symm.trans hf
          exact J136 _ _ _ _ _ _ _ _ hf hP hS (lv_sub hl [0, 2, 4, 5] rfl)
        · have hf := (if_neg c60).symm.trans hf
          refine lv_aload_n hx hb dX5_walk_63 rfl (lv_at hl 0 rfl) ?_
          refine lv_aload_n hx hb dX5_walk_64 rfl (lv_at hl 1 rfl) ?_
          refine lv_iload hx hb dX5_walk_65 (lv_at hl 5 rfl) ?_
          obtain ⟨u67, t67, hf⟩ := zb hf
          obtain ⟨r67, e67, hf⟩ := zb hf
          refine zc_i hS (va_runV (As := [.int x5]) (rest := [.ref (b + h0)]) ⟨hx, hb, hml, hown, hts⟩ (k_X7_classAt l D cy b M h1 x5 r67 e67) (cwV 1 hts gX5_walk_X7_classAt rfl rfl rfl (by decide +kernel) ⟨Nat.le_of_ble_eq_true rfl, Nat.le_of_ble_eq_true rfl⟩) (zp_V _ hK hP t67 (T := TX7) (N := 2) rfl (by decide)) rfl rfl hl.1 rfl (lv_room (Nat.le_of_ble_eq_true rfl)) dX5_walk_67 ⟨Nat.zero_le _, Nat.zero_le _⟩) (fun H locs hP hS => ?_)
          obtain ⟨u70, t70, hf⟩ := zb hf
          obtain ⟨r70, e70, hf⟩ := zb hf
          refine zc_i hS (va_runV (As := [.int r67.1]) (rest := []) ⟨hx, hb, hml, hown, hts⟩ (k_X5_takersOf l D cy b r67.2 h0 r67.1 r70 e70) (cwV 1 hts gX5_walk_X5_takersOf rfl rfl rfl (by decide +kernel) ⟨Nat.le_of_ble_eq_true rfl, Nat.le_of_ble_eq_true rfl⟩) (zp_V _ hK hP t70 (T := TX5) (N := 9) rfl (by decide)) rfl rfl hl.1 rfl (lv_room (Nat.le_of_ble_eq_true rfl)) dX5_walk_70 ⟨Nat.zero_le _, Nat.zero_le _⟩) (fun H locs hP hS => ?_)
          refine lv_istore (lv' := [(7, .int r70.1), (0, .ref (b + h0)), (1, .ref (b + h1)), (2, .int x2), (3, .int x3), (4, .int x4), (5, .int x5), (6, .int x6)]) hx hb dX5_walk_73 hl (by decide) rfl (fun ls hl => ?_)
          obtain ⟨x5_75, q75, hf⟩ := zlt_s hf
          refine lv_iinc (v := x5_75) (lv' := [(5, .int x5_75), (7, .int r70.1), (0, .ref (b + h0)), (1, .ref (b + h1)), (2, .int x2), (3, .int x3), (4, .int x4), (6, .int x6)]) hx hb dX5_walk_75 hl (k := 6) rfl (by rw [← q75]; rfl) (by decide) rfl (fun ls hl => ?_)
          refine lv_iload_n hx hb dX5_walk_78 rfl (lv_at hl 5 rfl) ?_
          refine lv_iload hx hb dX5_walk_79 (lv_at hl 1 rfl) ?_
          refine lv_iand hx hb dX5_walk_81 ?_
          obtain ⟨x8_82, q82, hf⟩ := zlt_s hf
          refine zt q82 ?_
          refine lv_istore (lv' := [(8, .int x8_82), (5, .int x5_75), (7, .int r70.1), (0, .ref (b + h0)), (1, .ref (b + h1)), (2, .int x2), (3, .int x3), (4, .int x4), (6, .int x6)]) hx hb dX5_walk_82 hl (by decide) rfl (fun ls hl => ?_)
          refine lv_aload_n hx hb dX5_walk_84 rfl (lv_at hl 3 rfl) ?_
          refine lv_iload hx hb dX5_walk_85 (lv_at hl 0 rfl) ?_
          obtain ⟨u87, t87, hf⟩ := zb hf
          obtain ⟨r87, e87, hf⟩ := zb hf
          refine zc_i hS (va_runV (As := [.int x8_82]) (rest := []) ⟨hx, hb, hml, hown, hts⟩ (k_X5_followersOf l D cy b r70.2 h0 x8_82 r87 e87) (cwV 1 hts gX5_walk_X5_followersOf rfl rfl rfl (by decide +kernel) ⟨Nat.le_of_ble_eq_true rfl, Nat.le_of_ble_eq_true rfl⟩) (zp_V _ hK hP t87 (T := TX5) (N := 9) rfl (by decide)) rfl rfl hl.1 rfl (lv_room (Nat.le_of_ble_eq_true rfl)) dX5_walk_87 ⟨Nat.zero_le _, Nat.zero_le _⟩) (fun H locs hP hS => ?_)
          refine lv_istore_n (lv' := [(3, .int r87.1), (8, .int x8_82), (5, .int x5_75), (7, .int r70.1), (0, .ref (b + h0)), (1, .ref (b + h1)), (2, .int x2), (4, .int x4), (6, .int x6)]) hx hb dX5_walk_90 rfl hl (by decide) rfl (fun ls hl => ?_)
          refine lv_aload_n hx hb dX5_walk_91 rfl (lv_at hl 4 rfl) ?_
          refine lv_iload hx hb dX5_walk_92 (lv_at hl 3 rfl) ?_
          obtain ⟨u94, t94, hf⟩ := zb hf
          obtain ⟨r94, e94, hf⟩ := zb hf
          refine zc_i hS (va_runV (As := [.int r70.1]) (rest := []) ⟨hx, hb, hml, hown, hts⟩ (k_X5_stepAhead l D cy b r87.2 h0 r70.1 r94 e94) (cwV 1 hts gX5_walk_X5_stepAhead rfl rfl rfl (by decide +kernel) ⟨Nat.le_of_ble_eq_true rfl, Nat.le_of_ble_eq_true rfl⟩) (zp_V _ hK hP t94 (T := TX5) (N := 9) rfl (by decide)) rfl rfl hl.1 rfl (lv_room (Nat.le_of_ble_eq_true rfl)) dX5_walk_94 ⟨Nat.zero_le _, Nat.zero_le _⟩) (fun H locs hP hS => ?_)
          refine lv_if_ne (tgt := 105) hx hb dX5_walk_97 (by decide) (fun c97 => ?_) (fun c97 => ?_)
          · have hf := (if_neg c97).symm.trans hf
            exact J105 _ _ _ _ _ _ _ _ _ _ _ hf hP hS (lv_sub hl [4, 5, 6, 0, 2, 8, 1] rfl)
          · have hf := (if_pos c97).symm.trans hf
            refine lv_iload hx hb dX5_walk_100 (lv_at hl 1 rfl) ?_
            refine lv_if_eq (tgt := 109) hx hb dX5_walk_102 (by decide) (fun c102 => ?_) (fun c102 => ?_)
            · have hf := (if_pos c102).symm.trans hf
              refine lv_iconst (v := (0 : Int32)) hx hb dX5_walk_109 (by decide) ?_
              exact J110 _ _ _ _ _ _ _ _ _ _ _ _ hf hP hS (lv_sub hl [4, 5, 6, 0, 2, 8, 1] rfl)
            · have hf := (if_neg c102).symm.trans hf
              exact J105 _ _ _ _ _ _ _ _ _ _ _ hf hP hS (lv_sub hl [4, 5, 6, 0, 2, 8, 1] rfl)
  have J36 : ∀ (M : Mem) (H : Heap) (locs : List Loc) (ls : Array Slot) (h0 : Nat) (h1 : Nat) (x2 : Int32) (x3 : Int32), fX5_walk_36  M h0 h1 x2 x3 = some rr → zH D cy b M H → va_S (zA b) s.heap H locs → lv_has ls 9 [(0, .ref (b + h0)), (1, .ref (b + h1)), (2, .int x2), (3, .int x3)] → W p l e (headSpec wsX5_walk ({ frames := 2, cells := 0, slots := 0, locals := 64 } : Room)).room s m ([.ref (b + p0), .ref (b + p1), .int p2] : List Value).toArray below meth c H locs 0 0 (MQ below (zQv D cy b rr) ([.ref (b + p0), .ref (b + p1), .int p2] : List Value).toArray s 0 0 (zA b)) (F0 m 36 ls []) := by
    intro M H locs ls h0 h1 x2 x3 hf hP hS hl
    unfold fX5_walk_36 at hf
    refine lv_iconst (v := (1 : Int32)) hx hb dX5_walk_36 (by decide) ?_
    refine lv_istore (lv' := [(4, .int (1 : Int32)), (0, .ref (b + h0)), (1, .ref (b + h1)), (2, .int x2), (3, .int x3)]) hx hb dX5_walk_37 hl (by decide) rfl (fun ls hl => ?_)
    refine lv_iload_n hx hb dX5_walk_39 rfl (lv_at hl 3 rfl) ?_
    refine lv_istore (lv' := [(5, .int x2), (4, .int (1 : Int32)), (0, .ref (b + h0)), (1, .ref (b + h1)), (2, .int x2), (3, .int x3)]) hx hb dX5_walk_40 hl (by decide) rfl (fun ls hl => ?_)
    refine lv_aload_n hx hb dX5_walk_42 rfl (lv_at hl 3 rfl) ?_
    obtain ⟨v43, e43, hf⟩ := zb hf
    refine zr_gr (ci := 7) (k := 0) (C := RX7) (T := TX7) (N := 2) hx hb hts hi_X5_walk_7 hown hK hP e43 rfl rfl (by decide) (by decide) (hts (.fieldLink RX5 70 "BoundaryAnalyzer$Text" "signs" "LBoundaryAnalyzer$Row;") (List.mem_of_getElem? (i := 6) rfl)) dX5_walk_43 ?_
    obtain ⟨v46, e46, hf⟩ := zb hf
    refine zr_gi (ci := 4) (k := 1) (C := RX4) (T := TX4) (N := 2) hx hb hts hi_X5_walk_4 hown hK hP e46 rfl rfl (by decide) (by decide) (hts (.fieldLink RX5 43 "BoundaryAnalyzer$Row" "size" "I") (List.mem_of_getElem? (i := 7) rfl)) dX5_walk_46 ?_
    refine lv_istore (lv' := [(6, .int v46), (5, .int x2), (4, .int (1 : Int32)), (0, .ref (b + h0)), (1, .ref (b + h1)), (2, .int x2), (3, .int x3)]) hx hb dX5_walk_49 hl (by decide) rfl (fun ls hl => ?_)
    exact L51 _ _ _ _ _ _ _ _ _ _ _ _ hf hP hS (lv_sub hl [3, 4, 5, 6, 2, 1, 0] rfl)
  unfold fX5_walk at hf
  refine lv_aload_n hx hb dX5_walk_0 rfl (lv_at hl 0 rfl) ?_
  refine lv_iconst (v := (0 : Int32)) hx hb dX5_walk_1 (by decide) ?_
  obtain ⟨M2, e2, hf⟩ := zb hf
  refine zr_pi (ci := 5) (k := 7) (C := RX5) (T := TX5) (N := 9) hx hb hts hi_X5_walk_5 tyX5 tyX5_ok nmX5 hown hK hP hS e2 rfl rfl (by decide) (by decide) (hts (.fieldLink RX5 51 "BoundaryAnalyzer$Rule" "matched" "I") (List.mem_of_getElem? (i := 1) rfl)) rfl (tyX5_ok 7 (by decide)) dX5_walk_2 (fun H locs hP _ hS => ?_)
  refine lv_aload_n hx hb dX5_walk_5 rfl (lv_at hl 0 rfl) ?_
  obtain ⟨v6, e6, hf⟩ := zb hf
  refine zr_gr (ci := 5) (k := 5) (C := RX5) (T := TX5) (N := 9) hx hb hts hi_X5_walk_5 hown hK hP e6 rfl rfl (by decide) (by decide) (hts (.fieldLink RX5 37 "BoundaryAnalyzer$Rule" "waiting" "[I") (List.mem_of_getElem? (i := 2) rfl)) dX5_walk_6 ?_
  refine lv_iconst (v := (-1 : Int32)) hx hb dX5_walk_9 (by decide) ?_
  obtain ⟨M10, e10, hf⟩ := zb hf
  refine zc_v hS (va_runS (As := [.ref (b + v6), .int (-1 : Int32)]) (rest := []) ⟨hx, hb, hml, hown, hts⟩ (k_J7_fill_53178 l D cy b M2  v6 (-1 : Int32) M10 e10) (va_cwS 2 hts gX5_walk_J7_fill_53178 rfl rfl rfl (by decide +kernel) ⟨Nat.le_of_ble_eq_true rfl, Nat.le_of_ble_eq_true rfl⟩) (zp_S _ hK hP) rfl rfl hl.1 rfl (lv_room (Nat.le_of_ble_eq_true rfl)) dX5_walk_10 ⟨Nat.zero_le _, Nat.zero_le _⟩) (fun H locs hP hS => ?_)
  refine lv_aload_n hx hb dX5_walk_13 rfl (lv_at hl 0 rfl) ?_
  obtain ⟨v14, e14, hf⟩ := zb hf
  refine zr_gr (ci := 5) (k := 1) (C := RX5) (T := TX5) (N := 9) hx hb hts hi_X5_walk_5 hown hK hP e14 rfl rfl (by decide) (by decide) (hts (.fieldLink RX5 23 "BoundaryAnalyzer$Rule" "body" "LBoundaryAnalyzer$Part;") (List.mem_of_getElem? (i := 3) rfl)) dX5_walk_14 ?_
  obtain ⟨v17, e17, hf⟩ := zb hf
  refine zr_gi (ci := 3) (k := 0) (C := RX3) (T := TX3) (N := 3) hx hb hts hi_X5_walk_3 hown hK hP e17 rfl rfl (by decide) (by decide) (hts (.fieldLink RX5 60 "BoundaryAnalyzer$Part" "first" "I") (List.mem_of_getElem? (i := 4) rfl)) dX5_walk_17 ?_
  refine lv_istore_n (lv' := [(3, .int v17), (0, .ref (b + p0)), (1, .ref (b + p1)), (2, .int p2)]) hx hb dX5_walk_20 rfl hl (by decide) rfl (fun ls hl => ?_)
  refine lv_aload_n hx hb dX5_walk_21 rfl (lv_at hl 1 rfl) ?_
  obtain ⟨v22, e22, hf⟩ := zb hf
  refine zr_gr (ci := 5) (k := 1) (C := RX5) (T := TX5) (N := 9) hx hb hts hi_X5_walk_5 hown hK hP e22 rfl rfl (by decide) (by decide) (hts (.fieldLink RX5 23 "BoundaryAnalyzer$Rule" "body" "LBoundaryAnalyzer$Part;") (List.mem_of_getElem? (i := 3) rfl)) dX5_walk_22 ?_
  obtain ⟨v25, e25, hf⟩ := zb hf
  refine zr_gi (ci := 3) (k := 2) (C := RX3) (T := TX3) (N := 3) hx hb hts hi_X5_walk_3 hown hK hP e25 rfl rfl (by decide) (by decide) (hts (.fieldLink RX5 63 "BoundaryAnalyzer$Part" "canBeEmpty" "Z") (List.mem_of_getElem? (i := 5) rfl)) dX5_walk_25 ?_
  refine lv_if_eq (tgt := 36) hx hb dX5_walk_28 (by decide) (fun c28 => ?_) (fun c28 => ?_)
  · have hf := (if_pos c28).symm.trans hf
    exact J36 _ _ _ _ _ _ _ _ hf hP hS (lv_sub hl [1, 2, 3, 0] rfl)
  · have hf := (if_neg c28).symm.trans hf
    refine lv_aload_n hx hb dX5_walk_31 rfl (lv_at hl 1 rfl) ?_
    refine lv_iconst (v := (0 : Int32)) hx hb dX5_walk_32 (by decide) ?_
    obtain ⟨u33, t33, hf⟩ := zb hf
    obtain ⟨M33, e33, hf⟩ := zb hf
    refine zc_v hS (va_runV (As := [.int (0 : Int32)]) (rest := []) ⟨hx, hb, hml, hown, hts⟩ (k_X5_beginAhead l D cy b M10 p0 (0 : Int32) M33 e33) (cwV 1 hts gX5_walk_X5_beginAhead rfl rfl rfl (by decide +kernel) ⟨Nat.le_of_ble_eq_true rfl, Nat.le_of_ble_eq_true rfl⟩) (zp_V _ hK hP t33 (T := TX5) (N := 9) rfl (by decide)) rfl rfl hl.1 rfl (lv_room (Nat.le_of_ble_eq_true rfl)) dX5_walk_33 ⟨Nat.zero_le _, Nat.zero_le _⟩) (fun H locs hP hS => ?_)
    exact J36 _ _ _ _ _ _ _ _ hf hP hS (lv_sub hl [1, 2, 3, 0] rfl)
