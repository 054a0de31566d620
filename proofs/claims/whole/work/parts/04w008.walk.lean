theorem hi_X5_stepAhead_3 : ∀ w ∈ wsX30, w ∈ wsX5_stepAhead := fun _ h => List.mem_cons_of_mem _ (List.mem_append_right _ h)
theorem hi_X5_stepAhead_5 : ∀ w ∈ wsX50, w ∈ wsX5_stepAhead := fun _ h => List.mem_cons_of_mem _ (List.mem_append_left _ (List.mem_append_right _ h))
set_option maxHeartbeats 4000000 in
set_option maxRecDepth 100000 in
theorem k_X5_stepAhead (l : Launch) (D : va_G) (cy : Nat → ClassId) (b : Nat) (M0 : Mem) (p0 : Nat) (p1 : Int32) (rr : Int32 × Mem) (hf : fX5_stepAhead M0 p0 p1 = some rr) : Met l yX5_stepAhead wsX5_stepAhead ({ frames := 1, cells := 0, slots := 0, locals := 40 } : Room) (zPc D cy b M0 [.ref (b + p0), .int p1]) (zQi D cy b rr) 0 0 (zA b) := by
  refine Met.ofW (cc := cX5_stepAhead) (maxL := 5) (ret := (some .boolean)) (by decide) rfl ?_
  intro p e s m args below meth c s₁ B hml hv
  obtain ⟨rfl, hP, hK⟩ := hv
  have hx := B.exec
  have hb := B.bytes
  have hr := B.returns
  have hts := atoms_spec (ws := wsX5_stepAhead) B.pre
  have hown : s.vm.findClass RX5 = some m.cls := findClass_of_methodNamed B.named
  have hlocks := B.notSynchronized
  have hS : va_S (zA b) s.heap s.heap [] := va_S.rf
  have hl := lv_entry ([.ref (b + p0), .int p1]) (n := 5) (Nat.le_of_ble_eq_true rfl)
  rw [lg_entry_eq]
  generalize (lg_sl ([.ref (b + p0), .int p1]) ++ List.replicate (5 - (lg_sl ([.ref (b + p0), .int p1])).length) Slot.unset).toArray = ls at hl ⊢
  have hl : lv_has ls 5 [(0, .ref (b + p0)), (1, .int p1)] := hl
  have L24 : ∀ (n24 : Nat) (M : Mem) (H : Heap) (locs : List Loc) (ls : Array Slot) (h0 : Nat) (x1 : Int32) (x2 : Int32) (x3 : Int32), fX5_stepAhead_24L  n24 M h0 x1 x2 x3 = some rr → zH D cy b M H → va_S (zA b) s.heap H locs → lv_has ls 5 [(0, .ref (b + h0)), (1, .int x1), (2, .int x2), (3, .int x3)] → W p l e (headSpec wsX5_stepAhead ({ frames := 1, cells := 0, slots := 0, locals := 40 } : Room)).room s m ([.ref (b + p0), .int p1] : List Value).toArray below meth c H locs 0 0 (MQ below (zQi D cy b rr) ([.ref (b + p0), .int p1] : List Value).toArray s 0 0 (zA b)) (F0 m 24 ls []) := by
    intro n24
    induction n24 with
    | zero =>
      intro M H locs ls h0 x1 x2 x3 hf
      have hf : (none : Option (Int32 × Mem)) = some rr := hf
      cases hf
    | succ n24 ih24 =>
      have J95 : ∀ (M : Mem) (H : Heap) (locs : List Loc) (ls : Array Slot) (h0 : Nat) (x1 : Int32) (x2 : Int32) (x3 : Int32), fX5_stepAhead_95 (fX5_stepAhead_24L  n24) M h0 x1 x2 x3 = some rr → zH D cy b M H → va_S (zA b) s.heap H locs → lv_has ls 5 [(0, .ref (b + h0)), (1, .int x1), (2, .int x2), (3, .int x3)] → W p l e (headSpec wsX5_stepAhead ({ frames := 1, cells := 0, slots := 0, locals := 40 } : Room)).room s m ([.ref (b + p0), .int p1] : List Value).toArray below meth c H locs 0 0 (MQ below (zQi D cy b rr) ([.ref (b + p0), .int p1] : List Value).toArray s 0 0 (zA b)) (F0 m 95 ls []) := by
        intro M H locs ls h0 x1 x2 x3 hf hP hS hl
        unfold fX5_stepAhead_95 at hf
        obtain ⟨x3_95, q95, hf⟩ := zlt_s hf
        refine lv_iinc (v := x3_95) (lv' := [(3, .int x3_95), (0, .ref (b + h0)), (1, .int x1), (2, .int x2)]) hx hb dX5_stepAhead_95 hl (k := 3) rfl (by rw [← q95]; rfl) (by decide) rfl (fun ls hl => ?_)
        refine lv_goto (tgt := 24) hx hb dX5_stepAhead_98 (by decide) ?_
        exact ih24 _ _ _ _ _ _ _ _ hf hP hS (lv_sub hl [1, 2, 3, 0] rfl)
      have J80 : ∀ (M : Mem) (H : Heap) (locs : List Loc) (ls : Array Slot) (h0 : Nat) (x1 : Int32) (x2 : Int32) (x3 : Int32) (x4 : Int32), fX5_stepAhead_80 (fX5_stepAhead_24L  n24) M h0 x1 x2 x3 x4 = some rr → zH D cy b M H → va_S (zA b) s.heap H locs → lv_has ls 5 [(0, .ref (b + h0)), (1, .int x1), (2, .int x2), (3, .int x3), (4, .int x4)] → W p l e (headSpec wsX5_stepAhead ({ frames := 1, cells := 0, slots := 0, locals := 40 } : Room)).room s m ([.ref (b + p0), .int p1] : List Value).toArray below meth c H locs 0 0 (MQ below (zQi D cy b rr) ([.ref (b + p0), .int p1] : List Value).toArray s 0 0 (zA b)) (F0 m 80 ls []) := by
        intro M H locs ls h0 x1 x2 x3 x4 hf hP hS hl
        unfold fX5_stepAhead_80 at hf
        refine lv_aload_n hx hb dX5_stepAhead_80 rfl (lv_at hl 0 rfl) ?_
        obtain ⟨v81, e81, hf⟩ := zb hf
        refine zr_gr (ci := 5) (k := 6) (C := RX5) (T := TX5) (N := 9) hx hb hts hi_X5_stepAhead_5 hown hK hP e81 rfl rfl (by decide) (by decide) (hts (.fieldLink RX5 40 "BoundaryAnalyzer$Rule" "waitingThen" "[I") (List.mem_of_getElem? (i := 3) rfl)) dX5_stepAhead_81 ?_
        refine lv_aload_n hx hb dX5_stepAhead_84 rfl (lv_at hl 0 rfl) ?_
        obtain ⟨v85, e85, hf⟩ := zb hf
        refine zr_gr (ci := 5) (k := 3) (C := RX5) (T := TX5) (N := 9) hx hb hts hi_X5_stepAhead_5 hown hK hP e85 rfl rfl (by decide) (by decide) (hts (.fieldLink RX5 30 "BoundaryAnalyzer$Rule" "followers" "[I") (List.mem_of_getElem? (i := 11) rfl)) dX5_stepAhead_85 ?_
        refine lv_iload_n hx hb dX5_stepAhead_88 rfl (lv_at hl 3 rfl) ?_
        obtain ⟨v89, e89, hf⟩ := zb hf
        refine zr_ai hx hb hK hP e89 dX5_stepAhead_89 ?_
        refine lv_iload hx hb dX5_stepAhead_90 (lv_at hl 4 rfl) ?_
        obtain ⟨M92, e92, hf⟩ := zb hf
        refine zc_v hS (va_runS (As := [.ref (b + v81), .int v89, .int x4]) (rest := []) ⟨hx, hb, hml, hown, hts⟩ (k_X5_waitAt l D cy b M  v81 v89 x4 M92 e92) (va_cwS 3 hts gX5_stepAhead_X5_waitAt rfl rfl rfl (by decide +kernel) ⟨Nat.le_of_ble_eq_true rfl, Nat.le_of_ble_eq_true rfl⟩) (zp_S _ hK hP) rfl rfl hl.1 rfl (lv_room (Nat.le_of_ble_eq_true rfl)) dX5_stepAhead_92 ⟨Nat.zero_le _, Nat.zero_le _⟩) (fun H locs hP hS => ?_)
        exact J95 _ _ _ _ _ _ _ _ hf hP hS (lv_sub hl [0, 1, 2, 3] rfl)
      intro M H locs ls h0 x1 x2 x3 hf hP hS hl
      have hf : fX5_stepAhead_24  (fX5_stepAhead_24L  n24) M h0 x1 x2 x3 = some rr := hf
      unfold fX5_stepAhead_24 at hf
      refine lv_iload_n hx hb dX5_stepAhead_24 rfl (lv_at hl 3 rfl) ?_
      refine lv_bipush (v := (24 : Int32)) hx hb dX5_stepAhead_25 (by decide) ?_
      refine lv_icmp_ge (tgt := 101) hx hb dX5_stepAhead_27 (by decide) (fun c27 => ?_) (fun c27 => ?_)
      · have hf := (if_pos c27).symm.trans hf
        refine lv_aload_n hx hb dX5_stepAhead_101 rfl (lv_at hl 0 rfl) ?_
        obtain ⟨v102, e102, hf⟩ := zb hf
        refine zr_gr (ci := 5) (k := 5) (C := RX5) (T := TX5) (N := 9) hx hb hts hi_X5_stepAhead_5 hown hK hP e102 rfl rfl (by decide) (by decide) (hts (.fieldLink RX5 37 "BoundaryAnalyzer$Rule" "waiting" "[I") (List.mem_of_getElem? (i := 4) rfl)) dX5_stepAhead_102 ?_
        refine lv_astore_n (lv' := [(3, .ref (b + v102)), (0, .ref (b + h0)), (1, .int x1), (2, .int x2)]) hx hb dX5_stepAhead_105 rfl hl (by decide) rfl (fun ls hl => ?_)
        refine lv_aload_n hx hb dX5_stepAhead_106 rfl (lv_at hl 1 rfl) ?_
        refine lv_aload_n hx hb dX5_stepAhead_107 rfl (lv_at hl 1 rfl) ?_
        obtain ⟨v108, e108, hf⟩ := zb hf
        refine zr_gr (ci := 5) (k := 6) (C := RX5) (T := TX5) (N := 9) hx hb hts hi_X5_stepAhead_5 hown hK hP e108 rfl rfl (by decide) (by decide) (hts (.fieldLink RX5 40 "BoundaryAnalyzer$Rule" "waitingThen" "[I") (List.mem_of_getElem? (i := 3) rfl)) dX5_stepAhead_108 ?_
        obtain ⟨M111, e111, hf⟩ := zb hf
        refine zr_pr (ci := 5) (k := 5) (C := RX5) (T := TX5) (N := 9) hx hb hts hi_X5_stepAhead_5 tyX5 tyX5_ok nmX5 hown hK hP hS e111 rfl rfl (by decide) (by decide) (hts (.fieldLink RX5 37 "BoundaryAnalyzer$Rule" "waiting" "[I") (List.mem_of_getElem? (i := 4) rfl)) (Or.inl rfl) (tyX5_ok 5 (by decide)) rfl rfl dX5_stepAhead_111 (fun H locs hP _ hS => ?_)
        refine lv_aload_n hx hb dX5_stepAhead_114 rfl (lv_at hl 1 rfl) ?_
        refine lv_aload_n hx hb dX5_stepAhead_115 rfl (lv_at hl 0 rfl) ?_
        obtain ⟨M116, e116, hf⟩ := zb hf
        refine zr_pr (ci := 5) (k := 6) (C := RX5) (T := TX5) (N := 9) hx hb hts hi_X5_stepAhead_5 tyX5 tyX5_ok nmX5 hown hK hP hS e116 rfl rfl (by decide) (by decide) (hts (.fieldLink RX5 40 "BoundaryAnalyzer$Rule" "waitingThen" "[I") (List.mem_of_getElem? (i := 3) rfl)) (Or.inl rfl) (tyX5_ok 6 (by decide)) rfl rfl dX5_stepAhead_116 (fun H locs hP _ hS => ?_)
        refine lv_iload_n hx hb dX5_stepAhead_119 rfl (lv_at hl 3 rfl) ?_
        exact zret_z hx hb hr (Or.inl rfl) hlocks hf hP hS dX5_stepAhead_120
      · have hf := (if_neg c27).symm.trans hf
        refine lv_aload_n hx hb dX5_stepAhead_30 rfl (lv_at hl 0 rfl) ?_
        obtain ⟨v31, e31, hf⟩ := zb hf
        refine zr_gr (ci := 5) (k := 5) (C := RX5) (T := TX5) (N := 9) hx hb hts hi_X5_stepAhead_5 hown hK hP e31 rfl rfl (by decide) (by decide) (hts (.fieldLink RX5 37 "BoundaryAnalyzer$Rule" "waiting" "[I") (List.mem_of_getElem? (i := 4) rfl)) dX5_stepAhead_31 ?_
        refine lv_iload_n hx hb dX5_stepAhead_34 rfl (lv_at hl 3 rfl) ?_
        obtain ⟨v35, e35, hf⟩ := zb hf
        refine zr_ai hx hb hK hP e35 dX5_stepAhead_35 ?_
        refine lv_istore (lv' := [(4, .int v35), (0, .ref (b + h0)), (1, .int x1), (2, .int x2), (3, .int x3)]) hx hb dX5_stepAhead_36 hl (by decide) rfl (fun ls hl => ?_)
        refine lv_iload hx hb dX5_stepAhead_38 (lv_at hl 0 rfl) ?_
        refine lv_if_lt (tgt := 95) hx hb dX5_stepAhead_40 (by decide) (fun c40 => ?_) (fun c40 => ?_)
        · have hf := (if_pos c40).symm.trans hf
          exact J95 _ _ _ _ _ _ _ _ hf hP hS (lv_sub hl [1, 2, 3, 4] rfl)
        · have hf := (if_neg c40).symm.trans hf
          refine lv_iload_n hx hb dX5_stepAhead_43 rfl (lv_at hl 2 rfl) ?_
          refine lv_iload_n hx hb dX5_stepAhead_44 rfl (lv_at hl 4 rfl) ?_
          refine lv_ishr hx hb dX5_stepAhead_45 ?_
          refine lv_iconst (v := (1 : Int32)) hx hb dX5_stepAhead_46 (by decide) ?_
          refine lv_iand hx hb dX5_stepAhead_47 ?_
          refine lv_if_eq (tgt := 95) hx hb dX5_stepAhead_48 (by decide) (fun c48 => ?_) (fun c48 => ?_)
          · have hf := (if_pos c48).symm.trans hf
            exact J95 _ _ _ _ _ _ _ _ hf hP hS (lv_sub hl [1, 2, 3, 4] rfl)
          · have hf := (if_neg c48).symm.trans hf
            refine lv_iconst (v := (1 : Int32)) hx hb dX5_stepAhead_51 (by decide) ?_
            refine lv_istore_n (lv' := [(2, .int (1 : Int32)), (4, .int v35), (0, .ref (b + h0)), (1, .int x1), (3, .int x3)]) hx hb dX5_stepAhead_52 rfl hl (by decide) rfl (fun ls hl => ?_)
            refine lv_aload_n hx hb dX5_stepAhead_53 rfl (lv_at hl 2 rfl) ?_
            obtain ⟨v54, e54, hf⟩ := zb hf
            refine zr_gr (ci := 5) (k := 2) (C := RX5) (T := TX5) (N := 9) hx hb hts hi_X5_stepAhead_5 hown hK hP e54 rfl rfl (by decide) (by decide) (hts (.fieldLink RX5 27 "BoundaryAnalyzer$Rule" "ahead" "LBoundaryAnalyzer$Part;") (List.mem_of_getElem? (i := 1) rfl)) dX5_stepAhead_54 ?_
            obtain ⟨v57, e57, hf⟩ := zb hf
            refine zr_gi (ci := 3) (k := 1) (C := RX3) (T := TX3) (N := 3) hx hb hts hi_X5_stepAhead_3 hown hK hP e57 rfl rfl (by decide) (by decide) (hts (.fieldLink RX5 86 "BoundaryAnalyzer$Part" "last" "I") (List.mem_of_getElem? (i := 5) rfl)) dX5_stepAhead_57 ?_
            refine lv_iload_n hx hb dX5_stepAhead_60 rfl (lv_at hl 4 rfl) ?_
            refine lv_ishr hx hb dX5_stepAhead_61 ?_
            refine lv_iconst (v := (1 : Int32)) hx hb dX5_stepAhead_62 (by decide) ?_
            refine lv_iand hx hb dX5_stepAhead_63 ?_
            refine lv_if_eq (tgt := 80) hx hb dX5_stepAhead_64 (by decide) (fun c64 => ?_) (fun c64 => ?_)
            · have hf := (if_pos c64).symm.trans hf
              exact J80 _ _ _ _ _ _ _ _ _ hf hP hS (lv_sub hl [2, 3, 0, 4, 1] rfl)
            · have hf := (if_neg c64).symm.trans hf
              refine lv_aload_n hx hb dX5_stepAhead_67 rfl (lv_at hl 2 rfl) ?_
              refine lv_aload_n hx hb dX5_stepAhead_68 rfl (lv_at hl 2 rfl) ?_
              obtain ⟨v69, e69, hf⟩ := zb hf
              refine zr_gi (ci := 5) (k := 7) (C := RX5) (T := TX5) (N := 9) hx hb hts hi_X5_stepAhead_5 hown hK hP e69 rfl rfl (by decide) (by decide) (hts (.fieldLink RX5 51 "BoundaryAnalyzer$Rule" "matched" "I") (List.mem_of_getElem? (i := 6) rfl)) dX5_stepAhead_69 ?_
              refine lv_iload hx hb dX5_stepAhead_72 (lv_at hl 1 rfl) ?_
              refine va_mmax hx hb (by rw [hml]; exact hl.1.symm) hown (hts (.methodLink RX5 96 Lib.Math.max.name) (List.mem_of_getElem? (i := 7) rfl)) (hts (.static Lib.Math.max.name) (List.mem_of_getElem? (i := 8) rfl)) (hts (.initialized "java/lang/Math") (List.mem_of_getElem? (i := 9) rfl)) (hts _ (List.mem_of_getElem? (i := 10) rfl)) (Nat.le_of_ble_eq_true rfl) (Nat.le_of_ble_eq_true rfl) (Nat.zero_le _) (Nat.zero_le _) dX5_stepAhead_74 ?_
              obtain ⟨M77, e77, hf⟩ := zb hf
              refine zr_pi (ci := 5) (k := 7) (C := RX5) (T := TX5) (N := 9) hx hb hts hi_X5_stepAhead_5 tyX5 tyX5_ok nmX5 hown hK hP hS e77 rfl rfl (by decide) (by decide) (hts (.fieldLink RX5 51 "BoundaryAnalyzer$Rule" "matched" "I") (List.mem_of_getElem? (i := 6) rfl)) rfl (tyX5_ok 7 (by decide)) dX5_stepAhead_77 (fun H locs hP _ hS => ?_)
              exact J80 _ _ _ _ _ _ _ _ _ hf hP hS (lv_sub hl [2, 3, 0, 4, 1] rfl)
  unfold fX5_stepAhead at hf
  refine lv_aload_n hx hb dX5_stepAhead_0 rfl (lv_at hl 0 rfl) ?_
  obtain ⟨v1, e1, hf⟩ := zb hf
  refine zr_gr (ci := 5) (k := 2) (C := RX5) (T := TX5) (N := 9) hx hb hts hi_X5_stepAhead_5 hown hK hP e1 rfl rfl (by decide) (by decide) (hts (.fieldLink RX5 27 "BoundaryAnalyzer$Rule" "ahead" "LBoundaryAnalyzer$Part;") (List.mem_of_getElem? (i := 1) rfl)) dX5_stepAhead_1 ?_
  obtain ⟨v4, e4, hf⟩ := zb hf
  refine zr_gi (ci := 3) (k := 0) (C := RX3) (T := TX3) (N := 3) hx hb hts hi_X5_stepAhead_3 hown hK hP e4 rfl rfl (by decide) (by decide) (hts (.fieldLink RX5 60 "BoundaryAnalyzer$Part" "first" "I") (List.mem_of_getElem? (i := 2) rfl)) dX5_stepAhead_4 ?_
  refine lv_if_ne (tgt := 12) hx hb dX5_stepAhead_7 (by decide) (fun c7 => ?_) (fun c7 => ?_)
  · have hf := (if_neg c7).symm.trans hf
    refine lv_iconst (v := (0 : Int32)) hx hb dX5_stepAhead_12 (by decide) ?_
    refine lv_istore_n (lv' := [(2, .int (0 : Int32)), (0, .ref (b + p0)), (1, .int p1)]) hx hb dX5_stepAhead_13 rfl hl (by decide) rfl (fun ls hl => ?_)
    refine lv_aload_n hx hb dX5_stepAhead_14 rfl (lv_at hl 1 rfl) ?_
    obtain ⟨v15, e15, hf⟩ := zb hf
    refine zr_gr (ci := 5) (k := 6) (C := RX5) (T := TX5) (N := 9) hx hb hts hi_X5_stepAhead_5 hown hK hP e15 rfl rfl (by decide) (by decide) (hts (.fieldLink RX5 40 "BoundaryAnalyzer$Rule" "waitingThen" "[I") (List.mem_of_getElem? (i := 3) rfl)) dX5_stepAhead_15 ?_
    refine lv_iconst (v := (-1 : Int32)) hx hb dX5_stepAhead_18 (by decide) ?_
    obtain ⟨M19, e19, hf⟩ := zb hf
    refine zc_v hS (va_runS (As := [.ref (b + v15), .int (-1 : Int32)]) (rest := []) ⟨hx, hb, hml, hown, hts⟩ (k_J7_fill_53178 l D cy b M0  v15 (-1 : Int32) M19 e19) (va_cwS 2 hts gX5_stepAhead_J7_fill_53178 rfl rfl rfl (by decide +kernel) ⟨Nat.le_of_ble_eq_true rfl, Nat.le_of_ble_eq_true rfl⟩) (zp_S _ hK hP) rfl rfl hl.1 rfl (lv_room (Nat.le_of_ble_eq_true rfl)) dX5_stepAhead_19 ⟨Nat.zero_le _, Nat.zero_le _⟩) (fun H locs hP hS => ?_)
    refine lv_iconst (v := (0 : Int32)) hx hb dX5_stepAhead_22 (by decide) ?_
    refine lv_istore_n (lv' := [(3, .int (0 : Int32)), (2, .int (0 : Int32)), (0, .ref (b + p0)), (1, .int p1)]) hx hb dX5_stepAhead_23 rfl hl (by decide) rfl (fun ls hl => ?_)
    exact L24 _ _ _ _ _ _ _ _ _ hf hP hS (lv_sub hl [2, 3, 1, 0] rfl)
  · have hf := (if_pos c7).symm.trans hf
    refine lv_iconst (v := (0 : Int32)) hx hb dX5_stepAhead_10 (by decide) ?_
    exact zret_z hx hb hr (Or.inl rfl) hlocks hf hP hS dX5_stepAhead_11
