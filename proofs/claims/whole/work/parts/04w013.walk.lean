theorem hi_X2_analyse_2 : ∀ w ∈ wsX20, w ∈ wsX2_analyse := fun _ h => List.mem_cons_of_mem _ (List.mem_append_left _ (List.mem_append_left _ (List.mem_append_right _ h)))
theorem hi_X2_analyse_4 : ∀ w ∈ wsX40, w ∈ wsX2_analyse := fun _ h => List.mem_cons_of_mem _ (List.mem_append_left _ (List.mem_append_left _ (List.mem_append_left _ (List.mem_append_right _ h))))
theorem hi_X2_analyse_7 : ∀ w ∈ wsX70, w ∈ wsX2_analyse := fun _ h => List.mem_cons_of_mem _ (List.mem_append_left _ (List.mem_append_left _ (List.mem_append_left _ (List.mem_append_left _ (List.mem_append_right _ h)))))
set_option maxHeartbeats 4000000 in
set_option maxRecDepth 100000 in
theorem k_X2_analyse (l : Launch) (D : va_G) (cy : Nat → ClassId) (b : Nat) (M0 : Mem) (p0 : Nat) (p1 : Nat) (p2 : Int32) (p3 : Int32) (rr : Mem) (hf : fX2_analyse M0 p0 p1 p2 p3 = some rr) : Met l yX2_analyse wsX2_analyse ({ frames := 4, cells := 0, slots := 0, locals := 116 } : Room) (zPc D cy b M0 [.ref (b + p0), .ref (b + p1), .int p2, .int p3]) (zQv D cy b rr) 0 0 (zA b) := by
  refine Met.ofW (cc := cX2_analyse) (maxL := 7) (ret := none) (by decide) rfl ?_
  intro p e s m args below meth c s₁ B hml hv
  obtain ⟨rfl, hP, hK⟩ := hv
  have hx := B.exec
  have hb := B.bytes
  have hr := B.returns
  have hts := atoms_spec (ws := wsX2_analyse) B.pre
  have hown : s.vm.findClass RX2 = some m.cls := findClass_of_methodNamed B.named
  have hlocks := B.notSynchronized
  have hS : va_S (zA b) s.heap s.heap [] := va_S.rf
  have hl := lv_entry ([.ref (b + p0), .ref (b + p1), .int p2, .int p3]) (n := 7) (Nat.le_of_ble_eq_true rfl)
  rw [lg_entry_eq]
  generalize (lg_sl ([.ref (b + p0), .ref (b + p1), .int p2, .int p3]) ++ List.replicate (7 - (lg_sl ([.ref (b + p0), .ref (b + p1), .int p2, .int p3])).length) Slot.unset).toArray = ls at hl ⊢
  have hl : lv_has ls 7 [(0, .ref (b + p0)), (1, .ref (b + p1)), (2, .int p2), (3, .int p3)] := hl
  have L29 : ∀ (n29 : Nat) (M : Mem) (H : Heap) (locs : List Loc) (ls : Array Slot) (h0 : Nat) (h1 : Nat) (x3 : Int32) (x4 : Int32) (x5 : Int32), fX2_analyse_29L  n29 M h0 h1 x3 x4 x5 = some rr → zH D cy b M H → va_S (zA b) s.heap H locs → lv_has ls 7 [(0, .ref (b + h0)), (1, .ref (b + h1)), (3, .int x3), (4, .int x4), (5, .int x5)] → W p l e (headSpec wsX2_analyse ({ frames := 4, cells := 0, slots := 0, locals := 116 } : Room)).room s m ([.ref (b + p0), .ref (b + p1), .int p2, .int p3] : List Value).toArray below meth c H locs 0 0 (MQ below (zQv D cy b rr) ([.ref (b + p0), .ref (b + p1), .int p2, .int p3] : List Value).toArray s 0 0 (zA b)) (F0 m 29 ls []) := by
    intro n29
    induction n29 with
    | zero =>
      intro M H locs ls h0 h1 x3 x4 x5 hf
      have hf : (none : Option Mem) = some rr := hf
      cases hf
    | succ n29 ih29 =>
      have L87 : ∀ (n87 : Nat) (M : Mem) (H : Heap) (locs : List Loc) (ls : Array Slot) (h0 : Nat) (h1 : Nat) (x3 : Int32) (x4 : Int32) (x5 : Int32) (x6 : Int32), fX2_analyse_87L (fX2_analyse_29L  n29) n87 M h0 h1 x3 x4 x5 x6 = some rr → zH D cy b M H → va_S (zA b) s.heap H locs → lv_has ls 7 [(0, .ref (b + h0)), (1, .ref (b + h1)), (3, .int x3), (4, .int x4), (5, .int x5), (6, .int x6)] → W p l e (headSpec wsX2_analyse ({ frames := 4, cells := 0, slots := 0, locals := 116 } : Room)).room s m ([.ref (b + p0), .ref (b + p1), .int p2, .int p3] : List Value).toArray below meth c H locs 0 0 (MQ below (zQv D cy b rr) ([.ref (b + p0), .ref (b + p1), .int p2, .int p3] : List Value).toArray s 0 0 (zA b)) (F0 m 87 ls []) := by
        intro n87
        induction n87 with
        | zero =>
          intro M H locs ls h0 h1 x3 x4 x5 x6 hf
          have hf : (none : Option Mem) = some rr := hf
          cases hf
        | succ n87 ih87 =>
          intro M H locs ls h0 h1 x3 x4 x5 x6 hf hP hS hl
          have hf : fX2_analyse_87 (fX2_analyse_29L  n29) (fX2_analyse_87L (fX2_analyse_29L  n29) n87) M h0 h1 x3 x4 x5 x6 = some rr := hf
          unfold fX2_analyse_87 at hf
          refine lv_iload hx hb dX2_analyse_87 (lv_at hl 4 rfl) ?_
          refine lv_iload hx hb dX2_analyse_89 (lv_at hl 5 rfl) ?_
          refine lv_icmp_ge (tgt := 108) hx hb dX2_analyse_91 (by decide) (fun c91 => ?_) (fun c91 => ?_)
          · have hf := (if_pos c91).symm.trans hf
            refine lv_aload_n hx hb dX2_analyse_108 rfl (lv_at hl 0 rfl) ?_
            refine lv_dup hx hb dX2_analyse_109 rfl ?_
            obtain ⟨v110, e110, hf⟩ := zb hf
            refine zr_gi (ci := 2) (k := 2) (C := RX2) (T := TX2) (N := 5) hx hb hts hi_X2_analyse_2 hown hK hP e110 rfl rfl (by decide) (by decide) (hts (.fieldLink RX2 77 "BoundaryAnalyzer$Kind" "analysed" "I") (List.mem_of_getElem? (i := 11) rfl)) dX2_analyse_110 ?_
            refine lv_iconst (v := (1 : Int32)) hx hb dX2_analyse_113 (by decide) ?_
            refine lv_iadd hx hb dX2_analyse_114 ?_
            obtain ⟨M115, e115, hf⟩ := zb hf
            refine zr_pi (ci := 2) (k := 2) (C := RX2) (T := TX2) (N := 5) hx hb hts hi_X2_analyse_2 tyX2 tyX2_ok nmX2 hown hK hP hS e115 rfl rfl (by decide) (by decide) (hts (.fieldLink RX2 77 "BoundaryAnalyzer$Kind" "analysed" "I") (List.mem_of_getElem? (i := 11) rfl)) rfl (tyX2_ok 2 (by decide)) dX2_analyse_115 (fun H locs hP _ hS => ?_)
            refine lv_goto (tgt := 29) hx hb dX2_analyse_118 (by decide) ?_
            exact ih29 _ _ _ _ _ _ _ _ _ hf hP hS (lv_sub hl [0, 1, 2, 3, 4] rfl)
          · have hf := (if_neg c91).symm.trans hf
            refine lv_aload_n hx hb dX2_analyse_94 rfl (lv_at hl 0 rfl) ?_
            obtain ⟨v95, e95, hf⟩ := zb hf
            refine zr_gr (ci := 2) (k := 1) (C := RX2) (T := TX2) (N := 5) hx hb hts hi_X2_analyse_2 hown hK hP e95 rfl rfl (by decide) (by decide) (hts (.fieldLink RX2 17 "BoundaryAnalyzer$Kind" "looks" "[I") (List.mem_of_getElem? (i := 3) rfl)) dX2_analyse_95 ?_
            refine lv_iload hx hb dX2_analyse_98 (lv_at hl 4 rfl) ?_
            refine lv_iconst (v := (0 : Int32)) hx hb dX2_analyse_100 (by decide) ?_
            obtain ⟨M101, e101, hf⟩ := zb hf
            refine zr_si hx hb hK hP hS e101 dX2_analyse_101 (fun H locs hP _ hS => ?_)
            obtain ⟨x5_102, q102, hf⟩ := zlt_s hf
            refine lv_iinc (v := x5_102) (lv' := [(5, .int x5_102), (0, .ref (b + h0)), (1, .ref (b + h1)), (3, .int x3), (4, .int x4), (6, .int x6)]) hx hb dX2_analyse_102 hl (k := 4) rfl (by rw [← q102]; rfl) (by decide) rfl (fun ls hl => ?_)
            refine lv_goto (tgt := 87) hx hb dX2_analyse_105 (by decide) ?_
            exact ih87 _ _ _ _ _ _ _ _ _ _ hf hP hS (lv_sub hl [1, 2, 3, 4, 0, 5] rfl)
      have J52 : ∀ (M : Mem) (H : Heap) (locs : List Loc) (ls : Array Slot) (h0 : Nat) (h1 : Nat) (x3 : Int32) (x4 : Int32) (x5 : Int32), fX2_analyse_52 (fX2_analyse_29L  n29) M h0 h1 x3 x4 x5 = some rr → zH D cy b M H → va_S (zA b) s.heap H locs → lv_has ls 7 [(0, .ref (b + h0)), (1, .ref (b + h1)), (3, .int x3), (4, .int x4), (5, .int x5)] → W p l e (headSpec wsX2_analyse ({ frames := 4, cells := 0, slots := 0, locals := 116 } : Room)).room s m ([.ref (b + p0), .ref (b + p1), .int p2, .int p3] : List Value).toArray below meth c H locs 0 0 (MQ below (zQv D cy b rr) ([.ref (b + p0), .ref (b + p1), .int p2, .int p3] : List Value).toArray s 0 0 (zA b)) (F0 m 52 ls []) := by
        intro M H locs ls h0 h1 x3 x4 x5 hf hP hS hl
        unfold fX2_analyse_52 at hf
        refine lv_aload_n hx hb dX2_analyse_52 rfl (lv_at hl 0 rfl) ?_
        refine lv_aload_n hx hb dX2_analyse_53 rfl (lv_at hl 1 rfl) ?_
        refine lv_iload hx hb dX2_analyse_54 (lv_at hl 4 rfl) ?_
        obtain ⟨u56, t56, hf⟩ := zb hf
        obtain ⟨M56, e56, hf⟩ := zb hf
        refine zc_v hS (va_runV (As := [.ref (b + h1), .int x5]) (rest := []) ⟨hx, hb, hml, hown, hts⟩ (k_X2_measure l D cy b M h0 h1 x5 M56 e56) (cwV 2 hts gX2_analyse_X2_measure rfl rfl rfl (by decide +kernel) ⟨Nat.le_of_ble_eq_true rfl, Nat.le_of_ble_eq_true rfl⟩) (zp_V _ hK hP t56 (T := TX2) (N := 5) rfl (by decide)) rfl rfl hl.1 rfl (lv_room (Nat.le_of_ble_eq_true rfl)) dX2_analyse_56 ⟨Nat.zero_le _, Nat.zero_le _⟩) (fun H locs hP hS => ?_)
        refine lv_iload hx hb dX2_analyse_59 (lv_at hl 3 rfl) ?_
        refine lv_iload hx hb dX2_analyse_61 (lv_at hl 4 rfl) ?_
        refine lv_aload_n hx hb dX2_analyse_63 rfl (lv_at hl 0 rfl) ?_
        obtain ⟨v64, e64, hf⟩ := zb hf
        refine zr_gi (ci := 2) (k := 3) (C := RX2) (T := TX2) (N := 5) hx hb hts hi_X2_analyse_2 hown hK hP e64 rfl rfl (by decide) (by decide) (hts (.fieldLink RX2 22 "BoundaryAnalyzer$Kind" "length" "I") (List.mem_of_getElem? (i := 12) rfl)) dX2_analyse_64 ?_
        refine lv_iadd hx hb dX2_analyse_67 ?_
        refine va_mmin hx hb (by rw [hml]; exact hl.1.symm) hown (hts (.methodLink RX2 74 Lib.Math.min.name) (List.mem_of_getElem? (i := 4) rfl)) (hts (.static Lib.Math.min.name) (List.mem_of_getElem? (i := 5) rfl)) (hts (.initialized "java/lang/Math") (List.mem_of_getElem? (i := 6) rfl)) (hts _ (List.mem_of_getElem? (i := 7) rfl)) (Nat.le_of_ble_eq_true rfl) (Nat.le_of_ble_eq_true rfl) (Nat.zero_le _) (Nat.zero_le _) dX2_analyse_68 ?_
        obtain ⟨x6_71, q71, hf⟩ := zlt_s hf
        refine zt q71 ?_
        refine lv_istore (lv' := [(6, .int x6_71), (0, .ref (b + h0)), (1, .ref (b + h1)), (3, .int x3), (4, .int x4), (5, .int x5)]) hx hb dX2_analyse_71 hl (by decide) rfl (fun ls hl => ?_)
        refine lv_aload_n hx hb dX2_analyse_73 rfl (lv_at hl 1 rfl) ?_
        obtain ⟨v74, e74, hf⟩ := zb hf
        refine zr_gr (ci := 2) (k := 1) (C := RX2) (T := TX2) (N := 5) hx hb hts hi_X2_analyse_2 hown hK hP e74 rfl rfl (by decide) (by decide) (hts (.fieldLink RX2 17 "BoundaryAnalyzer$Kind" "looks" "[I") (List.mem_of_getElem? (i := 3) rfl)) dX2_analyse_74 ?_
        refine lv_iload hx hb dX2_analyse_77 (lv_at hl 5 rfl) ?_
        refine lv_aload_n hx hb dX2_analyse_79 rfl (lv_at hl 1 rfl) ?_
        obtain ⟨v80, e80, hf⟩ := zb hf
        refine zr_gi (ci := 2) (k := 4) (C := RX2) (T := TX2) (N := 5) hx hb hts hi_X2_analyse_2 hown hK hP e80 rfl rfl (by decide) (by decide) (hts (.fieldLink RX2 26 "BoundaryAnalyzer$Kind" "looked" "I") (List.mem_of_getElem? (i := 13) rfl)) dX2_analyse_80 ?_
        obtain ⟨M83, e83, hf⟩ := zb hf
        refine zr_si hx hb hK hP hS e83 dX2_analyse_83 (fun H locs hP _ hS => ?_)
        obtain ⟨x5_84, q84, hf⟩ := zlt_s hf
        refine lv_iinc (v := x5_84) (lv' := [(5, .int x5_84), (6, .int x6_71), (0, .ref (b + h0)), (1, .ref (b + h1)), (3, .int x3), (4, .int x4)]) hx hb dX2_analyse_84 hl (k := 5) rfl (by rw [← q84]; rfl) (by decide) rfl (fun ls hl => ?_)
        exact L87 _ _ _ _ _ _ _ _ _ _ _ hf hP hS (lv_sub hl [2, 3, 4, 5, 0, 1] rfl)
      intro M H locs ls h0 h1 x3 x4 x5 hf hP hS hl
      have hf : fX2_analyse_29  (fX2_analyse_29L  n29) M h0 h1 x3 x4 x5 = some rr := hf
      unfold fX2_analyse_29 at hf
      refine lv_iload hx hb dX2_analyse_29 (lv_at hl 4 rfl) ?_
      refine lv_iload hx hb dX2_analyse_31 (lv_at hl 3 rfl) ?_
      refine lv_icmp_ge (tgt := 121) hx hb dX2_analyse_33 (by decide) (fun c33 => ?_) (fun c33 => ?_)
      · have hf := (if_pos c33).symm.trans hf
        exact zret_v hx hb hr hlocks hf hP hS dX2_analyse_121
      · have hf := (if_neg c33).symm.trans hf
        refine lv_iload hx hb dX2_analyse_36 (lv_at hl 4 rfl) ?_
        refine lv_iload_n hx hb dX2_analyse_38 rfl (lv_at hl 2 rfl) ?_
        refine lv_icmp_lt (tgt := 52) hx hb dX2_analyse_39 (by decide) (fun c39 => ?_) (fun c39 => ?_)
        · have hf := (if_pos c39).symm.trans hf
          exact J52 _ _ _ _ _ _ _ _ _ hf hP hS (lv_sub hl [0, 1, 2, 3, 4] rfl)
        · have hf := (if_neg c39).symm.trans hf
          refine lv_aload_n hx hb dX2_analyse_42 rfl (lv_at hl 0 rfl) ?_
          obtain ⟨v43, e43, hf⟩ := zb hf
          refine zr_gr (ci := 2) (k := 1) (C := RX2) (T := TX2) (N := 5) hx hb hts hi_X2_analyse_2 hown hK hP e43 rfl rfl (by decide) (by decide) (hts (.fieldLink RX2 17 "BoundaryAnalyzer$Kind" "looks" "[I") (List.mem_of_getElem? (i := 3) rfl)) dX2_analyse_43 ?_
          refine lv_iload hx hb dX2_analyse_46 (lv_at hl 4 rfl) ?_
          obtain ⟨v48, e48, hf⟩ := zb hf
          refine zr_ai hx hb hK hP e48 dX2_analyse_48 ?_
          refine lv_if_ne (tgt := 121) hx hb dX2_analyse_49 (by decide) (fun c49 => ?_) (fun c49 => ?_)
          · have hf := (if_neg c49).symm.trans hf
            exact zret_v hx hb hr hlocks hf hP hS dX2_analyse_121
          · have hf := (if_pos c49).symm.trans hf
            exact J52 _ _ _ _ _ _ _ _ _ hf hP hS (lv_sub hl [0, 1, 2, 3, 4] rfl)
  unfold fX2_analyse at hf
  refine lv_aload_n hx hb dX2_analyse_0 rfl (lv_at hl 1 rfl) ?_
  obtain ⟨v1, e1, hf⟩ := zb hf
  refine zr_gr (ci := 7) (k := 0) (C := RX7) (T := TX7) (N := 2) hx hb hts hi_X2_analyse_7 hown hK hP e1 rfl rfl (by decide) (by decide) (hts (.fieldLink RX2 59 "BoundaryAnalyzer$Text" "signs" "LBoundaryAnalyzer$Row;") (List.mem_of_getElem? (i := 1) rfl)) dX2_analyse_1 ?_
  obtain ⟨v4, e4, hf⟩ := zb hf
  refine zr_gi (ci := 4) (k := 1) (C := RX4) (T := TX4) (N := 2) hx hb hts hi_X2_analyse_4 hown hK hP e4 rfl rfl (by decide) (by decide) (hts (.fieldLink RX2 65 "BoundaryAnalyzer$Row" "size" "I") (List.mem_of_getElem? (i := 2) rfl)) dX2_analyse_4 ?_
  refine lv_aload_n hx hb dX2_analyse_7 rfl (lv_at hl 0 rfl) ?_
  obtain ⟨v8, e8, hf⟩ := zb hf
  refine zr_gr (ci := 2) (k := 1) (C := RX2) (T := TX2) (N := 5) hx hb hts hi_X2_analyse_2 hown hK hP e8 rfl rfl (by decide) (by decide) (hts (.fieldLink RX2 17 "BoundaryAnalyzer$Kind" "looks" "[I") (List.mem_of_getElem? (i := 3) rfl)) dX2_analyse_8 ?_
  obtain ⟨v11, e11, hf⟩ := zb hf
  refine zr_al (t0 := 1) hx hb hK hP e11 (by decide) rfl dX2_analyse_11 ?_
  refine va_mmin hx hb (by rw [hml]; exact hl.1.symm) hown (hts (.methodLink RX2 74 Lib.Math.min.name) (List.mem_of_getElem? (i := 4) rfl)) (hts (.static Lib.Math.min.name) (List.mem_of_getElem? (i := 5) rfl)) (hts (.initialized "java/lang/Math") (List.mem_of_getElem? (i := 6) rfl)) (hts _ (List.mem_of_getElem? (i := 7) rfl)) (Nat.le_of_ble_eq_true rfl) (Nat.le_of_ble_eq_true rfl) (Nat.zero_le _) (Nat.zero_le _) dX2_analyse_12 ?_
  obtain ⟨x4_15, q15, hf⟩ := zlt_s hf
  refine zt q15 ?_
  refine lv_istore (lv' := [(4, .int x4_15), (0, .ref (b + p0)), (1, .ref (b + p1)), (2, .int p2), (3, .int p3)]) hx hb dX2_analyse_15 hl (by decide) rfl (fun ls hl => ?_)
  refine lv_iconst (v := (0 : Int32)) hx hb dX2_analyse_17 (by decide) ?_
  refine lv_iload_n hx hb dX2_analyse_18 rfl (lv_at hl 3 rfl) ?_
  refine va_mmax hx hb (by rw [hml]; exact hl.1.symm) hown (hts (.methodLink RX2 40 Lib.Math.max.name) (List.mem_of_getElem? (i := 8) rfl)) (hts (.static Lib.Math.max.name) (List.mem_of_getElem? (i := 9) rfl)) (hts (.initialized "java/lang/Math") (List.mem_of_getElem? (i := 6) rfl)) (hts _ (List.mem_of_getElem? (i := 10) rfl)) (Nat.le_of_ble_eq_true rfl) (Nat.le_of_ble_eq_true rfl) (Nat.zero_le _) (Nat.zero_le _) dX2_analyse_19 ?_
  obtain ⟨x5_22, q22, hf⟩ := zlt_s hf
  refine zt q22 ?_
  refine lv_istore (lv' := [(5, .int x5_22), (4, .int x4_15), (0, .ref (b + p0)), (1, .ref (b + p1)), (2, .int p2), (3, .int p3)]) hx hb dX2_analyse_22 hl (by decide) rfl (fun ls hl => ?_)
  refine lv_aload_n hx hb dX2_analyse_24 rfl (lv_at hl 2 rfl) ?_
  refine lv_iconst (v := (0 : Int32)) hx hb dX2_analyse_25 (by decide) ?_
  obtain ⟨M26, e26, hf⟩ := zb hf
  refine zr_pi (ci := 2) (k := 2) (C := RX2) (T := TX2) (N := 5) hx hb hts hi_X2_analyse_2 tyX2 tyX2_ok nmX2 hown hK hP hS e26 rfl rfl (by decide) (by decide) (hts (.fieldLink RX2 77 "BoundaryAnalyzer$Kind" "analysed" "I") (List.mem_of_getElem? (i := 11) rfl)) rfl (tyX2_ok 2 (by decide)) dX2_analyse_26 (fun H locs hP _ hS => ?_)
  exact L29 _ _ _ _ _ _ _ _ _ _ hf hP hS (lv_sub hl [2, 3, 5, 1, 0] rfl)
theorem hi_X2_analyseAll_2 : ∀ w ∈ wsX20, w ∈ wsX2_analyseAll := fun _ h => List.mem_cons_of_mem _ (List.mem_append_left _ (List.mem_append_left _ (List.mem_append_right _ h)))
theorem hi_X2_analyseAll_4 : ∀ w ∈ wsX40, w ∈ wsX2_analyseAll := fun _ h => List.mem_cons_of_mem _ (List.mem_append_left _ (List.mem_append_left _ (List.mem_append_left _ (List.mem_append_right _ h))))
theorem hi_X2_analyseAll_7 : ∀ w ∈ wsX70, w ∈ wsX2_analyseAll := fun _ h => List.mem_cons_of_mem _ (List.mem_append_left _ (List.mem_append_left _ (List.mem_append_left _ (List.mem_append_left _ (List.mem_append_right _ h)))))
set_option maxHeartbeats 4000000 in
set_option maxRecDepth 100000 in
theorem k_X2_analyseAll (l : Launch) (D : va_G) (cy : Nat → ClassId) (b : Nat) (M0 : Mem) (p0 : Nat) (p1 : Nat) (rr : Mem) (hf : fX2_analyseAll M0 p0 p1 = some rr) : Met l yX2_analyseAll wsX2_analyseAll ({ frames := 5, cells := 0, slots := 0, locals := 142 } : Room) (zPc D cy b M0 [.ref (b + p0), .ref (b + p1)]) (zQv D cy b rr) 0 0 (zA b) := by
  refine Met.ofW (cc := cX2_analyseAll) (maxL := 2) (ret := none) (by decide) rfl ?_
  intro p e s m args below meth c s₁ B hml hv
  obtain ⟨rfl, hP, hK⟩ := hv
  have hx := B.exec
  have hb := B.bytes
  have hr := B.returns
  have hts := atoms_spec (ws := wsX2_analyseAll) B.pre
  have hown : s.vm.findClass RX2 = some m.cls := findClass_of_methodNamed B.named
  have hlocks := B.notSynchronized
  have hS : va_S (zA b) s.heap s.heap [] := va_S.rf
  have hl := lv_entry ([.ref (b + p0), .ref (b + p1)]) (n := 2) (Nat.le_of_ble_eq_true rfl)
  rw [lg_entry_eq]
  generalize (lg_sl ([.ref (b + p0), .ref (b + p1)]) ++ List.replicate (2 - (lg_sl ([.ref (b + p0), .ref (b + p1)])).length) Slot.unset).toArray = ls at hl ⊢
  have hl : lv_has ls 2 [(0, .ref (b + p0)), (1, .ref (b + p1))] := hl
  unfold fX2_analyseAll at hf
  refine lv_aload_n hx hb dX2_analyseAll_0 rfl (lv_at hl 0 rfl) ?_
  refine lv_aload_n hx hb dX2_analyseAll_1 rfl (lv_at hl 1 rfl) ?_
  refine lv_iconst (v := (0 : Int32)) hx hb dX2_analyseAll_2 (by decide) ?_
  refine lv_aload_n hx hb dX2_analyseAll_3 rfl (lv_at hl 1 rfl) ?_
  obtain ⟨v4, e4, hf⟩ := zb hf
  refine zr_gr (ci := 7) (k := 0) (C := RX7) (T := TX7) (N := 2) hx hb hts hi_X2_analyseAll_7 hown hK hP e4 rfl rfl (by decide) (by decide) (hts (.fieldLink RX2 59 "BoundaryAnalyzer$Text" "signs" "LBoundaryAnalyzer$Row;") (List.mem_of_getElem? (i := 1) rfl)) dX2_analyseAll_4 ?_
  obtain ⟨v7, e7, hf⟩ := zb hf
  refine zr_gi (ci := 4) (k := 1) (C := RX4) (T := TX4) (N := 2) hx hb hts hi_X2_analyseAll_4 hown hK hP e7 rfl rfl (by decide) (by decide) (hts (.fieldLink RX2 65 "BoundaryAnalyzer$Row" "size" "I") (List.mem_of_getElem? (i := 2) rfl)) dX2_analyseAll_7 ?_
  obtain ⟨u10, t10, hf⟩ := zb hf
  obtain ⟨M10, e10, hf⟩ := zb hf
  refine zc_v hS (va_runV (As := [.ref (b + p1), .int (0 : Int32), .int v7]) (rest := []) ⟨hx, hb, hml, hown, hts⟩ (k_X2_analyse l D cy b M0 p0 p1 (0 : Int32) v7 M10 e10) (cwV 3 hts gX2_analyseAll_X2_analyse rfl rfl rfl (by decide +kernel) ⟨Nat.le_of_ble_eq_true rfl, Nat.le_of_ble_eq_true rfl⟩) (zp_V _ hK hP t10 (T := TX2) (N := 5) rfl (by decide)) rfl rfl hl.1 rfl (lv_room (Nat.le_of_ble_eq_true rfl)) dX2_analyseAll_10 ⟨Nat.zero_le _, Nat.zero_le _⟩) (fun H locs hP hS => ?_)
  exact zret_v hx hb hr hlocks hf hP hS dX2_analyseAll_13
