theorem hi_X8_removeException_4 : ∀ w ∈ wsX40, w ∈ wsX8_removeException := fun _ h => List.mem_cons_of_mem _ (List.mem_append_right _ h)
theorem hi_X8_removeException_8 : ∀ w ∈ wsX80, w ∈ wsX8_removeException := fun _ h => List.mem_cons_of_mem _ (List.mem_append_left _ (List.mem_append_right _ h))
set_option maxHeartbeats 4000000 in
set_option maxRecDepth 100000 in
theorem k_X8_removeException (l : Launch) (D : va_G) (cy : Nat → ClassId) (b : Nat) (M0 : Mem) (h0 : Nat) (rr : Int32 × Mem) (hf : fX8_removeException M0 h0 = some rr) : Met l yX8_removeException wsX8_removeException ({ frames := 3, cells := 0, slots := 0, locals := 69 } : Room) (zPc D cy b M0 [.ref (b + h0)]) (zQi D cy b rr) 0 0 (zA b) := by
  refine Met.ofW (cc := cX8_removeException) (maxL := 3) (ret := (some .int)) (by decide) rfl ?_
  intro p e s m args below meth c s₁ B hml hv
  obtain ⟨rfl, hP, hK⟩ := hv
  have hx := B.exec
  have hb := B.bytes
  have hr := B.returns
  have hts := atoms_spec (ws := wsX8_removeException) B.pre
  have hown : s.vm.findClass RX8 = some m.cls := findClass_of_methodNamed B.named
  have hlocks := B.notSynchronized
  have hS : va_S (zA b) s.heap s.heap [] := va_S.rf
  have hl := lv_entry ([.ref (b + h0)]) (n := 3) (Nat.le_of_ble_eq_true rfl)
  rw [lg_entry_eq]
  generalize (lg_sl ([.ref (b + h0)]) ++ List.replicate (3 - (lg_sl ([.ref (b + h0)])).length) Slot.unset).toArray = ls at hl ⊢
  have hl : lv_has ls 3 [(0, .ref (b + h0))] := hl
  unfold fX8_removeException at hf
  refine lv_aload_n hx hb dX8_removeException_0 rfl (lv_at hl 0 rfl) ?_
  refine lv_aload_n hx hb dX8_removeException_1 rfl (lv_at hl 0 rfl) ?_
  obtain ⟨v2, e2, hf⟩ := zb hf
  refine zr_gr (ci := 8) (k := 1) (C := RX8) (T := TX8) (N := 7) hx hb hts hi_X8_removeException_8 hown hK hP e2 rfl rfl (by decide) (by decide) (hts (.fieldLink RX8 21 "BoundaryAnalyzer" "pattern" "LBoundaryAnalyzer$Row;") (List.mem_of_getElem? (i := 1) rfl)) dX8_removeException_2 ?_
  refine lv_iconst (v := (0 : Int32)) hx hb dX8_removeException_5 (by decide) ?_
  refine lv_aload_n hx hb dX8_removeException_6 rfl (lv_at hl 0 rfl) ?_
  obtain ⟨v7, e7, hf⟩ := zb hf
  refine zr_gr (ci := 8) (k := 1) (C := RX8) (T := TX8) (N := 7) hx hb hts hi_X8_removeException_8 hown hK hP e7 rfl rfl (by decide) (by decide) (hts (.fieldLink RX8 21 "BoundaryAnalyzer" "pattern" "LBoundaryAnalyzer$Row;") (List.mem_of_getElem? (i := 1) rfl)) dX8_removeException_7 ?_
  obtain ⟨v10, e10, hf⟩ := zb hf
  refine zr_gi (ci := 4) (k := 1) (C := RX4) (T := TX4) (N := 2) hx hb hts hi_X8_removeException_4 hown hK hP e10 rfl rfl (by decide) (by decide) (hts (.fieldLink RX8 70 "BoundaryAnalyzer$Row" "size" "I") (List.mem_of_getElem? (i := 2) rfl)) dX8_removeException_10 ?_
  obtain ⟨u13, t13, hf⟩ := zb hf
  obtain ⟨r13, e13, hf⟩ := zb hf
  refine zc_i hS (va_runV (As := [.ref (b + v2), .int (0 : Int32), .int v10]) (rest := []) ⟨hx, hb, hml, hown, hts⟩ (k_X8_exceptionAt l D cy b M0 h0 v2 (0 : Int32) v10 r13 e13) (cwV 3 hts gX8_removeException_X8_exceptionAt rfl rfl rfl (by decide +kernel) ⟨Nat.le_of_ble_eq_true rfl, Nat.le_of_ble_eq_true rfl⟩) (zp_V _ hK hP t13 (T := TX8) (N := 7) rfl (by decide)) rfl rfl hl.1 rfl (lv_room (Nat.le_of_ble_eq_true rfl)) dX8_removeException_13 ⟨Nat.zero_le _, Nat.zero_le _⟩) (fun H locs hP hS => ?_)
  refine lv_istore_n (lv' := [(1, .int r13.1), (0, .ref (b + h0))]) hx hb dX8_removeException_16 rfl hl (by decide) rfl (fun ls hl => ?_)
  refine lv_iload_n hx hb dX8_removeException_17 rfl (lv_at hl 0 rfl) ?_
  refine lv_bipush (v := (-5 : Int32)) hx hb dX8_removeException_18 (by decide) ?_
  refine lv_icmp_ne (tgt := 26) hx hb dX8_removeException_20 (by decide) (fun c20 => ?_) (fun c20 => ?_)
  · have hf := (if_neg c20).symm.trans hf
    refine lv_aload_n hx hb dX8_removeException_26 rfl (lv_at hl 1 rfl) ?_
    refine lv_dup hx hb dX8_removeException_27 rfl ?_
    obtain ⟨v28, e28, hf⟩ := zb hf
    refine zr_gi (ci := 8) (k := 5) (C := RX8) (T := TX8) (N := 7) hx hb hts hi_X8_removeException_8 hown hK hP e28 rfl rfl (by decide) (by decide) (hts (.fieldLink RX8 131 "BoundaryAnalyzer" "exceptionCount" "I") (List.mem_of_getElem? (i := 3) rfl)) dX8_removeException_28 ?_
    refine lv_iconst (v := (1 : Int32)) hx hb dX8_removeException_31 (by decide) ?_
    refine lv_isub hx hb dX8_removeException_32 ?_
    obtain ⟨M33, e33, hf⟩ := zb hf
    refine zr_pi (ci := 8) (k := 5) (C := RX8) (T := TX8) (N := 7) hx hb hts hi_X8_removeException_8 tyX8 tyX8_ok nmX8 hown hK hP hS e33 rfl rfl (by decide) (by decide) (hts (.fieldLink RX8 131 "BoundaryAnalyzer" "exceptionCount" "I") (List.mem_of_getElem? (i := 3) rfl)) rfl (tyX8_ok 5 (by decide)) dX8_removeException_33 (fun H locs hP _ hS => ?_)
    refine lv_aload_n hx hb dX8_removeException_36 rfl (lv_at hl 1 rfl) ?_
    obtain ⟨v37, e37, hf⟩ := zb hf
    refine zr_gr (ci := 8) (k := 4) (C := RX8) (T := TX8) (N := 7) hx hb hts hi_X8_removeException_8 hown hK hP e37 rfl rfl (by decide) (by decide) (hts (.fieldLink RX8 39 "BoundaryAnalyzer" "exceptions" "[LBoundaryAnalyzer$Row;") (List.mem_of_getElem? (i := 4) rfl)) dX8_removeException_37 ?_
    refine lv_iload_n hx hb dX8_removeException_40 rfl (lv_at hl 0 rfl) ?_
    obtain ⟨v41, e41, hf⟩ := zb hf
    refine zr_aa (t0 := 6) hx hb hK hP e41 (by decide) rfl dX8_removeException_41 ?_
    refine lv_astore_n (lv' := [(2, .ref (b + v41)), (1, .int r13.1), (0, .ref (b + h0))]) hx hb dX8_removeException_42 rfl hl (by decide) rfl (fun ls hl => ?_)
    refine lv_aload_n hx hb dX8_removeException_43 rfl (lv_at hl 2 rfl) ?_
    obtain ⟨v44, e44, hf⟩ := zb hf
    refine zr_gr (ci := 8) (k := 4) (C := RX8) (T := TX8) (N := 7) hx hb hts hi_X8_removeException_8 hown hK hP e44 rfl rfl (by decide) (by decide) (hts (.fieldLink RX8 39 "BoundaryAnalyzer" "exceptions" "[LBoundaryAnalyzer$Row;") (List.mem_of_getElem? (i := 4) rfl)) dX8_removeException_44 ?_
    refine lv_iload_n hx hb dX8_removeException_47 rfl (lv_at hl 1 rfl) ?_
    refine lv_aload_n hx hb dX8_removeException_48 rfl (lv_at hl 2 rfl) ?_
    obtain ⟨v49, e49, hf⟩ := zb hf
    refine zr_gr (ci := 8) (k := 4) (C := RX8) (T := TX8) (N := 7) hx hb hts hi_X8_removeException_8 hown hK hP e49 rfl rfl (by decide) (by decide) (hts (.fieldLink RX8 39 "BoundaryAnalyzer" "exceptions" "[LBoundaryAnalyzer$Row;") (List.mem_of_getElem? (i := 4) rfl)) dX8_removeException_49 ?_
    refine lv_aload_n hx hb dX8_removeException_52 rfl (lv_at hl 2 rfl) ?_
    obtain ⟨v53, e53, hf⟩ := zb hf
    refine zr_gi (ci := 8) (k := 5) (C := RX8) (T := TX8) (N := 7) hx hb hts hi_X8_removeException_8 hown hK hP e53 rfl rfl (by decide) (by decide) (hts (.fieldLink RX8 131 "BoundaryAnalyzer" "exceptionCount" "I") (List.mem_of_getElem? (i := 3) rfl)) dX8_removeException_53 ?_
    obtain ⟨v56, e56, hf⟩ := zb hf
    refine zr_aa (t0 := 6) hx hb hK hP e56 (by decide) rfl dX8_removeException_56 ?_
    obtain ⟨M57, e57, hf⟩ := zb hf
    refine zr_sa (t0 := 6) (r := (RX4, TX4, 2)) hx hb hK hP hS e57 (by decide) (by decide) rfl rfl dX8_removeException_57 (fun H locs hP _ hS => ?_)
    refine lv_aload_n hx hb dX8_removeException_58 rfl (lv_at hl 2 rfl) ?_
    obtain ⟨v59, e59, hf⟩ := zb hf
    refine zr_gr (ci := 8) (k := 4) (C := RX8) (T := TX8) (N := 7) hx hb hts hi_X8_removeException_8 hown hK hP e59 rfl rfl (by decide) (by decide) (hts (.fieldLink RX8 39 "BoundaryAnalyzer" "exceptions" "[LBoundaryAnalyzer$Row;") (List.mem_of_getElem? (i := 4) rfl)) dX8_removeException_59 ?_
    refine lv_aload_n hx hb dX8_removeException_62 rfl (lv_at hl 2 rfl) ?_
    obtain ⟨v63, e63, hf⟩ := zb hf
    refine zr_gi (ci := 8) (k := 5) (C := RX8) (T := TX8) (N := 7) hx hb hts hi_X8_removeException_8 hown hK hP e63 rfl rfl (by decide) (by decide) (hts (.fieldLink RX8 131 "BoundaryAnalyzer" "exceptionCount" "I") (List.mem_of_getElem? (i := 3) rfl)) dX8_removeException_63 ?_
    refine lv_aload_n hx hb dX8_removeException_66 rfl (lv_at hl 0 rfl) ?_
    obtain ⟨M67, e67, hf⟩ := zb hf
    refine zr_sa (t0 := 6) (r := (RX4, TX4, 2)) hx hb hK hP hS e67 (by decide) (by decide) rfl rfl dX8_removeException_67 (fun H locs hP _ hS => ?_)
    refine lv_aload_n hx hb dX8_removeException_68 rfl (lv_at hl 2 rfl) ?_
    obtain ⟨v69, e69, hf⟩ := zb hf
    refine zr_gi (ci := 8) (k := 5) (C := RX8) (T := TX8) (N := 7) hx hb hts hi_X8_removeException_8 hown hK hP e69 rfl rfl (by decide) (by decide) (hts (.fieldLink RX8 131 "BoundaryAnalyzer" "exceptionCount" "I") (List.mem_of_getElem? (i := 3) rfl)) dX8_removeException_69 ?_
    exact zret_i hx hb hr hlocks hf hP hS dX8_removeException_72
  · have hf := (if_pos c20).symm.trans hf
    refine lv_bipush (v := (-5 : Int32)) hx hb dX8_removeException_23 (by decide) ?_
    exact zret_i hx hb hr hlocks hf hP hS dX8_removeException_25
theorem hi_X8_carryOut_0 : ∀ w ∈ wsX00, w ∈ wsX8_carryOut := fun _ h => List.mem_cons_of_mem _ (List.mem_append_left _ (List.mem_append_left _ (List.mem_append_left _ (List.mem_append_right _ h))))
theorem hi_X8_carryOut_2 : ∀ w ∈ wsX20, w ∈ wsX8_carryOut := fun _ h => List.mem_cons_of_mem _ (List.mem_append_left _ (List.mem_append_left _ (List.mem_append_right _ h)))
theorem hi_X8_carryOut_4 : ∀ w ∈ wsX40, w ∈ wsX8_carryOut := fun _ h => List.mem_cons_of_mem _ (List.mem_append_left _ (List.mem_append_left _ (List.mem_append_left _ (List.mem_append_left _ (List.mem_append_right _ h)))))
theorem hi_X8_carryOut_7 : ∀ w ∈ wsX70, w ∈ wsX8_carryOut := fun _ h => List.mem_cons_of_mem _ (List.mem_append_left _ (List.mem_append_left _ (List.mem_append_left _ (List.mem_append_left _ (List.mem_append_left _ (List.mem_append_right _ h))))))
theorem hi_X8_carryOut_8 : ∀ w ∈ wsX80, w ∈ wsX8_carryOut := fun _ h => List.mem_cons_of_mem _ (List.mem_append_left _ (List.mem_append_left _ (List.mem_append_left _ (List.mem_append_left _ (List.mem_append_left _ (List.mem_append_left _ (List.mem_append_right _ h)))))))
set_option maxHeartbeats 4000000 in
set_option maxRecDepth 100000 in
theorem k_X8_carryOut (l : Launch) (D : va_G) (cy : Nat → ClassId) (b : Nat) (M0 : Mem) (h0 : Nat) (h1 : Nat) (x2 : Int32) (rr : Mem) (hf : fX8_carryOut M0 h0 h1 x2 = some rr) : Met l yX8_carryOut wsX8_carryOut ({ frames := 5, cells := 0, slots := 0, locals := 142 } : Room) (zPc D cy b M0 [.ref (b + h0), .ref (b + h1), .int x2]) (zQv D cy b rr) 0 0 (zA b) := by
  refine Met.ofW (cc := cX8_carryOut) (maxL := 10) (ret := none) (by decide) rfl ?_
  intro p e s m args below meth c s₁ B hml hv
  obtain ⟨rfl, hP, hK⟩ := hv
  have hx := B.exec
  have hb := B.bytes
  have hr := B.returns
  have hts := atoms_spec (ws := wsX8_carryOut) B.pre
  have hown : s.vm.findClass RX8 = some m.cls := findClass_of_methodNamed B.named
  have hlocks := B.notSynchronized
  have hS : va_S (zA b) s.heap s.heap [] := va_S.rf
  have hl := lv_entry ([.ref (b + h0), .ref (b + h1), .int x2]) (n := 10) (Nat.le_of_ble_eq_true rfl)
  rw [lg_entry_eq]
  generalize (lg_sl ([.ref (b + h0), .ref (b + h1), .int x2]) ++ List.replicate (10 - (lg_sl ([.ref (b + h0), .ref (b + h1), .int x2])).length) Slot.unset).toArray = ls at hl ⊢
  have hl : lv_has ls 10 [(0, .ref (b + h0)), (1, .ref (b + h1)), (2, .int x2)] := hl
  have L82 : ∀ (n82 : Nat) (M : Mem) (H : Heap) (locs : List Loc) (ls : Array Slot) (h0 : Nat) (x2 : Int32) (x3 : Int32) (x4 : Int32) (x5 : Int32) (x6 : Int32) (x7 : Int32), fX8_carryOut_82L  n82 M h0 x2 x3 x4 x5 x6 x7 = some rr → zH D cy b M H → va_S (zA b) s.heap H locs → lv_has ls 10 [(0, .ref (b + h0)), (2, .int x2), (3, .int x3), (4, .int x4), (5, .int x5), (6, .int x6), (7, .int x7)] → W p l e (headSpec wsX8_carryOut ({ frames := 5, cells := 0, slots := 0, locals := 142 } : Room)).room s m ([.ref (b + h0), .ref (b + h1), .int x2] : List Value).toArray below meth c H locs 0 0 (MQ below (zQv D cy b rr) ([.ref (b + h0), .ref (b + h1), .int x2] : List Value).toArray s 0 0 (zA b)) (F0 m 82 ls []) := by
    intro n82
    induction n82 with
    | zero =>
      intro M H locs ls h0 x2 x3 x4 x5 x6 x7 hf
      have hf : (none : Option Mem) = some rr := hf
      cases hf
    | succ n82 ih82 =>
      have J134 : ∀ (M : Mem) (H : Heap) (locs : List Loc) (ls : Array Slot) (h0 : Nat) (x2 : Int32) (x3 : Int32) (x4 : Int32) (x5 : Int32) (x6 : Int32) (x7 : Int32) (h8 : Nat) (x9 : Int32), fX8_carryOut_134 (fX8_carryOut_82L  n82) M h0 x2 x3 x4 x5 x6 x7 h8 x9 = some rr → zH D cy b M H → va_S (zA b) s.heap H locs → lv_has ls 10 [(0, .ref (b + h0)), (2, .int x2), (3, .int x3), (4, .int x4), (5, .int x5), (6, .int x6), (7, .int x7), (8, .ref (b + h8)), (9, .int x9)] → W p l e (headSpec wsX8_carryOut ({ frames := 5, cells := 0, slots := 0, locals := 142 } : Room)).room s m ([.ref (b + h0), .ref (b + h1), .int x2] : List Value).toArray below meth c H locs 0 0 (MQ below (zQv D cy b rr) ([.ref (b + h0), .ref (b + h1), .int x2] : List Value).toArray s 0 0 (zA b)) (F0 m 134 ls []) := by
        intro M H locs ls h0 x2 x3 x4 x5 x6 x7 h8 x9 hf hP hS hl
        unfold fX8_carryOut_134 at hf
        refine lv_aload hx hb dX8_carryOut_134 (lv_at hl 7 rfl) ?_
        refine lv_aload_n hx hb dX8_carryOut_136 rfl (lv_at hl 0 rfl) ?_
        obtain ⟨v137, e137, hf⟩ := zb hf
        refine zr_gr (ci := 8) (k := 0) (C := RX8) (T := TX8) (N := 7) hx hb hts hi_X8_carryOut_8 hown hK hP e137 rfl rfl (by decide) (by decide) (hts (.fieldLink RX8 10 "BoundaryAnalyzer" "text" "LBoundaryAnalyzer$Text;") (List.mem_of_getElem? (i := 1) rfl)) dX8_carryOut_137 ?_
        refine lv_iload hx hb dX8_carryOut_140 (lv_at hl 8 rfl) ?_
        refine lv_iload hx hb dX8_carryOut_142 (lv_at hl 5 rfl) ?_
        obtain ⟨u144, t144, hf⟩ := zb hf
        obtain ⟨M144, e144, hf⟩ := zb hf
        refine zc_v hS (va_runV (As := [.ref (b + v137), .int x9, .int x6]) (rest := []) ⟨hx, hb, hml, hown, hts⟩ (k_X2_analyse l D cy b M h8 v137 x9 x6 M144 e144) (cwV 3 hts gX8_carryOut_X2_analyse rfl rfl rfl (by decide +kernel) ⟨Nat.le_of_ble_eq_true rfl, Nat.le_of_ble_eq_true rfl⟩) (zp_V _ hK hP t144 (T := TX2) (N := 5) rfl (by decide)) rfl rfl hl.1 rfl (lv_room (Nat.le_of_ble_eq_true rfl)) dX8_carryOut_144 ⟨Nat.zero_le _, Nat.zero_le _⟩) (fun H locs hP hS => ?_)
        obtain ⟨x7_147, q147, hf⟩ := zlt_s hf
        refine lv_iinc (v := x7_147) (lv' := [(7, .int x7_147), (0, .ref (b + h0)), (2, .int x2), (3, .int x3), (4, .int x4), (5, .int x5), (6, .int x6), (8, .ref (b + h8)), (9, .int x9)]) hx hb dX8_carryOut_147 hl (k := 6) rfl (by rw [← q147]; rfl) (by decide) rfl (fun ls hl => ?_)
        refine lv_goto (tgt := 82) hx hb dX8_carryOut_150 (by decide) ?_
        exact ih82 _ _ _ _ _ _ _ _ _ _ _ hf hP hS (lv_sub hl [1, 2, 3, 4, 5, 6, 0] rfl)
      intro M H locs ls h0 x2 x3 x4 x5 x6 x7 hf hP hS hl
      have hf : fX8_carryOut_82  (fX8_carryOut_82L  n82) M h0 x2 x3 x4 x5 x6 x7 = some rr := hf
      unfold fX8_carryOut_82 at hf
      refine lv_iload hx hb dX8_carryOut_82 (lv_at hl 6 rfl) ?_
      refine lv_iconst (v := (3 : Int32)) hx hb dX8_carryOut_84 (by decide) ?_
      refine lv_icmp_ge (tgt := 153) hx hb dX8_carryOut_85 (by decide) (fun c85 => ?_) (fun c85 => ?_)
      · have hf := (if_pos c85).symm.trans hf
        exact zret_v hx hb hr hlocks hf hP hS dX8_carryOut_153
      · have hf := (if_neg c85).symm.trans hf
        refine lv_aload_n hx hb dX8_carryOut_88 rfl (lv_at hl 0 rfl) ?_
        obtain ⟨v89, e89, hf⟩ := zb hf
        refine zr_gr (ci := 8) (k := 2) (C := RX8) (T := TX8) (N := 7) hx hb hts hi_X8_carryOut_8 hown hK hP e89 rfl rfl (by decide) (by decide) (hts (.fieldLink RX8 27 "BoundaryAnalyzer" "kinds" "[LBoundaryAnalyzer$Kind;") (List.mem_of_getElem? (i := 6) rfl)) dX8_carryOut_89 ?_
        refine lv_iload hx hb dX8_carryOut_92 (lv_at hl 6 rfl) ?_
        obtain ⟨v94, e94, hf⟩ := zb hf
        refine zr_aa (t0 := 4) hx hb hK hP e94 (by decide) rfl dX8_carryOut_94 ?_
        refine lv_astore (lv' := [(8, .ref (b + v94)), (0, .ref (b + h0)), (2, .int x2), (3, .int x3), (4, .int x4), (5, .int x5), (6, .int x6), (7, .int x7)]) hx hb dX8_carryOut_95 hl (by decide) rfl (fun ls hl => ?_)
        refine lv_aload hx hb dX8_carryOut_97 (lv_at hl 0 rfl) ?_
        refine lv_iload hx hb dX8_carryOut_99 (lv_at hl 4 rfl) ?_
        refine lv_iload_n hx hb dX8_carryOut_101 rfl (lv_at hl 3 rfl) ?_
        obtain ⟨u102, t102, hf⟩ := zb hf
        obtain ⟨r102, e102, hf⟩ := zb hf
        refine zc_i hS (va_runV (As := [.int x4, .int x3]) (rest := []) ⟨hx, hb, hml, hown, hts⟩ (k_X2_firstTouched l D cy b M v94 x4 x3 r102 e102) (cwV 2 hts gX8_carryOut_X2_firstTouched rfl rfl rfl (by decide +kernel) ⟨Nat.le_of_ble_eq_true rfl, Nat.le_of_ble_eq_true rfl⟩) (zp_V _ hK hP t102 (T := TX2) (N := 5) rfl (by decide)) rfl rfl hl.1 rfl (lv_room (Nat.le_of_ble_eq_true rfl)) dX8_carryOut_102 ⟨Nat.zero_le _, Nat.zero_le _⟩) (fun H locs hP hS => ?_)
        refine lv_istore (lv' := [(9, .int r102.1), (8, .ref (b + v94)), (0, .ref (b + h0)), (2, .int x2), (3, .int x3), (4, .int x4), (5, .int x5), (6, .int x6), (7, .int x7)]) hx hb dX8_carryOut_105 hl (by decide) rfl (fun ls hl => ?_)
        refine lv_iload_n hx hb dX8_carryOut_107 rfl (lv_at hl 3 rfl) ?_
        refine lv_if_eq (tgt := 124) hx hb dX8_carryOut_108 (by decide) (fun c108 => ?_) (fun c108 => ?_)
        · have hf := (if_pos c108).symm.trans hf
          refine lv_aload hx hb dX8_carryOut_124 (lv_at hl 1 rfl) ?_
          refine lv_iload hx hb dX8_carryOut_126 (lv_at hl 5 rfl) ?_
          refine lv_iload hx hb dX8_carryOut_128 (lv_at hl 6 rfl) ?_
          refine lv_iload_n hx hb dX8_carryOut_130 rfl (lv_at hl 4 rfl) ?_
          obtain ⟨u131, t131, hf⟩ := zb hf
          obtain ⟨M131, e131, hf⟩ := zb hf
          refine zc_v hS (va_runV (As := [.int x4, .int x5, .int x3]) (rest := []) ⟨hx, hb, hml, hown, hts⟩ (k_X2_moveDown l D cy b r102.2 v94 x4 x5 x3 M131 e131) (cwV 3 hts gX8_carryOut_X2_moveDown rfl rfl rfl (by decide +kernel) ⟨Nat.le_of_ble_eq_true rfl, Nat.le_of_ble_eq_true rfl⟩) (zp_V _ hK hP t131 (T := TX2) (N := 5) rfl (by decide)) rfl rfl hl.1 rfl (lv_room (Nat.le_of_ble_eq_true rfl)) dX8_carryOut_131 ⟨Nat.zero_le _, Nat.zero_le _⟩) (fun H locs hP hS => ?_)
          exact J134 _ _ _ _ _ _ _ _ _ _ _ _ _ hf hP hS (lv_sub hl [2, 3, 4, 5, 6, 7, 8, 1, 0] rfl)
        · have hf := (if_neg c108).symm.trans hf
          refine lv_aload hx hb dX8_carryOut_111 (lv_at hl 1 rfl) ?_
          refine lv_iload hx hb dX8_carryOut_113 (lv_at hl 5 rfl) ?_
          refine lv_iload hx hb dX8_carryOut_115 (lv_at hl 6 rfl) ?_
          refine lv_iload_n hx hb dX8_carryOut_117 rfl (lv_at hl 4 rfl) ?_
          obtain ⟨u118, t118, hf⟩ := zb hf
          obtain ⟨M118, e118, hf⟩ := zb hf
          refine zc_v hS (va_runV (As := [.int x4, .int x5, .int x3]) (rest := []) ⟨hx, hb, hml, hown, hts⟩ (k_X2_moveUp l D cy b r102.2 v94 x4 x5 x3 M118 e118) (cwV 3 hts gX8_carryOut_X2_moveUp rfl rfl rfl (by decide +kernel) ⟨Nat.le_of_ble_eq_true rfl, Nat.le_of_ble_eq_true rfl⟩) (zp_V _ hK hP t118 (T := TX2) (N := 5) rfl (by decide)) rfl rfl hl.1 rfl (lv_room (Nat.le_of_ble_eq_true rfl)) dX8_carryOut_118 ⟨Nat.zero_le _, Nat.zero_le _⟩) (fun H locs hP hS => ?_)
          refine lv_goto (tgt := 134) hx hb dX8_carryOut_121 (by decide) ?_
          exact J134 _ _ _ _ _ _ _ _ _ _ _ _ _ hf hP hS (lv_sub hl [2, 3, 4, 5, 6, 7, 8, 1, 0] rfl)
  have J77 : ∀ (M : Mem) (H : Heap) (locs : List Loc) (ls : Array Slot) (h0 : Nat) (x2 : Int32) (x3 : Int32) (x4 : Int32) (x5 : Int32) (y0 : Int32), fX8_carryOut_77  M h0 x2 x3 x4 x5 y0 = some rr → zH D cy b M H → va_S (zA b) s.heap H locs → lv_has ls 10 [(0, .ref (b + h0)), (2, .int x2), (3, .int x3), (4, .int x4), (5, .int x5)] → W p l e (headSpec wsX8_carryOut ({ frames := 5, cells := 0, slots := 0, locals := 142 } : Room)).room s m ([.ref (b + h0), .ref (b + h1), .int x2] : List Value).toArray below meth c H locs 0 0 (MQ below (zQv D cy b rr) ([.ref (b + h0), .ref (b + h1), .int x2] : List Value).toArray s 0 0 (zA b)) (F0 m 77 ls [.int y0]) := by
    intro M H locs ls h0 x2 x3 x4 x5 y0 hf hP hS hl
    unfold fX8_carryOut_77 at hf
    refine lv_istore (lv' := [(6, .int y0), (0, .ref (b + h0)), (2, .int x2), (3, .int x3), (4, .int x4), (5, .int x5)]) hx hb dX8_carryOut_77 hl (by decide) rfl (fun ls hl => ?_)
    refine lv_iconst (v := (0 : Int32)) hx hb dX8_carryOut_79 (by decide) ?_
    refine lv_istore (lv' := [(7, .int (0 : Int32)), (6, .int y0), (0, .ref (b + h0)), (2, .int x2), (3, .int x3), (4, .int x4), (5, .int x5)]) hx hb dX8_carryOut_80 hl (by decide) rfl (fun ls hl => ?_)
    exact L82 _ _ _ _ _ _ _ _ _ _ _ _ hf hP hS (lv_sub hl [2, 3, 4, 5, 6, 1, 0] rfl)
  have J63 : ∀ (M : Mem) (H : Heap) (locs : List Loc) (ls : Array Slot) (h0 : Nat) (x2 : Int32) (x3 : Int32) (x4 : Int32) (x5 : Int32), fX8_carryOut_63  M h0 x2 x3 x4 x5 = some rr → zH D cy b M H → va_S (zA b) s.heap H locs → lv_has ls 10 [(0, .ref (b + h0)), (2, .int x2), (3, .int x3), (4, .int x4), (5, .int x5)] → W p l e (headSpec wsX8_carryOut ({ frames := 5, cells := 0, slots := 0, locals := 142 } : Room)).room s m ([.ref (b + h0), .ref (b + h1), .int x2] : List Value).toArray below meth c H locs 0 0 (MQ below (zQv D cy b rr) ([.ref (b + h0), .ref (b + h1), .int x2] : List Value).toArray s 0 0 (zA b)) (F0 m 63 ls []) := by
    intro M H locs ls h0 x2 x3 x4 x5 hf hP hS hl
    unfold fX8_carryOut_63 at hf
    refine lv_iload_n hx hb dX8_carryOut_63 rfl (lv_at hl 1 rfl) ?_
    refine lv_if_eq (tgt := 75) hx hb dX8_carryOut_64 (by decide) (fun c64 => ?_) (fun c64 => ?_)
    · have hf := (if_pos c64).symm.trans hf
      refine lv_iload hx hb dX8_carryOut_75 (lv_at hl 3 rfl) ?_
      exact J77 _ _ _ _ _ _ _ _ _ _ hf hP hS (lv_sub hl [0, 1, 2, 3, 4] rfl)
    · have hf := (if_neg c64).symm.trans hf
      refine lv_iload hx hb dX8_carryOut_67 (lv_at hl 3 rfl) ?_
      refine lv_iload hx hb dX8_carryOut_69 (lv_at hl 4 rfl) ?_
      refine lv_iadd hx hb dX8_carryOut_71 ?_
      refine lv_goto (tgt := 77) hx hb dX8_carryOut_72 (by decide) ?_
      exact J77 _ _ _ _ _ _ _ _ _ _ hf hP hS (lv_sub hl [0, 1, 2, 3, 4] rfl)
  unfold fX8_carryOut at hf
  refine lv_aload_n hx hb dX8_carryOut_0 rfl (lv_at hl 0 rfl) ?_
  obtain ⟨v1, e1, hf⟩ := zb hf
  refine zr_gr (ci := 8) (k := 0) (C := RX8) (T := TX8) (N := 7) hx hb hts hi_X8_carryOut_8 hown hK hP e1 rfl rfl (by decide) (by decide) (hts (.fieldLink RX8 10 "BoundaryAnalyzer" "text" "LBoundaryAnalyzer$Text;") (List.mem_of_getElem? (i := 1) rfl)) dX8_carryOut_1 ?_
  obtain ⟨v4, e4, hf⟩ := zb hf
  refine zr_gr (ci := 7) (k := 0) (C := RX7) (T := TX7) (N := 2) hx hb hts hi_X8_carryOut_7 hown hK hP e4 rfl rfl (by decide) (by decide) (hts (.fieldLink RX8 134 "BoundaryAnalyzer$Text" "signs" "LBoundaryAnalyzer$Row;") (List.mem_of_getElem? (i := 2) rfl)) dX8_carryOut_4 ?_
  obtain ⟨v7, e7, hf⟩ := zb hf
  refine zr_gi (ci := 4) (k := 1) (C := RX4) (T := TX4) (N := 2) hx hb hts hi_X8_carryOut_4 hown hK hP e7 rfl rfl (by decide) (by decide) (hts (.fieldLink RX8 70 "BoundaryAnalyzer$Row" "size" "I") (List.mem_of_getElem? (i := 3) rfl)) dX8_carryOut_7 ?_
  refine lv_istore_n (lv' := [(3, .int v7), (0, .ref (b + h0)), (1, .ref (b + h1)), (2, .int x2)]) hx hb dX8_carryOut_10 rfl hl (by decide) rfl (fun ls hl => ?_)
  refine lv_aload_n hx hb dX8_carryOut_11 rfl (lv_at hl 2 rfl) ?_
  obtain ⟨v12, e12, hf⟩ := zb hf
  refine zr_gi (ci := 0) (k := 2) (C := RX0) (T := TX0) (N := 3) hx hb hts hi_X8_carryOut_0 hown hK hP e12 rfl rfl (by decide) (by decide) (hts (.fieldLink RX8 145 "BoundaryAnalyzer$Edit" "position" "I") (List.mem_of_getElem? (i := 4) rfl)) dX8_carryOut_12 ?_
  refine lv_istore (lv' := [(4, .int v12), (3, .int v7), (0, .ref (b + h0)), (1, .ref (b + h1)), (2, .int x2)]) hx hb dX8_carryOut_15 hl (by decide) rfl (fun ls hl => ?_)
  refine lv_aload_n hx hb dX8_carryOut_17 rfl (lv_at hl 3 rfl) ?_
  obtain ⟨v18, e18, hf⟩ := zb hf
  refine zr_gr (ci := 0) (k := 0) (C := RX0) (T := TX0) (N := 3) hx hb hts hi_X8_carryOut_0 hown hK hP e18 rfl rfl (by decide) (by decide) (hts (.fieldLink RX8 148 "BoundaryAnalyzer$Edit" "signs" "LBoundaryAnalyzer$Row;") (List.mem_of_getElem? (i := 5) rfl)) dX8_carryOut_18 ?_
  obtain ⟨v21, e21, hf⟩ := zb hf
  refine zr_gi (ci := 4) (k := 1) (C := RX4) (T := TX4) (N := 2) hx hb hts hi_X8_carryOut_4 hown hK hP e21 rfl rfl (by decide) (by decide) (hts (.fieldLink RX8 70 "BoundaryAnalyzer$Row" "size" "I") (List.mem_of_getElem? (i := 3) rfl)) dX8_carryOut_21 ?_
  refine lv_istore (lv' := [(5, .int v21), (4, .int v12), (3, .int v7), (0, .ref (b + h0)), (1, .ref (b + h1)), (2, .int x2)]) hx hb dX8_carryOut_24 hl (by decide) rfl (fun ls hl => ?_)
  refine lv_iload_n hx hb dX8_carryOut_26 rfl (lv_at hl 5 rfl) ?_
  refine lv_if_eq (tgt := 49) hx hb dX8_carryOut_27 (by decide) (fun c27 => ?_) (fun c27 => ?_)
  · have hf := (if_pos c27).symm.trans hf
    refine lv_aload_n hx hb dX8_carryOut_49 rfl (lv_at hl 3 rfl) ?_
    obtain ⟨v50, e50, hf⟩ := zb hf
    refine zr_gr (ci := 8) (k := 0) (C := RX8) (T := TX8) (N := 7) hx hb hts hi_X8_carryOut_8 hown hK hP e50 rfl rfl (by decide) (by decide) (hts (.fieldLink RX8 10 "BoundaryAnalyzer" "text" "LBoundaryAnalyzer$Text;") (List.mem_of_getElem? (i := 1) rfl)) dX8_carryOut_50 ?_
    obtain ⟨v53, e53, hf⟩ := zb hf
    refine zr_gr (ci := 7) (k := 0) (C := RX7) (T := TX7) (N := 2) hx hb hts hi_X8_carryOut_7 hown hK hP e53 rfl rfl (by decide) (by decide) (hts (.fieldLink RX8 134 "BoundaryAnalyzer$Text" "signs" "LBoundaryAnalyzer$Row;") (List.mem_of_getElem? (i := 2) rfl)) dX8_carryOut_53 ?_
    refine lv_iload hx hb dX8_carryOut_56 (lv_at hl 1 rfl) ?_
    refine lv_iload hx hb dX8_carryOut_58 (lv_at hl 0 rfl) ?_
    obtain ⟨u60, t60, hf⟩ := zb hf
    obtain ⟨M60, e60, hf⟩ := zb hf
    refine zc_v hS (va_runV (As := [.int v12, .int v21]) (rest := []) ⟨hx, hb, hml, hown, hts⟩ (k_X4_takeOut l D cy b M0 v53 v12 v21 M60 e60) (cwV 2 hts gX8_carryOut_X4_takeOut rfl rfl rfl (by decide +kernel) ⟨Nat.le_of_ble_eq_true rfl, Nat.le_of_ble_eq_true rfl⟩) (zp_V _ hK hP t60 (T := TX4) (N := 2) rfl (by decide)) rfl rfl hl.1 rfl (lv_room (Nat.le_of_ble_eq_true rfl)) dX8_carryOut_60 ⟨Nat.zero_le _, Nat.zero_le _⟩) (fun H locs hP hS => ?_)
    exact J63 _ _ _ _ _ _ _ _ _ hf hP hS (lv_sub hl [3, 5, 2, 1, 0] rfl)
  · have hf := (if_neg c27).symm.trans hf
    refine lv_aload_n hx hb dX8_carryOut_30 rfl (lv_at hl 3 rfl) ?_
    obtain ⟨v31, e31, hf⟩ := zb hf
    refine zr_gr (ci := 8) (k := 0) (C := RX8) (T := TX8) (N := 7) hx hb hts hi_X8_carryOut_8 hown hK hP e31 rfl rfl (by decide) (by decide) (hts (.fieldLink RX8 10 "BoundaryAnalyzer" "text" "LBoundaryAnalyzer$Text;") (List.mem_of_getElem? (i := 1) rfl)) dX8_carryOut_31 ?_
    obtain ⟨v34, e34, hf⟩ := zb hf
    refine zr_gr (ci := 7) (k := 0) (C := RX7) (T := TX7) (N := 2) hx hb hts hi_X8_carryOut_7 hown hK hP e34 rfl rfl (by decide) (by decide) (hts (.fieldLink RX8 134 "BoundaryAnalyzer$Text" "signs" "LBoundaryAnalyzer$Row;") (List.mem_of_getElem? (i := 2) rfl)) dX8_carryOut_34 ?_
    refine lv_iload hx hb dX8_carryOut_37 (lv_at hl 1 rfl) ?_
    refine lv_aload_n hx hb dX8_carryOut_39 rfl (lv_at hl 4 rfl) ?_
    obtain ⟨v40, e40, hf⟩ := zb hf
    refine zr_gr (ci := 0) (k := 0) (C := RX0) (T := TX0) (N := 3) hx hb hts hi_X8_carryOut_0 hown hK hP e40 rfl rfl (by decide) (by decide) (hts (.fieldLink RX8 148 "BoundaryAnalyzer$Edit" "signs" "LBoundaryAnalyzer$Row;") (List.mem_of_getElem? (i := 5) rfl)) dX8_carryOut_40 ?_
    obtain ⟨u43, t43, hf⟩ := zb hf
    obtain ⟨M43, e43, hf⟩ := zb hf
    refine zc_v hS (va_runV (As := [.int v12, .ref (b + v40)]) (rest := []) ⟨hx, hb, hml, hown, hts⟩ (k_X4_putIn l D cy b M0 v34 v12 v40 M43 e43) (cwV 2 hts gX8_carryOut_X4_putIn rfl rfl rfl (by decide +kernel) ⟨Nat.le_of_ble_eq_true rfl, Nat.le_of_ble_eq_true rfl⟩) (zp_V _ hK hP t43 (T := TX4) (N := 2) rfl (by decide)) rfl rfl hl.1 rfl (lv_room (Nat.le_of_ble_eq_true rfl)) dX8_carryOut_43 ⟨Nat.zero_le _, Nat.zero_le _⟩) (fun H locs hP hS => ?_)
    refine lv_goto (tgt := 63) hx hb dX8_carryOut_46 (by decide) ?_
    exact J63 _ _ _ _ _ _ _ _ _ hf hP hS (lv_sub hl [3, 5, 2, 1, 0] rfl)
theorem hi_X8_insert_0 : ∀ w ∈ wsX00, w ∈ wsX8_insert := fun _ h => List.mem_cons_of_mem _ (List.mem_append_left _ (List.mem_append_left _ (List.mem_append_left _ (List.mem_append_left _ (List.mem_append_right _ h)))))
theorem hi_X8_insert_1 : ∀ w ∈ wsX10, w ∈ wsX8_insert := fun _ h => List.mem_cons_of_mem _ (List.mem_append_left _ (List.mem_append_left _ (List.mem_append_left _ (List.mem_append_right _ h))))
theorem hi_X8_insert_4 : ∀ w ∈ wsX40, w ∈ wsX8_insert := fun _ h => List.mem_cons_of_mem _ (List.mem_append_left _ (List.mem_append_left _ (List.mem_append_left _ (List.mem_append_left _ (List.mem_append_left _ (List.mem_append_right _ h))))))
theorem hi_X8_insert_7 : ∀ w ∈ wsX70, w ∈ wsX8_insert := fun _ h => List.mem_cons_of_mem _ (List.mem_append_left _ (List.mem_append_left _ (List.mem_append_left _ (List.mem_append_left _ (List.mem_append_left _ (List.mem_append_left _ (List.mem_append_right _ h)))))))
theorem hi_X8_insert_8 : ∀ w ∈ wsX80, w ∈ wsX8_insert := fun _ h => List.mem_cons_of_mem _ (List.mem_append_left _ (List.mem_append_left _ (List.mem_append_left _ (List.mem_append_left _ (List.mem_append_left _ (List.mem_append_left _ (List.mem_append_left _ (List.mem_append_right _ h))))))))
set_option maxHeartbeats 4000000 in
set_option maxRecDepth 100000 in
theorem k_X8_insert (l : Launch) (D : va_G) (cy : Nat → ClassId) (b : Nat) (M0 : Mem) (h0 : Nat) (x1 : Int32) (x2 : Int32) (rr : Int32 × Mem) (hf : fX8_insert M0 h0 x1 x2 = some rr) : Met l yX8_insert wsX8_insert ({ frames := 6, cells := 0, slots := 0, locals := 171 } : Room) (zPc D cy b M0 [.ref (b + h0), .int x1, .int x2]) (zQi D cy b rr) 0 0 (zA b) := by
  refine Met.ofW (cc := cX8_insert) (maxL := 4) (ret := (some .int)) (by decide) rfl ?_
  intro p e s m args below meth c s₁ B hml hv
  obtain ⟨rfl, hP, hK⟩ := hv
  have hx := B.exec
  have hb := B.bytes
  have hr := B.returns
  have hts := atoms_spec (ws := wsX8_insert) B.pre
  have hown : s.vm.findClass RX8 = some m.cls := findClass_of_methodNamed B.named
  have hlocks := B.notSynchronized
  have hS : va_S (zA b) s.heap s.heap [] := va_S.rf
  have hl := lv_entry ([.ref (b + h0), .int x1, .int x2]) (n := 4) (Nat.le_of_ble_eq_true rfl)
  rw [lg_entry_eq]
  generalize (lg_sl ([.ref (b + h0), .int x1, .int x2]) ++ List.replicate (4 - (lg_sl ([.ref (b + h0), .int x1, .int x2])).length) Slot.unset).toArray = ls at hl ⊢
  have hl : lv_has ls 4 [(0, .ref (b + h0)), (1, .int x1), (2, .int x2)] := hl
  unfold fX8_insert at hf
  refine lv_aload_n hx hb dX8_insert_0 rfl (lv_at hl 0 rfl) ?_
  refine lv_iload_n hx hb dX8_insert_1 rfl (lv_at hl 1 rfl) ?_
  obtain ⟨u2, t2, hf⟩ := zb hf
  obtain ⟨r2, e2, hf⟩ := zb hf
  refine zc_i hS (va_runV (As := [.int x1]) (rest := []) ⟨hx, hb, hml, hown, hts⟩ (k_X8_isPosition l D cy b M0 h0 x1 r2 e2) (cwV 1 hts gX8_insert_X8_isPosition rfl rfl rfl (by decide +kernel) ⟨Nat.le_of_ble_eq_true rfl, Nat.le_of_ble_eq_true rfl⟩) (zp_V _ hK hP t2 (T := TX8) (N := 7) rfl (by decide)) rfl rfl hl.1 rfl (lv_room (Nat.le_of_ble_eq_true rfl)) dX8_insert_2 ⟨Nat.zero_le _, Nat.zero_le _⟩) (fun H locs hP hS => ?_)
  refine lv_if_ne (tgt := 10) hx hb dX8_insert_5 (by decide) (fun c5 => ?_) (fun c5 => ?_)
  · have hf := (if_neg c5).symm.trans hf
    refine lv_iload_n hx hb dX8_insert_10 rfl (lv_at hl 2 rfl) ?_
    obtain ⟨v11, e11, hf⟩ := zb hf
    refine zc_p (va_runS (As := [.int x2]) (rest := []) ⟨hx, hb, hml, hown, hts⟩ (k_X8_isCharacter l x2 v11 e11) (va_cwS 1 hts gX8_insert_X8_isCharacter rfl rfl rfl (by decide +kernel) ⟨Nat.le_of_ble_eq_true rfl, Nat.le_of_ble_eq_true rfl⟩) (zp_p _) rfl rfl hl.1 rfl (lv_room (Nat.le_of_ble_eq_true rfl)) dX8_insert_11 ⟨Nat.zero_le _, Nat.zero_le _⟩) ?_
    refine lv_if_ne (tgt := 20) hx hb dX8_insert_14 (by decide) (fun c14 => ?_) (fun c14 => ?_)
    · have hf := (if_neg c14).symm.trans hf
      refine lv_aload_n hx hb dX8_insert_20 rfl (lv_at hl 0 rfl) ?_
      obtain ⟨v21, e21, hf⟩ := zb hf
      refine zr_gr (ci := 8) (k := 0) (C := RX8) (T := TX8) (N := 7) hx hb hts hi_X8_insert_8 hown hK hP e21 rfl rfl (by decide) (by decide) (hts (.fieldLink RX8 10 "BoundaryAnalyzer" "text" "LBoundaryAnalyzer$Text;") (List.mem_of_getElem? (i := 1) rfl)) dX8_insert_21 ?_
      obtain ⟨v24, e24, hf⟩ := zb hf
      refine zr_gr (ci := 7) (k := 0) (C := RX7) (T := TX7) (N := 2) hx hb hts hi_X8_insert_7 hown hK hP e24 rfl rfl (by decide) (by decide) (hts (.fieldLink RX8 134 "BoundaryAnalyzer$Text" "signs" "LBoundaryAnalyzer$Row;") (List.mem_of_getElem? (i := 2) rfl)) dX8_insert_24 ?_
      obtain ⟨v27, e27, hf⟩ := zb hf
      refine zr_gi (ci := 4) (k := 1) (C := RX4) (T := TX4) (N := 2) hx hb hts hi_X8_insert_4 hown hK hP e27 rfl rfl (by decide) (by decide) (hts (.fieldLink RX8 70 "BoundaryAnalyzer$Row" "size" "I") (List.mem_of_getElem? (i := 3) rfl)) dX8_insert_27 ?_
      refine lv_bipush (v := (100 : Int32)) hx hb dX8_insert_30 (by decide) ?_
      refine lv_icmp_lt (tgt := 38) hx hb dX8_insert_32 (by decide) (fun c32 => ?_) (fun c32 => ?_)
      · have hf := (if_pos c32).symm.trans hf
        refine lv_aload_n hx hb dX8_insert_38 rfl (lv_at hl 0 rfl) ?_
        obtain ⟨v39, e39, hf⟩ := zb hf
        refine zr_gr (ci := 8) (k := 6) (C := RX8) (T := TX8) (N := 7) hx hb hts hi_X8_insert_8 hown hK hP e39 rfl rfl (by decide) (by decide) (hts (.fieldLink RX8 46 "BoundaryAnalyzer" "history" "LBoundaryAnalyzer$History;") (List.mem_of_getElem? (i := 4) rfl)) dX8_insert_39 ?_
        obtain ⟨u42, t42, hf⟩ := zb hf
        obtain ⟨r42, e42, hf⟩ := zb hf
        refine zc_r hS (va_runV (As := []) (rest := []) ⟨hx, hb, hml, hown, hts⟩ (k_X1_begin l D cy b r2.2 v39  r42 e42) (cwV 0 hts gX8_insert_X1_begin rfl rfl rfl (by decide +kernel) ⟨Nat.le_of_ble_eq_true rfl, Nat.le_of_ble_eq_true rfl⟩) (zp_V _ hK hP t42 (T := TX1) (N := 4) rfl (by decide)) rfl rfl hl.1 rfl (lv_room (Nat.le_of_ble_eq_true rfl)) dX8_insert_42 ⟨Nat.zero_le _, Nat.zero_le _⟩) (fun H locs hP hS => ?_)
        refine lv_astore_n (lv' := [(3, .ref (b + r42.1)), (0, .ref (b + h0)), (1, .int x1), (2, .int x2)]) hx hb dX8_insert_45 rfl hl (by decide) rfl (fun ls hl => ?_)
        refine lv_aload_n hx hb dX8_insert_46 rfl (lv_at hl 0 rfl) ?_
        refine lv_iconst (v := (1 : Int32)) hx hb dX8_insert_47 (by decide) ?_
        obtain ⟨M48, e48, hf⟩ := zb hf
        refine zr_pz (ci := 0) (k := 1) (C := RX0) (T := TX0) (N := 3) hx hb hts hi_X8_insert_0 tyX0 tyX0_ok nmX0 hown hK hP hS e48 rfl rfl (by decide) (by decide) (hts (.fieldLink RX8 139 "BoundaryAnalyzer$Edit" "inserts" "Z") (List.mem_of_getElem? (i := 5) rfl)) rfl (tyX0_ok 1 (by decide)) dX8_insert_48 (fun H locs hP _ hS => ?_)
        refine lv_aload_n hx hb dX8_insert_51 rfl (lv_at hl 0 rfl) ?_
        refine lv_iload_n hx hb dX8_insert_52 rfl (lv_at hl 2 rfl) ?_
        obtain ⟨M53, e53, hf⟩ := zb hf
        refine zr_pi (ci := 0) (k := 2) (C := RX0) (T := TX0) (N := 3) hx hb hts hi_X8_insert_0 tyX0 tyX0_ok nmX0 hown hK hP hS e53 rfl rfl (by decide) (by decide) (hts (.fieldLink RX8 145 "BoundaryAnalyzer$Edit" "position" "I") (List.mem_of_getElem? (i := 6) rfl)) rfl (tyX0_ok 2 (by decide)) dX8_insert_53 (fun H locs hP _ hS => ?_)
        refine lv_aload_n hx hb dX8_insert_56 rfl (lv_at hl 0 rfl) ?_
        obtain ⟨v57, e57, hf⟩ := zb hf
        refine zr_gr (ci := 0) (k := 0) (C := RX0) (T := TX0) (N := 3) hx hb hts hi_X8_insert_0 hown hK hP e57 rfl rfl (by decide) (by decide) (hts (.fieldLink RX8 148 "BoundaryAnalyzer$Edit" "signs" "LBoundaryAnalyzer$Row;") (List.mem_of_getElem? (i := 7) rfl)) dX8_insert_57 ?_
        refine lv_iconst (v := (0 : Int32)) hx hb dX8_insert_60 (by decide) ?_
        obtain ⟨M61, e61, hf⟩ := zb hf
        refine zr_pi (ci := 4) (k := 1) (C := RX4) (T := TX4) (N := 2) hx hb hts hi_X8_insert_4 tyX4 tyX4_ok nmX4 hown hK hP hS e61 rfl rfl (by decide) (by decide) (hts (.fieldLink RX8 70 "BoundaryAnalyzer$Row" "size" "I") (List.mem_of_getElem? (i := 3) rfl)) rfl (tyX4_ok 1 (by decide)) dX8_insert_61 (fun H locs hP _ hS => ?_)
        refine lv_aload_n hx hb dX8_insert_64 rfl (lv_at hl 0 rfl) ?_
        obtain ⟨v65, e65, hf⟩ := zb hf
        refine zr_gr (ci := 0) (k := 0) (C := RX0) (T := TX0) (N := 3) hx hb hts hi_X8_insert_0 hown hK hP e65 rfl rfl (by decide) (by decide) (hts (.fieldLink RX8 148 "BoundaryAnalyzer$Edit" "signs" "LBoundaryAnalyzer$Row;") (List.mem_of_getElem? (i := 7) rfl)) dX8_insert_65 ?_
        refine lv_iload_n hx hb dX8_insert_68 rfl (lv_at hl 3 rfl) ?_
        obtain ⟨u69, t69, hf⟩ := zb hf
        obtain ⟨M69, e69, hf⟩ := zb hf
        refine zc_v hS (va_runV (As := [.int x2]) (rest := []) ⟨hx, hb, hml, hown, hts⟩ (k_X4_append l D cy b M61 v65 x2 M69 e69) (cwV 1 hts gX8_insert_X4_append rfl rfl rfl (by decide +kernel) ⟨Nat.le_of_ble_eq_true rfl, Nat.le_of_ble_eq_true rfl⟩) (zp_V _ hK hP t69 (T := TX4) (N := 2) rfl (by decide)) rfl rfl hl.1 rfl (lv_room (Nat.le_of_ble_eq_true rfl)) dX8_insert_69 ⟨Nat.zero_le _, Nat.zero_le _⟩) (fun H locs hP hS => ?_)
        refine lv_aload_n hx hb dX8_insert_72 rfl (lv_at hl 1 rfl) ?_
        refine lv_aload_n hx hb dX8_insert_73 rfl (lv_at hl 0 rfl) ?_
        refine lv_iconst (v := (1 : Int32)) hx hb dX8_insert_74 (by decide) ?_
        obtain ⟨u75, t75, hf⟩ := zb hf
        obtain ⟨M75, e75, hf⟩ := zb hf
        refine zc_v hS (va_runV (As := [.ref (b + r42.1), .int (1 : Int32)]) (rest := []) ⟨hx, hb, hml, hown, hts⟩ (k_X8_carryOut l D cy b M69 h0 r42.1 (1 : Int32) M75 e75) (cwV 2 hts gX8_insert_X8_carryOut rfl rfl rfl (by decide +kernel) ⟨Nat.le_of_ble_eq_true rfl, Nat.le_of_ble_eq_true rfl⟩) (zp_V _ hK hP t75 (T := TX8) (N := 7) rfl (by decide)) rfl rfl hl.1 rfl (lv_room (Nat.le_of_ble_eq_true rfl)) dX8_insert_75 ⟨Nat.zero_le _, Nat.zero_le _⟩) (fun H locs hP hS => ?_)
        refine lv_aload_n hx hb dX8_insert_78 rfl (lv_at hl 1 rfl) ?_
        obtain ⟨v79, e79, hf⟩ := zb hf
        refine zr_gr (ci := 8) (k := 0) (C := RX8) (T := TX8) (N := 7) hx hb hts hi_X8_insert_8 hown hK hP e79 rfl rfl (by decide) (by decide) (hts (.fieldLink RX8 10 "BoundaryAnalyzer" "text" "LBoundaryAnalyzer$Text;") (List.mem_of_getElem? (i := 1) rfl)) dX8_insert_79 ?_
        obtain ⟨v82, e82, hf⟩ := zb hf
        refine zr_gr (ci := 7) (k := 0) (C := RX7) (T := TX7) (N := 2) hx hb hts hi_X8_insert_7 hown hK hP e82 rfl rfl (by decide) (by decide) (hts (.fieldLink RX8 134 "BoundaryAnalyzer$Text" "signs" "LBoundaryAnalyzer$Row;") (List.mem_of_getElem? (i := 2) rfl)) dX8_insert_82 ?_
        obtain ⟨v85, e85, hf⟩ := zb hf
        refine zr_gi (ci := 4) (k := 1) (C := RX4) (T := TX4) (N := 2) hx hb hts hi_X8_insert_4 hown hK hP e85 rfl rfl (by decide) (by decide) (hts (.fieldLink RX8 70 "BoundaryAnalyzer$Row" "size" "I") (List.mem_of_getElem? (i := 3) rfl)) dX8_insert_85 ?_
        exact zret_i hx hb hr hlocks hf hP hS dX8_insert_88
      · have hf := (if_neg c32).symm.trans hf
        refine lv_bipush (v := (-3 : Int32)) hx hb dX8_insert_35 (by decide) ?_
        exact zret_i hx hb hr hlocks hf hP hS dX8_insert_37
    · have hf := (if_pos c14).symm.trans hf
      refine lv_bipush (v := (-2 : Int32)) hx hb dX8_insert_17 (by decide) ?_
      exact zret_i hx hb hr hlocks hf hP hS dX8_insert_19
  · have hf := (if_pos c5).symm.trans hf
    refine lv_iconst (v := (-1 : Int32)) hx hb dX8_insert_8 (by decide) ?_
    exact zret_i hx hb hr hlocks hf hP hS dX8_insert_9
theorem hi_X8_isPositionOfCharacter_4 : ∀ w ∈ wsX40, w ∈ wsX8_isPositionOfCharacter := fun _ h => List.mem_cons_of_mem _ (List.mem_append_right _ h)
theorem hi_X8_isPositionOfCharacter_7 : ∀ w ∈ wsX70, w ∈ wsX8_isPositionOfCharacter := fun _ h => List.mem_cons_of_mem _ (List.mem_append_left _ (List.mem_append_right _ h))
theorem hi_X8_isPositionOfCharacter_8 : ∀ w ∈ wsX80, w ∈ wsX8_isPositionOfCharacter := fun _ h => List.mem_cons_of_mem _ (List.mem_append_left _ (List.mem_append_left _ (List.mem_append_right _ h)))
set_option maxHeartbeats 4000000 in
set_option maxRecDepth 100000 in
theorem k_X8_isPositionOfCharacter (l : Launch) (D : va_G) (cy : Nat → ClassId) (b : Nat) (M0 : Mem) (h0 : Nat) (x1 : Int32) (rr : Int32 × Mem) (hf : fX8_isPositionOfCharacter M0 h0 x1 = some rr) : Met l yX8_isPositionOfCharacter wsX8_isPositionOfCharacter ({ frames := 0, cells := 0, slots := 0, locals := 0 } : Room) (zPc D cy b M0 [.ref (b + h0), .int x1]) (zQi D cy b rr) 0 0 (zA b) := by
  refine Met.ofW (cc := cX8_isPositionOfCharacter) (maxL := 2) (ret := (some .boolean)) (by decide) rfl ?_
  intro p e s m args below meth c s₁ B hml hv
  obtain ⟨rfl, hP, hK⟩ := hv
  have hx := B.exec
  have hb := B.bytes
  have hr := B.returns
  have hts := atoms_spec (ws := wsX8_isPositionOfCharacter) B.pre
  have hown : s.vm.findClass RX8 = some m.cls := findClass_of_methodNamed B.named
  have hlocks := B.notSynchronized
  have hS : va_S (zA b) s.heap s.heap [] := va_S.rf
  have hl := lv_entry ([.ref (b + h0), .int x1]) (n := 2) (Nat.le_of_ble_eq_true rfl)
  rw [lg_entry_eq]
  generalize (lg_sl ([.ref (b + h0), .int x1]) ++ List.replicate (2 - (lg_sl ([.ref (b + h0), .int x1])).length) Slot.unset).toArray = ls at hl ⊢
  have hl : lv_has ls 2 [(0, .ref (b + h0)), (1, .int x1)] := hl
  unfold fX8_isPositionOfCharacter at hf
  refine lv_iload_n hx hb dX8_isPositionOfCharacter_0 rfl (lv_at hl 1 rfl) ?_
  refine lv_if_lt (tgt := 22) hx hb dX8_isPositionOfCharacter_1 (by decide) (fun c1 => ?_) (fun c1 => ?_)
  · have hf := (if_pos c1).symm.trans hf
    refine lv_iconst (v := (0 : Int32)) hx hb dX8_isPositionOfCharacter_22 (by decide) ?_
    exact zret_z hx hb hr (Or.inl rfl) hlocks hf hP hS dX8_isPositionOfCharacter_23
  · have hf := (if_neg c1).symm.trans hf
    refine lv_iload_n hx hb dX8_isPositionOfCharacter_4 rfl (lv_at hl 1 rfl) ?_
    refine lv_aload_n hx hb dX8_isPositionOfCharacter_5 rfl (lv_at hl 0 rfl) ?_
    obtain ⟨v6, e6, hf⟩ := zb hf
    refine zr_gr (ci := 8) (k := 0) (C := RX8) (T := TX8) (N := 7) hx hb hts hi_X8_isPositionOfCharacter_8 hown hK hP e6 rfl rfl (by decide) (by decide) (hts (.fieldLink RX8 10 "BoundaryAnalyzer" "text" "LBoundaryAnalyzer$Text;") (List.mem_of_getElem? (i := 1) rfl)) dX8_isPositionOfCharacter_6 ?_
    obtain ⟨v9, e9, hf⟩ := zb hf
    refine zr_gr (ci := 7) (k := 0) (C := RX7) (T := TX7) (N := 2) hx hb hts hi_X8_isPositionOfCharacter_7 hown hK hP e9 rfl rfl (by decide) (by decide) (hts (.fieldLink RX8 134 "BoundaryAnalyzer$Text" "signs" "LBoundaryAnalyzer$Row;") (List.mem_of_getElem? (i := 2) rfl)) dX8_isPositionOfCharacter_9 ?_
    obtain ⟨v12, e12, hf⟩ := zb hf
    refine zr_gi (ci := 4) (k := 1) (C := RX4) (T := TX4) (N := 2) hx hb hts hi_X8_isPositionOfCharacter_4 hown hK hP e12 rfl rfl (by decide) (by decide) (hts (.fieldLink RX8 70 "BoundaryAnalyzer$Row" "size" "I") (List.mem_of_getElem? (i := 3) rfl)) dX8_isPositionOfCharacter_12 ?_
    refine lv_icmp_ge (tgt := 22) hx hb dX8_isPositionOfCharacter_15 (by decide) (fun c15 => ?_) (fun c15 => ?_)
    · have hf := (if_pos c15).symm.trans hf
      refine lv_iconst (v := (0 : Int32)) hx hb dX8_isPositionOfCharacter_22 (by decide) ?_
      exact zret_z hx hb hr (Or.inl rfl) hlocks hf hP hS dX8_isPositionOfCharacter_23
    · have hf := (if_neg c15).symm.trans hf
      refine lv_iconst (v := (1 : Int32)) hx hb dX8_isPositionOfCharacter_18 (by decide) ?_
      refine lv_goto (tgt := 23) hx hb dX8_isPositionOfCharacter_19 (by decide) ?_
      exact zret_z hx hb hr (Or.inl rfl) hlocks hf hP hS dX8_isPositionOfCharacter_23
theorem hi_X8_erase_0 : ∀ w ∈ wsX00, w ∈ wsX8_erase := fun _ h => List.mem_cons_of_mem _ (List.mem_append_left _ (List.mem_append_left _ (List.mem_append_left _ (List.mem_append_left _ (List.mem_append_right _ h)))))
theorem hi_X8_erase_1 : ∀ w ∈ wsX10, w ∈ wsX8_erase := fun _ h => List.mem_cons_of_mem _ (List.mem_append_left _ (List.mem_append_left _ (List.mem_append_left _ (List.mem_append_right _ h))))
theorem hi_X8_erase_4 : ∀ w ∈ wsX40, w ∈ wsX8_erase := fun _ h => List.mem_cons_of_mem _ (List.mem_append_left _ (List.mem_append_left _ (List.mem_append_left _ (List.mem_append_left _ (List.mem_append_left _ (List.mem_append_right _ h))))))
theorem hi_X8_erase_7 : ∀ w ∈ wsX70, w ∈ wsX8_erase := fun _ h => List.mem_cons_of_mem _ (List.mem_append_left _ (List.mem_append_left _ (List.mem_append_left _ (List.mem_append_left _ (List.mem_append_left _ (List.mem_append_left _ (List.mem_append_right _ h)))))))
theorem hi_X8_erase_8 : ∀ w ∈ wsX80, w ∈ wsX8_erase := fun _ h => List.mem_cons_of_mem _ (List.mem_append_left _ (List.mem_append_left _ (List.mem_append_left _ (List.mem_append_left _ (List.mem_append_left _ (List.mem_append_left _ (List.mem_append_left _ (List.mem_append_right _ h))))))))
set_option maxHeartbeats 4000000 in
set_option maxRecDepth 100000 in
theorem k_X8_erase (l : Launch) (D : va_G) (cy : Nat → ClassId) (b : Nat) (M0 : Mem) (h0 : Nat) (x1 : Int32) (x2 : Int32) (rr : Int32 × Mem) (hf : fX8_erase M0 h0 x1 x2 = some rr) : Met l yX8_erase wsX8_erase ({ frames := 6, cells := 0, slots := 0, locals := 171 } : Room) (zPc D cy b M0 [.ref (b + h0), .int x1, .int x2]) (zQi D cy b rr) 0 0 (zA b) := by
  refine Met.ofW (cc := cX8_erase) (maxL := 4) (ret := (some .int)) (by decide) rfl ?_
  intro p e s m args below meth c s₁ B hml hv
  obtain ⟨rfl, hP, hK⟩ := hv
  have hx := B.exec
  have hb := B.bytes
  have hr := B.returns
  have hts := atoms_spec (ws := wsX8_erase) B.pre
  have hown : s.vm.findClass RX8 = some m.cls := findClass_of_methodNamed B.named
  have hlocks := B.notSynchronized
  have hS : va_S (zA b) s.heap s.heap [] := va_S.rf
  have hl := lv_entry ([.ref (b + h0), .int x1, .int x2]) (n := 4) (Nat.le_of_ble_eq_true rfl)
  rw [lg_entry_eq]
  generalize (lg_sl ([.ref (b + h0), .int x1, .int x2]) ++ List.replicate (4 - (lg_sl ([.ref (b + h0), .int x1, .int x2])).length) Slot.unset).toArray = ls at hl ⊢
  have hl : lv_has ls 4 [(0, .ref (b + h0)), (1, .int x1), (2, .int x2)] := hl
  unfold fX8_erase at hf
  refine lv_aload_n hx hb dX8_erase_0 rfl (lv_at hl 0 rfl) ?_
  refine lv_iload_n hx hb dX8_erase_1 rfl (lv_at hl 1 rfl) ?_
  obtain ⟨u2, t2, hf⟩ := zb hf
  obtain ⟨r2, e2, hf⟩ := zb hf
  refine zc_i hS (va_runV (As := [.int x1]) (rest := []) ⟨hx, hb, hml, hown, hts⟩ (k_X8_isPositionOfCharacter l D cy b M0 h0 x1 r2 e2) (cwV 1 hts gX8_erase_X8_isPositionOfCharacter rfl rfl rfl (by decide +kernel) ⟨Nat.le_of_ble_eq_true rfl, Nat.le_of_ble_eq_true rfl⟩) (zp_V _ hK hP t2 (T := TX8) (N := 7) rfl (by decide)) rfl rfl hl.1 rfl (lv_room (Nat.le_of_ble_eq_true rfl)) dX8_erase_2 ⟨Nat.zero_le _, Nat.zero_le _⟩) (fun H locs hP hS => ?_)
  refine lv_if_ne (tgt := 10) hx hb dX8_erase_5 (by decide) (fun c5 => ?_) (fun c5 => ?_)
  · have hf := (if_neg c5).symm.trans hf
    refine lv_iload_n hx hb dX8_erase_10 rfl (lv_at hl 2 rfl) ?_
    refine lv_iconst (v := (1 : Int32)) hx hb dX8_erase_11 (by decide) ?_
    refine lv_icmp_lt (tgt := 31) hx hb dX8_erase_12 (by decide) (fun c12 => ?_) (fun c12 => ?_)
    · have hf := (if_pos c12).symm.trans hf
      refine lv_bipush (v := (-2 : Int32)) hx hb dX8_erase_31 (by decide) ?_
      exact zret_i hx hb hr hlocks hf hP hS dX8_erase_33
    · have hf := (if_neg c12).symm.trans hf
      refine lv_iload_n hx hb dX8_erase_15 rfl (lv_at hl 2 rfl) ?_
      refine lv_aload_n hx hb dX8_erase_16 rfl (lv_at hl 0 rfl) ?_
      obtain ⟨v17, e17, hf⟩ := zb hf
      refine zr_gr (ci := 8) (k := 0) (C := RX8) (T := TX8) (N := 7) hx hb hts hi_X8_erase_8 hown hK hP e17 rfl rfl (by decide) (by decide) (hts (.fieldLink RX8 10 "BoundaryAnalyzer" "text" "LBoundaryAnalyzer$Text;") (List.mem_of_getElem? (i := 1) rfl)) dX8_erase_17 ?_
      obtain ⟨v20, e20, hf⟩ := zb hf
      refine zr_gr (ci := 7) (k := 0) (C := RX7) (T := TX7) (N := 2) hx hb hts hi_X8_erase_7 hown hK hP e20 rfl rfl (by decide) (by decide) (hts (.fieldLink RX8 134 "BoundaryAnalyzer$Text" "signs" "LBoundaryAnalyzer$Row;") (List.mem_of_getElem? (i := 2) rfl)) dX8_erase_20 ?_
      obtain ⟨v23, e23, hf⟩ := zb hf
      refine zr_gi (ci := 4) (k := 1) (C := RX4) (T := TX4) (N := 2) hx hb hts hi_X8_erase_4 hown hK hP e23 rfl rfl (by decide) (by decide) (hts (.fieldLink RX8 70 "BoundaryAnalyzer$Row" "size" "I") (List.mem_of_getElem? (i := 3) rfl)) dX8_erase_23 ?_
      refine lv_iload_n hx hb dX8_erase_26 rfl (lv_at hl 1 rfl) ?_
      refine lv_isub hx hb dX8_erase_27 ?_
      refine lv_icmp_le (tgt := 34) hx hb dX8_erase_28 (by decide) (fun c28 => ?_) (fun c28 => ?_)
      · have hf := (if_pos c28).symm.trans hf
        refine lv_aload_n hx hb dX8_erase_34 rfl (lv_at hl 0 rfl) ?_
        obtain ⟨v35, e35, hf⟩ := zb hf
        refine zr_gr (ci := 8) (k := 6) (C := RX8) (T := TX8) (N := 7) hx hb hts hi_X8_erase_8 hown hK hP e35 rfl rfl (by decide) (by decide) (hts (.fieldLink RX8 46 "BoundaryAnalyzer" "history" "LBoundaryAnalyzer$History;") (List.mem_of_getElem? (i := 4) rfl)) dX8_erase_35 ?_
        obtain ⟨u38, t38, hf⟩ := zb hf
        obtain ⟨r38, e38, hf⟩ := zb hf
        refine zc_r hS (va_runV (As := []) (rest := []) ⟨hx, hb, hml, hown, hts⟩ (k_X1_begin l D cy b r2.2 v35  r38 e38) (cwV 0 hts gX8_erase_X1_begin rfl rfl rfl (by decide +kernel) ⟨Nat.le_of_ble_eq_true rfl, Nat.le_of_ble_eq_true rfl⟩) (zp_V _ hK hP t38 (T := TX1) (N := 4) rfl (by decide)) rfl rfl hl.1 rfl (lv_room (Nat.le_of_ble_eq_true rfl)) dX8_erase_38 ⟨Nat.zero_le _, Nat.zero_le _⟩) (fun H locs hP hS => ?_)
        refine lv_astore_n (lv' := [(3, .ref (b + r38.1)), (0, .ref (b + h0)), (1, .int x1), (2, .int x2)]) hx hb dX8_erase_41 rfl hl (by decide) rfl (fun ls hl => ?_)
        refine lv_aload_n hx hb dX8_erase_42 rfl (lv_at hl 0 rfl) ?_
        refine lv_iconst (v := (0 : Int32)) hx hb dX8_erase_43 (by decide) ?_
        obtain ⟨M44, e44, hf⟩ := zb hf
        refine zr_pz (ci := 0) (k := 1) (C := RX0) (T := TX0) (N := 3) hx hb hts hi_X8_erase_0 tyX0 tyX0_ok nmX0 hown hK hP hS e44 rfl rfl (by decide) (by decide) (hts (.fieldLink RX8 139 "BoundaryAnalyzer$Edit" "inserts" "Z") (List.mem_of_getElem? (i := 5) rfl)) rfl (tyX0_ok 1 (by decide)) dX8_erase_44 (fun H locs hP _ hS => ?_)
        refine lv_aload_n hx hb dX8_erase_47 rfl (lv_at hl 0 rfl) ?_
        refine lv_iload_n hx hb dX8_erase_48 rfl (lv_at hl 2 rfl) ?_
        obtain ⟨M49, e49, hf⟩ := zb hf
        refine zr_pi (ci := 0) (k := 2) (C := RX0) (T := TX0) (N := 3) hx hb hts hi_X8_erase_0 tyX0 tyX0_ok nmX0 hown hK hP hS e49 rfl rfl (by decide) (by decide) (hts (.fieldLink RX8 145 "BoundaryAnalyzer$Edit" "position" "I") (List.mem_of_getElem? (i := 6) rfl)) rfl (tyX0_ok 2 (by decide)) dX8_erase_49 (fun H locs hP _ hS => ?_)
        refine lv_aload_n hx hb dX8_erase_52 rfl (lv_at hl 0 rfl) ?_
        obtain ⟨v53, e53, hf⟩ := zb hf
        refine zr_gr (ci := 0) (k := 0) (C := RX0) (T := TX0) (N := 3) hx hb hts hi_X8_erase_0 hown hK hP e53 rfl rfl (by decide) (by decide) (hts (.fieldLink RX8 148 "BoundaryAnalyzer$Edit" "signs" "LBoundaryAnalyzer$Row;") (List.mem_of_getElem? (i := 7) rfl)) dX8_erase_53 ?_
        refine lv_aload_n hx hb dX8_erase_56 rfl (lv_at hl 1 rfl) ?_
        obtain ⟨v57, e57, hf⟩ := zb hf
        refine zr_gr (ci := 8) (k := 0) (C := RX8) (T := TX8) (N := 7) hx hb hts hi_X8_erase_8 hown hK hP e57 rfl rfl (by decide) (by decide) (hts (.fieldLink RX8 10 "BoundaryAnalyzer" "text" "LBoundaryAnalyzer$Text;") (List.mem_of_getElem? (i := 1) rfl)) dX8_erase_57 ?_
        obtain ⟨v60, e60, hf⟩ := zb hf
        refine zr_gr (ci := 7) (k := 0) (C := RX7) (T := TX7) (N := 2) hx hb hts hi_X8_erase_7 hown hK hP e60 rfl rfl (by decide) (by decide) (hts (.fieldLink RX8 134 "BoundaryAnalyzer$Text" "signs" "LBoundaryAnalyzer$Row;") (List.mem_of_getElem? (i := 2) rfl)) dX8_erase_60 ?_
        refine lv_iload_n hx hb dX8_erase_63 rfl (lv_at hl 2 rfl) ?_
        refine lv_iload_n hx hb dX8_erase_64 rfl (lv_at hl 3 rfl) ?_
        obtain ⟨u65, t65, hf⟩ := zb hf
        obtain ⟨M65, e65, hf⟩ := zb hf
        refine zc_v hS (va_runV (As := [.ref (b + v60), .int x1, .int x2]) (rest := []) ⟨hx, hb, hml, hown, hts⟩ (k_X4_become l D cy b M49 v53 v60 x1 x2 M65 e65) (cwV 3 hts gX8_erase_X4_become rfl rfl rfl (by decide +kernel) ⟨Nat.le_of_ble_eq_true rfl, Nat.le_of_ble_eq_true rfl⟩) (zp_V _ hK hP t65 (T := TX4) (N := 2) rfl (by decide)) rfl rfl hl.1 rfl (lv_room (Nat.le_of_ble_eq_true rfl)) dX8_erase_65 ⟨Nat.zero_le _, Nat.zero_le _⟩) (fun H locs hP hS => ?_)
        refine lv_aload_n hx hb dX8_erase_68 rfl (lv_at hl 1 rfl) ?_
        refine lv_aload_n hx hb dX8_erase_69 rfl (lv_at hl 0 rfl) ?_
        refine lv_iconst (v := (0 : Int32)) hx hb dX8_erase_70 (by decide) ?_
        obtain ⟨u71, t71, hf⟩ := zb hf
        obtain ⟨M71, e71, hf⟩ := zb hf
        refine zc_v hS (va_runV (As := [.ref (b + r38.1), .int (0 : Int32)]) (rest := []) ⟨hx, hb, hml, hown, hts⟩ (k_X8_carryOut l D cy b M65 h0 r38.1 (0 : Int32) M71 e71) (cwV 2 hts gX8_erase_X8_carryOut rfl rfl rfl (by decide +kernel) ⟨Nat.le_of_ble_eq_true rfl, Nat.le_of_ble_eq_true rfl⟩) (zp_V _ hK hP t71 (T := TX8) (N := 7) rfl (by decide)) rfl rfl hl.1 rfl (lv_room (Nat.le_of_ble_eq_true rfl)) dX8_erase_71 ⟨Nat.zero_le _, Nat.zero_le _⟩) (fun H locs hP hS => ?_)
        refine lv_aload_n hx hb dX8_erase_74 rfl (lv_at hl 1 rfl) ?_
        obtain ⟨v75, e75, hf⟩ := zb hf
        refine zr_gr (ci := 8) (k := 0) (C := RX8) (T := TX8) (N := 7) hx hb hts hi_X8_erase_8 hown hK hP e75 rfl rfl (by decide) (by decide) (hts (.fieldLink RX8 10 "BoundaryAnalyzer" "text" "LBoundaryAnalyzer$Text;") (List.mem_of_getElem? (i := 1) rfl)) dX8_erase_75 ?_
        obtain ⟨v78, e78, hf⟩ := zb hf
        refine zr_gr (ci := 7) (k := 0) (C := RX7) (T := TX7) (N := 2) hx hb hts hi_X8_erase_7 hown hK hP e78 rfl rfl (by decide) (by decide) (hts (.fieldLink RX8 134 "BoundaryAnalyzer$Text" "signs" "LBoundaryAnalyzer$Row;") (List.mem_of_getElem? (i := 2) rfl)) dX8_erase_78 ?_
        obtain ⟨v81, e81, hf⟩ := zb hf
        refine zr_gi (ci := 4) (k := 1) (C := RX4) (T := TX4) (N := 2) hx hb hts hi_X8_erase_4 hown hK hP e81 rfl rfl (by decide) (by decide) (hts (.fieldLink RX8 70 "BoundaryAnalyzer$Row" "size" "I") (List.mem_of_getElem? (i := 3) rfl)) dX8_erase_81 ?_
        exact zret_i hx hb hr hlocks hf hP hS dX8_erase_84
      · have hf := (if_neg c28).symm.trans hf
        refine lv_bipush (v := (-2 : Int32)) hx hb dX8_erase_31 (by decide) ?_
        exact zret_i hx hb hr hlocks hf hP hS dX8_erase_33
  · have hf := (if_pos c5).symm.trans hf
    refine lv_iconst (v := (-1 : Int32)) hx hb dX8_erase_8 (by decide) ?_
    exact zret_i hx hb hr hlocks hf hP hS dX8_erase_9
theorem hi_X8_undo_0 : ∀ w ∈ wsX00, w ∈ wsX8_undo := fun _ h => List.mem_cons_of_mem _ (List.mem_append_left _ (List.mem_append_left _ (List.mem_append_left _ (List.mem_append_left _ (List.mem_append_left _ (List.mem_append_right _ h))))))
theorem hi_X8_undo_1 : ∀ w ∈ wsX10, w ∈ wsX8_undo := fun _ h => List.mem_cons_of_mem _ (List.mem_append_left _ (List.mem_append_left _ (List.mem_append_left _ (List.mem_append_left _ (List.mem_append_left _ (List.mem_append_left _ (List.mem_append_right _ h)))))))
theorem hi_X8_undo_8 : ∀ w ∈ wsX80, w ∈ wsX8_undo := fun _ h => List.mem_cons_of_mem _ (List.mem_append_left _ (List.mem_append_left _ (List.mem_append_left _ (List.mem_append_left _ (List.mem_append_left _ (List.mem_append_left _ (List.mem_append_left _ (List.mem_append_right _ h))))))))
set_option maxHeartbeats 4000000 in
set_option maxRecDepth 100000 in
theorem k_X8_undo (l : Launch) (D : va_G) (cy : Nat → ClassId) (b : Nat) (M0 : Mem) (h0 : Nat) (rr : Int32 × Mem) (hf : fX8_undo M0 h0 = some rr) : Met l yX8_undo wsX8_undo ({ frames := 6, cells := 0, slots := 0, locals := 171 } : Room) (zPc D cy b M0 [.ref (b + h0)]) (zQi D cy b rr) 0 0 (zA b) := by
  refine Met.ofW (cc := cX8_undo) (maxL := 2) (ret := (some .int)) (by decide) rfl ?_
  intro p e s m args below meth c s₁ B hml hv
  obtain ⟨rfl, hP, hK⟩ := hv
  have hx := B.exec
  have hb := B.bytes
  have hr := B.returns
  have hts := atoms_spec (ws := wsX8_undo) B.pre
  have hown : s.vm.findClass RX8 = some m.cls := findClass_of_methodNamed B.named
  have hlocks := B.notSynchronized
  have hS : va_S (zA b) s.heap s.heap [] := va_S.rf
  have hl := lv_entry ([.ref (b + h0)]) (n := 2) (Nat.le_of_ble_eq_true rfl)
  rw [lg_entry_eq]
  generalize (lg_sl ([.ref (b + h0)]) ++ List.replicate (2 - (lg_sl ([.ref (b + h0)])).length) Slot.unset).toArray = ls at hl ⊢
  have hl : lv_has ls 2 [(0, .ref (b + h0))] := hl
  have J35 : ∀ (M : Mem) (H : Heap) (locs : List Loc) (ls : Array Slot) (h0 : Nat) (g0 : Nat) (g1 : Nat) (y2 : Int32), fX8_undo_35  M h0 g0 g1 y2 = some rr → zH D cy b M H → va_S (zA b) s.heap H locs → lv_has ls 2 [(0, .ref (b + h0))] → W p l e (headSpec wsX8_undo ({ frames := 6, cells := 0, slots := 0, locals := 171 } : Room)).room s m ([.ref (b + h0)] : List Value).toArray below meth c H locs 0 0 (MQ below (zQi D cy b rr) ([.ref (b + h0)] : List Value).toArray s 0 0 (zA b)) (F0 m 35 ls [.int y2, .ref (b + g1), .ref (b + g0)]) := by
    intro M H locs ls h0 g0 g1 y2 hf hP hS hl
    unfold fX8_undo_35 at hf
    obtain ⟨u35, t35, hf⟩ := zb hf
    obtain ⟨M35, e35, hf⟩ := zb hf
    refine zc_v hS (va_runV (As := [.ref (b + g1), .int y2]) (rest := []) ⟨hx, hb, hml, hown, hts⟩ (k_X8_carryOut l D cy b M g0 g1 y2 M35 e35) (cwV 2 hts gX8_undo_X8_carryOut rfl rfl rfl (by decide +kernel) ⟨Nat.le_of_ble_eq_true rfl, Nat.le_of_ble_eq_true rfl⟩) (zp_V _ hK hP t35 (T := TX8) (N := 7) rfl (by decide)) rfl rfl hl.1 rfl (lv_room (Nat.le_of_ble_eq_true rfl)) dX8_undo_35 ⟨Nat.zero_le _, Nat.zero_le _⟩) (fun H locs hP hS => ?_)
    refine lv_aload_n hx hb dX8_undo_38 rfl (lv_at hl 0 rfl) ?_
    obtain ⟨v39, e39, hf⟩ := zb hf
    refine zr_gr (ci := 8) (k := 6) (C := RX8) (T := TX8) (N := 7) hx hb hts hi_X8_undo_8 hown hK hP e39 rfl rfl (by decide) (by decide) (hts (.fieldLink RX8 46 "BoundaryAnalyzer" "history" "LBoundaryAnalyzer$History;") (List.mem_of_getElem? (i := 1) rfl)) dX8_undo_39 ?_
    obtain ⟨v42, e42, hf⟩ := zb hf
    refine zr_gi (ci := 1) (k := 2) (C := RX1) (T := TX1) (N := 4) hx hb hts hi_X8_undo_1 hown hK hP e42 rfl rfl (by decide) (by decide) (hts (.fieldLink RX8 156 "BoundaryAnalyzer$History" "undoable" "I") (List.mem_of_getElem? (i := 2) rfl)) dX8_undo_42 ?_
    exact zret_i hx hb hr hlocks hf hP hS dX8_undo_45
  unfold fX8_undo at hf
  refine lv_aload_n hx hb dX8_undo_0 rfl (lv_at hl 0 rfl) ?_
  obtain ⟨v1, e1, hf⟩ := zb hf
  refine zr_gr (ci := 8) (k := 6) (C := RX8) (T := TX8) (N := 7) hx hb hts hi_X8_undo_8 hown hK hP e1 rfl rfl (by decide) (by decide) (hts (.fieldLink RX8 46 "BoundaryAnalyzer" "history" "LBoundaryAnalyzer$History;") (List.mem_of_getElem? (i := 1) rfl)) dX8_undo_1 ?_
  obtain ⟨v4, e4, hf⟩ := zb hf
  refine zr_gi (ci := 1) (k := 2) (C := RX1) (T := TX1) (N := 4) hx hb hts hi_X8_undo_1 hown hK hP e4 rfl rfl (by decide) (by decide) (hts (.fieldLink RX8 156 "BoundaryAnalyzer$History" "undoable" "I") (List.mem_of_getElem? (i := 2) rfl)) dX8_undo_4 ?_
  refine lv_if_gt (tgt := 13) hx hb dX8_undo_7 (by decide) (fun c7 => ?_) (fun c7 => ?_)
  · have hf := (if_pos c7).symm.trans hf
    refine lv_aload_n hx hb dX8_undo_13 rfl (lv_at hl 0 rfl) ?_
    obtain ⟨v14, e14, hf⟩ := zb hf
    refine zr_gr (ci := 8) (k := 6) (C := RX8) (T := TX8) (N := 7) hx hb hts hi_X8_undo_8 hown hK hP e14 rfl rfl (by decide) (by decide) (hts (.fieldLink RX8 46 "BoundaryAnalyzer" "history" "LBoundaryAnalyzer$History;") (List.mem_of_getElem? (i := 1) rfl)) dX8_undo_14 ?_
    obtain ⟨u17, t17, hf⟩ := zb hf
    obtain ⟨r17, e17, hf⟩ := zb hf
    refine zc_r hS (va_runV (As := []) (rest := []) ⟨hx, hb, hml, hown, hts⟩ (k_X1_stepBack l D cy b M0 v14  r17 e17) (cwV 0 hts gX8_undo_X1_stepBack rfl rfl rfl (by decide +kernel) ⟨Nat.le_of_ble_eq_true rfl, Nat.le_of_ble_eq_true rfl⟩) (zp_V _ hK hP t17 (T := TX1) (N := 4) rfl (by decide)) rfl rfl hl.1 rfl (lv_room (Nat.le_of_ble_eq_true rfl)) dX8_undo_17 ⟨Nat.zero_le _, Nat.zero_le _⟩) (fun H locs hP hS => ?_)
    refine lv_astore_n (lv' := [(1, .ref (b + r17.1)), (0, .ref (b + h0))]) hx hb dX8_undo_20 rfl hl (by decide) rfl (fun ls hl => ?_)
    refine lv_aload_n hx hb dX8_undo_21 rfl (lv_at hl 1 rfl) ?_
    refine lv_aload_n hx hb dX8_undo_22 rfl (lv_at hl 0 rfl) ?_
    refine lv_aload_n hx hb dX8_undo_23 rfl (lv_at hl 0 rfl) ?_
    obtain ⟨v24, e24, hf⟩ := zb hf
    refine zr_gi (ci := 0) (k := 1) (C := RX0) (T := TX0) (N := 3) hx hb hts hi_X8_undo_0 hown hK hP e24 rfl rfl (by decide) (by decide) (hts (.fieldLink RX8 139 "BoundaryAnalyzer$Edit" "inserts" "Z") (List.mem_of_getElem? (i := 3) rfl)) dX8_undo_24 ?_
    refine lv_if_ne (tgt := 34) hx hb dX8_undo_27 (by decide) (fun c27 => ?_) (fun c27 => ?_)
    · have hf := (if_neg c27).symm.trans hf
      refine lv_iconst (v := (0 : Int32)) hx hb dX8_undo_34 (by decide) ?_
      exact J35 _ _ _ _ _ _ _ _ hf hP hS (lv_sub hl [1] rfl)
    · have hf := (if_pos c27).symm.trans hf
      refine lv_iconst (v := (1 : Int32)) hx hb dX8_undo_30 (by decide) ?_
      refine lv_goto (tgt := 35) hx hb dX8_undo_31 (by decide) ?_
      exact J35 _ _ _ _ _ _ _ _ hf hP hS (lv_sub hl [1] rfl)
  · have hf := (if_neg c7).symm.trans hf
    refine lv_bipush (v := (-5 : Int32)) hx hb dX8_undo_10 (by decide) ?_
    exact zret_i hx hb hr hlocks hf hP hS dX8_undo_12
