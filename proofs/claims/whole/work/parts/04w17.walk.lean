theorem hi_X9_matchLength_9 : ∀ w ∈ wsX90, w ∈ wsX9_matchLength := fun _ h => List.mem_cons_of_mem _ (List.mem_append_right _ h)
set_option maxHeartbeats 4000000 in
set_option maxRecDepth 100000 in
theorem k_X9_matchLength (l : Launch) (D : va_G) (cy : Nat → ClassId) (b : Nat) (M0 : Mem) (h0 : Nat) (x1 : Int32) (x2 : Int32) (x3 : Int32) (rr : Int32 × Mem) (hf : fX9_matchLength M0 h0 x1 x2 x3 = some rr) : Met l yX9_matchLength wsX9_matchLength ({ frames := 3, cells := 0, slots := 0, locals := 79 } : Room) (zPc D cy b M0 [.ref (b + h0), .int x1, .int x2, .int x3]) (zQi D cy b rr) 0 0 (zA b) := by
  refine Met.ofW (cc := cX9_matchLength) (maxL := 5) (ret := (some .int)) (by decide) rfl ?_
  intro p e s m args below meth c s₁ B hml hv
  obtain ⟨rfl, hP, hK⟩ := hv
  have hx := B.exec
  have hb := B.bytes
  have hr := B.returns
  have hts := atoms_spec (ws := wsX9_matchLength) B.pre
  have hown : s.vm.findClass RX9 = some m.cls := findClass_of_methodNamed B.named
  have hlocks := B.notSynchronized
  have hS : va_S (zA b) s.heap s.heap [] := va_S.rf
  have hl := lv_entry ([.ref (b + h0), .int x1, .int x2, .int x3]) (n := 5) (Nat.le_of_ble_eq_true rfl)
  rw [lg_entry_eq]
  generalize (lg_sl ([.ref (b + h0), .int x1, .int x2, .int x3]) ++ List.replicate (5 - (lg_sl ([.ref (b + h0), .int x1, .int x2, .int x3])).length) Slot.unset).toArray = ls at hl ⊢
  have hl : lv_has ls 5 [(0, .ref (b + h0)), (1, .int x1), (2, .int x2), (3, .int x3)] := hl
  unfold fX9_matchLength at hf
  refine lv_iload_n hx hb dX9_matchLength_0 rfl (lv_at hl 1 rfl) ?_
  refine lv_iload_n hx hb dX9_matchLength_1 rfl (lv_at hl 2 rfl) ?_
  obtain ⟨v2, e2, hf⟩ := zb hf
  refine zc_p (va_runS (As := [.int x1, .int x2]) (rest := []) ⟨hx, hb, hml, hown, hts⟩ (k_X9_noRulePlace l x1 x2 v2 e2) (va_cwS 2 hts gX9_matchLength_X9_noRulePlace rfl rfl rfl (by decide +kernel) ⟨Nat.le_of_ble_eq_true rfl, Nat.le_of_ble_eq_true rfl⟩) (zp_p _) rfl rfl hl.1 rfl (lv_room (Nat.le_of_ble_eq_true rfl)) dX9_matchLength_2 ⟨Nat.zero_le _, Nat.zero_le _⟩) ?_
  refine lv_if_eq (tgt := 11) hx hb dX9_matchLength_5 (by decide) (fun c5 => ?_) (fun c5 => ?_)
  · have hf := (if_pos c5).symm.trans hf
    refine lv_aload_n hx hb dX9_matchLength_11 rfl (lv_at hl 0 rfl) ?_
    refine lv_iload_n hx hb dX9_matchLength_12 rfl (lv_at hl 3 rfl) ?_
    obtain ⟨u13, t13, hf⟩ := zb hf
    obtain ⟨r13, e13, hf⟩ := zb hf
    refine zc_i hS (va_runV (As := [.int x3]) (rest := []) ⟨hx, hb, hml, hown, hts⟩ (k_X9_noPosition l D cy b M0 h0 x3 r13 e13) (cwV 1 hts gX9_matchLength_X9_noPosition rfl rfl rfl (by decide +kernel) ⟨Nat.le_of_ble_eq_true rfl, Nat.le_of_ble_eq_true rfl⟩) (zp_V _ hK hP t13 (T := TX9) (N := 54) rfl (by decide)) rfl rfl hl.1 rfl (lv_room (Nat.le_of_ble_eq_true rfl)) dX9_matchLength_13 ⟨Nat.zero_le _, Nat.zero_le _⟩) (fun H locs hP hS => ?_)
    refine lv_if_eq (tgt := 21) hx hb dX9_matchLength_16 (by decide) (fun c16 => ?_) (fun c16 => ?_)
    · have hf := (if_pos c16).symm.trans hf
      refine lv_iconst (v := (5 : Int32)) hx hb dX9_matchLength_21 (by decide) ?_
      refine lv_iload_n hx hb dX9_matchLength_22 rfl (lv_at hl 1 rfl) ?_
      refine lv_imul hx hb dX9_matchLength_23 ?_
      refine lv_iload_n hx hb dX9_matchLength_24 rfl (lv_at hl 2 rfl) ?_
      refine lv_iadd hx hb dX9_matchLength_25 ?_
      obtain ⟨x4_26, q26, hf⟩ := zlt_s hf
      refine zt q26 ?_
      refine lv_istore (lv' := [(4, .int x4_26), (0, .ref (b + h0)), (1, .int x1), (2, .int x2), (3, .int x3)]) hx hb dX9_matchLength_26 hl (by decide) rfl (fun ls hl => ?_)
      refine lv_aload_n hx hb dX9_matchLength_28 rfl (lv_at hl 1 rfl) ?_
      obtain ⟨v29, e29, hf⟩ := zb hf
      refine zr_gr (ci := 9) (k := 20) (C := RX9) (T := TX9) (N := 54) hx hb hts hi_X9_matchLength_9 hown hK hP e29 rfl rfl (by decide) (by decide) (hts (.fieldLink RX9 45 "BoundaryAnalyzerModel" "ruleLong" "[I") (List.mem_of_getElem? (i := 1) rfl)) dX9_matchLength_29 ?_
      refine lv_iload hx hb dX9_matchLength_32 (lv_at hl 0 rfl) ?_
      obtain ⟨v34, e34, hf⟩ := zb hf
      refine zr_ai hx hb hK hP e34 dX9_matchLength_34 ?_
      refine lv_if_ne (tgt := 43) hx hb dX9_matchLength_35 (by decide) (fun c35 => ?_) (fun c35 => ?_)
      · have hf := (if_neg c35).symm.trans hf
        refine lv_aload_n hx hb dX9_matchLength_43 rfl (lv_at hl 1 rfl) ?_
        refine lv_iload hx hb dX9_matchLength_44 (lv_at hl 0 rfl) ?_
        refine lv_iload_n hx hb dX9_matchLength_46 rfl (lv_at hl 4 rfl) ?_
        obtain ⟨u47, t47, hf⟩ := zb hf
        obtain ⟨r47, e47, hf⟩ := zb hf
        refine zc_i hS (va_runV (As := [.int x4_26, .int x3]) (rest := []) ⟨hx, hb, hml, hown, hts⟩ (k_X9_lengthOf l D cy b r13.2 h0 x4_26 x3 r47 e47) (cwV 2 hts gX9_matchLength_X9_lengthOf rfl rfl rfl (by decide +kernel) ⟨Nat.le_of_ble_eq_true rfl, Nat.le_of_ble_eq_true rfl⟩) (zp_V _ hK hP t47 (T := TX9) (N := 54) rfl (by decide)) rfl rfl hl.1 rfl (lv_room (Nat.le_of_ble_eq_true rfl)) dX9_matchLength_47 ⟨Nat.zero_le _, Nat.zero_le _⟩) (fun H locs hP hS => ?_)
        exact zret_i hx hb hr hlocks hf hP hS dX9_matchLength_50
      · have hf := (if_pos c35).symm.trans hf
        refine lv_bipush (v := (-5 : Int32)) hx hb dX9_matchLength_38 (by decide) ?_
        refine lv_goto (tgt := 50) hx hb dX9_matchLength_40 (by decide) ?_
        exact zret_i hx hb hr hlocks hf hP hS dX9_matchLength_50
    · have hf := (if_neg c16).symm.trans hf
      refine lv_iconst (v := (-1 : Int32)) hx hb dX9_matchLength_19 (by decide) ?_
      exact zret_i hx hb hr hlocks hf hP hS dX9_matchLength_20
  · have hf := (if_neg c5).symm.trans hf
    refine lv_bipush (v := (-2 : Int32)) hx hb dX9_matchLength_8 (by decide) ?_
    exact zret_i hx hb hr hlocks hf hP hS dX9_matchLength_10
theorem hi_X9_farOf_9 : ∀ w ∈ wsX90, w ∈ wsX9_farOf := fun _ h => List.mem_cons_of_mem _ (List.mem_append_right _ h)
set_option maxHeartbeats 4000000 in
set_option maxRecDepth 100000 in
theorem k_X9_farOf (l : Launch) (D : va_G) (cy : Nat → ClassId) (b : Nat) (M0 : Mem) (h0 : Nat) (x1 : Int32) (x2 : Int32) (rr : Int32 × Mem) (hf : fX9_farOf M0 h0 x1 x2 = some rr) : Met l yX9_farOf wsX9_farOf ({ frames := 1, cells := 0, slots := 0, locals := 27 } : Room) (zPc D cy b M0 [.ref (b + h0), .int x1, .int x2]) (zQi D cy b rr) 0 0 (zA b) := by
  refine Met.ofW (cc := cX9_farOf) (maxL := 6) (ret := (some .int)) (by decide) rfl ?_
  intro p e s m args below meth c s₁ B hml hv
  obtain ⟨rfl, hP, hK⟩ := hv
  have hx := B.exec
  have hb := B.bytes
  have hr := B.returns
  have hts := atoms_spec (ws := wsX9_farOf) B.pre
  have hown : s.vm.findClass RX9 = some m.cls := findClass_of_methodNamed B.named
  have hlocks := B.notSynchronized
  have hS : va_S (zA b) s.heap s.heap [] := va_S.rf
  have hl := lv_entry ([.ref (b + h0), .int x1, .int x2]) (n := 6) (Nat.le_of_ble_eq_true rfl)
  rw [lg_entry_eq]
  generalize (lg_sl ([.ref (b + h0), .int x1, .int x2]) ++ List.replicate (6 - (lg_sl ([.ref (b + h0), .int x1, .int x2])).length) Slot.unset).toArray = ls at hl ⊢
  have hl : lv_has ls 6 [(0, .ref (b + h0)), (1, .int x1), (2, .int x2)] := hl
  have L30 : ∀ (n30 : Nat) (M : Mem) (H : Heap) (locs : List Loc) (ls : Array Slot) (h0 : Nat) (x1 : Int32) (x2 : Int32) (x3 : Int32) (x4 : Int32), fX9_farOf_30L  n30 M h0 x1 x2 x3 x4 = some rr → zH D cy b M H → va_S (zA b) s.heap H locs → lv_has ls 6 [(0, .ref (b + h0)), (1, .int x1), (2, .int x2), (3, .int x3), (4, .int x4)] → W p l e (headSpec wsX9_farOf ({ frames := 1, cells := 0, slots := 0, locals := 27 } : Room)).room s m ([.ref (b + h0), .int x1, .int x2] : List Value).toArray below meth c H locs 0 0 (MQ below (zQi D cy b rr) ([.ref (b + h0), .int x1, .int x2] : List Value).toArray s 0 0 (zA b)) (F0 m 30 ls []) := by
    intro n30
    induction n30 with
    | zero =>
      intro M H locs ls h0 x1 x2 x3 x4 hf
      have hf : (none : Option (Int32 × Mem)) = some rr := hf
      cases hf
    | succ n30 ih30 =>
      have J91 : ∀ (M : Mem) (H : Heap) (locs : List Loc) (ls : Array Slot) (h0 : Nat) (x1 : Int32) (x2 : Int32) (x4 : Int32) (y0 : Int32) (y1 : Int32), fX9_farOf_91 (fX9_farOf_30L  n30) M h0 x1 x2 x4 y0 y1 = some rr → zH D cy b M H → va_S (zA b) s.heap H locs → lv_has ls 6 [(0, .ref (b + h0)), (1, .int x1), (2, .int x2), (4, .int x4)] → W p l e (headSpec wsX9_farOf ({ frames := 1, cells := 0, slots := 0, locals := 27 } : Room)).room s m ([.ref (b + h0), .int x1, .int x2] : List Value).toArray below meth c H locs 0 0 (MQ below (zQi D cy b rr) ([.ref (b + h0), .int x1, .int x2] : List Value).toArray s 0 0 (zA b)) (F0 m 91 ls [.int y1, .int y0]) := by
        intro M H locs ls h0 x1 x2 x4 y0 y1 hf hP hS hl
        unfold fX9_farOf_91 at hf
        refine lv_ior hx hb dX9_farOf_91 ?_
        obtain ⟨x3_92, q92, hf⟩ := zlt_s hf
        refine zt q92 ?_
        refine lv_istore_n (lv' := [(3, .int x3_92), (0, .ref (b + h0)), (1, .int x1), (2, .int x2), (4, .int x4)]) hx hb dX9_farOf_92 rfl hl (by decide) rfl (fun ls hl => ?_)
        refine lv_goto (tgt := 30) hx hb dX9_farOf_93 (by decide) ?_
        exact ih30 _ _ _ _ _ _ _ _ _ hf hP hS (lv_sub hl [1, 2, 3, 0, 4] rfl)
      intro M H locs ls h0 x1 x2 x3 x4 hf hP hS hl
      have hf : fX9_farOf_30  (fX9_farOf_30L  n30) M h0 x1 x2 x3 x4 = some rr := hf
      unfold fX9_farOf_30 at hf
      refine lv_iload hx hb dX9_farOf_30 (lv_at hl 4 rfl) ?_
      refine lv_aload_n hx hb dX9_farOf_32 rfl (lv_at hl 0 rfl) ?_
      obtain ⟨v33, e33, hf⟩ := zb hf
      refine zr_gi (ci := 9) (k := 31) (C := RX9) (T := TX9) (N := 54) hx hb hts hi_X9_farOf_9 hown hK hP e33 rfl rfl (by decide) (by decide) (hts (.fieldLink RX9 207 "BoundaryAnalyzerModel" "length" "I") (List.mem_of_getElem? (i := 4) rfl)) dX9_farOf_33 ?_
      refine lv_icmp_ge (tgt := 96) hx hb dX9_farOf_36 (by decide) (fun c36 => ?_) (fun c36 => ?_)
      · have hf := (if_pos c36).symm.trans hf
        refine lv_aload_n hx hb dX9_farOf_96 rfl (lv_at hl 0 rfl) ?_
        obtain ⟨v97, e97, hf⟩ := zb hf
        refine zr_gi (ci := 9) (k := 31) (C := RX9) (T := TX9) (N := 54) hx hb hts hi_X9_farOf_9 hown hK hP e97 rfl rfl (by decide) (by decide) (hts (.fieldLink RX9 207 "BoundaryAnalyzerModel" "length" "I") (List.mem_of_getElem? (i := 4) rfl)) dX9_farOf_97 ?_
        refine lv_iconst (v := (1 : Int32)) hx hb dX9_farOf_100 (by decide) ?_
        refine lv_iadd hx hb dX9_farOf_101 ?_
        refine lv_iload_n hx hb dX9_farOf_102 rfl (lv_at hl 2 rfl) ?_
        refine lv_isub hx hb dX9_farOf_103 ?_
        exact zret_i hx hb hr hlocks hf hP hS dX9_farOf_104
      · have hf := (if_neg c36).symm.trans hf
        refine lv_aload_n hx hb dX9_farOf_39 rfl (lv_at hl 0 rfl) ?_
        refine lv_iload_n hx hb dX9_farOf_40 rfl (lv_at hl 1 rfl) ?_
        refine lv_iload_n hx hb dX9_farOf_41 rfl (lv_at hl 3 rfl) ?_
        refine lv_iload hx hb dX9_farOf_42 (lv_at hl 4 rfl) ?_
        obtain ⟨u44, t44, hf⟩ := zb hf
        obtain ⟨r44, e44, hf⟩ := zb hf
        refine zc_i hS (va_runV (As := [.int x1, .int x3, .int x4]) (rest := []) ⟨hx, hb, hml, hown, hts⟩ (k_X9_matching l D cy b M h0 x1 x3 x4 r44 e44) (cwV 3 hts gX9_farOf_X9_matching rfl rfl rfl (by decide +kernel) ⟨Nat.le_of_ble_eq_true rfl, Nat.le_of_ble_eq_true rfl⟩) (zp_V _ hK hP t44 (T := TX9) (N := 54) rfl (by decide)) rfl rfl hl.1 rfl (lv_room (Nat.le_of_ble_eq_true rfl)) dX9_farOf_44 ⟨Nat.zero_le _, Nat.zero_le _⟩) (fun H locs hP hS => ?_)
        refine lv_istore (lv' := [(5, .int r44.1), (0, .ref (b + h0)), (1, .int x1), (2, .int x2), (3, .int x3), (4, .int x4)]) hx hb dX9_farOf_47 hl (by decide) rfl (fun ls hl => ?_)
        obtain ⟨x4_49, q49, hf⟩ := zlt_s hf
        refine lv_iinc (v := x4_49) (lv' := [(4, .int x4_49), (5, .int r44.1), (0, .ref (b + h0)), (1, .int x1), (2, .int x2), (3, .int x3)]) hx hb dX9_farOf_49 hl (k := 5) rfl (by rw [← q49]; rfl) (by decide) rfl (fun ls hl => ?_)
        refine lv_iload hx hb dX9_farOf_52 (lv_at hl 1 rfl) ?_
        refine lv_if_ne (tgt := 62) hx hb dX9_farOf_54 (by decide) (fun c54 => ?_) (fun c54 => ?_)
        · have hf := (if_neg c54).symm.trans hf
          refine lv_aload_n hx hb dX9_farOf_62 rfl (lv_at hl 2 rfl) ?_
          refine lv_iload_n hx hb dX9_farOf_63 rfl (lv_at hl 3 rfl) ?_
          refine lv_iload hx hb dX9_farOf_64 (lv_at hl 1 rfl) ?_
          obtain ⟨u66, t66, hf⟩ := zb hf
          obtain ⟨r66, e66, hf⟩ := zb hf
          refine zc_i hS (va_runV (As := [.int x1, .int r44.1]) (rest := []) ⟨hx, hb, hml, hown, hts⟩ (k_X9_behind l D cy b r44.2 h0 x1 r44.1 r66 e66) (cwV 2 hts gX9_farOf_X9_behind rfl rfl rfl (by decide +kernel) ⟨Nat.le_of_ble_eq_true rfl, Nat.le_of_ble_eq_true rfl⟩) (zp_V _ hK hP t66 (T := TX9) (N := 54) rfl (by decide)) rfl rfl hl.1 rfl (lv_room (Nat.le_of_ble_eq_true rfl)) dX9_farOf_66 ⟨Nat.zero_le _, Nat.zero_le _⟩) (fun H locs hP hS => ?_)
          refine lv_iload hx hb dX9_farOf_69 (lv_at hl 1 rfl) ?_
          refine lv_aload_n hx hb dX9_farOf_71 rfl (lv_at hl 2 rfl) ?_
          obtain ⟨v72, e72, hf⟩ := zb hf
          refine zr_gr (ci := 9) (k := 27) (C := RX9) (T := TX9) (N := 54) hx hb hts hi_X9_farOf_9 hown hK hP e72 rfl rfl (by decide) (by decide) (hts (.fieldLink RX9 66 "BoundaryAnalyzerModel" "bodyLast" "[I") (List.mem_of_getElem? (i := 5) rfl)) dX9_farOf_72 ?_
          refine lv_iload_n hx hb dX9_farOf_75 rfl (lv_at hl 3 rfl) ?_
          obtain ⟨v76, e76, hf⟩ := zb hf
          refine zr_ai hx hb hK hP e76 dX9_farOf_76 ?_
          refine lv_iand hx hb dX9_farOf_77 ?_
          refine lv_if_eq (tgt := 90) hx hb dX9_farOf_78 (by decide) (fun c78 => ?_) (fun c78 => ?_)
          · have hf := (if_pos c78).symm.trans hf
            refine lv_iconst (v := (0 : Int32)) hx hb dX9_farOf_90 (by decide) ?_
            exact J91 _ _ _ _ _ _ _ _ _ _ hf hP hS (lv_sub hl [2, 3, 4, 0] rfl)
          · have hf := (if_neg c78).symm.trans hf
            refine lv_aload_n hx hb dX9_farOf_81 rfl (lv_at hl 2 rfl) ?_
            obtain ⟨v82, e82, hf⟩ := zb hf
            refine zr_gr (ci := 9) (k := 29) (C := RX9) (T := TX9) (N := 54) hx hb hts hi_X9_farOf_9 hown hK hP e82 rfl rfl (by decide) (by decide) (hts (.fieldLink RX9 72 "BoundaryAnalyzerModel" "lookFirst" "[I") (List.mem_of_getElem? (i := 3) rfl)) dX9_farOf_82 ?_
            refine lv_iload_n hx hb dX9_farOf_85 rfl (lv_at hl 3 rfl) ?_
            obtain ⟨v86, e86, hf⟩ := zb hf
            refine zr_ai hx hb hK hP e86 dX9_farOf_86 ?_
            refine lv_goto (tgt := 91) hx hb dX9_farOf_87 (by decide) ?_
            exact J91 _ _ _ _ _ _ _ _ _ _ hf hP hS (lv_sub hl [2, 3, 4, 0] rfl)
        · have hf := (if_pos c54).symm.trans hf
          refine lv_iload hx hb dX9_farOf_57 (lv_at hl 0 rfl) ?_
          refine lv_iload_n hx hb dX9_farOf_59 rfl (lv_at hl 4 rfl) ?_
          refine lv_isub hx hb dX9_farOf_60 ?_
          exact zret_i hx hb hr hlocks hf hP hS dX9_farOf_61
  have J25 : ∀ (M : Mem) (H : Heap) (locs : List Loc) (ls : Array Slot) (h0 : Nat) (x1 : Int32) (x2 : Int32) (y0 : Int32) (y1 : Int32), fX9_farOf_25  M h0 x1 x2 y0 y1 = some rr → zH D cy b M H → va_S (zA b) s.heap H locs → lv_has ls 6 [(0, .ref (b + h0)), (1, .int x1), (2, .int x2)] → W p l e (headSpec wsX9_farOf ({ frames := 1, cells := 0, slots := 0, locals := 27 } : Room)).room s m ([.ref (b + h0), .int x1, .int x2] : List Value).toArray below meth c H locs 0 0 (MQ below (zQi D cy b rr) ([.ref (b + h0), .int x1, .int x2] : List Value).toArray s 0 0 (zA b)) (F0 m 25 ls [.int y1, .int y0]) := by
    intro M H locs ls h0 x1 x2 y0 y1 hf hP hS hl
    unfold fX9_farOf_25 at hf
    refine lv_ior hx hb dX9_farOf_25 ?_
    obtain ⟨x3_26, q26, hf⟩ := zlt_s hf
    refine zt q26 ?_
    refine lv_istore_n (lv' := [(3, .int x3_26), (0, .ref (b + h0)), (1, .int x1), (2, .int x2)]) hx hb dX9_farOf_26 rfl hl (by decide) rfl (fun ls hl => ?_)
    refine lv_iload_n hx hb dX9_farOf_27 rfl (lv_at hl 3 rfl) ?_
    refine lv_istore (lv' := [(4, .int x2), (3, .int x3_26), (0, .ref (b + h0)), (1, .int x1), (2, .int x2)]) hx hb dX9_farOf_28 hl (by decide) rfl (fun ls hl => ?_)
    exact L30 _ _ _ _ _ _ _ _ _ _ hf hP hS (lv_sub hl [2, 3, 4, 1, 0] rfl)
  unfold fX9_farOf at hf
  refine lv_aload_n hx hb dX9_farOf_0 rfl (lv_at hl 0 rfl) ?_
  obtain ⟨v1, e1, hf⟩ := zb hf
  refine zr_gr (ci := 9) (k := 26) (C := RX9) (T := TX9) (N := 54) hx hb hts hi_X9_farOf_9 hown hK hP e1 rfl rfl (by decide) (by decide) (hts (.fieldLink RX9 63 "BoundaryAnalyzerModel" "bodyFirst" "[I") (List.mem_of_getElem? (i := 1) rfl)) dX9_farOf_1 ?_
  refine lv_iload_n hx hb dX9_farOf_4 rfl (lv_at hl 1 rfl) ?_
  obtain ⟨v5, e5, hf⟩ := zb hf
  refine zr_ai hx hb hK hP e5 dX9_farOf_5 ?_
  refine lv_aload_n hx hb dX9_farOf_6 rfl (lv_at hl 0 rfl) ?_
  obtain ⟨v7, e7, hf⟩ := zb hf
  refine zr_gr (ci := 9) (k := 25) (C := RX9) (T := TX9) (N := 54) hx hb hts hi_X9_farOf_9 hown hK hP e7 rfl rfl (by decide) (by decide) (hts (.fieldLink RX9 60 "BoundaryAnalyzerModel" "bodyNull" "[Z") (List.mem_of_getElem? (i := 2) rfl)) dX9_farOf_7 ?_
  refine lv_iload_n hx hb dX9_farOf_10 rfl (lv_at hl 1 rfl) ?_
  obtain ⟨v11, e11, hf⟩ := zb hf
  refine zr_az hx hb hK hP e11 dX9_farOf_11 ?_
  refine lv_if_eq (tgt := 24) hx hb dX9_farOf_12 (by decide) (fun c12 => ?_) (fun c12 => ?_)
  · have hf := (if_pos c12).symm.trans hf
    refine lv_iconst (v := (0 : Int32)) hx hb dX9_farOf_24 (by decide) ?_
    exact J25 _ _ _ _ _ _ _ _ _ hf hP hS (lv_sub hl [0, 1, 2] rfl)
  · have hf := (if_neg c12).symm.trans hf
    refine lv_aload_n hx hb dX9_farOf_15 rfl (lv_at hl 0 rfl) ?_
    obtain ⟨v16, e16, hf⟩ := zb hf
    refine zr_gr (ci := 9) (k := 29) (C := RX9) (T := TX9) (N := 54) hx hb hts hi_X9_farOf_9 hown hK hP e16 rfl rfl (by decide) (by decide) (hts (.fieldLink RX9 72 "BoundaryAnalyzerModel" "lookFirst" "[I") (List.mem_of_getElem? (i := 3) rfl)) dX9_farOf_16 ?_
    refine lv_iload_n hx hb dX9_farOf_19 rfl (lv_at hl 1 rfl) ?_
    obtain ⟨v20, e20, hf⟩ := zb hf
    refine zr_ai hx hb hK hP e20 dX9_farOf_20 ?_
    refine lv_goto (tgt := 25) hx hb dX9_farOf_21 (by decide) ?_
    exact J25 _ _ _ _ _ _ _ _ _ hf hP hS (lv_sub hl [0, 1, 2] rfl)
theorem hi_X9_looksFrom_9 : ∀ w ∈ wsX90, w ∈ wsX9_looksFrom := fun _ h => List.mem_cons_of_mem _ (List.mem_append_right _ h)
set_option maxHeartbeats 4000000 in
set_option maxRecDepth 100000 in
theorem k_X9_looksFrom (l : Launch) (D : va_G) (cy : Nat → ClassId) (b : Nat) (M0 : Mem) (h0 : Nat) (x1 : Int32) (x2 : Int32) (rr : Int32 × Mem) (hf : fX9_looksFrom M0 h0 x1 x2 = some rr) : Met l yX9_looksFrom wsX9_looksFrom ({ frames := 2, cells := 0, slots := 0, locals := 52 } : Room) (zPc D cy b M0 [.ref (b + h0), .int x1, .int x2]) (zQi D cy b rr) 0 0 (zA b) := by
  refine Met.ofW (cc := cX9_looksFrom) (maxL := 6) (ret := (some .int)) (by decide) rfl ?_
  intro p e s m args below meth c s₁ B hml hv
  obtain ⟨rfl, hP, hK⟩ := hv
  have hx := B.exec
  have hb := B.bytes
  have hr := B.returns
  have hts := atoms_spec (ws := wsX9_looksFrom) B.pre
  have hown : s.vm.findClass RX9 = some m.cls := findClass_of_methodNamed B.named
  have hlocks := B.notSynchronized
  have hS : va_S (zA b) s.heap s.heap [] := va_S.rf
  have hl := lv_entry ([.ref (b + h0), .int x1, .int x2]) (n := 6) (Nat.le_of_ble_eq_true rfl)
  rw [lg_entry_eq]
  generalize (lg_sl ([.ref (b + h0), .int x1, .int x2]) ++ List.replicate (6 - (lg_sl ([.ref (b + h0), .int x1, .int x2])).length) Slot.unset).toArray = ls at hl ⊢
  have hl : lv_has ls 6 [(0, .ref (b + h0)), (1, .int x1), (2, .int x2)] := hl
  have L7 : ∀ (n7 : Nat) (M : Mem) (H : Heap) (locs : List Loc) (ls : Array Slot) (h0 : Nat) (x1 : Int32) (x2 : Int32) (x3 : Int32) (x4 : Int32), fX9_looksFrom_7L  n7 M h0 x1 x2 x3 x4 = some rr → zH D cy b M H → va_S (zA b) s.heap H locs → lv_has ls 6 [(0, .ref (b + h0)), (1, .int x1), (2, .int x2), (3, .int x3), (4, .int x4)] → W p l e (headSpec wsX9_looksFrom ({ frames := 2, cells := 0, slots := 0, locals := 52 } : Room)).room s m ([.ref (b + h0), .int x1, .int x2] : List Value).toArray below meth c H locs 0 0 (MQ below (zQi D cy b rr) ([.ref (b + h0), .int x1, .int x2] : List Value).toArray s 0 0 (zA b)) (F0 m 7 ls []) := by
    intro n7
    induction n7 with
    | zero =>
      intro M H locs ls h0 x1 x2 x3 x4 hf
      have hf : (none : Option (Int32 × Mem)) = some rr := hf
      cases hf
    | succ n7 ih7 =>
      have J52 : ∀ (M : Mem) (H : Heap) (locs : List Loc) (ls : Array Slot) (h0 : Nat) (x1 : Int32) (x2 : Int32) (x4 : Int32) (y0 : Int32), fX9_looksFrom_52 (fX9_looksFrom_7L  n7) M h0 x1 x2 x4 y0 = some rr → zH D cy b M H → va_S (zA b) s.heap H locs → lv_has ls 6 [(0, .ref (b + h0)), (1, .int x1), (2, .int x2), (4, .int x4)] → W p l e (headSpec wsX9_looksFrom ({ frames := 2, cells := 0, slots := 0, locals := 52 } : Room)).room s m ([.ref (b + h0), .int x1, .int x2] : List Value).toArray below meth c H locs 0 0 (MQ below (zQi D cy b rr) ([.ref (b + h0), .int x1, .int x2] : List Value).toArray s 0 0 (zA b)) (F0 m 52 ls [.int y0]) := by
        intro M H locs ls h0 x1 x2 x4 y0 hf hP hS hl
        unfold fX9_looksFrom_52 at hf
        refine lv_istore_n (lv' := [(3, .int y0), (0, .ref (b + h0)), (1, .int x1), (2, .int x2), (4, .int x4)]) hx hb dX9_looksFrom_52 rfl hl (by decide) rfl (fun ls hl => ?_)
        obtain ⟨x4_53, q53, hf⟩ := zlt_s hf
        refine lv_iinc (v := x4_53) (lv' := [(4, .int x4_53), (3, .int y0), (0, .ref (b + h0)), (1, .int x1), (2, .int x2)]) hx hb dX9_looksFrom_53 hl (k := 4) rfl (by rw [← q53]; rfl) (by decide) rfl (fun ls hl => ?_)
        refine lv_goto (tgt := 7) hx hb dX9_looksFrom_56 (by decide) ?_
        exact ih7 _ _ _ _ _ _ _ _ _ hf hP hS (lv_sub hl [2, 3, 4, 1, 0] rfl)
      have J38 : ∀ (M : Mem) (H : Heap) (locs : List Loc) (ls : Array Slot) (h0 : Nat) (x1 : Int32) (x2 : Int32) (x3 : Int32) (x4 : Int32) (y0 : Int32), fX9_looksFrom_38 (fX9_looksFrom_7L  n7) M h0 x1 x2 x3 x4 y0 = some rr → zH D cy b M H → va_S (zA b) s.heap H locs → lv_has ls 6 [(0, .ref (b + h0)), (1, .int x1), (2, .int x2), (3, .int x3), (4, .int x4)] → W p l e (headSpec wsX9_looksFrom ({ frames := 2, cells := 0, slots := 0, locals := 52 } : Room)).room s m ([.ref (b + h0), .int x1, .int x2] : List Value).toArray below meth c H locs 0 0 (MQ below (zQi D cy b rr) ([.ref (b + h0), .int x1, .int x2] : List Value).toArray s 0 0 (zA b)) (F0 m 38 ls [.int y0]) := by
        intro M H locs ls h0 x1 x2 x3 x4 y0 hf hP hS hl
        unfold fX9_looksFrom_38 at hf
        refine lv_istore (lv' := [(5, .int y0), (0, .ref (b + h0)), (1, .int x1), (2, .int x2), (3, .int x3), (4, .int x4)]) hx hb dX9_looksFrom_38 hl (by decide) rfl (fun ls hl => ?_)
        refine lv_iload hx hb dX9_looksFrom_40 (lv_at hl 0 rfl) ?_
        refine lv_iload_n hx hb dX9_looksFrom_42 rfl (lv_at hl 4 rfl) ?_
        refine lv_icmp_le (tgt := 51) hx hb dX9_looksFrom_43 (by decide) (fun c43 => ?_) (fun c43 => ?_)
        · have hf := (if_pos c43).symm.trans hf
          refine lv_iload_n hx hb dX9_looksFrom_51 rfl (lv_at hl 4 rfl) ?_
          exact J52 _ _ _ _ _ _ _ _ _ hf hP hS (lv_sub hl [1, 2, 3, 5] rfl)
        · have hf := (if_neg c43).symm.trans hf
          refine lv_iload hx hb dX9_looksFrom_46 (lv_at hl 0 rfl) ?_
          refine lv_goto (tgt := 52) hx hb dX9_looksFrom_48 (by decide) ?_
          exact J52 _ _ _ _ _ _ _ _ _ hf hP hS (lv_sub hl [1, 2, 3, 5] rfl)
      intro M H locs ls h0 x1 x2 x3 x4 hf hP hS hl
      have hf : fX9_looksFrom_7  (fX9_looksFrom_7L  n7) M h0 x1 x2 x3 x4 = some rr := hf
      unfold fX9_looksFrom_7 at hf
      refine lv_iload hx hb dX9_looksFrom_7 (lv_at hl 4 rfl) ?_
      refine lv_iconst (v := (5 : Int32)) hx hb dX9_looksFrom_9 (by decide) ?_
      refine lv_iload_n hx hb dX9_looksFrom_10 rfl (lv_at hl 1 rfl) ?_
      refine lv_imul hx hb dX9_looksFrom_11 ?_
      refine lv_iconst (v := (5 : Int32)) hx hb dX9_looksFrom_12 (by decide) ?_
      refine lv_iadd hx hb dX9_looksFrom_13 ?_
      refine lv_icmp_ge (tgt := 59) hx hb dX9_looksFrom_14 (by decide) (fun c14 => ?_) (fun c14 => ?_)
      · have hf := (if_pos c14).symm.trans hf
        refine lv_iload_n hx hb dX9_looksFrom_59 rfl (lv_at hl 3 rfl) ?_
        exact zret_i hx hb hr hlocks hf hP hS dX9_looksFrom_60
      · have hf := (if_neg c14).symm.trans hf
        refine lv_aload_n hx hb dX9_looksFrom_17 rfl (lv_at hl 0 rfl) ?_
        obtain ⟨v18, e18, hf⟩ := zb hf
        refine zr_gr (ci := 9) (k := 20) (C := RX9) (T := TX9) (N := 54) hx hb hts hi_X9_looksFrom_9 hown hK hP e18 rfl rfl (by decide) (by decide) (hts (.fieldLink RX9 45 "BoundaryAnalyzerModel" "ruleLong" "[I") (List.mem_of_getElem? (i := 1) rfl)) dX9_looksFrom_18 ?_
        refine lv_iload hx hb dX9_looksFrom_21 (lv_at hl 4 rfl) ?_
        obtain ⟨v23, e23, hf⟩ := zb hf
        refine zr_ai hx hb hK hP e23 dX9_looksFrom_23 ?_
        refine lv_if_le (tgt := 37) hx hb dX9_looksFrom_24 (by decide) (fun c24 => ?_) (fun c24 => ?_)
        · have hf := (if_pos c24).symm.trans hf
          refine lv_iconst (v := (0 : Int32)) hx hb dX9_looksFrom_37 (by decide) ?_
          exact J38 _ _ _ _ _ _ _ _ _ _ hf hP hS (lv_sub hl [0, 1, 2, 3, 4] rfl)
        · have hf := (if_neg c24).symm.trans hf
          refine lv_aload_n hx hb dX9_looksFrom_27 rfl (lv_at hl 0 rfl) ?_
          refine lv_iload hx hb dX9_looksFrom_28 (lv_at hl 4 rfl) ?_
          refine lv_iload_n hx hb dX9_looksFrom_30 rfl (lv_at hl 2 rfl) ?_
          obtain ⟨u31, t31, hf⟩ := zb hf
          obtain ⟨r31, e31, hf⟩ := zb hf
          refine zc_i hS (va_runV (As := [.int x4, .int x2]) (rest := []) ⟨hx, hb, hml, hown, hts⟩ (k_X9_farOf l D cy b M h0 x4 x2 r31 e31) (cwV 2 hts gX9_looksFrom_X9_farOf rfl rfl rfl (by decide +kernel) ⟨Nat.le_of_ble_eq_true rfl, Nat.le_of_ble_eq_true rfl⟩) (zp_V _ hK hP t31 (T := TX9) (N := 54) rfl (by decide)) rfl rfl hl.1 rfl (lv_room (Nat.le_of_ble_eq_true rfl)) dX9_looksFrom_31 ⟨Nat.zero_le _, Nat.zero_le _⟩) (fun H locs hP hS => ?_)
          refine lv_goto (tgt := 38) hx hb dX9_looksFrom_34 (by decide) ?_
          exact J38 _ _ _ _ _ _ _ _ _ _ hf hP hS (lv_sub hl [0, 1, 2, 3, 4] rfl)
  unfold fX9_looksFrom at hf
  refine lv_iconst (v := (1 : Int32)) hx hb dX9_looksFrom_0 (by decide) ?_
  refine lv_istore_n (lv' := [(3, .int (1 : Int32)), (0, .ref (b + h0)), (1, .int x1), (2, .int x2)]) hx hb dX9_looksFrom_1 rfl hl (by decide) rfl (fun ls hl => ?_)
  refine lv_iconst (v := (5 : Int32)) hx hb dX9_looksFrom_2 (by decide) ?_
  refine lv_iload_n hx hb dX9_looksFrom_3 rfl (lv_at hl 2 rfl) ?_
  refine lv_imul hx hb dX9_looksFrom_4 ?_
  obtain ⟨x4_5, q5, hf⟩ := zlt_s hf
  refine zt q5 ?_
  refine lv_istore (lv' := [(4, .int x4_5), (3, .int (1 : Int32)), (0, .ref (b + h0)), (1, .int x1), (2, .int x2)]) hx hb dX9_looksFrom_5 hl (by decide) rfl (fun ls hl => ?_)
  exact L7 _ _ _ _ _ _ _ _ _ _ hf hP hS (lv_sub hl [2, 3, 4, 1, 0] rfl)
theorem hi_X9_looksAt_9 : ∀ w ∈ wsX90, w ∈ wsX9_looksAt := fun _ h => List.mem_cons_of_mem _ (List.mem_append_right _ h)
set_option maxHeartbeats 4000000 in
set_option maxRecDepth 100000 in
theorem k_X9_looksAt (l : Launch) (D : va_G) (cy : Nat → ClassId) (b : Nat) (M0 : Mem) (h0 : Nat) (x1 : Int32) (x2 : Int32) (rr : Int32 × Mem) (hf : fX9_looksAt M0 h0 x1 x2 = some rr) : Met l yX9_looksAt wsX9_looksAt ({ frames := 3, cells := 0, slots := 0, locals := 77 } : Room) (zPc D cy b M0 [.ref (b + h0), .int x1, .int x2]) (zQi D cy b rr) 0 0 (zA b) := by
  refine Met.ofW (cc := cX9_looksAt) (maxL := 3) (ret := (some .int)) (by decide) rfl ?_
  intro p e s m args below meth c s₁ B hml hv
  obtain ⟨rfl, hP, hK⟩ := hv
  have hx := B.exec
  have hb := B.bytes
  have hr := B.returns
  have hts := atoms_spec (ws := wsX9_looksAt) B.pre
  have hown : s.vm.findClass RX9 = some m.cls := findClass_of_methodNamed B.named
  have hlocks := B.notSynchronized
  have hS : va_S (zA b) s.heap s.heap [] := va_S.rf
  have hl := lv_entry ([.ref (b + h0), .int x1, .int x2]) (n := 3) (Nat.le_of_ble_eq_true rfl)
  rw [lg_entry_eq]
  generalize (lg_sl ([.ref (b + h0), .int x1, .int x2]) ++ List.replicate (3 - (lg_sl ([.ref (b + h0), .int x1, .int x2])).length) Slot.unset).toArray = ls at hl ⊢
  have hl : lv_has ls 3 [(0, .ref (b + h0)), (1, .int x1), (2, .int x2)] := hl
  unfold fX9_looksAt at hf
  refine lv_iload_n hx hb dX9_looksAt_0 rfl (lv_at hl 1 rfl) ?_
  obtain ⟨v1, e1, hf⟩ := zb hf
  refine zc_p (va_runS (As := [.int x1]) (rest := []) ⟨hx, hb, hml, hown, hts⟩ (k_X9_noKind l x1 v1 e1) (va_cwS 1 hts gX9_looksAt_X9_noKind rfl rfl rfl (by decide +kernel) ⟨Nat.le_of_ble_eq_true rfl, Nat.le_of_ble_eq_true rfl⟩) (zp_p _) rfl rfl hl.1 rfl (lv_room (Nat.le_of_ble_eq_true rfl)) dX9_looksAt_1 ⟨Nat.zero_le _, Nat.zero_le _⟩) ?_
  refine lv_if_eq (tgt := 10) hx hb dX9_looksAt_4 (by decide) (fun c4 => ?_) (fun c4 => ?_)
  · have hf := (if_pos c4).symm.trans hf
    refine lv_iload_n hx hb dX9_looksAt_10 rfl (lv_at hl 2 rfl) ?_
    refine lv_iconst (v := (0 : Int32)) hx hb dX9_looksAt_11 (by decide) ?_
    refine lv_aload_n hx hb dX9_looksAt_12 rfl (lv_at hl 0 rfl) ?_
    obtain ⟨v13, e13, hf⟩ := zb hf
    refine zr_gi (ci := 9) (k := 31) (C := RX9) (T := TX9) (N := 54) hx hb hts hi_X9_looksAt_9 hown hK hP e13 rfl rfl (by decide) (by decide) (hts (.fieldLink RX9 207 "BoundaryAnalyzerModel" "length" "I") (List.mem_of_getElem? (i := 1) rfl)) dX9_looksAt_13 ?_
    refine lv_iconst (v := (1 : Int32)) hx hb dX9_looksAt_16 (by decide) ?_
    refine lv_isub hx hb dX9_looksAt_17 ?_
    obtain ⟨v18, e18, hf⟩ := zb hf
    refine zc_p (va_runS (As := [.int x2, .int (0 : Int32), .int (v13 - (1 : Int32))]) (rest := []) ⟨hx, hb, hml, hown, hts⟩ (k_X9_in l x2 (0 : Int32) (v13 - (1 : Int32)) v18 e18) (va_cwS 3 hts gX9_looksAt_X9_in rfl rfl rfl (by decide +kernel) ⟨Nat.le_of_ble_eq_true rfl, Nat.le_of_ble_eq_true rfl⟩) (zp_p _) rfl rfl hl.1 rfl (lv_room (Nat.le_of_ble_eq_true rfl)) dX9_looksAt_18 ⟨Nat.zero_le _, Nat.zero_le _⟩) ?_
    refine lv_if_eq (tgt := 33) hx hb dX9_looksAt_21 (by decide) (fun c21 => ?_) (fun c21 => ?_)
    · have hf := (if_pos c21).symm.trans hf
      refine lv_iconst (v := (-1 : Int32)) hx hb dX9_looksAt_33 (by decide) ?_
      exact zret_i hx hb hr hlocks hf hP hS dX9_looksAt_34
    · have hf := (if_neg c21).symm.trans hf
      refine lv_aload_n hx hb dX9_looksAt_24 rfl (lv_at hl 0 rfl) ?_
      refine lv_iload_n hx hb dX9_looksAt_25 rfl (lv_at hl 1 rfl) ?_
      refine lv_iload_n hx hb dX9_looksAt_26 rfl (lv_at hl 2 rfl) ?_
      obtain ⟨u27, t27, hf⟩ := zb hf
      obtain ⟨r27, e27, hf⟩ := zb hf
      refine zc_i hS (va_runV (As := [.int x1, .int x2]) (rest := []) ⟨hx, hb, hml, hown, hts⟩ (k_X9_looksFrom l D cy b M0 h0 x1 x2 r27 e27) (cwV 2 hts gX9_looksAt_X9_looksFrom rfl rfl rfl (by decide +kernel) ⟨Nat.le_of_ble_eq_true rfl, Nat.le_of_ble_eq_true rfl⟩) (zp_V _ hK hP t27 (T := TX9) (N := 54) rfl (by decide)) rfl rfl hl.1 rfl (lv_room (Nat.le_of_ble_eq_true rfl)) dX9_looksAt_27 ⟨Nat.zero_le _, Nat.zero_le _⟩) (fun H locs hP hS => ?_)
      refine lv_goto (tgt := 34) hx hb dX9_looksAt_30 (by decide) ?_
      exact zret_i hx hb hr hlocks hf hP hS dX9_looksAt_34
  · have hf := (if_neg c4).symm.trans hf
    refine lv_bipush (v := (-2 : Int32)) hx hb dX9_looksAt_7 (by decide) ?_
    exact zret_i hx hb hr hlocks hf hP hS dX9_looksAt_9
theorem hi_X9_raw_9 : ∀ w ∈ wsX90, w ∈ wsX9_raw := fun _ h => List.mem_cons_of_mem _ (List.mem_append_right _ h)
set_option maxHeartbeats 4000000 in
set_option maxRecDepth 100000 in
theorem k_X9_raw (l : Launch) (D : va_G) (cy : Nat → ClassId) (b : Nat) (M0 : Mem) (h0 : Nat) (x1 : Int32) (x2 : Int32) (rr : Int32 × Mem) (hf : fX9_raw M0 h0 x1 x2 = some rr) : Met l yX9_raw wsX9_raw ({ frames := 0, cells := 0, slots := 0, locals := 0 } : Room) (zPc D cy b M0 [.ref (b + h0), .int x1, .int x2]) (zQi D cy b rr) 0 0 (zA b) := by
  refine Met.ofW (cc := cX9_raw) (maxL := 3) (ret := (some .int)) (by decide) rfl ?_
  intro p e s m args below meth c s₁ B hml hv
  obtain ⟨rfl, hP, hK⟩ := hv
  have hx := B.exec
  have hb := B.bytes
  have hr := B.returns
  have hts := atoms_spec (ws := wsX9_raw) B.pre
  have hown : s.vm.findClass RX9 = some m.cls := findClass_of_methodNamed B.named
  have hlocks := B.notSynchronized
  have hS : va_S (zA b) s.heap s.heap [] := va_S.rf
  have hl := lv_entry ([.ref (b + h0), .int x1, .int x2]) (n := 3) (Nat.le_of_ble_eq_true rfl)
  rw [lg_entry_eq]
  generalize (lg_sl ([.ref (b + h0), .int x1, .int x2]) ++ List.replicate (3 - (lg_sl ([.ref (b + h0), .int x1, .int x2])).length) Slot.unset).toArray = ls at hl ⊢
  have hl : lv_has ls 3 [(0, .ref (b + h0)), (1, .int x1), (2, .int x2)] := hl
  unfold fX9_raw at hf
  refine lv_aload_n hx hb dX9_raw_0 rfl (lv_at hl 0 rfl) ?_
  obtain ⟨v1, e1, hf⟩ := zb hf
  refine zr_gr (ci := 9) (k := 34) (C := RX9) (T := TX9) (N := 54) hx hb hts hi_X9_raw_9 hown hK hP e1 rfl rfl (by decide) (by decide) (hts (.fieldLink RX9 84 "BoundaryAnalyzerModel" "rawAt" "[I") (List.mem_of_getElem? (i := 1) rfl)) dX9_raw_1 ?_
  refine lv_bipush (v := (101 : Int32)) hx hb dX9_raw_4 (by decide) ?_
  refine lv_iload_n hx hb dX9_raw_6 rfl (lv_at hl 1 rfl) ?_
  refine lv_imul hx hb dX9_raw_7 ?_
  refine lv_iload_n hx hb dX9_raw_8 rfl (lv_at hl 2 rfl) ?_
  refine lv_iadd hx hb dX9_raw_9 ?_
  obtain ⟨v10, e10, hf⟩ := zb hf
  refine zr_ai hx hb hK hP e10 dX9_raw_10 ?_
  exact zret_i hx hb hr hlocks hf hP hS dX9_raw_11
set_option maxHeartbeats 4000000 in
set_option maxRecDepth 100000 in
theorem k_X9_wasRaw (l : Launch) (D : va_G) (cy : Nat → ClassId) (b : Nat) (M0 : Mem) (h0 : Nat) (h1 : Nat) (x2 : Int32) (x3 : Int32) (rr : Int32 × Mem) (hf : fX9_wasRaw M0 h0 h1 x2 x3 = some rr) : Met l yX9_wasRaw wsX9_wasRaw ({ frames := 0, cells := 0, slots := 0, locals := 0 } : Room) (zPc D cy b M0 [.ref (b + h0), .ref (b + h1), .int x2, .int x3]) (zQi D cy b rr) 0 0 (zA b) := by
  refine Met.ofW (cc := cX9_wasRaw) (maxL := 5) (ret := (some .boolean)) (by decide) rfl ?_
  intro p e s m args below meth c s₁ B hml hv
  obtain ⟨rfl, hP, hK⟩ := hv
  have hx := B.exec
  have hb := B.bytes
  have hr := B.returns
  have hts := atoms_spec (ws := wsX9_wasRaw) B.pre
  have hown : s.vm.findClass RX9 = some m.cls := findClass_of_methodNamed B.named
  have hlocks := B.notSynchronized
  have hS : va_S (zA b) s.heap s.heap [] := va_S.rf
  have hl := lv_entry ([.ref (b + h0), .ref (b + h1), .int x2, .int x3]) (n := 5) (Nat.le_of_ble_eq_true rfl)
  rw [lg_entry_eq]
  generalize (lg_sl ([.ref (b + h0), .ref (b + h1), .int x2, .int x3]) ++ List.replicate (5 - (lg_sl ([.ref (b + h0), .ref (b + h1), .int x2, .int x3])).length) Slot.unset).toArray = ls at hl ⊢
  have hl : lv_has ls 5 [(0, .ref (b + h0)), (1, .ref (b + h1)), (2, .int x2), (3, .int x3)] := hl
  have L3 : ∀ (n3 : Nat) (M : Mem) (H : Heap) (locs : List Loc) (ls : Array Slot) (h1 : Nat) (x2 : Int32) (x3 : Int32) (x4 : Int32), fX9_wasRaw_3L  n3 M h1 x2 x3 x4 = some rr → zH D cy b M H → va_S (zA b) s.heap H locs → lv_has ls 5 [(1, .ref (b + h1)), (2, .int x2), (3, .int x3), (4, .int x4)] → W p l e (headSpec wsX9_wasRaw ({ frames := 0, cells := 0, slots := 0, locals := 0 } : Room)).room s m ([.ref (b + h0), .ref (b + h1), .int x2, .int x3] : List Value).toArray below meth c H locs 0 0 (MQ below (zQi D cy b rr) ([.ref (b + h0), .ref (b + h1), .int x2, .int x3] : List Value).toArray s 0 0 (zA b)) (F0 m 3 ls []) := by
    intro n3
    induction n3 with
    | zero =>
      intro M H locs ls h1 x2 x3 x4 hf
      have hf : (none : Option (Int32 × Mem)) = some rr := hf
      cases hf
    | succ n3 ih3 =>
      intro M H locs ls h1 x2 x3 x4 hf hP hS hl
      have hf : fX9_wasRaw_3  (fX9_wasRaw_3L  n3) M h1 x2 x3 x4 = some rr := hf
      unfold fX9_wasRaw_3 at hf
      refine lv_iload hx hb dX9_wasRaw_3 (lv_at hl 3 rfl) ?_
      refine lv_iload_n hx hb dX9_wasRaw_5 rfl (lv_at hl 1 rfl) ?_
      refine lv_icmp_ge (tgt := 25) hx hb dX9_wasRaw_6 (by decide) (fun c6 => ?_) (fun c6 => ?_)
      · have hf := (if_pos c6).symm.trans hf
        refine lv_iconst (v := (0 : Int32)) hx hb dX9_wasRaw_25 (by decide) ?_
        exact zret_z hx hb hr (Or.inl rfl) hlocks hf hP hS dX9_wasRaw_26
      · have hf := (if_neg c6).symm.trans hf
        refine lv_aload_n hx hb dX9_wasRaw_9 rfl (lv_at hl 0 rfl) ?_
        refine lv_iload hx hb dX9_wasRaw_10 (lv_at hl 3 rfl) ?_
        obtain ⟨v12, e12, hf⟩ := zb hf
        refine zr_ai hx hb hK hP e12 dX9_wasRaw_12 ?_
        refine lv_iload_n hx hb dX9_wasRaw_13 rfl (lv_at hl 2 rfl) ?_
        refine lv_icmp_ne (tgt := 19) hx hb dX9_wasRaw_14 (by decide) (fun c14 => ?_) (fun c14 => ?_)
        · have hf := (if_neg c14).symm.trans hf
          obtain ⟨x4_19, q19, hf⟩ := zlt_s hf
          refine lv_iinc (v := x4_19) (lv' := [(4, .int x4_19), (1, .ref (b + h1)), (2, .int x2), (3, .int x3)]) hx hb dX9_wasRaw_19 hl (k := 3) rfl (by rw [← q19]; rfl) (by decide) rfl (fun ls hl => ?_)
          refine lv_goto (tgt := 3) hx hb dX9_wasRaw_22 (by decide) ?_
          exact ih3 _ _ _ _ _ _ _ _ hf hP hS (lv_sub hl [1, 2, 3, 0] rfl)
        · have hf := (if_pos c14).symm.trans hf
          refine lv_iconst (v := (1 : Int32)) hx hb dX9_wasRaw_17 (by decide) ?_
          exact zret_z hx hb hr (Or.inl rfl) hlocks hf hP hS dX9_wasRaw_18
  unfold fX9_wasRaw at hf
  refine lv_iconst (v := (0 : Int32)) hx hb dX9_wasRaw_0 (by decide) ?_
  refine lv_istore (lv' := [(4, .int (0 : Int32)), (0, .ref (b + h0)), (1, .ref (b + h1)), (2, .int x2), (3, .int x3)]) hx hb dX9_wasRaw_1 hl (by decide) rfl (fun ls hl => ?_)
  exact L3 _ _ _ _ _ _ _ _ _ hf hP hS (lv_sub hl [2, 3, 4, 0] rfl)
theorem hi_X9_findStarts_9 : ∀ w ∈ wsX90, w ∈ wsX9_findStarts := fun _ h => List.mem_cons_of_mem _ (List.mem_append_right _ h)
set_option maxHeartbeats 4000000 in
set_option maxRecDepth 100000 in
theorem k_X9_findStarts (l : Launch) (D : va_G) (cy : Nat → ClassId) (b : Nat) (M0 : Mem) (h0 : Nat) (x1 : Int32) (rr : Mem) (hf : fX9_findStarts M0 h0 x1 = some rr) : Met l yX9_findStarts wsX9_findStarts ({ frames := 3, cells := 0, slots := 0, locals := 77 } : Room) (zPc D cy b M0 [.ref (b + h0), .int x1]) (zQv D cy b rr) 0 0 (zA b) := by
  refine Met.ofW (cc := cX9_findStarts) (maxL := 4) (ret := none) (by decide) rfl ?_
  intro p e s m args below meth c s₁ B hml hv
  obtain ⟨rfl, hP, hK⟩ := hv
  have hx := B.exec
  have hb := B.bytes
  have hr := B.returns
  have hts := atoms_spec (ws := wsX9_findStarts) B.pre
  have hown : s.vm.findClass RX9 = some m.cls := findClass_of_methodNamed B.named
  have hlocks := B.notSynchronized
  have hS : va_S (zA b) s.heap s.heap [] := va_S.rf
  have hl := lv_entry ([.ref (b + h0), .int x1]) (n := 4) (Nat.le_of_ble_eq_true rfl)
  rw [lg_entry_eq]
  generalize (lg_sl ([.ref (b + h0), .int x1]) ++ List.replicate (4 - (lg_sl ([.ref (b + h0), .int x1])).length) Slot.unset).toArray = ls at hl ⊢
  have hl : lv_has ls 4 [(0, .ref (b + h0)), (1, .int x1)] := hl
  have L2 : ∀ (n2 : Nat) (M : Mem) (H : Heap) (locs : List Loc) (ls : Array Slot) (h0 : Nat) (x1 : Int32) (x2 : Int32), fX9_findStarts_2L  n2 M h0 x1 x2 = some rr → zH D cy b M H → va_S (zA b) s.heap H locs → lv_has ls 4 [(0, .ref (b + h0)), (1, .int x1), (2, .int x2)] → W p l e (headSpec wsX9_findStarts ({ frames := 3, cells := 0, slots := 0, locals := 77 } : Room)).room s m ([.ref (b + h0), .int x1] : List Value).toArray below meth c H locs 0 0 (MQ below (zQv D cy b rr) ([.ref (b + h0), .int x1] : List Value).toArray s 0 0 (zA b)) (F0 m 2 ls []) := by
    intro n2
    induction n2 with
    | zero =>
      intro M H locs ls h0 x1 x2 hf
      have hf : (none : Option Mem) = some rr := hf
      cases hf
    | succ n2 ih2 =>
      have J49 : ∀ (M : Mem) (H : Heap) (locs : List Loc) (ls : Array Slot) (h0 : Nat) (x1 : Int32) (x2 : Int32) (x3 : Int32), fX9_findStarts_49 (fX9_findStarts_2L  n2) M h0 x1 x2 x3 = some rr → zH D cy b M H → va_S (zA b) s.heap H locs → lv_has ls 4 [(0, .ref (b + h0)), (1, .int x1), (2, .int x2), (3, .int x3)] → W p l e (headSpec wsX9_findStarts ({ frames := 3, cells := 0, slots := 0, locals := 77 } : Room)).room s m ([.ref (b + h0), .int x1] : List Value).toArray below meth c H locs 0 0 (MQ below (zQv D cy b rr) ([.ref (b + h0), .int x1] : List Value).toArray s 0 0 (zA b)) (F0 m 49 ls []) := by
        intro M H locs ls h0 x1 x2 x3 hf hP hS hl
        unfold fX9_findStarts_49 at hf
        refine lv_aload_n hx hb dX9_findStarts_49 rfl (lv_at hl 0 rfl) ?_
        obtain ⟨v50, e50, hf⟩ := zb hf
        refine zr_gr (ci := 9) (k := 36) (C := RX9) (T := TX9) (N := 54) hx hb hts hi_X9_findStarts_9 hown hK hP e50 rfl rfl (by decide) (by decide) (hts (.fieldLink RX9 90 "BoundaryAnalyzerModel" "startOf" "[I") (List.mem_of_getElem? (i := 2) rfl)) dX9_findStarts_50 ?_
        refine lv_iload_n hx hb dX9_findStarts_53 rfl (lv_at hl 2 rfl) ?_
        refine lv_iload_n hx hb dX9_findStarts_54 rfl (lv_at hl 3 rfl) ?_
        obtain ⟨M55, e55, hf⟩ := zb hf
        refine zr_si hx hb hK hP hS e55 dX9_findStarts_55 (fun H locs hP _ hS => ?_)
        obtain ⟨x2_56, q56, hf⟩ := zlt_s hf
        refine lv_iinc (v := x2_56) (lv' := [(2, .int x2_56), (0, .ref (b + h0)), (1, .int x1), (3, .int x3)]) hx hb dX9_findStarts_56 hl (k := 2) rfl (by rw [← q56]; rfl) (by decide) rfl (fun ls hl => ?_)
        refine lv_goto (tgt := 2) hx hb dX9_findStarts_59 (by decide) ?_
        exact ih2 _ _ _ _ _ _ _ hf hP hS (lv_sub hl [1, 2, 0] rfl)
      have L9 : ∀ (n9 : Nat) (M : Mem) (H : Heap) (locs : List Loc) (ls : Array Slot) (h0 : Nat) (x1 : Int32) (x2 : Int32) (x3 : Int32), fX9_findStarts_9L (fX9_findStarts_2L  n2) n9 M h0 x1 x2 x3 = some rr → zH D cy b M H → va_S (zA b) s.heap H locs → lv_has ls 4 [(0, .ref (b + h0)), (1, .int x1), (2, .int x2), (3, .int x3)] → W p l e (headSpec wsX9_findStarts ({ frames := 3, cells := 0, slots := 0, locals := 77 } : Room)).room s m ([.ref (b + h0), .int x1] : List Value).toArray below meth c H locs 0 0 (MQ below (zQv D cy b rr) ([.ref (b + h0), .int x1] : List Value).toArray s 0 0 (zA b)) (F0 m 9 ls []) := by
        intro n9
        induction n9 with
        | zero =>
          intro M H locs ls h0 x1 x2 x3 hf
          have hf : (none : Option Mem) = some rr := hf
          cases hf
        | succ n9 ih9 =>
          intro M H locs ls h0 x1 x2 x3 hf hP hS hl
          have hf : fX9_findStarts_9 (fX9_findStarts_2L  n2) (fX9_findStarts_9L (fX9_findStarts_2L  n2) n9) M h0 x1 x2 x3 = some rr := hf
          unfold fX9_findStarts_9 at hf
          refine lv_iload_n hx hb dX9_findStarts_9 rfl (lv_at hl 3 rfl) ?_
          refine lv_aload_n hx hb dX9_findStarts_10 rfl (lv_at hl 0 rfl) ?_
          obtain ⟨v11, e11, hf⟩ := zb hf
          refine zr_gr (ci := 9) (k := 33) (C := RX9) (T := TX9) (N := 54) hx hb hts hi_X9_findStarts_9 hown hK hP e11 rfl rfl (by decide) (by decide) (hts (.fieldLink RX9 81 "BoundaryAnalyzerModel" "rawMany" "[I") (List.mem_of_getElem? (i := 1) rfl)) dX9_findStarts_11 ?_
          refine lv_iload_n hx hb dX9_findStarts_14 rfl (lv_at hl 2 rfl) ?_
          obtain ⟨v15, e15, hf⟩ := zb hf
          refine zr_ai hx hb hK hP e15 dX9_findStarts_15 ?_
          refine lv_iconst (v := (1 : Int32)) hx hb dX9_findStarts_16 (by decide) ?_
          refine lv_isub hx hb dX9_findStarts_17 ?_
          refine lv_icmp_ge (tgt := 49) hx hb dX9_findStarts_18 (by decide) (fun c18 => ?_) (fun c18 => ?_)
          · have hf := (if_pos c18).symm.trans hf
            exact J49 _ _ _ _ _ _ _ _ hf hP hS (lv_sub hl [0, 1, 2, 3] rfl)
          · have hf := (if_neg c18).symm.trans hf
            refine lv_aload_n hx hb dX9_findStarts_21 rfl (lv_at hl 0 rfl) ?_
            refine lv_iload_n hx hb dX9_findStarts_22 rfl (lv_at hl 2 rfl) ?_
            refine lv_iload_n hx hb dX9_findStarts_23 rfl (lv_at hl 3 rfl) ?_
            obtain ⟨u24, t24, hf⟩ := zb hf
            obtain ⟨r24, e24, hf⟩ := zb hf
            refine zc_i hS (va_runV (As := [.int x2, .int x3]) (rest := []) ⟨hx, hb, hml, hown, hts⟩ (k_X9_raw l D cy b M h0 x2 x3 r24 e24) (cwV 2 hts gX9_findStarts_X9_raw rfl rfl rfl (by decide +kernel) ⟨Nat.le_of_ble_eq_true rfl, Nat.le_of_ble_eq_true rfl⟩) (zp_V _ hK hP t24 (T := TX9) (N := 54) rfl (by decide)) rfl rfl hl.1 rfl (lv_room (Nat.le_of_ble_eq_true rfl)) dX9_findStarts_24 ⟨Nat.zero_le _, Nat.zero_le _⟩) (fun H locs hP hS => ?_)
            refine lv_aload_n hx hb dX9_findStarts_27 rfl (lv_at hl 0 rfl) ?_
            refine lv_iload_n hx hb dX9_findStarts_28 rfl (lv_at hl 2 rfl) ?_
            refine lv_aload_n hx hb dX9_findStarts_29 rfl (lv_at hl 0 rfl) ?_
            refine lv_iload_n hx hb dX9_findStarts_30 rfl (lv_at hl 2 rfl) ?_
            refine lv_iload_n hx hb dX9_findStarts_31 rfl (lv_at hl 3 rfl) ?_
            obtain ⟨u32, t32, hf⟩ := zb hf
            obtain ⟨r32, e32, hf⟩ := zb hf
            refine zc_i hS (va_runV (As := [.int x2, .int x3]) (rest := [.int x2, .ref (b + h0), .int r24.1]) ⟨hx, hb, hml, hown, hts⟩ (k_X9_raw l D cy b r24.2 h0 x2 x3 r32 e32) (cwV 2 hts gX9_findStarts_X9_raw rfl rfl rfl (by decide +kernel) ⟨Nat.le_of_ble_eq_true rfl, Nat.le_of_ble_eq_true rfl⟩) (zp_V _ hK hP t32 (T := TX9) (N := 54) rfl (by decide)) rfl rfl hl.1 rfl (lv_room (Nat.le_of_ble_eq_true rfl)) dX9_findStarts_32 ⟨Nat.zero_le _, Nat.zero_le _⟩) (fun H locs hP hS => ?_)
            obtain ⟨u35, t35, hf⟩ := zb hf
            obtain ⟨r35, e35, hf⟩ := zb hf
            refine zc_i hS (va_runV (As := [.int x2, .int r32.1]) (rest := [.int r24.1]) ⟨hx, hb, hml, hown, hts⟩ (k_X9_looksFrom l D cy b r32.2 h0 x2 r32.1 r35 e35) (cwV 2 hts gX9_findStarts_X9_looksFrom rfl rfl rfl (by decide +kernel) ⟨Nat.le_of_ble_eq_true rfl, Nat.le_of_ble_eq_true rfl⟩) (zp_V _ hK hP t35 (T := TX9) (N := 54) rfl (by decide)) rfl rfl hl.1 rfl (lv_room (Nat.le_of_ble_eq_true rfl)) dX9_findStarts_35 ⟨Nat.zero_le _, Nat.zero_le _⟩) (fun H locs hP hS => ?_)
            refine lv_iadd hx hb dX9_findStarts_38 ?_
            refine lv_iload_n hx hb dX9_findStarts_39 rfl (lv_at hl 1 rfl) ?_
            refine lv_icmp_gt (tgt := 49) hx hb dX9_findStarts_40 (by decide) (fun c40 => ?_) (fun c40 => ?_)
            · have hf := (if_pos c40).symm.trans hf
              exact J49 _ _ _ _ _ _ _ _ hf hP hS (lv_sub hl [0, 1, 2, 3] rfl)
            · have hf := (if_neg c40).symm.trans hf
              obtain ⟨x3_43, q43, hf⟩ := zlt_s hf
              refine lv_iinc (v := x3_43) (lv' := [(3, .int x3_43), (0, .ref (b + h0)), (1, .int x1), (2, .int x2)]) hx hb dX9_findStarts_43 hl (k := 3) rfl (by rw [← q43]; rfl) (by decide) rfl (fun ls hl => ?_)
              refine lv_goto (tgt := 9) hx hb dX9_findStarts_46 (by decide) ?_
              exact ih9 _ _ _ _ _ _ _ _ hf hP hS (lv_sub hl [1, 2, 3, 0] rfl)
      intro M H locs ls h0 x1 x2 hf hP hS hl
      have hf : fX9_findStarts_2  (fX9_findStarts_2L  n2) M h0 x1 x2 = some rr := hf
      unfold fX9_findStarts_2 at hf
      refine lv_iload_n hx hb dX9_findStarts_2 rfl (lv_at hl 2 rfl) ?_
      refine lv_iconst (v := (3 : Int32)) hx hb dX9_findStarts_3 (by decide) ?_
      refine lv_icmp_ge (tgt := 62) hx hb dX9_findStarts_4 (by decide) (fun c4 => ?_) (fun c4 => ?_)
      · have hf := (if_pos c4).symm.trans hf
        exact zret_v hx hb hr hlocks hf hP hS dX9_findStarts_62
      · have hf := (if_neg c4).symm.trans hf
        refine lv_iconst (v := (0 : Int32)) hx hb dX9_findStarts_7 (by decide) ?_
        refine lv_istore_n (lv' := [(3, .int (0 : Int32)), (0, .ref (b + h0)), (1, .int x1), (2, .int x2)]) hx hb dX9_findStarts_8 rfl hl (by decide) rfl (fun ls hl => ?_)
        exact L9 _ _ _ _ _ _ _ _ _ hf hP hS (lv_sub hl [1, 2, 3, 0] rfl)
  unfold fX9_findStarts at hf
  refine lv_iconst (v := (0 : Int32)) hx hb dX9_findStarts_0 (by decide) ?_
  refine lv_istore_n (lv' := [(2, .int (0 : Int32)), (0, .ref (b + h0)), (1, .int x1)]) hx hb dX9_findStarts_1 rfl hl (by decide) rfl (fun ls hl => ?_)
  exact L2 _ _ _ _ _ _ _ _ hf hP hS (lv_sub hl [1, 2, 0] rfl)
