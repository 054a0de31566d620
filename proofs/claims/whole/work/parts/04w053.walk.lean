theorem hi_X9_farOf_9 : ∀ w ∈ wsX90, w ∈ wsX9_farOf := fun _ h => List.mem_cons_of_mem _ (List.mem_append_right _ h)
set_option maxHeartbeats 4000000 in
set_option maxRecDepth 100000 in
theorem k_X9_farOf (l : Launch) (D : va_G) (cy : Nat → ClassId) (b : Nat) (M0 : Mem) (p0 : Nat) (p1 : Int32) (p2 : Int32) (rr : Int32 × Mem) (hf : fX9_farOf M0 p0 p1 p2 = some rr) : Met l yX9_farOf wsX9_farOf ({ frames := 1, cells := 0, slots := 0, locals := 27 } : Room) (zPc D cy b M0 [.ref (b + p0), .int p1, .int p2]) (zQi D cy b rr) 0 0 (zA b) := by
  refine Met.ofW (cc := cX9_farOf) (maxL := 6) (ret := (some .int)) (by decide) rfl ?_
  intro p e s m args below meth c s₁ B hml hv
  obtain ⟨rfl, hP, hK⟩ := hv
  have hx := B.exec
  have hb := B.bytes
  have hr := B.returns
  have hts := atoms_spec (ws := wsX9_farOf) B.pre
  have hown : s.vm.findClass RX9 = some m.cls := findClass_of_methodNamed B.named
  have hlocks := B.notSynchronized
  have hS : va_S (zA b) s.heap s.heap [] := va_S.rf
  have hl := lv_entry ([.ref (b + p0), .int p1, .int p2]) (n := 6) (Nat.le_of_ble_eq_true rfl)
  rw [lg_entry_eq]
  generalize (lg_sl ([.ref (b + p0), .int p1, .int p2]) ++ List.replicate (6 - (lg_sl ([.ref (b + p0), .int p1, .int p2])).length) Slot.unset).toArray = ls at hl ⊢
  have hl : lv_has ls 6 [(0, .ref (b + p0)), (1, .int p1), (2, .int p2)] := hl
  have L30 : ∀ (n30 : Nat) (M : Mem) (H : Heap) (locs : List Loc) (ls : Array Slot) (h0 : Nat) (x1 : Int32) (x2 : Int32) (x3 : Int32) (x4 : Int32), fX9_farOf_30L  n30 M h0 x1 x2 x3 x4 = some rr → zH D cy b M H → va_S (zA b) s.heap H locs → lv_has ls 6 [(0, .ref (b + h0)), (1, .int x1), (2, .int x2), (3, .int x3), (4, .int x4)] → W p l e (headSpec wsX9_farOf ({ frames := 1, cells := 0, slots := 0, locals := 27 } : Room)).room s m ([.ref (b + p0), .int p1, .int p2] : List Value).toArray below meth c H locs 0 0 (MQ below (zQi D cy b rr) ([.ref (b + p0), .int p1, .int p2] : List Value).toArray s 0 0 (zA b)) (F0 m 30 ls []) := by
    intro n30
    induction n30 with
    | zero =>
      intro M H locs ls h0 x1 x2 x3 x4 hf
      have hf : (none : Option (Int32 × Mem)) = some rr := hf
      cases hf
    | succ n30 ih30 =>
      have J91 : ∀ (M : Mem) (H : Heap) (locs : List Loc) (ls : Array Slot) (h0 : Nat) (x1 : Int32) (x2 : Int32) (x4 : Int32) (y0 : Int32) (y1 : Int32), fX9_farOf_91 (fX9_farOf_30L  n30) M h0 x1 x2 x4 y0 y1 = some rr → zH D cy b M H → va_S (zA b) s.heap H locs → lv_has ls 6 [(0, .ref (b + h0)), (1, .int x1), (2, .int x2), (4, .int x4)] → W p l e (headSpec wsX9_farOf ({ frames := 1, cells := 0, slots := 0, locals := 27 } : Room)).room s m ([.ref (b + p0), .int p1, .int p2] : List Value).toArray below meth c H locs 0 0 (MQ below (zQi D cy b rr) ([.ref (b + p0), .int p1, .int p2] : List Value).toArray s 0 0 (zA b)) (F0 m 91 ls [.int y1, .int y0]) := by
        intro M H locs ls h0 x1 x2 x4 y0 y1 hf hP hS hl
        unfold fX9_farOf_91 at hf
        refine lv_ior hx hb dX9_farOf_91 ?_
        obtain ⟨x3_92, q92, hf⟩ := zlt_s hf
        refine zt q92 ?_
        refine lv_istore_n (lv' := [(3, .int x3_92), (0, .ref (b + h0)), (1, .int x1), (2, .int x2), (4, .int x4)]) hx hb dX9_farOf_92 rfl hl (by decide) rfl (fun ls hl => ?_)
        refine lv_goto (tgt := 30) hx hb dX9_farOf_93 (by decide) ?_
        exact ih30 _ _ _ _ _ _ _ _ _ hf hP hS (lv_sub hl [1, 2, 3, 0, 4] rfl)
      intro M H locs ls h0 x1 x2 x3 x4 hf hP hS hl
      have hf : fX9_farOf_30  (fX9_farOf_30L  n30) M h0 x1 x2 x3 x4 = some rr := hf
      unfold fX9_farOf_30 at hf
      refine lv_iload hx hb dX9_farOf_30 (lv_at hl 4 rfl) ?_
      refine lv_aload_n hx hb dX9_farOf_32 rfl (lv_at hl 0 rfl) ?_
      obtain ⟨v33, e33, hf⟩ := zb hf
      refine zr_gi (ci := 9) (k := 31) (C := RX9) (T := TX9) (N := 54) hx hb hts hi_X9_farOf_9 hown hK hP e33 rfl rfl (by decide) (by decide) (hts (.fieldLink RX9 207 "BoundaryAnalyzerModel" "length" "I") (List.mem_of_getElem? (i := 4) rfl)) dX9_farOf_33 ?_
      refine lv_icmp_ge (tgt := 96) hx hb dX9_farOf_36 (by decide) (fun c36 => ?_) (fun c36 => ?_)
      · have hf := (if_pos c36).symm.trans hf
        refine lv_aload_n hx hb dX9_farOf_96 rfl (lv_at hl 0 rfl) ?_
        obtain ⟨v97, e97, hf⟩ := zb hf
        refine zr_gi (ci := 9) (k := 31) (C := RX9) (T := TX9) (N := 54) hx hb hts hi_X9_farOf_9 hown hK hP e97 rfl rfl (by decide) (by decide) (hts (.fieldLink RX9 207 "BoundaryAnalyzerModel" "length" "I") (List.mem_of_getElem? (i := 4) rfl)) dX9_farOf_97 ?_
        refine lv_iconst (v := (1 : Int32)) hx hb dX9_farOf_100 (by decide) ?_
        refine lv_iadd hx hb dX9_farOf_101 ?_
        refine lv_iload_n hx hb dX9_farOf_102 rfl (lv_at hl 2 rfl) ?_
        refine lv_isub hx hb dX9_farOf_103 ?_
        exact zret_i hx hb hr hlocks hf hP hS dX9_farOf_104
      · have hf := (if_neg c36).symm.trans hf
        refine lv_aload_n hx hb dX9_farOf_39 rfl (lv_at hl 0 rfl) ?_
        refine lv_iload_n hx hb dX9_farOf_40 rfl (lv_at hl 1 rfl) ?_
        refine lv_iload_n hx hb dX9_farOf_41 rfl (lv_at hl 3 rfl) ?_
        refine lv_iload hx hb dX9_farOf_42 (lv_at hl 4 rfl) ?_
        obtain ⟨u44, t44, hf⟩ := zb hf
        obtain ⟨r44, e44, hf⟩ := zb hf
        refine zc_i hS (va_runV (As := [.int x1, .int x3, .int x4]) (rest := []) ⟨hx, hb, hml, hown, hts⟩ (k_X9_matching l D cy b M h0 x1 x3 x4 r44 e44) (cwV 3 hts gX9_farOf_X9_matching rfl rfl rfl (by decide +kernel) ⟨Nat.le_of_ble_eq_true rfl, Nat.le_of_ble_eq_true rfl⟩) (zp_V _ hK hP t44 (T := TX9) (N := 54) rfl (by decide)) rfl rfl hl.1 rfl (lv_room (Nat.le_of_ble_eq_true rfl)) dX9_farOf_44 ⟨Nat.zero_le _, Nat.zero_le _⟩) (fun H locs hP hS => ?_)
        refine lv_istore (lv' := [(5, .int r44.1), (0, .ref (b + h0)), (1, .int x1), (2, .int x2), (3, .int x3), (4, .int x4)]) hx hb dX9_farOf_47 hl (by decide) rfl (fun ls hl => ?_)
        obtain ⟨x4_49, q49, hf⟩ := zlt_s hf
        refine lv_iinc (v := x4_49) (lv' := [(4, .int x4_49), (5, .int r44.1), (0, .ref (b + h0)), (1, .int x1), (2, .int x2), (3, .int x3)]) hx hb dX9_farOf_49 hl (k := 5) rfl (by rw [← q49]; rfl) (by decide) rfl (fun ls hl => ?_)
        refine lv_iload hx hb dX9_farOf_52 (lv_at hl 1 rfl) ?_
        refine lv_if_ne (tgt := 62) hx hb dX9_farOf_54 (by decide) (fun c54 => ?_) (fun c54 => ?_)
        · have hf := (if_neg c54).symm.trans hf
          refine lv_aload_n hx hb dX9_farOf_62 rfl (lv_at hl 2 rfl) ?_
          refine lv_iload_n hx hb dX9_farOf_63 rfl (lv_at hl 3 rfl) ?_
          refine lv_iload hx hb dX9_farOf_64 (lv_at hl 1 rfl) ?_
          obtain ⟨u66, t66, hf⟩ := zb hf
          obtain ⟨r66, e66, hf⟩ := zb hf
          refine zc_i hS (va_runV (As := [.int x1, .int r44.1]) (rest := []) ⟨hx, hb, hml, hown, hts⟩ (k_X9_behind l D cy b r44.2 h0 x1 r44.1 r66 e66) (cwV 2 hts gX9_farOf_X9_behind rfl rfl rfl (by decide +kernel) ⟨Nat.le_of_ble_eq_true rfl, Nat.le_of_ble_eq_true rfl⟩) (zp_V _ hK hP t66 (T := TX9) (N := 54) rfl (by decide)) rfl rfl hl.1 rfl (lv_room (Nat.le_of_ble_eq_true rfl)) dX9_farOf_66 ⟨Nat.zero_le _, Nat.zero_le _⟩) (fun H locs hP hS => ?_)
          refine lv_iload hx hb dX9_farOf_69 (lv_at hl 1 rfl) ?_
          refine lv_aload_n hx hb dX9_farOf_71 rfl (lv_at hl 2 rfl) ?_
          obtain ⟨v72, e72, hf⟩ := zb hf
          refine zr_gr (ci := 9) (k := 27) (C := RX9) (T := TX9) (N := 54) hx hb hts hi_X9_farOf_9 hown hK hP e72 rfl rfl (by decide) (by decide) (hts (.fieldLink RX9 66 "BoundaryAnalyzerModel" "bodyLast" "[I") (List.mem_of_getElem? (i := 5) rfl)) dX9_farOf_72 ?_
          refine lv_iload_n hx hb dX9_farOf_75 rfl (lv_at hl 3 rfl) ?_
          obtain ⟨v76, e76, hf⟩ := zb hf
          refine zr_ai hx hb hK hP e76 dX9_farOf_76 ?_
          refine lv_iand hx hb dX9_farOf_77 ?_
          refine lv_if_eq (tgt := 90) hx hb dX9_farOf_78 (by decide) (fun c78 => ?_) (fun c78 => ?_)
          · have hf := (if_pos c78).symm.trans hf
            refine lv_iconst (v := (0 : Int32)) hx hb dX9_farOf_90 (by decide) ?_
            exact J91 _ _ _ _ _ _ _ _ _ _ hf hP hS (lv_sub hl [2, 3, 4, 0] rfl)
          · have hf := (if_neg c78).symm.trans hf
            refine lv_aload_n hx hb dX9_farOf_81 rfl (lv_at hl 2 rfl) ?_
            obtain ⟨v82, e82, hf⟩ := zb hf
            refine zr_gr (ci := 9) (k := 29) (C := RX9) (T := TX9) (N := 54) hx hb hts hi_X9_farOf_9 hown hK hP e82 rfl rfl (by decide) (by decide) (hts (.fieldLink RX9 72 "BoundaryAnalyzerModel" "lookFirst" "[I") (List.mem_of_getElem? (i := 3) rfl)) dX9_farOf_82 ?_
            refine lv_iload_n hx hb dX9_farOf_85 rfl (lv_at hl 3 rfl) ?_
            obtain ⟨v86, e86, hf⟩ := zb hf
            refine zr_ai hx hb hK hP e86 dX9_farOf_86 ?_
            refine lv_goto (tgt := 91) hx hb dX9_farOf_87 (by decide) ?_
            exact J91 _ _ _ _ _ _ _ _ _ _ hf hP hS (lv_sub hl [2, 3, 4, 0] rfl)
        · have hf := (if_pos c54).symm.trans hf
          refine lv_iload hx hb dX9_farOf_57 (lv_at hl 0 rfl) ?_
          refine lv_iload_n hx hb dX9_farOf_59 rfl (lv_at hl 4 rfl) ?_
          refine lv_isub hx hb dX9_farOf_60 ?_
          exact zret_i hx hb hr hlocks hf hP hS dX9_farOf_61
  have J25 : ∀ (M : Mem) (H : Heap) (locs : List Loc) (ls : Array Slot) (h0 : Nat) (x1 : Int32) (x2 : Int32) (y0 : Int32) (y1 : Int32), fX9_farOf_25  M h0 x1 x2 y0 y1 = some rr → zH D cy b M H → va_S (zA b) s.heap H locs → lv_has ls 6 [(0, .ref (b + h0)), (1, .int x1), (2, .int x2)] → W p l e (headSpec wsX9_farOf ({ frames := 1, cells := 0, slots := 0, locals := 27 } : Room)).room s m ([.ref (b + p0), .int p1, .int p2] : List Value).toArray below meth c H locs 0 0 (MQ below (zQi D cy b rr) ([.ref (b + p0), .int p1, .int p2] : List Value).toArray s 0 0 (zA b)) (F0 m 25 ls [.int y1, .int y0]) := by
    intro M H locs ls h0 x1 x2 y0 y1 hf hP hS hl
    unfold fX9_farOf_25 at hf
    refine lv_ior hx hb dX9_farOf_25 ?_
    obtain ⟨x3_26, q26, hf⟩ := zlt_s hf
    refine zt q26 ?_
    refine lv_istore_n (lv' := [(3, .int x3_26), (0, .ref (b + h0)), (1, .int x1), (2, .int x2)]) hx hb dX9_farOf_26 rfl hl (by decide) rfl (fun ls hl => ?_)
    refine lv_iload_n hx hb dX9_farOf_27 rfl (lv_at hl 3 rfl) ?_
    refine lv_istore (lv' := [(4, .int x2), (3, .int x3_26), (0, .ref (b + h0)), (1, .int x1), (2, .int x2)]) hx hb dX9_farOf_28 hl (by decide) rfl (fun ls hl => ?_)
    exact L30 _ _ _ _ _ _ _ _ _ _ hf hP hS (lv_sub hl [2, 3, 4, 1, 0] rfl)
  unfold fX9_farOf at hf
  refine lv_aload_n hx hb dX9_farOf_0 rfl (lv_at hl 0 rfl) ?_
  obtain ⟨v1, e1, hf⟩ := zb hf
  refine zr_gr (ci := 9) (k := 26) (C := RX9) (T := TX9) (N := 54) hx hb hts hi_X9_farOf_9 hown hK hP e1 rfl rfl (by decide) (by decide) (hts (.fieldLink RX9 63 "BoundaryAnalyzerModel" "bodyFirst" "[I") (List.mem_of_getElem? (i := 1) rfl)) dX9_farOf_1 ?_
  refine lv_iload_n hx hb dX9_farOf_4 rfl (lv_at hl 1 rfl) ?_
  obtain ⟨v5, e5, hf⟩ := zb hf
  refine zr_ai hx hb hK hP e5 dX9_farOf_5 ?_
  refine lv_aload_n hx hb dX9_farOf_6 rfl (lv_at hl 0 rfl) ?_
  obtain ⟨v7, e7, hf⟩ := zb hf
  refine zr_gr (ci := 9) (k := 25) (C := RX9) (T := TX9) (N := 54) hx hb hts hi_X9_farOf_9 hown hK hP e7 rfl rfl (by decide) (by decide) (hts (.fieldLink RX9 60 "BoundaryAnalyzerModel" "bodyNull" "[Z") (List.mem_of_getElem? (i := 2) rfl)) dX9_farOf_7 ?_
  refine lv_iload_n hx hb dX9_farOf_10 rfl (lv_at hl 1 rfl) ?_
  obtain ⟨v11, e11, hf⟩ := zb hf
  refine zr_az hx hb hK hP e11 dX9_farOf_11 ?_
  refine lv_if_eq (tgt := 24) hx hb dX9_farOf_12 (by decide) (fun c12 => ?_) (fun c12 => ?_)
  · have hf := (if_pos c12).symm.trans hf
    refine lv_iconst (v := (0 : Int32)) hx hb dX9_farOf_24 (by decide) ?_
    exact J25 _ _ _ _ _ _ _ _ _ hf hP hS (lv_sub hl [0, 1, 2] rfl)
  · have hf := (if_neg c12).symm.trans hf
    refine lv_aload_n hx hb dX9_farOf_15 rfl (lv_at hl 0 rfl) ?_
    obtain ⟨v16, e16, hf⟩ := zb hf
    refine zr_gr (ci := 9) (k := 29) (C := RX9) (T := TX9) (N := 54) hx hb hts hi_X9_farOf_9 hown hK hP e16 rfl rfl (by decide) (by decide) (hts (.fieldLink RX9 72 "BoundaryAnalyzerModel" "lookFirst" "[I") (List.mem_of_getElem? (i := 3) rfl)) dX9_farOf_16 ?_
    refine lv_iload_n hx hb dX9_farOf_19 rfl (lv_at hl 1 rfl) ?_
    obtain ⟨v20, e20, hf⟩ := zb hf
    refine zr_ai hx hb hK hP e20 dX9_farOf_20 ?_
    refine lv_goto (tgt := 25) hx hb dX9_farOf_21 (by decide) ?_
    exact J25 _ _ _ _ _ _ _ _ _ hf hP hS (lv_sub hl [0, 1, 2] rfl)
