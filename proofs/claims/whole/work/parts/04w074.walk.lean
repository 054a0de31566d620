theorem hi_X9_segmentsWith_9 : ∀ w ∈ wsX90, w ∈ wsX9_segmentsWith := fun _ h => List.mem_cons_of_mem _ (List.mem_append_right _ h)
set_option maxHeartbeats 4000000 in
set_option maxRecDepth 100000 in
theorem k_X9_segmentsWith (l : Launch) (D : va_G) (cy : Nat → ClassId) (b : Nat) (M0 : Mem) (p0 : Nat) (p1 : Int32) (p2 : Int32) (rr : Int32 × Mem) (hf : fX9_segmentsWith M0 p0 p1 p2 = some rr) : Met l yX9_segmentsWith wsX9_segmentsWith ({ frames := 3, cells := 0, slots := 0, locals := 72 } : Room) (zPc D cy b M0 [.ref (b + p0), .int p1, .int p2]) (zQi D cy b rr) 0 0 (zA b) := by
  refine Met.ofW (cc := cX9_segmentsWith) (maxL := 7) (ret := (some .int)) (by decide) rfl ?_
  intro p e s m args below meth c s₁ B hml hv
  obtain ⟨rfl, hP, hK⟩ := hv
  have hx := B.exec
  have hb := B.bytes
  have hr := B.returns
  have hts := atoms_spec (ws := wsX9_segmentsWith) B.pre
  have hown : s.vm.findClass RX9 = some m.cls := findClass_of_methodNamed B.named
  have hlocks := B.notSynchronized
  have hS : va_S (zA b) s.heap s.heap [] := va_S.rf
  have hl := lv_entry ([.ref (b + p0), .int p1, .int p2]) (n := 7) (Nat.le_of_ble_eq_true rfl)
  rw [lg_entry_eq]
  generalize (lg_sl ([.ref (b + p0), .int p1, .int p2]) ++ List.replicate (7 - (lg_sl ([.ref (b + p0), .int p1, .int p2])).length) Slot.unset).toArray = ls at hl ⊢
  have hl : lv_has ls 7 [(0, .ref (b + p0)), (1, .int p1), (2, .int p2)] := hl
  have L30 : ∀ (n30 : Nat) (M : Mem) (H : Heap) (locs : List Loc) (ls : Array Slot) (h0 : Nat) (x2 : Int32) (x3 : Int32) (x4 : Int32), fX9_segmentsWith_30L  n30 M h0 x2 x3 x4 = some rr → zH D cy b M H → va_S (zA b) s.heap H locs → lv_has ls 7 [(0, .ref (b + h0)), (2, .int x2), (3, .int x3), (4, .int x4)] → W p l e (headSpec wsX9_segmentsWith ({ frames := 3, cells := 0, slots := 0, locals := 72 } : Room)).room s m ([.ref (b + p0), .int p1, .int p2] : List Value).toArray below meth c H locs 0 0 (MQ below (zQi D cy b rr) ([.ref (b + p0), .int p1, .int p2] : List Value).toArray s 0 0 (zA b)) (F0 m 30 ls []) := by
    intro n30
    induction n30 with
    | zero =>
      intro M H locs ls h0 x2 x3 x4 hf
      have hf : (none : Option (Int32 × Mem)) = some rr := hf
      cases hf
    | succ n30 ih30 =>
      have J112 : ∀ (M : Mem) (H : Heap) (locs : List Loc) (ls : Array Slot) (h0 : Nat) (x2 : Int32) (x4 : Int32) (y0 : Int32) (y1 : Int32), fX9_segmentsWith_112 (fX9_segmentsWith_30L  n30) M h0 x2 x4 y0 y1 = some rr → zH D cy b M H → va_S (zA b) s.heap H locs → lv_has ls 7 [(0, .ref (b + h0)), (2, .int x2), (4, .int x4)] → W p l e (headSpec wsX9_segmentsWith ({ frames := 3, cells := 0, slots := 0, locals := 72 } : Room)).room s m ([.ref (b + p0), .int p1, .int p2] : List Value).toArray below meth c H locs 0 0 (MQ below (zQi D cy b rr) ([.ref (b + p0), .int p1, .int p2] : List Value).toArray s 0 0 (zA b)) (F0 m 112 ls [.int y1, .int y0]) := by
        intro M H locs ls h0 x2 x4 y0 y1 hf hP hS hl
        unfold fX9_segmentsWith_112 at hf
        refine lv_iadd hx hb dX9_segmentsWith_112 ?_
        obtain ⟨x3_113, q113, hf⟩ := zlt_s hf
        refine zt q113 ?_
        refine lv_istore_n (lv' := [(3, .int x3_113), (0, .ref (b + h0)), (2, .int x2), (4, .int x4)]) hx hb dX9_segmentsWith_113 rfl hl (by decide) rfl (fun ls hl => ?_)
        obtain ⟨x4_114, q114, hf⟩ := zlt_s hf
        refine lv_iinc (v := x4_114) (lv' := [(4, .int x4_114), (3, .int x3_113), (0, .ref (b + h0)), (2, .int x2)]) hx hb dX9_segmentsWith_114 hl (k := 3) rfl (by rw [← q114]; rfl) (by decide) rfl (fun ls hl => ?_)
        refine lv_goto (tgt := 30) hx hb dX9_segmentsWith_117 (by decide) ?_
        exact ih30 _ _ _ _ _ _ _ _ hf hP hS (lv_sub hl [2, 3, 1, 0] rfl)
      have L53 : ∀ (n53 : Nat) (M : Mem) (H : Heap) (locs : List Loc) (ls : Array Slot) (h0 : Nat) (x2 : Int32) (x3 : Int32) (x4 : Int32) (x5 : Int32) (x6 : Int32), fX9_segmentsWith_53L (fX9_segmentsWith_30L  n30) n53 M h0 x2 x3 x4 x5 x6 = some rr → zH D cy b M H → va_S (zA b) s.heap H locs → lv_has ls 7 [(0, .ref (b + h0)), (2, .int x2), (3, .int x3), (4, .int x4), (5, .int x5), (6, .int x6)] → W p l e (headSpec wsX9_segmentsWith ({ frames := 3, cells := 0, slots := 0, locals := 72 } : Room)).room s m ([.ref (b + p0), .int p1, .int p2] : List Value).toArray below meth c H locs 0 0 (MQ below (zQi D cy b rr) ([.ref (b + p0), .int p1, .int p2] : List Value).toArray s 0 0 (zA b)) (F0 m 53 ls []) := by
        intro n53
        induction n53 with
        | zero =>
          intro M H locs ls h0 x2 x3 x4 x5 x6 hf
          have hf : (none : Option (Int32 × Mem)) = some rr := hf
          cases hf
        | succ n53 ih53 =>
          have J93 : ∀ (M : Mem) (H : Heap) (locs : List Loc) (ls : Array Slot) (h0 : Nat) (x2 : Int32) (x3 : Int32) (x4 : Int32) (x6 : Int32) (y0 : Int32), fX9_segmentsWith_93 (fX9_segmentsWith_53L (fX9_segmentsWith_30L  n30) n53) M h0 x2 x3 x4 x6 y0 = some rr → zH D cy b M H → va_S (zA b) s.heap H locs → lv_has ls 7 [(0, .ref (b + h0)), (2, .int x2), (3, .int x3), (4, .int x4), (6, .int x6)] → W p l e (headSpec wsX9_segmentsWith ({ frames := 3, cells := 0, slots := 0, locals := 72 } : Room)).room s m ([.ref (b + p0), .int p1, .int p2] : List Value).toArray below meth c H locs 0 0 (MQ below (zQi D cy b rr) ([.ref (b + p0), .int p1, .int p2] : List Value).toArray s 0 0 (zA b)) (F0 m 93 ls [.int y0]) := by
            intro M H locs ls h0 x2 x3 x4 x6 y0 hf hP hS hl
            unfold fX9_segmentsWith_93 at hf
            refine lv_istore (lv' := [(5, .int y0), (0, .ref (b + h0)), (2, .int x2), (3, .int x3), (4, .int x4), (6, .int x6)]) hx hb dX9_segmentsWith_93 hl (by decide) rfl (fun ls hl => ?_)
            obtain ⟨x6_95, q95, hf⟩ := zlt_s hf
            refine lv_iinc (v := x6_95) (lv' := [(6, .int x6_95), (5, .int y0), (0, .ref (b + h0)), (2, .int x2), (3, .int x3), (4, .int x4)]) hx hb dX9_segmentsWith_95 hl (k := 5) rfl (by rw [← q95]; rfl) (by decide) rfl (fun ls hl => ?_)
            refine lv_goto (tgt := 53) hx hb dX9_segmentsWith_98 (by decide) ?_
            exact ih53 _ _ _ _ _ _ _ _ _ _ hf hP hS (lv_sub hl [2, 3, 4, 5, 1, 0] rfl)
          have J88 : ∀ (M : Mem) (H : Heap) (locs : List Loc) (ls : Array Slot) (h0 : Nat) (x2 : Int32) (x3 : Int32) (x4 : Int32) (x6 : Int32), fX9_segmentsWith_88 (fX9_segmentsWith_53L (fX9_segmentsWith_30L  n30) n53) M h0 x2 x3 x4 x6 = some rr → zH D cy b M H → va_S (zA b) s.heap H locs → lv_has ls 7 [(0, .ref (b + h0)), (2, .int x2), (3, .int x3), (4, .int x4), (6, .int x6)] → W p l e (headSpec wsX9_segmentsWith ({ frames := 3, cells := 0, slots := 0, locals := 72 } : Room)).room s m ([.ref (b + p0), .int p1, .int p2] : List Value).toArray below meth c H locs 0 0 (MQ below (zQi D cy b rr) ([.ref (b + p0), .int p1, .int p2] : List Value).toArray s 0 0 (zA b)) (F0 m 88 ls []) := by
            intro M H locs ls h0 x2 x3 x4 x6 hf hP hS hl
            unfold fX9_segmentsWith_88 at hf
            refine lv_iconst (v := (1 : Int32)) hx hb dX9_segmentsWith_88 (by decide) ?_
            refine lv_goto (tgt := 93) hx hb dX9_segmentsWith_89 (by decide) ?_
            exact J93 _ _ _ _ _ _ _ _ _ _ hf hP hS (lv_sub hl [0, 1, 2, 3, 4] rfl)
          intro M H locs ls h0 x2 x3 x4 x5 x6 hf hP hS hl
          have hf : fX9_segmentsWith_53 (fX9_segmentsWith_30L  n30) (fX9_segmentsWith_53L (fX9_segmentsWith_30L  n30) n53) M h0 x2 x3 x4 x5 x6 = some rr := hf
          unfold fX9_segmentsWith_53 at hf
          refine lv_iload hx hb dX9_segmentsWith_53 (lv_at hl 5 rfl) ?_
          refine lv_aload_n hx hb dX9_segmentsWith_55 rfl (lv_at hl 0 rfl) ?_
          obtain ⟨v56, e56, hf⟩ := zb hf
          refine zr_gr (ci := 9) (k := 53) (C := RX9) (T := TX9) (N := 54) hx hb hts hi_X9_segmentsWith_9 hown hK hP e56 rfl rfl (by decide) (by decide) (hts (.fieldLink RX9 129 "BoundaryAnalyzerModel" "boundary" "[I") (List.mem_of_getElem? (i := 2) rfl)) dX9_segmentsWith_56 ?_
          refine lv_iload hx hb dX9_segmentsWith_59 (lv_at hl 3 rfl) ?_
          refine lv_iconst (v := (1 : Int32)) hx hb dX9_segmentsWith_61 (by decide) ?_
          refine lv_iadd hx hb dX9_segmentsWith_62 ?_
          obtain ⟨v63, e63, hf⟩ := zb hf
          refine zr_ai hx hb hK hP e63 dX9_segmentsWith_63 ?_
          refine lv_icmp_ge (tgt := 101) hx hb dX9_segmentsWith_64 (by decide) (fun c64 => ?_) (fun c64 => ?_)
          · have hf := (if_pos c64).symm.trans hf
            refine lv_iload_n hx hb dX9_segmentsWith_101 rfl (lv_at hl 2 rfl) ?_
            refine lv_iload hx hb dX9_segmentsWith_102 (lv_at hl 4 rfl) ?_
            refine lv_if_eq (tgt := 111) hx hb dX9_segmentsWith_104 (by decide) (fun c104 => ?_) (fun c104 => ?_)
            · have hf := (if_pos c104).symm.trans hf
              refine lv_iconst (v := (0 : Int32)) hx hb dX9_segmentsWith_111 (by decide) ?_
              exact J112 _ _ _ _ _ _ _ _ _ hf hP hS (lv_sub hl [0, 1, 3] rfl)
            · have hf := (if_neg c104).symm.trans hf
              refine lv_iconst (v := (1 : Int32)) hx hb dX9_segmentsWith_107 (by decide) ?_
              refine lv_goto (tgt := 112) hx hb dX9_segmentsWith_108 (by decide) ?_
              exact J112 _ _ _ _ _ _ _ _ _ hf hP hS (lv_sub hl [0, 1, 3] rfl)
          · have hf := (if_neg c64).symm.trans hf
            refine lv_iload hx hb dX9_segmentsWith_67 (lv_at hl 4 rfl) ?_
            refine lv_if_ne (tgt := 88) hx hb dX9_segmentsWith_69 (by decide) (fun c69 => ?_) (fun c69 => ?_)
            · have hf := (if_neg c69).symm.trans hf
              exact J88 _ _ _ _ _ _ _ _ _ hf hP hS (lv_sub hl [0, 1, 2, 3, 5] rfl)
            · have hf := (if_pos c69).symm.trans hf
              refine lv_aload_n hx hb dX9_segmentsWith_72 rfl (lv_at hl 0 rfl) ?_
              obtain ⟨v73, e73, hf⟩ := zb hf
              refine zr_gr (ci := 9) (k := 0) (C := RX9) (T := TX9) (N := 54) hx hb hts hi_X9_segmentsWith_9 hown hK hP e73 rfl rfl (by decide) (by decide) (hts (.fieldLink RX9 7 "BoundaryAnalyzerModel" "classAt" "[I") (List.mem_of_getElem? (i := 3) rfl)) dX9_segmentsWith_73 ?_
              refine lv_aload_n hx hb dX9_segmentsWith_76 rfl (lv_at hl 0 rfl) ?_
              obtain ⟨v77, e77, hf⟩ := zb hf
              refine zr_gr (ci := 9) (k := 32) (C := RX9) (T := TX9) (N := 54) hx hb hts hi_X9_segmentsWith_9 hown hK hP e77 rfl rfl (by decide) (by decide) (hts (.fieldLink RX9 78 "BoundaryAnalyzerModel" "text" "[C") (List.mem_of_getElem? (i := 4) rfl)) dX9_segmentsWith_77 ?_
              refine lv_iload hx hb dX9_segmentsWith_80 (lv_at hl 5 rfl) ?_
              obtain ⟨v82, e82, hf⟩ := zb hf
              refine zr_ac hx hb hK hP e82 dX9_segmentsWith_82 ?_
              obtain ⟨v83, e83, hf⟩ := zb hf
              refine zr_ai hx hb hK hP e83 dX9_segmentsWith_83 ?_
              refine lv_iload_n hx hb dX9_segmentsWith_84 rfl (lv_at hl 1 rfl) ?_
              refine lv_icmp_ne (tgt := 92) hx hb dX9_segmentsWith_85 (by decide) (fun c85 => ?_) (fun c85 => ?_)
              · have hf := (if_neg c85).symm.trans hf
                refine lv_iconst (v := (0 : Int32)) hx hb dX9_segmentsWith_92 (by decide) ?_
                exact J93 _ _ _ _ _ _ _ _ _ _ hf hP hS (lv_sub hl [0, 1, 2, 3, 5] rfl)
              · have hf := (if_pos c85).symm.trans hf
                exact J88 _ _ _ _ _ _ _ _ _ hf hP hS (lv_sub hl [0, 1, 2, 3, 5] rfl)
      intro M H locs ls h0 x2 x3 x4 hf hP hS hl
      have hf : fX9_segmentsWith_30  (fX9_segmentsWith_30L  n30) M h0 x2 x3 x4 = some rr := hf
      unfold fX9_segmentsWith_30 at hf
      refine lv_iload hx hb dX9_segmentsWith_30 (lv_at hl 3 rfl) ?_
      refine lv_aload_n hx hb dX9_segmentsWith_32 rfl (lv_at hl 0 rfl) ?_
      obtain ⟨v33, e33, hf⟩ := zb hf
      refine zr_gi (ci := 9) (k := 52) (C := RX9) (T := TX9) (N := 54) hx hb hts hi_X9_segmentsWith_9 hown hK hP e33 rfl rfl (by decide) (by decide) (hts (.fieldLink RX9 294 "BoundaryAnalyzerModel" "boundaries" "I") (List.mem_of_getElem? (i := 1) rfl)) dX9_segmentsWith_33 ?_
      refine lv_iconst (v := (1 : Int32)) hx hb dX9_segmentsWith_36 (by decide) ?_
      refine lv_isub hx hb dX9_segmentsWith_37 ?_
      refine lv_icmp_ge (tgt := 120) hx hb dX9_segmentsWith_38 (by decide) (fun c38 => ?_) (fun c38 => ?_)
      · have hf := (if_pos c38).symm.trans hf
        refine lv_iload_n hx hb dX9_segmentsWith_120 rfl (lv_at hl 2 rfl) ?_
        exact zret_i hx hb hr hlocks hf hP hS dX9_segmentsWith_121
      · have hf := (if_neg c38).symm.trans hf
        refine lv_iconst (v := (0 : Int32)) hx hb dX9_segmentsWith_41 (by decide) ?_
        refine lv_istore (lv' := [(5, .int (0 : Int32)), (0, .ref (b + h0)), (2, .int x2), (3, .int x3), (4, .int x4)]) hx hb dX9_segmentsWith_42 hl (by decide) rfl (fun ls hl => ?_)
        refine lv_aload_n hx hb dX9_segmentsWith_44 rfl (lv_at hl 1 rfl) ?_
        obtain ⟨v45, e45, hf⟩ := zb hf
        refine zr_gr (ci := 9) (k := 53) (C := RX9) (T := TX9) (N := 54) hx hb hts hi_X9_segmentsWith_9 hown hK hP e45 rfl rfl (by decide) (by decide) (hts (.fieldLink RX9 129 "BoundaryAnalyzerModel" "boundary" "[I") (List.mem_of_getElem? (i := 2) rfl)) dX9_segmentsWith_45 ?_
        refine lv_iload hx hb dX9_segmentsWith_48 (lv_at hl 4 rfl) ?_
        obtain ⟨v50, e50, hf⟩ := zb hf
        refine zr_ai hx hb hK hP e50 dX9_segmentsWith_50 ?_
        refine lv_istore (lv' := [(6, .int v50), (5, .int (0 : Int32)), (0, .ref (b + h0)), (2, .int x2), (3, .int x3), (4, .int x4)]) hx hb dX9_segmentsWith_51 hl (by decide) rfl (fun ls hl => ?_)
        exact L53 _ _ _ _ _ _ _ _ _ _ _ hf hP hS (lv_sub hl [2, 3, 4, 5, 1, 0] rfl)
  unfold fX9_segmentsWith at hf
  refine lv_iload_n hx hb dX9_segmentsWith_0 rfl (lv_at hl 1 rfl) ?_
  obtain ⟨v1, e1, hf⟩ := zb hf
  refine zc_p (va_runS (As := [.int p1]) (rest := []) ⟨hx, hb, hml, hown, hts⟩ (k_X9_noKind l p1 v1 e1) (va_cwS 1 hts gX9_segmentsWith_X9_noKind rfl rfl rfl (by decide +kernel) ⟨Nat.le_of_ble_eq_true rfl, Nat.le_of_ble_eq_true rfl⟩) (zp_p _) rfl rfl hl.1 rfl (lv_room (Nat.le_of_ble_eq_true rfl)) dX9_segmentsWith_1 ⟨Nat.zero_le _, Nat.zero_le _⟩) ?_
  refine lv_if_ne (tgt := 17) hx hb dX9_segmentsWith_4 (by decide) (fun c4 => ?_) (fun c4 => ?_)
  · have hf := (if_neg c4).symm.trans hf
    refine lv_bipush (v := (-2 : Int32)) hx hb dX9_segmentsWith_17 (by decide) ?_
    exact zret_i hx hb hr hlocks hf hP hS dX9_segmentsWith_19
  · have hf := (if_pos c4).symm.trans hf
    refine lv_iload_n hx hb dX9_segmentsWith_7 rfl (lv_at hl 2 rfl) ?_
    refine lv_iconst (v := (0 : Int32)) hx hb dX9_segmentsWith_8 (by decide) ?_
    refine lv_bipush (v := (11 : Int32)) hx hb dX9_segmentsWith_9 (by decide) ?_
    obtain ⟨v11, e11, hf⟩ := zb hf
    refine zc_p (va_runS (As := [.int p2, .int (0 : Int32), .int (11 : Int32)]) (rest := []) ⟨hx, hb, hml, hown, hts⟩ (k_X9_in l p2 (0 : Int32) (11 : Int32) v11 e11) (va_cwS 3 hts gX9_segmentsWith_X9_in rfl rfl rfl (by decide +kernel) ⟨Nat.le_of_ble_eq_true rfl, Nat.le_of_ble_eq_true rfl⟩) (zp_p _) rfl rfl hl.1 rfl (lv_room (Nat.le_of_ble_eq_true rfl)) dX9_segmentsWith_11 ⟨Nat.zero_le _, Nat.zero_le _⟩) ?_
    refine lv_if_ne (tgt := 20) hx hb dX9_segmentsWith_14 (by decide) (fun c14 => ?_) (fun c14 => ?_)
    · have hf := (if_neg c14).symm.trans hf
      refine lv_aload_n hx hb dX9_segmentsWith_20 rfl (lv_at hl 0 rfl) ?_
      refine lv_iload_n hx hb dX9_segmentsWith_21 rfl (lv_at hl 1 rfl) ?_
      obtain ⟨u22, t22, hf⟩ := zb hf
      obtain ⟨M22, e22, hf⟩ := zb hf
      refine zc_v hS (va_runV (As := [.int p1]) (rest := []) ⟨hx, hb, hml, hown, hts⟩ (k_X9_layBoundaries l D cy b M0 p0 p1 M22 e22) (cwV 1 hts gX9_segmentsWith_X9_layBoundaries rfl rfl rfl (by decide +kernel) ⟨Nat.le_of_ble_eq_true rfl, Nat.le_of_ble_eq_true rfl⟩) (zp_V _ hK hP t22 (T := TX9) (N := 54) rfl (by decide)) rfl rfl hl.1 rfl (lv_room (Nat.le_of_ble_eq_true rfl)) dX9_segmentsWith_22 ⟨Nat.zero_le _, Nat.zero_le _⟩) (fun H locs hP hS => ?_)
      refine lv_iconst (v := (0 : Int32)) hx hb dX9_segmentsWith_25 (by decide) ?_
      refine lv_istore_n (lv' := [(3, .int (0 : Int32)), (0, .ref (b + p0)), (1, .int p1), (2, .int p2)]) hx hb dX9_segmentsWith_26 rfl hl (by decide) rfl (fun ls hl => ?_)
      refine lv_iconst (v := (0 : Int32)) hx hb dX9_segmentsWith_27 (by decide) ?_
      refine lv_istore (lv' := [(4, .int (0 : Int32)), (3, .int (0 : Int32)), (0, .ref (b + p0)), (1, .int p1), (2, .int p2)]) hx hb dX9_segmentsWith_28 hl (by decide) rfl (fun ls hl => ?_)
      exact L30 _ _ _ _ _ _ _ _ _ hf hP hS (lv_sub hl [2, 4, 1, 0] rfl)
    · have hf := (if_pos c14).symm.trans hf
      refine lv_bipush (v := (-2 : Int32)) hx hb dX9_segmentsWith_17 (by decide) ?_
      exact zret_i hx hb hr hlocks hf hP hS dX9_segmentsWith_19
theorem hi_X9_work_9 : ∀ w ∈ wsX90, w ∈ wsX9_work := fun _ h => List.mem_cons_of_mem _ (List.mem_append_right _ h)
set_option maxHeartbeats 4000000 in
set_option maxRecDepth 100000 in
theorem k_X9_work (l : Launch) (D : va_G) (cy : Nat → ClassId) (b : Nat) (M0 : Mem) (p0 : Nat) (p1 : Int32) (rr : Int32 × Mem) (hf : fX9_work M0 p0 p1 = some rr) : Met l yX9_work wsX9_work ({ frames := 2, cells := 0, slots := 0, locals := 42 } : Room) (zPc D cy b M0 [.ref (b + p0), .int p1]) (zQi D cy b rr) 0 0 (zA b) := by
  refine Met.ofW (cc := cX9_work) (maxL := 2) (ret := (some .int)) (by decide) rfl ?_
  intro p e s m args below meth c s₁ B hml hv
  obtain ⟨rfl, hP, hK⟩ := hv
  have hx := B.exec
  have hb := B.bytes
  have hr := B.returns
  have hts := atoms_spec (ws := wsX9_work) B.pre
  have hown : s.vm.findClass RX9 = some m.cls := findClass_of_methodNamed B.named
  have hlocks := B.notSynchronized
  have hS : va_S (zA b) s.heap s.heap [] := va_S.rf
  have hl := lv_entry ([.ref (b + p0), .int p1]) (n := 2) (Nat.le_of_ble_eq_true rfl)
  rw [lg_entry_eq]
  generalize (lg_sl ([.ref (b + p0), .int p1]) ++ List.replicate (2 - (lg_sl ([.ref (b + p0), .int p1])).length) Slot.unset).toArray = ls at hl ⊢
  have hl : lv_has ls 2 [(0, .ref (b + p0)), (1, .int p1)] := hl
  unfold fX9_work at hf
  refine lv_iload_n hx hb dX9_work_0 rfl (lv_at hl 1 rfl) ?_
  obtain ⟨v1, e1, hf⟩ := zb hf
  refine zc_p (va_runS (As := [.int p1]) (rest := []) ⟨hx, hb, hml, hown, hts⟩ (k_X9_noKind l p1 v1 e1) (va_cwS 1 hts gX9_work_X9_noKind rfl rfl rfl (by decide +kernel) ⟨Nat.le_of_ble_eq_true rfl, Nat.le_of_ble_eq_true rfl⟩) (zp_p _) rfl rfl hl.1 rfl (lv_room (Nat.le_of_ble_eq_true rfl)) dX9_work_1 ⟨Nat.zero_le _, Nat.zero_le _⟩) ?_
  refine lv_if_eq (tgt := 12) hx hb dX9_work_4 (by decide) (fun c4 => ?_) (fun c4 => ?_)
  · have hf := (if_pos c4).symm.trans hf
    refine lv_aload_n hx hb dX9_work_12 rfl (lv_at hl 0 rfl) ?_
    obtain ⟨v13, e13, hf⟩ := zb hf
    refine zr_gr (ci := 9) (k := 35) (C := RX9) (T := TX9) (N := 54) hx hb hts hi_X9_work_9 hown hK hP e13 rfl rfl (by decide) (by decide) (hts (.fieldLink RX9 87 "BoundaryAnalyzerModel" "workOf" "[I") (List.mem_of_getElem? (i := 1) rfl)) dX9_work_13 ?_
    refine lv_iload_n hx hb dX9_work_16 rfl (lv_at hl 1 rfl) ?_
    obtain ⟨v17, e17, hf⟩ := zb hf
    refine zr_ai hx hb hK hP e17 dX9_work_17 ?_
    exact zret_i hx hb hr hlocks hf hP hS dX9_work_18
  · have hf := (if_neg c4).symm.trans hf
    refine lv_bipush (v := (-2 : Int32)) hx hb dX9_work_7 (by decide) ?_
    refine lv_goto (tgt := 18) hx hb dX9_work_9 (by decide) ?_
    exact zret_i hx hb hr hlocks hf hP hS dX9_work_18
