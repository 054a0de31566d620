theorem hi_X9_behind_9 : ∀ w ∈ wsX90, w ∈ wsX9_behind := fun _ h => List.mem_cons_of_mem _ (List.mem_append_right _ h)
set_option maxHeartbeats 4000000 in
set_option maxRecDepth 100000 in
theorem k_X9_behind (l : Launch) (D : va_G) (cy : Nat → ClassId) (b : Nat) (M0 : Mem) (p0 : Nat) (p1 : Int32) (p2 : Int32) (rr : Int32 × Mem) (hf : fX9_behind M0 p0 p1 p2 = some rr) : Met l yX9_behind wsX9_behind ({ frames := 0, cells := 0, slots := 0, locals := 0 } : Room) (zPc D cy b M0 [.ref (b + p0), .int p1, .int p2]) (zQi D cy b rr) 0 0 (zA b) := by
  refine Met.ofW (cc := cX9_behind) (maxL := 5) (ret := (some .int)) (by decide) rfl ?_
  intro p e s m args below meth c s₁ B hml hv
  obtain ⟨rfl, hP, hK⟩ := hv
  have hx := B.exec
  have hb := B.bytes
  have hr := B.returns
  have hts := atoms_spec (ws := wsX9_behind) B.pre
  have hown : s.vm.findClass RX9 = some m.cls := findClass_of_methodNamed B.named
  have hlocks := B.notSynchronized
  have hS : va_S (zA b) s.heap s.heap [] := va_S.rf
  have hl := lv_entry ([.ref (b + p0), .int p1, .int p2]) (n := 5) (Nat.le_of_ble_eq_true rfl)
  rw [lg_entry_eq]
  generalize (lg_sl ([.ref (b + p0), .int p1, .int p2]) ++ List.replicate (5 - (lg_sl ([.ref (b + p0), .int p1, .int p2])).length) Slot.unset).toArray = ls at hl ⊢
  have hl : lv_has ls 5 [(0, .ref (b + p0)), (1, .int p1), (2, .int p2)] := hl
  have L5 : ∀ (n5 : Nat) (M : Mem) (H : Heap) (locs : List Loc) (ls : Array Slot) (h0 : Nat) (x1 : Int32) (x2 : Int32) (x3 : Int32) (x4 : Int32), fX9_behind_5L  n5 M h0 x1 x2 x3 x4 = some rr → zH D cy b M H → va_S (zA b) s.heap H locs → lv_has ls 5 [(0, .ref (b + h0)), (1, .int x1), (2, .int x2), (3, .int x3), (4, .int x4)] → W p l e (headSpec wsX9_behind ({ frames := 0, cells := 0, slots := 0, locals := 0 } : Room)).room s m ([.ref (b + p0), .int p1, .int p2] : List Value).toArray below meth c H locs 0 0 (MQ below (zQi D cy b rr) ([.ref (b + p0), .int p1, .int p2] : List Value).toArray s 0 0 (zA b)) (F0 m 5 ls []) := by
    intro n5
    induction n5 with
    | zero =>
      intro M H locs ls h0 x1 x2 x3 x4 hf
      have hf : (none : Option (Int32 × Mem)) = some rr := hf
      cases hf
    | succ n5 ih5 =>
      have J43 : ∀ (M : Mem) (H : Heap) (locs : List Loc) (ls : Array Slot) (h0 : Nat) (x1 : Int32) (x2 : Int32) (x4 : Int32) (y0 : Int32) (y1 : Int32), fX9_behind_43 (fX9_behind_5L  n5) M h0 x1 x2 x4 y0 y1 = some rr → zH D cy b M H → va_S (zA b) s.heap H locs → lv_has ls 5 [(0, .ref (b + h0)), (1, .int x1), (2, .int x2), (4, .int x4)] → W p l e (headSpec wsX9_behind ({ frames := 0, cells := 0, slots := 0, locals := 0 } : Room)).room s m ([.ref (b + p0), .int p1, .int p2] : List Value).toArray below meth c H locs 0 0 (MQ below (zQi D cy b rr) ([.ref (b + p0), .int p1, .int p2] : List Value).toArray s 0 0 (zA b)) (F0 m 43 ls [.int y1, .int y0]) := by
        intro M H locs ls h0 x1 x2 x4 y0 y1 hf hP hS hl
        unfold fX9_behind_43 at hf
        refine lv_ior hx hb dX9_behind_43 ?_
        obtain ⟨x3_44, q44, hf⟩ := zlt_s hf
        refine zt q44 ?_
        refine lv_istore_n (lv' := [(3, .int x3_44), (0, .ref (b + h0)), (1, .int x1), (2, .int x2), (4, .int x4)]) hx hb dX9_behind_44 rfl hl (by decide) rfl (fun ls hl => ?_)
        obtain ⟨x4_45, q45, hf⟩ := zlt_s hf
        refine lv_iinc (v := x4_45) (lv' := [(4, .int x4_45), (3, .int x3_44), (0, .ref (b + h0)), (1, .int x1), (2, .int x2)]) hx hb dX9_behind_45 hl (k := 4) rfl (by rw [← q45]; rfl) (by decide) rfl (fun ls hl => ?_)
        refine lv_goto (tgt := 5) hx hb dX9_behind_48 (by decide) ?_
        exact ih5 _ _ _ _ _ _ _ _ _ hf hP hS (lv_sub hl [2, 3, 4, 1, 0] rfl)
      intro M H locs ls h0 x1 x2 x3 x4 hf hP hS hl
      have hf : fX9_behind_5  (fX9_behind_5L  n5) M h0 x1 x2 x3 x4 = some rr := hf
      unfold fX9_behind_5 at hf
      refine lv_iload hx hb dX9_behind_5 (lv_at hl 4 rfl) ?_
      refine lv_aload_n hx hb dX9_behind_7 rfl (lv_at hl 0 rfl) ?_
      obtain ⟨v8, e8, hf⟩ := zb hf
      refine zr_gr (ci := 9) (k := 20) (C := RX9) (T := TX9) (N := 54) hx hb hts hi_X9_behind_9 hown hK hP e8 rfl rfl (by decide) (by decide) (hts (.fieldLink RX9 45 "BoundaryAnalyzerModel" "ruleLong" "[I") (List.mem_of_getElem? (i := 1) rfl)) dX9_behind_8 ?_
      refine lv_iload_n hx hb dX9_behind_11 rfl (lv_at hl 1 rfl) ?_
      obtain ⟨v12, e12, hf⟩ := zb hf
      refine zr_ai hx hb hK hP e12 dX9_behind_12 ?_
      refine lv_icmp_ge (tgt := 51) hx hb dX9_behind_13 (by decide) (fun c13 => ?_) (fun c13 => ?_)
      · have hf := (if_pos c13).symm.trans hf
        refine lv_iload_n hx hb dX9_behind_51 rfl (lv_at hl 3 rfl) ?_
        exact zret_i hx hb hr hlocks hf hP hS dX9_behind_52
      · have hf := (if_neg c13).symm.trans hf
        refine lv_iload_n hx hb dX9_behind_16 rfl (lv_at hl 3 rfl) ?_
        refine lv_iload_n hx hb dX9_behind_17 rfl (lv_at hl 2 rfl) ?_
        refine lv_iload hx hb dX9_behind_18 (lv_at hl 4 rfl) ?_
        refine lv_ishr hx hb dX9_behind_20 ?_
        refine lv_iconst (v := (1 : Int32)) hx hb dX9_behind_21 (by decide) ?_
        refine lv_iand hx hb dX9_behind_22 ?_
        refine lv_iconst (v := (1 : Int32)) hx hb dX9_behind_23 (by decide) ?_
        refine lv_icmp_ne (tgt := 42) hx hb dX9_behind_24 (by decide) (fun c24 => ?_) (fun c24 => ?_)
        · have hf := (if_neg c24).symm.trans hf
          refine lv_iconst (v := (0 : Int32)) hx hb dX9_behind_42 (by decide) ?_
          exact J43 _ _ _ _ _ _ _ _ _ _ hf hP hS (lv_sub hl [0, 1, 2, 4] rfl)
        · have hf := (if_pos c24).symm.trans hf
          refine lv_aload_n hx hb dX9_behind_27 rfl (lv_at hl 0 rfl) ?_
          obtain ⟨v28, e28, hf⟩ := zb hf
          refine zr_gr (ci := 9) (k := 23) (C := RX9) (T := TX9) (N := 54) hx hb hts hi_X9_behind_9 hown hK hP e28 rfl rfl (by decide) (by decide) (hts (.fieldLink RX9 54 "BoundaryAnalyzerModel" "nextOf" "[I") (List.mem_of_getElem? (i := 2) rfl)) dX9_behind_28 ?_
          refine lv_bipush (v := (24 : Int32)) hx hb dX9_behind_31 (by decide) ?_
          refine lv_iload_n hx hb dX9_behind_33 rfl (lv_at hl 1 rfl) ?_
          refine lv_imul hx hb dX9_behind_34 ?_
          refine lv_iload hx hb dX9_behind_35 (lv_at hl 4 rfl) ?_
          refine lv_iadd hx hb dX9_behind_37 ?_
          obtain ⟨v38, e38, hf⟩ := zb hf
          refine zr_ai hx hb hK hP e38 dX9_behind_38 ?_
          refine lv_goto (tgt := 43) hx hb dX9_behind_39 (by decide) ?_
          exact J43 _ _ _ _ _ _ _ _ _ _ hf hP hS (lv_sub hl [0, 1, 2, 4] rfl)
  unfold fX9_behind at hf
  refine lv_iconst (v := (0 : Int32)) hx hb dX9_behind_0 (by decide) ?_
  refine lv_istore_n (lv' := [(3, .int (0 : Int32)), (0, .ref (b + p0)), (1, .int p1), (2, .int p2)]) hx hb dX9_behind_1 rfl hl (by decide) rfl (fun ls hl => ?_)
  refine lv_iconst (v := (0 : Int32)) hx hb dX9_behind_2 (by decide) ?_
  refine lv_istore (lv' := [(4, .int (0 : Int32)), (3, .int (0 : Int32)), (0, .ref (b + p0)), (1, .int p1), (2, .int p2)]) hx hb dX9_behind_3 hl (by decide) rfl (fun ls hl => ?_)
  exact L5 _ _ _ _ _ _ _ _ _ _ hf hP hS (lv_sub hl [2, 3, 4, 1, 0] rfl)
theorem hi_X9_matchesAhead_9 : ∀ w ∈ wsX90, w ∈ wsX9_matchesAhead := fun _ h => List.mem_cons_of_mem _ (List.mem_append_right _ h)
set_option maxHeartbeats 4000000 in
set_option maxRecDepth 100000 in
theorem k_X9_matchesAhead (l : Launch) (D : va_G) (cy : Nat → ClassId) (b : Nat) (M0 : Mem) (p0 : Nat) (p1 : Int32) (p2 : Int32) (rr : Int32 × Mem) (hf : fX9_matchesAhead M0 p0 p1 p2 = some rr) : Met l yX9_matchesAhead wsX9_matchesAhead ({ frames := 1, cells := 0, slots := 0, locals := 27 } : Room) (zPc D cy b M0 [.ref (b + p0), .int p1, .int p2]) (zQi D cy b rr) 0 0 (zA b) := by
  refine Met.ofW (cc := cX9_matchesAhead) (maxL := 7) (ret := (some .boolean)) (by decide) rfl ?_
  intro p e s m args below meth c s₁ B hml hv
  obtain ⟨rfl, hP, hK⟩ := hv
  have hx := B.exec
  have hb := B.bytes
  have hr := B.returns
  have hts := atoms_spec (ws := wsX9_matchesAhead) B.pre
  have hown : s.vm.findClass RX9 = some m.cls := findClass_of_methodNamed B.named
  have hlocks := B.notSynchronized
  have hS : va_S (zA b) s.heap s.heap [] := va_S.rf
  have hl := lv_entry ([.ref (b + p0), .int p1, .int p2]) (n := 7) (Nat.le_of_ble_eq_true rfl)
  rw [lg_entry_eq]
  generalize (lg_sl ([.ref (b + p0), .int p1, .int p2]) ++ List.replicate (7 - (lg_sl ([.ref (b + p0), .int p1, .int p2])).length) Slot.unset).toArray = ls at hl ⊢
  have hl : lv_has ls 7 [(0, .ref (b + p0)), (1, .int p1), (2, .int p2)] := hl
  have L18 : ∀ (n18 : Nat) (M : Mem) (H : Heap) (locs : List Loc) (ls : Array Slot) (h0 : Nat) (x1 : Int32) (x3 : Int32) (x4 : Int32) (x5 : Int32), fX9_matchesAhead_18L  n18 M h0 x1 x3 x4 x5 = some rr → zH D cy b M H → va_S (zA b) s.heap H locs → lv_has ls 7 [(0, .ref (b + h0)), (1, .int x1), (3, .int x3), (4, .int x4), (5, .int x5)] → W p l e (headSpec wsX9_matchesAhead ({ frames := 1, cells := 0, slots := 0, locals := 27 } : Room)).room s m ([.ref (b + p0), .int p1, .int p2] : List Value).toArray below meth c H locs 0 0 (MQ below (zQi D cy b rr) ([.ref (b + p0), .int p1, .int p2] : List Value).toArray s 0 0 (zA b)) (F0 m 18 ls []) := by
    intro n18
    induction n18 with
    | zero =>
      intro M H locs ls h0 x1 x3 x4 x5 hf
      have hf : (none : Option (Int32 × Mem)) = some rr := hf
      cases hf
    | succ n18 ih18 =>
      have J64 : ∀ (M : Mem) (H : Heap) (locs : List Loc) (ls : Array Slot) (h0 : Nat) (x1 : Int32) (x5 : Int32) (x6 : Int32) (y0 : Int32), fX9_matchesAhead_64 (fX9_matchesAhead_18L  n18) M h0 x1 x5 x6 y0 = some rr → zH D cy b M H → va_S (zA b) s.heap H locs → lv_has ls 7 [(0, .ref (b + h0)), (1, .int x1), (5, .int x5), (6, .int x6)] → W p l e (headSpec wsX9_matchesAhead ({ frames := 1, cells := 0, slots := 0, locals := 27 } : Room)).room s m ([.ref (b + p0), .int p1, .int p2] : List Value).toArray below meth c H locs 0 0 (MQ below (zQi D cy b rr) ([.ref (b + p0), .int p1, .int p2] : List Value).toArray s 0 0 (zA b)) (F0 m 64 ls [.int y0]) := by
        intro M H locs ls h0 x1 x5 x6 y0 hf hP hS hl
        unfold fX9_matchesAhead_64 at hf
        refine lv_istore_n (lv' := [(3, .int y0), (0, .ref (b + h0)), (1, .int x1), (5, .int x5), (6, .int x6)]) hx hb dX9_matchesAhead_64 rfl hl (by decide) rfl (fun ls hl => ?_)
        refine lv_aload_n hx hb dX9_matchesAhead_65 rfl (lv_at hl 1 rfl) ?_
        refine lv_iload_n hx hb dX9_matchesAhead_66 rfl (lv_at hl 2 rfl) ?_
        refine lv_iload hx hb dX9_matchesAhead_67 (lv_at hl 4 rfl) ?_
        obtain ⟨u69, t69, hf⟩ := zb hf
        obtain ⟨r69, e69, hf⟩ := zb hf
        refine zc_i hS (va_runV (As := [.int x1, .int x6]) (rest := []) ⟨hx, hb, hml, hown, hts⟩ (k_X9_behind l D cy b M h0 x1 x6 r69 e69) (cwV 2 hts gX9_matchesAhead_X9_behind rfl rfl rfl (by decide +kernel) ⟨Nat.le_of_ble_eq_true rfl, Nat.le_of_ble_eq_true rfl⟩) (zp_V _ hK hP t69 (T := TX9) (N := 54) rfl (by decide)) rfl rfl hl.1 rfl (lv_room (Nat.le_of_ble_eq_true rfl)) dX9_matchesAhead_69 ⟨Nat.zero_le _, Nat.zero_le _⟩) (fun H locs hP hS => ?_)
        refine lv_istore (lv' := [(4, .int r69.1), (3, .int y0), (0, .ref (b + h0)), (1, .int x1), (5, .int x5), (6, .int x6)]) hx hb dX9_matchesAhead_72 hl (by decide) rfl (fun ls hl => ?_)
        obtain ⟨x5_74, q74, hf⟩ := zlt_s hf
        refine lv_iinc (v := x5_74) (lv' := [(5, .int x5_74), (4, .int r69.1), (3, .int y0), (0, .ref (b + h0)), (1, .int x1), (6, .int x6)]) hx hb dX9_matchesAhead_74 hl (k := 4) rfl (by rw [← q74]; rfl) (by decide) rfl (fun ls hl => ?_)
        refine lv_goto (tgt := 18) hx hb dX9_matchesAhead_77 (by decide) ?_
        exact ih18 _ _ _ _ _ _ _ _ _ hf hP hS (lv_sub hl [3, 4, 2, 1, 0] rfl)
      intro M H locs ls h0 x1 x3 x4 x5 hf hP hS hl
      have hf : fX9_matchesAhead_18  (fX9_matchesAhead_18L  n18) M h0 x1 x3 x4 x5 = some rr := hf
      unfold fX9_matchesAhead_18 at hf
      refine lv_iload hx hb dX9_matchesAhead_18 (lv_at hl 4 rfl) ?_
      refine lv_aload_n hx hb dX9_matchesAhead_20 rfl (lv_at hl 0 rfl) ?_
      obtain ⟨v21, e21, hf⟩ := zb hf
      refine zr_gi (ci := 9) (k := 31) (C := RX9) (T := TX9) (N := 54) hx hb hts hi_X9_matchesAhead_9 hown hK hP e21 rfl rfl (by decide) (by decide) (hts (.fieldLink RX9 207 "BoundaryAnalyzerModel" "length" "I") (List.mem_of_getElem? (i := 3) rfl)) dX9_matchesAhead_21 ?_
      refine lv_icmp_ge (tgt := 80) hx hb dX9_matchesAhead_24 (by decide) (fun c24 => ?_) (fun c24 => ?_)
      · have hf := (if_pos c24).symm.trans hf
        refine lv_iload_n hx hb dX9_matchesAhead_80 rfl (lv_at hl 2 rfl) ?_
        exact zret_z hx hb hr (Or.inl rfl) hlocks hf hP hS dX9_matchesAhead_81
      · have hf := (if_neg c24).symm.trans hf
        refine lv_iload hx hb dX9_matchesAhead_27 (lv_at hl 3 rfl) ?_
        refine lv_if_eq (tgt := 80) hx hb dX9_matchesAhead_29 (by decide) (fun c29 => ?_) (fun c29 => ?_)
        · have hf := (if_pos c29).symm.trans hf
          refine lv_iload_n hx hb dX9_matchesAhead_80 rfl (lv_at hl 2 rfl) ?_
          exact zret_z hx hb hr (Or.inl rfl) hlocks hf hP hS dX9_matchesAhead_81
        · have hf := (if_neg c29).symm.trans hf
          refine lv_iload_n hx hb dX9_matchesAhead_32 rfl (lv_at hl 2 rfl) ?_
          refine lv_if_ne (tgt := 80) hx hb dX9_matchesAhead_33 (by decide) (fun c33 => ?_) (fun c33 => ?_)
          · have hf := (if_neg c33).symm.trans hf
            refine lv_iload_n hx hb dX9_matchesAhead_80 rfl (lv_at hl 2 rfl) ?_
            exact zret_z hx hb hr (Or.inl rfl) hlocks hf hP hS dX9_matchesAhead_81
          · have hf := (if_pos c33).symm.trans hf
            refine lv_aload_n hx hb dX9_matchesAhead_36 rfl (lv_at hl 0 rfl) ?_
            refine lv_iload_n hx hb dX9_matchesAhead_37 rfl (lv_at hl 1 rfl) ?_
            refine lv_iload hx hb dX9_matchesAhead_38 (lv_at hl 3 rfl) ?_
            refine lv_iload hx hb dX9_matchesAhead_40 (lv_at hl 4 rfl) ?_
            obtain ⟨u42, t42, hf⟩ := zb hf
            obtain ⟨r42, e42, hf⟩ := zb hf
            refine zc_i hS (va_runV (As := [.int x1, .int x4, .int x5]) (rest := []) ⟨hx, hb, hml, hown, hts⟩ (k_X9_matching l D cy b M h0 x1 x4 x5 r42 e42) (cwV 3 hts gX9_matchesAhead_X9_matching rfl rfl rfl (by decide +kernel) ⟨Nat.le_of_ble_eq_true rfl, Nat.le_of_ble_eq_true rfl⟩) (zp_V _ hK hP t42 (T := TX9) (N := 54) rfl (by decide)) rfl rfl hl.1 rfl (lv_room (Nat.le_of_ble_eq_true rfl)) dX9_matchesAhead_42 ⟨Nat.zero_le _, Nat.zero_le _⟩) (fun H locs hP hS => ?_)
            refine lv_istore (lv' := [(6, .int r42.1), (0, .ref (b + h0)), (1, .int x1), (3, .int x3), (4, .int x4), (5, .int x5)]) hx hb dX9_matchesAhead_45 hl (by decide) rfl (fun ls hl => ?_)
            refine lv_iload hx hb dX9_matchesAhead_47 (lv_at hl 0 rfl) ?_
            refine lv_aload_n hx hb dX9_matchesAhead_49 rfl (lv_at hl 1 rfl) ?_
            obtain ⟨v50, e50, hf⟩ := zb hf
            refine zr_gr (ci := 9) (k := 30) (C := RX9) (T := TX9) (N := 54) hx hb hts hi_X9_matchesAhead_9 hown hK hP e50 rfl rfl (by decide) (by decide) (hts (.fieldLink RX9 75 "BoundaryAnalyzerModel" "lookLast" "[I") (List.mem_of_getElem? (i := 4) rfl)) dX9_matchesAhead_50 ?_
            refine lv_iload_n hx hb dX9_matchesAhead_53 rfl (lv_at hl 2 rfl) ?_
            obtain ⟨v54, e54, hf⟩ := zb hf
            refine zr_ai hx hb hK hP e54 dX9_matchesAhead_54 ?_
            refine lv_iand hx hb dX9_matchesAhead_55 ?_
            refine lv_if_eq (tgt := 63) hx hb dX9_matchesAhead_56 (by decide) (fun c56 => ?_) (fun c56 => ?_)
            · have hf := (if_pos c56).symm.trans hf
              refine lv_iconst (v := (0 : Int32)) hx hb dX9_matchesAhead_63 (by decide) ?_
              exact J64 _ _ _ _ _ _ _ _ _ hf hP hS (lv_sub hl [1, 2, 5, 0] rfl)
            · have hf := (if_neg c56).symm.trans hf
              refine lv_iconst (v := (1 : Int32)) hx hb dX9_matchesAhead_59 (by decide) ?_
              refine lv_goto (tgt := 64) hx hb dX9_matchesAhead_60 (by decide) ?_
              exact J64 _ _ _ _ _ _ _ _ _ hf hP hS (lv_sub hl [1, 2, 5, 0] rfl)
  unfold fX9_matchesAhead at hf
  refine lv_aload_n hx hb dX9_matchesAhead_0 rfl (lv_at hl 0 rfl) ?_
  obtain ⟨v1, e1, hf⟩ := zb hf
  refine zr_gr (ci := 9) (k := 28) (C := RX9) (T := TX9) (N := 54) hx hb hts hi_X9_matchesAhead_9 hown hK hP e1 rfl rfl (by decide) (by decide) (hts (.fieldLink RX9 69 "BoundaryAnalyzerModel" "lookNull" "[Z") (List.mem_of_getElem? (i := 1) rfl)) dX9_matchesAhead_1 ?_
  refine lv_iload_n hx hb dX9_matchesAhead_4 rfl (lv_at hl 1 rfl) ?_
  obtain ⟨v5, e5, hf⟩ := zb hf
  refine zr_az hx hb hK hP e5 dX9_matchesAhead_5 ?_
  refine lv_istore_n (lv' := [(3, .int v5), (0, .ref (b + p0)), (1, .int p1), (2, .int p2)]) hx hb dX9_matchesAhead_6 rfl hl (by decide) rfl (fun ls hl => ?_)
  refine lv_aload_n hx hb dX9_matchesAhead_7 rfl (lv_at hl 1 rfl) ?_
  obtain ⟨v8, e8, hf⟩ := zb hf
  refine zr_gr (ci := 9) (k := 29) (C := RX9) (T := TX9) (N := 54) hx hb hts hi_X9_matchesAhead_9 hown hK hP e8 rfl rfl (by decide) (by decide) (hts (.fieldLink RX9 72 "BoundaryAnalyzerModel" "lookFirst" "[I") (List.mem_of_getElem? (i := 2) rfl)) dX9_matchesAhead_8 ?_
  refine lv_iload_n hx hb dX9_matchesAhead_11 rfl (lv_at hl 2 rfl) ?_
  obtain ⟨v12, e12, hf⟩ := zb hf
  refine zr_ai hx hb hK hP e12 dX9_matchesAhead_12 ?_
  refine lv_istore (lv' := [(4, .int v12), (3, .int v5), (0, .ref (b + p0)), (1, .int p1), (2, .int p2)]) hx hb dX9_matchesAhead_13 hl (by decide) rfl (fun ls hl => ?_)
  refine lv_iload_n hx hb dX9_matchesAhead_15 rfl (lv_at hl 4 rfl) ?_
  refine lv_istore (lv' := [(5, .int p2), (4, .int v12), (3, .int v5), (0, .ref (b + p0)), (1, .int p1), (2, .int p2)]) hx hb dX9_matchesAhead_16 hl (by decide) rfl (fun ls hl => ?_)
  exact L18 _ _ _ _ _ _ _ _ _ _ hf hP hS (lv_sub hl [3, 4, 2, 1, 0] rfl)
