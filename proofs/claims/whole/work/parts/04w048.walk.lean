set_option maxHeartbeats 4000000 in
set_option maxRecDepth 100000 in
theorem k_X9_isRepeat (l : Launch) (p0 : Int32) (rr : Int32) (hf : fX9_isRepeat p0 = some rr) : Met l yX9_isRepeat wsX9_isRepeat ({ frames := 0, cells := 0, slots := 0, locals := 0 } : Room) (zPp [.int p0]) (zQp rr) 0 0 zNo := by
  refine Met.ofW (cc := cX9_isRepeat) (maxL := 1) (ret := (some .boolean)) (by decide) rfl ?_
  intro p e s m args below meth c s₁ B hml hv
  obtain ⟨rfl, -⟩ := hv
  have hx := B.exec
  have hb := B.bytes
  have hr := B.returns
  have hts := atoms_spec (ws := wsX9_isRepeat) B.pre
  have hown : s.vm.findClass RX9 = some m.cls := findClass_of_methodNamed B.named
  have hlocks := B.notSynchronized
  have hl := lv_entry ([.int p0]) (n := 1) (Nat.le_of_ble_eq_true rfl)
  rw [lg_entry_eq]
  generalize (lg_sl ([.int p0]) ++ List.replicate (1 - (lg_sl ([.int p0])).length) Slot.unset).toArray = ls at hl ⊢
  have hl : lv_has ls 1 [(0, .int p0)] := hl
  have J18 : ∀ (ls : Array Slot) , fX9_isRepeat_18   = some rr → lv_has ls 1 [] → W p l e (headSpec wsX9_isRepeat ({ frames := 0, cells := 0, slots := 0, locals := 0 } : Room)).room s m ([.int p0] : List Value).toArray below meth c s.heap [] 0 0 (MQ below (zQp rr) ([.int p0] : List Value).toArray s 0 0 zNo) (F0 m 18 ls []) := by
    intro ls  hf hl
    unfold fX9_isRepeat_18 at hf
    refine lv_iconst (v := (1 : Int32)) hx hb dX9_isRepeat_18 (by decide) ?_
    refine lv_goto (tgt := 23) hx hb dX9_isRepeat_19 (by decide) ?_
    exact zret_pz hx hb hr (Or.inl rfl) hlocks hf dX9_isRepeat_23
  unfold fX9_isRepeat at hf
  refine lv_iload_n hx hb dX9_isRepeat_0 rfl (lv_at hl 0 rfl) ?_
  refine lv_bipush (v := (42 : Int32)) hx hb dX9_isRepeat_1 (by decide) ?_
  refine lv_icmp_eq (tgt := 18) hx hb dX9_isRepeat_3 (by decide) (fun c3 => ?_) (fun c3 => ?_)
  · have hf := (if_pos c3).symm.trans hf
    exact J18 _ hf (lv_sub hl [] rfl)
  · have hf := (if_neg c3).symm.trans hf
    refine lv_iload_n hx hb dX9_isRepeat_6 rfl (lv_at hl 0 rfl) ?_
    refine lv_bipush (v := (43 : Int32)) hx hb dX9_isRepeat_7 (by decide) ?_
    refine lv_icmp_eq (tgt := 18) hx hb dX9_isRepeat_9 (by decide) (fun c9 => ?_) (fun c9 => ?_)
    · have hf := (if_pos c9).symm.trans hf
      exact J18 _ hf (lv_sub hl [] rfl)
    · have hf := (if_neg c9).symm.trans hf
      refine lv_iload_n hx hb dX9_isRepeat_12 rfl (lv_at hl 0 rfl) ?_
      refine lv_bipush (v := (63 : Int32)) hx hb dX9_isRepeat_13 (by decide) ?_
      refine lv_icmp_ne (tgt := 22) hx hb dX9_isRepeat_15 (by decide) (fun c15 => ?_) (fun c15 => ?_)
      · have hf := (if_neg c15).symm.trans hf
        refine lv_iconst (v := (0 : Int32)) hx hb dX9_isRepeat_22 (by decide) ?_
        exact zret_pz hx hb hr (Or.inl rfl) hlocks hf dX9_isRepeat_23
      · have hf := (if_pos c15).symm.trans hf
        exact J18 _ hf (lv_sub hl [] rfl)
theorem hi_X9_endItem_9 : ∀ w ∈ wsX90, w ∈ wsX9_endItem := fun _ h => List.mem_cons_of_mem _ (List.mem_append_right _ h)
set_option maxHeartbeats 4000000 in
set_option maxRecDepth 100000 in
theorem k_X9_endItem (l : Launch) (D : va_G) (cy : Nat → ClassId) (b : Nat) (M0 : Mem) (p0 : Nat) (p1 : Int32) (rr : Int32 × Mem) (hf : fX9_endItem M0 p0 p1 = some rr) : Met l yX9_endItem wsX9_endItem ({ frames := 2, cells := 0, slots := 0, locals := 43 } : Room) (zPc D cy b M0 [.ref (b + p0), .int p1]) (zQi D cy b rr) 0 0 (zA b) := by
  refine Met.ofW (cc := cX9_endItem) (maxL := 3) (ret := (some .int)) (by decide) rfl ?_
  intro p e s m args below meth c s₁ B hml hv
  obtain ⟨rfl, hP, hK⟩ := hv
  have hx := B.exec
  have hb := B.bytes
  have hr := B.returns
  have hts := atoms_spec (ws := wsX9_endItem) B.pre
  have hown : s.vm.findClass RX9 = some m.cls := findClass_of_methodNamed B.named
  have hlocks := B.notSynchronized
  have hS : va_S (zA b) s.heap s.heap [] := va_S.rf
  have hl := lv_entry ([.ref (b + p0), .int p1]) (n := 3) (Nat.le_of_ble_eq_true rfl)
  rw [lg_entry_eq]
  generalize (lg_sl ([.ref (b + p0), .int p1]) ++ List.replicate (3 - (lg_sl ([.ref (b + p0), .int p1])).length) Slot.unset).toArray = ls at hl ⊢
  have hl : lv_has ls 3 [(0, .ref (b + p0)), (1, .int p1)] := hl
  have J76 : ∀ (M : Mem) (H : Heap) (locs : List Loc) (ls : Array Slot) (h0 : Nat) (x2 : Int32), fX9_endItem_76  M h0 x2 = some rr → zH D cy b M H → va_S (zA b) s.heap H locs → lv_has ls 3 [(0, .ref (b + h0)), (2, .int x2)] → W p l e (headSpec wsX9_endItem ({ frames := 2, cells := 0, slots := 0, locals := 43 } : Room)).room s m ([.ref (b + p0), .int p1] : List Value).toArray below meth c H locs 0 0 (MQ below (zQi D cy b rr) ([.ref (b + p0), .int p1] : List Value).toArray s 0 0 (zA b)) (F0 m 76 ls []) := by
    intro M H locs ls h0 x2 hf hP hS hl
    unfold fX9_endItem_76 at hf
    refine lv_aload_n hx hb dX9_endItem_76 rfl (lv_at hl 0 rfl) ?_
    obtain ⟨u77, t77, hf⟩ := zb hf
    obtain ⟨M77, e77, hf⟩ := zb hf
    refine zc_v hS (va_runV (As := []) (rest := []) ⟨hx, hb, hml, hown, hts⟩ (k_X9_addItem l D cy b M h0  M77 e77) (cwV 0 hts gX9_endItem_X9_addItem rfl rfl rfl (by decide +kernel) ⟨Nat.le_of_ble_eq_true rfl, Nat.le_of_ble_eq_true rfl⟩) (zp_V _ hK hP t77 (T := TX9) (N := 54) rfl (by decide)) rfl rfl hl.1 rfl (lv_room (Nat.le_of_ble_eq_true rfl)) dX9_endItem_77 ⟨Nat.zero_le _, Nat.zero_le _⟩) (fun H locs hP hS => ?_)
    refine lv_iload_n hx hb dX9_endItem_80 rfl (lv_at hl 1 rfl) ?_
    exact zret_i hx hb hr hlocks hf hP hS dX9_endItem_81
  have J69 : ∀ (M : Mem) (H : Heap) (locs : List Loc) (ls : Array Slot) (h0 : Nat) (x1 : Int32) (g0 : Nat) (y1 : Int32), fX9_endItem_69  M h0 x1 g0 y1 = some rr → zH D cy b M H → va_S (zA b) s.heap H locs → lv_has ls 3 [(0, .ref (b + h0)), (1, .int x1)] → W p l e (headSpec wsX9_endItem ({ frames := 2, cells := 0, slots := 0, locals := 43 } : Room)).room s m ([.ref (b + p0), .int p1] : List Value).toArray below meth c H locs 0 0 (MQ below (zQi D cy b rr) ([.ref (b + p0), .int p1] : List Value).toArray s 0 0 (zA b)) (F0 m 69 ls [.int y1, .ref (b + g0)]) := by
    intro M H locs ls h0 x1 g0 y1 hf hP hS hl
    unfold fX9_endItem_69 at hf
    obtain ⟨M69, e69, hf⟩ := zb hf
    refine zr_pz (ci := 9) (k := 11) (C := RX9) (T := TX9) (N := 54) hx hb hts hi_X9_endItem_9 tyX9 tyX9_ok nmX9 hown hK hP hS e69 rfl rfl (by decide) (by decide) (hts (.fieldLink RX9 164 "BoundaryAnalyzerModel" "itemNull" "Z") (List.mem_of_getElem? (i := 5) rfl)) rfl (tyX9_ok 11 (by decide)) dX9_endItem_69 (fun H locs hP _ hS => ?_)
    refine lv_iload_n hx hb dX9_endItem_72 rfl (lv_at hl 1 rfl) ?_
    refine lv_iconst (v := (1 : Int32)) hx hb dX9_endItem_73 (by decide) ?_
    refine lv_iadd hx hb dX9_endItem_74 ?_
    obtain ⟨x2_75, q75, hf⟩ := zlt_s hf
    refine zt q75 ?_
    refine lv_istore_n (lv' := [(2, .int x2_75), (0, .ref (b + h0)), (1, .int x1)]) hx hb dX9_endItem_75 rfl hl (by decide) rfl (fun ls hl => ?_)
    exact J76 _ _ _ _ _ _ hf hP hS (lv_sub hl [1, 0] rfl)
  have J64 : ∀ (M : Mem) (H : Heap) (locs : List Loc) (ls : Array Slot) (h0 : Nat) (x1 : Int32) (g0 : Nat), fX9_endItem_64  M h0 x1 g0 = some rr → zH D cy b M H → va_S (zA b) s.heap H locs → lv_has ls 3 [(0, .ref (b + h0)), (1, .int x1)] → W p l e (headSpec wsX9_endItem ({ frames := 2, cells := 0, slots := 0, locals := 43 } : Room)).room s m ([.ref (b + p0), .int p1] : List Value).toArray below meth c H locs 0 0 (MQ below (zQi D cy b rr) ([.ref (b + p0), .int p1] : List Value).toArray s 0 0 (zA b)) (F0 m 64 ls [.ref (b + g0)]) := by
    intro M H locs ls h0 x1 g0 hf hP hS hl
    unfold fX9_endItem_64 at hf
    refine lv_iconst (v := (1 : Int32)) hx hb dX9_endItem_64 (by decide) ?_
    refine lv_goto (tgt := 69) hx hb dX9_endItem_65 (by decide) ?_
    exact J69 _ _ _ _ _ _ _ _ hf hP hS (lv_sub hl [0, 1] rfl)
  have J45 : ∀ (M : Mem) (H : Heap) (locs : List Loc) (ls : Array Slot) (h0 : Nat) (x1 : Int32), fX9_endItem_45  M h0 x1 = some rr → zH D cy b M H → va_S (zA b) s.heap H locs → lv_has ls 3 [(0, .ref (b + h0)), (1, .int x1)] → W p l e (headSpec wsX9_endItem ({ frames := 2, cells := 0, slots := 0, locals := 43 } : Room)).room s m ([.ref (b + p0), .int p1] : List Value).toArray below meth c H locs 0 0 (MQ below (zQi D cy b rr) ([.ref (b + p0), .int p1] : List Value).toArray s 0 0 (zA b)) (F0 m 45 ls []) := by
    intro M H locs ls h0 x1 hf hP hS hl
    unfold fX9_endItem_45 at hf
    refine lv_aload_n hx hb dX9_endItem_45 rfl (lv_at hl 0 rfl) ?_
    refine lv_aload_n hx hb dX9_endItem_46 rfl (lv_at hl 0 rfl) ?_
    obtain ⟨v47, e47, hf⟩ := zb hf
    refine zr_gi (ci := 9) (k := 11) (C := RX9) (T := TX9) (N := 54) hx hb hts hi_X9_endItem_9 hown hK hP e47 rfl rfl (by decide) (by decide) (hts (.fieldLink RX9 164 "BoundaryAnalyzerModel" "itemNull" "Z") (List.mem_of_getElem? (i := 5) rfl)) dX9_endItem_47 ?_
    refine lv_if_ne (tgt := 64) hx hb dX9_endItem_50 (by decide) (fun c50 => ?_) (fun c50 => ?_)
    · have hf := (if_neg c50).symm.trans hf
      exact J64 _ _ _ _ _ _ _ hf hP hS (lv_sub hl [0, 1] rfl)
    · have hf := (if_pos c50).symm.trans hf
      refine lv_aload_n hx hb dX9_endItem_53 rfl (lv_at hl 0 rfl) ?_
      obtain ⟨v54, e54, hf⟩ := zb hf
      refine zr_gr (ci := 9) (k := 2) (C := RX9) (T := TX9) (N := 54) hx hb hts hi_X9_endItem_9 hown hK hP e54 rfl rfl (by decide) (by decide) (hts (.fieldLink RX9 13 "BoundaryAnalyzerModel" "pattern" "[C") (List.mem_of_getElem? (i := 2) rfl)) dX9_endItem_54 ?_
      refine lv_iload_n hx hb dX9_endItem_57 rfl (lv_at hl 1 rfl) ?_
      obtain ⟨v58, e58, hf⟩ := zb hf
      refine zr_ac hx hb hK hP e58 dX9_endItem_58 ?_
      refine lv_bipush (v := (43 : Int32)) hx hb dX9_endItem_59 (by decide) ?_
      refine lv_icmp_eq (tgt := 68) hx hb dX9_endItem_61 (by decide) (fun c61 => ?_) (fun c61 => ?_)
      · have hf := (if_pos c61).symm.trans hf
        refine lv_iconst (v := (0 : Int32)) hx hb dX9_endItem_68 (by decide) ?_
        exact J69 _ _ _ _ _ _ _ _ hf hP hS (lv_sub hl [0, 1] rfl)
      · have hf := (if_neg c61).symm.trans hf
        exact J64 _ _ _ _ _ _ _ hf hP hS (lv_sub hl [0, 1] rfl)
  unfold fX9_endItem at hf
  refine lv_iload_n hx hb dX9_endItem_0 rfl (lv_at hl 1 rfl) ?_
  refine lv_istore_n (lv' := [(2, .int p1), (0, .ref (b + p0)), (1, .int p1)]) hx hb dX9_endItem_1 rfl hl (by decide) rfl (fun ls hl => ?_)
  refine lv_iload_n hx hb dX9_endItem_2 rfl (lv_at hl 2 rfl) ?_
  refine lv_aload_n hx hb dX9_endItem_3 rfl (lv_at hl 1 rfl) ?_
  obtain ⟨v4, e4, hf⟩ := zb hf
  refine zr_gi (ci := 9) (k := 1) (C := RX9) (T := TX9) (N := 54) hx hb hts hi_X9_endItem_9 hown hK hP e4 rfl rfl (by decide) (by decide) (hts (.fieldLink RX9 144 "BoundaryAnalyzerModel" "typed" "I") (List.mem_of_getElem? (i := 1) rfl)) dX9_endItem_4 ?_
  refine lv_icmp_ge (tgt := 76) hx hb dX9_endItem_7 (by decide) (fun c7 => ?_) (fun c7 => ?_)
  · have hf := (if_pos c7).symm.trans hf
    exact J76 _ _ _ _ _ _ hf hP hS (lv_sub hl [1, 0] rfl)
  · have hf := (if_neg c7).symm.trans hf
    refine lv_aload_n hx hb dX9_endItem_10 rfl (lv_at hl 1 rfl) ?_
    obtain ⟨v11, e11, hf⟩ := zb hf
    refine zr_gr (ci := 9) (k := 2) (C := RX9) (T := TX9) (N := 54) hx hb hts hi_X9_endItem_9 hown hK hP e11 rfl rfl (by decide) (by decide) (hts (.fieldLink RX9 13 "BoundaryAnalyzerModel" "pattern" "[C") (List.mem_of_getElem? (i := 2) rfl)) dX9_endItem_11 ?_
    refine lv_iload_n hx hb dX9_endItem_14 rfl (lv_at hl 2 rfl) ?_
    obtain ⟨v15, e15, hf⟩ := zb hf
    refine zr_ac hx hb hK hP e15 dX9_endItem_15 ?_
    obtain ⟨v16, e16, hf⟩ := zb hf
    refine zc_p (va_runS (As := [.int v15]) (rest := []) ⟨hx, hb, hml, hown, hts⟩ (k_X9_isRepeat l v15 v16 e16) (va_cwS 1 hts gX9_endItem_X9_isRepeat rfl rfl rfl (by decide +kernel) ⟨Nat.le_of_ble_eq_true rfl, Nat.le_of_ble_eq_true rfl⟩) (zp_p _) rfl rfl hl.1 rfl (lv_room (Nat.le_of_ble_eq_true rfl)) dX9_endItem_16 ⟨Nat.zero_le _, Nat.zero_le _⟩) ?_
    refine lv_if_eq (tgt := 76) hx hb dX9_endItem_19 (by decide) (fun c19 => ?_) (fun c19 => ?_)
    · have hf := (if_pos c19).symm.trans hf
      exact J76 _ _ _ _ _ _ hf hP hS (lv_sub hl [1, 0] rfl)
    · have hf := (if_neg c19).symm.trans hf
      refine lv_aload_n hx hb dX9_endItem_22 rfl (lv_at hl 1 rfl) ?_
      obtain ⟨v23, e23, hf⟩ := zb hf
      refine zr_gr (ci := 9) (k := 2) (C := RX9) (T := TX9) (N := 54) hx hb hts hi_X9_endItem_9 hown hK hP e23 rfl rfl (by decide) (by decide) (hts (.fieldLink RX9 13 "BoundaryAnalyzerModel" "pattern" "[C") (List.mem_of_getElem? (i := 2) rfl)) dX9_endItem_23 ?_
      refine lv_iload_n hx hb dX9_endItem_26 rfl (lv_at hl 2 rfl) ?_
      obtain ⟨v27, e27, hf⟩ := zb hf
      refine zr_ac hx hb hK hP e27 dX9_endItem_27 ?_
      refine lv_bipush (v := (63 : Int32)) hx hb dX9_endItem_28 (by decide) ?_
      refine lv_icmp_eq (tgt := 45) hx hb dX9_endItem_30 (by decide) (fun c30 => ?_) (fun c30 => ?_)
      · have hf := (if_pos c30).symm.trans hf
        exact J45 _ _ _ _ _ _ hf hP hS (lv_sub hl [1, 2] rfl)
      · have hf := (if_neg c30).symm.trans hf
        refine lv_aload_n hx hb dX9_endItem_33 rfl (lv_at hl 1 rfl) ?_
        refine lv_aload_n hx hb dX9_endItem_34 rfl (lv_at hl 1 rfl) ?_
        obtain ⟨v35, e35, hf⟩ := zb hf
        refine zr_gi (ci := 9) (k := 13) (C := RX9) (T := TX9) (N := 54) hx hb hts hi_X9_endItem_9 hown hK hP e35 rfl rfl (by decide) (by decide) (hts (.fieldLink RX9 161 "BoundaryAnalyzerModel" "itemLast" "I") (List.mem_of_getElem? (i := 3) rfl)) dX9_endItem_35 ?_
        refine lv_aload_n hx hb dX9_endItem_38 rfl (lv_at hl 1 rfl) ?_
        obtain ⟨v39, e39, hf⟩ := zb hf
        refine zr_gi (ci := 9) (k := 12) (C := RX9) (T := TX9) (N := 54) hx hb hts hi_X9_endItem_9 hown hK hP e39 rfl rfl (by decide) (by decide) (hts (.fieldLink RX9 154 "BoundaryAnalyzerModel" "itemFirst" "I") (List.mem_of_getElem? (i := 4) rfl)) dX9_endItem_39 ?_
        obtain ⟨u42, t42, hf⟩ := zb hf
        obtain ⟨M42, e42, hf⟩ := zb hf
        refine zc_v hS (va_runV (As := [.int v35, .int v39]) (rest := []) ⟨hx, hb, hml, hown, hts⟩ (k_X9_follows l D cy b M0 p0 v35 v39 M42 e42) (cwV 2 hts gX9_endItem_X9_follows rfl rfl rfl (by decide +kernel) ⟨Nat.le_of_ble_eq_true rfl, Nat.le_of_ble_eq_true rfl⟩) (zp_V _ hK hP t42 (T := TX9) (N := 54) rfl (by decide)) rfl rfl hl.1 rfl (lv_room (Nat.le_of_ble_eq_true rfl)) dX9_endItem_42 ⟨Nat.zero_le _, Nat.zero_le _⟩) (fun H locs hP hS => ?_)
        exact J45 _ _ _ _ _ _ hf hP hS (lv_sub hl [1, 2] rfl)
