theorem hi_X8_clearPattern_4 : ∀ w ∈ wsX40, w ∈ wsX8_clearPattern := fun _ h => List.mem_cons_of_mem _ (List.mem_append_right _ h)
theorem hi_X8_clearPattern_8 : ∀ w ∈ wsX80, w ∈ wsX8_clearPattern := fun _ h => List.mem_cons_of_mem _ (List.mem_append_left _ (List.mem_append_right _ h))
set_option maxHeartbeats 4000000 in
set_option maxRecDepth 100000 in
theorem k_X8_clearPattern (l : Launch) (D : va_G) (cy : Nat → ClassId) (b : Nat) (M0 : Mem) (p0 : Nat) (rr : Int32 × Mem) (hf : fX8_clearPattern M0 p0 = some rr) : Met l yX8_clearPattern wsX8_clearPattern ({ frames := 0, cells := 0, slots := 0, locals := 0 } : Room) (zPc D cy b M0 [.ref (b + p0)]) (zQi D cy b rr) 0 0 (zA b) := by
  refine Met.ofW (cc := cX8_clearPattern) (maxL := 2) (ret := (some .int)) (by decide) rfl ?_
  intro p e s m args below meth c s₁ B hml hv
  obtain ⟨rfl, hP, hK⟩ := hv
  have hx := B.exec
  have hb := B.bytes
  have hr := B.returns
  have hts := atoms_spec (ws := wsX8_clearPattern) B.pre
  have hown : s.vm.findClass RX8 = some m.cls := findClass_of_methodNamed B.named
  have hlocks := B.notSynchronized
  have hS : va_S (zA b) s.heap s.heap [] := va_S.rf
  have hl := lv_entry ([.ref (b + p0)]) (n := 2) (Nat.le_of_ble_eq_true rfl)
  rw [lg_entry_eq]
  generalize (lg_sl ([.ref (b + p0)]) ++ List.replicate (2 - (lg_sl ([.ref (b + p0)])).length) Slot.unset).toArray = ls at hl ⊢
  have hl : lv_has ls 2 [(0, .ref (b + p0))] := hl
  unfold fX8_clearPattern at hf
  refine lv_aload_n hx hb dX8_clearPattern_0 rfl (lv_at hl 0 rfl) ?_
  obtain ⟨v1, e1, hf⟩ := zb hf
  refine zr_gr (ci := 8) (k := 1) (C := RX8) (T := TX8) (N := 7) hx hb hts hi_X8_clearPattern_8 hown hK hP e1 rfl rfl (by decide) (by decide) (hts (.fieldLink RX8 21 "BoundaryAnalyzer" "pattern" "LBoundaryAnalyzer$Row;") (List.mem_of_getElem? (i := 1) rfl)) dX8_clearPattern_1 ?_
  obtain ⟨v4, e4, hf⟩ := zb hf
  refine zr_gi (ci := 4) (k := 1) (C := RX4) (T := TX4) (N := 2) hx hb hts hi_X8_clearPattern_4 hown hK hP e4 rfl rfl (by decide) (by decide) (hts (.fieldLink RX8 70 "BoundaryAnalyzer$Row" "size" "I") (List.mem_of_getElem? (i := 2) rfl)) dX8_clearPattern_4 ?_
  refine lv_istore_n (lv' := [(1, .int v4), (0, .ref (b + p0))]) hx hb dX8_clearPattern_7 rfl hl (by decide) rfl (fun ls hl => ?_)
  refine lv_aload_n hx hb dX8_clearPattern_8 rfl (lv_at hl 1 rfl) ?_
  obtain ⟨v9, e9, hf⟩ := zb hf
  refine zr_gr (ci := 8) (k := 1) (C := RX8) (T := TX8) (N := 7) hx hb hts hi_X8_clearPattern_8 hown hK hP e9 rfl rfl (by decide) (by decide) (hts (.fieldLink RX8 21 "BoundaryAnalyzer" "pattern" "LBoundaryAnalyzer$Row;") (List.mem_of_getElem? (i := 1) rfl)) dX8_clearPattern_9 ?_
  refine lv_iconst (v := (0 : Int32)) hx hb dX8_clearPattern_12 (by decide) ?_
  obtain ⟨M13, e13, hf⟩ := zb hf
  refine zr_pi (ci := 4) (k := 1) (C := RX4) (T := TX4) (N := 2) hx hb hts hi_X8_clearPattern_4 tyX4 tyX4_ok nmX4 hown hK hP hS e13 rfl rfl (by decide) (by decide) (hts (.fieldLink RX8 70 "BoundaryAnalyzer$Row" "size" "I") (List.mem_of_getElem? (i := 2) rfl)) rfl (tyX4_ok 1 (by decide)) dX8_clearPattern_13 (fun H locs hP _ hS => ?_)
  refine lv_iload_n hx hb dX8_clearPattern_16 rfl (lv_at hl 0 rfl) ?_
  exact zret_i hx hb hr hlocks hf hP hS dX8_clearPattern_17
set_option maxHeartbeats 4000000 in
set_option maxRecDepth 100000 in
theorem k_X8_isKind (l : Launch) (p0 : Int32) (rr : Int32) (hf : fX8_isKind p0 = some rr) : Met l yX8_isKind wsX8_isKind ({ frames := 0, cells := 0, slots := 0, locals := 0 } : Room) (zPp [.int p0]) (zQp rr) 0 0 zNo := by
  refine Met.ofW (cc := cX8_isKind) (maxL := 1) (ret := (some .boolean)) (by decide) rfl ?_
  intro p e s m args below meth c s₁ B hml hv
  obtain ⟨rfl, -⟩ := hv
  have hx := B.exec
  have hb := B.bytes
  have hr := B.returns
  have hts := atoms_spec (ws := wsX8_isKind) B.pre
  have hown : s.vm.findClass RX8 = some m.cls := findClass_of_methodNamed B.named
  have hlocks := B.notSynchronized
  have hl := lv_entry ([.int p0]) (n := 1) (Nat.le_of_ble_eq_true rfl)
  rw [lg_entry_eq]
  generalize (lg_sl ([.int p0]) ++ List.replicate (1 - (lg_sl ([.int p0])).length) Slot.unset).toArray = ls at hl ⊢
  have hl : lv_has ls 1 [(0, .int p0)] := hl
  unfold fX8_isKind at hf
  refine lv_iload_n hx hb dX8_isKind_0 rfl (lv_at hl 0 rfl) ?_
  refine lv_if_lt (tgt := 13) hx hb dX8_isKind_1 (by decide) (fun c1 => ?_) (fun c1 => ?_)
  · have hf := (if_pos c1).symm.trans hf
    refine lv_iconst (v := (0 : Int32)) hx hb dX8_isKind_13 (by decide) ?_
    exact zret_pz hx hb hr (Or.inl rfl) hlocks hf dX8_isKind_14
  · have hf := (if_neg c1).symm.trans hf
    refine lv_iload_n hx hb dX8_isKind_4 rfl (lv_at hl 0 rfl) ?_
    refine lv_iconst (v := (3 : Int32)) hx hb dX8_isKind_5 (by decide) ?_
    refine lv_icmp_ge (tgt := 13) hx hb dX8_isKind_6 (by decide) (fun c6 => ?_) (fun c6 => ?_)
    · have hf := (if_pos c6).symm.trans hf
      refine lv_iconst (v := (0 : Int32)) hx hb dX8_isKind_13 (by decide) ?_
      exact zret_pz hx hb hr (Or.inl rfl) hlocks hf dX8_isKind_14
    · have hf := (if_neg c6).symm.trans hf
      refine lv_iconst (v := (1 : Int32)) hx hb dX8_isKind_9 (by decide) ?_
      refine lv_goto (tgt := 14) hx hb dX8_isKind_10 (by decide) ?_
      exact zret_pz hx hb hr (Or.inl rfl) hlocks hf dX8_isKind_14
set_option maxHeartbeats 4000000 in
set_option maxRecDepth 100000 in
theorem k_X8_isPlace (l : Launch) (p0 : Int32) (rr : Int32) (hf : fX8_isPlace p0 = some rr) : Met l yX8_isPlace wsX8_isPlace ({ frames := 0, cells := 0, slots := 0, locals := 0 } : Room) (zPp [.int p0]) (zQp rr) 0 0 zNo := by
  refine Met.ofW (cc := cX8_isPlace) (maxL := 1) (ret := (some .boolean)) (by decide) rfl ?_
  intro p e s m args below meth c s₁ B hml hv
  obtain ⟨rfl, -⟩ := hv
  have hx := B.exec
  have hb := B.bytes
  have hr := B.returns
  have hts := atoms_spec (ws := wsX8_isPlace) B.pre
  have hown : s.vm.findClass RX8 = some m.cls := findClass_of_methodNamed B.named
  have hlocks := B.notSynchronized
  have hl := lv_entry ([.int p0]) (n := 1) (Nat.le_of_ble_eq_true rfl)
  rw [lg_entry_eq]
  generalize (lg_sl ([.int p0]) ++ List.replicate (1 - (lg_sl ([.int p0])).length) Slot.unset).toArray = ls at hl ⊢
  have hl : lv_has ls 1 [(0, .int p0)] := hl
  unfold fX8_isPlace at hf
  refine lv_iload_n hx hb dX8_isPlace_0 rfl (lv_at hl 0 rfl) ?_
  refine lv_if_lt (tgt := 13) hx hb dX8_isPlace_1 (by decide) (fun c1 => ?_) (fun c1 => ?_)
  · have hf := (if_pos c1).symm.trans hf
    refine lv_iconst (v := (0 : Int32)) hx hb dX8_isPlace_13 (by decide) ?_
    exact zret_pz hx hb hr (Or.inl rfl) hlocks hf dX8_isPlace_14
  · have hf := (if_neg c1).symm.trans hf
    refine lv_iload_n hx hb dX8_isPlace_4 rfl (lv_at hl 0 rfl) ?_
    refine lv_iconst (v := (5 : Int32)) hx hb dX8_isPlace_5 (by decide) ?_
    refine lv_icmp_ge (tgt := 13) hx hb dX8_isPlace_6 (by decide) (fun c6 => ?_) (fun c6 => ?_)
    · have hf := (if_pos c6).symm.trans hf
      refine lv_iconst (v := (0 : Int32)) hx hb dX8_isPlace_13 (by decide) ?_
      exact zret_pz hx hb hr (Or.inl rfl) hlocks hf dX8_isPlace_14
    · have hf := (if_neg c6).symm.trans hf
      refine lv_iconst (v := (1 : Int32)) hx hb dX8_isPlace_9 (by decide) ?_
      refine lv_goto (tgt := 14) hx hb dX8_isPlace_10 (by decide) ?_
      exact zret_pz hx hb hr (Or.inl rfl) hlocks hf dX8_isPlace_14
set_option maxHeartbeats 4000000 in
set_option maxRecDepth 100000 in
theorem k_X8_isRepetition (l : Launch) (p0 : Int32) (rr : Int32) (hf : fX8_isRepetition p0 = some rr) : Met l yX8_isRepetition wsX8_isRepetition ({ frames := 0, cells := 0, slots := 0, locals := 0 } : Room) (zPp [.int p0]) (zQp rr) 0 0 zNo := by
  refine Met.ofW (cc := cX8_isRepetition) (maxL := 1) (ret := (some .boolean)) (by decide) rfl ?_
  intro p e s m args below meth c s₁ B hml hv
  obtain ⟨rfl, -⟩ := hv
  have hx := B.exec
  have hb := B.bytes
  have hr := B.returns
  have hts := atoms_spec (ws := wsX8_isRepetition) B.pre
  have hown : s.vm.findClass RX8 = some m.cls := findClass_of_methodNamed B.named
  have hlocks := B.notSynchronized
  have hl := lv_entry ([.int p0]) (n := 1) (Nat.le_of_ble_eq_true rfl)
  rw [lg_entry_eq]
  generalize (lg_sl ([.int p0]) ++ List.replicate (1 - (lg_sl ([.int p0])).length) Slot.unset).toArray = ls at hl ⊢
  have hl : lv_has ls 1 [(0, .int p0)] := hl
  have J18 : ∀ (ls : Array Slot) , fX8_isRepetition_18   = some rr → lv_has ls 1 [] → W p l e (headSpec wsX8_isRepetition ({ frames := 0, cells := 0, slots := 0, locals := 0 } : Room)).room s m ([.int p0] : List Value).toArray below meth c s.heap [] 0 0 (MQ below (zQp rr) ([.int p0] : List Value).toArray s 0 0 zNo) (F0 m 18 ls []) := by
    intro ls  hf hl
    unfold fX8_isRepetition_18 at hf
    refine lv_iconst (v := (1 : Int32)) hx hb dX8_isRepetition_18 (by decide) ?_
    refine lv_goto (tgt := 23) hx hb dX8_isRepetition_19 (by decide) ?_
    exact zret_pz hx hb hr (Or.inl rfl) hlocks hf dX8_isRepetition_23
  unfold fX8_isRepetition at hf
  refine lv_iload_n hx hb dX8_isRepetition_0 rfl (lv_at hl 0 rfl) ?_
  refine lv_bipush (v := (42 : Int32)) hx hb dX8_isRepetition_1 (by decide) ?_
  refine lv_icmp_eq (tgt := 18) hx hb dX8_isRepetition_3 (by decide) (fun c3 => ?_) (fun c3 => ?_)
  · have hf := (if_pos c3).symm.trans hf
    exact J18 _ hf (lv_sub hl [] rfl)
  · have hf := (if_neg c3).symm.trans hf
    refine lv_iload_n hx hb dX8_isRepetition_6 rfl (lv_at hl 0 rfl) ?_
    refine lv_bipush (v := (43 : Int32)) hx hb dX8_isRepetition_7 (by decide) ?_
    refine lv_icmp_eq (tgt := 18) hx hb dX8_isRepetition_9 (by decide) (fun c9 => ?_) (fun c9 => ?_)
    · have hf := (if_pos c9).symm.trans hf
      exact J18 _ hf (lv_sub hl [] rfl)
    · have hf := (if_neg c9).symm.trans hf
      refine lv_iload_n hx hb dX8_isRepetition_12 rfl (lv_at hl 0 rfl) ?_
      refine lv_bipush (v := (63 : Int32)) hx hb dX8_isRepetition_13 (by decide) ?_
      refine lv_icmp_ne (tgt := 22) hx hb dX8_isRepetition_15 (by decide) (fun c15 => ?_) (fun c15 => ?_)
      · have hf := (if_neg c15).symm.trans hf
        refine lv_iconst (v := (0 : Int32)) hx hb dX8_isRepetition_22 (by decide) ?_
        exact zret_pz hx hb hr (Or.inl rfl) hlocks hf dX8_isRepetition_23
      · have hf := (if_pos c15).symm.trans hf
        exact J18 _ hf (lv_sub hl [] rfl)
