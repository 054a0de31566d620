theorem hi_X9_looksFrom_9 : ∀ w ∈ wsX90, w ∈ wsX9_looksFrom := fun _ h => List.mem_cons_of_mem _ (List.mem_append_right _ h)
set_option maxHeartbeats 4000000 in
set_option maxRecDepth 100000 in
theorem k_X9_looksFrom (l : Launch) (D : va_G) (cy : Nat → ClassId) (b : Nat) (M0 : Mem) (p0 : Nat) (p1 : Int32) (p2 : Int32) (rr : Int32 × Mem) (hf : fX9_looksFrom M0 p0 p1 p2 = some rr) : Met l yX9_looksFrom wsX9_looksFrom ({ frames := 2, cells := 0, slots := 0, locals := 52 } : Room) (zPc D cy b M0 [.ref (b + p0), .int p1, .int p2]) (zQi D cy b rr) 0 0 (zA b) := by
  refine Met.ofW (cc := cX9_looksFrom) (maxL := 6) (ret := (some .int)) (by decide) rfl ?_
  intro p e s m args below meth c s₁ B hml hv
  obtain ⟨rfl, hP, hK⟩ := hv
  have hx := B.exec
  have hb := B.bytes
  have hr := B.returns
  have hts := atoms_spec (ws := wsX9_looksFrom) B.pre
  have hown : s.vm.findClass RX9 = some m.cls := findClass_of_methodNamed B.named
  have hlocks := B.notSynchronized
  have hS : va_S (zA b) s.heap s.heap [] := va_S.rf
  have hl := lv_entry ([.ref (b + p0), .int p1, .int p2]) (n := 6) (Nat.le_of_ble_eq_true rfl)
  rw [lg_entry_eq]
  generalize (lg_sl ([.ref (b + p0), .int p1, .int p2]) ++ List.replicate (6 - (lg_sl ([.ref (b + p0), .int p1, .int p2])).length) Slot.unset).toArray = ls at hl ⊢
  have hl : lv_has ls 6 [(0, .ref (b + p0)), (1, .int p1), (2, .int p2)] := hl
  have L7 : ∀ (n7 : Nat) (M : Mem) (H : Heap) (locs : List Loc) (ls : Array Slot) (h0 : Nat) (x1 : Int32) (x2 : Int32) (x3 : Int32) (x4 : Int32), fX9_looksFrom_7L  n7 M h0 x1 x2 x3 x4 = some rr → zH D cy b M H → va_S (zA b) s.heap H locs → lv_has ls 6 [(0, .ref (b + h0)), (1, .int x1), (2, .int x2), (3, .int x3), (4, .int x4)] → W p l e (headSpec wsX9_looksFrom ({ frames := 2, cells := 0, slots := 0, locals := 52 } : Room)).room s m ([.ref (b + p0), .int p1, .int p2] : List Value).toArray below meth c H locs 0 0 (MQ below (zQi D cy b rr) ([.ref (b + p0), .int p1, .int p2] : List Value).toArray s 0 0 (zA b)) (F0 m 7 ls []) := by
    intro n7
    induction n7 with
    | zero =>
      intro M H locs ls h0 x1 x2 x3 x4 hf
      have hf : (none : Option (Int32 × Mem)) = some rr := hf
      cases hf
    | succ n7 ih7 =>
      have J52 : ∀ (M : Mem) (H : Heap) (locs : List Loc) (ls : Array Slot) (h0 : Nat) (x1 : Int32) (x2 : Int32) (x4 : Int32) (y0 : Int32), fX9_looksFrom_52 (fX9_looksFrom_7L  n7) M h0 x1 x2 x4 y0 = some rr → zH D cy b M H → va_S (zA b) s.heap H locs → lv_has ls 6 [(0, .ref (b + h0)), (1, .int x1), (2, .int x2), (4, .int x4)] → W p l e (headSpec wsX9_looksFrom ({ frames := 2, cells := 0, slots := 0, locals := 52 } : Room)).room s m ([.ref (b + p0), .int p1, .int p2] : List Value).toArray below meth c H locs 0 0 (MQ below (zQi D cy b rr) ([.ref (b + p0), .int p1, .int p2] : List Value).toArray s 0 0 (zA b)) (F0 m 52 ls [.int y0]) := by
        intro M H locs ls h0 x1 x2 x4 y0 hf hP hS hl
        unfold fX9_looksFrom_52 at hf
        refine lv_istore_n (lv' := [(3, .int y0), (0, .ref (b + h0)), (1, .int x1), (2, .int x2), (4, .int x4)]) hx hb dX9_looksFrom_52 rfl hl (by decide) rfl (fun ls hl => ?_)
        obtain ⟨x4_53, q53, hf⟩ := zlt_s hf
        refine lv_iinc (v := x4_53) (lv' := [(4, .int x4_53), (3, .int y0), (0, .ref (b + h0)), (1, .int x1), (2, .int x2)]) hx hb dX9_looksFrom_53 hl (k := 4) rfl (by rw [← q53]; rfl) (by decide) rfl (fun ls hl => ?_)
        refine lv_goto (tgt := 7) hx hb dX9_looksFrom_56 (by decide) ?_
        exact ih7 _ _ _ _ _ _ _ _ _ hf hP hS (lv_sub hl [2, 3, 4, 1, 0] rfl)
      have J38 : ∀ (M : Mem) (H : Heap) (locs : List Loc) (ls : Array Slot) (h0 : Nat) (x1 : Int32) (x2 : Int32) (x3 : Int32) (x4 : Int32) (y0 : Int32), fX9_looksFrom_38 (fX9_looksFrom_7L  n7) M h0 x1 x2 x3 x4 y0 = some rr → zH D cy b M H → va_S (zA b) s.heap H locs → lv_has ls 6 [(0, .ref (b + h0)), (1, .int x1), (2, .int x2), (3, .int x3), (4, .int x4)] → W p l e (headSpec wsX9_looksFrom ({ frames := 2, cells := 0, slots := 0, locals := 52 } : Room)).room s m ([.ref (b + p0), .int p1, .int p2] : List Value).toArray below meth c H locs 0 0 (MQ below (zQi D cy b rr) ([.ref (b + p0), .int p1, .int p2] : List Value).toArray s 0 0 (zA b)) (F0 m 38 ls [.int y0]) := by
        intro M H locs ls h0 x1 x2 x3 x4 y0 hf hP hS hl
        unfold fX9_looksFrom_38 at hf
        refine lv_istore (lv' := [(5, .int y0), (0, .ref (b + h0)), (1, .int x1), (2, .int x2), (3, .int x3), (4, .int x4)]) hx hb dX9_looksFrom_38 hl (by decide) rfl (fun ls hl => ?_)
        refine lv_iload hx hb dX9_looksFrom_40 (lv_at hl 0 rfl) ?_
        refine lv_iload_n hx hb dX9_looksFrom_42 rfl (lv_at hl 4 rfl) ?_
        refine lv_icmp_le (tgt := 51) hx hb dX9_looksFrom_43 (by decide) (fun c43 => ?_) (fun c43 => ?_)
        · have hf := (if_pos c43).symm.trans hf
          refine lv_iload_n hx hb dX9_looksFrom_51 rfl (lv_at hl 4 rfl) ?_
          exact J52 _ _ _ _ _ _ _ _ _ hf hP hS (lv_sub hl [1, 2, 3, 5] rfl)
        · have hf := (if_neg c43).symm.trans hf
          refine lv_iload hx hb dX9_looksFrom_46 (lv_at hl 0 rfl) ?_
          refine lv_goto (tgt := 52) hx hb dX9_looksFrom_48 (by decide) ?_
          exact J52 _ _ _ _ _ _ _ _ _ hf hP hS (lv_sub hl [1, 2, 3, 5] rfl)
      intro M H locs ls h0 x1 x2 x3 x4 hf hP hS hl
      have hf : fX9_looksFrom_7  (fX9_looksFrom_7L  n7) M h0 x1 x2 x3 x4 = some rr := hf
      unfold fX9_looksFrom_7 at hf
      refine lv_iload hx hb dX9_looksFrom_7 (lv_at hl 4 rfl) ?_
      refine lv_iconst (v := (5 : Int32)) hx hb dX9_looksFrom_9 (by decide) ?_
      refine lv_iload_n hx hb dX9_looksFrom_10 rfl (lv_at hl 1 rfl) ?_
      refine lv_imul hx hb dX9_looksFrom_11 ?_
      refine lv_iconst (v := (5 : Int32)) hx hb dX9_looksFrom_12 (by decide) ?_
      refine lv_iadd hx hb dX9_looksFrom_13 ?_
      refine lv_icmp_ge (tgt := 59) hx hb dX9_looksFrom_14 (by decide) (fun c14 => ?_) (fun c14 => ?_)
      · have hf := (if_pos c14).symm.trans hf
        refine lv_iload_n hx hb dX9_looksFrom_59 rfl (lv_at hl 3 rfl) ?_
        exact zret_i hx hb hr hlocks hf hP hS dX9_looksFrom_60
      · have hf := (if_neg c14).symm.trans hf
        refine lv_aload_n hx hb dX9_looksFrom_17 rfl (lv_at hl 0 rfl) ?_
        obtain ⟨v18, e18, hf⟩ := zb hf
        refine zr_gr (ci := 9) (k := 20) (C := RX9) (T := TX9) (N := 54) hx hb hts hi_X9_looksFrom_9 hown hK hP e18 rfl rfl (by decide) (by decide) (hts (.fieldLink RX9 45 "BoundaryAnalyzerModel" "ruleLong" "[I") (List.mem_of_getElem? (i := 1) rfl)) dX9_looksFrom_18 ?_
        refine lv_iload hx hb dX9_looksFrom_21 (lv_at hl 4 rfl) ?_
        obtain ⟨v23, e23, hf⟩ := zb hf
        refine zr_ai hx hb hK hP e23 dX9_looksFrom_23 ?_
        refine lv_if_le (tgt := 37) hx hb dX9_looksFrom_24 (by decide) (fun c24 => ?_) (fun c24 => ?_)
        · have hf := (if_pos c24).symm.trans hf
          refine lv_iconst (v := (0 : Int32)) hx hb dX9_looksFrom_37 (by decide) ?_
          exact J38 _ _ _ _ _ _ _ _ _ _ hf hP hS (lv_sub hl [0, 1, 2, 3, 4] rfl)
        · have hf := (if_neg c24).symm.trans hf
          refine lv_aload_n hx hb dX9_looksFrom_27 rfl (lv_at hl 0 rfl) ?_
          refine lv_iload hx hb dX9_looksFrom_28 (lv_at hl 4 rfl) ?_
          refine lv_iload_n hx hb dX9_looksFrom_30 rfl (lv_at hl 2 rfl) ?_
          obtain ⟨u31, t31, hf⟩ := zb hf
          obtain ⟨r31, e31, hf⟩ := zb hf
          refine zc_i hS (va_runV (As := [.int x4, .int x2]) (rest := []) ⟨hx, hb, hml, hown, hts⟩ (k_X9_farOf l D cy b M h0 x4 x2 r31 e31) (cwV 2 hts gX9_looksFrom_X9_farOf rfl rfl rfl (by decide +kernel) ⟨Nat.le_of_ble_eq_true rfl, Nat.le_of_ble_eq_true rfl⟩) (zp_V _ hK hP t31 (T := TX9) (N := 54) rfl (by decide)) rfl rfl hl.1 rfl (lv_room (Nat.le_of_ble_eq_true rfl)) dX9_looksFrom_31 ⟨Nat.zero_le _, Nat.zero_le _⟩) (fun H locs hP hS => ?_)
          refine lv_goto (tgt := 38) hx hb dX9_looksFrom_34 (by decide) ?_
          exact J38 _ _ _ _ _ _ _ _ _ _ hf hP hS (lv_sub hl [0, 1, 2, 3, 4] rfl)
  unfold fX9_looksFrom at hf
  refine lv_iconst (v := (1 : Int32)) hx hb dX9_looksFrom_0 (by decide) ?_
  refine lv_istore_n (lv' := [(3, .int (1 : Int32)), (0, .ref (b + p0)), (1, .int p1), (2, .int p2)]) hx hb dX9_looksFrom_1 rfl hl (by decide) rfl (fun ls hl => ?_)
  refine lv_iconst (v := (5 : Int32)) hx hb dX9_looksFrom_2 (by decide) ?_
  refine lv_iload_n hx hb dX9_looksFrom_3 rfl (lv_at hl 2 rfl) ?_
  refine lv_imul hx hb dX9_looksFrom_4 ?_
  obtain ⟨x4_5, q5, hf⟩ := zlt_s hf
  refine zt q5 ?_
  refine lv_istore (lv' := [(4, .int x4_5), (3, .int (1 : Int32)), (0, .ref (b + p0)), (1, .int p1), (2, .int p2)]) hx hb dX9_looksFrom_5 hl (by decide) rfl (fun ls hl => ?_)
  exact L7 _ _ _ _ _ _ _ _ _ _ hf hP hS (lv_sub hl [2, 3, 4, 1, 0] rfl)
theorem hi_X9_looksAt_9 : ∀ w ∈ wsX90, w ∈ wsX9_looksAt := fun _ h => List.mem_cons_of_mem _ (List.mem_append_right _ h)
set_option maxHeartbeats 4000000 in
set_option maxRecDepth 100000 in
theorem k_X9_looksAt (l : Launch) (D : va_G) (cy : Nat → ClassId) (b : Nat) (M0 : Mem) (p0 : Nat) (p1 : Int32) (p2 : Int32) (rr : Int32 × Mem) (hf : fX9_looksAt M0 p0 p1 p2 = some rr) : Met l yX9_looksAt wsX9_looksAt ({ frames := 3, cells := 0, slots := 0, locals := 77 } : Room) (zPc D cy b M0 [.ref (b + p0), .int p1, .int p2]) (zQi D cy b rr) 0 0 (zA b) := by
  refine Met.ofW (cc := cX9_looksAt) (maxL := 3) (ret := (some .int)) (by decide) rfl ?_
  intro p e s m args below meth c s₁ B hml hv
  obtain ⟨rfl, hP, hK⟩ := hv
  have hx := B.exec
  have hb := B.bytes
  have hr := B.returns
  have hts := atoms_spec (ws := wsX9_looksAt) B.pre
  have hown : s.vm.findClass RX9 = some m.cls := findClass_of_methodNamed B.named
  have hlocks := B.notSynchronized
  have hS : va_S (zA b) s.heap s.heap [] := va_S.rf
  have hl := lv_entry ([.ref (b + p0), .int p1, .int p2]) (n := 3) (Nat.le_of_ble_eq_true rfl)
  rw [lg_entry_eq]
  generalize (lg_sl ([.ref (b + p0), .int p1, .int p2]) ++ List.replicate (3 - (lg_sl ([.ref (b + p0), .int p1, .int p2])).length) Slot.unset).toArray = ls at hl ⊢
  have hl : lv_has ls 3 [(0, .ref (b + p0)), (1, .int p1), (2, .int p2)] := hl
  unfold fX9_looksAt at hf
  refine lv_iload_n hx hb dX9_looksAt_0 rfl (lv_at hl 1 rfl) ?_
  obtain ⟨v1, e1, hf⟩ := zb hf
  refine zc_p (va_runS (As := [.int p1]) (rest := []) ⟨hx, hb, hml, hown, hts⟩ (k_X9_noKind l p1 v1 e1) (va_cwS 1 hts gX9_looksAt_X9_noKind rfl rfl rfl (by decide +kernel) ⟨Nat.le_of_ble_eq_true rfl, Nat.le_of_ble_eq_true rfl⟩) (zp_p _) rfl rfl hl.1 rfl (lv_room (Nat.le_of_ble_eq_true rfl)) dX9_looksAt_1 ⟨Nat.zero_le _, Nat.zero_le _⟩) ?_
  refine lv_if_eq (tgt := 10) hx hb dX9_looksAt_4 (by decide) (fun c4 => ?_) (fun c4 => ?_)
  · have hf := (if_pos c4).symm.trans hf
    refine lv_iload_n hx hb dX9_looksAt_10 rfl (lv_at hl 2 rfl) ?_
    refine lv_iconst (v := (0 : Int32)) hx hb dX9_looksAt_11 (by decide) ?_
    refine lv_aload_n hx hb dX9_looksAt_12 rfl (lv_at hl 0 rfl) ?_
    obtain ⟨v13, e13, hf⟩ := zb hf
    refine zr_gi (ci := 9) (k := 31) (C := RX9) (T := TX9) (N := 54) hx hb hts hi_X9_looksAt_9 hown hK hP e13 rfl rfl (by decide) (by decide) (hts (.fieldLink RX9 207 "BoundaryAnalyzerModel" "length" "I") (List.mem_of_getElem? (i := 1) rfl)) dX9_looksAt_13 ?_
    refine lv_iconst (v := (1 : Int32)) hx hb dX9_looksAt_16 (by decide) ?_
    refine lv_isub hx hb dX9_looksAt_17 ?_
    obtain ⟨v18, e18, hf⟩ := zb hf
    refine zc_p (va_runS (As := [.int p2, .int (0 : Int32), .int (v13 - (1 : Int32))]) (rest := []) ⟨hx, hb, hml, hown, hts⟩ (k_X9_in l p2 (0 : Int32) (v13 - (1 : Int32)) v18 e18) (va_cwS 3 hts gX9_looksAt_X9_in rfl rfl rfl (by decide +kernel) ⟨Nat.le_of_ble_eq_true rfl, Nat.le_of_ble_eq_true rfl⟩) (zp_p _) rfl rfl hl.1 rfl (lv_room (Nat.le_of_ble_eq_true rfl)) dX9_looksAt_18 ⟨Nat.zero_le _, Nat.zero_le _⟩) ?_
    refine lv_if_eq (tgt := 33) hx hb dX9_looksAt_21 (by decide) (fun c21 => ?_) (fun c21 => ?_)
    · have hf := (if_pos c21).symm.trans hf
      refine lv_iconst (v := (-1 : Int32)) hx hb dX9_looksAt_33 (by decide) ?_
      exact zret_i hx hb hr hlocks hf hP hS dX9_looksAt_34
    · have hf := (if_neg c21).symm.trans hf
      refine lv_aload_n hx hb dX9_looksAt_24 rfl (lv_at hl 0 rfl) ?_
      refine lv_iload_n hx hb dX9_looksAt_25 rfl (lv_at hl 1 rfl) ?_
      refine lv_iload_n hx hb dX9_looksAt_26 rfl (lv_at hl 2 rfl) ?_
      obtain ⟨u27, t27, hf⟩ := zb hf
      obtain ⟨r27, e27, hf⟩ := zb hf
      refine zc_i hS (va_runV (As := [.int p1, .int p2]) (rest := []) ⟨hx, hb, hml, hown, hts⟩ (k_X9_looksFrom l D cy b M0 p0 p1 p2 r27 e27) (cwV 2 hts gX9_looksAt_X9_looksFrom rfl rfl rfl (by decide +kernel) ⟨Nat.le_of_ble_eq_true rfl, Nat.le_of_ble_eq_true rfl⟩) (zp_V _ hK hP t27 (T := TX9) (N := 54) rfl (by decide)) rfl rfl hl.1 rfl (lv_room (Nat.le_of_ble_eq_true rfl)) dX9_looksAt_27 ⟨Nat.zero_le _, Nat.zero_le _⟩) (fun H locs hP hS => ?_)
      refine lv_goto (tgt := 34) hx hb dX9_looksAt_30 (by decide) ?_
      exact zret_i hx hb hr hlocks hf hP hS dX9_looksAt_34
  · have hf := (if_neg c4).symm.trans hf
    refine lv_bipush (v := (-2 : Int32)) hx hb dX9_looksAt_7 (by decide) ?_
    exact zret_i hx hb hr hlocks hf hP hS dX9_looksAt_9
theorem hi_X9_raw_9 : ∀ w ∈ wsX90, w ∈ wsX9_raw := fun _ h => List.mem_cons_of_mem _ (List.mem_append_right _ h)
set_option maxHeartbeats 4000000 in
set_option maxRecDepth 100000 in
theorem k_X9_raw (l : Launch) (D : va_G) (cy : Nat → ClassId) (b : Nat) (M0 : Mem) (p0 : Nat) (p1 : Int32) (p2 : Int32) (rr : Int32 × Mem) (hf : fX9_raw M0 p0 p1 p2 = some rr) : Met l yX9_raw wsX9_raw ({ frames := 0, cells := 0, slots := 0, locals := 0 } : Room) (zPc D cy b M0 [.ref (b + p0), .int p1, .int p2]) (zQi D cy b rr) 0 0 (zA b) := by
  refine Met.ofW (cc := cX9_raw) (maxL := 3) (ret := (some .int)) (by decide) rfl ?_
  intro p e s m args below meth c s₁ B hml hv
  obtain ⟨rfl, hP, hK⟩ := hv
  have hx := B.exec
  have hb := B.bytes
  have hr := B.returns
  have hts := atoms_spec (ws := wsX9_raw) B.pre
  have hown : s.vm.findClass RX9 = some m.cls := findClass_of_methodNamed B.named
  have hlocks := B.notSynchronized
  have hS : va_S (zA b) s.heap s.heap [] := va_S.rf
  have hl := lv_entry ([.ref (b + p0), .int p1, .int p2]) (n := 3) (Nat.le_of_ble_eq_true rfl)
  rw [lg_entry_eq]
  generalize (lg_sl ([.ref (b + p0), .int p1, .int p2]) ++ List.replicate (3 - (lg_sl ([.ref (b + p0), .int p1, .int p2])).length) Slot.unset).toArray = ls at hl ⊢
  have hl : lv_has ls 3 [(0, .ref (b + p0)), (1, .int p1), (2, .int p2)] := hl
  unfold fX9_raw at hf
  refine lv_aload_n hx hb dX9_raw_0 rfl (lv_at hl 0 rfl) ?_
  obtain ⟨v1, e1, hf⟩ := zb hf
  refine zr_gr (ci := 9) (k := 34) (C := RX9) (T := TX9) (N := 54) hx hb hts hi_X9_raw_9 hown hK hP e1 rfl rfl (by decide) (by decide) (hts (.fieldLink RX9 84 "BoundaryAnalyzerModel" "rawAt" "[I") (List.mem_of_getElem? (i := 1) rfl)) dX9_raw_1 ?_
  refine lv_bipush (v := (101 : Int32)) hx hb dX9_raw_4 (by decide) ?_
  refine lv_iload_n hx hb dX9_raw_6 rfl (lv_at hl 1 rfl) ?_
  refine lv_imul hx hb dX9_raw_7 ?_
  refine lv_iload_n hx hb dX9_raw_8 rfl (lv_at hl 2 rfl) ?_
  refine lv_iadd hx hb dX9_raw_9 ?_
  obtain ⟨v10, e10, hf⟩ := zb hf
  refine zr_ai hx hb hK hP e10 dX9_raw_10 ?_
  exact zret_i hx hb hr hlocks hf hP hS dX9_raw_11
