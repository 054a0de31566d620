theorem hi_X9_repairAll_9 : ∀ w ∈ wsX90, w ∈ wsX9_repairAll := fun _ h => List.mem_cons_of_mem _ (List.mem_append_right _ h)
set_option maxHeartbeats 4000000 in
set_option maxRecDepth 100000 in
theorem k_X9_repairAll (l : Launch) (D : va_G) (cy : Nat → ClassId) (b : Nat) (M0 : Mem) (p0 : Nat) (p1 : Int32) (p2 : Int32) (rr : Mem) (hf : fX9_repairAll M0 p0 p1 p2 = some rr) : Met l yX9_repairAll wsX9_repairAll ({ frames := 5, cells := 0, slots := 0, locals := 130 } : Room) (zPc D cy b M0 [.ref (b + p0), .int p1, .int p2]) (zQv D cy b rr) 0 0 (zA b) := by
  refine Met.ofW (cc := cX9_repairAll) (maxL := 4) (ret := none) (by decide) rfl ?_
  intro p e s m args below meth c s₁ B hml hv
  obtain ⟨rfl, hP, hK⟩ := hv
  have hx := B.exec
  have hb := B.bytes
  have hr := B.returns
  have hts := atoms_spec (ws := wsX9_repairAll) B.pre
  have hown : s.vm.findClass RX9 = some m.cls := findClass_of_methodNamed B.named
  have hlocks := B.notSynchronized
  have hS : va_S (zA b) s.heap s.heap [] := va_S.rf
  have hl := lv_entry ([.ref (b + p0), .int p1, .int p2]) (n := 4) (Nat.le_of_ble_eq_true rfl)
  rw [lg_entry_eq]
  generalize (lg_sl ([.ref (b + p0), .int p1, .int p2]) ++ List.replicate (4 - (lg_sl ([.ref (b + p0), .int p1, .int p2])).length) Slot.unset).toArray = ls at hl ⊢
  have hl : lv_has ls 4 [(0, .ref (b + p0)), (1, .int p1), (2, .int p2)] := hl
  have L2 : ∀ (n2 : Nat) (M : Mem) (H : Heap) (locs : List Loc) (ls : Array Slot) (h0 : Nat) (x1 : Int32) (x2 : Int32) (x3 : Int32), fX9_repairAll_2L  n2 M h0 x1 x2 x3 = some rr → zH D cy b M H → va_S (zA b) s.heap H locs → lv_has ls 4 [(0, .ref (b + h0)), (1, .int x1), (2, .int x2), (3, .int x3)] → W p l e (headSpec wsX9_repairAll ({ frames := 5, cells := 0, slots := 0, locals := 130 } : Room)).room s m ([.ref (b + p0), .int p1, .int p2] : List Value).toArray below meth c H locs 0 0 (MQ below (zQv D cy b rr) ([.ref (b + p0), .int p1, .int p2] : List Value).toArray s 0 0 (zA b)) (F0 m 2 ls []) := by
    intro n2
    induction n2 with
    | zero =>
      intro M H locs ls h0 x1 x2 x3 hf
      have hf : (none : Option Mem) = some rr := hf
      cases hf
    | succ n2 ih2 =>
      intro M H locs ls h0 x1 x2 x3 hf hP hS hl
      have hf : fX9_repairAll_2  (fX9_repairAll_2L  n2) M h0 x1 x2 x3 = some rr := hf
      unfold fX9_repairAll_2 at hf
      refine lv_iload_n hx hb dX9_repairAll_2 rfl (lv_at hl 3 rfl) ?_
      refine lv_iconst (v := (3 : Int32)) hx hb dX9_repairAll_3 (by decide) ?_
      refine lv_icmp_ge (tgt := 20) hx hb dX9_repairAll_4 (by decide) (fun c4 => ?_) (fun c4 => ?_)
      · have hf := (if_pos c4).symm.trans hf
        exact zret_v hx hb hr hlocks hf hP hS dX9_repairAll_20
      · have hf := (if_neg c4).symm.trans hf
        refine lv_aload_n hx hb dX9_repairAll_7 rfl (lv_at hl 0 rfl) ?_
        refine lv_iload_n hx hb dX9_repairAll_8 rfl (lv_at hl 3 rfl) ?_
        refine lv_iload_n hx hb dX9_repairAll_9 rfl (lv_at hl 1 rfl) ?_
        refine lv_iload_n hx hb dX9_repairAll_10 rfl (lv_at hl 2 rfl) ?_
        obtain ⟨u11, t11, hf⟩ := zb hf
        obtain ⟨M11, e11, hf⟩ := zb hf
        refine zc_v hS (va_runV (As := [.int x3, .int x1, .int x2]) (rest := []) ⟨hx, hb, hml, hown, hts⟩ (k_X9_repair l D cy b M h0 x3 x1 x2 M11 e11) (cwV 3 hts gX9_repairAll_X9_repair rfl rfl rfl (by decide +kernel) ⟨Nat.le_of_ble_eq_true rfl, Nat.le_of_ble_eq_true rfl⟩) (zp_V _ hK hP t11 (T := TX9) (N := 54) rfl (by decide)) rfl rfl hl.1 rfl (lv_room (Nat.le_of_ble_eq_true rfl)) dX9_repairAll_11 ⟨Nat.zero_le _, Nat.zero_le _⟩) (fun H locs hP hS => ?_)
        obtain ⟨x3_14, q14, hf⟩ := zlt_s hf
        refine lv_iinc (v := x3_14) (lv' := [(3, .int x3_14), (0, .ref (b + h0)), (1, .int x1), (2, .int x2)]) hx hb dX9_repairAll_14 hl (k := 3) rfl (by rw [← q14]; rfl) (by decide) rfl (fun ls hl => ?_)
        refine lv_goto (tgt := 2) hx hb dX9_repairAll_17 (by decide) ?_
        exact ih2 _ _ _ _ _ _ _ _ hf hP hS (lv_sub hl [1, 2, 3, 0] rfl)
  unfold fX9_repairAll at hf
  refine lv_iconst (v := (0 : Int32)) hx hb dX9_repairAll_0 (by decide) ?_
  refine lv_istore_n (lv' := [(3, .int (0 : Int32)), (0, .ref (b + p0)), (1, .int p1), (2, .int p2)]) hx hb dX9_repairAll_1 rfl hl (by decide) rfl (fun ls hl => ?_)
  exact L2 _ _ _ _ _ _ _ _ _ hf hP hS (lv_sub hl [1, 2, 3, 0] rfl)
theorem hi_X9_putIn_9 : ∀ w ∈ wsX90, w ∈ wsX9_putIn := fun _ h => List.mem_cons_of_mem _ (List.mem_append_right _ h)
set_option maxHeartbeats 4000000 in
set_option maxRecDepth 100000 in
theorem k_X9_putIn (l : Launch) (D : va_G) (cy : Nat → ClassId) (b : Nat) (M0 : Mem) (p0 : Nat) (p1 : Int32) (p2 : Int32) (rr : Mem) (hf : fX9_putIn M0 p0 p1 p2 = some rr) : Met l yX9_putIn wsX9_putIn ({ frames := 6, cells := 0, slots := 0, locals := 153 } : Room) (zPc D cy b M0 [.ref (b + p0), .int p1, .int p2]) (zQv D cy b rr) 0 0 (zA b) := by
  refine Met.ofW (cc := cX9_putIn) (maxL := 4) (ret := none) (by decide) rfl ?_
  intro p e s m args below meth c s₁ B hml hv
  obtain ⟨rfl, hP, hK⟩ := hv
  have hx := B.exec
  have hb := B.bytes
  have hr := B.returns
  have hts := atoms_spec (ws := wsX9_putIn) B.pre
  have hown : s.vm.findClass RX9 = some m.cls := findClass_of_methodNamed B.named
  have hlocks := B.notSynchronized
  have hS : va_S (zA b) s.heap s.heap [] := va_S.rf
  have hl := lv_entry ([.ref (b + p0), .int p1, .int p2]) (n := 4) (Nat.le_of_ble_eq_true rfl)
  rw [lg_entry_eq]
  generalize (lg_sl ([.ref (b + p0), .int p1, .int p2]) ++ List.replicate (4 - (lg_sl ([.ref (b + p0), .int p1, .int p2])).length) Slot.unset).toArray = ls at hl ⊢
  have hl : lv_has ls 4 [(0, .ref (b + p0)), (1, .int p1), (2, .int p2)] := hl
  have L39 : ∀ (n39 : Nat) (M : Mem) (H : Heap) (locs : List Loc) (ls : Array Slot) (h0 : Nat) (x1 : Int32) (x2 : Int32) (x3 : Int32), fX9_putIn_39L  n39 M h0 x1 x2 x3 = some rr → zH D cy b M H → va_S (zA b) s.heap H locs → lv_has ls 4 [(0, .ref (b + h0)), (1, .int x1), (2, .int x2), (3, .int x3)] → W p l e (headSpec wsX9_putIn ({ frames := 6, cells := 0, slots := 0, locals := 153 } : Room)).room s m ([.ref (b + p0), .int p1, .int p2] : List Value).toArray below meth c H locs 0 0 (MQ below (zQv D cy b rr) ([.ref (b + p0), .int p1, .int p2] : List Value).toArray s 0 0 (zA b)) (F0 m 39 ls []) := by
    intro n39
    induction n39 with
    | zero =>
      intro M H locs ls h0 x1 x2 x3 hf
      have hf : (none : Option Mem) = some rr := hf
      cases hf
    | succ n39 ih39 =>
      intro M H locs ls h0 x1 x2 x3 hf hP hS hl
      have hf : fX9_putIn_39  (fX9_putIn_39L  n39) M h0 x1 x2 x3 = some rr := hf
      unfold fX9_putIn_39 at hf
      refine lv_iload_n hx hb dX9_putIn_39 rfl (lv_at hl 3 rfl) ?_
      refine lv_iload_n hx hb dX9_putIn_40 rfl (lv_at hl 2 rfl) ?_
      refine lv_icmp_ge (tgt := 64) hx hb dX9_putIn_41 (by decide) (fun c41 => ?_) (fun c41 => ?_)
      · have hf := (if_pos c41).symm.trans hf
        refine lv_aload_n hx hb dX9_putIn_64 rfl (lv_at hl 0 rfl) ?_
        refine lv_dup hx hb dX9_putIn_65 rfl ?_
        obtain ⟨v66, e66, hf⟩ := zb hf
        refine zr_gi (ci := 9) (k := 31) (C := RX9) (T := TX9) (N := 54) hx hb hts hi_X9_putIn_9 hown hK hP e66 rfl rfl (by decide) (by decide) (hts (.fieldLink RX9 207 "BoundaryAnalyzerModel" "length" "I") (List.mem_of_getElem? (i := 1) rfl)) dX9_putIn_66 ?_
        refine lv_iload_n hx hb dX9_putIn_69 rfl (lv_at hl 2 rfl) ?_
        refine lv_iadd hx hb dX9_putIn_70 ?_
        obtain ⟨M71, e71, hf⟩ := zb hf
        refine zr_pi (ci := 9) (k := 31) (C := RX9) (T := TX9) (N := 54) hx hb hts hi_X9_putIn_9 tyX9 tyX9_ok nmX9 hown hK hP hS e71 rfl rfl (by decide) (by decide) (hts (.fieldLink RX9 207 "BoundaryAnalyzerModel" "length" "I") (List.mem_of_getElem? (i := 1) rfl)) rfl (tyX9_ok 31 (by decide)) dX9_putIn_71 (fun H locs hP _ hS => ?_)
        refine lv_aload_n hx hb dX9_putIn_74 rfl (lv_at hl 0 rfl) ?_
        refine lv_iload_n hx hb dX9_putIn_75 rfl (lv_at hl 1 rfl) ?_
        refine lv_iload_n hx hb dX9_putIn_76 rfl (lv_at hl 2 rfl) ?_
        refine lv_iadd hx hb dX9_putIn_77 ?_
        refine lv_iload_n hx hb dX9_putIn_78 rfl (lv_at hl 2 rfl) ?_
        obtain ⟨u79, t79, hf⟩ := zb hf
        obtain ⟨M79, e79, hf⟩ := zb hf
        refine zc_v hS (va_runV (As := [.int (x1 + x2), .int x2]) (rest := []) ⟨hx, hb, hml, hown, hts⟩ (k_X9_repairAll l D cy b M71 h0 (x1 + x2) x2 M79 e79) (cwV 2 hts gX9_putIn_X9_repairAll rfl rfl rfl (by decide +kernel) ⟨Nat.le_of_ble_eq_true rfl, Nat.le_of_ble_eq_true rfl⟩) (zp_V _ hK hP t79 (T := TX9) (N := 54) rfl (by decide)) rfl rfl hl.1 rfl (lv_room (Nat.le_of_ble_eq_true rfl)) dX9_putIn_79 ⟨Nat.zero_le _, Nat.zero_le _⟩) (fun H locs hP hS => ?_)
        exact zret_v hx hb hr hlocks hf hP hS dX9_putIn_82
      · have hf := (if_neg c41).symm.trans hf
        refine lv_aload_n hx hb dX9_putIn_44 rfl (lv_at hl 0 rfl) ?_
        obtain ⟨v45, e45, hf⟩ := zb hf
        refine zr_gr (ci := 9) (k := 32) (C := RX9) (T := TX9) (N := 54) hx hb hts hi_X9_putIn_9 hown hK hP e45 rfl rfl (by decide) (by decide) (hts (.fieldLink RX9 78 "BoundaryAnalyzerModel" "text" "[C") (List.mem_of_getElem? (i := 2) rfl)) dX9_putIn_45 ?_
        refine lv_iload_n hx hb dX9_putIn_48 rfl (lv_at hl 1 rfl) ?_
        refine lv_iload_n hx hb dX9_putIn_49 rfl (lv_at hl 3 rfl) ?_
        refine lv_iadd hx hb dX9_putIn_50 ?_
        refine lv_aload_n hx hb dX9_putIn_51 rfl (lv_at hl 0 rfl) ?_
        obtain ⟨v52, e52, hf⟩ := zb hf
        refine zr_gr (ci := 9) (k := 38) (C := RX9) (T := TX9) (N := 54) hx hb hts hi_X9_putIn_9 hown hK hP e52 rfl rfl (by decide) (by decide) (hts (.fieldLink RX9 96 "BoundaryAnalyzerModel" "editText" "[C") (List.mem_of_getElem? (i := 3) rfl)) dX9_putIn_52 ?_
        refine lv_iload_n hx hb dX9_putIn_55 rfl (lv_at hl 3 rfl) ?_
        obtain ⟨v56, e56, hf⟩ := zb hf
        refine zr_ac hx hb hK hP e56 dX9_putIn_56 ?_
        obtain ⟨M57, e57, hf⟩ := zb hf
        refine zr_sc hx hb hK hP hS e57 dX9_putIn_57 (fun H locs hP _ hS => ?_)
        obtain ⟨x3_58, q58, hf⟩ := zlt_s hf
        refine lv_iinc (v := x3_58) (lv' := [(3, .int x3_58), (0, .ref (b + h0)), (1, .int x1), (2, .int x2)]) hx hb dX9_putIn_58 hl (k := 3) rfl (by rw [← q58]; rfl) (by decide) rfl (fun ls hl => ?_)
        refine lv_goto (tgt := 39) hx hb dX9_putIn_61 (by decide) ?_
        exact ih39 _ _ _ _ _ _ _ _ hf hP hS (lv_sub hl [1, 2, 3, 0] rfl)
  have L12 : ∀ (n12 : Nat) (M : Mem) (H : Heap) (locs : List Loc) (ls : Array Slot) (h0 : Nat) (x1 : Int32) (x2 : Int32) (x3 : Int32), fX9_putIn_12L  n12 M h0 x1 x2 x3 = some rr → zH D cy b M H → va_S (zA b) s.heap H locs → lv_has ls 4 [(0, .ref (b + h0)), (1, .int x1), (2, .int x2), (3, .int x3)] → W p l e (headSpec wsX9_putIn ({ frames := 6, cells := 0, slots := 0, locals := 153 } : Room)).room s m ([.ref (b + p0), .int p1, .int p2] : List Value).toArray below meth c H locs 0 0 (MQ below (zQv D cy b rr) ([.ref (b + p0), .int p1, .int p2] : List Value).toArray s 0 0 (zA b)) (F0 m 12 ls []) := by
    intro n12
    induction n12 with
    | zero =>
      intro M H locs ls h0 x1 x2 x3 hf
      have hf : (none : Option Mem) = some rr := hf
      cases hf
    | succ n12 ih12 =>
      intro M H locs ls h0 x1 x2 x3 hf hP hS hl
      have hf : fX9_putIn_12  (fX9_putIn_12L  n12) M h0 x1 x2 x3 = some rr := hf
      unfold fX9_putIn_12 at hf
      refine lv_iload_n hx hb dX9_putIn_12 rfl (lv_at hl 3 rfl) ?_
      refine lv_iload_n hx hb dX9_putIn_13 rfl (lv_at hl 1 rfl) ?_
      refine lv_icmp_lt (tgt := 37) hx hb dX9_putIn_14 (by decide) (fun c14 => ?_) (fun c14 => ?_)
      · have hf := (if_pos c14).symm.trans hf
        refine lv_iconst (v := (0 : Int32)) hx hb dX9_putIn_37 (by decide) ?_
        refine lv_istore_n (lv' := [(3, .int (0 : Int32)), (0, .ref (b + h0)), (1, .int x1), (2, .int x2)]) hx hb dX9_putIn_38 rfl hl (by decide) rfl (fun ls hl => ?_)
        exact L39 _ _ _ _ _ _ _ _ _ hf hP hS (lv_sub hl [1, 2, 3, 0] rfl)
      · have hf := (if_neg c14).symm.trans hf
        refine lv_aload_n hx hb dX9_putIn_17 rfl (lv_at hl 0 rfl) ?_
        obtain ⟨v18, e18, hf⟩ := zb hf
        refine zr_gr (ci := 9) (k := 32) (C := RX9) (T := TX9) (N := 54) hx hb hts hi_X9_putIn_9 hown hK hP e18 rfl rfl (by decide) (by decide) (hts (.fieldLink RX9 78 "BoundaryAnalyzerModel" "text" "[C") (List.mem_of_getElem? (i := 2) rfl)) dX9_putIn_18 ?_
        refine lv_iload_n hx hb dX9_putIn_21 rfl (lv_at hl 3 rfl) ?_
        refine lv_iload_n hx hb dX9_putIn_22 rfl (lv_at hl 2 rfl) ?_
        refine lv_iadd hx hb dX9_putIn_23 ?_
        refine lv_aload_n hx hb dX9_putIn_24 rfl (lv_at hl 0 rfl) ?_
        obtain ⟨v25, e25, hf⟩ := zb hf
        refine zr_gr (ci := 9) (k := 32) (C := RX9) (T := TX9) (N := 54) hx hb hts hi_X9_putIn_9 hown hK hP e25 rfl rfl (by decide) (by decide) (hts (.fieldLink RX9 78 "BoundaryAnalyzerModel" "text" "[C") (List.mem_of_getElem? (i := 2) rfl)) dX9_putIn_25 ?_
        refine lv_iload_n hx hb dX9_putIn_28 rfl (lv_at hl 3 rfl) ?_
        obtain ⟨v29, e29, hf⟩ := zb hf
        refine zr_ac hx hb hK hP e29 dX9_putIn_29 ?_
        obtain ⟨M30, e30, hf⟩ := zb hf
        refine zr_sc hx hb hK hP hS e30 dX9_putIn_30 (fun H locs hP _ hS => ?_)
        obtain ⟨x3_31, q31, hf⟩ := zlt_s hf
        refine lv_iinc (v := x3_31) (lv' := [(3, .int x3_31), (0, .ref (b + h0)), (1, .int x1), (2, .int x2)]) hx hb dX9_putIn_31 hl (k := 3) rfl (by rw [← q31]; rfl) (by decide) rfl (fun ls hl => ?_)
        refine lv_goto (tgt := 12) hx hb dX9_putIn_34 (by decide) ?_
        exact ih12 _ _ _ _ _ _ _ _ hf hP hS (lv_sub hl [1, 2, 3, 0] rfl)
  unfold fX9_putIn at hf
  refine lv_aload_n hx hb dX9_putIn_0 rfl (lv_at hl 0 rfl) ?_
  refine lv_iload_n hx hb dX9_putIn_1 rfl (lv_at hl 1 rfl) ?_
  obtain ⟨u2, t2, hf⟩ := zb hf
  obtain ⟨M2, e2, hf⟩ := zb hf
  refine zc_v hS (va_runV (As := [.int p1]) (rest := []) ⟨hx, hb, hml, hown, hts⟩ (k_X9_findStarts l D cy b M0 p0 p1 M2 e2) (cwV 1 hts gX9_putIn_X9_findStarts rfl rfl rfl (by decide +kernel) ⟨Nat.le_of_ble_eq_true rfl, Nat.le_of_ble_eq_true rfl⟩) (zp_V _ hK hP t2 (T := TX9) (N := 54) rfl (by decide)) rfl rfl hl.1 rfl (lv_room (Nat.le_of_ble_eq_true rfl)) dX9_putIn_2 ⟨Nat.zero_le _, Nat.zero_le _⟩) (fun H locs hP hS => ?_)
  refine lv_aload_n hx hb dX9_putIn_5 rfl (lv_at hl 0 rfl) ?_
  obtain ⟨v6, e6, hf⟩ := zb hf
  refine zr_gi (ci := 9) (k := 31) (C := RX9) (T := TX9) (N := 54) hx hb hts hi_X9_putIn_9 hown hK hP e6 rfl rfl (by decide) (by decide) (hts (.fieldLink RX9 207 "BoundaryAnalyzerModel" "length" "I") (List.mem_of_getElem? (i := 1) rfl)) dX9_putIn_6 ?_
  refine lv_iconst (v := (1 : Int32)) hx hb dX9_putIn_9 (by decide) ?_
  refine lv_isub hx hb dX9_putIn_10 ?_
  obtain ⟨x3_11, q11, hf⟩ := zlt_s hf
  refine zt q11 ?_
  refine lv_istore_n (lv' := [(3, .int x3_11), (0, .ref (b + p0)), (1, .int p1), (2, .int p2)]) hx hb dX9_putIn_11 rfl hl (by decide) rfl (fun ls hl => ?_)
  exact L12 _ _ _ _ _ _ _ _ _ hf hP hS (lv_sub hl [1, 2, 3, 0] rfl)
