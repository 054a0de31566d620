theorem hi_X9_erase_9 : ∀ w ∈ wsX90, w ∈ wsX9_erase := fun _ h => List.mem_cons_of_mem _ (List.mem_append_right _ h)
set_option maxHeartbeats 4000000 in
set_option maxRecDepth 100000 in
theorem k_X9_erase (l : Launch) (D : va_G) (cy : Nat → ClassId) (b : Nat) (M0 : Mem) (p0 : Nat) (p1 : Int32) (p2 : Int32) (rr : Int32 × Mem) (hf : fX9_erase M0 p0 p1 p2 = some rr) : Met l yX9_erase wsX9_erase ({ frames := 7, cells := 0, slots := 0, locals := 176 } : Room) (zPc D cy b M0 [.ref (b + p0), .int p1, .int p2]) (zQi D cy b rr) 0 0 (zA b) := by
  refine Met.ofW (cc := cX9_erase) (maxL := 4) (ret := (some .int)) (by decide) rfl ?_
  intro p e s m args below meth c s₁ B hml hv
  obtain ⟨rfl, hP, hK⟩ := hv
  have hx := B.exec
  have hb := B.bytes
  have hr := B.returns
  have hts := atoms_spec (ws := wsX9_erase) B.pre
  have hown : s.vm.findClass RX9 = some m.cls := findClass_of_methodNamed B.named
  have hlocks := B.notSynchronized
  have hS : va_S (zA b) s.heap s.heap [] := va_S.rf
  have hl := lv_entry ([.ref (b + p0), .int p1, .int p2]) (n := 4) (Nat.le_of_ble_eq_true rfl)
  rw [lg_entry_eq]
  generalize (lg_sl ([.ref (b + p0), .int p1, .int p2]) ++ List.replicate (4 - (lg_sl ([.ref (b + p0), .int p1, .int p2])).length) Slot.unset).toArray = ls at hl ⊢
  have hl : lv_has ls 4 [(0, .ref (b + p0)), (1, .int p1), (2, .int p2)] := hl
  have L35 : ∀ (n35 : Nat) (M : Mem) (H : Heap) (locs : List Loc) (ls : Array Slot) (h0 : Nat) (x1 : Int32) (x2 : Int32) (x3 : Int32), fX9_erase_35L  n35 M h0 x1 x2 x3 = some rr → zH D cy b M H → va_S (zA b) s.heap H locs → lv_has ls 4 [(0, .ref (b + h0)), (1, .int x1), (2, .int x2), (3, .int x3)] → W p l e (headSpec wsX9_erase ({ frames := 7, cells := 0, slots := 0, locals := 176 } : Room)).room s m ([.ref (b + p0), .int p1, .int p2] : List Value).toArray below meth c H locs 0 0 (MQ below (zQi D cy b rr) ([.ref (b + p0), .int p1, .int p2] : List Value).toArray s 0 0 (zA b)) (F0 m 35 ls []) := by
    intro n35
    induction n35 with
    | zero =>
      intro M H locs ls h0 x1 x2 x3 hf
      have hf : (none : Option (Int32 × Mem)) = some rr := hf
      cases hf
    | succ n35 ih35 =>
      intro M H locs ls h0 x1 x2 x3 hf hP hS hl
      have hf : fX9_erase_35  (fX9_erase_35L  n35) M h0 x1 x2 x3 = some rr := hf
      unfold fX9_erase_35 at hf
      refine lv_iload_n hx hb dX9_erase_35 rfl (lv_at hl 3 rfl) ?_
      refine lv_iload_n hx hb dX9_erase_36 rfl (lv_at hl 2 rfl) ?_
      refine lv_icmp_ge (tgt := 60) hx hb dX9_erase_37 (by decide) (fun c37 => ?_) (fun c37 => ?_)
      · have hf := (if_pos c37).symm.trans hf
        refine lv_aload_n hx hb dX9_erase_60 rfl (lv_at hl 0 rfl) ?_
        refine lv_iconst (v := (0 : Int32)) hx hb dX9_erase_61 (by decide) ?_
        refine lv_iload_n hx hb dX9_erase_62 rfl (lv_at hl 1 rfl) ?_
        refine lv_iload_n hx hb dX9_erase_63 rfl (lv_at hl 2 rfl) ?_
        obtain ⟨u64, t64, hf⟩ := zb hf
        obtain ⟨M64, e64, hf⟩ := zb hf
        refine zc_v hS (va_runV (As := [.int (0 : Int32), .int x1, .int x2]) (rest := []) ⟨hx, hb, hml, hown, hts⟩ (k_X9_remember l D cy b M h0 (0 : Int32) x1 x2 M64 e64) (cwV 3 hts gX9_erase_X9_remember rfl rfl rfl (by decide +kernel) ⟨Nat.le_of_ble_eq_true rfl, Nat.le_of_ble_eq_true rfl⟩) (zp_V _ hK hP t64 (T := TX9) (N := 54) rfl (by decide)) rfl rfl hl.1 rfl (lv_room (Nat.le_of_ble_eq_true rfl)) dX9_erase_64 ⟨Nat.zero_le _, Nat.zero_le _⟩) (fun H locs hP hS => ?_)
        refine lv_aload_n hx hb dX9_erase_67 rfl (lv_at hl 0 rfl) ?_
        refine lv_iconst (v := (0 : Int32)) hx hb dX9_erase_68 (by decide) ?_
        obtain ⟨M69, e69, hf⟩ := zb hf
        refine zr_pi (ci := 9) (k := 44) (C := RX9) (T := TX9) (N := 54) hx hb hts hi_X9_erase_9 tyX9 tyX9_ok nmX9 hown hK hP hS e69 rfl rfl (by decide) (by decide) (hts (.fieldLink RX9 267 "BoundaryAnalyzerModel" "redoMany" "I") (List.mem_of_getElem? (i := 4) rfl)) rfl (tyX9_ok 44 (by decide)) dX9_erase_69 (fun H locs hP _ hS => ?_)
        refine lv_aload_n hx hb dX9_erase_72 rfl (lv_at hl 0 rfl) ?_
        refine lv_iload_n hx hb dX9_erase_73 rfl (lv_at hl 1 rfl) ?_
        refine lv_iload_n hx hb dX9_erase_74 rfl (lv_at hl 2 rfl) ?_
        obtain ⟨u75, t75, hf⟩ := zb hf
        obtain ⟨M75, e75, hf⟩ := zb hf
        refine zc_v hS (va_runV (As := [.int x1, .int x2]) (rest := []) ⟨hx, hb, hml, hown, hts⟩ (k_X9_takeOut l D cy b M69 h0 x1 x2 M75 e75) (cwV 2 hts gX9_erase_X9_takeOut rfl rfl rfl (by decide +kernel) ⟨Nat.le_of_ble_eq_true rfl, Nat.le_of_ble_eq_true rfl⟩) (zp_V _ hK hP t75 (T := TX9) (N := 54) rfl (by decide)) rfl rfl hl.1 rfl (lv_room (Nat.le_of_ble_eq_true rfl)) dX9_erase_75 ⟨Nat.zero_le _, Nat.zero_le _⟩) (fun H locs hP hS => ?_)
        refine lv_aload_n hx hb dX9_erase_78 rfl (lv_at hl 0 rfl) ?_
        obtain ⟨v79, e79, hf⟩ := zb hf
        refine zr_gi (ci := 9) (k := 31) (C := RX9) (T := TX9) (N := 54) hx hb hts hi_X9_erase_9 hown hK hP e79 rfl rfl (by decide) (by decide) (hts (.fieldLink RX9 207 "BoundaryAnalyzerModel" "length" "I") (List.mem_of_getElem? (i := 1) rfl)) dX9_erase_79 ?_
        exact zret_i hx hb hr hlocks hf hP hS dX9_erase_82
      · have hf := (if_neg c37).symm.trans hf
        refine lv_aload_n hx hb dX9_erase_40 rfl (lv_at hl 0 rfl) ?_
        obtain ⟨v41, e41, hf⟩ := zb hf
        refine zr_gr (ci := 9) (k := 38) (C := RX9) (T := TX9) (N := 54) hx hb hts hi_X9_erase_9 hown hK hP e41 rfl rfl (by decide) (by decide) (hts (.fieldLink RX9 96 "BoundaryAnalyzerModel" "editText" "[C") (List.mem_of_getElem? (i := 2) rfl)) dX9_erase_41 ?_
        refine lv_iload_n hx hb dX9_erase_44 rfl (lv_at hl 3 rfl) ?_
        refine lv_aload_n hx hb dX9_erase_45 rfl (lv_at hl 0 rfl) ?_
        obtain ⟨v46, e46, hf⟩ := zb hf
        refine zr_gr (ci := 9) (k := 32) (C := RX9) (T := TX9) (N := 54) hx hb hts hi_X9_erase_9 hown hK hP e46 rfl rfl (by decide) (by decide) (hts (.fieldLink RX9 78 "BoundaryAnalyzerModel" "text" "[C") (List.mem_of_getElem? (i := 3) rfl)) dX9_erase_46 ?_
        refine lv_iload_n hx hb dX9_erase_49 rfl (lv_at hl 1 rfl) ?_
        refine lv_iload_n hx hb dX9_erase_50 rfl (lv_at hl 3 rfl) ?_
        refine lv_iadd hx hb dX9_erase_51 ?_
        obtain ⟨v52, e52, hf⟩ := zb hf
        refine zr_ac hx hb hK hP e52 dX9_erase_52 ?_
        obtain ⟨M53, e53, hf⟩ := zb hf
        refine zr_sc hx hb hK hP hS e53 dX9_erase_53 (fun H locs hP _ hS => ?_)
        obtain ⟨x3_54, q54, hf⟩ := zlt_s hf
        refine lv_iinc (v := x3_54) (lv' := [(3, .int x3_54), (0, .ref (b + h0)), (1, .int x1), (2, .int x2)]) hx hb dX9_erase_54 hl (k := 3) rfl (by rw [← q54]; rfl) (by decide) rfl (fun ls hl => ?_)
        refine lv_goto (tgt := 35) hx hb dX9_erase_57 (by decide) ?_
        exact ih35 _ _ _ _ _ _ _ _ hf hP hS (lv_sub hl [1, 2, 3, 0] rfl)
  unfold fX9_erase at hf
  refine lv_iload_n hx hb dX9_erase_0 rfl (lv_at hl 1 rfl) ?_
  refine lv_iconst (v := (0 : Int32)) hx hb dX9_erase_1 (by decide) ?_
  refine lv_aload_n hx hb dX9_erase_2 rfl (lv_at hl 0 rfl) ?_
  obtain ⟨v3, e3, hf⟩ := zb hf
  refine zr_gi (ci := 9) (k := 31) (C := RX9) (T := TX9) (N := 54) hx hb hts hi_X9_erase_9 hown hK hP e3 rfl rfl (by decide) (by decide) (hts (.fieldLink RX9 207 "BoundaryAnalyzerModel" "length" "I") (List.mem_of_getElem? (i := 1) rfl)) dX9_erase_3 ?_
  refine lv_iconst (v := (1 : Int32)) hx hb dX9_erase_6 (by decide) ?_
  refine lv_isub hx hb dX9_erase_7 ?_
  obtain ⟨v8, e8, hf⟩ := zb hf
  refine zc_p (va_runS (As := [.int p1, .int (0 : Int32), .int (v3 - (1 : Int32))]) (rest := []) ⟨hx, hb, hml, hown, hts⟩ (k_X9_in l p1 (0 : Int32) (v3 - (1 : Int32)) v8 e8) (va_cwS 3 hts gX9_erase_X9_in rfl rfl rfl (by decide +kernel) ⟨Nat.le_of_ble_eq_true rfl, Nat.le_of_ble_eq_true rfl⟩) (zp_p _) rfl rfl hl.1 rfl (lv_room (Nat.le_of_ble_eq_true rfl)) dX9_erase_8 ⟨Nat.zero_le _, Nat.zero_le _⟩) ?_
  refine lv_if_ne (tgt := 16) hx hb dX9_erase_11 (by decide) (fun c11 => ?_) (fun c11 => ?_)
  · have hf := (if_neg c11).symm.trans hf
    refine lv_iload_n hx hb dX9_erase_16 rfl (lv_at hl 2 rfl) ?_
    refine lv_iconst (v := (1 : Int32)) hx hb dX9_erase_17 (by decide) ?_
    refine lv_aload_n hx hb dX9_erase_18 rfl (lv_at hl 0 rfl) ?_
    obtain ⟨v19, e19, hf⟩ := zb hf
    refine zr_gi (ci := 9) (k := 31) (C := RX9) (T := TX9) (N := 54) hx hb hts hi_X9_erase_9 hown hK hP e19 rfl rfl (by decide) (by decide) (hts (.fieldLink RX9 207 "BoundaryAnalyzerModel" "length" "I") (List.mem_of_getElem? (i := 1) rfl)) dX9_erase_19 ?_
    refine lv_iload_n hx hb dX9_erase_22 rfl (lv_at hl 1 rfl) ?_
    refine lv_isub hx hb dX9_erase_23 ?_
    obtain ⟨v24, e24, hf⟩ := zb hf
    refine zc_p (va_runS (As := [.int p2, .int (1 : Int32), .int (v19 - p1)]) (rest := []) ⟨hx, hb, hml, hown, hts⟩ (k_X9_in l p2 (1 : Int32) (v19 - p1) v24 e24) (va_cwS 3 hts gX9_erase_X9_in rfl rfl rfl (by decide +kernel) ⟨Nat.le_of_ble_eq_true rfl, Nat.le_of_ble_eq_true rfl⟩) (zp_p _) rfl rfl hl.1 rfl (lv_room (Nat.le_of_ble_eq_true rfl)) dX9_erase_24 ⟨Nat.zero_le _, Nat.zero_le _⟩) ?_
    refine lv_if_ne (tgt := 33) hx hb dX9_erase_27 (by decide) (fun c27 => ?_) (fun c27 => ?_)
    · have hf := (if_neg c27).symm.trans hf
      refine lv_iconst (v := (0 : Int32)) hx hb dX9_erase_33 (by decide) ?_
      refine lv_istore_n (lv' := [(3, .int (0 : Int32)), (0, .ref (b + p0)), (1, .int p1), (2, .int p2)]) hx hb dX9_erase_34 rfl hl (by decide) rfl (fun ls hl => ?_)
      exact L35 _ _ _ _ _ _ _ _ _ hf hP hS (lv_sub hl [1, 2, 3, 0] rfl)
    · have hf := (if_pos c27).symm.trans hf
      refine lv_bipush (v := (-2 : Int32)) hx hb dX9_erase_30 (by decide) ?_
      exact zret_i hx hb hr hlocks hf hP hS dX9_erase_32
  · have hf := (if_pos c11).symm.trans hf
    refine lv_iconst (v := (-1 : Int32)) hx hb dX9_erase_14 (by decide) ?_
    exact zret_i hx hb hr hlocks hf hP hS dX9_erase_15
theorem hi_X9_carryOut_9 : ∀ w ∈ wsX90, w ∈ wsX9_carryOut := fun _ h => List.mem_cons_of_mem _ (List.mem_append_right _ h)
set_option maxHeartbeats 4000000 in
set_option maxRecDepth 100000 in
theorem k_X9_carryOut (l : Launch) (D : va_G) (cy : Nat → ClassId) (b : Nat) (M0 : Mem) (p0 : Nat) (p1 : Int32) (p2 : Int32) (p3 : Int32) (rr : Mem) (hf : fX9_carryOut M0 p0 p1 p2 p3 = some rr) : Met l yX9_carryOut wsX9_carryOut ({ frames := 7, cells := 0, slots := 0, locals := 176 } : Room) (zPc D cy b M0 [.ref (b + p0), .int p1, .int p2, .int p3]) (zQv D cy b rr) 0 0 (zA b) := by
  refine Met.ofW (cc := cX9_carryOut) (maxL := 4) (ret := none) (by decide) rfl ?_
  intro p e s m args below meth c s₁ B hml hv
  obtain ⟨rfl, hP, hK⟩ := hv
  have hx := B.exec
  have hb := B.bytes
  have hr := B.returns
  have hts := atoms_spec (ws := wsX9_carryOut) B.pre
  have hown : s.vm.findClass RX9 = some m.cls := findClass_of_methodNamed B.named
  have hlocks := B.notSynchronized
  have hS : va_S (zA b) s.heap s.heap [] := va_S.rf
  have hl := lv_entry ([.ref (b + p0), .int p1, .int p2, .int p3]) (n := 4) (Nat.le_of_ble_eq_true rfl)
  rw [lg_entry_eq]
  generalize (lg_sl ([.ref (b + p0), .int p1, .int p2, .int p3]) ++ List.replicate (4 - (lg_sl ([.ref (b + p0), .int p1, .int p2, .int p3])).length) Slot.unset).toArray = ls at hl ⊢
  have hl : lv_has ls 4 [(0, .ref (b + p0)), (1, .int p1), (2, .int p2), (3, .int p3)] := hl
  unfold fX9_carryOut at hf
  refine lv_iload_n hx hb dX9_carryOut_0 rfl (lv_at hl 1 rfl) ?_
  refine lv_if_eq (tgt := 13) hx hb dX9_carryOut_1 (by decide) (fun c1 => ?_) (fun c1 => ?_)
  · have hf := (if_pos c1).symm.trans hf
    refine lv_aload_n hx hb dX9_carryOut_13 rfl (lv_at hl 0 rfl) ?_
    refine lv_iload_n hx hb dX9_carryOut_14 rfl (lv_at hl 2 rfl) ?_
    refine lv_iload_n hx hb dX9_carryOut_15 rfl (lv_at hl 3 rfl) ?_
    obtain ⟨u16, t16, hf⟩ := zb hf
    obtain ⟨M16, e16, hf⟩ := zb hf
    refine zc_v hS (va_runV (As := [.int p2, .int p3]) (rest := []) ⟨hx, hb, hml, hown, hts⟩ (k_X9_takeOut l D cy b M0 p0 p2 p3 M16 e16) (cwV 2 hts gX9_carryOut_X9_takeOut rfl rfl rfl (by decide +kernel) ⟨Nat.le_of_ble_eq_true rfl, Nat.le_of_ble_eq_true rfl⟩) (zp_V _ hK hP t16 (T := TX9) (N := 54) rfl (by decide)) rfl rfl hl.1 rfl (lv_room (Nat.le_of_ble_eq_true rfl)) dX9_carryOut_16 ⟨Nat.zero_le _, Nat.zero_le _⟩) (fun H locs hP hS => ?_)
    exact zret_v hx hb hr hlocks hf hP hS dX9_carryOut_19
  · have hf := (if_neg c1).symm.trans hf
    refine lv_aload_n hx hb dX9_carryOut_4 rfl (lv_at hl 0 rfl) ?_
    refine lv_iload_n hx hb dX9_carryOut_5 rfl (lv_at hl 2 rfl) ?_
    refine lv_iload_n hx hb dX9_carryOut_6 rfl (lv_at hl 3 rfl) ?_
    obtain ⟨u7, t7, hf⟩ := zb hf
    obtain ⟨M7, e7, hf⟩ := zb hf
    refine zc_v hS (va_runV (As := [.int p2, .int p3]) (rest := []) ⟨hx, hb, hml, hown, hts⟩ (k_X9_putIn l D cy b M0 p0 p2 p3 M7 e7) (cwV 2 hts gX9_carryOut_X9_putIn rfl rfl rfl (by decide +kernel) ⟨Nat.le_of_ble_eq_true rfl, Nat.le_of_ble_eq_true rfl⟩) (zp_V _ hK hP t7 (T := TX9) (N := 54) rfl (by decide)) rfl rfl hl.1 rfl (lv_room (Nat.le_of_ble_eq_true rfl)) dX9_carryOut_7 ⟨Nat.zero_le _, Nat.zero_le _⟩) (fun H locs hP hS => ?_)
    refine lv_goto (tgt := 19) hx hb dX9_carryOut_10 (by decide) ?_
    exact zret_v hx hb hr hlocks hf hP hS dX9_carryOut_19
