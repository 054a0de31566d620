theorem hi_X6_init_3 : ∀ w ∈ wsX30, w ∈ wsX6_init := fun _ h => List.mem_cons_of_mem _ (List.mem_append_right _ h)
theorem hi_X6_init_6 : ∀ w ∈ wsX60, w ∈ wsX6_init := fun _ h => List.mem_cons_of_mem _ (List.mem_append_left _ (List.mem_append_right _ h))
set_option maxHeartbeats 4000000 in
set_option maxRecDepth 100000 in
theorem k_X6_init (l : Launch) (D : va_G) (cy : Nat → ClassId) (b : Nat) (M0 : Mem) (p0 : Nat) (rr : Mem) (hf : fX6_init M0 p0 = some rr) : Met l yX6_init wsX6_init ({ frames := 2, cells := 13, slots := 39000, locals := 60 } : Room) (zPn D cy b M0 [.ref (b + p0)]) (zQn D cy b rr) 13 39000 (zA b) := by
  refine Met.ofW (cc := cX6_init) (maxL := 2) (ret := none) (by decide) rfl ?_
  intro p e s m args below meth c s₁ B hml hv
  obtain ⟨rfl, hP, hK, hz⟩ := hv
  have hx := B.exec
  have hb := B.bytes
  have hr := B.returns
  have hts := atoms_spec (ws := wsX6_init) B.pre
  have hown : s.vm.findClass RX6 = some m.cls := findClass_of_methodNamed B.named
  have hlocks := B.notSynchronized
  have hin : meth.name = "<init>" := (name_of_methodNamed B.named B.method).1
  have hS : va_S (zA b) s.heap s.heap [] := va_S.rf
  have hl := lv_entry ([.ref (b + p0)]) (n := 2) (Nat.le_of_ble_eq_true rfl)
  rw [lg_entry_eq]
  generalize (lg_sl ([.ref (b + p0)]) ++ List.replicate (2 - (lg_sl ([.ref (b + p0)])).length) Slot.unset).toArray = ls at hl ⊢
  have hl : lv_has ls 2 [(0, .ref (b + p0))] := hl
  have hn : yN M0.1 13 M0 := ⟨Nat.le_refl _, Nat.le_add_right _ _⟩
  refine y_begin (M := M0) ?_
  have L33 : ∀ (n33 : Nat) (M : Mem) (H : Heap) (locs : List Loc) (ls : Array Slot) (h0 : Nat) (x1 : Int32), fX6_init_33L M0  n33 M h0 x1 = some rr → zH D cy b M H → H.size = b + M.1 → va_S (zA b) s.heap H locs → yN M0.1 13 M → lv_has ls 2 [(0, .ref (b + h0)), (1, .int x1)] → yW p l e (headSpec wsX6_init ({ frames := 2, cells := 13, slots := 39000, locals := 60 } : Room)).room s m ([.ref (b + p0)] : List Value).toArray below meth c H locs M0.1 M (MQ below (zQn D cy b rr) ([.ref (b + p0)] : List Value).toArray s 13 39000 (zA b)) (F0 m 33 ls []) := by
    intro n33
    induction n33 with
    | zero =>
      intro M H locs ls h0 x1 hf
      have hf : (none : Option Mem) = some rr := hf
      cases hf
    | succ n33 ih33 =>
      intro M H locs ls h0 x1 hf hP hz hS hn hl
      have hf : fX6_init_33 M0  (fX6_init_33L M0  n33) M h0 x1 = some rr := hf
      unfold fX6_init_33 at hf
      refine lv_iload_n hx hb dX6_init_33 rfl (lv_at hl 1 rfl) ?_
      refine lv_iconst (v := (4 : Int32)) hx hb dX6_init_34 (by decide) ?_
      refine lv_icmp_gt (tgt := 70) hx hb dX6_init_35 (by decide) (fun c35 => ?_) (fun c35 => ?_)
      · have hf := (if_pos c35).symm.trans hf
        exact y_ret (mc := 13) hx hb hr hlocks hf hP hz hS hn dX6_init_70
      · have hf := (if_neg c35).symm.trans hf
        refine lv_aload_n hx hb dX6_init_38 rfl (lv_at hl 0 rfl) ?_
        obtain ⟨v39, e39, hf⟩ := zb hf
        refine zr_gr (ci := 6) (k := 0) (C := RX6) (T := TX6) (N := 4) hx hb hts hi_X6_init_6 hown hK hP e39 rfl rfl (by decide) (by decide) (hts (.fieldLink RX6 11 "BoundaryAnalyzer$RuleBuilder" "alternatives" "[LBoundaryAnalyzer$Part;") (List.mem_of_getElem? (i := 5) rfl)) dX6_init_39 ?_
        refine lv_iload_n hx hb dX6_init_42 rfl (lv_at hl 1 rfl) ?_
        obtain ⟨M43, e43, hf⟩ := zb hf
        refine y_no (mc := 13) (ci := 3) (C := RX3) (T := TX3) (N := 3) hx hb hts hi_X6_init_3 tyX3 tyX3_ok hown (hts (.classLink RX6 9 RX3) (List.mem_of_getElem? (i := 4) rfl)) (hts (.instantiable RX3 3) (List.mem_of_getElem? (i := 7) rfl)) (hts (.initialized RX3) (List.mem_of_getElem? (i := 8) rfl)) hK hP hz hS hn e43 rfl (by decide) (fun j hj => by rcases (show j = 0 ∨ j = 1 ∨ j = 2 by omega) with rfl | rfl | rfl <;> rfl) rfl rfl (by decide) dX6_init_43 (fun H hP hz hS hn => ?_)
        refine lv_dup hx hb dX6_init_46 rfl ?_
        obtain ⟨M47, e47, hf⟩ := zb hf
        obtain ⟨u47, r47, hf⟩ := zb hf
        refine y_call (mc := 13) (k := 0) hS hn r47 rfl rfl (fun hrm => va_runIN (As := []) (rest := [.ref (b + M.1), .int x1, .ref (b + v39)]) ⟨hx, hb, hml, hown, hts⟩ (k_X3_init l D cy b M43 M.1  M47 e47) ⟨va_cnB 0 hts gX6_init_X3_init_n20 rfl rfl rfl (hK.2.1 _ (List.mem_of_getElem? (i := 2) rfl)) (hts (.initialized RX3) (List.mem_of_getElem? (i := 8) rfl)) (by decide +kernel) ⟨Nat.le_of_ble_eq_true rfl, Nat.le_of_ble_eq_true rfl⟩, rfl, (hts (.instanceMethod yX3_init) (List.mem_of_getElem? (i := 10) rfl))⟩ (zp_N _ hK hP hz) rfl rfl hl.1 rfl (lv_room (Nat.le_of_ble_eq_true rfl)) dX6_init_47 hrm) (fun H locs hP hz hS hn => ?_)
        obtain ⟨M50, e50, hf⟩ := zb hf
        refine y_sa (t0 := 5) (r := (RX3, TX3, 3)) hx hb hK hP hz hS hn e50 (by decide) (by decide) rfl rfl dX6_init_50 (fun H locs hP hz hS hn => ?_)
        refine lv_aload_n hx hb dX6_init_51 rfl (lv_at hl 0 rfl) ?_
        obtain ⟨v52, e52, hf⟩ := zb hf
        refine zr_gr (ci := 6) (k := 1) (C := RX6) (T := TX6) (N := 4) hx hb hts hi_X6_init_6 hown hK hP e52 rfl rfl (by decide) (by decide) (hts (.fieldLink RX6 17 "BoundaryAnalyzer$RuleBuilder" "sequences" "[LBoundaryAnalyzer$Part;") (List.mem_of_getElem? (i := 6) rfl)) dX6_init_52 ?_
        refine lv_iload_n hx hb dX6_init_55 rfl (lv_at hl 1 rfl) ?_
        obtain ⟨M56, e56, hf⟩ := zb hf
        refine y_no (mc := 13) (ci := 3) (C := RX3) (T := TX3) (N := 3) hx hb hts hi_X6_init_3 tyX3 tyX3_ok hown (hts (.classLink RX6 9 RX3) (List.mem_of_getElem? (i := 4) rfl)) (hts (.instantiable RX3 3) (List.mem_of_getElem? (i := 7) rfl)) (hts (.initialized RX3) (List.mem_of_getElem? (i := 8) rfl)) hK hP hz hS hn e56 rfl (by decide) (fun j hj => by rcases (show j = 0 ∨ j = 1 ∨ j = 2 by omega) with rfl | rfl | rfl <;> rfl) rfl rfl (by decide) dX6_init_56 (fun H hP hz hS hn => ?_)
        refine lv_dup hx hb dX6_init_59 rfl ?_
        obtain ⟨M60, e60, hf⟩ := zb hf
        obtain ⟨u60, r60, hf⟩ := zb hf
        refine y_call (mc := 13) (k := 0) hS hn r60 rfl rfl (fun hrm => va_runIN (As := []) (rest := [.ref (b + M50.1), .int x1, .ref (b + v52)]) ⟨hx, hb, hml, hown, hts⟩ (k_X3_init l D cy b M56 M50.1  M60 e60) ⟨va_cnB 0 hts gX6_init_X3_init_n20 rfl rfl rfl (hK.2.1 _ (List.mem_of_getElem? (i := 2) rfl)) (hts (.initialized RX3) (List.mem_of_getElem? (i := 8) rfl)) (by decide +kernel) ⟨Nat.le_of_ble_eq_true rfl, Nat.le_of_ble_eq_true rfl⟩, rfl, (hts (.instanceMethod yX3_init) (List.mem_of_getElem? (i := 10) rfl))⟩ (zp_N _ hK hP hz) rfl rfl hl.1 rfl (lv_room (Nat.le_of_ble_eq_true rfl)) dX6_init_60 hrm) (fun H locs hP hz hS hn => ?_)
        obtain ⟨M63, e63, hf⟩ := zb hf
        refine y_sa (t0 := 5) (r := (RX3, TX3, 3)) hx hb hK hP hz hS hn e63 (by decide) (by decide) rfl rfl dX6_init_63 (fun H locs hP hz hS hn => ?_)
        obtain ⟨x1_64, q64, hf⟩ := zlt_s hf
        refine lv_iinc (v := x1_64) (lv' := [(1, .int x1_64), (0, .ref (b + h0))]) hx hb dX6_init_64 hl (k := 1) rfl (by rw [← q64]; rfl) (by decide) rfl (fun ls hl => ?_)
        refine lv_goto (tgt := 33) hx hb dX6_init_67 (by decide) ?_
        exact ih33 _ _ _ _ _ _ hf hP hz hS hn (lv_sub hl [1, 0] rfl)
  unfold fX6_init at hf
  refine lv_aload_n hx hb dX6_init_0 rfl (lv_at hl 0 rfl) ?_
  refine W.objInit hx hb hown (hts (.methodLink RX6 3 objectInit) (List.mem_of_getElem? (i := 1) rfl)) (hts (.instanceMethod objectInit) (List.mem_of_getElem? (i := 2) rfl)) (hts _ (List.mem_of_getElem? (i := 3) rfl)) rfl (by rw [hml]; exact hl.1) rfl dX6_init_1 (Nat.le_of_ble_eq_true rfl) (Nat.le_of_ble_eq_true rfl) ?_
  refine W.eq (g2 := F0 m 4 ls []) rfl ?_
  refine lv_aload_n hx hb dX6_init_4 rfl (lv_at hl 0 rfl) ?_
  refine lv_iconst (v := (5 : Int32)) hx hb dX6_init_5 (by decide) ?_
  obtain ⟨M6, e6, hf⟩ := zb hf
  refine y_nq (mc := 13) (t0 := 5) hx hb hown (hts (.classLink RX6 9 RX3) (List.mem_of_getElem? (i := 4) rfl)) (List.mem_of_getElem? (i := 2) rfl) hK hP hz hS hn e6 rfl (by decide) (zsL_max _) rfl rfl dX6_init_6 (fun H hP hz hS hn => ?_)
  obtain ⟨M9, e9, hf⟩ := zb hf
  refine y_put (ci := 6) (k := 0) (C := RX6) (T := TX6) (N := 4) hx hb hts hi_X6_init_6 tyX6 tyX6_ok nmX6 hown hK hP hz hS hn e9 rfl rfl (by decide) (by decide) (hts (.fieldLink RX6 11 "BoundaryAnalyzer$RuleBuilder" "alternatives" "[LBoundaryAnalyzer$Part;") (List.mem_of_getElem? (i := 5) rfl)) (Or.inr ⟨rfl, hin, rfl⟩) (tyX6_ok 0 (by decide)) rfl rfl dX6_init_9 (fun H locs hP hz hS hn => ?_)
  refine lv_aload_n hx hb dX6_init_12 rfl (lv_at hl 0 rfl) ?_
  refine lv_iconst (v := (5 : Int32)) hx hb dX6_init_13 (by decide) ?_
  obtain ⟨M14, e14, hf⟩ := zb hf
  refine y_nq (mc := 13) (t0 := 5) hx hb hown (hts (.classLink RX6 9 RX3) (List.mem_of_getElem? (i := 4) rfl)) (List.mem_of_getElem? (i := 2) rfl) hK hP hz hS hn e14 rfl (by decide) (zsL_max _) rfl rfl dX6_init_14 (fun H hP hz hS hn => ?_)
  obtain ⟨M17, e17, hf⟩ := zb hf
  refine y_put (ci := 6) (k := 1) (C := RX6) (T := TX6) (N := 4) hx hb hts hi_X6_init_6 tyX6 tyX6_ok nmX6 hown hK hP hz hS hn e17 rfl rfl (by decide) (by decide) (hts (.fieldLink RX6 17 "BoundaryAnalyzer$RuleBuilder" "sequences" "[LBoundaryAnalyzer$Part;") (List.mem_of_getElem? (i := 6) rfl)) (Or.inr ⟨rfl, hin, rfl⟩) (tyX6_ok 1 (by decide)) rfl rfl dX6_init_17 (fun H locs hP hz hS hn => ?_)
  refine lv_aload_n hx hb dX6_init_20 rfl (lv_at hl 0 rfl) ?_
  obtain ⟨M21, e21, hf⟩ := zb hf
  refine y_no (mc := 13) (ci := 3) (C := RX3) (T := TX3) (N := 3) hx hb hts hi_X6_init_3 tyX3 tyX3_ok hown (hts (.classLink RX6 9 RX3) (List.mem_of_getElem? (i := 4) rfl)) (hts (.instantiable RX3 3) (List.mem_of_getElem? (i := 7) rfl)) (hts (.initialized RX3) (List.mem_of_getElem? (i := 8) rfl)) hK hP hz hS hn e21 rfl (by decide) (fun j hj => by rcases (show j = 0 ∨ j = 1 ∨ j = 2 by omega) with rfl | rfl | rfl <;> rfl) rfl rfl (by decide) dX6_init_21 (fun H hP hz hS hn => ?_)
  refine lv_dup hx hb dX6_init_24 rfl ?_
  obtain ⟨M25, e25, hf⟩ := zb hf
  obtain ⟨u25, r25, hf⟩ := zb hf
  refine y_call (mc := 13) (k := 0) hS hn r25 rfl rfl (fun hrm => va_runIN (As := []) (rest := [.ref (b + M17.1), .ref (b + p0)]) ⟨hx, hb, hml, hown, hts⟩ (k_X3_init l D cy b M21 M17.1  M25 e25) ⟨va_cnB 0 hts gX6_init_X3_init_n20 rfl rfl rfl (hK.2.1 _ (List.mem_of_getElem? (i := 2) rfl)) (hts (.initialized RX3) (List.mem_of_getElem? (i := 8) rfl)) (by decide +kernel) ⟨Nat.le_of_ble_eq_true rfl, Nat.le_of_ble_eq_true rfl⟩, rfl, (hts (.instanceMethod yX3_init) (List.mem_of_getElem? (i := 10) rfl))⟩ (zp_N _ hK hP hz) rfl rfl hl.1 rfl (lv_room (Nat.le_of_ble_eq_true rfl)) dX6_init_25 hrm) (fun H locs hP hz hS hn => ?_)
  obtain ⟨M28, e28, hf⟩ := zb hf
  refine y_put (ci := 6) (k := 2) (C := RX6) (T := TX6) (N := 4) hx hb hts hi_X6_init_6 tyX6 tyX6_ok nmX6 hown hK hP hz hS hn e28 rfl rfl (by decide) (by decide) (hts (.fieldLink RX6 21 "BoundaryAnalyzer$RuleBuilder" "item" "LBoundaryAnalyzer$Part;") (List.mem_of_getElem? (i := 9) rfl)) (Or.inr ⟨rfl, hin, rfl⟩) (tyX6_ok 2 (by decide)) rfl rfl dX6_init_28 (fun H locs hP hz hS hn => ?_)
  refine lv_iconst (v := (0 : Int32)) hx hb dX6_init_31 (by decide) ?_
  refine lv_istore_n (lv' := [(1, .int (0 : Int32)), (0, .ref (b + p0))]) hx hb dX6_init_32 rfl hl (by decide) rfl (fun ls hl => ?_)
  exact L33 _ _ _ _ _ _ _ hf hP hz hS hn (lv_sub hl [1, 0] rfl)
theorem hi_X6_beginLevel_3 : ∀ w ∈ wsX30, w ∈ wsX6_beginLevel := fun _ h => List.mem_cons_of_mem _ (List.mem_append_right _ h)
theorem hi_X6_beginLevel_6 : ∀ w ∈ wsX60, w ∈ wsX6_beginLevel := fun _ h => List.mem_cons_of_mem _ (List.mem_append_left _ (List.mem_append_right _ h))
set_option maxHeartbeats 4000000 in
set_option maxRecDepth 100000 in
theorem k_X6_beginLevel (l : Launch) (D : va_G) (cy : Nat → ClassId) (b : Nat) (M0 : Mem) (p0 : Nat) (rr : Mem) (hf : fX6_beginLevel M0 p0 = some rr) : Met l yX6_beginLevel wsX6_beginLevel ({ frames := 2, cells := 0, slots := 0, locals := 43 } : Room) (zPc D cy b M0 [.ref (b + p0)]) (zQv D cy b rr) 0 0 (zA b) := by
  refine Met.ofW (cc := cX6_beginLevel) (maxL := 1) (ret := none) (by decide) rfl ?_
  intro p e s m args below meth c s₁ B hml hv
  obtain ⟨rfl, hP, hK⟩ := hv
  have hx := B.exec
  have hb := B.bytes
  have hr := B.returns
  have hts := atoms_spec (ws := wsX6_beginLevel) B.pre
  have hown : s.vm.findClass RX6 = some m.cls := findClass_of_methodNamed B.named
  have hlocks := B.notSynchronized
  have hS : va_S (zA b) s.heap s.heap [] := va_S.rf
  have hl := lv_entry ([.ref (b + p0)]) (n := 1) (Nat.le_of_ble_eq_true rfl)
  rw [lg_entry_eq]
  generalize (lg_sl ([.ref (b + p0)]) ++ List.replicate (1 - (lg_sl ([.ref (b + p0)])).length) Slot.unset).toArray = ls at hl ⊢
  have hl : lv_has ls 1 [(0, .ref (b + p0))] := hl
  unfold fX6_beginLevel at hf
  refine lv_aload_n hx hb dX6_beginLevel_0 rfl (lv_at hl 0 rfl) ?_
  obtain ⟨v1, e1, hf⟩ := zb hf
  refine zr_gr (ci := 6) (k := 0) (C := RX6) (T := TX6) (N := 4) hx hb hts hi_X6_beginLevel_6 hown hK hP e1 rfl rfl (by decide) (by decide) (hts (.fieldLink RX6 11 "BoundaryAnalyzer$RuleBuilder" "alternatives" "[LBoundaryAnalyzer$Part;") (List.mem_of_getElem? (i := 1) rfl)) dX6_beginLevel_1 ?_
  refine lv_aload_n hx hb dX6_beginLevel_4 rfl (lv_at hl 0 rfl) ?_
  obtain ⟨v5, e5, hf⟩ := zb hf
  refine zr_gi (ci := 6) (k := 3) (C := RX6) (T := TX6) (N := 4) hx hb hts hi_X6_beginLevel_6 hown hK hP e5 rfl rfl (by decide) (by decide) (hts (.fieldLink RX6 49 "BoundaryAnalyzer$RuleBuilder" "depth" "I") (List.mem_of_getElem? (i := 2) rfl)) dX6_beginLevel_5 ?_
  obtain ⟨v8, e8, hf⟩ := zb hf
  refine zr_aa (t0 := 5) hx hb hK hP e8 (by decide) rfl dX6_beginLevel_8 ?_
  obtain ⟨u9, t9, hf⟩ := zb hf
  obtain ⟨M9, e9, hf⟩ := zb hf
  refine zc_v hS (va_runV (As := []) (rest := []) ⟨hx, hb, hml, hown, hts⟩ (k_X3_becomeNothing l D cy b M0 v8  M9 e9) (cwV 0 hts gX6_beginLevel_X3_becomeNothing rfl rfl rfl (by decide +kernel) ⟨Nat.le_of_ble_eq_true rfl, Nat.le_of_ble_eq_true rfl⟩) (zp_V _ hK hP t9 (T := TX3) (N := 3) rfl (by decide)) rfl rfl hl.1 rfl (lv_room (Nat.le_of_ble_eq_true rfl)) dX6_beginLevel_9 ⟨Nat.zero_le _, Nat.zero_le _⟩) (fun H locs hP hS => ?_)
  refine lv_aload_n hx hb dX6_beginLevel_12 rfl (lv_at hl 0 rfl) ?_
  obtain ⟨v13, e13, hf⟩ := zb hf
  refine zr_gr (ci := 6) (k := 1) (C := RX6) (T := TX6) (N := 4) hx hb hts hi_X6_beginLevel_6 hown hK hP e13 rfl rfl (by decide) (by decide) (hts (.fieldLink RX6 17 "BoundaryAnalyzer$RuleBuilder" "sequences" "[LBoundaryAnalyzer$Part;") (List.mem_of_getElem? (i := 3) rfl)) dX6_beginLevel_13 ?_
  refine lv_aload_n hx hb dX6_beginLevel_16 rfl (lv_at hl 0 rfl) ?_
  obtain ⟨v17, e17, hf⟩ := zb hf
  refine zr_gi (ci := 6) (k := 3) (C := RX6) (T := TX6) (N := 4) hx hb hts hi_X6_beginLevel_6 hown hK hP e17 rfl rfl (by decide) (by decide) (hts (.fieldLink RX6 49 "BoundaryAnalyzer$RuleBuilder" "depth" "I") (List.mem_of_getElem? (i := 2) rfl)) dX6_beginLevel_17 ?_
  obtain ⟨v20, e20, hf⟩ := zb hf
  refine zr_aa (t0 := 5) hx hb hK hP e20 (by decide) rfl dX6_beginLevel_20 ?_
  obtain ⟨u21, t21, hf⟩ := zb hf
  obtain ⟨M21, e21, hf⟩ := zb hf
  refine zc_v hS (va_runV (As := []) (rest := []) ⟨hx, hb, hml, hown, hts⟩ (k_X3_becomeEmpty l D cy b M9 v20  M21 e21) (cwV 0 hts gX6_beginLevel_X3_becomeEmpty rfl rfl rfl (by decide +kernel) ⟨Nat.le_of_ble_eq_true rfl, Nat.le_of_ble_eq_true rfl⟩) (zp_V _ hK hP t21 (T := TX3) (N := 3) rfl (by decide)) rfl rfl hl.1 rfl (lv_room (Nat.le_of_ble_eq_true rfl)) dX6_beginLevel_21 ⟨Nat.zero_le _, Nat.zero_le _⟩) (fun H locs hP hS => ?_)
  exact zret_v hx hb hr hlocks hf hP hS dX6_beginLevel_24
theorem hi_X6_goDeeper_6 : ∀ w ∈ wsX60, w ∈ wsX6_goDeeper := fun _ h => List.mem_cons_of_mem _ (List.mem_append_left _ (List.mem_append_right _ h))
set_option maxHeartbeats 4000000 in
set_option maxRecDepth 100000 in
theorem k_X6_goDeeper (l : Launch) (D : va_G) (cy : Nat → ClassId) (b : Nat) (M0 : Mem) (p0 : Nat) (rr : Mem) (hf : fX6_goDeeper M0 p0 = some rr) : Met l yX6_goDeeper wsX6_goDeeper ({ frames := 3, cells := 0, slots := 0, locals := 63 } : Room) (zPc D cy b M0 [.ref (b + p0)]) (zQv D cy b rr) 0 0 (zA b) := by
  refine Met.ofW (cc := cX6_goDeeper) (maxL := 1) (ret := none) (by decide) rfl ?_
  intro p e s m args below meth c s₁ B hml hv
  obtain ⟨rfl, hP, hK⟩ := hv
  have hx := B.exec
  have hb := B.bytes
  have hr := B.returns
  have hts := atoms_spec (ws := wsX6_goDeeper) B.pre
  have hown : s.vm.findClass RX6 = some m.cls := findClass_of_methodNamed B.named
  have hlocks := B.notSynchronized
  have hS : va_S (zA b) s.heap s.heap [] := va_S.rf
  have hl := lv_entry ([.ref (b + p0)]) (n := 1) (Nat.le_of_ble_eq_true rfl)
  rw [lg_entry_eq]
  generalize (lg_sl ([.ref (b + p0)]) ++ List.replicate (1 - (lg_sl ([.ref (b + p0)])).length) Slot.unset).toArray = ls at hl ⊢
  have hl : lv_has ls 1 [(0, .ref (b + p0))] := hl
  unfold fX6_goDeeper at hf
  refine lv_aload_n hx hb dX6_goDeeper_0 rfl (lv_at hl 0 rfl) ?_
  obtain ⟨v1, e1, hf⟩ := zb hf
  refine zr_gi (ci := 6) (k := 3) (C := RX6) (T := TX6) (N := 4) hx hb hts hi_X6_goDeeper_6 hown hK hP e1 rfl rfl (by decide) (by decide) (hts (.fieldLink RX6 49 "BoundaryAnalyzer$RuleBuilder" "depth" "I") (List.mem_of_getElem? (i := 1) rfl)) dX6_goDeeper_1 ?_
  refine lv_iconst (v := (4 : Int32)) hx hb dX6_goDeeper_4 (by decide) ?_
  refine lv_icmp_ge (tgt := 22) hx hb dX6_goDeeper_5 (by decide) (fun c5 => ?_) (fun c5 => ?_)
  · have hf := (if_pos c5).symm.trans hf
    exact zret_v hx hb hr hlocks hf hP hS dX6_goDeeper_22
  · have hf := (if_neg c5).symm.trans hf
    refine lv_aload_n hx hb dX6_goDeeper_8 rfl (lv_at hl 0 rfl) ?_
    refine lv_dup hx hb dX6_goDeeper_9 rfl ?_
    obtain ⟨v10, e10, hf⟩ := zb hf
    refine zr_gi (ci := 6) (k := 3) (C := RX6) (T := TX6) (N := 4) hx hb hts hi_X6_goDeeper_6 hown hK hP e10 rfl rfl (by decide) (by decide) (hts (.fieldLink RX6 49 "BoundaryAnalyzer$RuleBuilder" "depth" "I") (List.mem_of_getElem? (i := 1) rfl)) dX6_goDeeper_10 ?_
    refine lv_iconst (v := (1 : Int32)) hx hb dX6_goDeeper_13 (by decide) ?_
    refine lv_iadd hx hb dX6_goDeeper_14 ?_
    obtain ⟨M15, e15, hf⟩ := zb hf
    refine zr_pi (ci := 6) (k := 3) (C := RX6) (T := TX6) (N := 4) hx hb hts hi_X6_goDeeper_6 tyX6 tyX6_ok nmX6 hown hK hP hS e15 rfl rfl (by decide) (by decide) (hts (.fieldLink RX6 49 "BoundaryAnalyzer$RuleBuilder" "depth" "I") (List.mem_of_getElem? (i := 1) rfl)) rfl (tyX6_ok 3 (by decide)) dX6_goDeeper_15 (fun H locs hP _ hS => ?_)
    refine lv_aload_n hx hb dX6_goDeeper_18 rfl (lv_at hl 0 rfl) ?_
    obtain ⟨u19, t19, hf⟩ := zb hf
    obtain ⟨M19, e19, hf⟩ := zb hf
    refine zc_v hS (va_runV (As := []) (rest := []) ⟨hx, hb, hml, hown, hts⟩ (k_X6_beginLevel l D cy b M15 p0  M19 e19) (cwV 0 hts gX6_goDeeper_X6_beginLevel rfl rfl rfl (by decide +kernel) ⟨Nat.le_of_ble_eq_true rfl, Nat.le_of_ble_eq_true rfl⟩) (zp_V _ hK hP t19 (T := TX6) (N := 4) rfl (by decide)) rfl rfl hl.1 rfl (lv_room (Nat.le_of_ble_eq_true rfl)) dX6_goDeeper_19 ⟨Nat.zero_le _, Nat.zero_le _⟩) (fun H locs hP hS => ?_)
    exact zret_v hx hb hr hlocks hf hP hS dX6_goDeeper_22
