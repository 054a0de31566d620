theorem hi_X1_stepForward_1 : ∀ w ∈ wsX10, w ∈ wsX1_stepForward := fun _ h => List.mem_cons_of_mem _ (List.mem_append_right _ h)
set_option maxHeartbeats 4000000 in
set_option maxRecDepth 100000 in
theorem k_X1_stepForward (l : Launch) (D : va_G) (cy : Nat → ClassId) (b : Nat) (M0 : Mem) (p0 : Nat) (rr : Nat × Mem) (hf : fX1_stepForward M0 p0 = some rr) : Met l yX1_stepForward wsX1_stepForward ({ frames := 2, cells := 0, slots := 0, locals := 43 } : Room) (zPc D cy b M0 [.ref (b + p0)]) (zQr D cy b rr) 0 0 (zA b) := by
  refine Met.ofW (cc := cX1_stepForward) (maxL := 1) (ret := (some (.object "BoundaryAnalyzer$Edit"))) (by decide) rfl ?_
  intro p e s m args below meth c s₁ B hml hv
  obtain ⟨rfl, hP, hK⟩ := hv
  have hx := B.exec
  have hb := B.bytes
  have hr := B.returns
  have hts := atoms_spec (ws := wsX1_stepForward) B.pre
  have hown : s.vm.findClass RX1 = some m.cls := findClass_of_methodNamed B.named
  have hlocks := B.notSynchronized
  have hS : va_S (zA b) s.heap s.heap [] := va_S.rf
  have hl := lv_entry ([.ref (b + p0)]) (n := 1) (Nat.le_of_ble_eq_true rfl)
  rw [lg_entry_eq]
  generalize (lg_sl ([.ref (b + p0)]) ++ List.replicate (1 - (lg_sl ([.ref (b + p0)])).length) Slot.unset).toArray = ls at hl ⊢
  have hl : lv_has ls 1 [(0, .ref (b + p0))] := hl
  unfold fX1_stepForward at hf
  refine lv_aload_n hx hb dX1_stepForward_0 rfl (lv_at hl 0 rfl) ?_
  refine lv_dup hx hb dX1_stepForward_1 rfl ?_
  obtain ⟨v2, e2, hf⟩ := zb hf
  refine zr_gi (ci := 1) (k := 2) (C := RX1) (T := TX1) (N := 4) hx hb hts hi_X1_stepForward_1 hown hK hP e2 rfl rfl (by decide) (by decide) (hts (.fieldLink RX1 31 "BoundaryAnalyzer$History" "undoable" "I") (List.mem_of_getElem? (i := 1) rfl)) dX1_stepForward_2 ?_
  refine lv_iconst (v := (1 : Int32)) hx hb dX1_stepForward_5 (by decide) ?_
  refine lv_iadd hx hb dX1_stepForward_6 ?_
  obtain ⟨M7, e7, hf⟩ := zb hf
  refine zr_pi (ci := 1) (k := 2) (C := RX1) (T := TX1) (N := 4) hx hb hts hi_X1_stepForward_1 tyX1 tyX1_ok nmX1 hown hK hP hS e7 rfl rfl (by decide) (by decide) (hts (.fieldLink RX1 31 "BoundaryAnalyzer$History" "undoable" "I") (List.mem_of_getElem? (i := 1) rfl)) rfl (tyX1_ok 2 (by decide)) dX1_stepForward_7 (fun H locs hP _ hS => ?_)
  refine lv_aload_n hx hb dX1_stepForward_10 rfl (lv_at hl 0 rfl) ?_
  refine lv_dup hx hb dX1_stepForward_11 rfl ?_
  obtain ⟨v12, e12, hf⟩ := zb hf
  refine zr_gi (ci := 1) (k := 3) (C := RX1) (T := TX1) (N := 4) hx hb hts hi_X1_stepForward_1 hown hK hP e12 rfl rfl (by decide) (by decide) (hts (.fieldLink RX1 28 "BoundaryAnalyzer$History" "redoable" "I") (List.mem_of_getElem? (i := 2) rfl)) dX1_stepForward_12 ?_
  refine lv_iconst (v := (1 : Int32)) hx hb dX1_stepForward_15 (by decide) ?_
  refine lv_isub hx hb dX1_stepForward_16 ?_
  obtain ⟨M17, e17, hf⟩ := zb hf
  refine zr_pi (ci := 1) (k := 3) (C := RX1) (T := TX1) (N := 4) hx hb hts hi_X1_stepForward_1 tyX1 tyX1_ok nmX1 hown hK hP hS e17 rfl rfl (by decide) (by decide) (hts (.fieldLink RX1 28 "BoundaryAnalyzer$History" "redoable" "I") (List.mem_of_getElem? (i := 2) rfl)) rfl (tyX1_ok 3 (by decide)) dX1_stepForward_17 (fun H locs hP _ hS => ?_)
  refine lv_aload_n hx hb dX1_stepForward_20 rfl (lv_at hl 0 rfl) ?_
  refine lv_aload_n hx hb dX1_stepForward_21 rfl (lv_at hl 0 rfl) ?_
  obtain ⟨v22, e22, hf⟩ := zb hf
  refine zr_gi (ci := 1) (k := 2) (C := RX1) (T := TX1) (N := 4) hx hb hts hi_X1_stepForward_1 hown hK hP e22 rfl rfl (by decide) (by decide) (hts (.fieldLink RX1 31 "BoundaryAnalyzer$History" "undoable" "I") (List.mem_of_getElem? (i := 1) rfl)) dX1_stepForward_22 ?_
  refine lv_iconst (v := (1 : Int32)) hx hb dX1_stepForward_25 (by decide) ?_
  refine lv_isub hx hb dX1_stepForward_26 ?_
  obtain ⟨u27, t27, hf⟩ := zb hf
  obtain ⟨r27, e27, hf⟩ := zb hf
  refine zc_r hS (va_runV (As := [.int (v22 - (1 : Int32))]) (rest := []) ⟨hx, hb, hml, hown, hts⟩ (k_X1_atIndex l D cy b M17 p0 (v22 - (1 : Int32)) r27 e27) (cwV 1 hts gX1_stepForward_X1_atIndex rfl rfl rfl (by decide +kernel) ⟨Nat.le_of_ble_eq_true rfl, Nat.le_of_ble_eq_true rfl⟩) (zp_V _ hK hP t27 (T := TX1) (N := 4) rfl (by decide)) rfl rfl hl.1 rfl (lv_room (Nat.le_of_ble_eq_true rfl)) dX1_stepForward_27 ⟨Nat.zero_le _, Nat.zero_le _⟩) (fun H locs hP hS => ?_)
  exact zret_r hx hb hr (Or.inl ⟨_, rfl⟩) hlocks hf hP hS dX1_stepForward_30
theorem hi_X8_init_1 : ∀ w ∈ wsX10, w ∈ wsX8_init := fun _ h => List.mem_cons_of_mem _ (List.mem_append_left _ (List.mem_append_left _ (List.mem_append_left _ (List.mem_append_right _ h))))
theorem hi_X8_init_2 : ∀ w ∈ wsX20, w ∈ wsX8_init := fun _ h => List.mem_cons_of_mem _ (List.mem_append_left _ (List.mem_append_left _ (List.mem_append_left _ (List.mem_append_left _ (List.mem_append_left _ (List.mem_append_right _ h))))))
theorem hi_X8_init_4 : ∀ w ∈ wsX40, w ∈ wsX8_init := fun _ h => List.mem_cons_of_mem _ (List.mem_append_left _ (List.mem_append_left _ (List.mem_append_left _ (List.mem_append_left _ (List.mem_append_left _ (List.mem_append_left _ (List.mem_append_right _ h)))))))
theorem hi_X8_init_6 : ∀ w ∈ wsX60, w ∈ wsX8_init := fun _ h => List.mem_cons_of_mem _ (List.mem_append_left _ (List.mem_append_left _ (List.mem_append_left _ (List.mem_append_left _ (List.mem_append_right _ h)))))
theorem hi_X8_init_7 : ∀ w ∈ wsX70, w ∈ wsX8_init := fun _ h => List.mem_cons_of_mem _ (List.mem_append_left _ (List.mem_append_left _ (List.mem_append_left _ (List.mem_append_left _ (List.mem_append_left _ (List.mem_append_left _ (List.mem_append_left _ (List.mem_append_left _ (List.mem_append_right _ h)))))))))
theorem hi_X8_init_8 : ∀ w ∈ wsX80, w ∈ wsX8_init := fun _ h => List.mem_cons_of_mem _ (List.mem_append_left _ (List.mem_append_left _ (List.mem_append_left _ (List.mem_append_left _ (List.mem_append_left _ (List.mem_append_left _ (List.mem_append_left _ (List.mem_append_right _ h))))))))
set_option maxHeartbeats 4000000 in
set_option maxRecDepth 100000 in
theorem k_X8_init (l : Launch) (D : va_G) (cy : Nat → ClassId) (b : Nat) (M0 : Mem) (p0 : Nat) (rr : Mem) (hf : fX8_init M0 p0 = some rr) : Met l yX8_init wsX8_init ({ frames := 4, cells := 278, slots := 834000, locals := 102 } : Room) (zPn D cy b M0 [.ref (b + p0)]) (zQn D cy b rr) 278 834000 (zA b) := by
  refine Met.ofW (cc := cX8_init) (maxL := 2) (ret := none) (by decide) rfl ?_
  intro p e s m args below meth c s₁ B hml hv
  obtain ⟨rfl, hP, hK, hz⟩ := hv
  have hx := B.exec
  have hb := B.bytes
  have hr := B.returns
  have hts := atoms_spec (ws := wsX8_init) B.pre
  have hown : s.vm.findClass RX8 = some m.cls := findClass_of_methodNamed B.named
  have hlocks := B.notSynchronized
  have hin : meth.name = "<init>" := (name_of_methodNamed B.named B.method).1
  have hS : va_S (zA b) s.heap s.heap [] := va_S.rf
  have hl := lv_entry ([.ref (b + p0)]) (n := 2) (Nat.le_of_ble_eq_true rfl)
  rw [lg_entry_eq]
  generalize (lg_sl ([.ref (b + p0)]) ++ List.replicate (2 - (lg_sl ([.ref (b + p0)])).length) Slot.unset).toArray = ls at hl ⊢
  have hl : lv_has ls 2 [(0, .ref (b + p0))] := hl
  have hn : yN M0.1 278 M0 := ⟨Nat.le_refl _, Nat.le_add_right _ _⟩
  refine y_begin (M := M0) ?_
  have L84 : ∀ (n84 : Nat) (M : Mem) (H : Heap) (locs : List Loc) (ls : Array Slot) (h0 : Nat) (x1 : Int32), fX8_init_84L M0  n84 M h0 x1 = some rr → zH D cy b M H → H.size = b + M.1 → va_S (zA b) s.heap H locs → yN M0.1 278 M → lv_has ls 2 [(0, .ref (b + h0)), (1, .int x1)] → yW p l e (headSpec wsX8_init ({ frames := 4, cells := 278, slots := 834000, locals := 102 } : Room)).room s m ([.ref (b + p0)] : List Value).toArray below meth c H locs M0.1 M (MQ below (zQn D cy b rr) ([.ref (b + p0)] : List Value).toArray s 278 834000 (zA b)) (F0 m 84 ls []) := by
    intro n84
    induction n84 with
    | zero =>
      intro M H locs ls h0 x1 hf
      have hf : (none : Option Mem) = some rr := hf
      cases hf
    | succ n84 ih84 =>
      intro M H locs ls h0 x1 hf hP hz hS hn hl
      have hf : fX8_init_84 M0  (fX8_init_84L M0  n84) M h0 x1 = some rr := hf
      unfold fX8_init_84 at hf
      refine lv_iload_n hx hb dX8_init_84 rfl (lv_at hl 1 rfl) ?_
      refine lv_bipush (v := (10 : Int32)) hx hb dX8_init_85 (by decide) ?_
      refine lv_icmp_ge (tgt := 111) hx hb dX8_init_87 (by decide) (fun c87 => ?_) (fun c87 => ?_)
      · have hf := (if_pos c87).symm.trans hf
        refine lv_aload_n hx hb dX8_init_111 rfl (lv_at hl 0 rfl) ?_
        obtain ⟨M112, e112, hf⟩ := zb hf
        refine y_no (mc := 278) (ci := 1) (C := RX1) (T := TX1) (N := 4) hx hb hts hi_X8_init_1 tyX1 tyX1_ok hown (hts (.classLink RX8 43 RX1) (List.mem_of_getElem? (i := 21) rfl)) (hts (.instantiable RX1 4) (List.mem_of_getElem? (i := 22) rfl)) (hts (.initialized RX1) (List.mem_of_getElem? (i := 23) rfl)) hK hP hz hS hn e112 rfl (by decide) (fun j hj => by rcases (show j = 0 ∨ j = 1 ∨ j = 2 ∨ j = 3 by omega) with rfl | rfl | rfl | rfl <;> rfl) rfl rfl (by decide) dX8_init_112 (fun H hP hz hS hn => ?_)
        refine lv_dup hx hb dX8_init_115 rfl ?_
        obtain ⟨M116, e116, hf⟩ := zb hf
        obtain ⟨u116, r116, hf⟩ := zb hf
        refine y_call (mc := 278) (k := 91) hS hn r116 rfl rfl (fun hrm => va_runI (As := []) (rest := [.ref (b + M.1), .ref (b + h0)]) ⟨hx, hb, hml, hown, hts⟩ (k_X1_init l D cy b M112 M.1  M116 e116) (cwI 0 hts gX8_init_X1_init rfl rfl rfl (hts (.initialized RX1) (List.mem_of_getElem? (i := 23) rfl)) (hts (.methodLink RX8 45 yX1_init) (List.mem_of_getElem? (i := 82) rfl)) (hts (.instanceMethod yX1_init) (List.mem_of_getElem? (i := 83) rfl)) rfl (by decide +kernel) ⟨Nat.le_of_ble_eq_true rfl, Nat.le_of_ble_eq_true rfl⟩) (zp_N _ hK hP hz) rfl rfl hl.1 rfl (lv_room (Nat.le_of_ble_eq_true rfl)) dX8_init_116 hrm) (fun H locs hP hz hS hn => ?_)
        obtain ⟨M119, e119, hf⟩ := zb hf
        refine y_put (ci := 8) (k := 6) (C := RX8) (T := TX8) (N := 7) hx hb hts hi_X8_init_8 tyX8 tyX8_ok nmX8 hown hK hP hz hS hn e119 rfl rfl (by decide) (by decide) (hts (.fieldLink RX8 46 "BoundaryAnalyzer" "history" "LBoundaryAnalyzer$History;") (List.mem_of_getElem? (i := 24) rfl)) (Or.inr ⟨rfl, hin, rfl⟩) (tyX8_ok 6 (by decide)) rfl rfl dX8_init_119 (fun H locs hP hz hS hn => ?_)
        exact y_ret (mc := 278) hx hb hr hlocks hf hP hz hS hn dX8_init_122
      · have hf := (if_neg c87).symm.trans hf
        refine lv_aload_n hx hb dX8_init_90 rfl (lv_at hl 0 rfl) ?_
        obtain ⟨v91, e91, hf⟩ := zb hf
        refine zr_gr (ci := 8) (k := 4) (C := RX8) (T := TX8) (N := 7) hx hb hts hi_X8_init_8 hown hK hP e91 rfl rfl (by decide) (by decide) (hts (.fieldLink RX8 39 "BoundaryAnalyzer" "exceptions" "[LBoundaryAnalyzer$Row;") (List.mem_of_getElem? (i := 20) rfl)) dX8_init_91 ?_
        refine lv_iload_n hx hb dX8_init_94 rfl (lv_at hl 1 rfl) ?_
        obtain ⟨M95, e95, hf⟩ := zb hf
        refine y_no (mc := 278) (ci := 4) (C := RX4) (T := TX4) (N := 2) hx hb hts hi_X8_init_4 tyX4 tyX4_ok hown (hts (.classLink RX8 16 RX4) (List.mem_of_getElem? (i := 8) rfl)) (hts (.instantiable RX4 2) (List.mem_of_getElem? (i := 9) rfl)) (hts (.initialized RX4) (List.mem_of_getElem? (i := 10) rfl)) hK hP hz hS hn e95 rfl (by decide) (fun j hj => by rcases (show j = 0 ∨ j = 1 by omega) with rfl | rfl <;> rfl) rfl rfl (by decide) dX8_init_95 (fun H hP hz hS hn => ?_)
        refine lv_dup hx hb dX8_init_98 rfl ?_
        refine lv_bipush (v := (8 : Int32)) hx hb dX8_init_99 (by decide) ?_
        obtain ⟨M101, e101, hf⟩ := zb hf
        obtain ⟨u101, r101, hf⟩ := zb hf
        refine y_call (mc := 278) (k := 1) hS hn r101 rfl rfl (fun hrm => va_runI (As := [.int (8 : Int32)]) (rest := [.ref (b + M.1), .int x1, .ref (b + v91)]) ⟨hx, hb, hml, hown, hts⟩ (k_X4_init l D cy b M95 M.1 (8 : Int32) M101 e101) (cwI 1 hts gX8_init_X4_init rfl rfl rfl (hts (.initialized RX4) (List.mem_of_getElem? (i := 10) rfl)) (hts (.methodLink RX8 18 yX4_init) (List.mem_of_getElem? (i := 46) rfl)) (hts (.instanceMethod yX4_init) (List.mem_of_getElem? (i := 34) rfl)) rfl (by decide +kernel) ⟨Nat.le_of_ble_eq_true rfl, Nat.le_of_ble_eq_true rfl⟩) (zp_N _ hK hP hz) rfl rfl hl.1 rfl (lv_room (Nat.le_of_ble_eq_true rfl)) dX8_init_101 hrm) (fun H locs hP hz hS hn => ?_)
        obtain ⟨M104, e104, hf⟩ := zb hf
        refine y_sa (t0 := 6) (r := (RX4, TX4, 2)) hx hb hK hP hz hS hn e104 (by decide) (by decide) rfl rfl dX8_init_104 (fun H locs hP hz hS hn => ?_)
        obtain ⟨x1_105, q105, hf⟩ := zlt_s hf
        refine lv_iinc (v := x1_105) (lv' := [(1, .int x1_105), (0, .ref (b + h0))]) hx hb dX8_init_105 hl (k := 1) rfl (by rw [← q105]; rfl) (by decide) rfl (fun ls hl => ?_)
        refine lv_goto (tgt := 84) hx hb dX8_init_108 (by decide) ?_
        exact ih84 _ _ _ _ _ _ hf hP hz hS hn (lv_sub hl [1, 0] rfl)
  have L38 : ∀ (n38 : Nat) (M : Mem) (H : Heap) (locs : List Loc) (ls : Array Slot) (h0 : Nat) (x1 : Int32), fX8_init_38L M0  n38 M h0 x1 = some rr → zH D cy b M H → H.size = b + M.1 → va_S (zA b) s.heap H locs → yN M0.1 278 M → lv_has ls 2 [(0, .ref (b + h0)), (1, .int x1)] → yW p l e (headSpec wsX8_init ({ frames := 4, cells := 278, slots := 834000, locals := 102 } : Room)).room s m ([.ref (b + p0)] : List Value).toArray below meth c H locs M0.1 M (MQ below (zQn D cy b rr) ([.ref (b + p0)] : List Value).toArray s 278 834000 (zA b)) (F0 m 38 ls []) := by
    intro n38
    induction n38 with
    | zero =>
      intro M H locs ls h0 x1 hf
      have hf : (none : Option Mem) = some rr := hf
      cases hf
    | succ n38 ih38 =>
      intro M H locs ls h0 x1 hf hP hz hS hn hl
      have hf : fX8_init_38 M0  (fX8_init_38L M0  n38) M h0 x1 = some rr := hf
      unfold fX8_init_38 at hf
      refine lv_iload_n hx hb dX8_init_38 rfl (lv_at hl 1 rfl) ?_
      refine lv_iconst (v := (3 : Int32)) hx hb dX8_init_39 (by decide) ?_
      refine lv_icmp_ge (tgt := 62) hx hb dX8_init_40 (by decide) (fun c40 => ?_) (fun c40 => ?_)
      · have hf := (if_pos c40).symm.trans hf
        refine lv_aload_n hx hb dX8_init_62 rfl (lv_at hl 0 rfl) ?_
        obtain ⟨M63, e63, hf⟩ := zb hf
        refine y_no (mc := 278) (ci := 6) (C := RX6) (T := TX6) (N := 4) hx hb hts hi_X8_init_6 tyX6 tyX6_ok hown (hts (.classLink RX8 32 RX6) (List.mem_of_getElem? (i := 16) rfl)) (hts (.instantiable RX6 4) (List.mem_of_getElem? (i := 17) rfl)) (hts (.initialized RX6) (List.mem_of_getElem? (i := 18) rfl)) hK hP hz hS hn e63 rfl (by decide) (fun j hj => by rcases (show j = 0 ∨ j = 1 ∨ j = 2 ∨ j = 3 by omega) with rfl | rfl | rfl | rfl <;> rfl) rfl rfl (by decide) dX8_init_63 (fun H hP hz hS hn => ?_)
        refine lv_dup hx hb dX8_init_66 rfl ?_
        obtain ⟨M67, e67, hf⟩ := zb hf
        obtain ⟨u67, r67, hf⟩ := zb hf
        refine y_call (mc := 278) (k := 13) hS hn r67 rfl rfl (fun hrm => va_runI (As := []) (rest := [.ref (b + M.1), .ref (b + h0)]) ⟨hx, hb, hml, hown, hts⟩ (k_X6_init l D cy b M63 M.1  M67 e67) (cwI 0 hts gX8_init_X6_init rfl rfl rfl (hts (.initialized RX6) (List.mem_of_getElem? (i := 18) rfl)) (hts (.methodLink RX8 34 yX6_init) (List.mem_of_getElem? (i := 74) rfl)) (hts (.instanceMethod yX6_init) (List.mem_of_getElem? (i := 75) rfl)) rfl (by decide +kernel) ⟨Nat.le_of_ble_eq_true rfl, Nat.le_of_ble_eq_true rfl⟩) (zp_N _ hK hP hz) rfl rfl hl.1 rfl (lv_room (Nat.le_of_ble_eq_true rfl)) dX8_init_67 hrm) (fun H locs hP hz hS hn => ?_)
        obtain ⟨M70, e70, hf⟩ := zb hf
        refine y_put (ci := 8) (k := 3) (C := RX8) (T := TX8) (N := 7) hx hb hts hi_X8_init_8 tyX8 tyX8_ok nmX8 hown hK hP hz hS hn e70 rfl rfl (by decide) (by decide) (hts (.fieldLink RX8 35 "BoundaryAnalyzer" "builder" "LBoundaryAnalyzer$RuleBuilder;") (List.mem_of_getElem? (i := 19) rfl)) (Or.inr ⟨rfl, hin, rfl⟩) (tyX8_ok 3 (by decide)) rfl rfl dX8_init_70 (fun H locs hP hz hS hn => ?_)
        refine lv_aload_n hx hb dX8_init_73 rfl (lv_at hl 0 rfl) ?_
        refine lv_bipush (v := (10 : Int32)) hx hb dX8_init_74 (by decide) ?_
        obtain ⟨M76, e76, hf⟩ := zb hf
        refine y_nq (mc := 278) (t0 := 6) hx hb hown (hts (.classLink RX8 16 RX4) (List.mem_of_getElem? (i := 8) rfl)) (List.mem_of_getElem? (i := 3) rfl) hK hP hz hS hn e76 rfl (by decide) (zsL_max _) rfl rfl dX8_init_76 (fun H hP hz hS hn => ?_)
        obtain ⟨M79, e79, hf⟩ := zb hf
        refine y_put (ci := 8) (k := 4) (C := RX8) (T := TX8) (N := 7) hx hb hts hi_X8_init_8 tyX8 tyX8_ok nmX8 hown hK hP hz hS hn e79 rfl rfl (by decide) (by decide) (hts (.fieldLink RX8 39 "BoundaryAnalyzer" "exceptions" "[LBoundaryAnalyzer$Row;") (List.mem_of_getElem? (i := 20) rfl)) (Or.inr ⟨rfl, hin, rfl⟩) (tyX8_ok 4 (by decide)) rfl rfl dX8_init_79 (fun H locs hP hz hS hn => ?_)
        refine lv_iconst (v := (0 : Int32)) hx hb dX8_init_82 (by decide) ?_
        refine lv_istore_n (lv' := [(1, .int (0 : Int32)), (0, .ref (b + h0))]) hx hb dX8_init_83 rfl hl (by decide) rfl (fun ls hl => ?_)
        exact L84 _ _ _ _ _ _ _ hf hP hz hS hn (lv_sub hl [1, 0] rfl)
      · have hf := (if_neg c40).symm.trans hf
        refine lv_aload_n hx hb dX8_init_43 rfl (lv_at hl 0 rfl) ?_
        obtain ⟨v44, e44, hf⟩ := zb hf
        refine zr_gr (ci := 8) (k := 2) (C := RX8) (T := TX8) (N := 7) hx hb hts hi_X8_init_8 hown hK hP e44 rfl rfl (by decide) (by decide) (hts (.fieldLink RX8 27 "BoundaryAnalyzer" "kinds" "[LBoundaryAnalyzer$Kind;") (List.mem_of_getElem? (i := 13) rfl)) dX8_init_44 ?_
        refine lv_iload_n hx hb dX8_init_47 rfl (lv_at hl 1 rfl) ?_
        obtain ⟨M48, e48, hf⟩ := zb hf
        refine y_no (mc := 278) (ci := 2) (C := RX2) (T := TX2) (N := 5) hx hb hts hi_X8_init_2 tyX2 tyX2_ok hown (hts (.classLink RX8 25 RX2) (List.mem_of_getElem? (i := 12) rfl)) (hts (.instantiable RX2 5) (List.mem_of_getElem? (i := 14) rfl)) (hts (.initialized RX2) (List.mem_of_getElem? (i := 15) rfl)) hK hP hz hS hn e48 rfl (by decide) (fun j hj => by rcases (show j = 0 ∨ j = 1 ∨ j = 2 ∨ j = 3 ∨ j = 4 by omega) with rfl | rfl | rfl | rfl | rfl <;> rfl) rfl rfl (by decide) dX8_init_48 (fun H hP hz hS hn => ?_)
        refine lv_dup hx hb dX8_init_51 rfl ?_
        obtain ⟨M52, e52, hf⟩ := zb hf
        obtain ⟨u52, r52, hf⟩ := zb hf
        refine y_call (mc := 278) (k := 47) hS hn r52 rfl rfl (fun hrm => va_runI (As := []) (rest := [.ref (b + M.1), .int x1, .ref (b + v44)]) ⟨hx, hb, hml, hown, hts⟩ (k_X2_init l D cy b M48 M.1  M52 e52) (cwI 0 hts gX8_init_X2_init rfl rfl rfl (hts (.initialized RX2) (List.mem_of_getElem? (i := 15) rfl)) (hts (.methodLink RX8 31 yX2_init) (List.mem_of_getElem? (i := 47) rfl)) (hts (.instanceMethod yX2_init) (List.mem_of_getElem? (i := 48) rfl)) rfl (by decide +kernel) ⟨Nat.le_of_ble_eq_true rfl, Nat.le_of_ble_eq_true rfl⟩) (zp_N _ hK hP hz) rfl rfl hl.1 rfl (lv_room (Nat.le_of_ble_eq_true rfl)) dX8_init_52 hrm) (fun H locs hP hz hS hn => ?_)
        obtain ⟨M55, e55, hf⟩ := zb hf
        refine y_sa (t0 := 4) (r := (RX2, TX2, 5)) hx hb hK hP hz hS hn e55 (by decide) (by decide) rfl rfl dX8_init_55 (fun H locs hP hz hS hn => ?_)
        obtain ⟨x1_56, q56, hf⟩ := zlt_s hf
        refine lv_iinc (v := x1_56) (lv' := [(1, .int x1_56), (0, .ref (b + h0))]) hx hb dX8_init_56 hl (k := 1) rfl (by rw [← q56]; rfl) (by decide) rfl (fun ls hl => ?_)
        refine lv_goto (tgt := 38) hx hb dX8_init_59 (by decide) ?_
        exact ih38 _ _ _ _ _ _ hf hP hz hS hn (lv_sub hl [1, 0] rfl)
  unfold fX8_init at hf
  refine lv_aload_n hx hb dX8_init_0 rfl (lv_at hl 0 rfl) ?_
  refine W.objInit hx hb hown (hts (.methodLink RX8 1 objectInit) (List.mem_of_getElem? (i := 1) rfl)) (hts (.instanceMethod objectInit) (List.mem_of_getElem? (i := 2) rfl)) (hts _ (List.mem_of_getElem? (i := 3) rfl)) rfl (by rw [hml]; exact hl.1) rfl dX8_init_1 (Nat.le_of_ble_eq_true rfl) (Nat.le_of_ble_eq_true rfl) ?_
  refine W.eq (g2 := F0 m 4 ls []) rfl ?_
  refine lv_aload_n hx hb dX8_init_4 rfl (lv_at hl 0 rfl) ?_
  obtain ⟨M5, e5, hf⟩ := zb hf
  refine y_no (mc := 278) (ci := 7) (C := RX7) (T := TX7) (N := 2) hx hb hts hi_X8_init_7 tyX7 tyX7_ok hown (hts (.classLink RX8 7 RX7) (List.mem_of_getElem? (i := 4) rfl)) (hts (.instantiable RX7 2) (List.mem_of_getElem? (i := 5) rfl)) (hts (.initialized RX7) (List.mem_of_getElem? (i := 6) rfl)) hK hP hz hS hn e5 rfl (by decide) (fun j hj => by rcases (show j = 0 ∨ j = 1 by omega) with rfl | rfl <;> rfl) rfl rfl (by decide) dX8_init_5 (fun H hP hz hS hn => ?_)
  refine lv_dup hx hb dX8_init_8 rfl ?_
  obtain ⟨M9, e9, hf⟩ := zb hf
  obtain ⟨u9, r9, hf⟩ := zb hf
  refine y_call (mc := 278) (k := 3) hS hn r9 rfl rfl (fun hrm => va_runI (As := []) (rest := [.ref (b + M0.1), .ref (b + p0)]) ⟨hx, hb, hml, hown, hts⟩ (k_X7_init l D cy b M5 M0.1  M9 e9) (cwI 0 hts gX8_init_X7_init rfl rfl rfl (hts (.initialized RX7) (List.mem_of_getElem? (i := 6) rfl)) (hts (.methodLink RX8 9 yX7_init) (List.mem_of_getElem? (i := 25) rfl)) (hts (.instanceMethod yX7_init) (List.mem_of_getElem? (i := 26) rfl)) rfl (by decide +kernel) ⟨Nat.le_of_ble_eq_true rfl, Nat.le_of_ble_eq_true rfl⟩) (zp_N _ hK hP hz) rfl rfl hl.1 rfl (lv_room (Nat.le_of_ble_eq_true rfl)) dX8_init_9 hrm) (fun H locs hP hz hS hn => ?_)
  obtain ⟨M12, e12, hf⟩ := zb hf
  refine y_put (ci := 8) (k := 0) (C := RX8) (T := TX8) (N := 7) hx hb hts hi_X8_init_8 tyX8 tyX8_ok nmX8 hown hK hP hz hS hn e12 rfl rfl (by decide) (by decide) (hts (.fieldLink RX8 10 "BoundaryAnalyzer" "text" "LBoundaryAnalyzer$Text;") (List.mem_of_getElem? (i := 7) rfl)) (Or.inr ⟨rfl, hin, rfl⟩) (tyX8_ok 0 (by decide)) rfl rfl dX8_init_12 (fun H locs hP hz hS hn => ?_)
  refine lv_aload_n hx hb dX8_init_15 rfl (lv_at hl 0 rfl) ?_
  obtain ⟨M16, e16, hf⟩ := zb hf
  refine y_no (mc := 278) (ci := 4) (C := RX4) (T := TX4) (N := 2) hx hb hts hi_X8_init_4 tyX4 tyX4_ok hown (hts (.classLink RX8 16 RX4) (List.mem_of_getElem? (i := 8) rfl)) (hts (.instantiable RX4 2) (List.mem_of_getElem? (i := 9) rfl)) (hts (.initialized RX4) (List.mem_of_getElem? (i := 10) rfl)) hK hP hz hS hn e16 rfl (by decide) (fun j hj => by rcases (show j = 0 ∨ j = 1 by omega) with rfl | rfl <;> rfl) rfl rfl (by decide) dX8_init_16 (fun H hP hz hS hn => ?_)
  refine lv_dup hx hb dX8_init_19 rfl ?_
  refine lv_bipush (v := (24 : Int32)) hx hb dX8_init_20 (by decide) ?_
  obtain ⟨M22, e22, hf⟩ := zb hf
  obtain ⟨u22, r22, hf⟩ := zb hf
  refine y_call (mc := 278) (k := 1) hS hn r22 rfl rfl (fun hrm => va_runI (As := [.int (24 : Int32)]) (rest := [.ref (b + M12.1), .ref (b + p0)]) ⟨hx, hb, hml, hown, hts⟩ (k_X4_init l D cy b M16 M12.1 (24 : Int32) M22 e22) (cwI 1 hts gX8_init_X4_init rfl rfl rfl (hts (.initialized RX4) (List.mem_of_getElem? (i := 10) rfl)) (hts (.methodLink RX8 18 yX4_init) (List.mem_of_getElem? (i := 46) rfl)) (hts (.instanceMethod yX4_init) (List.mem_of_getElem? (i := 34) rfl)) rfl (by decide +kernel) ⟨Nat.le_of_ble_eq_true rfl, Nat.le_of_ble_eq_true rfl⟩) (zp_N _ hK hP hz) rfl rfl hl.1 rfl (lv_room (Nat.le_of_ble_eq_true rfl)) dX8_init_22 hrm) (fun H locs hP hz hS hn => ?_)
  obtain ⟨M25, e25, hf⟩ := zb hf
  refine y_put (ci := 8) (k := 1) (C := RX8) (T := TX8) (N := 7) hx hb hts hi_X8_init_8 tyX8 tyX8_ok nmX8 hown hK hP hz hS hn e25 rfl rfl (by decide) (by decide) (hts (.fieldLink RX8 21 "BoundaryAnalyzer" "pattern" "LBoundaryAnalyzer$Row;") (List.mem_of_getElem? (i := 11) rfl)) (Or.inr ⟨rfl, hin, rfl⟩) (tyX8_ok 1 (by decide)) rfl rfl dX8_init_25 (fun H locs hP hz hS hn => ?_)
  refine lv_aload_n hx hb dX8_init_28 rfl (lv_at hl 0 rfl) ?_
  refine lv_iconst (v := (3 : Int32)) hx hb dX8_init_29 (by decide) ?_
  obtain ⟨M30, e30, hf⟩ := zb hf
  refine y_nq (mc := 278) (t0 := 4) hx hb hown (hts (.classLink RX8 25 RX2) (List.mem_of_getElem? (i := 12) rfl)) (List.mem_of_getElem? (i := 1) rfl) hK hP hz hS hn e30 rfl (by decide) (zsL_max _) rfl rfl dX8_init_30 (fun H hP hz hS hn => ?_)
  obtain ⟨M33, e33, hf⟩ := zb hf
  refine y_put (ci := 8) (k := 2) (C := RX8) (T := TX8) (N := 7) hx hb hts hi_X8_init_8 tyX8 tyX8_ok nmX8 hown hK hP hz hS hn e33 rfl rfl (by decide) (by decide) (hts (.fieldLink RX8 27 "BoundaryAnalyzer" "kinds" "[LBoundaryAnalyzer$Kind;") (List.mem_of_getElem? (i := 13) rfl)) (Or.inr ⟨rfl, hin, rfl⟩) (tyX8_ok 2 (by decide)) rfl rfl dX8_init_33 (fun H locs hP hz hS hn => ?_)
  refine lv_iconst (v := (0 : Int32)) hx hb dX8_init_36 (by decide) ?_
  refine lv_istore_n (lv' := [(1, .int (0 : Int32)), (0, .ref (b + p0))]) hx hb dX8_init_37 rfl hl (by decide) rfl (fun ls hl => ?_)
  exact L38 _ _ _ _ _ _ _ hf hP hz hS hn (lv_sub hl [1, 0] rfl)
