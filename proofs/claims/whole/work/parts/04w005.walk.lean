theorem hi_X7_init_4 : ∀ w ∈ wsX40, w ∈ wsX7_init := fun _ h => List.mem_cons_of_mem _ (List.mem_append_left _ (List.mem_append_right _ h))
theorem hi_X7_init_7 : ∀ w ∈ wsX70, w ∈ wsX7_init := fun _ h => List.mem_cons_of_mem _ (List.mem_append_right _ h)
set_option maxHeartbeats 4000000 in
set_option maxRecDepth 100000 in
theorem k_X7_init (l : Launch) (D : va_G) (cy : Nat → ClassId) (b : Nat) (M0 : Mem) (p0 : Nat) (rr : Mem) (hf : fX7_init M0 p0 = some rr) : Met l yX7_init wsX7_init ({ frames := 2, cells := 3, slots := 9000, locals := 61 } : Room) (zPn D cy b M0 [.ref (b + p0)]) (zQn D cy b rr) 3 9000 (zA b) := by
  refine Met.ofW (cc := cX7_init) (maxL := 2) (ret := none) (by decide) rfl ?_
  intro p e s m args below meth c s₁ B hml hv
  obtain ⟨rfl, hP, hK, hz⟩ := hv
  have hx := B.exec
  have hb := B.bytes
  have hr := B.returns
  have hts := atoms_spec (ws := wsX7_init) B.pre
  have hown : s.vm.findClass RX7 = some m.cls := findClass_of_methodNamed B.named
  have hlocks := B.notSynchronized
  have hin : meth.name = "<init>" := (name_of_methodNamed B.named B.method).1
  have hS : va_S (zA b) s.heap s.heap [] := va_S.rf
  have hl := lv_entry ([.ref (b + p0)]) (n := 2) (Nat.le_of_ble_eq_true rfl)
  rw [lg_entry_eq]
  generalize (lg_sl ([.ref (b + p0)]) ++ List.replicate (2 - (lg_sl ([.ref (b + p0)])).length) Slot.unset).toArray = ls at hl ⊢
  have hl : lv_has ls 2 [(0, .ref (b + p0))] := hl
  have hn : yN M0.1 3 M0 := ⟨Nat.le_refl _, Nat.le_add_right _ _⟩
  refine y_begin (M := M0) ?_
  have L27 : ∀ (n27 : Nat) (M : Mem) (H : Heap) (locs : List Loc) (ls : Array Slot) (h0 : Nat) (x1 : Int32), fX7_init_27L M0  n27 M h0 x1 = some rr → zH D cy b M H → H.size = b + M.1 → va_S (zA b) s.heap H locs → yN M0.1 3 M → lv_has ls 2 [(0, .ref (b + h0)), (1, .int x1)] → yW p l e (headSpec wsX7_init ({ frames := 2, cells := 3, slots := 9000, locals := 61 } : Room)).room s m ([.ref (b + p0)] : List Value).toArray below meth c H locs M0.1 M (MQ below (zQn D cy b rr) ([.ref (b + p0)] : List Value).toArray s 3 9000 (zA b)) (F0 m 27 ls []) := by
    intro n27
    induction n27 with
    | zero =>
      intro M H locs ls h0 x1 hf
      have hf : (none : Option Mem) = some rr := hf
      cases hf
    | succ n27 ih27 =>
      intro M H locs ls h0 x1 hf hP hz hS hn hl
      have hf : fX7_init_27 M0  (fX7_init_27L M0  n27) M h0 x1 = some rr := hf
      unfold fX7_init_27 at hf
      refine lv_iload_n hx hb dX7_init_27 rfl (lv_at hl 1 rfl) ?_
      refine lv_aload_n hx hb dX7_init_28 rfl (lv_at hl 0 rfl) ?_
      obtain ⟨v29, e29, hf⟩ := zb hf
      refine zr_gr (ci := 7) (k := 1) (C := RX7) (T := TX7) (N := 2) hx hb hts hi_X7_init_7 hown hK hP e29 rfl rfl (by decide) (by decide) (hts (.fieldLink RX7 20 "BoundaryAnalyzer$Text" "classes" "[I") (List.mem_of_getElem? (i := 9) rfl)) dX7_init_29 ?_
      obtain ⟨v32, e32, hf⟩ := zb hf
      refine zr_al (t0 := 1) hx hb hK hP e32 (by decide) rfl dX7_init_32 ?_
      refine lv_icmp_ge (tgt := 55) hx hb dX7_init_33 (by decide) (fun c33 => ?_) (fun c33 => ?_)
      · have hf := (if_pos c33).symm.trans hf
        exact y_ret (mc := 3) hx hb hr hlocks hf hP hz hS hn dX7_init_55
      · have hf := (if_neg c33).symm.trans hf
        refine lv_aload_n hx hb dX7_init_36 rfl (lv_at hl 0 rfl) ?_
        obtain ⟨v37, e37, hf⟩ := zb hf
        refine zr_gr (ci := 7) (k := 1) (C := RX7) (T := TX7) (N := 2) hx hb hts hi_X7_init_7 hown hK hP e37 rfl rfl (by decide) (by decide) (hts (.fieldLink RX7 20 "BoundaryAnalyzer$Text" "classes" "[I") (List.mem_of_getElem? (i := 9) rfl)) dX7_init_37 ?_
        refine lv_iload_n hx hb dX7_init_40 rfl (lv_at hl 1 rfl) ?_
        refine lv_bipush (v := (32 : Int32)) hx hb dX7_init_41 (by decide) ?_
        refine lv_iload_n hx hb dX7_init_43 rfl (lv_at hl 1 rfl) ?_
        refine lv_iadd hx hb dX7_init_44 ?_
        obtain ⟨v45, e45, hf⟩ := zb hf
        refine zc_p (va_runS (As := [.int ((32 : Int32) + x1)]) (rest := [.int x1, .ref (b + v37)]) ⟨hx, hb, hml, hown, hts⟩ (k_X7_firstClassOf l ((32 : Int32) + x1) v45 e45) (va_cwS 1 hts gX7_init_X7_firstClassOf rfl rfl rfl (by decide +kernel) ⟨Nat.le_of_ble_eq_true rfl, Nat.le_of_ble_eq_true rfl⟩) (zp_p _) rfl rfl hl.1 rfl (lv_room (Nat.le_of_ble_eq_true rfl)) dX7_init_45 (y_le (mc := 3) hn rfl rfl)) ?_
        obtain ⟨M48, e48, hf⟩ := zb hf
        refine y_si hx hb hK hP hz hS hn e48 dX7_init_48 (fun H locs hP hz hS hn => ?_)
        obtain ⟨x1_49, q49, hf⟩ := zlt_s hf
        refine lv_iinc (v := x1_49) (lv' := [(1, .int x1_49), (0, .ref (b + h0))]) hx hb dX7_init_49 hl (k := 1) rfl (by rw [← q49]; rfl) (by decide) rfl (fun ls hl => ?_)
        refine lv_goto (tgt := 27) hx hb dX7_init_52 (by decide) ?_
        exact ih27 _ _ _ _ _ _ hf hP hz hS hn (lv_sub hl [1, 0] rfl)
  unfold fX7_init at hf
  refine lv_aload_n hx hb dX7_init_0 rfl (lv_at hl 0 rfl) ?_
  refine W.objInit hx hb hown (hts (.methodLink RX7 3 objectInit) (List.mem_of_getElem? (i := 1) rfl)) (hts (.instanceMethod objectInit) (List.mem_of_getElem? (i := 2) rfl)) (hts _ (List.mem_of_getElem? (i := 3) rfl)) rfl (by rw [hml]; exact hl.1) rfl dX7_init_1 (Nat.le_of_ble_eq_true rfl) (Nat.le_of_ble_eq_true rfl) ?_
  refine W.eq (g2 := F0 m 4 ls []) rfl ?_
  refine lv_aload_n hx hb dX7_init_4 rfl (lv_at hl 0 rfl) ?_
  obtain ⟨M5, e5, hf⟩ := zb hf
  refine y_no (mc := 3) (ci := 4) (C := RX4) (T := TX4) (N := 2) hx hb hts hi_X7_init_4 tyX4 tyX4_ok hown (hts (.classLink RX7 9 RX4) (List.mem_of_getElem? (i := 4) rfl)) (hts (.instantiable RX4 2) (List.mem_of_getElem? (i := 5) rfl)) (hts (.initialized RX4) (List.mem_of_getElem? (i := 6) rfl)) hK hP hz hS hn e5 rfl (by decide) (fun j hj => by rcases (show j = 0 ∨ j = 1 by omega) with rfl | rfl <;> rfl) rfl rfl (by decide) dX7_init_5 (fun H hP hz hS hn => ?_)
  refine lv_dup hx hb dX7_init_8 rfl ?_
  refine lv_bipush (v := (100 : Int32)) hx hb dX7_init_9 (by decide) ?_
  obtain ⟨M11, e11, hf⟩ := zb hf
  obtain ⟨u11, r11, hf⟩ := zb hf
  refine y_call (mc := 3) (k := 1) hS hn r11 rfl rfl (fun hrm => va_runI (As := [.int (100 : Int32)]) (rest := [.ref (b + M0.1), .ref (b + p0)]) ⟨hx, hb, hml, hown, hts⟩ (k_X4_init l D cy b M5 M0.1 (100 : Int32) M11 e11) (cwI 1 hts gX7_init_X4_init rfl rfl rfl (hts (.initialized RX4) (List.mem_of_getElem? (i := 6) rfl)) (hts (.methodLink RX7 11 yX4_init) (List.mem_of_getElem? (i := 10) rfl)) (hts (.instanceMethod yX4_init) (List.mem_of_getElem? (i := 11) rfl)) rfl (by decide +kernel) ⟨Nat.le_of_ble_eq_true rfl, Nat.le_of_ble_eq_true rfl⟩) (zp_N _ hK hP hz) rfl rfl hl.1 rfl (lv_room (Nat.le_of_ble_eq_true rfl)) dX7_init_11 hrm) (fun H locs hP hz hS hn => ?_)
  obtain ⟨M14, e14, hf⟩ := zb hf
  refine y_put (ci := 7) (k := 0) (C := RX7) (T := TX7) (N := 2) hx hb hts hi_X7_init_7 tyX7 tyX7_ok nmX7 hown hK hP hz hS hn e14 rfl rfl (by decide) (by decide) (hts (.fieldLink RX7 14 "BoundaryAnalyzer$Text" "signs" "LBoundaryAnalyzer$Row;") (List.mem_of_getElem? (i := 7) rfl)) (Or.inr ⟨rfl, hin, rfl⟩) (tyX7_ok 0 (by decide)) rfl rfl dX7_init_14 (fun H locs hP hz hS hn => ?_)
  refine lv_aload_n hx hb dX7_init_17 rfl (lv_at hl 0 rfl) ?_
  refine lv_bipush (v := (95 : Int32)) hx hb dX7_init_18 (by decide) ?_
  obtain ⟨M20, e20, hf⟩ := zb hf
  refine y_na (mc := 3) (atype := .int) (ty := .int) (t0 := 1) hx hb rfl (hts (.arrayClass .int) (List.mem_of_getElem? (i := 8) rfl)) hK hP hz hS hn e20 rfl (Or.inr (Or.inl ⟨rfl, rfl⟩)) (zsL_max _) rfl rfl dX7_init_20 (fun H hP hz hS hn => ?_)
  obtain ⟨M22, e22, hf⟩ := zb hf
  refine y_put (ci := 7) (k := 1) (C := RX7) (T := TX7) (N := 2) hx hb hts hi_X7_init_7 tyX7 tyX7_ok nmX7 hown hK hP hz hS hn e22 rfl rfl (by decide) (by decide) (hts (.fieldLink RX7 20 "BoundaryAnalyzer$Text" "classes" "[I") (List.mem_of_getElem? (i := 9) rfl)) (Or.inr ⟨rfl, hin, rfl⟩) (tyX7_ok 1 (by decide)) rfl rfl dX7_init_22 (fun H locs hP hz hS hn => ?_)
  refine lv_iconst (v := (0 : Int32)) hx hb dX7_init_25 (by decide) ?_
  refine lv_istore_n (lv' := [(1, .int (0 : Int32)), (0, .ref (b + p0))]) hx hb dX7_init_26 rfl hl (by decide) rfl (fun ls hl => ?_)
  exact L27 _ _ _ _ _ _ _ hf hP hz hS hn (lv_sub hl [1, 0] rfl)
theorem hi_X7_classOfCharacter_7 : ∀ w ∈ wsX70, w ∈ wsX7_classOfCharacter := fun _ h => List.mem_cons_of_mem _ (List.mem_append_right _ h)
set_option maxHeartbeats 4000000 in
set_option maxRecDepth 100000 in
theorem k_X7_classOfCharacter (l : Launch) (D : va_G) (cy : Nat → ClassId) (b : Nat) (M0 : Mem) (p0 : Nat) (p1 : Int32) (rr : Int32 × Mem) (hf : fX7_classOfCharacter M0 p0 p1 = some rr) : Met l yX7_classOfCharacter wsX7_classOfCharacter ({ frames := 0, cells := 0, slots := 0, locals := 0 } : Room) (zPc D cy b M0 [.ref (b + p0), .int p1]) (zQi D cy b rr) 0 0 (zA b) := by
  refine Met.ofW (cc := cX7_classOfCharacter) (maxL := 3) (ret := (some .int)) (by decide) rfl ?_
  intro p e s m args below meth c s₁ B hml hv
  obtain ⟨rfl, hP, hK⟩ := hv
  have hx := B.exec
  have hb := B.bytes
  have hr := B.returns
  have hts := atoms_spec (ws := wsX7_classOfCharacter) B.pre
  have hown : s.vm.findClass RX7 = some m.cls := findClass_of_methodNamed B.named
  have hlocks := B.notSynchronized
  have hS : va_S (zA b) s.heap s.heap [] := va_S.rf
  have hl := lv_entry ([.ref (b + p0), .int p1]) (n := 3) (Nat.le_of_ble_eq_true rfl)
  rw [lg_entry_eq]
  generalize (lg_sl ([.ref (b + p0), .int p1]) ++ List.replicate (3 - (lg_sl ([.ref (b + p0), .int p1])).length) Slot.unset).toArray = ls at hl ⊢
  have hl : lv_has ls 3 [(0, .ref (b + p0)), (1, .int p1)] := hl
  unfold fX7_classOfCharacter at hf
  refine lv_iload_n hx hb dX7_classOfCharacter_0 rfl (lv_at hl 1 rfl) ?_
  refine lv_bipush (v := (32 : Int32)) hx hb dX7_classOfCharacter_1 (by decide) ?_
  refine lv_isub hx hb dX7_classOfCharacter_3 ?_
  obtain ⟨x2_4, q4, hf⟩ := zlt_s hf
  refine zt q4 ?_
  refine lv_istore_n (lv' := [(2, .int x2_4), (0, .ref (b + p0)), (1, .int p1)]) hx hb dX7_classOfCharacter_4 rfl hl (by decide) rfl (fun ls hl => ?_)
  refine lv_iload_n hx hb dX7_classOfCharacter_5 rfl (lv_at hl 0 rfl) ?_
  refine lv_if_lt (tgt := 27) hx hb dX7_classOfCharacter_6 (by decide) (fun c6 => ?_) (fun c6 => ?_)
  · have hf := (if_pos c6).symm.trans hf
    refine lv_iconst (v := (-1 : Int32)) hx hb dX7_classOfCharacter_27 (by decide) ?_
    exact zret_i hx hb hr hlocks hf hP hS dX7_classOfCharacter_28
  · have hf := (if_neg c6).symm.trans hf
    refine lv_iload_n hx hb dX7_classOfCharacter_9 rfl (lv_at hl 0 rfl) ?_
    refine lv_aload_n hx hb dX7_classOfCharacter_10 rfl (lv_at hl 1 rfl) ?_
    obtain ⟨v11, e11, hf⟩ := zb hf
    refine zr_gr (ci := 7) (k := 1) (C := RX7) (T := TX7) (N := 2) hx hb hts hi_X7_classOfCharacter_7 hown hK hP e11 rfl rfl (by decide) (by decide) (hts (.fieldLink RX7 20 "BoundaryAnalyzer$Text" "classes" "[I") (List.mem_of_getElem? (i := 1) rfl)) dX7_classOfCharacter_11 ?_
    obtain ⟨v14, e14, hf⟩ := zb hf
    refine zr_al (t0 := 1) hx hb hK hP e14 (by decide) rfl dX7_classOfCharacter_14 ?_
    refine lv_icmp_ge (tgt := 27) hx hb dX7_classOfCharacter_15 (by decide) (fun c15 => ?_) (fun c15 => ?_)
    · have hf := (if_pos c15).symm.trans hf
      refine lv_iconst (v := (-1 : Int32)) hx hb dX7_classOfCharacter_27 (by decide) ?_
      exact zret_i hx hb hr hlocks hf hP hS dX7_classOfCharacter_28
    · have hf := (if_neg c15).symm.trans hf
      refine lv_aload_n hx hb dX7_classOfCharacter_18 rfl (lv_at hl 1 rfl) ?_
      obtain ⟨v19, e19, hf⟩ := zb hf
      refine zr_gr (ci := 7) (k := 1) (C := RX7) (T := TX7) (N := 2) hx hb hts hi_X7_classOfCharacter_7 hown hK hP e19 rfl rfl (by decide) (by decide) (hts (.fieldLink RX7 20 "BoundaryAnalyzer$Text" "classes" "[I") (List.mem_of_getElem? (i := 1) rfl)) dX7_classOfCharacter_19 ?_
      refine lv_iload_n hx hb dX7_classOfCharacter_22 rfl (lv_at hl 0 rfl) ?_
      obtain ⟨v23, e23, hf⟩ := zb hf
      refine zr_ai hx hb hK hP e23 dX7_classOfCharacter_23 ?_
      refine lv_goto (tgt := 28) hx hb dX7_classOfCharacter_24 (by decide) ?_
      exact zret_i hx hb hr hlocks hf hP hS dX7_classOfCharacter_28
theorem hi_X7_changeClass_7 : ∀ w ∈ wsX70, w ∈ wsX7_changeClass := fun _ h => List.mem_cons_of_mem _ (List.mem_append_right _ h)
set_option maxHeartbeats 4000000 in
set_option maxRecDepth 100000 in
theorem k_X7_changeClass (l : Launch) (D : va_G) (cy : Nat → ClassId) (b : Nat) (M0 : Mem) (p0 : Nat) (p1 : Int32) (p2 : Int32) (rr : Mem) (hf : fX7_changeClass M0 p0 p1 p2 = some rr) : Met l yX7_changeClass wsX7_changeClass ({ frames := 0, cells := 0, slots := 0, locals := 0 } : Room) (zPc D cy b M0 [.ref (b + p0), .int p1, .int p2]) (zQv D cy b rr) 0 0 (zA b) := by
  refine Met.ofW (cc := cX7_changeClass) (maxL := 4) (ret := none) (by decide) rfl ?_
  intro p e s m args below meth c s₁ B hml hv
  obtain ⟨rfl, hP, hK⟩ := hv
  have hx := B.exec
  have hb := B.bytes
  have hr := B.returns
  have hts := atoms_spec (ws := wsX7_changeClass) B.pre
  have hown : s.vm.findClass RX7 = some m.cls := findClass_of_methodNamed B.named
  have hlocks := B.notSynchronized
  have hS : va_S (zA b) s.heap s.heap [] := va_S.rf
  have hl := lv_entry ([.ref (b + p0), .int p1, .int p2]) (n := 4) (Nat.le_of_ble_eq_true rfl)
  rw [lg_entry_eq]
  generalize (lg_sl ([.ref (b + p0), .int p1, .int p2]) ++ List.replicate (4 - (lg_sl ([.ref (b + p0), .int p1, .int p2])).length) Slot.unset).toArray = ls at hl ⊢
  have hl : lv_has ls 4 [(0, .ref (b + p0)), (1, .int p1), (2, .int p2)] := hl
  unfold fX7_changeClass at hf
  refine lv_iload_n hx hb dX7_changeClass_0 rfl (lv_at hl 1 rfl) ?_
  refine lv_bipush (v := (32 : Int32)) hx hb dX7_changeClass_1 (by decide) ?_
  refine lv_isub hx hb dX7_changeClass_3 ?_
  obtain ⟨x3_4, q4, hf⟩ := zlt_s hf
  refine zt q4 ?_
  refine lv_istore_n (lv' := [(3, .int x3_4), (0, .ref (b + p0)), (1, .int p1), (2, .int p2)]) hx hb dX7_changeClass_4 rfl hl (by decide) rfl (fun ls hl => ?_)
  refine lv_iload_n hx hb dX7_changeClass_5 rfl (lv_at hl 0 rfl) ?_
  refine lv_if_lt (tgt := 25) hx hb dX7_changeClass_6 (by decide) (fun c6 => ?_) (fun c6 => ?_)
  · have hf := (if_pos c6).symm.trans hf
    exact zret_v hx hb hr hlocks hf hP hS dX7_changeClass_25
  · have hf := (if_neg c6).symm.trans hf
    refine lv_iload_n hx hb dX7_changeClass_9 rfl (lv_at hl 0 rfl) ?_
    refine lv_aload_n hx hb dX7_changeClass_10 rfl (lv_at hl 1 rfl) ?_
    obtain ⟨v11, e11, hf⟩ := zb hf
    refine zr_gr (ci := 7) (k := 1) (C := RX7) (T := TX7) (N := 2) hx hb hts hi_X7_changeClass_7 hown hK hP e11 rfl rfl (by decide) (by decide) (hts (.fieldLink RX7 20 "BoundaryAnalyzer$Text" "classes" "[I") (List.mem_of_getElem? (i := 1) rfl)) dX7_changeClass_11 ?_
    obtain ⟨v14, e14, hf⟩ := zb hf
    refine zr_al (t0 := 1) hx hb hK hP e14 (by decide) rfl dX7_changeClass_14 ?_
    refine lv_icmp_ge (tgt := 25) hx hb dX7_changeClass_15 (by decide) (fun c15 => ?_) (fun c15 => ?_)
    · have hf := (if_pos c15).symm.trans hf
      exact zret_v hx hb hr hlocks hf hP hS dX7_changeClass_25
    · have hf := (if_neg c15).symm.trans hf
      refine lv_aload_n hx hb dX7_changeClass_18 rfl (lv_at hl 1 rfl) ?_
      obtain ⟨v19, e19, hf⟩ := zb hf
      refine zr_gr (ci := 7) (k := 1) (C := RX7) (T := TX7) (N := 2) hx hb hts hi_X7_changeClass_7 hown hK hP e19 rfl rfl (by decide) (by decide) (hts (.fieldLink RX7 20 "BoundaryAnalyzer$Text" "classes" "[I") (List.mem_of_getElem? (i := 1) rfl)) dX7_changeClass_19 ?_
      refine lv_iload_n hx hb dX7_changeClass_22 rfl (lv_at hl 0 rfl) ?_
      refine lv_iload_n hx hb dX7_changeClass_23 rfl (lv_at hl 3 rfl) ?_
      obtain ⟨M24, e24, hf⟩ := zb hf
      refine zr_si hx hb hK hP hS e24 dX7_changeClass_24 (fun H locs hP _ hS => ?_)
      exact zret_v hx hb hr hlocks hf hP hS dX7_changeClass_25
theorem hi_X7_classAt_4 : ∀ w ∈ wsX40, w ∈ wsX7_classAt := fun _ h => List.mem_cons_of_mem _ (List.mem_append_right _ h)
theorem hi_X7_classAt_7 : ∀ w ∈ wsX70, w ∈ wsX7_classAt := fun _ h => List.mem_cons_of_mem _ (List.mem_append_left _ (List.mem_append_right _ h))
set_option maxHeartbeats 4000000 in
set_option maxRecDepth 100000 in
theorem k_X7_classAt (l : Launch) (D : va_G) (cy : Nat → ClassId) (b : Nat) (M0 : Mem) (p0 : Nat) (p1 : Int32) (rr : Int32 × Mem) (hf : fX7_classAt M0 p0 p1 = some rr) : Met l yX7_classAt wsX7_classAt ({ frames := 1, cells := 0, slots := 0, locals := 22 } : Room) (zPc D cy b M0 [.ref (b + p0), .int p1]) (zQi D cy b rr) 0 0 (zA b) := by
  refine Met.ofW (cc := cX7_classAt) (maxL := 2) (ret := (some .int)) (by decide) rfl ?_
  intro p e s m args below meth c s₁ B hml hv
  obtain ⟨rfl, hP, hK⟩ := hv
  have hx := B.exec
  have hb := B.bytes
  have hr := B.returns
  have hts := atoms_spec (ws := wsX7_classAt) B.pre
  have hown : s.vm.findClass RX7 = some m.cls := findClass_of_methodNamed B.named
  have hlocks := B.notSynchronized
  have hS : va_S (zA b) s.heap s.heap [] := va_S.rf
  have hl := lv_entry ([.ref (b + p0), .int p1]) (n := 2) (Nat.le_of_ble_eq_true rfl)
  rw [lg_entry_eq]
  generalize (lg_sl ([.ref (b + p0), .int p1]) ++ List.replicate (2 - (lg_sl ([.ref (b + p0), .int p1])).length) Slot.unset).toArray = ls at hl ⊢
  have hl : lv_has ls 2 [(0, .ref (b + p0)), (1, .int p1)] := hl
  unfold fX7_classAt at hf
  refine lv_aload_n hx hb dX7_classAt_0 rfl (lv_at hl 0 rfl) ?_
  refine lv_aload_n hx hb dX7_classAt_1 rfl (lv_at hl 0 rfl) ?_
  obtain ⟨v2, e2, hf⟩ := zb hf
  refine zr_gr (ci := 7) (k := 0) (C := RX7) (T := TX7) (N := 2) hx hb hts hi_X7_classAt_7 hown hK hP e2 rfl rfl (by decide) (by decide) (hts (.fieldLink RX7 14 "BoundaryAnalyzer$Text" "signs" "LBoundaryAnalyzer$Row;") (List.mem_of_getElem? (i := 1) rfl)) dX7_classAt_2 ?_
  refine lv_iload_n hx hb dX7_classAt_5 rfl (lv_at hl 1 rfl) ?_
  obtain ⟨u6, t6, hf⟩ := zb hf
  obtain ⟨r6, e6, hf⟩ := zb hf
  refine zc_i hS (va_runV (As := [.int p1]) (rest := [.ref (b + p0)]) ⟨hx, hb, hml, hown, hts⟩ (k_X4_at l D cy b M0 v2 p1 r6 e6) (cwV 1 hts gX7_classAt_X4_at rfl rfl rfl (by decide +kernel) ⟨Nat.le_of_ble_eq_true rfl, Nat.le_of_ble_eq_true rfl⟩) (zp_V _ hK hP t6 (T := TX4) (N := 2) rfl (by decide)) rfl rfl hl.1 rfl (lv_room (Nat.le_of_ble_eq_true rfl)) dX7_classAt_6 ⟨Nat.zero_le _, Nat.zero_le _⟩) (fun H locs hP hS => ?_)
  obtain ⟨u9, t9, hf⟩ := zb hf
  obtain ⟨r9, e9, hf⟩ := zb hf
  refine zc_i hS (va_runV (As := [.int r6.1]) (rest := []) ⟨hx, hb, hml, hown, hts⟩ (k_X7_classOfCharacter l D cy b r6.2 p0 r6.1 r9 e9) (cwV 1 hts gX7_classAt_X7_classOfCharacter rfl rfl rfl (by decide +kernel) ⟨Nat.le_of_ble_eq_true rfl, Nat.le_of_ble_eq_true rfl⟩) (zp_V _ hK hP t9 (T := TX7) (N := 2) rfl (by decide)) rfl rfl hl.1 rfl (lv_room (Nat.le_of_ble_eq_true rfl)) dX7_classAt_9 ⟨Nat.zero_le _, Nat.zero_le _⟩) (fun H locs hP hS => ?_)
  exact zret_i hx hb hr hlocks hf hP hS dX7_classAt_12
