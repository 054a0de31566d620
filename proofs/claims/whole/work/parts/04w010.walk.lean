theorem hi_X2_init_2 : ∀ w ∈ wsX20, w ∈ wsX2_init := fun _ h => List.mem_cons_of_mem _ (List.mem_append_left _ (List.mem_append_left _ (List.mem_append_left _ (List.mem_append_right _ h))))
theorem hi_X2_init_5 : ∀ w ∈ wsX50, w ∈ wsX2_init := fun _ h => List.mem_cons_of_mem _ (List.mem_append_left _ (List.mem_append_left _ (List.mem_append_right _ h)))
set_option maxHeartbeats 4000000 in
set_option maxRecDepth 100000 in
theorem k_X2_init (l : Launch) (D : va_G) (cy : Nat → ClassId) (b : Nat) (M0 : Mem) (p0 : Nat) (rr : Mem) (hf : fX2_init M0 p0 = some rr) : Met l yX2_init wsX2_init ({ frames := 3, cells := 47, slots := 141000, locals := 81 } : Room) (zPn D cy b M0 [.ref (b + p0)]) (zQn D cy b rr) 47 141000 (zA b) := by
  refine Met.ofW (cc := cX2_init) (maxL := 2) (ret := none) (by decide) rfl ?_
  intro p e s m args below meth c s₁ B hml hv
  obtain ⟨rfl, hP, hK, hz⟩ := hv
  have hx := B.exec
  have hb := B.bytes
  have hr := B.returns
  have hts := atoms_spec (ws := wsX2_init) B.pre
  have hown : s.vm.findClass RX2 = some m.cls := findClass_of_methodNamed B.named
  have hlocks := B.notSynchronized
  have hin : meth.name = "<init>" := (name_of_methodNamed B.named B.method).1
  have hS : va_S (zA b) s.heap s.heap [] := va_S.rf
  have hl := lv_entry ([.ref (b + p0)]) (n := 2) (Nat.le_of_ble_eq_true rfl)
  rw [lg_entry_eq]
  generalize (lg_sl ([.ref (b + p0)]) ++ List.replicate (2 - (lg_sl ([.ref (b + p0)])).length) Slot.unset).toArray = ls at hl ⊢
  have hl : lv_has ls 2 [(0, .ref (b + p0))] := hl
  have hn : yN M0.1 47 M0 := ⟨Nat.le_refl _, Nat.le_add_right _ _⟩
  refine y_begin (M := M0) ?_
  have L22 : ∀ (n22 : Nat) (M : Mem) (H : Heap) (locs : List Loc) (ls : Array Slot) (h0 : Nat) (x1 : Int32), fX2_init_22L M0  n22 M h0 x1 = some rr → zH D cy b M H → H.size = b + M.1 → va_S (zA b) s.heap H locs → yN M0.1 47 M → lv_has ls 2 [(0, .ref (b + h0)), (1, .int x1)] → yW p l e (headSpec wsX2_init ({ frames := 3, cells := 47, slots := 141000, locals := 81 } : Room)).room s m ([.ref (b + p0)] : List Value).toArray below meth c H locs M0.1 M (MQ below (zQn D cy b rr) ([.ref (b + p0)] : List Value).toArray s 47 141000 (zA b)) (F0 m 22 ls []) := by
    intro n22
    induction n22 with
    | zero =>
      intro M H locs ls h0 x1 hf
      have hf : (none : Option Mem) = some rr := hf
      cases hf
    | succ n22 ih22 =>
      intro M H locs ls h0 x1 hf hP hz hS hn hl
      have hf : fX2_init_22 M0  (fX2_init_22L M0  n22) M h0 x1 = some rr := hf
      unfold fX2_init_22 at hf
      refine lv_iload_n hx hb dX2_init_22 rfl (lv_at hl 1 rfl) ?_
      refine lv_iconst (v := (5 : Int32)) hx hb dX2_init_23 (by decide) ?_
      refine lv_icmp_ge (tgt := 46) hx hb dX2_init_24 (by decide) (fun c24 => ?_) (fun c24 => ?_)
      · have hf := (if_pos c24).symm.trans hf
        exact y_ret (mc := 47) hx hb hr hlocks hf hP hz hS hn dX2_init_46
      · have hf := (if_neg c24).symm.trans hf
        refine lv_aload_n hx hb dX2_init_27 rfl (lv_at hl 0 rfl) ?_
        obtain ⟨v28, e28, hf⟩ := zb hf
        refine zr_gr (ci := 2) (k := 0) (C := RX2) (T := TX2) (N := 5) hx hb hts hi_X2_init_2 hown hK hP e28 rfl rfl (by decide) (by decide) (hts (.fieldLink RX2 11 "BoundaryAnalyzer$Kind" "rules" "[LBoundaryAnalyzer$Rule;") (List.mem_of_getElem? (i := 5) rfl)) dX2_init_28 ?_
        refine lv_iload_n hx hb dX2_init_31 rfl (lv_at hl 1 rfl) ?_
        obtain ⟨M32, e32, hf⟩ := zb hf
        refine y_no (mc := 47) (ci := 5) (C := RX5) (T := TX5) (N := 9) hx hb hts hi_X2_init_5 tyX5 tyX5_ok hown (hts (.classLink RX2 9 RX5) (List.mem_of_getElem? (i := 4) rfl)) (hts (.instantiable RX5 9) (List.mem_of_getElem? (i := 8) rfl)) (hts (.initialized RX5) (List.mem_of_getElem? (i := 9) rfl)) hK hP hz hS hn e32 rfl (by decide) (fun j hj => by rcases (show j = 0 ∨ j = 1 ∨ j = 2 ∨ j = 3 ∨ j = 4 ∨ j = 5 ∨ j = 6 ∨ j = 7 ∨ j = 8 by omega) with rfl | rfl | rfl | rfl | rfl | rfl | rfl | rfl | rfl <;> rfl) rfl rfl (by decide) dX2_init_32 (fun H hP hz hS hn => ?_)
        refine lv_dup hx hb dX2_init_35 rfl ?_
        obtain ⟨M36, e36, hf⟩ := zb hf
        obtain ⟨u36, r36, hf⟩ := zb hf
        refine y_call (mc := 47) (k := 8) hS hn r36 rfl rfl (fun hrm => va_runIN (As := []) (rest := [.ref (b + M.1), .int x1, .ref (b + v28)]) ⟨hx, hb, hml, hown, hts⟩ (k_X5_init l D cy b M32 M.1  M36 e36) ⟨va_cnB 0 hts gX2_init_X5_init_n21 rfl rfl rfl (hK.2.1 _ (List.mem_of_getElem? (i := 0) rfl)) (hts (.initialized RX5) (List.mem_of_getElem? (i := 9) rfl)) (by decide +kernel) ⟨Nat.le_of_ble_eq_true rfl, Nat.le_of_ble_eq_true rfl⟩, rfl, (hts (.instanceMethod yX5_init) (List.mem_of_getElem? (i := 10) rfl))⟩ (zp_N _ hK hP hz) rfl rfl hl.1 rfl (lv_room (Nat.le_of_ble_eq_true rfl)) dX2_init_36 hrm) (fun H locs hP hz hS hn => ?_)
        obtain ⟨M39, e39, hf⟩ := zb hf
        refine y_sa (t0 := 7) (r := (RX5, TX5, 9)) hx hb hK hP hz hS hn e39 (by decide) (by decide) rfl rfl dX2_init_39 (fun H locs hP hz hS hn => ?_)
        obtain ⟨x1_40, q40, hf⟩ := zlt_s hf
        refine lv_iinc (v := x1_40) (lv' := [(1, .int x1_40), (0, .ref (b + h0))]) hx hb dX2_init_40 hl (k := 1) rfl (by rw [← q40]; rfl) (by decide) rfl (fun ls hl => ?_)
        refine lv_goto (tgt := 22) hx hb dX2_init_43 (by decide) ?_
        exact ih22 _ _ _ _ _ _ hf hP hz hS hn (lv_sub hl [1, 0] rfl)
  unfold fX2_init at hf
  refine lv_aload_n hx hb dX2_init_0 rfl (lv_at hl 0 rfl) ?_
  refine W.objInit hx hb hown (hts (.methodLink RX2 3 objectInit) (List.mem_of_getElem? (i := 1) rfl)) (hts (.instanceMethod objectInit) (List.mem_of_getElem? (i := 2) rfl)) (hts _ (List.mem_of_getElem? (i := 3) rfl)) rfl (by rw [hml]; exact hl.1) rfl dX2_init_1 (Nat.le_of_ble_eq_true rfl) (Nat.le_of_ble_eq_true rfl) ?_
  refine W.eq (g2 := F0 m 4 ls []) rfl ?_
  refine lv_aload_n hx hb dX2_init_4 rfl (lv_at hl 0 rfl) ?_
  refine lv_iconst (v := (5 : Int32)) hx hb dX2_init_5 (by decide) ?_
  obtain ⟨M6, e6, hf⟩ := zb hf
  refine y_nq (mc := 47) (t0 := 7) hx hb hown (hts (.classLink RX2 9 RX5) (List.mem_of_getElem? (i := 4) rfl)) (List.mem_of_getElem? (i := 4) rfl) hK hP hz hS hn e6 rfl (by decide) (zsL_max _) rfl rfl dX2_init_6 (fun H hP hz hS hn => ?_)
  obtain ⟨M9, e9, hf⟩ := zb hf
  refine y_put (ci := 2) (k := 0) (C := RX2) (T := TX2) (N := 5) hx hb hts hi_X2_init_2 tyX2 tyX2_ok nmX2 hown hK hP hz hS hn e9 rfl rfl (by decide) (by decide) (hts (.fieldLink RX2 11 "BoundaryAnalyzer$Kind" "rules" "[LBoundaryAnalyzer$Rule;") (List.mem_of_getElem? (i := 5) rfl)) (Or.inr ⟨rfl, hin, rfl⟩) (tyX2_ok 0 (by decide)) rfl rfl dX2_init_9 (fun H locs hP hz hS hn => ?_)
  refine lv_aload_n hx hb dX2_init_12 rfl (lv_at hl 0 rfl) ?_
  refine lv_bipush (v := (100 : Int32)) hx hb dX2_init_13 (by decide) ?_
  obtain ⟨M15, e15, hf⟩ := zb hf
  refine y_na (mc := 47) (atype := .int) (ty := .int) (t0 := 1) hx hb rfl (hts (.arrayClass .int) (List.mem_of_getElem? (i := 6) rfl)) hK hP hz hS hn e15 rfl (Or.inr (Or.inl ⟨rfl, rfl⟩)) (zsL_max _) rfl rfl dX2_init_15 (fun H hP hz hS hn => ?_)
  obtain ⟨M17, e17, hf⟩ := zb hf
  refine y_put (ci := 2) (k := 1) (C := RX2) (T := TX2) (N := 5) hx hb hts hi_X2_init_2 tyX2 tyX2_ok nmX2 hown hK hP hz hS hn e17 rfl rfl (by decide) (by decide) (hts (.fieldLink RX2 17 "BoundaryAnalyzer$Kind" "looks" "[I") (List.mem_of_getElem? (i := 7) rfl)) (Or.inr ⟨rfl, hin, rfl⟩) (tyX2_ok 1 (by decide)) rfl rfl dX2_init_17 (fun H locs hP hz hS hn => ?_)
  refine lv_iconst (v := (0 : Int32)) hx hb dX2_init_20 (by decide) ?_
  refine lv_istore_n (lv' := [(1, .int (0 : Int32)), (0, .ref (b + p0))]) hx hb dX2_init_21 rfl hl (by decide) rfl (fun ls hl => ?_)
  exact L22 _ _ _ _ _ _ _ hf hP hz hS hn (lv_sub hl [1, 0] rfl)
theorem hi_X2_isRaw_2 : ∀ w ∈ wsX20, w ∈ wsX2_isRaw := fun _ h => List.mem_cons_of_mem _ (List.mem_append_right _ h)
set_option maxHeartbeats 4000000 in
set_option maxRecDepth 100000 in
theorem k_X2_isRaw (l : Launch) (D : va_G) (cy : Nat → ClassId) (b : Nat) (M0 : Mem) (p0 : Nat) (p1 : Int32) (p2 : Int32) (rr : Int32 × Mem) (hf : fX2_isRaw M0 p0 p1 p2 = some rr) : Met l yX2_isRaw wsX2_isRaw ({ frames := 0, cells := 0, slots := 0, locals := 0 } : Room) (zPc D cy b M0 [.ref (b + p0), .int p1, .int p2]) (zQi D cy b rr) 0 0 (zA b) := by
  refine Met.ofW (cc := cX2_isRaw) (maxL := 3) (ret := (some .boolean)) (by decide) rfl ?_
  intro p e s m args below meth c s₁ B hml hv
  obtain ⟨rfl, hP, hK⟩ := hv
  have hx := B.exec
  have hb := B.bytes
  have hr := B.returns
  have hts := atoms_spec (ws := wsX2_isRaw) B.pre
  have hown : s.vm.findClass RX2 = some m.cls := findClass_of_methodNamed B.named
  have hlocks := B.notSynchronized
  have hS : va_S (zA b) s.heap s.heap [] := va_S.rf
  have hl := lv_entry ([.ref (b + p0), .int p1, .int p2]) (n := 3) (Nat.le_of_ble_eq_true rfl)
  rw [lg_entry_eq]
  generalize (lg_sl ([.ref (b + p0), .int p1, .int p2]) ++ List.replicate (3 - (lg_sl ([.ref (b + p0), .int p1, .int p2])).length) Slot.unset).toArray = ls at hl ⊢
  have hl : lv_has ls 3 [(0, .ref (b + p0)), (1, .int p1), (2, .int p2)] := hl
  have J23 : ∀ (M : Mem) (H : Heap) (locs : List Loc) (ls : Array Slot) , fX2_isRaw_23  M  = some rr → zH D cy b M H → va_S (zA b) s.heap H locs → lv_has ls 3 [] → W p l e (headSpec wsX2_isRaw ({ frames := 0, cells := 0, slots := 0, locals := 0 } : Room)).room s m ([.ref (b + p0), .int p1, .int p2] : List Value).toArray below meth c H locs 0 0 (MQ below (zQi D cy b rr) ([.ref (b + p0), .int p1, .int p2] : List Value).toArray s 0 0 (zA b)) (F0 m 23 ls []) := by
    intro M H locs ls  hf hP hS hl
    unfold fX2_isRaw_23 at hf
    refine lv_iconst (v := (1 : Int32)) hx hb dX2_isRaw_23 (by decide) ?_
    refine lv_goto (tgt := 28) hx hb dX2_isRaw_24 (by decide) ?_
    exact zret_z hx hb hr (Or.inl rfl) hlocks hf hP hS dX2_isRaw_28
  unfold fX2_isRaw at hf
  refine lv_iload_n hx hb dX2_isRaw_0 rfl (lv_at hl 1 rfl) ?_
  refine lv_iload_n hx hb dX2_isRaw_1 rfl (lv_at hl 2 rfl) ?_
  refine lv_icmp_eq (tgt := 23) hx hb dX2_isRaw_2 (by decide) (fun c2 => ?_) (fun c2 => ?_)
  · have hf := (if_pos c2).symm.trans hf
    exact J23 _ _ _ _ hf hP hS (lv_sub hl [] rfl)
  · have hf := (if_neg c2).symm.trans hf
    refine lv_iload_n hx hb dX2_isRaw_5 rfl (lv_at hl 1 rfl) ?_
    refine lv_if_lt (tgt := 27) hx hb dX2_isRaw_6 (by decide) (fun c6 => ?_) (fun c6 => ?_)
    · have hf := (if_pos c6).symm.trans hf
      refine lv_iconst (v := (0 : Int32)) hx hb dX2_isRaw_27 (by decide) ?_
      exact zret_z hx hb hr (Or.inl rfl) hlocks hf hP hS dX2_isRaw_28
    · have hf := (if_neg c6).symm.trans hf
      refine lv_iload_n hx hb dX2_isRaw_9 rfl (lv_at hl 1 rfl) ?_
      refine lv_iload_n hx hb dX2_isRaw_10 rfl (lv_at hl 2 rfl) ?_
      refine lv_icmp_ge (tgt := 27) hx hb dX2_isRaw_11 (by decide) (fun c11 => ?_) (fun c11 => ?_)
      · have hf := (if_pos c11).symm.trans hf
        refine lv_iconst (v := (0 : Int32)) hx hb dX2_isRaw_27 (by decide) ?_
        exact zret_z hx hb hr (Or.inl rfl) hlocks hf hP hS dX2_isRaw_28
      · have hf := (if_neg c11).symm.trans hf
        refine lv_aload_n hx hb dX2_isRaw_14 rfl (lv_at hl 0 rfl) ?_
        obtain ⟨v15, e15, hf⟩ := zb hf
        refine zr_gr (ci := 2) (k := 1) (C := RX2) (T := TX2) (N := 5) hx hb hts hi_X2_isRaw_2 hown hK hP e15 rfl rfl (by decide) (by decide) (hts (.fieldLink RX2 17 "BoundaryAnalyzer$Kind" "looks" "[I") (List.mem_of_getElem? (i := 1) rfl)) dX2_isRaw_15 ?_
        refine lv_iload_n hx hb dX2_isRaw_18 rfl (lv_at hl 1 rfl) ?_
        obtain ⟨v19, e19, hf⟩ := zb hf
        refine zr_ai hx hb hK hP e19 dX2_isRaw_19 ?_
        refine lv_if_le (tgt := 27) hx hb dX2_isRaw_20 (by decide) (fun c20 => ?_) (fun c20 => ?_)
        · have hf := (if_pos c20).symm.trans hf
          refine lv_iconst (v := (0 : Int32)) hx hb dX2_isRaw_27 (by decide) ?_
          exact zret_z hx hb hr (Or.inl rfl) hlocks hf hP hS dX2_isRaw_28
        · have hf := (if_neg c20).symm.trans hf
          exact J23 _ _ _ _ hf hP hS (lv_sub hl [] rfl)
