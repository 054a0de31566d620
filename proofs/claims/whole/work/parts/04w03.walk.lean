theorem hi_X2_isRaw_2 : ∀ w ∈ wsX20, w ∈ wsX2_isRaw := fun _ h => List.mem_cons_of_mem _ (List.mem_append_right _ h)
set_option maxHeartbeats 4000000 in
set_option maxRecDepth 100000 in
theorem k_X2_isRaw (l : Launch) (D : va_G) (cy : Nat → ClassId) (b : Nat) (M0 : Mem) (h0 : Nat) (x1 : Int32) (x2 : Int32) (rr : Int32 × Mem) (hf : fX2_isRaw M0 h0 x1 x2 = some rr) : Met l yX2_isRaw wsX2_isRaw ({ frames := 0, cells := 0, slots := 0, locals := 0 } : Room) (zPc D cy b M0 [.ref (b + h0), .int x1, .int x2]) (zQi D cy b rr) 0 0 (zA b) := by
  refine Met.ofW (cc := cX2_isRaw) (maxL := 3) (ret := (some .boolean)) (by decide) rfl ?_
  intro p e s m args below meth c s₁ B hml hv
  obtain ⟨rfl, hP, hK⟩ := hv
  have hx := B.exec
  have hb := B.bytes
  have hr := B.returns
  have hts := atoms_spec (ws := wsX2_isRaw) B.pre
  have hown : s.vm.findClass RX2 = some m.cls := findClass_of_methodNamed B.named
  have hlocks := B.notSynchronized
  have hS : va_S (zA b) s.heap s.heap [] := va_S.rf
  have hl := lv_entry ([.ref (b + h0), .int x1, .int x2]) (n := 3) (Nat.le_of_ble_eq_true rfl)
  rw [lg_entry_eq]
  generalize (lg_sl ([.ref (b + h0), .int x1, .int x2]) ++ List.replicate (3 - (lg_sl ([.ref (b + h0), .int x1, .int x2])).length) Slot.unset).toArray = ls at hl ⊢
  have hl : lv_has ls 3 [(0, .ref (b + h0)), (1, .int x1), (2, .int x2)] := hl
  have J23 : ∀ (M : Mem) (H : Heap) (locs : List Loc) (ls : Array Slot) , fX2_isRaw_23  M  = some rr → zH D cy b M H → va_S (zA b) s.heap H locs → lv_has ls 3 [] → W p l e (headSpec wsX2_isRaw ({ frames := 0, cells := 0, slots := 0, locals := 0 } : Room)).room s m ([.ref (b + h0), .int x1, .int x2] : List Value).toArray below meth c H locs 0 0 (MQ below (zQi D cy b rr) ([.ref (b + h0), .int x1, .int x2] : List Value).toArray s 0 0 (zA b)) (F0 m 23 ls []) := by
    intro M H locs ls  hf hP hS hl
    unfold fX2_isRaw_23 at hf
    refine lv_iconst (v := (1 : Int32)) hx hb dX2_isRaw_23 (by decide) ?_
    refine lv_goto (tgt := 28) hx hb dX2_isRaw_24 (by decide) ?_
    exact zret_z hx hb hr (Or.inl rfl) hlocks hf hP hS dX2_isRaw_28
  unfold fX2_isRaw at hf
  refine lv_iload_n hx hb dX2_isRaw_0 rfl (lv_at hl 1 rfl) ?_
  refine lv_iload_n hx hb dX2_isRaw_1 rfl (lv_at hl 2 rfl) ?_
  refine lv_icmp_eq (tgt := 23) hx hb dX2_isRaw_2 (by decide) (fun c2 => ?_) (fun c2 => ?_)
  · have hf := (if_pos c2).symm.trans hf
    exact J23 _ _ _ _ hf hP hS (lv_sub hl [] rfl)
  · have hf := (if_neg c2).symm.trans hf
    refine lv_iload_n hx hb dX2_isRaw_5 rfl (lv_at hl 1 rfl) ?_
    refine lv_if_lt (tgt := 27) hx hb dX2_isRaw_6 (by decide) (fun c6 => ?_) (fun c6 => ?_)
    · have hf := (if_pos c6).symm.trans hf
      refine lv_iconst (v := (0 : Int32)) hx hb dX2_isRaw_27 (by decide) ?_
      exact zret_z hx hb hr (Or.inl rfl) hlocks hf hP hS dX2_isRaw_28
    · have hf := (if_neg c6).symm.trans hf
      refine lv_iload_n hx hb dX2_isRaw_9 rfl (lv_at hl 1 rfl) ?_
      refine lv_iload_n hx hb dX2_isRaw_10 rfl (lv_at hl 2 rfl) ?_
      refine lv_icmp_ge (tgt := 27) hx hb dX2_isRaw_11 (by decide) (fun c11 => ?_) (fun c11 => ?_)
      · have hf := (if_pos c11).symm.trans hf
        refine lv_iconst (v := (0 : Int32)) hx hb dX2_isRaw_27 (by decide) ?_
        exact zret_z hx hb hr (Or.inl rfl) hlocks hf hP hS dX2_isRaw_28
      · have hf := (if_neg c11).symm.trans hf
        refine lv_aload_n hx hb dX2_isRaw_14 rfl (lv_at hl 0 rfl) ?_
        obtain ⟨v15, e15, hf⟩ := zb hf
        refine zr_gr (ci := 2) (k := 1) (C := RX2) (T := TX2) (N := 5) hx hb hts hi_X2_isRaw_2 hown hK hP e15 rfl rfl (by decide) (by decide) (hts (.fieldLink RX2 17 "BoundaryAnalyzer$Kind" "looks" "[I") (List.mem_of_getElem? (i := 1) rfl)) dX2_isRaw_15 ?_
        refine lv_iload_n hx hb dX2_isRaw_18 rfl (lv_at hl 1 rfl) ?_
        obtain ⟨v19, e19, hf⟩ := zb hf
        refine zr_ai hx hb hK hP e19 dX2_isRaw_19 ?_
        refine lv_if_le (tgt := 27) hx hb dX2_isRaw_20 (by decide) (fun c20 => ?_) (fun c20 => ?_)
        · have hf := (if_pos c20).symm.trans hf
          refine lv_iconst (v := (0 : Int32)) hx hb dX2_isRaw_27 (by decide) ?_
          exact zret_z hx hb hr (Or.inl rfl) hlocks hf hP hS dX2_isRaw_28
        · have hf := (if_neg c20).symm.trans hf
          exact J23 _ _ _ _ hf hP hS (lv_sub hl [] rfl)
theorem hi_X2_measure_2 : ∀ w ∈ wsX20, w ∈ wsX2_measure := fun _ h => List.mem_cons_of_mem _ (List.mem_append_left _ (List.mem_append_left _ (List.mem_append_left _ (List.mem_append_left _ (List.mem_append_right _ h)))))
theorem hi_X2_measure_5 : ∀ w ∈ wsX50, w ∈ wsX2_measure := fun _ h => List.mem_cons_of_mem _ (List.mem_append_left _ (List.mem_append_left _ (List.mem_append_left _ (List.mem_append_right _ h))))
set_option maxHeartbeats 4000000 in
set_option maxRecDepth 100000 in
theorem k_X2_measure (l : Launch) (D : va_G) (cy : Nat → ClassId) (b : Nat) (M0 : Mem) (h0 : Nat) (h1 : Nat) (x2 : Int32) (rr : Mem) (hf : fX2_measure M0 h0 h1 x2 = some rr) : Met l yX2_measure wsX2_measure ({ frames := 3, cells := 0, slots := 0, locals := 92 } : Room) (zPc D cy b M0 [.ref (b + h0), .ref (b + h1), .int x2]) (zQv D cy b rr) 0 0 (zA b) := by
  refine Met.ofW (cc := cX2_measure) (maxL := 5) (ret := none) (by decide) rfl ?_
  intro p e s m args below meth c s₁ B hml hv
  obtain ⟨rfl, hP, hK⟩ := hv
  have hx := B.exec
  have hb := B.bytes
  have hr := B.returns
  have hts := atoms_spec (ws := wsX2_measure) B.pre
  have hown : s.vm.findClass RX2 = some m.cls := findClass_of_methodNamed B.named
  have hlocks := B.notSynchronized
  have hS : va_S (zA b) s.heap s.heap [] := va_S.rf
  have hl := lv_entry ([.ref (b + h0), .ref (b + h1), .int x2]) (n := 5) (Nat.le_of_ble_eq_true rfl)
  rw [lg_entry_eq]
  generalize (lg_sl ([.ref (b + h0), .ref (b + h1), .int x2]) ++ List.replicate (5 - (lg_sl ([.ref (b + h0), .ref (b + h1), .int x2])).length) Slot.unset).toArray = ls at hl ⊢
  have hl : lv_has ls 5 [(0, .ref (b + h0)), (1, .ref (b + h1)), (2, .int x2)] := hl
  have L12 : ∀ (n12 : Nat) (M : Mem) (H : Heap) (locs : List Loc) (ls : Array Slot) (h0 : Nat) (h1 : Nat) (x2 : Int32) (x3 : Int32), fX2_measure_12L  n12 M h0 h1 x2 x3 = some rr → zH D cy b M H → va_S (zA b) s.heap H locs → lv_has ls 5 [(0, .ref (b + h0)), (1, .ref (b + h1)), (2, .int x2), (3, .int x3)] → W p l e (headSpec wsX2_measure ({ frames := 3, cells := 0, slots := 0, locals := 92 } : Room)).room s m ([.ref (b + h0), .ref (b + h1), .int x2] : List Value).toArray below meth c H locs 0 0 (MQ below (zQv D cy b rr) ([.ref (b + h0), .ref (b + h1), .int x2] : List Value).toArray s 0 0 (zA b)) (F0 m 12 ls []) := by
    intro n12
    induction n12 with
    | zero =>
      intro M H locs ls h0 h1 x2 x3 hf
      have hf : (none : Option Mem) = some rr := hf
      cases hf
    | succ n12 ih12 =>
      have J72 : ∀ (M : Mem) (H : Heap) (locs : List Loc) (ls : Array Slot) (h0 : Nat) (h1 : Nat) (x2 : Int32) (x3 : Int32), fX2_measure_72 (fX2_measure_12L  n12) M h0 h1 x2 x3 = some rr → zH D cy b M H → va_S (zA b) s.heap H locs → lv_has ls 5 [(0, .ref (b + h0)), (1, .ref (b + h1)), (2, .int x2), (3, .int x3)] → W p l e (headSpec wsX2_measure ({ frames := 3, cells := 0, slots := 0, locals := 92 } : Room)).room s m ([.ref (b + h0), .ref (b + h1), .int x2] : List Value).toArray below meth c H locs 0 0 (MQ below (zQv D cy b rr) ([.ref (b + h0), .ref (b + h1), .int x2] : List Value).toArray s 0 0 (zA b)) (F0 m 72 ls []) := by
        intro M H locs ls h0 h1 x2 x3 hf hP hS hl
        unfold fX2_measure_72 at hf
        obtain ⟨x3_72, q72, hf⟩ := zlt_s hf
        refine lv_iinc (v := x3_72) (lv' := [(3, .int x3_72), (0, .ref (b + h0)), (1, .ref (b + h1)), (2, .int x2)]) hx hb dX2_measure_72 hl (k := 3) rfl (by rw [← q72]; rfl) (by decide) rfl (fun ls hl => ?_)
        refine lv_goto (tgt := 12) hx hb dX2_measure_75 (by decide) ?_
        exact ih12 _ _ _ _ _ _ _ _ hf hP hS (lv_sub hl [1, 2, 3, 0] rfl)
      intro M H locs ls h0 h1 x2 x3 hf hP hS hl
      have hf : fX2_measure_12  (fX2_measure_12L  n12) M h0 h1 x2 x3 = some rr := hf
      unfold fX2_measure_12 at hf
      refine lv_iload_n hx hb dX2_measure_12 rfl (lv_at hl 3 rfl) ?_
      refine lv_iconst (v := (5 : Int32)) hx hb dX2_measure_13 (by decide) ?_
      refine lv_icmp_ge (tgt := 78) hx hb dX2_measure_14 (by decide) (fun c14 => ?_) (fun c14 => ?_)
      · have hf := (if_pos c14).symm.trans hf
        exact zret_v hx hb hr hlocks hf hP hS dX2_measure_78
      · have hf := (if_neg c14).symm.trans hf
        refine lv_aload_n hx hb dX2_measure_17 rfl (lv_at hl 0 rfl) ?_
        obtain ⟨v18, e18, hf⟩ := zb hf
        refine zr_gr (ci := 2) (k := 0) (C := RX2) (T := TX2) (N := 5) hx hb hts hi_X2_measure_2 hown hK hP e18 rfl rfl (by decide) (by decide) (hts (.fieldLink RX2 11 "BoundaryAnalyzer$Kind" "rules" "[LBoundaryAnalyzer$Rule;") (List.mem_of_getElem? (i := 3) rfl)) dX2_measure_18 ?_
        refine lv_iload_n hx hb dX2_measure_21 rfl (lv_at hl 3 rfl) ?_
        obtain ⟨v22, e22, hf⟩ := zb hf
        refine zr_aa (t0 := 7) hx hb hK hP e22 (by decide) rfl dX2_measure_22 ?_
        refine lv_astore (lv' := [(4, .ref (b + v22)), (0, .ref (b + h0)), (1, .ref (b + h1)), (2, .int x2), (3, .int x3)]) hx hb dX2_measure_23 hl (by decide) rfl (fun ls hl => ?_)
        refine lv_aload hx hb dX2_measure_25 (lv_at hl 0 rfl) ?_
        obtain ⟨u27, t27, hf⟩ := zb hf
        obtain ⟨r27, e27, hf⟩ := zb hf
        refine zc_i hS (va_runV (As := []) (rest := []) ⟨hx, hb, hml, hown, hts⟩ (k_X5_isSet l D cy b M v22  r27 e27) (cwV 0 hts gX2_measure_X5_isSet rfl rfl rfl (by decide +kernel) ⟨Nat.le_of_ble_eq_true rfl, Nat.le_of_ble_eq_true rfl⟩) (zp_V _ hK hP t27 (T := TX5) (N := 9) rfl (by decide)) rfl rfl hl.1 rfl (lv_room (Nat.le_of_ble_eq_true rfl)) dX2_measure_27 ⟨Nat.zero_le _, Nat.zero_le _⟩) (fun H locs hP hS => ?_)
        refine lv_if_eq (tgt := 72) hx hb dX2_measure_30 (by decide) (fun c30 => ?_) (fun c30 => ?_)
        · have hf := (if_pos c30).symm.trans hf
          exact J72 _ _ _ _ _ _ _ _ hf hP hS (lv_sub hl [1, 2, 3, 4] rfl)
        · have hf := (if_neg c30).symm.trans hf
          refine lv_aload hx hb dX2_measure_33 (lv_at hl 0 rfl) ?_
          refine lv_aload_n hx hb dX2_measure_35 rfl (lv_at hl 2 rfl) ?_
          refine lv_iload_n hx hb dX2_measure_36 rfl (lv_at hl 3 rfl) ?_
          obtain ⟨u37, t37, hf⟩ := zb hf
          obtain ⟨M37, e37, hf⟩ := zb hf
          refine zc_v hS (va_runV (As := [.ref (b + h1), .int x2]) (rest := []) ⟨hx, hb, hml, hown, hts⟩ (k_X5_walk l D cy b r27.2 v22 h1 x2 M37 e37) (cwV 2 hts gX2_measure_X5_walk rfl rfl rfl (by decide +kernel) ⟨Nat.le_of_ble_eq_true rfl, Nat.le_of_ble_eq_true rfl⟩) (zp_V _ hK hP t37 (T := TX5) (N := 9) rfl (by decide)) rfl rfl hl.1 rfl (lv_room (Nat.le_of_ble_eq_true rfl)) dX2_measure_37 ⟨Nat.zero_le _, Nat.zero_le _⟩) (fun H locs hP hS => ?_)
          refine lv_aload_n hx hb dX2_measure_40 rfl (lv_at hl 1 rfl) ?_
          refine lv_aload_n hx hb dX2_measure_41 rfl (lv_at hl 1 rfl) ?_
          obtain ⟨v42, e42, hf⟩ := zb hf
          refine zr_gi (ci := 2) (k := 3) (C := RX2) (T := TX2) (N := 5) hx hb hts hi_X2_measure_2 hown hK hP e42 rfl rfl (by decide) (by decide) (hts (.fieldLink RX2 22 "BoundaryAnalyzer$Kind" "length" "I") (List.mem_of_getElem? (i := 1) rfl)) dX2_measure_42 ?_
          refine lv_aload hx hb dX2_measure_45 (lv_at hl 0 rfl) ?_
          obtain ⟨v47, e47, hf⟩ := zb hf
          refine zr_gi (ci := 5) (k := 7) (C := RX5) (T := TX5) (N := 9) hx hb hts hi_X2_measure_5 hown hK hP e47 rfl rfl (by decide) (by decide) (hts (.fieldLink RX2 37 "BoundaryAnalyzer$Rule" "matched" "I") (List.mem_of_getElem? (i := 4) rfl)) dX2_measure_47 ?_
          refine va_mmax hx hb (by rw [hml]; exact hl.1.symm) hown (hts (.methodLink RX2 40 Lib.Math.max.name) (List.mem_of_getElem? (i := 5) rfl)) (hts (.static Lib.Math.max.name) (List.mem_of_getElem? (i := 6) rfl)) (hts (.initialized "java/lang/Math") (List.mem_of_getElem? (i := 7) rfl)) (hts _ (List.mem_of_getElem? (i := 8) rfl)) (Nat.le_of_ble_eq_true rfl) (Nat.le_of_ble_eq_true rfl) (Nat.zero_le _) (Nat.zero_le _) dX2_measure_50 ?_
          obtain ⟨M53, e53, hf⟩ := zb hf
          refine zr_pi (ci := 2) (k := 3) (C := RX2) (T := TX2) (N := 5) hx hb hts hi_X2_measure_2 tyX2 tyX2_ok nmX2 hown hK hP hS e53 rfl rfl (by decide) (by decide) (hts (.fieldLink RX2 22 "BoundaryAnalyzer$Kind" "length" "I") (List.mem_of_getElem? (i := 1) rfl)) rfl (tyX2_ok 3 (by decide)) dX2_measure_53 (fun H locs hP _ hS => ?_)
          refine lv_aload_n hx hb dX2_measure_56 rfl (lv_at hl 1 rfl) ?_
          refine lv_aload_n hx hb dX2_measure_57 rfl (lv_at hl 1 rfl) ?_
          obtain ⟨v58, e58, hf⟩ := zb hf
          refine zr_gi (ci := 2) (k := 4) (C := RX2) (T := TX2) (N := 5) hx hb hts hi_X2_measure_2 hown hK hP e58 rfl rfl (by decide) (by decide) (hts (.fieldLink RX2 26 "BoundaryAnalyzer$Kind" "looked" "I") (List.mem_of_getElem? (i := 2) rfl)) dX2_measure_58 ?_
          refine lv_aload hx hb dX2_measure_61 (lv_at hl 0 rfl) ?_
          obtain ⟨v63, e63, hf⟩ := zb hf
          refine zr_gi (ci := 5) (k := 8) (C := RX5) (T := TX5) (N := 9) hx hb hts hi_X2_measure_5 hown hK hP e63 rfl rfl (by decide) (by decide) (hts (.fieldLink RX2 46 "BoundaryAnalyzer$Rule" "looked" "I") (List.mem_of_getElem? (i := 9) rfl)) dX2_measure_63 ?_
          refine va_mmax hx hb (by rw [hml]; exact hl.1.symm) hown (hts (.methodLink RX2 40 Lib.Math.max.name) (List.mem_of_getElem? (i := 5) rfl)) (hts (.static Lib.Math.max.name) (List.mem_of_getElem? (i := 6) rfl)) (hts (.initialized "java/lang/Math") (List.mem_of_getElem? (i := 7) rfl)) (hts _ (List.mem_of_getElem? (i := 8) rfl)) (Nat.le_of_ble_eq_true rfl) (Nat.le_of_ble_eq_true rfl) (Nat.zero_le _) (Nat.zero_le _) dX2_measure_66 ?_
          obtain ⟨M69, e69, hf⟩ := zb hf
          refine zr_pi (ci := 2) (k := 4) (C := RX2) (T := TX2) (N := 5) hx hb hts hi_X2_measure_2 tyX2 tyX2_ok nmX2 hown hK hP hS e69 rfl rfl (by decide) (by decide) (hts (.fieldLink RX2 26 "BoundaryAnalyzer$Kind" "looked" "I") (List.mem_of_getElem? (i := 2) rfl)) rfl (tyX2_ok 4 (by decide)) dX2_measure_69 (fun H locs hP _ hS => ?_)
          exact J72 _ _ _ _ _ _ _ _ hf hP hS (lv_sub hl [1, 2, 3, 4] rfl)
  unfold fX2_measure at hf
  refine lv_aload_n hx hb dX2_measure_0 rfl (lv_at hl 0 rfl) ?_
  refine lv_iconst (v := (1 : Int32)) hx hb dX2_measure_1 (by decide) ?_
  obtain ⟨M2, e2, hf⟩ := zb hf
  refine zr_pi (ci := 2) (k := 3) (C := RX2) (T := TX2) (N := 5) hx hb hts hi_X2_measure_2 tyX2 tyX2_ok nmX2 hown hK hP hS e2 rfl rfl (by decide) (by decide) (hts (.fieldLink RX2 22 "BoundaryAnalyzer$Kind" "length" "I") (List.mem_of_getElem? (i := 1) rfl)) rfl (tyX2_ok 3 (by decide)) dX2_measure_2 (fun H locs hP _ hS => ?_)
  refine lv_aload_n hx hb dX2_measure_5 rfl (lv_at hl 0 rfl) ?_
  refine lv_iconst (v := (1 : Int32)) hx hb dX2_measure_6 (by decide) ?_
  obtain ⟨M7, e7, hf⟩ := zb hf
  refine zr_pi (ci := 2) (k := 4) (C := RX2) (T := TX2) (N := 5) hx hb hts hi_X2_measure_2 tyX2 tyX2_ok nmX2 hown hK hP hS e7 rfl rfl (by decide) (by decide) (hts (.fieldLink RX2 26 "BoundaryAnalyzer$Kind" "looked" "I") (List.mem_of_getElem? (i := 2) rfl)) rfl (tyX2_ok 4 (by decide)) dX2_measure_7 (fun H locs hP _ hS => ?_)
  refine lv_iconst (v := (0 : Int32)) hx hb dX2_measure_10 (by decide) ?_
  refine lv_istore_n (lv' := [(3, .int (0 : Int32)), (0, .ref (b + h0)), (1, .ref (b + h1)), (2, .int x2)]) hx hb dX2_measure_11 rfl hl (by decide) rfl (fun ls hl => ?_)
  exact L12 _ _ _ _ _ _ _ _ _ hf hP hS (lv_sub hl [1, 2, 3, 0] rfl)
theorem hi_X2_firstTouched_2 : ∀ w ∈ wsX20, w ∈ wsX2_firstTouched := fun _ h => List.mem_cons_of_mem _ (List.mem_append_right _ h)
set_option maxHeartbeats 4000000 in
set_option maxRecDepth 100000 in
theorem k_X2_firstTouched (l : Launch) (D : va_G) (cy : Nat → ClassId) (b : Nat) (M0 : Mem) (h0 : Nat) (x1 : Int32) (x2 : Int32) (rr : Int32 × Mem) (hf : fX2_firstTouched M0 h0 x1 x2 = some rr) : Met l yX2_firstTouched wsX2_firstTouched ({ frames := 0, cells := 0, slots := 0, locals := 0 } : Room) (zPc D cy b M0 [.ref (b + h0), .int x1, .int x2]) (zQi D cy b rr) 0 0 (zA b) := by
  refine Met.ofW (cc := cX2_firstTouched) (maxL := 4) (ret := (some .int)) (by decide) rfl ?_
  intro p e s m args below meth c s₁ B hml hv
  obtain ⟨rfl, hP, hK⟩ := hv
  have hx := B.exec
  have hb := B.bytes
  have hr := B.returns
  have hts := atoms_spec (ws := wsX2_firstTouched) B.pre
  have hown : s.vm.findClass RX2 = some m.cls := findClass_of_methodNamed B.named
  have hlocks := B.notSynchronized
  have hS : va_S (zA b) s.heap s.heap [] := va_S.rf
  have hl := lv_entry ([.ref (b + h0), .int x1, .int x2]) (n := 4) (Nat.le_of_ble_eq_true rfl)
  rw [lg_entry_eq]
  generalize (lg_sl ([.ref (b + h0), .int x1, .int x2]) ++ List.replicate (4 - (lg_sl ([.ref (b + h0), .int x1, .int x2])).length) Slot.unset).toArray = ls at hl ⊢
  have hl : lv_has ls 4 [(0, .ref (b + h0)), (1, .int x1), (2, .int x2)] := hl
  have L2 : ∀ (n2 : Nat) (M : Mem) (H : Heap) (locs : List Loc) (ls : Array Slot) (h0 : Nat) (x1 : Int32) (x2 : Int32) (x3 : Int32), fX2_firstTouched_2L  n2 M h0 x1 x2 x3 = some rr → zH D cy b M H → va_S (zA b) s.heap H locs → lv_has ls 4 [(0, .ref (b + h0)), (1, .int x1), (2, .int x2), (3, .int x3)] → W p l e (headSpec wsX2_firstTouched ({ frames := 0, cells := 0, slots := 0, locals := 0 } : Room)).room s m ([.ref (b + h0), .int x1, .int x2] : List Value).toArray below meth c H locs 0 0 (MQ below (zQi D cy b rr) ([.ref (b + h0), .int x1, .int x2] : List Value).toArray s 0 0 (zA b)) (F0 m 2 ls []) := by
    intro n2
    induction n2 with
    | zero =>
      intro M H locs ls h0 x1 x2 x3 hf
      have hf : (none : Option (Int32 × Mem)) = some rr := hf
      cases hf
    | succ n2 ih2 =>
      have J39 : ∀ (M : Mem) (H : Heap) (locs : List Loc) (ls : Array Slot) (h0 : Nat) (x1 : Int32) (x2 : Int32) (x3 : Int32), fX2_firstTouched_39 (fX2_firstTouched_2L  n2) M h0 x1 x2 x3 = some rr → zH D cy b M H → va_S (zA b) s.heap H locs → lv_has ls 4 [(0, .ref (b + h0)), (1, .int x1), (2, .int x2), (3, .int x3)] → W p l e (headSpec wsX2_firstTouched ({ frames := 0, cells := 0, slots := 0, locals := 0 } : Room)).room s m ([.ref (b + h0), .int x1, .int x2] : List Value).toArray below meth c H locs 0 0 (MQ below (zQi D cy b rr) ([.ref (b + h0), .int x1, .int x2] : List Value).toArray s 0 0 (zA b)) (F0 m 39 ls []) := by
        intro M H locs ls h0 x1 x2 x3 hf hP hS hl
        unfold fX2_firstTouched_39 at hf
        obtain ⟨x3_39, q39, hf⟩ := zlt_s hf
        refine lv_iinc (v := x3_39) (lv' := [(3, .int x3_39), (0, .ref (b + h0)), (1, .int x1), (2, .int x2)]) hx hb dX2_firstTouched_39 hl (k := 3) rfl (by rw [← q39]; rfl) (by decide) rfl (fun ls hl => ?_)
        refine lv_goto (tgt := 2) hx hb dX2_firstTouched_42 (by decide) ?_
        exact ih2 _ _ _ _ _ _ _ _ hf hP hS (lv_sub hl [1, 2, 3, 0] rfl)
      intro M H locs ls h0 x1 x2 x3 hf hP hS hl
      have hf : fX2_firstTouched_2  (fX2_firstTouched_2L  n2) M h0 x1 x2 x3 = some rr := hf
      unfold fX2_firstTouched_2 at hf
      refine lv_iload_n hx hb dX2_firstTouched_2 rfl (lv_at hl 3 rfl) ?_
      refine lv_iload_n hx hb dX2_firstTouched_3 rfl (lv_at hl 2 rfl) ?_
      refine lv_icmp_ge (tgt := 45) hx hb dX2_firstTouched_4 (by decide) (fun c4 => ?_) (fun c4 => ?_)
      · have hf := (if_pos c4).symm.trans hf
        refine lv_iload_n hx hb dX2_firstTouched_45 rfl (lv_at hl 2 rfl) ?_
        exact zret_i hx hb hr hlocks hf hP hS dX2_firstTouched_46
      · have hf := (if_neg c4).symm.trans hf
        refine lv_iload_n hx hb dX2_firstTouched_7 rfl (lv_at hl 3 rfl) ?_
        refine lv_aload_n hx hb dX2_firstTouched_8 rfl (lv_at hl 0 rfl) ?_
        obtain ⟨v9, e9, hf⟩ := zb hf
        refine zr_gr (ci := 2) (k := 1) (C := RX2) (T := TX2) (N := 5) hx hb hts hi_X2_firstTouched_2 hown hK hP e9 rfl rfl (by decide) (by decide) (hts (.fieldLink RX2 17 "BoundaryAnalyzer$Kind" "looks" "[I") (List.mem_of_getElem? (i := 1) rfl)) dX2_firstTouched_9 ?_
        obtain ⟨v12, e12, hf⟩ := zb hf
        refine zr_al (t0 := 1) hx hb hK hP e12 (by decide) rfl dX2_firstTouched_12 ?_
        refine lv_icmp_ge (tgt := 45) hx hb dX2_firstTouched_13 (by decide) (fun c13 => ?_) (fun c13 => ?_)
        · have hf := (if_pos c13).symm.trans hf
          refine lv_iload_n hx hb dX2_firstTouched_45 rfl (lv_at hl 2 rfl) ?_
          exact zret_i hx hb hr hlocks hf hP hS dX2_firstTouched_46
        · have hf := (if_neg c13).symm.trans hf
          refine lv_aload_n hx hb dX2_firstTouched_16 rfl (lv_at hl 0 rfl) ?_
          obtain ⟨v17, e17, hf⟩ := zb hf
          refine zr_gr (ci := 2) (k := 1) (C := RX2) (T := TX2) (N := 5) hx hb hts hi_X2_firstTouched_2 hown hK hP e17 rfl rfl (by decide) (by decide) (hts (.fieldLink RX2 17 "BoundaryAnalyzer$Kind" "looks" "[I") (List.mem_of_getElem? (i := 1) rfl)) dX2_firstTouched_17 ?_
          refine lv_iload_n hx hb dX2_firstTouched_20 rfl (lv_at hl 3 rfl) ?_
          obtain ⟨v21, e21, hf⟩ := zb hf
          refine zr_ai hx hb hK hP e21 dX2_firstTouched_21 ?_
          refine lv_if_le (tgt := 39) hx hb dX2_firstTouched_22 (by decide) (fun c22 => ?_) (fun c22 => ?_)
          · have hf := (if_pos c22).symm.trans hf
            exact J39 _ _ _ _ _ _ _ _ hf hP hS (lv_sub hl [0, 1, 2, 3] rfl)
          · have hf := (if_neg c22).symm.trans hf
            refine lv_iload_n hx hb dX2_firstTouched_25 rfl (lv_at hl 3 rfl) ?_
            refine lv_aload_n hx hb dX2_firstTouched_26 rfl (lv_at hl 0 rfl) ?_
            obtain ⟨v27, e27, hf⟩ := zb hf
            refine zr_gr (ci := 2) (k := 1) (C := RX2) (T := TX2) (N := 5) hx hb hts hi_X2_firstTouched_2 hown hK hP e27 rfl rfl (by decide) (by decide) (hts (.fieldLink RX2 17 "BoundaryAnalyzer$Kind" "looks" "[I") (List.mem_of_getElem? (i := 1) rfl)) dX2_firstTouched_27 ?_
            refine lv_iload_n hx hb dX2_firstTouched_30 rfl (lv_at hl 3 rfl) ?_
            obtain ⟨v31, e31, hf⟩ := zb hf
            refine zr_ai hx hb hK hP e31 dX2_firstTouched_31 ?_
            refine lv_iadd hx hb dX2_firstTouched_32 ?_
            refine lv_iload_n hx hb dX2_firstTouched_33 rfl (lv_at hl 1 rfl) ?_
            refine lv_icmp_le (tgt := 39) hx hb dX2_firstTouched_34 (by decide) (fun c34 => ?_) (fun c34 => ?_)
            · have hf := (if_pos c34).symm.trans hf
              exact J39 _ _ _ _ _ _ _ _ hf hP hS (lv_sub hl [0, 1, 2, 3] rfl)
            · have hf := (if_neg c34).symm.trans hf
              refine lv_iload_n hx hb dX2_firstTouched_37 rfl (lv_at hl 3 rfl) ?_
              exact zret_i hx hb hr hlocks hf hP hS dX2_firstTouched_38
  unfold fX2_firstTouched at hf
  refine lv_iconst (v := (0 : Int32)) hx hb dX2_firstTouched_0 (by decide) ?_
  refine lv_istore_n (lv' := [(3, .int (0 : Int32)), (0, .ref (b + h0)), (1, .int x1), (2, .int x2)]) hx hb dX2_firstTouched_1 rfl hl (by decide) rfl (fun ls hl => ?_)
  exact L2 _ _ _ _ _ _ _ _ _ hf hP hS (lv_sub hl [1, 2, 3, 0] rfl)
theorem hi_X2_moveUp_2 : ∀ w ∈ wsX20, w ∈ wsX2_moveUp := fun _ h => List.mem_cons_of_mem _ (List.mem_append_right _ h)
set_option maxHeartbeats 4000000 in
set_option maxRecDepth 100000 in
theorem k_X2_moveUp (l : Launch) (D : va_G) (cy : Nat → ClassId) (b : Nat) (M0 : Mem) (h0 : Nat) (x1 : Int32) (x2 : Int32) (x3 : Int32) (rr : Mem) (hf : fX2_moveUp M0 h0 x1 x2 x3 = some rr) : Met l yX2_moveUp wsX2_moveUp ({ frames := 2, cells := 0, slots := 0, locals := 46 } : Room) (zPc D cy b M0 [.ref (b + h0), .int x1, .int x2, .int x3]) (zQv D cy b rr) 0 0 (zA b) := by
  refine Met.ofW (cc := cX2_moveUp) (maxL := 4) (ret := none) (by decide) rfl ?_
  intro p e s m args below meth c s₁ B hml hv
  obtain ⟨rfl, hP, hK⟩ := hv
  have hx := B.exec
  have hb := B.bytes
  have hr := B.returns
  have hts := atoms_spec (ws := wsX2_moveUp) B.pre
  have hown : s.vm.findClass RX2 = some m.cls := findClass_of_methodNamed B.named
  have hlocks := B.notSynchronized
  have hS : va_S (zA b) s.heap s.heap [] := va_S.rf
  have hl := lv_entry ([.ref (b + h0), .int x1, .int x2, .int x3]) (n := 4) (Nat.le_of_ble_eq_true rfl)
  rw [lg_entry_eq]
  generalize (lg_sl ([.ref (b + h0), .int x1, .int x2, .int x3]) ++ List.replicate (4 - (lg_sl ([.ref (b + h0), .int x1, .int x2, .int x3])).length) Slot.unset).toArray = ls at hl ⊢
  have hl : lv_has ls 4 [(0, .ref (b + h0)), (1, .int x1), (2, .int x2), (3, .int x3)] := hl
  unfold fX2_moveUp at hf
  refine lv_iload_n hx hb dX2_moveUp_0 rfl (lv_at hl 1 rfl) ?_
  refine lv_if_lt (tgt := 24) hx hb dX2_moveUp_1 (by decide) (fun c1 => ?_) (fun c1 => ?_)
  · have hf := (if_pos c1).symm.trans hf
    exact zret_v hx hb hr hlocks hf hP hS dX2_moveUp_24
  · have hf := (if_neg c1).symm.trans hf
    refine lv_iload_n hx hb dX2_moveUp_4 rfl (lv_at hl 2 rfl) ?_
    refine lv_if_lt (tgt := 24) hx hb dX2_moveUp_5 (by decide) (fun c5 => ?_) (fun c5 => ?_)
    · have hf := (if_pos c5).symm.trans hf
      exact zret_v hx hb hr hlocks hf hP hS dX2_moveUp_24
    · have hf := (if_neg c5).symm.trans hf
      refine lv_iload_n hx hb dX2_moveUp_8 rfl (lv_at hl 1 rfl) ?_
      refine lv_iload_n hx hb dX2_moveUp_9 rfl (lv_at hl 3 rfl) ?_
      refine lv_icmp_gt (tgt := 24) hx hb dX2_moveUp_10 (by decide) (fun c10 => ?_) (fun c10 => ?_)
      · have hf := (if_pos c10).symm.trans hf
        exact zret_v hx hb hr hlocks hf hP hS dX2_moveUp_24
      · have hf := (if_neg c10).symm.trans hf
        refine lv_iload_n hx hb dX2_moveUp_13 rfl (lv_at hl 2 rfl) ?_
        refine lv_aload_n hx hb dX2_moveUp_14 rfl (lv_at hl 0 rfl) ?_
        obtain ⟨v15, e15, hf⟩ := zb hf
        refine zr_gr (ci := 2) (k := 1) (C := RX2) (T := TX2) (N := 5) hx hb hts hi_X2_moveUp_2 hown hK hP e15 rfl rfl (by decide) (by decide) (hts (.fieldLink RX2 17 "BoundaryAnalyzer$Kind" "looks" "[I") (List.mem_of_getElem? (i := 1) rfl)) dX2_moveUp_15 ?_
        obtain ⟨v18, e18, hf⟩ := zb hf
        refine zr_al (t0 := 1) hx hb hK hP e18 (by decide) rfl dX2_moveUp_18 ?_
        refine lv_iload_n hx hb dX2_moveUp_19 rfl (lv_at hl 3 rfl) ?_
        refine lv_isub hx hb dX2_moveUp_20 ?_
        refine lv_icmp_le (tgt := 25) hx hb dX2_moveUp_21 (by decide) (fun c21 => ?_) (fun c21 => ?_)
        · have hf := (if_pos c21).symm.trans hf
          refine lv_aload_n hx hb dX2_moveUp_25 rfl (lv_at hl 0 rfl) ?_
          obtain ⟨v26, e26, hf⟩ := zb hf
          refine zr_gr (ci := 2) (k := 1) (C := RX2) (T := TX2) (N := 5) hx hb hts hi_X2_moveUp_2 hown hK hP e26 rfl rfl (by decide) (by decide) (hts (.fieldLink RX2 17 "BoundaryAnalyzer$Kind" "looks" "[I") (List.mem_of_getElem? (i := 1) rfl)) dX2_moveUp_26 ?_
          refine lv_iload_n hx hb dX2_moveUp_29 rfl (lv_at hl 1 rfl) ?_
          refine lv_aload_n hx hb dX2_moveUp_30 rfl (lv_at hl 0 rfl) ?_
          obtain ⟨v31, e31, hf⟩ := zb hf
          refine zr_gr (ci := 2) (k := 1) (C := RX2) (T := TX2) (N := 5) hx hb hts hi_X2_moveUp_2 hown hK hP e31 rfl rfl (by decide) (by decide) (hts (.fieldLink RX2 17 "BoundaryAnalyzer$Kind" "looks" "[I") (List.mem_of_getElem? (i := 1) rfl)) dX2_moveUp_31 ?_
          refine lv_iload_n hx hb dX2_moveUp_34 rfl (lv_at hl 1 rfl) ?_
          refine lv_iload_n hx hb dX2_moveUp_35 rfl (lv_at hl 2 rfl) ?_
          refine lv_iadd hx hb dX2_moveUp_36 ?_
          refine lv_iload_n hx hb dX2_moveUp_37 rfl (lv_at hl 3 rfl) ?_
          refine lv_iload_n hx hb dX2_moveUp_38 rfl (lv_at hl 1 rfl) ?_
          refine lv_isub hx hb dX2_moveUp_39 ?_
          obtain ⟨M40, e40, hf⟩ := zb hf
          refine zr_cp (t0 := 1) hx hb (by rw [hml]; exact hl.1.symm) hown (hts (.methodLink RX2 47 arraycopyName) (List.mem_of_getElem? (i := 2) rfl)) (hts (.native arraycopyName) (List.mem_of_getElem? (i := 3) rfl)) (hts (.static arraycopyName) (List.mem_of_getElem? (i := 4) rfl)) (hts (.initialized "java/lang/System") (List.mem_of_getElem? (i := 5) rfl)) hK hP hS e40 rfl (Or.inr ⟨rfl, rfl⟩) (Nat.le_of_ble_eq_true rfl) (Nat.le_of_ble_eq_true rfl) dX2_moveUp_40 (fun H locs hP hS => ?_)
          refine lv_aload_n hx hb dX2_moveUp_43 rfl (lv_at hl 0 rfl) ?_
          obtain ⟨v44, e44, hf⟩ := zb hf
          refine zr_gr (ci := 2) (k := 1) (C := RX2) (T := TX2) (N := 5) hx hb hts hi_X2_moveUp_2 hown hK hP e44 rfl rfl (by decide) (by decide) (hts (.fieldLink RX2 17 "BoundaryAnalyzer$Kind" "looks" "[I") (List.mem_of_getElem? (i := 1) rfl)) dX2_moveUp_44 ?_
          refine lv_iload_n hx hb dX2_moveUp_47 rfl (lv_at hl 1 rfl) ?_
          refine lv_iload_n hx hb dX2_moveUp_48 rfl (lv_at hl 1 rfl) ?_
          refine lv_iload_n hx hb dX2_moveUp_49 rfl (lv_at hl 2 rfl) ?_
          refine lv_iadd hx hb dX2_moveUp_50 ?_
          refine lv_iconst (v := (0 : Int32)) hx hb dX2_moveUp_51 (by decide) ?_
          obtain ⟨M52, e52, hf⟩ := zb hf
          refine zc_v hS (va_runS (As := [.ref (b + v44), .int x1, .int (x1 + x2), .int (0 : Int32)]) (rest := []) ⟨hx, hb, hml, hown, hts⟩ (k_J7_fill_fda19 l D cy b M40  v44 x1 (x1 + x2) (0 : Int32) M52 e52) (va_cwS 4 hts gX2_moveUp_J7_fill_fda19 rfl rfl rfl (by decide +kernel) ⟨Nat.le_of_ble_eq_true rfl, Nat.le_of_ble_eq_true rfl⟩) (zp_S _ hK hP) rfl rfl hl.1 rfl (lv_room (Nat.le_of_ble_eq_true rfl)) dX2_moveUp_52 ⟨Nat.zero_le _, Nat.zero_le _⟩) (fun H locs hP hS => ?_)
          exact zret_v hx hb hr hlocks hf hP hS dX2_moveUp_55
        · have hf := (if_neg c21).symm.trans hf
          exact zret_v hx hb hr hlocks hf hP hS dX2_moveUp_24
theorem hi_X2_moveDown_2 : ∀ w ∈ wsX20, w ∈ wsX2_moveDown := fun _ h => List.mem_cons_of_mem _ (List.mem_append_right _ h)
set_option maxHeartbeats 4000000 in
set_option maxRecDepth 100000 in
theorem k_X2_moveDown (l : Launch) (D : va_G) (cy : Nat → ClassId) (b : Nat) (M0 : Mem) (h0 : Nat) (x1 : Int32) (x2 : Int32) (x3 : Int32) (rr : Mem) (hf : fX2_moveDown M0 h0 x1 x2 x3 = some rr) : Met l yX2_moveDown wsX2_moveDown ({ frames := 1, cells := 0, slots := 0, locals := 40 } : Room) (zPc D cy b M0 [.ref (b + h0), .int x1, .int x2, .int x3]) (zQv D cy b rr) 0 0 (zA b) := by
  refine Met.ofW (cc := cX2_moveDown) (maxL := 4) (ret := none) (by decide) rfl ?_
  intro p e s m args below meth c s₁ B hml hv
  obtain ⟨rfl, hP, hK⟩ := hv
  have hx := B.exec
  have hb := B.bytes
  have hr := B.returns
  have hts := atoms_spec (ws := wsX2_moveDown) B.pre
  have hown : s.vm.findClass RX2 = some m.cls := findClass_of_methodNamed B.named
  have hlocks := B.notSynchronized
  have hS : va_S (zA b) s.heap s.heap [] := va_S.rf
  have hl := lv_entry ([.ref (b + h0), .int x1, .int x2, .int x3]) (n := 4) (Nat.le_of_ble_eq_true rfl)
  rw [lg_entry_eq]
  generalize (lg_sl ([.ref (b + h0), .int x1, .int x2, .int x3]) ++ List.replicate (4 - (lg_sl ([.ref (b + h0), .int x1, .int x2, .int x3])).length) Slot.unset).toArray = ls at hl ⊢
  have hl : lv_has ls 4 [(0, .ref (b + h0)), (1, .int x1), (2, .int x2), (3, .int x3)] := hl
  unfold fX2_moveDown at hf
  refine lv_iload_n hx hb dX2_moveDown_0 rfl (lv_at hl 1 rfl) ?_
  refine lv_if_lt (tgt := 24) hx hb dX2_moveDown_1 (by decide) (fun c1 => ?_) (fun c1 => ?_)
  · have hf := (if_pos c1).symm.trans hf
    exact zret_v hx hb hr hlocks hf hP hS dX2_moveDown_24
  · have hf := (if_neg c1).symm.trans hf
    refine lv_iload_n hx hb dX2_moveDown_4 rfl (lv_at hl 2 rfl) ?_
    refine lv_if_lt (tgt := 24) hx hb dX2_moveDown_5 (by decide) (fun c5 => ?_) (fun c5 => ?_)
    · have hf := (if_pos c5).symm.trans hf
      exact zret_v hx hb hr hlocks hf hP hS dX2_moveDown_24
    · have hf := (if_neg c5).symm.trans hf
      refine lv_iload_n hx hb dX2_moveDown_8 rfl (lv_at hl 2 rfl) ?_
      refine lv_iload_n hx hb dX2_moveDown_9 rfl (lv_at hl 3 rfl) ?_
      refine lv_iload_n hx hb dX2_moveDown_10 rfl (lv_at hl 1 rfl) ?_
      refine lv_isub hx hb dX2_moveDown_11 ?_
      refine lv_icmp_gt (tgt := 24) hx hb dX2_moveDown_12 (by decide) (fun c12 => ?_) (fun c12 => ?_)
      · have hf := (if_pos c12).symm.trans hf
        exact zret_v hx hb hr hlocks hf hP hS dX2_moveDown_24
      · have hf := (if_neg c12).symm.trans hf
        refine lv_iload_n hx hb dX2_moveDown_15 rfl (lv_at hl 3 rfl) ?_
        refine lv_aload_n hx hb dX2_moveDown_16 rfl (lv_at hl 0 rfl) ?_
        obtain ⟨v17, e17, hf⟩ := zb hf
        refine zr_gr (ci := 2) (k := 1) (C := RX2) (T := TX2) (N := 5) hx hb hts hi_X2_moveDown_2 hown hK hP e17 rfl rfl (by decide) (by decide) (hts (.fieldLink RX2 17 "BoundaryAnalyzer$Kind" "looks" "[I") (List.mem_of_getElem? (i := 1) rfl)) dX2_moveDown_17 ?_
        obtain ⟨v20, e20, hf⟩ := zb hf
        refine zr_al (t0 := 1) hx hb hK hP e20 (by decide) rfl dX2_moveDown_20 ?_
        refine lv_icmp_le (tgt := 25) hx hb dX2_moveDown_21 (by decide) (fun c21 => ?_) (fun c21 => ?_)
        · have hf := (if_pos c21).symm.trans hf
          refine lv_aload_n hx hb dX2_moveDown_25 rfl (lv_at hl 0 rfl) ?_
          obtain ⟨v26, e26, hf⟩ := zb hf
          refine zr_gr (ci := 2) (k := 1) (C := RX2) (T := TX2) (N := 5) hx hb hts hi_X2_moveDown_2 hown hK hP e26 rfl rfl (by decide) (by decide) (hts (.fieldLink RX2 17 "BoundaryAnalyzer$Kind" "looks" "[I") (List.mem_of_getElem? (i := 1) rfl)) dX2_moveDown_26 ?_
          refine lv_iload_n hx hb dX2_moveDown_29 rfl (lv_at hl 1 rfl) ?_
          refine lv_iload_n hx hb dX2_moveDown_30 rfl (lv_at hl 2 rfl) ?_
          refine lv_iadd hx hb dX2_moveDown_31 ?_
          refine lv_aload_n hx hb dX2_moveDown_32 rfl (lv_at hl 0 rfl) ?_
          obtain ⟨v33, e33, hf⟩ := zb hf
          refine zr_gr (ci := 2) (k := 1) (C := RX2) (T := TX2) (N := 5) hx hb hts hi_X2_moveDown_2 hown hK hP e33 rfl rfl (by decide) (by decide) (hts (.fieldLink RX2 17 "BoundaryAnalyzer$Kind" "looks" "[I") (List.mem_of_getElem? (i := 1) rfl)) dX2_moveDown_33 ?_
          refine lv_iload_n hx hb dX2_moveDown_36 rfl (lv_at hl 1 rfl) ?_
          refine lv_iload_n hx hb dX2_moveDown_37 rfl (lv_at hl 3 rfl) ?_
          refine lv_iload_n hx hb dX2_moveDown_38 rfl (lv_at hl 1 rfl) ?_
          refine lv_isub hx hb dX2_moveDown_39 ?_
          refine lv_iload_n hx hb dX2_moveDown_40 rfl (lv_at hl 2 rfl) ?_
          refine lv_isub hx hb dX2_moveDown_41 ?_
          obtain ⟨M42, e42, hf⟩ := zb hf
          refine zr_cp (t0 := 1) hx hb (by rw [hml]; exact hl.1.symm) hown (hts (.methodLink RX2 47 arraycopyName) (List.mem_of_getElem? (i := 2) rfl)) (hts (.native arraycopyName) (List.mem_of_getElem? (i := 3) rfl)) (hts (.static arraycopyName) (List.mem_of_getElem? (i := 4) rfl)) (hts (.initialized "java/lang/System") (List.mem_of_getElem? (i := 5) rfl)) hK hP hS e42 rfl (Or.inr ⟨rfl, rfl⟩) (Nat.le_of_ble_eq_true rfl) (Nat.le_of_ble_eq_true rfl) dX2_moveDown_42 (fun H locs hP hS => ?_)
          exact zret_v hx hb hr hlocks hf hP hS dX2_moveDown_45
        · have hf := (if_neg c21).symm.trans hf
          exact zret_v hx hb hr hlocks hf hP hS dX2_moveDown_24
theorem hi_X2_analyse_2 : ∀ w ∈ wsX20, w ∈ wsX2_analyse := fun _ h => List.mem_cons_of_mem _ (List.mem_append_left _ (List.mem_append_left _ (List.mem_append_right _ h)))
theorem hi_X2_analyse_4 : ∀ w ∈ wsX40, w ∈ wsX2_analyse := fun _ h => List.mem_cons_of_mem _ (List.mem_append_left _ (List.mem_append_left _ (List.mem_append_left _ (List.mem_append_right _ h))))
theorem hi_X2_analyse_7 : ∀ w ∈ wsX70, w ∈ wsX2_analyse := fun _ h => List.mem_cons_of_mem _ (List.mem_append_left _ (List.mem_append_left _ (List.mem_append_left _ (List.mem_append_left _ (List.mem_append_right _ h)))))
set_option maxHeartbeats 4000000 in
set_option maxRecDepth 100000 in
theorem k_X2_analyse (l : Launch) (D : va_G) (cy : Nat → ClassId) (b : Nat) (M0 : Mem) (h0 : Nat) (h1 : Nat) (x2 : Int32) (x3 : Int32) (rr : Mem) (hf : fX2_analyse M0 h0 h1 x2 x3 = some rr) : Met l yX2_analyse wsX2_analyse ({ frames := 4, cells := 0, slots := 0, locals := 116 } : Room) (zPc D cy b M0 [.ref (b + h0), .ref (b + h1), .int x2, .int x3]) (zQv D cy b rr) 0 0 (zA b) := by
  refine Met.ofW (cc := cX2_analyse) (maxL := 7) (ret := none) (by decide) rfl ?_
  intro p e s m args below meth c s₁ B hml hv
  obtain ⟨rfl, hP, hK⟩ := hv
  have hx := B.exec
  have hb := B.bytes
  have hr := B.returns
  have hts := atoms_spec (ws := wsX2_analyse) B.pre
  have hown : s.vm.findClass RX2 = some m.cls := findClass_of_methodNamed B.named
  have hlocks := B.notSynchronized
  have hS : va_S (zA b) s.heap s.heap [] := va_S.rf
  have hl := lv_entry ([.ref (b + h0), .ref (b + h1), .int x2, .int x3]) (n := 7) (Nat.le_of_ble_eq_true rfl)
  rw [lg_entry_eq]
  generalize (lg_sl ([.ref (b + h0), .ref (b + h1), .int x2, .int x3]) ++ List.replicate (7 - (lg_sl ([.ref (b + h0), .ref (b + h1), .int x2, .int x3])).length) Slot.unset).toArray = ls at hl ⊢
  have hl : lv_has ls 7 [(0, .ref (b + h0)), (1, .ref (b + h1)), (2, .int x2), (3, .int x3)] := hl
  have L29 : ∀ (n29 : Nat) (M : Mem) (H : Heap) (locs : List Loc) (ls : Array Slot) (h0 : Nat) (h1 : Nat) (x3 : Int32) (x4 : Int32) (x5 : Int32), fX2_analyse_29L  n29 M h0 h1 x3 x4 x5 = some rr → zH D cy b M H → va_S (zA b) s.heap H locs → lv_has ls 7 [(0, .ref (b + h0)), (1, .ref (b + h1)), (3, .int x3), (4, .int x4), (5, .int x5)] → W p l e (headSpec wsX2_analyse ({ frames := 4, cells := 0, slots := 0, locals := 116 } : Room)).room s m ([.ref (b + h0), .ref (b + h1), .int x2, .int x3] : List Value).toArray below meth c H locs 0 0 (MQ below (zQv D cy b rr) ([.ref (b + h0), .ref (b + h1), .int x2, .int x3] : List Value).toArray s 0 0 (zA b)) (F0 m 29 ls []) := by
    intro n29
    induction n29 with
    | zero =>
      intro M H locs ls h0 h1 x3 x4 x5 hf
      have hf : (none : Option Mem) = some rr := hf
      cases hf
    | succ n29 ih29 =>
      have L87 : ∀ (n87 : Nat) (M : Mem) (H : Heap) (locs : List Loc) (ls : Array Slot) (h0 : Nat) (h1 : Nat) (x3 : Int32) (x4 : Int32) (x5 : Int32) (x6 : Int32), fX2_analyse_87L (fX2_analyse_29L  n29) n87 M h0 h1 x3 x4 x5 x6 = some rr → zH D cy b M H → va_S (zA b) s.heap H locs → lv_has ls 7 [(0, .ref (b + h0)), (1, .ref (b + h1)), (3, .int x3), (4, .int x4), (5, .int x5), (6, .int x6)] → W p l e (headSpec wsX2_analyse ({ frames := 4, cells := 0, slots := 0, locals := 116 } : Room)).room s m ([.ref (b + h0), .ref (b + h1), .int x2, .int x3] : List Value).toArray below meth c H locs 0 0 (MQ below (zQv D cy b rr) ([.ref (b + h0), .ref (b + h1), .int x2, .int x3] : List Value).toArray s 0 0 (zA b)) (F0 m 87 ls []) := by
        intro n87
        induction n87 with
        | zero =>
          intro M H locs ls h0 h1 x3 x4 x5 x6 hf
          have hf : (none : Option Mem) = some rr := hf
          cases hf
        | succ n87 ih87 =>
          intro M H locs ls h0 h1 x3 x4 x5 x6 hf hP hS hl
          have hf : fX2_analyse_87 (fX2_analyse_29L  n29) (fX2_analyse_87L (fX2_analyse_29L  n29) n87) M h0 h1 x3 x4 x5 x6 = some rr := hf
          unfold fX2_analyse_87 at hf
          refine lv_iload hx hb dX2_analyse_87 (lv_at hl 4 rfl) ?_
          refine lv_iload hx hb dX2_analyse_89 (lv_at hl 5 rfl) ?_
          refine lv_icmp_ge (tgt := 108) hx hb dX2_analyse_91 (by decide) (fun c91 => ?_) (fun c91 => ?_)
          · have hf := (if_pos c91).symm.trans hf
            refine lv_aload_n hx hb dX2_analyse_108 rfl (lv_at hl 0 rfl) ?_
            refine lv_dup hx hb dX2_analyse_109 rfl ?_
            obtain ⟨v110, e110, hf⟩ := zb hf
            refine zr_gi (ci := 2) (k := 2) (C := RX2) (T := TX2) (N := 5) hx hb hts hi_X2_analyse_2 hown hK hP e110 rfl rfl (by decide) (by decide) (hts (.fieldLink RX2 77 "BoundaryAnalyzer$Kind" "analysed" "I") (List.mem_of_getElem? (i := 11) rfl)) dX2_analyse_110 ?_
            refine lv_iconst (v := (1 : Int32)) hx hb dX2_analyse_113 (by decide) ?_
            refine lv_iadd hx hb dX2_analyse_114 ?_
            obtain ⟨M115, e115, hf⟩ := zb hf
            refine zr_pi (ci := 2) (k := 2) (C := RX2) (T := TX2) (N := 5) hx hb hts hi_X2_analyse_2 tyX2 tyX2_ok nmX2 hown hK hP hS e115 rfl rfl (by decide) (by decide) (hts (.fieldLink RX2 77 "BoundaryAnalyzer$Kind" "analysed" "I") (List.mem_of_getElem? (i := 11) rfl)) rfl (tyX2_ok 2 (by decide)) dX2_analyse_115 (fun H locs hP _ hS => ?_)
            refine lv_goto (tgt := 29) hx hb dX2_analyse_118 (by decide) ?_
            exact ih29 _ _ _ _ _ _ _ _ _ hf hP hS (lv_sub hl [0, 1, 2, 3, 4] rfl)
          · have hf := (if_neg c91).symm.trans hf
            refine lv_aload_n hx hb dX2_analyse_94 rfl (lv_at hl 0 rfl) ?_
            obtain ⟨v95, e95, hf⟩ := zb hf
            refine zr_gr (ci := 2) (k := 1) (C := RX2) (T := TX2) (N := 5) hx hb hts hi_X2_analyse_2 hown hK hP e95 rfl rfl (by decide) (by decide) (hts (.fieldLink RX2 17 "BoundaryAnalyzer$Kind" "looks" "[I") (List.mem_of_getElem? (i := 3) rfl)) dX2_analyse_95 ?_
            refine lv_iload hx hb dX2_analyse_98 (lv_at hl 4 rfl) ?_
            refine lv_iconst (v := (0 : Int32)) hx hb dX2_analyse_100 (by decide) ?_
            obtain ⟨M101, e101, hf⟩ := zb hf
            refine zr_si hx hb hK hP hS e101 dX2_analyse_101 (fun H locs hP _ hS => ?_)
            obtain ⟨x5_102, q102, hf⟩ := zlt_s hf
            refine lv_iinc (v := x5_102) (lv' := [(5, .int x5_102), (0, .ref (b + h0)), (1, .ref (b + h1)), (3, .int x3), (4, .int x4), (6, .int x6)]) hx hb dX2_analyse_102 hl (k := 4) rfl (by rw [← q102]; rfl) (by decide) rfl (fun ls hl => ?_)
            refine lv_goto (tgt := 87) hx hb dX2_analyse_105 (by decide) ?_
            exact ih87 _ _ _ _ _ _ _ _ _ _ hf hP hS (lv_sub hl [1, 2, 3, 4, 0, 5] rfl)
      have J52 : ∀ (M : Mem) (H : Heap) (locs : List Loc) (ls : Array Slot) (h0 : Nat) (h1 : Nat) (x3 : Int32) (x4 : Int32) (x5 : Int32), fX2_analyse_52 (fX2_analyse_29L  n29) M h0 h1 x3 x4 x5 = some rr → zH D cy b M H → va_S (zA b) s.heap H locs → lv_has ls 7 [(0, .ref (b + h0)), (1, .ref (b + h1)), (3, .int x3), (4, .int x4), (5, .int x5)] → W p l e (headSpec wsX2_analyse ({ frames := 4, cells := 0, slots := 0, locals := 116 } : Room)).room s m ([.ref (b + h0), .ref (b + h1), .int x2, .int x3] : List Value).toArray below meth c H locs 0 0 (MQ below (zQv D cy b rr) ([.ref (b + h0), .ref (b + h1), .int x2, .int x3] : List Value).toArray s 0 0 (zA b)) (F0 m 52 ls []) := by
        intro M H locs ls h0 h1 x3 x4 x5 hf hP hS hl
        unfold fX2_analyse_52 at hf
        refine lv_aload_n hx hb dX2_analyse_52 rfl (lv_at hl 0 rfl) ?_
        refine lv_aload_n hx hb dX2_analyse_53 rfl (lv_at hl 1 rfl) ?_
        refine lv_iload hx hb dX2_analyse_54 (lv_at hl 4 rfl) ?_
        obtain ⟨u56, t56, hf⟩ := zb hf
        obtain ⟨M56, e56, hf⟩ := zb hf
        refine zc_v hS (va_runV (As := [.ref (b + h1), .int x5]) (rest := []) ⟨hx, hb, hml, hown, hts⟩ (k_X2_measure l D cy b M h0 h1 x5 M56 e56) (cwV 2 hts gX2_analyse_X2_measure rfl rfl rfl (by decide +kernel) ⟨Nat.le_of_ble_eq_true rfl, Nat.le_of_ble_eq_true rfl⟩) (zp_V _ hK hP t56 (T := TX2) (N := 5) rfl (by decide)) rfl rfl hl.1 rfl (lv_room (Nat.le_of_ble_eq_true rfl)) dX2_analyse_56 ⟨Nat.zero_le _, Nat.zero_le _⟩) (fun H locs hP hS => ?_)
        refine lv_iload hx hb dX2_analyse_59 (lv_at hl 3 rfl) ?_
        refine lv_iload hx hb dX2_analyse_61 (lv_at hl 4 rfl) ?_
        refine lv_aload_n hx hb dX2_analyse_63 rfl (lv_at hl 0 rfl) ?_
        obtain ⟨v64, e64, hf⟩ := zb hf
        refine zr_gi (ci := 2) (k := 3) (C := RX2) (T := TX2) (N := 5) hx hb hts hi_X2_analyse_2 hown hK hP e64 rfl rfl (by decide) (by decide) (hts (.fieldLink RX2 22 "BoundaryAnalyzer$Kind" "length" "I") (List.mem_of_getElem? (i := 12) rfl)) dX2_analyse_64 ?_
        refine lv_iadd hx hb dX2_analyse_67 ?_
        refine va_mmin hx hb (by rw [hml]; exact hl.1.symm) hown (hts (.methodLink RX2 74 Lib.Math.min.name) (List.mem_of_getElem? (i := 4) rfl)) (hts (.static Lib.Math.min.name) (List.mem_of_getElem? (i := 5) rfl)) (hts (.initialized "java/lang/Math") (List.mem_of_getElem? (i := 6) rfl)) (hts _ (List.mem_of_getElem? (i := 7) rfl)) (Nat.le_of_ble_eq_true rfl) (Nat.le_of_ble_eq_true rfl) (Nat.zero_le _) (Nat.zero_le _) dX2_analyse_68 ?_
        obtain ⟨x6_71, q71, hf⟩ := zlt_s hf
        refine zt q71 ?_
        refine lv_istore (lv' := [(6, .int x6_71), (0, .ref (b + h0)), (1, .ref (b + h1)), (3, .int x3), (4, .int x4), (5, .int x5)]) hx hb dX2_analyse_71 hl (by decide) rfl (fun ls hl => ?_)
        refine lv_aload_n hx hb dX2_analyse_73 rfl (lv_at hl 1 rfl) ?_
        obtain ⟨v74, e74, hf⟩ := zb hf
        refine zr_gr (ci := 2) (k := 1) (C := RX2) (T := TX2) (N := 5) hx hb hts hi_X2_analyse_2 hown hK hP e74 rfl rfl (by decide) (by decide) (hts (.fieldLink RX2 17 "BoundaryAnalyzer$Kind" "looks" "[I") (List.mem_of_getElem? (i := 3) rfl)) dX2_analyse_74 ?_
        refine lv_iload hx hb dX2_analyse_77 (lv_at hl 5 rfl) ?_
        refine lv_aload_n hx hb dX2_analyse_79 rfl (lv_at hl 1 rfl) ?_
        obtain ⟨v80, e80, hf⟩ := zb hf
        refine zr_gi (ci := 2) (k := 4) (C := RX2) (T := TX2) (N := 5) hx hb hts hi_X2_analyse_2 hown hK hP e80 rfl rfl (by decide) (by decide) (hts (.fieldLink RX2 26 "BoundaryAnalyzer$Kind" "looked" "I") (List.mem_of_getElem? (i := 13) rfl)) dX2_analyse_80 ?_
        obtain ⟨M83, e83, hf⟩ := zb hf
        refine zr_si hx hb hK hP hS e83 dX2_analyse_83 (fun H locs hP _ hS => ?_)
        obtain ⟨x5_84, q84, hf⟩ := zlt_s hf
        refine lv_iinc (v := x5_84) (lv' := [(5, .int x5_84), (6, .int x6_71), (0, .ref (b + h0)), (1, .ref (b + h1)), (3, .int x3), (4, .int x4)]) hx hb dX2_analyse_84 hl (k := 5) rfl (by rw [← q84]; rfl) (by decide) rfl (fun ls hl => ?_)
        exact L87 _ _ _ _ _ _ _ _ _ _ _ hf hP hS (lv_sub hl [2, 3, 4, 5, 0, 1] rfl)
      intro M H locs ls h0 h1 x3 x4 x5 hf hP hS hl
      have hf : fX2_analyse_29  (fX2_analyse_29L  n29) M h0 h1 x3 x4 x5 = some rr := hf
      unfold fX2_analyse_29 at hf
      refine lv_iload hx hb dX2_analyse_29 (lv_at hl 4 rfl) ?_
      refine lv_iload hx hb dX2_analyse_31 (lv_at hl 3 rfl) ?_
      refine lv_icmp_ge (tgt := 121) hx hb dX2_analyse_33 (by decide) (fun c33 => ?_) (fun c33 => ?_)
      · have hf := (if_pos c33).symm.trans hf
        exact zret_v hx hb hr hlocks hf hP hS dX2_analyse_121
      · have hf := (if_neg c33).symm.trans hf
        refine lv_iload hx hb dX2_analyse_36 (lv_at hl 4 rfl) ?_
        refine lv_iload_n hx hb dX2_analyse_38 rfl (lv_at hl 2 rfl) ?_
        refine lv_icmp_lt (tgt := 52) hx hb dX2_analyse_39 (by decide) (fun c39 => ?_) (fun c39 => ?_)
        · have hf := (if_pos c39).symm.trans hf
          exact J52 _ _ _ _ _ _ _ _ _ hf hP hS (lv_sub hl [0, 1, 2, 3, 4] rfl)
        · have hf := (if_neg c39).symm.trans hf
          refine lv_aload_n hx hb dX2_analyse_42 rfl (lv_at hl 0 rfl) ?_
          obtain ⟨v43, e43, hf⟩ := zb hf
          refine zr_gr (ci := 2) (k := 1) (C := RX2) (T := TX2) (N := 5) hx hb hts hi_X2_analyse_2 hown hK hP e43 rfl rfl (by decide) (by decide) (hts (.fieldLink RX2 17 "BoundaryAnalyzer$Kind" "looks" "[I") (List.mem_of_getElem? (i := 3) rfl)) dX2_analyse_43 ?_
          refine lv_iload hx hb dX2_analyse_46 (lv_at hl 4 rfl) ?_
          obtain ⟨v48, e48, hf⟩ := zb hf
          refine zr_ai hx hb hK hP e48 dX2_analyse_48 ?_
          refine lv_if_ne (tgt := 121) hx hb dX2_analyse_49 (by decide) (fun c49 => ?_) (fun c49 => ?_)
          · have hf := (if_neg c49).symm.trans hf
            exact zret_v hx hb hr hlocks hf hP hS dX2_analyse_121
          · have hf := (if_pos c49).symm.trans hf
            exact J52 _ _ _ _ _ _ _ _ _ hf hP hS (lv_sub hl [0, 1, 2, 3, 4] rfl)
  unfold fX2_analyse at hf
  refine lv_aload_n hx hb dX2_analyse_0 rfl (lv_at hl 1 rfl) ?_
  obtain ⟨v1, e1, hf⟩ := zb hf
  refine zr_gr (ci := 7) (k := 0) (C := RX7) (T := TX7) (N := 2) hx hb hts hi_X2_analyse_7 hown hK hP e1 rfl rfl (by decide) (by decide) (hts (.fieldLink RX2 59 "BoundaryAnalyzer$Text" "signs" "LBoundaryAnalyzer$Row;") (List.mem_of_getElem? (i := 1) rfl)) dX2_analyse_1 ?_
  obtain ⟨v4, e4, hf⟩ := zb hf
  refine zr_gi (ci := 4) (k := 1) (C := RX4) (T := TX4) (N := 2) hx hb hts hi_X2_analyse_4 hown hK hP e4 rfl rfl (by decide) (by decide) (hts (.fieldLink RX2 65 "BoundaryAnalyzer$Row" "size" "I") (List.mem_of_getElem? (i := 2) rfl)) dX2_analyse_4 ?_
  refine lv_aload_n hx hb dX2_analyse_7 rfl (lv_at hl 0 rfl) ?_
  obtain ⟨v8, e8, hf⟩ := zb hf
  refine zr_gr (ci := 2) (k := 1) (C := RX2) (T := TX2) (N := 5) hx hb hts hi_X2_analyse_2 hown hK hP e8 rfl rfl (by decide) (by decide) (hts (.fieldLink RX2 17 "BoundaryAnalyzer$Kind" "looks" "[I") (List.mem_of_getElem? (i := 3) rfl)) dX2_analyse_8 ?_
  obtain ⟨v11, e11, hf⟩ := zb hf
  refine zr_al (t0 := 1) hx hb hK hP e11 (by decide) rfl dX2_analyse_11 ?_
  refine va_mmin hx hb (by rw [hml]; exact hl.1.symm) hown (hts (.methodLink RX2 74 Lib.Math.min.name) (List.mem_of_getElem? (i := 4) rfl)) (hts (.static Lib.Math.min.name) (List.mem_of_getElem? (i := 5) rfl)) (hts (.initialized "java/lang/Math") (List.mem_of_getElem? (i := 6) rfl)) (hts _ (List.mem_of_getElem? (i := 7) rfl)) (Nat.le_of_ble_eq_true rfl) (Nat.le_of_ble_eq_true rfl) (Nat.zero_le _) (Nat.zero_le _) dX2_analyse_12 ?_
  obtain ⟨x4_15, q15, hf⟩ := zlt_s hf
  refine zt q15 ?_
  refine lv_istore (lv' := [(4, .int x4_15), (0, .ref (b + h0)), (1, .ref (b + h1)), (2, .int x2), (3, .int x3)]) hx hb dX2_analyse_15 hl (by decide) rfl (fun ls hl => ?_)
  refine lv_iconst (v := (0 : Int32)) hx hb dX2_analyse_17 (by decide) ?_
  refine lv_iload_n hx hb dX2_analyse_18 rfl (lv_at hl 3 rfl) ?_
  refine va_mmax hx hb (by rw [hml]; exact hl.1.symm) hown (hts (.methodLink RX2 40 Lib.Math.max.name) (List.mem_of_getElem? (i := 8) rfl)) (hts (.static Lib.Math.max.name) (List.mem_of_getElem? (i := 9) rfl)) (hts (.initialized "java/lang/Math") (List.mem_of_getElem? (i := 6) rfl)) (hts _ (List.mem_of_getElem? (i := 10) rfl)) (Nat.le_of_ble_eq_true rfl) (Nat.le_of_ble_eq_true rfl) (Nat.zero_le _) (Nat.zero_le _) dX2_analyse_19 ?_
  obtain ⟨x5_22, q22, hf⟩ := zlt_s hf
  refine zt q22 ?_
  refine lv_istore (lv' := [(5, .int x5_22), (4, .int x4_15), (0, .ref (b + h0)), (1, .ref (b + h1)), (2, .int x2), (3, .int x3)]) hx hb dX2_analyse_22 hl (by decide) rfl (fun ls hl => ?_)
  refine lv_aload_n hx hb dX2_analyse_24 rfl (lv_at hl 2 rfl) ?_
  refine lv_iconst (v := (0 : Int32)) hx hb dX2_analyse_25 (by decide) ?_
  obtain ⟨M26, e26, hf⟩ := zb hf
  refine zr_pi (ci := 2) (k := 2) (C := RX2) (T := TX2) (N := 5) hx hb hts hi_X2_analyse_2 tyX2 tyX2_ok nmX2 hown hK hP hS e26 rfl rfl (by decide) (by decide) (hts (.fieldLink RX2 77 "BoundaryAnalyzer$Kind" "analysed" "I") (List.mem_of_getElem? (i := 11) rfl)) rfl (tyX2_ok 2 (by decide)) dX2_analyse_26 (fun H locs hP _ hS => ?_)
  exact L29 _ _ _ _ _ _ _ _ _ _ hf hP hS (lv_sub hl [2, 3, 5, 1, 0] rfl)
theorem hi_X2_analyseAll_2 : ∀ w ∈ wsX20, w ∈ wsX2_analyseAll := fun _ h => List.mem_cons_of_mem _ (List.mem_append_left _ (List.mem_append_left _ (List.mem_append_right _ h)))
theorem hi_X2_analyseAll_4 : ∀ w ∈ wsX40, w ∈ wsX2_analyseAll := fun _ h => List.mem_cons_of_mem _ (List.mem_append_left _ (List.mem_append_left _ (List.mem_append_left _ (List.mem_append_right _ h))))
theorem hi_X2_analyseAll_7 : ∀ w ∈ wsX70, w ∈ wsX2_analyseAll := fun _ h => List.mem_cons_of_mem _ (List.mem_append_left _ (List.mem_append_left _ (List.mem_append_left _ (List.mem_append_left _ (List.mem_append_right _ h)))))
set_option maxHeartbeats 4000000 in
set_option maxRecDepth 100000 in
theorem k_X2_analyseAll (l : Launch) (D : va_G) (cy : Nat → ClassId) (b : Nat) (M0 : Mem) (h0 : Nat) (h1 : Nat) (rr : Mem) (hf : fX2_analyseAll M0 h0 h1 = some rr) : Met l yX2_analyseAll wsX2_analyseAll ({ frames := 5, cells := 0, slots := 0, locals := 142 } : Room) (zPc D cy b M0 [.ref (b + h0), .ref (b + h1)]) (zQv D cy b rr) 0 0 (zA b) := by
  refine Met.ofW (cc := cX2_analyseAll) (maxL := 2) (ret := none) (by decide) rfl ?_
  intro p e s m args below meth c s₁ B hml hv
  obtain ⟨rfl, hP, hK⟩ := hv
  have hx := B.exec
  have hb := B.bytes
  have hr := B.returns
  have hts := atoms_spec (ws := wsX2_analyseAll) B.pre
  have hown : s.vm.findClass RX2 = some m.cls := findClass_of_methodNamed B.named
  have hlocks := B.notSynchronized
  have hS : va_S (zA b) s.heap s.heap [] := va_S.rf
  have hl := lv_entry ([.ref (b + h0), .ref (b + h1)]) (n := 2) (Nat.le_of_ble_eq_true rfl)
  rw [lg_entry_eq]
  generalize (lg_sl ([.ref (b + h0), .ref (b + h1)]) ++ List.replicate (2 - (lg_sl ([.ref (b + h0), .ref (b + h1)])).length) Slot.unset).toArray = ls at hl ⊢
  have hl : lv_has ls 2 [(0, .ref (b + h0)), (1, .ref (b + h1))] := hl
  unfold fX2_analyseAll at hf
  refine lv_aload_n hx hb dX2_analyseAll_0 rfl (lv_at hl 0 rfl) ?_
  refine lv_aload_n hx hb dX2_analyseAll_1 rfl (lv_at hl 1 rfl) ?_
  refine lv_iconst (v := (0 : Int32)) hx hb dX2_analyseAll_2 (by decide) ?_
  refine lv_aload_n hx hb dX2_analyseAll_3 rfl (lv_at hl 1 rfl) ?_
  obtain ⟨v4, e4, hf⟩ := zb hf
  refine zr_gr (ci := 7) (k := 0) (C := RX7) (T := TX7) (N := 2) hx hb hts hi_X2_analyseAll_7 hown hK hP e4 rfl rfl (by decide) (by decide) (hts (.fieldLink RX2 59 "BoundaryAnalyzer$Text" "signs" "LBoundaryAnalyzer$Row;") (List.mem_of_getElem? (i := 1) rfl)) dX2_analyseAll_4 ?_
  obtain ⟨v7, e7, hf⟩ := zb hf
  refine zr_gi (ci := 4) (k := 1) (C := RX4) (T := TX4) (N := 2) hx hb hts hi_X2_analyseAll_4 hown hK hP e7 rfl rfl (by decide) (by decide) (hts (.fieldLink RX2 65 "BoundaryAnalyzer$Row" "size" "I") (List.mem_of_getElem? (i := 2) rfl)) dX2_analyseAll_7 ?_
  obtain ⟨u10, t10, hf⟩ := zb hf
  obtain ⟨M10, e10, hf⟩ := zb hf
  refine zc_v hS (va_runV (As := [.ref (b + h1), .int (0 : Int32), .int v7]) (rest := []) ⟨hx, hb, hml, hown, hts⟩ (k_X2_analyse l D cy b M0 h0 h1 (0 : Int32) v7 M10 e10) (cwV 3 hts gX2_analyseAll_X2_analyse rfl rfl rfl (by decide +kernel) ⟨Nat.le_of_ble_eq_true rfl, Nat.le_of_ble_eq_true rfl⟩) (zp_V _ hK hP t10 (T := TX2) (N := 5) rfl (by decide)) rfl rfl hl.1 rfl (lv_room (Nat.le_of_ble_eq_true rfl)) dX2_analyseAll_10 ⟨Nat.zero_le _, Nat.zero_le _⟩) (fun H locs hP hS => ?_)
  exact zret_v hx hb hr hlocks hf hP hS dX2_analyseAll_13
theorem hi_X6_init_3 : ∀ w ∈ wsX30, w ∈ wsX6_init := fun _ h => List.mem_cons_of_mem _ (List.mem_append_right _ h)
theorem hi_X6_init_6 : ∀ w ∈ wsX60, w ∈ wsX6_init := fun _ h => List.mem_cons_of_mem _ (List.mem_append_left _ (List.mem_append_right _ h))
set_option maxHeartbeats 4000000 in
set_option maxRecDepth 100000 in
theorem k_X6_init (l : Launch) (D : va_G) (cy : Nat → ClassId) (b : Nat) (M0 : Mem) (h0 : Nat) (rr : Mem) (hf : fX6_init M0 h0 = some rr) : Met l yX6_init wsX6_init ({ frames := 2, cells := 13, slots := 39000, locals := 60 } : Room) (zPn D cy b M0 [.ref (b + h0)]) (zQn D cy b rr) 13 39000 (zA b) := by
  refine Met.ofW (cc := cX6_init) (maxL := 2) (ret := none) (by decide) rfl ?_
  intro p e s m args below meth c s₁ B hml hv
  obtain ⟨rfl, hP, hK, hz⟩ := hv
  have hx := B.exec
  have hb := B.bytes
  have hr := B.returns
  have hts := atoms_spec (ws := wsX6_init) B.pre
  have hown : s.vm.findClass RX6 = some m.cls := findClass_of_methodNamed B.named
  have hlocks := B.notSynchronized
  have hin : meth.name = "<init>" := (name_of_methodNamed B.named B.method).1
  have hS : va_S (zA b) s.heap s.heap [] := va_S.rf
  have hl := lv_entry ([.ref (b + h0)]) (n := 2) (Nat.le_of_ble_eq_true rfl)
  rw [lg_entry_eq]
  generalize (lg_sl ([.ref (b + h0)]) ++ List.replicate (2 - (lg_sl ([.ref (b + h0)])).length) Slot.unset).toArray = ls at hl ⊢
  have hl : lv_has ls 2 [(0, .ref (b + h0))] := hl
  have hn : M0.1 ≤ M0.1 := Nat.le_refl _
  have hu : M0.1 ≤ M0.1 + 13 := by omega
  refine W.widen (k := M0.1 - M0.1) (n := 3000 * (M0.1 - M0.1)) (by omega) (by omega) ?_
  have L33 : ∀ (n33 : Nat) (M : Mem) (H : Heap) (locs : List Loc) (ls : Array Slot) (h0 : Nat) (x1 : Int32), fX6_init_33L M0  n33 M h0 x1 = some rr → zH D cy b M H → H.size = b + M.1 → va_S (zA b) s.heap H locs → M0.1 ≤ M.1 → M.1 ≤ M0.1 + 13 → lv_has ls 2 [(0, .ref (b + h0)), (1, .int x1)] → W p l e (headSpec wsX6_init ({ frames := 2, cells := 13, slots := 39000, locals := 60 } : Room)).room s m ([.ref (b + h0)] : List Value).toArray below meth c H locs (M.1 - M0.1) (3000 * (M.1 - M0.1)) (MQ below (zQn D cy b rr) ([.ref (b + h0)] : List Value).toArray s 13 39000 (zA b)) (F0 m 33 ls []) := by
    intro n33
    induction n33 with
    | zero =>
      intro M H locs ls h0 x1 hf
      have hf : (none : Option Mem) = some rr := hf
      cases hf
    | succ n33 ih33 =>
      intro M H locs ls h0 x1 hf hP hz hS hn hu hl
      have hf : fX6_init_33 M0  (fX6_init_33L M0  n33) M h0 x1 = some rr := hf
      unfold fX6_init_33 at hf
      refine lv_iload_n hx hb dX6_init_33 rfl (lv_at hl 1 rfl) ?_
      refine lv_iconst (v := (4 : Int32)) hx hb dX6_init_34 (by decide) ?_
      refine lv_icmp_gt (tgt := 70) hx hb dX6_init_35 (by decide) (fun c35 => ?_) (fun c35 => ?_)
      · have hf := (if_pos c35).symm.trans hf
        refine W.widen (k := 13) (n := 39000) (by omega) (by omega) ?_
        exact zret_n hx hb hr hlocks hf hP hz hS dX6_init_70
      · have hf := (if_neg c35).symm.trans hf
        refine lv_aload_n hx hb dX6_init_38 rfl (lv_at hl 0 rfl) ?_
        obtain ⟨v39, e39, hf⟩ := zb hf
        refine zr_gr (ci := 6) (k := 0) (C := RX6) (T := TX6) (N := 4) hx hb hts hi_X6_init_6 hown hK hP e39 rfl rfl (by decide) (by decide) (hts (.fieldLink RX6 11 "BoundaryAnalyzer$RuleBuilder" "alternatives" "[LBoundaryAnalyzer$Part;") (List.mem_of_getElem? (i := 5) rfl)) dX6_init_39 ?_
        refine lv_iload_n hx hb dX6_init_42 rfl (lv_at hl 1 rfl) ?_
        obtain ⟨M43, e43, hf⟩ := zb hf
        refine zr_no (ci := 3) (C := RX3) (T := TX3) (N := 3) hx hb hts hi_X6_init_3 tyX3 tyX3_ok hown (hts (.classLink RX6 9 RX3) (List.mem_of_getElem? (i := 4) rfl)) (hts (.instantiable RX3 3) (List.mem_of_getElem? (i := 7) rfl)) (hts (.initialized RX3) (List.mem_of_getElem? (i := 8) rfl)) hK hP hz hS e43 rfl (by decide) (fun j hj => by rcases (show j = 0 ∨ j = 1 ∨ j = 2 by omega) with rfl | rfl | rfl <;> rfl) (fun h9 => by show _ ≤ 13; omega) (fun h9 => by show _ ≤ 39000; omega) dX6_init_43 (fun H hP hz hS hq h9 => ?_)
        have hn : M0.1 ≤ M43.1 := by omega
        have hu : M43.1 ≤ M0.1 + 13 := by omega
        refine W.widen (k := M43.1 - M0.1) (n := 3000 * (M43.1 - M0.1)) (by omega) (by omega) ?_
        refine lv_dup hx hb dX6_init_46 rfl ?_
        obtain ⟨M47, e47, hf⟩ := zb hf
        obtain ⟨u47, r47, hf⟩ := zb hf
        obtain ⟨hq, h9⟩ := zcg_s r47
        refine zc_n hS (va_runIN (As := []) (rest := [.ref (b + M.1), .int x1, .ref (b + v39)]) ⟨hx, hb, hml, hown, hts⟩ (k_X3_init l D cy b M43 M.1  M47 e47) ⟨va_cnB 0 hts gX6_init_X3_init_n20 rfl rfl rfl (hK.2.1 _ (List.mem_of_getElem? (i := 2) rfl)) (hts (.initialized RX3) (List.mem_of_getElem? (i := 8) rfl)) (by decide +kernel) ⟨Nat.le_of_ble_eq_true rfl, Nat.le_of_ble_eq_true rfl⟩, rfl, (hts (.instanceMethod yX3_init) (List.mem_of_getElem? (i := 10) rfl))⟩ (zp_N _ hK hP hz) rfl rfl hl.1 rfl (lv_room (Nat.le_of_ble_eq_true rfl)) dX6_init_47 ⟨by show _ ≤ 13; omega, by show _ ≤ 39000; omega⟩) (fun H locs hP hz hS => ?_)
        have hn : M0.1 ≤ M47.1 := by omega
        have hu : M47.1 ≤ M0.1 + 13 := by omega
        refine W.widen (k := M47.1 - M0.1) (n := 3000 * (M47.1 - M0.1)) (by omega) (by omega) ?_
        obtain ⟨M50, e50, hf⟩ := zb hf
        refine zr_sa (t0 := 5) (r := (RX3, TX3, 3)) hx hb hK hP hS e50 (by decide) (by decide) rfl rfl dX6_init_50 (fun H locs hP hz1 hS => ?_)
        rw [hz] at hz1; have hz := hz1
        have hq := zsR_n e50
        rw [← hq] at hn hu hz
        refine W.widen (k := M50.1 - M0.1) (n := 3000 * (M50.1 - M0.1)) (by omega) (by omega) ?_
        refine lv_aload_n hx hb dX6_init_51 rfl (lv_at hl 0 rfl) ?_
        obtain ⟨v52, e52, hf⟩ := zb hf
        refine zr_gr (ci := 6) (k := 1) (C := RX6) (T := TX6) (N := 4) hx hb hts hi_X6_init_6 hown hK hP e52 rfl rfl (by decide) (by decide) (hts (.fieldLink RX6 17 "BoundaryAnalyzer$RuleBuilder" "sequences" "[LBoundaryAnalyzer$Part;") (List.mem_of_getElem? (i := 6) rfl)) dX6_init_52 ?_
        refine lv_iload_n hx hb dX6_init_55 rfl (lv_at hl 1 rfl) ?_
        obtain ⟨M56, e56, hf⟩ := zb hf
        refine zr_no (ci := 3) (C := RX3) (T := TX3) (N := 3) hx hb hts hi_X6_init_3 tyX3 tyX3_ok hown (hts (.classLink RX6 9 RX3) (List.mem_of_getElem? (i := 4) rfl)) (hts (.instantiable RX3 3) (List.mem_of_getElem? (i := 7) rfl)) (hts (.initialized RX3) (List.mem_of_getElem? (i := 8) rfl)) hK hP hz hS e56 rfl (by decide) (fun j hj => by rcases (show j = 0 ∨ j = 1 ∨ j = 2 by omega) with rfl | rfl | rfl <;> rfl) (fun h9 => by show _ ≤ 13; omega) (fun h9 => by show _ ≤ 39000; omega) dX6_init_56 (fun H hP hz hS hq h9 => ?_)
        have hn : M0.1 ≤ M56.1 := by omega
        have hu : M56.1 ≤ M0.1 + 13 := by omega
        refine W.widen (k := M56.1 - M0.1) (n := 3000 * (M56.1 - M0.1)) (by omega) (by omega) ?_
        refine lv_dup hx hb dX6_init_59 rfl ?_
        obtain ⟨M60, e60, hf⟩ := zb hf
        obtain ⟨u60, r60, hf⟩ := zb hf
        obtain ⟨hq, h9⟩ := zcg_s r60
        refine zc_n hS (va_runIN (As := []) (rest := [.ref (b + M50.1), .int x1, .ref (b + v52)]) ⟨hx, hb, hml, hown, hts⟩ (k_X3_init l D cy b M56 M50.1  M60 e60) ⟨va_cnB 0 hts gX6_init_X3_init_n20 rfl rfl rfl (hK.2.1 _ (List.mem_of_getElem? (i := 2) rfl)) (hts (.initialized RX3) (List.mem_of_getElem? (i := 8) rfl)) (by decide +kernel) ⟨Nat.le_of_ble_eq_true rfl, Nat.le_of_ble_eq_true rfl⟩, rfl, (hts (.instanceMethod yX3_init) (List.mem_of_getElem? (i := 10) rfl))⟩ (zp_N _ hK hP hz) rfl rfl hl.1 rfl (lv_room (Nat.le_of_ble_eq_true rfl)) dX6_init_60 ⟨by show _ ≤ 13; omega, by show _ ≤ 39000; omega⟩) (fun H locs hP hz hS => ?_)
        have hn : M0.1 ≤ M60.1 := by omega
        have hu : M60.1 ≤ M0.1 + 13 := by omega
        refine W.widen (k := M60.1 - M0.1) (n := 3000 * (M60.1 - M0.1)) (by omega) (by omega) ?_
        obtain ⟨M63, e63, hf⟩ := zb hf
        refine zr_sa (t0 := 5) (r := (RX3, TX3, 3)) hx hb hK hP hS e63 (by decide) (by decide) rfl rfl dX6_init_63 (fun H locs hP hz1 hS => ?_)
        rw [hz] at hz1; have hz := hz1
        have hq := zsR_n e63
        rw [← hq] at hn hu hz
        refine W.widen (k := M63.1 - M0.1) (n := 3000 * (M63.1 - M0.1)) (by omega) (by omega) ?_
        obtain ⟨x1_64, q64, hf⟩ := zlt_s hf
        refine lv_iinc (v := x1_64) (lv' := [(1, .int x1_64), (0, .ref (b + h0))]) hx hb dX6_init_64 hl (k := 1) rfl (by rw [← q64]; rfl) (by decide) rfl (fun ls hl => ?_)
        refine lv_goto (tgt := 33) hx hb dX6_init_67 (by decide) ?_
        exact ih33 _ _ _ _ _ _ hf hP hz hS hn hu (lv_sub hl [1, 0] rfl)
  unfold fX6_init at hf
  refine lv_aload_n hx hb dX6_init_0 rfl (lv_at hl 0 rfl) ?_
  refine W.objInit hx hb hown (hts (.methodLink RX6 3 objectInit) (List.mem_of_getElem? (i := 1) rfl)) (hts (.instanceMethod objectInit) (List.mem_of_getElem? (i := 2) rfl)) (hts _ (List.mem_of_getElem? (i := 3) rfl)) rfl (by rw [hml]; exact hl.1) rfl dX6_init_1 (Nat.le_of_ble_eq_true rfl) (Nat.le_of_ble_eq_true rfl) ?_
  refine W.eq (g2 := F0 m 4 ls []) rfl ?_
  refine lv_aload_n hx hb dX6_init_4 rfl (lv_at hl 0 rfl) ?_
  refine lv_iconst (v := (5 : Int32)) hx hb dX6_init_5 (by decide) ?_
  obtain ⟨M6, e6, hf⟩ := zb hf
  refine zr_nq (t0 := 5) hx hb hown (hts (.classLink RX6 9 RX3) (List.mem_of_getElem? (i := 4) rfl)) (List.mem_of_getElem? (i := 2) rfl) hK hP hz hS e6 rfl (by decide) (zsL_max _) (fun h9 => by show _ ≤ 13; omega) (fun h9 => by show _ ≤ 39000; omega) dX6_init_6 (fun H hP hz hS hq h9 => ?_)
  have hn : M0.1 ≤ M6.1 := by omega
  have hu : M6.1 ≤ M0.1 + 13 := by omega
  refine W.widen (k := M6.1 - M0.1) (n := 3000 * (M6.1 - M0.1)) (by omega) (by omega) ?_
  obtain ⟨M9, e9, hf⟩ := zb hf
  refine zr_pr (ci := 6) (k := 0) (C := RX6) (T := TX6) (N := 4) hx hb hts hi_X6_init_6 tyX6 tyX6_ok nmX6 hown hK hP hS e9 rfl rfl (by decide) (by decide) (hts (.fieldLink RX6 11 "BoundaryAnalyzer$RuleBuilder" "alternatives" "[LBoundaryAnalyzer$Part;") (List.mem_of_getElem? (i := 5) rfl)) (Or.inr ⟨rfl, hin, rfl⟩) (tyX6_ok 0 (by decide)) rfl rfl dX6_init_9 (fun H locs hP hz1 hS => ?_)
  rw [hz] at hz1; have hz := hz1
  have hq := zpR_n e9
  rw [← hq] at hn hu hz
  refine W.widen (k := M9.1 - M0.1) (n := 3000 * (M9.1 - M0.1)) (by omega) (by omega) ?_
  refine lv_aload_n hx hb dX6_init_12 rfl (lv_at hl 0 rfl) ?_
  refine lv_iconst (v := (5 : Int32)) hx hb dX6_init_13 (by decide) ?_
  obtain ⟨M14, e14, hf⟩ := zb hf
  refine zr_nq (t0 := 5) hx hb hown (hts (.classLink RX6 9 RX3) (List.mem_of_getElem? (i := 4) rfl)) (List.mem_of_getElem? (i := 2) rfl) hK hP hz hS e14 rfl (by decide) (zsL_max _) (fun h9 => by show _ ≤ 13; omega) (fun h9 => by show _ ≤ 39000; omega) dX6_init_14 (fun H hP hz hS hq h9 => ?_)
  have hn : M0.1 ≤ M14.1 := by omega
  have hu : M14.1 ≤ M0.1 + 13 := by omega
  refine W.widen (k := M14.1 - M0.1) (n := 3000 * (M14.1 - M0.1)) (by omega) (by omega) ?_
  obtain ⟨M17, e17, hf⟩ := zb hf
  refine zr_pr (ci := 6) (k := 1) (C := RX6) (T := TX6) (N := 4) hx hb hts hi_X6_init_6 tyX6 tyX6_ok nmX6 hown hK hP hS e17 rfl rfl (by decide) (by decide) (hts (.fieldLink RX6 17 "BoundaryAnalyzer$RuleBuilder" "sequences" "[LBoundaryAnalyzer$Part;") (List.mem_of_getElem? (i := 6) rfl)) (Or.inr ⟨rfl, hin, rfl⟩) (tyX6_ok 1 (by decide)) rfl rfl dX6_init_17 (fun H locs hP hz1 hS => ?_)
  rw [hz] at hz1; have hz := hz1
  have hq := zpR_n e17
  rw [← hq] at hn hu hz
  refine W.widen (k := M17.1 - M0.1) (n := 3000 * (M17.1 - M0.1)) (by omega) (by omega) ?_
  refine lv_aload_n hx hb dX6_init_20 rfl (lv_at hl 0 rfl) ?_
  obtain ⟨M21, e21, hf⟩ := zb hf
  refine zr_no (ci := 3) (C := RX3) (T := TX3) (N := 3) hx hb hts hi_X6_init_3 tyX3 tyX3_ok hown (hts (.classLink RX6 9 RX3) (List.mem_of_getElem? (i := 4) rfl)) (hts (.instantiable RX3 3) (List.mem_of_getElem? (i := 7) rfl)) (hts (.initialized RX3) (List.mem_of_getElem? (i := 8) rfl)) hK hP hz hS e21 rfl (by decide) (fun j hj => by rcases (show j = 0 ∨ j = 1 ∨ j = 2 by omega) with rfl | rfl | rfl <;> rfl) (fun h9 => by show _ ≤ 13; omega) (fun h9 => by show _ ≤ 39000; omega) dX6_init_21 (fun H hP hz hS hq h9 => ?_)
  have hn : M0.1 ≤ M21.1 := by omega
  have hu : M21.1 ≤ M0.1 + 13 := by omega
  refine W.widen (k := M21.1 - M0.1) (n := 3000 * (M21.1 - M0.1)) (by omega) (by omega) ?_
  refine lv_dup hx hb dX6_init_24 rfl ?_
  obtain ⟨M25, e25, hf⟩ := zb hf
  obtain ⟨u25, r25, hf⟩ := zb hf
  obtain ⟨hq, h9⟩ := zcg_s r25
  refine zc_n hS (va_runIN (As := []) (rest := [.ref (b + M17.1), .ref (b + h0)]) ⟨hx, hb, hml, hown, hts⟩ (k_X3_init l D cy b M21 M17.1  M25 e25) ⟨va_cnB 0 hts gX6_init_X3_init_n20 rfl rfl rfl (hK.2.1 _ (List.mem_of_getElem? (i := 2) rfl)) (hts (.initialized RX3) (List.mem_of_getElem? (i := 8) rfl)) (by decide +kernel) ⟨Nat.le_of_ble_eq_true rfl, Nat.le_of_ble_eq_true rfl⟩, rfl, (hts (.instanceMethod yX3_init) (List.mem_of_getElem? (i := 10) rfl))⟩ (zp_N _ hK hP hz) rfl rfl hl.1 rfl (lv_room (Nat.le_of_ble_eq_true rfl)) dX6_init_25 ⟨by show _ ≤ 13; omega, by show _ ≤ 39000; omega⟩) (fun H locs hP hz hS => ?_)
  have hn : M0.1 ≤ M25.1 := by omega
  have hu : M25.1 ≤ M0.1 + 13 := by omega
  refine W.widen (k := M25.1 - M0.1) (n := 3000 * (M25.1 - M0.1)) (by omega) (by omega) ?_
  obtain ⟨M28, e28, hf⟩ := zb hf
  refine zr_pr (ci := 6) (k := 2) (C := RX6) (T := TX6) (N := 4) hx hb hts hi_X6_init_6 tyX6 tyX6_ok nmX6 hown hK hP hS e28 rfl rfl (by decide) (by decide) (hts (.fieldLink RX6 21 "BoundaryAnalyzer$RuleBuilder" "item" "LBoundaryAnalyzer$Part;") (List.mem_of_getElem? (i := 9) rfl)) (Or.inr ⟨rfl, hin, rfl⟩) (tyX6_ok 2 (by decide)) rfl rfl dX6_init_28 (fun H locs hP hz1 hS => ?_)
  rw [hz] at hz1; have hz := hz1
  have hq := zpR_n e28
  rw [← hq] at hn hu hz
  refine W.widen (k := M28.1 - M0.1) (n := 3000 * (M28.1 - M0.1)) (by omega) (by omega) ?_
  refine lv_iconst (v := (0 : Int32)) hx hb dX6_init_31 (by decide) ?_
  refine lv_istore_n (lv' := [(1, .int (0 : Int32)), (0, .ref (b + h0))]) hx hb dX6_init_32 rfl hl (by decide) rfl (fun ls hl => ?_)
  exact L33 _ _ _ _ _ _ _ hf hP hz hS hn hu (lv_sub hl [1, 0] rfl)
