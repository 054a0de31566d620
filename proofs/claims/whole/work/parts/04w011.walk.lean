theorem hi_X2_measure_2 : ∀ w ∈ wsX20, w ∈ wsX2_measure := fun _ h => List.mem_cons_of_mem _ (List.mem_append_left _ (List.mem_append_left _ (List.mem_append_left _ (List.mem_append_left _ (List.mem_append_right _ h)))))
theorem hi_X2_measure_5 : ∀ w ∈ wsX50, w ∈ wsX2_measure := fun _ h => List.mem_cons_of_mem _ (List.mem_append_left _ (List.mem_append_left _ (List.mem_append_left _ (List.mem_append_right _ h))))
set_option maxHeartbeats 4000000 in
set_option maxRecDepth 100000 in
theorem k_X2_measure (l : Launch) (D : va_G) (cy : Nat → ClassId) (b : Nat) (M0 : Mem) (p0 : Nat) (p1 : Nat) (p2 : Int32) (rr : Mem) (hf : fX2_measure M0 p0 p1 p2 = some rr) : Met l yX2_measure wsX2_measure ({ frames := 3, cells := 0, slots := 0, locals := 92 } : Room) (zPc D cy b M0 [.ref (b + p0), .ref (b + p1), .int p2]) (zQv D cy b rr) 0 0 (zA b) := by
  refine Met.ofW (cc := cX2_measure) (maxL := 5) (ret := none) (by decide) rfl ?_
  intro p e s m args below meth c s₁ B hml hv
  obtain ⟨rfl, hP, hK⟩ := hv
  have hx := B.exec
  have hb := B.bytes
  have hr := B.returns
  have hts := atoms_spec (ws := wsX2_measure) B.pre
  have hown : s.vm.findClass RX2 = some m.cls := findClass_of_methodNamed B.named
  have hlocks := B.notSynchronized
  have hS : va_S (zA b) s.heap s.heap [] := va_S.rf
  have hl := lv_entry ([.ref (b + p0), .ref (b + p1), .int p2]) (n := 5) (Nat.le_of_ble_eq_true rfl)
  rw [lg_entry_eq]
  generalize (lg_sl ([.ref (b + p0), .ref (b + p1), .int p2]) ++ List.replicate (5 - (lg_sl ([.ref (b + p0), .ref (b + p1), .int p2])).length) Slot.unset).toArray = ls at hl ⊢
  have hl : lv_has ls 5 [(0, .ref (b + p0)), (1, .ref (b + p1)), (2, .int p2)] := hl
  have L12 : ∀ (n12 : Nat) (M : Mem) (H : Heap) (locs : List Loc) (ls : Array Slot) (h0 : Nat) (h1 : Nat) (x2 : Int32) (x3 : Int32), fX2_measure_12L  n12 M h0 h1 x2 x3 = some rr → zH D cy b M H → va_S (zA b) s.heap H locs → lv_has ls 5 [(0, .ref (b + h0)), (1, .ref (b + h1)), (2, .int x2), (3, .int x3)] → W p l e (headSpec wsX2_measure ({ frames := 3, cells := 0, slots := 0, locals := 92 } : Room)).room s m ([.ref (b + p0), .ref (b + p1), .int p2] : List Value).toArray below meth c H locs 0 0 (MQ below (zQv D cy b rr) ([.ref (b + p0), .ref (b + p1), .int p2] : List Value).toArray s 0 0 (zA b)) (F0 m 12 ls []) := by
    intro n12
    induction n12 with
    | zero =>
      intro M H locs ls h0 h1 x2 x3 hf
      have hf : (none : Option Mem) = some rr := hf
      cases hf
    | succ n12 ih12 =>
      have J72 : ∀ (M : Mem) (H : Heap) (locs : List Loc) (ls : Array Slot) (h0 : Nat) (h1 : Nat) (x2 : Int32) (x3 : Int32), fX2_measure_72 (fX2_measure_12L  n12) M h0 h1 x2 x3 = some rr → zH D cy b M H → va_S (zA b) s.heap H locs → lv_has ls 5 [(0, .ref (b + h0)), (1, .ref (b + h1)), (2, .int x2), (3, .int x3)] → W p l e (headSpec wsX2_measure ({ frames := 3, cells := 0, slots := 0, locals := 92 } : Room)).room s m ([.ref (b + p0), .ref (b + p1), .int p2] : List Value).toArray below meth c H locs 0 0 (MQ below (zQv D cy b rr) ([.ref (b + p0), .ref (b + p1), .int p2] : List Value).toArray s 0 0 (zA b)) (F0 m 72 ls []) := by
        intro M H locs ls h0 h1 x2 x3 hf hP hS hl
        unfold fX2_measure_72 at hf
        obtain ⟨x3_72, q72, hf⟩ := zlt_s hf
        refine lv_iinc (v := x3_72) (lv' := [(3, .int x3_72), (0, .ref (b + h0)), (1, .ref (b + h1)), (2, .int x2)]) hx hb dX2_measure_72 hl (k := 3) rfl (by rw [← q72]; rfl) (by decide) rfl (fun ls hl => ?_)
        refine lv_goto (tgt := 12) hx hb dX2_measure_75 (by decide) ?_
        exact ih12 _ _ _ _ _ _ _ _ hf hP hS (lv_sub hl [1, 2, 3, 0] rfl)
      intro M H locs ls h0 h1 x2 x3 hf hP hS hl
      have hf : fX2_measure_12  (fX2_measure_12L  n12) M h0 h1 x2 x3 = some rr := hf
      unfold fX2_measure_12 at hf
      refine lv_iload_n hx hb dX2_measure_12 rfl (lv_at hl 3 rfl) ?_
      refine lv_iconst (v := (5 : Int32)) hx hb dX2_measure_13 (by decide) ?_
      refine lv_icmp_ge (tgt := 78) hx hb dX2_measure_14 (by decide) (fun c14 => ?_) (fun c14 => ?_)
      · have hf := (if_pos c14).symm.trans hf
        exact zret_v hx hb hr hlocks hf hP hS dX2_measure_78
      · have hf := (if_neg c14).symm.trans hf
        refine lv_aload_n hx hb dX2_measure_17 rfl (lv_at hl 0 rfl) ?_
        obtain ⟨v18, e18, hf⟩ := zb hf
        refine zr_gr (ci := 2) (k := 0) (C := RX2) (T := TX2) (N := 5) hx hb hts hi_X2_measure_2 hown hK hP e18 rfl rfl (by decide) (by decide) (hts (.fieldLink RX2 11 "BoundaryAnalyzer$Kind" "rules" "[LBoundaryAnalyzer$Rule;") (List.mem_of_getElem? (i := 3) rfl)) dX2_measure_18 ?_
        refine lv_iload_n hx hb dX2_measure_21 rfl (lv_at hl 3 rfl) ?_
        obtain ⟨v22, e22, hf⟩ := zb hf
        refine zr_aa (t0 := 7) hx hb hK hP e22 (by decide) rfl dX2_measure_22 ?_
        refine lv_astore (lv' := [(4, .ref (b + v22)), (0, .ref (b + h0)), (1, .ref (b + h1)), (2, .int x2), (3, .int x3)]) hx hb dX2_measure_23 hl (by decide) rfl (fun ls hl => ?_)
        refine lv_aload hx hb dX2_measure_25 (lv_at hl 0 rfl) ?_
        obtain ⟨u27, t27, hf⟩ := zb hf
        obtain ⟨r27, e27, hf⟩ := zb hf
        refine zc_i hS (va_runV (As := []) (rest := []) ⟨hx, hb, hml, hown, hts⟩ (k_X5_isSet l D cy b M v22  r27 e27) (cwV 0 hts gX2_measure_X5_isSet rfl rfl rfl (by decide +kernel) ⟨Nat.le_of_ble_eq_true rfl, Nat.le_of_ble_eq_true rfl⟩) (zp_V _ hK hP t27 (T := TX5) (N := 9) rfl (by decide)) rfl rfl hl.1 rfl (lv_room (Nat.le_of_ble_eq_true rfl)) dX2_measure_27 ⟨Nat.zero_le _, Nat.zero_le _⟩) (fun H locs hP hS => ?_)
        refine lv_if_eq (tgt := 72) hx hb dX2_measure_30 (by decide) (fun c30 => ?_) (fun c30 => ?_)
        · have hf := (if_pos c30).symm.trans hf
          exact J72 _ _ _ _ _ _ _ _ hf hP hS (lv_sub hl [1, 2, 3, 4] rfl)
        · have hf := (if_neg c30).symm.trans hf
          refine lv_aload hx hb dX2_measure_33 (lv_at hl 0 rfl) ?_
          refine lv_aload_n hx hb dX2_measure_35 rfl (lv_at hl 2 rfl) ?_
          refine lv_iload_n hx hb dX2_measure_36 rfl (lv_at hl 3 rfl) ?_
          obtain ⟨u37, t37, hf⟩ := zb hf
          obtain ⟨M37, e37, hf⟩ := zb hf
          refine zc_v hS (va_runV (As := [.ref (b + h1), .int x2]) (rest := []) ⟨hx, hb, hml, hown, hts⟩ (k_X5_walk l D cy b r27.2 v22 h1 x2 M37 e37) (cwV 2 hts gX2_measure_X5_walk rfl rfl rfl (by decide +kernel) ⟨Nat.le_of_ble_eq_true rfl, Nat.le_of_ble_eq_true rfl⟩) (zp_V _ hK hP t37 (T := TX5) (N := 9) rfl (by decide)) rfl rfl hl.1 rfl (lv_room (Nat.le_of_ble_eq_true rfl)) dX2_measure_37 ⟨Nat.zero_le _, Nat.zero_le _⟩) (fun H locs hP hS => ?_)
          refine lv_aload_n hx hb dX2_measure_40 rfl (lv_at hl 1 rfl) ?_
          refine lv_aload_n hx hb dX2_measure_41 rfl (lv_at hl 1 rfl) ?_
          obtain ⟨v42, e42, hf⟩ := zb hf
          refine zr_gi (ci := 2) (k := 3) (C := RX2) (T := TX2) (N := 5) hx hb hts hi_X2_measure_2 hown hK hP e42 rfl rfl (by decide) (by decide) (hts (.fieldLink RX2 22 "BoundaryAnalyzer$Kind" "length" "I") (List.mem_of_getElem? (i := 1) rfl)) dX2_measure_42 ?_
          refine lv_aload hx hb dX2_measure_45 (lv_at hl 0 rfl) ?_
          obtain ⟨v47, e47, hf⟩ := zb hf
          refine zr_gi (ci := 5) (k := 7) (C := RX5) (T := TX5) (N := 9) hx hb hts hi_X2_measure_5 hown hK hP e47 rfl rfl (by decide) (by decide) (hts (.fieldLink RX2 37 "BoundaryAnalyzer$Rule" "matched" "I") (List.mem_of_getElem? (i := 4) rfl)) dX2_measure_47 ?_
          refine va_mmax hx hb (by rw [hml]; exact hl.1.symm) hown (hts (.methodLink RX2 40 Lib.Math.max.name) (List.mem_of_getElem? (i := 5) rfl)) (hts (.static Lib.Math.max.name) (List.mem_of_getElem? (i := 6) rfl)) (hts (.initialized "java/lang/Math") (List.mem_of_getElem? (i := 7) rfl)) (hts _ (List.mem_of_getElem? (i := 8) rfl)) (Nat.le_of_ble_eq_true rfl) (Nat.le_of_ble_eq_true rfl) (Nat.zero_le _) (Nat.zero_le _) dX2_measure_50 ?_
          obtain ⟨M53, e53, hf⟩ := zb hf
          refine zr_pi (ci := 2) (k := 3) (C := RX2) (T := TX2) (N := 5) hx hb hts hi_X2_measure_2 tyX2 tyX2_ok nmX2 hown hK hP hS e53 rfl rfl (by decide) (by decide) (hts (.fieldLink RX2 22 "BoundaryAnalyzer$Kind" "length" "I") (List.mem_of_getElem? (i := 1) rfl)) rfl (tyX2_ok 3 (by decide)) dX2_measure_53 (fun H locs hP _ hS => ?_)
          refine lv_aload_n hx hb dX2_measure_56 rfl (lv_at hl 1 rfl) ?_
          refine lv_aload_n hx hb dX2_measure_57 rfl (lv_at hl 1 rfl) ?_
          obtain ⟨v58, e58, hf⟩ := zb hf
          refine zr_gi (ci := 2) (k := 4) (C := RX2) (T := TX2) (N := 5) hx hb hts hi_X2_measure_2 hown hK hP e58 rfl rfl (by decide) (by decide) (hts (.fieldLink RX2 26 "BoundaryAnalyzer$Kind" "looked" "I") (List.mem_of_getElem? (i := 2) rfl)) dX2_measure_58 ?_
          refine lv_aload hx hb dX2_measure_61 (lv_at hl 0 rfl) ?_
          obtain ⟨v63, e63, hf⟩ := zb hf
          refine zr_gi (ci := 5) (k := 8) (C := RX5) (T := TX5) (N := 9) hx hb hts hi_X2_measure_5 hown hK hP e63 rfl rfl (by decide) (by decide) (hts (.fieldLink RX2 46 "BoundaryAnalyzer$Rule" "looked" "I") (List.mem_of_getElem? (i := 9) rfl)) dX2_measure_63 ?_
          refine va_mmax hx hb (by rw [hml]; exact hl.1.symm) hown (hts (.methodLink RX2 40 Lib.Math.max.name) (List.mem_of_getElem? (i := 5) rfl)) (hts (.static Lib.Math.max.name) (List.mem_of_getElem? (i := 6) rfl)) (hts (.initialized "java/lang/Math") (List.mem_of_getElem? (i := 7) rfl)) (hts _ (List.mem_of_getElem? (i := 8) rfl)) (Nat.le_of_ble_eq_true rfl) (Nat.le_of_ble_eq_true rfl) (Nat.zero_le _) (Nat.zero_le _) dX2_measure_66 ?_
          obtain ⟨M69, e69, hf⟩ := zb hf
          refine zr_pi (ci := 2) (k := 4) (C := RX2) (T := TX2) (N := 5) hx hb hts hi_X2_measure_2 tyX2 tyX2_ok nmX2 hown hK hP hS e69 rfl rfl (by decide) (by decide) (hts (.fieldLink RX2 26 "BoundaryAnalyzer$Kind" "looked" "I") (List.mem_of_getElem? (i := 2) rfl)) rfl (tyX2_ok 4 (by decide)) dX2_measure_69 (fun H locs hP _ hS => ?_)
          exact J72 _ _ _ _ _ _ _ _ hf hP hS (lv_sub hl [1, 2, 3, 4] rfl)
  unfold fX2_measure at hf
  refine lv_aload_n hx hb dX2_measure_0 rfl (lv_at hl 0 rfl) ?_
  refine lv_iconst (v := (1 : Int32)) hx hb dX2_measure_1 (by decide) ?_
  obtain ⟨M2, e2, hf⟩ := zb hf
  refine zr_pi (ci := 2) (k := 3) (C := RX2) (T := TX2) (N := 5) hx hb hts hi_X2_measure_2 tyX2 tyX2_ok nmX2 hown hK hP hS e2 rfl rfl (by decide) (by decide) (hts (.fieldLink RX2 22 "BoundaryAnalyzer$Kind" "length" "I") (List.mem_of_getElem? (i := 1) rfl)) rfl (tyX2_ok 3 (by decide)) dX2_measure_2 (fun H locs hP _ hS => ?_)
  refine lv_aload_n hx hb dX2_measure_5 rfl (lv_at hl 0 rfl) ?_
  refine lv_iconst (v := (1 : Int32)) hx hb dX2_measure_6 (by decide) ?_
  obtain ⟨M7, e7, hf⟩ := zb hf
  refine zr_pi (ci := 2) (k := 4) (C := RX2) (T := TX2) (N := 5) hx hb hts hi_X2_measure_2 tyX2 tyX2_ok nmX2 hown hK hP hS e7 rfl rfl (by decide) (by decide) (hts (.fieldLink RX2 26 "BoundaryAnalyzer$Kind" "looked" "I") (List.mem_of_getElem? (i := 2) rfl)) rfl (tyX2_ok 4 (by decide)) dX2_measure_7 (fun H locs hP _ hS => ?_)
  refine lv_iconst (v := (0 : Int32)) hx hb dX2_measure_10 (by decide) ?_
  refine lv_istore_n (lv' := [(3, .int (0 : Int32)), (0, .ref (b + p0)), (1, .ref (b + p1)), (2, .int p2)]) hx hb dX2_measure_11 rfl hl (by decide) rfl (fun ls hl => ?_)
  exact L12 _ _ _ _ _ _ _ _ _ hf hP hS (lv_sub hl [1, 2, 3, 0] rfl)
theorem hi_X2_firstTouched_2 : ∀ w ∈ wsX20, w ∈ wsX2_firstTouched := fun _ h => List.mem_cons_of_mem _ (List.mem_append_right _ h)
set_option maxHeartbeats 4000000 in
set_option maxRecDepth 100000 in
theorem k_X2_firstTouched (l : Launch) (D : va_G) (cy : Nat → ClassId) (b : Nat) (M0 : Mem) (p0 : Nat) (p1 : Int32) (p2 : Int32) (rr : Int32 × Mem) (hf : fX2_firstTouched M0 p0 p1 p2 = some rr) : Met l yX2_firstTouched wsX2_firstTouched ({ frames := 0, cells := 0, slots := 0, locals := 0 } : Room) (zPc D cy b M0 [.ref (b + p0), .int p1, .int p2]) (zQi D cy b rr) 0 0 (zA b) := by
  refine Met.ofW (cc := cX2_firstTouched) (maxL := 4) (ret := (some .int)) (by decide) rfl ?_
  intro p e s m args below meth c s₁ B hml hv
  obtain ⟨rfl, hP, hK⟩ := hv
  have hx := B.exec
  have hb := B.bytes
  have hr := B.returns
  have hts := atoms_spec (ws := wsX2_firstTouched) B.pre
  have hown : s.vm.findClass RX2 = some m.cls := findClass_of_methodNamed B.named
  have hlocks := B.notSynchronized
  have hS : va_S (zA b) s.heap s.heap [] := va_S.rf
  have hl := lv_entry ([.ref (b + p0), .int p1, .int p2]) (n := 4) (Nat.le_of_ble_eq_true rfl)
  rw [lg_entry_eq]
  generalize (lg_sl ([.ref (b + p0), .int p1, .int p2]) ++ List.replicate (4 - (lg_sl ([.ref (b + p0), .int p1, .int p2])).length) Slot.unset).toArray = ls at hl ⊢
  have hl : lv_has ls 4 [(0, .ref (b + p0)), (1, .int p1), (2, .int p2)] := hl
  have L2 : ∀ (n2 : Nat) (M : Mem) (H : Heap) (locs : List Loc) (ls : Array Slot) (h0 : Nat) (x1 : Int32) (x2 : Int32) (x3 : Int32), fX2_firstTouched_2L  n2 M h0 x1 x2 x3 = some rr → zH D cy b M H → va_S (zA b) s.heap H locs → lv_has ls 4 [(0, .ref (b + h0)), (1, .int x1), (2, .int x2), (3, .int x3)] → W p l e (headSpec wsX2_firstTouched ({ frames := 0, cells := 0, slots := 0, locals := 0 } : Room)).room s m ([.ref (b + p0), .int p1, .int p2] : List Value).toArray below meth c H locs 0 0 (MQ below (zQi D cy b rr) ([.ref (b + p0), .int p1, .int p2] : List Value).toArray s 0 0 (zA b)) (F0 m 2 ls []) := by
    intro n2
    induction n2 with
    | zero =>
      intro M H locs ls h0 x1 x2 x3 hf
      have hf : (none : Option (Int32 × Mem)) = some rr := hf
      cases hf
    | succ n2 ih2 =>
      have J39 : ∀ (M : Mem) (H : Heap) (locs : List Loc) (ls : Array Slot) (h0 : Nat) (x1 : Int32) (x2 : Int32) (x3 : Int32), fX2_firstTouched_39 (fX2_firstTouched_2L  n2) M h0 x1 x2 x3 = some rr → zH D cy b M H → va_S (zA b) s.heap H locs → lv_has ls 4 [(0, .ref (b + h0)), (1, .int x1), (2, .int x2), (3, .int x3)] → W p l e (headSpec wsX2_firstTouched ({ frames := 0, cells := 0, slots := 0, locals := 0 } : Room)).room s m ([.ref (b + p0), .int p1, .int p2] : List Value).toArray below meth c H locs 0 0 (MQ below (zQi D cy b rr) ([.ref (b + p0), .int p1, .int p2] : List Value).toArray s 0 0 (zA b)) (F0 m 39 ls []) := by
        intro M H locs ls h0 x1 x2 x3 hf hP hS hl
        unfold fX2_firstTouched_39 at hf
        obtain ⟨x3_39, q39, hf⟩ := zlt_s hf
        refine lv_iinc (v := x3_39) (lv' := [(3, .int x3_39), (0, .ref (b + h0)), (1, .int x1), (2, .int x2)]) hx hb dX2_firstTouched_39 hl (k := 3) rfl (by rw [← q39]; rfl) (by decide) rfl (fun ls hl => ?_)
        refine lv_goto (tgt := 2) hx hb dX2_firstTouched_42 (by decide) ?_
        exact ih2 _ _ _ _ _ _ _ _ hf hP hS (lv_sub hl [1, 2, 3, 0] rfl)
      intro M H locs ls h0 x1 x2 x3 hf hP hS hl
      have hf : fX2_firstTouched_2  (fX2_firstTouched_2L  n2) M h0 x1 x2 x3 = some rr := hf
      unfold fX2_firstTouched_2 at hf
      refine lv_iload_n hx hb dX2_firstTouched_2 rfl (lv_at hl 3 rfl) ?_
      refine lv_iload_n hx hb dX2_firstTouched_3 rfl (lv_at hl 2 rfl) ?_
      refine lv_icmp_ge (tgt := 45) hx hb dX2_firstTouched_4 (by decide) (fun c4 => ?_) (fun c4 => ?_)
      · have hf := (if_pos c4).symm.trans hf
        refine lv_iload_n hx hb dX2_firstTouched_45 rfl (lv_at hl 2 rfl) ?_
        exact zret_i hx hb hr hlocks hf hP hS dX2_firstTouched_46
      · have hf := (if_neg c4).symm.trans hf
        refine lv_iload_n hx hb dX2_firstTouched_7 rfl (lv_at hl 3 rfl) ?_
        refine lv_aload_n hx hb dX2_firstTouched_8 rfl (lv_at hl 0 rfl) ?_
        obtain ⟨v9, e9, hf⟩ := zb hf
        refine zr_gr (ci := 2) (k := 1) (C := RX2) (T := TX2) (N := 5) hx hb hts hi_X2_firstTouched_2 hown hK hP e9 rfl rfl (by decide) (by decide) (hts (.fieldLink RX2 17 "BoundaryAnalyzer$Kind" "looks" "[I") (List.mem_of_getElem? (i := 1) rfl)) dX2_firstTouched_9 ?_
        obtain ⟨v12, e12, hf⟩ := zb hf
        refine zr_al (t0 := 1) hx hb hK hP e12 (by decide) rfl dX2_firstTouched_12 ?_
        refine lv_icmp_ge (tgt := 45) hx hb dX2_firstTouched_13 (by decide) (fun c13 => ?_) (fun c13 => ?_)
        · have hf := (if_pos c13).symm.trans hf
          refine lv_iload_n hx hb dX2_firstTouched_45 rfl (lv_at hl 2 rfl) ?_
          exact zret_i hx hb hr hlocks hf hP hS dX2_firstTouched_46
        · have hf := (if_neg c13).symm.trans hf
          refine lv_aload_n hx hb dX2_firstTouched_16 rfl (lv_at hl 0 rfl) ?_
          obtain ⟨v17, e17, hf⟩ := zb hf
          refine zr_gr (ci := 2) (k := 1) (C := RX2) (T := TX2) (N := 5) hx hb hts hi_X2_firstTouched_2 hown hK hP e17 rfl rfl (by decide) (by decide) (hts (.fieldLink RX2 17 "BoundaryAnalyzer$Kind" "looks" "[I") (List.mem_of_getElem? (i := 1) rfl)) dX2_firstTouched_17 ?_
          refine lv_iload_n hx hb dX2_firstTouched_20 rfl (lv_at hl 3 rfl) ?_
          obtain ⟨v21, e21, hf⟩ := zb hf
          refine zr_ai hx hb hK hP e21 dX2_firstTouched_21 ?_
          refine lv_if_le (tgt := 39) hx hb dX2_firstTouched_22 (by decide) (fun c22 => ?_) (fun c22 => ?_)
          · have hf := (if_pos c22).symm.trans hf
            exact J39 _ _ _ _ _ _ _ _ hf hP hS (lv_sub hl [0, 1, 2, 3] rfl)
          · have hf := (if_neg c22).symm.trans hf
            refine lv_iload_n hx hb dX2_firstTouched_25 rfl (lv_at hl 3 rfl) ?_
            refine lv_aload_n hx hb dX2_firstTouched_26 rfl (lv_at hl 0 rfl) ?_
            obtain ⟨v27, e27, hf⟩ := zb hf
            refine zr_gr (ci := 2) (k := 1) (C := RX2) (T := TX2) (N := 5) hx hb hts hi_X2_firstTouched_2 hown hK hP e27 rfl rfl (by decide) (by decide) (hts (.fieldLink RX2 17 "BoundaryAnalyzer$Kind" "looks" "[I") (List.mem_of_getElem? (i := 1) rfl)) dX2_firstTouched_27 ?_
            refine lv_iload_n hx hb dX2_firstTouched_30 rfl (lv_at hl 3 rfl) ?_
            obtain ⟨v31, e31, hf⟩ := zb hf
            refine zr_ai hx hb hK hP e31 dX2_firstTouched_31 ?_
            refine lv_iadd hx hb dX2_firstTouched_32 ?_
            refine lv_iload_n hx hb dX2_firstTouched_33 rfl (lv_at hl 1 rfl) ?_
            refine lv_icmp_le (tgt := 39) hx hb dX2_firstTouched_34 (by decide) (fun c34 => ?_) (fun c34 => ?_)
            · have hf := (if_pos c34).symm.trans hf
              exact J39 _ _ _ _ _ _ _ _ hf hP hS (lv_sub hl [0, 1, 2, 3] rfl)
            · have hf := (if_neg c34).symm.trans hf
              refine lv_iload_n hx hb dX2_firstTouched_37 rfl (lv_at hl 3 rfl) ?_
              exact zret_i hx hb hr hlocks hf hP hS dX2_firstTouched_38
  unfold fX2_firstTouched at hf
  refine lv_iconst (v := (0 : Int32)) hx hb dX2_firstTouched_0 (by decide) ?_
  refine lv_istore_n (lv' := [(3, .int (0 : Int32)), (0, .ref (b + p0)), (1, .int p1), (2, .int p2)]) hx hb dX2_firstTouched_1 rfl hl (by decide) rfl (fun ls hl => ?_)
  exact L2 _ _ _ _ _ _ _ _ _ hf hP hS (lv_sub hl [1, 2, 3, 0] rfl)
