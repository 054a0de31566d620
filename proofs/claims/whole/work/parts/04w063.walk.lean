theorem hi_X9_redo_9 : ∀ w ∈ wsX90, w ∈ wsX9_redo := fun _ h => List.mem_cons_of_mem _ (List.mem_append_right _ h)
set_option maxHeartbeats 4000000 in
set_option maxRecDepth 100000 in
theorem k_X9_redo (l : Launch) (D : va_G) (cy : Nat → ClassId) (b : Nat) (M0 : Mem) (p0 : Nat) (rr : Int32 × Mem) (hf : fX9_redo M0 p0 = some rr) : Met l yX9_redo wsX9_redo ({ frames := 8, cells := 0, slots := 0, locals := 199 } : Room) (zPc D cy b M0 [.ref (b + p0)]) (zQi D cy b rr) 0 0 (zA b) := by
  refine Met.ofW (cc := cX9_redo) (maxL := 4) (ret := (some .int)) (by decide) rfl ?_
  intro p e s m args below meth c s₁ B hml hv
  obtain ⟨rfl, hP, hK⟩ := hv
  have hx := B.exec
  have hb := B.bytes
  have hr := B.returns
  have hts := atoms_spec (ws := wsX9_redo) B.pre
  have hown : s.vm.findClass RX9 = some m.cls := findClass_of_methodNamed B.named
  have hlocks := B.notSynchronized
  have hS : va_S (zA b) s.heap s.heap [] := va_S.rf
  have hl := lv_entry ([.ref (b + p0)]) (n := 4) (Nat.le_of_ble_eq_true rfl)
  rw [lg_entry_eq]
  generalize (lg_sl ([.ref (b + p0)]) ++ List.replicate (4 - (lg_sl ([.ref (b + p0)])).length) Slot.unset).toArray = ls at hl ⊢
  have hl : lv_has ls 4 [(0, .ref (b + p0))] := hl
  have L34 : ∀ (n34 : Nat) (M : Mem) (H : Heap) (locs : List Loc) (ls : Array Slot) (h0 : Nat) (x1 : Int32) (x2 : Int32) (x3 : Int32), fX9_redo_34L  n34 M h0 x1 x2 x3 = some rr → zH D cy b M H → va_S (zA b) s.heap H locs → lv_has ls 4 [(0, .ref (b + h0)), (1, .int x1), (2, .int x2), (3, .int x3)] → W p l e (headSpec wsX9_redo ({ frames := 8, cells := 0, slots := 0, locals := 199 } : Room)).room s m ([.ref (b + p0)] : List Value).toArray below meth c H locs 0 0 (MQ below (zQi D cy b rr) ([.ref (b + p0)] : List Value).toArray s 0 0 (zA b)) (F0 m 34 ls []) := by
    intro n34
    induction n34 with
    | zero =>
      intro M H locs ls h0 x1 x2 x3 hf
      have hf : (none : Option (Int32 × Mem)) = some rr := hf
      cases hf
    | succ n34 ih34 =>
      intro M H locs ls h0 x1 x2 x3 hf hP hS hl
      have hf : fX9_redo_34  (fX9_redo_34L  n34) M h0 x1 x2 x3 = some rr := hf
      unfold fX9_redo_34 at hf
      refine lv_iload_n hx hb dX9_redo_34 rfl (lv_at hl 3 rfl) ?_
      refine lv_iload_n hx hb dX9_redo_35 rfl (lv_at hl 2 rfl) ?_
      refine lv_icmp_ge (tgt := 62) hx hb dX9_redo_36 (by decide) (fun c36 => ?_) (fun c36 => ?_)
      · have hf := (if_pos c36).symm.trans hf
        refine lv_aload_n hx hb dX9_redo_62 rfl (lv_at hl 0 rfl) ?_
        refine lv_aload_n hx hb dX9_redo_63 rfl (lv_at hl 0 rfl) ?_
        obtain ⟨v64, e64, hf⟩ := zb hf
        refine zr_gr (ci := 9) (k := 45) (C := RX9) (T := TX9) (N := 54) hx hb hts hi_X9_redo_9 hown hK hP e64 rfl rfl (by decide) (by decide) (hts (.fieldLink RX9 111 "BoundaryAnalyzerModel" "redoPuts" "[Z") (List.mem_of_getElem? (i := 5) rfl)) dX9_redo_64 ?_
        refine lv_iload_n hx hb dX9_redo_67 rfl (lv_at hl 1 rfl) ?_
        obtain ⟨v68, e68, hf⟩ := zb hf
        refine zr_az hx hb hK hP e68 dX9_redo_68 ?_
        refine lv_aload_n hx hb dX9_redo_69 rfl (lv_at hl 0 rfl) ?_
        obtain ⟨v70, e70, hf⟩ := zb hf
        refine zr_gr (ci := 9) (k := 46) (C := RX9) (T := TX9) (N := 54) hx hb hts hi_X9_redo_9 hown hK hP e70 rfl rfl (by decide) (by decide) (hts (.fieldLink RX9 114 "BoundaryAnalyzerModel" "redoAt" "[I") (List.mem_of_getElem? (i := 6) rfl)) dX9_redo_70 ?_
        refine lv_iload_n hx hb dX9_redo_73 rfl (lv_at hl 1 rfl) ?_
        obtain ⟨v74, e74, hf⟩ := zb hf
        refine zr_ai hx hb hK hP e74 dX9_redo_74 ?_
        refine lv_iload_n hx hb dX9_redo_75 rfl (lv_at hl 2 rfl) ?_
        obtain ⟨u76, t76, hf⟩ := zb hf
        obtain ⟨M76, e76, hf⟩ := zb hf
        refine zc_v hS (va_runV (As := [.int v68, .int v74, .int x2]) (rest := []) ⟨hx, hb, hml, hown, hts⟩ (k_X9_remember l D cy b M h0 v68 v74 x2 M76 e76) (cwV 3 hts gX9_redo_X9_remember rfl rfl rfl (by decide +kernel) ⟨Nat.le_of_ble_eq_true rfl, Nat.le_of_ble_eq_true rfl⟩) (zp_V _ hK hP t76 (T := TX9) (N := 54) rfl (by decide)) rfl rfl hl.1 rfl (lv_room (Nat.le_of_ble_eq_true rfl)) dX9_redo_76 ⟨Nat.zero_le _, Nat.zero_le _⟩) (fun H locs hP hS => ?_)
        refine lv_aload_n hx hb dX9_redo_79 rfl (lv_at hl 0 rfl) ?_
        refine lv_aload_n hx hb dX9_redo_80 rfl (lv_at hl 0 rfl) ?_
        obtain ⟨v81, e81, hf⟩ := zb hf
        refine zr_gr (ci := 9) (k := 45) (C := RX9) (T := TX9) (N := 54) hx hb hts hi_X9_redo_9 hown hK hP e81 rfl rfl (by decide) (by decide) (hts (.fieldLink RX9 111 "BoundaryAnalyzerModel" "redoPuts" "[Z") (List.mem_of_getElem? (i := 5) rfl)) dX9_redo_81 ?_
        refine lv_iload_n hx hb dX9_redo_84 rfl (lv_at hl 1 rfl) ?_
        obtain ⟨v85, e85, hf⟩ := zb hf
        refine zr_az hx hb hK hP e85 dX9_redo_85 ?_
        refine lv_aload_n hx hb dX9_redo_86 rfl (lv_at hl 0 rfl) ?_
        obtain ⟨v87, e87, hf⟩ := zb hf
        refine zr_gr (ci := 9) (k := 46) (C := RX9) (T := TX9) (N := 54) hx hb hts hi_X9_redo_9 hown hK hP e87 rfl rfl (by decide) (by decide) (hts (.fieldLink RX9 114 "BoundaryAnalyzerModel" "redoAt" "[I") (List.mem_of_getElem? (i := 6) rfl)) dX9_redo_87 ?_
        refine lv_iload_n hx hb dX9_redo_90 rfl (lv_at hl 1 rfl) ?_
        obtain ⟨v91, e91, hf⟩ := zb hf
        refine zr_ai hx hb hK hP e91 dX9_redo_91 ?_
        refine lv_iload_n hx hb dX9_redo_92 rfl (lv_at hl 2 rfl) ?_
        obtain ⟨u93, t93, hf⟩ := zb hf
        obtain ⟨M93, e93, hf⟩ := zb hf
        refine zc_v hS (va_runV (As := [.int v85, .int v91, .int x2]) (rest := []) ⟨hx, hb, hml, hown, hts⟩ (k_X9_carryOut l D cy b M76 h0 v85 v91 x2 M93 e93) (cwV 3 hts gX9_redo_X9_carryOut rfl rfl rfl (by decide +kernel) ⟨Nat.le_of_ble_eq_true rfl, Nat.le_of_ble_eq_true rfl⟩) (zp_V _ hK hP t93 (T := TX9) (N := 54) rfl (by decide)) rfl rfl hl.1 rfl (lv_room (Nat.le_of_ble_eq_true rfl)) dX9_redo_93 ⟨Nat.zero_le _, Nat.zero_le _⟩) (fun H locs hP hS => ?_)
        refine lv_aload_n hx hb dX9_redo_96 rfl (lv_at hl 0 rfl) ?_
        obtain ⟨v97, e97, hf⟩ := zb hf
        refine zr_gi (ci := 9) (k := 44) (C := RX9) (T := TX9) (N := 54) hx hb hts hi_X9_redo_9 hown hK hP e97 rfl rfl (by decide) (by decide) (hts (.fieldLink RX9 267 "BoundaryAnalyzerModel" "redoMany" "I") (List.mem_of_getElem? (i := 1) rfl)) dX9_redo_97 ?_
        exact zret_i hx hb hr hlocks hf hP hS dX9_redo_100
      · have hf := (if_neg c36).symm.trans hf
        refine lv_aload_n hx hb dX9_redo_39 rfl (lv_at hl 0 rfl) ?_
        obtain ⟨v40, e40, hf⟩ := zb hf
        refine zr_gr (ci := 9) (k := 38) (C := RX9) (T := TX9) (N := 54) hx hb hts hi_X9_redo_9 hown hK hP e40 rfl rfl (by decide) (by decide) (hts (.fieldLink RX9 96 "BoundaryAnalyzerModel" "editText" "[C") (List.mem_of_getElem? (i := 3) rfl)) dX9_redo_40 ?_
        refine lv_iload_n hx hb dX9_redo_43 rfl (lv_at hl 3 rfl) ?_
        refine lv_aload_n hx hb dX9_redo_44 rfl (lv_at hl 0 rfl) ?_
        obtain ⟨v45, e45, hf⟩ := zb hf
        refine zr_gr (ci := 9) (k := 48) (C := RX9) (T := TX9) (N := 54) hx hb hts hi_X9_redo_9 hown hK hP e45 rfl rfl (by decide) (by decide) (hts (.fieldLink RX9 120 "BoundaryAnalyzerModel" "redoText" "[C") (List.mem_of_getElem? (i := 4) rfl)) dX9_redo_45 ?_
        refine lv_bipush (v := (100 : Int32)) hx hb dX9_redo_48 (by decide) ?_
        refine lv_iload_n hx hb dX9_redo_50 rfl (lv_at hl 1 rfl) ?_
        refine lv_imul hx hb dX9_redo_51 ?_
        refine lv_iload_n hx hb dX9_redo_52 rfl (lv_at hl 3 rfl) ?_
        refine lv_iadd hx hb dX9_redo_53 ?_
        obtain ⟨v54, e54, hf⟩ := zb hf
        refine zr_ac hx hb hK hP e54 dX9_redo_54 ?_
        obtain ⟨M55, e55, hf⟩ := zb hf
        refine zr_sc hx hb hK hP hS e55 dX9_redo_55 (fun H locs hP _ hS => ?_)
        obtain ⟨x3_56, q56, hf⟩ := zlt_s hf
        refine lv_iinc (v := x3_56) (lv' := [(3, .int x3_56), (0, .ref (b + h0)), (1, .int x1), (2, .int x2)]) hx hb dX9_redo_56 hl (k := 3) rfl (by rw [← q56]; rfl) (by decide) rfl (fun ls hl => ?_)
        refine lv_goto (tgt := 34) hx hb dX9_redo_59 (by decide) ?_
        exact ih34 _ _ _ _ _ _ _ _ hf hP hS (lv_sub hl [1, 2, 3, 0] rfl)
  unfold fX9_redo at hf
  refine lv_aload_n hx hb dX9_redo_0 rfl (lv_at hl 0 rfl) ?_
  obtain ⟨v1, e1, hf⟩ := zb hf
  refine zr_gi (ci := 9) (k := 44) (C := RX9) (T := TX9) (N := 54) hx hb hts hi_X9_redo_9 hown hK hP e1 rfl rfl (by decide) (by decide) (hts (.fieldLink RX9 267 "BoundaryAnalyzerModel" "redoMany" "I") (List.mem_of_getElem? (i := 1) rfl)) dX9_redo_1 ?_
  refine lv_if_ne (tgt := 10) hx hb dX9_redo_4 (by decide) (fun c4 => ?_) (fun c4 => ?_)
  · have hf := (if_neg c4).symm.trans hf
    refine lv_aload_n hx hb dX9_redo_10 rfl (lv_at hl 0 rfl) ?_
    refine lv_dup hx hb dX9_redo_11 rfl ?_
    obtain ⟨v12, e12, hf⟩ := zb hf
    refine zr_gi (ci := 9) (k := 44) (C := RX9) (T := TX9) (N := 54) hx hb hts hi_X9_redo_9 hown hK hP e12 rfl rfl (by decide) (by decide) (hts (.fieldLink RX9 267 "BoundaryAnalyzerModel" "redoMany" "I") (List.mem_of_getElem? (i := 1) rfl)) dX9_redo_12 ?_
    refine lv_iconst (v := (1 : Int32)) hx hb dX9_redo_15 (by decide) ?_
    refine lv_isub hx hb dX9_redo_16 ?_
    obtain ⟨M17, e17, hf⟩ := zb hf
    refine zr_pi (ci := 9) (k := 44) (C := RX9) (T := TX9) (N := 54) hx hb hts hi_X9_redo_9 tyX9 tyX9_ok nmX9 hown hK hP hS e17 rfl rfl (by decide) (by decide) (hts (.fieldLink RX9 267 "BoundaryAnalyzerModel" "redoMany" "I") (List.mem_of_getElem? (i := 1) rfl)) rfl (tyX9_ok 44 (by decide)) dX9_redo_17 (fun H locs hP _ hS => ?_)
    refine lv_aload_n hx hb dX9_redo_20 rfl (lv_at hl 0 rfl) ?_
    obtain ⟨v21, e21, hf⟩ := zb hf
    refine zr_gi (ci := 9) (k := 44) (C := RX9) (T := TX9) (N := 54) hx hb hts hi_X9_redo_9 hown hK hP e21 rfl rfl (by decide) (by decide) (hts (.fieldLink RX9 267 "BoundaryAnalyzerModel" "redoMany" "I") (List.mem_of_getElem? (i := 1) rfl)) dX9_redo_21 ?_
    refine lv_istore_n (lv' := [(1, .int v21), (0, .ref (b + p0))]) hx hb dX9_redo_24 rfl hl (by decide) rfl (fun ls hl => ?_)
    refine lv_aload_n hx hb dX9_redo_25 rfl (lv_at hl 1 rfl) ?_
    obtain ⟨v26, e26, hf⟩ := zb hf
    refine zr_gr (ci := 9) (k := 47) (C := RX9) (T := TX9) (N := 54) hx hb hts hi_X9_redo_9 hown hK hP e26 rfl rfl (by decide) (by decide) (hts (.fieldLink RX9 117 "BoundaryAnalyzerModel" "redoLong" "[I") (List.mem_of_getElem? (i := 2) rfl)) dX9_redo_26 ?_
    refine lv_iload_n hx hb dX9_redo_29 rfl (lv_at hl 0 rfl) ?_
    obtain ⟨v30, e30, hf⟩ := zb hf
    refine zr_ai hx hb hK hP e30 dX9_redo_30 ?_
    refine lv_istore_n (lv' := [(2, .int v30), (1, .int v21), (0, .ref (b + p0))]) hx hb dX9_redo_31 rfl hl (by decide) rfl (fun ls hl => ?_)
    refine lv_iconst (v := (0 : Int32)) hx hb dX9_redo_32 (by decide) ?_
    refine lv_istore_n (lv' := [(3, .int (0 : Int32)), (2, .int v30), (1, .int v21), (0, .ref (b + p0))]) hx hb dX9_redo_33 rfl hl (by decide) rfl (fun ls hl => ?_)
    exact L34 _ _ _ _ _ _ _ _ _ hf hP hS (lv_sub hl [3, 2, 1, 0] rfl)
  · have hf := (if_pos c4).symm.trans hf
    refine lv_bipush (v := (-5 : Int32)) hx hb dX9_redo_7 (by decide) ?_
    exact zret_i hx hb hr hlocks hf hP hS dX9_redo_9
theorem hi_X9_charAt_9 : ∀ w ∈ wsX90, w ∈ wsX9_charAt := fun _ h => List.mem_cons_of_mem _ (List.mem_append_right _ h)
set_option maxHeartbeats 4000000 in
set_option maxRecDepth 100000 in
theorem k_X9_charAt (l : Launch) (D : va_G) (cy : Nat → ClassId) (b : Nat) (M0 : Mem) (p0 : Nat) (p1 : Int32) (rr : Int32 × Mem) (hf : fX9_charAt M0 p0 p1 = some rr) : Met l yX9_charAt wsX9_charAt ({ frames := 1, cells := 0, slots := 0, locals := 22 } : Room) (zPc D cy b M0 [.ref (b + p0), .int p1]) (zQi D cy b rr) 0 0 (zA b) := by
  refine Met.ofW (cc := cX9_charAt) (maxL := 2) (ret := (some .int)) (by decide) rfl ?_
  intro p e s m args below meth c s₁ B hml hv
  obtain ⟨rfl, hP, hK⟩ := hv
  have hx := B.exec
  have hb := B.bytes
  have hr := B.returns
  have hts := atoms_spec (ws := wsX9_charAt) B.pre
  have hown : s.vm.findClass RX9 = some m.cls := findClass_of_methodNamed B.named
  have hlocks := B.notSynchronized
  have hS : va_S (zA b) s.heap s.heap [] := va_S.rf
  have hl := lv_entry ([.ref (b + p0), .int p1]) (n := 2) (Nat.le_of_ble_eq_true rfl)
  rw [lg_entry_eq]
  generalize (lg_sl ([.ref (b + p0), .int p1]) ++ List.replicate (2 - (lg_sl ([.ref (b + p0), .int p1])).length) Slot.unset).toArray = ls at hl ⊢
  have hl : lv_has ls 2 [(0, .ref (b + p0)), (1, .int p1)] := hl
  unfold fX9_charAt at hf
  refine lv_iload_n hx hb dX9_charAt_0 rfl (lv_at hl 1 rfl) ?_
  refine lv_iconst (v := (0 : Int32)) hx hb dX9_charAt_1 (by decide) ?_
  refine lv_aload_n hx hb dX9_charAt_2 rfl (lv_at hl 0 rfl) ?_
  obtain ⟨v3, e3, hf⟩ := zb hf
  refine zr_gi (ci := 9) (k := 31) (C := RX9) (T := TX9) (N := 54) hx hb hts hi_X9_charAt_9 hown hK hP e3 rfl rfl (by decide) (by decide) (hts (.fieldLink RX9 207 "BoundaryAnalyzerModel" "length" "I") (List.mem_of_getElem? (i := 1) rfl)) dX9_charAt_3 ?_
  refine lv_iconst (v := (1 : Int32)) hx hb dX9_charAt_6 (by decide) ?_
  refine lv_isub hx hb dX9_charAt_7 ?_
  obtain ⟨v8, e8, hf⟩ := zb hf
  refine zc_p (va_runS (As := [.int p1, .int (0 : Int32), .int (v3 - (1 : Int32))]) (rest := []) ⟨hx, hb, hml, hown, hts⟩ (k_X9_in l p1 (0 : Int32) (v3 - (1 : Int32)) v8 e8) (va_cwS 3 hts gX9_charAt_X9_in rfl rfl rfl (by decide +kernel) ⟨Nat.le_of_ble_eq_true rfl, Nat.le_of_ble_eq_true rfl⟩) (zp_p _) rfl rfl hl.1 rfl (lv_room (Nat.le_of_ble_eq_true rfl)) dX9_charAt_8 ⟨Nat.zero_le _, Nat.zero_le _⟩) ?_
  refine lv_if_eq (tgt := 23) hx hb dX9_charAt_11 (by decide) (fun c11 => ?_) (fun c11 => ?_)
  · have hf := (if_pos c11).symm.trans hf
    refine lv_iconst (v := (-1 : Int32)) hx hb dX9_charAt_23 (by decide) ?_
    exact zret_i hx hb hr hlocks hf hP hS dX9_charAt_24
  · have hf := (if_neg c11).symm.trans hf
    refine lv_aload_n hx hb dX9_charAt_14 rfl (lv_at hl 0 rfl) ?_
    obtain ⟨v15, e15, hf⟩ := zb hf
    refine zr_gr (ci := 9) (k := 32) (C := RX9) (T := TX9) (N := 54) hx hb hts hi_X9_charAt_9 hown hK hP e15 rfl rfl (by decide) (by decide) (hts (.fieldLink RX9 78 "BoundaryAnalyzerModel" "text" "[C") (List.mem_of_getElem? (i := 2) rfl)) dX9_charAt_15 ?_
    refine lv_iload_n hx hb dX9_charAt_18 rfl (lv_at hl 1 rfl) ?_
    obtain ⟨v19, e19, hf⟩ := zb hf
    refine zr_ac hx hb hK hP e19 dX9_charAt_19 ?_
    refine lv_goto (tgt := 24) hx hb dX9_charAt_20 (by decide) ?_
    exact zret_i hx hb hr hlocks hf hP hS dX9_charAt_24
