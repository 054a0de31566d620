theorem hi_X9_removeException_9 : ∀ w ∈ wsX90, w ∈ wsX9_removeException := fun _ h => List.mem_cons_of_mem _ (List.mem_append_right _ h)
set_option maxHeartbeats 4000000 in
set_option maxRecDepth 100000 in
theorem k_X9_removeException (l : Launch) (D : va_G) (cy : Nat → ClassId) (b : Nat) (M0 : Mem) (p0 : Nat) (rr : Int32 × Mem) (hf : fX9_removeException M0 p0 = some rr) : Met l yX9_removeException wsX9_removeException ({ frames := 1, cells := 0, slots := 0, locals := 23 } : Room) (zPc D cy b M0 [.ref (b + p0)]) (zQi D cy b rr) 0 0 (zA b) := by
  refine Met.ofW (cc := cX9_removeException) (maxL := 4) (ret := (some .int)) (by decide) rfl ?_
  intro p e s m args below meth c s₁ B hml hv
  obtain ⟨rfl, hP, hK⟩ := hv
  have hx := B.exec
  have hb := B.bytes
  have hr := B.returns
  have hts := atoms_spec (ws := wsX9_removeException) B.pre
  have hown : s.vm.findClass RX9 = some m.cls := findClass_of_methodNamed B.named
  have hlocks := B.notSynchronized
  have hS : va_S (zA b) s.heap s.heap [] := va_S.rf
  have hl := lv_entry ([.ref (b + p0)]) (n := 4) (Nat.le_of_ble_eq_true rfl)
  rw [lg_entry_eq]
  generalize (lg_sl ([.ref (b + p0)]) ++ List.replicate (4 - (lg_sl ([.ref (b + p0)])).length) Slot.unset).toArray = ls at hl ⊢
  have hl : lv_has ls 4 [(0, .ref (b + p0))] := hl
  have L24 : ∀ (n24 : Nat) (M : Mem) (H : Heap) (locs : List Loc) (ls : Array Slot) (h0 : Nat) (x2 : Int32), fX9_removeException_24L  n24 M h0 x2 = some rr → zH D cy b M H → va_S (zA b) s.heap H locs → lv_has ls 4 [(0, .ref (b + h0)), (2, .int x2)] → W p l e (headSpec wsX9_removeException ({ frames := 1, cells := 0, slots := 0, locals := 23 } : Room)).room s m ([.ref (b + p0)] : List Value).toArray below meth c H locs 0 0 (MQ below (zQi D cy b rr) ([.ref (b + p0)] : List Value).toArray s 0 0 (zA b)) (F0 m 24 ls []) := by
    intro n24
    induction n24 with
    | zero =>
      intro M H locs ls h0 x2 hf
      have hf : (none : Option (Int32 × Mem)) = some rr := hf
      cases hf
    | succ n24 ih24 =>
      have L48 : ∀ (n48 : Nat) (M : Mem) (H : Heap) (locs : List Loc) (ls : Array Slot) (h0 : Nat) (x2 : Int32) (x3 : Int32), fX9_removeException_48L (fX9_removeException_24L  n24) n48 M h0 x2 x3 = some rr → zH D cy b M H → va_S (zA b) s.heap H locs → lv_has ls 4 [(0, .ref (b + h0)), (2, .int x2), (3, .int x3)] → W p l e (headSpec wsX9_removeException ({ frames := 1, cells := 0, slots := 0, locals := 23 } : Room)).room s m ([.ref (b + p0)] : List Value).toArray below meth c H locs 0 0 (MQ below (zQi D cy b rr) ([.ref (b + p0)] : List Value).toArray s 0 0 (zA b)) (F0 m 48 ls []) := by
        intro n48
        induction n48 with
        | zero =>
          intro M H locs ls h0 x2 x3 hf
          have hf : (none : Option (Int32 × Mem)) = some rr := hf
          cases hf
        | succ n48 ih48 =>
          intro M H locs ls h0 x2 x3 hf hP hS hl
          have hf : fX9_removeException_48 (fX9_removeException_24L  n24) (fX9_removeException_48L (fX9_removeException_24L  n24) n48) M h0 x2 x3 = some rr := hf
          unfold fX9_removeException_48 at hf
          refine lv_iload_n hx hb dX9_removeException_48 rfl (lv_at hl 2 rfl) ?_
          refine lv_bipush (v := (8 : Int32)) hx hb dX9_removeException_49 (by decide) ?_
          refine lv_icmp_ge (tgt := 85) hx hb dX9_removeException_51 (by decide) (fun c51 => ?_) (fun c51 => ?_)
          · have hf := (if_pos c51).symm.trans hf
            obtain ⟨x2_85, q85, hf⟩ := zlt_s hf
            refine lv_iinc (v := x2_85) (lv' := [(2, .int x2_85), (0, .ref (b + h0)), (3, .int x3)]) hx hb dX9_removeException_85 hl (k := 1) rfl (by rw [← q85]; rfl) (by decide) rfl (fun ls hl => ?_)
            refine lv_goto (tgt := 24) hx hb dX9_removeException_88 (by decide) ?_
            exact ih24 _ _ _ _ _ _ hf hP hS (lv_sub hl [1, 0] rfl)
          · have hf := (if_neg c51).symm.trans hf
            refine lv_aload_n hx hb dX9_removeException_54 rfl (lv_at hl 0 rfl) ?_
            obtain ⟨v55, e55, hf⟩ := zb hf
            refine zr_gr (ci := 9) (k := 51) (C := RX9) (T := TX9) (N := 54) hx hb hts hi_X9_removeException_9 hown hK hP e55 rfl rfl (by decide) (by decide) (hts (.fieldLink RX9 126 "BoundaryAnalyzerModel" "exceptionAt" "[C") (List.mem_of_getElem? (i := 3) rfl)) dX9_removeException_55 ?_
            refine lv_bipush (v := (8 : Int32)) hx hb dX9_removeException_58 (by decide) ?_
            refine lv_iload_n hx hb dX9_removeException_60 rfl (lv_at hl 1 rfl) ?_
            refine lv_imul hx hb dX9_removeException_61 ?_
            refine lv_iload_n hx hb dX9_removeException_62 rfl (lv_at hl 2 rfl) ?_
            refine lv_iadd hx hb dX9_removeException_63 ?_
            refine lv_aload_n hx hb dX9_removeException_64 rfl (lv_at hl 0 rfl) ?_
            obtain ⟨v65, e65, hf⟩ := zb hf
            refine zr_gr (ci := 9) (k := 51) (C := RX9) (T := TX9) (N := 54) hx hb hts hi_X9_removeException_9 hown hK hP e65 rfl rfl (by decide) (by decide) (hts (.fieldLink RX9 126 "BoundaryAnalyzerModel" "exceptionAt" "[C") (List.mem_of_getElem? (i := 3) rfl)) dX9_removeException_65 ?_
            refine lv_bipush (v := (8 : Int32)) hx hb dX9_removeException_68 (by decide) ?_
            refine lv_iload_n hx hb dX9_removeException_70 rfl (lv_at hl 1 rfl) ?_
            refine lv_imul hx hb dX9_removeException_71 ?_
            refine lv_bipush (v := (8 : Int32)) hx hb dX9_removeException_72 (by decide) ?_
            refine lv_iadd hx hb dX9_removeException_74 ?_
            refine lv_iload_n hx hb dX9_removeException_75 rfl (lv_at hl 2 rfl) ?_
            refine lv_iadd hx hb dX9_removeException_76 ?_
            obtain ⟨v77, e77, hf⟩ := zb hf
            refine zr_ac hx hb hK hP e77 dX9_removeException_77 ?_
            obtain ⟨M78, e78, hf⟩ := zb hf
            refine zr_sc hx hb hK hP hS e78 dX9_removeException_78 (fun H locs hP _ hS => ?_)
            obtain ⟨x3_79, q79, hf⟩ := zlt_s hf
            refine lv_iinc (v := x3_79) (lv' := [(3, .int x3_79), (0, .ref (b + h0)), (2, .int x2)]) hx hb dX9_removeException_79 hl (k := 2) rfl (by rw [← q79]; rfl) (by decide) rfl (fun ls hl => ?_)
            refine lv_goto (tgt := 48) hx hb dX9_removeException_82 (by decide) ?_
            exact ih48 _ _ _ _ _ _ _ hf hP hS (lv_sub hl [1, 2, 0] rfl)
      intro M H locs ls h0 x2 hf hP hS hl
      have hf : fX9_removeException_24  (fX9_removeException_24L  n24) M h0 x2 = some rr := hf
      unfold fX9_removeException_24 at hf
      refine lv_iload_n hx hb dX9_removeException_24 rfl (lv_at hl 1 rfl) ?_
      refine lv_aload_n hx hb dX9_removeException_25 rfl (lv_at hl 0 rfl) ?_
      obtain ⟨v26, e26, hf⟩ := zb hf
      refine zr_gi (ci := 9) (k := 49) (C := RX9) (T := TX9) (N := 54) hx hb hts hi_X9_removeException_9 hown hK hP e26 rfl rfl (by decide) (by decide) (hts (.fieldLink RX9 279 "BoundaryAnalyzerModel" "exceptions" "I") (List.mem_of_getElem? (i := 1) rfl)) dX9_removeException_26 ?_
      refine lv_icmp_ge (tgt := 91) hx hb dX9_removeException_29 (by decide) (fun c29 => ?_) (fun c29 => ?_)
      · have hf := (if_pos c29).symm.trans hf
        refine lv_aload_n hx hb dX9_removeException_91 rfl (lv_at hl 0 rfl) ?_
        obtain ⟨v92, e92, hf⟩ := zb hf
        refine zr_gi (ci := 9) (k := 49) (C := RX9) (T := TX9) (N := 54) hx hb hts hi_X9_removeException_9 hown hK hP e92 rfl rfl (by decide) (by decide) (hts (.fieldLink RX9 279 "BoundaryAnalyzerModel" "exceptions" "I") (List.mem_of_getElem? (i := 1) rfl)) dX9_removeException_92 ?_
        exact zret_i hx hb hr hlocks hf hP hS dX9_removeException_95
      · have hf := (if_neg c29).symm.trans hf
        refine lv_aload_n hx hb dX9_removeException_32 rfl (lv_at hl 0 rfl) ?_
        obtain ⟨v33, e33, hf⟩ := zb hf
        refine zr_gr (ci := 9) (k := 50) (C := RX9) (T := TX9) (N := 54) hx hb hts hi_X9_removeException_9 hown hK hP e33 rfl rfl (by decide) (by decide) (hts (.fieldLink RX9 123 "BoundaryAnalyzerModel" "exceptionLong" "[I") (List.mem_of_getElem? (i := 2) rfl)) dX9_removeException_33 ?_
        refine lv_iload_n hx hb dX9_removeException_36 rfl (lv_at hl 1 rfl) ?_
        refine lv_aload_n hx hb dX9_removeException_37 rfl (lv_at hl 0 rfl) ?_
        obtain ⟨v38, e38, hf⟩ := zb hf
        refine zr_gr (ci := 9) (k := 50) (C := RX9) (T := TX9) (N := 54) hx hb hts hi_X9_removeException_9 hown hK hP e38 rfl rfl (by decide) (by decide) (hts (.fieldLink RX9 123 "BoundaryAnalyzerModel" "exceptionLong" "[I") (List.mem_of_getElem? (i := 2) rfl)) dX9_removeException_38 ?_
        refine lv_iload_n hx hb dX9_removeException_41 rfl (lv_at hl 1 rfl) ?_
        refine lv_iconst (v := (1 : Int32)) hx hb dX9_removeException_42 (by decide) ?_
        refine lv_iadd hx hb dX9_removeException_43 ?_
        obtain ⟨v44, e44, hf⟩ := zb hf
        refine zr_ai hx hb hK hP e44 dX9_removeException_44 ?_
        obtain ⟨M45, e45, hf⟩ := zb hf
        refine zr_si hx hb hK hP hS e45 dX9_removeException_45 (fun H locs hP _ hS => ?_)
        refine lv_iconst (v := (0 : Int32)) hx hb dX9_removeException_46 (by decide) ?_
        refine lv_istore_n (lv' := [(3, .int (0 : Int32)), (0, .ref (b + h0)), (2, .int x2)]) hx hb dX9_removeException_47 rfl hl (by decide) rfl (fun ls hl => ?_)
        exact L48 _ _ _ _ _ _ _ _ hf hP hS (lv_sub hl [1, 2, 0] rfl)
  unfold fX9_removeException at hf
  refine lv_aload_n hx hb dX9_removeException_0 rfl (lv_at hl 0 rfl) ?_
  obtain ⟨u1, t1, hf⟩ := zb hf
  obtain ⟨r1, e1, hf⟩ := zb hf
  refine zc_i hS (va_runV (As := []) (rest := []) ⟨hx, hb, hml, hown, hts⟩ (k_X9_exceptionBy l D cy b M0 p0  r1 e1) (cwV 0 hts gX9_removeException_X9_exceptionBy rfl rfl rfl (by decide +kernel) ⟨Nat.le_of_ble_eq_true rfl, Nat.le_of_ble_eq_true rfl⟩) (zp_V _ hK hP t1 (T := TX9) (N := 54) rfl (by decide)) rfl rfl hl.1 rfl (lv_room (Nat.le_of_ble_eq_true rfl)) dX9_removeException_1 ⟨Nat.zero_le _, Nat.zero_le _⟩) (fun H locs hP hS => ?_)
  refine lv_istore_n (lv' := [(1, .int r1.1), (0, .ref (b + p0))]) hx hb dX9_removeException_4 rfl hl (by decide) rfl (fun ls hl => ?_)
  refine lv_iload_n hx hb dX9_removeException_5 rfl (lv_at hl 0 rfl) ?_
  refine lv_if_ge (tgt := 12) hx hb dX9_removeException_6 (by decide) (fun c6 => ?_) (fun c6 => ?_)
  · have hf := (if_pos c6).symm.trans hf
    refine lv_aload_n hx hb dX9_removeException_12 rfl (lv_at hl 1 rfl) ?_
    refine lv_dup hx hb dX9_removeException_13 rfl ?_
    obtain ⟨v14, e14, hf⟩ := zb hf
    refine zr_gi (ci := 9) (k := 49) (C := RX9) (T := TX9) (N := 54) hx hb hts hi_X9_removeException_9 hown hK hP e14 rfl rfl (by decide) (by decide) (hts (.fieldLink RX9 279 "BoundaryAnalyzerModel" "exceptions" "I") (List.mem_of_getElem? (i := 1) rfl)) dX9_removeException_14 ?_
    refine lv_iconst (v := (1 : Int32)) hx hb dX9_removeException_17 (by decide) ?_
    refine lv_isub hx hb dX9_removeException_18 ?_
    obtain ⟨M19, e19, hf⟩ := zb hf
    refine zr_pi (ci := 9) (k := 49) (C := RX9) (T := TX9) (N := 54) hx hb hts hi_X9_removeException_9 tyX9 tyX9_ok nmX9 hown hK hP hS e19 rfl rfl (by decide) (by decide) (hts (.fieldLink RX9 279 "BoundaryAnalyzerModel" "exceptions" "I") (List.mem_of_getElem? (i := 1) rfl)) rfl (tyX9_ok 49 (by decide)) dX9_removeException_19 (fun H locs hP _ hS => ?_)
    refine lv_iload_n hx hb dX9_removeException_22 rfl (lv_at hl 0 rfl) ?_
    refine lv_istore_n (lv' := [(2, .int r1.1), (1, .int r1.1), (0, .ref (b + p0))]) hx hb dX9_removeException_23 rfl hl (by decide) rfl (fun ls hl => ?_)
    exact L24 _ _ _ _ _ _ _ hf hP hS (lv_sub hl [2, 0] rfl)
  · have hf := (if_neg c6).symm.trans hf
    refine lv_bipush (v := (-5 : Int32)) hx hb dX9_removeException_9 (by decide) ?_
    exact zret_i hx hb hr hlocks hf hP hS dX9_removeException_11
