theorem hi_X9_isSuppressed_9 : ∀ w ∈ wsX90, w ∈ wsX9_isSuppressed := fun _ h => List.mem_cons_of_mem _ (List.mem_append_right _ h)
set_option maxHeartbeats 4000000 in
set_option maxRecDepth 100000 in
theorem k_X9_isSuppressed (l : Launch) (D : va_G) (cy : Nat → ClassId) (b : Nat) (M0 : Mem) (h0 : Nat) (x1 : Int32) (x2 : Int32) (rr : Int32 × Mem) (hf : fX9_isSuppressed M0 h0 x1 x2 = some rr) : Met l yX9_isSuppressed wsX9_isSuppressed ({ frames := 1, cells := 0, slots := 0, locals := 25 } : Room) (zPc D cy b M0 [.ref (b + h0), .int x1, .int x2]) (zQi D cy b rr) 0 0 (zA b) := by
  refine Met.ofW (cc := cX9_isSuppressed) (maxL := 6) (ret := (some .boolean)) (by decide) rfl ?_
  intro p e s m args below meth c s₁ B hml hv
  obtain ⟨rfl, hP, hK⟩ := hv
  have hx := B.exec
  have hb := B.bytes
  have hr := B.returns
  have hts := atoms_spec (ws := wsX9_isSuppressed) B.pre
  have hown : s.vm.findClass RX9 = some m.cls := findClass_of_methodNamed B.named
  have hlocks := B.notSynchronized
  have hS : va_S (zA b) s.heap s.heap [] := va_S.rf
  have hl := lv_entry ([.ref (b + h0), .int x1, .int x2]) (n := 6) (Nat.le_of_ble_eq_true rfl)
  rw [lg_entry_eq]
  generalize (lg_sl ([.ref (b + h0), .int x1, .int x2]) ++ List.replicate (6 - (lg_sl ([.ref (b + h0), .int x1, .int x2])).length) Slot.unset).toArray = ls at hl ⊢
  have hl : lv_has ls 6 [(0, .ref (b + h0)), (1, .int x1), (2, .int x2)] := hl
  have L27 : ∀ (n27 : Nat) (M : Mem) (H : Heap) (locs : List Loc) (ls : Array Slot) (h0 : Nat) (x3 : Int32) (x4 : Int32) (x5 : Int32), fX9_isSuppressed_27L  n27 M h0 x3 x4 x5 = some rr → zH D cy b M H → va_S (zA b) s.heap H locs → lv_has ls 6 [(0, .ref (b + h0)), (3, .int x3), (4, .int x4), (5, .int x5)] → W p l e (headSpec wsX9_isSuppressed ({ frames := 1, cells := 0, slots := 0, locals := 25 } : Room)).room s m ([.ref (b + h0), .int x1, .int x2] : List Value).toArray below meth c H locs 0 0 (MQ below (zQi D cy b rr) ([.ref (b + h0), .int x1, .int x2] : List Value).toArray s 0 0 (zA b)) (F0 m 27 ls []) := by
    intro n27
    induction n27 with
    | zero =>
      intro M H locs ls h0 x3 x4 x5 hf
      have hf : (none : Option (Int32 × Mem)) = some rr := hf
      cases hf
    | succ n27 ih27 =>
      have J93 : ∀ (M : Mem) (H : Heap) (locs : List Loc) (ls : Array Slot) (h0 : Nat) (x3 : Int32) (x4 : Int32) (y0 : Int32), fX9_isSuppressed_93 (fX9_isSuppressed_27L  n27) M h0 x3 x4 y0 = some rr → zH D cy b M H → va_S (zA b) s.heap H locs → lv_has ls 6 [(0, .ref (b + h0)), (3, .int x3), (4, .int x4)] → W p l e (headSpec wsX9_isSuppressed ({ frames := 1, cells := 0, slots := 0, locals := 25 } : Room)).room s m ([.ref (b + h0), .int x1, .int x2] : List Value).toArray below meth c H locs 0 0 (MQ below (zQi D cy b rr) ([.ref (b + h0), .int x1, .int x2] : List Value).toArray s 0 0 (zA b)) (F0 m 93 ls [.int y0]) := by
        intro M H locs ls h0 x3 x4 y0 hf hP hS hl
        unfold fX9_isSuppressed_93 at hf
        refine lv_istore (lv' := [(5, .int y0), (0, .ref (b + h0)), (3, .int x3), (4, .int x4)]) hx hb dX9_isSuppressed_93 hl (by decide) rfl (fun ls hl => ?_)
        obtain ⟨x3_95, q95, hf⟩ := zlt_s hf
        refine lv_iinc (v := x3_95) (lv' := [(3, .int x3_95), (5, .int y0), (0, .ref (b + h0)), (4, .int x4)]) hx hb dX9_isSuppressed_95 hl (k := 2) rfl (by rw [← q95]; rfl) (by decide) rfl (fun ls hl => ?_)
        refine lv_goto (tgt := 27) hx hb dX9_isSuppressed_98 (by decide) ?_
        exact ih27 _ _ _ _ _ _ _ _ hf hP hS (lv_sub hl [2, 0, 3, 1] rfl)
      have J69 : ∀ (M : Mem) (H : Heap) (locs : List Loc) (ls : Array Slot) (h0 : Nat) (x3 : Int32) (y0 : Int32), fX9_isSuppressed_69 (fX9_isSuppressed_27L  n27) M h0 x3 y0 = some rr → zH D cy b M H → va_S (zA b) s.heap H locs → lv_has ls 6 [(0, .ref (b + h0)), (3, .int x3)] → W p l e (headSpec wsX9_isSuppressed ({ frames := 1, cells := 0, slots := 0, locals := 25 } : Room)).room s m ([.ref (b + h0), .int x1, .int x2] : List Value).toArray below meth c H locs 0 0 (MQ below (zQi D cy b rr) ([.ref (b + h0), .int x1, .int x2] : List Value).toArray s 0 0 (zA b)) (F0 m 69 ls [.int y0]) := by
        intro M H locs ls h0 x3 y0 hf hP hS hl
        unfold fX9_isSuppressed_69 at hf
        refine lv_istore (lv' := [(4, .int y0), (0, .ref (b + h0)), (3, .int x3)]) hx hb dX9_isSuppressed_69 hl (by decide) rfl (fun ls hl => ?_)
        refine lv_aload_n hx hb dX9_isSuppressed_71 rfl (lv_at hl 1 rfl) ?_
        obtain ⟨v72, e72, hf⟩ := zb hf
        refine zr_gr (ci := 9) (k := 0) (C := RX9) (T := TX9) (N := 54) hx hb hts hi_X9_isSuppressed_9 hown hK hP e72 rfl rfl (by decide) (by decide) (hts (.fieldLink RX9 7 "BoundaryAnalyzerModel" "classAt" "[I") (List.mem_of_getElem? (i := 3) rfl)) dX9_isSuppressed_72 ?_
        refine lv_aload_n hx hb dX9_isSuppressed_75 rfl (lv_at hl 1 rfl) ?_
        obtain ⟨v76, e76, hf⟩ := zb hf
        refine zr_gr (ci := 9) (k := 32) (C := RX9) (T := TX9) (N := 54) hx hb hts hi_X9_isSuppressed_9 hown hK hP e76 rfl rfl (by decide) (by decide) (hts (.fieldLink RX9 78 "BoundaryAnalyzerModel" "text" "[C") (List.mem_of_getElem? (i := 2) rfl)) dX9_isSuppressed_76 ?_
        refine lv_iload_n hx hb dX9_isSuppressed_79 rfl (lv_at hl 2 rfl) ?_
        refine lv_iconst (v := (1 : Int32)) hx hb dX9_isSuppressed_80 (by decide) ?_
        refine lv_isub hx hb dX9_isSuppressed_81 ?_
        obtain ⟨v82, e82, hf⟩ := zb hf
        refine zr_ac hx hb hK hP e82 dX9_isSuppressed_82 ?_
        obtain ⟨v83, e83, hf⟩ := zb hf
        refine zr_ai hx hb hK hP e83 dX9_isSuppressed_83 ?_
        refine lv_iconst (v := (2 : Int32)) hx hb dX9_isSuppressed_84 (by decide) ?_
        refine lv_icmp_ne (tgt := 92) hx hb dX9_isSuppressed_85 (by decide) (fun c85 => ?_) (fun c85 => ?_)
        · have hf := (if_neg c85).symm.trans hf
          refine lv_iconst (v := (0 : Int32)) hx hb dX9_isSuppressed_92 (by decide) ?_
          exact J93 _ _ _ _ _ _ _ _ hf hP hS (lv_sub hl [1, 2, 0] rfl)
        · have hf := (if_pos c85).symm.trans hf
          refine lv_iconst (v := (1 : Int32)) hx hb dX9_isSuppressed_88 (by decide) ?_
          refine lv_goto (tgt := 93) hx hb dX9_isSuppressed_89 (by decide) ?_
          exact J93 _ _ _ _ _ _ _ _ hf hP hS (lv_sub hl [1, 2, 0] rfl)
      have J68 : ∀ (M : Mem) (H : Heap) (locs : List Loc) (ls : Array Slot) (h0 : Nat) (x3 : Int32), fX9_isSuppressed_68 (fX9_isSuppressed_27L  n27) M h0 x3 = some rr → zH D cy b M H → va_S (zA b) s.heap H locs → lv_has ls 6 [(0, .ref (b + h0)), (3, .int x3)] → W p l e (headSpec wsX9_isSuppressed ({ frames := 1, cells := 0, slots := 0, locals := 25 } : Room)).room s m ([.ref (b + h0), .int x1, .int x2] : List Value).toArray below meth c H locs 0 0 (MQ below (zQi D cy b rr) ([.ref (b + h0), .int x1, .int x2] : List Value).toArray s 0 0 (zA b)) (F0 m 68 ls []) := by
        intro M H locs ls h0 x3 hf hP hS hl
        unfold fX9_isSuppressed_68 at hf
        refine lv_iconst (v := (0 : Int32)) hx hb dX9_isSuppressed_68 (by decide) ?_
        exact J69 _ _ _ _ _ _ _ hf hP hS (lv_sub hl [0, 1] rfl)
      intro M H locs ls h0 x3 x4 x5 hf hP hS hl
      have hf : fX9_isSuppressed_27  (fX9_isSuppressed_27L  n27) M h0 x3 x4 x5 = some rr := hf
      unfold fX9_isSuppressed_27 at hf
      refine lv_iload hx hb dX9_isSuppressed_27 (lv_at hl 3 rfl) ?_
      refine lv_if_eq (tgt := 101) hx hb dX9_isSuppressed_29 (by decide) (fun c29 => ?_) (fun c29 => ?_)
      · have hf := (if_pos c29).symm.trans hf
        refine lv_iload hx hb dX9_isSuppressed_101 (lv_at hl 2 rfl) ?_
        exact zret_z hx hb hr (Or.inl rfl) hlocks hf hP hS dX9_isSuppressed_103
      · have hf := (if_neg c29).symm.trans hf
        refine lv_iload hx hb dX9_isSuppressed_32 (lv_at hl 2 rfl) ?_
        refine lv_if_ne (tgt := 101) hx hb dX9_isSuppressed_34 (by decide) (fun c34 => ?_) (fun c34 => ?_)
        · have hf := (if_neg c34).symm.trans hf
          refine lv_iload hx hb dX9_isSuppressed_101 (lv_at hl 2 rfl) ?_
          exact zret_z hx hb hr (Or.inl rfl) hlocks hf hP hS dX9_isSuppressed_103
        · have hf := (if_pos c34).symm.trans hf
          refine lv_iload_n hx hb dX9_isSuppressed_37 rfl (lv_at hl 1 rfl) ?_
          refine lv_if_le (tgt := 101) hx hb dX9_isSuppressed_38 (by decide) (fun c38 => ?_) (fun c38 => ?_)
          · have hf := (if_pos c38).symm.trans hf
            refine lv_iload hx hb dX9_isSuppressed_101 (lv_at hl 2 rfl) ?_
            exact zret_z hx hb hr (Or.inl rfl) hlocks hf hP hS dX9_isSuppressed_103
          · have hf := (if_neg c38).symm.trans hf
            refine lv_aload_n hx hb dX9_isSuppressed_41 rfl (lv_at hl 0 rfl) ?_
            obtain ⟨v42, e42, hf⟩ := zb hf
            refine zr_gr (ci := 9) (k := 32) (C := RX9) (T := TX9) (N := 54) hx hb hts hi_X9_isSuppressed_9 hown hK hP e42 rfl rfl (by decide) (by decide) (hts (.fieldLink RX9 78 "BoundaryAnalyzerModel" "text" "[C") (List.mem_of_getElem? (i := 2) rfl)) dX9_isSuppressed_42 ?_
            refine lv_iload_n hx hb dX9_isSuppressed_45 rfl (lv_at hl 1 rfl) ?_
            refine lv_iconst (v := (1 : Int32)) hx hb dX9_isSuppressed_46 (by decide) ?_
            refine lv_isub hx hb dX9_isSuppressed_47 ?_
            obtain ⟨v48, e48, hf⟩ := zb hf
            refine zr_ac hx hb hK hP e48 dX9_isSuppressed_48 ?_
            refine lv_bipush (v := (46 : Int32)) hx hb dX9_isSuppressed_49 (by decide) ?_
            refine lv_icmp_ne (tgt := 68) hx hb dX9_isSuppressed_51 (by decide) (fun c51 => ?_) (fun c51 => ?_)
            · have hf := (if_neg c51).symm.trans hf
              exact J68 _ _ _ _ _ _ hf hP hS (lv_sub hl [0, 1] rfl)
            · have hf := (if_pos c51).symm.trans hf
              refine lv_aload_n hx hb dX9_isSuppressed_54 rfl (lv_at hl 0 rfl) ?_
              refine lv_iload_n hx hb dX9_isSuppressed_55 rfl (lv_at hl 1 rfl) ?_
              refine lv_iconst (v := (1 : Int32)) hx hb dX9_isSuppressed_56 (by decide) ?_
              refine lv_isub hx hb dX9_isSuppressed_57 ?_
              obtain ⟨u58, t58, hf⟩ := zb hf
              obtain ⟨r58, e58, hf⟩ := zb hf
              refine zc_i hS (va_runV (As := [.int (x3 - (1 : Int32))]) (rest := []) ⟨hx, hb, hml, hown, hts⟩ (k_X9_isExceptionBefore l D cy b M h0 (x3 - (1 : Int32)) r58 e58) (cwV 1 hts gX9_isSuppressed_X9_isExceptionBefore rfl rfl rfl (by decide +kernel) ⟨Nat.le_of_ble_eq_true rfl, Nat.le_of_ble_eq_true rfl⟩) (zp_V _ hK hP t58 (T := TX9) (N := 54) rfl (by decide)) rfl rfl hl.1 rfl (lv_room (Nat.le_of_ble_eq_true rfl)) dX9_isSuppressed_58 ⟨Nat.zero_le _, Nat.zero_le _⟩) (fun H locs hP hS => ?_)
              refine lv_if_eq (tgt := 68) hx hb dX9_isSuppressed_61 (by decide) (fun c61 => ?_) (fun c61 => ?_)
              · have hf := (if_pos c61).symm.trans hf
                exact J68 _ _ _ _ _ _ hf hP hS (lv_sub hl [0, 1] rfl)
              · have hf := (if_neg c61).symm.trans hf
                refine lv_iconst (v := (1 : Int32)) hx hb dX9_isSuppressed_64 (by decide) ?_
                refine lv_goto (tgt := 69) hx hb dX9_isSuppressed_65 (by decide) ?_
                exact J69 _ _ _ _ _ _ _ hf hP hS (lv_sub hl [0, 1] rfl)
  unfold fX9_isSuppressed at hf
  refine lv_iload_n hx hb dX9_isSuppressed_0 rfl (lv_at hl 1 rfl) ?_
  refine lv_iconst (v := (2 : Int32)) hx hb dX9_isSuppressed_1 (by decide) ?_
  refine lv_icmp_ne (tgt := 17) hx hb dX9_isSuppressed_2 (by decide) (fun c2 => ?_) (fun c2 => ?_)
  · have hf := (if_neg c2).symm.trans hf
    refine lv_iconst (v := (0 : Int32)) hx hb dX9_isSuppressed_17 (by decide) ?_
    exact zret_z hx hb hr (Or.inl rfl) hlocks hf hP hS dX9_isSuppressed_18
  · have hf := (if_pos c2).symm.trans hf
    refine lv_iload_n hx hb dX9_isSuppressed_5 rfl (lv_at hl 2 rfl) ?_
    refine lv_if_eq (tgt := 17) hx hb dX9_isSuppressed_6 (by decide) (fun c6 => ?_) (fun c6 => ?_)
    · have hf := (if_pos c6).symm.trans hf
      refine lv_iconst (v := (0 : Int32)) hx hb dX9_isSuppressed_17 (by decide) ?_
      exact zret_z hx hb hr (Or.inl rfl) hlocks hf hP hS dX9_isSuppressed_18
    · have hf := (if_neg c6).symm.trans hf
      refine lv_iload_n hx hb dX9_isSuppressed_9 rfl (lv_at hl 2 rfl) ?_
      refine lv_aload_n hx hb dX9_isSuppressed_10 rfl (lv_at hl 0 rfl) ?_
      obtain ⟨v11, e11, hf⟩ := zb hf
      refine zr_gi (ci := 9) (k := 31) (C := RX9) (T := TX9) (N := 54) hx hb hts hi_X9_isSuppressed_9 hown hK hP e11 rfl rfl (by decide) (by decide) (hts (.fieldLink RX9 207 "BoundaryAnalyzerModel" "length" "I") (List.mem_of_getElem? (i := 1) rfl)) dX9_isSuppressed_11 ?_
      refine lv_icmp_ne (tgt := 19) hx hb dX9_isSuppressed_14 (by decide) (fun c14 => ?_) (fun c14 => ?_)
      · have hf := (if_neg c14).symm.trans hf
        refine lv_iload_n hx hb dX9_isSuppressed_19 rfl (lv_at hl 2 rfl) ?_
        refine lv_istore_n (lv' := [(3, .int x2), (0, .ref (b + h0)), (1, .int x1), (2, .int x2)]) hx hb dX9_isSuppressed_20 rfl hl (by decide) rfl (fun ls hl => ?_)
        refine lv_iconst (v := (0 : Int32)) hx hb dX9_isSuppressed_21 (by decide) ?_
        refine lv_istore (lv' := [(4, .int (0 : Int32)), (3, .int x2), (0, .ref (b + h0)), (1, .int x1), (2, .int x2)]) hx hb dX9_isSuppressed_22 hl (by decide) rfl (fun ls hl => ?_)
        refine lv_iconst (v := (1 : Int32)) hx hb dX9_isSuppressed_24 (by decide) ?_
        refine lv_istore (lv' := [(5, .int (1 : Int32)), (4, .int (0 : Int32)), (3, .int x2), (0, .ref (b + h0)), (1, .int x1), (2, .int x2)]) hx hb dX9_isSuppressed_25 hl (by decide) rfl (fun ls hl => ?_)
        exact L27 _ _ _ _ _ _ _ _ _ hf hP hS (lv_sub hl [3, 2, 1, 0] rfl)
      · have hf := (if_pos c14).symm.trans hf
        refine lv_iconst (v := (0 : Int32)) hx hb dX9_isSuppressed_17 (by decide) ?_
        exact zret_z hx hb hr (Or.inl rfl) hlocks hf hP hS dX9_isSuppressed_18
theorem hi_X9_value_9 : ∀ w ∈ wsX90, w ∈ wsX9_value := fun _ h => List.mem_cons_of_mem _ (List.mem_append_right _ h)
set_option maxHeartbeats 4000000 in
set_option maxRecDepth 100000 in
theorem k_X9_value (l : Launch) (D : va_G) (cy : Nat → ClassId) (b : Nat) (M0 : Mem) (h0 : Nat) (x1 : Int32) (rr : Int32 × Mem) (hf : fX9_value M0 h0 x1 = some rr) : Met l yX9_value wsX9_value ({ frames := 0, cells := 0, slots := 0, locals := 0 } : Room) (zPc D cy b M0 [.ref (b + h0), .int x1]) (zQi D cy b rr) 0 0 (zA b) := by
  refine Met.ofW (cc := cX9_value) (maxL := 2) (ret := (some .int)) (by decide) rfl ?_
  intro p e s m args below meth c s₁ B hml hv
  obtain ⟨rfl, hP, hK⟩ := hv
  have hx := B.exec
  have hb := B.bytes
  have hr := B.returns
  have hts := atoms_spec (ws := wsX9_value) B.pre
  have hown : s.vm.findClass RX9 = some m.cls := findClass_of_methodNamed B.named
  have hlocks := B.notSynchronized
  have hS : va_S (zA b) s.heap s.heap [] := va_S.rf
  have hl := lv_entry ([.ref (b + h0), .int x1]) (n := 2) (Nat.le_of_ble_eq_true rfl)
  rw [lg_entry_eq]
  generalize (lg_sl ([.ref (b + h0), .int x1]) ++ List.replicate (2 - (lg_sl ([.ref (b + h0), .int x1])).length) Slot.unset).toArray = ls at hl ⊢
  have hl : lv_has ls 2 [(0, .ref (b + h0)), (1, .int x1)] := hl
  unfold fX9_value at hf
  refine lv_iload_n hx hb dX9_value_0 rfl (lv_at hl 1 rfl) ?_
  refine lv_if_ne (tgt := 11) hx hb dX9_value_1 (by decide) (fun c1 => ?_) (fun c1 => ?_)
  · have hf := (if_neg c1).symm.trans hf
    refine lv_iload_n hx hb dX9_value_11 rfl (lv_at hl 1 rfl) ?_
    refine lv_iconst (v := (1 : Int32)) hx hb dX9_value_12 (by decide) ?_
    refine lv_icmp_ne (tgt := 23) hx hb dX9_value_13 (by decide) (fun c13 => ?_) (fun c13 => ?_)
    · have hf := (if_neg c13).symm.trans hf
      refine lv_iload_n hx hb dX9_value_23 rfl (lv_at hl 1 rfl) ?_
      refine lv_iconst (v := (2 : Int32)) hx hb dX9_value_24 (by decide) ?_
      refine lv_icmp_ne (tgt := 35) hx hb dX9_value_25 (by decide) (fun c25 => ?_) (fun c25 => ?_)
      · have hf := (if_neg c25).symm.trans hf
        refine lv_iload_n hx hb dX9_value_35 rfl (lv_at hl 1 rfl) ?_
        refine lv_iconst (v := (3 : Int32)) hx hb dX9_value_36 (by decide) ?_
        refine lv_icmp_ne (tgt := 47) hx hb dX9_value_37 (by decide) (fun c37 => ?_) (fun c37 => ?_)
        · have hf := (if_neg c37).symm.trans hf
          refine lv_iload_n hx hb dX9_value_47 rfl (lv_at hl 1 rfl) ?_
          refine lv_iconst (v := (4 : Int32)) hx hb dX9_value_48 (by decide) ?_
          refine lv_icmp_ne (tgt := 59) hx hb dX9_value_49 (by decide) (fun c49 => ?_) (fun c49 => ?_)
          · have hf := (if_neg c49).symm.trans hf
            refine lv_bipush (v := (-2 : Int32)) hx hb dX9_value_59 (by decide) ?_
            exact zret_i hx hb hr hlocks hf hP hS dX9_value_61
          · have hf := (if_pos c49).symm.trans hf
            refine lv_aload_n hx hb dX9_value_52 rfl (lv_at hl 0 rfl) ?_
            obtain ⟨v53, e53, hf⟩ := zb hf
            refine zr_gi (ci := 9) (k := 44) (C := RX9) (T := TX9) (N := 54) hx hb hts hi_X9_value_9 hown hK hP e53 rfl rfl (by decide) (by decide) (hts (.fieldLink RX9 267 "BoundaryAnalyzerModel" "redoMany" "I") (List.mem_of_getElem? (i := 5) rfl)) dX9_value_53 ?_
            refine lv_goto (tgt := 61) hx hb dX9_value_56 (by decide) ?_
            exact zret_i hx hb hr hlocks hf hP hS dX9_value_61
        · have hf := (if_pos c37).symm.trans hf
          refine lv_aload_n hx hb dX9_value_40 rfl (lv_at hl 0 rfl) ?_
          obtain ⟨v41, e41, hf⟩ := zb hf
          refine zr_gi (ci := 9) (k := 39) (C := RX9) (T := TX9) (N := 54) hx hb hts hi_X9_value_9 hown hK hP e41 rfl rfl (by decide) (by decide) (hts (.fieldLink RX9 260 "BoundaryAnalyzerModel" "undoMany" "I") (List.mem_of_getElem? (i := 4) rfl)) dX9_value_41 ?_
          refine lv_goto (tgt := 61) hx hb dX9_value_44 (by decide) ?_
          exact zret_i hx hb hr hlocks hf hP hS dX9_value_61
      · have hf := (if_pos c25).symm.trans hf
        refine lv_aload_n hx hb dX9_value_28 rfl (lv_at hl 0 rfl) ?_
        obtain ⟨v29, e29, hf⟩ := zb hf
        refine zr_gi (ci := 9) (k := 49) (C := RX9) (T := TX9) (N := 54) hx hb hts hi_X9_value_9 hown hK hP e29 rfl rfl (by decide) (by decide) (hts (.fieldLink RX9 279 "BoundaryAnalyzerModel" "exceptions" "I") (List.mem_of_getElem? (i := 3) rfl)) dX9_value_29 ?_
        refine lv_goto (tgt := 61) hx hb dX9_value_32 (by decide) ?_
        exact zret_i hx hb hr hlocks hf hP hS dX9_value_61
    · have hf := (if_pos c13).symm.trans hf
      refine lv_aload_n hx hb dX9_value_16 rfl (lv_at hl 0 rfl) ?_
      obtain ⟨v17, e17, hf⟩ := zb hf
      refine zr_gi (ci := 9) (k := 1) (C := RX9) (T := TX9) (N := 54) hx hb hts hi_X9_value_9 hown hK hP e17 rfl rfl (by decide) (by decide) (hts (.fieldLink RX9 144 "BoundaryAnalyzerModel" "typed" "I") (List.mem_of_getElem? (i := 2) rfl)) dX9_value_17 ?_
      refine lv_goto (tgt := 61) hx hb dX9_value_20 (by decide) ?_
      exact zret_i hx hb hr hlocks hf hP hS dX9_value_61
  · have hf := (if_pos c1).symm.trans hf
    refine lv_aload_n hx hb dX9_value_4 rfl (lv_at hl 0 rfl) ?_
    obtain ⟨v5, e5, hf⟩ := zb hf
    refine zr_gi (ci := 9) (k := 31) (C := RX9) (T := TX9) (N := 54) hx hb hts hi_X9_value_9 hown hK hP e5 rfl rfl (by decide) (by decide) (hts (.fieldLink RX9 207 "BoundaryAnalyzerModel" "length" "I") (List.mem_of_getElem? (i := 1) rfl)) dX9_value_5 ?_
    refine lv_goto (tgt := 61) hx hb dX9_value_8 (by decide) ?_
    exact zret_i hx hb hr hlocks hf hP hS dX9_value_61
theorem hi_X9_barred_9 : ∀ w ∈ wsX90, w ∈ wsX9_barred := fun _ h => List.mem_cons_of_mem _ (List.mem_append_right _ h)
set_option maxHeartbeats 4000000 in
set_option maxRecDepth 100000 in
theorem k_X9_barred (l : Launch) (D : va_G) (cy : Nat → ClassId) (b : Nat) (M0 : Mem) (h0 : Nat) (x1 : Int32) (x2 : Int32) (rr : Int32 × Mem) (hf : fX9_barred M0 h0 x1 x2 = some rr) : Met l yX9_barred wsX9_barred ({ frames := 2, cells := 0, slots := 0, locals := 43 } : Room) (zPc D cy b M0 [.ref (b + h0), .int x1, .int x2]) (zQi D cy b rr) 0 0 (zA b) := by
  refine Met.ofW (cc := cX9_barred) (maxL := 3) (ret := (some .int)) (by decide) rfl ?_
  intro p e s m args below meth c s₁ B hml hv
  obtain ⟨rfl, hP, hK⟩ := hv
  have hx := B.exec
  have hb := B.bytes
  have hr := B.returns
  have hts := atoms_spec (ws := wsX9_barred) B.pre
  have hown : s.vm.findClass RX9 = some m.cls := findClass_of_methodNamed B.named
  have hlocks := B.notSynchronized
  have hS : va_S (zA b) s.heap s.heap [] := va_S.rf
  have hl := lv_entry ([.ref (b + h0), .int x1, .int x2]) (n := 3) (Nat.le_of_ble_eq_true rfl)
  rw [lg_entry_eq]
  generalize (lg_sl ([.ref (b + h0), .int x1, .int x2]) ++ List.replicate (3 - (lg_sl ([.ref (b + h0), .int x1, .int x2])).length) Slot.unset).toArray = ls at hl ⊢
  have hl : lv_has ls 3 [(0, .ref (b + h0)), (1, .int x1), (2, .int x2)] := hl
  unfold fX9_barred at hf
  refine lv_iload_n hx hb dX9_barred_0 rfl (lv_at hl 1 rfl) ?_
  obtain ⟨v1, e1, hf⟩ := zb hf
  refine zc_p (va_runS (As := [.int x1]) (rest := []) ⟨hx, hb, hml, hown, hts⟩ (k_X9_noKind l x1 v1 e1) (va_cwS 1 hts gX9_barred_X9_noKind rfl rfl rfl (by decide +kernel) ⟨Nat.le_of_ble_eq_true rfl, Nat.le_of_ble_eq_true rfl⟩) (zp_p _) rfl rfl hl.1 rfl (lv_room (Nat.le_of_ble_eq_true rfl)) dX9_barred_1 ⟨Nat.zero_le _, Nat.zero_le _⟩) ?_
  refine lv_if_eq (tgt := 12) hx hb dX9_barred_4 (by decide) (fun c4 => ?_) (fun c4 => ?_)
  · have hf := (if_pos c4).symm.trans hf
    refine lv_aload_n hx hb dX9_barred_12 rfl (lv_at hl 0 rfl) ?_
    refine lv_iload_n hx hb dX9_barred_13 rfl (lv_at hl 2 rfl) ?_
    obtain ⟨u14, t14, hf⟩ := zb hf
    obtain ⟨r14, e14, hf⟩ := zb hf
    refine zc_i hS (va_runV (As := [.int x2]) (rest := []) ⟨hx, hb, hml, hown, hts⟩ (k_X9_noPosition l D cy b M0 h0 x2 r14 e14) (cwV 1 hts gX9_barred_X9_noPosition rfl rfl rfl (by decide +kernel) ⟨Nat.le_of_ble_eq_true rfl, Nat.le_of_ble_eq_true rfl⟩) (zp_V _ hK hP t14 (T := TX9) (N := 54) rfl (by decide)) rfl rfl hl.1 rfl (lv_room (Nat.le_of_ble_eq_true rfl)) dX9_barred_14 ⟨Nat.zero_le _, Nat.zero_le _⟩) (fun H locs hP hS => ?_)
    refine lv_if_eq (tgt := 24) hx hb dX9_barred_17 (by decide) (fun c17 => ?_) (fun c17 => ?_)
    · have hf := (if_pos c17).symm.trans hf
      refine lv_iconst (v := (0 : Int32)) hx hb dX9_barred_24 (by decide) ?_
      exact zret_i hx hb hr hlocks hf hP hS dX9_barred_25
    · have hf := (if_neg c17).symm.trans hf
      refine lv_iconst (v := (-1 : Int32)) hx hb dX9_barred_20 (by decide) ?_
      refine lv_goto (tgt := 25) hx hb dX9_barred_21 (by decide) ?_
      exact zret_i hx hb hr hlocks hf hP hS dX9_barred_25
  · have hf := (if_neg c4).symm.trans hf
    refine lv_bipush (v := (-2 : Int32)) hx hb dX9_barred_7 (by decide) ?_
    refine lv_goto (tgt := 25) hx hb dX9_barred_9 (by decide) ?_
    exact zret_i hx hb hr hlocks hf hP hS dX9_barred_25
theorem hi_X9_boundaryAt_9 : ∀ w ∈ wsX90, w ∈ wsX9_boundaryAt := fun _ h => List.mem_cons_of_mem _ (List.mem_append_right _ h)
set_option maxHeartbeats 4000000 in
set_option maxRecDepth 100000 in
theorem k_X9_boundaryAt (l : Launch) (D : va_G) (cy : Nat → ClassId) (b : Nat) (M0 : Mem) (h0 : Nat) (x1 : Int32) (x2 : Int32) (rr : Int32 × Mem) (hf : fX9_boundaryAt M0 h0 x1 x2 = some rr) : Met l yX9_boundaryAt wsX9_boundaryAt ({ frames := 3, cells := 0, slots := 0, locals := 65 } : Room) (zPc D cy b M0 [.ref (b + h0), .int x1, .int x2]) (zQi D cy b rr) 0 0 (zA b) := by
  refine Met.ofW (cc := cX9_boundaryAt) (maxL := 5) (ret := (some .int)) (by decide) rfl ?_
  intro p e s m args below meth c s₁ B hml hv
  obtain ⟨rfl, hP, hK⟩ := hv
  have hx := B.exec
  have hb := B.bytes
  have hr := B.returns
  have hts := atoms_spec (ws := wsX9_boundaryAt) B.pre
  have hown : s.vm.findClass RX9 = some m.cls := findClass_of_methodNamed B.named
  have hlocks := B.notSynchronized
  have hS : va_S (zA b) s.heap s.heap [] := va_S.rf
  have hl := lv_entry ([.ref (b + h0), .int x1, .int x2]) (n := 5) (Nat.le_of_ble_eq_true rfl)
  rw [lg_entry_eq]
  generalize (lg_sl ([.ref (b + h0), .int x1, .int x2]) ++ List.replicate (5 - (lg_sl ([.ref (b + h0), .int x1, .int x2])).length) Slot.unset).toArray = ls at hl ⊢
  have hl : lv_has ls 5 [(0, .ref (b + h0)), (1, .int x1), (2, .int x2)] := hl
  have L16 : ∀ (n16 : Nat) (M : Mem) (H : Heap) (locs : List Loc) (ls : Array Slot) (h0 : Nat) (x1 : Int32) (x2 : Int32) (x4 : Int32), fX9_boundaryAt_16L  n16 M h0 x1 x2 x4 = some rr → zH D cy b M H → va_S (zA b) s.heap H locs → lv_has ls 5 [(0, .ref (b + h0)), (1, .int x1), (2, .int x2), (4, .int x4)] → W p l e (headSpec wsX9_boundaryAt ({ frames := 3, cells := 0, slots := 0, locals := 65 } : Room)).room s m ([.ref (b + h0), .int x1, .int x2] : List Value).toArray below meth c H locs 0 0 (MQ below (zQi D cy b rr) ([.ref (b + h0), .int x1, .int x2] : List Value).toArray s 0 0 (zA b)) (F0 m 16 ls []) := by
    intro n16
    induction n16 with
    | zero =>
      intro M H locs ls h0 x1 x2 x4 hf
      have hf : (none : Option (Int32 × Mem)) = some rr := hf
      cases hf
    | succ n16 ih16 =>
      intro M H locs ls h0 x1 x2 x4 hf hP hS hl
      have hf : fX9_boundaryAt_16  (fX9_boundaryAt_16L  n16) M h0 x1 x2 x4 = some rr := hf
      unfold fX9_boundaryAt_16 at hf
      refine lv_iload hx hb dX9_boundaryAt_16 (lv_at hl 3 rfl) ?_
      refine lv_aload_n hx hb dX9_boundaryAt_18 rfl (lv_at hl 0 rfl) ?_
      obtain ⟨v19, e19, hf⟩ := zb hf
      refine zr_gr (ci := 9) (k := 33) (C := RX9) (T := TX9) (N := 54) hx hb hts hi_X9_boundaryAt_9 hown hK hP e19 rfl rfl (by decide) (by decide) (hts (.fieldLink RX9 81 "BoundaryAnalyzerModel" "rawMany" "[I") (List.mem_of_getElem? (i := 1) rfl)) dX9_boundaryAt_19 ?_
      refine lv_iload_n hx hb dX9_boundaryAt_22 rfl (lv_at hl 1 rfl) ?_
      obtain ⟨v23, e23, hf⟩ := zb hf
      refine zr_ai hx hb hK hP e23 dX9_boundaryAt_23 ?_
      refine lv_icmp_ge (tgt := 59) hx hb dX9_boundaryAt_24 (by decide) (fun c24 => ?_) (fun c24 => ?_)
      · have hf := (if_pos c24).symm.trans hf
        refine lv_iconst (v := (0 : Int32)) hx hb dX9_boundaryAt_59 (by decide) ?_
        exact zret_i hx hb hr hlocks hf hP hS dX9_boundaryAt_60
      · have hf := (if_neg c24).symm.trans hf
        refine lv_aload_n hx hb dX9_boundaryAt_27 rfl (lv_at hl 0 rfl) ?_
        refine lv_iload_n hx hb dX9_boundaryAt_28 rfl (lv_at hl 1 rfl) ?_
        refine lv_iload hx hb dX9_boundaryAt_29 (lv_at hl 3 rfl) ?_
        obtain ⟨u31, t31, hf⟩ := zb hf
        obtain ⟨r31, e31, hf⟩ := zb hf
        refine zc_i hS (va_runV (As := [.int x1, .int x4]) (rest := []) ⟨hx, hb, hml, hown, hts⟩ (k_X9_raw l D cy b M h0 x1 x4 r31 e31) (cwV 2 hts gX9_boundaryAt_X9_raw rfl rfl rfl (by decide +kernel) ⟨Nat.le_of_ble_eq_true rfl, Nat.le_of_ble_eq_true rfl⟩) (zp_V _ hK hP t31 (T := TX9) (N := 54) rfl (by decide)) rfl rfl hl.1 rfl (lv_room (Nat.le_of_ble_eq_true rfl)) dX9_boundaryAt_31 ⟨Nat.zero_le _, Nat.zero_le _⟩) (fun H locs hP hS => ?_)
        refine lv_iload_n hx hb dX9_boundaryAt_34 rfl (lv_at hl 2 rfl) ?_
        refine lv_icmp_ne (tgt := 53) hx hb dX9_boundaryAt_35 (by decide) (fun c35 => ?_) (fun c35 => ?_)
        · have hf := (if_neg c35).symm.trans hf
          obtain ⟨x4_53, q53, hf⟩ := zlt_s hf
          refine lv_iinc (v := x4_53) (lv' := [(4, .int x4_53), (0, .ref (b + h0)), (1, .int x1), (2, .int x2)]) hx hb dX9_boundaryAt_53 hl (k := 3) rfl (by rw [← q53]; rfl) (by decide) rfl (fun ls hl => ?_)
          refine lv_goto (tgt := 16) hx hb dX9_boundaryAt_56 (by decide) ?_
          exact ih16 _ _ _ _ _ _ _ _ hf hP hS (lv_sub hl [1, 2, 3, 0] rfl)
        · have hf := (if_pos c35).symm.trans hf
          refine lv_aload_n hx hb dX9_boundaryAt_38 rfl (lv_at hl 0 rfl) ?_
          refine lv_iload_n hx hb dX9_boundaryAt_39 rfl (lv_at hl 1 rfl) ?_
          refine lv_iload_n hx hb dX9_boundaryAt_40 rfl (lv_at hl 2 rfl) ?_
          obtain ⟨u41, t41, hf⟩ := zb hf
          obtain ⟨r41, e41, hf⟩ := zb hf
          refine zc_i hS (va_runV (As := [.int x1, .int x2]) (rest := []) ⟨hx, hb, hml, hown, hts⟩ (k_X9_isSuppressed l D cy b r31.2 h0 x1 x2 r41 e41) (cwV 2 hts gX9_boundaryAt_X9_isSuppressed rfl rfl rfl (by decide +kernel) ⟨Nat.le_of_ble_eq_true rfl, Nat.le_of_ble_eq_true rfl⟩) (zp_V _ hK hP t41 (T := TX9) (N := 54) rfl (by decide)) rfl rfl hl.1 rfl (lv_room (Nat.le_of_ble_eq_true rfl)) dX9_boundaryAt_41 ⟨Nat.zero_le _, Nat.zero_le _⟩) (fun H locs hP hS => ?_)
          refine lv_if_eq (tgt := 51) hx hb dX9_boundaryAt_44 (by decide) (fun c44 => ?_) (fun c44 => ?_)
          · have hf := (if_pos c44).symm.trans hf
            refine lv_iconst (v := (1 : Int32)) hx hb dX9_boundaryAt_51 (by decide) ?_
            exact zret_i hx hb hr hlocks hf hP hS dX9_boundaryAt_52
          · have hf := (if_neg c44).symm.trans hf
            refine lv_iconst (v := (2 : Int32)) hx hb dX9_boundaryAt_47 (by decide) ?_
            refine lv_goto (tgt := 52) hx hb dX9_boundaryAt_48 (by decide) ?_
            exact zret_i hx hb hr hlocks hf hP hS dX9_boundaryAt_52
  unfold fX9_boundaryAt at hf
  refine lv_aload_n hx hb dX9_boundaryAt_0 rfl (lv_at hl 0 rfl) ?_
  refine lv_iload_n hx hb dX9_boundaryAt_1 rfl (lv_at hl 1 rfl) ?_
  refine lv_iload_n hx hb dX9_boundaryAt_2 rfl (lv_at hl 2 rfl) ?_
  obtain ⟨u3, t3, hf⟩ := zb hf
  obtain ⟨r3, e3, hf⟩ := zb hf
  refine zc_i hS (va_runV (As := [.int x1, .int x2]) (rest := []) ⟨hx, hb, hml, hown, hts⟩ (k_X9_barred l D cy b M0 h0 x1 x2 r3 e3) (cwV 2 hts gX9_boundaryAt_X9_barred rfl rfl rfl (by decide +kernel) ⟨Nat.le_of_ble_eq_true rfl, Nat.le_of_ble_eq_true rfl⟩) (zp_V _ hK hP t3 (T := TX9) (N := 54) rfl (by decide)) rfl rfl hl.1 rfl (lv_room (Nat.le_of_ble_eq_true rfl)) dX9_boundaryAt_3 ⟨Nat.zero_le _, Nat.zero_le _⟩) (fun H locs hP hS => ?_)
  refine lv_istore_n (lv' := [(3, .int r3.1), (0, .ref (b + h0)), (1, .int x1), (2, .int x2)]) hx hb dX9_boundaryAt_6 rfl hl (by decide) rfl (fun ls hl => ?_)
  refine lv_iload_n hx hb dX9_boundaryAt_7 rfl (lv_at hl 0 rfl) ?_
  refine lv_if_ge (tgt := 13) hx hb dX9_boundaryAt_8 (by decide) (fun c8 => ?_) (fun c8 => ?_)
  · have hf := (if_pos c8).symm.trans hf
    refine lv_iconst (v := (0 : Int32)) hx hb dX9_boundaryAt_13 (by decide) ?_
    refine lv_istore (lv' := [(4, .int (0 : Int32)), (3, .int r3.1), (0, .ref (b + h0)), (1, .int x1), (2, .int x2)]) hx hb dX9_boundaryAt_14 hl (by decide) rfl (fun ls hl => ?_)
    exact L16 _ _ _ _ _ _ _ _ _ hf hP hS (lv_sub hl [2, 3, 4, 0] rfl)
  · have hf := (if_neg c8).symm.trans hf
    refine lv_iload_n hx hb dX9_boundaryAt_11 rfl (lv_at hl 0 rfl) ?_
    exact zret_i hx hb hr hlocks hf hP hS dX9_boundaryAt_12
theorem hi_X9_next_9 : ∀ w ∈ wsX90, w ∈ wsX9_next := fun _ h => List.mem_cons_of_mem _ (List.mem_append_right _ h)
set_option maxHeartbeats 4000000 in
set_option maxRecDepth 100000 in
theorem k_X9_next (l : Launch) (D : va_G) (cy : Nat → ClassId) (b : Nat) (M0 : Mem) (h0 : Nat) (x1 : Int32) (x2 : Int32) (rr : Int32 × Mem) (hf : fX9_next M0 h0 x1 x2 = some rr) : Met l yX9_next wsX9_next ({ frames := 3, cells := 0, slots := 0, locals := 65 } : Room) (zPc D cy b M0 [.ref (b + h0), .int x1, .int x2]) (zQi D cy b rr) 0 0 (zA b) := by
  refine Met.ofW (cc := cX9_next) (maxL := 5) (ret := (some .int)) (by decide) rfl ?_
  intro p e s m args below meth c s₁ B hml hv
  obtain ⟨rfl, hP, hK⟩ := hv
  have hx := B.exec
  have hb := B.bytes
  have hr := B.returns
  have hts := atoms_spec (ws := wsX9_next) B.pre
  have hown : s.vm.findClass RX9 = some m.cls := findClass_of_methodNamed B.named
  have hlocks := B.notSynchronized
  have hS : va_S (zA b) s.heap s.heap [] := va_S.rf
  have hl := lv_entry ([.ref (b + h0), .int x1, .int x2]) (n := 5) (Nat.le_of_ble_eq_true rfl)
  rw [lg_entry_eq]
  generalize (lg_sl ([.ref (b + h0), .int x1, .int x2]) ++ List.replicate (5 - (lg_sl ([.ref (b + h0), .int x1, .int x2])).length) Slot.unset).toArray = ls at hl ⊢
  have hl : lv_has ls 5 [(0, .ref (b + h0)), (1, .int x1), (2, .int x2)] := hl
  have L16 : ∀ (n16 : Nat) (M : Mem) (H : Heap) (locs : List Loc) (ls : Array Slot) (h0 : Nat) (x1 : Int32) (x2 : Int32) (x4 : Int32), fX9_next_16L  n16 M h0 x1 x2 x4 = some rr → zH D cy b M H → va_S (zA b) s.heap H locs → lv_has ls 5 [(0, .ref (b + h0)), (1, .int x1), (2, .int x2), (4, .int x4)] → W p l e (headSpec wsX9_next ({ frames := 3, cells := 0, slots := 0, locals := 65 } : Room)).room s m ([.ref (b + h0), .int x1, .int x2] : List Value).toArray below meth c H locs 0 0 (MQ below (zQi D cy b rr) ([.ref (b + h0), .int x1, .int x2] : List Value).toArray s 0 0 (zA b)) (F0 m 16 ls []) := by
    intro n16
    induction n16 with
    | zero =>
      intro M H locs ls h0 x1 x2 x4 hf
      have hf : (none : Option (Int32 × Mem)) = some rr := hf
      cases hf
    | succ n16 ih16 =>
      have J61 : ∀ (M : Mem) (H : Heap) (locs : List Loc) (ls : Array Slot) (h0 : Nat) (x1 : Int32) (x2 : Int32) (x4 : Int32), fX9_next_61 (fX9_next_16L  n16) M h0 x1 x2 x4 = some rr → zH D cy b M H → va_S (zA b) s.heap H locs → lv_has ls 5 [(0, .ref (b + h0)), (1, .int x1), (2, .int x2), (4, .int x4)] → W p l e (headSpec wsX9_next ({ frames := 3, cells := 0, slots := 0, locals := 65 } : Room)).room s m ([.ref (b + h0), .int x1, .int x2] : List Value).toArray below meth c H locs 0 0 (MQ below (zQi D cy b rr) ([.ref (b + h0), .int x1, .int x2] : List Value).toArray s 0 0 (zA b)) (F0 m 61 ls []) := by
        intro M H locs ls h0 x1 x2 x4 hf hP hS hl
        unfold fX9_next_61 at hf
        obtain ⟨x4_61, q61, hf⟩ := zlt_s hf
        refine lv_iinc (v := x4_61) (lv' := [(4, .int x4_61), (0, .ref (b + h0)), (1, .int x1), (2, .int x2)]) hx hb dX9_next_61 hl (k := 3) rfl (by rw [← q61]; rfl) (by decide) rfl (fun ls hl => ?_)
        refine lv_goto (tgt := 16) hx hb dX9_next_64 (by decide) ?_
        exact ih16 _ _ _ _ _ _ _ _ hf hP hS (lv_sub hl [1, 2, 3, 0] rfl)
      intro M H locs ls h0 x1 x2 x4 hf hP hS hl
      have hf : fX9_next_16  (fX9_next_16L  n16) M h0 x1 x2 x4 = some rr := hf
      unfold fX9_next_16 at hf
      refine lv_iload hx hb dX9_next_16 (lv_at hl 3 rfl) ?_
      refine lv_aload_n hx hb dX9_next_18 rfl (lv_at hl 0 rfl) ?_
      obtain ⟨v19, e19, hf⟩ := zb hf
      refine zr_gr (ci := 9) (k := 33) (C := RX9) (T := TX9) (N := 54) hx hb hts hi_X9_next_9 hown hK hP e19 rfl rfl (by decide) (by decide) (hts (.fieldLink RX9 81 "BoundaryAnalyzerModel" "rawMany" "[I") (List.mem_of_getElem? (i := 1) rfl)) dX9_next_19 ?_
      refine lv_iload_n hx hb dX9_next_22 rfl (lv_at hl 1 rfl) ?_
      obtain ⟨v23, e23, hf⟩ := zb hf
      refine zr_ai hx hb hK hP e23 dX9_next_23 ?_
      refine lv_icmp_ge (tgt := 67) hx hb dX9_next_24 (by decide) (fun c24 => ?_) (fun c24 => ?_)
      · have hf := (if_pos c24).symm.trans hf
        refine lv_bipush (v := (-5 : Int32)) hx hb dX9_next_67 (by decide) ?_
        exact zret_i hx hb hr hlocks hf hP hS dX9_next_69
      · have hf := (if_neg c24).symm.trans hf
        refine lv_aload_n hx hb dX9_next_27 rfl (lv_at hl 0 rfl) ?_
        refine lv_iload_n hx hb dX9_next_28 rfl (lv_at hl 1 rfl) ?_
        refine lv_iload hx hb dX9_next_29 (lv_at hl 3 rfl) ?_
        obtain ⟨u31, t31, hf⟩ := zb hf
        obtain ⟨r31, e31, hf⟩ := zb hf
        refine zc_i hS (va_runV (As := [.int x1, .int x4]) (rest := []) ⟨hx, hb, hml, hown, hts⟩ (k_X9_raw l D cy b M h0 x1 x4 r31 e31) (cwV 2 hts gX9_next_X9_raw rfl rfl rfl (by decide +kernel) ⟨Nat.le_of_ble_eq_true rfl, Nat.le_of_ble_eq_true rfl⟩) (zp_V _ hK hP t31 (T := TX9) (N := 54) rfl (by decide)) rfl rfl hl.1 rfl (lv_room (Nat.le_of_ble_eq_true rfl)) dX9_next_31 ⟨Nat.zero_le _, Nat.zero_le _⟩) (fun H locs hP hS => ?_)
        refine lv_iload_n hx hb dX9_next_34 rfl (lv_at hl 2 rfl) ?_
        refine lv_icmp_le (tgt := 61) hx hb dX9_next_35 (by decide) (fun c35 => ?_) (fun c35 => ?_)
        · have hf := (if_pos c35).symm.trans hf
          exact J61 _ _ _ _ _ _ _ _ hf hP hS (lv_sub hl [0, 1, 2, 3] rfl)
        · have hf := (if_neg c35).symm.trans hf
          refine lv_aload_n hx hb dX9_next_38 rfl (lv_at hl 0 rfl) ?_
          refine lv_iload_n hx hb dX9_next_39 rfl (lv_at hl 1 rfl) ?_
          refine lv_aload_n hx hb dX9_next_40 rfl (lv_at hl 0 rfl) ?_
          refine lv_iload_n hx hb dX9_next_41 rfl (lv_at hl 1 rfl) ?_
          refine lv_iload hx hb dX9_next_42 (lv_at hl 3 rfl) ?_
          obtain ⟨u44, t44, hf⟩ := zb hf
          obtain ⟨r44, e44, hf⟩ := zb hf
          refine zc_i hS (va_runV (As := [.int x1, .int x4]) (rest := [.int x1, .ref (b + h0)]) ⟨hx, hb, hml, hown, hts⟩ (k_X9_raw l D cy b r31.2 h0 x1 x4 r44 e44) (cwV 2 hts gX9_next_X9_raw rfl rfl rfl (by decide +kernel) ⟨Nat.le_of_ble_eq_true rfl, Nat.le_of_ble_eq_true rfl⟩) (zp_V _ hK hP t44 (T := TX9) (N := 54) rfl (by decide)) rfl rfl hl.1 rfl (lv_room (Nat.le_of_ble_eq_true rfl)) dX9_next_44 ⟨Nat.zero_le _, Nat.zero_le _⟩) (fun H locs hP hS => ?_)
          obtain ⟨u47, t47, hf⟩ := zb hf
          obtain ⟨r47, e47, hf⟩ := zb hf
          refine zc_i hS (va_runV (As := [.int x1, .int r44.1]) (rest := []) ⟨hx, hb, hml, hown, hts⟩ (k_X9_isSuppressed l D cy b r44.2 h0 x1 r44.1 r47 e47) (cwV 2 hts gX9_next_X9_isSuppressed rfl rfl rfl (by decide +kernel) ⟨Nat.le_of_ble_eq_true rfl, Nat.le_of_ble_eq_true rfl⟩) (zp_V _ hK hP t47 (T := TX9) (N := 54) rfl (by decide)) rfl rfl hl.1 rfl (lv_room (Nat.le_of_ble_eq_true rfl)) dX9_next_47 ⟨Nat.zero_le _, Nat.zero_le _⟩) (fun H locs hP hS => ?_)
          refine lv_if_ne (tgt := 61) hx hb dX9_next_50 (by decide) (fun c50 => ?_) (fun c50 => ?_)
          · have hf := (if_neg c50).symm.trans hf
            exact J61 _ _ _ _ _ _ _ _ hf hP hS (lv_sub hl [0, 1, 2, 3] rfl)
          · have hf := (if_pos c50).symm.trans hf
            refine lv_aload_n hx hb dX9_next_53 rfl (lv_at hl 0 rfl) ?_
            refine lv_iload_n hx hb dX9_next_54 rfl (lv_at hl 1 rfl) ?_
            refine lv_iload hx hb dX9_next_55 (lv_at hl 3 rfl) ?_
            obtain ⟨u57, t57, hf⟩ := zb hf
            obtain ⟨r57, e57, hf⟩ := zb hf
            refine zc_i hS (va_runV (As := [.int x1, .int x4]) (rest := []) ⟨hx, hb, hml, hown, hts⟩ (k_X9_raw l D cy b r47.2 h0 x1 x4 r57 e57) (cwV 2 hts gX9_next_X9_raw rfl rfl rfl (by decide +kernel) ⟨Nat.le_of_ble_eq_true rfl, Nat.le_of_ble_eq_true rfl⟩) (zp_V _ hK hP t57 (T := TX9) (N := 54) rfl (by decide)) rfl rfl hl.1 rfl (lv_room (Nat.le_of_ble_eq_true rfl)) dX9_next_57 ⟨Nat.zero_le _, Nat.zero_le _⟩) (fun H locs hP hS => ?_)
            exact zret_i hx hb hr hlocks hf hP hS dX9_next_60
  unfold fX9_next at hf
  refine lv_aload_n hx hb dX9_next_0 rfl (lv_at hl 0 rfl) ?_
  refine lv_iload_n hx hb dX9_next_1 rfl (lv_at hl 1 rfl) ?_
  refine lv_iload_n hx hb dX9_next_2 rfl (lv_at hl 2 rfl) ?_
  obtain ⟨u3, t3, hf⟩ := zb hf
  obtain ⟨r3, e3, hf⟩ := zb hf
  refine zc_i hS (va_runV (As := [.int x1, .int x2]) (rest := []) ⟨hx, hb, hml, hown, hts⟩ (k_X9_barred l D cy b M0 h0 x1 x2 r3 e3) (cwV 2 hts gX9_next_X9_barred rfl rfl rfl (by decide +kernel) ⟨Nat.le_of_ble_eq_true rfl, Nat.le_of_ble_eq_true rfl⟩) (zp_V _ hK hP t3 (T := TX9) (N := 54) rfl (by decide)) rfl rfl hl.1 rfl (lv_room (Nat.le_of_ble_eq_true rfl)) dX9_next_3 ⟨Nat.zero_le _, Nat.zero_le _⟩) (fun H locs hP hS => ?_)
  refine lv_istore_n (lv' := [(3, .int r3.1), (0, .ref (b + h0)), (1, .int x1), (2, .int x2)]) hx hb dX9_next_6 rfl hl (by decide) rfl (fun ls hl => ?_)
  refine lv_iload_n hx hb dX9_next_7 rfl (lv_at hl 0 rfl) ?_
  refine lv_if_ge (tgt := 13) hx hb dX9_next_8 (by decide) (fun c8 => ?_) (fun c8 => ?_)
  · have hf := (if_pos c8).symm.trans hf
    refine lv_iconst (v := (0 : Int32)) hx hb dX9_next_13 (by decide) ?_
    refine lv_istore (lv' := [(4, .int (0 : Int32)), (3, .int r3.1), (0, .ref (b + h0)), (1, .int x1), (2, .int x2)]) hx hb dX9_next_14 hl (by decide) rfl (fun ls hl => ?_)
    exact L16 _ _ _ _ _ _ _ _ _ hf hP hS (lv_sub hl [2, 3, 4, 0] rfl)
  · have hf := (if_neg c8).symm.trans hf
    refine lv_iload_n hx hb dX9_next_11 rfl (lv_at hl 0 rfl) ?_
    exact zret_i hx hb hr hlocks hf hP hS dX9_next_12
theorem hi_X9_previous_9 : ∀ w ∈ wsX90, w ∈ wsX9_previous := fun _ h => List.mem_cons_of_mem _ (List.mem_append_right _ h)
set_option maxHeartbeats 4000000 in
set_option maxRecDepth 100000 in
theorem k_X9_previous (l : Launch) (D : va_G) (cy : Nat → ClassId) (b : Nat) (M0 : Mem) (h0 : Nat) (x1 : Int32) (x2 : Int32) (rr : Int32 × Mem) (hf : fX9_previous M0 h0 x1 x2 = some rr) : Met l yX9_previous wsX9_previous ({ frames := 3, cells := 0, slots := 0, locals := 65 } : Room) (zPc D cy b M0 [.ref (b + h0), .int x1, .int x2]) (zQi D cy b rr) 0 0 (zA b) := by
  refine Met.ofW (cc := cX9_previous) (maxL := 5) (ret := (some .int)) (by decide) rfl ?_
  intro p e s m args below meth c s₁ B hml hv
  obtain ⟨rfl, hP, hK⟩ := hv
  have hx := B.exec
  have hb := B.bytes
  have hr := B.returns
  have hts := atoms_spec (ws := wsX9_previous) B.pre
  have hown : s.vm.findClass RX9 = some m.cls := findClass_of_methodNamed B.named
  have hlocks := B.notSynchronized
  have hS : va_S (zA b) s.heap s.heap [] := va_S.rf
  have hl := lv_entry ([.ref (b + h0), .int x1, .int x2]) (n := 5) (Nat.le_of_ble_eq_true rfl)
  rw [lg_entry_eq]
  generalize (lg_sl ([.ref (b + h0), .int x1, .int x2]) ++ List.replicate (5 - (lg_sl ([.ref (b + h0), .int x1, .int x2])).length) Slot.unset).toArray = ls at hl ⊢
  have hl : lv_has ls 5 [(0, .ref (b + h0)), (1, .int x1), (2, .int x2)] := hl
  have L23 : ∀ (n23 : Nat) (M : Mem) (H : Heap) (locs : List Loc) (ls : Array Slot) (h0 : Nat) (x1 : Int32) (x2 : Int32) (x4 : Int32), fX9_previous_23L  n23 M h0 x1 x2 x4 = some rr → zH D cy b M H → va_S (zA b) s.heap H locs → lv_has ls 5 [(0, .ref (b + h0)), (1, .int x1), (2, .int x2), (4, .int x4)] → W p l e (headSpec wsX9_previous ({ frames := 3, cells := 0, slots := 0, locals := 65 } : Room)).room s m ([.ref (b + h0), .int x1, .int x2] : List Value).toArray below meth c H locs 0 0 (MQ below (zQi D cy b rr) ([.ref (b + h0), .int x1, .int x2] : List Value).toArray s 0 0 (zA b)) (F0 m 23 ls []) := by
    intro n23
    induction n23 with
    | zero =>
      intro M H locs ls h0 x1 x2 x4 hf
      have hf : (none : Option (Int32 × Mem)) = some rr := hf
      cases hf
    | succ n23 ih23 =>
      have J62 : ∀ (M : Mem) (H : Heap) (locs : List Loc) (ls : Array Slot) (h0 : Nat) (x1 : Int32) (x2 : Int32) (x4 : Int32), fX9_previous_62 (fX9_previous_23L  n23) M h0 x1 x2 x4 = some rr → zH D cy b M H → va_S (zA b) s.heap H locs → lv_has ls 5 [(0, .ref (b + h0)), (1, .int x1), (2, .int x2), (4, .int x4)] → W p l e (headSpec wsX9_previous ({ frames := 3, cells := 0, slots := 0, locals := 65 } : Room)).room s m ([.ref (b + h0), .int x1, .int x2] : List Value).toArray below meth c H locs 0 0 (MQ below (zQi D cy b rr) ([.ref (b + h0), .int x1, .int x2] : List Value).toArray s 0 0 (zA b)) (F0 m 62 ls []) := by
        intro M H locs ls h0 x1 x2 x4 hf hP hS hl
        unfold fX9_previous_62 at hf
        obtain ⟨x4_62, q62, hf⟩ := zlt_s hf
        refine lv_iinc (v := x4_62) (lv' := [(4, .int x4_62), (0, .ref (b + h0)), (1, .int x1), (2, .int x2)]) hx hb dX9_previous_62 hl (k := 3) rfl (by rw [← q62]; rfl) (by decide) rfl (fun ls hl => ?_)
        refine lv_goto (tgt := 23) hx hb dX9_previous_65 (by decide) ?_
        exact ih23 _ _ _ _ _ _ _ _ hf hP hS (lv_sub hl [1, 2, 3, 0] rfl)
      intro M H locs ls h0 x1 x2 x4 hf hP hS hl
      have hf : fX9_previous_23  (fX9_previous_23L  n23) M h0 x1 x2 x4 = some rr := hf
      unfold fX9_previous_23 at hf
      refine lv_iload hx hb dX9_previous_23 (lv_at hl 3 rfl) ?_
      refine lv_if_lt (tgt := 68) hx hb dX9_previous_25 (by decide) (fun c25 => ?_) (fun c25 => ?_)
      · have hf := (if_pos c25).symm.trans hf
        refine lv_bipush (v := (-5 : Int32)) hx hb dX9_previous_68 (by decide) ?_
        exact zret_i hx hb hr hlocks hf hP hS dX9_previous_70
      · have hf := (if_neg c25).symm.trans hf
        refine lv_aload_n hx hb dX9_previous_28 rfl (lv_at hl 0 rfl) ?_
        refine lv_iload_n hx hb dX9_previous_29 rfl (lv_at hl 1 rfl) ?_
        refine lv_iload hx hb dX9_previous_30 (lv_at hl 3 rfl) ?_
        obtain ⟨u32, t32, hf⟩ := zb hf
        obtain ⟨r32, e32, hf⟩ := zb hf
        refine zc_i hS (va_runV (As := [.int x1, .int x4]) (rest := []) ⟨hx, hb, hml, hown, hts⟩ (k_X9_raw l D cy b M h0 x1 x4 r32 e32) (cwV 2 hts gX9_previous_X9_raw rfl rfl rfl (by decide +kernel) ⟨Nat.le_of_ble_eq_true rfl, Nat.le_of_ble_eq_true rfl⟩) (zp_V _ hK hP t32 (T := TX9) (N := 54) rfl (by decide)) rfl rfl hl.1 rfl (lv_room (Nat.le_of_ble_eq_true rfl)) dX9_previous_32 ⟨Nat.zero_le _, Nat.zero_le _⟩) (fun H locs hP hS => ?_)
        refine lv_iload_n hx hb dX9_previous_35 rfl (lv_at hl 2 rfl) ?_
        refine lv_icmp_ge (tgt := 62) hx hb dX9_previous_36 (by decide) (fun c36 => ?_) (fun c36 => ?_)
        · have hf := (if_pos c36).symm.trans hf
          exact J62 _ _ _ _ _ _ _ _ hf hP hS (lv_sub hl [0, 1, 2, 3] rfl)
        · have hf := (if_neg c36).symm.trans hf
          refine lv_aload_n hx hb dX9_previous_39 rfl (lv_at hl 0 rfl) ?_
          refine lv_iload_n hx hb dX9_previous_40 rfl (lv_at hl 1 rfl) ?_
          refine lv_aload_n hx hb dX9_previous_41 rfl (lv_at hl 0 rfl) ?_
          refine lv_iload_n hx hb dX9_previous_42 rfl (lv_at hl 1 rfl) ?_
          refine lv_iload hx hb dX9_previous_43 (lv_at hl 3 rfl) ?_
          obtain ⟨u45, t45, hf⟩ := zb hf
          obtain ⟨r45, e45, hf⟩ := zb hf
          refine zc_i hS (va_runV (As := [.int x1, .int x4]) (rest := [.int x1, .ref (b + h0)]) ⟨hx, hb, hml, hown, hts⟩ (k_X9_raw l D cy b r32.2 h0 x1 x4 r45 e45) (cwV 2 hts gX9_previous_X9_raw rfl rfl rfl (by decide +kernel) ⟨Nat.le_of_ble_eq_true rfl, Nat.le_of_ble_eq_true rfl⟩) (zp_V _ hK hP t45 (T := TX9) (N := 54) rfl (by decide)) rfl rfl hl.1 rfl (lv_room (Nat.le_of_ble_eq_true rfl)) dX9_previous_45 ⟨Nat.zero_le _, Nat.zero_le _⟩) (fun H locs hP hS => ?_)
          obtain ⟨u48, t48, hf⟩ := zb hf
          obtain ⟨r48, e48, hf⟩ := zb hf
          refine zc_i hS (va_runV (As := [.int x1, .int r45.1]) (rest := []) ⟨hx, hb, hml, hown, hts⟩ (k_X9_isSuppressed l D cy b r45.2 h0 x1 r45.1 r48 e48) (cwV 2 hts gX9_previous_X9_isSuppressed rfl rfl rfl (by decide +kernel) ⟨Nat.le_of_ble_eq_true rfl, Nat.le_of_ble_eq_true rfl⟩) (zp_V _ hK hP t48 (T := TX9) (N := 54) rfl (by decide)) rfl rfl hl.1 rfl (lv_room (Nat.le_of_ble_eq_true rfl)) dX9_previous_48 ⟨Nat.zero_le _, Nat.zero_le _⟩) (fun H locs hP hS => ?_)
          refine lv_if_ne (tgt := 62) hx hb dX9_previous_51 (by decide) (fun c51 => ?_) (fun c51 => ?_)
          · have hf := (if_neg c51).symm.trans hf
            exact J62 _ _ _ _ _ _ _ _ hf hP hS (lv_sub hl [0, 1, 2, 3] rfl)
          · have hf := (if_pos c51).symm.trans hf
            refine lv_aload_n hx hb dX9_previous_54 rfl (lv_at hl 0 rfl) ?_
            refine lv_iload_n hx hb dX9_previous_55 rfl (lv_at hl 1 rfl) ?_
            refine lv_iload hx hb dX9_previous_56 (lv_at hl 3 rfl) ?_
            obtain ⟨u58, t58, hf⟩ := zb hf
            obtain ⟨r58, e58, hf⟩ := zb hf
            refine zc_i hS (va_runV (As := [.int x1, .int x4]) (rest := []) ⟨hx, hb, hml, hown, hts⟩ (k_X9_raw l D cy b r48.2 h0 x1 x4 r58 e58) (cwV 2 hts gX9_previous_X9_raw rfl rfl rfl (by decide +kernel) ⟨Nat.le_of_ble_eq_true rfl, Nat.le_of_ble_eq_true rfl⟩) (zp_V _ hK hP t58 (T := TX9) (N := 54) rfl (by decide)) rfl rfl hl.1 rfl (lv_room (Nat.le_of_ble_eq_true rfl)) dX9_previous_58 ⟨Nat.zero_le _, Nat.zero_le _⟩) (fun H locs hP hS => ?_)
            exact zret_i hx hb hr hlocks hf hP hS dX9_previous_61
  unfold fX9_previous at hf
  refine lv_aload_n hx hb dX9_previous_0 rfl (lv_at hl 0 rfl) ?_
  refine lv_iload_n hx hb dX9_previous_1 rfl (lv_at hl 1 rfl) ?_
  refine lv_iload_n hx hb dX9_previous_2 rfl (lv_at hl 2 rfl) ?_
  obtain ⟨u3, t3, hf⟩ := zb hf
  obtain ⟨r3, e3, hf⟩ := zb hf
  refine zc_i hS (va_runV (As := [.int x1, .int x2]) (rest := []) ⟨hx, hb, hml, hown, hts⟩ (k_X9_barred l D cy b M0 h0 x1 x2 r3 e3) (cwV 2 hts gX9_previous_X9_barred rfl rfl rfl (by decide +kernel) ⟨Nat.le_of_ble_eq_true rfl, Nat.le_of_ble_eq_true rfl⟩) (zp_V _ hK hP t3 (T := TX9) (N := 54) rfl (by decide)) rfl rfl hl.1 rfl (lv_room (Nat.le_of_ble_eq_true rfl)) dX9_previous_3 ⟨Nat.zero_le _, Nat.zero_le _⟩) (fun H locs hP hS => ?_)
  refine lv_istore_n (lv' := [(3, .int r3.1), (0, .ref (b + h0)), (1, .int x1), (2, .int x2)]) hx hb dX9_previous_6 rfl hl (by decide) rfl (fun ls hl => ?_)
  refine lv_iload_n hx hb dX9_previous_7 rfl (lv_at hl 0 rfl) ?_
  refine lv_if_ge (tgt := 13) hx hb dX9_previous_8 (by decide) (fun c8 => ?_) (fun c8 => ?_)
  · have hf := (if_pos c8).symm.trans hf
    refine lv_aload_n hx hb dX9_previous_13 rfl (lv_at hl 1 rfl) ?_
    obtain ⟨v14, e14, hf⟩ := zb hf
    refine zr_gr (ci := 9) (k := 33) (C := RX9) (T := TX9) (N := 54) hx hb hts hi_X9_previous_9 hown hK hP e14 rfl rfl (by decide) (by decide) (hts (.fieldLink RX9 81 "BoundaryAnalyzerModel" "rawMany" "[I") (List.mem_of_getElem? (i := 1) rfl)) dX9_previous_14 ?_
    refine lv_iload_n hx hb dX9_previous_17 rfl (lv_at hl 2 rfl) ?_
    obtain ⟨v18, e18, hf⟩ := zb hf
    refine zr_ai hx hb hK hP e18 dX9_previous_18 ?_
    refine lv_iconst (v := (1 : Int32)) hx hb dX9_previous_19 (by decide) ?_
    refine lv_isub hx hb dX9_previous_20 ?_
    obtain ⟨x4_21, q21, hf⟩ := zlt_s hf
    refine zt q21 ?_
    refine lv_istore (lv' := [(4, .int x4_21), (3, .int r3.1), (0, .ref (b + h0)), (1, .int x1), (2, .int x2)]) hx hb dX9_previous_21 hl (by decide) rfl (fun ls hl => ?_)
    exact L23 _ _ _ _ _ _ _ _ _ hf hP hS (lv_sub hl [2, 3, 4, 0] rfl)
  · have hf := (if_neg c8).symm.trans hf
    refine lv_iload_n hx hb dX9_previous_11 rfl (lv_at hl 0 rfl) ?_
    exact zret_i hx hb hr hlocks hf hP hS dX9_previous_12
theorem hi_X9_layBoundaries_9 : ∀ w ∈ wsX90, w ∈ wsX9_layBoundaries := fun _ h => List.mem_cons_of_mem _ (List.mem_append_right _ h)
set_option maxHeartbeats 4000000 in
set_option maxRecDepth 100000 in
theorem k_X9_layBoundaries (l : Launch) (D : va_G) (cy : Nat → ClassId) (b : Nat) (M0 : Mem) (h0 : Nat) (x1 : Int32) (rr : Mem) (hf : fX9_layBoundaries M0 h0 x1 = some rr) : Met l yX9_layBoundaries wsX9_layBoundaries ({ frames := 2, cells := 0, slots := 0, locals := 50 } : Room) (zPc D cy b M0 [.ref (b + h0), .int x1]) (zQv D cy b rr) 0 0 (zA b) := by
  refine Met.ofW (cc := cX9_layBoundaries) (maxL := 3) (ret := none) (by decide) rfl ?_
  intro p e s m args below meth c s₁ B hml hv
  obtain ⟨rfl, hP, hK⟩ := hv
  have hx := B.exec
  have hb := B.bytes
  have hr := B.returns
  have hts := atoms_spec (ws := wsX9_layBoundaries) B.pre
  have hown : s.vm.findClass RX9 = some m.cls := findClass_of_methodNamed B.named
  have hlocks := B.notSynchronized
  have hS : va_S (zA b) s.heap s.heap [] := va_S.rf
  have hl := lv_entry ([.ref (b + h0), .int x1]) (n := 3) (Nat.le_of_ble_eq_true rfl)
  rw [lg_entry_eq]
  generalize (lg_sl ([.ref (b + h0), .int x1]) ++ List.replicate (3 - (lg_sl ([.ref (b + h0), .int x1])).length) Slot.unset).toArray = ls at hl ⊢
  have hl : lv_has ls 3 [(0, .ref (b + h0)), (1, .int x1)] := hl
  have L7 : ∀ (n7 : Nat) (M : Mem) (H : Heap) (locs : List Loc) (ls : Array Slot) (h0 : Nat) (x1 : Int32) (x2 : Int32), fX9_layBoundaries_7L  n7 M h0 x1 x2 = some rr → zH D cy b M H → va_S (zA b) s.heap H locs → lv_has ls 3 [(0, .ref (b + h0)), (1, .int x1), (2, .int x2)] → W p l e (headSpec wsX9_layBoundaries ({ frames := 2, cells := 0, slots := 0, locals := 50 } : Room)).room s m ([.ref (b + h0), .int x1] : List Value).toArray below meth c H locs 0 0 (MQ below (zQv D cy b rr) ([.ref (b + h0), .int x1] : List Value).toArray s 0 0 (zA b)) (F0 m 7 ls []) := by
    intro n7
    induction n7 with
    | zero =>
      intro M H locs ls h0 x1 x2 hf
      have hf : (none : Option Mem) = some rr := hf
      cases hf
    | succ n7 ih7 =>
      have J56 : ∀ (M : Mem) (H : Heap) (locs : List Loc) (ls : Array Slot) (h0 : Nat) (x1 : Int32) (x2 : Int32), fX9_layBoundaries_56 (fX9_layBoundaries_7L  n7) M h0 x1 x2 = some rr → zH D cy b M H → va_S (zA b) s.heap H locs → lv_has ls 3 [(0, .ref (b + h0)), (1, .int x1), (2, .int x2)] → W p l e (headSpec wsX9_layBoundaries ({ frames := 2, cells := 0, slots := 0, locals := 50 } : Room)).room s m ([.ref (b + h0), .int x1] : List Value).toArray below meth c H locs 0 0 (MQ below (zQv D cy b rr) ([.ref (b + h0), .int x1] : List Value).toArray s 0 0 (zA b)) (F0 m 56 ls []) := by
        intro M H locs ls h0 x1 x2 hf hP hS hl
        unfold fX9_layBoundaries_56 at hf
        obtain ⟨x2_56, q56, hf⟩ := zlt_s hf
        refine lv_iinc (v := x2_56) (lv' := [(2, .int x2_56), (0, .ref (b + h0)), (1, .int x1)]) hx hb dX9_layBoundaries_56 hl (k := 2) rfl (by rw [← q56]; rfl) (by decide) rfl (fun ls hl => ?_)
        refine lv_goto (tgt := 7) hx hb dX9_layBoundaries_59 (by decide) ?_
        exact ih7 _ _ _ _ _ _ _ hf hP hS (lv_sub hl [1, 2, 0] rfl)
      intro M H locs ls h0 x1 x2 hf hP hS hl
      have hf : fX9_layBoundaries_7  (fX9_layBoundaries_7L  n7) M h0 x1 x2 = some rr := hf
      unfold fX9_layBoundaries_7 at hf
      refine lv_iload_n hx hb dX9_layBoundaries_7 rfl (lv_at hl 2 rfl) ?_
      refine lv_aload_n hx hb dX9_layBoundaries_8 rfl (lv_at hl 0 rfl) ?_
      obtain ⟨v9, e9, hf⟩ := zb hf
      refine zr_gr (ci := 9) (k := 33) (C := RX9) (T := TX9) (N := 54) hx hb hts hi_X9_layBoundaries_9 hown hK hP e9 rfl rfl (by decide) (by decide) (hts (.fieldLink RX9 81 "BoundaryAnalyzerModel" "rawMany" "[I") (List.mem_of_getElem? (i := 2) rfl)) dX9_layBoundaries_9 ?_
      refine lv_iload_n hx hb dX9_layBoundaries_12 rfl (lv_at hl 1 rfl) ?_
      obtain ⟨v13, e13, hf⟩ := zb hf
      refine zr_ai hx hb hK hP e13 dX9_layBoundaries_13 ?_
      refine lv_icmp_ge (tgt := 62) hx hb dX9_layBoundaries_14 (by decide) (fun c14 => ?_) (fun c14 => ?_)
      · have hf := (if_pos c14).symm.trans hf
        exact zret_v hx hb hr hlocks hf hP hS dX9_layBoundaries_62
      · have hf := (if_neg c14).symm.trans hf
        refine lv_aload_n hx hb dX9_layBoundaries_17 rfl (lv_at hl 0 rfl) ?_
        refine lv_iload_n hx hb dX9_layBoundaries_18 rfl (lv_at hl 1 rfl) ?_
        refine lv_aload_n hx hb dX9_layBoundaries_19 rfl (lv_at hl 0 rfl) ?_
        refine lv_iload_n hx hb dX9_layBoundaries_20 rfl (lv_at hl 1 rfl) ?_
        refine lv_iload_n hx hb dX9_layBoundaries_21 rfl (lv_at hl 2 rfl) ?_
        obtain ⟨u22, t22, hf⟩ := zb hf
        obtain ⟨r22, e22, hf⟩ := zb hf
        refine zc_i hS (va_runV (As := [.int x1, .int x2]) (rest := [.int x1, .ref (b + h0)]) ⟨hx, hb, hml, hown, hts⟩ (k_X9_raw l D cy b M h0 x1 x2 r22 e22) (cwV 2 hts gX9_layBoundaries_X9_raw rfl rfl rfl (by decide +kernel) ⟨Nat.le_of_ble_eq_true rfl, Nat.le_of_ble_eq_true rfl⟩) (zp_V _ hK hP t22 (T := TX9) (N := 54) rfl (by decide)) rfl rfl hl.1 rfl (lv_room (Nat.le_of_ble_eq_true rfl)) dX9_layBoundaries_22 ⟨Nat.zero_le _, Nat.zero_le _⟩) (fun H locs hP hS => ?_)
        obtain ⟨u25, t25, hf⟩ := zb hf
        obtain ⟨r25, e25, hf⟩ := zb hf
        refine zc_i hS (va_runV (As := [.int x1, .int r22.1]) (rest := []) ⟨hx, hb, hml, hown, hts⟩ (k_X9_isSuppressed l D cy b r22.2 h0 x1 r22.1 r25 e25) (cwV 2 hts gX9_layBoundaries_X9_isSuppressed rfl rfl rfl (by decide +kernel) ⟨Nat.le_of_ble_eq_true rfl, Nat.le_of_ble_eq_true rfl⟩) (zp_V _ hK hP t25 (T := TX9) (N := 54) rfl (by decide)) rfl rfl hl.1 rfl (lv_room (Nat.le_of_ble_eq_true rfl)) dX9_layBoundaries_25 ⟨Nat.zero_le _, Nat.zero_le _⟩) (fun H locs hP hS => ?_)
        refine lv_if_ne (tgt := 56) hx hb dX9_layBoundaries_28 (by decide) (fun c28 => ?_) (fun c28 => ?_)
        · have hf := (if_neg c28).symm.trans hf
          exact J56 _ _ _ _ _ _ _ hf hP hS (lv_sub hl [0, 1, 2] rfl)
        · have hf := (if_pos c28).symm.trans hf
          refine lv_aload_n hx hb dX9_layBoundaries_31 rfl (lv_at hl 0 rfl) ?_
          obtain ⟨v32, e32, hf⟩ := zb hf
          refine zr_gr (ci := 9) (k := 53) (C := RX9) (T := TX9) (N := 54) hx hb hts hi_X9_layBoundaries_9 hown hK hP e32 rfl rfl (by decide) (by decide) (hts (.fieldLink RX9 129 "BoundaryAnalyzerModel" "boundary" "[I") (List.mem_of_getElem? (i := 3) rfl)) dX9_layBoundaries_32 ?_
          refine lv_aload_n hx hb dX9_layBoundaries_35 rfl (lv_at hl 0 rfl) ?_
          obtain ⟨v36, e36, hf⟩ := zb hf
          refine zr_gi (ci := 9) (k := 52) (C := RX9) (T := TX9) (N := 54) hx hb hts hi_X9_layBoundaries_9 hown hK hP e36 rfl rfl (by decide) (by decide) (hts (.fieldLink RX9 294 "BoundaryAnalyzerModel" "boundaries" "I") (List.mem_of_getElem? (i := 1) rfl)) dX9_layBoundaries_36 ?_
          refine lv_aload_n hx hb dX9_layBoundaries_39 rfl (lv_at hl 0 rfl) ?_
          refine lv_iload_n hx hb dX9_layBoundaries_40 rfl (lv_at hl 1 rfl) ?_
          refine lv_iload_n hx hb dX9_layBoundaries_41 rfl (lv_at hl 2 rfl) ?_
          obtain ⟨u42, t42, hf⟩ := zb hf
          obtain ⟨r42, e42, hf⟩ := zb hf
          refine zc_i hS (va_runV (As := [.int x1, .int x2]) (rest := [.int v36, .ref (b + v32)]) ⟨hx, hb, hml, hown, hts⟩ (k_X9_raw l D cy b r25.2 h0 x1 x2 r42 e42) (cwV 2 hts gX9_layBoundaries_X9_raw rfl rfl rfl (by decide +kernel) ⟨Nat.le_of_ble_eq_true rfl, Nat.le_of_ble_eq_true rfl⟩) (zp_V _ hK hP t42 (T := TX9) (N := 54) rfl (by decide)) rfl rfl hl.1 rfl (lv_room (Nat.le_of_ble_eq_true rfl)) dX9_layBoundaries_42 ⟨Nat.zero_le _, Nat.zero_le _⟩) (fun H locs hP hS => ?_)
          obtain ⟨M45, e45, hf⟩ := zb hf
          refine zr_si hx hb hK hP hS e45 dX9_layBoundaries_45 (fun H locs hP _ hS => ?_)
          refine lv_aload_n hx hb dX9_layBoundaries_46 rfl (lv_at hl 0 rfl) ?_
          refine lv_dup hx hb dX9_layBoundaries_47 rfl ?_
          obtain ⟨v48, e48, hf⟩ := zb hf
          refine zr_gi (ci := 9) (k := 52) (C := RX9) (T := TX9) (N := 54) hx hb hts hi_X9_layBoundaries_9 hown hK hP e48 rfl rfl (by decide) (by decide) (hts (.fieldLink RX9 294 "BoundaryAnalyzerModel" "boundaries" "I") (List.mem_of_getElem? (i := 1) rfl)) dX9_layBoundaries_48 ?_
          refine lv_iconst (v := (1 : Int32)) hx hb dX9_layBoundaries_51 (by decide) ?_
          refine lv_iadd hx hb dX9_layBoundaries_52 ?_
          obtain ⟨M53, e53, hf⟩ := zb hf
          refine zr_pi (ci := 9) (k := 52) (C := RX9) (T := TX9) (N := 54) hx hb hts hi_X9_layBoundaries_9 tyX9 tyX9_ok nmX9 hown hK hP hS e53 rfl rfl (by decide) (by decide) (hts (.fieldLink RX9 294 "BoundaryAnalyzerModel" "boundaries" "I") (List.mem_of_getElem? (i := 1) rfl)) rfl (tyX9_ok 52 (by decide)) dX9_layBoundaries_53 (fun H locs hP _ hS => ?_)
          exact J56 _ _ _ _ _ _ _ hf hP hS (lv_sub hl [0, 1, 2] rfl)
  unfold fX9_layBoundaries at hf
  refine lv_aload_n hx hb dX9_layBoundaries_0 rfl (lv_at hl 0 rfl) ?_
  refine lv_iconst (v := (0 : Int32)) hx hb dX9_layBoundaries_1 (by decide) ?_
  obtain ⟨M2, e2, hf⟩ := zb hf
  refine zr_pi (ci := 9) (k := 52) (C := RX9) (T := TX9) (N := 54) hx hb hts hi_X9_layBoundaries_9 tyX9 tyX9_ok nmX9 hown hK hP hS e2 rfl rfl (by decide) (by decide) (hts (.fieldLink RX9 294 "BoundaryAnalyzerModel" "boundaries" "I") (List.mem_of_getElem? (i := 1) rfl)) rfl (tyX9_ok 52 (by decide)) dX9_layBoundaries_2 (fun H locs hP _ hS => ?_)
  refine lv_iconst (v := (0 : Int32)) hx hb dX9_layBoundaries_5 (by decide) ?_
  refine lv_istore_n (lv' := [(2, .int (0 : Int32)), (0, .ref (b + h0)), (1, .int x1)]) hx hb dX9_layBoundaries_6 rfl hl (by decide) rfl (fun ls hl => ?_)
  exact L7 _ _ _ _ _ _ _ _ hf hP hS (lv_sub hl [1, 2, 0] rfl)
