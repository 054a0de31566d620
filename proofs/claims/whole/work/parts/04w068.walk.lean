theorem hi_X9_isSuppressed_9 : ∀ w ∈ wsX90, w ∈ wsX9_isSuppressed := fun _ h => List.mem_cons_of_mem _ (List.mem_append_right _ h)
set_option maxHeartbeats 4000000 in
set_option maxRecDepth 100000 in
theorem k_X9_isSuppressed (l : Launch) (D : va_G) (cy : Nat → ClassId) (b : Nat) (M0 : Mem) (p0 : Nat) (p1 : Int32) (p2 : Int32) (rr : Int32 × Mem) (hf : fX9_isSuppressed M0 p0 p1 p2 = some rr) : Met l yX9_isSuppressed wsX9_isSuppressed ({ frames := 1, cells := 0, slots := 0, locals := 25 } : Room) (zPc D cy b M0 [.ref (b + p0), .int p1, .int p2]) (zQi D cy b rr) 0 0 (zA b) := by
  refine Met.ofW (cc := cX9_isSuppressed) (maxL := 6) (ret := (some .boolean)) (by decide) rfl ?_
  intro p e s m args below meth c s₁ B hml hv
  obtain ⟨rfl, hP, hK⟩ := hv
  have hx := B.exec
  have hb := B.bytes
  have hr := B.returns
  have hts := atoms_spec (ws := wsX9_isSuppressed) B.pre
  have hown : s.vm.findClass RX9 = some m.cls := findClass_of_methodNamed B.named
  have hlocks := B.notSynchronized
  have hS : va_S (zA b) s.heap s.heap [] := va_S.rf
  have hl := lv_entry ([.ref (b + p0), .int p1, .int p2]) (n := 6) (Nat.le_of_ble_eq_true rfl)
  rw [lg_entry_eq]
  generalize (lg_sl ([.ref (b + p0), .int p1, .int p2]) ++ List.replicate (6 - (lg_sl ([.ref (b + p0), .int p1, .int p2])).length) Slot.unset).toArray = ls at hl ⊢
  have hl : lv_has ls 6 [(0, .ref (b + p0)), (1, .int p1), (2, .int p2)] := hl
  have L27 : ∀ (n27 : Nat) (M : Mem) (H : Heap) (locs : List Loc) (ls : Array Slot) (h0 : Nat) (x3 : Int32) (x4 : Int32) (x5 : Int32), fX9_isSuppressed_27L  n27 M h0 x3 x4 x5 = some rr → zH D cy b M H → va_S (zA b) s.heap H locs → lv_has ls 6 [(0, .ref (b + h0)), (3, .int x3), (4, .int x4), (5, .int x5)] → W p l e (headSpec wsX9_isSuppressed ({ frames := 1, cells := 0, slots := 0, locals := 25 } : Room)).room s m ([.ref (b + p0), .int p1, .int p2] : List Value).toArray below meth c H locs 0 0 (MQ below (zQi D cy b rr) ([.ref (b + p0), .int p1, .int p2] : List Value).toArray s 0 0 (zA b)) (F0 m 27 ls []) := by
    intro n27
    induction n27 with
    | zero =>
      intro M H locs ls h0 x3 x4 x5 hf
      have hf : (none : Option (Int32 × Mem)) = some rr := hf
      cases hf
    | succ n27 ih27 =>
      have J93 : ∀ (M : Mem) (H : Heap) (locs : List Loc) (ls : Array Slot) (h0 : Nat) (x3 : Int32) (x4 : Int32) (y0 : Int32), fX9_isSuppressed_93 (fX9_isSuppressed_27L  n27) M h0 x3 x4 y0 = some rr → zH D cy b M H → va_S (zA b) s.heap H locs → lv_has ls 6 [(0, .ref (b + h0)), (3, .int x3), (4, .int x4)] → W p l e (headSpec wsX9_isSuppressed ({ frames := 1, cells := 0, slots := 0, locals := 25 } : Room)).room s m ([.ref (b + p0), .int p1, .int p2] : List Value).toArray below meth c H locs 0 0 (MQ below (zQi D cy b rr) ([.ref (b + p0), .int p1, .int p2] : List Value).toArray s 0 0 (zA b)) (F0 m 93 ls [.int y0]) := by
        intro M H locs ls h0 x3 x4 y0 hf hP hS hl
        unfold fX9_isSuppressed_93 at hf
        refine lv_istore (lv' := [(5, .int y0), (0, .ref (b + h0)), (3, .int x3), (4, .int x4)]) hx hb dX9_isSuppressed_93 hl (by decide) rfl (fun ls hl => ?_)
        obtain ⟨x3_95, q95, hf⟩ := zlt_s hf
        refine lv_iinc (v := x3_95) (lv' := [(3, .int x3_95), (5, .int y0), (0, .ref (b + h0)), (4, .int x4)]) hx hb dX9_isSuppressed_95 hl (k := 2) rfl (by rw [← q95]; rfl) (by decide) rfl (fun ls hl => ?_)
        refine lv_goto (tgt := 27) hx hb dX9_isSuppressed_98 (by decide) ?_
        exact ih27 _ _ _ _ _ _ _ _ hf hP hS (lv_sub hl [2, 0, 3, 1] rfl)
      have J69 : ∀ (M : Mem) (H : Heap) (locs : List Loc) (ls : Array Slot) (h0 : Nat) (x3 : Int32) (y0 : Int32), fX9_isSuppressed_69 (fX9_isSuppressed_27L  n27) M h0 x3 y0 = some rr → zH D cy b M H → va_S (zA b) s.heap H locs → lv_has ls 6 [(0, .ref (b + h0)), (3, .int x3)] → W p l e (headSpec wsX9_isSuppressed ({ frames := 1, cells := 0, slots := 0, locals := 25 } : Room)).room s m ([.ref (b + p0), .int p1, .int p2] : List Value).toArray below meth c H locs 0 0 (MQ below (zQi D cy b rr) ([.ref (b + p0), .int p1, .int p2] : List Value).toArray s 0 0 (zA b)) (F0 m 69 ls [.int y0]) := by
        intro M H locs ls h0 x3 y0 hf hP hS hl
        unfold fX9_isSuppressed_69 at hf
        refine lv_istore (lv' := [(4, .int y0), (0, .ref (b + h0)), (3, .int x3)]) hx hb dX9_isSuppressed_69 hl (by decide) rfl (fun ls hl => ?_)
        refine lv_aload_n hx hb dX9_isSuppressed_71 rfl (lv_at hl 1 rfl) ?_
        obtain ⟨v72, e72, hf⟩ := zb hf
        refine zr_gr (ci := 9) (k := 0) (C := RX9) (T := TX9) (N := 54) hx hb hts hi_X9_isSuppressed_9 hown hK hP e72 rfl rfl (by decide) (by decide) (hts (.fieldLink RX9 7 "BoundaryAnalyzerModel" "classAt" "[I") (List.mem_of_getElem? (i := 3) rfl)) dX9_isSuppressed_72 ?_
        refine lv_aload_n hx hb dX9_isSuppressed_75 rfl (lv_at hl 1 rfl) ?_
        obtain ⟨v76, e76, hf⟩ := zb hf
        refine zr_gr (ci := 9) (k := 32) (C := RX9) (T := TX9) (N := 54) hx hb hts hi_X9_isSuppressed_9 hown hK hP e76 rfl rfl (by decide) (by decide) (hts (.fieldLink RX9 78 "BoundaryAnalyzerModel" "text" "[C") (List.mem_of_getElem? (i := 2) rfl)) dX9_isSuppressed_76 ?_
        refine lv_iload_n hx hb dX9_isSuppressed_79 rfl (lv_at hl 2 rfl) ?_
        refine lv_iconst (v := (1 : Int32)) hx hb dX9_isSuppressed_80 (by decide) ?_
        refine lv_isub hx hb dX9_isSuppressed_81 ?_
        obtain ⟨v82, e82, hf⟩ := zb hf
        refine zr_ac hx hb hK hP e82 dX9_isSuppressed_82 ?_
        obtain ⟨v83, e83, hf⟩ := zb hf
        refine zr_ai hx hb hK hP e83 dX9_isSuppressed_83 ?_
        refine lv_iconst (v := (2 : Int32)) hx hb dX9_isSuppressed_84 (by decide) ?_
        refine lv_icmp_ne (tgt := 92) hx hb dX9_isSuppressed_85 (by decide) (fun c85 => ?_) (fun c85 => ?_)
        · have hf := (if_neg c85).symm.trans hf
          refine lv_iconst (v := (0 : Int32)) hx hb dX9_isSuppressed_92 (by decide) ?_
          exact J93 _ _ _ _ _ _ _ _ hf hP hS (lv_sub hl [1, 2, 0] rfl)
        · have hf := (if_pos c85).symm.trans hf
          refine lv_iconst (v := (1 : Int32)) hx hb dX9_isSuppressed_88 (by decide) ?_
          refine lv_goto (tgt := 93) hx hb dX9_isSuppressed_89 (by decide) ?_
          exact J93 _ _ _ _ _ _ _ _ hf hP hS (lv_sub hl [1, 2, 0] rfl)
      have J68 : ∀ (M : Mem) (H : Heap) (locs : List Loc) (ls : Array Slot) (h0 : Nat) (x3 : Int32), fX9_isSuppressed_68 (fX9_isSuppressed_27L  n27) M h0 x3 = some rr → zH D cy b M H → va_S (zA b) s.heap H locs → lv_has ls 6 [(0, .ref (b + h0)), (3, .int x3)] → W p l e (headSpec wsX9_isSuppressed ({ frames := 1, cells := 0, slots := 0, locals := 25 } : Room)).room s m ([.ref (b + p0), .int p1, .int p2] : List Value).toArray below meth c H locs 0 0 (MQ below (zQi D cy b rr) ([.ref (b + p0), .int p1, .int p2] : List Value).toArray s 0 0 (zA b)) (F0 m 68 ls []) := by
        intro M H locs ls h0 x3 hf hP hS hl
        unfold fX9_isSuppressed_68 at hf
        refine lv_iconst (v := (0 : Int32)) hx hb dX9_isSuppressed_68 (by decide) ?_
        exact J69 _ _ _ _ _ _ _ hf hP hS (lv_sub hl [0, 1] rfl)
      intro M H locs ls h0 x3 x4 x5 hf hP hS hl
      have hf : fX9_isSuppressed_27  (fX9_isSuppressed_27L  n27) M h0 x3 x4 x5 = some rr := hf
      unfold fX9_isSuppressed_27 at hf
      refine lv_iload hx hb dX9_isSuppressed_27 (lv_at hl 3 rfl) ?_
      refine lv_if_eq (tgt := 101) hx hb dX9_isSuppressed_29 (by decide) (fun c29 => ?_) (fun c29 => ?_)
      · have hf := (if_pos c29).symm.trans hf
        refine lv_iload hx hb dX9_isSuppressed_101 (lv_at hl 2 rfl) ?_
        exact zret_z hx hb hr (Or.inl rfl) hlocks hf hP hS dX9_isSuppressed_103
      · have hf := (if_neg c29).symm.trans hf
        refine lv_iload hx hb dX9_isSuppressed_32 (lv_at hl 2 rfl) ?_
        refine lv_if_ne (tgt := 101) hx hb dX9_isSuppressed_34 (by decide) (fun c34 => ?_) (fun c34 => ?_)
        · have hf := (if_neg c34).symm.trans hf
          refine lv_iload hx hb dX9_isSuppressed_101 (lv_at hl 2 rfl) ?_
          exact zret_z hx hb hr (Or.inl rfl) hlocks hf hP hS dX9_isSuppressed_103
        · have hf := (if_pos c34).symm.trans hf
          refine lv_iload_n hx hb dX9_isSuppressed_37 rfl (lv_at hl 1 rfl) ?_
          refine lv_if_le (tgt := 101) hx hb dX9_isSuppressed_38 (by decide) (fun c38 => ?_) (fun c38 => ?_)
          · have hf := (if_pos c38).symm.trans hf
            refine lv_iload hx hb dX9_isSuppressed_101 (lv_at hl 2 rfl) ?_
            exact zret_z hx hb hr (Or.inl rfl) hlocks hf hP hS dX9_isSuppressed_103
          · have hf := (if_neg c38).symm.trans hf
            refine lv_aload_n hx hb dX9_isSuppressed_41 rfl (lv_at hl 0 rfl) ?_
            obtain ⟨v42, e42, hf⟩ := zb hf
            refine zr_gr (ci := 9) (k := 32) (C := RX9) (T := TX9) (N := 54) hx hb hts hi_X9_isSuppressed_9 hown hK hP e42 rfl rfl (by decide) (by decide) (hts (.fieldLink RX9 78 "BoundaryAnalyzerModel" "text" "[C") (List.mem_of_getElem? (i := 2) rfl)) dX9_isSuppressed_42 ?_
            refine lv_iload_n hx hb dX9_isSuppressed_45 rfl (lv_at hl 1 rfl) ?_
            refine lv_iconst (v := (1 : Int32)) hx hb dX9_isSuppressed_46 (by decide) ?_
            refine lv_isub hx hb dX9_isSuppressed_47 ?_
            obtain ⟨v48, e48, hf⟩ := zb hf
            refine zr_ac hx hb hK hP e48 dX9_isSuppressed_48 ?_
            refine lv_bipush (v := (46 : Int32)) hx hb dX9_isSuppressed_49 (by decide) ?_
            refine lv_icmp_ne (tgt := 68) hx hb dX9_isSuppressed_51 (by decide) (fun c51 => ?_) (fun c51 => ?_)
            · have hf := (if_neg c51).symm.trans hf
              exact J68 _ _ _ _ _ _ hf hP hS (lv_sub hl [0, 1] rfl)
            · have hf := (if_pos c51).symm.trans hf
              refine lv_aload_n hx hb dX9_isSuppressed_54 rfl (lv_at hl 0 rfl) ?_
              refine lv_iload_n hx hb dX9_isSuppressed_55 rfl (lv_at hl 1 rfl) ?_
              refine lv_iconst (v := (1 : Int32)) hx hb dX9_isSuppressed_56 (by decide) ?_
              refine lv_isub hx hb dX9_isSuppressed_57 ?_
              obtain ⟨u58, t58, hf⟩ := zb hf
              obtain ⟨r58, e58, hf⟩ := zb hf
              refine zc_i hS (va_runV (As := [.int (x3 - (1 : Int32))]) (rest := []) ⟨hx, hb, hml, hown, hts⟩ (k_X9_isExceptionBefore l D cy b M h0 (x3 - (1 : Int32)) r58 e58) (cwV 1 hts gX9_isSuppressed_X9_isExceptionBefore rfl rfl rfl (by decide +kernel) ⟨Nat.le_of_ble_eq_true rfl, Nat.le_of_ble_eq_true rfl⟩) (zp_V _ hK hP t58 (T := TX9) (N := 54) rfl (by decide)) rfl rfl hl.1 rfl (lv_room (Nat.le_of_ble_eq_true rfl)) dX9_isSuppressed_58 ⟨Nat.zero_le _, Nat.zero_le _⟩) (fun H locs hP hS => ?_)
              refine lv_if_eq (tgt := 68) hx hb dX9_isSuppressed_61 (by decide) (fun c61 => ?_) (fun c61 => ?_)
              · have hf := (if_pos c61).symm.trans hf
                exact J68 _ _ _ _ _ _ hf hP hS (lv_sub hl [0, 1] rfl)
              · have hf := (if_neg c61).symm.trans hf
                refine lv_iconst (v := (1 : Int32)) hx hb dX9_isSuppressed_64 (by decide) ?_
                refine lv_goto (tgt := 69) hx hb dX9_isSuppressed_65 (by decide) ?_
                exact J69 _ _ _ _ _ _ _ hf hP hS (lv_sub hl [0, 1] rfl)
  unfold fX9_isSuppressed at hf
  refine lv_iload_n hx hb dX9_isSuppressed_0 rfl (lv_at hl 1 rfl) ?_
  refine lv_iconst (v := (2 : Int32)) hx hb dX9_isSuppressed_1 (by decide) ?_
  refine lv_icmp_ne (tgt := 17) hx hb dX9_isSuppressed_2 (by decide) (fun c2 => ?_) (fun c2 => ?_)
  · have hf := (if_neg c2).symm.trans hf
    refine lv_iconst (v := (0 : Int32)) hx hb dX9_isSuppressed_17 (by decide) ?_
    exact zret_z hx hb hr (Or.inl rfl) hlocks hf hP hS dX9_isSuppressed_18
  · have hf := (if_pos c2).symm.trans hf
    refine lv_iload_n hx hb dX9_isSuppressed_5 rfl (lv_at hl 2 rfl) ?_
    refine lv_if_eq (tgt := 17) hx hb dX9_isSuppressed_6 (by decide) (fun c6 => ?_) (fun c6 => ?_)
    · have hf := (if_pos c6).symm.trans hf
      refine lv_iconst (v := (0 : Int32)) hx hb dX9_isSuppressed_17 (by decide) ?_
      exact zret_z hx hb hr (Or.inl rfl) hlocks hf hP hS dX9_isSuppressed_18
    · have hf := (if_neg c6).symm.trans hf
      refine lv_iload_n hx hb dX9_isSuppressed_9 rfl (lv_at hl 2 rfl) ?_
      refine lv_aload_n hx hb dX9_isSuppressed_10 rfl (lv_at hl 0 rfl) ?_
      obtain ⟨v11, e11, hf⟩ := zb hf
      refine zr_gi (ci := 9) (k := 31) (C := RX9) (T := TX9) (N := 54) hx hb hts hi_X9_isSuppressed_9 hown hK hP e11 rfl rfl (by decide) (by decide) (hts (.fieldLink RX9 207 "BoundaryAnalyzerModel" "length" "I") (List.mem_of_getElem? (i := 1) rfl)) dX9_isSuppressed_11 ?_
      refine lv_icmp_ne (tgt := 19) hx hb dX9_isSuppressed_14 (by decide) (fun c14 => ?_) (fun c14 => ?_)
      · have hf := (if_neg c14).symm.trans hf
        refine lv_iload_n hx hb dX9_isSuppressed_19 rfl (lv_at hl 2 rfl) ?_
        refine lv_istore_n (lv' := [(3, .int p2), (0, .ref (b + p0)), (1, .int p1), (2, .int p2)]) hx hb dX9_isSuppressed_20 rfl hl (by decide) rfl (fun ls hl => ?_)
        refine lv_iconst (v := (0 : Int32)) hx hb dX9_isSuppressed_21 (by decide) ?_
        refine lv_istore (lv' := [(4, .int (0 : Int32)), (3, .int p2), (0, .ref (b + p0)), (1, .int p1), (2, .int p2)]) hx hb dX9_isSuppressed_22 hl (by decide) rfl (fun ls hl => ?_)
        refine lv_iconst (v := (1 : Int32)) hx hb dX9_isSuppressed_24 (by decide) ?_
        refine lv_istore (lv' := [(5, .int (1 : Int32)), (4, .int (0 : Int32)), (3, .int p2), (0, .ref (b + p0)), (1, .int p1), (2, .int p2)]) hx hb dX9_isSuppressed_25 hl (by decide) rfl (fun ls hl => ?_)
        exact L27 _ _ _ _ _ _ _ _ _ hf hP hS (lv_sub hl [3, 2, 1, 0] rfl)
      · have hf := (if_pos c14).symm.trans hf
        refine lv_iconst (v := (0 : Int32)) hx hb dX9_isSuppressed_17 (by decide) ?_
        exact zret_z hx hb hr (Or.inl rfl) hlocks hf hP hS dX9_isSuppressed_18
