set_option maxHeartbeats 4000000 in
set_option maxRecDepth 100000 in
theorem k_X9_wasRaw (l : Launch) (D : va_G) (cy : Nat → ClassId) (b : Nat) (M0 : Mem) (p0 : Nat) (p1 : Nat) (p2 : Int32) (p3 : Int32) (rr : Int32 × Mem) (hf : fX9_wasRaw M0 p0 p1 p2 p3 = some rr) : Met l yX9_wasRaw wsX9_wasRaw ({ frames := 0, cells := 0, slots := 0, locals := 0 } : Room) (zPc D cy b M0 [.ref (b + p0), .ref (b + p1), .int p2, .int p3]) (zQi D cy b rr) 0 0 (zA b) := by
  refine Met.ofW (cc := cX9_wasRaw) (maxL := 5) (ret := (some .boolean)) (by decide) rfl ?_
  intro p e s m args below meth c s₁ B hml hv
  obtain ⟨rfl, hP, hK⟩ := hv
  have hx := B.exec
  have hb := B.bytes
  have hr := B.returns
  have hts := atoms_spec (ws := wsX9_wasRaw) B.pre
  have hown : s.vm.findClass RX9 = some m.cls := findClass_of_methodNamed B.named
  have hlocks := B.notSynchronized
  have hS : va_S (zA b) s.heap s.heap [] := va_S.rf
  have hl := lv_entry ([.ref (b + p0), .ref (b + p1), .int p2, .int p3]) (n := 5) (Nat.le_of_ble_eq_true rfl)
  rw [lg_entry_eq]
  generalize (lg_sl ([.ref (b + p0), .ref (b + p1), .int p2, .int p3]) ++ List.replicate (5 - (lg_sl ([.ref (b + p0), .ref (b + p1), .int p2, .int p3])).length) Slot.unset).toArray = ls at hl ⊢
  have hl : lv_has ls 5 [(0, .ref (b + p0)), (1, .ref (b + p1)), (2, .int p2), (3, .int p3)] := hl
  have L3 : ∀ (n3 : Nat) (M : Mem) (H : Heap) (locs : List Loc) (ls : Array Slot) (h1 : Nat) (x2 : Int32) (x3 : Int32) (x4 : Int32), fX9_wasRaw_3L  n3 M h1 x2 x3 x4 = some rr → zH D cy b M H → va_S (zA b) s.heap H locs → lv_has ls 5 [(1, .ref (b + h1)), (2, .int x2), (3, .int x3), (4, .int x4)] → W p l e (headSpec wsX9_wasRaw ({ frames := 0, cells := 0, slots := 0, locals := 0 } : Room)).room s m ([.ref (b + p0), .ref (b + p1), .int p2, .int p3] : List Value).toArray below meth c H locs 0 0 (MQ below (zQi D cy b rr) ([.ref (b + p0), .ref (b + p1), .int p2, .int p3] : List Value).toArray s 0 0 (zA b)) (F0 m 3 ls []) := by
    intro n3
    induction n3 with
    | zero =>
      intro M H locs ls h1 x2 x3 x4 hf
      have hf : (none : Option (Int32 × Mem)) = some rr := hf
      cases hf
    | succ n3 ih3 =>
      intro M H locs ls h1 x2 x3 x4 hf hP hS hl
      have hf : fX9_wasRaw_3  (fX9_wasRaw_3L  n3) M h1 x2 x3 x4 = some rr := hf
      unfold fX9_wasRaw_3 at hf
      refine lv_iload hx hb dX9_wasRaw_3 (lv_at hl 3 rfl) ?_
      refine lv_iload_n hx hb dX9_wasRaw_5 rfl (lv_at hl 1 rfl) ?_
      refine lv_icmp_ge (tgt := 25) hx hb dX9_wasRaw_6 (by decide) (fun c6 => ?_) (fun c6 => ?_)
      · have hf := (if_pos c6).symm.trans hf
        refine lv_iconst (v := (0 : Int32)) hx hb dX9_wasRaw_25 (by decide) ?_
        exact zret_z hx hb hr (Or.inl rfl) hlocks hf hP hS dX9_wasRaw_26
      · have hf := (if_neg c6).symm.trans hf
        refine lv_aload_n hx hb dX9_wasRaw_9 rfl (lv_at hl 0 rfl) ?_
        refine lv_iload hx hb dX9_wasRaw_10 (lv_at hl 3 rfl) ?_
        obtain ⟨v12, e12, hf⟩ := zb hf
        refine zr_ai hx hb hK hP e12 dX9_wasRaw_12 ?_
        refine lv_iload_n hx hb dX9_wasRaw_13 rfl (lv_at hl 2 rfl) ?_
        refine lv_icmp_ne (tgt := 19) hx hb dX9_wasRaw_14 (by decide) (fun c14 => ?_) (fun c14 => ?_)
        · have hf := (if_neg c14).symm.trans hf
          obtain ⟨x4_19, q19, hf⟩ := zlt_s hf
          refine lv_iinc (v := x4_19) (lv' := [(4, .int x4_19), (1, .ref (b + h1)), (2, .int x2), (3, .int x3)]) hx hb dX9_wasRaw_19 hl (k := 3) rfl (by rw [← q19]; rfl) (by decide) rfl (fun ls hl => ?_)
          refine lv_goto (tgt := 3) hx hb dX9_wasRaw_22 (by decide) ?_
          exact ih3 _ _ _ _ _ _ _ _ hf hP hS (lv_sub hl [1, 2, 3, 0] rfl)
        · have hf := (if_pos c14).symm.trans hf
          refine lv_iconst (v := (1 : Int32)) hx hb dX9_wasRaw_17 (by decide) ?_
          exact zret_z hx hb hr (Or.inl rfl) hlocks hf hP hS dX9_wasRaw_18
  unfold fX9_wasRaw at hf
  refine lv_iconst (v := (0 : Int32)) hx hb dX9_wasRaw_0 (by decide) ?_
  refine lv_istore (lv' := [(4, .int (0 : Int32)), (0, .ref (b + p0)), (1, .ref (b + p1)), (2, .int p2), (3, .int p3)]) hx hb dX9_wasRaw_1 hl (by decide) rfl (fun ls hl => ?_)
  exact L3 _ _ _ _ _ _ _ _ _ hf hP hS (lv_sub hl [2, 3, 4, 0] rfl)
theorem hi_X9_findStarts_9 : ∀ w ∈ wsX90, w ∈ wsX9_findStarts := fun _ h => List.mem_cons_of_mem _ (List.mem_append_right _ h)
set_option maxHeartbeats 4000000 in
set_option maxRecDepth 100000 in
theorem k_X9_findStarts (l : Launch) (D : va_G) (cy : Nat → ClassId) (b : Nat) (M0 : Mem) (p0 : Nat) (p1 : Int32) (rr : Mem) (hf : fX9_findStarts M0 p0 p1 = some rr) : Met l yX9_findStarts wsX9_findStarts ({ frames := 3, cells := 0, slots := 0, locals := 77 } : Room) (zPc D cy b M0 [.ref (b + p0), .int p1]) (zQv D cy b rr) 0 0 (zA b) := by
  refine Met.ofW (cc := cX9_findStarts) (maxL := 4) (ret := none) (by decide) rfl ?_
  intro p e s m args below meth c s₁ B hml hv
  obtain ⟨rfl, hP, hK⟩ := hv
  have hx := B.exec
  have hb := B.bytes
  have hr := B.returns
  have hts := atoms_spec (ws := wsX9_findStarts) B.pre
  have hown : s.vm.findClass RX9 = some m.cls := findClass_of_methodNamed B.named
  have hlocks := B.notSynchronized
  have hS : va_S (zA b) s.heap s.heap [] := va_S.rf
  have hl := lv_entry ([.ref (b + p0), .int p1]) (n := 4) (Nat.le_of_ble_eq_true rfl)
  rw [lg_entry_eq]
  generalize (lg_sl ([.ref (b + p0), .int p1]) ++ List.replicate (4 - (lg_sl ([.ref (b + p0), .int p1])).length) Slot.unset).toArray = ls at hl ⊢
  have hl : lv_has ls 4 [(0, .ref (b + p0)), (1, .int p1)] := hl
  have L2 : ∀ (n2 : Nat) (M : Mem) (H : Heap) (locs : List Loc) (ls : Array Slot) (h0 : Nat) (x1 : Int32) (x2 : Int32), fX9_findStarts_2L  n2 M h0 x1 x2 = some rr → zH D cy b M H → va_S (zA b) s.heap H locs → lv_has ls 4 [(0, .ref (b + h0)), (1, .int x1), (2, .int x2)] → W p l e (headSpec wsX9_findStarts ({ frames := 3, cells := 0, slots := 0, locals := 77 } : Room)).room s m ([.ref (b + p0), .int p1] : List Value).toArray below meth c H locs 0 0 (MQ below (zQv D cy b rr) ([.ref (b + p0), .int p1] : List Value).toArray s 0 0 (zA b)) (F0 m 2 ls []) := by
    intro n2
    induction n2 with
    | zero =>
      intro M H locs ls h0 x1 x2 hf
      have hf : (none : Option Mem) = some rr := hf
      cases hf
    | succ n2 ih2 =>
      have J49 : ∀ (M : Mem) (H : Heap) (locs : List Loc) (ls : Array Slot) (h0 : Nat) (x1 : Int32) (x2 : Int32) (x3 : Int32), fX9_findStarts_49 (fX9_findStarts_2L  n2) M h0 x1 x2 x3 = some rr → zH D cy b M H → va_S (zA b) s.heap H locs → lv_has ls 4 [(0, .ref (b + h0)), (1, .int x1), (2, .int x2), (3, .int x3)] → W p l e (headSpec wsX9_findStarts ({ frames := 3, cells := 0, slots := 0, locals := 77 } : Room)).room s m ([.ref (b + p0), .int p1] : List Value).toArray below meth c H locs 0 0 (MQ below (zQv D cy b rr) ([.ref (b + p0), .int p1] : List Value).toArray s 0 0 (zA b)) (F0 m 49 ls []) := by
        intro M H locs ls h0 x1 x2 x3 hf hP hS hl
        unfold fX9_findStarts_49 at hf
        refine lv_aload_n hx hb dX9_findStarts_49 rfl (lv_at hl 0 rfl) ?_
        obtain ⟨v50, e50, hf⟩ := zb hf
        refine zr_gr (ci := 9) (k := 36) (C := RX9) (T := TX9) (N := 54) hx hb hts hi_X9_findStarts_9 hown hK hP e50 rfl rfl (by decide) (by decide) (hts (.fieldLink RX9 90 "BoundaryAnalyzerModel" "startOf" "[I") (List.mem_of_getElem? (i := 2) rfl)) dX9_findStarts_50 ?_
        refine lv_iload_n hx hb dX9_findStarts_53 rfl (lv_at hl 2 rfl) ?_
        refine lv_iload_n hx hb dX9_findStarts_54 rfl (lv_at hl 3 rfl) ?_
        obtain ⟨M55, e55, hf⟩ := zb hf
        refine zr_si hx hb hK hP hS e55 dX9_findStarts_55 (fun H locs hP _ hS => ?_)
        obtain ⟨x2_56, q56, hf⟩ := zlt_s hf
        refine lv_iinc (v := x2_56) (lv' := [(2, .int x2_56), (0, .ref (b + h0)), (1, .int x1), (3, .int x3)]) hx hb dX9_findStarts_56 hl (k := 2) rfl (by rw [← q56]; rfl) (by decide) rfl (fun ls hl => ?_)
        refine lv_goto (tgt := 2) hx hb dX9_findStarts_59 (by decide) ?_
        exact ih2 _ _ _ _ _ _ _ hf hP hS (lv_sub hl [1, 2, 0] rfl)
      have L9 : ∀ (n9 : Nat) (M : Mem) (H : Heap) (locs : List Loc) (ls : Array Slot) (h0 : Nat) (x1 : Int32) (x2 : Int32) (x3 : Int32), fX9_findStarts_9L (fX9_findStarts_2L  n2) n9 M h0 x1 x2 x3 = some rr → zH D cy b M H → va_S (zA b) s.heap H locs → lv_has ls 4 [(0, .ref (b + h0)), (1, .int x1), (2, .int x2), (3, .int x3)] → W p l e (headSpec wsX9_findStarts ({ frames := 3, cells := 0, slots := 0, locals := 77 } : Room)).room s m ([.ref (b + p0), .int p1] : List Value).toArray below meth c H locs 0 0 (MQ below (zQv D cy b rr) ([.ref (b + p0), .int p1] : List Value).toArray s 0 0 (zA b)) (F0 m 9 ls []) := by
        intro n9
        induction n9 with
        | zero =>
          intro M H locs ls h0 x1 x2 x3 hf
          have hf : (none : Option Mem) = some rr := hf
          cases hf
        | succ n9 ih9 =>
          intro M H locs ls h0 x1 x2 x3 hf hP hS hl
          have hf : fX9_findStarts_9 (fX9_findStarts_2L  n2) (fX9_findStarts_9L (fX9_findStarts_2L  n2) n9) M h0 x1 x2 x3 = some rr := hf
          unfold fX9_findStarts_9 at hf
          refine lv_iload_n hx hb dX9_findStarts_9 rfl (lv_at hl 3 rfl) ?_
          refine lv_aload_n hx hb dX9_findStarts_10 rfl (lv_at hl 0 rfl) ?_
          obtain ⟨v11, e11, hf⟩ := zb hf
          refine zr_gr (ci := 9) (k := 33) (C := RX9) (T := TX9) (N := 54) hx hb hts hi_X9_findStarts_9 hown hK hP e11 rfl rfl (by decide) (by decide) (hts (.fieldLink RX9 81 "BoundaryAnalyzerModel" "rawMany" "[I") (List.mem_of_getElem? (i := 1) rfl)) dX9_findStarts_11 ?_
          refine lv_iload_n hx hb dX9_findStarts_14 rfl (lv_at hl 2 rfl) ?_
          obtain ⟨v15, e15, hf⟩ := zb hf
          refine zr_ai hx hb hK hP e15 dX9_findStarts_15 ?_
          refine lv_iconst (v := (1 : Int32)) hx hb dX9_findStarts_16 (by decide) ?_
          refine lv_isub hx hb dX9_findStarts_17 ?_
          refine lv_icmp_ge (tgt := 49) hx hb dX9_findStarts_18 (by decide) (fun c18 => ?_) (fun c18 => ?_)
          · have hf := (if_pos c18).symm.trans hf
            exact J49 _ _ _ _ _ _ _ _ hf hP hS (lv_sub hl [0, 1, 2, 3] rfl)
          · have hf := (if_neg c18).symm.trans hf
            refine lv_aload_n hx hb dX9_findStarts_21 rfl (lv_at hl 0 rfl) ?_
            refine lv_iload_n hx hb dX9_findStarts_22 rfl (lv_at hl 2 rfl) ?_
            refine lv_iload_n hx hb dX9_findStarts_23 rfl (lv_at hl 3 rfl) ?_
            obtain ⟨u24, t24, hf⟩ := zb hf
            obtain ⟨r24, e24, hf⟩ := zb hf
            refine zc_i hS (va_runV (As := [.int x2, .int x3]) (rest := []) ⟨hx, hb, hml, hown, hts⟩ (k_X9_raw l D cy b M h0 x2 x3 r24 e24) (cwV 2 hts gX9_findStarts_X9_raw rfl rfl rfl (by decide +kernel) ⟨Nat.le_of_ble_eq_true rfl, Nat.le_of_ble_eq_true rfl⟩) (zp_V _ hK hP t24 (T := TX9) (N := 54) rfl (by decide)) rfl rfl hl.1 rfl (lv_room (Nat.le_of_ble_eq_true rfl)) dX9_findStarts_24 ⟨Nat.zero_le _, Nat.zero_le _⟩) (fun H locs hP hS => ?_)
            refine lv_aload_n hx hb dX9_findStarts_27 rfl (lv_at hl 0 rfl) ?_
            refine lv_iload_n hx hb dX9_findStarts_28 rfl (lv_at hl 2 rfl) ?_
            refine lv_aload_n hx hb dX9_findStarts_29 rfl (lv_at hl 0 rfl) ?_
            refine lv_iload_n hx hb dX9_findStarts_30 rfl (lv_at hl 2 rfl) ?_
            refine lv_iload_n hx hb dX9_findStarts_31 rfl (lv_at hl 3 rfl) ?_
            obtain ⟨u32, t32, hf⟩ := zb hf
            obtain ⟨r32, e32, hf⟩ := zb hf
            refine zc_i hS (va_runV (As := [.int x2, .int x3]) (rest := [.int x2, .ref (b + h0), .int r24.1]) ⟨hx, hb, hml, hown, hts⟩ (k_X9_raw l D cy b r24.2 h0 x2 x3 r32 e32) (cwV 2 hts gX9_findStarts_X9_raw rfl rfl rfl (by decide +kernel) ⟨Nat.le_of_ble_eq_true rfl, Nat.le_of_ble_eq_true rfl⟩) (zp_V _ hK hP t32 (T := TX9) (N := 54) rfl (by decide)) rfl rfl hl.1 rfl (lv_room (Nat.le_of_ble_eq_true rfl)) dX9_findStarts_32 ⟨Nat.zero_le _, Nat.zero_le _⟩) (fun H locs hP hS => ?_)
            obtain ⟨u35, t35, hf⟩ := zb hf
            obtain ⟨r35, e35, hf⟩ := zb hf
            refine zc_i hS (va_runV (As := [.int x2, .int r32.1]) (rest := [.int r24.1]) ⟨hx, hb, hml, hown, hts⟩ (k_X9_looksFrom l D cy b r32.2 h0 x2 r32.1 r35 e35) (cwV 2 hts gX9_findStarts_X9_looksFrom rfl rfl rfl (by decide +kernel) ⟨Nat.le_of_ble_eq_true rfl, Nat.le_of_ble_eq_true rfl⟩) (zp_V _ hK hP t35 (T := TX9) (N := 54) rfl (by decide)) rfl rfl hl.1 rfl (lv_room (Nat.le_of_ble_eq_true rfl)) dX9_findStarts_35 ⟨Nat.zero_le _, Nat.zero_le _⟩) (fun H locs hP hS => ?_)
            refine lv_iadd hx hb dX9_findStarts_38 ?_
            refine lv_iload_n hx hb dX9_findStarts_39 rfl (lv_at hl 1 rfl) ?_
            refine lv_icmp_gt (tgt := 49) hx hb dX9_findStarts_40 (by decide) (fun c40 => ?_) (fun c40 => ?_)
            · have hf := (if_pos c40).symm.trans hf
              exact J49 _ _ _ _ _ _ _ _ hf hP hS (lv_sub hl [0, 1, 2, 3] rfl)
            · have hf := (if_neg c40).symm.trans hf
              obtain ⟨x3_43, q43, hf⟩ := zlt_s hf
              refine lv_iinc (v := x3_43) (lv' := [(3, .int x3_43), (0, .ref (b + h0)), (1, .int x1), (2, .int x2)]) hx hb dX9_findStarts_43 hl (k := 3) rfl (by rw [← q43]; rfl) (by decide) rfl (fun ls hl => ?_)
              refine lv_goto (tgt := 9) hx hb dX9_findStarts_46 (by decide) ?_
              exact ih9 _ _ _ _ _ _ _ _ hf hP hS (lv_sub hl [1, 2, 3, 0] rfl)
      intro M H locs ls h0 x1 x2 hf hP hS hl
      have hf : fX9_findStarts_2  (fX9_findStarts_2L  n2) M h0 x1 x2 = some rr := hf
      unfold fX9_findStarts_2 at hf
      refine lv_iload_n hx hb dX9_findStarts_2 rfl (lv_at hl 2 rfl) ?_
      refine lv_iconst (v := (3 : Int32)) hx hb dX9_findStarts_3 (by decide) ?_
      refine lv_icmp_ge (tgt := 62) hx hb dX9_findStarts_4 (by decide) (fun c4 => ?_) (fun c4 => ?_)
      · have hf := (if_pos c4).symm.trans hf
        exact zret_v hx hb hr hlocks hf hP hS dX9_findStarts_62
      · have hf := (if_neg c4).symm.trans hf
        refine lv_iconst (v := (0 : Int32)) hx hb dX9_findStarts_7 (by decide) ?_
        refine lv_istore_n (lv' := [(3, .int (0 : Int32)), (0, .ref (b + h0)), (1, .int x1), (2, .int x2)]) hx hb dX9_findStarts_8 rfl hl (by decide) rfl (fun ls hl => ?_)
        exact L9 _ _ _ _ _ _ _ _ _ hf hP hS (lv_sub hl [1, 2, 3, 0] rfl)
  unfold fX9_findStarts at hf
  refine lv_iconst (v := (0 : Int32)) hx hb dX9_findStarts_0 (by decide) ?_
  refine lv_istore_n (lv' := [(2, .int (0 : Int32)), (0, .ref (b + p0)), (1, .int p1)]) hx hb dX9_findStarts_1 rfl hl (by decide) rfl (fun ls hl => ?_)
  exact L2 _ _ _ _ _ _ _ _ hf hP hS (lv_sub hl [1, 2, 0] rfl)
