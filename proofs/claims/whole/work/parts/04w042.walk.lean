theorem hi_X9_lengthOf_9 : ∀ w ∈ wsX90, w ∈ wsX9_lengthOf := fun _ h => List.mem_cons_of_mem _ (List.mem_append_right _ h)
set_option maxHeartbeats 4000000 in
set_option maxRecDepth 100000 in
theorem k_X9_lengthOf (l : Launch) (D : va_G) (cy : Nat → ClassId) (b : Nat) (M0 : Mem) (p0 : Nat) (p1 : Int32) (p2 : Int32) (rr : Int32 × Mem) (hf : fX9_lengthOf M0 p0 p1 p2 = some rr) : Met l yX9_lengthOf wsX9_lengthOf ({ frames := 2, cells := 0, slots := 0, locals := 53 } : Room) (zPc D cy b M0 [.ref (b + p0), .int p1, .int p2]) (zQi D cy b rr) 0 0 (zA b) := by
  refine Met.ofW (cc := cX9_lengthOf) (maxL := 7) (ret := (some .int)) (by decide) rfl ?_
  intro p e s m args below meth c s₁ B hml hv
  obtain ⟨rfl, hP, hK⟩ := hv
  have hx := B.exec
  have hb := B.bytes
  have hr := B.returns
  have hts := atoms_spec (ws := wsX9_lengthOf) B.pre
  have hown : s.vm.findClass RX9 = some m.cls := findClass_of_methodNamed B.named
  have hlocks := B.notSynchronized
  have hS : va_S (zA b) s.heap s.heap [] := va_S.rf
  have hl := lv_entry ([.ref (b + p0), .int p1, .int p2]) (n := 7) (Nat.le_of_ble_eq_true rfl)
  rw [lg_entry_eq]
  generalize (lg_sl ([.ref (b + p0), .int p1, .int p2]) ++ List.replicate (7 - (lg_sl ([.ref (b + p0), .int p1, .int p2])).length) Slot.unset).toArray = ls at hl ⊢
  have hl : lv_has ls 7 [(0, .ref (b + p0)), (1, .int p1), (2, .int p2)] := hl
  have L13 : ∀ (n13 : Nat) (M : Mem) (H : Heap) (locs : List Loc) (ls : Array Slot) (h0 : Nat) (x1 : Int32) (x2 : Int32) (x3 : Int32) (x4 : Int32) (x5 : Int32), fX9_lengthOf_13L  n13 M h0 x1 x2 x3 x4 x5 = some rr → zH D cy b M H → va_S (zA b) s.heap H locs → lv_has ls 7 [(0, .ref (b + h0)), (1, .int x1), (2, .int x2), (3, .int x3), (4, .int x4), (5, .int x5)] → W p l e (headSpec wsX9_lengthOf ({ frames := 2, cells := 0, slots := 0, locals := 53 } : Room)).room s m ([.ref (b + p0), .int p1, .int p2] : List Value).toArray below meth c H locs 0 0 (MQ below (zQi D cy b rr) ([.ref (b + p0), .int p1, .int p2] : List Value).toArray s 0 0 (zA b)) (F0 m 13 ls []) := by
    intro n13
    induction n13 with
    | zero =>
      intro M H locs ls h0 x1 x2 x3 x4 x5 hf
      have hf : (none : Option (Int32 × Mem)) = some rr := hf
      cases hf
    | succ n13 ih13 =>
      have J72 : ∀ (M : Mem) (H : Heap) (locs : List Loc) (ls : Array Slot) (h0 : Nat) (x1 : Int32) (x2 : Int32) (x5 : Int32) (x6 : Int32) (y0 : Int32), fX9_lengthOf_72 (fX9_lengthOf_13L  n13) M h0 x1 x2 x5 x6 y0 = some rr → zH D cy b M H → va_S (zA b) s.heap H locs → lv_has ls 7 [(0, .ref (b + h0)), (1, .int x1), (2, .int x2), (5, .int x5), (6, .int x6)] → W p l e (headSpec wsX9_lengthOf ({ frames := 2, cells := 0, slots := 0, locals := 53 } : Room)).room s m ([.ref (b + p0), .int p1, .int p2] : List Value).toArray below meth c H locs 0 0 (MQ below (zQi D cy b rr) ([.ref (b + p0), .int p1, .int p2] : List Value).toArray s 0 0 (zA b)) (F0 m 72 ls [.int y0]) := by
        intro M H locs ls h0 x1 x2 x5 x6 y0 hf hP hS hl
        unfold fX9_lengthOf_72 at hf
        refine lv_istore_n (lv' := [(3, .int y0), (0, .ref (b + h0)), (1, .int x1), (2, .int x2), (5, .int x5), (6, .int x6)]) hx hb dX9_lengthOf_72 rfl hl (by decide) rfl (fun ls hl => ?_)
        refine lv_aload_n hx hb dX9_lengthOf_73 rfl (lv_at hl 1 rfl) ?_
        refine lv_iload_n hx hb dX9_lengthOf_74 rfl (lv_at hl 2 rfl) ?_
        refine lv_iload hx hb dX9_lengthOf_75 (lv_at hl 5 rfl) ?_
        obtain ⟨u77, t77, hf⟩ := zb hf
        obtain ⟨r77, e77, hf⟩ := zb hf
        refine zc_i hS (va_runV (As := [.int x1, .int x6]) (rest := []) ⟨hx, hb, hml, hown, hts⟩ (k_X9_behind l D cy b M h0 x1 x6 r77 e77) (cwV 2 hts gX9_lengthOf_X9_behind rfl rfl rfl (by decide +kernel) ⟨Nat.le_of_ble_eq_true rfl, Nat.le_of_ble_eq_true rfl⟩) (zp_V _ hK hP t77 (T := TX9) (N := 54) rfl (by decide)) rfl rfl hl.1 rfl (lv_room (Nat.le_of_ble_eq_true rfl)) dX9_lengthOf_77 ⟨Nat.zero_le _, Nat.zero_le _⟩) (fun H locs hP hS => ?_)
        refine lv_istore (lv' := [(4, .int r77.1), (3, .int y0), (0, .ref (b + h0)), (1, .int x1), (2, .int x2), (5, .int x5), (6, .int x6)]) hx hb dX9_lengthOf_80 hl (by decide) rfl (fun ls hl => ?_)
        obtain ⟨x5_82, q82, hf⟩ := zlt_s hf
        refine lv_iinc (v := x5_82) (lv' := [(5, .int x5_82), (4, .int r77.1), (3, .int y0), (0, .ref (b + h0)), (1, .int x1), (2, .int x2), (6, .int x6)]) hx hb dX9_lengthOf_82 hl (k := 5) rfl (by rw [← q82]; rfl) (by decide) rfl (fun ls hl => ?_)
        refine lv_goto (tgt := 13) hx hb dX9_lengthOf_85 (by decide) ?_
        exact ih13 _ _ _ _ _ _ _ _ _ _ hf hP hS (lv_sub hl [3, 4, 5, 2, 1, 0] rfl)
      have J71 : ∀ (M : Mem) (H : Heap) (locs : List Loc) (ls : Array Slot) (h0 : Nat) (x1 : Int32) (x2 : Int32) (x3 : Int32) (x5 : Int32) (x6 : Int32), fX9_lengthOf_71 (fX9_lengthOf_13L  n13) M h0 x1 x2 x3 x5 x6 = some rr → zH D cy b M H → va_S (zA b) s.heap H locs → lv_has ls 7 [(0, .ref (b + h0)), (1, .int x1), (2, .int x2), (3, .int x3), (5, .int x5), (6, .int x6)] → W p l e (headSpec wsX9_lengthOf ({ frames := 2, cells := 0, slots := 0, locals := 53 } : Room)).room s m ([.ref (b + p0), .int p1, .int p2] : List Value).toArray below meth c H locs 0 0 (MQ below (zQi D cy b rr) ([.ref (b + p0), .int p1, .int p2] : List Value).toArray s 0 0 (zA b)) (F0 m 71 ls []) := by
        intro M H locs ls h0 x1 x2 x3 x5 x6 hf hP hS hl
        unfold fX9_lengthOf_71 at hf
        refine lv_iload_n hx hb dX9_lengthOf_71 rfl (lv_at hl 3 rfl) ?_
        exact J72 _ _ _ _ _ _ _ _ _ _ hf hP hS (lv_sub hl [0, 1, 2, 4, 5] rfl)
      intro M H locs ls h0 x1 x2 x3 x4 x5 hf hP hS hl
      have hf : fX9_lengthOf_13  (fX9_lengthOf_13L  n13) M h0 x1 x2 x3 x4 x5 = some rr := hf
      unfold fX9_lengthOf_13 at hf
      refine lv_iload hx hb dX9_lengthOf_13 (lv_at hl 5 rfl) ?_
      refine lv_aload_n hx hb dX9_lengthOf_15 rfl (lv_at hl 0 rfl) ?_
      obtain ⟨v16, e16, hf⟩ := zb hf
      refine zr_gi (ci := 9) (k := 31) (C := RX9) (T := TX9) (N := 54) hx hb hts hi_X9_lengthOf_9 hown hK hP e16 rfl rfl (by decide) (by decide) (hts (.fieldLink RX9 207 "BoundaryAnalyzerModel" "length" "I") (List.mem_of_getElem? (i := 2) rfl)) dX9_lengthOf_16 ?_
      refine lv_icmp_ge (tgt := 88) hx hb dX9_lengthOf_19 (by decide) (fun c19 => ?_) (fun c19 => ?_)
      · have hf := (if_pos c19).symm.trans hf
        refine lv_iload_n hx hb dX9_lengthOf_88 rfl (lv_at hl 3 rfl) ?_
        exact zret_i hx hb hr hlocks hf hP hS dX9_lengthOf_89
      · have hf := (if_neg c19).symm.trans hf
        refine lv_iload hx hb dX9_lengthOf_22 (lv_at hl 4 rfl) ?_
        refine lv_if_eq (tgt := 88) hx hb dX9_lengthOf_24 (by decide) (fun c24 => ?_) (fun c24 => ?_)
        · have hf := (if_pos c24).symm.trans hf
          refine lv_iload_n hx hb dX9_lengthOf_88 rfl (lv_at hl 3 rfl) ?_
          exact zret_i hx hb hr hlocks hf hP hS dX9_lengthOf_89
        · have hf := (if_neg c24).symm.trans hf
          refine lv_aload_n hx hb dX9_lengthOf_27 rfl (lv_at hl 0 rfl) ?_
          refine lv_iload_n hx hb dX9_lengthOf_28 rfl (lv_at hl 1 rfl) ?_
          refine lv_iload hx hb dX9_lengthOf_29 (lv_at hl 4 rfl) ?_
          refine lv_iload hx hb dX9_lengthOf_31 (lv_at hl 5 rfl) ?_
          obtain ⟨u33, t33, hf⟩ := zb hf
          obtain ⟨r33, e33, hf⟩ := zb hf
          refine zc_i hS (va_runV (As := [.int x1, .int x4, .int x5]) (rest := []) ⟨hx, hb, hml, hown, hts⟩ (k_X9_matching l D cy b M h0 x1 x4 x5 r33 e33) (cwV 3 hts gX9_lengthOf_X9_matching rfl rfl rfl (by decide +kernel) ⟨Nat.le_of_ble_eq_true rfl, Nat.le_of_ble_eq_true rfl⟩) (zp_V _ hK hP t33 (T := TX9) (N := 54) rfl (by decide)) rfl rfl hl.1 rfl (lv_room (Nat.le_of_ble_eq_true rfl)) dX9_lengthOf_33 ⟨Nat.zero_le _, Nat.zero_le _⟩) (fun H locs hP hS => ?_)
          refine lv_istore (lv' := [(6, .int r33.1), (0, .ref (b + h0)), (1, .int x1), (2, .int x2), (3, .int x3), (4, .int x4), (5, .int x5)]) hx hb dX9_lengthOf_36 hl (by decide) rfl (fun ls hl => ?_)
          refine lv_iload hx hb dX9_lengthOf_38 (lv_at hl 0 rfl) ?_
          refine lv_aload_n hx hb dX9_lengthOf_40 rfl (lv_at hl 1 rfl) ?_
          obtain ⟨v41, e41, hf⟩ := zb hf
          refine zr_gr (ci := 9) (k := 27) (C := RX9) (T := TX9) (N := 54) hx hb hts hi_X9_lengthOf_9 hown hK hP e41 rfl rfl (by decide) (by decide) (hts (.fieldLink RX9 66 "BoundaryAnalyzerModel" "bodyLast" "[I") (List.mem_of_getElem? (i := 3) rfl)) dX9_lengthOf_41 ?_
          refine lv_iload_n hx hb dX9_lengthOf_44 rfl (lv_at hl 2 rfl) ?_
          obtain ⟨v45, e45, hf⟩ := zb hf
          refine zr_ai hx hb hK hP e45 dX9_lengthOf_45 ?_
          refine lv_iand hx hb dX9_lengthOf_46 ?_
          refine lv_if_eq (tgt := 71) hx hb dX9_lengthOf_47 (by decide) (fun c47 => ?_) (fun c47 => ?_)
          · have hf := (if_pos c47).symm.trans hf
            exact J71 _ _ _ _ _ _ _ _ _ _ hf hP hS (lv_sub hl [1, 2, 3, 4, 6, 0] rfl)
          · have hf := (if_neg c47).symm.trans hf
            refine lv_aload_n hx hb dX9_lengthOf_50 rfl (lv_at hl 1 rfl) ?_
            refine lv_iload_n hx hb dX9_lengthOf_51 rfl (lv_at hl 2 rfl) ?_
            refine lv_iload hx hb dX9_lengthOf_52 (lv_at hl 6 rfl) ?_
            refine lv_iconst (v := (1 : Int32)) hx hb dX9_lengthOf_54 (by decide) ?_
            refine lv_iadd hx hb dX9_lengthOf_55 ?_
            obtain ⟨u56, t56, hf⟩ := zb hf
            obtain ⟨r56, e56, hf⟩ := zb hf
            refine zc_i hS (va_runV (As := [.int x1, .int (x5 + (1 : Int32))]) (rest := []) ⟨hx, hb, hml, hown, hts⟩ (k_X9_matchesAhead l D cy b r33.2 h0 x1 (x5 + (1 : Int32)) r56 e56) (cwV 2 hts gX9_lengthOf_X9_matchesAhead rfl rfl rfl (by decide +kernel) ⟨Nat.le_of_ble_eq_true rfl, Nat.le_of_ble_eq_true rfl⟩) (zp_V _ hK hP t56 (T := TX9) (N := 54) rfl (by decide)) rfl rfl hl.1 rfl (lv_room (Nat.le_of_ble_eq_true rfl)) dX9_lengthOf_56 ⟨Nat.zero_le _, Nat.zero_le _⟩) (fun H locs hP hS => ?_)
            refine lv_if_eq (tgt := 71) hx hb dX9_lengthOf_59 (by decide) (fun c59 => ?_) (fun c59 => ?_)
            · have hf := (if_pos c59).symm.trans hf
              exact J71 _ _ _ _ _ _ _ _ _ _ hf hP hS (lv_sub hl [1, 2, 3, 4, 6, 0] rfl)
            · have hf := (if_neg c59).symm.trans hf
              refine lv_iload hx hb dX9_lengthOf_62 (lv_at hl 6 rfl) ?_
              refine lv_iconst (v := (1 : Int32)) hx hb dX9_lengthOf_64 (by decide) ?_
              refine lv_iadd hx hb dX9_lengthOf_65 ?_
              refine lv_iload_n hx hb dX9_lengthOf_66 rfl (lv_at hl 3 rfl) ?_
              refine lv_isub hx hb dX9_lengthOf_67 ?_
              refine lv_goto (tgt := 72) hx hb dX9_lengthOf_68 (by decide) ?_
              exact J72 _ _ _ _ _ _ _ _ _ _ hf hP hS (lv_sub hl [1, 2, 3, 6, 0] rfl)
  unfold fX9_lengthOf at hf
  refine lv_iconst (v := (0 : Int32)) hx hb dX9_lengthOf_0 (by decide) ?_
  refine lv_istore_n (lv' := [(3, .int (0 : Int32)), (0, .ref (b + p0)), (1, .int p1), (2, .int p2)]) hx hb dX9_lengthOf_1 rfl hl (by decide) rfl (fun ls hl => ?_)
  refine lv_aload_n hx hb dX9_lengthOf_2 rfl (lv_at hl 1 rfl) ?_
  obtain ⟨v3, e3, hf⟩ := zb hf
  refine zr_gr (ci := 9) (k := 26) (C := RX9) (T := TX9) (N := 54) hx hb hts hi_X9_lengthOf_9 hown hK hP e3 rfl rfl (by decide) (by decide) (hts (.fieldLink RX9 63 "BoundaryAnalyzerModel" "bodyFirst" "[I") (List.mem_of_getElem? (i := 1) rfl)) dX9_lengthOf_3 ?_
  refine lv_iload_n hx hb dX9_lengthOf_6 rfl (lv_at hl 2 rfl) ?_
  obtain ⟨v7, e7, hf⟩ := zb hf
  refine zr_ai hx hb hK hP e7 dX9_lengthOf_7 ?_
  refine lv_istore (lv' := [(4, .int v7), (3, .int (0 : Int32)), (0, .ref (b + p0)), (1, .int p1), (2, .int p2)]) hx hb dX9_lengthOf_8 hl (by decide) rfl (fun ls hl => ?_)
  refine lv_iload_n hx hb dX9_lengthOf_10 rfl (lv_at hl 4 rfl) ?_
  refine lv_istore (lv' := [(5, .int p2), (4, .int v7), (3, .int (0 : Int32)), (0, .ref (b + p0)), (1, .int p1), (2, .int p2)]) hx hb dX9_lengthOf_11 hl (by decide) rfl (fun ls hl => ?_)
  exact L13 _ _ _ _ _ _ _ _ _ _ _ hf hP hS (lv_sub hl [3, 4, 5, 2, 1, 0] rfl)
