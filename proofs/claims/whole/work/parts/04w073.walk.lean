theorem hi_X9_longest_9 : ∀ w ∈ wsX90, w ∈ wsX9_longest := fun _ h => List.mem_cons_of_mem _ (List.mem_append_right _ h)
set_option maxHeartbeats 4000000 in
set_option maxRecDepth 100000 in
theorem k_X9_longest (l : Launch) (D : va_G) (cy : Nat → ClassId) (b : Nat) (M0 : Mem) (p0 : Nat) (p1 : Int32) (rr : Int32 × Mem) (hf : fX9_longest M0 p0 p1 = some rr) : Met l yX9_longest wsX9_longest ({ frames := 3, cells := 0, slots := 0, locals := 72 } : Room) (zPc D cy b M0 [.ref (b + p0), .int p1]) (zQi D cy b rr) 0 0 (zA b) := by
  refine Met.ofW (cc := cX9_longest) (maxL := 6) (ret := (some .int)) (by decide) rfl ?_
  intro p e s m args below meth c s₁ B hml hv
  obtain ⟨rfl, hP, hK⟩ := hv
  have hx := B.exec
  have hb := B.bytes
  have hr := B.returns
  have hts := atoms_spec (ws := wsX9_longest) B.pre
  have hown : s.vm.findClass RX9 = some m.cls := findClass_of_methodNamed B.named
  have hlocks := B.notSynchronized
  have hS : va_S (zA b) s.heap s.heap [] := va_S.rf
  have hl := lv_entry ([.ref (b + p0), .int p1]) (n := 6) (Nat.le_of_ble_eq_true rfl)
  rw [lg_entry_eq]
  generalize (lg_sl ([.ref (b + p0), .int p1]) ++ List.replicate (6 - (lg_sl ([.ref (b + p0), .int p1])).length) Slot.unset).toArray = ls at hl ⊢
  have hl : lv_has ls 6 [(0, .ref (b + p0)), (1, .int p1)] := hl
  have L23 : ∀ (n23 : Nat) (M : Mem) (H : Heap) (locs : List Loc) (ls : Array Slot) (h0 : Nat) (x2 : Int32) (x3 : Int32) (x4 : Int32), fX9_longest_23L  n23 M h0 x2 x3 x4 = some rr → zH D cy b M H → va_S (zA b) s.heap H locs → lv_has ls 6 [(0, .ref (b + h0)), (2, .int x2), (3, .int x3), (4, .int x4)] → W p l e (headSpec wsX9_longest ({ frames := 3, cells := 0, slots := 0, locals := 72 } : Room)).room s m ([.ref (b + p0), .int p1] : List Value).toArray below meth c H locs 0 0 (MQ below (zQi D cy b rr) ([.ref (b + p0), .int p1] : List Value).toArray s 0 0 (zA b)) (F0 m 23 ls []) := by
    intro n23
    induction n23 with
    | zero =>
      intro M H locs ls h0 x2 x3 x4 hf
      have hf : (none : Option (Int32 × Mem)) = some rr := hf
      cases hf
    | succ n23 ih23 =>
      have J83 : ∀ (M : Mem) (H : Heap) (locs : List Loc) (ls : Array Slot) (h0 : Nat) (x2 : Int32) (x4 : Int32) (y0 : Int32), fX9_longest_83 (fX9_longest_23L  n23) M h0 x2 x4 y0 = some rr → zH D cy b M H → va_S (zA b) s.heap H locs → lv_has ls 6 [(0, .ref (b + h0)), (2, .int x2), (4, .int x4)] → W p l e (headSpec wsX9_longest ({ frames := 3, cells := 0, slots := 0, locals := 72 } : Room)).room s m ([.ref (b + p0), .int p1] : List Value).toArray below meth c H locs 0 0 (MQ below (zQi D cy b rr) ([.ref (b + p0), .int p1] : List Value).toArray s 0 0 (zA b)) (F0 m 83 ls [.int y0]) := by
        intro M H locs ls h0 x2 x4 y0 hf hP hS hl
        unfold fX9_longest_83 at hf
        refine lv_istore_n (lv' := [(3, .int y0), (0, .ref (b + h0)), (2, .int x2), (4, .int x4)]) hx hb dX9_longest_83 rfl hl (by decide) rfl (fun ls hl => ?_)
        obtain ⟨x4_84, q84, hf⟩ := zlt_s hf
        refine lv_iinc (v := x4_84) (lv' := [(4, .int x4_84), (3, .int y0), (0, .ref (b + h0)), (2, .int x2)]) hx hb dX9_longest_84 hl (k := 3) rfl (by rw [← q84]; rfl) (by decide) rfl (fun ls hl => ?_)
        refine lv_goto (tgt := 23) hx hb dX9_longest_87 (by decide) ?_
        exact ih23 _ _ _ _ _ _ _ _ hf hP hS (lv_sub hl [2, 3, 1, 0] rfl)
      have J70 : ∀ (M : Mem) (H : Heap) (locs : List Loc) (ls : Array Slot) (h0 : Nat) (x3 : Int32) (x4 : Int32) (x5 : Int32) (y0 : Int32), fX9_longest_70 (fX9_longest_23L  n23) M h0 x3 x4 x5 y0 = some rr → zH D cy b M H → va_S (zA b) s.heap H locs → lv_has ls 6 [(0, .ref (b + h0)), (3, .int x3), (4, .int x4), (5, .int x5)] → W p l e (headSpec wsX9_longest ({ frames := 3, cells := 0, slots := 0, locals := 72 } : Room)).room s m ([.ref (b + p0), .int p1] : List Value).toArray below meth c H locs 0 0 (MQ below (zQi D cy b rr) ([.ref (b + p0), .int p1] : List Value).toArray s 0 0 (zA b)) (F0 m 70 ls [.int y0]) := by
        intro M H locs ls h0 x3 x4 x5 y0 hf hP hS hl
        unfold fX9_longest_70 at hf
        refine lv_istore_n (lv' := [(2, .int y0), (0, .ref (b + h0)), (3, .int x3), (4, .int x4), (5, .int x5)]) hx hb dX9_longest_70 rfl hl (by decide) rfl (fun ls hl => ?_)
        refine lv_iload hx hb dX9_longest_71 (lv_at hl 4 rfl) ?_
        refine lv_iload_n hx hb dX9_longest_73 rfl (lv_at hl 2 rfl) ?_
        refine lv_icmp_le (tgt := 82) hx hb dX9_longest_74 (by decide) (fun c74 => ?_) (fun c74 => ?_)
        · have hf := (if_pos c74).symm.trans hf
          refine lv_iload_n hx hb dX9_longest_82 rfl (lv_at hl 2 rfl) ?_
          exact J83 _ _ _ _ _ _ _ _ hf hP hS (lv_sub hl [1, 0, 3] rfl)
        · have hf := (if_neg c74).symm.trans hf
          refine lv_iload hx hb dX9_longest_77 (lv_at hl 4 rfl) ?_
          refine lv_goto (tgt := 83) hx hb dX9_longest_79 (by decide) ?_
          exact J83 _ _ _ _ _ _ _ _ hf hP hS (lv_sub hl [1, 0, 3] rfl)
      intro M H locs ls h0 x2 x3 x4 hf hP hS hl
      have hf : fX9_longest_23  (fX9_longest_23L  n23) M h0 x2 x3 x4 = some rr := hf
      unfold fX9_longest_23 at hf
      refine lv_iload hx hb dX9_longest_23 (lv_at hl 3 rfl) ?_
      refine lv_aload_n hx hb dX9_longest_25 rfl (lv_at hl 0 rfl) ?_
      obtain ⟨v26, e26, hf⟩ := zb hf
      refine zr_gi (ci := 9) (k := 52) (C := RX9) (T := TX9) (N := 54) hx hb hts hi_X9_longest_9 hown hK hP e26 rfl rfl (by decide) (by decide) (hts (.fieldLink RX9 294 "BoundaryAnalyzerModel" "boundaries" "I") (List.mem_of_getElem? (i := 1) rfl)) dX9_longest_26 ?_
      refine lv_iconst (v := (1 : Int32)) hx hb dX9_longest_29 (by decide) ?_
      refine lv_isub hx hb dX9_longest_30 ?_
      refine lv_icmp_ge (tgt := 90) hx hb dX9_longest_31 (by decide) (fun c31 => ?_) (fun c31 => ?_)
      · have hf := (if_pos c31).symm.trans hf
        refine lv_iload_n hx hb dX9_longest_90 rfl (lv_at hl 1 rfl) ?_
        exact zret_i hx hb hr hlocks hf hP hS dX9_longest_91
      · have hf := (if_neg c31).symm.trans hf
        refine lv_aload_n hx hb dX9_longest_34 rfl (lv_at hl 0 rfl) ?_
        obtain ⟨v35, e35, hf⟩ := zb hf
        refine zr_gr (ci := 9) (k := 53) (C := RX9) (T := TX9) (N := 54) hx hb hts hi_X9_longest_9 hown hK hP e35 rfl rfl (by decide) (by decide) (hts (.fieldLink RX9 129 "BoundaryAnalyzerModel" "boundary" "[I") (List.mem_of_getElem? (i := 2) rfl)) dX9_longest_35 ?_
        refine lv_iload hx hb dX9_longest_38 (lv_at hl 3 rfl) ?_
        refine lv_iconst (v := (1 : Int32)) hx hb dX9_longest_40 (by decide) ?_
        refine lv_iadd hx hb dX9_longest_41 ?_
        obtain ⟨v42, e42, hf⟩ := zb hf
        refine zr_ai hx hb hK hP e42 dX9_longest_42 ?_
        refine lv_aload_n hx hb dX9_longest_43 rfl (lv_at hl 0 rfl) ?_
        obtain ⟨v44, e44, hf⟩ := zb hf
        refine zr_gr (ci := 9) (k := 53) (C := RX9) (T := TX9) (N := 54) hx hb hts hi_X9_longest_9 hown hK hP e44 rfl rfl (by decide) (by decide) (hts (.fieldLink RX9 129 "BoundaryAnalyzerModel" "boundary" "[I") (List.mem_of_getElem? (i := 2) rfl)) dX9_longest_44 ?_
        refine lv_iload hx hb dX9_longest_47 (lv_at hl 3 rfl) ?_
        obtain ⟨v49, e49, hf⟩ := zb hf
        refine zr_ai hx hb hK hP e49 dX9_longest_49 ?_
        refine lv_isub hx hb dX9_longest_50 ?_
        obtain ⟨x5_51, q51, hf⟩ := zlt_s hf
        refine zt q51 ?_
        refine lv_istore (lv' := [(5, .int x5_51), (0, .ref (b + h0)), (2, .int x2), (3, .int x3), (4, .int x4)]) hx hb dX9_longest_51 hl (by decide) rfl (fun ls hl => ?_)
        refine lv_iload hx hb dX9_longest_53 (lv_at hl 0 rfl) ?_
        refine lv_iload_n hx hb dX9_longest_55 rfl (lv_at hl 3 rfl) ?_
        refine lv_icmp_le (tgt := 69) hx hb dX9_longest_56 (by decide) (fun c56 => ?_) (fun c56 => ?_)
        · have hf := (if_pos c56).symm.trans hf
          refine lv_iload_n hx hb dX9_longest_69 rfl (lv_at hl 2 rfl) ?_
          exact J70 _ _ _ _ _ _ _ _ _ hf hP hS (lv_sub hl [1, 3, 4, 0] rfl)
        · have hf := (if_neg c56).symm.trans hf
          refine lv_aload_n hx hb dX9_longest_59 rfl (lv_at hl 1 rfl) ?_
          obtain ⟨v60, e60, hf⟩ := zb hf
          refine zr_gr (ci := 9) (k := 53) (C := RX9) (T := TX9) (N := 54) hx hb hts hi_X9_longest_9 hown hK hP e60 rfl rfl (by decide) (by decide) (hts (.fieldLink RX9 129 "BoundaryAnalyzerModel" "boundary" "[I") (List.mem_of_getElem? (i := 2) rfl)) dX9_longest_60 ?_
          refine lv_iload hx hb dX9_longest_63 (lv_at hl 4 rfl) ?_
          obtain ⟨v65, e65, hf⟩ := zb hf
          refine zr_ai hx hb hK hP e65 dX9_longest_65 ?_
          refine lv_goto (tgt := 70) hx hb dX9_longest_66 (by decide) ?_
          exact J70 _ _ _ _ _ _ _ _ _ hf hP hS (lv_sub hl [1, 3, 4, 0] rfl)
  unfold fX9_longest at hf
  refine lv_iload_n hx hb dX9_longest_0 rfl (lv_at hl 1 rfl) ?_
  obtain ⟨v1, e1, hf⟩ := zb hf
  refine zc_p (va_runS (As := [.int p1]) (rest := []) ⟨hx, hb, hml, hown, hts⟩ (k_X9_noKind l p1 v1 e1) (va_cwS 1 hts gX9_longest_X9_noKind rfl rfl rfl (by decide +kernel) ⟨Nat.le_of_ble_eq_true rfl, Nat.le_of_ble_eq_true rfl⟩) (zp_p _) rfl rfl hl.1 rfl (lv_room (Nat.le_of_ble_eq_true rfl)) dX9_longest_1 ⟨Nat.zero_le _, Nat.zero_le _⟩) ?_
  refine lv_if_eq (tgt := 10) hx hb dX9_longest_4 (by decide) (fun c4 => ?_) (fun c4 => ?_)
  · have hf := (if_pos c4).symm.trans hf
    refine lv_aload_n hx hb dX9_longest_10 rfl (lv_at hl 0 rfl) ?_
    refine lv_iload_n hx hb dX9_longest_11 rfl (lv_at hl 1 rfl) ?_
    obtain ⟨u12, t12, hf⟩ := zb hf
    obtain ⟨M12, e12, hf⟩ := zb hf
    refine zc_v hS (va_runV (As := [.int p1]) (rest := []) ⟨hx, hb, hml, hown, hts⟩ (k_X9_layBoundaries l D cy b M0 p0 p1 M12 e12) (cwV 1 hts gX9_longest_X9_layBoundaries rfl rfl rfl (by decide +kernel) ⟨Nat.le_of_ble_eq_true rfl, Nat.le_of_ble_eq_true rfl⟩) (zp_V _ hK hP t12 (T := TX9) (N := 54) rfl (by decide)) rfl rfl hl.1 rfl (lv_room (Nat.le_of_ble_eq_true rfl)) dX9_longest_12 ⟨Nat.zero_le _, Nat.zero_le _⟩) (fun H locs hP hS => ?_)
    refine lv_bipush (v := (-5 : Int32)) hx hb dX9_longest_15 (by decide) ?_
    refine lv_istore_n (lv' := [(2, .int (-5 : Int32)), (0, .ref (b + p0)), (1, .int p1)]) hx hb dX9_longest_17 rfl hl (by decide) rfl (fun ls hl => ?_)
    refine lv_iconst (v := (0 : Int32)) hx hb dX9_longest_18 (by decide) ?_
    refine lv_istore_n (lv' := [(3, .int (0 : Int32)), (2, .int (-5 : Int32)), (0, .ref (b + p0)), (1, .int p1)]) hx hb dX9_longest_19 rfl hl (by decide) rfl (fun ls hl => ?_)
    refine lv_iconst (v := (0 : Int32)) hx hb dX9_longest_20 (by decide) ?_
    refine lv_istore (lv' := [(4, .int (0 : Int32)), (3, .int (0 : Int32)), (2, .int (-5 : Int32)), (0, .ref (b + p0)), (1, .int p1)]) hx hb dX9_longest_21 hl (by decide) rfl (fun ls hl => ?_)
    exact L23 _ _ _ _ _ _ _ _ _ hf hP hS (lv_sub hl [3, 2, 1, 0] rfl)
  · have hf := (if_neg c4).symm.trans hf
    refine lv_bipush (v := (-2 : Int32)) hx hb dX9_longest_7 (by decide) ?_
    exact zret_i hx hb hr hlocks hf hP hS dX9_longest_9
