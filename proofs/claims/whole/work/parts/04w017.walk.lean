theorem hi_X6_takeLeaf_3 : ∀ w ∈ wsX30, w ∈ wsX6_takeLeaf := fun _ h => List.mem_cons_of_mem _ (List.mem_append_right _ h)
theorem hi_X6_takeLeaf_5 : ∀ w ∈ wsX50, w ∈ wsX6_takeLeaf := fun _ h => List.mem_cons_of_mem _ (List.mem_append_left _ (List.mem_append_left _ (List.mem_append_right _ h)))
theorem hi_X6_takeLeaf_6 : ∀ w ∈ wsX60, w ∈ wsX6_takeLeaf := fun _ h => List.mem_cons_of_mem _ (List.mem_append_left _ (List.mem_append_right _ h))
set_option maxHeartbeats 4000000 in
set_option maxRecDepth 100000 in
theorem k_X6_takeLeaf (l : Launch) (D : va_G) (cy : Nat → ClassId) (b : Nat) (M0 : Mem) (p0 : Nat) (p1 : Nat) (p2 : Int32) (p3 : Int32) (rr : Mem) (hf : fX6_takeLeaf M0 p0 p1 p2 p3 = some rr) : Met l yX6_takeLeaf wsX6_takeLeaf ({ frames := 1, cells := 0, slots := 0, locals := 23 } : Room) (zPc D cy b M0 [.ref (b + p0), .ref (b + p1), .int p2, .int p3]) (zQv D cy b rr) 0 0 (zA b) := by
  refine Met.ofW (cc := cX6_takeLeaf) (maxL := 6) (ret := none) (by decide) rfl ?_
  intro p e s m args below meth c s₁ B hml hv
  obtain ⟨rfl, hP, hK⟩ := hv
  have hx := B.exec
  have hb := B.bytes
  have hr := B.returns
  have hts := atoms_spec (ws := wsX6_takeLeaf) B.pre
  have hown : s.vm.findClass RX6 = some m.cls := findClass_of_methodNamed B.named
  have hlocks := B.notSynchronized
  have hS : va_S (zA b) s.heap s.heap [] := va_S.rf
  have hl := lv_entry ([.ref (b + p0), .ref (b + p1), .int p2, .int p3]) (n := 6) (Nat.le_of_ble_eq_true rfl)
  rw [lg_entry_eq]
  generalize (lg_sl ([.ref (b + p0), .ref (b + p1), .int p2, .int p3]) ++ List.replicate (6 - (lg_sl ([.ref (b + p0), .ref (b + p1), .int p2, .int p3])).length) Slot.unset).toArray = ls at hl ⊢
  have hl : lv_has ls 6 [(0, .ref (b + p0)), (1, .ref (b + p1)), (2, .int p2), (3, .int p3)] := hl
  have L8 : ∀ (n8 : Nat) (M : Mem) (H : Heap) (locs : List Loc) (ls : Array Slot) (h0 : Nat) (h1 : Nat) (x3 : Int32) (x4 : Int32) (x5 : Int32), fX6_takeLeaf_8L  n8 M h0 h1 x3 x4 x5 = some rr → zH D cy b M H → va_S (zA b) s.heap H locs → lv_has ls 6 [(0, .ref (b + h0)), (1, .ref (b + h1)), (3, .int x3), (4, .int x4), (5, .int x5)] → W p l e (headSpec wsX6_takeLeaf ({ frames := 1, cells := 0, slots := 0, locals := 23 } : Room)).room s m ([.ref (b + p0), .ref (b + p1), .int p2, .int p3] : List Value).toArray below meth c H locs 0 0 (MQ below (zQv D cy b rr) ([.ref (b + p0), .ref (b + p1), .int p2, .int p3] : List Value).toArray s 0 0 (zA b)) (F0 m 8 ls []) := by
    intro n8
    induction n8 with
    | zero =>
      intro M H locs ls h0 h1 x3 x4 x5 hf
      have hf : (none : Option Mem) = some rr := hf
      cases hf
    | succ n8 ih8 =>
      have J42 : ∀ (M : Mem) (H : Heap) (locs : List Loc) (ls : Array Slot) (h0 : Nat) (h1 : Nat) (x3 : Int32) (x4 : Int32) (x5 : Int32), fX6_takeLeaf_42 (fX6_takeLeaf_8L  n8) M h0 h1 x3 x4 x5 = some rr → zH D cy b M H → va_S (zA b) s.heap H locs → lv_has ls 6 [(0, .ref (b + h0)), (1, .ref (b + h1)), (3, .int x3), (4, .int x4), (5, .int x5)] → W p l e (headSpec wsX6_takeLeaf ({ frames := 1, cells := 0, slots := 0, locals := 23 } : Room)).room s m ([.ref (b + p0), .ref (b + p1), .int p2, .int p3] : List Value).toArray below meth c H locs 0 0 (MQ below (zQv D cy b rr) ([.ref (b + p0), .ref (b + p1), .int p2, .int p3] : List Value).toArray s 0 0 (zA b)) (F0 m 42 ls []) := by
        intro M H locs ls h0 h1 x3 x4 x5 hf hP hS hl
        unfold fX6_takeLeaf_42 at hf
        obtain ⟨x5_42, q42, hf⟩ := zlt_s hf
        refine lv_iinc (v := x5_42) (lv' := [(5, .int x5_42), (0, .ref (b + h0)), (1, .ref (b + h1)), (3, .int x3), (4, .int x4)]) hx hb dX6_takeLeaf_42 hl (k := 4) rfl (by rw [← q42]; rfl) (by decide) rfl (fun ls hl => ?_)
        refine lv_goto (tgt := 8) hx hb dX6_takeLeaf_45 (by decide) ?_
        exact ih8 _ _ _ _ _ _ _ _ _ hf hP hS (lv_sub hl [1, 2, 3, 4, 0] rfl)
      have J30 : ∀ (M : Mem) (H : Heap) (locs : List Loc) (ls : Array Slot) (h0 : Nat) (h1 : Nat) (x3 : Int32) (x4 : Int32) (x5 : Int32), fX6_takeLeaf_30 (fX6_takeLeaf_8L  n8) M h0 h1 x3 x4 x5 = some rr → zH D cy b M H → va_S (zA b) s.heap H locs → lv_has ls 6 [(0, .ref (b + h0)), (1, .ref (b + h1)), (3, .int x3), (4, .int x4), (5, .int x5)] → W p l e (headSpec wsX6_takeLeaf ({ frames := 1, cells := 0, slots := 0, locals := 23 } : Room)).room s m ([.ref (b + p0), .ref (b + p1), .int p2, .int p3] : List Value).toArray below meth c H locs 0 0 (MQ below (zQv D cy b rr) ([.ref (b + p0), .ref (b + p1), .int p2, .int p3] : List Value).toArray s 0 0 (zA b)) (F0 m 30 ls []) := by
        intro M H locs ls h0 h1 x3 x4 x5 hf hP hS hl
        unfold fX6_takeLeaf_30 at hf
        refine lv_aload_n hx hb dX6_takeLeaf_30 rfl (lv_at hl 1 rfl) ?_
        obtain ⟨v31, e31, hf⟩ := zb hf
        refine zr_gr (ci := 5) (k := 4) (C := RX5) (T := TX5) (N := 9) hx hb hts hi_X6_takeLeaf_5 hown hK hP e31 rfl rfl (by decide) (by decide) (hts (.fieldLink RX6 37 "BoundaryAnalyzer$Rule" "takers" "[I") (List.mem_of_getElem? (i := 1) rfl)) dX6_takeLeaf_31 ?_
        refine lv_iload hx hb dX6_takeLeaf_34 (lv_at hl 4 rfl) ?_
        refine lv_dup2_11 hx hb dX6_takeLeaf_36 rfl rfl ?_
        obtain ⟨v37, e37, hf⟩ := zb hf
        refine zr_ai hx hb hK hP e37 dX6_takeLeaf_37 ?_
        refine lv_iload hx hb dX6_takeLeaf_38 (lv_at hl 3 rfl) ?_
        refine lv_ior hx hb dX6_takeLeaf_40 ?_
        obtain ⟨M41, e41, hf⟩ := zb hf
        refine zr_si hx hb hK hP hS e41 dX6_takeLeaf_41 (fun H locs hP _ hS => ?_)
        exact J42 _ _ _ _ _ _ _ _ _ hf hP hS (lv_sub hl [0, 1, 2, 3, 4] rfl)
      intro M H locs ls h0 h1 x3 x4 x5 hf hP hS hl
      have hf : fX6_takeLeaf_8  (fX6_takeLeaf_8L  n8) M h0 h1 x3 x4 x5 = some rr := hf
      unfold fX6_takeLeaf_8 at hf
      refine lv_iload hx hb dX6_takeLeaf_8 (lv_at hl 4 rfl) ?_
      refine lv_bipush (v := (12 : Int32)) hx hb dX6_takeLeaf_10 (by decide) ?_
      refine lv_icmp_ge (tgt := 48) hx hb dX6_takeLeaf_12 (by decide) (fun c12 => ?_) (fun c12 => ?_)
      · have hf := (if_pos c12).symm.trans hf
        refine lv_aload_n hx hb dX6_takeLeaf_48 rfl (lv_at hl 0 rfl) ?_
        obtain ⟨v49, e49, hf⟩ := zb hf
        refine zr_gr (ci := 6) (k := 2) (C := RX6) (T := TX6) (N := 4) hx hb hts hi_X6_takeLeaf_6 hown hK hP e49 rfl rfl (by decide) (by decide) (hts (.fieldLink RX6 21 "BoundaryAnalyzer$RuleBuilder" "item" "LBoundaryAnalyzer$Part;") (List.mem_of_getElem? (i := 2) rfl)) dX6_takeLeaf_49 ?_
        refine lv_iload hx hb dX6_takeLeaf_52 (lv_at hl 3 rfl) ?_
        refine lv_iload hx hb dX6_takeLeaf_54 (lv_at hl 3 rfl) ?_
        refine lv_iconst (v := (0 : Int32)) hx hb dX6_takeLeaf_56 (by decide) ?_
        obtain ⟨u57, t57, hf⟩ := zb hf
        obtain ⟨M57, e57, hf⟩ := zb hf
        refine zc_v hS (va_runV (As := [.int x4, .int x4, .int (0 : Int32)]) (rest := []) ⟨hx, hb, hml, hown, hts⟩ (k_X3_become l D cy b M v49 x4 x4 (0 : Int32) M57 e57) (cwV 3 hts gX6_takeLeaf_X3_become rfl rfl rfl (by decide +kernel) ⟨Nat.le_of_ble_eq_true rfl, Nat.le_of_ble_eq_true rfl⟩) (zp_V _ hK hP t57 (T := TX3) (N := 3) rfl (by decide)) rfl rfl hl.1 rfl (lv_room (Nat.le_of_ble_eq_true rfl)) dX6_takeLeaf_57 ⟨Nat.zero_le _, Nat.zero_le _⟩) (fun H locs hP hS => ?_)
        exact zret_v hx hb hr hlocks hf hP hS dX6_takeLeaf_60
      · have hf := (if_neg c12).symm.trans hf
        refine lv_iload_n hx hb dX6_takeLeaf_15 rfl (lv_at hl 2 rfl) ?_
        refine lv_bipush (v := (46 : Int32)) hx hb dX6_takeLeaf_16 (by decide) ?_
        refine lv_icmp_eq (tgt := 30) hx hb dX6_takeLeaf_18 (by decide) (fun c18 => ?_) (fun c18 => ?_)
        · have hf := (if_pos c18).symm.trans hf
          exact J30 _ _ _ _ _ _ _ _ _ hf hP hS (lv_sub hl [0, 1, 2, 3, 4] rfl)
        · have hf := (if_neg c18).symm.trans hf
          refine lv_iload_n hx hb dX6_takeLeaf_21 rfl (lv_at hl 2 rfl) ?_
          refine lv_bipush (v := (65 : Int32)) hx hb dX6_takeLeaf_22 (by decide) ?_
          refine lv_iload hx hb dX6_takeLeaf_24 (lv_at hl 4 rfl) ?_
          refine lv_iadd hx hb dX6_takeLeaf_26 ?_
          refine lv_icmp_ne (tgt := 42) hx hb dX6_takeLeaf_27 (by decide) (fun c27 => ?_) (fun c27 => ?_)
          · have hf := (if_neg c27).symm.trans hf
            exact J42 _ _ _ _ _ _ _ _ _ hf hP hS (lv_sub hl [0, 1, 2, 3, 4] rfl)
          · have hf := (if_pos c27).symm.trans hf
            exact J30 _ _ _ _ _ _ _ _ _ hf hP hS (lv_sub hl [0, 1, 2, 3, 4] rfl)
  unfold fX6_takeLeaf at hf
  refine lv_iconst (v := (1 : Int32)) hx hb dX6_takeLeaf_0 (by decide) ?_
  refine lv_iload_n hx hb dX6_takeLeaf_1 rfl (lv_at hl 2 rfl) ?_
  refine lv_ishl hx hb dX6_takeLeaf_2 ?_
  obtain ⟨x4_3, q3, hf⟩ := zlt_s hf
  refine zt q3 ?_
  refine lv_istore (lv' := [(4, .int x4_3), (0, .ref (b + p0)), (1, .ref (b + p1)), (2, .int p2), (3, .int p3)]) hx hb dX6_takeLeaf_3 hl (by decide) rfl (fun ls hl => ?_)
  refine lv_iconst (v := (0 : Int32)) hx hb dX6_takeLeaf_5 (by decide) ?_
  refine lv_istore (lv' := [(5, .int (0 : Int32)), (4, .int x4_3), (0, .ref (b + p0)), (1, .ref (b + p1)), (2, .int p2), (3, .int p3)]) hx hb dX6_takeLeaf_6 hl (by decide) rfl (fun ls hl => ?_)
  exact L8 _ _ _ _ _ _ _ _ _ _ hf hP hS (lv_sub hl [2, 3, 5, 1, 0] rfl)
