theorem hi_X8_faultOf_4 : ∀ w ∈ wsX40, w ∈ wsX8_faultOf := fun _ h => List.mem_cons_of_mem _ (List.mem_append_right _ h)
set_option maxHeartbeats 4000000 in
set_option maxRecDepth 100000 in
theorem k_X8_faultOf (l : Launch) (D : va_G) (cy : Nat → ClassId) (b : Nat) (M0 : Mem) (p0 : Nat) (rr : Int32 × Mem) (hf : fX8_faultOf M0 p0 = some rr) : Met l yX8_faultOf wsX8_faultOf ({ frames := 1, cells := 0, slots := 0, locals := 21 } : Room) (zPc D cy b M0 [.ref (b + p0)]) (zQi D cy b rr) 0 0 (zA b) := by
  refine Met.ofW (cc := cX8_faultOf) (maxL := 7) (ret := (some .int)) (by decide) rfl ?_
  intro p e s m args below meth c s₁ B hml hv
  obtain ⟨rfl, hP, hK⟩ := hv
  have hx := B.exec
  have hb := B.bytes
  have hr := B.returns
  have hts := atoms_spec (ws := wsX8_faultOf) B.pre
  have hown : s.vm.findClass RX8 = some m.cls := findClass_of_methodNamed B.named
  have hlocks := B.notSynchronized
  have hS : va_S (zA b) s.heap s.heap [] := va_S.rf
  have hl := lv_entry ([.ref (b + p0)]) (n := 7) (Nat.le_of_ble_eq_true rfl)
  rw [lg_entry_eq]
  generalize (lg_sl ([.ref (b + p0)]) ++ List.replicate (7 - (lg_sl ([.ref (b + p0)])).length) Slot.unset).toArray = ls at hl ⊢
  have hl : lv_has ls 7 [(0, .ref (b + p0))] := hl
  have J175 : ∀ (M : Mem) (H : Heap) (locs : List Loc) (ls : Array Slot) (h0 : Nat), fX8_faultOf_175  M h0 = some rr → zH D cy b M H → va_S (zA b) s.heap H locs → lv_has ls 7 [(0, .ref (b + h0))] → W p l e (headSpec wsX8_faultOf ({ frames := 1, cells := 0, slots := 0, locals := 21 } : Room)).room s m ([.ref (b + p0)] : List Value).toArray below meth c H locs 0 0 (MQ below (zQi D cy b rr) ([.ref (b + p0)] : List Value).toArray s 0 0 (zA b)) (F0 m 175 ls []) := by
    intro M H locs ls h0 hf hP hS hl
    unfold fX8_faultOf_175 at hf
    refine lv_aload_n hx hb dX8_faultOf_175 rfl (lv_at hl 0 rfl) ?_
    obtain ⟨v176, e176, hf⟩ := zb hf
    refine zr_gi (ci := 4) (k := 1) (C := RX4) (T := TX4) (N := 2) hx hb hts hi_X8_faultOf_4 hown hK hP e176 rfl rfl (by decide) (by decide) (hts (.fieldLink RX8 70 "BoundaryAnalyzer$Row" "size" "I") (List.mem_of_getElem? (i := 1) rfl)) dX8_faultOf_176 ?_
    exact zret_i hx hb hr hlocks hf hP hS dX8_faultOf_179
  have L12 : ∀ (n12 : Nat) (M : Mem) (H : Heap) (locs : List Loc) (ls : Array Slot) (h0 : Nat) (x1 : Int32) (x2 : Int32) (x3 : Int32) (x4 : Int32) (x5 : Int32), fX8_faultOf_12L  n12 M h0 x1 x2 x3 x4 x5 = some rr → zH D cy b M H → va_S (zA b) s.heap H locs → lv_has ls 7 [(0, .ref (b + h0)), (1, .int x1), (2, .int x2), (3, .int x3), (4, .int x4), (5, .int x5)] → W p l e (headSpec wsX8_faultOf ({ frames := 1, cells := 0, slots := 0, locals := 21 } : Room)).room s m ([.ref (b + p0)] : List Value).toArray below meth c H locs 0 0 (MQ below (zQi D cy b rr) ([.ref (b + p0)] : List Value).toArray s 0 0 (zA b)) (F0 m 12 ls []) := by
    intro n12
    induction n12 with
    | zero =>
      intro M H locs ls h0 x1 x2 x3 x4 x5 hf
      have hf : (none : Option (Int32 × Mem)) = some rr := hf
      cases hf
    | succ n12 ih12 =>
      have J157 : ∀ (M : Mem) (H : Heap) (locs : List Loc) (ls : Array Slot) (h0 : Nat) (x1 : Int32) (x2 : Int32) (x3 : Int32) (x4 : Int32) (x5 : Int32), fX8_faultOf_157 (fX8_faultOf_12L  n12) M h0 x1 x2 x3 x4 x5 = some rr → zH D cy b M H → va_S (zA b) s.heap H locs → lv_has ls 7 [(0, .ref (b + h0)), (1, .int x1), (2, .int x2), (3, .int x3), (4, .int x4), (5, .int x5)] → W p l e (headSpec wsX8_faultOf ({ frames := 1, cells := 0, slots := 0, locals := 21 } : Room)).room s m ([.ref (b + p0)] : List Value).toArray below meth c H locs 0 0 (MQ below (zQi D cy b rr) ([.ref (b + p0)] : List Value).toArray s 0 0 (zA b)) (F0 m 157 ls []) := by
        intro M H locs ls h0 x1 x2 x3 x4 x5 hf hP hS hl
        unfold fX8_faultOf_157 at hf
        obtain ⟨x5_157, q157, hf⟩ := zlt_s hf
        refine lv_iinc (v := x5_157) (lv' := [(5, .int x5_157), (0, .ref (b + h0)), (1, .int x1), (2, .int x2), (3, .int x3), (4, .int x4)]) hx hb dX8_faultOf_157 hl (k := 5) rfl (by rw [← q157]; rfl) (by decide) rfl (fun ls hl => ?_)
        refine lv_goto (tgt := 12) hx hb dX8_faultOf_160 (by decide) ?_
        exact ih12 _ _ _ _ _ _ _ _ _ _ hf hP hS (lv_sub hl [1, 2, 3, 4, 5, 0] rfl)
      have J137 : ∀ (M : Mem) (H : Heap) (locs : List Loc) (ls : Array Slot) (h0 : Nat) (x1 : Int32) (x2 : Int32) (x3 : Int32) (x4 : Int32) (x5 : Int32) (x6 : Int32), fX8_faultOf_137 (fX8_faultOf_12L  n12) M h0 x1 x2 x3 x4 x5 x6 = some rr → zH D cy b M H → va_S (zA b) s.heap H locs → lv_has ls 7 [(0, .ref (b + h0)), (1, .int x1), (2, .int x2), (3, .int x3), (4, .int x4), (5, .int x5), (6, .int x6)] → W p l e (headSpec wsX8_faultOf ({ frames := 1, cells := 0, slots := 0, locals := 21 } : Room)).room s m ([.ref (b + p0)] : List Value).toArray below meth c H locs 0 0 (MQ below (zQi D cy b rr) ([.ref (b + p0)] : List Value).toArray s 0 0 (zA b)) (F0 m 137 ls []) := by
        intro M H locs ls h0 x1 x2 x3 x4 x5 x6 hf hP hS hl
        unfold fX8_faultOf_137 at hf
        refine lv_iload hx hb dX8_faultOf_137 (lv_at hl 6 rfl) ?_
        obtain ⟨v139, e139, hf⟩ := zb hf
        refine zc_p (va_runS (As := [.int x6]) (rest := []) ⟨hx, hb, hml, hown, hts⟩ (k_X8_isRepetition l x6 v139 e139) (va_cwS 1 hts gX8_faultOf_X8_isRepetition rfl rfl rfl (by decide +kernel) ⟨Nat.le_of_ble_eq_true rfl, Nat.le_of_ble_eq_true rfl⟩) (zp_p _) rfl rfl hl.1 rfl (lv_room (Nat.le_of_ble_eq_true rfl)) dX8_faultOf_139 ⟨Nat.zero_le _, Nat.zero_le _⟩) ?_
        refine lv_if_eq (tgt := 154) hx hb dX8_faultOf_142 (by decide) (fun c142 => ?_) (fun c142 => ?_)
        · have hf := (if_pos c142).symm.trans hf
          refine lv_iload hx hb dX8_faultOf_154 (lv_at hl 5 rfl) ?_
          exact zret_i hx hb hr hlocks hf hP hS dX8_faultOf_156
        · have hf := (if_neg c142).symm.trans hf
          refine lv_iload_n hx hb dX8_faultOf_145 rfl (lv_at hl 3 rfl) ?_
          refine lv_if_eq (tgt := 154) hx hb dX8_faultOf_146 (by decide) (fun c146 => ?_) (fun c146 => ?_)
          · have hf := (if_pos c146).symm.trans hf
            refine lv_iload hx hb dX8_faultOf_154 (lv_at hl 5 rfl) ?_
            exact zret_i hx hb hr hlocks hf hP hS dX8_faultOf_156
          · have hf := (if_neg c146).symm.trans hf
            refine lv_iconst (v := (0 : Int32)) hx hb dX8_faultOf_149 (by decide) ?_
            refine lv_istore_n (lv' := [(3, .int (0 : Int32)), (0, .ref (b + h0)), (1, .int x1), (2, .int x2), (4, .int x4), (5, .int x5), (6, .int x6)]) hx hb dX8_faultOf_150 rfl hl (by decide) rfl (fun ls hl => ?_)
            refine lv_goto (tgt := 157) hx hb dX8_faultOf_151 (by decide) ?_
            exact J157 _ _ _ _ _ _ _ _ _ _ hf hP hS (lv_sub hl [1, 2, 3, 0, 4, 5] rfl)
      have J107 : ∀ (M : Mem) (H : Heap) (locs : List Loc) (ls : Array Slot) (h0 : Nat) (x1 : Int32) (x2 : Int32) (x3 : Int32) (x4 : Int32) (x5 : Int32) (x6 : Int32), fX8_faultOf_107 (fX8_faultOf_12L  n12) M h0 x1 x2 x3 x4 x5 x6 = some rr → zH D cy b M H → va_S (zA b) s.heap H locs → lv_has ls 7 [(0, .ref (b + h0)), (1, .int x1), (2, .int x2), (3, .int x3), (4, .int x4), (5, .int x5), (6, .int x6)] → W p l e (headSpec wsX8_faultOf ({ frames := 1, cells := 0, slots := 0, locals := 21 } : Room)).room s m ([.ref (b + p0)] : List Value).toArray below meth c H locs 0 0 (MQ below (zQi D cy b rr) ([.ref (b + p0)] : List Value).toArray s 0 0 (zA b)) (F0 m 107 ls []) := by
        intro M H locs ls h0 x1 x2 x3 x4 x5 x6 hf hP hS hl
        unfold fX8_faultOf_107 at hf
        refine lv_iload hx hb dX8_faultOf_107 (lv_at hl 6 rfl) ?_
        refine lv_bipush (v := (47 : Int32)) hx hb dX8_faultOf_109 (by decide) ?_
        refine lv_icmp_ne (tgt := 137) hx hb dX8_faultOf_111 (by decide) (fun c111 => ?_) (fun c111 => ?_)
        · have hf := (if_neg c111).symm.trans hf
          exact J137 _ _ _ _ _ _ _ _ _ _ _ hf hP hS (lv_sub hl [0, 1, 2, 3, 4, 5, 6] rfl)
        · have hf := (if_pos c111).symm.trans hf
          refine lv_iload_n hx hb dX8_faultOf_114 rfl (lv_at hl 2 rfl) ?_
          refine lv_if_eq (tgt := 137) hx hb dX8_faultOf_115 (by decide) (fun c115 => ?_) (fun c115 => ?_)
          · have hf := (if_pos c115).symm.trans hf
            exact J137 _ _ _ _ _ _ _ _ _ _ _ hf hP hS (lv_sub hl [0, 1, 2, 3, 4, 5, 6] rfl)
          · have hf := (if_neg c115).symm.trans hf
            refine lv_iload_n hx hb dX8_faultOf_118 rfl (lv_at hl 1 rfl) ?_
            refine lv_if_ne (tgt := 137) hx hb dX8_faultOf_119 (by decide) (fun c119 => ?_) (fun c119 => ?_)
            · have hf := (if_neg c119).symm.trans hf
              exact J137 _ _ _ _ _ _ _ _ _ _ _ hf hP hS (lv_sub hl [0, 1, 2, 3, 4, 5, 6] rfl)
            · have hf := (if_pos c119).symm.trans hf
              refine lv_iload hx hb dX8_faultOf_122 (lv_at hl 4 rfl) ?_
              refine lv_if_ne (tgt := 137) hx hb dX8_faultOf_124 (by decide) (fun c124 => ?_) (fun c124 => ?_)
              · have hf := (if_neg c124).symm.trans hf
                exact J137 _ _ _ _ _ _ _ _ _ _ _ hf hP hS (lv_sub hl [0, 1, 2, 3, 4, 5, 6] rfl)
              · have hf := (if_pos c124).symm.trans hf
                refine lv_iconst (v := (1 : Int32)) hx hb dX8_faultOf_127 (by decide) ?_
                refine lv_istore (lv' := [(4, .int (1 : Int32)), (0, .ref (b + h0)), (1, .int x1), (2, .int x2), (3, .int x3), (5, .int x5), (6, .int x6)]) hx hb dX8_faultOf_128 hl (by decide) rfl (fun ls hl => ?_)
                refine lv_iconst (v := (0 : Int32)) hx hb dX8_faultOf_130 (by decide) ?_
                refine lv_istore_n (lv' := [(2, .int (0 : Int32)), (4, .int (1 : Int32)), (0, .ref (b + h0)), (1, .int x1), (3, .int x3), (5, .int x5), (6, .int x6)]) hx hb dX8_faultOf_131 rfl hl (by decide) rfl (fun ls hl => ?_)
                refine lv_iconst (v := (0 : Int32)) hx hb dX8_faultOf_132 (by decide) ?_
                refine lv_istore_n (lv' := [(3, .int (0 : Int32)), (2, .int (0 : Int32)), (4, .int (1 : Int32)), (0, .ref (b + h0)), (1, .int x1), (5, .int x5), (6, .int x6)]) hx hb dX8_faultOf_133 rfl hl (by decide) rfl (fun ls hl => ?_)
                refine lv_goto (tgt := 157) hx hb dX8_faultOf_134 (by decide) ?_
                exact J157 _ _ _ _ _ _ _ _ _ _ hf hP hS (lv_sub hl [3, 4, 1, 0, 2, 5] rfl)
      have J89 : ∀ (M : Mem) (H : Heap) (locs : List Loc) (ls : Array Slot) (h0 : Nat) (x1 : Int32) (x2 : Int32) (x3 : Int32) (x4 : Int32) (x5 : Int32) (x6 : Int32), fX8_faultOf_89 (fX8_faultOf_12L  n12) M h0 x1 x2 x3 x4 x5 x6 = some rr → zH D cy b M H → va_S (zA b) s.heap H locs → lv_has ls 7 [(0, .ref (b + h0)), (1, .int x1), (2, .int x2), (3, .int x3), (4, .int x4), (5, .int x5), (6, .int x6)] → W p l e (headSpec wsX8_faultOf ({ frames := 1, cells := 0, slots := 0, locals := 21 } : Room)).room s m ([.ref (b + p0)] : List Value).toArray below meth c H locs 0 0 (MQ below (zQi D cy b rr) ([.ref (b + p0)] : List Value).toArray s 0 0 (zA b)) (F0 m 89 ls []) := by
        intro M H locs ls h0 x1 x2 x3 x4 x5 x6 hf hP hS hl
        unfold fX8_faultOf_89 at hf
        refine lv_iload hx hb dX8_faultOf_89 (lv_at hl 6 rfl) ?_
        refine lv_bipush (v := (124 : Int32)) hx hb dX8_faultOf_91 (by decide) ?_
        refine lv_icmp_ne (tgt := 107) hx hb dX8_faultOf_93 (by decide) (fun c93 => ?_) (fun c93 => ?_)
        · have hf := (if_neg c93).symm.trans hf
          exact J107 _ _ _ _ _ _ _ _ _ _ _ hf hP hS (lv_sub hl [0, 1, 2, 3, 4, 5, 6] rfl)
        · have hf := (if_pos c93).symm.trans hf
          refine lv_iload_n hx hb dX8_faultOf_96 rfl (lv_at hl 2 rfl) ?_
          refine lv_if_eq (tgt := 107) hx hb dX8_faultOf_97 (by decide) (fun c97 => ?_) (fun c97 => ?_)
          · have hf := (if_pos c97).symm.trans hf
            exact J107 _ _ _ _ _ _ _ _ _ _ _ hf hP hS (lv_sub hl [0, 1, 2, 3, 4, 5, 6] rfl)
          · have hf := (if_neg c97).symm.trans hf
            refine lv_iconst (v := (0 : Int32)) hx hb dX8_faultOf_100 (by decide) ?_
            refine lv_istore_n (lv' := [(2, .int (0 : Int32)), (0, .ref (b + h0)), (1, .int x1), (3, .int x3), (4, .int x4), (5, .int x5), (6, .int x6)]) hx hb dX8_faultOf_101 rfl hl (by decide) rfl (fun ls hl => ?_)
            refine lv_iconst (v := (0 : Int32)) hx hb dX8_faultOf_102 (by decide) ?_
            refine lv_istore_n (lv' := [(3, .int (0 : Int32)), (2, .int (0 : Int32)), (0, .ref (b + h0)), (1, .int x1), (4, .int x4), (5, .int x5), (6, .int x6)]) hx hb dX8_faultOf_103 rfl hl (by decide) rfl (fun ls hl => ?_)
            refine lv_goto (tgt := 157) hx hb dX8_faultOf_104 (by decide) ?_
            exact J157 _ _ _ _ _ _ _ _ _ _ hf hP hS (lv_sub hl [2, 3, 1, 0, 4, 5] rfl)
      have J66 : ∀ (M : Mem) (H : Heap) (locs : List Loc) (ls : Array Slot) (h0 : Nat) (x1 : Int32) (x2 : Int32) (x3 : Int32) (x4 : Int32) (x5 : Int32) (x6 : Int32), fX8_faultOf_66 (fX8_faultOf_12L  n12) M h0 x1 x2 x3 x4 x5 x6 = some rr → zH D cy b M H → va_S (zA b) s.heap H locs → lv_has ls 7 [(0, .ref (b + h0)), (1, .int x1), (2, .int x2), (3, .int x3), (4, .int x4), (5, .int x5), (6, .int x6)] → W p l e (headSpec wsX8_faultOf ({ frames := 1, cells := 0, slots := 0, locals := 21 } : Room)).room s m ([.ref (b + p0)] : List Value).toArray below meth c H locs 0 0 (MQ below (zQi D cy b rr) ([.ref (b + p0)] : List Value).toArray s 0 0 (zA b)) (F0 m 66 ls []) := by
        intro M H locs ls h0 x1 x2 x3 x4 x5 x6 hf hP hS hl
        unfold fX8_faultOf_66 at hf
        refine lv_iload hx hb dX8_faultOf_66 (lv_at hl 6 rfl) ?_
        refine lv_bipush (v := (41 : Int32)) hx hb dX8_faultOf_68 (by decide) ?_
        refine lv_icmp_ne (tgt := 89) hx hb dX8_faultOf_70 (by decide) (fun c70 => ?_) (fun c70 => ?_)
        · have hf := (if_neg c70).symm.trans hf
          exact J89 _ _ _ _ _ _ _ _ _ _ _ hf hP hS (lv_sub hl [0, 1, 2, 3, 4, 5, 6] rfl)
        · have hf := (if_pos c70).symm.trans hf
          refine lv_iload_n hx hb dX8_faultOf_73 rfl (lv_at hl 1 rfl) ?_
          refine lv_if_le (tgt := 89) hx hb dX8_faultOf_74 (by decide) (fun c74 => ?_) (fun c74 => ?_)
          · have hf := (if_pos c74).symm.trans hf
            exact J89 _ _ _ _ _ _ _ _ _ _ _ hf hP hS (lv_sub hl [0, 1, 2, 3, 4, 5, 6] rfl)
          · have hf := (if_neg c74).symm.trans hf
            refine lv_iload_n hx hb dX8_faultOf_77 rfl (lv_at hl 2 rfl) ?_
            refine lv_if_eq (tgt := 89) hx hb dX8_faultOf_78 (by decide) (fun c78 => ?_) (fun c78 => ?_)
            · have hf := (if_pos c78).symm.trans hf
              exact J89 _ _ _ _ _ _ _ _ _ _ _ hf hP hS (lv_sub hl [0, 1, 2, 3, 4, 5, 6] rfl)
            · have hf := (if_neg c78).symm.trans hf
              obtain ⟨x1_81, q81, hf⟩ := zlt_s hf
              refine lv_iinc (v := x1_81) (lv' := [(1, .int x1_81), (0, .ref (b + h0)), (2, .int x2), (3, .int x3), (4, .int x4), (5, .int x5), (6, .int x6)]) hx hb dX8_faultOf_81 hl (k := 1) rfl (by rw [← q81]; rfl) (by decide) rfl (fun ls hl => ?_)
              refine lv_iconst (v := (1 : Int32)) hx hb dX8_faultOf_84 (by decide) ?_
              refine lv_istore_n (lv' := [(3, .int (1 : Int32)), (1, .int x1_81), (0, .ref (b + h0)), (2, .int x2), (4, .int x4), (5, .int x5), (6, .int x6)]) hx hb dX8_faultOf_85 rfl hl (by decide) rfl (fun ls hl => ?_)
              refine lv_goto (tgt := 157) hx hb dX8_faultOf_86 (by decide) ?_
              exact J157 _ _ _ _ _ _ _ _ _ _ hf hP hS (lv_sub hl [2, 1, 3, 0, 4, 5] rfl)
      intro M H locs ls h0 x1 x2 x3 x4 x5 hf hP hS hl
      have hf : fX8_faultOf_12  (fX8_faultOf_12L  n12) M h0 x1 x2 x3 x4 x5 = some rr := hf
      unfold fX8_faultOf_12 at hf
      refine lv_iload hx hb dX8_faultOf_12 (lv_at hl 5 rfl) ?_
      refine lv_aload_n hx hb dX8_faultOf_14 rfl (lv_at hl 0 rfl) ?_
      obtain ⟨v15, e15, hf⟩ := zb hf
      refine zr_gi (ci := 4) (k := 1) (C := RX4) (T := TX4) (N := 2) hx hb hts hi_X8_faultOf_4 hown hK hP e15 rfl rfl (by decide) (by decide) (hts (.fieldLink RX8 70 "BoundaryAnalyzer$Row" "size" "I") (List.mem_of_getElem? (i := 1) rfl)) dX8_faultOf_15 ?_
      refine lv_icmp_ge (tgt := 163) hx hb dX8_faultOf_18 (by decide) (fun c18 => ?_) (fun c18 => ?_)
      · have hf := (if_pos c18).symm.trans hf
        refine lv_iload_n hx hb dX8_faultOf_163 rfl (lv_at hl 2 rfl) ?_
        refine lv_if_eq (tgt := 175) hx hb dX8_faultOf_164 (by decide) (fun c164 => ?_) (fun c164 => ?_)
        · have hf := (if_pos c164).symm.trans hf
          exact J175 _ _ _ _ _ hf hP hS (lv_sub hl [0] rfl)
        · have hf := (if_neg c164).symm.trans hf
          refine lv_iload_n hx hb dX8_faultOf_167 rfl (lv_at hl 1 rfl) ?_
          refine lv_if_ne (tgt := 175) hx hb dX8_faultOf_168 (by decide) (fun c168 => ?_) (fun c168 => ?_)
          · have hf := (if_neg c168).symm.trans hf
            exact J175 _ _ _ _ _ hf hP hS (lv_sub hl [0] rfl)
          · have hf := (if_pos c168).symm.trans hf
            refine lv_iconst (v := (-1 : Int32)) hx hb dX8_faultOf_171 (by decide) ?_
            refine lv_goto (tgt := 179) hx hb dX8_faultOf_172 (by decide) ?_
            exact zret_i hx hb hr hlocks hf hP hS dX8_faultOf_179
      · have hf := (if_neg c18).symm.trans hf
        refine lv_aload_n hx hb dX8_faultOf_21 rfl (lv_at hl 0 rfl) ?_
        refine lv_iload hx hb dX8_faultOf_22 (lv_at hl 5 rfl) ?_
        obtain ⟨u24, t24, hf⟩ := zb hf
        obtain ⟨r24, e24, hf⟩ := zb hf
        refine zc_i hS (va_runV (As := [.int x5]) (rest := []) ⟨hx, hb, hml, hown, hts⟩ (k_X4_at l D cy b M h0 x5 r24 e24) (cwV 1 hts gX8_faultOf_X4_at rfl rfl rfl (by decide +kernel) ⟨Nat.le_of_ble_eq_true rfl, Nat.le_of_ble_eq_true rfl⟩) (zp_V _ hK hP t24 (T := TX4) (N := 2) rfl (by decide)) rfl rfl hl.1 rfl (lv_room (Nat.le_of_ble_eq_true rfl)) dX8_faultOf_24 ⟨Nat.zero_le _, Nat.zero_le _⟩) (fun H locs hP hS => ?_)
        refine lv_istore (lv' := [(6, .int r24.1), (0, .ref (b + h0)), (1, .int x1), (2, .int x2), (3, .int x3), (4, .int x4), (5, .int x5)]) hx hb dX8_faultOf_27 hl (by decide) rfl (fun ls hl => ?_)
        refine lv_iload hx hb dX8_faultOf_29 (lv_at hl 0 rfl) ?_
        obtain ⟨v31, e31, hf⟩ := zb hf
        refine zc_p (va_runS (As := [.int r24.1]) (rest := []) ⟨hx, hb, hml, hown, hts⟩ (k_X8_isClassLetterOrDot l r24.1 v31 e31) (va_cwS 1 hts gX8_faultOf_X8_isClassLetterOrDot rfl rfl rfl (by decide +kernel) ⟨Nat.le_of_ble_eq_true rfl, Nat.le_of_ble_eq_true rfl⟩) (zp_p _) rfl rfl hl.1 rfl (lv_room (Nat.le_of_ble_eq_true rfl)) dX8_faultOf_31 ⟨Nat.zero_le _, Nat.zero_le _⟩) ?_
        refine lv_if_eq (tgt := 44) hx hb dX8_faultOf_34 (by decide) (fun c34 => ?_) (fun c34 => ?_)
        · have hf := (if_pos c34).symm.trans hf
          refine lv_iload hx hb dX8_faultOf_44 (lv_at hl 0 rfl) ?_
          refine lv_bipush (v := (40 : Int32)) hx hb dX8_faultOf_46 (by decide) ?_
          refine lv_icmp_ne (tgt := 66) hx hb dX8_faultOf_48 (by decide) (fun c48 => ?_) (fun c48 => ?_)
          · have hf := (if_neg c48).symm.trans hf
            exact J66 _ _ _ _ _ _ _ _ _ _ _ hf hP hS (lv_sub hl [1, 2, 3, 4, 5, 6, 0] rfl)
          · have hf := (if_pos c48).symm.trans hf
            refine lv_iload_n hx hb dX8_faultOf_51 rfl (lv_at hl 2 rfl) ?_
            refine lv_iconst (v := (4 : Int32)) hx hb dX8_faultOf_52 (by decide) ?_
            refine lv_icmp_ge (tgt := 66) hx hb dX8_faultOf_53 (by decide) (fun c53 => ?_) (fun c53 => ?_)
            · have hf := (if_pos c53).symm.trans hf
              exact J66 _ _ _ _ _ _ _ _ _ _ _ hf hP hS (lv_sub hl [1, 2, 3, 4, 5, 6, 0] rfl)
            · have hf := (if_neg c53).symm.trans hf
              obtain ⟨x1_56, q56, hf⟩ := zlt_s hf
              refine lv_iinc (v := x1_56) (lv' := [(1, .int x1_56), (6, .int r24.1), (0, .ref (b + h0)), (2, .int x2), (3, .int x3), (4, .int x4), (5, .int x5)]) hx hb dX8_faultOf_56 hl (k := 2) rfl (by rw [← q56]; rfl) (by decide) rfl (fun ls hl => ?_)
              refine lv_iconst (v := (0 : Int32)) hx hb dX8_faultOf_59 (by decide) ?_
              refine lv_istore_n (lv' := [(2, .int (0 : Int32)), (1, .int x1_56), (6, .int r24.1), (0, .ref (b + h0)), (3, .int x3), (4, .int x4), (5, .int x5)]) hx hb dX8_faultOf_60 rfl hl (by decide) rfl (fun ls hl => ?_)
              refine lv_iconst (v := (0 : Int32)) hx hb dX8_faultOf_61 (by decide) ?_
              refine lv_istore_n (lv' := [(3, .int (0 : Int32)), (2, .int (0 : Int32)), (1, .int x1_56), (6, .int r24.1), (0, .ref (b + h0)), (4, .int x4), (5, .int x5)]) hx hb dX8_faultOf_62 rfl hl (by decide) rfl (fun ls hl => ?_)
              refine lv_goto (tgt := 157) hx hb dX8_faultOf_63 (by decide) ?_
              exact J157 _ _ _ _ _ _ _ _ _ _ hf hP hS (lv_sub hl [4, 2, 1, 0, 5, 6] rfl)
        · have hf := (if_neg c34).symm.trans hf
          refine lv_iconst (v := (1 : Int32)) hx hb dX8_faultOf_37 (by decide) ?_
          refine lv_istore_n (lv' := [(2, .int (1 : Int32)), (6, .int r24.1), (0, .ref (b + h0)), (1, .int x1), (3, .int x3), (4, .int x4), (5, .int x5)]) hx hb dX8_faultOf_38 rfl hl (by decide) rfl (fun ls hl => ?_)
          refine lv_iconst (v := (1 : Int32)) hx hb dX8_faultOf_39 (by decide) ?_
          refine lv_istore_n (lv' := [(3, .int (1 : Int32)), (2, .int (1 : Int32)), (6, .int r24.1), (0, .ref (b + h0)), (1, .int x1), (4, .int x4), (5, .int x5)]) hx hb dX8_faultOf_40 rfl hl (by decide) rfl (fun ls hl => ?_)
          refine lv_goto (tgt := 157) hx hb dX8_faultOf_41 (by decide) ?_
          exact J157 _ _ _ _ _ _ _ _ _ _ hf hP hS (lv_sub hl [3, 4, 1, 0, 5, 6] rfl)
  unfold fX8_faultOf at hf
  refine lv_iconst (v := (0 : Int32)) hx hb dX8_faultOf_0 (by decide) ?_
  refine lv_istore_n (lv' := [(1, .int (0 : Int32)), (0, .ref (b + p0))]) hx hb dX8_faultOf_1 rfl hl (by decide) rfl (fun ls hl => ?_)
  refine lv_iconst (v := (0 : Int32)) hx hb dX8_faultOf_2 (by decide) ?_
  refine lv_istore_n (lv' := [(2, .int (0 : Int32)), (1, .int (0 : Int32)), (0, .ref (b + p0))]) hx hb dX8_faultOf_3 rfl hl (by decide) rfl (fun ls hl => ?_)
  refine lv_iconst (v := (0 : Int32)) hx hb dX8_faultOf_4 (by decide) ?_
  refine lv_istore_n (lv' := [(3, .int (0 : Int32)), (2, .int (0 : Int32)), (1, .int (0 : Int32)), (0, .ref (b + p0))]) hx hb dX8_faultOf_5 rfl hl (by decide) rfl (fun ls hl => ?_)
  refine lv_iconst (v := (0 : Int32)) hx hb dX8_faultOf_6 (by decide) ?_
  refine lv_istore (lv' := [(4, .int (0 : Int32)), (3, .int (0 : Int32)), (2, .int (0 : Int32)), (1, .int (0 : Int32)), (0, .ref (b + p0))]) hx hb dX8_faultOf_7 hl (by decide) rfl (fun ls hl => ?_)
  refine lv_iconst (v := (0 : Int32)) hx hb dX8_faultOf_9 (by decide) ?_
  refine lv_istore (lv' := [(5, .int (0 : Int32)), (4, .int (0 : Int32)), (3, .int (0 : Int32)), (2, .int (0 : Int32)), (1, .int (0 : Int32)), (0, .ref (b + p0))]) hx hb dX8_faultOf_10 hl (by decide) rfl (fun ls hl => ?_)
  exact L12 _ _ _ _ _ _ _ _ _ _ _ hf hP hS (lv_sub hl [5, 4, 3, 2, 1, 0] rfl)
