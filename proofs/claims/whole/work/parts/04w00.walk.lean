set_option maxHeartbeats 4000000 in
set_option maxRecDepth 100000 in
theorem k_J9_floorMod_7cf53 (l : Launch) (x0 : Int32) (x1 : Int32) (rr : Int32) (hf : fJ9_floorMod_7cf53 x0 x1 = some rr) : Met l yJ9_floorMod_7cf53 wsJ9_floorMod_7cf53 ({ frames := 0, cells := 0, slots := 0, locals := 0 } : Room) (zPp [.int x0, .int x1]) (zQp rr) 0 0 zNo := by
  refine Met.ofW (cc := cJ9_floorMod_7cf53) (maxL := 3) (ret := (some .int)) (by decide) rfl ?_
  intro p e s m args below meth c s₁ B hml hv
  obtain ⟨rfl, -⟩ := hv
  have hx := B.exec
  have hb := B.bytes
  have hr := B.returns
  have hts := atoms_spec (ws := wsJ9_floorMod_7cf53) B.pre
  have hown : s.vm.findClass RJ9 = some m.cls := findClass_of_methodNamed B.named
  have hlocks := B.notSynchronized
  have hl := lv_entry ([.int x0, .int x1]) (n := 3) (Nat.le_of_ble_eq_true rfl)
  rw [lg_entry_eq]
  generalize (lg_sl ([.int x0, .int x1]) ++ List.replicate (3 - (lg_sl ([.int x0, .int x1])).length) Slot.unset).toArray = ls at hl ⊢
  have hl : lv_has ls 3 [(0, .int x0), (1, .int x1)] := hl
  unfold fJ9_floorMod_7cf53 at hf
  refine lv_iload_n hx hb dJ9_floorMod_7cf53_0 rfl (lv_at hl 0 rfl) ?_
  refine lv_iload_n hx hb dJ9_floorMod_7cf53_1 rfl (lv_at hl 1 rfl) ?_
  obtain ⟨u2, e2, hf⟩ := zb hf
  refine lv_irem hx hb dJ9_floorMod_7cf53_2 (znz_s e2) ?_
  obtain ⟨x2_3, q3, hf⟩ := zlt_s hf
  refine zt q3 ?_
  refine lv_istore_n (lv' := [(2, .int x2_3), (0, .int x0), (1, .int x1)]) hx hb dJ9_floorMod_7cf53_3 rfl hl (by decide) rfl (fun ls hl => ?_)
  refine lv_iload_n hx hb dJ9_floorMod_7cf53_4 rfl (lv_at hl 1 rfl) ?_
  refine lv_iload_n hx hb dJ9_floorMod_7cf53_5 rfl (lv_at hl 2 rfl) ?_
  refine lv_ixor hx hb dJ9_floorMod_7cf53_6 ?_
  refine lv_if_ge (tgt := 18) hx hb dJ9_floorMod_7cf53_7 (by decide) (fun c7 => ?_) (fun c7 => ?_)
  · have hf := (if_pos c7).symm.trans hf
    refine lv_iload_n hx hb dJ9_floorMod_7cf53_18 rfl (lv_at hl 0 rfl) ?_
    exact zret_pi hx hb hr hlocks hf dJ9_floorMod_7cf53_19
  · have hf := (if_neg c7).symm.trans hf
    refine lv_iload_n hx hb dJ9_floorMod_7cf53_10 rfl (lv_at hl 0 rfl) ?_
    refine lv_if_eq (tgt := 18) hx hb dJ9_floorMod_7cf53_11 (by decide) (fun c11 => ?_) (fun c11 => ?_)
    · have hf := (if_pos c11).symm.trans hf
      refine lv_iload_n hx hb dJ9_floorMod_7cf53_18 rfl (lv_at hl 0 rfl) ?_
      exact zret_pi hx hb hr hlocks hf dJ9_floorMod_7cf53_19
    · have hf := (if_neg c11).symm.trans hf
      refine lv_iload_n hx hb dJ9_floorMod_7cf53_14 rfl (lv_at hl 0 rfl) ?_
      refine lv_iload_n hx hb dJ9_floorMod_7cf53_15 rfl (lv_at hl 2 rfl) ?_
      refine lv_iadd hx hb dJ9_floorMod_7cf53_16 ?_
      exact zret_pi hx hb hr hlocks hf dJ9_floorMod_7cf53_17
set_option maxHeartbeats 4000000 in
set_option maxRecDepth 100000 in
theorem k_J7_rangeCheck_23922 (l : Launch) (x0 : Int32) (x1 : Int32) (x2 : Int32) (rr : Unit) (hf : fJ7_rangeCheck_23922 x0 x1 x2 = some rr) : Met l yJ7_rangeCheck_23922 wsJ7_rangeCheck_23922 ({ frames := 0, cells := 0, slots := 0, locals := 0 } : Room) (zPp [.int x0, .int x1, .int x2]) zQq 0 0 zNo := by
  refine Met.ofW (cc := cJ7_rangeCheck_23922) (maxL := 3) (ret := none) (by decide) rfl ?_
  intro p e s m args below meth c s₁ B hml hv
  obtain ⟨rfl, -⟩ := hv
  have hx := B.exec
  have hb := B.bytes
  have hr := B.returns
  have hts := atoms_spec (ws := wsJ7_rangeCheck_23922) B.pre
  have hown : s.vm.findClass RJ7 = some m.cls := findClass_of_methodNamed B.named
  have hlocks := B.notSynchronized
  have hl := lv_entry ([.int x0, .int x1, .int x2]) (n := 3) (Nat.le_of_ble_eq_true rfl)
  rw [lg_entry_eq]
  generalize (lg_sl ([.int x0, .int x1, .int x2]) ++ List.replicate (3 - (lg_sl ([.int x0, .int x1, .int x2])).length) Slot.unset).toArray = ls at hl ⊢
  have hl : lv_has ls 3 [(0, .int x0), (1, .int x1), (2, .int x2)] := hl
  unfold fJ7_rangeCheck_23922 at hf
  refine lv_iload_n hx hb dJ7_rangeCheck_23922_0 rfl (lv_at hl 1 rfl) ?_
  refine lv_iload_n hx hb dJ7_rangeCheck_23922_1 rfl (lv_at hl 2 rfl) ?_
  refine lv_icmp_le (tgt := 46) hx hb dJ7_rangeCheck_23922_2 (by decide) (fun c2 => ?_) (fun c2 => ?_)
  · have hf := (if_pos c2).symm.trans hf
    refine lv_iload_n hx hb dJ7_rangeCheck_23922_46 rfl (lv_at hl 1 rfl) ?_
    refine lv_if_ge (tgt := 59) hx hb dJ7_rangeCheck_23922_47 (by decide) (fun c47 => ?_) (fun c47 => ?_)
    · have hf := (if_pos c47).symm.trans hf
      refine lv_iload_n hx hb dJ7_rangeCheck_23922_59 rfl (lv_at hl 2 rfl) ?_
      refine lv_iload_n hx hb dJ7_rangeCheck_23922_60 rfl (lv_at hl 0 rfl) ?_
      refine lv_icmp_le (tgt := 73) hx hb dJ7_rangeCheck_23922_61 (by decide) (fun c61 => ?_) (fun c61 => ?_)
      · have hf := (if_pos c61).symm.trans hf
        exact zret_pv hx hb hr hlocks dJ7_rangeCheck_23922_73
      · have hf := (if_neg c61).symm.trans hf
        cases hf
    · have hf := (if_neg c47).symm.trans hf
      cases hf
  · have hf := (if_neg c2).symm.trans hf
    cases hf
set_option maxHeartbeats 4000000 in
set_option maxRecDepth 100000 in
theorem k_J7_fill_53178 (l : Launch) (D : va_G) (cy : Nat → ClassId) (b : Nat) (M0 : Mem) (h0 : Nat) (x1 : Int32) (rr : Mem) (hf : fJ7_fill_53178 M0 h0 x1 = some rr) : Met l yJ7_fill_53178 wsJ7_fill_53178 ({ frames := 0, cells := 0, slots := 0, locals := 0 } : Room) (zPc D cy b M0 [.ref (b + h0), .int x1]) (zQv D cy b rr) 0 0 (zA b) := by
  refine Met.ofW (cc := cJ7_fill_53178) (maxL := 4) (ret := none) (by decide) rfl ?_
  intro p e s m args below meth c s₁ B hml hv
  obtain ⟨rfl, hP, hK⟩ := hv
  have hx := B.exec
  have hb := B.bytes
  have hr := B.returns
  have hts := atoms_spec (ws := wsJ7_fill_53178) B.pre
  have hown : s.vm.findClass RJ7 = some m.cls := findClass_of_methodNamed B.named
  have hlocks := B.notSynchronized
  have hS : va_S (zA b) s.heap s.heap [] := va_S.rf
  have hl := lv_entry ([.ref (b + h0), .int x1]) (n := 4) (Nat.le_of_ble_eq_true rfl)
  rw [lg_entry_eq]
  generalize (lg_sl ([.ref (b + h0), .int x1]) ++ List.replicate (4 - (lg_sl ([.ref (b + h0), .int x1])).length) Slot.unset).toArray = ls at hl ⊢
  have hl : lv_has ls 4 [(0, .ref (b + h0)), (1, .int x1)] := hl
  have L5 : ∀ (n5 : Nat) (M : Mem) (H : Heap) (locs : List Loc) (ls : Array Slot) (h0 : Nat) (x1 : Int32) (x2 : Int32) (x3 : Int32), fJ7_fill_53178_5L  n5 M h0 x1 x2 x3 = some rr → zH D cy b M H → va_S (zA b) s.heap H locs → lv_has ls 4 [(0, .ref (b + h0)), (1, .int x1), (2, .int x2), (3, .int x3)] → W p l e (headSpec wsJ7_fill_53178 ({ frames := 0, cells := 0, slots := 0, locals := 0 } : Room)).room s m ([.ref (b + h0), .int x1] : List Value).toArray below meth c H locs 0 0 (MQ below (zQv D cy b rr) ([.ref (b + h0), .int x1] : List Value).toArray s 0 0 (zA b)) (F0 m 5 ls []) := by
    intro n5
    induction n5 with
    | zero =>
      intro M H locs ls h0 x1 x2 x3 hf
      have hf : (none : Option Mem) = some rr := hf
      cases hf
    | succ n5 ih5 =>
      intro M H locs ls h0 x1 x2 x3 hf hP hS hl
      have hf : fJ7_fill_53178_5  (fJ7_fill_53178_5L  n5) M h0 x1 x2 x3 = some rr := hf
      unfold fJ7_fill_53178_5 at hf
      refine lv_iload_n hx hb dJ7_fill_53178_5 rfl (lv_at hl 2 rfl) ?_
      refine lv_iload_n hx hb dJ7_fill_53178_6 rfl (lv_at hl 3 rfl) ?_
      refine lv_icmp_ge (tgt := 20) hx hb dJ7_fill_53178_7 (by decide) (fun c7 => ?_) (fun c7 => ?_)
      · have hf := (if_pos c7).symm.trans hf
        exact zret_v hx hb hr hlocks hf hP hS dJ7_fill_53178_20
      · have hf := (if_neg c7).symm.trans hf
        refine lv_aload_n hx hb dJ7_fill_53178_10 rfl (lv_at hl 0 rfl) ?_
        refine lv_iload_n hx hb dJ7_fill_53178_11 rfl (lv_at hl 2 rfl) ?_
        refine lv_iload_n hx hb dJ7_fill_53178_12 rfl (lv_at hl 1 rfl) ?_
        obtain ⟨M13, e13, hf⟩ := zb hf
        refine zr_si hx hb hK hP hS e13 dJ7_fill_53178_13 (fun H locs hP _ hS => ?_)
        obtain ⟨x2_14, q14, hf⟩ := zlt_s hf
        refine lv_iinc (v := x2_14) (lv' := [(2, .int x2_14), (0, .ref (b + h0)), (1, .int x1), (3, .int x3)]) hx hb dJ7_fill_53178_14 hl (k := 2) rfl (by rw [← q14]; rfl) (by decide) rfl (fun ls hl => ?_)
        refine lv_goto (tgt := 5) hx hb dJ7_fill_53178_17 (by decide) ?_
        exact ih5 _ _ _ _ _ _ _ _ hf hP hS (lv_sub hl [1, 2, 0, 3] rfl)
  unfold fJ7_fill_53178 at hf
  refine lv_iconst (v := (0 : Int32)) hx hb dJ7_fill_53178_0 (by decide) ?_
  refine lv_istore_n (lv' := [(2, .int (0 : Int32)), (0, .ref (b + h0)), (1, .int x1)]) hx hb dJ7_fill_53178_1 rfl hl (by decide) rfl (fun ls hl => ?_)
  refine lv_aload_n hx hb dJ7_fill_53178_2 rfl (lv_at hl 1 rfl) ?_
  obtain ⟨v3, e3, hf⟩ := zb hf
  refine zr_al (t0 := 1) hx hb hK hP e3 (by decide) rfl dJ7_fill_53178_3 ?_
  refine lv_istore_n (lv' := [(3, .int v3), (2, .int (0 : Int32)), (0, .ref (b + h0)), (1, .int x1)]) hx hb dJ7_fill_53178_4 rfl hl (by decide) rfl (fun ls hl => ?_)
  exact L5 _ _ _ _ _ _ _ _ _ hf hP hS (lv_sub hl [2, 3, 1, 0] rfl)
set_option maxHeartbeats 4000000 in
set_option maxRecDepth 100000 in
theorem k_J7_fill_fda19 (l : Launch) (D : va_G) (cy : Nat → ClassId) (b : Nat) (M0 : Mem) (h0 : Nat) (x1 : Int32) (x2 : Int32) (x3 : Int32) (rr : Mem) (hf : fJ7_fill_fda19 M0 h0 x1 x2 x3 = some rr) : Met l yJ7_fill_fda19 wsJ7_fill_fda19 ({ frames := 1, cells := 0, slots := 0, locals := 22 } : Room) (zPc D cy b M0 [.ref (b + h0), .int x1, .int x2, .int x3]) (zQv D cy b rr) 0 0 (zA b) := by
  refine Met.ofW (cc := cJ7_fill_fda19) (maxL := 5) (ret := none) (by decide) rfl ?_
  intro p e s m args below meth c s₁ B hml hv
  obtain ⟨rfl, hP, hK⟩ := hv
  have hx := B.exec
  have hb := B.bytes
  have hr := B.returns
  have hts := atoms_spec (ws := wsJ7_fill_fda19) B.pre
  have hown : s.vm.findClass RJ7 = some m.cls := findClass_of_methodNamed B.named
  have hlocks := B.notSynchronized
  have hS : va_S (zA b) s.heap s.heap [] := va_S.rf
  have hl := lv_entry ([.ref (b + h0), .int x1, .int x2, .int x3]) (n := 5) (Nat.le_of_ble_eq_true rfl)
  rw [lg_entry_eq]
  generalize (lg_sl ([.ref (b + h0), .int x1, .int x2, .int x3]) ++ List.replicate (5 - (lg_sl ([.ref (b + h0), .int x1, .int x2, .int x3])).length) Slot.unset).toArray = ls at hl ⊢
  have hl : lv_has ls 5 [(0, .ref (b + h0)), (1, .int x1), (2, .int x2), (3, .int x3)] := hl
  have L10 : ∀ (n10 : Nat) (M : Mem) (H : Heap) (locs : List Loc) (ls : Array Slot) (h0 : Nat) (x2 : Int32) (x3 : Int32) (x4 : Int32), fJ7_fill_fda19_10L  n10 M h0 x2 x3 x4 = some rr → zH D cy b M H → va_S (zA b) s.heap H locs → lv_has ls 5 [(0, .ref (b + h0)), (2, .int x2), (3, .int x3), (4, .int x4)] → W p l e (headSpec wsJ7_fill_fda19 ({ frames := 1, cells := 0, slots := 0, locals := 22 } : Room)).room s m ([.ref (b + h0), .int x1, .int x2, .int x3] : List Value).toArray below meth c H locs 0 0 (MQ below (zQv D cy b rr) ([.ref (b + h0), .int x1, .int x2, .int x3] : List Value).toArray s 0 0 (zA b)) (F0 m 10 ls []) := by
    intro n10
    induction n10 with
    | zero =>
      intro M H locs ls h0 x2 x3 x4 hf
      have hf : (none : Option Mem) = some rr := hf
      cases hf
    | succ n10 ih10 =>
      intro M H locs ls h0 x2 x3 x4 hf hP hS hl
      have hf : fJ7_fill_fda19_10  (fJ7_fill_fda19_10L  n10) M h0 x2 x3 x4 = some rr := hf
      unfold fJ7_fill_fda19_10 at hf
      refine lv_iload hx hb dJ7_fill_fda19_10 (lv_at hl 3 rfl) ?_
      refine lv_iload_n hx hb dJ7_fill_fda19_12 rfl (lv_at hl 1 rfl) ?_
      refine lv_icmp_ge (tgt := 27) hx hb dJ7_fill_fda19_13 (by decide) (fun c13 => ?_) (fun c13 => ?_)
      · have hf := (if_pos c13).symm.trans hf
        exact zret_v hx hb hr hlocks hf hP hS dJ7_fill_fda19_27
      · have hf := (if_neg c13).symm.trans hf
        refine lv_aload_n hx hb dJ7_fill_fda19_16 rfl (lv_at hl 0 rfl) ?_
        refine lv_iload hx hb dJ7_fill_fda19_17 (lv_at hl 3 rfl) ?_
        refine lv_iload_n hx hb dJ7_fill_fda19_19 rfl (lv_at hl 2 rfl) ?_
        obtain ⟨M20, e20, hf⟩ := zb hf
        refine zr_si hx hb hK hP hS e20 dJ7_fill_fda19_20 (fun H locs hP _ hS => ?_)
        obtain ⟨x4_21, q21, hf⟩ := zlt_s hf
        refine lv_iinc (v := x4_21) (lv' := [(4, .int x4_21), (0, .ref (b + h0)), (2, .int x2), (3, .int x3)]) hx hb dJ7_fill_fda19_21 hl (k := 3) rfl (by rw [← q21]; rfl) (by decide) rfl (fun ls hl => ?_)
        refine lv_goto (tgt := 10) hx hb dJ7_fill_fda19_24 (by decide) ?_
        exact ih10 _ _ _ _ _ _ _ _ hf hP hS (lv_sub hl [1, 2, 3, 0] rfl)
  unfold fJ7_fill_fda19 at hf
  refine lv_aload_n hx hb dJ7_fill_fda19_0 rfl (lv_at hl 0 rfl) ?_
  obtain ⟨v1, e1, hf⟩ := zb hf
  refine zr_al (t0 := 1) hx hb hK hP e1 (by decide) rfl dJ7_fill_fda19_1 ?_
  refine lv_iload_n hx hb dJ7_fill_fda19_2 rfl (lv_at hl 1 rfl) ?_
  refine lv_iload_n hx hb dJ7_fill_fda19_3 rfl (lv_at hl 2 rfl) ?_
  obtain ⟨u4, e4, hf⟩ := zb hf
  refine zc_q (va_runS (As := [.int v1, .int x1, .int x2]) (rest := []) ⟨hx, hb, hml, hown, hts⟩ (k_J7_rangeCheck_23922 l v1 x1 x2 u4 e4) (va_cwS 3 hts gJ7_fill_fda19_J7_rangeCheck_23922 rfl rfl rfl (by decide +kernel) ⟨Nat.le_of_ble_eq_true rfl, Nat.le_of_ble_eq_true rfl⟩) (zp_p _) rfl rfl hl.1 rfl (lv_room (Nat.le_of_ble_eq_true rfl)) dJ7_fill_fda19_4 ⟨Nat.zero_le _, Nat.zero_le _⟩) ?_
  refine lv_iload_n hx hb dJ7_fill_fda19_7 rfl (lv_at hl 1 rfl) ?_
  refine lv_istore (lv' := [(4, .int x1), (0, .ref (b + h0)), (1, .int x1), (2, .int x2), (3, .int x3)]) hx hb dJ7_fill_fda19_8 hl (by decide) rfl (fun ls hl => ?_)
  exact L10 _ _ _ _ _ _ _ _ _ hf hP hS (lv_sub hl [1, 3, 4, 0] rfl)
set_option maxHeartbeats 4000000 in
set_option maxRecDepth 100000 in
theorem k_X3_init (l : Launch) (D : va_G) (cy : Nat → ClassId) (b : Nat) (M0 : Mem) (h0 : Nat) (rr : Mem) (hf : fX3_init M0 h0 = some rr) : Met l yX3_init wsX3_init ({ frames := 1, cells := 0, slots := 0, locals := 40 } : Room) (zPn D cy b M0 [.ref (b + h0)]) (zQn D cy b rr) 0 0 (zA b) := by
  refine Met.ofW (cc := cX3_init) (maxL := 1) (ret := none) (by decide) rfl ?_
  intro p e s m args below meth c s₁ B hml hv
  obtain ⟨rfl, hP, hK, hz⟩ := hv
  have hx := B.exec
  have hb := B.bytes
  have hr := B.returns
  have hts := atoms_spec (ws := wsX3_init) B.pre
  have hown : s.vm.findClass RX3 = some m.cls := findClass_of_methodNamed B.named
  have hlocks := B.notSynchronized
  have hin : meth.name = "<init>" := (name_of_methodNamed B.named B.method).1
  have hS : va_S (zA b) s.heap s.heap [] := va_S.rf
  have hl := lv_entry ([.ref (b + h0)]) (n := 1) (Nat.le_of_ble_eq_true rfl)
  rw [lg_entry_eq]
  generalize (lg_sl ([.ref (b + h0)]) ++ List.replicate (1 - (lg_sl ([.ref (b + h0)])).length) Slot.unset).toArray = ls at hl ⊢
  have hl : lv_has ls 1 [(0, .ref (b + h0))] := hl
  have hn : M0.1 ≤ M0.1 := Nat.le_refl _
  have hu : M0.1 ≤ M0.1 + 0 := by omega
  refine W.widen (k := M0.1 - M0.1) (n := 3000 * (M0.1 - M0.1)) (by omega) (by omega) ?_
  unfold fX3_init at hf
  refine lv_aload_n hx hb dX3_init_0 rfl (lv_at hl 0 rfl) ?_
  refine W.objInit hx hb hown (hts (.methodLink RX3 1 objectInit) (List.mem_of_getElem? (i := 1) rfl)) (hts (.instanceMethod objectInit) (List.mem_of_getElem? (i := 2) rfl)) (hts _ (List.mem_of_getElem? (i := 3) rfl)) rfl (by rw [hml]; exact hl.1) rfl dX3_init_1 (Nat.le_of_ble_eq_true rfl) (Nat.le_of_ble_eq_true rfl) ?_
  refine W.eq (g2 := F0 m 4 ls []) rfl ?_
  refine W.widen (k := 0) (n := 0) (by omega) (by omega) ?_
  exact zret_n hx hb hr hlocks hf hP hz hS dX3_init_4
theorem hi_X3_become_3 : ∀ w ∈ wsX30, w ∈ wsX3_become := fun _ h => List.mem_cons_of_mem _ (List.mem_append_right _ h)
set_option maxHeartbeats 4000000 in
set_option maxRecDepth 100000 in
theorem k_X3_become (l : Launch) (D : va_G) (cy : Nat → ClassId) (b : Nat) (M0 : Mem) (h0 : Nat) (x1 : Int32) (x2 : Int32) (x3 : Int32) (rr : Mem) (hf : fX3_become M0 h0 x1 x2 x3 = some rr) : Met l yX3_become wsX3_become ({ frames := 0, cells := 0, slots := 0, locals := 0 } : Room) (zPc D cy b M0 [.ref (b + h0), .int x1, .int x2, .int x3]) (zQv D cy b rr) 0 0 (zA b) := by
  refine Met.ofW (cc := cX3_become) (maxL := 4) (ret := none) (by decide) rfl ?_
  intro p e s m args below meth c s₁ B hml hv
  obtain ⟨rfl, hP, hK⟩ := hv
  have hx := B.exec
  have hb := B.bytes
  have hr := B.returns
  have hts := atoms_spec (ws := wsX3_become) B.pre
  have hown : s.vm.findClass RX3 = some m.cls := findClass_of_methodNamed B.named
  have hlocks := B.notSynchronized
  have hS : va_S (zA b) s.heap s.heap [] := va_S.rf
  have hl := lv_entry ([.ref (b + h0), .int x1, .int x2, .int x3]) (n := 4) (Nat.le_of_ble_eq_true rfl)
  rw [lg_entry_eq]
  generalize (lg_sl ([.ref (b + h0), .int x1, .int x2, .int x3]) ++ List.replicate (4 - (lg_sl ([.ref (b + h0), .int x1, .int x2, .int x3])).length) Slot.unset).toArray = ls at hl ⊢
  have hl : lv_has ls 4 [(0, .ref (b + h0)), (1, .int x1), (2, .int x2), (3, .int x3)] := hl
  unfold fX3_become at hf
  refine lv_aload_n hx hb dX3_become_0 rfl (lv_at hl 0 rfl) ?_
  refine lv_iload_n hx hb dX3_become_1 rfl (lv_at hl 1 rfl) ?_
  obtain ⟨M2, e2, hf⟩ := zb hf
  refine zr_pi (ci := 3) (k := 0) (C := RX3) (T := TX3) (N := 3) hx hb hts hi_X3_become_3 tyX3 tyX3_ok nmX3 hown hK hP hS e2 rfl rfl (by decide) (by decide) (hts (.fieldLink RX3 7 "BoundaryAnalyzer$Part" "first" "I") (List.mem_of_getElem? (i := 1) rfl)) rfl (tyX3_ok 0 (by decide)) dX3_become_2 (fun H locs hP _ hS => ?_)
  refine lv_aload_n hx hb dX3_become_5 rfl (lv_at hl 0 rfl) ?_
  refine lv_iload_n hx hb dX3_become_6 rfl (lv_at hl 2 rfl) ?_
  obtain ⟨M7, e7, hf⟩ := zb hf
  refine zr_pi (ci := 3) (k := 1) (C := RX3) (T := TX3) (N := 3) hx hb hts hi_X3_become_3 tyX3 tyX3_ok nmX3 hown hK hP hS e7 rfl rfl (by decide) (by decide) (hts (.fieldLink RX3 13 "BoundaryAnalyzer$Part" "last" "I") (List.mem_of_getElem? (i := 2) rfl)) rfl (tyX3_ok 1 (by decide)) dX3_become_7 (fun H locs hP _ hS => ?_)
  refine lv_aload_n hx hb dX3_become_10 rfl (lv_at hl 0 rfl) ?_
  refine lv_iload_n hx hb dX3_become_11 rfl (lv_at hl 3 rfl) ?_
  obtain ⟨M12, e12, hf⟩ := zb hf
  refine zr_pz (ci := 3) (k := 2) (C := RX3) (T := TX3) (N := 3) hx hb hts hi_X3_become_3 tyX3 tyX3_ok nmX3 hown hK hP hS e12 rfl rfl (by decide) (by decide) (hts (.fieldLink RX3 16 "BoundaryAnalyzer$Part" "canBeEmpty" "Z") (List.mem_of_getElem? (i := 3) rfl)) rfl (tyX3_ok 2 (by decide)) dX3_become_12 (fun H locs hP _ hS => ?_)
  exact zret_v hx hb hr hlocks hf hP hS dX3_become_15
theorem hi_X3_becomeNothing_3 : ∀ w ∈ wsX30, w ∈ wsX3_becomeNothing := fun _ h => List.mem_cons_of_mem _ (List.mem_append_right _ h)
set_option maxHeartbeats 4000000 in
set_option maxRecDepth 100000 in
theorem k_X3_becomeNothing (l : Launch) (D : va_G) (cy : Nat → ClassId) (b : Nat) (M0 : Mem) (h0 : Nat) (rr : Mem) (hf : fX3_becomeNothing M0 h0 = some rr) : Met l yX3_becomeNothing wsX3_becomeNothing ({ frames := 1, cells := 0, slots := 0, locals := 23 } : Room) (zPc D cy b M0 [.ref (b + h0)]) (zQv D cy b rr) 0 0 (zA b) := by
  refine Met.ofW (cc := cX3_becomeNothing) (maxL := 1) (ret := none) (by decide) rfl ?_
  intro p e s m args below meth c s₁ B hml hv
  obtain ⟨rfl, hP, hK⟩ := hv
  have hx := B.exec
  have hb := B.bytes
  have hr := B.returns
  have hts := atoms_spec (ws := wsX3_becomeNothing) B.pre
  have hown : s.vm.findClass RX3 = some m.cls := findClass_of_methodNamed B.named
  have hlocks := B.notSynchronized
  have hS : va_S (zA b) s.heap s.heap [] := va_S.rf
  have hl := lv_entry ([.ref (b + h0)]) (n := 1) (Nat.le_of_ble_eq_true rfl)
  rw [lg_entry_eq]
  generalize (lg_sl ([.ref (b + h0)]) ++ List.replicate (1 - (lg_sl ([.ref (b + h0)])).length) Slot.unset).toArray = ls at hl ⊢
  have hl : lv_has ls 1 [(0, .ref (b + h0))] := hl
  unfold fX3_becomeNothing at hf
  refine lv_aload_n hx hb dX3_becomeNothing_0 rfl (lv_at hl 0 rfl) ?_
  refine lv_iconst (v := (0 : Int32)) hx hb dX3_becomeNothing_1 (by decide) ?_
  refine lv_iconst (v := (0 : Int32)) hx hb dX3_becomeNothing_2 (by decide) ?_
  refine lv_iconst (v := (0 : Int32)) hx hb dX3_becomeNothing_3 (by decide) ?_
  obtain ⟨u4, t4, hf⟩ := zb hf
  obtain ⟨M4, e4, hf⟩ := zb hf
  refine zc_v hS (va_runV (As := [.int (0 : Int32), .int (0 : Int32), .int (0 : Int32)]) (rest := []) ⟨hx, hb, hml, hown, hts⟩ (k_X3_become l D cy b M0 h0 (0 : Int32) (0 : Int32) (0 : Int32) M4 e4) (cwV 3 hts gX3_becomeNothing_X3_become rfl rfl rfl (by decide +kernel) ⟨Nat.le_of_ble_eq_true rfl, Nat.le_of_ble_eq_true rfl⟩) (zp_V _ hK hP t4 (T := TX3) (N := 3) rfl (by decide)) rfl rfl hl.1 rfl (lv_room (Nat.le_of_ble_eq_true rfl)) dX3_becomeNothing_4 ⟨Nat.zero_le _, Nat.zero_le _⟩) (fun H locs hP hS => ?_)
  exact zret_v hx hb hr hlocks hf hP hS dX3_becomeNothing_7
theorem hi_X3_becomeEmpty_3 : ∀ w ∈ wsX30, w ∈ wsX3_becomeEmpty := fun _ h => List.mem_cons_of_mem _ (List.mem_append_right _ h)
set_option maxHeartbeats 4000000 in
set_option maxRecDepth 100000 in
theorem k_X3_becomeEmpty (l : Launch) (D : va_G) (cy : Nat → ClassId) (b : Nat) (M0 : Mem) (h0 : Nat) (rr : Mem) (hf : fX3_becomeEmpty M0 h0 = some rr) : Met l yX3_becomeEmpty wsX3_becomeEmpty ({ frames := 1, cells := 0, slots := 0, locals := 23 } : Room) (zPc D cy b M0 [.ref (b + h0)]) (zQv D cy b rr) 0 0 (zA b) := by
  refine Met.ofW (cc := cX3_becomeEmpty) (maxL := 1) (ret := none) (by decide) rfl ?_
  intro p e s m args below meth c s₁ B hml hv
  obtain ⟨rfl, hP, hK⟩ := hv
  have hx := B.exec
  have hb := B.bytes
  have hr := B.returns
  have hts := atoms_spec (ws := wsX3_becomeEmpty) B.pre
  have hown : s.vm.findClass RX3 = some m.cls := findClass_of_methodNamed B.named
  have hlocks := B.notSynchronized
  have hS : va_S (zA b) s.heap s.heap [] := va_S.rf
  have hl := lv_entry ([.ref (b + h0)]) (n := 1) (Nat.le_of_ble_eq_true rfl)
  rw [lg_entry_eq]
  generalize (lg_sl ([.ref (b + h0)]) ++ List.replicate (1 - (lg_sl ([.ref (b + h0)])).length) Slot.unset).toArray = ls at hl ⊢
  have hl : lv_has ls 1 [(0, .ref (b + h0))] := hl
  unfold fX3_becomeEmpty at hf
  refine lv_aload_n hx hb dX3_becomeEmpty_0 rfl (lv_at hl 0 rfl) ?_
  refine lv_iconst (v := (0 : Int32)) hx hb dX3_becomeEmpty_1 (by decide) ?_
  refine lv_iconst (v := (0 : Int32)) hx hb dX3_becomeEmpty_2 (by decide) ?_
  refine lv_iconst (v := (1 : Int32)) hx hb dX3_becomeEmpty_3 (by decide) ?_
  obtain ⟨u4, t4, hf⟩ := zb hf
  obtain ⟨M4, e4, hf⟩ := zb hf
  refine zc_v hS (va_runV (As := [.int (0 : Int32), .int (0 : Int32), .int (1 : Int32)]) (rest := []) ⟨hx, hb, hml, hown, hts⟩ (k_X3_become l D cy b M0 h0 (0 : Int32) (0 : Int32) (1 : Int32) M4 e4) (cwV 3 hts gX3_becomeEmpty_X3_become rfl rfl rfl (by decide +kernel) ⟨Nat.le_of_ble_eq_true rfl, Nat.le_of_ble_eq_true rfl⟩) (zp_V _ hK hP t4 (T := TX3) (N := 3) rfl (by decide)) rfl rfl hl.1 rfl (lv_room (Nat.le_of_ble_eq_true rfl)) dX3_becomeEmpty_4 ⟨Nat.zero_le _, Nat.zero_le _⟩) (fun H locs hP hS => ?_)
  exact zret_v hx hb hr hlocks hf hP hS dX3_becomeEmpty_7
theorem hi_X3_orElse_3 : ∀ w ∈ wsX30, w ∈ wsX3_orElse := fun _ h => List.mem_cons_of_mem _ (List.mem_append_right _ h)
set_option maxHeartbeats 4000000 in
set_option maxRecDepth 100000 in
theorem k_X3_orElse (l : Launch) (D : va_G) (cy : Nat → ClassId) (b : Nat) (M0 : Mem) (h0 : Nat) (h1 : Nat) (rr : Mem) (hf : fX3_orElse M0 h0 h1 = some rr) : Met l yX3_orElse wsX3_orElse ({ frames := 1, cells := 0, slots := 0, locals := 23 } : Room) (zPc D cy b M0 [.ref (b + h0), .ref (b + h1)]) (zQv D cy b rr) 0 0 (zA b) := by
  refine Met.ofW (cc := cX3_orElse) (maxL := 2) (ret := none) (by decide) rfl ?_
  intro p e s m args below meth c s₁ B hml hv
  obtain ⟨rfl, hP, hK⟩ := hv
  have hx := B.exec
  have hb := B.bytes
  have hr := B.returns
  have hts := atoms_spec (ws := wsX3_orElse) B.pre
  have hown : s.vm.findClass RX3 = some m.cls := findClass_of_methodNamed B.named
  have hlocks := B.notSynchronized
  have hS : va_S (zA b) s.heap s.heap [] := va_S.rf
  have hl := lv_entry ([.ref (b + h0), .ref (b + h1)]) (n := 2) (Nat.le_of_ble_eq_true rfl)
  rw [lg_entry_eq]
  generalize (lg_sl ([.ref (b + h0), .ref (b + h1)]) ++ List.replicate (2 - (lg_sl ([.ref (b + h0), .ref (b + h1)])).length) Slot.unset).toArray = ls at hl ⊢
  have hl : lv_has ls 2 [(0, .ref (b + h0)), (1, .ref (b + h1))] := hl
  have J38 : ∀ (M : Mem) (H : Heap) (locs : List Loc) (ls : Array Slot) (g0 : Nat) (y1 : Int32) (y2 : Int32) (y3 : Int32), fX3_orElse_38  M g0 y1 y2 y3 = some rr → zH D cy b M H → va_S (zA b) s.heap H locs → lv_has ls 2 [] → W p l e (headSpec wsX3_orElse ({ frames := 1, cells := 0, slots := 0, locals := 23 } : Room)).room s m ([.ref (b + h0), .ref (b + h1)] : List Value).toArray below meth c H locs 0 0 (MQ below (zQv D cy b rr) ([.ref (b + h0), .ref (b + h1)] : List Value).toArray s 0 0 (zA b)) (F0 m 38 ls [.int y3, .int y2, .int y1, .ref (b + g0)]) := by
    intro M H locs ls g0 y1 y2 y3 hf hP hS hl
    unfold fX3_orElse_38 at hf
    obtain ⟨u38, t38, hf⟩ := zb hf
    obtain ⟨M38, e38, hf⟩ := zb hf
    refine zc_v hS (va_runV (As := [.int y1, .int y2, .int y3]) (rest := []) ⟨hx, hb, hml, hown, hts⟩ (k_X3_become l D cy b M g0 y1 y2 y3 M38 e38) (cwV 3 hts gX3_orElse_X3_become rfl rfl rfl (by decide +kernel) ⟨Nat.le_of_ble_eq_true rfl, Nat.le_of_ble_eq_true rfl⟩) (zp_V _ hK hP t38 (T := TX3) (N := 3) rfl (by decide)) rfl rfl hl.1 rfl (lv_room (Nat.le_of_ble_eq_true rfl)) dX3_orElse_38 ⟨Nat.zero_le _, Nat.zero_le _⟩) (fun H locs hP hS => ?_)
    exact zret_v hx hb hr hlocks hf hP hS dX3_orElse_41
  have J33 : ∀ (M : Mem) (H : Heap) (locs : List Loc) (ls : Array Slot) (g0 : Nat) (y1 : Int32) (y2 : Int32), fX3_orElse_33  M g0 y1 y2 = some rr → zH D cy b M H → va_S (zA b) s.heap H locs → lv_has ls 2 [] → W p l e (headSpec wsX3_orElse ({ frames := 1, cells := 0, slots := 0, locals := 23 } : Room)).room s m ([.ref (b + h0), .ref (b + h1)] : List Value).toArray below meth c H locs 0 0 (MQ below (zQv D cy b rr) ([.ref (b + h0), .ref (b + h1)] : List Value).toArray s 0 0 (zA b)) (F0 m 33 ls [.int y2, .int y1, .ref (b + g0)]) := by
    intro M H locs ls g0 y1 y2 hf hP hS hl
    unfold fX3_orElse_33 at hf
    refine lv_iconst (v := (1 : Int32)) hx hb dX3_orElse_33 (by decide) ?_
    refine lv_goto (tgt := 38) hx hb dX3_orElse_34 (by decide) ?_
    exact J38 _ _ _ _ _ _ _ _ hf hP hS (lv_sub hl [] rfl)
  unfold fX3_orElse at hf
  refine lv_aload_n hx hb dX3_orElse_0 rfl (lv_at hl 0 rfl) ?_
  refine lv_aload_n hx hb dX3_orElse_1 rfl (lv_at hl 0 rfl) ?_
  obtain ⟨v2, e2, hf⟩ := zb hf
  refine zr_gi (ci := 3) (k := 0) (C := RX3) (T := TX3) (N := 3) hx hb hts hi_X3_orElse_3 hown hK hP e2 rfl rfl (by decide) (by decide) (hts (.fieldLink RX3 7 "BoundaryAnalyzer$Part" "first" "I") (List.mem_of_getElem? (i := 1) rfl)) dX3_orElse_2 ?_
  refine lv_aload_n hx hb dX3_orElse_5 rfl (lv_at hl 1 rfl) ?_
  obtain ⟨v6, e6, hf⟩ := zb hf
  refine zr_gi (ci := 3) (k := 0) (C := RX3) (T := TX3) (N := 3) hx hb hts hi_X3_orElse_3 hown hK hP e6 rfl rfl (by decide) (by decide) (hts (.fieldLink RX3 7 "BoundaryAnalyzer$Part" "first" "I") (List.mem_of_getElem? (i := 1) rfl)) dX3_orElse_6 ?_
  refine lv_ior hx hb dX3_orElse_9 ?_
  refine lv_aload_n hx hb dX3_orElse_10 rfl (lv_at hl 0 rfl) ?_
  obtain ⟨v11, e11, hf⟩ := zb hf
  refine zr_gi (ci := 3) (k := 1) (C := RX3) (T := TX3) (N := 3) hx hb hts hi_X3_orElse_3 hown hK hP e11 rfl rfl (by decide) (by decide) (hts (.fieldLink RX3 13 "BoundaryAnalyzer$Part" "last" "I") (List.mem_of_getElem? (i := 2) rfl)) dX3_orElse_11 ?_
  refine lv_aload_n hx hb dX3_orElse_14 rfl (lv_at hl 1 rfl) ?_
  obtain ⟨v15, e15, hf⟩ := zb hf
  refine zr_gi (ci := 3) (k := 1) (C := RX3) (T := TX3) (N := 3) hx hb hts hi_X3_orElse_3 hown hK hP e15 rfl rfl (by decide) (by decide) (hts (.fieldLink RX3 13 "BoundaryAnalyzer$Part" "last" "I") (List.mem_of_getElem? (i := 2) rfl)) dX3_orElse_15 ?_
  refine lv_ior hx hb dX3_orElse_18 ?_
  refine lv_aload_n hx hb dX3_orElse_19 rfl (lv_at hl 0 rfl) ?_
  obtain ⟨v20, e20, hf⟩ := zb hf
  refine zr_gi (ci := 3) (k := 2) (C := RX3) (T := TX3) (N := 3) hx hb hts hi_X3_orElse_3 hown hK hP e20 rfl rfl (by decide) (by decide) (hts (.fieldLink RX3 16 "BoundaryAnalyzer$Part" "canBeEmpty" "Z") (List.mem_of_getElem? (i := 3) rfl)) dX3_orElse_20 ?_
  refine lv_if_ne (tgt := 33) hx hb dX3_orElse_23 (by decide) (fun c23 => ?_) (fun c23 => ?_)
  · have hf := (if_neg c23).symm.trans hf
    exact J33 _ _ _ _ _ _ _ hf hP hS (lv_sub hl [] rfl)
  · have hf := (if_pos c23).symm.trans hf
    refine lv_aload_n hx hb dX3_orElse_26 rfl (lv_at hl 1 rfl) ?_
    obtain ⟨v27, e27, hf⟩ := zb hf
    refine zr_gi (ci := 3) (k := 2) (C := RX3) (T := TX3) (N := 3) hx hb hts hi_X3_orElse_3 hown hK hP e27 rfl rfl (by decide) (by decide) (hts (.fieldLink RX3 16 "BoundaryAnalyzer$Part" "canBeEmpty" "Z") (List.mem_of_getElem? (i := 3) rfl)) dX3_orElse_27 ?_
    refine lv_if_eq (tgt := 37) hx hb dX3_orElse_30 (by decide) (fun c30 => ?_) (fun c30 => ?_)
    · have hf := (if_pos c30).symm.trans hf
      refine lv_iconst (v := (0 : Int32)) hx hb dX3_orElse_37 (by decide) ?_
      exact J38 _ _ _ _ _ _ _ _ hf hP hS (lv_sub hl [] rfl)
    · have hf := (if_neg c30).symm.trans hf
      exact J33 _ _ _ _ _ _ _ hf hP hS (lv_sub hl [] rfl)
theorem hi_X3_followedBy_3 : ∀ w ∈ wsX30, w ∈ wsX3_followedBy := fun _ h => List.mem_cons_of_mem _ (List.mem_append_right _ h)
set_option maxHeartbeats 4000000 in
set_option maxRecDepth 100000 in
theorem k_X3_followedBy (l : Launch) (D : va_G) (cy : Nat → ClassId) (b : Nat) (M0 : Mem) (h0 : Nat) (h1 : Nat) (rr : Mem) (hf : fX3_followedBy M0 h0 h1 = some rr) : Met l yX3_followedBy wsX3_followedBy ({ frames := 1, cells := 0, slots := 0, locals := 23 } : Room) (zPc D cy b M0 [.ref (b + h0), .ref (b + h1)]) (zQv D cy b rr) 0 0 (zA b) := by
  refine Met.ofW (cc := cX3_followedBy) (maxL := 2) (ret := none) (by decide) rfl ?_
  intro p e s m args below meth c s₁ B hml hv
  obtain ⟨rfl, hP, hK⟩ := hv
  have hx := B.exec
  have hb := B.bytes
  have hr := B.returns
  have hts := atoms_spec (ws := wsX3_followedBy) B.pre
  have hown : s.vm.findClass RX3 = some m.cls := findClass_of_methodNamed B.named
  have hlocks := B.notSynchronized
  have hS : va_S (zA b) s.heap s.heap [] := va_S.rf
  have hl := lv_entry ([.ref (b + h0), .ref (b + h1)]) (n := 2) (Nat.le_of_ble_eq_true rfl)
  rw [lg_entry_eq]
  generalize (lg_sl ([.ref (b + h0), .ref (b + h1)]) ++ List.replicate (2 - (lg_sl ([.ref (b + h0), .ref (b + h1)])).length) Slot.unset).toArray = ls at hl ⊢
  have hl : lv_has ls 2 [(0, .ref (b + h0)), (1, .ref (b + h1))] := hl
  have J66 : ∀ (M : Mem) (H : Heap) (locs : List Loc) (ls : Array Slot) (g0 : Nat) (y1 : Int32) (y2 : Int32) (y3 : Int32), fX3_followedBy_66  M g0 y1 y2 y3 = some rr → zH D cy b M H → va_S (zA b) s.heap H locs → lv_has ls 2 [] → W p l e (headSpec wsX3_followedBy ({ frames := 1, cells := 0, slots := 0, locals := 23 } : Room)).room s m ([.ref (b + h0), .ref (b + h1)] : List Value).toArray below meth c H locs 0 0 (MQ below (zQv D cy b rr) ([.ref (b + h0), .ref (b + h1)] : List Value).toArray s 0 0 (zA b)) (F0 m 66 ls [.int y3, .int y2, .int y1, .ref (b + g0)]) := by
    intro M H locs ls g0 y1 y2 y3 hf hP hS hl
    unfold fX3_followedBy_66 at hf
    obtain ⟨u66, t66, hf⟩ := zb hf
    obtain ⟨M66, e66, hf⟩ := zb hf
    refine zc_v hS (va_runV (As := [.int y1, .int y2, .int y3]) (rest := []) ⟨hx, hb, hml, hown, hts⟩ (k_X3_become l D cy b M g0 y1 y2 y3 M66 e66) (cwV 3 hts gX3_followedBy_X3_become rfl rfl rfl (by decide +kernel) ⟨Nat.le_of_ble_eq_true rfl, Nat.le_of_ble_eq_true rfl⟩) (zp_V _ hK hP t66 (T := TX3) (N := 3) rfl (by decide)) rfl rfl hl.1 rfl (lv_room (Nat.le_of_ble_eq_true rfl)) dX3_followedBy_66 ⟨Nat.zero_le _, Nat.zero_le _⟩) (fun H locs hP hS => ?_)
    exact zret_v hx hb hr hlocks hf hP hS dX3_followedBy_69
  have J65 : ∀ (M : Mem) (H : Heap) (locs : List Loc) (ls : Array Slot) (g0 : Nat) (y1 : Int32) (y2 : Int32), fX3_followedBy_65  M g0 y1 y2 = some rr → zH D cy b M H → va_S (zA b) s.heap H locs → lv_has ls 2 [] → W p l e (headSpec wsX3_followedBy ({ frames := 1, cells := 0, slots := 0, locals := 23 } : Room)).room s m ([.ref (b + h0), .ref (b + h1)] : List Value).toArray below meth c H locs 0 0 (MQ below (zQv D cy b rr) ([.ref (b + h0), .ref (b + h1)] : List Value).toArray s 0 0 (zA b)) (F0 m 65 ls [.int y2, .int y1, .ref (b + g0)]) := by
    intro M H locs ls g0 y1 y2 hf hP hS hl
    unfold fX3_followedBy_65 at hf
    refine lv_iconst (v := (0 : Int32)) hx hb dX3_followedBy_65 (by decide) ?_
    exact J66 _ _ _ _ _ _ _ _ hf hP hS (lv_sub hl [] rfl)
  have J47 : ∀ (M : Mem) (H : Heap) (locs : List Loc) (ls : Array Slot) (h0 : Nat) (h1 : Nat) (g0 : Nat) (y1 : Int32) (y2 : Int32), fX3_followedBy_47  M h0 h1 g0 y1 y2 = some rr → zH D cy b M H → va_S (zA b) s.heap H locs → lv_has ls 2 [(0, .ref (b + h0)), (1, .ref (b + h1))] → W p l e (headSpec wsX3_followedBy ({ frames := 1, cells := 0, slots := 0, locals := 23 } : Room)).room s m ([.ref (b + h0), .ref (b + h1)] : List Value).toArray below meth c H locs 0 0 (MQ below (zQv D cy b rr) ([.ref (b + h0), .ref (b + h1)] : List Value).toArray s 0 0 (zA b)) (F0 m 47 ls [.int y2, .int y1, .ref (b + g0)]) := by
    intro M H locs ls h0 h1 g0 y1 y2 hf hP hS hl
    unfold fX3_followedBy_47 at hf
    refine lv_aload_n hx hb dX3_followedBy_47 rfl (lv_at hl 0 rfl) ?_
    obtain ⟨v48, e48, hf⟩ := zb hf
    refine zr_gi (ci := 3) (k := 2) (C := RX3) (T := TX3) (N := 3) hx hb hts hi_X3_followedBy_3 hown hK hP e48 rfl rfl (by decide) (by decide) (hts (.fieldLink RX3 16 "BoundaryAnalyzer$Part" "canBeEmpty" "Z") (List.mem_of_getElem? (i := 1) rfl)) dX3_followedBy_48 ?_
    refine lv_if_eq (tgt := 65) hx hb dX3_followedBy_51 (by decide) (fun c51 => ?_) (fun c51 => ?_)
    · have hf := (if_pos c51).symm.trans hf
      exact J65 _ _ _ _ _ _ _ hf hP hS (lv_sub hl [] rfl)
    · have hf := (if_neg c51).symm.trans hf
      refine lv_aload_n hx hb dX3_followedBy_54 rfl (lv_at hl 1 rfl) ?_
      obtain ⟨v55, e55, hf⟩ := zb hf
      refine zr_gi (ci := 3) (k := 2) (C := RX3) (T := TX3) (N := 3) hx hb hts hi_X3_followedBy_3 hown hK hP e55 rfl rfl (by decide) (by decide) (hts (.fieldLink RX3 16 "BoundaryAnalyzer$Part" "canBeEmpty" "Z") (List.mem_of_getElem? (i := 1) rfl)) dX3_followedBy_55 ?_
      refine lv_if_eq (tgt := 65) hx hb dX3_followedBy_58 (by decide) (fun c58 => ?_) (fun c58 => ?_)
      · have hf := (if_pos c58).symm.trans hf
        exact J65 _ _ _ _ _ _ _ hf hP hS (lv_sub hl [] rfl)
      · have hf := (if_neg c58).symm.trans hf
        refine lv_iconst (v := (1 : Int32)) hx hb dX3_followedBy_61 (by decide) ?_
        refine lv_goto (tgt := 66) hx hb dX3_followedBy_62 (by decide) ?_
        exact J66 _ _ _ _ _ _ _ _ hf hP hS (lv_sub hl [] rfl)
  have J24 : ∀ (M : Mem) (H : Heap) (locs : List Loc) (ls : Array Slot) (h0 : Nat) (h1 : Nat) (g0 : Nat) (y1 : Int32), fX3_followedBy_24  M h0 h1 g0 y1 = some rr → zH D cy b M H → va_S (zA b) s.heap H locs → lv_has ls 2 [(0, .ref (b + h0)), (1, .ref (b + h1))] → W p l e (headSpec wsX3_followedBy ({ frames := 1, cells := 0, slots := 0, locals := 23 } : Room)).room s m ([.ref (b + h0), .ref (b + h1)] : List Value).toArray below meth c H locs 0 0 (MQ below (zQv D cy b rr) ([.ref (b + h0), .ref (b + h1)] : List Value).toArray s 0 0 (zA b)) (F0 m 24 ls [.int y1, .ref (b + g0)]) := by
    intro M H locs ls h0 h1 g0 y1 hf hP hS hl
    unfold fX3_followedBy_24 at hf
    refine lv_aload_n hx hb dX3_followedBy_24 rfl (lv_at hl 1 rfl) ?_
    obtain ⟨v25, e25, hf⟩ := zb hf
    refine zr_gi (ci := 3) (k := 2) (C := RX3) (T := TX3) (N := 3) hx hb hts hi_X3_followedBy_3 hown hK hP e25 rfl rfl (by decide) (by decide) (hts (.fieldLink RX3 16 "BoundaryAnalyzer$Part" "canBeEmpty" "Z") (List.mem_of_getElem? (i := 1) rfl)) dX3_followedBy_25 ?_
    refine lv_if_eq (tgt := 43) hx hb dX3_followedBy_28 (by decide) (fun c28 => ?_) (fun c28 => ?_)
    · have hf := (if_pos c28).symm.trans hf
      refine lv_aload_n hx hb dX3_followedBy_43 rfl (lv_at hl 1 rfl) ?_
      obtain ⟨v44, e44, hf⟩ := zb hf
      refine zr_gi (ci := 3) (k := 1) (C := RX3) (T := TX3) (N := 3) hx hb hts hi_X3_followedBy_3 hown hK hP e44 rfl rfl (by decide) (by decide) (hts (.fieldLink RX3 13 "BoundaryAnalyzer$Part" "last" "I") (List.mem_of_getElem? (i := 3) rfl)) dX3_followedBy_44 ?_
      exact J47 _ _ _ _ _ _ _ _ _ hf hP hS (lv_sub hl [0, 1] rfl)
    · have hf := (if_neg c28).symm.trans hf
      refine lv_aload_n hx hb dX3_followedBy_31 rfl (lv_at hl 0 rfl) ?_
      obtain ⟨v32, e32, hf⟩ := zb hf
      refine zr_gi (ci := 3) (k := 1) (C := RX3) (T := TX3) (N := 3) hx hb hts hi_X3_followedBy_3 hown hK hP e32 rfl rfl (by decide) (by decide) (hts (.fieldLink RX3 13 "BoundaryAnalyzer$Part" "last" "I") (List.mem_of_getElem? (i := 3) rfl)) dX3_followedBy_32 ?_
      refine lv_aload_n hx hb dX3_followedBy_35 rfl (lv_at hl 1 rfl) ?_
      obtain ⟨v36, e36, hf⟩ := zb hf
      refine zr_gi (ci := 3) (k := 1) (C := RX3) (T := TX3) (N := 3) hx hb hts hi_X3_followedBy_3 hown hK hP e36 rfl rfl (by decide) (by decide) (hts (.fieldLink RX3 13 "BoundaryAnalyzer$Part" "last" "I") (List.mem_of_getElem? (i := 3) rfl)) dX3_followedBy_36 ?_
      refine lv_ior hx hb dX3_followedBy_39 ?_
      refine lv_goto (tgt := 47) hx hb dX3_followedBy_40 (by decide) ?_
      exact J47 _ _ _ _ _ _ _ _ _ hf hP hS (lv_sub hl [0, 1] rfl)
  unfold fX3_followedBy at hf
  refine lv_aload_n hx hb dX3_followedBy_0 rfl (lv_at hl 0 rfl) ?_
  refine lv_aload_n hx hb dX3_followedBy_1 rfl (lv_at hl 0 rfl) ?_
  obtain ⟨v2, e2, hf⟩ := zb hf
  refine zr_gi (ci := 3) (k := 2) (C := RX3) (T := TX3) (N := 3) hx hb hts hi_X3_followedBy_3 hown hK hP e2 rfl rfl (by decide) (by decide) (hts (.fieldLink RX3 16 "BoundaryAnalyzer$Part" "canBeEmpty" "Z") (List.mem_of_getElem? (i := 1) rfl)) dX3_followedBy_2 ?_
  refine lv_if_eq (tgt := 20) hx hb dX3_followedBy_5 (by decide) (fun c5 => ?_) (fun c5 => ?_)
  · have hf := (if_pos c5).symm.trans hf
    refine lv_aload_n hx hb dX3_followedBy_20 rfl (lv_at hl 0 rfl) ?_
    obtain ⟨v21, e21, hf⟩ := zb hf
    refine zr_gi (ci := 3) (k := 0) (C := RX3) (T := TX3) (N := 3) hx hb hts hi_X3_followedBy_3 hown hK hP e21 rfl rfl (by decide) (by decide) (hts (.fieldLink RX3 7 "BoundaryAnalyzer$Part" "first" "I") (List.mem_of_getElem? (i := 2) rfl)) dX3_followedBy_21 ?_
    exact J24 _ _ _ _ _ _ _ _ hf hP hS (lv_sub hl [0, 1] rfl)
  · have hf := (if_neg c5).symm.trans hf
    refine lv_aload_n hx hb dX3_followedBy_8 rfl (lv_at hl 0 rfl) ?_
    obtain ⟨v9, e9, hf⟩ := zb hf
    refine zr_gi (ci := 3) (k := 0) (C := RX3) (T := TX3) (N := 3) hx hb hts hi_X3_followedBy_3 hown hK hP e9 rfl rfl (by decide) (by decide) (hts (.fieldLink RX3 7 "BoundaryAnalyzer$Part" "first" "I") (List.mem_of_getElem? (i := 2) rfl)) dX3_followedBy_9 ?_
    refine lv_aload_n hx hb dX3_followedBy_12 rfl (lv_at hl 1 rfl) ?_
    obtain ⟨v13, e13, hf⟩ := zb hf
    refine zr_gi (ci := 3) (k := 0) (C := RX3) (T := TX3) (N := 3) hx hb hts hi_X3_followedBy_3 hown hK hP e13 rfl rfl (by decide) (by decide) (hts (.fieldLink RX3 7 "BoundaryAnalyzer$Part" "first" "I") (List.mem_of_getElem? (i := 2) rfl)) dX3_followedBy_13 ?_
    refine lv_ior hx hb dX3_followedBy_16 ?_
    refine lv_goto (tgt := 24) hx hb dX3_followedBy_17 (by decide) ?_
    exact J24 _ _ _ _ _ _ _ _ hf hP hS (lv_sub hl [0, 1] rfl)
theorem hi_X4_init_4 : ∀ w ∈ wsX40, w ∈ wsX4_init := fun _ h => List.mem_cons_of_mem _ (List.mem_append_right _ h)
set_option maxHeartbeats 4000000 in
set_option maxRecDepth 100000 in
theorem k_X4_init (l : Launch) (D : va_G) (cy : Nat → ClassId) (b : Nat) (M0 : Mem) (h0 : Nat) (x1 : Int32) (rr : Mem) (hf : fX4_init M0 h0 x1 = some rr) : Met l yX4_init wsX4_init ({ frames := 1, cells := 1, slots := 3000, locals := 40 } : Room) (zPn D cy b M0 [.ref (b + h0), .int x1]) (zQn D cy b rr) 1 3000 (zA b) := by
  refine Met.ofW (cc := cX4_init) (maxL := 2) (ret := none) (by decide) rfl ?_
  intro p e s m args below meth c s₁ B hml hv
  obtain ⟨rfl, hP, hK, hz⟩ := hv
  have hx := B.exec
  have hb := B.bytes
  have hr := B.returns
  have hts := atoms_spec (ws := wsX4_init) B.pre
  have hown : s.vm.findClass RX4 = some m.cls := findClass_of_methodNamed B.named
  have hlocks := B.notSynchronized
  have hin : meth.name = "<init>" := (name_of_methodNamed B.named B.method).1
  have hS : va_S (zA b) s.heap s.heap [] := va_S.rf
  have hl := lv_entry ([.ref (b + h0), .int x1]) (n := 2) (Nat.le_of_ble_eq_true rfl)
  rw [lg_entry_eq]
  generalize (lg_sl ([.ref (b + h0), .int x1]) ++ List.replicate (2 - (lg_sl ([.ref (b + h0), .int x1])).length) Slot.unset).toArray = ls at hl ⊢
  have hl : lv_has ls 2 [(0, .ref (b + h0)), (1, .int x1)] := hl
  have hn : M0.1 ≤ M0.1 := Nat.le_refl _
  have hu : M0.1 ≤ M0.1 + 1 := by omega
  refine W.widen (k := M0.1 - M0.1) (n := 3000 * (M0.1 - M0.1)) (by omega) (by omega) ?_
  unfold fX4_init at hf
  refine lv_aload_n hx hb dX4_init_0 rfl (lv_at hl 0 rfl) ?_
  refine W.objInit hx hb hown (hts (.methodLink RX4 1 objectInit) (List.mem_of_getElem? (i := 1) rfl)) (hts (.instanceMethod objectInit) (List.mem_of_getElem? (i := 2) rfl)) (hts _ (List.mem_of_getElem? (i := 3) rfl)) rfl (by rw [hml]; exact hl.1) rfl dX4_init_1 (Nat.le_of_ble_eq_true rfl) (Nat.le_of_ble_eq_true rfl) ?_
  refine W.eq (g2 := F0 m 4 ls []) rfl ?_
  refine lv_aload_n hx hb dX4_init_4 rfl (lv_at hl 0 rfl) ?_
  refine lv_iconst (v := (0 : Int32)) hx hb dX4_init_5 (by decide) ?_
  refine lv_iload_n hx hb dX4_init_6 rfl (lv_at hl 1 rfl) ?_
  refine va_mmax hx hb (by rw [hml]; exact hl.1.symm) hown (hts (.methodLink RX4 7 Lib.Math.max.name) (List.mem_of_getElem? (i := 4) rfl)) (hts (.static Lib.Math.max.name) (List.mem_of_getElem? (i := 5) rfl)) (hts (.initialized "java/lang/Math") (List.mem_of_getElem? (i := 6) rfl)) (hts _ (List.mem_of_getElem? (i := 7) rfl)) (Nat.le_of_ble_eq_true rfl) (Nat.le_of_ble_eq_true rfl) (by show _ ≤ 1; omega) (by show _ ≤ 3000; omega) dX4_init_7 ?_
  obtain ⟨M10, e10, hf⟩ := zb hf
  refine zr_na (atype := .char) (ty := .char) (t0 := 0) hx hb rfl (hts (.arrayClass .char) (List.mem_of_getElem? (i := 8) rfl)) hK hP hz hS e10 rfl (Or.inl ⟨rfl, rfl⟩) (zsL_max _) (fun h9 => by show _ ≤ 1; omega) (fun h9 => by show _ ≤ 3000; omega) dX4_init_10 (fun H hP hz hS hq h9 => ?_)
  have hn : M0.1 ≤ M10.1 := by omega
  have hu : M10.1 ≤ M0.1 + 1 := by omega
  refine W.widen (k := M10.1 - M0.1) (n := 3000 * (M10.1 - M0.1)) (by omega) (by omega) ?_
  obtain ⟨M12, e12, hf⟩ := zb hf
  refine zr_pr (ci := 4) (k := 0) (C := RX4) (T := TX4) (N := 2) hx hb hts hi_X4_init_4 tyX4 tyX4_ok nmX4 hown hK hP hS e12 rfl rfl (by decide) (by decide) (hts (.fieldLink RX4 13 "BoundaryAnalyzer$Row" "signs" "[C") (List.mem_of_getElem? (i := 9) rfl)) (Or.inr ⟨rfl, hin, rfl⟩) (tyX4_ok 0 (by decide)) rfl rfl dX4_init_12 (fun H locs hP hz1 hS => ?_)
  rw [hz] at hz1; have hz := hz1
  have hq := zpR_n e12
  rw [← hq] at hn hu hz
  refine W.widen (k := M12.1 - M0.1) (n := 3000 * (M12.1 - M0.1)) (by omega) (by omega) ?_
  refine W.widen (k := 1) (n := 3000) (by omega) (by omega) ?_
  exact zret_n hx hb hr hlocks hf hP hz hS dX4_init_15
theorem hi_X4_at_4 : ∀ w ∈ wsX40, w ∈ wsX4_at := fun _ h => List.mem_cons_of_mem _ (List.mem_append_right _ h)
set_option maxHeartbeats 4000000 in
set_option maxRecDepth 100000 in
theorem k_X4_at (l : Launch) (D : va_G) (cy : Nat → ClassId) (b : Nat) (M0 : Mem) (h0 : Nat) (x1 : Int32) (rr : Int32 × Mem) (hf : fX4_at M0 h0 x1 = some rr) : Met l yX4_at wsX4_at ({ frames := 0, cells := 0, slots := 0, locals := 0 } : Room) (zPc D cy b M0 [.ref (b + h0), .int x1]) (zQi D cy b rr) 0 0 (zA b) := by
  refine Met.ofW (cc := cX4_at) (maxL := 2) (ret := (some .char)) (by decide) rfl ?_
  intro p e s m args below meth c s₁ B hml hv
  obtain ⟨rfl, hP, hK⟩ := hv
  have hx := B.exec
  have hb := B.bytes
  have hr := B.returns
  have hts := atoms_spec (ws := wsX4_at) B.pre
  have hown : s.vm.findClass RX4 = some m.cls := findClass_of_methodNamed B.named
  have hlocks := B.notSynchronized
  have hS : va_S (zA b) s.heap s.heap [] := va_S.rf
  have hl := lv_entry ([.ref (b + h0), .int x1]) (n := 2) (Nat.le_of_ble_eq_true rfl)
  rw [lg_entry_eq]
  generalize (lg_sl ([.ref (b + h0), .int x1]) ++ List.replicate (2 - (lg_sl ([.ref (b + h0), .int x1])).length) Slot.unset).toArray = ls at hl ⊢
  have hl : lv_has ls 2 [(0, .ref (b + h0)), (1, .int x1)] := hl
  unfold fX4_at at hf
  refine lv_iload_n hx hb dX4_at_0 rfl (lv_at hl 1 rfl) ?_
  refine lv_if_lt (tgt := 21) hx hb dX4_at_1 (by decide) (fun c1 => ?_) (fun c1 => ?_)
  · have hf := (if_pos c1).symm.trans hf
    refine lv_iconst (v := (0 : Int32)) hx hb dX4_at_21 (by decide) ?_
    exact zret_z hx hb hr (Or.inr rfl) hlocks hf hP hS dX4_at_22
  · have hf := (if_neg c1).symm.trans hf
    refine lv_iload_n hx hb dX4_at_4 rfl (lv_at hl 1 rfl) ?_
    refine lv_aload_n hx hb dX4_at_5 rfl (lv_at hl 0 rfl) ?_
    obtain ⟨v6, e6, hf⟩ := zb hf
    refine zr_gi (ci := 4) (k := 1) (C := RX4) (T := TX4) (N := 2) hx hb hts hi_X4_at_4 hown hK hP e6 rfl rfl (by decide) (by decide) (hts (.fieldLink RX4 19 "BoundaryAnalyzer$Row" "size" "I") (List.mem_of_getElem? (i := 1) rfl)) dX4_at_6 ?_
    refine lv_icmp_ge (tgt := 21) hx hb dX4_at_9 (by decide) (fun c9 => ?_) (fun c9 => ?_)
    · have hf := (if_pos c9).symm.trans hf
      refine lv_iconst (v := (0 : Int32)) hx hb dX4_at_21 (by decide) ?_
      exact zret_z hx hb hr (Or.inr rfl) hlocks hf hP hS dX4_at_22
    · have hf := (if_neg c9).symm.trans hf
      refine lv_aload_n hx hb dX4_at_12 rfl (lv_at hl 0 rfl) ?_
      obtain ⟨v13, e13, hf⟩ := zb hf
      refine zr_gr (ci := 4) (k := 0) (C := RX4) (T := TX4) (N := 2) hx hb hts hi_X4_at_4 hown hK hP e13 rfl rfl (by decide) (by decide) (hts (.fieldLink RX4 13 "BoundaryAnalyzer$Row" "signs" "[C") (List.mem_of_getElem? (i := 2) rfl)) dX4_at_13 ?_
      refine lv_iload_n hx hb dX4_at_16 rfl (lv_at hl 1 rfl) ?_
      obtain ⟨v17, e17, hf⟩ := zb hf
      refine zr_ac hx hb hK hP e17 dX4_at_17 ?_
      refine lv_goto (tgt := 22) hx hb dX4_at_18 (by decide) ?_
      exact zret_z hx hb hr (Or.inr rfl) hlocks hf hP hS dX4_at_22
theorem hi_X4_append_4 : ∀ w ∈ wsX40, w ∈ wsX4_append := fun _ h => List.mem_cons_of_mem _ (List.mem_append_right _ h)
set_option maxHeartbeats 4000000 in
set_option maxRecDepth 100000 in
theorem k_X4_append (l : Launch) (D : va_G) (cy : Nat → ClassId) (b : Nat) (M0 : Mem) (h0 : Nat) (x1 : Int32) (rr : Mem) (hf : fX4_append M0 h0 x1 = some rr) : Met l yX4_append wsX4_append ({ frames := 0, cells := 0, slots := 0, locals := 0 } : Room) (zPc D cy b M0 [.ref (b + h0), .int x1]) (zQv D cy b rr) 0 0 (zA b) := by
  refine Met.ofW (cc := cX4_append) (maxL := 2) (ret := none) (by decide) rfl ?_
  intro p e s m args below meth c s₁ B hml hv
  obtain ⟨rfl, hP, hK⟩ := hv
  have hx := B.exec
  have hb := B.bytes
  have hr := B.returns
  have hts := atoms_spec (ws := wsX4_append) B.pre
  have hown : s.vm.findClass RX4 = some m.cls := findClass_of_methodNamed B.named
  have hlocks := B.notSynchronized
  have hS : va_S (zA b) s.heap s.heap [] := va_S.rf
  have hl := lv_entry ([.ref (b + h0), .int x1]) (n := 2) (Nat.le_of_ble_eq_true rfl)
  rw [lg_entry_eq]
  generalize (lg_sl ([.ref (b + h0), .int x1]) ++ List.replicate (2 - (lg_sl ([.ref (b + h0), .int x1])).length) Slot.unset).toArray = ls at hl ⊢
  have hl : lv_has ls 2 [(0, .ref (b + h0)), (1, .int x1)] := hl
  unfold fX4_append at hf
  refine lv_aload_n hx hb dX4_append_0 rfl (lv_at hl 0 rfl) ?_
  obtain ⟨v1, e1, hf⟩ := zb hf
  refine zr_gi (ci := 4) (k := 1) (C := RX4) (T := TX4) (N := 2) hx hb hts hi_X4_append_4 hown hK hP e1 rfl rfl (by decide) (by decide) (hts (.fieldLink RX4 19 "BoundaryAnalyzer$Row" "size" "I") (List.mem_of_getElem? (i := 1) rfl)) dX4_append_1 ?_
  refine lv_aload_n hx hb dX4_append_4 rfl (lv_at hl 0 rfl) ?_
  obtain ⟨v5, e5, hf⟩ := zb hf
  refine zr_gr (ci := 4) (k := 0) (C := RX4) (T := TX4) (N := 2) hx hb hts hi_X4_append_4 hown hK hP e5 rfl rfl (by decide) (by decide) (hts (.fieldLink RX4 13 "BoundaryAnalyzer$Row" "signs" "[C") (List.mem_of_getElem? (i := 2) rfl)) dX4_append_5 ?_
  obtain ⟨v8, e8, hf⟩ := zb hf
  refine zr_al (t0 := 0) hx hb hK hP e8 (by decide) rfl dX4_append_8 ?_
  refine lv_icmp_ge (tgt := 32) hx hb dX4_append_9 (by decide) (fun c9 => ?_) (fun c9 => ?_)
  · have hf := (if_pos c9).symm.trans hf
    exact zret_v hx hb hr hlocks hf hP hS dX4_append_32
  · have hf := (if_neg c9).symm.trans hf
    refine lv_aload_n hx hb dX4_append_12 rfl (lv_at hl 0 rfl) ?_
    obtain ⟨v13, e13, hf⟩ := zb hf
    refine zr_gr (ci := 4) (k := 0) (C := RX4) (T := TX4) (N := 2) hx hb hts hi_X4_append_4 hown hK hP e13 rfl rfl (by decide) (by decide) (hts (.fieldLink RX4 13 "BoundaryAnalyzer$Row" "signs" "[C") (List.mem_of_getElem? (i := 2) rfl)) dX4_append_13 ?_
    refine lv_aload_n hx hb dX4_append_16 rfl (lv_at hl 0 rfl) ?_
    obtain ⟨v17, e17, hf⟩ := zb hf
    refine zr_gi (ci := 4) (k := 1) (C := RX4) (T := TX4) (N := 2) hx hb hts hi_X4_append_4 hown hK hP e17 rfl rfl (by decide) (by decide) (hts (.fieldLink RX4 19 "BoundaryAnalyzer$Row" "size" "I") (List.mem_of_getElem? (i := 1) rfl)) dX4_append_17 ?_
    refine lv_iload_n hx hb dX4_append_20 rfl (lv_at hl 1 rfl) ?_
    obtain ⟨M21, e21, hf⟩ := zb hf
    refine zr_sc hx hb hK hP hS e21 dX4_append_21 (fun H locs hP _ hS => ?_)
    refine lv_aload_n hx hb dX4_append_22 rfl (lv_at hl 0 rfl) ?_
    refine lv_dup hx hb dX4_append_23 rfl ?_
    obtain ⟨v24, e24, hf⟩ := zb hf
    refine zr_gi (ci := 4) (k := 1) (C := RX4) (T := TX4) (N := 2) hx hb hts hi_X4_append_4 hown hK hP e24 rfl rfl (by decide) (by decide) (hts (.fieldLink RX4 19 "BoundaryAnalyzer$Row" "size" "I") (List.mem_of_getElem? (i := 1) rfl)) dX4_append_24 ?_
    refine lv_iconst (v := (1 : Int32)) hx hb dX4_append_27 (by decide) ?_
    refine lv_iadd hx hb dX4_append_28 ?_
    obtain ⟨M29, e29, hf⟩ := zb hf
    refine zr_pi (ci := 4) (k := 1) (C := RX4) (T := TX4) (N := 2) hx hb hts hi_X4_append_4 tyX4 tyX4_ok nmX4 hown hK hP hS e29 rfl rfl (by decide) (by decide) (hts (.fieldLink RX4 19 "BoundaryAnalyzer$Row" "size" "I") (List.mem_of_getElem? (i := 1) rfl)) rfl (tyX4_ok 1 (by decide)) dX4_append_29 (fun H locs hP _ hS => ?_)
    exact zret_v hx hb hr hlocks hf hP hS dX4_append_32
theorem hi_X4_become_4 : ∀ w ∈ wsX40, w ∈ wsX4_become := fun _ h => List.mem_cons_of_mem _ (List.mem_append_right _ h)
set_option maxHeartbeats 4000000 in
set_option maxRecDepth 100000 in
theorem k_X4_become (l : Launch) (D : va_G) (cy : Nat → ClassId) (b : Nat) (M0 : Mem) (h0 : Nat) (h1 : Nat) (x2 : Int32) (x3 : Int32) (rr : Mem) (hf : fX4_become M0 h0 h1 x2 x3 = some rr) : Met l yX4_become wsX4_become ({ frames := 1, cells := 0, slots := 0, locals := 21 } : Room) (zPc D cy b M0 [.ref (b + h0), .ref (b + h1), .int x2, .int x3]) (zQv D cy b rr) 0 0 (zA b) := by
  refine Met.ofW (cc := cX4_become) (maxL := 5) (ret := none) (by decide) rfl ?_
  intro p e s m args below meth c s₁ B hml hv
  obtain ⟨rfl, hP, hK⟩ := hv
  have hx := B.exec
  have hb := B.bytes
  have hr := B.returns
  have hts := atoms_spec (ws := wsX4_become) B.pre
  have hown : s.vm.findClass RX4 = some m.cls := findClass_of_methodNamed B.named
  have hlocks := B.notSynchronized
  have hS : va_S (zA b) s.heap s.heap [] := va_S.rf
  have hl := lv_entry ([.ref (b + h0), .ref (b + h1), .int x2, .int x3]) (n := 5) (Nat.le_of_ble_eq_true rfl)
  rw [lg_entry_eq]
  generalize (lg_sl ([.ref (b + h0), .ref (b + h1), .int x2, .int x3]) ++ List.replicate (5 - (lg_sl ([.ref (b + h0), .ref (b + h1), .int x2, .int x3])).length) Slot.unset).toArray = ls at hl ⊢
  have hl : lv_has ls 5 [(0, .ref (b + h0)), (1, .ref (b + h1)), (2, .int x2), (3, .int x3)] := hl
  have L8 : ∀ (n8 : Nat) (M : Mem) (H : Heap) (locs : List Loc) (ls : Array Slot) (h0 : Nat) (h1 : Nat) (x2 : Int32) (x3 : Int32) (x4 : Int32), fX4_become_8L  n8 M h0 h1 x2 x3 x4 = some rr → zH D cy b M H → va_S (zA b) s.heap H locs → lv_has ls 5 [(0, .ref (b + h0)), (1, .ref (b + h1)), (2, .int x2), (3, .int x3), (4, .int x4)] → W p l e (headSpec wsX4_become ({ frames := 1, cells := 0, slots := 0, locals := 21 } : Room)).room s m ([.ref (b + h0), .ref (b + h1), .int x2, .int x3] : List Value).toArray below meth c H locs 0 0 (MQ below (zQv D cy b rr) ([.ref (b + h0), .ref (b + h1), .int x2, .int x3] : List Value).toArray s 0 0 (zA b)) (F0 m 8 ls []) := by
    intro n8
    induction n8 with
    | zero =>
      intro M H locs ls h0 h1 x2 x3 x4 hf
      have hf : (none : Option Mem) = some rr := hf
      cases hf
    | succ n8 ih8 =>
      intro M H locs ls h0 h1 x2 x3 x4 hf hP hS hl
      have hf : fX4_become_8  (fX4_become_8L  n8) M h0 h1 x2 x3 x4 = some rr := hf
      unfold fX4_become_8 at hf
      refine lv_iload hx hb dX4_become_8 (lv_at hl 4 rfl) ?_
      refine lv_iload_n hx hb dX4_become_10 rfl (lv_at hl 3 rfl) ?_
      refine lv_icmp_ge (tgt := 32) hx hb dX4_become_11 (by decide) (fun c11 => ?_) (fun c11 => ?_)
      · have hf := (if_pos c11).symm.trans hf
        exact zret_v hx hb hr hlocks hf hP hS dX4_become_32
      · have hf := (if_neg c11).symm.trans hf
        refine lv_aload_n hx hb dX4_become_14 rfl (lv_at hl 0 rfl) ?_
        refine lv_aload_n hx hb dX4_become_15 rfl (lv_at hl 1 rfl) ?_
        refine lv_iload_n hx hb dX4_become_16 rfl (lv_at hl 2 rfl) ?_
        refine lv_iload hx hb dX4_become_17 (lv_at hl 4 rfl) ?_
        refine lv_iadd hx hb dX4_become_19 ?_
        obtain ⟨u20, t20, hf⟩ := zb hf
        obtain ⟨r20, e20, hf⟩ := zb hf
        refine zc_i hS (va_runV (As := [.int (x2 + x4)]) (rest := [.ref (b + h0)]) ⟨hx, hb, hml, hown, hts⟩ (k_X4_at l D cy b M h1 (x2 + x4) r20 e20) (cwV 1 hts gX4_become_X4_at rfl rfl rfl (by decide +kernel) ⟨Nat.le_of_ble_eq_true rfl, Nat.le_of_ble_eq_true rfl⟩) (zp_V _ hK hP t20 (T := TX4) (N := 2) rfl (by decide)) rfl rfl hl.1 rfl (lv_room (Nat.le_of_ble_eq_true rfl)) dX4_become_20 ⟨Nat.zero_le _, Nat.zero_le _⟩) (fun H locs hP hS => ?_)
        obtain ⟨u23, t23, hf⟩ := zb hf
        obtain ⟨M23, e23, hf⟩ := zb hf
        refine zc_v hS (va_runV (As := [.int r20.1]) (rest := []) ⟨hx, hb, hml, hown, hts⟩ (k_X4_append l D cy b r20.2 h0 r20.1 M23 e23) (cwV 1 hts gX4_become_X4_append rfl rfl rfl (by decide +kernel) ⟨Nat.le_of_ble_eq_true rfl, Nat.le_of_ble_eq_true rfl⟩) (zp_V _ hK hP t23 (T := TX4) (N := 2) rfl (by decide)) rfl rfl hl.1 rfl (lv_room (Nat.le_of_ble_eq_true rfl)) dX4_become_23 ⟨Nat.zero_le _, Nat.zero_le _⟩) (fun H locs hP hS => ?_)
        obtain ⟨x4_26, q26, hf⟩ := zlt_s hf
        refine lv_iinc (v := x4_26) (lv' := [(4, .int x4_26), (0, .ref (b + h0)), (1, .ref (b + h1)), (2, .int x2), (3, .int x3)]) hx hb dX4_become_26 hl (k := 4) rfl (by rw [← q26]; rfl) (by decide) rfl (fun ls hl => ?_)
        refine lv_goto (tgt := 8) hx hb dX4_become_29 (by decide) ?_
        exact ih8 _ _ _ _ _ _ _ _ _ hf hP hS (lv_sub hl [1, 2, 3, 4, 0] rfl)
  unfold fX4_become at hf
  refine lv_aload_n hx hb dX4_become_0 rfl (lv_at hl 0 rfl) ?_
  refine lv_iconst (v := (0 : Int32)) hx hb dX4_become_1 (by decide) ?_
  obtain ⟨M2, e2, hf⟩ := zb hf
  refine zr_pi (ci := 4) (k := 1) (C := RX4) (T := TX4) (N := 2) hx hb hts hi_X4_become_4 tyX4 tyX4_ok nmX4 hown hK hP hS e2 rfl rfl (by decide) (by decide) (hts (.fieldLink RX4 19 "BoundaryAnalyzer$Row" "size" "I") (List.mem_of_getElem? (i := 1) rfl)) rfl (tyX4_ok 1 (by decide)) dX4_become_2 (fun H locs hP _ hS => ?_)
  refine lv_iconst (v := (0 : Int32)) hx hb dX4_become_5 (by decide) ?_
  refine lv_istore (lv' := [(4, .int (0 : Int32)), (0, .ref (b + h0)), (1, .ref (b + h1)), (2, .int x2), (3, .int x3)]) hx hb dX4_become_6 hl (by decide) rfl (fun ls hl => ?_)
  exact L8 _ _ _ _ _ _ _ _ _ _ hf hP hS (lv_sub hl [1, 2, 3, 4, 0] rfl)
theorem hi_X4_isPartOf_4 : ∀ w ∈ wsX40, w ∈ wsX4_isPartOf := fun _ h => List.mem_cons_of_mem _ (List.mem_append_right _ h)
set_option maxHeartbeats 4000000 in
set_option maxRecDepth 100000 in
theorem k_X4_isPartOf (l : Launch) (D : va_G) (cy : Nat → ClassId) (b : Nat) (M0 : Mem) (h0 : Nat) (h1 : Nat) (x2 : Int32) (x3 : Int32) (rr : Int32 × Mem) (hf : fX4_isPartOf M0 h0 h1 x2 x3 = some rr) : Met l yX4_isPartOf wsX4_isPartOf ({ frames := 1, cells := 0, slots := 0, locals := 21 } : Room) (zPc D cy b M0 [.ref (b + h0), .ref (b + h1), .int x2, .int x3]) (zQi D cy b rr) 0 0 (zA b) := by
  refine Met.ofW (cc := cX4_isPartOf) (maxL := 5) (ret := (some .boolean)) (by decide) rfl ?_
  intro p e s m args below meth c s₁ B hml hv
  obtain ⟨rfl, hP, hK⟩ := hv
  have hx := B.exec
  have hb := B.bytes
  have hr := B.returns
  have hts := atoms_spec (ws := wsX4_isPartOf) B.pre
  have hown : s.vm.findClass RX4 = some m.cls := findClass_of_methodNamed B.named
  have hlocks := B.notSynchronized
  have hS : va_S (zA b) s.heap s.heap [] := va_S.rf
  have hl := lv_entry ([.ref (b + h0), .ref (b + h1), .int x2, .int x3]) (n := 5) (Nat.le_of_ble_eq_true rfl)
  rw [lg_entry_eq]
  generalize (lg_sl ([.ref (b + h0), .ref (b + h1), .int x2, .int x3]) ++ List.replicate (5 - (lg_sl ([.ref (b + h0), .ref (b + h1), .int x2, .int x3])).length) Slot.unset).toArray = ls at hl ⊢
  have hl : lv_has ls 5 [(0, .ref (b + h0)), (1, .ref (b + h1)), (2, .int x2), (3, .int x3)] := hl
  have L13 : ∀ (n13 : Nat) (M : Mem) (H : Heap) (locs : List Loc) (ls : Array Slot) (h0 : Nat) (h1 : Nat) (x2 : Int32) (x4 : Int32), fX4_isPartOf_13L  n13 M h0 h1 x2 x4 = some rr → zH D cy b M H → va_S (zA b) s.heap H locs → lv_has ls 5 [(0, .ref (b + h0)), (1, .ref (b + h1)), (2, .int x2), (4, .int x4)] → W p l e (headSpec wsX4_isPartOf ({ frames := 1, cells := 0, slots := 0, locals := 21 } : Room)).room s m ([.ref (b + h0), .ref (b + h1), .int x2, .int x3] : List Value).toArray below meth c H locs 0 0 (MQ below (zQi D cy b rr) ([.ref (b + h0), .ref (b + h1), .int x2, .int x3] : List Value).toArray s 0 0 (zA b)) (F0 m 13 ls []) := by
    intro n13
    induction n13 with
    | zero =>
      intro M H locs ls h0 h1 x2 x4 hf
      have hf : (none : Option (Int32 × Mem)) = some rr := hf
      cases hf
    | succ n13 ih13 =>
      intro M H locs ls h0 h1 x2 x4 hf hP hS hl
      have hf : fX4_isPartOf_13  (fX4_isPartOf_13L  n13) M h0 h1 x2 x4 = some rr := hf
      unfold fX4_isPartOf_13 at hf
      refine lv_iload hx hb dX4_isPartOf_13 (lv_at hl 3 rfl) ?_
      refine lv_aload_n hx hb dX4_isPartOf_15 rfl (lv_at hl 0 rfl) ?_
      obtain ⟨v16, e16, hf⟩ := zb hf
      refine zr_gi (ci := 4) (k := 1) (C := RX4) (T := TX4) (N := 2) hx hb hts hi_X4_isPartOf_4 hown hK hP e16 rfl rfl (by decide) (by decide) (hts (.fieldLink RX4 19 "BoundaryAnalyzer$Row" "size" "I") (List.mem_of_getElem? (i := 1) rfl)) dX4_isPartOf_16 ?_
      refine lv_icmp_ge (tgt := 47) hx hb dX4_isPartOf_19 (by decide) (fun c19 => ?_) (fun c19 => ?_)
      · have hf := (if_pos c19).symm.trans hf
        refine lv_iconst (v := (1 : Int32)) hx hb dX4_isPartOf_47 (by decide) ?_
        exact zret_z hx hb hr (Or.inl rfl) hlocks hf hP hS dX4_isPartOf_48
      · have hf := (if_neg c19).symm.trans hf
        refine lv_aload_n hx hb dX4_isPartOf_22 rfl (lv_at hl 0 rfl) ?_
        refine lv_iload hx hb dX4_isPartOf_23 (lv_at hl 3 rfl) ?_
        obtain ⟨u25, t25, hf⟩ := zb hf
        obtain ⟨r25, e25, hf⟩ := zb hf
        refine zc_i hS (va_runV (As := [.int x4]) (rest := []) ⟨hx, hb, hml, hown, hts⟩ (k_X4_at l D cy b M h0 x4 r25 e25) (cwV 1 hts gX4_isPartOf_X4_at rfl rfl rfl (by decide +kernel) ⟨Nat.le_of_ble_eq_true rfl, Nat.le_of_ble_eq_true rfl⟩) (zp_V _ hK hP t25 (T := TX4) (N := 2) rfl (by decide)) rfl rfl hl.1 rfl (lv_room (Nat.le_of_ble_eq_true rfl)) dX4_isPartOf_25 ⟨Nat.zero_le _, Nat.zero_le _⟩) (fun H locs hP hS => ?_)
        refine lv_aload_n hx hb dX4_isPartOf_28 rfl (lv_at hl 1 rfl) ?_
        refine lv_iload_n hx hb dX4_isPartOf_29 rfl (lv_at hl 2 rfl) ?_
        refine lv_iload hx hb dX4_isPartOf_30 (lv_at hl 3 rfl) ?_
        refine lv_iadd hx hb dX4_isPartOf_32 ?_
        obtain ⟨u33, t33, hf⟩ := zb hf
        obtain ⟨r33, e33, hf⟩ := zb hf
        refine zc_i hS (va_runV (As := [.int (x2 + x4)]) (rest := [.int r25.1]) ⟨hx, hb, hml, hown, hts⟩ (k_X4_at l D cy b r25.2 h1 (x2 + x4) r33 e33) (cwV 1 hts gX4_isPartOf_X4_at rfl rfl rfl (by decide +kernel) ⟨Nat.le_of_ble_eq_true rfl, Nat.le_of_ble_eq_true rfl⟩) (zp_V _ hK hP t33 (T := TX4) (N := 2) rfl (by decide)) rfl rfl hl.1 rfl (lv_room (Nat.le_of_ble_eq_true rfl)) dX4_isPartOf_33 ⟨Nat.zero_le _, Nat.zero_le _⟩) (fun H locs hP hS => ?_)
        refine lv_icmp_eq (tgt := 41) hx hb dX4_isPartOf_36 (by decide) (fun c36 => ?_) (fun c36 => ?_)
        · have hf := (if_pos c36).symm.trans hf
          obtain ⟨x4_41, q41, hf⟩ := zlt_s hf
          refine lv_iinc (v := x4_41) (lv' := [(4, .int x4_41), (0, .ref (b + h0)), (1, .ref (b + h1)), (2, .int x2)]) hx hb dX4_isPartOf_41 hl (k := 3) rfl (by rw [← q41]; rfl) (by decide) rfl (fun ls hl => ?_)
          refine lv_goto (tgt := 13) hx hb dX4_isPartOf_44 (by decide) ?_
          exact ih13 _ _ _ _ _ _ _ _ hf hP hS (lv_sub hl [1, 2, 3, 0] rfl)
        · have hf := (if_neg c36).symm.trans hf
          refine lv_iconst (v := (0 : Int32)) hx hb dX4_isPartOf_39 (by decide) ?_
          exact zret_z hx hb hr (Or.inl rfl) hlocks hf hP hS dX4_isPartOf_40
  unfold fX4_isPartOf at hf
  refine lv_aload_n hx hb dX4_isPartOf_0 rfl (lv_at hl 0 rfl) ?_
  obtain ⟨v1, e1, hf⟩ := zb hf
  refine zr_gi (ci := 4) (k := 1) (C := RX4) (T := TX4) (N := 2) hx hb hts hi_X4_isPartOf_4 hown hK hP e1 rfl rfl (by decide) (by decide) (hts (.fieldLink RX4 19 "BoundaryAnalyzer$Row" "size" "I") (List.mem_of_getElem? (i := 1) rfl)) dX4_isPartOf_1 ?_
  refine lv_iload_n hx hb dX4_isPartOf_4 rfl (lv_at hl 3 rfl) ?_
  refine lv_icmp_eq (tgt := 10) hx hb dX4_isPartOf_5 (by decide) (fun c5 => ?_) (fun c5 => ?_)
  · have hf := (if_pos c5).symm.trans hf
    refine lv_iconst (v := (0 : Int32)) hx hb dX4_isPartOf_10 (by decide) ?_
    refine lv_istore (lv' := [(4, .int (0 : Int32)), (0, .ref (b + h0)), (1, .ref (b + h1)), (2, .int x2), (3, .int x3)]) hx hb dX4_isPartOf_11 hl (by decide) rfl (fun ls hl => ?_)
    exact L13 _ _ _ _ _ _ _ _ _ hf hP hS (lv_sub hl [1, 2, 3, 0] rfl)
  · have hf := (if_neg c5).symm.trans hf
    refine lv_iconst (v := (0 : Int32)) hx hb dX4_isPartOf_8 (by decide) ?_
    exact zret_z hx hb hr (Or.inl rfl) hlocks hf hP hS dX4_isPartOf_9
