theorem hi_X0_init_0 : ∀ w ∈ wsX00, w ∈ wsX0_init := fun _ h => List.mem_cons_of_mem _ (List.mem_append_right _ h)
theorem hi_X0_init_4 : ∀ w ∈ wsX40, w ∈ wsX0_init := fun _ h => List.mem_cons_of_mem _ (List.mem_append_left _ (List.mem_append_right _ h))
set_option maxHeartbeats 4000000 in
set_option maxRecDepth 100000 in
theorem k_X0_init (l : Launch) (D : va_G) (cy : Nat → ClassId) (b : Nat) (M0 : Mem) (p0 : Nat) (rr : Mem) (hf : fX0_init M0 p0 = some rr) : Met l yX0_init wsX0_init ({ frames := 2, cells := 2, slots := 6000, locals := 61 } : Room) (zPn D cy b M0 [.ref (b + p0)]) (zQn D cy b rr) 2 6000 (zA b) := by
  refine Met.ofW (cc := cX0_init) (maxL := 1) (ret := none) (by decide) rfl ?_
  intro p e s m args below meth c s₁ B hml hv
  obtain ⟨rfl, hP, hK, hz⟩ := hv
  have hx := B.exec
  have hb := B.bytes
  have hr := B.returns
  have hts := atoms_spec (ws := wsX0_init) B.pre
  have hown : s.vm.findClass RX0 = some m.cls := findClass_of_methodNamed B.named
  have hlocks := B.notSynchronized
  have hin : meth.name = "<init>" := (name_of_methodNamed B.named B.method).1
  have hS : va_S (zA b) s.heap s.heap [] := va_S.rf
  have hl := lv_entry ([.ref (b + p0)]) (n := 1) (Nat.le_of_ble_eq_true rfl)
  rw [lg_entry_eq]
  generalize (lg_sl ([.ref (b + p0)]) ++ List.replicate (1 - (lg_sl ([.ref (b + p0)])).length) Slot.unset).toArray = ls at hl ⊢
  have hl : lv_has ls 1 [(0, .ref (b + p0))] := hl
  have hn : yN M0.1 2 M0 := ⟨Nat.le_refl _, Nat.le_add_right _ _⟩
  refine y_begin (M := M0) ?_
  unfold fX0_init at hf
  refine lv_aload_n hx hb dX0_init_0 rfl (lv_at hl 0 rfl) ?_
  refine W.objInit hx hb hown (hts (.methodLink RX0 3 objectInit) (List.mem_of_getElem? (i := 1) rfl)) (hts (.instanceMethod objectInit) (List.mem_of_getElem? (i := 2) rfl)) (hts _ (List.mem_of_getElem? (i := 3) rfl)) rfl (by rw [hml]; exact hl.1) rfl dX0_init_1 (Nat.le_of_ble_eq_true rfl) (Nat.le_of_ble_eq_true rfl) ?_
  refine W.eq (g2 := F0 m 4 ls []) rfl ?_
  refine lv_aload_n hx hb dX0_init_4 rfl (lv_at hl 0 rfl) ?_
  obtain ⟨M5, e5, hf⟩ := zb hf
  refine y_no (mc := 2) (ci := 4) (C := RX4) (T := TX4) (N := 2) hx hb hts hi_X0_init_4 tyX4 tyX4_ok hown (hts (.classLink RX0 9 RX4) (List.mem_of_getElem? (i := 4) rfl)) (hts (.instantiable RX4 2) (List.mem_of_getElem? (i := 5) rfl)) (hts (.initialized RX4) (List.mem_of_getElem? (i := 6) rfl)) hK hP hz hS hn e5 rfl (by decide) (fun j hj => by rcases (show j = 0 ∨ j = 1 by omega) with rfl | rfl <;> rfl) rfl rfl (by decide) dX0_init_5 (fun H hP hz hS hn => ?_)
  refine lv_dup hx hb dX0_init_8 rfl ?_
  refine lv_bipush (v := (100 : Int32)) hx hb dX0_init_9 (by decide) ?_
  obtain ⟨M11, e11, hf⟩ := zb hf
  obtain ⟨u11, r11, hf⟩ := zb hf
  refine y_call (mc := 2) (k := 1) hS hn r11 rfl rfl (fun hrm => va_runI (As := [.int (100 : Int32)]) (rest := [.ref (b + M0.1), .ref (b + p0)]) ⟨hx, hb, hml, hown, hts⟩ (k_X4_init l D cy b M5 M0.1 (100 : Int32) M11 e11) (cwI 1 hts gX0_init_X4_init rfl rfl rfl (hts (.initialized RX4) (List.mem_of_getElem? (i := 6) rfl)) (hts (.methodLink RX0 11 yX4_init) (List.mem_of_getElem? (i := 8) rfl)) (hts (.instanceMethod yX4_init) (List.mem_of_getElem? (i := 9) rfl)) rfl (by decide +kernel) ⟨Nat.le_of_ble_eq_true rfl, Nat.le_of_ble_eq_true rfl⟩) (zp_N _ hK hP hz) rfl rfl hl.1 rfl (lv_room (Nat.le_of_ble_eq_true rfl)) dX0_init_11 hrm) (fun H locs hP hz hS hn => ?_)
  obtain ⟨M14, e14, hf⟩ := zb hf
  refine y_put (ci := 0) (k := 0) (C := RX0) (T := TX0) (N := 3) hx hb hts hi_X0_init_0 tyX0 tyX0_ok nmX0 hown hK hP hz hS hn e14 rfl rfl (by decide) (by decide) (hts (.fieldLink RX0 14 "BoundaryAnalyzer$Edit" "signs" "LBoundaryAnalyzer$Row;") (List.mem_of_getElem? (i := 7) rfl)) (Or.inr ⟨rfl, hin, rfl⟩) (tyX0_ok 0 (by decide)) rfl rfl dX0_init_14 (fun H locs hP hz hS hn => ?_)
  exact y_ret (mc := 2) hx hb hr hlocks hf hP hz hS hn dX0_init_17
set_option maxHeartbeats 4000000 in
set_option maxRecDepth 100000 in
theorem k_X7_firstClassOf (l : Launch) (p0 : Int32) (rr : Int32) (hf : fX7_firstClassOf p0 = some rr) : Met l yX7_firstClassOf wsX7_firstClassOf ({ frames := 0, cells := 0, slots := 0, locals := 0 } : Room) (zPp [.int p0]) (zQp rr) 0 0 zNo := by
  refine Met.ofW (cc := cX7_firstClassOf) (maxL := 1) (ret := (some .int)) (by decide) rfl ?_
  intro p e s m args below meth c s₁ B hml hv
  obtain ⟨rfl, -⟩ := hv
  have hx := B.exec
  have hb := B.bytes
  have hr := B.returns
  have hts := atoms_spec (ws := wsX7_firstClassOf) B.pre
  have hown : s.vm.findClass RX7 = some m.cls := findClass_of_methodNamed B.named
  have hlocks := B.notSynchronized
  have hl := lv_entry ([.int p0]) (n := 1) (Nat.le_of_ble_eq_true rfl)
  rw [lg_entry_eq]
  generalize (lg_sl ([.int p0]) ++ List.replicate (1 - (lg_sl ([.int p0])).length) Slot.unset).toArray = ls at hl ⊢
  have hl : lv_has ls 1 [(0, .int p0)] := hl
  have J40 : ∀ (ls : Array Slot) (x0 : Int32), fX7_firstClassOf_40  x0 = some rr → lv_has ls 1 [(0, .int x0)] → W p l e (headSpec wsX7_firstClassOf ({ frames := 0, cells := 0, slots := 0, locals := 0 } : Room)).room s m ([.int p0] : List Value).toArray below meth c s.heap [] 0 0 (MQ below (zQp rr) ([.int p0] : List Value).toArray s 0 0 zNo) (F0 m 40 ls []) := by
    intro ls x0 hf hl
    unfold fX7_firstClassOf_40 at hf
    refine lv_iload_n hx hb dX7_firstClassOf_40 rfl (lv_at hl 0 rfl) ?_
    by_cases c41_32 : x0 = (32 : Int32)
    · have hf := (if_pos c41_32).symm.trans hf
      refine lv_lookup (off := 147) (tgt := 188) hx hb dX7_firstClassOf_41 (by decide) (by rw [c41_32]; decide) (by decide) ?_
      refine lv_iconst (v := (2 : Int32)) hx hb dX7_firstClassOf_188 (by decide) ?_
      exact zret_pi hx hb hr hlocks hf dX7_firstClassOf_189
    have hf := (if_neg c41_32).symm.trans hf
    by_cases c41_33 : x0 = (33 : Int32)
    · have hf := (if_pos c41_33).symm.trans hf
      refine lv_lookup (off := 153) (tgt := 194) hx hb dX7_firstClassOf_41 (by decide) (by rw [c41_33]; decide) (by decide) ?_
      refine lv_iconst (v := (5 : Int32)) hx hb dX7_firstClassOf_194 (by decide) ?_
      exact zret_pi hx hb hr hlocks hf dX7_firstClassOf_195
    have hf := (if_neg c41_33).symm.trans hf
    by_cases c41_34 : x0 = (34 : Int32)
    · have hf := (if_pos c41_34).symm.trans hf
      refine lv_lookup (off := 164) (tgt := 205) hx hb dX7_firstClassOf_41 (by decide) (by rw [c41_34]; decide) (by decide) ?_
      refine lv_bipush (v := (9 : Int32)) hx hb dX7_firstClassOf_205 (by decide) ?_
      exact zret_pi hx hb hr hlocks hf dX7_firstClassOf_207
    have hf := (if_neg c41_34).symm.trans hf
    by_cases c41_39 : x0 = (39 : Int32)
    · have hf := (if_pos c41_39).symm.trans hf
      refine lv_lookup (off := 155) (tgt := 196) hx hb dX7_firstClassOf_41 (by decide) (by rw [c41_39]; decide) (by decide) ?_
      refine lv_bipush (v := (6 : Int32)) hx hb dX7_firstClassOf_196 (by decide) ?_
      exact zret_pi hx hb hr hlocks hf dX7_firstClassOf_198
    have hf := (if_neg c41_39).symm.trans hf
    by_cases c41_40 : x0 = (40 : Int32)
    · have hf := (if_pos c41_40).symm.trans hf
      refine lv_lookup (off := 161) (tgt := 202) hx hb dX7_firstClassOf_41 (by decide) (by rw [c41_40]; decide) (by decide) ?_
      refine lv_bipush (v := (8 : Int32)) hx hb dX7_firstClassOf_202 (by decide) ?_
      exact zret_pi hx hb hr hlocks hf dX7_firstClassOf_204
    have hf := (if_neg c41_40).symm.trans hf
    by_cases c41_41 : x0 = (41 : Int32)
    · have hf := (if_pos c41_41).symm.trans hf
      refine lv_lookup (off := 164) (tgt := 205) hx hb dX7_firstClassOf_41 (by decide) (by rw [c41_41]; decide) (by decide) ?_
      refine lv_bipush (v := (9 : Int32)) hx hb dX7_firstClassOf_205 (by decide) ?_
      exact zret_pi hx hb hr hlocks hf dX7_firstClassOf_207
    have hf := (if_neg c41_41).symm.trans hf
    by_cases c41_44 : x0 = (44 : Int32)
    · have hf := (if_pos c41_44).symm.trans hf
      refine lv_lookup (off := 151) (tgt := 192) hx hb dX7_firstClassOf_41 (by decide) (by rw [c41_44]; decide) (by decide) ?_
      refine lv_iconst (v := (4 : Int32)) hx hb dX7_firstClassOf_192 (by decide) ?_
      exact zret_pi hx hb hr hlocks hf dX7_firstClassOf_193
    have hf := (if_neg c41_44).symm.trans hf
    by_cases c41_45 : x0 = (45 : Int32)
    · have hf := (if_pos c41_45).symm.trans hf
      refine lv_lookup (off := 158) (tgt := 199) hx hb dX7_firstClassOf_41 (by decide) (by rw [c41_45]; decide) (by decide) ?_
      refine lv_bipush (v := (7 : Int32)) hx hb dX7_firstClassOf_199 (by decide) ?_
      exact zret_pi hx hb hr hlocks hf dX7_firstClassOf_201
    have hf := (if_neg c41_45).symm.trans hf
    by_cases c41_46 : x0 = (46 : Int32)
    · have hf := (if_pos c41_46).symm.trans hf
      refine lv_lookup (off := 149) (tgt := 190) hx hb dX7_firstClassOf_41 (by decide) (by rw [c41_46]; decide) (by decide) ?_
      refine lv_iconst (v := (3 : Int32)) hx hb dX7_firstClassOf_190 (by decide) ?_
      exact zret_pi hx hb hr hlocks hf dX7_firstClassOf_191
    have hf := (if_neg c41_46).symm.trans hf
    by_cases c41_58 : x0 = (58 : Int32)
    · have hf := (if_pos c41_58).symm.trans hf
      refine lv_lookup (off := 151) (tgt := 192) hx hb dX7_firstClassOf_41 (by decide) (by rw [c41_58]; decide) (by decide) ?_
      refine lv_iconst (v := (4 : Int32)) hx hb dX7_firstClassOf_192 (by decide) ?_
      exact zret_pi hx hb hr hlocks hf dX7_firstClassOf_193
    have hf := (if_neg c41_58).symm.trans hf
    by_cases c41_59 : x0 = (59 : Int32)
    · have hf := (if_pos c41_59).symm.trans hf
      refine lv_lookup (off := 151) (tgt := 192) hx hb dX7_firstClassOf_41 (by decide) (by rw [c41_59]; decide) (by decide) ?_
      refine lv_iconst (v := (4 : Int32)) hx hb dX7_firstClassOf_192 (by decide) ?_
      exact zret_pi hx hb hr hlocks hf dX7_firstClassOf_193
    have hf := (if_neg c41_59).symm.trans hf
    by_cases c41_63 : x0 = (63 : Int32)
    · have hf := (if_pos c41_63).symm.trans hf
      refine lv_lookup (off := 153) (tgt := 194) hx hb dX7_firstClassOf_41 (by decide) (by rw [c41_63]; decide) (by decide) ?_
      refine lv_iconst (v := (5 : Int32)) hx hb dX7_firstClassOf_194 (by decide) ?_
      exact zret_pi hx hb hr hlocks hf dX7_firstClassOf_195
    have hf := (if_neg c41_63).symm.trans hf
    by_cases c41_91 : x0 = (91 : Int32)
    · have hf := (if_pos c41_91).symm.trans hf
      refine lv_lookup (off := 161) (tgt := 202) hx hb dX7_firstClassOf_41 (by decide) (by rw [c41_91]; decide) (by decide) ?_
      refine lv_bipush (v := (8 : Int32)) hx hb dX7_firstClassOf_202 (by decide) ?_
      exact zret_pi hx hb hr hlocks hf dX7_firstClassOf_204
    have hf := (if_neg c41_91).symm.trans hf
    by_cases c41_93 : x0 = (93 : Int32)
    · have hf := (if_pos c41_93).symm.trans hf
      refine lv_lookup (off := 164) (tgt := 205) hx hb dX7_firstClassOf_41 (by decide) (by rw [c41_93]; decide) (by decide) ?_
      refine lv_bipush (v := (9 : Int32)) hx hb dX7_firstClassOf_205 (by decide) ?_
      exact zret_pi hx hb hr hlocks hf dX7_firstClassOf_207
    have hf := (if_neg c41_93).symm.trans hf
    by_cases c41_94 : x0 = (94 : Int32)
    · have hf := (if_pos c41_94).symm.trans hf
      refine lv_lookup (off := 167) (tgt := 208) hx hb dX7_firstClassOf_41 (by decide) (by rw [c41_94]; decide) (by decide) ?_
      refine lv_bipush (v := (10 : Int32)) hx hb dX7_firstClassOf_208 (by decide) ?_
      exact zret_pi hx hb hr hlocks hf dX7_firstClassOf_210
    have hf := (if_neg c41_94).symm.trans hf
    by_cases c41_96 : x0 = (96 : Int32)
    · have hf := (if_pos c41_96).symm.trans hf
      refine lv_lookup (off := 167) (tgt := 208) hx hb dX7_firstClassOf_41 (by decide) (by rw [c41_96]; decide) (by decide) ?_
      refine lv_bipush (v := (10 : Int32)) hx hb dX7_firstClassOf_208 (by decide) ?_
      exact zret_pi hx hb hr hlocks hf dX7_firstClassOf_210
    have hf := (if_neg c41_96).symm.trans hf
    by_cases c41_126 : x0 = (126 : Int32)
    · have hf := (if_pos c41_126).symm.trans hf
      refine lv_lookup (off := 167) (tgt := 208) hx hb dX7_firstClassOf_41 (by decide) (by rw [c41_126]; decide) (by decide) ?_
      refine lv_bipush (v := (10 : Int32)) hx hb dX7_firstClassOf_208 (by decide) ?_
      exact zret_pi hx hb hr hlocks hf dX7_firstClassOf_210
    have hf := (if_neg c41_126).symm.trans hf
    refine lv_lookup (off := 170) (tgt := 211) hx hb dX7_firstClassOf_41 (by decide) (by show Op.lookupswitch.offset [(32, 147), (33, 153), (34, 164), (39, 155), (40, 161), (41, 164), (44, 151), (45, 158), (46, 149), (58, 151), (59, 151), (63, 153), (91, 161), (93, 164), (94, 167), (96, 167), (126, 167)] 170 _ = _; rw [lv_osw (k := 32) c41_32 (by decide), lv_osw (k := 33) c41_33 (by decide), lv_osw (k := 34) c41_34 (by decide), lv_osw (k := 39) c41_39 (by decide), lv_osw (k := 40) c41_40 (by decide), lv_osw (k := 41) c41_41 (by decide), lv_osw (k := 44) c41_44 (by decide), lv_osw (k := 45) c41_45 (by decide), lv_osw (k := 46) c41_46 (by decide), lv_osw (k := 58) c41_58 (by decide), lv_osw (k := 59) c41_59 (by decide), lv_osw (k := 63) c41_63 (by decide), lv_osw (k := 91) c41_91 (by decide), lv_osw (k := 93) c41_93 (by decide), lv_osw (k := 94) c41_94 (by decide), lv_osw (k := 96) c41_96 (by decide), lv_osw (k := 126) c41_126 (by decide)]; rfl) (by decide) ?_
    refine lv_bipush (v := (11 : Int32)) hx hb dX7_firstClassOf_211 (by decide) ?_
    exact zret_pi hx hb hr hlocks hf dX7_firstClassOf_213
  have J26 : ∀ (ls : Array Slot) (x0 : Int32), fX7_firstClassOf_26  x0 = some rr → lv_has ls 1 [(0, .int x0)] → W p l e (headSpec wsX7_firstClassOf ({ frames := 0, cells := 0, slots := 0, locals := 0 } : Room)).room s m ([.int p0] : List Value).toArray below meth c s.heap [] 0 0 (MQ below (zQp rr) ([.int p0] : List Value).toArray s 0 0 zNo) (F0 m 26 ls []) := by
    intro ls x0 hf hl
    unfold fX7_firstClassOf_26 at hf
    refine lv_iload_n hx hb dX7_firstClassOf_26 rfl (lv_at hl 0 rfl) ?_
    refine lv_bipush (v := (48 : Int32)) hx hb dX7_firstClassOf_27 (by decide) ?_
    refine lv_icmp_lt (tgt := 40) hx hb dX7_firstClassOf_29 (by decide) (fun c29 => ?_) (fun c29 => ?_)
    · have hf := (if_pos c29).symm.trans hf
      exact J40 _ _ hf (lv_sub hl [0] rfl)
    · have hf := (if_neg c29).symm.trans hf
      refine lv_iload_n hx hb dX7_firstClassOf_32 rfl (lv_at hl 0 rfl) ?_
      refine lv_bipush (v := (57 : Int32)) hx hb dX7_firstClassOf_33 (by decide) ?_
      refine lv_icmp_gt (tgt := 40) hx hb dX7_firstClassOf_35 (by decide) (fun c35 => ?_) (fun c35 => ?_)
      · have hf := (if_pos c35).symm.trans hf
        exact J40 _ _ hf (lv_sub hl [0] rfl)
      · have hf := (if_neg c35).symm.trans hf
        refine lv_iconst (v := (1 : Int32)) hx hb dX7_firstClassOf_38 (by decide) ?_
        exact zret_pi hx hb hr hlocks hf dX7_firstClassOf_39
  have J12 : ∀ (ls : Array Slot) (x0 : Int32), fX7_firstClassOf_12  x0 = some rr → lv_has ls 1 [(0, .int x0)] → W p l e (headSpec wsX7_firstClassOf ({ frames := 0, cells := 0, slots := 0, locals := 0 } : Room)).room s m ([.int p0] : List Value).toArray below meth c s.heap [] 0 0 (MQ below (zQp rr) ([.int p0] : List Value).toArray s 0 0 zNo) (F0 m 12 ls []) := by
    intro ls x0 hf hl
    unfold fX7_firstClassOf_12 at hf
    refine lv_iload_n hx hb dX7_firstClassOf_12 rfl (lv_at hl 0 rfl) ?_
    refine lv_bipush (v := (65 : Int32)) hx hb dX7_firstClassOf_13 (by decide) ?_
    refine lv_icmp_lt (tgt := 26) hx hb dX7_firstClassOf_15 (by decide) (fun c15 => ?_) (fun c15 => ?_)
    · have hf := (if_pos c15).symm.trans hf
      exact J26 _ _ hf (lv_sub hl [0] rfl)
    · have hf := (if_neg c15).symm.trans hf
      refine lv_iload_n hx hb dX7_firstClassOf_18 rfl (lv_at hl 0 rfl) ?_
      refine lv_bipush (v := (90 : Int32)) hx hb dX7_firstClassOf_19 (by decide) ?_
      refine lv_icmp_gt (tgt := 26) hx hb dX7_firstClassOf_21 (by decide) (fun c21 => ?_) (fun c21 => ?_)
      · have hf := (if_pos c21).symm.trans hf
        exact J26 _ _ hf (lv_sub hl [0] rfl)
      · have hf := (if_neg c21).symm.trans hf
        refine lv_iconst (v := (0 : Int32)) hx hb dX7_firstClassOf_24 (by decide) ?_
        exact zret_pi hx hb hr hlocks hf dX7_firstClassOf_25
  unfold fX7_firstClassOf at hf
  refine lv_iload_n hx hb dX7_firstClassOf_0 rfl (lv_at hl 0 rfl) ?_
  refine lv_bipush (v := (97 : Int32)) hx hb dX7_firstClassOf_1 (by decide) ?_
  refine lv_icmp_lt (tgt := 12) hx hb dX7_firstClassOf_3 (by decide) (fun c3 => ?_) (fun c3 => ?_)
  · have hf := (if_pos c3).symm.trans hf
    exact J12 _ _ hf (lv_sub hl [0] rfl)
  · have hf := (if_neg c3).symm.trans hf
    refine lv_iload_n hx hb dX7_firstClassOf_6 rfl (lv_at hl 0 rfl) ?_
    refine lv_bipush (v := (122 : Int32)) hx hb dX7_firstClassOf_7 (by decide) ?_
    refine lv_icmp_le (tgt := 24) hx hb dX7_firstClassOf_9 (by decide) (fun c9 => ?_) (fun c9 => ?_)
    · have hf := (if_pos c9).symm.trans hf
      refine lv_iconst (v := (0 : Int32)) hx hb dX7_firstClassOf_24 (by decide) ?_
      exact zret_pi hx hb hr hlocks hf dX7_firstClassOf_25
    · have hf := (if_neg c9).symm.trans hf
      exact J12 _ _ hf (lv_sub hl [0] rfl)
