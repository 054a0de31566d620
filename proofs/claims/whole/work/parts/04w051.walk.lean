set_option maxHeartbeats 4000000 in
set_option maxRecDepth 100000 in
theorem k_X9_noRulePlace (l : Launch) (p0 : Int32) (p1 : Int32) (rr : Int32) (hf : fX9_noRulePlace p0 p1 = some rr) : Met l yX9_noRulePlace wsX9_noRulePlace ({ frames := 1, cells := 0, slots := 0, locals := 22 } : Room) (zPp [.int p0, .int p1]) (zQp rr) 0 0 zNo := by
  refine Met.ofW (cc := cX9_noRulePlace) (maxL := 2) (ret := (some .boolean)) (by decide) rfl ?_
  intro p e s m args below meth c s₁ B hml hv
  obtain ⟨rfl, -⟩ := hv
  have hx := B.exec
  have hb := B.bytes
  have hr := B.returns
  have hts := atoms_spec (ws := wsX9_noRulePlace) B.pre
  have hown : s.vm.findClass RX9 = some m.cls := findClass_of_methodNamed B.named
  have hlocks := B.notSynchronized
  have hl := lv_entry ([.int p0, .int p1]) (n := 2) (Nat.le_of_ble_eq_true rfl)
  rw [lg_entry_eq]
  generalize (lg_sl ([.int p0, .int p1]) ++ List.replicate (2 - (lg_sl ([.int p0, .int p1])).length) Slot.unset).toArray = ls at hl ⊢
  have hl : lv_has ls 2 [(0, .int p0), (1, .int p1)] := hl
  have J18 : ∀ (ls : Array Slot) , fX9_noRulePlace_18   = some rr → lv_has ls 2 [] → W p l e (headSpec wsX9_noRulePlace ({ frames := 1, cells := 0, slots := 0, locals := 22 } : Room)).room s m ([.int p0, .int p1] : List Value).toArray below meth c s.heap [] 0 0 (MQ below (zQp rr) ([.int p0, .int p1] : List Value).toArray s 0 0 zNo) (F0 m 18 ls []) := by
    intro ls  hf hl
    unfold fX9_noRulePlace_18 at hf
    refine lv_iconst (v := (1 : Int32)) hx hb dX9_noRulePlace_18 (by decide) ?_
    refine lv_goto (tgt := 23) hx hb dX9_noRulePlace_19 (by decide) ?_
    exact zret_pz hx hb hr (Or.inl rfl) hlocks hf dX9_noRulePlace_23
  unfold fX9_noRulePlace at hf
  refine lv_iload_n hx hb dX9_noRulePlace_0 rfl (lv_at hl 0 rfl) ?_
  refine lv_iconst (v := (0 : Int32)) hx hb dX9_noRulePlace_1 (by decide) ?_
  refine lv_iconst (v := (2 : Int32)) hx hb dX9_noRulePlace_2 (by decide) ?_
  obtain ⟨v3, e3, hf⟩ := zb hf
  refine zc_p (va_runS (As := [.int p0, .int (0 : Int32), .int (2 : Int32)]) (rest := []) ⟨hx, hb, hml, hown, hts⟩ (k_X9_in l p0 (0 : Int32) (2 : Int32) v3 e3) (va_cwS 3 hts gX9_noRulePlace_X9_in rfl rfl rfl (by decide +kernel) ⟨Nat.le_of_ble_eq_true rfl, Nat.le_of_ble_eq_true rfl⟩) (zp_p _) rfl rfl hl.1 rfl (lv_room (Nat.le_of_ble_eq_true rfl)) dX9_noRulePlace_3 ⟨Nat.zero_le _, Nat.zero_le _⟩) ?_
  refine lv_if_eq (tgt := 18) hx hb dX9_noRulePlace_6 (by decide) (fun c6 => ?_) (fun c6 => ?_)
  · have hf := (if_pos c6).symm.trans hf
    exact J18 _ hf (lv_sub hl [] rfl)
  · have hf := (if_neg c6).symm.trans hf
    refine lv_iload_n hx hb dX9_noRulePlace_9 rfl (lv_at hl 1 rfl) ?_
    refine lv_iconst (v := (0 : Int32)) hx hb dX9_noRulePlace_10 (by decide) ?_
    refine lv_iconst (v := (4 : Int32)) hx hb dX9_noRulePlace_11 (by decide) ?_
    obtain ⟨v12, e12, hf⟩ := zb hf
    refine zc_p (va_runS (As := [.int p1, .int (0 : Int32), .int (4 : Int32)]) (rest := []) ⟨hx, hb, hml, hown, hts⟩ (k_X9_in l p1 (0 : Int32) (4 : Int32) v12 e12) (va_cwS 3 hts gX9_noRulePlace_X9_in rfl rfl rfl (by decide +kernel) ⟨Nat.le_of_ble_eq_true rfl, Nat.le_of_ble_eq_true rfl⟩) (zp_p _) rfl rfl hl.1 rfl (lv_room (Nat.le_of_ble_eq_true rfl)) dX9_noRulePlace_12 ⟨Nat.zero_le _, Nat.zero_le _⟩) ?_
    refine lv_if_ne (tgt := 22) hx hb dX9_noRulePlace_15 (by decide) (fun c15 => ?_) (fun c15 => ?_)
    · have hf := (if_neg c15).symm.trans hf
      refine lv_iconst (v := (0 : Int32)) hx hb dX9_noRulePlace_22 (by decide) ?_
      exact zret_pz hx hb hr (Or.inl rfl) hlocks hf dX9_noRulePlace_23
    · have hf := (if_pos c15).symm.trans hf
      exact J18 _ hf (lv_sub hl [] rfl)
theorem hi_X9_setRule_9 : ∀ w ∈ wsX90, w ∈ wsX9_setRule := fun _ h => List.mem_cons_of_mem _ (List.mem_append_right _ h)
set_option maxHeartbeats 4000000 in
set_option maxRecDepth 100000 in
theorem k_X9_setRule (l : Launch) (D : va_G) (cy : Nat → ClassId) (b : Nat) (M0 : Mem) (p0 : Nat) (p1 : Int32) (p2 : Int32) (rr : Int32 × Mem) (hf : fX9_setRule M0 p0 p1 p2 = some rr) : Met l yX9_setRule wsX9_setRule ({ frames := 5, cells := 0, slots := 0, locals := 126 } : Room) (zPc D cy b M0 [.ref (b + p0), .int p1, .int p2]) (zQi D cy b rr) 0 0 (zA b) := by
  refine Met.ofW (cc := cX9_setRule) (maxL := 6) (ret := (some .int)) (by decide) rfl ?_
  intro p e s m args below meth c s₁ B hml hv
  obtain ⟨rfl, hP, hK⟩ := hv
  have hx := B.exec
  have hb := B.bytes
  have hr := B.returns
  have hts := atoms_spec (ws := wsX9_setRule) B.pre
  have hown : s.vm.findClass RX9 = some m.cls := findClass_of_methodNamed B.named
  have hlocks := B.notSynchronized
  have hS : va_S (zA b) s.heap s.heap [] := va_S.rf
  have hl := lv_entry ([.ref (b + p0), .int p1, .int p2]) (n := 6) (Nat.le_of_ble_eq_true rfl)
  rw [lg_entry_eq]
  generalize (lg_sl ([.ref (b + p0), .int p1, .int p2]) ++ List.replicate (6 - (lg_sl ([.ref (b + p0), .int p1, .int p2])).length) Slot.unset).toArray = ls at hl ⊢
  have hl : lv_has ls 6 [(0, .ref (b + p0)), (1, .int p1), (2, .int p2)] := hl
  have J31 : ∀ (M : Mem) (H : Heap) (locs : List Loc) (ls : Array Slot) (h0 : Nat) (x1 : Int32) (x3 : Int32) (y0 : Int32), fX9_setRule_31  M h0 x1 x3 y0 = some rr → zH D cy b M H → va_S (zA b) s.heap H locs → lv_has ls 6 [(0, .ref (b + h0)), (1, .int x1), (3, .int x3)] → W p l e (headSpec wsX9_setRule ({ frames := 5, cells := 0, slots := 0, locals := 126 } : Room)).room s m ([.ref (b + p0), .int p1, .int p2] : List Value).toArray below meth c H locs 0 0 (MQ below (zQi D cy b rr) ([.ref (b + p0), .int p1, .int p2] : List Value).toArray s 0 0 (zA b)) (F0 m 31 ls [.int y0]) := by
    intro M H locs ls h0 x1 x3 y0 hf hP hS hl
    unfold fX9_setRule_31 at hf
    refine lv_istore (lv' := [(4, .int y0), (0, .ref (b + h0)), (1, .int x1), (3, .int x3)]) hx hb dX9_setRule_31 hl (by decide) rfl (fun ls hl => ?_)
    refine lv_aload_n hx hb dX9_setRule_33 rfl (lv_at hl 1 rfl) ?_
    obtain ⟨v34, e34, hf⟩ := zb hf
    refine zr_gi (ci := 9) (k := 1) (C := RX9) (T := TX9) (N := 54) hx hb hts hi_X9_setRule_9 hown hK hP e34 rfl rfl (by decide) (by decide) (hts (.fieldLink RX9 144 "BoundaryAnalyzerModel" "typed" "I") (List.mem_of_getElem? (i := 2) rfl)) dX9_setRule_34 ?_
    refine lv_if_ne (tgt := 61) hx hb dX9_setRule_37 (by decide) (fun c37 => ?_) (fun c37 => ?_)
    · have hf := (if_neg c37).symm.trans hf
      refine lv_aload_n hx hb dX9_setRule_61 rfl (lv_at hl 1 rfl) ?_
      obtain ⟨u62, t62, hf⟩ := zb hf
      obtain ⟨r62, e62, hf⟩ := zb hf
      refine zc_i hS (va_runV (As := []) (rest := []) ⟨hx, hb, hml, hown, hts⟩ (k_X9_readPattern l D cy b M h0  r62 e62) (cwV 0 hts gX9_setRule_X9_readPattern rfl rfl rfl (by decide +kernel) ⟨Nat.le_of_ble_eq_true rfl, Nat.le_of_ble_eq_true rfl⟩) (zp_V _ hK hP t62 (T := TX9) (N := 54) rfl (by decide)) rfl rfl hl.1 rfl (lv_room (Nat.le_of_ble_eq_true rfl)) dX9_setRule_62 ⟨Nat.zero_le _, Nat.zero_le _⟩) (fun H locs hP hS => ?_)
      refine lv_istore (lv' := [(5, .int r62.1), (4, .int y0), (0, .ref (b + h0)), (1, .int x1), (3, .int x3)]) hx hb dX9_setRule_65 hl (by decide) rfl (fun ls hl => ?_)
      refine lv_iload hx hb dX9_setRule_67 (lv_at hl 0 rfl) ?_
      refine lv_if_lt (tgt := 78) hx hb dX9_setRule_69 (by decide) (fun c69 => ?_) (fun c69 => ?_)
      · have hf := (if_pos c69).symm.trans hf
        refine lv_aload_n hx hb dX9_setRule_78 rfl (lv_at hl 2 rfl) ?_
        refine lv_iload_n hx hb dX9_setRule_79 rfl (lv_at hl 4 rfl) ?_
        obtain ⟨u80, t80, hf⟩ := zb hf
        obtain ⟨M80, e80, hf⟩ := zb hf
        refine zc_v hS (va_runV (As := [.int x3]) (rest := []) ⟨hx, hb, hml, hown, hts⟩ (k_X9_keepRule l D cy b r62.2 h0 x3 M80 e80) (cwV 1 hts gX9_setRule_X9_keepRule rfl rfl rfl (by decide +kernel) ⟨Nat.le_of_ble_eq_true rfl, Nat.le_of_ble_eq_true rfl⟩) (zp_V _ hK hP t80 (T := TX9) (N := 54) rfl (by decide)) rfl rfl hl.1 rfl (lv_room (Nat.le_of_ble_eq_true rfl)) dX9_setRule_80 ⟨Nat.zero_le _, Nat.zero_le _⟩) (fun H locs hP hS => ?_)
        refine lv_aload_n hx hb dX9_setRule_83 rfl (lv_at hl 2 rfl) ?_
        refine lv_iload_n hx hb dX9_setRule_84 rfl (lv_at hl 3 rfl) ?_
        obtain ⟨u85, t85, hf⟩ := zb hf
        obtain ⟨M85, e85, hf⟩ := zb hf
        refine zc_v hS (va_runV (As := [.int x1]) (rest := []) ⟨hx, hb, hml, hown, hts⟩ (k_X9_analyse l D cy b M80 h0 x1 M85 e85) (cwV 1 hts gX9_setRule_X9_analyse rfl rfl rfl (by decide +kernel) ⟨Nat.le_of_ble_eq_true rfl, Nat.le_of_ble_eq_true rfl⟩) (zp_V _ hK hP t85 (T := TX9) (N := 54) rfl (by decide)) rfl rfl hl.1 rfl (lv_room (Nat.le_of_ble_eq_true rfl)) dX9_setRule_85 ⟨Nat.zero_le _, Nat.zero_le _⟩) (fun H locs hP hS => ?_)
        refine lv_iload hx hb dX9_setRule_88 (lv_at hl 1 rfl) ?_
        exact zret_i hx hb hr hlocks hf hP hS dX9_setRule_90
      · have hf := (if_neg c69).symm.trans hf
        refine lv_bipush (v := (-100 : Int32)) hx hb dX9_setRule_72 (by decide) ?_
        refine lv_iload hx hb dX9_setRule_74 (lv_at hl 0 rfl) ?_
        refine lv_isub hx hb dX9_setRule_76 ?_
        exact zret_i hx hb hr hlocks hf hP hS dX9_setRule_77
    · have hf := (if_pos c37).symm.trans hf
      refine lv_aload_n hx hb dX9_setRule_40 rfl (lv_at hl 1 rfl) ?_
      obtain ⟨v41, e41, hf⟩ := zb hf
      refine zr_gr (ci := 9) (k := 20) (C := RX9) (T := TX9) (N := 54) hx hb hts hi_X9_setRule_9 hown hK hP e41 rfl rfl (by decide) (by decide) (hts (.fieldLink RX9 45 "BoundaryAnalyzerModel" "ruleLong" "[I") (List.mem_of_getElem? (i := 1) rfl)) dX9_setRule_41 ?_
      refine lv_iload_n hx hb dX9_setRule_44 rfl (lv_at hl 3 rfl) ?_
      refine lv_iconst (v := (0 : Int32)) hx hb dX9_setRule_45 (by decide) ?_
      obtain ⟨M46, e46, hf⟩ := zb hf
      refine zr_si hx hb hK hP hS e46 dX9_setRule_46 (fun H locs hP _ hS => ?_)
      refine lv_iload hx hb dX9_setRule_47 (lv_at hl 0 rfl) ?_
      refine lv_iconst (v := (1 : Int32)) hx hb dX9_setRule_49 (by decide) ?_
      refine lv_icmp_ne (tgt := 58) hx hb dX9_setRule_50 (by decide) (fun c50 => ?_) (fun c50 => ?_)
      · have hf := (if_neg c50).symm.trans hf
        refine lv_iload hx hb dX9_setRule_58 (lv_at hl 0 rfl) ?_
        exact zret_i hx hb hr hlocks hf hP hS dX9_setRule_60
      · have hf := (if_pos c50).symm.trans hf
        refine lv_aload_n hx hb dX9_setRule_53 rfl (lv_at hl 1 rfl) ?_
        refine lv_iload_n hx hb dX9_setRule_54 rfl (lv_at hl 2 rfl) ?_
        obtain ⟨u55, t55, hf⟩ := zb hf
        obtain ⟨M55, e55, hf⟩ := zb hf
        refine zc_v hS (va_runV (As := [.int x1]) (rest := []) ⟨hx, hb, hml, hown, hts⟩ (k_X9_analyse l D cy b M46 h0 x1 M55 e55) (cwV 1 hts gX9_setRule_X9_analyse rfl rfl rfl (by decide +kernel) ⟨Nat.le_of_ble_eq_true rfl, Nat.le_of_ble_eq_true rfl⟩) (zp_V _ hK hP t55 (T := TX9) (N := 54) rfl (by decide)) rfl rfl hl.1 rfl (lv_room (Nat.le_of_ble_eq_true rfl)) dX9_setRule_55 ⟨Nat.zero_le _, Nat.zero_le _⟩) (fun H locs hP hS => ?_)
        refine lv_iload hx hb dX9_setRule_58 (lv_at hl 0 rfl) ?_
        exact zret_i hx hb hr hlocks hf hP hS dX9_setRule_60
  unfold fX9_setRule at hf
  refine lv_iload_n hx hb dX9_setRule_0 rfl (lv_at hl 1 rfl) ?_
  refine lv_iload_n hx hb dX9_setRule_1 rfl (lv_at hl 2 rfl) ?_
  obtain ⟨v2, e2, hf⟩ := zb hf
  refine zc_p (va_runS (As := [.int p1, .int p2]) (rest := []) ⟨hx, hb, hml, hown, hts⟩ (k_X9_noRulePlace l p1 p2 v2 e2) (va_cwS 2 hts gX9_setRule_X9_noRulePlace rfl rfl rfl (by decide +kernel) ⟨Nat.le_of_ble_eq_true rfl, Nat.le_of_ble_eq_true rfl⟩) (zp_p _) rfl rfl hl.1 rfl (lv_room (Nat.le_of_ble_eq_true rfl)) dX9_setRule_2 ⟨Nat.zero_le _, Nat.zero_le _⟩) ?_
  refine lv_if_eq (tgt := 11) hx hb dX9_setRule_5 (by decide) (fun c5 => ?_) (fun c5 => ?_)
  · have hf := (if_pos c5).symm.trans hf
    refine lv_iconst (v := (5 : Int32)) hx hb dX9_setRule_11 (by decide) ?_
    refine lv_iload_n hx hb dX9_setRule_12 rfl (lv_at hl 1 rfl) ?_
    refine lv_imul hx hb dX9_setRule_13 ?_
    refine lv_iload_n hx hb dX9_setRule_14 rfl (lv_at hl 2 rfl) ?_
    refine lv_iadd hx hb dX9_setRule_15 ?_
    obtain ⟨x3_16, q16, hf⟩ := zlt_s hf
    refine zt q16 ?_
    refine lv_istore_n (lv' := [(3, .int x3_16), (0, .ref (b + p0)), (1, .int p1), (2, .int p2)]) hx hb dX9_setRule_16 rfl hl (by decide) rfl (fun ls hl => ?_)
    refine lv_aload_n hx hb dX9_setRule_17 rfl (lv_at hl 1 rfl) ?_
    obtain ⟨v18, e18, hf⟩ := zb hf
    refine zr_gr (ci := 9) (k := 20) (C := RX9) (T := TX9) (N := 54) hx hb hts hi_X9_setRule_9 hown hK hP e18 rfl rfl (by decide) (by decide) (hts (.fieldLink RX9 45 "BoundaryAnalyzerModel" "ruleLong" "[I") (List.mem_of_getElem? (i := 1) rfl)) dX9_setRule_18 ?_
    refine lv_iload_n hx hb dX9_setRule_21 rfl (lv_at hl 0 rfl) ?_
    obtain ⟨v22, e22, hf⟩ := zb hf
    refine zr_ai hx hb hK hP e22 dX9_setRule_22 ?_
    refine lv_if_le (tgt := 30) hx hb dX9_setRule_23 (by decide) (fun c23 => ?_) (fun c23 => ?_)
    · have hf := (if_pos c23).symm.trans hf
      refine lv_iconst (v := (0 : Int32)) hx hb dX9_setRule_30 (by decide) ?_
      exact J31 _ _ _ _ _ _ _ _ hf hP hS (lv_sub hl [1, 2, 0] rfl)
    · have hf := (if_neg c23).symm.trans hf
      refine lv_iconst (v := (1 : Int32)) hx hb dX9_setRule_26 (by decide) ?_
      refine lv_goto (tgt := 31) hx hb dX9_setRule_27 (by decide) ?_
      exact J31 _ _ _ _ _ _ _ _ hf hP hS (lv_sub hl [1, 2, 0] rfl)
  · have hf := (if_neg c5).symm.trans hf
    refine lv_bipush (v := (-2 : Int32)) hx hb dX9_setRule_8 (by decide) ?_
    exact zret_i hx hb hr hlocks hf hP hS dX9_setRule_10
