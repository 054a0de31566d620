set_option maxHeartbeats 4000000 in
set_option maxRecDepth 100000 in
theorem k_X9_in (l : Launch) (p0 : Int32) (p1 : Int32) (p2 : Int32) (rr : Int32) (hf : fX9_in p0 p1 p2 = some rr) : Met l yX9_in wsX9_in ({ frames := 0, cells := 0, slots := 0, locals := 0 } : Room) (zPp [.int p0, .int p1, .int p2]) (zQp rr) 0 0 zNo := by
  refine Met.ofW (cc := cX9_in) (maxL := 3) (ret := (some .boolean)) (by decide) rfl ?_
  intro p e s m args below meth c s₁ B hml hv
  obtain ⟨rfl, -⟩ := hv
  have hx := B.exec
  have hb := B.bytes
  have hr := B.returns
  have hts := atoms_spec (ws := wsX9_in) B.pre
  have hown : s.vm.findClass RX9 = some m.cls := findClass_of_methodNamed B.named
  have hlocks := B.notSynchronized
  have hl := lv_entry ([.int p0, .int p1, .int p2]) (n := 3) (Nat.le_of_ble_eq_true rfl)
  rw [lg_entry_eq]
  generalize (lg_sl ([.int p0, .int p1, .int p2]) ++ List.replicate (3 - (lg_sl ([.int p0, .int p1, .int p2])).length) Slot.unset).toArray = ls at hl ⊢
  have hl : lv_has ls 3 [(0, .int p0), (1, .int p1), (2, .int p2)] := hl
  unfold fX9_in at hf
  refine lv_iload_n hx hb dX9_in_0 rfl (lv_at hl 0 rfl) ?_
  refine lv_iload_n hx hb dX9_in_1 rfl (lv_at hl 1 rfl) ?_
  refine lv_icmp_lt (tgt := 14) hx hb dX9_in_2 (by decide) (fun c2 => ?_) (fun c2 => ?_)
  · have hf := (if_pos c2).symm.trans hf
    refine lv_iconst (v := (0 : Int32)) hx hb dX9_in_14 (by decide) ?_
    exact zret_pz hx hb hr (Or.inl rfl) hlocks hf dX9_in_15
  · have hf := (if_neg c2).symm.trans hf
    refine lv_iload_n hx hb dX9_in_5 rfl (lv_at hl 0 rfl) ?_
    refine lv_iload_n hx hb dX9_in_6 rfl (lv_at hl 2 rfl) ?_
    refine lv_icmp_gt (tgt := 14) hx hb dX9_in_7 (by decide) (fun c7 => ?_) (fun c7 => ?_)
    · have hf := (if_pos c7).symm.trans hf
      refine lv_iconst (v := (0 : Int32)) hx hb dX9_in_14 (by decide) ?_
      exact zret_pz hx hb hr (Or.inl rfl) hlocks hf dX9_in_15
    · have hf := (if_neg c7).symm.trans hf
      refine lv_iconst (v := (1 : Int32)) hx hb dX9_in_10 (by decide) ?_
      refine lv_goto (tgt := 15) hx hb dX9_in_11 (by decide) ?_
      exact zret_pz hx hb hr (Or.inl rfl) hlocks hf dX9_in_15
set_option maxHeartbeats 4000000 in
set_option maxRecDepth 100000 in
theorem k_X9_firstClass (l : Launch) (p0 : Int32) (rr : Int32) (hf : fX9_firstClass p0 = some rr) : Met l yX9_firstClass wsX9_firstClass ({ frames := 1, cells := 0, slots := 0, locals := 22 } : Room) (zPp [.int p0]) (zQp rr) 0 0 zNo := by
  refine Met.ofW (cc := cX9_firstClass) (maxL := 1) (ret := (some .int)) (by decide) rfl ?_
  intro p e s m args below meth c s₁ B hml hv
  obtain ⟨rfl, -⟩ := hv
  have hx := B.exec
  have hb := B.bytes
  have hr := B.returns
  have hts := atoms_spec (ws := wsX9_firstClass) B.pre
  have hown : s.vm.findClass RX9 = some m.cls := findClass_of_methodNamed B.named
  have hlocks := B.notSynchronized
  have hl := lv_entry ([.int p0]) (n := 1) (Nat.le_of_ble_eq_true rfl)
  rw [lg_entry_eq]
  generalize (lg_sl ([.int p0]) ++ List.replicate (1 - (lg_sl ([.int p0])).length) Slot.unset).toArray = ls at hl ⊢
  have hl : lv_has ls 1 [(0, .int p0)] := hl
  unfold fX9_firstClass at hf
  refine lv_iload_n hx hb dX9_firstClass_0 rfl (lv_at hl 0 rfl) ?_
  refine lv_bipush (v := (97 : Int32)) hx hb dX9_firstClass_1 (by decide) ?_
  refine lv_bipush (v := (122 : Int32)) hx hb dX9_firstClass_3 (by decide) ?_
  obtain ⟨v5, e5, hf⟩ := zb hf
  refine zc_p (va_runS (As := [.int p0, .int (97 : Int32), .int (122 : Int32)]) (rest := []) ⟨hx, hb, hml, hown, hts⟩ (k_X9_in l p0 (97 : Int32) (122 : Int32) v5 e5) (va_cwS 3 hts gX9_firstClass_X9_in rfl rfl rfl (by decide +kernel) ⟨Nat.le_of_ble_eq_true rfl, Nat.le_of_ble_eq_true rfl⟩) (zp_p _) rfl rfl hl.1 rfl (lv_room (Nat.le_of_ble_eq_true rfl)) dX9_firstClass_5 ⟨Nat.zero_le _, Nat.zero_le _⟩) ?_
  refine lv_if_ne (tgt := 22) hx hb dX9_firstClass_8 (by decide) (fun c8 => ?_) (fun c8 => ?_)
  · have hf := (if_neg c8).symm.trans hf
    refine lv_iconst (v := (0 : Int32)) hx hb dX9_firstClass_22 (by decide) ?_
    exact zret_pi hx hb hr hlocks hf dX9_firstClass_23
  · have hf := (if_pos c8).symm.trans hf
    refine lv_iload_n hx hb dX9_firstClass_11 rfl (lv_at hl 0 rfl) ?_
    refine lv_bipush (v := (65 : Int32)) hx hb dX9_firstClass_12 (by decide) ?_
    refine lv_bipush (v := (90 : Int32)) hx hb dX9_firstClass_14 (by decide) ?_
    obtain ⟨v16, e16, hf⟩ := zb hf
    refine zc_p (va_runS (As := [.int p0, .int (65 : Int32), .int (90 : Int32)]) (rest := []) ⟨hx, hb, hml, hown, hts⟩ (k_X9_in l p0 (65 : Int32) (90 : Int32) v16 e16) (va_cwS 3 hts gX9_firstClass_X9_in rfl rfl rfl (by decide +kernel) ⟨Nat.le_of_ble_eq_true rfl, Nat.le_of_ble_eq_true rfl⟩) (zp_p _) rfl rfl hl.1 rfl (lv_room (Nat.le_of_ble_eq_true rfl)) dX9_firstClass_16 ⟨Nat.zero_le _, Nat.zero_le _⟩) ?_
    refine lv_if_eq (tgt := 24) hx hb dX9_firstClass_19 (by decide) (fun c19 => ?_) (fun c19 => ?_)
    · have hf := (if_pos c19).symm.trans hf
      refine lv_iload_n hx hb dX9_firstClass_24 rfl (lv_at hl 0 rfl) ?_
      refine lv_bipush (v := (48 : Int32)) hx hb dX9_firstClass_25 (by decide) ?_
      refine lv_bipush (v := (57 : Int32)) hx hb dX9_firstClass_27 (by decide) ?_
      obtain ⟨v29, e29, hf⟩ := zb hf
      refine zc_p (va_runS (As := [.int p0, .int (48 : Int32), .int (57 : Int32)]) (rest := []) ⟨hx, hb, hml, hown, hts⟩ (k_X9_in l p0 (48 : Int32) (57 : Int32) v29 e29) (va_cwS 3 hts gX9_firstClass_X9_in rfl rfl rfl (by decide +kernel) ⟨Nat.le_of_ble_eq_true rfl, Nat.le_of_ble_eq_true rfl⟩) (zp_p _) rfl rfl hl.1 rfl (lv_room (Nat.le_of_ble_eq_true rfl)) dX9_firstClass_29 ⟨Nat.zero_le _, Nat.zero_le _⟩) ?_
      refine lv_if_eq (tgt := 37) hx hb dX9_firstClass_32 (by decide) (fun c32 => ?_) (fun c32 => ?_)
      · have hf := (if_pos c32).symm.trans hf
        refine lv_iload_n hx hb dX9_firstClass_37 rfl (lv_at hl 0 rfl) ?_
        by_cases c38_32 : p0 = (32 : Int32)
        · have hf := (if_pos c38_32).symm.trans hf
          refine lv_lookup (off := 146) (tgt := 184) hx hb dX9_firstClass_38 (by decide) (by rw [c38_32]; decide) (by decide) ?_
          refine lv_iconst (v := (2 : Int32)) hx hb dX9_firstClass_184 (by decide) ?_
          exact zret_pi hx hb hr hlocks hf dX9_firstClass_185
        have hf := (if_neg c38_32).symm.trans hf
        by_cases c38_33 : p0 = (33 : Int32)
        · have hf := (if_pos c38_33).symm.trans hf
          refine lv_lookup (off := 152) (tgt := 190) hx hb dX9_firstClass_38 (by decide) (by rw [c38_33]; decide) (by decide) ?_
          refine lv_iconst (v := (5 : Int32)) hx hb dX9_firstClass_190 (by decide) ?_
          exact zret_pi hx hb hr hlocks hf dX9_firstClass_191
        have hf := (if_neg c38_33).symm.trans hf
        by_cases c38_34 : p0 = (34 : Int32)
        · have hf := (if_pos c38_34).symm.trans hf
          refine lv_lookup (off := 163) (tgt := 201) hx hb dX9_firstClass_38 (by decide) (by rw [c38_34]; decide) (by decide) ?_
          refine lv_bipush (v := (9 : Int32)) hx hb dX9_firstClass_201 (by decide) ?_
          exact zret_pi hx hb hr hlocks hf dX9_firstClass_203
        have hf := (if_neg c38_34).symm.trans hf
        by_cases c38_39 : p0 = (39 : Int32)
        · have hf := (if_pos c38_39).symm.trans hf
          refine lv_lookup (off := 154) (tgt := 192) hx hb dX9_firstClass_38 (by decide) (by rw [c38_39]; decide) (by decide) ?_
          refine lv_bipush (v := (6 : Int32)) hx hb dX9_firstClass_192 (by decide) ?_
          exact zret_pi hx hb hr hlocks hf dX9_firstClass_194
        have hf := (if_neg c38_39).symm.trans hf
        by_cases c38_40 : p0 = (40 : Int32)
        · have hf := (if_pos c38_40).symm.trans hf
          refine lv_lookup (off := 160) (tgt := 198) hx hb dX9_firstClass_38 (by decide) (by rw [c38_40]; decide) (by decide) ?_
          refine lv_bipush (v := (8 : Int32)) hx hb dX9_firstClass_198 (by decide) ?_
          exact zret_pi hx hb hr hlocks hf dX9_firstClass_200
        have hf := (if_neg c38_40).symm.trans hf
        by_cases c38_41 : p0 = (41 : Int32)
        · have hf := (if_pos c38_41).symm.trans hf
          refine lv_lookup (off := 163) (tgt := 201) hx hb dX9_firstClass_38 (by decide) (by rw [c38_41]; decide) (by decide) ?_
          refine lv_bipush (v := (9 : Int32)) hx hb dX9_firstClass_201 (by decide) ?_
          exact zret_pi hx hb hr hlocks hf dX9_firstClass_203
        have hf := (if_neg c38_41).symm.trans hf
        by_cases c38_44 : p0 = (44 : Int32)
        · have hf := (if_pos c38_44).symm.trans hf
          refine lv_lookup (off := 150) (tgt := 188) hx hb dX9_firstClass_38 (by decide) (by rw [c38_44]; decide) (by decide) ?_
          refine lv_iconst (v := (4 : Int32)) hx hb dX9_firstClass_188 (by decide) ?_
          exact zret_pi hx hb hr hlocks hf dX9_firstClass_189
        have hf := (if_neg c38_44).symm.trans hf
        by_cases c38_45 : p0 = (45 : Int32)
        · have hf := (if_pos c38_45).symm.trans hf
          refine lv_lookup (off := 157) (tgt := 195) hx hb dX9_firstClass_38 (by decide) (by rw [c38_45]; decide) (by decide) ?_
          refine lv_bipush (v := (7 : Int32)) hx hb dX9_firstClass_195 (by decide) ?_
          exact zret_pi hx hb hr hlocks hf dX9_firstClass_197
        have hf := (if_neg c38_45).symm.trans hf
        by_cases c38_46 : p0 = (46 : Int32)
        · have hf := (if_pos c38_46).symm.trans hf
          refine lv_lookup (off := 148) (tgt := 186) hx hb dX9_firstClass_38 (by decide) (by rw [c38_46]; decide) (by decide) ?_
          refine lv_iconst (v := (3 : Int32)) hx hb dX9_firstClass_186 (by decide) ?_
          exact zret_pi hx hb hr hlocks hf dX9_firstClass_187
        have hf := (if_neg c38_46).symm.trans hf
        by_cases c38_58 : p0 = (58 : Int32)
        · have hf := (if_pos c38_58).symm.trans hf
          refine lv_lookup (off := 150) (tgt := 188) hx hb dX9_firstClass_38 (by decide) (by rw [c38_58]; decide) (by decide) ?_
          refine lv_iconst (v := (4 : Int32)) hx hb dX9_firstClass_188 (by decide) ?_
          exact zret_pi hx hb hr hlocks hf dX9_firstClass_189
        have hf := (if_neg c38_58).symm.trans hf
        by_cases c38_59 : p0 = (59 : Int32)
        · have hf := (if_pos c38_59).symm.trans hf
          refine lv_lookup (off := 150) (tgt := 188) hx hb dX9_firstClass_38 (by decide) (by rw [c38_59]; decide) (by decide) ?_
          refine lv_iconst (v := (4 : Int32)) hx hb dX9_firstClass_188 (by decide) ?_
          exact zret_pi hx hb hr hlocks hf dX9_firstClass_189
        have hf := (if_neg c38_59).symm.trans hf
        by_cases c38_63 : p0 = (63 : Int32)
        · have hf := (if_pos c38_63).symm.trans hf
          refine lv_lookup (off := 152) (tgt := 190) hx hb dX9_firstClass_38 (by decide) (by rw [c38_63]; decide) (by decide) ?_
          refine lv_iconst (v := (5 : Int32)) hx hb dX9_firstClass_190 (by decide) ?_
          exact zret_pi hx hb hr hlocks hf dX9_firstClass_191
        have hf := (if_neg c38_63).symm.trans hf
        by_cases c38_91 : p0 = (91 : Int32)
        · have hf := (if_pos c38_91).symm.trans hf
          refine lv_lookup (off := 160) (tgt := 198) hx hb dX9_firstClass_38 (by decide) (by rw [c38_91]; decide) (by decide) ?_
          refine lv_bipush (v := (8 : Int32)) hx hb dX9_firstClass_198 (by decide) ?_
          exact zret_pi hx hb hr hlocks hf dX9_firstClass_200
        have hf := (if_neg c38_91).symm.trans hf
        by_cases c38_93 : p0 = (93 : Int32)
        · have hf := (if_pos c38_93).symm.trans hf
          refine lv_lookup (off := 163) (tgt := 201) hx hb dX9_firstClass_38 (by decide) (by rw [c38_93]; decide) (by decide) ?_
          refine lv_bipush (v := (9 : Int32)) hx hb dX9_firstClass_201 (by decide) ?_
          exact zret_pi hx hb hr hlocks hf dX9_firstClass_203
        have hf := (if_neg c38_93).symm.trans hf
        by_cases c38_94 : p0 = (94 : Int32)
        · have hf := (if_pos c38_94).symm.trans hf
          refine lv_lookup (off := 166) (tgt := 204) hx hb dX9_firstClass_38 (by decide) (by rw [c38_94]; decide) (by decide) ?_
          refine lv_bipush (v := (10 : Int32)) hx hb dX9_firstClass_204 (by decide) ?_
          exact zret_pi hx hb hr hlocks hf dX9_firstClass_206
        have hf := (if_neg c38_94).symm.trans hf
        by_cases c38_96 : p0 = (96 : Int32)
        · have hf := (if_pos c38_96).symm.trans hf
          refine lv_lookup (off := 166) (tgt := 204) hx hb dX9_firstClass_38 (by decide) (by rw [c38_96]; decide) (by decide) ?_
          refine lv_bipush (v := (10 : Int32)) hx hb dX9_firstClass_204 (by decide) ?_
          exact zret_pi hx hb hr hlocks hf dX9_firstClass_206
        have hf := (if_neg c38_96).symm.trans hf
        by_cases c38_126 : p0 = (126 : Int32)
        · have hf := (if_pos c38_126).symm.trans hf
          refine lv_lookup (off := 166) (tgt := 204) hx hb dX9_firstClass_38 (by decide) (by rw [c38_126]; decide) (by decide) ?_
          refine lv_bipush (v := (10 : Int32)) hx hb dX9_firstClass_204 (by decide) ?_
          exact zret_pi hx hb hr hlocks hf dX9_firstClass_206
        have hf := (if_neg c38_126).symm.trans hf
        refine lv_lookup (off := 169) (tgt := 207) hx hb dX9_firstClass_38 (by decide) (by show Op.lookupswitch.offset [(32, 146), (33, 152), (34, 163), (39, 154), (40, 160), (41, 163), (44, 150), (45, 157), (46, 148), (58, 150), (59, 150), (63, 152), (91, 160), (93, 163), (94, 166), (96, 166), (126, 166)] 169 _ = _; rw [lv_osw (k := 32) c38_32 (by decide), lv_osw (k := 33) c38_33 (by decide), lv_osw (k := 34) c38_34 (by decide), lv_osw (k := 39) c38_39 (by decide), lv_osw (k := 40) c38_40 (by decide), lv_osw (k := 41) c38_41 (by decide), lv_osw (k := 44) c38_44 (by decide), lv_osw (k := 45) c38_45 (by decide), lv_osw (k := 46) c38_46 (by decide), lv_osw (k := 58) c38_58 (by decide), lv_osw (k := 59) c38_59 (by decide), lv_osw (k := 63) c38_63 (by decide), lv_osw (k := 91) c38_91 (by decide), lv_osw (k := 93) c38_93 (by decide), lv_osw (k := 94) c38_94 (by decide), lv_osw (k := 96) c38_96 (by decide), lv_osw (k := 126) c38_126 (by decide)]; rfl) (by decide) ?_
        refine lv_bipush (v := (11 : Int32)) hx hb dX9_firstClass_207 (by decide) ?_
        exact zret_pi hx hb hr hlocks hf dX9_firstClass_209
      · have hf := (if_neg c32).symm.trans hf
        refine lv_iconst (v := (1 : Int32)) hx hb dX9_firstClass_35 (by decide) ?_
        exact zret_pi hx hb hr hlocks hf dX9_firstClass_36
    · have hf := (if_neg c19).symm.trans hf
      refine lv_iconst (v := (0 : Int32)) hx hb dX9_firstClass_22 (by decide) ?_
      exact zret_pi hx hb hr hlocks hf dX9_firstClass_23
