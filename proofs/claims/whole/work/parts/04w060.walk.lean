theorem hi_X9_insert_9 : ∀ w ∈ wsX90, w ∈ wsX9_insert := fun _ h => List.mem_cons_of_mem _ (List.mem_append_right _ h)
set_option maxHeartbeats 4000000 in
set_option maxRecDepth 100000 in
theorem k_X9_insert (l : Launch) (D : va_G) (cy : Nat → ClassId) (b : Nat) (M0 : Mem) (p0 : Nat) (p1 : Int32) (p2 : Int32) (rr : Int32 × Mem) (hf : fX9_insert M0 p0 p1 p2 = some rr) : Met l yX9_insert wsX9_insert ({ frames := 7, cells := 0, slots := 0, locals := 176 } : Room) (zPc D cy b M0 [.ref (b + p0), .int p1, .int p2]) (zQi D cy b rr) 0 0 (zA b) := by
  refine Met.ofW (cc := cX9_insert) (maxL := 3) (ret := (some .int)) (by decide) rfl ?_
  intro p e s m args below meth c s₁ B hml hv
  obtain ⟨rfl, hP, hK⟩ := hv
  have hx := B.exec
  have hb := B.bytes
  have hr := B.returns
  have hts := atoms_spec (ws := wsX9_insert) B.pre
  have hown : s.vm.findClass RX9 = some m.cls := findClass_of_methodNamed B.named
  have hlocks := B.notSynchronized
  have hS : va_S (zA b) s.heap s.heap [] := va_S.rf
  have hl := lv_entry ([.ref (b + p0), .int p1, .int p2]) (n := 3) (Nat.le_of_ble_eq_true rfl)
  rw [lg_entry_eq]
  generalize (lg_sl ([.ref (b + p0), .int p1, .int p2]) ++ List.replicate (3 - (lg_sl ([.ref (b + p0), .int p1, .int p2])).length) Slot.unset).toArray = ls at hl ⊢
  have hl : lv_has ls 3 [(0, .ref (b + p0)), (1, .int p1), (2, .int p2)] := hl
  unfold fX9_insert at hf
  refine lv_aload_n hx hb dX9_insert_0 rfl (lv_at hl 0 rfl) ?_
  refine lv_iload_n hx hb dX9_insert_1 rfl (lv_at hl 1 rfl) ?_
  obtain ⟨u2, t2, hf⟩ := zb hf
  obtain ⟨r2, e2, hf⟩ := zb hf
  refine zc_i hS (va_runV (As := [.int p1]) (rest := []) ⟨hx, hb, hml, hown, hts⟩ (k_X9_noPosition l D cy b M0 p0 p1 r2 e2) (cwV 1 hts gX9_insert_X9_noPosition rfl rfl rfl (by decide +kernel) ⟨Nat.le_of_ble_eq_true rfl, Nat.le_of_ble_eq_true rfl⟩) (zp_V _ hK hP t2 (T := TX9) (N := 54) rfl (by decide)) rfl rfl hl.1 rfl (lv_room (Nat.le_of_ble_eq_true rfl)) dX9_insert_2 ⟨Nat.zero_le _, Nat.zero_le _⟩) (fun H locs hP hS => ?_)
  refine lv_if_eq (tgt := 10) hx hb dX9_insert_5 (by decide) (fun c5 => ?_) (fun c5 => ?_)
  · have hf := (if_pos c5).symm.trans hf
    refine lv_iload_n hx hb dX9_insert_10 rfl (lv_at hl 2 rfl) ?_
    refine lv_bipush (v := (32 : Int32)) hx hb dX9_insert_11 (by decide) ?_
    refine lv_bipush (v := (126 : Int32)) hx hb dX9_insert_13 (by decide) ?_
    obtain ⟨v15, e15, hf⟩ := zb hf
    refine zc_p (va_runS (As := [.int p2, .int (32 : Int32), .int (126 : Int32)]) (rest := []) ⟨hx, hb, hml, hown, hts⟩ (k_X9_in l p2 (32 : Int32) (126 : Int32) v15 e15) (va_cwS 3 hts gX9_insert_X9_in rfl rfl rfl (by decide +kernel) ⟨Nat.le_of_ble_eq_true rfl, Nat.le_of_ble_eq_true rfl⟩) (zp_p _) rfl rfl hl.1 rfl (lv_room (Nat.le_of_ble_eq_true rfl)) dX9_insert_15 ⟨Nat.zero_le _, Nat.zero_le _⟩) ?_
    refine lv_if_ne (tgt := 24) hx hb dX9_insert_18 (by decide) (fun c18 => ?_) (fun c18 => ?_)
    · have hf := (if_neg c18).symm.trans hf
      refine lv_aload_n hx hb dX9_insert_24 rfl (lv_at hl 0 rfl) ?_
      obtain ⟨v25, e25, hf⟩ := zb hf
      refine zr_gi (ci := 9) (k := 31) (C := RX9) (T := TX9) (N := 54) hx hb hts hi_X9_insert_9 hown hK hP e25 rfl rfl (by decide) (by decide) (hts (.fieldLink RX9 207 "BoundaryAnalyzerModel" "length" "I") (List.mem_of_getElem? (i := 1) rfl)) dX9_insert_25 ?_
      refine lv_bipush (v := (100 : Int32)) hx hb dX9_insert_28 (by decide) ?_
      refine lv_icmp_ne (tgt := 36) hx hb dX9_insert_30 (by decide) (fun c30 => ?_) (fun c30 => ?_)
      · have hf := (if_neg c30).symm.trans hf
        refine lv_aload_n hx hb dX9_insert_36 rfl (lv_at hl 0 rfl) ?_
        obtain ⟨v37, e37, hf⟩ := zb hf
        refine zr_gr (ci := 9) (k := 38) (C := RX9) (T := TX9) (N := 54) hx hb hts hi_X9_insert_9 hown hK hP e37 rfl rfl (by decide) (by decide) (hts (.fieldLink RX9 96 "BoundaryAnalyzerModel" "editText" "[C") (List.mem_of_getElem? (i := 2) rfl)) dX9_insert_37 ?_
        refine lv_iconst (v := (0 : Int32)) hx hb dX9_insert_40 (by decide) ?_
        refine lv_iload_n hx hb dX9_insert_41 rfl (lv_at hl 2 rfl) ?_
        obtain ⟨M42, e42, hf⟩ := zb hf
        refine zr_sc hx hb hK hP hS e42 dX9_insert_42 (fun H locs hP _ hS => ?_)
        refine lv_aload_n hx hb dX9_insert_43 rfl (lv_at hl 0 rfl) ?_
        refine lv_iconst (v := (1 : Int32)) hx hb dX9_insert_44 (by decide) ?_
        refine lv_iload_n hx hb dX9_insert_45 rfl (lv_at hl 1 rfl) ?_
        refine lv_iconst (v := (1 : Int32)) hx hb dX9_insert_46 (by decide) ?_
        obtain ⟨u47, t47, hf⟩ := zb hf
        obtain ⟨M47, e47, hf⟩ := zb hf
        refine zc_v hS (va_runV (As := [.int (1 : Int32), .int p1, .int (1 : Int32)]) (rest := []) ⟨hx, hb, hml, hown, hts⟩ (k_X9_remember l D cy b M42 p0 (1 : Int32) p1 (1 : Int32) M47 e47) (cwV 3 hts gX9_insert_X9_remember rfl rfl rfl (by decide +kernel) ⟨Nat.le_of_ble_eq_true rfl, Nat.le_of_ble_eq_true rfl⟩) (zp_V _ hK hP t47 (T := TX9) (N := 54) rfl (by decide)) rfl rfl hl.1 rfl (lv_room (Nat.le_of_ble_eq_true rfl)) dX9_insert_47 ⟨Nat.zero_le _, Nat.zero_le _⟩) (fun H locs hP hS => ?_)
        refine lv_aload_n hx hb dX9_insert_50 rfl (lv_at hl 0 rfl) ?_
        refine lv_iconst (v := (0 : Int32)) hx hb dX9_insert_51 (by decide) ?_
        obtain ⟨M52, e52, hf⟩ := zb hf
        refine zr_pi (ci := 9) (k := 44) (C := RX9) (T := TX9) (N := 54) hx hb hts hi_X9_insert_9 tyX9 tyX9_ok nmX9 hown hK hP hS e52 rfl rfl (by decide) (by decide) (hts (.fieldLink RX9 267 "BoundaryAnalyzerModel" "redoMany" "I") (List.mem_of_getElem? (i := 3) rfl)) rfl (tyX9_ok 44 (by decide)) dX9_insert_52 (fun H locs hP _ hS => ?_)
        refine lv_aload_n hx hb dX9_insert_55 rfl (lv_at hl 0 rfl) ?_
        refine lv_iload_n hx hb dX9_insert_56 rfl (lv_at hl 1 rfl) ?_
        refine lv_iconst (v := (1 : Int32)) hx hb dX9_insert_57 (by decide) ?_
        obtain ⟨u58, t58, hf⟩ := zb hf
        obtain ⟨M58, e58, hf⟩ := zb hf
        refine zc_v hS (va_runV (As := [.int p1, .int (1 : Int32)]) (rest := []) ⟨hx, hb, hml, hown, hts⟩ (k_X9_putIn l D cy b M52 p0 p1 (1 : Int32) M58 e58) (cwV 2 hts gX9_insert_X9_putIn rfl rfl rfl (by decide +kernel) ⟨Nat.le_of_ble_eq_true rfl, Nat.le_of_ble_eq_true rfl⟩) (zp_V _ hK hP t58 (T := TX9) (N := 54) rfl (by decide)) rfl rfl hl.1 rfl (lv_room (Nat.le_of_ble_eq_true rfl)) dX9_insert_58 ⟨Nat.zero_le _, Nat.zero_le _⟩) (fun H locs hP hS => ?_)
        refine lv_aload_n hx hb dX9_insert_61 rfl (lv_at hl 0 rfl) ?_
        obtain ⟨v62, e62, hf⟩ := zb hf
        refine zr_gi (ci := 9) (k := 31) (C := RX9) (T := TX9) (N := 54) hx hb hts hi_X9_insert_9 hown hK hP e62 rfl rfl (by decide) (by decide) (hts (.fieldLink RX9 207 "BoundaryAnalyzerModel" "length" "I") (List.mem_of_getElem? (i := 1) rfl)) dX9_insert_62 ?_
        exact zret_i hx hb hr hlocks hf hP hS dX9_insert_65
      · have hf := (if_pos c30).symm.trans hf
        refine lv_bipush (v := (-3 : Int32)) hx hb dX9_insert_33 (by decide) ?_
        exact zret_i hx hb hr hlocks hf hP hS dX9_insert_35
    · have hf := (if_pos c18).symm.trans hf
      refine lv_bipush (v := (-2 : Int32)) hx hb dX9_insert_21 (by decide) ?_
      exact zret_i hx hb hr hlocks hf hP hS dX9_insert_23
  · have hf := (if_neg c5).symm.trans hf
    refine lv_iconst (v := (-1 : Int32)) hx hb dX9_insert_8 (by decide) ?_
    exact zret_i hx hb hr hlocks hf hP hS dX9_insert_9
