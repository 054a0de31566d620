theorem hi_X9_next_9 : ∀ w ∈ wsX90, w ∈ wsX9_next := fun _ h => List.mem_cons_of_mem _ (List.mem_append_right _ h)
set_option maxHeartbeats 4000000 in
set_option maxRecDepth 100000 in
theorem k_X9_next (l : Launch) (D : va_G) (cy : Nat → ClassId) (b : Nat) (M0 : Mem) (p0 : Nat) (p1 : Int32) (p2 : Int32) (rr : Int32 × Mem) (hf : fX9_next M0 p0 p1 p2 = some rr) : Met l yX9_next wsX9_next ({ frames := 3, cells := 0, slots := 0, locals := 65 } : Room) (zPc D cy b M0 [.ref (b + p0), .int p1, .int p2]) (zQi D cy b rr) 0 0 (zA b) := by
  refine Met.ofW (cc := cX9_next) (maxL := 5) (ret := (some .int)) (by decide) rfl ?_
  intro p e s m args below meth c s₁ B hml hv
  obtain ⟨rfl, hP, hK⟩ := hv
  have hx := B.exec
  have hb := B.bytes
  have hr := B.returns
  have hts := atoms_spec (ws := wsX9_next) B.pre
  have hown : s.vm.findClass RX9 = some m.cls := findClass_of_methodNamed B.named
  have hlocks := B.notSynchronized
  have hS : va_S (zA b) s.heap s.heap [] := va_S.rf
  have hl := lv_entry ([.ref (b + p0), .int p1, .int p2]) (n := 5) (Nat.le_of_ble_eq_true rfl)
  rw [lg_entry_eq]
  generalize (lg_sl ([.ref (b + p0), .int p1, .int p2]) ++ List.replicate (5 - (lg_sl ([.ref (b + p0), .int p1, .int p2])).length) Slot.unset).toArray = ls at hl ⊢
  have hl : lv_has ls 5 [(0, .ref (b + p0)), (1, .int p1), (2, .int p2)] := hl
  have L16 : ∀ (n16 : Nat) (M : Mem) (H : Heap) (locs : List Loc) (ls : Array Slot) (h0 : Nat) (x1 : Int32) (x2 : Int32) (x4 : Int32), fX9_next_16L  n16 M h0 x1 x2 x4 = some rr → zH D cy b M H → va_S (zA b) s.heap H locs → lv_has ls 5 [(0, .ref (b + h0)), (1, .int x1), (2, .int x2), (4, .int x4)] → W p l e (headSpec wsX9_next ({ frames := 3, cells := 0, slots := 0, locals := 65 } : Room)).room s m ([.ref (b + p0), .int p1, .int p2] : List Value).toArray below meth c H locs 0 0 (MQ below (zQi D cy b rr) ([.ref (b + p0), .int p1, .int p2] : List Value).toArray s 0 0 (zA b)) (F0 m 16 ls []) := by
    intro n16
    induction n16 with
    | zero =>
      intro M H locs ls h0 x1 x2 x4 hf
      have hf : (none : Option (Int32 × Mem)) = some rr := hf
      cases hf
    | succ n16 ih16 =>
      have J61 : ∀ (M : Mem) (H : Heap) (locs : List Loc) (ls : Array Slot) (h0 : Nat) (x1 : Int32) (x2 : Int32) (x4 : Int32), fX9_next_61 (fX9_next_16L  n16) M h0 x1 x2 x4 = some rr → zH D cy b M H → va_S (zA b) s.heap H locs → lv_has ls 5 [(0, .ref (b + h0)), (1, .int x1), (2, .int x2), (4, .int x4)] → W p l e (headSpec wsX9_next ({ frames := 3, cells := 0, slots := 0, locals := 65 } : Room)).room s m ([.ref (b + p0), .int p1, .int p2] : List Value).toArray below meth c H locs 0 0 (MQ below (zQi D cy b rr) ([.ref (b + p0), .int p1, .int p2] : List Value).toArray s 0 0 (zA b)) (F0 m 61 ls []) := by
        intro M H locs ls h0 x1 x2 x4 hf hP hS hl
        unfold fX9_next_61 at hf
        obtain ⟨x4_61, q61, hf⟩ := zlt_s hf
        refine lv_iinc (v := x4_61) (lv' := [(4, .int x4_61), (0, .ref (b + h0)), (1, .int x1), (2, .int x2)]) hx hb dX9_next_61 hl (k := 3) rfl (by rw [← q61]; rfl) (by decide) rfl (fun ls hl => ?_)
        refine lv_goto (tgt := 16) hx hb dX9_next_64 (by decide) ?_
        exact ih16 _ _ _ _ _ _ _ _ hf hP hS (lv_sub hl [1, 2, 3, 0] rfl)
      intro M H locs ls h0 x1 x2 x4 hf hP hS hl
      have hf : fX9_next_16  (fX9_next_16L  n16) M h0 x1 x2 x4 = some rr := hf
      unfold fX9_next_16 at hf
      refine lv_iload hx hb dX9_next_16 (lv_at hl 3 rfl) ?_
      refine lv_aload_n hx hb dX9_next_18 rfl (lv_at hl 0 rfl) ?_
      obtain ⟨v19, e19, hf⟩ := zb hf
      refine zr_gr (ci := 9) (k := 33) (C := RX9) (T := TX9) (N := 54) hx hb hts hi_X9_next_9 hown hK hP e19 rfl rfl (by decide) (by decide) (hts (.fieldLink RX9 81 "BoundaryAnalyzerModel" "rawMany" "[I") (List.mem_of_getElem? (i := 1) rfl)) dX9_next_19 ?_
      refine lv_iload_n hx hb dX9_next_22 rfl (lv_at hl 1 rfl) ?_
      obtain ⟨v23, e23, hf⟩ := zb hf
      refine zr_ai hx hb hK hP e23 dX9_next_23 ?_
      refine lv_icmp_ge (tgt := 67) hx hb dX9_next_24 (by decide) (fun c24 => ?_) (fun c24 => ?_)
      · have hf := (if_pos c24).symm.trans hf
        refine lv_bipush (v := (-5 : Int32)) hx hb dX9_next_67 (by decide) ?_
        exact zret_i hx hb hr hlocks hf hP hS dX9_next_69
      · have hf := (if_neg c24).symm.trans hf
        refine lv_aload_n hx hb dX9_next_27 rfl (lv_at hl 0 rfl) ?_
        refine lv_iload_n hx hb dX9_next_28 rfl (lv_at hl 1 rfl) ?_
        refine lv_iload hx hb dX9_next_29 (lv_at hl 3 rfl) ?_
        obtain ⟨u31, t31, hf⟩ := zb hf
        obtain ⟨r31, e31, hf⟩ := zb hf
        refine zc_i hS (va_runV (As := [.int x1, .int x4]) (rest := []) ⟨hx, hb, hml, hown, hts⟩ (k_X9_raw l D cy b M h0 x1 x4 r31 e31) (cwV 2 hts gX9_next_X9_raw rfl rfl rfl (by decide +kernel) ⟨Nat.le_of_ble_eq_true rfl, Nat.le_of_ble_eq_true rfl⟩) (zp_V _ hK hP t31 (T := TX9) (N := 54) rfl (by decide)) rfl rfl hl.1 rfl (lv_room (Nat.le_of_ble_eq_true rfl)) dX9_next_31 ⟨Nat.zero_le _, Nat.zero_le _⟩) (fun H locs hP hS => ?_)
        refine lv_iload_n hx hb dX9_next_34 rfl (lv_at hl 2 rfl) ?_
        refine lv_icmp_le (tgt := 61) hx hb dX9_next_35 (by decide) (fun c35 => ?_) (fun c35 => ?_)
        · have hf := (if_pos c35).symm.trans hf
          exact J61 _ _ _ _ _ _ _ _ hf hP hS (lv_sub hl [0, 1, 2, 3] rfl)
        · have hf := (if_neg c35).symm.trans hf
          refine lv_aload_n hx hb dX9_next_38 rfl (lv_at hl 0 rfl) ?_
          refine lv_iload_n hx hb dX9_next_39 rfl (lv_at hl 1 rfl) ?_
          refine lv_aload_n hx hb dX9_next_40 rfl (lv_at hl 0 rfl) ?_
          refine lv_iload_n hx hb dX9_next_41 rfl (lv_at hl 1 rfl) ?_
          refine lv_iload hx hb dX9_next_42 (lv_at hl 3 rfl) ?_
          obtain ⟨u44, t44, hf⟩ := zb hf
          obtain ⟨r44, e44, hf⟩ := zb hf
          refine zc_i hS (va_runV (As := [.int x1, .int x4]) (rest := [.int x1, .ref (b + h0)]) ⟨hx, hb, hml, hown, hts⟩ (k_X9_raw l D cy b r31.2 h0 x1 x4 r44 e44) (cwV 2 hts gX9_next_X9_raw rfl rfl rfl (by decide +kernel) ⟨Nat.le_of_ble_eq_true rfl, Nat.le_of_ble_eq_true rfl⟩) (zp_V _ hK hP t44 (T := TX9) (N := 54) rfl (by decide)) rfl rfl hl.1 rfl (lv_room (Nat.le_of_ble_eq_true rfl)) dX9_next_44 ⟨Nat.zero_le _, Nat.zero_le _⟩) (fun H locs hP hS => ?_)
          obtain ⟨u47, t47, hf⟩ := zb hf
          obtain ⟨r47, e47, hf⟩ := zb hf
          refine zc_i hS (va_runV (As := [.int x1, .int r44.1]) (rest := []) ⟨hx, hb, hml, hown, hts⟩ (k_X9_isSuppressed l D cy b r44.2 h0 x1 r44.1 r47 e47) (cwV 2 hts gX9_next_X9_isSuppressed rfl rfl rfl (by decide +kernel) ⟨Nat.le_of_ble_eq_true rfl, Nat.le_of_ble_eq_true rfl⟩) (zp_V _ hK hP t47 (T := TX9) (N := 54) rfl (by decide)) rfl rfl hl.1 rfl (lv_room (Nat.le_of_ble_eq_true rfl)) dX9_next_47 ⟨Nat.zero_le _, Nat.zero_le _⟩) (fun H locs hP hS => ?_)
          refine lv_if_ne (tgt := 61) hx hb dX9_next_50 (by decide) (fun c50 => ?_) (fun c50 => ?_)
          · have hf := (if_neg c50).symm.trans hf
            exact J61 _ _ _ _ _ _ _ _ hf hP hS (lv_sub hl [0, 1, 2, 3] rfl)
          · have hf := (if_pos c50).symm.trans hf
            refine lv_aload_n hx hb dX9_next_53 rfl (lv_at hl 0 rfl) ?_
            refine lv_iload_n hx hb dX9_next_54 rfl (lv_at hl 1 rfl) ?_
            refine lv_iload hx hb dX9_next_55 (lv_at hl 3 rfl) ?_
            obtain ⟨u57, t57, hf⟩ := zb hf
            obtain ⟨r57, e57, hf⟩ := zb hf
            refine zc_i hS (va_runV (As := [.int x1, .int x4]) (rest := []) ⟨hx, hb, hml, hown, hts⟩ (k_X9_raw l D cy b r47.2 h0 x1 x4 r57 e57) (cwV 2 hts gX9_next_X9_raw rfl rfl rfl (by decide +kernel) ⟨Nat.le_of_ble_eq_true rfl, Nat.le_of_ble_eq_true rfl⟩) (zp_V _ hK hP t57 (T := TX9) (N := 54) rfl (by decide)) rfl rfl hl.1 rfl (lv_room (Nat.le_of_ble_eq_true rfl)) dX9_next_57 ⟨Nat.zero_le _, Nat.zero_le _⟩) (fun H locs hP hS => ?_)
            exact zret_i hx hb hr hlocks hf hP hS dX9_next_60
  unfold fX9_next at hf
  refine lv_aload_n hx hb dX9_next_0 rfl (lv_at hl 0 rfl) ?_
  refine lv_iload_n hx hb dX9_next_1 rfl (lv_at hl 1 rfl) ?_
  refine lv_iload_n hx hb dX9_next_2 rfl (lv_at hl 2 rfl) ?_
  obtain ⟨u3, t3, hf⟩ := zb hf
  obtain ⟨r3, e3, hf⟩ := zb hf
  refine zc_i hS (va_runV (As := [.int p1, .int p2]) (rest := []) ⟨hx, hb, hml, hown, hts⟩ (k_X9_barred l D cy b M0 p0 p1 p2 r3 e3) (cwV 2 hts gX9_next_X9_barred rfl rfl rfl (by decide +kernel) ⟨Nat.le_of_ble_eq_true rfl, Nat.le_of_ble_eq_true rfl⟩) (zp_V _ hK hP t3 (T := TX9) (N := 54) rfl (by decide)) rfl rfl hl.1 rfl (lv_room (Nat.le_of_ble_eq_true rfl)) dX9_next_3 ⟨Nat.zero_le _, Nat.zero_le _⟩) (fun H locs hP hS => ?_)
  refine lv_istore_n (lv' := [(3, .int r3.1), (0, .ref (b + p0)), (1, .int p1), (2, .int p2)]) hx hb dX9_next_6 rfl hl (by decide) rfl (fun ls hl => ?_)
  refine lv_iload_n hx hb dX9_next_7 rfl (lv_at hl 0 rfl) ?_
  refine lv_if_ge (tgt := 13) hx hb dX9_next_8 (by decide) (fun c8 => ?_) (fun c8 => ?_)
  · have hf := (if_pos c8).symm.trans hf
    refine lv_iconst (v := (0 : Int32)) hx hb dX9_next_13 (by decide) ?_
    refine lv_istore (lv' := [(4, .int (0 : Int32)), (3, .int r3.1), (0, .ref (b + p0)), (1, .int p1), (2, .int p2)]) hx hb dX9_next_14 hl (by decide) rfl (fun ls hl => ?_)
    exact L16 _ _ _ _ _ _ _ _ _ hf hP hS (lv_sub hl [2, 3, 4, 0] rfl)
  · have hf := (if_neg c8).symm.trans hf
    refine lv_iload_n hx hb dX9_next_11 rfl (lv_at hl 0 rfl) ?_
    exact zret_i hx hb hr hlocks hf hP hS dX9_next_12
