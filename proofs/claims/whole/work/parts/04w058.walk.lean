theorem hi_X9_takeOut_9 : ∀ w ∈ wsX90, w ∈ wsX9_takeOut := fun _ h => List.mem_cons_of_mem _ (List.mem_append_right _ h)
set_option maxHeartbeats 4000000 in
set_option maxRecDepth 100000 in
theorem k_X9_takeOut (l : Launch) (D : va_G) (cy : Nat → ClassId) (b : Nat) (M0 : Mem) (p0 : Nat) (p1 : Int32) (p2 : Int32) (rr : Mem) (hf : fX9_takeOut M0 p0 p1 p2 = some rr) : Met l yX9_takeOut wsX9_takeOut ({ frames := 6, cells := 0, slots := 0, locals := 153 } : Room) (zPc D cy b M0 [.ref (b + p0), .int p1, .int p2]) (zQv D cy b rr) 0 0 (zA b) := by
  refine Met.ofW (cc := cX9_takeOut) (maxL := 4) (ret := none) (by decide) rfl ?_
  intro p e s m args below meth c s₁ B hml hv
  obtain ⟨rfl, hP, hK⟩ := hv
  have hx := B.exec
  have hb := B.bytes
  have hr := B.returns
  have hts := atoms_spec (ws := wsX9_takeOut) B.pre
  have hown : s.vm.findClass RX9 = some m.cls := findClass_of_methodNamed B.named
  have hlocks := B.notSynchronized
  have hS : va_S (zA b) s.heap s.heap [] := va_S.rf
  have hl := lv_entry ([.ref (b + p0), .int p1, .int p2]) (n := 4) (Nat.le_of_ble_eq_true rfl)
  rw [lg_entry_eq]
  generalize (lg_sl ([.ref (b + p0), .int p1, .int p2]) ++ List.replicate (4 - (lg_sl ([.ref (b + p0), .int p1, .int p2])).length) Slot.unset).toArray = ls at hl ⊢
  have hl : lv_has ls 4 [(0, .ref (b + p0)), (1, .int p1), (2, .int p2)] := hl
  have L17 : ∀ (n17 : Nat) (M : Mem) (H : Heap) (locs : List Loc) (ls : Array Slot) (h0 : Nat) (x1 : Int32) (x2 : Int32) (x3 : Int32), fX9_takeOut_17L  n17 M h0 x1 x2 x3 = some rr → zH D cy b M H → va_S (zA b) s.heap H locs → lv_has ls 4 [(0, .ref (b + h0)), (1, .int x1), (2, .int x2), (3, .int x3)] → W p l e (headSpec wsX9_takeOut ({ frames := 6, cells := 0, slots := 0, locals := 153 } : Room)).room s m ([.ref (b + p0), .int p1, .int p2] : List Value).toArray below meth c H locs 0 0 (MQ below (zQv D cy b rr) ([.ref (b + p0), .int p1, .int p2] : List Value).toArray s 0 0 (zA b)) (F0 m 17 ls []) := by
    intro n17
    induction n17 with
    | zero =>
      intro M H locs ls h0 x1 x2 x3 hf
      have hf : (none : Option Mem) = some rr := hf
      cases hf
    | succ n17 ih17 =>
      intro M H locs ls h0 x1 x2 x3 hf hP hS hl
      have hf : fX9_takeOut_17  (fX9_takeOut_17L  n17) M h0 x1 x2 x3 = some rr := hf
      unfold fX9_takeOut_17 at hf
      refine lv_iload_n hx hb dX9_takeOut_17 rfl (lv_at hl 3 rfl) ?_
      refine lv_aload_n hx hb dX9_takeOut_18 rfl (lv_at hl 0 rfl) ?_
      obtain ⟨v19, e19, hf⟩ := zb hf
      refine zr_gi (ci := 9) (k := 31) (C := RX9) (T := TX9) (N := 54) hx hb hts hi_X9_takeOut_9 hown hK hP e19 rfl rfl (by decide) (by decide) (hts (.fieldLink RX9 207 "BoundaryAnalyzerModel" "length" "I") (List.mem_of_getElem? (i := 1) rfl)) dX9_takeOut_19 ?_
      refine lv_icmp_ge (tgt := 45) hx hb dX9_takeOut_22 (by decide) (fun c22 => ?_) (fun c22 => ?_)
      · have hf := (if_pos c22).symm.trans hf
        refine lv_aload_n hx hb dX9_takeOut_45 rfl (lv_at hl 0 rfl) ?_
        refine lv_iload_n hx hb dX9_takeOut_46 rfl (lv_at hl 1 rfl) ?_
        refine lv_iload_n hx hb dX9_takeOut_47 rfl (lv_at hl 2 rfl) ?_
        refine lv_ineg hx hb dX9_takeOut_48 ?_
        obtain ⟨u49, t49, hf⟩ := zb hf
        obtain ⟨M49, e49, hf⟩ := zb hf
        refine zc_v hS (va_runV (As := [.int x1, .int (-x2)]) (rest := []) ⟨hx, hb, hml, hown, hts⟩ (k_X9_repairAll l D cy b M h0 x1 (-x2) M49 e49) (cwV 2 hts gX9_takeOut_X9_repairAll rfl rfl rfl (by decide +kernel) ⟨Nat.le_of_ble_eq_true rfl, Nat.le_of_ble_eq_true rfl⟩) (zp_V _ hK hP t49 (T := TX9) (N := 54) rfl (by decide)) rfl rfl hl.1 rfl (lv_room (Nat.le_of_ble_eq_true rfl)) dX9_takeOut_49 ⟨Nat.zero_le _, Nat.zero_le _⟩) (fun H locs hP hS => ?_)
        exact zret_v hx hb hr hlocks hf hP hS dX9_takeOut_52
      · have hf := (if_neg c22).symm.trans hf
        refine lv_aload_n hx hb dX9_takeOut_25 rfl (lv_at hl 0 rfl) ?_
        obtain ⟨v26, e26, hf⟩ := zb hf
        refine zr_gr (ci := 9) (k := 32) (C := RX9) (T := TX9) (N := 54) hx hb hts hi_X9_takeOut_9 hown hK hP e26 rfl rfl (by decide) (by decide) (hts (.fieldLink RX9 78 "BoundaryAnalyzerModel" "text" "[C") (List.mem_of_getElem? (i := 2) rfl)) dX9_takeOut_26 ?_
        refine lv_iload_n hx hb dX9_takeOut_29 rfl (lv_at hl 3 rfl) ?_
        refine lv_aload_n hx hb dX9_takeOut_30 rfl (lv_at hl 0 rfl) ?_
        obtain ⟨v31, e31, hf⟩ := zb hf
        refine zr_gr (ci := 9) (k := 32) (C := RX9) (T := TX9) (N := 54) hx hb hts hi_X9_takeOut_9 hown hK hP e31 rfl rfl (by decide) (by decide) (hts (.fieldLink RX9 78 "BoundaryAnalyzerModel" "text" "[C") (List.mem_of_getElem? (i := 2) rfl)) dX9_takeOut_31 ?_
        refine lv_iload_n hx hb dX9_takeOut_34 rfl (lv_at hl 3 rfl) ?_
        refine lv_iload_n hx hb dX9_takeOut_35 rfl (lv_at hl 2 rfl) ?_
        refine lv_iadd hx hb dX9_takeOut_36 ?_
        obtain ⟨v37, e37, hf⟩ := zb hf
        refine zr_ac hx hb hK hP e37 dX9_takeOut_37 ?_
        obtain ⟨M38, e38, hf⟩ := zb hf
        refine zr_sc hx hb hK hP hS e38 dX9_takeOut_38 (fun H locs hP _ hS => ?_)
        obtain ⟨x3_39, q39, hf⟩ := zlt_s hf
        refine lv_iinc (v := x3_39) (lv' := [(3, .int x3_39), (0, .ref (b + h0)), (1, .int x1), (2, .int x2)]) hx hb dX9_takeOut_39 hl (k := 3) rfl (by rw [← q39]; rfl) (by decide) rfl (fun ls hl => ?_)
        refine lv_goto (tgt := 17) hx hb dX9_takeOut_42 (by decide) ?_
        exact ih17 _ _ _ _ _ _ _ _ hf hP hS (lv_sub hl [1, 2, 3, 0] rfl)
  unfold fX9_takeOut at hf
  refine lv_aload_n hx hb dX9_takeOut_0 rfl (lv_at hl 0 rfl) ?_
  refine lv_iload_n hx hb dX9_takeOut_1 rfl (lv_at hl 1 rfl) ?_
  obtain ⟨u2, t2, hf⟩ := zb hf
  obtain ⟨M2, e2, hf⟩ := zb hf
  refine zc_v hS (va_runV (As := [.int p1]) (rest := []) ⟨hx, hb, hml, hown, hts⟩ (k_X9_findStarts l D cy b M0 p0 p1 M2 e2) (cwV 1 hts gX9_takeOut_X9_findStarts rfl rfl rfl (by decide +kernel) ⟨Nat.le_of_ble_eq_true rfl, Nat.le_of_ble_eq_true rfl⟩) (zp_V _ hK hP t2 (T := TX9) (N := 54) rfl (by decide)) rfl rfl hl.1 rfl (lv_room (Nat.le_of_ble_eq_true rfl)) dX9_takeOut_2 ⟨Nat.zero_le _, Nat.zero_le _⟩) (fun H locs hP hS => ?_)
  refine lv_aload_n hx hb dX9_takeOut_5 rfl (lv_at hl 0 rfl) ?_
  refine lv_dup hx hb dX9_takeOut_6 rfl ?_
  obtain ⟨v7, e7, hf⟩ := zb hf
  refine zr_gi (ci := 9) (k := 31) (C := RX9) (T := TX9) (N := 54) hx hb hts hi_X9_takeOut_9 hown hK hP e7 rfl rfl (by decide) (by decide) (hts (.fieldLink RX9 207 "BoundaryAnalyzerModel" "length" "I") (List.mem_of_getElem? (i := 1) rfl)) dX9_takeOut_7 ?_
  refine lv_iload_n hx hb dX9_takeOut_10 rfl (lv_at hl 2 rfl) ?_
  refine lv_isub hx hb dX9_takeOut_11 ?_
  obtain ⟨M12, e12, hf⟩ := zb hf
  refine zr_pi (ci := 9) (k := 31) (C := RX9) (T := TX9) (N := 54) hx hb hts hi_X9_takeOut_9 tyX9 tyX9_ok nmX9 hown hK hP hS e12 rfl rfl (by decide) (by decide) (hts (.fieldLink RX9 207 "BoundaryAnalyzerModel" "length" "I") (List.mem_of_getElem? (i := 1) rfl)) rfl (tyX9_ok 31 (by decide)) dX9_takeOut_12 (fun H locs hP _ hS => ?_)
  refine lv_iload_n hx hb dX9_takeOut_15 rfl (lv_at hl 1 rfl) ?_
  refine lv_istore_n (lv' := [(3, .int p1), (0, .ref (b + p0)), (1, .int p1), (2, .int p2)]) hx hb dX9_takeOut_16 rfl hl (by decide) rfl (fun ls hl => ?_)
  exact L17 _ _ _ _ _ _ _ _ _ hf hP hS (lv_sub hl [1, 2, 3, 0] rfl)
