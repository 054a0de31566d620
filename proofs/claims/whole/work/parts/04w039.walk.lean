theorem hi_X9_init_9 : ∀ w ∈ wsX90, w ∈ wsX9_init := fun _ h => List.mem_cons_of_mem _ (List.mem_append_right _ h)
set_option maxHeartbeats 4000000 in
set_option maxRecDepth 100000 in
theorem k_X9_init (l : Launch) (D : va_G) (cy : Nat → ClassId) (b : Nat) (M0 : Mem) (p0 : Nat) (rr : Mem) (hf : fX9_init M0 p0 = some rr) : Met l yX9_init wsX9_init ({ frames := 2, cells := 40, slots := 120000, locals := 42 } : Room) (zPn D cy b M0 [.ref (b + p0)]) (zQn D cy b rr) 40 120000 (zA b) := by
  refine Met.ofW (cc := cX9_init) (maxL := 2) (ret := none) (by decide) rfl ?_
  intro p e s m args below meth c s₁ B hml hv
  obtain ⟨rfl, hP, hK, hz⟩ := hv
  have hx := B.exec
  have hb := B.bytes
  have hr := B.returns
  have hts := atoms_spec (ws := wsX9_init) B.pre
  have hown : s.vm.findClass RX9 = some m.cls := findClass_of_methodNamed B.named
  have hlocks := B.notSynchronized
  have hin : meth.name = "<init>" := (name_of_methodNamed B.named B.method).1
  have hS : va_S (zA b) s.heap s.heap [] := va_S.rf
  have hl := lv_entry ([.ref (b + p0)]) (n := 2) (Nat.le_of_ble_eq_true rfl)
  rw [lg_entry_eq]
  generalize (lg_sl ([.ref (b + p0)]) ++ List.replicate (2 - (lg_sl ([.ref (b + p0)])).length) Slot.unset).toArray = ls at hl ⊢
  have hl : lv_has ls 2 [(0, .ref (b + p0))] := hl
  have hn : yN M0.1 40 M0 := ⟨Nat.le_refl _, Nat.le_add_right _ _⟩
  refine y_begin (M := M0) ?_
  have L347 : ∀ (n347 : Nat) (M : Mem) (H : Heap) (locs : List Loc) (ls : Array Slot) (h0 : Nat) (x1 : Int32), fX9_init_347L M0  n347 M h0 x1 = some rr → zH D cy b M H → H.size = b + M.1 → va_S (zA b) s.heap H locs → yN M0.1 40 M → lv_has ls 2 [(0, .ref (b + h0)), (1, .int x1)] → yW p l e (headSpec wsX9_init ({ frames := 2, cells := 40, slots := 120000, locals := 42 } : Room)).room s m ([.ref (b + p0)] : List Value).toArray below meth c H locs M0.1 M (MQ below (zQn D cy b rr) ([.ref (b + p0)] : List Value).toArray s 40 120000 (zA b)) (F0 m 347 ls []) := by
    intro n347
    induction n347 with
    | zero =>
      intro M H locs ls h0 x1 hf
      have hf : (none : Option Mem) = some rr := hf
      cases hf
    | succ n347 ih347 =>
      intro M H locs ls h0 x1 hf hP hz hS hn hl
      have hf : fX9_init_347 M0  (fX9_init_347L M0  n347) M h0 x1 = some rr := hf
      unfold fX9_init_347 at hf
      refine lv_iload_n hx hb dX9_init_347 rfl (lv_at hl 1 rfl) ?_
      refine lv_iconst (v := (3 : Int32)) hx hb dX9_init_348 (by decide) ?_
      refine lv_icmp_ge (tgt := 365) hx hb dX9_init_349 (by decide) (fun c349 => ?_) (fun c349 => ?_)
      · have hf := (if_pos c349).symm.trans hf
        exact y_ret (mc := 40) hx hb hr hlocks hf hP hz hS hn dX9_init_365
      · have hf := (if_neg c349).symm.trans hf
        refine lv_aload_n hx hb dX9_init_352 rfl (lv_at hl 0 rfl) ?_
        obtain ⟨v353, e353, hf⟩ := zb hf
        refine zr_gr (ci := 9) (k := 33) (C := RX9) (T := TX9) (N := 54) hx hb hts hi_X9_init_9 hown hK hP e353 rfl rfl (by decide) (by decide) (hts (.fieldLink RX9 81 "BoundaryAnalyzerModel" "rawMany" "[I") (List.mem_of_getElem? (i := 30) rfl)) dX9_init_353 ?_
        refine lv_iload_n hx hb dX9_init_356 rfl (lv_at hl 1 rfl) ?_
        refine lv_iconst (v := (1 : Int32)) hx hb dX9_init_357 (by decide) ?_
        obtain ⟨M358, e358, hf⟩ := zb hf
        refine y_si hx hb hK hP hz hS hn e358 dX9_init_358 (fun H locs hP hz hS hn => ?_)
        obtain ⟨x1_359, q359, hf⟩ := zlt_s hf
        refine lv_iinc (v := x1_359) (lv' := [(1, .int x1_359), (0, .ref (b + h0))]) hx hb dX9_init_359 hl (k := 1) rfl (by rw [← q359]; rfl) (by decide) rfl (fun ls hl => ?_)
        refine lv_goto (tgt := 347) hx hb dX9_init_362 (by decide) ?_
        exact ih347 _ _ _ _ _ _ hf hP hz hS hn (lv_sub hl [1, 0] rfl)
  have L323 : ∀ (n323 : Nat) (M : Mem) (H : Heap) (locs : List Loc) (ls : Array Slot) (h0 : Nat) (x1 : Int32), fX9_init_323L M0  n323 M h0 x1 = some rr → zH D cy b M H → H.size = b + M.1 → va_S (zA b) s.heap H locs → yN M0.1 40 M → lv_has ls 2 [(0, .ref (b + h0)), (1, .int x1)] → yW p l e (headSpec wsX9_init ({ frames := 2, cells := 40, slots := 120000, locals := 42 } : Room)).room s m ([.ref (b + p0)] : List Value).toArray below meth c H locs M0.1 M (MQ below (zQn D cy b rr) ([.ref (b + p0)] : List Value).toArray s 40 120000 (zA b)) (F0 m 323 ls []) := by
    intro n323
    induction n323 with
    | zero =>
      intro M H locs ls h0 x1 hf
      have hf : (none : Option Mem) = some rr := hf
      cases hf
    | succ n323 ih323 =>
      intro M H locs ls h0 x1 hf hP hz hS hn hl
      have hf : fX9_init_323 M0  (fX9_init_323L M0  n323) M h0 x1 = some rr := hf
      unfold fX9_init_323 at hf
      refine lv_iload_n hx hb dX9_init_323 rfl (lv_at hl 1 rfl) ?_
      refine lv_bipush (v := (126 : Int32)) hx hb dX9_init_324 (by decide) ?_
      refine lv_icmp_gt (tgt := 345) hx hb dX9_init_326 (by decide) (fun c326 => ?_) (fun c326 => ?_)
      · have hf := (if_pos c326).symm.trans hf
        refine lv_iconst (v := (0 : Int32)) hx hb dX9_init_345 (by decide) ?_
        refine lv_istore_n (lv' := [(1, .int (0 : Int32)), (0, .ref (b + h0))]) hx hb dX9_init_346 rfl hl (by decide) rfl (fun ls hl => ?_)
        exact L347 _ _ _ _ _ _ _ hf hP hz hS hn (lv_sub hl [1, 0] rfl)
      · have hf := (if_neg c326).symm.trans hf
        refine lv_aload_n hx hb dX9_init_329 rfl (lv_at hl 0 rfl) ?_
        obtain ⟨v330, e330, hf⟩ := zb hf
        refine zr_gr (ci := 9) (k := 0) (C := RX9) (T := TX9) (N := 54) hx hb hts hi_X9_init_9 hown hK hP e330 rfl rfl (by decide) (by decide) (hts (.fieldLink RX9 7 "BoundaryAnalyzerModel" "classAt" "[I") (List.mem_of_getElem? (i := 5) rfl)) dX9_init_330 ?_
        refine lv_iload_n hx hb dX9_init_333 rfl (lv_at hl 1 rfl) ?_
        refine lv_iload_n hx hb dX9_init_334 rfl (lv_at hl 1 rfl) ?_
        obtain ⟨v335, e335, hf⟩ := zb hf
        refine zc_p (va_runS (As := [.int x1]) (rest := [.int x1, .ref (b + v330)]) ⟨hx, hb, hml, hown, hts⟩ (k_X9_firstClass l x1 v335 e335) (va_cwS 1 hts gX9_init_X9_firstClass rfl rfl rfl (by decide +kernel) ⟨Nat.le_of_ble_eq_true rfl, Nat.le_of_ble_eq_true rfl⟩) (zp_p _) rfl rfl hl.1 rfl (lv_room (Nat.le_of_ble_eq_true rfl)) dX9_init_335 (y_le (mc := 40) hn rfl rfl)) ?_
        obtain ⟨M338, e338, hf⟩ := zb hf
        refine y_si hx hb hK hP hz hS hn e338 dX9_init_338 (fun H locs hP hz hS hn => ?_)
        obtain ⟨x1_339, q339, hf⟩ := zlt_s hf
        refine lv_iinc (v := x1_339) (lv' := [(1, .int x1_339), (0, .ref (b + h0))]) hx hb dX9_init_339 hl (k := 1) rfl (by rw [← q339]; rfl) (by decide) rfl (fun ls hl => ?_)
        refine lv_goto (tgt := 323) hx hb dX9_init_342 (by decide) ?_
        exact ih323 _ _ _ _ _ _ hf hP hz hS hn (lv_sub hl [1, 0] rfl)
  unfold fX9_init at hf
  refine lv_aload_n hx hb dX9_init_0 rfl (lv_at hl 0 rfl) ?_
  refine W.objInit hx hb hown (hts (.methodLink RX9 1 objectInit) (List.mem_of_getElem? (i := 1) rfl)) (hts (.instanceMethod objectInit) (List.mem_of_getElem? (i := 2) rfl)) (hts _ (List.mem_of_getElem? (i := 3) rfl)) rfl (by rw [hml]; exact hl.1) rfl dX9_init_1 (Nat.le_of_ble_eq_true rfl) (Nat.le_of_ble_eq_true rfl) ?_
  refine W.eq (g2 := F0 m 4 ls []) rfl ?_
  refine lv_aload_n hx hb dX9_init_4 rfl (lv_at hl 0 rfl) ?_
  refine lv_bipush (v := (127 : Int32)) hx hb dX9_init_5 (by decide) ?_
  obtain ⟨M7, e7, hf⟩ := zb hf
  refine y_na (mc := 40) (atype := .int) (ty := .int) (t0 := 1) hx hb rfl (hts (.arrayClass .int) (List.mem_of_getElem? (i := 4) rfl)) hK hP hz hS hn e7 rfl (Or.inr (Or.inl ⟨rfl, rfl⟩)) (zsL_max _) rfl rfl dX9_init_7 (fun H hP hz hS hn => ?_)
  obtain ⟨M9, e9, hf⟩ := zb hf
  refine y_put (ci := 9) (k := 0) (C := RX9) (T := TX9) (N := 54) hx hb hts hi_X9_init_9 tyX9 tyX9_ok nmX9 hown hK hP hz hS hn e9 rfl rfl (by decide) (by decide) (hts (.fieldLink RX9 7 "BoundaryAnalyzerModel" "classAt" "[I") (List.mem_of_getElem? (i := 5) rfl)) (Or.inr ⟨rfl, hin, rfl⟩) (tyX9_ok 0 (by decide)) rfl rfl dX9_init_9 (fun H locs hP hz hS hn => ?_)
  refine lv_aload_n hx hb dX9_init_12 rfl (lv_at hl 0 rfl) ?_
  refine lv_bipush (v := (24 : Int32)) hx hb dX9_init_13 (by decide) ?_
  obtain ⟨M15, e15, hf⟩ := zb hf
  refine y_na (mc := 40) (atype := .char) (ty := .char) (t0 := 0) hx hb rfl (hts (.arrayClass .char) (List.mem_of_getElem? (i := 6) rfl)) hK hP hz hS hn e15 rfl (Or.inl ⟨rfl, rfl⟩) (zsL_max _) rfl rfl dX9_init_15 (fun H hP hz hS hn => ?_)
  obtain ⟨M17, e17, hf⟩ := zb hf
  refine y_put (ci := 9) (k := 2) (C := RX9) (T := TX9) (N := 54) hx hb hts hi_X9_init_9 tyX9 tyX9_ok nmX9 hown hK hP hz hS hn e17 rfl rfl (by decide) (by decide) (hts (.fieldLink RX9 13 "BoundaryAnalyzerModel" "pattern" "[C") (List.mem_of_getElem? (i := 7) rfl)) (Or.inr ⟨rfl, hin, rfl⟩) (tyX9_ok 2 (by decide)) rfl rfl dX9_init_17 (fun H locs hP hz hS hn => ?_)
  refine lv_aload_n hx hb dX9_init_20 rfl (lv_at hl 0 rfl) ?_
  refine lv_iconst (v := (5 : Int32)) hx hb dX9_init_21 (by decide) ?_
  obtain ⟨M22, e22, hf⟩ := zb hf
  refine y_na (mc := 40) (atype := .boolean) (ty := .boolean) (t0 := 2) hx hb rfl (hts (.arrayClass .boolean) (List.mem_of_getElem? (i := 8) rfl)) hK hP hz hS hn e22 rfl (Or.inr (Or.inr ⟨rfl, rfl⟩)) (zsL_max _) rfl rfl dX9_init_22 (fun H hP hz hS hn => ?_)
  obtain ⟨M24, e24, hf⟩ := zb hf
  refine y_put (ci := 9) (k := 3) (C := RX9) (T := TX9) (N := 54) hx hb hts hi_X9_init_9 tyX9 tyX9_ok nmX9 hown hK hP hz hS hn e24 rfl rfl (by decide) (by decide) (hts (.fieldLink RX9 17 "BoundaryAnalyzerModel" "altNull" "[Z") (List.mem_of_getElem? (i := 9) rfl)) (Or.inr ⟨rfl, hin, rfl⟩) (tyX9_ok 3 (by decide)) rfl rfl dX9_init_24 (fun H locs hP hz hS hn => ?_)
  refine lv_aload_n hx hb dX9_init_27 rfl (lv_at hl 0 rfl) ?_
  refine lv_iconst (v := (5 : Int32)) hx hb dX9_init_28 (by decide) ?_
  obtain ⟨M29, e29, hf⟩ := zb hf
  refine y_na (mc := 40) (atype := .int) (ty := .int) (t0 := 1) hx hb rfl (hts (.arrayClass .int) (List.mem_of_getElem? (i := 4) rfl)) hK hP hz hS hn e29 rfl (Or.inr (Or.inl ⟨rfl, rfl⟩)) (zsL_max _) rfl rfl dX9_init_29 (fun H hP hz hS hn => ?_)
  obtain ⟨M31, e31, hf⟩ := zb hf
  refine y_put (ci := 9) (k := 4) (C := RX9) (T := TX9) (N := 54) hx hb hts hi_X9_init_9 tyX9 tyX9_ok nmX9 hown hK hP hz hS hn e31 rfl rfl (by decide) (by decide) (hts (.fieldLink RX9 21 "BoundaryAnalyzerModel" "altFirst" "[I") (List.mem_of_getElem? (i := 10) rfl)) (Or.inr ⟨rfl, hin, rfl⟩) (tyX9_ok 4 (by decide)) rfl rfl dX9_init_31 (fun H locs hP hz hS hn => ?_)
  refine lv_aload_n hx hb dX9_init_34 rfl (lv_at hl 0 rfl) ?_
  refine lv_iconst (v := (5 : Int32)) hx hb dX9_init_35 (by decide) ?_
  obtain ⟨M36, e36, hf⟩ := zb hf
  refine y_na (mc := 40) (atype := .int) (ty := .int) (t0 := 1) hx hb rfl (hts (.arrayClass .int) (List.mem_of_getElem? (i := 4) rfl)) hK hP hz hS hn e36 rfl (Or.inr (Or.inl ⟨rfl, rfl⟩)) (zsL_max _) rfl rfl dX9_init_36 (fun H hP hz hS hn => ?_)
  obtain ⟨M38, e38, hf⟩ := zb hf
  refine y_put (ci := 9) (k := 5) (C := RX9) (T := TX9) (N := 54) hx hb hts hi_X9_init_9 tyX9 tyX9_ok nmX9 hown hK hP hz hS hn e38 rfl rfl (by decide) (by decide) (hts (.fieldLink RX9 24 "BoundaryAnalyzerModel" "altLast" "[I") (List.mem_of_getElem? (i := 11) rfl)) (Or.inr ⟨rfl, hin, rfl⟩) (tyX9_ok 5 (by decide)) rfl rfl dX9_init_38 (fun H locs hP hz hS hn => ?_)
  refine lv_aload_n hx hb dX9_init_41 rfl (lv_at hl 0 rfl) ?_
  refine lv_iconst (v := (5 : Int32)) hx hb dX9_init_42 (by decide) ?_
  obtain ⟨M43, e43, hf⟩ := zb hf
  refine y_na (mc := 40) (atype := .boolean) (ty := .boolean) (t0 := 2) hx hb rfl (hts (.arrayClass .boolean) (List.mem_of_getElem? (i := 8) rfl)) hK hP hz hS hn e43 rfl (Or.inr (Or.inr ⟨rfl, rfl⟩)) (zsL_max _) rfl rfl dX9_init_43 (fun H hP hz hS hn => ?_)
  obtain ⟨M45, e45, hf⟩ := zb hf
  refine y_put (ci := 9) (k := 6) (C := RX9) (T := TX9) (N := 54) hx hb hts hi_X9_init_9 tyX9 tyX9_ok nmX9 hown hK hP hz hS hn e45 rfl rfl (by decide) (by decide) (hts (.fieldLink RX9 27 "BoundaryAnalyzerModel" "seqNull" "[Z") (List.mem_of_getElem? (i := 12) rfl)) (Or.inr ⟨rfl, hin, rfl⟩) (tyX9_ok 6 (by decide)) rfl rfl dX9_init_45 (fun H locs hP hz hS hn => ?_)
  refine lv_aload_n hx hb dX9_init_48 rfl (lv_at hl 0 rfl) ?_
  refine lv_iconst (v := (5 : Int32)) hx hb dX9_init_49 (by decide) ?_
  obtain ⟨M50, e50, hf⟩ := zb hf
  refine y_na (mc := 40) (atype := .int) (ty := .int) (t0 := 1) hx hb rfl (hts (.arrayClass .int) (List.mem_of_getElem? (i := 4) rfl)) hK hP hz hS hn e50 rfl (Or.inr (Or.inl ⟨rfl, rfl⟩)) (zsL_max _) rfl rfl dX9_init_50 (fun H hP hz hS hn => ?_)
  obtain ⟨M52, e52, hf⟩ := zb hf
  refine y_put (ci := 9) (k := 7) (C := RX9) (T := TX9) (N := 54) hx hb hts hi_X9_init_9 tyX9 tyX9_ok nmX9 hown hK hP hz hS hn e52 rfl rfl (by decide) (by decide) (hts (.fieldLink RX9 30 "BoundaryAnalyzerModel" "seqFirst" "[I") (List.mem_of_getElem? (i := 13) rfl)) (Or.inr ⟨rfl, hin, rfl⟩) (tyX9_ok 7 (by decide)) rfl rfl dX9_init_52 (fun H locs hP hz hS hn => ?_)
  refine lv_aload_n hx hb dX9_init_55 rfl (lv_at hl 0 rfl) ?_
  refine lv_iconst (v := (5 : Int32)) hx hb dX9_init_56 (by decide) ?_
  obtain ⟨M57, e57, hf⟩ := zb hf
  refine y_na (mc := 40) (atype := .int) (ty := .int) (t0 := 1) hx hb rfl (hts (.arrayClass .int) (List.mem_of_getElem? (i := 4) rfl)) hK hP hz hS hn e57 rfl (Or.inr (Or.inl ⟨rfl, rfl⟩)) (zsL_max _) rfl rfl dX9_init_57 (fun H hP hz hS hn => ?_)
  obtain ⟨M59, e59, hf⟩ := zb hf
  refine y_put (ci := 9) (k := 8) (C := RX9) (T := TX9) (N := 54) hx hb hts hi_X9_init_9 tyX9 tyX9_ok nmX9 hown hK hP hz hS hn e59 rfl rfl (by decide) (by decide) (hts (.fieldLink RX9 33 "BoundaryAnalyzerModel" "seqLast" "[I") (List.mem_of_getElem? (i := 14) rfl)) (Or.inr ⟨rfl, hin, rfl⟩) (tyX9_ok 8 (by decide)) rfl rfl dX9_init_59 (fun H locs hP hz hS hn => ?_)
  refine lv_aload_n hx hb dX9_init_62 rfl (lv_at hl 0 rfl) ?_
  refine lv_iconst (v := (5 : Int32)) hx hb dX9_init_63 (by decide) ?_
  obtain ⟨M64, e64, hf⟩ := zb hf
  refine y_na (mc := 40) (atype := .int) (ty := .int) (t0 := 1) hx hb rfl (hts (.arrayClass .int) (List.mem_of_getElem? (i := 4) rfl)) hK hP hz hS hn e64 rfl (Or.inr (Or.inl ⟨rfl, rfl⟩)) (zsL_max _) rfl rfl dX9_init_64 (fun H hP hz hS hn => ?_)
  obtain ⟨M66, e66, hf⟩ := zb hf
  refine y_put (ci := 9) (k := 9) (C := RX9) (T := TX9) (N := 54) hx hb hts hi_X9_init_9 tyX9 tyX9_ok nmX9 hown hK hP hz hS hn e66 rfl rfl (by decide) (by decide) (hts (.fieldLink RX9 36 "BoundaryAnalyzerModel" "seqMany" "[I") (List.mem_of_getElem? (i := 15) rfl)) (Or.inr ⟨rfl, hin, rfl⟩) (tyX9_ok 9 (by decide)) rfl rfl dX9_init_66 (fun H locs hP hz hS hn => ?_)
  refine lv_aload_n hx hb dX9_init_69 rfl (lv_at hl 0 rfl) ?_
  refine lv_bipush (v := (24 : Int32)) hx hb dX9_init_70 (by decide) ?_
  obtain ⟨M72, e72, hf⟩ := zb hf
  refine y_na (mc := 40) (atype := .int) (ty := .int) (t0 := 1) hx hb rfl (hts (.arrayClass .int) (List.mem_of_getElem? (i := 4) rfl)) hK hP hz hS hn e72 rfl (Or.inr (Or.inl ⟨rfl, rfl⟩)) (zsL_max _) rfl rfl dX9_init_72 (fun H hP hz hS hn => ?_)
  obtain ⟨M74, e74, hf⟩ := zb hf
  refine y_put (ci := 9) (k := 14) (C := RX9) (T := TX9) (N := 54) hx hb hts hi_X9_init_9 tyX9 tyX9_ok nmX9 hown hK hP hz hS hn e74 rfl rfl (by decide) (by decide) (hts (.fieldLink RX9 39 "BoundaryAnalyzerModel" "readClass" "[I") (List.mem_of_getElem? (i := 16) rfl)) (Or.inr ⟨rfl, hin, rfl⟩) (tyX9_ok 14 (by decide)) rfl rfl dX9_init_74 (fun H locs hP hz hS hn => ?_)
  refine lv_aload_n hx hb dX9_init_77 rfl (lv_at hl 0 rfl) ?_
  refine lv_bipush (v := (24 : Int32)) hx hb dX9_init_78 (by decide) ?_
  obtain ⟨M80, e80, hf⟩ := zb hf
  refine y_na (mc := 40) (atype := .int) (ty := .int) (t0 := 1) hx hb rfl (hts (.arrayClass .int) (List.mem_of_getElem? (i := 4) rfl)) hK hP hz hS hn e80 rfl (Or.inr (Or.inl ⟨rfl, rfl⟩)) (zsL_max _) rfl rfl dX9_init_80 (fun H hP hz hS hn => ?_)
  obtain ⟨M82, e82, hf⟩ := zb hf
  refine y_put (ci := 9) (k := 15) (C := RX9) (T := TX9) (N := 54) hx hb hts hi_X9_init_9 tyX9 tyX9_ok nmX9 hown hK hP hz hS hn e82 rfl rfl (by decide) (by decide) (hts (.fieldLink RX9 42 "BoundaryAnalyzerModel" "readNext" "[I") (List.mem_of_getElem? (i := 17) rfl)) (Or.inr ⟨rfl, hin, rfl⟩) (tyX9_ok 15 (by decide)) rfl rfl dX9_init_82 (fun H locs hP hz hS hn => ?_)
  refine lv_aload_n hx hb dX9_init_85 rfl (lv_at hl 0 rfl) ?_
  refine lv_bipush (v := (15 : Int32)) hx hb dX9_init_86 (by decide) ?_
  obtain ⟨M88, e88, hf⟩ := zb hf
  refine y_na (mc := 40) (atype := .int) (ty := .int) (t0 := 1) hx hb rfl (hts (.arrayClass .int) (List.mem_of_getElem? (i := 4) rfl)) hK hP hz hS hn e88 rfl (Or.inr (Or.inl ⟨rfl, rfl⟩)) (zsL_max _) rfl rfl dX9_init_88 (fun H hP hz hS hn => ?_)
  obtain ⟨M90, e90, hf⟩ := zb hf
  refine y_put (ci := 9) (k := 20) (C := RX9) (T := TX9) (N := 54) hx hb hts hi_X9_init_9 tyX9 tyX9_ok nmX9 hown hK hP hz hS hn e90 rfl rfl (by decide) (by decide) (hts (.fieldLink RX9 45 "BoundaryAnalyzerModel" "ruleLong" "[I") (List.mem_of_getElem? (i := 18) rfl)) (Or.inr ⟨rfl, hin, rfl⟩) (tyX9_ok 20 (by decide)) rfl rfl dX9_init_90 (fun H locs hP hz hS hn => ?_)
  refine lv_aload_n hx hb dX9_init_93 rfl (lv_at hl 0 rfl) ?_
  refine lv_sipush (v := (360 : Int32)) hx hb dX9_init_94 (by decide) ?_
  obtain ⟨M97, e97, hf⟩ := zb hf
  refine y_na (mc := 40) (atype := .char) (ty := .char) (t0 := 0) hx hb rfl (hts (.arrayClass .char) (List.mem_of_getElem? (i := 6) rfl)) hK hP hz hS hn e97 rfl (Or.inl ⟨rfl, rfl⟩) (zsL_max _) rfl rfl dX9_init_97 (fun H hP hz hS hn => ?_)
  obtain ⟨M99, e99, hf⟩ := zb hf
  refine y_put (ci := 9) (k := 21) (C := RX9) (T := TX9) (N := 54) hx hb hts hi_X9_init_9 tyX9 tyX9_ok nmX9 hown hK hP hz hS hn e99 rfl rfl (by decide) (by decide) (hts (.fieldLink RX9 48 "BoundaryAnalyzerModel" "ruleAt" "[C") (List.mem_of_getElem? (i := 19) rfl)) (Or.inr ⟨rfl, hin, rfl⟩) (tyX9_ok 21 (by decide)) rfl rfl dX9_init_99 (fun H locs hP hz hS hn => ?_)
  refine lv_aload_n hx hb dX9_init_102 rfl (lv_at hl 0 rfl) ?_
  refine lv_sipush (v := (360 : Int32)) hx hb dX9_init_103 (by decide) ?_
  obtain ⟨M106, e106, hf⟩ := zb hf
  refine y_na (mc := 40) (atype := .int) (ty := .int) (t0 := 1) hx hb rfl (hts (.arrayClass .int) (List.mem_of_getElem? (i := 4) rfl)) hK hP hz hS hn e106 rfl (Or.inr (Or.inl ⟨rfl, rfl⟩)) (zsL_max _) rfl rfl dX9_init_106 (fun H hP hz hS hn => ?_)
  obtain ⟨M108, e108, hf⟩ := zb hf
  refine y_put (ci := 9) (k := 22) (C := RX9) (T := TX9) (N := 54) hx hb hts hi_X9_init_9 tyX9 tyX9_ok nmX9 hown hK hP hz hS hn e108 rfl rfl (by decide) (by decide) (hts (.fieldLink RX9 51 "BoundaryAnalyzerModel" "classOfPlace" "[I") (List.mem_of_getElem? (i := 20) rfl)) (Or.inr ⟨rfl, hin, rfl⟩) (tyX9_ok 22 (by decide)) rfl rfl dX9_init_108 (fun H locs hP hz hS hn => ?_)
  refine lv_aload_n hx hb dX9_init_111 rfl (lv_at hl 0 rfl) ?_
  refine lv_sipush (v := (360 : Int32)) hx hb dX9_init_112 (by decide) ?_
  obtain ⟨M115, e115, hf⟩ := zb hf
  refine y_na (mc := 40) (atype := .int) (ty := .int) (t0 := 1) hx hb rfl (hts (.arrayClass .int) (List.mem_of_getElem? (i := 4) rfl)) hK hP hz hS hn e115 rfl (Or.inr (Or.inl ⟨rfl, rfl⟩)) (zsL_max _) rfl rfl dX9_init_115 (fun H hP hz hS hn => ?_)
  obtain ⟨M117, e117, hf⟩ := zb hf
  refine y_put (ci := 9) (k := 23) (C := RX9) (T := TX9) (N := 54) hx hb hts hi_X9_init_9 tyX9 tyX9_ok nmX9 hown hK hP hz hS hn e117 rfl rfl (by decide) (by decide) (hts (.fieldLink RX9 54 "BoundaryAnalyzerModel" "nextOf" "[I") (List.mem_of_getElem? (i := 21) rfl)) (Or.inr ⟨rfl, hin, rfl⟩) (tyX9_ok 23 (by decide)) rfl rfl dX9_init_117 (fun H locs hP hz hS hn => ?_)
  refine lv_aload_n hx hb dX9_init_120 rfl (lv_at hl 0 rfl) ?_
  refine lv_bipush (v := (15 : Int32)) hx hb dX9_init_121 (by decide) ?_
  obtain ⟨M123, e123, hf⟩ := zb hf
  refine y_na (mc := 40) (atype := .boolean) (ty := .boolean) (t0 := 2) hx hb rfl (hts (.arrayClass .boolean) (List.mem_of_getElem? (i := 8) rfl)) hK hP hz hS hn e123 rfl (Or.inr (Or.inr ⟨rfl, rfl⟩)) (zsL_max _) rfl rfl dX9_init_123 (fun H hP hz hS hn => ?_)
  obtain ⟨M125, e125, hf⟩ := zb hf
  refine y_put (ci := 9) (k := 24) (C := RX9) (T := TX9) (N := 54) hx hb hts hi_X9_init_9 tyX9 tyX9_ok nmX9 hown hK hP hz hS hn e125 rfl rfl (by decide) (by decide) (hts (.fieldLink RX9 57 "BoundaryAnalyzerModel" "looks" "[Z") (List.mem_of_getElem? (i := 22) rfl)) (Or.inr ⟨rfl, hin, rfl⟩) (tyX9_ok 24 (by decide)) rfl rfl dX9_init_125 (fun H locs hP hz hS hn => ?_)
  refine lv_aload_n hx hb dX9_init_128 rfl (lv_at hl 0 rfl) ?_
  refine lv_bipush (v := (15 : Int32)) hx hb dX9_init_129 (by decide) ?_
  obtain ⟨M131, e131, hf⟩ := zb hf
  refine y_na (mc := 40) (atype := .boolean) (ty := .boolean) (t0 := 2) hx hb rfl (hts (.arrayClass .boolean) (List.mem_of_getElem? (i := 8) rfl)) hK hP hz hS hn e131 rfl (Or.inr (Or.inr ⟨rfl, rfl⟩)) (zsL_max _) rfl rfl dX9_init_131 (fun H hP hz hS hn => ?_)
  obtain ⟨M133, e133, hf⟩ := zb hf
  refine y_put (ci := 9) (k := 25) (C := RX9) (T := TX9) (N := 54) hx hb hts hi_X9_init_9 tyX9 tyX9_ok nmX9 hown hK hP hz hS hn e133 rfl rfl (by decide) (by decide) (hts (.fieldLink RX9 60 "BoundaryAnalyzerModel" "bodyNull" "[Z") (List.mem_of_getElem? (i := 23) rfl)) (Or.inr ⟨rfl, hin, rfl⟩) (tyX9_ok 25 (by decide)) rfl rfl dX9_init_133 (fun H locs hP hz hS hn => ?_)
  refine lv_aload_n hx hb dX9_init_136 rfl (lv_at hl 0 rfl) ?_
  refine lv_bipush (v := (15 : Int32)) hx hb dX9_init_137 (by decide) ?_
  obtain ⟨M139, e139, hf⟩ := zb hf
  refine y_na (mc := 40) (atype := .int) (ty := .int) (t0 := 1) hx hb rfl (hts (.arrayClass .int) (List.mem_of_getElem? (i := 4) rfl)) hK hP hz hS hn e139 rfl (Or.inr (Or.inl ⟨rfl, rfl⟩)) (zsL_max _) rfl rfl dX9_init_139 (fun H hP hz hS hn => ?_)
  obtain ⟨M141, e141, hf⟩ := zb hf
  refine y_put (ci := 9) (k := 26) (C := RX9) (T := TX9) (N := 54) hx hb hts hi_X9_init_9 tyX9 tyX9_ok nmX9 hown hK hP hz hS hn e141 rfl rfl (by decide) (by decide) (hts (.fieldLink RX9 63 "BoundaryAnalyzerModel" "bodyFirst" "[I") (List.mem_of_getElem? (i := 24) rfl)) (Or.inr ⟨rfl, hin, rfl⟩) (tyX9_ok 26 (by decide)) rfl rfl dX9_init_141 (fun H locs hP hz hS hn => ?_)
  refine lv_aload_n hx hb dX9_init_144 rfl (lv_at hl 0 rfl) ?_
  refine lv_bipush (v := (15 : Int32)) hx hb dX9_init_145 (by decide) ?_
  obtain ⟨M147, e147, hf⟩ := zb hf
  refine y_na (mc := 40) (atype := .int) (ty := .int) (t0 := 1) hx hb rfl (hts (.arrayClass .int) (List.mem_of_getElem? (i := 4) rfl)) hK hP hz hS hn e147 rfl (Or.inr (Or.inl ⟨rfl, rfl⟩)) (zsL_max _) rfl rfl dX9_init_147 (fun H hP hz hS hn => ?_)
  obtain ⟨M149, e149, hf⟩ := zb hf
  refine y_put (ci := 9) (k := 27) (C := RX9) (T := TX9) (N := 54) hx hb hts hi_X9_init_9 tyX9 tyX9_ok nmX9 hown hK hP hz hS hn e149 rfl rfl (by decide) (by decide) (hts (.fieldLink RX9 66 "BoundaryAnalyzerModel" "bodyLast" "[I") (List.mem_of_getElem? (i := 25) rfl)) (Or.inr ⟨rfl, hin, rfl⟩) (tyX9_ok 27 (by decide)) rfl rfl dX9_init_149 (fun H locs hP hz hS hn => ?_)
  refine lv_aload_n hx hb dX9_init_152 rfl (lv_at hl 0 rfl) ?_
  refine lv_bipush (v := (15 : Int32)) hx hb dX9_init_153 (by decide) ?_
  obtain ⟨M155, e155, hf⟩ := zb hf
  refine y_na (mc := 40) (atype := .boolean) (ty := .boolean) (t0 := 2) hx hb rfl (hts (.arrayClass .boolean) (List.mem_of_getElem? (i := 8) rfl)) hK hP hz hS hn e155 rfl (Or.inr (Or.inr ⟨rfl, rfl⟩)) (zsL_max _) rfl rfl dX9_init_155 (fun H hP hz hS hn => ?_)
  obtain ⟨M157, e157, hf⟩ := zb hf
  refine y_put (ci := 9) (k := 28) (C := RX9) (T := TX9) (N := 54) hx hb hts hi_X9_init_9 tyX9 tyX9_ok nmX9 hown hK hP hz hS hn e157 rfl rfl (by decide) (by decide) (hts (.fieldLink RX9 69 "BoundaryAnalyzerModel" "lookNull" "[Z") (List.mem_of_getElem? (i := 26) rfl)) (Or.inr ⟨rfl, hin, rfl⟩) (tyX9_ok 28 (by decide)) rfl rfl dX9_init_157 (fun H locs hP hz hS hn => ?_)
  refine lv_aload_n hx hb dX9_init_160 rfl (lv_at hl 0 rfl) ?_
  refine lv_bipush (v := (15 : Int32)) hx hb dX9_init_161 (by decide) ?_
  obtain ⟨M163, e163, hf⟩ := zb hf
  refine y_na (mc := 40) (atype := .int) (ty := .int) (t0 := 1) hx hb rfl (hts (.arrayClass .int) (List.mem_of_getElem? (i := 4) rfl)) hK hP hz hS hn e163 rfl (Or.inr (Or.inl ⟨rfl, rfl⟩)) (zsL_max _) rfl rfl dX9_init_163 (fun H hP hz hS hn => ?_)
  obtain ⟨M165, e165, hf⟩ := zb hf
  refine y_put (ci := 9) (k := 29) (C := RX9) (T := TX9) (N := 54) hx hb hts hi_X9_init_9 tyX9 tyX9_ok nmX9 hown hK hP hz hS hn e165 rfl rfl (by decide) (by decide) (hts (.fieldLink RX9 72 "BoundaryAnalyzerModel" "lookFirst" "[I") (List.mem_of_getElem? (i := 27) rfl)) (Or.inr ⟨rfl, hin, rfl⟩) (tyX9_ok 29 (by decide)) rfl rfl dX9_init_165 (fun H locs hP hz hS hn => ?_)
  refine lv_aload_n hx hb dX9_init_168 rfl (lv_at hl 0 rfl) ?_
  refine lv_bipush (v := (15 : Int32)) hx hb dX9_init_169 (by decide) ?_
  obtain ⟨M171, e171, hf⟩ := zb hf
  refine y_na (mc := 40) (atype := .int) (ty := .int) (t0 := 1) hx hb rfl (hts (.arrayClass .int) (List.mem_of_getElem? (i := 4) rfl)) hK hP hz hS hn e171 rfl (Or.inr (Or.inl ⟨rfl, rfl⟩)) (zsL_max _) rfl rfl dX9_init_171 (fun H hP hz hS hn => ?_)
  obtain ⟨M173, e173, hf⟩ := zb hf
  refine y_put (ci := 9) (k := 30) (C := RX9) (T := TX9) (N := 54) hx hb hts hi_X9_init_9 tyX9 tyX9_ok nmX9 hown hK hP hz hS hn e173 rfl rfl (by decide) (by decide) (hts (.fieldLink RX9 75 "BoundaryAnalyzerModel" "lookLast" "[I") (List.mem_of_getElem? (i := 28) rfl)) (Or.inr ⟨rfl, hin, rfl⟩) (tyX9_ok 30 (by decide)) rfl rfl dX9_init_173 (fun H locs hP hz hS hn => ?_)
  refine lv_aload_n hx hb dX9_init_176 rfl (lv_at hl 0 rfl) ?_
  refine lv_bipush (v := (100 : Int32)) hx hb dX9_init_177 (by decide) ?_
  obtain ⟨M179, e179, hf⟩ := zb hf
  refine y_na (mc := 40) (atype := .char) (ty := .char) (t0 := 0) hx hb rfl (hts (.arrayClass .char) (List.mem_of_getElem? (i := 6) rfl)) hK hP hz hS hn e179 rfl (Or.inl ⟨rfl, rfl⟩) (zsL_max _) rfl rfl dX9_init_179 (fun H hP hz hS hn => ?_)
  obtain ⟨M181, e181, hf⟩ := zb hf
  refine y_put (ci := 9) (k := 32) (C := RX9) (T := TX9) (N := 54) hx hb hts hi_X9_init_9 tyX9 tyX9_ok nmX9 hown hK hP hz hS hn e181 rfl rfl (by decide) (by decide) (hts (.fieldLink RX9 78 "BoundaryAnalyzerModel" "text" "[C") (List.mem_of_getElem? (i := 29) rfl)) (Or.inr ⟨rfl, hin, rfl⟩) (tyX9_ok 32 (by decide)) rfl rfl dX9_init_181 (fun H locs hP hz hS hn => ?_)
  refine lv_aload_n hx hb dX9_init_184 rfl (lv_at hl 0 rfl) ?_
  refine lv_iconst (v := (3 : Int32)) hx hb dX9_init_185 (by decide) ?_
  obtain ⟨M186, e186, hf⟩ := zb hf
  refine y_na (mc := 40) (atype := .int) (ty := .int) (t0 := 1) hx hb rfl (hts (.arrayClass .int) (List.mem_of_getElem? (i := 4) rfl)) hK hP hz hS hn e186 rfl (Or.inr (Or.inl ⟨rfl, rfl⟩)) (zsL_max _) rfl rfl dX9_init_186 (fun H hP hz hS hn => ?_)
  obtain ⟨M188, e188, hf⟩ := zb hf
  refine y_put (ci := 9) (k := 33) (C := RX9) (T := TX9) (N := 54) hx hb hts hi_X9_init_9 tyX9 tyX9_ok nmX9 hown hK hP hz hS hn e188 rfl rfl (by decide) (by decide) (hts (.fieldLink RX9 81 "BoundaryAnalyzerModel" "rawMany" "[I") (List.mem_of_getElem? (i := 30) rfl)) (Or.inr ⟨rfl, hin, rfl⟩) (tyX9_ok 33 (by decide)) rfl rfl dX9_init_188 (fun H locs hP hz hS hn => ?_)
  refine lv_aload_n hx hb dX9_init_191 rfl (lv_at hl 0 rfl) ?_
  refine lv_sipush (v := (303 : Int32)) hx hb dX9_init_192 (by decide) ?_
  obtain ⟨M195, e195, hf⟩ := zb hf
  refine y_na (mc := 40) (atype := .int) (ty := .int) (t0 := 1) hx hb rfl (hts (.arrayClass .int) (List.mem_of_getElem? (i := 4) rfl)) hK hP hz hS hn e195 rfl (Or.inr (Or.inl ⟨rfl, rfl⟩)) (zsL_max _) rfl rfl dX9_init_195 (fun H hP hz hS hn => ?_)
  obtain ⟨M197, e197, hf⟩ := zb hf
  refine y_put (ci := 9) (k := 34) (C := RX9) (T := TX9) (N := 54) hx hb hts hi_X9_init_9 tyX9 tyX9_ok nmX9 hown hK hP hz hS hn e197 rfl rfl (by decide) (by decide) (hts (.fieldLink RX9 84 "BoundaryAnalyzerModel" "rawAt" "[I") (List.mem_of_getElem? (i := 31) rfl)) (Or.inr ⟨rfl, hin, rfl⟩) (tyX9_ok 34 (by decide)) rfl rfl dX9_init_197 (fun H locs hP hz hS hn => ?_)
  refine lv_aload_n hx hb dX9_init_200 rfl (lv_at hl 0 rfl) ?_
  refine lv_iconst (v := (3 : Int32)) hx hb dX9_init_201 (by decide) ?_
  obtain ⟨M202, e202, hf⟩ := zb hf
  refine y_na (mc := 40) (atype := .int) (ty := .int) (t0 := 1) hx hb rfl (hts (.arrayClass .int) (List.mem_of_getElem? (i := 4) rfl)) hK hP hz hS hn e202 rfl (Or.inr (Or.inl ⟨rfl, rfl⟩)) (zsL_max _) rfl rfl dX9_init_202 (fun H hP hz hS hn => ?_)
  obtain ⟨M204, e204, hf⟩ := zb hf
  refine y_put (ci := 9) (k := 35) (C := RX9) (T := TX9) (N := 54) hx hb hts hi_X9_init_9 tyX9 tyX9_ok nmX9 hown hK hP hz hS hn e204 rfl rfl (by decide) (by decide) (hts (.fieldLink RX9 87 "BoundaryAnalyzerModel" "workOf" "[I") (List.mem_of_getElem? (i := 32) rfl)) (Or.inr ⟨rfl, hin, rfl⟩) (tyX9_ok 35 (by decide)) rfl rfl dX9_init_204 (fun H locs hP hz hS hn => ?_)
  refine lv_aload_n hx hb dX9_init_207 rfl (lv_at hl 0 rfl) ?_
  refine lv_iconst (v := (3 : Int32)) hx hb dX9_init_208 (by decide) ?_
  obtain ⟨M209, e209, hf⟩ := zb hf
  refine y_na (mc := 40) (atype := .int) (ty := .int) (t0 := 1) hx hb rfl (hts (.arrayClass .int) (List.mem_of_getElem? (i := 4) rfl)) hK hP hz hS hn e209 rfl (Or.inr (Or.inl ⟨rfl, rfl⟩)) (zsL_max _) rfl rfl dX9_init_209 (fun H hP hz hS hn => ?_)
  obtain ⟨M211, e211, hf⟩ := zb hf
  refine y_put (ci := 9) (k := 36) (C := RX9) (T := TX9) (N := 54) hx hb hts hi_X9_init_9 tyX9 tyX9_ok nmX9 hown hK hP hz hS hn e211 rfl rfl (by decide) (by decide) (hts (.fieldLink RX9 90 "BoundaryAnalyzerModel" "startOf" "[I") (List.mem_of_getElem? (i := 33) rfl)) (Or.inr ⟨rfl, hin, rfl⟩) (tyX9_ok 36 (by decide)) rfl rfl dX9_init_211 (fun H locs hP hz hS hn => ?_)
  refine lv_aload_n hx hb dX9_init_214 rfl (lv_at hl 0 rfl) ?_
  refine lv_bipush (v := (101 : Int32)) hx hb dX9_init_215 (by decide) ?_
  obtain ⟨M217, e217, hf⟩ := zb hf
  refine y_na (mc := 40) (atype := .int) (ty := .int) (t0 := 1) hx hb rfl (hts (.arrayClass .int) (List.mem_of_getElem? (i := 4) rfl)) hK hP hz hS hn e217 rfl (Or.inr (Or.inl ⟨rfl, rfl⟩)) (zsL_max _) rfl rfl dX9_init_217 (fun H hP hz hS hn => ?_)
  obtain ⟨M219, e219, hf⟩ := zb hf
  refine y_put (ci := 9) (k := 37) (C := RX9) (T := TX9) (N := 54) hx hb hts hi_X9_init_9 tyX9 tyX9_ok nmX9 hown hK hP hz hS hn e219 rfl rfl (by decide) (by decide) (hts (.fieldLink RX9 93 "BoundaryAnalyzerModel" "old" "[I") (List.mem_of_getElem? (i := 34) rfl)) (Or.inr ⟨rfl, hin, rfl⟩) (tyX9_ok 37 (by decide)) rfl rfl dX9_init_219 (fun H locs hP hz hS hn => ?_)
  refine lv_aload_n hx hb dX9_init_222 rfl (lv_at hl 0 rfl) ?_
  refine lv_bipush (v := (100 : Int32)) hx hb dX9_init_223 (by decide) ?_
  obtain ⟨M225, e225, hf⟩ := zb hf
  refine y_na (mc := 40) (atype := .char) (ty := .char) (t0 := 0) hx hb rfl (hts (.arrayClass .char) (List.mem_of_getElem? (i := 6) rfl)) hK hP hz hS hn e225 rfl (Or.inl ⟨rfl, rfl⟩) (zsL_max _) rfl rfl dX9_init_225 (fun H hP hz hS hn => ?_)
  obtain ⟨M227, e227, hf⟩ := zb hf
  refine y_put (ci := 9) (k := 38) (C := RX9) (T := TX9) (N := 54) hx hb hts hi_X9_init_9 tyX9 tyX9_ok nmX9 hown hK hP hz hS hn e227 rfl rfl (by decide) (by decide) (hts (.fieldLink RX9 96 "BoundaryAnalyzerModel" "editText" "[C") (List.mem_of_getElem? (i := 35) rfl)) (Or.inr ⟨rfl, hin, rfl⟩) (tyX9_ok 38 (by decide)) rfl rfl dX9_init_227 (fun H locs hP hz hS hn => ?_)
  refine lv_aload_n hx hb dX9_init_230 rfl (lv_at hl 0 rfl) ?_
  refine lv_bipush (v := (30 : Int32)) hx hb dX9_init_231 (by decide) ?_
  obtain ⟨M233, e233, hf⟩ := zb hf
  refine y_na (mc := 40) (atype := .boolean) (ty := .boolean) (t0 := 2) hx hb rfl (hts (.arrayClass .boolean) (List.mem_of_getElem? (i := 8) rfl)) hK hP hz hS hn e233 rfl (Or.inr (Or.inr ⟨rfl, rfl⟩)) (zsL_max _) rfl rfl dX9_init_233 (fun H hP hz hS hn => ?_)
  obtain ⟨M235, e235, hf⟩ := zb hf
  refine y_put (ci := 9) (k := 40) (C := RX9) (T := TX9) (N := 54) hx hb hts hi_X9_init_9 tyX9 tyX9_ok nmX9 hown hK hP hz hS hn e235 rfl rfl (by decide) (by decide) (hts (.fieldLink RX9 99 "BoundaryAnalyzerModel" "undoPuts" "[Z") (List.mem_of_getElem? (i := 36) rfl)) (Or.inr ⟨rfl, hin, rfl⟩) (tyX9_ok 40 (by decide)) rfl rfl dX9_init_235 (fun H locs hP hz hS hn => ?_)
  refine lv_aload_n hx hb dX9_init_238 rfl (lv_at hl 0 rfl) ?_
  refine lv_bipush (v := (30 : Int32)) hx hb dX9_init_239 (by decide) ?_
  obtain ⟨M241, e241, hf⟩ := zb hf
  refine y_na (mc := 40) (atype := .int) (ty := .int) (t0 := 1) hx hb rfl (hts (.arrayClass .int) (List.mem_of_getElem? (i := 4) rfl)) hK hP hz hS hn e241 rfl (Or.inr (Or.inl ⟨rfl, rfl⟩)) (zsL_max _) rfl rfl dX9_init_241 (fun H hP hz hS hn => ?_)
  obtain ⟨M243, e243, hf⟩ := zb hf
  refine y_put (ci := 9) (k := 41) (C := RX9) (T := TX9) (N := 54) hx hb hts hi_X9_init_9 tyX9 tyX9_ok nmX9 hown hK hP hz hS hn e243 rfl rfl (by decide) (by decide) (hts (.fieldLink RX9 102 "BoundaryAnalyzerModel" "undoAt" "[I") (List.mem_of_getElem? (i := 37) rfl)) (Or.inr ⟨rfl, hin, rfl⟩) (tyX9_ok 41 (by decide)) rfl rfl dX9_init_243 (fun H locs hP hz hS hn => ?_)
  refine lv_aload_n hx hb dX9_init_246 rfl (lv_at hl 0 rfl) ?_
  refine lv_bipush (v := (30 : Int32)) hx hb dX9_init_247 (by decide) ?_
  obtain ⟨M249, e249, hf⟩ := zb hf
  refine y_na (mc := 40) (atype := .int) (ty := .int) (t0 := 1) hx hb rfl (hts (.arrayClass .int) (List.mem_of_getElem? (i := 4) rfl)) hK hP hz hS hn e249 rfl (Or.inr (Or.inl ⟨rfl, rfl⟩)) (zsL_max _) rfl rfl dX9_init_249 (fun H hP hz hS hn => ?_)
  obtain ⟨M251, e251, hf⟩ := zb hf
  refine y_put (ci := 9) (k := 42) (C := RX9) (T := TX9) (N := 54) hx hb hts hi_X9_init_9 tyX9 tyX9_ok nmX9 hown hK hP hz hS hn e251 rfl rfl (by decide) (by decide) (hts (.fieldLink RX9 105 "BoundaryAnalyzerModel" "undoLong" "[I") (List.mem_of_getElem? (i := 38) rfl)) (Or.inr ⟨rfl, hin, rfl⟩) (tyX9_ok 42 (by decide)) rfl rfl dX9_init_251 (fun H locs hP hz hS hn => ?_)
  refine lv_aload_n hx hb dX9_init_254 rfl (lv_at hl 0 rfl) ?_
  refine lv_sipush (v := (3000 : Int32)) hx hb dX9_init_255 (by decide) ?_
  obtain ⟨M258, e258, hf⟩ := zb hf
  refine y_na (mc := 40) (atype := .char) (ty := .char) (t0 := 0) hx hb rfl (hts (.arrayClass .char) (List.mem_of_getElem? (i := 6) rfl)) hK hP hz hS hn e258 rfl (Or.inl ⟨rfl, rfl⟩) (zsL_max _) rfl rfl dX9_init_258 (fun H hP hz hS hn => ?_)
  obtain ⟨M260, e260, hf⟩ := zb hf
  refine y_put (ci := 9) (k := 43) (C := RX9) (T := TX9) (N := 54) hx hb hts hi_X9_init_9 tyX9 tyX9_ok nmX9 hown hK hP hz hS hn e260 rfl rfl (by decide) (by decide) (hts (.fieldLink RX9 108 "BoundaryAnalyzerModel" "undoText" "[C") (List.mem_of_getElem? (i := 39) rfl)) (Or.inr ⟨rfl, hin, rfl⟩) (tyX9_ok 43 (by decide)) rfl rfl dX9_init_260 (fun H locs hP hz hS hn => ?_)
  refine lv_aload_n hx hb dX9_init_263 rfl (lv_at hl 0 rfl) ?_
  refine lv_bipush (v := (30 : Int32)) hx hb dX9_init_264 (by decide) ?_
  obtain ⟨M266, e266, hf⟩ := zb hf
  refine y_na (mc := 40) (atype := .boolean) (ty := .boolean) (t0 := 2) hx hb rfl (hts (.arrayClass .boolean) (List.mem_of_getElem? (i := 8) rfl)) hK hP hz hS hn e266 rfl (Or.inr (Or.inr ⟨rfl, rfl⟩)) (zsL_max _) rfl rfl dX9_init_266 (fun H hP hz hS hn => ?_)
  obtain ⟨M268, e268, hf⟩ := zb hf
  refine y_put (ci := 9) (k := 45) (C := RX9) (T := TX9) (N := 54) hx hb hts hi_X9_init_9 tyX9 tyX9_ok nmX9 hown hK hP hz hS hn e268 rfl rfl (by decide) (by decide) (hts (.fieldLink RX9 111 "BoundaryAnalyzerModel" "redoPuts" "[Z") (List.mem_of_getElem? (i := 40) rfl)) (Or.inr ⟨rfl, hin, rfl⟩) (tyX9_ok 45 (by decide)) rfl rfl dX9_init_268 (fun H locs hP hz hS hn => ?_)
  refine lv_aload_n hx hb dX9_init_271 rfl (lv_at hl 0 rfl) ?_
  refine lv_bipush (v := (30 : Int32)) hx hb dX9_init_272 (by decide) ?_
  obtain ⟨M274, e274, hf⟩ := zb hf
  refine y_na (mc := 40) (atype := .int) (ty := .int) (t0 := 1) hx hb rfl (hts (.arrayClass .int) (List.mem_of_getElem? (i := 4) rfl)) hK hP hz hS hn e274 rfl (Or.inr (Or.inl ⟨rfl, rfl⟩)) (zsL_max _) rfl rfl dX9_init_274 (fun H hP hz hS hn => ?_)
  obtain ⟨M276, e276, hf⟩ := zb hf
  refine y_put (ci := 9) (k := 46) (C := RX9) (T := TX9) (N := 54) hx hb hts hi_X9_init_9 tyX9 tyX9_ok nmX9 hown hK hP hz hS hn e276 rfl rfl (by decide) (by decide) (hts (.fieldLink RX9 114 "BoundaryAnalyzerModel" "redoAt" "[I") (List.mem_of_getElem? (i := 41) rfl)) (Or.inr ⟨rfl, hin, rfl⟩) (tyX9_ok 46 (by decide)) rfl rfl dX9_init_276 (fun H locs hP hz hS hn => ?_)
  refine lv_aload_n hx hb dX9_init_279 rfl (lv_at hl 0 rfl) ?_
  refine lv_bipush (v := (30 : Int32)) hx hb dX9_init_280 (by decide) ?_
  obtain ⟨M282, e282, hf⟩ := zb hf
  refine y_na (mc := 40) (atype := .int) (ty := .int) (t0 := 1) hx hb rfl (hts (.arrayClass .int) (List.mem_of_getElem? (i := 4) rfl)) hK hP hz hS hn e282 rfl (Or.inr (Or.inl ⟨rfl, rfl⟩)) (zsL_max _) rfl rfl dX9_init_282 (fun H hP hz hS hn => ?_)
  obtain ⟨M284, e284, hf⟩ := zb hf
  refine y_put (ci := 9) (k := 47) (C := RX9) (T := TX9) (N := 54) hx hb hts hi_X9_init_9 tyX9 tyX9_ok nmX9 hown hK hP hz hS hn e284 rfl rfl (by decide) (by decide) (hts (.fieldLink RX9 117 "BoundaryAnalyzerModel" "redoLong" "[I") (List.mem_of_getElem? (i := 42) rfl)) (Or.inr ⟨rfl, hin, rfl⟩) (tyX9_ok 47 (by decide)) rfl rfl dX9_init_284 (fun H locs hP hz hS hn => ?_)
  refine lv_aload_n hx hb dX9_init_287 rfl (lv_at hl 0 rfl) ?_
  refine lv_sipush (v := (3000 : Int32)) hx hb dX9_init_288 (by decide) ?_
  obtain ⟨M291, e291, hf⟩ := zb hf
  refine y_na (mc := 40) (atype := .char) (ty := .char) (t0 := 0) hx hb rfl (hts (.arrayClass .char) (List.mem_of_getElem? (i := 6) rfl)) hK hP hz hS hn e291 rfl (Or.inl ⟨rfl, rfl⟩) (zsL_max _) rfl rfl dX9_init_291 (fun H hP hz hS hn => ?_)
  obtain ⟨M293, e293, hf⟩ := zb hf
  refine y_put (ci := 9) (k := 48) (C := RX9) (T := TX9) (N := 54) hx hb hts hi_X9_init_9 tyX9 tyX9_ok nmX9 hown hK hP hz hS hn e293 rfl rfl (by decide) (by decide) (hts (.fieldLink RX9 120 "BoundaryAnalyzerModel" "redoText" "[C") (List.mem_of_getElem? (i := 43) rfl)) (Or.inr ⟨rfl, hin, rfl⟩) (tyX9_ok 48 (by decide)) rfl rfl dX9_init_293 (fun H locs hP hz hS hn => ?_)
  refine lv_aload_n hx hb dX9_init_296 rfl (lv_at hl 0 rfl) ?_
  refine lv_bipush (v := (10 : Int32)) hx hb dX9_init_297 (by decide) ?_
  obtain ⟨M299, e299, hf⟩ := zb hf
  refine y_na (mc := 40) (atype := .int) (ty := .int) (t0 := 1) hx hb rfl (hts (.arrayClass .int) (List.mem_of_getElem? (i := 4) rfl)) hK hP hz hS hn e299 rfl (Or.inr (Or.inl ⟨rfl, rfl⟩)) (zsL_max _) rfl rfl dX9_init_299 (fun H hP hz hS hn => ?_)
  obtain ⟨M301, e301, hf⟩ := zb hf
  refine y_put (ci := 9) (k := 50) (C := RX9) (T := TX9) (N := 54) hx hb hts hi_X9_init_9 tyX9 tyX9_ok nmX9 hown hK hP hz hS hn e301 rfl rfl (by decide) (by decide) (hts (.fieldLink RX9 123 "BoundaryAnalyzerModel" "exceptionLong" "[I") (List.mem_of_getElem? (i := 44) rfl)) (Or.inr ⟨rfl, hin, rfl⟩) (tyX9_ok 50 (by decide)) rfl rfl dX9_init_301 (fun H locs hP hz hS hn => ?_)
  refine lv_aload_n hx hb dX9_init_304 rfl (lv_at hl 0 rfl) ?_
  refine lv_bipush (v := (80 : Int32)) hx hb dX9_init_305 (by decide) ?_
  obtain ⟨M307, e307, hf⟩ := zb hf
  refine y_na (mc := 40) (atype := .char) (ty := .char) (t0 := 0) hx hb rfl (hts (.arrayClass .char) (List.mem_of_getElem? (i := 6) rfl)) hK hP hz hS hn e307 rfl (Or.inl ⟨rfl, rfl⟩) (zsL_max _) rfl rfl dX9_init_307 (fun H hP hz hS hn => ?_)
  obtain ⟨M309, e309, hf⟩ := zb hf
  refine y_put (ci := 9) (k := 51) (C := RX9) (T := TX9) (N := 54) hx hb hts hi_X9_init_9 tyX9 tyX9_ok nmX9 hown hK hP hz hS hn e309 rfl rfl (by decide) (by decide) (hts (.fieldLink RX9 126 "BoundaryAnalyzerModel" "exceptionAt" "[C") (List.mem_of_getElem? (i := 45) rfl)) (Or.inr ⟨rfl, hin, rfl⟩) (tyX9_ok 51 (by decide)) rfl rfl dX9_init_309 (fun H locs hP hz hS hn => ?_)
  refine lv_aload_n hx hb dX9_init_312 rfl (lv_at hl 0 rfl) ?_
  refine lv_bipush (v := (101 : Int32)) hx hb dX9_init_313 (by decide) ?_
  obtain ⟨M315, e315, hf⟩ := zb hf
  refine y_na (mc := 40) (atype := .int) (ty := .int) (t0 := 1) hx hb rfl (hts (.arrayClass .int) (List.mem_of_getElem? (i := 4) rfl)) hK hP hz hS hn e315 rfl (Or.inr (Or.inl ⟨rfl, rfl⟩)) (zsL_max _) rfl rfl dX9_init_315 (fun H hP hz hS hn => ?_)
  obtain ⟨M317, e317, hf⟩ := zb hf
  refine y_put (ci := 9) (k := 53) (C := RX9) (T := TX9) (N := 54) hx hb hts hi_X9_init_9 tyX9 tyX9_ok nmX9 hown hK hP hz hS hn e317 rfl rfl (by decide) (by decide) (hts (.fieldLink RX9 129 "BoundaryAnalyzerModel" "boundary" "[I") (List.mem_of_getElem? (i := 46) rfl)) (Or.inr ⟨rfl, hin, rfl⟩) (tyX9_ok 53 (by decide)) rfl rfl dX9_init_317 (fun H locs hP hz hS hn => ?_)
  refine lv_bipush (v := (32 : Int32)) hx hb dX9_init_320 (by decide) ?_
  refine lv_istore_n (lv' := [(1, .int (32 : Int32)), (0, .ref (b + p0))]) hx hb dX9_init_322 rfl hl (by decide) rfl (fun ls hl => ?_)
  exact L323 _ _ _ _ _ _ _ hf hP hz hS hn (lv_sub hl [1, 0] rfl)
