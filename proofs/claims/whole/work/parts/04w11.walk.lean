theorem hi_X9_init_9 : ∀ w ∈ wsX90, w ∈ wsX9_init := fun _ h => List.mem_cons_of_mem _ (List.mem_append_right _ h)
set_option maxHeartbeats 4000000 in
set_option maxRecDepth 100000 in
theorem k_X9_init (l : Launch) (D : va_G) (cy : Nat → ClassId) (b : Nat) (M0 : Mem) (h0 : Nat) (rr : Mem) (hf : fX9_init M0 h0 = some rr) : Met l yX9_init wsX9_init ({ frames := 2, cells := 40, slots := 120000, locals := 42 } : Room) (zPn D cy b M0 [.ref (b + h0)]) (zQn D cy b rr) 40 120000 (zA b) := by
  refine Met.ofW (cc := cX9_init) (maxL := 2) (ret := none) (by decide) rfl ?_
  intro p e s m args below meth c s₁ B hml hv
  obtain ⟨rfl, hP, hK, hz⟩ := hv
  have hx := B.exec
  have hb := B.bytes
  have hr := B.returns
  have hts := atoms_spec (ws := wsX9_init) B.pre
  have hown : s.vm.findClass RX9 = some m.cls := findClass_of_methodNamed B.named
  have hlocks := B.notSynchronized
  have hin : meth.name = "<init>" := (name_of_methodNamed B.named B.method).1
  have hS : va_S (zA b) s.heap s.heap [] := va_S.rf
  have hl := lv_entry ([.ref (b + h0)]) (n := 2) (Nat.le_of_ble_eq_true rfl)
  rw [lg_entry_eq]
  generalize (lg_sl ([.ref (b + h0)]) ++ List.replicate (2 - (lg_sl ([.ref (b + h0)])).length) Slot.unset).toArray = ls at hl ⊢
  have hl : lv_has ls 2 [(0, .ref (b + h0))] := hl
  have hn : M0.1 ≤ M0.1 := Nat.le_refl _
  have hu : M0.1 ≤ M0.1 + 40 := by omega
  refine W.widen (k := M0.1 - M0.1) (n := 3000 * (M0.1 - M0.1)) (by omega) (by omega) ?_
  have L347 : ∀ (n347 : Nat) (M : Mem) (H : Heap) (locs : List Loc) (ls : Array Slot) (h0 : Nat) (x1 : Int32), fX9_init_347L M0  n347 M h0 x1 = some rr → zH D cy b M H → H.size = b + M.1 → va_S (zA b) s.heap H locs → M0.1 ≤ M.1 → M.1 ≤ M0.1 + 40 → lv_has ls 2 [(0, .ref (b + h0)), (1, .int x1)] → W p l e (headSpec wsX9_init ({ frames := 2, cells := 40, slots := 120000, locals := 42 } : Room)).room s m ([.ref (b + h0)] : List Value).toArray below meth c H locs (M.1 - M0.1) (3000 * (M.1 - M0.1)) (MQ below (zQn D cy b rr) ([.ref (b + h0)] : List Value).toArray s 40 120000 (zA b)) (F0 m 347 ls []) := by
    intro n347
    induction n347 with
    | zero =>
      intro M H locs ls h0 x1 hf
      have hf : (none : Option Mem) = some rr := hf
      cases hf
    | succ n347 ih347 =>
      intro M H locs ls h0 x1 hf hP hz hS hn hu hl
      have hf : fX9_init_347 M0  (fX9_init_347L M0  n347) M h0 x1 = some rr := hf
      unfold fX9_init_347 at hf
      refine lv_iload_n hx hb dX9_init_347 rfl (lv_at hl 1 rfl) ?_
      refine lv_iconst (v := (3 : Int32)) hx hb dX9_init_348 (by decide) ?_
      refine lv_icmp_ge (tgt := 365) hx hb dX9_init_349 (by decide) (fun c349 => ?_) (fun c349 => ?_)
      · have hf := (if_pos c349).symm.trans hf
        refine W.widen (k := 40) (n := 120000) (by omega) (by omega) ?_
        exact zret_n hx hb hr hlocks hf hP hz hS dX9_init_365
      · have hf := (if_neg c349).symm.trans hf
        refine lv_aload_n hx hb dX9_init_352 rfl (lv_at hl 0 rfl) ?_
        obtain ⟨v353, e353, hf⟩ := zb hf
        refine zr_gr (ci := 9) (k := 33) (C := RX9) (T := TX9) (N := 54) hx hb hts hi_X9_init_9 hown hK hP e353 rfl rfl (by decide) (by decide) (hts (.fieldLink RX9 81 "BoundaryAnalyzerModel" "rawMany" "[I") (List.mem_of_getElem? (i := 30) rfl)) dX9_init_353 ?_
        refine lv_iload_n hx hb dX9_init_356 rfl (lv_at hl 1 rfl) ?_
        refine lv_iconst (v := (1 : Int32)) hx hb dX9_init_357 (by decide) ?_
        obtain ⟨M358, e358, hf⟩ := zb hf
        refine zr_si hx hb hK hP hS e358 dX9_init_358 (fun H locs hP hz1 hS => ?_)
        rw [hz] at hz1; have hz := hz1
        have hq := zsI_n e358
        rw [← hq] at hn hu hz
        refine W.widen (k := M358.1 - M0.1) (n := 3000 * (M358.1 - M0.1)) (by omega) (by omega) ?_
        obtain ⟨x1_359, q359, hf⟩ := zlt_s hf
        refine lv_iinc (v := x1_359) (lv' := [(1, .int x1_359), (0, .ref (b + h0))]) hx hb dX9_init_359 hl (k := 1) rfl (by rw [← q359]; rfl) (by decide) rfl (fun ls hl => ?_)
        refine lv_goto (tgt := 347) hx hb dX9_init_362 (by decide) ?_
        exact ih347 _ _ _ _ _ _ hf hP hz hS hn hu (lv_sub hl [1, 0] rfl)
  have L323 : ∀ (n323 : Nat) (M : Mem) (H : Heap) (locs : List Loc) (ls : Array Slot) (h0 : Nat) (x1 : Int32), fX9_init_323L M0  n323 M h0 x1 = some rr → zH D cy b M H → H.size = b + M.1 → va_S (zA b) s.heap H locs → M0.1 ≤ M.1 → M.1 ≤ M0.1 + 40 → lv_has ls 2 [(0, .ref (b + h0)), (1, .int x1)] → W p l e (headSpec wsX9_init ({ frames := 2, cells := 40, slots := 120000, locals := 42 } : Room)).room s m ([.ref (b + h0)] : List Value).toArray below meth c H locs (M.1 - M0.1) (3000 * (M.1 - M0.1)) (MQ below (zQn D cy b rr) ([.ref (b + h0)] : List Value).toArray s 40 120000 (zA b)) (F0 m 323 ls []) := by
    intro n323
    induction n323 with
    | zero =>
      intro M H locs ls h0 x1 hf
      have hf : (none : Option Mem) = some rr := hf
      cases hf
    | succ n323 ih323 =>
      intro M H locs ls h0 x1 hf hP hz hS hn hu hl
      have hf : fX9_init_323 M0  (fX9_init_323L M0  n323) M h0 x1 = some rr := hf
      unfold fX9_init_323 at hf
      refine lv_iload_n hx hb dX9_init_323 rfl (lv_at hl 1 rfl) ?_
      refine lv_bipush (v := (126 : Int32)) hx hb dX9_init_324 (by decide) ?_
      refine lv_icmp_gt (tgt := 345) hx hb dX9_init_326 (by decide) (fun c326 => ?_) (fun c326 => ?_)
      · have hf := (if_pos c326).symm.trans hf
        refine lv_iconst (v := (0 : Int32)) hx hb dX9_init_345 (by decide) ?_
        refine lv_istore_n (lv' := [(1, .int (0 : Int32)), (0, .ref (b + h0))]) hx hb dX9_init_346 rfl hl (by decide) rfl (fun ls hl => ?_)
        exact L347 _ _ _ _ _ _ _ hf hP hz hS hn hu (lv_sub hl [1, 0] rfl)
      · have hf := (if_neg c326).symm.trans hf
        refine lv_aload_n hx hb dX9_init_329 rfl (lv_at hl 0 rfl) ?_
        obtain ⟨v330, e330, hf⟩ := zb hf
        refine zr_gr (ci := 9) (k := 0) (C := RX9) (T := TX9) (N := 54) hx hb hts hi_X9_init_9 hown hK hP e330 rfl rfl (by decide) (by decide) (hts (.fieldLink RX9 7 "BoundaryAnalyzerModel" "classAt" "[I") (List.mem_of_getElem? (i := 5) rfl)) dX9_init_330 ?_
        refine lv_iload_n hx hb dX9_init_333 rfl (lv_at hl 1 rfl) ?_
        refine lv_iload_n hx hb dX9_init_334 rfl (lv_at hl 1 rfl) ?_
        obtain ⟨v335, e335, hf⟩ := zb hf
        refine zc_p (va_runS (As := [.int x1]) (rest := [.int x1, .ref (b + v330)]) ⟨hx, hb, hml, hown, hts⟩ (k_X9_firstClass l x1 v335 e335) (va_cwS 1 hts gX9_init_X9_firstClass rfl rfl rfl (by decide +kernel) ⟨Nat.le_of_ble_eq_true rfl, Nat.le_of_ble_eq_true rfl⟩) (zp_p _) rfl rfl hl.1 rfl (lv_room (Nat.le_of_ble_eq_true rfl)) dX9_init_335 ⟨by show _ ≤ 40; omega, by show _ ≤ 120000; omega⟩) ?_
        obtain ⟨M338, e338, hf⟩ := zb hf
        refine zr_si hx hb hK hP hS e338 dX9_init_338 (fun H locs hP hz1 hS => ?_)
        rw [hz] at hz1; have hz := hz1
        have hq := zsI_n e338
        rw [← hq] at hn hu hz
        refine W.widen (k := M338.1 - M0.1) (n := 3000 * (M338.1 - M0.1)) (by omega) (by omega) ?_
        obtain ⟨x1_339, q339, hf⟩ := zlt_s hf
        refine lv_iinc (v := x1_339) (lv' := [(1, .int x1_339), (0, .ref (b + h0))]) hx hb dX9_init_339 hl (k := 1) rfl (by rw [← q339]; rfl) (by decide) rfl (fun ls hl => ?_)
        refine lv_goto (tgt := 323) hx hb dX9_init_342 (by decide) ?_
        exact ih323 _ _ _ _ _ _ hf hP hz hS hn hu (lv_sub hl [1, 0] rfl)
  unfold fX9_init at hf
  refine lv_aload_n hx hb dX9_init_0 rfl (lv_at hl 0 rfl) ?_
  refine W.objInit hx hb hown (hts (.methodLink RX9 1 objectInit) (List.mem_of_getElem? (i := 1) rfl)) (hts (.instanceMethod objectInit) (List.mem_of_getElem? (i := 2) rfl)) (hts _ (List.mem_of_getElem? (i := 3) rfl)) rfl (by rw [hml]; exact hl.1) rfl dX9_init_1 (Nat.le_of_ble_eq_true rfl) (Nat.le_of_ble_eq_true rfl) ?_
  refine W.eq (g2 := F0 m 4 ls []) rfl ?_
  refine lv_aload_n hx hb dX9_init_4 rfl (lv_at hl 0 rfl) ?_
  refine lv_bipush (v := (127 : Int32)) hx hb dX9_init_5 (by decide) ?_
  obtain ⟨M7, e7, hf⟩ := zb hf
  refine zr_na (atype := .int) (ty := .int) (t0 := 1) hx hb rfl (hts (.arrayClass .int) (List.mem_of_getElem? (i := 4) rfl)) hK hP hz hS e7 rfl (Or.inr (Or.inl ⟨rfl, rfl⟩)) (zsL_max _) (fun h9 => by show _ ≤ 40; omega) (fun h9 => by show _ ≤ 120000; omega) dX9_init_7 (fun H hP hz hS hq h9 => ?_)
  have hn : M0.1 ≤ M7.1 := by omega
  have hu : M7.1 ≤ M0.1 + 40 := by omega
  refine W.widen (k := M7.1 - M0.1) (n := 3000 * (M7.1 - M0.1)) (by omega) (by omega) ?_
  obtain ⟨M9, e9, hf⟩ := zb hf
  refine zr_pr (ci := 9) (k := 0) (C := RX9) (T := TX9) (N := 54) hx hb hts hi_X9_init_9 tyX9 tyX9_ok nmX9 hown hK hP hS e9 rfl rfl (by decide) (by decide) (hts (.fieldLink RX9 7 "BoundaryAnalyzerModel" "classAt" "[I") (List.mem_of_getElem? (i := 5) rfl)) (Or.inr ⟨rfl, hin, rfl⟩) (tyX9_ok 0 (by decide)) rfl rfl dX9_init_9 (fun H locs hP hz1 hS => ?_)
  rw [hz] at hz1; have hz := hz1
  have hq := zpR_n e9
  rw [← hq] at hn hu hz
  refine W.widen (k := M9.1 - M0.1) (n := 3000 * (M9.1 - M0.1)) (by omega) (by omega) ?_
  refine lv_aload_n hx hb dX9_init_12 rfl (lv_at hl 0 rfl) ?_
  refine lv_bipush (v := (24 : Int32)) hx hb dX9_init_13 (by decide) ?_
  obtain ⟨M15, e15, hf⟩ := zb hf
  refine zr_na (atype := .char) (ty := .char) (t0 := 0) hx hb rfl (hts (.arrayClass .char) (List.mem_of_getElem? (i := 6) rfl)) hK hP hz hS e15 rfl (Or.inl ⟨rfl, rfl⟩) (zsL_max _) (fun h9 => by show _ ≤ 40; omega) (fun h9 => by show _ ≤ 120000; omega) dX9_init_15 (fun H hP hz hS hq h9 => ?_)
  have hn : M0.1 ≤ M15.1 := by omega
  have hu : M15.1 ≤ M0.1 + 40 := by omega
  refine W.widen (k := M15.1 - M0.1) (n := 3000 * (M15.1 - M0.1)) (by omega) (by omega) ?_
  obtain ⟨M17, e17, hf⟩ := zb hf
  refine zr_pr (ci := 9) (k := 2) (C := RX9) (T := TX9) (N := 54) hx hb hts hi_X9_init_9 tyX9 tyX9_ok nmX9 hown hK hP hS e17 rfl rfl (by decide) (by decide) (hts (.fieldLink RX9 13 "BoundaryAnalyzerModel" "pattern" "[C") (List.mem_of_getElem? (i := 7) rfl)) (Or.inr ⟨rfl, hin, rfl⟩) (tyX9_ok 2 (by decide)) rfl rfl dX9_init_17 (fun H locs hP hz1 hS => ?_)
  rw [hz] at hz1; have hz := hz1
  have hq := zpR_n e17
  rw [← hq] at hn hu hz
  refine W.widen (k := M17.1 - M0.1) (n := 3000 * (M17.1 - M0.1)) (by omega) (by omega) ?_
  refine lv_aload_n hx hb dX9_init_20 rfl (lv_at hl 0 rfl) ?_
  refine lv_iconst (v := (5 : Int32)) hx hb dX9_init_21 (by decide) ?_
  obtain ⟨M22, e22, hf⟩ := zb hf
  refine zr_na (atype := .boolean) (ty := .boolean) (t0 := 2) hx hb rfl (hts (.arrayClass .boolean) (List.mem_of_getElem? (i := 8) rfl)) hK hP hz hS e22 rfl (Or.inr (Or.inr ⟨rfl, rfl⟩)) (zsL_max _) (fun h9 => by show _ ≤ 40; omega) (fun h9 => by show _ ≤ 120000; omega) dX9_init_22 (fun H hP hz hS hq h9 => ?_)
  have hn : M0.1 ≤ M22.1 := by omega
  have hu : M22.1 ≤ M0.1 + 40 := by omega
  refine W.widen (k := M22.1 - M0.1) (n := 3000 * (M22.1 - M0.1)) (by omega) (by omega) ?_
  obtain ⟨M24, e24, hf⟩ := zb hf
  refine zr_pr (ci := 9) (k := 3) (C := RX9) (T := TX9) (N := 54) hx hb hts hi_X9_init_9 tyX9 tyX9_ok nmX9 hown hK hP hS e24 rfl rfl (by decide) (by decide) (hts (.fieldLink RX9 17 "BoundaryAnalyzerModel" "altNull" "[Z") (List.mem_of_getElem? (i := 9) rfl)) (Or.inr ⟨rfl, hin, rfl⟩) (tyX9_ok 3 (by decide)) rfl rfl dX9_init_24 (fun H locs hP hz1 hS => ?_)
  rw [hz] at hz1; have hz := hz1
  have hq := zpR_n e24
  rw [← hq] at hn hu hz
  refine W.widen (k := M24.1 - M0.1) (n := 3000 * (M24.1 - M0.1)) (by omega) (by omega) ?_
  refine lv_aload_n hx hb dX9_init_27 rfl (lv_at hl 0 rfl) ?_
  refine lv_iconst (v := (5 : Int32)) hx hb dX9_init_28 (by decide) ?_
  obtain ⟨M29, e29, hf⟩ := zb hf
  refine zr_na (atype := .int) (ty := .int) (t0 := 1) hx hb rfl (hts (.arrayClass .int) (List.mem_of_getElem? (i := 4) rfl)) hK hP hz hS e29 rfl (Or.inr (Or.inl ⟨rfl, rfl⟩)) (zsL_max _) (fun h9 => by show _ ≤ 40; omega) (fun h9 => by show _ ≤ 120000; omega) dX9_init_29 (fun H hP hz hS hq h9 => ?_)
  have hn : M0.1 ≤ M29.1 := by omega
  have hu : M29.1 ≤ M0.1 + 40 := by omega
  refine W.widen (k := M29.1 - M0.1) (n := 3000 * (M29.1 - M0.1)) (by omega) (by omega) ?_
  obtain ⟨M31, e31, hf⟩ := zb hf
  refine zr_pr (ci := 9) (k := 4) (C := RX9) (T := TX9) (N := 54) hx hb hts hi_X9_init_9 tyX9 tyX9_ok nmX9 hown hK hP hS e31 rfl rfl (by decide) (by decide) (hts (.fieldLink RX9 21 "BoundaryAnalyzerModel" "altFirst" "[I") (List.mem_of_getElem? (i := 10) rfl)) (Or.inr ⟨rfl, hin, rfl⟩) (tyX9_ok 4 (by decide)) rfl rfl dX9_init_31 (fun H locs hP hz1 hS => ?_)
  rw [hz] at hz1; have hz := hz1
  have hq := zpR_n e31
  rw [← hq] at hn hu hz
  refine W.widen (k := M31.1 - M0.1) (n := 3000 * (M31.1 - M0.1)) (by omega) (by omega) ?_
  refine lv_aload_n hx hb dX9_init_34 rfl (lv_at hl 0 rfl) ?_
  refine lv_iconst (v := (5 : Int32)) hx hb dX9_init_35 (by decide) ?_
  obtain ⟨M36, e36, hf⟩ := zb hf
  refine zr_na (atype := .int) (ty := .int) (t0 := 1) hx hb rfl (hts (.arrayClass .int) (List.mem_of_getElem? (i := 4) rfl)) hK hP hz hS e36 rfl (Or.inr (Or.inl ⟨rfl, rfl⟩)) (zsL_max _) (fun h9 => by show _ ≤ 40; omega) (fun h9 => by show _ ≤ 120000; omega) dX9_init_36 (fun H hP hz hS hq h9 => ?_)
  have hn : M0.1 ≤ M36.1 := by omega
  have hu : M36.1 ≤ M0.1 + 40 := by omega
  refine W.widen (k := M36.1 - M0.1) (n := 3000 * (M36.1 - M0.1)) (by omega) (by omega) ?_
  obtain ⟨M38, e38, hf⟩ := zb hf
  refine zr_pr (ci := 9) (k := 5) (C := RX9) (T := TX9) (N := 54) hx hb hts hi_X9_init_9 tyX9 tyX9_ok nmX9 hown hK hP hS e38 rfl rfl (by decide) (by decide) (hts (.fieldLink RX9 24 "BoundaryAnalyzerModel" "altLast" "[I") (List.mem_of_getElem? (i := 11) rfl)) (Or.inr ⟨rfl, hin, rfl⟩) (tyX9_ok 5 (by decide)) rfl rfl dX9_init_38 (fun H locs hP hz1 hS => ?_)
  rw [hz] at hz1; have hz := hz1
  have hq := zpR_n e38
  rw [← hq] at hn hu hz
  refine W.widen (k := M38.1 - M0.1) (n := 3000 * (M38.1 - M0.1)) (by omega) (by omega) ?_
  refine lv_aload_n hx hb dX9_init_41 rfl (lv_at hl 0 rfl) ?_
  refine lv_iconst (v := (5 : Int32)) hx hb dX9_init_42 (by decide) ?_
  obtain ⟨M43, e43, hf⟩ := zb hf
  refine zr_na (atype := .boolean) (ty := .boolean) (t0 := 2) hx hb rfl (hts (.arrayClass .boolean) (List.mem_of_getElem? (i := 8) rfl)) hK hP hz hS e43 rfl (Or.inr (Or.inr ⟨rfl, rfl⟩)) (zsL_max _) (fun h9 => by show _ ≤ 40; omega) (fun h9 => by show _ ≤ 120000; omega) dX9_init_43 (fun H hP hz hS hq h9 => ?_)
  have hn : M0.1 ≤ M43.1 := by omega
  have hu : M43.1 ≤ M0.1 + 40 := by omega
  refine W.widen (k := M43.1 - M0.1) (n := 3000 * (M43.1 - M0.1)) (by omega) (by omega) ?_
  obtain ⟨M45, e45, hf⟩ := zb hf
  refine zr_pr (ci := 9) (k := 6) (C := RX9) (T := TX9) (N := 54) hx hb hts hi_X9_init_9 tyX9 tyX9_ok nmX9 hown hK hP hS e45 rfl rfl (by decide) (by decide) (hts (.fieldLink RX9 27 "BoundaryAnalyzerModel" "seqNull" "[Z") (List.mem_of_getElem? (i := 12) rfl)) (Or.inr ⟨rfl, hin, rfl⟩) (tyX9_ok 6 (by decide)) rfl rfl dX9_init_45 (fun H locs hP hz1 hS => ?_)
  rw [hz] at hz1; have hz := hz1
  have hq := zpR_n e45
  rw [← hq] at hn hu hz
  refine W.widen (k := M45.1 - M0.1) (n := 3000 * (M45.1 - M0.1)) (by omega) (by omega) ?_
  refine lv_aload_n hx hb dX9_init_48 rfl (lv_at hl 0 rfl) ?_
  refine lv_iconst (v := (5 : Int32)) hx hb dX9_init_49 (by decide) ?_
  obtain ⟨M50, e50, hf⟩ := zb hf
  refine zr_na (atype := .int) (ty := .int) (t0 := 1) hx hb rfl (hts (.arrayClass .int) (List.mem_of_getElem? (i := 4) rfl)) hK hP hz hS e50 rfl (Or.inr (Or.inl ⟨rfl, rfl⟩)) (zsL_max _) (fun h9 => by show _ ≤ 40; omega) (fun h9 => by show _ ≤ 120000; omega) dX9_init_50 (fun H hP hz hS hq h9 => ?_)
  have hn : M0.1 ≤ M50.1 := by omega
  have hu : M50.1 ≤ M0.1 + 40 := by omega
  refine W.widen (k := M50.1 - M0.1) (n := 3000 * (M50.1 - M0.1)) (by omega) (by omega) ?_
  obtain ⟨M52, e52, hf⟩ := zb hf
  refine zr_pr (ci := 9) (k := 7) (C := RX9) (T := TX9) (N := 54) hx hb hts hi_X9_init_9 tyX9 tyX9_ok nmX9 hown hK hP hS e52 rfl rfl (by decide) (by decide) (hts (.fieldLink RX9 30 "BoundaryAnalyzerModel" "seqFirst" "[I") (List.mem_of_getElem? (i := 13) rfl)) (Or.inr ⟨rfl, hin, rfl⟩) (tyX9_ok 7 (by decide)) rfl rfl dX9_init_52 (fun H locs hP hz1 hS => ?_)
  rw [hz] at hz1; have hz := hz1
  have hq := zpR_n e52
  rw [← hq] at hn hu hz
  refine W.widen (k := M52.1 - M0.1) (n := 3000 * (M52.1 - M0.1)) (by omega) (by omega) ?_
  refine lv_aload_n hx hb dX9_init_55 rfl (lv_at hl 0 rfl) ?_
  refine lv_iconst (v := (5 : Int32)) hx hb dX9_init_56 (by decide) ?_
  obtain ⟨M57, e57, hf⟩ := zb hf
  refine zr_na (atype := .int) (ty := .int) (t0 := 1) hx hb rfl (hts (.arrayClass .int) (List.mem_of_getElem? (i := 4) rfl)) hK hP hz hS e57 rfl (Or.inr (Or.inl ⟨rfl, rfl⟩)) (zsL_max _) (fun h9 => by show _ ≤ 40; omega) (fun h9 => by show _ ≤ 120000; omega) dX9_init_57 (fun H hP hz hS hq h9 => ?_)
  have hn : M0.1 ≤ M57.1 := by omega
  have hu : M57.1 ≤ M0.1 + 40 := by omega
  refine W.widen (k := M57.1 - M0.1) (n := 3000 * (M57.1 - M0.1)) (by omega) (by omega) ?_
  obtain ⟨M59, e59, hf⟩ := zb hf
  refine zr_pr (ci := 9) (k := 8) (C := RX9) (T := TX9) (N := 54) hx hb hts hi_X9_init_9 tyX9 tyX9_ok nmX9 hown hK hP hS e59 rfl rfl (by decide) (by decide) (hts (.fieldLink RX9 33 "BoundaryAnalyzerModel" "seqLast" "[I") (List.mem_of_getElem? (i := 14) rfl)) (Or.inr ⟨rfl, hin, rfl⟩) (tyX9_ok 8 (by decide)) rfl rfl dX9_init_59 (fun H locs hP hz1 hS => ?_)
  rw [hz] at hz1; have hz := hz1
  have hq := zpR_n e59
  rw [← hq] at hn hu hz
  refine W.widen (k := M59.1 - M0.1) (n := 3000 * (M59.1 - M0.1)) (by omega) (by omega) ?_
  refine lv_aload_n hx hb dX9_init_62 rfl (lv_at hl 0 rfl) ?_
  refine lv_iconst (v := (5 : Int32)) hx hb dX9_init_63 (by decide) ?_
  obtain ⟨M64, e64, hf⟩ := zb hf
  refine zr_na (atype := .int) (ty := .int) (t0 := 1) hx hb rfl (hts (.arrayClass .int) (List.mem_of_getElem? (i := 4) rfl)) hK hP hz hS e64 rfl (Or.inr (Or.inl ⟨rfl, rfl⟩)) (zsL_max _) (fun h9 => by show _ ≤ 40; omega) (fun h9 => by show _ ≤ 120000; omega) dX9_init_64 (fun H hP hz hS hq h9 => ?_)
  have hn : M0.1 ≤ M64.1 := by omega
  have hu : M64.1 ≤ M0.1 + 40 := by omega
  refine W.widen (k := M64.1 - M0.1) (n := 3000 * (M64.1 - M0.1)) (by omega) (by omega) ?_
  obtain ⟨M66, e66, hf⟩ := zb hf
  refine zr_pr (ci := 9) (k := 9) (C := RX9) (T := TX9) (N := 54) hx hb hts hi_X9_init_9 tyX9 tyX9_ok nmX9 hown hK hP hS e66 rfl rfl (by decide) (by decide) (hts (.fieldLink RX9 36 "BoundaryAnalyzerModel" "seqMany" "[I") (List.mem_of_getElem? (i := 15) rfl)) (Or.inr ⟨rfl, hin, rfl⟩) (tyX9_ok 9 (by decide)) rfl rfl dX9_init_66 (fun H locs hP hz1 hS => ?_)
  rw [hz] at hz1; have hz := hz1
  have hq := zpR_n e66
  rw [← hq] at hn hu hz
  refine W.widen (k := M66.1 - M0.1) (n := 3000 * (M66.1 - M0.1)) (by omega) (by omega) ?_
  refine lv_aload_n hx hb dX9_init_69 rfl (lv_at hl 0 rfl) ?_
  refine lv_bipush (v := (24 : Int32)) hx hb dX9_init_70 (by decide) ?_
  obtain ⟨M72, e72, hf⟩ := zb hf
  refine zr_na (atype := .int) (ty := .int) (t0 := 1) hx hb rfl (hts (.arrayClass .int) (List.mem_of_getElem? (i := 4) rfl)) hK hP hz hS e72 rfl (Or.inr (Or.inl ⟨rfl, rfl⟩)) (zsL_max _) (fun h9 => by show _ ≤ 40; omega) (fun h9 => by show _ ≤ 120000; omega) dX9_init_72 (fun H hP hz hS hq h9 => ?_)
  have hn : M0.1 ≤ M72.1 := by omega
  have hu : M72.1 ≤ M0.1 + 40 := by omega
  refine W.widen (k := M72.1 - M0.1) (n := 3000 * (M72.1 - M0.1)) (by omega) (by omega) ?_
  obtain ⟨M74, e74, hf⟩ := zb hf
  refine zr_pr (ci := 9) (k := 14) (C := RX9) (T := TX9) (N := 54) hx hb hts hi_X9_init_9 tyX9 tyX9_ok nmX9 hown hK hP hS e74 rfl rfl (by decide) (by decide) (hts (.fieldLink RX9 39 "BoundaryAnalyzerModel" "readClass" "[I") (List.mem_of_getElem? (i := 16) rfl)) (Or.inr ⟨rfl, hin, rfl⟩) (tyX9_ok 14 (by decide)) rfl rfl dX9_init_74 (fun H locs hP hz1 hS => ?_)
  rw [hz] at hz1; have hz := hz1
  have hq := zpR_n e74
  rw [← hq] at hn hu hz
  refine W.widen (k := M74.1 - M0.1) (n := 3000 * (M74.1 - M0.1)) (by omega) (by omega) ?_
  refine lv_aload_n hx hb dX9_init_77 rfl (lv_at hl 0 rfl) ?_
  refine lv_bipush (v := (24 : Int32)) hx hb dX9_init_78 (by decide) ?_
  obtain ⟨M80, e80, hf⟩ := zb hf
  refine zr_na (atype := .int) (ty := .int) (t0 := 1) hx hb rfl (hts (.arrayClass .int) (List.mem_of_getElem? (i := 4) rfl)) hK hP hz hS e80 rfl (Or.inr (Or.inl ⟨rfl, rfl⟩)) (zsL_max _) (fun h9 => by show _ ≤ 40; omega) (fun h9 => by show _ ≤ 120000; omega) dX9_init_80 (fun H hP hz hS hq h9 => ?_)
  have hn : M0.1 ≤ M80.1 := by omega
  have hu : M80.1 ≤ M0.1 + 40 := by omega
  refine W.widen (k := M80.1 - M0.1) (n := 3000 * (M80.1 - M0.1)) (by omega) (by omega) ?_
  obtain ⟨M82, e82, hf⟩ := zb hf
  refine zr_pr (ci := 9) (k := 15) (C := RX9) (T := TX9) (N := 54) hx hb hts hi_X9_init_9 tyX9 tyX9_ok nmX9 hown hK hP hS e82 rfl rfl (by decide) (by decide) (hts (.fieldLink RX9 42 "BoundaryAnalyzerModel" "readNext" "[I") (List.mem_of_getElem? (i := 17) rfl)) (Or.inr ⟨rfl, hin, rfl⟩) (tyX9_ok 15 (by decide)) rfl rfl dX9_init_82 (fun H locs hP hz1 hS => ?_)
  rw [hz] at hz1; have hz := hz1
  have hq := zpR_n e82
  rw [← hq] at hn hu hz
  refine W.widen (k := M82.1 - M0.1) (n := 3000 * (M82.1 - M0.1)) (by omega) (by omega) ?_
  refine lv_aload_n hx hb dX9_init_85 rfl (lv_at hl 0 rfl) ?_
  refine lv_bipush (v := (15 : Int32)) hx hb dX9_init_86 (by decide) ?_
  obtain ⟨M88, e88, hf⟩ := zb hf
  refine zr_na (atype := .int) (ty := .int) (t0 := 1) hx hb rfl (hts (.arrayClass .int) (List.mem_of_getElem? (i := 4) rfl)) hK hP hz hS e88 rfl (Or.inr (Or.inl ⟨rfl, rfl⟩)) (zsL_max _) (fun h9 => by show _ ≤ 40; omega) (fun h9 => by show _ ≤ 120000; omega) dX9_init_88 (fun H hP hz hS hq h9 => ?_)
  have hn : M0.1 ≤ M88.1 := by omega
  have hu : M88.1 ≤ M0.1 + 40 := by omega
  refine W.widen (k := M88.1 - M0.1) (n := 3000 * (M88.1 - M0.1)) (by omega) (by omega) ?_
  obtain ⟨M90, e90, hf⟩ := zb hf
  refine zr_pr (ci := 9) (k := 20) (C := RX9) (T := TX9) (N := 54) hx hb hts hi_X9_init_9 tyX9 tyX9_ok nmX9 hown hK hP hS e90 rfl rfl (by decide) (by decide) (hts (.fieldLink RX9 45 "BoundaryAnalyzerModel" "ruleLong" "[I") (List.mem_of_getElem? (i := 18) rfl)) (Or.inr ⟨rfl, hin, rfl⟩) (tyX9_ok 20 (by decide)) rfl rfl dX9_init_90 (fun H locs hP hz1 hS => ?_)
  rw [hz] at hz1; have hz := hz1
  have hq := zpR_n e90
  rw [← hq] at hn hu hz
  refine W.widen (k := M90.1 - M0.1) (n := 3000 * (M90.1 - M0.1)) (by omega) (by omega) ?_
  refine lv_aload_n hx hb dX9_init_93 rfl (lv_at hl 0 rfl) ?_
  refine lv_sipush (v := (360 : Int32)) hx hb dX9_init_94 (by decide) ?_
  obtain ⟨M97, e97, hf⟩ := zb hf
  refine zr_na (atype := .char) (ty := .char) (t0 := 0) hx hb rfl (hts (.arrayClass .char) (List.mem_of_getElem? (i := 6) rfl)) hK hP hz hS e97 rfl (Or.inl ⟨rfl, rfl⟩) (zsL_max _) (fun h9 => by show _ ≤ 40; omega) (fun h9 => by show _ ≤ 120000; omega) dX9_init_97 (fun H hP hz hS hq h9 => ?_)
  have hn : M0.1 ≤ M97.1 := by omega
  have hu : M97.1 ≤ M0.1 + 40 := by omega
  refine W.widen (k := M97.1 - M0.1) (n := 3000 * (M97.1 - M0.1)) (by omega) (by omega) ?_
  obtain ⟨M99, e99, hf⟩ := zb hf
  refine zr_pr (ci := 9) (k := 21) (C := RX9) (T := TX9) (N := 54) hx hb hts hi_X9_init_9 tyX9 tyX9_ok nmX9 hown hK hP hS e99 rfl rfl (by decide) (by decide) (hts (.fieldLink RX9 48 "BoundaryAnalyzerModel" "ruleAt" "[C") (List.mem_of_getElem? (i := 19) rfl)) (Or.inr ⟨rfl, hin, rfl⟩) (tyX9_ok 21 (by decide)) rfl rfl dX9_init_99 (fun H locs hP hz1 hS => ?_)
  rw [hz] at hz1; have hz := hz1
  have hq := zpR_n e99
  rw [← hq] at hn hu hz
  refine W.widen (k := M99.1 - M0.1) (n := 3000 * (M99.1 - M0.1)) (by omega) (by omega) ?_
  refine lv_aload_n hx hb dX9_init_102 rfl (lv_at hl 0 rfl) ?_
  refine lv_sipush (v := (360 : Int32)) hx hb dX9_init_103 (by decide) ?_
  obtain ⟨M106, e106, hf⟩ := zb hf
  refine zr_na (atype := .int) (ty := .int) (t0 := 1) hx hb rfl (hts (.arrayClass .int) (List.mem_of_getElem? (i := 4) rfl)) hK hP hz hS e106 rfl (Or.inr (Or.inl ⟨rfl, rfl⟩)) (zsL_max _) (fun h9 => by show _ ≤ 40; omega) (fun h9 => by show _ ≤ 120000; omega) dX9_init_106 (fun H hP hz hS hq h9 => ?_)
  have hn : M0.1 ≤ M106.1 := by omega
  have hu : M106.1 ≤ M0.1 + 40 := by omega
  refine W.widen (k := M106.1 - M0.1) (n := 3000 * (M106.1 - M0.1)) (by omega) (by omega) ?_
  obtain ⟨M108, e108, hf⟩ := zb hf
  refine zr_pr (ci := 9) (k := 22) (C := RX9) (T := TX9) (N := 54) hx hb hts hi_X9_init_9 tyX9 tyX9_ok nmX9 hown hK hP hS e108 rfl rfl (by decide) (by decide) (hts (.fieldLink RX9 51 "BoundaryAnalyzerModel" "classOfPlace" "[I") (List.mem_of_getElem? (i := 20) rfl)) (Or.inr ⟨rfl, hin, rfl⟩) (tyX9_ok 22 (by decide)) rfl rfl dX9_init_108 (fun H locs hP hz1 hS => ?_)
  rw [hz] at hz1; have hz := hz1
  have hq := zpR_n e108
  rw [← hq] at hn hu hz
  refine W.widen (k := M108.1 - M0.1) (n := 3000 * (M108.1 - M0.1)) (by omega) (by omega) ?_
  refine lv_aload_n hx hb dX9_init_111 rfl (lv_at hl 0 rfl) ?_
  refine lv_sipush (v := (360 : Int32)) hx hb dX9_init_112 (by decide) ?_
  obtain ⟨M115, e115, hf⟩ := zb hf
  refine zr_na (atype := .int) (ty := .int) (t0 := 1) hx hb rfl (hts (.arrayClass .int) (List.mem_of_getElem? (i := 4) rfl)) hK hP hz hS e115 rfl (Or.inr (Or.inl ⟨rfl, rfl⟩)) (zsL_max _) (fun h9 => by show _ ≤ 40; omega) (fun h9 => by show _ ≤ 120000; omega) dX9_init_115 (fun H hP hz hS hq h9 => ?_)
  have hn : M0.1 ≤ M115.1 := by omega
  have hu : M115.1 ≤ M0.1 + 40 := by omega
  refine W.widen (k := M115.1 - M0.1) (n := 3000 * (M115.1 - M0.1)) (by omega) (by omega) ?_
  obtain ⟨M117, e117, hf⟩ := zb hf
  refine zr_pr (ci := 9) (k := 23) (C := RX9) (T := TX9) (N := 54) hx hb hts hi_X9_init_9 tyX9 tyX9_ok nmX9 hown hK hP hS e117 rfl rfl (by decide) (by decide) (hts (.fieldLink RX9 54 "BoundaryAnalyzerModel" "nextOf" "[I") (List.mem_of_getElem? (i := 21) rfl)) (Or.inr ⟨rfl, hin, rfl⟩) (tyX9_ok 23 (by decide)) rfl rfl dX9_init_117 (fun H locs hP hz1 hS => ?_)
  rw [hz] at hz1; have hz := hz1
  have hq := zpR_n e117
  rw [← hq] at hn hu hz
  refine W.widen (k := M117.1 - M0.1) (n := 3000 * (M117.1 - M0.1)) (by omega) (by omega) ?_
  refine lv_aload_n hx hb dX9_init_120 rfl (lv_at hl 0 rfl) ?_
  refine lv_bipush (v := (15 : Int32)) hx hb dX9_init_121 (by decide) ?_
  obtain ⟨M123, e123, hf⟩ := zb hf
  refine zr_na (atype := .boolean) (ty := .boolean) (t0 := 2) hx hb rfl (hts (.arrayClass .boolean) (List.mem_of_getElem? (i := 8) rfl)) hK hP hz hS e123 rfl (Or.inr (Or.inr ⟨rfl, rfl⟩)) (zsL_max _) (fun h9 => by show _ ≤ 40; omega) (fun h9 => by show _ ≤ 120000; omega) dX9_init_123 (fun H hP hz hS hq h9 => ?_)
  have hn : M0.1 ≤ M123.1 := by omega
  have hu : M123.1 ≤ M0.1 + 40 := by omega
  refine W.widen (k := M123.1 - M0.1) (n := 3000 * (M123.1 - M0.1)) (by omega) (by omega) ?_
  obtain ⟨M125, e125, hf⟩ := zb hf
  refine zr_pr (ci := 9) (k := 24) (C := RX9) (T := TX9) (N := 54) hx hb hts hi_X9_init_9 tyX9 tyX9_ok nmX9 hown hK hP hS e125 rfl rfl (by decide) (by decide) (hts (.fieldLink RX9 57 "BoundaryAnalyzerModel" "looks" "[Z") (List.mem_of_getElem? (i := 22) rfl)) (Or.inr ⟨rfl, hin, rfl⟩) (tyX9_ok 24 (by decide)) rfl rfl dX9_init_125 (fun H locs hP hz1 hS => ?_)
  rw [hz] at hz1; have hz := hz1
  have hq := zpR_n e125
  rw [← hq] at hn hu hz
  refine W.widen (k := M125.1 - M0.1) (n := 3000 * (M125.1 - M0.1)) (by omega) (by omega) ?_
  refine lv_aload_n hx hb dX9_init_128 rfl (lv_at hl 0 rfl) ?_
  refine lv_bipush (v := (15 : Int32)) hx hb dX9_init_129 (by decide) ?_
  obtain ⟨M131, e131, hf⟩ := zb hf
  refine zr_na (atype := .boolean) (ty := .boolean) (t0 := 2) hx hb rfl (hts (.arrayClass .boolean) (List.mem_of_getElem? (i := 8) rfl)) hK hP hz hS e131 rfl (Or.inr (Or.inr ⟨rfl, rfl⟩)) (zsL_max _) (fun h9 => by show _ ≤ 40; omega) (fun h9 => by show _ ≤ 120000; omega) dX9_init_131 (fun H hP hz hS hq h9 => ?_)
  have hn : M0.1 ≤ M131.1 := by omega
  have hu : M131.1 ≤ M0.1 + 40 := by omega
  refine W.widen (k := M131.1 - M0.1) (n := 3000 * (M131.1 - M0.1)) (by omega) (by omega) ?_
  obtain ⟨M133, e133, hf⟩ := zb hf
  refine zr_pr (ci := 9) (k := 25) (C := RX9) (T := TX9) (N := 54) hx hb hts hi_X9_init_9 tyX9 tyX9_ok nmX9 hown hK hP hS e133 rfl rfl (by decide) (by decide) (hts (.fieldLink RX9 60 "BoundaryAnalyzerModel" "bodyNull" "[Z") (List.mem_of_getElem? (i := 23) rfl)) (Or.inr ⟨rfl, hin, rfl⟩) (tyX9_ok 25 (by decide)) rfl rfl dX9_init_133 (fun H locs hP hz1 hS => ?_)
  rw [hz] at hz1; have hz := hz1
  have hq := zpR_n e133
  rw [← hq] at hn hu hz
  refine W.widen (k := M133.1 - M0.1) (n := 3000 * (M133.1 - M0.1)) (by omega) (by omega) ?_
  refine lv_aload_n hx hb dX9_init_136 rfl (lv_at hl 0 rfl) ?_
  refine lv_bipush (v := (15 : Int32)) hx hb dX9_init_137 (by decide) ?_
  obtain ⟨M139, e139, hf⟩ := zb hf
  refine zr_na (atype := .int) (ty := .int) (t0 := 1) hx hb rfl (hts (.arrayClass .int) (List.mem_of_getElem? (i := 4) rfl)) hK hP hz hS e139 rfl (Or.inr (Or.inl ⟨rfl, rfl⟩)) (zsL_max _) (fun h9 => by show _ ≤ 40; omega) (fun h9 => by show _ ≤ 120000; omega) dX9_init_139 (fun H hP hz hS hq h9 => ?_)
  have hn : M0.1 ≤ M139.1 := by omega
  have hu : M139.1 ≤ M0.1 + 40 := by omega
  refine W.widen (k := M139.1 - M0.1) (n := 3000 * (M139.1 - M0.1)) (by omega) (by omega) ?_
  obtain ⟨M141, e141, hf⟩ := zb hf
  refine zr_pr (ci := 9) (k := 26) (C := RX9) (T := TX9) (N := 54) hx hb hts hi_X9_init_9 tyX9 tyX9_ok nmX9 hown hK hP hS e141 rfl rfl (by decide) (by decide) (hts (.fieldLink RX9 63 "BoundaryAnalyzerModel" "bodyFirst" "[I") (List.mem_of_getElem? (i := 24) rfl)) (Or.inr ⟨rfl, hin, rfl⟩) (tyX9_ok 26 (by decide)) rfl rfl dX9_init_141 (fun H locs hP hz1 hS => ?_)
  rw [hz] at hz1; have hz := hz1
  have hq := zpR_n e141
  rw [← hq] at hn hu hz
  refine W.widen (k := M141.1 - M0.1) (n := 3000 * (M141.1 - M0.1)) (by omega) (by omega) ?_
  refine lv_aload_n hx hb dX9_init_144 rfl (lv_at hl 0 rfl) ?_
  refine lv_bipush (v := (15 : Int32)) hx hb dX9_init_145 (by decide) ?_
  obtain ⟨M147, e147, hf⟩ := zb hf
  refine zr_na (atype := .int) (ty := .int) (t0 := 1) hx hb rfl (hts (.arrayClass .int) (List.mem_of_getElem? (i := 4) rfl)) hK hP hz hS e147 rfl (Or.inr (Or.inl ⟨rfl, rfl⟩)) (zsL_max _) (fun h9 => by show _ ≤ 40; omega) (fun h9 => by show _ ≤ 120000; omega) dX9_init_147 (fun H hP hz hS hq h9 => ?_)
  have hn : M0.1 ≤ M147.1 := by omega
  have hu : M147.1 ≤ M0.1 + 40 := by omega
  refine W.widen (k := M147.1 - M0.1) (n := 3000 * (M147.1 - M0.1)) (by omega) (by omega) ?_
  obtain ⟨M149, e149, hf⟩ := zb hf
  refine zr_pr (ci := 9) (k := 27) (C := RX9) (T := TX9) (N := 54) hx hb hts hi_X9_init_9 tyX9 tyX9_ok nmX9 hown hK hP hS e149 rfl rfl (by decide) (by decide) (hts (.fieldLink RX9 66 "BoundaryAnalyzerModel" "bodyLast" "[I") (List.mem_of_getElem? (i := 25) rfl)) (Or.inr ⟨rfl, hin, rfl⟩) (tyX9_ok 27 (by decide)) rfl rfl dX9_init_149 (fun H locs hP hz1 hS => ?_)
  rw [hz] at hz1; have hz := hz1
  have hq := zpR_n e149
  rw [← hq] at hn hu hz
  refine W.widen (k := M149.1 - M0.1) (n := 3000 * (M149.1 - M0.1)) (by omega) (by omega) ?_
  refine lv_aload_n hx hb dX9_init_152 rfl (lv_at hl 0 rfl) ?_
  refine lv_bipush (v := (15 : Int32)) hx hb dX9_init_153 (by decide) ?_
  obtain ⟨M155, e155, hf⟩ := zb hf
  refine zr_na (atype := .boolean) (ty := .boolean) (t0 := 2) hx hb rfl (hts (.arrayClass .boolean) (List.mem_of_getElem? (i := 8) rfl)) hK hP hz hS e155 rfl (Or.inr (Or.inr ⟨rfl, rfl⟩)) (zsL_max _) (fun h9 => by show _ ≤ 40; omega) (fun h9 => by show _ ≤ 120000; omega) dX9_init_155 (fun H hP hz hS hq h9 => ?_)
  have hn : M0.1 ≤ M155.1 := by omega
  have hu : M155.1 ≤ M0.1 + 40 := by omega
  refine W.widen (k := M155.1 - M0.1) (n := 3000 * (M155.1 - M0.1)) (by omega) (by omega) ?_
  obtain ⟨M157, e157, hf⟩ := zb hf
  refine zr_pr (ci := 9) (k := 28) (C := RX9) (T := TX9) (N := 54) hx hb hts hi_X9_init_9 tyX9 tyX9_ok nmX9 hown hK hP hS e157 rfl rfl (by decide) (by decide) (hts (.fieldLink RX9 69 "BoundaryAnalyzerModel" "lookNull" "[Z") (List.mem_of_getElem? (i := 26) rfl)) (Or.inr ⟨rfl, hin, rfl⟩) (tyX9_ok 28 (by decide)) rfl rfl dX9_init_157 (fun H locs hP hz1 hS => ?_)
  rw [hz] at hz1; have hz := hz1
  have hq := zpR_n e157
  rw [← hq] at hn hu hz
  refine W.widen (k := M157.1 - M0.1) (n := 3000 * (M157.1 - M0.1)) (by omega) (by omega) ?_
  refine lv_aload_n hx hb dX9_init_160 rfl (lv_at hl 0 rfl) ?_
  refine lv_bipush (v := (15 : Int32)) hx hb dX9_init_161 (by decide) ?_
  obtain ⟨M163, e163, hf⟩ := zb hf
  refine zr_na (atype := .int) (ty := .int) (t0 := 1) hx hb rfl (hts (.arrayClass .int) (List.mem_of_getElem? (i := 4) rfl)) hK hP hz hS e163 rfl (Or.inr (Or.inl ⟨rfl, rfl⟩)) (zsL_max _) (fun h9 => by show _ ≤ 40; omega) (fun h9 => by show _ ≤ 120000; omega) dX9_init_163 (fun H hP hz hS hq h9 => ?_)
  have hn : M0.1 ≤ M163.1 := by omega
  have hu : M163.1 ≤ M0.1 + 40 := by omega
  refine W.widen (k := M163.1 - M0.1) (n := 3000 * (M163.1 - M0.1)) (by omega) (by omega) ?_
  obtain ⟨M165, e165, hf⟩ := zb hf
  refine zr_pr (ci := 9) (k := 29) (C := RX9) (T := TX9) (N := 54) hx hb hts hi_X9_init_9 tyX9 tyX9_ok nmX9 hown hK hP hS e165 rfl rfl (by decide) (by decide) (hts (.fieldLink RX9 72 "BoundaryAnalyzerModel" "lookFirst" "[I") (List.mem_of_getElem? (i := 27) rfl)) (Or.inr ⟨rfl, hin, rfl⟩) (tyX9_ok 29 (by decide)) rfl rfl dX9_init_165 (fun H locs hP hz1 hS => ?_)
  rw [hz] at hz1; have hz := hz1
  have hq := zpR_n e165
  rw [← hq] at hn hu hz
  refine W.widen (k := M165.1 - M0.1) (n := 3000 * (M165.1 - M0.1)) (by omega) (by omega) ?_
  refine lv_aload_n hx hb dX9_init_168 rfl (lv_at hl 0 rfl) ?_
  refine lv_bipush (v := (15 : Int32)) hx hb dX9_init_169 (by decide) ?_
  obtain ⟨M171, e171, hf⟩ := zb hf
  refine zr_na (atype := .int) (ty := .int) (t0 := 1) hx hb rfl (hts (.arrayClass .int) (List.mem_of_getElem? (i := 4) rfl)) hK hP hz hS e171 rfl (Or.inr (Or.inl ⟨rfl, rfl⟩)) (zsL_max _) (fun h9 => by show _ ≤ 40; omega) (fun h9 => by show _ ≤ 120000; omega) dX9_init_171 (fun H hP hz hS hq h9 => ?_)
  have hn : M0.1 ≤ M171.1 := by omega
  have hu : M171.1 ≤ M0.1 + 40 := by omega
  refine W.widen (k := M171.1 - M0.1) (n := 3000 * (M171.1 - M0.1)) (by omega) (by omega) ?_
  obtain ⟨M173, e173, hf⟩ := zb hf
  refine zr_pr (ci := 9) (k := 30) (C := RX9) (T := TX9) (N := 54) hx hb hts hi_X9_init_9 tyX9 tyX9_ok nmX9 hown hK hP hS e173 rfl rfl (by decide) (by decide) (hts (.fieldLink RX9 75 "BoundaryAnalyzerModel" "lookLast" "[I") (List.mem_of_getElem? (i := 28) rfl)) (Or.inr ⟨rfl, hin, rfl⟩) (tyX9_ok 30 (by decide)) rfl rfl dX9_init_173 (fun H locs hP hz1 hS => ?_)
  rw [hz] at hz1; have hz := hz1
  have hq := zpR_n e173
  rw [← hq] at hn hu hz
  refine W.widen (k := M173.1 - M0.1) (n := 3000 * (M173.1 - M0.1)) (by omega) (by omega) ?_
  refine lv_aload_n hx hb dX9_init_176 rfl (lv_at hl 0 rfl) ?_
  refine lv_bipush (v := (100 : Int32)) hx hb dX9_init_177 (by decide) ?_
  obtain ⟨M179, e179, hf⟩ := zb hf
  refine zr_na (atype := .char) (ty := .char) (t0 := 0) hx hb rfl (hts (.arrayClass .char) (List.mem_of_getElem? (i := 6) rfl)) hK hP hz hS e179 rfl (Or.inl ⟨rfl, rfl⟩) (zsL_max _) (fun h9 => by show _ ≤ 40; omega) (fun h9 => by show _ ≤ 120000; omega) dX9_init_179 (fun H hP hz hS hq h9 => ?_)
  have hn : M0.1 ≤ M179.1 := by omega
  have hu : M179.1 ≤ M0.1 + 40 := by omega
  refine W.widen (k := M179.1 - M0.1) (n := 3000 * (M179.1 - M0.1)) (by omega) (by omega) ?_
  obtain ⟨M181, e181, hf⟩ := zb hf
  refine zr_pr (ci := 9) (k := 32) (C := RX9) (T := TX9) (N := 54) hx hb hts hi_X9_init_9 tyX9 tyX9_ok nmX9 hown hK hP hS e181 rfl rfl (by decide) (by decide) (hts (.fieldLink RX9 78 "BoundaryAnalyzerModel" "text" "[C") (List.mem_of_getElem? (i := 29) rfl)) (Or.inr ⟨rfl, hin, rfl⟩) (tyX9_ok 32 (by decide)) rfl rfl dX9_init_181 (fun H locs hP hz1 hS => ?_)
  rw [hz] at hz1; have hz := hz1
  have hq := zpR_n e181
  rw [← hq] at hn hu hz
  refine W.widen (k := M181.1 - M0.1) (n := 3000 * (M181.1 - M0.1)) (by omega) (by omega) ?_
  refine lv_aload_n hx hb dX9_init_184 rfl (lv_at hl 0 rfl) ?_
  refine lv_iconst (v := (3 : Int32)) hx hb dX9_init_185 (by decide) ?_
  obtain ⟨M186, e186, hf⟩ := zb hf
  refine zr_na (atype := .int) (ty := .int) (t0 := 1) hx hb rfl (hts (.arrayClass .int) (List.mem_of_getElem? (i := 4) rfl)) hK hP hz hS e186 rfl (Or.inr (Or.inl ⟨rfl, rfl⟩)) (zsL_max _) (fun h9 => by show _ ≤ 40; omega) (fun h9 => by show _ ≤ 120000; omega) dX9_init_186 (fun H hP hz hS hq h9 => ?_)
  have hn : M0.1 ≤ M186.1 := by omega
  have hu : M186.1 ≤ M0.1 + 40 := by omega
  refine W.widen (k := M186.1 - M0.1) (n := 3000 * (M186.1 - M0.1)) (by omega) (by omega) ?_
  obtain ⟨M188, e188, hf⟩ := zb hf
  refine zr_pr (ci := 9) (k := 33) (C := RX9) (T := TX9) (N := 54) hx hb hts hi_X9_init_9 tyX9 tyX9_ok nmX9 hown hK hP hS e188 rfl rfl (by decide) (by decide) (hts (.fieldLink RX9 81 "BoundaryAnalyzerModel" "rawMany" "[I") (List.mem_of_getElem? (i := 30) rfl)) (Or.inr ⟨rfl, hin, rfl⟩) (tyX9_ok 33 (by decide)) rfl rfl dX9_init_188 (fun H locs hP hz1 hS => ?_)
  rw [hz] at hz1; have hz := hz1
  have hq := zpR_n e188
  rw [← hq] at hn hu hz
  refine W.widen (k := M188.1 - M0.1) (n := 3000 * (M188.1 - M0.1)) (by omega) (by omega) ?_
  refine lv_aload_n hx hb dX9_init_191 rfl (lv_at hl 0 rfl) ?_
  refine lv_sipush (v := (303 : Int32)) hx hb dX9_init_192 (by decide) ?_
  obtain ⟨M195, e195, hf⟩ := zb hf
  refine zr_na (atype := .int) (ty := .int) (t0 := 1) hx hb rfl (hts (.arrayClass .int) (List.mem_of_getElem? (i := 4) rfl)) hK hP hz hS e195 rfl (Or.inr (Or.inl ⟨rfl, rfl⟩)) (zsL_max _) (fun h9 => by show _ ≤ 40; omega) (fun h9 => by show _ ≤ 120000; omega) dX9_init_195 (fun H hP hz hS hq h9 => ?_)
  have hn : M0.1 ≤ M195.1 := by omega
  have hu : M195.1 ≤ M0.1 + 40 := by omega
  refine W.widen (k := M195.1 - M0.1) (n := 3000 * (M195.1 - M0.1)) (by omega) (by omega) ?_
  obtain ⟨M197, e197, hf⟩ := zb hf
  refine zr_pr (ci := 9) (k := 34) (C := RX9) (T := TX9) (N := 54) hx hb hts hi_X9_init_9 tyX9 tyX9_ok nmX9 hown hK hP hS e197 rfl rfl (by decide) (by decide) (hts (.fieldLink RX9 84 "BoundaryAnalyzerModel" "rawAt" "[I") (List.mem_of_getElem? (i := 31) rfl)) (Or.inr ⟨rfl, hin, rfl⟩) (tyX9_ok 34 (by decide)) rfl rfl dX9_init_197 (fun H locs hP hz1 hS => ?_)
  rw [hz] at hz1; have hz := hz1
  have hq := zpR_n e197
  rw [← hq] at hn hu hz
  refine W.widen (k := M197.1 - M0.1) (n := 3000 * (M197.1 - M0.1)) (by omega) (by omega) ?_
  refine lv_aload_n hx hb dX9_init_200 rfl (lv_at hl 0 rfl) ?_
  refine lv_iconst (v := (3 : Int32)) hx hb dX9_init_201 (by decide) ?_
  obtain ⟨M202, e202, hf⟩ := zb hf
  refine zr_na (atype := .int) (ty := .int) (t0 := 1) hx hb rfl (hts (.arrayClass .int) (List.mem_of_getElem? (i := 4) rfl)) hK hP hz hS e202 rfl (Or.inr (Or.inl ⟨rfl, rfl⟩)) (zsL_max _) (fun h9 => by show _ ≤ 40; omega) (fun h9 => by show _ ≤ 120000; omega) dX9_init_202 (fun H hP hz hS hq h9 => ?_)
  have hn : M0.1 ≤ M202.1 := by omega
  have hu : M202.1 ≤ M0.1 + 40 := by omega
  refine W.widen (k := M202.1 - M0.1) (n := 3000 * (M202.1 - M0.1)) (by omega) (by omega) ?_
  obtain ⟨M204, e204, hf⟩ := zb hf
  refine zr_pr (ci := 9) (k := 35) (C := RX9) (T := TX9) (N := 54) hx hb hts hi_X9_init_9 tyX9 tyX9_ok nmX9 hown hK hP hS e204 rfl rfl (by decide) (by decide) (hts (.fieldLink RX9 87 "BoundaryAnalyzerModel" "workOf" "[I") (List.mem_of_getElem? (i := 32) rfl)) (Or.inr ⟨rfl, hin, rfl⟩) (tyX9_ok 35 (by decide)) rfl rfl dX9_init_204 (fun H locs hP hz1 hS => ?_)
  rw [hz] at hz1; have hz := hz1
  have hq := zpR_n e204
  rw [← hq] at hn hu hz
  refine W.widen (k := M204.1 - M0.1) (n := 3000 * (M204.1 - M0.1)) (by omega) (by omega) ?_
  refine lv_aload_n hx hb dX9_init_207 rfl (lv_at hl 0 rfl) ?_
  refine lv_iconst (v := (3 : Int32)) hx hb dX9_init_208 (by decide) ?_
  obtain ⟨M209, e209, hf⟩ := zb hf
  refine zr_na (atype := .int) (ty := .int) (t0 := 1) hx hb rfl (hts (.arrayClass .int) (List.mem_of_getElem? (i := 4) rfl)) hK hP hz hS e209 rfl (Or.inr (Or.inl ⟨rfl, rfl⟩)) (zsL_max _) (fun h9 => by show _ ≤ 40; omega) (fun h9 => by show _ ≤ 120000; omega) dX9_init_209 (fun H hP hz hS hq h9 => ?_)
  have hn : M0.1 ≤ M209.1 := by omega
  have hu : M209.1 ≤ M0.1 + 40 := by omega
  refine W.widen (k := M209.1 - M0.1) (n := 3000 * (M209.1 - M0.1)) (by omega) (by omega) ?_
  obtain ⟨M211, e211, hf⟩ := zb hf
  refine zr_pr (ci := 9) (k := 36) (C := RX9) (T := TX9) (N := 54) hx hb hts hi_X9_init_9 tyX9 tyX9_ok nmX9 hown hK hP hS e211 rfl rfl (by decide) (by decide) (hts (.fieldLink RX9 90 "BoundaryAnalyzerModel" "startOf" "[I") (List.mem_of_getElem? (i := 33) rfl)) (Or.inr ⟨rfl, hin, rfl⟩) (tyX9_ok 36 (by decide)) rfl rfl dX9_init_211 (fun H locs hP hz1 hS => ?_)
  rw [hz] at hz1; have hz := hz1
  have hq := zpR_n e211
  rw [← hq] at hn hu hz
  refine W.widen (k := M211.1 - M0.1) (n := 3000 * (M211.1 - M0.1)) (by omega) (by omega) ?_
  refine lv_aload_n hx hb dX9_init_214 rfl (lv_at hl 0 rfl) ?_
  refine lv_bipush (v := (101 : Int32)) hx hb dX9_init_215 (by decide) ?_
  obtain ⟨M217, e217, hf⟩ := zb hf
  refine zr_na (atype := .int) (ty := .int) (t0 := 1) hx hb rfl (hts (.arrayClass .int) (List.mem_of_getElem? (i := 4) rfl)) hK hP hz hS e217 rfl (Or.inr (Or.inl ⟨rfl, rfl⟩)) (zsL_max _) (fun h9 => by show _ ≤ 40; omega) (fun h9 => by show _ ≤ 120000; omega) dX9_init_217 (fun H hP hz hS hq h9 => ?_)
  have hn : M0.1 ≤ M217.1 := by omega
  have hu : M217.1 ≤ M0.1 + 40 := by omega
  refine W.widen (k := M217.1 - M0.1) (n := 3000 * (M217.1 - M0.1)) (by omega) (by omega) ?_
  obtain ⟨M219, e219, hf⟩ := zb hf
  refine zr_pr (ci := 9) (k := 37) (C := RX9) (T := TX9) (N := 54) hx hb hts hi_X9_init_9 tyX9 tyX9_ok nmX9 hown hK hP hS e219 rfl rfl (by decide) (by decide) (hts (.fieldLink RX9 93 "BoundaryAnalyzerModel" "old" "[I") (List.mem_of_getElem? (i := 34) rfl)) (Or.inr ⟨rfl, hin, rfl⟩) (tyX9_ok 37 (by decide)) rfl rfl dX9_init_219 (fun H locs hP hz1 hS => ?_)
  rw [hz] at hz1; have hz := hz1
  have hq := zpR_n e219
  rw [← hq] at hn hu hz
  refine W.widen (k := M219.1 - M0.1) (n := 3000 * (M219.1 - M0.1)) (by omega) (by omega) ?_
  refine lv_aload_n hx hb dX9_init_222 rfl (lv_at hl 0 rfl) ?_
  refine lv_bipush (v := (100 : Int32)) hx hb dX9_init_223 (by decide) ?_
  obtain ⟨M225, e225, hf⟩ := zb hf
  refine zr_na (atype := .char) (ty := .char) (t0 := 0) hx hb rfl (hts (.arrayClass .char) (List.mem_of_getElem? (i := 6) rfl)) hK hP hz hS e225 rfl (Or.inl ⟨rfl, rfl⟩) (zsL_max _) (fun h9 => by show _ ≤ 40; omega) (fun h9 => by show _ ≤ 120000; omega) dX9_init_225 (fun H hP hz hS hq h9 => ?_)
  have hn : M0.1 ≤ M225.1 := by omega
  have hu : M225.1 ≤ M0.1 + 40 := by omega
  refine W.widen (k := M225.1 - M0.1) (n := 3000 * (M225.1 - M0.1)) (by omega) (by omega) ?_
  obtain ⟨M227, e227, hf⟩ := zb hf
  refine zr_pr (ci := 9) (k := 38) (C := RX9) (T := TX9) (N := 54) hx hb hts hi_X9_init_9 tyX9 tyX9_ok nmX9 hown hK hP hS e227 rfl rfl (by decide) (by decide) (hts (.fieldLink RX9 96 "BoundaryAnalyzerModel" "editText" "[C") (List.mem_of_getElem? (i := 35) rfl)) (Or.inr ⟨rfl, hin, rfl⟩) (tyX9_ok 38 (by decide)) rfl rfl dX9_init_227 (fun H locs hP hz1 hS => ?_)
  rw [hz] at hz1; have hz := hz1
  have hq := zpR_n e227
  rw [← hq] at hn hu hz
  refine W.widen (k := M227.1 - M0.1) (n := 3000 * (M227.1 - M0.1)) (by omega) (by omega) ?_
  refine lv_aload_n hx hb dX9_init_230 rfl (lv_at hl 0 rfl) ?_
  refine lv_bipush (v := (30 : Int32)) hx hb dX9_init_231 (by decide) ?_
  obtain ⟨M233, e233, hf⟩ := zb hf
  refine zr_na (atype := .boolean) (ty := .boolean) (t0 := 2) hx hb rfl (hts (.arrayClass .boolean) (List.mem_of_getElem? (i := 8) rfl)) hK hP hz hS e233 rfl (Or.inr (Or.inr ⟨rfl, rfl⟩)) (zsL_max _) (fun h9 => by show _ ≤ 40; omega) (fun h9 => by show _ ≤ 120000; omega) dX9_init_233 (fun H hP hz hS hq h9 => ?_)
  have hn : M0.1 ≤ M233.1 := by omega
  have hu : M233.1 ≤ M0.1 + 40 := by omega
  refine W.widen (k := M233.1 - M0.1) (n := 3000 * (M233.1 - M0.1)) (by omega) (by omega) ?_
  obtain ⟨M235, e235, hf⟩ := zb hf
  refine zr_pr (ci := 9) (k := 40) (C := RX9) (T := TX9) (N := 54) hx hb hts hi_X9_init_9 tyX9 tyX9_ok nmX9 hown hK hP hS e235 rfl rfl (by decide) (by decide) (hts (.fieldLink RX9 99 "BoundaryAnalyzerModel" "undoPuts" "[Z") (List.mem_of_getElem? (i := 36) rfl)) (Or.inr ⟨rfl, hin, rfl⟩) (tyX9_ok 40 (by decide)) rfl rfl dX9_init_235 (fun H locs hP hz1 hS => ?_)
  rw [hz] at hz1; have hz := hz1
  have hq := zpR_n e235
  rw [← hq] at hn hu hz
  refine W.widen (k := M235.1 - M0.1) (n := 3000 * (M235.1 - M0.1)) (by omega) (by omega) ?_
  refine lv_aload_n hx hb dX9_init_238 rfl (lv_at hl 0 rfl) ?_
  refine lv_bipush (v := (30 : Int32)) hx hb dX9_init_239 (by decide) ?_
  obtain ⟨M241, e241, hf⟩ := zb hf
  refine zr_na (atype := .int) (ty := .int) (t0 := 1) hx hb rfl (hts (.arrayClass .int) (List.mem_of_getElem? (i := 4) rfl)) hK hP hz hS e241 rfl (Or.inr (Or.inl ⟨rfl, rfl⟩)) (zsL_max _) (fun h9 => by show _ ≤ 40; omega) (fun h9 => by show _ ≤ 120000; omega) dX9_init_241 (fun H hP hz hS hq h9 => ?_)
  have hn : M0.1 ≤ M241.1 := by omega
  have hu : M241.1 ≤ M0.1 + 40 := by omega
  refine W.widen (k := M241.1 - M0.1) (n := 3000 * (M241.1 - M0.1)) (by omega) (by omega) ?_
  obtain ⟨M243, e243, hf⟩ := zb hf
  refine zr_pr (ci := 9) (k := 41) (C := RX9) (T := TX9) (N := 54) hx hb hts hi_X9_init_9 tyX9 tyX9_ok nmX9 hown hK hP hS e243 rfl rfl (by decide) (by decide) (hts (.fieldLink RX9 102 "BoundaryAnalyzerModel" "undoAt" "[I") (List.mem_of_getElem? (i := 37) rfl)) (Or.inr ⟨rfl, hin, rfl⟩) (tyX9_ok 41 (by decide)) rfl rfl dX9_init_243 (fun H locs hP hz1 hS => ?_)
  rw [hz] at hz1; have hz := hz1
  have hq := zpR_n e243
  rw [← hq] at hn hu hz
  refine W.widen (k := M243.1 - M0.1) (n := 3000 * (M243.1 - M0.1)) (by omega) (by omega) ?_
  refine lv_aload_n hx hb dX9_init_246 rfl (lv_at hl 0 rfl) ?_
  refine lv_bipush (v := (30 : Int32)) hx hb dX9_init_247 (by decide) ?_
  obtain ⟨M249, e249, hf⟩ := zb hf
  refine zr_na (atype := .int) (ty := .int) (t0 := 1) hx hb rfl (hts (.arrayClass .int) (List.mem_of_getElem? (i := 4) rfl)) hK hP hz hS e249 rfl (Or.inr (Or.inl ⟨rfl, rfl⟩)) (zsL_max _) (fun h9 => by show _ ≤ 40; omega) (fun h9 => by show _ ≤ 120000; omega) dX9_init_249 (fun H hP hz hS hq h9 => ?_)
  have hn : M0.1 ≤ M249.1 := by omega
  have hu : M249.1 ≤ M0.1 + 40 := by omega
  refine W.widen (k := M249.1 - M0.1) (n := 3000 * (M249.1 - M0.1)) (by omega) (by omega) ?_
  obtain ⟨M251, e251, hf⟩ := zb hf
  refine zr_pr (ci := 9) (k := 42) (C := RX9) (T := TX9) (N := 54) hx hb hts hi_X9_init_9 tyX9 tyX9_ok nmX9 hown hK hP hS e251 rfl rfl (by decide) (by decide) (hts (.fieldLink RX9 105 "BoundaryAnalyzerModel" "undoLong" "[I") (List.mem_of_getElem? (i := 38) rfl)) (Or.inr ⟨rfl, hin, rfl⟩) (tyX9_ok 42 (by decide)) rfl rfl dX9_init_251 (fun H locs hP hz1 hS => ?_)
  rw [hz] at hz1; have hz := hz1
  have hq := zpR_n e251
  rw [← hq] at hn hu hz
  refine W.widen (k := M251.1 - M0.1) (n := 3000 * (M251.1 - M0.1)) (by omega) (by omega) ?_
  refine lv_aload_n hx hb dX9_init_254 rfl (lv_at hl 0 rfl) ?_
  refine lv_sipush (v := (3000 : Int32)) hx hb dX9_init_255 (by decide) ?_
  obtain ⟨M258, e258, hf⟩ := zb hf
  refine zr_na (atype := .char) (ty := .char) (t0 := 0) hx hb rfl (hts (.arrayClass .char) (List.mem_of_getElem? (i := 6) rfl)) hK hP hz hS e258 rfl (Or.inl ⟨rfl, rfl⟩) (zsL_max _) (fun h9 => by show _ ≤ 40; omega) (fun h9 => by show _ ≤ 120000; omega) dX9_init_258 (fun H hP hz hS hq h9 => ?_)
  have hn : M0.1 ≤ M258.1 := by omega
  have hu : M258.1 ≤ M0.1 + 40 := by omega
  refine W.widen (k := M258.1 - M0.1) (n := 3000 * (M258.1 - M0.1)) (by omega) (by omega) ?_
  obtain ⟨M260, e260, hf⟩ := zb hf
  refine zr_pr (ci := 9) (k := 43) (C := RX9) (T := TX9) (N := 54) hx hb hts hi_X9_init_9 tyX9 tyX9_ok nmX9 hown hK hP hS e260 rfl rfl (by decide) (by decide) (hts (.fieldLink RX9 108 "BoundaryAnalyzerModel" "undoText" "[C") (List.mem_of_getElem? (i := 39) rfl)) (Or.inr ⟨rfl, hin, rfl⟩) (tyX9_ok 43 (by decide)) rfl rfl dX9_init_260 (fun H locs hP hz1 hS => ?_)
  rw [hz] at hz1; have hz := hz1
  have hq := zpR_n e260
  rw [← hq] at hn hu hz
  refine W.widen (k := M260.1 - M0.1) (n := 3000 * (M260.1 - M0.1)) (by omega) (by omega) ?_
  refine lv_aload_n hx hb dX9_init_263 rfl (lv_at hl 0 rfl) ?_
  refine lv_bipush (v := (30 : Int32)) hx hb dX9_init_264 (by decide) ?_
  obtain ⟨M266, e266, hf⟩ := zb hf
  refine zr_na (atype := .boolean) (ty := .boolean) (t0 := 2) hx hb rfl (hts (.arrayClass .boolean) (List.mem_of_getElem? (i := 8) rfl)) hK hP hz hS e266 rfl (Or.inr (Or.inr ⟨rfl, rfl⟩)) (zsL_max _) (fun h9 => by show _ ≤ 40; omega) (fun h9 => by show _ ≤ 120000; omega) dX9_init_266 (fun H hP hz hS hq h9 => ?_)
  have hn : M0.1 ≤ M266.1 := by omega
  have hu : M266.1 ≤ M0.1 + 40 := by omega
  refine W.widen (k := M266.1 - M0.1) (n := 3000 * (M266.1 - M0.1)) (by omega) (by omega) ?_
  obtain ⟨M268, e268, hf⟩ := zb hf
  refine zr_pr (ci := 9) (k := 45) (C := RX9) (T := TX9) (N := 54) hx hb hts hi_X9_init_9 tyX9 tyX9_ok nmX9 hown hK hP hS e268 rfl rfl (by decide) (by decide) (hts (.fieldLink RX9 111 "BoundaryAnalyzerModel" "redoPuts" "[Z") (List.mem_of_getElem? (i := 40) rfl)) (Or.inr ⟨rfl, hin, rfl⟩) (tyX9_ok 45 (by decide)) rfl rfl dX9_init_268 (fun H locs hP hz1 hS => ?_)
  rw [hz] at hz1; have hz := hz1
  have hq := zpR_n e268
  rw [← hq] at hn hu hz
  refine W.widen (k := M268.1 - M0.1) (n := 3000 * (M268.1 - M0.1)) (by omega) (by omega) ?_
  refine lv_aload_n hx hb dX9_init_271 rfl (lv_at hl 0 rfl) ?_
  refine lv_bipush (v := (30 : Int32)) hx hb dX9_init_272 (by decide) ?_
  obtain ⟨M274, e274, hf⟩ := zb hf
  refine zr_na (atype := .int) (ty := .int) (t0 := 1) hx hb rfl (hts (.arrayClass .int) (List.mem_of_getElem? (i := 4) rfl)) hK hP hz hS e274 rfl (Or.inr (Or.inl ⟨rfl, rfl⟩)) (zsL_max _) (fun h9 => by show _ ≤ 40; omega) (fun h9 => by show _ ≤ 120000; omega) dX9_init_274 (fun H hP hz hS hq h9 => ?_)
  have hn : M0.1 ≤ M274.1 := by omega
  have hu : M274.1 ≤ M0.1 + 40 := by omega
  refine W.widen (k := M274.1 - M0.1) (n := 3000 * (M274.1 - M0.1)) (by omega) (by omega) ?_
  obtain ⟨M276, e276, hf⟩ := zb hf
  refine zr_pr (ci := 9) (k := 46) (C := RX9) (T := TX9) (N := 54) hx hb hts hi_X9_init_9 tyX9 tyX9_ok nmX9 hown hK hP hS e276 rfl rfl (by decide) (by decide) (hts (.fieldLink RX9 114 "BoundaryAnalyzerModel" "redoAt" "[I") (List.mem_of_getElem? (i := 41) rfl)) (Or.inr ⟨rfl, hin, rfl⟩) (tyX9_ok 46 (by decide)) rfl rfl dX9_init_276 (fun H locs hP hz1 hS => ?_)
  rw [hz] at hz1; have hz := hz1
  have hq := zpR_n e276
  rw [← hq] at hn hu hz
  refine W.widen (k := M276.1 - M0.1) (n := 3000 * (M276.1 - M0.1)) (by omega) (by omega) ?_
  refine lv_aload_n hx hb dX9_init_279 rfl (lv_at hl 0 rfl) ?_
  refine lv_bipush (v := (30 : Int32)) hx hb dX9_init_280 (by decide) ?_
  obtain ⟨M282, e282, hf⟩ := zb hf
  refine zr_na (atype := .int) (ty := .int) (t0 := 1) hx hb rfl (hts (.arrayClass .int) (List.mem_of_getElem? (i := 4) rfl)) hK hP hz hS e282 rfl (Or.inr (Or.inl ⟨rfl, rfl⟩)) (zsL_max _) (fun h9 => by show _ ≤ 40; omega) (fun h9 => by show _ ≤ 120000; omega) dX9_init_282 (fun H hP hz hS hq h9 => ?_)
  have hn : M0.1 ≤ M282.1 := by omega
  have hu : M282.1 ≤ M0.1 + 40 := by omega
  refine W.widen (k := M282.1 - M0.1) (n := 3000 * (M282.1 - M0.1)) (by omega) (by omega) ?_
  obtain ⟨M284, e284, hf⟩ := zb hf
  refine zr_pr (ci := 9) (k := 47) (C := RX9) (T := TX9) (N := 54) hx hb hts hi_X9_init_9 tyX9 tyX9_ok nmX9 hown hK hP hS e284 rfl rfl (by decide) (by decide) (hts (.fieldLink RX9 117 "BoundaryAnalyzerModel" "redoLong" "[I") (List.mem_of_getElem? (i := 42) rfl)) (Or.inr ⟨rfl, hin, rfl⟩) (tyX9_ok 47 (by decide)) rfl rfl dX9_init_284 (fun H locs hP hz1 hS => ?_)
  rw [hz] at hz1; have hz := hz1
  have hq := zpR_n e284
  rw [← hq] at hn hu hz
  refine W.widen (k := M284.1 - M0.1) (n := 3000 * (M284.1 - M0.1)) (by omega) (by omega) ?_
  refine lv_aload_n hx hb dX9_init_287 rfl (lv_at hl 0 rfl) ?_
  refine lv_sipush (v := (3000 : Int32)) hx hb dX9_init_288 (by decide) ?_
  obtain ⟨M291, e291, hf⟩ := zb hf
  refine zr_na (atype := .char) (ty := .char) (t0 := 0) hx hb rfl (hts (.arrayClass .char) (List.mem_of_getElem? (i := 6) rfl)) hK hP hz hS e291 rfl (Or.inl ⟨rfl, rfl⟩) (zsL_max _) (fun h9 => by show _ ≤ 40; omega) (fun h9 => by show _ ≤ 120000; omega) dX9_init_291 (fun H hP hz hS hq h9 => ?_)
  have hn : M0.1 ≤ M291.1 := by omega
  have hu : M291.1 ≤ M0.1 + 40 := by omega
  refine W.widen (k := M291.1 - M0.1) (n := 3000 * (M291.1 - M0.1)) (by omega) (by omega) ?_
  obtain ⟨M293, e293, hf⟩ := zb hf
  refine zr_pr (ci := 9) (k := 48) (C := RX9) (T := TX9) (N := 54) hx hb hts hi_X9_init_9 tyX9 tyX9_ok nmX9 hown hK hP hS e293 rfl rfl (by decide) (by decide) (hts (.fieldLink RX9 120 "BoundaryAnalyzerModel" "redoText" "[C") (List.mem_of_getElem? (i := 43) rfl)) (Or.inr ⟨rfl, hin, rfl⟩) (tyX9_ok 48 (by decide)) rfl rfl dX9_init_293 (fun H locs hP hz1 hS => ?_)
  rw [hz] at hz1; have hz := hz1
  have hq := zpR_n e293
  rw [← hq] at hn hu hz
  refine W.widen (k := M293.1 - M0.1) (n := 3000 * (M293.1 - M0.1)) (by omega) (by omega) ?_
  refine lv_aload_n hx hb dX9_init_296 rfl (lv_at hl 0 rfl) ?_
  refine lv_bipush (v := (10 : Int32)) hx hb dX9_init_297 (by decide) ?_
  obtain ⟨M299, e299, hf⟩ := zb hf
  refine zr_na (atype := .int) (ty := .int) (t0 := 1) hx hb rfl (hts (.arrayClass .int) (List.mem_of_getElem? (i := 4) rfl)) hK hP hz hS e299 rfl (Or.inr (Or.inl ⟨rfl, rfl⟩)) (zsL_max _) (fun h9 => by show _ ≤ 40; omega) (fun h9 => by show _ ≤ 120000; omega) dX9_init_299 (fun H hP hz hS hq h9 => ?_)
  have hn : M0.1 ≤ M299.1 := by omega
  have hu : M299.1 ≤ M0.1 + 40 := by omega
  refine W.widen (k := M299.1 - M0.1) (n := 3000 * (M299.1 - M0.1)) (by omega) (by omega) ?_
  obtain ⟨M301, e301, hf⟩ := zb hf
  refine zr_pr (ci := 9) (k := 50) (C := RX9) (T := TX9) (N := 54) hx hb hts hi_X9_init_9 tyX9 tyX9_ok nmX9 hown hK hP hS e301 rfl rfl (by decide) (by decide) (hts (.fieldLink RX9 123 "BoundaryAnalyzerModel" "exceptionLong" "[I") (List.mem_of_getElem? (i := 44) rfl)) (Or.inr ⟨rfl, hin, rfl⟩) (tyX9_ok 50 (by decide)) rfl rfl dX9_init_301 (fun H locs hP hz1 hS => ?_)
  rw [hz] at hz1; have hz := hz1
  have hq := zpR_n e301
  rw [← hq] at hn hu hz
  refine W.widen (k := M301.1 - M0.1) (n := 3000 * (M301.1 - M0.1)) (by omega) (by omega) ?_
  refine lv_aload_n hx hb dX9_init_304 rfl (lv_at hl 0 rfl) ?_
  refine lv_bipush (v := (80 : Int32)) hx hb dX9_init_305 (by decide) ?_
  obtain ⟨M307, e307, hf⟩ := zb hf
  refine zr_na (atype := .char) (ty := .char) (t0 := 0) hx hb rfl (hts (.arrayClass .char) (List.mem_of_getElem? (i := 6) rfl)) hK hP hz hS e307 rfl (Or.inl ⟨rfl, rfl⟩) (zsL_max _) (fun h9 => by show _ ≤ 40; omega) (fun h9 => by show _ ≤ 120000; omega) dX9_init_307 (fun H hP hz hS hq h9 => ?_)
  have hn : M0.1 ≤ M307.1 := by omega
  have hu : M307.1 ≤ M0.1 + 40 := by omega
  refine W.widen (k := M307.1 - M0.1) (n := 3000 * (M307.1 - M0.1)) (by omega) (by omega) ?_
  obtain ⟨M309, e309, hf⟩ := zb hf
  refine zr_pr (ci := 9) (k := 51) (C := RX9) (T := TX9) (N := 54) hx hb hts hi_X9_init_9 tyX9 tyX9_ok nmX9 hown hK hP hS e309 rfl rfl (by decide) (by decide) (hts (.fieldLink RX9 126 "BoundaryAnalyzerModel" "exceptionAt" "[C") (List.mem_of_getElem? (i := 45) rfl)) (Or.inr ⟨rfl, hin, rfl⟩) (tyX9_ok 51 (by decide)) rfl rfl dX9_init_309 (fun H locs hP hz1 hS => ?_)
  rw [hz] at hz1; have hz := hz1
  have hq := zpR_n e309
  rw [← hq] at hn hu hz
  refine W.widen (k := M309.1 - M0.1) (n := 3000 * (M309.1 - M0.1)) (by omega) (by omega) ?_
  refine lv_aload_n hx hb dX9_init_312 rfl (lv_at hl 0 rfl) ?_
  refine lv_bipush (v := (101 : Int32)) hx hb dX9_init_313 (by decide) ?_
  obtain ⟨M315, e315, hf⟩ := zb hf
  refine zr_na (atype := .int) (ty := .int) (t0 := 1) hx hb rfl (hts (.arrayClass .int) (List.mem_of_getElem? (i := 4) rfl)) hK hP hz hS e315 rfl (Or.inr (Or.inl ⟨rfl, rfl⟩)) (zsL_max _) (fun h9 => by show _ ≤ 40; omega) (fun h9 => by show _ ≤ 120000; omega) dX9_init_315 (fun H hP hz hS hq h9 => ?_)
  have hn : M0.1 ≤ M315.1 := by omega
  have hu : M315.1 ≤ M0.1 + 40 := by omega
  refine W.widen (k := M315.1 - M0.1) (n := 3000 * (M315.1 - M0.1)) (by omega) (by omega) ?_
  obtain ⟨M317, e317, hf⟩ := zb hf
  refine zr_pr (ci := 9) (k := 53) (C := RX9) (T := TX9) (N := 54) hx hb hts hi_X9_init_9 tyX9 tyX9_ok nmX9 hown hK hP hS e317 rfl rfl (by decide) (by decide) (hts (.fieldLink RX9 129 "BoundaryAnalyzerModel" "boundary" "[I") (List.mem_of_getElem? (i := 46) rfl)) (Or.inr ⟨rfl, hin, rfl⟩) (tyX9_ok 53 (by decide)) rfl rfl dX9_init_317 (fun H locs hP hz1 hS => ?_)
  rw [hz] at hz1; have hz := hz1
  have hq := zpR_n e317
  rw [← hq] at hn hu hz
  refine W.widen (k := M317.1 - M0.1) (n := 3000 * (M317.1 - M0.1)) (by omega) (by omega) ?_
  refine lv_bipush (v := (32 : Int32)) hx hb dX9_init_320 (by decide) ?_
  refine lv_istore_n (lv' := [(1, .int (32 : Int32)), (0, .ref (b + h0))]) hx hb dX9_init_322 rfl hl (by decide) rfl (fun ls hl => ?_)
  exact L323 _ _ _ _ _ _ _ hf hP hz hS hn hu (lv_sub hl [1, 0] rfl)
theorem hi_X9_append_9 : ∀ w ∈ wsX90, w ∈ wsX9_append := fun _ h => List.mem_cons_of_mem _ (List.mem_append_right _ h)
set_option maxHeartbeats 4000000 in
set_option maxRecDepth 100000 in
theorem k_X9_append (l : Launch) (D : va_G) (cy : Nat → ClassId) (b : Nat) (M0 : Mem) (h0 : Nat) (x1 : Int32) (x2 : Int32) (rr : Mem) (hf : fX9_append M0 h0 x1 x2 = some rr) : Met l yX9_append wsX9_append ({ frames := 0, cells := 0, slots := 0, locals := 0 } : Room) (zPc D cy b M0 [.ref (b + h0), .int x1, .int x2]) (zQv D cy b rr) 0 0 (zA b) := by
  refine Met.ofW (cc := cX9_append) (maxL := 3) (ret := none) (by decide) rfl ?_
  intro p e s m args below meth c s₁ B hml hv
  obtain ⟨rfl, hP, hK⟩ := hv
  have hx := B.exec
  have hb := B.bytes
  have hr := B.returns
  have hts := atoms_spec (ws := wsX9_append) B.pre
  have hown : s.vm.findClass RX9 = some m.cls := findClass_of_methodNamed B.named
  have hlocks := B.notSynchronized
  have hS : va_S (zA b) s.heap s.heap [] := va_S.rf
  have hl := lv_entry ([.ref (b + h0), .int x1, .int x2]) (n := 3) (Nat.le_of_ble_eq_true rfl)
  rw [lg_entry_eq]
  generalize (lg_sl ([.ref (b + h0), .int x1, .int x2]) ++ List.replicate (3 - (lg_sl ([.ref (b + h0), .int x1, .int x2])).length) Slot.unset).toArray = ls at hl ⊢
  have hl : lv_has ls 3 [(0, .ref (b + h0)), (1, .int x1), (2, .int x2)] := hl
  unfold fX9_append at hf
  refine lv_aload_n hx hb dX9_append_0 rfl (lv_at hl 0 rfl) ?_
  obtain ⟨v1, e1, hf⟩ := zb hf
  refine zr_gr (ci := 9) (k := 34) (C := RX9) (T := TX9) (N := 54) hx hb hts hi_X9_append_9 hown hK hP e1 rfl rfl (by decide) (by decide) (hts (.fieldLink RX9 84 "BoundaryAnalyzerModel" "rawAt" "[I") (List.mem_of_getElem? (i := 1) rfl)) dX9_append_1 ?_
  refine lv_bipush (v := (101 : Int32)) hx hb dX9_append_4 (by decide) ?_
  refine lv_iload_n hx hb dX9_append_6 rfl (lv_at hl 1 rfl) ?_
  refine lv_imul hx hb dX9_append_7 ?_
  refine lv_aload_n hx hb dX9_append_8 rfl (lv_at hl 0 rfl) ?_
  obtain ⟨v9, e9, hf⟩ := zb hf
  refine zr_gr (ci := 9) (k := 33) (C := RX9) (T := TX9) (N := 54) hx hb hts hi_X9_append_9 hown hK hP e9 rfl rfl (by decide) (by decide) (hts (.fieldLink RX9 81 "BoundaryAnalyzerModel" "rawMany" "[I") (List.mem_of_getElem? (i := 2) rfl)) dX9_append_9 ?_
  refine lv_iload_n hx hb dX9_append_12 rfl (lv_at hl 1 rfl) ?_
  obtain ⟨v13, e13, hf⟩ := zb hf
  refine zr_ai hx hb hK hP e13 dX9_append_13 ?_
  refine lv_iadd hx hb dX9_append_14 ?_
  refine lv_iload_n hx hb dX9_append_15 rfl (lv_at hl 2 rfl) ?_
  obtain ⟨M16, e16, hf⟩ := zb hf
  refine zr_si hx hb hK hP hS e16 dX9_append_16 (fun H locs hP _ hS => ?_)
  refine lv_aload_n hx hb dX9_append_17 rfl (lv_at hl 0 rfl) ?_
  obtain ⟨v18, e18, hf⟩ := zb hf
  refine zr_gr (ci := 9) (k := 33) (C := RX9) (T := TX9) (N := 54) hx hb hts hi_X9_append_9 hown hK hP e18 rfl rfl (by decide) (by decide) (hts (.fieldLink RX9 81 "BoundaryAnalyzerModel" "rawMany" "[I") (List.mem_of_getElem? (i := 2) rfl)) dX9_append_18 ?_
  refine lv_iload_n hx hb dX9_append_21 rfl (lv_at hl 1 rfl) ?_
  refine lv_dup2_11 hx hb dX9_append_22 rfl rfl ?_
  obtain ⟨v23, e23, hf⟩ := zb hf
  refine zr_ai hx hb hK hP e23 dX9_append_23 ?_
  refine lv_iconst (v := (1 : Int32)) hx hb dX9_append_24 (by decide) ?_
  refine lv_iadd hx hb dX9_append_25 ?_
  obtain ⟨M26, e26, hf⟩ := zb hf
  refine zr_si hx hb hK hP hS e26 dX9_append_26 (fun H locs hP _ hS => ?_)
  exact zret_v hx hb hr hlocks hf hP hS dX9_append_27
