set_option maxHeartbeats 4000000 in
set_option maxRecDepth 100000 in
theorem law_c468 {p : Program} {e : Env} {s : State} {m : MethodId} {below : List Frame} {meth : Method} {c : Code} (l : Launch) {D : va_G} {cy : Nat → ClassId} {b bs L : Nat} {xs : Nat → Int32} {rr : Int32 × Mem} (X : zLx D cy b p s m meth c bs L xs) (h1e : rr.1 = 1) (k794 : Mem → Nat → Nat → Int32 → Option (Int32 × Mem)) (K794 : ∀ (M : Mem) (H : Heap) (locs : List Loc) (ls : Array Slot) (h1 : Nat) (h2 : Nat) (x3 : Int32), k794 M h1 h2 x3 = some rr → zH D cy b M H → va_S (zA b) s.heap H locs → lv_has ls 4 [(0, .ref bs), (1, .ref (b + h1)), (2, .ref (b + h2)), (3, .int x3)] → W p l e room_1 s m #[Value.ref bs] below meth c H locs 600000 7302250 (lw_Z below #[Value.ref bs] s) (F0 m 794 ls [])) : ∀ (M : Mem) (H : Heap) (locs : List Loc) (ls : Array Slot) (h1 : Nat) (h2 : Nat) (x3 : Int32), fL_c468 xs L k794 M h1 h2 x3 = some rr → zH D cy b M H → va_S (zA b) s.heap H locs → lv_has ls 4 [(0, .ref bs), (1, .ref (b + h1)), (2, .ref (b + h2)), (3, .int x3)] → W p l e room_1 s m #[Value.ref bs] below meth c H locs 600000 7302250 (lw_Z below #[Value.ref bs] s) (F0 m 468 ls []) := by
  obtain ⟨hx, hb, hr, hml, hown, hts, hX, hbl, hlocks, hb0, hK⟩ := X
  have hbA : ¬ zA b bs := by show ¬ b ≤ bs; omega
  intro M H locs ls h1 h2 x3 hf hP hS hl
  unfold fL_c468 at hf
  refine lv_aload_n hx hb dL_law_468 rfl (lv_at hl 1 rfl) ?_
  obtain ⟨u469, t469, hf⟩ := zb hf
  obtain ⟨r469, e469, hf⟩ := zb hf
  refine zc_i hS (va_runV (As := []) (rest := []) ⟨hx, hb, hml, hown, hts⟩ (k_X8_redo l D cy b M h1  r469 e469) (cwV 0 hts gL_law_X8_redo rfl rfl rfl (by decide +kernel) ⟨Nat.le_of_ble_eq_true rfl, Nat.le_of_ble_eq_true rfl⟩) (zp_V _ hK hP t469 (T := TX8) (N := 7) rfl (by decide)) rfl rfl hl.1 rfl (lv_room (Nat.le_of_ble_eq_true rfl)) dL_law_469 ⟨Nat.le_of_ble_eq_true rfl, Nat.le_of_ble_eq_true rfl⟩) (fun H locs hP hS => ?_)
  refine lv_aload_n hx hb dL_law_472 rfl (lv_at hl 2 rfl) ?_
  obtain ⟨u473, t473, hf⟩ := zb hf
  obtain ⟨r473, e473, hf⟩ := zb hf
  refine zc_i hS (va_runV (As := []) (rest := [.int r469.1]) ⟨hx, hb, hml, hown, hts⟩ (k_X9_redo l D cy b r469.2 h2  r473 e473) (cwV 0 hts gL_law_X9_redo rfl rfl rfl (by decide +kernel) ⟨Nat.le_of_ble_eq_true rfl, Nat.le_of_ble_eq_true rfl⟩) (zp_V _ hK hP t473 (T := TX9) (N := 54) rfl (by decide)) rfl rfl hl.1 rfl (lv_room (Nat.le_of_ble_eq_true rfl)) dL_law_473 ⟨Nat.le_of_ble_eq_true rfl, Nat.le_of_ble_eq_true rfl⟩) (fun H locs hP hS => ?_)
  refine lv_icmp_eq (tgt := 794) hx hb dL_law_476 (by decide) (fun c476 => ?_) (fun c476 => ?_)
  · have hf := (if_pos c476).symm.trans hf
    exact K794 _ _ _ _ _ _ _ hf hP hS (lv_sub hl [0, 1, 2, 3] rfl)
  · have hf := (if_neg c476).symm.trans hf
    refine lv_iconst (v := (0 : Int32)) hx hb dL_law_479 (by decide) ?_
    exact absurd h1e (by cases hf; show ¬ (0 : Int32) = 1; decide)
set_option maxHeartbeats 4000000 in
set_option maxRecDepth 100000 in
theorem law_c481 {p : Program} {e : Env} {s : State} {m : MethodId} {below : List Frame} {meth : Method} {c : Code} (l : Launch) {D : va_G} {cy : Nat → ClassId} {b bs L : Nat} {xs : Nat → Int32} {rr : Int32 × Mem} (X : zLx D cy b p s m meth c bs L xs) (h1e : rr.1 = 1) (k794 : Mem → Nat → Nat → Int32 → Option (Int32 × Mem)) (K794 : ∀ (M : Mem) (H : Heap) (locs : List Loc) (ls : Array Slot) (h1 : Nat) (h2 : Nat) (x3 : Int32), k794 M h1 h2 x3 = some rr → zH D cy b M H → va_S (zA b) s.heap H locs → lv_has ls 4 [(0, .ref bs), (1, .ref (b + h1)), (2, .ref (b + h2)), (3, .int x3)] → W p l e room_1 s m #[Value.ref bs] below meth c H locs 600000 7302250 (lw_Z below #[Value.ref bs] s) (F0 m 794 ls [])) : ∀ (M : Mem) (H : Heap) (locs : List Loc) (ls : Array Slot) (h1 : Nat) (h2 : Nat) (x3 : Int32), fL_c481 xs L k794 M h1 h2 x3 = some rr → zH D cy b M H → va_S (zA b) s.heap H locs → lv_has ls 4 [(0, .ref bs), (1, .ref (b + h1)), (2, .ref (b + h2)), (3, .int x3)] → W p l e room_1 s m #[Value.ref bs] below meth c H locs 600000 7302250 (lw_Z below #[Value.ref bs] s) (F0 m 481 ls []) := by
  obtain ⟨hx, hb, hr, hml, hown, hts, hX, hbl, hlocks, hb0, hK⟩ := X
  have hbA : ¬ zA b bs := by show ¬ b ≤ bs; omega
  intro M H locs ls h1 h2 x3 hf hP hS hl
  unfold fL_c481 at hf
  refine lv_aload_n hx hb dL_law_481 rfl (lv_at hl 1 rfl) ?_
  refine lv_aload_n hx hb dL_law_482 rfl (lv_at hl 0 rfl) ?_
  refine lv_iload_n hx hb dL_law_483 rfl (lv_at hl 3 rfl) ?_
  refine lv_iconst (v := (1 : Int32)) hx hb dL_law_484 (by decide) ?_
  refine lv_iadd hx hb dL_law_485 ?_
  obtain ⟨v486, e486, hf⟩ := zb hf
  obtain ⟨i486, j486⟩ := zxs_s e486
  refine va_sld hx hb hX hbl hbA hS i486 dL_law_486 ?_
  refine zt j486 ?_
  obtain ⟨u487, t487, hf⟩ := zb hf
  obtain ⟨r487, e487, hf⟩ := zb hf
  refine zc_i hS (va_runV (As := [.int v486]) (rest := []) ⟨hx, hb, hml, hown, hts⟩ (k_X8_charAt l D cy b M h1 v486 r487 e487) (cwV 1 hts gL_law_X8_charAt rfl rfl rfl (by decide +kernel) ⟨Nat.le_of_ble_eq_true rfl, Nat.le_of_ble_eq_true rfl⟩) (zp_V _ hK hP t487 (T := TX8) (N := 7) rfl (by decide)) rfl rfl hl.1 rfl (lv_room (Nat.le_of_ble_eq_true rfl)) dL_law_487 ⟨Nat.le_of_ble_eq_true rfl, Nat.le_of_ble_eq_true rfl⟩) (fun H locs hP hS => ?_)
  refine lv_aload_n hx hb dL_law_490 rfl (lv_at hl 2 rfl) ?_
  refine lv_aload_n hx hb dL_law_491 rfl (lv_at hl 0 rfl) ?_
  refine lv_iload_n hx hb dL_law_492 rfl (lv_at hl 3 rfl) ?_
  refine lv_iconst (v := (1 : Int32)) hx hb dL_law_493 (by decide) ?_
  refine lv_iadd hx hb dL_law_494 ?_
  obtain ⟨v495, e495, hf⟩ := zb hf
  obtain ⟨i495, j495⟩ := zxs_s e495
  refine va_sld hx hb hX hbl hbA hS i495 dL_law_495 ?_
  refine zt j495 ?_
  obtain ⟨u496, t496, hf⟩ := zb hf
  obtain ⟨r496, e496, hf⟩ := zb hf
  refine zc_i hS (va_runV (As := [.int v495]) (rest := [.int r487.1]) ⟨hx, hb, hml, hown, hts⟩ (k_X9_charAt l D cy b r487.2 h2 v495 r496 e496) (cwV 1 hts gL_law_X9_charAt rfl rfl rfl (by decide +kernel) ⟨Nat.le_of_ble_eq_true rfl, Nat.le_of_ble_eq_true rfl⟩) (zp_V _ hK hP t496 (T := TX9) (N := 54) rfl (by decide)) rfl rfl hl.1 rfl (lv_room (Nat.le_of_ble_eq_true rfl)) dL_law_496 ⟨Nat.le_of_ble_eq_true rfl, Nat.le_of_ble_eq_true rfl⟩) (fun H locs hP hS => ?_)
  refine lv_icmp_eq (tgt := 794) hx hb dL_law_499 (by decide) (fun c499 => ?_) (fun c499 => ?_)
  · have hf := (if_pos c499).symm.trans hf
    exact K794 _ _ _ _ _ _ _ hf hP hS (lv_sub hl [0, 1, 2, 3] rfl)
  · have hf := (if_neg c499).symm.trans hf
    refine lv_iconst (v := (0 : Int32)) hx hb dL_law_502 (by decide) ?_
    exact absurd h1e (by cases hf; show ¬ (0 : Int32) = 1; decide)
set_option maxHeartbeats 4000000 in
set_option maxRecDepth 100000 in
theorem law_c504 {p : Program} {e : Env} {s : State} {m : MethodId} {below : List Frame} {meth : Method} {c : Code} (l : Launch) {D : va_G} {cy : Nat → ClassId} {b bs L : Nat} {xs : Nat → Int32} {rr : Int32 × Mem} (X : zLx D cy b p s m meth c bs L xs) (h1e : rr.1 = 1) (k794 : Mem → Nat → Nat → Int32 → Option (Int32 × Mem)) (K794 : ∀ (M : Mem) (H : Heap) (locs : List Loc) (ls : Array Slot) (h1 : Nat) (h2 : Nat) (x3 : Int32), k794 M h1 h2 x3 = some rr → zH D cy b M H → va_S (zA b) s.heap H locs → lv_has ls 4 [(0, .ref bs), (1, .ref (b + h1)), (2, .ref (b + h2)), (3, .int x3)] → W p l e room_1 s m #[Value.ref bs] below meth c H locs 600000 7302250 (lw_Z below #[Value.ref bs] s) (F0 m 794 ls [])) : ∀ (M : Mem) (H : Heap) (locs : List Loc) (ls : Array Slot) (h1 : Nat) (h2 : Nat) (x3 : Int32), fL_c504 xs L k794 M h1 h2 x3 = some rr → zH D cy b M H → va_S (zA b) s.heap H locs → lv_has ls 4 [(0, .ref bs), (1, .ref (b + h1)), (2, .ref (b + h2)), (3, .int x3)] → W p l e room_1 s m #[Value.ref bs] below meth c H locs 600000 7302250 (lw_Z below #[Value.ref bs] s) (F0 m 504 ls []) := by
  obtain ⟨hx, hb, hr, hml, hown, hts, hX, hbl, hlocks, hb0, hK⟩ := X
  have hbA : ¬ zA b bs := by show ¬ b ≤ bs; omega
  intro M H locs ls h1 h2 x3 hf hP hS hl
  unfold fL_c504 at hf
  refine lv_aload_n hx hb dL_law_504 rfl (lv_at hl 1 rfl) ?_
  refine lv_aload_n hx hb dL_law_505 rfl (lv_at hl 0 rfl) ?_
  refine lv_iload_n hx hb dL_law_506 rfl (lv_at hl 3 rfl) ?_
  refine lv_iconst (v := (1 : Int32)) hx hb dL_law_507 (by decide) ?_
  refine lv_iadd hx hb dL_law_508 ?_
  obtain ⟨v509, e509, hf⟩ := zb hf
  obtain ⟨i509, j509⟩ := zxs_s e509
  refine va_sld hx hb hX hbl hbA hS i509 dL_law_509 ?_
  refine zt j509 ?_
  obtain ⟨u510, t510, hf⟩ := zb hf
  obtain ⟨r510, e510, hf⟩ := zb hf
  refine zc_i hS (va_runV (As := [.int v509]) (rest := []) ⟨hx, hb, hml, hown, hts⟩ (k_X8_value l D cy b M h1 v509 r510 e510) (cwV 1 hts gL_law_X8_value rfl rfl rfl (by decide +kernel) ⟨Nat.le_of_ble_eq_true rfl, Nat.le_of_ble_eq_true rfl⟩) (zp_V _ hK hP t510 (T := TX8) (N := 7) rfl (by decide)) rfl rfl hl.1 rfl (lv_room (Nat.le_of_ble_eq_true rfl)) dL_law_510 ⟨Nat.le_of_ble_eq_true rfl, Nat.le_of_ble_eq_true rfl⟩) (fun H locs hP hS => ?_)
  refine lv_aload_n hx hb dL_law_513 rfl (lv_at hl 2 rfl) ?_
  refine lv_aload_n hx hb dL_law_514 rfl (lv_at hl 0 rfl) ?_
  refine lv_iload_n hx hb dL_law_515 rfl (lv_at hl 3 rfl) ?_
  refine lv_iconst (v := (1 : Int32)) hx hb dL_law_516 (by decide) ?_
  refine lv_iadd hx hb dL_law_517 ?_
  obtain ⟨v518, e518, hf⟩ := zb hf
  obtain ⟨i518, j518⟩ := zxs_s e518
  refine va_sld hx hb hX hbl hbA hS i518 dL_law_518 ?_
  refine zt j518 ?_
  obtain ⟨u519, t519, hf⟩ := zb hf
  obtain ⟨r519, e519, hf⟩ := zb hf
  refine zc_i hS (va_runV (As := [.int v518]) (rest := [.int r510.1]) ⟨hx, hb, hml, hown, hts⟩ (k_X9_value l D cy b r510.2 h2 v518 r519 e519) (cwV 1 hts gL_law_X9_value rfl rfl rfl (by decide +kernel) ⟨Nat.le_of_ble_eq_true rfl, Nat.le_of_ble_eq_true rfl⟩) (zp_V _ hK hP t519 (T := TX9) (N := 54) rfl (by decide)) rfl rfl hl.1 rfl (lv_room (Nat.le_of_ble_eq_true rfl)) dL_law_519 ⟨Nat.le_of_ble_eq_true rfl, Nat.le_of_ble_eq_true rfl⟩) (fun H locs hP hS => ?_)
  refine lv_icmp_eq (tgt := 794) hx hb dL_law_522 (by decide) (fun c522 => ?_) (fun c522 => ?_)
  · have hf := (if_pos c522).symm.trans hf
    exact K794 _ _ _ _ _ _ _ hf hP hS (lv_sub hl [0, 1, 2, 3] rfl)
  · have hf := (if_neg c522).symm.trans hf
    refine lv_iconst (v := (0 : Int32)) hx hb dL_law_525 (by decide) ?_
    exact absurd h1e (by cases hf; show ¬ (0 : Int32) = 1; decide)
set_option maxHeartbeats 4000000 in
set_option maxRecDepth 100000 in
theorem law_c527 {p : Program} {e : Env} {s : State} {m : MethodId} {below : List Frame} {meth : Method} {c : Code} (l : Launch) {D : va_G} {cy : Nat → ClassId} {b bs L : Nat} {xs : Nat → Int32} {rr : Int32 × Mem} (X : zLx D cy b p s m meth c bs L xs) (h1e : rr.1 = 1) (k794 : Mem → Nat → Nat → Int32 → Option (Int32 × Mem)) (K794 : ∀ (M : Mem) (H : Heap) (locs : List Loc) (ls : Array Slot) (h1 : Nat) (h2 : Nat) (x3 : Int32), k794 M h1 h2 x3 = some rr → zH D cy b M H → va_S (zA b) s.heap H locs → lv_has ls 4 [(0, .ref bs), (1, .ref (b + h1)), (2, .ref (b + h2)), (3, .int x3)] → W p l e room_1 s m #[Value.ref bs] below meth c H locs 600000 7302250 (lw_Z below #[Value.ref bs] s) (F0 m 794 ls [])) : ∀ (M : Mem) (H : Heap) (locs : List Loc) (ls : Array Slot) (h1 : Nat) (h2 : Nat) (x3 : Int32), fL_c527 xs L k794 M h1 h2 x3 = some rr → zH D cy b M H → va_S (zA b) s.heap H locs → lv_has ls 4 [(0, .ref bs), (1, .ref (b + h1)), (2, .ref (b + h2)), (3, .int x3)] → W p l e room_1 s m #[Value.ref bs] below meth c H locs 600000 7302250 (lw_Z below #[Value.ref bs] s) (F0 m 527 ls []) := by
  obtain ⟨hx, hb, hr, hml, hown, hts, hX, hbl, hlocks, hb0, hK⟩ := X
  have hbA : ¬ zA b bs := by show ¬ b ≤ bs; omega
  intro M H locs ls h1 h2 x3 hf hP hS hl
  unfold fL_c527 at hf
  refine lv_aload_n hx hb dL_law_527 rfl (lv_at hl 1 rfl) ?_
  refine lv_aload_n hx hb dL_law_528 rfl (lv_at hl 0 rfl) ?_
  refine lv_iload_n hx hb dL_law_529 rfl (lv_at hl 3 rfl) ?_
  refine lv_iconst (v := (1 : Int32)) hx hb dL_law_530 (by decide) ?_
  refine lv_iadd hx hb dL_law_531 ?_
  obtain ⟨v532, e532, hf⟩ := zb hf
  obtain ⟨i532, j532⟩ := zxs_s e532
  refine va_sld hx hb hX hbl hbA hS i532 dL_law_532 ?_
  refine zt j532 ?_
  refine lv_aload_n hx hb dL_law_533 rfl (lv_at hl 0 rfl) ?_
  refine lv_iload_n hx hb dL_law_534 rfl (lv_at hl 3 rfl) ?_
  refine lv_iconst (v := (2 : Int32)) hx hb dL_law_535 (by decide) ?_
  refine lv_iadd hx hb dL_law_536 ?_
  obtain ⟨v537, e537, hf⟩ := zb hf
  obtain ⟨i537, j537⟩ := zxs_s e537
  refine va_sld hx hb hX hbl hbA hS i537 dL_law_537 ?_
  refine zt j537 ?_
  obtain ⟨u538, t538, hf⟩ := zb hf
  obtain ⟨r538, e538, hf⟩ := zb hf
  refine zc_i hS (va_runV (As := [.int v532, .int v537]) (rest := []) ⟨hx, hb, hml, hown, hts⟩ (k_X8_boundaryAt l D cy b M h1 v532 v537 r538 e538) (cwV 2 hts gL_law_X8_boundaryAt rfl rfl rfl (by decide +kernel) ⟨Nat.le_of_ble_eq_true rfl, Nat.le_of_ble_eq_true rfl⟩) (zp_V _ hK hP t538 (T := TX8) (N := 7) rfl (by decide)) rfl rfl hl.1 rfl (lv_room (Nat.le_of_ble_eq_true rfl)) dL_law_538 ⟨Nat.le_of_ble_eq_true rfl, Nat.le_of_ble_eq_true rfl⟩) (fun H locs hP hS => ?_)
  refine lv_aload_n hx hb dL_law_541 rfl (lv_at hl 2 rfl) ?_
  refine lv_aload_n hx hb dL_law_542 rfl (lv_at hl 0 rfl) ?_
  refine lv_iload_n hx hb dL_law_543 rfl (lv_at hl 3 rfl) ?_
  refine lv_iconst (v := (1 : Int32)) hx hb dL_law_544 (by decide) ?_
  refine lv_iadd hx hb dL_law_545 ?_
  obtain ⟨v546, e546, hf⟩ := zb hf
  obtain ⟨i546, j546⟩ := zxs_s e546
  refine va_sld hx hb hX hbl hbA hS i546 dL_law_546 ?_
  refine zt j546 ?_
  refine lv_aload_n hx hb dL_law_547 rfl (lv_at hl 0 rfl) ?_
  refine lv_iload_n hx hb dL_law_548 rfl (lv_at hl 3 rfl) ?_
  refine lv_iconst (v := (2 : Int32)) hx hb dL_law_549 (by decide) ?_
  refine lv_iadd hx hb dL_law_550 ?_
  obtain ⟨v551, e551, hf⟩ := zb hf
  obtain ⟨i551, j551⟩ := zxs_s e551
  refine va_sld hx hb hX hbl hbA hS i551 dL_law_551 ?_
  refine zt j551 ?_
  obtain ⟨u552, t552, hf⟩ := zb hf
  obtain ⟨r552, e552, hf⟩ := zb hf
  refine zc_i hS (va_runV (As := [.int v546, .int v551]) (rest := [.int r538.1]) ⟨hx, hb, hml, hown, hts⟩ (k_X9_boundaryAt l D cy b r538.2 h2 v546 v551 r552 e552) (cwV 2 hts gL_law_X9_boundaryAt rfl rfl rfl (by decide +kernel) ⟨Nat.le_of_ble_eq_true rfl, Nat.le_of_ble_eq_true rfl⟩) (zp_V _ hK hP t552 (T := TX9) (N := 54) rfl (by decide)) rfl rfl hl.1 rfl (lv_room (Nat.le_of_ble_eq_true rfl)) dL_law_552 ⟨Nat.le_of_ble_eq_true rfl, Nat.le_of_ble_eq_true rfl⟩) (fun H locs hP hS => ?_)
  refine lv_icmp_eq (tgt := 794) hx hb dL_law_555 (by decide) (fun c555 => ?_) (fun c555 => ?_)
  · have hf := (if_pos c555).symm.trans hf
    exact K794 _ _ _ _ _ _ _ hf hP hS (lv_sub hl [0, 1, 2, 3] rfl)
  · have hf := (if_neg c555).symm.trans hf
    refine lv_iconst (v := (0 : Int32)) hx hb dL_law_558 (by decide) ?_
    exact absurd h1e (by cases hf; show ¬ (0 : Int32) = 1; decide)
set_option maxHeartbeats 4000000 in
set_option maxRecDepth 100000 in
theorem law_c560 {p : Program} {e : Env} {s : State} {m : MethodId} {below : List Frame} {meth : Method} {c : Code} (l : Launch) {D : va_G} {cy : Nat → ClassId} {b bs L : Nat} {xs : Nat → Int32} {rr : Int32 × Mem} (X : zLx D cy b p s m meth c bs L xs) (h1e : rr.1 = 1) (k794 : Mem → Nat → Nat → Int32 → Option (Int32 × Mem)) (K794 : ∀ (M : Mem) (H : Heap) (locs : List Loc) (ls : Array Slot) (h1 : Nat) (h2 : Nat) (x3 : Int32), k794 M h1 h2 x3 = some rr → zH D cy b M H → va_S (zA b) s.heap H locs → lv_has ls 4 [(0, .ref bs), (1, .ref (b + h1)), (2, .ref (b + h2)), (3, .int x3)] → W p l e room_1 s m #[Value.ref bs] below meth c H locs 600000 7302250 (lw_Z below #[Value.ref bs] s) (F0 m 794 ls [])) : ∀ (M : Mem) (H : Heap) (locs : List Loc) (ls : Array Slot) (h1 : Nat) (h2 : Nat) (x3 : Int32), fL_c560 xs L k794 M h1 h2 x3 = some rr → zH D cy b M H → va_S (zA b) s.heap H locs → lv_has ls 4 [(0, .ref bs), (1, .ref (b + h1)), (2, .ref (b + h2)), (3, .int x3)] → W p l e room_1 s m #[Value.ref bs] below meth c H locs 600000 7302250 (lw_Z below #[Value.ref bs] s) (F0 m 560 ls []) := by
  obtain ⟨hx, hb, hr, hml, hown, hts, hX, hbl, hlocks, hb0, hK⟩ := X
  have hbA : ¬ zA b bs := by show ¬ b ≤ bs; omega
  intro M H locs ls h1 h2 x3 hf hP hS hl
  unfold fL_c560 at hf
  refine lv_aload_n hx hb dL_law_560 rfl (lv_at hl 1 rfl) ?_
  refine lv_aload_n hx hb dL_law_561 rfl (lv_at hl 0 rfl) ?_
  refine lv_iload_n hx hb dL_law_562 rfl (lv_at hl 3 rfl) ?_
  refine lv_iconst (v := (1 : Int32)) hx hb dL_law_563 (by decide) ?_
  refine lv_iadd hx hb dL_law_564 ?_
  obtain ⟨v565, e565, hf⟩ := zb hf
  obtain ⟨i565, j565⟩ := zxs_s e565
  refine va_sld hx hb hX hbl hbA hS i565 dL_law_565 ?_
  refine zt j565 ?_
  refine lv_aload_n hx hb dL_law_566 rfl (lv_at hl 0 rfl) ?_
  refine lv_iload_n hx hb dL_law_567 rfl (lv_at hl 3 rfl) ?_
  refine lv_iconst (v := (2 : Int32)) hx hb dL_law_568 (by decide) ?_
  refine lv_iadd hx hb dL_law_569 ?_
  obtain ⟨v570, e570, hf⟩ := zb hf
  obtain ⟨i570, j570⟩ := zxs_s e570
  refine va_sld hx hb hX hbl hbA hS i570 dL_law_570 ?_
  refine zt j570 ?_
  obtain ⟨u571, t571, hf⟩ := zb hf
  obtain ⟨r571, e571, hf⟩ := zb hf
  refine zc_i hS (va_runV (As := [.int v565, .int v570]) (rest := []) ⟨hx, hb, hml, hown, hts⟩ (k_X8_next l D cy b M h1 v565 v570 r571 e571) (cwV 2 hts gL_law_X8_next rfl rfl rfl (by decide +kernel) ⟨Nat.le_of_ble_eq_true rfl, Nat.le_of_ble_eq_true rfl⟩) (zp_V _ hK hP t571 (T := TX8) (N := 7) rfl (by decide)) rfl rfl hl.1 rfl (lv_room (Nat.le_of_ble_eq_true rfl)) dL_law_571 ⟨Nat.le_of_ble_eq_true rfl, Nat.le_of_ble_eq_true rfl⟩) (fun H locs hP hS => ?_)
  refine lv_aload_n hx hb dL_law_574 rfl (lv_at hl 2 rfl) ?_
  refine lv_aload_n hx hb dL_law_575 rfl (lv_at hl 0 rfl) ?_
  refine lv_iload_n hx hb dL_law_576 rfl (lv_at hl 3 rfl) ?_
  refine lv_iconst (v := (1 : Int32)) hx hb dL_law_577 (by decide) ?_
  refine lv_iadd hx hb dL_law_578 ?_
  obtain ⟨v579, e579, hf⟩ := zb hf
  obtain ⟨i579, j579⟩ := zxs_s e579
  refine va_sld hx hb hX hbl hbA hS i579 dL_law_579 ?_
  refine zt j579 ?_
  refine lv_aload_n hx hb dL_law_580 rfl (lv_at hl 0 rfl) ?_
  refine lv_iload_n hx hb dL_law_581 rfl (lv_at hl 3 rfl) ?_
  refine lv_iconst (v := (2 : Int32)) hx hb dL_law_582 (by decide) ?_
  refine lv_iadd hx hb dL_law_583 ?_
  obtain ⟨v584, e584, hf⟩ := zb hf
  obtain ⟨i584, j584⟩ := zxs_s e584
  refine va_sld hx hb hX hbl hbA hS i584 dL_law_584 ?_
  refine zt j584 ?_
  obtain ⟨u585, t585, hf⟩ := zb hf
  obtain ⟨r585, e585, hf⟩ := zb hf
  refine zc_i hS (va_runV (As := [.int v579, .int v584]) (rest := [.int r571.1]) ⟨hx, hb, hml, hown, hts⟩ (k_X9_next l D cy b r571.2 h2 v579 v584 r585 e585) (cwV 2 hts gL_law_X9_next rfl rfl rfl (by decide +kernel) ⟨Nat.le_of_ble_eq_true rfl, Nat.le_of_ble_eq_true rfl⟩) (zp_V _ hK hP t585 (T := TX9) (N := 54) rfl (by decide)) rfl rfl hl.1 rfl (lv_room (Nat.le_of_ble_eq_true rfl)) dL_law_585 ⟨Nat.le_of_ble_eq_true rfl, Nat.le_of_ble_eq_true rfl⟩) (fun H locs hP hS => ?_)
  refine lv_icmp_eq (tgt := 794) hx hb dL_law_588 (by decide) (fun c588 => ?_) (fun c588 => ?_)
  · have hf := (if_pos c588).symm.trans hf
    exact K794 _ _ _ _ _ _ _ hf hP hS (lv_sub hl [0, 1, 2, 3] rfl)
  · have hf := (if_neg c588).symm.trans hf
    refine lv_iconst (v := (0 : Int32)) hx hb dL_law_591 (by decide) ?_
    exact absurd h1e (by cases hf; show ¬ (0 : Int32) = 1; decide)
set_option maxHeartbeats 4000000 in
set_option maxRecDepth 100000 in
theorem law_c593 {p : Program} {e : Env} {s : State} {m : MethodId} {below : List Frame} {meth : Method} {c : Code} (l : Launch) {D : va_G} {cy : Nat → ClassId} {b bs L : Nat} {xs : Nat → Int32} {rr : Int32 × Mem} (X : zLx D cy b p s m meth c bs L xs) (h1e : rr.1 = 1) (k794 : Mem → Nat → Nat → Int32 → Option (Int32 × Mem)) (K794 : ∀ (M : Mem) (H : Heap) (locs : List Loc) (ls : Array Slot) (h1 : Nat) (h2 : Nat) (x3 : Int32), k794 M h1 h2 x3 = some rr → zH D cy b M H → va_S (zA b) s.heap H locs → lv_has ls 4 [(0, .ref bs), (1, .ref (b + h1)), (2, .ref (b + h2)), (3, .int x3)] → W p l e room_1 s m #[Value.ref bs] below meth c H locs 600000 7302250 (lw_Z below #[Value.ref bs] s) (F0 m 794 ls [])) : ∀ (M : Mem) (H : Heap) (locs : List Loc) (ls : Array Slot) (h1 : Nat) (h2 : Nat) (x3 : Int32), fL_c593 xs L k794 M h1 h2 x3 = some rr → zH D cy b M H → va_S (zA b) s.heap H locs → lv_has ls 4 [(0, .ref bs), (1, .ref (b + h1)), (2, .ref (b + h2)), (3, .int x3)] → W p l e room_1 s m #[Value.ref bs] below meth c H locs 600000 7302250 (lw_Z below #[Value.ref bs] s) (F0 m 593 ls []) := by
  obtain ⟨hx, hb, hr, hml, hown, hts, hX, hbl, hlocks, hb0, hK⟩ := X
  have hbA : ¬ zA b bs := by show ¬ b ≤ bs; omega
  intro M H locs ls h1 h2 x3 hf hP hS hl
  unfold fL_c593 at hf
  refine lv_aload_n hx hb dL_law_593 rfl (lv_at hl 1 rfl) ?_
  refine lv_aload_n hx hb dL_law_594 rfl (lv_at hl 0 rfl) ?_
  refine lv_iload_n hx hb dL_law_595 rfl (lv_at hl 3 rfl) ?_
  refine lv_iconst (v := (1 : Int32)) hx hb dL_law_596 (by decide) ?_
  refine lv_iadd hx hb dL_law_597 ?_
  obtain ⟨v598, e598, hf⟩ := zb hf
  obtain ⟨i598, j598⟩ := zxs_s e598
  refine va_sld hx hb hX hbl hbA hS i598 dL_law_598 ?_
  refine zt j598 ?_
  refine lv_aload_n hx hb dL_law_599 rfl (lv_at hl 0 rfl) ?_
  refine lv_iload_n hx hb dL_law_600 rfl (lv_at hl 3 rfl) ?_
  refine lv_iconst (v := (2 : Int32)) hx hb dL_law_601 (by decide) ?_
  refine lv_iadd hx hb dL_law_602 ?_
  obtain ⟨v603, e603, hf⟩ := zb hf
  obtain ⟨i603, j603⟩ := zxs_s e603
  refine va_sld hx hb hX hbl hbA hS i603 dL_law_603 ?_
  refine zt j603 ?_
  obtain ⟨u604, t604, hf⟩ := zb hf
  obtain ⟨r604, e604, hf⟩ := zb hf
  refine zc_i hS (va_runV (As := [.int v598, .int v603]) (rest := []) ⟨hx, hb, hml, hown, hts⟩ (k_X8_previous l D cy b M h1 v598 v603 r604 e604) (cwV 2 hts gL_law_X8_previous rfl rfl rfl (by decide +kernel) ⟨Nat.le_of_ble_eq_true rfl, Nat.le_of_ble_eq_true rfl⟩) (zp_V _ hK hP t604 (T := TX8) (N := 7) rfl (by decide)) rfl rfl hl.1 rfl (lv_room (Nat.le_of_ble_eq_true rfl)) dL_law_604 ⟨Nat.le_of_ble_eq_true rfl, Nat.le_of_ble_eq_true rfl⟩) (fun H locs hP hS => ?_)
  refine lv_aload_n hx hb dL_law_607 rfl (lv_at hl 2 rfl) ?_
  refine lv_aload_n hx hb dL_law_608 rfl (lv_at hl 0 rfl) ?_
  refine lv_iload_n hx hb dL_law_609 rfl (lv_at hl 3 rfl) ?_
  refine lv_iconst (v := (1 : Int32)) hx hb dL_law_610 (by decide) ?_
  refine lv_iadd hx hb dL_law_611 ?_
  obtain ⟨v612, e612, hf⟩ := zb hf
  obtain ⟨i612, j612⟩ := zxs_s e612
  refine va_sld hx hb hX hbl hbA hS i612 dL_law_612 ?_
  refine zt j612 ?_
  refine lv_aload_n hx hb dL_law_613 rfl (lv_at hl 0 rfl) ?_
  refine lv_iload_n hx hb dL_law_614 rfl (lv_at hl 3 rfl) ?_
  refine lv_iconst (v := (2 : Int32)) hx hb dL_law_615 (by decide) ?_
  refine lv_iadd hx hb dL_law_616 ?_
  obtain ⟨v617, e617, hf⟩ := zb hf
  obtain ⟨i617, j617⟩ := zxs_s e617
  refine va_sld hx hb hX hbl hbA hS i617 dL_law_617 ?_
  refine zt j617 ?_
  obtain ⟨u618, t618, hf⟩ := zb hf
  obtain ⟨r618, e618, hf⟩ := zb hf
  refine zc_i hS (va_runV (As := [.int v612, .int v617]) (rest := [.int r604.1]) ⟨hx, hb, hml, hown, hts⟩ (k_X9_previous l D cy b r604.2 h2 v612 v617 r618 e618) (cwV 2 hts gL_law_X9_previous rfl rfl rfl (by decide +kernel) ⟨Nat.le_of_ble_eq_true rfl, Nat.le_of_ble_eq_true rfl⟩) (zp_V _ hK hP t618 (T := TX9) (N := 54) rfl (by decide)) rfl rfl hl.1 rfl (lv_room (Nat.le_of_ble_eq_true rfl)) dL_law_618 ⟨Nat.le_of_ble_eq_true rfl, Nat.le_of_ble_eq_true rfl⟩) (fun H locs hP hS => ?_)
  refine lv_icmp_eq (tgt := 794) hx hb dL_law_621 (by decide) (fun c621 => ?_) (fun c621 => ?_)
  · have hf := (if_pos c621).symm.trans hf
    exact K794 _ _ _ _ _ _ _ hf hP hS (lv_sub hl [0, 1, 2, 3] rfl)
  · have hf := (if_neg c621).symm.trans hf
    refine lv_iconst (v := (0 : Int32)) hx hb dL_law_624 (by decide) ?_
    exact absurd h1e (by cases hf; show ¬ (0 : Int32) = 1; decide)
set_option maxHeartbeats 4000000 in
set_option maxRecDepth 100000 in
theorem law_c626 {p : Program} {e : Env} {s : State} {m : MethodId} {below : List Frame} {meth : Method} {c : Code} (l : Launch) {D : va_G} {cy : Nat → ClassId} {b bs L : Nat} {xs : Nat → Int32} {rr : Int32 × Mem} (X : zLx D cy b p s m meth c bs L xs) (h1e : rr.1 = 1) (k794 : Mem → Nat → Nat → Int32 → Option (Int32 × Mem)) (K794 : ∀ (M : Mem) (H : Heap) (locs : List Loc) (ls : Array Slot) (h1 : Nat) (h2 : Nat) (x3 : Int32), k794 M h1 h2 x3 = some rr → zH D cy b M H → va_S (zA b) s.heap H locs → lv_has ls 4 [(0, .ref bs), (1, .ref (b + h1)), (2, .ref (b + h2)), (3, .int x3)] → W p l e room_1 s m #[Value.ref bs] below meth c H locs 600000 7302250 (lw_Z below #[Value.ref bs] s) (F0 m 794 ls [])) : ∀ (M : Mem) (H : Heap) (locs : List Loc) (ls : Array Slot) (h1 : Nat) (h2 : Nat) (x3 : Int32), fL_c626 xs L k794 M h1 h2 x3 = some rr → zH D cy b M H → va_S (zA b) s.heap H locs → lv_has ls 4 [(0, .ref bs), (1, .ref (b + h1)), (2, .ref (b + h2)), (3, .int x3)] → W p l e room_1 s m #[Value.ref bs] below meth c H locs 600000 7302250 (lw_Z below #[Value.ref bs] s) (F0 m 626 ls []) := by
  obtain ⟨hx, hb, hr, hml, hown, hts, hX, hbl, hlocks, hb0, hK⟩ := X
  have hbA : ¬ zA b bs := by show ¬ b ≤ bs; omega
  intro M H locs ls h1 h2 x3 hf hP hS hl
  unfold fL_c626 at hf
  refine lv_aload_n hx hb dL_law_626 rfl (lv_at hl 1 rfl) ?_
  refine lv_aload_n hx hb dL_law_627 rfl (lv_at hl 0 rfl) ?_
  refine lv_iload_n hx hb dL_law_628 rfl (lv_at hl 3 rfl) ?_
  refine lv_iconst (v := (1 : Int32)) hx hb dL_law_629 (by decide) ?_
  refine lv_iadd hx hb dL_law_630 ?_
  obtain ⟨v631, e631, hf⟩ := zb hf
  obtain ⟨i631, j631⟩ := zxs_s e631
  refine va_sld hx hb hX hbl hbA hS i631 dL_law_631 ?_
  refine zt j631 ?_
  obtain ⟨u632, t632, hf⟩ := zb hf
  obtain ⟨r632, e632, hf⟩ := zb hf
  refine zc_i hS (va_runV (As := [.int v631]) (rest := []) ⟨hx, hb, hml, hown, hts⟩ (k_X8_segmentCount l D cy b M h1 v631 r632 e632) (cwV 1 hts gL_law_X8_segmentCount rfl rfl rfl (by decide +kernel) ⟨Nat.le_of_ble_eq_true rfl, Nat.le_of_ble_eq_true rfl⟩) (zp_V _ hK hP t632 (T := TX8) (N := 7) rfl (by decide)) rfl rfl hl.1 rfl (lv_room (Nat.le_of_ble_eq_true rfl)) dL_law_632 ⟨Nat.le_of_ble_eq_true rfl, Nat.le_of_ble_eq_true rfl⟩) (fun H locs hP hS => ?_)
  refine lv_aload_n hx hb dL_law_635 rfl (lv_at hl 2 rfl) ?_
  refine lv_aload_n hx hb dL_law_636 rfl (lv_at hl 0 rfl) ?_
  refine lv_iload_n hx hb dL_law_637 rfl (lv_at hl 3 rfl) ?_
  refine lv_iconst (v := (1 : Int32)) hx hb dL_law_638 (by decide) ?_
  refine lv_iadd hx hb dL_law_639 ?_
  obtain ⟨v640, e640, hf⟩ := zb hf
  obtain ⟨i640, j640⟩ := zxs_s e640
  refine va_sld hx hb hX hbl hbA hS i640 dL_law_640 ?_
  refine zt j640 ?_
  obtain ⟨u641, t641, hf⟩ := zb hf
  obtain ⟨r641, e641, hf⟩ := zb hf
  refine zc_i hS (va_runV (As := [.int v640]) (rest := [.int r632.1]) ⟨hx, hb, hml, hown, hts⟩ (k_X9_segmentCount l D cy b r632.2 h2 v640 r641 e641) (cwV 1 hts gL_law_X9_segmentCount rfl rfl rfl (by decide +kernel) ⟨Nat.le_of_ble_eq_true rfl, Nat.le_of_ble_eq_true rfl⟩) (zp_V _ hK hP t641 (T := TX9) (N := 54) rfl (by decide)) rfl rfl hl.1 rfl (lv_room (Nat.le_of_ble_eq_true rfl)) dL_law_641 ⟨Nat.le_of_ble_eq_true rfl, Nat.le_of_ble_eq_true rfl⟩) (fun H locs hP hS => ?_)
  refine lv_icmp_eq (tgt := 794) hx hb dL_law_644 (by decide) (fun c644 => ?_) (fun c644 => ?_)
  · have hf := (if_pos c644).symm.trans hf
    exact K794 _ _ _ _ _ _ _ hf hP hS (lv_sub hl [0, 1, 2, 3] rfl)
  · have hf := (if_neg c644).symm.trans hf
    refine lv_iconst (v := (0 : Int32)) hx hb dL_law_647 (by decide) ?_
    exact absurd h1e (by cases hf; show ¬ (0 : Int32) = 1; decide)
set_option maxHeartbeats 4000000 in
set_option maxRecDepth 100000 in
theorem law_c649 {p : Program} {e : Env} {s : State} {m : MethodId} {below : List Frame} {meth : Method} {c : Code} (l : Launch) {D : va_G} {cy : Nat → ClassId} {b bs L : Nat} {xs : Nat → Int32} {rr : Int32 × Mem} (X : zLx D cy b p s m meth c bs L xs) (h1e : rr.1 = 1) (k794 : Mem → Nat → Nat → Int32 → Option (Int32 × Mem)) (K794 : ∀ (M : Mem) (H : Heap) (locs : List Loc) (ls : Array Slot) (h1 : Nat) (h2 : Nat) (x3 : Int32), k794 M h1 h2 x3 = some rr → zH D cy b M H → va_S (zA b) s.heap H locs → lv_has ls 4 [(0, .ref bs), (1, .ref (b + h1)), (2, .ref (b + h2)), (3, .int x3)] → W p l e room_1 s m #[Value.ref bs] below meth c H locs 600000 7302250 (lw_Z below #[Value.ref bs] s) (F0 m 794 ls [])) : ∀ (M : Mem) (H : Heap) (locs : List Loc) (ls : Array Slot) (h1 : Nat) (h2 : Nat) (x3 : Int32), fL_c649 xs L k794 M h1 h2 x3 = some rr → zH D cy b M H → va_S (zA b) s.heap H locs → lv_has ls 4 [(0, .ref bs), (1, .ref (b + h1)), (2, .ref (b + h2)), (3, .int x3)] → W p l e room_1 s m #[Value.ref bs] below meth c H locs 600000 7302250 (lw_Z below #[Value.ref bs] s) (F0 m 649 ls []) := by
  obtain ⟨hx, hb, hr, hml, hown, hts, hX, hbl, hlocks, hb0, hK⟩ := X
  have hbA : ¬ zA b bs := by show ¬ b ≤ bs; omega
  intro M H locs ls h1 h2 x3 hf hP hS hl
  unfold fL_c649 at hf
  refine lv_aload_n hx hb dL_law_649 rfl (lv_at hl 1 rfl) ?_
  refine lv_aload_n hx hb dL_law_650 rfl (lv_at hl 0 rfl) ?_
  refine lv_iload_n hx hb dL_law_651 rfl (lv_at hl 3 rfl) ?_
  refine lv_iconst (v := (1 : Int32)) hx hb dL_law_652 (by decide) ?_
  refine lv_iadd hx hb dL_law_653 ?_
  obtain ⟨v654, e654, hf⟩ := zb hf
  obtain ⟨i654, j654⟩ := zxs_s e654
  refine va_sld hx hb hX hbl hbA hS i654 dL_law_654 ?_
  refine zt j654 ?_
  refine lv_aload_n hx hb dL_law_655 rfl (lv_at hl 0 rfl) ?_
  refine lv_iload_n hx hb dL_law_656 rfl (lv_at hl 3 rfl) ?_
  refine lv_iconst (v := (2 : Int32)) hx hb dL_law_657 (by decide) ?_
  refine lv_iadd hx hb dL_law_658 ?_
  obtain ⟨v659, e659, hf⟩ := zb hf
  obtain ⟨i659, j659⟩ := zxs_s e659
  refine va_sld hx hb hX hbl hbA hS i659 dL_law_659 ?_
  refine zt j659 ?_
  obtain ⟨u660, t660, hf⟩ := zb hf
  obtain ⟨r660, e660, hf⟩ := zb hf
  refine zc_i hS (va_runV (As := [.int v654, .int v659]) (rest := []) ⟨hx, hb, hml, hown, hts⟩ (k_X8_segment l D cy b M h1 v654 v659 r660 e660) (cwV 2 hts gL_law_X8_segment rfl rfl rfl (by decide +kernel) ⟨Nat.le_of_ble_eq_true rfl, Nat.le_of_ble_eq_true rfl⟩) (zp_V _ hK hP t660 (T := TX8) (N := 7) rfl (by decide)) rfl rfl hl.1 rfl (lv_room (Nat.le_of_ble_eq_true rfl)) dL_law_660 ⟨Nat.le_of_ble_eq_true rfl, Nat.le_of_ble_eq_true rfl⟩) (fun H locs hP hS => ?_)
  refine lv_aload_n hx hb dL_law_663 rfl (lv_at hl 2 rfl) ?_
  refine lv_aload_n hx hb dL_law_664 rfl (lv_at hl 0 rfl) ?_
  refine lv_iload_n hx hb dL_law_665 rfl (lv_at hl 3 rfl) ?_
  refine lv_iconst (v := (1 : Int32)) hx hb dL_law_666 (by decide) ?_
  refine lv_iadd hx hb dL_law_667 ?_
  obtain ⟨v668, e668, hf⟩ := zb hf
  obtain ⟨i668, j668⟩ := zxs_s e668
  refine va_sld hx hb hX hbl hbA hS i668 dL_law_668 ?_
  refine zt j668 ?_
  refine lv_aload_n hx hb dL_law_669 rfl (lv_at hl 0 rfl) ?_
  refine lv_iload_n hx hb dL_law_670 rfl (lv_at hl 3 rfl) ?_
  refine lv_iconst (v := (2 : Int32)) hx hb dL_law_671 (by decide) ?_
  refine lv_iadd hx hb dL_law_672 ?_
  obtain ⟨v673, e673, hf⟩ := zb hf
  obtain ⟨i673, j673⟩ := zxs_s e673
  refine va_sld hx hb hX hbl hbA hS i673 dL_law_673 ?_
  refine zt j673 ?_
  obtain ⟨u674, t674, hf⟩ := zb hf
  obtain ⟨r674, e674, hf⟩ := zb hf
  refine zc_i hS (va_runV (As := [.int v668, .int v673]) (rest := [.int r660.1]) ⟨hx, hb, hml, hown, hts⟩ (k_X9_segment l D cy b r660.2 h2 v668 v673 r674 e674) (cwV 2 hts gL_law_X9_segment rfl rfl rfl (by decide +kernel) ⟨Nat.le_of_ble_eq_true rfl, Nat.le_of_ble_eq_true rfl⟩) (zp_V _ hK hP t674 (T := TX9) (N := 54) rfl (by decide)) rfl rfl hl.1 rfl (lv_room (Nat.le_of_ble_eq_true rfl)) dL_law_674 ⟨Nat.le_of_ble_eq_true rfl, Nat.le_of_ble_eq_true rfl⟩) (fun H locs hP hS => ?_)
  refine lv_icmp_eq (tgt := 794) hx hb dL_law_677 (by decide) (fun c677 => ?_) (fun c677 => ?_)
  · have hf := (if_pos c677).symm.trans hf
    exact K794 _ _ _ _ _ _ _ hf hP hS (lv_sub hl [0, 1, 2, 3] rfl)
  · have hf := (if_neg c677).symm.trans hf
    refine lv_iconst (v := (0 : Int32)) hx hb dL_law_680 (by decide) ?_
    exact absurd h1e (by cases hf; show ¬ (0 : Int32) = 1; decide)
set_option maxHeartbeats 4000000 in
set_option maxRecDepth 100000 in
theorem law_c682 {p : Program} {e : Env} {s : State} {m : MethodId} {below : List Frame} {meth : Method} {c : Code} (l : Launch) {D : va_G} {cy : Nat → ClassId} {b bs L : Nat} {xs : Nat → Int32} {rr : Int32 × Mem} (X : zLx D cy b p s m meth c bs L xs) (h1e : rr.1 = 1) (k794 : Mem → Nat → Nat → Int32 → Option (Int32 × Mem)) (K794 : ∀ (M : Mem) (H : Heap) (locs : List Loc) (ls : Array Slot) (h1 : Nat) (h2 : Nat) (x3 : Int32), k794 M h1 h2 x3 = some rr → zH D cy b M H → va_S (zA b) s.heap H locs → lv_has ls 4 [(0, .ref bs), (1, .ref (b + h1)), (2, .ref (b + h2)), (3, .int x3)] → W p l e room_1 s m #[Value.ref bs] below meth c H locs 600000 7302250 (lw_Z below #[Value.ref bs] s) (F0 m 794 ls [])) : ∀ (M : Mem) (H : Heap) (locs : List Loc) (ls : Array Slot) (h1 : Nat) (h2 : Nat) (x3 : Int32), fL_c682 xs L k794 M h1 h2 x3 = some rr → zH D cy b M H → va_S (zA b) s.heap H locs → lv_has ls 4 [(0, .ref bs), (1, .ref (b + h1)), (2, .ref (b + h2)), (3, .int x3)] → W p l e room_1 s m #[Value.ref bs] below meth c H locs 600000 7302250 (lw_Z below #[Value.ref bs] s) (F0 m 682 ls []) := by
  obtain ⟨hx, hb, hr, hml, hown, hts, hX, hbl, hlocks, hb0, hK⟩ := X
  have hbA : ¬ zA b bs := by show ¬ b ≤ bs; omega
  intro M H locs ls h1 h2 x3 hf hP hS hl
  unfold fL_c682 at hf
  refine lv_aload_n hx hb dL_law_682 rfl (lv_at hl 1 rfl) ?_
  refine lv_aload_n hx hb dL_law_683 rfl (lv_at hl 0 rfl) ?_
  refine lv_iload_n hx hb dL_law_684 rfl (lv_at hl 3 rfl) ?_
  refine lv_iconst (v := (1 : Int32)) hx hb dL_law_685 (by decide) ?_
  refine lv_iadd hx hb dL_law_686 ?_
  obtain ⟨v687, e687, hf⟩ := zb hf
  obtain ⟨i687, j687⟩ := zxs_s e687
  refine va_sld hx hb hX hbl hbA hS i687 dL_law_687 ?_
  refine zt j687 ?_
  obtain ⟨u688, t688, hf⟩ := zb hf
  obtain ⟨r688, e688, hf⟩ := zb hf
  refine zc_i hS (va_runV (As := [.int v687]) (rest := []) ⟨hx, hb, hml, hown, hts⟩ (k_X8_longest l D cy b M h1 v687 r688 e688) (cwV 1 hts gL_law_X8_longest rfl rfl rfl (by decide +kernel) ⟨Nat.le_of_ble_eq_true rfl, Nat.le_of_ble_eq_true rfl⟩) (zp_V _ hK hP t688 (T := TX8) (N := 7) rfl (by decide)) rfl rfl hl.1 rfl (lv_room (Nat.le_of_ble_eq_true rfl)) dL_law_688 ⟨Nat.le_of_ble_eq_true rfl, Nat.le_of_ble_eq_true rfl⟩) (fun H locs hP hS => ?_)
  refine lv_aload_n hx hb dL_law_691 rfl (lv_at hl 2 rfl) ?_
  refine lv_aload_n hx hb dL_law_692 rfl (lv_at hl 0 rfl) ?_
  refine lv_iload_n hx hb dL_law_693 rfl (lv_at hl 3 rfl) ?_
  refine lv_iconst (v := (1 : Int32)) hx hb dL_law_694 (by decide) ?_
  refine lv_iadd hx hb dL_law_695 ?_
  obtain ⟨v696, e696, hf⟩ := zb hf
  obtain ⟨i696, j696⟩ := zxs_s e696
  refine va_sld hx hb hX hbl hbA hS i696 dL_law_696 ?_
  refine zt j696 ?_
  obtain ⟨u697, t697, hf⟩ := zb hf
  obtain ⟨r697, e697, hf⟩ := zb hf
  refine zc_i hS (va_runV (As := [.int v696]) (rest := [.int r688.1]) ⟨hx, hb, hml, hown, hts⟩ (k_X9_longest l D cy b r688.2 h2 v696 r697 e697) (cwV 1 hts gL_law_X9_longest rfl rfl rfl (by decide +kernel) ⟨Nat.le_of_ble_eq_true rfl, Nat.le_of_ble_eq_true rfl⟩) (zp_V _ hK hP t697 (T := TX9) (N := 54) rfl (by decide)) rfl rfl hl.1 rfl (lv_room (Nat.le_of_ble_eq_true rfl)) dL_law_697 ⟨Nat.le_of_ble_eq_true rfl, Nat.le_of_ble_eq_true rfl⟩) (fun H locs hP hS => ?_)
  refine lv_icmp_eq (tgt := 794) hx hb dL_law_700 (by decide) (fun c700 => ?_) (fun c700 => ?_)
  · have hf := (if_pos c700).symm.trans hf
    exact K794 _ _ _ _ _ _ _ hf hP hS (lv_sub hl [0, 1, 2, 3] rfl)
  · have hf := (if_neg c700).symm.trans hf
    refine lv_iconst (v := (0 : Int32)) hx hb dL_law_703 (by decide) ?_
    exact absurd h1e (by cases hf; show ¬ (0 : Int32) = 1; decide)
set_option maxHeartbeats 4000000 in
set_option maxRecDepth 100000 in
theorem law_c705 {p : Program} {e : Env} {s : State} {m : MethodId} {below : List Frame} {meth : Method} {c : Code} (l : Launch) {D : va_G} {cy : Nat → ClassId} {b bs L : Nat} {xs : Nat → Int32} {rr : Int32 × Mem} (X : zLx D cy b p s m meth c bs L xs) (h1e : rr.1 = 1) (k794 : Mem → Nat → Nat → Int32 → Option (Int32 × Mem)) (K794 : ∀ (M : Mem) (H : Heap) (locs : List Loc) (ls : Array Slot) (h1 : Nat) (h2 : Nat) (x3 : Int32), k794 M h1 h2 x3 = some rr → zH D cy b M H → va_S (zA b) s.heap H locs → lv_has ls 4 [(0, .ref bs), (1, .ref (b + h1)), (2, .ref (b + h2)), (3, .int x3)] → W p l e room_1 s m #[Value.ref bs] below meth c H locs 600000 7302250 (lw_Z below #[Value.ref bs] s) (F0 m 794 ls [])) : ∀ (M : Mem) (H : Heap) (locs : List Loc) (ls : Array Slot) (h1 : Nat) (h2 : Nat) (x3 : Int32), fL_c705 xs L k794 M h1 h2 x3 = some rr → zH D cy b M H → va_S (zA b) s.heap H locs → lv_has ls 4 [(0, .ref bs), (1, .ref (b + h1)), (2, .ref (b + h2)), (3, .int x3)] → W p l e room_1 s m #[Value.ref bs] below meth c H locs 600000 7302250 (lw_Z below #[Value.ref bs] s) (F0 m 705 ls []) := by
  obtain ⟨hx, hb, hr, hml, hown, hts, hX, hbl, hlocks, hb0, hK⟩ := X
  have hbA : ¬ zA b bs := by show ¬ b ≤ bs; omega
  intro M H locs ls h1 h2 x3 hf hP hS hl
  unfold fL_c705 at hf
  refine lv_aload_n hx hb dL_law_705 rfl (lv_at hl 1 rfl) ?_
  refine lv_aload_n hx hb dL_law_706 rfl (lv_at hl 0 rfl) ?_
  refine lv_iload_n hx hb dL_law_707 rfl (lv_at hl 3 rfl) ?_
  refine lv_iconst (v := (1 : Int32)) hx hb dL_law_708 (by decide) ?_
  refine lv_iadd hx hb dL_law_709 ?_
  obtain ⟨v710, e710, hf⟩ := zb hf
  obtain ⟨i710, j710⟩ := zxs_s e710
  refine va_sld hx hb hX hbl hbA hS i710 dL_law_710 ?_
  refine zt j710 ?_
  refine lv_aload_n hx hb dL_law_711 rfl (lv_at hl 0 rfl) ?_
  refine lv_iload_n hx hb dL_law_712 rfl (lv_at hl 3 rfl) ?_
  refine lv_iconst (v := (2 : Int32)) hx hb dL_law_713 (by decide) ?_
  refine lv_iadd hx hb dL_law_714 ?_
  obtain ⟨v715, e715, hf⟩ := zb hf
  obtain ⟨i715, j715⟩ := zxs_s e715
  refine va_sld hx hb hX hbl hbA hS i715 dL_law_715 ?_
  refine zt j715 ?_
  obtain ⟨u716, t716, hf⟩ := zb hf
  obtain ⟨r716, e716, hf⟩ := zb hf
  refine zc_i hS (va_runV (As := [.int v710, .int v715]) (rest := []) ⟨hx, hb, hml, hown, hts⟩ (k_X8_segmentsWith l D cy b M h1 v710 v715 r716 e716) (cwV 2 hts gL_law_X8_segmentsWith rfl rfl rfl (by decide +kernel) ⟨Nat.le_of_ble_eq_true rfl, Nat.le_of_ble_eq_true rfl⟩) (zp_V _ hK hP t716 (T := TX8) (N := 7) rfl (by decide)) rfl rfl hl.1 rfl (lv_room (Nat.le_of_ble_eq_true rfl)) dL_law_716 ⟨Nat.le_of_ble_eq_true rfl, Nat.le_of_ble_eq_true rfl⟩) (fun H locs hP hS => ?_)
  refine lv_aload_n hx hb dL_law_719 rfl (lv_at hl 2 rfl) ?_
  refine lv_aload_n hx hb dL_law_720 rfl (lv_at hl 0 rfl) ?_
  refine lv_iload_n hx hb dL_law_721 rfl (lv_at hl 3 rfl) ?_
  refine lv_iconst (v := (1 : Int32)) hx hb dL_law_722 (by decide) ?_
  refine lv_iadd hx hb dL_law_723 ?_
  obtain ⟨v724, e724, hf⟩ := zb hf
  obtain ⟨i724, j724⟩ := zxs_s e724
  refine va_sld hx hb hX hbl hbA hS i724 dL_law_724 ?_
  refine zt j724 ?_
  refine lv_aload_n hx hb dL_law_725 rfl (lv_at hl 0 rfl) ?_
  refine lv_iload_n hx hb dL_law_726 rfl (lv_at hl 3 rfl) ?_
  refine lv_iconst (v := (2 : Int32)) hx hb dL_law_727 (by decide) ?_
  refine lv_iadd hx hb dL_law_728 ?_
  obtain ⟨v729, e729, hf⟩ := zb hf
  obtain ⟨i729, j729⟩ := zxs_s e729
  refine va_sld hx hb hX hbl hbA hS i729 dL_law_729 ?_
  refine zt j729 ?_
  obtain ⟨u730, t730, hf⟩ := zb hf
  obtain ⟨r730, e730, hf⟩ := zb hf
  refine zc_i hS (va_runV (As := [.int v724, .int v729]) (rest := [.int r716.1]) ⟨hx, hb, hml, hown, hts⟩ (k_X9_segmentsWith l D cy b r716.2 h2 v724 v729 r730 e730) (cwV 2 hts gL_law_X9_segmentsWith rfl rfl rfl (by decide +kernel) ⟨Nat.le_of_ble_eq_true rfl, Nat.le_of_ble_eq_true rfl⟩) (zp_V _ hK hP t730 (T := TX9) (N := 54) rfl (by decide)) rfl rfl hl.1 rfl (lv_room (Nat.le_of_ble_eq_true rfl)) dL_law_730 ⟨Nat.le_of_ble_eq_true rfl, Nat.le_of_ble_eq_true rfl⟩) (fun H locs hP hS => ?_)
  refine lv_icmp_eq (tgt := 794) hx hb dL_law_733 (by decide) (fun c733 => ?_) (fun c733 => ?_)
  · have hf := (if_pos c733).symm.trans hf
    exact K794 _ _ _ _ _ _ _ hf hP hS (lv_sub hl [0, 1, 2, 3] rfl)
  · have hf := (if_neg c733).symm.trans hf
    refine lv_iconst (v := (0 : Int32)) hx hb dL_law_736 (by decide) ?_
    exact absurd h1e (by cases hf; show ¬ (0 : Int32) = 1; decide)
set_option maxHeartbeats 4000000 in
set_option maxRecDepth 100000 in
theorem law_c738 {p : Program} {e : Env} {s : State} {m : MethodId} {below : List Frame} {meth : Method} {c : Code} (l : Launch) {D : va_G} {cy : Nat → ClassId} {b bs L : Nat} {xs : Nat → Int32} {rr : Int32 × Mem} (X : zLx D cy b p s m meth c bs L xs) (h1e : rr.1 = 1) (k794 : Mem → Nat → Nat → Int32 → Option (Int32 × Mem)) (K794 : ∀ (M : Mem) (H : Heap) (locs : List Loc) (ls : Array Slot) (h1 : Nat) (h2 : Nat) (x3 : Int32), k794 M h1 h2 x3 = some rr → zH D cy b M H → va_S (zA b) s.heap H locs → lv_has ls 4 [(0, .ref bs), (1, .ref (b + h1)), (2, .ref (b + h2)), (3, .int x3)] → W p l e room_1 s m #[Value.ref bs] below meth c H locs 600000 7302250 (lw_Z below #[Value.ref bs] s) (F0 m 794 ls [])) : ∀ (M : Mem) (H : Heap) (locs : List Loc) (ls : Array Slot) (h1 : Nat) (h2 : Nat) (x3 : Int32), fL_c738 xs L k794 M h1 h2 x3 = some rr → zH D cy b M H → va_S (zA b) s.heap H locs → lv_has ls 4 [(0, .ref bs), (1, .ref (b + h1)), (2, .ref (b + h2)), (3, .int x3)] → W p l e room_1 s m #[Value.ref bs] below meth c H locs 600000 7302250 (lw_Z below #[Value.ref bs] s) (F0 m 738 ls []) := by
  obtain ⟨hx, hb, hr, hml, hown, hts, hX, hbl, hlocks, hb0, hK⟩ := X
  have hbA : ¬ zA b bs := by show ¬ b ≤ bs; omega
  intro M H locs ls h1 h2 x3 hf hP hS hl
  unfold fL_c738 at hf
  refine lv_aload_n hx hb dL_law_738 rfl (lv_at hl 1 rfl) ?_
  refine lv_aload_n hx hb dL_law_739 rfl (lv_at hl 0 rfl) ?_
  refine lv_iload_n hx hb dL_law_740 rfl (lv_at hl 3 rfl) ?_
  refine lv_iconst (v := (1 : Int32)) hx hb dL_law_741 (by decide) ?_
  refine lv_iadd hx hb dL_law_742 ?_
  obtain ⟨v743, e743, hf⟩ := zb hf
  obtain ⟨i743, j743⟩ := zxs_s e743
  refine va_sld hx hb hX hbl hbA hS i743 dL_law_743 ?_
  refine zt j743 ?_
  refine lv_aload_n hx hb dL_law_744 rfl (lv_at hl 0 rfl) ?_
  refine lv_iload_n hx hb dL_law_745 rfl (lv_at hl 3 rfl) ?_
  refine lv_iconst (v := (2 : Int32)) hx hb dL_law_746 (by decide) ?_
  refine lv_iadd hx hb dL_law_747 ?_
  obtain ⟨v748, e748, hf⟩ := zb hf
  obtain ⟨i748, j748⟩ := zxs_s e748
  refine va_sld hx hb hX hbl hbA hS i748 dL_law_748 ?_
  refine zt j748 ?_
  obtain ⟨u749, t749, hf⟩ := zb hf
  obtain ⟨r749, e749, hf⟩ := zb hf
  refine zc_i hS (va_runV (As := [.int v743, .int v748]) (rest := []) ⟨hx, hb, hml, hown, hts⟩ (k_X8_looksAt l D cy b M h1 v743 v748 r749 e749) (cwV 2 hts gL_law_X8_looksAt rfl rfl rfl (by decide +kernel) ⟨Nat.le_of_ble_eq_true rfl, Nat.le_of_ble_eq_true rfl⟩) (zp_V _ hK hP t749 (T := TX8) (N := 7) rfl (by decide)) rfl rfl hl.1 rfl (lv_room (Nat.le_of_ble_eq_true rfl)) dL_law_749 ⟨Nat.le_of_ble_eq_true rfl, Nat.le_of_ble_eq_true rfl⟩) (fun H locs hP hS => ?_)
  refine lv_aload_n hx hb dL_law_752 rfl (lv_at hl 2 rfl) ?_
  refine lv_aload_n hx hb dL_law_753 rfl (lv_at hl 0 rfl) ?_
  refine lv_iload_n hx hb dL_law_754 rfl (lv_at hl 3 rfl) ?_
  refine lv_iconst (v := (1 : Int32)) hx hb dL_law_755 (by decide) ?_
  refine lv_iadd hx hb dL_law_756 ?_
  obtain ⟨v757, e757, hf⟩ := zb hf
  obtain ⟨i757, j757⟩ := zxs_s e757
  refine va_sld hx hb hX hbl hbA hS i757 dL_law_757 ?_
  refine zt j757 ?_
  refine lv_aload_n hx hb dL_law_758 rfl (lv_at hl 0 rfl) ?_
  refine lv_iload_n hx hb dL_law_759 rfl (lv_at hl 3 rfl) ?_
  refine lv_iconst (v := (2 : Int32)) hx hb dL_law_760 (by decide) ?_
  refine lv_iadd hx hb dL_law_761 ?_
  obtain ⟨v762, e762, hf⟩ := zb hf
  obtain ⟨i762, j762⟩ := zxs_s e762
  refine va_sld hx hb hX hbl hbA hS i762 dL_law_762 ?_
  refine zt j762 ?_
  obtain ⟨u763, t763, hf⟩ := zb hf
  obtain ⟨r763, e763, hf⟩ := zb hf
  refine zc_i hS (va_runV (As := [.int v757, .int v762]) (rest := [.int r749.1]) ⟨hx, hb, hml, hown, hts⟩ (k_X9_looksAt l D cy b r749.2 h2 v757 v762 r763 e763) (cwV 2 hts gL_law_X9_looksAt rfl rfl rfl (by decide +kernel) ⟨Nat.le_of_ble_eq_true rfl, Nat.le_of_ble_eq_true rfl⟩) (zp_V _ hK hP t763 (T := TX9) (N := 54) rfl (by decide)) rfl rfl hl.1 rfl (lv_room (Nat.le_of_ble_eq_true rfl)) dL_law_763 ⟨Nat.le_of_ble_eq_true rfl, Nat.le_of_ble_eq_true rfl⟩) (fun H locs hP hS => ?_)
  refine lv_icmp_eq (tgt := 794) hx hb dL_law_766 (by decide) (fun c766 => ?_) (fun c766 => ?_)
  · have hf := (if_pos c766).symm.trans hf
    exact K794 _ _ _ _ _ _ _ hf hP hS (lv_sub hl [0, 1, 2, 3] rfl)
  · have hf := (if_neg c766).symm.trans hf
    refine lv_iconst (v := (0 : Int32)) hx hb dL_law_769 (by decide) ?_
    exact absurd h1e (by cases hf; show ¬ (0 : Int32) = 1; decide)
set_option maxHeartbeats 4000000 in
set_option maxRecDepth 100000 in
theorem law_c771 {p : Program} {e : Env} {s : State} {m : MethodId} {below : List Frame} {meth : Method} {c : Code} (l : Launch) {D : va_G} {cy : Nat → ClassId} {b bs L : Nat} {xs : Nat → Int32} {rr : Int32 × Mem} (X : zLx D cy b p s m meth c bs L xs) (h1e : rr.1 = 1) (k794 : Mem → Nat → Nat → Int32 → Option (Int32 × Mem)) (K794 : ∀ (M : Mem) (H : Heap) (locs : List Loc) (ls : Array Slot) (h1 : Nat) (h2 : Nat) (x3 : Int32), k794 M h1 h2 x3 = some rr → zH D cy b M H → va_S (zA b) s.heap H locs → lv_has ls 4 [(0, .ref bs), (1, .ref (b + h1)), (2, .ref (b + h2)), (3, .int x3)] → W p l e room_1 s m #[Value.ref bs] below meth c H locs 600000 7302250 (lw_Z below #[Value.ref bs] s) (F0 m 794 ls [])) : ∀ (M : Mem) (H : Heap) (locs : List Loc) (ls : Array Slot) (h1 : Nat) (h2 : Nat) (x3 : Int32), fL_c771 xs L k794 M h1 h2 x3 = some rr → zH D cy b M H → va_S (zA b) s.heap H locs → lv_has ls 4 [(0, .ref bs), (1, .ref (b + h1)), (2, .ref (b + h2)), (3, .int x3)] → W p l e room_1 s m #[Value.ref bs] below meth c H locs 600000 7302250 (lw_Z below #[Value.ref bs] s) (F0 m 771 ls []) := by
  obtain ⟨hx, hb, hr, hml, hown, hts, hX, hbl, hlocks, hb0, hK⟩ := X
  have hbA : ¬ zA b bs := by show ¬ b ≤ bs; omega
  intro M H locs ls h1 h2 x3 hf hP hS hl
  unfold fL_c771 at hf
  refine lv_aload_n hx hb dL_law_771 rfl (lv_at hl 1 rfl) ?_
  refine lv_aload_n hx hb dL_law_772 rfl (lv_at hl 0 rfl) ?_
  refine lv_iload_n hx hb dL_law_773 rfl (lv_at hl 3 rfl) ?_
  refine lv_iconst (v := (1 : Int32)) hx hb dL_law_774 (by decide) ?_
  refine lv_iadd hx hb dL_law_775 ?_
  obtain ⟨v776, e776, hf⟩ := zb hf
  obtain ⟨i776, j776⟩ := zxs_s e776
  refine va_sld hx hb hX hbl hbA hS i776 dL_law_776 ?_
  refine zt j776 ?_
  obtain ⟨u777, t777, hf⟩ := zb hf
  obtain ⟨r777, e777, hf⟩ := zb hf
  refine zc_i hS (va_runV (As := [.int v776]) (rest := []) ⟨hx, hb, hml, hown, hts⟩ (k_X8_work l D cy b M h1 v776 r777 e777) (cwV 1 hts gL_law_X8_work rfl rfl rfl (by decide +kernel) ⟨Nat.le_of_ble_eq_true rfl, Nat.le_of_ble_eq_true rfl⟩) (zp_V _ hK hP t777 (T := TX8) (N := 7) rfl (by decide)) rfl rfl hl.1 rfl (lv_room (Nat.le_of_ble_eq_true rfl)) dL_law_777 ⟨Nat.le_of_ble_eq_true rfl, Nat.le_of_ble_eq_true rfl⟩) (fun H locs hP hS => ?_)
  refine lv_aload_n hx hb dL_law_780 rfl (lv_at hl 2 rfl) ?_
  refine lv_aload_n hx hb dL_law_781 rfl (lv_at hl 0 rfl) ?_
  refine lv_iload_n hx hb dL_law_782 rfl (lv_at hl 3 rfl) ?_
  refine lv_iconst (v := (1 : Int32)) hx hb dL_law_783 (by decide) ?_
  refine lv_iadd hx hb dL_law_784 ?_
  obtain ⟨v785, e785, hf⟩ := zb hf
  obtain ⟨i785, j785⟩ := zxs_s e785
  refine va_sld hx hb hX hbl hbA hS i785 dL_law_785 ?_
  refine zt j785 ?_
  obtain ⟨u786, t786, hf⟩ := zb hf
  obtain ⟨r786, e786, hf⟩ := zb hf
  refine zc_i hS (va_runV (As := [.int v785]) (rest := [.int r777.1]) ⟨hx, hb, hml, hown, hts⟩ (k_X9_work l D cy b r777.2 h2 v785 r786 e786) (cwV 1 hts gL_law_X9_work rfl rfl rfl (by decide +kernel) ⟨Nat.le_of_ble_eq_true rfl, Nat.le_of_ble_eq_true rfl⟩) (zp_V _ hK hP t786 (T := TX9) (N := 54) rfl (by decide)) rfl rfl hl.1 rfl (lv_room (Nat.le_of_ble_eq_true rfl)) dL_law_786 ⟨Nat.le_of_ble_eq_true rfl, Nat.le_of_ble_eq_true rfl⟩) (fun H locs hP hS => ?_)
  refine lv_icmp_eq (tgt := 794) hx hb dL_law_789 (by decide) (fun c789 => ?_) (fun c789 => ?_)
  · have hf := (if_pos c789).symm.trans hf
    exact K794 _ _ _ _ _ _ _ hf hP hS (lv_sub hl [0, 1, 2, 3] rfl)
  · have hf := (if_neg c789).symm.trans hf
    refine lv_iconst (v := (0 : Int32)) hx hb dL_law_792 (by decide) ?_
    exact absurd h1e (by cases hf; show ¬ (0 : Int32) = 1; decide)
