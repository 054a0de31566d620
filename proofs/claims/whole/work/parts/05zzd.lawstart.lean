def Z0 : Mem := (0, (fun _ _ => 0), (fun _ _ => none))
def fL_law (xs : Nat → Int32) (L : Nat) : Option (Int32 × Mem) :=
  (zno Z0 8 320).bind (fun M0 => (fX8_init M0 Z0.1).bind (fun M4 => (zcg M0 M4 278 320).bind (fun _ => (zno M4 9 320).bind (fun M8 => (fX9_init M8 M4.1).bind (fun M12 => (zcg M8 M12 40 320).bind (fun _ => fL_18L xs L zFU M12 Z0.1 M4.1 (0 : Int32)))))))
theorem zarr_p {s : State} {args : Array Value} {ty : FieldType} (h : (Cond.arrayClass ty).before args s = true) (hp : ∀ C, ty ≠ .object C) : ∃ cA, ArrOfT s cA ty ∧ va_RA s cA ty := by
  obtain ⟨cA, kA, comp, h1, h2, h3⟩ := Cond.arrayClass_spec h
  refine ⟨cA, fun n z => ⟨fun k h => (by cases h), kA, h2, comp, h3⟩, ?_⟩
  cases ty with
  | object C => exact absurd rfl (hp C)
  | _ => exact h1
theorem zarr_q {s : State} {args : Array Value} {C : String} (h : (Cond.arrayOver (.object C)).before args s = true) : ∃ cA, ArrOfT s cA (.object C) ∧ va_RA s cA (.object C) := by
  obtain ⟨comp, cA, kA, h1, -, h2, h3, h4⟩ := Cond.arrayOver_spec h
  exact ⟨cA, fun n z => ⟨fun k h => (by cases h), kA, h2, comp, h3⟩, kA, comp, h2, h3, h1, h4⟩
set_option maxHeartbeats 4000000 in
set_option maxRecDepth 100000 in
theorem zlaw_K {s : State} {bs : Nat} (hts0 : ∀ w ∈ lw_tbl, w.before #[Value.ref bs] s = true) : ∃ (D : va_G) (cy : Nat → ClassId), zKs D cy s := by
  have hts : ∀ w ∈ wsL_law, w.before #[Value.ref bs] s = true := fun w h => hts0 w (wsL_law_in w h)
  obtain ⟨c0, iS0, hKn0⟩ := u_known (C := RX0) (T := TX0) (N := 3) (n := 3) hts0 inX0 (hts (.instantiable RX0 3) (List.mem_of_getElem? (i := 96) rfl))
  obtain ⟨c1, iS1, hKn1⟩ := u_known (C := RX1) (T := TX1) (N := 4) (n := 4) hts0 inX1 (hts (.instantiable RX1 4) (List.mem_of_getElem? (i := 30) rfl))
  obtain ⟨c2, iS2, hKn2⟩ := u_known (C := RX2) (T := TX2) (N := 5) (n := 5) hts0 inX2 (hts (.instantiable RX2 5) (List.mem_of_getElem? (i := 22) rfl))
  obtain ⟨c3, iS3, hKn3⟩ := u_known (C := RX3) (T := TX3) (N := 3) (n := 3) hts0 inX3 (hts (.instantiable RX3 3) (List.mem_of_getElem? (i := 70) rfl))
  obtain ⟨c4, iS4, hKn4⟩ := u_known (C := RX4) (T := TX4) (N := 2) (n := 2) hts0 inX4 (hts (.instantiable RX4 2) (List.mem_of_getElem? (i := 17) rfl))
  obtain ⟨c5, iS5, hKn5⟩ := u_known (C := RX5) (T := TX5) (N := 9) (n := 9) hts0 inX5 (hts (.instantiable RX5 9) (List.mem_of_getElem? (i := 62) rfl))
  obtain ⟨c6, iS6, hKn6⟩ := u_known (C := RX6) (T := TX6) (N := 4) (n := 4) hts0 inX6 (hts (.instantiable RX6 4) (List.mem_of_getElem? (i := 25) rfl))
  obtain ⟨c7, iS7, hKn7⟩ := u_known (C := RX7) (T := TX7) (N := 2) (n := 2) hts0 inX7 (hts (.instantiable RX7 2) (List.mem_of_getElem? (i := 13) rfl))
  obtain ⟨c8, iS8, hKn8⟩ := u_known (C := RX8) (T := TX8) (N := 7) (n := 7) hts0 inX8 (hts (.instantiable RX8 7) (List.mem_of_getElem? (i := 1) rfl))
  obtain ⟨c9, iS9, hKn9⟩ := u_known (C := RX9) (T := TX9) (N := 54) (n := 54) hts0 inX9 (hts (.instantiable RX9 54) (List.mem_of_getElem? (i := 4) rfl))
  obtain ⟨y10, a10⟩ := zarr_p (hts (.arrayClass .char) (List.mem_of_getElem? (i := 49) rfl)) (fun C q => by cases q)
  obtain ⟨y11, a11⟩ := zarr_p (hts (.arrayClass .int) (List.mem_of_getElem? (i := 39) rfl)) (fun C q => by cases q)
  obtain ⟨y12, a12⟩ := zarr_p (hts (.arrayClass .boolean) (List.mem_of_getElem? (i := 110) rfl)) (fun C q => by cases q)
  have o0 := hts0 (.arrayOver (.object RX0)) (List.mem_of_getElem? (i := 229) (by decide +kernel))
  obtain ⟨y13, a13⟩ := zarr_q o0
  have o1 := hts0 (.arrayOver (.object RX2)) (List.mem_of_getElem? (i := 106) (by decide +kernel))
  obtain ⟨y14, a14⟩ := zarr_q o1
  have o2 := hts0 (.arrayOver (.object RX3)) (List.mem_of_getElem? (i := 206) (by decide +kernel))
  obtain ⟨y15, a15⟩ := zarr_q o2
  have o3 := hts0 (.arrayOver (.object RX4)) (List.mem_of_getElem? (i := 221) (by decide +kernel))
  obtain ⟨y16, a16⟩ := zarr_q o3
  have o4 := hts0 (.arrayOver (.object RX5)) (List.mem_of_getElem? (i := 113) (by decide +kernel))
  obtain ⟨y17, a17⟩ := zarr_q o4
  have t0 := hts0 (.methodLinkNest RX2 21 yX5_init RX8) (List.mem_of_getElem? (i := 115) (by decide +kernel))
  have t1 := hts0 (.methodLinkNest RX5 22 yX3_init RX8) (List.mem_of_getElem? (i := 123) (by decide +kernel))
  have t2 := hts0 (.methodLinkNest RX6 20 yX3_init RX8) (List.mem_of_getElem? (i := 207) (by decide +kernel))
  have t3 := hts0 (.methodLinkNest RX1 17 yX0_init RX8) (List.mem_of_getElem? (i := 231) (by decide +kernel))
  have t4 := hts0 (.methodLinkNest RX5 47 yX8_isClass RX8) (List.mem_of_getElem? (i := 350) (by decide +kernel))
  have t5 := hts0 (.methodLinkNest RX6 86 yX8_isClassLetterOrDot RX8) (List.mem_of_getElem? (i := 458) (by decide +kernel))
  refine ⟨(fun k => if k = 0 then c0 else if k = 1 then c1 else if k = 2 then c2 else if k = 3 then c3 else if k = 4 then c4 else if k = 5 then c5 else if k = 6 then c6 else if k = 7 then c7 else if k = 8 then c8 else c9, fun k => if k = 0 then iS0 else if k = 1 then iS1 else if k = 2 then iS2 else if k = 3 then iS3 else if k = 4 then iS4 else if k = 5 then iS5 else if k = 6 then iS6 else if k = 7 then iS7 else if k = 8 then iS8 else iS9), fun k => if k = 10 then y10 else if k = 11 then y11 else if k = 12 then y12 else if k = 13 then y13 else if k = 14 then y14 else if k = 15 then y15 else if k = 16 then y16 else y17, ⟨fun k q hq => ?_, fun k q hq => ?_⟩, ?_, ?_⟩
  · match k, hq with
    | 0, hq => cases hq; exact hKn0
    | 1, hq => cases hq; exact hKn1
    | 2, hq => cases hq; exact hKn2
    | 3, hq => cases hq; exact hKn3
    | 4, hq => cases hq; exact hKn4
    | 5, hq => cases hq; exact hKn5
    | 6, hq => cases hq; exact hKn6
    | 7, hq => cases hq; exact hKn7
    | 8, hq => cases hq; exact hKn8
    | 9, hq => cases hq; exact hKn9
    | k + 10, hq => simp [vwCl] at hq
  · match k, hq with
    | 0, hq => cases hq; exact a10
    | 1, hq => cases hq; exact a11
    | 2, hq => cases hq; exact a12
    | 3, hq => cases hq; exact a13
    | 4, hq => cases hq; exact a14
    | 5, hq => cases hq; exact a15
    | 6, hq => cases hq; exact a16
    | 7, hq => cases hq; exact a17
    | k + 8, hq => simp [ztys] at hq
  · intro q hq
    simp only [znl, List.mem_cons, List.not_mem_nil, or_false] at hq
    rcases hq with rfl | rfl | rfl | rfl | rfl | rfl
    · exact va_Nw.of rfl t0
    · exact va_Nw.of rfl t1
    · exact va_Nw.of rfl t2
    · exact va_Nw.of rfl t3
    · exact va_Nw.of rfl t4
    · exact va_Nw.of rfl t5
  · intro C hC
    simp only [zao, List.mem_cons, List.not_mem_nil, or_false] at hC
    rcases hC with rfl | rfl | rfl | rfl | rfl
    · exact va_AO.of o0
    · exact va_AO.of o1
    · exact va_AO.of o2
    · exact va_AO.of o3
    · exact va_AO.of o4
set_option maxHeartbeats 4000000 in
set_option maxRecDepth 100000 in
/-- THE LAW, from its entry, where its function answers 1 -/
theorem zlaw_walk {p : Program} {e : Env} {s : State} {m : MethodId} {below : List Frame} {meth : Method} {c : Code} (l : Launch) {bs L : Nat} {xs : Nat → Int32} (C0 : lw_At p s m meth c bs L xs) {rr : Int32 × Mem} (hf : fL_law xs L = some rr) (h1e : rr.1 = 1) : W p l e room_1 s m #[Value.ref bs] below meth c s.heap [] 0 0 (lw_Z below #[Value.ref bs] s) (entryFrame m ([Value.ref bs] : List Value).toArray 4) := by
  obtain ⟨hx, hb, hr, hml, hown, hts0, hX, hbl, hlocks, hgv⟩ := id C0
  have hts : ∀ w ∈ wsL_law, w.before #[Value.ref bs] s = true := fun w h => hts0 w (wsL_law_in w h)
  obtain ⟨D, cy, hK⟩ := zlaw_K hts0
  have hown : s.vm.findClass RL = some m.cls := hown
  obtain ⟨b, hb0⟩ : ∃ b, s.heap.size = b := ⟨_, rfl⟩
  have hS : va_S (zA b) s.heap s.heap [] := va_S.rf
  have hP : zH D cy b Z0 s.heap := ⟨fun a h => absurd h (Nat.not_lt_zero a), fun a j _ => by show fits .char (.int 0) = true; rfl⟩
  have hz : s.heap.size = b + Z0.1 := hb0
  have hl := lv_entry ([.ref bs]) (n := 4) (Nat.le_of_ble_eq_true rfl)
  rw [lg_entry_eq]
  generalize (lg_sl ([.ref bs]) ++ List.replicate (4 - (lg_sl ([.ref bs])).length) Slot.unset).toArray = ls at hl ⊢
  have hl : lv_has ls 4 [(0, .ref bs)] := hl
  unfold fL_law at hf
  obtain ⟨M0, e0, hf⟩ := zb hf
  obtain ⟨M4, e4, hf⟩ := zb hf
  obtain ⟨u4, r4, hf⟩ := zb hf
  obtain ⟨M8, e8, hf⟩ := zb hf
  obtain ⟨M12, e12, hf⟩ := zb hf
  obtain ⟨u12, r12, hf⟩ := zb hf
  obtain ⟨q4, g4⟩ := zcg_s r4
  obtain ⟨q12, g12⟩ := zcg_s r12
  refine zr_no (lim := 320) (ci := 8) (C := RX8) (T := TX8) (N := 7) hx hb hts0 inX8 tyX8 tyX8_ok hown (hts (.classLink RL 7 RX8) (List.mem_of_getElem? (i := 0) rfl)) (hts (.instantiable RX8 7) (List.mem_of_getElem? (i := 1) rfl)) (hts (.initialized RX8) (List.mem_of_getElem? (i := 2) rfl)) hK hP hz hS e0 rfl (by decide) (fun j hj => by rcases (show j = 0 ∨ j = 1 ∨ j = 2 ∨ j = 3 ∨ j = 4 ∨ j = 5 ∨ j = 6 by omega) with rfl | rfl | rfl | rfl | rfl | rfl | rfl <;> rfl) (fun h9 => by show _ ≤ 600000; omega) (fun h9 => by show _ ≤ 7302250; omega) dL_law_0 (fun H hP hz hS hq h9 => ?_)
  refine lv_dup hx hb dL_law_3 rfl ?_
  refine zc_n hS (va_runI (As := []) (rest := [.ref (b + Z0.1)]) ⟨hx, hb, hml, hown, hts⟩ (k_X8_init l D cy b M0 Z0.1 M4 e4) (cwI 0 hts gL_law_X8_init rfl rfl rfl (hts (.initialized RX8) (List.mem_of_getElem? (i := 2) rfl)) (hts (.methodLink RL 9 yX8_init) (List.mem_of_getElem? (i := 6) rfl)) (hts (.instanceMethod yX8_init) (List.mem_of_getElem? (i := 7) rfl)) rfl (by decide +kernel) ⟨Nat.le_of_ble_eq_true rfl, Nat.le_of_ble_eq_true rfl⟩) (zp_N _ hK hP hz) rfl rfl hl.1 rfl (lv_room (Nat.le_of_ble_eq_true rfl)) dL_law_4 ⟨by show _ ≤ 600000; omega, by show _ ≤ 7302250; omega⟩) (fun H locs hP hz hS => ?_)
  refine lv_astore_n (lv' := [(1, .ref (b + Z0.1)), (0, .ref bs)]) hx hb dL_law_7 rfl hl (by decide) rfl (fun ls hl => ?_)
  refine zr_no (lim := 320) (ci := 9) (C := RX9) (T := TX9) (N := 54) hx hb hts0 inX9 tyX9 tyX9_ok hown (hts (.classLink RL 10 RX9) (List.mem_of_getElem? (i := 3) rfl)) (hts (.instantiable RX9 54) (List.mem_of_getElem? (i := 4) rfl)) (hts (.initialized RX9) (List.mem_of_getElem? (i := 5) rfl)) hK hP hz hS e8 rfl (by decide) (fun j hj => by rcases (show j = 0 ∨ j = 1 ∨ j = 2 ∨ j = 3 ∨ j = 4 ∨ j = 5 ∨ j = 6 ∨ j = 7 ∨ j = 8 ∨ j = 9 ∨ j = 10 ∨ j = 11 ∨ j = 12 ∨ j = 13 ∨ j = 14 ∨ j = 15 ∨ j = 16 ∨ j = 17 ∨ j = 18 ∨ j = 19 ∨ j = 20 ∨ j = 21 ∨ j = 22 ∨ j = 23 ∨ j = 24 ∨ j = 25 ∨ j = 26 ∨ j = 27 ∨ j = 28 ∨ j = 29 ∨ j = 30 ∨ j = 31 ∨ j = 32 ∨ j = 33 ∨ j = 34 ∨ j = 35 ∨ j = 36 ∨ j = 37 ∨ j = 38 ∨ j = 39 ∨ j = 40 ∨ j = 41 ∨ j = 42 ∨ j = 43 ∨ j = 44 ∨ j = 45 ∨ j = 46 ∨ j = 47 ∨ j = 48 ∨ j = 49 ∨ j = 50 ∨ j = 51 ∨ j = 52 ∨ j = 53 by omega) with rfl | rfl | rfl | rfl | rfl | rfl | rfl | rfl | rfl | rfl | rfl | rfl | rfl | rfl | rfl | rfl | rfl | rfl | rfl | rfl | rfl | rfl | rfl | rfl | rfl | rfl | rfl | rfl | rfl | rfl | rfl | rfl | rfl | rfl | rfl | rfl | rfl | rfl | rfl | rfl | rfl | rfl | rfl | rfl | rfl | rfl | rfl | rfl | rfl | rfl | rfl | rfl | rfl | rfl <;> rfl) (fun h9 => by show _ ≤ 600000; omega) (fun h9 => by show _ ≤ 7302250; omega) dL_law_8 (fun H hP hz hS hq h9 => ?_)
  refine lv_dup hx hb dL_law_11 rfl ?_
  refine zc_n hS (va_runI (As := []) (rest := [.ref (b + M4.1)]) ⟨hx, hb, hml, hown, hts⟩ (k_X9_init l D cy b M8 M4.1 M12 e12) (cwI 0 hts gL_law_X9_init rfl rfl rfl (hts (.initialized RX9) (List.mem_of_getElem? (i := 5) rfl)) (hts (.methodLink RL 12 yX9_init) (List.mem_of_getElem? (i := 104) rfl)) (hts (.instanceMethod yX9_init) (List.mem_of_getElem? (i := 105) rfl)) rfl (by decide +kernel) ⟨Nat.le_of_ble_eq_true rfl, Nat.le_of_ble_eq_true rfl⟩) (zp_N _ hK hP hz) rfl rfl hl.1 rfl (lv_room (Nat.le_of_ble_eq_true rfl)) dL_law_12 ⟨by show _ ≤ 600000; omega, by show _ ≤ 7302250; omega⟩) (fun H locs hP hz hS => ?_)
  refine lv_astore_n (lv' := [(2, .ref (b + M4.1)), (1, .ref (b + Z0.1)), (0, .ref bs)]) hx hb dL_law_15 rfl hl (by decide) rfl (fun ls hl => ?_)
  refine lv_iconst (v := (0 : Int32)) hx hb dL_law_16 (by decide) ?_
  refine lv_istore_n (lv' := [(3, .int (0 : Int32)), (2, .ref (b + M4.1)), (1, .ref (b + Z0.1)), (0, .ref bs)]) hx hb dL_law_17 rfl hl (by decide) rfl (fun ls hl => ?_)
  refine W.widen (k := 600000) (n := 7302250) (Nat.le_of_ble_eq_true rfl) (Nat.le_of_ble_eq_true rfl) ?_
  exact law_L18 l ⟨hx, hb, hr, hml, hown, hts, hX, hbl, hlocks, hb0, hK⟩ h1e zFU M12 _ _ _ _ _ _ hf hP hS (lv_sub hl [3, 2, 1, 0] rfl)
