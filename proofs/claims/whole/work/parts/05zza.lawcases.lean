set_option maxHeartbeats 4000000 in
set_option maxRecDepth 100000 in
theorem law_c144 {p : Program} {e : Env} {s : State} {m : MethodId} {below : List Frame} {meth : Method} {c : Code} (l : Launch) {D : va_G} {cy : Nat → ClassId} {b bs L : Nat} {xs : Nat → Int32} {rr : Int32 × Mem} (X : zLx D cy b p s m meth c bs L xs) (h1e : rr.1 = 1) (k794 : Mem → Nat → Nat → Int32 → Option (Int32 × Mem)) (K794 : ∀ (M : Mem) (H : Heap) (locs : List Loc) (ls : Array Slot) (h1 : Nat) (h2 : Nat) (x3 : Int32), k794 M h1 h2 x3 = some rr → zH D cy b M H → va_S (zA b) s.heap H locs → lv_has ls 4 [(0, .ref bs), (1, .ref (b + h1)), (2, .ref (b + h2)), (3, .int x3)] → W p l e room_1 s m #[Value.ref bs] below meth c H locs 600000 7302250 (lw_Z below #[Value.ref bs] s) (F0 m 794 ls [])) : ∀ (M : Mem) (H : Heap) (locs : List Loc) (ls : Array Slot) (h1 : Nat) (h2 : Nat) (x3 : Int32), fL_c144 xs L k794 M h1 h2 x3 = some rr → zH D cy b M H → va_S (zA b) s.heap H locs → lv_has ls 4 [(0, .ref bs), (1, .ref (b + h1)), (2, .ref (b + h2)), (3, .int x3)] → W p l e room_1 s m #[Value.ref bs] below meth c H locs 600000 7302250 (lw_Z below #[Value.ref bs] s) (F0 m 144 ls []) := by
  obtain ⟨hx, hb, hr, hml, hown, hts, hX, hbl, hlocks, hb0, hK⟩ := X
  have hbA : ¬ zA b bs := by show ¬ b ≤ bs; omega
  intro M H locs ls h1 h2 x3 hf hP hS hl
  unfold fL_c144 at hf
  refine lv_aload_n hx hb dL_law_144 rfl (lv_at hl 1 rfl) ?_
  refine lv_aload_n hx hb dL_law_145 rfl (lv_at hl 0 rfl) ?_
  refine lv_iload_n hx hb dL_law_146 rfl (lv_at hl 3 rfl) ?_
  refine lv_iconst (v := (1 : Int32)) hx hb dL_law_147 (by decide) ?_
  refine lv_iadd hx hb dL_law_148 ?_
  obtain ⟨v149, e149, hf⟩ := zb hf
  obtain ⟨i149, j149⟩ := zxs_s e149
  refine va_sld hx hb hX hbl hbA hS i149 dL_law_149 ?_
  refine zt j149 ?_
  refine lv_i2c hx hb dL_law_150 rfl ?_
  refine lv_aload_n hx hb dL_law_151 rfl (lv_at hl 0 rfl) ?_
  refine lv_iload_n hx hb dL_law_152 rfl (lv_at hl 3 rfl) ?_
  refine lv_iconst (v := (2 : Int32)) hx hb dL_law_153 (by decide) ?_
  refine lv_iadd hx hb dL_law_154 ?_
  obtain ⟨v155, e155, hf⟩ := zb hf
  obtain ⟨i155, j155⟩ := zxs_s e155
  refine va_sld hx hb hX hbl hbA hS i155 dL_law_155 ?_
  refine zt j155 ?_
  obtain ⟨u156, t156, hf⟩ := zb hf
  obtain ⟨r156, e156, hf⟩ := zb hf
  refine zc_i hS (va_runV (As := [.int ((v149.toUInt32 % 65536).toInt32), .int v155]) (rest := []) ⟨hx, hb, hml, hown, hts⟩ (k_X8_setClass l D cy b M h1 ((v149.toUInt32 % 65536).toInt32) v155 r156 e156) (cwV 2 hts gL_law_X8_setClass rfl rfl rfl (by decide +kernel) ⟨Nat.le_of_ble_eq_true rfl, Nat.le_of_ble_eq_true rfl⟩) (zp_V _ hK hP t156 (T := TX8) (N := 7) rfl (by decide)) rfl rfl hl.1 rfl (lv_room (Nat.le_of_ble_eq_true rfl)) dL_law_156 ⟨Nat.le_of_ble_eq_true rfl, Nat.le_of_ble_eq_true rfl⟩) (fun H locs hP hS => ?_)
  refine lv_aload_n hx hb dL_law_159 rfl (lv_at hl 2 rfl) ?_
  refine lv_aload_n hx hb dL_law_160 rfl (lv_at hl 0 rfl) ?_
  refine lv_iload_n hx hb dL_law_161 rfl (lv_at hl 3 rfl) ?_
  refine lv_iconst (v := (1 : Int32)) hx hb dL_law_162 (by decide) ?_
  refine lv_iadd hx hb dL_law_163 ?_
  obtain ⟨v164, e164, hf⟩ := zb hf
  obtain ⟨i164, j164⟩ := zxs_s e164
  refine va_sld hx hb hX hbl hbA hS i164 dL_law_164 ?_
  refine zt j164 ?_
  refine lv_i2c hx hb dL_law_165 rfl ?_
  refine lv_aload_n hx hb dL_law_166 rfl (lv_at hl 0 rfl) ?_
  refine lv_iload_n hx hb dL_law_167 rfl (lv_at hl 3 rfl) ?_
  refine lv_iconst (v := (2 : Int32)) hx hb dL_law_168 (by decide) ?_
  refine lv_iadd hx hb dL_law_169 ?_
  obtain ⟨v170, e170, hf⟩ := zb hf
  obtain ⟨i170, j170⟩ := zxs_s e170
  refine va_sld hx hb hX hbl hbA hS i170 dL_law_170 ?_
  refine zt j170 ?_
  obtain ⟨u171, t171, hf⟩ := zb hf
  obtain ⟨r171, e171, hf⟩ := zb hf
  refine zc_i hS (va_runV (As := [.int ((v164.toUInt32 % 65536).toInt32), .int v170]) (rest := [.int r156.1]) ⟨hx, hb, hml, hown, hts⟩ (k_X9_setClass l D cy b r156.2 h2 ((v164.toUInt32 % 65536).toInt32) v170 r171 e171) (cwV 2 hts gL_law_X9_setClass rfl rfl rfl (by decide +kernel) ⟨Nat.le_of_ble_eq_true rfl, Nat.le_of_ble_eq_true rfl⟩) (zp_V _ hK hP t171 (T := TX9) (N := 54) rfl (by decide)) rfl rfl hl.1 rfl (lv_room (Nat.le_of_ble_eq_true rfl)) dL_law_171 ⟨Nat.le_of_ble_eq_true rfl, Nat.le_of_ble_eq_true rfl⟩) (fun H locs hP hS => ?_)
  refine lv_icmp_eq (tgt := 794) hx hb dL_law_174 (by decide) (fun c174 => ?_) (fun c174 => ?_)
  · have hf := (if_pos c174).symm.trans hf
    exact K794 _ _ _ _ _ _ _ hf hP hS (lv_sub hl [0, 1, 2, 3] rfl)
  · have hf := (if_neg c174).symm.trans hf
    refine lv_iconst (v := (0 : Int32)) hx hb dL_law_177 (by decide) ?_
    exact absurd h1e (by cases hf; show ¬ (0 : Int32) = 1; decide)
set_option maxHeartbeats 4000000 in
set_option maxRecDepth 100000 in
theorem law_c179 {p : Program} {e : Env} {s : State} {m : MethodId} {below : List Frame} {meth : Method} {c : Code} (l : Launch) {D : va_G} {cy : Nat → ClassId} {b bs L : Nat} {xs : Nat → Int32} {rr : Int32 × Mem} (X : zLx D cy b p s m meth c bs L xs) (h1e : rr.1 = 1) (k794 : Mem → Nat → Nat → Int32 → Option (Int32 × Mem)) (K794 : ∀ (M : Mem) (H : Heap) (locs : List Loc) (ls : Array Slot) (h1 : Nat) (h2 : Nat) (x3 : Int32), k794 M h1 h2 x3 = some rr → zH D cy b M H → va_S (zA b) s.heap H locs → lv_has ls 4 [(0, .ref bs), (1, .ref (b + h1)), (2, .ref (b + h2)), (3, .int x3)] → W p l e room_1 s m #[Value.ref bs] below meth c H locs 600000 7302250 (lw_Z below #[Value.ref bs] s) (F0 m 794 ls [])) : ∀ (M : Mem) (H : Heap) (locs : List Loc) (ls : Array Slot) (h1 : Nat) (h2 : Nat) (x3 : Int32), fL_c179 xs L k794 M h1 h2 x3 = some rr → zH D cy b M H → va_S (zA b) s.heap H locs → lv_has ls 4 [(0, .ref bs), (1, .ref (b + h1)), (2, .ref (b + h2)), (3, .int x3)] → W p l e room_1 s m #[Value.ref bs] below meth c H locs 600000 7302250 (lw_Z below #[Value.ref bs] s) (F0 m 179 ls []) := by
  obtain ⟨hx, hb, hr, hml, hown, hts, hX, hbl, hlocks, hb0, hK⟩ := X
  have hbA : ¬ zA b bs := by show ¬ b ≤ bs; omega
  intro M H locs ls h1 h2 x3 hf hP hS hl
  unfold fL_c179 at hf
  refine lv_aload_n hx hb dL_law_179 rfl (lv_at hl 1 rfl) ?_
  refine lv_aload_n hx hb dL_law_180 rfl (lv_at hl 0 rfl) ?_
  refine lv_iload_n hx hb dL_law_181 rfl (lv_at hl 3 rfl) ?_
  refine lv_iconst (v := (1 : Int32)) hx hb dL_law_182 (by decide) ?_
  refine lv_iadd hx hb dL_law_183 ?_
  obtain ⟨v184, e184, hf⟩ := zb hf
  obtain ⟨i184, j184⟩ := zxs_s e184
  refine va_sld hx hb hX hbl hbA hS i184 dL_law_184 ?_
  refine zt j184 ?_
  refine lv_i2c hx hb dL_law_185 rfl ?_
  obtain ⟨u186, t186, hf⟩ := zb hf
  obtain ⟨r186, e186, hf⟩ := zb hf
  refine zc_i hS (va_runV (As := [.int ((v184.toUInt32 % 65536).toInt32)]) (rest := []) ⟨hx, hb, hml, hown, hts⟩ (k_X8_classOf l D cy b M h1 ((v184.toUInt32 % 65536).toInt32) r186 e186) (cwV 1 hts gL_law_X8_classOf rfl rfl rfl (by decide +kernel) ⟨Nat.le_of_ble_eq_true rfl, Nat.le_of_ble_eq_true rfl⟩) (zp_V _ hK hP t186 (T := TX8) (N := 7) rfl (by decide)) rfl rfl hl.1 rfl (lv_room (Nat.le_of_ble_eq_true rfl)) dL_law_186 ⟨Nat.le_of_ble_eq_true rfl, Nat.le_of_ble_eq_true rfl⟩) (fun H locs hP hS => ?_)
  refine lv_aload_n hx hb dL_law_189 rfl (lv_at hl 2 rfl) ?_
  refine lv_aload_n hx hb dL_law_190 rfl (lv_at hl 0 rfl) ?_
  refine lv_iload_n hx hb dL_law_191 rfl (lv_at hl 3 rfl) ?_
  refine lv_iconst (v := (1 : Int32)) hx hb dL_law_192 (by decide) ?_
  refine lv_iadd hx hb dL_law_193 ?_
  obtain ⟨v194, e194, hf⟩ := zb hf
  obtain ⟨i194, j194⟩ := zxs_s e194
  refine va_sld hx hb hX hbl hbA hS i194 dL_law_194 ?_
  refine zt j194 ?_
  refine lv_i2c hx hb dL_law_195 rfl ?_
  obtain ⟨u196, t196, hf⟩ := zb hf
  obtain ⟨r196, e196, hf⟩ := zb hf
  refine zc_i hS (va_runV (As := [.int ((v194.toUInt32 % 65536).toInt32)]) (rest := [.int r186.1]) ⟨hx, hb, hml, hown, hts⟩ (k_X9_classOf l D cy b r186.2 h2 ((v194.toUInt32 % 65536).toInt32) r196 e196) (cwV 1 hts gL_law_X9_classOf rfl rfl rfl (by decide +kernel) ⟨Nat.le_of_ble_eq_true rfl, Nat.le_of_ble_eq_true rfl⟩) (zp_V _ hK hP t196 (T := TX9) (N := 54) rfl (by decide)) rfl rfl hl.1 rfl (lv_room (Nat.le_of_ble_eq_true rfl)) dL_law_196 ⟨Nat.le_of_ble_eq_true rfl, Nat.le_of_ble_eq_true rfl⟩) (fun H locs hP hS => ?_)
  refine lv_icmp_eq (tgt := 794) hx hb dL_law_199 (by decide) (fun c199 => ?_) (fun c199 => ?_)
  · have hf := (if_pos c199).symm.trans hf
    exact K794 _ _ _ _ _ _ _ hf hP hS (lv_sub hl [0, 1, 2, 3] rfl)
  · have hf := (if_neg c199).symm.trans hf
    refine lv_iconst (v := (0 : Int32)) hx hb dL_law_202 (by decide) ?_
    exact absurd h1e (by cases hf; show ¬ (0 : Int32) = 1; decide)
set_option maxHeartbeats 4000000 in
set_option maxRecDepth 100000 in
theorem law_c204 {p : Program} {e : Env} {s : State} {m : MethodId} {below : List Frame} {meth : Method} {c : Code} (l : Launch) {D : va_G} {cy : Nat → ClassId} {b bs L : Nat} {xs : Nat → Int32} {rr : Int32 × Mem} (X : zLx D cy b p s m meth c bs L xs) (h1e : rr.1 = 1) (k794 : Mem → Nat → Nat → Int32 → Option (Int32 × Mem)) (K794 : ∀ (M : Mem) (H : Heap) (locs : List Loc) (ls : Array Slot) (h1 : Nat) (h2 : Nat) (x3 : Int32), k794 M h1 h2 x3 = some rr → zH D cy b M H → va_S (zA b) s.heap H locs → lv_has ls 4 [(0, .ref bs), (1, .ref (b + h1)), (2, .ref (b + h2)), (3, .int x3)] → W p l e room_1 s m #[Value.ref bs] below meth c H locs 600000 7302250 (lw_Z below #[Value.ref bs] s) (F0 m 794 ls [])) : ∀ (M : Mem) (H : Heap) (locs : List Loc) (ls : Array Slot) (h1 : Nat) (h2 : Nat) (x3 : Int32), fL_c204 xs L k794 M h1 h2 x3 = some rr → zH D cy b M H → va_S (zA b) s.heap H locs → lv_has ls 4 [(0, .ref bs), (1, .ref (b + h1)), (2, .ref (b + h2)), (3, .int x3)] → W p l e room_1 s m #[Value.ref bs] below meth c H locs 600000 7302250 (lw_Z below #[Value.ref bs] s) (F0 m 204 ls []) := by
  obtain ⟨hx, hb, hr, hml, hown, hts, hX, hbl, hlocks, hb0, hK⟩ := X
  have hbA : ¬ zA b bs := by show ¬ b ≤ bs; omega
  intro M H locs ls h1 h2 x3 hf hP hS hl
  unfold fL_c204 at hf
  refine lv_aload_n hx hb dL_law_204 rfl (lv_at hl 1 rfl) ?_
  refine lv_aload_n hx hb dL_law_205 rfl (lv_at hl 0 rfl) ?_
  refine lv_iload_n hx hb dL_law_206 rfl (lv_at hl 3 rfl) ?_
  refine lv_iconst (v := (1 : Int32)) hx hb dL_law_207 (by decide) ?_
  refine lv_iadd hx hb dL_law_208 ?_
  obtain ⟨v209, e209, hf⟩ := zb hf
  obtain ⟨i209, j209⟩ := zxs_s e209
  refine va_sld hx hb hX hbl hbA hS i209 dL_law_209 ?_
  refine zt j209 ?_
  refine lv_i2c hx hb dL_law_210 rfl ?_
  obtain ⟨u211, t211, hf⟩ := zb hf
  obtain ⟨r211, e211, hf⟩ := zb hf
  refine zc_i hS (va_runV (As := [.int ((v209.toUInt32 % 65536).toInt32)]) (rest := []) ⟨hx, hb, hml, hown, hts⟩ (k_X8_type l D cy b M h1 ((v209.toUInt32 % 65536).toInt32) r211 e211) (cwV 1 hts gL_law_X8_type rfl rfl rfl (by decide +kernel) ⟨Nat.le_of_ble_eq_true rfl, Nat.le_of_ble_eq_true rfl⟩) (zp_V _ hK hP t211 (T := TX8) (N := 7) rfl (by decide)) rfl rfl hl.1 rfl (lv_room (Nat.le_of_ble_eq_true rfl)) dL_law_211 ⟨Nat.le_of_ble_eq_true rfl, Nat.le_of_ble_eq_true rfl⟩) (fun H locs hP hS => ?_)
  refine lv_aload_n hx hb dL_law_214 rfl (lv_at hl 2 rfl) ?_
  refine lv_aload_n hx hb dL_law_215 rfl (lv_at hl 0 rfl) ?_
  refine lv_iload_n hx hb dL_law_216 rfl (lv_at hl 3 rfl) ?_
  refine lv_iconst (v := (1 : Int32)) hx hb dL_law_217 (by decide) ?_
  refine lv_iadd hx hb dL_law_218 ?_
  obtain ⟨v219, e219, hf⟩ := zb hf
  obtain ⟨i219, j219⟩ := zxs_s e219
  refine va_sld hx hb hX hbl hbA hS i219 dL_law_219 ?_
  refine zt j219 ?_
  refine lv_i2c hx hb dL_law_220 rfl ?_
  obtain ⟨u221, t221, hf⟩ := zb hf
  obtain ⟨r221, e221, hf⟩ := zb hf
  refine zc_i hS (va_runV (As := [.int ((v219.toUInt32 % 65536).toInt32)]) (rest := [.int r211.1]) ⟨hx, hb, hml, hown, hts⟩ (k_X9_type l D cy b r211.2 h2 ((v219.toUInt32 % 65536).toInt32) r221 e221) (cwV 1 hts gL_law_X9_type rfl rfl rfl (by decide +kernel) ⟨Nat.le_of_ble_eq_true rfl, Nat.le_of_ble_eq_true rfl⟩) (zp_V _ hK hP t221 (T := TX9) (N := 54) rfl (by decide)) rfl rfl hl.1 rfl (lv_room (Nat.le_of_ble_eq_true rfl)) dL_law_221 ⟨Nat.le_of_ble_eq_true rfl, Nat.le_of_ble_eq_true rfl⟩) (fun H locs hP hS => ?_)
  refine lv_icmp_eq (tgt := 794) hx hb dL_law_224 (by decide) (fun c224 => ?_) (fun c224 => ?_)
  · have hf := (if_pos c224).symm.trans hf
    exact K794 _ _ _ _ _ _ _ hf hP hS (lv_sub hl [0, 1, 2, 3] rfl)
  · have hf := (if_neg c224).symm.trans hf
    refine lv_iconst (v := (0 : Int32)) hx hb dL_law_227 (by decide) ?_
    exact absurd h1e (by cases hf; show ¬ (0 : Int32) = 1; decide)
set_option maxHeartbeats 4000000 in
set_option maxRecDepth 100000 in
theorem law_c229 {p : Program} {e : Env} {s : State} {m : MethodId} {below : List Frame} {meth : Method} {c : Code} (l : Launch) {D : va_G} {cy : Nat → ClassId} {b bs L : Nat} {xs : Nat → Int32} {rr : Int32 × Mem} (X : zLx D cy b p s m meth c bs L xs) (h1e : rr.1 = 1) (k794 : Mem → Nat → Nat → Int32 → Option (Int32 × Mem)) (K794 : ∀ (M : Mem) (H : Heap) (locs : List Loc) (ls : Array Slot) (h1 : Nat) (h2 : Nat) (x3 : Int32), k794 M h1 h2 x3 = some rr → zH D cy b M H → va_S (zA b) s.heap H locs → lv_has ls 4 [(0, .ref bs), (1, .ref (b + h1)), (2, .ref (b + h2)), (3, .int x3)] → W p l e room_1 s m #[Value.ref bs] below meth c H locs 600000 7302250 (lw_Z below #[Value.ref bs] s) (F0 m 794 ls [])) : ∀ (M : Mem) (H : Heap) (locs : List Loc) (ls : Array Slot) (h1 : Nat) (h2 : Nat) (x3 : Int32), fL_c229 xs L k794 M h1 h2 x3 = some rr → zH D cy b M H → va_S (zA b) s.heap H locs → lv_has ls 4 [(0, .ref bs), (1, .ref (b + h1)), (2, .ref (b + h2)), (3, .int x3)] → W p l e room_1 s m #[Value.ref bs] below meth c H locs 600000 7302250 (lw_Z below #[Value.ref bs] s) (F0 m 229 ls []) := by
  obtain ⟨hx, hb, hr, hml, hown, hts, hX, hbl, hlocks, hb0, hK⟩ := X
  have hbA : ¬ zA b bs := by show ¬ b ≤ bs; omega
  intro M H locs ls h1 h2 x3 hf hP hS hl
  unfold fL_c229 at hf
  refine lv_aload_n hx hb dL_law_229 rfl (lv_at hl 1 rfl) ?_
  obtain ⟨u230, t230, hf⟩ := zb hf
  obtain ⟨r230, e230, hf⟩ := zb hf
  refine zc_i hS (va_runV (As := []) (rest := []) ⟨hx, hb, hml, hown, hts⟩ (k_X8_clearPattern l D cy b M h1  r230 e230) (cwV 0 hts gL_law_X8_clearPattern rfl rfl rfl (by decide +kernel) ⟨Nat.le_of_ble_eq_true rfl, Nat.le_of_ble_eq_true rfl⟩) (zp_V _ hK hP t230 (T := TX8) (N := 7) rfl (by decide)) rfl rfl hl.1 rfl (lv_room (Nat.le_of_ble_eq_true rfl)) dL_law_230 ⟨Nat.le_of_ble_eq_true rfl, Nat.le_of_ble_eq_true rfl⟩) (fun H locs hP hS => ?_)
  refine lv_aload_n hx hb dL_law_233 rfl (lv_at hl 2 rfl) ?_
  obtain ⟨u234, t234, hf⟩ := zb hf
  obtain ⟨r234, e234, hf⟩ := zb hf
  refine zc_i hS (va_runV (As := []) (rest := [.int r230.1]) ⟨hx, hb, hml, hown, hts⟩ (k_X9_clearPattern l D cy b r230.2 h2  r234 e234) (cwV 0 hts gL_law_X9_clearPattern rfl rfl rfl (by decide +kernel) ⟨Nat.le_of_ble_eq_true rfl, Nat.le_of_ble_eq_true rfl⟩) (zp_V _ hK hP t234 (T := TX9) (N := 54) rfl (by decide)) rfl rfl hl.1 rfl (lv_room (Nat.le_of_ble_eq_true rfl)) dL_law_234 ⟨Nat.le_of_ble_eq_true rfl, Nat.le_of_ble_eq_true rfl⟩) (fun H locs hP hS => ?_)
  refine lv_icmp_eq (tgt := 794) hx hb dL_law_237 (by decide) (fun c237 => ?_) (fun c237 => ?_)
  · have hf := (if_pos c237).symm.trans hf
    exact K794 _ _ _ _ _ _ _ hf hP hS (lv_sub hl [0, 1, 2, 3] rfl)
  · have hf := (if_neg c237).symm.trans hf
    refine lv_iconst (v := (0 : Int32)) hx hb dL_law_240 (by decide) ?_
    exact absurd h1e (by cases hf; show ¬ (0 : Int32) = 1; decide)
set_option maxHeartbeats 4000000 in
set_option maxRecDepth 100000 in
theorem law_c242 {p : Program} {e : Env} {s : State} {m : MethodId} {below : List Frame} {meth : Method} {c : Code} (l : Launch) {D : va_G} {cy : Nat → ClassId} {b bs L : Nat} {xs : Nat → Int32} {rr : Int32 × Mem} (X : zLx D cy b p s m meth c bs L xs) (h1e : rr.1 = 1) (k794 : Mem → Nat → Nat → Int32 → Option (Int32 × Mem)) (K794 : ∀ (M : Mem) (H : Heap) (locs : List Loc) (ls : Array Slot) (h1 : Nat) (h2 : Nat) (x3 : Int32), k794 M h1 h2 x3 = some rr → zH D cy b M H → va_S (zA b) s.heap H locs → lv_has ls 4 [(0, .ref bs), (1, .ref (b + h1)), (2, .ref (b + h2)), (3, .int x3)] → W p l e room_1 s m #[Value.ref bs] below meth c H locs 600000 7302250 (lw_Z below #[Value.ref bs] s) (F0 m 794 ls [])) : ∀ (M : Mem) (H : Heap) (locs : List Loc) (ls : Array Slot) (h1 : Nat) (h2 : Nat) (x3 : Int32), fL_c242 xs L k794 M h1 h2 x3 = some rr → zH D cy b M H → va_S (zA b) s.heap H locs → lv_has ls 4 [(0, .ref bs), (1, .ref (b + h1)), (2, .ref (b + h2)), (3, .int x3)] → W p l e room_1 s m #[Value.ref bs] below meth c H locs 600000 7302250 (lw_Z below #[Value.ref bs] s) (F0 m 242 ls []) := by
  obtain ⟨hx, hb, hr, hml, hown, hts, hX, hbl, hlocks, hb0, hK⟩ := X
  have hbA : ¬ zA b bs := by show ¬ b ≤ bs; omega
  intro M H locs ls h1 h2 x3 hf hP hS hl
  unfold fL_c242 at hf
  refine lv_aload_n hx hb dL_law_242 rfl (lv_at hl 1 rfl) ?_
  refine lv_aload_n hx hb dL_law_243 rfl (lv_at hl 0 rfl) ?_
  refine lv_iload_n hx hb dL_law_244 rfl (lv_at hl 3 rfl) ?_
  refine lv_iconst (v := (1 : Int32)) hx hb dL_law_245 (by decide) ?_
  refine lv_iadd hx hb dL_law_246 ?_
  obtain ⟨v247, e247, hf⟩ := zb hf
  obtain ⟨i247, j247⟩ := zxs_s e247
  refine va_sld hx hb hX hbl hbA hS i247 dL_law_247 ?_
  refine zt j247 ?_
  refine lv_aload_n hx hb dL_law_248 rfl (lv_at hl 0 rfl) ?_
  refine lv_iload_n hx hb dL_law_249 rfl (lv_at hl 3 rfl) ?_
  refine lv_iconst (v := (2 : Int32)) hx hb dL_law_250 (by decide) ?_
  refine lv_iadd hx hb dL_law_251 ?_
  obtain ⟨v252, e252, hf⟩ := zb hf
  obtain ⟨i252, j252⟩ := zxs_s e252
  refine va_sld hx hb hX hbl hbA hS i252 dL_law_252 ?_
  refine zt j252 ?_
  obtain ⟨u253, t253, hf⟩ := zb hf
  obtain ⟨r253, e253, hf⟩ := zb hf
  refine zc_i hS (va_runV (As := [.int v247, .int v252]) (rest := []) ⟨hx, hb, hml, hown, hts⟩ (k_X8_setRule l D cy b M h1 v247 v252 r253 e253) (cwV 2 hts gL_law_X8_setRule rfl rfl rfl (by decide +kernel) ⟨Nat.le_of_ble_eq_true rfl, Nat.le_of_ble_eq_true rfl⟩) (zp_V _ hK hP t253 (T := TX8) (N := 7) rfl (by decide)) rfl rfl hl.1 rfl (lv_room (Nat.le_of_ble_eq_true rfl)) dL_law_253 ⟨Nat.le_of_ble_eq_true rfl, Nat.le_of_ble_eq_true rfl⟩) (fun H locs hP hS => ?_)
  refine lv_aload_n hx hb dL_law_256 rfl (lv_at hl 2 rfl) ?_
  refine lv_aload_n hx hb dL_law_257 rfl (lv_at hl 0 rfl) ?_
  refine lv_iload_n hx hb dL_law_258 rfl (lv_at hl 3 rfl) ?_
  refine lv_iconst (v := (1 : Int32)) hx hb dL_law_259 (by decide) ?_
  refine lv_iadd hx hb dL_law_260 ?_
  obtain ⟨v261, e261, hf⟩ := zb hf
  obtain ⟨i261, j261⟩ := zxs_s e261
  refine va_sld hx hb hX hbl hbA hS i261 dL_law_261 ?_
  refine zt j261 ?_
  refine lv_aload_n hx hb dL_law_262 rfl (lv_at hl 0 rfl) ?_
  refine lv_iload_n hx hb dL_law_263 rfl (lv_at hl 3 rfl) ?_
  refine lv_iconst (v := (2 : Int32)) hx hb dL_law_264 (by decide) ?_
  refine lv_iadd hx hb dL_law_265 ?_
  obtain ⟨v266, e266, hf⟩ := zb hf
  obtain ⟨i266, j266⟩ := zxs_s e266
  refine va_sld hx hb hX hbl hbA hS i266 dL_law_266 ?_
  refine zt j266 ?_
  obtain ⟨u267, t267, hf⟩ := zb hf
  obtain ⟨r267, e267, hf⟩ := zb hf
  refine zc_i hS (va_runV (As := [.int v261, .int v266]) (rest := [.int r253.1]) ⟨hx, hb, hml, hown, hts⟩ (k_X9_setRule l D cy b r253.2 h2 v261 v266 r267 e267) (cwV 2 hts gL_law_X9_setRule rfl rfl rfl (by decide +kernel) ⟨Nat.le_of_ble_eq_true rfl, Nat.le_of_ble_eq_true rfl⟩) (zp_V _ hK hP t267 (T := TX9) (N := 54) rfl (by decide)) rfl rfl hl.1 rfl (lv_room (Nat.le_of_ble_eq_true rfl)) dL_law_267 ⟨Nat.le_of_ble_eq_true rfl, Nat.le_of_ble_eq_true rfl⟩) (fun H locs hP hS => ?_)
  refine lv_icmp_eq (tgt := 794) hx hb dL_law_270 (by decide) (fun c270 => ?_) (fun c270 => ?_)
  · have hf := (if_pos c270).symm.trans hf
    exact K794 _ _ _ _ _ _ _ hf hP hS (lv_sub hl [0, 1, 2, 3] rfl)
  · have hf := (if_neg c270).symm.trans hf
    refine lv_iconst (v := (0 : Int32)) hx hb dL_law_273 (by decide) ?_
    exact absurd h1e (by cases hf; show ¬ (0 : Int32) = 1; decide)
set_option maxHeartbeats 4000000 in
set_option maxRecDepth 100000 in
theorem law_c275 {p : Program} {e : Env} {s : State} {m : MethodId} {below : List Frame} {meth : Method} {c : Code} (l : Launch) {D : va_G} {cy : Nat → ClassId} {b bs L : Nat} {xs : Nat → Int32} {rr : Int32 × Mem} (X : zLx D cy b p s m meth c bs L xs) (h1e : rr.1 = 1) (k794 : Mem → Nat → Nat → Int32 → Option (Int32 × Mem)) (K794 : ∀ (M : Mem) (H : Heap) (locs : List Loc) (ls : Array Slot) (h1 : Nat) (h2 : Nat) (x3 : Int32), k794 M h1 h2 x3 = some rr → zH D cy b M H → va_S (zA b) s.heap H locs → lv_has ls 4 [(0, .ref bs), (1, .ref (b + h1)), (2, .ref (b + h2)), (3, .int x3)] → W p l e room_1 s m #[Value.ref bs] below meth c H locs 600000 7302250 (lw_Z below #[Value.ref bs] s) (F0 m 794 ls [])) : ∀ (M : Mem) (H : Heap) (locs : List Loc) (ls : Array Slot) (h1 : Nat) (h2 : Nat) (x3 : Int32), fL_c275 xs L k794 M h1 h2 x3 = some rr → zH D cy b M H → va_S (zA b) s.heap H locs → lv_has ls 4 [(0, .ref bs), (1, .ref (b + h1)), (2, .ref (b + h2)), (3, .int x3)] → W p l e room_1 s m #[Value.ref bs] below meth c H locs 600000 7302250 (lw_Z below #[Value.ref bs] s) (F0 m 275 ls []) := by
  obtain ⟨hx, hb, hr, hml, hown, hts, hX, hbl, hlocks, hb0, hK⟩ := X
  have hbA : ¬ zA b bs := by show ¬ b ≤ bs; omega
  intro M H locs ls h1 h2 x3 hf hP hS hl
  unfold fL_c275 at hf
  refine lv_aload_n hx hb dL_law_275 rfl (lv_at hl 1 rfl) ?_
  refine lv_aload_n hx hb dL_law_276 rfl (lv_at hl 0 rfl) ?_
  refine lv_iload_n hx hb dL_law_277 rfl (lv_at hl 3 rfl) ?_
  refine lv_iconst (v := (1 : Int32)) hx hb dL_law_278 (by decide) ?_
  refine lv_iadd hx hb dL_law_279 ?_
  obtain ⟨v280, e280, hf⟩ := zb hf
  obtain ⟨i280, j280⟩ := zxs_s e280
  refine va_sld hx hb hX hbl hbA hS i280 dL_law_280 ?_
  refine zt j280 ?_
  refine lv_aload_n hx hb dL_law_281 rfl (lv_at hl 0 rfl) ?_
  refine lv_iload_n hx hb dL_law_282 rfl (lv_at hl 3 rfl) ?_
  refine lv_iconst (v := (2 : Int32)) hx hb dL_law_283 (by decide) ?_
  refine lv_iadd hx hb dL_law_284 ?_
  obtain ⟨v285, e285, hf⟩ := zb hf
  obtain ⟨i285, j285⟩ := zxs_s e285
  refine va_sld hx hb hX hbl hbA hS i285 dL_law_285 ?_
  refine zt j285 ?_
  refine lv_aload_n hx hb dL_law_286 rfl (lv_at hl 0 rfl) ?_
  refine lv_iload_n hx hb dL_law_287 rfl (lv_at hl 3 rfl) ?_
  refine lv_iconst (v := (3 : Int32)) hx hb dL_law_288 (by decide) ?_
  refine lv_iadd hx hb dL_law_289 ?_
  obtain ⟨v290, e290, hf⟩ := zb hf
  obtain ⟨i290, j290⟩ := zxs_s e290
  refine va_sld hx hb hX hbl hbA hS i290 dL_law_290 ?_
  refine zt j290 ?_
  obtain ⟨u291, t291, hf⟩ := zb hf
  obtain ⟨r291, e291, hf⟩ := zb hf
  refine zc_i hS (va_runV (As := [.int v280, .int v285, .int v290]) (rest := []) ⟨hx, hb, hml, hown, hts⟩ (k_X8_ruleText l D cy b M h1 v280 v285 v290 r291 e291) (cwV 3 hts gL_law_X8_ruleText rfl rfl rfl (by decide +kernel) ⟨Nat.le_of_ble_eq_true rfl, Nat.le_of_ble_eq_true rfl⟩) (zp_V _ hK hP t291 (T := TX8) (N := 7) rfl (by decide)) rfl rfl hl.1 rfl (lv_room (Nat.le_of_ble_eq_true rfl)) dL_law_291 ⟨Nat.le_of_ble_eq_true rfl, Nat.le_of_ble_eq_true rfl⟩) (fun H locs hP hS => ?_)
  refine lv_aload_n hx hb dL_law_294 rfl (lv_at hl 2 rfl) ?_
  refine lv_aload_n hx hb dL_law_295 rfl (lv_at hl 0 rfl) ?_
  refine lv_iload_n hx hb dL_law_296 rfl (lv_at hl 3 rfl) ?_
  refine lv_iconst (v := (1 : Int32)) hx hb dL_law_297 (by decide) ?_
  refine lv_iadd hx hb dL_law_298 ?_
  obtain ⟨v299, e299, hf⟩ := zb hf
  obtain ⟨i299, j299⟩ := zxs_s e299
  refine va_sld hx hb hX hbl hbA hS i299 dL_law_299 ?_
  refine zt j299 ?_
  refine lv_aload_n hx hb dL_law_300 rfl (lv_at hl 0 rfl) ?_
  refine lv_iload_n hx hb dL_law_301 rfl (lv_at hl 3 rfl) ?_
  refine lv_iconst (v := (2 : Int32)) hx hb dL_law_302 (by decide) ?_
  refine lv_iadd hx hb dL_law_303 ?_
  obtain ⟨v304, e304, hf⟩ := zb hf
  obtain ⟨i304, j304⟩ := zxs_s e304
  refine va_sld hx hb hX hbl hbA hS i304 dL_law_304 ?_
  refine zt j304 ?_
  refine lv_aload_n hx hb dL_law_305 rfl (lv_at hl 0 rfl) ?_
  refine lv_iload_n hx hb dL_law_306 rfl (lv_at hl 3 rfl) ?_
  refine lv_iconst (v := (3 : Int32)) hx hb dL_law_307 (by decide) ?_
  refine lv_iadd hx hb dL_law_308 ?_
  obtain ⟨v309, e309, hf⟩ := zb hf
  obtain ⟨i309, j309⟩ := zxs_s e309
  refine va_sld hx hb hX hbl hbA hS i309 dL_law_309 ?_
  refine zt j309 ?_
  obtain ⟨u310, t310, hf⟩ := zb hf
  obtain ⟨r310, e310, hf⟩ := zb hf
  refine zc_i hS (va_runV (As := [.int v299, .int v304, .int v309]) (rest := [.int r291.1]) ⟨hx, hb, hml, hown, hts⟩ (k_X9_ruleText l D cy b r291.2 h2 v299 v304 v309 r310 e310) (cwV 3 hts gL_law_X9_ruleText rfl rfl rfl (by decide +kernel) ⟨Nat.le_of_ble_eq_true rfl, Nat.le_of_ble_eq_true rfl⟩) (zp_V _ hK hP t310 (T := TX9) (N := 54) rfl (by decide)) rfl rfl hl.1 rfl (lv_room (Nat.le_of_ble_eq_true rfl)) dL_law_310 ⟨Nat.le_of_ble_eq_true rfl, Nat.le_of_ble_eq_true rfl⟩) (fun H locs hP hS => ?_)
  refine lv_icmp_eq (tgt := 794) hx hb dL_law_313 (by decide) (fun c313 => ?_) (fun c313 => ?_)
  · have hf := (if_pos c313).symm.trans hf
    exact K794 _ _ _ _ _ _ _ hf hP hS (lv_sub hl [0, 1, 2, 3] rfl)
  · have hf := (if_neg c313).symm.trans hf
    refine lv_iconst (v := (0 : Int32)) hx hb dL_law_316 (by decide) ?_
    exact absurd h1e (by cases hf; show ¬ (0 : Int32) = 1; decide)
set_option maxHeartbeats 4000000 in
set_option maxRecDepth 100000 in
theorem law_c318 {p : Program} {e : Env} {s : State} {m : MethodId} {below : List Frame} {meth : Method} {c : Code} (l : Launch) {D : va_G} {cy : Nat → ClassId} {b bs L : Nat} {xs : Nat → Int32} {rr : Int32 × Mem} (X : zLx D cy b p s m meth c bs L xs) (h1e : rr.1 = 1) (k794 : Mem → Nat → Nat → Int32 → Option (Int32 × Mem)) (K794 : ∀ (M : Mem) (H : Heap) (locs : List Loc) (ls : Array Slot) (h1 : Nat) (h2 : Nat) (x3 : Int32), k794 M h1 h2 x3 = some rr → zH D cy b M H → va_S (zA b) s.heap H locs → lv_has ls 4 [(0, .ref bs), (1, .ref (b + h1)), (2, .ref (b + h2)), (3, .int x3)] → W p l e room_1 s m #[Value.ref bs] below meth c H locs 600000 7302250 (lw_Z below #[Value.ref bs] s) (F0 m 794 ls [])) : ∀ (M : Mem) (H : Heap) (locs : List Loc) (ls : Array Slot) (h1 : Nat) (h2 : Nat) (x3 : Int32), fL_c318 xs L k794 M h1 h2 x3 = some rr → zH D cy b M H → va_S (zA b) s.heap H locs → lv_has ls 4 [(0, .ref bs), (1, .ref (b + h1)), (2, .ref (b + h2)), (3, .int x3)] → W p l e room_1 s m #[Value.ref bs] below meth c H locs 600000 7302250 (lw_Z below #[Value.ref bs] s) (F0 m 318 ls []) := by
  obtain ⟨hx, hb, hr, hml, hown, hts, hX, hbl, hlocks, hb0, hK⟩ := X
  have hbA : ¬ zA b bs := by show ¬ b ≤ bs; omega
  intro M H locs ls h1 h2 x3 hf hP hS hl
  unfold fL_c318 at hf
  refine lv_aload_n hx hb dL_law_318 rfl (lv_at hl 1 rfl) ?_
  refine lv_aload_n hx hb dL_law_319 rfl (lv_at hl 0 rfl) ?_
  refine lv_iload_n hx hb dL_law_320 rfl (lv_at hl 3 rfl) ?_
  refine lv_iconst (v := (1 : Int32)) hx hb dL_law_321 (by decide) ?_
  refine lv_iadd hx hb dL_law_322 ?_
  obtain ⟨v323, e323, hf⟩ := zb hf
  obtain ⟨i323, j323⟩ := zxs_s e323
  refine va_sld hx hb hX hbl hbA hS i323 dL_law_323 ?_
  refine zt j323 ?_
  refine lv_aload_n hx hb dL_law_324 rfl (lv_at hl 0 rfl) ?_
  refine lv_iload_n hx hb dL_law_325 rfl (lv_at hl 3 rfl) ?_
  refine lv_iconst (v := (2 : Int32)) hx hb dL_law_326 (by decide) ?_
  refine lv_iadd hx hb dL_law_327 ?_
  obtain ⟨v328, e328, hf⟩ := zb hf
  obtain ⟨i328, j328⟩ := zxs_s e328
  refine va_sld hx hb hX hbl hbA hS i328 dL_law_328 ?_
  refine zt j328 ?_
  refine lv_aload_n hx hb dL_law_329 rfl (lv_at hl 0 rfl) ?_
  refine lv_iload_n hx hb dL_law_330 rfl (lv_at hl 3 rfl) ?_
  refine lv_iconst (v := (3 : Int32)) hx hb dL_law_331 (by decide) ?_
  refine lv_iadd hx hb dL_law_332 ?_
  obtain ⟨v333, e333, hf⟩ := zb hf
  obtain ⟨i333, j333⟩ := zxs_s e333
  refine va_sld hx hb hX hbl hbA hS i333 dL_law_333 ?_
  refine zt j333 ?_
  obtain ⟨u334, t334, hf⟩ := zb hf
  obtain ⟨r334, e334, hf⟩ := zb hf
  refine zc_i hS (va_runV (As := [.int v323, .int v328, .int v333]) (rest := []) ⟨hx, hb, hml, hown, hts⟩ (k_X8_matchLength l D cy b M h1 v323 v328 v333 r334 e334) (cwV 3 hts gL_law_X8_matchLength rfl rfl rfl (by decide +kernel) ⟨Nat.le_of_ble_eq_true rfl, Nat.le_of_ble_eq_true rfl⟩) (zp_V _ hK hP t334 (T := TX8) (N := 7) rfl (by decide)) rfl rfl hl.1 rfl (lv_room (Nat.le_of_ble_eq_true rfl)) dL_law_334 ⟨Nat.le_of_ble_eq_true rfl, Nat.le_of_ble_eq_true rfl⟩) (fun H locs hP hS => ?_)
  refine lv_aload_n hx hb dL_law_337 rfl (lv_at hl 2 rfl) ?_
  refine lv_aload_n hx hb dL_law_338 rfl (lv_at hl 0 rfl) ?_
  refine lv_iload_n hx hb dL_law_339 rfl (lv_at hl 3 rfl) ?_
  refine lv_iconst (v := (1 : Int32)) hx hb dL_law_340 (by decide) ?_
  refine lv_iadd hx hb dL_law_341 ?_
  obtain ⟨v342, e342, hf⟩ := zb hf
  obtain ⟨i342, j342⟩ := zxs_s e342
  refine va_sld hx hb hX hbl hbA hS i342 dL_law_342 ?_
  refine zt j342 ?_
  refine lv_aload_n hx hb dL_law_343 rfl (lv_at hl 0 rfl) ?_
  refine lv_iload_n hx hb dL_law_344 rfl (lv_at hl 3 rfl) ?_
  refine lv_iconst (v := (2 : Int32)) hx hb dL_law_345 (by decide) ?_
  refine lv_iadd hx hb dL_law_346 ?_
  obtain ⟨v347, e347, hf⟩ := zb hf
  obtain ⟨i347, j347⟩ := zxs_s e347
  refine va_sld hx hb hX hbl hbA hS i347 dL_law_347 ?_
  refine zt j347 ?_
  refine lv_aload_n hx hb dL_law_348 rfl (lv_at hl 0 rfl) ?_
  refine lv_iload_n hx hb dL_law_349 rfl (lv_at hl 3 rfl) ?_
  refine lv_iconst (v := (3 : Int32)) hx hb dL_law_350 (by decide) ?_
  refine lv_iadd hx hb dL_law_351 ?_
  obtain ⟨v352, e352, hf⟩ := zb hf
  obtain ⟨i352, j352⟩ := zxs_s e352
  refine va_sld hx hb hX hbl hbA hS i352 dL_law_352 ?_
  refine zt j352 ?_
  obtain ⟨u353, t353, hf⟩ := zb hf
  obtain ⟨r353, e353, hf⟩ := zb hf
  refine zc_i hS (va_runV (As := [.int v342, .int v347, .int v352]) (rest := [.int r334.1]) ⟨hx, hb, hml, hown, hts⟩ (k_X9_matchLength l D cy b r334.2 h2 v342 v347 v352 r353 e353) (cwV 3 hts gL_law_X9_matchLength rfl rfl rfl (by decide +kernel) ⟨Nat.le_of_ble_eq_true rfl, Nat.le_of_ble_eq_true rfl⟩) (zp_V _ hK hP t353 (T := TX9) (N := 54) rfl (by decide)) rfl rfl hl.1 rfl (lv_room (Nat.le_of_ble_eq_true rfl)) dL_law_353 ⟨Nat.le_of_ble_eq_true rfl, Nat.le_of_ble_eq_true rfl⟩) (fun H locs hP hS => ?_)
  refine lv_icmp_eq (tgt := 794) hx hb dL_law_356 (by decide) (fun c356 => ?_) (fun c356 => ?_)
  · have hf := (if_pos c356).symm.trans hf
    exact K794 _ _ _ _ _ _ _ hf hP hS (lv_sub hl [0, 1, 2, 3] rfl)
  · have hf := (if_neg c356).symm.trans hf
    refine lv_iconst (v := (0 : Int32)) hx hb dL_law_359 (by decide) ?_
    exact absurd h1e (by cases hf; show ¬ (0 : Int32) = 1; decide)
set_option maxHeartbeats 4000000 in
set_option maxRecDepth 100000 in
theorem law_c361 {p : Program} {e : Env} {s : State} {m : MethodId} {below : List Frame} {meth : Method} {c : Code} (l : Launch) {D : va_G} {cy : Nat → ClassId} {b bs L : Nat} {xs : Nat → Int32} {rr : Int32 × Mem} (X : zLx D cy b p s m meth c bs L xs) (h1e : rr.1 = 1) (k794 : Mem → Nat → Nat → Int32 → Option (Int32 × Mem)) (K794 : ∀ (M : Mem) (H : Heap) (locs : List Loc) (ls : Array Slot) (h1 : Nat) (h2 : Nat) (x3 : Int32), k794 M h1 h2 x3 = some rr → zH D cy b M H → va_S (zA b) s.heap H locs → lv_has ls 4 [(0, .ref bs), (1, .ref (b + h1)), (2, .ref (b + h2)), (3, .int x3)] → W p l e room_1 s m #[Value.ref bs] below meth c H locs 600000 7302250 (lw_Z below #[Value.ref bs] s) (F0 m 794 ls [])) : ∀ (M : Mem) (H : Heap) (locs : List Loc) (ls : Array Slot) (h1 : Nat) (h2 : Nat) (x3 : Int32), fL_c361 xs L k794 M h1 h2 x3 = some rr → zH D cy b M H → va_S (zA b) s.heap H locs → lv_has ls 4 [(0, .ref bs), (1, .ref (b + h1)), (2, .ref (b + h2)), (3, .int x3)] → W p l e room_1 s m #[Value.ref bs] below meth c H locs 600000 7302250 (lw_Z below #[Value.ref bs] s) (F0 m 361 ls []) := by
  obtain ⟨hx, hb, hr, hml, hown, hts, hX, hbl, hlocks, hb0, hK⟩ := X
  have hbA : ¬ zA b bs := by show ¬ b ≤ bs; omega
  intro M H locs ls h1 h2 x3 hf hP hS hl
  unfold fL_c361 at hf
  refine lv_aload_n hx hb dL_law_361 rfl (lv_at hl 1 rfl) ?_
  obtain ⟨u362, t362, hf⟩ := zb hf
  obtain ⟨r362, e362, hf⟩ := zb hf
  refine zc_i hS (va_runV (As := []) (rest := []) ⟨hx, hb, hml, hown, hts⟩ (k_X8_addException l D cy b M h1  r362 e362) (cwV 0 hts gL_law_X8_addException rfl rfl rfl (by decide +kernel) ⟨Nat.le_of_ble_eq_true rfl, Nat.le_of_ble_eq_true rfl⟩) (zp_V _ hK hP t362 (T := TX8) (N := 7) rfl (by decide)) rfl rfl hl.1 rfl (lv_room (Nat.le_of_ble_eq_true rfl)) dL_law_362 ⟨Nat.le_of_ble_eq_true rfl, Nat.le_of_ble_eq_true rfl⟩) (fun H locs hP hS => ?_)
  refine lv_aload_n hx hb dL_law_365 rfl (lv_at hl 2 rfl) ?_
  obtain ⟨u366, t366, hf⟩ := zb hf
  obtain ⟨r366, e366, hf⟩ := zb hf
  refine zc_i hS (va_runV (As := []) (rest := [.int r362.1]) ⟨hx, hb, hml, hown, hts⟩ (k_X9_addException l D cy b r362.2 h2  r366 e366) (cwV 0 hts gL_law_X9_addException rfl rfl rfl (by decide +kernel) ⟨Nat.le_of_ble_eq_true rfl, Nat.le_of_ble_eq_true rfl⟩) (zp_V _ hK hP t366 (T := TX9) (N := 54) rfl (by decide)) rfl rfl hl.1 rfl (lv_room (Nat.le_of_ble_eq_true rfl)) dL_law_366 ⟨Nat.le_of_ble_eq_true rfl, Nat.le_of_ble_eq_true rfl⟩) (fun H locs hP hS => ?_)
  refine lv_icmp_eq (tgt := 794) hx hb dL_law_369 (by decide) (fun c369 => ?_) (fun c369 => ?_)
  · have hf := (if_pos c369).symm.trans hf
    exact K794 _ _ _ _ _ _ _ hf hP hS (lv_sub hl [0, 1, 2, 3] rfl)
  · have hf := (if_neg c369).symm.trans hf
    refine lv_iconst (v := (0 : Int32)) hx hb dL_law_372 (by decide) ?_
    exact absurd h1e (by cases hf; show ¬ (0 : Int32) = 1; decide)
set_option maxHeartbeats 4000000 in
set_option maxRecDepth 100000 in
theorem law_c374 {p : Program} {e : Env} {s : State} {m : MethodId} {below : List Frame} {meth : Method} {c : Code} (l : Launch) {D : va_G} {cy : Nat → ClassId} {b bs L : Nat} {xs : Nat → Int32} {rr : Int32 × Mem} (X : zLx D cy b p s m meth c bs L xs) (h1e : rr.1 = 1) (k794 : Mem → Nat → Nat → Int32 → Option (Int32 × Mem)) (K794 : ∀ (M : Mem) (H : Heap) (locs : List Loc) (ls : Array Slot) (h1 : Nat) (h2 : Nat) (x3 : Int32), k794 M h1 h2 x3 = some rr → zH D cy b M H → va_S (zA b) s.heap H locs → lv_has ls 4 [(0, .ref bs), (1, .ref (b + h1)), (2, .ref (b + h2)), (3, .int x3)] → W p l e room_1 s m #[Value.ref bs] below meth c H locs 600000 7302250 (lw_Z below #[Value.ref bs] s) (F0 m 794 ls [])) : ∀ (M : Mem) (H : Heap) (locs : List Loc) (ls : Array Slot) (h1 : Nat) (h2 : Nat) (x3 : Int32), fL_c374 xs L k794 M h1 h2 x3 = some rr → zH D cy b M H → va_S (zA b) s.heap H locs → lv_has ls 4 [(0, .ref bs), (1, .ref (b + h1)), (2, .ref (b + h2)), (3, .int x3)] → W p l e room_1 s m #[Value.ref bs] below meth c H locs 600000 7302250 (lw_Z below #[Value.ref bs] s) (F0 m 374 ls []) := by
  obtain ⟨hx, hb, hr, hml, hown, hts, hX, hbl, hlocks, hb0, hK⟩ := X
  have hbA : ¬ zA b bs := by show ¬ b ≤ bs; omega
  intro M H locs ls h1 h2 x3 hf hP hS hl
  unfold fL_c374 at hf
  refine lv_aload_n hx hb dL_law_374 rfl (lv_at hl 1 rfl) ?_
  obtain ⟨u375, t375, hf⟩ := zb hf
  obtain ⟨r375, e375, hf⟩ := zb hf
  refine zc_i hS (va_runV (As := []) (rest := []) ⟨hx, hb, hml, hown, hts⟩ (k_X8_removeException l D cy b M h1  r375 e375) (cwV 0 hts gL_law_X8_removeException rfl rfl rfl (by decide +kernel) ⟨Nat.le_of_ble_eq_true rfl, Nat.le_of_ble_eq_true rfl⟩) (zp_V _ hK hP t375 (T := TX8) (N := 7) rfl (by decide)) rfl rfl hl.1 rfl (lv_room (Nat.le_of_ble_eq_true rfl)) dL_law_375 ⟨Nat.le_of_ble_eq_true rfl, Nat.le_of_ble_eq_true rfl⟩) (fun H locs hP hS => ?_)
  refine lv_aload_n hx hb dL_law_378 rfl (lv_at hl 2 rfl) ?_
  obtain ⟨u379, t379, hf⟩ := zb hf
  obtain ⟨r379, e379, hf⟩ := zb hf
  refine zc_i hS (va_runV (As := []) (rest := [.int r375.1]) ⟨hx, hb, hml, hown, hts⟩ (k_X9_removeException l D cy b r375.2 h2  r379 e379) (cwV 0 hts gL_law_X9_removeException rfl rfl rfl (by decide +kernel) ⟨Nat.le_of_ble_eq_true rfl, Nat.le_of_ble_eq_true rfl⟩) (zp_V _ hK hP t379 (T := TX9) (N := 54) rfl (by decide)) rfl rfl hl.1 rfl (lv_room (Nat.le_of_ble_eq_true rfl)) dL_law_379 ⟨Nat.le_of_ble_eq_true rfl, Nat.le_of_ble_eq_true rfl⟩) (fun H locs hP hS => ?_)
  refine lv_icmp_eq (tgt := 794) hx hb dL_law_382 (by decide) (fun c382 => ?_) (fun c382 => ?_)
  · have hf := (if_pos c382).symm.trans hf
    exact K794 _ _ _ _ _ _ _ hf hP hS (lv_sub hl [0, 1, 2, 3] rfl)
  · have hf := (if_neg c382).symm.trans hf
    refine lv_iconst (v := (0 : Int32)) hx hb dL_law_385 (by decide) ?_
    exact absurd h1e (by cases hf; show ¬ (0 : Int32) = 1; decide)
set_option maxHeartbeats 4000000 in
set_option maxRecDepth 100000 in
theorem law_c387 {p : Program} {e : Env} {s : State} {m : MethodId} {below : List Frame} {meth : Method} {c : Code} (l : Launch) {D : va_G} {cy : Nat → ClassId} {b bs L : Nat} {xs : Nat → Int32} {rr : Int32 × Mem} (X : zLx D cy b p s m meth c bs L xs) (h1e : rr.1 = 1) (k794 : Mem → Nat → Nat → Int32 → Option (Int32 × Mem)) (K794 : ∀ (M : Mem) (H : Heap) (locs : List Loc) (ls : Array Slot) (h1 : Nat) (h2 : Nat) (x3 : Int32), k794 M h1 h2 x3 = some rr → zH D cy b M H → va_S (zA b) s.heap H locs → lv_has ls 4 [(0, .ref bs), (1, .ref (b + h1)), (2, .ref (b + h2)), (3, .int x3)] → W p l e room_1 s m #[Value.ref bs] below meth c H locs 600000 7302250 (lw_Z below #[Value.ref bs] s) (F0 m 794 ls [])) : ∀ (M : Mem) (H : Heap) (locs : List Loc) (ls : Array Slot) (h1 : Nat) (h2 : Nat) (x3 : Int32), fL_c387 xs L k794 M h1 h2 x3 = some rr → zH D cy b M H → va_S (zA b) s.heap H locs → lv_has ls 4 [(0, .ref bs), (1, .ref (b + h1)), (2, .ref (b + h2)), (3, .int x3)] → W p l e room_1 s m #[Value.ref bs] below meth c H locs 600000 7302250 (lw_Z below #[Value.ref bs] s) (F0 m 387 ls []) := by
  obtain ⟨hx, hb, hr, hml, hown, hts, hX, hbl, hlocks, hb0, hK⟩ := X
  have hbA : ¬ zA b bs := by show ¬ b ≤ bs; omega
  intro M H locs ls h1 h2 x3 hf hP hS hl
  unfold fL_c387 at hf
  refine lv_aload_n hx hb dL_law_387 rfl (lv_at hl 1 rfl) ?_
  refine lv_aload_n hx hb dL_law_388 rfl (lv_at hl 0 rfl) ?_
  refine lv_iload_n hx hb dL_law_389 rfl (lv_at hl 3 rfl) ?_
  refine lv_iconst (v := (1 : Int32)) hx hb dL_law_390 (by decide) ?_
  refine lv_iadd hx hb dL_law_391 ?_
  obtain ⟨v392, e392, hf⟩ := zb hf
  obtain ⟨i392, j392⟩ := zxs_s e392
  refine va_sld hx hb hX hbl hbA hS i392 dL_law_392 ?_
  refine zt j392 ?_
  refine lv_aload_n hx hb dL_law_393 rfl (lv_at hl 0 rfl) ?_
  refine lv_iload_n hx hb dL_law_394 rfl (lv_at hl 3 rfl) ?_
  refine lv_iconst (v := (2 : Int32)) hx hb dL_law_395 (by decide) ?_
  refine lv_iadd hx hb dL_law_396 ?_
  obtain ⟨v397, e397, hf⟩ := zb hf
  obtain ⟨i397, j397⟩ := zxs_s e397
  refine va_sld hx hb hX hbl hbA hS i397 dL_law_397 ?_
  refine zt j397 ?_
  refine lv_i2c hx hb dL_law_398 rfl ?_
  obtain ⟨u399, t399, hf⟩ := zb hf
  obtain ⟨r399, e399, hf⟩ := zb hf
  refine zc_i hS (va_runV (As := [.int v392, .int ((v397.toUInt32 % 65536).toInt32)]) (rest := []) ⟨hx, hb, hml, hown, hts⟩ (k_X8_insert l D cy b M h1 v392 ((v397.toUInt32 % 65536).toInt32) r399 e399) (cwV 2 hts gL_law_X8_insert rfl rfl rfl (by decide +kernel) ⟨Nat.le_of_ble_eq_true rfl, Nat.le_of_ble_eq_true rfl⟩) (zp_V _ hK hP t399 (T := TX8) (N := 7) rfl (by decide)) rfl rfl hl.1 rfl (lv_room (Nat.le_of_ble_eq_true rfl)) dL_law_399 ⟨Nat.le_of_ble_eq_true rfl, Nat.le_of_ble_eq_true rfl⟩) (fun H locs hP hS => ?_)
  refine lv_aload_n hx hb dL_law_402 rfl (lv_at hl 2 rfl) ?_
  refine lv_aload_n hx hb dL_law_403 rfl (lv_at hl 0 rfl) ?_
  refine lv_iload_n hx hb dL_law_404 rfl (lv_at hl 3 rfl) ?_
  refine lv_iconst (v := (1 : Int32)) hx hb dL_law_405 (by decide) ?_
  refine lv_iadd hx hb dL_law_406 ?_
  obtain ⟨v407, e407, hf⟩ := zb hf
  obtain ⟨i407, j407⟩ := zxs_s e407
  refine va_sld hx hb hX hbl hbA hS i407 dL_law_407 ?_
  refine zt j407 ?_
  refine lv_aload_n hx hb dL_law_408 rfl (lv_at hl 0 rfl) ?_
  refine lv_iload_n hx hb dL_law_409 rfl (lv_at hl 3 rfl) ?_
  refine lv_iconst (v := (2 : Int32)) hx hb dL_law_410 (by decide) ?_
  refine lv_iadd hx hb dL_law_411 ?_
  obtain ⟨v412, e412, hf⟩ := zb hf
  obtain ⟨i412, j412⟩ := zxs_s e412
  refine va_sld hx hb hX hbl hbA hS i412 dL_law_412 ?_
  refine zt j412 ?_
  refine lv_i2c hx hb dL_law_413 rfl ?_
  obtain ⟨u414, t414, hf⟩ := zb hf
  obtain ⟨r414, e414, hf⟩ := zb hf
  refine zc_i hS (va_runV (As := [.int v407, .int ((v412.toUInt32 % 65536).toInt32)]) (rest := [.int r399.1]) ⟨hx, hb, hml, hown, hts⟩ (k_X9_insert l D cy b r399.2 h2 v407 ((v412.toUInt32 % 65536).toInt32) r414 e414) (cwV 2 hts gL_law_X9_insert rfl rfl rfl (by decide +kernel) ⟨Nat.le_of_ble_eq_true rfl, Nat.le_of_ble_eq_true rfl⟩) (zp_V _ hK hP t414 (T := TX9) (N := 54) rfl (by decide)) rfl rfl hl.1 rfl (lv_room (Nat.le_of_ble_eq_true rfl)) dL_law_414 ⟨Nat.le_of_ble_eq_true rfl, Nat.le_of_ble_eq_true rfl⟩) (fun H locs hP hS => ?_)
  refine lv_icmp_eq (tgt := 794) hx hb dL_law_417 (by decide) (fun c417 => ?_) (fun c417 => ?_)
  · have hf := (if_pos c417).symm.trans hf
    exact K794 _ _ _ _ _ _ _ hf hP hS (lv_sub hl [0, 1, 2, 3] rfl)
  · have hf := (if_neg c417).symm.trans hf
    refine lv_iconst (v := (0 : Int32)) hx hb dL_law_420 (by decide) ?_
    exact absurd h1e (by cases hf; show ¬ (0 : Int32) = 1; decide)
set_option maxHeartbeats 4000000 in
set_option maxRecDepth 100000 in
theorem law_c422 {p : Program} {e : Env} {s : State} {m : MethodId} {below : List Frame} {meth : Method} {c : Code} (l : Launch) {D : va_G} {cy : Nat → ClassId} {b bs L : Nat} {xs : Nat → Int32} {rr : Int32 × Mem} (X : zLx D cy b p s m meth c bs L xs) (h1e : rr.1 = 1) (k794 : Mem → Nat → Nat → Int32 → Option (Int32 × Mem)) (K794 : ∀ (M : Mem) (H : Heap) (locs : List Loc) (ls : Array Slot) (h1 : Nat) (h2 : Nat) (x3 : Int32), k794 M h1 h2 x3 = some rr → zH D cy b M H → va_S (zA b) s.heap H locs → lv_has ls 4 [(0, .ref bs), (1, .ref (b + h1)), (2, .ref (b + h2)), (3, .int x3)] → W p l e room_1 s m #[Value.ref bs] below meth c H locs 600000 7302250 (lw_Z below #[Value.ref bs] s) (F0 m 794 ls [])) : ∀ (M : Mem) (H : Heap) (locs : List Loc) (ls : Array Slot) (h1 : Nat) (h2 : Nat) (x3 : Int32), fL_c422 xs L k794 M h1 h2 x3 = some rr → zH D cy b M H → va_S (zA b) s.heap H locs → lv_has ls 4 [(0, .ref bs), (1, .ref (b + h1)), (2, .ref (b + h2)), (3, .int x3)] → W p l e room_1 s m #[Value.ref bs] below meth c H locs 600000 7302250 (lw_Z below #[Value.ref bs] s) (F0 m 422 ls []) := by
  obtain ⟨hx, hb, hr, hml, hown, hts, hX, hbl, hlocks, hb0, hK⟩ := X
  have hbA : ¬ zA b bs := by show ¬ b ≤ bs; omega
  intro M H locs ls h1 h2 x3 hf hP hS hl
  unfold fL_c422 at hf
  refine lv_aload_n hx hb dL_law_422 rfl (lv_at hl 1 rfl) ?_
  refine lv_aload_n hx hb dL_law_423 rfl (lv_at hl 0 rfl) ?_
  refine lv_iload_n hx hb dL_law_424 rfl (lv_at hl 3 rfl) ?_
  refine lv_iconst (v := (1 : Int32)) hx hb dL_law_425 (by decide) ?_
  refine lv_iadd hx hb dL_law_426 ?_
  obtain ⟨v427, e427, hf⟩ := zb hf
  obtain ⟨i427, j427⟩ := zxs_s e427
  refine va_sld hx hb hX hbl hbA hS i427 dL_law_427 ?_
  refine zt j427 ?_
  refine lv_aload_n hx hb dL_law_428 rfl (lv_at hl 0 rfl) ?_
  refine lv_iload_n hx hb dL_law_429 rfl (lv_at hl 3 rfl) ?_
  refine lv_iconst (v := (2 : Int32)) hx hb dL_law_430 (by decide) ?_
  refine lv_iadd hx hb dL_law_431 ?_
  obtain ⟨v432, e432, hf⟩ := zb hf
  obtain ⟨i432, j432⟩ := zxs_s e432
  refine va_sld hx hb hX hbl hbA hS i432 dL_law_432 ?_
  refine zt j432 ?_
  obtain ⟨u433, t433, hf⟩ := zb hf
  obtain ⟨r433, e433, hf⟩ := zb hf
  refine zc_i hS (va_runV (As := [.int v427, .int v432]) (rest := []) ⟨hx, hb, hml, hown, hts⟩ (k_X8_erase l D cy b M h1 v427 v432 r433 e433) (cwV 2 hts gL_law_X8_erase rfl rfl rfl (by decide +kernel) ⟨Nat.le_of_ble_eq_true rfl, Nat.le_of_ble_eq_true rfl⟩) (zp_V _ hK hP t433 (T := TX8) (N := 7) rfl (by decide)) rfl rfl hl.1 rfl (lv_room (Nat.le_of_ble_eq_true rfl)) dL_law_433 ⟨Nat.le_of_ble_eq_true rfl, Nat.le_of_ble_eq_true rfl⟩) (fun H locs hP hS => ?_)
  refine lv_aload_n hx hb dL_law_436 rfl (lv_at hl 2 rfl) ?_
  refine lv_aload_n hx hb dL_law_437 rfl (lv_at hl 0 rfl) ?_
  refine lv_iload_n hx hb dL_law_438 rfl (lv_at hl 3 rfl) ?_
  refine lv_iconst (v := (1 : Int32)) hx hb dL_law_439 (by decide) ?_
  refine lv_iadd hx hb dL_law_440 ?_
  obtain ⟨v441, e441, hf⟩ := zb hf
  obtain ⟨i441, j441⟩ := zxs_s e441
  refine va_sld hx hb hX hbl hbA hS i441 dL_law_441 ?_
  refine zt j441 ?_
  refine lv_aload_n hx hb dL_law_442 rfl (lv_at hl 0 rfl) ?_
  refine lv_iload_n hx hb dL_law_443 rfl (lv_at hl 3 rfl) ?_
  refine lv_iconst (v := (2 : Int32)) hx hb dL_law_444 (by decide) ?_
  refine lv_iadd hx hb dL_law_445 ?_
  obtain ⟨v446, e446, hf⟩ := zb hf
  obtain ⟨i446, j446⟩ := zxs_s e446
  refine va_sld hx hb hX hbl hbA hS i446 dL_law_446 ?_
  refine zt j446 ?_
  obtain ⟨u447, t447, hf⟩ := zb hf
  obtain ⟨r447, e447, hf⟩ := zb hf
  refine zc_i hS (va_runV (As := [.int v441, .int v446]) (rest := [.int r433.1]) ⟨hx, hb, hml, hown, hts⟩ (k_X9_erase l D cy b r433.2 h2 v441 v446 r447 e447) (cwV 2 hts gL_law_X9_erase rfl rfl rfl (by decide +kernel) ⟨Nat.le_of_ble_eq_true rfl, Nat.le_of_ble_eq_true rfl⟩) (zp_V _ hK hP t447 (T := TX9) (N := 54) rfl (by decide)) rfl rfl hl.1 rfl (lv_room (Nat.le_of_ble_eq_true rfl)) dL_law_447 ⟨Nat.le_of_ble_eq_true rfl, Nat.le_of_ble_eq_true rfl⟩) (fun H locs hP hS => ?_)
  refine lv_icmp_eq (tgt := 794) hx hb dL_law_450 (by decide) (fun c450 => ?_) (fun c450 => ?_)
  · have hf := (if_pos c450).symm.trans hf
    exact K794 _ _ _ _ _ _ _ hf hP hS (lv_sub hl [0, 1, 2, 3] rfl)
  · have hf := (if_neg c450).symm.trans hf
    refine lv_iconst (v := (0 : Int32)) hx hb dL_law_453 (by decide) ?_
    exact absurd h1e (by cases hf; show ¬ (0 : Int32) = 1; decide)
set_option maxHeartbeats 4000000 in
set_option maxRecDepth 100000 in
theorem law_c455 {p : Program} {e : Env} {s : State} {m : MethodId} {below : List Frame} {meth : Method} {c : Code} (l : Launch) {D : va_G} {cy : Nat → ClassId} {b bs L : Nat} {xs : Nat → Int32} {rr : Int32 × Mem} (X : zLx D cy b p s m meth c bs L xs) (h1e : rr.1 = 1) (k794 : Mem → Nat → Nat → Int32 → Option (Int32 × Mem)) (K794 : ∀ (M : Mem) (H : Heap) (locs : List Loc) (ls : Array Slot) (h1 : Nat) (h2 : Nat) (x3 : Int32), k794 M h1 h2 x3 = some rr → zH D cy b M H → va_S (zA b) s.heap H locs → lv_has ls 4 [(0, .ref bs), (1, .ref (b + h1)), (2, .ref (b + h2)), (3, .int x3)] → W p l e room_1 s m #[Value.ref bs] below meth c H locs 600000 7302250 (lw_Z below #[Value.ref bs] s) (F0 m 794 ls [])) : ∀ (M : Mem) (H : Heap) (locs : List Loc) (ls : Array Slot) (h1 : Nat) (h2 : Nat) (x3 : Int32), fL_c455 xs L k794 M h1 h2 x3 = some rr → zH D cy b M H → va_S (zA b) s.heap H locs → lv_has ls 4 [(0, .ref bs), (1, .ref (b + h1)), (2, .ref (b + h2)), (3, .int x3)] → W p l e room_1 s m #[Value.ref bs] below meth c H locs 600000 7302250 (lw_Z below #[Value.ref bs] s) (F0 m 455 ls []) := by
  obtain ⟨hx, hb, hr, hml, hown, hts, hX, hbl, hlocks, hb0, hK⟩ := X
  have hbA : ¬ zA b bs := by show ¬ b ≤ bs; omega
  intro M H locs ls h1 h2 x3 hf hP hS hl
  unfold fL_c455 at hf
  refine lv_aload_n hx hb dL_law_455 rfl (lv_at hl 1 rfl) ?_
  obtain ⟨u456, t456, hf⟩ := zb hf
  obtain ⟨r456, e456, hf⟩ := zb hf
  refine zc_i hS (va_runV (As := []) (rest := []) ⟨hx, hb, hml, hown, hts⟩ (k_X8_undo l D cy b M h1  r456 e456) (cwV 0 hts gL_law_X8_undo rfl rfl rfl (by decide +kernel) ⟨Nat.le_of_ble_eq_true rfl, Nat.le_of_ble_eq_true rfl⟩) (zp_V _ hK hP t456 (T := TX8) (N := 7) rfl (by decide)) rfl rfl hl.1 rfl (lv_room (Nat.le_of_ble_eq_true rfl)) dL_law_456 ⟨Nat.le_of_ble_eq_true rfl, Nat.le_of_ble_eq_true rfl⟩) (fun H locs hP hS => ?_)
  refine lv_aload_n hx hb dL_law_459 rfl (lv_at hl 2 rfl) ?_
  obtain ⟨u460, t460, hf⟩ := zb hf
  obtain ⟨r460, e460, hf⟩ := zb hf
  refine zc_i hS (va_runV (As := []) (rest := [.int r456.1]) ⟨hx, hb, hml, hown, hts⟩ (k_X9_undo l D cy b r456.2 h2  r460 e460) (cwV 0 hts gL_law_X9_undo rfl rfl rfl (by decide +kernel) ⟨Nat.le_of_ble_eq_true rfl, Nat.le_of_ble_eq_true rfl⟩) (zp_V _ hK hP t460 (T := TX9) (N := 54) rfl (by decide)) rfl rfl hl.1 rfl (lv_room (Nat.le_of_ble_eq_true rfl)) dL_law_460 ⟨Nat.le_of_ble_eq_true rfl, Nat.le_of_ble_eq_true rfl⟩) (fun H locs hP hS => ?_)
  refine lv_icmp_eq (tgt := 794) hx hb dL_law_463 (by decide) (fun c463 => ?_) (fun c463 => ?_)
  · have hf := (if_pos c463).symm.trans hf
    exact K794 _ _ _ _ _ _ _ hf hP hS (lv_sub hl [0, 1, 2, 3] rfl)
  · have hf := (if_neg c463).symm.trans hf
    refine lv_iconst (v := (0 : Int32)) hx hb dL_law_466 (by decide) ?_
    exact absurd h1e (by cases hf; show ¬ (0 : Int32) = 1; decide)
