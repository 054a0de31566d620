/-! ===== rows for constructors: the counters of new cells go with the memory's ===== -/
section YR
variable {p : Program} {l : Launch} {e : Env} {R : Room} {s : State} {m : MethodId} {args : Array Value} {below : List Frame} {meth : Method} {c : Code} {H : Heap} {locs : List Loc} {Q : State → Prop}
variable {cc : ByteArray} {pc : Nat} {ls : Array Slot} {rest : List Value} {D : va_G} {cy : Nat → ClassId} {b : Nat} {M M' : Mem} {H0 : Heap} {n0 mc : Nat}
abbrev yW (p : Program) (l : Launch) (e : Env) (R : Room) (s : State) (m : MethodId) (args : Array Value) (below : List Frame) (meth : Method) (c : Code) (H : Heap) (locs : List Loc) (n0 : Nat) (M : Mem) (Q : State → Prop) (g : JFrame) : Prop := W p l e R s m args below meth c H locs (M.1 - n0) (3000 * (M.1 - n0)) Q g
def yN (n0 mc : Nat) (M : Mem) : Prop := n0 ≤ M.1 ∧ M.1 ≤ n0 + mc
theorem yN.eq {n0 mc : Nat} {M M' : Mem} (h : yN n0 mc M) (hq : M'.1 = M.1) : yN n0 mc M' := by
  unfold yN at *
  omega
theorem y_begin {g : JFrame} (k : yW p l e R s m args below meth c H locs M.1 M Q g) : W p l e R s m args below meth c H locs 0 0 Q g := W.widen (Nat.zero_le _) (Nat.zero_le _) k
theorem y_same {g : JFrame} (hq : M'.1 = M.1) (k : yW p l e R s m args below meth c H locs n0 M' Q g) : yW p l e R s m args below meth c H locs n0 M Q g := by
  unfold yW at *
  rw [← hq]
  exact k
theorem y_put {ty : FieldType} {own C : String} {T : u_T} {N ci k index a v : Nat} {Ts : List Cond} (hexec : p.tables.exec = Jvm.exec) (hb : c.code = cc) (hts : ∀ w ∈ Ts, w.before args s = true) (hin : ∀ w ∈ u_ws C T N, w ∈ Ts) (ty0 : Nat → FieldType) (hty : ∀ k, k < N → parseFieldDescriptor (T k).2.2.1 = some (ty0 k)) (hnm : ∀ a, a < N → ∀ b, b < N → a ≠ b → (T a).2.1 ≠ (T b).2.1) (hown : s.vm.findClass own = some m.cls) (hK : zKs D cy s) (hP : zH D cy b M H) (hz : H.size = b + M.1) (hS : va_S (zA b) H0 H locs) (hn : yN n0 mc M) (hv : zpR M ci k a v = some M')
    (hc : vwCl[ci]? = some (C, T, N)) (hr : (zisR ci)[k]? = some true) (hci : ci < 10) (hk : k < N) (hlink : (Cond.fieldLink own index (T k).1 (T k).2.1 (T k).2.2.1).before args s = true) (hfin : (T k).2.2.2 = false ∨ ((T k).2.2.2 = true ∧ meth.name = "<init>" ∧ (T k).1 = own)) (hd : parseFieldDescriptor (T k).2.2.1 = some ty) (hnr : narrow ty (.ref (b + v)) = .ref (b + v)) (hfit : fits ty (.ref (b + v)) = true) (hdg : decode cc pc = .ok (.putfield index, 3))
    (kk : ∀ (H1 : Heap) (locs1 : List Loc), zH D cy b M' H1 → H1.size = b + M'.1 → va_S (zA b) H0 H1 locs1 → yN n0 mc M' → yW p l e R s m args below meth c H1 locs1 n0 M' Q (F0 m (pc + 3) ls rest)) : yW p l e R s m args below meth c H locs n0 M Q (F0 m pc ls (.ref (b + v) :: .ref (b + a) :: rest)) := by
  have hq := zpR_n hv
  refine y_same hq ?_
  exact zr_pr hexec hb hts hin ty0 hty hnm hown hK hP hS hv hc hr hci hk hlink hfin hd hnr hfit hdg (fun H1 locs1 h1 h2 h3 => kk H1 locs1 h1 (by rw [h2, hz, hq]) h3 (hn.eq hq))
theorem y_si (hexec : p.tables.exec = Jvm.exec) (hb : c.code = cc) (hK : zKs D cy s) (hP : zH D cy b M H) (hz : H.size = b + M.1) (hS : va_S (zA b) H0 H locs) (hn : yN n0 mc M) {a : Nat} {i v : Int32} (hv : zsI M a i v = some M') (hdg : decode cc pc = .ok (.iastore, 1))
    (kk : ∀ (H1 : Heap) (locs1 : List Loc), zH D cy b M' H1 → H1.size = b + M'.1 → va_S (zA b) H0 H1 locs1 → yN n0 mc M' → yW p l e R s m args below meth c H1 locs1 n0 M' Q (F0 m (pc + 1) ls rest)) : yW p l e R s m args below meth c H locs n0 M Q (F0 m pc ls (.int v :: .int i :: .ref (b + a) :: rest)) := by
  have hq := zsI_n hv
  refine y_same hq ?_
  exact zr_si hexec hb hK hP hS hv hdg (fun H1 locs1 h1 h2 h3 => kk H1 locs1 h1 (by rw [h2, hz, hq]) h3 (hn.eq hq))
theorem y_sa (hexec : p.tables.exec = Jvm.exec) (hb : c.code = cc) (hK : zKs D cy s) (hP : zH D cy b M H) (hz : H.size = b + M.1) (hS : va_S (zA b) H0 H locs) (hn : yN n0 mc M) {a kd ce t0 v : Nat} {r : vw_C} {i : Int32} (hv : zsR M kd ce a i v = some M') (hkd : 13 ≤ kd) (hce : ce < 10) (ht : (ztys cy)[t0]? = some (cy kd, .object r.1)) (hc : vwCl[ce]? = some r) (hdg : decode cc pc = .ok (.aastore, 1))
    (kk : ∀ (H1 : Heap) (locs1 : List Loc), zH D cy b M' H1 → H1.size = b + M'.1 → va_S (zA b) H0 H1 locs1 → yN n0 mc M' → yW p l e R s m args below meth c H1 locs1 n0 M' Q (F0 m (pc + 1) ls rest)) : yW p l e R s m args below meth c H locs n0 M Q (F0 m pc ls (.ref (b + v) :: .int i :: .ref (b + a) :: rest)) := by
  have hq := zsR_n hv
  refine y_same hq ?_
  exact zr_sa hexec hb hK hP hS hv hkd hce ht hc hdg (fun H1 locs1 h1 h2 h3 => kk H1 locs1 h1 (by rw [h2, hz, hq]) h3 (hn.eq hq))
theorem y_grow {g : JFrame} (hn : yN n0 mc M) (hq : M'.1 = M.1 + 1) {k : Nat} (hk : k ≤ 3000) (kk : yW p l e R s m args below meth c H locs n0 M' Q g) : W p l e R s m args below meth c H locs (M.1 - n0 + 1) (3000 * (M.1 - n0) + k) Q g := by
  unfold yN at hn
  exact W.widen (by omega) (by omega) kk
theorem y_no (hexec : p.tables.exec = Jvm.exec) (hb : c.code = cc) {own C : String} {T : u_T} {N ci index : Nat} {Ts : List Cond} (hts : ∀ w ∈ Ts, w.before args s = true) (hin : ∀ w ∈ u_ws C T N, w ∈ Ts) (ty : Nat → FieldType) (hty : ∀ k, k < N → parseFieldDescriptor (T k).2.2.1 = some (ty k)) (hown : s.vm.findClass own = some m.cls) (hcl : (Cond.classLink own index C).before args s = true) (hinst : (Cond.instantiable C N).before args s = true) (hini : (Cond.initialized C).before args s = true)
    (hK : zKs D cy s) (hP : zH D cy b M H) (hz : H.size = b + M.1) (hS : va_S (zA b) H0 H locs) (hn : yN n0 mc M) (hv : zno M ci (n0 + mc) = some M') (hc : vwCl[ci]? = some (C, T, N)) (hci : ci < 10) (hfs : ∀ j, j < N → defaultValue (ty j) = vp_V (zmk b (0, (fun _ _ => 0), (fun _ _ => none)) 0 0 (zisR ci)) j) (hRc : R.cells = mc) (hRs : R.slots = 3000 * mc) (hN : N ≤ 3000) (hdg : decode cc pc = .ok (.new index, 3))
    (kk : ∀ (H1 : Heap), zH D cy b M' H1 → H1.size = b + M'.1 → va_S (zA b) H0 H1 locs → yN n0 mc M' → yW p l e R s m args below meth c H1 locs n0 M' Q (F0 m (pc + 3) ls (.ref (b + M.1) :: rest))) : yW p l e R s m args below meth c H locs n0 M Q (F0 m pc ls rest) := by
  have hn' := hn
  unfold yN at hn'
  exact zr_no hexec hb hts hin ty hty hown hcl hinst hini hK hP hz hS hv hc hci hfs (fun h9 => by rw [hRc]; omega) (fun h9 => by rw [hRs]; omega) hdg (fun H1 h1 h2 h3 h4 h5 => y_grow hn h4 hN (kk H1 h1 h2 h3 (by unfold yN; omega)))
theorem y_na (hexec : p.tables.exec = Jvm.exec) (hb : c.code = cc) {atype : ArrayType} {ty : FieldType} (hty : newarray.typeOf atype = ty) (harr : (Cond.arrayClass ty).before args s = true) {kd t0 : Nat} {n : Int32}
    (hK : zKs D cy s) (hP : zH D cy b M H) (hz : H.size = b + M.1) (hS : va_S (zA b) H0 H locs) (hn : yN n0 mc M) (hv : zna M kd n (n0 + mc) = some M') (ht : (ztys cy)[t0]? = some (cy kd, ty)) (hkd : (kd = 10 ∧ ty = .char) ∨ (kd = 11 ∧ ty = .int) ∨ (kd = 12 ∧ ty = .boolean)) (hLmax : zsL M.1 ≤ 3000) (hRc : R.cells = mc) (hRs : R.slots = 3000 * mc) (hdg : decode cc pc = .ok (.newarray atype, 2))
    (kk : ∀ (H1 : Heap), zH D cy b M' H1 → H1.size = b + M'.1 → va_S (zA b) H0 H1 locs → yN n0 mc M' → yW p l e R s m args below meth c H1 locs n0 M' Q (F0 m (pc + 2) ls (.ref (b + M.1) :: rest))) : yW p l e R s m args below meth c H locs n0 M Q (F0 m pc ls (.int n :: rest)) := by
  have hn' := hn
  unfold yN at hn'
  exact zr_na hexec hb hty harr hK hP hz hS hv ht hkd hLmax (fun h9 => by rw [hRc]; omega) (fun h9 => by rw [hRs]; omega) hdg (fun H1 h1 h2 h3 h4 h5 => y_grow hn h4 (Nat.le_refl _) (kk H1 h1 h2 h3 (by unfold yN; omega)))
theorem y_nq (hexec : p.tables.exec = Jvm.exec) (hb : c.code = cc) {own C : String} {index kd t0 : Nat} {n : Int32} (hown : s.vm.findClass own = some m.cls) (hclink : (Cond.classLink own index C).before args s = true) (hao : C ∈ zao)
    (hK : zKs D cy s) (hP : zH D cy b M H) (hz : H.size = b + M.1) (hS : va_S (zA b) H0 H locs) (hn : yN n0 mc M) (hv : zna M kd n (n0 + mc) = some M') (ht : (ztys cy)[t0]? = some (cy kd, .object C)) (hkd : 13 ≤ kd) (hLmax : zsL M.1 ≤ 3000) (hRc : R.cells = mc) (hRs : R.slots = 3000 * mc) (hdg : decode cc pc = .ok (.anewarray index, 3))
    (kk : ∀ (H1 : Heap), zH D cy b M' H1 → H1.size = b + M'.1 → va_S (zA b) H0 H1 locs → yN n0 mc M' → yW p l e R s m args below meth c H1 locs n0 M' Q (F0 m (pc + 3) ls (.ref (b + M.1) :: rest))) : yW p l e R s m args below meth c H locs n0 M Q (F0 m pc ls (.int n :: rest)) := by
  have hn' := hn
  unfold yN at hn'
  exact zr_nq hexec hb hown hclink hao hK hP hz hS hv ht hkd hLmax (fun h9 => by rw [hRc]; omega) (fun h9 => by rw [hRs]; omega) hdg (fun H1 h1 h2 h3 h4 h5 => y_grow hn h4 (Nat.le_refl _) (kk H1 h1 h2 h3 (by unfold yN; omega)))
/-- a constructor's call of a constructor -/
theorem y_call {k : Nat} {a : Array Value} {st0 : List Value} {u : Unit} (hS : va_S (zA b) H0 H locs) (hn : yN n0 mc M) (hg : zcg M M' k (n0 + mc) = some u) (hRc : R.cells = mc) (hRs : R.slots = 3000 * mc)
    (hr : M.1 - n0 + k ≤ R.cells ∧ 3000 * (M.1 - n0) + 3000 * k ≤ R.slots → va_Run p l e R s m args below meth c H locs (M.1 - n0) (3000 * (M.1 - n0)) k (3000 * k) (F0 m pc ls st0) rest (zQn D cy b M' a) (zA b))
    (kk : ∀ (H1 : Heap) (locs1 : List Loc), zH D cy b M' H1 → H1.size = b + M'.1 → va_S (zA b) H0 H1 locs1 → yN n0 mc M' → yW p l e R s m args below meth c H1 locs1 n0 M' Q (F0 m (pc + 3) ls rest)) : yW p l e R s m args below meth c H locs n0 M Q (F0 m pc ls st0) := by
  obtain ⟨h1, h2⟩ := zcg_s hg
  have hn' := hn
  unfold yN at hn'
  refine zc_n hS (hr (by rw [hRc, hRs]; omega)) (fun H1 locs1 q1 q2 q3 => ?_)
  exact W.widen (by omega) (by omega) (kk H1 locs1 q1 q2 q3 (by unfold yN; omega))
theorem y_le (hn : yN n0 mc M) (hRc : R.cells = mc) (hRs : R.slots = 3000 * mc) : M.1 - n0 + 0 ≤ R.cells ∧ 3000 * (M.1 - n0) + 0 ≤ R.slots := by
  unfold yN at hn
  rw [hRc, hRs]
  omega
theorem y_le1 (hn : yN n0 mc M) (hRc : R.cells = mc) : M.1 - n0 ≤ R.cells := by
  unfold yN at hn
  rw [hRc]
  omega
theorem y_le2 (hn : yN n0 mc M) (hRs : R.slots = 3000 * mc) : 3000 * (M.1 - n0) ≤ R.slots := by
  unfold yN at hn
  rw [hRs]
  omega
theorem y_ret (hexec : p.tables.exec = Jvm.exec) (hb : c.code = cc) (hr : meth.sig.returnType = none) (hlocks : meth.locks = false) {rr : Mem} (hf : some M = some rr) (hP : zH D cy b M H) (hz : H.size = b + M.1) (hS : va_S (zA b) s.heap H locs) (hn : yN n0 mc M) (hdg : decode cc pc = .ok (.return_, 1)) : yW p l e R s m args below meth c H locs n0 M (MQ below (zQn D cy b rr) args s mc (3000 * mc) (zA b)) (F0 m pc ls []) := by
  unfold yN at hn
  exact W.widen (k := mc) (n := 3000 * mc) (by omega) (by omega) (zret_n hexec hb hr hlocks hf hP hz hS hdg)
end YR
theorem zsL_max (a : Nat) : zsL a ≤ 3000 := by
  unfold zsL
  rw [List.getD_eq_getElem?_getD]
  cases h : zsLL[a]? with
  | none => exact Nat.zero_le _
  | some v =>
    have hm : v ∈ zsLL := List.mem_of_getElem? h
    exact (by decide +kernel : ∀ v ∈ zsLL, v ≤ 3000) v hm
